/-! what is thrown is caught, in a method with an exception table whose entries' classes may be cold -/
theorem wc_yes {Q : Handler → Pre} {E : CtlPost} {e : Env} {d : Bool} {acts : List Action} {S : State} {f : JFrame} {a : Addr} {x : ExceptionTableEntry} {t : List ExceptionTableEntry} {c2 : ClassId} {cell : Cell} (hx : covers x f.pc = true) (h0 : x.catchType ≠ 0)
    (hl : S.vm.ClassLinks e.platform f.method.cls x.catchType c2) (hcell : S.heap[a]? = some cell) (hv : cell.vm = .none) {k1 k2 : Class} (hk1 : S.vm.classes[cell.cls]? = some k1) (hk2 : S.vm.classes[c2]? = some k2) (hf : S.vm.assignable cell.cls c2 = true) :
    wp (findHandler.go f a (x :: t)) Q E e d acts S ↔ Q (.found x.handlerPc) d acts (S.setVm (S.vm.noted f.method.cls x.catchType (.cls c2))) := by
  simp only [covers] at hx
  obtain ⟨ha, ht⟩ := (resolveClass_links e.toSetting hl).op (op := VmOp.resolveClass f.method.cls x.catchType) rfl
  have hal := (Vm.Alike.refl S.vm).noted f.method.cls x.catchType (.cls c2)
  obtain ⟨k1', e1, -⟩ := hal.2.2 _ _ hk1
  obtain ⟨k2', e2, -⟩ := hal.2.2 _ _ hk2
  have hf' : (S.vm.noted f.method.cls x.catchType (.cls c2)).assignable cell.cls c2 = true := by rw [hal.assignable]; exact hf
  simp [findHandler.go, hx, h0, ha, ht, hcell, hv, e1, e2, hf', VmOp.dirties, VmOp.acts]
theorem wc_no {Q : Handler → Pre} {E : CtlPost} {e : Env} {d : Bool} {acts : List Action} {S : State} {f : JFrame} {a : Addr} {x : ExceptionTableEntry} {t : List ExceptionTableEntry} {c2 : ClassId} {cell : Cell} (hx : covers x f.pc = true) (h0 : x.catchType ≠ 0)
    (hl : S.vm.ClassLinks e.platform f.method.cls x.catchType c2) (hcell : S.heap[a]? = some cell) (hv : cell.vm = .none) {k1 k2 : Class} (hk1 : S.vm.classes[cell.cls]? = some k1) (hk2 : S.vm.classes[c2]? = some k2) (hf : S.vm.assignable cell.cls c2 = false) :
    wp (findHandler.go f a (x :: t)) Q E e d acts S ↔ wp (findHandler.go f a t) Q E e d acts (S.setVm (S.vm.noted f.method.cls x.catchType (.cls c2))) := by
  simp only [covers] at hx
  obtain ⟨ha, ht⟩ := (resolveClass_links e.toSetting hl).op (op := VmOp.resolveClass f.method.cls x.catchType) rfl
  have hal := (Vm.Alike.refl S.vm).noted f.method.cls x.catchType (.cls c2)
  obtain ⟨k1', e1, -⟩ := hal.2.2 _ _ hk1
  obtain ⟨k2', e2, -⟩ := hal.2.2 _ _ hk2
  have hf' : (S.vm.noted f.method.cls x.catchType (.cls c2)).assignable cell.cls c2 = false := by rw [hal.assignable]; exact hf
  simp [findHandler.go, hx, h0, ha, ht, hcell, hv, e1, e2, hf', VmOp.dirties, VmOp.acts]
/-- an entry that is passed by -/
def wc_by (s : State) (args : Array Value) (own : String) (pc : Nat) (cx : ClassId) (q : ExceptionTableEntry × String) : Prop :=
  covers q.1 pc = true ∧ q.1.catchType ≠ 0 ∧ (Cond.classLink own q.1.catchType q.2).before args s = true ∧ ∀ c2, s.vm.findClass q.2 = some c2 → s.vm.assignable cx c2 = false
theorem wc_find {e : Env} {s : State} {args : Array Value} {own nm : String} {f : JFrame} {a : Addr} {cell : Cell} {kx : Class} (hpl : e.platform.magicAccessors = ({} : Platform).magicAccessors) (hown : s.vm.findClass own = some f.method.cls) (hv : cell.vm = .none) (hkx : s.vm.classes[cell.cls]? = some kx)
    {x : ExceptionTableEntry} (rest : List ExceptionTableEntry) (hx : covers x f.pc = true) (h0 : x.catchType ≠ 0) (hlk : (Cond.classLink own x.catchType nm).before args s = true) (hfit : ∀ c2, s.vm.findClass nm = some c2 → s.vm.assignable cell.cls c2 = true) :
    ∀ (t : List (ExceptionTableEntry × String)) (S : State), s.WarmedH S.vm → S.heap[a]? = some cell → (∀ q ∈ t, wc_by s args own f.pc cell.cls q) →
      ∃ vm', s.WarmedH vm' ∧ ∀ (Q : Handler → Pre) (E : CtlPost) (d : Bool) (acts : List Action), wp (findHandler.go f a (t.map (fun q => q.1) ++ x :: rest)) Q E e d acts S ↔ Q (.found x.handlerPc) d acts (S.setVm vm')
  | [], S, hW, hcell, _ => by
    obtain ⟨c2, hc2, hcl⟩ := Cond.classLink_spec hown hlk e.platform hpl
    obtain ⟨dk, _, _, kt, hd, _, _, _, _, hkt, _, hop⟩ := hcl.here
    obtain ⟨k1, e1, -⟩ := hW.alike.2.2 _ _ hkx
    obtain ⟨k2, e2, -⟩ := hW.alike.2.2 _ _ hkt
    exact ⟨_, hW.noted hd hop (State.rightAt_cls hcl), fun Q E d acts => wc_yes hx h0 (hW.classLinks hcl) hcell hv e1 e2 (by rw [hW.alike.assignable]; exact hfit c2 hc2)⟩
  | q :: t, S, hW, hcell, hq => by
    obtain ⟨b1, b2, b3, b4⟩ := hq q List.mem_cons_self
    obtain ⟨c2, hc2, hcl⟩ := Cond.classLink_spec hown b3 e.platform hpl
    obtain ⟨dk, _, _, kt, hd, _, _, _, _, hkt, _, hop⟩ := hcl.here
    obtain ⟨k1, e1, -⟩ := hW.alike.2.2 _ _ hkx
    obtain ⟨k2, e2, -⟩ := hW.alike.2.2 _ _ hkt
    have hW2 := hW.noted hd hop (State.rightAt_cls hcl)
    obtain ⟨vm', w1, w2⟩ := wc_find hpl hown hv hkx rest hx h0 hlk hfit t (S.setVm (S.vm.noted f.method.cls q.1.catchType (.cls c2))) hW2 hcell (fun z hz => hq z (List.mem_cons_of_mem _ hz))
    refine ⟨vm', w1, fun Q E d acts => ?_⟩
    rw [List.map_cons, List.cons_append, wc_no b1 b2 (hW.classLinks hcl) hcell hv e1 e2 (by rw [hW.alike.assignable]; exact b4 c2 hc2)]
    exact w2 Q E d acts
theorem wc_steps {tb : Tables} {e : Env} {s target : State} {g : JFrame} {c : Code} {below : List Frame} {a : Addr} {pc : Nat} {vm' : Vm} (h : At s g.method c below)
    (hf : ∀ (Q : Handler → Pre) (E : CtlPost) (d : Bool) (acts : List Action), wp (findHandler g a) Q E e d acts ((s.setTop g).pushFrame (.throwing a)) ↔ Q (.found pc) d acts (((s.setTop g).pushFrame (.throwing a)).setVm vm'))
    (hrest : Steps tb e below ((s.setVm vm').setTop { g with pc := pc, stack := [.ref a] }) target) : Steps tb e below ((s.setTop g).pushFrame (.throwing a)) target := by
  obtain ⟨hgo, hw⟩ := h.throwing a
  refine Steps.head hgo hw ?_
  obtain ⟨g0, hg⟩ := Option.isSome_iff_exists.mp h.top
  obtain ⟨r, hr⟩ := State.topJava?_eq_some.mp hg
  have hr2 : (s.setVm vm').frames = .java g0 :: r := hr
  rw [State.setTop_of_frames _ hr2] at hrest
  have key : (stepThrowing e ((s.setTop g).pushFrame (.throwing a)) a (.java g :: r)).1 = (((s.setTop g).pushFrame (.throwing a)).setVm vm').setFrames (.java { g with pc := pc, stack := [.ref a] } :: r) := by
    simp only [stepThrowing, searchFrame, vmDo]
    generalize hgo2 : Sem.go _ e false [] ((s.setTop g).pushFrame (.throwing a)) = res
    obtain ⟨as, rfl, -⟩ := Sem.eq_ok_of hgo2 (a := Handler.found pc) (s' := ((s.setTop g).pushFrame (.throwing a)).setVm vm') (acts' := []) (by simp [hf _ _ _ _])
    rfl
  rw [stepThread_throwing (frames_entered h.top _), hr, List.tail_cons, key]
  have e1 : (((s.setTop g).pushFrame (.throwing a)).setVm vm').setFrames (.java { g with pc := pc, stack := [.ref a] } :: r) = (s.setVm vm').setFrames (.java { g with pc := pc, stack := [.ref a] } :: r) := by
    rw [State.pushFrame, State.setTop_of_frames _ hr]
    have h1 : ∀ (u : State) (F : List Frame), (u.setFrames F).setVm vm' = (u.setVm vm').setFrames F := fun _ _ => rfl
    rw [h1, h1, State.setFrames_setFrames, State.setFrames_setFrames]
  rw [e1]
  exact hrest
section WCC
variable {X : ww_X} {cc : ByteArray} {own : String} {cs ss pc : Nat} {L : List (Nat × Value)} {st : List Value} {ws : va_W}
theorem wc_catch (O : ww_ok X cc own) {ex nm : String} {n6 tgt : Nat} 
    (t : List (ExceptionTableEntry × String)) (x : ExceptionTableEntry) (rest : List ExceptionTableEntry) (hsp : (ww_c X).exceptionTable.toList = t.map (fun q => q.1) ++ x :: rest) (hins : Cond.instantiable ex n6 ∈ lw_good)
    (hby : ∀ q ∈ t, covers q.1 pc = true ∧ q.1.catchType ≠ 0 ∧ Cond.classLink own q.1.catchType q.2 ∈ lw_good ∧ ∀ c1 c2, (ww_s X).vm.findClass ex = some c1 → (ww_s X).vm.findClass q.2 = some c2 → (ww_s X).vm.assignable c1 c2 = false)
    (hx : covers x pc = true) (h0 : x.catchType ≠ 0) (hlk : Cond.classLink own x.catchType ex ∈ lw_good) (hca : Cond.castable ex ex ∈ cx_nw) (htg : x.handlerPc = tgt)
    (k : ∀ a : Nat, ww_at X cs ss tgt L [.ref a] ws) : wt_at X cs ss pc L ex ws := by
  intro H ls locs st a cell hl hP hD hS hxa hc hv hf T hT XX
  subst htg
  have hpl : (ww_e X).platform.magicAccessors = ({} : Platform).magicAccessors := by rw [XX.admits.platform]
  obtain ⟨c1, kx, hc1, hkx, -⟩ := Cond.instantiable_spec (O.t _ hins)
  cases hf.symm.trans hc1
  have hcast : (Cond.castable ex ex).before (ww_a X) (ww_s X) = true := va_Nw.use rfl (O.2.2.2.2.2.1.2.1 _ hca)
  obtain ⟨d1, d2, w1, w2, w3⟩ := Cond.castable_spec hcast
  cases hf.symm.trans w1
  have hfit : ∀ c2, (ww_s X).vm.findClass ex = some c2 → (ww_s X).vm.assignable cell.cls c2 = true := by
    intro c2 h2
    cases w2.symm.trans h2
    exact w3
  obtain ⟨vm', hW', hq⟩ := wc_find (e := ww_e X) (s := ww_s X) (args := ww_a X) (own := own) (nm := ex) (f := F0 (ww_m X) pc ls st) (a := a) hpl O.o hv hkx rest hx h0 (O.t _ hlk) hfit t ((T.setTop (F0 (ww_m X) pc ls st)).pushFrame (.throwing a)) XX.warmed (by show T.heap[a]? = _; rw [hT]; exact hc)
    (fun q hq => ⟨(hby q hq).1, (hby q hq).2.1, O.t _ (hby q hq).2.2.1, fun c2 h2 => (hby q hq).2.2.2 _ c2 hf h2⟩)
  obtain ⟨t2, s1, s2⟩ := k a H ls locs hl hP hD hS (T.setVm vm') hT (XX.noted hW')
  refine ⟨t2, wc_steps (vm' := vm') (pc := x.handlerPc) XX.here (fun Q E d acts => ?_) s1, s2⟩
  rw [W.findHandler_eq (meth := ww_h X) (code := ww_c X) XX.method' XX.code, hsp]
  exact hq Q E d acts
theorem wc_blind {D : va_G} {g : Nat → ClassId} {As : List Value} {w0 : va_W} {sz : Nat} : FrameBlind (va_Pc As (fun U => (U.heap.size = sz ∧ va_P D cx_cl w0 U.heap ∧ ww_K D g U ∧ va_D (fun _ => True) w0) ∧ wc_K U)) :=
  fun a U f mk q => ⟨q.1, (ww_blind (D := D) (g := g) (As := As) (w0 := w0) (sz := sz) a U f mk ⟨q.1, q.2.1⟩).2, q.2.2⟩
theorem wc_gi {y : MethodName} {b : ByteArray} {n : Nat} {ret : Option FieldType} {hh : List (Nat × Nat × Nat × Nat)} (h : Cond.codeWith y b n ret hh ∈ lw_good) : GoodIn lw_good (Cond.codeWith y b n ret hh :: lw_good) := by
  intro w hw
  rcases List.mem_cons.mp hw with h1 | h1
  · rw [h1]; exact ⟨h, good_of_word (List.mem_filter.mp h).2⟩
  · exact ⟨h1, good_of_word (List.mem_filter.mp h1).2⟩
def wc_site (own : String) (index : Nat) (y : MethodName) (b : ByteArray) (n : Nat) (ret : Option FieldType) (hh : List (Nat × Nat × Nat × Nat)) (na : Nat) : Prop :=
  Cond.codeWith y b n ret hh ∈ lw_good ∧ Cond.methodLink own index y ∈ lw_good ∧ Cond.initialized y.cls ∈ lw_good ∧ (y.cls ≠ "java/lang/invoke/MethodHandle" ∧ y.cls ≠ "java/lang/invoke/VarHandle" ∧ (parseMethodDescriptor y.desc).map (fun d => d.parameters.length) = some na)
theorem wc_callS (O : ww_ok X cc own) (hN : wc_K (ww_s X)) (A C : va_W) {index na n : Nat} {y : MethodName} {b : ByteArray} {ret : Option FieldType} {hh : List (Nat × Nat × Nat × Nat)} {rm : Room} {As : List Value} {w0 w1 : va_W} {r : Option Value} (hM : wc_ct (ww_l X) (ww_D X) (ww_g X) y b n ret hh rm As w0 r w1) (hs : wc_site own index y b n ret hh na) (hst : Cond.static y ∈ lw_good)
    (hRm : rm.frames + 1 ≤ (ww_R X).frames ∧ 8 + (n + 11) + rm.locals ≤ (ww_R X).locals) (hcs : cs + rm.cells ≤ (ww_R X).cells) (hss : ss + rm.slots ≤ (ww_R X).slots) (hna : As.length = na) (hst8 : (st.map fun v => v.category).sum ≤ 8) (d : decode cc pc = .ok (.invokestatic index, 3)) {st0 : List Value} (hstk : st0 = As.reverse ++ st)
    (k : ww_at X (cs + rm.cells) (ss + rm.slots) (pc + 3) L (r.toList ++ st) (A ++ (w1 ++ C))) : ww_at X cs ss pc L st0 (A ++ (w0 ++ C)) := by
  intro H ls locs hl hP hD hS
  subst hstk
  obtain ⟨h1, h2, h3, h4⟩ := wm_h (A := A) (C := C) (wm_len hM.1)
  have hwc : va_P (ww_D X) cx_cl w0 H := hP.sub (wm_C A w0) (ww_fm h1)
  refine ww_back O (w0 := w0) (w1 := w1) ?_ hl hP hD hS hM.1 (wm_C A w0) (wm_R A w0 C) (wm_P A w0 C) h1 (wm_nd _ _) h2 (wm_ndR _ _ _) (wm_dis A w0 C) h3 h4 (wm_ndP _ _ _) k
  intro T hT XX
  obtain ⟨mk, methM, cM, hnamed, hmethM, -, -, -, -, -, -, hsigM⟩ := Cond.codeWith_spec (O.t _ hs.1)
  have hstatic : methM.isStatic = true := Cond.static_spec hnamed hmethM (O.t _ hst)
  obtain ⟨kP, hkP, -⟩ := className_of_methodNamed hnamed
  have hinitP : kP.init = .initialized := Cond.initialized_spec (findClass_of_methodNamed hnamed) hkP (O.t _ hs.2.2.1)
  have hlen : As.length = methM.sig.parameters.length := by
    have h2 := hs.2.2.2.2.2
    rw [hsigM] at h2
    rw [hna]
    exact (Option.some.inj h2).symm
  obtain ⟨vm₁, X₁, hstep₁⟩ := XX.invokestatic O.x O.o (O.t _ hs.2.1) hnamed hmethM hstatic hkP hinitP ⟨hs.2.2.2.1, hs.2.2.2.2.1⟩ (g := F0 (ww_m X) pc ls (As.reverse ++ st)) rfl (argsL := As) (rest := st) hlen rfl (by rw [O.b]; exact d)
  have hW₁ := X₁.warmed
  have hT' : (T.setVm vm₁).heap = H := hT
  have hK := va_backW (hh := hh) (bytes := b) (maxL := n) (ret := ret) (R := ww_R X) (p := ww_p X) (e := ww_e X) (below := ww_b X) (s := ww_s X) (sargs := ww_a X) (len := 3) (W := 8) (hM.2 H.size) wc_blind rfl rfl hRm.1 hRm.2 (pay_in O.t (wc_gi hs.1)) List.mem_cons_self (fun a' U hW => word_at hW (Or.inl rfl) (O.t _ hs.2.2.1))
  obtain ⟨v, ⟨U', l2, c2, s2⟩, X', ⟨g', mk', t, L2, e1, e2, hq, f1, hL, f2, f3⟩, hsteps⟩ := hK (ww_m X) (ww_h X) (ww_c X) ⟨T.setVm vm₁, locs, cs, ss⟩ (F0 (ww_m X) pc ls st) (.invokestatic index) mk As.toArray X₁ rfl (hl.1.trans O.n.symm) (by rw [O.b]; exact d) (lv_room hst8) (X₁.named hnamed)
    ⟨hcs, hss, rfl, ⟨by rw [hT'], by rw [hT']; exact hwc, O.go hS hT' hW₁, (hD.sub (wm_C A w0) (wm_nd _ _) h1).weaken (fun _ _ _ _ => trivial)⟩, hN.go hW₁⟩
  dsimp only [Pt.U, Pt.locs, Pt.cells, Pt.slots] at X' e1 e2 f1 f2 f3 hsteps
  subst f1; subst f2; subst f3
  exact ⟨v, (T.setVm vm₁).calling g' mk' As.toArray, t, U', L2, hT, X', hL, e1, e2, hq, fun tg h => hstep₁ _ fun acts => by rw [doInvoke_state]; exact hsteps.trans h⟩
end WCC
