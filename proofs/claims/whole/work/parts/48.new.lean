/-! cells that are made; constructors -/
section WNW
variable {X : ww_X} {cc : ByteArray} {own : String} {cs ss pc : Nat} {L : List (Nat × Value)} {st : List Value} {ws : va_W}
theorem ww_nn {n : Nat} (h : n < 2 ^ 31) : ¬ nI n < 0 := nI_pos h
theorem ww_newi (O : ww_ok X cc own) {n : Nat} (hn : n * 4 ≤ 536870912) (harr : Cond.arrayClass .int ∈ lw_good) (hcs : cs + 1 ≤ (ww_R X).cells) (hss : ss + n ≤ (ww_R X).slots) (d : decode cc pc = .ok (.newarray .int, 2)) (k : ∀ q : Nat, ww_at X (cs + 1) (ss + n) (pc + 2) L (.ref q :: st) (ws ++ [(q, .inl (ww_g X 0, n, .inl (fun _ => nI 0)))])) : ww_at X cs ss pc L (.int (nI n) :: st) ws := by
  intro H ls locs hl hP hD hS
  refine va_newa (atype := .int) (ty := .int) (N' := n) (a0 := (n, .inl (fun _ => nI 0))) O.x O.b (O.t _ harr) rfl O.k hP hD hS O.a (fun _ => rfl) (ww_nn (by omega)) (nI_clamp (by omega)) hn hcs hss d (fun q cA H1 hK1 hP1 hD1 hS1 => ?_)
  have e1 := (hK1.2 4 (cA, .int) rfl).2
  have e2 := (O.k.2 0 (ww_g X 0, .int) rfl).2
  have e : cA = ww_g X 0 := Option.some.inj (e1.symm.trans e2)
  subst e
  exact k q H1 ls locs hl hP1 hD1 hS1
theorem ww_newz (O : ww_ok X cc own) {n : Nat} (hn : n * 4 ≤ 536870912) (harr : Cond.arrayClass .boolean ∈ lw_good) (hcs : cs + 1 ≤ (ww_R X).cells) (hss : ss + n ≤ (ww_R X).slots) (d : decode cc pc = .ok (.newarray .boolean, 2)) (k : ∀ q : Nat, ww_at X (cs + 1) (ss + n) (pc + 2) L (.ref q :: st) (ws ++ [(q, .inl (ww_g X 1, n, .inl (fun _ => nI 0)))])) : ww_at X cs ss pc L (.int (nI n) :: st) ws := by
  intro H ls locs hl hP hD hS
  refine va_newa (atype := .boolean) (ty := .boolean) (N' := n) (a0 := (n, .inl (fun _ => nI 0))) O.x O.b (O.t _ harr) rfl O.k hP hD hS O.a (fun _ => rfl) (ww_nn (by omega)) (nI_clamp (by omega)) (by show n * 1 ≤ _; omega) hcs hss d (fun q cA H1 hK1 hP1 hD1 hS1 => ?_)
  have e1 := (hK1.2 4 (cA, .boolean) rfl).2
  have e2 := (O.k.2 1 (ww_g X 1, .boolean) rfl).2
  have e : cA = ww_g X 1 := Option.some.inj (e1.symm.trans e2)
  subst e
  exact k q H1 ls locs hl hP1 hD1 hS1
theorem ww_newl (O : ww_ok X cc own) {n : Nat} (hn : n * 8 ≤ 536870912) (harr : Cond.arrayClass .long ∈ lw_good) (hcs : cs + 1 ≤ (ww_R X).cells) (hss : ss + n ≤ (ww_R X).slots) (d : decode cc pc = .ok (.newarray .long, 2)) (k : ∀ q : Nat, ww_at X (cs + 1) (ss + n) (pc + 2) L (.ref q :: st) (ws ++ [(q, .inl (ww_g X 2, n, .inr (.inl (fun _ => 0))))])) : ww_at X cs ss pc L (.int (nI n) :: st) ws := by
  intro H ls locs hl hP hD hS
  refine va_newa (atype := .long) (ty := .long) (N' := n) (a0 := (n, .inr (.inl (fun _ => 0)))) O.x O.b (O.t _ harr) rfl O.k hP hD hS O.a (fun _ => rfl) (ww_nn (by omega)) (nI_clamp (by omega)) hn hcs hss d (fun q cA H1 hK1 hP1 hD1 hS1 => ?_)
  have e1 := (hK1.2 4 (cA, .long) rfl).2
  have e2 := (O.k.2 2 (ww_g X 2, .long) rfl).2
  have e : cA = ww_g X 2 := Option.some.inj (e1.symm.trans e2)
  subst e
  exact k q H1 ls locs hl hP1 hD1 hS1
theorem ww_newq (O : ww_ok X cc own) (hao : va_AO cs_BF (ww_s X)) {n index : Nat} (hn : n * 4 ≤ 536870912) (hcl : Cond.classLink own index cs_BF ∈ lw_good) (hcs : cs + 1 ≤ (ww_R X).cells) (hss : ss + n ≤ (ww_R X).slots) (d : decode cc pc = .ok (.anewarray index, 3)) (k : ∀ q : Nat, ww_at X (cs + 1) (ss + n) (pc + 3) L (.ref q :: st) (ws ++ [(q, .inl (ww_g X 3, n, .inr (.inr (.inr (.inr (fun _ => none))))))])) : ww_at X cs ss pc L (.int (nI n) :: st) ws := by
  intro H ls locs hl hP hD hS
  refine va_newq (C := cs_BF) (N' := n) O.x O.b O.o (O.t _ hcl) hao O.k hP hD hS O.a (ww_nn (by omega)) (nI_clamp (by omega)) hn hcs hss d (fun q cA H1 hK1 hP1 hD1 hS1 => ?_)
  obtain ⟨_, _, _, _, _, e1⟩ := (hK1.2 4 (cA, .object cs_BF) rfl).2
  obtain ⟨_, _, _, _, _, e2⟩ := (O.k.2 3 (ww_g X 3, .object cs_BF) rfl).2
  have e : cA = ww_g X 3 := Option.some.inj (e1.symm.trans e2)
  subst e
  exact k q H1 ls locs hl hP1 hD1 hS1
theorem ww_new (O : ww_ok X cc own) {C : String} {T : u_T} {N ci index : Nat} (hin : ∀ w ∈ u_ws C T N, w ∈ lw_good) (ty0 : Nat → FieldType) (hty : ∀ k, k < N → parseFieldDescriptor (T k).2.2.1 = some (ty0 k)) (hcl : Cond.classLink own index C ∈ lw_good) (hinst : Cond.instantiable C N ∈ lw_good) (hini : Cond.initialized C ∈ lw_good) (hc : cx_cl[ci]? = some (C, T, N)) {fs : List Value} (hfs : ∀ j, j < N → defaultValue (ty0 j) = vp_V fs j) (hcs : cs + 1 ≤ (ww_R X).cells) (hss : ss + N ≤ (ww_R X).slots) (d : decode cc pc = .ok (.new index, 3))
    (k : ∀ q : Nat, ww_at X (cs + 1) (ss + N) (pc + 3) L (.ref q :: st) (ws ++ [(q, .inr (ci, fs))])) : ww_at X cs ss pc L st ws :=
  fun H ls locs hl hP hD hS => va_new O.x O.b O.t hin ty0 hty O.o (O.t _ hcl) (O.t _ hinst) (O.t _ hini) O.k hP hD hS O.a hc hfs hcs hss d (fun q H1 hP1 hD1 hS1 => k q H1 ls locs hl hP1 hD1 hS1)
theorem ww_aast (O : ww_ok X cc own) {a n i v : Nat} {f : Nat → Option Nat} {vs : List Value} (d : decode cc pc = .ok (.aastore, 1)) (q0 qk : Nat) (he : ws[q0]? = some (a, .inl (ww_g X 3, n, .inr (.inr (.inr (.inr f)))))) (hv : ws[qk]? = some (v, .inr (0, vs))) (hi : i < n) (hn : n < 2 ^ 31) {ws' : va_W} (hw : ws.set q0 (a, .inl (ww_g X 3, n, .inr (.inr (.inr (.inr (va_up f i (some v))))))) = ws') (k : ww_at X cs ss (pc + 1) L st ws') : ww_at X cs ss pc L (.ref v :: .int (nI i) :: .ref a :: st) ws :=
  fun H ls locs hl hP hD hS => va_astq (r := (cs_BF, ct_BF, 8)) O.x O.b O.k hP hD hS q0 3 qk 0 he rfl hv rfl (ww_ix hi hn).1 d (fun H1 locs1 hP1 hD1 hS1 => k H1 ls locs1 hl (by rw [(ww_ix hi hn).2, hw] at hP1; exact hP1) (by rw [(ww_ix hi hn).2, hw] at hD1; exact hD1) hS1)
theorem ww_alen (O : ww_ok X cc own) {a n : Nat} {f : Nat → Int32} (d : decode cc pc = .ok (.arraylength, 1)) (q0 : Nat) (he : ws[q0]? = some (a, .inl (ww_g X 0, n, .inl f))) (k : ww_at X cs ss (pc + 1) L (.int (nI n) :: st) ws) : ww_at X cs ss pc L (.ref a :: st) ws :=
  fun H ls locs hl hP hD hS => va_alen O.x O.b O.k hP q0 0 he rfl (v := nI n) rfl d (k H ls locs hl hP hD hS)
theorem ww_obj (O : ww_ok X cc own) {idx a : Nat} (hlink : Cond.methodLink own idx Lib.objectInit ∈ lw_good) (hinst : Cond.instanceMethod Lib.objectInit ∈ lw_good) (hcode : Cond.code Lib.objectInit ⟨#[0xb1]⟩ 1 none ∈ lw_good) (d : decode cc pc = .ok (.invokespecial idx, 3)) (hfr : 1 ≤ (ww_R X).frames) (hlo : (st.map fun v => v.category).sum + 12 ≤ (ww_R X).locals) (k : ww_at X cs ss (pc + 3) L st ws) : ww_at X cs ss pc L (.ref a :: st) ws :=
  fun H ls locs hl hP hD hS => W.objInit O.x O.b O.o (O.t _ hlink) (O.t _ hinst) (O.t _ hcode) (g := F0 (ww_m X) pc ls (.ref a :: st)) rfl (hl.1.trans O.n.symm) rfl d hfr (by show 2 * 0 + _ + 12 ≤ _; omega) (k H ls locs hl hP hD hS)
def wi_rm (k c s : Nat) : Room := { frames := k, cells := c, slots := s, locals := 40 * k }
/-- a constructor's contract: the world behind it is one of P -/
def wi_ct (l : Launch) (D : va_G) (g : Nat → ClassId) (y : MethodName) (b : ByteArray) (n : Nat) (rm : Room) (As : List Value) (w0 : va_W) (P : va_W → Prop) : Prop :=
  ∀ sz : Nat, Met l y (Cond.code y b n none :: lw_good) rm (va_Pc As (fun U => (U.heap.size = sz ∧ va_P D cx_cl w0 U.heap ∧ ww_K D g U ∧ va_D (fun _ => True) w0) ∧ va_AO cs_BF U)) (fun _ st oc t => oc = .returned none ∧ (∃ w1, P w1 ∧ va_P D cx_cl w1 t.heap ∧ va_D (va_A w0 sz) w1) ∧ va_F (va_A w0 sz) st t) rm.cells rm.slots (va_A w0 sz)
theorem wi_start {l : Launch} {D : va_G} {g : Nat → ClassId} {y : MethodName} {b : ByteArray} {n : Nat} {rm : Room} {As : List Value} {w0 : va_W} {P : va_W → Prop} {L0 : List (Nat × Value)}
    (hy : plainName y.cls = true) (hnm : y.name = "<init>") (hn : (lg_sl As).length ≤ n) (hL0 : lv_args 0 As = L0)
    (body : ∀ X : ww_X, ww_ok X b y.cls → ww_l X = l → ww_D X = D → ww_g X = g → ww_R X = rm → ww_n X = n → (ww_h X).name = "<init>" → va_AO cs_BF (ww_s X) → (∀ (w1 : va_W) (pc : Nat) (L : List (Nat × Value)), P w1 → decode b pc = .ok (.return_, 1) → ww_at X rm.cells rm.slots pc L [] w1) → ww_at X 0 0 0 L0 [] w0) : wi_ct l D g y b n rm As w0 P := by
  intro sz
  refine Met.ofW (cc := b) (maxL := n) (ret := none) hy rfl ?_
  intro p e s m args below meth c s₁ B hml hv
  obtain ⟨rfl, ⟨hsz, hP, hK, hD0⟩, hao⟩ := hv
  subst hsz
  have hts := atoms_spec (ws := Cond.code y b n none :: lw_good) B.pre
  have hD := hD0.self (sz := s.heap.size)
  have hl := lv_entry As (n := n) hn
  rw [lg_entry_eq]
  rw [hL0] at hl
  have hlocks := B.notSynchronized
  have hr := B.returns
  refine body (p, l, e, rm, s, m, As.toArray, below, meth, c, va_A w0 s.heap.size, D, g, MQ below (fun _ st oc t => oc = .returned none ∧ (∃ w1, P w1 ∧ va_P D cx_cl w1 t.heap ∧ va_D (va_A w0 s.heap.size) w1) ∧ va_F (va_A w0 s.heap.size) st t) As.toArray s rm.cells rm.slots (va_A w0 s.heap.size), n)
    ⟨B.exec, B.bytes, hml, findClass_of_methodNamed B.named, fun w hw => hts w (List.mem_cons_of_mem _ hw), hK, fun q h => Or.inr h, hlocks, ww_noSt hP⟩ rfl rfl rfl rfl rfl ((name_of_methodNamed B.named B.method).1.trans hnm) hao ?_ s.heap _ [] hl hP hD va_S.rf
  intro w1 pc L hw1 d H ls locs hl hP hD hS
  have hS2 : va_S (va_A w0 s.heap.size) s.heap H locs := hS
  have hP2 : va_P D cx_cl w1 H := hP
  have hD2 : va_D (va_A w0 s.heap.size) w1 := hD
  show W p l e rm s m As.toArray below meth c H locs rm.cells rm.slots (MQ below (fun _ st oc t => oc = .returned none ∧ (∃ w1, P w1 ∧ va_P D cx_cl w1 t.heap ∧ va_D (va_A w0 s.heap.size) w1) ∧ va_F (va_A w0 s.heap.size) st t) As.toArray s rm.cells rm.slots (va_A w0 s.heap.size)) (F0 m pc ls [])
  exact W.vret B.exec B.bytes hr (fun t ht hW => ⟨rfl, ⟨w1, hw1, by rw [ht]; exact hP2, hD2⟩, hS2.F ht⟩) hS2.2.2 d hlocks
theorem wi_blind {D : va_G} {g : Nat → ClassId} {As : List Value} {w0 : va_W} {sz : Nat} : FrameBlind (va_Pc As (fun U => (U.heap.size = sz ∧ va_P D cx_cl w0 U.heap ∧ ww_K D g U ∧ va_D (fun _ => True) w0) ∧ va_AO cs_BF U)) :=
  fun a U f mk q => ⟨q.1, (ww_blind (D := D) (g := g) (As := As) (w0 := w0) (sz := sz) a U f mk ⟨q.1, q.2.1⟩).2, va_AO.moved (u := U) (U := U.calling f mk a) (Vm.Alike.refl U.vm) q.2.2⟩
theorem wi_call (O : ww_ok X cc own) (hao : va_AO cs_BF (ww_s X)) (A C : va_W) {index na n a : Nat} {y : MethodName} {b : ByteArray} {rm : Room} {As : List Value} {w0 : va_W} {P : va_W → Prop} (hM : wi_ct (ww_l X) (ww_D X) (ww_g X) y b n rm (.ref a :: As) w0 P) (hs : ww_site own index y b n none na) (hin : Cond.instanceMethod y ∈ lw_good) (hnm : y.name = "<init>")
    (hRm : rm.frames + 1 ≤ (ww_R X).frames ∧ 8 + (n + 11) + rm.locals ≤ (ww_R X).locals) (hcs : cs + rm.cells ≤ (ww_R X).cells) (hss : ss + rm.slots ≤ (ww_R X).slots) (hna : As.length = na) (hst8 : (st.map fun v => v.category).sum ≤ 8) (d : decode cc pc = .ok (.invokespecial index, 3)) {st0 : List Value} (hstk : st0 = As.reverse ++ .ref a :: st)
    (k : ∀ w1, P w1 → ww_at X (cs + rm.cells) (ss + rm.slots) (pc + 3) L st ((A ++ C) ++ w1)) : ww_at X cs ss pc L st0 (A ++ (w0 ++ C)) := by
  intro H ls locs hl hP hD hS
  subst hstk
  have h1 := wm_at w0 A C
  have h2 := wm_R1 A w0 C
  have hwc : va_P (ww_D X) cx_cl w0 H := hP.sub (wm_C A w0) (ww_fm h1)
  have hr := va_runI (As := As) (rest := st) (b := a) (l := ww_l X) (R := ww_R X) (e := ww_e X) (below := ww_b X) (meth := ww_h X) (locs := locs) (cells := cs) (slots := ss) (g := F0 (ww_m X) pc ls (As.reverse ++ .ref a :: st)) ⟨O.x, O.b, O.n, O.o, O.t⟩ (hM H.size) ⟨callB_of na O.t (ww_gi hs.1) rfl rfl rfl (O.t _ hs.2.2.1) (O.t _ hs.2.1) hs.2.2.2 hRm, hnm, O.t _ hin⟩ ⟨wi_blind, fun U hU hW => ⟨rfl, ⟨by rw [hU], by rw [hU]; exact hwc, O.go hS hU hW, (hD.sub (wm_C A w0) (wm_nd _ _) h1).weaken (fun _ _ _ _ => trivial)⟩, va_AO.moved hW.alike hao⟩⟩ rfl hna hl.1 rfl (lv_room hst8) d ⟨hcs, hss⟩
  intro T hT XX
  obtain ⟨v, z, t, T', L2, h0, X', hL, e1, e2, ⟨hv, ⟨w1, hw1, hP1, hD1⟩, hz, hk⟩, go⟩ := hr T hT XX
  cases hv
  rw [h0] at hz hk
  have hF := va_free hD hS O.a (wm_C A w0) h1
  rw [← e1] at hP1 hz hk
  obtain ⟨hP2, hD2⟩ := va_join hP hD (wm_C A w0) (wm_R A w0 C) h1 h2 (wm_ndR _ _ _) (wm_dis A w0 C) hk hF hP1 hD1
  have hS2 : va_S (ww_A X) (ww_s X).heap T'.heap (locs ++ L2) := by
    refine ⟨Nat.le_trans hS.1 hz, fun q h1 h2 => ?_, fun q hq => ?_⟩
    · rw [hk q (Nat.lt_of_lt_of_le h1 hS.1) (fun z => h2 (hF q z))]
      exact hS.2.1 q h1 h2
    · rcases List.mem_append.mp hq with h | h
      · exact hS.2.2 q h
      · exact hF _ (hL q h)
  obtain ⟨t2, a1, b1⟩ := k w1 hw1 T'.heap ls (locs ++ L2) hl hP2 hD2 hS2 T' rfl X'
  exact ⟨t2, go t2 a1, b1⟩
end WNW
