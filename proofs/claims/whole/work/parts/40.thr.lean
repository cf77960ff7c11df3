/-! methods that throw: contracts whose end is 'threw', calls of them, handlers -/
def wt_met (l : Launch) (y : MethodName) (ws : List Cond) (rm : Room) (Pc : Array Value → State → Prop) (Qc : Array Value → State → Outcome → State → Prop) (mc ms : Nat) (free : Addr → Prop) : Prop :=
  MetFree l y (headSpec ws rm) Pc (fun _ _ _ _ _ => True) (fun a st o t => Qc a st o t ∧ ∃ L, FramedT st o t L mc ms ∧ ∀ q ∈ L, free q.base)
/-- the thrown cell -/
def wt_cell (ex : String) (sz : Nat) (x : Addr) (U : State) : Prop := ∃ cell : Cell, sz ≤ x ∧ U.heap[x]? = some cell ∧ cell.vm = .none ∧ U.vm.findClass ex = some cell.cls
def wt_ct (l : Launch) (D : va_G) (g : Nat → ClassId) (y : MethodName) (b : ByteArray) (n : Nat) (ret : Option FieldType) (rm : Room) (As : List Value) (w0 : va_W) (ex : String) (w1 : va_W) : Prop :=
  w1.map (fun q => q.1) = w0.map (fun q => q.1) ∧ ∀ sz : Nat, wt_met l y (Cond.code y b n ret :: lw_good) rm (va_Pc As (fun U => U.heap.size = sz ∧ va_P D cx_cl w0 U.heap ∧ ww_K D g U ∧ va_D (fun _ => True) w0)) (fun _ st oc t => (∃ x, oc = .threw x ∧ wt_cell ex sz x t) ∧ va_P D cx_cl w1 t.heap ∧ va_F (va_A w0 sz) st t) rm.cells rm.slots (va_A w0 sz)
/-- the end of a method that throws -/
def wt_fin (X : ww_X) (mc ms : Nat) (ex : String) (w1 : va_W) : Prop := ∀ (U : State) (x : Addr) (locs : List Loc), U.status = .running → Ended U (ww_b X) (.threw x) → (ww_s X).WarmedH U.vm → (ww_s X).sameButNew ({ U with vm := (ww_s X).vm } : State) locs mc ms → (∀ q ∈ locs, ww_A X q.base) → va_P (ww_D X) cx_cl w1 U.heap → va_F (ww_A X) (ww_s X) U → wt_cell ex (ww_s X).heap.size x U → ww_Q X U
theorem wt_start {l : Launch} {D : va_G} {g : Nat → ClassId} {y : MethodName} {b : ByteArray} {n : Nat} {ret : Option FieldType} {rm : Room} {As : List Value} {w0 : va_W} {ex : String} {w1 : va_W} {L0 : List (Nat × Value)}
    (hy : plainName y.cls = true) (hadr : w1.map (fun q => q.1) = w0.map (fun q => q.1)) (hn : (lg_sl As).length ≤ n) (hL0 : lv_args 0 As = L0)
    (body : ∀ X : ww_X, ww_ok X b y.cls → ww_l X = l → ww_D X = D → ww_g X = g → ww_R X = rm → ww_n X = n → (ww_c X).exceptionTable.isEmpty = true → wt_fin X rm.cells rm.slots ex w1 → ww_at X 0 0 0 L0 [] w0) : wt_ct l D g y b n ret rm As w0 ex w1 := by
  refine ⟨hadr, fun sz => ?_⟩
  refine MetFree.of_bodyS (code := b) (maxLocals := n) (ret := ret) hy ?_ ?_
  · intro args s m h hn
    obtain ⟨meth, c, h1, h2, h3, h4, h5, h6, -, -⟩ := Cond.code_spec hn (atoms_spec (ws := Cond.code y b n ret :: lw_good) h _ List.mem_cons_self)
    exact ⟨meth, c, h1, h2, h3, h4, h5, h6⟩
  · intro p e s m args below meth c s₁ B hml hv _
    obtain ⟨rfl, hsz, hP, hK, hD0⟩ := hv
    subst hsz
    have hts := atoms_spec (ws := Cond.code y b n ret :: lw_good) B.pre
    have hnh := BodyLoose.noHandlers B (hts _ List.mem_cons_self)
    have hD := hD0.self (sz := s.heap.size)
    have hl := lv_entry As (n := n) hn
    rw [hL0] at hl
    have hlocks := B.notSynchronized
    have hh0 : s₁.heap = s.heap := by rw [B.state]; rfl
    have K := body (p, l, e, rm, s, m, As.toArray, below, meth, c, va_A w0 s.heap.size, D, g, (fun t => ∃ o, t.status = .running ∧ Ended t below o ∧ ((∃ x, o = .threw x ∧ wt_cell ex s.heap.size x t) ∧ va_P D cx_cl w1 t.heap ∧ va_F (va_A w0 s.heap.size) s t) ∧ ∃ L, FramedT s o t L rm.cells rm.slots ∧ ∀ q ∈ L, va_A w0 s.heap.size q.base), n)
      ⟨B.exec, B.bytes, hml, findClass_of_methodNamed B.named, fun w hw => hts w (List.mem_cons_of_mem _ hw), hK, fun q h => Or.inr h, hlocks, ww_noSt hP⟩ rfl rfl rfl rfl rfl hnh
      (fun U x locs h1 h2 h3 h4 h5 h6 h7 h8 => ⟨.threw x, h1, h2, ⟨⟨x, rfl, h8⟩, h6, h7⟩, locs, ⟨⟨x, rfl⟩, h3, h4⟩, h5⟩) s.heap _ [] hl hP hD va_S.rf
    obtain ⟨t, a1, o, b1, b2, b3, b4⟩ := K s₁ hh0 (Stand.of_body B)
    rw [lg_entry_eq]
    exact ⟨t, o, a1, b1, b2, b3, b4⟩
theorem wt_swa {w : Cond} (hk : ww_swk w = true) {a : Array Value} {s : State} (h : w.before #[] s = true) : w.before a s = true := by
  cases w with
  | laysStatic o n d => exact h
  | isRef t =>
    cases t with
    | static o n d => exact h
    | _ => simp [ww_swk] at hk
  | _ => simp [ww_swk] at hk
section WTC
variable {p : Program} {l : Launch} {e : Env} {R : Room} {s : State} {m₀ : MethodId} {args : Array Value} {below : List Frame} {meth : Method} {c : Code} {W : State} {locs : List Loc} {cells slots : Nat}
set_option maxHeartbeats 1000000 in
/-- the constructor of an exception without a message, on a fresh cell, where no traces are kept: only that cell turns -/
theorem wt_ctor (XX : Stand p l e R s m₀ args below meth c W locs cells slots) (hexec : p.tables.exec = Jvm.exec) (htr : e.platform.stackTraces = false) {own ex : String} {names : List String} {ic : Nat}
    (hown : s.vm.findClass own = some m₀.cls) (hfit : Bundle.fit ex = true) (hnames : ∀ n ∈ names, Bundle.fit n = true) (h : ∀ a ∈ Bundle.ownAtoms0 own ic ex names, a.before args s = true)
    (hlocs : ∀ x ∈ locs, ∀ cell, s.heap[x.base]? = some cell → cell.vm.isStatics = false)
    {a : Addr} {cX : ClassId} {kX : Class} (hfX : s.vm.findClass ex = some cX) (hkX : s.vm.classes[cX]? = some kX) (hcell : W.heap[a]? = some (freshCell cX kX)) (hnew : s.heap.size ≤ a)
    {g : JFrame} (hg : g.method = m₀) (hsize : g.locals.size = c.maxLocals) {rest : List Value} (hstack : g.stack = .ref a :: rest) (hd : decode c.code g.pc = .ok (.invokespecial ic, 3))
    (hRf : names.length + 3 < R.frames) (hRl : 2 * g.monitorRoom + (rest.map fun v => v.category).sum + (13 * (names.length + 1) + 41) ≤ R.locals) :
    ∃ (vm' : Vm) (cell' : Cell) (i1 i2 i3 i4 : Nat), Stand p l e R s m₀ args below meth c ((W.setVm vm').setCell a cell') (locs ++ [⟨a, i1⟩, ⟨a, i2⟩, ⟨a, i3⟩, ⟨a, i4⟩]) cells slots ∧ cell'.vm = .none ∧ cell'.cls = cX ∧
      ∀ target, Steps p.tables e below (((W.setVm vm').setCell a cell').setTop { g with pc := g.pc + 3, stack := rest }) target → Steps p.tables e below (W.setTop g) target := by
  have howns : e.platform.frameOwnsMonitors = true := by rw [XX.admits.platform]
  have hfin : e.platform.finalization = false := by rw [XX.admits.platform]
  have hpl : e.platform.magicAccessors = ({} : Platform).magicAccessors := by rw [XX.admits.platform]
  have a' : ∀ x, x ∈ Bundle.ownAtoms0 own ic ex names → x.holds args s none s [] = true := fun x hx => h x hx
  obtain ⟨T, Z, L, LZ, Y⟩ := ThrowableC.of_atoms (args := args) howns hfin hpl (fun x hx => h x (by simp [Bundle.ownAtoms0, hx]))
  obtain ⟨P1, Ps, hlen, L1, hL, hP1m, hlink1, hlink⟩ := Bundle.chain0 (args := args) hpl Y.init0 names ex hfit hnames (fun x hx => h x (by simp [Bundle.ownAtoms0, hx]))
  have hfound : s.vm.findClass ex = some P1.m.cls := findClass_of_methodNamed hP1m
  cases Option.some.inj (hfX.symm.trans hfound)
  obtain ⟨c1, kX', hc1, hk, hord, -, -, hn6⟩ := Cond.instantiable_spec (a' (.instantiable ex 6) (by simp [Bundle.ownAtoms0]))
  cases Option.some.inj (hc1.symm.trans hfound)
  cases Option.some.inj (hkX.symm.trans hk)
  have hsel : ∀ (x : MethodName) (mk : MethodId), s.methodNamed? x = some mk → (x.cls ≠ "java/lang/invoke/MethodHandle" ∧ x.cls ≠ "java/lang/invoke/VarHandle") → (Cond.selects ex x x).before args s = true → selectMethod e.platform s.vm P1.m.cls mk = .method mk := by
    intro x mk hx hne hw
    obtain ⟨c2, r2, m2, q1, q2, q3, q4, -⟩ := Cond.selects_spec hw
    cases Option.some.inj (q1.symm.trans hfound)
    cases Option.some.inj (q2.symm.trans (State.methodFound?_of_named hx hne))
    cases Option.some.inj (q3.symm.trans hx)
    rw [Launch.admits_selectMethod XX.admits]; exact q4
  have hsel0 := hsel _ _ Y.fill0 (by decide) (a' (.selects ex Bundle.tFill0 Bundle.tFill0) (by simp [Bundle.ownAtoms0]))
  have hselF := hsel _ _ Y.fill (by decide) (a' (.selects ex Bundle.tFill Bundle.tFill) (by simp [Bundle.ownAtoms0]))
  obtain ⟨cellS0, hcS0, hiss⟩ := Y.statics
  obtain ⟨u0, hu0⟩ := Cond.staticRefV Y.unassigned L.unassignedStatic L.statics hcS0 hiss (a' (.isRef (.static Bundle.tN "UNASSIGNED_STACK" Bundle.steD)) (by simp [Bundle.ownAtoms0]))
  obtain ⟨sen, hsen⟩ := Cond.staticRefV Y.sentinel L.sentinelStatic L.statics hcS0 hiss (a' (.isRef (.static Bundle.tN "SUPPRESSED_SENTINEL" Bundle.listD)) (by simp [Bundle.ownAtoms0]))
  obtain ⟨ci198, i198, fB, hk198, hg198, ha198, hsB, -, hnB, htB, hffB⟩ := Cond.ownField (t := .object "java/lang/Object") Y.found L.cls (by decide +kernel) (a' (.fieldLink Bundle.tN 198 Bundle.tN "backtrace" "Ljava/lang/Object;") (by simp [Bundle.ownAtoms0])) (a' (.lays Bundle.tN Bundle.tN "backtrace" "Ljava/lang/Object;") (by simp [Bundle.ownAtoms0])) e.platform hpl
  obtain ⟨cellS, hcS', heS, -, hkeep⟩ := XX.same.2.2.2.2.2 T.aS cellS0 hcS0
  have hcellS : W.heap[T.aS]? = some cellS := hcS'
  have hout' : ∀ i, (⟨T.aS, i⟩ : Loc) ∉ locs := fun i hmem => by
    have := hlocs _ hmem cellS0 hcS0
    rw [hiss] at this; cases this
  have hknownS : cellS.vm ≠ .unknown := by
    rw [heS]; intro hu
    rw [show cellS0.vm = .unknown from hu] at hiss
    cases hiss
  have hneS : T.aS ≠ a := Nat.ne_of_lt (Nat.lt_of_lt_of_le (Array.getElem?_eq_some_iff.mp hcS0).1 hnew)
  obtain ⟨tyC, dC, hdC, hdnC⟩ := Cond.laysAt hfound hk Y.cause (a' (.lays ex Bundle.tN "cause" "Ljava/lang/Throwable;") (by simp [Bundle.ownAtoms0]))
  obtain ⟨tyS, dS, hdS, hdnS⟩ := Cond.laysAt hfound hk Y.stack (a' (.lays ex Bundle.tN "stackTrace" Bundle.steD) (by simp [Bundle.ownAtoms0]))
  obtain ⟨tyP, dP, hdP, hdnP⟩ := Cond.laysAt hfound hk Y.supp (a' (.lays ex Bundle.tN "suppressedExceptions" Bundle.listD) (by simp [Bundle.ownAtoms0]))
  obtain ⟨tyB, dB, hdB, hdnB⟩ := Cond.laysAt hfound hk hffB (a' (.lays ex Bundle.tN "backtrace" "Ljava/lang/Object;") (by simp [Bundle.ownAtoms0]))
  have bC := Cond.laysApart hdB hdC hdnB hdnC (by rw [hnB, Y.causeName]; decide)
  have bS := Cond.laysApart hdB hdS hdnB hdnS (by rw [hnB, Y.stackName]; decide)
  have bP := Cond.laysApart hdB hdP hdnB hdnP (by rw [hnB, Y.suppName]; decide)
  have hskip : SkipFacts T e.platform s (fun u => u) u0 ((preparedCellV T.toThrowableT (freshCell P1.m.cls kX) a u0 sen).withEntry W.cur) :=
    ⟨{ ci198 := ci198, i198 := i198, fBack := fB }, ⟨hk198, hg198, ha198, hsB⟩, by
      have := fresh_default (c := P1.m.cls) tyB
      rw [htB] at this
      simpa [preparedCellV, Cell.setSlot, Cell.withEntry, Array.getElem?_setIfInBounds, bC, bS, bP, bC.symm, bS.symm, bP.symm, defaultValue] using this, fun _ _ => rfl⟩
  obtain ⟨tm, methC, cdC, kC, vm₁, hnC, -, -, -, -, -, -, -, hW₁, st1⟩ := Steps.initCold (tb := p.tables) (e := e) (below := below) (s := s) (U := W) XX.here hexec XX.warmed hpl hown (t := Bundle.init0 ex) rfl rfl (Bundle.fit_spec hfit).2
    (a' (.methodLink own ic (Bundle.init0 ex)) (by simp [Bundle.ownAtoms0])) (h (.instanceMethod (Bundle.init0 ex)) (by cases names <;> simp [Bundle.ownAtoms0, Bundle.chain0Atoms, Bundle.passAtoms])) (bytes := Bundle.five) (maxL := 1) (h (.code (Bundle.init0 ex) Bundle.five 1 none) (by cases names <;> simp [Bundle.ownAtoms0, Bundle.chain0Atoms, Bundle.passAtoms]))
    (f := g) hg (a := a) (rest := rest) hstack hd
  cases Option.some.inj (hnC.symm.trans hP1m)
  have X₁ := XX.noted hW₁
  obtain ⟨vm₂, X₂, st2⟩ := X₁.ctorPlainOffV hexec (g := { g with stack := rest }) hg hsize T L Z LZ (P1 :: Ps)
    (fun P hP => by rcases List.mem_cons.mp hP with rfl | hP; exact L1; exact hL P hP) ⟨hlink1, hlink⟩ (u0 := u0) (sen := sen) (self := a) (cell := freshCell P1.m.cls kX) (cellS := cellS)
    hcell (fun _ => by simp) (by simp) rfl rfl hsel0 hselF hcellS hneS hknownS (by rw [hkeep _ (hout' _)]; exact hu0) (by rw [hkeep _ (hout' _)]; exact hsen)
    (Takes.of_laid hk hord tyC (by rw [Y.causeType]; rfl)) (Takes.of_laid hk hord tyS (by rw [Y.stackType]; exact fits_refV_array _ u0)) (Takes.of_laid hk hord tyP (by rw [Y.suppType]; exact fits_refV_object _ sen)) Y.objLocals hskip htr [] hd
    (by simp only [List.length_cons, hlen]; omega) (by simp only [List.length_cons, hlen]; exact hRl)
  rw [State.setVm_twice] at X₂ st2
  exact ⟨vm₂, _, _, _, _, _, X₂, rfl, rfl, fun target hr => st1 _ (fun acts => by rw [doInvoke_state]; exact st2 _ hr)⟩
end WTC
section WTR
variable {X : ww_X} {cc : ByteArray} {own : String} {cs ss pc : Nat} {L L' : List (Nat × Value)} {st : List Value} {ws : va_W}
/-- an exception ex is on its way in the frame at pc -/
def wt_at (X : ww_X) (cs ss pc : Nat) (L : List (Nat × Value)) (ex : String) (ws : va_W) : Prop :=
  ∀ (H : Heap) (ls : Array Slot) (locs : List Loc) (st : List Value) (x : Addr) (cell : Cell), lv_has ls (ww_n X) L → va_P (ww_D X) cx_cl ws H → va_D (ww_A X) ws → va_S (ww_A X) (ww_s X).heap H locs → (ww_s X).heap.size ≤ x → H[x]? = some cell → cell.vm = .none → (ww_s X).vm.findClass ex = some cell.cls →
    ∀ T : State, T.heap = H → Stand (ww_p X) (ww_l X) (ww_e X) (ww_R X) (ww_s X) (ww_m X) (ww_a X) (ww_b X) (ww_h X) (ww_c X) T locs cs ss → ∃ t, Steps (ww_p X).tables (ww_e X) (ww_b X) ((T.setTop (F0 (ww_m X) pc ls st)).pushFrame (.throwing x)) t ∧ ww_Q X t
/-- no handler: it leaves -/
theorem wt_out (O : ww_ok X cc own) {ex : String} (hh : (ww_c X).exceptionTable.isEmpty = true) (F : wt_fin X cs ss ex ws) : wt_at X cs ss pc L ex ws := by
  intro H ls locs st x cell hl hP hD hS hx hc hv hf T hT XX
  have hout : ∀ z ∈ (ww_c X).exceptionTable.toList, covers z pc = false := by
    have h0 : (ww_c X).exceptionTable.size = 0 := by simpa [Array.isEmpty] using hh
    have h1 : (ww_c X).exceptionTable.toList = [] := List.eq_nil_of_length_eq_zero (by simpa using h0)
    intro z hz
    rw [h1] at hz
    cases hz
  obtain ⟨hsteps, hrun, hend, hW, hsame⟩ := XX.leaveThrown x (g := F0 (ww_m X) pc ls st) rfl rfl rfl hout O.s
  refine ⟨_, hsteps, F _ x locs hrun hend hW hsame hS.2.2 ?_ ?_ ⟨cell, hx, ?_, hv, ?_⟩⟩
  · show va_P (ww_D X) cx_cl ws T.heap
    rw [hT]; exact hP
  · exact hS.F hT
  · show T.heap[x]? = some cell
    rw [hT]; exact hc
  · rw [hW.alike.findClass]; exact hf
/-- throw new ex() -/
theorem wt_new (O : ww_ok X cc own) {ex : String} {names : List String} {ik ic : Nat} (htr : (ww_e X).platform.stackTraces = false) (hh : (ww_c X).exceptionTable.isEmpty = true)
    (hat : ∀ w ∈ Bundle.ownAtoms0 own ic ex names, w ∈ lw_good ∨ w ∈ cx_nw ∨ w ∈ cx_sw) (hfit : Bundle.fit ex = true) (hnames : ∀ n ∈ names, Bundle.fit n = true) (hcl : Cond.classLink own ik ex ∈ lw_good) (hins : Cond.instantiable ex 6 ∈ lw_good) (hini : Cond.initialized ex ∈ lw_good)
    (hRf : names.length + 3 < (ww_R X).frames) (hRl : ((st.map fun v => v.category).sum + 1) + (13 * (names.length + 1) + 41) ≤ (ww_R X).locals) (hcs : cs + 1 ≤ (ww_R X).cells) (hss : ss + 6 ≤ (ww_R X).slots)
    (d0 : decode cc pc = .ok (.new ik, 3)) (d3 : decode cc (pc + 3) = .ok (.dup, 1)) (d4 : decode cc (pc + 4) = .ok (.invokespecial ic, 3)) (d7 : decode cc (pc + 7) = .ok (.athrow, 1)) (F : wt_fin X (cs + 1) (ss + 6) ex ws) : ww_at X cs ss pc L st ws := by
  intro H ls locs hl hP hD hS
  refine W.newc O.x O.b O.o (O.t _ hcl) (O.t _ hins) (O.t _ hini) rfl d0 hcs hss (fun cC kC h1 h2 h3 h4 => ?_)
  refine lv_dup O.x O.b d3 rfl ?_
  intro T hT XX
  have hcell : T.heap[H.size]? = some (freshCell cC kC) := by rw [hT]; exact Array.getElem?_push_size
  have hA : ∀ w ∈ Bundle.ownAtoms0 own ic ex names, w.before (ww_a X) (ww_s X) = true := by
    intro w hw
    rcases hat w hw with h | h | h
    · exact O.t w h
    · have hk := List.all_eq_true.mp cx_nw_ok w h
      have hn := O.2.2.2.2.2.1.2.1 w h
      cases w <;> first | (simp [ww_nwk] at hk; done) | exact va_Nw.use rfl hn
    · have hk := List.all_eq_true.mp cx_sw_ok w h
      exact wt_swa hk (O.2.2.2.2.2.1.2.2 w h)
  have hlocs : ∀ z ∈ locs, ∀ cell, (ww_s X).heap[z.base]? = some cell → cell.vm.isStatics = false := by
    intro z hz cell hc
    cases hi : cell.vm.isStatics with
    | false => rfl
    | true => exact absurd (hS.2.2 z hz) (O.z z.base cell hc hi)
  have hout : ∀ z ∈ (ww_c X).exceptionTable.toList, covers z (pc + 4 + 3) = false := by
    have h0 : (ww_c X).exceptionTable.size = 0 := by simpa [Array.isEmpty] using hh
    have h1 : (ww_c X).exceptionTable.toList = [] := List.eq_nil_of_length_eq_zero (by simpa using h0)
    intro z hz
    rw [h1] at hz
    cases hz
  obtain ⟨vm₂, cell', i1, i2, i3, i4, X₂, hvm', hcls', hgo⟩ := wt_ctor XX O.x htr O.o hfit hnames hA hlocs h1 h2 hcell hS.1 (g := F0 (ww_m X) (pc + 3 + 1) ls (.ref H.size :: .ref H.size :: st)) rfl (hl.1.trans O.n.symm) (rest := .ref H.size :: st) rfl (by rw [O.b]; exact d4) (by omega) (by show 2 * 0 + (1 + (st.map fun v => v.category).sum) + _ ≤ _; omega)
  obtain ⟨hwalk, hrun, hend, hW, hsame⟩ := X₂.athrowLeaves O.x (g := F0 (ww_m X) (pc + 3 + 1 + 3) ls (.ref H.size :: st)) rfl rfl rfl hout (a := H.size) (rest := st) rfl (by rw [O.b]; exact d7) O.s
  have hU : ∀ q : Nat, q < H.size → (((T.setVm vm₂).setCell H.size cell').heap)[q]? = H[q]? := by
    intro q hq
    have e1 : ((T.setVm vm₂).setCell H.size cell').heap = T.heap.setIfInBounds H.size cell' := rfl
    rw [e1, Array.getElem?_setIfInBounds_ne (by omega), hT, Array.getElem?_push_lt hq]
    exact (Array.getElem?_eq_getElem hq).symm
  have hszU : ((T.setVm vm₂).setCell H.size cell').heap.size = H.size + 1 := by
    show (T.heap.setIfInBounds H.size cell').size = _
    rw [Array.size_setIfInBounds, hT, Array.size_push]
  refine ⟨_, hgo _ hwalk, F _ H.size _ hrun hend hW hsame ?_ ?_ ?_ ⟨cell', hS.1, ?_, hvm', ?_⟩⟩
  · intro q hq
    rcases List.mem_append.mp hq with h | h
    · exact hS.2.2 q h
    · refine O.a _ ?_
      simp only [List.mem_cons, List.not_mem_nil, or_false] at h
      rcases h with rfl | rfl | rfl | rfl <;> exact hS.1
  · exact hP.kept (fun k q hk => hU q.1 (hP k q hk).lt)
  · refine ⟨?_, fun q h5 h6 => ?_⟩
    · show _ ≤ ((T.setVm vm₂).setCell H.size cell').heap.size
      rw [hszU]
      have := hS.1
      omega
    · show (((T.setVm vm₂).setCell H.size cell').heap)[q]? = _
      rw [hU q (Nat.lt_of_lt_of_le h5 hS.1)]
      exact hS.2.1 q h5 h6
  · show (T.heap.setIfInBounds H.size cell')[H.size]? = some cell'
    rw [Array.getElem?_setIfInBounds_self_of_lt (by rw [hT, Array.size_push]; omega)]
  · rw [hW.alike.findClass, hcls']
    exact h1
end WTR
/-- a call that comes back as a throw -/
theorem wt_thrown {p : Program} {l : Launch} {e : Env} {R : Room} {s : State} {m : MethodId} {args : Array Value} {below : List Frame} {meth : Method} {c : Code} {T : State} {locs : List Loc} {cells slots : Nat}
    (XX : Stand p l e R s m args below meth c T locs cells slots) {y : MethodName} {b : ByteArray} {n : Nat} {ret : Option FieldType} {ws' : List Cond} {rm : Room} {Pc : Array Value → State → Prop} {Qc : Array Value → State → Outcome → State → Prop} {mc ms : Nat} {free : Addr → Prop}
    (hM : wt_met l y (Cond.code y b n ret :: ws') rm Pc Qc mc ms free) {g : JFrame} {ig : Instr} {len : Nat} {mk : MethodId} {a : Array Value} (hg : g.method = m) (hsize : g.locals.size = c.maxLocals) (hdg : decode c.code g.pc = .ok (ig, len)) (hn : T.methodNamed? y = some mk)
    (hws : ∀ w ∈ (Cond.code y b n ret :: ws'), w.before a T = true) (hini : (Cond.initialized y.cls).before a T = true)
    (hfr : rm.frames + 1 ≤ R.frames) (hlo : 2 * g.monitorRoom + (g.stack.map fun v => v.category).sum + (n + 11) + rm.locals ≤ R.locals) (hc : cells + rm.cells ≤ R.cells) (hs : slots + rm.slots ≤ R.slots) (hP : Pc a (T.calling g mk a)) :
    ∃ (x : Addr) (t T' : State) (L : List Loc), Stand p l e R s m args below meth c T' (locs ++ L) (cells + mc) (slots + ms) ∧ (∀ q ∈ L, free q.base) ∧ T'.heap = t.heap ∧ T'.vm = t.vm ∧ Qc a (T.calling g mk a) (.threw x) t ∧
      Steps p.tables e below (doInvoke e (T.setTop g) [] mk a).1 ((T'.setTop g).pushFrame (.throwing x)) := by
  obtain ⟨methY, cY, hmY, hcY, -, hlY, -, -, -, -⟩ := Cond.code_spec hn (hws _ List.mem_cons_self)
  obtain ⟨kY, hkY, -⟩ := className_of_methodNamed hn
  have hinitY : kY.init = .initialized := Cond.initialized_spec (findClass_of_methodNamed hn) hkY hini
  have h : At T g.method c below := by rw [hg]; exact XX.here
  have happ : (headSpec (Cond.code y b n ret :: ws') rm).appliesLoose y e.platform (T.calling g mk a) = true :=
    Spec.appliesLoose_calling (g := g) h hdg hn hkY hinitY (XX.room_calling (g := g) (R' := rm) hsize hmY hcY hfr (by rw [hlY]; omega) hc hs) (atoms_intro hws)
  obtain ⟨mid, hmid⟩ := h.above
  have hfr2 : (T.setTop g).frames = (.java g :: mid) ++ below := by rw [State.frames_setTop' g h.top, hmid]; rfl
  obtain ⟨o, s₂, hsteps, -, hend, hq, L, hF, hL⟩ := Steps.callFree hM p XX.admits XX.cas XX.clock (acts := []) hfr2 happ hP trivial
  obtain ⟨⟨x, rfl⟩, hW, hsame⟩ := hF
  rw [State.frames_setTop' g h.top, XX.tail] at hend
  obtain ⟨T', X', hW', hB, ht⟩ := XX.outOfThrown hg (mk := mk) (a := a) hend hW hsame
  refine ⟨x, s₂, T', L, X', hL, ?_, ?_, hq, ?_⟩
  · rw [ht]; exact (Stand.throwing_heap T' g x).symm
  · rw [ht]; exact (Stand.throwing_vm T' g x).symm
  · rw [← ht]; exact hsteps
section WTS
variable {X : ww_X} {cc : ByteArray} {own : String} {cs ss pc : Nat} {L L' : List (Nat × Value)} {st : List Value} {ws : va_W}
theorem wt_back (O : ww_ok X cc own) {mc ms : Nat} {w0 w1 ws' : va_W} {ex : String} {H : Heap} {ls : Array Slot} {locs : List Loc} {st0 : List Value}
    (hr : ∀ T : State, T.heap = H → Stand (ww_p X) (ww_l X) (ww_e X) (ww_R X) (ww_s X) (ww_m X) (ww_a X) (ww_b X) (ww_h X) (ww_c X) T locs cs ss → ∃ (x : Addr) (z t T' : State) (L2 : List Loc), z.heap = H ∧ Stand (ww_p X) (ww_l X) (ww_e X) (ww_R X) (ww_s X) (ww_m X) (ww_a X) (ww_b X) (ww_h X) (ww_c X) T' (locs ++ L2) (cs + mc) (ss + ms) ∧ (∀ q ∈ L2, va_A w0 H.size q.base) ∧ T'.heap = t.heap ∧ T'.vm = t.vm ∧ (wt_cell ex H.size x t ∧ va_P (ww_D X) cx_cl w1 t.heap ∧ va_F (va_A w0 H.size) z t) ∧ ∀ tg, Steps (ww_p X).tables (ww_e X) (ww_b X) ((T'.setTop (F0 (ww_m X) pc ls st)).pushFrame (.throwing x)) tg → Steps (ww_p X).tables (ww_e X) (ww_b X) (T.setTop (F0 (ww_m X) pc ls st0)) tg)
    (hl : lv_has ls (ww_n X) L) (hP : va_P (ww_D X) cx_cl ws H) (hD : va_D (ww_A X) ws) (hS : va_S (ww_A X) (ww_s X).heap H locs) (hm : w1.map (fun q => q.1) = w0.map (fun q => q.1))
    (isC isR pm : List Nat) (hC : isC.map (fun i => ws[i]?) = w0.map some) (hcn : va_nd isC = true) (hR : isR.map (fun i => ws[i]?) = (isR.filterMap (fun i => ws[i]?)).map some) (hn : va_nd isR = true) (hdis : ∀ i ∈ isR, i ∉ isC)
    (hp1 : pm.filterMap (fun i => (isR.filterMap (fun i => ws[i]?) ++ w1)[i]?) = ws') (hp2 : pm.map (fun i => (isR.filterMap (fun i => ws[i]?) ++ w1)[i]?) = ws'.map some) (hpn : va_nd pm = true)
    (k : wt_at X (cs + mc) (ss + ms) pc L ex ws') : ww_W X H locs cs ss (F0 (ww_m X) pc ls st0) := by
  intro T hT XX
  obtain ⟨x, z, t, T', L2, h0, X', hL, e1, e2, ⟨⟨cell, hx1, hx2, hx3, hx4⟩, hP1, hz, hk⟩, go⟩ := hr T hT XX
  rw [h0] at hz hk
  have hF := va_free hD hS O.a isC hC
  have hD1 : va_D (va_A w0 H.size) w1 := ww_Dmap ((hD.sub isC hcn hC).self) hm
  rw [← e1] at hP1 hz hk hx2
  obtain ⟨hP2, hD2⟩ := va_join hP hD isC isR hC hR hn hdis hk hF hP1 hD1
  have hS2 : va_S (ww_A X) (ww_s X).heap T'.heap (locs ++ L2) := by
    refine ⟨Nat.le_trans hS.1 hz, fun q h1 h2 => ?_, fun q hq => ?_⟩
    · rw [hk q (Nat.lt_of_lt_of_le h1 hS.1) (fun z => h2 (hF q z))]
      exact hS.2.1 q h1 h2
    · rcases List.mem_append.mp hq with h | h
      · exact hS.2.2 q h
      · exact hF _ (hL q h)
  obtain ⟨t2, a1, b1⟩ := k T'.heap ls (locs ++ L2) st x cell hl (hP2.sub pm hp1) (hD2.sub pm hpn hp2) hS2 (Nat.le_trans hS.1 hx1) hx2 hx3 (by rw [← X'.warmed.alike.findClass, e2]; exact hx4) T' rfl X'
  exact ⟨t2, go t2 a1, b1⟩
theorem wt_callS (O : ww_ok X cc own) {index na n : Nat} {y : MethodName} {b : ByteArray} {ret : Option FieldType} {rm : Room} {As : List Value} {w0 w1 ws' : va_W} {ex : String} (hM : wt_ct (ww_l X) (ww_D X) (ww_g X) y b n ret rm As w0 ex w1) (hs : ww_site own index y b n ret na) (hst : Cond.static y ∈ lw_good)
    (hRm : rm.frames + 1 ≤ (ww_R X).frames ∧ 8 + (n + 11) + rm.locals ≤ (ww_R X).locals) (hcs : cs + rm.cells ≤ (ww_R X).cells) (hss : ss + rm.slots ≤ (ww_R X).slots) (hna : As.length = na) (hst8 : (st.map fun v => v.category).sum ≤ 8) (d : decode cc pc = .ok (.invokestatic index, 3)) {st0 : List Value} (hstk : st0 = As.reverse ++ st)
    (isC isR pm : List Nat) (hC : isC.map (fun i => ws[i]?) = w0.map some) (hcn : va_nd isC = true) (hR : isR.map (fun i => ws[i]?) = (isR.filterMap (fun i => ws[i]?)).map some) (hn : va_nd isR = true) (hdis : ∀ i ∈ isR, i ∉ isC)
    (hp1 : pm.filterMap (fun i => (isR.filterMap (fun i => ws[i]?) ++ w1)[i]?) = ws') (hp2 : pm.map (fun i => (isR.filterMap (fun i => ws[i]?) ++ w1)[i]?) = ws'.map some) (hpn : va_nd pm = true)
    (k : wt_at X (cs + rm.cells) (ss + rm.slots) pc L ex ws') : ww_at X cs ss pc L st0 ws := by
  intro H ls locs hl hP hD hS
  subst hstk
  have hwc : va_P (ww_D X) cx_cl w0 H := hP.sub isC (ww_fm hC)
  refine wt_back O (w0 := w0) (w1 := w1) (st := st) (fun T hT XX => ?_) hl hP hD hS hM.1 isC isR pm hC hcn hR hn hdis hp1 hp2 hpn k
  have hcode := O.t _ hs.1
  obtain ⟨mk, hnamed⟩ := Cond.code_named hcode
  obtain ⟨methM, cM, hmethM, -, -, -, -, -, -, hsigM⟩ := Cond.code_spec hnamed hcode
  have hstatic : methM.isStatic = true := Cond.static_spec hnamed hmethM (O.t _ hst)
  obtain ⟨kP, hkP, -⟩ := className_of_methodNamed hnamed
  have hinitP : kP.init = .initialized := Cond.initialized_spec (findClass_of_methodNamed hnamed) hkP (O.t _ hs.2.2.1)
  have hlen : As.length = methM.sig.parameters.length := by
    have h2 := hs.2.2.2.2.2
    rw [hsigM] at h2
    rw [hna]
    exact (Option.some.inj h2).symm
  obtain ⟨vm₁, X₁, hstep₁⟩ := XX.invokestatic O.x O.o (O.t _ hs.2.1) hnamed hmethM hstatic hkP hinitP ⟨hs.2.2.2.1, hs.2.2.2.2.1⟩ (g := F0 (ww_m X) pc ls (As.reverse ++ st)) rfl (argsL := As) (rest := st) hlen rfl (by rw [O.b]; exact d)
  have hW₁ := X₁.warmed
  have hT' : (T.setVm vm₁).heap = H := hT
  obtain ⟨x, t, T', L2, X', hL, e1, e2, ⟨⟨x', hx', hcell⟩, hq1, hq2⟩, hst2⟩ := wt_thrown X₁ (hM.2 H.size) (g := F0 (ww_m X) pc ls st) (ig := .invokestatic index) (len := 3) (mk := mk) (a := As.toArray) rfl (hl.1.trans O.n.symm) (by rw [O.b]; exact d) (X₁.named hnamed)
    (pay_in O.t (ww_gi hs.1) · · _ _ hW₁) (word_at hW₁ (Or.inl rfl) (O.t _ hs.2.2.1)) hRm.1 (by show 2 * 0 + (st.map fun v => v.category).sum + (n + 11) + rm.locals ≤ (ww_R X).locals; omega) hcs hss (ww_blind _ _ _ _ ⟨rfl, by rw [hT'], by rw [hT']; exact hwc, O.go hS hT' hW₁, (hD.sub isC hcn hC).weaken (fun _ _ _ _ => trivial)⟩)
  cases hx'
  exact ⟨x, _, t, T', L2, hT, X', hL, e1, e2, ⟨hcell, hq1, hq2⟩, fun tg h => hstep₁ _ fun acts => by rw [doInvoke_state]; exact hst2.trans h⟩
theorem wt_callV (O : ww_ok X cc own) {index na n a q0 ci : Nat} {q : vw_C} {fs : List Value} {y : MethodName} {b : ByteArray} {ret : Option FieldType} {rm : Room} {As : List Value} {w0 w1 ws' : va_W} {ex : String} (hM : wt_ct (ww_l X) (ww_D X) (ww_g X) y b n ret rm (.ref a :: As) w0 ex w1) (hs : ww_site own index y b n ret na) (hvi : ww_virt y) (hc : cx_cl[ci]? = some q) (hq : q.1 = y.cls) (he : ws[q0]? = some (a, .inr (ci, fs)))
    (hRm : rm.frames + 1 ≤ (ww_R X).frames ∧ 8 + (n + 11) + rm.locals ≤ (ww_R X).locals) (hcs : cs + rm.cells ≤ (ww_R X).cells) (hss : ss + rm.slots ≤ (ww_R X).slots) (hna : As.length = na) (hst8 : (st.map fun v => v.category).sum ≤ 8) (d : decode cc pc = .ok (.invokevirtual index, 3)) {st0 : List Value} (hstk : st0 = As.reverse ++ .ref a :: st)
    (isC isR pm : List Nat) (hC : isC.map (fun i => ws[i]?) = w0.map some) (hcn : va_nd isC = true) (hR : isR.map (fun i => ws[i]?) = (isR.filterMap (fun i => ws[i]?)).map some) (hn : va_nd isR = true) (hdis : ∀ i ∈ isR, i ∉ isC)
    (hp1 : pm.filterMap (fun i => (isR.filterMap (fun i => ws[i]?) ++ w1)[i]?) = ws') (hp2 : pm.map (fun i => (isR.filterMap (fun i => ws[i]?) ++ w1)[i]?) = ws'.map some) (hpn : va_nd pm = true)
    (k : wt_at X (cs + rm.cells) (ss + rm.slots) pc L ex ws') : ww_at X cs ss pc L st0 ws := by
  intro H ls locs hl hP hD hS
  subst hstk
  have hwc : va_P (ww_D X) cx_cl w0 H := hP.sub isC (ww_fm hC)
  refine wt_back O (w0 := w0) (w1 := w1) (st := st) (fun T hT XX => ?_) hl hP hD hS hM.1 isC isR pm hC hcn hR hn hdis hp1 hp2 hpn k
  have hrec := va_recv O.k hP hc he
  rw [hq] at hrec
  obtain ⟨cellB, hcB, hoB, hclB⟩ := hrec
  obtain ⟨mk, methM, hnamed, hmethM, hstM, habM⟩ := Cond.instanceMethod_spec (O.t _ hvi.1)
  obtain ⟨methM', cM, hmethM', -, -, -, -, -, -, hsigM⟩ := Cond.code_spec hnamed (O.t _ hs.1)
  cases hmethM.symm.trans hmethM'
  obtain ⟨c2, r2, m2, q1, q2, q3, q4, kP, hkP, hkPi⟩ := Cond.selects_spec (O.t _ hvi.2)
  cases hclB.symm.trans q1
  cases (State.methodFound?_of_named hnamed ⟨hs.2.2.2.1, hs.2.2.2.2.1⟩).symm.trans q2
  cases hnamed.symm.trans q3
  have hselP : selectMethod (ww_e X).platform (ww_s X).vm cellB.cls mk = .method mk := by rw [Launch.admits_selectMethod XX.admits]; exact q4
  have hlen : As.length = methM.sig.parameters.length := by
    have h2 := hs.2.2.2.2.2
    rw [hsigM] at h2
    rw [hna]
    exact (Option.some.inj h2).symm
  obtain ⟨vm₁, X₁, hstep₁⟩ := XX.invokevirtual O.x O.o (O.t _ hs.2.1) hnamed hmethM hstM hkP hkPi ⟨hs.2.2.2.1, hs.2.2.2.2.1⟩ (a := a) (cell := cellB) (by rw [hT]; exact hcB)
    (fun z h => by rw [h] at hoB; cases hoB) hselP hmethM habM hkP hkPi (g := F0 (ww_m X) pc ls (As.reverse ++ .ref a :: st)) rfl (argsL := As) (rest := st) hlen rfl (by rw [O.b]; exact d)
  have hW₁ := X₁.warmed
  have hT' : (T.setVm vm₁).heap = H := hT
  obtain ⟨x, t, T', L2, X', hL, e1, e2, ⟨⟨x', hx', hcell⟩, hq1, hq2⟩, hst2⟩ := wt_thrown X₁ (hM.2 H.size) (g := F0 (ww_m X) pc ls st) (ig := .invokevirtual index) (len := 3) (mk := mk) (a := (Value.ref a :: As).toArray) rfl (hl.1.trans O.n.symm) (by rw [O.b]; exact d) (X₁.named hnamed)
    (pay_in O.t (ww_gi hs.1) · · _ _ hW₁) (word_at hW₁ (Or.inl rfl) (O.t _ hs.2.2.1)) hRm.1 (by show 2 * 0 + (st.map fun v => v.category).sum + (n + 11) + rm.locals ≤ (ww_R X).locals; omega) hcs hss (ww_blind _ _ _ _ ⟨rfl, by rw [hT'], by rw [hT']; exact hwc, O.go hS hT' hW₁, (hD.sub isC hcn hC).weaken (fun _ _ _ _ => trivial)⟩)
  cases hx'
  exact ⟨x, _, t, T', L2, hT, X', hL, e1, e2, ⟨hcell, hq1, hq2⟩, fun tg h => hstep₁ _ fun acts => by rw [doInvoke_state]; exact hst2.trans h⟩
end WTS
