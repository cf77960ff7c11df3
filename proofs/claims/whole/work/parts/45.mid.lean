/-! a call on a stretch of the world -/
theorem wm_at {α : Type} : ∀ (B A C : List α), (List.range' A.length B.length).map (fun i => (A ++ (B ++ C))[i]?) = B.map some
  | [], A, C => rfl
  | b :: B, A, C => by
    rw [List.length_cons, List.range'_succ, List.map_cons, List.map_cons]
    have h1 : (A ++ (b :: B ++ C))[A.length]? = some b := by
      rw [List.getElem?_append_right (Nat.le_refl _), Nat.sub_self]
      rfl
    have h2 := wm_at B (A ++ [b]) C
    rw [List.length_append, List.length_singleton, List.append_assoc] at h2
    rw [h1]
    exact congrArg (some b :: ·) h2
theorem wm_fm {α β : Type} {f : β → Option α} : ∀ {is : List β} {B : List α}, is.map f = B.map some → is.filterMap f = B
  | [], [], _ => rfl
  | [], b :: B, h => by simp at h
  | i :: is, [], h => by simp at h
  | i :: is, b :: B, h => by
    simp only [List.map_cons, List.cons.injEq] at h
    rw [List.filterMap_cons, h.1, wm_fm h.2]
theorem wm_nd : ∀ (n a : Nat), va_nd (List.range' a n) = true
  | 0, _ => rfl
  | n + 1, a => by
    rw [List.range'_succ]
    unfold va_nd
    rw [wm_nd n (a + 1), Bool.and_true, decide_eq_true_eq, List.mem_range']
    rintro ⟨i, -, h⟩
    omega
theorem wm_nda : ∀ (l k : List Nat), va_nd l = true → va_nd k = true → (∀ i ∈ l, i ∉ k) → va_nd (l ++ k) = true
  | [], k, _, h, _ => h
  | a :: l, k, h1, h2, h3 => by
    rw [List.cons_append]
    unfold va_nd at h1 ⊢
    rw [Bool.and_eq_true, decide_eq_true_eq] at h1
    rw [wm_nda l k h1.2 h2 (fun i hi => h3 i (List.mem_cons_of_mem _ hi)), Bool.and_true, decide_eq_true_eq, List.mem_append]
    rintro (h | h)
    · exact h1.1 h
    · exact h3 a List.mem_cons_self h
theorem wm_len {w0 w1 : va_W} (h : w1.map (fun q => q.1) = w0.map (fun q => q.1)) : w1.length = w0.length := by
  have := congrArg List.length h
  simpa using this
abbrev wm_C (A w0 : va_W) : List Nat := List.range' A.length w0.length
abbrev wm_R (A w0 C : va_W) : List Nat := List.range' 0 A.length ++ List.range' (A.length + w0.length) C.length
abbrev wm_P (A w0 C : va_W) : List Nat := List.range' 0 A.length ++ (List.range' (A.length + C.length) w0.length ++ List.range' A.length C.length)
theorem wm_R1 (A w0 C : va_W) : (wm_R A w0 C).map (fun i => (A ++ (w0 ++ C))[i]?) = (A ++ C).map some := by
  have h1 := wm_at A [] (w0 ++ C)
  have h2 := wm_at C (A ++ w0) []
  rw [List.length_append, List.append_nil, List.append_assoc] at h2
  rw [List.map_append, List.map_append, h2]
  exact congrArg (· ++ C.map some) h1
theorem wm_P1 {A w0 w1 C : va_W} (hl : w1.length = w0.length) : (wm_P A w0 C).map (fun i => ((A ++ C) ++ w1)[i]?) = (A ++ (w1 ++ C)).map some := by
  have h1 := wm_at A [] (C ++ w1)
  have h2 := wm_at w1 (A ++ C) []
  have h3 := wm_at C A w1
  rw [List.length_append, List.append_nil, hl] at h2
  rw [List.append_assoc] at h2 ⊢
  rw [List.map_append, List.map_append, h2, h3, List.map_append, List.map_append]
  exact congrArg (· ++ (w1.map some ++ C.map some)) h1
theorem wm_dis (A w0 C : va_W) : ∀ i ∈ wm_R A w0 C, i ∉ wm_C A w0 := by
  intro i hi hc
  rw [List.mem_range'] at hc
  obtain ⟨j, hj, rfl⟩ := hc
  rcases List.mem_append.mp hi with h | h <;> rw [List.mem_range'] at h <;> obtain ⟨k, hk, h⟩ := h <;> omega
theorem wm_ndR (A w0 C : va_W) : va_nd (wm_R A w0 C) = true := by
  refine wm_nda _ _ (wm_nd _ _) (wm_nd _ _) ?_
  intro i h1 h2
  rw [List.mem_range'] at h1 h2
  obtain ⟨j, hj, rfl⟩ := h1
  obtain ⟨k, hk, h⟩ := h2
  omega
theorem wm_ndP (A w0 C : va_W) : va_nd (wm_P A w0 C) = true := by
  refine wm_nda _ _ (wm_nd _ _) (wm_nda _ _ (wm_nd _ _) (wm_nd _ _) ?_) ?_
  · intro i h1 h2
    rw [List.mem_range'] at h1 h2
    obtain ⟨j, hj, rfl⟩ := h1
    obtain ⟨k, hk, h⟩ := h2
    omega
  · intro i h1 h2
    rw [List.mem_range'] at h1
    obtain ⟨j, hj, rfl⟩ := h1
    rcases List.mem_append.mp h2 with h | h <;> rw [List.mem_range'] at h <;> obtain ⟨k, hk, h⟩ := h <;> omega
section WMC
variable {X : ww_X} {cc : ByteArray} {own : String} {cs ss pc : Nat} {L : List (Nat × Value)} {st : List Value} {ws : va_W}
theorem wm_h {A w0 w1 C : va_W} (hl : w1.length = w0.length) : (wm_C A w0).map (fun i => (A ++ (w0 ++ C))[i]?) = w0.map some ∧ (wm_R A w0 C).map (fun i => (A ++ (w0 ++ C))[i]?) = ((wm_R A w0 C).filterMap (fun i => (A ++ (w0 ++ C))[i]?)).map some ∧ (wm_P A w0 C).filterMap (fun i => ((wm_R A w0 C).filterMap (fun i => (A ++ (w0 ++ C))[i]?) ++ w1)[i]?) = A ++ (w1 ++ C) ∧ (wm_P A w0 C).map (fun i => ((wm_R A w0 C).filterMap (fun i => (A ++ (w0 ++ C))[i]?) ++ w1)[i]?) = (A ++ (w1 ++ C)).map some := by
  have h1 := wm_R1 A w0 C
  have h2 := wm_fm h1
  have h3 := wm_P1 (A := A) (C := C) hl
  refine ⟨wm_at w0 A C, by rw [h2]; exact h1, ?_, by rw [h2]; exact h3⟩
  rw [h2]
  exact wm_fm h3
/-- a virtual call on the stretch w0 -/
theorem wm_callV (O : ww_ok X cc own) (A C : va_W) {index na n a ci : Nat} {y : MethodName} {b : ByteArray} {ret : Option FieldType} {rm : Room} {As fs : List Value} {w0 w1 : va_W} {r : Option Value} {q : vw_C} (hM : ww_ct (ww_l X) (ww_D X) (ww_g X) y b n ret rm (.ref a :: As) w0 r w1) (hs : ww_site own index y b n ret na) (hvi : ww_virt y) (hc : cx_cl[ci]? = some q) (hq : q.1 = y.cls) (he : w0[0]? = some (a, .inr (ci, fs)))
    (hRm : rm.frames + 1 ≤ (ww_R X).frames ∧ 8 + (n + 11) + rm.locals ≤ (ww_R X).locals) (hcs : cs + rm.cells ≤ (ww_R X).cells) (hss : ss + rm.slots ≤ (ww_R X).slots) (hna : As.length = na) (hst8 : (st.map fun v => v.category).sum ≤ 8) (d : decode cc pc = .ok (.invokevirtual index, 3)) {st0 : List Value} (hstk : st0 = As.reverse ++ .ref a :: st)
    (k : ww_at X (cs + rm.cells) (ss + rm.slots) (pc + 3) L (r.toList ++ st) (A ++ (w1 ++ C))) : ww_at X cs ss pc L st0 (A ++ (w0 ++ C)) := by
  obtain ⟨h1, h2, h3, h4⟩ := wm_h (A := A) (C := C) (wm_len hM.1)
  refine ww_callV (q0 := A.length) (fs := fs) O hM hs hvi hc hq ?_ hRm hcs hss hna hst8 d hstk (wm_C A w0) (wm_R A w0 C) (wm_P A w0 C) h1 (wm_nd _ _) h2 (wm_ndR _ _ _) (wm_dis A w0 C) h3 h4 (wm_ndP _ _ _) k
  rw [List.getElem?_append_right (Nat.le_refl _), Nat.sub_self, List.getElem?_append_left, he]
  cases w0 with
  | nil => simp at he
  | cons _ _ => simp
/-- such a one that throws -/
theorem wm_throwV (O : ww_ok X cc own) (A C : va_W) {index na n a ci : Nat} {y : MethodName} {b : ByteArray} {ret : Option FieldType} {rm : Room} {As fs : List Value} {w0 w1 : va_W} {ex : String} {q : vw_C} (hM : wt_ct (ww_l X) (ww_D X) (ww_g X) y b n ret rm (.ref a :: As) w0 ex w1) (hs : ww_site own index y b n ret na) (hvi : ww_virt y) (hc : cx_cl[ci]? = some q) (hq : q.1 = y.cls) (he : w0[0]? = some (a, .inr (ci, fs)))
    (hRm : rm.frames + 1 ≤ (ww_R X).frames ∧ 8 + (n + 11) + rm.locals ≤ (ww_R X).locals) (hcs : cs + rm.cells ≤ (ww_R X).cells) (hss : ss + rm.slots ≤ (ww_R X).slots) (hna : As.length = na) (hst8 : (st.map fun v => v.category).sum ≤ 8) (d : decode cc pc = .ok (.invokevirtual index, 3)) {st0 : List Value} (hstk : st0 = As.reverse ++ .ref a :: st)
    (k : wt_at X (cs + rm.cells) (ss + rm.slots) pc L ex (A ++ (w1 ++ C))) : ww_at X cs ss pc L st0 (A ++ (w0 ++ C)) := by
  obtain ⟨h1, h2, h3, h4⟩ := wm_h (A := A) (C := C) (wm_len hM.1)
  refine wt_callV (q0 := A.length) (fs := fs) O hM hs hvi hc hq ?_ hRm hcs hss hna hst8 d hstk (wm_C A w0) (wm_R A w0 C) (wm_P A w0 C) h1 (wm_nd _ _) h2 (wm_ndR _ _ _) (wm_dis A w0 C) h3 h4 (wm_ndP _ _ _) k
  rw [List.getElem?_append_right (Nat.le_refl _), Nat.sub_self, List.getElem?_append_left, he]
  cases w0 with
  | nil => simp at he
  | cons _ _ => simp
theorem ww_i2l (O : ww_ok X cc own) {x : Int32} (d : decode cc pc = .ok (.i2l, 1)) (k : ww_at X cs ss (pc + 1) L (.long x.toInt64 :: st) ws) : ww_at X cs ss pc L (.int x :: st) ws :=
  fun H ls locs hl hP hD hS => lv_i2l O.x O.b d rfl (k H ls locs hl hP hD hS)
/-! methods with an exception table -/
def wc_K (U : State) : Prop := ∀ q ∈ [("java/lang/IllegalStateException", "java/lang/IndexOutOfBoundsException"), ("java/lang/UnsupportedOperationException", "java/lang/IndexOutOfBoundsException"), ("java/lang/IllegalArgumentException", "java/lang/IndexOutOfBoundsException"), ("java/lang/UnsupportedOperationException", "java/lang/IllegalStateException"), ("java/lang/UnsupportedOperationException", "java/lang/IllegalArgumentException")], ∀ c1 c2, U.vm.findClass q.1 = some c1 → U.vm.findClass q.2 = some c2 → U.vm.assignable c1 c2 = false
theorem wc_K.go {s U : State} (h : wc_K s) (hW : s.WarmedH U.vm) : wc_K U := by
  intro q hq c1 c2 h1 h2
  rw [hW.alike.findClass] at h1 h2
  rw [hW.alike.assignable]
  exact h q hq c1 c2 h1 h2
def wc_ct (l : Launch) (D : va_G) (g : Nat → ClassId) (y : MethodName) (b : ByteArray) (n : Nat) (ret : Option FieldType) (hh : List (Nat × Nat × Nat × Nat)) (rm : Room) (As : List Value) (w0 : va_W) (r : Option Value) (w1 : va_W) : Prop :=
  w1.map (fun q => q.1) = w0.map (fun q => q.1) ∧ ∀ sz : Nat, Met l y (Cond.codeWith y b n ret hh :: lw_good) rm (va_Pc As (fun U => (U.heap.size = sz ∧ va_P D cx_cl w0 U.heap ∧ ww_K D g U ∧ va_D (fun _ => True) w0) ∧ wc_K U)) (fun _ st oc t => oc = .returned r ∧ va_P D cx_cl w1 t.heap ∧ va_F (va_A w0 sz) st t) rm.cells rm.slots (va_A w0 sz)
theorem wc_start {l : Launch} {D : va_G} {g : Nat → ClassId} {y : MethodName} {b : ByteArray} {n : Nat} {ret : Option FieldType} {hh : List (Nat × Nat × Nat × Nat)} {rm : Room} {As : List Value} {w0 : va_W} {v : Int32} {w1 : va_W} {L0 : List (Nat × Value)}
    (hy : plainName y.cls = true) (hret : ret = some .int) (hadr : w1.map (fun q => q.1) = w0.map (fun q => q.1)) (hn : (lg_sl As).length ≤ n) (hL0 : lv_args 0 As = L0)
    (body : ∀ X : ww_X, ww_ok X b y.cls → ww_l X = l → ww_D X = D → ww_g X = g → ww_R X = rm → ww_n X = n → (ww_c X).exceptionTable.toList.map (fun h => (h.startPc, h.endPc, h.handlerPc, h.catchType)) = hh → wc_K (ww_s X) → (∀ (pc : Nat) (L : List (Nat × Value)), decode b pc = .ok (.ireturn, 1) → ww_at X rm.cells rm.slots pc L [.int v] w1) → ww_at X 0 0 0 L0 [] w0) : wc_ct l D g y b n ret hh rm As w0 (some (.int v)) w1 := by
  subst hret
  refine ⟨hadr, fun sz => ?_⟩
  refine va_MetW (cc := b) (maxL := n) (ret := some .int) (hh := hh) hy rfl ?_
  intro p e s m args below meth c s₁ B hml hv
  obtain ⟨rfl, ⟨hsz, hP, hK, hD0⟩, hN⟩ := hv
  subst hsz
  have hts := atoms_spec (ws := Cond.codeWith y b n (some .int) hh :: lw_good) B.pre
  obtain ⟨m9, meth9, c9, hn9, hm9, hc9, -, -, htab, -⟩ := Cond.codeWith_spec (hts _ List.mem_cons_self)
  cases B.named.symm.trans hn9
  cases B.method.symm.trans hm9
  have X9 : Stand p l e (headSpec (Cond.codeWith y b n (some .int) hh :: lw_good) rm).room s m As.toArray below meth c s₁ [] 0 0 := Stand.of_body B
  cases X9.code.symm.trans hc9
  have hD := hD0.self (sz := s.heap.size)
  have hl := lv_entry As (n := n) hn
  rw [lg_entry_eq]
  rw [hL0] at hl
  have hlocks := B.notSynchronized
  have hr := B.returns
  refine body (p, l, e, rm, s, m, As.toArray, below, meth, c, va_A w0 s.heap.size, D, g, MQ below (fun _ st oc t => oc = .returned (some (.int v)) ∧ va_P D cx_cl w1 t.heap ∧ va_F (va_A w0 s.heap.size) st t) As.toArray s rm.cells rm.slots (va_A w0 s.heap.size), n)
    ⟨B.exec, B.bytes, hml, findClass_of_methodNamed B.named, fun w hw => hts w (List.mem_cons_of_mem _ hw), hK, fun q h => Or.inr h, hlocks, ww_noSt hP⟩ rfl rfl rfl rfl rfl htab hN ?_ s.heap _ [] hl hP hD va_S.rf
  intro pc L d H ls locs hl hP hD hS
  have hS2 : va_S (va_A w0 s.heap.size) s.heap H locs := hS
  have hP2 : va_P D cx_cl w1 H := hP
  show W p l e rm s m As.toArray below meth c H locs rm.cells rm.slots (MQ below (fun _ st oc t => oc = .returned (some (.int v)) ∧ va_P D cx_cl w1 t.heap ∧ va_F (va_A w0 s.heap.size) st t) As.toArray s rm.cells rm.slots (va_A w0 s.heap.size)) (F0 m pc ls [.int v])
  exact W.zret (v := v) B.exec B.bytes hr rfl (fun t ht hW => ⟨rfl, by rw [ht]; exact hP2, hS2.F ht⟩) hS2.2.2 d hlocks
end WMC
