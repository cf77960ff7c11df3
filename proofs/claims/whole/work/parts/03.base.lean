def px_b (b : Bool) : Int32 := if b then 1 else 0
theorem px_b_nar (b : Bool) : narrow .boolean (.int (px_b b)) = .int (px_b b) := by cases b <;> rfl
theorem px_b_vn (b : Bool) : vp_nar .boolean (px_b b) = px_b b := by cases b <;> rfl
theorem px_b_0 {b : Bool} : px_b b = 0 ↔ b = false := by cases b <;> decide
def ww_rm (k : Nat) : Room := { frames := k, cells := 0, slots := 0, locals := 40 * k }
/-! The walking judgement with everything that stays fixed in one activation bundled. ww_at: from every state at pc whose locals, stack and world are so, the end Q is reached. -/
abbrev ww_X : Type := Program × Launch × Env × Room × State × MethodId × Array Value × List Frame × Method × Code × (Nat → Prop) × va_G × (Nat → ClassId) × (State → Prop) × Nat
abbrev ww_p (X : ww_X) : Program := X.1
abbrev ww_l (X : ww_X) : Launch := X.2.1
abbrev ww_e (X : ww_X) : Env := X.2.2.1
abbrev ww_R (X : ww_X) : Room := X.2.2.2.1
abbrev ww_s (X : ww_X) : State := X.2.2.2.2.1
abbrev ww_m (X : ww_X) : MethodId := X.2.2.2.2.2.1
abbrev ww_a (X : ww_X) : Array Value := X.2.2.2.2.2.2.1
abbrev ww_b (X : ww_X) : List Frame := X.2.2.2.2.2.2.2.1
abbrev ww_h (X : ww_X) : Method := X.2.2.2.2.2.2.2.2.1
abbrev ww_c (X : ww_X) : Code := X.2.2.2.2.2.2.2.2.2.1
abbrev ww_A (X : ww_X) : Nat → Prop := X.2.2.2.2.2.2.2.2.2.2.1
abbrev ww_D (X : ww_X) : va_G := X.2.2.2.2.2.2.2.2.2.2.2.1
abbrev ww_g (X : ww_X) : Nat → ClassId := X.2.2.2.2.2.2.2.2.2.2.2.2.1
abbrev ww_Q (X : ww_X) : State → Prop := X.2.2.2.2.2.2.2.2.2.2.2.2.2.1
abbrev ww_n (X : ww_X) : Nat := X.2.2.2.2.2.2.2.2.2.2.2.2.2.2
abbrev ww_W (X : ww_X) (H : Heap) (locs : List Loc) (cs ss : Nat) (g : JFrame) : Prop := W (ww_p X) (ww_l X) (ww_e X) (ww_R X) (ww_s X) (ww_m X) (ww_a X) (ww_b X) (ww_h X) (ww_c X) H locs cs ss (ww_Q X) g
def ww_at (X : ww_X) (cs ss pc : Nat) (L : List (Nat × Value)) (st : List Value) (ws : va_W) : Prop :=
  ∀ (H : Heap) (ls : Array Slot) (locs : List Loc), lv_has ls (ww_n X) L → va_P (ww_D X) cx_cl ws H → va_D (ww_A X) ws → va_S (ww_A X) (ww_s X).heap H locs → ww_W X H locs cs ss (F0 (ww_m X) pc ls st)
def ww_nwk : Cond → Bool
  | .methodLinkNest .. => true
  | .declares _ => true
  | .castable .. => true
  | _ => false
theorem cx_nw_ok : cx_nw.all ww_nwk = true := by decide +kernel
theorem ww_nw_warm {w : Cond} (hk : ww_nwk w = true) {s U : State} (hW : s.WarmedH U.vm) (h : va_Nw w s) : va_Nw w U := by
  cases w <;> first | (simp [ww_nwk] at hk; done) | exact va_Nw.warmM hW h | exact va_Nw.warmD hW h | exact va_Nw.warmC hW h
theorem ww_nw_same {w : Cond} (hk : ww_nwk w = true) {s U : State} (hv : s.vm = U.vm) (h : va_Nw w s) : va_Nw w U := by
  cases w <;> first | (simp [ww_nwk] at hk; done) | exact va_Nw.same rfl hv h
def ww_swk : Cond → Bool
  | .laysStatic .. => true
  | .isRef (.static ..) => true
  | _ => false
theorem cx_sw_ok : cx_sw.all ww_swk = true := by decide +kernel
theorem ww_sw_heap {w : Cond} (hk : ww_swk w = true) {u U : State} (hv : u.vm = U.vm) (hh : ∀ (a : Nat) (cell : Cell), u.heap[a]? = some cell → cell.vm.isStatics = true → U.heap[a]? = some cell) (h : w.before #[] u = true) : w.before #[] U = true := by
  have hf : ∀ o n d, u.fieldFound? o n d = U.fieldFound? o n d := fun o n d => by unfold State.fieldFound?; rw [hv]
  cases w with
  | laysStatic o n d =>
    obtain ⟨c, k, i, f, a, cell, h1, h2, h3, h4, h5, h6, h7, h8, h9⟩ := Cond.laysStatic_spec h
    have h10 := hh a cell h5 h6
    rw [hf] at h2
    rw [hv] at h1
    simp [Cond.before, Cond.holds, Cond.value, h1, h2, h3, h4, h10, h6, h7, h8, h9]
  | isRef t =>
    cases t with
    | static o n d =>
      simp only [Cond.before, Cond.holds, Cond.value] at h ⊢
      cases hx : u.fieldFound? o n d with
      | none => simp [Term.eval, State.fieldNamed?, hx] at h
      | some x =>
        obtain ⟨c, k, i, f⟩ := x
        have hx2 := hx
        rw [hf] at hx2
        cases hst : f.isStatic with
        | false => simp [Term.eval, State.fieldNamed?, hx, hst] at h
        | true =>
          cases ha : k.statics with
          | none => simp [Term.eval, State.fieldNamed?, hx, hst, ha] at h
          | some a =>
            cases hc : u.heap[a]? with
            | none => simp [Term.eval, State.fieldNamed?, hx, hst, ha, hc] at h
            | some cell =>
              cases hi : cell.vm.isStatics with
              | false => simp [Term.eval, State.fieldNamed?, hx, hst, ha, hc, hi] at h
              | true =>
                have h10 := hh a cell hc hi
                simp [Term.eval, State.fieldNamed?, hx, hst, ha, hc, hi] at h
                simpa [Term.eval, State.fieldNamed?, hx2, hst, ha, h10, hi] using h
    | _ => simp [ww_swk] at hk
  | _ => simp [ww_swk] at hk
theorem ww_sw_go {w : Cond} (hk : ww_swk w = true) {s U : State} (hv : s.vm.Alike U.vm) (hh : ∀ (a : Nat) (cell : Cell), s.heap[a]? = some cell → cell.vm.isStatics = true → U.heap[a]? = some cell) (h : w.before #[] s = true) : w.before #[] U = true := by
  have hs : w.steady = true := by
    cases w with
    | laysStatic o n d => rfl
    | isRef t =>
      cases t with
      | static o n d => rfl
      | _ => simp [ww_swk] at hk
    | _ => simp [ww_swk] at hk
  refine ww_sw_heap (u := s.setVm U.vm) hk rfl hh ?_
  have := Cond.value_setVm₂ (args := #[]) (o := none) hv hv w [] hs
  unfold Cond.before Cond.holds at h ⊢
  rw [this]
  exact h
/-- what every world's tables say -/
def ww_K (D : va_G) (g : Nat → ClassId) (U : State) : Prop := va_K D cx_cl (cx_ty g) U ∧ (∀ w ∈ cx_nw, va_Nw w U) ∧ ∀ w ∈ cx_sw, w.before #[] U = true
def ww_ok (X : ww_X) (cc : ByteArray) (own : String) : Prop :=
  (ww_p X).tables.exec = Jvm.exec ∧ (ww_c X).code = cc ∧ (ww_c X).maxLocals = ww_n X ∧ (ww_s X).vm.findClass own = some (ww_m X).cls ∧ (∀ w ∈ lw_good, w.before (ww_a X) (ww_s X) = true) ∧ ww_K (ww_D X) (ww_g X) (ww_s X) ∧ (∀ q, (ww_s X).heap.size ≤ q → ww_A X q) ∧ (ww_h X).locks = false ∧ ∀ (a : Nat) (cell : Cell), (ww_s X).heap[a]? = some cell → cell.vm.isStatics = true → ¬ ww_A X a
section WWR
variable {X : ww_X} {cc : ByteArray} {own : String} {cs ss pc : Nat} {L L' : List (Nat × Value)} {st : List Value} {ws : va_W}
theorem ww_ok.x (O : ww_ok X cc own) : (ww_p X).tables.exec = Jvm.exec := O.1
theorem ww_ok.b (O : ww_ok X cc own) : (ww_c X).code = cc := O.2.1
theorem ww_ok.n (O : ww_ok X cc own) : (ww_c X).maxLocals = ww_n X := O.2.2.1
theorem ww_ok.o (O : ww_ok X cc own) : (ww_s X).vm.findClass own = some (ww_m X).cls := O.2.2.2.1
theorem ww_ok.t (O : ww_ok X cc own) : ∀ w ∈ lw_good, w.before (ww_a X) (ww_s X) = true := O.2.2.2.2.1
theorem ww_ok.k (O : ww_ok X cc own) : va_K (ww_D X) cx_cl (cx_ty (ww_g X)) (ww_s X) := O.2.2.2.2.2.1.1
theorem ww_ok.a (O : ww_ok X cc own) : ∀ q, (ww_s X).heap.size ≤ q → ww_A X q := O.2.2.2.2.2.2.1
theorem ww_ok.s (O : ww_ok X cc own) : (ww_h X).locks = false := O.2.2.2.2.2.2.2.1
theorem ww_ok.z (O : ww_ok X cc own) : ∀ (a : Nat) (cell : Cell), (ww_s X).heap[a]? = some cell → cell.vm.isStatics = true → ¬ ww_A X a := O.2.2.2.2.2.2.2.2
theorem ww_ok.go (O : ww_ok X cc own) {H : Heap} {locs : List Loc} (hS : va_S (ww_A X) (ww_s X).heap H locs) {U : State} (hU : U.heap = H) (hW : (ww_s X).WarmedH U.vm) : ww_K (ww_D X) (ww_g X) U := by
  obtain ⟨h1, h2, h3⟩ := O.2.2.2.2.2.1
  refine ⟨va_K.moved hW.alike h1, fun w hw => ww_nw_warm (List.all_eq_true.mp cx_nw_ok w hw) hW (h2 w hw), fun w hw => ww_sw_go (List.all_eq_true.mp cx_sw_ok w hw) hW.alike (fun a cell hc hi => ?_) (h3 w hw)⟩
  rw [hU, hS.2.1 a (Array.getElem?_eq_some_iff.mp hc).1 (O.z a cell hc hi)]
  exact hc
theorem ww_eqs {st' : List Value} (h : st = st') (k : ww_at X cs ss pc L st' ws) : ww_at X cs ss pc L st ws := h ▸ k
theorem ww_eql (h : L = L') (k : ww_at X cs ss pc L' st ws) : ww_at X cs ss pc L st ws := h ▸ k
theorem ww_eqw {ws' : va_W} (h : ws = ws') (k : ww_at X cs ss pc L st ws') : ww_at X cs ss pc L st ws := h ▸ k
theorem ww_wid {cs' ss' : Nat} (h1 : cs ≤ cs') (h2 : ss ≤ ss') (k : ww_at X cs' ss' pc L st ws) : ww_at X cs ss pc L st ws :=
  fun H ls locs hl hP hD hS => W.widen h1 h2 (k H ls locs hl hP hD hS)
/-- fewer locals are looked at -/
theorem ww_sub (ks : List Nat) (hL : lv_pick L ks = L') (k : ww_at X cs ss pc L' st ws) : ww_at X cs ss pc L st ws :=
  fun H ls locs hl hP hD hS => k H ls locs (lv_sub hl ks hL) hP hD hS
/-- a local is set: the list keeps its order -/
def ww_up : List (Nat × Value) → Nat → Value → List (Nat × Value)
  | [], i, v => [(i, v)]
  | (j, w) :: t, i, v => if j = i then (i, v) :: t.filter (fun q => !(q.1 == i)) else (j, w) :: ww_up t i v
theorem ww_up_mem : ∀ (L : List (Nat × Value)) (i : Nat) (v : Value) (q : Nat × Value), q ∈ ww_up L i v → q = (i, v) ∨ (q ∈ L ∧ q.1 ≠ i)
  | [], i, v, q, h => by
    simp [ww_up] at h
    exact Or.inl h
  | (j, w) :: t, i, v, q, h => by
    unfold ww_up at h
    by_cases hj : j = i
    · rw [if_pos hj] at h
      rcases List.mem_cons.mp h with h | h
      · exact Or.inl h
      · obtain ⟨h1, h2⟩ := List.mem_filter.mp h
        refine Or.inr ⟨List.mem_cons_of_mem _ h1, fun z => ?_⟩
        simp [z] at h2
    · rw [if_neg hj] at h
      rcases List.mem_cons.mp h with h | h
      · subst h
        exact Or.inr ⟨List.mem_cons_self, hj⟩
      · rcases ww_up_mem t i v q h with h | ⟨h1, h2⟩
        · exact Or.inl h
        · exact Or.inr ⟨List.mem_cons_of_mem _ h1, h2⟩
theorem ww_set {ls : Array Slot} {n i : Nat} {v : Value} (h1 : L.all (fun q => q.2.category == 1) = true) (h : lv_has ls n ((i, v) :: L.filter (fun q => !(q.1 == i) && !(q.1 + 1 == i && q.2.category == 2)))) : lv_has ls n (ww_up L i v) := by
  refine ⟨h.1, h.2.1, fun q hq => h.2.2 q ?_⟩
  rcases ww_up_mem L i v q hq with h2 | ⟨h2, h3⟩
  · rw [h2]; exact List.mem_cons_self
  · refine List.mem_cons_of_mem _ (List.mem_filter.mpr ⟨h2, ?_⟩)
    have h4 := List.all_eq_true.mp h1 q h2
    simp only [beq_iff_eq] at h4
    simp [h3, h4]
theorem ww_iconst (O : ww_ok X cc own) {n : Int} {v : Int32} (d : decode cc pc = .ok (.iconst n, 1)) (hv : Int32.ofInt n = v) (k : ww_at X cs ss (pc + 1) L (.int v :: st) ws) : ww_at X cs ss pc L st ws :=
  fun H ls locs hl hP hD hS => lv_iconst O.x O.b d hv (k H ls locs hl hP hD hS)
theorem ww_bipush (O : ww_ok X cc own) {n : Int} {v : Int32} (d : decode cc pc = .ok (.bipush n, 2)) (hv : (Int8.ofInt n).toInt32 = v) (k : ww_at X cs ss (pc + 2) L (.int v :: st) ws) : ww_at X cs ss pc L st ws :=
  fun H ls locs hl hP hD hS => lv_bipush O.x O.b d hv (k H ls locs hl hP hD hS)
theorem ww_sipush (O : ww_ok X cc own) {n : Int} {v : Int32} (d : decode cc pc = .ok (.sipush n, 3)) (hv : (Int16.ofInt n).toInt32 = v) (k : ww_at X cs ss (pc + 3) L (.int v :: st) ws) : ww_at X cs ss pc L st ws :=
  fun H ls locs hl hP hD hS => lv_sipush O.x O.b d hv (k H ls locs hl hP hD hS)
theorem ww_iload_n (O : ww_ok X cc own) {i : Fin 4} {x : Int32} (d : decode cc pc = .ok (.iload_n i, 1)) (j : Nat) (hj : L[j]? = some ((i : Nat), .int x)) (k : ww_at X cs ss (pc + 1) L (.int x :: st) ws) : ww_at X cs ss pc L st ws :=
  fun H ls locs hl hP hD hS => lv_iload_n O.x O.b d rfl (lv_at hl j hj) (k H ls locs hl hP hD hS)
theorem ww_iload (O : ww_ok X cc own) {i : Nat} {x : Int32} (d : decode cc pc = .ok (.iload i, 2)) (j : Nat) (hj : L[j]? = some (i, .int x)) (k : ww_at X cs ss (pc + 2) L (.int x :: st) ws) : ww_at X cs ss pc L st ws :=
  fun H ls locs hl hP hD hS => lv_iload O.x O.b d (lv_at hl j hj) (k H ls locs hl hP hD hS)
theorem ww_aload_n (O : ww_ok X cc own) {i : Fin 4} {x : Nat} (d : decode cc pc = .ok (.aload_n i, 1)) (j : Nat) (hj : L[j]? = some ((i : Nat), .ref x)) (k : ww_at X cs ss (pc + 1) L (.ref x :: st) ws) : ww_at X cs ss pc L st ws :=
  fun H ls locs hl hP hD hS => lv_aload_n O.x O.b d rfl (lv_at hl j hj) (k H ls locs hl hP hD hS)
theorem ww_aload (O : ww_ok X cc own) {i : Nat} {x : Nat} (d : decode cc pc = .ok (.aload i, 2)) (j : Nat) (hj : L[j]? = some (i, .ref x)) (k : ww_at X cs ss (pc + 2) L (.ref x :: st) ws) : ww_at X cs ss pc L st ws :=
  fun H ls locs hl hP hD hS => lv_aload O.x O.b d (lv_at hl j hj) (k H ls locs hl hP hD hS)
theorem ww_istore_n (O : ww_ok X cc own) {i : Fin 4} {x : Int32} (d : decode cc pc = .ok (.istore_n i, 1)) (hn : (i : Nat) < ww_n X) (h1 : L.all (fun q => q.2.category == 1) = true) (hL : ww_up L (i : Nat) (.int x) = L') (k : ww_at X cs ss (pc + 1) L' st ws) : ww_at X cs ss pc L (.int x :: st) ws :=
  fun H ls locs hl hP hD hS => lv_istore_n O.x O.b d rfl hl hn rfl (fun ls' hl' => k H ls' locs (hL ▸ ww_set h1 hl') hP hD hS)
theorem ww_istore (O : ww_ok X cc own) {i : Nat} {x : Int32} (d : decode cc pc = .ok (.istore i, 2)) (hn : i < ww_n X) (h1 : L.all (fun q => q.2.category == 1) = true) (hL : ww_up L i (.int x) = L') (k : ww_at X cs ss (pc + 2) L' st ws) : ww_at X cs ss pc L (.int x :: st) ws :=
  fun H ls locs hl hP hD hS => lv_istore O.x O.b d hl hn rfl (fun ls' hl' => k H ls' locs (hL ▸ ww_set h1 hl') hP hD hS)
theorem ww_astore_n (O : ww_ok X cc own) {i : Fin 4} {x : Nat} (d : decode cc pc = .ok (.astore_n i, 1)) (hn : (i : Nat) < ww_n X) (h1 : L.all (fun q => q.2.category == 1) = true) (hL : ww_up L (i : Nat) (.ref x) = L') (k : ww_at X cs ss (pc + 1) L' st ws) : ww_at X cs ss pc L (.ref x :: st) ws :=
  fun H ls locs hl hP hD hS => lv_astore_n O.x O.b d rfl hl hn rfl (fun ls' hl' => k H ls' locs (hL ▸ ww_set h1 hl') hP hD hS)
theorem ww_astore (O : ww_ok X cc own) {i : Nat} {x : Nat} (d : decode cc pc = .ok (.astore i, 2)) (hn : i < ww_n X) (h1 : L.all (fun q => q.2.category == 1) = true) (hL : ww_up L i (.ref x) = L') (k : ww_at X cs ss (pc + 2) L' st ws) : ww_at X cs ss pc L (.ref x :: st) ws :=
  fun H ls locs hl hP hD hS => lv_astore O.x O.b d hl hn rfl (fun ls' hl' => k H ls' locs (hL ▸ ww_set h1 hl') hP hD hS)
theorem ww_iinc (O : ww_ok X cc own) {i : Nat} {n : Int} {x v : Int32} (d : decode cc pc = .ok (.iinc i n, 3)) (j : Nat) (hj : L[j]? = some (i, .int x)) (hv : x + Int32.ofInt n = v) (hn : i < ww_n X) (h1 : L.all (fun q => q.2.category == 1) = true) (hL : ww_up L i (.int v) = L') (k : ww_at X cs ss (pc + 3) L' st ws) : ww_at X cs ss pc L st ws :=
  fun H ls locs hl hP hD hS => lv_iinc O.x O.b d hl hj hv hn rfl (fun ls' hl' => k H ls' locs (hL ▸ ww_set h1 hl') hP hD hS)
theorem ww_iadd (O : ww_ok X cc own) {x y v : Int32} (d : decode cc pc = .ok (.iadd, 1)) (hv : x + y = v) (k : ww_at X cs ss (pc + 1) L (.int v :: st) ws) : ww_at X cs ss pc L (.int y :: .int x :: st) ws :=
  fun H ls locs hl hP hD hS => lv_iadd O.x O.b d (by rw [hv]; exact k H ls locs hl hP hD hS)
theorem ww_isub (O : ww_ok X cc own) {x y v : Int32} (d : decode cc pc = .ok (.isub, 1)) (hv : x - y = v) (k : ww_at X cs ss (pc + 1) L (.int v :: st) ws) : ww_at X cs ss pc L (.int y :: .int x :: st) ws :=
  fun H ls locs hl hP hD hS => lv_isub O.x O.b d (by rw [hv]; exact k H ls locs hl hP hD hS)
theorem ww_imul (O : ww_ok X cc own) {x y v : Int32} (d : decode cc pc = .ok (.imul, 1)) (hv : x * y = v) (k : ww_at X cs ss (pc + 1) L (.int v :: st) ws) : ww_at X cs ss pc L (.int y :: .int x :: st) ws :=
  fun H ls locs hl hP hD hS => lv_imul O.x O.b d (by rw [hv]; exact k H ls locs hl hP hD hS)
theorem ww_iand (O : ww_ok X cc own) {x y v : Int32} (d : decode cc pc = .ok (.iand, 1)) (hv : x &&& y = v) (k : ww_at X cs ss (pc + 1) L (.int v :: st) ws) : ww_at X cs ss pc L (.int y :: .int x :: st) ws :=
  fun H ls locs hl hP hD hS => lv_iand O.x O.b d (by rw [hv]; exact k H ls locs hl hP hD hS)
theorem ww_idiv (O : ww_ok X cc own) {x y v : Int32} (d : decode cc pc = .ok (.idiv, 1)) (hne : ¬ y = 0) (hv : x / y = v) (k : ww_at X cs ss (pc + 1) L (.int v :: st) ws) : ww_at X cs ss pc L (.int y :: .int x :: st) ws :=
  fun H ls locs hl hP hD hS => lv_idiv O.x O.b d hne (by rw [hv]; exact k H ls locs hl hP hD hS)
theorem ww_irem (O : ww_ok X cc own) {x y v : Int32} (d : decode cc pc = .ok (.irem, 1)) (hne : ¬ y = 0) (hv : x - x / y * y = v) (k : ww_at X cs ss (pc + 1) L (.int v :: st) ws) : ww_at X cs ss pc L (.int y :: .int x :: st) ws :=
  fun H ls locs hl hP hD hS => lv_irem O.x O.b d hne (by rw [hv]; exact k H ls locs hl hP hD hS)
theorem ww_dup (O : ww_ok X cc own) {v : Value} (d : decode cc pc = .ok (.dup, 1)) (hv : v.category = 1) (k : ww_at X cs ss (pc + 1) L (v :: v :: st) ws) : ww_at X cs ss pc L (v :: st) ws :=
  fun H ls locs hl hP hD hS => lv_dup O.x O.b d hv (k H ls locs hl hP hD hS)
theorem ww_pop (O : ww_ok X cc own) {v : Value} (d : decode cc pc = .ok (.pop, 1)) (hv : v.category = 1) (k : ww_at X cs ss (pc + 1) L st ws) : ww_at X cs ss pc L (v :: st) ws :=
  fun H ls locs hl hP hD hS => lv_pop O.x O.b d hv (k H ls locs hl hP hD hS)
theorem ww_goto (O : ww_ok X cc own) {off : Int} {tgt : Nat} (d : decode cc pc = .ok (.goto off, 3)) (ht : (pc : Int) + off = (tgt : Int)) (k : ww_at X cs ss tgt L st ws) : ww_at X cs ss pc L st ws :=
  fun H ls locs hl hP hD hS => lv_goto O.x O.b d ht (k H ls locs hl hP hD hS)
theorem ww_if_eq (O : ww_ok X cc own) {x : Int32} {off : Int} {tgt : Nat} (d : decode cc pc = .ok (.ifCond .eq off, 3)) (ht : (pc : Int) + off = (tgt : Int)) (kt : x = 0 → ww_at X cs ss tgt L st ws) (kf : ¬ x = 0 → ww_at X cs ss (pc + 3) L st ws) : ww_at X cs ss pc L (.int x :: st) ws :=
  fun H ls locs hl hP hD hS => lv_if_eq O.x O.b d ht (fun h => kt h H ls locs hl hP hD hS) (fun h => kf h H ls locs hl hP hD hS)
theorem ww_icmp_eq (O : ww_ok X cc own) {x y : Int32} {off : Int} {tgt : Nat} (d : decode cc pc = .ok (.if_icmp .eq off, 3)) (ht : (pc : Int) + off = (tgt : Int)) (kt : x = y → ww_at X cs ss tgt L st ws) (kf : ¬ x = y → ww_at X cs ss (pc + 3) L st ws) : ww_at X cs ss pc L (.int y :: .int x :: st) ws :=
  fun H ls locs hl hP hD hS => lv_icmp_eq O.x O.b d ht (fun h => kt h H ls locs hl hP hD hS) (fun h => kf h H ls locs hl hP hD hS)
theorem ww_if_ne (O : ww_ok X cc own) {x : Int32} {off : Int} {tgt : Nat} (d : decode cc pc = .ok (.ifCond .ne off, 3)) (ht : (pc : Int) + off = (tgt : Int)) (kt : ¬ x = 0 → ww_at X cs ss tgt L st ws) (kf : x = 0 → ww_at X cs ss (pc + 3) L st ws) : ww_at X cs ss pc L (.int x :: st) ws :=
  fun H ls locs hl hP hD hS => lv_if_ne O.x O.b d ht (fun h => kt h H ls locs hl hP hD hS) (fun h => kf h H ls locs hl hP hD hS)
theorem ww_icmp_ne (O : ww_ok X cc own) {x y : Int32} {off : Int} {tgt : Nat} (d : decode cc pc = .ok (.if_icmp .ne off, 3)) (ht : (pc : Int) + off = (tgt : Int)) (kt : ¬ x = y → ww_at X cs ss tgt L st ws) (kf : x = y → ww_at X cs ss (pc + 3) L st ws) : ww_at X cs ss pc L (.int y :: .int x :: st) ws :=
  fun H ls locs hl hP hD hS => lv_icmp_ne O.x O.b d ht (fun h => kt h H ls locs hl hP hD hS) (fun h => kf h H ls locs hl hP hD hS)
theorem ww_if_lt (O : ww_ok X cc own) {x : Int32} {off : Int} {tgt : Nat} (d : decode cc pc = .ok (.ifCond .lt off, 3)) (ht : (pc : Int) + off = (tgt : Int)) (kt : x < 0 → ww_at X cs ss tgt L st ws) (kf : ¬ x < 0 → ww_at X cs ss (pc + 3) L st ws) : ww_at X cs ss pc L (.int x :: st) ws :=
  fun H ls locs hl hP hD hS => lv_if_lt O.x O.b d ht (fun h => kt h H ls locs hl hP hD hS) (fun h => kf h H ls locs hl hP hD hS)
theorem ww_icmp_lt (O : ww_ok X cc own) {x y : Int32} {off : Int} {tgt : Nat} (d : decode cc pc = .ok (.if_icmp .lt off, 3)) (ht : (pc : Int) + off = (tgt : Int)) (kt : x < y → ww_at X cs ss tgt L st ws) (kf : ¬ x < y → ww_at X cs ss (pc + 3) L st ws) : ww_at X cs ss pc L (.int y :: .int x :: st) ws :=
  fun H ls locs hl hP hD hS => lv_icmp_lt O.x O.b d ht (fun h => kt h H ls locs hl hP hD hS) (fun h => kf h H ls locs hl hP hD hS)
theorem ww_if_ge (O : ww_ok X cc own) {x : Int32} {off : Int} {tgt : Nat} (d : decode cc pc = .ok (.ifCond .ge off, 3)) (ht : (pc : Int) + off = (tgt : Int)) (kt : 0 ≤ x → ww_at X cs ss tgt L st ws) (kf : ¬ 0 ≤ x → ww_at X cs ss (pc + 3) L st ws) : ww_at X cs ss pc L (.int x :: st) ws :=
  fun H ls locs hl hP hD hS => lv_if_ge O.x O.b d ht (fun h => kt h H ls locs hl hP hD hS) (fun h => kf h H ls locs hl hP hD hS)
theorem ww_icmp_ge (O : ww_ok X cc own) {x y : Int32} {off : Int} {tgt : Nat} (d : decode cc pc = .ok (.if_icmp .ge off, 3)) (ht : (pc : Int) + off = (tgt : Int)) (kt : y ≤ x → ww_at X cs ss tgt L st ws) (kf : ¬ y ≤ x → ww_at X cs ss (pc + 3) L st ws) : ww_at X cs ss pc L (.int y :: .int x :: st) ws :=
  fun H ls locs hl hP hD hS => lv_icmp_ge O.x O.b d ht (fun h => kt h H ls locs hl hP hD hS) (fun h => kf h H ls locs hl hP hD hS)
theorem ww_if_gt (O : ww_ok X cc own) {x : Int32} {off : Int} {tgt : Nat} (d : decode cc pc = .ok (.ifCond .gt off, 3)) (ht : (pc : Int) + off = (tgt : Int)) (kt : 0 < x → ww_at X cs ss tgt L st ws) (kf : ¬ 0 < x → ww_at X cs ss (pc + 3) L st ws) : ww_at X cs ss pc L (.int x :: st) ws :=
  fun H ls locs hl hP hD hS => lv_if_gt O.x O.b d ht (fun h => kt h H ls locs hl hP hD hS) (fun h => kf h H ls locs hl hP hD hS)
theorem ww_icmp_gt (O : ww_ok X cc own) {x y : Int32} {off : Int} {tgt : Nat} (d : decode cc pc = .ok (.if_icmp .gt off, 3)) (ht : (pc : Int) + off = (tgt : Int)) (kt : y < x → ww_at X cs ss tgt L st ws) (kf : ¬ y < x → ww_at X cs ss (pc + 3) L st ws) : ww_at X cs ss pc L (.int y :: .int x :: st) ws :=
  fun H ls locs hl hP hD hS => lv_icmp_gt O.x O.b d ht (fun h => kt h H ls locs hl hP hD hS) (fun h => kf h H ls locs hl hP hD hS)
theorem ww_if_le (O : ww_ok X cc own) {x : Int32} {off : Int} {tgt : Nat} (d : decode cc pc = .ok (.ifCond .le off, 3)) (ht : (pc : Int) + off = (tgt : Int)) (kt : x ≤ 0 → ww_at X cs ss tgt L st ws) (kf : ¬ x ≤ 0 → ww_at X cs ss (pc + 3) L st ws) : ww_at X cs ss pc L (.int x :: st) ws :=
  fun H ls locs hl hP hD hS => lv_if_le O.x O.b d ht (fun h => kt h H ls locs hl hP hD hS) (fun h => kf h H ls locs hl hP hD hS)
theorem ww_icmp_le (O : ww_ok X cc own) {x y : Int32} {off : Int} {tgt : Nat} (d : decode cc pc = .ok (.if_icmp .le off, 3)) (ht : (pc : Int) + off = (tgt : Int)) (kt : x ≤ y → ww_at X cs ss tgt L st ws) (kf : ¬ x ≤ y → ww_at X cs ss (pc + 3) L st ws) : ww_at X cs ss pc L (.int y :: .int x :: st) ws :=
  fun H ls locs hl hP hD hS => lv_icmp_le O.x O.b d ht (fun h => kt h H ls locs hl hP hD hS) (fun h => kf h H ls locs hl hP hD hS)
theorem ww_icmp_eqN (O : ww_ok X cc own) {a b : Nat} {off : Int} {tgt : Nat} (d : decode cc pc = .ok (.if_icmp .eq off, 3)) (ht : (pc : Int) + off = (tgt : Int)) (ha : a < 2 ^ 31) (hb : b < 2 ^ 31) (kt : a = b → ww_at X cs ss tgt L st ws) (kf : a ≠ b → ww_at X cs ss (pc + 3) L st ws) : ww_at X cs ss pc L (.int (nI b) :: .int (nI a) :: st) ws :=
  ww_icmp_eq O d ht (fun h => kt ((nI_eq ha hb).mp h)) (fun h => kf (fun z => h ((nI_eq ha hb).mpr z)))
theorem ww_if_eqN (O : ww_ok X cc own) {a : Nat} {off : Int} {tgt : Nat} (d : decode cc pc = .ok (.ifCond .eq off, 3)) (ht : (pc : Int) + off = (tgt : Int)) (ha : a < 2 ^ 31) (kt : a = 0 → ww_at X cs ss tgt L st ws) (kf : a ≠ 0 → ww_at X cs ss (pc + 3) L st ws) : ww_at X cs ss pc L (.int (nI a) :: st) ws :=
  ww_if_eq O d ht (fun h => kt ((nI_eq ha (show (0 : Nat) < 2 ^ 31 by decide)).mp h)) (fun h => kf (fun z => h ((nI_eq ha (show (0 : Nat) < 2 ^ 31 by decide)).mpr z)))
theorem ww_icmp_neN (O : ww_ok X cc own) {a b : Nat} {off : Int} {tgt : Nat} (d : decode cc pc = .ok (.if_icmp .ne off, 3)) (ht : (pc : Int) + off = (tgt : Int)) (ha : a < 2 ^ 31) (hb : b < 2 ^ 31) (kt : a ≠ b → ww_at X cs ss tgt L st ws) (kf : a = b → ww_at X cs ss (pc + 3) L st ws) : ww_at X cs ss pc L (.int (nI b) :: .int (nI a) :: st) ws :=
  ww_icmp_ne O d ht (fun h => kt (fun z => h ((nI_eq ha hb).mpr z))) (fun h => kf ((nI_eq ha hb).mp h))
theorem ww_if_neN (O : ww_ok X cc own) {a : Nat} {off : Int} {tgt : Nat} (d : decode cc pc = .ok (.ifCond .ne off, 3)) (ht : (pc : Int) + off = (tgt : Int)) (ha : a < 2 ^ 31) (kt : a ≠ 0 → ww_at X cs ss tgt L st ws) (kf : a = 0 → ww_at X cs ss (pc + 3) L st ws) : ww_at X cs ss pc L (.int (nI a) :: st) ws :=
  ww_if_ne O d ht (fun h => kt (fun z => h ((nI_eq ha (show (0 : Nat) < 2 ^ 31 by decide)).mpr z))) (fun h => kf ((nI_eq ha (show (0 : Nat) < 2 ^ 31 by decide)).mp h))
theorem ww_icmp_ltN (O : ww_ok X cc own) {a b : Nat} {off : Int} {tgt : Nat} (d : decode cc pc = .ok (.if_icmp .lt off, 3)) (ht : (pc : Int) + off = (tgt : Int)) (ha : a < 2 ^ 31) (hb : b < 2 ^ 31) (kt : a < b → ww_at X cs ss tgt L st ws) (kf : b ≤ a → ww_at X cs ss (pc + 3) L st ws) : ww_at X cs ss pc L (.int (nI b) :: .int (nI a) :: st) ws :=
  ww_icmp_lt O d ht (fun h => kt ((nI_ltI ha hb).mp h)) (fun h => kf (by have h2 := mt (nI_ltI ha hb).mpr h; omega))
theorem ww_if_ltN (O : ww_ok X cc own) {a : Nat} {off : Int} {tgt : Nat} (d : decode cc pc = .ok (.ifCond .lt off, 3)) (ht : (pc : Int) + off = (tgt : Int)) (ha : a < 2 ^ 31) (kt : a < 0 → ww_at X cs ss tgt L st ws) (kf : 0 ≤ a → ww_at X cs ss (pc + 3) L st ws) : ww_at X cs ss pc L (.int (nI a) :: st) ws :=
  ww_if_lt O d ht (fun h => kt ((nI_ltI ha (show (0 : Nat) < 2 ^ 31 by decide)).mp h)) (fun h => kf (by have h2 := mt (nI_ltI ha (show (0 : Nat) < 2 ^ 31 by decide)).mpr h; omega))
theorem ww_icmp_geN (O : ww_ok X cc own) {a b : Nat} {off : Int} {tgt : Nat} (d : decode cc pc = .ok (.if_icmp .ge off, 3)) (ht : (pc : Int) + off = (tgt : Int)) (ha : a < 2 ^ 31) (hb : b < 2 ^ 31) (kt : b ≤ a → ww_at X cs ss tgt L st ws) (kf : a < b → ww_at X cs ss (pc + 3) L st ws) : ww_at X cs ss pc L (.int (nI b) :: .int (nI a) :: st) ws :=
  ww_icmp_ge O d ht (fun h => kt ((nI_leI hb ha).mp h)) (fun h => kf (by have h2 := mt (nI_leI hb ha).mpr h; omega))
theorem ww_if_geN (O : ww_ok X cc own) {a : Nat} {off : Int} {tgt : Nat} (d : decode cc pc = .ok (.ifCond .ge off, 3)) (ht : (pc : Int) + off = (tgt : Int)) (ha : a < 2 ^ 31) (kt : 0 ≤ a → ww_at X cs ss tgt L st ws) (kf : a < 0 → ww_at X cs ss (pc + 3) L st ws) : ww_at X cs ss pc L (.int (nI a) :: st) ws :=
  ww_if_ge O d ht (fun h => kt ((nI_leI (show (0 : Nat) < 2 ^ 31 by decide) ha).mp h)) (fun h => kf (by have h2 := mt (nI_leI (show (0 : Nat) < 2 ^ 31 by decide) ha).mpr h; omega))
theorem ww_icmp_gtN (O : ww_ok X cc own) {a b : Nat} {off : Int} {tgt : Nat} (d : decode cc pc = .ok (.if_icmp .gt off, 3)) (ht : (pc : Int) + off = (tgt : Int)) (ha : a < 2 ^ 31) (hb : b < 2 ^ 31) (kt : b < a → ww_at X cs ss tgt L st ws) (kf : a ≤ b → ww_at X cs ss (pc + 3) L st ws) : ww_at X cs ss pc L (.int (nI b) :: .int (nI a) :: st) ws :=
  ww_icmp_gt O d ht (fun h => kt ((nI_ltI hb ha).mp h)) (fun h => kf (by have h2 := mt (nI_ltI hb ha).mpr h; omega))
theorem ww_if_gtN (O : ww_ok X cc own) {a : Nat} {off : Int} {tgt : Nat} (d : decode cc pc = .ok (.ifCond .gt off, 3)) (ht : (pc : Int) + off = (tgt : Int)) (ha : a < 2 ^ 31) (kt : 0 < a → ww_at X cs ss tgt L st ws) (kf : a ≤ 0 → ww_at X cs ss (pc + 3) L st ws) : ww_at X cs ss pc L (.int (nI a) :: st) ws :=
  ww_if_gt O d ht (fun h => kt ((nI_ltI (show (0 : Nat) < 2 ^ 31 by decide) ha).mp h)) (fun h => kf (by have h2 := mt (nI_ltI (show (0 : Nat) < 2 ^ 31 by decide) ha).mpr h; omega))
theorem ww_icmp_leN (O : ww_ok X cc own) {a b : Nat} {off : Int} {tgt : Nat} (d : decode cc pc = .ok (.if_icmp .le off, 3)) (ht : (pc : Int) + off = (tgt : Int)) (ha : a < 2 ^ 31) (hb : b < 2 ^ 31) (kt : a ≤ b → ww_at X cs ss tgt L st ws) (kf : b < a → ww_at X cs ss (pc + 3) L st ws) : ww_at X cs ss pc L (.int (nI b) :: .int (nI a) :: st) ws :=
  ww_icmp_le O d ht (fun h => kt ((nI_leI ha hb).mp h)) (fun h => kf (by have h2 := mt (nI_leI ha hb).mpr h; omega))
theorem ww_if_leN (O : ww_ok X cc own) {a : Nat} {off : Int} {tgt : Nat} (d : decode cc pc = .ok (.ifCond .le off, 3)) (ht : (pc : Int) + off = (tgt : Int)) (ha : a < 2 ^ 31) (kt : a ≤ 0 → ww_at X cs ss tgt L st ws) (kf : 0 < a → ww_at X cs ss (pc + 3) L st ws) : ww_at X cs ss pc L (.int (nI a) :: st) ws :=
  ww_if_le O d ht (fun h => kt ((nI_leI ha (show (0 : Nat) < 2 ^ 31 by decide)).mp h)) (fun h => kf (by have h2 := mt (nI_leI ha (show (0 : Nat) < 2 ^ 31 by decide)).mpr h; omega))
theorem ww_if_eqB (O : ww_ok X cc own) {b : Bool} {off : Int} {tgt : Nat} (d : decode cc pc = .ok (.ifCond .eq off, 3)) (ht : (pc : Int) + off = (tgt : Int)) (kt : b = false → ww_at X cs ss tgt L st ws) (kf : b = true → ww_at X cs ss (pc + 3) L st ws) : ww_at X cs ss pc L (.int (px_b b) :: st) ws :=
  ww_if_eq O d ht (fun h => kt (px_b_0.mp h)) (fun h => kf (by cases b; exact absurd rfl h; rfl))
theorem ww_if_neB (O : ww_ok X cc own) {b : Bool} {off : Int} {tgt : Nat} (d : decode cc pc = .ok (.ifCond .ne off, 3)) (ht : (pc : Int) + off = (tgt : Int)) (kt : b = true → ww_at X cs ss tgt L st ws) (kf : b = false → ww_at X cs ss (pc + 3) L st ws) : ww_at X cs ss pc L (.int (px_b b) :: st) ws :=
  ww_if_ne O d ht (fun h => kt (by cases b; exact absurd rfl h; rfl)) (fun h => kf (px_b_0.mp h))
theorem ww_get (O : ww_ok X cc own) {ref C : String} {T : u_T} {N ci index a : Nat} {fs : List Value} {v : Value} (hin : ∀ w ∈ u_ws C T N, w ∈ lw_good) (hc : cx_cl[ci]? = some (C, T, N)) (j : Nat) (hj : j < N) (hlink : Cond.fieldLink own index ref (T j).2.1 (T j).2.2.1 ∈ lw_good) (href : (T j).1 = ref) (d : decode cc pc = .ok (.getfield index, 3)) (q0 : Nat) (he : ws[q0]? = some (a, .inr (ci, fs))) (hv : fs[j]? = some v) (k : ww_at X cs ss (pc + 3) L (v :: st) ws) : ww_at X cs ss pc L (.ref a :: st) ws :=
  fun H ls locs hl hP hD hS => va_get (D := ww_D X) O.x O.b O.t hin O.o O.k hP q0 he hc j hj (O.t _ hlink) (fun _ h9 => href ▸ h9) hv d (k H ls locs hl hP hD hS)
theorem ww_put (O : ww_ok X cc own) {ref C : String} {T : u_T} {N ci index a : Nat} {fs : List Value} {v : Value} {ty : FieldType} (hin : ∀ w ∈ u_ws C T N, w ∈ lw_good) (ty0 : Nat → FieldType) (hty : ∀ k, k < N → parseFieldDescriptor (T k).2.2.1 = some (ty0 k)) (hnm : ∀ a, a < N → ∀ b, b < N → a ≠ b → (T a).2.1 ≠ (T b).2.1) (hc : cx_cl[ci]? = some (C, T, N)) (j : Nat) (hj : j < N) (hlink : Cond.fieldLink own index ref (T j).2.1 (T j).2.2.1 ∈ lw_good) (href : (T j).1 = ref) (hfin : (T j).2.2.2 = false) (hd : parseFieldDescriptor (T j).2.2.1 = some ty) (d : decode cc pc = .ok (.putfield index, 3)) (q0 : Nat) (he : ws[q0]? = some (a, .inr (ci, fs))) (hn : narrow ty v = v) (hfit : fits ty v = true) (hl : j < fs.length) {ws' : va_W} (hw : ws.set q0 (a, .inr (ci, fs.set j v)) = ws') (k : ww_at X cs ss (pc + 3) L st ws') : ww_at X cs ss pc L (v :: .ref a :: st) ws :=
  fun H ls locs hlv hP hD hS => va_put (D := ww_D X) O.x O.b O.t hin ty0 hty hnm O.o O.k hP hD hS q0 he hc j hj (O.t _ hlink) (fun _ h9 => href ▸ h9) hfin hd hn hfit hl d (fun H1 locs1 hP1 hD1 hS1 => k H1 ls locs1 hlv (hw ▸ hP1) (hw ▸ hD1) hS1)
theorem ww_putF (O : ww_ok X cc own) (hin2 : (ww_h X).name = "<init>") {ref C : String} {T : u_T} {N ci index a : Nat} {fs : List Value} {v : Value} {ty : FieldType} (hin : ∀ w ∈ u_ws C T N, w ∈ lw_good) (ty0 : Nat → FieldType) (hty : ∀ k, k < N → parseFieldDescriptor (T k).2.2.1 = some (ty0 k)) (hnm : ∀ a, a < N → ∀ b, b < N → a ≠ b → (T a).2.1 ≠ (T b).2.1) (hc : cx_cl[ci]? = some (C, T, N)) (j : Nat) (hj : j < N) (hlink : Cond.fieldLink own index ref (T j).2.1 (T j).2.2.1 ∈ lw_good) (href : (T j).1 = ref) (hfin : (T j).2.2.2 = true) (hown : (T j).1 = own) (hd : parseFieldDescriptor (T j).2.2.1 = some ty) (d : decode cc pc = .ok (.putfield index, 3)) (q0 : Nat) (he : ws[q0]? = some (a, .inr (ci, fs))) (hn : narrow ty v = v) (hfit : fits ty v = true) (hl : j < fs.length) {ws' : va_W} (hw : ws.set q0 (a, .inr (ci, fs.set j v)) = ws') (k : ww_at X cs ss (pc + 3) L st ws') : ww_at X cs ss pc L (v :: .ref a :: st) ws :=
  fun H ls locs hlv hP hD hS => va_putF (D := ww_D X) O.x O.b O.t hin ty0 hty hnm O.o O.k hP hD hS q0 he hc j hj (O.t _ hlink) (fun _ h9 => href ▸ h9) hfin hin2 hown hd hn hfit hl d (fun H1 locs1 hP1 hD1 hS1 => k H1 ls locs1 hlv (hw ▸ hP1) (hw ▸ hD1) hS1)
theorem ww_ix {i n : Nat} (h : i < n) (hn : n < 2 ^ 31) : vp_in (nI i) n ∧ (nI i).toNatClampNeg = i := ⟨vp_in_nI h hn, nI_clamp (Nat.lt_trans h hn)⟩
theorem ww_iald (O : ww_ok X cc own) {a n i : Nat} {f : Nat → Int32} {v : Int32} (d : decode cc pc = .ok (.iaload, 1)) (q0 : Nat) (he : ws[q0]? = some (a, .inl (ww_g X 0, n, .inl f))) (hi : i < n) (hn : n < 2 ^ 31) (hv : f i = v) (k : ww_at X cs ss (pc + 1) L (.int v :: st) ws) : ww_at X cs ss pc L (.int (nI i) :: .ref a :: st) ws :=
  fun H ls locs hl hP hD hS => va_iald O.x O.b O.k hP q0 0 he rfl (ww_ix hi hn).1 d (by rw [(ww_ix hi hn).2, hv]; exact k H ls locs hl hP hD hS)
theorem ww_zald (O : ww_ok X cc own) {a n i : Nat} {f : Nat → Int32} {v : Int32} (d : decode cc pc = .ok (.baload, 1)) (q0 : Nat) (he : ws[q0]? = some (a, .inl (ww_g X 1, n, .inl f))) (hi : i < n) (hn : n < 2 ^ 31) (hv : f i = v) (k : ww_at X cs ss (pc + 1) L (.int v :: st) ws) : ww_at X cs ss pc L (.int (nI i) :: .ref a :: st) ws :=
  fun H ls locs hl hP hD hS => va_zald O.x O.b O.k hP q0 1 he rfl (ww_ix hi hn).1 d (by rw [(ww_ix hi hn).2, hv]; exact k H ls locs hl hP hD hS)
theorem ww_lald (O : ww_ok X cc own) {a n i : Nat} {f : Nat → Int64} {v : Int64} (d : decode cc pc = .ok (.laload, 1)) (q0 : Nat) (he : ws[q0]? = some (a, .inl (ww_g X 2, n, .inr (.inl f)))) (hi : i < n) (hn : n < 2 ^ 31) (hv : f i = v) (k : ww_at X cs ss (pc + 1) L (.long v :: st) ws) : ww_at X cs ss pc L (.int (nI i) :: .ref a :: st) ws :=
  fun H ls locs hl hP hD hS => va_lald O.x O.b O.k hP q0 2 he rfl (ww_ix hi hn).1 d (by rw [(ww_ix hi hn).2, hv]; exact k H ls locs hl hP hD hS)
theorem ww_aald (O : ww_ok X cc own) {a n i v : Nat} {f : Nat → Option Nat} (d : decode cc pc = .ok (.aaload, 1)) (q0 : Nat) (he : ws[q0]? = some (a, .inl (ww_g X 3, n, .inr (.inr (.inr (.inr f)))))) (hi : i < n) (hn : n < 2 ^ 31) (hv : f i = some v) (k : ww_at X cs ss (pc + 1) L (.ref v :: st) ws) : ww_at X cs ss pc L (.int (nI i) :: .ref a :: st) ws :=
  fun H ls locs hl hP hD hS => va_aldq O.x O.b O.k hP q0 3 he rfl (ww_ix hi hn).1 d (by rw [(ww_ix hi hn).2, hv]; exact k H ls locs hl hP hD hS)
theorem ww_iast (O : ww_ok X cc own) {a n i : Nat} {f : Nat → Int32} {x : Int32} (d : decode cc pc = .ok (.iastore, 1)) (q0 : Nat) (he : ws[q0]? = some (a, .inl (ww_g X 0, n, .inl f))) (hi : i < n) (hn : n < 2 ^ 31) {ws' : va_W} (hw : ws.set q0 (a, .inl (ww_g X 0, n, .inl (upd f i x))) = ws') (k : ww_at X cs ss (pc + 1) L st ws') : ww_at X cs ss pc L (.int x :: .int (nI i) :: .ref a :: st) ws :=
  fun H ls locs hl hP hD hS => va_iast O.x O.b O.k hP hD hS q0 0 he rfl (ww_ix hi hn).1 d (fun H1 locs1 hP1 hD1 hS1 => k H1 ls locs1 hl (by rw [(ww_ix hi hn).2, hw] at hP1; exact hP1) (by rw [(ww_ix hi hn).2, hw] at hD1; exact hD1) hS1)
theorem ww_zast (O : ww_ok X cc own) {a n i : Nat} {f : Nat → Int32} {x : Int32} (d : decode cc pc = .ok (.bastore, 1)) (q0 : Nat) (he : ws[q0]? = some (a, .inl (ww_g X 1, n, .inl f))) (hi : i < n) (hn : n < 2 ^ 31) (hx : vp_nar .boolean x = x) {ws' : va_W} (hw : ws.set q0 (a, .inl (ww_g X 1, n, .inl (upd f i x))) = ws') (k : ww_at X cs ss (pc + 1) L st ws') : ww_at X cs ss pc L (.int x :: .int (nI i) :: .ref a :: st) ws :=
  fun H ls locs hl hP hD hS => va_zast O.x O.b O.k hP hD hS q0 1 he rfl (ww_ix hi hn).1 d (fun H1 locs1 hP1 hD1 hS1 => k H1 ls locs1 hl (by rw [(ww_ix hi hn).2, hx, hw] at hP1; exact hP1) (by rw [(ww_ix hi hn).2, hx, hw] at hD1; exact hD1) hS1)
theorem ww_last (O : ww_ok X cc own) {a n i : Nat} {f : Nat → Int64} {x : Int64} (d : decode cc pc = .ok (.lastore, 1)) (q0 : Nat) (he : ws[q0]? = some (a, .inl (ww_g X 2, n, .inr (.inl f)))) (hi : i < n) (hn : n < 2 ^ 31) {ws' : va_W} (hw : ws.set q0 (a, .inl (ww_g X 2, n, .inr (.inl (vp_updL f i x)))) = ws') (k : ww_at X cs ss (pc + 1) L st ws') : ww_at X cs ss pc L (.long x :: .int (nI i) :: .ref a :: st) ws :=
  fun H ls locs hl hP hD hS => va_last O.x O.b O.k hP hD hS q0 2 he rfl (ww_ix hi hn).1 d (fun H1 locs1 hP1 hD1 hS1 => k H1 ls locs1 hl (by rw [(ww_ix hi hn).2, hw] at hP1; exact hP1) (by rw [(ww_ix hi hn).2, hw] at hD1; exact hD1) hS1)
theorem ww_max (O : ww_ok X cc own) {index : Nat} {x y v : Int32} (hlink : Cond.methodLink own index Lib.Math.max.name ∈ lw_good) (hM : Cond.static Lib.Math.max.name ∈ lw_good ∧ Cond.initialized "java/lang/Math" ∈ lw_good ∧ Cond.code Lib.Math.max.name Lib.Math.max.code 2 (some .int) ∈ lw_good) (hfr : 1 ≤ (ww_R X).frames) (hlo : (st.map fun v => v.category).sum + 13 ≤ (ww_R X).locals) (hcs : cs ≤ (ww_R X).cells) (hss : ss ≤ (ww_R X).slots) (d : decode cc pc = .ok (.invokestatic index, 3)) (hv : (if x < y then y else x) = v) (k : ww_at X cs ss (pc + 3) L (.int v :: st) ws) : ww_at X cs ss pc L (.int y :: .int x :: st) ws :=
  fun H ls locs hl hP hD hS => va_mmax O.x O.b (O.n.trans hl.1.symm) O.o (O.t _ hlink) (O.t _ hM.1) (O.t _ hM.2.1) (O.t _ hM.2.2) hfr hlo hcs hss d (by rw [hv]; exact k H ls locs hl hP hD hS)
theorem ww_min (O : ww_ok X cc own) {index : Nat} {x y v : Int32} (hlink : Cond.methodLink own index Lib.Math.min.name ∈ lw_good) (hM : Cond.static Lib.Math.min.name ∈ lw_good ∧ Cond.initialized "java/lang/Math" ∈ lw_good ∧ Cond.code Lib.Math.min.name Lib.Math.min.code 2 (some .int) ∈ lw_good) (hfr : 1 ≤ (ww_R X).frames) (hlo : (st.map fun v => v.category).sum + 13 ≤ (ww_R X).locals) (hcs : cs ≤ (ww_R X).cells) (hss : ss ≤ (ww_R X).slots) (d : decode cc pc = .ok (.invokestatic index, 3)) (hv : (if y < x then y else x) = v) (k : ww_at X cs ss (pc + 3) L (.int v :: st) ws) : ww_at X cs ss pc L (.int y :: .int x :: st) ws :=
  fun H ls locs hl hP hD hS => va_mmin O.x O.b (O.n.trans hl.1.symm) O.o (O.t _ hlink) (O.t _ hM.1) (O.t _ hM.2.1) (O.t _ hM.2.2) hfr hlo hcs hss d (by rw [hv]; exact k H ls locs hl hP hD hS)
theorem ww_fm {w0 ws : va_W} : ∀ {isC : List Nat}, isC.map (fun i => ws[i]?) = w0.map some → isC.filterMap (fun i => ws[i]?) = w0 := by
  induction w0 with
  | nil =>
    intro isC h
    cases isC with
    | nil => rfl
    | cons i t => simp at h
  | cons q w ih =>
    intro isC h
    cases isC with
    | nil => simp at h
    | cons i t =>
      simp only [List.map_cons, List.cons.injEq] at h
      rw [List.filterMap_cons, h.1, ih h.2]
theorem ww_Dmap {A : Nat → Prop} {w0 w1 : va_W} (h : va_D A w0) (hm : w1.map (fun q => q.1) = w0.map (fun q => q.1)) : va_D A w1 := by
  have key : ∀ (i : Nat) (p : Nat × va_E), w1[i]? = some p → ∃ p0, w0[i]? = some p0 ∧ p0.1 = p.1 := by
    intro i p hi
    have h1 : (w1.map (fun q => q.1))[i]? = some p.1 := by rw [List.getElem?_map, hi]; rfl
    rw [hm, List.getElem?_map] at h1
    cases h2 : w0[i]? with
    | none => rw [h2] at h1; cases h1
    | some p0 => rw [h2] at h1; exact ⟨p0, rfl, Option.some.inj h1⟩
  refine ⟨fun i j p q hi hj hpq => ?_, fun k q hk => ?_⟩
  · obtain ⟨p0, h1, h2⟩ := key i p hi
    obtain ⟨q0, h3, h4⟩ := key j q hj
    exact h.1 i j p0 q0 h1 h3 (h2.trans (hpq.trans h4.symm))
  · obtain ⟨q0, h1, h2⟩ := key k q hk
    rw [← h2]
    exact h.2 k q0 h1
/-- a contract: the method y, called with As where the world is w0, returns r and leaves w1; it makes at most so many cells as its room has -/
def ww_ct (l : Launch) (D : va_G) (g : Nat → ClassId) (y : MethodName) (b : ByteArray) (n : Nat) (ret : Option FieldType) (rm : Room) (As : List Value) (w0 : va_W) (r : Option Value) (w1 : va_W) : Prop :=
  w1.map (fun q => q.1) = w0.map (fun q => q.1) ∧ ∀ sz : Nat, Met l y (Cond.code y b n ret :: lw_good) rm (va_Pc As (fun U => U.heap.size = sz ∧ va_P D cx_cl w0 U.heap ∧ ww_K D g U ∧ va_D (fun _ => True) w0)) (fun _ st oc t => oc = .returned r ∧ va_P D cx_cl w1 t.heap ∧ va_F (va_A w0 sz) st t) rm.cells rm.slots (va_A w0 sz)
def ww_fin (X : ww_X) (cc : ByteArray) (mc ms : Nat) (r : Option Value) (w1 : va_W) : Prop := match r with
  | none => ∀ (pc : Nat) (L : List (Nat × Value)), decode cc pc = .ok (.return_, 1) → ww_at X mc ms pc L [] w1
  | some (.int v) => ∀ (pc : Nat) (L : List (Nat × Value)), decode cc pc = .ok (.ireturn, 1) → ww_at X mc ms pc L [.int v] w1
  | _ => True
theorem ww_fin.v {w1 : va_W} {mc ms : Nat} (h : ww_fin X cc mc ms none w1) {pc : Nat} {L : List (Nat × Value)} (d : decode cc pc = .ok (.return_, 1)) : ww_at X mc ms pc L [] w1 := h pc L d
theorem ww_fin.i {w1 : va_W} {v : Int32} {mc ms : Nat} (h : ww_fin X cc mc ms (some (.int v)) w1) {pc : Nat} {L : List (Nat × Value)} (d : decode cc pc = .ok (.ireturn, 1)) : ww_at X mc ms pc L [.int v] w1 := h pc L d
def ww_rok (ret : Option FieldType) (r : Option Value) : Prop := match ret, r with
  | none, none => True
  | some ty, some (.int v) => narrow ty (.int v) = .int v
  | _, _ => False
theorem ww_noSt {D : va_G} {w0 : va_W} {H : Heap} (hP : va_P D cx_cl w0 H) : ∀ (a : Nat) (cell : Cell), H[a]? = some cell → cell.vm.isStatics = true → ¬ va_A w0 H.size a := by
  intro a cell hc hi hA
  rcases hA with ⟨k, e, hk⟩ | h
  · have h1 := hP k _ hk
    cases e with
    | inl x =>
      have h2 : H[a]? = some (vp_cell x.1 x.2) := h1
      rw [hc] at h2
      cases h2
      revert hi
      unfold vp_cell
      split <;> exact fun h => by cases h
    | inr o =>
      obtain ⟨r, -, c2, h2, -, h3, -⟩ := h1
      rw [hc] at h2
      cases h2
      rw [h3] at hi
      cases hi
  · have := (Array.getElem?_eq_some_iff.mp hc).1
    omega
theorem ww_start {l : Launch} {D : va_G} {g : Nat → ClassId} {y : MethodName} {b : ByteArray} {n : Nat} {ret : Option FieldType} {rm : Room} {As : List Value} {w0 : va_W} {r : Option Value} {w1 : va_W} {L0 : List (Nat × Value)}
    (hy : plainName y.cls = true) (hadr : w1.map (fun q => q.1) = w0.map (fun q => q.1)) (hret : ww_rok ret r) (hn : (lg_sl As).length ≤ n) (hL0 : lv_args 0 As = L0)
    (body : ∀ X : ww_X, ww_ok X b y.cls → ww_l X = l → ww_D X = D → ww_g X = g → ww_R X = rm → ww_n X = n → ww_fin X b rm.cells rm.slots r w1 → ww_at X 0 0 0 L0 [] w0) : ww_ct l D g y b n ret rm As w0 r w1 := by
  refine ⟨hadr, fun sz => ?_⟩
  refine Met.ofW (cc := b) (maxL := n) (ret := ret) hy rfl ?_
  intro p e s m args below meth c s₁ B hml hv
  obtain ⟨rfl, hsz, hP, hK, hD0⟩ := hv
  subst hsz
  have hts := atoms_spec (ws := Cond.code y b n ret :: lw_good) B.pre
  have hD := hD0.self (sz := s.heap.size)
  have hl := lv_entry As (n := n) hn
  rw [lg_entry_eq]
  rw [hL0] at hl
  have hlocks := B.notSynchronized
  refine body (p, l, e, rm, s, m, As.toArray, below, meth, c, va_A w0 s.heap.size, D, g, MQ below (fun _ st oc t => oc = .returned r ∧ va_P D cx_cl w1 t.heap ∧ va_F (va_A w0 s.heap.size) st t) As.toArray s rm.cells rm.slots (va_A w0 s.heap.size), n)
    ⟨B.exec, B.bytes, hml, findClass_of_methodNamed B.named, fun w hw => hts w (List.mem_cons_of_mem _ hw), hK, fun q h => Or.inr h, hlocks, ww_noSt hP⟩ rfl rfl rfl rfl rfl ?_ s.heap _ [] hl hP hD va_S.rf
  have hr := B.returns
  cases r with
  | none =>
    cases ret with
    | none =>
      intro pc L d H ls locs hl hP hD hS
      have hS2 : va_S (va_A w0 s.heap.size) s.heap H locs := hS
      have hP2 : va_P D cx_cl w1 H := hP
      show W p l e rm s m As.toArray below meth c H locs rm.cells rm.slots (MQ below (fun _ st oc t => oc = .returned none ∧ va_P D cx_cl w1 t.heap ∧ va_F (va_A w0 s.heap.size) st t) As.toArray s rm.cells rm.slots (va_A w0 s.heap.size)) (F0 m pc ls [])
      exact W.vret B.exec B.bytes hr (fun t ht hW => ⟨rfl, by rw [ht]; exact hP2, hS2.F ht⟩) hS2.2.2 d hlocks
    | some ty => exact hret.elim
  | some v =>
    cases ret with
    | none => cases v <;> exact hret.elim
    | some ty =>
      cases v with
      | int v =>
        intro pc L d H ls locs hl hP hD hS
        have hS2 : va_S (va_A w0 s.heap.size) s.heap H locs := hS
        have hP2 : va_P D cx_cl w1 H := hP
        show W p l e rm s m As.toArray below meth c H locs rm.cells rm.slots (MQ below (fun _ st oc t => oc = .returned (some (.int v)) ∧ va_P D cx_cl w1 t.heap ∧ va_F (va_A w0 s.heap.size) st t) As.toArray s rm.cells rm.slots (va_A w0 s.heap.size)) (F0 m pc ls [.int v])
        exact W.zret (v := v) B.exec B.bytes hr hret (fun t ht hW => ⟨rfl, by rw [ht]; exact hP2, hS2.F ht⟩) hS2.2.2 d hlocks
      | _ => exact hret.elim
/-- behind a call -/
theorem ww_back (O : ww_ok X cc own) {mc ms : Nat} {w0 w1 ws' : va_W} {r : Option Value} {H : Heap} {ls : Array Slot} {locs : List Loc} {st0 : List Value}
    (hr : va_Run (ww_p X) (ww_l X) (ww_e X) (ww_R X) (ww_s X) (ww_m X) (ww_a X) (ww_b X) (ww_h X) (ww_c X) H locs cs ss mc ms (F0 (ww_m X) pc ls st0) st (fun z oc t => oc = .returned r ∧ va_P (ww_D X) cx_cl w1 t.heap ∧ va_F (va_A w0 H.size) z t) (va_A w0 H.size))
    (hl : lv_has ls (ww_n X) L) (hP : va_P (ww_D X) cx_cl ws H) (hD : va_D (ww_A X) ws) (hS : va_S (ww_A X) (ww_s X).heap H locs) (hm : w1.map (fun q => q.1) = w0.map (fun q => q.1))
    (isC isR pm : List Nat) (hC : isC.map (fun i => ws[i]?) = w0.map some) (hcn : va_nd isC = true) (hR : isR.map (fun i => ws[i]?) = (isR.filterMap (fun i => ws[i]?)).map some) (hn : va_nd isR = true) (hdis : ∀ i ∈ isR, i ∉ isC)
    (hp1 : pm.filterMap (fun i => (isR.filterMap (fun i => ws[i]?) ++ w1)[i]?) = ws') (hp2 : pm.map (fun i => (isR.filterMap (fun i => ws[i]?) ++ w1)[i]?) = ws'.map some) (hpn : va_nd pm = true)
    (k : ww_at X (cs + mc) (ss + ms) (pc + 3) L (r.toList ++ st) ws') : ww_W X H locs cs ss (F0 (ww_m X) pc ls st0) := by
  intro T hT XX
  obtain ⟨v, z, t, T', L2, h0, X', hL, e1, e2, ⟨hv, hP1, hz, hk⟩, go⟩ := hr T hT XX
  cases hv
  rw [h0] at hz hk
  have hF := va_free hD hS O.a isC hC
  have hD1 : va_D (va_A w0 H.size) w1 := ww_Dmap ((hD.sub isC hcn hC).self) hm
  rw [← e1] at hP1 hz hk
  obtain ⟨hP2, hD2⟩ := va_join hP hD isC isR hC hR hn hdis hk hF hP1 hD1
  have hS2 : va_S (ww_A X) (ww_s X).heap T'.heap (locs ++ L2) := by
    refine ⟨Nat.le_trans hS.1 hz, fun q h1 h2 => ?_, fun q hq => ?_⟩
    · rw [hk q (Nat.lt_of_lt_of_le h1 hS.1) (fun z => h2 (hF q z))]
      exact hS.2.1 q h1 h2
    · rcases List.mem_append.mp hq with h | h
      · exact hS.2.2 q h
      · exact hF _ (hL q h)
  obtain ⟨t2, a1, b1⟩ := k T'.heap ls (locs ++ L2) hl (hP2.sub pm hp1) (hD2.sub pm hpn hp2) hS2 T' rfl X'
  exact ⟨t2, go t2 a1, b1⟩
theorem ww_blind {D : va_G} {g : Nat → ClassId} {As : List Value} {w0 : va_W} {sz : Nat} : FrameBlind (va_Pc As (fun U => U.heap.size = sz ∧ va_P D cx_cl w0 U.heap ∧ ww_K D g U ∧ va_D (fun _ => True) w0)) :=
  fun a U f mk q => ⟨q.1, q.2.1, q.2.2.1, ⟨va_K.moved (u := U) (U := U.calling f mk a) (Vm.Alike.refl U.vm) q.2.2.2.1.1, fun w hw => ww_nw_same (List.all_eq_true.mp cx_nw_ok w hw) (s := U) rfl (q.2.2.2.1.2.1 w hw), fun w hw => ww_sw_heap (List.all_eq_true.mp cx_sw_ok w hw) (u := U) rfl (fun _ _ h _ => h) (q.2.2.2.1.2.2 w hw)⟩, q.2.2.2.2⟩
theorem ww_gi {y : MethodName} {b : ByteArray} {n : Nat} {ret : Option FieldType} (h : Cond.code y b n ret ∈ lw_good) : GoodIn lw_good (Cond.code y b n ret :: lw_good) := by
  intro w hw
  rcases List.mem_cons.mp hw with h1 | h1
  · rw [h1]; exact ⟨h, Or.inl rfl⟩
  · exact ⟨h1, good_of_word (List.mem_filter.mp h1).2⟩
/-- what a call site's words say -/
def ww_site (own : String) (index : Nat) (y : MethodName) (b : ByteArray) (n : Nat) (ret : Option FieldType) (na : Nat) : Prop :=
  Cond.code y b n ret ∈ lw_good ∧ Cond.methodLink own index y ∈ lw_good ∧ Cond.initialized y.cls ∈ lw_good ∧ (y.cls ≠ "java/lang/invoke/MethodHandle" ∧ y.cls ≠ "java/lang/invoke/VarHandle" ∧ (parseMethodDescriptor y.desc).map (fun d => d.parameters.length) = some na)
def ww_virt (y : MethodName) : Prop := Cond.instanceMethod y ∈ lw_good ∧ Cond.selects y.cls y y ∈ lw_good
theorem ww_callS (O : ww_ok X cc own) {index na n : Nat} {y : MethodName} {b : ByteArray} {ret : Option FieldType} {rm : Room} {As : List Value} {w0 w1 ws' : va_W} {r : Option Value} (hM : ww_ct (ww_l X) (ww_D X) (ww_g X) y b n ret rm As w0 r w1) (hs : ww_site own index y b n ret na) (hst : Cond.static y ∈ lw_good)
    (hRm : rm.frames + 1 ≤ (ww_R X).frames ∧ 8 + (n + 11) + rm.locals ≤ (ww_R X).locals) (hcs : cs + rm.cells ≤ (ww_R X).cells) (hss : ss + rm.slots ≤ (ww_R X).slots) (hna : As.length = na) (hst8 : (st.map fun v => v.category).sum ≤ 8) (d : decode cc pc = .ok (.invokestatic index, 3)) {st0 : List Value} (hstk : st0 = As.reverse ++ st)
    (isC isR pm : List Nat) (hC : isC.map (fun i => ws[i]?) = w0.map some) (hcn : va_nd isC = true) (hR : isR.map (fun i => ws[i]?) = (isR.filterMap (fun i => ws[i]?)).map some) (hn : va_nd isR = true) (hdis : ∀ i ∈ isR, i ∉ isC)
    (hp1 : pm.filterMap (fun i => (isR.filterMap (fun i => ws[i]?) ++ w1)[i]?) = ws') (hp2 : pm.map (fun i => (isR.filterMap (fun i => ws[i]?) ++ w1)[i]?) = ws'.map some) (hpn : va_nd pm = true)
    (k : ww_at X (cs + rm.cells) (ss + rm.slots) (pc + 3) L (r.toList ++ st) ws') : ww_at X cs ss pc L st0 ws := by
  intro H ls locs hl hP hD hS
  subst hstk
  have hwc : va_P (ww_D X) cx_cl w0 H := hP.sub isC (ww_fm hC)
  refine ww_back O (w0 := w0) (w1 := w1) ?_ hl hP hD hS hM.1 isC isR pm hC hcn hR hn hdis hp1 hp2 hpn k
  exact va_runS (As := As) (rest := st) ⟨O.x, O.b, O.n, O.o, O.t⟩ (hM.2 H.size) ⟨callB_of na O.t (ww_gi hs.1) rfl rfl rfl (O.t _ hs.2.2.1) (O.t _ hs.2.1) hs.2.2.2 hRm, O.t _ hst⟩ ⟨ww_blind, fun U hU hW => ⟨rfl, by rw [hU], by rw [hU]; exact hwc, O.go hS hU hW, (hD.sub isC hcn hC).weaken (fun _ _ _ _ => trivial)⟩⟩ rfl hna hl.1 rfl (lv_room hst8) d ⟨hcs, hss⟩
theorem ww_callV (O : ww_ok X cc own) {index na n a q0 ci : Nat} {y : MethodName} {b : ByteArray} {ret : Option FieldType} {rm : Room} {As fs : List Value} {w0 w1 ws' : va_W} {r : Option Value} {q : vw_C} (hM : ww_ct (ww_l X) (ww_D X) (ww_g X) y b n ret rm (.ref a :: As) w0 r w1) (hs : ww_site own index y b n ret na) (hvi : ww_virt y) (hc : cx_cl[ci]? = some q) (hq : q.1 = y.cls) (he : ws[q0]? = some (a, .inr (ci, fs)))
    (hRm : rm.frames + 1 ≤ (ww_R X).frames ∧ 8 + (n + 11) + rm.locals ≤ (ww_R X).locals) (hcs : cs + rm.cells ≤ (ww_R X).cells) (hss : ss + rm.slots ≤ (ww_R X).slots) (hna : As.length = na) (hst8 : (st.map fun v => v.category).sum ≤ 8) (d : decode cc pc = .ok (.invokevirtual index, 3)) {st0 : List Value} (hstk : st0 = As.reverse ++ .ref a :: st)
    (isC isR pm : List Nat) (hC : isC.map (fun i => ws[i]?) = w0.map some) (hcn : va_nd isC = true) (hR : isR.map (fun i => ws[i]?) = (isR.filterMap (fun i => ws[i]?)).map some) (hn : va_nd isR = true) (hdis : ∀ i ∈ isR, i ∉ isC)
    (hp1 : pm.filterMap (fun i => (isR.filterMap (fun i => ws[i]?) ++ w1)[i]?) = ws') (hp2 : pm.map (fun i => (isR.filterMap (fun i => ws[i]?) ++ w1)[i]?) = ws'.map some) (hpn : va_nd pm = true)
    (k : ww_at X (cs + rm.cells) (ss + rm.slots) (pc + 3) L (r.toList ++ st) ws') : ww_at X cs ss pc L st0 ws := by
  intro H ls locs hl hP hD hS
  subst hstk
  have hwc : va_P (ww_D X) cx_cl w0 H := hP.sub isC (ww_fm hC)
  have hrec := va_recv O.k hP hc he
  rw [hq] at hrec
  refine ww_back O (w0 := w0) (w1 := w1) ?_ hl hP hD hS hM.1 isC isR pm hC hcn hR hn hdis hp1 hp2 hpn k
  exact va_runV (As := As) (rest := st) (C := y.cls) (b := a) ⟨O.x, O.b, O.n, O.o, O.t⟩ (hM.2 H.size) ⟨callB_of na O.t (ww_gi hs.1) rfl rfl rfl (O.t _ hs.2.2.1) (O.t _ hs.2.1) hs.2.2.2 hRm, O.t _ hvi.1, O.t _ hvi.2⟩ ⟨ww_blind, hrec, fun U hU hW => ⟨rfl, by rw [hU], by rw [hU]; exact hwc, O.go hS hU hW, (hD.sub isC hcn hC).weaken (fun _ _ _ _ => trivial)⟩⟩ rfl hna hl.1 rfl (lv_room hst8) d ⟨hcs, hss⟩
end WWR
