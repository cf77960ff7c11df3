/-! Numbers, extents and places as mathematics: no machine here. -/
/-- how many of the n from a on -/
def px_cnt (P : Nat → Bool) (a : Nat) : Nat → Nat
  | 0 => 0
  | n + 1 => px_cnt P a n + (if P (a + n) then 1 else 0)
theorem px_cnt_le (P : Nat → Bool) (a n : Nat) : px_cnt P a n ≤ n := by
  induction n with
  | zero => exact Nat.le_refl 0
  | succ n ih =>
    unfold px_cnt
    split <;> omega
theorem px_cnt_congr {P Q : Nat → Bool} {a b : Nat} : ∀ {n : Nat}, (∀ k, k < n → P (a + k) = Q (b + k)) → px_cnt P a n = px_cnt Q b n := by
  intro n
  induction n with
  | zero => intro _; rfl
  | succ n ih =>
    intro h
    unfold px_cnt
    rw [ih (fun k hk => h k (by omega)), h n (by omega)]
theorem px_cnt_add (P : Nat → Bool) (a m n : Nat) : px_cnt P a (m + n) = px_cnt P a m + px_cnt P (a + m) n := by
  induction n with
  | zero => rfl
  | succ n ih =>
    show px_cnt P a (m + n) + _ = _ + (px_cnt P (a + m) n + _)
    rw [ih, Nat.add_assoc, Nat.add_assoc a m n]
    rfl
/-- one of them turns -/
theorem px_cnt_on {P Q : Nat → Bool} {a i : Nat} : ∀ {n : Nat}, a ≤ i → i < a + n → P i = false → Q i = true → (∀ j, j ≠ i → Q j = P j) → px_cnt Q a n = px_cnt P a n + 1 := by
  intro n
  induction n with
  | zero => intro h1 h2; omega
  | succ n ih =>
    intro h1 h2 h3 h4 h5
    unfold px_cnt
    by_cases hi : i = a + n
    · subst hi
      rw [h3, h4, px_cnt_congr (P := Q) (Q := P) (b := a) (fun k hk => h5 _ (by omega))]
      rfl
    · rw [ih h1 (by omega) h3 h4 h5, h5 (a + n) (fun z => hi z.symm)]
      omega
theorem px_cnt_pos {P : Nat → Bool} {a : Nat} : ∀ {n : Nat}, 0 < px_cnt P a n → ∃ k, k < n ∧ P (a + k) = true := by
  intro n
  induction n with
  | zero => intro h; exact absurd h (Nat.lt_irrefl 0)
  | succ n ih =>
    intro h
    unfold px_cnt at h
    by_cases hp : P (a + n) = true
    · exact ⟨n, by omega, hp⟩
    · rw [if_neg hp] at h
      obtain ⟨k, h1, h2⟩ := ih h
      exact ⟨k, by omega, h2⟩
theorem px_cnt_mono {P Q : Nat → Bool} {a : Nat} : ∀ {n : Nat}, (∀ k, k < n → P (a + k) = true → Q (a + k) = true) → px_cnt P a n ≤ px_cnt Q a n := by
  intro n
  induction n with
  | zero => intro _; exact Nat.le_refl 0
  | succ n ih =>
    intro h
    have h1 := ih (fun k hk => h k (by omega))
    have h2 := h n (by omega)
    unfold px_cnt
    cases hp : P (a + n) <;> cases hq : Q (a + n) <;> simp_all <;> omega
theorem px_cnt_0 {P : Nat → Bool} {a : Nat} : ∀ {n : Nat}, (∀ k, k < n → P (a + k) = false) → px_cnt P a n = 0 := by
  intro n
  induction n with
  | zero => intro _; rfl
  | succ n ih =>
    intro h
    unfold px_cnt
    rw [ih (fun k hk => h k (by omega)), h n (by omega)]
    rfl
/-- the cells from a on, n of them, hold v -/
def px_fill (f : Nat → Int32) (a n : Nat) (v : Int32) : Nat → Int32 := fun j => if a ≤ j ∧ j < a + n then v else f j
theorem px_fill_0 (f : Nat → Int32) (a : Nat) (v : Int32) : px_fill f a 0 v = f := by
  funext j
  unfold px_fill
  rw [if_neg (by omega)]
theorem px_fill_s (f : Nat → Int32) (a n : Nat) (v : Int32) : upd (px_fill f a n v) (a + n) v = px_fill f a (n + 1) v := by
  funext j
  unfold upd px_fill
  by_cases h : j = a + n
  · rw [if_pos h, if_pos (by omega)]
  · rw [if_neg h]
    by_cases h2 : a ≤ j ∧ j < a + n
    · rw [if_pos h2, if_pos (by omega)]
    · rw [if_neg h2, if_neg (by omega)]
/-! extents -/
def px_tree (e : Nat) : Nat := if e ≤ 3 then 0 else (e + 3) / 4
theorem px_tree_s (e : Nat) : px_tree (e + 1) ≤ px_tree e + 1 := by
  unfold px_tree
  split <;> split <;> omega
theorem px_tree_mono {a b : Nat} (h : a ≤ b) : px_tree a ≤ px_tree b := by
  unfold px_tree
  split <;> split <;> omega
theorem px_tree_add (e k : Nat) : px_tree (e + k) ≤ px_tree e + k := by
  induction k with
  | zero => exact Nat.le_refl _
  | succ k ih =>
    have := px_tree_s (e + k)
    show px_tree (e + k + 1) ≤ _
    omega
/-- a block: a hole, or its place and whether it is written -/
def px_hole (pl : Nat → Int32) (b : Nat) : Bool := pl b == -1
def px_on (pg : Nat → Int32) (b : Nat) : Bool := !(pg b == 0)
/-- block b goes on the row of the mapped block ahead of it -/
def px_go (pl wr : Nat → Int32) (b : Nat) : Bool := pl b == pl (b - 1) + 1 && wr b == wr (b - 1)
/-- how many extents begin among the k blocks from b on, where the extent that ends right ahead of b has c blocks (0: there is none) -/
def px_ex (pl wr : Nat → Int32) : Nat → Nat → Nat → Nat
  | 0, _, _ => 0
  | k + 1, b, c => if px_hole pl b then px_ex pl wr k (b + 1) 0 else if 0 < c ∧ c < 8 ∧ px_go pl wr b = true then px_ex pl wr k (b + 1) (c + 1) else 1 + px_ex pl wr k (b + 1) 1
/-- how many blocks go on an extent of c blocks, of the k from b on -/
def px_rl (pl wr : Nat → Int32) : Nat → Nat → Nat → Nat
  | 0, _, _ => 0
  | k + 1, b, c => if c < 8 ∧ px_go pl wr b = true then 1 + px_rl pl wr k (b + 1) (c + 1) else 0
/-- the first block of extent number i -/
def px_nth (pl wr : Nat → Int32) : Nat → Nat → Nat → Nat → Option Nat
  | 0, _, _, _ => none
  | k + 1, b, c, i => if px_hole pl b then px_nth pl wr k (b + 1) 0 i else if 0 < c ∧ c < 8 ∧ px_go pl wr b = true then px_nth pl wr k (b + 1) (c + 1) i else if i = 0 then some b else px_nth pl wr k (b + 1) 1 (i - 1)
theorem px_ex_le (pl wr : Nat → Int32) : ∀ (k b c : Nat), px_ex pl wr k b c ≤ k
  | 0, _, _ => Nat.le_refl 0
  | k + 1, b, c => by
    unfold px_ex
    have h1 := px_ex_le pl wr k (b + 1) 0
    have h2 := px_ex_le pl wr k (b + 1) (c + 1)
    have h3 := px_ex_le pl wr k (b + 1) 1
    split
    · omega
    · split <;> omega
theorem px_rl_le (pl wr : Nat → Int32) : ∀ (k b c : Nat), px_rl pl wr k b c ≤ k
  | 0, _, _ => Nat.le_refl 0
  | k + 1, b, c => by
    unfold px_rl
    have h2 := px_rl_le pl wr k (b + 1) (c + 1)
    split <;> omega
/-- a hole or the first of a new extent at b: what was ahead doesn't count -/
theorem px_ex_new {pl wr : Nat → Int32} {k b c : Nat} (h : ¬ (c < 8 ∧ px_go pl wr b = true)) : px_ex pl wr k b c = px_ex pl wr k b 0 := by
  cases k with
  | zero => rfl
  | succ k =>
    unfold px_ex
    split
    · rfl
    · rw [if_neg (fun z => h z.2), if_neg (c := 0 < 0 ∧ 0 < 8 ∧ px_go pl wr b = true) (fun z => absurd z.1 (Nat.lt_irrefl 0))]
theorem px_nth_new {pl wr : Nat → Int32} {k b c i : Nat} (h : ¬ (c < 8 ∧ px_go pl wr b = true)) : px_nth pl wr k b c i = px_nth pl wr k b 0 i := by
  cases k with
  | zero => rfl
  | succ k =>
    unfold px_nth
    split
    · rfl
    · rw [if_neg (fun z => h z.2), if_neg (c := 0 < 0 ∧ 0 < 8 ∧ px_go pl wr b = true) (fun z => absurd z.1 (Nat.lt_irrefl 0))]
/-- a mapped block's successor that goes on is mapped itself: places are at least -1 -/
def px_rng (pl : Nat → Int32) (a n : Nat) : Prop := ∀ b, a ≤ b → b < a + n → pl b = -1 ∨ ∃ p, p < 80 ∧ pl b = nI p
theorem px_m1 {p : Nat} (h : p < 2 ^ 31) : nI p ≠ -1 := by
  intro z
  have h1 := nI_toInt h
  rw [z] at h1
  have h2 : (-1 : Int32).toInt = -1 := by decide
  omega
theorem px_go_mapped {pl wr : Nat → Int32} {b : Nat} (h1 : ∃ p, p < 80 ∧ pl (b - 1) = nI p) (h2 : px_go pl wr b = true) : px_hole pl b = false := by
  obtain ⟨p, hp, hq⟩ := h1
  unfold px_go at h2
  simp only [Bool.and_eq_true, beq_iff_eq] at h2
  unfold px_hole
  rw [h2.1, hq, nI_1]
  simp only [beq_eq_false_iff_ne]
  exact px_m1 (by omega)
/-- jumping over the rest of an extent -/
theorem px_ex_jump {pl wr : Nat → Int32} {a n : Nat} (hr : px_rng pl a n) : ∀ (k b c : Nat), 0 < c → a < b → b + k ≤ a + n → px_hole pl (b - 1) = false → px_ex pl wr k b c = px_ex pl wr (k - px_rl pl wr k b c) (b + px_rl pl wr k b c) 0
  | 0, _, _, _, _, _, _ => rfl
  | k + 1, b, c, hc, hb, hk, hm => by
    by_cases h : c < 8 ∧ px_go pl wr b = true
    · have hmm : ∃ p, p < 80 ∧ pl (b - 1) = nI p := by
        rcases hr (b - 1) (by omega) (by omega) with h1 | h1
        · simp [px_hole, h1] at hm
        · exact h1
      have hb2 := px_go_mapped hmm h.2
      have e1 : px_ex pl wr (k + 1) b c = px_ex pl wr k (b + 1) (c + 1) := by
        rw [px_ex, hb2, if_neg (by decide), if_pos ⟨hc, h⟩]
      have e2 : px_rl pl wr (k + 1) b c = 1 + px_rl pl wr k (b + 1) (c + 1) := by
        rw [px_rl, if_pos h]
      rw [e1, e2, px_ex_jump hr k (b + 1) (c + 1) (by omega) (by omega) (by omega) (by simpa using hb2)]
      congr 1 <;> omega
    · have e2 : px_rl pl wr (k + 1) b c = 0 := by rw [px_rl, if_neg h]
      rw [e2, px_ex_new h]
      rfl
theorem px_nth_jump {pl wr : Nat → Int32} {a n : Nat} (hr : px_rng pl a n) (i : Nat) : ∀ (k b c : Nat), 0 < c → a < b → b + k ≤ a + n → px_hole pl (b - 1) = false → px_nth pl wr k b c i = px_nth pl wr (k - px_rl pl wr k b c) (b + px_rl pl wr k b c) 0 i
  | 0, _, _, _, _, _, _ => rfl
  | k + 1, b, c, hc, hb, hk, hm => by
    by_cases h : c < 8 ∧ px_go pl wr b = true
    · have hmm : ∃ p, p < 80 ∧ pl (b - 1) = nI p := by
        rcases hr (b - 1) (by omega) (by omega) with h1 | h1
        · simp [px_hole, h1] at hm
        · exact h1
      have hb2 := px_go_mapped hmm h.2
      have e1 : px_nth pl wr (k + 1) b c i = px_nth pl wr k (b + 1) (c + 1) i := by
        rw [px_nth, hb2, if_neg (by decide), if_pos ⟨hc, h⟩]
      have e2 : px_rl pl wr (k + 1) b c = 1 + px_rl pl wr k (b + 1) (c + 1) := by
        rw [px_rl, if_pos h]
      rw [e1, e2, px_nth_jump hr i k (b + 1) (c + 1) (by omega) (by omega) (by omega) (by simpa using hb2)]
      congr 1 <;> omega
    · have e2 : px_rl pl wr (k + 1) b c = 0 := by rw [px_rl, if_neg h]
      rw [e2, px_nth_new h]
      rfl
