/-! places: which are had, the best row, mapping rows of holes -/
def px_un (ow : Nat → Int32) (p : Int32) : Bool := decide (0 ≤ p) && decide (p < 80) && ow p.toNatClampNeg == -1
theorem px_un_nI (ow : Nat → Int32) {p : Nat} (h : p < 2 ^ 31) : px_un ow (nI p) = (decide (p < 80) && ow p == -1) := by
  unfold px_un
  rw [nI_clamp h]
  have h1 : (0 : Int32) ≤ nI p := nI_pos' h
  have h2 : (nI p < (80 : Int32)) ↔ p < 80 := nI_ltI (b := 80) h (by omega)
  simp [h1, h2]
theorem px_un_m1 (ow : Nat → Int32) : px_un ow (-1) = false := by
  unfold px_un
  simp
/-- how many places from p on are not had, of k -/
def px_room (ow : Nat → Int32) : Nat → Nat → Nat
  | 0, _ => 0
  | k + 1, p => if ow p = -1 then 1 + px_room ow k (p + 1) else 0
theorem px_room_le (ow : Nat → Int32) : ∀ (k p : Nat), px_room ow k p ≤ k
  | 0, _ => Nat.le_refl 0
  | k + 1, p => by
    unfold px_room
    have := px_room_le ow k (p + 1)
    split <;> omega
theorem px_room_in {ow : Nat → Int32} : ∀ {k p i : Nat}, i < px_room ow k p → ow (p + i) = -1
  | 0, _, _, h => absurd h (Nat.not_lt_zero _)
  | k + 1, p, i, h => by
    unfold px_room at h
    split at h
    · rename_i h1
      cases i with
      | zero => exact h1
      | succ i =>
        have := px_room_in (ow := ow) (k := k) (p := p + 1) (i := i) (by omega)
        rw [show p + (i + 1) = p + 1 + i by omega]
        exact this
    · exact absurd h (Nat.not_lt_zero _)
theorem px_room_end {ow : Nat → Int32} : ∀ {k p : Nat}, px_room ow k p < k → ow (p + px_room ow k p) ≠ -1
  | 0, _, h => absurd h (Nat.not_lt_zero _)
  | k + 1, p, h => by
    unfold px_room at h ⊢
    split at h
    · rename_i h1
      rw [if_pos h1]
      have := px_room_end (ow := ow) (k := k) (p := p + 1) (by omega)
      rw [show p + (1 + px_room ow k (p + 1)) = p + 1 + px_room ow k (p + 1) by omega]
      exact this
    · rename_i h1
      rw [if_neg h1]
      exact h1
/-- a row of r suits n better than one of s -/
def px_bet (n s r : Nat) : Bool := if s < n then decide (s < r) else decide (n ≤ r) && decide (r < s)
def px_bf (ow : Nat → Int32) (n : Nat) : Nat → Nat → Int32 → Nat → Int32
  | 0, _, b, _ => b
  | k + 1, p, b, s => if 0 < px_room ow (k + 1) p ∧ (p = 0 ∨ ow (p - 1) ≠ -1) ∧ px_bet n s (px_room ow (k + 1) p) = true then px_bf ow n k (p + 1) (nI p) (px_room ow (k + 1) p) else px_bf ow n k (p + 1) b s
def px_best (ow : Nat → Int32) (n : Nat) : Int32 := px_bf ow n 80 0 (-1) 0
theorem px_bf_un {ow : Nat → Int32} {n : Nat} : ∀ (k p : Nat) (b : Int32) (s : Nat), p + k = 80 → px_un ow b = true → px_un ow (px_bf ow n k p b s) = true
  | 0, _, _, _, _, h => h
  | k + 1, p, b, s, hk, h => by
    unfold px_bf
    split
    · rename_i h1
      refine px_bf_un k (p + 1) _ _ (by omega) ?_
      rw [px_un_nI ow (by omega)]
      have h2 := px_room_in (ow := ow) (k := k + 1) (p := p) (i := 0) h1.1
      simp only [Nat.add_zero] at h2
      simp [h2]
      omega
    · exact px_bf_un k (p + 1) b s (by omega) h
/-- where a place is left one is found -/
theorem px_bf_some {ow : Nat → Int32} {n : Nat} (hn : 0 < n) : ∀ (k p : Nat), p + k = 80 → (p = 0 ∨ ow (p - 1) ≠ -1) → (∃ q, p ≤ q ∧ q < 80 ∧ ow q = -1) → px_un ow (px_bf ow n k p (-1) 0) = true
  | 0, p, hk, _, ⟨q, h1, h2, _⟩ => by omega
  | k + 1, p, hk, hp, ⟨q, h1, h2, h3⟩ => by
    unfold px_bf
    by_cases hw : ow p = -1
    · have hr : 0 < px_room ow (k + 1) p := by
        unfold px_room
        rw [if_pos hw]
        omega
      rw [if_pos ⟨hr, hp, by unfold px_bet; rw [if_pos hn]; simpa using hr⟩]
      refine px_bf_un k (p + 1) _ _ (by omega) ?_
      rw [px_un_nI ow (by omega)]
      simp [hw]
      omega
    · have hr : px_room ow (k + 1) p = 0 := by
        unfold px_room
        rw [if_neg hw]
      rw [if_neg (by rw [hr]; omega)]
      refine px_bf_some hn k (p + 1) (by omega) (Or.inr (by simpa using hw)) ⟨q, ?_, h2, h3⟩
      rcases Nat.lt_or_ge p q with h | h
      · exact h
      · exact absurd (by rw [show p = q by omega]; exact h3) hw
theorem px_best_un {ow : Nat → Int32} {n : Nat} (hn : 0 < n) (h : ∃ q, q < 80 ∧ ow q = -1) : px_un ow (px_best ow n) = true := by
  obtain ⟨q, h1, h2⟩ := h
  exact px_bf_some hn 80 0 rfl (Or.inl rfl) ⟨q, Nat.zero_le _, h1, h2⟩
/-- the places among which a jump lands don't count: inside a row nothing begins -/
theorem px_bf_skip {ow : Nat → Int32} {n : Nat} : ∀ (j k p : Nat) (b : Int32) (s : Nat), j ≤ px_room ow k p → j ≤ k → 0 < p → ow (p - 1) = -1 → px_bf ow n k p b s = px_bf ow n (k - j) (p + j) b s
  | 0, _, _, _, _, _, _, _, _ => rfl
  | j + 1, 0, _, _, _, _, h, _, _ => absurd h (by omega)
  | j + 1, k + 1, p, b, s, hr, hk, hp, hm => by
    have e1 : px_bf ow n (k + 1) p b s = px_bf ow n k (p + 1) b s := by
      rw [px_bf, if_neg (fun z => by rcases z.2.1 with h | h; omega; exact h hm)]
    have h0 : ow p = -1 := by
      have := px_room_in (ow := ow) (k := k + 1) (p := p) (i := 0) (by omega)
      simpa using this
    have hr2 : j ≤ px_room ow k (p + 1) := by
      unfold px_room at hr
      rw [if_pos h0] at hr
      omega
    rw [e1, px_bf_skip j k (p + 1) b s hr2 (by omega) (by omega) (by simpa using h0)]
    congr 1 <;> omega
/-- how many places are not had -/
def px_nu (ow : Nat → Int32) : Nat := px_cnt (fun p => ow p == -1) 0 80
theorem px_nu_ex {ow : Nat → Int32} (h : 0 < px_nu ow) : ∃ q, q < 80 ∧ ow q = -1 := by
  obtain ⟨k, h1, h2⟩ := px_cnt_pos h
  simp only [Nat.zero_add, beq_iff_eq] at h2
  exact ⟨k, h1, h2⟩
theorem px_nu_take {ow : Nat → Int32} {p : Nat} {v : Int32} (hp : p < 80) (h : ow p = -1) (hv : v ≠ -1) : px_nu (upd ow p v) + 1 = px_nu ow := by
  unfold px_nu
  rw [px_cnt_on (P := fun q => upd ow p v q == -1) (Q := fun q => ow q == -1) (i := p) (Nat.zero_le _) (by omega) (by simp [upd, hv]) (by simp [h]) (fun j hj => by simp [upd, hj])]
theorem px_nu_give {ow : Nat → Int32} {p : Nat} (hp : p < 80) (h : ow p ≠ -1) : px_nu (upd ow p (-1)) = px_nu ow + 1 := by
  unfold px_nu
  exact px_cnt_on (P := fun q => ow q == -1) (Q := fun q => upd ow p (-1) q == -1) (i := p) (Nat.zero_le _) (by omega) (by simp [h]) (by simp [upd]) (fun j hj => by simp [upd, hj])
/-- a row of k blocks from b on is mapped; c is the place that would go on the row ahead; own + b is block b's name on the volume -/
def px_mr (own : Nat) : Nat → Nat → Int32 → (Nat → Int32) → (Nat → Int32) → (Nat → Int32) × (Nat → Int32)
  | 0, _, _, pl, ow => (pl, ow)
  | k + 1, b, c, pl, ow => if px_un ow (if px_un ow c then c else px_best ow (k + 1)) then px_mr own k (b + 1) ((if px_un ow c then c else px_best ow (k + 1)) + 1) (upd pl b (if px_un ow c then c else px_best ow (k + 1))) (upd ow (if px_un ow c then c else px_best ow (k + 1)).toNatClampNeg (nI (own + b))) else px_mr own k (b + 1) ((if px_un ow c then c else px_best ow (k + 1)) + 1) pl ow
def px_er (P : Nat → Bool) : Nat → Nat → Nat
  | 0, b => b
  | k + 1, b => if P b then px_er P k (b + 1) else b
/-- the place that goes on the row ahead of block b; f: b is a file's first -/
def px_cand (f : Bool) (pl : Nat → Int32) (b : Nat) : Int32 := if f || px_hole pl (b - 1) then -1 else pl (b - 1) + 1
def px_mh (own lo : Nat) (sel : Nat → Bool) : Nat → Nat → Nat → (Nat → Int32) → (Nat → Int32) → (Nat → Int32) × (Nat → Int32)
  | 0, _, _, pl, ow => (pl, ow)
  | k + 1, b, e, pl, ow => if b < e then px_mh own lo sel k (px_er (fun j => px_hole pl j && sel j) (e - b) b + 1) e (px_mr own (px_er (fun j => px_hole pl j && sel j) (e - b) b - b) b (px_cand (b == lo) pl b) pl ow).1 (px_mr own (px_er (fun j => px_hole pl j && sel j) (e - b) b - b) b (px_cand (b == lo) pl b) pl ow).2 else (pl, ow)
