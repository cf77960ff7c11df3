theorem px_b_t : px_b true = nI 1 := rfl
theorem px_b_f : px_b false = nI 0 := rfl
theorem px_ix3 {x : Int32} {n : Nat} (hn : n < 2 ^ 31) (h1 : ¬ x < 0) (h2 : ¬ nI n ≤ x) : ∃ j, j < n ∧ x = nI j := by
  rcases pk_ix x hn with h | h | h
  · exact absurd h h1
  · exact absurd h h2
  · exact h
theorem px_c0t {P : Nat → Bool} {b c : Nat} (h : c = px_cnt P 0 b) (hp : P b = true) : c + 1 = px_cnt P 0 (b + 1) := by
  rw [px_cnt, Nat.zero_add, hp, h]
  rfl
theorem px_c0f {P : Nat → Bool} {b c : Nat} (h : c = px_cnt P 0 b) (hp : P b = false) : c = px_cnt P 0 (b + 1) := by
  rw [px_cnt, Nat.zero_add, hp, h]
  rfl
theorem px_cat {P : Nat → Bool} {a b c : Nat} (hab : a ≤ b) (h : c = px_cnt P a (b - a)) (hp : P b = true) : c + 1 = px_cnt P a (b + 1 - a) := by
  rw [show b + 1 - a = (b - a) + 1 by omega, px_cnt, show a + (b - a) = b by omega, hp, h]
  rfl
theorem px_caf {P : Nat → Bool} {a b c : Nat} (hab : a ≤ b) (h : c = px_cnt P a (b - a)) (hp : P b = false) : c = px_cnt P a (b + 1 - a) := by
  rw [show b + 1 - a = (b - a) + 1 by omega, px_cnt, show a + (b - a) = b by omega, hp, h]
  rfl
theorem px_un_neg {ow : Nat → Int32} {x : Int32} (h : x < 0) : px_un ow x = false := by
  unfold px_un
  have : ¬ 0 ≤ x := Int32.not_le.mpr h
  simp [this]
theorem px_un_big {ow : Nat → Int32} {x : Int32} (h : nI 80 ≤ x) : px_un ow x = false := by
  unfold px_un
  have : ¬ x < 80 := Int32.not_lt.mpr h
  simp [this]
theorem px_un_in {ow : Nat → Int32} {j : Nat} (h : j < 80) : px_un ow (nI j) = (ow j == -1) := by
  rw [px_un_nI ow (by omega)]
  simp [h]
theorem px_room_s {ow : Nat → Int32} {k p : Nat} : px_room ow k p = if 0 < k ∧ ow p = -1 then 1 + px_room ow (k - 1) (p + 1) else 0 := by
  cases k with
  | zero => rfl
  | succ k =>
    rw [px_room]
    by_cases h : ow p = -1
    · rw [if_pos h, if_pos ⟨by omega, h⟩]; rfl
    · rw [if_neg h, if_neg (fun z => h z.2)]
theorem px_max {a b : Nat} (ha : a < 2 ^ 31) (hb : b < 2 ^ 31) : (if nI a < nI b then nI b else nI a) = nI (max a b) := by
  by_cases h : a < b
  · rw [if_pos ((nI_ltI ha hb).mpr h), Nat.max_eq_right (by omega)]
  · rw [if_neg (fun z => h ((nI_ltI ha hb).mp z)), Nat.max_eq_left (by omega)]
theorem px_min {a b : Nat} (ha : a < 2 ^ 31) (hb : b < 2 ^ 31) : (if nI b < nI a then nI b else nI a) = nI (min a b) := by
  by_cases h : b < a
  · rw [if_pos ((nI_ltI hb ha).mpr h), Nat.min_eq_right (by omega)]
  · rw [if_neg (fun z => h ((nI_ltI hb ha).mp z)), Nat.min_eq_left (by omega)]
/-- the jump over a row of places and the place behind it -/
theorem px_bf_row {ow : Nat → Int32} {n : Nat} (hn : 0 < n) {p : Nat} {b : Int32} {s : Nat} (hp : p < 80) (h0 : p = 0 ∨ ow (p - 1) ≠ -1) :
    px_bf ow n (80 - p) p b s = px_bf ow n (80 - (p + px_room ow (80 - p) p + 1)) (p + px_room ow (80 - p) p + 1) (if px_bet n s (px_room ow (80 - p) p) = true then nI p else b) (if px_bet n s (px_room ow (80 - p) p) = true then px_room ow (80 - p) p else s) := by
  obtain ⟨k, hk⟩ : ∃ k, 80 - p = k + 1 := ⟨79 - p, by omega⟩
  rw [hk]
  generalize hr : px_room ow (k + 1) p = r
  have hle : r ≤ k + 1 := by rw [← hr]; exact px_room_le ow (k + 1) p
  have e1 : px_bf ow n (k + 1) p b s = px_bf ow n k (p + 1) (if px_bet n s r = true then nI p else b) (if px_bet n s r = true then r else s) := by
    rw [px_bf, hr]
    by_cases hb : px_bet n s r = true
    · have hr0 : 0 < r := by
        unfold px_bet at hb
        split at hb
        · have := of_decide_eq_true hb; omega
        · simp only [Bool.and_eq_true, decide_eq_true_eq] at hb; omega
      rw [if_pos ⟨hr0, h0, hb⟩, if_pos hb, if_pos hb]
    · rw [if_neg (fun z => hb z.2.2), if_neg hb, if_neg hb]
  rw [e1]
  generalize (if px_bet n s r = true then nI p else b) = b'
  generalize (if px_bet n s r = true then r else s) = s'
  by_cases hr0 : r = 0
  · subst hr0
    congr 1; omega
  · have hw : ow p = -1 := by
      have := px_room_in (ow := ow) (k := k + 1) (p := p) (i := 0) (by omega)
      simpa using this
    have hr2 : px_room ow k (p + 1) = r - 1 := by
      rw [px_room, if_pos hw] at hr
      omega
    rw [px_bf_skip (r - 1) k (p + 1) b' s' (by omega) (by omega) (by omega) (by simpa using hw)]
    by_cases hk2 : r = k + 1
    · have z1 : k - (r - 1) = 0 := by omega
      have z2 : 80 - (p + r + 1) = 0 := by omega
      rw [z1, z2]
      rfl
    · obtain ⟨j, hj⟩ : ∃ j, k - (r - 1) = j + 1 := ⟨k - r, by omega⟩
      rw [hj]
      have hend : ow (p + r) ≠ -1 := by
        have := px_room_end (ow := ow) (k := k + 1) (p := p) (by omega)
        rw [hr] at this
        exact this
      have hz : px_room ow (j + 1) (p + 1 + (r - 1)) = 0 := by
        rw [px_room, if_neg (by rw [show p + 1 + (r - 1) = p + r by omega]; exact hend)]
      rw [px_bf, hz, if_neg (by omega)]
      congr 1 <;> omega
