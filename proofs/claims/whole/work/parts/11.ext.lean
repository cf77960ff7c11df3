/-! how far the number of extents can turn -/
def px_fx (pl wr : Nat → Int32) : Nat → Nat → Nat → Int32 → Int32 → Nat
  | 0, _, _, _, _ => 0
  | k + 1, b, c, pp, pw => if px_hole pl b then px_fx pl wr k (b + 1) 0 (pl b) (wr b) else if 0 < c ∧ c < 8 ∧ (pl b = pp + 1 ∧ wr b = pw) then px_fx pl wr k (b + 1) (c + 1) (pl b) (wr b) else 1 + px_fx pl wr k (b + 1) 1 (pl b) (wr b)
theorem px_fx_0 {pl wr : Nat → Int32} {k b c c' : Nat} {pp pw pp' pw' : Int32} (h : c = 0 ∨ 8 ≤ c) (h' : c' = 0 ∨ 8 ≤ c') : px_fx pl wr k b c pp pw = px_fx pl wr k b c' pp' pw' := by
  cases k with
  | zero => rfl
  | succ k =>
    unfold px_fx
    split
    · rfl
    · rw [if_neg (by omega), if_neg (by omega)]
theorem px_fx_ex {pl wr : Nat → Int32} : ∀ (k b c : Nat), px_ex pl wr k b c = px_fx pl wr k b c (pl (b - 1)) (wr (b - 1))
  | 0, _, _ => rfl
  | k + 1, b, c => by
    unfold px_ex px_fx
    have hg : (px_go pl wr b = true) = (pl b = pl (b - 1) + 1 ∧ wr b = wr (b - 1)) := by
      unfold px_go
      simp
    rw [px_fx_ex k (b + 1) 0, px_fx_ex k (b + 1) (c + 1), px_fx_ex k (b + 1) 1]
    simp only [hg, Nat.add_sub_cancel]
theorem px_fx_mono {pl wr : Nat → Int32} : ∀ (k b c c' : Nat) (pp pw : Int32), 0 < c → c ≤ c' → px_fx pl wr k b c pp pw ≤ px_fx pl wr k b c' pp pw ∧ px_fx pl wr k b c' pp pw ≤ px_fx pl wr k b c pp pw + 1
  | 0, _, _, _, _, _, _, _ => ⟨Nat.le_refl _, Nat.zero_le _⟩
  | k + 1, b, c, c', pp, pw, h0, h => by
    unfold px_fx
    by_cases hh : px_hole pl b = true
    · rw [if_pos hh, if_pos hh]
      omega
    · rw [if_neg hh, if_neg hh]
      by_cases hg : pl b = pp + 1 ∧ wr b = pw
      · by_cases h8 : c' < 8
        · rw [if_pos ⟨h0, by omega, hg⟩, if_pos ⟨by omega, h8, hg⟩]
          exact px_fx_mono k (b + 1) (c + 1) (c' + 1) _ _ (by omega) (by omega)
        · rw [if_neg (c := 0 < c' ∧ c' < 8 ∧ (pl b = pp + 1 ∧ wr b = pw)) (by omega)]
          by_cases h9 : c < 8
          · rw [if_pos ⟨h0, h9, hg⟩]
            have := px_fx_mono (pl := pl) (wr := wr) k (b + 1) 1 (c + 1) (pl b) (wr b) (by omega) (by omega)
            omega
          · rw [if_neg (by omega)]
            omega
      · rw [if_neg (fun z => hg z.2.2), if_neg (fun z => hg z.2.2)]
        omega
theorem px_fx_any {pl wr : Nat → Int32} (k b c : Nat) (pp pw pp' pw' : Int32) : px_fx pl wr k b c pp pw ≤ px_fx pl wr k b 0 pp' pw' ∧ px_fx pl wr k b 0 pp' pw' ≤ px_fx pl wr k b c pp pw + 1 := by
  by_cases h : 0 < c ∧ c < 8
  · have h1 := px_fx_mono (pl := pl) (wr := wr) k b c 8 pp pw h.1 (by omega)
    rw [px_fx_0 (c := 8) (c' := 0) (pp' := pp') (pw' := pw') (Or.inr (by omega)) (Or.inl rfl)] at h1
    exact h1
  · rw [px_fx_0 (c := c) (c' := 0) (pp' := pp') (pw' := pw') (by omega) (Or.inl rfl)]
    omega
/-- what the turn of one block can cost -/
def px_co (pl wr pl' wr' : Nat → Int32) (b : Nat) : Nat :=
  if px_hole pl b then (if px_hole pl' b then 0 else 1) else if px_hole pl' b then 1 else if pl b = pl' b ∧ wr b = wr' b then 0 else 2
def px_cs (pl wr pl' wr' : Nat → Int32) : Nat → Nat → Nat
  | 0, _ => 0
  | k + 1, b => px_co pl wr pl' wr' b + px_cs pl wr pl' wr' k (b + 1)
theorem px_fx_cmp {pl wr pl' wr' : Nat → Int32} : ∀ (k b c : Nat) (pp pw : Int32), px_fx pl' wr' k b c pp pw ≤ px_fx pl wr k b c pp pw + px_cs pl wr pl' wr' k b
  | 0, _, _, _, _ => Nat.zero_le _
  | k + 1, b, c, pp, pw => by
    have ih := fun c pp pw => px_fx_cmp (pl := pl) (wr := wr) (pl' := pl') (wr' := wr') k (b + 1) c pp pw
    unfold px_cs px_co
    have hA := fun c' pp' pw' => px_fx_any (pl := pl) (wr := wr) k (b + 1) c' pp' pw' (pl b) (wr b)
    have hB : px_fx pl' wr' (k + 1) b c pp pw ≤ 1 + px_fx pl wr k (b + 1) 0 (pl b) (wr b) + px_cs pl wr pl' wr' k (b + 1) := by
      rw [px_fx]
      split
      · have := ih 0 (pl' b) (wr' b)
        have := hA 0 (pl' b) (wr' b)
        omega
      · split
        · have := ih (c + 1) (pl' b) (wr' b)
          have := hA (c + 1) (pl' b) (wr' b)
          omega
        · have := ih 1 (pl' b) (wr' b)
          have := hA 1 (pl' b) (wr' b)
          omega
    by_cases h1 : px_hole pl b = true
    · rw [if_pos h1]
      have e1 : px_fx pl wr (k + 1) b c pp pw = px_fx pl wr k (b + 1) 0 (pl b) (wr b) := by rw [px_fx, if_pos h1]
      rw [e1]
      by_cases h2 : px_hole pl' b = true
      · rw [if_pos h2]
        have e2 : px_fx pl' wr' (k + 1) b c pp pw = px_fx pl' wr' k (b + 1) 0 (pl b) (wr b) := by rw [px_fx, if_pos h2]; exact px_fx_0 (Or.inl rfl) (Or.inl rfl)
        rw [e2]
        have := ih 0 (pl b) (wr b)
        omega
      · rw [if_neg h2]
        omega
    · rw [if_neg h1]
      have hA1 : px_fx pl wr k (b + 1) 0 (pl b) (wr b) ≤ px_fx pl wr (k + 1) b c pp pw + 1 := by
        rw [px_fx, if_neg h1]
        split
        · exact (hA (c + 1) (pl b) (wr b)).2
        · have := (hA 1 (pl b) (wr b)).2
          omega
      by_cases h2 : px_hole pl' b = true
      · rw [if_pos h2]
        have e2 : px_fx pl' wr' (k + 1) b c pp pw = px_fx pl' wr' k (b + 1) 0 (pl b) (wr b) := by rw [px_fx, if_pos h2]; exact px_fx_0 (Or.inl rfl) (Or.inl rfl)
        rw [e2]
        have := ih 0 (pl b) (wr b)
        omega
      · rw [if_neg h2]
        by_cases h3 : pl b = pl' b ∧ wr b = wr' b
        · rw [if_pos h3]
          rw [px_fx, px_fx, if_neg h1, if_neg h2, ← h3.1, ← h3.2]
          have := ih (c + 1) (pl b) (wr b)
          have := ih 1 (pl b) (wr b)
          split <;> omega
        · rw [if_neg h3]
          omega
theorem px_ex_cmp (pl wr pl' wr' : Nat → Int32) (k b : Nat) : px_ex pl' wr' k b 0 ≤ px_ex pl wr k b 0 + px_cs pl wr pl' wr' k b := by
  rw [px_fx_ex, px_fx_ex, px_fx_0 (pl := pl') (c := 0) (c' := 0) (pp' := pl (b - 1)) (pw' := wr (b - 1)) (Or.inl rfl) (Or.inl rfl)]
  exact px_fx_cmp k b 0 _ _
