/-! the volume and the blocks fit: every mapped block's place is had by it -/
def px_I1 (pl ow : Nat → Int32) : Prop := (∀ q, q < 240 → pl q = -1 ∨ ∃ p, p < 80 ∧ pl q = nI p ∧ ow p = nI q) ∧ (∀ p, p < 80 → ow p = -1 ∨ ∃ q, q < 240 ∧ ow p = nI q)
def px_mp (pl : Nat → Int32) : Nat := px_cnt (fun q => !px_hole pl q) 0 240
theorem px_I1.rng {pl ow : Nat → Int32} (h : px_I1 pl ow) : px_rng pl 0 240 := fun b _ hb => by
  rcases h.1 b (by omega) with h1 | ⟨p, h1, h2, _⟩
  · exact Or.inl h1
  · exact Or.inr ⟨p, h1, h2⟩
theorem px_un_spec {ow : Nat → Int32} {c : Int32} (h : px_un ow c = true) : ∃ p, p < 80 ∧ c = nI p ∧ ow p = -1 := by
  unfold px_un at h
  simp only [Bool.and_eq_true, decide_eq_true_eq, beq_iff_eq] at h
  obtain ⟨⟨h1, h2⟩, h3⟩ := h
  have h4 : ¬ c < 0 := Int32.not_lt.mpr h1
  obtain ⟨j, hj, rfl⟩ := nI_of h4
  rw [nI_clamp hj] at h3
  have h5 : (nI j < (80 : Int32)) ↔ j < 80 := nI_ltI (b := 80) hj (by omega)
  exact ⟨j, h5.mp h2, rfl, h3⟩
theorem px_I1.take {pl ow : Nat → Int32} {b p : Nat} (h : px_I1 pl ow) (hb : b < 240) (hp : p < 80) (ho : ow p = -1) : px_I1 (upd pl b (nI p)) (upd ow p (nI b)) := by
  refine ⟨fun q hq => ?_, fun r hr => ?_⟩
  · by_cases e : q = b
    · subst e
      exact Or.inr ⟨p, hp, by simp [upd], by simp [upd]⟩
    · rcases h.1 q hq with h1 | ⟨r, h1, h2, h3⟩
      · exact Or.inl (by simp [upd, e, h1])
      · refine Or.inr ⟨r, h1, by simp [upd, e, h2], ?_⟩
        have : r ≠ p := fun z => by
          subst z
          rw [ho] at h3
          exact px_m1 (by omega) h3.symm
        simp [upd, this, h3]
  · by_cases e : r = p
    · subst e
      exact Or.inr ⟨b, hb, by simp [upd]⟩
    · rcases h.2 r hr with h1 | ⟨q, h1, h2⟩
      · exact Or.inl (by simp [upd, e, h1])
      · exact Or.inr ⟨q, h1, by simp [upd, e, h2]⟩
theorem px_I1.give {pl ow : Nat → Int32} {b p : Nat} (h : px_I1 pl ow) (hb : b < 240) (hp : p < 80) (ho : pl b = nI p) : px_I1 (upd pl b (-1)) (upd ow p (-1)) := by
  have hob : ow p = nI b := by
    rcases h.1 b hb with h1 | ⟨r, h1, h2, h3⟩
    · rw [ho] at h1
      exact absurd h1 (px_m1 (by omega))
    · rw [ho] at h2
      have : p = r := (nI_eq (by omega) (by omega)).mp h2
      rw [this]; exact h3
  refine ⟨fun q hq => ?_, fun r hr => ?_⟩
  · by_cases e : q = b
    · subst e
      exact Or.inl (by simp [upd])
    · rcases h.1 q hq with h1 | ⟨r, h1, h2, h3⟩
      · exact Or.inl (by simp [upd, e, h1])
      · refine Or.inr ⟨r, h1, by simp [upd, e, h2], ?_⟩
        have : r ≠ p := fun z => by
          subst z
          rw [hob] at h3
          exact e ((nI_eq (by omega) (by omega)).mp h3).symm
        simp [upd, this, h3]
  · by_cases e : r = p
    · subst e
      exact Or.inl (by simp [upd])
    · rcases h.2 r hr with h1 | ⟨q, h1, h2⟩
      · exact Or.inl (by simp [upd, e, h1])
      · exact Or.inr ⟨q, h1, by simp [upd, e, h2]⟩
theorem px_mp_take {pl : Nat → Int32} {b p : Nat} (hb : b < 240) (hp : p < 80) (h : pl b = -1) : px_mp (upd pl b (nI p)) = px_mp pl + 1 := by
  unfold px_mp
  refine px_cnt_on (i := b) (Nat.zero_le _) (by omega) (by simp [px_hole, h]) ?_ (fun j hj => by simp [px_hole, upd, hj])
  have := px_m1 (p := p) (by omega)
  simp [px_hole, upd, this]
theorem px_mp_give {pl : Nat → Int32} {b : Nat} (hb : b < 240) (h : pl b ≠ -1) : px_mp (upd pl b (-1)) + 1 = px_mp pl := by
  unfold px_mp
  exact (px_cnt_on (P := fun q => !px_hole (upd pl b (-1)) q) (Q := fun q => !px_hole pl q) (i := b) (Nat.zero_le _) (by omega) (by simp [px_hole, upd]) (by simp [px_hole, h]) (fun j hj => by simp [px_hole, upd, hj])).symm
/-- what mapping a row does -/
def px_mrP (pl ow pl' ow' : Nat → Int32) (b k : Nat) : Prop :=
  (∀ j, (j < b ∨ b + k ≤ j) → pl' j = pl j) ∧ (∀ j, b ≤ j → j < b + k → ∃ p, p < 80 ∧ pl' j = nI p) ∧ px_I1 pl' ow' ∧ px_nu ow' + k = px_nu ow ∧ px_mp pl' = px_mp pl + k
theorem px_mr_spec : ∀ (k b : Nat) (c : Int32) (pl ow : Nat → Int32), px_I1 pl ow → b + k ≤ 240 → (∀ j, b ≤ j → j < b + k → pl j = -1) → k ≤ px_nu ow → px_mrP pl ow (px_mr 0 k b c pl ow).1 (px_mr 0 k b c pl ow).2 b k
  | 0, b, c, pl, ow, h, _, _, _ => ⟨fun _ _ => rfl, fun j h1 h2 => by omega, h, Nat.add_zero _, (Nat.add_zero _).symm⟩
  | k + 1, b, c, pl, ow, h, hb, hh, hn => by
    have hu : px_un ow (if px_un ow c then c else px_best ow (k + 1)) = true := by
      by_cases hc : px_un ow c = true
      · rw [if_pos hc]; exact hc
      · rw [if_neg hc]
        exact px_best_un (by omega) (px_nu_ex (by omega))
    rw [px_mr, if_pos hu]
    obtain ⟨p, hp, he, ho⟩ := px_un_spec hu
    rw [he, nI_clamp (show p < 2 ^ 31 by omega), Nat.zero_add]
    have hpl : pl b = -1 := hh b (by omega) (by omega)
    have hnu := px_nu_take (v := nI b) hp ho (px_m1 (by omega))
    obtain ⟨a1, a2, a3, a4, a5⟩ := px_mr_spec k (b + 1) (nI p + 1) (upd pl b (nI p)) (upd ow p (nI b)) (h.take (by omega) hp ho) (by omega)
      (fun j h1 h2 => by rw [← hh j (by omega) (by omega)]; simp [upd]; omega) (by omega)
    have hm := px_mp_take (p := p) (show b < 240 by omega) hp hpl
    refine ⟨fun j hj => ?_, fun j h1 h2 => ?_, a3, by omega, by omega⟩
    · rw [a1 j (by omega)]
      simp [upd]
      omega
    · by_cases e : j = b
      · subst e
        refine ⟨p, hp, ?_⟩
        rw [a1 j (by omega)]
        simp [upd]
      · exact a2 j (by omega) (by omega)
theorem px_er_le (P : Nat → Bool) : ∀ (k b : Nat), b ≤ px_er P k b ∧ px_er P k b ≤ b + k
  | 0, b => ⟨Nat.le_refl _, Nat.le_refl _⟩
  | k + 1, b => by
    unfold px_er
    have := px_er_le P k (b + 1)
    split <;> omega
theorem px_er_in {P : Nat → Bool} : ∀ (k b j : Nat), b ≤ j → j < px_er P k b → P j = true
  | 0, b, j, h1, h2 => by unfold px_er at h2; omega
  | k + 1, b, j, h1, h2 => by
    unfold px_er at h2
    split at h2
    · rename_i hp
      by_cases e : j = b
      · rw [e]; exact hp
      · exact px_er_in k (b + 1) j (by omega) h2
    · omega
theorem px_er_out {P : Nat → Bool} : ∀ (k b : Nat), px_er P k b < b + k → P (px_er P k b) = false
  | 0, b, h => by unfold px_er at h; omega
  | k + 1, b, h => by
    unfold px_er at h ⊢
    split at h
    · rename_i hp
      rw [if_pos hp]
      exact px_er_out k (b + 1) (by omega)
    · rename_i hp
      rw [if_neg hp]
      simpa using hp
def px_mhP (sel : Nat → Bool) (pl ow pl' ow' : Nat → Int32) (b e : Nat) : Prop :=
  (∀ j, ¬ (b ≤ j ∧ j < e ∧ px_hole pl j = true ∧ sel j = true) → pl' j = pl j) ∧ (∀ j, b ≤ j → j < e → px_hole pl j = true → sel j = true → ∃ p, p < 80 ∧ pl' j = nI p) ∧ px_I1 pl' ow' ∧ px_nu ow' + px_mp pl' = px_nu ow + px_mp pl
theorem px_mh_spec (lo : Nat) (sel : Nat → Bool) : ∀ (k b e : Nat) (pl ow : Nat → Int32), e - b ≤ k → px_I1 pl ow → e ≤ 240 → px_cnt (fun j => px_hole pl j && sel j) b (e - b) ≤ px_nu ow → px_mhP sel pl ow (px_mh 0 lo sel k b e pl ow).1 (px_mh 0 lo sel k b e pl ow).2 b e
  | 0, b, e, pl, ow, hk, h, _, _ => ⟨fun _ _ => rfl, fun j h1 h2 => by omega, h, rfl⟩
  | k + 1, b, e, pl, ow, hk, h, he, hn => by
    rw [px_mh]
    by_cases hb : b < e
    · rw [if_pos hb]
      have hE : ∀ r, r = px_er (fun j => px_hole pl j && sel j) (e - b) b → b ≤ r ∧ r ≤ e ∧ (∀ j, b ≤ j → j < r → px_hole pl j = true ∧ sel j = true) ∧ (r < e → (px_hole pl r && sel r) = false) := by
        intro r hr
        have h1 := px_er_le (fun j => px_hole pl j && sel j) (e - b) b
        refine ⟨by omega, by omega, fun j h2 h3 => ?_, fun h2 => ?_⟩
        · have := px_er_in (P := fun j => px_hole pl j && sel j) (e - b) b j h2 (by omega)
          simpa using this
        · have := px_er_out (P := fun j => px_hole pl j && sel j) (e - b) b (by omega)
          rw [hr]
          exact this
      generalize hr : px_er (fun j => px_hole pl j && sel j) (e - b) b = r
      obtain ⟨r1, r2, r3, r4⟩ := hE r hr.symm
      generalize px_cand (b == lo) pl b = c
      have hcs : px_cnt (fun j => px_hole pl j && sel j) b (e - b) = (r - b) + px_cnt (fun j => px_hole pl j && sel j) r (e - r) := by
        rw [show e - b = (r - b) + (e - r) by omega, px_cnt_add, show b + (r - b) = r by omega]
        congr 1
        have h1 : ∀ n, n ≤ r - b → px_cnt (fun j => px_hole pl j && sel j) b n = n := by
          intro n
          induction n with
          | zero => intro _; rfl
          | succ n ih =>
            intro hn'
            have := r3 (b + n) (by omega) (by omega)
            rw [px_cnt, ih (by omega), this.1, this.2]
            rfl
        exact h1 _ (Nat.le_refl _)
      obtain ⟨a1, a2, a3, a4, a5⟩ := px_mr_spec (r - b) b c pl ow h (by omega) (fun j h1 h2 => by have := (r3 j h1 (by omega)).1; simpa [px_hole] using this) (by omega)
      generalize (px_mr 0 (r - b) b c pl ow).1 = pl1 at a1 a2 a3 a4 a5 ⊢
      generalize (px_mr 0 (r - b) b c pl ow).2 = ow1 at a3 a4 ⊢
      have hcr : px_cnt (fun j => px_hole pl1 j && sel j) (r + 1) (e - (r + 1)) ≤ px_cnt (fun j => px_hole pl j && sel j) r (e - r) := by
        by_cases hre : r < e
        · rw [show e - r = 1 + (e - (r + 1)) by omega, px_cnt_add]
          refine Nat.le_trans (Nat.le_of_eq (px_cnt_congr (b := r + 1) (fun n hn' => ?_))) (Nat.le_add_left _ _)
          simp only [px_hole]
          rw [a1 _ (by omega)]
        · rw [show e - (r + 1) = 0 by omega]
          exact Nat.zero_le _
      obtain ⟨b1, b2, b3, b4⟩ := px_mh_spec lo sel k (r + 1) e pl1 ow1 (by omega) a3 he (by omega)
      refine ⟨fun j hj => ?_, fun j h1 h2 h3 h4 => ?_, b3, by omega⟩
      · by_cases hin : b ≤ j ∧ j < r
        · exact absurd ⟨hin.1, by omega, r3 j hin.1 hin.2⟩ hj
        · have e1 : pl1 j = pl j := a1 j (by omega)
          rw [b1 j, e1]
          rintro ⟨c1, c2, c3, c4⟩
          refine hj ⟨by omega, c2, ?_, c4⟩
          simpa [px_hole, e1] using c3
      · by_cases hin : j < r
        · obtain ⟨p, hp, hq⟩ := a2 j h1 (by omega)
          refine ⟨p, hp, ?_⟩
          rw [b1 j, hq]
          rintro ⟨c1, -⟩
          omega
        · have hjr : j ≠ r := fun z => by
            subst z
            have := r4 h2
            rw [h3, h4] at this
            cases this
          have e1 : pl1 j = pl j := a1 j (by omega)
          exact b2 j (by omega) h2 (by simpa [px_hole, e1] using h3) h4
    · rw [if_neg hb]
      exact ⟨fun _ _ => rfl, fun j h1 h2 => by omega, h, rfl⟩
