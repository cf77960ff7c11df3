/-! how each call turns the state -/
theorem px_cnt_h (P : Nat → Bool) (a n : Nat) : px_cnt P a (n + 1) = (if P a = true then 1 else 0) + px_cnt P (a + 1) n := by
  rw [Nat.add_comm n 1, px_cnt_add]
  congr 1
  simp [px_cnt]
theorem rr_cs {pl wr pl' wr' : Nat → Int32} {P Q : Nat → Bool} : ∀ (k o : Nat), (∀ j, o ≤ j → j < o + k → px_co pl wr pl' wr' j ≤ (if P j = true then 1 else 0) + (if Q j = true then 2 else 0)) → px_cs pl wr pl' wr' k o ≤ px_cnt P o k + 2 * px_cnt Q o k
  | 0, _, _ => by simp [px_cs]
  | k + 1, o, h => by
    have h1 := rr_cs (P := P) (Q := Q) k (o + 1) (fun j h1 h2 => h j (by omega) (by omega))
    have h2 := h o (by omega) (by omega)
    rw [px_cs, px_cnt_h P, px_cnt_h Q]
    split at h2 <;> split at h2 <;> simp_all <;> omega
theorem px_cnt_or {P Q R : Nat → Bool} {a : Nat} : ∀ {n : Nat}, (∀ k, k < n → P (a + k) = true → Q (a + k) = true ∨ R (a + k) = true) → px_cnt P a n ≤ px_cnt Q a n + px_cnt R a n
  | 0, _ => Nat.le_refl _
  | n + 1, h => by
    have h1 := px_cnt_or (P := P) (Q := Q) (R := R) (a := a) (n := n) (fun k hk => h k (by omega))
    have h2 := h n (by omega)
    rw [px_cnt_add P a n 1, px_cnt_add Q a n 1, px_cnt_add R a n 1]
    have e : ∀ Z : Nat → Bool, px_cnt Z (a + n) 1 = if Z (a + n) = true then 1 else 0 := fun Z => by simp [px_cnt]
    rw [e, e, e]
    by_cases hp : P (a + n) = true
    · rcases h2 hp with h3 | h3 <;> simp only [hp, h3, if_true] <;> split <;> omega
    · simp only [hp]
      simp
      omega
theorem px_cnt_dj {P Q R : Nat → Bool} {a : Nat} : ∀ {n : Nat}, (∀ k, k < n → (P (a + k) = true → R (a + k) = true) ∧ (Q (a + k) = true → R (a + k) = true) ∧ ¬ (P (a + k) = true ∧ Q (a + k) = true)) → px_cnt P a n + px_cnt Q a n ≤ px_cnt R a n
  | 0, _ => Nat.le_refl _
  | n + 1, h => by
    have h1 := px_cnt_dj (P := P) (Q := Q) (R := R) (a := a) (n := n) (fun k hk => h k (by omega))
    obtain ⟨h2, h3, h4⟩ := h n (by omega)
    rw [px_cnt_add P a n 1, px_cnt_add Q a n 1, px_cnt_add R a n 1]
    have e : ∀ Z : Nat → Bool, px_cnt Z (a + n) 1 = if Z (a + n) = true then 1 else 0 := fun Z => by simp [px_cnt]
    rw [e, e, e]
    by_cases hp : P (a + n) = true
    · have hq : ¬ Q (a + n) = true := fun q => h4 ⟨hp, q⟩
      simp only [hp, hq, h2 hp, if_true]
      simp
      omega
    · by_cases hq : Q (a + n) = true
      · simp only [hq, h3 hq, if_true]
        simp [hp]
        omega
      · simp only [hp, hq]
        simp
        omega
theorem px_on_0 {pg : Nat → Int32} {j : Nat} (h : pg j = nI 0) : px_on pg j = false := by simp [px_on, h]; rfl
theorem rr_punch {pl wr pg sz ow sz' : Nat → Int32} {f q n : Nat} (hf : f < 4) (hq : 60 * f ≤ q) (hn : q + n ≤ 60 * f + 60) (h : rr_I pl wr pg sz ow) (hs : ∀ f, f < 4 → ∃ n, n ≤ 60 ∧ sz' f = nI n) : rr_I (px_fill pl q n (-1)) (px_fill wr q n (nI 0)) (px_fill pg q n (nI 0)) sz' (px_rel (fun _ => true) pl n q ow) := by
  obtain ⟨h1, h2, h3, h4, h5, h6, h7⟩ := h
  obtain ⟨r1, r2⟩ := px_rel_spec (fun _ => true) n q pl ow h1 (by omega)
  rw [px_cut_all] at r1 r2
  have hin : ∀ {g : Nat → Int32} {v : Int32} {j : Nat}, q ≤ j ∧ j < q + n → px_fill g q n v j = v := fun {g v j} hj => by unfold px_fill; rw [if_pos hj]
  refine ⟨r1, fun j hj hh => ?_, fun j hj => ?_, by omega, Nat.le_trans (px_sum_mono (fun k hk => ?_)) h5, Nat.le_trans (px_sum_mono (fun k hk => ?_)) h6, hs⟩
  · by_cases hj2 : q ≤ j ∧ j < q + n
    · exact hin hj2
    · rw [px_fill_o hj2]
      rw [px_hole_fl hj2] at hh
      exact h2 j hj hh
  · by_cases hj2 : q ≤ j ∧ j < q + n
    · rw [hin hj2, hin hj2]
      exact ⟨Or.inl rfl, Or.inl rfl⟩
    · rw [px_fill_o hj2, px_fill_o hj2]
      exact h3 j hj
  · by_cases e : k = f
    · subst e
      have c1 := px_ex_cmp pl wr (px_fill pl q n (-1)) (px_fill wr q n (nI 0)) 60 (60 * k)
      have c2 := rr_cs (pl := pl) (wr := wr) (pl' := px_fill pl q n (-1)) (wr' := px_fill wr q n (nI 0)) (P := fun j => !px_hole pl j && px_hole (px_fill pl q n (-1)) j) (Q := fun _ => false) 60 (60 * k) (fun j _ _ => by
        unfold px_co
        by_cases a1 : px_hole pl j = true
        · have a2 : px_hole (px_fill pl q n (-1)) j = true := by
            by_cases hj2 : q ≤ j ∧ j < q + n
            · simp [px_hole, hin hj2]
            · rw [px_hole_fl hj2]; exact a1
          simp [a1, a2]
        · by_cases a2 : px_hole (px_fill pl q n (-1)) j = true
          · simp [a1, a2]
          · have hj2 : ¬ (q ≤ j ∧ j < q + n) := fun z => a2 (by simp [px_hole, hin z])
            simp [a1, a2, px_fill_o hj2])
      have c3 : px_cnt (fun _ => false) (60 * k) 60 = 0 := px_cnt_0 (fun _ _ => rfl)
      have c4 : px_mm (px_fill pl q n (-1)) (60 * k) + px_cnt (fun j => !px_hole pl j && px_hole (px_fill pl q n (-1)) j) (60 * k) 60 ≤ px_mm pl (60 * k) := by
        refine px_cnt_dj (fun i _ => ⟨fun a => ?_, fun a => ?_, fun a => ?_⟩)
        · by_cases hj2 : q ≤ 60 * k + i ∧ 60 * k + i < q + n
          · simp [px_hole, hin hj2] at a
          · rw [px_hole_fl hj2] at a; exact a
        · simp only [Bool.and_eq_true] at a; exact a.1
        · simp only [Bool.and_eq_true, Bool.not_eq_true'] at a
          rw [a.1] at a
          exact absurd a.2.2 (by decide)
      have c5 : px_hh (px_fill pl q n (-1)) (px_fill pg q n (nI 0)) (60 * k) ≤ px_hh pl pg (60 * k) := by
        refine px_cnt_mono (fun i _ a => ?_)
        by_cases hj2 : q ≤ 60 * k + i ∧ 60 * k + i < q + n
        · simp [px_on_0 (hin hj2)] at a
        · rw [px_hole_fl hj2] at a
          simp only [px_on, px_fill_o hj2] at a ⊢
          exact a
      have c6 : px_uu (px_fill pl q n (-1)) (px_fill wr q n (nI 0)) (px_fill pg q n (nI 0)) (60 * k) ≤ px_uu pl wr pg (60 * k) := by
        refine px_cnt_mono (fun i _ a => ?_)
        by_cases hj2 : q ≤ 60 * k + i ∧ 60 * k + i < q + n
        · simp [px_on_0 (hin hj2)] at a
        · rw [px_hole_fl hj2] at a
          simp only [px_on, px_fill_o hj2] at a ⊢
          exact a
      unfold rr_C
      unfold px_ee
      have c7 := px_tree_mono (show px_ex (px_fill pl q n (-1)) (px_fill wr q n (nI 0)) 60 (60 * k) 0 + px_hh (px_fill pl q n (-1)) (px_fill pg q n (nI 0)) (60 * k) + 2 * px_uu (px_fill pl q n (-1)) (px_fill wr q n (nI 0)) (px_fill pg q n (nI 0)) (60 * k) ≤ (px_ex pl wr 60 (60 * k) 0 + px_hh pl pg (60 * k) + 2 * px_uu pl wr pg (60 * k)) + px_cnt (fun j => !px_hole pl j && px_hole (px_fill pl q n (-1)) j) (60 * k) 60 by omega)
      have c8 := px_tree_add (px_ex pl wr 60 (60 * k) 0 + px_hh pl pg (60 * k) + 2 * px_uu pl wr pg (60 * k)) (px_cnt (fun j => !px_hole pl j && px_hole (px_fill pl q n (-1)) j) (60 * k) 60)
      omega
    · refine Nat.le_of_eq (rr_cg (fun j a1 a2 => ?_))
      have hj2 : ¬ (q ≤ j ∧ j < q + n) := by omega
      exact ⟨px_fill_o hj2, px_fill_o hj2, px_fill_o hj2⟩
  · refine px_cnt_mono (fun i _ a => ?_)
    by_cases hj2 : q ≤ 60 * k + i ∧ 60 * k + i < q + n
    · simp [px_on_0 (hin hj2)] at a
    · simp only [px_on, px_fill_o hj2] at a ⊢
      exact a
theorem rr_crash {pl wr pg sz ow : Nat → Int32} (h : rr_I pl wr pg sz ow) : rr_I pl wr (px_fill pg 0 240 (nI 0)) sz ow := by
  obtain ⟨h1, h2, h3, h4, h5, h6, h7⟩ := h
  have hin : ∀ j, j < 240 → px_fill pg 0 240 (nI 0) j = nI 0 := fun j hj => by unfold px_fill; rw [if_pos (by omega)]
  refine ⟨h1, h2, fun j hj => ⟨(h3 j hj).1, Or.inl (hin j hj)⟩, h4, Nat.le_trans (px_sum_mono (fun k hk => ?_)) h5, Nat.le_trans (px_sum_mono (fun k hk => ?_)) h6, h7⟩
  · have c1 : px_hh pl (px_fill pg 0 240 (nI 0)) (60 * k) = 0 := px_cnt_0 (fun i hi => by simp [px_on_0 (hin (60 * k + i) (by omega))])
    have c2 : px_uu pl wr (px_fill pg 0 240 (nI 0)) (60 * k) = 0 := px_cnt_0 (fun i hi => by simp [px_on_0 (hin (60 * k + i) (by omega))])
    have c3 := px_tree_mono (show px_ee pl wr (60 * k) ≤ px_ee pl wr (60 * k) + px_hh pl pg (60 * k) + 2 * px_uu pl wr pg (60 * k) by omega)
    unfold rr_C
    rw [c1, c2]
    simp only [Nat.add_zero, Nat.mul_zero]
    omega
  · have c1 : px_pp (px_fill pg 0 240 (nI 0)) (60 * k) = 0 := px_cnt_0 (fun i hi => px_on_0 (hin (60 * k + i) (by omega)))
    rw [c1]
    exact Nat.zero_le _
theorem rr_keep {sel : Nat → Bool} {pl ow pl' ow' : Nat → Int32} {b e : Nat} (h : px_mhP sel pl ow pl' ow' b e) {j : Nat} (hj : px_hole pl' j = true) : px_hole pl j = true := by
  by_cases hh : px_hole pl j = true
  · exact hh
  · have := h.1 j (fun z => hh z.2.2.1)
    unfold px_hole at hj ⊢
    rwa [this] at hj
theorem rr_flush {pl wr pg sz ow pl' ow' : Nat → Int32} {f : Nat} (hf : f < 4) (h : rr_I pl wr pg sz ow) (hT : px_mhP (fun j => px_on pg j || false) pl ow pl' ow' (60 * f) (60 * f + 60)) : rr_I pl' (px_cut (px_on pg) wr (60 * f) 60 (nI 1)) (px_fill pg (60 * f) 60 (nI 0)) sz ow' := by
  obtain ⟨h1, h2, h3, h4, h5, h6, h7⟩ := h
  obtain ⟨t1, t2, t3, t4⟩ := id hT
  have hin : ∀ {j : Nat}, 60 * f ≤ j ∧ j < 60 * f + 60 → px_fill pg (60 * f) 60 (nI 0) j = nI 0 := fun {j} hj => by unfold px_fill; rw [if_pos hj]
  have hmp : ∀ j, 60 * f ≤ j → j < 60 * f + 60 → px_on pg j = true → px_hole pl' j = false := by
    intro j a1 a2 a3
    by_cases hh : px_hole pl j = true
    · obtain ⟨p, hp, hq⟩ := t2 j a1 a2 hh (by simp [a3])
      have := px_m1 (show p < 2 ^ 31 by omega)
      simp [px_hole, hq, this]
    · have e := t1 j (fun z => hh z.2.2.1)
      simp only [Bool.not_eq_true] at hh
      unfold px_hole at hh ⊢
      rwa [e]
  refine ⟨t3, fun j hj hh => ?_, fun j hj => ?_, by omega, Nat.le_trans (px_sum_mono (fun k hk => ?_)) h5, Nat.le_trans (px_sum_mono (fun k hk => ?_)) h6, h7⟩
  · have e : px_cut (px_on pg) wr (60 * f) 60 (nI 1) j = wr j := by
      unfold px_cut
      refine if_neg (fun z => ?_)
      rw [hmp j z.1 z.2.1 z.2.2] at hh
      exact absurd hh (by decide)
    rw [e]
    exact h2 j hj (rr_keep hT hh)
  · refine ⟨?_, ?_⟩
    · unfold px_cut
      split
      · exact Or.inr rfl
      · exact (h3 j hj).1
    · unfold px_fill
      split
      · exact Or.inl rfl
      · exact (h3 j hj).2
  · by_cases e : k = f
    · subst e
      have c1 := px_ex_cmp pl wr pl' (px_cut (px_on pg) wr (60 * k) 60 (nI 1)) 60 (60 * k)
      have c2 := rr_cs (pl := pl) (wr := wr) (pl' := pl') (wr' := px_cut (px_on pg) wr (60 * k) 60 (nI 1)) (P := fun b => px_on pg b && px_hole pl b) (Q := fun b => px_on pg b && (!px_hole pl b && wr b == 0)) 60 (60 * k) (fun j a1 a2 => by
        unfold px_co
        by_cases o1 : px_on pg j = true
        · have o2 := hmp j a1 a2 o1
          have e2 : px_cut (px_on pg) wr (60 * k) 60 (nI 1) j = nI 1 := by unfold px_cut; rw [if_pos ⟨a1, a2, o1⟩]
          by_cases hh : px_hole pl j = true
          · simp [o1, o2, hh]
          · have e3 := t1 j (fun z => hh z.2.2.1)
            simp only [Bool.not_eq_true] at hh
            rcases (h3 j (by omega)).1 with w | w
            · simp [o1, o2, hh, e2, e3, w]
              split <;> omega
            · have w2 : wr j = nI 1 := w
              simp [o1, o2, hh, e2, e3, w2]
        · simp only [Bool.not_eq_true] at o1
          have e3 := t1 j (fun z => by simp [o1] at z)
          have e2 : px_cut (px_on pg) wr (60 * k) 60 (nI 1) j = wr j := by unfold px_cut; rw [if_neg (fun z => by simp [o1] at z)]
          have e4 : px_hole pl' j = px_hole pl j := by unfold px_hole; rw [e3]
          cases hh : px_hole pl j <;> simp [o1, e2, e3, e4, hh])
      have c4 : px_mm pl' (60 * k) ≤ px_mm pl (60 * k) + px_hh pl pg (60 * k) := by
        refine px_cnt_or (fun i hi a => ?_)
        by_cases hh : px_hole pl (60 * k + i) = true
        · right
          by_cases o1 : px_on pg (60 * k + i) = true
          · simp [o1, hh]
          · have e3 := t1 (60 * k + i) (fun z => o1 (by simpa using z.2.2.2))
            have e4 : px_hole pl' (60 * k + i) = true := by unfold px_hole at hh ⊢; rwa [e3]
            rw [e4] at a
            exact absurd a (by decide)
        · left
          simpa using hh
      have c5 : px_hh pl' (px_fill pg (60 * k) 60 (nI 0)) (60 * k) = 0 := px_cnt_0 (fun i hi => by simp [px_on_0 (hin (j := 60 * k + i) (by omega))])
      have c6 : px_uu pl' (px_cut (px_on pg) wr (60 * k) 60 (nI 1)) (px_fill pg (60 * k) 60 (nI 0)) (60 * k) = 0 := px_cnt_0 (fun i hi => by simp [px_on_0 (hin (j := 60 * k + i) (by omega))])
      have c7 := px_tree_mono (show px_ex pl' (px_cut (px_on pg) wr (60 * k) 60 (nI 1)) 60 (60 * k) 0 ≤ px_ex pl wr 60 (60 * k) 0 + px_hh pl pg (60 * k) + 2 * px_uu pl wr pg (60 * k) by unfold px_hh px_uu; omega)
      unfold rr_C
      rw [c5, c6]
      unfold px_ee
      simp only [Nat.add_zero, Nat.mul_zero]
      omega
    · refine Nat.le_of_eq (rr_cg (fun j a1 a2 => ?_))
      refine ⟨t1 j (by omega), ?_, px_fill_o (by omega)⟩
      exact px_cut_o (by omega)
  · refine px_cnt_mono (fun i _ a => ?_)
    by_cases hj2 : 60 * f ≤ 60 * k + i ∧ 60 * k + i < 60 * f + 60
    · simp [px_on_0 (hin hj2)] at a
    · simp only [px_on, px_fill_o hj2] at a ⊢
      exact a
