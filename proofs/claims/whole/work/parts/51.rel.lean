/-! class and reference beside each other -/
def rr_V (S : Nat → dx_S) (pl wr pg pv sz : Nat → Int32) : Prop := ∀ f, f < 4 → px_vw (S f).1 pl (60 * f) ∧ px_vw (S f).2.1 wr (60 * f) ∧ px_vw (S f).2.2.1 pg (60 * f) ∧ (∀ j, j < 60 → px_on pg (60 * f + j) = true → (S f).2.2.2.1 j = pv (60 * f + j)) ∧ (S f).2.2.2.2.2 = sz f
def rr_C (pl wr pg : Nat → Int32) (o : Nat) : Nat := px_mm pl o + px_hh pl pg o + px_tree (px_ee pl wr o + px_hh pl pg o + 2 * px_uu pl wr pg o)
theorem px_sum_cg {f g : Nat → Nat} : ∀ {n : Nat}, (∀ k, k < n → f k = g k) → px_sum f n = px_sum g n
  | 0, _ => rfl
  | n + 1, h => by rw [px_sum, px_sum, px_sum_cg (fun k hk => h k (by omega)), h n (by omega)]
theorem px_sum_mono {f g : Nat → Nat} : ∀ {n : Nat}, (∀ k, k < n → f k ≤ g k) → px_sum f n ≤ px_sum g n
  | 0, _ => Nat.le_refl _
  | n + 1, h => by
    have h1 := px_sum_mono (f := f) (g := g) (n := n) (fun k hk => h k (by omega))
    have h2 := h n (by omega)
    rw [px_sum, px_sum]
    omega
theorem px_sum_add (f g : Nat → Nat) : ∀ n : Nat, px_sum f n + px_sum g n = px_sum (fun k => f k + g k) n
  | 0 => rfl
  | n + 1 => by
    have := px_sum_add f g n
    rw [px_sum, px_sum, px_sum]
    omega
theorem rr_res (pl wr pg : Nat → Int32) (o : Nat) : px_res pl wr pg o + px_mt pl wr o = rr_C pl wr pg o := by
  have h := px_tree_mono (show px_ee pl wr o ≤ px_ee pl wr o + px_hh pl pg o + 2 * px_uu pl wr pg o by omega)
  unfold px_res px_mt rr_C
  omega
theorem rr_sum (pl wr pg : Nat → Int32) : px_sum (fun k => px_res pl wr pg (60 * k)) 4 + px_sum (fun k => px_mt pl wr (60 * k)) 4 = px_sum (fun k => rr_C pl wr pg (60 * k)) 4 := by
  rw [px_sum_add]
  exact px_sum_cg (fun k _ => rr_res pl wr pg (60 * k))
section RRV
variable {a b c pl wr pg : Nat → Int32} {o : Nat}
theorem rr_mm (h : px_vw a pl o) : px_mm a 0 = px_mm pl o := px_cnt_congr (fun k hk => by rw [Nat.zero_add, h.hole hk])
theorem rr_pp (h : px_vw a pg o) : px_pp a 0 = px_pp pg o := px_cnt_congr (fun k hk => by rw [Nat.zero_add]; exact h.on hk)
theorem rr_hh (h : px_vw a pl o) (hg : px_vw c pg o) : px_hh a c 0 = px_hh pl pg o := px_cnt_congr (fun k hk => by rw [Nat.zero_add, h.hole hk, hg.on hk])
theorem rr_uu (h : px_vw a pl o) (hw : px_vw b wr o) (hg : px_vw c pg o) : px_uu a b c 0 = px_uu pl wr pg o := px_cnt_congr (fun k hk => by rw [Nat.zero_add, h.hole hk, hg.on hk, hw k hk])
theorem rr_ee (h : px_vw a pl o) (hw : px_vw b wr o) : px_ee a b 0 = px_ee pl wr o := px_ex_sh h hw
theorem rr_mt (h : px_vw a pl o) (hw : px_vw b wr o) : px_mt a b 0 = px_mt pl wr o := by unfold px_mt; rw [rr_mm h, rr_ee h hw]
theorem rr_rs (h : px_vw a pl o) (hw : px_vw b wr o) (hg : px_vw c pg o) : px_res a b c 0 = px_res pl wr pg o := by unfold px_res; rw [rr_ee h hw, rr_hh h hg, rr_uu h hw hg]
theorem rr_CC (h : px_vw a pl o) (hw : px_vw b wr o) (hg : px_vw c pg o) : rr_C a b c 0 = rr_C pl wr pg o := by unfold rr_C; rw [rr_mm h, rr_ee h hw, rr_hh h hg, rr_uu h hw hg]
end RRV
theorem rr_cg {pl wr pg pl' wr' pg' : Nat → Int32} {o : Nat} (h : ∀ j, o ≤ j → j < o + 60 → pl' j = pl j ∧ wr' j = wr j ∧ pg' j = pg j) : rr_C pl' wr' pg' o = rr_C pl wr pg o := by
  have e1 : rr_C (fun j => pl (o + j)) (fun j => wr (o + j)) (fun j => pg (o + j)) 0 = rr_C pl wr pg o := rr_CC (fun _ _ => rfl) (fun _ _ => rfl) (fun _ _ => rfl)
  have e2 : rr_C (fun j => pl (o + j)) (fun j => wr (o + j)) (fun j => pg (o + j)) 0 = rr_C pl' wr' pg' o := rr_CC (fun j hj => (h (o + j) (by omega) (by omega)).1.symm) (fun j hj => (h (o + j) (by omega) (by omega)).2.1.symm) (fun j hj => (h (o + j) (by omega) (by omega)).2.2.symm)
  exact e2.symm.trans e1
theorem rr_dpp {S : Nat → dx_S} {pl wr pg pv sz : Nat → Int32} (h : rr_V S pl wr pg pv sz) : dx_pp S = px_sum (fun k => px_pp pg (60 * k)) 4 := px_sum_cg (fun k hk => rr_pp (h k hk).2.2.1)
theorem rr_dmt {S : Nat → dx_S} {pl wr pg pv sz : Nat → Int32} (h : rr_V S pl wr pg pv sz) : dx_mt S = px_sum (fun k => px_mt pl wr (60 * k)) 4 := px_sum_cg (fun k hk => rr_mt (h k hk).1 (h k hk).2.1)
theorem rr_drs {S : Nat → dx_S} {pl wr pg pv sz : Nat → Int32} (h : rr_V S pl wr pg pv sz) : dx_rs S = px_sum (fun k => px_res pl wr pg (60 * k)) 4 := px_sum_cg (fun k hk => rr_rs (h k hk).1 (h k hk).2.1 (h k hk).2.2.1)
theorem rr_out {f k j : Nat} (hk : k ≠ f) (hj : j < 60) : ¬ (60 * f ≤ 60 * k + j ∧ 60 * k + j < 60 * f + 60) := by omega
/-- one file is turned -/
theorem rr_V.up {S : Nat → dx_S} {pl wr pg pv sz pl' wr' pg' pv' sz' : Nat → Int32} (h : rr_V S pl wr pg pv sz) {f : Nat} (hf : f < 4) {s : dx_S}
    (h1 : ∀ j, ¬ (60 * f ≤ j ∧ j < 60 * f + 60) → pl' j = pl j) (h2 : ∀ j, ¬ (60 * f ≤ j ∧ j < 60 * f + 60) → wr' j = wr j) (h3 : ∀ j, ¬ (60 * f ≤ j ∧ j < 60 * f + 60) → pg' j = pg j) (h4 : ∀ j, ¬ (60 * f ≤ j ∧ j < 60 * f + 60) → pv' j = pv j) (h5 : ∀ k, k ≠ f → sz' k = sz k)
    (g1 : px_vw s.1 pl' (60 * f)) (g2 : px_vw s.2.1 wr' (60 * f)) (g3 : px_vw s.2.2.1 pg' (60 * f)) (g4 : ∀ j, j < 60 → px_on pg' (60 * f + j) = true → s.2.2.2.1 j = pv' (60 * f + j)) (g5 : s.2.2.2.2.2 = sz' f) : rr_V (dx_up S f s) pl' wr' pg' pv' sz' := by
  intro k hk
  by_cases e : k = f
  · subst e
    rw [dx_up_at]
    exact ⟨g1, g2, g3, g4, g5⟩
  · rw [dx_up_ne e]
    obtain ⟨v1, v2, v3, v4, v5⟩ := h k hk
    refine ⟨fun j hj => by rw [h1 _ (rr_out e hj)]; exact v1 j hj, fun j hj => by rw [h2 _ (rr_out e hj)]; exact v2 j hj, fun j hj => by rw [h3 _ (rr_out e hj)]; exact v3 j hj, fun j hj ho => ?_, by rw [h5 k e]; exact v5⟩
    rw [h4 _ (rr_out e hj)]
    refine v4 j hj ?_
    unfold px_on at ho ⊢
    rwa [h3 _ (rr_out e hj)] at ho
def rr_I (pl wr pg sz ow : Nat → Int32) : Prop := px_I1 pl ow ∧ (∀ j, j < 240 → px_hole pl j = true → wr j = nI 0) ∧ (∀ j, j < 240 → (wr j = 0 ∨ wr j = 1) ∧ (pg j = 0 ∨ pg j = 1)) ∧ px_nu ow + px_mp pl = 80 ∧ px_sum (fun k => rr_C pl wr pg (60 * k)) 4 ≤ 80 ∧ px_sum (fun k => px_pp pg (60 * k)) 4 ≤ 24 ∧ ∀ f, f < 4 → ∃ n, n ≤ 60 ∧ sz f = nI n
theorem rr_mp (pl : Nat → Int32) : px_mp pl = px_sum (fun k => px_mm pl (60 * k)) 4 := by
  unfold px_mp
  rw [show 240 = 60 + (60 + (60 + 60)) from rfl, px_cnt_add, px_cnt_add, px_cnt_add]
  simp only [px_sum, px_mm]
  show px_cnt _ 0 60 + (px_cnt _ 60 60 + (px_cnt _ 120 60 + px_cnt _ 180 60)) = 0 + px_cnt _ 0 60 + px_cnt _ 60 60 + px_cnt _ 120 60 + px_cnt _ 180 60
  omega
theorem rr_pp4 (pg : Nat → Int32) : px_cnt (px_on pg) 0 240 = px_sum (fun k => px_pp pg (60 * k)) 4 := by
  rw [show 240 = 60 + (60 + (60 + 60)) from rfl, px_cnt_add, px_cnt_add, px_cnt_add]
  simp only [px_sum, px_pp]
  show px_cnt _ 0 60 + (px_cnt _ 60 60 + (px_cnt _ 120 60 + px_cnt _ 180 60)) = 0 + px_cnt _ 0 60 + px_cnt _ 60 60 + px_cnt _ 120 60 + px_cnt _ 180 60
  omega
theorem rr_rg {pl wr pg sz ow : Nat → Int32} (h : rr_I pl wr pg sz ow) : ∀ b, b < 240 → px_rg (pl b) := fun b hb => h.1.rg b hb
theorem rr_rng {a pl : Nat → Int32} {f : Nat} (hf : f < 4) (h : px_vw a pl (60 * f)) (hr : ∀ b, b < 240 → px_rg (pl b)) : px_rng a 0 60 := by
  intro b _ hb
  rw [h b (by omega)]
  exact hr (60 * f + b) (by omega)
theorem rr_hr {S : Nat → dx_S} {pl wr pg pv sz ow : Nat → Int32} (h : rr_V S pl wr pg pv sz) (hI : rr_I pl wr pg sz ow) : ∀ j, j < 4 → px_rng (S j).1 0 60 := fun j hj => rr_rng hj (h j hj).1 (rr_rg hI)
/-- what waits finds room -/
theorem rr_nu {pl wr pg sz ow : Nat → Int32} (h : rr_I pl wr pg sz ow) {f : Nat} (hf : f < 4) : px_hh pl pg (60 * f) ≤ px_nu ow := by
  obtain ⟨-, -, -, h4, h5, -⟩ := h
  rw [rr_mp] at h4
  have h6 : px_sum (fun k => px_mm pl (60 * k)) 4 + px_hh pl pg (60 * f) ≤ px_sum (fun k => rr_C pl wr pg (60 * k)) 4 := by
    rcases (by omega : f = 0 ∨ f = 1 ∨ f = 2 ∨ f = 3) with rfl | rfl | rfl | rfl <;> simp only [px_sum, rr_C] <;> omega
  omega
theorem px_val {x : Int32} {k : Nat} (hk : k < 2 ^ 31) (h : px_nf x k = false) : ∃ n, n ≤ k ∧ x = nI n := by
  rcases px_cas x with h1 | ⟨n, hn, rfl⟩
  · simp [px_nf, h1] at h
  · refine ⟨n, ?_, rfl⟩
    have h2 : nI n ≤ nI k := by
      simp only [px_nf, Bool.or_eq_false_iff, Bool.not_eq_false', decide_eq_true_eq] at h
      exact h.2
    exact (nI_leI hn hk).mp h2
theorem px_valr {x : Int32} {m : Nat} (hm : m < 2 ^ 31) (h : ¬ (x < nI 1 ∨ ¬ x ≤ nI m)) : ∃ n, 0 < n ∧ n ≤ m ∧ x = nI n := by
  have h1 : ¬ x < nI 1 := fun q => h (Or.inl q)
  have h2 : x ≤ nI m := Classical.byContradiction (fun q => h (Or.inr q))
  rcases px_cas x with h3 | ⟨n, hn, rfl⟩
  · exact absurd (Int32.lt_of_lt_of_le h3 (by decide)) h1
  · refine ⟨n, ?_, (nI_leI hn hm).mp h2, rfl⟩
    have := mt (nI_ltI hn (show (1 : Nat) < 2 ^ 31 by decide)).mpr h1
    omega
