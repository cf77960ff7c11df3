theorem px_sub2 (x y z : Int32) : x - y - z = x - (y + z) := by
  rw [Int32.sub_eq_add_neg, Int32.sub_eq_add_neg, Int32.sub_eq_add_neg, Int32.neg_add, Int32.sub_eq_add_neg, Int32.add_assoc]
theorem px_sub3 (s a b : Nat) : nI 80 - nI s - nI a - nI b = nI 80 - nI (s + (a + b)) := by
  rw [px_sub2, px_sub2, nI_add, nI_add]
theorem px_cmp {R M : Nat} (hR : R < 2 ^ 30) (hM : M < 2 ^ 30) : nI R ≤ nI 80 - nI M ↔ R + M ≤ 80 := by
  rw [Int32.le_iff_toInt_le, pk_sub_toInt (by omega) hM, nI_toInt (by omega)]
  omega
theorem px_upd_same {f : Nat → Int32} {b : Nat} {v : Int32} (h : f b = v) : upd f b v = f := by
  funext j
  unfold upd
  split
  · rename_i e; rw [e, h]
  · rfl
theorem px_mr_c {o m b : Nat} {c : Int32} {pl ow : Nat → Int32} (hu : px_un ow c = false) (hb : px_un ow (px_best ow m) = true) : px_mr o m b c pl ow = px_mr o m b (px_best ow m) pl ow := by
  cases m with
  | zero => rfl
  | succ k =>
    rw [px_mr, px_mr, hu, hb]
    rfl
theorem px_mr_u {o n d a : Nat} {c : Int32} {pl ow : Nat → Int32} (h : d < n) (hu : px_un ow c = true) : px_mr o (n - d) (a + d) c pl ow = px_mr o (n - (d + 1)) (a + (d + 1)) (c + 1) (upd pl (a + d) c) (upd ow c.toNatClampNeg (nI (o + (a + d)))) := by
  obtain ⟨k, hk⟩ : ∃ k, n - d = k + 1 := ⟨n - d - 1, by omega⟩
  rw [hk, px_mr, hu, show n - (d + 1) = k by omega]
  simp only [if_true]
  rw [hu]
  rfl
theorem px_ho_upd {ow : Nat → Int32} {p q : Nat} (h : ∀ p, p < 80 → px_rq (ow p)) (hq : q < 240) : ∀ r, r < 80 → px_rq (upd ow p (nI q) r) := by
  intro r hr
  unfold upd
  split
  · exact Or.inr ⟨q, hq, rfl⟩
  · exact h r hr
theorem px_room_upd {ow : Nat → Int32} {p : Nat} {v : Int32} : ∀ {k q : Nat}, p < q → px_room (upd ow p v) k q = px_room ow k q
  | 0, _, _ => rfl
  | k + 1, q, h => by
    rw [px_room, px_room, px_room_upd (show p < q + 1 by omega)]
    have : upd ow p v q = ow q := by unfold upd; rw [if_neg (by omega)]
    rw [this]
theorem px_row {sel : Nat → Bool} {pl ow : Nat → Int32} {b e : Nat} (c : Int32) (h : px_I1 pl ow) (he : e ≤ 240) (hb : b < e) (hn : px_cnt (fun j => px_hole pl j && sel j) b (e - b) ≤ px_nu ow) {r : Nat} (hr : px_er (fun j => px_hole pl j && sel j) (e - b) b = r) :
    b ≤ r ∧ r ≤ e ∧ (∀ j, b ≤ j → j < r → px_hole pl j = true) ∧ r - b ≤ px_nu ow ∧ px_I1 (px_mr 0 (r - b) b c pl ow).1 (px_mr 0 (r - b) b c pl ow).2 ∧ px_cnt (fun j => px_hole (px_mr 0 (r - b) b c pl ow).1 j && sel j) (r + 1) (e - (r + 1)) ≤ px_nu (px_mr 0 (r - b) b c pl ow).2 ∧ (∀ j, r ≤ j → (px_mr 0 (r - b) b c pl ow).1 j = pl j) := by
  have h1 := px_er_le (fun j => px_hole pl j && sel j) (e - b) b
  rw [hr] at h1
  have r3 : ∀ j, b ≤ j → j < r → px_hole pl j = true ∧ sel j = true := by
    intro j h2 h3
    have := px_er_in (P := fun j => px_hole pl j && sel j) (e - b) b j h2 (by omega)
    simpa using this
  have hcs : px_cnt (fun j => px_hole pl j && sel j) b (e - b) = (r - b) + px_cnt (fun j => px_hole pl j && sel j) r (e - r) := by
    rw [show e - b = (r - b) + (e - r) by omega, px_cnt_add, show b + (r - b) = r by omega]
    congr 1
    have h1 : ∀ n, n ≤ r - b → px_cnt (fun j => px_hole pl j && sel j) b n = n := by
      intro n
      induction n with
      | zero => intro _; rfl
      | succ n ih =>
        intro hn'
        have := r3 (b + n) (by omega) (by omega)
        rw [px_cnt, ih (by omega), this.1, this.2]
        rfl
    exact h1 _ (Nat.le_refl _)
  obtain ⟨a1, a2, a3, a4, a5⟩ := px_mr_spec (r - b) b c pl ow h (by omega) (fun j h1 h2 => by have := (r3 j h1 (by omega)).1; simpa [px_hole] using this) (by omega)
  refine ⟨by omega, by omega, fun j h2 h3 => (r3 j h2 h3).1, by omega, a3, ?_, fun j hj => a1 j (by omega)⟩
  generalize (px_mr 0 (r - b) b c pl ow).1 = pl1 at a1 a2 a3 a4 a5 ⊢
  generalize (px_mr 0 (r - b) b c pl ow).2 = ow1 at a3 a4 ⊢
  by_cases hre : r < e
  · have e1 : px_cnt (fun j => px_hole pl j && sel j) r (e - r) = px_cnt (fun j => px_hole pl j && sel j) r 1 + px_cnt (fun j => px_hole pl j && sel j) (r + 1) (e - (r + 1)) := by
      rw [show e - r = 1 + (e - (r + 1)) by omega, px_cnt_add]
    have e2 : px_cnt (fun j => px_hole pl1 j && sel j) (r + 1) (e - (r + 1)) = px_cnt (fun j => px_hole pl j && sel j) (r + 1) (e - (r + 1)) := px_cnt_congr (fun n hn' => by simp only [px_hole]; rw [a1 _ (by omega)])
    omega
  · rw [show e - (r + 1) = 0 by omega]
    exact Nat.zero_le _
theorem px_cand_m {f a : Nat} (h : 60 * f ≤ a) (h2 : a < 60 * f + 60) (pl : Nat → Int32) : px_cand (a == 60 * f) pl a = px_cand (a % 60 == 0) pl a := by
  have : (a == 60 * f) = (a % 60 == 0) := by
    by_cases e : a = 60 * f
    · subst e; simp
    · have h3 : ¬ a % 60 = 0 := by omega
      rw [beq_eq_false_iff_ne.mpr e, beq_eq_false_iff_ne.mpr h3]
  rw [this]
