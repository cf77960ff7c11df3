theorem px_er_s {P : Nat → Bool} {k b : Nat} : px_er P k b = if 0 < k ∧ P b = true then px_er P (k - 1) (b + 1) else b := by
  cases k with
  | zero => rfl
  | succ k =>
    rw [px_er]
    by_cases h : P b = true
    · rw [if_pos h, if_pos ⟨by omega, h⟩]; rfl
    · rw [if_neg h, if_neg (fun z => h z.2)]
theorem px_cand_0 (pl : Nat → Int32) : px_cand (0 == 0) pl 0 = -1 := rfl
theorem px_cand_p {a : Nat} (h : 0 < a) (pl : Nat → Int32) : px_cand (a == 0) pl a = px_cand false pl a := by
  rw [show (a == 0) = false by simp; omega]
theorem px_mr_s {o e b : Nat} {c : Int32} {pl ow : Nat → Int32} (h : b < e) {P : Int32} (hP : (if px_un ow c = true then c else px_best ow (e - b)) = P) : px_mr o (e - b) b c pl ow = px_mr o (e - (b + 1)) (b + 1) (P + 1) (if px_un ow P = true then upd pl b P else pl) (if px_un ow P = true then upd ow P.toNatClampNeg (nI (o + b)) else ow) := by
  obtain ⟨k, hk⟩ : ∃ k, e - b = k + 1 := ⟨e - b - 1, by omega⟩
  rw [hk] at hP ⊢
  rw [px_mr, hP, show e - (b + 1) = k by omega]
  by_cases hu : px_un ow P = true
  · rw [if_pos hu, if_pos hu, if_pos hu]
  · rw [if_neg hu, if_neg hu, if_neg hu]
theorem px_mh_e {o lo : Nat} {sel : Nat → Bool} {k b e : Nat} {pl ow : Nat → Int32} (h : e ≤ b) : px_mh o lo sel k b e pl ow = (pl, ow) := by
  cases k with
  | zero => rfl
  | succ k => rw [px_mh, if_neg (by omega)]
theorem px_fill_o {f : Nat → Int32} {a n j : Nat} {v : Int32} (h : ¬ (a ≤ j ∧ j < a + n)) : px_fill f a n v j = f j := by
  unfold px_fill
  rw [if_neg h]
theorem px_fill_sa {f : Nat → Int32} {a b : Nat} {v : Int32} (h : a ≤ b) : upd (px_fill f a (b - a) v) b v = px_fill f a (b + 1 - a) v := by
  have h1 := px_fill_s f a (b - a) v
  rw [show a + (b - a) = b by omega, show b - a + 1 = b + 1 - a by omega] at h1
  exact h1
theorem px_fill_same {f : Nat → Int32} {a b : Nat} {v : Int32} (h : a ≤ b) (hv : f b = v) : px_fill f a (b - a) v = px_fill f a (b + 1 - a) v := by
  rw [← px_fill_sa h]
  funext j
  unfold upd
  split
  · rename_i e
    rw [e, px_fill_o (by omega), hv]
  · rfl
theorem px_hole_fl {f : Nat → Int32} {a n j : Nat} {v : Int32} (h : ¬ (a ≤ j ∧ j < a + n)) : px_hole (px_fill f a n v) j = px_hole f j := by
  unfold px_hole
  rw [px_fill_o h]
theorem px_cut_o {sel : Nat → Bool} {f : Nat → Int32} {a n j : Nat} {v : Int32} (h : ¬ (a ≤ j ∧ j < a + n)) : px_cut sel f a n v j = f j := by
  unfold px_cut
  rw [if_neg (fun z => h ⟨z.1, z.2.1⟩)]
theorem px_hole_ct {sel : Nat → Bool} {f : Nat → Int32} {a n j : Nat} {v : Int32} (h : ¬ (a ≤ j ∧ j < a + n)) : px_hole (px_cut sel f a n v) j = px_hole f j := by
  unfold px_hole
  rw [px_cut_o h]
theorem px_cut_t {sel : Nat → Bool} {f : Nat → Int32} {a b : Nat} {v : Int32} (h : a ≤ b) (hs : sel b = true) : upd (px_cut sel f a (b - a) v) b v = px_cut sel f a (b + 1 - a) v := by
  rw [show b + 1 - a = b - a + 1 by omega, px_cut_s, show a + (b - a) = b by omega, if_pos hs]
theorem px_cut_f {sel : Nat → Bool} {f : Nat → Int32} {a b : Nat} {v : Int32} (h : a ≤ b) (hs : sel b = false) : px_cut sel f a (b - a) v = px_cut sel f a (b + 1 - a) v := by
  rw [show b + 1 - a = b - a + 1 by omega, px_cut_s, show a + (b - a) = b by omega, if_neg (by rw [hs]; decide)]
theorem px_cut_same {sel : Nat → Bool} {f : Nat → Int32} {a b : Nat} {v : Int32} (h : a ≤ b) (hv : f b = v) : px_cut sel f a (b - a) v = px_cut sel f a (b + 1 - a) v := by
  rw [show b + 1 - a = b - a + 1 by omega, px_cut_s, show a + (b - a) = b by omega]
  by_cases hs : sel b = true
  · rw [if_pos hs]
    funext j
    unfold upd
    split
    · rename_i e
      rw [e, px_cut_o (by omega), hv]
    · rfl
  · rw [if_neg hs]
theorem px_rel_s {sel : Nat → Bool} {pl ow : Nat → Int32} {e b : Nat} (h : b < e) : px_rel sel pl (e - b) b ow = px_rel sel pl (e - (b + 1)) (b + 1) (if (sel b && !px_hole pl b) = true then upd ow (pl b).toNatClampNeg (-1) else ow) := by
  obtain ⟨k, hk⟩ : ∃ k, e - b = k + 1 := ⟨e - b - 1, by omega⟩
  rw [hk, px_rel, show e - (b + 1) = k by omega]
def px_wv (pl pg pv : Nat → Int32) : Nat → Nat → (Nat → Int32) → (Nat → Int32)
  | 0, _, vl => vl
  | k + 1, b, vl => px_wv pl pg pv k (b + 1) (if (px_on pg b && !px_hole pl b) = true then upd vl (pl b).toNatClampNeg (pv b) else vl)
theorem px_wv_s {pl pg pv vl : Nat → Int32} {e b : Nat} (h : b < e) : px_wv pl pg pv (e - b) b vl = px_wv pl pg pv (e - (b + 1)) (b + 1) (if (px_on pg b && !px_hole pl b) = true then upd vl (pl b).toNatClampNeg (pv b) else vl) := by
  obtain ⟨k, hk⟩ : ∃ k, e - b = k + 1 := ⟨e - b - 1, by omega⟩
  rw [hk, px_wv, show e - (b + 1) = k by omega]
def px_note (pl nt : Nat → Int32) (n : Nat) : Nat → Int32 := fun j => if j < n then px_b (px_hole pl j) else nt j
theorem px_note_0 (pl nt : Nat → Int32) : px_note pl nt 0 = nt := by
  funext j
  unfold px_note
  rw [if_neg (by omega)]
theorem px_note_s (pl nt : Nat → Int32) (n : Nat) : upd (px_note pl nt n) n (px_b (px_hole pl n)) = px_note pl nt (n + 1) := by
  funext j
  unfold upd px_note
  by_cases e : j = n
  · rw [if_pos e, if_pos (by omega), e]
  · rw [if_neg e]
    by_cases h : j < n
    · rw [if_pos h, if_pos (by omega)]
    · rw [if_neg h, if_neg (by omega)]
