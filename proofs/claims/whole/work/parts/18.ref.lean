/-! words for the reference -/
def px_nf (x : Int32) (k : Nat) : Bool := decide (x < 0) || !decide (x ≤ nI k)
theorem px_nf_t {x : Int32} {k : Nat} (h : x < 0 ∨ ¬ x ≤ nI k) : px_nf x k = true := by
  unfold px_nf
  rcases h with h | h <;> simp [h]
theorem px_nf_f {x : Int32} {k : Nat} (h1 : ¬ x < 0) (h2 : x ≤ nI k) : px_nf x k = false := by
  unfold px_nf
  simp [h1, h2]
def px_rg (x : Int32) : Prop := x = -1 ∨ ∃ p, p < 80 ∧ x = nI p
def px_rq (x : Int32) : Prop := x = -1 ∨ ∃ q, q < 240 ∧ x = nI q
theorem px_rg.lt {pl : Nat → Int32} {b : Nat} (h : px_rg (pl b)) (hn : pl b < 0) : px_hole pl b = true := by
  rcases h with h | ⟨p, hp, h⟩
  · simp [px_hole, h]
  · rw [h] at hn
    exact absurd hn (nI_pos (by omega))
theorem px_rg.ge {pl : Nat → Int32} {b : Nat} (h : px_rg (pl b)) (hn : ¬ pl b < 0) : px_hole pl b = false := by
  rcases h with h | ⟨p, hp, h⟩
  · rw [h] at hn
    exact absurd (by decide) hn
  · have := px_m1 (p := p) (by omega)
    simp [px_hole, h, this]
theorem px_rg.ge0 {pl : Nat → Int32} {b : Nat} (h : px_rg (pl b)) (hn : 0 ≤ pl b) : px_hole pl b = false := h.ge (Int32.not_lt.mpr hn)
theorem px_rg.lt0 {pl : Nat → Int32} {b : Nat} (h : px_rg (pl b)) (hn : ¬ 0 ≤ pl b) : px_hole pl b = true := h.lt (Int32.not_le.mp hn)
theorem px_rq.ge {ow : Nat → Int32} {p : Nat} (h : px_rq (ow p)) (hn : 0 ≤ ow p) : ow p ≠ -1 := by
  intro z
  rw [z] at hn
  exact absurd hn (by decide)
theorem px_rq.lt {ow : Nat → Int32} {p : Nat} (h : px_rq (ow p)) (hn : ¬ 0 ≤ ow p) : ow p = -1 := by
  rcases h with h | ⟨q, hq, h⟩
  · exact h
  · rw [h] at hn
    exact absurd (nI_pos' (by omega)) hn
def px_gon (pl wr : Nat → Int32) (b : Nat) : Bool := decide (0 < b % 60) && (!px_hole pl b && (!px_hole pl (b - 1) && px_go pl wr b))
def px_rx (pl wr : Nat → Int32) (s : Nat) : Nat → Nat → Nat → Nat → Int32 → Nat × Nat × Int32
  | 0, _, n, le, fi => (n, le, fi)
  | k + 1, b, n, le, fi => if px_hole pl b = true then (if 0 < le ∧ n = s + 1 then (n, le, fi) else px_rx pl wr s k (b + 1) n le fi) else if 0 < le ∧ le < 8 ∧ px_gon pl wr b = true then px_rx pl wr s k (b + 1) n (le + 1) fi else if n = s + 1 then (n, le, fi) else px_rx pl wr s k (b + 1) (n + 1) 1 (nI b)
theorem px_rx_s {pl wr : Nat → Int32} {s e b n le : Nat} {fi : Int32} (h : b < e) : px_rx pl wr s (e - b) b n le fi = if px_hole pl b = true then (if 0 < le ∧ n = s + 1 then (n, le, fi) else px_rx pl wr s (e - (b + 1)) (b + 1) n le fi) else if 0 < le ∧ le < 8 ∧ px_gon pl wr b = true then px_rx pl wr s (e - (b + 1)) (b + 1) n (le + 1) fi else if n = s + 1 then (n, le, fi) else px_rx pl wr s (e - (b + 1)) (b + 1) (n + 1) 1 (nI b) := by
  obtain ⟨k, hk⟩ : ∃ k, e - b = k + 1 := ⟨e - b - 1, by omega⟩
  rw [hk, px_rx, show e - (b + 1) = k by omega]
/-- the scan to the end of a file counts its extents -/
theorem px_rx_ee {pl wr : Nat → Int32} {o : Nat} (ho : o % 60 = 0) : ∀ (k b n le : Nat) (fi : Int32), b + k = o + 60 → o ≤ b → n ≤ b - o → ∀ c, (c = le ∨ (c = 0 ∧ px_gon pl wr b = false) ∨ (c = 0 ∧ b = o)) → (c = 0 ∨ (o < b ∧ px_hole pl (b - 1) = false)) → (px_rx pl wr 60 k b n le fi).1 = n + px_ex pl wr k b c
  | 0, _, _, _, _, _, _, _, _, _, _ => rfl
  | k + 1, b, n, le, fi, hk, hb, hn, c, hc, hm => by
    rw [px_rx, px_ex]
    by_cases hh : px_hole pl b = true
    · rw [if_pos hh, if_pos hh, if_neg (by omega)]
      refine px_rx_ee ho k (b + 1) n le fi (by omega) (by omega) (by omega) 0 (Or.inr (Or.inl ⟨rfl, ?_⟩)) (Or.inl rfl)
      unfold px_gon
      simp [hh]
    · rw [if_neg hh, if_neg hh]
      have hh2 : px_hole pl b = false := by simpa using hh
      have key : (0 < le ∧ le < 8 ∧ px_gon pl wr b = true) → c = le := by
        rintro ⟨_, _, z⟩
        rcases hc with h | h | h
        · exact h
        · rw [h.2] at z; cases z
        · unfold px_gon at z
          rw [h.2] at z
          simp [ho] at z
      have hg : 0 < c → c = le → (px_gon pl wr b = px_go pl wr b) := by
        intro h0 h1
        rcases hm with h | h
        · omega
        · unfold px_gon
          have : 0 < b % 60 := by omega
          simp [this, hh2, h.2]
      by_cases h1 : 0 < c ∧ c < 8 ∧ px_go pl wr b = true
      · have hcl : c = le := by
          rcases hc with h | h | h
          · exact h
          · omega
          · omega
        rw [if_pos h1, if_pos ⟨by omega, by omega, by rw [hg h1.1 hcl]; exact h1.2.2⟩]
        exact px_rx_ee ho k (b + 1) n (le + 1) fi (by omega) (by omega) (by omega) (c + 1) (Or.inl (by omega)) (Or.inr ⟨by omega, by simpa using hh2⟩)
      · have h2 : ¬ (0 < le ∧ le < 8 ∧ px_gon pl wr b = true) := fun z => by
          have e1 := key z
          exact h1 ⟨by omega, by omega, by rw [← hg (by omega) e1]; exact z.2.2⟩
        rw [if_neg h1, if_neg h2, if_neg (by omega), px_rx_ee ho k (b + 1) (n + 1) 1 (nI b) (by omega) (by omega) (by omega) 1 (Or.inl rfl) (Or.inr ⟨by omega, by simpa using hh2⟩)]
        omega
theorem px_rx_60 {pl wr : Nat → Int32} {f : Nat} {fi : Int32} : (px_rx pl wr 60 60 (60 * f) 0 0 fi).1 = px_ee pl wr (60 * f) := by
  rw [px_rx_ee (o := 60 * f) (by omega) 60 (60 * f) 0 0 fi rfl (Nat.le_refl _) (by omega) 0 (Or.inl rfl) (Or.inl rfl)]
  exact Nat.zero_add _
theorem px_rx_le {pl wr : Nat → Int32} {s : Nat} : ∀ (k b n le : Nat) (fi : Int32), le ≤ 8 → (px_rx pl wr s k b n le fi).2.1 ≤ 8
  | 0, _, _, _, _, h => h
  | k + 1, b, n, le, fi, h => by
    rw [px_rx]
    split
    · split
      · exact h
      · exact px_rx_le k (b + 1) n le fi h
    · split
      · exact px_rx_le k (b + 1) n (le + 1) fi (by omega)
      · split
        · exact h
        · exact px_rx_le k (b + 1) (n + 1) 1 _ (by omega)
/-- the two fields behind the counts of k files -/
def px_xs (pl wr : Nat → Int32) (le fi : Int32) : Nat → Int32 × Int32
  | 0 => (le, fi)
  | k + 1 => (nI (px_rx pl wr 60 60 (60 * k) 0 0 (px_xs pl wr le fi k).2).2.1, (px_rx pl wr 60 60 (60 * k) 0 0 (px_xs pl wr le fi k).2).2.2)
def px_sum (f : Nat → Nat) : Nat → Nat
  | 0 => 0
  | k + 1 => px_sum f k + f k
theorem px_sum_le {f : Nat → Nat} {m : Nat} (h : ∀ k, f k ≤ m) : ∀ k, px_sum f k ≤ m * k
  | 0 => Nat.le_refl _
  | k + 1 => by
    have := px_sum_le h k
    have := h k
    rw [px_sum, Nat.mul_succ]
    omega
theorem px_tree_le {e : Nat} (h : e ≤ 240) : px_tree e ≤ 60 := by
  unfold px_tree
  split <;> omega
theorem px_res_le (pl wr pg : Nat → Int32) (o : Nat) : px_res pl wr pg o ≤ 200 := by
  have h1 := px_cnt_le (fun b => px_on pg b && px_hole pl b) o 60
  have h2 := px_cnt_le (fun b => px_on pg b && (!px_hole pl b && wr b == 0)) o 60
  have h3 := px_ex_le pl wr 60 o 0
  have h4 : px_hh pl pg o ≤ 60 := h1
  have h5 : px_uu pl wr pg o ≤ 60 := h2
  have h6 : px_ee pl wr o ≤ 60 := h3
  have h7 := px_tree_le (show px_ee pl wr o + px_hh pl pg o + 2 * px_uu pl wr pg o ≤ 240 by omega)
  unfold px_res
  omega
/-- places and trees of a file -/
def px_mt (pl wr : Nat → Int32) (o : Nat) : Nat := px_mm pl o + px_tree (px_ee pl wr o)
theorem px_mt_le (pl wr : Nat → Int32) (o : Nat) : px_mt pl wr o ≤ 200 := by
  have h1 := px_cnt_le (fun b => !px_hole pl b) o 60
  have h3 := px_ex_le pl wr 60 o 0
  have h4 : px_mm pl o ≤ 60 := h1
  have h6 : px_ee pl wr o ≤ 60 := h3
  have h7 := px_tree_le (show px_ee pl wr o ≤ 240 by omega)
  unfold px_mt
  omega
