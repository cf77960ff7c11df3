theorem px_gon_eq {pl wr : Nat → Int32} {b o : Nat} (ho : o % 60 = 0) (h1 : o < b) (h2 : b < o + 60) (h3 : px_hole pl b = false) (h4 : px_hole pl (b - 1) = false) : px_gon pl wr b = px_go pl wr b := by
  unfold px_gon
  have h5 : 0 < b % 60 := by omega
  simp [h3, h4, h5]
/-- inside the extent that is wanted -/
theorem px_rx_in {pl wr : Nat → Int32} {o s : Nat} (ho : o % 60 = 0) (hr : px_rng pl o 60) : ∀ (k b le : Nat) (fi : Int32), b + k = o + 60 → o < b → 0 < le → px_hole pl (b - 1) = false → px_rx pl wr s k b (s + 1) le fi = (s + 1, le + px_rl pl wr k b le, fi)
  | 0, b, le, fi, _, _, _, _ => rfl
  | k + 1, b, le, fi, hk, hb, hl, hm => by
    rw [px_rx, px_rl]
    by_cases hh : px_hole pl b = true
    · rw [if_pos hh, if_pos ⟨hl, rfl⟩]
      have hg : ¬ (le < 8 ∧ px_go pl wr b = true) := by
        rintro ⟨-, g⟩
        have hx : ∃ p, p < 80 ∧ pl (b - 1) = nI p := by
          rcases hr (b - 1) (by omega) (by omega) with h | h
          · simp [px_hole, h] at hm
          · exact h
        rw [px_go_mapped hx g] at hh
        exact absurd hh (by decide)
      rw [if_neg hg]
      rfl
    · have hh' : px_hole pl b = false := by simpa using hh
      rw [if_neg hh, px_gon_eq ho hb (by omega) hh' hm]
      by_cases g : le < 8 ∧ px_go pl wr b = true
      · rw [if_pos ⟨hl, g.1, g.2⟩, if_pos g, px_rx_in ho hr k (b + 1) (le + 1) fi (by omega) (by omega) (by omega) (by rw [Nat.add_sub_cancel]; exact hh')]
        congr 2
        omega
      · rw [if_neg (fun z => g ⟨z.2.1, z.2.2⟩), if_pos rfl, if_neg g]
        rfl
/-- the scan for extent s -/
theorem px_rx_nth {pl wr : Nat → Int32} {o s : Nat} (ho : o % 60 = 0) (hr : px_rng pl o 60) : ∀ (k b n le : Nat) (fi : Int32), b + k = o + 60 → o ≤ b → n ≤ s → ∀ c, (c = le ∨ (c = 0 ∧ px_gon pl wr b = false) ∨ (c = 0 ∧ b = o)) → (c = 0 ∨ (o < b ∧ px_hole pl (b - 1) = false)) →
    (px_nth pl wr k b c (s - n) = none → (px_rx pl wr s k b n le fi).1 ≤ s) ∧ (∀ q, px_nth pl wr k b c (s - n) = some q → px_rx pl wr s k b n le fi = (s + 1, 1 + px_rl pl wr (o + 59 - q) (q + 1) 1, nI q))
  | 0, b, n, le, fi, _, _, hn, c, _, _ => ⟨fun _ => hn, fun q h => by simp [px_nth] at h⟩
  | k + 1, b, n, le, fi, hk, hb, hn, c, hc, hm => by
    rw [px_rx, px_nth]
    by_cases hh : px_hole pl b = true
    · rw [if_pos hh, if_pos hh, if_neg (by omega)]
      refine px_rx_nth ho hr k (b + 1) n le fi (by omega) (by omega) hn 0 (Or.inr (Or.inl ⟨rfl, ?_⟩)) (Or.inl rfl)
      unfold px_gon
      simp [hh]
    · have hh' : px_hole pl b = false := by simpa using hh
      rw [if_neg hh, if_neg hh]
      have key : (0 < le ∧ le < 8 ∧ px_gon pl wr b = true) → c = le := by
        rintro ⟨-, -, g⟩
        rcases hc with h | ⟨-, h⟩ | ⟨-, h⟩
        · exact h
        · rw [g] at h; exact absurd h (by decide)
        · exfalso
          unfold px_gon at g
          simp only [Bool.and_eq_true, decide_eq_true_eq] at g
          omega
      have key2 : 0 < c → px_gon pl wr b = px_go pl wr b := by
        intro h0
        rcases hm with h | ⟨h, h2⟩
        · omega
        · exact px_gon_eq ho h (by omega) hh' h2
      by_cases g : 0 < le ∧ le < 8 ∧ px_gon pl wr b = true
      · have e := key g
        subst e
        have g2 : 0 < c ∧ c < 8 ∧ px_go pl wr b = true := ⟨g.1, g.2.1, by rw [← key2 g.1]; exact g.2.2⟩
        rw [if_pos g, if_pos g2]
        exact px_rx_nth ho hr k (b + 1) n (c + 1) fi (by omega) (by omega) hn (c + 1) (Or.inl rfl) (Or.inr ⟨by omega, by rw [Nat.add_sub_cancel]; exact hh'⟩)
      · have g2 : ¬ (0 < c ∧ c < 8 ∧ px_go pl wr b = true) := by
          rintro ⟨z1, z2, z3⟩
          rcases hc with h | ⟨h, -⟩ | ⟨h, -⟩
          · subst h
            exact g ⟨z1, z2, by rw [key2 z1]; exact z3⟩
          · omega
          · omega
        rw [if_neg g, if_neg g2, if_neg (show ¬ n = s + 1 by omega)]
        by_cases hi : s - n = 0
        · rw [if_pos hi]
          have e : n = s := by omega
          subst e
          refine ⟨fun h => (by cases h), fun q h => ?_⟩
          cases h
          rw [px_rx_in ho hr k (b + 1) 1 (nI b) (by omega) (by omega) (by omega) (by rw [Nat.add_sub_cancel]; exact hh')]
          rw [show o + 59 - b = k by omega]
        · rw [if_neg hi]
          have e : s - n - 1 = s - (n + 1) := by omega
          rw [e]
          exact px_rx_nth ho hr k (b + 1) (n + 1) 1 (nI b) (by omega) (by omega) (by omega) 1 (Or.inl rfl) (Or.inr ⟨by omega, by rw [Nat.add_sub_cancel]; exact hh'⟩)
theorem px_nth_in {pl wr : Nat → Int32} : ∀ (k b c i q : Nat), px_nth pl wr k b c i = some q → i < k ∧ b ≤ q ∧ q < b + k ∧ px_hole pl q = false
  | 0, _, _, _, _, h => by simp [px_nth] at h
  | k + 1, b, c, i, q, h => by
    rw [px_nth] at h
    split at h
    · obtain ⟨h1, h2, h3, h4⟩ := px_nth_in k (b + 1) 0 i q h
      exact ⟨by omega, by omega, by omega, h4⟩
    · rename_i hh
      split at h
      · obtain ⟨h1, h2, h3, h4⟩ := px_nth_in k (b + 1) (c + 1) i q h
        exact ⟨by omega, by omega, by omega, h4⟩
      · split at h
        · cases h
          exact ⟨by omega, by omega, by omega, by simpa using hh⟩
        · obtain ⟨h1, h2, h3, h4⟩ := px_nth_in k (b + 1) 1 (i - 1) q h
          exact ⟨by omega, by omega, by omega, h4⟩
/-- what the class finds and what the reference finds -/
theorem rr_nth {a c pl wr : Nat → Int32} {f k : Nat} {fi : Int32} (hf : f < 4) (hp : px_vw a pl (60 * f)) (hw : px_vw c wr (60 * f)) (hr : ∀ b, b < 240 → px_rg (pl b)) :
    (px_nth a c 60 0 0 k = none → (px_rx pl wr k 60 (60 * f) 0 0 fi).1 ≤ k) ∧ (∀ q, px_nth a c 60 0 0 k = some q → k < 60 ∧ q < 60 ∧ px_rx pl wr k 60 (60 * f) 0 0 fi = (k + 1, px_len a c q, nI (60 * f + q))) := by
  have hrg : px_rng pl (60 * f) 60 := fun b h1 h2 => hr b (by omega)
  have hs := px_nth_sh hp hw 60 0 0 k (Or.inr rfl) (Nat.le_refl _)
  rw [Nat.add_zero] at hs
  obtain ⟨h1, h2⟩ := px_rx_nth (wr := wr) (s := k) (show 60 * f % 60 = 0 by omega) hrg 60 (60 * f) 0 0 fi rfl (Nat.le_refl _) (Nat.zero_le _) 0 (Or.inr (Or.inr ⟨rfl, rfl⟩)) (Or.inl rfl)
  rw [Nat.sub_zero, ← hs] at h1 h2
  refine ⟨fun h => h1 (by rw [h]; rfl), fun q h => ?_⟩
  obtain ⟨g1, g2, g3, g4⟩ := px_nth_in 60 0 0 k q h
  have h3 := h2 (60 * f + q) (by rw [h]; rfl)
  refine ⟨g1, by omega, ?_⟩
  rw [h3]
  unfold px_len
  rw [if_neg (by rw [g4]; decide), px_rl_sh hp hw (59 - q) (q + 1) 1 (by omega) (by omega), show 60 * f + 59 - (60 * f + q) = 59 - q by omega, show 60 * f + (q + 1) = 60 * f + q + 1 by omega]
theorem px_wv_sh {pl P pg G pv H : Nat → Int32} {o : Nat} (h1 : px_vw pl P o) (h2 : px_vw pg G o) (h3 : ∀ j, j < 60 → px_on G (o + j) = true → pv j = H (o + j)) : ∀ (k b : Nat) (vl : Nat → Int32), b + k ≤ 60 → px_wv pl pg pv k b vl = px_wv P G H k (o + b) vl
  | 0, _, _, _ => rfl
  | k + 1, b, vl, hb => by
    rw [px_wv, px_wv, h2.on (show b < 60 by omega), h1.hole (show b < 60 by omega), h1 b (by omega)]
    by_cases ho : (px_on G (o + b) && !px_hole P (o + b)) = true
    · rw [if_pos ho, if_pos ho]
      simp only [Bool.and_eq_true] at ho
      rw [h3 b (by omega) ho.1]
      exact px_wv_sh h1 h2 h3 k (b + 1) _ (by omega)
    · rw [if_neg ho, if_neg ho]
      exact px_wv_sh h1 h2 h3 k (b + 1) _ (by omega)
theorem rr_pn {pg : Nat → Int32} {q : Nat} (hq : q < 240) (h : pg q = 0) : px_sum (fun k => px_pp (upd pg q (nI 1)) (60 * k)) 4 = px_sum (fun k => px_pp pg (60 * k)) 4 + 1 := by
  rw [← rr_pp4, ← rr_pp4]
  refine px_cnt_on (i := q) (by omega) (by omega) (by simp [px_on, h]) (by simp [px_on, upd]; decide) (fun j hj => ?_)
  simp [px_on, upd, hj]
