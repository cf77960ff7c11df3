/-! a file's own arrays beside the arrays of all files -/
def px_vw (f G : Nat → Int32) (o : Nat) : Prop := ∀ j, j < 60 → f j = G (o + j)
theorem px_vw.hole {f G : Nat → Int32} {o : Nat} (h : px_vw f G o) {j : Nat} (hj : j < 60) : px_hole f j = px_hole G (o + j) := by
  unfold px_hole
  rw [h j hj]
theorem px_vw.on {f G : Nat → Int32} {o : Nat} (h : px_vw f G o) {j : Nat} (hj : j < 60) : px_on f j = px_on G (o + j) := by
  unfold px_on
  rw [h j hj]
theorem px_vw.upd {f G : Nat → Int32} {o : Nat} (h : px_vw f G o) (i : Nat) (x : Int32) : px_vw (upd f i x) (upd G (o + i) x) o := by
  intro j hj
  show (if j = i then x else f j) = (if o + j = o + i then x else G (o + j))
  by_cases e : j = i
  · rw [if_pos e, if_pos (by omega)]
  · rw [if_neg e, if_neg (by omega)]
    exact h j hj
theorem px_vw.fill {f G : Nat → Int32} {o : Nat} (h : px_vw f G o) (a n : Nat) (x : Int32) : px_vw (px_fill f a n x) (px_fill G (o + a) n x) o := by
  intro j hj
  unfold px_fill
  by_cases e : a ≤ j ∧ j < a + n
  · rw [if_pos e, if_pos (by omega)]
  · rw [if_neg e, if_neg (by omega)]
    exact h j hj
theorem px_fx_sh {pl wr P W : Nat → Int32} {o : Nat} (hp : px_vw pl P o) (hw : px_vw wr W o) : ∀ (k b c : Nat) (pp pw : Int32), b + k ≤ 60 → px_fx pl wr k b c pp pw = px_fx P W k (o + b) c pp pw
  | 0, _, _, _, _, _ => rfl
  | k + 1, b, c, pp, pw, h => by
    unfold px_fx
    rw [hp.hole (by omega), hp b (by omega), hw b (by omega)]
    have ih := fun c pp pw => px_fx_sh hp hw k (b + 1) c pp pw (by omega)
    rw [ih, ih, ih]
    rfl
theorem px_ex_sh {pl wr P W : Nat → Int32} {o : Nat} (hp : px_vw pl P o) (hw : px_vw wr W o) : px_ex pl wr 60 0 0 = px_ex P W 60 o 0 := by
  rw [px_fx_ex, px_fx_ex, px_fx_sh hp hw 60 0 0 _ _ (Nat.le_refl _)]
  exact px_fx_0 (Or.inl rfl) (Or.inl rfl)
theorem px_go_sh {pl wr P W : Nat → Int32} {o b : Nat} (hp : px_vw pl P o) (hw : px_vw wr W o) (h0 : 0 < b) (h : b < 60) : px_go pl wr b = px_go P W (o + b) := by
  unfold px_go
  rw [hp b h, hw b h, hp (b - 1) (by omega), hw (b - 1) (by omega), show o + (b - 1) = o + b - 1 by omega]
theorem px_rl_sh {pl wr P W : Nat → Int32} {o : Nat} (hp : px_vw pl P o) (hw : px_vw wr W o) : ∀ (k b c : Nat), 0 < b → b + k ≤ 60 → px_rl pl wr k b c = px_rl P W k (o + b) c
  | 0, _, _, _, _ => rfl
  | k + 1, b, c, h0, h => by
    unfold px_rl
    rw [px_go_sh hp hw h0 (by omega), px_rl_sh hp hw k (b + 1) (c + 1) (by omega) (by omega)]
    rfl
theorem px_nth_sh {pl wr P W : Nat → Int32} {o : Nat} (hp : px_vw pl P o) (hw : px_vw wr W o) : ∀ (k b c i : Nat), (0 < b ∨ c = 0) → b + k ≤ 60 → (px_nth pl wr k b c i).map (fun j => o + j) = px_nth P W k (o + b) c i
  | 0, _, _, _, _, _ => rfl
  | k + 1, b, c, i, h0, h => by
    unfold px_nth
    have hg : (0 < c ∧ c < 8 ∧ px_go pl wr b = true) = (0 < c ∧ c < 8 ∧ px_go P W (o + b) = true) := by
      rcases h0 with h1 | h1
      · rw [px_go_sh hp hw h1 (by omega)]
      · subst h1
        simp
    have ih := fun c i => px_nth_sh hp hw k (b + 1) c i (Or.inl (by omega)) (by omega)
    rw [px_vw.hole hp (show b < 60 by omega)]
    simp only [hg]
    split
    · exact ih _ _
    · split
      · exact ih _ _
      · split
        · rfl
        · exact ih _ _
theorem px_mr_sh {o : Nat} : ∀ (k b : Nat) (c : Int32) (pl G ow : Nat → Int32), px_vw pl G o → px_vw (px_mr o k b c pl ow).1 (px_mr 0 k (o + b) c G ow).1 o ∧ (px_mr o k b c pl ow).2 = (px_mr 0 k (o + b) c G ow).2
  | 0, _, _, _, _, _, h => ⟨h, rfl⟩
  | k + 1, b, c, pl, G, ow, h => by
    rw [px_mr, px_mr]
    generalize (if px_un ow c = true then c else px_best ow (k + 1)) = p
    by_cases hu : px_un ow p = true
    · rw [if_pos hu, if_pos hu, Nat.zero_add]
      exact px_mr_sh k (b + 1) _ _ _ _ (h.upd b _)
    · rw [if_neg hu, if_neg hu]
      exact px_mr_sh k (b + 1) _ _ _ _ h
theorem px_er_sh {P Q : Nat → Bool} {o : Nat} : ∀ (k b : Nat), (∀ j, b ≤ j → j < b + k → P j = Q (o + j)) → o + px_er P k b = px_er Q k (o + b)
  | 0, _, _ => rfl
  | k + 1, b, h => by
    unfold px_er
    rw [h b (by omega) (by omega)]
    split
    · exact px_er_sh k (b + 1) (fun j h1 h2 => h j (by omega) (by omega))
    · rfl
theorem px_mh_sh {o : Nat} {sel sel' : Nat → Bool} (hs : ∀ j, j < 60 → sel j = sel' (o + j)) : ∀ (k b e : Nat) (pl G ow : Nat → Int32), e ≤ 60 → px_vw pl G o → px_vw (px_mh o 0 sel k b e pl ow).1 (px_mh 0 o sel' k (o + b) (o + e) G ow).1 o ∧ (px_mh o 0 sel k b e pl ow).2 = (px_mh 0 o sel' k (o + b) (o + e) G ow).2
  | 0, _, _, _, _, _, _, h => ⟨h, rfl⟩
  | k + 1, b, e, pl, G, ow, he, h => by
    rw [px_mh, px_mh]
    by_cases hb : b < e
    · rw [if_pos hb, if_pos (by omega)]
      have hE : o + px_er (fun j => px_hole pl j && sel j) (e - b) b = px_er (fun j => px_hole G j && sel' j) (o + e - (o + b)) (o + b) := by
        rw [show o + e - (o + b) = e - b by omega]
        exact px_er_sh (e - b) b (fun j h1 h2 => by rw [h.hole (by omega), hs j (by omega)])
      have hC : px_cand (b == 0) pl b = px_cand (o + b == o) G (o + b) := by
        unfold px_cand
        by_cases h0 : b = 0
        · subst h0
          simp
        · have e1 : (b == 0) = false := by simp [h0]
          have e2 : (o + b == o) = false := by simp; omega
          rw [e1, e2, h.hole (by omega), h (b - 1) (by omega), show o + (b - 1) = o + b - 1 by omega]
      rw [← hE, ← hC]
      generalize px_er (fun j => px_hole pl j && sel j) (e - b) b = r
      rw [show o + r - (o + b) = r - b by omega]
      obtain ⟨a1, a2⟩ := px_mr_sh (r - b) b (px_cand (b == 0) pl b) pl G ow h
      rw [a2]
      exact px_mh_sh hs k (r + 1) e _ _ _ he a1
    · rw [if_neg hb, if_neg (by omega)]
      exact ⟨h, rfl⟩
/-! giving places back -/
def px_rel (sel : Nat → Bool) (pl : Nat → Int32) : Nat → Nat → (Nat → Int32) → (Nat → Int32)
  | 0, _, ow => ow
  | k + 1, b, ow => px_rel sel pl k (b + 1) (if sel b && !px_hole pl b then upd ow (pl b).toNatClampNeg (-1) else ow)
theorem px_rel_sh {sel sel' : Nat → Bool} {pl G : Nat → Int32} {o : Nat} (hs : ∀ j, j < 60 → sel j = sel' (o + j)) (h : px_vw pl G o) : ∀ (k b : Nat) (ow : Nat → Int32), b + k ≤ 60 → px_rel sel pl k b ow = px_rel sel' G k (o + b) ow
  | 0, _, _, _ => rfl
  | k + 1, b, ow, hb => by
    rw [px_rel, px_rel, hs b (by omega), h.hole (by omega), h b (by omega)]
    exact px_rel_sh hs h k (b + 1) _ (by omega)
/-- those of the n blocks from a on that sel names are made holes -/
def px_cut (sel : Nat → Bool) (f : Nat → Int32) (a n : Nat) (v : Int32) : Nat → Int32 := fun j => if a ≤ j ∧ j < a + n ∧ sel j = true then v else f j
theorem px_cut_s {sel : Nat → Bool} {f : Nat → Int32} {a n : Nat} {v : Int32} : px_cut sel f a (n + 1) v = if sel (a + n) then upd (px_cut sel f a n v) (a + n) v else px_cut sel f a n v := by
  funext j
  by_cases h : sel (a + n) = true
  · rw [if_pos h]
    unfold upd px_cut
    by_cases e : j = a + n
    · rw [if_pos e, if_pos ⟨by omega, by omega, by rw [e]; exact h⟩]
    · rw [if_neg e]
      by_cases h2 : a ≤ j ∧ j < a + n ∧ sel j = true
      · rw [if_pos h2, if_pos ⟨h2.1, by omega, h2.2.2⟩]
      · rw [if_neg h2, if_neg (fun z => h2 ⟨z.1, by omega, z.2.2⟩)]
  · rw [if_neg h]
    unfold px_cut
    by_cases h2 : a ≤ j ∧ j < a + n ∧ sel j = true
    · rw [if_pos h2, if_pos ⟨h2.1, by omega, h2.2.2⟩]
    · rw [if_neg h2, if_neg]
      rintro ⟨z1, z2, z3⟩
      by_cases e : j = a + n
      · rw [e] at z3; exact h z3
      · exact h2 ⟨z1, by omega, z3⟩
theorem px_cut_0 (sel : Nat → Bool) (f : Nat → Int32) (a : Nat) (v : Int32) : px_cut sel f a 0 v = f := by
  funext j
  unfold px_cut
  rw [if_neg (by omega)]
theorem px_cut_all (f : Nat → Int32) (a n : Nat) (v : Int32) : px_cut (fun _ => true) f a n v = px_fill f a n v := by
  funext j
  unfold px_cut px_fill
  simp
theorem px_rel_cg {sel : Nat → Bool} {pl pl' : Nat → Int32} : ∀ {k b : Nat} {ow : Nat → Int32}, (∀ j, b ≤ j → j < b + k → pl' j = pl j) → px_rel sel pl k b ow = px_rel sel pl' k b ow
  | 0, _, _, _ => rfl
  | k + 1, b, ow, h => by
    have e : pl' b = pl b := h b (by omega) (by omega)
    have e2 : px_hole pl' b = px_hole pl b := by unfold px_hole; rw [e]
    rw [px_rel, px_rel, e2, e]
    exact px_rel_cg (fun j h1 h2 => h j (by omega) (by omega))
/-- the invariant behind giving back -/
theorem px_rel_spec (sel : Nat → Bool) : ∀ (k b : Nat) (pl ow : Nat → Int32), px_I1 pl ow → b + k ≤ 240 → px_I1 (px_cut sel pl b k (-1)) (px_rel sel pl k b ow) ∧ px_nu (px_rel sel pl k b ow) + px_mp (px_cut sel pl b k (-1)) = px_nu ow + px_mp pl
  | 0, b, pl, ow, h, _ => by
    rw [px_cut_0]
    exact ⟨h, rfl⟩
  | k + 1, b, pl, ow, h, hb => by
    have hs : px_cut sel pl b (k + 1) (-1) = px_cut sel (if sel b then upd pl b (-1) else pl) (b + 1) k (-1) := by
      funext j
      unfold px_cut
      by_cases e : j = b
      · subst e
        by_cases hs : sel j = true
        · rw [if_pos ⟨by omega, by omega, hs⟩, if_neg (by omega), if_pos hs]
          simp [upd]
        · rw [if_neg (fun z => hs z.2.2), if_neg (by omega), if_neg hs]
      · have e2 : (if sel b = true then upd pl b (-1) else pl) j = pl j := by
          split
          · simp [upd, e]
          · rfl
        rw [e2]
        by_cases h2 : b ≤ j ∧ j < b + (k + 1) ∧ sel j = true
        · rw [if_pos h2, if_pos ⟨by omega, by omega, h2.2.2⟩]
        · rw [if_neg h2, if_neg (fun z => h2 ⟨by omega, by omega, z.2.2⟩)]
    rw [px_rel, hs]
    by_cases hsel : sel b = true
    · rw [if_pos hsel, hsel, Bool.true_and]
      by_cases hh : px_hole pl b = true
      · have e1 : upd pl b (-1) = pl := by
          funext j
          unfold upd
          split
          · rename_i e
            have h9 := hh
            simp only [px_hole, beq_iff_eq] at h9
            rw [e, h9]
          · rfl
        rw [hh, e1]
        exact px_rel_spec sel k (b + 1) pl ow h (by omega)
      · rcases h.1 b (by omega) with h1 | ⟨p, h1, h2, h3⟩
        · exact absurd (by simp [px_hole, h1]) hh
        · have hh' : px_hole pl b = false := by simpa using hh
          rw [hh', h2, nI_clamp (show p < 2 ^ 31 by omega)]
          have hrel : px_rel sel pl k (b + 1) (upd ow p (-1)) = px_rel sel (upd pl b (-1)) k (b + 1) (upd ow p (-1)) := px_rel_cg (fun j h4 h5 => by simp [upd]; omega)
          have hg := h.give (by omega) h1 h2
          obtain ⟨a1, a2⟩ := px_rel_spec sel k (b + 1) (upd pl b (-1)) (upd ow p (-1)) hg (by omega)
          have hm := px_mp_give (pl := pl) (show b < 240 by omega) (by rw [h2]; exact px_m1 (by omega))
          have hnu := px_nu_give (ow := ow) h1 (by rw [h3]; exact px_m1 (by omega))
          simp only [Bool.not_false, if_true]
          rw [hrel]
          exact ⟨a1, by omega⟩
    · rw [if_neg hsel]
      have : (sel b && !px_hole pl b) = false := by simp [hsel]
      rw [this]
      exact px_rel_spec sel k (b + 1) pl ow h (by omega)
