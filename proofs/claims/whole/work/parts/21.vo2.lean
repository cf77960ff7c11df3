theorem lc_VO_24 : ww_site "DelayedExtents$Volume" 24 yy_VO_untakenFrom bb_VO_untakenFrom 3 (some .int) 1 := ⟨List.mem_filter.mpr ⟨List.mem_of_getElem? (i := 378) (by decide +kernel), by decide +kernel⟩, List.mem_filter.mpr ⟨List.mem_of_getElem? (i := 375) (by decide +kernel), by decide +kernel⟩, List.mem_filter.mpr ⟨List.mem_of_getElem? (i := 27) (by decide +kernel), by decide +kernel⟩, by decide, by decide, by decide +kernel⟩
theorem lx_VO_untakenFrom_I_I : ww_virt yy_VO_untakenFrom := ⟨List.mem_filter.mpr ⟨List.mem_of_getElem? (i := 377) (by decide +kernel), by decide +kernel⟩, List.mem_filter.mpr ⟨List.mem_of_getElem? (i := 7) (by decide +kernel), by decide +kernel⟩⟩
theorem lc_VO_28 : ww_site "DelayedExtents$Volume" 28 yy_VO_suitsBetter bb_VO_suitsBetter 3 (some .boolean) 3 := ⟨List.mem_filter.mpr ⟨List.mem_of_getElem? (i := 381) (by decide +kernel), by decide +kernel⟩, List.mem_filter.mpr ⟨List.mem_of_getElem? (i := 379) (by decide +kernel), by decide +kernel⟩, List.mem_filter.mpr ⟨List.mem_of_getElem? (i := 27) (by decide +kernel), by decide +kernel⟩, by decide, by decide, by decide +kernel⟩
theorem ls_VO_suitsBetter_III_Z : Cond.static yy_VO_suitsBetter ∈ lw_good := List.mem_filter.mpr ⟨List.mem_of_getElem? (i := 380) (by decide +kernel), by decide +kernel⟩
set_option maxRecDepth 4000 in
theorem cc_VO_isUntaken (l : Launch) (D : va_G) (g : Nat → ClassId) (v : Nat) (vo : Nat) (vv : Nat) (ow : Nat → Int32) (vl : Nat → Int32) (x : Int32)  : ww_ct l D g yy_VO_isUntaken bb_VO_isUntaken 2 (some .boolean) (ww_rm 1) [.ref v, .int x] [(v, .inr (1, [.ref vo, .ref vv])), (vo, .inl (g 0, 80, .inl ow)), (vv, .inl (g 0, 80, .inl vl))] (some (.int (px_b (px_un ow x)))) [(v, .inr (1, [.ref vo, .ref vv])), (vo, .inl (g 0, 80, .inl ow)), (vv, .inl (g 0, 80, .inl vl))] := by
  refine ww_start (by decide +kernel) rfl (px_b_nar _) (Nat.le_of_ble_eq_true rfl) (L0 := [(0, .ref v), (1, .int x)]) rfl ?_
  intro X O hl hD hg hR hn F
  subst hl hD hg
  refine ww_iload_n O dd_VO_isUntaken_0 1 rfl ?_
  refine ww_if_lt O dd_VO_isUntaken_1 (tgt := 24) rfl (fun h1 => ?_) (fun h1 => ?_)
  · refine ww_iconst O dd_VO_isUntaken_24 (v := nI 0) rfl ?_
    rw [show px_un ow x = false from px_un_neg h1, px_b_f] at F
    exact F.i dd_VO_isUntaken_25
  · refine ww_iload_n O dd_VO_isUntaken_4 1 rfl ?_
    refine ww_bipush O dd_VO_isUntaken_5 (v := nI 80) rfl ?_
    refine ww_icmp_ge O dd_VO_isUntaken_7 (tgt := 24) rfl (fun h7 => ?_) (fun h7 => ?_)
    · refine ww_iconst O dd_VO_isUntaken_24 (v := nI 0) rfl ?_
      rw [show px_un ow x = false from px_un_big h7, px_b_f] at F
      exact F.i dd_VO_isUntaken_25
    · obtain ⟨j, hj, rfl⟩ := px_ix3 (by decide) h1 h7
      refine ww_aload_n O dd_VO_isUntaken_10 0 rfl ?_
      refine ww_get O ci_VO rfl 0 (by decide) lf_VO_9 rfl dd_VO_isUntaken_11 0 rfl rfl ?_
      refine ww_iload_n O dd_VO_isUntaken_14 1 rfl ?_
      refine ww_iald O dd_VO_isUntaken_15 1 rfl (by omega) (by decide) rfl ?_
      refine ww_iconst O dd_VO_isUntaken_16 (v := (-1)) rfl ?_
      refine ww_icmp_ne O dd_VO_isUntaken_17 (tgt := 24) rfl (fun h17 => ?_) (fun h17 => ?_)
      · refine ww_iconst O dd_VO_isUntaken_24 (v := nI 0) rfl ?_
        rw [show px_un ow (nI j) = false from by rw [px_un_in hj]; simp [h17], px_b_f] at F
        exact F.i dd_VO_isUntaken_25
      · refine ww_iconst O dd_VO_isUntaken_20 (v := nI 1) rfl ?_
        refine ww_goto O dd_VO_isUntaken_21 (tgt := 25) rfl ?_
        rw [show px_un ow (nI j) = true from by rw [px_un_in hj]; simp [h17], px_b_t] at F
        exact F.i dd_VO_isUntaken_25
set_option maxRecDepth 4000 in
theorem cc_VO_suitsBetter (l : Launch) (D : va_G) (g : Nat → ClassId) (a : Nat) (b : Nat) (w : Nat) (ha : a < 100) (hb : b < 100) (hw : w < 100) : ww_ct l D g yy_VO_suitsBetter bb_VO_suitsBetter 3 (some .boolean) (ww_rm 1) [.int (nI a), .int (nI b), .int (nI w)] [] (some (.int (px_b (px_bet w b a)))) [] := by
  refine ww_start (by decide +kernel) rfl (px_b_nar _) (Nat.le_of_ble_eq_true rfl) (L0 := [(0, .int (nI a)), (1, .int (nI b)), (2, .int (nI w))]) rfl ?_
  intro X O hl hD hg hR hn F
  subst hl hD hg
  refine ww_iload_n O dd_VO_suitsBetter_0 1 rfl ?_
  refine ww_iload_n O dd_VO_suitsBetter_1 2 rfl ?_
  refine ww_icmp_geN O dd_VO_suitsBetter_2 (tgt := 16) rfl (by omega) (by omega) (fun h2 => ?_) (fun h2 => ?_)
  · refine ww_iload_n O dd_VO_suitsBetter_16 0 rfl ?_
    refine ww_iload_n O dd_VO_suitsBetter_17 2 rfl ?_
    refine ww_icmp_ltN O dd_VO_suitsBetter_18 (tgt := 30) rfl (by omega) (by omega) (fun h18 => ?_) (fun h18 => ?_)
    · refine ww_iconst O dd_VO_suitsBetter_30 (v := nI 0) rfl ?_
      rw [show px_bet w b a = false from by unfold px_bet; split <;> simp <;> omega, px_b_f] at F
      exact F.i dd_VO_suitsBetter_31
    · refine ww_iload_n O dd_VO_suitsBetter_21 0 rfl ?_
      refine ww_iload_n O dd_VO_suitsBetter_22 1 rfl ?_
      refine ww_icmp_geN O dd_VO_suitsBetter_23 (tgt := 30) rfl (by omega) (by omega) (fun h23 => ?_) (fun h23 => ?_)
      · refine ww_iconst O dd_VO_suitsBetter_30 (v := nI 0) rfl ?_
        rw [show px_bet w b a = false from by unfold px_bet; split <;> simp <;> omega, px_b_f] at F
        exact F.i dd_VO_suitsBetter_31
      · refine ww_iconst O dd_VO_suitsBetter_26 (v := nI 1) rfl ?_
        refine ww_goto O dd_VO_suitsBetter_27 (tgt := 31) rfl ?_
        rw [show px_bet w b a = true from by unfold px_bet; split <;> simp <;> omega, px_b_t] at F
        exact F.i dd_VO_suitsBetter_31
  · refine ww_iload_n O dd_VO_suitsBetter_5 0 rfl ?_
    refine ww_iload_n O dd_VO_suitsBetter_6 1 rfl ?_
    refine ww_icmp_leN O dd_VO_suitsBetter_7 (tgt := 14) rfl (by omega) (by omega) (fun h7 => ?_) (fun h7 => ?_)
    · refine ww_iconst O dd_VO_suitsBetter_14 (v := nI 0) rfl ?_
      rw [show px_bet w b a = false from by unfold px_bet; split <;> simp <;> omega, px_b_f] at F
      exact F.i dd_VO_suitsBetter_15
    · refine ww_iconst O dd_VO_suitsBetter_10 (v := nI 1) rfl ?_
      refine ww_goto O dd_VO_suitsBetter_11 (tgt := 15) rfl ?_
      rw [show px_bet w b a = true from by unfold px_bet; split <;> simp <;> omega, px_b_t] at F
      exact F.i dd_VO_suitsBetter_15
set_option maxRecDepth 4000 in
theorem cc_VO_untakenFrom (l : Launch) (D : va_G) (g : Nat → ClassId) (v : Nat) (vo : Nat) (vv : Nat) (ow : Nat → Int32) (vl : Nat → Int32) (a : Nat) (ha : a < 81) : ww_ct l D g yy_VO_untakenFrom bb_VO_untakenFrom 3 (some .int) (ww_rm 1) [.ref v, .int (nI a)] [(v, .inr (1, [.ref vo, .ref vv])), (vo, .inl (g 0, 80, .inl ow)), (vv, .inl (g 0, 80, .inl vl))] (some (.int (nI (px_room ow (80 - a) a)))) [(v, .inr (1, [.ref vo, .ref vv])), (vo, .inl (g 0, 80, .inl ow)), (vv, .inl (g 0, 80, .inl vl))] := by
  refine ww_start (by decide +kernel) rfl rfl (Nat.le_of_ble_eq_true rfl) (L0 := [(0, .ref v), (1, .int (nI a))]) rfl ?_
  intro X O hl hD hg hR hn F
  subst hl hD hg
  have loop : ∀ (k b : Nat), 80 ≤ b + k → a ≤ b → b ≤ 80 → b - a + px_room ow (80 - b) b = px_room ow (80 - a) a → ww_at X 0 0 2 [(0, .ref v), (1, .int (nI a)), (2, .int (nI b))] [] [(v, .inr (1, [.ref vo, .ref vv])), (vo, .inl (ww_g X 0, 80, .inl ow)), (vv, .inl (ww_g X 0, 80, .inl vl))] := by
    intro k
    induction k with
    | zero =>
      intro b h1 h2 h3 h4
      refine ww_iload_n O dd_VO_untakenFrom_2 2 rfl ?_
      refine ww_bipush O dd_VO_untakenFrom_3 (v := nI 80) rfl ?_
      refine ww_icmp_geN O dd_VO_untakenFrom_5 (tgt := 24) rfl (by omega) (by omega) (fun h5 => ?_) (fun h5 => ?_)
      · refine ww_iload_n O dd_VO_untakenFrom_24 2 rfl ?_
        refine ww_iload_n O dd_VO_untakenFrom_25 1 rfl ?_
        refine ww_isub O dd_VO_untakenFrom_26 (v := nI (b - a)) (pk_sub (by omega)) ?_
        rw [show px_room ow (80 - a) a = (b - a) from by rw [← h4, px_room_s, if_neg (by omega)]; omega] at F
        exact F.i dd_VO_untakenFrom_27
      · exfalso; omega
    | succ k ih =>
      intro b h1 h2 h3 h4
      refine ww_iload_n O dd_VO_untakenFrom_2 2 rfl ?_
      refine ww_bipush O dd_VO_untakenFrom_3 (v := nI 80) rfl ?_
      refine ww_icmp_geN O dd_VO_untakenFrom_5 (tgt := 24) rfl (by omega) (by omega) (fun h5 => ?_) (fun h5 => ?_)
      · refine ww_iload_n O dd_VO_untakenFrom_24 2 rfl ?_
        refine ww_iload_n O dd_VO_untakenFrom_25 1 rfl ?_
        refine ww_isub O dd_VO_untakenFrom_26 (v := nI (b - a)) (pk_sub (by omega)) ?_
        rw [show px_room ow (80 - a) a = (b - a) from by rw [← h4, px_room_s, if_neg (by omega)]; omega] at F
        exact F.i dd_VO_untakenFrom_27
      · refine ww_aload_n O dd_VO_untakenFrom_8 0 rfl ?_
        refine ww_get O ci_VO rfl 0 (by decide) lf_VO_9 rfl dd_VO_untakenFrom_9 0 rfl rfl ?_
        refine ww_iload_n O dd_VO_untakenFrom_12 2 rfl ?_
        refine ww_iald O dd_VO_untakenFrom_13 1 rfl (by omega) (by decide) rfl ?_
        refine ww_iconst O dd_VO_untakenFrom_14 (v := (-1)) rfl ?_
        refine ww_icmp_ne O dd_VO_untakenFrom_15 (tgt := 24) rfl (fun h15 => ?_) (fun h15 => ?_)
        · refine ww_iload_n O dd_VO_untakenFrom_24 2 rfl ?_
          refine ww_iload_n O dd_VO_untakenFrom_25 1 rfl ?_
          refine ww_isub O dd_VO_untakenFrom_26 (v := nI (b - a)) (pk_sub (by omega)) ?_
          rw [show px_room ow (80 - a) a = (b - a) from by rw [← h4, px_room_s, if_neg (fun z => h15 z.2)]; omega] at F
          exact F.i dd_VO_untakenFrom_27
        · refine ww_iinc O dd_VO_untakenFrom_18 2 rfl (v := nI (b + 1)) (nI_add _ 1) (by rw [hn]; decide) rfl (L' := [(0, .ref v), (1, .int (nI a)), (2, .int (nI (b + 1)))]) rfl ?_
          refine ww_goto O dd_VO_untakenFrom_21 (tgt := 2) rfl ?_
          exact ih (b + 1) (by omega) (by omega) (by omega) (by rw [← h4, px_room_s (p := b), if_pos ⟨by omega, h15⟩, show 80 - b - 1 = 80 - (b + 1) by omega]; omega)
  refine ww_iload_n O dd_VO_untakenFrom_0 1 rfl ?_
  refine ww_istore_n O dd_VO_untakenFrom_1 (by rw [hn]; decide) rfl (L' := [(0, .ref v), (1, .int (nI a)), (2, .int (nI a))]) rfl ?_
  exact loop 80 a (by omega) (by omega) (by omega) (by omega)
set_option maxRecDepth 4000 in
theorem cc_VO_countUntaken (l : Launch) (D : va_G) (g : Nat → ClassId) (v : Nat) (vo : Nat) (vv : Nat) (ow : Nat → Int32) (vl : Nat → Int32)  : ww_ct l D g yy_VO_countUntaken bb_VO_countUntaken 3 (some .int) (ww_rm 1) [.ref v] [(v, .inr (1, [.ref vo, .ref vv])), (vo, .inl (g 0, 80, .inl ow)), (vv, .inl (g 0, 80, .inl vl))] (some (.int (nI (px_nu ow)))) [(v, .inr (1, [.ref vo, .ref vv])), (vo, .inl (g 0, 80, .inl ow)), (vv, .inl (g 0, 80, .inl vl))] := by
  refine ww_start (by decide +kernel) rfl rfl (Nat.le_of_ble_eq_true rfl) (L0 := [(0, .ref v)]) rfl ?_
  intro X O hl hD hg hR hn F
  subst hl hD hg
  have loop : ∀ (k b c : Nat), 80 ≤ b + k → b ≤ 80 → c = px_cnt (fun p => ow p == -1) 0 b → ww_at X 0 0 4 [(0, .ref v), (1, .int (nI c)), (2, .int (nI b))] [] [(v, .inr (1, [.ref vo, .ref vv])), (vo, .inl (ww_g X 0, 80, .inl ow)), (vv, .inl (ww_g X 0, 80, .inl vl))] := by
    intro k
    induction k with
    | zero =>
      intro b c h1 h2 h3
      refine ww_iload_n O dd_VO_countUntaken_4 2 rfl ?_
      refine ww_bipush O dd_VO_countUntaken_5 (v := nI 80) rfl ?_
      refine ww_icmp_geN O dd_VO_countUntaken_7 (tgt := 29) rfl (by omega) (by omega) (fun h7 => ?_) (fun h7 => ?_)
      · refine ww_iload_n O dd_VO_countUntaken_29 1 rfl ?_
        rw [show px_nu ow = c from by rw [h3, show b = 80 by omega]; rfl] at F
        exact F.i dd_VO_countUntaken_30
      · exfalso; omega
    | succ k ih =>
      intro b c h1 h2 h3
      refine ww_iload_n O dd_VO_countUntaken_4 2 rfl ?_
      refine ww_bipush O dd_VO_countUntaken_5 (v := nI 80) rfl ?_
      refine ww_icmp_geN O dd_VO_countUntaken_7 (tgt := 29) rfl (by omega) (by omega) (fun h7 => ?_) (fun h7 => ?_)
      · refine ww_iload_n O dd_VO_countUntaken_29 1 rfl ?_
        rw [show px_nu ow = c from by rw [h3, show b = 80 by omega]; rfl] at F
        exact F.i dd_VO_countUntaken_30
      · refine ww_aload_n O dd_VO_countUntaken_10 0 rfl ?_
        refine ww_get O ci_VO rfl 0 (by decide) lf_VO_9 rfl dd_VO_countUntaken_11 0 rfl rfl ?_
        refine ww_iload_n O dd_VO_countUntaken_14 2 rfl ?_
        refine ww_iald O dd_VO_countUntaken_15 1 rfl (by omega) (by decide) rfl ?_
        refine ww_iconst O dd_VO_countUntaken_16 (v := (-1)) rfl ?_
        refine ww_icmp_ne O dd_VO_countUntaken_17 (tgt := 23) rfl (fun h17 => ?_) (fun h17 => ?_)
        · refine ww_iinc O dd_VO_countUntaken_23 2 rfl (v := nI (b + 1)) (nI_add _ 1) (by rw [hn]; decide) rfl (L' := [(0, .ref v), (1, .int (nI c)), (2, .int (nI (b + 1)))]) rfl ?_
          refine ww_goto O dd_VO_countUntaken_26 (tgt := 4) rfl ?_
          exact ih (b + 1) c (by omega) (by omega) (px_c0f h3 (by simp [h17]))
        · refine ww_iinc O dd_VO_countUntaken_20 1 rfl (v := nI (c + 1)) (nI_add _ 1) (by rw [hn]; decide) rfl (L' := [(0, .ref v), (1, .int (nI (c + 1))), (2, .int (nI b))]) rfl ?_
          refine ww_iinc O dd_VO_countUntaken_23 2 rfl (v := nI (b + 1)) (nI_add _ 1) (by rw [hn]; decide) rfl (L' := [(0, .ref v), (1, .int (nI (c + 1))), (2, .int (nI (b + 1)))]) rfl ?_
          refine ww_goto O dd_VO_countUntaken_26 (tgt := 4) rfl ?_
          exact ih (b + 1) (c + 1) (by omega) (by omega) (px_c0t h3 (by simp [h17]))
  refine ww_iconst O dd_VO_countUntaken_0 (v := nI 0) rfl ?_
  refine ww_istore_n O dd_VO_countUntaken_1 (by rw [hn]; decide) rfl (L' := [(0, .ref v), (1, .int (nI 0))]) rfl ?_
  refine ww_iconst O dd_VO_countUntaken_2 (v := nI 0) rfl ?_
  refine ww_istore_n O dd_VO_countUntaken_3 (by rw [hn]; decide) rfl (L' := [(0, .ref v), (1, .int (nI 0)), (2, .int (nI 0))]) rfl ?_
  exact loop 80 0 0 (by omega) (by omega) rfl
set_option maxRecDepth 4000 in
theorem cc_VO_bestRow (l : Launch) (D : va_G) (g : Nat → ClassId) (v : Nat) (vo : Nat) (vv : Nat) (ow : Nat → Int32) (vl : Nat → Int32) (w : Nat) (hw0 : 0 < w) (hw : w < 100) : ww_ct l D g yy_VO_bestRow bb_VO_bestRow 6 (some .int) (ww_rm 2) [.ref v, .int (nI w)] [(v, .inr (1, [.ref vo, .ref vv])), (vo, .inl (g 0, 80, .inl ow)), (vv, .inl (g 0, 80, .inl vl))] (some (.int (px_best ow w))) [(v, .inr (1, [.ref vo, .ref vv])), (vo, .inl (g 0, 80, .inl ow)), (vv, .inl (g 0, 80, .inl vl))] := by
  refine ww_start (by decide +kernel) rfl rfl (Nat.le_of_ble_eq_true rfl) (L0 := [(0, .ref v), (1, .int (nI w))]) rfl ?_
  intro X O hl hD hg hR hn F
  subst hl hD hg
  have loop : ∀ (k p s : Nat) (b : Int32), 80 ≤ p + k → p ≤ 81 → s ≤ 80 → (p = 0 ∨ ow (p - 1) ≠ -1 ∨ 80 ≤ p) → px_bf ow w (80 - p) p b s = px_best ow w → ww_at X 0 0 7 [(0, .ref v), (1, .int (nI w)), (2, .int b), (3, .int (nI s)), (4, .int (nI p))] [] [(v, .inr (1, [.ref vo, .ref vv])), (vo, .inl (ww_g X 0, 80, .inl ow)), (vv, .inl (ww_g X 0, 80, .inl vl))] := by
    intro k
    induction k with
    | zero =>
      intro p s b h1 h2 hs h3 h4
      refine ww_iload O dd_VO_bestRow_7 4 rfl ?_
      refine ww_bipush O dd_VO_bestRow_9 (v := nI 80) rfl ?_
      refine ww_icmp_geN O dd_VO_bestRow_11 (tgt := 50) rfl (by omega) (by omega) (fun h11 => ?_) (fun h11 => ?_)
      · refine ww_iload_n O dd_VO_bestRow_50 2 rfl ?_
        rw [show px_best ow w = b from by rw [← h4, show 80 - p = 0 by omega]; rfl] at F
        exact F.i dd_VO_bestRow_51
      · exfalso; omega
    | succ k ih =>
      intro p s b h1 h2 hs h3 h4
      refine ww_iload O dd_VO_bestRow_7 4 rfl ?_
      refine ww_bipush O dd_VO_bestRow_9 (v := nI 80) rfl ?_
      refine ww_icmp_geN O dd_VO_bestRow_11 (tgt := 50) rfl (by omega) (by omega) (fun h11 => ?_) (fun h11 => ?_)
      · refine ww_iload_n O dd_VO_bestRow_50 2 rfl ?_
        rw [show px_best ow w = b from by rw [← h4, show 80 - p = 0 by omega]; rfl] at F
        exact F.i dd_VO_bestRow_51
      · refine ww_aload_n O dd_VO_bestRow_14 0 rfl ?_
        refine ww_iload O dd_VO_bestRow_15 4 rfl ?_
        refine ww_callV (q0 := 0) (ci := 1) O (cc_VO_untakenFrom _ _ _ v vo vv ow vl p (by omega)) lc_VO_24 lx_VO_untakenFrom_I_I rfl rfl rfl (by rw [hR]; decide) (by rw [hR]; decide) (by rw [hR]; decide) rfl (Nat.le_of_ble_eq_true rfl) dd_VO_bestRow_17 rfl [0, 1, 2] [] [0, 1, 2] rfl (by decide) rfl (by decide) (by decide) (ws' := [(v, .inr (1, [.ref vo, .ref vv])), (vo, .inl (ww_g X 0, 80, .inl ow)), (vv, .inl (ww_g X 0, 80, .inl vl))]) rfl rfl (by decide) ?_
        have hr := px_room_le ow (80 - p) p
        generalize hre : px_room ow (80 - p) p = r at hr ⊢
        refine ww_istore O dd_VO_bestRow_20 (by rw [hn]; decide) rfl (L' := [(0, .ref v), (1, .int (nI w)), (2, .int b), (3, .int (nI s)), (4, .int (nI p)), (5, .int (nI r))]) rfl ?_
        refine ww_iload O dd_VO_bestRow_22 5 rfl ?_
        refine ww_iload_n O dd_VO_bestRow_24 3 rfl ?_
        refine ww_iload_n O dd_VO_bestRow_25 1 rfl ?_
        refine ww_callS O (cc_VO_suitsBetter _ _ _ r s w (by omega) (by omega) (by omega)) lc_VO_28 ls_VO_suitsBetter_III_Z (by rw [hR]; decide) (by rw [hR]; decide) (by rw [hR]; decide) rfl (Nat.le_of_ble_eq_true rfl) dd_VO_bestRow_26 rfl [] [0, 1, 2] [0, 1, 2] rfl (by decide) rfl (by decide) (by decide) (ws' := [(v, .inr (1, [.ref vo, .ref vv])), (vo, .inl (ww_g X 0, 80, .inl ow)), (vv, .inl (ww_g X 0, 80, .inl vl))]) rfl rfl (by decide) ?_
        refine ww_if_eqB O dd_VO_bestRow_29 (tgt := 38) rfl (fun h29 => ?_) (fun h29 => ?_)
        · refine ww_iload O dd_VO_bestRow_38 4 rfl ?_
          refine ww_iload O dd_VO_bestRow_40 5 rfl ?_
          refine ww_iconst O dd_VO_bestRow_42 (v := nI 1) rfl ?_
          refine ww_iadd O dd_VO_bestRow_43 (v := nI (r + 1)) (nI_add _ _) ?_
          refine ww_iadd O dd_VO_bestRow_44 (v := nI (p + (r + 1))) (nI_add _ _) ?_
          refine ww_istore O dd_VO_bestRow_45 (by rw [hn]; decide) rfl (L' := [(0, .ref v), (1, .int (nI w)), (2, .int b), (3, .int (nI s)), (4, .int (nI (p + (r + 1)))), (5, .int (nI r))]) rfl ?_
          refine ww_goto O dd_VO_bestRow_47 (tgt := 7) rfl ?_
          refine ww_sub [0, 1, 2, 3, 4] rfl ?_
          refine ih _ _ _ (by omega) (by omega) (by omega) ?_ ?_
          · rcases Nat.lt_or_ge (p + r) 80 with h9 | h9
            · refine Or.inr (Or.inl ?_)
              have := px_room_end (ow := ow) (k := 80 - p) (p := p) (by omega)
              rw [hre] at this
              simpa [Nat.add_assoc] using this
            · exact Or.inr (Or.inr (by omega))
          · rw [← h4, px_bf_row hw0 (show p < 80 by omega) (by rcases h3 with h | h | h; exact Or.inl h; exact Or.inr h; omega), hre, if_neg (by rw [h29]; decide), if_neg (by rw [h29]; decide)]
            simp only [Nat.add_assoc]
        · refine ww_iload O dd_VO_bestRow_32 4 rfl ?_
          refine ww_istore_n O dd_VO_bestRow_34 (by rw [hn]; decide) rfl (L' := [(0, .ref v), (1, .int (nI w)), (2, .int (nI p)), (3, .int (nI s)), (4, .int (nI p)), (5, .int (nI r))]) rfl ?_
          refine ww_iload O dd_VO_bestRow_35 5 rfl ?_
          refine ww_istore_n O dd_VO_bestRow_37 (by rw [hn]; decide) rfl (L' := [(0, .ref v), (1, .int (nI w)), (2, .int (nI p)), (3, .int (nI r)), (4, .int (nI p)), (5, .int (nI r))]) rfl ?_
          refine ww_iload O dd_VO_bestRow_38 4 rfl ?_
          refine ww_iload O dd_VO_bestRow_40 5 rfl ?_
          refine ww_iconst O dd_VO_bestRow_42 (v := nI 1) rfl ?_
          refine ww_iadd O dd_VO_bestRow_43 (v := nI (r + 1)) (nI_add _ _) ?_
          refine ww_iadd O dd_VO_bestRow_44 (v := nI (p + (r + 1))) (nI_add _ _) ?_
          refine ww_istore O dd_VO_bestRow_45 (by rw [hn]; decide) rfl (L' := [(0, .ref v), (1, .int (nI w)), (2, .int (nI p)), (3, .int (nI r)), (4, .int (nI (p + (r + 1)))), (5, .int (nI r))]) rfl ?_
          refine ww_goto O dd_VO_bestRow_47 (tgt := 7) rfl ?_
          refine ww_sub [0, 1, 2, 3, 4] rfl ?_
          refine ih _ _ _ (by omega) (by omega) (by omega) ?_ ?_
          · rcases Nat.lt_or_ge (p + r) 80 with h9 | h9
            · refine Or.inr (Or.inl ?_)
              have := px_room_end (ow := ow) (k := 80 - p) (p := p) (by omega)
              rw [hre] at this
              simpa [Nat.add_assoc] using this
            · exact Or.inr (Or.inr (by omega))
          · rw [← h4, px_bf_row hw0 (show p < 80 by omega) (by rcases h3 with h | h | h; exact Or.inl h; exact Or.inr h; omega), hre, if_pos h29, if_pos h29]
            simp only [Nat.add_assoc]
  refine ww_iconst O dd_VO_bestRow_0 (v := (-1)) rfl ?_
  refine ww_istore_n O dd_VO_bestRow_1 (by rw [hn]; decide) rfl (L' := [(0, .ref v), (1, .int (nI w)), (2, .int (-1))]) rfl ?_
  refine ww_iconst O dd_VO_bestRow_2 (v := nI 0) rfl ?_
  refine ww_istore_n O dd_VO_bestRow_3 (by rw [hn]; decide) rfl (L' := [(0, .ref v), (1, .int (nI w)), (2, .int (-1)), (3, .int (nI 0))]) rfl ?_
  refine ww_iconst O dd_VO_bestRow_4 (v := nI 0) rfl ?_
  refine ww_istore O dd_VO_bestRow_5 (by rw [hn]; decide) rfl (L' := [(0, .ref v), (1, .int (nI w)), (2, .int (-1)), (3, .int (nI 0)), (4, .int (nI 0))]) rfl ?_
  exact loop 80 0 0 (-1) (by omega) (by omega) (by omega) (Or.inl rfl) rfl
