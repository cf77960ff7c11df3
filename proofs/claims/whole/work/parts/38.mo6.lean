theorem lc_MO_92 : ww_site "DelayedExtentsModel" 92 yy_MO_mapHoles bb_MO_mapHoles 6 none 3 := ⟨List.mem_filter.mpr ⟨List.mem_of_getElem? (i := 592) (by decide +kernel), by decide +kernel⟩, List.mem_filter.mpr ⟨List.mem_of_getElem? (i := 589) (by decide +kernel), by decide +kernel⟩, List.mem_filter.mpr ⟨List.mem_of_getElem? (i := 30) (by decide +kernel), by decide +kernel⟩, by decide, by decide, by decide +kernel⟩
theorem lx_MO_mapHoles_IIZ_V : ww_virt yy_MO_mapHoles := ⟨List.mem_filter.mpr ⟨List.mem_of_getElem? (i := 591) (by decide +kernel), by decide +kernel⟩, List.mem_filter.mpr ⟨List.mem_of_getElem? (i := 18) (by decide +kernel), by decide +kernel⟩⟩
theorem lf_MO_32 : Cond.fieldLink "DelayedExtentsModel" 32 "DelayedExtentsModel" "before" "[I" ∈ lw_good := List.mem_filter.mpr ⟨List.mem_of_getElem? (i := 510) (by decide +kernel), by decide +kernel⟩
set_option maxRecDepth 4000 in
theorem cc_MO_flush_bad (l : Launch) (D : va_G) (g : Nat → ClassId) (m : Nat) (a1 : Nat) (a2 : Nat) (a3 : Nat) (a4 : Nat) (a5 : Nat) (a6 : Nat) (a7 : Nat) (a8 : Nat) (cd : Int32) (fi : Int32) (le : Int32) (pl : Nat → Int32) (wr : Nat → Int32) (pg : Nat → Int32) (pv : Nat → Int32) (sz : Nat → Int32) (ow : Nat → Int32) (vl : Nat → Int32) (bf : Nat → Int32) (x : Int32) (hbad : px_nf x 3 = true) : ww_ct l D g yy_MO_flush bb_MO_flush 4 (some .int) (ww_rm 5) [.ref m, .int x] [(m, .inr (3, [.int cd, .ref a1, .ref a2, .ref a3, .ref a4, .ref a5, .ref a6, .ref a7, .ref a8, .int fi, .int le])), (a1, .inl (g 0, 240, .inl pl)), (a2, .inl (g 1, 240, .inl wr)), (a3, .inl (g 1, 240, .inl pg)), (a4, .inl (g 0, 240, .inl pv)), (a5, .inl (g 0, 4, .inl sz)), (a6, .inl (g 0, 80, .inl ow)), (a7, .inl (g 0, 80, .inl vl)), (a8, .inl (g 0, 60, .inl bf))] (some (.int (nI 0))) [(m, .inr (3, [.int (nI 1), .ref a1, .ref a2, .ref a3, .ref a4, .ref a5, .ref a6, .ref a7, .ref a8, .int fi, .int le])), (a1, .inl (g 0, 240, .inl pl)), (a2, .inl (g 1, 240, .inl wr)), (a3, .inl (g 1, 240, .inl pg)), (a4, .inl (g 0, 240, .inl pv)), (a5, .inl (g 0, 4, .inl sz)), (a6, .inl (g 0, 80, .inl ow)), (a7, .inl (g 0, 80, .inl vl)), (a8, .inl (g 0, 60, .inl bf))] := by
  refine ww_start (by decide +kernel) rfl rfl (Nat.le_of_ble_eq_true rfl) (L0 := [(0, .ref m), (1, .int x)]) rfl ?_
  intro X O hl hD hg hR hn F
  subst hl hD hg
  refine ww_aload_n O dd_MO_flush_0 0 rfl ?_
  refine ww_iload_n O dd_MO_flush_1 1 rfl ?_
  refine ww_callS O (cc_MO_noFile _ _ _ x ) lc_MO_79 ls_MO_noFile_I_Z (by rw [hR]; decide) (by rw [hR]; decide) (by rw [hR]; decide) rfl (Nat.le_of_ble_eq_true rfl) dd_MO_flush_2 rfl [] [0, 1, 2, 3, 4, 5, 6, 7, 8] [0, 1, 2, 3, 4, 5, 6, 7, 8] rfl (by decide) rfl (by decide) (by decide) (ws' := [(m, .inr (3, [.int cd, .ref a1, .ref a2, .ref a3, .ref a4, .ref a5, .ref a6, .ref a7, .ref a8, .int fi, .int le])), (a1, .inl (ww_g X 0, 240, .inl pl)), (a2, .inl (ww_g X 1, 240, .inl wr)), (a3, .inl (ww_g X 1, 240, .inl pg)), (a4, .inl (ww_g X 0, 240, .inl pv)), (a5, .inl (ww_g X 0, 4, .inl sz)), (a6, .inl (ww_g X 0, 80, .inl ow)), (a7, .inl (ww_g X 0, 80, .inl vl)), (a8, .inl (ww_g X 0, 60, .inl bf))]) rfl rfl (by decide) ?_
  refine ww_if_eqB O dd_MO_flush_5 (tgt := 12) rfl (fun h5 => ?_) (fun h5 => ?_)
  · rw [hbad] at h5; exact absurd h5 (by decide)
  · refine ww_iconst O dd_MO_flush_8 (v := nI 1) rfl ?_
    refine ww_goto O dd_MO_flush_9 (tgt := 13) rfl ?_
    refine ww_put O ci_MO cy_MO cy_MO_ok cn_MO rfl 0 (by decide) lf_MO_35 rfl rfl (ty := .int) (by decide +kernel) dd_MO_flush_13 0 rfl rfl rfl (Nat.le_of_ble_eq_true rfl) (ws' := [(m, .inr (3, [.int (nI 1), .ref a1, .ref a2, .ref a3, .ref a4, .ref a5, .ref a6, .ref a7, .ref a8, .int fi, .int le])), (a1, .inl (ww_g X 0, 240, .inl pl)), (a2, .inl (ww_g X 1, 240, .inl wr)), (a3, .inl (ww_g X 1, 240, .inl pg)), (a4, .inl (ww_g X 0, 240, .inl pv)), (a5, .inl (ww_g X 0, 4, .inl sz)), (a6, .inl (ww_g X 0, 80, .inl ow)), (a7, .inl (ww_g X 0, 80, .inl vl)), (a8, .inl (ww_g X 0, 60, .inl bf))]) rfl ?_
    refine ww_aload_n O dd_MO_flush_16 0 rfl ?_
    refine ww_get O ci_MO rfl 0 (by decide) lf_MO_35 rfl dd_MO_flush_17 0 rfl rfl ?_
    refine ww_if_leN O dd_MO_flush_20 (tgt := 25) rfl (by omega) (fun h20 => ?_) (fun h20 => ?_)
    · exfalso; omega
    · refine ww_iconst O dd_MO_flush_23 (v := nI 0) rfl ?_
      exact F.i dd_MO_flush_24
set_option maxRecDepth 4000 in
theorem cc_MO_flush (l : Launch) (D : va_G) (g : Nat → ClassId) (m : Nat) (a1 : Nat) (a2 : Nat) (a3 : Nat) (a4 : Nat) (a5 : Nat) (a6 : Nat) (a7 : Nat) (a8 : Nat) (cd : Int32) (fi : Int32) (le : Int32) (pl : Nat → Int32) (wr : Nat → Int32) (pg : Nat → Int32) (pv : Nat → Int32) (sz : Nat → Int32) (ow : Nat → Int32) (vl : Nat → Int32) (bf : Nat → Int32) (f : Nat) (hI : px_I1 pl ow) (hw : ∀ j, j < 240 → px_hole pl j = true → wr j = nI 0) (hf : f < 4) (hnu : px_cnt (fun j => px_hole pl j && (px_on pg j || false)) (60 * f) 60 ≤ px_nu ow) : ww_ct l D g yy_MO_flush bb_MO_flush 4 (some .int) (ww_rm 5) [.ref m, .int (nI f)] [(m, .inr (3, [.int cd, .ref a1, .ref a2, .ref a3, .ref a4, .ref a5, .ref a6, .ref a7, .ref a8, .int fi, .int le])), (a1, .inl (g 0, 240, .inl pl)), (a2, .inl (g 1, 240, .inl wr)), (a3, .inl (g 1, 240, .inl pg)), (a4, .inl (g 0, 240, .inl pv)), (a5, .inl (g 0, 4, .inl sz)), (a6, .inl (g 0, 80, .inl ow)), (a7, .inl (g 0, 80, .inl vl)), (a8, .inl (g 0, 60, .inl bf))] (some (.int (nI (px_pp pg (60 * f))))) [(m, .inr (3, [.int (nI 0), .ref a1, .ref a2, .ref a3, .ref a4, .ref a5, .ref a6, .ref a7, .ref a8, .int fi, .int le])), (a1, .inl (g 0, 240, .inl ((px_mh 0 (60 * f) (fun j => px_on pg j || false) 60 (60 * f) (60 * f + 60) pl ow).1))), (a2, .inl (g 1, 240, .inl (px_cut (px_on pg) wr (60 * f) 60 (nI 1)))), (a3, .inl (g 1, 240, .inl (px_fill pg (60 * f) 60 (nI 0)))), (a4, .inl (g 0, 240, .inl pv)), (a5, .inl (g 0, 4, .inl sz)), (a6, .inl (g 0, 80, .inl ((px_mh 0 (60 * f) (fun j => px_on pg j || false) 60 (60 * f) (60 * f + 60) pl ow).2))), (a7, .inl (g 0, 80, .inl (px_wv (px_mh 0 (60 * f) (fun j => px_on pg j || false) 60 (60 * f) (60 * f + 60) pl ow).1 pg pv 60 (60 * f) vl))), (a8, .inl (g 0, 60, .inl bf))] := by
  refine ww_start (by decide +kernel) rfl rfl (Nat.le_of_ble_eq_true rfl) (L0 := [(0, .ref m), (1, .int (nI f))]) rfl ?_
  intro X O hl hD hg hR hn F
  subst hl hD hg
  obtain ⟨t1, t2, t3, t4⟩ := px_mh_spec (60 * f) (fun j => px_on pg j || false) 60 (60 * f) (60 * f + 60) pl ow (by omega) hI (by omega) (by rw [show 60 * f + 60 - 60 * f = 60 by omega]; exact hnu)
  generalize hT : px_mh 0 (60 * f) (fun j => px_on pg j || false) 60 (60 * f) (60 * f + 60) pl ow = T at F t1 t2 t3 t4
  have hmp : ∀ j, 60 * f ≤ j → j < 60 * f + 60 → px_on pg j = true → ∃ p, p < 80 ∧ T.1 j = nI p := by
    intro j g1 g2 g3
    cases hh : px_hole pl j with
    | true => exact t2 j g1 g2 hh (by simp [g3])
    | false =>
      rw [t1 j (by rintro ⟨_, _, z, _⟩; rw [hh] at z; cases z)]
      rcases hI.rg j (by omega) with h | h
      · simp [px_hole, h] at hh
      · exact h
  generalize hV : px_wv T.1 pg pv 60 (60 * f) vl = V at F
  have loop : ∀ (k b : Nat) (vl2 : Nat → Int32), 60 * f + 60 ≤ b + k → 60 * f ≤ b → b ≤ 60 * f + 60 → px_wv T.1 pg pv (60 * f + 60 - b) b vl2 = V → ww_at X 0 0 52 [(0, .ref m), (1, .int (nI f)), (2, .int (nI (px_pp pg (60 * f)))), (3, .int (nI b))] [] [(m, .inr (3, [.int (nI 0), .ref a1, .ref a2, .ref a3, .ref a4, .ref a5, .ref a6, .ref a7, .ref a8, .int fi, .int le])), (a1, .inl (ww_g X 0, 240, .inl T.1)), (a2, .inl (ww_g X 1, 240, .inl (px_cut (px_on pg) wr (60 * f) (b - 60 * f) (nI 1)))), (a3, .inl (ww_g X 1, 240, .inl (px_fill pg (60 * f) (b - 60 * f) (nI 0)))), (a4, .inl (ww_g X 0, 240, .inl pv)), (a5, .inl (ww_g X 0, 4, .inl sz)), (a6, .inl (ww_g X 0, 80, .inl T.2)), (a7, .inl (ww_g X 0, 80, .inl vl2)), (a8, .inl (ww_g X 0, 60, .inl bf))] := by
    intro k
    induction k with
    | zero =>
      intro b vl2 h1 h2 h3 h4
      refine ww_iload_n O dd_MO_flush_52 3 rfl ?_
      refine ww_bipush O dd_MO_flush_53 (v := nI 60) rfl ?_
      refine ww_iload_n O dd_MO_flush_55 1 rfl ?_
      refine ww_imul O dd_MO_flush_56 (v := nI (60 * f)) (pk_mul _ _) ?_
      refine ww_bipush O dd_MO_flush_57 (v := nI 60) rfl ?_
      refine ww_iadd O dd_MO_flush_59 (v := nI ((60 * f) + 60)) (nI_add _ _) ?_
      refine ww_icmp_geN O dd_MO_flush_60 (tgt := 109) rfl (by omega) (by omega) (fun h60 => ?_) (fun h60 => ?_)
      · refine ww_iload_n O dd_MO_flush_109 2 rfl ?_
        have eb : b = 60 * f + 60 := by omega
        subst eb
        rw [Nat.sub_self] at h4
        subst h4
        rw [show 60 * f + 60 - 60 * f = 60 by omega]
        exact F.i dd_MO_flush_110
      · exfalso; omega
    | succ k ih =>
      intro b vl2 h1 h2 h3 h4
      refine ww_iload_n O dd_MO_flush_52 3 rfl ?_
      refine ww_bipush O dd_MO_flush_53 (v := nI 60) rfl ?_
      refine ww_iload_n O dd_MO_flush_55 1 rfl ?_
      refine ww_imul O dd_MO_flush_56 (v := nI (60 * f)) (pk_mul _ _) ?_
      refine ww_bipush O dd_MO_flush_57 (v := nI 60) rfl ?_
      refine ww_iadd O dd_MO_flush_59 (v := nI ((60 * f) + 60)) (nI_add _ _) ?_
      refine ww_icmp_geN O dd_MO_flush_60 (tgt := 109) rfl (by omega) (by omega) (fun h60 => ?_) (fun h60 => ?_)
      · refine ww_iload_n O dd_MO_flush_109 2 rfl ?_
        have eb : b = 60 * f + 60 := by omega
        subst eb
        rw [Nat.sub_self] at h4
        subst h4
        rw [show 60 * f + 60 - 60 * f = 60 by omega]
        exact F.i dd_MO_flush_110
      · refine ww_aload_n O dd_MO_flush_63 0 rfl ?_
        refine ww_get O ci_MO rfl 3 (by decide) lf_MO_17 rfl dd_MO_flush_64 0 rfl rfl ?_
        refine ww_iload_n O dd_MO_flush_67 3 rfl ?_
        refine ww_zald O dd_MO_flush_68 3 rfl (by omega) (by decide) rfl ?_
        rw [px_fill_o (by omega)]
        refine ww_if_eq O dd_MO_flush_69 (tgt := 103) rfl (fun h69 => ?_) (fun h69 => ?_)
        · refine ww_iinc O dd_MO_flush_103 3 rfl (v := nI (b + 1)) (nI_add _ 1) (by rw [hn]; decide) rfl (L' := [(0, .ref m), (1, .int (nI f)), (2, .int (nI (px_pp pg (60 * f)))), (3, .int (nI (b + 1)))]) rfl ?_
          refine ww_goto O dd_MO_flush_106 (tgt := 52) rfl ?_
          rw [px_fill_same (f := pg) (v := nI 0) h2 h69, px_cut_f (f := wr) h2 (by simp [px_on, h69])]
          exact ih (b + 1) _ (by omega) (by omega) (by omega) (by rw [← h4, px_wv_s (b := b) (by omega), if_neg (by simp [px_on, h69])])
        · refine ww_aload_n O dd_MO_flush_72 0 rfl ?_
          refine ww_get O ci_MO rfl 2 (by decide) lf_MO_13 rfl dd_MO_flush_73 0 rfl rfl ?_
          refine ww_iload_n O dd_MO_flush_76 3 rfl ?_
          refine ww_iconst O dd_MO_flush_77 (v := nI 1) rfl ?_
          refine ww_zast O dd_MO_flush_78 2 rfl (by omega) (by decide) rfl (ws' := [(m, .inr (3, [.int (nI 0), .ref a1, .ref a2, .ref a3, .ref a4, .ref a5, .ref a6, .ref a7, .ref a8, .int fi, .int le])), (a1, .inl (ww_g X 0, 240, .inl T.1)), (a2, .inl (ww_g X 1, 240, .inl (upd (px_cut (px_on pg) wr (60 * f) (b - 60 * f) (nI 1)) b (nI 1)))), (a3, .inl (ww_g X 1, 240, .inl (px_fill pg (60 * f) (b - 60 * f) (nI 0)))), (a4, .inl (ww_g X 0, 240, .inl pv)), (a5, .inl (ww_g X 0, 4, .inl sz)), (a6, .inl (ww_g X 0, 80, .inl T.2)), (a7, .inl (ww_g X 0, 80, .inl vl2)), (a8, .inl (ww_g X 0, 60, .inl bf))]) rfl ?_
          refine ww_aload_n O dd_MO_flush_79 0 rfl ?_
          refine ww_get O ci_MO rfl 7 (by decide) lf_MO_29 rfl dd_MO_flush_80 0 rfl rfl ?_
          refine ww_aload_n O dd_MO_flush_83 0 rfl ?_
          refine ww_get O ci_MO rfl 1 (by decide) lf_MO_7 rfl dd_MO_flush_84 0 rfl rfl ?_
          refine ww_iload_n O dd_MO_flush_87 3 rfl ?_
          refine ww_iald O dd_MO_flush_88 1 rfl (by omega) (by decide) rfl ?_
          obtain ⟨p, hp, hq⟩ := hmp b h2 (by omega) (by simp [px_on, h69])
          rw [hq]
          refine ww_aload_n O dd_MO_flush_89 0 rfl ?_
          refine ww_get O ci_MO rfl 4 (by decide) lf_MO_20 rfl dd_MO_flush_90 0 rfl rfl ?_
          refine ww_iload_n O dd_MO_flush_93 3 rfl ?_
          refine ww_iald O dd_MO_flush_94 4 rfl (by omega) (by decide) rfl ?_
          refine ww_iast O dd_MO_flush_95 7 rfl (by omega) (by decide) (ws' := [(m, .inr (3, [.int (nI 0), .ref a1, .ref a2, .ref a3, .ref a4, .ref a5, .ref a6, .ref a7, .ref a8, .int fi, .int le])), (a1, .inl (ww_g X 0, 240, .inl T.1)), (a2, .inl (ww_g X 1, 240, .inl (upd (px_cut (px_on pg) wr (60 * f) (b - 60 * f) (nI 1)) b (nI 1)))), (a3, .inl (ww_g X 1, 240, .inl (px_fill pg (60 * f) (b - 60 * f) (nI 0)))), (a4, .inl (ww_g X 0, 240, .inl pv)), (a5, .inl (ww_g X 0, 4, .inl sz)), (a6, .inl (ww_g X 0, 80, .inl T.2)), (a7, .inl (ww_g X 0, 80, .inl (upd vl2 p (pv b)))), (a8, .inl (ww_g X 0, 60, .inl bf))]) rfl ?_
          refine ww_aload_n O dd_MO_flush_96 0 rfl ?_
          refine ww_get O ci_MO rfl 3 (by decide) lf_MO_17 rfl dd_MO_flush_97 0 rfl rfl ?_
          refine ww_iload_n O dd_MO_flush_100 3 rfl ?_
          refine ww_iconst O dd_MO_flush_101 (v := nI 0) rfl ?_
          refine ww_zast O dd_MO_flush_102 3 rfl (by omega) (by decide) rfl (ws' := [(m, .inr (3, [.int (nI 0), .ref a1, .ref a2, .ref a3, .ref a4, .ref a5, .ref a6, .ref a7, .ref a8, .int fi, .int le])), (a1, .inl (ww_g X 0, 240, .inl T.1)), (a2, .inl (ww_g X 1, 240, .inl (upd (px_cut (px_on pg) wr (60 * f) (b - 60 * f) (nI 1)) b (nI 1)))), (a3, .inl (ww_g X 1, 240, .inl (upd (px_fill pg (60 * f) (b - 60 * f) (nI 0)) b (nI 0)))), (a4, .inl (ww_g X 0, 240, .inl pv)), (a5, .inl (ww_g X 0, 4, .inl sz)), (a6, .inl (ww_g X 0, 80, .inl T.2)), (a7, .inl (ww_g X 0, 80, .inl (upd vl2 p (pv b)))), (a8, .inl (ww_g X 0, 60, .inl bf))]) rfl ?_
          refine ww_iinc O dd_MO_flush_103 3 rfl (v := nI (b + 1)) (nI_add _ 1) (by rw [hn]; decide) rfl (L' := [(0, .ref m), (1, .int (nI f)), (2, .int (nI (px_pp pg (60 * f)))), (3, .int (nI (b + 1)))]) rfl ?_
          refine ww_goto O dd_MO_flush_106 (tgt := 52) rfl ?_
          rw [px_fill_sa h2, px_cut_t h2 (by simp [px_on, h69])]
          exact ih (b + 1) _ (by omega) (by omega) (by omega) (by rw [← h4, px_wv_s (b := b) (by omega), if_pos (by simp [px_on, h69, px_hole, hq, px_m1 (show p < 2 ^ 31 by omega)]), hq, nI_clamp (by omega)])
  have h0 := loop 60 (60 * f) vl (by omega) (by omega) (by omega) (by rw [show 60 * f + 60 - 60 * f = 60 by omega]; exact hV)
  rw [Nat.sub_self, px_fill_0, px_cut_0] at h0
  refine ww_aload_n O dd_MO_flush_0 0 rfl ?_
  refine ww_iload_n O dd_MO_flush_1 1 rfl ?_
  refine ww_callS O (cc_MO_noFile _ _ _ (nI f) ) lc_MO_79 ls_MO_noFile_I_Z (by rw [hR]; decide) (by rw [hR]; decide) (by rw [hR]; decide) rfl (Nat.le_of_ble_eq_true rfl) dd_MO_flush_2 rfl [] [0, 1, 2, 3, 4, 5, 6, 7, 8] [0, 1, 2, 3, 4, 5, 6, 7, 8] rfl (by decide) rfl (by decide) (by decide) (ws' := [(m, .inr (3, [.int cd, .ref a1, .ref a2, .ref a3, .ref a4, .ref a5, .ref a6, .ref a7, .ref a8, .int fi, .int le])), (a1, .inl (ww_g X 0, 240, .inl pl)), (a2, .inl (ww_g X 1, 240, .inl wr)), (a3, .inl (ww_g X 1, 240, .inl pg)), (a4, .inl (ww_g X 0, 240, .inl pv)), (a5, .inl (ww_g X 0, 4, .inl sz)), (a6, .inl (ww_g X 0, 80, .inl ow)), (a7, .inl (ww_g X 0, 80, .inl vl)), (a8, .inl (ww_g X 0, 60, .inl bf))]) rfl rfl (by decide) ?_
  rw [px_nf_nI (k := 3) (by omega) (by decide)]
  refine ww_if_eqB O dd_MO_flush_5 (tgt := 12) rfl (fun h5 => ?_) (fun h5 => ?_)
  · refine ww_iconst O dd_MO_flush_12 (v := nI 0) rfl ?_
    refine ww_put O ci_MO cy_MO cy_MO_ok cn_MO rfl 0 (by decide) lf_MO_35 rfl rfl (ty := .int) (by decide +kernel) dd_MO_flush_13 0 rfl rfl rfl (Nat.le_of_ble_eq_true rfl) (ws' := [(m, .inr (3, [.int (nI 0), .ref a1, .ref a2, .ref a3, .ref a4, .ref a5, .ref a6, .ref a7, .ref a8, .int fi, .int le])), (a1, .inl (ww_g X 0, 240, .inl pl)), (a2, .inl (ww_g X 1, 240, .inl wr)), (a3, .inl (ww_g X 1, 240, .inl pg)), (a4, .inl (ww_g X 0, 240, .inl pv)), (a5, .inl (ww_g X 0, 4, .inl sz)), (a6, .inl (ww_g X 0, 80, .inl ow)), (a7, .inl (ww_g X 0, 80, .inl vl)), (a8, .inl (ww_g X 0, 60, .inl bf))]) rfl ?_
    refine ww_aload_n O dd_MO_flush_16 0 rfl ?_
    refine ww_get O ci_MO rfl 0 (by decide) lf_MO_35 rfl dd_MO_flush_17 0 rfl rfl ?_
    refine ww_if_leN O dd_MO_flush_20 (tgt := 25) rfl (by omega) (fun h20 => ?_) (fun h20 => ?_)
    · refine ww_aload_n O dd_MO_flush_25 0 rfl ?_
      refine ww_iload_n O dd_MO_flush_26 1 rfl ?_
      refine ww_callV (q0 := 0) (ci := 3) O (cc_MO_pagesOf _ _ _ m a1 a2 a3 a4 a5 a6 a7 a8 (nI 0) fi le pl wr pg pv sz ow vl bf f (by omega)) lc_MO_76 lx_MO_pagesOf_I_I rfl rfl rfl (by rw [hR]; decide) (by rw [hR]; decide) (by rw [hR]; decide) rfl (Nat.le_of_ble_eq_true rfl) dd_MO_flush_27 rfl [0, 1, 2, 3, 4, 5, 6, 7, 8] [] [0, 1, 2, 3, 4, 5, 6, 7, 8] rfl (by decide) rfl (by decide) (by decide) (ws' := [(m, .inr (3, [.int (nI 0), .ref a1, .ref a2, .ref a3, .ref a4, .ref a5, .ref a6, .ref a7, .ref a8, .int fi, .int le])), (a1, .inl (ww_g X 0, 240, .inl pl)), (a2, .inl (ww_g X 1, 240, .inl wr)), (a3, .inl (ww_g X 1, 240, .inl pg)), (a4, .inl (ww_g X 0, 240, .inl pv)), (a5, .inl (ww_g X 0, 4, .inl sz)), (a6, .inl (ww_g X 0, 80, .inl ow)), (a7, .inl (ww_g X 0, 80, .inl vl)), (a8, .inl (ww_g X 0, 60, .inl bf))]) rfl rfl (by decide) ?_
      refine ww_istore_n O dd_MO_flush_30 (by rw [hn]; decide) rfl (L' := [(0, .ref m), (1, .int (nI f)), (2, .int (nI (px_pp pg (60 * f))))]) rfl ?_
      refine ww_aload_n O dd_MO_flush_31 0 rfl ?_
      refine ww_bipush O dd_MO_flush_32 (v := nI 60) rfl ?_
      refine ww_iload_n O dd_MO_flush_34 1 rfl ?_
      refine ww_imul O dd_MO_flush_35 (v := nI (60 * f)) (pk_mul _ _) ?_
      refine ww_bipush O dd_MO_flush_36 (v := nI 60) rfl ?_
      refine ww_iload_n O dd_MO_flush_38 1 rfl ?_
      refine ww_imul O dd_MO_flush_39 (v := nI (60 * f)) (pk_mul _ _) ?_
      refine ww_bipush O dd_MO_flush_40 (v := nI 60) rfl ?_
      refine ww_iadd O dd_MO_flush_42 (v := nI ((60 * f) + 60)) (nI_add _ _) ?_
      refine ww_iconst O dd_MO_flush_43 (v := nI 0) rfl ?_
      refine ww_eqs (st' := [.int (px_b false), .int (nI (60 * f + 60)), .int (nI (60 * f)), .ref m]) rfl ?_
      refine ww_callV (q0 := 0) (ci := 3) O (cc_MO_mapHoles _ _ _ m a1 a2 a3 a4 a5 a6 a7 a8 (nI 0) fi le pl wr pg pv sz ow vl bf (60 * f) ((60 * f) + 60) false f hI (fun j g1 g2 g3 => hw j (by omega) g3) (by omega) (by omega) (by omega) (by omega) (by rw [show 60 * f + 60 - 60 * f = 60 by omega]; exact hnu)) lc_MO_92 lx_MO_mapHoles_IIZ_V rfl rfl rfl (by rw [hR]; decide) (by rw [hR]; decide) (by rw [hR]; decide) rfl (Nat.le_of_ble_eq_true rfl) dd_MO_flush_44 rfl [0, 1, 2, 3, 4, 5, 6, 7, 8] [] [0, 1, 2, 3, 4, 5, 6, 7, 8] rfl (by decide) rfl (by decide) (by decide) (ws' := [(m, .inr (3, [.int (nI 0), .ref a1, .ref a2, .ref a3, .ref a4, .ref a5, .ref a6, .ref a7, .ref a8, .int fi, .int le])), (a1, .inl (ww_g X 0, 240, .inl ((px_mh 0 (60 * f) (fun j => px_on pg j || false) 60 (60 * f) ((60 * f) + 60) pl ow).1))), (a2, .inl (ww_g X 1, 240, .inl wr)), (a3, .inl (ww_g X 1, 240, .inl pg)), (a4, .inl (ww_g X 0, 240, .inl pv)), (a5, .inl (ww_g X 0, 4, .inl sz)), (a6, .inl (ww_g X 0, 80, .inl ((px_mh 0 (60 * f) (fun j => px_on pg j || false) 60 (60 * f) ((60 * f) + 60) pl ow).2))), (a7, .inl (ww_g X 0, 80, .inl vl)), (a8, .inl (ww_g X 0, 60, .inl bf))]) rfl rfl (by decide) ?_
      rw [hT]
      refine ww_bipush O dd_MO_flush_47 (v := nI 60) rfl ?_
      refine ww_iload_n O dd_MO_flush_49 1 rfl ?_
      refine ww_imul O dd_MO_flush_50 (v := nI (60 * f)) (pk_mul _ _) ?_
      refine ww_istore_n O dd_MO_flush_51 (by rw [hn]; decide) rfl (L' := [(0, .ref m), (1, .int (nI f)), (2, .int (nI (px_pp pg (60 * f)))), (3, .int (nI (60 * f)))]) rfl ?_
      exact h0
    · exfalso; omega
  · exact absurd h5 (by decide)
set_option maxRecDepth 4000 in
theorem cc_MO_pre_bad1 (l : Launch) (D : va_G) (g : Nat → ClassId) (m : Nat) (a1 : Nat) (a2 : Nat) (a3 : Nat) (a4 : Nat) (a5 : Nat) (a6 : Nat) (a7 : Nat) (a8 : Nat) (cd : Int32) (fi : Int32) (le : Int32) (pl : Nat → Int32) (wr : Nat → Int32) (pg : Nat → Int32) (pv : Nat → Int32) (sz : Nat → Int32) (ow : Nat → Int32) (vl : Nat → Int32) (bf : Nat → Int32) (x : Int32) (y : Int32) (z : Int32) (hbad : px_nf x 3 = true ∨ px_nf y 59 = true) : ww_ct l D g yy_MO_preallocate bb_MO_preallocate 7 (some .int) (ww_rm 5) [.ref m, .int x, .int y, .int z] [(m, .inr (3, [.int cd, .ref a1, .ref a2, .ref a3, .ref a4, .ref a5, .ref a6, .ref a7, .ref a8, .int fi, .int le])), (a1, .inl (g 0, 240, .inl pl)), (a2, .inl (g 1, 240, .inl wr)), (a3, .inl (g 1, 240, .inl pg)), (a4, .inl (g 0, 240, .inl pv)), (a5, .inl (g 0, 4, .inl sz)), (a6, .inl (g 0, 80, .inl ow)), (a7, .inl (g 0, 80, .inl vl)), (a8, .inl (g 0, 60, .inl bf))] (some (.int (nI 0))) [(m, .inr (3, [.int (nI 1), .ref a1, .ref a2, .ref a3, .ref a4, .ref a5, .ref a6, .ref a7, .ref a8, .int fi, .int le])), (a1, .inl (g 0, 240, .inl pl)), (a2, .inl (g 1, 240, .inl wr)), (a3, .inl (g 1, 240, .inl pg)), (a4, .inl (g 0, 240, .inl pv)), (a5, .inl (g 0, 4, .inl sz)), (a6, .inl (g 0, 80, .inl ow)), (a7, .inl (g 0, 80, .inl vl)), (a8, .inl (g 0, 60, .inl bf))] := by
  refine ww_start (by decide +kernel) rfl rfl (Nat.le_of_ble_eq_true rfl) (L0 := [(0, .ref m), (1, .int x), (2, .int y), (3, .int z)]) rfl ?_
  intro X O hl hD hg hR hn F
  subst hl hD hg
  refine ww_aload_n O dd_MO_preallocate_0 0 rfl ?_
  refine ww_iload_n O dd_MO_preallocate_1 1 rfl ?_
  refine ww_callS O (cc_MO_noFile _ _ _ x ) lc_MO_79 ls_MO_noFile_I_Z (by rw [hR]; decide) (by rw [hR]; decide) (by rw [hR]; decide) rfl (Nat.le_of_ble_eq_true rfl) dd_MO_preallocate_2 rfl [] [0, 1, 2, 3, 4, 5, 6, 7, 8] [0, 1, 2, 3, 4, 5, 6, 7, 8] rfl (by decide) rfl (by decide) (by decide) (ws' := [(m, .inr (3, [.int cd, .ref a1, .ref a2, .ref a3, .ref a4, .ref a5, .ref a6, .ref a7, .ref a8, .int fi, .int le])), (a1, .inl (ww_g X 0, 240, .inl pl)), (a2, .inl (ww_g X 1, 240, .inl wr)), (a3, .inl (ww_g X 1, 240, .inl pg)), (a4, .inl (ww_g X 0, 240, .inl pv)), (a5, .inl (ww_g X 0, 4, .inl sz)), (a6, .inl (ww_g X 0, 80, .inl ow)), (a7, .inl (ww_g X 0, 80, .inl vl)), (a8, .inl (ww_g X 0, 60, .inl bf))]) rfl rfl (by decide) ?_
  refine ww_if_neB O dd_MO_preallocate_5 (tgt := 15) rfl (fun h5 => ?_) (fun h5 => ?_)
  · refine ww_iconst O dd_MO_preallocate_15 (v := nI 1) rfl ?_
    refine ww_goto O dd_MO_preallocate_16 (tgt := 37) rfl ?_
    refine ww_put O ci_MO cy_MO cy_MO_ok cn_MO rfl 0 (by decide) lf_MO_35 rfl rfl (ty := .int) (by decide +kernel) dd_MO_preallocate_37 0 rfl rfl rfl (Nat.le_of_ble_eq_true rfl) (ws' := [(m, .inr (3, [.int (nI 1), .ref a1, .ref a2, .ref a3, .ref a4, .ref a5, .ref a6, .ref a7, .ref a8, .int fi, .int le])), (a1, .inl (ww_g X 0, 240, .inl pl)), (a2, .inl (ww_g X 1, 240, .inl wr)), (a3, .inl (ww_g X 1, 240, .inl pg)), (a4, .inl (ww_g X 0, 240, .inl pv)), (a5, .inl (ww_g X 0, 4, .inl sz)), (a6, .inl (ww_g X 0, 80, .inl ow)), (a7, .inl (ww_g X 0, 80, .inl vl)), (a8, .inl (ww_g X 0, 60, .inl bf))]) rfl ?_
    refine ww_aload_n O dd_MO_preallocate_40 0 rfl ?_
    refine ww_get O ci_MO rfl 0 (by decide) lf_MO_35 rfl dd_MO_preallocate_41 0 rfl rfl ?_
    refine ww_if_leN O dd_MO_preallocate_44 (tgt := 49) rfl (by omega) (fun h44 => ?_) (fun h44 => ?_)
    · exfalso; omega
    · refine ww_iconst O dd_MO_preallocate_47 (v := nI 0) rfl ?_
      exact F.i dd_MO_preallocate_48
  · refine ww_iload_n O dd_MO_preallocate_8 2 rfl ?_
    refine ww_callS O (cc_MO_noBlock _ _ _ y ) lc_MO_82 ls_MO_noBlock_I_Z (by rw [hR]; decide) (by rw [hR]; decide) (by rw [hR]; decide) rfl (Nat.le_of_ble_eq_true rfl) dd_MO_preallocate_9 rfl [] [0, 1, 2, 3, 4, 5, 6, 7, 8] [0, 1, 2, 3, 4, 5, 6, 7, 8] rfl (by decide) rfl (by decide) (by decide) (ws' := [(m, .inr (3, [.int cd, .ref a1, .ref a2, .ref a3, .ref a4, .ref a5, .ref a6, .ref a7, .ref a8, .int fi, .int le])), (a1, .inl (ww_g X 0, 240, .inl pl)), (a2, .inl (ww_g X 1, 240, .inl wr)), (a3, .inl (ww_g X 1, 240, .inl pg)), (a4, .inl (ww_g X 0, 240, .inl pv)), (a5, .inl (ww_g X 0, 4, .inl sz)), (a6, .inl (ww_g X 0, 80, .inl ow)), (a7, .inl (ww_g X 0, 80, .inl vl)), (a8, .inl (ww_g X 0, 60, .inl bf))]) rfl rfl (by decide) ?_
    refine ww_if_eqB O dd_MO_preallocate_12 (tgt := 19) rfl (fun h12 => ?_) (fun h12 => ?_)
    · exact absurd (hbad.elim (fun q => by rw [q] at h5; exact absurd h5 (by decide)) (fun q => by rw [q] at h12; exact absurd h12 (by decide))) id
    · refine ww_iconst O dd_MO_preallocate_15 (v := nI 1) rfl ?_
      refine ww_goto O dd_MO_preallocate_16 (tgt := 37) rfl ?_
      refine ww_put O ci_MO cy_MO cy_MO_ok cn_MO rfl 0 (by decide) lf_MO_35 rfl rfl (ty := .int) (by decide +kernel) dd_MO_preallocate_37 0 rfl rfl rfl (Nat.le_of_ble_eq_true rfl) (ws' := [(m, .inr (3, [.int (nI 1), .ref a1, .ref a2, .ref a3, .ref a4, .ref a5, .ref a6, .ref a7, .ref a8, .int fi, .int le])), (a1, .inl (ww_g X 0, 240, .inl pl)), (a2, .inl (ww_g X 1, 240, .inl wr)), (a3, .inl (ww_g X 1, 240, .inl pg)), (a4, .inl (ww_g X 0, 240, .inl pv)), (a5, .inl (ww_g X 0, 4, .inl sz)), (a6, .inl (ww_g X 0, 80, .inl ow)), (a7, .inl (ww_g X 0, 80, .inl vl)), (a8, .inl (ww_g X 0, 60, .inl bf))]) rfl ?_
      refine ww_aload_n O dd_MO_preallocate_40 0 rfl ?_
      refine ww_get O ci_MO rfl 0 (by decide) lf_MO_35 rfl dd_MO_preallocate_41 0 rfl rfl ?_
      refine ww_if_leN O dd_MO_preallocate_44 (tgt := 49) rfl (by omega) (fun h44 => ?_) (fun h44 => ?_)
      · exfalso; omega
      · refine ww_iconst O dd_MO_preallocate_47 (v := nI 0) rfl ?_
        exact F.i dd_MO_preallocate_48
set_option maxRecDepth 4000 in
theorem cc_MO_pre_bad2 (l : Launch) (D : va_G) (g : Nat → ClassId) (m : Nat) (a1 : Nat) (a2 : Nat) (a3 : Nat) (a4 : Nat) (a5 : Nat) (a6 : Nat) (a7 : Nat) (a8 : Nat) (cd : Int32) (fi : Int32) (le : Int32) (pl : Nat → Int32) (wr : Nat → Int32) (pg : Nat → Int32) (pv : Nat → Int32) (sz : Nat → Int32) (ow : Nat → Int32) (vl : Nat → Int32) (bf : Nat → Int32) (f : Nat) (b : Nat) (x : Int32) (hf : f < 4) (hb : b < 60) (hbad : x < nI 1 ∨ ¬ x ≤ nI (60 - b)) : ww_ct l D g yy_MO_preallocate bb_MO_preallocate 7 (some .int) (ww_rm 5) [.ref m, .int (nI f), .int (nI b), .int x] [(m, .inr (3, [.int cd, .ref a1, .ref a2, .ref a3, .ref a4, .ref a5, .ref a6, .ref a7, .ref a8, .int fi, .int le])), (a1, .inl (g 0, 240, .inl pl)), (a2, .inl (g 1, 240, .inl wr)), (a3, .inl (g 1, 240, .inl pg)), (a4, .inl (g 0, 240, .inl pv)), (a5, .inl (g 0, 4, .inl sz)), (a6, .inl (g 0, 80, .inl ow)), (a7, .inl (g 0, 80, .inl vl)), (a8, .inl (g 0, 60, .inl bf))] (some (.int (nI 0))) [(m, .inr (3, [.int (nI 2), .ref a1, .ref a2, .ref a3, .ref a4, .ref a5, .ref a6, .ref a7, .ref a8, .int fi, .int le])), (a1, .inl (g 0, 240, .inl pl)), (a2, .inl (g 1, 240, .inl wr)), (a3, .inl (g 1, 240, .inl pg)), (a4, .inl (g 0, 240, .inl pv)), (a5, .inl (g 0, 4, .inl sz)), (a6, .inl (g 0, 80, .inl ow)), (a7, .inl (g 0, 80, .inl vl)), (a8, .inl (g 0, 60, .inl bf))] := by
  refine ww_start (by decide +kernel) rfl rfl (Nat.le_of_ble_eq_true rfl) (L0 := [(0, .ref m), (1, .int (nI f)), (2, .int (nI b)), (3, .int x)]) rfl ?_
  intro X O hl hD hg hR hn F
  subst hl hD hg
  refine ww_aload_n O dd_MO_preallocate_0 0 rfl ?_
  refine ww_iload_n O dd_MO_preallocate_1 1 rfl ?_
  refine ww_callS O (cc_MO_noFile _ _ _ (nI f) ) lc_MO_79 ls_MO_noFile_I_Z (by rw [hR]; decide) (by rw [hR]; decide) (by rw [hR]; decide) rfl (Nat.le_of_ble_eq_true rfl) dd_MO_preallocate_2 rfl [] [0, 1, 2, 3, 4, 5, 6, 7, 8] [0, 1, 2, 3, 4, 5, 6, 7, 8] rfl (by decide) rfl (by decide) (by decide) (ws' := [(m, .inr (3, [.int cd, .ref a1, .ref a2, .ref a3, .ref a4, .ref a5, .ref a6, .ref a7, .ref a8, .int fi, .int le])), (a1, .inl (ww_g X 0, 240, .inl pl)), (a2, .inl (ww_g X 1, 240, .inl wr)), (a3, .inl (ww_g X 1, 240, .inl pg)), (a4, .inl (ww_g X 0, 240, .inl pv)), (a5, .inl (ww_g X 0, 4, .inl sz)), (a6, .inl (ww_g X 0, 80, .inl ow)), (a7, .inl (ww_g X 0, 80, .inl vl)), (a8, .inl (ww_g X 0, 60, .inl bf))]) rfl rfl (by decide) ?_
  rw [px_nf_nI (k := 3) (by omega) (by decide)]
  refine ww_if_neB O dd_MO_preallocate_5 (tgt := 15) rfl (fun h5 => ?_) (fun h5 => ?_)
  · exact absurd h5 (by decide)
  · refine ww_iload_n O dd_MO_preallocate_8 2 rfl ?_
    refine ww_callS O (cc_MO_noBlock _ _ _ (nI b) ) lc_MO_82 ls_MO_noBlock_I_Z (by rw [hR]; decide) (by rw [hR]; decide) (by rw [hR]; decide) rfl (Nat.le_of_ble_eq_true rfl) dd_MO_preallocate_9 rfl [] [0, 1, 2, 3, 4, 5, 6, 7, 8] [0, 1, 2, 3, 4, 5, 6, 7, 8] rfl (by decide) rfl (by decide) (by decide) (ws' := [(m, .inr (3, [.int cd, .ref a1, .ref a2, .ref a3, .ref a4, .ref a5, .ref a6, .ref a7, .ref a8, .int fi, .int le])), (a1, .inl (ww_g X 0, 240, .inl pl)), (a2, .inl (ww_g X 1, 240, .inl wr)), (a3, .inl (ww_g X 1, 240, .inl pg)), (a4, .inl (ww_g X 0, 240, .inl pv)), (a5, .inl (ww_g X 0, 4, .inl sz)), (a6, .inl (ww_g X 0, 80, .inl ow)), (a7, .inl (ww_g X 0, 80, .inl vl)), (a8, .inl (ww_g X 0, 60, .inl bf))]) rfl rfl (by decide) ?_
    rw [px_nf_nI (k := 59) (by omega) (by decide)]
    refine ww_if_eqB O dd_MO_preallocate_12 (tgt := 19) rfl (fun h12 => ?_) (fun h12 => ?_)
    · refine ww_iload_n O dd_MO_preallocate_19 3 rfl ?_
      refine ww_iconst O dd_MO_preallocate_20 (v := nI 1) rfl ?_
      refine ww_icmp_lt O dd_MO_preallocate_21 (tgt := 32) rfl (fun h21 => ?_) (fun h21 => ?_)
      · refine ww_iconst O dd_MO_preallocate_32 (v := nI 2) rfl ?_
        refine ww_goto O dd_MO_preallocate_33 (tgt := 37) rfl ?_
        refine ww_put O ci_MO cy_MO cy_MO_ok cn_MO rfl 0 (by decide) lf_MO_35 rfl rfl (ty := .int) (by decide +kernel) dd_MO_preallocate_37 0 rfl rfl rfl (Nat.le_of_ble_eq_true rfl) (ws' := [(m, .inr (3, [.int (nI 2), .ref a1, .ref a2, .ref a3, .ref a4, .ref a5, .ref a6, .ref a7, .ref a8, .int fi, .int le])), (a1, .inl (ww_g X 0, 240, .inl pl)), (a2, .inl (ww_g X 1, 240, .inl wr)), (a3, .inl (ww_g X 1, 240, .inl pg)), (a4, .inl (ww_g X 0, 240, .inl pv)), (a5, .inl (ww_g X 0, 4, .inl sz)), (a6, .inl (ww_g X 0, 80, .inl ow)), (a7, .inl (ww_g X 0, 80, .inl vl)), (a8, .inl (ww_g X 0, 60, .inl bf))]) rfl ?_
        refine ww_aload_n O dd_MO_preallocate_40 0 rfl ?_
        refine ww_get O ci_MO rfl 0 (by decide) lf_MO_35 rfl dd_MO_preallocate_41 0 rfl rfl ?_
        refine ww_if_leN O dd_MO_preallocate_44 (tgt := 49) rfl (by omega) (fun h44 => ?_) (fun h44 => ?_)
        · exfalso; omega
        · refine ww_iconst O dd_MO_preallocate_47 (v := nI 0) rfl ?_
          exact F.i dd_MO_preallocate_48
      · refine ww_iload_n O dd_MO_preallocate_24 3 rfl ?_
        refine ww_bipush O dd_MO_preallocate_25 (v := nI 60) rfl ?_
        refine ww_iload_n O dd_MO_preallocate_27 2 rfl ?_
        refine ww_isub O dd_MO_preallocate_28 (v := nI (60 - b)) (pk_sub (by omega)) ?_
        refine ww_icmp_le O dd_MO_preallocate_29 (tgt := 36) rfl (fun h29 => ?_) (fun h29 => ?_)
        · exact absurd h29 (hbad.elim (fun q => absurd q h21) id)
        · refine ww_iconst O dd_MO_preallocate_32 (v := nI 2) rfl ?_
          refine ww_goto O dd_MO_preallocate_33 (tgt := 37) rfl ?_
          refine ww_put O ci_MO cy_MO cy_MO_ok cn_MO rfl 0 (by decide) lf_MO_35 rfl rfl (ty := .int) (by decide +kernel) dd_MO_preallocate_37 0 rfl rfl rfl (Nat.le_of_ble_eq_true rfl) (ws' := [(m, .inr (3, [.int (nI 2), .ref a1, .ref a2, .ref a3, .ref a4, .ref a5, .ref a6, .ref a7, .ref a8, .int fi, .int le])), (a1, .inl (ww_g X 0, 240, .inl pl)), (a2, .inl (ww_g X 1, 240, .inl wr)), (a3, .inl (ww_g X 1, 240, .inl pg)), (a4, .inl (ww_g X 0, 240, .inl pv)), (a5, .inl (ww_g X 0, 4, .inl sz)), (a6, .inl (ww_g X 0, 80, .inl ow)), (a7, .inl (ww_g X 0, 80, .inl vl)), (a8, .inl (ww_g X 0, 60, .inl bf))]) rfl ?_
          refine ww_aload_n O dd_MO_preallocate_40 0 rfl ?_
          refine ww_get O ci_MO rfl 0 (by decide) lf_MO_35 rfl dd_MO_preallocate_41 0 rfl rfl ?_
          refine ww_if_leN O dd_MO_preallocate_44 (tgt := 49) rfl (by omega) (fun h44 => ?_) (fun h44 => ?_)
          · exfalso; omega
          · refine ww_iconst O dd_MO_preallocate_47 (v := nI 0) rfl ?_
            exact F.i dd_MO_preallocate_48
    · exact absurd h12 (by decide)
set_option maxRecDepth 4000 in
theorem cc_MO_pre_few (l : Launch) (D : va_G) (g : Nat → ClassId) (m : Nat) (a1 : Nat) (a2 : Nat) (a3 : Nat) (a4 : Nat) (a5 : Nat) (a6 : Nat) (a7 : Nat) (a8 : Nat) (cd : Int32) (fi : Int32) (le : Int32) (pl : Nat → Int32) (wr : Nat → Int32) (pg : Nat → Int32) (pv : Nat → Int32) (sz : Nat → Int32) (ow : Nat → Int32) (vl : Nat → Int32) (bf : Nat → Int32) (f : Nat) (b : Nat) (n : Nat) (hI : px_I1 pl ow) (hw : ∀ j, j < 240 → px_hole pl j = true → wr j = nI 0) (hf : f < 4) (hb : b < 60) (hn1 : 0 < n) (hn : n ≤ 60 - b) (hfew : px_nu ow < px_cnt (px_hole pl) (60 * f + b) n) : ww_ct l D g yy_MO_preallocate bb_MO_preallocate 7 (some .int) (ww_rm 5) [.ref m, .int (nI f), .int (nI b), .int (nI n)] [(m, .inr (3, [.int cd, .ref a1, .ref a2, .ref a3, .ref a4, .ref a5, .ref a6, .ref a7, .ref a8, .int fi, .int le])), (a1, .inl (g 0, 240, .inl pl)), (a2, .inl (g 1, 240, .inl wr)), (a3, .inl (g 1, 240, .inl pg)), (a4, .inl (g 0, 240, .inl pv)), (a5, .inl (g 0, 4, .inl sz)), (a6, .inl (g 0, 80, .inl ow)), (a7, .inl (g 0, 80, .inl vl)), (a8, .inl (g 0, 60, .inl bf))] (some (.int (nI 0))) [(m, .inr (3, [.int (nI 3), .ref a1, .ref a2, .ref a3, .ref a4, .ref a5, .ref a6, .ref a7, .ref a8, .int fi, .int le])), (a1, .inl (g 0, 240, .inl pl)), (a2, .inl (g 1, 240, .inl wr)), (a3, .inl (g 1, 240, .inl pg)), (a4, .inl (g 0, 240, .inl pv)), (a5, .inl (g 0, 4, .inl sz)), (a6, .inl (g 0, 80, .inl ow)), (a7, .inl (g 0, 80, .inl vl)), (a8, .inl (g 0, 60, .inl (px_bcp pl (60 * f) bf 60)))] := by
  refine ww_start (by decide +kernel) rfl rfl (Nat.le_of_ble_eq_true rfl) (L0 := [(0, .ref m), (1, .int (nI f)), (2, .int (nI b)), (3, .int (nI n))]) rfl ?_
  intro X O hl hD hg hR hn F
  subst hl hD hg
  have hnb := px_cnt_le (px_hole pl) (60 * f + b) n
  obtain ⟨htk, htn⟩ := px_tk ow
  have loop3 : ∀ (k i y : Nat), 80 ≤ i + k → i ≤ 80 → y = px_cnt (fun p => !(ow p == -1)) 0 i → ww_at X 0 0 141 [(0, .ref m), (1, .int (nI f)), (2, .int (nI b)), (3, .int (nI n)), (4, .int (nI (px_cnt (px_hole pl) (60 * f + b) n))), (5, .int (nI y)), (6, .int (nI i))] [] [(m, .inr (3, [.int (nI 0), .ref a1, .ref a2, .ref a3, .ref a4, .ref a5, .ref a6, .ref a7, .ref a8, .int fi, .int le])), (a1, .inl (ww_g X 0, 240, .inl pl)), (a2, .inl (ww_g X 1, 240, .inl wr)), (a3, .inl (ww_g X 1, 240, .inl pg)), (a4, .inl (ww_g X 0, 240, .inl pv)), (a5, .inl (ww_g X 0, 4, .inl sz)), (a6, .inl (ww_g X 0, 80, .inl ow)), (a7, .inl (ww_g X 0, 80, .inl vl)), (a8, .inl (ww_g X 0, 60, .inl (px_bcp pl (60 * f) bf 60)))] := by
    intro k
    induction k with
    | zero =>
      intro i y h1 h2 h3
      have hy9 := px_cnt_le (fun p => !(ow p == -1)) 0 i
      refine ww_iload O dd_MO_preallocate_141 6 rfl ?_
      refine ww_bipush O dd_MO_preallocate_143 (v := nI 80) rfl ?_
      refine ww_icmp_geN O dd_MO_preallocate_145 (tgt := 175) rfl (by omega) (by omega) (fun h145 => ?_) (fun h145 => ?_)
      · have ey : y = 80 - px_nu ow := by rw [h3, show i = 80 by omega]; exact htk
        refine ww_iload O dd_MO_preallocate_175 4 rfl ?_
        refine ww_bipush O dd_MO_preallocate_177 (v := nI 80) rfl ?_
        refine ww_iload O dd_MO_preallocate_179 5 rfl ?_
        refine ww_isub O dd_MO_preallocate_181 (v := nI (80 - y)) (pk_sub (by omega)) ?_
        refine ww_icmp_leN O dd_MO_preallocate_182 (tgt := 192) rfl (by omega) (by omega) (fun h182 => ?_) (fun h182 => ?_)
        · exfalso; omega
        · refine ww_aload_n O dd_MO_preallocate_185 0 rfl ?_
          refine ww_iconst O dd_MO_preallocate_186 (v := nI 3) rfl ?_
          refine ww_put O ci_MO cy_MO cy_MO_ok cn_MO rfl 0 (by decide) lf_MO_35 rfl rfl (ty := .int) (by decide +kernel) dd_MO_preallocate_187 0 rfl rfl rfl (Nat.le_of_ble_eq_true rfl) (ws' := [(m, .inr (3, [.int (nI 3), .ref a1, .ref a2, .ref a3, .ref a4, .ref a5, .ref a6, .ref a7, .ref a8, .int fi, .int le])), (a1, .inl (ww_g X 0, 240, .inl pl)), (a2, .inl (ww_g X 1, 240, .inl wr)), (a3, .inl (ww_g X 1, 240, .inl pg)), (a4, .inl (ww_g X 0, 240, .inl pv)), (a5, .inl (ww_g X 0, 4, .inl sz)), (a6, .inl (ww_g X 0, 80, .inl ow)), (a7, .inl (ww_g X 0, 80, .inl vl)), (a8, .inl (ww_g X 0, 60, .inl (px_bcp pl (60 * f) bf 60)))]) rfl ?_
          refine ww_iconst O dd_MO_preallocate_190 (v := nI 0) rfl ?_
          exact F.i dd_MO_preallocate_191
      · exfalso; omega
    | succ k ih =>
      intro i y h1 h2 h3
      have hy9 := px_cnt_le (fun p => !(ow p == -1)) 0 i
      refine ww_iload O dd_MO_preallocate_141 6 rfl ?_
      refine ww_bipush O dd_MO_preallocate_143 (v := nI 80) rfl ?_
      refine ww_icmp_geN O dd_MO_preallocate_145 (tgt := 175) rfl (by omega) (by omega) (fun h145 => ?_) (fun h145 => ?_)
      · have ey : y = 80 - px_nu ow := by rw [h3, show i = 80 by omega]; exact htk
        refine ww_iload O dd_MO_preallocate_175 4 rfl ?_
        refine ww_bipush O dd_MO_preallocate_177 (v := nI 80) rfl ?_
        refine ww_iload O dd_MO_preallocate_179 5 rfl ?_
        refine ww_isub O dd_MO_preallocate_181 (v := nI (80 - y)) (pk_sub (by omega)) ?_
        refine ww_icmp_leN O dd_MO_preallocate_182 (tgt := 192) rfl (by omega) (by omega) (fun h182 => ?_) (fun h182 => ?_)
        · exfalso; omega
        · refine ww_aload_n O dd_MO_preallocate_185 0 rfl ?_
          refine ww_iconst O dd_MO_preallocate_186 (v := nI 3) rfl ?_
          refine ww_put O ci_MO cy_MO cy_MO_ok cn_MO rfl 0 (by decide) lf_MO_35 rfl rfl (ty := .int) (by decide +kernel) dd_MO_preallocate_187 0 rfl rfl rfl (Nat.le_of_ble_eq_true rfl) (ws' := [(m, .inr (3, [.int (nI 3), .ref a1, .ref a2, .ref a3, .ref a4, .ref a5, .ref a6, .ref a7, .ref a8, .int fi, .int le])), (a1, .inl (ww_g X 0, 240, .inl pl)), (a2, .inl (ww_g X 1, 240, .inl wr)), (a3, .inl (ww_g X 1, 240, .inl pg)), (a4, .inl (ww_g X 0, 240, .inl pv)), (a5, .inl (ww_g X 0, 4, .inl sz)), (a6, .inl (ww_g X 0, 80, .inl ow)), (a7, .inl (ww_g X 0, 80, .inl vl)), (a8, .inl (ww_g X 0, 60, .inl (px_bcp pl (60 * f) bf 60)))]) rfl ?_
          refine ww_iconst O dd_MO_preallocate_190 (v := nI 0) rfl ?_
          exact F.i dd_MO_preallocate_191
      · refine ww_aload_n O dd_MO_preallocate_148 0 rfl ?_
        refine ww_get O ci_MO rfl 6 (by decide) lf_MO_26 rfl dd_MO_preallocate_149 0 rfl rfl ?_
        refine ww_iload O dd_MO_preallocate_152 6 rfl ?_
        refine ww_iald O dd_MO_preallocate_154 6 rfl (by omega) (by decide) rfl ?_
        refine ww_if_lt O dd_MO_preallocate_155 (tgt := 165) rfl (fun h155 => ?_) (fun h155 => ?_)
        · refine ww_iload O dd_MO_preallocate_165 5 rfl ?_
          refine ww_istore O dd_MO_preallocate_167 (by rw [hn]; decide) rfl (L' := [(0, .ref m), (1, .int (nI f)), (2, .int (nI b)), (3, .int (nI n)), (4, .int (nI (px_cnt (px_hole pl) (60 * f + b) n))), (5, .int (nI y)), (6, .int (nI i))]) rfl ?_
          refine ww_iinc O dd_MO_preallocate_169 6 rfl (v := nI (i + 1)) (nI_add _ 1) (by rw [hn]; decide) rfl (L' := [(0, .ref m), (1, .int (nI f)), (2, .int (nI b)), (3, .int (nI n)), (4, .int (nI (px_cnt (px_hole pl) (60 * f + b) n))), (5, .int (nI y)), (6, .int (nI (i + 1)))]) rfl ?_
          refine ww_goto O dd_MO_preallocate_172 (tgt := 141) rfl ?_
          exact ih (i + 1) y (by omega) (by omega) (px_c0f h3 (by have q := (hI.rq i (by omega)).lt (Int32.not_le.mpr h155); simp [q]))
        · refine ww_iload O dd_MO_preallocate_158 5 rfl ?_
          refine ww_iconst O dd_MO_preallocate_160 (v := nI 1) rfl ?_
          refine ww_iadd O dd_MO_preallocate_161 (v := nI (y + 1)) (nI_add _ _) ?_
          refine ww_goto O dd_MO_preallocate_162 (tgt := 167) rfl ?_
          refine ww_istore O dd_MO_preallocate_167 (by rw [hn]; decide) rfl (L' := [(0, .ref m), (1, .int (nI f)), (2, .int (nI b)), (3, .int (nI n)), (4, .int (nI (px_cnt (px_hole pl) (60 * f + b) n))), (5, .int (nI (y + 1))), (6, .int (nI i))]) rfl ?_
          refine ww_iinc O dd_MO_preallocate_169 6 rfl (v := nI (i + 1)) (nI_add _ 1) (by rw [hn]; decide) rfl (L' := [(0, .ref m), (1, .int (nI f)), (2, .int (nI b)), (3, .int (nI n)), (4, .int (nI (px_cnt (px_hole pl) (60 * f + b) n))), (5, .int (nI (y + 1))), (6, .int (nI (i + 1)))]) rfl ?_
          refine ww_goto O dd_MO_preallocate_172 (tgt := 141) rfl ?_
          exact ih (i + 1) (y + 1) (by omega) (by omega) (px_c0t h3 (by have q := (hI.rq i (by omega)).ge (Int32.not_lt.mp h155); simp [q]))
  have loop2 : ∀ (k i x : Nat), 60 * f + b + n ≤ i + k → 60 * f + b ≤ i → i ≤ 60 * f + b + n → x = px_cnt (px_hole pl) (60 * f + b) (i - (60 * f + b)) → ww_at X 0 0 98 [(0, .ref m), (1, .int (nI f)), (2, .int (nI b)), (3, .int (nI n)), (4, .int (nI x)), (5, .int (nI 0)), (6, .int (nI i))] [] [(m, .inr (3, [.int (nI 0), .ref a1, .ref a2, .ref a3, .ref a4, .ref a5, .ref a6, .ref a7, .ref a8, .int fi, .int le])), (a1, .inl (ww_g X 0, 240, .inl pl)), (a2, .inl (ww_g X 1, 240, .inl wr)), (a3, .inl (ww_g X 1, 240, .inl pg)), (a4, .inl (ww_g X 0, 240, .inl pv)), (a5, .inl (ww_g X 0, 4, .inl sz)), (a6, .inl (ww_g X 0, 80, .inl ow)), (a7, .inl (ww_g X 0, 80, .inl vl)), (a8, .inl (ww_g X 0, 60, .inl (px_bcp pl (60 * f) bf 60)))] := by
    intro k
    induction k with
    | zero =>
      intro i x h1 h2 h3 h4
      have hx9 := px_cnt_le (px_hole pl) (60 * f + b) (i - (60 * f + b))
      refine ww_iload O dd_MO_preallocate_98 6 rfl ?_
      refine ww_bipush O dd_MO_preallocate_100 (v := nI 60) rfl ?_
      refine ww_iload_n O dd_MO_preallocate_102 1 rfl ?_
      refine ww_imul O dd_MO_preallocate_103 (v := nI (60 * f)) (pk_mul _ _) ?_
      refine ww_iload_n O dd_MO_preallocate_104 2 rfl ?_
      refine ww_iadd O dd_MO_preallocate_105 (v := nI ((60 * f) + b)) (nI_add _ _) ?_
      refine ww_iload_n O dd_MO_preallocate_106 3 rfl ?_
      refine ww_iadd O dd_MO_preallocate_107 (v := nI (((60 * f) + b) + n)) (nI_add _ _) ?_
      refine ww_icmp_geN O dd_MO_preallocate_108 (tgt := 138) rfl (by omega) (by omega) (fun h108 => ?_) (fun h108 => ?_)
      · refine ww_iconst O dd_MO_preallocate_138 (v := nI 0) rfl ?_
        refine ww_istore O dd_MO_preallocate_139 (by rw [hn]; decide) rfl (L' := [(0, .ref m), (1, .int (nI f)), (2, .int (nI b)), (3, .int (nI n)), (4, .int (nI x)), (5, .int (nI 0)), (6, .int (nI 0))]) rfl ?_
        rw [show i - (60 * f + b) = n by omega] at h4
        subst h4
        exact loop3 80 0 0 (by omega) (by omega) rfl
      · exfalso; omega
    | succ k ih =>
      intro i x h1 h2 h3 h4
      have hx9 := px_cnt_le (px_hole pl) (60 * f + b) (i - (60 * f + b))
      refine ww_iload O dd_MO_preallocate_98 6 rfl ?_
      refine ww_bipush O dd_MO_preallocate_100 (v := nI 60) rfl ?_
      refine ww_iload_n O dd_MO_preallocate_102 1 rfl ?_
      refine ww_imul O dd_MO_preallocate_103 (v := nI (60 * f)) (pk_mul _ _) ?_
      refine ww_iload_n O dd_MO_preallocate_104 2 rfl ?_
      refine ww_iadd O dd_MO_preallocate_105 (v := nI ((60 * f) + b)) (nI_add _ _) ?_
      refine ww_iload_n O dd_MO_preallocate_106 3 rfl ?_
      refine ww_iadd O dd_MO_preallocate_107 (v := nI (((60 * f) + b) + n)) (nI_add _ _) ?_
      refine ww_icmp_geN O dd_MO_preallocate_108 (tgt := 138) rfl (by omega) (by omega) (fun h108 => ?_) (fun h108 => ?_)
      · refine ww_iconst O dd_MO_preallocate_138 (v := nI 0) rfl ?_
        refine ww_istore O dd_MO_preallocate_139 (by rw [hn]; decide) rfl (L' := [(0, .ref m), (1, .int (nI f)), (2, .int (nI b)), (3, .int (nI n)), (4, .int (nI x)), (5, .int (nI 0)), (6, .int (nI 0))]) rfl ?_
        rw [show i - (60 * f + b) = n by omega] at h4
        subst h4
        exact loop3 80 0 0 (by omega) (by omega) rfl
      · refine ww_aload_n O dd_MO_preallocate_111 0 rfl ?_
        refine ww_get O ci_MO rfl 1 (by decide) lf_MO_7 rfl dd_MO_preallocate_112 0 rfl rfl ?_
        refine ww_iload O dd_MO_preallocate_115 6 rfl ?_
        refine ww_iald O dd_MO_preallocate_117 1 rfl (by omega) (by decide) rfl ?_
        refine ww_if_ge O dd_MO_preallocate_118 (tgt := 128) rfl (fun h118 => ?_) (fun h118 => ?_)
        · refine ww_iload O dd_MO_preallocate_128 4 rfl ?_
          refine ww_istore O dd_MO_preallocate_130 (by rw [hn]; decide) rfl (L' := [(0, .ref m), (1, .int (nI f)), (2, .int (nI b)), (3, .int (nI n)), (4, .int (nI x)), (5, .int (nI 0)), (6, .int (nI i))]) rfl ?_
          refine ww_iinc O dd_MO_preallocate_132 6 rfl (v := nI (i + 1)) (nI_add _ 1) (by rw [hn]; decide) rfl (L' := [(0, .ref m), (1, .int (nI f)), (2, .int (nI b)), (3, .int (nI n)), (4, .int (nI x)), (5, .int (nI 0)), (6, .int (nI (i + 1)))]) rfl ?_
          refine ww_goto O dd_MO_preallocate_135 (tgt := 98) rfl ?_
          exact ih (i + 1) x (by omega) (by omega) (by omega) (px_caf h2 h4 (px_rg.ge0 (hI.rg i (by omega)) h118))
        · refine ww_iload O dd_MO_preallocate_121 4 rfl ?_
          refine ww_iconst O dd_MO_preallocate_123 (v := nI 1) rfl ?_
          refine ww_iadd O dd_MO_preallocate_124 (v := nI (x + 1)) (nI_add _ _) ?_
          refine ww_goto O dd_MO_preallocate_125 (tgt := 130) rfl ?_
          refine ww_istore O dd_MO_preallocate_130 (by rw [hn]; decide) rfl (L' := [(0, .ref m), (1, .int (nI f)), (2, .int (nI b)), (3, .int (nI n)), (4, .int (nI (x + 1))), (5, .int (nI 0)), (6, .int (nI i))]) rfl ?_
          refine ww_iinc O dd_MO_preallocate_132 6 rfl (v := nI (i + 1)) (nI_add _ 1) (by rw [hn]; decide) rfl (L' := [(0, .ref m), (1, .int (nI f)), (2, .int (nI b)), (3, .int (nI n)), (4, .int (nI (x + 1))), (5, .int (nI 0)), (6, .int (nI (i + 1)))]) rfl ?_
          refine ww_goto O dd_MO_preallocate_135 (tgt := 98) rfl ?_
          exact ih (i + 1) (x + 1) (by omega) (by omega) (by omega) (px_cat h2 h4 (px_rg.lt0 (hI.rg i (by omega)) h118))
  have loop1 : ∀ (k i : Nat), 60 ≤ i + k → i ≤ 60 → ww_at X 0 0 58 [(0, .ref m), (1, .int (nI f)), (2, .int (nI b)), (3, .int (nI n)), (4, .int (nI 0)), (5, .int (nI 0)), (6, .int (nI i))] [] [(m, .inr (3, [.int (nI 0), .ref a1, .ref a2, .ref a3, .ref a4, .ref a5, .ref a6, .ref a7, .ref a8, .int fi, .int le])), (a1, .inl (ww_g X 0, 240, .inl pl)), (a2, .inl (ww_g X 1, 240, .inl wr)), (a3, .inl (ww_g X 1, 240, .inl pg)), (a4, .inl (ww_g X 0, 240, .inl pv)), (a5, .inl (ww_g X 0, 4, .inl sz)), (a6, .inl (ww_g X 0, 80, .inl ow)), (a7, .inl (ww_g X 0, 80, .inl vl)), (a8, .inl (ww_g X 0, 60, .inl (px_bcp pl (60 * f) bf i)))] := by
    intro k
    induction k with
    | zero =>
      intro i h1 h2
      refine ww_iload O dd_MO_preallocate_58 6 rfl ?_
      refine ww_bipush O dd_MO_preallocate_60 (v := nI 60) rfl ?_
      refine ww_icmp_geN O dd_MO_preallocate_62 (tgt := 90) rfl (by omega) (by omega) (fun h62 => ?_) (fun h62 => ?_)
      · refine ww_bipush O dd_MO_preallocate_90 (v := nI 60) rfl ?_
        refine ww_iload_n O dd_MO_preallocate_92 1 rfl ?_
        refine ww_imul O dd_MO_preallocate_93 (v := nI (60 * f)) (pk_mul _ _) ?_
        refine ww_iload_n O dd_MO_preallocate_94 2 rfl ?_
        refine ww_iadd O dd_MO_preallocate_95 (v := nI ((60 * f) + b)) (nI_add _ _) ?_
        refine ww_istore O dd_MO_preallocate_96 (by rw [hn]; decide) rfl (L' := [(0, .ref m), (1, .int (nI f)), (2, .int (nI b)), (3, .int (nI n)), (4, .int (nI 0)), (5, .int (nI 0)), (6, .int (nI ((60 * f) + b)))]) rfl ?_
        have ei : i = 60 := by omega
        subst ei
        exact loop2 n (60 * f + b) 0 (by omega) (by omega) (by omega) (by rw [Nat.sub_self]; rfl)
      · exfalso; omega
    | succ k ih =>
      intro i h1 h2
      refine ww_iload O dd_MO_preallocate_58 6 rfl ?_
      refine ww_bipush O dd_MO_preallocate_60 (v := nI 60) rfl ?_
      refine ww_icmp_geN O dd_MO_preallocate_62 (tgt := 90) rfl (by omega) (by omega) (fun h62 => ?_) (fun h62 => ?_)
      · refine ww_bipush O dd_MO_preallocate_90 (v := nI 60) rfl ?_
        refine ww_iload_n O dd_MO_preallocate_92 1 rfl ?_
        refine ww_imul O dd_MO_preallocate_93 (v := nI (60 * f)) (pk_mul _ _) ?_
        refine ww_iload_n O dd_MO_preallocate_94 2 rfl ?_
        refine ww_iadd O dd_MO_preallocate_95 (v := nI ((60 * f) + b)) (nI_add _ _) ?_
        refine ww_istore O dd_MO_preallocate_96 (by rw [hn]; decide) rfl (L' := [(0, .ref m), (1, .int (nI f)), (2, .int (nI b)), (3, .int (nI n)), (4, .int (nI 0)), (5, .int (nI 0)), (6, .int (nI ((60 * f) + b)))]) rfl ?_
        have ei : i = 60 := by omega
        subst ei
        exact loop2 n (60 * f + b) 0 (by omega) (by omega) (by omega) (by rw [Nat.sub_self]; rfl)
      · refine ww_aload_n O dd_MO_preallocate_65 0 rfl ?_
        refine ww_get O ci_MO rfl 8 (by decide) lf_MO_32 rfl dd_MO_preallocate_66 0 rfl rfl ?_
        refine ww_iload O dd_MO_preallocate_69 6 rfl ?_
        refine ww_aload_n O dd_MO_preallocate_71 0 rfl ?_
        refine ww_get O ci_MO rfl 1 (by decide) lf_MO_7 rfl dd_MO_preallocate_72 0 rfl rfl ?_
        refine ww_bipush O dd_MO_preallocate_75 (v := nI 60) rfl ?_
        refine ww_iload_n O dd_MO_preallocate_77 1 rfl ?_
        refine ww_imul O dd_MO_preallocate_78 (v := nI (60 * f)) (pk_mul _ _) ?_
        refine ww_iload O dd_MO_preallocate_79 6 rfl ?_
        refine ww_iadd O dd_MO_preallocate_81 (v := nI ((60 * f) + i)) (nI_add _ _) ?_
        refine ww_iald O dd_MO_preallocate_82 1 rfl (by omega) (by decide) rfl ?_
        refine ww_iast O dd_MO_preallocate_83 8 rfl (by omega) (by decide) (ws' := [(m, .inr (3, [.int (nI 0), .ref a1, .ref a2, .ref a3, .ref a4, .ref a5, .ref a6, .ref a7, .ref a8, .int fi, .int le])), (a1, .inl (ww_g X 0, 240, .inl pl)), (a2, .inl (ww_g X 1, 240, .inl wr)), (a3, .inl (ww_g X 1, 240, .inl pg)), (a4, .inl (ww_g X 0, 240, .inl pv)), (a5, .inl (ww_g X 0, 4, .inl sz)), (a6, .inl (ww_g X 0, 80, .inl ow)), (a7, .inl (ww_g X 0, 80, .inl vl)), (a8, .inl (ww_g X 0, 60, .inl (upd (px_bcp pl (60 * f) bf i) i (pl ((60 * f) + i)))))]) rfl ?_
        refine ww_iinc O dd_MO_preallocate_84 6 rfl (v := nI (i + 1)) (nI_add _ 1) (by rw [hn]; decide) rfl (L' := [(0, .ref m), (1, .int (nI f)), (2, .int (nI b)), (3, .int (nI n)), (4, .int (nI 0)), (5, .int (nI 0)), (6, .int (nI (i + 1)))]) rfl ?_
        refine ww_goto O dd_MO_preallocate_87 (tgt := 58) rfl ?_
        rw [px_bcp_s]
        exact ih (i + 1) (by omega) (by omega)
  have h0 := loop1 60 0 (by omega) (by omega)
  rw [px_bcp_0] at h0
  refine ww_aload_n O dd_MO_preallocate_0 0 rfl ?_
  refine ww_iload_n O dd_MO_preallocate_1 1 rfl ?_
  refine ww_callS O (cc_MO_noFile _ _ _ (nI f) ) lc_MO_79 ls_MO_noFile_I_Z (by rw [hR]; decide) (by rw [hR]; decide) (by rw [hR]; decide) rfl (Nat.le_of_ble_eq_true rfl) dd_MO_preallocate_2 rfl [] [0, 1, 2, 3, 4, 5, 6, 7, 8] [0, 1, 2, 3, 4, 5, 6, 7, 8] rfl (by decide) rfl (by decide) (by decide) (ws' := [(m, .inr (3, [.int cd, .ref a1, .ref a2, .ref a3, .ref a4, .ref a5, .ref a6, .ref a7, .ref a8, .int fi, .int le])), (a1, .inl (ww_g X 0, 240, .inl pl)), (a2, .inl (ww_g X 1, 240, .inl wr)), (a3, .inl (ww_g X 1, 240, .inl pg)), (a4, .inl (ww_g X 0, 240, .inl pv)), (a5, .inl (ww_g X 0, 4, .inl sz)), (a6, .inl (ww_g X 0, 80, .inl ow)), (a7, .inl (ww_g X 0, 80, .inl vl)), (a8, .inl (ww_g X 0, 60, .inl bf))]) rfl rfl (by decide) ?_
  rw [px_nf_nI (k := 3) (by omega) (by decide)]
  refine ww_if_neB O dd_MO_preallocate_5 (tgt := 15) rfl (fun h5 => ?_) (fun h5 => ?_)
  · exact absurd h5 (by decide)
  · refine ww_iload_n O dd_MO_preallocate_8 2 rfl ?_
    refine ww_callS O (cc_MO_noBlock _ _ _ (nI b) ) lc_MO_82 ls_MO_noBlock_I_Z (by rw [hR]; decide) (by rw [hR]; decide) (by rw [hR]; decide) rfl (Nat.le_of_ble_eq_true rfl) dd_MO_preallocate_9 rfl [] [0, 1, 2, 3, 4, 5, 6, 7, 8] [0, 1, 2, 3, 4, 5, 6, 7, 8] rfl (by decide) rfl (by decide) (by decide) (ws' := [(m, .inr (3, [.int cd, .ref a1, .ref a2, .ref a3, .ref a4, .ref a5, .ref a6, .ref a7, .ref a8, .int fi, .int le])), (a1, .inl (ww_g X 0, 240, .inl pl)), (a2, .inl (ww_g X 1, 240, .inl wr)), (a3, .inl (ww_g X 1, 240, .inl pg)), (a4, .inl (ww_g X 0, 240, .inl pv)), (a5, .inl (ww_g X 0, 4, .inl sz)), (a6, .inl (ww_g X 0, 80, .inl ow)), (a7, .inl (ww_g X 0, 80, .inl vl)), (a8, .inl (ww_g X 0, 60, .inl bf))]) rfl rfl (by decide) ?_
    rw [px_nf_nI (k := 59) (by omega) (by decide)]
    refine ww_if_eqB O dd_MO_preallocate_12 (tgt := 19) rfl (fun h12 => ?_) (fun h12 => ?_)
    · refine ww_iload_n O dd_MO_preallocate_19 3 rfl ?_
      refine ww_iconst O dd_MO_preallocate_20 (v := nI 1) rfl ?_
      refine ww_icmp_ltN O dd_MO_preallocate_21 (tgt := 32) rfl (by omega) (by omega) (fun h21 => ?_) (fun h21 => ?_)
      · exfalso; omega
      · refine ww_iload_n O dd_MO_preallocate_24 3 rfl ?_
        refine ww_bipush O dd_MO_preallocate_25 (v := nI 60) rfl ?_
        refine ww_iload_n O dd_MO_preallocate_27 2 rfl ?_
        refine ww_isub O dd_MO_preallocate_28 (v := nI (60 - b)) (pk_sub (by omega)) ?_
        refine ww_icmp_leN O dd_MO_preallocate_29 (tgt := 36) rfl (by omega) (by omega) (fun h29 => ?_) (fun h29 => ?_)
        · refine ww_iconst O dd_MO_preallocate_36 (v := nI 0) rfl ?_
          refine ww_put O ci_MO cy_MO cy_MO_ok cn_MO rfl 0 (by decide) lf_MO_35 rfl rfl (ty := .int) (by decide +kernel) dd_MO_preallocate_37 0 rfl rfl rfl (Nat.le_of_ble_eq_true rfl) (ws' := [(m, .inr (3, [.int (nI 0), .ref a1, .ref a2, .ref a3, .ref a4, .ref a5, .ref a6, .ref a7, .ref a8, .int fi, .int le])), (a1, .inl (ww_g X 0, 240, .inl pl)), (a2, .inl (ww_g X 1, 240, .inl wr)), (a3, .inl (ww_g X 1, 240, .inl pg)), (a4, .inl (ww_g X 0, 240, .inl pv)), (a5, .inl (ww_g X 0, 4, .inl sz)), (a6, .inl (ww_g X 0, 80, .inl ow)), (a7, .inl (ww_g X 0, 80, .inl vl)), (a8, .inl (ww_g X 0, 60, .inl bf))]) rfl ?_
          refine ww_aload_n O dd_MO_preallocate_40 0 rfl ?_
          refine ww_get O ci_MO rfl 0 (by decide) lf_MO_35 rfl dd_MO_preallocate_41 0 rfl rfl ?_
          refine ww_if_leN O dd_MO_preallocate_44 (tgt := 49) rfl (by omega) (fun h44 => ?_) (fun h44 => ?_)
          · refine ww_iconst O dd_MO_preallocate_49 (v := nI 0) rfl ?_
            refine ww_istore O dd_MO_preallocate_50 (by rw [hn]; decide) rfl (L' := [(0, .ref m), (1, .int (nI f)), (2, .int (nI b)), (3, .int (nI n)), (4, .int (nI 0))]) rfl ?_
            refine ww_iconst O dd_MO_preallocate_52 (v := nI 0) rfl ?_
            refine ww_istore O dd_MO_preallocate_53 (by rw [hn]; decide) rfl (L' := [(0, .ref m), (1, .int (nI f)), (2, .int (nI b)), (3, .int (nI n)), (4, .int (nI 0)), (5, .int (nI 0))]) rfl ?_
            refine ww_iconst O dd_MO_preallocate_55 (v := nI 0) rfl ?_
            refine ww_istore O dd_MO_preallocate_56 (by rw [hn]; decide) rfl (L' := [(0, .ref m), (1, .int (nI f)), (2, .int (nI b)), (3, .int (nI n)), (4, .int (nI 0)), (5, .int (nI 0)), (6, .int (nI 0))]) rfl ?_
            exact h0
          · exfalso; omega
        · exfalso; omega
    · exact absurd h12 (by decide)
set_option maxRecDepth 4000 in
theorem cc_MO_pre_ok (l : Launch) (D : va_G) (g : Nat → ClassId) (m : Nat) (a1 : Nat) (a2 : Nat) (a3 : Nat) (a4 : Nat) (a5 : Nat) (a6 : Nat) (a7 : Nat) (a8 : Nat) (cd : Int32) (fi : Int32) (le : Int32) (pl : Nat → Int32) (wr : Nat → Int32) (pg : Nat → Int32) (pv : Nat → Int32) (sz : Nat → Int32) (ow : Nat → Int32) (vl : Nat → Int32) (bf : Nat → Int32) (f : Nat) (b : Nat) (n : Nat) (hI : px_I1 pl ow) (hw : ∀ j, j < 240 → px_hole pl j = true → wr j = nI 0) (hf : f < 4) (hb : b < 60) (hn1 : 0 < n) (hn : n ≤ 60 - b) (hnu : px_cnt (px_hole pl) (60 * f + b) n ≤ px_nu ow) (hov : px_sum (fun k => px_res (px_mh 0 (60 * f) (fun j => px_on pg j || true) 60 (60 * f + b) (60 * f + b + n) pl ow).1 wr pg (60 * k)) 4 + px_sum (fun k => px_mt (px_mh 0 (60 * f) (fun j => px_on pg j || true) 60 (60 * f + b) (60 * f + b + n) pl ow).1 wr (60 * k)) 4 ≤ 80) : ww_ct l D g yy_MO_preallocate bb_MO_preallocate 7 (some .int) (ww_rm 5) [.ref m, .int (nI f), .int (nI b), .int (nI n)] [(m, .inr (3, [.int cd, .ref a1, .ref a2, .ref a3, .ref a4, .ref a5, .ref a6, .ref a7, .ref a8, .int fi, .int le])), (a1, .inl (g 0, 240, .inl pl)), (a2, .inl (g 1, 240, .inl wr)), (a3, .inl (g 1, 240, .inl pg)), (a4, .inl (g 0, 240, .inl pv)), (a5, .inl (g 0, 4, .inl sz)), (a6, .inl (g 0, 80, .inl ow)), (a7, .inl (g 0, 80, .inl vl)), (a8, .inl (g 0, 60, .inl bf))] (some (.int (nI (px_cnt (px_hole pl) (60 * f + b) n)))) [(m, .inr (3, [.int (nI 0), .ref a1, .ref a2, .ref a3, .ref a4, .ref a5, .ref a6, .ref a7, .ref a8, .int ((px_xs (px_mh 0 (60 * f) (fun j => px_on pg j || true) 60 (60 * f + b) (60 * f + b + n) pl ow).1 wr (px_xs (px_mh 0 (60 * f) (fun j => px_on pg j || true) 60 (60 * f + b) (60 * f + b + n) pl ow).1 wr le fi 4).1 (px_xs (px_mh 0 (60 * f) (fun j => px_on pg j || true) 60 (60 * f + b) (60 * f + b + n) pl ow).1 wr le fi 4).2 4).2), .int ((px_xs (px_mh 0 (60 * f) (fun j => px_on pg j || true) 60 (60 * f + b) (60 * f + b + n) pl ow).1 wr (px_xs (px_mh 0 (60 * f) (fun j => px_on pg j || true) 60 (60 * f + b) (60 * f + b + n) pl ow).1 wr le fi 4).1 (px_xs (px_mh 0 (60 * f) (fun j => px_on pg j || true) 60 (60 * f + b) (60 * f + b + n) pl ow).1 wr le fi 4).2 4).1)])), (a1, .inl (g 0, 240, .inl ((px_mh 0 (60 * f) (fun j => px_on pg j || true) 60 (60 * f + b) (60 * f + b + n) pl ow).1))), (a2, .inl (g 1, 240, .inl wr)), (a3, .inl (g 1, 240, .inl pg)), (a4, .inl (g 0, 240, .inl pv)), (a5, .inl (g 0, 4, .inl sz)), (a6, .inl (g 0, 80, .inl ((px_mh 0 (60 * f) (fun j => px_on pg j || true) 60 (60 * f + b) (60 * f + b + n) pl ow).2))), (a7, .inl (g 0, 80, .inl vl)), (a8, .inl (g 0, 60, .inl (px_bcp pl (60 * f) bf 60)))] := by
  refine ww_start (by decide +kernel) rfl rfl (Nat.le_of_ble_eq_true rfl) (L0 := [(0, .ref m), (1, .int (nI f)), (2, .int (nI b)), (3, .int (nI n))]) rfl ?_
  intro X O hl hD hg hR hn F
  subst hl hD hg
  have hnb := px_cnt_le (px_hole pl) (60 * f + b) n
  obtain ⟨htk, htn⟩ := px_tk ow
  obtain ⟨t1, t2, t3, t4⟩ := px_mh_spec (60 * f) (fun j => px_on pg j || true) 60 (60 * f + b) (60 * f + b + n) pl ow (by omega) hI (by omega) (by rw [show 60 * f + b + n - (60 * f + b) = n by omega]; simpa using hnu)
  generalize hT : px_mh 0 (60 * f) (fun j => px_on pg j || true) 60 (60 * f + b) (60 * f + b + n) pl ow = T at F t1 t2 t3 t4 hov
  have hmt := px_sum_le (f := fun k => px_mt T.1 wr (60 * k)) (fun k => px_mt_le T.1 wr (60 * k)) 4
  have hrs := px_sum_le (f := fun k => px_res T.1 wr pg (60 * k)) (fun k => px_res_le T.1 wr pg (60 * k)) 4
  have loop3 : ∀ (k i y : Nat), 80 ≤ i + k → i ≤ 80 → y = px_cnt (fun p => !(ow p == -1)) 0 i → ww_at X 0 0 141 [(0, .ref m), (1, .int (nI f)), (2, .int (nI b)), (3, .int (nI n)), (4, .int (nI (px_cnt (px_hole pl) (60 * f + b) n))), (5, .int (nI y)), (6, .int (nI i))] [] [(m, .inr (3, [.int (nI 0), .ref a1, .ref a2, .ref a3, .ref a4, .ref a5, .ref a6, .ref a7, .ref a8, .int fi, .int le])), (a1, .inl (ww_g X 0, 240, .inl pl)), (a2, .inl (ww_g X 1, 240, .inl wr)), (a3, .inl (ww_g X 1, 240, .inl pg)), (a4, .inl (ww_g X 0, 240, .inl pv)), (a5, .inl (ww_g X 0, 4, .inl sz)), (a6, .inl (ww_g X 0, 80, .inl ow)), (a7, .inl (ww_g X 0, 80, .inl vl)), (a8, .inl (ww_g X 0, 60, .inl (px_bcp pl (60 * f) bf 60)))] := by
    intro k
    induction k with
    | zero =>
      intro i y h1 h2 h3
      have hy9 := px_cnt_le (fun p => !(ow p == -1)) 0 i
      refine ww_iload O dd_MO_preallocate_141 6 rfl ?_
      refine ww_bipush O dd_MO_preallocate_143 (v := nI 80) rfl ?_
      refine ww_icmp_geN O dd_MO_preallocate_145 (tgt := 175) rfl (by omega) (by omega) (fun h145 => ?_) (fun h145 => ?_)
      · have ey : y = 80 - px_nu ow := by rw [h3, show i = 80 by omega]; exact htk
        refine ww_iload O dd_MO_preallocate_175 4 rfl ?_
        refine ww_bipush O dd_MO_preallocate_177 (v := nI 80) rfl ?_
        refine ww_iload O dd_MO_preallocate_179 5 rfl ?_
        refine ww_isub O dd_MO_preallocate_181 (v := nI (80 - y)) (pk_sub (by omega)) ?_
        refine ww_icmp_leN O dd_MO_preallocate_182 (tgt := 192) rfl (by omega) (by omega) (fun h182 => ?_) (fun h182 => ?_)
        · refine ww_aload_n O dd_MO_preallocate_192 0 rfl ?_
          refine ww_bipush O dd_MO_preallocate_193 (v := nI 60) rfl ?_
          refine ww_iload_n O dd_MO_preallocate_195 1 rfl ?_
          refine ww_imul O dd_MO_preallocate_196 (v := nI (60 * f)) (pk_mul _ _) ?_
          refine ww_iload_n O dd_MO_preallocate_197 2 rfl ?_
          refine ww_iadd O dd_MO_preallocate_198 (v := nI ((60 * f) + b)) (nI_add _ _) ?_
          refine ww_bipush O dd_MO_preallocate_199 (v := nI 60) rfl ?_
          refine ww_iload_n O dd_MO_preallocate_201 1 rfl ?_
          refine ww_imul O dd_MO_preallocate_202 (v := nI (60 * f)) (pk_mul _ _) ?_
          refine ww_iload_n O dd_MO_preallocate_203 2 rfl ?_
          refine ww_iadd O dd_MO_preallocate_204 (v := nI ((60 * f) + b)) (nI_add _ _) ?_
          refine ww_iload_n O dd_MO_preallocate_205 3 rfl ?_
          refine ww_iadd O dd_MO_preallocate_206 (v := nI (((60 * f) + b) + n)) (nI_add _ _) ?_
          refine ww_iconst O dd_MO_preallocate_207 (v := nI 1) rfl ?_
          refine ww_eqs (st' := [.int (px_b true), .int (nI (60 * f + b + n)), .int (nI (60 * f + b)), .ref m]) rfl ?_
          refine ww_callV (q0 := 0) (ci := 3) O (cc_MO_mapHoles _ _ _ m a1 a2 a3 a4 a5 a6 a7 a8 (nI 0) fi le pl wr pg pv sz ow vl (px_bcp pl (60 * f) bf 60) ((60 * f) + b) (((60 * f) + b) + n) true f hI (fun j g1 g2 g3 => hw j (by omega) g3) (by omega) (by omega) (by omega) (by omega) (by rw [show 60 * f + b + n - (60 * f + b) = n by omega]; simpa using hnu)) lc_MO_92 lx_MO_mapHoles_IIZ_V rfl rfl rfl (by rw [hR]; decide) (by rw [hR]; decide) (by rw [hR]; decide) rfl (Nat.le_of_ble_eq_true rfl) dd_MO_preallocate_208 rfl [0, 1, 2, 3, 4, 5, 6, 7, 8] [] [0, 1, 2, 3, 4, 5, 6, 7, 8] rfl (by decide) rfl (by decide) (by decide) (ws' := [(m, .inr (3, [.int (nI 0), .ref a1, .ref a2, .ref a3, .ref a4, .ref a5, .ref a6, .ref a7, .ref a8, .int fi, .int le])), (a1, .inl (ww_g X 0, 240, .inl ((px_mh 0 (60 * f) (fun j => px_on pg j || true) 60 ((60 * f) + b) (((60 * f) + b) + n) pl ow).1))), (a2, .inl (ww_g X 1, 240, .inl wr)), (a3, .inl (ww_g X 1, 240, .inl pg)), (a4, .inl (ww_g X 0, 240, .inl pv)), (a5, .inl (ww_g X 0, 4, .inl sz)), (a6, .inl (ww_g X 0, 80, .inl ((px_mh 0 (60 * f) (fun j => px_on pg j || true) 60 ((60 * f) + b) (((60 * f) + b) + n) pl ow).2))), (a7, .inl (ww_g X 0, 80, .inl vl)), (a8, .inl (ww_g X 0, 60, .inl (px_bcp pl (60 * f) bf 60)))]) rfl rfl (by decide) ?_
          rw [hT]
          refine ww_aload_n O dd_MO_preallocate_211 0 rfl ?_
          refine ww_callV (q0 := 0) (ci := 3) O (cc_MO_allFree _ _ _ m a1 a2 a3 a4 a5 a6 a7 a8 (nI 0) fi le T.1 wr pg pv sz T.2 vl (px_bcp pl (60 * f) bf 60) (fun b hb => t3.rg b hb)) lc_MO_85 lx_MO_allFree__I rfl rfl rfl (by rw [hR]; decide) (by rw [hR]; decide) (by rw [hR]; decide) rfl (Nat.le_of_ble_eq_true rfl) dd_MO_preallocate_212 rfl [0, 1, 2, 3, 4, 5, 6, 7, 8] [] [0, 1, 2, 3, 4, 5, 6, 7, 8] rfl (by decide) rfl (by decide) (by decide) (ws' := [(m, .inr (3, [.int (nI 0), .ref a1, .ref a2, .ref a3, .ref a4, .ref a5, .ref a6, .ref a7, .ref a8, .int ((px_xs T.1 wr le fi 4).2), .int ((px_xs T.1 wr le fi 4).1)])), (a1, .inl (ww_g X 0, 240, .inl T.1)), (a2, .inl (ww_g X 1, 240, .inl wr)), (a3, .inl (ww_g X 1, 240, .inl pg)), (a4, .inl (ww_g X 0, 240, .inl pv)), (a5, .inl (ww_g X 0, 4, .inl sz)), (a6, .inl (ww_g X 0, 80, .inl T.2)), (a7, .inl (ww_g X 0, 80, .inl vl)), (a8, .inl (ww_g X 0, 60, .inl (px_bcp pl (60 * f) bf 60)))]) rfl rfl (by decide) ?_
          refine ww_aload_n O dd_MO_preallocate_215 0 rfl ?_
          refine ww_callV (q0 := 0) (ci := 3) O (cc_MO_allReserved _ _ _ m a1 a2 a3 a4 a5 a6 a7 a8 (nI 0) ((px_xs T.1 wr le fi 4).2) ((px_xs T.1 wr le fi 4).1) T.1 wr pg pv sz T.2 vl (px_bcp pl (60 * f) bf 60) (fun b hb => t3.rg b hb)) lc_MO_89 lx_MO_allReserved__I rfl rfl rfl (by rw [hR]; decide) (by rw [hR]; decide) (by rw [hR]; decide) rfl (Nat.le_of_ble_eq_true rfl) dd_MO_preallocate_216 rfl [0, 1, 2, 3, 4, 5, 6, 7, 8] [] [0, 1, 2, 3, 4, 5, 6, 7, 8] rfl (by decide) rfl (by decide) (by decide) (ws' := [(m, .inr (3, [.int (nI 0), .ref a1, .ref a2, .ref a3, .ref a4, .ref a5, .ref a6, .ref a7, .ref a8, .int ((px_xs T.1 wr ((px_xs T.1 wr le fi 4).1) ((px_xs T.1 wr le fi 4).2) 4).2), .int ((px_xs T.1 wr ((px_xs T.1 wr le fi 4).1) ((px_xs T.1 wr le fi 4).2) 4).1)])), (a1, .inl (ww_g X 0, 240, .inl T.1)), (a2, .inl (ww_g X 1, 240, .inl wr)), (a3, .inl (ww_g X 1, 240, .inl pg)), (a4, .inl (ww_g X 0, 240, .inl pv)), (a5, .inl (ww_g X 0, 4, .inl sz)), (a6, .inl (ww_g X 0, 80, .inl T.2)), (a7, .inl (ww_g X 0, 80, .inl vl)), (a8, .inl (ww_g X 0, 60, .inl (px_bcp pl (60 * f) bf 60)))]) rfl rfl (by decide) ?_
          refine ww_icmp_ge O dd_MO_preallocate_219 (tgt := 266) rfl (fun h219 => ?_) (fun h219 => ?_)
          · refine ww_iload O dd_MO_preallocate_266 4 rfl ?_
            exact F.i dd_MO_preallocate_268
          · exact absurd ((px_cmp (by omega) (by omega)).mpr hov) h219
        · exfalso; omega
      · exfalso; omega
    | succ k ih =>
      intro i y h1 h2 h3
      have hy9 := px_cnt_le (fun p => !(ow p == -1)) 0 i
      refine ww_iload O dd_MO_preallocate_141 6 rfl ?_
      refine ww_bipush O dd_MO_preallocate_143 (v := nI 80) rfl ?_
      refine ww_icmp_geN O dd_MO_preallocate_145 (tgt := 175) rfl (by omega) (by omega) (fun h145 => ?_) (fun h145 => ?_)
      · have ey : y = 80 - px_nu ow := by rw [h3, show i = 80 by omega]; exact htk
        refine ww_iload O dd_MO_preallocate_175 4 rfl ?_
        refine ww_bipush O dd_MO_preallocate_177 (v := nI 80) rfl ?_
        refine ww_iload O dd_MO_preallocate_179 5 rfl ?_
        refine ww_isub O dd_MO_preallocate_181 (v := nI (80 - y)) (pk_sub (by omega)) ?_
        refine ww_icmp_leN O dd_MO_preallocate_182 (tgt := 192) rfl (by omega) (by omega) (fun h182 => ?_) (fun h182 => ?_)
        · refine ww_aload_n O dd_MO_preallocate_192 0 rfl ?_
          refine ww_bipush O dd_MO_preallocate_193 (v := nI 60) rfl ?_
          refine ww_iload_n O dd_MO_preallocate_195 1 rfl ?_
          refine ww_imul O dd_MO_preallocate_196 (v := nI (60 * f)) (pk_mul _ _) ?_
          refine ww_iload_n O dd_MO_preallocate_197 2 rfl ?_
          refine ww_iadd O dd_MO_preallocate_198 (v := nI ((60 * f) + b)) (nI_add _ _) ?_
          refine ww_bipush O dd_MO_preallocate_199 (v := nI 60) rfl ?_
          refine ww_iload_n O dd_MO_preallocate_201 1 rfl ?_
          refine ww_imul O dd_MO_preallocate_202 (v := nI (60 * f)) (pk_mul _ _) ?_
          refine ww_iload_n O dd_MO_preallocate_203 2 rfl ?_
          refine ww_iadd O dd_MO_preallocate_204 (v := nI ((60 * f) + b)) (nI_add _ _) ?_
          refine ww_iload_n O dd_MO_preallocate_205 3 rfl ?_
          refine ww_iadd O dd_MO_preallocate_206 (v := nI (((60 * f) + b) + n)) (nI_add _ _) ?_
          refine ww_iconst O dd_MO_preallocate_207 (v := nI 1) rfl ?_
          refine ww_eqs (st' := [.int (px_b true), .int (nI (60 * f + b + n)), .int (nI (60 * f + b)), .ref m]) rfl ?_
          refine ww_callV (q0 := 0) (ci := 3) O (cc_MO_mapHoles _ _ _ m a1 a2 a3 a4 a5 a6 a7 a8 (nI 0) fi le pl wr pg pv sz ow vl (px_bcp pl (60 * f) bf 60) ((60 * f) + b) (((60 * f) + b) + n) true f hI (fun j g1 g2 g3 => hw j (by omega) g3) (by omega) (by omega) (by omega) (by omega) (by rw [show 60 * f + b + n - (60 * f + b) = n by omega]; simpa using hnu)) lc_MO_92 lx_MO_mapHoles_IIZ_V rfl rfl rfl (by rw [hR]; decide) (by rw [hR]; decide) (by rw [hR]; decide) rfl (Nat.le_of_ble_eq_true rfl) dd_MO_preallocate_208 rfl [0, 1, 2, 3, 4, 5, 6, 7, 8] [] [0, 1, 2, 3, 4, 5, 6, 7, 8] rfl (by decide) rfl (by decide) (by decide) (ws' := [(m, .inr (3, [.int (nI 0), .ref a1, .ref a2, .ref a3, .ref a4, .ref a5, .ref a6, .ref a7, .ref a8, .int fi, .int le])), (a1, .inl (ww_g X 0, 240, .inl ((px_mh 0 (60 * f) (fun j => px_on pg j || true) 60 ((60 * f) + b) (((60 * f) + b) + n) pl ow).1))), (a2, .inl (ww_g X 1, 240, .inl wr)), (a3, .inl (ww_g X 1, 240, .inl pg)), (a4, .inl (ww_g X 0, 240, .inl pv)), (a5, .inl (ww_g X 0, 4, .inl sz)), (a6, .inl (ww_g X 0, 80, .inl ((px_mh 0 (60 * f) (fun j => px_on pg j || true) 60 ((60 * f) + b) (((60 * f) + b) + n) pl ow).2))), (a7, .inl (ww_g X 0, 80, .inl vl)), (a8, .inl (ww_g X 0, 60, .inl (px_bcp pl (60 * f) bf 60)))]) rfl rfl (by decide) ?_
          rw [hT]
          refine ww_aload_n O dd_MO_preallocate_211 0 rfl ?_
          refine ww_callV (q0 := 0) (ci := 3) O (cc_MO_allFree _ _ _ m a1 a2 a3 a4 a5 a6 a7 a8 (nI 0) fi le T.1 wr pg pv sz T.2 vl (px_bcp pl (60 * f) bf 60) (fun b hb => t3.rg b hb)) lc_MO_85 lx_MO_allFree__I rfl rfl rfl (by rw [hR]; decide) (by rw [hR]; decide) (by rw [hR]; decide) rfl (Nat.le_of_ble_eq_true rfl) dd_MO_preallocate_212 rfl [0, 1, 2, 3, 4, 5, 6, 7, 8] [] [0, 1, 2, 3, 4, 5, 6, 7, 8] rfl (by decide) rfl (by decide) (by decide) (ws' := [(m, .inr (3, [.int (nI 0), .ref a1, .ref a2, .ref a3, .ref a4, .ref a5, .ref a6, .ref a7, .ref a8, .int ((px_xs T.1 wr le fi 4).2), .int ((px_xs T.1 wr le fi 4).1)])), (a1, .inl (ww_g X 0, 240, .inl T.1)), (a2, .inl (ww_g X 1, 240, .inl wr)), (a3, .inl (ww_g X 1, 240, .inl pg)), (a4, .inl (ww_g X 0, 240, .inl pv)), (a5, .inl (ww_g X 0, 4, .inl sz)), (a6, .inl (ww_g X 0, 80, .inl T.2)), (a7, .inl (ww_g X 0, 80, .inl vl)), (a8, .inl (ww_g X 0, 60, .inl (px_bcp pl (60 * f) bf 60)))]) rfl rfl (by decide) ?_
          refine ww_aload_n O dd_MO_preallocate_215 0 rfl ?_
          refine ww_callV (q0 := 0) (ci := 3) O (cc_MO_allReserved _ _ _ m a1 a2 a3 a4 a5 a6 a7 a8 (nI 0) ((px_xs T.1 wr le fi 4).2) ((px_xs T.1 wr le fi 4).1) T.1 wr pg pv sz T.2 vl (px_bcp pl (60 * f) bf 60) (fun b hb => t3.rg b hb)) lc_MO_89 lx_MO_allReserved__I rfl rfl rfl (by rw [hR]; decide) (by rw [hR]; decide) (by rw [hR]; decide) rfl (Nat.le_of_ble_eq_true rfl) dd_MO_preallocate_216 rfl [0, 1, 2, 3, 4, 5, 6, 7, 8] [] [0, 1, 2, 3, 4, 5, 6, 7, 8] rfl (by decide) rfl (by decide) (by decide) (ws' := [(m, .inr (3, [.int (nI 0), .ref a1, .ref a2, .ref a3, .ref a4, .ref a5, .ref a6, .ref a7, .ref a8, .int ((px_xs T.1 wr ((px_xs T.1 wr le fi 4).1) ((px_xs T.1 wr le fi 4).2) 4).2), .int ((px_xs T.1 wr ((px_xs T.1 wr le fi 4).1) ((px_xs T.1 wr le fi 4).2) 4).1)])), (a1, .inl (ww_g X 0, 240, .inl T.1)), (a2, .inl (ww_g X 1, 240, .inl wr)), (a3, .inl (ww_g X 1, 240, .inl pg)), (a4, .inl (ww_g X 0, 240, .inl pv)), (a5, .inl (ww_g X 0, 4, .inl sz)), (a6, .inl (ww_g X 0, 80, .inl T.2)), (a7, .inl (ww_g X 0, 80, .inl vl)), (a8, .inl (ww_g X 0, 60, .inl (px_bcp pl (60 * f) bf 60)))]) rfl rfl (by decide) ?_
          refine ww_icmp_ge O dd_MO_preallocate_219 (tgt := 266) rfl (fun h219 => ?_) (fun h219 => ?_)
          · refine ww_iload O dd_MO_preallocate_266 4 rfl ?_
            exact F.i dd_MO_preallocate_268
          · exact absurd ((px_cmp (by omega) (by omega)).mpr hov) h219
        · exfalso; omega
      · refine ww_aload_n O dd_MO_preallocate_148 0 rfl ?_
        refine ww_get O ci_MO rfl 6 (by decide) lf_MO_26 rfl dd_MO_preallocate_149 0 rfl rfl ?_
        refine ww_iload O dd_MO_preallocate_152 6 rfl ?_
        refine ww_iald O dd_MO_preallocate_154 6 rfl (by omega) (by decide) rfl ?_
        refine ww_if_lt O dd_MO_preallocate_155 (tgt := 165) rfl (fun h155 => ?_) (fun h155 => ?_)
        · refine ww_iload O dd_MO_preallocate_165 5 rfl ?_
          refine ww_istore O dd_MO_preallocate_167 (by rw [hn]; decide) rfl (L' := [(0, .ref m), (1, .int (nI f)), (2, .int (nI b)), (3, .int (nI n)), (4, .int (nI (px_cnt (px_hole pl) (60 * f + b) n))), (5, .int (nI y)), (6, .int (nI i))]) rfl ?_
          refine ww_iinc O dd_MO_preallocate_169 6 rfl (v := nI (i + 1)) (nI_add _ 1) (by rw [hn]; decide) rfl (L' := [(0, .ref m), (1, .int (nI f)), (2, .int (nI b)), (3, .int (nI n)), (4, .int (nI (px_cnt (px_hole pl) (60 * f + b) n))), (5, .int (nI y)), (6, .int (nI (i + 1)))]) rfl ?_
          refine ww_goto O dd_MO_preallocate_172 (tgt := 141) rfl ?_
          exact ih (i + 1) y (by omega) (by omega) (px_c0f h3 (by have q := (hI.rq i (by omega)).lt (Int32.not_le.mpr h155); simp [q]))
        · refine ww_iload O dd_MO_preallocate_158 5 rfl ?_
          refine ww_iconst O dd_MO_preallocate_160 (v := nI 1) rfl ?_
          refine ww_iadd O dd_MO_preallocate_161 (v := nI (y + 1)) (nI_add _ _) ?_
          refine ww_goto O dd_MO_preallocate_162 (tgt := 167) rfl ?_
          refine ww_istore O dd_MO_preallocate_167 (by rw [hn]; decide) rfl (L' := [(0, .ref m), (1, .int (nI f)), (2, .int (nI b)), (3, .int (nI n)), (4, .int (nI (px_cnt (px_hole pl) (60 * f + b) n))), (5, .int (nI (y + 1))), (6, .int (nI i))]) rfl ?_
          refine ww_iinc O dd_MO_preallocate_169 6 rfl (v := nI (i + 1)) (nI_add _ 1) (by rw [hn]; decide) rfl (L' := [(0, .ref m), (1, .int (nI f)), (2, .int (nI b)), (3, .int (nI n)), (4, .int (nI (px_cnt (px_hole pl) (60 * f + b) n))), (5, .int (nI (y + 1))), (6, .int (nI (i + 1)))]) rfl ?_
          refine ww_goto O dd_MO_preallocate_172 (tgt := 141) rfl ?_
          exact ih (i + 1) (y + 1) (by omega) (by omega) (px_c0t h3 (by have q := (hI.rq i (by omega)).ge (Int32.not_lt.mp h155); simp [q]))
  have loop2 : ∀ (k i x : Nat), 60 * f + b + n ≤ i + k → 60 * f + b ≤ i → i ≤ 60 * f + b + n → x = px_cnt (px_hole pl) (60 * f + b) (i - (60 * f + b)) → ww_at X 0 0 98 [(0, .ref m), (1, .int (nI f)), (2, .int (nI b)), (3, .int (nI n)), (4, .int (nI x)), (5, .int (nI 0)), (6, .int (nI i))] [] [(m, .inr (3, [.int (nI 0), .ref a1, .ref a2, .ref a3, .ref a4, .ref a5, .ref a6, .ref a7, .ref a8, .int fi, .int le])), (a1, .inl (ww_g X 0, 240, .inl pl)), (a2, .inl (ww_g X 1, 240, .inl wr)), (a3, .inl (ww_g X 1, 240, .inl pg)), (a4, .inl (ww_g X 0, 240, .inl pv)), (a5, .inl (ww_g X 0, 4, .inl sz)), (a6, .inl (ww_g X 0, 80, .inl ow)), (a7, .inl (ww_g X 0, 80, .inl vl)), (a8, .inl (ww_g X 0, 60, .inl (px_bcp pl (60 * f) bf 60)))] := by
    intro k
    induction k with
    | zero =>
      intro i x h1 h2 h3 h4
      have hx9 := px_cnt_le (px_hole pl) (60 * f + b) (i - (60 * f + b))
      refine ww_iload O dd_MO_preallocate_98 6 rfl ?_
      refine ww_bipush O dd_MO_preallocate_100 (v := nI 60) rfl ?_
      refine ww_iload_n O dd_MO_preallocate_102 1 rfl ?_
      refine ww_imul O dd_MO_preallocate_103 (v := nI (60 * f)) (pk_mul _ _) ?_
      refine ww_iload_n O dd_MO_preallocate_104 2 rfl ?_
      refine ww_iadd O dd_MO_preallocate_105 (v := nI ((60 * f) + b)) (nI_add _ _) ?_
      refine ww_iload_n O dd_MO_preallocate_106 3 rfl ?_
      refine ww_iadd O dd_MO_preallocate_107 (v := nI (((60 * f) + b) + n)) (nI_add _ _) ?_
      refine ww_icmp_geN O dd_MO_preallocate_108 (tgt := 138) rfl (by omega) (by omega) (fun h108 => ?_) (fun h108 => ?_)
      · refine ww_iconst O dd_MO_preallocate_138 (v := nI 0) rfl ?_
        refine ww_istore O dd_MO_preallocate_139 (by rw [hn]; decide) rfl (L' := [(0, .ref m), (1, .int (nI f)), (2, .int (nI b)), (3, .int (nI n)), (4, .int (nI x)), (5, .int (nI 0)), (6, .int (nI 0))]) rfl ?_
        rw [show i - (60 * f + b) = n by omega] at h4
        subst h4
        exact loop3 80 0 0 (by omega) (by omega) rfl
      · exfalso; omega
    | succ k ih =>
      intro i x h1 h2 h3 h4
      have hx9 := px_cnt_le (px_hole pl) (60 * f + b) (i - (60 * f + b))
      refine ww_iload O dd_MO_preallocate_98 6 rfl ?_
      refine ww_bipush O dd_MO_preallocate_100 (v := nI 60) rfl ?_
      refine ww_iload_n O dd_MO_preallocate_102 1 rfl ?_
      refine ww_imul O dd_MO_preallocate_103 (v := nI (60 * f)) (pk_mul _ _) ?_
      refine ww_iload_n O dd_MO_preallocate_104 2 rfl ?_
      refine ww_iadd O dd_MO_preallocate_105 (v := nI ((60 * f) + b)) (nI_add _ _) ?_
      refine ww_iload_n O dd_MO_preallocate_106 3 rfl ?_
      refine ww_iadd O dd_MO_preallocate_107 (v := nI (((60 * f) + b) + n)) (nI_add _ _) ?_
      refine ww_icmp_geN O dd_MO_preallocate_108 (tgt := 138) rfl (by omega) (by omega) (fun h108 => ?_) (fun h108 => ?_)
      · refine ww_iconst O dd_MO_preallocate_138 (v := nI 0) rfl ?_
        refine ww_istore O dd_MO_preallocate_139 (by rw [hn]; decide) rfl (L' := [(0, .ref m), (1, .int (nI f)), (2, .int (nI b)), (3, .int (nI n)), (4, .int (nI x)), (5, .int (nI 0)), (6, .int (nI 0))]) rfl ?_
        rw [show i - (60 * f + b) = n by omega] at h4
        subst h4
        exact loop3 80 0 0 (by omega) (by omega) rfl
      · refine ww_aload_n O dd_MO_preallocate_111 0 rfl ?_
        refine ww_get O ci_MO rfl 1 (by decide) lf_MO_7 rfl dd_MO_preallocate_112 0 rfl rfl ?_
        refine ww_iload O dd_MO_preallocate_115 6 rfl ?_
        refine ww_iald O dd_MO_preallocate_117 1 rfl (by omega) (by decide) rfl ?_
        refine ww_if_ge O dd_MO_preallocate_118 (tgt := 128) rfl (fun h118 => ?_) (fun h118 => ?_)
        · refine ww_iload O dd_MO_preallocate_128 4 rfl ?_
          refine ww_istore O dd_MO_preallocate_130 (by rw [hn]; decide) rfl (L' := [(0, .ref m), (1, .int (nI f)), (2, .int (nI b)), (3, .int (nI n)), (4, .int (nI x)), (5, .int (nI 0)), (6, .int (nI i))]) rfl ?_
          refine ww_iinc O dd_MO_preallocate_132 6 rfl (v := nI (i + 1)) (nI_add _ 1) (by rw [hn]; decide) rfl (L' := [(0, .ref m), (1, .int (nI f)), (2, .int (nI b)), (3, .int (nI n)), (4, .int (nI x)), (5, .int (nI 0)), (6, .int (nI (i + 1)))]) rfl ?_
          refine ww_goto O dd_MO_preallocate_135 (tgt := 98) rfl ?_
          exact ih (i + 1) x (by omega) (by omega) (by omega) (px_caf h2 h4 (px_rg.ge0 (hI.rg i (by omega)) h118))
        · refine ww_iload O dd_MO_preallocate_121 4 rfl ?_
          refine ww_iconst O dd_MO_preallocate_123 (v := nI 1) rfl ?_
          refine ww_iadd O dd_MO_preallocate_124 (v := nI (x + 1)) (nI_add _ _) ?_
          refine ww_goto O dd_MO_preallocate_125 (tgt := 130) rfl ?_
          refine ww_istore O dd_MO_preallocate_130 (by rw [hn]; decide) rfl (L' := [(0, .ref m), (1, .int (nI f)), (2, .int (nI b)), (3, .int (nI n)), (4, .int (nI (x + 1))), (5, .int (nI 0)), (6, .int (nI i))]) rfl ?_
          refine ww_iinc O dd_MO_preallocate_132 6 rfl (v := nI (i + 1)) (nI_add _ 1) (by rw [hn]; decide) rfl (L' := [(0, .ref m), (1, .int (nI f)), (2, .int (nI b)), (3, .int (nI n)), (4, .int (nI (x + 1))), (5, .int (nI 0)), (6, .int (nI (i + 1)))]) rfl ?_
          refine ww_goto O dd_MO_preallocate_135 (tgt := 98) rfl ?_
          exact ih (i + 1) (x + 1) (by omega) (by omega) (by omega) (px_cat h2 h4 (px_rg.lt0 (hI.rg i (by omega)) h118))
  have loop1 : ∀ (k i : Nat), 60 ≤ i + k → i ≤ 60 → ww_at X 0 0 58 [(0, .ref m), (1, .int (nI f)), (2, .int (nI b)), (3, .int (nI n)), (4, .int (nI 0)), (5, .int (nI 0)), (6, .int (nI i))] [] [(m, .inr (3, [.int (nI 0), .ref a1, .ref a2, .ref a3, .ref a4, .ref a5, .ref a6, .ref a7, .ref a8, .int fi, .int le])), (a1, .inl (ww_g X 0, 240, .inl pl)), (a2, .inl (ww_g X 1, 240, .inl wr)), (a3, .inl (ww_g X 1, 240, .inl pg)), (a4, .inl (ww_g X 0, 240, .inl pv)), (a5, .inl (ww_g X 0, 4, .inl sz)), (a6, .inl (ww_g X 0, 80, .inl ow)), (a7, .inl (ww_g X 0, 80, .inl vl)), (a8, .inl (ww_g X 0, 60, .inl (px_bcp pl (60 * f) bf i)))] := by
    intro k
    induction k with
    | zero =>
      intro i h1 h2
      refine ww_iload O dd_MO_preallocate_58 6 rfl ?_
      refine ww_bipush O dd_MO_preallocate_60 (v := nI 60) rfl ?_
      refine ww_icmp_geN O dd_MO_preallocate_62 (tgt := 90) rfl (by omega) (by omega) (fun h62 => ?_) (fun h62 => ?_)
      · refine ww_bipush O dd_MO_preallocate_90 (v := nI 60) rfl ?_
        refine ww_iload_n O dd_MO_preallocate_92 1 rfl ?_
        refine ww_imul O dd_MO_preallocate_93 (v := nI (60 * f)) (pk_mul _ _) ?_
        refine ww_iload_n O dd_MO_preallocate_94 2 rfl ?_
        refine ww_iadd O dd_MO_preallocate_95 (v := nI ((60 * f) + b)) (nI_add _ _) ?_
        refine ww_istore O dd_MO_preallocate_96 (by rw [hn]; decide) rfl (L' := [(0, .ref m), (1, .int (nI f)), (2, .int (nI b)), (3, .int (nI n)), (4, .int (nI 0)), (5, .int (nI 0)), (6, .int (nI ((60 * f) + b)))]) rfl ?_
        have ei : i = 60 := by omega
        subst ei
        exact loop2 n (60 * f + b) 0 (by omega) (by omega) (by omega) (by rw [Nat.sub_self]; rfl)
      · exfalso; omega
    | succ k ih =>
      intro i h1 h2
      refine ww_iload O dd_MO_preallocate_58 6 rfl ?_
      refine ww_bipush O dd_MO_preallocate_60 (v := nI 60) rfl ?_
      refine ww_icmp_geN O dd_MO_preallocate_62 (tgt := 90) rfl (by omega) (by omega) (fun h62 => ?_) (fun h62 => ?_)
      · refine ww_bipush O dd_MO_preallocate_90 (v := nI 60) rfl ?_
        refine ww_iload_n O dd_MO_preallocate_92 1 rfl ?_
        refine ww_imul O dd_MO_preallocate_93 (v := nI (60 * f)) (pk_mul _ _) ?_
        refine ww_iload_n O dd_MO_preallocate_94 2 rfl ?_
        refine ww_iadd O dd_MO_preallocate_95 (v := nI ((60 * f) + b)) (nI_add _ _) ?_
        refine ww_istore O dd_MO_preallocate_96 (by rw [hn]; decide) rfl (L' := [(0, .ref m), (1, .int (nI f)), (2, .int (nI b)), (3, .int (nI n)), (4, .int (nI 0)), (5, .int (nI 0)), (6, .int (nI ((60 * f) + b)))]) rfl ?_
        have ei : i = 60 := by omega
        subst ei
        exact loop2 n (60 * f + b) 0 (by omega) (by omega) (by omega) (by rw [Nat.sub_self]; rfl)
      · refine ww_aload_n O dd_MO_preallocate_65 0 rfl ?_
        refine ww_get O ci_MO rfl 8 (by decide) lf_MO_32 rfl dd_MO_preallocate_66 0 rfl rfl ?_
        refine ww_iload O dd_MO_preallocate_69 6 rfl ?_
        refine ww_aload_n O dd_MO_preallocate_71 0 rfl ?_
        refine ww_get O ci_MO rfl 1 (by decide) lf_MO_7 rfl dd_MO_preallocate_72 0 rfl rfl ?_
        refine ww_bipush O dd_MO_preallocate_75 (v := nI 60) rfl ?_
        refine ww_iload_n O dd_MO_preallocate_77 1 rfl ?_
        refine ww_imul O dd_MO_preallocate_78 (v := nI (60 * f)) (pk_mul _ _) ?_
        refine ww_iload O dd_MO_preallocate_79 6 rfl ?_
        refine ww_iadd O dd_MO_preallocate_81 (v := nI ((60 * f) + i)) (nI_add _ _) ?_
        refine ww_iald O dd_MO_preallocate_82 1 rfl (by omega) (by decide) rfl ?_
        refine ww_iast O dd_MO_preallocate_83 8 rfl (by omega) (by decide) (ws' := [(m, .inr (3, [.int (nI 0), .ref a1, .ref a2, .ref a3, .ref a4, .ref a5, .ref a6, .ref a7, .ref a8, .int fi, .int le])), (a1, .inl (ww_g X 0, 240, .inl pl)), (a2, .inl (ww_g X 1, 240, .inl wr)), (a3, .inl (ww_g X 1, 240, .inl pg)), (a4, .inl (ww_g X 0, 240, .inl pv)), (a5, .inl (ww_g X 0, 4, .inl sz)), (a6, .inl (ww_g X 0, 80, .inl ow)), (a7, .inl (ww_g X 0, 80, .inl vl)), (a8, .inl (ww_g X 0, 60, .inl (upd (px_bcp pl (60 * f) bf i) i (pl ((60 * f) + i)))))]) rfl ?_
        refine ww_iinc O dd_MO_preallocate_84 6 rfl (v := nI (i + 1)) (nI_add _ 1) (by rw [hn]; decide) rfl (L' := [(0, .ref m), (1, .int (nI f)), (2, .int (nI b)), (3, .int (nI n)), (4, .int (nI 0)), (5, .int (nI 0)), (6, .int (nI (i + 1)))]) rfl ?_
        refine ww_goto O dd_MO_preallocate_87 (tgt := 58) rfl ?_
        rw [px_bcp_s]
        exact ih (i + 1) (by omega) (by omega)
  have h0 := loop1 60 0 (by omega) (by omega)
  rw [px_bcp_0] at h0
  refine ww_aload_n O dd_MO_preallocate_0 0 rfl ?_
  refine ww_iload_n O dd_MO_preallocate_1 1 rfl ?_
  refine ww_callS O (cc_MO_noFile _ _ _ (nI f) ) lc_MO_79 ls_MO_noFile_I_Z (by rw [hR]; decide) (by rw [hR]; decide) (by rw [hR]; decide) rfl (Nat.le_of_ble_eq_true rfl) dd_MO_preallocate_2 rfl [] [0, 1, 2, 3, 4, 5, 6, 7, 8] [0, 1, 2, 3, 4, 5, 6, 7, 8] rfl (by decide) rfl (by decide) (by decide) (ws' := [(m, .inr (3, [.int cd, .ref a1, .ref a2, .ref a3, .ref a4, .ref a5, .ref a6, .ref a7, .ref a8, .int fi, .int le])), (a1, .inl (ww_g X 0, 240, .inl pl)), (a2, .inl (ww_g X 1, 240, .inl wr)), (a3, .inl (ww_g X 1, 240, .inl pg)), (a4, .inl (ww_g X 0, 240, .inl pv)), (a5, .inl (ww_g X 0, 4, .inl sz)), (a6, .inl (ww_g X 0, 80, .inl ow)), (a7, .inl (ww_g X 0, 80, .inl vl)), (a8, .inl (ww_g X 0, 60, .inl bf))]) rfl rfl (by decide) ?_
  rw [px_nf_nI (k := 3) (by omega) (by decide)]
  refine ww_if_neB O dd_MO_preallocate_5 (tgt := 15) rfl (fun h5 => ?_) (fun h5 => ?_)
  · exact absurd h5 (by decide)
  · refine ww_iload_n O dd_MO_preallocate_8 2 rfl ?_
    refine ww_callS O (cc_MO_noBlock _ _ _ (nI b) ) lc_MO_82 ls_MO_noBlock_I_Z (by rw [hR]; decide) (by rw [hR]; decide) (by rw [hR]; decide) rfl (Nat.le_of_ble_eq_true rfl) dd_MO_preallocate_9 rfl [] [0, 1, 2, 3, 4, 5, 6, 7, 8] [0, 1, 2, 3, 4, 5, 6, 7, 8] rfl (by decide) rfl (by decide) (by decide) (ws' := [(m, .inr (3, [.int cd, .ref a1, .ref a2, .ref a3, .ref a4, .ref a5, .ref a6, .ref a7, .ref a8, .int fi, .int le])), (a1, .inl (ww_g X 0, 240, .inl pl)), (a2, .inl (ww_g X 1, 240, .inl wr)), (a3, .inl (ww_g X 1, 240, .inl pg)), (a4, .inl (ww_g X 0, 240, .inl pv)), (a5, .inl (ww_g X 0, 4, .inl sz)), (a6, .inl (ww_g X 0, 80, .inl ow)), (a7, .inl (ww_g X 0, 80, .inl vl)), (a8, .inl (ww_g X 0, 60, .inl bf))]) rfl rfl (by decide) ?_
    rw [px_nf_nI (k := 59) (by omega) (by decide)]
    refine ww_if_eqB O dd_MO_preallocate_12 (tgt := 19) rfl (fun h12 => ?_) (fun h12 => ?_)
    · refine ww_iload_n O dd_MO_preallocate_19 3 rfl ?_
      refine ww_iconst O dd_MO_preallocate_20 (v := nI 1) rfl ?_
      refine ww_icmp_ltN O dd_MO_preallocate_21 (tgt := 32) rfl (by omega) (by omega) (fun h21 => ?_) (fun h21 => ?_)
      · exfalso; omega
      · refine ww_iload_n O dd_MO_preallocate_24 3 rfl ?_
        refine ww_bipush O dd_MO_preallocate_25 (v := nI 60) rfl ?_
        refine ww_iload_n O dd_MO_preallocate_27 2 rfl ?_
        refine ww_isub O dd_MO_preallocate_28 (v := nI (60 - b)) (pk_sub (by omega)) ?_
        refine ww_icmp_leN O dd_MO_preallocate_29 (tgt := 36) rfl (by omega) (by omega) (fun h29 => ?_) (fun h29 => ?_)
        · refine ww_iconst O dd_MO_preallocate_36 (v := nI 0) rfl ?_
          refine ww_put O ci_MO cy_MO cy_MO_ok cn_MO rfl 0 (by decide) lf_MO_35 rfl rfl (ty := .int) (by decide +kernel) dd_MO_preallocate_37 0 rfl rfl rfl (Nat.le_of_ble_eq_true rfl) (ws' := [(m, .inr (3, [.int (nI 0), .ref a1, .ref a2, .ref a3, .ref a4, .ref a5, .ref a6, .ref a7, .ref a8, .int fi, .int le])), (a1, .inl (ww_g X 0, 240, .inl pl)), (a2, .inl (ww_g X 1, 240, .inl wr)), (a3, .inl (ww_g X 1, 240, .inl pg)), (a4, .inl (ww_g X 0, 240, .inl pv)), (a5, .inl (ww_g X 0, 4, .inl sz)), (a6, .inl (ww_g X 0, 80, .inl ow)), (a7, .inl (ww_g X 0, 80, .inl vl)), (a8, .inl (ww_g X 0, 60, .inl bf))]) rfl ?_
          refine ww_aload_n O dd_MO_preallocate_40 0 rfl ?_
          refine ww_get O ci_MO rfl 0 (by decide) lf_MO_35 rfl dd_MO_preallocate_41 0 rfl rfl ?_
          refine ww_if_leN O dd_MO_preallocate_44 (tgt := 49) rfl (by omega) (fun h44 => ?_) (fun h44 => ?_)
          · refine ww_iconst O dd_MO_preallocate_49 (v := nI 0) rfl ?_
            refine ww_istore O dd_MO_preallocate_50 (by rw [hn]; decide) rfl (L' := [(0, .ref m), (1, .int (nI f)), (2, .int (nI b)), (3, .int (nI n)), (4, .int (nI 0))]) rfl ?_
            refine ww_iconst O dd_MO_preallocate_52 (v := nI 0) rfl ?_
            refine ww_istore O dd_MO_preallocate_53 (by rw [hn]; decide) rfl (L' := [(0, .ref m), (1, .int (nI f)), (2, .int (nI b)), (3, .int (nI n)), (4, .int (nI 0)), (5, .int (nI 0))]) rfl ?_
            refine ww_iconst O dd_MO_preallocate_55 (v := nI 0) rfl ?_
            refine ww_istore O dd_MO_preallocate_56 (by rw [hn]; decide) rfl (L' := [(0, .ref m), (1, .int (nI f)), (2, .int (nI b)), (3, .int (nI n)), (4, .int (nI 0)), (5, .int (nI 0)), (6, .int (nI 0))]) rfl ?_
            exact h0
          · exfalso; omega
        · exfalso; omega
    · exact absurd h12 (by decide)
set_option maxRecDepth 4000 in
theorem cc_MO_pre_over (l : Launch) (D : va_G) (g : Nat → ClassId) (m : Nat) (a1 : Nat) (a2 : Nat) (a3 : Nat) (a4 : Nat) (a5 : Nat) (a6 : Nat) (a7 : Nat) (a8 : Nat) (cd : Int32) (fi : Int32) (le : Int32) (pl : Nat → Int32) (wr : Nat → Int32) (pg : Nat → Int32) (pv : Nat → Int32) (sz : Nat → Int32) (ow : Nat → Int32) (vl : Nat → Int32) (bf : Nat → Int32) (f : Nat) (b : Nat) (n : Nat) (hI : px_I1 pl ow) (hw : ∀ j, j < 240 → px_hole pl j = true → wr j = nI 0) (hf : f < 4) (hb : b < 60) (hn1 : 0 < n) (hn : n ≤ 60 - b) (hnu : px_cnt (px_hole pl) (60 * f + b) n ≤ px_nu ow) (hov : ¬ px_sum (fun k => px_res (px_mh 0 (60 * f) (fun j => px_on pg j || true) 60 (60 * f + b) (60 * f + b + n) pl ow).1 wr pg (60 * k)) 4 + px_sum (fun k => px_mt (px_mh 0 (60 * f) (fun j => px_on pg j || true) 60 (60 * f + b) (60 * f + b + n) pl ow).1 wr (60 * k)) 4 ≤ 80) : ww_ct l D g yy_MO_preallocate bb_MO_preallocate 7 (some .int) (ww_rm 5) [.ref m, .int (nI f), .int (nI b), .int (nI n)] [(m, .inr (3, [.int cd, .ref a1, .ref a2, .ref a3, .ref a4, .ref a5, .ref a6, .ref a7, .ref a8, .int fi, .int le])), (a1, .inl (g 0, 240, .inl pl)), (a2, .inl (g 1, 240, .inl wr)), (a3, .inl (g 1, 240, .inl pg)), (a4, .inl (g 0, 240, .inl pv)), (a5, .inl (g 0, 4, .inl sz)), (a6, .inl (g 0, 80, .inl ow)), (a7, .inl (g 0, 80, .inl vl)), (a8, .inl (g 0, 60, .inl bf))] (some (.int (nI 0))) [(m, .inr (3, [.int (nI 3), .ref a1, .ref a2, .ref a3, .ref a4, .ref a5, .ref a6, .ref a7, .ref a8, .int ((px_xs (px_mh 0 (60 * f) (fun j => px_on pg j || true) 60 (60 * f + b) (60 * f + b + n) pl ow).1 wr (px_xs (px_mh 0 (60 * f) (fun j => px_on pg j || true) 60 (60 * f + b) (60 * f + b + n) pl ow).1 wr le fi 4).1 (px_xs (px_mh 0 (60 * f) (fun j => px_on pg j || true) 60 (60 * f + b) (60 * f + b + n) pl ow).1 wr le fi 4).2 4).2), .int ((px_xs (px_mh 0 (60 * f) (fun j => px_on pg j || true) 60 (60 * f + b) (60 * f + b + n) pl ow).1 wr (px_xs (px_mh 0 (60 * f) (fun j => px_on pg j || true) 60 (60 * f + b) (60 * f + b + n) pl ow).1 wr le fi 4).1 (px_xs (px_mh 0 (60 * f) (fun j => px_on pg j || true) 60 (60 * f + b) (60 * f + b + n) pl ow).1 wr le fi 4).2 4).1)])), (a1, .inl (g 0, 240, .inl (px_cut (fun j => px_hole pl j) (px_mh 0 (60 * f) (fun j => px_on pg j || true) 60 (60 * f + b) (60 * f + b + n) pl ow).1 (60 * f) 60 (-1)))), (a2, .inl (g 1, 240, .inl wr)), (a3, .inl (g 1, 240, .inl pg)), (a4, .inl (g 0, 240, .inl pv)), (a5, .inl (g 0, 4, .inl sz)), (a6, .inl (g 0, 80, .inl (px_rel (fun j => px_hole pl j) (px_mh 0 (60 * f) (fun j => px_on pg j || true) 60 (60 * f + b) (60 * f + b + n) pl ow).1 60 (60 * f) (px_mh 0 (60 * f) (fun j => px_on pg j || true) 60 (60 * f + b) (60 * f + b + n) pl ow).2))), (a7, .inl (g 0, 80, .inl vl)), (a8, .inl (g 0, 60, .inl (px_bcp pl (60 * f) bf 60)))] := by
  refine ww_start (by decide +kernel) rfl rfl (Nat.le_of_ble_eq_true rfl) (L0 := [(0, .ref m), (1, .int (nI f)), (2, .int (nI b)), (3, .int (nI n))]) rfl ?_
  intro X O hl hD hg hR hn F
  subst hl hD hg
  have hnb := px_cnt_le (px_hole pl) (60 * f + b) n
  obtain ⟨htk, htn⟩ := px_tk ow
  obtain ⟨t1, t2, t3, t4⟩ := px_mh_spec (60 * f) (fun j => px_on pg j || true) 60 (60 * f + b) (60 * f + b + n) pl ow (by omega) hI (by omega) (by rw [show 60 * f + b + n - (60 * f + b) = n by omega]; simpa using hnu)
  generalize hT : px_mh 0 (60 * f) (fun j => px_on pg j || true) 60 (60 * f + b) (60 * f + b + n) pl ow = T at F t1 t2 t3 t4 hov
  have hmt := px_sum_le (f := fun k => px_mt T.1 wr (60 * k)) (fun k => px_mt_le T.1 wr (60 * k)) 4
  have hrs := px_sum_le (f := fun k => px_res T.1 wr pg (60 * k)) (fun k => px_res_le T.1 wr pg (60 * k)) 4
  have loop3 : ∀ (k i y : Nat), 80 ≤ i + k → i ≤ 80 → y = px_cnt (fun p => !(ow p == -1)) 0 i → ww_at X 0 0 141 [(0, .ref m), (1, .int (nI f)), (2, .int (nI b)), (3, .int (nI n)), (4, .int (nI (px_cnt (px_hole pl) (60 * f + b) n))), (5, .int (nI y)), (6, .int (nI i))] [] [(m, .inr (3, [.int (nI 0), .ref a1, .ref a2, .ref a3, .ref a4, .ref a5, .ref a6, .ref a7, .ref a8, .int fi, .int le])), (a1, .inl (ww_g X 0, 240, .inl pl)), (a2, .inl (ww_g X 1, 240, .inl wr)), (a3, .inl (ww_g X 1, 240, .inl pg)), (a4, .inl (ww_g X 0, 240, .inl pv)), (a5, .inl (ww_g X 0, 4, .inl sz)), (a6, .inl (ww_g X 0, 80, .inl ow)), (a7, .inl (ww_g X 0, 80, .inl vl)), (a8, .inl (ww_g X 0, 60, .inl (px_bcp pl (60 * f) bf 60)))] := by
    intro k
    induction k with
    | zero =>
      intro i y h1 h2 h3
      have hy9 := px_cnt_le (fun p => !(ow p == -1)) 0 i
      refine ww_iload O dd_MO_preallocate_141 6 rfl ?_
      refine ww_bipush O dd_MO_preallocate_143 (v := nI 80) rfl ?_
      refine ww_icmp_geN O dd_MO_preallocate_145 (tgt := 175) rfl (by omega) (by omega) (fun h145 => ?_) (fun h145 => ?_)
      · have ey : y = 80 - px_nu ow := by rw [h3, show i = 80 by omega]; exact htk
        refine ww_iload O dd_MO_preallocate_175 4 rfl ?_
        refine ww_bipush O dd_MO_preallocate_177 (v := nI 80) rfl ?_
        refine ww_iload O dd_MO_preallocate_179 5 rfl ?_
        refine ww_isub O dd_MO_preallocate_181 (v := nI (80 - y)) (pk_sub (by omega)) ?_
        refine ww_icmp_leN O dd_MO_preallocate_182 (tgt := 192) rfl (by omega) (by omega) (fun h182 => ?_) (fun h182 => ?_)
        · refine ww_aload_n O dd_MO_preallocate_192 0 rfl ?_
          refine ww_bipush O dd_MO_preallocate_193 (v := nI 60) rfl ?_
          refine ww_iload_n O dd_MO_preallocate_195 1 rfl ?_
          refine ww_imul O dd_MO_preallocate_196 (v := nI (60 * f)) (pk_mul _ _) ?_
          refine ww_iload_n O dd_MO_preallocate_197 2 rfl ?_
          refine ww_iadd O dd_MO_preallocate_198 (v := nI ((60 * f) + b)) (nI_add _ _) ?_
          refine ww_bipush O dd_MO_preallocate_199 (v := nI 60) rfl ?_
          refine ww_iload_n O dd_MO_preallocate_201 1 rfl ?_
          refine ww_imul O dd_MO_preallocate_202 (v := nI (60 * f)) (pk_mul _ _) ?_
          refine ww_iload_n O dd_MO_preallocate_203 2 rfl ?_
          refine ww_iadd O dd_MO_preallocate_204 (v := nI ((60 * f) + b)) (nI_add _ _) ?_
          refine ww_iload_n O dd_MO_preallocate_205 3 rfl ?_
          refine ww_iadd O dd_MO_preallocate_206 (v := nI (((60 * f) + b) + n)) (nI_add _ _) ?_
          refine ww_iconst O dd_MO_preallocate_207 (v := nI 1) rfl ?_
          refine ww_eqs (st' := [.int (px_b true), .int (nI (60 * f + b + n)), .int (nI (60 * f + b)), .ref m]) rfl ?_
          refine ww_callV (q0 := 0) (ci := 3) O (cc_MO_mapHoles _ _ _ m a1 a2 a3 a4 a5 a6 a7 a8 (nI 0) fi le pl wr pg pv sz ow vl (px_bcp pl (60 * f) bf 60) ((60 * f) + b) (((60 * f) + b) + n) true f hI (fun j g1 g2 g3 => hw j (by omega) g3) (by omega) (by omega) (by omega) (by omega) (by rw [show 60 * f + b + n - (60 * f + b) = n by omega]; simpa using hnu)) lc_MO_92 lx_MO_mapHoles_IIZ_V rfl rfl rfl (by rw [hR]; decide) (by rw [hR]; decide) (by rw [hR]; decide) rfl (Nat.le_of_ble_eq_true rfl) dd_MO_preallocate_208 rfl [0, 1, 2, 3, 4, 5, 6, 7, 8] [] [0, 1, 2, 3, 4, 5, 6, 7, 8] rfl (by decide) rfl (by decide) (by decide) (ws' := [(m, .inr (3, [.int (nI 0), .ref a1, .ref a2, .ref a3, .ref a4, .ref a5, .ref a6, .ref a7, .ref a8, .int fi, .int le])), (a1, .inl (ww_g X 0, 240, .inl ((px_mh 0 (60 * f) (fun j => px_on pg j || true) 60 ((60 * f) + b) (((60 * f) + b) + n) pl ow).1))), (a2, .inl (ww_g X 1, 240, .inl wr)), (a3, .inl (ww_g X 1, 240, .inl pg)), (a4, .inl (ww_g X 0, 240, .inl pv)), (a5, .inl (ww_g X 0, 4, .inl sz)), (a6, .inl (ww_g X 0, 80, .inl ((px_mh 0 (60 * f) (fun j => px_on pg j || true) 60 ((60 * f) + b) (((60 * f) + b) + n) pl ow).2))), (a7, .inl (ww_g X 0, 80, .inl vl)), (a8, .inl (ww_g X 0, 60, .inl (px_bcp pl (60 * f) bf 60)))]) rfl rfl (by decide) ?_
          rw [hT]
          refine ww_aload_n O dd_MO_preallocate_211 0 rfl ?_
          refine ww_callV (q0 := 0) (ci := 3) O (cc_MO_allFree _ _ _ m a1 a2 a3 a4 a5 a6 a7 a8 (nI 0) fi le T.1 wr pg pv sz T.2 vl (px_bcp pl (60 * f) bf 60) (fun b hb => t3.rg b hb)) lc_MO_85 lx_MO_allFree__I rfl rfl rfl (by rw [hR]; decide) (by rw [hR]; decide) (by rw [hR]; decide) rfl (Nat.le_of_ble_eq_true rfl) dd_MO_preallocate_212 rfl [0, 1, 2, 3, 4, 5, 6, 7, 8] [] [0, 1, 2, 3, 4, 5, 6, 7, 8] rfl (by decide) rfl (by decide) (by decide) (ws' := [(m, .inr (3, [.int (nI 0), .ref a1, .ref a2, .ref a3, .ref a4, .ref a5, .ref a6, .ref a7, .ref a8, .int ((px_xs T.1 wr le fi 4).2), .int ((px_xs T.1 wr le fi 4).1)])), (a1, .inl (ww_g X 0, 240, .inl T.1)), (a2, .inl (ww_g X 1, 240, .inl wr)), (a3, .inl (ww_g X 1, 240, .inl pg)), (a4, .inl (ww_g X 0, 240, .inl pv)), (a5, .inl (ww_g X 0, 4, .inl sz)), (a6, .inl (ww_g X 0, 80, .inl T.2)), (a7, .inl (ww_g X 0, 80, .inl vl)), (a8, .inl (ww_g X 0, 60, .inl (px_bcp pl (60 * f) bf 60)))]) rfl rfl (by decide) ?_
          refine ww_aload_n O dd_MO_preallocate_215 0 rfl ?_
          refine ww_callV (q0 := 0) (ci := 3) O (cc_MO_allReserved _ _ _ m a1 a2 a3 a4 a5 a6 a7 a8 (nI 0) ((px_xs T.1 wr le fi 4).2) ((px_xs T.1 wr le fi 4).1) T.1 wr pg pv sz T.2 vl (px_bcp pl (60 * f) bf 60) (fun b hb => t3.rg b hb)) lc_MO_89 lx_MO_allReserved__I rfl rfl rfl (by rw [hR]; decide) (by rw [hR]; decide) (by rw [hR]; decide) rfl (Nat.le_of_ble_eq_true rfl) dd_MO_preallocate_216 rfl [0, 1, 2, 3, 4, 5, 6, 7, 8] [] [0, 1, 2, 3, 4, 5, 6, 7, 8] rfl (by decide) rfl (by decide) (by decide) (ws' := [(m, .inr (3, [.int (nI 0), .ref a1, .ref a2, .ref a3, .ref a4, .ref a5, .ref a6, .ref a7, .ref a8, .int ((px_xs T.1 wr ((px_xs T.1 wr le fi 4).1) ((px_xs T.1 wr le fi 4).2) 4).2), .int ((px_xs T.1 wr ((px_xs T.1 wr le fi 4).1) ((px_xs T.1 wr le fi 4).2) 4).1)])), (a1, .inl (ww_g X 0, 240, .inl T.1)), (a2, .inl (ww_g X 1, 240, .inl wr)), (a3, .inl (ww_g X 1, 240, .inl pg)), (a4, .inl (ww_g X 0, 240, .inl pv)), (a5, .inl (ww_g X 0, 4, .inl sz)), (a6, .inl (ww_g X 0, 80, .inl T.2)), (a7, .inl (ww_g X 0, 80, .inl vl)), (a8, .inl (ww_g X 0, 60, .inl (px_bcp pl (60 * f) bf 60)))]) rfl rfl (by decide) ?_
          refine ww_icmp_ge O dd_MO_preallocate_219 (tgt := 266) rfl (fun h219 => ?_) (fun h219 => ?_)
          · exact absurd ((px_cmp (by omega) (by omega)).mp h219) hov
          · refine ww_iconst O dd_MO_preallocate_222 (v := nI 0) rfl ?_
            refine ww_istore O dd_MO_preallocate_223 (by rw [hn]; decide) rfl (L' := [(0, .ref m), (1, .int (nI f)), (2, .int (nI b)), (3, .int (nI n)), (4, .int (nI (px_cnt (px_hole pl) (60 * f + b) n))), (5, .int (nI y)), (6, .int (nI 0))]) rfl ?_
            generalize hRel : px_rel (fun j => px_hole pl j) T.1 60 (60 * f) T.2 = RR at F
            have undo : ∀ (k2 i2 : Nat) (ow2 : Nat → Int32), 60 ≤ i2 + k2 → i2 ≤ 60 → px_rel (fun j => px_hole pl j) T.1 (60 * f + 60 - (60 * f + i2)) (60 * f + i2) ow2 = RR → ww_at X 0 0 225 [(0, .ref m), (1, .int (nI f)), (2, .int (nI b)), (3, .int (nI n)), (4, .int (nI (px_cnt (px_hole pl) (60 * f + b) n))), (5, .int (nI y)), (6, .int (nI i2))] [] [(m, .inr (3, [.int (nI 0), .ref a1, .ref a2, .ref a3, .ref a4, .ref a5, .ref a6, .ref a7, .ref a8, .int ((px_xs T.1 wr ((px_xs T.1 wr le fi 4).1) ((px_xs T.1 wr le fi 4).2) 4).2), .int ((px_xs T.1 wr ((px_xs T.1 wr le fi 4).1) ((px_xs T.1 wr le fi 4).2) 4).1)])), (a1, .inl (ww_g X 0, 240, .inl (px_cut (fun j => px_hole pl j) T.1 (60 * f) (60 * f + i2 - 60 * f) (-1)))), (a2, .inl (ww_g X 1, 240, .inl wr)), (a3, .inl (ww_g X 1, 240, .inl pg)), (a4, .inl (ww_g X 0, 240, .inl pv)), (a5, .inl (ww_g X 0, 4, .inl sz)), (a6, .inl (ww_g X 0, 80, .inl ow2)), (a7, .inl (ww_g X 0, 80, .inl vl)), (a8, .inl (ww_g X 0, 60, .inl (px_bcp pl (60 * f) bf 60)))] := by
              intro k2
              induction k2 with
              | zero =>
                intro i2 ow2 u1 u2 u3
                refine ww_iload O dd_MO_preallocate_225 6 rfl ?_
                refine ww_bipush O dd_MO_preallocate_227 (v := nI 60) rfl ?_
                refine ww_icmp_geN O dd_MO_preallocate_229 (tgt := 259) rfl (by omega) (by omega) (fun h229 => ?_) (fun h229 => ?_)
                · refine ww_aload_n O dd_MO_preallocate_259 0 rfl ?_
                  refine ww_iconst O dd_MO_preallocate_260 (v := nI 3) rfl ?_
                  refine ww_put O ci_MO cy_MO cy_MO_ok cn_MO rfl 0 (by decide) lf_MO_35 rfl rfl (ty := .int) (by decide +kernel) dd_MO_preallocate_261 0 rfl rfl rfl (Nat.le_of_ble_eq_true rfl) (ws' := [(m, .inr (3, [.int (nI 3), .ref a1, .ref a2, .ref a3, .ref a4, .ref a5, .ref a6, .ref a7, .ref a8, .int ((px_xs T.1 wr ((px_xs T.1 wr le fi 4).1) ((px_xs T.1 wr le fi 4).2) 4).2), .int ((px_xs T.1 wr ((px_xs T.1 wr le fi 4).1) ((px_xs T.1 wr le fi 4).2) 4).1)])), (a1, .inl (ww_g X 0, 240, .inl (px_cut (fun j => px_hole pl j) T.1 (60 * f) (60 * f + i2 - 60 * f) (-1)))), (a2, .inl (ww_g X 1, 240, .inl wr)), (a3, .inl (ww_g X 1, 240, .inl pg)), (a4, .inl (ww_g X 0, 240, .inl pv)), (a5, .inl (ww_g X 0, 4, .inl sz)), (a6, .inl (ww_g X 0, 80, .inl ow2)), (a7, .inl (ww_g X 0, 80, .inl vl)), (a8, .inl (ww_g X 0, 60, .inl (px_bcp pl (60 * f) bf 60)))]) rfl ?_
                  refine ww_iconst O dd_MO_preallocate_264 (v := nI 0) rfl ?_
                  have eb : i2 = 60 := by omega
                  subst eb
                  rw [Nat.sub_self] at u3
                  subst u3
                  rw [show 60 * f + 60 - 60 * f = 60 by omega]
                  exact F.i dd_MO_preallocate_265
                · exfalso; omega
              | succ k2 ihu =>
                intro i2 ow2 u1 u2 u3
                refine ww_iload O dd_MO_preallocate_225 6 rfl ?_
                refine ww_bipush O dd_MO_preallocate_227 (v := nI 60) rfl ?_
                refine ww_icmp_geN O dd_MO_preallocate_229 (tgt := 259) rfl (by omega) (by omega) (fun h229 => ?_) (fun h229 => ?_)
                · refine ww_aload_n O dd_MO_preallocate_259 0 rfl ?_
                  refine ww_iconst O dd_MO_preallocate_260 (v := nI 3) rfl ?_
                  refine ww_put O ci_MO cy_MO cy_MO_ok cn_MO rfl 0 (by decide) lf_MO_35 rfl rfl (ty := .int) (by decide +kernel) dd_MO_preallocate_261 0 rfl rfl rfl (Nat.le_of_ble_eq_true rfl) (ws' := [(m, .inr (3, [.int (nI 3), .ref a1, .ref a2, .ref a3, .ref a4, .ref a5, .ref a6, .ref a7, .ref a8, .int ((px_xs T.1 wr ((px_xs T.1 wr le fi 4).1) ((px_xs T.1 wr le fi 4).2) 4).2), .int ((px_xs T.1 wr ((px_xs T.1 wr le fi 4).1) ((px_xs T.1 wr le fi 4).2) 4).1)])), (a1, .inl (ww_g X 0, 240, .inl (px_cut (fun j => px_hole pl j) T.1 (60 * f) (60 * f + i2 - 60 * f) (-1)))), (a2, .inl (ww_g X 1, 240, .inl wr)), (a3, .inl (ww_g X 1, 240, .inl pg)), (a4, .inl (ww_g X 0, 240, .inl pv)), (a5, .inl (ww_g X 0, 4, .inl sz)), (a6, .inl (ww_g X 0, 80, .inl ow2)), (a7, .inl (ww_g X 0, 80, .inl vl)), (a8, .inl (ww_g X 0, 60, .inl (px_bcp pl (60 * f) bf 60)))]) rfl ?_
                  refine ww_iconst O dd_MO_preallocate_264 (v := nI 0) rfl ?_
                  have eb : i2 = 60 := by omega
                  subst eb
                  rw [Nat.sub_self] at u3
                  subst u3
                  rw [show 60 * f + 60 - 60 * f = 60 by omega]
                  exact F.i dd_MO_preallocate_265
                · refine ww_aload_n O dd_MO_preallocate_232 0 rfl ?_
                  refine ww_get O ci_MO rfl 8 (by decide) lf_MO_32 rfl dd_MO_preallocate_233 0 rfl rfl ?_
                  refine ww_iload O dd_MO_preallocate_236 6 rfl ?_
                  refine ww_iald O dd_MO_preallocate_238 8 rfl (by omega) (by decide) rfl ?_
                  rw [px_bcp_i (by omega)]
                  refine ww_if_ge O dd_MO_preallocate_239 (tgt := 253) rfl (fun h239 => ?_) (fun h239 => ?_)
                  · refine ww_iinc O dd_MO_preallocate_253 6 rfl (v := nI (i2 + 1)) (nI_add _ 1) (by rw [hn]; decide) rfl (L' := [(0, .ref m), (1, .int (nI f)), (2, .int (nI b)), (3, .int (nI n)), (4, .int (nI (px_cnt (px_hole pl) (60 * f + b) n))), (5, .int (nI y)), (6, .int (nI (i2 + 1)))]) rfl ?_
                    refine ww_goto O dd_MO_preallocate_256 (tgt := 225) rfl ?_
                    have hh := px_rg.ge0 (hI.rg (60 * f + i2) (by omega)) h239
                    rw [px_cut_f (f := T.1) (b := 60 * f + i2) (by omega) (by simp [hh])]
                    exact ihu (i2 + 1) _ (by omega) (by omega) (by rw [← u3, px_rel_s (b := 60 * f + i2) (by omega), hh]; rfl)
                  · refine ww_aload_n O dd_MO_preallocate_242 0 rfl ?_
                    refine ww_bipush O dd_MO_preallocate_243 (v := nI 60) rfl ?_
                    refine ww_iload_n O dd_MO_preallocate_245 1 rfl ?_
                    refine ww_imul O dd_MO_preallocate_246 (v := nI (60 * f)) (pk_mul _ _) ?_
                    refine ww_iload O dd_MO_preallocate_247 6 rfl ?_
                    refine ww_iadd O dd_MO_preallocate_249 (v := nI ((60 * f) + i2)) (nI_add _ _) ?_
                    refine ww_callV (q0 := 0) (ci := 3) O (cc_MO_unmap _ _ _ m a1 a2 a3 a4 a5 a6 a7 a8 (nI 0) ((px_xs T.1 wr ((px_xs T.1 wr le fi 4).1) ((px_xs T.1 wr le fi 4).2) 4).2) ((px_xs T.1 wr ((px_xs T.1 wr le fi 4).1) ((px_xs T.1 wr le fi 4).2) 4).1) (px_cut (fun j => px_hole pl j) T.1 (60 * f) (60 * f + i2 - 60 * f) (-1)) wr pg pv sz ow2 vl (px_bcp pl (60 * f) bf 60) ((60 * f) + i2) (by rw [px_cut_o (by omega)]; exact t3.rg _ (by omega)) (by omega)) lc_MO_96 lx_MO_unmap_I_V rfl rfl rfl (by rw [hR]; decide) (by rw [hR]; decide) (by rw [hR]; decide) rfl (Nat.le_of_ble_eq_true rfl) dd_MO_preallocate_250 rfl [0, 1, 2, 3, 4, 5, 6, 7, 8] [] [0, 1, 2, 3, 4, 5, 6, 7, 8] rfl (by decide) rfl (by decide) (by decide) (ws' := [(m, .inr (3, [.int (nI 0), .ref a1, .ref a2, .ref a3, .ref a4, .ref a5, .ref a6, .ref a7, .ref a8, .int ((px_xs T.1 wr ((px_xs T.1 wr le fi 4).1) ((px_xs T.1 wr le fi 4).2) 4).2), .int ((px_xs T.1 wr ((px_xs T.1 wr le fi 4).1) ((px_xs T.1 wr le fi 4).2) 4).1)])), (a1, .inl (ww_g X 0, 240, .inl (upd (px_cut (fun j => px_hole pl j) T.1 (60 * f) (60 * f + i2 - 60 * f) (-1)) ((60 * f) + i2) (-1)))), (a2, .inl (ww_g X 1, 240, .inl (upd wr ((60 * f) + i2) (nI 0)))), (a3, .inl (ww_g X 1, 240, .inl pg)), (a4, .inl (ww_g X 0, 240, .inl pv)), (a5, .inl (ww_g X 0, 4, .inl sz)), (a6, .inl (ww_g X 0, 80, .inl (if px_hole (px_cut (fun j => px_hole pl j) T.1 (60 * f) (60 * f + i2 - 60 * f) (-1)) ((60 * f) + i2) = true then ow2 else upd ow2 ((px_cut (fun j => px_hole pl j) T.1 (60 * f) (60 * f + i2 - 60 * f) (-1)) ((60 * f) + i2)).toNatClampNeg (-1)))), (a7, .inl (ww_g X 0, 80, .inl vl)), (a8, .inl (ww_g X 0, 60, .inl (px_bcp pl (60 * f) bf 60)))]) rfl rfl (by decide) ?_
                    refine ww_iinc O dd_MO_preallocate_253 6 rfl (v := nI (i2 + 1)) (nI_add _ 1) (by rw [hn]; decide) rfl (L' := [(0, .ref m), (1, .int (nI f)), (2, .int (nI b)), (3, .int (nI n)), (4, .int (nI (px_cnt (px_hole pl) (60 * f + b) n))), (5, .int (nI y)), (6, .int (nI (i2 + 1)))]) rfl ?_
                    refine ww_goto O dd_MO_preallocate_256 (tgt := 225) rfl ?_
                    have hh := px_rg.lt0 (hI.rg (60 * f + i2) (by omega)) h239
                    rw [px_cut_t (f := T.1) (b := 60 * f + i2) (by omega) (by simp [hh]), px_upd_same (f := wr) (v := nI 0) (hw _ (by omega) hh), px_hole_ct (by omega), px_cut_o (by omega)]
                    refine ihu (i2 + 1) _ (by omega) (by omega) ?_
                    rw [← u3, px_rel_s (b := 60 * f + i2) (by omega), hh]
                    cases px_hole T.1 (60 * f + i2) <;> rfl
            have hu0 := undo 60 0 T.2 (by omega) (by omega) (by rw [show 60 * f + 60 - (60 * f + 0) = 60 by omega]; exact hRel)
            rw [show 60 * f + 0 - 60 * f = 0 by omega, px_cut_0] at hu0
            exact hu0
        · exfalso; omega
      · exfalso; omega
    | succ k ih =>
      intro i y h1 h2 h3
      have hy9 := px_cnt_le (fun p => !(ow p == -1)) 0 i
      refine ww_iload O dd_MO_preallocate_141 6 rfl ?_
      refine ww_bipush O dd_MO_preallocate_143 (v := nI 80) rfl ?_
      refine ww_icmp_geN O dd_MO_preallocate_145 (tgt := 175) rfl (by omega) (by omega) (fun h145 => ?_) (fun h145 => ?_)
      · have ey : y = 80 - px_nu ow := by rw [h3, show i = 80 by omega]; exact htk
        refine ww_iload O dd_MO_preallocate_175 4 rfl ?_
        refine ww_bipush O dd_MO_preallocate_177 (v := nI 80) rfl ?_
        refine ww_iload O dd_MO_preallocate_179 5 rfl ?_
        refine ww_isub O dd_MO_preallocate_181 (v := nI (80 - y)) (pk_sub (by omega)) ?_
        refine ww_icmp_leN O dd_MO_preallocate_182 (tgt := 192) rfl (by omega) (by omega) (fun h182 => ?_) (fun h182 => ?_)
        · refine ww_aload_n O dd_MO_preallocate_192 0 rfl ?_
          refine ww_bipush O dd_MO_preallocate_193 (v := nI 60) rfl ?_
          refine ww_iload_n O dd_MO_preallocate_195 1 rfl ?_
          refine ww_imul O dd_MO_preallocate_196 (v := nI (60 * f)) (pk_mul _ _) ?_
          refine ww_iload_n O dd_MO_preallocate_197 2 rfl ?_
          refine ww_iadd O dd_MO_preallocate_198 (v := nI ((60 * f) + b)) (nI_add _ _) ?_
          refine ww_bipush O dd_MO_preallocate_199 (v := nI 60) rfl ?_
          refine ww_iload_n O dd_MO_preallocate_201 1 rfl ?_
          refine ww_imul O dd_MO_preallocate_202 (v := nI (60 * f)) (pk_mul _ _) ?_
          refine ww_iload_n O dd_MO_preallocate_203 2 rfl ?_
          refine ww_iadd O dd_MO_preallocate_204 (v := nI ((60 * f) + b)) (nI_add _ _) ?_
          refine ww_iload_n O dd_MO_preallocate_205 3 rfl ?_
          refine ww_iadd O dd_MO_preallocate_206 (v := nI (((60 * f) + b) + n)) (nI_add _ _) ?_
          refine ww_iconst O dd_MO_preallocate_207 (v := nI 1) rfl ?_
          refine ww_eqs (st' := [.int (px_b true), .int (nI (60 * f + b + n)), .int (nI (60 * f + b)), .ref m]) rfl ?_
          refine ww_callV (q0 := 0) (ci := 3) O (cc_MO_mapHoles _ _ _ m a1 a2 a3 a4 a5 a6 a7 a8 (nI 0) fi le pl wr pg pv sz ow vl (px_bcp pl (60 * f) bf 60) ((60 * f) + b) (((60 * f) + b) + n) true f hI (fun j g1 g2 g3 => hw j (by omega) g3) (by omega) (by omega) (by omega) (by omega) (by rw [show 60 * f + b + n - (60 * f + b) = n by omega]; simpa using hnu)) lc_MO_92 lx_MO_mapHoles_IIZ_V rfl rfl rfl (by rw [hR]; decide) (by rw [hR]; decide) (by rw [hR]; decide) rfl (Nat.le_of_ble_eq_true rfl) dd_MO_preallocate_208 rfl [0, 1, 2, 3, 4, 5, 6, 7, 8] [] [0, 1, 2, 3, 4, 5, 6, 7, 8] rfl (by decide) rfl (by decide) (by decide) (ws' := [(m, .inr (3, [.int (nI 0), .ref a1, .ref a2, .ref a3, .ref a4, .ref a5, .ref a6, .ref a7, .ref a8, .int fi, .int le])), (a1, .inl (ww_g X 0, 240, .inl ((px_mh 0 (60 * f) (fun j => px_on pg j || true) 60 ((60 * f) + b) (((60 * f) + b) + n) pl ow).1))), (a2, .inl (ww_g X 1, 240, .inl wr)), (a3, .inl (ww_g X 1, 240, .inl pg)), (a4, .inl (ww_g X 0, 240, .inl pv)), (a5, .inl (ww_g X 0, 4, .inl sz)), (a6, .inl (ww_g X 0, 80, .inl ((px_mh 0 (60 * f) (fun j => px_on pg j || true) 60 ((60 * f) + b) (((60 * f) + b) + n) pl ow).2))), (a7, .inl (ww_g X 0, 80, .inl vl)), (a8, .inl (ww_g X 0, 60, .inl (px_bcp pl (60 * f) bf 60)))]) rfl rfl (by decide) ?_
          rw [hT]
          refine ww_aload_n O dd_MO_preallocate_211 0 rfl ?_
          refine ww_callV (q0 := 0) (ci := 3) O (cc_MO_allFree _ _ _ m a1 a2 a3 a4 a5 a6 a7 a8 (nI 0) fi le T.1 wr pg pv sz T.2 vl (px_bcp pl (60 * f) bf 60) (fun b hb => t3.rg b hb)) lc_MO_85 lx_MO_allFree__I rfl rfl rfl (by rw [hR]; decide) (by rw [hR]; decide) (by rw [hR]; decide) rfl (Nat.le_of_ble_eq_true rfl) dd_MO_preallocate_212 rfl [0, 1, 2, 3, 4, 5, 6, 7, 8] [] [0, 1, 2, 3, 4, 5, 6, 7, 8] rfl (by decide) rfl (by decide) (by decide) (ws' := [(m, .inr (3, [.int (nI 0), .ref a1, .ref a2, .ref a3, .ref a4, .ref a5, .ref a6, .ref a7, .ref a8, .int ((px_xs T.1 wr le fi 4).2), .int ((px_xs T.1 wr le fi 4).1)])), (a1, .inl (ww_g X 0, 240, .inl T.1)), (a2, .inl (ww_g X 1, 240, .inl wr)), (a3, .inl (ww_g X 1, 240, .inl pg)), (a4, .inl (ww_g X 0, 240, .inl pv)), (a5, .inl (ww_g X 0, 4, .inl sz)), (a6, .inl (ww_g X 0, 80, .inl T.2)), (a7, .inl (ww_g X 0, 80, .inl vl)), (a8, .inl (ww_g X 0, 60, .inl (px_bcp pl (60 * f) bf 60)))]) rfl rfl (by decide) ?_
          refine ww_aload_n O dd_MO_preallocate_215 0 rfl ?_
          refine ww_callV (q0 := 0) (ci := 3) O (cc_MO_allReserved _ _ _ m a1 a2 a3 a4 a5 a6 a7 a8 (nI 0) ((px_xs T.1 wr le fi 4).2) ((px_xs T.1 wr le fi 4).1) T.1 wr pg pv sz T.2 vl (px_bcp pl (60 * f) bf 60) (fun b hb => t3.rg b hb)) lc_MO_89 lx_MO_allReserved__I rfl rfl rfl (by rw [hR]; decide) (by rw [hR]; decide) (by rw [hR]; decide) rfl (Nat.le_of_ble_eq_true rfl) dd_MO_preallocate_216 rfl [0, 1, 2, 3, 4, 5, 6, 7, 8] [] [0, 1, 2, 3, 4, 5, 6, 7, 8] rfl (by decide) rfl (by decide) (by decide) (ws' := [(m, .inr (3, [.int (nI 0), .ref a1, .ref a2, .ref a3, .ref a4, .ref a5, .ref a6, .ref a7, .ref a8, .int ((px_xs T.1 wr ((px_xs T.1 wr le fi 4).1) ((px_xs T.1 wr le fi 4).2) 4).2), .int ((px_xs T.1 wr ((px_xs T.1 wr le fi 4).1) ((px_xs T.1 wr le fi 4).2) 4).1)])), (a1, .inl (ww_g X 0, 240, .inl T.1)), (a2, .inl (ww_g X 1, 240, .inl wr)), (a3, .inl (ww_g X 1, 240, .inl pg)), (a4, .inl (ww_g X 0, 240, .inl pv)), (a5, .inl (ww_g X 0, 4, .inl sz)), (a6, .inl (ww_g X 0, 80, .inl T.2)), (a7, .inl (ww_g X 0, 80, .inl vl)), (a8, .inl (ww_g X 0, 60, .inl (px_bcp pl (60 * f) bf 60)))]) rfl rfl (by decide) ?_
          refine ww_icmp_ge O dd_MO_preallocate_219 (tgt := 266) rfl (fun h219 => ?_) (fun h219 => ?_)
          · exact absurd ((px_cmp (by omega) (by omega)).mp h219) hov
          · refine ww_iconst O dd_MO_preallocate_222 (v := nI 0) rfl ?_
            refine ww_istore O dd_MO_preallocate_223 (by rw [hn]; decide) rfl (L' := [(0, .ref m), (1, .int (nI f)), (2, .int (nI b)), (3, .int (nI n)), (4, .int (nI (px_cnt (px_hole pl) (60 * f + b) n))), (5, .int (nI y)), (6, .int (nI 0))]) rfl ?_
            generalize hRel : px_rel (fun j => px_hole pl j) T.1 60 (60 * f) T.2 = RR at F
            have undo : ∀ (k2 i2 : Nat) (ow2 : Nat → Int32), 60 ≤ i2 + k2 → i2 ≤ 60 → px_rel (fun j => px_hole pl j) T.1 (60 * f + 60 - (60 * f + i2)) (60 * f + i2) ow2 = RR → ww_at X 0 0 225 [(0, .ref m), (1, .int (nI f)), (2, .int (nI b)), (3, .int (nI n)), (4, .int (nI (px_cnt (px_hole pl) (60 * f + b) n))), (5, .int (nI y)), (6, .int (nI i2))] [] [(m, .inr (3, [.int (nI 0), .ref a1, .ref a2, .ref a3, .ref a4, .ref a5, .ref a6, .ref a7, .ref a8, .int ((px_xs T.1 wr ((px_xs T.1 wr le fi 4).1) ((px_xs T.1 wr le fi 4).2) 4).2), .int ((px_xs T.1 wr ((px_xs T.1 wr le fi 4).1) ((px_xs T.1 wr le fi 4).2) 4).1)])), (a1, .inl (ww_g X 0, 240, .inl (px_cut (fun j => px_hole pl j) T.1 (60 * f) (60 * f + i2 - 60 * f) (-1)))), (a2, .inl (ww_g X 1, 240, .inl wr)), (a3, .inl (ww_g X 1, 240, .inl pg)), (a4, .inl (ww_g X 0, 240, .inl pv)), (a5, .inl (ww_g X 0, 4, .inl sz)), (a6, .inl (ww_g X 0, 80, .inl ow2)), (a7, .inl (ww_g X 0, 80, .inl vl)), (a8, .inl (ww_g X 0, 60, .inl (px_bcp pl (60 * f) bf 60)))] := by
              intro k2
              induction k2 with
              | zero =>
                intro i2 ow2 u1 u2 u3
                refine ww_iload O dd_MO_preallocate_225 6 rfl ?_
                refine ww_bipush O dd_MO_preallocate_227 (v := nI 60) rfl ?_
                refine ww_icmp_geN O dd_MO_preallocate_229 (tgt := 259) rfl (by omega) (by omega) (fun h229 => ?_) (fun h229 => ?_)
                · refine ww_aload_n O dd_MO_preallocate_259 0 rfl ?_
                  refine ww_iconst O dd_MO_preallocate_260 (v := nI 3) rfl ?_
                  refine ww_put O ci_MO cy_MO cy_MO_ok cn_MO rfl 0 (by decide) lf_MO_35 rfl rfl (ty := .int) (by decide +kernel) dd_MO_preallocate_261 0 rfl rfl rfl (Nat.le_of_ble_eq_true rfl) (ws' := [(m, .inr (3, [.int (nI 3), .ref a1, .ref a2, .ref a3, .ref a4, .ref a5, .ref a6, .ref a7, .ref a8, .int ((px_xs T.1 wr ((px_xs T.1 wr le fi 4).1) ((px_xs T.1 wr le fi 4).2) 4).2), .int ((px_xs T.1 wr ((px_xs T.1 wr le fi 4).1) ((px_xs T.1 wr le fi 4).2) 4).1)])), (a1, .inl (ww_g X 0, 240, .inl (px_cut (fun j => px_hole pl j) T.1 (60 * f) (60 * f + i2 - 60 * f) (-1)))), (a2, .inl (ww_g X 1, 240, .inl wr)), (a3, .inl (ww_g X 1, 240, .inl pg)), (a4, .inl (ww_g X 0, 240, .inl pv)), (a5, .inl (ww_g X 0, 4, .inl sz)), (a6, .inl (ww_g X 0, 80, .inl ow2)), (a7, .inl (ww_g X 0, 80, .inl vl)), (a8, .inl (ww_g X 0, 60, .inl (px_bcp pl (60 * f) bf 60)))]) rfl ?_
                  refine ww_iconst O dd_MO_preallocate_264 (v := nI 0) rfl ?_
                  have eb : i2 = 60 := by omega
                  subst eb
                  rw [Nat.sub_self] at u3
                  subst u3
                  rw [show 60 * f + 60 - 60 * f = 60 by omega]
                  exact F.i dd_MO_preallocate_265
                · exfalso; omega
              | succ k2 ihu =>
                intro i2 ow2 u1 u2 u3
                refine ww_iload O dd_MO_preallocate_225 6 rfl ?_
                refine ww_bipush O dd_MO_preallocate_227 (v := nI 60) rfl ?_
                refine ww_icmp_geN O dd_MO_preallocate_229 (tgt := 259) rfl (by omega) (by omega) (fun h229 => ?_) (fun h229 => ?_)
                · refine ww_aload_n O dd_MO_preallocate_259 0 rfl ?_
                  refine ww_iconst O dd_MO_preallocate_260 (v := nI 3) rfl ?_
                  refine ww_put O ci_MO cy_MO cy_MO_ok cn_MO rfl 0 (by decide) lf_MO_35 rfl rfl (ty := .int) (by decide +kernel) dd_MO_preallocate_261 0 rfl rfl rfl (Nat.le_of_ble_eq_true rfl) (ws' := [(m, .inr (3, [.int (nI 3), .ref a1, .ref a2, .ref a3, .ref a4, .ref a5, .ref a6, .ref a7, .ref a8, .int ((px_xs T.1 wr ((px_xs T.1 wr le fi 4).1) ((px_xs T.1 wr le fi 4).2) 4).2), .int ((px_xs T.1 wr ((px_xs T.1 wr le fi 4).1) ((px_xs T.1 wr le fi 4).2) 4).1)])), (a1, .inl (ww_g X 0, 240, .inl (px_cut (fun j => px_hole pl j) T.1 (60 * f) (60 * f + i2 - 60 * f) (-1)))), (a2, .inl (ww_g X 1, 240, .inl wr)), (a3, .inl (ww_g X 1, 240, .inl pg)), (a4, .inl (ww_g X 0, 240, .inl pv)), (a5, .inl (ww_g X 0, 4, .inl sz)), (a6, .inl (ww_g X 0, 80, .inl ow2)), (a7, .inl (ww_g X 0, 80, .inl vl)), (a8, .inl (ww_g X 0, 60, .inl (px_bcp pl (60 * f) bf 60)))]) rfl ?_
                  refine ww_iconst O dd_MO_preallocate_264 (v := nI 0) rfl ?_
                  have eb : i2 = 60 := by omega
                  subst eb
                  rw [Nat.sub_self] at u3
                  subst u3
                  rw [show 60 * f + 60 - 60 * f = 60 by omega]
                  exact F.i dd_MO_preallocate_265
                · refine ww_aload_n O dd_MO_preallocate_232 0 rfl ?_
                  refine ww_get O ci_MO rfl 8 (by decide) lf_MO_32 rfl dd_MO_preallocate_233 0 rfl rfl ?_
                  refine ww_iload O dd_MO_preallocate_236 6 rfl ?_
                  refine ww_iald O dd_MO_preallocate_238 8 rfl (by omega) (by decide) rfl ?_
                  rw [px_bcp_i (by omega)]
                  refine ww_if_ge O dd_MO_preallocate_239 (tgt := 253) rfl (fun h239 => ?_) (fun h239 => ?_)
                  · refine ww_iinc O dd_MO_preallocate_253 6 rfl (v := nI (i2 + 1)) (nI_add _ 1) (by rw [hn]; decide) rfl (L' := [(0, .ref m), (1, .int (nI f)), (2, .int (nI b)), (3, .int (nI n)), (4, .int (nI (px_cnt (px_hole pl) (60 * f + b) n))), (5, .int (nI y)), (6, .int (nI (i2 + 1)))]) rfl ?_
                    refine ww_goto O dd_MO_preallocate_256 (tgt := 225) rfl ?_
                    have hh := px_rg.ge0 (hI.rg (60 * f + i2) (by omega)) h239
                    rw [px_cut_f (f := T.1) (b := 60 * f + i2) (by omega) (by simp [hh])]
                    exact ihu (i2 + 1) _ (by omega) (by omega) (by rw [← u3, px_rel_s (b := 60 * f + i2) (by omega), hh]; rfl)
                  · refine ww_aload_n O dd_MO_preallocate_242 0 rfl ?_
                    refine ww_bipush O dd_MO_preallocate_243 (v := nI 60) rfl ?_
                    refine ww_iload_n O dd_MO_preallocate_245 1 rfl ?_
                    refine ww_imul O dd_MO_preallocate_246 (v := nI (60 * f)) (pk_mul _ _) ?_
                    refine ww_iload O dd_MO_preallocate_247 6 rfl ?_
                    refine ww_iadd O dd_MO_preallocate_249 (v := nI ((60 * f) + i2)) (nI_add _ _) ?_
                    refine ww_callV (q0 := 0) (ci := 3) O (cc_MO_unmap _ _ _ m a1 a2 a3 a4 a5 a6 a7 a8 (nI 0) ((px_xs T.1 wr ((px_xs T.1 wr le fi 4).1) ((px_xs T.1 wr le fi 4).2) 4).2) ((px_xs T.1 wr ((px_xs T.1 wr le fi 4).1) ((px_xs T.1 wr le fi 4).2) 4).1) (px_cut (fun j => px_hole pl j) T.1 (60 * f) (60 * f + i2 - 60 * f) (-1)) wr pg pv sz ow2 vl (px_bcp pl (60 * f) bf 60) ((60 * f) + i2) (by rw [px_cut_o (by omega)]; exact t3.rg _ (by omega)) (by omega)) lc_MO_96 lx_MO_unmap_I_V rfl rfl rfl (by rw [hR]; decide) (by rw [hR]; decide) (by rw [hR]; decide) rfl (Nat.le_of_ble_eq_true rfl) dd_MO_preallocate_250 rfl [0, 1, 2, 3, 4, 5, 6, 7, 8] [] [0, 1, 2, 3, 4, 5, 6, 7, 8] rfl (by decide) rfl (by decide) (by decide) (ws' := [(m, .inr (3, [.int (nI 0), .ref a1, .ref a2, .ref a3, .ref a4, .ref a5, .ref a6, .ref a7, .ref a8, .int ((px_xs T.1 wr ((px_xs T.1 wr le fi 4).1) ((px_xs T.1 wr le fi 4).2) 4).2), .int ((px_xs T.1 wr ((px_xs T.1 wr le fi 4).1) ((px_xs T.1 wr le fi 4).2) 4).1)])), (a1, .inl (ww_g X 0, 240, .inl (upd (px_cut (fun j => px_hole pl j) T.1 (60 * f) (60 * f + i2 - 60 * f) (-1)) ((60 * f) + i2) (-1)))), (a2, .inl (ww_g X 1, 240, .inl (upd wr ((60 * f) + i2) (nI 0)))), (a3, .inl (ww_g X 1, 240, .inl pg)), (a4, .inl (ww_g X 0, 240, .inl pv)), (a5, .inl (ww_g X 0, 4, .inl sz)), (a6, .inl (ww_g X 0, 80, .inl (if px_hole (px_cut (fun j => px_hole pl j) T.1 (60 * f) (60 * f + i2 - 60 * f) (-1)) ((60 * f) + i2) = true then ow2 else upd ow2 ((px_cut (fun j => px_hole pl j) T.1 (60 * f) (60 * f + i2 - 60 * f) (-1)) ((60 * f) + i2)).toNatClampNeg (-1)))), (a7, .inl (ww_g X 0, 80, .inl vl)), (a8, .inl (ww_g X 0, 60, .inl (px_bcp pl (60 * f) bf 60)))]) rfl rfl (by decide) ?_
                    refine ww_iinc O dd_MO_preallocate_253 6 rfl (v := nI (i2 + 1)) (nI_add _ 1) (by rw [hn]; decide) rfl (L' := [(0, .ref m), (1, .int (nI f)), (2, .int (nI b)), (3, .int (nI n)), (4, .int (nI (px_cnt (px_hole pl) (60 * f + b) n))), (5, .int (nI y)), (6, .int (nI (i2 + 1)))]) rfl ?_
                    refine ww_goto O dd_MO_preallocate_256 (tgt := 225) rfl ?_
                    have hh := px_rg.lt0 (hI.rg (60 * f + i2) (by omega)) h239
                    rw [px_cut_t (f := T.1) (b := 60 * f + i2) (by omega) (by simp [hh]), px_upd_same (f := wr) (v := nI 0) (hw _ (by omega) hh), px_hole_ct (by omega), px_cut_o (by omega)]
                    refine ihu (i2 + 1) _ (by omega) (by omega) ?_
                    rw [← u3, px_rel_s (b := 60 * f + i2) (by omega), hh]
                    cases px_hole T.1 (60 * f + i2) <;> rfl
            have hu0 := undo 60 0 T.2 (by omega) (by omega) (by rw [show 60 * f + 60 - (60 * f + 0) = 60 by omega]; exact hRel)
            rw [show 60 * f + 0 - 60 * f = 0 by omega, px_cut_0] at hu0
            exact hu0
        · exfalso; omega
      · refine ww_aload_n O dd_MO_preallocate_148 0 rfl ?_
        refine ww_get O ci_MO rfl 6 (by decide) lf_MO_26 rfl dd_MO_preallocate_149 0 rfl rfl ?_
        refine ww_iload O dd_MO_preallocate_152 6 rfl ?_
        refine ww_iald O dd_MO_preallocate_154 6 rfl (by omega) (by decide) rfl ?_
        refine ww_if_lt O dd_MO_preallocate_155 (tgt := 165) rfl (fun h155 => ?_) (fun h155 => ?_)
        · refine ww_iload O dd_MO_preallocate_165 5 rfl ?_
          refine ww_istore O dd_MO_preallocate_167 (by rw [hn]; decide) rfl (L' := [(0, .ref m), (1, .int (nI f)), (2, .int (nI b)), (3, .int (nI n)), (4, .int (nI (px_cnt (px_hole pl) (60 * f + b) n))), (5, .int (nI y)), (6, .int (nI i))]) rfl ?_
          refine ww_iinc O dd_MO_preallocate_169 6 rfl (v := nI (i + 1)) (nI_add _ 1) (by rw [hn]; decide) rfl (L' := [(0, .ref m), (1, .int (nI f)), (2, .int (nI b)), (3, .int (nI n)), (4, .int (nI (px_cnt (px_hole pl) (60 * f + b) n))), (5, .int (nI y)), (6, .int (nI (i + 1)))]) rfl ?_
          refine ww_goto O dd_MO_preallocate_172 (tgt := 141) rfl ?_
          exact ih (i + 1) y (by omega) (by omega) (px_c0f h3 (by have q := (hI.rq i (by omega)).lt (Int32.not_le.mpr h155); simp [q]))
        · refine ww_iload O dd_MO_preallocate_158 5 rfl ?_
          refine ww_iconst O dd_MO_preallocate_160 (v := nI 1) rfl ?_
          refine ww_iadd O dd_MO_preallocate_161 (v := nI (y + 1)) (nI_add _ _) ?_
          refine ww_goto O dd_MO_preallocate_162 (tgt := 167) rfl ?_
          refine ww_istore O dd_MO_preallocate_167 (by rw [hn]; decide) rfl (L' := [(0, .ref m), (1, .int (nI f)), (2, .int (nI b)), (3, .int (nI n)), (4, .int (nI (px_cnt (px_hole pl) (60 * f + b) n))), (5, .int (nI (y + 1))), (6, .int (nI i))]) rfl ?_
          refine ww_iinc O dd_MO_preallocate_169 6 rfl (v := nI (i + 1)) (nI_add _ 1) (by rw [hn]; decide) rfl (L' := [(0, .ref m), (1, .int (nI f)), (2, .int (nI b)), (3, .int (nI n)), (4, .int (nI (px_cnt (px_hole pl) (60 * f + b) n))), (5, .int (nI (y + 1))), (6, .int (nI (i + 1)))]) rfl ?_
          refine ww_goto O dd_MO_preallocate_172 (tgt := 141) rfl ?_
          exact ih (i + 1) (y + 1) (by omega) (by omega) (px_c0t h3 (by have q := (hI.rq i (by omega)).ge (Int32.not_lt.mp h155); simp [q]))
  have loop2 : ∀ (k i x : Nat), 60 * f + b + n ≤ i + k → 60 * f + b ≤ i → i ≤ 60 * f + b + n → x = px_cnt (px_hole pl) (60 * f + b) (i - (60 * f + b)) → ww_at X 0 0 98 [(0, .ref m), (1, .int (nI f)), (2, .int (nI b)), (3, .int (nI n)), (4, .int (nI x)), (5, .int (nI 0)), (6, .int (nI i))] [] [(m, .inr (3, [.int (nI 0), .ref a1, .ref a2, .ref a3, .ref a4, .ref a5, .ref a6, .ref a7, .ref a8, .int fi, .int le])), (a1, .inl (ww_g X 0, 240, .inl pl)), (a2, .inl (ww_g X 1, 240, .inl wr)), (a3, .inl (ww_g X 1, 240, .inl pg)), (a4, .inl (ww_g X 0, 240, .inl pv)), (a5, .inl (ww_g X 0, 4, .inl sz)), (a6, .inl (ww_g X 0, 80, .inl ow)), (a7, .inl (ww_g X 0, 80, .inl vl)), (a8, .inl (ww_g X 0, 60, .inl (px_bcp pl (60 * f) bf 60)))] := by
    intro k
    induction k with
    | zero =>
      intro i x h1 h2 h3 h4
      have hx9 := px_cnt_le (px_hole pl) (60 * f + b) (i - (60 * f + b))
      refine ww_iload O dd_MO_preallocate_98 6 rfl ?_
      refine ww_bipush O dd_MO_preallocate_100 (v := nI 60) rfl ?_
      refine ww_iload_n O dd_MO_preallocate_102 1 rfl ?_
      refine ww_imul O dd_MO_preallocate_103 (v := nI (60 * f)) (pk_mul _ _) ?_
      refine ww_iload_n O dd_MO_preallocate_104 2 rfl ?_
      refine ww_iadd O dd_MO_preallocate_105 (v := nI ((60 * f) + b)) (nI_add _ _) ?_
      refine ww_iload_n O dd_MO_preallocate_106 3 rfl ?_
      refine ww_iadd O dd_MO_preallocate_107 (v := nI (((60 * f) + b) + n)) (nI_add _ _) ?_
      refine ww_icmp_geN O dd_MO_preallocate_108 (tgt := 138) rfl (by omega) (by omega) (fun h108 => ?_) (fun h108 => ?_)
      · refine ww_iconst O dd_MO_preallocate_138 (v := nI 0) rfl ?_
        refine ww_istore O dd_MO_preallocate_139 (by rw [hn]; decide) rfl (L' := [(0, .ref m), (1, .int (nI f)), (2, .int (nI b)), (3, .int (nI n)), (4, .int (nI x)), (5, .int (nI 0)), (6, .int (nI 0))]) rfl ?_
        rw [show i - (60 * f + b) = n by omega] at h4
        subst h4
        exact loop3 80 0 0 (by omega) (by omega) rfl
      · exfalso; omega
    | succ k ih =>
      intro i x h1 h2 h3 h4
      have hx9 := px_cnt_le (px_hole pl) (60 * f + b) (i - (60 * f + b))
      refine ww_iload O dd_MO_preallocate_98 6 rfl ?_
      refine ww_bipush O dd_MO_preallocate_100 (v := nI 60) rfl ?_
      refine ww_iload_n O dd_MO_preallocate_102 1 rfl ?_
      refine ww_imul O dd_MO_preallocate_103 (v := nI (60 * f)) (pk_mul _ _) ?_
      refine ww_iload_n O dd_MO_preallocate_104 2 rfl ?_
      refine ww_iadd O dd_MO_preallocate_105 (v := nI ((60 * f) + b)) (nI_add _ _) ?_
      refine ww_iload_n O dd_MO_preallocate_106 3 rfl ?_
      refine ww_iadd O dd_MO_preallocate_107 (v := nI (((60 * f) + b) + n)) (nI_add _ _) ?_
      refine ww_icmp_geN O dd_MO_preallocate_108 (tgt := 138) rfl (by omega) (by omega) (fun h108 => ?_) (fun h108 => ?_)
      · refine ww_iconst O dd_MO_preallocate_138 (v := nI 0) rfl ?_
        refine ww_istore O dd_MO_preallocate_139 (by rw [hn]; decide) rfl (L' := [(0, .ref m), (1, .int (nI f)), (2, .int (nI b)), (3, .int (nI n)), (4, .int (nI x)), (5, .int (nI 0)), (6, .int (nI 0))]) rfl ?_
        rw [show i - (60 * f + b) = n by omega] at h4
        subst h4
        exact loop3 80 0 0 (by omega) (by omega) rfl
      · refine ww_aload_n O dd_MO_preallocate_111 0 rfl ?_
        refine ww_get O ci_MO rfl 1 (by decide) lf_MO_7 rfl dd_MO_preallocate_112 0 rfl rfl ?_
        refine ww_iload O dd_MO_preallocate_115 6 rfl ?_
        refine ww_iald O dd_MO_preallocate_117 1 rfl (by omega) (by decide) rfl ?_
        refine ww_if_ge O dd_MO_preallocate_118 (tgt := 128) rfl (fun h118 => ?_) (fun h118 => ?_)
        · refine ww_iload O dd_MO_preallocate_128 4 rfl ?_
          refine ww_istore O dd_MO_preallocate_130 (by rw [hn]; decide) rfl (L' := [(0, .ref m), (1, .int (nI f)), (2, .int (nI b)), (3, .int (nI n)), (4, .int (nI x)), (5, .int (nI 0)), (6, .int (nI i))]) rfl ?_
          refine ww_iinc O dd_MO_preallocate_132 6 rfl (v := nI (i + 1)) (nI_add _ 1) (by rw [hn]; decide) rfl (L' := [(0, .ref m), (1, .int (nI f)), (2, .int (nI b)), (3, .int (nI n)), (4, .int (nI x)), (5, .int (nI 0)), (6, .int (nI (i + 1)))]) rfl ?_
          refine ww_goto O dd_MO_preallocate_135 (tgt := 98) rfl ?_
          exact ih (i + 1) x (by omega) (by omega) (by omega) (px_caf h2 h4 (px_rg.ge0 (hI.rg i (by omega)) h118))
        · refine ww_iload O dd_MO_preallocate_121 4 rfl ?_
          refine ww_iconst O dd_MO_preallocate_123 (v := nI 1) rfl ?_
          refine ww_iadd O dd_MO_preallocate_124 (v := nI (x + 1)) (nI_add _ _) ?_
          refine ww_goto O dd_MO_preallocate_125 (tgt := 130) rfl ?_
          refine ww_istore O dd_MO_preallocate_130 (by rw [hn]; decide) rfl (L' := [(0, .ref m), (1, .int (nI f)), (2, .int (nI b)), (3, .int (nI n)), (4, .int (nI (x + 1))), (5, .int (nI 0)), (6, .int (nI i))]) rfl ?_
          refine ww_iinc O dd_MO_preallocate_132 6 rfl (v := nI (i + 1)) (nI_add _ 1) (by rw [hn]; decide) rfl (L' := [(0, .ref m), (1, .int (nI f)), (2, .int (nI b)), (3, .int (nI n)), (4, .int (nI (x + 1))), (5, .int (nI 0)), (6, .int (nI (i + 1)))]) rfl ?_
          refine ww_goto O dd_MO_preallocate_135 (tgt := 98) rfl ?_
          exact ih (i + 1) (x + 1) (by omega) (by omega) (by omega) (px_cat h2 h4 (px_rg.lt0 (hI.rg i (by omega)) h118))
  have loop1 : ∀ (k i : Nat), 60 ≤ i + k → i ≤ 60 → ww_at X 0 0 58 [(0, .ref m), (1, .int (nI f)), (2, .int (nI b)), (3, .int (nI n)), (4, .int (nI 0)), (5, .int (nI 0)), (6, .int (nI i))] [] [(m, .inr (3, [.int (nI 0), .ref a1, .ref a2, .ref a3, .ref a4, .ref a5, .ref a6, .ref a7, .ref a8, .int fi, .int le])), (a1, .inl (ww_g X 0, 240, .inl pl)), (a2, .inl (ww_g X 1, 240, .inl wr)), (a3, .inl (ww_g X 1, 240, .inl pg)), (a4, .inl (ww_g X 0, 240, .inl pv)), (a5, .inl (ww_g X 0, 4, .inl sz)), (a6, .inl (ww_g X 0, 80, .inl ow)), (a7, .inl (ww_g X 0, 80, .inl vl)), (a8, .inl (ww_g X 0, 60, .inl (px_bcp pl (60 * f) bf i)))] := by
    intro k
    induction k with
    | zero =>
      intro i h1 h2
      refine ww_iload O dd_MO_preallocate_58 6 rfl ?_
      refine ww_bipush O dd_MO_preallocate_60 (v := nI 60) rfl ?_
      refine ww_icmp_geN O dd_MO_preallocate_62 (tgt := 90) rfl (by omega) (by omega) (fun h62 => ?_) (fun h62 => ?_)
      · refine ww_bipush O dd_MO_preallocate_90 (v := nI 60) rfl ?_
        refine ww_iload_n O dd_MO_preallocate_92 1 rfl ?_
        refine ww_imul O dd_MO_preallocate_93 (v := nI (60 * f)) (pk_mul _ _) ?_
        refine ww_iload_n O dd_MO_preallocate_94 2 rfl ?_
        refine ww_iadd O dd_MO_preallocate_95 (v := nI ((60 * f) + b)) (nI_add _ _) ?_
        refine ww_istore O dd_MO_preallocate_96 (by rw [hn]; decide) rfl (L' := [(0, .ref m), (1, .int (nI f)), (2, .int (nI b)), (3, .int (nI n)), (4, .int (nI 0)), (5, .int (nI 0)), (6, .int (nI ((60 * f) + b)))]) rfl ?_
        have ei : i = 60 := by omega
        subst ei
        exact loop2 n (60 * f + b) 0 (by omega) (by omega) (by omega) (by rw [Nat.sub_self]; rfl)
      · exfalso; omega
    | succ k ih =>
      intro i h1 h2
      refine ww_iload O dd_MO_preallocate_58 6 rfl ?_
      refine ww_bipush O dd_MO_preallocate_60 (v := nI 60) rfl ?_
      refine ww_icmp_geN O dd_MO_preallocate_62 (tgt := 90) rfl (by omega) (by omega) (fun h62 => ?_) (fun h62 => ?_)
      · refine ww_bipush O dd_MO_preallocate_90 (v := nI 60) rfl ?_
        refine ww_iload_n O dd_MO_preallocate_92 1 rfl ?_
        refine ww_imul O dd_MO_preallocate_93 (v := nI (60 * f)) (pk_mul _ _) ?_
        refine ww_iload_n O dd_MO_preallocate_94 2 rfl ?_
        refine ww_iadd O dd_MO_preallocate_95 (v := nI ((60 * f) + b)) (nI_add _ _) ?_
        refine ww_istore O dd_MO_preallocate_96 (by rw [hn]; decide) rfl (L' := [(0, .ref m), (1, .int (nI f)), (2, .int (nI b)), (3, .int (nI n)), (4, .int (nI 0)), (5, .int (nI 0)), (6, .int (nI ((60 * f) + b)))]) rfl ?_
        have ei : i = 60 := by omega
        subst ei
        exact loop2 n (60 * f + b) 0 (by omega) (by omega) (by omega) (by rw [Nat.sub_self]; rfl)
      · refine ww_aload_n O dd_MO_preallocate_65 0 rfl ?_
        refine ww_get O ci_MO rfl 8 (by decide) lf_MO_32 rfl dd_MO_preallocate_66 0 rfl rfl ?_
        refine ww_iload O dd_MO_preallocate_69 6 rfl ?_
        refine ww_aload_n O dd_MO_preallocate_71 0 rfl ?_
        refine ww_get O ci_MO rfl 1 (by decide) lf_MO_7 rfl dd_MO_preallocate_72 0 rfl rfl ?_
        refine ww_bipush O dd_MO_preallocate_75 (v := nI 60) rfl ?_
        refine ww_iload_n O dd_MO_preallocate_77 1 rfl ?_
        refine ww_imul O dd_MO_preallocate_78 (v := nI (60 * f)) (pk_mul _ _) ?_
        refine ww_iload O dd_MO_preallocate_79 6 rfl ?_
        refine ww_iadd O dd_MO_preallocate_81 (v := nI ((60 * f) + i)) (nI_add _ _) ?_
        refine ww_iald O dd_MO_preallocate_82 1 rfl (by omega) (by decide) rfl ?_
        refine ww_iast O dd_MO_preallocate_83 8 rfl (by omega) (by decide) (ws' := [(m, .inr (3, [.int (nI 0), .ref a1, .ref a2, .ref a3, .ref a4, .ref a5, .ref a6, .ref a7, .ref a8, .int fi, .int le])), (a1, .inl (ww_g X 0, 240, .inl pl)), (a2, .inl (ww_g X 1, 240, .inl wr)), (a3, .inl (ww_g X 1, 240, .inl pg)), (a4, .inl (ww_g X 0, 240, .inl pv)), (a5, .inl (ww_g X 0, 4, .inl sz)), (a6, .inl (ww_g X 0, 80, .inl ow)), (a7, .inl (ww_g X 0, 80, .inl vl)), (a8, .inl (ww_g X 0, 60, .inl (upd (px_bcp pl (60 * f) bf i) i (pl ((60 * f) + i)))))]) rfl ?_
        refine ww_iinc O dd_MO_preallocate_84 6 rfl (v := nI (i + 1)) (nI_add _ 1) (by rw [hn]; decide) rfl (L' := [(0, .ref m), (1, .int (nI f)), (2, .int (nI b)), (3, .int (nI n)), (4, .int (nI 0)), (5, .int (nI 0)), (6, .int (nI (i + 1)))]) rfl ?_
        refine ww_goto O dd_MO_preallocate_87 (tgt := 58) rfl ?_
        rw [px_bcp_s]
        exact ih (i + 1) (by omega) (by omega)
  have h0 := loop1 60 0 (by omega) (by omega)
  rw [px_bcp_0] at h0
  refine ww_aload_n O dd_MO_preallocate_0 0 rfl ?_
  refine ww_iload_n O dd_MO_preallocate_1 1 rfl ?_
  refine ww_callS O (cc_MO_noFile _ _ _ (nI f) ) lc_MO_79 ls_MO_noFile_I_Z (by rw [hR]; decide) (by rw [hR]; decide) (by rw [hR]; decide) rfl (Nat.le_of_ble_eq_true rfl) dd_MO_preallocate_2 rfl [] [0, 1, 2, 3, 4, 5, 6, 7, 8] [0, 1, 2, 3, 4, 5, 6, 7, 8] rfl (by decide) rfl (by decide) (by decide) (ws' := [(m, .inr (3, [.int cd, .ref a1, .ref a2, .ref a3, .ref a4, .ref a5, .ref a6, .ref a7, .ref a8, .int fi, .int le])), (a1, .inl (ww_g X 0, 240, .inl pl)), (a2, .inl (ww_g X 1, 240, .inl wr)), (a3, .inl (ww_g X 1, 240, .inl pg)), (a4, .inl (ww_g X 0, 240, .inl pv)), (a5, .inl (ww_g X 0, 4, .inl sz)), (a6, .inl (ww_g X 0, 80, .inl ow)), (a7, .inl (ww_g X 0, 80, .inl vl)), (a8, .inl (ww_g X 0, 60, .inl bf))]) rfl rfl (by decide) ?_
  rw [px_nf_nI (k := 3) (by omega) (by decide)]
  refine ww_if_neB O dd_MO_preallocate_5 (tgt := 15) rfl (fun h5 => ?_) (fun h5 => ?_)
  · exact absurd h5 (by decide)
  · refine ww_iload_n O dd_MO_preallocate_8 2 rfl ?_
    refine ww_callS O (cc_MO_noBlock _ _ _ (nI b) ) lc_MO_82 ls_MO_noBlock_I_Z (by rw [hR]; decide) (by rw [hR]; decide) (by rw [hR]; decide) rfl (Nat.le_of_ble_eq_true rfl) dd_MO_preallocate_9 rfl [] [0, 1, 2, 3, 4, 5, 6, 7, 8] [0, 1, 2, 3, 4, 5, 6, 7, 8] rfl (by decide) rfl (by decide) (by decide) (ws' := [(m, .inr (3, [.int cd, .ref a1, .ref a2, .ref a3, .ref a4, .ref a5, .ref a6, .ref a7, .ref a8, .int fi, .int le])), (a1, .inl (ww_g X 0, 240, .inl pl)), (a2, .inl (ww_g X 1, 240, .inl wr)), (a3, .inl (ww_g X 1, 240, .inl pg)), (a4, .inl (ww_g X 0, 240, .inl pv)), (a5, .inl (ww_g X 0, 4, .inl sz)), (a6, .inl (ww_g X 0, 80, .inl ow)), (a7, .inl (ww_g X 0, 80, .inl vl)), (a8, .inl (ww_g X 0, 60, .inl bf))]) rfl rfl (by decide) ?_
    rw [px_nf_nI (k := 59) (by omega) (by decide)]
    refine ww_if_eqB O dd_MO_preallocate_12 (tgt := 19) rfl (fun h12 => ?_) (fun h12 => ?_)
    · refine ww_iload_n O dd_MO_preallocate_19 3 rfl ?_
      refine ww_iconst O dd_MO_preallocate_20 (v := nI 1) rfl ?_
      refine ww_icmp_ltN O dd_MO_preallocate_21 (tgt := 32) rfl (by omega) (by omega) (fun h21 => ?_) (fun h21 => ?_)
      · exfalso; omega
      · refine ww_iload_n O dd_MO_preallocate_24 3 rfl ?_
        refine ww_bipush O dd_MO_preallocate_25 (v := nI 60) rfl ?_
        refine ww_iload_n O dd_MO_preallocate_27 2 rfl ?_
        refine ww_isub O dd_MO_preallocate_28 (v := nI (60 - b)) (pk_sub (by omega)) ?_
        refine ww_icmp_leN O dd_MO_preallocate_29 (tgt := 36) rfl (by omega) (by omega) (fun h29 => ?_) (fun h29 => ?_)
        · refine ww_iconst O dd_MO_preallocate_36 (v := nI 0) rfl ?_
          refine ww_put O ci_MO cy_MO cy_MO_ok cn_MO rfl 0 (by decide) lf_MO_35 rfl rfl (ty := .int) (by decide +kernel) dd_MO_preallocate_37 0 rfl rfl rfl (Nat.le_of_ble_eq_true rfl) (ws' := [(m, .inr (3, [.int (nI 0), .ref a1, .ref a2, .ref a3, .ref a4, .ref a5, .ref a6, .ref a7, .ref a8, .int fi, .int le])), (a1, .inl (ww_g X 0, 240, .inl pl)), (a2, .inl (ww_g X 1, 240, .inl wr)), (a3, .inl (ww_g X 1, 240, .inl pg)), (a4, .inl (ww_g X 0, 240, .inl pv)), (a5, .inl (ww_g X 0, 4, .inl sz)), (a6, .inl (ww_g X 0, 80, .inl ow)), (a7, .inl (ww_g X 0, 80, .inl vl)), (a8, .inl (ww_g X 0, 60, .inl bf))]) rfl ?_
          refine ww_aload_n O dd_MO_preallocate_40 0 rfl ?_
          refine ww_get O ci_MO rfl 0 (by decide) lf_MO_35 rfl dd_MO_preallocate_41 0 rfl rfl ?_
          refine ww_if_leN O dd_MO_preallocate_44 (tgt := 49) rfl (by omega) (fun h44 => ?_) (fun h44 => ?_)
          · refine ww_iconst O dd_MO_preallocate_49 (v := nI 0) rfl ?_
            refine ww_istore O dd_MO_preallocate_50 (by rw [hn]; decide) rfl (L' := [(0, .ref m), (1, .int (nI f)), (2, .int (nI b)), (3, .int (nI n)), (4, .int (nI 0))]) rfl ?_
            refine ww_iconst O dd_MO_preallocate_52 (v := nI 0) rfl ?_
            refine ww_istore O dd_MO_preallocate_53 (by rw [hn]; decide) rfl (L' := [(0, .ref m), (1, .int (nI f)), (2, .int (nI b)), (3, .int (nI n)), (4, .int (nI 0)), (5, .int (nI 0))]) rfl ?_
            refine ww_iconst O dd_MO_preallocate_55 (v := nI 0) rfl ?_
            refine ww_istore O dd_MO_preallocate_56 (by rw [hn]; decide) rfl (L' := [(0, .ref m), (1, .int (nI f)), (2, .int (nI b)), (3, .int (nI n)), (4, .int (nI 0)), (5, .int (nI 0)), (6, .int (nI 0))]) rfl ?_
            exact h0
          · exfalso; omega
        · exfalso; omega
    · exact absurd h12 (by decide)
