theorem lc_MO_76 : ww_site "DelayedExtentsModel" 76 yy_MO_pagesOf bb_MO_pagesOf 4 (some .int) 1 := ⟨List.mem_filter.mpr ⟨List.mem_of_getElem? (i := 547) (by decide +kernel), by decide +kernel⟩, List.mem_filter.mpr ⟨List.mem_of_getElem? (i := 544) (by decide +kernel), by decide +kernel⟩, List.mem_filter.mpr ⟨List.mem_of_getElem? (i := 30) (by decide +kernel), by decide +kernel⟩, by decide, by decide, by decide +kernel⟩
theorem lx_MO_pagesOf_I_I : ww_virt yy_MO_pagesOf := ⟨List.mem_filter.mpr ⟨List.mem_of_getElem? (i := 546) (by decide +kernel), by decide +kernel⟩, List.mem_filter.mpr ⟨List.mem_of_getElem? (i := 11) (by decide +kernel), by decide +kernel⟩⟩
theorem dd_DE_extent_35 : decode bb_DE_extent 35 = .ok (.tableswitch 64 0 3 #[29, 32, 40, 48], 29) := by decide +kernel
theorem dd_DE_about_12 : decode bb_DE_about 12 = .ok (.tableswitch 73 0 5 #[40, 45, 50, 55, 63, 68], 40) := by decide +kernel
theorem dd_MO_about_39 : decode bb_MO_about 39 = .ok (.tableswitch 71 0 4 #[33, 40, 46, 54, 65], 33) := by decide +kernel
set_option maxRecDepth 4000 in
theorem cc_MO_about_bad1 (l : Launch) (D : va_G) (g : Nat → ClassId) (m : Nat) (a1 : Nat) (a2 : Nat) (a3 : Nat) (a4 : Nat) (a5 : Nat) (a6 : Nat) (a7 : Nat) (a8 : Nat) (cd : Int32) (fi : Int32) (le : Int32) (pl : Nat → Int32) (wr : Nat → Int32) (pg : Nat → Int32) (pv : Nat → Int32) (sz : Nat → Int32) (ow : Nat → Int32) (vl : Nat → Int32) (bf : Nat → Int32) (x : Int32) (y : Int32) (hbad : px_nf x 3 = true) : ww_ct l D g yy_MO_about bb_MO_about 3 (some .int) (ww_rm 5) [.ref m, .int x, .int y] [(m, .inr (3, [.int cd, .ref a1, .ref a2, .ref a3, .ref a4, .ref a5, .ref a6, .ref a7, .ref a8, .int fi, .int le])), (a1, .inl (g 0, 240, .inl pl)), (a2, .inl (g 1, 240, .inl wr)), (a3, .inl (g 1, 240, .inl pg)), (a4, .inl (g 0, 240, .inl pv)), (a5, .inl (g 0, 4, .inl sz)), (a6, .inl (g 0, 80, .inl ow)), (a7, .inl (g 0, 80, .inl vl)), (a8, .inl (g 0, 60, .inl bf))] (some (.int (nI 0))) [(m, .inr (3, [.int (nI 1), .ref a1, .ref a2, .ref a3, .ref a4, .ref a5, .ref a6, .ref a7, .ref a8, .int fi, .int le])), (a1, .inl (g 0, 240, .inl pl)), (a2, .inl (g 1, 240, .inl wr)), (a3, .inl (g 1, 240, .inl pg)), (a4, .inl (g 0, 240, .inl pv)), (a5, .inl (g 0, 4, .inl sz)), (a6, .inl (g 0, 80, .inl ow)), (a7, .inl (g 0, 80, .inl vl)), (a8, .inl (g 0, 60, .inl bf))] := by
  refine ww_start (by decide +kernel) rfl rfl (Nat.le_of_ble_eq_true rfl) (L0 := [(0, .ref m), (1, .int x), (2, .int y)]) rfl ?_
  intro X O hl hD hg hR hn F
  subst hl hD hg
  refine ww_aload_n O dd_MO_about_0 0 rfl ?_
  refine ww_iload_n O dd_MO_about_1 1 rfl ?_
  refine ww_callS O (cc_MO_noFile _ _ _ x ) lc_MO_79 ls_MO_noFile_I_Z (by rw [hR]; decide) (by rw [hR]; decide) (by rw [hR]; decide) rfl (Nat.le_of_ble_eq_true rfl) dd_MO_about_2 rfl [] [0, 1, 2, 3, 4, 5, 6, 7, 8] [0, 1, 2, 3, 4, 5, 6, 7, 8] rfl (by decide) rfl (by decide) (by decide) (ws' := [(m, .inr (3, [.int cd, .ref a1, .ref a2, .ref a3, .ref a4, .ref a5, .ref a6, .ref a7, .ref a8, .int fi, .int le])), (a1, .inl (ww_g X 0, 240, .inl pl)), (a2, .inl (ww_g X 1, 240, .inl wr)), (a3, .inl (ww_g X 1, 240, .inl pg)), (a4, .inl (ww_g X 0, 240, .inl pv)), (a5, .inl (ww_g X 0, 4, .inl sz)), (a6, .inl (ww_g X 0, 80, .inl ow)), (a7, .inl (ww_g X 0, 80, .inl vl)), (a8, .inl (ww_g X 0, 60, .inl bf))]) rfl rfl (by decide) ?_
  refine ww_if_eqB O dd_MO_about_5 (tgt := 12) rfl (fun h5 => ?_) (fun h5 => ?_)
  · rw [hbad] at h5; exact absurd h5 (by decide)
  · refine ww_iconst O dd_MO_about_8 (v := nI 1) rfl ?_
    refine ww_goto O dd_MO_about_9 (tgt := 26) rfl ?_
    refine ww_put O ci_MO cy_MO cy_MO_ok cn_MO rfl 0 (by decide) lf_MO_35 rfl rfl (ty := .int) (by decide +kernel) dd_MO_about_26 0 rfl rfl rfl (Nat.le_of_ble_eq_true rfl) (ws' := [(m, .inr (3, [.int (nI 1), .ref a1, .ref a2, .ref a3, .ref a4, .ref a5, .ref a6, .ref a7, .ref a8, .int fi, .int le])), (a1, .inl (ww_g X 0, 240, .inl pl)), (a2, .inl (ww_g X 1, 240, .inl wr)), (a3, .inl (ww_g X 1, 240, .inl pg)), (a4, .inl (ww_g X 0, 240, .inl pv)), (a5, .inl (ww_g X 0, 4, .inl sz)), (a6, .inl (ww_g X 0, 80, .inl ow)), (a7, .inl (ww_g X 0, 80, .inl vl)), (a8, .inl (ww_g X 0, 60, .inl bf))]) rfl ?_
    refine ww_aload_n O dd_MO_about_29 0 rfl ?_
    refine ww_get O ci_MO rfl 0 (by decide) lf_MO_35 rfl dd_MO_about_30 0 rfl rfl ?_
    refine ww_if_leN O dd_MO_about_33 (tgt := 38) rfl (by omega) (fun h33 => ?_) (fun h33 => ?_)
    · exfalso; omega
    · refine ww_iconst O dd_MO_about_36 (v := nI 0) rfl ?_
      exact F.i dd_MO_about_37
set_option maxRecDepth 4000 in
theorem cc_MO_about_bad2 (l : Launch) (D : va_G) (g : Nat → ClassId) (m : Nat) (a1 : Nat) (a2 : Nat) (a3 : Nat) (a4 : Nat) (a5 : Nat) (a6 : Nat) (a7 : Nat) (a8 : Nat) (cd : Int32) (fi : Int32) (le : Int32) (pl : Nat → Int32) (wr : Nat → Int32) (pg : Nat → Int32) (pv : Nat → Int32) (sz : Nat → Int32) (ow : Nat → Int32) (vl : Nat → Int32) (bf : Nat → Int32) (f : Nat) (x : Int32) (hf : f < 4) (hbad : x < 0 ∨ ¬ x ≤ nI 5) : ww_ct l D g yy_MO_about bb_MO_about 3 (some .int) (ww_rm 5) [.ref m, .int (nI f), .int x] [(m, .inr (3, [.int cd, .ref a1, .ref a2, .ref a3, .ref a4, .ref a5, .ref a6, .ref a7, .ref a8, .int fi, .int le])), (a1, .inl (g 0, 240, .inl pl)), (a2, .inl (g 1, 240, .inl wr)), (a3, .inl (g 1, 240, .inl pg)), (a4, .inl (g 0, 240, .inl pv)), (a5, .inl (g 0, 4, .inl sz)), (a6, .inl (g 0, 80, .inl ow)), (a7, .inl (g 0, 80, .inl vl)), (a8, .inl (g 0, 60, .inl bf))] (some (.int (nI 0))) [(m, .inr (3, [.int (nI 2), .ref a1, .ref a2, .ref a3, .ref a4, .ref a5, .ref a6, .ref a7, .ref a8, .int fi, .int le])), (a1, .inl (g 0, 240, .inl pl)), (a2, .inl (g 1, 240, .inl wr)), (a3, .inl (g 1, 240, .inl pg)), (a4, .inl (g 0, 240, .inl pv)), (a5, .inl (g 0, 4, .inl sz)), (a6, .inl (g 0, 80, .inl ow)), (a7, .inl (g 0, 80, .inl vl)), (a8, .inl (g 0, 60, .inl bf))] := by
  refine ww_start (by decide +kernel) rfl rfl (Nat.le_of_ble_eq_true rfl) (L0 := [(0, .ref m), (1, .int (nI f)), (2, .int x)]) rfl ?_
  intro X O hl hD hg hR hn F
  subst hl hD hg
  refine ww_aload_n O dd_MO_about_0 0 rfl ?_
  refine ww_iload_n O dd_MO_about_1 1 rfl ?_
  refine ww_callS O (cc_MO_noFile _ _ _ (nI f) ) lc_MO_79 ls_MO_noFile_I_Z (by rw [hR]; decide) (by rw [hR]; decide) (by rw [hR]; decide) rfl (Nat.le_of_ble_eq_true rfl) dd_MO_about_2 rfl [] [0, 1, 2, 3, 4, 5, 6, 7, 8] [0, 1, 2, 3, 4, 5, 6, 7, 8] rfl (by decide) rfl (by decide) (by decide) (ws' := [(m, .inr (3, [.int cd, .ref a1, .ref a2, .ref a3, .ref a4, .ref a5, .ref a6, .ref a7, .ref a8, .int fi, .int le])), (a1, .inl (ww_g X 0, 240, .inl pl)), (a2, .inl (ww_g X 1, 240, .inl wr)), (a3, .inl (ww_g X 1, 240, .inl pg)), (a4, .inl (ww_g X 0, 240, .inl pv)), (a5, .inl (ww_g X 0, 4, .inl sz)), (a6, .inl (ww_g X 0, 80, .inl ow)), (a7, .inl (ww_g X 0, 80, .inl vl)), (a8, .inl (ww_g X 0, 60, .inl bf))]) rfl rfl (by decide) ?_
  rw [px_nf_nI (k := 3) (by omega) (by decide)]
  refine ww_if_eqB O dd_MO_about_5 (tgt := 12) rfl (fun h5 => ?_) (fun h5 => ?_)
  · refine ww_iload_n O dd_MO_about_12 2 rfl ?_
    refine ww_if_lt O dd_MO_about_13 (tgt := 21) rfl (fun h13 => ?_) (fun h13 => ?_)
    · refine ww_iconst O dd_MO_about_21 (v := nI 2) rfl ?_
      refine ww_goto O dd_MO_about_22 (tgt := 26) rfl ?_
      refine ww_put O ci_MO cy_MO cy_MO_ok cn_MO rfl 0 (by decide) lf_MO_35 rfl rfl (ty := .int) (by decide +kernel) dd_MO_about_26 0 rfl rfl rfl (Nat.le_of_ble_eq_true rfl) (ws' := [(m, .inr (3, [.int (nI 2), .ref a1, .ref a2, .ref a3, .ref a4, .ref a5, .ref a6, .ref a7, .ref a8, .int fi, .int le])), (a1, .inl (ww_g X 0, 240, .inl pl)), (a2, .inl (ww_g X 1, 240, .inl wr)), (a3, .inl (ww_g X 1, 240, .inl pg)), (a4, .inl (ww_g X 0, 240, .inl pv)), (a5, .inl (ww_g X 0, 4, .inl sz)), (a6, .inl (ww_g X 0, 80, .inl ow)), (a7, .inl (ww_g X 0, 80, .inl vl)), (a8, .inl (ww_g X 0, 60, .inl bf))]) rfl ?_
      refine ww_aload_n O dd_MO_about_29 0 rfl ?_
      refine ww_get O ci_MO rfl 0 (by decide) lf_MO_35 rfl dd_MO_about_30 0 rfl rfl ?_
      refine ww_if_leN O dd_MO_about_33 (tgt := 38) rfl (by omega) (fun h33 => ?_) (fun h33 => ?_)
      · exfalso; omega
      · refine ww_iconst O dd_MO_about_36 (v := nI 0) rfl ?_
        exact F.i dd_MO_about_37
    · refine ww_iload_n O dd_MO_about_16 2 rfl ?_
      refine ww_iconst O dd_MO_about_17 (v := nI 5) rfl ?_
      refine ww_icmp_le O dd_MO_about_18 (tgt := 25) rfl (fun h18 => ?_) (fun h18 => ?_)
      · exact absurd h18 (hbad.elim (fun q => absurd q h13) id)
      · refine ww_iconst O dd_MO_about_21 (v := nI 2) rfl ?_
        refine ww_goto O dd_MO_about_22 (tgt := 26) rfl ?_
        refine ww_put O ci_MO cy_MO cy_MO_ok cn_MO rfl 0 (by decide) lf_MO_35 rfl rfl (ty := .int) (by decide +kernel) dd_MO_about_26 0 rfl rfl rfl (Nat.le_of_ble_eq_true rfl) (ws' := [(m, .inr (3, [.int (nI 2), .ref a1, .ref a2, .ref a3, .ref a4, .ref a5, .ref a6, .ref a7, .ref a8, .int fi, .int le])), (a1, .inl (ww_g X 0, 240, .inl pl)), (a2, .inl (ww_g X 1, 240, .inl wr)), (a3, .inl (ww_g X 1, 240, .inl pg)), (a4, .inl (ww_g X 0, 240, .inl pv)), (a5, .inl (ww_g X 0, 4, .inl sz)), (a6, .inl (ww_g X 0, 80, .inl ow)), (a7, .inl (ww_g X 0, 80, .inl vl)), (a8, .inl (ww_g X 0, 60, .inl bf))]) rfl ?_
        refine ww_aload_n O dd_MO_about_29 0 rfl ?_
        refine ww_get O ci_MO rfl 0 (by decide) lf_MO_35 rfl dd_MO_about_30 0 rfl rfl ?_
        refine ww_if_leN O dd_MO_about_33 (tgt := 38) rfl (by omega) (fun h33 => ?_) (fun h33 => ?_)
        · exfalso; omega
        · refine ww_iconst O dd_MO_about_36 (v := nI 0) rfl ?_
          exact F.i dd_MO_about_37
  · exact absurd h5 (by decide)
set_option maxRecDepth 4000 in
theorem cc_MO_about_0 (l : Launch) (D : va_G) (g : Nat → ClassId) (m : Nat) (a1 : Nat) (a2 : Nat) (a3 : Nat) (a4 : Nat) (a5 : Nat) (a6 : Nat) (a7 : Nat) (a8 : Nat) (cd : Int32) (fi : Int32) (le : Int32) (pl : Nat → Int32) (wr : Nat → Int32) (pg : Nat → Int32) (pv : Nat → Int32) (sz : Nat → Int32) (ow : Nat → Int32) (vl : Nat → Int32) (bf : Nat → Int32) (f : Nat) (hr : ∀ b, b < 240 → px_rg (pl b)) (hf : f < 4) : ww_ct l D g yy_MO_about bb_MO_about 3 (some .int) (ww_rm 5) [.ref m, .int (nI f), .int (nI 0)] [(m, .inr (3, [.int cd, .ref a1, .ref a2, .ref a3, .ref a4, .ref a5, .ref a6, .ref a7, .ref a8, .int fi, .int le])), (a1, .inl (g 0, 240, .inl pl)), (a2, .inl (g 1, 240, .inl wr)), (a3, .inl (g 1, 240, .inl pg)), (a4, .inl (g 0, 240, .inl pv)), (a5, .inl (g 0, 4, .inl sz)), (a6, .inl (g 0, 80, .inl ow)), (a7, .inl (g 0, 80, .inl vl)), (a8, .inl (g 0, 60, .inl bf))] (some (.int (sz f))) [(m, .inr (3, [.int (nI 0), .ref a1, .ref a2, .ref a3, .ref a4, .ref a5, .ref a6, .ref a7, .ref a8, .int fi, .int le])), (a1, .inl (g 0, 240, .inl pl)), (a2, .inl (g 1, 240, .inl wr)), (a3, .inl (g 1, 240, .inl pg)), (a4, .inl (g 0, 240, .inl pv)), (a5, .inl (g 0, 4, .inl sz)), (a6, .inl (g 0, 80, .inl ow)), (a7, .inl (g 0, 80, .inl vl)), (a8, .inl (g 0, 60, .inl bf))] := by
  refine ww_start (by decide +kernel) rfl rfl (Nat.le_of_ble_eq_true rfl) (L0 := [(0, .ref m), (1, .int (nI f)), (2, .int (nI 0))]) rfl ?_
  intro X O hl hD hg hR hn F
  subst hl hD hg
  refine ww_aload_n O dd_MO_about_0 0 rfl ?_
  refine ww_iload_n O dd_MO_about_1 1 rfl ?_
  refine ww_callS O (cc_MO_noFile _ _ _ (nI f) ) lc_MO_79 ls_MO_noFile_I_Z (by rw [hR]; decide) (by rw [hR]; decide) (by rw [hR]; decide) rfl (Nat.le_of_ble_eq_true rfl) dd_MO_about_2 rfl [] [0, 1, 2, 3, 4, 5, 6, 7, 8] [0, 1, 2, 3, 4, 5, 6, 7, 8] rfl (by decide) rfl (by decide) (by decide) (ws' := [(m, .inr (3, [.int cd, .ref a1, .ref a2, .ref a3, .ref a4, .ref a5, .ref a6, .ref a7, .ref a8, .int fi, .int le])), (a1, .inl (ww_g X 0, 240, .inl pl)), (a2, .inl (ww_g X 1, 240, .inl wr)), (a3, .inl (ww_g X 1, 240, .inl pg)), (a4, .inl (ww_g X 0, 240, .inl pv)), (a5, .inl (ww_g X 0, 4, .inl sz)), (a6, .inl (ww_g X 0, 80, .inl ow)), (a7, .inl (ww_g X 0, 80, .inl vl)), (a8, .inl (ww_g X 0, 60, .inl bf))]) rfl rfl (by decide) ?_
  rw [px_nf_nI (k := 3) (by omega) (by decide)]
  refine ww_if_eqB O dd_MO_about_5 (tgt := 12) rfl (fun h5 => ?_) (fun h5 => ?_)
  · refine ww_iload_n O dd_MO_about_12 2 rfl ?_
    refine ww_if_ltN O dd_MO_about_13 (tgt := 21) rfl (by omega) (fun h13 => ?_) (fun h13 => ?_)
    · exfalso; omega
    · refine ww_iload_n O dd_MO_about_16 2 rfl ?_
      refine ww_iconst O dd_MO_about_17 (v := nI 5) rfl ?_
      refine ww_icmp_leN O dd_MO_about_18 (tgt := 25) rfl (by omega) (by omega) (fun h18 => ?_) (fun h18 => ?_)
      · refine ww_iconst O dd_MO_about_25 (v := nI 0) rfl ?_
        refine ww_put O ci_MO cy_MO cy_MO_ok cn_MO rfl 0 (by decide) lf_MO_35 rfl rfl (ty := .int) (by decide +kernel) dd_MO_about_26 0 rfl rfl rfl (Nat.le_of_ble_eq_true rfl) (ws' := [(m, .inr (3, [.int (nI 0), .ref a1, .ref a2, .ref a3, .ref a4, .ref a5, .ref a6, .ref a7, .ref a8, .int fi, .int le])), (a1, .inl (ww_g X 0, 240, .inl pl)), (a2, .inl (ww_g X 1, 240, .inl wr)), (a3, .inl (ww_g X 1, 240, .inl pg)), (a4, .inl (ww_g X 0, 240, .inl pv)), (a5, .inl (ww_g X 0, 4, .inl sz)), (a6, .inl (ww_g X 0, 80, .inl ow)), (a7, .inl (ww_g X 0, 80, .inl vl)), (a8, .inl (ww_g X 0, 60, .inl bf))]) rfl ?_
        refine ww_aload_n O dd_MO_about_29 0 rfl ?_
        refine ww_get O ci_MO rfl 0 (by decide) lf_MO_35 rfl dd_MO_about_30 0 rfl rfl ?_
        refine ww_if_leN O dd_MO_about_33 (tgt := 38) rfl (by omega) (fun h33 => ?_) (fun h33 => ?_)
        · refine ww_iload_n O dd_MO_about_38 2 rfl ?_
          refine ww_tabIn O dd_MO_about_39 (off := 33) (tgt := 72) (by decide) (by decide) (by decide) rfl ?_
          refine ww_aload_n O dd_MO_about_72 0 rfl ?_
          refine ww_get O ci_MO rfl 5 (by decide) lf_MO_23 rfl dd_MO_about_73 0 rfl rfl ?_
          refine ww_iload_n O dd_MO_about_76 1 rfl ?_
          refine ww_iald O dd_MO_about_77 5 rfl (by omega) (by decide) rfl ?_
          exact F.i dd_MO_about_78
        · exfalso; omega
      · exfalso; omega
  · exact absurd h5 (by decide)
set_option maxRecDepth 4000 in
theorem cc_MO_about_1 (l : Launch) (D : va_G) (g : Nat → ClassId) (m : Nat) (a1 : Nat) (a2 : Nat) (a3 : Nat) (a4 : Nat) (a5 : Nat) (a6 : Nat) (a7 : Nat) (a8 : Nat) (cd : Int32) (fi : Int32) (le : Int32) (pl : Nat → Int32) (wr : Nat → Int32) (pg : Nat → Int32) (pv : Nat → Int32) (sz : Nat → Int32) (ow : Nat → Int32) (vl : Nat → Int32) (bf : Nat → Int32) (f : Nat) (hr : ∀ b, b < 240 → px_rg (pl b)) (hf : f < 4) : ww_ct l D g yy_MO_about bb_MO_about 3 (some .int) (ww_rm 5) [.ref m, .int (nI f), .int (nI 1)] [(m, .inr (3, [.int cd, .ref a1, .ref a2, .ref a3, .ref a4, .ref a5, .ref a6, .ref a7, .ref a8, .int fi, .int le])), (a1, .inl (g 0, 240, .inl pl)), (a2, .inl (g 1, 240, .inl wr)), (a3, .inl (g 1, 240, .inl pg)), (a4, .inl (g 0, 240, .inl pv)), (a5, .inl (g 0, 4, .inl sz)), (a6, .inl (g 0, 80, .inl ow)), (a7, .inl (g 0, 80, .inl vl)), (a8, .inl (g 0, 60, .inl bf))] (some (.int (nI (px_mm pl (60 * f))))) [(m, .inr (3, [.int (nI 0), .ref a1, .ref a2, .ref a3, .ref a4, .ref a5, .ref a6, .ref a7, .ref a8, .int fi, .int le])), (a1, .inl (g 0, 240, .inl pl)), (a2, .inl (g 1, 240, .inl wr)), (a3, .inl (g 1, 240, .inl pg)), (a4, .inl (g 0, 240, .inl pv)), (a5, .inl (g 0, 4, .inl sz)), (a6, .inl (g 0, 80, .inl ow)), (a7, .inl (g 0, 80, .inl vl)), (a8, .inl (g 0, 60, .inl bf))] := by
  refine ww_start (by decide +kernel) rfl rfl (Nat.le_of_ble_eq_true rfl) (L0 := [(0, .ref m), (1, .int (nI f)), (2, .int (nI 1))]) rfl ?_
  intro X O hl hD hg hR hn F
  subst hl hD hg
  refine ww_aload_n O dd_MO_about_0 0 rfl ?_
  refine ww_iload_n O dd_MO_about_1 1 rfl ?_
  refine ww_callS O (cc_MO_noFile _ _ _ (nI f) ) lc_MO_79 ls_MO_noFile_I_Z (by rw [hR]; decide) (by rw [hR]; decide) (by rw [hR]; decide) rfl (Nat.le_of_ble_eq_true rfl) dd_MO_about_2 rfl [] [0, 1, 2, 3, 4, 5, 6, 7, 8] [0, 1, 2, 3, 4, 5, 6, 7, 8] rfl (by decide) rfl (by decide) (by decide) (ws' := [(m, .inr (3, [.int cd, .ref a1, .ref a2, .ref a3, .ref a4, .ref a5, .ref a6, .ref a7, .ref a8, .int fi, .int le])), (a1, .inl (ww_g X 0, 240, .inl pl)), (a2, .inl (ww_g X 1, 240, .inl wr)), (a3, .inl (ww_g X 1, 240, .inl pg)), (a4, .inl (ww_g X 0, 240, .inl pv)), (a5, .inl (ww_g X 0, 4, .inl sz)), (a6, .inl (ww_g X 0, 80, .inl ow)), (a7, .inl (ww_g X 0, 80, .inl vl)), (a8, .inl (ww_g X 0, 60, .inl bf))]) rfl rfl (by decide) ?_
  rw [px_nf_nI (k := 3) (by omega) (by decide)]
  refine ww_if_eqB O dd_MO_about_5 (tgt := 12) rfl (fun h5 => ?_) (fun h5 => ?_)
  · refine ww_iload_n O dd_MO_about_12 2 rfl ?_
    refine ww_if_ltN O dd_MO_about_13 (tgt := 21) rfl (by omega) (fun h13 => ?_) (fun h13 => ?_)
    · exfalso; omega
    · refine ww_iload_n O dd_MO_about_16 2 rfl ?_
      refine ww_iconst O dd_MO_about_17 (v := nI 5) rfl ?_
      refine ww_icmp_leN O dd_MO_about_18 (tgt := 25) rfl (by omega) (by omega) (fun h18 => ?_) (fun h18 => ?_)
      · refine ww_iconst O dd_MO_about_25 (v := nI 0) rfl ?_
        refine ww_put O ci_MO cy_MO cy_MO_ok cn_MO rfl 0 (by decide) lf_MO_35 rfl rfl (ty := .int) (by decide +kernel) dd_MO_about_26 0 rfl rfl rfl (Nat.le_of_ble_eq_true rfl) (ws' := [(m, .inr (3, [.int (nI 0), .ref a1, .ref a2, .ref a3, .ref a4, .ref a5, .ref a6, .ref a7, .ref a8, .int fi, .int le])), (a1, .inl (ww_g X 0, 240, .inl pl)), (a2, .inl (ww_g X 1, 240, .inl wr)), (a3, .inl (ww_g X 1, 240, .inl pg)), (a4, .inl (ww_g X 0, 240, .inl pv)), (a5, .inl (ww_g X 0, 4, .inl sz)), (a6, .inl (ww_g X 0, 80, .inl ow)), (a7, .inl (ww_g X 0, 80, .inl vl)), (a8, .inl (ww_g X 0, 60, .inl bf))]) rfl ?_
        refine ww_aload_n O dd_MO_about_29 0 rfl ?_
        refine ww_get O ci_MO rfl 0 (by decide) lf_MO_35 rfl dd_MO_about_30 0 rfl rfl ?_
        refine ww_if_leN O dd_MO_about_33 (tgt := 38) rfl (by omega) (fun h33 => ?_) (fun h33 => ?_)
        · refine ww_iload_n O dd_MO_about_38 2 rfl ?_
          refine ww_tabIn O dd_MO_about_39 (off := 40) (tgt := 79) (by decide) (by decide) (by decide) rfl ?_
          refine ww_aload_n O dd_MO_about_79 0 rfl ?_
          refine ww_iload_n O dd_MO_about_80 1 rfl ?_
          refine ww_callV (q0 := 0) (ci := 3) O (cc_MO_mappedOf _ _ _ m a1 a2 a3 a4 a5 a6 a7 a8 (nI 0) fi le pl wr pg pv sz ow vl bf f (by omega) (by omega)) lc_MO_60 lx_MO_mappedOf_I_I rfl rfl rfl (by rw [hR]; decide) (by rw [hR]; decide) (by rw [hR]; decide) rfl (Nat.le_of_ble_eq_true rfl) dd_MO_about_81 rfl [0, 1, 2, 3, 4, 5, 6, 7, 8] [] [0, 1, 2, 3, 4, 5, 6, 7, 8] rfl (by decide) rfl (by decide) (by decide) (ws' := [(m, .inr (3, [.int (nI 0), .ref a1, .ref a2, .ref a3, .ref a4, .ref a5, .ref a6, .ref a7, .ref a8, .int fi, .int le])), (a1, .inl (ww_g X 0, 240, .inl pl)), (a2, .inl (ww_g X 1, 240, .inl wr)), (a3, .inl (ww_g X 1, 240, .inl pg)), (a4, .inl (ww_g X 0, 240, .inl pv)), (a5, .inl (ww_g X 0, 4, .inl sz)), (a6, .inl (ww_g X 0, 80, .inl ow)), (a7, .inl (ww_g X 0, 80, .inl vl)), (a8, .inl (ww_g X 0, 60, .inl bf))]) rfl rfl (by decide) ?_
          exact F.i dd_MO_about_84
        · exfalso; omega
      · exfalso; omega
  · exact absurd h5 (by decide)
set_option maxRecDepth 4000 in
theorem cc_MO_about_2 (l : Launch) (D : va_G) (g : Nat → ClassId) (m : Nat) (a1 : Nat) (a2 : Nat) (a3 : Nat) (a4 : Nat) (a5 : Nat) (a6 : Nat) (a7 : Nat) (a8 : Nat) (cd : Int32) (fi : Int32) (le : Int32) (pl : Nat → Int32) (wr : Nat → Int32) (pg : Nat → Int32) (pv : Nat → Int32) (sz : Nat → Int32) (ow : Nat → Int32) (vl : Nat → Int32) (bf : Nat → Int32) (f : Nat) (hr : ∀ b, b < 240 → px_rg (pl b)) (hf : f < 4) : ww_ct l D g yy_MO_about bb_MO_about 3 (some .int) (ww_rm 5) [.ref m, .int (nI f), .int (nI 2)] [(m, .inr (3, [.int cd, .ref a1, .ref a2, .ref a3, .ref a4, .ref a5, .ref a6, .ref a7, .ref a8, .int fi, .int le])), (a1, .inl (g 0, 240, .inl pl)), (a2, .inl (g 1, 240, .inl wr)), (a3, .inl (g 1, 240, .inl pg)), (a4, .inl (g 0, 240, .inl pv)), (a5, .inl (g 0, 4, .inl sz)), (a6, .inl (g 0, 80, .inl ow)), (a7, .inl (g 0, 80, .inl vl)), (a8, .inl (g 0, 60, .inl bf))] (some (.int (nI (px_ee pl wr (60 * f))))) [(m, .inr (3, [.int (nI 0), .ref a1, .ref a2, .ref a3, .ref a4, .ref a5, .ref a6, .ref a7, .ref a8, .int ((px_rx pl wr 60 60 (60 * f) 0 0 fi).2.2), .int (nI (px_rx pl wr 60 60 (60 * f) 0 0 fi).2.1)])), (a1, .inl (g 0, 240, .inl pl)), (a2, .inl (g 1, 240, .inl wr)), (a3, .inl (g 1, 240, .inl pg)), (a4, .inl (g 0, 240, .inl pv)), (a5, .inl (g 0, 4, .inl sz)), (a6, .inl (g 0, 80, .inl ow)), (a7, .inl (g 0, 80, .inl vl)), (a8, .inl (g 0, 60, .inl bf))] := by
  refine ww_start (by decide +kernel) rfl rfl (Nat.le_of_ble_eq_true rfl) (L0 := [(0, .ref m), (1, .int (nI f)), (2, .int (nI 2))]) rfl ?_
  intro X O hl hD hg hR hn F
  subst hl hD hg
  refine ww_aload_n O dd_MO_about_0 0 rfl ?_
  refine ww_iload_n O dd_MO_about_1 1 rfl ?_
  refine ww_callS O (cc_MO_noFile _ _ _ (nI f) ) lc_MO_79 ls_MO_noFile_I_Z (by rw [hR]; decide) (by rw [hR]; decide) (by rw [hR]; decide) rfl (Nat.le_of_ble_eq_true rfl) dd_MO_about_2 rfl [] [0, 1, 2, 3, 4, 5, 6, 7, 8] [0, 1, 2, 3, 4, 5, 6, 7, 8] rfl (by decide) rfl (by decide) (by decide) (ws' := [(m, .inr (3, [.int cd, .ref a1, .ref a2, .ref a3, .ref a4, .ref a5, .ref a6, .ref a7, .ref a8, .int fi, .int le])), (a1, .inl (ww_g X 0, 240, .inl pl)), (a2, .inl (ww_g X 1, 240, .inl wr)), (a3, .inl (ww_g X 1, 240, .inl pg)), (a4, .inl (ww_g X 0, 240, .inl pv)), (a5, .inl (ww_g X 0, 4, .inl sz)), (a6, .inl (ww_g X 0, 80, .inl ow)), (a7, .inl (ww_g X 0, 80, .inl vl)), (a8, .inl (ww_g X 0, 60, .inl bf))]) rfl rfl (by decide) ?_
  rw [px_nf_nI (k := 3) (by omega) (by decide)]
  refine ww_if_eqB O dd_MO_about_5 (tgt := 12) rfl (fun h5 => ?_) (fun h5 => ?_)
  · refine ww_iload_n O dd_MO_about_12 2 rfl ?_
    refine ww_if_ltN O dd_MO_about_13 (tgt := 21) rfl (by omega) (fun h13 => ?_) (fun h13 => ?_)
    · exfalso; omega
    · refine ww_iload_n O dd_MO_about_16 2 rfl ?_
      refine ww_iconst O dd_MO_about_17 (v := nI 5) rfl ?_
      refine ww_icmp_leN O dd_MO_about_18 (tgt := 25) rfl (by omega) (by omega) (fun h18 => ?_) (fun h18 => ?_)
      · refine ww_iconst O dd_MO_about_25 (v := nI 0) rfl ?_
        refine ww_put O ci_MO cy_MO cy_MO_ok cn_MO rfl 0 (by decide) lf_MO_35 rfl rfl (ty := .int) (by decide +kernel) dd_MO_about_26 0 rfl rfl rfl (Nat.le_of_ble_eq_true rfl) (ws' := [(m, .inr (3, [.int (nI 0), .ref a1, .ref a2, .ref a3, .ref a4, .ref a5, .ref a6, .ref a7, .ref a8, .int fi, .int le])), (a1, .inl (ww_g X 0, 240, .inl pl)), (a2, .inl (ww_g X 1, 240, .inl wr)), (a3, .inl (ww_g X 1, 240, .inl pg)), (a4, .inl (ww_g X 0, 240, .inl pv)), (a5, .inl (ww_g X 0, 4, .inl sz)), (a6, .inl (ww_g X 0, 80, .inl ow)), (a7, .inl (ww_g X 0, 80, .inl vl)), (a8, .inl (ww_g X 0, 60, .inl bf))]) rfl ?_
        refine ww_aload_n O dd_MO_about_29 0 rfl ?_
        refine ww_get O ci_MO rfl 0 (by decide) lf_MO_35 rfl dd_MO_about_30 0 rfl rfl ?_
        refine ww_if_leN O dd_MO_about_33 (tgt := 38) rfl (by omega) (fun h33 => ?_) (fun h33 => ?_)
        · refine ww_iload_n O dd_MO_about_38 2 rfl ?_
          refine ww_tabIn O dd_MO_about_39 (off := 46) (tgt := 85) (by decide) (by decide) (by decide) rfl ?_
          refine ww_aload_n O dd_MO_about_85 0 rfl ?_
          refine ww_iload_n O dd_MO_about_86 1 rfl ?_
          refine ww_bipush O dd_MO_about_87 (v := nI 60) rfl ?_
          refine ww_callV (q0 := 0) (ci := 3) O (cc_MO_extents _ _ _ m a1 a2 a3 a4 a5 a6 a7 a8 (nI 0) fi le pl wr pg pv sz ow vl bf f 60 (by omega) (by omega) (by omega)) lc_MO_49 lx_MO_extents_II_I rfl rfl rfl (by rw [hR]; decide) (by rw [hR]; decide) (by rw [hR]; decide) rfl (Nat.le_of_ble_eq_true rfl) dd_MO_about_89 rfl [0, 1, 2, 3, 4, 5, 6, 7, 8] [] [0, 1, 2, 3, 4, 5, 6, 7, 8] rfl (by decide) rfl (by decide) (by decide) (ws' := [(m, .inr (3, [.int (nI 0), .ref a1, .ref a2, .ref a3, .ref a4, .ref a5, .ref a6, .ref a7, .ref a8, .int ((px_rx pl wr 60 60 (60 * f) 0 0 fi).2.2), .int (nI (px_rx pl wr 60 60 (60 * f) 0 0 fi).2.1)])), (a1, .inl (ww_g X 0, 240, .inl pl)), (a2, .inl (ww_g X 1, 240, .inl wr)), (a3, .inl (ww_g X 1, 240, .inl pg)), (a4, .inl (ww_g X 0, 240, .inl pv)), (a5, .inl (ww_g X 0, 4, .inl sz)), (a6, .inl (ww_g X 0, 80, .inl ow)), (a7, .inl (ww_g X 0, 80, .inl vl)), (a8, .inl (ww_g X 0, 60, .inl bf))]) rfl rfl (by decide) ?_
          rw [px_rx_60]
          exact F.i dd_MO_about_92
        · exfalso; omega
      · exfalso; omega
  · exact absurd h5 (by decide)
set_option maxRecDepth 4000 in
theorem cc_MO_about_3 (l : Launch) (D : va_G) (g : Nat → ClassId) (m : Nat) (a1 : Nat) (a2 : Nat) (a3 : Nat) (a4 : Nat) (a5 : Nat) (a6 : Nat) (a7 : Nat) (a8 : Nat) (cd : Int32) (fi : Int32) (le : Int32) (pl : Nat → Int32) (wr : Nat → Int32) (pg : Nat → Int32) (pv : Nat → Int32) (sz : Nat → Int32) (ow : Nat → Int32) (vl : Nat → Int32) (bf : Nat → Int32) (f : Nat) (hr : ∀ b, b < 240 → px_rg (pl b)) (hf : f < 4) : ww_ct l D g yy_MO_about bb_MO_about 3 (some .int) (ww_rm 5) [.ref m, .int (nI f), .int (nI 3)] [(m, .inr (3, [.int cd, .ref a1, .ref a2, .ref a3, .ref a4, .ref a5, .ref a6, .ref a7, .ref a8, .int fi, .int le])), (a1, .inl (g 0, 240, .inl pl)), (a2, .inl (g 1, 240, .inl wr)), (a3, .inl (g 1, 240, .inl pg)), (a4, .inl (g 0, 240, .inl pv)), (a5, .inl (g 0, 4, .inl sz)), (a6, .inl (g 0, 80, .inl ow)), (a7, .inl (g 0, 80, .inl vl)), (a8, .inl (g 0, 60, .inl bf))] (some (.int (nI (px_tree (px_ee pl wr (60 * f)))))) [(m, .inr (3, [.int (nI 0), .ref a1, .ref a2, .ref a3, .ref a4, .ref a5, .ref a6, .ref a7, .ref a8, .int ((px_rx pl wr 60 60 (60 * f) 0 0 fi).2.2), .int (nI (px_rx pl wr 60 60 (60 * f) 0 0 fi).2.1)])), (a1, .inl (g 0, 240, .inl pl)), (a2, .inl (g 1, 240, .inl wr)), (a3, .inl (g 1, 240, .inl pg)), (a4, .inl (g 0, 240, .inl pv)), (a5, .inl (g 0, 4, .inl sz)), (a6, .inl (g 0, 80, .inl ow)), (a7, .inl (g 0, 80, .inl vl)), (a8, .inl (g 0, 60, .inl bf))] := by
  refine ww_start (by decide +kernel) rfl rfl (Nat.le_of_ble_eq_true rfl) (L0 := [(0, .ref m), (1, .int (nI f)), (2, .int (nI 3))]) rfl ?_
  intro X O hl hD hg hR hn F
  subst hl hD hg
  refine ww_aload_n O dd_MO_about_0 0 rfl ?_
  refine ww_iload_n O dd_MO_about_1 1 rfl ?_
  refine ww_callS O (cc_MO_noFile _ _ _ (nI f) ) lc_MO_79 ls_MO_noFile_I_Z (by rw [hR]; decide) (by rw [hR]; decide) (by rw [hR]; decide) rfl (Nat.le_of_ble_eq_true rfl) dd_MO_about_2 rfl [] [0, 1, 2, 3, 4, 5, 6, 7, 8] [0, 1, 2, 3, 4, 5, 6, 7, 8] rfl (by decide) rfl (by decide) (by decide) (ws' := [(m, .inr (3, [.int cd, .ref a1, .ref a2, .ref a3, .ref a4, .ref a5, .ref a6, .ref a7, .ref a8, .int fi, .int le])), (a1, .inl (ww_g X 0, 240, .inl pl)), (a2, .inl (ww_g X 1, 240, .inl wr)), (a3, .inl (ww_g X 1, 240, .inl pg)), (a4, .inl (ww_g X 0, 240, .inl pv)), (a5, .inl (ww_g X 0, 4, .inl sz)), (a6, .inl (ww_g X 0, 80, .inl ow)), (a7, .inl (ww_g X 0, 80, .inl vl)), (a8, .inl (ww_g X 0, 60, .inl bf))]) rfl rfl (by decide) ?_
  rw [px_nf_nI (k := 3) (by omega) (by decide)]
  refine ww_if_eqB O dd_MO_about_5 (tgt := 12) rfl (fun h5 => ?_) (fun h5 => ?_)
  · refine ww_iload_n O dd_MO_about_12 2 rfl ?_
    refine ww_if_ltN O dd_MO_about_13 (tgt := 21) rfl (by omega) (fun h13 => ?_) (fun h13 => ?_)
    · exfalso; omega
    · refine ww_iload_n O dd_MO_about_16 2 rfl ?_
      refine ww_iconst O dd_MO_about_17 (v := nI 5) rfl ?_
      refine ww_icmp_leN O dd_MO_about_18 (tgt := 25) rfl (by omega) (by omega) (fun h18 => ?_) (fun h18 => ?_)
      · refine ww_iconst O dd_MO_about_25 (v := nI 0) rfl ?_
        refine ww_put O ci_MO cy_MO cy_MO_ok cn_MO rfl 0 (by decide) lf_MO_35 rfl rfl (ty := .int) (by decide +kernel) dd_MO_about_26 0 rfl rfl rfl (Nat.le_of_ble_eq_true rfl) (ws' := [(m, .inr (3, [.int (nI 0), .ref a1, .ref a2, .ref a3, .ref a4, .ref a5, .ref a6, .ref a7, .ref a8, .int fi, .int le])), (a1, .inl (ww_g X 0, 240, .inl pl)), (a2, .inl (ww_g X 1, 240, .inl wr)), (a3, .inl (ww_g X 1, 240, .inl pg)), (a4, .inl (ww_g X 0, 240, .inl pv)), (a5, .inl (ww_g X 0, 4, .inl sz)), (a6, .inl (ww_g X 0, 80, .inl ow)), (a7, .inl (ww_g X 0, 80, .inl vl)), (a8, .inl (ww_g X 0, 60, .inl bf))]) rfl ?_
        refine ww_aload_n O dd_MO_about_29 0 rfl ?_
        refine ww_get O ci_MO rfl 0 (by decide) lf_MO_35 rfl dd_MO_about_30 0 rfl rfl ?_
        refine ww_if_leN O dd_MO_about_33 (tgt := 38) rfl (by omega) (fun h33 => ?_) (fun h33 => ?_)
        · refine ww_iload_n O dd_MO_about_38 2 rfl ?_
          refine ww_tabIn O dd_MO_about_39 (off := 54) (tgt := 93) (by decide) (by decide) (by decide) rfl ?_
          refine ww_aload_n O dd_MO_about_93 0 rfl ?_
          refine ww_iload_n O dd_MO_about_94 1 rfl ?_
          refine ww_bipush O dd_MO_about_95 (v := nI 60) rfl ?_
          refine ww_callV (q0 := 0) (ci := 3) O (cc_MO_extents _ _ _ m a1 a2 a3 a4 a5 a6 a7 a8 (nI 0) fi le pl wr pg pv sz ow vl bf f 60 (by omega) (by omega) (by omega)) lc_MO_49 lx_MO_extents_II_I rfl rfl rfl (by rw [hR]; decide) (by rw [hR]; decide) (by rw [hR]; decide) rfl (Nat.le_of_ble_eq_true rfl) dd_MO_about_97 rfl [0, 1, 2, 3, 4, 5, 6, 7, 8] [] [0, 1, 2, 3, 4, 5, 6, 7, 8] rfl (by decide) rfl (by decide) (by decide) (ws' := [(m, .inr (3, [.int (nI 0), .ref a1, .ref a2, .ref a3, .ref a4, .ref a5, .ref a6, .ref a7, .ref a8, .int ((px_rx pl wr 60 60 (60 * f) 0 0 fi).2.2), .int (nI (px_rx pl wr 60 60 (60 * f) 0 0 fi).2.1)])), (a1, .inl (ww_g X 0, 240, .inl pl)), (a2, .inl (ww_g X 1, 240, .inl wr)), (a3, .inl (ww_g X 1, 240, .inl pg)), (a4, .inl (ww_g X 0, 240, .inl pv)), (a5, .inl (ww_g X 0, 4, .inl sz)), (a6, .inl (ww_g X 0, 80, .inl ow)), (a7, .inl (ww_g X 0, 80, .inl vl)), (a8, .inl (ww_g X 0, 60, .inl bf))]) rfl rfl (by decide) ?_
          rw [px_rx_60]
          have he3 : px_ee pl wr (60 * f) ≤ 60 := px_ex_le pl wr 60 (60 * f) 0
          refine ww_callS O (cc_MO_tree _ _ _ (px_ee pl wr (60 * f)) (by omega)) lc_MO_53 ls_MO_tree_I_I (by rw [hR]; decide) (by rw [hR]; decide) (by rw [hR]; decide) rfl (Nat.le_of_ble_eq_true rfl) dd_MO_about_100 rfl [] [0, 1, 2, 3, 4, 5, 6, 7, 8] [0, 1, 2, 3, 4, 5, 6, 7, 8] rfl (by decide) rfl (by decide) (by decide) (ws' := [(m, .inr (3, [.int (nI 0), .ref a1, .ref a2, .ref a3, .ref a4, .ref a5, .ref a6, .ref a7, .ref a8, .int ((px_rx pl wr 60 60 (60 * f) 0 0 fi).2.2), .int (nI (px_rx pl wr 60 60 (60 * f) 0 0 fi).2.1)])), (a1, .inl (ww_g X 0, 240, .inl pl)), (a2, .inl (ww_g X 1, 240, .inl wr)), (a3, .inl (ww_g X 1, 240, .inl pg)), (a4, .inl (ww_g X 0, 240, .inl pv)), (a5, .inl (ww_g X 0, 4, .inl sz)), (a6, .inl (ww_g X 0, 80, .inl ow)), (a7, .inl (ww_g X 0, 80, .inl vl)), (a8, .inl (ww_g X 0, 60, .inl bf))]) rfl rfl (by decide) ?_
          exact F.i dd_MO_about_103
        · exfalso; omega
      · exfalso; omega
  · exact absurd h5 (by decide)
set_option maxRecDepth 4000 in
theorem cc_MO_about_4 (l : Launch) (D : va_G) (g : Nat → ClassId) (m : Nat) (a1 : Nat) (a2 : Nat) (a3 : Nat) (a4 : Nat) (a5 : Nat) (a6 : Nat) (a7 : Nat) (a8 : Nat) (cd : Int32) (fi : Int32) (le : Int32) (pl : Nat → Int32) (wr : Nat → Int32) (pg : Nat → Int32) (pv : Nat → Int32) (sz : Nat → Int32) (ow : Nat → Int32) (vl : Nat → Int32) (bf : Nat → Int32) (f : Nat) (hr : ∀ b, b < 240 → px_rg (pl b)) (hf : f < 4) : ww_ct l D g yy_MO_about bb_MO_about 3 (some .int) (ww_rm 5) [.ref m, .int (nI f), .int (nI 4)] [(m, .inr (3, [.int cd, .ref a1, .ref a2, .ref a3, .ref a4, .ref a5, .ref a6, .ref a7, .ref a8, .int fi, .int le])), (a1, .inl (g 0, 240, .inl pl)), (a2, .inl (g 1, 240, .inl wr)), (a3, .inl (g 1, 240, .inl pg)), (a4, .inl (g 0, 240, .inl pv)), (a5, .inl (g 0, 4, .inl sz)), (a6, .inl (g 0, 80, .inl ow)), (a7, .inl (g 0, 80, .inl vl)), (a8, .inl (g 0, 60, .inl bf))] (some (.int (nI (px_pp pg (60 * f))))) [(m, .inr (3, [.int (nI 0), .ref a1, .ref a2, .ref a3, .ref a4, .ref a5, .ref a6, .ref a7, .ref a8, .int fi, .int le])), (a1, .inl (g 0, 240, .inl pl)), (a2, .inl (g 1, 240, .inl wr)), (a3, .inl (g 1, 240, .inl pg)), (a4, .inl (g 0, 240, .inl pv)), (a5, .inl (g 0, 4, .inl sz)), (a6, .inl (g 0, 80, .inl ow)), (a7, .inl (g 0, 80, .inl vl)), (a8, .inl (g 0, 60, .inl bf))] := by
  refine ww_start (by decide +kernel) rfl rfl (Nat.le_of_ble_eq_true rfl) (L0 := [(0, .ref m), (1, .int (nI f)), (2, .int (nI 4))]) rfl ?_
  intro X O hl hD hg hR hn F
  subst hl hD hg
  refine ww_aload_n O dd_MO_about_0 0 rfl ?_
  refine ww_iload_n O dd_MO_about_1 1 rfl ?_
  refine ww_callS O (cc_MO_noFile _ _ _ (nI f) ) lc_MO_79 ls_MO_noFile_I_Z (by rw [hR]; decide) (by rw [hR]; decide) (by rw [hR]; decide) rfl (Nat.le_of_ble_eq_true rfl) dd_MO_about_2 rfl [] [0, 1, 2, 3, 4, 5, 6, 7, 8] [0, 1, 2, 3, 4, 5, 6, 7, 8] rfl (by decide) rfl (by decide) (by decide) (ws' := [(m, .inr (3, [.int cd, .ref a1, .ref a2, .ref a3, .ref a4, .ref a5, .ref a6, .ref a7, .ref a8, .int fi, .int le])), (a1, .inl (ww_g X 0, 240, .inl pl)), (a2, .inl (ww_g X 1, 240, .inl wr)), (a3, .inl (ww_g X 1, 240, .inl pg)), (a4, .inl (ww_g X 0, 240, .inl pv)), (a5, .inl (ww_g X 0, 4, .inl sz)), (a6, .inl (ww_g X 0, 80, .inl ow)), (a7, .inl (ww_g X 0, 80, .inl vl)), (a8, .inl (ww_g X 0, 60, .inl bf))]) rfl rfl (by decide) ?_
  rw [px_nf_nI (k := 3) (by omega) (by decide)]
  refine ww_if_eqB O dd_MO_about_5 (tgt := 12) rfl (fun h5 => ?_) (fun h5 => ?_)
  · refine ww_iload_n O dd_MO_about_12 2 rfl ?_
    refine ww_if_ltN O dd_MO_about_13 (tgt := 21) rfl (by omega) (fun h13 => ?_) (fun h13 => ?_)
    · exfalso; omega
    · refine ww_iload_n O dd_MO_about_16 2 rfl ?_
      refine ww_iconst O dd_MO_about_17 (v := nI 5) rfl ?_
      refine ww_icmp_leN O dd_MO_about_18 (tgt := 25) rfl (by omega) (by omega) (fun h18 => ?_) (fun h18 => ?_)
      · refine ww_iconst O dd_MO_about_25 (v := nI 0) rfl ?_
        refine ww_put O ci_MO cy_MO cy_MO_ok cn_MO rfl 0 (by decide) lf_MO_35 rfl rfl (ty := .int) (by decide +kernel) dd_MO_about_26 0 rfl rfl rfl (Nat.le_of_ble_eq_true rfl) (ws' := [(m, .inr (3, [.int (nI 0), .ref a1, .ref a2, .ref a3, .ref a4, .ref a5, .ref a6, .ref a7, .ref a8, .int fi, .int le])), (a1, .inl (ww_g X 0, 240, .inl pl)), (a2, .inl (ww_g X 1, 240, .inl wr)), (a3, .inl (ww_g X 1, 240, .inl pg)), (a4, .inl (ww_g X 0, 240, .inl pv)), (a5, .inl (ww_g X 0, 4, .inl sz)), (a6, .inl (ww_g X 0, 80, .inl ow)), (a7, .inl (ww_g X 0, 80, .inl vl)), (a8, .inl (ww_g X 0, 60, .inl bf))]) rfl ?_
        refine ww_aload_n O dd_MO_about_29 0 rfl ?_
        refine ww_get O ci_MO rfl 0 (by decide) lf_MO_35 rfl dd_MO_about_30 0 rfl rfl ?_
        refine ww_if_leN O dd_MO_about_33 (tgt := 38) rfl (by omega) (fun h33 => ?_) (fun h33 => ?_)
        · refine ww_iload_n O dd_MO_about_38 2 rfl ?_
          refine ww_tabIn O dd_MO_about_39 (off := 65) (tgt := 104) (by decide) (by decide) (by decide) rfl ?_
          refine ww_aload_n O dd_MO_about_104 0 rfl ?_
          refine ww_iload_n O dd_MO_about_105 1 rfl ?_
          refine ww_callV (q0 := 0) (ci := 3) O (cc_MO_pagesOf _ _ _ m a1 a2 a3 a4 a5 a6 a7 a8 (nI 0) fi le pl wr pg pv sz ow vl bf f (by omega)) lc_MO_76 lx_MO_pagesOf_I_I rfl rfl rfl (by rw [hR]; decide) (by rw [hR]; decide) (by rw [hR]; decide) rfl (Nat.le_of_ble_eq_true rfl) dd_MO_about_106 rfl [0, 1, 2, 3, 4, 5, 6, 7, 8] [] [0, 1, 2, 3, 4, 5, 6, 7, 8] rfl (by decide) rfl (by decide) (by decide) (ws' := [(m, .inr (3, [.int (nI 0), .ref a1, .ref a2, .ref a3, .ref a4, .ref a5, .ref a6, .ref a7, .ref a8, .int fi, .int le])), (a1, .inl (ww_g X 0, 240, .inl pl)), (a2, .inl (ww_g X 1, 240, .inl wr)), (a3, .inl (ww_g X 1, 240, .inl pg)), (a4, .inl (ww_g X 0, 240, .inl pv)), (a5, .inl (ww_g X 0, 4, .inl sz)), (a6, .inl (ww_g X 0, 80, .inl ow)), (a7, .inl (ww_g X 0, 80, .inl vl)), (a8, .inl (ww_g X 0, 60, .inl bf))]) rfl rfl (by decide) ?_
          exact F.i dd_MO_about_109
        · exfalso; omega
      · exfalso; omega
  · exact absurd h5 (by decide)
set_option maxRecDepth 4000 in
theorem cc_MO_about_5 (l : Launch) (D : va_G) (g : Nat → ClassId) (m : Nat) (a1 : Nat) (a2 : Nat) (a3 : Nat) (a4 : Nat) (a5 : Nat) (a6 : Nat) (a7 : Nat) (a8 : Nat) (cd : Int32) (fi : Int32) (le : Int32) (pl : Nat → Int32) (wr : Nat → Int32) (pg : Nat → Int32) (pv : Nat → Int32) (sz : Nat → Int32) (ow : Nat → Int32) (vl : Nat → Int32) (bf : Nat → Int32) (f : Nat) (hr : ∀ b, b < 240 → px_rg (pl b)) (hf : f < 4) : ww_ct l D g yy_MO_about bb_MO_about 3 (some .int) (ww_rm 5) [.ref m, .int (nI f), .int (nI 5)] [(m, .inr (3, [.int cd, .ref a1, .ref a2, .ref a3, .ref a4, .ref a5, .ref a6, .ref a7, .ref a8, .int fi, .int le])), (a1, .inl (g 0, 240, .inl pl)), (a2, .inl (g 1, 240, .inl wr)), (a3, .inl (g 1, 240, .inl pg)), (a4, .inl (g 0, 240, .inl pv)), (a5, .inl (g 0, 4, .inl sz)), (a6, .inl (g 0, 80, .inl ow)), (a7, .inl (g 0, 80, .inl vl)), (a8, .inl (g 0, 60, .inl bf))] (some (.int (nI (px_res pl wr pg (60 * f))))) [(m, .inr (3, [.int (nI 0), .ref a1, .ref a2, .ref a3, .ref a4, .ref a5, .ref a6, .ref a7, .ref a8, .int ((px_rx pl wr 60 60 (60 * f) 0 0 fi).2.2), .int (nI (px_rx pl wr 60 60 (60 * f) 0 0 fi).2.1)])), (a1, .inl (g 0, 240, .inl pl)), (a2, .inl (g 1, 240, .inl wr)), (a3, .inl (g 1, 240, .inl pg)), (a4, .inl (g 0, 240, .inl pv)), (a5, .inl (g 0, 4, .inl sz)), (a6, .inl (g 0, 80, .inl ow)), (a7, .inl (g 0, 80, .inl vl)), (a8, .inl (g 0, 60, .inl bf))] := by
  refine ww_start (by decide +kernel) rfl rfl (Nat.le_of_ble_eq_true rfl) (L0 := [(0, .ref m), (1, .int (nI f)), (2, .int (nI 5))]) rfl ?_
  intro X O hl hD hg hR hn F
  subst hl hD hg
  refine ww_aload_n O dd_MO_about_0 0 rfl ?_
  refine ww_iload_n O dd_MO_about_1 1 rfl ?_
  refine ww_callS O (cc_MO_noFile _ _ _ (nI f) ) lc_MO_79 ls_MO_noFile_I_Z (by rw [hR]; decide) (by rw [hR]; decide) (by rw [hR]; decide) rfl (Nat.le_of_ble_eq_true rfl) dd_MO_about_2 rfl [] [0, 1, 2, 3, 4, 5, 6, 7, 8] [0, 1, 2, 3, 4, 5, 6, 7, 8] rfl (by decide) rfl (by decide) (by decide) (ws' := [(m, .inr (3, [.int cd, .ref a1, .ref a2, .ref a3, .ref a4, .ref a5, .ref a6, .ref a7, .ref a8, .int fi, .int le])), (a1, .inl (ww_g X 0, 240, .inl pl)), (a2, .inl (ww_g X 1, 240, .inl wr)), (a3, .inl (ww_g X 1, 240, .inl pg)), (a4, .inl (ww_g X 0, 240, .inl pv)), (a5, .inl (ww_g X 0, 4, .inl sz)), (a6, .inl (ww_g X 0, 80, .inl ow)), (a7, .inl (ww_g X 0, 80, .inl vl)), (a8, .inl (ww_g X 0, 60, .inl bf))]) rfl rfl (by decide) ?_
  rw [px_nf_nI (k := 3) (by omega) (by decide)]
  refine ww_if_eqB O dd_MO_about_5 (tgt := 12) rfl (fun h5 => ?_) (fun h5 => ?_)
  · refine ww_iload_n O dd_MO_about_12 2 rfl ?_
    refine ww_if_ltN O dd_MO_about_13 (tgt := 21) rfl (by omega) (fun h13 => ?_) (fun h13 => ?_)
    · exfalso; omega
    · refine ww_iload_n O dd_MO_about_16 2 rfl ?_
      refine ww_iconst O dd_MO_about_17 (v := nI 5) rfl ?_
      refine ww_icmp_leN O dd_MO_about_18 (tgt := 25) rfl (by omega) (by omega) (fun h18 => ?_) (fun h18 => ?_)
      · refine ww_iconst O dd_MO_about_25 (v := nI 0) rfl ?_
        refine ww_put O ci_MO cy_MO cy_MO_ok cn_MO rfl 0 (by decide) lf_MO_35 rfl rfl (ty := .int) (by decide +kernel) dd_MO_about_26 0 rfl rfl rfl (Nat.le_of_ble_eq_true rfl) (ws' := [(m, .inr (3, [.int (nI 0), .ref a1, .ref a2, .ref a3, .ref a4, .ref a5, .ref a6, .ref a7, .ref a8, .int fi, .int le])), (a1, .inl (ww_g X 0, 240, .inl pl)), (a2, .inl (ww_g X 1, 240, .inl wr)), (a3, .inl (ww_g X 1, 240, .inl pg)), (a4, .inl (ww_g X 0, 240, .inl pv)), (a5, .inl (ww_g X 0, 4, .inl sz)), (a6, .inl (ww_g X 0, 80, .inl ow)), (a7, .inl (ww_g X 0, 80, .inl vl)), (a8, .inl (ww_g X 0, 60, .inl bf))]) rfl ?_
        refine ww_aload_n O dd_MO_about_29 0 rfl ?_
        refine ww_get O ci_MO rfl 0 (by decide) lf_MO_35 rfl dd_MO_about_30 0 rfl rfl ?_
        refine ww_if_leN O dd_MO_about_33 (tgt := 38) rfl (by omega) (fun h33 => ?_) (fun h33 => ?_)
        · refine ww_iload_n O dd_MO_about_38 2 rfl ?_
          refine ww_tabOut O dd_MO_about_39 (tgt := 110) (by decide) rfl ?_
          refine ww_aload_n O dd_MO_about_110 0 rfl ?_
          refine ww_iload_n O dd_MO_about_111 1 rfl ?_
          refine ww_callV (q0 := 0) (ci := 3) O (cc_MO_reservedOf _ _ _ m a1 a2 a3 a4 a5 a6 a7 a8 (nI 0) fi le pl wr pg pv sz ow vl bf f (by omega) (by omega)) lc_MO_57 lx_MO_reservedOf_I_I rfl rfl rfl (by rw [hR]; decide) (by rw [hR]; decide) (by rw [hR]; decide) rfl (Nat.le_of_ble_eq_true rfl) dd_MO_about_112 rfl [0, 1, 2, 3, 4, 5, 6, 7, 8] [] [0, 1, 2, 3, 4, 5, 6, 7, 8] rfl (by decide) rfl (by decide) (by decide) (ws' := [(m, .inr (3, [.int (nI 0), .ref a1, .ref a2, .ref a3, .ref a4, .ref a5, .ref a6, .ref a7, .ref a8, .int ((px_rx pl wr 60 60 (60 * f) 0 0 fi).2.2), .int (nI (px_rx pl wr 60 60 (60 * f) 0 0 fi).2.1)])), (a1, .inl (ww_g X 0, 240, .inl pl)), (a2, .inl (ww_g X 1, 240, .inl wr)), (a3, .inl (ww_g X 1, 240, .inl pg)), (a4, .inl (ww_g X 0, 240, .inl pv)), (a5, .inl (ww_g X 0, 4, .inl sz)), (a6, .inl (ww_g X 0, 80, .inl ow)), (a7, .inl (ww_g X 0, 80, .inl vl)), (a8, .inl (ww_g X 0, 60, .inl bf))]) rfl rfl (by decide) ?_
          exact F.i dd_MO_about_115
        · exfalso; omega
      · exfalso; omega
  · exact absurd h5 (by decide)
set_option maxRecDepth 4000 in
theorem cc_MO_write_bad (l : Launch) (D : va_G) (g : Nat → ClassId) (m : Nat) (a1 : Nat) (a2 : Nat) (a3 : Nat) (a4 : Nat) (a5 : Nat) (a6 : Nat) (a7 : Nat) (a8 : Nat) (cd : Int32) (fi : Int32) (le : Int32) (pl : Nat → Int32) (wr : Nat → Int32) (pg : Nat → Int32) (pv : Nat → Int32) (sz : Nat → Int32) (ow : Nat → Int32) (vl : Nat → Int32) (bf : Nat → Int32) (x : Int32) (y : Int32) (z : Int32) (hbad : px_nf x 3 = true ∨ px_nf y 59 = true) : ww_ct l D g yy_MO_write bb_MO_write 7 none (ww_rm 5) [.ref m, .int x, .int y, .int z] [(m, .inr (3, [.int cd, .ref a1, .ref a2, .ref a3, .ref a4, .ref a5, .ref a6, .ref a7, .ref a8, .int fi, .int le])), (a1, .inl (g 0, 240, .inl pl)), (a2, .inl (g 1, 240, .inl wr)), (a3, .inl (g 1, 240, .inl pg)), (a4, .inl (g 0, 240, .inl pv)), (a5, .inl (g 0, 4, .inl sz)), (a6, .inl (g 0, 80, .inl ow)), (a7, .inl (g 0, 80, .inl vl)), (a8, .inl (g 0, 60, .inl bf))] none [(m, .inr (3, [.int (nI 1), .ref a1, .ref a2, .ref a3, .ref a4, .ref a5, .ref a6, .ref a7, .ref a8, .int fi, .int le])), (a1, .inl (g 0, 240, .inl pl)), (a2, .inl (g 1, 240, .inl wr)), (a3, .inl (g 1, 240, .inl pg)), (a4, .inl (g 0, 240, .inl pv)), (a5, .inl (g 0, 4, .inl sz)), (a6, .inl (g 0, 80, .inl ow)), (a7, .inl (g 0, 80, .inl vl)), (a8, .inl (g 0, 60, .inl bf))] := by
  refine ww_start (by decide +kernel) rfl trivial (Nat.le_of_ble_eq_true rfl) (L0 := [(0, .ref m), (1, .int x), (2, .int y), (3, .int z)]) rfl ?_
  intro X O hl hD hg hR hn F
  subst hl hD hg
  have q0 := px_cnt_le (px_on pg) (60 * 0) 60
  have q1 := px_cnt_le (px_on pg) (60 * 1) 60
  have q2 := px_cnt_le (px_on pg) (60 * 2) 60
  have q3 := px_cnt_le (px_on pg) (60 * 3) 60
  have p0 : px_pp pg (60 * 0) ≤ 60 := q0
  have p1 : px_pp pg (60 * 1) ≤ 60 := q1
  have p2 : px_pp pg (60 * 2) ≤ 60 := q2
  have p3 : px_pp pg (60 * 3) ≤ 60 := q3
  refine ww_aload_n O dd_MO_write_0 0 rfl ?_
  refine ww_iconst O dd_MO_write_1 (v := nI 0) rfl ?_
  refine ww_callV (q0 := 0) (ci := 3) O (cc_MO_pagesOf _ _ _ m a1 a2 a3 a4 a5 a6 a7 a8 cd fi le pl wr pg pv sz ow vl bf 0 (by omega)) lc_MO_76 lx_MO_pagesOf_I_I rfl rfl rfl (by rw [hR]; decide) (by rw [hR]; decide) (by rw [hR]; decide) rfl (Nat.le_of_ble_eq_true rfl) dd_MO_write_2 rfl [0, 1, 2, 3, 4, 5, 6, 7, 8] [] [0, 1, 2, 3, 4, 5, 6, 7, 8] rfl (by decide) rfl (by decide) (by decide) (ws' := [(m, .inr (3, [.int cd, .ref a1, .ref a2, .ref a3, .ref a4, .ref a5, .ref a6, .ref a7, .ref a8, .int fi, .int le])), (a1, .inl (ww_g X 0, 240, .inl pl)), (a2, .inl (ww_g X 1, 240, .inl wr)), (a3, .inl (ww_g X 1, 240, .inl pg)), (a4, .inl (ww_g X 0, 240, .inl pv)), (a5, .inl (ww_g X 0, 4, .inl sz)), (a6, .inl (ww_g X 0, 80, .inl ow)), (a7, .inl (ww_g X 0, 80, .inl vl)), (a8, .inl (ww_g X 0, 60, .inl bf))]) rfl rfl (by decide) ?_
  refine ww_aload_n O dd_MO_write_5 0 rfl ?_
  refine ww_iconst O dd_MO_write_6 (v := nI 1) rfl ?_
  refine ww_callV (q0 := 0) (ci := 3) O (cc_MO_pagesOf _ _ _ m a1 a2 a3 a4 a5 a6 a7 a8 cd fi le pl wr pg pv sz ow vl bf 1 (by omega)) lc_MO_76 lx_MO_pagesOf_I_I rfl rfl rfl (by rw [hR]; decide) (by rw [hR]; decide) (by rw [hR]; decide) rfl (Nat.le_of_ble_eq_true rfl) dd_MO_write_7 rfl [0, 1, 2, 3, 4, 5, 6, 7, 8] [] [0, 1, 2, 3, 4, 5, 6, 7, 8] rfl (by decide) rfl (by decide) (by decide) (ws' := [(m, .inr (3, [.int cd, .ref a1, .ref a2, .ref a3, .ref a4, .ref a5, .ref a6, .ref a7, .ref a8, .int fi, .int le])), (a1, .inl (ww_g X 0, 240, .inl pl)), (a2, .inl (ww_g X 1, 240, .inl wr)), (a3, .inl (ww_g X 1, 240, .inl pg)), (a4, .inl (ww_g X 0, 240, .inl pv)), (a5, .inl (ww_g X 0, 4, .inl sz)), (a6, .inl (ww_g X 0, 80, .inl ow)), (a7, .inl (ww_g X 0, 80, .inl vl)), (a8, .inl (ww_g X 0, 60, .inl bf))]) rfl rfl (by decide) ?_
  refine ww_iadd O dd_MO_write_10 (v := nI ((px_pp pg (60 * 0)) + (px_pp pg (60 * 1)))) (nI_add _ _) ?_
  refine ww_aload_n O dd_MO_write_11 0 rfl ?_
  refine ww_iconst O dd_MO_write_12 (v := nI 2) rfl ?_
  refine ww_callV (q0 := 0) (ci := 3) O (cc_MO_pagesOf _ _ _ m a1 a2 a3 a4 a5 a6 a7 a8 cd fi le pl wr pg pv sz ow vl bf 2 (by omega)) lc_MO_76 lx_MO_pagesOf_I_I rfl rfl rfl (by rw [hR]; decide) (by rw [hR]; decide) (by rw [hR]; decide) rfl (Nat.le_of_ble_eq_true rfl) dd_MO_write_13 rfl [0, 1, 2, 3, 4, 5, 6, 7, 8] [] [0, 1, 2, 3, 4, 5, 6, 7, 8] rfl (by decide) rfl (by decide) (by decide) (ws' := [(m, .inr (3, [.int cd, .ref a1, .ref a2, .ref a3, .ref a4, .ref a5, .ref a6, .ref a7, .ref a8, .int fi, .int le])), (a1, .inl (ww_g X 0, 240, .inl pl)), (a2, .inl (ww_g X 1, 240, .inl wr)), (a3, .inl (ww_g X 1, 240, .inl pg)), (a4, .inl (ww_g X 0, 240, .inl pv)), (a5, .inl (ww_g X 0, 4, .inl sz)), (a6, .inl (ww_g X 0, 80, .inl ow)), (a7, .inl (ww_g X 0, 80, .inl vl)), (a8, .inl (ww_g X 0, 60, .inl bf))]) rfl rfl (by decide) ?_
  refine ww_iadd O dd_MO_write_16 (v := nI (((px_pp pg (60 * 0)) + (px_pp pg (60 * 1))) + (px_pp pg (60 * 2)))) (nI_add _ _) ?_
  refine ww_aload_n O dd_MO_write_17 0 rfl ?_
  refine ww_iconst O dd_MO_write_18 (v := nI 3) rfl ?_
  refine ww_callV (q0 := 0) (ci := 3) O (cc_MO_pagesOf _ _ _ m a1 a2 a3 a4 a5 a6 a7 a8 cd fi le pl wr pg pv sz ow vl bf 3 (by omega)) lc_MO_76 lx_MO_pagesOf_I_I rfl rfl rfl (by rw [hR]; decide) (by rw [hR]; decide) (by rw [hR]; decide) rfl (Nat.le_of_ble_eq_true rfl) dd_MO_write_19 rfl [0, 1, 2, 3, 4, 5, 6, 7, 8] [] [0, 1, 2, 3, 4, 5, 6, 7, 8] rfl (by decide) rfl (by decide) (by decide) (ws' := [(m, .inr (3, [.int cd, .ref a1, .ref a2, .ref a3, .ref a4, .ref a5, .ref a6, .ref a7, .ref a8, .int fi, .int le])), (a1, .inl (ww_g X 0, 240, .inl pl)), (a2, .inl (ww_g X 1, 240, .inl wr)), (a3, .inl (ww_g X 1, 240, .inl pg)), (a4, .inl (ww_g X 0, 240, .inl pv)), (a5, .inl (ww_g X 0, 4, .inl sz)), (a6, .inl (ww_g X 0, 80, .inl ow)), (a7, .inl (ww_g X 0, 80, .inl vl)), (a8, .inl (ww_g X 0, 60, .inl bf))]) rfl rfl (by decide) ?_
  refine ww_iadd O dd_MO_write_22 (v := nI ((((px_pp pg (60 * 0)) + (px_pp pg (60 * 1))) + (px_pp pg (60 * 2))) + (px_pp pg (60 * 3)))) (nI_add _ _) ?_
  refine ww_istore O dd_MO_write_23 (by rw [hn]; decide) rfl (L' := [(0, .ref m), (1, .int x), (2, .int y), (3, .int z), (4, .int (nI ((((px_pp pg (60 * 0)) + (px_pp pg (60 * 1))) + (px_pp pg (60 * 2))) + (px_pp pg (60 * 3)))))]) rfl ?_
  refine ww_aload_n O dd_MO_write_25 0 rfl ?_
  refine ww_iload_n O dd_MO_write_26 1 rfl ?_
  refine ww_callS O (cc_MO_noFile _ _ _ x ) lc_MO_79 ls_MO_noFile_I_Z (by rw [hR]; decide) (by rw [hR]; decide) (by rw [hR]; decide) rfl (Nat.le_of_ble_eq_true rfl) dd_MO_write_27 rfl [] [0, 1, 2, 3, 4, 5, 6, 7, 8] [0, 1, 2, 3, 4, 5, 6, 7, 8] rfl (by decide) rfl (by decide) (by decide) (ws' := [(m, .inr (3, [.int cd, .ref a1, .ref a2, .ref a3, .ref a4, .ref a5, .ref a6, .ref a7, .ref a8, .int fi, .int le])), (a1, .inl (ww_g X 0, 240, .inl pl)), (a2, .inl (ww_g X 1, 240, .inl wr)), (a3, .inl (ww_g X 1, 240, .inl pg)), (a4, .inl (ww_g X 0, 240, .inl pv)), (a5, .inl (ww_g X 0, 4, .inl sz)), (a6, .inl (ww_g X 0, 80, .inl ow)), (a7, .inl (ww_g X 0, 80, .inl vl)), (a8, .inl (ww_g X 0, 60, .inl bf))]) rfl rfl (by decide) ?_
  refine ww_if_neB O dd_MO_write_30 (tgt := 40) rfl (fun h30 => ?_) (fun h30 => ?_)
  · refine ww_iconst O dd_MO_write_40 (v := nI 1) rfl ?_
    refine ww_goto O dd_MO_write_41 (tgt := 70) rfl ?_
    refine ww_put O ci_MO cy_MO cy_MO_ok cn_MO rfl 0 (by decide) lf_MO_35 rfl rfl (ty := .int) (by decide +kernel) dd_MO_write_70 0 rfl rfl rfl (Nat.le_of_ble_eq_true rfl) (ws' := [(m, .inr (3, [.int (nI 1), .ref a1, .ref a2, .ref a3, .ref a4, .ref a5, .ref a6, .ref a7, .ref a8, .int fi, .int le])), (a1, .inl (ww_g X 0, 240, .inl pl)), (a2, .inl (ww_g X 1, 240, .inl wr)), (a3, .inl (ww_g X 1, 240, .inl pg)), (a4, .inl (ww_g X 0, 240, .inl pv)), (a5, .inl (ww_g X 0, 4, .inl sz)), (a6, .inl (ww_g X 0, 80, .inl ow)), (a7, .inl (ww_g X 0, 80, .inl vl)), (a8, .inl (ww_g X 0, 60, .inl bf))]) rfl ?_
    refine ww_aload_n O dd_MO_write_73 0 rfl ?_
    refine ww_get O ci_MO rfl 0 (by decide) lf_MO_35 rfl dd_MO_write_74 0 rfl rfl ?_
    refine ww_if_leN O dd_MO_write_77 (tgt := 81) rfl (by omega) (fun h77 => ?_) (fun h77 => ?_)
    · exfalso; omega
    · exact F.v dd_MO_write_80
  · refine ww_iload_n O dd_MO_write_33 2 rfl ?_
    refine ww_callS O (cc_MO_noBlock _ _ _ y ) lc_MO_82 ls_MO_noBlock_I_Z (by rw [hR]; decide) (by rw [hR]; decide) (by rw [hR]; decide) rfl (Nat.le_of_ble_eq_true rfl) dd_MO_write_34 rfl [] [0, 1, 2, 3, 4, 5, 6, 7, 8] [0, 1, 2, 3, 4, 5, 6, 7, 8] rfl (by decide) rfl (by decide) (by decide) (ws' := [(m, .inr (3, [.int cd, .ref a1, .ref a2, .ref a3, .ref a4, .ref a5, .ref a6, .ref a7, .ref a8, .int fi, .int le])), (a1, .inl (ww_g X 0, 240, .inl pl)), (a2, .inl (ww_g X 1, 240, .inl wr)), (a3, .inl (ww_g X 1, 240, .inl pg)), (a4, .inl (ww_g X 0, 240, .inl pv)), (a5, .inl (ww_g X 0, 4, .inl sz)), (a6, .inl (ww_g X 0, 80, .inl ow)), (a7, .inl (ww_g X 0, 80, .inl vl)), (a8, .inl (ww_g X 0, 60, .inl bf))]) rfl rfl (by decide) ?_
    refine ww_if_eqB O dd_MO_write_37 (tgt := 44) rfl (fun h37 => ?_) (fun h37 => ?_)
    · exact absurd (hbad.elim (fun q => by rw [q] at h30; exact absurd h30 (by decide)) (fun q => by rw [q] at h37; exact absurd h37 (by decide))) id
    · refine ww_iconst O dd_MO_write_40 (v := nI 1) rfl ?_
      refine ww_goto O dd_MO_write_41 (tgt := 70) rfl ?_
      refine ww_put O ci_MO cy_MO cy_MO_ok cn_MO rfl 0 (by decide) lf_MO_35 rfl rfl (ty := .int) (by decide +kernel) dd_MO_write_70 0 rfl rfl rfl (Nat.le_of_ble_eq_true rfl) (ws' := [(m, .inr (3, [.int (nI 1), .ref a1, .ref a2, .ref a3, .ref a4, .ref a5, .ref a6, .ref a7, .ref a8, .int fi, .int le])), (a1, .inl (ww_g X 0, 240, .inl pl)), (a2, .inl (ww_g X 1, 240, .inl wr)), (a3, .inl (ww_g X 1, 240, .inl pg)), (a4, .inl (ww_g X 0, 240, .inl pv)), (a5, .inl (ww_g X 0, 4, .inl sz)), (a6, .inl (ww_g X 0, 80, .inl ow)), (a7, .inl (ww_g X 0, 80, .inl vl)), (a8, .inl (ww_g X 0, 60, .inl bf))]) rfl ?_
      refine ww_aload_n O dd_MO_write_73 0 rfl ?_
      refine ww_get O ci_MO rfl 0 (by decide) lf_MO_35 rfl dd_MO_write_74 0 rfl rfl ?_
      refine ww_if_leN O dd_MO_write_77 (tgt := 81) rfl (by omega) (fun h77 => ?_) (fun h77 => ?_)
      · exfalso; omega
      · exact F.v dd_MO_write_80
set_option maxRecDepth 4000 in
theorem cc_MO_write_full (l : Launch) (D : va_G) (g : Nat → ClassId) (m : Nat) (a1 : Nat) (a2 : Nat) (a3 : Nat) (a4 : Nat) (a5 : Nat) (a6 : Nat) (a7 : Nat) (a8 : Nat) (cd : Int32) (fi : Int32) (le : Int32) (pl : Nat → Int32) (wr : Nat → Int32) (pg : Nat → Int32) (pv : Nat → Int32) (sz : Nat → Int32) (ow : Nat → Int32) (vl : Nat → Int32) (bf : Nat → Int32) (f : Nat) (b : Nat) (z : Int32) (hf : f < 4) (hb : b < 60) (hpg : pg (60 * f + b) = 0) (h24 : px_sum (fun k => px_pp pg (60 * k)) 4 = 24) : ww_ct l D g yy_MO_write bb_MO_write 7 none (ww_rm 5) [.ref m, .int (nI f), .int (nI b), .int z] [(m, .inr (3, [.int cd, .ref a1, .ref a2, .ref a3, .ref a4, .ref a5, .ref a6, .ref a7, .ref a8, .int fi, .int le])), (a1, .inl (g 0, 240, .inl pl)), (a2, .inl (g 1, 240, .inl wr)), (a3, .inl (g 1, 240, .inl pg)), (a4, .inl (g 0, 240, .inl pv)), (a5, .inl (g 0, 4, .inl sz)), (a6, .inl (g 0, 80, .inl ow)), (a7, .inl (g 0, 80, .inl vl)), (a8, .inl (g 0, 60, .inl bf))] none [(m, .inr (3, [.int (nI 2), .ref a1, .ref a2, .ref a3, .ref a4, .ref a5, .ref a6, .ref a7, .ref a8, .int fi, .int le])), (a1, .inl (g 0, 240, .inl pl)), (a2, .inl (g 1, 240, .inl wr)), (a3, .inl (g 1, 240, .inl pg)), (a4, .inl (g 0, 240, .inl pv)), (a5, .inl (g 0, 4, .inl sz)), (a6, .inl (g 0, 80, .inl ow)), (a7, .inl (g 0, 80, .inl vl)), (a8, .inl (g 0, 60, .inl bf))] := by
  refine ww_start (by decide +kernel) rfl trivial (Nat.le_of_ble_eq_true rfl) (L0 := [(0, .ref m), (1, .int (nI f)), (2, .int (nI b)), (3, .int z)]) rfl ?_
  intro X O hl hD hg hR hn F
  subst hl hD hg
  have q0 := px_cnt_le (px_on pg) (60 * 0) 60
  have q1 := px_cnt_le (px_on pg) (60 * 1) 60
  have q2 := px_cnt_le (px_on pg) (60 * 2) 60
  have q3 := px_cnt_le (px_on pg) (60 * 3) 60
  have p0 : px_pp pg (60 * 0) ≤ 60 := q0
  have p1 : px_pp pg (60 * 1) ≤ 60 := q1
  have p2 : px_pp pg (60 * 2) ≤ 60 := q2
  have p3 : px_pp pg (60 * 3) ≤ 60 := q3
  have hsp : px_pp pg (60 * 0) + px_pp pg (60 * 1) + px_pp pg (60 * 2) + px_pp pg (60 * 3) = px_sum (fun k => px_pp pg (60 * k)) 4 := by simp [px_sum]
  refine ww_aload_n O dd_MO_write_0 0 rfl ?_
  refine ww_iconst O dd_MO_write_1 (v := nI 0) rfl ?_
  refine ww_callV (q0 := 0) (ci := 3) O (cc_MO_pagesOf _ _ _ m a1 a2 a3 a4 a5 a6 a7 a8 cd fi le pl wr pg pv sz ow vl bf 0 (by omega)) lc_MO_76 lx_MO_pagesOf_I_I rfl rfl rfl (by rw [hR]; decide) (by rw [hR]; decide) (by rw [hR]; decide) rfl (Nat.le_of_ble_eq_true rfl) dd_MO_write_2 rfl [0, 1, 2, 3, 4, 5, 6, 7, 8] [] [0, 1, 2, 3, 4, 5, 6, 7, 8] rfl (by decide) rfl (by decide) (by decide) (ws' := [(m, .inr (3, [.int cd, .ref a1, .ref a2, .ref a3, .ref a4, .ref a5, .ref a6, .ref a7, .ref a8, .int fi, .int le])), (a1, .inl (ww_g X 0, 240, .inl pl)), (a2, .inl (ww_g X 1, 240, .inl wr)), (a3, .inl (ww_g X 1, 240, .inl pg)), (a4, .inl (ww_g X 0, 240, .inl pv)), (a5, .inl (ww_g X 0, 4, .inl sz)), (a6, .inl (ww_g X 0, 80, .inl ow)), (a7, .inl (ww_g X 0, 80, .inl vl)), (a8, .inl (ww_g X 0, 60, .inl bf))]) rfl rfl (by decide) ?_
  refine ww_aload_n O dd_MO_write_5 0 rfl ?_
  refine ww_iconst O dd_MO_write_6 (v := nI 1) rfl ?_
  refine ww_callV (q0 := 0) (ci := 3) O (cc_MO_pagesOf _ _ _ m a1 a2 a3 a4 a5 a6 a7 a8 cd fi le pl wr pg pv sz ow vl bf 1 (by omega)) lc_MO_76 lx_MO_pagesOf_I_I rfl rfl rfl (by rw [hR]; decide) (by rw [hR]; decide) (by rw [hR]; decide) rfl (Nat.le_of_ble_eq_true rfl) dd_MO_write_7 rfl [0, 1, 2, 3, 4, 5, 6, 7, 8] [] [0, 1, 2, 3, 4, 5, 6, 7, 8] rfl (by decide) rfl (by decide) (by decide) (ws' := [(m, .inr (3, [.int cd, .ref a1, .ref a2, .ref a3, .ref a4, .ref a5, .ref a6, .ref a7, .ref a8, .int fi, .int le])), (a1, .inl (ww_g X 0, 240, .inl pl)), (a2, .inl (ww_g X 1, 240, .inl wr)), (a3, .inl (ww_g X 1, 240, .inl pg)), (a4, .inl (ww_g X 0, 240, .inl pv)), (a5, .inl (ww_g X 0, 4, .inl sz)), (a6, .inl (ww_g X 0, 80, .inl ow)), (a7, .inl (ww_g X 0, 80, .inl vl)), (a8, .inl (ww_g X 0, 60, .inl bf))]) rfl rfl (by decide) ?_
  refine ww_iadd O dd_MO_write_10 (v := nI ((px_pp pg (60 * 0)) + (px_pp pg (60 * 1)))) (nI_add _ _) ?_
  refine ww_aload_n O dd_MO_write_11 0 rfl ?_
  refine ww_iconst O dd_MO_write_12 (v := nI 2) rfl ?_
  refine ww_callV (q0 := 0) (ci := 3) O (cc_MO_pagesOf _ _ _ m a1 a2 a3 a4 a5 a6 a7 a8 cd fi le pl wr pg pv sz ow vl bf 2 (by omega)) lc_MO_76 lx_MO_pagesOf_I_I rfl rfl rfl (by rw [hR]; decide) (by rw [hR]; decide) (by rw [hR]; decide) rfl (Nat.le_of_ble_eq_true rfl) dd_MO_write_13 rfl [0, 1, 2, 3, 4, 5, 6, 7, 8] [] [0, 1, 2, 3, 4, 5, 6, 7, 8] rfl (by decide) rfl (by decide) (by decide) (ws' := [(m, .inr (3, [.int cd, .ref a1, .ref a2, .ref a3, .ref a4, .ref a5, .ref a6, .ref a7, .ref a8, .int fi, .int le])), (a1, .inl (ww_g X 0, 240, .inl pl)), (a2, .inl (ww_g X 1, 240, .inl wr)), (a3, .inl (ww_g X 1, 240, .inl pg)), (a4, .inl (ww_g X 0, 240, .inl pv)), (a5, .inl (ww_g X 0, 4, .inl sz)), (a6, .inl (ww_g X 0, 80, .inl ow)), (a7, .inl (ww_g X 0, 80, .inl vl)), (a8, .inl (ww_g X 0, 60, .inl bf))]) rfl rfl (by decide) ?_
  refine ww_iadd O dd_MO_write_16 (v := nI (((px_pp pg (60 * 0)) + (px_pp pg (60 * 1))) + (px_pp pg (60 * 2)))) (nI_add _ _) ?_
  refine ww_aload_n O dd_MO_write_17 0 rfl ?_
  refine ww_iconst O dd_MO_write_18 (v := nI 3) rfl ?_
  refine ww_callV (q0 := 0) (ci := 3) O (cc_MO_pagesOf _ _ _ m a1 a2 a3 a4 a5 a6 a7 a8 cd fi le pl wr pg pv sz ow vl bf 3 (by omega)) lc_MO_76 lx_MO_pagesOf_I_I rfl rfl rfl (by rw [hR]; decide) (by rw [hR]; decide) (by rw [hR]; decide) rfl (Nat.le_of_ble_eq_true rfl) dd_MO_write_19 rfl [0, 1, 2, 3, 4, 5, 6, 7, 8] [] [0, 1, 2, 3, 4, 5, 6, 7, 8] rfl (by decide) rfl (by decide) (by decide) (ws' := [(m, .inr (3, [.int cd, .ref a1, .ref a2, .ref a3, .ref a4, .ref a5, .ref a6, .ref a7, .ref a8, .int fi, .int le])), (a1, .inl (ww_g X 0, 240, .inl pl)), (a2, .inl (ww_g X 1, 240, .inl wr)), (a3, .inl (ww_g X 1, 240, .inl pg)), (a4, .inl (ww_g X 0, 240, .inl pv)), (a5, .inl (ww_g X 0, 4, .inl sz)), (a6, .inl (ww_g X 0, 80, .inl ow)), (a7, .inl (ww_g X 0, 80, .inl vl)), (a8, .inl (ww_g X 0, 60, .inl bf))]) rfl rfl (by decide) ?_
  refine ww_iadd O dd_MO_write_22 (v := nI ((((px_pp pg (60 * 0)) + (px_pp pg (60 * 1))) + (px_pp pg (60 * 2))) + (px_pp pg (60 * 3)))) (nI_add _ _) ?_
  refine ww_istore O dd_MO_write_23 (by rw [hn]; decide) rfl (L' := [(0, .ref m), (1, .int (nI f)), (2, .int (nI b)), (3, .int z), (4, .int (nI ((((px_pp pg (60 * 0)) + (px_pp pg (60 * 1))) + (px_pp pg (60 * 2))) + (px_pp pg (60 * 3)))))]) rfl ?_
  refine ww_aload_n O dd_MO_write_25 0 rfl ?_
  refine ww_iload_n O dd_MO_write_26 1 rfl ?_
  refine ww_callS O (cc_MO_noFile _ _ _ (nI f) ) lc_MO_79 ls_MO_noFile_I_Z (by rw [hR]; decide) (by rw [hR]; decide) (by rw [hR]; decide) rfl (Nat.le_of_ble_eq_true rfl) dd_MO_write_27 rfl [] [0, 1, 2, 3, 4, 5, 6, 7, 8] [0, 1, 2, 3, 4, 5, 6, 7, 8] rfl (by decide) rfl (by decide) (by decide) (ws' := [(m, .inr (3, [.int cd, .ref a1, .ref a2, .ref a3, .ref a4, .ref a5, .ref a6, .ref a7, .ref a8, .int fi, .int le])), (a1, .inl (ww_g X 0, 240, .inl pl)), (a2, .inl (ww_g X 1, 240, .inl wr)), (a3, .inl (ww_g X 1, 240, .inl pg)), (a4, .inl (ww_g X 0, 240, .inl pv)), (a5, .inl (ww_g X 0, 4, .inl sz)), (a6, .inl (ww_g X 0, 80, .inl ow)), (a7, .inl (ww_g X 0, 80, .inl vl)), (a8, .inl (ww_g X 0, 60, .inl bf))]) rfl rfl (by decide) ?_
  rw [px_nf_nI (k := 3) (by omega) (by decide)]
  refine ww_if_neB O dd_MO_write_30 (tgt := 40) rfl (fun h30 => ?_) (fun h30 => ?_)
  · exact absurd h30 (by decide)
  · refine ww_iload_n O dd_MO_write_33 2 rfl ?_
    refine ww_callS O (cc_MO_noBlock _ _ _ (nI b) ) lc_MO_82 ls_MO_noBlock_I_Z (by rw [hR]; decide) (by rw [hR]; decide) (by rw [hR]; decide) rfl (Nat.le_of_ble_eq_true rfl) dd_MO_write_34 rfl [] [0, 1, 2, 3, 4, 5, 6, 7, 8] [0, 1, 2, 3, 4, 5, 6, 7, 8] rfl (by decide) rfl (by decide) (by decide) (ws' := [(m, .inr (3, [.int cd, .ref a1, .ref a2, .ref a3, .ref a4, .ref a5, .ref a6, .ref a7, .ref a8, .int fi, .int le])), (a1, .inl (ww_g X 0, 240, .inl pl)), (a2, .inl (ww_g X 1, 240, .inl wr)), (a3, .inl (ww_g X 1, 240, .inl pg)), (a4, .inl (ww_g X 0, 240, .inl pv)), (a5, .inl (ww_g X 0, 4, .inl sz)), (a6, .inl (ww_g X 0, 80, .inl ow)), (a7, .inl (ww_g X 0, 80, .inl vl)), (a8, .inl (ww_g X 0, 60, .inl bf))]) rfl rfl (by decide) ?_
    rw [px_nf_nI (k := 59) (by omega) (by decide)]
    refine ww_if_eqB O dd_MO_write_37 (tgt := 44) rfl (fun h37 => ?_) (fun h37 => ?_)
    · refine ww_aload_n O dd_MO_write_44 0 rfl ?_
      refine ww_get O ci_MO rfl 3 (by decide) lf_MO_17 rfl dd_MO_write_45 0 rfl rfl ?_
      refine ww_bipush O dd_MO_write_48 (v := nI 60) rfl ?_
      refine ww_iload_n O dd_MO_write_50 1 rfl ?_
      refine ww_imul O dd_MO_write_51 (v := nI (60 * f)) (pk_mul _ _) ?_
      refine ww_iload_n O dd_MO_write_52 2 rfl ?_
      refine ww_iadd O dd_MO_write_53 (v := nI ((60 * f) + b)) (nI_add _ _) ?_
      refine ww_zald O dd_MO_write_54 3 rfl (by omega) (by decide) rfl ?_
      refine ww_if_ne O dd_MO_write_55 (tgt := 69) rfl (fun h55 => ?_) (fun h55 => ?_)
      · exact absurd hpg h55
      · refine ww_iload O dd_MO_write_58 4 rfl ?_
        refine ww_bipush O dd_MO_write_60 (v := nI 24) rfl ?_
        refine ww_icmp_neN O dd_MO_write_62 (tgt := 69) rfl (by omega) (by omega) (fun h62 => ?_) (fun h62 => ?_)
        · exfalso; omega
        · refine ww_iconst O dd_MO_write_65 (v := nI 2) rfl ?_
          refine ww_goto O dd_MO_write_66 (tgt := 70) rfl ?_
          refine ww_put O ci_MO cy_MO cy_MO_ok cn_MO rfl 0 (by decide) lf_MO_35 rfl rfl (ty := .int) (by decide +kernel) dd_MO_write_70 0 rfl rfl rfl (Nat.le_of_ble_eq_true rfl) (ws' := [(m, .inr (3, [.int (nI 2), .ref a1, .ref a2, .ref a3, .ref a4, .ref a5, .ref a6, .ref a7, .ref a8, .int fi, .int le])), (a1, .inl (ww_g X 0, 240, .inl pl)), (a2, .inl (ww_g X 1, 240, .inl wr)), (a3, .inl (ww_g X 1, 240, .inl pg)), (a4, .inl (ww_g X 0, 240, .inl pv)), (a5, .inl (ww_g X 0, 4, .inl sz)), (a6, .inl (ww_g X 0, 80, .inl ow)), (a7, .inl (ww_g X 0, 80, .inl vl)), (a8, .inl (ww_g X 0, 60, .inl bf))]) rfl ?_
          refine ww_aload_n O dd_MO_write_73 0 rfl ?_
          refine ww_get O ci_MO rfl 0 (by decide) lf_MO_35 rfl dd_MO_write_74 0 rfl rfl ?_
          refine ww_if_leN O dd_MO_write_77 (tgt := 81) rfl (by omega) (fun h77 => ?_) (fun h77 => ?_)
          · exfalso; omega
          · exact F.v dd_MO_write_80
    · exact absurd h37 (by decide)
set_option maxRecDepth 4000 in
theorem cc_MO_write_over (l : Launch) (D : va_G) (g : Nat → ClassId) (m : Nat) (a1 : Nat) (a2 : Nat) (a3 : Nat) (a4 : Nat) (a5 : Nat) (a6 : Nat) (a7 : Nat) (a8 : Nat) (cd : Int32) (fi : Int32) (le : Int32) (pl : Nat → Int32) (wr : Nat → Int32) (pg : Nat → Int32) (pv : Nat → Int32) (sz : Nat → Int32) (ow : Nat → Int32) (vl : Nat → Int32) (bf : Nat → Int32) (f : Nat) (b : Nat) (z : Int32) (hr : ∀ b, b < 240 → px_rg (pl b)) (hf : f < 4) (hb : b < 60) (hpg : pg (60 * f + b) = 0) (h24 : px_sum (fun k => px_pp pg (60 * k)) 4 ≠ 24) (hov : ¬ px_sum (fun k => px_res pl wr (upd pg (60 * f + b) (nI 1)) (60 * k)) 4 + px_sum (fun k => px_mt pl wr (60 * k)) 4 ≤ 80) : ww_ct l D g yy_MO_write bb_MO_write 7 none (ww_rm 5) [.ref m, .int (nI f), .int (nI b), .int z] [(m, .inr (3, [.int cd, .ref a1, .ref a2, .ref a3, .ref a4, .ref a5, .ref a6, .ref a7, .ref a8, .int fi, .int le])), (a1, .inl (g 0, 240, .inl pl)), (a2, .inl (g 1, 240, .inl wr)), (a3, .inl (g 1, 240, .inl pg)), (a4, .inl (g 0, 240, .inl pv)), (a5, .inl (g 0, 4, .inl sz)), (a6, .inl (g 0, 80, .inl ow)), (a7, .inl (g 0, 80, .inl vl)), (a8, .inl (g 0, 60, .inl bf))] none [(m, .inr (3, [.int (nI 3), .ref a1, .ref a2, .ref a3, .ref a4, .ref a5, .ref a6, .ref a7, .ref a8, .int ((px_xs pl wr (px_xs pl wr le fi 4).1 (px_xs pl wr le fi 4).2 4).2), .int ((px_xs pl wr (px_xs pl wr le fi 4).1 (px_xs pl wr le fi 4).2 4).1)])), (a1, .inl (g 0, 240, .inl pl)), (a2, .inl (g 1, 240, .inl wr)), (a3, .inl (g 1, 240, .inl pg)), (a4, .inl (g 0, 240, .inl pv)), (a5, .inl (g 0, 4, .inl sz)), (a6, .inl (g 0, 80, .inl ow)), (a7, .inl (g 0, 80, .inl vl)), (a8, .inl (g 0, 60, .inl bf))] := by
  refine ww_start (by decide +kernel) rfl trivial (Nat.le_of_ble_eq_true rfl) (L0 := [(0, .ref m), (1, .int (nI f)), (2, .int (nI b)), (3, .int z)]) rfl ?_
  intro X O hl hD hg hR hn F
  subst hl hD hg
  have q0 := px_cnt_le (px_on pg) (60 * 0) 60
  have q1 := px_cnt_le (px_on pg) (60 * 1) 60
  have q2 := px_cnt_le (px_on pg) (60 * 2) 60
  have q3 := px_cnt_le (px_on pg) (60 * 3) 60
  have p0 : px_pp pg (60 * 0) ≤ 60 := q0
  have p1 : px_pp pg (60 * 1) ≤ 60 := q1
  have p2 : px_pp pg (60 * 2) ≤ 60 := q2
  have p3 : px_pp pg (60 * 3) ≤ 60 := q3
  have hsp : px_pp pg (60 * 0) + px_pp pg (60 * 1) + px_pp pg (60 * 2) + px_pp pg (60 * 3) = px_sum (fun k => px_pp pg (60 * k)) 4 := by simp [px_sum]
  have hmt := px_sum_le (f := fun k => px_mt pl wr (60 * k)) (fun k => px_mt_le pl wr (60 * k)) 4
  have hrs := px_sum_le (f := fun k => px_res pl wr (upd pg (60 * f + b) (nI 1)) (60 * k)) (fun k => px_res_le pl wr (upd pg (60 * f + b) (nI 1)) (60 * k)) 4
  refine ww_aload_n O dd_MO_write_0 0 rfl ?_
  refine ww_iconst O dd_MO_write_1 (v := nI 0) rfl ?_
  refine ww_callV (q0 := 0) (ci := 3) O (cc_MO_pagesOf _ _ _ m a1 a2 a3 a4 a5 a6 a7 a8 cd fi le pl wr pg pv sz ow vl bf 0 (by omega)) lc_MO_76 lx_MO_pagesOf_I_I rfl rfl rfl (by rw [hR]; decide) (by rw [hR]; decide) (by rw [hR]; decide) rfl (Nat.le_of_ble_eq_true rfl) dd_MO_write_2 rfl [0, 1, 2, 3, 4, 5, 6, 7, 8] [] [0, 1, 2, 3, 4, 5, 6, 7, 8] rfl (by decide) rfl (by decide) (by decide) (ws' := [(m, .inr (3, [.int cd, .ref a1, .ref a2, .ref a3, .ref a4, .ref a5, .ref a6, .ref a7, .ref a8, .int fi, .int le])), (a1, .inl (ww_g X 0, 240, .inl pl)), (a2, .inl (ww_g X 1, 240, .inl wr)), (a3, .inl (ww_g X 1, 240, .inl pg)), (a4, .inl (ww_g X 0, 240, .inl pv)), (a5, .inl (ww_g X 0, 4, .inl sz)), (a6, .inl (ww_g X 0, 80, .inl ow)), (a7, .inl (ww_g X 0, 80, .inl vl)), (a8, .inl (ww_g X 0, 60, .inl bf))]) rfl rfl (by decide) ?_
  refine ww_aload_n O dd_MO_write_5 0 rfl ?_
  refine ww_iconst O dd_MO_write_6 (v := nI 1) rfl ?_
  refine ww_callV (q0 := 0) (ci := 3) O (cc_MO_pagesOf _ _ _ m a1 a2 a3 a4 a5 a6 a7 a8 cd fi le pl wr pg pv sz ow vl bf 1 (by omega)) lc_MO_76 lx_MO_pagesOf_I_I rfl rfl rfl (by rw [hR]; decide) (by rw [hR]; decide) (by rw [hR]; decide) rfl (Nat.le_of_ble_eq_true rfl) dd_MO_write_7 rfl [0, 1, 2, 3, 4, 5, 6, 7, 8] [] [0, 1, 2, 3, 4, 5, 6, 7, 8] rfl (by decide) rfl (by decide) (by decide) (ws' := [(m, .inr (3, [.int cd, .ref a1, .ref a2, .ref a3, .ref a4, .ref a5, .ref a6, .ref a7, .ref a8, .int fi, .int le])), (a1, .inl (ww_g X 0, 240, .inl pl)), (a2, .inl (ww_g X 1, 240, .inl wr)), (a3, .inl (ww_g X 1, 240, .inl pg)), (a4, .inl (ww_g X 0, 240, .inl pv)), (a5, .inl (ww_g X 0, 4, .inl sz)), (a6, .inl (ww_g X 0, 80, .inl ow)), (a7, .inl (ww_g X 0, 80, .inl vl)), (a8, .inl (ww_g X 0, 60, .inl bf))]) rfl rfl (by decide) ?_
  refine ww_iadd O dd_MO_write_10 (v := nI ((px_pp pg (60 * 0)) + (px_pp pg (60 * 1)))) (nI_add _ _) ?_
  refine ww_aload_n O dd_MO_write_11 0 rfl ?_
  refine ww_iconst O dd_MO_write_12 (v := nI 2) rfl ?_
  refine ww_callV (q0 := 0) (ci := 3) O (cc_MO_pagesOf _ _ _ m a1 a2 a3 a4 a5 a6 a7 a8 cd fi le pl wr pg pv sz ow vl bf 2 (by omega)) lc_MO_76 lx_MO_pagesOf_I_I rfl rfl rfl (by rw [hR]; decide) (by rw [hR]; decide) (by rw [hR]; decide) rfl (Nat.le_of_ble_eq_true rfl) dd_MO_write_13 rfl [0, 1, 2, 3, 4, 5, 6, 7, 8] [] [0, 1, 2, 3, 4, 5, 6, 7, 8] rfl (by decide) rfl (by decide) (by decide) (ws' := [(m, .inr (3, [.int cd, .ref a1, .ref a2, .ref a3, .ref a4, .ref a5, .ref a6, .ref a7, .ref a8, .int fi, .int le])), (a1, .inl (ww_g X 0, 240, .inl pl)), (a2, .inl (ww_g X 1, 240, .inl wr)), (a3, .inl (ww_g X 1, 240, .inl pg)), (a4, .inl (ww_g X 0, 240, .inl pv)), (a5, .inl (ww_g X 0, 4, .inl sz)), (a6, .inl (ww_g X 0, 80, .inl ow)), (a7, .inl (ww_g X 0, 80, .inl vl)), (a8, .inl (ww_g X 0, 60, .inl bf))]) rfl rfl (by decide) ?_
  refine ww_iadd O dd_MO_write_16 (v := nI (((px_pp pg (60 * 0)) + (px_pp pg (60 * 1))) + (px_pp pg (60 * 2)))) (nI_add _ _) ?_
  refine ww_aload_n O dd_MO_write_17 0 rfl ?_
  refine ww_iconst O dd_MO_write_18 (v := nI 3) rfl ?_
  refine ww_callV (q0 := 0) (ci := 3) O (cc_MO_pagesOf _ _ _ m a1 a2 a3 a4 a5 a6 a7 a8 cd fi le pl wr pg pv sz ow vl bf 3 (by omega)) lc_MO_76 lx_MO_pagesOf_I_I rfl rfl rfl (by rw [hR]; decide) (by rw [hR]; decide) (by rw [hR]; decide) rfl (Nat.le_of_ble_eq_true rfl) dd_MO_write_19 rfl [0, 1, 2, 3, 4, 5, 6, 7, 8] [] [0, 1, 2, 3, 4, 5, 6, 7, 8] rfl (by decide) rfl (by decide) (by decide) (ws' := [(m, .inr (3, [.int cd, .ref a1, .ref a2, .ref a3, .ref a4, .ref a5, .ref a6, .ref a7, .ref a8, .int fi, .int le])), (a1, .inl (ww_g X 0, 240, .inl pl)), (a2, .inl (ww_g X 1, 240, .inl wr)), (a3, .inl (ww_g X 1, 240, .inl pg)), (a4, .inl (ww_g X 0, 240, .inl pv)), (a5, .inl (ww_g X 0, 4, .inl sz)), (a6, .inl (ww_g X 0, 80, .inl ow)), (a7, .inl (ww_g X 0, 80, .inl vl)), (a8, .inl (ww_g X 0, 60, .inl bf))]) rfl rfl (by decide) ?_
  refine ww_iadd O dd_MO_write_22 (v := nI ((((px_pp pg (60 * 0)) + (px_pp pg (60 * 1))) + (px_pp pg (60 * 2))) + (px_pp pg (60 * 3)))) (nI_add _ _) ?_
  refine ww_istore O dd_MO_write_23 (by rw [hn]; decide) rfl (L' := [(0, .ref m), (1, .int (nI f)), (2, .int (nI b)), (3, .int z), (4, .int (nI ((((px_pp pg (60 * 0)) + (px_pp pg (60 * 1))) + (px_pp pg (60 * 2))) + (px_pp pg (60 * 3)))))]) rfl ?_
  refine ww_aload_n O dd_MO_write_25 0 rfl ?_
  refine ww_iload_n O dd_MO_write_26 1 rfl ?_
  refine ww_callS O (cc_MO_noFile _ _ _ (nI f) ) lc_MO_79 ls_MO_noFile_I_Z (by rw [hR]; decide) (by rw [hR]; decide) (by rw [hR]; decide) rfl (Nat.le_of_ble_eq_true rfl) dd_MO_write_27 rfl [] [0, 1, 2, 3, 4, 5, 6, 7, 8] [0, 1, 2, 3, 4, 5, 6, 7, 8] rfl (by decide) rfl (by decide) (by decide) (ws' := [(m, .inr (3, [.int cd, .ref a1, .ref a2, .ref a3, .ref a4, .ref a5, .ref a6, .ref a7, .ref a8, .int fi, .int le])), (a1, .inl (ww_g X 0, 240, .inl pl)), (a2, .inl (ww_g X 1, 240, .inl wr)), (a3, .inl (ww_g X 1, 240, .inl pg)), (a4, .inl (ww_g X 0, 240, .inl pv)), (a5, .inl (ww_g X 0, 4, .inl sz)), (a6, .inl (ww_g X 0, 80, .inl ow)), (a7, .inl (ww_g X 0, 80, .inl vl)), (a8, .inl (ww_g X 0, 60, .inl bf))]) rfl rfl (by decide) ?_
  rw [px_nf_nI (k := 3) (by omega) (by decide)]
  refine ww_if_neB O dd_MO_write_30 (tgt := 40) rfl (fun h30 => ?_) (fun h30 => ?_)
  · exact absurd h30 (by decide)
  · refine ww_iload_n O dd_MO_write_33 2 rfl ?_
    refine ww_callS O (cc_MO_noBlock _ _ _ (nI b) ) lc_MO_82 ls_MO_noBlock_I_Z (by rw [hR]; decide) (by rw [hR]; decide) (by rw [hR]; decide) rfl (Nat.le_of_ble_eq_true rfl) dd_MO_write_34 rfl [] [0, 1, 2, 3, 4, 5, 6, 7, 8] [0, 1, 2, 3, 4, 5, 6, 7, 8] rfl (by decide) rfl (by decide) (by decide) (ws' := [(m, .inr (3, [.int cd, .ref a1, .ref a2, .ref a3, .ref a4, .ref a5, .ref a6, .ref a7, .ref a8, .int fi, .int le])), (a1, .inl (ww_g X 0, 240, .inl pl)), (a2, .inl (ww_g X 1, 240, .inl wr)), (a3, .inl (ww_g X 1, 240, .inl pg)), (a4, .inl (ww_g X 0, 240, .inl pv)), (a5, .inl (ww_g X 0, 4, .inl sz)), (a6, .inl (ww_g X 0, 80, .inl ow)), (a7, .inl (ww_g X 0, 80, .inl vl)), (a8, .inl (ww_g X 0, 60, .inl bf))]) rfl rfl (by decide) ?_
    rw [px_nf_nI (k := 59) (by omega) (by decide)]
    refine ww_if_eqB O dd_MO_write_37 (tgt := 44) rfl (fun h37 => ?_) (fun h37 => ?_)
    · refine ww_aload_n O dd_MO_write_44 0 rfl ?_
      refine ww_get O ci_MO rfl 3 (by decide) lf_MO_17 rfl dd_MO_write_45 0 rfl rfl ?_
      refine ww_bipush O dd_MO_write_48 (v := nI 60) rfl ?_
      refine ww_iload_n O dd_MO_write_50 1 rfl ?_
      refine ww_imul O dd_MO_write_51 (v := nI (60 * f)) (pk_mul _ _) ?_
      refine ww_iload_n O dd_MO_write_52 2 rfl ?_
      refine ww_iadd O dd_MO_write_53 (v := nI ((60 * f) + b)) (nI_add _ _) ?_
      refine ww_zald O dd_MO_write_54 3 rfl (by omega) (by decide) rfl ?_
      refine ww_if_ne O dd_MO_write_55 (tgt := 69) rfl (fun h55 => ?_) (fun h55 => ?_)
      · exact absurd hpg h55
      · refine ww_iload O dd_MO_write_58 4 rfl ?_
        refine ww_bipush O dd_MO_write_60 (v := nI 24) rfl ?_
        refine ww_icmp_neN O dd_MO_write_62 (tgt := 69) rfl (by omega) (by omega) (fun h62 => ?_) (fun h62 => ?_)
        · refine ww_iconst O dd_MO_write_69 (v := nI 0) rfl ?_
          refine ww_put O ci_MO cy_MO cy_MO_ok cn_MO rfl 0 (by decide) lf_MO_35 rfl rfl (ty := .int) (by decide +kernel) dd_MO_write_70 0 rfl rfl rfl (Nat.le_of_ble_eq_true rfl) (ws' := [(m, .inr (3, [.int (nI 0), .ref a1, .ref a2, .ref a3, .ref a4, .ref a5, .ref a6, .ref a7, .ref a8, .int fi, .int le])), (a1, .inl (ww_g X 0, 240, .inl pl)), (a2, .inl (ww_g X 1, 240, .inl wr)), (a3, .inl (ww_g X 1, 240, .inl pg)), (a4, .inl (ww_g X 0, 240, .inl pv)), (a5, .inl (ww_g X 0, 4, .inl sz)), (a6, .inl (ww_g X 0, 80, .inl ow)), (a7, .inl (ww_g X 0, 80, .inl vl)), (a8, .inl (ww_g X 0, 60, .inl bf))]) rfl ?_
          refine ww_aload_n O dd_MO_write_73 0 rfl ?_
          refine ww_get O ci_MO rfl 0 (by decide) lf_MO_35 rfl dd_MO_write_74 0 rfl rfl ?_
          refine ww_if_leN O dd_MO_write_77 (tgt := 81) rfl (by omega) (fun h77 => ?_) (fun h77 => ?_)
          · refine ww_bipush O dd_MO_write_81 (v := nI 60) rfl ?_
            refine ww_iload_n O dd_MO_write_83 1 rfl ?_
            refine ww_imul O dd_MO_write_84 (v := nI (60 * f)) (pk_mul _ _) ?_
            refine ww_iload_n O dd_MO_write_85 2 rfl ?_
            refine ww_iadd O dd_MO_write_86 (v := nI ((60 * f) + b)) (nI_add _ _) ?_
            refine ww_istore O dd_MO_write_87 (by rw [hn]; decide) rfl (L' := [(0, .ref m), (1, .int (nI f)), (2, .int (nI b)), (3, .int z), (4, .int (nI ((((px_pp pg (60 * 0)) + (px_pp pg (60 * 1))) + (px_pp pg (60 * 2))) + (px_pp pg (60 * 3))))), (5, .int (nI ((60 * f) + b)))]) rfl ?_
            refine ww_aload_n O dd_MO_write_89 0 rfl ?_
            refine ww_get O ci_MO rfl 3 (by decide) lf_MO_17 rfl dd_MO_write_90 0 rfl rfl ?_
            refine ww_iload O dd_MO_write_93 5 rfl ?_
            refine ww_zald O dd_MO_write_95 3 rfl (by omega) (by decide) rfl ?_
            refine ww_istore O dd_MO_write_96 (by rw [hn]; decide) rfl (L' := [(0, .ref m), (1, .int (nI f)), (2, .int (nI b)), (3, .int z), (4, .int (nI ((((px_pp pg (60 * 0)) + (px_pp pg (60 * 1))) + (px_pp pg (60 * 2))) + (px_pp pg (60 * 3))))), (5, .int (nI ((60 * f) + b))), (6, .int (pg ((60 * f) + b)))]) rfl ?_
            refine ww_aload_n O dd_MO_write_98 0 rfl ?_
            refine ww_get O ci_MO rfl 3 (by decide) lf_MO_17 rfl dd_MO_write_99 0 rfl rfl ?_
            refine ww_iload O dd_MO_write_102 5 rfl ?_
            refine ww_iconst O dd_MO_write_104 (v := nI 1) rfl ?_
            refine ww_zast O dd_MO_write_105 3 rfl (by omega) (by decide) rfl (ws' := [(m, .inr (3, [.int (nI 0), .ref a1, .ref a2, .ref a3, .ref a4, .ref a5, .ref a6, .ref a7, .ref a8, .int fi, .int le])), (a1, .inl (ww_g X 0, 240, .inl pl)), (a2, .inl (ww_g X 1, 240, .inl wr)), (a3, .inl (ww_g X 1, 240, .inl (upd pg ((60 * f) + b) (nI 1)))), (a4, .inl (ww_g X 0, 240, .inl pv)), (a5, .inl (ww_g X 0, 4, .inl sz)), (a6, .inl (ww_g X 0, 80, .inl ow)), (a7, .inl (ww_g X 0, 80, .inl vl)), (a8, .inl (ww_g X 0, 60, .inl bf))]) rfl ?_
            refine ww_iload O dd_MO_write_106 6 rfl ?_
            refine ww_if_ne O dd_MO_write_108 (tgt := 136) rfl (fun h108 => ?_) (fun h108 => ?_)
            · exact absurd hpg h108
            · refine ww_aload_n O dd_MO_write_111 0 rfl ?_
              refine ww_callV (q0 := 0) (ci := 3) O (cc_MO_allFree _ _ _ m a1 a2 a3 a4 a5 a6 a7 a8 (nI 0) fi le pl wr (upd pg ((60 * f) + b) (nI 1)) pv sz ow vl bf (by omega)) lc_MO_85 lx_MO_allFree__I rfl rfl rfl (by rw [hR]; decide) (by rw [hR]; decide) (by rw [hR]; decide) rfl (Nat.le_of_ble_eq_true rfl) dd_MO_write_112 rfl [0, 1, 2, 3, 4, 5, 6, 7, 8] [] [0, 1, 2, 3, 4, 5, 6, 7, 8] rfl (by decide) rfl (by decide) (by decide) (ws' := [(m, .inr (3, [.int (nI 0), .ref a1, .ref a2, .ref a3, .ref a4, .ref a5, .ref a6, .ref a7, .ref a8, .int ((px_xs pl wr le fi 4).2), .int ((px_xs pl wr le fi 4).1)])), (a1, .inl (ww_g X 0, 240, .inl pl)), (a2, .inl (ww_g X 1, 240, .inl wr)), (a3, .inl (ww_g X 1, 240, .inl (upd pg ((60 * f) + b) (nI 1)))), (a4, .inl (ww_g X 0, 240, .inl pv)), (a5, .inl (ww_g X 0, 4, .inl sz)), (a6, .inl (ww_g X 0, 80, .inl ow)), (a7, .inl (ww_g X 0, 80, .inl vl)), (a8, .inl (ww_g X 0, 60, .inl bf))]) rfl rfl (by decide) ?_
              refine ww_aload_n O dd_MO_write_115 0 rfl ?_
              refine ww_callV (q0 := 0) (ci := 3) O (cc_MO_allReserved _ _ _ m a1 a2 a3 a4 a5 a6 a7 a8 (nI 0) ((px_xs pl wr le fi 4).2) ((px_xs pl wr le fi 4).1) pl wr (upd pg ((60 * f) + b) (nI 1)) pv sz ow vl bf (by omega)) lc_MO_89 lx_MO_allReserved__I rfl rfl rfl (by rw [hR]; decide) (by rw [hR]; decide) (by rw [hR]; decide) rfl (Nat.le_of_ble_eq_true rfl) dd_MO_write_116 rfl [0, 1, 2, 3, 4, 5, 6, 7, 8] [] [0, 1, 2, 3, 4, 5, 6, 7, 8] rfl (by decide) rfl (by decide) (by decide) (ws' := [(m, .inr (3, [.int (nI 0), .ref a1, .ref a2, .ref a3, .ref a4, .ref a5, .ref a6, .ref a7, .ref a8, .int ((px_xs pl wr ((px_xs pl wr le fi 4).1) ((px_xs pl wr le fi 4).2) 4).2), .int ((px_xs pl wr ((px_xs pl wr le fi 4).1) ((px_xs pl wr le fi 4).2) 4).1)])), (a1, .inl (ww_g X 0, 240, .inl pl)), (a2, .inl (ww_g X 1, 240, .inl wr)), (a3, .inl (ww_g X 1, 240, .inl (upd pg ((60 * f) + b) (nI 1)))), (a4, .inl (ww_g X 0, 240, .inl pv)), (a5, .inl (ww_g X 0, 4, .inl sz)), (a6, .inl (ww_g X 0, 80, .inl ow)), (a7, .inl (ww_g X 0, 80, .inl vl)), (a8, .inl (ww_g X 0, 60, .inl bf))]) rfl rfl (by decide) ?_
              refine ww_icmp_ge O dd_MO_write_119 (tgt := 136) rfl (fun h119 => ?_) (fun h119 => ?_)
              · exact absurd ((px_cmp (by omega) (by omega)).mp h119) hov
              · refine ww_aload_n O dd_MO_write_122 0 rfl ?_
                refine ww_get O ci_MO rfl 3 (by decide) lf_MO_17 rfl dd_MO_write_123 0 rfl rfl ?_
                refine ww_iload O dd_MO_write_126 5 rfl ?_
                refine ww_iconst O dd_MO_write_128 (v := nI 0) rfl ?_
                refine ww_zast O dd_MO_write_129 3 rfl (by omega) (by decide) rfl (ws' := [(m, .inr (3, [.int (nI 0), .ref a1, .ref a2, .ref a3, .ref a4, .ref a5, .ref a6, .ref a7, .ref a8, .int ((px_xs pl wr ((px_xs pl wr le fi 4).1) ((px_xs pl wr le fi 4).2) 4).2), .int ((px_xs pl wr ((px_xs pl wr le fi 4).1) ((px_xs pl wr le fi 4).2) 4).1)])), (a1, .inl (ww_g X 0, 240, .inl pl)), (a2, .inl (ww_g X 1, 240, .inl wr)), (a3, .inl (ww_g X 1, 240, .inl (upd (upd pg ((60 * f) + b) (nI 1)) ((60 * f) + b) (nI 0)))), (a4, .inl (ww_g X 0, 240, .inl pv)), (a5, .inl (ww_g X 0, 4, .inl sz)), (a6, .inl (ww_g X 0, 80, .inl ow)), (a7, .inl (ww_g X 0, 80, .inl vl)), (a8, .inl (ww_g X 0, 60, .inl bf))]) rfl ?_
                refine ww_aload_n O dd_MO_write_130 0 rfl ?_
                refine ww_iconst O dd_MO_write_131 (v := nI 3) rfl ?_
                refine ww_put O ci_MO cy_MO cy_MO_ok cn_MO rfl 0 (by decide) lf_MO_35 rfl rfl (ty := .int) (by decide +kernel) dd_MO_write_132 0 rfl rfl rfl (Nat.le_of_ble_eq_true rfl) (ws' := [(m, .inr (3, [.int (nI 3), .ref a1, .ref a2, .ref a3, .ref a4, .ref a5, .ref a6, .ref a7, .ref a8, .int ((px_xs pl wr ((px_xs pl wr le fi 4).1) ((px_xs pl wr le fi 4).2) 4).2), .int ((px_xs pl wr ((px_xs pl wr le fi 4).1) ((px_xs pl wr le fi 4).2) 4).1)])), (a1, .inl (ww_g X 0, 240, .inl pl)), (a2, .inl (ww_g X 1, 240, .inl wr)), (a3, .inl (ww_g X 1, 240, .inl (upd (upd pg ((60 * f) + b) (nI 1)) ((60 * f) + b) (nI 0)))), (a4, .inl (ww_g X 0, 240, .inl pv)), (a5, .inl (ww_g X 0, 4, .inl sz)), (a6, .inl (ww_g X 0, 80, .inl ow)), (a7, .inl (ww_g X 0, 80, .inl vl)), (a8, .inl (ww_g X 0, 60, .inl bf))]) rfl ?_
                rw [show upd (upd pg (60 * f + b) (nI 1)) (60 * f + b) (nI 0) = pg from by funext j; unfold upd; split; rename_i e; rw [e]; exact hpg.symm; rfl]
                exact F.v dd_MO_write_135
          · exfalso; omega
        · exfalso; omega
    · exact absurd h37 (by decide)
set_option maxRecDepth 4000 in
theorem cc_MO_write_new (l : Launch) (D : va_G) (g : Nat → ClassId) (m : Nat) (a1 : Nat) (a2 : Nat) (a3 : Nat) (a4 : Nat) (a5 : Nat) (a6 : Nat) (a7 : Nat) (a8 : Nat) (cd : Int32) (fi : Int32) (le : Int32) (pl : Nat → Int32) (wr : Nat → Int32) (pg : Nat → Int32) (pv : Nat → Int32) (sz : Nat → Int32) (ow : Nat → Int32) (vl : Nat → Int32) (bf : Nat → Int32) (f : Nat) (b : Nat) (z : Int32) (hr : ∀ b, b < 240 → px_rg (pl b)) (hf : f < 4) (hb : b < 60) (hpg : pg (60 * f + b) = 0) (h24 : px_sum (fun k => px_pp pg (60 * k)) 4 ≠ 24) (hov : px_sum (fun k => px_res pl wr (upd pg (60 * f + b) (nI 1)) (60 * k)) 4 + px_sum (fun k => px_mt pl wr (60 * k)) 4 ≤ 80) : ww_ct l D g yy_MO_write bb_MO_write 7 none (ww_rm 5) [.ref m, .int (nI f), .int (nI b), .int z] [(m, .inr (3, [.int cd, .ref a1, .ref a2, .ref a3, .ref a4, .ref a5, .ref a6, .ref a7, .ref a8, .int fi, .int le])), (a1, .inl (g 0, 240, .inl pl)), (a2, .inl (g 1, 240, .inl wr)), (a3, .inl (g 1, 240, .inl pg)), (a4, .inl (g 0, 240, .inl pv)), (a5, .inl (g 0, 4, .inl sz)), (a6, .inl (g 0, 80, .inl ow)), (a7, .inl (g 0, 80, .inl vl)), (a8, .inl (g 0, 60, .inl bf))] none [(m, .inr (3, [.int (nI 0), .ref a1, .ref a2, .ref a3, .ref a4, .ref a5, .ref a6, .ref a7, .ref a8, .int ((px_xs pl wr (px_xs pl wr le fi 4).1 (px_xs pl wr le fi 4).2 4).2), .int ((px_xs pl wr (px_xs pl wr le fi 4).1 (px_xs pl wr le fi 4).2 4).1)])), (a1, .inl (g 0, 240, .inl pl)), (a2, .inl (g 1, 240, .inl wr)), (a3, .inl (g 1, 240, .inl (upd pg (60 * f + b) (nI 1)))), (a4, .inl (g 0, 240, .inl (upd pv (60 * f + b) z))), (a5, .inl (g 0, 4, .inl (upd sz f (if sz f ≤ nI b then nI (b + 1) else sz f)))), (a6, .inl (g 0, 80, .inl ow)), (a7, .inl (g 0, 80, .inl vl)), (a8, .inl (g 0, 60, .inl bf))] := by
  refine ww_start (by decide +kernel) rfl trivial (Nat.le_of_ble_eq_true rfl) (L0 := [(0, .ref m), (1, .int (nI f)), (2, .int (nI b)), (3, .int z)]) rfl ?_
  intro X O hl hD hg hR hn F
  subst hl hD hg
  have q0 := px_cnt_le (px_on pg) (60 * 0) 60
  have q1 := px_cnt_le (px_on pg) (60 * 1) 60
  have q2 := px_cnt_le (px_on pg) (60 * 2) 60
  have q3 := px_cnt_le (px_on pg) (60 * 3) 60
  have p0 : px_pp pg (60 * 0) ≤ 60 := q0
  have p1 : px_pp pg (60 * 1) ≤ 60 := q1
  have p2 : px_pp pg (60 * 2) ≤ 60 := q2
  have p3 : px_pp pg (60 * 3) ≤ 60 := q3
  have hsp : px_pp pg (60 * 0) + px_pp pg (60 * 1) + px_pp pg (60 * 2) + px_pp pg (60 * 3) = px_sum (fun k => px_pp pg (60 * k)) 4 := by simp [px_sum]
  have hmt := px_sum_le (f := fun k => px_mt pl wr (60 * k)) (fun k => px_mt_le pl wr (60 * k)) 4
  have hrs := px_sum_le (f := fun k => px_res pl wr (upd pg (60 * f + b) (nI 1)) (60 * k)) (fun k => px_res_le pl wr (upd pg (60 * f + b) (nI 1)) (60 * k)) 4
  refine ww_aload_n O dd_MO_write_0 0 rfl ?_
  refine ww_iconst O dd_MO_write_1 (v := nI 0) rfl ?_
  refine ww_callV (q0 := 0) (ci := 3) O (cc_MO_pagesOf _ _ _ m a1 a2 a3 a4 a5 a6 a7 a8 cd fi le pl wr pg pv sz ow vl bf 0 (by omega)) lc_MO_76 lx_MO_pagesOf_I_I rfl rfl rfl (by rw [hR]; decide) (by rw [hR]; decide) (by rw [hR]; decide) rfl (Nat.le_of_ble_eq_true rfl) dd_MO_write_2 rfl [0, 1, 2, 3, 4, 5, 6, 7, 8] [] [0, 1, 2, 3, 4, 5, 6, 7, 8] rfl (by decide) rfl (by decide) (by decide) (ws' := [(m, .inr (3, [.int cd, .ref a1, .ref a2, .ref a3, .ref a4, .ref a5, .ref a6, .ref a7, .ref a8, .int fi, .int le])), (a1, .inl (ww_g X 0, 240, .inl pl)), (a2, .inl (ww_g X 1, 240, .inl wr)), (a3, .inl (ww_g X 1, 240, .inl pg)), (a4, .inl (ww_g X 0, 240, .inl pv)), (a5, .inl (ww_g X 0, 4, .inl sz)), (a6, .inl (ww_g X 0, 80, .inl ow)), (a7, .inl (ww_g X 0, 80, .inl vl)), (a8, .inl (ww_g X 0, 60, .inl bf))]) rfl rfl (by decide) ?_
  refine ww_aload_n O dd_MO_write_5 0 rfl ?_
  refine ww_iconst O dd_MO_write_6 (v := nI 1) rfl ?_
  refine ww_callV (q0 := 0) (ci := 3) O (cc_MO_pagesOf _ _ _ m a1 a2 a3 a4 a5 a6 a7 a8 cd fi le pl wr pg pv sz ow vl bf 1 (by omega)) lc_MO_76 lx_MO_pagesOf_I_I rfl rfl rfl (by rw [hR]; decide) (by rw [hR]; decide) (by rw [hR]; decide) rfl (Nat.le_of_ble_eq_true rfl) dd_MO_write_7 rfl [0, 1, 2, 3, 4, 5, 6, 7, 8] [] [0, 1, 2, 3, 4, 5, 6, 7, 8] rfl (by decide) rfl (by decide) (by decide) (ws' := [(m, .inr (3, [.int cd, .ref a1, .ref a2, .ref a3, .ref a4, .ref a5, .ref a6, .ref a7, .ref a8, .int fi, .int le])), (a1, .inl (ww_g X 0, 240, .inl pl)), (a2, .inl (ww_g X 1, 240, .inl wr)), (a3, .inl (ww_g X 1, 240, .inl pg)), (a4, .inl (ww_g X 0, 240, .inl pv)), (a5, .inl (ww_g X 0, 4, .inl sz)), (a6, .inl (ww_g X 0, 80, .inl ow)), (a7, .inl (ww_g X 0, 80, .inl vl)), (a8, .inl (ww_g X 0, 60, .inl bf))]) rfl rfl (by decide) ?_
  refine ww_iadd O dd_MO_write_10 (v := nI ((px_pp pg (60 * 0)) + (px_pp pg (60 * 1)))) (nI_add _ _) ?_
  refine ww_aload_n O dd_MO_write_11 0 rfl ?_
  refine ww_iconst O dd_MO_write_12 (v := nI 2) rfl ?_
  refine ww_callV (q0 := 0) (ci := 3) O (cc_MO_pagesOf _ _ _ m a1 a2 a3 a4 a5 a6 a7 a8 cd fi le pl wr pg pv sz ow vl bf 2 (by omega)) lc_MO_76 lx_MO_pagesOf_I_I rfl rfl rfl (by rw [hR]; decide) (by rw [hR]; decide) (by rw [hR]; decide) rfl (Nat.le_of_ble_eq_true rfl) dd_MO_write_13 rfl [0, 1, 2, 3, 4, 5, 6, 7, 8] [] [0, 1, 2, 3, 4, 5, 6, 7, 8] rfl (by decide) rfl (by decide) (by decide) (ws' := [(m, .inr (3, [.int cd, .ref a1, .ref a2, .ref a3, .ref a4, .ref a5, .ref a6, .ref a7, .ref a8, .int fi, .int le])), (a1, .inl (ww_g X 0, 240, .inl pl)), (a2, .inl (ww_g X 1, 240, .inl wr)), (a3, .inl (ww_g X 1, 240, .inl pg)), (a4, .inl (ww_g X 0, 240, .inl pv)), (a5, .inl (ww_g X 0, 4, .inl sz)), (a6, .inl (ww_g X 0, 80, .inl ow)), (a7, .inl (ww_g X 0, 80, .inl vl)), (a8, .inl (ww_g X 0, 60, .inl bf))]) rfl rfl (by decide) ?_
  refine ww_iadd O dd_MO_write_16 (v := nI (((px_pp pg (60 * 0)) + (px_pp pg (60 * 1))) + (px_pp pg (60 * 2)))) (nI_add _ _) ?_
  refine ww_aload_n O dd_MO_write_17 0 rfl ?_
  refine ww_iconst O dd_MO_write_18 (v := nI 3) rfl ?_
  refine ww_callV (q0 := 0) (ci := 3) O (cc_MO_pagesOf _ _ _ m a1 a2 a3 a4 a5 a6 a7 a8 cd fi le pl wr pg pv sz ow vl bf 3 (by omega)) lc_MO_76 lx_MO_pagesOf_I_I rfl rfl rfl (by rw [hR]; decide) (by rw [hR]; decide) (by rw [hR]; decide) rfl (Nat.le_of_ble_eq_true rfl) dd_MO_write_19 rfl [0, 1, 2, 3, 4, 5, 6, 7, 8] [] [0, 1, 2, 3, 4, 5, 6, 7, 8] rfl (by decide) rfl (by decide) (by decide) (ws' := [(m, .inr (3, [.int cd, .ref a1, .ref a2, .ref a3, .ref a4, .ref a5, .ref a6, .ref a7, .ref a8, .int fi, .int le])), (a1, .inl (ww_g X 0, 240, .inl pl)), (a2, .inl (ww_g X 1, 240, .inl wr)), (a3, .inl (ww_g X 1, 240, .inl pg)), (a4, .inl (ww_g X 0, 240, .inl pv)), (a5, .inl (ww_g X 0, 4, .inl sz)), (a6, .inl (ww_g X 0, 80, .inl ow)), (a7, .inl (ww_g X 0, 80, .inl vl)), (a8, .inl (ww_g X 0, 60, .inl bf))]) rfl rfl (by decide) ?_
  refine ww_iadd O dd_MO_write_22 (v := nI ((((px_pp pg (60 * 0)) + (px_pp pg (60 * 1))) + (px_pp pg (60 * 2))) + (px_pp pg (60 * 3)))) (nI_add _ _) ?_
  refine ww_istore O dd_MO_write_23 (by rw [hn]; decide) rfl (L' := [(0, .ref m), (1, .int (nI f)), (2, .int (nI b)), (3, .int z), (4, .int (nI ((((px_pp pg (60 * 0)) + (px_pp pg (60 * 1))) + (px_pp pg (60 * 2))) + (px_pp pg (60 * 3)))))]) rfl ?_
  refine ww_aload_n O dd_MO_write_25 0 rfl ?_
  refine ww_iload_n O dd_MO_write_26 1 rfl ?_
  refine ww_callS O (cc_MO_noFile _ _ _ (nI f) ) lc_MO_79 ls_MO_noFile_I_Z (by rw [hR]; decide) (by rw [hR]; decide) (by rw [hR]; decide) rfl (Nat.le_of_ble_eq_true rfl) dd_MO_write_27 rfl [] [0, 1, 2, 3, 4, 5, 6, 7, 8] [0, 1, 2, 3, 4, 5, 6, 7, 8] rfl (by decide) rfl (by decide) (by decide) (ws' := [(m, .inr (3, [.int cd, .ref a1, .ref a2, .ref a3, .ref a4, .ref a5, .ref a6, .ref a7, .ref a8, .int fi, .int le])), (a1, .inl (ww_g X 0, 240, .inl pl)), (a2, .inl (ww_g X 1, 240, .inl wr)), (a3, .inl (ww_g X 1, 240, .inl pg)), (a4, .inl (ww_g X 0, 240, .inl pv)), (a5, .inl (ww_g X 0, 4, .inl sz)), (a6, .inl (ww_g X 0, 80, .inl ow)), (a7, .inl (ww_g X 0, 80, .inl vl)), (a8, .inl (ww_g X 0, 60, .inl bf))]) rfl rfl (by decide) ?_
  rw [px_nf_nI (k := 3) (by omega) (by decide)]
  refine ww_if_neB O dd_MO_write_30 (tgt := 40) rfl (fun h30 => ?_) (fun h30 => ?_)
  · exact absurd h30 (by decide)
  · refine ww_iload_n O dd_MO_write_33 2 rfl ?_
    refine ww_callS O (cc_MO_noBlock _ _ _ (nI b) ) lc_MO_82 ls_MO_noBlock_I_Z (by rw [hR]; decide) (by rw [hR]; decide) (by rw [hR]; decide) rfl (Nat.le_of_ble_eq_true rfl) dd_MO_write_34 rfl [] [0, 1, 2, 3, 4, 5, 6, 7, 8] [0, 1, 2, 3, 4, 5, 6, 7, 8] rfl (by decide) rfl (by decide) (by decide) (ws' := [(m, .inr (3, [.int cd, .ref a1, .ref a2, .ref a3, .ref a4, .ref a5, .ref a6, .ref a7, .ref a8, .int fi, .int le])), (a1, .inl (ww_g X 0, 240, .inl pl)), (a2, .inl (ww_g X 1, 240, .inl wr)), (a3, .inl (ww_g X 1, 240, .inl pg)), (a4, .inl (ww_g X 0, 240, .inl pv)), (a5, .inl (ww_g X 0, 4, .inl sz)), (a6, .inl (ww_g X 0, 80, .inl ow)), (a7, .inl (ww_g X 0, 80, .inl vl)), (a8, .inl (ww_g X 0, 60, .inl bf))]) rfl rfl (by decide) ?_
    rw [px_nf_nI (k := 59) (by omega) (by decide)]
    refine ww_if_eqB O dd_MO_write_37 (tgt := 44) rfl (fun h37 => ?_) (fun h37 => ?_)
    · refine ww_aload_n O dd_MO_write_44 0 rfl ?_
      refine ww_get O ci_MO rfl 3 (by decide) lf_MO_17 rfl dd_MO_write_45 0 rfl rfl ?_
      refine ww_bipush O dd_MO_write_48 (v := nI 60) rfl ?_
      refine ww_iload_n O dd_MO_write_50 1 rfl ?_
      refine ww_imul O dd_MO_write_51 (v := nI (60 * f)) (pk_mul _ _) ?_
      refine ww_iload_n O dd_MO_write_52 2 rfl ?_
      refine ww_iadd O dd_MO_write_53 (v := nI ((60 * f) + b)) (nI_add _ _) ?_
      refine ww_zald O dd_MO_write_54 3 rfl (by omega) (by decide) rfl ?_
      refine ww_if_ne O dd_MO_write_55 (tgt := 69) rfl (fun h55 => ?_) (fun h55 => ?_)
      · exact absurd hpg h55
      · refine ww_iload O dd_MO_write_58 4 rfl ?_
        refine ww_bipush O dd_MO_write_60 (v := nI 24) rfl ?_
        refine ww_icmp_neN O dd_MO_write_62 (tgt := 69) rfl (by omega) (by omega) (fun h62 => ?_) (fun h62 => ?_)
        · refine ww_iconst O dd_MO_write_69 (v := nI 0) rfl ?_
          refine ww_put O ci_MO cy_MO cy_MO_ok cn_MO rfl 0 (by decide) lf_MO_35 rfl rfl (ty := .int) (by decide +kernel) dd_MO_write_70 0 rfl rfl rfl (Nat.le_of_ble_eq_true rfl) (ws' := [(m, .inr (3, [.int (nI 0), .ref a1, .ref a2, .ref a3, .ref a4, .ref a5, .ref a6, .ref a7, .ref a8, .int fi, .int le])), (a1, .inl (ww_g X 0, 240, .inl pl)), (a2, .inl (ww_g X 1, 240, .inl wr)), (a3, .inl (ww_g X 1, 240, .inl pg)), (a4, .inl (ww_g X 0, 240, .inl pv)), (a5, .inl (ww_g X 0, 4, .inl sz)), (a6, .inl (ww_g X 0, 80, .inl ow)), (a7, .inl (ww_g X 0, 80, .inl vl)), (a8, .inl (ww_g X 0, 60, .inl bf))]) rfl ?_
          refine ww_aload_n O dd_MO_write_73 0 rfl ?_
          refine ww_get O ci_MO rfl 0 (by decide) lf_MO_35 rfl dd_MO_write_74 0 rfl rfl ?_
          refine ww_if_leN O dd_MO_write_77 (tgt := 81) rfl (by omega) (fun h77 => ?_) (fun h77 => ?_)
          · refine ww_bipush O dd_MO_write_81 (v := nI 60) rfl ?_
            refine ww_iload_n O dd_MO_write_83 1 rfl ?_
            refine ww_imul O dd_MO_write_84 (v := nI (60 * f)) (pk_mul _ _) ?_
            refine ww_iload_n O dd_MO_write_85 2 rfl ?_
            refine ww_iadd O dd_MO_write_86 (v := nI ((60 * f) + b)) (nI_add _ _) ?_
            refine ww_istore O dd_MO_write_87 (by rw [hn]; decide) rfl (L' := [(0, .ref m), (1, .int (nI f)), (2, .int (nI b)), (3, .int z), (4, .int (nI ((((px_pp pg (60 * 0)) + (px_pp pg (60 * 1))) + (px_pp pg (60 * 2))) + (px_pp pg (60 * 3))))), (5, .int (nI ((60 * f) + b)))]) rfl ?_
            refine ww_aload_n O dd_MO_write_89 0 rfl ?_
            refine ww_get O ci_MO rfl 3 (by decide) lf_MO_17 rfl dd_MO_write_90 0 rfl rfl ?_
            refine ww_iload O dd_MO_write_93 5 rfl ?_
            refine ww_zald O dd_MO_write_95 3 rfl (by omega) (by decide) rfl ?_
            refine ww_istore O dd_MO_write_96 (by rw [hn]; decide) rfl (L' := [(0, .ref m), (1, .int (nI f)), (2, .int (nI b)), (3, .int z), (4, .int (nI ((((px_pp pg (60 * 0)) + (px_pp pg (60 * 1))) + (px_pp pg (60 * 2))) + (px_pp pg (60 * 3))))), (5, .int (nI ((60 * f) + b))), (6, .int (pg ((60 * f) + b)))]) rfl ?_
            refine ww_aload_n O dd_MO_write_98 0 rfl ?_
            refine ww_get O ci_MO rfl 3 (by decide) lf_MO_17 rfl dd_MO_write_99 0 rfl rfl ?_
            refine ww_iload O dd_MO_write_102 5 rfl ?_
            refine ww_iconst O dd_MO_write_104 (v := nI 1) rfl ?_
            refine ww_zast O dd_MO_write_105 3 rfl (by omega) (by decide) rfl (ws' := [(m, .inr (3, [.int (nI 0), .ref a1, .ref a2, .ref a3, .ref a4, .ref a5, .ref a6, .ref a7, .ref a8, .int fi, .int le])), (a1, .inl (ww_g X 0, 240, .inl pl)), (a2, .inl (ww_g X 1, 240, .inl wr)), (a3, .inl (ww_g X 1, 240, .inl (upd pg ((60 * f) + b) (nI 1)))), (a4, .inl (ww_g X 0, 240, .inl pv)), (a5, .inl (ww_g X 0, 4, .inl sz)), (a6, .inl (ww_g X 0, 80, .inl ow)), (a7, .inl (ww_g X 0, 80, .inl vl)), (a8, .inl (ww_g X 0, 60, .inl bf))]) rfl ?_
            refine ww_iload O dd_MO_write_106 6 rfl ?_
            refine ww_if_ne O dd_MO_write_108 (tgt := 136) rfl (fun h108 => ?_) (fun h108 => ?_)
            · exact absurd hpg h108
            · refine ww_aload_n O dd_MO_write_111 0 rfl ?_
              refine ww_callV (q0 := 0) (ci := 3) O (cc_MO_allFree _ _ _ m a1 a2 a3 a4 a5 a6 a7 a8 (nI 0) fi le pl wr (upd pg ((60 * f) + b) (nI 1)) pv sz ow vl bf (by omega)) lc_MO_85 lx_MO_allFree__I rfl rfl rfl (by rw [hR]; decide) (by rw [hR]; decide) (by rw [hR]; decide) rfl (Nat.le_of_ble_eq_true rfl) dd_MO_write_112 rfl [0, 1, 2, 3, 4, 5, 6, 7, 8] [] [0, 1, 2, 3, 4, 5, 6, 7, 8] rfl (by decide) rfl (by decide) (by decide) (ws' := [(m, .inr (3, [.int (nI 0), .ref a1, .ref a2, .ref a3, .ref a4, .ref a5, .ref a6, .ref a7, .ref a8, .int ((px_xs pl wr le fi 4).2), .int ((px_xs pl wr le fi 4).1)])), (a1, .inl (ww_g X 0, 240, .inl pl)), (a2, .inl (ww_g X 1, 240, .inl wr)), (a3, .inl (ww_g X 1, 240, .inl (upd pg ((60 * f) + b) (nI 1)))), (a4, .inl (ww_g X 0, 240, .inl pv)), (a5, .inl (ww_g X 0, 4, .inl sz)), (a6, .inl (ww_g X 0, 80, .inl ow)), (a7, .inl (ww_g X 0, 80, .inl vl)), (a8, .inl (ww_g X 0, 60, .inl bf))]) rfl rfl (by decide) ?_
              refine ww_aload_n O dd_MO_write_115 0 rfl ?_
              refine ww_callV (q0 := 0) (ci := 3) O (cc_MO_allReserved _ _ _ m a1 a2 a3 a4 a5 a6 a7 a8 (nI 0) ((px_xs pl wr le fi 4).2) ((px_xs pl wr le fi 4).1) pl wr (upd pg ((60 * f) + b) (nI 1)) pv sz ow vl bf (by omega)) lc_MO_89 lx_MO_allReserved__I rfl rfl rfl (by rw [hR]; decide) (by rw [hR]; decide) (by rw [hR]; decide) rfl (Nat.le_of_ble_eq_true rfl) dd_MO_write_116 rfl [0, 1, 2, 3, 4, 5, 6, 7, 8] [] [0, 1, 2, 3, 4, 5, 6, 7, 8] rfl (by decide) rfl (by decide) (by decide) (ws' := [(m, .inr (3, [.int (nI 0), .ref a1, .ref a2, .ref a3, .ref a4, .ref a5, .ref a6, .ref a7, .ref a8, .int ((px_xs pl wr ((px_xs pl wr le fi 4).1) ((px_xs pl wr le fi 4).2) 4).2), .int ((px_xs pl wr ((px_xs pl wr le fi 4).1) ((px_xs pl wr le fi 4).2) 4).1)])), (a1, .inl (ww_g X 0, 240, .inl pl)), (a2, .inl (ww_g X 1, 240, .inl wr)), (a3, .inl (ww_g X 1, 240, .inl (upd pg ((60 * f) + b) (nI 1)))), (a4, .inl (ww_g X 0, 240, .inl pv)), (a5, .inl (ww_g X 0, 4, .inl sz)), (a6, .inl (ww_g X 0, 80, .inl ow)), (a7, .inl (ww_g X 0, 80, .inl vl)), (a8, .inl (ww_g X 0, 60, .inl bf))]) rfl rfl (by decide) ?_
              refine ww_icmp_ge O dd_MO_write_119 (tgt := 136) rfl (fun h119 => ?_) (fun h119 => ?_)
              · refine ww_aload_n O dd_MO_write_136 0 rfl ?_
                refine ww_get O ci_MO rfl 4 (by decide) lf_MO_20 rfl dd_MO_write_137 0 rfl rfl ?_
                refine ww_iload O dd_MO_write_140 5 rfl ?_
                refine ww_iload_n O dd_MO_write_142 3 rfl ?_
                refine ww_iast O dd_MO_write_143 4 rfl (by omega) (by decide) (ws' := [(m, .inr (3, [.int (nI 0), .ref a1, .ref a2, .ref a3, .ref a4, .ref a5, .ref a6, .ref a7, .ref a8, .int ((px_xs pl wr ((px_xs pl wr le fi 4).1) ((px_xs pl wr le fi 4).2) 4).2), .int ((px_xs pl wr ((px_xs pl wr le fi 4).1) ((px_xs pl wr le fi 4).2) 4).1)])), (a1, .inl (ww_g X 0, 240, .inl pl)), (a2, .inl (ww_g X 1, 240, .inl wr)), (a3, .inl (ww_g X 1, 240, .inl (upd pg ((60 * f) + b) (nI 1)))), (a4, .inl (ww_g X 0, 240, .inl (upd pv ((60 * f) + b) z))), (a5, .inl (ww_g X 0, 4, .inl sz)), (a6, .inl (ww_g X 0, 80, .inl ow)), (a7, .inl (ww_g X 0, 80, .inl vl)), (a8, .inl (ww_g X 0, 60, .inl bf))]) rfl ?_
                refine ww_aload_n O dd_MO_write_144 0 rfl ?_
                refine ww_get O ci_MO rfl 5 (by decide) lf_MO_23 rfl dd_MO_write_145 0 rfl rfl ?_
                refine ww_iload_n O dd_MO_write_148 1 rfl ?_
                refine ww_aload_n O dd_MO_write_149 0 rfl ?_
                refine ww_get O ci_MO rfl 5 (by decide) lf_MO_23 rfl dd_MO_write_150 0 rfl rfl ?_
                refine ww_iload_n O dd_MO_write_153 1 rfl ?_
                refine ww_iald O dd_MO_write_154 5 rfl (by omega) (by decide) rfl ?_
                refine ww_iload_n O dd_MO_write_155 2 rfl ?_
                refine ww_icmp_le O dd_MO_write_156 (tgt := 168) rfl (fun h156 => ?_) (fun h156 => ?_)
                · refine ww_iload_n O dd_MO_write_168 2 rfl ?_
                  refine ww_iconst O dd_MO_write_169 (v := nI 1) rfl ?_
                  refine ww_iadd O dd_MO_write_170 (v := nI (b + 1)) (nI_add _ _) ?_
                  refine ww_iast O dd_MO_write_171 5 rfl (by omega) (by decide) (ws' := [(m, .inr (3, [.int (nI 0), .ref a1, .ref a2, .ref a3, .ref a4, .ref a5, .ref a6, .ref a7, .ref a8, .int ((px_xs pl wr ((px_xs pl wr le fi 4).1) ((px_xs pl wr le fi 4).2) 4).2), .int ((px_xs pl wr ((px_xs pl wr le fi 4).1) ((px_xs pl wr le fi 4).2) 4).1)])), (a1, .inl (ww_g X 0, 240, .inl pl)), (a2, .inl (ww_g X 1, 240, .inl wr)), (a3, .inl (ww_g X 1, 240, .inl (upd pg ((60 * f) + b) (nI 1)))), (a4, .inl (ww_g X 0, 240, .inl (upd pv ((60 * f) + b) z))), (a5, .inl (ww_g X 0, 4, .inl (upd sz f (nI (b + 1))))), (a6, .inl (ww_g X 0, 80, .inl ow)), (a7, .inl (ww_g X 0, 80, .inl vl)), (a8, .inl (ww_g X 0, 60, .inl bf))]) rfl ?_
                  rw [if_pos h156] at F
                  exact F.v dd_MO_write_172
                · refine ww_aload_n O dd_MO_write_159 0 rfl ?_
                  refine ww_get O ci_MO rfl 5 (by decide) lf_MO_23 rfl dd_MO_write_160 0 rfl rfl ?_
                  refine ww_iload_n O dd_MO_write_163 1 rfl ?_
                  refine ww_iald O dd_MO_write_164 5 rfl (by omega) (by decide) rfl ?_
                  refine ww_goto O dd_MO_write_165 (tgt := 171) rfl ?_
                  refine ww_iast O dd_MO_write_171 5 rfl (by omega) (by decide) (ws' := [(m, .inr (3, [.int (nI 0), .ref a1, .ref a2, .ref a3, .ref a4, .ref a5, .ref a6, .ref a7, .ref a8, .int ((px_xs pl wr ((px_xs pl wr le fi 4).1) ((px_xs pl wr le fi 4).2) 4).2), .int ((px_xs pl wr ((px_xs pl wr le fi 4).1) ((px_xs pl wr le fi 4).2) 4).1)])), (a1, .inl (ww_g X 0, 240, .inl pl)), (a2, .inl (ww_g X 1, 240, .inl wr)), (a3, .inl (ww_g X 1, 240, .inl (upd pg ((60 * f) + b) (nI 1)))), (a4, .inl (ww_g X 0, 240, .inl (upd pv ((60 * f) + b) z))), (a5, .inl (ww_g X 0, 4, .inl (upd sz f (sz f)))), (a6, .inl (ww_g X 0, 80, .inl ow)), (a7, .inl (ww_g X 0, 80, .inl vl)), (a8, .inl (ww_g X 0, 60, .inl bf))]) rfl ?_
                  rw [if_neg h156] at F
                  exact F.v dd_MO_write_172
              · exact absurd ((px_cmp (by omega) (by omega)).mpr hov) h119
          · exfalso; omega
        · exfalso; omega
    · exact absurd h37 (by decide)
set_option maxRecDepth 4000 in
theorem cc_MO_write_old (l : Launch) (D : va_G) (g : Nat → ClassId) (m : Nat) (a1 : Nat) (a2 : Nat) (a3 : Nat) (a4 : Nat) (a5 : Nat) (a6 : Nat) (a7 : Nat) (a8 : Nat) (cd : Int32) (fi : Int32) (le : Int32) (pl : Nat → Int32) (wr : Nat → Int32) (pg : Nat → Int32) (pv : Nat → Int32) (sz : Nat → Int32) (ow : Nat → Int32) (vl : Nat → Int32) (bf : Nat → Int32) (f : Nat) (b : Nat) (z : Int32) (hf : f < 4) (hb : b < 60) (hpg : ¬ pg (60 * f + b) = 0) : ww_ct l D g yy_MO_write bb_MO_write 7 none (ww_rm 5) [.ref m, .int (nI f), .int (nI b), .int z] [(m, .inr (3, [.int cd, .ref a1, .ref a2, .ref a3, .ref a4, .ref a5, .ref a6, .ref a7, .ref a8, .int fi, .int le])), (a1, .inl (g 0, 240, .inl pl)), (a2, .inl (g 1, 240, .inl wr)), (a3, .inl (g 1, 240, .inl pg)), (a4, .inl (g 0, 240, .inl pv)), (a5, .inl (g 0, 4, .inl sz)), (a6, .inl (g 0, 80, .inl ow)), (a7, .inl (g 0, 80, .inl vl)), (a8, .inl (g 0, 60, .inl bf))] none [(m, .inr (3, [.int (nI 0), .ref a1, .ref a2, .ref a3, .ref a4, .ref a5, .ref a6, .ref a7, .ref a8, .int fi, .int le])), (a1, .inl (g 0, 240, .inl pl)), (a2, .inl (g 1, 240, .inl wr)), (a3, .inl (g 1, 240, .inl (upd pg (60 * f + b) (nI 1)))), (a4, .inl (g 0, 240, .inl (upd pv (60 * f + b) z))), (a5, .inl (g 0, 4, .inl (upd sz f (if sz f ≤ nI b then nI (b + 1) else sz f)))), (a6, .inl (g 0, 80, .inl ow)), (a7, .inl (g 0, 80, .inl vl)), (a8, .inl (g 0, 60, .inl bf))] := by
  refine ww_start (by decide +kernel) rfl trivial (Nat.le_of_ble_eq_true rfl) (L0 := [(0, .ref m), (1, .int (nI f)), (2, .int (nI b)), (3, .int z)]) rfl ?_
  intro X O hl hD hg hR hn F
  subst hl hD hg
  have q0 := px_cnt_le (px_on pg) (60 * 0) 60
  have q1 := px_cnt_le (px_on pg) (60 * 1) 60
  have q2 := px_cnt_le (px_on pg) (60 * 2) 60
  have q3 := px_cnt_le (px_on pg) (60 * 3) 60
  have p0 : px_pp pg (60 * 0) ≤ 60 := q0
  have p1 : px_pp pg (60 * 1) ≤ 60 := q1
  have p2 : px_pp pg (60 * 2) ≤ 60 := q2
  have p3 : px_pp pg (60 * 3) ≤ 60 := q3
  refine ww_aload_n O dd_MO_write_0 0 rfl ?_
  refine ww_iconst O dd_MO_write_1 (v := nI 0) rfl ?_
  refine ww_callV (q0 := 0) (ci := 3) O (cc_MO_pagesOf _ _ _ m a1 a2 a3 a4 a5 a6 a7 a8 cd fi le pl wr pg pv sz ow vl bf 0 (by omega)) lc_MO_76 lx_MO_pagesOf_I_I rfl rfl rfl (by rw [hR]; decide) (by rw [hR]; decide) (by rw [hR]; decide) rfl (Nat.le_of_ble_eq_true rfl) dd_MO_write_2 rfl [0, 1, 2, 3, 4, 5, 6, 7, 8] [] [0, 1, 2, 3, 4, 5, 6, 7, 8] rfl (by decide) rfl (by decide) (by decide) (ws' := [(m, .inr (3, [.int cd, .ref a1, .ref a2, .ref a3, .ref a4, .ref a5, .ref a6, .ref a7, .ref a8, .int fi, .int le])), (a1, .inl (ww_g X 0, 240, .inl pl)), (a2, .inl (ww_g X 1, 240, .inl wr)), (a3, .inl (ww_g X 1, 240, .inl pg)), (a4, .inl (ww_g X 0, 240, .inl pv)), (a5, .inl (ww_g X 0, 4, .inl sz)), (a6, .inl (ww_g X 0, 80, .inl ow)), (a7, .inl (ww_g X 0, 80, .inl vl)), (a8, .inl (ww_g X 0, 60, .inl bf))]) rfl rfl (by decide) ?_
  refine ww_aload_n O dd_MO_write_5 0 rfl ?_
  refine ww_iconst O dd_MO_write_6 (v := nI 1) rfl ?_
  refine ww_callV (q0 := 0) (ci := 3) O (cc_MO_pagesOf _ _ _ m a1 a2 a3 a4 a5 a6 a7 a8 cd fi le pl wr pg pv sz ow vl bf 1 (by omega)) lc_MO_76 lx_MO_pagesOf_I_I rfl rfl rfl (by rw [hR]; decide) (by rw [hR]; decide) (by rw [hR]; decide) rfl (Nat.le_of_ble_eq_true rfl) dd_MO_write_7 rfl [0, 1, 2, 3, 4, 5, 6, 7, 8] [] [0, 1, 2, 3, 4, 5, 6, 7, 8] rfl (by decide) rfl (by decide) (by decide) (ws' := [(m, .inr (3, [.int cd, .ref a1, .ref a2, .ref a3, .ref a4, .ref a5, .ref a6, .ref a7, .ref a8, .int fi, .int le])), (a1, .inl (ww_g X 0, 240, .inl pl)), (a2, .inl (ww_g X 1, 240, .inl wr)), (a3, .inl (ww_g X 1, 240, .inl pg)), (a4, .inl (ww_g X 0, 240, .inl pv)), (a5, .inl (ww_g X 0, 4, .inl sz)), (a6, .inl (ww_g X 0, 80, .inl ow)), (a7, .inl (ww_g X 0, 80, .inl vl)), (a8, .inl (ww_g X 0, 60, .inl bf))]) rfl rfl (by decide) ?_
  refine ww_iadd O dd_MO_write_10 (v := nI ((px_pp pg (60 * 0)) + (px_pp pg (60 * 1)))) (nI_add _ _) ?_
  refine ww_aload_n O dd_MO_write_11 0 rfl ?_
  refine ww_iconst O dd_MO_write_12 (v := nI 2) rfl ?_
  refine ww_callV (q0 := 0) (ci := 3) O (cc_MO_pagesOf _ _ _ m a1 a2 a3 a4 a5 a6 a7 a8 cd fi le pl wr pg pv sz ow vl bf 2 (by omega)) lc_MO_76 lx_MO_pagesOf_I_I rfl rfl rfl (by rw [hR]; decide) (by rw [hR]; decide) (by rw [hR]; decide) rfl (Nat.le_of_ble_eq_true rfl) dd_MO_write_13 rfl [0, 1, 2, 3, 4, 5, 6, 7, 8] [] [0, 1, 2, 3, 4, 5, 6, 7, 8] rfl (by decide) rfl (by decide) (by decide) (ws' := [(m, .inr (3, [.int cd, .ref a1, .ref a2, .ref a3, .ref a4, .ref a5, .ref a6, .ref a7, .ref a8, .int fi, .int le])), (a1, .inl (ww_g X 0, 240, .inl pl)), (a2, .inl (ww_g X 1, 240, .inl wr)), (a3, .inl (ww_g X 1, 240, .inl pg)), (a4, .inl (ww_g X 0, 240, .inl pv)), (a5, .inl (ww_g X 0, 4, .inl sz)), (a6, .inl (ww_g X 0, 80, .inl ow)), (a7, .inl (ww_g X 0, 80, .inl vl)), (a8, .inl (ww_g X 0, 60, .inl bf))]) rfl rfl (by decide) ?_
  refine ww_iadd O dd_MO_write_16 (v := nI (((px_pp pg (60 * 0)) + (px_pp pg (60 * 1))) + (px_pp pg (60 * 2)))) (nI_add _ _) ?_
  refine ww_aload_n O dd_MO_write_17 0 rfl ?_
  refine ww_iconst O dd_MO_write_18 (v := nI 3) rfl ?_
  refine ww_callV (q0 := 0) (ci := 3) O (cc_MO_pagesOf _ _ _ m a1 a2 a3 a4 a5 a6 a7 a8 cd fi le pl wr pg pv sz ow vl bf 3 (by omega)) lc_MO_76 lx_MO_pagesOf_I_I rfl rfl rfl (by rw [hR]; decide) (by rw [hR]; decide) (by rw [hR]; decide) rfl (Nat.le_of_ble_eq_true rfl) dd_MO_write_19 rfl [0, 1, 2, 3, 4, 5, 6, 7, 8] [] [0, 1, 2, 3, 4, 5, 6, 7, 8] rfl (by decide) rfl (by decide) (by decide) (ws' := [(m, .inr (3, [.int cd, .ref a1, .ref a2, .ref a3, .ref a4, .ref a5, .ref a6, .ref a7, .ref a8, .int fi, .int le])), (a1, .inl (ww_g X 0, 240, .inl pl)), (a2, .inl (ww_g X 1, 240, .inl wr)), (a3, .inl (ww_g X 1, 240, .inl pg)), (a4, .inl (ww_g X 0, 240, .inl pv)), (a5, .inl (ww_g X 0, 4, .inl sz)), (a6, .inl (ww_g X 0, 80, .inl ow)), (a7, .inl (ww_g X 0, 80, .inl vl)), (a8, .inl (ww_g X 0, 60, .inl bf))]) rfl rfl (by decide) ?_
  refine ww_iadd O dd_MO_write_22 (v := nI ((((px_pp pg (60 * 0)) + (px_pp pg (60 * 1))) + (px_pp pg (60 * 2))) + (px_pp pg (60 * 3)))) (nI_add _ _) ?_
  refine ww_istore O dd_MO_write_23 (by rw [hn]; decide) rfl (L' := [(0, .ref m), (1, .int (nI f)), (2, .int (nI b)), (3, .int z), (4, .int (nI ((((px_pp pg (60 * 0)) + (px_pp pg (60 * 1))) + (px_pp pg (60 * 2))) + (px_pp pg (60 * 3)))))]) rfl ?_
  refine ww_aload_n O dd_MO_write_25 0 rfl ?_
  refine ww_iload_n O dd_MO_write_26 1 rfl ?_
  refine ww_callS O (cc_MO_noFile _ _ _ (nI f) ) lc_MO_79 ls_MO_noFile_I_Z (by rw [hR]; decide) (by rw [hR]; decide) (by rw [hR]; decide) rfl (Nat.le_of_ble_eq_true rfl) dd_MO_write_27 rfl [] [0, 1, 2, 3, 4, 5, 6, 7, 8] [0, 1, 2, 3, 4, 5, 6, 7, 8] rfl (by decide) rfl (by decide) (by decide) (ws' := [(m, .inr (3, [.int cd, .ref a1, .ref a2, .ref a3, .ref a4, .ref a5, .ref a6, .ref a7, .ref a8, .int fi, .int le])), (a1, .inl (ww_g X 0, 240, .inl pl)), (a2, .inl (ww_g X 1, 240, .inl wr)), (a3, .inl (ww_g X 1, 240, .inl pg)), (a4, .inl (ww_g X 0, 240, .inl pv)), (a5, .inl (ww_g X 0, 4, .inl sz)), (a6, .inl (ww_g X 0, 80, .inl ow)), (a7, .inl (ww_g X 0, 80, .inl vl)), (a8, .inl (ww_g X 0, 60, .inl bf))]) rfl rfl (by decide) ?_
  rw [px_nf_nI (k := 3) (by omega) (by decide)]
  refine ww_if_neB O dd_MO_write_30 (tgt := 40) rfl (fun h30 => ?_) (fun h30 => ?_)
  · exact absurd h30 (by decide)
  · refine ww_iload_n O dd_MO_write_33 2 rfl ?_
    refine ww_callS O (cc_MO_noBlock _ _ _ (nI b) ) lc_MO_82 ls_MO_noBlock_I_Z (by rw [hR]; decide) (by rw [hR]; decide) (by rw [hR]; decide) rfl (Nat.le_of_ble_eq_true rfl) dd_MO_write_34 rfl [] [0, 1, 2, 3, 4, 5, 6, 7, 8] [0, 1, 2, 3, 4, 5, 6, 7, 8] rfl (by decide) rfl (by decide) (by decide) (ws' := [(m, .inr (3, [.int cd, .ref a1, .ref a2, .ref a3, .ref a4, .ref a5, .ref a6, .ref a7, .ref a8, .int fi, .int le])), (a1, .inl (ww_g X 0, 240, .inl pl)), (a2, .inl (ww_g X 1, 240, .inl wr)), (a3, .inl (ww_g X 1, 240, .inl pg)), (a4, .inl (ww_g X 0, 240, .inl pv)), (a5, .inl (ww_g X 0, 4, .inl sz)), (a6, .inl (ww_g X 0, 80, .inl ow)), (a7, .inl (ww_g X 0, 80, .inl vl)), (a8, .inl (ww_g X 0, 60, .inl bf))]) rfl rfl (by decide) ?_
    rw [px_nf_nI (k := 59) (by omega) (by decide)]
    refine ww_if_eqB O dd_MO_write_37 (tgt := 44) rfl (fun h37 => ?_) (fun h37 => ?_)
    · refine ww_aload_n O dd_MO_write_44 0 rfl ?_
      refine ww_get O ci_MO rfl 3 (by decide) lf_MO_17 rfl dd_MO_write_45 0 rfl rfl ?_
      refine ww_bipush O dd_MO_write_48 (v := nI 60) rfl ?_
      refine ww_iload_n O dd_MO_write_50 1 rfl ?_
      refine ww_imul O dd_MO_write_51 (v := nI (60 * f)) (pk_mul _ _) ?_
      refine ww_iload_n O dd_MO_write_52 2 rfl ?_
      refine ww_iadd O dd_MO_write_53 (v := nI ((60 * f) + b)) (nI_add _ _) ?_
      refine ww_zald O dd_MO_write_54 3 rfl (by omega) (by decide) rfl ?_
      refine ww_if_ne O dd_MO_write_55 (tgt := 69) rfl (fun h55 => ?_) (fun h55 => ?_)
      · refine ww_iconst O dd_MO_write_69 (v := nI 0) rfl ?_
        refine ww_put O ci_MO cy_MO cy_MO_ok cn_MO rfl 0 (by decide) lf_MO_35 rfl rfl (ty := .int) (by decide +kernel) dd_MO_write_70 0 rfl rfl rfl (Nat.le_of_ble_eq_true rfl) (ws' := [(m, .inr (3, [.int (nI 0), .ref a1, .ref a2, .ref a3, .ref a4, .ref a5, .ref a6, .ref a7, .ref a8, .int fi, .int le])), (a1, .inl (ww_g X 0, 240, .inl pl)), (a2, .inl (ww_g X 1, 240, .inl wr)), (a3, .inl (ww_g X 1, 240, .inl pg)), (a4, .inl (ww_g X 0, 240, .inl pv)), (a5, .inl (ww_g X 0, 4, .inl sz)), (a6, .inl (ww_g X 0, 80, .inl ow)), (a7, .inl (ww_g X 0, 80, .inl vl)), (a8, .inl (ww_g X 0, 60, .inl bf))]) rfl ?_
        refine ww_aload_n O dd_MO_write_73 0 rfl ?_
        refine ww_get O ci_MO rfl 0 (by decide) lf_MO_35 rfl dd_MO_write_74 0 rfl rfl ?_
        refine ww_if_leN O dd_MO_write_77 (tgt := 81) rfl (by omega) (fun h77 => ?_) (fun h77 => ?_)
        · refine ww_bipush O dd_MO_write_81 (v := nI 60) rfl ?_
          refine ww_iload_n O dd_MO_write_83 1 rfl ?_
          refine ww_imul O dd_MO_write_84 (v := nI (60 * f)) (pk_mul _ _) ?_
          refine ww_iload_n O dd_MO_write_85 2 rfl ?_
          refine ww_iadd O dd_MO_write_86 (v := nI ((60 * f) + b)) (nI_add _ _) ?_
          refine ww_istore O dd_MO_write_87 (by rw [hn]; decide) rfl (L' := [(0, .ref m), (1, .int (nI f)), (2, .int (nI b)), (3, .int z), (4, .int (nI ((((px_pp pg (60 * 0)) + (px_pp pg (60 * 1))) + (px_pp pg (60 * 2))) + (px_pp pg (60 * 3))))), (5, .int (nI ((60 * f) + b)))]) rfl ?_
          refine ww_aload_n O dd_MO_write_89 0 rfl ?_
          refine ww_get O ci_MO rfl 3 (by decide) lf_MO_17 rfl dd_MO_write_90 0 rfl rfl ?_
          refine ww_iload O dd_MO_write_93 5 rfl ?_
          refine ww_zald O dd_MO_write_95 3 rfl (by omega) (by decide) rfl ?_
          refine ww_istore O dd_MO_write_96 (by rw [hn]; decide) rfl (L' := [(0, .ref m), (1, .int (nI f)), (2, .int (nI b)), (3, .int z), (4, .int (nI ((((px_pp pg (60 * 0)) + (px_pp pg (60 * 1))) + (px_pp pg (60 * 2))) + (px_pp pg (60 * 3))))), (5, .int (nI ((60 * f) + b))), (6, .int (pg ((60 * f) + b)))]) rfl ?_
          refine ww_aload_n O dd_MO_write_98 0 rfl ?_
          refine ww_get O ci_MO rfl 3 (by decide) lf_MO_17 rfl dd_MO_write_99 0 rfl rfl ?_
          refine ww_iload O dd_MO_write_102 5 rfl ?_
          refine ww_iconst O dd_MO_write_104 (v := nI 1) rfl ?_
          refine ww_zast O dd_MO_write_105 3 rfl (by omega) (by decide) rfl (ws' := [(m, .inr (3, [.int (nI 0), .ref a1, .ref a2, .ref a3, .ref a4, .ref a5, .ref a6, .ref a7, .ref a8, .int fi, .int le])), (a1, .inl (ww_g X 0, 240, .inl pl)), (a2, .inl (ww_g X 1, 240, .inl wr)), (a3, .inl (ww_g X 1, 240, .inl (upd pg ((60 * f) + b) (nI 1)))), (a4, .inl (ww_g X 0, 240, .inl pv)), (a5, .inl (ww_g X 0, 4, .inl sz)), (a6, .inl (ww_g X 0, 80, .inl ow)), (a7, .inl (ww_g X 0, 80, .inl vl)), (a8, .inl (ww_g X 0, 60, .inl bf))]) rfl ?_
          refine ww_iload O dd_MO_write_106 6 rfl ?_
          refine ww_if_ne O dd_MO_write_108 (tgt := 136) rfl (fun h108 => ?_) (fun h108 => ?_)
          · refine ww_aload_n O dd_MO_write_136 0 rfl ?_
            refine ww_get O ci_MO rfl 4 (by decide) lf_MO_20 rfl dd_MO_write_137 0 rfl rfl ?_
            refine ww_iload O dd_MO_write_140 5 rfl ?_
            refine ww_iload_n O dd_MO_write_142 3 rfl ?_
            refine ww_iast O dd_MO_write_143 4 rfl (by omega) (by decide) (ws' := [(m, .inr (3, [.int (nI 0), .ref a1, .ref a2, .ref a3, .ref a4, .ref a5, .ref a6, .ref a7, .ref a8, .int fi, .int le])), (a1, .inl (ww_g X 0, 240, .inl pl)), (a2, .inl (ww_g X 1, 240, .inl wr)), (a3, .inl (ww_g X 1, 240, .inl (upd pg ((60 * f) + b) (nI 1)))), (a4, .inl (ww_g X 0, 240, .inl (upd pv ((60 * f) + b) z))), (a5, .inl (ww_g X 0, 4, .inl sz)), (a6, .inl (ww_g X 0, 80, .inl ow)), (a7, .inl (ww_g X 0, 80, .inl vl)), (a8, .inl (ww_g X 0, 60, .inl bf))]) rfl ?_
            refine ww_aload_n O dd_MO_write_144 0 rfl ?_
            refine ww_get O ci_MO rfl 5 (by decide) lf_MO_23 rfl dd_MO_write_145 0 rfl rfl ?_
            refine ww_iload_n O dd_MO_write_148 1 rfl ?_
            refine ww_aload_n O dd_MO_write_149 0 rfl ?_
            refine ww_get O ci_MO rfl 5 (by decide) lf_MO_23 rfl dd_MO_write_150 0 rfl rfl ?_
            refine ww_iload_n O dd_MO_write_153 1 rfl ?_
            refine ww_iald O dd_MO_write_154 5 rfl (by omega) (by decide) rfl ?_
            refine ww_iload_n O dd_MO_write_155 2 rfl ?_
            refine ww_icmp_le O dd_MO_write_156 (tgt := 168) rfl (fun h156 => ?_) (fun h156 => ?_)
            · refine ww_iload_n O dd_MO_write_168 2 rfl ?_
              refine ww_iconst O dd_MO_write_169 (v := nI 1) rfl ?_
              refine ww_iadd O dd_MO_write_170 (v := nI (b + 1)) (nI_add _ _) ?_
              refine ww_iast O dd_MO_write_171 5 rfl (by omega) (by decide) (ws' := [(m, .inr (3, [.int (nI 0), .ref a1, .ref a2, .ref a3, .ref a4, .ref a5, .ref a6, .ref a7, .ref a8, .int fi, .int le])), (a1, .inl (ww_g X 0, 240, .inl pl)), (a2, .inl (ww_g X 1, 240, .inl wr)), (a3, .inl (ww_g X 1, 240, .inl (upd pg ((60 * f) + b) (nI 1)))), (a4, .inl (ww_g X 0, 240, .inl (upd pv ((60 * f) + b) z))), (a5, .inl (ww_g X 0, 4, .inl (upd sz f (nI (b + 1))))), (a6, .inl (ww_g X 0, 80, .inl ow)), (a7, .inl (ww_g X 0, 80, .inl vl)), (a8, .inl (ww_g X 0, 60, .inl bf))]) rfl ?_
              rw [if_pos h156] at F
              exact F.v dd_MO_write_172
            · refine ww_aload_n O dd_MO_write_159 0 rfl ?_
              refine ww_get O ci_MO rfl 5 (by decide) lf_MO_23 rfl dd_MO_write_160 0 rfl rfl ?_
              refine ww_iload_n O dd_MO_write_163 1 rfl ?_
              refine ww_iald O dd_MO_write_164 5 rfl (by omega) (by decide) rfl ?_
              refine ww_goto O dd_MO_write_165 (tgt := 171) rfl ?_
              refine ww_iast O dd_MO_write_171 5 rfl (by omega) (by decide) (ws' := [(m, .inr (3, [.int (nI 0), .ref a1, .ref a2, .ref a3, .ref a4, .ref a5, .ref a6, .ref a7, .ref a8, .int fi, .int le])), (a1, .inl (ww_g X 0, 240, .inl pl)), (a2, .inl (ww_g X 1, 240, .inl wr)), (a3, .inl (ww_g X 1, 240, .inl (upd pg ((60 * f) + b) (nI 1)))), (a4, .inl (ww_g X 0, 240, .inl (upd pv ((60 * f) + b) z))), (a5, .inl (ww_g X 0, 4, .inl (upd sz f (sz f)))), (a6, .inl (ww_g X 0, 80, .inl ow)), (a7, .inl (ww_g X 0, 80, .inl vl)), (a8, .inl (ww_g X 0, 60, .inl bf))]) rfl ?_
              rw [if_neg h156] at F
              exact F.v dd_MO_write_172
          · exact absurd h108 hpg
        · exfalso; omega
      · exact absurd h55 hpg
    · exact absurd h37 (by decide)
set_option maxRecDepth 4000 in
theorem cc_MO_extent_bad1 (l : Launch) (D : va_G) (g : Nat → ClassId) (m : Nat) (a1 : Nat) (a2 : Nat) (a3 : Nat) (a4 : Nat) (a5 : Nat) (a6 : Nat) (a7 : Nat) (a8 : Nat) (cd : Int32) (fi : Int32) (le : Int32) (pl : Nat → Int32) (wr : Nat → Int32) (pg : Nat → Int32) (pv : Nat → Int32) (sz : Nat → Int32) (ow : Nat → Int32) (vl : Nat → Int32) (bf : Nat → Int32) (x : Int32) (y : Int32) (z : Int32) (hbad : px_nf x 3 = true ∨ y < 0 ∨ ¬ y ≤ nI 60) : ww_ct l D g yy_MO_extent bb_MO_extent 4 (some .int) (ww_rm 3) [.ref m, .int x, .int y, .int z] [(m, .inr (3, [.int cd, .ref a1, .ref a2, .ref a3, .ref a4, .ref a5, .ref a6, .ref a7, .ref a8, .int fi, .int le])), (a1, .inl (g 0, 240, .inl pl)), (a2, .inl (g 1, 240, .inl wr)), (a3, .inl (g 1, 240, .inl pg)), (a4, .inl (g 0, 240, .inl pv)), (a5, .inl (g 0, 4, .inl sz)), (a6, .inl (g 0, 80, .inl ow)), (a7, .inl (g 0, 80, .inl vl)), (a8, .inl (g 0, 60, .inl bf))] (some (.int (nI 0))) [(m, .inr (3, [.int (nI 1), .ref a1, .ref a2, .ref a3, .ref a4, .ref a5, .ref a6, .ref a7, .ref a8, .int fi, .int le])), (a1, .inl (g 0, 240, .inl pl)), (a2, .inl (g 1, 240, .inl wr)), (a3, .inl (g 1, 240, .inl pg)), (a4, .inl (g 0, 240, .inl pv)), (a5, .inl (g 0, 4, .inl sz)), (a6, .inl (g 0, 80, .inl ow)), (a7, .inl (g 0, 80, .inl vl)), (a8, .inl (g 0, 60, .inl bf))] := by
  refine ww_start (by decide +kernel) rfl rfl (Nat.le_of_ble_eq_true rfl) (L0 := [(0, .ref m), (1, .int x), (2, .int y), (3, .int z)]) rfl ?_
  intro X O hl hD hg hR hn F
  subst hl hD hg
  refine ww_aload_n O dd_MO_extent_0 0 rfl ?_
  refine ww_iload_n O dd_MO_extent_1 1 rfl ?_
  refine ww_callS O (cc_MO_noFile _ _ _ x ) lc_MO_79 ls_MO_noFile_I_Z (by rw [hR]; decide) (by rw [hR]; decide) (by rw [hR]; decide) rfl (Nat.le_of_ble_eq_true rfl) dd_MO_extent_2 rfl [] [0, 1, 2, 3, 4, 5, 6, 7, 8] [0, 1, 2, 3, 4, 5, 6, 7, 8] rfl (by decide) rfl (by decide) (by decide) (ws' := [(m, .inr (3, [.int cd, .ref a1, .ref a2, .ref a3, .ref a4, .ref a5, .ref a6, .ref a7, .ref a8, .int fi, .int le])), (a1, .inl (ww_g X 0, 240, .inl pl)), (a2, .inl (ww_g X 1, 240, .inl wr)), (a3, .inl (ww_g X 1, 240, .inl pg)), (a4, .inl (ww_g X 0, 240, .inl pv)), (a5, .inl (ww_g X 0, 4, .inl sz)), (a6, .inl (ww_g X 0, 80, .inl ow)), (a7, .inl (ww_g X 0, 80, .inl vl)), (a8, .inl (ww_g X 0, 60, .inl bf))]) rfl rfl (by decide) ?_
  refine ww_if_neB O dd_MO_extent_5 (tgt := 18) rfl (fun h5 => ?_) (fun h5 => ?_)
  · refine ww_iconst O dd_MO_extent_18 (v := nI 1) rfl ?_
    refine ww_goto O dd_MO_extent_19 (tgt := 23) rfl ?_
    refine ww_put O ci_MO cy_MO cy_MO_ok cn_MO rfl 0 (by decide) lf_MO_35 rfl rfl (ty := .int) (by decide +kernel) dd_MO_extent_23 0 rfl rfl rfl (Nat.le_of_ble_eq_true rfl) (ws' := [(m, .inr (3, [.int (nI 1), .ref a1, .ref a2, .ref a3, .ref a4, .ref a5, .ref a6, .ref a7, .ref a8, .int fi, .int le])), (a1, .inl (ww_g X 0, 240, .inl pl)), (a2, .inl (ww_g X 1, 240, .inl wr)), (a3, .inl (ww_g X 1, 240, .inl pg)), (a4, .inl (ww_g X 0, 240, .inl pv)), (a5, .inl (ww_g X 0, 4, .inl sz)), (a6, .inl (ww_g X 0, 80, .inl ow)), (a7, .inl (ww_g X 0, 80, .inl vl)), (a8, .inl (ww_g X 0, 60, .inl bf))]) rfl ?_
    refine ww_aload_n O dd_MO_extent_26 0 rfl ?_
    refine ww_get O ci_MO rfl 0 (by decide) lf_MO_35 rfl dd_MO_extent_27 0 rfl rfl ?_
    refine ww_if_neN O dd_MO_extent_30 (tgt := 48) rfl (by omega) (fun h30 => ?_) (fun h30 => ?_)
    · refine ww_aload_n O dd_MO_extent_48 0 rfl ?_
      refine ww_get O ci_MO rfl 0 (by decide) lf_MO_35 rfl dd_MO_extent_49 0 rfl rfl ?_
      refine ww_if_neN O dd_MO_extent_52 (tgt := 69) rfl (by omega) (fun h52 => ?_) (fun h52 => ?_)
      · refine ww_aload_n O dd_MO_extent_69 0 rfl ?_
        refine ww_get O ci_MO rfl 0 (by decide) lf_MO_35 rfl dd_MO_extent_70 0 rfl rfl ?_
        refine ww_if_leN O dd_MO_extent_73 (tgt := 78) rfl (by omega) (fun h73 => ?_) (fun h73 => ?_)
        · exfalso; omega
        · refine ww_iconst O dd_MO_extent_76 (v := nI 0) rfl ?_
          exact F.i dd_MO_extent_77
      · exfalso; omega
    · exfalso; omega
  · refine ww_iload_n O dd_MO_extent_8 2 rfl ?_
    refine ww_if_lt O dd_MO_extent_9 (tgt := 18) rfl (fun h9 => ?_) (fun h9 => ?_)
    · refine ww_iconst O dd_MO_extent_18 (v := nI 1) rfl ?_
      refine ww_goto O dd_MO_extent_19 (tgt := 23) rfl ?_
      refine ww_put O ci_MO cy_MO cy_MO_ok cn_MO rfl 0 (by decide) lf_MO_35 rfl rfl (ty := .int) (by decide +kernel) dd_MO_extent_23 0 rfl rfl rfl (Nat.le_of_ble_eq_true rfl) (ws' := [(m, .inr (3, [.int (nI 1), .ref a1, .ref a2, .ref a3, .ref a4, .ref a5, .ref a6, .ref a7, .ref a8, .int fi, .int le])), (a1, .inl (ww_g X 0, 240, .inl pl)), (a2, .inl (ww_g X 1, 240, .inl wr)), (a3, .inl (ww_g X 1, 240, .inl pg)), (a4, .inl (ww_g X 0, 240, .inl pv)), (a5, .inl (ww_g X 0, 4, .inl sz)), (a6, .inl (ww_g X 0, 80, .inl ow)), (a7, .inl (ww_g X 0, 80, .inl vl)), (a8, .inl (ww_g X 0, 60, .inl bf))]) rfl ?_
      refine ww_aload_n O dd_MO_extent_26 0 rfl ?_
      refine ww_get O ci_MO rfl 0 (by decide) lf_MO_35 rfl dd_MO_extent_27 0 rfl rfl ?_
      refine ww_if_neN O dd_MO_extent_30 (tgt := 48) rfl (by omega) (fun h30 => ?_) (fun h30 => ?_)
      · refine ww_aload_n O dd_MO_extent_48 0 rfl ?_
        refine ww_get O ci_MO rfl 0 (by decide) lf_MO_35 rfl dd_MO_extent_49 0 rfl rfl ?_
        refine ww_if_neN O dd_MO_extent_52 (tgt := 69) rfl (by omega) (fun h52 => ?_) (fun h52 => ?_)
        · refine ww_aload_n O dd_MO_extent_69 0 rfl ?_
          refine ww_get O ci_MO rfl 0 (by decide) lf_MO_35 rfl dd_MO_extent_70 0 rfl rfl ?_
          refine ww_if_leN O dd_MO_extent_73 (tgt := 78) rfl (by omega) (fun h73 => ?_) (fun h73 => ?_)
          · exfalso; omega
          · refine ww_iconst O dd_MO_extent_76 (v := nI 0) rfl ?_
            exact F.i dd_MO_extent_77
        · exfalso; omega
      · exfalso; omega
    · refine ww_iload_n O dd_MO_extent_12 2 rfl ?_
      refine ww_bipush O dd_MO_extent_13 (v := nI 60) rfl ?_
      refine ww_icmp_le O dd_MO_extent_15 (tgt := 22) rfl (fun h15 => ?_) (fun h15 => ?_)
      · exact absurd (hbad.elim (fun q => by rw [q] at h5; exact absurd h5 (by decide)) (fun q => q.elim (fun q => absurd q h9) (fun q => absurd h15 q))) id
      · refine ww_iconst O dd_MO_extent_18 (v := nI 1) rfl ?_
        refine ww_goto O dd_MO_extent_19 (tgt := 23) rfl ?_
        refine ww_put O ci_MO cy_MO cy_MO_ok cn_MO rfl 0 (by decide) lf_MO_35 rfl rfl (ty := .int) (by decide +kernel) dd_MO_extent_23 0 rfl rfl rfl (Nat.le_of_ble_eq_true rfl) (ws' := [(m, .inr (3, [.int (nI 1), .ref a1, .ref a2, .ref a3, .ref a4, .ref a5, .ref a6, .ref a7, .ref a8, .int fi, .int le])), (a1, .inl (ww_g X 0, 240, .inl pl)), (a2, .inl (ww_g X 1, 240, .inl wr)), (a3, .inl (ww_g X 1, 240, .inl pg)), (a4, .inl (ww_g X 0, 240, .inl pv)), (a5, .inl (ww_g X 0, 4, .inl sz)), (a6, .inl (ww_g X 0, 80, .inl ow)), (a7, .inl (ww_g X 0, 80, .inl vl)), (a8, .inl (ww_g X 0, 60, .inl bf))]) rfl ?_
        refine ww_aload_n O dd_MO_extent_26 0 rfl ?_
        refine ww_get O ci_MO rfl 0 (by decide) lf_MO_35 rfl dd_MO_extent_27 0 rfl rfl ?_
        refine ww_if_neN O dd_MO_extent_30 (tgt := 48) rfl (by omega) (fun h30 => ?_) (fun h30 => ?_)
        · refine ww_aload_n O dd_MO_extent_48 0 rfl ?_
          refine ww_get O ci_MO rfl 0 (by decide) lf_MO_35 rfl dd_MO_extent_49 0 rfl rfl ?_
          refine ww_if_neN O dd_MO_extent_52 (tgt := 69) rfl (by omega) (fun h52 => ?_) (fun h52 => ?_)
          · refine ww_aload_n O dd_MO_extent_69 0 rfl ?_
            refine ww_get O ci_MO rfl 0 (by decide) lf_MO_35 rfl dd_MO_extent_70 0 rfl rfl ?_
            refine ww_if_leN O dd_MO_extent_73 (tgt := 78) rfl (by omega) (fun h73 => ?_) (fun h73 => ?_)
            · exfalso; omega
            · refine ww_iconst O dd_MO_extent_76 (v := nI 0) rfl ?_
              exact F.i dd_MO_extent_77
          · exfalso; omega
        · exfalso; omega
set_option maxRecDepth 4000 in
theorem cc_MO_extent_none (l : Launch) (D : va_G) (g : Nat → ClassId) (m : Nat) (a1 : Nat) (a2 : Nat) (a3 : Nat) (a4 : Nat) (a5 : Nat) (a6 : Nat) (a7 : Nat) (a8 : Nat) (cd : Int32) (fi : Int32) (le : Int32) (pl : Nat → Int32) (wr : Nat → Int32) (pg : Nat → Int32) (pv : Nat → Int32) (sz : Nat → Int32) (ow : Nat → Int32) (vl : Nat → Int32) (bf : Nat → Int32) (f : Nat) (k : Nat) (z : Int32) (hr : ∀ b, b < 240 → px_rg (pl b)) (hf : f < 4) (hk : k ≤ 60) (hT : (px_rx pl wr k 60 (60 * f) 0 0 fi).1 ≤ k) : ww_ct l D g yy_MO_extent bb_MO_extent 4 (some .int) (ww_rm 3) [.ref m, .int (nI f), .int (nI k), .int z] [(m, .inr (3, [.int cd, .ref a1, .ref a2, .ref a3, .ref a4, .ref a5, .ref a6, .ref a7, .ref a8, .int fi, .int le])), (a1, .inl (g 0, 240, .inl pl)), (a2, .inl (g 1, 240, .inl wr)), (a3, .inl (g 1, 240, .inl pg)), (a4, .inl (g 0, 240, .inl pv)), (a5, .inl (g 0, 4, .inl sz)), (a6, .inl (g 0, 80, .inl ow)), (a7, .inl (g 0, 80, .inl vl)), (a8, .inl (g 0, 60, .inl bf))] (some (.int (nI 0))) [(m, .inr (3, [.int (nI 1), .ref a1, .ref a2, .ref a3, .ref a4, .ref a5, .ref a6, .ref a7, .ref a8, .int ((px_rx pl wr k 60 (60 * f) 0 0 fi).2.2), .int (nI (px_rx pl wr k 60 (60 * f) 0 0 fi).2.1)])), (a1, .inl (g 0, 240, .inl pl)), (a2, .inl (g 1, 240, .inl wr)), (a3, .inl (g 1, 240, .inl pg)), (a4, .inl (g 0, 240, .inl pv)), (a5, .inl (g 0, 4, .inl sz)), (a6, .inl (g 0, 80, .inl ow)), (a7, .inl (g 0, 80, .inl vl)), (a8, .inl (g 0, 60, .inl bf))] := by
  refine ww_start (by decide +kernel) rfl rfl (Nat.le_of_ble_eq_true rfl) (L0 := [(0, .ref m), (1, .int (nI f)), (2, .int (nI k)), (3, .int z)]) rfl ?_
  intro X O hl hD hg hR hn F
  subst hl hD hg
  have hxn := px_rx_n (pl := pl) (wr := wr) (s := k) 60 (60 * f) 0 0 fi
  have hxl := px_rx_le (pl := pl) (wr := wr) (s := k) 60 (60 * f) 0 0 fi (by omega)
  refine ww_aload_n O dd_MO_extent_0 0 rfl ?_
  refine ww_iload_n O dd_MO_extent_1 1 rfl ?_
  refine ww_callS O (cc_MO_noFile _ _ _ (nI f) ) lc_MO_79 ls_MO_noFile_I_Z (by rw [hR]; decide) (by rw [hR]; decide) (by rw [hR]; decide) rfl (Nat.le_of_ble_eq_true rfl) dd_MO_extent_2 rfl [] [0, 1, 2, 3, 4, 5, 6, 7, 8] [0, 1, 2, 3, 4, 5, 6, 7, 8] rfl (by decide) rfl (by decide) (by decide) (ws' := [(m, .inr (3, [.int cd, .ref a1, .ref a2, .ref a3, .ref a4, .ref a5, .ref a6, .ref a7, .ref a8, .int fi, .int le])), (a1, .inl (ww_g X 0, 240, .inl pl)), (a2, .inl (ww_g X 1, 240, .inl wr)), (a3, .inl (ww_g X 1, 240, .inl pg)), (a4, .inl (ww_g X 0, 240, .inl pv)), (a5, .inl (ww_g X 0, 4, .inl sz)), (a6, .inl (ww_g X 0, 80, .inl ow)), (a7, .inl (ww_g X 0, 80, .inl vl)), (a8, .inl (ww_g X 0, 60, .inl bf))]) rfl rfl (by decide) ?_
  rw [px_nf_nI (k := 3) (by omega) (by decide)]
  refine ww_if_neB O dd_MO_extent_5 (tgt := 18) rfl (fun h5 => ?_) (fun h5 => ?_)
  · exact absurd h5 (by decide)
  · refine ww_iload_n O dd_MO_extent_8 2 rfl ?_
    refine ww_if_ltN O dd_MO_extent_9 (tgt := 18) rfl (by omega) (fun h9 => ?_) (fun h9 => ?_)
    · exfalso; omega
    · refine ww_iload_n O dd_MO_extent_12 2 rfl ?_
      refine ww_bipush O dd_MO_extent_13 (v := nI 60) rfl ?_
      refine ww_icmp_leN O dd_MO_extent_15 (tgt := 22) rfl (by omega) (by omega) (fun h15 => ?_) (fun h15 => ?_)
      · refine ww_iconst O dd_MO_extent_22 (v := nI 0) rfl ?_
        refine ww_put O ci_MO cy_MO cy_MO_ok cn_MO rfl 0 (by decide) lf_MO_35 rfl rfl (ty := .int) (by decide +kernel) dd_MO_extent_23 0 rfl rfl rfl (Nat.le_of_ble_eq_true rfl) (ws' := [(m, .inr (3, [.int (nI 0), .ref a1, .ref a2, .ref a3, .ref a4, .ref a5, .ref a6, .ref a7, .ref a8, .int fi, .int le])), (a1, .inl (ww_g X 0, 240, .inl pl)), (a2, .inl (ww_g X 1, 240, .inl wr)), (a3, .inl (ww_g X 1, 240, .inl pg)), (a4, .inl (ww_g X 0, 240, .inl pv)), (a5, .inl (ww_g X 0, 4, .inl sz)), (a6, .inl (ww_g X 0, 80, .inl ow)), (a7, .inl (ww_g X 0, 80, .inl vl)), (a8, .inl (ww_g X 0, 60, .inl bf))]) rfl ?_
        refine ww_aload_n O dd_MO_extent_26 0 rfl ?_
        refine ww_get O ci_MO rfl 0 (by decide) lf_MO_35 rfl dd_MO_extent_27 0 rfl rfl ?_
        refine ww_if_neN O dd_MO_extent_30 (tgt := 48) rfl (by omega) (fun h30 => ?_) (fun h30 => ?_)
        · exfalso; omega
        · refine ww_aload_n O dd_MO_extent_33 0 rfl ?_
          refine ww_iload_n O dd_MO_extent_34 1 rfl ?_
          refine ww_iload_n O dd_MO_extent_35 2 rfl ?_
          refine ww_callV (q0 := 0) (ci := 3) O (cc_MO_extents _ _ _ m a1 a2 a3 a4 a5 a6 a7 a8 (nI 0) fi le pl wr pg pv sz ow vl bf f k (by omega) (by omega) (by omega)) lc_MO_49 lx_MO_extents_II_I rfl rfl rfl (by rw [hR]; decide) (by rw [hR]; decide) (by rw [hR]; decide) rfl (Nat.le_of_ble_eq_true rfl) dd_MO_extent_36 rfl [0, 1, 2, 3, 4, 5, 6, 7, 8] [] [0, 1, 2, 3, 4, 5, 6, 7, 8] rfl (by decide) rfl (by decide) (by decide) (ws' := [(m, .inr (3, [.int (nI 0), .ref a1, .ref a2, .ref a3, .ref a4, .ref a5, .ref a6, .ref a7, .ref a8, .int ((px_rx pl wr k 60 (60 * f) 0 0 fi).2.2), .int (nI (px_rx pl wr k 60 (60 * f) 0 0 fi).2.1)])), (a1, .inl (ww_g X 0, 240, .inl pl)), (a2, .inl (ww_g X 1, 240, .inl wr)), (a3, .inl (ww_g X 1, 240, .inl pg)), (a4, .inl (ww_g X 0, 240, .inl pv)), (a5, .inl (ww_g X 0, 4, .inl sz)), (a6, .inl (ww_g X 0, 80, .inl ow)), (a7, .inl (ww_g X 0, 80, .inl vl)), (a8, .inl (ww_g X 0, 60, .inl bf))]) rfl rfl (by decide) ?_
          refine ww_iload_n O dd_MO_extent_39 2 rfl ?_
          refine ww_icmp_gtN O dd_MO_extent_40 (tgt := 48) rfl (by omega) (by omega) (fun h40 => ?_) (fun h40 => ?_)
          · exfalso; omega
          · refine ww_aload_n O dd_MO_extent_43 0 rfl ?_
            refine ww_iconst O dd_MO_extent_44 (v := nI 1) rfl ?_
            refine ww_put O ci_MO cy_MO cy_MO_ok cn_MO rfl 0 (by decide) lf_MO_35 rfl rfl (ty := .int) (by decide +kernel) dd_MO_extent_45 0 rfl rfl rfl (Nat.le_of_ble_eq_true rfl) (ws' := [(m, .inr (3, [.int (nI 1), .ref a1, .ref a2, .ref a3, .ref a4, .ref a5, .ref a6, .ref a7, .ref a8, .int ((px_rx pl wr k 60 (60 * f) 0 0 fi).2.2), .int (nI (px_rx pl wr k 60 (60 * f) 0 0 fi).2.1)])), (a1, .inl (ww_g X 0, 240, .inl pl)), (a2, .inl (ww_g X 1, 240, .inl wr)), (a3, .inl (ww_g X 1, 240, .inl pg)), (a4, .inl (ww_g X 0, 240, .inl pv)), (a5, .inl (ww_g X 0, 4, .inl sz)), (a6, .inl (ww_g X 0, 80, .inl ow)), (a7, .inl (ww_g X 0, 80, .inl vl)), (a8, .inl (ww_g X 0, 60, .inl bf))]) rfl ?_
            refine ww_aload_n O dd_MO_extent_48 0 rfl ?_
            refine ww_get O ci_MO rfl 0 (by decide) lf_MO_35 rfl dd_MO_extent_49 0 rfl rfl ?_
            refine ww_if_neN O dd_MO_extent_52 (tgt := 69) rfl (by omega) (fun h52 => ?_) (fun h52 => ?_)
            · refine ww_aload_n O dd_MO_extent_69 0 rfl ?_
              refine ww_get O ci_MO rfl 0 (by decide) lf_MO_35 rfl dd_MO_extent_70 0 rfl rfl ?_
              refine ww_if_leN O dd_MO_extent_73 (tgt := 78) rfl (by omega) (fun h73 => ?_) (fun h73 => ?_)
              · exfalso; omega
              · refine ww_iconst O dd_MO_extent_76 (v := nI 0) rfl ?_
                exact F.i dd_MO_extent_77
            · exfalso; omega
      · exfalso; omega
set_option maxRecDepth 4000 in
theorem cc_MO_extent_bad2 (l : Launch) (D : va_G) (g : Nat → ClassId) (m : Nat) (a1 : Nat) (a2 : Nat) (a3 : Nat) (a4 : Nat) (a5 : Nat) (a6 : Nat) (a7 : Nat) (a8 : Nat) (cd : Int32) (fi : Int32) (le : Int32) (pl : Nat → Int32) (wr : Nat → Int32) (pg : Nat → Int32) (pv : Nat → Int32) (sz : Nat → Int32) (ow : Nat → Int32) (vl : Nat → Int32) (bf : Nat → Int32) (f : Nat) (k : Nat) (z : Int32) (hr : ∀ b, b < 240 → px_rg (pl b)) (hf : f < 4) (hk : k ≤ 60) (hT : k < (px_rx pl wr k 60 (60 * f) 0 0 fi).1) (hbad : z < 0 ∨ ¬ z ≤ nI 3) : ww_ct l D g yy_MO_extent bb_MO_extent 4 (some .int) (ww_rm 3) [.ref m, .int (nI f), .int (nI k), .int z] [(m, .inr (3, [.int cd, .ref a1, .ref a2, .ref a3, .ref a4, .ref a5, .ref a6, .ref a7, .ref a8, .int fi, .int le])), (a1, .inl (g 0, 240, .inl pl)), (a2, .inl (g 1, 240, .inl wr)), (a3, .inl (g 1, 240, .inl pg)), (a4, .inl (g 0, 240, .inl pv)), (a5, .inl (g 0, 4, .inl sz)), (a6, .inl (g 0, 80, .inl ow)), (a7, .inl (g 0, 80, .inl vl)), (a8, .inl (g 0, 60, .inl bf))] (some (.int (nI 0))) [(m, .inr (3, [.int (nI 2), .ref a1, .ref a2, .ref a3, .ref a4, .ref a5, .ref a6, .ref a7, .ref a8, .int ((px_rx pl wr k 60 (60 * f) 0 0 fi).2.2), .int (nI (px_rx pl wr k 60 (60 * f) 0 0 fi).2.1)])), (a1, .inl (g 0, 240, .inl pl)), (a2, .inl (g 1, 240, .inl wr)), (a3, .inl (g 1, 240, .inl pg)), (a4, .inl (g 0, 240, .inl pv)), (a5, .inl (g 0, 4, .inl sz)), (a6, .inl (g 0, 80, .inl ow)), (a7, .inl (g 0, 80, .inl vl)), (a8, .inl (g 0, 60, .inl bf))] := by
  refine ww_start (by decide +kernel) rfl rfl (Nat.le_of_ble_eq_true rfl) (L0 := [(0, .ref m), (1, .int (nI f)), (2, .int (nI k)), (3, .int z)]) rfl ?_
  intro X O hl hD hg hR hn F
  subst hl hD hg
  have hxn := px_rx_n (pl := pl) (wr := wr) (s := k) 60 (60 * f) 0 0 fi
  have hxl := px_rx_le (pl := pl) (wr := wr) (s := k) 60 (60 * f) 0 0 fi (by omega)
  refine ww_aload_n O dd_MO_extent_0 0 rfl ?_
  refine ww_iload_n O dd_MO_extent_1 1 rfl ?_
  refine ww_callS O (cc_MO_noFile _ _ _ (nI f) ) lc_MO_79 ls_MO_noFile_I_Z (by rw [hR]; decide) (by rw [hR]; decide) (by rw [hR]; decide) rfl (Nat.le_of_ble_eq_true rfl) dd_MO_extent_2 rfl [] [0, 1, 2, 3, 4, 5, 6, 7, 8] [0, 1, 2, 3, 4, 5, 6, 7, 8] rfl (by decide) rfl (by decide) (by decide) (ws' := [(m, .inr (3, [.int cd, .ref a1, .ref a2, .ref a3, .ref a4, .ref a5, .ref a6, .ref a7, .ref a8, .int fi, .int le])), (a1, .inl (ww_g X 0, 240, .inl pl)), (a2, .inl (ww_g X 1, 240, .inl wr)), (a3, .inl (ww_g X 1, 240, .inl pg)), (a4, .inl (ww_g X 0, 240, .inl pv)), (a5, .inl (ww_g X 0, 4, .inl sz)), (a6, .inl (ww_g X 0, 80, .inl ow)), (a7, .inl (ww_g X 0, 80, .inl vl)), (a8, .inl (ww_g X 0, 60, .inl bf))]) rfl rfl (by decide) ?_
  rw [px_nf_nI (k := 3) (by omega) (by decide)]
  refine ww_if_neB O dd_MO_extent_5 (tgt := 18) rfl (fun h5 => ?_) (fun h5 => ?_)
  · exact absurd h5 (by decide)
  · refine ww_iload_n O dd_MO_extent_8 2 rfl ?_
    refine ww_if_ltN O dd_MO_extent_9 (tgt := 18) rfl (by omega) (fun h9 => ?_) (fun h9 => ?_)
    · exfalso; omega
    · refine ww_iload_n O dd_MO_extent_12 2 rfl ?_
      refine ww_bipush O dd_MO_extent_13 (v := nI 60) rfl ?_
      refine ww_icmp_leN O dd_MO_extent_15 (tgt := 22) rfl (by omega) (by omega) (fun h15 => ?_) (fun h15 => ?_)
      · refine ww_iconst O dd_MO_extent_22 (v := nI 0) rfl ?_
        refine ww_put O ci_MO cy_MO cy_MO_ok cn_MO rfl 0 (by decide) lf_MO_35 rfl rfl (ty := .int) (by decide +kernel) dd_MO_extent_23 0 rfl rfl rfl (Nat.le_of_ble_eq_true rfl) (ws' := [(m, .inr (3, [.int (nI 0), .ref a1, .ref a2, .ref a3, .ref a4, .ref a5, .ref a6, .ref a7, .ref a8, .int fi, .int le])), (a1, .inl (ww_g X 0, 240, .inl pl)), (a2, .inl (ww_g X 1, 240, .inl wr)), (a3, .inl (ww_g X 1, 240, .inl pg)), (a4, .inl (ww_g X 0, 240, .inl pv)), (a5, .inl (ww_g X 0, 4, .inl sz)), (a6, .inl (ww_g X 0, 80, .inl ow)), (a7, .inl (ww_g X 0, 80, .inl vl)), (a8, .inl (ww_g X 0, 60, .inl bf))]) rfl ?_
        refine ww_aload_n O dd_MO_extent_26 0 rfl ?_
        refine ww_get O ci_MO rfl 0 (by decide) lf_MO_35 rfl dd_MO_extent_27 0 rfl rfl ?_
        refine ww_if_neN O dd_MO_extent_30 (tgt := 48) rfl (by omega) (fun h30 => ?_) (fun h30 => ?_)
        · exfalso; omega
        · refine ww_aload_n O dd_MO_extent_33 0 rfl ?_
          refine ww_iload_n O dd_MO_extent_34 1 rfl ?_
          refine ww_iload_n O dd_MO_extent_35 2 rfl ?_
          refine ww_callV (q0 := 0) (ci := 3) O (cc_MO_extents _ _ _ m a1 a2 a3 a4 a5 a6 a7 a8 (nI 0) fi le pl wr pg pv sz ow vl bf f k (by omega) (by omega) (by omega)) lc_MO_49 lx_MO_extents_II_I rfl rfl rfl (by rw [hR]; decide) (by rw [hR]; decide) (by rw [hR]; decide) rfl (Nat.le_of_ble_eq_true rfl) dd_MO_extent_36 rfl [0, 1, 2, 3, 4, 5, 6, 7, 8] [] [0, 1, 2, 3, 4, 5, 6, 7, 8] rfl (by decide) rfl (by decide) (by decide) (ws' := [(m, .inr (3, [.int (nI 0), .ref a1, .ref a2, .ref a3, .ref a4, .ref a5, .ref a6, .ref a7, .ref a8, .int ((px_rx pl wr k 60 (60 * f) 0 0 fi).2.2), .int (nI (px_rx pl wr k 60 (60 * f) 0 0 fi).2.1)])), (a1, .inl (ww_g X 0, 240, .inl pl)), (a2, .inl (ww_g X 1, 240, .inl wr)), (a3, .inl (ww_g X 1, 240, .inl pg)), (a4, .inl (ww_g X 0, 240, .inl pv)), (a5, .inl (ww_g X 0, 4, .inl sz)), (a6, .inl (ww_g X 0, 80, .inl ow)), (a7, .inl (ww_g X 0, 80, .inl vl)), (a8, .inl (ww_g X 0, 60, .inl bf))]) rfl rfl (by decide) ?_
          refine ww_iload_n O dd_MO_extent_39 2 rfl ?_
          refine ww_icmp_gtN O dd_MO_extent_40 (tgt := 48) rfl (by omega) (by omega) (fun h40 => ?_) (fun h40 => ?_)
          · refine ww_aload_n O dd_MO_extent_48 0 rfl ?_
            refine ww_get O ci_MO rfl 0 (by decide) lf_MO_35 rfl dd_MO_extent_49 0 rfl rfl ?_
            refine ww_if_neN O dd_MO_extent_52 (tgt := 69) rfl (by omega) (fun h52 => ?_) (fun h52 => ?_)
            · exfalso; omega
            · refine ww_iload_n O dd_MO_extent_55 3 rfl ?_
              refine ww_if_lt O dd_MO_extent_56 (tgt := 64) rfl (fun h56 => ?_) (fun h56 => ?_)
              · refine ww_aload_n O dd_MO_extent_64 0 rfl ?_
                refine ww_iconst O dd_MO_extent_65 (v := nI 2) rfl ?_
                refine ww_put O ci_MO cy_MO cy_MO_ok cn_MO rfl 0 (by decide) lf_MO_35 rfl rfl (ty := .int) (by decide +kernel) dd_MO_extent_66 0 rfl rfl rfl (Nat.le_of_ble_eq_true rfl) (ws' := [(m, .inr (3, [.int (nI 2), .ref a1, .ref a2, .ref a3, .ref a4, .ref a5, .ref a6, .ref a7, .ref a8, .int ((px_rx pl wr k 60 (60 * f) 0 0 fi).2.2), .int (nI (px_rx pl wr k 60 (60 * f) 0 0 fi).2.1)])), (a1, .inl (ww_g X 0, 240, .inl pl)), (a2, .inl (ww_g X 1, 240, .inl wr)), (a3, .inl (ww_g X 1, 240, .inl pg)), (a4, .inl (ww_g X 0, 240, .inl pv)), (a5, .inl (ww_g X 0, 4, .inl sz)), (a6, .inl (ww_g X 0, 80, .inl ow)), (a7, .inl (ww_g X 0, 80, .inl vl)), (a8, .inl (ww_g X 0, 60, .inl bf))]) rfl ?_
                refine ww_aload_n O dd_MO_extent_69 0 rfl ?_
                refine ww_get O ci_MO rfl 0 (by decide) lf_MO_35 rfl dd_MO_extent_70 0 rfl rfl ?_
                refine ww_if_leN O dd_MO_extent_73 (tgt := 78) rfl (by omega) (fun h73 => ?_) (fun h73 => ?_)
                · exfalso; omega
                · refine ww_iconst O dd_MO_extent_76 (v := nI 0) rfl ?_
                  exact F.i dd_MO_extent_77
              · refine ww_iload_n O dd_MO_extent_59 3 rfl ?_
                refine ww_iconst O dd_MO_extent_60 (v := nI 3) rfl ?_
                refine ww_icmp_le O dd_MO_extent_61 (tgt := 69) rfl (fun h61 => ?_) (fun h61 => ?_)
                · exact absurd h61 (hbad.elim (fun q => absurd q h56) id)
                · refine ww_aload_n O dd_MO_extent_64 0 rfl ?_
                  refine ww_iconst O dd_MO_extent_65 (v := nI 2) rfl ?_
                  refine ww_put O ci_MO cy_MO cy_MO_ok cn_MO rfl 0 (by decide) lf_MO_35 rfl rfl (ty := .int) (by decide +kernel) dd_MO_extent_66 0 rfl rfl rfl (Nat.le_of_ble_eq_true rfl) (ws' := [(m, .inr (3, [.int (nI 2), .ref a1, .ref a2, .ref a3, .ref a4, .ref a5, .ref a6, .ref a7, .ref a8, .int ((px_rx pl wr k 60 (60 * f) 0 0 fi).2.2), .int (nI (px_rx pl wr k 60 (60 * f) 0 0 fi).2.1)])), (a1, .inl (ww_g X 0, 240, .inl pl)), (a2, .inl (ww_g X 1, 240, .inl wr)), (a3, .inl (ww_g X 1, 240, .inl pg)), (a4, .inl (ww_g X 0, 240, .inl pv)), (a5, .inl (ww_g X 0, 4, .inl sz)), (a6, .inl (ww_g X 0, 80, .inl ow)), (a7, .inl (ww_g X 0, 80, .inl vl)), (a8, .inl (ww_g X 0, 60, .inl bf))]) rfl ?_
                  refine ww_aload_n O dd_MO_extent_69 0 rfl ?_
                  refine ww_get O ci_MO rfl 0 (by decide) lf_MO_35 rfl dd_MO_extent_70 0 rfl rfl ?_
                  refine ww_if_leN O dd_MO_extent_73 (tgt := 78) rfl (by omega) (fun h73 => ?_) (fun h73 => ?_)
                  · exfalso; omega
                  · refine ww_iconst O dd_MO_extent_76 (v := nI 0) rfl ?_
                    exact F.i dd_MO_extent_77
          · exfalso; omega
      · exfalso; omega
set_option maxRecDepth 4000 in
theorem cc_MO_extent_0 (l : Launch) (D : va_G) (g : Nat → ClassId) (m : Nat) (a1 : Nat) (a2 : Nat) (a3 : Nat) (a4 : Nat) (a5 : Nat) (a6 : Nat) (a7 : Nat) (a8 : Nat) (cd : Int32) (fi : Int32) (le : Int32) (pl : Nat → Int32) (wr : Nat → Int32) (pg : Nat → Int32) (pv : Nat → Int32) (sz : Nat → Int32) (ow : Nat → Int32) (vl : Nat → Int32) (bf : Nat → Int32) (f : Nat) (k : Nat) (q : Nat) (hr : ∀ b, b < 240 → px_rg (pl b)) (hf : f < 4) (hk : k ≤ 60) (hT : k < (px_rx pl wr k 60 (60 * f) 0 0 fi).1) (hqe : (px_rx pl wr k 60 (60 * f) 0 0 fi).2.2 = nI q) (hq1 : 60 * f ≤ q) (hq2 : q < 60 * f + 60) : ww_ct l D g yy_MO_extent bb_MO_extent 4 (some .int) (ww_rm 3) [.ref m, .int (nI f), .int (nI k), .int (nI 0)] [(m, .inr (3, [.int cd, .ref a1, .ref a2, .ref a3, .ref a4, .ref a5, .ref a6, .ref a7, .ref a8, .int fi, .int le])), (a1, .inl (g 0, 240, .inl pl)), (a2, .inl (g 1, 240, .inl wr)), (a3, .inl (g 1, 240, .inl pg)), (a4, .inl (g 0, 240, .inl pv)), (a5, .inl (g 0, 4, .inl sz)), (a6, .inl (g 0, 80, .inl ow)), (a7, .inl (g 0, 80, .inl vl)), (a8, .inl (g 0, 60, .inl bf))] (some (.int (nI (q - 60 * f)))) [(m, .inr (3, [.int (nI 0), .ref a1, .ref a2, .ref a3, .ref a4, .ref a5, .ref a6, .ref a7, .ref a8, .int ((px_rx pl wr k 60 (60 * f) 0 0 fi).2.2), .int (nI (px_rx pl wr k 60 (60 * f) 0 0 fi).2.1)])), (a1, .inl (g 0, 240, .inl pl)), (a2, .inl (g 1, 240, .inl wr)), (a3, .inl (g 1, 240, .inl pg)), (a4, .inl (g 0, 240, .inl pv)), (a5, .inl (g 0, 4, .inl sz)), (a6, .inl (g 0, 80, .inl ow)), (a7, .inl (g 0, 80, .inl vl)), (a8, .inl (g 0, 60, .inl bf))] := by
  refine ww_start (by decide +kernel) rfl rfl (Nat.le_of_ble_eq_true rfl) (L0 := [(0, .ref m), (1, .int (nI f)), (2, .int (nI k)), (3, .int (nI 0))]) rfl ?_
  intro X O hl hD hg hR hn F
  subst hl hD hg
  have hxn := px_rx_n (pl := pl) (wr := wr) (s := k) 60 (60 * f) 0 0 fi
  have hxl := px_rx_le (pl := pl) (wr := wr) (s := k) 60 (60 * f) 0 0 fi (by omega)
  refine ww_aload_n O dd_MO_extent_0 0 rfl ?_
  refine ww_iload_n O dd_MO_extent_1 1 rfl ?_
  refine ww_callS O (cc_MO_noFile _ _ _ (nI f) ) lc_MO_79 ls_MO_noFile_I_Z (by rw [hR]; decide) (by rw [hR]; decide) (by rw [hR]; decide) rfl (Nat.le_of_ble_eq_true rfl) dd_MO_extent_2 rfl [] [0, 1, 2, 3, 4, 5, 6, 7, 8] [0, 1, 2, 3, 4, 5, 6, 7, 8] rfl (by decide) rfl (by decide) (by decide) (ws' := [(m, .inr (3, [.int cd, .ref a1, .ref a2, .ref a3, .ref a4, .ref a5, .ref a6, .ref a7, .ref a8, .int fi, .int le])), (a1, .inl (ww_g X 0, 240, .inl pl)), (a2, .inl (ww_g X 1, 240, .inl wr)), (a3, .inl (ww_g X 1, 240, .inl pg)), (a4, .inl (ww_g X 0, 240, .inl pv)), (a5, .inl (ww_g X 0, 4, .inl sz)), (a6, .inl (ww_g X 0, 80, .inl ow)), (a7, .inl (ww_g X 0, 80, .inl vl)), (a8, .inl (ww_g X 0, 60, .inl bf))]) rfl rfl (by decide) ?_
  rw [px_nf_nI (k := 3) (by omega) (by decide)]
  refine ww_if_neB O dd_MO_extent_5 (tgt := 18) rfl (fun h5 => ?_) (fun h5 => ?_)
  · exact absurd h5 (by decide)
  · refine ww_iload_n O dd_MO_extent_8 2 rfl ?_
    refine ww_if_ltN O dd_MO_extent_9 (tgt := 18) rfl (by omega) (fun h9 => ?_) (fun h9 => ?_)
    · exfalso; omega
    · refine ww_iload_n O dd_MO_extent_12 2 rfl ?_
      refine ww_bipush O dd_MO_extent_13 (v := nI 60) rfl ?_
      refine ww_icmp_leN O dd_MO_extent_15 (tgt := 22) rfl (by omega) (by omega) (fun h15 => ?_) (fun h15 => ?_)
      · refine ww_iconst O dd_MO_extent_22 (v := nI 0) rfl ?_
        refine ww_put O ci_MO cy_MO cy_MO_ok cn_MO rfl 0 (by decide) lf_MO_35 rfl rfl (ty := .int) (by decide +kernel) dd_MO_extent_23 0 rfl rfl rfl (Nat.le_of_ble_eq_true rfl) (ws' := [(m, .inr (3, [.int (nI 0), .ref a1, .ref a2, .ref a3, .ref a4, .ref a5, .ref a6, .ref a7, .ref a8, .int fi, .int le])), (a1, .inl (ww_g X 0, 240, .inl pl)), (a2, .inl (ww_g X 1, 240, .inl wr)), (a3, .inl (ww_g X 1, 240, .inl pg)), (a4, .inl (ww_g X 0, 240, .inl pv)), (a5, .inl (ww_g X 0, 4, .inl sz)), (a6, .inl (ww_g X 0, 80, .inl ow)), (a7, .inl (ww_g X 0, 80, .inl vl)), (a8, .inl (ww_g X 0, 60, .inl bf))]) rfl ?_
        refine ww_aload_n O dd_MO_extent_26 0 rfl ?_
        refine ww_get O ci_MO rfl 0 (by decide) lf_MO_35 rfl dd_MO_extent_27 0 rfl rfl ?_
        refine ww_if_neN O dd_MO_extent_30 (tgt := 48) rfl (by omega) (fun h30 => ?_) (fun h30 => ?_)
        · exfalso; omega
        · refine ww_aload_n O dd_MO_extent_33 0 rfl ?_
          refine ww_iload_n O dd_MO_extent_34 1 rfl ?_
          refine ww_iload_n O dd_MO_extent_35 2 rfl ?_
          refine ww_callV (q0 := 0) (ci := 3) O (cc_MO_extents _ _ _ m a1 a2 a3 a4 a5 a6 a7 a8 (nI 0) fi le pl wr pg pv sz ow vl bf f k (by omega) (by omega) (by omega)) lc_MO_49 lx_MO_extents_II_I rfl rfl rfl (by rw [hR]; decide) (by rw [hR]; decide) (by rw [hR]; decide) rfl (Nat.le_of_ble_eq_true rfl) dd_MO_extent_36 rfl [0, 1, 2, 3, 4, 5, 6, 7, 8] [] [0, 1, 2, 3, 4, 5, 6, 7, 8] rfl (by decide) rfl (by decide) (by decide) (ws' := [(m, .inr (3, [.int (nI 0), .ref a1, .ref a2, .ref a3, .ref a4, .ref a5, .ref a6, .ref a7, .ref a8, .int ((px_rx pl wr k 60 (60 * f) 0 0 fi).2.2), .int (nI (px_rx pl wr k 60 (60 * f) 0 0 fi).2.1)])), (a1, .inl (ww_g X 0, 240, .inl pl)), (a2, .inl (ww_g X 1, 240, .inl wr)), (a3, .inl (ww_g X 1, 240, .inl pg)), (a4, .inl (ww_g X 0, 240, .inl pv)), (a5, .inl (ww_g X 0, 4, .inl sz)), (a6, .inl (ww_g X 0, 80, .inl ow)), (a7, .inl (ww_g X 0, 80, .inl vl)), (a8, .inl (ww_g X 0, 60, .inl bf))]) rfl rfl (by decide) ?_
          refine ww_iload_n O dd_MO_extent_39 2 rfl ?_
          refine ww_icmp_gtN O dd_MO_extent_40 (tgt := 48) rfl (by omega) (by omega) (fun h40 => ?_) (fun h40 => ?_)
          · refine ww_aload_n O dd_MO_extent_48 0 rfl ?_
            refine ww_get O ci_MO rfl 0 (by decide) lf_MO_35 rfl dd_MO_extent_49 0 rfl rfl ?_
            refine ww_if_neN O dd_MO_extent_52 (tgt := 69) rfl (by omega) (fun h52 => ?_) (fun h52 => ?_)
            · exfalso; omega
            · refine ww_iload_n O dd_MO_extent_55 3 rfl ?_
              refine ww_if_ltN O dd_MO_extent_56 (tgt := 64) rfl (by omega) (fun h56 => ?_) (fun h56 => ?_)
              · exfalso; omega
              · refine ww_iload_n O dd_MO_extent_59 3 rfl ?_
                refine ww_iconst O dd_MO_extent_60 (v := nI 3) rfl ?_
                refine ww_icmp_leN O dd_MO_extent_61 (tgt := 69) rfl (by omega) (by omega) (fun h61 => ?_) (fun h61 => ?_)
                · refine ww_aload_n O dd_MO_extent_69 0 rfl ?_
                  refine ww_get O ci_MO rfl 0 (by decide) lf_MO_35 rfl dd_MO_extent_70 0 rfl rfl ?_
                  refine ww_if_leN O dd_MO_extent_73 (tgt := 78) rfl (by omega) (fun h73 => ?_) (fun h73 => ?_)
                  · rw [hqe] at F ⊢
                    refine ww_iload_n O dd_MO_extent_78 3 rfl ?_
                    refine ww_if_neN O dd_MO_extent_79 (tgt := 94) rfl (by omega) (fun h79 => ?_) (fun h79 => ?_)
                    · exfalso; omega
                    · refine ww_aload_n O dd_MO_extent_82 0 rfl ?_
                      refine ww_get O ci_MO rfl 9 (by decide) lf_MO_46 rfl dd_MO_extent_83 0 rfl rfl ?_
                      refine ww_bipush O dd_MO_extent_86 (v := nI 60) rfl ?_
                      refine ww_iload_n O dd_MO_extent_88 1 rfl ?_
                      refine ww_imul O dd_MO_extent_89 (v := nI (60 * f)) (pk_mul _ _) ?_
                      refine ww_isub O dd_MO_extent_90 (v := nI (q - (60 * f))) (pk_sub (by omega)) ?_
                      refine ww_goto O dd_MO_extent_91 (tgt := 140) rfl ?_
                      exact F.i dd_MO_extent_140
                  · exfalso; omega
                · exfalso; omega
          · exfalso; omega
      · exfalso; omega
set_option maxRecDepth 4000 in
theorem cc_MO_extent_1 (l : Launch) (D : va_G) (g : Nat → ClassId) (m : Nat) (a1 : Nat) (a2 : Nat) (a3 : Nat) (a4 : Nat) (a5 : Nat) (a6 : Nat) (a7 : Nat) (a8 : Nat) (cd : Int32) (fi : Int32) (le : Int32) (pl : Nat → Int32) (wr : Nat → Int32) (pg : Nat → Int32) (pv : Nat → Int32) (sz : Nat → Int32) (ow : Nat → Int32) (vl : Nat → Int32) (bf : Nat → Int32) (f : Nat) (k : Nat) (q : Nat) (hr : ∀ b, b < 240 → px_rg (pl b)) (hf : f < 4) (hk : k ≤ 60) (hT : k < (px_rx pl wr k 60 (60 * f) 0 0 fi).1) (hqe : (px_rx pl wr k 60 (60 * f) 0 0 fi).2.2 = nI q) (hq1 : 60 * f ≤ q) (hq2 : q < 60 * f + 60) : ww_ct l D g yy_MO_extent bb_MO_extent 4 (some .int) (ww_rm 3) [.ref m, .int (nI f), .int (nI k), .int (nI 1)] [(m, .inr (3, [.int cd, .ref a1, .ref a2, .ref a3, .ref a4, .ref a5, .ref a6, .ref a7, .ref a8, .int fi, .int le])), (a1, .inl (g 0, 240, .inl pl)), (a2, .inl (g 1, 240, .inl wr)), (a3, .inl (g 1, 240, .inl pg)), (a4, .inl (g 0, 240, .inl pv)), (a5, .inl (g 0, 4, .inl sz)), (a6, .inl (g 0, 80, .inl ow)), (a7, .inl (g 0, 80, .inl vl)), (a8, .inl (g 0, 60, .inl bf))] (some (.int (pl q))) [(m, .inr (3, [.int (nI 0), .ref a1, .ref a2, .ref a3, .ref a4, .ref a5, .ref a6, .ref a7, .ref a8, .int ((px_rx pl wr k 60 (60 * f) 0 0 fi).2.2), .int (nI (px_rx pl wr k 60 (60 * f) 0 0 fi).2.1)])), (a1, .inl (g 0, 240, .inl pl)), (a2, .inl (g 1, 240, .inl wr)), (a3, .inl (g 1, 240, .inl pg)), (a4, .inl (g 0, 240, .inl pv)), (a5, .inl (g 0, 4, .inl sz)), (a6, .inl (g 0, 80, .inl ow)), (a7, .inl (g 0, 80, .inl vl)), (a8, .inl (g 0, 60, .inl bf))] := by
  refine ww_start (by decide +kernel) rfl rfl (Nat.le_of_ble_eq_true rfl) (L0 := [(0, .ref m), (1, .int (nI f)), (2, .int (nI k)), (3, .int (nI 1))]) rfl ?_
  intro X O hl hD hg hR hn F
  subst hl hD hg
  have hxn := px_rx_n (pl := pl) (wr := wr) (s := k) 60 (60 * f) 0 0 fi
  have hxl := px_rx_le (pl := pl) (wr := wr) (s := k) 60 (60 * f) 0 0 fi (by omega)
  refine ww_aload_n O dd_MO_extent_0 0 rfl ?_
  refine ww_iload_n O dd_MO_extent_1 1 rfl ?_
  refine ww_callS O (cc_MO_noFile _ _ _ (nI f) ) lc_MO_79 ls_MO_noFile_I_Z (by rw [hR]; decide) (by rw [hR]; decide) (by rw [hR]; decide) rfl (Nat.le_of_ble_eq_true rfl) dd_MO_extent_2 rfl [] [0, 1, 2, 3, 4, 5, 6, 7, 8] [0, 1, 2, 3, 4, 5, 6, 7, 8] rfl (by decide) rfl (by decide) (by decide) (ws' := [(m, .inr (3, [.int cd, .ref a1, .ref a2, .ref a3, .ref a4, .ref a5, .ref a6, .ref a7, .ref a8, .int fi, .int le])), (a1, .inl (ww_g X 0, 240, .inl pl)), (a2, .inl (ww_g X 1, 240, .inl wr)), (a3, .inl (ww_g X 1, 240, .inl pg)), (a4, .inl (ww_g X 0, 240, .inl pv)), (a5, .inl (ww_g X 0, 4, .inl sz)), (a6, .inl (ww_g X 0, 80, .inl ow)), (a7, .inl (ww_g X 0, 80, .inl vl)), (a8, .inl (ww_g X 0, 60, .inl bf))]) rfl rfl (by decide) ?_
  rw [px_nf_nI (k := 3) (by omega) (by decide)]
  refine ww_if_neB O dd_MO_extent_5 (tgt := 18) rfl (fun h5 => ?_) (fun h5 => ?_)
  · exact absurd h5 (by decide)
  · refine ww_iload_n O dd_MO_extent_8 2 rfl ?_
    refine ww_if_ltN O dd_MO_extent_9 (tgt := 18) rfl (by omega) (fun h9 => ?_) (fun h9 => ?_)
    · exfalso; omega
    · refine ww_iload_n O dd_MO_extent_12 2 rfl ?_
      refine ww_bipush O dd_MO_extent_13 (v := nI 60) rfl ?_
      refine ww_icmp_leN O dd_MO_extent_15 (tgt := 22) rfl (by omega) (by omega) (fun h15 => ?_) (fun h15 => ?_)
      · refine ww_iconst O dd_MO_extent_22 (v := nI 0) rfl ?_
        refine ww_put O ci_MO cy_MO cy_MO_ok cn_MO rfl 0 (by decide) lf_MO_35 rfl rfl (ty := .int) (by decide +kernel) dd_MO_extent_23 0 rfl rfl rfl (Nat.le_of_ble_eq_true rfl) (ws' := [(m, .inr (3, [.int (nI 0), .ref a1, .ref a2, .ref a3, .ref a4, .ref a5, .ref a6, .ref a7, .ref a8, .int fi, .int le])), (a1, .inl (ww_g X 0, 240, .inl pl)), (a2, .inl (ww_g X 1, 240, .inl wr)), (a3, .inl (ww_g X 1, 240, .inl pg)), (a4, .inl (ww_g X 0, 240, .inl pv)), (a5, .inl (ww_g X 0, 4, .inl sz)), (a6, .inl (ww_g X 0, 80, .inl ow)), (a7, .inl (ww_g X 0, 80, .inl vl)), (a8, .inl (ww_g X 0, 60, .inl bf))]) rfl ?_
        refine ww_aload_n O dd_MO_extent_26 0 rfl ?_
        refine ww_get O ci_MO rfl 0 (by decide) lf_MO_35 rfl dd_MO_extent_27 0 rfl rfl ?_
        refine ww_if_neN O dd_MO_extent_30 (tgt := 48) rfl (by omega) (fun h30 => ?_) (fun h30 => ?_)
        · exfalso; omega
        · refine ww_aload_n O dd_MO_extent_33 0 rfl ?_
          refine ww_iload_n O dd_MO_extent_34 1 rfl ?_
          refine ww_iload_n O dd_MO_extent_35 2 rfl ?_
          refine ww_callV (q0 := 0) (ci := 3) O (cc_MO_extents _ _ _ m a1 a2 a3 a4 a5 a6 a7 a8 (nI 0) fi le pl wr pg pv sz ow vl bf f k (by omega) (by omega) (by omega)) lc_MO_49 lx_MO_extents_II_I rfl rfl rfl (by rw [hR]; decide) (by rw [hR]; decide) (by rw [hR]; decide) rfl (Nat.le_of_ble_eq_true rfl) dd_MO_extent_36 rfl [0, 1, 2, 3, 4, 5, 6, 7, 8] [] [0, 1, 2, 3, 4, 5, 6, 7, 8] rfl (by decide) rfl (by decide) (by decide) (ws' := [(m, .inr (3, [.int (nI 0), .ref a1, .ref a2, .ref a3, .ref a4, .ref a5, .ref a6, .ref a7, .ref a8, .int ((px_rx pl wr k 60 (60 * f) 0 0 fi).2.2), .int (nI (px_rx pl wr k 60 (60 * f) 0 0 fi).2.1)])), (a1, .inl (ww_g X 0, 240, .inl pl)), (a2, .inl (ww_g X 1, 240, .inl wr)), (a3, .inl (ww_g X 1, 240, .inl pg)), (a4, .inl (ww_g X 0, 240, .inl pv)), (a5, .inl (ww_g X 0, 4, .inl sz)), (a6, .inl (ww_g X 0, 80, .inl ow)), (a7, .inl (ww_g X 0, 80, .inl vl)), (a8, .inl (ww_g X 0, 60, .inl bf))]) rfl rfl (by decide) ?_
          refine ww_iload_n O dd_MO_extent_39 2 rfl ?_
          refine ww_icmp_gtN O dd_MO_extent_40 (tgt := 48) rfl (by omega) (by omega) (fun h40 => ?_) (fun h40 => ?_)
          · refine ww_aload_n O dd_MO_extent_48 0 rfl ?_
            refine ww_get O ci_MO rfl 0 (by decide) lf_MO_35 rfl dd_MO_extent_49 0 rfl rfl ?_
            refine ww_if_neN O dd_MO_extent_52 (tgt := 69) rfl (by omega) (fun h52 => ?_) (fun h52 => ?_)
            · exfalso; omega
            · refine ww_iload_n O dd_MO_extent_55 3 rfl ?_
              refine ww_if_ltN O dd_MO_extent_56 (tgt := 64) rfl (by omega) (fun h56 => ?_) (fun h56 => ?_)
              · exfalso; omega
              · refine ww_iload_n O dd_MO_extent_59 3 rfl ?_
                refine ww_iconst O dd_MO_extent_60 (v := nI 3) rfl ?_
                refine ww_icmp_leN O dd_MO_extent_61 (tgt := 69) rfl (by omega) (by omega) (fun h61 => ?_) (fun h61 => ?_)
                · refine ww_aload_n O dd_MO_extent_69 0 rfl ?_
                  refine ww_get O ci_MO rfl 0 (by decide) lf_MO_35 rfl dd_MO_extent_70 0 rfl rfl ?_
                  refine ww_if_leN O dd_MO_extent_73 (tgt := 78) rfl (by omega) (fun h73 => ?_) (fun h73 => ?_)
                  · rw [hqe] at F ⊢
                    refine ww_iload_n O dd_MO_extent_78 3 rfl ?_
                    refine ww_if_neN O dd_MO_extent_79 (tgt := 94) rfl (by omega) (fun h79 => ?_) (fun h79 => ?_)
                    · refine ww_iload_n O dd_MO_extent_94 3 rfl ?_
                      refine ww_iconst O dd_MO_extent_95 (v := nI 1) rfl ?_
                      refine ww_icmp_neN O dd_MO_extent_96 (tgt := 111) rfl (by omega) (by omega) (fun h96 => ?_) (fun h96 => ?_)
                      · exfalso; omega
                      · refine ww_aload_n O dd_MO_extent_99 0 rfl ?_
                        refine ww_get O ci_MO rfl 1 (by decide) lf_MO_7 rfl dd_MO_extent_100 0 rfl rfl ?_
                        refine ww_aload_n O dd_MO_extent_103 0 rfl ?_
                        refine ww_get O ci_MO rfl 9 (by decide) lf_MO_46 rfl dd_MO_extent_104 0 rfl rfl ?_
                        refine ww_iald O dd_MO_extent_107 1 rfl (by omega) (by decide) rfl ?_
                        refine ww_goto O dd_MO_extent_108 (tgt := 140) rfl ?_
                        exact F.i dd_MO_extent_140
                    · exfalso; omega
                  · exfalso; omega
                · exfalso; omega
          · exfalso; omega
      · exfalso; omega
set_option maxRecDepth 4000 in
theorem cc_MO_extent_2 (l : Launch) (D : va_G) (g : Nat → ClassId) (m : Nat) (a1 : Nat) (a2 : Nat) (a3 : Nat) (a4 : Nat) (a5 : Nat) (a6 : Nat) (a7 : Nat) (a8 : Nat) (cd : Int32) (fi : Int32) (le : Int32) (pl : Nat → Int32) (wr : Nat → Int32) (pg : Nat → Int32) (pv : Nat → Int32) (sz : Nat → Int32) (ow : Nat → Int32) (vl : Nat → Int32) (bf : Nat → Int32) (f : Nat) (k : Nat) (q : Nat) (hr : ∀ b, b < 240 → px_rg (pl b)) (hf : f < 4) (hk : k ≤ 60) (hT : k < (px_rx pl wr k 60 (60 * f) 0 0 fi).1) (hqe : (px_rx pl wr k 60 (60 * f) 0 0 fi).2.2 = nI q) (hq1 : 60 * f ≤ q) (hq2 : q < 60 * f + 60) : ww_ct l D g yy_MO_extent bb_MO_extent 4 (some .int) (ww_rm 3) [.ref m, .int (nI f), .int (nI k), .int (nI 2)] [(m, .inr (3, [.int cd, .ref a1, .ref a2, .ref a3, .ref a4, .ref a5, .ref a6, .ref a7, .ref a8, .int fi, .int le])), (a1, .inl (g 0, 240, .inl pl)), (a2, .inl (g 1, 240, .inl wr)), (a3, .inl (g 1, 240, .inl pg)), (a4, .inl (g 0, 240, .inl pv)), (a5, .inl (g 0, 4, .inl sz)), (a6, .inl (g 0, 80, .inl ow)), (a7, .inl (g 0, 80, .inl vl)), (a8, .inl (g 0, 60, .inl bf))] (some (.int (nI (px_rx pl wr k 60 (60 * f) 0 0 fi).2.1))) [(m, .inr (3, [.int (nI 0), .ref a1, .ref a2, .ref a3, .ref a4, .ref a5, .ref a6, .ref a7, .ref a8, .int ((px_rx pl wr k 60 (60 * f) 0 0 fi).2.2), .int (nI (px_rx pl wr k 60 (60 * f) 0 0 fi).2.1)])), (a1, .inl (g 0, 240, .inl pl)), (a2, .inl (g 1, 240, .inl wr)), (a3, .inl (g 1, 240, .inl pg)), (a4, .inl (g 0, 240, .inl pv)), (a5, .inl (g 0, 4, .inl sz)), (a6, .inl (g 0, 80, .inl ow)), (a7, .inl (g 0, 80, .inl vl)), (a8, .inl (g 0, 60, .inl bf))] := by
  refine ww_start (by decide +kernel) rfl rfl (Nat.le_of_ble_eq_true rfl) (L0 := [(0, .ref m), (1, .int (nI f)), (2, .int (nI k)), (3, .int (nI 2))]) rfl ?_
  intro X O hl hD hg hR hn F
  subst hl hD hg
  have hxn := px_rx_n (pl := pl) (wr := wr) (s := k) 60 (60 * f) 0 0 fi
  have hxl := px_rx_le (pl := pl) (wr := wr) (s := k) 60 (60 * f) 0 0 fi (by omega)
  refine ww_aload_n O dd_MO_extent_0 0 rfl ?_
  refine ww_iload_n O dd_MO_extent_1 1 rfl ?_
  refine ww_callS O (cc_MO_noFile _ _ _ (nI f) ) lc_MO_79 ls_MO_noFile_I_Z (by rw [hR]; decide) (by rw [hR]; decide) (by rw [hR]; decide) rfl (Nat.le_of_ble_eq_true rfl) dd_MO_extent_2 rfl [] [0, 1, 2, 3, 4, 5, 6, 7, 8] [0, 1, 2, 3, 4, 5, 6, 7, 8] rfl (by decide) rfl (by decide) (by decide) (ws' := [(m, .inr (3, [.int cd, .ref a1, .ref a2, .ref a3, .ref a4, .ref a5, .ref a6, .ref a7, .ref a8, .int fi, .int le])), (a1, .inl (ww_g X 0, 240, .inl pl)), (a2, .inl (ww_g X 1, 240, .inl wr)), (a3, .inl (ww_g X 1, 240, .inl pg)), (a4, .inl (ww_g X 0, 240, .inl pv)), (a5, .inl (ww_g X 0, 4, .inl sz)), (a6, .inl (ww_g X 0, 80, .inl ow)), (a7, .inl (ww_g X 0, 80, .inl vl)), (a8, .inl (ww_g X 0, 60, .inl bf))]) rfl rfl (by decide) ?_
  rw [px_nf_nI (k := 3) (by omega) (by decide)]
  refine ww_if_neB O dd_MO_extent_5 (tgt := 18) rfl (fun h5 => ?_) (fun h5 => ?_)
  · exact absurd h5 (by decide)
  · refine ww_iload_n O dd_MO_extent_8 2 rfl ?_
    refine ww_if_ltN O dd_MO_extent_9 (tgt := 18) rfl (by omega) (fun h9 => ?_) (fun h9 => ?_)
    · exfalso; omega
    · refine ww_iload_n O dd_MO_extent_12 2 rfl ?_
      refine ww_bipush O dd_MO_extent_13 (v := nI 60) rfl ?_
      refine ww_icmp_leN O dd_MO_extent_15 (tgt := 22) rfl (by omega) (by omega) (fun h15 => ?_) (fun h15 => ?_)
      · refine ww_iconst O dd_MO_extent_22 (v := nI 0) rfl ?_
        refine ww_put O ci_MO cy_MO cy_MO_ok cn_MO rfl 0 (by decide) lf_MO_35 rfl rfl (ty := .int) (by decide +kernel) dd_MO_extent_23 0 rfl rfl rfl (Nat.le_of_ble_eq_true rfl) (ws' := [(m, .inr (3, [.int (nI 0), .ref a1, .ref a2, .ref a3, .ref a4, .ref a5, .ref a6, .ref a7, .ref a8, .int fi, .int le])), (a1, .inl (ww_g X 0, 240, .inl pl)), (a2, .inl (ww_g X 1, 240, .inl wr)), (a3, .inl (ww_g X 1, 240, .inl pg)), (a4, .inl (ww_g X 0, 240, .inl pv)), (a5, .inl (ww_g X 0, 4, .inl sz)), (a6, .inl (ww_g X 0, 80, .inl ow)), (a7, .inl (ww_g X 0, 80, .inl vl)), (a8, .inl (ww_g X 0, 60, .inl bf))]) rfl ?_
        refine ww_aload_n O dd_MO_extent_26 0 rfl ?_
        refine ww_get O ci_MO rfl 0 (by decide) lf_MO_35 rfl dd_MO_extent_27 0 rfl rfl ?_
        refine ww_if_neN O dd_MO_extent_30 (tgt := 48) rfl (by omega) (fun h30 => ?_) (fun h30 => ?_)
        · exfalso; omega
        · refine ww_aload_n O dd_MO_extent_33 0 rfl ?_
          refine ww_iload_n O dd_MO_extent_34 1 rfl ?_
          refine ww_iload_n O dd_MO_extent_35 2 rfl ?_
          refine ww_callV (q0 := 0) (ci := 3) O (cc_MO_extents _ _ _ m a1 a2 a3 a4 a5 a6 a7 a8 (nI 0) fi le pl wr pg pv sz ow vl bf f k (by omega) (by omega) (by omega)) lc_MO_49 lx_MO_extents_II_I rfl rfl rfl (by rw [hR]; decide) (by rw [hR]; decide) (by rw [hR]; decide) rfl (Nat.le_of_ble_eq_true rfl) dd_MO_extent_36 rfl [0, 1, 2, 3, 4, 5, 6, 7, 8] [] [0, 1, 2, 3, 4, 5, 6, 7, 8] rfl (by decide) rfl (by decide) (by decide) (ws' := [(m, .inr (3, [.int (nI 0), .ref a1, .ref a2, .ref a3, .ref a4, .ref a5, .ref a6, .ref a7, .ref a8, .int ((px_rx pl wr k 60 (60 * f) 0 0 fi).2.2), .int (nI (px_rx pl wr k 60 (60 * f) 0 0 fi).2.1)])), (a1, .inl (ww_g X 0, 240, .inl pl)), (a2, .inl (ww_g X 1, 240, .inl wr)), (a3, .inl (ww_g X 1, 240, .inl pg)), (a4, .inl (ww_g X 0, 240, .inl pv)), (a5, .inl (ww_g X 0, 4, .inl sz)), (a6, .inl (ww_g X 0, 80, .inl ow)), (a7, .inl (ww_g X 0, 80, .inl vl)), (a8, .inl (ww_g X 0, 60, .inl bf))]) rfl rfl (by decide) ?_
          refine ww_iload_n O dd_MO_extent_39 2 rfl ?_
          refine ww_icmp_gtN O dd_MO_extent_40 (tgt := 48) rfl (by omega) (by omega) (fun h40 => ?_) (fun h40 => ?_)
          · refine ww_aload_n O dd_MO_extent_48 0 rfl ?_
            refine ww_get O ci_MO rfl 0 (by decide) lf_MO_35 rfl dd_MO_extent_49 0 rfl rfl ?_
            refine ww_if_neN O dd_MO_extent_52 (tgt := 69) rfl (by omega) (fun h52 => ?_) (fun h52 => ?_)
            · exfalso; omega
            · refine ww_iload_n O dd_MO_extent_55 3 rfl ?_
              refine ww_if_ltN O dd_MO_extent_56 (tgt := 64) rfl (by omega) (fun h56 => ?_) (fun h56 => ?_)
              · exfalso; omega
              · refine ww_iload_n O dd_MO_extent_59 3 rfl ?_
                refine ww_iconst O dd_MO_extent_60 (v := nI 3) rfl ?_
                refine ww_icmp_leN O dd_MO_extent_61 (tgt := 69) rfl (by omega) (by omega) (fun h61 => ?_) (fun h61 => ?_)
                · refine ww_aload_n O dd_MO_extent_69 0 rfl ?_
                  refine ww_get O ci_MO rfl 0 (by decide) lf_MO_35 rfl dd_MO_extent_70 0 rfl rfl ?_
                  refine ww_if_leN O dd_MO_extent_73 (tgt := 78) rfl (by omega) (fun h73 => ?_) (fun h73 => ?_)
                  · rw [hqe] at F ⊢
                    refine ww_iload_n O dd_MO_extent_78 3 rfl ?_
                    refine ww_if_neN O dd_MO_extent_79 (tgt := 94) rfl (by omega) (fun h79 => ?_) (fun h79 => ?_)
                    · refine ww_iload_n O dd_MO_extent_94 3 rfl ?_
                      refine ww_iconst O dd_MO_extent_95 (v := nI 1) rfl ?_
                      refine ww_icmp_neN O dd_MO_extent_96 (tgt := 111) rfl (by omega) (by omega) (fun h96 => ?_) (fun h96 => ?_)
                      · refine ww_iload_n O dd_MO_extent_111 3 rfl ?_
                        refine ww_iconst O dd_MO_extent_112 (v := nI 2) rfl ?_
                        refine ww_icmp_neN O dd_MO_extent_113 (tgt := 123) rfl (by omega) (by omega) (fun h113 => ?_) (fun h113 => ?_)
                        · exfalso; omega
                        · refine ww_aload_n O dd_MO_extent_116 0 rfl ?_
                          refine ww_get O ci_MO rfl 10 (by decide) lf_MO_39 rfl dd_MO_extent_117 0 rfl rfl ?_
                          refine ww_goto O dd_MO_extent_120 (tgt := 140) rfl ?_
                          exact F.i dd_MO_extent_140
                      · exfalso; omega
                    · exfalso; omega
                  · exfalso; omega
                · exfalso; omega
          · exfalso; omega
      · exfalso; omega
set_option maxRecDepth 4000 in
theorem cc_MO_extent_3 (l : Launch) (D : va_G) (g : Nat → ClassId) (m : Nat) (a1 : Nat) (a2 : Nat) (a3 : Nat) (a4 : Nat) (a5 : Nat) (a6 : Nat) (a7 : Nat) (a8 : Nat) (cd : Int32) (fi : Int32) (le : Int32) (pl : Nat → Int32) (wr : Nat → Int32) (pg : Nat → Int32) (pv : Nat → Int32) (sz : Nat → Int32) (ow : Nat → Int32) (vl : Nat → Int32) (bf : Nat → Int32) (f : Nat) (k : Nat) (q : Nat) (hr : ∀ b, b < 240 → px_rg (pl b)) (hf : f < 4) (hk : k ≤ 60) (hT : k < (px_rx pl wr k 60 (60 * f) 0 0 fi).1) (hqe : (px_rx pl wr k 60 (60 * f) 0 0 fi).2.2 = nI q) (hq1 : 60 * f ≤ q) (hq2 : q < 60 * f + 60) : ww_ct l D g yy_MO_extent bb_MO_extent 4 (some .int) (ww_rm 3) [.ref m, .int (nI f), .int (nI k), .int (nI 3)] [(m, .inr (3, [.int cd, .ref a1, .ref a2, .ref a3, .ref a4, .ref a5, .ref a6, .ref a7, .ref a8, .int fi, .int le])), (a1, .inl (g 0, 240, .inl pl)), (a2, .inl (g 1, 240, .inl wr)), (a3, .inl (g 1, 240, .inl pg)), (a4, .inl (g 0, 240, .inl pv)), (a5, .inl (g 0, 4, .inl sz)), (a6, .inl (g 0, 80, .inl ow)), (a7, .inl (g 0, 80, .inl vl)), (a8, .inl (g 0, 60, .inl bf))] (some (.int (if wr q = 0 then nI 1 else nI 0))) [(m, .inr (3, [.int (nI 0), .ref a1, .ref a2, .ref a3, .ref a4, .ref a5, .ref a6, .ref a7, .ref a8, .int ((px_rx pl wr k 60 (60 * f) 0 0 fi).2.2), .int (nI (px_rx pl wr k 60 (60 * f) 0 0 fi).2.1)])), (a1, .inl (g 0, 240, .inl pl)), (a2, .inl (g 1, 240, .inl wr)), (a3, .inl (g 1, 240, .inl pg)), (a4, .inl (g 0, 240, .inl pv)), (a5, .inl (g 0, 4, .inl sz)), (a6, .inl (g 0, 80, .inl ow)), (a7, .inl (g 0, 80, .inl vl)), (a8, .inl (g 0, 60, .inl bf))] := by
  refine ww_start (by decide +kernel) rfl rfl (Nat.le_of_ble_eq_true rfl) (L0 := [(0, .ref m), (1, .int (nI f)), (2, .int (nI k)), (3, .int (nI 3))]) rfl ?_
  intro X O hl hD hg hR hn F
  subst hl hD hg
  have hxn := px_rx_n (pl := pl) (wr := wr) (s := k) 60 (60 * f) 0 0 fi
  have hxl := px_rx_le (pl := pl) (wr := wr) (s := k) 60 (60 * f) 0 0 fi (by omega)
  refine ww_aload_n O dd_MO_extent_0 0 rfl ?_
  refine ww_iload_n O dd_MO_extent_1 1 rfl ?_
  refine ww_callS O (cc_MO_noFile _ _ _ (nI f) ) lc_MO_79 ls_MO_noFile_I_Z (by rw [hR]; decide) (by rw [hR]; decide) (by rw [hR]; decide) rfl (Nat.le_of_ble_eq_true rfl) dd_MO_extent_2 rfl [] [0, 1, 2, 3, 4, 5, 6, 7, 8] [0, 1, 2, 3, 4, 5, 6, 7, 8] rfl (by decide) rfl (by decide) (by decide) (ws' := [(m, .inr (3, [.int cd, .ref a1, .ref a2, .ref a3, .ref a4, .ref a5, .ref a6, .ref a7, .ref a8, .int fi, .int le])), (a1, .inl (ww_g X 0, 240, .inl pl)), (a2, .inl (ww_g X 1, 240, .inl wr)), (a3, .inl (ww_g X 1, 240, .inl pg)), (a4, .inl (ww_g X 0, 240, .inl pv)), (a5, .inl (ww_g X 0, 4, .inl sz)), (a6, .inl (ww_g X 0, 80, .inl ow)), (a7, .inl (ww_g X 0, 80, .inl vl)), (a8, .inl (ww_g X 0, 60, .inl bf))]) rfl rfl (by decide) ?_
  rw [px_nf_nI (k := 3) (by omega) (by decide)]
  refine ww_if_neB O dd_MO_extent_5 (tgt := 18) rfl (fun h5 => ?_) (fun h5 => ?_)
  · exact absurd h5 (by decide)
  · refine ww_iload_n O dd_MO_extent_8 2 rfl ?_
    refine ww_if_ltN O dd_MO_extent_9 (tgt := 18) rfl (by omega) (fun h9 => ?_) (fun h9 => ?_)
    · exfalso; omega
    · refine ww_iload_n O dd_MO_extent_12 2 rfl ?_
      refine ww_bipush O dd_MO_extent_13 (v := nI 60) rfl ?_
      refine ww_icmp_leN O dd_MO_extent_15 (tgt := 22) rfl (by omega) (by omega) (fun h15 => ?_) (fun h15 => ?_)
      · refine ww_iconst O dd_MO_extent_22 (v := nI 0) rfl ?_
        refine ww_put O ci_MO cy_MO cy_MO_ok cn_MO rfl 0 (by decide) lf_MO_35 rfl rfl (ty := .int) (by decide +kernel) dd_MO_extent_23 0 rfl rfl rfl (Nat.le_of_ble_eq_true rfl) (ws' := [(m, .inr (3, [.int (nI 0), .ref a1, .ref a2, .ref a3, .ref a4, .ref a5, .ref a6, .ref a7, .ref a8, .int fi, .int le])), (a1, .inl (ww_g X 0, 240, .inl pl)), (a2, .inl (ww_g X 1, 240, .inl wr)), (a3, .inl (ww_g X 1, 240, .inl pg)), (a4, .inl (ww_g X 0, 240, .inl pv)), (a5, .inl (ww_g X 0, 4, .inl sz)), (a6, .inl (ww_g X 0, 80, .inl ow)), (a7, .inl (ww_g X 0, 80, .inl vl)), (a8, .inl (ww_g X 0, 60, .inl bf))]) rfl ?_
        refine ww_aload_n O dd_MO_extent_26 0 rfl ?_
        refine ww_get O ci_MO rfl 0 (by decide) lf_MO_35 rfl dd_MO_extent_27 0 rfl rfl ?_
        refine ww_if_neN O dd_MO_extent_30 (tgt := 48) rfl (by omega) (fun h30 => ?_) (fun h30 => ?_)
        · exfalso; omega
        · refine ww_aload_n O dd_MO_extent_33 0 rfl ?_
          refine ww_iload_n O dd_MO_extent_34 1 rfl ?_
          refine ww_iload_n O dd_MO_extent_35 2 rfl ?_
          refine ww_callV (q0 := 0) (ci := 3) O (cc_MO_extents _ _ _ m a1 a2 a3 a4 a5 a6 a7 a8 (nI 0) fi le pl wr pg pv sz ow vl bf f k (by omega) (by omega) (by omega)) lc_MO_49 lx_MO_extents_II_I rfl rfl rfl (by rw [hR]; decide) (by rw [hR]; decide) (by rw [hR]; decide) rfl (Nat.le_of_ble_eq_true rfl) dd_MO_extent_36 rfl [0, 1, 2, 3, 4, 5, 6, 7, 8] [] [0, 1, 2, 3, 4, 5, 6, 7, 8] rfl (by decide) rfl (by decide) (by decide) (ws' := [(m, .inr (3, [.int (nI 0), .ref a1, .ref a2, .ref a3, .ref a4, .ref a5, .ref a6, .ref a7, .ref a8, .int ((px_rx pl wr k 60 (60 * f) 0 0 fi).2.2), .int (nI (px_rx pl wr k 60 (60 * f) 0 0 fi).2.1)])), (a1, .inl (ww_g X 0, 240, .inl pl)), (a2, .inl (ww_g X 1, 240, .inl wr)), (a3, .inl (ww_g X 1, 240, .inl pg)), (a4, .inl (ww_g X 0, 240, .inl pv)), (a5, .inl (ww_g X 0, 4, .inl sz)), (a6, .inl (ww_g X 0, 80, .inl ow)), (a7, .inl (ww_g X 0, 80, .inl vl)), (a8, .inl (ww_g X 0, 60, .inl bf))]) rfl rfl (by decide) ?_
          refine ww_iload_n O dd_MO_extent_39 2 rfl ?_
          refine ww_icmp_gtN O dd_MO_extent_40 (tgt := 48) rfl (by omega) (by omega) (fun h40 => ?_) (fun h40 => ?_)
          · refine ww_aload_n O dd_MO_extent_48 0 rfl ?_
            refine ww_get O ci_MO rfl 0 (by decide) lf_MO_35 rfl dd_MO_extent_49 0 rfl rfl ?_
            refine ww_if_neN O dd_MO_extent_52 (tgt := 69) rfl (by omega) (fun h52 => ?_) (fun h52 => ?_)
            · exfalso; omega
            · refine ww_iload_n O dd_MO_extent_55 3 rfl ?_
              refine ww_if_ltN O dd_MO_extent_56 (tgt := 64) rfl (by omega) (fun h56 => ?_) (fun h56 => ?_)
              · exfalso; omega
              · refine ww_iload_n O dd_MO_extent_59 3 rfl ?_
                refine ww_iconst O dd_MO_extent_60 (v := nI 3) rfl ?_
                refine ww_icmp_leN O dd_MO_extent_61 (tgt := 69) rfl (by omega) (by omega) (fun h61 => ?_) (fun h61 => ?_)
                · refine ww_aload_n O dd_MO_extent_69 0 rfl ?_
                  refine ww_get O ci_MO rfl 0 (by decide) lf_MO_35 rfl dd_MO_extent_70 0 rfl rfl ?_
                  refine ww_if_leN O dd_MO_extent_73 (tgt := 78) rfl (by omega) (fun h73 => ?_) (fun h73 => ?_)
                  · rw [hqe] at F ⊢
                    refine ww_iload_n O dd_MO_extent_78 3 rfl ?_
                    refine ww_if_neN O dd_MO_extent_79 (tgt := 94) rfl (by omega) (fun h79 => ?_) (fun h79 => ?_)
                    · refine ww_iload_n O dd_MO_extent_94 3 rfl ?_
                      refine ww_iconst O dd_MO_extent_95 (v := nI 1) rfl ?_
                      refine ww_icmp_neN O dd_MO_extent_96 (tgt := 111) rfl (by omega) (by omega) (fun h96 => ?_) (fun h96 => ?_)
                      · refine ww_iload_n O dd_MO_extent_111 3 rfl ?_
                        refine ww_iconst O dd_MO_extent_112 (v := nI 2) rfl ?_
                        refine ww_icmp_neN O dd_MO_extent_113 (tgt := 123) rfl (by omega) (by omega) (fun h113 => ?_) (fun h113 => ?_)
                        · refine ww_aload_n O dd_MO_extent_123 0 rfl ?_
                          refine ww_get O ci_MO rfl 2 (by decide) lf_MO_13 rfl dd_MO_extent_124 0 rfl rfl ?_
                          refine ww_aload_n O dd_MO_extent_127 0 rfl ?_
                          refine ww_get O ci_MO rfl 9 (by decide) lf_MO_46 rfl dd_MO_extent_128 0 rfl rfl ?_
                          refine ww_zald O dd_MO_extent_131 2 rfl (by omega) (by decide) rfl ?_
                          refine ww_if_eq O dd_MO_extent_132 (tgt := 139) rfl (fun h132 => ?_) (fun h132 => ?_)
                          · refine ww_iconst O dd_MO_extent_139 (v := nI 1) rfl ?_
                            rw [if_pos h132] at F
                            exact F.i dd_MO_extent_140
                          · refine ww_iconst O dd_MO_extent_135 (v := nI 0) rfl ?_
                            refine ww_goto O dd_MO_extent_136 (tgt := 140) rfl ?_
                            rw [if_neg h132] at F
                            exact F.i dd_MO_extent_140
                        · exfalso; omega
                      · exfalso; omega
                    · exfalso; omega
                  · exfalso; omega
                · exfalso; omega
          · exfalso; omega
      · exfalso; omega
