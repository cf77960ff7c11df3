theorem lc_MO_79 : ww_site "DelayedExtentsModel" 79 yy_MO_noFile bb_MO_noFile 1 (some .boolean) 1 := ⟨List.mem_filter.mpr ⟨List.mem_of_getElem? (i := 550) (by decide +kernel), by decide +kernel⟩, List.mem_filter.mpr ⟨List.mem_of_getElem? (i := 548) (by decide +kernel), by decide +kernel⟩, List.mem_filter.mpr ⟨List.mem_of_getElem? (i := 30) (by decide +kernel), by decide +kernel⟩, by decide, by decide, by decide +kernel⟩
theorem ls_MO_noFile_I_Z : Cond.static yy_MO_noFile ∈ lw_good := List.mem_filter.mpr ⟨List.mem_of_getElem? (i := 549) (by decide +kernel), by decide +kernel⟩
theorem lc_MO_82 : ww_site "DelayedExtentsModel" 82 yy_MO_noBlock bb_MO_noBlock 1 (some .boolean) 1 := ⟨List.mem_filter.mpr ⟨List.mem_of_getElem? (i := 553) (by decide +kernel), by decide +kernel⟩, List.mem_filter.mpr ⟨List.mem_of_getElem? (i := 551) (by decide +kernel), by decide +kernel⟩, List.mem_filter.mpr ⟨List.mem_of_getElem? (i := 30) (by decide +kernel), by decide +kernel⟩, by decide, by decide, by decide +kernel⟩
theorem ls_MO_noBlock_I_Z : Cond.static yy_MO_noBlock ∈ lw_good := List.mem_filter.mpr ⟨List.mem_of_getElem? (i := 552) (by decide +kernel), by decide +kernel⟩
theorem lf_MO_29 : Cond.fieldLink "DelayedExtentsModel" 29 "DelayedExtentsModel" "values" "[I" ∈ lw_good := List.mem_filter.mpr ⟨List.mem_of_getElem? (i := 509) (by decide +kernel), by decide +kernel⟩
theorem lf_MO_20 : Cond.fieldLink "DelayedExtentsModel" 20 "DelayedExtentsModel" "pages" "[I" ∈ lw_good := List.mem_filter.mpr ⟨List.mem_of_getElem? (i := 506) (by decide +kernel), by decide +kernel⟩
theorem lc_MO_85 : ww_site "DelayedExtentsModel" 85 yy_MO_allFree bb_MO_allFree 3 (some .int) 0 := ⟨List.mem_filter.mpr ⟨List.mem_of_getElem? (i := 557) (by decide +kernel), by decide +kernel⟩, List.mem_filter.mpr ⟨List.mem_of_getElem? (i := 554) (by decide +kernel), by decide +kernel⟩, List.mem_filter.mpr ⟨List.mem_of_getElem? (i := 30) (by decide +kernel), by decide +kernel⟩, by decide, by decide, by decide +kernel⟩
theorem lx_MO_allFree__I : ww_virt yy_MO_allFree := ⟨List.mem_filter.mpr ⟨List.mem_of_getElem? (i := 556) (by decide +kernel), by decide +kernel⟩, List.mem_filter.mpr ⟨List.mem_of_getElem? (i := 12) (by decide +kernel), by decide +kernel⟩⟩
theorem lc_MO_89 : ww_site "DelayedExtentsModel" 89 yy_MO_allReserved bb_MO_allReserved 3 (some .int) 0 := ⟨List.mem_filter.mpr ⟨List.mem_of_getElem? (i := 576) (by decide +kernel), by decide +kernel⟩, List.mem_filter.mpr ⟨List.mem_of_getElem? (i := 573) (by decide +kernel), by decide +kernel⟩, List.mem_filter.mpr ⟨List.mem_of_getElem? (i := 30) (by decide +kernel), by decide +kernel⟩, by decide, by decide, by decide +kernel⟩
theorem lx_MO_allReserved__I : ww_virt yy_MO_allReserved := ⟨List.mem_filter.mpr ⟨List.mem_of_getElem? (i := 575) (by decide +kernel), by decide +kernel⟩, List.mem_filter.mpr ⟨List.mem_of_getElem? (i := 16) (by decide +kernel), by decide +kernel⟩⟩
theorem lc_MO_100 : ww_site "DelayedExtentsModel" 100 yy_MO_empty bb_MO_empty 5 (some .int) 2 := ⟨List.mem_filter.mpr ⟨List.mem_of_getElem? (i := 620) (by decide +kernel), by decide +kernel⟩, List.mem_filter.mpr ⟨List.mem_of_getElem? (i := 617) (by decide +kernel), by decide +kernel⟩, List.mem_filter.mpr ⟨List.mem_of_getElem? (i := 30) (by decide +kernel), by decide +kernel⟩, by decide, by decide, by decide +kernel⟩
theorem lx_MO_empty_II_I : ww_virt yy_MO_empty := ⟨List.mem_filter.mpr ⟨List.mem_of_getElem? (i := 619) (by decide +kernel), by decide +kernel⟩, List.mem_filter.mpr ⟨List.mem_of_getElem? (i := 24) (by decide +kernel), by decide +kernel⟩⟩
theorem lf_MO_23 : Cond.fieldLink "DelayedExtentsModel" 23 "DelayedExtentsModel" "sizes" "[I" ∈ lw_good := List.mem_filter.mpr ⟨List.mem_of_getElem? (i := 507) (by decide +kernel), by decide +kernel⟩
set_option maxRecDepth 4000 in
theorem cc_MO_read_bad (l : Launch) (D : va_G) (g : Nat → ClassId) (m : Nat) (a1 : Nat) (a2 : Nat) (a3 : Nat) (a4 : Nat) (a5 : Nat) (a6 : Nat) (a7 : Nat) (a8 : Nat) (cd : Int32) (fi : Int32) (le : Int32) (pl : Nat → Int32) (wr : Nat → Int32) (pg : Nat → Int32) (pv : Nat → Int32) (sz : Nat → Int32) (ow : Nat → Int32) (vl : Nat → Int32) (bf : Nat → Int32) (x : Int32) (y : Int32) (hbad : px_nf x 3 = true ∨ px_nf y 59 = true) : ww_ct l D g yy_MO_read bb_MO_read 4 (some .int) (ww_rm 2) [.ref m, .int x, .int y] [(m, .inr (3, [.int cd, .ref a1, .ref a2, .ref a3, .ref a4, .ref a5, .ref a6, .ref a7, .ref a8, .int fi, .int le])), (a1, .inl (g 0, 240, .inl pl)), (a2, .inl (g 1, 240, .inl wr)), (a3, .inl (g 1, 240, .inl pg)), (a4, .inl (g 0, 240, .inl pv)), (a5, .inl (g 0, 4, .inl sz)), (a6, .inl (g 0, 80, .inl ow)), (a7, .inl (g 0, 80, .inl vl)), (a8, .inl (g 0, 60, .inl bf))] (some (.int (nI 0))) [(m, .inr (3, [.int (nI 1), .ref a1, .ref a2, .ref a3, .ref a4, .ref a5, .ref a6, .ref a7, .ref a8, .int fi, .int le])), (a1, .inl (g 0, 240, .inl pl)), (a2, .inl (g 1, 240, .inl wr)), (a3, .inl (g 1, 240, .inl pg)), (a4, .inl (g 0, 240, .inl pv)), (a5, .inl (g 0, 4, .inl sz)), (a6, .inl (g 0, 80, .inl ow)), (a7, .inl (g 0, 80, .inl vl)), (a8, .inl (g 0, 60, .inl bf))] := by
  refine ww_start (by decide +kernel) rfl rfl (Nat.le_of_ble_eq_true rfl) (L0 := [(0, .ref m), (1, .int x), (2, .int y)]) rfl ?_
  intro X O hl hD hg hR hn F
  subst hl hD hg
  refine ww_aload_n O dd_MO_read_0 0 rfl ?_
  refine ww_iload_n O dd_MO_read_1 1 rfl ?_
  refine ww_callS O (cc_MO_noFile _ _ _ x ) lc_MO_79 ls_MO_noFile_I_Z (by rw [hR]; decide) (by rw [hR]; decide) (by rw [hR]; decide) rfl (Nat.le_of_ble_eq_true rfl) dd_MO_read_2 rfl [] [0, 1, 2, 3, 4, 5, 6, 7, 8] [0, 1, 2, 3, 4, 5, 6, 7, 8] rfl (by decide) rfl (by decide) (by decide) (ws' := [(m, .inr (3, [.int cd, .ref a1, .ref a2, .ref a3, .ref a4, .ref a5, .ref a6, .ref a7, .ref a8, .int fi, .int le])), (a1, .inl (ww_g X 0, 240, .inl pl)), (a2, .inl (ww_g X 1, 240, .inl wr)), (a3, .inl (ww_g X 1, 240, .inl pg)), (a4, .inl (ww_g X 0, 240, .inl pv)), (a5, .inl (ww_g X 0, 4, .inl sz)), (a6, .inl (ww_g X 0, 80, .inl ow)), (a7, .inl (ww_g X 0, 80, .inl vl)), (a8, .inl (ww_g X 0, 60, .inl bf))]) rfl rfl (by decide) ?_
  refine ww_if_neB O dd_MO_read_5 (tgt := 15) rfl (fun h5 => ?_) (fun h5 => ?_)
  · refine ww_iconst O dd_MO_read_15 (v := nI 1) rfl ?_
    refine ww_goto O dd_MO_read_16 (tgt := 20) rfl ?_
    refine ww_put O ci_MO cy_MO cy_MO_ok cn_MO rfl 0 (by decide) lf_MO_35 rfl rfl (ty := .int) (by decide +kernel) dd_MO_read_20 0 rfl rfl rfl (Nat.le_of_ble_eq_true rfl) (ws' := [(m, .inr (3, [.int (nI 1), .ref a1, .ref a2, .ref a3, .ref a4, .ref a5, .ref a6, .ref a7, .ref a8, .int fi, .int le])), (a1, .inl (ww_g X 0, 240, .inl pl)), (a2, .inl (ww_g X 1, 240, .inl wr)), (a3, .inl (ww_g X 1, 240, .inl pg)), (a4, .inl (ww_g X 0, 240, .inl pv)), (a5, .inl (ww_g X 0, 4, .inl sz)), (a6, .inl (ww_g X 0, 80, .inl ow)), (a7, .inl (ww_g X 0, 80, .inl vl)), (a8, .inl (ww_g X 0, 60, .inl bf))]) rfl ?_
    refine ww_aload_n O dd_MO_read_23 0 rfl ?_
    refine ww_get O ci_MO rfl 0 (by decide) lf_MO_35 rfl dd_MO_read_24 0 rfl rfl ?_
    refine ww_if_leN O dd_MO_read_27 (tgt := 32) rfl (by omega) (fun h27 => ?_) (fun h27 => ?_)
    · exfalso; omega
    · refine ww_iconst O dd_MO_read_30 (v := nI 0) rfl ?_
      exact F.i dd_MO_read_31
  · refine ww_iload_n O dd_MO_read_8 2 rfl ?_
    refine ww_callS O (cc_MO_noBlock _ _ _ y ) lc_MO_82 ls_MO_noBlock_I_Z (by rw [hR]; decide) (by rw [hR]; decide) (by rw [hR]; decide) rfl (Nat.le_of_ble_eq_true rfl) dd_MO_read_9 rfl [] [0, 1, 2, 3, 4, 5, 6, 7, 8] [0, 1, 2, 3, 4, 5, 6, 7, 8] rfl (by decide) rfl (by decide) (by decide) (ws' := [(m, .inr (3, [.int cd, .ref a1, .ref a2, .ref a3, .ref a4, .ref a5, .ref a6, .ref a7, .ref a8, .int fi, .int le])), (a1, .inl (ww_g X 0, 240, .inl pl)), (a2, .inl (ww_g X 1, 240, .inl wr)), (a3, .inl (ww_g X 1, 240, .inl pg)), (a4, .inl (ww_g X 0, 240, .inl pv)), (a5, .inl (ww_g X 0, 4, .inl sz)), (a6, .inl (ww_g X 0, 80, .inl ow)), (a7, .inl (ww_g X 0, 80, .inl vl)), (a8, .inl (ww_g X 0, 60, .inl bf))]) rfl rfl (by decide) ?_
    refine ww_if_eqB O dd_MO_read_12 (tgt := 19) rfl (fun h12 => ?_) (fun h12 => ?_)
    · exact absurd (hbad.elim (fun q => by rw [q] at h5; exact absurd h5 (by decide)) (fun q => by rw [q] at h12; exact absurd h12 (by decide))) id
    · refine ww_iconst O dd_MO_read_15 (v := nI 1) rfl ?_
      refine ww_goto O dd_MO_read_16 (tgt := 20) rfl ?_
      refine ww_put O ci_MO cy_MO cy_MO_ok cn_MO rfl 0 (by decide) lf_MO_35 rfl rfl (ty := .int) (by decide +kernel) dd_MO_read_20 0 rfl rfl rfl (Nat.le_of_ble_eq_true rfl) (ws' := [(m, .inr (3, [.int (nI 1), .ref a1, .ref a2, .ref a3, .ref a4, .ref a5, .ref a6, .ref a7, .ref a8, .int fi, .int le])), (a1, .inl (ww_g X 0, 240, .inl pl)), (a2, .inl (ww_g X 1, 240, .inl wr)), (a3, .inl (ww_g X 1, 240, .inl pg)), (a4, .inl (ww_g X 0, 240, .inl pv)), (a5, .inl (ww_g X 0, 4, .inl sz)), (a6, .inl (ww_g X 0, 80, .inl ow)), (a7, .inl (ww_g X 0, 80, .inl vl)), (a8, .inl (ww_g X 0, 60, .inl bf))]) rfl ?_
      refine ww_aload_n O dd_MO_read_23 0 rfl ?_
      refine ww_get O ci_MO rfl 0 (by decide) lf_MO_35 rfl dd_MO_read_24 0 rfl rfl ?_
      refine ww_if_leN O dd_MO_read_27 (tgt := 32) rfl (by omega) (fun h27 => ?_) (fun h27 => ?_)
      · exfalso; omega
      · refine ww_iconst O dd_MO_read_30 (v := nI 0) rfl ?_
        exact F.i dd_MO_read_31
set_option maxRecDepth 4000 in
theorem cc_MO_read (l : Launch) (D : va_G) (g : Nat → ClassId) (m : Nat) (a1 : Nat) (a2 : Nat) (a3 : Nat) (a4 : Nat) (a5 : Nat) (a6 : Nat) (a7 : Nat) (a8 : Nat) (cd : Int32) (fi : Int32) (le : Int32) (pl : Nat → Int32) (wr : Nat → Int32) (pg : Nat → Int32) (pv : Nat → Int32) (sz : Nat → Int32) (ow : Nat → Int32) (vl : Nat → Int32) (bf : Nat → Int32) (f : Nat) (b : Nat) (hr : ∀ b, b < 240 → px_rg (pl b)) (hf : f < 4) (hb : b < 60) : ww_ct l D g yy_MO_read bb_MO_read 4 (some .int) (ww_rm 2) [.ref m, .int (nI f), .int (nI b)] [(m, .inr (3, [.int cd, .ref a1, .ref a2, .ref a3, .ref a4, .ref a5, .ref a6, .ref a7, .ref a8, .int fi, .int le])), (a1, .inl (g 0, 240, .inl pl)), (a2, .inl (g 1, 240, .inl wr)), (a3, .inl (g 1, 240, .inl pg)), (a4, .inl (g 0, 240, .inl pv)), (a5, .inl (g 0, 4, .inl sz)), (a6, .inl (g 0, 80, .inl ow)), (a7, .inl (g 0, 80, .inl vl)), (a8, .inl (g 0, 60, .inl bf))] (some (.int (px_read pl wr pg pv vl (60 * f + b)))) [(m, .inr (3, [.int (nI 0), .ref a1, .ref a2, .ref a3, .ref a4, .ref a5, .ref a6, .ref a7, .ref a8, .int fi, .int le])), (a1, .inl (g 0, 240, .inl pl)), (a2, .inl (g 1, 240, .inl wr)), (a3, .inl (g 1, 240, .inl pg)), (a4, .inl (g 0, 240, .inl pv)), (a5, .inl (g 0, 4, .inl sz)), (a6, .inl (g 0, 80, .inl ow)), (a7, .inl (g 0, 80, .inl vl)), (a8, .inl (g 0, 60, .inl bf))] := by
  refine ww_start (by decide +kernel) rfl rfl (Nat.le_of_ble_eq_true rfl) (L0 := [(0, .ref m), (1, .int (nI f)), (2, .int (nI b))]) rfl ?_
  intro X O hl hD hg hR hn F
  subst hl hD hg
  refine ww_aload_n O dd_MO_read_0 0 rfl ?_
  refine ww_iload_n O dd_MO_read_1 1 rfl ?_
  refine ww_callS O (cc_MO_noFile _ _ _ (nI f) ) lc_MO_79 ls_MO_noFile_I_Z (by rw [hR]; decide) (by rw [hR]; decide) (by rw [hR]; decide) rfl (Nat.le_of_ble_eq_true rfl) dd_MO_read_2 rfl [] [0, 1, 2, 3, 4, 5, 6, 7, 8] [0, 1, 2, 3, 4, 5, 6, 7, 8] rfl (by decide) rfl (by decide) (by decide) (ws' := [(m, .inr (3, [.int cd, .ref a1, .ref a2, .ref a3, .ref a4, .ref a5, .ref a6, .ref a7, .ref a8, .int fi, .int le])), (a1, .inl (ww_g X 0, 240, .inl pl)), (a2, .inl (ww_g X 1, 240, .inl wr)), (a3, .inl (ww_g X 1, 240, .inl pg)), (a4, .inl (ww_g X 0, 240, .inl pv)), (a5, .inl (ww_g X 0, 4, .inl sz)), (a6, .inl (ww_g X 0, 80, .inl ow)), (a7, .inl (ww_g X 0, 80, .inl vl)), (a8, .inl (ww_g X 0, 60, .inl bf))]) rfl rfl (by decide) ?_
  rw [px_nf_nI (k := 3) (by omega) (by decide)]
  refine ww_if_neB O dd_MO_read_5 (tgt := 15) rfl (fun h5 => ?_) (fun h5 => ?_)
  · exact absurd h5 (by decide)
  · refine ww_iload_n O dd_MO_read_8 2 rfl ?_
    refine ww_callS O (cc_MO_noBlock _ _ _ (nI b) ) lc_MO_82 ls_MO_noBlock_I_Z (by rw [hR]; decide) (by rw [hR]; decide) (by rw [hR]; decide) rfl (Nat.le_of_ble_eq_true rfl) dd_MO_read_9 rfl [] [0, 1, 2, 3, 4, 5, 6, 7, 8] [0, 1, 2, 3, 4, 5, 6, 7, 8] rfl (by decide) rfl (by decide) (by decide) (ws' := [(m, .inr (3, [.int cd, .ref a1, .ref a2, .ref a3, .ref a4, .ref a5, .ref a6, .ref a7, .ref a8, .int fi, .int le])), (a1, .inl (ww_g X 0, 240, .inl pl)), (a2, .inl (ww_g X 1, 240, .inl wr)), (a3, .inl (ww_g X 1, 240, .inl pg)), (a4, .inl (ww_g X 0, 240, .inl pv)), (a5, .inl (ww_g X 0, 4, .inl sz)), (a6, .inl (ww_g X 0, 80, .inl ow)), (a7, .inl (ww_g X 0, 80, .inl vl)), (a8, .inl (ww_g X 0, 60, .inl bf))]) rfl rfl (by decide) ?_
    rw [px_nf_nI (k := 59) (by omega) (by decide)]
    refine ww_if_eqB O dd_MO_read_12 (tgt := 19) rfl (fun h12 => ?_) (fun h12 => ?_)
    · refine ww_iconst O dd_MO_read_19 (v := nI 0) rfl ?_
      refine ww_put O ci_MO cy_MO cy_MO_ok cn_MO rfl 0 (by decide) lf_MO_35 rfl rfl (ty := .int) (by decide +kernel) dd_MO_read_20 0 rfl rfl rfl (Nat.le_of_ble_eq_true rfl) (ws' := [(m, .inr (3, [.int (nI 0), .ref a1, .ref a2, .ref a3, .ref a4, .ref a5, .ref a6, .ref a7, .ref a8, .int fi, .int le])), (a1, .inl (ww_g X 0, 240, .inl pl)), (a2, .inl (ww_g X 1, 240, .inl wr)), (a3, .inl (ww_g X 1, 240, .inl pg)), (a4, .inl (ww_g X 0, 240, .inl pv)), (a5, .inl (ww_g X 0, 4, .inl sz)), (a6, .inl (ww_g X 0, 80, .inl ow)), (a7, .inl (ww_g X 0, 80, .inl vl)), (a8, .inl (ww_g X 0, 60, .inl bf))]) rfl ?_
      refine ww_aload_n O dd_MO_read_23 0 rfl ?_
      refine ww_get O ci_MO rfl 0 (by decide) lf_MO_35 rfl dd_MO_read_24 0 rfl rfl ?_
      refine ww_if_leN O dd_MO_read_27 (tgt := 32) rfl (by omega) (fun h27 => ?_) (fun h27 => ?_)
      · refine ww_bipush O dd_MO_read_32 (v := nI 60) rfl ?_
        refine ww_iload_n O dd_MO_read_34 1 rfl ?_
        refine ww_imul O dd_MO_read_35 (v := nI (60 * f)) (pk_mul _ _) ?_
        refine ww_iload_n O dd_MO_read_36 2 rfl ?_
        refine ww_iadd O dd_MO_read_37 (v := nI ((60 * f) + b)) (nI_add _ _) ?_
        refine ww_istore_n O dd_MO_read_38 (by rw [hn]; decide) rfl (L' := [(0, .ref m), (1, .int (nI f)), (2, .int (nI b)), (3, .int (nI ((60 * f) + b)))]) rfl ?_
        refine ww_aload_n O dd_MO_read_39 0 rfl ?_
        refine ww_get O ci_MO rfl 3 (by decide) lf_MO_17 rfl dd_MO_read_40 0 rfl rfl ?_
        refine ww_iload_n O dd_MO_read_43 3 rfl ?_
        refine ww_zald O dd_MO_read_44 3 rfl (by omega) (by decide) rfl ?_
        refine ww_if_eq O dd_MO_read_45 (tgt := 57) rfl (fun h45 => ?_) (fun h45 => ?_)
        · refine ww_aload_n O dd_MO_read_57 0 rfl ?_
          refine ww_get O ci_MO rfl 1 (by decide) lf_MO_7 rfl dd_MO_read_58 0 rfl rfl ?_
          refine ww_iload_n O dd_MO_read_61 3 rfl ?_
          refine ww_iald O dd_MO_read_62 1 rfl (by omega) (by decide) rfl ?_
          refine ww_if_lt O dd_MO_read_63 (tgt := 89) rfl (fun h63 => ?_) (fun h63 => ?_)
          · refine ww_iconst O dd_MO_read_89 (v := nI 0) rfl ?_
            rw [show px_read pl wr pg pv vl (60 * f + b) = nI 0 from by unfold px_read; rw [if_pos h45, if_pos (Or.inl ((hr (60 * f + b) (by omega)).lt h63))]; rfl] at F
            exact F.i dd_MO_read_90
          · refine ww_aload_n O dd_MO_read_66 0 rfl ?_
            refine ww_get O ci_MO rfl 2 (by decide) lf_MO_13 rfl dd_MO_read_67 0 rfl rfl ?_
            refine ww_iload_n O dd_MO_read_70 3 rfl ?_
            refine ww_zald O dd_MO_read_71 2 rfl (by omega) (by decide) rfl ?_
            refine ww_if_eq O dd_MO_read_72 (tgt := 89) rfl (fun h72 => ?_) (fun h72 => ?_)
            · refine ww_iconst O dd_MO_read_89 (v := nI 0) rfl ?_
              rw [show px_read pl wr pg pv vl (60 * f + b) = nI 0 from by unfold px_read; rw [if_pos h45, if_pos (Or.inr h72)]; rfl] at F
              exact F.i dd_MO_read_90
            · refine ww_aload_n O dd_MO_read_75 0 rfl ?_
              refine ww_get O ci_MO rfl 7 (by decide) lf_MO_29 rfl dd_MO_read_76 0 rfl rfl ?_
              refine ww_aload_n O dd_MO_read_79 0 rfl ?_
              refine ww_get O ci_MO rfl 1 (by decide) lf_MO_7 rfl dd_MO_read_80 0 rfl rfl ?_
              refine ww_iload_n O dd_MO_read_83 3 rfl ?_
              refine ww_iald O dd_MO_read_84 1 rfl (by omega) (by decide) rfl ?_
              have hh := (hr (60 * f + b) (by omega)).ge h63
              obtain ⟨p, hp, hq⟩ : ∃ p, p < 80 ∧ pl (60 * f + b) = nI p := by
                rcases hr (60 * f + b) (by omega) with h | h
                · simp [px_hole, h] at hh
                · exact h
              rw [hq]
              refine ww_iald O dd_MO_read_85 7 rfl (by omega) (by decide) rfl ?_
              refine ww_goto O dd_MO_read_86 (tgt := 90) rfl ?_
              rw [show px_read pl wr pg pv vl (60 * f + b) = vl p from by unfold px_read; rw [if_pos h45, if_neg (by simp [hh, h72]), hq, nI_clamp (by omega)]] at F
              exact F.i dd_MO_read_90
        · refine ww_aload_n O dd_MO_read_48 0 rfl ?_
          refine ww_get O ci_MO rfl 4 (by decide) lf_MO_20 rfl dd_MO_read_49 0 rfl rfl ?_
          refine ww_iload_n O dd_MO_read_52 3 rfl ?_
          refine ww_iald O dd_MO_read_53 4 rfl (by omega) (by decide) rfl ?_
          refine ww_goto O dd_MO_read_54 (tgt := 90) rfl ?_
          rw [show px_read pl wr pg pv vl (60 * f + b) = pv ((60 * f) + b) from by unfold px_read; rw [if_neg h45]] at F
          exact F.i dd_MO_read_90
      · exfalso; omega
    · exact absurd h12 (by decide)
set_option maxRecDepth 4000 in
theorem cc_MO_owner_bad (l : Launch) (D : va_G) (g : Nat → ClassId) (m : Nat) (a1 : Nat) (a2 : Nat) (a3 : Nat) (a4 : Nat) (a5 : Nat) (a6 : Nat) (a7 : Nat) (a8 : Nat) (cd : Int32) (fi : Int32) (le : Int32) (pl : Nat → Int32) (wr : Nat → Int32) (pg : Nat → Int32) (pv : Nat → Int32) (sz : Nat → Int32) (ow : Nat → Int32) (vl : Nat → Int32) (bf : Nat → Int32) (x : Int32) (hbad : x < 0 ∨ ¬ x ≤ nI 79) : ww_ct l D g yy_MO_owner bb_MO_owner 2 (some .int) (ww_rm 1) [.ref m, .int x] [(m, .inr (3, [.int cd, .ref a1, .ref a2, .ref a3, .ref a4, .ref a5, .ref a6, .ref a7, .ref a8, .int fi, .int le])), (a1, .inl (g 0, 240, .inl pl)), (a2, .inl (g 1, 240, .inl wr)), (a3, .inl (g 1, 240, .inl pg)), (a4, .inl (g 0, 240, .inl pv)), (a5, .inl (g 0, 4, .inl sz)), (a6, .inl (g 0, 80, .inl ow)), (a7, .inl (g 0, 80, .inl vl)), (a8, .inl (g 0, 60, .inl bf))] (some (.int (nI 0))) [(m, .inr (3, [.int (nI 1), .ref a1, .ref a2, .ref a3, .ref a4, .ref a5, .ref a6, .ref a7, .ref a8, .int fi, .int le])), (a1, .inl (g 0, 240, .inl pl)), (a2, .inl (g 1, 240, .inl wr)), (a3, .inl (g 1, 240, .inl pg)), (a4, .inl (g 0, 240, .inl pv)), (a5, .inl (g 0, 4, .inl sz)), (a6, .inl (g 0, 80, .inl ow)), (a7, .inl (g 0, 80, .inl vl)), (a8, .inl (g 0, 60, .inl bf))] := by
  refine ww_start (by decide +kernel) rfl rfl (Nat.le_of_ble_eq_true rfl) (L0 := [(0, .ref m), (1, .int x)]) rfl ?_
  intro X O hl hD hg hR hn F
  subst hl hD hg
  refine ww_aload_n O dd_MO_owner_0 0 rfl ?_
  refine ww_iload_n O dd_MO_owner_1 1 rfl ?_
  refine ww_if_lt O dd_MO_owner_2 (tgt := 11) rfl (fun h2 => ?_) (fun h2 => ?_)
  · refine ww_iconst O dd_MO_owner_11 (v := nI 1) rfl ?_
    refine ww_goto O dd_MO_owner_12 (tgt := 16) rfl ?_
    refine ww_put O ci_MO cy_MO cy_MO_ok cn_MO rfl 0 (by decide) lf_MO_35 rfl rfl (ty := .int) (by decide +kernel) dd_MO_owner_16 0 rfl rfl rfl (Nat.le_of_ble_eq_true rfl) (ws' := [(m, .inr (3, [.int (nI 1), .ref a1, .ref a2, .ref a3, .ref a4, .ref a5, .ref a6, .ref a7, .ref a8, .int fi, .int le])), (a1, .inl (ww_g X 0, 240, .inl pl)), (a2, .inl (ww_g X 1, 240, .inl wr)), (a3, .inl (ww_g X 1, 240, .inl pg)), (a4, .inl (ww_g X 0, 240, .inl pv)), (a5, .inl (ww_g X 0, 4, .inl sz)), (a6, .inl (ww_g X 0, 80, .inl ow)), (a7, .inl (ww_g X 0, 80, .inl vl)), (a8, .inl (ww_g X 0, 60, .inl bf))]) rfl ?_
    refine ww_aload_n O dd_MO_owner_19 0 rfl ?_
    refine ww_get O ci_MO rfl 0 (by decide) lf_MO_35 rfl dd_MO_owner_20 0 rfl rfl ?_
    refine ww_if_leN O dd_MO_owner_23 (tgt := 30) rfl (by omega) (fun h23 => ?_) (fun h23 => ?_)
    · exfalso; omega
    · refine ww_iconst O dd_MO_owner_26 (v := nI 0) rfl ?_
      refine ww_goto O dd_MO_owner_27 (tgt := 36) rfl ?_
      exact F.i dd_MO_owner_36
  · refine ww_iload_n O dd_MO_owner_5 1 rfl ?_
    refine ww_bipush O dd_MO_owner_6 (v := nI 79) rfl ?_
    refine ww_icmp_le O dd_MO_owner_8 (tgt := 15) rfl (fun h8 => ?_) (fun h8 => ?_)
    · exact absurd h8 (hbad.elim (fun q => absurd q h2) id)
    · refine ww_iconst O dd_MO_owner_11 (v := nI 1) rfl ?_
      refine ww_goto O dd_MO_owner_12 (tgt := 16) rfl ?_
      refine ww_put O ci_MO cy_MO cy_MO_ok cn_MO rfl 0 (by decide) lf_MO_35 rfl rfl (ty := .int) (by decide +kernel) dd_MO_owner_16 0 rfl rfl rfl (Nat.le_of_ble_eq_true rfl) (ws' := [(m, .inr (3, [.int (nI 1), .ref a1, .ref a2, .ref a3, .ref a4, .ref a5, .ref a6, .ref a7, .ref a8, .int fi, .int le])), (a1, .inl (ww_g X 0, 240, .inl pl)), (a2, .inl (ww_g X 1, 240, .inl wr)), (a3, .inl (ww_g X 1, 240, .inl pg)), (a4, .inl (ww_g X 0, 240, .inl pv)), (a5, .inl (ww_g X 0, 4, .inl sz)), (a6, .inl (ww_g X 0, 80, .inl ow)), (a7, .inl (ww_g X 0, 80, .inl vl)), (a8, .inl (ww_g X 0, 60, .inl bf))]) rfl ?_
      refine ww_aload_n O dd_MO_owner_19 0 rfl ?_
      refine ww_get O ci_MO rfl 0 (by decide) lf_MO_35 rfl dd_MO_owner_20 0 rfl rfl ?_
      refine ww_if_leN O dd_MO_owner_23 (tgt := 30) rfl (by omega) (fun h23 => ?_) (fun h23 => ?_)
      · exfalso; omega
      · refine ww_iconst O dd_MO_owner_26 (v := nI 0) rfl ?_
        refine ww_goto O dd_MO_owner_27 (tgt := 36) rfl ?_
        exact F.i dd_MO_owner_36
set_option maxRecDepth 4000 in
theorem cc_MO_owner (l : Launch) (D : va_G) (g : Nat → ClassId) (m : Nat) (a1 : Nat) (a2 : Nat) (a3 : Nat) (a4 : Nat) (a5 : Nat) (a6 : Nat) (a7 : Nat) (a8 : Nat) (cd : Int32) (fi : Int32) (le : Int32) (pl : Nat → Int32) (wr : Nat → Int32) (pg : Nat → Int32) (pv : Nat → Int32) (sz : Nat → Int32) (ow : Nat → Int32) (vl : Nat → Int32) (bf : Nat → Int32) (p : Nat) (hp : p < 80) : ww_ct l D g yy_MO_owner bb_MO_owner 2 (some .int) (ww_rm 1) [.ref m, .int (nI p)] [(m, .inr (3, [.int cd, .ref a1, .ref a2, .ref a3, .ref a4, .ref a5, .ref a6, .ref a7, .ref a8, .int fi, .int le])), (a1, .inl (g 0, 240, .inl pl)), (a2, .inl (g 1, 240, .inl wr)), (a3, .inl (g 1, 240, .inl pg)), (a4, .inl (g 0, 240, .inl pv)), (a5, .inl (g 0, 4, .inl sz)), (a6, .inl (g 0, 80, .inl ow)), (a7, .inl (g 0, 80, .inl vl)), (a8, .inl (g 0, 60, .inl bf))] (some (.int (ow p))) [(m, .inr (3, [.int (nI 0), .ref a1, .ref a2, .ref a3, .ref a4, .ref a5, .ref a6, .ref a7, .ref a8, .int fi, .int le])), (a1, .inl (g 0, 240, .inl pl)), (a2, .inl (g 1, 240, .inl wr)), (a3, .inl (g 1, 240, .inl pg)), (a4, .inl (g 0, 240, .inl pv)), (a5, .inl (g 0, 4, .inl sz)), (a6, .inl (g 0, 80, .inl ow)), (a7, .inl (g 0, 80, .inl vl)), (a8, .inl (g 0, 60, .inl bf))] := by
  refine ww_start (by decide +kernel) rfl rfl (Nat.le_of_ble_eq_true rfl) (L0 := [(0, .ref m), (1, .int (nI p))]) rfl ?_
  intro X O hl hD hg hR hn F
  subst hl hD hg
  refine ww_aload_n O dd_MO_owner_0 0 rfl ?_
  refine ww_iload_n O dd_MO_owner_1 1 rfl ?_
  refine ww_if_ltN O dd_MO_owner_2 (tgt := 11) rfl (by omega) (fun h2 => ?_) (fun h2 => ?_)
  · exfalso; omega
  · refine ww_iload_n O dd_MO_owner_5 1 rfl ?_
    refine ww_bipush O dd_MO_owner_6 (v := nI 79) rfl ?_
    refine ww_icmp_leN O dd_MO_owner_8 (tgt := 15) rfl (by omega) (by omega) (fun h8 => ?_) (fun h8 => ?_)
    · refine ww_iconst O dd_MO_owner_15 (v := nI 0) rfl ?_
      refine ww_put O ci_MO cy_MO cy_MO_ok cn_MO rfl 0 (by decide) lf_MO_35 rfl rfl (ty := .int) (by decide +kernel) dd_MO_owner_16 0 rfl rfl rfl (Nat.le_of_ble_eq_true rfl) (ws' := [(m, .inr (3, [.int (nI 0), .ref a1, .ref a2, .ref a3, .ref a4, .ref a5, .ref a6, .ref a7, .ref a8, .int fi, .int le])), (a1, .inl (ww_g X 0, 240, .inl pl)), (a2, .inl (ww_g X 1, 240, .inl wr)), (a3, .inl (ww_g X 1, 240, .inl pg)), (a4, .inl (ww_g X 0, 240, .inl pv)), (a5, .inl (ww_g X 0, 4, .inl sz)), (a6, .inl (ww_g X 0, 80, .inl ow)), (a7, .inl (ww_g X 0, 80, .inl vl)), (a8, .inl (ww_g X 0, 60, .inl bf))]) rfl ?_
      refine ww_aload_n O dd_MO_owner_19 0 rfl ?_
      refine ww_get O ci_MO rfl 0 (by decide) lf_MO_35 rfl dd_MO_owner_20 0 rfl rfl ?_
      refine ww_if_leN O dd_MO_owner_23 (tgt := 30) rfl (by omega) (fun h23 => ?_) (fun h23 => ?_)
      · refine ww_aload_n O dd_MO_owner_30 0 rfl ?_
        refine ww_get O ci_MO rfl 6 (by decide) lf_MO_26 rfl dd_MO_owner_31 0 rfl rfl ?_
        refine ww_iload_n O dd_MO_owner_34 1 rfl ?_
        refine ww_iald O dd_MO_owner_35 6 rfl (by omega) (by decide) rfl ?_
        exact F.i dd_MO_owner_36
      · exfalso; omega
    · exfalso; omega
set_option maxRecDepth 4000 in
theorem cc_MO_value_bad (l : Launch) (D : va_G) (g : Nat → ClassId) (m : Nat) (a1 : Nat) (a2 : Nat) (a3 : Nat) (a4 : Nat) (a5 : Nat) (a6 : Nat) (a7 : Nat) (a8 : Nat) (cd : Int32) (fi : Int32) (le : Int32) (pl : Nat → Int32) (wr : Nat → Int32) (pg : Nat → Int32) (pv : Nat → Int32) (sz : Nat → Int32) (ow : Nat → Int32) (vl : Nat → Int32) (bf : Nat → Int32) (x : Int32) (hbad : x < 0 ∨ ¬ x ≤ nI 79) : ww_ct l D g yy_MO_value bb_MO_value 2 (some .int) (ww_rm 1) [.ref m, .int x] [(m, .inr (3, [.int cd, .ref a1, .ref a2, .ref a3, .ref a4, .ref a5, .ref a6, .ref a7, .ref a8, .int fi, .int le])), (a1, .inl (g 0, 240, .inl pl)), (a2, .inl (g 1, 240, .inl wr)), (a3, .inl (g 1, 240, .inl pg)), (a4, .inl (g 0, 240, .inl pv)), (a5, .inl (g 0, 4, .inl sz)), (a6, .inl (g 0, 80, .inl ow)), (a7, .inl (g 0, 80, .inl vl)), (a8, .inl (g 0, 60, .inl bf))] (some (.int (nI 0))) [(m, .inr (3, [.int (nI 1), .ref a1, .ref a2, .ref a3, .ref a4, .ref a5, .ref a6, .ref a7, .ref a8, .int fi, .int le])), (a1, .inl (g 0, 240, .inl pl)), (a2, .inl (g 1, 240, .inl wr)), (a3, .inl (g 1, 240, .inl pg)), (a4, .inl (g 0, 240, .inl pv)), (a5, .inl (g 0, 4, .inl sz)), (a6, .inl (g 0, 80, .inl ow)), (a7, .inl (g 0, 80, .inl vl)), (a8, .inl (g 0, 60, .inl bf))] := by
  refine ww_start (by decide +kernel) rfl rfl (Nat.le_of_ble_eq_true rfl) (L0 := [(0, .ref m), (1, .int x)]) rfl ?_
  intro X O hl hD hg hR hn F
  subst hl hD hg
  refine ww_aload_n O dd_MO_value_0 0 rfl ?_
  refine ww_iload_n O dd_MO_value_1 1 rfl ?_
  refine ww_if_lt O dd_MO_value_2 (tgt := 11) rfl (fun h2 => ?_) (fun h2 => ?_)
  · refine ww_iconst O dd_MO_value_11 (v := nI 1) rfl ?_
    refine ww_goto O dd_MO_value_12 (tgt := 16) rfl ?_
    refine ww_put O ci_MO cy_MO cy_MO_ok cn_MO rfl 0 (by decide) lf_MO_35 rfl rfl (ty := .int) (by decide +kernel) dd_MO_value_16 0 rfl rfl rfl (Nat.le_of_ble_eq_true rfl) (ws' := [(m, .inr (3, [.int (nI 1), .ref a1, .ref a2, .ref a3, .ref a4, .ref a5, .ref a6, .ref a7, .ref a8, .int fi, .int le])), (a1, .inl (ww_g X 0, 240, .inl pl)), (a2, .inl (ww_g X 1, 240, .inl wr)), (a3, .inl (ww_g X 1, 240, .inl pg)), (a4, .inl (ww_g X 0, 240, .inl pv)), (a5, .inl (ww_g X 0, 4, .inl sz)), (a6, .inl (ww_g X 0, 80, .inl ow)), (a7, .inl (ww_g X 0, 80, .inl vl)), (a8, .inl (ww_g X 0, 60, .inl bf))]) rfl ?_
    refine ww_aload_n O dd_MO_value_19 0 rfl ?_
    refine ww_get O ci_MO rfl 0 (by decide) lf_MO_35 rfl dd_MO_value_20 0 rfl rfl ?_
    refine ww_if_leN O dd_MO_value_23 (tgt := 30) rfl (by omega) (fun h23 => ?_) (fun h23 => ?_)
    · exfalso; omega
    · refine ww_iconst O dd_MO_value_26 (v := nI 0) rfl ?_
      refine ww_goto O dd_MO_value_27 (tgt := 36) rfl ?_
      exact F.i dd_MO_value_36
  · refine ww_iload_n O dd_MO_value_5 1 rfl ?_
    refine ww_bipush O dd_MO_value_6 (v := nI 79) rfl ?_
    refine ww_icmp_le O dd_MO_value_8 (tgt := 15) rfl (fun h8 => ?_) (fun h8 => ?_)
    · exact absurd h8 (hbad.elim (fun q => absurd q h2) id)
    · refine ww_iconst O dd_MO_value_11 (v := nI 1) rfl ?_
      refine ww_goto O dd_MO_value_12 (tgt := 16) rfl ?_
      refine ww_put O ci_MO cy_MO cy_MO_ok cn_MO rfl 0 (by decide) lf_MO_35 rfl rfl (ty := .int) (by decide +kernel) dd_MO_value_16 0 rfl rfl rfl (Nat.le_of_ble_eq_true rfl) (ws' := [(m, .inr (3, [.int (nI 1), .ref a1, .ref a2, .ref a3, .ref a4, .ref a5, .ref a6, .ref a7, .ref a8, .int fi, .int le])), (a1, .inl (ww_g X 0, 240, .inl pl)), (a2, .inl (ww_g X 1, 240, .inl wr)), (a3, .inl (ww_g X 1, 240, .inl pg)), (a4, .inl (ww_g X 0, 240, .inl pv)), (a5, .inl (ww_g X 0, 4, .inl sz)), (a6, .inl (ww_g X 0, 80, .inl ow)), (a7, .inl (ww_g X 0, 80, .inl vl)), (a8, .inl (ww_g X 0, 60, .inl bf))]) rfl ?_
      refine ww_aload_n O dd_MO_value_19 0 rfl ?_
      refine ww_get O ci_MO rfl 0 (by decide) lf_MO_35 rfl dd_MO_value_20 0 rfl rfl ?_
      refine ww_if_leN O dd_MO_value_23 (tgt := 30) rfl (by omega) (fun h23 => ?_) (fun h23 => ?_)
      · exfalso; omega
      · refine ww_iconst O dd_MO_value_26 (v := nI 0) rfl ?_
        refine ww_goto O dd_MO_value_27 (tgt := 36) rfl ?_
        exact F.i dd_MO_value_36
set_option maxRecDepth 4000 in
theorem cc_MO_value (l : Launch) (D : va_G) (g : Nat → ClassId) (m : Nat) (a1 : Nat) (a2 : Nat) (a3 : Nat) (a4 : Nat) (a5 : Nat) (a6 : Nat) (a7 : Nat) (a8 : Nat) (cd : Int32) (fi : Int32) (le : Int32) (pl : Nat → Int32) (wr : Nat → Int32) (pg : Nat → Int32) (pv : Nat → Int32) (sz : Nat → Int32) (ow : Nat → Int32) (vl : Nat → Int32) (bf : Nat → Int32) (p : Nat) (hp : p < 80) : ww_ct l D g yy_MO_value bb_MO_value 2 (some .int) (ww_rm 1) [.ref m, .int (nI p)] [(m, .inr (3, [.int cd, .ref a1, .ref a2, .ref a3, .ref a4, .ref a5, .ref a6, .ref a7, .ref a8, .int fi, .int le])), (a1, .inl (g 0, 240, .inl pl)), (a2, .inl (g 1, 240, .inl wr)), (a3, .inl (g 1, 240, .inl pg)), (a4, .inl (g 0, 240, .inl pv)), (a5, .inl (g 0, 4, .inl sz)), (a6, .inl (g 0, 80, .inl ow)), (a7, .inl (g 0, 80, .inl vl)), (a8, .inl (g 0, 60, .inl bf))] (some (.int (vl p))) [(m, .inr (3, [.int (nI 0), .ref a1, .ref a2, .ref a3, .ref a4, .ref a5, .ref a6, .ref a7, .ref a8, .int fi, .int le])), (a1, .inl (g 0, 240, .inl pl)), (a2, .inl (g 1, 240, .inl wr)), (a3, .inl (g 1, 240, .inl pg)), (a4, .inl (g 0, 240, .inl pv)), (a5, .inl (g 0, 4, .inl sz)), (a6, .inl (g 0, 80, .inl ow)), (a7, .inl (g 0, 80, .inl vl)), (a8, .inl (g 0, 60, .inl bf))] := by
  refine ww_start (by decide +kernel) rfl rfl (Nat.le_of_ble_eq_true rfl) (L0 := [(0, .ref m), (1, .int (nI p))]) rfl ?_
  intro X O hl hD hg hR hn F
  subst hl hD hg
  refine ww_aload_n O dd_MO_value_0 0 rfl ?_
  refine ww_iload_n O dd_MO_value_1 1 rfl ?_
  refine ww_if_ltN O dd_MO_value_2 (tgt := 11) rfl (by omega) (fun h2 => ?_) (fun h2 => ?_)
  · exfalso; omega
  · refine ww_iload_n O dd_MO_value_5 1 rfl ?_
    refine ww_bipush O dd_MO_value_6 (v := nI 79) rfl ?_
    refine ww_icmp_leN O dd_MO_value_8 (tgt := 15) rfl (by omega) (by omega) (fun h8 => ?_) (fun h8 => ?_)
    · refine ww_iconst O dd_MO_value_15 (v := nI 0) rfl ?_
      refine ww_put O ci_MO cy_MO cy_MO_ok cn_MO rfl 0 (by decide) lf_MO_35 rfl rfl (ty := .int) (by decide +kernel) dd_MO_value_16 0 rfl rfl rfl (Nat.le_of_ble_eq_true rfl) (ws' := [(m, .inr (3, [.int (nI 0), .ref a1, .ref a2, .ref a3, .ref a4, .ref a5, .ref a6, .ref a7, .ref a8, .int fi, .int le])), (a1, .inl (ww_g X 0, 240, .inl pl)), (a2, .inl (ww_g X 1, 240, .inl wr)), (a3, .inl (ww_g X 1, 240, .inl pg)), (a4, .inl (ww_g X 0, 240, .inl pv)), (a5, .inl (ww_g X 0, 4, .inl sz)), (a6, .inl (ww_g X 0, 80, .inl ow)), (a7, .inl (ww_g X 0, 80, .inl vl)), (a8, .inl (ww_g X 0, 60, .inl bf))]) rfl ?_
      refine ww_aload_n O dd_MO_value_19 0 rfl ?_
      refine ww_get O ci_MO rfl 0 (by decide) lf_MO_35 rfl dd_MO_value_20 0 rfl rfl ?_
      refine ww_if_leN O dd_MO_value_23 (tgt := 30) rfl (by omega) (fun h23 => ?_) (fun h23 => ?_)
      · refine ww_aload_n O dd_MO_value_30 0 rfl ?_
        refine ww_get O ci_MO rfl 7 (by decide) lf_MO_29 rfl dd_MO_value_31 0 rfl rfl ?_
        refine ww_iload_n O dd_MO_value_34 1 rfl ?_
        refine ww_iald O dd_MO_value_35 7 rfl (by omega) (by decide) rfl ?_
        exact F.i dd_MO_value_36
      · exfalso; omega
    · exfalso; omega
set_option maxRecDepth 4000 in
theorem cc_MO_free (l : Launch) (D : va_G) (g : Nat → ClassId) (m : Nat) (a1 : Nat) (a2 : Nat) (a3 : Nat) (a4 : Nat) (a5 : Nat) (a6 : Nat) (a7 : Nat) (a8 : Nat) (cd : Int32) (fi : Int32) (le : Int32) (pl : Nat → Int32) (wr : Nat → Int32) (pg : Nat → Int32) (pv : Nat → Int32) (sz : Nat → Int32) (ow : Nat → Int32) (vl : Nat → Int32) (bf : Nat → Int32) (hr : ∀ b, b < 240 → px_rg (pl b)) : ww_ct l D g yy_MO_free bb_MO_free 1 (some .int) (ww_rm 5) [.ref m] [(m, .inr (3, [.int cd, .ref a1, .ref a2, .ref a3, .ref a4, .ref a5, .ref a6, .ref a7, .ref a8, .int fi, .int le])), (a1, .inl (g 0, 240, .inl pl)), (a2, .inl (g 1, 240, .inl wr)), (a3, .inl (g 1, 240, .inl pg)), (a4, .inl (g 0, 240, .inl pv)), (a5, .inl (g 0, 4, .inl sz)), (a6, .inl (g 0, 80, .inl ow)), (a7, .inl (g 0, 80, .inl vl)), (a8, .inl (g 0, 60, .inl bf))] (some (.int (nI 80 - nI (px_sum (fun k => px_mt pl wr (60 * k)) 4)))) [(m, .inr (3, [.int (nI 0), .ref a1, .ref a2, .ref a3, .ref a4, .ref a5, .ref a6, .ref a7, .ref a8, .int ((px_xs pl wr le fi 4).2), .int ((px_xs pl wr le fi 4).1)])), (a1, .inl (g 0, 240, .inl pl)), (a2, .inl (g 1, 240, .inl wr)), (a3, .inl (g 1, 240, .inl pg)), (a4, .inl (g 0, 240, .inl pv)), (a5, .inl (g 0, 4, .inl sz)), (a6, .inl (g 0, 80, .inl ow)), (a7, .inl (g 0, 80, .inl vl)), (a8, .inl (g 0, 60, .inl bf))] := by
  refine ww_start (by decide +kernel) rfl rfl (Nat.le_of_ble_eq_true rfl) (L0 := [(0, .ref m)]) rfl ?_
  intro X O hl hD hg hR hn F
  subst hl hD hg
  refine ww_aload_n O dd_MO_free_0 0 rfl ?_
  refine ww_iconst O dd_MO_free_1 (v := nI 0) rfl ?_
  refine ww_put O ci_MO cy_MO cy_MO_ok cn_MO rfl 0 (by decide) lf_MO_35 rfl rfl (ty := .int) (by decide +kernel) dd_MO_free_2 0 rfl rfl rfl (Nat.le_of_ble_eq_true rfl) (ws' := [(m, .inr (3, [.int (nI 0), .ref a1, .ref a2, .ref a3, .ref a4, .ref a5, .ref a6, .ref a7, .ref a8, .int fi, .int le])), (a1, .inl (ww_g X 0, 240, .inl pl)), (a2, .inl (ww_g X 1, 240, .inl wr)), (a3, .inl (ww_g X 1, 240, .inl pg)), (a4, .inl (ww_g X 0, 240, .inl pv)), (a5, .inl (ww_g X 0, 4, .inl sz)), (a6, .inl (ww_g X 0, 80, .inl ow)), (a7, .inl (ww_g X 0, 80, .inl vl)), (a8, .inl (ww_g X 0, 60, .inl bf))]) rfl ?_
  refine ww_aload_n O dd_MO_free_5 0 rfl ?_
  refine ww_callV (q0 := 0) (ci := 3) O (cc_MO_allFree _ _ _ m a1 a2 a3 a4 a5 a6 a7 a8 (nI 0) fi le pl wr pg pv sz ow vl bf (by omega)) lc_MO_85 lx_MO_allFree__I rfl rfl rfl (by rw [hR]; decide) (by rw [hR]; decide) (by rw [hR]; decide) rfl (Nat.le_of_ble_eq_true rfl) dd_MO_free_6 rfl [0, 1, 2, 3, 4, 5, 6, 7, 8] [] [0, 1, 2, 3, 4, 5, 6, 7, 8] rfl (by decide) rfl (by decide) (by decide) (ws' := [(m, .inr (3, [.int (nI 0), .ref a1, .ref a2, .ref a3, .ref a4, .ref a5, .ref a6, .ref a7, .ref a8, .int ((px_xs pl wr le fi 4).2), .int ((px_xs pl wr le fi 4).1)])), (a1, .inl (ww_g X 0, 240, .inl pl)), (a2, .inl (ww_g X 1, 240, .inl wr)), (a3, .inl (ww_g X 1, 240, .inl pg)), (a4, .inl (ww_g X 0, 240, .inl pv)), (a5, .inl (ww_g X 0, 4, .inl sz)), (a6, .inl (ww_g X 0, 80, .inl ow)), (a7, .inl (ww_g X 0, 80, .inl vl)), (a8, .inl (ww_g X 0, 60, .inl bf))]) rfl rfl (by decide) ?_
  exact F.i dd_MO_free_9
set_option maxRecDepth 4000 in
theorem cc_MO_reserved (l : Launch) (D : va_G) (g : Nat → ClassId) (m : Nat) (a1 : Nat) (a2 : Nat) (a3 : Nat) (a4 : Nat) (a5 : Nat) (a6 : Nat) (a7 : Nat) (a8 : Nat) (cd : Int32) (fi : Int32) (le : Int32) (pl : Nat → Int32) (wr : Nat → Int32) (pg : Nat → Int32) (pv : Nat → Int32) (sz : Nat → Int32) (ow : Nat → Int32) (vl : Nat → Int32) (bf : Nat → Int32) (hr : ∀ b, b < 240 → px_rg (pl b)) : ww_ct l D g yy_MO_reserved bb_MO_reserved 1 (some .int) (ww_rm 5) [.ref m] [(m, .inr (3, [.int cd, .ref a1, .ref a2, .ref a3, .ref a4, .ref a5, .ref a6, .ref a7, .ref a8, .int fi, .int le])), (a1, .inl (g 0, 240, .inl pl)), (a2, .inl (g 1, 240, .inl wr)), (a3, .inl (g 1, 240, .inl pg)), (a4, .inl (g 0, 240, .inl pv)), (a5, .inl (g 0, 4, .inl sz)), (a6, .inl (g 0, 80, .inl ow)), (a7, .inl (g 0, 80, .inl vl)), (a8, .inl (g 0, 60, .inl bf))] (some (.int (nI (px_sum (fun k => px_res pl wr pg (60 * k)) 4)))) [(m, .inr (3, [.int (nI 0), .ref a1, .ref a2, .ref a3, .ref a4, .ref a5, .ref a6, .ref a7, .ref a8, .int ((px_xs pl wr le fi 4).2), .int ((px_xs pl wr le fi 4).1)])), (a1, .inl (g 0, 240, .inl pl)), (a2, .inl (g 1, 240, .inl wr)), (a3, .inl (g 1, 240, .inl pg)), (a4, .inl (g 0, 240, .inl pv)), (a5, .inl (g 0, 4, .inl sz)), (a6, .inl (g 0, 80, .inl ow)), (a7, .inl (g 0, 80, .inl vl)), (a8, .inl (g 0, 60, .inl bf))] := by
  refine ww_start (by decide +kernel) rfl rfl (Nat.le_of_ble_eq_true rfl) (L0 := [(0, .ref m)]) rfl ?_
  intro X O hl hD hg hR hn F
  subst hl hD hg
  refine ww_aload_n O dd_MO_reserved_0 0 rfl ?_
  refine ww_iconst O dd_MO_reserved_1 (v := nI 0) rfl ?_
  refine ww_put O ci_MO cy_MO cy_MO_ok cn_MO rfl 0 (by decide) lf_MO_35 rfl rfl (ty := .int) (by decide +kernel) dd_MO_reserved_2 0 rfl rfl rfl (Nat.le_of_ble_eq_true rfl) (ws' := [(m, .inr (3, [.int (nI 0), .ref a1, .ref a2, .ref a3, .ref a4, .ref a5, .ref a6, .ref a7, .ref a8, .int fi, .int le])), (a1, .inl (ww_g X 0, 240, .inl pl)), (a2, .inl (ww_g X 1, 240, .inl wr)), (a3, .inl (ww_g X 1, 240, .inl pg)), (a4, .inl (ww_g X 0, 240, .inl pv)), (a5, .inl (ww_g X 0, 4, .inl sz)), (a6, .inl (ww_g X 0, 80, .inl ow)), (a7, .inl (ww_g X 0, 80, .inl vl)), (a8, .inl (ww_g X 0, 60, .inl bf))]) rfl ?_
  refine ww_aload_n O dd_MO_reserved_5 0 rfl ?_
  refine ww_callV (q0 := 0) (ci := 3) O (cc_MO_allReserved _ _ _ m a1 a2 a3 a4 a5 a6 a7 a8 (nI 0) fi le pl wr pg pv sz ow vl bf (by omega)) lc_MO_89 lx_MO_allReserved__I rfl rfl rfl (by rw [hR]; decide) (by rw [hR]; decide) (by rw [hR]; decide) rfl (Nat.le_of_ble_eq_true rfl) dd_MO_reserved_6 rfl [0, 1, 2, 3, 4, 5, 6, 7, 8] [] [0, 1, 2, 3, 4, 5, 6, 7, 8] rfl (by decide) rfl (by decide) (by decide) (ws' := [(m, .inr (3, [.int (nI 0), .ref a1, .ref a2, .ref a3, .ref a4, .ref a5, .ref a6, .ref a7, .ref a8, .int ((px_xs pl wr le fi 4).2), .int ((px_xs pl wr le fi 4).1)])), (a1, .inl (ww_g X 0, 240, .inl pl)), (a2, .inl (ww_g X 1, 240, .inl wr)), (a3, .inl (ww_g X 1, 240, .inl pg)), (a4, .inl (ww_g X 0, 240, .inl pv)), (a5, .inl (ww_g X 0, 4, .inl sz)), (a6, .inl (ww_g X 0, 80, .inl ow)), (a7, .inl (ww_g X 0, 80, .inl vl)), (a8, .inl (ww_g X 0, 60, .inl bf))]) rfl rfl (by decide) ?_
  exact F.i dd_MO_reserved_9
set_option maxRecDepth 4000 in
theorem cc_MO_crash (l : Launch) (D : va_G) (g : Nat → ClassId) (m : Nat) (a1 : Nat) (a2 : Nat) (a3 : Nat) (a4 : Nat) (a5 : Nat) (a6 : Nat) (a7 : Nat) (a8 : Nat) (cd : Int32) (fi : Int32) (le : Int32) (pl : Nat → Int32) (wr : Nat → Int32) (pg : Nat → Int32) (pv : Nat → Int32) (sz : Nat → Int32) (ow : Nat → Int32) (vl : Nat → Int32) (bf : Nat → Int32)  : ww_ct l D g yy_MO_crash bb_MO_crash 3 (some .int) (ww_rm 1) [.ref m] [(m, .inr (3, [.int cd, .ref a1, .ref a2, .ref a3, .ref a4, .ref a5, .ref a6, .ref a7, .ref a8, .int fi, .int le])), (a1, .inl (g 0, 240, .inl pl)), (a2, .inl (g 1, 240, .inl wr)), (a3, .inl (g 1, 240, .inl pg)), (a4, .inl (g 0, 240, .inl pv)), (a5, .inl (g 0, 4, .inl sz)), (a6, .inl (g 0, 80, .inl ow)), (a7, .inl (g 0, 80, .inl vl)), (a8, .inl (g 0, 60, .inl bf))] (some (.int (nI (px_cnt (px_on pg) 0 240)))) [(m, .inr (3, [.int (nI 0), .ref a1, .ref a2, .ref a3, .ref a4, .ref a5, .ref a6, .ref a7, .ref a8, .int fi, .int le])), (a1, .inl (g 0, 240, .inl pl)), (a2, .inl (g 1, 240, .inl wr)), (a3, .inl (g 1, 240, .inl (px_fill pg 0 240 (nI 0)))), (a4, .inl (g 0, 240, .inl pv)), (a5, .inl (g 0, 4, .inl sz)), (a6, .inl (g 0, 80, .inl ow)), (a7, .inl (g 0, 80, .inl vl)), (a8, .inl (g 0, 60, .inl bf))] := by
  refine ww_start (by decide +kernel) rfl rfl (Nat.le_of_ble_eq_true rfl) (L0 := [(0, .ref m)]) rfl ?_
  intro X O hl hD hg hR hn F
  subst hl hD hg
  have loop : ∀ (k b n : Nat), 240 ≤ b + k → b ≤ 240 → n = px_cnt (px_on pg) 0 b → ww_at X 0 0 9 [(0, .ref m), (1, .int (nI n)), (2, .int (nI b))] [] [(m, .inr (3, [.int (nI 0), .ref a1, .ref a2, .ref a3, .ref a4, .ref a5, .ref a6, .ref a7, .ref a8, .int fi, .int le])), (a1, .inl (ww_g X 0, 240, .inl pl)), (a2, .inl (ww_g X 1, 240, .inl wr)), (a3, .inl (ww_g X 1, 240, .inl (px_fill pg 0 (b - 0) (nI 0)))), (a4, .inl (ww_g X 0, 240, .inl pv)), (a5, .inl (ww_g X 0, 4, .inl sz)), (a6, .inl (ww_g X 0, 80, .inl ow)), (a7, .inl (ww_g X 0, 80, .inl vl)), (a8, .inl (ww_g X 0, 60, .inl bf))] := by
    intro k
    induction k with
    | zero =>
      intro b n h1 h2 h5
      have hn9 := px_cnt_le (px_on pg) 0 b
      refine ww_iload_n O dd_MO_crash_9 2 rfl ?_
      refine ww_sipush O dd_MO_crash_10 (v := nI 240) rfl ?_
      refine ww_icmp_geN O dd_MO_crash_13 (tgt := 46) rfl (by omega) (by omega) (fun h13 => ?_) (fun h13 => ?_)
      · refine ww_iload_n O dd_MO_crash_46 1 rfl ?_
        have eb : b = 240 := by omega
        subst eb
        subst h5
        exact F.i dd_MO_crash_47
      · exfalso; omega
    | succ k ih =>
      intro b n h1 h2 h5
      have hn9 := px_cnt_le (px_on pg) 0 b
      refine ww_iload_n O dd_MO_crash_9 2 rfl ?_
      refine ww_sipush O dd_MO_crash_10 (v := nI 240) rfl ?_
      refine ww_icmp_geN O dd_MO_crash_13 (tgt := 46) rfl (by omega) (by omega) (fun h13 => ?_) (fun h13 => ?_)
      · refine ww_iload_n O dd_MO_crash_46 1 rfl ?_
        have eb : b = 240 := by omega
        subst eb
        subst h5
        exact F.i dd_MO_crash_47
      · refine ww_aload_n O dd_MO_crash_16 0 rfl ?_
        refine ww_get O ci_MO rfl 3 (by decide) lf_MO_17 rfl dd_MO_crash_17 0 rfl rfl ?_
        refine ww_iload_n O dd_MO_crash_20 2 rfl ?_
        refine ww_zald O dd_MO_crash_21 3 rfl (by omega) (by decide) rfl ?_
        rw [px_fill_o (by omega)]
        refine ww_if_eq O dd_MO_crash_22 (tgt := 31) rfl (fun h22 => ?_) (fun h22 => ?_)
        · refine ww_iload_n O dd_MO_crash_31 1 rfl ?_
          refine ww_istore_n O dd_MO_crash_32 (by rw [hn]; decide) rfl (L' := [(0, .ref m), (1, .int (nI n)), (2, .int (nI b))]) rfl ?_
          refine ww_aload_n O dd_MO_crash_33 0 rfl ?_
          refine ww_get O ci_MO rfl 3 (by decide) lf_MO_17 rfl dd_MO_crash_34 0 rfl rfl ?_
          refine ww_iload_n O dd_MO_crash_37 2 rfl ?_
          refine ww_iconst O dd_MO_crash_38 (v := nI 0) rfl ?_
          refine ww_zast O dd_MO_crash_39 3 rfl (by omega) (by decide) rfl (ws' := [(m, .inr (3, [.int (nI 0), .ref a1, .ref a2, .ref a3, .ref a4, .ref a5, .ref a6, .ref a7, .ref a8, .int fi, .int le])), (a1, .inl (ww_g X 0, 240, .inl pl)), (a2, .inl (ww_g X 1, 240, .inl wr)), (a3, .inl (ww_g X 1, 240, .inl (upd (px_fill pg 0 (b - 0) (nI 0)) b (nI 0)))), (a4, .inl (ww_g X 0, 240, .inl pv)), (a5, .inl (ww_g X 0, 4, .inl sz)), (a6, .inl (ww_g X 0, 80, .inl ow)), (a7, .inl (ww_g X 0, 80, .inl vl)), (a8, .inl (ww_g X 0, 60, .inl bf))]) rfl ?_
          refine ww_iinc O dd_MO_crash_40 2 rfl (v := nI (b + 1)) (nI_add _ 1) (by rw [hn]; decide) rfl (L' := [(0, .ref m), (1, .int (nI n)), (2, .int (nI (b + 1)))]) rfl ?_
          refine ww_goto O dd_MO_crash_43 (tgt := 9) rfl ?_
          rw [px_fill_sa (Nat.zero_le b)]
          exact ih (b + 1) n (by omega) (by omega) (px_c0f h5 (by simp [px_on, h22]))
        · refine ww_iload_n O dd_MO_crash_25 1 rfl ?_
          refine ww_iconst O dd_MO_crash_26 (v := nI 1) rfl ?_
          refine ww_iadd O dd_MO_crash_27 (v := nI (n + 1)) (nI_add _ _) ?_
          refine ww_goto O dd_MO_crash_28 (tgt := 32) rfl ?_
          refine ww_istore_n O dd_MO_crash_32 (by rw [hn]; decide) rfl (L' := [(0, .ref m), (1, .int (nI (n + 1))), (2, .int (nI b))]) rfl ?_
          refine ww_aload_n O dd_MO_crash_33 0 rfl ?_
          refine ww_get O ci_MO rfl 3 (by decide) lf_MO_17 rfl dd_MO_crash_34 0 rfl rfl ?_
          refine ww_iload_n O dd_MO_crash_37 2 rfl ?_
          refine ww_iconst O dd_MO_crash_38 (v := nI 0) rfl ?_
          refine ww_zast O dd_MO_crash_39 3 rfl (by omega) (by decide) rfl (ws' := [(m, .inr (3, [.int (nI 0), .ref a1, .ref a2, .ref a3, .ref a4, .ref a5, .ref a6, .ref a7, .ref a8, .int fi, .int le])), (a1, .inl (ww_g X 0, 240, .inl pl)), (a2, .inl (ww_g X 1, 240, .inl wr)), (a3, .inl (ww_g X 1, 240, .inl (upd (px_fill pg 0 (b - 0) (nI 0)) b (nI 0)))), (a4, .inl (ww_g X 0, 240, .inl pv)), (a5, .inl (ww_g X 0, 4, .inl sz)), (a6, .inl (ww_g X 0, 80, .inl ow)), (a7, .inl (ww_g X 0, 80, .inl vl)), (a8, .inl (ww_g X 0, 60, .inl bf))]) rfl ?_
          refine ww_iinc O dd_MO_crash_40 2 rfl (v := nI (b + 1)) (nI_add _ 1) (by rw [hn]; decide) rfl (L' := [(0, .ref m), (1, .int (nI (n + 1))), (2, .int (nI (b + 1)))]) rfl ?_
          refine ww_goto O dd_MO_crash_43 (tgt := 9) rfl ?_
          rw [px_fill_sa (Nat.zero_le b)]
          exact ih (b + 1) (n + 1) (by omega) (by omega) (px_c0t h5 (by simp [px_on, h22]))
  have h0 := loop 240 0 0 (by omega) (by omega) rfl
  rw [Nat.sub_self, px_fill_0] at h0
  refine ww_aload_n O dd_MO_crash_0 0 rfl ?_
  refine ww_iconst O dd_MO_crash_1 (v := nI 0) rfl ?_
  refine ww_put O ci_MO cy_MO cy_MO_ok cn_MO rfl 0 (by decide) lf_MO_35 rfl rfl (ty := .int) (by decide +kernel) dd_MO_crash_2 0 rfl rfl rfl (Nat.le_of_ble_eq_true rfl) (ws' := [(m, .inr (3, [.int (nI 0), .ref a1, .ref a2, .ref a3, .ref a4, .ref a5, .ref a6, .ref a7, .ref a8, .int fi, .int le])), (a1, .inl (ww_g X 0, 240, .inl pl)), (a2, .inl (ww_g X 1, 240, .inl wr)), (a3, .inl (ww_g X 1, 240, .inl pg)), (a4, .inl (ww_g X 0, 240, .inl pv)), (a5, .inl (ww_g X 0, 4, .inl sz)), (a6, .inl (ww_g X 0, 80, .inl ow)), (a7, .inl (ww_g X 0, 80, .inl vl)), (a8, .inl (ww_g X 0, 60, .inl bf))]) rfl ?_
  refine ww_iconst O dd_MO_crash_5 (v := nI 0) rfl ?_
  refine ww_istore_n O dd_MO_crash_6 (by rw [hn]; decide) rfl (L' := [(0, .ref m), (1, .int (nI 0))]) rfl ?_
  refine ww_iconst O dd_MO_crash_7 (v := nI 0) rfl ?_
  refine ww_istore_n O dd_MO_crash_8 (by rw [hn]; decide) rfl (L' := [(0, .ref m), (1, .int (nI 0)), (2, .int (nI 0))]) rfl ?_
  exact h0
set_option maxRecDepth 4000 in
theorem cc_MO_punch_bad1 (l : Launch) (D : va_G) (g : Nat → ClassId) (m : Nat) (a1 : Nat) (a2 : Nat) (a3 : Nat) (a4 : Nat) (a5 : Nat) (a6 : Nat) (a7 : Nat) (a8 : Nat) (cd : Int32) (fi : Int32) (le : Int32) (pl : Nat → Int32) (wr : Nat → Int32) (pg : Nat → Int32) (pv : Nat → Int32) (sz : Nat → Int32) (ow : Nat → Int32) (vl : Nat → Int32) (bf : Nat → Int32) (x : Int32) (y : Int32) (z : Int32) (hbad : px_nf x 3 = true ∨ px_nf y 59 = true) : ww_ct l D g yy_MO_punch bb_MO_punch 4 (some .int) (ww_rm 3) [.ref m, .int x, .int y, .int z] [(m, .inr (3, [.int cd, .ref a1, .ref a2, .ref a3, .ref a4, .ref a5, .ref a6, .ref a7, .ref a8, .int fi, .int le])), (a1, .inl (g 0, 240, .inl pl)), (a2, .inl (g 1, 240, .inl wr)), (a3, .inl (g 1, 240, .inl pg)), (a4, .inl (g 0, 240, .inl pv)), (a5, .inl (g 0, 4, .inl sz)), (a6, .inl (g 0, 80, .inl ow)), (a7, .inl (g 0, 80, .inl vl)), (a8, .inl (g 0, 60, .inl bf))] (some (.int (nI 0))) [(m, .inr (3, [.int (nI 1), .ref a1, .ref a2, .ref a3, .ref a4, .ref a5, .ref a6, .ref a7, .ref a8, .int fi, .int le])), (a1, .inl (g 0, 240, .inl pl)), (a2, .inl (g 1, 240, .inl wr)), (a3, .inl (g 1, 240, .inl pg)), (a4, .inl (g 0, 240, .inl pv)), (a5, .inl (g 0, 4, .inl sz)), (a6, .inl (g 0, 80, .inl ow)), (a7, .inl (g 0, 80, .inl vl)), (a8, .inl (g 0, 60, .inl bf))] := by
  refine ww_start (by decide +kernel) rfl rfl (Nat.le_of_ble_eq_true rfl) (L0 := [(0, .ref m), (1, .int x), (2, .int y), (3, .int z)]) rfl ?_
  intro X O hl hD hg hR hn F
  subst hl hD hg
  refine ww_aload_n O dd_MO_punch_0 0 rfl ?_
  refine ww_iload_n O dd_MO_punch_1 1 rfl ?_
  refine ww_callS O (cc_MO_noFile _ _ _ x ) lc_MO_79 ls_MO_noFile_I_Z (by rw [hR]; decide) (by rw [hR]; decide) (by rw [hR]; decide) rfl (Nat.le_of_ble_eq_true rfl) dd_MO_punch_2 rfl [] [0, 1, 2, 3, 4, 5, 6, 7, 8] [0, 1, 2, 3, 4, 5, 6, 7, 8] rfl (by decide) rfl (by decide) (by decide) (ws' := [(m, .inr (3, [.int cd, .ref a1, .ref a2, .ref a3, .ref a4, .ref a5, .ref a6, .ref a7, .ref a8, .int fi, .int le])), (a1, .inl (ww_g X 0, 240, .inl pl)), (a2, .inl (ww_g X 1, 240, .inl wr)), (a3, .inl (ww_g X 1, 240, .inl pg)), (a4, .inl (ww_g X 0, 240, .inl pv)), (a5, .inl (ww_g X 0, 4, .inl sz)), (a6, .inl (ww_g X 0, 80, .inl ow)), (a7, .inl (ww_g X 0, 80, .inl vl)), (a8, .inl (ww_g X 0, 60, .inl bf))]) rfl rfl (by decide) ?_
  refine ww_if_neB O dd_MO_punch_5 (tgt := 15) rfl (fun h5 => ?_) (fun h5 => ?_)
  · refine ww_iconst O dd_MO_punch_15 (v := nI 1) rfl ?_
    refine ww_goto O dd_MO_punch_16 (tgt := 37) rfl ?_
    refine ww_put O ci_MO cy_MO cy_MO_ok cn_MO rfl 0 (by decide) lf_MO_35 rfl rfl (ty := .int) (by decide +kernel) dd_MO_punch_37 0 rfl rfl rfl (Nat.le_of_ble_eq_true rfl) (ws' := [(m, .inr (3, [.int (nI 1), .ref a1, .ref a2, .ref a3, .ref a4, .ref a5, .ref a6, .ref a7, .ref a8, .int fi, .int le])), (a1, .inl (ww_g X 0, 240, .inl pl)), (a2, .inl (ww_g X 1, 240, .inl wr)), (a3, .inl (ww_g X 1, 240, .inl pg)), (a4, .inl (ww_g X 0, 240, .inl pv)), (a5, .inl (ww_g X 0, 4, .inl sz)), (a6, .inl (ww_g X 0, 80, .inl ow)), (a7, .inl (ww_g X 0, 80, .inl vl)), (a8, .inl (ww_g X 0, 60, .inl bf))]) rfl ?_
    refine ww_aload_n O dd_MO_punch_40 0 rfl ?_
    refine ww_get O ci_MO rfl 0 (by decide) lf_MO_35 rfl dd_MO_punch_41 0 rfl rfl ?_
    refine ww_if_leN O dd_MO_punch_44 (tgt := 51) rfl (by omega) (fun h44 => ?_) (fun h44 => ?_)
    · exfalso; omega
    · refine ww_iconst O dd_MO_punch_47 (v := nI 0) rfl ?_
      refine ww_goto O dd_MO_punch_48 (tgt := 69) rfl ?_
      exact F.i dd_MO_punch_69
  · refine ww_iload_n O dd_MO_punch_8 2 rfl ?_
    refine ww_callS O (cc_MO_noBlock _ _ _ y ) lc_MO_82 ls_MO_noBlock_I_Z (by rw [hR]; decide) (by rw [hR]; decide) (by rw [hR]; decide) rfl (Nat.le_of_ble_eq_true rfl) dd_MO_punch_9 rfl [] [0, 1, 2, 3, 4, 5, 6, 7, 8] [0, 1, 2, 3, 4, 5, 6, 7, 8] rfl (by decide) rfl (by decide) (by decide) (ws' := [(m, .inr (3, [.int cd, .ref a1, .ref a2, .ref a3, .ref a4, .ref a5, .ref a6, .ref a7, .ref a8, .int fi, .int le])), (a1, .inl (ww_g X 0, 240, .inl pl)), (a2, .inl (ww_g X 1, 240, .inl wr)), (a3, .inl (ww_g X 1, 240, .inl pg)), (a4, .inl (ww_g X 0, 240, .inl pv)), (a5, .inl (ww_g X 0, 4, .inl sz)), (a6, .inl (ww_g X 0, 80, .inl ow)), (a7, .inl (ww_g X 0, 80, .inl vl)), (a8, .inl (ww_g X 0, 60, .inl bf))]) rfl rfl (by decide) ?_
    refine ww_if_eqB O dd_MO_punch_12 (tgt := 19) rfl (fun h12 => ?_) (fun h12 => ?_)
    · exact absurd (hbad.elim (fun q => by rw [q] at h5; exact absurd h5 (by decide)) (fun q => by rw [q] at h12; exact absurd h12 (by decide))) id
    · refine ww_iconst O dd_MO_punch_15 (v := nI 1) rfl ?_
      refine ww_goto O dd_MO_punch_16 (tgt := 37) rfl ?_
      refine ww_put O ci_MO cy_MO cy_MO_ok cn_MO rfl 0 (by decide) lf_MO_35 rfl rfl (ty := .int) (by decide +kernel) dd_MO_punch_37 0 rfl rfl rfl (Nat.le_of_ble_eq_true rfl) (ws' := [(m, .inr (3, [.int (nI 1), .ref a1, .ref a2, .ref a3, .ref a4, .ref a5, .ref a6, .ref a7, .ref a8, .int fi, .int le])), (a1, .inl (ww_g X 0, 240, .inl pl)), (a2, .inl (ww_g X 1, 240, .inl wr)), (a3, .inl (ww_g X 1, 240, .inl pg)), (a4, .inl (ww_g X 0, 240, .inl pv)), (a5, .inl (ww_g X 0, 4, .inl sz)), (a6, .inl (ww_g X 0, 80, .inl ow)), (a7, .inl (ww_g X 0, 80, .inl vl)), (a8, .inl (ww_g X 0, 60, .inl bf))]) rfl ?_
      refine ww_aload_n O dd_MO_punch_40 0 rfl ?_
      refine ww_get O ci_MO rfl 0 (by decide) lf_MO_35 rfl dd_MO_punch_41 0 rfl rfl ?_
      refine ww_if_leN O dd_MO_punch_44 (tgt := 51) rfl (by omega) (fun h44 => ?_) (fun h44 => ?_)
      · exfalso; omega
      · refine ww_iconst O dd_MO_punch_47 (v := nI 0) rfl ?_
        refine ww_goto O dd_MO_punch_48 (tgt := 69) rfl ?_
        exact F.i dd_MO_punch_69
set_option maxRecDepth 4000 in
theorem cc_MO_punch_bad2 (l : Launch) (D : va_G) (g : Nat → ClassId) (m : Nat) (a1 : Nat) (a2 : Nat) (a3 : Nat) (a4 : Nat) (a5 : Nat) (a6 : Nat) (a7 : Nat) (a8 : Nat) (cd : Int32) (fi : Int32) (le : Int32) (pl : Nat → Int32) (wr : Nat → Int32) (pg : Nat → Int32) (pv : Nat → Int32) (sz : Nat → Int32) (ow : Nat → Int32) (vl : Nat → Int32) (bf : Nat → Int32) (f : Nat) (b : Nat) (x : Int32) (hf : f < 4) (hb : b < 60) (hbad : x < nI 1 ∨ ¬ x ≤ nI (60 - b)) : ww_ct l D g yy_MO_punch bb_MO_punch 4 (some .int) (ww_rm 3) [.ref m, .int (nI f), .int (nI b), .int x] [(m, .inr (3, [.int cd, .ref a1, .ref a2, .ref a3, .ref a4, .ref a5, .ref a6, .ref a7, .ref a8, .int fi, .int le])), (a1, .inl (g 0, 240, .inl pl)), (a2, .inl (g 1, 240, .inl wr)), (a3, .inl (g 1, 240, .inl pg)), (a4, .inl (g 0, 240, .inl pv)), (a5, .inl (g 0, 4, .inl sz)), (a6, .inl (g 0, 80, .inl ow)), (a7, .inl (g 0, 80, .inl vl)), (a8, .inl (g 0, 60, .inl bf))] (some (.int (nI 0))) [(m, .inr (3, [.int (nI 2), .ref a1, .ref a2, .ref a3, .ref a4, .ref a5, .ref a6, .ref a7, .ref a8, .int fi, .int le])), (a1, .inl (g 0, 240, .inl pl)), (a2, .inl (g 1, 240, .inl wr)), (a3, .inl (g 1, 240, .inl pg)), (a4, .inl (g 0, 240, .inl pv)), (a5, .inl (g 0, 4, .inl sz)), (a6, .inl (g 0, 80, .inl ow)), (a7, .inl (g 0, 80, .inl vl)), (a8, .inl (g 0, 60, .inl bf))] := by
  refine ww_start (by decide +kernel) rfl rfl (Nat.le_of_ble_eq_true rfl) (L0 := [(0, .ref m), (1, .int (nI f)), (2, .int (nI b)), (3, .int x)]) rfl ?_
  intro X O hl hD hg hR hn F
  subst hl hD hg
  refine ww_aload_n O dd_MO_punch_0 0 rfl ?_
  refine ww_iload_n O dd_MO_punch_1 1 rfl ?_
  refine ww_callS O (cc_MO_noFile _ _ _ (nI f) ) lc_MO_79 ls_MO_noFile_I_Z (by rw [hR]; decide) (by rw [hR]; decide) (by rw [hR]; decide) rfl (Nat.le_of_ble_eq_true rfl) dd_MO_punch_2 rfl [] [0, 1, 2, 3, 4, 5, 6, 7, 8] [0, 1, 2, 3, 4, 5, 6, 7, 8] rfl (by decide) rfl (by decide) (by decide) (ws' := [(m, .inr (3, [.int cd, .ref a1, .ref a2, .ref a3, .ref a4, .ref a5, .ref a6, .ref a7, .ref a8, .int fi, .int le])), (a1, .inl (ww_g X 0, 240, .inl pl)), (a2, .inl (ww_g X 1, 240, .inl wr)), (a3, .inl (ww_g X 1, 240, .inl pg)), (a4, .inl (ww_g X 0, 240, .inl pv)), (a5, .inl (ww_g X 0, 4, .inl sz)), (a6, .inl (ww_g X 0, 80, .inl ow)), (a7, .inl (ww_g X 0, 80, .inl vl)), (a8, .inl (ww_g X 0, 60, .inl bf))]) rfl rfl (by decide) ?_
  rw [px_nf_nI (k := 3) (by omega) (by decide)]
  refine ww_if_neB O dd_MO_punch_5 (tgt := 15) rfl (fun h5 => ?_) (fun h5 => ?_)
  · exact absurd h5 (by decide)
  · refine ww_iload_n O dd_MO_punch_8 2 rfl ?_
    refine ww_callS O (cc_MO_noBlock _ _ _ (nI b) ) lc_MO_82 ls_MO_noBlock_I_Z (by rw [hR]; decide) (by rw [hR]; decide) (by rw [hR]; decide) rfl (Nat.le_of_ble_eq_true rfl) dd_MO_punch_9 rfl [] [0, 1, 2, 3, 4, 5, 6, 7, 8] [0, 1, 2, 3, 4, 5, 6, 7, 8] rfl (by decide) rfl (by decide) (by decide) (ws' := [(m, .inr (3, [.int cd, .ref a1, .ref a2, .ref a3, .ref a4, .ref a5, .ref a6, .ref a7, .ref a8, .int fi, .int le])), (a1, .inl (ww_g X 0, 240, .inl pl)), (a2, .inl (ww_g X 1, 240, .inl wr)), (a3, .inl (ww_g X 1, 240, .inl pg)), (a4, .inl (ww_g X 0, 240, .inl pv)), (a5, .inl (ww_g X 0, 4, .inl sz)), (a6, .inl (ww_g X 0, 80, .inl ow)), (a7, .inl (ww_g X 0, 80, .inl vl)), (a8, .inl (ww_g X 0, 60, .inl bf))]) rfl rfl (by decide) ?_
    rw [px_nf_nI (k := 59) (by omega) (by decide)]
    refine ww_if_eqB O dd_MO_punch_12 (tgt := 19) rfl (fun h12 => ?_) (fun h12 => ?_)
    · refine ww_iload_n O dd_MO_punch_19 3 rfl ?_
      refine ww_iconst O dd_MO_punch_20 (v := nI 1) rfl ?_
      refine ww_icmp_lt O dd_MO_punch_21 (tgt := 32) rfl (fun h21 => ?_) (fun h21 => ?_)
      · refine ww_iconst O dd_MO_punch_32 (v := nI 2) rfl ?_
        refine ww_goto O dd_MO_punch_33 (tgt := 37) rfl ?_
        refine ww_put O ci_MO cy_MO cy_MO_ok cn_MO rfl 0 (by decide) lf_MO_35 rfl rfl (ty := .int) (by decide +kernel) dd_MO_punch_37 0 rfl rfl rfl (Nat.le_of_ble_eq_true rfl) (ws' := [(m, .inr (3, [.int (nI 2), .ref a1, .ref a2, .ref a3, .ref a4, .ref a5, .ref a6, .ref a7, .ref a8, .int fi, .int le])), (a1, .inl (ww_g X 0, 240, .inl pl)), (a2, .inl (ww_g X 1, 240, .inl wr)), (a3, .inl (ww_g X 1, 240, .inl pg)), (a4, .inl (ww_g X 0, 240, .inl pv)), (a5, .inl (ww_g X 0, 4, .inl sz)), (a6, .inl (ww_g X 0, 80, .inl ow)), (a7, .inl (ww_g X 0, 80, .inl vl)), (a8, .inl (ww_g X 0, 60, .inl bf))]) rfl ?_
        refine ww_aload_n O dd_MO_punch_40 0 rfl ?_
        refine ww_get O ci_MO rfl 0 (by decide) lf_MO_35 rfl dd_MO_punch_41 0 rfl rfl ?_
        refine ww_if_leN O dd_MO_punch_44 (tgt := 51) rfl (by omega) (fun h44 => ?_) (fun h44 => ?_)
        · exfalso; omega
        · refine ww_iconst O dd_MO_punch_47 (v := nI 0) rfl ?_
          refine ww_goto O dd_MO_punch_48 (tgt := 69) rfl ?_
          exact F.i dd_MO_punch_69
      · refine ww_iload_n O dd_MO_punch_24 3 rfl ?_
        refine ww_bipush O dd_MO_punch_25 (v := nI 60) rfl ?_
        refine ww_iload_n O dd_MO_punch_27 2 rfl ?_
        refine ww_isub O dd_MO_punch_28 (v := nI (60 - b)) (pk_sub (by omega)) ?_
        refine ww_icmp_le O dd_MO_punch_29 (tgt := 36) rfl (fun h29 => ?_) (fun h29 => ?_)
        · exact absurd h29 (hbad.elim (fun q => absurd q h21) id)
        · refine ww_iconst O dd_MO_punch_32 (v := nI 2) rfl ?_
          refine ww_goto O dd_MO_punch_33 (tgt := 37) rfl ?_
          refine ww_put O ci_MO cy_MO cy_MO_ok cn_MO rfl 0 (by decide) lf_MO_35 rfl rfl (ty := .int) (by decide +kernel) dd_MO_punch_37 0 rfl rfl rfl (Nat.le_of_ble_eq_true rfl) (ws' := [(m, .inr (3, [.int (nI 2), .ref a1, .ref a2, .ref a3, .ref a4, .ref a5, .ref a6, .ref a7, .ref a8, .int fi, .int le])), (a1, .inl (ww_g X 0, 240, .inl pl)), (a2, .inl (ww_g X 1, 240, .inl wr)), (a3, .inl (ww_g X 1, 240, .inl pg)), (a4, .inl (ww_g X 0, 240, .inl pv)), (a5, .inl (ww_g X 0, 4, .inl sz)), (a6, .inl (ww_g X 0, 80, .inl ow)), (a7, .inl (ww_g X 0, 80, .inl vl)), (a8, .inl (ww_g X 0, 60, .inl bf))]) rfl ?_
          refine ww_aload_n O dd_MO_punch_40 0 rfl ?_
          refine ww_get O ci_MO rfl 0 (by decide) lf_MO_35 rfl dd_MO_punch_41 0 rfl rfl ?_
          refine ww_if_leN O dd_MO_punch_44 (tgt := 51) rfl (by omega) (fun h44 => ?_) (fun h44 => ?_)
          · exfalso; omega
          · refine ww_iconst O dd_MO_punch_47 (v := nI 0) rfl ?_
            refine ww_goto O dd_MO_punch_48 (tgt := 69) rfl ?_
            exact F.i dd_MO_punch_69
    · exact absurd h12 (by decide)
set_option maxRecDepth 4000 in
theorem cc_MO_punch (l : Launch) (D : va_G) (g : Nat → ClassId) (m : Nat) (a1 : Nat) (a2 : Nat) (a3 : Nat) (a4 : Nat) (a5 : Nat) (a6 : Nat) (a7 : Nat) (a8 : Nat) (cd : Int32) (fi : Int32) (le : Int32) (pl : Nat → Int32) (wr : Nat → Int32) (pg : Nat → Int32) (pv : Nat → Int32) (sz : Nat → Int32) (ow : Nat → Int32) (vl : Nat → Int32) (bf : Nat → Int32) (f : Nat) (b : Nat) (n : Nat) (hr : ∀ b, b < 240 → px_rg (pl b)) (hf : f < 4) (hb : b < 60) (hn1 : 0 < n) (hn : n ≤ 60 - b) : ww_ct l D g yy_MO_punch bb_MO_punch 4 (some .int) (ww_rm 3) [.ref m, .int (nI f), .int (nI b), .int (nI n)] [(m, .inr (3, [.int cd, .ref a1, .ref a2, .ref a3, .ref a4, .ref a5, .ref a6, .ref a7, .ref a8, .int fi, .int le])), (a1, .inl (g 0, 240, .inl pl)), (a2, .inl (g 1, 240, .inl wr)), (a3, .inl (g 1, 240, .inl pg)), (a4, .inl (g 0, 240, .inl pv)), (a5, .inl (g 0, 4, .inl sz)), (a6, .inl (g 0, 80, .inl ow)), (a7, .inl (g 0, 80, .inl vl)), (a8, .inl (g 0, 60, .inl bf))] (some (.int (nI (px_cnt (fun j => !px_hole pl j) (60 * f + b) n)))) [(m, .inr (3, [.int (nI 0), .ref a1, .ref a2, .ref a3, .ref a4, .ref a5, .ref a6, .ref a7, .ref a8, .int fi, .int le])), (a1, .inl (g 0, 240, .inl (px_fill pl (60 * f + b) n (-1)))), (a2, .inl (g 1, 240, .inl (px_fill wr (60 * f + b) n (nI 0)))), (a3, .inl (g 1, 240, .inl (px_fill pg (60 * f + b) n (nI 0)))), (a4, .inl (g 0, 240, .inl pv)), (a5, .inl (g 0, 4, .inl sz)), (a6, .inl (g 0, 80, .inl (px_rel (fun _ => true) pl n (60 * f + b) ow))), (a7, .inl (g 0, 80, .inl vl)), (a8, .inl (g 0, 60, .inl bf))] := by
  refine ww_start (by decide +kernel) rfl rfl (Nat.le_of_ble_eq_true rfl) (L0 := [(0, .ref m), (1, .int (nI f)), (2, .int (nI b)), (3, .int (nI n))]) rfl ?_
  intro X O hl hD hg hR hn F
  subst hl hD hg
  have hsub : 60 * f + b + n - (60 * f + b) = n := by omega
  refine ww_aload_n O dd_MO_punch_0 0 rfl ?_
  refine ww_iload_n O dd_MO_punch_1 1 rfl ?_
  refine ww_callS O (cc_MO_noFile _ _ _ (nI f) ) lc_MO_79 ls_MO_noFile_I_Z (by rw [hR]; decide) (by rw [hR]; decide) (by rw [hR]; decide) rfl (Nat.le_of_ble_eq_true rfl) dd_MO_punch_2 rfl [] [0, 1, 2, 3, 4, 5, 6, 7, 8] [0, 1, 2, 3, 4, 5, 6, 7, 8] rfl (by decide) rfl (by decide) (by decide) (ws' := [(m, .inr (3, [.int cd, .ref a1, .ref a2, .ref a3, .ref a4, .ref a5, .ref a6, .ref a7, .ref a8, .int fi, .int le])), (a1, .inl (ww_g X 0, 240, .inl pl)), (a2, .inl (ww_g X 1, 240, .inl wr)), (a3, .inl (ww_g X 1, 240, .inl pg)), (a4, .inl (ww_g X 0, 240, .inl pv)), (a5, .inl (ww_g X 0, 4, .inl sz)), (a6, .inl (ww_g X 0, 80, .inl ow)), (a7, .inl (ww_g X 0, 80, .inl vl)), (a8, .inl (ww_g X 0, 60, .inl bf))]) rfl rfl (by decide) ?_
  rw [px_nf_nI (k := 3) (by omega) (by decide)]
  refine ww_if_neB O dd_MO_punch_5 (tgt := 15) rfl (fun h5 => ?_) (fun h5 => ?_)
  · exact absurd h5 (by decide)
  · refine ww_iload_n O dd_MO_punch_8 2 rfl ?_
    refine ww_callS O (cc_MO_noBlock _ _ _ (nI b) ) lc_MO_82 ls_MO_noBlock_I_Z (by rw [hR]; decide) (by rw [hR]; decide) (by rw [hR]; decide) rfl (Nat.le_of_ble_eq_true rfl) dd_MO_punch_9 rfl [] [0, 1, 2, 3, 4, 5, 6, 7, 8] [0, 1, 2, 3, 4, 5, 6, 7, 8] rfl (by decide) rfl (by decide) (by decide) (ws' := [(m, .inr (3, [.int cd, .ref a1, .ref a2, .ref a3, .ref a4, .ref a5, .ref a6, .ref a7, .ref a8, .int fi, .int le])), (a1, .inl (ww_g X 0, 240, .inl pl)), (a2, .inl (ww_g X 1, 240, .inl wr)), (a3, .inl (ww_g X 1, 240, .inl pg)), (a4, .inl (ww_g X 0, 240, .inl pv)), (a5, .inl (ww_g X 0, 4, .inl sz)), (a6, .inl (ww_g X 0, 80, .inl ow)), (a7, .inl (ww_g X 0, 80, .inl vl)), (a8, .inl (ww_g X 0, 60, .inl bf))]) rfl rfl (by decide) ?_
    rw [px_nf_nI (k := 59) (by omega) (by decide)]
    refine ww_if_eqB O dd_MO_punch_12 (tgt := 19) rfl (fun h12 => ?_) (fun h12 => ?_)
    · refine ww_iload_n O dd_MO_punch_19 3 rfl ?_
      refine ww_iconst O dd_MO_punch_20 (v := nI 1) rfl ?_
      refine ww_icmp_ltN O dd_MO_punch_21 (tgt := 32) rfl (by omega) (by omega) (fun h21 => ?_) (fun h21 => ?_)
      · exfalso; omega
      · refine ww_iload_n O dd_MO_punch_24 3 rfl ?_
        refine ww_bipush O dd_MO_punch_25 (v := nI 60) rfl ?_
        refine ww_iload_n O dd_MO_punch_27 2 rfl ?_
        refine ww_isub O dd_MO_punch_28 (v := nI (60 - b)) (pk_sub (by omega)) ?_
        refine ww_icmp_leN O dd_MO_punch_29 (tgt := 36) rfl (by omega) (by omega) (fun h29 => ?_) (fun h29 => ?_)
        · refine ww_iconst O dd_MO_punch_36 (v := nI 0) rfl ?_
          refine ww_put O ci_MO cy_MO cy_MO_ok cn_MO rfl 0 (by decide) lf_MO_35 rfl rfl (ty := .int) (by decide +kernel) dd_MO_punch_37 0 rfl rfl rfl (Nat.le_of_ble_eq_true rfl) (ws' := [(m, .inr (3, [.int (nI 0), .ref a1, .ref a2, .ref a3, .ref a4, .ref a5, .ref a6, .ref a7, .ref a8, .int fi, .int le])), (a1, .inl (ww_g X 0, 240, .inl pl)), (a2, .inl (ww_g X 1, 240, .inl wr)), (a3, .inl (ww_g X 1, 240, .inl pg)), (a4, .inl (ww_g X 0, 240, .inl pv)), (a5, .inl (ww_g X 0, 4, .inl sz)), (a6, .inl (ww_g X 0, 80, .inl ow)), (a7, .inl (ww_g X 0, 80, .inl vl)), (a8, .inl (ww_g X 0, 60, .inl bf))]) rfl ?_
          refine ww_aload_n O dd_MO_punch_40 0 rfl ?_
          refine ww_get O ci_MO rfl 0 (by decide) lf_MO_35 rfl dd_MO_punch_41 0 rfl rfl ?_
          refine ww_if_leN O dd_MO_punch_44 (tgt := 51) rfl (by omega) (fun h44 => ?_) (fun h44 => ?_)
          · refine ww_aload_n O dd_MO_punch_51 0 rfl ?_
            refine ww_bipush O dd_MO_punch_52 (v := nI 60) rfl ?_
            refine ww_iload_n O dd_MO_punch_54 1 rfl ?_
            refine ww_imul O dd_MO_punch_55 (v := nI (60 * f)) (pk_mul _ _) ?_
            refine ww_iload_n O dd_MO_punch_56 2 rfl ?_
            refine ww_iadd O dd_MO_punch_57 (v := nI ((60 * f) + b)) (nI_add _ _) ?_
            refine ww_bipush O dd_MO_punch_58 (v := nI 60) rfl ?_
            refine ww_iload_n O dd_MO_punch_60 1 rfl ?_
            refine ww_imul O dd_MO_punch_61 (v := nI (60 * f)) (pk_mul _ _) ?_
            refine ww_iload_n O dd_MO_punch_62 2 rfl ?_
            refine ww_iadd O dd_MO_punch_63 (v := nI ((60 * f) + b)) (nI_add _ _) ?_
            refine ww_iload_n O dd_MO_punch_64 3 rfl ?_
            refine ww_iadd O dd_MO_punch_65 (v := nI (((60 * f) + b) + n)) (nI_add _ _) ?_
            refine ww_callV (q0 := 0) (ci := 3) O (cc_MO_empty _ _ _ m a1 a2 a3 a4 a5 a6 a7 a8 (nI 0) fi le pl wr pg pv sz ow vl bf ((60 * f) + b) (((60 * f) + b) + n) (by omega) (by omega) (by omega)) lc_MO_100 lx_MO_empty_II_I rfl rfl rfl (by rw [hR]; decide) (by rw [hR]; decide) (by rw [hR]; decide) rfl (Nat.le_of_ble_eq_true rfl) dd_MO_punch_66 rfl [0, 1, 2, 3, 4, 5, 6, 7, 8] [] [0, 1, 2, 3, 4, 5, 6, 7, 8] rfl (by decide) rfl (by decide) (by decide) (ws' := [(m, .inr (3, [.int (nI 0), .ref a1, .ref a2, .ref a3, .ref a4, .ref a5, .ref a6, .ref a7, .ref a8, .int fi, .int le])), (a1, .inl (ww_g X 0, 240, .inl (px_fill pl (((60 * f) + b)) ((((60 * f) + b) + n) - (((60 * f) + b))) (-1)))), (a2, .inl (ww_g X 1, 240, .inl (px_fill wr (((60 * f) + b)) ((((60 * f) + b) + n) - (((60 * f) + b))) (nI 0)))), (a3, .inl (ww_g X 1, 240, .inl (px_fill pg (((60 * f) + b)) ((((60 * f) + b) + n) - (((60 * f) + b))) (nI 0)))), (a4, .inl (ww_g X 0, 240, .inl pv)), (a5, .inl (ww_g X 0, 4, .inl sz)), (a6, .inl (ww_g X 0, 80, .inl (px_rel (fun _ => true) pl ((((60 * f) + b) + n) - (((60 * f) + b))) (((60 * f) + b)) ow))), (a7, .inl (ww_g X 0, 80, .inl vl)), (a8, .inl (ww_g X 0, 60, .inl bf))]) rfl rfl (by decide) ?_
            rw [hsub]
            exact F.i dd_MO_punch_69
          · exfalso; omega
        · exfalso; omega
    · exact absurd h12 (by decide)
set_option maxRecDepth 4000 in
theorem cc_MO_truncate_bad1 (l : Launch) (D : va_G) (g : Nat → ClassId) (m : Nat) (a1 : Nat) (a2 : Nat) (a3 : Nat) (a4 : Nat) (a5 : Nat) (a6 : Nat) (a7 : Nat) (a8 : Nat) (cd : Int32) (fi : Int32) (le : Int32) (pl : Nat → Int32) (wr : Nat → Int32) (pg : Nat → Int32) (pv : Nat → Int32) (sz : Nat → Int32) (ow : Nat → Int32) (vl : Nat → Int32) (bf : Nat → Int32) (x : Int32) (y : Int32) (hbad : px_nf x 3 = true) : ww_ct l D g yy_MO_truncate bb_MO_truncate 3 (some .int) (ww_rm 3) [.ref m, .int x, .int y] [(m, .inr (3, [.int cd, .ref a1, .ref a2, .ref a3, .ref a4, .ref a5, .ref a6, .ref a7, .ref a8, .int fi, .int le])), (a1, .inl (g 0, 240, .inl pl)), (a2, .inl (g 1, 240, .inl wr)), (a3, .inl (g 1, 240, .inl pg)), (a4, .inl (g 0, 240, .inl pv)), (a5, .inl (g 0, 4, .inl sz)), (a6, .inl (g 0, 80, .inl ow)), (a7, .inl (g 0, 80, .inl vl)), (a8, .inl (g 0, 60, .inl bf))] (some (.int (nI 0))) [(m, .inr (3, [.int (nI 1), .ref a1, .ref a2, .ref a3, .ref a4, .ref a5, .ref a6, .ref a7, .ref a8, .int fi, .int le])), (a1, .inl (g 0, 240, .inl pl)), (a2, .inl (g 1, 240, .inl wr)), (a3, .inl (g 1, 240, .inl pg)), (a4, .inl (g 0, 240, .inl pv)), (a5, .inl (g 0, 4, .inl sz)), (a6, .inl (g 0, 80, .inl ow)), (a7, .inl (g 0, 80, .inl vl)), (a8, .inl (g 0, 60, .inl bf))] := by
  refine ww_start (by decide +kernel) rfl rfl (Nat.le_of_ble_eq_true rfl) (L0 := [(0, .ref m), (1, .int x), (2, .int y)]) rfl ?_
  intro X O hl hD hg hR hn F
  subst hl hD hg
  refine ww_aload_n O dd_MO_truncate_0 0 rfl ?_
  refine ww_iload_n O dd_MO_truncate_1 1 rfl ?_
  refine ww_callS O (cc_MO_noFile _ _ _ x ) lc_MO_79 ls_MO_noFile_I_Z (by rw [hR]; decide) (by rw [hR]; decide) (by rw [hR]; decide) rfl (Nat.le_of_ble_eq_true rfl) dd_MO_truncate_2 rfl [] [0, 1, 2, 3, 4, 5, 6, 7, 8] [0, 1, 2, 3, 4, 5, 6, 7, 8] rfl (by decide) rfl (by decide) (by decide) (ws' := [(m, .inr (3, [.int cd, .ref a1, .ref a2, .ref a3, .ref a4, .ref a5, .ref a6, .ref a7, .ref a8, .int fi, .int le])), (a1, .inl (ww_g X 0, 240, .inl pl)), (a2, .inl (ww_g X 1, 240, .inl wr)), (a3, .inl (ww_g X 1, 240, .inl pg)), (a4, .inl (ww_g X 0, 240, .inl pv)), (a5, .inl (ww_g X 0, 4, .inl sz)), (a6, .inl (ww_g X 0, 80, .inl ow)), (a7, .inl (ww_g X 0, 80, .inl vl)), (a8, .inl (ww_g X 0, 60, .inl bf))]) rfl rfl (by decide) ?_
  refine ww_if_eqB O dd_MO_truncate_5 (tgt := 12) rfl (fun h5 => ?_) (fun h5 => ?_)
  · rw [hbad] at h5; exact absurd h5 (by decide)
  · refine ww_iconst O dd_MO_truncate_8 (v := nI 1) rfl ?_
    refine ww_goto O dd_MO_truncate_9 (tgt := 27) rfl ?_
    refine ww_put O ci_MO cy_MO cy_MO_ok cn_MO rfl 0 (by decide) lf_MO_35 rfl rfl (ty := .int) (by decide +kernel) dd_MO_truncate_27 0 rfl rfl rfl (Nat.le_of_ble_eq_true rfl) (ws' := [(m, .inr (3, [.int (nI 1), .ref a1, .ref a2, .ref a3, .ref a4, .ref a5, .ref a6, .ref a7, .ref a8, .int fi, .int le])), (a1, .inl (ww_g X 0, 240, .inl pl)), (a2, .inl (ww_g X 1, 240, .inl wr)), (a3, .inl (ww_g X 1, 240, .inl pg)), (a4, .inl (ww_g X 0, 240, .inl pv)), (a5, .inl (ww_g X 0, 4, .inl sz)), (a6, .inl (ww_g X 0, 80, .inl ow)), (a7, .inl (ww_g X 0, 80, .inl vl)), (a8, .inl (ww_g X 0, 60, .inl bf))]) rfl ?_
    refine ww_aload_n O dd_MO_truncate_30 0 rfl ?_
    refine ww_get O ci_MO rfl 0 (by decide) lf_MO_35 rfl dd_MO_truncate_31 0 rfl rfl ?_
    refine ww_if_leN O dd_MO_truncate_34 (tgt := 39) rfl (by omega) (fun h34 => ?_) (fun h34 => ?_)
    · exfalso; omega
    · refine ww_iconst O dd_MO_truncate_37 (v := nI 0) rfl ?_
      exact F.i dd_MO_truncate_38
set_option maxRecDepth 4000 in
theorem cc_MO_truncate_bad2 (l : Launch) (D : va_G) (g : Nat → ClassId) (m : Nat) (a1 : Nat) (a2 : Nat) (a3 : Nat) (a4 : Nat) (a5 : Nat) (a6 : Nat) (a7 : Nat) (a8 : Nat) (cd : Int32) (fi : Int32) (le : Int32) (pl : Nat → Int32) (wr : Nat → Int32) (pg : Nat → Int32) (pv : Nat → Int32) (sz : Nat → Int32) (ow : Nat → Int32) (vl : Nat → Int32) (bf : Nat → Int32) (f : Nat) (x : Int32) (hf : f < 4) (hbad : x < 0 ∨ ¬ x ≤ nI 60) : ww_ct l D g yy_MO_truncate bb_MO_truncate 3 (some .int) (ww_rm 3) [.ref m, .int (nI f), .int x] [(m, .inr (3, [.int cd, .ref a1, .ref a2, .ref a3, .ref a4, .ref a5, .ref a6, .ref a7, .ref a8, .int fi, .int le])), (a1, .inl (g 0, 240, .inl pl)), (a2, .inl (g 1, 240, .inl wr)), (a3, .inl (g 1, 240, .inl pg)), (a4, .inl (g 0, 240, .inl pv)), (a5, .inl (g 0, 4, .inl sz)), (a6, .inl (g 0, 80, .inl ow)), (a7, .inl (g 0, 80, .inl vl)), (a8, .inl (g 0, 60, .inl bf))] (some (.int (nI 0))) [(m, .inr (3, [.int (nI 2), .ref a1, .ref a2, .ref a3, .ref a4, .ref a5, .ref a6, .ref a7, .ref a8, .int fi, .int le])), (a1, .inl (g 0, 240, .inl pl)), (a2, .inl (g 1, 240, .inl wr)), (a3, .inl (g 1, 240, .inl pg)), (a4, .inl (g 0, 240, .inl pv)), (a5, .inl (g 0, 4, .inl sz)), (a6, .inl (g 0, 80, .inl ow)), (a7, .inl (g 0, 80, .inl vl)), (a8, .inl (g 0, 60, .inl bf))] := by
  refine ww_start (by decide +kernel) rfl rfl (Nat.le_of_ble_eq_true rfl) (L0 := [(0, .ref m), (1, .int (nI f)), (2, .int x)]) rfl ?_
  intro X O hl hD hg hR hn F
  subst hl hD hg
  refine ww_aload_n O dd_MO_truncate_0 0 rfl ?_
  refine ww_iload_n O dd_MO_truncate_1 1 rfl ?_
  refine ww_callS O (cc_MO_noFile _ _ _ (nI f) ) lc_MO_79 ls_MO_noFile_I_Z (by rw [hR]; decide) (by rw [hR]; decide) (by rw [hR]; decide) rfl (Nat.le_of_ble_eq_true rfl) dd_MO_truncate_2 rfl [] [0, 1, 2, 3, 4, 5, 6, 7, 8] [0, 1, 2, 3, 4, 5, 6, 7, 8] rfl (by decide) rfl (by decide) (by decide) (ws' := [(m, .inr (3, [.int cd, .ref a1, .ref a2, .ref a3, .ref a4, .ref a5, .ref a6, .ref a7, .ref a8, .int fi, .int le])), (a1, .inl (ww_g X 0, 240, .inl pl)), (a2, .inl (ww_g X 1, 240, .inl wr)), (a3, .inl (ww_g X 1, 240, .inl pg)), (a4, .inl (ww_g X 0, 240, .inl pv)), (a5, .inl (ww_g X 0, 4, .inl sz)), (a6, .inl (ww_g X 0, 80, .inl ow)), (a7, .inl (ww_g X 0, 80, .inl vl)), (a8, .inl (ww_g X 0, 60, .inl bf))]) rfl rfl (by decide) ?_
  rw [px_nf_nI (k := 3) (by omega) (by decide)]
  refine ww_if_eqB O dd_MO_truncate_5 (tgt := 12) rfl (fun h5 => ?_) (fun h5 => ?_)
  · refine ww_iload_n O dd_MO_truncate_12 2 rfl ?_
    refine ww_if_lt O dd_MO_truncate_13 (tgt := 22) rfl (fun h13 => ?_) (fun h13 => ?_)
    · refine ww_iconst O dd_MO_truncate_22 (v := nI 2) rfl ?_
      refine ww_goto O dd_MO_truncate_23 (tgt := 27) rfl ?_
      refine ww_put O ci_MO cy_MO cy_MO_ok cn_MO rfl 0 (by decide) lf_MO_35 rfl rfl (ty := .int) (by decide +kernel) dd_MO_truncate_27 0 rfl rfl rfl (Nat.le_of_ble_eq_true rfl) (ws' := [(m, .inr (3, [.int (nI 2), .ref a1, .ref a2, .ref a3, .ref a4, .ref a5, .ref a6, .ref a7, .ref a8, .int fi, .int le])), (a1, .inl (ww_g X 0, 240, .inl pl)), (a2, .inl (ww_g X 1, 240, .inl wr)), (a3, .inl (ww_g X 1, 240, .inl pg)), (a4, .inl (ww_g X 0, 240, .inl pv)), (a5, .inl (ww_g X 0, 4, .inl sz)), (a6, .inl (ww_g X 0, 80, .inl ow)), (a7, .inl (ww_g X 0, 80, .inl vl)), (a8, .inl (ww_g X 0, 60, .inl bf))]) rfl ?_
      refine ww_aload_n O dd_MO_truncate_30 0 rfl ?_
      refine ww_get O ci_MO rfl 0 (by decide) lf_MO_35 rfl dd_MO_truncate_31 0 rfl rfl ?_
      refine ww_if_leN O dd_MO_truncate_34 (tgt := 39) rfl (by omega) (fun h34 => ?_) (fun h34 => ?_)
      · exfalso; omega
      · refine ww_iconst O dd_MO_truncate_37 (v := nI 0) rfl ?_
        exact F.i dd_MO_truncate_38
    · refine ww_iload_n O dd_MO_truncate_16 2 rfl ?_
      refine ww_bipush O dd_MO_truncate_17 (v := nI 60) rfl ?_
      refine ww_icmp_le O dd_MO_truncate_19 (tgt := 26) rfl (fun h19 => ?_) (fun h19 => ?_)
      · exact absurd h19 (hbad.elim (fun q => absurd q h13) id)
      · refine ww_iconst O dd_MO_truncate_22 (v := nI 2) rfl ?_
        refine ww_goto O dd_MO_truncate_23 (tgt := 27) rfl ?_
        refine ww_put O ci_MO cy_MO cy_MO_ok cn_MO rfl 0 (by decide) lf_MO_35 rfl rfl (ty := .int) (by decide +kernel) dd_MO_truncate_27 0 rfl rfl rfl (Nat.le_of_ble_eq_true rfl) (ws' := [(m, .inr (3, [.int (nI 2), .ref a1, .ref a2, .ref a3, .ref a4, .ref a5, .ref a6, .ref a7, .ref a8, .int fi, .int le])), (a1, .inl (ww_g X 0, 240, .inl pl)), (a2, .inl (ww_g X 1, 240, .inl wr)), (a3, .inl (ww_g X 1, 240, .inl pg)), (a4, .inl (ww_g X 0, 240, .inl pv)), (a5, .inl (ww_g X 0, 4, .inl sz)), (a6, .inl (ww_g X 0, 80, .inl ow)), (a7, .inl (ww_g X 0, 80, .inl vl)), (a8, .inl (ww_g X 0, 60, .inl bf))]) rfl ?_
        refine ww_aload_n O dd_MO_truncate_30 0 rfl ?_
        refine ww_get O ci_MO rfl 0 (by decide) lf_MO_35 rfl dd_MO_truncate_31 0 rfl rfl ?_
        refine ww_if_leN O dd_MO_truncate_34 (tgt := 39) rfl (by omega) (fun h34 => ?_) (fun h34 => ?_)
        · exfalso; omega
        · refine ww_iconst O dd_MO_truncate_37 (v := nI 0) rfl ?_
          exact F.i dd_MO_truncate_38
  · exact absurd h5 (by decide)
set_option maxRecDepth 4000 in
theorem cc_MO_truncate (l : Launch) (D : va_G) (g : Nat → ClassId) (m : Nat) (a1 : Nat) (a2 : Nat) (a3 : Nat) (a4 : Nat) (a5 : Nat) (a6 : Nat) (a7 : Nat) (a8 : Nat) (cd : Int32) (fi : Int32) (le : Int32) (pl : Nat → Int32) (wr : Nat → Int32) (pg : Nat → Int32) (pv : Nat → Int32) (sz : Nat → Int32) (ow : Nat → Int32) (vl : Nat → Int32) (bf : Nat → Int32) (f : Nat) (b : Nat) (hr : ∀ b, b < 240 → px_rg (pl b)) (hf : f < 4) (hb : b ≤ 60) : ww_ct l D g yy_MO_truncate bb_MO_truncate 3 (some .int) (ww_rm 3) [.ref m, .int (nI f), .int (nI b)] [(m, .inr (3, [.int cd, .ref a1, .ref a2, .ref a3, .ref a4, .ref a5, .ref a6, .ref a7, .ref a8, .int fi, .int le])), (a1, .inl (g 0, 240, .inl pl)), (a2, .inl (g 1, 240, .inl wr)), (a3, .inl (g 1, 240, .inl pg)), (a4, .inl (g 0, 240, .inl pv)), (a5, .inl (g 0, 4, .inl sz)), (a6, .inl (g 0, 80, .inl ow)), (a7, .inl (g 0, 80, .inl vl)), (a8, .inl (g 0, 60, .inl bf))] (some (.int (nI (px_cnt (fun j => !px_hole pl j) (60 * f + b) (60 - b))))) [(m, .inr (3, [.int (nI 0), .ref a1, .ref a2, .ref a3, .ref a4, .ref a5, .ref a6, .ref a7, .ref a8, .int fi, .int le])), (a1, .inl (g 0, 240, .inl (px_fill pl (60 * f + b) (60 - b) (-1)))), (a2, .inl (g 1, 240, .inl (px_fill wr (60 * f + b) (60 - b) (nI 0)))), (a3, .inl (g 1, 240, .inl (px_fill pg (60 * f + b) (60 - b) (nI 0)))), (a4, .inl (g 0, 240, .inl pv)), (a5, .inl (g 0, 4, .inl (upd sz f (nI b)))), (a6, .inl (g 0, 80, .inl (px_rel (fun _ => true) pl (60 - b) (60 * f + b) ow))), (a7, .inl (g 0, 80, .inl vl)), (a8, .inl (g 0, 60, .inl bf))] := by
  refine ww_start (by decide +kernel) rfl rfl (Nat.le_of_ble_eq_true rfl) (L0 := [(0, .ref m), (1, .int (nI f)), (2, .int (nI b))]) rfl ?_
  intro X O hl hD hg hR hn F
  subst hl hD hg
  have hsub : 60 * f + 60 - (60 * f + b) = 60 - b := by omega
  refine ww_aload_n O dd_MO_truncate_0 0 rfl ?_
  refine ww_iload_n O dd_MO_truncate_1 1 rfl ?_
  refine ww_callS O (cc_MO_noFile _ _ _ (nI f) ) lc_MO_79 ls_MO_noFile_I_Z (by rw [hR]; decide) (by rw [hR]; decide) (by rw [hR]; decide) rfl (Nat.le_of_ble_eq_true rfl) dd_MO_truncate_2 rfl [] [0, 1, 2, 3, 4, 5, 6, 7, 8] [0, 1, 2, 3, 4, 5, 6, 7, 8] rfl (by decide) rfl (by decide) (by decide) (ws' := [(m, .inr (3, [.int cd, .ref a1, .ref a2, .ref a3, .ref a4, .ref a5, .ref a6, .ref a7, .ref a8, .int fi, .int le])), (a1, .inl (ww_g X 0, 240, .inl pl)), (a2, .inl (ww_g X 1, 240, .inl wr)), (a3, .inl (ww_g X 1, 240, .inl pg)), (a4, .inl (ww_g X 0, 240, .inl pv)), (a5, .inl (ww_g X 0, 4, .inl sz)), (a6, .inl (ww_g X 0, 80, .inl ow)), (a7, .inl (ww_g X 0, 80, .inl vl)), (a8, .inl (ww_g X 0, 60, .inl bf))]) rfl rfl (by decide) ?_
  rw [px_nf_nI (k := 3) (by omega) (by decide)]
  refine ww_if_eqB O dd_MO_truncate_5 (tgt := 12) rfl (fun h5 => ?_) (fun h5 => ?_)
  · refine ww_iload_n O dd_MO_truncate_12 2 rfl ?_
    refine ww_if_ltN O dd_MO_truncate_13 (tgt := 22) rfl (by omega) (fun h13 => ?_) (fun h13 => ?_)
    · exfalso; omega
    · refine ww_iload_n O dd_MO_truncate_16 2 rfl ?_
      refine ww_bipush O dd_MO_truncate_17 (v := nI 60) rfl ?_
      refine ww_icmp_leN O dd_MO_truncate_19 (tgt := 26) rfl (by omega) (by omega) (fun h19 => ?_) (fun h19 => ?_)
      · refine ww_iconst O dd_MO_truncate_26 (v := nI 0) rfl ?_
        refine ww_put O ci_MO cy_MO cy_MO_ok cn_MO rfl 0 (by decide) lf_MO_35 rfl rfl (ty := .int) (by decide +kernel) dd_MO_truncate_27 0 rfl rfl rfl (Nat.le_of_ble_eq_true rfl) (ws' := [(m, .inr (3, [.int (nI 0), .ref a1, .ref a2, .ref a3, .ref a4, .ref a5, .ref a6, .ref a7, .ref a8, .int fi, .int le])), (a1, .inl (ww_g X 0, 240, .inl pl)), (a2, .inl (ww_g X 1, 240, .inl wr)), (a3, .inl (ww_g X 1, 240, .inl pg)), (a4, .inl (ww_g X 0, 240, .inl pv)), (a5, .inl (ww_g X 0, 4, .inl sz)), (a6, .inl (ww_g X 0, 80, .inl ow)), (a7, .inl (ww_g X 0, 80, .inl vl)), (a8, .inl (ww_g X 0, 60, .inl bf))]) rfl ?_
        refine ww_aload_n O dd_MO_truncate_30 0 rfl ?_
        refine ww_get O ci_MO rfl 0 (by decide) lf_MO_35 rfl dd_MO_truncate_31 0 rfl rfl ?_
        refine ww_if_leN O dd_MO_truncate_34 (tgt := 39) rfl (by omega) (fun h34 => ?_) (fun h34 => ?_)
        · refine ww_aload_n O dd_MO_truncate_39 0 rfl ?_
          refine ww_get O ci_MO rfl 5 (by decide) lf_MO_23 rfl dd_MO_truncate_40 0 rfl rfl ?_
          refine ww_iload_n O dd_MO_truncate_43 1 rfl ?_
          refine ww_iload_n O dd_MO_truncate_44 2 rfl ?_
          refine ww_iast O dd_MO_truncate_45 5 rfl (by omega) (by decide) (ws' := [(m, .inr (3, [.int (nI 0), .ref a1, .ref a2, .ref a3, .ref a4, .ref a5, .ref a6, .ref a7, .ref a8, .int fi, .int le])), (a1, .inl (ww_g X 0, 240, .inl pl)), (a2, .inl (ww_g X 1, 240, .inl wr)), (a3, .inl (ww_g X 1, 240, .inl pg)), (a4, .inl (ww_g X 0, 240, .inl pv)), (a5, .inl (ww_g X 0, 4, .inl (upd sz f (nI b)))), (a6, .inl (ww_g X 0, 80, .inl ow)), (a7, .inl (ww_g X 0, 80, .inl vl)), (a8, .inl (ww_g X 0, 60, .inl bf))]) rfl ?_
          refine ww_aload_n O dd_MO_truncate_46 0 rfl ?_
          refine ww_bipush O dd_MO_truncate_47 (v := nI 60) rfl ?_
          refine ww_iload_n O dd_MO_truncate_49 1 rfl ?_
          refine ww_imul O dd_MO_truncate_50 (v := nI (60 * f)) (pk_mul _ _) ?_
          refine ww_iload_n O dd_MO_truncate_51 2 rfl ?_
          refine ww_iadd O dd_MO_truncate_52 (v := nI ((60 * f) + b)) (nI_add _ _) ?_
          refine ww_bipush O dd_MO_truncate_53 (v := nI 60) rfl ?_
          refine ww_iload_n O dd_MO_truncate_55 1 rfl ?_
          refine ww_imul O dd_MO_truncate_56 (v := nI (60 * f)) (pk_mul _ _) ?_
          refine ww_bipush O dd_MO_truncate_57 (v := nI 60) rfl ?_
          refine ww_iadd O dd_MO_truncate_59 (v := nI ((60 * f) + 60)) (nI_add _ _) ?_
          refine ww_callV (q0 := 0) (ci := 3) O (cc_MO_empty _ _ _ m a1 a2 a3 a4 a5 a6 a7 a8 (nI 0) fi le pl wr pg pv (upd sz f (nI b)) ow vl bf ((60 * f) + b) ((60 * f) + 60) (by omega) (by omega) (by omega)) lc_MO_100 lx_MO_empty_II_I rfl rfl rfl (by rw [hR]; decide) (by rw [hR]; decide) (by rw [hR]; decide) rfl (Nat.le_of_ble_eq_true rfl) dd_MO_truncate_60 rfl [0, 1, 2, 3, 4, 5, 6, 7, 8] [] [0, 1, 2, 3, 4, 5, 6, 7, 8] rfl (by decide) rfl (by decide) (by decide) (ws' := [(m, .inr (3, [.int (nI 0), .ref a1, .ref a2, .ref a3, .ref a4, .ref a5, .ref a6, .ref a7, .ref a8, .int fi, .int le])), (a1, .inl (ww_g X 0, 240, .inl (px_fill pl (((60 * f) + b)) (((60 * f) + 60) - (((60 * f) + b))) (-1)))), (a2, .inl (ww_g X 1, 240, .inl (px_fill wr (((60 * f) + b)) (((60 * f) + 60) - (((60 * f) + b))) (nI 0)))), (a3, .inl (ww_g X 1, 240, .inl (px_fill pg (((60 * f) + b)) (((60 * f) + 60) - (((60 * f) + b))) (nI 0)))), (a4, .inl (ww_g X 0, 240, .inl pv)), (a5, .inl (ww_g X 0, 4, .inl (upd sz f (nI b)))), (a6, .inl (ww_g X 0, 80, .inl (px_rel (fun _ => true) pl (((60 * f) + 60) - (((60 * f) + b))) (((60 * f) + b)) ow))), (a7, .inl (ww_g X 0, 80, .inl vl)), (a8, .inl (ww_g X 0, 60, .inl bf))]) rfl rfl (by decide) ?_
          rw [hsub]
          exact F.i dd_MO_truncate_63
        · exfalso; omega
      · exfalso; omega
  · exact absurd h5 (by decide)
