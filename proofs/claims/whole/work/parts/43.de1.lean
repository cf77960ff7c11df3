theorem lf_DE_18 : Cond.fieldLink "DelayedExtents" 18 "DelayedExtents" "files" "[LDelayedExtents$BlockFile;" ∈ lw_good := List.mem_filter.mpr ⟨List.mem_of_getElem? (i := 99) (by decide +kernel), by decide +kernel⟩
theorem lc_DE_126 : ww_site "DelayedExtents" 126 yy_BF_countPages bb_BF_countPages 3 (some .int) 0 := ⟨List.mem_filter.mpr ⟨List.mem_of_getElem? (i := 116) (by decide +kernel), by decide +kernel⟩, List.mem_filter.mpr ⟨List.mem_of_getElem? (i := 113) (by decide +kernel), by decide +kernel⟩, List.mem_filter.mpr ⟨List.mem_of_getElem? (i := 29) (by decide +kernel), by decide +kernel⟩, by decide, by decide, by decide +kernel⟩
theorem lx_BF_countPages__I : ww_virt yy_BF_countPages := ⟨List.mem_filter.mpr ⟨List.mem_of_getElem? (i := 114) (by decide +kernel), by decide +kernel⟩, List.mem_filter.mpr ⟨List.mem_of_getElem? (i := 115) (by decide +kernel), by decide +kernel⟩⟩
theorem lc_DE_117 : ww_site "DelayedExtents" 117 yy_BF_countMapped bb_BF_countMapped 1 (some .int) 0 := ⟨List.mem_filter.mpr ⟨List.mem_of_getElem? (i := 132) (by decide +kernel), by decide +kernel⟩, List.mem_filter.mpr ⟨List.mem_of_getElem? (i := 129) (by decide +kernel), by decide +kernel⟩, List.mem_filter.mpr ⟨List.mem_of_getElem? (i := 29) (by decide +kernel), by decide +kernel⟩, by decide, by decide, by decide +kernel⟩
theorem lx_BF_countMapped__I : ww_virt yy_BF_countMapped := ⟨List.mem_filter.mpr ⟨List.mem_of_getElem? (i := 130) (by decide +kernel), by decide +kernel⟩, List.mem_filter.mpr ⟨List.mem_of_getElem? (i := 131) (by decide +kernel), by decide +kernel⟩⟩
theorem lc_DE_120 : ww_site "DelayedExtents" 120 yy_BF_countExtents bb_BF_countExtents 4 (some .int) 0 := ⟨List.mem_filter.mpr ⟨List.mem_of_getElem? (i := 144) (by decide +kernel), by decide +kernel⟩, List.mem_filter.mpr ⟨List.mem_of_getElem? (i := 141) (by decide +kernel), by decide +kernel⟩, List.mem_filter.mpr ⟨List.mem_of_getElem? (i := 29) (by decide +kernel), by decide +kernel⟩, by decide, by decide, by decide +kernel⟩
theorem lc_DE_123 : ww_site "DelayedExtents" 123 yy_DE_treeBlocks bb_DE_treeBlocks 1 (some .int) 1 := ⟨List.mem_filter.mpr ⟨List.mem_of_getElem? (i := 161) (by decide +kernel), by decide +kernel⟩, List.mem_filter.mpr ⟨List.mem_of_getElem? (i := 159) (by decide +kernel), by decide +kernel⟩, List.mem_filter.mpr ⟨List.mem_of_getElem? (i := 26) (by decide +kernel), by decide +kernel⟩, by decide, by decide, by decide +kernel⟩
theorem lc_DE_127 : ww_site "DelayedExtents" 127 yy_BF_countReserved bb_BF_countReserved 5 (some .int) 0 := ⟨List.mem_filter.mpr ⟨List.mem_of_getElem? (i := 169) (by decide +kernel), by decide +kernel⟩, List.mem_filter.mpr ⟨List.mem_of_getElem? (i := 166) (by decide +kernel), by decide +kernel⟩, List.mem_filter.mpr ⟨List.mem_of_getElem? (i := 29) (by decide +kernel), by decide +kernel⟩, by decide, by decide, by decide +kernel⟩
theorem lx_BF_countReserved__I : ww_virt yy_BF_countReserved := ⟨List.mem_filter.mpr ⟨List.mem_of_getElem? (i := 167) (by decide +kernel), by decide +kernel⟩, List.mem_filter.mpr ⟨List.mem_of_getElem? (i := 168) (by decide +kernel), by decide +kernel⟩⟩
theorem lc_DE_139 : ww_site "DelayedExtents" 139 yy_DE_free bb_DE_free 3 (some .int) 0 := ⟨List.mem_filter.mpr ⟨List.mem_of_getElem? (i := 128) (by decide +kernel), by decide +kernel⟩, List.mem_filter.mpr ⟨List.mem_of_getElem? (i := 279) (by decide +kernel), by decide +kernel⟩, List.mem_filter.mpr ⟨List.mem_of_getElem? (i := 26) (by decide +kernel), by decide +kernel⟩, by decide, by decide, by decide +kernel⟩
theorem lx_DE_free__I : ww_virt yy_DE_free := ⟨List.mem_filter.mpr ⟨List.mem_of_getElem? (i := 126) (by decide +kernel), by decide +kernel⟩, List.mem_filter.mpr ⟨List.mem_of_getElem? (i := 127) (by decide +kernel), by decide +kernel⟩⟩
theorem lc_DE_142 : ww_site "DelayedExtents" 142 yy_DE_reserved bb_DE_reserved 3 (some .int) 0 := ⟨List.mem_filter.mpr ⟨List.mem_of_getElem? (i := 165) (by decide +kernel), by decide +kernel⟩, List.mem_filter.mpr ⟨List.mem_of_getElem? (i := 280) (by decide +kernel), by decide +kernel⟩, List.mem_filter.mpr ⟨List.mem_of_getElem? (i := 26) (by decide +kernel), by decide +kernel⟩, by decide, by decide, by decide +kernel⟩
theorem lx_DE_reserved__I : ww_virt yy_DE_reserved := ⟨List.mem_filter.mpr ⟨List.mem_of_getElem? (i := 163) (by decide +kernel), by decide +kernel⟩, List.mem_filter.mpr ⟨List.mem_of_getElem? (i := 164) (by decide +kernel), by decide +kernel⟩⟩
def dx_pp (S : Nat → dx_S) : Nat := px_sum (fun k => px_pp (S k).2.2.1 0) 4
def dx_mt (S : Nat → dx_S) : Nat := px_sum (fun k => px_mt (S k).1 (S k).2.1 0) 4
def dx_rs (S : Nat → dx_S) : Nat := px_sum (fun k => px_res (S k).1 (S k).2.1 (S k).2.2.1 0) 4
theorem dx_pp_le (S : Nat → dx_S) : dx_pp S ≤ 240 := px_sum_le (f := fun k => px_pp (S k).2.2.1 0) (m := 60) (fun k => px_cnt_le _ _ _) 4
theorem dx_mt_le (S : Nat → dx_S) : dx_mt S ≤ 800 := px_sum_le (f := fun k => px_mt (S k).1 (S k).2.1 0) (m := 200) (fun k => px_mt_le _ _ _) 4
theorem dx_rs_le (S : Nat → dx_S) : dx_rs S ≤ 800 := px_sum_le (f := fun k => px_res (S k).1 (S k).2.1 (S k).2.2.1 0) (m := 200) (fun k => px_res_le _ _ _ _) 4
theorem px_sub4 (s a : Nat) : nI 80 - nI s - nI a = nI 80 - nI (s + a) := by rw [px_sub2, nI_add]
theorem dx_rng {S : Nat → dx_S} {f : Nat} {s : dx_S} (h : ∀ j, j < 4 → px_rng (S j).1 0 60) (h2 : px_rng s.1 0 60) : ∀ j, j < 4 → px_rng (dx_up S f s j).1 0 60 := by
  intro j hj
  unfold dx_up
  split
  · exact h2
  · exact h j hj
set_option maxRecDepth 4000 in
theorem cc_DE_countPages (l : Launch) (D : va_G) (g : Nat → ClassId) (K : dx_K) (ow : Nat → Int32) (vl : Nat → Int32) (S : Nat → dx_S) (hK : dx_ok K) : ww_ct l D g yy_DE_countPages bb_DE_countPages 3 (some .int) (ww_rm 2) [.ref (dx_x K)] (dx_w g K ow vl S) (some (.int (nI (dx_pp S)))) (dx_w g K ow vl S) := by
  refine ww_start (by decide +kernel) rfl rfl (Nat.le_of_ble_eq_true rfl) (L0 := [(0, .ref (dx_x K))]) rfl ?_
  intro X O hl hD hg hR hn F
  subst hl hD hg
  have loop : ∀ (n i a : Nat), 4 ≤ i + n → i ≤ 4 → a = px_sum (fun k => px_pp (S k).2.2.1 0) i → ww_at X 0 0 4 [(0, .ref (dx_x K)), (1, .int (nI a)), (2, .int (nI i))] [] (dx_w (ww_g X) K ow vl S) := by
    intro n
    induction n with
    | zero =>
      intro i a h1 h2 h3
      refine ww_iload_n O dd_DE_countPages_4 2 rfl ?_
      refine ww_iconst O dd_DE_countPages_5 (v := nI 4) rfl ?_
      refine ww_icmp_geN O dd_DE_countPages_6 (tgt := 27) rfl (by omega) (by omega) (fun h6 => ?_) (fun h6 => ?_)
      · refine ww_iload_n O dd_DE_countPages_27 1 rfl ?_
        have ei : i = 4 := by omega
        subst ei
        subst h3
        exact F.i dd_DE_countPages_28
      · exfalso; omega
    | succ n ih =>
      intro i a h1 h2 h3
      refine ww_iload_n O dd_DE_countPages_4 2 rfl ?_
      refine ww_iconst O dd_DE_countPages_5 (v := nI 4) rfl ?_
      refine ww_icmp_geN O dd_DE_countPages_6 (tgt := 27) rfl (by omega) (by omega) (fun h6 => ?_) (fun h6 => ?_)
      · refine ww_iload_n O dd_DE_countPages_27 1 rfl ?_
        have ei : i = 4 := by omega
        subst ei
        subst h3
        exact F.i dd_DE_countPages_28
      · refine ww_iload_n O dd_DE_countPages_9 1 rfl ?_
        refine ww_aload_n O dd_DE_countPages_10 0 rfl ?_
        refine ww_get O ci_DE rfl 1 (by decide) lf_DE_18 rfl dd_DE_countPages_11 0 rfl rfl ?_
        refine ww_iload_n O dd_DE_countPages_14 2 rfl ?_
        refine ww_aald O dd_DE_countPages_15 4 rfl (by omega) (by decide) (hK i (by omega)) ?_
        refine dx_callF (K := K) (f := i) O (by omega) (s := ((S i).1, (S i).2.1, (S i).2.2.1, (S i).2.2.2.1, (S i).2.2.2.2.1, (S i).2.2.2.2.2)) (s' := (((S i).1), ((S i).2.1), ((S i).2.2.1), ((S i).2.2.2.1), ((S i).2.2.2.2.1), ((S i).2.2.2.2.2))) (ow := ow) (vl := vl) (ow' := ow) (vl' := vl) (cc_BF_countPages _ _ _ ((dx_ad K i).1) (dx_v K) (60 * i) ((dx_ad K i).2.1) ((dx_ad K i).2.2.1) ((dx_ad K i).2.2.2.1) ((dx_ad K i).2.2.2.2.1) ((dx_ad K i).2.2.2.2.2) (dx_vo K) (dx_vv K) ((S i).2.2.2.2.2) ((S i).1) ((S i).2.1) ((S i).2.2.1) ((S i).2.2.2.1) ((S i).2.2.2.2.1) ow vl ) rfl (S' := S) (dx_up_id S i) lc_DE_126 lx_BF_countPages__I rfl (by rw [hR]; decide) (by rw [hR]; decide) (by rw [hR]; decide) rfl (Nat.le_of_ble_eq_true rfl) dd_DE_countPages_16 rfl ?_
        refine ww_iadd O dd_DE_countPages_19 (v := nI (a + (px_pp ((S i).2.2.1) 0))) (nI_add _ _) ?_
        refine ww_istore_n O dd_DE_countPages_20 (by rw [hn]; decide) rfl (L' := [(0, .ref (dx_x K)), (1, .int (nI (a + (px_pp ((S i).2.2.1) 0)))), (2, .int (nI i))]) rfl ?_
        refine ww_iinc O dd_DE_countPages_21 2 rfl (v := nI (i + 1)) (nI_add _ 1) (by rw [hn]; decide) rfl (L' := [(0, .ref (dx_x K)), (1, .int (nI (a + (px_pp ((S i).2.2.1) 0)))), (2, .int (nI (i + 1)))]) rfl ?_
        refine ww_goto O dd_DE_countPages_24 (tgt := 4) rfl ?_
        exact ih (i + 1) _ (by omega) (by omega) (by rw [h3]; rfl)
  refine ww_iconst O dd_DE_countPages_0 (v := nI 0) rfl ?_
  refine ww_istore_n O dd_DE_countPages_1 (by rw [hn]; decide) rfl (L' := [(0, .ref (dx_x K)), (1, .int (nI 0))]) rfl ?_
  refine ww_iconst O dd_DE_countPages_2 (v := nI 0) rfl ?_
  refine ww_istore_n O dd_DE_countPages_3 (by rw [hn]; decide) rfl (L' := [(0, .ref (dx_x K)), (1, .int (nI 0)), (2, .int (nI 0))]) rfl ?_
  exact loop 4 0 0 (by omega) (by omega) rfl
set_option maxRecDepth 4000 in
theorem cc_DE_free (l : Launch) (D : va_G) (g : Nat → ClassId) (K : dx_K) (ow : Nat → Int32) (vl : Nat → Int32) (S : Nat → dx_S) (hK : dx_ok K) (hr : ∀ j, j < 4 → px_rng (S j).1 0 60) : ww_ct l D g yy_DE_free bb_DE_free 3 (some .int) (ww_rm 4) [.ref (dx_x K)] (dx_w g K ow vl S) (some (.int (nI 80 - nI (dx_mt S)))) (dx_w g K ow vl S) := by
  refine ww_start (by decide +kernel) rfl rfl (Nat.le_of_ble_eq_true rfl) (L0 := [(0, .ref (dx_x K))]) rfl ?_
  intro X O hl hD hg hR hn F
  subst hl hD hg
  have loop : ∀ (n i a : Nat), 4 ≤ i + n → i ≤ 4 → a = px_sum (fun k => px_mt (S k).1 (S k).2.1 0) i → ww_at X 0 0 5 [(0, .ref (dx_x K)), (1, .int (nI 80 - nI a)), (2, .int (nI i))] [] (dx_w (ww_g X) K ow vl S) := by
    intro n
    induction n with
    | zero =>
      intro i a h1 h2 h3
      refine ww_iload_n O dd_DE_free_5 2 rfl ?_
      refine ww_iconst O dd_DE_free_6 (v := nI 4) rfl ?_
      refine ww_icmp_geN O dd_DE_free_7 (tgt := 41) rfl (by omega) (by omega) (fun h7 => ?_) (fun h7 => ?_)
      · refine ww_iload_n O dd_DE_free_41 1 rfl ?_
        have ei : i = 4 := by omega
        subst ei
        subst h3
        exact F.i dd_DE_free_42
      · exfalso; omega
    | succ n ih =>
      intro i a h1 h2 h3
      refine ww_iload_n O dd_DE_free_5 2 rfl ?_
      refine ww_iconst O dd_DE_free_6 (v := nI 4) rfl ?_
      refine ww_icmp_geN O dd_DE_free_7 (tgt := 41) rfl (by omega) (by omega) (fun h7 => ?_) (fun h7 => ?_)
      · refine ww_iload_n O dd_DE_free_41 1 rfl ?_
        have ei : i = 4 := by omega
        subst ei
        subst h3
        exact F.i dd_DE_free_42
      · refine ww_iload_n O dd_DE_free_10 1 rfl ?_
        refine ww_aload_n O dd_DE_free_11 0 rfl ?_
        refine ww_get O ci_DE rfl 1 (by decide) lf_DE_18 rfl dd_DE_free_12 0 rfl rfl ?_
        refine ww_iload_n O dd_DE_free_15 2 rfl ?_
        refine ww_aald O dd_DE_free_16 4 rfl (by omega) (by decide) (hK i (by omega)) ?_
        refine dx_callF (K := K) (f := i) O (by omega) (s := ((S i).1, (S i).2.1, (S i).2.2.1, (S i).2.2.2.1, (S i).2.2.2.2.1, (S i).2.2.2.2.2)) (s' := (((S i).1), ((S i).2.1), ((S i).2.2.1), ((S i).2.2.2.1), ((S i).2.2.2.2.1), ((S i).2.2.2.2.2))) (ow := ow) (vl := vl) (ow' := ow) (vl' := vl) (cc_BF_countMapped _ _ _ ((dx_ad K i).1) (dx_v K) (60 * i) ((dx_ad K i).2.1) ((dx_ad K i).2.2.1) ((dx_ad K i).2.2.2.1) ((dx_ad K i).2.2.2.2.1) ((dx_ad K i).2.2.2.2.2) (dx_vo K) (dx_vv K) ((S i).2.2.2.2.2) ((S i).1) ((S i).2.1) ((S i).2.2.1) ((S i).2.2.2.1) ((S i).2.2.2.2.1) ow vl ) rfl (S' := S) (dx_up_id S i) lc_DE_117 lx_BF_countMapped__I rfl (by rw [hR]; decide) (by rw [hR]; decide) (by rw [hR]; decide) rfl (Nat.le_of_ble_eq_true rfl) dd_DE_free_17 rfl ?_
        refine ww_aload_n O dd_DE_free_20 0 rfl ?_
        refine ww_get O ci_DE rfl 1 (by decide) lf_DE_18 rfl dd_DE_free_21 0 rfl rfl ?_
        refine ww_iload_n O dd_DE_free_24 2 rfl ?_
        refine ww_aald O dd_DE_free_25 4 rfl (by omega) (by decide) (hK i (by omega)) ?_
        refine dx_callF (K := K) (f := i) O (by omega) (s := ((S i).1, (S i).2.1, (S i).2.2.1, (S i).2.2.2.1, (S i).2.2.2.2.1, (S i).2.2.2.2.2)) (s' := (((S i).1), ((S i).2.1), ((S i).2.2.1), ((S i).2.2.2.1), ((S i).2.2.2.2.1), ((S i).2.2.2.2.2))) (ow := ow) (vl := vl) (ow' := ow) (vl' := vl) (cc_BF_countExtents _ _ _ ((dx_ad K i).1) (dx_v K) (60 * i) ((dx_ad K i).2.1) ((dx_ad K i).2.2.1) ((dx_ad K i).2.2.2.1) ((dx_ad K i).2.2.2.2.1) ((dx_ad K i).2.2.2.2.2) (dx_vo K) (dx_vv K) ((S i).2.2.2.2.2) ((S i).1) ((S i).2.1) ((S i).2.2.1) ((S i).2.2.2.1) ((S i).2.2.2.2.1) ow vl (hr i (by omega))) rfl (S' := S) (dx_up_id S i) lc_DE_120 lx_BF_countExtents__I rfl (by rw [hR]; decide) (by rw [hR]; decide) (by rw [hR]; decide) rfl (Nat.le_of_ble_eq_true rfl) dd_DE_free_26 rfl ?_
        refine dx_callS O (cc_DE_treeBlocks _ _ _ (px_ee ((S i).1) ((S i).2.1) 0) (Nat.lt_of_le_of_lt (px_ex_le _ _ 60 0 0) (by decide))) lc_DE_123 ls_DE_treeBlocks_I_I (by rw [hR]; decide) (by rw [hR]; decide) (by rw [hR]; decide) rfl (Nat.le_of_ble_eq_true rfl) dd_DE_free_29 rfl ?_
        refine ww_iadd O dd_DE_free_32 (v := nI ((px_mm ((S i).1) 0) + (px_tree (px_ee ((S i).1) ((S i).2.1) 0)))) (nI_add _ _) ?_
        refine ww_isub O dd_DE_free_33 (v := nI 80 - nI (a + ((px_mm ((S i).1) 0) + (px_tree (px_ee ((S i).1) ((S i).2.1) 0))))) (px_sub4 _ _) ?_
        refine ww_istore_n O dd_DE_free_34 (by rw [hn]; decide) rfl (L' := [(0, .ref (dx_x K)), (1, .int (nI 80 - nI (a + ((px_mm ((S i).1) 0) + (px_tree (px_ee ((S i).1) ((S i).2.1) 0)))))), (2, .int (nI i))]) rfl ?_
        refine ww_iinc O dd_DE_free_35 2 rfl (v := nI (i + 1)) (nI_add _ 1) (by rw [hn]; decide) rfl (L' := [(0, .ref (dx_x K)), (1, .int (nI 80 - nI (a + ((px_mm ((S i).1) 0) + (px_tree (px_ee ((S i).1) ((S i).2.1) 0)))))), (2, .int (nI (i + 1)))]) rfl ?_
        refine ww_goto O dd_DE_free_38 (tgt := 5) rfl ?_
        exact ih (i + 1) _ (by omega) (by omega) (by rw [h3]; rfl)
  refine ww_bipush O dd_DE_free_0 (v := nI 80) rfl ?_
  refine ww_istore_n O dd_DE_free_2 (by rw [hn]; decide) rfl (L' := [(0, .ref (dx_x K)), (1, .int (nI 80))]) rfl ?_
  refine ww_iconst O dd_DE_free_3 (v := nI 0) rfl ?_
  refine ww_istore_n O dd_DE_free_4 (by rw [hn]; decide) rfl (L' := [(0, .ref (dx_x K)), (1, .int (nI 80)), (2, .int (nI 0))]) rfl ?_
  rw [show nI 80 = nI 80 - nI 0 from by decide]
  exact loop 4 0 0 (by omega) (by omega) rfl
set_option maxRecDepth 4000 in
theorem cc_DE_reserved (l : Launch) (D : va_G) (g : Nat → ClassId) (K : dx_K) (ow : Nat → Int32) (vl : Nat → Int32) (S : Nat → dx_S) (hK : dx_ok K) (hr : ∀ j, j < 4 → px_rng (S j).1 0 60) : ww_ct l D g yy_DE_reserved bb_DE_reserved 3 (some .int) (ww_rm 5) [.ref (dx_x K)] (dx_w g K ow vl S) (some (.int (nI (dx_rs S)))) (dx_w g K ow vl S) := by
  refine ww_start (by decide +kernel) rfl rfl (Nat.le_of_ble_eq_true rfl) (L0 := [(0, .ref (dx_x K))]) rfl ?_
  intro X O hl hD hg hR hn F
  subst hl hD hg
  have loop : ∀ (n i a : Nat), 4 ≤ i + n → i ≤ 4 → a = px_sum (fun k => px_res (S k).1 (S k).2.1 (S k).2.2.1 0) i → ww_at X 0 0 4 [(0, .ref (dx_x K)), (1, .int (nI a)), (2, .int (nI i))] [] (dx_w (ww_g X) K ow vl S) := by
    intro n
    induction n with
    | zero =>
      intro i a h1 h2 h3
      refine ww_iload_n O dd_DE_reserved_4 2 rfl ?_
      refine ww_iconst O dd_DE_reserved_5 (v := nI 4) rfl ?_
      refine ww_icmp_geN O dd_DE_reserved_6 (tgt := 27) rfl (by omega) (by omega) (fun h6 => ?_) (fun h6 => ?_)
      · refine ww_iload_n O dd_DE_reserved_27 1 rfl ?_
        have ei : i = 4 := by omega
        subst ei
        subst h3
        exact F.i dd_DE_reserved_28
      · exfalso; omega
    | succ n ih =>
      intro i a h1 h2 h3
      refine ww_iload_n O dd_DE_reserved_4 2 rfl ?_
      refine ww_iconst O dd_DE_reserved_5 (v := nI 4) rfl ?_
      refine ww_icmp_geN O dd_DE_reserved_6 (tgt := 27) rfl (by omega) (by omega) (fun h6 => ?_) (fun h6 => ?_)
      · refine ww_iload_n O dd_DE_reserved_27 1 rfl ?_
        have ei : i = 4 := by omega
        subst ei
        subst h3
        exact F.i dd_DE_reserved_28
      · refine ww_iload_n O dd_DE_reserved_9 1 rfl ?_
        refine ww_aload_n O dd_DE_reserved_10 0 rfl ?_
        refine ww_get O ci_DE rfl 1 (by decide) lf_DE_18 rfl dd_DE_reserved_11 0 rfl rfl ?_
        refine ww_iload_n O dd_DE_reserved_14 2 rfl ?_
        refine ww_aald O dd_DE_reserved_15 4 rfl (by omega) (by decide) (hK i (by omega)) ?_
        refine dx_callF (K := K) (f := i) O (by omega) (s := ((S i).1, (S i).2.1, (S i).2.2.1, (S i).2.2.2.1, (S i).2.2.2.2.1, (S i).2.2.2.2.2)) (s' := (((S i).1), ((S i).2.1), ((S i).2.2.1), ((S i).2.2.2.1), ((S i).2.2.2.2.1), ((S i).2.2.2.2.2))) (ow := ow) (vl := vl) (ow' := ow) (vl' := vl) (cc_BF_countReserved _ _ _ ((dx_ad K i).1) (dx_v K) (60 * i) ((dx_ad K i).2.1) ((dx_ad K i).2.2.1) ((dx_ad K i).2.2.2.1) ((dx_ad K i).2.2.2.2.1) ((dx_ad K i).2.2.2.2.2) (dx_vo K) (dx_vv K) ((S i).2.2.2.2.2) ((S i).1) ((S i).2.1) ((S i).2.2.1) ((S i).2.2.2.1) ((S i).2.2.2.2.1) ow vl (hr i (by omega))) rfl (S' := S) (dx_up_id S i) lc_DE_127 lx_BF_countReserved__I rfl (by rw [hR]; decide) (by rw [hR]; decide) (by rw [hR]; decide) rfl (Nat.le_of_ble_eq_true rfl) dd_DE_reserved_16 rfl ?_
        refine ww_iadd O dd_DE_reserved_19 (v := nI (a + (px_res ((S i).1) ((S i).2.1) ((S i).2.2.1) 0))) (nI_add _ _) ?_
        refine ww_istore_n O dd_DE_reserved_20 (by rw [hn]; decide) rfl (L' := [(0, .ref (dx_x K)), (1, .int (nI (a + (px_res ((S i).1) ((S i).2.1) ((S i).2.2.1) 0)))), (2, .int (nI i))]) rfl ?_
        refine ww_iinc O dd_DE_reserved_21 2 rfl (v := nI (i + 1)) (nI_add _ 1) (by rw [hn]; decide) rfl (L' := [(0, .ref (dx_x K)), (1, .int (nI (a + (px_res ((S i).1) ((S i).2.1) ((S i).2.2.1) 0)))), (2, .int (nI (i + 1)))]) rfl ?_
        refine ww_goto O dd_DE_reserved_24 (tgt := 4) rfl ?_
        exact ih (i + 1) _ (by omega) (by omega) (by rw [h3]; rfl)
  refine ww_iconst O dd_DE_reserved_0 (v := nI 0) rfl ?_
  refine ww_istore_n O dd_DE_reserved_1 (by rw [hn]; decide) rfl (L' := [(0, .ref (dx_x K)), (1, .int (nI 0))]) rfl ?_
  refine ww_iconst O dd_DE_reserved_2 (v := nI 0) rfl ?_
  refine ww_istore_n O dd_DE_reserved_3 (by rw [hn]; decide) rfl (L' := [(0, .ref (dx_x K)), (1, .int (nI 0)), (2, .int (nI 0))]) rfl ?_
  exact loop 4 0 0 (by omega) (by omega) rfl
set_option maxRecDepth 4000 in
theorem cc_DE_isOverbooked (l : Launch) (D : va_G) (g : Nat → ClassId) (K : dx_K) (ow : Nat → Int32) (vl : Nat → Int32) (S : Nat → dx_S) (hK : dx_ok K) (hr : ∀ j, j < 4 → px_rng (S j).1 0 60) : ww_ct l D g yy_DE_isOverbooked bb_DE_isOverbooked 1 (some .boolean) (ww_rm 6) [.ref (dx_x K)] (dx_w g K ow vl S) (some (.int (px_b (!decide (dx_rs S + dx_mt S ≤ 80))))) (dx_w g K ow vl S) := by
  refine ww_start (by decide +kernel) rfl (px_b_nar _) (Nat.le_of_ble_eq_true rfl) (L0 := [(0, .ref (dx_x K))]) rfl ?_
  intro X O hl hD hg hR hn F
  subst hl hD hg
  have hmt := dx_mt_le S
  have hrs := dx_rs_le S
  refine ww_aload_n O dd_DE_isOverbooked_0 0 rfl ?_
  refine dx_callE (K := K) O (cc_DE_free _ _ _ K ow vl S hK hr) lc_DE_139 lx_DE_free__I rfl (by rw [hR]; decide) (by rw [hR]; decide) (by rw [hR]; decide) rfl (Nat.le_of_ble_eq_true rfl) dd_DE_isOverbooked_1 rfl ?_
  refine ww_aload_n O dd_DE_isOverbooked_4 0 rfl ?_
  refine dx_callE (K := K) O (cc_DE_reserved _ _ _ K ow vl S hK hr) lc_DE_142 lx_DE_reserved__I rfl (by rw [hR]; decide) (by rw [hR]; decide) (by rw [hR]; decide) rfl (Nat.le_of_ble_eq_true rfl) dd_DE_isOverbooked_5 rfl ?_
  refine ww_icmp_ge O dd_DE_isOverbooked_8 (tgt := 15) rfl (fun h8 => ?_) (fun h8 => ?_)
  · refine ww_iconst O dd_DE_isOverbooked_15 (v := nI 0) rfl ?_
    rw [show (!decide (dx_rs S + dx_mt S ≤ 80)) = false from by simp only [Bool.not_eq_false', decide_eq_true_eq]; exact (px_cmp (by omega) (by omega)).mp h8, px_b_f] at F
    exact F.i dd_DE_isOverbooked_16
  · refine ww_iconst O dd_DE_isOverbooked_11 (v := nI 1) rfl ?_
    refine ww_goto O dd_DE_isOverbooked_12 (tgt := 16) rfl ?_
    rw [show (!decide (dx_rs S + dx_mt S ≤ 80)) = true from by simp only [Bool.not_eq_true', decide_eq_false_iff_not]; exact fun q => h8 ((px_cmp (by omega) (by omega)).mpr q), px_b_t] at F
    exact F.i dd_DE_isOverbooked_16
