theorem lf_BF_28 : Cond.fieldLink "DelayedExtents$BlockFile" 28 "DelayedExtents$BlockFile" "size" "I" ∈ lw_good := List.mem_filter.mpr ⟨List.mem_of_getElem? (i := 79) (by decide +kernel), by decide +kernel⟩
theorem lm_BF_45 : Cond.methodLink "DelayedExtents$BlockFile" 45 ⟨"java/lang/Math", "max", "(II)I"⟩ ∈ lw_good := List.mem_filter.mpr ⟨List.mem_of_getElem? (i := 156) (by decide +kernel), by decide +kernel⟩
theorem lf_BF_9 : Cond.fieldLink "DelayedExtents$BlockFile" 9 "DelayedExtents$BlockFile" "places" "[I" ∈ lw_good := List.mem_filter.mpr ⟨List.mem_of_getElem? (i := 74) (by decide +kernel), by decide +kernel⟩
theorem lf_BF_15 : Cond.fieldLink "DelayedExtents$BlockFile" 15 "DelayedExtents$BlockFile" "written" "[Z" ∈ lw_good := List.mem_filter.mpr ⟨List.mem_of_getElem? (i := 75) (by decide +kernel), by decide +kernel⟩
theorem lf_BF_19 : Cond.fieldLink "DelayedExtents$BlockFile" 19 "DelayedExtents$BlockFile" "paged" "[Z" ∈ lw_good := List.mem_filter.mpr ⟨List.mem_of_getElem? (i := 76) (by decide +kernel), by decide +kernel⟩
theorem lf_BF_22 : Cond.fieldLink "DelayedExtents$BlockFile" 22 "DelayedExtents$BlockFile" "pageValues" "[I" ∈ lw_good := List.mem_filter.mpr ⟨List.mem_of_getElem? (i := 77) (by decide +kernel), by decide +kernel⟩
theorem lc_BF_51 : ww_site "DelayedExtents$BlockFile" 51 yy_BF_dropPage bb_BF_dropPage 2 none 1 := ⟨List.mem_filter.mpr ⟨List.mem_of_getElem? (i := 124) (by decide +kernel), by decide +kernel⟩, List.mem_filter.mpr ⟨List.mem_of_getElem? (i := 121) (by decide +kernel), by decide +kernel⟩, List.mem_filter.mpr ⟨List.mem_of_getElem? (i := 29) (by decide +kernel), by decide +kernel⟩, by decide, by decide, by decide +kernel⟩
theorem lx_BF_dropPage_I_V : ww_virt yy_BF_dropPage := ⟨List.mem_filter.mpr ⟨List.mem_of_getElem? (i := 122) (by decide +kernel), by decide +kernel⟩, List.mem_filter.mpr ⟨List.mem_of_getElem? (i := 123) (by decide +kernel), by decide +kernel⟩⟩
theorem lc_BF_55 : ww_site "DelayedExtents$BlockFile" 55 yy_BF_isHole bb_BF_isHole 2 (some .boolean) 1 := ⟨List.mem_filter.mpr ⟨List.mem_of_getElem? (i := 140) (by decide +kernel), by decide +kernel⟩, List.mem_filter.mpr ⟨List.mem_of_getElem? (i := 137) (by decide +kernel), by decide +kernel⟩, List.mem_filter.mpr ⟨List.mem_of_getElem? (i := 29) (by decide +kernel), by decide +kernel⟩, by decide, by decide, by decide +kernel⟩
theorem lx_BF_isHole_I_Z : ww_virt yy_BF_isHole := ⟨List.mem_filter.mpr ⟨List.mem_of_getElem? (i := 138) (by decide +kernel), by decide +kernel⟩, List.mem_filter.mpr ⟨List.mem_of_getElem? (i := 139) (by decide +kernel), by decide +kernel⟩⟩
theorem lf_BF_32 : Cond.fieldLink "DelayedExtents$BlockFile" 32 "DelayedExtents$BlockFile" "volume" "LDelayedExtents$Volume;" ∈ lw_good := List.mem_filter.mpr ⟨List.mem_of_getElem? (i := 72) (by decide +kernel), by decide +kernel⟩
theorem lc_BF_59 : ww_site "DelayedExtents$BlockFile" 59 yy_VO_valueAt bb_VO_valueAt 2 (some .int) 1 := ⟨List.mem_filter.mpr ⟨List.mem_of_getElem? (i := 315) (by decide +kernel), by decide +kernel⟩, List.mem_filter.mpr ⟨List.mem_of_getElem? (i := 312) (by decide +kernel), by decide +kernel⟩, List.mem_filter.mpr ⟨List.mem_of_getElem? (i := 27) (by decide +kernel), by decide +kernel⟩, by decide, by decide, by decide +kernel⟩
theorem lx_VO_valueAt_I_I : ww_virt yy_VO_valueAt := ⟨List.mem_filter.mpr ⟨List.mem_of_getElem? (i := 313) (by decide +kernel), by decide +kernel⟩, List.mem_filter.mpr ⟨List.mem_of_getElem? (i := 314) (by decide +kernel), by decide +kernel⟩⟩
theorem lc_BF_65 : ww_site "DelayedExtents$BlockFile" 65 yy_BF_countHoles bb_BF_countHoles 5 (some .int) 2 := ⟨List.mem_filter.mpr ⟨List.mem_of_getElem? (i := 136) (by decide +kernel), by decide +kernel⟩, List.mem_filter.mpr ⟨List.mem_of_getElem? (i := 133) (by decide +kernel), by decide +kernel⟩, List.mem_filter.mpr ⟨List.mem_of_getElem? (i := 29) (by decide +kernel), by decide +kernel⟩, by decide, by decide, by decide +kernel⟩
theorem lx_BF_countHoles_II_I : ww_virt yy_BF_countHoles := ⟨List.mem_filter.mpr ⟨List.mem_of_getElem? (i := 134) (by decide +kernel), by decide +kernel⟩, List.mem_filter.mpr ⟨List.mem_of_getElem? (i := 135) (by decide +kernel), by decide +kernel⟩⟩
theorem lc_BF_81 : ww_site "DelayedExtents$BlockFile" 81 yy_BF_continuesRow bb_BF_continuesRow 2 (some .boolean) 1 := ⟨List.mem_filter.mpr ⟨List.mem_of_getElem? (i := 155) (by decide +kernel), by decide +kernel⟩, List.mem_filter.mpr ⟨List.mem_of_getElem? (i := 152) (by decide +kernel), by decide +kernel⟩, List.mem_filter.mpr ⟨List.mem_of_getElem? (i := 29) (by decide +kernel), by decide +kernel⟩, by decide, by decide, by decide +kernel⟩
theorem lx_BF_continuesRow_I_Z : ww_virt yy_BF_continuesRow := ⟨List.mem_filter.mpr ⟨List.mem_of_getElem? (i := 154) (by decide +kernel), by decide +kernel⟩, List.mem_filter.mpr ⟨List.mem_of_getElem? (i := 1) (by decide +kernel), by decide +kernel⟩⟩
theorem lm_BF_78 : Cond.methodLink "DelayedExtents$BlockFile" 78 ⟨"java/lang/Math", "min", "(II)I"⟩ ∈ lw_good := List.mem_filter.mpr ⟨List.mem_of_getElem? (i := 149) (by decide +kernel), by decide +kernel⟩
theorem lk_Math_max : Cond.static Lib.Math.max.name ∈ lw_good ∧ Cond.initialized "java/lang/Math" ∈ lw_good ∧ Cond.code Lib.Math.max.name Lib.Math.max.code 2 (some .int) ∈ lw_good := ⟨List.mem_filter.mpr ⟨List.mem_of_getElem? (i := 157) (by decide +kernel), by decide +kernel⟩, List.mem_filter.mpr ⟨List.mem_of_getElem? (i := 36) (by decide +kernel), by decide +kernel⟩, List.mem_filter.mpr ⟨List.mem_of_getElem? (i := 158) (by decide +kernel), by decide +kernel⟩⟩
theorem lk_Math_min : Cond.static Lib.Math.min.name ∈ lw_good ∧ Cond.initialized "java/lang/Math" ∈ lw_good ∧ Cond.code Lib.Math.min.name Lib.Math.min.code 2 (some .int) ∈ lw_good := ⟨List.mem_filter.mpr ⟨List.mem_of_getElem? (i := 150) (by decide +kernel), by decide +kernel⟩, List.mem_filter.mpr ⟨List.mem_of_getElem? (i := 36) (by decide +kernel), by decide +kernel⟩, List.mem_filter.mpr ⟨List.mem_of_getElem? (i := 151) (by decide +kernel), by decide +kernel⟩⟩
theorem dd_DE_treeBlocks_0 : decode bb_DE_treeBlocks 0 = .ok (.iload_n 0, 1) := by decide +kernel
theorem dd_DE_treeBlocks_1 : decode bb_DE_treeBlocks 1 = .ok (.iconst 3, 1) := by decide +kernel
theorem dd_DE_treeBlocks_2 : decode bb_DE_treeBlocks 2 = .ok (.if_icmp .gt 5, 3) := by decide +kernel
theorem dd_DE_treeBlocks_5 : decode bb_DE_treeBlocks 5 = .ok (.iconst 0, 1) := by decide +kernel
theorem dd_DE_treeBlocks_6 : decode bb_DE_treeBlocks 6 = .ok (.ireturn, 1) := by decide +kernel
theorem dd_DE_treeBlocks_7 : decode bb_DE_treeBlocks 7 = .ok (.iload_n 0, 1) := by decide +kernel
theorem dd_DE_treeBlocks_8 : decode bb_DE_treeBlocks 8 = .ok (.iconst 4, 1) := by decide +kernel
theorem dd_DE_treeBlocks_9 : decode bb_DE_treeBlocks 9 = .ok (.iadd, 1) := by decide +kernel
theorem dd_DE_treeBlocks_10 : decode bb_DE_treeBlocks 10 = .ok (.iconst 1, 1) := by decide +kernel
theorem dd_DE_treeBlocks_11 : decode bb_DE_treeBlocks 11 = .ok (.isub, 1) := by decide +kernel
theorem dd_DE_treeBlocks_12 : decode bb_DE_treeBlocks 12 = .ok (.iconst 4, 1) := by decide +kernel
theorem dd_DE_treeBlocks_13 : decode bb_DE_treeBlocks 13 = .ok (.idiv, 1) := by decide +kernel
theorem dd_DE_treeBlocks_14 : decode bb_DE_treeBlocks 14 = .ok (.ireturn, 1) := by decide +kernel
set_option maxRecDepth 4000 in
theorem cc_DE_treeBlocks (l : Launch) (D : va_G) (g : Nat → ClassId) (e : Nat) (he : e < 1000) : ww_ct l D g yy_DE_treeBlocks bb_DE_treeBlocks 1 (some .int) (ww_rm 1) [.int (nI e)] [] (some (.int (nI (px_tree e)))) [] := by
  refine ww_start (by decide +kernel) rfl rfl (Nat.le_of_ble_eq_true rfl) (L0 := [(0, .int (nI e))]) rfl ?_
  intro X O hl hD hg hR hn F
  subst hl hD hg
  refine ww_iload_n O dd_DE_treeBlocks_0 0 rfl ?_
  refine ww_iconst O dd_DE_treeBlocks_1 (v := nI 3) rfl ?_
  refine ww_icmp_gtN O dd_DE_treeBlocks_2 (tgt := 7) rfl (by omega) (by omega) (fun h2 => ?_) (fun h2 => ?_)
  · refine ww_iload_n O dd_DE_treeBlocks_7 0 rfl ?_
    refine ww_iconst O dd_DE_treeBlocks_8 (v := nI 4) rfl ?_
    refine ww_iadd O dd_DE_treeBlocks_9 (v := nI (e + 4)) (nI_add _ _) ?_
    refine ww_iconst O dd_DE_treeBlocks_10 (v := nI 1) rfl ?_
    refine ww_isub O dd_DE_treeBlocks_11 (v := nI ((e + 4) - 1)) (pk_sub (by omega)) ?_
    refine ww_iconst O dd_DE_treeBlocks_12 (v := nI 4) rfl ?_
    refine ww_idiv O dd_DE_treeBlocks_13 (by decide) (v := nI (((e + 4) - 1) / 4)) (pk_div (by omega) (by decide) (by decide)) ?_
    rw [show px_tree e = (((e + 4) - 1) / 4) from by unfold px_tree; rw [if_neg (by omega)]; omega] at F
    exact F.i dd_DE_treeBlocks_14
  · refine ww_iconst O dd_DE_treeBlocks_5 (v := nI 0) rfl ?_
    rw [show px_tree e = 0 from by unfold px_tree; rw [if_pos (by omega)]] at F
    exact F.i dd_DE_treeBlocks_6
set_option maxRecDepth 4000 in
theorem cc_BF_size (l : Launch) (D : va_G) (g : Nat → ClassId) (h : Nat) (v : Nat) (fo : Nat) (ap : Nat) (aw : Nat) (ag : Nat) (av : Nat) (an : Nat) (vo : Nat) (vv : Nat) (sz : Int32) (pl : Nat → Int32) (wr : Nat → Int32) (pg : Nat → Int32) (pv : Nat → Int32) (nt : Nat → Int32) (ow : Nat → Int32) (vl : Nat → Int32)  : ww_ct l D g yy_BF_size bb_BF_size 1 (some .int) (ww_rm 1) [.ref h] [(h, .inr (0, [.ref v, .int (nI fo), .ref ap, .ref aw, .ref ag, .ref av, .ref an, .int sz])), (ap, .inl (g 0, 60, .inl pl)), (aw, .inl (g 1, 60, .inl wr)), (ag, .inl (g 1, 60, .inl pg)), (av, .inl (g 0, 60, .inl pv)), (an, .inl (g 1, 60, .inl nt)), (v, .inr (1, [.ref vo, .ref vv])), (vo, .inl (g 0, 80, .inl ow)), (vv, .inl (g 0, 80, .inl vl))] (some (.int sz)) [(h, .inr (0, [.ref v, .int (nI fo), .ref ap, .ref aw, .ref ag, .ref av, .ref an, .int sz])), (ap, .inl (g 0, 60, .inl pl)), (aw, .inl (g 1, 60, .inl wr)), (ag, .inl (g 1, 60, .inl pg)), (av, .inl (g 0, 60, .inl pv)), (an, .inl (g 1, 60, .inl nt)), (v, .inr (1, [.ref vo, .ref vv])), (vo, .inl (g 0, 80, .inl ow)), (vv, .inl (g 0, 80, .inl vl))] := by
  refine ww_start (by decide +kernel) rfl rfl (Nat.le_of_ble_eq_true rfl) (L0 := [(0, .ref h)]) rfl ?_
  intro X O hl hD hg hR hn F
  subst hl hD hg
  refine ww_aload_n O dd_BF_size_0 0 rfl ?_
  refine ww_get O ci_BF rfl 7 (by decide) lf_BF_28 rfl dd_BF_size_1 0 rfl rfl ?_
  exact F.i dd_BF_size_4
set_option maxRecDepth 4000 in
theorem cc_BF_setSize (l : Launch) (D : va_G) (g : Nat → ClassId) (h : Nat) (v : Nat) (fo : Nat) (ap : Nat) (aw : Nat) (ag : Nat) (av : Nat) (an : Nat) (vo : Nat) (vv : Nat) (sz : Int32) (pl : Nat → Int32) (wr : Nat → Int32) (pg : Nat → Int32) (pv : Nat → Int32) (nt : Nat → Int32) (ow : Nat → Int32) (vl : Nat → Int32) (x : Int32)  : ww_ct l D g yy_BF_setSize bb_BF_setSize 2 none (ww_rm 1) [.ref h, .int x] [(h, .inr (0, [.ref v, .int (nI fo), .ref ap, .ref aw, .ref ag, .ref av, .ref an, .int sz])), (ap, .inl (g 0, 60, .inl pl)), (aw, .inl (g 1, 60, .inl wr)), (ag, .inl (g 1, 60, .inl pg)), (av, .inl (g 0, 60, .inl pv)), (an, .inl (g 1, 60, .inl nt)), (v, .inr (1, [.ref vo, .ref vv])), (vo, .inl (g 0, 80, .inl ow)), (vv, .inl (g 0, 80, .inl vl))] none [(h, .inr (0, [.ref v, .int (nI fo), .ref ap, .ref aw, .ref ag, .ref av, .ref an, .int x])), (ap, .inl (g 0, 60, .inl pl)), (aw, .inl (g 1, 60, .inl wr)), (ag, .inl (g 1, 60, .inl pg)), (av, .inl (g 0, 60, .inl pv)), (an, .inl (g 1, 60, .inl nt)), (v, .inr (1, [.ref vo, .ref vv])), (vo, .inl (g 0, 80, .inl ow)), (vv, .inl (g 0, 80, .inl vl))] := by
  refine ww_start (by decide +kernel) rfl trivial (Nat.le_of_ble_eq_true rfl) (L0 := [(0, .ref h), (1, .int x)]) rfl ?_
  intro X O hl hD hg hR hn F
  subst hl hD hg
  refine ww_aload_n O dd_BF_setSize_0 0 rfl ?_
  refine ww_iload_n O dd_BF_setSize_1 1 rfl ?_
  refine ww_put O ci_BF cy_BF cy_BF_ok cn_BF rfl 7 (by decide) lf_BF_28 rfl rfl (ty := .int) (by decide +kernel) dd_BF_setSize_2 0 rfl rfl rfl (Nat.le_of_ble_eq_true rfl) (ws' := [(h, .inr (0, [.ref v, .int (nI fo), .ref ap, .ref aw, .ref ag, .ref av, .ref an, .int x])), (ap, .inl (ww_g X 0, 60, .inl pl)), (aw, .inl (ww_g X 1, 60, .inl wr)), (ag, .inl (ww_g X 1, 60, .inl pg)), (av, .inl (ww_g X 0, 60, .inl pv)), (an, .inl (ww_g X 1, 60, .inl nt)), (v, .inr (1, [.ref vo, .ref vv])), (vo, .inl (ww_g X 0, 80, .inl ow)), (vv, .inl (ww_g X 0, 80, .inl vl))]) rfl ?_
  exact F.v dd_BF_setSize_5
set_option maxRecDepth 4000 in
theorem cc_BF_growTo (l : Launch) (D : va_G) (g : Nat → ClassId) (h : Nat) (v : Nat) (fo : Nat) (ap : Nat) (aw : Nat) (ag : Nat) (av : Nat) (an : Nat) (vo : Nat) (vv : Nat) (sz : Int32) (pl : Nat → Int32) (wr : Nat → Int32) (pg : Nat → Int32) (pv : Nat → Int32) (nt : Nat → Int32) (ow : Nat → Int32) (vl : Nat → Int32) (x : Int32)  : ww_ct l D g yy_BF_growTo bb_BF_growTo 2 none (ww_rm 1) [.ref h, .int x] [(h, .inr (0, [.ref v, .int (nI fo), .ref ap, .ref aw, .ref ag, .ref av, .ref an, .int sz])), (ap, .inl (g 0, 60, .inl pl)), (aw, .inl (g 1, 60, .inl wr)), (ag, .inl (g 1, 60, .inl pg)), (av, .inl (g 0, 60, .inl pv)), (an, .inl (g 1, 60, .inl nt)), (v, .inr (1, [.ref vo, .ref vv])), (vo, .inl (g 0, 80, .inl ow)), (vv, .inl (g 0, 80, .inl vl))] none [(h, .inr (0, [.ref v, .int (nI fo), .ref ap, .ref aw, .ref ag, .ref av, .ref an, .int (if sz < x then x else sz)])), (ap, .inl (g 0, 60, .inl pl)), (aw, .inl (g 1, 60, .inl wr)), (ag, .inl (g 1, 60, .inl pg)), (av, .inl (g 0, 60, .inl pv)), (an, .inl (g 1, 60, .inl nt)), (v, .inr (1, [.ref vo, .ref vv])), (vo, .inl (g 0, 80, .inl ow)), (vv, .inl (g 0, 80, .inl vl))] := by
  refine ww_start (by decide +kernel) rfl trivial (Nat.le_of_ble_eq_true rfl) (L0 := [(0, .ref h), (1, .int x)]) rfl ?_
  intro X O hl hD hg hR hn F
  subst hl hD hg
  refine ww_aload_n O dd_BF_growTo_0 0 rfl ?_
  refine ww_aload_n O dd_BF_growTo_1 0 rfl ?_
  refine ww_get O ci_BF rfl 7 (by decide) lf_BF_28 rfl dd_BF_growTo_2 0 rfl rfl ?_
  refine ww_iload_n O dd_BF_growTo_5 1 rfl ?_
  refine ww_max O lm_BF_45 lk_Math_max (by rw [hR]; decide) (by rw [hR]; exact Nat.le_of_ble_eq_true rfl) (by rw [hR]; decide) (by rw [hR]; decide) dd_BF_growTo_6 (v := if sz < x then x else sz) rfl ?_
  refine ww_put O ci_BF cy_BF cy_BF_ok cn_BF rfl 7 (by decide) lf_BF_28 rfl rfl (ty := .int) (by decide +kernel) dd_BF_growTo_9 0 rfl rfl rfl (Nat.le_of_ble_eq_true rfl) (ws' := [(h, .inr (0, [.ref v, .int (nI fo), .ref ap, .ref aw, .ref ag, .ref av, .ref an, .int (if sz < x then x else sz)])), (ap, .inl (ww_g X 0, 60, .inl pl)), (aw, .inl (ww_g X 1, 60, .inl wr)), (ag, .inl (ww_g X 1, 60, .inl pg)), (av, .inl (ww_g X 0, 60, .inl pv)), (an, .inl (ww_g X 1, 60, .inl nt)), (v, .inr (1, [.ref vo, .ref vv])), (vo, .inl (ww_g X 0, 80, .inl ow)), (vv, .inl (ww_g X 0, 80, .inl vl))]) rfl ?_
  exact F.v dd_BF_growTo_12
set_option maxRecDepth 4000 in
theorem cc_BF_placeOf (l : Launch) (D : va_G) (g : Nat → ClassId) (h : Nat) (v : Nat) (fo : Nat) (ap : Nat) (aw : Nat) (ag : Nat) (av : Nat) (an : Nat) (vo : Nat) (vv : Nat) (sz : Int32) (pl : Nat → Int32) (wr : Nat → Int32) (pg : Nat → Int32) (pv : Nat → Int32) (nt : Nat → Int32) (ow : Nat → Int32) (vl : Nat → Int32) (b : Nat) (hb : b < 60) : ww_ct l D g yy_BF_placeOf bb_BF_placeOf 2 (some .int) (ww_rm 1) [.ref h, .int (nI b)] [(h, .inr (0, [.ref v, .int (nI fo), .ref ap, .ref aw, .ref ag, .ref av, .ref an, .int sz])), (ap, .inl (g 0, 60, .inl pl)), (aw, .inl (g 1, 60, .inl wr)), (ag, .inl (g 1, 60, .inl pg)), (av, .inl (g 0, 60, .inl pv)), (an, .inl (g 1, 60, .inl nt)), (v, .inr (1, [.ref vo, .ref vv])), (vo, .inl (g 0, 80, .inl ow)), (vv, .inl (g 0, 80, .inl vl))] (some (.int (pl b))) [(h, .inr (0, [.ref v, .int (nI fo), .ref ap, .ref aw, .ref ag, .ref av, .ref an, .int sz])), (ap, .inl (g 0, 60, .inl pl)), (aw, .inl (g 1, 60, .inl wr)), (ag, .inl (g 1, 60, .inl pg)), (av, .inl (g 0, 60, .inl pv)), (an, .inl (g 1, 60, .inl nt)), (v, .inr (1, [.ref vo, .ref vv])), (vo, .inl (g 0, 80, .inl ow)), (vv, .inl (g 0, 80, .inl vl))] := by
  refine ww_start (by decide +kernel) rfl rfl (Nat.le_of_ble_eq_true rfl) (L0 := [(0, .ref h), (1, .int (nI b))]) rfl ?_
  intro X O hl hD hg hR hn F
  subst hl hD hg
  refine ww_aload_n O dd_BF_placeOf_0 0 rfl ?_
  refine ww_get O ci_BF rfl 2 (by decide) lf_BF_9 rfl dd_BF_placeOf_1 0 rfl rfl ?_
  refine ww_iload_n O dd_BF_placeOf_4 1 rfl ?_
  refine ww_iald O dd_BF_placeOf_5 1 rfl (by omega) (by decide) rfl ?_
  exact F.i dd_BF_placeOf_6
set_option maxRecDepth 4000 in
theorem cc_BF_isWritten (l : Launch) (D : va_G) (g : Nat → ClassId) (h : Nat) (v : Nat) (fo : Nat) (ap : Nat) (aw : Nat) (ag : Nat) (av : Nat) (an : Nat) (vo : Nat) (vv : Nat) (sz : Int32) (pl : Nat → Int32) (wr : Nat → Int32) (pg : Nat → Int32) (pv : Nat → Int32) (nt : Nat → Int32) (ow : Nat → Int32) (vl : Nat → Int32) (b : Nat) (hb : b < 60) (hz : narrow .boolean (.int (wr b)) = .int (wr b)) : ww_ct l D g yy_BF_isWritten bb_BF_isWritten 2 (some .boolean) (ww_rm 1) [.ref h, .int (nI b)] [(h, .inr (0, [.ref v, .int (nI fo), .ref ap, .ref aw, .ref ag, .ref av, .ref an, .int sz])), (ap, .inl (g 0, 60, .inl pl)), (aw, .inl (g 1, 60, .inl wr)), (ag, .inl (g 1, 60, .inl pg)), (av, .inl (g 0, 60, .inl pv)), (an, .inl (g 1, 60, .inl nt)), (v, .inr (1, [.ref vo, .ref vv])), (vo, .inl (g 0, 80, .inl ow)), (vv, .inl (g 0, 80, .inl vl))] (some (.int (wr b))) [(h, .inr (0, [.ref v, .int (nI fo), .ref ap, .ref aw, .ref ag, .ref av, .ref an, .int sz])), (ap, .inl (g 0, 60, .inl pl)), (aw, .inl (g 1, 60, .inl wr)), (ag, .inl (g 1, 60, .inl pg)), (av, .inl (g 0, 60, .inl pv)), (an, .inl (g 1, 60, .inl nt)), (v, .inr (1, [.ref vo, .ref vv])), (vo, .inl (g 0, 80, .inl ow)), (vv, .inl (g 0, 80, .inl vl))] := by
  refine ww_start (by decide +kernel) rfl hz (Nat.le_of_ble_eq_true rfl) (L0 := [(0, .ref h), (1, .int (nI b))]) rfl ?_
  intro X O hl hD hg hR hn F
  subst hl hD hg
  refine ww_aload_n O dd_BF_isWritten_0 0 rfl ?_
  refine ww_get O ci_BF rfl 3 (by decide) lf_BF_15 rfl dd_BF_isWritten_1 0 rfl rfl ?_
  refine ww_iload_n O dd_BF_isWritten_4 1 rfl ?_
  refine ww_zald O dd_BF_isWritten_5 2 rfl (by omega) (by decide) rfl ?_
  exact F.i dd_BF_isWritten_6
set_option maxRecDepth 4000 in
theorem cc_BF_hasPage (l : Launch) (D : va_G) (g : Nat → ClassId) (h : Nat) (v : Nat) (fo : Nat) (ap : Nat) (aw : Nat) (ag : Nat) (av : Nat) (an : Nat) (vo : Nat) (vv : Nat) (sz : Int32) (pl : Nat → Int32) (wr : Nat → Int32) (pg : Nat → Int32) (pv : Nat → Int32) (nt : Nat → Int32) (ow : Nat → Int32) (vl : Nat → Int32) (b : Nat) (hb : b < 60) (hz : narrow .boolean (.int (pg b)) = .int (pg b)) : ww_ct l D g yy_BF_hasPage bb_BF_hasPage 2 (some .boolean) (ww_rm 1) [.ref h, .int (nI b)] [(h, .inr (0, [.ref v, .int (nI fo), .ref ap, .ref aw, .ref ag, .ref av, .ref an, .int sz])), (ap, .inl (g 0, 60, .inl pl)), (aw, .inl (g 1, 60, .inl wr)), (ag, .inl (g 1, 60, .inl pg)), (av, .inl (g 0, 60, .inl pv)), (an, .inl (g 1, 60, .inl nt)), (v, .inr (1, [.ref vo, .ref vv])), (vo, .inl (g 0, 80, .inl ow)), (vv, .inl (g 0, 80, .inl vl))] (some (.int (pg b))) [(h, .inr (0, [.ref v, .int (nI fo), .ref ap, .ref aw, .ref ag, .ref av, .ref an, .int sz])), (ap, .inl (g 0, 60, .inl pl)), (aw, .inl (g 1, 60, .inl wr)), (ag, .inl (g 1, 60, .inl pg)), (av, .inl (g 0, 60, .inl pv)), (an, .inl (g 1, 60, .inl nt)), (v, .inr (1, [.ref vo, .ref vv])), (vo, .inl (g 0, 80, .inl ow)), (vv, .inl (g 0, 80, .inl vl))] := by
  refine ww_start (by decide +kernel) rfl hz (Nat.le_of_ble_eq_true rfl) (L0 := [(0, .ref h), (1, .int (nI b))]) rfl ?_
  intro X O hl hD hg hR hn F
  subst hl hD hg
  refine ww_aload_n O dd_BF_hasPage_0 0 rfl ?_
  refine ww_get O ci_BF rfl 4 (by decide) lf_BF_19 rfl dd_BF_hasPage_1 0 rfl rfl ?_
  refine ww_iload_n O dd_BF_hasPage_4 1 rfl ?_
  refine ww_zald O dd_BF_hasPage_5 3 rfl (by omega) (by decide) rfl ?_
  exact F.i dd_BF_hasPage_6
set_option maxRecDepth 4000 in
theorem cc_BF_isHole (l : Launch) (D : va_G) (g : Nat → ClassId) (h : Nat) (v : Nat) (fo : Nat) (ap : Nat) (aw : Nat) (ag : Nat) (av : Nat) (an : Nat) (vo : Nat) (vv : Nat) (sz : Int32) (pl : Nat → Int32) (wr : Nat → Int32) (pg : Nat → Int32) (pv : Nat → Int32) (nt : Nat → Int32) (ow : Nat → Int32) (vl : Nat → Int32) (b : Nat) (hb : b < 60) : ww_ct l D g yy_BF_isHole bb_BF_isHole 2 (some .boolean) (ww_rm 1) [.ref h, .int (nI b)] [(h, .inr (0, [.ref v, .int (nI fo), .ref ap, .ref aw, .ref ag, .ref av, .ref an, .int sz])), (ap, .inl (g 0, 60, .inl pl)), (aw, .inl (g 1, 60, .inl wr)), (ag, .inl (g 1, 60, .inl pg)), (av, .inl (g 0, 60, .inl pv)), (an, .inl (g 1, 60, .inl nt)), (v, .inr (1, [.ref vo, .ref vv])), (vo, .inl (g 0, 80, .inl ow)), (vv, .inl (g 0, 80, .inl vl))] (some (.int (px_b (px_hole pl b)))) [(h, .inr (0, [.ref v, .int (nI fo), .ref ap, .ref aw, .ref ag, .ref av, .ref an, .int sz])), (ap, .inl (g 0, 60, .inl pl)), (aw, .inl (g 1, 60, .inl wr)), (ag, .inl (g 1, 60, .inl pg)), (av, .inl (g 0, 60, .inl pv)), (an, .inl (g 1, 60, .inl nt)), (v, .inr (1, [.ref vo, .ref vv])), (vo, .inl (g 0, 80, .inl ow)), (vv, .inl (g 0, 80, .inl vl))] := by
  refine ww_start (by decide +kernel) rfl (px_b_nar _) (Nat.le_of_ble_eq_true rfl) (L0 := [(0, .ref h), (1, .int (nI b))]) rfl ?_
  intro X O hl hD hg hR hn F
  subst hl hD hg
  refine ww_aload_n O dd_BF_isHole_0 0 rfl ?_
  refine ww_get O ci_BF rfl 2 (by decide) lf_BF_9 rfl dd_BF_isHole_1 0 rfl rfl ?_
  refine ww_iload_n O dd_BF_isHole_4 1 rfl ?_
  refine ww_iald O dd_BF_isHole_5 1 rfl (by omega) (by decide) rfl ?_
  refine ww_iconst O dd_BF_isHole_6 (v := (-1)) rfl ?_
  refine ww_icmp_ne O dd_BF_isHole_7 (tgt := 14) rfl (fun h7 => ?_) (fun h7 => ?_)
  · refine ww_iconst O dd_BF_isHole_14 (v := nI 0) rfl ?_
    rw [show px_hole pl b = false from by simp [px_hole, h7], px_b_f] at F
    exact F.i dd_BF_isHole_15
  · refine ww_iconst O dd_BF_isHole_10 (v := nI 1) rfl ?_
    refine ww_goto O dd_BF_isHole_11 (tgt := 15) rfl ?_
    rw [show px_hole pl b = true from by simp [px_hole, h7], px_b_t] at F
    exact F.i dd_BF_isHole_15
set_option maxRecDepth 4000 in
theorem cc_BF_putPage (l : Launch) (D : va_G) (g : Nat → ClassId) (h : Nat) (v : Nat) (fo : Nat) (ap : Nat) (aw : Nat) (ag : Nat) (av : Nat) (an : Nat) (vo : Nat) (vv : Nat) (sz : Int32) (pl : Nat → Int32) (wr : Nat → Int32) (pg : Nat → Int32) (pv : Nat → Int32) (nt : Nat → Int32) (ow : Nat → Int32) (vl : Nat → Int32) (b : Nat) (x : Int32) (hb : b < 60) : ww_ct l D g yy_BF_putPage bb_BF_putPage 3 none (ww_rm 1) [.ref h, .int (nI b), .int x] [(h, .inr (0, [.ref v, .int (nI fo), .ref ap, .ref aw, .ref ag, .ref av, .ref an, .int sz])), (ap, .inl (g 0, 60, .inl pl)), (aw, .inl (g 1, 60, .inl wr)), (ag, .inl (g 1, 60, .inl pg)), (av, .inl (g 0, 60, .inl pv)), (an, .inl (g 1, 60, .inl nt)), (v, .inr (1, [.ref vo, .ref vv])), (vo, .inl (g 0, 80, .inl ow)), (vv, .inl (g 0, 80, .inl vl))] none [(h, .inr (0, [.ref v, .int (nI fo), .ref ap, .ref aw, .ref ag, .ref av, .ref an, .int sz])), (ap, .inl (g 0, 60, .inl pl)), (aw, .inl (g 1, 60, .inl wr)), (ag, .inl (g 1, 60, .inl (upd pg b (nI 1)))), (av, .inl (g 0, 60, .inl (upd pv b x))), (an, .inl (g 1, 60, .inl nt)), (v, .inr (1, [.ref vo, .ref vv])), (vo, .inl (g 0, 80, .inl ow)), (vv, .inl (g 0, 80, .inl vl))] := by
  refine ww_start (by decide +kernel) rfl trivial (Nat.le_of_ble_eq_true rfl) (L0 := [(0, .ref h), (1, .int (nI b)), (2, .int x)]) rfl ?_
  intro X O hl hD hg hR hn F
  subst hl hD hg
  refine ww_aload_n O dd_BF_putPage_0 0 rfl ?_
  refine ww_get O ci_BF rfl 4 (by decide) lf_BF_19 rfl dd_BF_putPage_1 0 rfl rfl ?_
  refine ww_iload_n O dd_BF_putPage_4 1 rfl ?_
  refine ww_iconst O dd_BF_putPage_5 (v := nI 1) rfl ?_
  refine ww_zast O dd_BF_putPage_6 3 rfl (by omega) (by decide) rfl (ws' := [(h, .inr (0, [.ref v, .int (nI fo), .ref ap, .ref aw, .ref ag, .ref av, .ref an, .int sz])), (ap, .inl (ww_g X 0, 60, .inl pl)), (aw, .inl (ww_g X 1, 60, .inl wr)), (ag, .inl (ww_g X 1, 60, .inl (upd pg b (nI 1)))), (av, .inl (ww_g X 0, 60, .inl pv)), (an, .inl (ww_g X 1, 60, .inl nt)), (v, .inr (1, [.ref vo, .ref vv])), (vo, .inl (ww_g X 0, 80, .inl ow)), (vv, .inl (ww_g X 0, 80, .inl vl))]) rfl ?_
  refine ww_aload_n O dd_BF_putPage_7 0 rfl ?_
  refine ww_get O ci_BF rfl 5 (by decide) lf_BF_22 rfl dd_BF_putPage_8 0 rfl rfl ?_
  refine ww_iload_n O dd_BF_putPage_11 1 rfl ?_
  refine ww_iload_n O dd_BF_putPage_12 2 rfl ?_
  refine ww_iast O dd_BF_putPage_13 4 rfl (by omega) (by decide) (ws' := [(h, .inr (0, [.ref v, .int (nI fo), .ref ap, .ref aw, .ref ag, .ref av, .ref an, .int sz])), (ap, .inl (ww_g X 0, 60, .inl pl)), (aw, .inl (ww_g X 1, 60, .inl wr)), (ag, .inl (ww_g X 1, 60, .inl (upd pg b (nI 1)))), (av, .inl (ww_g X 0, 60, .inl (upd pv b x))), (an, .inl (ww_g X 1, 60, .inl nt)), (v, .inr (1, [.ref vo, .ref vv])), (vo, .inl (ww_g X 0, 80, .inl ow)), (vv, .inl (ww_g X 0, 80, .inl vl))]) rfl ?_
  exact F.v dd_BF_putPage_14
set_option maxRecDepth 4000 in
theorem cc_BF_dropPage (l : Launch) (D : va_G) (g : Nat → ClassId) (h : Nat) (v : Nat) (fo : Nat) (ap : Nat) (aw : Nat) (ag : Nat) (av : Nat) (an : Nat) (vo : Nat) (vv : Nat) (sz : Int32) (pl : Nat → Int32) (wr : Nat → Int32) (pg : Nat → Int32) (pv : Nat → Int32) (nt : Nat → Int32) (ow : Nat → Int32) (vl : Nat → Int32) (b : Nat) (hb : b < 60) : ww_ct l D g yy_BF_dropPage bb_BF_dropPage 2 none (ww_rm 1) [.ref h, .int (nI b)] [(h, .inr (0, [.ref v, .int (nI fo), .ref ap, .ref aw, .ref ag, .ref av, .ref an, .int sz])), (ap, .inl (g 0, 60, .inl pl)), (aw, .inl (g 1, 60, .inl wr)), (ag, .inl (g 1, 60, .inl pg)), (av, .inl (g 0, 60, .inl pv)), (an, .inl (g 1, 60, .inl nt)), (v, .inr (1, [.ref vo, .ref vv])), (vo, .inl (g 0, 80, .inl ow)), (vv, .inl (g 0, 80, .inl vl))] none [(h, .inr (0, [.ref v, .int (nI fo), .ref ap, .ref aw, .ref ag, .ref av, .ref an, .int sz])), (ap, .inl (g 0, 60, .inl pl)), (aw, .inl (g 1, 60, .inl wr)), (ag, .inl (g 1, 60, .inl (upd pg b (nI 0)))), (av, .inl (g 0, 60, .inl pv)), (an, .inl (g 1, 60, .inl nt)), (v, .inr (1, [.ref vo, .ref vv])), (vo, .inl (g 0, 80, .inl ow)), (vv, .inl (g 0, 80, .inl vl))] := by
  refine ww_start (by decide +kernel) rfl trivial (Nat.le_of_ble_eq_true rfl) (L0 := [(0, .ref h), (1, .int (nI b))]) rfl ?_
  intro X O hl hD hg hR hn F
  subst hl hD hg
  refine ww_aload_n O dd_BF_dropPage_0 0 rfl ?_
  refine ww_get O ci_BF rfl 4 (by decide) lf_BF_19 rfl dd_BF_dropPage_1 0 rfl rfl ?_
  refine ww_iload_n O dd_BF_dropPage_4 1 rfl ?_
  refine ww_iconst O dd_BF_dropPage_5 (v := nI 0) rfl ?_
  refine ww_zast O dd_BF_dropPage_6 3 rfl (by omega) (by decide) rfl (ws' := [(h, .inr (0, [.ref v, .int (nI fo), .ref ap, .ref aw, .ref ag, .ref av, .ref an, .int sz])), (ap, .inl (ww_g X 0, 60, .inl pl)), (aw, .inl (ww_g X 1, 60, .inl wr)), (ag, .inl (ww_g X 1, 60, .inl (upd pg b (nI 0)))), (av, .inl (ww_g X 0, 60, .inl pv)), (an, .inl (ww_g X 1, 60, .inl nt)), (v, .inr (1, [.ref vo, .ref vv])), (vo, .inl (ww_g X 0, 80, .inl ow)), (vv, .inl (ww_g X 0, 80, .inl vl))]) rfl ?_
  exact F.v dd_BF_dropPage_7
set_option maxRecDepth 4000 in
theorem cc_BF_dropPages (l : Launch) (D : va_G) (g : Nat → ClassId) (h : Nat) (v : Nat) (fo : Nat) (ap : Nat) (aw : Nat) (ag : Nat) (av : Nat) (an : Nat) (vo : Nat) (vv : Nat) (sz : Int32) (pl : Nat → Int32) (wr : Nat → Int32) (pg : Nat → Int32) (pv : Nat → Int32) (nt : Nat → Int32) (ow : Nat → Int32) (vl : Nat → Int32)  : ww_ct l D g yy_BF_dropPages bb_BF_dropPages 2 none (ww_rm 2) [.ref h] [(h, .inr (0, [.ref v, .int (nI fo), .ref ap, .ref aw, .ref ag, .ref av, .ref an, .int sz])), (ap, .inl (g 0, 60, .inl pl)), (aw, .inl (g 1, 60, .inl wr)), (ag, .inl (g 1, 60, .inl pg)), (av, .inl (g 0, 60, .inl pv)), (an, .inl (g 1, 60, .inl nt)), (v, .inr (1, [.ref vo, .ref vv])), (vo, .inl (g 0, 80, .inl ow)), (vv, .inl (g 0, 80, .inl vl))] none [(h, .inr (0, [.ref v, .int (nI fo), .ref ap, .ref aw, .ref ag, .ref av, .ref an, .int sz])), (ap, .inl (g 0, 60, .inl pl)), (aw, .inl (g 1, 60, .inl wr)), (ag, .inl (g 1, 60, .inl (px_fill pg 0 60 (nI 0)))), (av, .inl (g 0, 60, .inl pv)), (an, .inl (g 1, 60, .inl nt)), (v, .inr (1, [.ref vo, .ref vv])), (vo, .inl (g 0, 80, .inl ow)), (vv, .inl (g 0, 80, .inl vl))] := by
  refine ww_start (by decide +kernel) rfl trivial (Nat.le_of_ble_eq_true rfl) (L0 := [(0, .ref h)]) rfl ?_
  intro X O hl hD hg hR hn F
  subst hl hD hg
  have loop : ∀ (k b : Nat), 60 ≤ b + k → b ≤ 60 → ww_at X 0 0 2 [(0, .ref h), (1, .int (nI b))] [] [(h, .inr (0, [.ref v, .int (nI fo), .ref ap, .ref aw, .ref ag, .ref av, .ref an, .int sz])), (ap, .inl (ww_g X 0, 60, .inl pl)), (aw, .inl (ww_g X 1, 60, .inl wr)), (ag, .inl (ww_g X 1, 60, .inl (px_fill pg 0 b (nI 0)))), (av, .inl (ww_g X 0, 60, .inl pv)), (an, .inl (ww_g X 1, 60, .inl nt)), (v, .inr (1, [.ref vo, .ref vv])), (vo, .inl (ww_g X 0, 80, .inl ow)), (vv, .inl (ww_g X 0, 80, .inl vl))] := by
    intro k
    induction k with
    | zero =>
      intro b h1 h2
      refine ww_iload_n O dd_BF_dropPages_2 1 rfl ?_
      refine ww_bipush O dd_BF_dropPages_3 (v := nI 60) rfl ?_
      refine ww_icmp_geN O dd_BF_dropPages_5 (tgt := 19) rfl (by omega) (by omega) (fun h5 => ?_) (fun h5 => ?_)
      · have e : b = 60 := by omega
        subst e
        exact F.v dd_BF_dropPages_19
      · exfalso; omega
    | succ k ih =>
      intro b h1 h2
      refine ww_iload_n O dd_BF_dropPages_2 1 rfl ?_
      refine ww_bipush O dd_BF_dropPages_3 (v := nI 60) rfl ?_
      refine ww_icmp_geN O dd_BF_dropPages_5 (tgt := 19) rfl (by omega) (by omega) (fun h5 => ?_) (fun h5 => ?_)
      · have e : b = 60 := by omega
        subst e
        exact F.v dd_BF_dropPages_19
      · refine ww_aload_n O dd_BF_dropPages_8 0 rfl ?_
        refine ww_iload_n O dd_BF_dropPages_9 1 rfl ?_
        refine ww_callV (q0 := 0) (ci := 0) O (cc_BF_dropPage _ _ _ h v fo ap aw ag av an vo vv sz pl wr (px_fill pg 0 b (nI 0)) pv nt ow vl b (by omega)) lc_BF_51 lx_BF_dropPage_I_V rfl rfl rfl (by rw [hR]; decide) (by rw [hR]; decide) (by rw [hR]; decide) rfl (Nat.le_of_ble_eq_true rfl) dd_BF_dropPages_10 rfl [0, 1, 2, 3, 4, 5, 6, 7, 8] [] [0, 1, 2, 3, 4, 5, 6, 7, 8] rfl (by decide) rfl (by decide) (by decide) (ws' := [(h, .inr (0, [.ref v, .int (nI fo), .ref ap, .ref aw, .ref ag, .ref av, .ref an, .int sz])), (ap, .inl (ww_g X 0, 60, .inl pl)), (aw, .inl (ww_g X 1, 60, .inl wr)), (ag, .inl (ww_g X 1, 60, .inl (upd (px_fill pg 0 b (nI 0)) b (nI 0)))), (av, .inl (ww_g X 0, 60, .inl pv)), (an, .inl (ww_g X 1, 60, .inl nt)), (v, .inr (1, [.ref vo, .ref vv])), (vo, .inl (ww_g X 0, 80, .inl ow)), (vv, .inl (ww_g X 0, 80, .inl vl))]) rfl rfl (by decide) ?_
        refine ww_iinc O dd_BF_dropPages_13 1 rfl (v := nI (b + 1)) (nI_add _ 1) (by rw [hn]; decide) rfl (L' := [(0, .ref h), (1, .int (nI (b + 1)))]) rfl ?_
        refine ww_goto O dd_BF_dropPages_16 (tgt := 2) rfl ?_
        rw [px_fill_s0]
        exact ih (b + 1) (by omega) (by omega)
  have h0 := loop 60 0 (by omega) (by omega)
  rw [px_fill_0] at h0
  refine ww_iconst O dd_BF_dropPages_0 (v := nI 0) rfl ?_
  refine ww_istore_n O dd_BF_dropPages_1 (by rw [hn]; decide) rfl (L' := [(0, .ref h), (1, .int (nI 0))]) rfl ?_
  exact h0
set_option maxRecDepth 4000 in
theorem cc_BF_readsAs (l : Launch) (D : va_G) (g : Nat → ClassId) (h : Nat) (v : Nat) (fo : Nat) (ap : Nat) (aw : Nat) (ag : Nat) (av : Nat) (an : Nat) (vo : Nat) (vv : Nat) (sz : Int32) (pl : Nat → Int32) (wr : Nat → Int32) (pg : Nat → Int32) (pv : Nat → Int32) (nt : Nat → Int32) (ow : Nat → Int32) (vl : Nat → Int32) (b : Nat) (hb : b < 60) (hr : pl b = -1 ∨ ∃ p, p < 80 ∧ pl b = nI p) : ww_ct l D g yy_BF_readsAs bb_BF_readsAs 2 (some .int) (ww_rm 2) [.ref h, .int (nI b)] [(h, .inr (0, [.ref v, .int (nI fo), .ref ap, .ref aw, .ref ag, .ref av, .ref an, .int sz])), (ap, .inl (g 0, 60, .inl pl)), (aw, .inl (g 1, 60, .inl wr)), (ag, .inl (g 1, 60, .inl pg)), (av, .inl (g 0, 60, .inl pv)), (an, .inl (g 1, 60, .inl nt)), (v, .inr (1, [.ref vo, .ref vv])), (vo, .inl (g 0, 80, .inl ow)), (vv, .inl (g 0, 80, .inl vl))] (some (.int (px_read pl wr pg pv vl b))) [(h, .inr (0, [.ref v, .int (nI fo), .ref ap, .ref aw, .ref ag, .ref av, .ref an, .int sz])), (ap, .inl (g 0, 60, .inl pl)), (aw, .inl (g 1, 60, .inl wr)), (ag, .inl (g 1, 60, .inl pg)), (av, .inl (g 0, 60, .inl pv)), (an, .inl (g 1, 60, .inl nt)), (v, .inr (1, [.ref vo, .ref vv])), (vo, .inl (g 0, 80, .inl ow)), (vv, .inl (g 0, 80, .inl vl))] := by
  refine ww_start (by decide +kernel) rfl rfl (Nat.le_of_ble_eq_true rfl) (L0 := [(0, .ref h), (1, .int (nI b))]) rfl ?_
  intro X O hl hD hg hR hn F
  subst hl hD hg
  refine ww_aload_n O dd_BF_readsAs_0 0 rfl ?_
  refine ww_get O ci_BF rfl 4 (by decide) lf_BF_19 rfl dd_BF_readsAs_1 0 rfl rfl ?_
  refine ww_iload_n O dd_BF_readsAs_4 1 rfl ?_
  refine ww_zald O dd_BF_readsAs_5 3 rfl (by omega) (by decide) rfl ?_
  refine ww_if_eq O dd_BF_readsAs_6 (tgt := 16) rfl (fun h6 => ?_) (fun h6 => ?_)
  · refine ww_aload_n O dd_BF_readsAs_16 0 rfl ?_
    refine ww_iload_n O dd_BF_readsAs_17 1 rfl ?_
    refine ww_callV (q0 := 0) (ci := 0) O (cc_BF_isHole _ _ _ h v fo ap aw ag av an vo vv sz pl wr pg pv nt ow vl b (by omega)) lc_BF_55 lx_BF_isHole_I_Z rfl rfl rfl (by rw [hR]; decide) (by rw [hR]; decide) (by rw [hR]; decide) rfl (Nat.le_of_ble_eq_true rfl) dd_BF_readsAs_18 rfl [0, 1, 2, 3, 4, 5, 6, 7, 8] [] [0, 1, 2, 3, 4, 5, 6, 7, 8] rfl (by decide) rfl (by decide) (by decide) (ws' := [(h, .inr (0, [.ref v, .int (nI fo), .ref ap, .ref aw, .ref ag, .ref av, .ref an, .int sz])), (ap, .inl (ww_g X 0, 60, .inl pl)), (aw, .inl (ww_g X 1, 60, .inl wr)), (ag, .inl (ww_g X 1, 60, .inl pg)), (av, .inl (ww_g X 0, 60, .inl pv)), (an, .inl (ww_g X 1, 60, .inl nt)), (v, .inr (1, [.ref vo, .ref vv])), (vo, .inl (ww_g X 0, 80, .inl ow)), (vv, .inl (ww_g X 0, 80, .inl vl))]) rfl rfl (by decide) ?_
    refine ww_if_neB O dd_BF_readsAs_21 (tgt := 33) rfl (fun h21 => ?_) (fun h21 => ?_)
    · refine ww_iconst O dd_BF_readsAs_33 (v := nI 0) rfl ?_
      rw [show px_read pl wr pg pv vl b = nI 0 from by unfold px_read; rw [if_pos h6, if_pos (Or.inl h21)]; rfl] at F
      exact F.i dd_BF_readsAs_34
    · refine ww_aload_n O dd_BF_readsAs_24 0 rfl ?_
      refine ww_get O ci_BF rfl 3 (by decide) lf_BF_15 rfl dd_BF_readsAs_25 0 rfl rfl ?_
      refine ww_iload_n O dd_BF_readsAs_28 1 rfl ?_
      refine ww_zald O dd_BF_readsAs_29 2 rfl (by omega) (by decide) rfl ?_
      refine ww_if_ne O dd_BF_readsAs_30 (tgt := 35) rfl (fun h30 => ?_) (fun h30 => ?_)
      · refine ww_aload_n O dd_BF_readsAs_35 0 rfl ?_
        refine ww_get O ci_BF rfl 0 (by decide) lf_BF_32 rfl dd_BF_readsAs_36 0 rfl rfl ?_
        refine ww_aload_n O dd_BF_readsAs_39 0 rfl ?_
        refine ww_get O ci_BF rfl 2 (by decide) lf_BF_9 rfl dd_BF_readsAs_40 0 rfl rfl ?_
        refine ww_iload_n O dd_BF_readsAs_43 1 rfl ?_
        refine ww_iald O dd_BF_readsAs_44 1 rfl (by omega) (by decide) rfl ?_
        obtain ⟨p, hp, hq⟩ : ∃ p, p < 80 ∧ pl b = nI p := by
          rcases hr with h | h
          · simp [px_hole, h] at h21
          · exact h
        rw [hq]
        refine ww_callV (q0 := 6) (ci := 1) O (cc_VO_valueAt _ _ _ v vo vv ow vl p (by omega)) lc_BF_59 lx_VO_valueAt_I_I rfl rfl rfl (by rw [hR]; decide) (by rw [hR]; decide) (by rw [hR]; decide) rfl (Nat.le_of_ble_eq_true rfl) dd_BF_readsAs_45 rfl [6, 7, 8] [0, 1, 2, 3, 4, 5] [0, 1, 2, 3, 4, 5, 6, 7, 8] rfl (by decide) rfl (by decide) (by decide) (ws' := [(h, .inr (0, [.ref v, .int (nI fo), .ref ap, .ref aw, .ref ag, .ref av, .ref an, .int sz])), (ap, .inl (ww_g X 0, 60, .inl pl)), (aw, .inl (ww_g X 1, 60, .inl wr)), (ag, .inl (ww_g X 1, 60, .inl pg)), (av, .inl (ww_g X 0, 60, .inl pv)), (an, .inl (ww_g X 1, 60, .inl nt)), (v, .inr (1, [.ref vo, .ref vv])), (vo, .inl (ww_g X 0, 80, .inl ow)), (vv, .inl (ww_g X 0, 80, .inl vl))]) rfl rfl (by decide) ?_
        rw [show px_read pl wr pg pv vl b = vl p from by unfold px_read; rw [if_pos h6, if_neg (by simp [h21, h30]), hq, nI_clamp (by omega)]] at F
        exact F.i dd_BF_readsAs_48
      · refine ww_iconst O dd_BF_readsAs_33 (v := nI 0) rfl ?_
        rw [show px_read pl wr pg pv vl b = nI 0 from by unfold px_read; rw [if_pos h6, if_pos (Or.inr h30)]; rfl] at F
        exact F.i dd_BF_readsAs_34
  · refine ww_aload_n O dd_BF_readsAs_9 0 rfl ?_
    refine ww_get O ci_BF rfl 5 (by decide) lf_BF_22 rfl dd_BF_readsAs_10 0 rfl rfl ?_
    refine ww_iload_n O dd_BF_readsAs_13 1 rfl ?_
    refine ww_iald O dd_BF_readsAs_14 4 rfl (by omega) (by decide) rfl ?_
    rw [show px_read pl wr pg pv vl b = pv b from by unfold px_read; rw [if_neg h6]] at F
    exact F.i dd_BF_readsAs_15
set_option maxRecDepth 4000 in
theorem cc_BF_countPages (l : Launch) (D : va_G) (g : Nat → ClassId) (h : Nat) (v : Nat) (fo : Nat) (ap : Nat) (aw : Nat) (ag : Nat) (av : Nat) (an : Nat) (vo : Nat) (vv : Nat) (sz : Int32) (pl : Nat → Int32) (wr : Nat → Int32) (pg : Nat → Int32) (pv : Nat → Int32) (nt : Nat → Int32) (ow : Nat → Int32) (vl : Nat → Int32)  : ww_ct l D g yy_BF_countPages bb_BF_countPages 3 (some .int) (ww_rm 1) [.ref h] [(h, .inr (0, [.ref v, .int (nI fo), .ref ap, .ref aw, .ref ag, .ref av, .ref an, .int sz])), (ap, .inl (g 0, 60, .inl pl)), (aw, .inl (g 1, 60, .inl wr)), (ag, .inl (g 1, 60, .inl pg)), (av, .inl (g 0, 60, .inl pv)), (an, .inl (g 1, 60, .inl nt)), (v, .inr (1, [.ref vo, .ref vv])), (vo, .inl (g 0, 80, .inl ow)), (vv, .inl (g 0, 80, .inl vl))] (some (.int (nI (px_pp pg 0)))) [(h, .inr (0, [.ref v, .int (nI fo), .ref ap, .ref aw, .ref ag, .ref av, .ref an, .int sz])), (ap, .inl (g 0, 60, .inl pl)), (aw, .inl (g 1, 60, .inl wr)), (ag, .inl (g 1, 60, .inl pg)), (av, .inl (g 0, 60, .inl pv)), (an, .inl (g 1, 60, .inl nt)), (v, .inr (1, [.ref vo, .ref vv])), (vo, .inl (g 0, 80, .inl ow)), (vv, .inl (g 0, 80, .inl vl))] := by
  refine ww_start (by decide +kernel) rfl rfl (Nat.le_of_ble_eq_true rfl) (L0 := [(0, .ref h)]) rfl ?_
  intro X O hl hD hg hR hn F
  subst hl hD hg
  have loop : ∀ (k b c : Nat), 60 ≤ b + k → b ≤ 60 → c = px_cnt (px_on pg) 0 b → ww_at X 0 0 4 [(0, .ref h), (1, .int (nI c)), (2, .int (nI b))] [] [(h, .inr (0, [.ref v, .int (nI fo), .ref ap, .ref aw, .ref ag, .ref av, .ref an, .int sz])), (ap, .inl (ww_g X 0, 60, .inl pl)), (aw, .inl (ww_g X 1, 60, .inl wr)), (ag, .inl (ww_g X 1, 60, .inl pg)), (av, .inl (ww_g X 0, 60, .inl pv)), (an, .inl (ww_g X 1, 60, .inl nt)), (v, .inr (1, [.ref vo, .ref vv])), (vo, .inl (ww_g X 0, 80, .inl ow)), (vv, .inl (ww_g X 0, 80, .inl vl))] := by
    intro k
    induction k with
    | zero =>
      intro b c h1 h2 h3
      refine ww_iload_n O dd_BF_countPages_4 2 rfl ?_
      refine ww_bipush O dd_BF_countPages_5 (v := nI 60) rfl ?_
      refine ww_icmp_geN O dd_BF_countPages_7 (tgt := 28) rfl (by omega) (by omega) (fun h7 => ?_) (fun h7 => ?_)
      · refine ww_iload_n O dd_BF_countPages_28 1 rfl ?_
        rw [show px_pp pg 0 = c from by rw [h3, show b = 60 by omega]; rfl] at F
        exact F.i dd_BF_countPages_29
      · exfalso; omega
    | succ k ih =>
      intro b c h1 h2 h3
      refine ww_iload_n O dd_BF_countPages_4 2 rfl ?_
      refine ww_bipush O dd_BF_countPages_5 (v := nI 60) rfl ?_
      refine ww_icmp_geN O dd_BF_countPages_7 (tgt := 28) rfl (by omega) (by omega) (fun h7 => ?_) (fun h7 => ?_)
      · refine ww_iload_n O dd_BF_countPages_28 1 rfl ?_
        rw [show px_pp pg 0 = c from by rw [h3, show b = 60 by omega]; rfl] at F
        exact F.i dd_BF_countPages_29
      · refine ww_aload_n O dd_BF_countPages_10 0 rfl ?_
        refine ww_get O ci_BF rfl 4 (by decide) lf_BF_19 rfl dd_BF_countPages_11 0 rfl rfl ?_
        refine ww_iload_n O dd_BF_countPages_14 2 rfl ?_
        refine ww_zald O dd_BF_countPages_15 3 rfl (by omega) (by decide) rfl ?_
        refine ww_if_eq O dd_BF_countPages_16 (tgt := 22) rfl (fun h16 => ?_) (fun h16 => ?_)
        · refine ww_iinc O dd_BF_countPages_22 2 rfl (v := nI (b + 1)) (nI_add _ 1) (by rw [hn]; decide) rfl (L' := [(0, .ref h), (1, .int (nI c)), (2, .int (nI (b + 1)))]) rfl ?_
          refine ww_goto O dd_BF_countPages_25 (tgt := 4) rfl ?_
          exact ih (b + 1) c (by omega) (by omega) (px_c0f h3 (by simp [px_on, px_hole, h16]))
        · refine ww_iinc O dd_BF_countPages_19 1 rfl (v := nI (c + 1)) (nI_add _ 1) (by rw [hn]; decide) rfl (L' := [(0, .ref h), (1, .int (nI (c + 1))), (2, .int (nI b))]) rfl ?_
          refine ww_iinc O dd_BF_countPages_22 2 rfl (v := nI (b + 1)) (nI_add _ 1) (by rw [hn]; decide) rfl (L' := [(0, .ref h), (1, .int (nI (c + 1))), (2, .int (nI (b + 1)))]) rfl ?_
          refine ww_goto O dd_BF_countPages_25 (tgt := 4) rfl ?_
          exact ih (b + 1) (c + 1) (by omega) (by omega) (px_c0t h3 (by simp [px_on, px_hole, h16]))
  refine ww_iconst O dd_BF_countPages_0 (v := nI 0) rfl ?_
  refine ww_istore_n O dd_BF_countPages_1 (by rw [hn]; decide) rfl (L' := [(0, .ref h), (1, .int (nI 0))]) rfl ?_
  refine ww_iconst O dd_BF_countPages_2 (v := nI 0) rfl ?_
  refine ww_istore_n O dd_BF_countPages_3 (by rw [hn]; decide) rfl (L' := [(0, .ref h), (1, .int (nI 0)), (2, .int (nI 0))]) rfl ?_
  exact loop 60 0 0 (by omega) (by omega) rfl
set_option maxRecDepth 4000 in
theorem cc_BF_countHoles (l : Launch) (D : va_G) (g : Nat → ClassId) (h : Nat) (v : Nat) (fo : Nat) (ap : Nat) (aw : Nat) (ag : Nat) (av : Nat) (an : Nat) (vo : Nat) (vv : Nat) (sz : Int32) (pl : Nat → Int32) (wr : Nat → Int32) (pg : Nat → Int32) (pv : Nat → Int32) (nt : Nat → Int32) (ow : Nat → Int32) (vl : Nat → Int32) (a : Nat) (e : Nat) (ha : a ≤ e) (he : e ≤ 60) : ww_ct l D g yy_BF_countHoles bb_BF_countHoles 5 (some .int) (ww_rm 2) [.ref h, .int (nI a), .int (nI e)] [(h, .inr (0, [.ref v, .int (nI fo), .ref ap, .ref aw, .ref ag, .ref av, .ref an, .int sz])), (ap, .inl (g 0, 60, .inl pl)), (aw, .inl (g 1, 60, .inl wr)), (ag, .inl (g 1, 60, .inl pg)), (av, .inl (g 0, 60, .inl pv)), (an, .inl (g 1, 60, .inl nt)), (v, .inr (1, [.ref vo, .ref vv])), (vo, .inl (g 0, 80, .inl ow)), (vv, .inl (g 0, 80, .inl vl))] (some (.int (nI (px_cnt (px_hole pl) a (e - a))))) [(h, .inr (0, [.ref v, .int (nI fo), .ref ap, .ref aw, .ref ag, .ref av, .ref an, .int sz])), (ap, .inl (g 0, 60, .inl pl)), (aw, .inl (g 1, 60, .inl wr)), (ag, .inl (g 1, 60, .inl pg)), (av, .inl (g 0, 60, .inl pv)), (an, .inl (g 1, 60, .inl nt)), (v, .inr (1, [.ref vo, .ref vv])), (vo, .inl (g 0, 80, .inl ow)), (vv, .inl (g 0, 80, .inl vl))] := by
  refine ww_start (by decide +kernel) rfl rfl (Nat.le_of_ble_eq_true rfl) (L0 := [(0, .ref h), (1, .int (nI a)), (2, .int (nI e))]) rfl ?_
  intro X O hl hD hg hR hn F
  subst hl hD hg
  have loop : ∀ (k b c : Nat), e ≤ b + k → a ≤ b → b ≤ e → c = px_cnt (px_hole pl) a (b - a) → ww_at X 0 0 5 [(0, .ref h), (1, .int (nI a)), (2, .int (nI e)), (3, .int (nI c)), (4, .int (nI b))] [] [(h, .inr (0, [.ref v, .int (nI fo), .ref ap, .ref aw, .ref ag, .ref av, .ref an, .int sz])), (ap, .inl (ww_g X 0, 60, .inl pl)), (aw, .inl (ww_g X 1, 60, .inl wr)), (ag, .inl (ww_g X 1, 60, .inl pg)), (av, .inl (ww_g X 0, 60, .inl pv)), (an, .inl (ww_g X 1, 60, .inl nt)), (v, .inr (1, [.ref vo, .ref vv])), (vo, .inl (ww_g X 0, 80, .inl ow)), (vv, .inl (ww_g X 0, 80, .inl vl))] := by
    intro k
    induction k with
    | zero =>
      intro b c h1 h2 h3 h4
      refine ww_iload O dd_BF_countHoles_5 4 rfl ?_
      refine ww_iload_n O dd_BF_countHoles_7 2 rfl ?_
      refine ww_icmp_geN O dd_BF_countHoles_8 (tgt := 29) rfl (by omega) (by omega) (fun h8 => ?_) (fun h8 => ?_)
      · refine ww_iload_n O dd_BF_countHoles_29 3 rfl ?_
        rw [show px_cnt (px_hole pl) a (e - a) = c from by rw [h4, show b = e by omega]] at F
        exact F.i dd_BF_countHoles_30
      · exfalso; omega
    | succ k ih =>
      intro b c h1 h2 h3 h4
      refine ww_iload O dd_BF_countHoles_5 4 rfl ?_
      refine ww_iload_n O dd_BF_countHoles_7 2 rfl ?_
      refine ww_icmp_geN O dd_BF_countHoles_8 (tgt := 29) rfl (by omega) (by omega) (fun h8 => ?_) (fun h8 => ?_)
      · refine ww_iload_n O dd_BF_countHoles_29 3 rfl ?_
        rw [show px_cnt (px_hole pl) a (e - a) = c from by rw [h4, show b = e by omega]] at F
        exact F.i dd_BF_countHoles_30
      · refine ww_aload_n O dd_BF_countHoles_11 0 rfl ?_
        refine ww_iload O dd_BF_countHoles_12 4 rfl ?_
        refine ww_callV (q0 := 0) (ci := 0) O (cc_BF_isHole _ _ _ h v fo ap aw ag av an vo vv sz pl wr pg pv nt ow vl b (by omega)) lc_BF_55 lx_BF_isHole_I_Z rfl rfl rfl (by rw [hR]; decide) (by rw [hR]; decide) (by rw [hR]; decide) rfl (Nat.le_of_ble_eq_true rfl) dd_BF_countHoles_14 rfl [0, 1, 2, 3, 4, 5, 6, 7, 8] [] [0, 1, 2, 3, 4, 5, 6, 7, 8] rfl (by decide) rfl (by decide) (by decide) (ws' := [(h, .inr (0, [.ref v, .int (nI fo), .ref ap, .ref aw, .ref ag, .ref av, .ref an, .int sz])), (ap, .inl (ww_g X 0, 60, .inl pl)), (aw, .inl (ww_g X 1, 60, .inl wr)), (ag, .inl (ww_g X 1, 60, .inl pg)), (av, .inl (ww_g X 0, 60, .inl pv)), (an, .inl (ww_g X 1, 60, .inl nt)), (v, .inr (1, [.ref vo, .ref vv])), (vo, .inl (ww_g X 0, 80, .inl ow)), (vv, .inl (ww_g X 0, 80, .inl vl))]) rfl rfl (by decide) ?_
        refine ww_if_eqB O dd_BF_countHoles_17 (tgt := 23) rfl (fun h17 => ?_) (fun h17 => ?_)
        · refine ww_iinc O dd_BF_countHoles_23 4 rfl (v := nI (b + 1)) (nI_add _ 1) (by rw [hn]; decide) rfl (L' := [(0, .ref h), (1, .int (nI a)), (2, .int (nI e)), (3, .int (nI c)), (4, .int (nI (b + 1)))]) rfl ?_
          refine ww_goto O dd_BF_countHoles_26 (tgt := 5) rfl ?_
          exact ih (b + 1) c (by omega) (by omega) (by omega) (px_caf h2 h4 h17)
        · refine ww_iinc O dd_BF_countHoles_20 3 rfl (v := nI (c + 1)) (nI_add _ 1) (by rw [hn]; decide) rfl (L' := [(0, .ref h), (1, .int (nI a)), (2, .int (nI e)), (3, .int (nI (c + 1))), (4, .int (nI b))]) rfl ?_
          refine ww_iinc O dd_BF_countHoles_23 4 rfl (v := nI (b + 1)) (nI_add _ 1) (by rw [hn]; decide) rfl (L' := [(0, .ref h), (1, .int (nI a)), (2, .int (nI e)), (3, .int (nI (c + 1))), (4, .int (nI (b + 1)))]) rfl ?_
          refine ww_goto O dd_BF_countHoles_26 (tgt := 5) rfl ?_
          exact ih (b + 1) (c + 1) (by omega) (by omega) (by omega) (px_cat h2 h4 h17)
  refine ww_iconst O dd_BF_countHoles_0 (v := nI 0) rfl ?_
  refine ww_istore_n O dd_BF_countHoles_1 (by rw [hn]; decide) rfl (L' := [(0, .ref h), (1, .int (nI a)), (2, .int (nI e)), (3, .int (nI 0))]) rfl ?_
  refine ww_iload_n O dd_BF_countHoles_2 1 rfl ?_
  refine ww_istore O dd_BF_countHoles_3 (by rw [hn]; decide) rfl (L' := [(0, .ref h), (1, .int (nI a)), (2, .int (nI e)), (3, .int (nI 0)), (4, .int (nI a))]) rfl ?_
  exact loop e a 0 (by omega) (by omega) (by omega) (by rw [Nat.sub_self]; rfl)
set_option maxRecDepth 4000 in
theorem cc_BF_countMapped (l : Launch) (D : va_G) (g : Nat → ClassId) (h : Nat) (v : Nat) (fo : Nat) (ap : Nat) (aw : Nat) (ag : Nat) (av : Nat) (an : Nat) (vo : Nat) (vv : Nat) (sz : Int32) (pl : Nat → Int32) (wr : Nat → Int32) (pg : Nat → Int32) (pv : Nat → Int32) (nt : Nat → Int32) (ow : Nat → Int32) (vl : Nat → Int32)  : ww_ct l D g yy_BF_countMapped bb_BF_countMapped 1 (some .int) (ww_rm 3) [.ref h] [(h, .inr (0, [.ref v, .int (nI fo), .ref ap, .ref aw, .ref ag, .ref av, .ref an, .int sz])), (ap, .inl (g 0, 60, .inl pl)), (aw, .inl (g 1, 60, .inl wr)), (ag, .inl (g 1, 60, .inl pg)), (av, .inl (g 0, 60, .inl pv)), (an, .inl (g 1, 60, .inl nt)), (v, .inr (1, [.ref vo, .ref vv])), (vo, .inl (g 0, 80, .inl ow)), (vv, .inl (g 0, 80, .inl vl))] (some (.int (nI (px_mm pl 0)))) [(h, .inr (0, [.ref v, .int (nI fo), .ref ap, .ref aw, .ref ag, .ref av, .ref an, .int sz])), (ap, .inl (g 0, 60, .inl pl)), (aw, .inl (g 1, 60, .inl wr)), (ag, .inl (g 1, 60, .inl pg)), (av, .inl (g 0, 60, .inl pv)), (an, .inl (g 1, 60, .inl nt)), (v, .inr (1, [.ref vo, .ref vv])), (vo, .inl (g 0, 80, .inl ow)), (vv, .inl (g 0, 80, .inl vl))] := by
  refine ww_start (by decide +kernel) rfl rfl (Nat.le_of_ble_eq_true rfl) (L0 := [(0, .ref h)]) rfl ?_
  intro X O hl hD hg hR hn F
  subst hl hD hg
  have hle := px_cnt_le (px_hole pl) 0 60
  refine ww_bipush O dd_BF_countMapped_0 (v := nI 60) rfl ?_
  refine ww_aload_n O dd_BF_countMapped_2 0 rfl ?_
  refine ww_iconst O dd_BF_countMapped_3 (v := nI 0) rfl ?_
  refine ww_bipush O dd_BF_countMapped_4 (v := nI 60) rfl ?_
  refine ww_callV (q0 := 0) (ci := 0) O (cc_BF_countHoles _ _ _ h v fo ap aw ag av an vo vv sz pl wr pg pv nt ow vl 0 60 (by omega) (by omega)) lc_BF_65 lx_BF_countHoles_II_I rfl rfl rfl (by rw [hR]; decide) (by rw [hR]; decide) (by rw [hR]; decide) rfl (Nat.le_of_ble_eq_true rfl) dd_BF_countMapped_6 rfl [0, 1, 2, 3, 4, 5, 6, 7, 8] [] [0, 1, 2, 3, 4, 5, 6, 7, 8] rfl (by decide) rfl (by decide) (by decide) (ws' := [(h, .inr (0, [.ref v, .int (nI fo), .ref ap, .ref aw, .ref ag, .ref av, .ref an, .int sz])), (ap, .inl (ww_g X 0, 60, .inl pl)), (aw, .inl (ww_g X 1, 60, .inl wr)), (ag, .inl (ww_g X 1, 60, .inl pg)), (av, .inl (ww_g X 0, 60, .inl pv)), (an, .inl (ww_g X 1, 60, .inl nt)), (v, .inr (1, [.ref vo, .ref vv])), (vo, .inl (ww_g X 0, 80, .inl ow)), (vv, .inl (ww_g X 0, 80, .inl vl))]) rfl rfl (by decide) ?_
  refine ww_isub O dd_BF_countMapped_9 (v := nI (60 - (px_cnt (px_hole pl) 0 (60 - 0)))) (pk_sub (by omega)) ?_
  rw [show px_mm pl 0 = (60 - (px_cnt (px_hole pl) 0 (60 - 0))) from by rw [← px_mm_eq]] at F
  exact F.i dd_BF_countMapped_10
set_option maxRecDepth 4000 in
theorem cc_BF_continuesRow (l : Launch) (D : va_G) (g : Nat → ClassId) (h : Nat) (v : Nat) (fo : Nat) (ap : Nat) (aw : Nat) (ag : Nat) (av : Nat) (an : Nat) (vo : Nat) (vv : Nat) (sz : Int32) (pl : Nat → Int32) (wr : Nat → Int32) (pg : Nat → Int32) (pv : Nat → Int32) (nt : Nat → Int32) (ow : Nat → Int32) (vl : Nat → Int32) (b : Nat) (h0 : 0 < b) (hb : b < 60) : ww_ct l D g yy_BF_continuesRow bb_BF_continuesRow 2 (some .boolean) (ww_rm 1) [.ref h, .int (nI b)] [(h, .inr (0, [.ref v, .int (nI fo), .ref ap, .ref aw, .ref ag, .ref av, .ref an, .int sz])), (ap, .inl (g 0, 60, .inl pl)), (aw, .inl (g 1, 60, .inl wr)), (ag, .inl (g 1, 60, .inl pg)), (av, .inl (g 0, 60, .inl pv)), (an, .inl (g 1, 60, .inl nt)), (v, .inr (1, [.ref vo, .ref vv])), (vo, .inl (g 0, 80, .inl ow)), (vv, .inl (g 0, 80, .inl vl))] (some (.int (px_b (px_go pl wr b)))) [(h, .inr (0, [.ref v, .int (nI fo), .ref ap, .ref aw, .ref ag, .ref av, .ref an, .int sz])), (ap, .inl (g 0, 60, .inl pl)), (aw, .inl (g 1, 60, .inl wr)), (ag, .inl (g 1, 60, .inl pg)), (av, .inl (g 0, 60, .inl pv)), (an, .inl (g 1, 60, .inl nt)), (v, .inr (1, [.ref vo, .ref vv])), (vo, .inl (g 0, 80, .inl ow)), (vv, .inl (g 0, 80, .inl vl))] := by
  refine ww_start (by decide +kernel) rfl (px_b_nar _) (Nat.le_of_ble_eq_true rfl) (L0 := [(0, .ref h), (1, .int (nI b))]) rfl ?_
  intro X O hl hD hg hR hn F
  subst hl hD hg
  refine ww_aload_n O dd_BF_continuesRow_0 0 rfl ?_
  refine ww_get O ci_BF rfl 2 (by decide) lf_BF_9 rfl dd_BF_continuesRow_1 0 rfl rfl ?_
  refine ww_iload_n O dd_BF_continuesRow_4 1 rfl ?_
  refine ww_iald O dd_BF_continuesRow_5 1 rfl (by omega) (by decide) rfl ?_
  refine ww_aload_n O dd_BF_continuesRow_6 0 rfl ?_
  refine ww_get O ci_BF rfl 2 (by decide) lf_BF_9 rfl dd_BF_continuesRow_7 0 rfl rfl ?_
  refine ww_iload_n O dd_BF_continuesRow_10 1 rfl ?_
  refine ww_iconst O dd_BF_continuesRow_11 (v := nI 1) rfl ?_
  refine ww_isub O dd_BF_continuesRow_12 (v := nI (b - 1)) (pk_sub (by omega)) ?_
  refine ww_iald O dd_BF_continuesRow_13 1 rfl (by omega) (by decide) rfl ?_
  refine ww_iconst O dd_BF_continuesRow_14 (v := nI 1) rfl ?_
  refine ww_iadd O dd_BF_continuesRow_15 (v := (pl (b - 1)) + (nI 1)) rfl ?_
  refine ww_icmp_ne O dd_BF_continuesRow_16 (tgt := 40) rfl (fun h16 => ?_) (fun h16 => ?_)
  · refine ww_iconst O dd_BF_continuesRow_40 (v := nI 0) rfl ?_
    rw [show px_go pl wr b = false from px_go_f1 h16, px_b_f] at F
    exact F.i dd_BF_continuesRow_41
  · refine ww_aload_n O dd_BF_continuesRow_19 0 rfl ?_
    refine ww_get O ci_BF rfl 3 (by decide) lf_BF_15 rfl dd_BF_continuesRow_20 0 rfl rfl ?_
    refine ww_iload_n O dd_BF_continuesRow_23 1 rfl ?_
    refine ww_zald O dd_BF_continuesRow_24 2 rfl (by omega) (by decide) rfl ?_
    refine ww_aload_n O dd_BF_continuesRow_25 0 rfl ?_
    refine ww_get O ci_BF rfl 3 (by decide) lf_BF_15 rfl dd_BF_continuesRow_26 0 rfl rfl ?_
    refine ww_iload_n O dd_BF_continuesRow_29 1 rfl ?_
    refine ww_iconst O dd_BF_continuesRow_30 (v := nI 1) rfl ?_
    refine ww_isub O dd_BF_continuesRow_31 (v := nI (b - 1)) (pk_sub (by omega)) ?_
    refine ww_zald O dd_BF_continuesRow_32 2 rfl (by omega) (by decide) rfl ?_
    refine ww_icmp_ne O dd_BF_continuesRow_33 (tgt := 40) rfl (fun h33 => ?_) (fun h33 => ?_)
    · refine ww_iconst O dd_BF_continuesRow_40 (v := nI 0) rfl ?_
      rw [show px_go pl wr b = false from px_go_f2 h33, px_b_f] at F
      exact F.i dd_BF_continuesRow_41
    · refine ww_iconst O dd_BF_continuesRow_36 (v := nI 1) rfl ?_
      refine ww_goto O dd_BF_continuesRow_37 (tgt := 41) rfl ?_
      rw [show px_go pl wr b = true from px_go_iff.mpr ⟨h16, h33⟩, px_b_t] at F
      exact F.i dd_BF_continuesRow_41
set_option maxRecDepth 4000 in
theorem cc_BF_extentLength (l : Launch) (D : va_G) (g : Nat → ClassId) (h : Nat) (v : Nat) (fo : Nat) (ap : Nat) (aw : Nat) (ag : Nat) (av : Nat) (an : Nat) (vo : Nat) (vv : Nat) (sz : Int32) (pl : Nat → Int32) (wr : Nat → Int32) (pg : Nat → Int32) (pv : Nat → Int32) (nt : Nat → Int32) (ow : Nat → Int32) (vl : Nat → Int32) (a : Nat) (ha : a < 60) : ww_ct l D g yy_BF_extentLength bb_BF_extentLength 4 (some .int) (ww_rm 2) [.ref h, .int (nI a)] [(h, .inr (0, [.ref v, .int (nI fo), .ref ap, .ref aw, .ref ag, .ref av, .ref an, .int sz])), (ap, .inl (g 0, 60, .inl pl)), (aw, .inl (g 1, 60, .inl wr)), (ag, .inl (g 1, 60, .inl pg)), (av, .inl (g 0, 60, .inl pv)), (an, .inl (g 1, 60, .inl nt)), (v, .inr (1, [.ref vo, .ref vv])), (vo, .inl (g 0, 80, .inl ow)), (vv, .inl (g 0, 80, .inl vl))] (some (.int (nI (px_len pl wr a)))) [(h, .inr (0, [.ref v, .int (nI fo), .ref ap, .ref aw, .ref ag, .ref av, .ref an, .int sz])), (ap, .inl (g 0, 60, .inl pl)), (aw, .inl (g 1, 60, .inl wr)), (ag, .inl (g 1, 60, .inl pg)), (av, .inl (g 0, 60, .inl pv)), (an, .inl (g 1, 60, .inl nt)), (v, .inr (1, [.ref vo, .ref vv])), (vo, .inl (g 0, 80, .inl ow)), (vv, .inl (g 0, 80, .inl vl))] := by
  refine ww_start (by decide +kernel) rfl rfl (Nat.le_of_ble_eq_true rfl) (L0 := [(0, .ref h), (1, .int (nI a))]) rfl ?_
  intro X O hl hD hg hR hn F
  subst hl hD hg
  have loop : px_hole pl a = false → ∀ (k b : Nat), 60 ≤ b + k → a < b → b ≤ min (a + 8) 60 → b - a + px_rl pl wr (60 - b) b (b - a) = 1 + px_rl pl wr (59 - a) (a + 1) 1 → ww_at X 0 0 24 [(0, .ref h), (1, .int (nI a)), (2, .int (nI (min (a + 8) 60))), (3, .int (nI b))] [] [(h, .inr (0, [.ref v, .int (nI fo), .ref ap, .ref aw, .ref ag, .ref av, .ref an, .int sz])), (ap, .inl (ww_g X 0, 60, .inl pl)), (aw, .inl (ww_g X 1, 60, .inl wr)), (ag, .inl (ww_g X 1, 60, .inl pg)), (av, .inl (ww_g X 0, 60, .inl pv)), (an, .inl (ww_g X 1, 60, .inl nt)), (v, .inr (1, [.ref vo, .ref vv])), (vo, .inl (ww_g X 0, 80, .inl ow)), (vv, .inl (ww_g X 0, 80, .inl vl))] := by
    intro hh k
    induction k with
    | zero =>
      intro b h1 h2 h3 h4
      refine ww_iload_n O dd_BF_extentLength_24 3 rfl ?_
      refine ww_iload_n O dd_BF_extentLength_25 2 rfl ?_
      refine ww_icmp_geN O dd_BF_extentLength_26 (tgt := 43) rfl (by omega) (by omega) (fun h26 => ?_) (fun h26 => ?_)
      · refine ww_iload_n O dd_BF_extentLength_43 3 rfl ?_
        refine ww_iload_n O dd_BF_extentLength_44 1 rfl ?_
        refine ww_isub O dd_BF_extentLength_45 (v := nI (b - a)) (pk_sub (by omega)) ?_
        rw [show px_len pl wr a = b - a from by unfold px_len; rw [hh, if_neg (by decide), ← h4, px_rl_s, if_neg (fun z => by omega)]; rfl] at F
        exact F.i dd_BF_extentLength_46
      · exfalso; omega
    | succ k ih =>
      intro b h1 h2 h3 h4
      refine ww_iload_n O dd_BF_extentLength_24 3 rfl ?_
      refine ww_iload_n O dd_BF_extentLength_25 2 rfl ?_
      refine ww_icmp_geN O dd_BF_extentLength_26 (tgt := 43) rfl (by omega) (by omega) (fun h26 => ?_) (fun h26 => ?_)
      · refine ww_iload_n O dd_BF_extentLength_43 3 rfl ?_
        refine ww_iload_n O dd_BF_extentLength_44 1 rfl ?_
        refine ww_isub O dd_BF_extentLength_45 (v := nI (b - a)) (pk_sub (by omega)) ?_
        rw [show px_len pl wr a = b - a from by unfold px_len; rw [hh, if_neg (by decide), ← h4, px_rl_s, if_neg (fun z => by omega)]; rfl] at F
        exact F.i dd_BF_extentLength_46
      · refine ww_aload_n O dd_BF_extentLength_29 0 rfl ?_
        refine ww_iload_n O dd_BF_extentLength_30 3 rfl ?_
        refine ww_callV (q0 := 0) (ci := 0) O (cc_BF_continuesRow _ _ _ h v fo ap aw ag av an vo vv sz pl wr pg pv nt ow vl b (by omega) (by omega)) lc_BF_81 lx_BF_continuesRow_I_Z rfl rfl rfl (by rw [hR]; decide) (by rw [hR]; decide) (by rw [hR]; decide) rfl (Nat.le_of_ble_eq_true rfl) dd_BF_extentLength_31 rfl [0, 1, 2, 3, 4, 5, 6, 7, 8] [] [0, 1, 2, 3, 4, 5, 6, 7, 8] rfl (by decide) rfl (by decide) (by decide) (ws' := [(h, .inr (0, [.ref v, .int (nI fo), .ref ap, .ref aw, .ref ag, .ref av, .ref an, .int sz])), (ap, .inl (ww_g X 0, 60, .inl pl)), (aw, .inl (ww_g X 1, 60, .inl wr)), (ag, .inl (ww_g X 1, 60, .inl pg)), (av, .inl (ww_g X 0, 60, .inl pv)), (an, .inl (ww_g X 1, 60, .inl nt)), (v, .inr (1, [.ref vo, .ref vv])), (vo, .inl (ww_g X 0, 80, .inl ow)), (vv, .inl (ww_g X 0, 80, .inl vl))]) rfl rfl (by decide) ?_
        refine ww_if_eqB O dd_BF_extentLength_34 (tgt := 43) rfl (fun h34 => ?_) (fun h34 => ?_)
        · refine ww_iload_n O dd_BF_extentLength_43 3 rfl ?_
          refine ww_iload_n O dd_BF_extentLength_44 1 rfl ?_
          refine ww_isub O dd_BF_extentLength_45 (v := nI (b - a)) (pk_sub (by omega)) ?_
          rw [show px_len pl wr a = b - a from by unfold px_len; rw [hh, if_neg (by decide), ← h4, px_rl_s, if_neg (fun z => by rw [h34] at z; exact absurd z.2.2 (by decide))]; rfl] at F
          exact F.i dd_BF_extentLength_46
        · refine ww_iinc O dd_BF_extentLength_37 3 rfl (v := nI (b + 1)) (nI_add _ 1) (by rw [hn]; decide) rfl (L' := [(0, .ref h), (1, .int (nI a)), (2, .int (nI (min (a + 8) 60))), (3, .int (nI (b + 1)))]) rfl ?_
          refine ww_goto O dd_BF_extentLength_40 (tgt := 24) rfl ?_
          exact ih (b + 1) (by omega) (by omega) (by omega) (by rw [← h4, px_rl_s (b := b), if_pos ⟨by omega, by omega, h34⟩, show 60 - b - 1 = 60 - (b + 1) by omega, show b + 1 - a = b - a + 1 by omega]; omega)
  refine ww_aload_n O dd_BF_extentLength_0 0 rfl ?_
  refine ww_iload_n O dd_BF_extentLength_1 1 rfl ?_
  refine ww_callV (q0 := 0) (ci := 0) O (cc_BF_isHole _ _ _ h v fo ap aw ag av an vo vv sz pl wr pg pv nt ow vl a (by omega)) lc_BF_55 lx_BF_isHole_I_Z rfl rfl rfl (by rw [hR]; decide) (by rw [hR]; decide) (by rw [hR]; decide) rfl (Nat.le_of_ble_eq_true rfl) dd_BF_extentLength_2 rfl [0, 1, 2, 3, 4, 5, 6, 7, 8] [] [0, 1, 2, 3, 4, 5, 6, 7, 8] rfl (by decide) rfl (by decide) (by decide) (ws' := [(h, .inr (0, [.ref v, .int (nI fo), .ref ap, .ref aw, .ref ag, .ref av, .ref an, .int sz])), (ap, .inl (ww_g X 0, 60, .inl pl)), (aw, .inl (ww_g X 1, 60, .inl wr)), (ag, .inl (ww_g X 1, 60, .inl pg)), (av, .inl (ww_g X 0, 60, .inl pv)), (an, .inl (ww_g X 1, 60, .inl nt)), (v, .inr (1, [.ref vo, .ref vv])), (vo, .inl (ww_g X 0, 80, .inl ow)), (vv, .inl (ww_g X 0, 80, .inl vl))]) rfl rfl (by decide) ?_
  refine ww_if_eqB O dd_BF_extentLength_5 (tgt := 10) rfl (fun h5 => ?_) (fun h5 => ?_)
  · refine ww_iload_n O dd_BF_extentLength_10 1 rfl ?_
    refine ww_bipush O dd_BF_extentLength_11 (v := nI 8) rfl ?_
    refine ww_iadd O dd_BF_extentLength_13 (v := nI (a + 8)) (nI_add _ _) ?_
    refine ww_bipush O dd_BF_extentLength_14 (v := nI 60) rfl ?_
    refine ww_min O lm_BF_78 lk_Math_min (by rw [hR]; decide) (by rw [hR]; exact Nat.le_of_ble_eq_true rfl) (by rw [hR]; decide) (by rw [hR]; decide) dd_BF_extentLength_16 (v := nI (min (a + 8) 60)) (px_min (by omega) (by omega)) ?_
    refine ww_istore_n O dd_BF_extentLength_19 (by rw [hn]; decide) rfl (L' := [(0, .ref h), (1, .int (nI a)), (2, .int (nI (min (a + 8) 60)))]) rfl ?_
    refine ww_iload_n O dd_BF_extentLength_20 1 rfl ?_
    refine ww_iconst O dd_BF_extentLength_21 (v := nI 1) rfl ?_
    refine ww_iadd O dd_BF_extentLength_22 (v := nI (a + 1)) (nI_add _ _) ?_
    refine ww_istore_n O dd_BF_extentLength_23 (by rw [hn]; decide) rfl (L' := [(0, .ref h), (1, .int (nI a)), (2, .int (nI (min (a + 8) 60))), (3, .int (nI (a + 1)))]) rfl ?_
    exact loop h5 60 (a + 1) (by omega) (by omega) (by omega) (by rw [show 60 - (a + 1) = 59 - a by omega, show a + 1 - a = 1 by omega])
  · refine ww_iconst O dd_BF_extentLength_8 (v := nI 0) rfl ?_
    rw [show px_len pl wr a = 0 from by unfold px_len; rw [if_pos h5]] at F
    exact F.i dd_BF_extentLength_9
