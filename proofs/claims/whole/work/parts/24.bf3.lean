theorem lc_BF_95 : ww_site "DelayedExtents$BlockFile" 95 yy_VO_isUntaken bb_VO_isUntaken 2 (some .boolean) 1 := ⟨List.mem_filter.mpr ⟨List.mem_of_getElem? (i := 370) (by decide +kernel), by decide +kernel⟩, List.mem_filter.mpr ⟨List.mem_of_getElem? (i := 367) (by decide +kernel), by decide +kernel⟩, List.mem_filter.mpr ⟨List.mem_of_getElem? (i := 27) (by decide +kernel), by decide +kernel⟩, by decide, by decide, by decide +kernel⟩
theorem lx_VO_isUntaken_I_Z : ww_virt yy_VO_isUntaken := ⟨List.mem_filter.mpr ⟨List.mem_of_getElem? (i := 368) (by decide +kernel), by decide +kernel⟩, List.mem_filter.mpr ⟨List.mem_of_getElem? (i := 369) (by decide +kernel), by decide +kernel⟩⟩
theorem lf_BF_36 : Cond.fieldLink "DelayedExtents$BlockFile" 36 "DelayedExtents$BlockFile" "firstOwner" "I" ∈ lw_good := List.mem_filter.mpr ⟨List.mem_of_getElem? (i := 73) (by decide +kernel), by decide +kernel⟩
theorem lc_BF_104 : ww_site "DelayedExtents$BlockFile" 104 yy_VO_take bb_VO_take 3 none 2 := ⟨List.mem_filter.mpr ⟨List.mem_of_getElem? (i := 389) (by decide +kernel), by decide +kernel⟩, List.mem_filter.mpr ⟨List.mem_of_getElem? (i := 386) (by decide +kernel), by decide +kernel⟩, List.mem_filter.mpr ⟨List.mem_of_getElem? (i := 27) (by decide +kernel), by decide +kernel⟩, by decide, by decide, by decide +kernel⟩
theorem lx_VO_take_II_V : ww_virt yy_VO_take := ⟨List.mem_filter.mpr ⟨List.mem_of_getElem? (i := 387) (by decide +kernel), by decide +kernel⟩, List.mem_filter.mpr ⟨List.mem_of_getElem? (i := 388) (by decide +kernel), by decide +kernel⟩⟩
theorem lc_BF_101 : ww_site "DelayedExtents$BlockFile" 101 yy_BF_mapTo bb_BF_mapTo 3 none 2 := ⟨List.mem_filter.mpr ⟨List.mem_of_getElem? (i := 385) (by decide +kernel), by decide +kernel⟩, List.mem_filter.mpr ⟨List.mem_of_getElem? (i := 382) (by decide +kernel), by decide +kernel⟩, List.mem_filter.mpr ⟨List.mem_of_getElem? (i := 29) (by decide +kernel), by decide +kernel⟩, by decide, by decide, by decide +kernel⟩
theorem lx_BF_mapTo_II_V : ww_virt yy_BF_mapTo := ⟨List.mem_filter.mpr ⟨List.mem_of_getElem? (i := 384) (by decide +kernel), by decide +kernel⟩, List.mem_filter.mpr ⟨List.mem_of_getElem? (i := 8) (by decide +kernel), by decide +kernel⟩⟩
theorem lc_BF_98 : ww_site "DelayedExtents$BlockFile" 98 yy_VO_bestRow bb_VO_bestRow 6 (some .int) 1 := ⟨List.mem_filter.mpr ⟨List.mem_of_getElem? (i := 374) (by decide +kernel), by decide +kernel⟩, List.mem_filter.mpr ⟨List.mem_of_getElem? (i := 371) (by decide +kernel), by decide +kernel⟩, List.mem_filter.mpr ⟨List.mem_of_getElem? (i := 27) (by decide +kernel), by decide +kernel⟩, by decide, by decide, by decide +kernel⟩
theorem lx_VO_bestRow_I_I : ww_virt yy_VO_bestRow := ⟨List.mem_filter.mpr ⟨List.mem_of_getElem? (i := 372) (by decide +kernel), by decide +kernel⟩, List.mem_filter.mpr ⟨List.mem_of_getElem? (i := 373) (by decide +kernel), by decide +kernel⟩⟩
theorem lc_BF_92 : ww_site "DelayedExtents$BlockFile" 92 yy_BF_placeBehind bb_BF_placeBehind 2 (some .int) 1 := ⟨List.mem_filter.mpr ⟨List.mem_of_getElem? (i := 366) (by decide +kernel), by decide +kernel⟩, List.mem_filter.mpr ⟨List.mem_of_getElem? (i := 363) (by decide +kernel), by decide +kernel⟩, List.mem_filter.mpr ⟨List.mem_of_getElem? (i := 29) (by decide +kernel), by decide +kernel⟩, by decide, by decide, by decide +kernel⟩
theorem lx_BF_placeBehind_I_I : ww_virt yy_BF_placeBehind := ⟨List.mem_filter.mpr ⟨List.mem_of_getElem? (i := 365) (by decide +kernel), by decide +kernel⟩, List.mem_filter.mpr ⟨List.mem_of_getElem? (i := 6) (by decide +kernel), by decide +kernel⟩⟩
theorem lc_BF_84 : ww_site "DelayedExtents$BlockFile" 84 yy_BF_endOfRow bb_BF_endOfRow 5 (some .int) 3 := ⟨List.mem_filter.mpr ⟨List.mem_of_getElem? (i := 358) (by decide +kernel), by decide +kernel⟩, List.mem_filter.mpr ⟨List.mem_of_getElem? (i := 355) (by decide +kernel), by decide +kernel⟩, List.mem_filter.mpr ⟨List.mem_of_getElem? (i := 29) (by decide +kernel), by decide +kernel⟩, by decide, by decide, by decide +kernel⟩
theorem lx_BF_endOfRow_IIZ_I : ww_virt yy_BF_endOfRow := ⟨List.mem_filter.mpr ⟨List.mem_of_getElem? (i := 357) (by decide +kernel), by decide +kernel⟩, List.mem_filter.mpr ⟨List.mem_of_getElem? (i := 4) (by decide +kernel), by decide +kernel⟩⟩
theorem lc_BF_88 : ww_site "DelayedExtents$BlockFile" 88 yy_BF_mapRow bb_BF_mapRow 5 none 2 := ⟨List.mem_filter.mpr ⟨List.mem_of_getElem? (i := 362) (by decide +kernel), by decide +kernel⟩, List.mem_filter.mpr ⟨List.mem_of_getElem? (i := 359) (by decide +kernel), by decide +kernel⟩, List.mem_filter.mpr ⟨List.mem_of_getElem? (i := 29) (by decide +kernel), by decide +kernel⟩, by decide, by decide, by decide +kernel⟩
theorem lx_BF_mapRow_II_V : ww_virt yy_BF_mapRow := ⟨List.mem_filter.mpr ⟨List.mem_of_getElem? (i := 361) (by decide +kernel), by decide +kernel⟩, List.mem_filter.mpr ⟨List.mem_of_getElem? (i := 5) (by decide +kernel), by decide +kernel⟩⟩
theorem lc_BF_107 : ww_site "DelayedExtents$BlockFile" 107 yy_VO_release bb_VO_release 2 none 1 := ⟨List.mem_filter.mpr ⟨List.mem_of_getElem? (i := 401) (by decide +kernel), by decide +kernel⟩, List.mem_filter.mpr ⟨List.mem_of_getElem? (i := 398) (by decide +kernel), by decide +kernel⟩, List.mem_filter.mpr ⟨List.mem_of_getElem? (i := 27) (by decide +kernel), by decide +kernel⟩, by decide, by decide, by decide +kernel⟩
theorem lx_VO_release_I_V : ww_virt yy_VO_release := ⟨List.mem_filter.mpr ⟨List.mem_of_getElem? (i := 399) (by decide +kernel), by decide +kernel⟩, List.mem_filter.mpr ⟨List.mem_of_getElem? (i := 400) (by decide +kernel), by decide +kernel⟩⟩
theorem lc_BF_110 : ww_site "DelayedExtents$BlockFile" 110 yy_BF_unmap bb_BF_unmap 2 none 1 := ⟨List.mem_filter.mpr ⟨List.mem_of_getElem? (i := 397) (by decide +kernel), by decide +kernel⟩, List.mem_filter.mpr ⟨List.mem_of_getElem? (i := 394) (by decide +kernel), by decide +kernel⟩, List.mem_filter.mpr ⟨List.mem_of_getElem? (i := 29) (by decide +kernel), by decide +kernel⟩, by decide, by decide, by decide +kernel⟩
theorem lx_BF_unmap_I_V : ww_virt yy_BF_unmap := ⟨List.mem_filter.mpr ⟨List.mem_of_getElem? (i := 396) (by decide +kernel), by decide +kernel⟩, List.mem_filter.mpr ⟨List.mem_of_getElem? (i := 9) (by decide +kernel), by decide +kernel⟩⟩
theorem lc_BF_116 : ww_site "DelayedExtents$BlockFile" 116 yy_VO_setValue bb_VO_setValue 3 none 2 := ⟨List.mem_filter.mpr ⟨List.mem_of_getElem? (i := 442) (by decide +kernel), by decide +kernel⟩, List.mem_filter.mpr ⟨List.mem_of_getElem? (i := 439) (by decide +kernel), by decide +kernel⟩, List.mem_filter.mpr ⟨List.mem_of_getElem? (i := 27) (by decide +kernel), by decide +kernel⟩, by decide, by decide, by decide +kernel⟩
theorem lx_VO_setValue_II_V : ww_virt yy_VO_setValue := ⟨List.mem_filter.mpr ⟨List.mem_of_getElem? (i := 440) (by decide +kernel), by decide +kernel⟩, List.mem_filter.mpr ⟨List.mem_of_getElem? (i := 441) (by decide +kernel), by decide +kernel⟩⟩
theorem lc_BF_113 : ww_site "DelayedExtents$BlockFile" 113 yy_BF_writePage bb_BF_writePage 2 none 1 := ⟨List.mem_filter.mpr ⟨List.mem_of_getElem? (i := 438) (by decide +kernel), by decide +kernel⟩, List.mem_filter.mpr ⟨List.mem_of_getElem? (i := 435) (by decide +kernel), by decide +kernel⟩, List.mem_filter.mpr ⟨List.mem_of_getElem? (i := 29) (by decide +kernel), by decide +kernel⟩, by decide, by decide, by decide +kernel⟩
theorem lx_BF_writePage_I_V : ww_virt yy_BF_writePage := ⟨List.mem_filter.mpr ⟨List.mem_of_getElem? (i := 437) (by decide +kernel), by decide +kernel⟩, List.mem_filter.mpr ⟨List.mem_of_getElem? (i := 10) (by decide +kernel), by decide +kernel⟩⟩
theorem lf_BF_25 : Cond.fieldLink "DelayedExtents$BlockFile" 25 "DelayedExtents$BlockFile" "notedHoles" "[Z" ∈ lw_good := List.mem_filter.mpr ⟨List.mem_of_getElem? (i := 78) (by decide +kernel), by decide +kernel⟩
set_option maxRecDepth 4000 in
theorem cc_BF_pb_m1 (l : Launch) (D : va_G) (g : Nat → ClassId) (h : Nat) (v : Nat) (fo : Nat) (ap : Nat) (aw : Nat) (ag : Nat) (av : Nat) (an : Nat) (vo : Nat) (vv : Nat) (sz : Int32) (pl : Nat → Int32) (wr : Nat → Int32) (pg : Nat → Int32) (pv : Nat → Int32) (nt : Nat → Int32) (ow : Nat → Int32) (vl : Nat → Int32)  : ww_ct l D g yy_BF_placeBehind bb_BF_placeBehind 2 (some .int) (ww_rm 2) [.ref h, .int (-1)] [(h, .inr (0, [.ref v, .int (nI fo), .ref ap, .ref aw, .ref ag, .ref av, .ref an, .int sz])), (ap, .inl (g 0, 60, .inl pl)), (aw, .inl (g 1, 60, .inl wr)), (ag, .inl (g 1, 60, .inl pg)), (av, .inl (g 0, 60, .inl pv)), (an, .inl (g 1, 60, .inl nt)), (v, .inr (1, [.ref vo, .ref vv])), (vo, .inl (g 0, 80, .inl ow)), (vv, .inl (g 0, 80, .inl vl))] (some (.int (-1))) [(h, .inr (0, [.ref v, .int (nI fo), .ref ap, .ref aw, .ref ag, .ref av, .ref an, .int sz])), (ap, .inl (g 0, 60, .inl pl)), (aw, .inl (g 1, 60, .inl wr)), (ag, .inl (g 1, 60, .inl pg)), (av, .inl (g 0, 60, .inl pv)), (an, .inl (g 1, 60, .inl nt)), (v, .inr (1, [.ref vo, .ref vv])), (vo, .inl (g 0, 80, .inl ow)), (vv, .inl (g 0, 80, .inl vl))] := by
  refine ww_start (by decide +kernel) rfl rfl (Nat.le_of_ble_eq_true rfl) (L0 := [(0, .ref h), (1, .int (-1))]) rfl ?_
  intro X O hl hD hg hR hn F
  subst hl hD hg
  refine ww_iload_n O dd_BF_placeBehind_0 1 rfl ?_
  refine ww_if_lt O dd_BF_placeBehind_1 (tgt := 12) rfl (fun h1 => ?_) (fun h1 => ?_)
  · refine ww_iconst O dd_BF_placeBehind_12 (v := (-1)) rfl ?_
    exact F.i dd_BF_placeBehind_13
  · exact absurd (by decide) h1
set_option maxRecDepth 4000 in
theorem cc_BF_placeBehind (l : Launch) (D : va_G) (g : Nat → ClassId) (h : Nat) (v : Nat) (fo : Nat) (ap : Nat) (aw : Nat) (ag : Nat) (av : Nat) (an : Nat) (vo : Nat) (vv : Nat) (sz : Int32) (pl : Nat → Int32) (wr : Nat → Int32) (pg : Nat → Int32) (pv : Nat → Int32) (nt : Nat → Int32) (ow : Nat → Int32) (vl : Nat → Int32) (b : Nat) (hb : b < 60) : ww_ct l D g yy_BF_placeBehind bb_BF_placeBehind 2 (some .int) (ww_rm 2) [.ref h, .int (nI b)] [(h, .inr (0, [.ref v, .int (nI fo), .ref ap, .ref aw, .ref ag, .ref av, .ref an, .int sz])), (ap, .inl (g 0, 60, .inl pl)), (aw, .inl (g 1, 60, .inl wr)), (ag, .inl (g 1, 60, .inl pg)), (av, .inl (g 0, 60, .inl pv)), (an, .inl (g 1, 60, .inl nt)), (v, .inr (1, [.ref vo, .ref vv])), (vo, .inl (g 0, 80, .inl ow)), (vv, .inl (g 0, 80, .inl vl))] (some (.int (px_cand false pl (b + 1)))) [(h, .inr (0, [.ref v, .int (nI fo), .ref ap, .ref aw, .ref ag, .ref av, .ref an, .int sz])), (ap, .inl (g 0, 60, .inl pl)), (aw, .inl (g 1, 60, .inl wr)), (ag, .inl (g 1, 60, .inl pg)), (av, .inl (g 0, 60, .inl pv)), (an, .inl (g 1, 60, .inl nt)), (v, .inr (1, [.ref vo, .ref vv])), (vo, .inl (g 0, 80, .inl ow)), (vv, .inl (g 0, 80, .inl vl))] := by
  refine ww_start (by decide +kernel) rfl rfl (Nat.le_of_ble_eq_true rfl) (L0 := [(0, .ref h), (1, .int (nI b))]) rfl ?_
  intro X O hl hD hg hR hn F
  subst hl hD hg
  refine ww_iload_n O dd_BF_placeBehind_0 1 rfl ?_
  refine ww_if_ltN O dd_BF_placeBehind_1 (tgt := 12) rfl (by omega) (fun h1 => ?_) (fun h1 => ?_)
  · exfalso; omega
  · refine ww_aload_n O dd_BF_placeBehind_4 0 rfl ?_
    refine ww_iload_n O dd_BF_placeBehind_5 1 rfl ?_
    refine ww_callV (q0 := 0) (ci := 0) O (cc_BF_isHole _ _ _ h v fo ap aw ag av an vo vv sz pl wr pg pv nt ow vl b (by omega)) lc_BF_55 lx_BF_isHole_I_Z rfl rfl rfl (by rw [hR]; decide) (by rw [hR]; decide) (by rw [hR]; decide) rfl (Nat.le_of_ble_eq_true rfl) dd_BF_placeBehind_6 rfl [0, 1, 2, 3, 4, 5, 6, 7, 8] [] [0, 1, 2, 3, 4, 5, 6, 7, 8] rfl (by decide) rfl (by decide) (by decide) (ws' := [(h, .inr (0, [.ref v, .int (nI fo), .ref ap, .ref aw, .ref ag, .ref av, .ref an, .int sz])), (ap, .inl (ww_g X 0, 60, .inl pl)), (aw, .inl (ww_g X 1, 60, .inl wr)), (ag, .inl (ww_g X 1, 60, .inl pg)), (av, .inl (ww_g X 0, 60, .inl pv)), (an, .inl (ww_g X 1, 60, .inl nt)), (v, .inr (1, [.ref vo, .ref vv])), (vo, .inl (ww_g X 0, 80, .inl ow)), (vv, .inl (ww_g X 0, 80, .inl vl))]) rfl rfl (by decide) ?_
    refine ww_if_eqB O dd_BF_placeBehind_9 (tgt := 14) rfl (fun h9 => ?_) (fun h9 => ?_)
    · refine ww_aload_n O dd_BF_placeBehind_14 0 rfl ?_
      refine ww_get O ci_BF rfl 2 (by decide) lf_BF_9 rfl dd_BF_placeBehind_15 0 rfl rfl ?_
      refine ww_iload_n O dd_BF_placeBehind_18 1 rfl ?_
      refine ww_iald O dd_BF_placeBehind_19 1 rfl (by omega) (by decide) rfl ?_
      refine ww_iconst O dd_BF_placeBehind_20 (v := nI 1) rfl ?_
      refine ww_iadd O dd_BF_placeBehind_21 (v := (pl b) + (nI 1)) rfl ?_
      rw [show px_cand false pl (b + 1) = pl b + nI 1 from by unfold px_cand; simp [h9]; rfl] at F
      exact F.i dd_BF_placeBehind_22
    · refine ww_iconst O dd_BF_placeBehind_12 (v := (-1)) rfl ?_
      rw [show px_cand false pl (b + 1) = -1 from by unfold px_cand; simp [h9]] at F
      exact F.i dd_BF_placeBehind_13
set_option maxRecDepth 4000 in
theorem cc_BF_mapTo (l : Launch) (D : va_G) (g : Nat → ClassId) (h : Nat) (v : Nat) (fo : Nat) (ap : Nat) (aw : Nat) (ag : Nat) (av : Nat) (an : Nat) (vo : Nat) (vv : Nat) (sz : Int32) (pl : Nat → Int32) (wr : Nat → Int32) (pg : Nat → Int32) (pv : Nat → Int32) (nt : Nat → Int32) (ow : Nat → Int32) (vl : Nat → Int32) (b : Nat) (x : Int32) (hb : b < 60) : ww_ct l D g yy_BF_mapTo bb_BF_mapTo 3 none (ww_rm 2) [.ref h, .int (nI b), .int x] [(h, .inr (0, [.ref v, .int (nI fo), .ref ap, .ref aw, .ref ag, .ref av, .ref an, .int sz])), (ap, .inl (g 0, 60, .inl pl)), (aw, .inl (g 1, 60, .inl wr)), (ag, .inl (g 1, 60, .inl pg)), (av, .inl (g 0, 60, .inl pv)), (an, .inl (g 1, 60, .inl nt)), (v, .inr (1, [.ref vo, .ref vv])), (vo, .inl (g 0, 80, .inl ow)), (vv, .inl (g 0, 80, .inl vl))] none [(h, .inr (0, [.ref v, .int (nI fo), .ref ap, .ref aw, .ref ag, .ref av, .ref an, .int sz])), (ap, .inl (g 0, 60, .inl (if px_un ow x = true then upd pl b x else pl))), (aw, .inl (g 1, 60, .inl wr)), (ag, .inl (g 1, 60, .inl pg)), (av, .inl (g 0, 60, .inl pv)), (an, .inl (g 1, 60, .inl nt)), (v, .inr (1, [.ref vo, .ref vv])), (vo, .inl (g 0, 80, .inl (if px_un ow x = true then upd ow x.toNatClampNeg (nI (fo + b)) else ow))), (vv, .inl (g 0, 80, .inl vl))] := by
  refine ww_start (by decide +kernel) rfl trivial (Nat.le_of_ble_eq_true rfl) (L0 := [(0, .ref h), (1, .int (nI b)), (2, .int x)]) rfl ?_
  intro X O hl hD hg hR hn F
  subst hl hD hg
  refine ww_aload_n O dd_BF_mapTo_0 0 rfl ?_
  refine ww_get O ci_BF rfl 0 (by decide) lf_BF_32 rfl dd_BF_mapTo_1 0 rfl rfl ?_
  refine ww_iload_n O dd_BF_mapTo_4 2 rfl ?_
  refine ww_callV (q0 := 6) (ci := 1) O (cc_VO_isUntaken _ _ _ v vo vv ow vl x ) lc_BF_95 lx_VO_isUntaken_I_Z rfl rfl rfl (by rw [hR]; decide) (by rw [hR]; decide) (by rw [hR]; decide) rfl (Nat.le_of_ble_eq_true rfl) dd_BF_mapTo_5 rfl [6, 7, 8] [0, 1, 2, 3, 4, 5] [0, 1, 2, 3, 4, 5, 6, 7, 8] rfl (by decide) rfl (by decide) (by decide) (ws' := [(h, .inr (0, [.ref v, .int (nI fo), .ref ap, .ref aw, .ref ag, .ref av, .ref an, .int sz])), (ap, .inl (ww_g X 0, 60, .inl pl)), (aw, .inl (ww_g X 1, 60, .inl wr)), (ag, .inl (ww_g X 1, 60, .inl pg)), (av, .inl (ww_g X 0, 60, .inl pv)), (an, .inl (ww_g X 1, 60, .inl nt)), (v, .inr (1, [.ref vo, .ref vv])), (vo, .inl (ww_g X 0, 80, .inl ow)), (vv, .inl (ww_g X 0, 80, .inl vl))]) rfl rfl (by decide) ?_
  refine ww_if_eqB O dd_BF_mapTo_8 (tgt := 32) rfl (fun h8 => ?_) (fun h8 => ?_)
  · rw [if_neg (by rw [h8]; decide), if_neg (by rw [h8]; decide)] at F
    exact F.v dd_BF_mapTo_32
  · rw [if_pos h8, if_pos h8] at F
    obtain ⟨p, hp, rfl, ho⟩ := px_un_spec h8
    rw [nI_clamp (show p < 2 ^ 31 by omega)] at F
    refine ww_aload_n O dd_BF_mapTo_11 0 rfl ?_
    refine ww_get O ci_BF rfl 2 (by decide) lf_BF_9 rfl dd_BF_mapTo_12 0 rfl rfl ?_
    refine ww_iload_n O dd_BF_mapTo_15 1 rfl ?_
    refine ww_iload_n O dd_BF_mapTo_16 2 rfl ?_
    refine ww_iast O dd_BF_mapTo_17 1 rfl (by omega) (by decide) (ws' := [(h, .inr (0, [.ref v, .int (nI fo), .ref ap, .ref aw, .ref ag, .ref av, .ref an, .int sz])), (ap, .inl (ww_g X 0, 60, .inl (upd pl b (nI p)))), (aw, .inl (ww_g X 1, 60, .inl wr)), (ag, .inl (ww_g X 1, 60, .inl pg)), (av, .inl (ww_g X 0, 60, .inl pv)), (an, .inl (ww_g X 1, 60, .inl nt)), (v, .inr (1, [.ref vo, .ref vv])), (vo, .inl (ww_g X 0, 80, .inl ow)), (vv, .inl (ww_g X 0, 80, .inl vl))]) rfl ?_
    refine ww_aload_n O dd_BF_mapTo_18 0 rfl ?_
    refine ww_get O ci_BF rfl 0 (by decide) lf_BF_32 rfl dd_BF_mapTo_19 0 rfl rfl ?_
    refine ww_iload_n O dd_BF_mapTo_22 2 rfl ?_
    refine ww_aload_n O dd_BF_mapTo_23 0 rfl ?_
    refine ww_get O ci_BF rfl 1 (by decide) lf_BF_36 rfl dd_BF_mapTo_24 0 rfl rfl ?_
    refine ww_iload_n O dd_BF_mapTo_27 1 rfl ?_
    refine ww_iadd O dd_BF_mapTo_28 (v := nI (fo + b)) (nI_add _ _) ?_
    refine ww_callV (q0 := 6) (ci := 1) O (cc_VO_take _ _ _ v vo vv ow vl p (nI (fo + b)) (by omega)) lc_BF_104 lx_VO_take_II_V rfl rfl rfl (by rw [hR]; decide) (by rw [hR]; decide) (by rw [hR]; decide) rfl (Nat.le_of_ble_eq_true rfl) dd_BF_mapTo_29 rfl [6, 7, 8] [0, 1, 2, 3, 4, 5] [0, 1, 2, 3, 4, 5, 6, 7, 8] rfl (by decide) rfl (by decide) (by decide) (ws' := [(h, .inr (0, [.ref v, .int (nI fo), .ref ap, .ref aw, .ref ag, .ref av, .ref an, .int sz])), (ap, .inl (ww_g X 0, 60, .inl (upd pl b (nI p)))), (aw, .inl (ww_g X 1, 60, .inl wr)), (ag, .inl (ww_g X 1, 60, .inl pg)), (av, .inl (ww_g X 0, 60, .inl pv)), (an, .inl (ww_g X 1, 60, .inl nt)), (v, .inr (1, [.ref vo, .ref vv])), (vo, .inl (ww_g X 0, 80, .inl (upd ow p (nI (fo + b))))), (vv, .inl (ww_g X 0, 80, .inl vl))]) rfl rfl (by decide) ?_
    exact F.v dd_BF_mapTo_32
set_option maxRecDepth 4000 in
theorem cc_BF_mapRow (l : Launch) (D : va_G) (g : Nat → ClassId) (h : Nat) (v : Nat) (fo : Nat) (ap : Nat) (aw : Nat) (ag : Nat) (av : Nat) (an : Nat) (vo : Nat) (vv : Nat) (sz : Int32) (pl : Nat → Int32) (wr : Nat → Int32) (pg : Nat → Int32) (pv : Nat → Int32) (nt : Nat → Int32) (ow : Nat → Int32) (vl : Nat → Int32) (a : Nat) (e : Nat) (ha : a ≤ e) (he : e ≤ 60) : ww_ct l D g yy_BF_mapRow bb_BF_mapRow 5 none (ww_rm 3) [.ref h, .int (nI a), .int (nI e)] [(h, .inr (0, [.ref v, .int (nI fo), .ref ap, .ref aw, .ref ag, .ref av, .ref an, .int sz])), (ap, .inl (g 0, 60, .inl pl)), (aw, .inl (g 1, 60, .inl wr)), (ag, .inl (g 1, 60, .inl pg)), (av, .inl (g 0, 60, .inl pv)), (an, .inl (g 1, 60, .inl nt)), (v, .inr (1, [.ref vo, .ref vv])), (vo, .inl (g 0, 80, .inl ow)), (vv, .inl (g 0, 80, .inl vl))] none [(h, .inr (0, [.ref v, .int (nI fo), .ref ap, .ref aw, .ref ag, .ref av, .ref an, .int sz])), (ap, .inl (g 0, 60, .inl ((px_mr fo (e - a) a (px_cand (a == 0) pl a) pl ow).1))), (aw, .inl (g 1, 60, .inl wr)), (ag, .inl (g 1, 60, .inl pg)), (av, .inl (g 0, 60, .inl pv)), (an, .inl (g 1, 60, .inl nt)), (v, .inr (1, [.ref vo, .ref vv])), (vo, .inl (g 0, 80, .inl ((px_mr fo (e - a) a (px_cand (a == 0) pl a) pl ow).2))), (vv, .inl (g 0, 80, .inl vl))] := by
  refine ww_start (by decide +kernel) rfl trivial (Nat.le_of_ble_eq_true rfl) (L0 := [(0, .ref h), (1, .int (nI a)), (2, .int (nI e))]) rfl ?_
  intro X O hl hD hg hR hn F
  subst hl hD hg
  generalize hT : px_mr fo (e - a) a (px_cand (a == 0) pl a) pl ow = T at F
  have loop : ∀ (k b : Nat) (x : Int32) (pl2 ow2 : Nat → Int32), e ≤ b + k → a ≤ b → b ≤ e → px_mr fo (e - b) b x pl2 ow2 = T → ww_at X 0 0 11 [(0, .ref h), (1, .int (nI a)), (2, .int (nI e)), (3, .int x), (4, .int (nI b))] [] [(h, .inr (0, [.ref v, .int (nI fo), .ref ap, .ref aw, .ref ag, .ref av, .ref an, .int sz])), (ap, .inl (ww_g X 0, 60, .inl pl2)), (aw, .inl (ww_g X 1, 60, .inl wr)), (ag, .inl (ww_g X 1, 60, .inl pg)), (av, .inl (ww_g X 0, 60, .inl pv)), (an, .inl (ww_g X 1, 60, .inl nt)), (v, .inr (1, [.ref vo, .ref vv])), (vo, .inl (ww_g X 0, 80, .inl ow2)), (vv, .inl (ww_g X 0, 80, .inl vl))] := by
    intro k
    induction k with
    | zero =>
      intro b x pl2 ow2 h1 h2 h3 h4
      refine ww_iload O dd_BF_mapRow_11 4 rfl ?_
      refine ww_iload_n O dd_BF_mapRow_13 2 rfl ?_
      refine ww_icmp_geN O dd_BF_mapRow_14 (tgt := 56) rfl (by omega) (by omega) (fun h14 => ?_) (fun h14 => ?_)
      · rw [show e - b = 0 by omega] at h4
        subst h4
        exact F.v dd_BF_mapRow_56
      · exfalso; omega
    | succ k ih =>
      intro b x pl2 ow2 h1 h2 h3 h4
      refine ww_iload O dd_BF_mapRow_11 4 rfl ?_
      refine ww_iload_n O dd_BF_mapRow_13 2 rfl ?_
      refine ww_icmp_geN O dd_BF_mapRow_14 (tgt := 56) rfl (by omega) (by omega) (fun h14 => ?_) (fun h14 => ?_)
      · rw [show e - b = 0 by omega] at h4
        subst h4
        exact F.v dd_BF_mapRow_56
      · refine ww_aload_n O dd_BF_mapRow_17 0 rfl ?_
        refine ww_get O ci_BF rfl 0 (by decide) lf_BF_32 rfl dd_BF_mapRow_18 0 rfl rfl ?_
        refine ww_iload_n O dd_BF_mapRow_21 3 rfl ?_
        refine ww_callV (q0 := 6) (ci := 1) O (cc_VO_isUntaken _ _ _ v vo vv ow2 vl x ) lc_BF_95 lx_VO_isUntaken_I_Z rfl rfl rfl (by rw [hR]; decide) (by rw [hR]; decide) (by rw [hR]; decide) rfl (Nat.le_of_ble_eq_true rfl) dd_BF_mapRow_22 rfl [6, 7, 8] [0, 1, 2, 3, 4, 5] [0, 1, 2, 3, 4, 5, 6, 7, 8] rfl (by decide) rfl (by decide) (by decide) (ws' := [(h, .inr (0, [.ref v, .int (nI fo), .ref ap, .ref aw, .ref ag, .ref av, .ref an, .int sz])), (ap, .inl (ww_g X 0, 60, .inl pl2)), (aw, .inl (ww_g X 1, 60, .inl wr)), (ag, .inl (ww_g X 1, 60, .inl pg)), (av, .inl (ww_g X 0, 60, .inl pv)), (an, .inl (ww_g X 1, 60, .inl nt)), (v, .inr (1, [.ref vo, .ref vv])), (vo, .inl (ww_g X 0, 80, .inl ow2)), (vv, .inl (ww_g X 0, 80, .inl vl))]) rfl rfl (by decide) ?_
        refine ww_if_neB O dd_BF_mapRow_25 (tgt := 40) rfl (fun h25 => ?_) (fun h25 => ?_)
        · refine ww_aload_n O dd_BF_mapRow_40 0 rfl ?_
          refine ww_iload O dd_BF_mapRow_41 4 rfl ?_
          refine ww_iload_n O dd_BF_mapRow_43 3 rfl ?_
          refine ww_callV (q0 := 0) (ci := 0) O (cc_BF_mapTo _ _ _ h v fo ap aw ag av an vo vv sz pl2 wr pg pv nt ow2 vl b x (by omega)) lc_BF_101 lx_BF_mapTo_II_V rfl rfl rfl (by rw [hR]; decide) (by rw [hR]; decide) (by rw [hR]; decide) rfl (Nat.le_of_ble_eq_true rfl) dd_BF_mapRow_44 rfl [0, 1, 2, 3, 4, 5, 6, 7, 8] [] [0, 1, 2, 3, 4, 5, 6, 7, 8] rfl (by decide) rfl (by decide) (by decide) (ws' := [(h, .inr (0, [.ref v, .int (nI fo), .ref ap, .ref aw, .ref ag, .ref av, .ref an, .int sz])), (ap, .inl (ww_g X 0, 60, .inl (if px_un ow2 x = true then upd pl2 b x else pl2))), (aw, .inl (ww_g X 1, 60, .inl wr)), (ag, .inl (ww_g X 1, 60, .inl pg)), (av, .inl (ww_g X 0, 60, .inl pv)), (an, .inl (ww_g X 1, 60, .inl nt)), (v, .inr (1, [.ref vo, .ref vv])), (vo, .inl (ww_g X 0, 80, .inl (if px_un ow2 x = true then upd ow2 x.toNatClampNeg (nI (fo + b)) else ow2))), (vv, .inl (ww_g X 0, 80, .inl vl))]) rfl rfl (by decide) ?_
          refine ww_iinc O dd_BF_mapRow_47 3 rfl (v := x + 1) rfl (by rw [hn]; decide) rfl (L' := [(0, .ref h), (1, .int (nI a)), (2, .int (nI e)), (3, .int (x + 1)), (4, .int (nI b))]) rfl ?_
          refine ww_iinc O dd_BF_mapRow_50 4 rfl (v := nI (b + 1)) (nI_add _ 1) (by rw [hn]; decide) rfl (L' := [(0, .ref h), (1, .int (nI a)), (2, .int (nI e)), (3, .int (x + 1)), (4, .int (nI (b + 1)))]) rfl ?_
          refine ww_goto O dd_BF_mapRow_53 (tgt := 11) rfl ?_
          exact ih (b + 1) _ _ _ (by omega) (by omega) (by omega) ((px_mr_s (by omega) (if_pos h25)).symm.trans h4)
        · refine ww_aload_n O dd_BF_mapRow_28 0 rfl ?_
          refine ww_get O ci_BF rfl 0 (by decide) lf_BF_32 rfl dd_BF_mapRow_29 0 rfl rfl ?_
          refine ww_iload_n O dd_BF_mapRow_32 2 rfl ?_
          refine ww_iload O dd_BF_mapRow_33 4 rfl ?_
          refine ww_isub O dd_BF_mapRow_35 (v := nI (e - b)) (pk_sub (by omega)) ?_
          refine ww_callV (q0 := 6) (ci := 1) O (cc_VO_bestRow _ _ _ v vo vv ow2 vl (e - b) (by omega) (by omega)) lc_BF_98 lx_VO_bestRow_I_I rfl rfl rfl (by rw [hR]; decide) (by rw [hR]; decide) (by rw [hR]; decide) rfl (Nat.le_of_ble_eq_true rfl) dd_BF_mapRow_36 rfl [6, 7, 8] [0, 1, 2, 3, 4, 5] [0, 1, 2, 3, 4, 5, 6, 7, 8] rfl (by decide) rfl (by decide) (by decide) (ws' := [(h, .inr (0, [.ref v, .int (nI fo), .ref ap, .ref aw, .ref ag, .ref av, .ref an, .int sz])), (ap, .inl (ww_g X 0, 60, .inl pl2)), (aw, .inl (ww_g X 1, 60, .inl wr)), (ag, .inl (ww_g X 1, 60, .inl pg)), (av, .inl (ww_g X 0, 60, .inl pv)), (an, .inl (ww_g X 1, 60, .inl nt)), (v, .inr (1, [.ref vo, .ref vv])), (vo, .inl (ww_g X 0, 80, .inl ow2)), (vv, .inl (ww_g X 0, 80, .inl vl))]) rfl rfl (by decide) ?_
          refine ww_istore_n O dd_BF_mapRow_39 (by rw [hn]; decide) rfl (L' := [(0, .ref h), (1, .int (nI a)), (2, .int (nI e)), (3, .int (px_best ow2 (e - b))), (4, .int (nI b))]) rfl ?_
          refine ww_aload_n O dd_BF_mapRow_40 0 rfl ?_
          refine ww_iload O dd_BF_mapRow_41 4 rfl ?_
          refine ww_iload_n O dd_BF_mapRow_43 3 rfl ?_
          refine ww_callV (q0 := 0) (ci := 0) O (cc_BF_mapTo _ _ _ h v fo ap aw ag av an vo vv sz pl2 wr pg pv nt ow2 vl b (px_best ow2 (e - b)) (by omega)) lc_BF_101 lx_BF_mapTo_II_V rfl rfl rfl (by rw [hR]; decide) (by rw [hR]; decide) (by rw [hR]; decide) rfl (Nat.le_of_ble_eq_true rfl) dd_BF_mapRow_44 rfl [0, 1, 2, 3, 4, 5, 6, 7, 8] [] [0, 1, 2, 3, 4, 5, 6, 7, 8] rfl (by decide) rfl (by decide) (by decide) (ws' := [(h, .inr (0, [.ref v, .int (nI fo), .ref ap, .ref aw, .ref ag, .ref av, .ref an, .int sz])), (ap, .inl (ww_g X 0, 60, .inl (if px_un ow2 (px_best ow2 (e - b)) = true then upd pl2 b (px_best ow2 (e - b)) else pl2))), (aw, .inl (ww_g X 1, 60, .inl wr)), (ag, .inl (ww_g X 1, 60, .inl pg)), (av, .inl (ww_g X 0, 60, .inl pv)), (an, .inl (ww_g X 1, 60, .inl nt)), (v, .inr (1, [.ref vo, .ref vv])), (vo, .inl (ww_g X 0, 80, .inl (if px_un ow2 (px_best ow2 (e - b)) = true then upd ow2 (px_best ow2 (e - b)).toNatClampNeg (nI (fo + b)) else ow2))), (vv, .inl (ww_g X 0, 80, .inl vl))]) rfl rfl (by decide) ?_
          refine ww_iinc O dd_BF_mapRow_47 3 rfl (v := (px_best ow2 (e - b)) + 1) rfl (by rw [hn]; decide) rfl (L' := [(0, .ref h), (1, .int (nI a)), (2, .int (nI e)), (3, .int ((px_best ow2 (e - b)) + 1)), (4, .int (nI b))]) rfl ?_
          refine ww_iinc O dd_BF_mapRow_50 4 rfl (v := nI (b + 1)) (nI_add _ 1) (by rw [hn]; decide) rfl (L' := [(0, .ref h), (1, .int (nI a)), (2, .int (nI e)), (3, .int ((px_best ow2 (e - b)) + 1)), (4, .int (nI (b + 1)))]) rfl ?_
          refine ww_goto O dd_BF_mapRow_53 (tgt := 11) rfl ?_
          exact ih (b + 1) _ _ _ (by omega) (by omega) (by omega) ((px_mr_s (by omega) (if_neg (by rw [h25]; decide))).symm.trans h4)
  by_cases ha0 : a = 0
  · subst ha0
    rw [px_cand_0] at hT
    refine ww_aload_n O dd_BF_mapRow_0 0 rfl ?_
    refine ww_iload_n O dd_BF_mapRow_1 1 rfl ?_
    refine ww_iconst O dd_BF_mapRow_2 (v := nI 1) rfl ?_
    refine ww_isub O dd_BF_mapRow_3 (v := (-1)) rfl ?_
    refine ww_callV (q0 := 0) (ci := 0) O (cc_BF_pb_m1 _ _ _ h v fo ap aw ag av an vo vv sz pl wr pg pv nt ow vl ) lc_BF_92 lx_BF_placeBehind_I_I rfl rfl rfl (by rw [hR]; decide) (by rw [hR]; decide) (by rw [hR]; decide) rfl (Nat.le_of_ble_eq_true rfl) dd_BF_mapRow_4 rfl [0, 1, 2, 3, 4, 5, 6, 7, 8] [] [0, 1, 2, 3, 4, 5, 6, 7, 8] rfl (by decide) rfl (by decide) (by decide) (ws' := [(h, .inr (0, [.ref v, .int (nI fo), .ref ap, .ref aw, .ref ag, .ref av, .ref an, .int sz])), (ap, .inl (ww_g X 0, 60, .inl pl)), (aw, .inl (ww_g X 1, 60, .inl wr)), (ag, .inl (ww_g X 1, 60, .inl pg)), (av, .inl (ww_g X 0, 60, .inl pv)), (an, .inl (ww_g X 1, 60, .inl nt)), (v, .inr (1, [.ref vo, .ref vv])), (vo, .inl (ww_g X 0, 80, .inl ow)), (vv, .inl (ww_g X 0, 80, .inl vl))]) rfl rfl (by decide) ?_
    refine ww_istore_n O dd_BF_mapRow_7 (by rw [hn]; decide) rfl (L' := [(0, .ref h), (1, .int (nI 0)), (2, .int (nI e)), (3, .int (-1))]) rfl ?_
    refine ww_iload_n O dd_BF_mapRow_8 1 rfl ?_
    refine ww_istore O dd_BF_mapRow_9 (by rw [hn]; decide) rfl (L' := [(0, .ref h), (1, .int (nI 0)), (2, .int (nI e)), (3, .int (-1)), (4, .int (nI 0))]) rfl ?_
    exact loop e 0 (-1) pl ow (by omega) (by omega) (by omega) hT
  · rw [px_cand_p (by omega)] at hT
    refine ww_aload_n O dd_BF_mapRow_0 0 rfl ?_
    refine ww_iload_n O dd_BF_mapRow_1 1 rfl ?_
    refine ww_iconst O dd_BF_mapRow_2 (v := nI 1) rfl ?_
    refine ww_isub O dd_BF_mapRow_3 (v := nI (a - 1)) (pk_sub (by omega)) ?_
    refine ww_callV (q0 := 0) (ci := 0) O (cc_BF_placeBehind _ _ _ h v fo ap aw ag av an vo vv sz pl wr pg pv nt ow vl (a - 1) (by omega)) lc_BF_92 lx_BF_placeBehind_I_I rfl rfl rfl (by rw [hR]; decide) (by rw [hR]; decide) (by rw [hR]; decide) rfl (Nat.le_of_ble_eq_true rfl) dd_BF_mapRow_4 rfl [0, 1, 2, 3, 4, 5, 6, 7, 8] [] [0, 1, 2, 3, 4, 5, 6, 7, 8] rfl (by decide) rfl (by decide) (by decide) (ws' := [(h, .inr (0, [.ref v, .int (nI fo), .ref ap, .ref aw, .ref ag, .ref av, .ref an, .int sz])), (ap, .inl (ww_g X 0, 60, .inl pl)), (aw, .inl (ww_g X 1, 60, .inl wr)), (ag, .inl (ww_g X 1, 60, .inl pg)), (av, .inl (ww_g X 0, 60, .inl pv)), (an, .inl (ww_g X 1, 60, .inl nt)), (v, .inr (1, [.ref vo, .ref vv])), (vo, .inl (ww_g X 0, 80, .inl ow)), (vv, .inl (ww_g X 0, 80, .inl vl))]) rfl rfl (by decide) ?_
    rw [show a - 1 + 1 = a by omega]
    refine ww_istore_n O dd_BF_mapRow_7 (by rw [hn]; decide) rfl (L' := [(0, .ref h), (1, .int (nI a)), (2, .int (nI e)), (3, .int (px_cand false pl a))]) rfl ?_
    refine ww_iload_n O dd_BF_mapRow_8 1 rfl ?_
    refine ww_istore O dd_BF_mapRow_9 (by rw [hn]; decide) rfl (L' := [(0, .ref h), (1, .int (nI a)), (2, .int (nI e)), (3, .int (px_cand false pl a)), (4, .int (nI a))]) rfl ?_
    exact loop e a _ pl ow (by omega) (by omega) (by omega) hT
set_option maxRecDepth 4000 in
theorem cc_BF_mapHoles (l : Launch) (D : va_G) (g : Nat → ClassId) (h : Nat) (v : Nat) (fo : Nat) (ap : Nat) (aw : Nat) (ag : Nat) (av : Nat) (an : Nat) (vo : Nat) (vv : Nat) (sz : Int32) (pl : Nat → Int32) (wr : Nat → Int32) (pg : Nat → Int32) (pv : Nat → Int32) (nt : Nat → Int32) (ow : Nat → Int32) (vl : Nat → Int32) (a : Nat) (e : Nat) (only : Bool) (ha : a ≤ e) (he : e ≤ 60) : ww_ct l D g yy_BF_mapHoles bb_BF_mapHoles 6 none (ww_rm 4) [.ref h, .int (nI a), .int (nI e), .int (px_b only)] [(h, .inr (0, [.ref v, .int (nI fo), .ref ap, .ref aw, .ref ag, .ref av, .ref an, .int sz])), (ap, .inl (g 0, 60, .inl pl)), (aw, .inl (g 1, 60, .inl wr)), (ag, .inl (g 1, 60, .inl pg)), (av, .inl (g 0, 60, .inl pv)), (an, .inl (g 1, 60, .inl nt)), (v, .inr (1, [.ref vo, .ref vv])), (vo, .inl (g 0, 80, .inl ow)), (vv, .inl (g 0, 80, .inl vl))] none [(h, .inr (0, [.ref v, .int (nI fo), .ref ap, .ref aw, .ref ag, .ref av, .ref an, .int sz])), (ap, .inl (g 0, 60, .inl ((px_mh fo 0 (fun j => px_on pg j || !only) 60 a e pl ow).1))), (aw, .inl (g 1, 60, .inl wr)), (ag, .inl (g 1, 60, .inl pg)), (av, .inl (g 0, 60, .inl pv)), (an, .inl (g 1, 60, .inl nt)), (v, .inr (1, [.ref vo, .ref vv])), (vo, .inl (g 0, 80, .inl ((px_mh fo 0 (fun j => px_on pg j || !only) 60 a e pl ow).2))), (vv, .inl (g 0, 80, .inl vl))] := by
  refine ww_start (by decide +kernel) rfl trivial (Nat.le_of_ble_eq_true rfl) (L0 := [(0, .ref h), (1, .int (nI a)), (2, .int (nI e)), (3, .int (px_b only))]) rfl ?_
  intro X O hl hD hg hR hn F
  subst hl hD hg
  generalize hT : px_mh fo 0 (fun j => px_on pg j || !only) 60 a e pl ow = T at F
  have loop : ∀ (k b : Nat) (pl2 ow2 : Nat → Int32), e ≤ b + k → b ≤ 61 → px_mh fo 0 (fun j => px_on pg j || !only) k b e pl2 ow2 = T → ww_at X 0 0 3 [(0, .ref h), (1, .int (nI a)), (2, .int (nI e)), (3, .int (px_b only)), (4, .int (nI b))] [] [(h, .inr (0, [.ref v, .int (nI fo), .ref ap, .ref aw, .ref ag, .ref av, .ref an, .int sz])), (ap, .inl (ww_g X 0, 60, .inl pl2)), (aw, .inl (ww_g X 1, 60, .inl wr)), (ag, .inl (ww_g X 1, 60, .inl pg)), (av, .inl (ww_g X 0, 60, .inl pv)), (an, .inl (ww_g X 1, 60, .inl nt)), (v, .inr (1, [.ref vo, .ref vv])), (vo, .inl (ww_g X 0, 80, .inl ow2)), (vv, .inl (ww_g X 0, 80, .inl vl))] := by
    intro k
    induction k with
    | zero =>
      intro b pl2 ow2 h1 h2 h4
      refine ww_iload O dd_BF_mapHoles_3 4 rfl ?_
      refine ww_iload_n O dd_BF_mapHoles_5 2 rfl ?_
      refine ww_icmp_geN O dd_BF_mapHoles_6 (tgt := 36) rfl (by omega) (by omega) (fun h6 => ?_) (fun h6 => ?_)
      · rw [px_mh_e (by omega)] at h4
        subst h4
        exact F.v dd_BF_mapHoles_36
      · exfalso; omega
    | succ k ih =>
      intro b pl2 ow2 h1 h2 h4
      refine ww_iload O dd_BF_mapHoles_3 4 rfl ?_
      refine ww_iload_n O dd_BF_mapHoles_5 2 rfl ?_
      refine ww_icmp_geN O dd_BF_mapHoles_6 (tgt := 36) rfl (by omega) (by omega) (fun h6 => ?_) (fun h6 => ?_)
      · rw [px_mh_e (by omega)] at h4
        subst h4
        exact F.v dd_BF_mapHoles_36
      · refine ww_aload_n O dd_BF_mapHoles_9 0 rfl ?_
        refine ww_iload O dd_BF_mapHoles_10 4 rfl ?_
        refine ww_iload_n O dd_BF_mapHoles_12 2 rfl ?_
        refine ww_iload_n O dd_BF_mapHoles_13 3 rfl ?_
        refine ww_callV (q0 := 0) (ci := 0) O (cc_BF_endOfRow _ _ _ h v fo ap aw ag av an vo vv sz pl2 wr pg pv nt ow2 vl b e only (by omega) (by omega)) lc_BF_84 lx_BF_endOfRow_IIZ_I rfl rfl rfl (by rw [hR]; decide) (by rw [hR]; decide) (by rw [hR]; decide) rfl (Nat.le_of_ble_eq_true rfl) dd_BF_mapHoles_14 rfl [0, 1, 2, 3, 4, 5, 6, 7, 8] [] [0, 1, 2, 3, 4, 5, 6, 7, 8] rfl (by decide) rfl (by decide) (by decide) (ws' := [(h, .inr (0, [.ref v, .int (nI fo), .ref ap, .ref aw, .ref ag, .ref av, .ref an, .int sz])), (ap, .inl (ww_g X 0, 60, .inl pl2)), (aw, .inl (ww_g X 1, 60, .inl wr)), (ag, .inl (ww_g X 1, 60, .inl pg)), (av, .inl (ww_g X 0, 60, .inl pv)), (an, .inl (ww_g X 1, 60, .inl nt)), (v, .inr (1, [.ref vo, .ref vv])), (vo, .inl (ww_g X 0, 80, .inl ow2)), (vv, .inl (ww_g X 0, 80, .inl vl))]) rfl rfl (by decide) ?_
        have hr1 := px_er_le (fun j => px_hole pl2 j && (px_on pg j || !only)) (e - b) b
        rw [px_mh, if_pos (by omega)] at h4
        generalize px_er (fun j => px_hole pl2 j && (px_on pg j || !only)) (e - b) b = r at hr1 h4 ⊢
        refine ww_istore O dd_BF_mapHoles_17 (by rw [hn]; decide) rfl (L' := [(0, .ref h), (1, .int (nI a)), (2, .int (nI e)), (3, .int (px_b only)), (4, .int (nI b)), (5, .int (nI r))]) rfl ?_
        refine ww_aload_n O dd_BF_mapHoles_19 0 rfl ?_
        refine ww_iload O dd_BF_mapHoles_20 4 rfl ?_
        refine ww_iload O dd_BF_mapHoles_22 5 rfl ?_
        refine ww_callV (q0 := 0) (ci := 0) O (cc_BF_mapRow _ _ _ h v fo ap aw ag av an vo vv sz pl2 wr pg pv nt ow2 vl b r (by omega) (by omega)) lc_BF_88 lx_BF_mapRow_II_V rfl rfl rfl (by rw [hR]; decide) (by rw [hR]; decide) (by rw [hR]; decide) rfl (Nat.le_of_ble_eq_true rfl) dd_BF_mapHoles_24 rfl [0, 1, 2, 3, 4, 5, 6, 7, 8] [] [0, 1, 2, 3, 4, 5, 6, 7, 8] rfl (by decide) rfl (by decide) (by decide) (ws' := [(h, .inr (0, [.ref v, .int (nI fo), .ref ap, .ref aw, .ref ag, .ref av, .ref an, .int sz])), (ap, .inl (ww_g X 0, 60, .inl ((px_mr fo (r - b) b (px_cand (b == 0) pl2 b) pl2 ow2).1))), (aw, .inl (ww_g X 1, 60, .inl wr)), (ag, .inl (ww_g X 1, 60, .inl pg)), (av, .inl (ww_g X 0, 60, .inl pv)), (an, .inl (ww_g X 1, 60, .inl nt)), (v, .inr (1, [.ref vo, .ref vv])), (vo, .inl (ww_g X 0, 80, .inl ((px_mr fo (r - b) b (px_cand (b == 0) pl2 b) pl2 ow2).2))), (vv, .inl (ww_g X 0, 80, .inl vl))]) rfl rfl (by decide) ?_
        refine ww_iload O dd_BF_mapHoles_27 5 rfl ?_
        refine ww_iconst O dd_BF_mapHoles_29 (v := nI 1) rfl ?_
        refine ww_iadd O dd_BF_mapHoles_30 (v := nI (r + 1)) (nI_add _ _) ?_
        refine ww_istore O dd_BF_mapHoles_31 (by rw [hn]; decide) rfl (L' := [(0, .ref h), (1, .int (nI a)), (2, .int (nI e)), (3, .int (px_b only)), (4, .int (nI (r + 1))), (5, .int (nI r))]) rfl ?_
        refine ww_goto O dd_BF_mapHoles_33 (tgt := 3) rfl ?_
        refine ww_sub [0, 1, 2, 3, 4] rfl ?_
        exact ih (r + 1) _ _ (by omega) (by omega) h4
  refine ww_iload_n O dd_BF_mapHoles_0 1 rfl ?_
  refine ww_istore O dd_BF_mapHoles_1 (by rw [hn]; decide) rfl (L' := [(0, .ref h), (1, .int (nI a)), (2, .int (nI e)), (3, .int (px_b only)), (4, .int (nI a))]) rfl ?_
  exact loop 60 a pl ow (by omega) (by omega) hT
set_option maxRecDepth 4000 in
theorem cc_BF_unmap (l : Launch) (D : va_G) (g : Nat → ClassId) (h : Nat) (v : Nat) (fo : Nat) (ap : Nat) (aw : Nat) (ag : Nat) (av : Nat) (an : Nat) (vo : Nat) (vv : Nat) (sz : Int32) (pl : Nat → Int32) (wr : Nat → Int32) (pg : Nat → Int32) (pv : Nat → Int32) (nt : Nat → Int32) (ow : Nat → Int32) (vl : Nat → Int32) (b : Nat) (p : Nat) (hb : b < 60) (hp : p < 80) (hq : pl b = nI p) : ww_ct l D g yy_BF_unmap bb_BF_unmap 2 none (ww_rm 2) [.ref h, .int (nI b)] [(h, .inr (0, [.ref v, .int (nI fo), .ref ap, .ref aw, .ref ag, .ref av, .ref an, .int sz])), (ap, .inl (g 0, 60, .inl pl)), (aw, .inl (g 1, 60, .inl wr)), (ag, .inl (g 1, 60, .inl pg)), (av, .inl (g 0, 60, .inl pv)), (an, .inl (g 1, 60, .inl nt)), (v, .inr (1, [.ref vo, .ref vv])), (vo, .inl (g 0, 80, .inl ow)), (vv, .inl (g 0, 80, .inl vl))] none [(h, .inr (0, [.ref v, .int (nI fo), .ref ap, .ref aw, .ref ag, .ref av, .ref an, .int sz])), (ap, .inl (g 0, 60, .inl (upd pl b (-1)))), (aw, .inl (g 1, 60, .inl (upd wr b (nI 0)))), (ag, .inl (g 1, 60, .inl pg)), (av, .inl (g 0, 60, .inl pv)), (an, .inl (g 1, 60, .inl nt)), (v, .inr (1, [.ref vo, .ref vv])), (vo, .inl (g 0, 80, .inl (upd ow p (-1)))), (vv, .inl (g 0, 80, .inl vl))] := by
  refine ww_start (by decide +kernel) rfl trivial (Nat.le_of_ble_eq_true rfl) (L0 := [(0, .ref h), (1, .int (nI b))]) rfl ?_
  intro X O hl hD hg hR hn F
  subst hl hD hg
  refine ww_aload_n O dd_BF_unmap_0 0 rfl ?_
  refine ww_get O ci_BF rfl 0 (by decide) lf_BF_32 rfl dd_BF_unmap_1 0 rfl rfl ?_
  refine ww_aload_n O dd_BF_unmap_4 0 rfl ?_
  refine ww_get O ci_BF rfl 2 (by decide) lf_BF_9 rfl dd_BF_unmap_5 0 rfl rfl ?_
  refine ww_iload_n O dd_BF_unmap_8 1 rfl ?_
  refine ww_iald O dd_BF_unmap_9 1 rfl (by omega) (by decide) rfl ?_
  rw [hq]
  refine ww_callV (q0 := 6) (ci := 1) O (cc_VO_release _ _ _ v vo vv ow vl p (by omega)) lc_BF_107 lx_VO_release_I_V rfl rfl rfl (by rw [hR]; decide) (by rw [hR]; decide) (by rw [hR]; decide) rfl (Nat.le_of_ble_eq_true rfl) dd_BF_unmap_10 rfl [6, 7, 8] [0, 1, 2, 3, 4, 5] [0, 1, 2, 3, 4, 5, 6, 7, 8] rfl (by decide) rfl (by decide) (by decide) (ws' := [(h, .inr (0, [.ref v, .int (nI fo), .ref ap, .ref aw, .ref ag, .ref av, .ref an, .int sz])), (ap, .inl (ww_g X 0, 60, .inl pl)), (aw, .inl (ww_g X 1, 60, .inl wr)), (ag, .inl (ww_g X 1, 60, .inl pg)), (av, .inl (ww_g X 0, 60, .inl pv)), (an, .inl (ww_g X 1, 60, .inl nt)), (v, .inr (1, [.ref vo, .ref vv])), (vo, .inl (ww_g X 0, 80, .inl (upd ow p (-1)))), (vv, .inl (ww_g X 0, 80, .inl vl))]) rfl rfl (by decide) ?_
  refine ww_aload_n O dd_BF_unmap_13 0 rfl ?_
  refine ww_get O ci_BF rfl 2 (by decide) lf_BF_9 rfl dd_BF_unmap_14 0 rfl rfl ?_
  refine ww_iload_n O dd_BF_unmap_17 1 rfl ?_
  refine ww_iconst O dd_BF_unmap_18 (v := (-1)) rfl ?_
  refine ww_iast O dd_BF_unmap_19 1 rfl (by omega) (by decide) (ws' := [(h, .inr (0, [.ref v, .int (nI fo), .ref ap, .ref aw, .ref ag, .ref av, .ref an, .int sz])), (ap, .inl (ww_g X 0, 60, .inl (upd pl b (-1)))), (aw, .inl (ww_g X 1, 60, .inl wr)), (ag, .inl (ww_g X 1, 60, .inl pg)), (av, .inl (ww_g X 0, 60, .inl pv)), (an, .inl (ww_g X 1, 60, .inl nt)), (v, .inr (1, [.ref vo, .ref vv])), (vo, .inl (ww_g X 0, 80, .inl (upd ow p (-1)))), (vv, .inl (ww_g X 0, 80, .inl vl))]) rfl ?_
  refine ww_aload_n O dd_BF_unmap_20 0 rfl ?_
  refine ww_get O ci_BF rfl 3 (by decide) lf_BF_15 rfl dd_BF_unmap_21 0 rfl rfl ?_
  refine ww_iload_n O dd_BF_unmap_24 1 rfl ?_
  refine ww_iconst O dd_BF_unmap_25 (v := nI 0) rfl ?_
  refine ww_zast O dd_BF_unmap_26 2 rfl (by omega) (by decide) rfl (ws' := [(h, .inr (0, [.ref v, .int (nI fo), .ref ap, .ref aw, .ref ag, .ref av, .ref an, .int sz])), (ap, .inl (ww_g X 0, 60, .inl (upd pl b (-1)))), (aw, .inl (ww_g X 1, 60, .inl (upd wr b (nI 0)))), (ag, .inl (ww_g X 1, 60, .inl pg)), (av, .inl (ww_g X 0, 60, .inl pv)), (an, .inl (ww_g X 1, 60, .inl nt)), (v, .inr (1, [.ref vo, .ref vv])), (vo, .inl (ww_g X 0, 80, .inl (upd ow p (-1)))), (vv, .inl (ww_g X 0, 80, .inl vl))]) rfl ?_
  exact F.v dd_BF_unmap_27
set_option maxRecDepth 4000 in
theorem cc_BF_makeHoles (l : Launch) (D : va_G) (g : Nat → ClassId) (h : Nat) (v : Nat) (fo : Nat) (ap : Nat) (aw : Nat) (ag : Nat) (av : Nat) (an : Nat) (vo : Nat) (vv : Nat) (sz : Int32) (pl : Nat → Int32) (wr : Nat → Int32) (pg : Nat → Int32) (pv : Nat → Int32) (nt : Nat → Int32) (ow : Nat → Int32) (vl : Nat → Int32) (a : Nat) (e : Nat) (hr : px_rng pl 0 60) (ha : a ≤ e) (he : e ≤ 60) : ww_ct l D g yy_BF_makeHoles bb_BF_makeHoles 5 (some .int) (ww_rm 3) [.ref h, .int (nI a), .int (nI e)] [(h, .inr (0, [.ref v, .int (nI fo), .ref ap, .ref aw, .ref ag, .ref av, .ref an, .int sz])), (ap, .inl (g 0, 60, .inl pl)), (aw, .inl (g 1, 60, .inl wr)), (ag, .inl (g 1, 60, .inl pg)), (av, .inl (g 0, 60, .inl pv)), (an, .inl (g 1, 60, .inl nt)), (v, .inr (1, [.ref vo, .ref vv])), (vo, .inl (g 0, 80, .inl ow)), (vv, .inl (g 0, 80, .inl vl))] (some (.int (nI (px_cnt (fun j => !px_hole pl j) a (e - a))))) [(h, .inr (0, [.ref v, .int (nI fo), .ref ap, .ref aw, .ref ag, .ref av, .ref an, .int sz])), (ap, .inl (g 0, 60, .inl (px_fill pl a (e - a) (-1)))), (aw, .inl (g 1, 60, .inl (px_cut (fun j => !px_hole pl j) wr a (e - a) (nI 0)))), (ag, .inl (g 1, 60, .inl (px_fill pg a (e - a) (nI 0)))), (av, .inl (g 0, 60, .inl pv)), (an, .inl (g 1, 60, .inl nt)), (v, .inr (1, [.ref vo, .ref vv])), (vo, .inl (g 0, 80, .inl (px_rel (fun _ => true) pl (e - a) a ow))), (vv, .inl (g 0, 80, .inl vl))] := by
  refine ww_start (by decide +kernel) rfl rfl (Nat.le_of_ble_eq_true rfl) (L0 := [(0, .ref h), (1, .int (nI a)), (2, .int (nI e))]) rfl ?_
  intro X O hl hD hg hR hn F
  subst hl hD hg
  generalize hT : px_rel (fun _ => true) pl (e - a) a ow = T at F
  have loop : ∀ (k b n : Nat) (ow2 : Nat → Int32), e ≤ b + k → a ≤ b → b ≤ e → n = px_cnt (fun j => !px_hole pl j) a (b - a) → px_rel (fun _ => true) pl (e - b) b ow2 = T → ww_at X 0 0 5 [(0, .ref h), (1, .int (nI a)), (2, .int (nI e)), (3, .int (nI n)), (4, .int (nI b))] [] [(h, .inr (0, [.ref v, .int (nI fo), .ref ap, .ref aw, .ref ag, .ref av, .ref an, .int sz])), (ap, .inl (ww_g X 0, 60, .inl (px_fill pl a (b - a) (-1)))), (aw, .inl (ww_g X 1, 60, .inl (px_cut (fun j => !px_hole pl j) wr a (b - a) (nI 0)))), (ag, .inl (ww_g X 1, 60, .inl (px_fill pg a (b - a) (nI 0)))), (av, .inl (ww_g X 0, 60, .inl pv)), (an, .inl (ww_g X 1, 60, .inl nt)), (v, .inr (1, [.ref vo, .ref vv])), (vo, .inl (ww_g X 0, 80, .inl ow2)), (vv, .inl (ww_g X 0, 80, .inl vl))] := by
    intro k
    induction k with
    | zero =>
      intro b n ow2 h1 h2 h3 h5 h4
      refine ww_iload O dd_BF_makeHoles_5 4 rfl ?_
      refine ww_iload_n O dd_BF_makeHoles_7 2 rfl ?_
      refine ww_icmp_geN O dd_BF_makeHoles_8 (tgt := 41) rfl (by omega) (by omega) (fun h8 => ?_) (fun h8 => ?_)
      · refine ww_iload_n O dd_BF_makeHoles_41 3 rfl ?_
        have eb : b = e := by omega
        subst eb
        rw [Nat.sub_self] at h4
        subst h4
        subst h5
        exact F.i dd_BF_makeHoles_42
      · exfalso; omega
    | succ k ih =>
      intro b n ow2 h1 h2 h3 h5 h4
      refine ww_iload O dd_BF_makeHoles_5 4 rfl ?_
      refine ww_iload_n O dd_BF_makeHoles_7 2 rfl ?_
      refine ww_icmp_geN O dd_BF_makeHoles_8 (tgt := 41) rfl (by omega) (by omega) (fun h8 => ?_) (fun h8 => ?_)
      · refine ww_iload_n O dd_BF_makeHoles_41 3 rfl ?_
        have eb : b = e := by omega
        subst eb
        rw [Nat.sub_self] at h4
        subst h4
        subst h5
        exact F.i dd_BF_makeHoles_42
      · refine ww_aload_n O dd_BF_makeHoles_11 0 rfl ?_
        refine ww_iload O dd_BF_makeHoles_12 4 rfl ?_
        refine ww_callV (q0 := 0) (ci := 0) O (cc_BF_dropPage _ _ _ h v fo ap aw ag av an vo vv sz (px_fill pl a (b - a) (-1)) (px_cut (fun j => !px_hole pl j) wr a (b - a) (nI 0)) (px_fill pg a (b - a) (nI 0)) pv nt ow2 vl b (by omega)) lc_BF_51 lx_BF_dropPage_I_V rfl rfl rfl (by rw [hR]; decide) (by rw [hR]; decide) (by rw [hR]; decide) rfl (Nat.le_of_ble_eq_true rfl) dd_BF_makeHoles_14 rfl [0, 1, 2, 3, 4, 5, 6, 7, 8] [] [0, 1, 2, 3, 4, 5, 6, 7, 8] rfl (by decide) rfl (by decide) (by decide) (ws' := [(h, .inr (0, [.ref v, .int (nI fo), .ref ap, .ref aw, .ref ag, .ref av, .ref an, .int sz])), (ap, .inl (ww_g X 0, 60, .inl (px_fill pl a (b - a) (-1)))), (aw, .inl (ww_g X 1, 60, .inl (px_cut (fun j => !px_hole pl j) wr a (b - a) (nI 0)))), (ag, .inl (ww_g X 1, 60, .inl (upd (px_fill pg a (b - a) (nI 0)) b (nI 0)))), (av, .inl (ww_g X 0, 60, .inl pv)), (an, .inl (ww_g X 1, 60, .inl nt)), (v, .inr (1, [.ref vo, .ref vv])), (vo, .inl (ww_g X 0, 80, .inl ow2)), (vv, .inl (ww_g X 0, 80, .inl vl))]) rfl rfl (by decide) ?_
        refine ww_aload_n O dd_BF_makeHoles_17 0 rfl ?_
        refine ww_iload O dd_BF_makeHoles_18 4 rfl ?_
        refine ww_callV (q0 := 0) (ci := 0) O (cc_BF_isHole _ _ _ h v fo ap aw ag av an vo vv sz (px_fill pl a (b - a) (-1)) (px_cut (fun j => !px_hole pl j) wr a (b - a) (nI 0)) (upd (px_fill pg a (b - a) (nI 0)) b (nI 0)) pv nt ow2 vl b (by omega)) lc_BF_55 lx_BF_isHole_I_Z rfl rfl rfl (by rw [hR]; decide) (by rw [hR]; decide) (by rw [hR]; decide) rfl (Nat.le_of_ble_eq_true rfl) dd_BF_makeHoles_20 rfl [0, 1, 2, 3, 4, 5, 6, 7, 8] [] [0, 1, 2, 3, 4, 5, 6, 7, 8] rfl (by decide) rfl (by decide) (by decide) (ws' := [(h, .inr (0, [.ref v, .int (nI fo), .ref ap, .ref aw, .ref ag, .ref av, .ref an, .int sz])), (ap, .inl (ww_g X 0, 60, .inl (px_fill pl a (b - a) (-1)))), (aw, .inl (ww_g X 1, 60, .inl (px_cut (fun j => !px_hole pl j) wr a (b - a) (nI 0)))), (ag, .inl (ww_g X 1, 60, .inl (upd (px_fill pg a (b - a) (nI 0)) b (nI 0)))), (av, .inl (ww_g X 0, 60, .inl pv)), (an, .inl (ww_g X 1, 60, .inl nt)), (v, .inr (1, [.ref vo, .ref vv])), (vo, .inl (ww_g X 0, 80, .inl ow2)), (vv, .inl (ww_g X 0, 80, .inl vl))]) rfl rfl (by decide) ?_
        rw [px_hole_fl (by omega)]
        refine ww_if_neB O dd_BF_makeHoles_23 (tgt := 35) rfl (fun h23 => ?_) (fun h23 => ?_)
        · refine ww_iinc O dd_BF_makeHoles_35 4 rfl (v := nI (b + 1)) (nI_add _ 1) (by rw [hn]; decide) rfl (L' := [(0, .ref h), (1, .int (nI a)), (2, .int (nI e)), (3, .int (nI n)), (4, .int (nI (b + 1)))]) rfl ?_
          refine ww_goto O dd_BF_makeHoles_38 (tgt := 5) rfl ?_
          rw [px_fill_sa h2, px_fill_same (f := pl) h2 (by simpa [px_hole] using h23), px_cut_f (f := wr) h2 (by simp [h23])]
          exact ih (b + 1) n _ (by omega) (by omega) (by omega) (px_caf h2 h5 (by simp [h23])) (by rw [← h4, px_rel_s (b := b) (by omega), if_neg (by simp [h23])])
        · refine ww_aload_n O dd_BF_makeHoles_26 0 rfl ?_
          refine ww_iload O dd_BF_makeHoles_27 4 rfl ?_
          obtain ⟨p, hp, hq⟩ : ∃ p, p < 80 ∧ pl b = nI p := by
            rcases hr b (by omega) (by omega) with h | h
            · simp [px_hole, h] at h23
            · exact h
          refine ww_callV (q0 := 0) (ci := 0) O (cc_BF_unmap _ _ _ h v fo ap aw ag av an vo vv sz (px_fill pl a (b - a) (-1)) (px_cut (fun j => !px_hole pl j) wr a (b - a) (nI 0)) (upd (px_fill pg a (b - a) (nI 0)) b (nI 0)) pv nt ow2 vl b p (by omega) (by omega) (by rw [px_fill_o (by omega)]; exact hq)) lc_BF_110 lx_BF_unmap_I_V rfl rfl rfl (by rw [hR]; decide) (by rw [hR]; decide) (by rw [hR]; decide) rfl (Nat.le_of_ble_eq_true rfl) dd_BF_makeHoles_29 rfl [0, 1, 2, 3, 4, 5, 6, 7, 8] [] [0, 1, 2, 3, 4, 5, 6, 7, 8] rfl (by decide) rfl (by decide) (by decide) (ws' := [(h, .inr (0, [.ref v, .int (nI fo), .ref ap, .ref aw, .ref ag, .ref av, .ref an, .int sz])), (ap, .inl (ww_g X 0, 60, .inl (upd (px_fill pl a (b - a) (-1)) b (-1)))), (aw, .inl (ww_g X 1, 60, .inl (upd (px_cut (fun j => !px_hole pl j) wr a (b - a) (nI 0)) b (nI 0)))), (ag, .inl (ww_g X 1, 60, .inl (upd (px_fill pg a (b - a) (nI 0)) b (nI 0)))), (av, .inl (ww_g X 0, 60, .inl pv)), (an, .inl (ww_g X 1, 60, .inl nt)), (v, .inr (1, [.ref vo, .ref vv])), (vo, .inl (ww_g X 0, 80, .inl (upd ow2 p (-1)))), (vv, .inl (ww_g X 0, 80, .inl vl))]) rfl rfl (by decide) ?_
          refine ww_iinc O dd_BF_makeHoles_32 3 rfl (v := nI (n + 1)) (nI_add _ 1) (by rw [hn]; decide) rfl (L' := [(0, .ref h), (1, .int (nI a)), (2, .int (nI e)), (3, .int (nI (n + 1))), (4, .int (nI b))]) rfl ?_
          refine ww_iinc O dd_BF_makeHoles_35 4 rfl (v := nI (b + 1)) (nI_add _ 1) (by rw [hn]; decide) rfl (L' := [(0, .ref h), (1, .int (nI a)), (2, .int (nI e)), (3, .int (nI (n + 1))), (4, .int (nI (b + 1)))]) rfl ?_
          refine ww_goto O dd_BF_makeHoles_38 (tgt := 5) rfl ?_
          rw [px_fill_sa h2, px_fill_sa h2, px_cut_t h2 (by simp [h23])]
          exact ih (b + 1) (n + 1) _ (by omega) (by omega) (by omega) (px_cat h2 h5 (by simp [h23])) (by rw [← h4, px_rel_s (b := b) (by omega), if_pos (by simp [h23]), hq, nI_clamp (by omega)])
  have h0 := loop e a 0 ow (by omega) (by omega) (by omega) (by rw [Nat.sub_self]; rfl) hT
  rw [Nat.sub_self, px_fill_0, px_fill_0, px_cut_0] at h0
  refine ww_iconst O dd_BF_makeHoles_0 (v := nI 0) rfl ?_
  refine ww_istore_n O dd_BF_makeHoles_1 (by rw [hn]; decide) rfl (L' := [(0, .ref h), (1, .int (nI a)), (2, .int (nI e)), (3, .int (nI 0))]) rfl ?_
  refine ww_iload_n O dd_BF_makeHoles_2 1 rfl ?_
  refine ww_istore O dd_BF_makeHoles_3 (by rw [hn]; decide) rfl (L' := [(0, .ref h), (1, .int (nI a)), (2, .int (nI e)), (3, .int (nI 0)), (4, .int (nI a))]) rfl ?_
  exact h0
set_option maxRecDepth 4000 in
theorem cc_BF_writePage (l : Launch) (D : va_G) (g : Nat → ClassId) (h : Nat) (v : Nat) (fo : Nat) (ap : Nat) (aw : Nat) (ag : Nat) (av : Nat) (an : Nat) (vo : Nat) (vv : Nat) (sz : Int32) (pl : Nat → Int32) (wr : Nat → Int32) (pg : Nat → Int32) (pv : Nat → Int32) (nt : Nat → Int32) (ow : Nat → Int32) (vl : Nat → Int32) (b : Nat) (hb : b < 60) (hr : pl b = -1 ∨ ∃ p, p < 80 ∧ pl b = nI p) : ww_ct l D g yy_BF_writePage bb_BF_writePage 2 none (ww_rm 2) [.ref h, .int (nI b)] [(h, .inr (0, [.ref v, .int (nI fo), .ref ap, .ref aw, .ref ag, .ref av, .ref an, .int sz])), (ap, .inl (g 0, 60, .inl pl)), (aw, .inl (g 1, 60, .inl wr)), (ag, .inl (g 1, 60, .inl pg)), (av, .inl (g 0, 60, .inl pv)), (an, .inl (g 1, 60, .inl nt)), (v, .inr (1, [.ref vo, .ref vv])), (vo, .inl (g 0, 80, .inl ow)), (vv, .inl (g 0, 80, .inl vl))] none [(h, .inr (0, [.ref v, .int (nI fo), .ref ap, .ref aw, .ref ag, .ref av, .ref an, .int sz])), (ap, .inl (g 0, 60, .inl pl)), (aw, .inl (g 1, 60, .inl (if px_hole pl b = true then wr else upd wr b (nI 1)))), (ag, .inl (g 1, 60, .inl (upd pg b (nI 0)))), (av, .inl (g 0, 60, .inl pv)), (an, .inl (g 1, 60, .inl nt)), (v, .inr (1, [.ref vo, .ref vv])), (vo, .inl (g 0, 80, .inl ow)), (vv, .inl (g 0, 80, .inl (if px_hole pl b = true then vl else upd vl (pl b).toNatClampNeg (pv b))))] := by
  refine ww_start (by decide +kernel) rfl trivial (Nat.le_of_ble_eq_true rfl) (L0 := [(0, .ref h), (1, .int (nI b))]) rfl ?_
  intro X O hl hD hg hR hn F
  subst hl hD hg
  refine ww_aload_n O dd_BF_writePage_0 0 rfl ?_
  refine ww_iload_n O dd_BF_writePage_1 1 rfl ?_
  refine ww_callV (q0 := 0) (ci := 0) O (cc_BF_isHole _ _ _ h v fo ap aw ag av an vo vv sz pl wr pg pv nt ow vl b (by omega)) lc_BF_55 lx_BF_isHole_I_Z rfl rfl rfl (by rw [hR]; decide) (by rw [hR]; decide) (by rw [hR]; decide) rfl (Nat.le_of_ble_eq_true rfl) dd_BF_writePage_2 rfl [0, 1, 2, 3, 4, 5, 6, 7, 8] [] [0, 1, 2, 3, 4, 5, 6, 7, 8] rfl (by decide) rfl (by decide) (by decide) (ws' := [(h, .inr (0, [.ref v, .int (nI fo), .ref ap, .ref aw, .ref ag, .ref av, .ref an, .int sz])), (ap, .inl (ww_g X 0, 60, .inl pl)), (aw, .inl (ww_g X 1, 60, .inl wr)), (ag, .inl (ww_g X 1, 60, .inl pg)), (av, .inl (ww_g X 0, 60, .inl pv)), (an, .inl (ww_g X 1, 60, .inl nt)), (v, .inr (1, [.ref vo, .ref vv])), (vo, .inl (ww_g X 0, 80, .inl ow)), (vv, .inl (ww_g X 0, 80, .inl vl))]) rfl rfl (by decide) ?_
  refine ww_if_neB O dd_BF_writePage_5 (tgt := 34) rfl (fun h5 => ?_) (fun h5 => ?_)
  · rw [if_pos h5, if_pos h5] at F
    refine ww_aload_n O dd_BF_writePage_34 0 rfl ?_
    refine ww_iload_n O dd_BF_writePage_35 1 rfl ?_
    refine ww_callV (q0 := 0) (ci := 0) O (cc_BF_dropPage _ _ _ h v fo ap aw ag av an vo vv sz pl wr pg pv nt ow vl b (by omega)) lc_BF_51 lx_BF_dropPage_I_V rfl rfl rfl (by rw [hR]; decide) (by rw [hR]; decide) (by rw [hR]; decide) rfl (Nat.le_of_ble_eq_true rfl) dd_BF_writePage_36 rfl [0, 1, 2, 3, 4, 5, 6, 7, 8] [] [0, 1, 2, 3, 4, 5, 6, 7, 8] rfl (by decide) rfl (by decide) (by decide) (ws' := [(h, .inr (0, [.ref v, .int (nI fo), .ref ap, .ref aw, .ref ag, .ref av, .ref an, .int sz])), (ap, .inl (ww_g X 0, 60, .inl pl)), (aw, .inl (ww_g X 1, 60, .inl wr)), (ag, .inl (ww_g X 1, 60, .inl (upd pg b (nI 0)))), (av, .inl (ww_g X 0, 60, .inl pv)), (an, .inl (ww_g X 1, 60, .inl nt)), (v, .inr (1, [.ref vo, .ref vv])), (vo, .inl (ww_g X 0, 80, .inl ow)), (vv, .inl (ww_g X 0, 80, .inl vl))]) rfl rfl (by decide) ?_
    exact F.v dd_BF_writePage_39
  · rw [if_neg (by rw [h5]; decide), if_neg (by rw [h5]; decide)] at F
    obtain ⟨p, hp, hq⟩ : ∃ p, p < 80 ∧ pl b = nI p := by
      rcases hr with h | h
      · simp [px_hole, h] at h5
      · exact h
    rw [hq, nI_clamp (show p < 2 ^ 31 by omega)] at F
    refine ww_aload_n O dd_BF_writePage_8 0 rfl ?_
    refine ww_get O ci_BF rfl 0 (by decide) lf_BF_32 rfl dd_BF_writePage_9 0 rfl rfl ?_
    refine ww_aload_n O dd_BF_writePage_12 0 rfl ?_
    refine ww_get O ci_BF rfl 2 (by decide) lf_BF_9 rfl dd_BF_writePage_13 0 rfl rfl ?_
    refine ww_iload_n O dd_BF_writePage_16 1 rfl ?_
    refine ww_iald O dd_BF_writePage_17 1 rfl (by omega) (by decide) rfl ?_
    refine ww_aload_n O dd_BF_writePage_18 0 rfl ?_
    refine ww_get O ci_BF rfl 5 (by decide) lf_BF_22 rfl dd_BF_writePage_19 0 rfl rfl ?_
    refine ww_iload_n O dd_BF_writePage_22 1 rfl ?_
    refine ww_iald O dd_BF_writePage_23 4 rfl (by omega) (by decide) rfl ?_
    rw [hq]
    refine ww_callV (q0 := 6) (ci := 1) O (cc_VO_setValue _ _ _ v vo vv ow vl p (pv b) (by omega)) lc_BF_116 lx_VO_setValue_II_V rfl rfl rfl (by rw [hR]; decide) (by rw [hR]; decide) (by rw [hR]; decide) rfl (Nat.le_of_ble_eq_true rfl) dd_BF_writePage_24 rfl [6, 7, 8] [0, 1, 2, 3, 4, 5] [0, 1, 2, 3, 4, 5, 6, 7, 8] rfl (by decide) rfl (by decide) (by decide) (ws' := [(h, .inr (0, [.ref v, .int (nI fo), .ref ap, .ref aw, .ref ag, .ref av, .ref an, .int sz])), (ap, .inl (ww_g X 0, 60, .inl pl)), (aw, .inl (ww_g X 1, 60, .inl wr)), (ag, .inl (ww_g X 1, 60, .inl pg)), (av, .inl (ww_g X 0, 60, .inl pv)), (an, .inl (ww_g X 1, 60, .inl nt)), (v, .inr (1, [.ref vo, .ref vv])), (vo, .inl (ww_g X 0, 80, .inl ow)), (vv, .inl (ww_g X 0, 80, .inl (upd vl p (pv b))))]) rfl rfl (by decide) ?_
    refine ww_aload_n O dd_BF_writePage_27 0 rfl ?_
    refine ww_get O ci_BF rfl 3 (by decide) lf_BF_15 rfl dd_BF_writePage_28 0 rfl rfl ?_
    refine ww_iload_n O dd_BF_writePage_31 1 rfl ?_
    refine ww_iconst O dd_BF_writePage_32 (v := nI 1) rfl ?_
    refine ww_zast O dd_BF_writePage_33 2 rfl (by omega) (by decide) rfl (ws' := [(h, .inr (0, [.ref v, .int (nI fo), .ref ap, .ref aw, .ref ag, .ref av, .ref an, .int sz])), (ap, .inl (ww_g X 0, 60, .inl pl)), (aw, .inl (ww_g X 1, 60, .inl (upd wr b (nI 1)))), (ag, .inl (ww_g X 1, 60, .inl pg)), (av, .inl (ww_g X 0, 60, .inl pv)), (an, .inl (ww_g X 1, 60, .inl nt)), (v, .inr (1, [.ref vo, .ref vv])), (vo, .inl (ww_g X 0, 80, .inl ow)), (vv, .inl (ww_g X 0, 80, .inl (upd vl p (pv b))))]) rfl ?_
    refine ww_aload_n O dd_BF_writePage_34 0 rfl ?_
    refine ww_iload_n O dd_BF_writePage_35 1 rfl ?_
    refine ww_callV (q0 := 0) (ci := 0) O (cc_BF_dropPage _ _ _ h v fo ap aw ag av an vo vv sz pl (upd wr b (nI 1)) pg pv nt ow (upd vl p (pv b)) b (by omega)) lc_BF_51 lx_BF_dropPage_I_V rfl rfl rfl (by rw [hR]; decide) (by rw [hR]; decide) (by rw [hR]; decide) rfl (Nat.le_of_ble_eq_true rfl) dd_BF_writePage_36 rfl [0, 1, 2, 3, 4, 5, 6, 7, 8] [] [0, 1, 2, 3, 4, 5, 6, 7, 8] rfl (by decide) rfl (by decide) (by decide) (ws' := [(h, .inr (0, [.ref v, .int (nI fo), .ref ap, .ref aw, .ref ag, .ref av, .ref an, .int sz])), (ap, .inl (ww_g X 0, 60, .inl pl)), (aw, .inl (ww_g X 1, 60, .inl (upd wr b (nI 1)))), (ag, .inl (ww_g X 1, 60, .inl (upd pg b (nI 0)))), (av, .inl (ww_g X 0, 60, .inl pv)), (an, .inl (ww_g X 1, 60, .inl nt)), (v, .inr (1, [.ref vo, .ref vv])), (vo, .inl (ww_g X 0, 80, .inl ow)), (vv, .inl (ww_g X 0, 80, .inl (upd vl p (pv b))))]) rfl rfl (by decide) ?_
    exact F.v dd_BF_writePage_39
set_option maxRecDepth 4000 in
theorem cc_BF_writePages (l : Launch) (D : va_G) (g : Nat → ClassId) (h : Nat) (v : Nat) (fo : Nat) (ap : Nat) (aw : Nat) (ag : Nat) (av : Nat) (an : Nat) (vo : Nat) (vv : Nat) (sz : Int32) (pl : Nat → Int32) (wr : Nat → Int32) (pg : Nat → Int32) (pv : Nat → Int32) (nt : Nat → Int32) (ow : Nat → Int32) (vl : Nat → Int32) (hr : px_rng pl 0 60) : ww_ct l D g yy_BF_writePages bb_BF_writePages 3 (some .int) (ww_rm 3) [.ref h] [(h, .inr (0, [.ref v, .int (nI fo), .ref ap, .ref aw, .ref ag, .ref av, .ref an, .int sz])), (ap, .inl (g 0, 60, .inl pl)), (aw, .inl (g 1, 60, .inl wr)), (ag, .inl (g 1, 60, .inl pg)), (av, .inl (g 0, 60, .inl pv)), (an, .inl (g 1, 60, .inl nt)), (v, .inr (1, [.ref vo, .ref vv])), (vo, .inl (g 0, 80, .inl ow)), (vv, .inl (g 0, 80, .inl vl))] (some (.int (nI (px_pp pg 0)))) [(h, .inr (0, [.ref v, .int (nI fo), .ref ap, .ref aw, .ref ag, .ref av, .ref an, .int sz])), (ap, .inl (g 0, 60, .inl pl)), (aw, .inl (g 1, 60, .inl (px_cut (fun j => px_on pg j && !px_hole pl j) wr 0 60 (nI 1)))), (ag, .inl (g 1, 60, .inl (px_fill pg 0 60 (nI 0)))), (av, .inl (g 0, 60, .inl pv)), (an, .inl (g 1, 60, .inl nt)), (v, .inr (1, [.ref vo, .ref vv])), (vo, .inl (g 0, 80, .inl ow)), (vv, .inl (g 0, 80, .inl (px_wv pl pg pv 60 0 vl)))] := by
  refine ww_start (by decide +kernel) rfl rfl (Nat.le_of_ble_eq_true rfl) (L0 := [(0, .ref h)]) rfl ?_
  intro X O hl hD hg hR hn F
  subst hl hD hg
  generalize hT : px_wv pl pg pv 60 0 vl = T at F
  have loop : ∀ (k b n : Nat) (vl2 : Nat → Int32), 60 ≤ b + k → b ≤ 60 → n = px_cnt (px_on pg) 0 b → px_wv pl pg pv (60 - b) b vl2 = T → ww_at X 0 0 4 [(0, .ref h), (1, .int (nI n)), (2, .int (nI b))] [] [(h, .inr (0, [.ref v, .int (nI fo), .ref ap, .ref aw, .ref ag, .ref av, .ref an, .int sz])), (ap, .inl (ww_g X 0, 60, .inl pl)), (aw, .inl (ww_g X 1, 60, .inl (px_cut (fun j => px_on pg j && !px_hole pl j) wr 0 (b - 0) (nI 1)))), (ag, .inl (ww_g X 1, 60, .inl (px_fill pg 0 (b - 0) (nI 0)))), (av, .inl (ww_g X 0, 60, .inl pv)), (an, .inl (ww_g X 1, 60, .inl nt)), (v, .inr (1, [.ref vo, .ref vv])), (vo, .inl (ww_g X 0, 80, .inl ow)), (vv, .inl (ww_g X 0, 80, .inl vl2))] := by
    intro k
    induction k with
    | zero =>
      intro b n vl2 h1 h2 h5 h4
      refine ww_iload_n O dd_BF_writePages_4 2 rfl ?_
      refine ww_bipush O dd_BF_writePages_5 (v := nI 60) rfl ?_
      refine ww_icmp_geN O dd_BF_writePages_7 (tgt := 33) rfl (by omega) (by omega) (fun h7 => ?_) (fun h7 => ?_)
      · refine ww_iload_n O dd_BF_writePages_33 1 rfl ?_
        have eb : b = 60 := by omega
        subst eb
        rw [Nat.sub_self] at h4
        subst h4
        subst h5
        exact F.i dd_BF_writePages_34
      · exfalso; omega
    | succ k ih =>
      intro b n vl2 h1 h2 h5 h4
      refine ww_iload_n O dd_BF_writePages_4 2 rfl ?_
      refine ww_bipush O dd_BF_writePages_5 (v := nI 60) rfl ?_
      refine ww_icmp_geN O dd_BF_writePages_7 (tgt := 33) rfl (by omega) (by omega) (fun h7 => ?_) (fun h7 => ?_)
      · refine ww_iload_n O dd_BF_writePages_33 1 rfl ?_
        have eb : b = 60 := by omega
        subst eb
        rw [Nat.sub_self] at h4
        subst h4
        subst h5
        exact F.i dd_BF_writePages_34
      · refine ww_aload_n O dd_BF_writePages_10 0 rfl ?_
        refine ww_get O ci_BF rfl 4 (by decide) lf_BF_19 rfl dd_BF_writePages_11 0 rfl rfl ?_
        refine ww_iload_n O dd_BF_writePages_14 2 rfl ?_
        refine ww_zald O dd_BF_writePages_15 3 rfl (by omega) (by decide) rfl ?_
        rw [px_fill_o (by omega)]
        refine ww_if_eq O dd_BF_writePages_16 (tgt := 27) rfl (fun h16 => ?_) (fun h16 => ?_)
        · refine ww_iinc O dd_BF_writePages_27 2 rfl (v := nI (b + 1)) (nI_add _ 1) (by rw [hn]; decide) rfl (L' := [(0, .ref h), (1, .int (nI n)), (2, .int (nI (b + 1)))]) rfl ?_
          refine ww_goto O dd_BF_writePages_30 (tgt := 4) rfl ?_
          rw [px_fill_same (f := pg) (v := nI 0) (Nat.zero_le b) h16, px_cut_f (f := wr) (Nat.zero_le b) (by simp [px_on, h16])]
          exact ih (b + 1) n _ (by omega) (by omega) (px_c0f h5 (by simp [px_on, h16])) (by rw [← h4, px_wv_s (b := b) (by omega), if_neg (by simp [px_on, h16])])
        · refine ww_aload_n O dd_BF_writePages_19 0 rfl ?_
          refine ww_iload_n O dd_BF_writePages_20 2 rfl ?_
          refine ww_callV (q0 := 0) (ci := 0) O (cc_BF_writePage _ _ _ h v fo ap aw ag av an vo vv sz pl (px_cut (fun j => px_on pg j && !px_hole pl j) wr 0 (b - 0) (nI 1)) (px_fill pg 0 (b - 0) (nI 0)) pv nt ow vl2 b (by omega) (hr b (by omega) (by omega))) lc_BF_113 lx_BF_writePage_I_V rfl rfl rfl (by rw [hR]; decide) (by rw [hR]; decide) (by rw [hR]; decide) rfl (Nat.le_of_ble_eq_true rfl) dd_BF_writePages_21 rfl [0, 1, 2, 3, 4, 5, 6, 7, 8] [] [0, 1, 2, 3, 4, 5, 6, 7, 8] rfl (by decide) rfl (by decide) (by decide) (ws' := [(h, .inr (0, [.ref v, .int (nI fo), .ref ap, .ref aw, .ref ag, .ref av, .ref an, .int sz])), (ap, .inl (ww_g X 0, 60, .inl pl)), (aw, .inl (ww_g X 1, 60, .inl (if px_hole pl b = true then (px_cut (fun j => px_on pg j && !px_hole pl j) wr 0 (b - 0) (nI 1)) else upd (px_cut (fun j => px_on pg j && !px_hole pl j) wr 0 (b - 0) (nI 1)) b (nI 1)))), (ag, .inl (ww_g X 1, 60, .inl (upd (px_fill pg 0 (b - 0) (nI 0)) b (nI 0)))), (av, .inl (ww_g X 0, 60, .inl pv)), (an, .inl (ww_g X 1, 60, .inl nt)), (v, .inr (1, [.ref vo, .ref vv])), (vo, .inl (ww_g X 0, 80, .inl ow)), (vv, .inl (ww_g X 0, 80, .inl (if px_hole pl b = true then vl2 else upd vl2 (pl b).toNatClampNeg (pv b))))]) rfl rfl (by decide) ?_
          refine ww_iinc O dd_BF_writePages_24 1 rfl (v := nI (n + 1)) (nI_add _ 1) (by rw [hn]; decide) rfl (L' := [(0, .ref h), (1, .int (nI (n + 1))), (2, .int (nI b))]) rfl ?_
          refine ww_iinc O dd_BF_writePages_27 2 rfl (v := nI (b + 1)) (nI_add _ 1) (by rw [hn]; decide) rfl (L' := [(0, .ref h), (1, .int (nI (n + 1))), (2, .int (nI (b + 1)))]) rfl ?_
          refine ww_goto O dd_BF_writePages_30 (tgt := 4) rfl ?_
          rw [px_fill_sa (Nat.zero_le b)]
          by_cases hh : px_hole pl b = true
          · rw [if_pos hh, if_pos hh, px_cut_f (f := wr) (Nat.zero_le b) (by simp [hh])]
            exact ih (b + 1) (n + 1) _ (by omega) (by omega) (px_c0t h5 (by simp [px_on, h16])) (by rw [← h4, px_wv_s (b := b) (by omega), if_neg (by simp [hh])])
          · rw [if_neg hh, if_neg hh, px_cut_t (Nat.zero_le b) (by simp [px_on, h16, hh])]
            exact ih (b + 1) (n + 1) _ (by omega) (by omega) (px_c0t h5 (by simp [px_on, h16])) (by rw [← h4, px_wv_s (b := b) (by omega), if_pos (by simp [px_on, h16, hh])])
  have h0 := loop 60 0 0 vl (by omega) (by omega) rfl hT
  rw [Nat.sub_self, px_fill_0, px_cut_0] at h0
  refine ww_iconst O dd_BF_writePages_0 (v := nI 0) rfl ?_
  refine ww_istore_n O dd_BF_writePages_1 (by rw [hn]; decide) rfl (L' := [(0, .ref h), (1, .int (nI 0))]) rfl ?_
  refine ww_iconst O dd_BF_writePages_2 (v := nI 0) rfl ?_
  refine ww_istore_n O dd_BF_writePages_3 (by rw [hn]; decide) rfl (L' := [(0, .ref h), (1, .int (nI 0)), (2, .int (nI 0))]) rfl ?_
  exact h0
set_option maxRecDepth 4000 in
theorem cc_BF_noteHoles (l : Launch) (D : va_G) (g : Nat → ClassId) (h : Nat) (v : Nat) (fo : Nat) (ap : Nat) (aw : Nat) (ag : Nat) (av : Nat) (an : Nat) (vo : Nat) (vv : Nat) (sz : Int32) (pl : Nat → Int32) (wr : Nat → Int32) (pg : Nat → Int32) (pv : Nat → Int32) (nt : Nat → Int32) (ow : Nat → Int32) (vl : Nat → Int32)  : ww_ct l D g yy_BF_noteHoles bb_BF_noteHoles 2 none (ww_rm 2) [.ref h] [(h, .inr (0, [.ref v, .int (nI fo), .ref ap, .ref aw, .ref ag, .ref av, .ref an, .int sz])), (ap, .inl (g 0, 60, .inl pl)), (aw, .inl (g 1, 60, .inl wr)), (ag, .inl (g 1, 60, .inl pg)), (av, .inl (g 0, 60, .inl pv)), (an, .inl (g 1, 60, .inl nt)), (v, .inr (1, [.ref vo, .ref vv])), (vo, .inl (g 0, 80, .inl ow)), (vv, .inl (g 0, 80, .inl vl))] none [(h, .inr (0, [.ref v, .int (nI fo), .ref ap, .ref aw, .ref ag, .ref av, .ref an, .int sz])), (ap, .inl (g 0, 60, .inl pl)), (aw, .inl (g 1, 60, .inl wr)), (ag, .inl (g 1, 60, .inl pg)), (av, .inl (g 0, 60, .inl pv)), (an, .inl (g 1, 60, .inl (px_note pl nt 60))), (v, .inr (1, [.ref vo, .ref vv])), (vo, .inl (g 0, 80, .inl ow)), (vv, .inl (g 0, 80, .inl vl))] := by
  refine ww_start (by decide +kernel) rfl trivial (Nat.le_of_ble_eq_true rfl) (L0 := [(0, .ref h)]) rfl ?_
  intro X O hl hD hg hR hn F
  subst hl hD hg
  have loop : ∀ (k b : Nat), 60 ≤ b + k → b ≤ 60 → ww_at X 0 0 2 [(0, .ref h), (1, .int (nI b))] [] [(h, .inr (0, [.ref v, .int (nI fo), .ref ap, .ref aw, .ref ag, .ref av, .ref an, .int sz])), (ap, .inl (ww_g X 0, 60, .inl pl)), (aw, .inl (ww_g X 1, 60, .inl wr)), (ag, .inl (ww_g X 1, 60, .inl pg)), (av, .inl (ww_g X 0, 60, .inl pv)), (an, .inl (ww_g X 1, 60, .inl (px_note pl nt b))), (v, .inr (1, [.ref vo, .ref vv])), (vo, .inl (ww_g X 0, 80, .inl ow)), (vv, .inl (ww_g X 0, 80, .inl vl))] := by
    intro k
    induction k with
    | zero =>
      intro b h1 h2
      refine ww_iload_n O dd_BF_noteHoles_2 1 rfl ?_
      refine ww_bipush O dd_BF_noteHoles_3 (v := nI 60) rfl ?_
      refine ww_icmp_geN O dd_BF_noteHoles_5 (tgt := 25) rfl (by omega) (by omega) (fun h5 => ?_) (fun h5 => ?_)
      · have e : b = 60 := by omega
        subst e
        exact F.v dd_BF_noteHoles_25
      · exfalso; omega
    | succ k ih =>
      intro b h1 h2
      refine ww_iload_n O dd_BF_noteHoles_2 1 rfl ?_
      refine ww_bipush O dd_BF_noteHoles_3 (v := nI 60) rfl ?_
      refine ww_icmp_geN O dd_BF_noteHoles_5 (tgt := 25) rfl (by omega) (by omega) (fun h5 => ?_) (fun h5 => ?_)
      · have e : b = 60 := by omega
        subst e
        exact F.v dd_BF_noteHoles_25
      · refine ww_aload_n O dd_BF_noteHoles_8 0 rfl ?_
        refine ww_get O ci_BF rfl 6 (by decide) lf_BF_25 rfl dd_BF_noteHoles_9 0 rfl rfl ?_
        refine ww_iload_n O dd_BF_noteHoles_12 1 rfl ?_
        refine ww_aload_n O dd_BF_noteHoles_13 0 rfl ?_
        refine ww_iload_n O dd_BF_noteHoles_14 1 rfl ?_
        refine ww_callV (q0 := 0) (ci := 0) O (cc_BF_isHole _ _ _ h v fo ap aw ag av an vo vv sz pl wr pg pv (px_note pl nt b) ow vl b (by omega)) lc_BF_55 lx_BF_isHole_I_Z rfl rfl rfl (by rw [hR]; decide) (by rw [hR]; decide) (by rw [hR]; decide) rfl (Nat.le_of_ble_eq_true rfl) dd_BF_noteHoles_15 rfl [0, 1, 2, 3, 4, 5, 6, 7, 8] [] [0, 1, 2, 3, 4, 5, 6, 7, 8] rfl (by decide) rfl (by decide) (by decide) (ws' := [(h, .inr (0, [.ref v, .int (nI fo), .ref ap, .ref aw, .ref ag, .ref av, .ref an, .int sz])), (ap, .inl (ww_g X 0, 60, .inl pl)), (aw, .inl (ww_g X 1, 60, .inl wr)), (ag, .inl (ww_g X 1, 60, .inl pg)), (av, .inl (ww_g X 0, 60, .inl pv)), (an, .inl (ww_g X 1, 60, .inl (px_note pl nt b))), (v, .inr (1, [.ref vo, .ref vv])), (vo, .inl (ww_g X 0, 80, .inl ow)), (vv, .inl (ww_g X 0, 80, .inl vl))]) rfl rfl (by decide) ?_
        refine ww_zast O dd_BF_noteHoles_18 5 rfl (by omega) (by decide) (px_b_vn _) (ws' := [(h, .inr (0, [.ref v, .int (nI fo), .ref ap, .ref aw, .ref ag, .ref av, .ref an, .int sz])), (ap, .inl (ww_g X 0, 60, .inl pl)), (aw, .inl (ww_g X 1, 60, .inl wr)), (ag, .inl (ww_g X 1, 60, .inl pg)), (av, .inl (ww_g X 0, 60, .inl pv)), (an, .inl (ww_g X 1, 60, .inl (upd (px_note pl nt b) b (px_b (px_hole pl b))))), (v, .inr (1, [.ref vo, .ref vv])), (vo, .inl (ww_g X 0, 80, .inl ow)), (vv, .inl (ww_g X 0, 80, .inl vl))]) rfl ?_
        refine ww_iinc O dd_BF_noteHoles_19 1 rfl (v := nI (b + 1)) (nI_add _ 1) (by rw [hn]; decide) rfl (L' := [(0, .ref h), (1, .int (nI (b + 1)))]) rfl ?_
        refine ww_goto O dd_BF_noteHoles_22 (tgt := 2) rfl ?_
        rw [px_note_s]
        exact ih (b + 1) (by omega) (by omega)
  have h0 := loop 60 0 (by omega) (by omega)
  rw [px_note_0] at h0
  refine ww_iconst O dd_BF_noteHoles_0 (v := nI 0) rfl ?_
  refine ww_istore_n O dd_BF_noteHoles_1 (by rw [hn]; decide) rfl (L' := [(0, .ref h), (1, .int (nI 0))]) rfl ?_
  exact h0
set_option maxRecDepth 4000 in
theorem cc_BF_restoreHoles (l : Launch) (D : va_G) (g : Nat → ClassId) (h : Nat) (v : Nat) (fo : Nat) (ap : Nat) (aw : Nat) (ag : Nat) (av : Nat) (an : Nat) (vo : Nat) (vv : Nat) (sz : Int32) (pl : Nat → Int32) (wr : Nat → Int32) (pg : Nat → Int32) (pv : Nat → Int32) (nt : Nat → Int32) (ow : Nat → Int32) (vl : Nat → Int32) (hr : px_rng pl 0 60) : ww_ct l D g yy_BF_restoreHoles bb_BF_restoreHoles 2 none (ww_rm 3) [.ref h] [(h, .inr (0, [.ref v, .int (nI fo), .ref ap, .ref aw, .ref ag, .ref av, .ref an, .int sz])), (ap, .inl (g 0, 60, .inl pl)), (aw, .inl (g 1, 60, .inl wr)), (ag, .inl (g 1, 60, .inl pg)), (av, .inl (g 0, 60, .inl pv)), (an, .inl (g 1, 60, .inl nt)), (v, .inr (1, [.ref vo, .ref vv])), (vo, .inl (g 0, 80, .inl ow)), (vv, .inl (g 0, 80, .inl vl))] none [(h, .inr (0, [.ref v, .int (nI fo), .ref ap, .ref aw, .ref ag, .ref av, .ref an, .int sz])), (ap, .inl (g 0, 60, .inl (px_cut (px_on nt) pl 0 60 (-1)))), (aw, .inl (g 1, 60, .inl (px_cut (fun j => px_on nt j && !px_hole pl j) wr 0 60 (nI 0)))), (ag, .inl (g 1, 60, .inl pg)), (av, .inl (g 0, 60, .inl pv)), (an, .inl (g 1, 60, .inl nt)), (v, .inr (1, [.ref vo, .ref vv])), (vo, .inl (g 0, 80, .inl (px_rel (px_on nt) pl 60 0 ow))), (vv, .inl (g 0, 80, .inl vl))] := by
  refine ww_start (by decide +kernel) rfl trivial (Nat.le_of_ble_eq_true rfl) (L0 := [(0, .ref h)]) rfl ?_
  intro X O hl hD hg hR hn F
  subst hl hD hg
  generalize hT : px_rel (px_on nt) pl 60 0 ow = T at F
  have loop : ∀ (k b : Nat) (ow2 : Nat → Int32), 60 ≤ b + k → b ≤ 60 → px_rel (px_on nt) pl (60 - b) b ow2 = T → ww_at X 0 0 2 [(0, .ref h), (1, .int (nI b))] [] [(h, .inr (0, [.ref v, .int (nI fo), .ref ap, .ref aw, .ref ag, .ref av, .ref an, .int sz])), (ap, .inl (ww_g X 0, 60, .inl (px_cut (px_on nt) pl 0 (b - 0) (-1)))), (aw, .inl (ww_g X 1, 60, .inl (px_cut (fun j => px_on nt j && !px_hole pl j) wr 0 (b - 0) (nI 0)))), (ag, .inl (ww_g X 1, 60, .inl pg)), (av, .inl (ww_g X 0, 60, .inl pv)), (an, .inl (ww_g X 1, 60, .inl nt)), (v, .inr (1, [.ref vo, .ref vv])), (vo, .inl (ww_g X 0, 80, .inl ow2)), (vv, .inl (ww_g X 0, 80, .inl vl))] := by
    intro k
    induction k with
    | zero =>
      intro b ow2 h1 h2 h4
      refine ww_iload_n O dd_BF_restoreHoles_2 1 rfl ?_
      refine ww_bipush O dd_BF_restoreHoles_3 (v := nI 60) rfl ?_
      refine ww_icmp_geN O dd_BF_restoreHoles_5 (tgt := 36) rfl (by omega) (by omega) (fun h5 => ?_) (fun h5 => ?_)
      · have eb : b = 60 := by omega
        subst eb
        rw [Nat.sub_self] at h4
        subst h4
        exact F.v dd_BF_restoreHoles_36
      · exfalso; omega
    | succ k ih =>
      intro b ow2 h1 h2 h4
      refine ww_iload_n O dd_BF_restoreHoles_2 1 rfl ?_
      refine ww_bipush O dd_BF_restoreHoles_3 (v := nI 60) rfl ?_
      refine ww_icmp_geN O dd_BF_restoreHoles_5 (tgt := 36) rfl (by omega) (by omega) (fun h5 => ?_) (fun h5 => ?_)
      · have eb : b = 60 := by omega
        subst eb
        rw [Nat.sub_self] at h4
        subst h4
        exact F.v dd_BF_restoreHoles_36
      · refine ww_aload_n O dd_BF_restoreHoles_8 0 rfl ?_
        refine ww_get O ci_BF rfl 6 (by decide) lf_BF_25 rfl dd_BF_restoreHoles_9 0 rfl rfl ?_
        refine ww_iload_n O dd_BF_restoreHoles_12 1 rfl ?_
        refine ww_zald O dd_BF_restoreHoles_13 5 rfl (by omega) (by decide) rfl ?_
        refine ww_if_eq O dd_BF_restoreHoles_14 (tgt := 30) rfl (fun h14 => ?_) (fun h14 => ?_)
        · refine ww_iinc O dd_BF_restoreHoles_30 1 rfl (v := nI (b + 1)) (nI_add _ 1) (by rw [hn]; decide) rfl (L' := [(0, .ref h), (1, .int (nI (b + 1)))]) rfl ?_
          refine ww_goto O dd_BF_restoreHoles_33 (tgt := 2) rfl ?_
          rw [px_cut_f (f := pl) (Nat.zero_le b) (by simp [px_on, h14]), px_cut_f (f := wr) (Nat.zero_le b) (by simp [px_on, h14])]
          exact ih (b + 1) _ (by omega) (by omega) (by rw [← h4, px_rel_s (b := b) (by omega), if_neg (by simp [px_on, h14])])
        · refine ww_aload_n O dd_BF_restoreHoles_17 0 rfl ?_
          refine ww_iload_n O dd_BF_restoreHoles_18 1 rfl ?_
          refine ww_callV (q0 := 0) (ci := 0) O (cc_BF_isHole _ _ _ h v fo ap aw ag av an vo vv sz (px_cut (px_on nt) pl 0 (b - 0) (-1)) (px_cut (fun j => px_on nt j && !px_hole pl j) wr 0 (b - 0) (nI 0)) pg pv nt ow2 vl b (by omega)) lc_BF_55 lx_BF_isHole_I_Z rfl rfl rfl (by rw [hR]; decide) (by rw [hR]; decide) (by rw [hR]; decide) rfl (Nat.le_of_ble_eq_true rfl) dd_BF_restoreHoles_19 rfl [0, 1, 2, 3, 4, 5, 6, 7, 8] [] [0, 1, 2, 3, 4, 5, 6, 7, 8] rfl (by decide) rfl (by decide) (by decide) (ws' := [(h, .inr (0, [.ref v, .int (nI fo), .ref ap, .ref aw, .ref ag, .ref av, .ref an, .int sz])), (ap, .inl (ww_g X 0, 60, .inl (px_cut (px_on nt) pl 0 (b - 0) (-1)))), (aw, .inl (ww_g X 1, 60, .inl (px_cut (fun j => px_on nt j && !px_hole pl j) wr 0 (b - 0) (nI 0)))), (ag, .inl (ww_g X 1, 60, .inl pg)), (av, .inl (ww_g X 0, 60, .inl pv)), (an, .inl (ww_g X 1, 60, .inl nt)), (v, .inr (1, [.ref vo, .ref vv])), (vo, .inl (ww_g X 0, 80, .inl ow2)), (vv, .inl (ww_g X 0, 80, .inl vl))]) rfl rfl (by decide) ?_
          rw [px_hole_ct (by omega)]
          refine ww_if_neB O dd_BF_restoreHoles_22 (tgt := 30) rfl (fun h22 => ?_) (fun h22 => ?_)
          · refine ww_iinc O dd_BF_restoreHoles_30 1 rfl (v := nI (b + 1)) (nI_add _ 1) (by rw [hn]; decide) rfl (L' := [(0, .ref h), (1, .int (nI (b + 1)))]) rfl ?_
            refine ww_goto O dd_BF_restoreHoles_33 (tgt := 2) rfl ?_
            rw [px_cut_same (f := pl) (Nat.zero_le b) (by simpa [px_hole] using h22), px_cut_f (f := wr) (Nat.zero_le b) (by simp [h22])]
            exact ih (b + 1) _ (by omega) (by omega) (by rw [← h4, px_rel_s (b := b) (by omega), if_neg (by simp [h22])])
          · refine ww_aload_n O dd_BF_restoreHoles_25 0 rfl ?_
            refine ww_iload_n O dd_BF_restoreHoles_26 1 rfl ?_
            obtain ⟨p, hp, hq⟩ : ∃ p, p < 80 ∧ pl b = nI p := by
              rcases hr b (by omega) (by omega) with h | h
              · simp [px_hole, h] at h22
              · exact h
            refine ww_callV (q0 := 0) (ci := 0) O (cc_BF_unmap _ _ _ h v fo ap aw ag av an vo vv sz (px_cut (px_on nt) pl 0 (b - 0) (-1)) (px_cut (fun j => px_on nt j && !px_hole pl j) wr 0 (b - 0) (nI 0)) pg pv nt ow2 vl b p (by omega) (by omega) (by rw [px_cut_o (by omega)]; exact hq)) lc_BF_110 lx_BF_unmap_I_V rfl rfl rfl (by rw [hR]; decide) (by rw [hR]; decide) (by rw [hR]; decide) rfl (Nat.le_of_ble_eq_true rfl) dd_BF_restoreHoles_27 rfl [0, 1, 2, 3, 4, 5, 6, 7, 8] [] [0, 1, 2, 3, 4, 5, 6, 7, 8] rfl (by decide) rfl (by decide) (by decide) (ws' := [(h, .inr (0, [.ref v, .int (nI fo), .ref ap, .ref aw, .ref ag, .ref av, .ref an, .int sz])), (ap, .inl (ww_g X 0, 60, .inl (upd (px_cut (px_on nt) pl 0 (b - 0) (-1)) b (-1)))), (aw, .inl (ww_g X 1, 60, .inl (upd (px_cut (fun j => px_on nt j && !px_hole pl j) wr 0 (b - 0) (nI 0)) b (nI 0)))), (ag, .inl (ww_g X 1, 60, .inl pg)), (av, .inl (ww_g X 0, 60, .inl pv)), (an, .inl (ww_g X 1, 60, .inl nt)), (v, .inr (1, [.ref vo, .ref vv])), (vo, .inl (ww_g X 0, 80, .inl (upd ow2 p (-1)))), (vv, .inl (ww_g X 0, 80, .inl vl))]) rfl rfl (by decide) ?_
            refine ww_iinc O dd_BF_restoreHoles_30 1 rfl (v := nI (b + 1)) (nI_add _ 1) (by rw [hn]; decide) rfl (L' := [(0, .ref h), (1, .int (nI (b + 1)))]) rfl ?_
            refine ww_goto O dd_BF_restoreHoles_33 (tgt := 2) rfl ?_
            rw [px_cut_t (f := pl) (Nat.zero_le b) (by simp [px_on, h14]), px_cut_t (f := wr) (Nat.zero_le b) (by simp [px_on, h14, h22])]
            exact ih (b + 1) _ (by omega) (by omega) (by rw [← h4, px_rel_s (b := b) (by omega), if_pos (by simp [px_on, h14, h22]), hq, nI_clamp (by omega)])
  have h0 := loop 60 0 ow (by omega) (by omega) hT
  rw [Nat.sub_self, px_cut_0, px_cut_0] at h0
  refine ww_iconst O dd_BF_restoreHoles_0 (v := nI 0) rfl ?_
  refine ww_istore_n O dd_BF_restoreHoles_1 (by rw [hn]; decide) rfl (L' := [(0, .ref h), (1, .int (nI 0))]) rfl ?_
  exact h0
