theorem lc_DE_9 : ww_site "DelayedExtents" 9 yy_VO_init bb_VO_init 1 none 0 := ⟨List.mem_filter.mpr ⟨List.mem_of_getElem? (i := 51) (by decide +kernel), by decide +kernel⟩, List.mem_filter.mpr ⟨List.mem_of_getElem? (i := 49) (by decide +kernel), by decide +kernel⟩, List.mem_filter.mpr ⟨List.mem_of_getElem? (i := 27) (by decide +kernel), by decide +kernel⟩, by decide, by decide, by decide +kernel⟩
theorem lc_DE_22 : ww_site "DelayedExtents" 22 yy_BF_init bb_BF_init 3 none 2 := ⟨List.mem_filter.mpr ⟨List.mem_of_getElem? (i := 69) (by decide +kernel), by decide +kernel⟩, List.mem_filter.mpr ⟨List.mem_of_getElem? (i := 67) (by decide +kernel), by decide +kernel⟩, List.mem_filter.mpr ⟨List.mem_of_getElem? (i := 29) (by decide +kernel), by decide +kernel⟩, by decide, by decide, by decide +kernel⟩
def dx_S0 : Nat → dx_S := fun _ => (px_fill (fun _ => nI 0) 0 60 (-1), (fun _ => nI 0), (fun _ => nI 0), (fun _ => nI 0), (fun _ => nI 0), nI 0)
def dx_P0 (g : Nat → ClassId) (x : Nat) (w1 : va_W) : Prop := ∃ K : dx_K, dx_x K = x ∧ dx_ok K ∧ w1 = dx_w g K (px_fill (fun _ => nI 0) 0 80 (-1)) (fun _ => nI 0) dx_S0
set_option maxRecDepth 8000 in
theorem ck_DE (l : Launch) (D : va_G) (g : Nat → ClassId) (x : Nat) : wi_ct l D g yy_DE_init bb_DE_init 2 (wi_rm 3 28 1398) [.ref x] [(x, .inr (2, [.null, .null]))] (fun w1 => dx_P0 g x w1) := by
  refine wi_start (by decide +kernel) rfl (Nat.le_of_ble_eq_true rfl) (L0 := [(0, .ref x)]) rfl ?_
  intro X O hl hD hg hR hn hin hao F
  subst hl hD hg
  refine ww_aload_n O dd_DE_init_0 0 rfl ?_
  refine ww_obj O lo_DE lo_inst lo_code dd_DE_init_1 (by rw [hR]; decide) (by rw [hR]; exact Nat.le_of_ble_eq_true rfl) ?_
  refine ww_aload_n O dd_DE_init_4 0 rfl ?_
  refine ww_new O (ci := 1) (fs := [.null, .null]) ci_VO cy_VO cy_VO_ok ln_VO.1 ln_VO.2.1 ln_VO.2.2 rfl (fun j hj => by rcases (show j = 0 ∨ j = 1 by omega) with rfl | rfl <;> rfl) (by rw [hR]; decide) (by rw [hR]; decide) dd_DE_init_5 (fun r5_1 => ?_)
  refine ww_eqw (ws' := [(x, .inr (2, [.null, .null])), (r5_1, .inr (1, [.null, .null]))]) rfl ?_
  refine ww_dup O dd_DE_init_8 rfl ?_
  refine wi_call (C := []) O hao [(x, .inr (2, [.null, .null]))] (ck_VO _ _ _ r5_1) lc_DE_9 lm_VO rfl (by rw [hR]; decide) (by rw [hR]; decide) (by rw [hR]; decide) rfl (Nat.le_of_ble_eq_true rfl) dd_DE_init_9 rfl ?_
  intro w1 hw1
  obtain ⟨vo2, vv2, rfl⟩ := hw1
  refine ww_eqw (ws' := [(x, .inr (2, [.null, .null])), (r5_1, .inr (1, [.ref vo2, .ref vv2])), (vo2, .inl (ww_g X 0, 80, .inl (px_fill (fun _ => nI 0) 0 80 (-1)))), (vv2, .inl (ww_g X 0, 80, .inl (fun _ => nI 0)))]) rfl ?_
  refine ww_putF O hin ci_DE cy_DE cy_DE_ok cn_DE rfl 0 (by decide) lf_DE_10 rfl rfl rfl (ty := .object "DelayedExtents$Volume") (by decide +kernel) dd_DE_init_12 0 rfl rfl rfl (Nat.le_of_ble_eq_true rfl) (ws' := [(x, .inr (2, [.ref r5_1, .null])), (r5_1, .inr (1, [.ref vo2, .ref vv2])), (vo2, .inl (ww_g X 0, 80, .inl (px_fill (fun _ => nI 0) 0 80 (-1)))), (vv2, .inl (ww_g X 0, 80, .inl (fun _ => nI 0)))]) rfl ?_
  refine ww_aload_n O dd_DE_init_15 0 rfl ?_
  refine ww_iconst O dd_DE_init_16 (v := nI 4) rfl ?_
  refine ww_newq O hao (by decide) ln_BF.1 (by rw [hR]; decide) (by rw [hR]; decide) dd_DE_init_17 (fun q17 => ?_)
  refine ww_eqw (ws' := [(x, .inr (2, [.ref r5_1, .null])), (r5_1, .inr (1, [.ref vo2, .ref vv2])), (vo2, .inl (ww_g X 0, 80, .inl (px_fill (fun _ => nI 0) 0 80 (-1)))), (vv2, .inl (ww_g X 0, 80, .inl (fun _ => nI 0))), (q17, .inl (ww_g X 3, 4, .inr (.inr (.inr (.inr (fun _ => none))))))]) rfl ?_
  refine ww_putF O hin ci_DE cy_DE cy_DE_ok cn_DE rfl 1 (by decide) lf_DE_18 rfl rfl rfl (ty := .array (.object "DelayedExtents$BlockFile")) (by decide +kernel) dd_DE_init_20 0 rfl rfl rfl (Nat.le_of_ble_eq_true rfl) (ws' := [(x, .inr (2, [.ref r5_1, .ref q17])), (r5_1, .inr (1, [.ref vo2, .ref vv2])), (vo2, .inl (ww_g X 0, 80, .inl (px_fill (fun _ => nI 0) 0 80 (-1)))), (vv2, .inl (ww_g X 0, 80, .inl (fun _ => nI 0))), (q17, .inl (ww_g X 3, 4, .inr (.inr (.inr (.inr (fun _ => none))))))]) rfl ?_
  refine ww_iconst O dd_DE_init_23 (v := nI 0) rfl ?_
  refine ww_istore_n O dd_DE_init_24 (by rw [hn]; decide) rfl (L' := [(0, .ref x), (1, .int (nI 0))]) rfl ?_
  refine ww_iload_n O dd_DE_init_25 1 rfl ?_
  refine ww_iconst O dd_DE_init_26 (v := nI 4) rfl ?_
  refine ww_icmp_geN O dd_DE_init_27 (tgt := 57) rfl (by decide) (by decide) (fun h27 => ?_) (fun h27 => ?_)
  · exfalso; omega
  refine ww_aload_n O dd_DE_init_30 0 rfl ?_
  refine ww_get O ci_DE rfl 1 (by decide) lf_DE_18 rfl dd_DE_init_31 0 rfl rfl ?_
  refine ww_iload_n O dd_DE_init_34 1 rfl ?_
  refine ww_new O (ci := 0) (fs := [.null, .int 0, .null, .null, .null, .null, .null, .int 0]) ci_BF cy_BF cy_BF_ok ln_BF.1 ln_BF.2.1 ln_BF.2.2 rfl (fun j hj => by rcases (show j = 0 ∨ j = 1 ∨ j = 2 ∨ j = 3 ∨ j = 4 ∨ j = 5 ∨ j = 6 ∨ j = 7 by omega) with rfl | rfl | rfl | rfl | rfl | rfl | rfl | rfl <;> rfl) (by rw [hR]; decide) (by rw [hR]; decide) dd_DE_init_35 (fun r35_3 => ?_)
  refine ww_eqw (ws' := [(x, .inr (2, [.ref r5_1, .ref q17])), (r5_1, .inr (1, [.ref vo2, .ref vv2])), (vo2, .inl (ww_g X 0, 80, .inl (px_fill (fun _ => nI 0) 0 80 (-1)))), (vv2, .inl (ww_g X 0, 80, .inl (fun _ => nI 0))), (q17, .inl (ww_g X 3, 4, .inr (.inr (.inr (.inr (fun _ => none)))))), (r35_3, .inr (0, [.null, .int 0, .null, .null, .null, .null, .null, .int 0]))]) rfl ?_
  refine ww_dup O dd_DE_init_38 rfl ?_
  refine ww_aload_n O dd_DE_init_39 0 rfl ?_
  refine ww_get O ci_DE rfl 0 (by decide) lf_DE_10 rfl dd_DE_init_40 0 rfl rfl ?_
  refine ww_iload_n O dd_DE_init_43 1 rfl ?_
  refine ww_bipush O dd_DE_init_44 (v := nI 60) rfl ?_
  refine ww_imul O dd_DE_init_46 (v := nI (60 * 0)) rfl ?_
  refine wi_call (C := []) O hao [(x, .inr (2, [.ref r5_1, .ref q17])), (r5_1, .inr (1, [.ref vo2, .ref vv2])), (vo2, .inl (ww_g X 0, 80, .inl (px_fill (fun _ => nI 0) 0 80 (-1)))), (vv2, .inl (ww_g X 0, 80, .inl (fun _ => nI 0))), (q17, .inl (ww_g X 3, 4, .inr (.inr (.inr (.inr (fun _ => none))))))] (ck_BF _ _ _ r35_3 r5_1 (60 * 0)) lc_DE_22 lm_BF rfl (by rw [hR]; decide) (by rw [hR]; decide) (by rw [hR]; decide) rfl (Nat.le_of_ble_eq_true rfl) dd_DE_init_47 rfl ?_
  intro w1 hw1
  obtain ⟨ap4, aw4, ag4, av4, an4, rfl⟩ := hw1
  refine ww_eqw (ws' := [(x, .inr (2, [.ref r5_1, .ref q17])), (r5_1, .inr (1, [.ref vo2, .ref vv2])), (vo2, .inl (ww_g X 0, 80, .inl (px_fill (fun _ => nI 0) 0 80 (-1)))), (vv2, .inl (ww_g X 0, 80, .inl (fun _ => nI 0))), (q17, .inl (ww_g X 3, 4, .inr (.inr (.inr (.inr (fun _ => none)))))), (r35_3, .inr (0, [.ref r5_1, .int (nI (60 * 0)), .ref ap4, .ref aw4, .ref ag4, .ref av4, .ref an4, .int (nI 0)])), (ap4, .inl (ww_g X 0, 60, .inl (px_fill (fun _ => nI 0) 0 60 (-1)))), (aw4, .inl (ww_g X 1, 60, .inl (fun _ => nI 0))), (ag4, .inl (ww_g X 1, 60, .inl (fun _ => nI 0))), (av4, .inl (ww_g X 0, 60, .inl (fun _ => nI 0))), (an4, .inl (ww_g X 1, 60, .inl (fun _ => nI 0)))]) rfl ?_
  refine ww_aast O dd_DE_init_50 4 5 rfl rfl (by decide) (by decide) (ws' := [(x, .inr (2, [.ref r5_1, .ref q17])), (r5_1, .inr (1, [.ref vo2, .ref vv2])), (vo2, .inl (ww_g X 0, 80, .inl (px_fill (fun _ => nI 0) 0 80 (-1)))), (vv2, .inl (ww_g X 0, 80, .inl (fun _ => nI 0))), (q17, .inl (ww_g X 3, 4, .inr (.inr (.inr (.inr (va_up (fun _ => none) 0 (some r35_3))))))), (r35_3, .inr (0, [.ref r5_1, .int (nI (60 * 0)), .ref ap4, .ref aw4, .ref ag4, .ref av4, .ref an4, .int (nI 0)])), (ap4, .inl (ww_g X 0, 60, .inl (px_fill (fun _ => nI 0) 0 60 (-1)))), (aw4, .inl (ww_g X 1, 60, .inl (fun _ => nI 0))), (ag4, .inl (ww_g X 1, 60, .inl (fun _ => nI 0))), (av4, .inl (ww_g X 0, 60, .inl (fun _ => nI 0))), (an4, .inl (ww_g X 1, 60, .inl (fun _ => nI 0)))]) rfl ?_
  refine ww_iinc O dd_DE_init_51 1 rfl (v := nI 1) rfl (by rw [hn]; decide) rfl (L' := [(0, .ref x), (1, .int (nI 1))]) rfl ?_
  refine ww_goto O dd_DE_init_54 (tgt := 25) rfl ?_
  refine ww_iload_n O dd_DE_init_25 1 rfl ?_
  refine ww_iconst O dd_DE_init_26 (v := nI 4) rfl ?_
  refine ww_icmp_geN O dd_DE_init_27 (tgt := 57) rfl (by decide) (by decide) (fun h27 => ?_) (fun h27 => ?_)
  · exfalso; omega
  refine ww_aload_n O dd_DE_init_30 0 rfl ?_
  refine ww_get O ci_DE rfl 1 (by decide) lf_DE_18 rfl dd_DE_init_31 0 rfl rfl ?_
  refine ww_iload_n O dd_DE_init_34 1 rfl ?_
  refine ww_new O (ci := 0) (fs := [.null, .int 0, .null, .null, .null, .null, .null, .int 0]) ci_BF cy_BF cy_BF_ok ln_BF.1 ln_BF.2.1 ln_BF.2.2 rfl (fun j hj => by rcases (show j = 0 ∨ j = 1 ∨ j = 2 ∨ j = 3 ∨ j = 4 ∨ j = 5 ∨ j = 6 ∨ j = 7 by omega) with rfl | rfl | rfl | rfl | rfl | rfl | rfl | rfl <;> rfl) (by rw [hR]; decide) (by rw [hR]; decide) dd_DE_init_35 (fun r35_5 => ?_)
  refine ww_eqw (ws' := [(x, .inr (2, [.ref r5_1, .ref q17])), (r5_1, .inr (1, [.ref vo2, .ref vv2])), (vo2, .inl (ww_g X 0, 80, .inl (px_fill (fun _ => nI 0) 0 80 (-1)))), (vv2, .inl (ww_g X 0, 80, .inl (fun _ => nI 0))), (q17, .inl (ww_g X 3, 4, .inr (.inr (.inr (.inr (va_up (fun _ => none) 0 (some r35_3))))))), (r35_3, .inr (0, [.ref r5_1, .int (nI (60 * 0)), .ref ap4, .ref aw4, .ref ag4, .ref av4, .ref an4, .int (nI 0)])), (ap4, .inl (ww_g X 0, 60, .inl (px_fill (fun _ => nI 0) 0 60 (-1)))), (aw4, .inl (ww_g X 1, 60, .inl (fun _ => nI 0))), (ag4, .inl (ww_g X 1, 60, .inl (fun _ => nI 0))), (av4, .inl (ww_g X 0, 60, .inl (fun _ => nI 0))), (an4, .inl (ww_g X 1, 60, .inl (fun _ => nI 0))), (r35_5, .inr (0, [.null, .int 0, .null, .null, .null, .null, .null, .int 0]))]) rfl ?_
  refine ww_dup O dd_DE_init_38 rfl ?_
  refine ww_aload_n O dd_DE_init_39 0 rfl ?_
  refine ww_get O ci_DE rfl 0 (by decide) lf_DE_10 rfl dd_DE_init_40 0 rfl rfl ?_
  refine ww_iload_n O dd_DE_init_43 1 rfl ?_
  refine ww_bipush O dd_DE_init_44 (v := nI 60) rfl ?_
  refine ww_imul O dd_DE_init_46 (v := nI (60 * 1)) rfl ?_
  refine wi_call (C := []) O hao [(x, .inr (2, [.ref r5_1, .ref q17])), (r5_1, .inr (1, [.ref vo2, .ref vv2])), (vo2, .inl (ww_g X 0, 80, .inl (px_fill (fun _ => nI 0) 0 80 (-1)))), (vv2, .inl (ww_g X 0, 80, .inl (fun _ => nI 0))), (q17, .inl (ww_g X 3, 4, .inr (.inr (.inr (.inr (va_up (fun _ => none) 0 (some r35_3))))))), (r35_3, .inr (0, [.ref r5_1, .int (nI (60 * 0)), .ref ap4, .ref aw4, .ref ag4, .ref av4, .ref an4, .int (nI 0)])), (ap4, .inl (ww_g X 0, 60, .inl (px_fill (fun _ => nI 0) 0 60 (-1)))), (aw4, .inl (ww_g X 1, 60, .inl (fun _ => nI 0))), (ag4, .inl (ww_g X 1, 60, .inl (fun _ => nI 0))), (av4, .inl (ww_g X 0, 60, .inl (fun _ => nI 0))), (an4, .inl (ww_g X 1, 60, .inl (fun _ => nI 0)))] (ck_BF _ _ _ r35_5 r5_1 (60 * 1)) lc_DE_22 lm_BF rfl (by rw [hR]; decide) (by rw [hR]; decide) (by rw [hR]; decide) rfl (Nat.le_of_ble_eq_true rfl) dd_DE_init_47 rfl ?_
  intro w1 hw1
  obtain ⟨ap6, aw6, ag6, av6, an6, rfl⟩ := hw1
  refine ww_eqw (ws' := [(x, .inr (2, [.ref r5_1, .ref q17])), (r5_1, .inr (1, [.ref vo2, .ref vv2])), (vo2, .inl (ww_g X 0, 80, .inl (px_fill (fun _ => nI 0) 0 80 (-1)))), (vv2, .inl (ww_g X 0, 80, .inl (fun _ => nI 0))), (q17, .inl (ww_g X 3, 4, .inr (.inr (.inr (.inr (va_up (fun _ => none) 0 (some r35_3))))))), (r35_3, .inr (0, [.ref r5_1, .int (nI (60 * 0)), .ref ap4, .ref aw4, .ref ag4, .ref av4, .ref an4, .int (nI 0)])), (ap4, .inl (ww_g X 0, 60, .inl (px_fill (fun _ => nI 0) 0 60 (-1)))), (aw4, .inl (ww_g X 1, 60, .inl (fun _ => nI 0))), (ag4, .inl (ww_g X 1, 60, .inl (fun _ => nI 0))), (av4, .inl (ww_g X 0, 60, .inl (fun _ => nI 0))), (an4, .inl (ww_g X 1, 60, .inl (fun _ => nI 0))), (r35_5, .inr (0, [.ref r5_1, .int (nI (60 * 1)), .ref ap6, .ref aw6, .ref ag6, .ref av6, .ref an6, .int (nI 0)])), (ap6, .inl (ww_g X 0, 60, .inl (px_fill (fun _ => nI 0) 0 60 (-1)))), (aw6, .inl (ww_g X 1, 60, .inl (fun _ => nI 0))), (ag6, .inl (ww_g X 1, 60, .inl (fun _ => nI 0))), (av6, .inl (ww_g X 0, 60, .inl (fun _ => nI 0))), (an6, .inl (ww_g X 1, 60, .inl (fun _ => nI 0)))]) rfl ?_
  refine ww_aast O dd_DE_init_50 4 11 rfl rfl (by decide) (by decide) (ws' := [(x, .inr (2, [.ref r5_1, .ref q17])), (r5_1, .inr (1, [.ref vo2, .ref vv2])), (vo2, .inl (ww_g X 0, 80, .inl (px_fill (fun _ => nI 0) 0 80 (-1)))), (vv2, .inl (ww_g X 0, 80, .inl (fun _ => nI 0))), (q17, .inl (ww_g X 3, 4, .inr (.inr (.inr (.inr (va_up (va_up (fun _ => none) 0 (some r35_3)) 1 (some r35_5))))))), (r35_3, .inr (0, [.ref r5_1, .int (nI (60 * 0)), .ref ap4, .ref aw4, .ref ag4, .ref av4, .ref an4, .int (nI 0)])), (ap4, .inl (ww_g X 0, 60, .inl (px_fill (fun _ => nI 0) 0 60 (-1)))), (aw4, .inl (ww_g X 1, 60, .inl (fun _ => nI 0))), (ag4, .inl (ww_g X 1, 60, .inl (fun _ => nI 0))), (av4, .inl (ww_g X 0, 60, .inl (fun _ => nI 0))), (an4, .inl (ww_g X 1, 60, .inl (fun _ => nI 0))), (r35_5, .inr (0, [.ref r5_1, .int (nI (60 * 1)), .ref ap6, .ref aw6, .ref ag6, .ref av6, .ref an6, .int (nI 0)])), (ap6, .inl (ww_g X 0, 60, .inl (px_fill (fun _ => nI 0) 0 60 (-1)))), (aw6, .inl (ww_g X 1, 60, .inl (fun _ => nI 0))), (ag6, .inl (ww_g X 1, 60, .inl (fun _ => nI 0))), (av6, .inl (ww_g X 0, 60, .inl (fun _ => nI 0))), (an6, .inl (ww_g X 1, 60, .inl (fun _ => nI 0)))]) rfl ?_
  refine ww_iinc O dd_DE_init_51 1 rfl (v := nI 2) rfl (by rw [hn]; decide) rfl (L' := [(0, .ref x), (1, .int (nI 2))]) rfl ?_
  refine ww_goto O dd_DE_init_54 (tgt := 25) rfl ?_
  refine ww_iload_n O dd_DE_init_25 1 rfl ?_
  refine ww_iconst O dd_DE_init_26 (v := nI 4) rfl ?_
  refine ww_icmp_geN O dd_DE_init_27 (tgt := 57) rfl (by decide) (by decide) (fun h27 => ?_) (fun h27 => ?_)
  · exfalso; omega
  refine ww_aload_n O dd_DE_init_30 0 rfl ?_
  refine ww_get O ci_DE rfl 1 (by decide) lf_DE_18 rfl dd_DE_init_31 0 rfl rfl ?_
  refine ww_iload_n O dd_DE_init_34 1 rfl ?_
  refine ww_new O (ci := 0) (fs := [.null, .int 0, .null, .null, .null, .null, .null, .int 0]) ci_BF cy_BF cy_BF_ok ln_BF.1 ln_BF.2.1 ln_BF.2.2 rfl (fun j hj => by rcases (show j = 0 ∨ j = 1 ∨ j = 2 ∨ j = 3 ∨ j = 4 ∨ j = 5 ∨ j = 6 ∨ j = 7 by omega) with rfl | rfl | rfl | rfl | rfl | rfl | rfl | rfl <;> rfl) (by rw [hR]; decide) (by rw [hR]; decide) dd_DE_init_35 (fun r35_7 => ?_)
  refine ww_eqw (ws' := [(x, .inr (2, [.ref r5_1, .ref q17])), (r5_1, .inr (1, [.ref vo2, .ref vv2])), (vo2, .inl (ww_g X 0, 80, .inl (px_fill (fun _ => nI 0) 0 80 (-1)))), (vv2, .inl (ww_g X 0, 80, .inl (fun _ => nI 0))), (q17, .inl (ww_g X 3, 4, .inr (.inr (.inr (.inr (va_up (va_up (fun _ => none) 0 (some r35_3)) 1 (some r35_5))))))), (r35_3, .inr (0, [.ref r5_1, .int (nI (60 * 0)), .ref ap4, .ref aw4, .ref ag4, .ref av4, .ref an4, .int (nI 0)])), (ap4, .inl (ww_g X 0, 60, .inl (px_fill (fun _ => nI 0) 0 60 (-1)))), (aw4, .inl (ww_g X 1, 60, .inl (fun _ => nI 0))), (ag4, .inl (ww_g X 1, 60, .inl (fun _ => nI 0))), (av4, .inl (ww_g X 0, 60, .inl (fun _ => nI 0))), (an4, .inl (ww_g X 1, 60, .inl (fun _ => nI 0))), (r35_5, .inr (0, [.ref r5_1, .int (nI (60 * 1)), .ref ap6, .ref aw6, .ref ag6, .ref av6, .ref an6, .int (nI 0)])), (ap6, .inl (ww_g X 0, 60, .inl (px_fill (fun _ => nI 0) 0 60 (-1)))), (aw6, .inl (ww_g X 1, 60, .inl (fun _ => nI 0))), (ag6, .inl (ww_g X 1, 60, .inl (fun _ => nI 0))), (av6, .inl (ww_g X 0, 60, .inl (fun _ => nI 0))), (an6, .inl (ww_g X 1, 60, .inl (fun _ => nI 0))), (r35_7, .inr (0, [.null, .int 0, .null, .null, .null, .null, .null, .int 0]))]) rfl ?_
  refine ww_dup O dd_DE_init_38 rfl ?_
  refine ww_aload_n O dd_DE_init_39 0 rfl ?_
  refine ww_get O ci_DE rfl 0 (by decide) lf_DE_10 rfl dd_DE_init_40 0 rfl rfl ?_
  refine ww_iload_n O dd_DE_init_43 1 rfl ?_
  refine ww_bipush O dd_DE_init_44 (v := nI 60) rfl ?_
  refine ww_imul O dd_DE_init_46 (v := nI (60 * 2)) rfl ?_
  refine wi_call (C := []) O hao [(x, .inr (2, [.ref r5_1, .ref q17])), (r5_1, .inr (1, [.ref vo2, .ref vv2])), (vo2, .inl (ww_g X 0, 80, .inl (px_fill (fun _ => nI 0) 0 80 (-1)))), (vv2, .inl (ww_g X 0, 80, .inl (fun _ => nI 0))), (q17, .inl (ww_g X 3, 4, .inr (.inr (.inr (.inr (va_up (va_up (fun _ => none) 0 (some r35_3)) 1 (some r35_5))))))), (r35_3, .inr (0, [.ref r5_1, .int (nI (60 * 0)), .ref ap4, .ref aw4, .ref ag4, .ref av4, .ref an4, .int (nI 0)])), (ap4, .inl (ww_g X 0, 60, .inl (px_fill (fun _ => nI 0) 0 60 (-1)))), (aw4, .inl (ww_g X 1, 60, .inl (fun _ => nI 0))), (ag4, .inl (ww_g X 1, 60, .inl (fun _ => nI 0))), (av4, .inl (ww_g X 0, 60, .inl (fun _ => nI 0))), (an4, .inl (ww_g X 1, 60, .inl (fun _ => nI 0))), (r35_5, .inr (0, [.ref r5_1, .int (nI (60 * 1)), .ref ap6, .ref aw6, .ref ag6, .ref av6, .ref an6, .int (nI 0)])), (ap6, .inl (ww_g X 0, 60, .inl (px_fill (fun _ => nI 0) 0 60 (-1)))), (aw6, .inl (ww_g X 1, 60, .inl (fun _ => nI 0))), (ag6, .inl (ww_g X 1, 60, .inl (fun _ => nI 0))), (av6, .inl (ww_g X 0, 60, .inl (fun _ => nI 0))), (an6, .inl (ww_g X 1, 60, .inl (fun _ => nI 0)))] (ck_BF _ _ _ r35_7 r5_1 (60 * 2)) lc_DE_22 lm_BF rfl (by rw [hR]; decide) (by rw [hR]; decide) (by rw [hR]; decide) rfl (Nat.le_of_ble_eq_true rfl) dd_DE_init_47 rfl ?_
  intro w1 hw1
  obtain ⟨ap8, aw8, ag8, av8, an8, rfl⟩ := hw1
  refine ww_eqw (ws' := [(x, .inr (2, [.ref r5_1, .ref q17])), (r5_1, .inr (1, [.ref vo2, .ref vv2])), (vo2, .inl (ww_g X 0, 80, .inl (px_fill (fun _ => nI 0) 0 80 (-1)))), (vv2, .inl (ww_g X 0, 80, .inl (fun _ => nI 0))), (q17, .inl (ww_g X 3, 4, .inr (.inr (.inr (.inr (va_up (va_up (fun _ => none) 0 (some r35_3)) 1 (some r35_5))))))), (r35_3, .inr (0, [.ref r5_1, .int (nI (60 * 0)), .ref ap4, .ref aw4, .ref ag4, .ref av4, .ref an4, .int (nI 0)])), (ap4, .inl (ww_g X 0, 60, .inl (px_fill (fun _ => nI 0) 0 60 (-1)))), (aw4, .inl (ww_g X 1, 60, .inl (fun _ => nI 0))), (ag4, .inl (ww_g X 1, 60, .inl (fun _ => nI 0))), (av4, .inl (ww_g X 0, 60, .inl (fun _ => nI 0))), (an4, .inl (ww_g X 1, 60, .inl (fun _ => nI 0))), (r35_5, .inr (0, [.ref r5_1, .int (nI (60 * 1)), .ref ap6, .ref aw6, .ref ag6, .ref av6, .ref an6, .int (nI 0)])), (ap6, .inl (ww_g X 0, 60, .inl (px_fill (fun _ => nI 0) 0 60 (-1)))), (aw6, .inl (ww_g X 1, 60, .inl (fun _ => nI 0))), (ag6, .inl (ww_g X 1, 60, .inl (fun _ => nI 0))), (av6, .inl (ww_g X 0, 60, .inl (fun _ => nI 0))), (an6, .inl (ww_g X 1, 60, .inl (fun _ => nI 0))), (r35_7, .inr (0, [.ref r5_1, .int (nI (60 * 2)), .ref ap8, .ref aw8, .ref ag8, .ref av8, .ref an8, .int (nI 0)])), (ap8, .inl (ww_g X 0, 60, .inl (px_fill (fun _ => nI 0) 0 60 (-1)))), (aw8, .inl (ww_g X 1, 60, .inl (fun _ => nI 0))), (ag8, .inl (ww_g X 1, 60, .inl (fun _ => nI 0))), (av8, .inl (ww_g X 0, 60, .inl (fun _ => nI 0))), (an8, .inl (ww_g X 1, 60, .inl (fun _ => nI 0)))]) rfl ?_
  refine ww_aast O dd_DE_init_50 4 17 rfl rfl (by decide) (by decide) (ws' := [(x, .inr (2, [.ref r5_1, .ref q17])), (r5_1, .inr (1, [.ref vo2, .ref vv2])), (vo2, .inl (ww_g X 0, 80, .inl (px_fill (fun _ => nI 0) 0 80 (-1)))), (vv2, .inl (ww_g X 0, 80, .inl (fun _ => nI 0))), (q17, .inl (ww_g X 3, 4, .inr (.inr (.inr (.inr (va_up (va_up (va_up (fun _ => none) 0 (some r35_3)) 1 (some r35_5)) 2 (some r35_7))))))), (r35_3, .inr (0, [.ref r5_1, .int (nI (60 * 0)), .ref ap4, .ref aw4, .ref ag4, .ref av4, .ref an4, .int (nI 0)])), (ap4, .inl (ww_g X 0, 60, .inl (px_fill (fun _ => nI 0) 0 60 (-1)))), (aw4, .inl (ww_g X 1, 60, .inl (fun _ => nI 0))), (ag4, .inl (ww_g X 1, 60, .inl (fun _ => nI 0))), (av4, .inl (ww_g X 0, 60, .inl (fun _ => nI 0))), (an4, .inl (ww_g X 1, 60, .inl (fun _ => nI 0))), (r35_5, .inr (0, [.ref r5_1, .int (nI (60 * 1)), .ref ap6, .ref aw6, .ref ag6, .ref av6, .ref an6, .int (nI 0)])), (ap6, .inl (ww_g X 0, 60, .inl (px_fill (fun _ => nI 0) 0 60 (-1)))), (aw6, .inl (ww_g X 1, 60, .inl (fun _ => nI 0))), (ag6, .inl (ww_g X 1, 60, .inl (fun _ => nI 0))), (av6, .inl (ww_g X 0, 60, .inl (fun _ => nI 0))), (an6, .inl (ww_g X 1, 60, .inl (fun _ => nI 0))), (r35_7, .inr (0, [.ref r5_1, .int (nI (60 * 2)), .ref ap8, .ref aw8, .ref ag8, .ref av8, .ref an8, .int (nI 0)])), (ap8, .inl (ww_g X 0, 60, .inl (px_fill (fun _ => nI 0) 0 60 (-1)))), (aw8, .inl (ww_g X 1, 60, .inl (fun _ => nI 0))), (ag8, .inl (ww_g X 1, 60, .inl (fun _ => nI 0))), (av8, .inl (ww_g X 0, 60, .inl (fun _ => nI 0))), (an8, .inl (ww_g X 1, 60, .inl (fun _ => nI 0)))]) rfl ?_
  refine ww_iinc O dd_DE_init_51 1 rfl (v := nI 3) rfl (by rw [hn]; decide) rfl (L' := [(0, .ref x), (1, .int (nI 3))]) rfl ?_
  refine ww_goto O dd_DE_init_54 (tgt := 25) rfl ?_
  refine ww_iload_n O dd_DE_init_25 1 rfl ?_
  refine ww_iconst O dd_DE_init_26 (v := nI 4) rfl ?_
  refine ww_icmp_geN O dd_DE_init_27 (tgt := 57) rfl (by decide) (by decide) (fun h27 => ?_) (fun h27 => ?_)
  · exfalso; omega
  refine ww_aload_n O dd_DE_init_30 0 rfl ?_
  refine ww_get O ci_DE rfl 1 (by decide) lf_DE_18 rfl dd_DE_init_31 0 rfl rfl ?_
  refine ww_iload_n O dd_DE_init_34 1 rfl ?_
  refine ww_new O (ci := 0) (fs := [.null, .int 0, .null, .null, .null, .null, .null, .int 0]) ci_BF cy_BF cy_BF_ok ln_BF.1 ln_BF.2.1 ln_BF.2.2 rfl (fun j hj => by rcases (show j = 0 ∨ j = 1 ∨ j = 2 ∨ j = 3 ∨ j = 4 ∨ j = 5 ∨ j = 6 ∨ j = 7 by omega) with rfl | rfl | rfl | rfl | rfl | rfl | rfl | rfl <;> rfl) (by rw [hR]; decide) (by rw [hR]; decide) dd_DE_init_35 (fun r35_9 => ?_)
  refine ww_eqw (ws' := [(x, .inr (2, [.ref r5_1, .ref q17])), (r5_1, .inr (1, [.ref vo2, .ref vv2])), (vo2, .inl (ww_g X 0, 80, .inl (px_fill (fun _ => nI 0) 0 80 (-1)))), (vv2, .inl (ww_g X 0, 80, .inl (fun _ => nI 0))), (q17, .inl (ww_g X 3, 4, .inr (.inr (.inr (.inr (va_up (va_up (va_up (fun _ => none) 0 (some r35_3)) 1 (some r35_5)) 2 (some r35_7))))))), (r35_3, .inr (0, [.ref r5_1, .int (nI (60 * 0)), .ref ap4, .ref aw4, .ref ag4, .ref av4, .ref an4, .int (nI 0)])), (ap4, .inl (ww_g X 0, 60, .inl (px_fill (fun _ => nI 0) 0 60 (-1)))), (aw4, .inl (ww_g X 1, 60, .inl (fun _ => nI 0))), (ag4, .inl (ww_g X 1, 60, .inl (fun _ => nI 0))), (av4, .inl (ww_g X 0, 60, .inl (fun _ => nI 0))), (an4, .inl (ww_g X 1, 60, .inl (fun _ => nI 0))), (r35_5, .inr (0, [.ref r5_1, .int (nI (60 * 1)), .ref ap6, .ref aw6, .ref ag6, .ref av6, .ref an6, .int (nI 0)])), (ap6, .inl (ww_g X 0, 60, .inl (px_fill (fun _ => nI 0) 0 60 (-1)))), (aw6, .inl (ww_g X 1, 60, .inl (fun _ => nI 0))), (ag6, .inl (ww_g X 1, 60, .inl (fun _ => nI 0))), (av6, .inl (ww_g X 0, 60, .inl (fun _ => nI 0))), (an6, .inl (ww_g X 1, 60, .inl (fun _ => nI 0))), (r35_7, .inr (0, [.ref r5_1, .int (nI (60 * 2)), .ref ap8, .ref aw8, .ref ag8, .ref av8, .ref an8, .int (nI 0)])), (ap8, .inl (ww_g X 0, 60, .inl (px_fill (fun _ => nI 0) 0 60 (-1)))), (aw8, .inl (ww_g X 1, 60, .inl (fun _ => nI 0))), (ag8, .inl (ww_g X 1, 60, .inl (fun _ => nI 0))), (av8, .inl (ww_g X 0, 60, .inl (fun _ => nI 0))), (an8, .inl (ww_g X 1, 60, .inl (fun _ => nI 0))), (r35_9, .inr (0, [.null, .int 0, .null, .null, .null, .null, .null, .int 0]))]) rfl ?_
  refine ww_dup O dd_DE_init_38 rfl ?_
  refine ww_aload_n O dd_DE_init_39 0 rfl ?_
  refine ww_get O ci_DE rfl 0 (by decide) lf_DE_10 rfl dd_DE_init_40 0 rfl rfl ?_
  refine ww_iload_n O dd_DE_init_43 1 rfl ?_
  refine ww_bipush O dd_DE_init_44 (v := nI 60) rfl ?_
  refine ww_imul O dd_DE_init_46 (v := nI (60 * 3)) rfl ?_
  refine wi_call (C := []) O hao [(x, .inr (2, [.ref r5_1, .ref q17])), (r5_1, .inr (1, [.ref vo2, .ref vv2])), (vo2, .inl (ww_g X 0, 80, .inl (px_fill (fun _ => nI 0) 0 80 (-1)))), (vv2, .inl (ww_g X 0, 80, .inl (fun _ => nI 0))), (q17, .inl (ww_g X 3, 4, .inr (.inr (.inr (.inr (va_up (va_up (va_up (fun _ => none) 0 (some r35_3)) 1 (some r35_5)) 2 (some r35_7))))))), (r35_3, .inr (0, [.ref r5_1, .int (nI (60 * 0)), .ref ap4, .ref aw4, .ref ag4, .ref av4, .ref an4, .int (nI 0)])), (ap4, .inl (ww_g X 0, 60, .inl (px_fill (fun _ => nI 0) 0 60 (-1)))), (aw4, .inl (ww_g X 1, 60, .inl (fun _ => nI 0))), (ag4, .inl (ww_g X 1, 60, .inl (fun _ => nI 0))), (av4, .inl (ww_g X 0, 60, .inl (fun _ => nI 0))), (an4, .inl (ww_g X 1, 60, .inl (fun _ => nI 0))), (r35_5, .inr (0, [.ref r5_1, .int (nI (60 * 1)), .ref ap6, .ref aw6, .ref ag6, .ref av6, .ref an6, .int (nI 0)])), (ap6, .inl (ww_g X 0, 60, .inl (px_fill (fun _ => nI 0) 0 60 (-1)))), (aw6, .inl (ww_g X 1, 60, .inl (fun _ => nI 0))), (ag6, .inl (ww_g X 1, 60, .inl (fun _ => nI 0))), (av6, .inl (ww_g X 0, 60, .inl (fun _ => nI 0))), (an6, .inl (ww_g X 1, 60, .inl (fun _ => nI 0))), (r35_7, .inr (0, [.ref r5_1, .int (nI (60 * 2)), .ref ap8, .ref aw8, .ref ag8, .ref av8, .ref an8, .int (nI 0)])), (ap8, .inl (ww_g X 0, 60, .inl (px_fill (fun _ => nI 0) 0 60 (-1)))), (aw8, .inl (ww_g X 1, 60, .inl (fun _ => nI 0))), (ag8, .inl (ww_g X 1, 60, .inl (fun _ => nI 0))), (av8, .inl (ww_g X 0, 60, .inl (fun _ => nI 0))), (an8, .inl (ww_g X 1, 60, .inl (fun _ => nI 0)))] (ck_BF _ _ _ r35_9 r5_1 (60 * 3)) lc_DE_22 lm_BF rfl (by rw [hR]; decide) (by rw [hR]; decide) (by rw [hR]; decide) rfl (Nat.le_of_ble_eq_true rfl) dd_DE_init_47 rfl ?_
  intro w1 hw1
  obtain ⟨ap10, aw10, ag10, av10, an10, rfl⟩ := hw1
  refine ww_eqw (ws' := [(x, .inr (2, [.ref r5_1, .ref q17])), (r5_1, .inr (1, [.ref vo2, .ref vv2])), (vo2, .inl (ww_g X 0, 80, .inl (px_fill (fun _ => nI 0) 0 80 (-1)))), (vv2, .inl (ww_g X 0, 80, .inl (fun _ => nI 0))), (q17, .inl (ww_g X 3, 4, .inr (.inr (.inr (.inr (va_up (va_up (va_up (fun _ => none) 0 (some r35_3)) 1 (some r35_5)) 2 (some r35_7))))))), (r35_3, .inr (0, [.ref r5_1, .int (nI (60 * 0)), .ref ap4, .ref aw4, .ref ag4, .ref av4, .ref an4, .int (nI 0)])), (ap4, .inl (ww_g X 0, 60, .inl (px_fill (fun _ => nI 0) 0 60 (-1)))), (aw4, .inl (ww_g X 1, 60, .inl (fun _ => nI 0))), (ag4, .inl (ww_g X 1, 60, .inl (fun _ => nI 0))), (av4, .inl (ww_g X 0, 60, .inl (fun _ => nI 0))), (an4, .inl (ww_g X 1, 60, .inl (fun _ => nI 0))), (r35_5, .inr (0, [.ref r5_1, .int (nI (60 * 1)), .ref ap6, .ref aw6, .ref ag6, .ref av6, .ref an6, .int (nI 0)])), (ap6, .inl (ww_g X 0, 60, .inl (px_fill (fun _ => nI 0) 0 60 (-1)))), (aw6, .inl (ww_g X 1, 60, .inl (fun _ => nI 0))), (ag6, .inl (ww_g X 1, 60, .inl (fun _ => nI 0))), (av6, .inl (ww_g X 0, 60, .inl (fun _ => nI 0))), (an6, .inl (ww_g X 1, 60, .inl (fun _ => nI 0))), (r35_7, .inr (0, [.ref r5_1, .int (nI (60 * 2)), .ref ap8, .ref aw8, .ref ag8, .ref av8, .ref an8, .int (nI 0)])), (ap8, .inl (ww_g X 0, 60, .inl (px_fill (fun _ => nI 0) 0 60 (-1)))), (aw8, .inl (ww_g X 1, 60, .inl (fun _ => nI 0))), (ag8, .inl (ww_g X 1, 60, .inl (fun _ => nI 0))), (av8, .inl (ww_g X 0, 60, .inl (fun _ => nI 0))), (an8, .inl (ww_g X 1, 60, .inl (fun _ => nI 0))), (r35_9, .inr (0, [.ref r5_1, .int (nI (60 * 3)), .ref ap10, .ref aw10, .ref ag10, .ref av10, .ref an10, .int (nI 0)])), (ap10, .inl (ww_g X 0, 60, .inl (px_fill (fun _ => nI 0) 0 60 (-1)))), (aw10, .inl (ww_g X 1, 60, .inl (fun _ => nI 0))), (ag10, .inl (ww_g X 1, 60, .inl (fun _ => nI 0))), (av10, .inl (ww_g X 0, 60, .inl (fun _ => nI 0))), (an10, .inl (ww_g X 1, 60, .inl (fun _ => nI 0)))]) rfl ?_
  refine ww_aast O dd_DE_init_50 4 23 rfl rfl (by decide) (by decide) (ws' := [(x, .inr (2, [.ref r5_1, .ref q17])), (r5_1, .inr (1, [.ref vo2, .ref vv2])), (vo2, .inl (ww_g X 0, 80, .inl (px_fill (fun _ => nI 0) 0 80 (-1)))), (vv2, .inl (ww_g X 0, 80, .inl (fun _ => nI 0))), (q17, .inl (ww_g X 3, 4, .inr (.inr (.inr (.inr (va_up (va_up (va_up (va_up (fun _ => none) 0 (some r35_3)) 1 (some r35_5)) 2 (some r35_7)) 3 (some r35_9))))))), (r35_3, .inr (0, [.ref r5_1, .int (nI (60 * 0)), .ref ap4, .ref aw4, .ref ag4, .ref av4, .ref an4, .int (nI 0)])), (ap4, .inl (ww_g X 0, 60, .inl (px_fill (fun _ => nI 0) 0 60 (-1)))), (aw4, .inl (ww_g X 1, 60, .inl (fun _ => nI 0))), (ag4, .inl (ww_g X 1, 60, .inl (fun _ => nI 0))), (av4, .inl (ww_g X 0, 60, .inl (fun _ => nI 0))), (an4, .inl (ww_g X 1, 60, .inl (fun _ => nI 0))), (r35_5, .inr (0, [.ref r5_1, .int (nI (60 * 1)), .ref ap6, .ref aw6, .ref ag6, .ref av6, .ref an6, .int (nI 0)])), (ap6, .inl (ww_g X 0, 60, .inl (px_fill (fun _ => nI 0) 0 60 (-1)))), (aw6, .inl (ww_g X 1, 60, .inl (fun _ => nI 0))), (ag6, .inl (ww_g X 1, 60, .inl (fun _ => nI 0))), (av6, .inl (ww_g X 0, 60, .inl (fun _ => nI 0))), (an6, .inl (ww_g X 1, 60, .inl (fun _ => nI 0))), (r35_7, .inr (0, [.ref r5_1, .int (nI (60 * 2)), .ref ap8, .ref aw8, .ref ag8, .ref av8, .ref an8, .int (nI 0)])), (ap8, .inl (ww_g X 0, 60, .inl (px_fill (fun _ => nI 0) 0 60 (-1)))), (aw8, .inl (ww_g X 1, 60, .inl (fun _ => nI 0))), (ag8, .inl (ww_g X 1, 60, .inl (fun _ => nI 0))), (av8, .inl (ww_g X 0, 60, .inl (fun _ => nI 0))), (an8, .inl (ww_g X 1, 60, .inl (fun _ => nI 0))), (r35_9, .inr (0, [.ref r5_1, .int (nI (60 * 3)), .ref ap10, .ref aw10, .ref ag10, .ref av10, .ref an10, .int (nI 0)])), (ap10, .inl (ww_g X 0, 60, .inl (px_fill (fun _ => nI 0) 0 60 (-1)))), (aw10, .inl (ww_g X 1, 60, .inl (fun _ => nI 0))), (ag10, .inl (ww_g X 1, 60, .inl (fun _ => nI 0))), (av10, .inl (ww_g X 0, 60, .inl (fun _ => nI 0))), (an10, .inl (ww_g X 1, 60, .inl (fun _ => nI 0)))]) rfl ?_
  refine ww_iinc O dd_DE_init_51 1 rfl (v := nI 4) rfl (by rw [hn]; decide) rfl (L' := [(0, .ref x), (1, .int (nI 4))]) rfl ?_
  refine ww_goto O dd_DE_init_54 (tgt := 25) rfl ?_
  refine ww_iload_n O dd_DE_init_25 1 rfl ?_
  refine ww_iconst O dd_DE_init_26 (v := nI 4) rfl ?_
  refine ww_icmp_geN O dd_DE_init_27 (tgt := 57) rfl (by decide) (by decide) (fun h27 => ?_) (fun h27 => ?_)
  rotate_left
  · exfalso; omega
  exact F _ _ _ ⟨(x, r5_1, q17, vo2, vv2, (fun j => match j with | 0 => (r35_3, ap4, aw4, ag4, av4, an4) | 1 => (r35_5, ap6, aw6, ag6, av6, an6) | 2 => (r35_7, ap8, aw8, ag8, av8, an8) | _ => (r35_9, ap10, aw10, ag10, av10, an10)), (va_up (va_up (va_up (va_up (fun _ => none) 0 (some r35_3)) 1 (some r35_5)) 2 (some r35_7)) 3 (some r35_9))), rfl, (fun j hj => by rcases (show j = 0 ∨ j = 1 ∨ j = 2 ∨ j = 3 by omega) with rfl | rfl | rfl | rfl <;> rfl), rfl⟩ dd_DE_init_57
set_option maxRecDepth 8000 in
theorem ck_MO (l : Launch) (D : va_G) (g : Nat → ClassId) (m : Nat) : wi_ct l D g yy_MO_init bb_MO_init 2 (wi_rm 2 8 1184) [.ref m] [(m, .inr (3, [.int 0, .null, .null, .null, .null, .null, .null, .null, .null, .int 0, .int 0]))] (fun w1 => ∃ a1 a2 a3 a4 a5 a6 a7 a8 : Nat, w1 = [(m, .inr (3, [.int 0, .ref a1, .ref a2, .ref a3, .ref a4, .ref a5, .ref a6, .ref a7, .ref a8, .int 0, .int 0])), (a1, .inl (g 0, 240, .inl (px_fill (fun _ => nI 0) 0 240 (-1)))), (a2, .inl (g 1, 240, .inl (fun _ => nI 0))), (a3, .inl (g 1, 240, .inl (fun _ => nI 0))), (a4, .inl (g 0, 240, .inl (fun _ => nI 0))), (a5, .inl (g 0, 4, .inl (fun _ => nI 0))), (a6, .inl (g 0, 80, .inl (px_fill (fun _ => nI 0) 0 80 (-1)))), (a7, .inl (g 0, 80, .inl (fun _ => nI 0))), (a8, .inl (g 0, 60, .inl (fun _ => nI 0)))]) := by
  refine wi_start (by decide +kernel) rfl (Nat.le_of_ble_eq_true rfl) (L0 := [(0, .ref m)]) rfl ?_
  intro X O hl hD hg hR hn hin hao F
  subst hl hD hg
  refine ww_aload_n O dd_MO_init_0 0 rfl ?_
  refine ww_obj O lo_MO lo_inst lo_code dd_MO_init_1 (by rw [hR]; decide) (by rw [hR]; exact Nat.le_of_ble_eq_true rfl) ?_
  refine ww_aload_n O dd_MO_init_4 0 rfl ?_
  refine ww_sipush O dd_MO_init_5 (v := nI 240) rfl ?_
  refine ww_newi O (by decide) la_int (by rw [hR]; decide) (by rw [hR]; decide) dd_MO_init_8 (fun q8 => ?_)
  refine ww_eqw (ws' := [(m, .inr (3, [.int 0, .null, .null, .null, .null, .null, .null, .null, .null, .int 0, .int 0])), (q8, .inl (ww_g X 0, 240, .inl (fun _ => nI 0)))]) rfl ?_
  refine ww_putF O hin ci_MO cy_MO cy_MO_ok cn_MO rfl 1 (by decide) lf_MO_7 rfl rfl rfl (ty := .array .int) (by decide +kernel) dd_MO_init_10 0 rfl rfl rfl (Nat.le_of_ble_eq_true rfl) (ws' := [(m, .inr (3, [.int 0, .ref q8, .null, .null, .null, .null, .null, .null, .null, .int 0, .int 0])), (q8, .inl (ww_g X 0, 240, .inl (fun _ => nI 0)))]) rfl ?_
  refine ww_aload_n O dd_MO_init_13 0 rfl ?_
  refine ww_sipush O dd_MO_init_14 (v := nI 240) rfl ?_
  refine ww_newz O (by decide) la_bool (by rw [hR]; decide) (by rw [hR]; decide) dd_MO_init_17 (fun q17 => ?_)
  refine ww_eqw (ws' := [(m, .inr (3, [.int 0, .ref q8, .null, .null, .null, .null, .null, .null, .null, .int 0, .int 0])), (q8, .inl (ww_g X 0, 240, .inl (fun _ => nI 0))), (q17, .inl (ww_g X 1, 240, .inl (fun _ => nI 0)))]) rfl ?_
  refine ww_putF O hin ci_MO cy_MO cy_MO_ok cn_MO rfl 2 (by decide) lf_MO_13 rfl rfl rfl (ty := .array .boolean) (by decide +kernel) dd_MO_init_19 0 rfl rfl rfl (Nat.le_of_ble_eq_true rfl) (ws' := [(m, .inr (3, [.int 0, .ref q8, .ref q17, .null, .null, .null, .null, .null, .null, .int 0, .int 0])), (q8, .inl (ww_g X 0, 240, .inl (fun _ => nI 0))), (q17, .inl (ww_g X 1, 240, .inl (fun _ => nI 0)))]) rfl ?_
  refine ww_aload_n O dd_MO_init_22 0 rfl ?_
  refine ww_sipush O dd_MO_init_23 (v := nI 240) rfl ?_
  refine ww_newz O (by decide) la_bool (by rw [hR]; decide) (by rw [hR]; decide) dd_MO_init_26 (fun q26 => ?_)
  refine ww_eqw (ws' := [(m, .inr (3, [.int 0, .ref q8, .ref q17, .null, .null, .null, .null, .null, .null, .int 0, .int 0])), (q8, .inl (ww_g X 0, 240, .inl (fun _ => nI 0))), (q17, .inl (ww_g X 1, 240, .inl (fun _ => nI 0))), (q26, .inl (ww_g X 1, 240, .inl (fun _ => nI 0)))]) rfl ?_
  refine ww_putF O hin ci_MO cy_MO cy_MO_ok cn_MO rfl 3 (by decide) lf_MO_17 rfl rfl rfl (ty := .array .boolean) (by decide +kernel) dd_MO_init_28 0 rfl rfl rfl (Nat.le_of_ble_eq_true rfl) (ws' := [(m, .inr (3, [.int 0, .ref q8, .ref q17, .ref q26, .null, .null, .null, .null, .null, .int 0, .int 0])), (q8, .inl (ww_g X 0, 240, .inl (fun _ => nI 0))), (q17, .inl (ww_g X 1, 240, .inl (fun _ => nI 0))), (q26, .inl (ww_g X 1, 240, .inl (fun _ => nI 0)))]) rfl ?_
  refine ww_aload_n O dd_MO_init_31 0 rfl ?_
  refine ww_sipush O dd_MO_init_32 (v := nI 240) rfl ?_
  refine ww_newi O (by decide) la_int (by rw [hR]; decide) (by rw [hR]; decide) dd_MO_init_35 (fun q35 => ?_)
  refine ww_eqw (ws' := [(m, .inr (3, [.int 0, .ref q8, .ref q17, .ref q26, .null, .null, .null, .null, .null, .int 0, .int 0])), (q8, .inl (ww_g X 0, 240, .inl (fun _ => nI 0))), (q17, .inl (ww_g X 1, 240, .inl (fun _ => nI 0))), (q26, .inl (ww_g X 1, 240, .inl (fun _ => nI 0))), (q35, .inl (ww_g X 0, 240, .inl (fun _ => nI 0)))]) rfl ?_
  refine ww_putF O hin ci_MO cy_MO cy_MO_ok cn_MO rfl 4 (by decide) lf_MO_20 rfl rfl rfl (ty := .array .int) (by decide +kernel) dd_MO_init_37 0 rfl rfl rfl (Nat.le_of_ble_eq_true rfl) (ws' := [(m, .inr (3, [.int 0, .ref q8, .ref q17, .ref q26, .ref q35, .null, .null, .null, .null, .int 0, .int 0])), (q8, .inl (ww_g X 0, 240, .inl (fun _ => nI 0))), (q17, .inl (ww_g X 1, 240, .inl (fun _ => nI 0))), (q26, .inl (ww_g X 1, 240, .inl (fun _ => nI 0))), (q35, .inl (ww_g X 0, 240, .inl (fun _ => nI 0)))]) rfl ?_
  refine ww_aload_n O dd_MO_init_40 0 rfl ?_
  refine ww_iconst O dd_MO_init_41 (v := nI 4) rfl ?_
  refine ww_newi O (by decide) la_int (by rw [hR]; decide) (by rw [hR]; decide) dd_MO_init_42 (fun q42 => ?_)
  refine ww_eqw (ws' := [(m, .inr (3, [.int 0, .ref q8, .ref q17, .ref q26, .ref q35, .null, .null, .null, .null, .int 0, .int 0])), (q8, .inl (ww_g X 0, 240, .inl (fun _ => nI 0))), (q17, .inl (ww_g X 1, 240, .inl (fun _ => nI 0))), (q26, .inl (ww_g X 1, 240, .inl (fun _ => nI 0))), (q35, .inl (ww_g X 0, 240, .inl (fun _ => nI 0))), (q42, .inl (ww_g X 0, 4, .inl (fun _ => nI 0)))]) rfl ?_
  refine ww_putF O hin ci_MO cy_MO cy_MO_ok cn_MO rfl 5 (by decide) lf_MO_23 rfl rfl rfl (ty := .array .int) (by decide +kernel) dd_MO_init_44 0 rfl rfl rfl (Nat.le_of_ble_eq_true rfl) (ws' := [(m, .inr (3, [.int 0, .ref q8, .ref q17, .ref q26, .ref q35, .ref q42, .null, .null, .null, .int 0, .int 0])), (q8, .inl (ww_g X 0, 240, .inl (fun _ => nI 0))), (q17, .inl (ww_g X 1, 240, .inl (fun _ => nI 0))), (q26, .inl (ww_g X 1, 240, .inl (fun _ => nI 0))), (q35, .inl (ww_g X 0, 240, .inl (fun _ => nI 0))), (q42, .inl (ww_g X 0, 4, .inl (fun _ => nI 0)))]) rfl ?_
  refine ww_aload_n O dd_MO_init_47 0 rfl ?_
  refine ww_bipush O dd_MO_init_48 (v := nI 80) rfl ?_
  refine ww_newi O (by decide) la_int (by rw [hR]; decide) (by rw [hR]; decide) dd_MO_init_50 (fun q50 => ?_)
  refine ww_eqw (ws' := [(m, .inr (3, [.int 0, .ref q8, .ref q17, .ref q26, .ref q35, .ref q42, .null, .null, .null, .int 0, .int 0])), (q8, .inl (ww_g X 0, 240, .inl (fun _ => nI 0))), (q17, .inl (ww_g X 1, 240, .inl (fun _ => nI 0))), (q26, .inl (ww_g X 1, 240, .inl (fun _ => nI 0))), (q35, .inl (ww_g X 0, 240, .inl (fun _ => nI 0))), (q42, .inl (ww_g X 0, 4, .inl (fun _ => nI 0))), (q50, .inl (ww_g X 0, 80, .inl (fun _ => nI 0)))]) rfl ?_
  refine ww_putF O hin ci_MO cy_MO cy_MO_ok cn_MO rfl 6 (by decide) lf_MO_26 rfl rfl rfl (ty := .array .int) (by decide +kernel) dd_MO_init_52 0 rfl rfl rfl (Nat.le_of_ble_eq_true rfl) (ws' := [(m, .inr (3, [.int 0, .ref q8, .ref q17, .ref q26, .ref q35, .ref q42, .ref q50, .null, .null, .int 0, .int 0])), (q8, .inl (ww_g X 0, 240, .inl (fun _ => nI 0))), (q17, .inl (ww_g X 1, 240, .inl (fun _ => nI 0))), (q26, .inl (ww_g X 1, 240, .inl (fun _ => nI 0))), (q35, .inl (ww_g X 0, 240, .inl (fun _ => nI 0))), (q42, .inl (ww_g X 0, 4, .inl (fun _ => nI 0))), (q50, .inl (ww_g X 0, 80, .inl (fun _ => nI 0)))]) rfl ?_
  refine ww_aload_n O dd_MO_init_55 0 rfl ?_
  refine ww_bipush O dd_MO_init_56 (v := nI 80) rfl ?_
  refine ww_newi O (by decide) la_int (by rw [hR]; decide) (by rw [hR]; decide) dd_MO_init_58 (fun q58 => ?_)
  refine ww_eqw (ws' := [(m, .inr (3, [.int 0, .ref q8, .ref q17, .ref q26, .ref q35, .ref q42, .ref q50, .null, .null, .int 0, .int 0])), (q8, .inl (ww_g X 0, 240, .inl (fun _ => nI 0))), (q17, .inl (ww_g X 1, 240, .inl (fun _ => nI 0))), (q26, .inl (ww_g X 1, 240, .inl (fun _ => nI 0))), (q35, .inl (ww_g X 0, 240, .inl (fun _ => nI 0))), (q42, .inl (ww_g X 0, 4, .inl (fun _ => nI 0))), (q50, .inl (ww_g X 0, 80, .inl (fun _ => nI 0))), (q58, .inl (ww_g X 0, 80, .inl (fun _ => nI 0)))]) rfl ?_
  refine ww_putF O hin ci_MO cy_MO cy_MO_ok cn_MO rfl 7 (by decide) lf_MO_29 rfl rfl rfl (ty := .array .int) (by decide +kernel) dd_MO_init_60 0 rfl rfl rfl (Nat.le_of_ble_eq_true rfl) (ws' := [(m, .inr (3, [.int 0, .ref q8, .ref q17, .ref q26, .ref q35, .ref q42, .ref q50, .ref q58, .null, .int 0, .int 0])), (q8, .inl (ww_g X 0, 240, .inl (fun _ => nI 0))), (q17, .inl (ww_g X 1, 240, .inl (fun _ => nI 0))), (q26, .inl (ww_g X 1, 240, .inl (fun _ => nI 0))), (q35, .inl (ww_g X 0, 240, .inl (fun _ => nI 0))), (q42, .inl (ww_g X 0, 4, .inl (fun _ => nI 0))), (q50, .inl (ww_g X 0, 80, .inl (fun _ => nI 0))), (q58, .inl (ww_g X 0, 80, .inl (fun _ => nI 0)))]) rfl ?_
  refine ww_aload_n O dd_MO_init_63 0 rfl ?_
  refine ww_bipush O dd_MO_init_64 (v := nI 60) rfl ?_
  refine ww_newi O (by decide) la_int (by rw [hR]; decide) (by rw [hR]; decide) dd_MO_init_66 (fun q66 => ?_)
  refine ww_eqw (ws' := [(m, .inr (3, [.int 0, .ref q8, .ref q17, .ref q26, .ref q35, .ref q42, .ref q50, .ref q58, .null, .int 0, .int 0])), (q8, .inl (ww_g X 0, 240, .inl (fun _ => nI 0))), (q17, .inl (ww_g X 1, 240, .inl (fun _ => nI 0))), (q26, .inl (ww_g X 1, 240, .inl (fun _ => nI 0))), (q35, .inl (ww_g X 0, 240, .inl (fun _ => nI 0))), (q42, .inl (ww_g X 0, 4, .inl (fun _ => nI 0))), (q50, .inl (ww_g X 0, 80, .inl (fun _ => nI 0))), (q58, .inl (ww_g X 0, 80, .inl (fun _ => nI 0))), (q66, .inl (ww_g X 0, 60, .inl (fun _ => nI 0)))]) rfl ?_
  refine ww_putF O hin ci_MO cy_MO cy_MO_ok cn_MO rfl 8 (by decide) lf_MO_32 rfl rfl rfl (ty := .array .int) (by decide +kernel) dd_MO_init_68 0 rfl rfl rfl (Nat.le_of_ble_eq_true rfl) (ws' := [(m, .inr (3, [.int 0, .ref q8, .ref q17, .ref q26, .ref q35, .ref q42, .ref q50, .ref q58, .ref q66, .int 0, .int 0])), (q8, .inl (ww_g X 0, 240, .inl (fun _ => nI 0))), (q17, .inl (ww_g X 1, 240, .inl (fun _ => nI 0))), (q26, .inl (ww_g X 1, 240, .inl (fun _ => nI 0))), (q35, .inl (ww_g X 0, 240, .inl (fun _ => nI 0))), (q42, .inl (ww_g X 0, 4, .inl (fun _ => nI 0))), (q50, .inl (ww_g X 0, 80, .inl (fun _ => nI 0))), (q58, .inl (ww_g X 0, 80, .inl (fun _ => nI 0))), (q66, .inl (ww_g X 0, 60, .inl (fun _ => nI 0)))]) rfl ?_
  refine ww_iconst O dd_MO_init_71 (v := nI 0) rfl ?_
  refine ww_istore_n O dd_MO_init_72 (by rw [hn]; decide) rfl (L' := [(0, .ref m), (1, .int (nI 0))]) rfl ?_
  have loop2 : ∀ (k i : Nat), 80 ≤ i + k → i ≤ 80 → ww_at X (0 + 1 + 1 + 1 + 1 + 1 + 1 + 1 + 1) (0 + 240 + 240 + 240 + 240 + 4 + 80 + 80 + 60) 95 [(0, .ref m), (1, .int (nI i))] [] [(m, .inr (3, [.int 0, .ref q8, .ref q17, .ref q26, .ref q35, .ref q42, .ref q50, .ref q58, .ref q66, .int 0, .int 0])), (q8, .inl (ww_g X 0, 240, .inl (px_fill (fun _ => nI 0) 0 240 (-1)))), (q17, .inl (ww_g X 1, 240, .inl (fun _ => nI 0))), (q26, .inl (ww_g X 1, 240, .inl (fun _ => nI 0))), (q35, .inl (ww_g X 0, 240, .inl (fun _ => nI 0))), (q42, .inl (ww_g X 0, 4, .inl (fun _ => nI 0))), (q50, .inl (ww_g X 0, 80, .inl (px_fill (fun _ => nI 0) 0 i (-1)))), (q58, .inl (ww_g X 0, 80, .inl (fun _ => nI 0))), (q66, .inl (ww_g X 0, 60, .inl (fun _ => nI 0)))] := by
    intro k
    induction k with
    | zero =>
      intro i h1 h2
      refine ww_iload_n O dd_MO_init_95 1 rfl ?_
      refine ww_bipush O dd_MO_init_96 (v := nI 80) rfl ?_
      refine ww_icmp_geN O dd_MO_init_98 (tgt := 114) rfl (by omega) (by omega) (fun h98 => ?_) (fun h98 => ?_)
      · have ei : i = 80 := by omega
        subst ei
        exact F _ _ _ ⟨q8, q17, q26, q35, q42, q50, q58, q66, rfl⟩ dd_MO_init_114
      · exfalso; omega
    | succ k ih =>
      intro i h1 h2
      refine ww_iload_n O dd_MO_init_95 1 rfl ?_
      refine ww_bipush O dd_MO_init_96 (v := nI 80) rfl ?_
      refine ww_icmp_geN O dd_MO_init_98 (tgt := 114) rfl (by omega) (by omega) (fun h98 => ?_) (fun h98 => ?_)
      · have ei : i = 80 := by omega
        subst ei
        exact F _ _ _ ⟨q8, q17, q26, q35, q42, q50, q58, q66, rfl⟩ dd_MO_init_114
      · refine ww_aload_n O dd_MO_init_101 0 rfl ?_
        refine ww_get O ci_MO rfl 6 (by decide) lf_MO_26 rfl dd_MO_init_102 0 rfl rfl ?_
        refine ww_iload_n O dd_MO_init_105 1 rfl ?_
        refine ww_iconst O dd_MO_init_106 (v := (-1)) rfl ?_
        refine ww_iast O dd_MO_init_107 6 rfl (by omega) (by decide) (ws' := [(m, .inr (3, [.int 0, .ref q8, .ref q17, .ref q26, .ref q35, .ref q42, .ref q50, .ref q58, .ref q66, .int 0, .int 0])), (q8, .inl (ww_g X 0, 240, .inl (px_fill (fun _ => nI 0) 0 240 (-1)))), (q17, .inl (ww_g X 1, 240, .inl (fun _ => nI 0))), (q26, .inl (ww_g X 1, 240, .inl (fun _ => nI 0))), (q35, .inl (ww_g X 0, 240, .inl (fun _ => nI 0))), (q42, .inl (ww_g X 0, 4, .inl (fun _ => nI 0))), (q50, .inl (ww_g X 0, 80, .inl (upd (px_fill (fun _ => nI 0) 0 i (-1)) i (-1)))), (q58, .inl (ww_g X 0, 80, .inl (fun _ => nI 0))), (q66, .inl (ww_g X 0, 60, .inl (fun _ => nI 0)))]) rfl ?_
        refine ww_iinc O dd_MO_init_108 1 rfl (v := nI (i + 1)) (nI_add _ 1) (by rw [hn]; decide) rfl (L' := [(0, .ref m), (1, .int (nI (i + 1)))]) rfl ?_
        refine ww_goto O dd_MO_init_111 (tgt := 95) rfl ?_
        rw [show ∀ f : Nat → Int32, upd (px_fill f 0 i (-1)) i (-1) = px_fill f 0 (i + 1) (-1) from fun f => by have h9 := px_fill_s (f := f) (a := 0) (n := i) (v := -1); rw [Nat.zero_add] at h9; exact h9]
        exact ih (i + 1) (by omega) (by omega)
  have g0 := loop2 80 0 (by omega) (by omega)
  rw [px_fill_0] at g0
  have loop1 : ∀ (k i : Nat), 240 ≤ i + k → i ≤ 240 → ww_at X (0 + 1 + 1 + 1 + 1 + 1 + 1 + 1 + 1) (0 + 240 + 240 + 240 + 240 + 4 + 80 + 80 + 60) 73 [(0, .ref m), (1, .int (nI i))] [] [(m, .inr (3, [.int 0, .ref q8, .ref q17, .ref q26, .ref q35, .ref q42, .ref q50, .ref q58, .ref q66, .int 0, .int 0])), (q8, .inl (ww_g X 0, 240, .inl (px_fill (fun _ => nI 0) 0 i (-1)))), (q17, .inl (ww_g X 1, 240, .inl (fun _ => nI 0))), (q26, .inl (ww_g X 1, 240, .inl (fun _ => nI 0))), (q35, .inl (ww_g X 0, 240, .inl (fun _ => nI 0))), (q42, .inl (ww_g X 0, 4, .inl (fun _ => nI 0))), (q50, .inl (ww_g X 0, 80, .inl (fun _ => nI 0))), (q58, .inl (ww_g X 0, 80, .inl (fun _ => nI 0))), (q66, .inl (ww_g X 0, 60, .inl (fun _ => nI 0)))] := by
    intro k
    induction k with
    | zero =>
      intro i h1 h2
      refine ww_iload_n O dd_MO_init_73 1 rfl ?_
      refine ww_sipush O dd_MO_init_74 (v := nI 240) rfl ?_
      refine ww_icmp_geN O dd_MO_init_77 (tgt := 93) rfl (by omega) (by omega) (fun h77 => ?_) (fun h77 => ?_)
      · have ei : i = 240 := by omega
        subst ei
        refine ww_iconst O dd_MO_init_93 (v := nI 0) rfl ?_
        refine ww_istore_n O dd_MO_init_94 (by rw [hn]; decide) rfl (L' := [(0, .ref m), (1, .int (nI 0))]) rfl ?_
        exact g0
      · exfalso; omega
    | succ k ih =>
      intro i h1 h2
      refine ww_iload_n O dd_MO_init_73 1 rfl ?_
      refine ww_sipush O dd_MO_init_74 (v := nI 240) rfl ?_
      refine ww_icmp_geN O dd_MO_init_77 (tgt := 93) rfl (by omega) (by omega) (fun h77 => ?_) (fun h77 => ?_)
      · have ei : i = 240 := by omega
        subst ei
        refine ww_iconst O dd_MO_init_93 (v := nI 0) rfl ?_
        refine ww_istore_n O dd_MO_init_94 (by rw [hn]; decide) rfl (L' := [(0, .ref m), (1, .int (nI 0))]) rfl ?_
        exact g0
      · refine ww_aload_n O dd_MO_init_80 0 rfl ?_
        refine ww_get O ci_MO rfl 1 (by decide) lf_MO_7 rfl dd_MO_init_81 0 rfl rfl ?_
        refine ww_iload_n O dd_MO_init_84 1 rfl ?_
        refine ww_iconst O dd_MO_init_85 (v := (-1)) rfl ?_
        refine ww_iast O dd_MO_init_86 1 rfl (by omega) (by decide) (ws' := [(m, .inr (3, [.int 0, .ref q8, .ref q17, .ref q26, .ref q35, .ref q42, .ref q50, .ref q58, .ref q66, .int 0, .int 0])), (q8, .inl (ww_g X 0, 240, .inl (upd (px_fill (fun _ => nI 0) 0 i (-1)) i (-1)))), (q17, .inl (ww_g X 1, 240, .inl (fun _ => nI 0))), (q26, .inl (ww_g X 1, 240, .inl (fun _ => nI 0))), (q35, .inl (ww_g X 0, 240, .inl (fun _ => nI 0))), (q42, .inl (ww_g X 0, 4, .inl (fun _ => nI 0))), (q50, .inl (ww_g X 0, 80, .inl (fun _ => nI 0))), (q58, .inl (ww_g X 0, 80, .inl (fun _ => nI 0))), (q66, .inl (ww_g X 0, 60, .inl (fun _ => nI 0)))]) rfl ?_
        refine ww_iinc O dd_MO_init_87 1 rfl (v := nI (i + 1)) (nI_add _ 1) (by rw [hn]; decide) rfl (L' := [(0, .ref m), (1, .int (nI (i + 1)))]) rfl ?_
        refine ww_goto O dd_MO_init_90 (tgt := 73) rfl ?_
        rw [show ∀ f : Nat → Int32, upd (px_fill f 0 i (-1)) i (-1) = px_fill f 0 (i + 1) (-1) from fun f => by have h9 := px_fill_s (f := f) (a := 0) (n := i) (v := -1); rw [Nat.zero_add] at h9; exact h9]
        exact ih (i + 1) (by omega) (by omega)
  have h0 := loop1 240 0 (by omega) (by omega)
  rw [px_fill_0] at h0
  exact h0
