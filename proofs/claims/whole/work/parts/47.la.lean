theorem lc_LA_7 : ww_site "DelayedExtentsLaw" 7 yy_DE_write bb_DE_write 6 none 3 := ⟨List.mem_filter.mpr ⟨List.mem_of_getElem? (i := 181) (by decide +kernel), by decide +kernel⟩, List.mem_filter.mpr ⟨List.mem_of_getElem? (i := 178) (by decide +kernel), by decide +kernel⟩, List.mem_filter.mpr ⟨List.mem_of_getElem? (i := 26) (by decide +kernel), by decide +kernel⟩, by decide, by decide, by decide +kernel⟩
theorem lx_DE_write_III_V : ww_virt yy_DE_write := ⟨List.mem_filter.mpr ⟨List.mem_of_getElem? (i := 179) (by decide +kernel), by decide +kernel⟩, List.mem_filter.mpr ⟨List.mem_of_getElem? (i := 180) (by decide +kernel), by decide +kernel⟩⟩
theorem lc_LA_19 : ww_site "DelayedExtentsLaw" 19 yy_DE_read bb_DE_read 3 (some .int) 2 := ⟨List.mem_filter.mpr ⟨List.mem_of_getElem? (i := 307) (by decide +kernel), by decide +kernel⟩, List.mem_filter.mpr ⟨List.mem_of_getElem? (i := 304) (by decide +kernel), by decide +kernel⟩, List.mem_filter.mpr ⟨List.mem_of_getElem? (i := 26) (by decide +kernel), by decide +kernel⟩, by decide, by decide, by decide +kernel⟩
theorem lx_DE_read_II_I : ww_virt yy_DE_read := ⟨List.mem_filter.mpr ⟨List.mem_of_getElem? (i := 305) (by decide +kernel), by decide +kernel⟩, List.mem_filter.mpr ⟨List.mem_of_getElem? (i := 306) (by decide +kernel), by decide +kernel⟩⟩
theorem lc_LA_23 : ww_site "DelayedExtentsLaw" 23 yy_DE_preallocate bb_DE_preallocate 7 (some .int) 3 := ⟨List.mem_filter.mpr ⟨List.mem_of_getElem? (i := 323) (by decide +kernel), by decide +kernel⟩, List.mem_filter.mpr ⟨List.mem_of_getElem? (i := 320) (by decide +kernel), by decide +kernel⟩, List.mem_filter.mpr ⟨List.mem_of_getElem? (i := 26) (by decide +kernel), by decide +kernel⟩, by decide, by decide, by decide +kernel⟩
theorem lx_DE_preallocate_III_I : ww_virt yy_DE_preallocate := ⟨List.mem_filter.mpr ⟨List.mem_of_getElem? (i := 321) (by decide +kernel), by decide +kernel⟩, List.mem_filter.mpr ⟨List.mem_of_getElem? (i := 322) (by decide +kernel), by decide +kernel⟩⟩
theorem lc_LA_29 : ww_site "DelayedExtentsLaw" 29 yy_DE_punch bb_DE_punch 4 (some .int) 3 := ⟨List.mem_filter.mpr ⟨List.mem_of_getElem? (i := 408) (by decide +kernel), by decide +kernel⟩, List.mem_filter.mpr ⟨List.mem_of_getElem? (i := 405) (by decide +kernel), by decide +kernel⟩, List.mem_filter.mpr ⟨List.mem_of_getElem? (i := 26) (by decide +kernel), by decide +kernel⟩, by decide, by decide, by decide +kernel⟩
theorem lx_DE_punch_III_I : ww_virt yy_DE_punch := ⟨List.mem_filter.mpr ⟨List.mem_of_getElem? (i := 406) (by decide +kernel), by decide +kernel⟩, List.mem_filter.mpr ⟨List.mem_of_getElem? (i := 407) (by decide +kernel), by decide +kernel⟩⟩
theorem lc_LA_32 : ww_site "DelayedExtentsLaw" 32 yy_DE_truncate bb_DE_truncate 3 (some .int) 2 := ⟨List.mem_filter.mpr ⟨List.mem_of_getElem? (i := 419) (by decide +kernel), by decide +kernel⟩, List.mem_filter.mpr ⟨List.mem_of_getElem? (i := 416) (by decide +kernel), by decide +kernel⟩, List.mem_filter.mpr ⟨List.mem_of_getElem? (i := 26) (by decide +kernel), by decide +kernel⟩, by decide, by decide, by decide +kernel⟩
theorem lx_DE_truncate_II_I : ww_virt yy_DE_truncate := ⟨List.mem_filter.mpr ⟨List.mem_of_getElem? (i := 417) (by decide +kernel), by decide +kernel⟩, List.mem_filter.mpr ⟨List.mem_of_getElem? (i := 418) (by decide +kernel), by decide +kernel⟩⟩
theorem lc_LA_35 : ww_site "DelayedExtentsLaw" 35 yy_DE_flush bb_DE_flush 3 (some .int) 1 := ⟨List.mem_filter.mpr ⟨List.mem_of_getElem? (i := 430) (by decide +kernel), by decide +kernel⟩, List.mem_filter.mpr ⟨List.mem_of_getElem? (i := 427) (by decide +kernel), by decide +kernel⟩, List.mem_filter.mpr ⟨List.mem_of_getElem? (i := 26) (by decide +kernel), by decide +kernel⟩, by decide, by decide, by decide +kernel⟩
theorem lx_DE_flush_I_I : ww_virt yy_DE_flush := ⟨List.mem_filter.mpr ⟨List.mem_of_getElem? (i := 428) (by decide +kernel), by decide +kernel⟩, List.mem_filter.mpr ⟨List.mem_of_getElem? (i := 429) (by decide +kernel), by decide +kernel⟩⟩
theorem lc_LA_39 : ww_site "DelayedExtentsLaw" 39 yy_DE_extent bb_DE_extent 6 (some .int) 3 := ⟨List.mem_filter.mpr ⟨List.mem_of_getElem? (i := 449) (by decide +kernel), by decide +kernel⟩, List.mem_filter.mpr ⟨List.mem_of_getElem? (i := 446) (by decide +kernel), by decide +kernel⟩, List.mem_filter.mpr ⟨List.mem_of_getElem? (i := 26) (by decide +kernel), by decide +kernel⟩, by decide, by decide, by decide +kernel⟩
theorem lx_DE_extent_III_I : ww_virt yy_DE_extent := ⟨List.mem_filter.mpr ⟨List.mem_of_getElem? (i := 447) (by decide +kernel), by decide +kernel⟩, List.mem_filter.mpr ⟨List.mem_of_getElem? (i := 448) (by decide +kernel), by decide +kernel⟩⟩
theorem lc_LA_42 : ww_site "DelayedExtentsLaw" 42 yy_DE_about bb_DE_about 4 (some .int) 2 := ⟨List.mem_filter.mpr ⟨List.mem_of_getElem? (i := 469) (by decide +kernel), by decide +kernel⟩, List.mem_filter.mpr ⟨List.mem_of_getElem? (i := 466) (by decide +kernel), by decide +kernel⟩, List.mem_filter.mpr ⟨List.mem_of_getElem? (i := 26) (by decide +kernel), by decide +kernel⟩, by decide, by decide, by decide +kernel⟩
theorem lx_DE_about_II_I : ww_virt yy_DE_about := ⟨List.mem_filter.mpr ⟨List.mem_of_getElem? (i := 467) (by decide +kernel), by decide +kernel⟩, List.mem_filter.mpr ⟨List.mem_of_getElem? (i := 468) (by decide +kernel), by decide +kernel⟩⟩
theorem lc_LA_45 : ww_site "DelayedExtentsLaw" 45 yy_DE_owner bb_DE_owner 2 (some .int) 1 := ⟨List.mem_filter.mpr ⟨List.mem_of_getElem? (i := 480) (by decide +kernel), by decide +kernel⟩, List.mem_filter.mpr ⟨List.mem_of_getElem? (i := 477) (by decide +kernel), by decide +kernel⟩, List.mem_filter.mpr ⟨List.mem_of_getElem? (i := 26) (by decide +kernel), by decide +kernel⟩, by decide, by decide, by decide +kernel⟩
theorem lx_DE_owner_I_I : ww_virt yy_DE_owner := ⟨List.mem_filter.mpr ⟨List.mem_of_getElem? (i := 478) (by decide +kernel), by decide +kernel⟩, List.mem_filter.mpr ⟨List.mem_of_getElem? (i := 479) (by decide +kernel), by decide +kernel⟩⟩
theorem lc_LA_48 : ww_site "DelayedExtentsLaw" 48 yy_DE_value bb_DE_value 2 (some .int) 1 := ⟨List.mem_filter.mpr ⟨List.mem_of_getElem? (i := 494) (by decide +kernel), by decide +kernel⟩, List.mem_filter.mpr ⟨List.mem_of_getElem? (i := 491) (by decide +kernel), by decide +kernel⟩, List.mem_filter.mpr ⟨List.mem_of_getElem? (i := 26) (by decide +kernel), by decide +kernel⟩, by decide, by decide, by decide +kernel⟩
theorem lx_DE_value_I_I : ww_virt yy_DE_value := ⟨List.mem_filter.mpr ⟨List.mem_of_getElem? (i := 492) (by decide +kernel), by decide +kernel⟩, List.mem_filter.mpr ⟨List.mem_of_getElem? (i := 493) (by decide +kernel), by decide +kernel⟩⟩
theorem wc_tab {l : List ExceptionTableEntry} {hh : List (Nat × Nat × Nat × Nat)} (h : l.map (fun h => (h.startPc, h.endPc, h.handlerPc, h.catchType)) = hh) : l = hh.map (fun q => ⟨q.1, q.2.1, q.2.2.1, q.2.2.2⟩) := by
  subst h
  rw [List.map_map]
  exact (List.map_id l).symm
theorem lk_LA_13 : Cond.classLink "DelayedExtentsLaw" 13 "java/lang/IndexOutOfBoundsException" ∈ lw_good := List.mem_filter.mpr ⟨List.mem_of_getElem? (i := 175) (by decide +kernel), by decide +kernel⟩
theorem lk_in_IOOBE : Cond.instantiable "java/lang/IndexOutOfBoundsException" 6 ∈ lw_good := List.mem_filter.mpr ⟨List.mem_of_getElem? (i := 189) (by decide +kernel), by decide +kernel⟩
theorem lk_ca_IOOBE : Cond.castable "java/lang/IndexOutOfBoundsException" "java/lang/IndexOutOfBoundsException" ∈ cx_nw := by decide +kernel
theorem lk_LA_15 : Cond.classLink "DelayedExtentsLaw" 15 "java/lang/IllegalStateException" ∈ lw_good := List.mem_filter.mpr ⟨List.mem_of_getElem? (i := 176) (by decide +kernel), by decide +kernel⟩
theorem lk_in_ISE : Cond.instantiable "java/lang/IllegalStateException" 6 ∈ lw_good := List.mem_filter.mpr ⟨List.mem_of_getElem? (i := 257) (by decide +kernel), by decide +kernel⟩
theorem lk_ca_ISE : Cond.castable "java/lang/IllegalStateException" "java/lang/IllegalStateException" ∈ cx_nw := by decide +kernel
theorem lk_LA_17 : Cond.classLink "DelayedExtentsLaw" 17 "java/lang/UnsupportedOperationException" ∈ lw_good := List.mem_filter.mpr ⟨List.mem_of_getElem? (i := 177) (by decide +kernel), by decide +kernel⟩
theorem lk_in_UOE : Cond.instantiable "java/lang/UnsupportedOperationException" 6 ∈ lw_good := List.mem_filter.mpr ⟨List.mem_of_getElem? (i := 283) (by decide +kernel), by decide +kernel⟩
theorem lk_ca_UOE : Cond.castable "java/lang/UnsupportedOperationException" "java/lang/UnsupportedOperationException" ∈ cx_nw := by decide +kernel
theorem lk_LA_27 : Cond.classLink "DelayedExtentsLaw" 27 "java/lang/IllegalArgumentException" ∈ lw_good := List.mem_filter.mpr ⟨List.mem_of_getElem? (i := 319) (by decide +kernel), by decide +kernel⟩
theorem lk_in_IAE : Cond.instantiable "java/lang/IllegalArgumentException" 6 ∈ lw_good := List.mem_filter.mpr ⟨List.mem_of_getElem? (i := 328) (by decide +kernel), by decide +kernel⟩
theorem lk_ca_IAE : Cond.castable "java/lang/IllegalArgumentException" "java/lang/IllegalArgumentException" ∈ cx_nw := by decide +kernel
set_option maxRecDepth 4000 in
theorem cl_write (l : Launch) (D : va_G) (g : Nat → ClassId) (K : dx_K) (ow vl ow' vl' : Nat → Int32) (S S' : Nat → dx_S) (p0 p1 p2 : Int32) (k : Nat) (hk : k ≤ 8) (hM : ww_ct l D g yy_DE_write bb_DE_write 6 none (ww_rm k) [.ref (dx_x K), .int p0, .int p1, .int p2] (dx_w g K ow vl S) none (dx_w g K ow' vl' S')) : wc_ct l D g yy_LA_write bb_LA_write 5 (some .int) [(0, 7, 10, 13), (0, 7, 14, 15), (0, 7, 18, 17)] (wt_rm 9) [.ref (dx_x K), .int p0, .int p1, .int p2] (dx_w g K ow vl S) (some (.int (nI 0))) (dx_w g K ow' vl' S') := by
  refine wc_start (by decide +kernel) rfl rfl (Nat.le_of_ble_eq_true rfl) (L0 := [(0, .ref (dx_x K)), (1, .int p0), (2, .int p1), (3, .int p2)]) rfl ?_
  intro X O hl hD hg hR hn htab hN F
  subst hl hD hg
  refine ww_aload_n O dd_LA_write_0 0 rfl ?_
  refine ww_iload_n O dd_LA_write_1 1 rfl ?_
  refine ww_iload_n O dd_LA_write_2 2 rfl ?_
  refine ww_iload_n O dd_LA_write_3 3 rfl ?_
  refine ww_eqw (ws' := ([] : va_W) ++ ((dx_w (ww_g X) K ow vl S) ++ [])) (by simp) ?_
  refine wm_callV (ci := 2) O ([] : va_W) [] hM lc_LA_7 lx_DE_write_III_V rfl rfl rfl (by rw [hR]; show k + 1 ≤ 9 ∧ 8 + (6 + 11) + 40 * k ≤ 40 * 9; omega) (by rw [hR]; show 0 + 0 ≤ 1; decide) (by rw [hR]; show 0 + 0 ≤ 6; decide) rfl (Nat.le_of_ble_eq_true rfl) dd_LA_write_4 rfl ?_
  refine ww_eqw (ws' := (dx_w (ww_g X) K ow' vl' S')) (by simp) ?_
  refine ww_goto O dd_LA_write_7 (tgt := 22) rfl ?_
  refine ww_iconst O dd_LA_write_22 (v := nI 0) rfl ?_
  exact ww_wid (cs' := 1) (ss' := 6) (show 0 + 0 ≤ 1 by decide) (show 0 + 0 ≤ 6 by decide) (F _ _ dd_LA_write_23)
set_option maxRecDepth 4000 in
theorem cl_write_IOOBE (l : Launch) (D : va_G) (g : Nat → ClassId) (K : dx_K) (ow vl ow' vl' : Nat → Int32) (S S' : Nat → dx_S) (p0 p1 p2 : Int32) (hM : wt_ct l D g yy_DE_write bb_DE_write 6 none (wt_rm 8) [.ref (dx_x K), .int p0, .int p1, .int p2] (dx_w g K ow vl S) "java/lang/IndexOutOfBoundsException" (dx_w g K ow' vl' S')) : wc_ct l D g yy_LA_write bb_LA_write 5 (some .int) [(0, 7, 10, 13), (0, 7, 14, 15), (0, 7, 18, 17)] (wt_rm 9) [.ref (dx_x K), .int p0, .int p1, .int p2] (dx_w g K ow vl S) (some (.int (nI 1))) (dx_w g K ow' vl' S') := by
  refine wc_start (by decide +kernel) rfl rfl (Nat.le_of_ble_eq_true rfl) (L0 := [(0, .ref (dx_x K)), (1, .int p0), (2, .int p1), (3, .int p2)]) rfl ?_
  intro X O hl hD hg hR hn htab hN F
  subst hl hD hg
  refine ww_aload_n O dd_LA_write_0 0 rfl ?_
  refine ww_iload_n O dd_LA_write_1 1 rfl ?_
  refine ww_iload_n O dd_LA_write_2 2 rfl ?_
  refine ww_iload_n O dd_LA_write_3 3 rfl ?_
  refine ww_eqw (ws' := ([] : va_W) ++ ((dx_w (ww_g X) K ow vl S) ++ [])) (by simp) ?_
  refine wm_throwV (ci := 2) O ([] : va_W) [] hM lc_LA_7 lx_DE_write_III_V rfl rfl rfl (by rw [hR]; decide) (by rw [hR]; decide) (by rw [hR]; decide) rfl (Nat.le_of_ble_eq_true rfl) dd_LA_write_4 rfl ?_
  refine wc_catch (nm := "java/lang/IndexOutOfBoundsException") O [] ⟨0, 7, 10, 13⟩ [⟨0, 7, 14, 15⟩, ⟨0, 7, 18, 17⟩] (wc_tab htab) lk_in_IOOBE (fun q hq => absurd hq List.not_mem_nil) (by decide) (by decide) lk_LA_13 lk_ca_IOOBE (tgt := 10) rfl ?_
  intro a
  refine ww_eqw (ws' := (dx_w (ww_g X) K ow' vl' S')) (by simp) ?_
  refine ww_astore O dd_LA_write_10 (by rw [hn]; decide) rfl (L' := [(0, .ref (dx_x K)), (1, .int p0), (2, .int p1), (3, .int p2), (4, .ref a)]) rfl ?_
  refine ww_iconst O dd_LA_write_12 (v := nI 1) rfl ?_
  exact ww_wid (cs' := 1) (ss' := 6) (show 0 + 1 ≤ 1 by decide) (show 0 + 6 ≤ 6 by decide) (F _ _ dd_LA_write_13)
set_option maxRecDepth 4000 in
theorem cl_write_ISE (l : Launch) (D : va_G) (g : Nat → ClassId) (K : dx_K) (ow vl ow' vl' : Nat → Int32) (S S' : Nat → dx_S) (p0 p1 p2 : Int32) (hM : wt_ct l D g yy_DE_write bb_DE_write 6 none (wt_rm 8) [.ref (dx_x K), .int p0, .int p1, .int p2] (dx_w g K ow vl S) "java/lang/IllegalStateException" (dx_w g K ow' vl' S')) : wc_ct l D g yy_LA_write bb_LA_write 5 (some .int) [(0, 7, 10, 13), (0, 7, 14, 15), (0, 7, 18, 17)] (wt_rm 9) [.ref (dx_x K), .int p0, .int p1, .int p2] (dx_w g K ow vl S) (some (.int (nI 2))) (dx_w g K ow' vl' S') := by
  refine wc_start (by decide +kernel) rfl rfl (Nat.le_of_ble_eq_true rfl) (L0 := [(0, .ref (dx_x K)), (1, .int p0), (2, .int p1), (3, .int p2)]) rfl ?_
  intro X O hl hD hg hR hn htab hN F
  subst hl hD hg
  refine ww_aload_n O dd_LA_write_0 0 rfl ?_
  refine ww_iload_n O dd_LA_write_1 1 rfl ?_
  refine ww_iload_n O dd_LA_write_2 2 rfl ?_
  refine ww_iload_n O dd_LA_write_3 3 rfl ?_
  refine ww_eqw (ws' := ([] : va_W) ++ ((dx_w (ww_g X) K ow vl S) ++ [])) (by simp) ?_
  refine wm_throwV (ci := 2) O ([] : va_W) [] hM lc_LA_7 lx_DE_write_III_V rfl rfl rfl (by rw [hR]; decide) (by rw [hR]; decide) (by rw [hR]; decide) rfl (Nat.le_of_ble_eq_true rfl) dd_LA_write_4 rfl ?_
  refine wc_catch (nm := "java/lang/IllegalStateException") O [(⟨0, 7, 10, 13⟩, "java/lang/IndexOutOfBoundsException")] ⟨0, 7, 14, 15⟩ [⟨0, 7, 18, 17⟩] (wc_tab htab) lk_in_ISE (List.forall_mem_cons.mpr ⟨⟨by decide, by decide, lk_LA_13, fun c1 c2 h1 h2 => hN ("java/lang/IllegalStateException", "java/lang/IndexOutOfBoundsException") (by decide) c1 c2 h1 h2⟩, (fun q hq => absurd hq List.not_mem_nil)⟩) (by decide) (by decide) lk_LA_15 lk_ca_ISE (tgt := 14) rfl ?_
  intro a
  refine ww_eqw (ws' := (dx_w (ww_g X) K ow' vl' S')) (by simp) ?_
  refine ww_astore O dd_LA_write_14 (by rw [hn]; decide) rfl (L' := [(0, .ref (dx_x K)), (1, .int p0), (2, .int p1), (3, .int p2), (4, .ref a)]) rfl ?_
  refine ww_iconst O dd_LA_write_16 (v := nI 2) rfl ?_
  exact ww_wid (cs' := 1) (ss' := 6) (show 0 + 1 ≤ 1 by decide) (show 0 + 6 ≤ 6 by decide) (F _ _ dd_LA_write_17)
set_option maxRecDepth 4000 in
theorem cl_write_UOE (l : Launch) (D : va_G) (g : Nat → ClassId) (K : dx_K) (ow vl ow' vl' : Nat → Int32) (S S' : Nat → dx_S) (p0 p1 p2 : Int32) (hM : wt_ct l D g yy_DE_write bb_DE_write 6 none (wt_rm 8) [.ref (dx_x K), .int p0, .int p1, .int p2] (dx_w g K ow vl S) "java/lang/UnsupportedOperationException" (dx_w g K ow' vl' S')) : wc_ct l D g yy_LA_write bb_LA_write 5 (some .int) [(0, 7, 10, 13), (0, 7, 14, 15), (0, 7, 18, 17)] (wt_rm 9) [.ref (dx_x K), .int p0, .int p1, .int p2] (dx_w g K ow vl S) (some (.int (nI 3))) (dx_w g K ow' vl' S') := by
  refine wc_start (by decide +kernel) rfl rfl (Nat.le_of_ble_eq_true rfl) (L0 := [(0, .ref (dx_x K)), (1, .int p0), (2, .int p1), (3, .int p2)]) rfl ?_
  intro X O hl hD hg hR hn htab hN F
  subst hl hD hg
  refine ww_aload_n O dd_LA_write_0 0 rfl ?_
  refine ww_iload_n O dd_LA_write_1 1 rfl ?_
  refine ww_iload_n O dd_LA_write_2 2 rfl ?_
  refine ww_iload_n O dd_LA_write_3 3 rfl ?_
  refine ww_eqw (ws' := ([] : va_W) ++ ((dx_w (ww_g X) K ow vl S) ++ [])) (by simp) ?_
  refine wm_throwV (ci := 2) O ([] : va_W) [] hM lc_LA_7 lx_DE_write_III_V rfl rfl rfl (by rw [hR]; decide) (by rw [hR]; decide) (by rw [hR]; decide) rfl (Nat.le_of_ble_eq_true rfl) dd_LA_write_4 rfl ?_
  refine wc_catch (nm := "java/lang/UnsupportedOperationException") O [(⟨0, 7, 10, 13⟩, "java/lang/IndexOutOfBoundsException"), (⟨0, 7, 14, 15⟩, "java/lang/IllegalStateException")] ⟨0, 7, 18, 17⟩ [] (wc_tab htab) lk_in_UOE (List.forall_mem_cons.mpr ⟨⟨by decide, by decide, lk_LA_13, fun c1 c2 h1 h2 => hN ("java/lang/UnsupportedOperationException", "java/lang/IndexOutOfBoundsException") (by decide) c1 c2 h1 h2⟩, (List.forall_mem_cons.mpr ⟨⟨by decide, by decide, lk_LA_15, fun c1 c2 h1 h2 => hN ("java/lang/UnsupportedOperationException", "java/lang/IllegalStateException") (by decide) c1 c2 h1 h2⟩, (fun q hq => absurd hq List.not_mem_nil)⟩)⟩) (by decide) (by decide) lk_LA_17 lk_ca_UOE (tgt := 18) rfl ?_
  intro a
  refine ww_eqw (ws' := (dx_w (ww_g X) K ow' vl' S')) (by simp) ?_
  refine ww_astore O dd_LA_write_18 (by rw [hn]; decide) rfl (L' := [(0, .ref (dx_x K)), (1, .int p0), (2, .int p1), (3, .int p2), (4, .ref a)]) rfl ?_
  refine ww_iconst O dd_LA_write_20 (v := nI 3) rfl ?_
  exact ww_wid (cs' := 1) (ss' := 6) (show 0 + 1 ≤ 1 by decide) (show 0 + 6 ≤ 6 by decide) (F _ _ dd_LA_write_21)
set_option maxRecDepth 4000 in
theorem cl_read (l : Launch) (D : va_G) (g : Nat → ClassId) (K : dx_K) (ow vl ow' vl' : Nat → Int32) (S S' : Nat → dx_S) (p0 p1 : Int32) (o : Nat) (lf : Nat → Int64) (k : Nat) (hk : k ≤ 8) (v : Int32) (hM : ww_ct l D g yy_DE_read bb_DE_read 3 (some .int) (ww_rm k) [.ref (dx_x K), .int p0, .int p1] (dx_w g K ow vl S) (some (.int v)) (dx_w g K ow' vl' S')) : wc_ct l D g yy_LA_read bb_LA_read 5 (some .int) [(0, 10, 13, 13)] (wt_rm 9) [.ref (dx_x K), .int p0, .int p1, .ref o] ((o, .inl (g 2, 1, .inr (.inl lf))) :: dx_w g K ow vl S) (some (.int (nI 0))) ((o, .inl (g 2, 1, .inr (.inl (vp_updL lf 0 v.toInt64)))) :: dx_w g K ow' vl' S') := by
  refine wc_start (by decide +kernel) rfl rfl (Nat.le_of_ble_eq_true rfl) (L0 := [(0, .ref (dx_x K)), (1, .int p0), (2, .int p1), (3, .ref o)]) rfl ?_
  intro X O hl hD hg hR hn htab hN F
  subst hl hD hg
  refine ww_aload_n O dd_LA_read_0 3 rfl ?_
  refine ww_iconst O dd_LA_read_1 (v := nI 0) rfl ?_
  refine ww_aload_n O dd_LA_read_2 0 rfl ?_
  refine ww_iload_n O dd_LA_read_3 1 rfl ?_
  refine ww_iload_n O dd_LA_read_4 2 rfl ?_
  refine ww_eqw (ws' := [(o, .inl (ww_g X 2, 1, .inr (.inl lf)))] ++ ((dx_w (ww_g X) K ow vl S) ++ [])) (by simp) ?_
  refine wm_callV (ci := 2) O [(o, .inl (ww_g X 2, 1, .inr (.inl lf)))] [] hM lc_LA_19 lx_DE_read_II_I rfl rfl rfl (by rw [hR]; show k + 1 ≤ 9 ∧ 8 + (3 + 11) + 40 * k ≤ 40 * 9; omega) (by rw [hR]; show 0 + 0 ≤ 1; decide) (by rw [hR]; show 0 + 0 ≤ 6; decide) rfl (Nat.le_of_ble_eq_true rfl) dd_LA_read_5 rfl ?_
  refine ww_eqw (ws' := ((o, .inl (ww_g X 2, 1, .inr (.inl lf))) :: (dx_w (ww_g X) K ow' vl' S'))) (by simp) ?_
  refine ww_i2l O dd_LA_read_8 ?_
  refine ww_last O dd_LA_read_9 0 rfl (show 0 < 1 by decide) (by decide) (ws' := ((o, .inl (ww_g X 2, 1, .inr (.inl (vp_updL lf 0 v.toInt64)))) :: (dx_w (ww_g X) K ow' vl' S'))) rfl ?_
  refine ww_goto O dd_LA_read_10 (tgt := 17) rfl ?_
  refine ww_iconst O dd_LA_read_17 (v := nI 0) rfl ?_
  exact ww_wid (cs' := 1) (ss' := 6) (show 0 + 0 ≤ 1 by decide) (show 0 + 0 ≤ 6 by decide) (F _ _ dd_LA_read_18)
set_option maxRecDepth 4000 in
theorem cl_read_IOOBE (l : Launch) (D : va_G) (g : Nat → ClassId) (K : dx_K) (ow vl ow' vl' : Nat → Int32) (S S' : Nat → dx_S) (p0 p1 : Int32) (o : Nat) (lf : Nat → Int64) (hM : wt_ct l D g yy_DE_read bb_DE_read 3 (some .int) (wt_rm 8) [.ref (dx_x K), .int p0, .int p1] (dx_w g K ow vl S) "java/lang/IndexOutOfBoundsException" (dx_w g K ow' vl' S')) : wc_ct l D g yy_LA_read bb_LA_read 5 (some .int) [(0, 10, 13, 13)] (wt_rm 9) [.ref (dx_x K), .int p0, .int p1, .ref o] ((o, .inl (g 2, 1, .inr (.inl lf))) :: dx_w g K ow vl S) (some (.int (nI 1))) ((o, .inl (g 2, 1, .inr (.inl lf))) :: dx_w g K ow' vl' S') := by
  refine wc_start (by decide +kernel) rfl rfl (Nat.le_of_ble_eq_true rfl) (L0 := [(0, .ref (dx_x K)), (1, .int p0), (2, .int p1), (3, .ref o)]) rfl ?_
  intro X O hl hD hg hR hn htab hN F
  subst hl hD hg
  refine ww_aload_n O dd_LA_read_0 3 rfl ?_
  refine ww_iconst O dd_LA_read_1 (v := nI 0) rfl ?_
  refine ww_aload_n O dd_LA_read_2 0 rfl ?_
  refine ww_iload_n O dd_LA_read_3 1 rfl ?_
  refine ww_iload_n O dd_LA_read_4 2 rfl ?_
  refine ww_eqw (ws' := [(o, .inl (ww_g X 2, 1, .inr (.inl lf)))] ++ ((dx_w (ww_g X) K ow vl S) ++ [])) (by simp) ?_
  refine wm_throwV (ci := 2) O [(o, .inl (ww_g X 2, 1, .inr (.inl lf)))] [] hM lc_LA_19 lx_DE_read_II_I rfl rfl rfl (by rw [hR]; decide) (by rw [hR]; decide) (by rw [hR]; decide) rfl (Nat.le_of_ble_eq_true rfl) dd_LA_read_5 rfl ?_
  refine wc_catch (nm := "java/lang/IndexOutOfBoundsException") O [] ⟨0, 10, 13, 13⟩ [] (wc_tab htab) lk_in_IOOBE (fun q hq => absurd hq List.not_mem_nil) (by decide) (by decide) lk_LA_13 lk_ca_IOOBE (tgt := 13) rfl ?_
  intro a
  refine ww_eqw (ws' := ((o, .inl (ww_g X 2, 1, .inr (.inl lf))) :: (dx_w (ww_g X) K ow' vl' S'))) (by simp) ?_
  refine ww_astore O dd_LA_read_13 (by rw [hn]; decide) rfl (L' := [(0, .ref (dx_x K)), (1, .int p0), (2, .int p1), (3, .ref o), (4, .ref a)]) rfl ?_
  refine ww_iconst O dd_LA_read_15 (v := nI 1) rfl ?_
  exact ww_wid (cs' := 1) (ss' := 6) (show 0 + 1 ≤ 1 by decide) (show 0 + 6 ≤ 6 by decide) (F _ _ dd_LA_read_16)
set_option maxRecDepth 4000 in
theorem cl_preallocate (l : Launch) (D : va_G) (g : Nat → ClassId) (K : dx_K) (ow vl ow' vl' : Nat → Int32) (S S' : Nat → dx_S) (p0 p1 p2 : Int32) (o : Nat) (lf : Nat → Int64) (k : Nat) (hk : k ≤ 8) (v : Int32) (hM : ww_ct l D g yy_DE_preallocate bb_DE_preallocate 7 (some .int) (ww_rm k) [.ref (dx_x K), .int p0, .int p1, .int p2] (dx_w g K ow vl S) (some (.int v)) (dx_w g K ow' vl' S')) : wc_ct l D g yy_LA_preallocate bb_LA_preallocate 6 (some .int) [(0, 12, 15, 13), (0, 12, 19, 27), (0, 12, 23, 17)] (wt_rm 9) [.ref (dx_x K), .int p0, .int p1, .int p2, .ref o] ((o, .inl (g 2, 1, .inr (.inl lf))) :: dx_w g K ow vl S) (some (.int (nI 0))) ((o, .inl (g 2, 1, .inr (.inl (vp_updL lf 0 v.toInt64)))) :: dx_w g K ow' vl' S') := by
  refine wc_start (by decide +kernel) rfl rfl (Nat.le_of_ble_eq_true rfl) (L0 := [(0, .ref (dx_x K)), (1, .int p0), (2, .int p1), (3, .int p2), (4, .ref o)]) rfl ?_
  intro X O hl hD hg hR hn htab hN F
  subst hl hD hg
  refine ww_aload O dd_LA_preallocate_0 4 rfl ?_
  refine ww_iconst O dd_LA_preallocate_2 (v := nI 0) rfl ?_
  refine ww_aload_n O dd_LA_preallocate_3 0 rfl ?_
  refine ww_iload_n O dd_LA_preallocate_4 1 rfl ?_
  refine ww_iload_n O dd_LA_preallocate_5 2 rfl ?_
  refine ww_iload_n O dd_LA_preallocate_6 3 rfl ?_
  refine ww_eqw (ws' := [(o, .inl (ww_g X 2, 1, .inr (.inl lf)))] ++ ((dx_w (ww_g X) K ow vl S) ++ [])) (by simp) ?_
  refine wm_callV (ci := 2) O [(o, .inl (ww_g X 2, 1, .inr (.inl lf)))] [] hM lc_LA_23 lx_DE_preallocate_III_I rfl rfl rfl (by rw [hR]; show k + 1 ≤ 9 ∧ 8 + (7 + 11) + 40 * k ≤ 40 * 9; omega) (by rw [hR]; show 0 + 0 ≤ 1; decide) (by rw [hR]; show 0 + 0 ≤ 6; decide) rfl (Nat.le_of_ble_eq_true rfl) dd_LA_preallocate_7 rfl ?_
  refine ww_eqw (ws' := ((o, .inl (ww_g X 2, 1, .inr (.inl lf))) :: (dx_w (ww_g X) K ow' vl' S'))) (by simp) ?_
  refine ww_i2l O dd_LA_preallocate_10 ?_
  refine ww_last O dd_LA_preallocate_11 0 rfl (show 0 < 1 by decide) (by decide) (ws' := ((o, .inl (ww_g X 2, 1, .inr (.inl (vp_updL lf 0 v.toInt64)))) :: (dx_w (ww_g X) K ow' vl' S'))) rfl ?_
  refine ww_goto O dd_LA_preallocate_12 (tgt := 27) rfl ?_
  refine ww_iconst O dd_LA_preallocate_27 (v := nI 0) rfl ?_
  exact ww_wid (cs' := 1) (ss' := 6) (show 0 + 0 ≤ 1 by decide) (show 0 + 0 ≤ 6 by decide) (F _ _ dd_LA_preallocate_28)
set_option maxRecDepth 4000 in
theorem cl_preallocate_IOOBE (l : Launch) (D : va_G) (g : Nat → ClassId) (K : dx_K) (ow vl ow' vl' : Nat → Int32) (S S' : Nat → dx_S) (p0 p1 p2 : Int32) (o : Nat) (lf : Nat → Int64) (hM : wt_ct l D g yy_DE_preallocate bb_DE_preallocate 7 (some .int) (wt_rm 8) [.ref (dx_x K), .int p0, .int p1, .int p2] (dx_w g K ow vl S) "java/lang/IndexOutOfBoundsException" (dx_w g K ow' vl' S')) : wc_ct l D g yy_LA_preallocate bb_LA_preallocate 6 (some .int) [(0, 12, 15, 13), (0, 12, 19, 27), (0, 12, 23, 17)] (wt_rm 9) [.ref (dx_x K), .int p0, .int p1, .int p2, .ref o] ((o, .inl (g 2, 1, .inr (.inl lf))) :: dx_w g K ow vl S) (some (.int (nI 1))) ((o, .inl (g 2, 1, .inr (.inl lf))) :: dx_w g K ow' vl' S') := by
  refine wc_start (by decide +kernel) rfl rfl (Nat.le_of_ble_eq_true rfl) (L0 := [(0, .ref (dx_x K)), (1, .int p0), (2, .int p1), (3, .int p2), (4, .ref o)]) rfl ?_
  intro X O hl hD hg hR hn htab hN F
  subst hl hD hg
  refine ww_aload O dd_LA_preallocate_0 4 rfl ?_
  refine ww_iconst O dd_LA_preallocate_2 (v := nI 0) rfl ?_
  refine ww_aload_n O dd_LA_preallocate_3 0 rfl ?_
  refine ww_iload_n O dd_LA_preallocate_4 1 rfl ?_
  refine ww_iload_n O dd_LA_preallocate_5 2 rfl ?_
  refine ww_iload_n O dd_LA_preallocate_6 3 rfl ?_
  refine ww_eqw (ws' := [(o, .inl (ww_g X 2, 1, .inr (.inl lf)))] ++ ((dx_w (ww_g X) K ow vl S) ++ [])) (by simp) ?_
  refine wm_throwV (ci := 2) O [(o, .inl (ww_g X 2, 1, .inr (.inl lf)))] [] hM lc_LA_23 lx_DE_preallocate_III_I rfl rfl rfl (by rw [hR]; decide) (by rw [hR]; decide) (by rw [hR]; decide) rfl (Nat.le_of_ble_eq_true rfl) dd_LA_preallocate_7 rfl ?_
  refine wc_catch (nm := "java/lang/IndexOutOfBoundsException") O [] ⟨0, 12, 15, 13⟩ [⟨0, 12, 19, 27⟩, ⟨0, 12, 23, 17⟩] (wc_tab htab) lk_in_IOOBE (fun q hq => absurd hq List.not_mem_nil) (by decide) (by decide) lk_LA_13 lk_ca_IOOBE (tgt := 15) rfl ?_
  intro a
  refine ww_eqw (ws' := ((o, .inl (ww_g X 2, 1, .inr (.inl lf))) :: (dx_w (ww_g X) K ow' vl' S'))) (by simp) ?_
  refine ww_astore O dd_LA_preallocate_15 (by rw [hn]; decide) rfl (L' := [(0, .ref (dx_x K)), (1, .int p0), (2, .int p1), (3, .int p2), (4, .ref o), (5, .ref a)]) rfl ?_
  refine ww_iconst O dd_LA_preallocate_17 (v := nI 1) rfl ?_
  exact ww_wid (cs' := 1) (ss' := 6) (show 0 + 1 ≤ 1 by decide) (show 0 + 6 ≤ 6 by decide) (F _ _ dd_LA_preallocate_18)
set_option maxRecDepth 4000 in
theorem cl_preallocate_IAE (l : Launch) (D : va_G) (g : Nat → ClassId) (K : dx_K) (ow vl ow' vl' : Nat → Int32) (S S' : Nat → dx_S) (p0 p1 p2 : Int32) (o : Nat) (lf : Nat → Int64) (hM : wt_ct l D g yy_DE_preallocate bb_DE_preallocate 7 (some .int) (wt_rm 8) [.ref (dx_x K), .int p0, .int p1, .int p2] (dx_w g K ow vl S) "java/lang/IllegalArgumentException" (dx_w g K ow' vl' S')) : wc_ct l D g yy_LA_preallocate bb_LA_preallocate 6 (some .int) [(0, 12, 15, 13), (0, 12, 19, 27), (0, 12, 23, 17)] (wt_rm 9) [.ref (dx_x K), .int p0, .int p1, .int p2, .ref o] ((o, .inl (g 2, 1, .inr (.inl lf))) :: dx_w g K ow vl S) (some (.int (nI 2))) ((o, .inl (g 2, 1, .inr (.inl lf))) :: dx_w g K ow' vl' S') := by
  refine wc_start (by decide +kernel) rfl rfl (Nat.le_of_ble_eq_true rfl) (L0 := [(0, .ref (dx_x K)), (1, .int p0), (2, .int p1), (3, .int p2), (4, .ref o)]) rfl ?_
  intro X O hl hD hg hR hn htab hN F
  subst hl hD hg
  refine ww_aload O dd_LA_preallocate_0 4 rfl ?_
  refine ww_iconst O dd_LA_preallocate_2 (v := nI 0) rfl ?_
  refine ww_aload_n O dd_LA_preallocate_3 0 rfl ?_
  refine ww_iload_n O dd_LA_preallocate_4 1 rfl ?_
  refine ww_iload_n O dd_LA_preallocate_5 2 rfl ?_
  refine ww_iload_n O dd_LA_preallocate_6 3 rfl ?_
  refine ww_eqw (ws' := [(o, .inl (ww_g X 2, 1, .inr (.inl lf)))] ++ ((dx_w (ww_g X) K ow vl S) ++ [])) (by simp) ?_
  refine wm_throwV (ci := 2) O [(o, .inl (ww_g X 2, 1, .inr (.inl lf)))] [] hM lc_LA_23 lx_DE_preallocate_III_I rfl rfl rfl (by rw [hR]; decide) (by rw [hR]; decide) (by rw [hR]; decide) rfl (Nat.le_of_ble_eq_true rfl) dd_LA_preallocate_7 rfl ?_
  refine wc_catch (nm := "java/lang/IllegalArgumentException") O [(⟨0, 12, 15, 13⟩, "java/lang/IndexOutOfBoundsException")] ⟨0, 12, 19, 27⟩ [⟨0, 12, 23, 17⟩] (wc_tab htab) lk_in_IAE (List.forall_mem_cons.mpr ⟨⟨by decide, by decide, lk_LA_13, fun c1 c2 h1 h2 => hN ("java/lang/IllegalArgumentException", "java/lang/IndexOutOfBoundsException") (by decide) c1 c2 h1 h2⟩, (fun q hq => absurd hq List.not_mem_nil)⟩) (by decide) (by decide) lk_LA_27 lk_ca_IAE (tgt := 19) rfl ?_
  intro a
  refine ww_eqw (ws' := ((o, .inl (ww_g X 2, 1, .inr (.inl lf))) :: (dx_w (ww_g X) K ow' vl' S'))) (by simp) ?_
  refine ww_astore O dd_LA_preallocate_19 (by rw [hn]; decide) rfl (L' := [(0, .ref (dx_x K)), (1, .int p0), (2, .int p1), (3, .int p2), (4, .ref o), (5, .ref a)]) rfl ?_
  refine ww_iconst O dd_LA_preallocate_21 (v := nI 2) rfl ?_
  exact ww_wid (cs' := 1) (ss' := 6) (show 0 + 1 ≤ 1 by decide) (show 0 + 6 ≤ 6 by decide) (F _ _ dd_LA_preallocate_22)
set_option maxRecDepth 4000 in
theorem cl_preallocate_UOE (l : Launch) (D : va_G) (g : Nat → ClassId) (K : dx_K) (ow vl ow' vl' : Nat → Int32) (S S' : Nat → dx_S) (p0 p1 p2 : Int32) (o : Nat) (lf : Nat → Int64) (hM : wt_ct l D g yy_DE_preallocate bb_DE_preallocate 7 (some .int) (wt_rm 8) [.ref (dx_x K), .int p0, .int p1, .int p2] (dx_w g K ow vl S) "java/lang/UnsupportedOperationException" (dx_w g K ow' vl' S')) : wc_ct l D g yy_LA_preallocate bb_LA_preallocate 6 (some .int) [(0, 12, 15, 13), (0, 12, 19, 27), (0, 12, 23, 17)] (wt_rm 9) [.ref (dx_x K), .int p0, .int p1, .int p2, .ref o] ((o, .inl (g 2, 1, .inr (.inl lf))) :: dx_w g K ow vl S) (some (.int (nI 3))) ((o, .inl (g 2, 1, .inr (.inl lf))) :: dx_w g K ow' vl' S') := by
  refine wc_start (by decide +kernel) rfl rfl (Nat.le_of_ble_eq_true rfl) (L0 := [(0, .ref (dx_x K)), (1, .int p0), (2, .int p1), (3, .int p2), (4, .ref o)]) rfl ?_
  intro X O hl hD hg hR hn htab hN F
  subst hl hD hg
  refine ww_aload O dd_LA_preallocate_0 4 rfl ?_
  refine ww_iconst O dd_LA_preallocate_2 (v := nI 0) rfl ?_
  refine ww_aload_n O dd_LA_preallocate_3 0 rfl ?_
  refine ww_iload_n O dd_LA_preallocate_4 1 rfl ?_
  refine ww_iload_n O dd_LA_preallocate_5 2 rfl ?_
  refine ww_iload_n O dd_LA_preallocate_6 3 rfl ?_
  refine ww_eqw (ws' := [(o, .inl (ww_g X 2, 1, .inr (.inl lf)))] ++ ((dx_w (ww_g X) K ow vl S) ++ [])) (by simp) ?_
  refine wm_throwV (ci := 2) O [(o, .inl (ww_g X 2, 1, .inr (.inl lf)))] [] hM lc_LA_23 lx_DE_preallocate_III_I rfl rfl rfl (by rw [hR]; decide) (by rw [hR]; decide) (by rw [hR]; decide) rfl (Nat.le_of_ble_eq_true rfl) dd_LA_preallocate_7 rfl ?_
  refine wc_catch (nm := "java/lang/UnsupportedOperationException") O [(⟨0, 12, 15, 13⟩, "java/lang/IndexOutOfBoundsException"), (⟨0, 12, 19, 27⟩, "java/lang/IllegalArgumentException")] ⟨0, 12, 23, 17⟩ [] (wc_tab htab) lk_in_UOE (List.forall_mem_cons.mpr ⟨⟨by decide, by decide, lk_LA_13, fun c1 c2 h1 h2 => hN ("java/lang/UnsupportedOperationException", "java/lang/IndexOutOfBoundsException") (by decide) c1 c2 h1 h2⟩, (List.forall_mem_cons.mpr ⟨⟨by decide, by decide, lk_LA_27, fun c1 c2 h1 h2 => hN ("java/lang/UnsupportedOperationException", "java/lang/IllegalArgumentException") (by decide) c1 c2 h1 h2⟩, (fun q hq => absurd hq List.not_mem_nil)⟩)⟩) (by decide) (by decide) lk_LA_17 lk_ca_UOE (tgt := 23) rfl ?_
  intro a
  refine ww_eqw (ws' := ((o, .inl (ww_g X 2, 1, .inr (.inl lf))) :: (dx_w (ww_g X) K ow' vl' S'))) (by simp) ?_
  refine ww_astore O dd_LA_preallocate_23 (by rw [hn]; decide) rfl (L' := [(0, .ref (dx_x K)), (1, .int p0), (2, .int p1), (3, .int p2), (4, .ref o), (5, .ref a)]) rfl ?_
  refine ww_iconst O dd_LA_preallocate_25 (v := nI 3) rfl ?_
  exact ww_wid (cs' := 1) (ss' := 6) (show 0 + 1 ≤ 1 by decide) (show 0 + 6 ≤ 6 by decide) (F _ _ dd_LA_preallocate_26)
set_option maxRecDepth 4000 in
theorem cl_punch (l : Launch) (D : va_G) (g : Nat → ClassId) (K : dx_K) (ow vl ow' vl' : Nat → Int32) (S S' : Nat → dx_S) (p0 p1 p2 : Int32) (o : Nat) (lf : Nat → Int64) (k : Nat) (hk : k ≤ 8) (v : Int32) (hM : ww_ct l D g yy_DE_punch bb_DE_punch 4 (some .int) (ww_rm k) [.ref (dx_x K), .int p0, .int p1, .int p2] (dx_w g K ow vl S) (some (.int v)) (dx_w g K ow' vl' S')) : wc_ct l D g yy_LA_punch bb_LA_punch 6 (some .int) [(0, 12, 15, 13), (0, 12, 19, 27)] (wt_rm 9) [.ref (dx_x K), .int p0, .int p1, .int p2, .ref o] ((o, .inl (g 2, 1, .inr (.inl lf))) :: dx_w g K ow vl S) (some (.int (nI 0))) ((o, .inl (g 2, 1, .inr (.inl (vp_updL lf 0 v.toInt64)))) :: dx_w g K ow' vl' S') := by
  refine wc_start (by decide +kernel) rfl rfl (Nat.le_of_ble_eq_true rfl) (L0 := [(0, .ref (dx_x K)), (1, .int p0), (2, .int p1), (3, .int p2), (4, .ref o)]) rfl ?_
  intro X O hl hD hg hR hn htab hN F
  subst hl hD hg
  refine ww_aload O dd_LA_punch_0 4 rfl ?_
  refine ww_iconst O dd_LA_punch_2 (v := nI 0) rfl ?_
  refine ww_aload_n O dd_LA_punch_3 0 rfl ?_
  refine ww_iload_n O dd_LA_punch_4 1 rfl ?_
  refine ww_iload_n O dd_LA_punch_5 2 rfl ?_
  refine ww_iload_n O dd_LA_punch_6 3 rfl ?_
  refine ww_eqw (ws' := [(o, .inl (ww_g X 2, 1, .inr (.inl lf)))] ++ ((dx_w (ww_g X) K ow vl S) ++ [])) (by simp) ?_
  refine wm_callV (ci := 2) O [(o, .inl (ww_g X 2, 1, .inr (.inl lf)))] [] hM lc_LA_29 lx_DE_punch_III_I rfl rfl rfl (by rw [hR]; show k + 1 ≤ 9 ∧ 8 + (4 + 11) + 40 * k ≤ 40 * 9; omega) (by rw [hR]; show 0 + 0 ≤ 1; decide) (by rw [hR]; show 0 + 0 ≤ 6; decide) rfl (Nat.le_of_ble_eq_true rfl) dd_LA_punch_7 rfl ?_
  refine ww_eqw (ws' := ((o, .inl (ww_g X 2, 1, .inr (.inl lf))) :: (dx_w (ww_g X) K ow' vl' S'))) (by simp) ?_
  refine ww_i2l O dd_LA_punch_10 ?_
  refine ww_last O dd_LA_punch_11 0 rfl (show 0 < 1 by decide) (by decide) (ws' := ((o, .inl (ww_g X 2, 1, .inr (.inl (vp_updL lf 0 v.toInt64)))) :: (dx_w (ww_g X) K ow' vl' S'))) rfl ?_
  refine ww_goto O dd_LA_punch_12 (tgt := 23) rfl ?_
  refine ww_iconst O dd_LA_punch_23 (v := nI 0) rfl ?_
  exact ww_wid (cs' := 1) (ss' := 6) (show 0 + 0 ≤ 1 by decide) (show 0 + 0 ≤ 6 by decide) (F _ _ dd_LA_punch_24)
set_option maxRecDepth 4000 in
theorem cl_punch_IOOBE (l : Launch) (D : va_G) (g : Nat → ClassId) (K : dx_K) (ow vl ow' vl' : Nat → Int32) (S S' : Nat → dx_S) (p0 p1 p2 : Int32) (o : Nat) (lf : Nat → Int64) (hM : wt_ct l D g yy_DE_punch bb_DE_punch 4 (some .int) (wt_rm 8) [.ref (dx_x K), .int p0, .int p1, .int p2] (dx_w g K ow vl S) "java/lang/IndexOutOfBoundsException" (dx_w g K ow' vl' S')) : wc_ct l D g yy_LA_punch bb_LA_punch 6 (some .int) [(0, 12, 15, 13), (0, 12, 19, 27)] (wt_rm 9) [.ref (dx_x K), .int p0, .int p1, .int p2, .ref o] ((o, .inl (g 2, 1, .inr (.inl lf))) :: dx_w g K ow vl S) (some (.int (nI 1))) ((o, .inl (g 2, 1, .inr (.inl lf))) :: dx_w g K ow' vl' S') := by
  refine wc_start (by decide +kernel) rfl rfl (Nat.le_of_ble_eq_true rfl) (L0 := [(0, .ref (dx_x K)), (1, .int p0), (2, .int p1), (3, .int p2), (4, .ref o)]) rfl ?_
  intro X O hl hD hg hR hn htab hN F
  subst hl hD hg
  refine ww_aload O dd_LA_punch_0 4 rfl ?_
  refine ww_iconst O dd_LA_punch_2 (v := nI 0) rfl ?_
  refine ww_aload_n O dd_LA_punch_3 0 rfl ?_
  refine ww_iload_n O dd_LA_punch_4 1 rfl ?_
  refine ww_iload_n O dd_LA_punch_5 2 rfl ?_
  refine ww_iload_n O dd_LA_punch_6 3 rfl ?_
  refine ww_eqw (ws' := [(o, .inl (ww_g X 2, 1, .inr (.inl lf)))] ++ ((dx_w (ww_g X) K ow vl S) ++ [])) (by simp) ?_
  refine wm_throwV (ci := 2) O [(o, .inl (ww_g X 2, 1, .inr (.inl lf)))] [] hM lc_LA_29 lx_DE_punch_III_I rfl rfl rfl (by rw [hR]; decide) (by rw [hR]; decide) (by rw [hR]; decide) rfl (Nat.le_of_ble_eq_true rfl) dd_LA_punch_7 rfl ?_
  refine wc_catch (nm := "java/lang/IndexOutOfBoundsException") O [] ⟨0, 12, 15, 13⟩ [⟨0, 12, 19, 27⟩] (wc_tab htab) lk_in_IOOBE (fun q hq => absurd hq List.not_mem_nil) (by decide) (by decide) lk_LA_13 lk_ca_IOOBE (tgt := 15) rfl ?_
  intro a
  refine ww_eqw (ws' := ((o, .inl (ww_g X 2, 1, .inr (.inl lf))) :: (dx_w (ww_g X) K ow' vl' S'))) (by simp) ?_
  refine ww_astore O dd_LA_punch_15 (by rw [hn]; decide) rfl (L' := [(0, .ref (dx_x K)), (1, .int p0), (2, .int p1), (3, .int p2), (4, .ref o), (5, .ref a)]) rfl ?_
  refine ww_iconst O dd_LA_punch_17 (v := nI 1) rfl ?_
  exact ww_wid (cs' := 1) (ss' := 6) (show 0 + 1 ≤ 1 by decide) (show 0 + 6 ≤ 6 by decide) (F _ _ dd_LA_punch_18)
set_option maxRecDepth 4000 in
theorem cl_punch_IAE (l : Launch) (D : va_G) (g : Nat → ClassId) (K : dx_K) (ow vl ow' vl' : Nat → Int32) (S S' : Nat → dx_S) (p0 p1 p2 : Int32) (o : Nat) (lf : Nat → Int64) (hM : wt_ct l D g yy_DE_punch bb_DE_punch 4 (some .int) (wt_rm 8) [.ref (dx_x K), .int p0, .int p1, .int p2] (dx_w g K ow vl S) "java/lang/IllegalArgumentException" (dx_w g K ow' vl' S')) : wc_ct l D g yy_LA_punch bb_LA_punch 6 (some .int) [(0, 12, 15, 13), (0, 12, 19, 27)] (wt_rm 9) [.ref (dx_x K), .int p0, .int p1, .int p2, .ref o] ((o, .inl (g 2, 1, .inr (.inl lf))) :: dx_w g K ow vl S) (some (.int (nI 2))) ((o, .inl (g 2, 1, .inr (.inl lf))) :: dx_w g K ow' vl' S') := by
  refine wc_start (by decide +kernel) rfl rfl (Nat.le_of_ble_eq_true rfl) (L0 := [(0, .ref (dx_x K)), (1, .int p0), (2, .int p1), (3, .int p2), (4, .ref o)]) rfl ?_
  intro X O hl hD hg hR hn htab hN F
  subst hl hD hg
  refine ww_aload O dd_LA_punch_0 4 rfl ?_
  refine ww_iconst O dd_LA_punch_2 (v := nI 0) rfl ?_
  refine ww_aload_n O dd_LA_punch_3 0 rfl ?_
  refine ww_iload_n O dd_LA_punch_4 1 rfl ?_
  refine ww_iload_n O dd_LA_punch_5 2 rfl ?_
  refine ww_iload_n O dd_LA_punch_6 3 rfl ?_
  refine ww_eqw (ws' := [(o, .inl (ww_g X 2, 1, .inr (.inl lf)))] ++ ((dx_w (ww_g X) K ow vl S) ++ [])) (by simp) ?_
  refine wm_throwV (ci := 2) O [(o, .inl (ww_g X 2, 1, .inr (.inl lf)))] [] hM lc_LA_29 lx_DE_punch_III_I rfl rfl rfl (by rw [hR]; decide) (by rw [hR]; decide) (by rw [hR]; decide) rfl (Nat.le_of_ble_eq_true rfl) dd_LA_punch_7 rfl ?_
  refine wc_catch (nm := "java/lang/IllegalArgumentException") O [(⟨0, 12, 15, 13⟩, "java/lang/IndexOutOfBoundsException")] ⟨0, 12, 19, 27⟩ [] (wc_tab htab) lk_in_IAE (List.forall_mem_cons.mpr ⟨⟨by decide, by decide, lk_LA_13, fun c1 c2 h1 h2 => hN ("java/lang/IllegalArgumentException", "java/lang/IndexOutOfBoundsException") (by decide) c1 c2 h1 h2⟩, (fun q hq => absurd hq List.not_mem_nil)⟩) (by decide) (by decide) lk_LA_27 lk_ca_IAE (tgt := 19) rfl ?_
  intro a
  refine ww_eqw (ws' := ((o, .inl (ww_g X 2, 1, .inr (.inl lf))) :: (dx_w (ww_g X) K ow' vl' S'))) (by simp) ?_
  refine ww_astore O dd_LA_punch_19 (by rw [hn]; decide) rfl (L' := [(0, .ref (dx_x K)), (1, .int p0), (2, .int p1), (3, .int p2), (4, .ref o), (5, .ref a)]) rfl ?_
  refine ww_iconst O dd_LA_punch_21 (v := nI 2) rfl ?_
  exact ww_wid (cs' := 1) (ss' := 6) (show 0 + 1 ≤ 1 by decide) (show 0 + 6 ≤ 6 by decide) (F _ _ dd_LA_punch_22)
set_option maxRecDepth 4000 in
theorem cl_truncate (l : Launch) (D : va_G) (g : Nat → ClassId) (K : dx_K) (ow vl ow' vl' : Nat → Int32) (S S' : Nat → dx_S) (p0 p1 : Int32) (o : Nat) (lf : Nat → Int64) (k : Nat) (hk : k ≤ 8) (v : Int32) (hM : ww_ct l D g yy_DE_truncate bb_DE_truncate 3 (some .int) (ww_rm k) [.ref (dx_x K), .int p0, .int p1] (dx_w g K ow vl S) (some (.int v)) (dx_w g K ow' vl' S')) : wc_ct l D g yy_LA_truncate bb_LA_truncate 5 (some .int) [(0, 10, 13, 13), (0, 10, 17, 27)] (wt_rm 9) [.ref (dx_x K), .int p0, .int p1, .ref o] ((o, .inl (g 2, 1, .inr (.inl lf))) :: dx_w g K ow vl S) (some (.int (nI 0))) ((o, .inl (g 2, 1, .inr (.inl (vp_updL lf 0 v.toInt64)))) :: dx_w g K ow' vl' S') := by
  refine wc_start (by decide +kernel) rfl rfl (Nat.le_of_ble_eq_true rfl) (L0 := [(0, .ref (dx_x K)), (1, .int p0), (2, .int p1), (3, .ref o)]) rfl ?_
  intro X O hl hD hg hR hn htab hN F
  subst hl hD hg
  refine ww_aload_n O dd_LA_truncate_0 3 rfl ?_
  refine ww_iconst O dd_LA_truncate_1 (v := nI 0) rfl ?_
  refine ww_aload_n O dd_LA_truncate_2 0 rfl ?_
  refine ww_iload_n O dd_LA_truncate_3 1 rfl ?_
  refine ww_iload_n O dd_LA_truncate_4 2 rfl ?_
  refine ww_eqw (ws' := [(o, .inl (ww_g X 2, 1, .inr (.inl lf)))] ++ ((dx_w (ww_g X) K ow vl S) ++ [])) (by simp) ?_
  refine wm_callV (ci := 2) O [(o, .inl (ww_g X 2, 1, .inr (.inl lf)))] [] hM lc_LA_32 lx_DE_truncate_II_I rfl rfl rfl (by rw [hR]; show k + 1 ≤ 9 ∧ 8 + (3 + 11) + 40 * k ≤ 40 * 9; omega) (by rw [hR]; show 0 + 0 ≤ 1; decide) (by rw [hR]; show 0 + 0 ≤ 6; decide) rfl (Nat.le_of_ble_eq_true rfl) dd_LA_truncate_5 rfl ?_
  refine ww_eqw (ws' := ((o, .inl (ww_g X 2, 1, .inr (.inl lf))) :: (dx_w (ww_g X) K ow' vl' S'))) (by simp) ?_
  refine ww_i2l O dd_LA_truncate_8 ?_
  refine ww_last O dd_LA_truncate_9 0 rfl (show 0 < 1 by decide) (by decide) (ws' := ((o, .inl (ww_g X 2, 1, .inr (.inl (vp_updL lf 0 v.toInt64)))) :: (dx_w (ww_g X) K ow' vl' S'))) rfl ?_
  refine ww_goto O dd_LA_truncate_10 (tgt := 21) rfl ?_
  refine ww_iconst O dd_LA_truncate_21 (v := nI 0) rfl ?_
  exact ww_wid (cs' := 1) (ss' := 6) (show 0 + 0 ≤ 1 by decide) (show 0 + 0 ≤ 6 by decide) (F _ _ dd_LA_truncate_22)
set_option maxRecDepth 4000 in
theorem cl_truncate_IOOBE (l : Launch) (D : va_G) (g : Nat → ClassId) (K : dx_K) (ow vl ow' vl' : Nat → Int32) (S S' : Nat → dx_S) (p0 p1 : Int32) (o : Nat) (lf : Nat → Int64) (hM : wt_ct l D g yy_DE_truncate bb_DE_truncate 3 (some .int) (wt_rm 8) [.ref (dx_x K), .int p0, .int p1] (dx_w g K ow vl S) "java/lang/IndexOutOfBoundsException" (dx_w g K ow' vl' S')) : wc_ct l D g yy_LA_truncate bb_LA_truncate 5 (some .int) [(0, 10, 13, 13), (0, 10, 17, 27)] (wt_rm 9) [.ref (dx_x K), .int p0, .int p1, .ref o] ((o, .inl (g 2, 1, .inr (.inl lf))) :: dx_w g K ow vl S) (some (.int (nI 1))) ((o, .inl (g 2, 1, .inr (.inl lf))) :: dx_w g K ow' vl' S') := by
  refine wc_start (by decide +kernel) rfl rfl (Nat.le_of_ble_eq_true rfl) (L0 := [(0, .ref (dx_x K)), (1, .int p0), (2, .int p1), (3, .ref o)]) rfl ?_
  intro X O hl hD hg hR hn htab hN F
  subst hl hD hg
  refine ww_aload_n O dd_LA_truncate_0 3 rfl ?_
  refine ww_iconst O dd_LA_truncate_1 (v := nI 0) rfl ?_
  refine ww_aload_n O dd_LA_truncate_2 0 rfl ?_
  refine ww_iload_n O dd_LA_truncate_3 1 rfl ?_
  refine ww_iload_n O dd_LA_truncate_4 2 rfl ?_
  refine ww_eqw (ws' := [(o, .inl (ww_g X 2, 1, .inr (.inl lf)))] ++ ((dx_w (ww_g X) K ow vl S) ++ [])) (by simp) ?_
  refine wm_throwV (ci := 2) O [(o, .inl (ww_g X 2, 1, .inr (.inl lf)))] [] hM lc_LA_32 lx_DE_truncate_II_I rfl rfl rfl (by rw [hR]; decide) (by rw [hR]; decide) (by rw [hR]; decide) rfl (Nat.le_of_ble_eq_true rfl) dd_LA_truncate_5 rfl ?_
  refine wc_catch (nm := "java/lang/IndexOutOfBoundsException") O [] ⟨0, 10, 13, 13⟩ [⟨0, 10, 17, 27⟩] (wc_tab htab) lk_in_IOOBE (fun q hq => absurd hq List.not_mem_nil) (by decide) (by decide) lk_LA_13 lk_ca_IOOBE (tgt := 13) rfl ?_
  intro a
  refine ww_eqw (ws' := ((o, .inl (ww_g X 2, 1, .inr (.inl lf))) :: (dx_w (ww_g X) K ow' vl' S'))) (by simp) ?_
  refine ww_astore O dd_LA_truncate_13 (by rw [hn]; decide) rfl (L' := [(0, .ref (dx_x K)), (1, .int p0), (2, .int p1), (3, .ref o), (4, .ref a)]) rfl ?_
  refine ww_iconst O dd_LA_truncate_15 (v := nI 1) rfl ?_
  exact ww_wid (cs' := 1) (ss' := 6) (show 0 + 1 ≤ 1 by decide) (show 0 + 6 ≤ 6 by decide) (F _ _ dd_LA_truncate_16)
set_option maxRecDepth 4000 in
theorem cl_truncate_IAE (l : Launch) (D : va_G) (g : Nat → ClassId) (K : dx_K) (ow vl ow' vl' : Nat → Int32) (S S' : Nat → dx_S) (p0 p1 : Int32) (o : Nat) (lf : Nat → Int64) (hM : wt_ct l D g yy_DE_truncate bb_DE_truncate 3 (some .int) (wt_rm 8) [.ref (dx_x K), .int p0, .int p1] (dx_w g K ow vl S) "java/lang/IllegalArgumentException" (dx_w g K ow' vl' S')) : wc_ct l D g yy_LA_truncate bb_LA_truncate 5 (some .int) [(0, 10, 13, 13), (0, 10, 17, 27)] (wt_rm 9) [.ref (dx_x K), .int p0, .int p1, .ref o] ((o, .inl (g 2, 1, .inr (.inl lf))) :: dx_w g K ow vl S) (some (.int (nI 2))) ((o, .inl (g 2, 1, .inr (.inl lf))) :: dx_w g K ow' vl' S') := by
  refine wc_start (by decide +kernel) rfl rfl (Nat.le_of_ble_eq_true rfl) (L0 := [(0, .ref (dx_x K)), (1, .int p0), (2, .int p1), (3, .ref o)]) rfl ?_
  intro X O hl hD hg hR hn htab hN F
  subst hl hD hg
  refine ww_aload_n O dd_LA_truncate_0 3 rfl ?_
  refine ww_iconst O dd_LA_truncate_1 (v := nI 0) rfl ?_
  refine ww_aload_n O dd_LA_truncate_2 0 rfl ?_
  refine ww_iload_n O dd_LA_truncate_3 1 rfl ?_
  refine ww_iload_n O dd_LA_truncate_4 2 rfl ?_
  refine ww_eqw (ws' := [(o, .inl (ww_g X 2, 1, .inr (.inl lf)))] ++ ((dx_w (ww_g X) K ow vl S) ++ [])) (by simp) ?_
  refine wm_throwV (ci := 2) O [(o, .inl (ww_g X 2, 1, .inr (.inl lf)))] [] hM lc_LA_32 lx_DE_truncate_II_I rfl rfl rfl (by rw [hR]; decide) (by rw [hR]; decide) (by rw [hR]; decide) rfl (Nat.le_of_ble_eq_true rfl) dd_LA_truncate_5 rfl ?_
  refine wc_catch (nm := "java/lang/IllegalArgumentException") O [(⟨0, 10, 13, 13⟩, "java/lang/IndexOutOfBoundsException")] ⟨0, 10, 17, 27⟩ [] (wc_tab htab) lk_in_IAE (List.forall_mem_cons.mpr ⟨⟨by decide, by decide, lk_LA_13, fun c1 c2 h1 h2 => hN ("java/lang/IllegalArgumentException", "java/lang/IndexOutOfBoundsException") (by decide) c1 c2 h1 h2⟩, (fun q hq => absurd hq List.not_mem_nil)⟩) (by decide) (by decide) lk_LA_27 lk_ca_IAE (tgt := 17) rfl ?_
  intro a
  refine ww_eqw (ws' := ((o, .inl (ww_g X 2, 1, .inr (.inl lf))) :: (dx_w (ww_g X) K ow' vl' S'))) (by simp) ?_
  refine ww_astore O dd_LA_truncate_17 (by rw [hn]; decide) rfl (L' := [(0, .ref (dx_x K)), (1, .int p0), (2, .int p1), (3, .ref o), (4, .ref a)]) rfl ?_
  refine ww_iconst O dd_LA_truncate_19 (v := nI 2) rfl ?_
  exact ww_wid (cs' := 1) (ss' := 6) (show 0 + 1 ≤ 1 by decide) (show 0 + 6 ≤ 6 by decide) (F _ _ dd_LA_truncate_20)
set_option maxRecDepth 4000 in
theorem cl_flush (l : Launch) (D : va_G) (g : Nat → ClassId) (K : dx_K) (ow vl ow' vl' : Nat → Int32) (S S' : Nat → dx_S) (p0 : Int32) (o : Nat) (lf : Nat → Int64) (k : Nat) (hk : k ≤ 8) (v : Int32) (hM : ww_ct l D g yy_DE_flush bb_DE_flush 3 (some .int) (ww_rm k) [.ref (dx_x K), .int p0] (dx_w g K ow vl S) (some (.int v)) (dx_w g K ow' vl' S')) : wc_ct l D g yy_LA_flush bb_LA_flush 4 (some .int) [(0, 9, 12, 13)] (wt_rm 9) [.ref (dx_x K), .int p0, .ref o] ((o, .inl (g 2, 1, .inr (.inl lf))) :: dx_w g K ow vl S) (some (.int (nI 0))) ((o, .inl (g 2, 1, .inr (.inl (vp_updL lf 0 v.toInt64)))) :: dx_w g K ow' vl' S') := by
  refine wc_start (by decide +kernel) rfl rfl (Nat.le_of_ble_eq_true rfl) (L0 := [(0, .ref (dx_x K)), (1, .int p0), (2, .ref o)]) rfl ?_
  intro X O hl hD hg hR hn htab hN F
  subst hl hD hg
  refine ww_aload_n O dd_LA_flush_0 2 rfl ?_
  refine ww_iconst O dd_LA_flush_1 (v := nI 0) rfl ?_
  refine ww_aload_n O dd_LA_flush_2 0 rfl ?_
  refine ww_iload_n O dd_LA_flush_3 1 rfl ?_
  refine ww_eqw (ws' := [(o, .inl (ww_g X 2, 1, .inr (.inl lf)))] ++ ((dx_w (ww_g X) K ow vl S) ++ [])) (by simp) ?_
  refine wm_callV (ci := 2) O [(o, .inl (ww_g X 2, 1, .inr (.inl lf)))] [] hM lc_LA_35 lx_DE_flush_I_I rfl rfl rfl (by rw [hR]; show k + 1 ≤ 9 ∧ 8 + (3 + 11) + 40 * k ≤ 40 * 9; omega) (by rw [hR]; show 0 + 0 ≤ 1; decide) (by rw [hR]; show 0 + 0 ≤ 6; decide) rfl (Nat.le_of_ble_eq_true rfl) dd_LA_flush_4 rfl ?_
  refine ww_eqw (ws' := ((o, .inl (ww_g X 2, 1, .inr (.inl lf))) :: (dx_w (ww_g X) K ow' vl' S'))) (by simp) ?_
  refine ww_i2l O dd_LA_flush_7 ?_
  refine ww_last O dd_LA_flush_8 0 rfl (show 0 < 1 by decide) (by decide) (ws' := ((o, .inl (ww_g X 2, 1, .inr (.inl (vp_updL lf 0 v.toInt64)))) :: (dx_w (ww_g X) K ow' vl' S'))) rfl ?_
  refine ww_goto O dd_LA_flush_9 (tgt := 15) rfl ?_
  refine ww_iconst O dd_LA_flush_15 (v := nI 0) rfl ?_
  exact ww_wid (cs' := 1) (ss' := 6) (show 0 + 0 ≤ 1 by decide) (show 0 + 0 ≤ 6 by decide) (F _ _ dd_LA_flush_16)
set_option maxRecDepth 4000 in
theorem cl_flush_IOOBE (l : Launch) (D : va_G) (g : Nat → ClassId) (K : dx_K) (ow vl ow' vl' : Nat → Int32) (S S' : Nat → dx_S) (p0 : Int32) (o : Nat) (lf : Nat → Int64) (hM : wt_ct l D g yy_DE_flush bb_DE_flush 3 (some .int) (wt_rm 8) [.ref (dx_x K), .int p0] (dx_w g K ow vl S) "java/lang/IndexOutOfBoundsException" (dx_w g K ow' vl' S')) : wc_ct l D g yy_LA_flush bb_LA_flush 4 (some .int) [(0, 9, 12, 13)] (wt_rm 9) [.ref (dx_x K), .int p0, .ref o] ((o, .inl (g 2, 1, .inr (.inl lf))) :: dx_w g K ow vl S) (some (.int (nI 1))) ((o, .inl (g 2, 1, .inr (.inl lf))) :: dx_w g K ow' vl' S') := by
  refine wc_start (by decide +kernel) rfl rfl (Nat.le_of_ble_eq_true rfl) (L0 := [(0, .ref (dx_x K)), (1, .int p0), (2, .ref o)]) rfl ?_
  intro X O hl hD hg hR hn htab hN F
  subst hl hD hg
  refine ww_aload_n O dd_LA_flush_0 2 rfl ?_
  refine ww_iconst O dd_LA_flush_1 (v := nI 0) rfl ?_
  refine ww_aload_n O dd_LA_flush_2 0 rfl ?_
  refine ww_iload_n O dd_LA_flush_3 1 rfl ?_
  refine ww_eqw (ws' := [(o, .inl (ww_g X 2, 1, .inr (.inl lf)))] ++ ((dx_w (ww_g X) K ow vl S) ++ [])) (by simp) ?_
  refine wm_throwV (ci := 2) O [(o, .inl (ww_g X 2, 1, .inr (.inl lf)))] [] hM lc_LA_35 lx_DE_flush_I_I rfl rfl rfl (by rw [hR]; decide) (by rw [hR]; decide) (by rw [hR]; decide) rfl (Nat.le_of_ble_eq_true rfl) dd_LA_flush_4 rfl ?_
  refine wc_catch (nm := "java/lang/IndexOutOfBoundsException") O [] ⟨0, 9, 12, 13⟩ [] (wc_tab htab) lk_in_IOOBE (fun q hq => absurd hq List.not_mem_nil) (by decide) (by decide) lk_LA_13 lk_ca_IOOBE (tgt := 12) rfl ?_
  intro a
  refine ww_eqw (ws' := ((o, .inl (ww_g X 2, 1, .inr (.inl lf))) :: (dx_w (ww_g X) K ow' vl' S'))) (by simp) ?_
  refine ww_astore_n O dd_LA_flush_12 (by rw [hn]; decide) rfl (L' := [(0, .ref (dx_x K)), (1, .int p0), (2, .ref o), (3, .ref a)]) rfl ?_
  refine ww_iconst O dd_LA_flush_13 (v := nI 1) rfl ?_
  exact ww_wid (cs' := 1) (ss' := 6) (show 0 + 1 ≤ 1 by decide) (show 0 + 6 ≤ 6 by decide) (F _ _ dd_LA_flush_14)
set_option maxRecDepth 4000 in
theorem cl_extent (l : Launch) (D : va_G) (g : Nat → ClassId) (K : dx_K) (ow vl ow' vl' : Nat → Int32) (S S' : Nat → dx_S) (p0 p1 p2 : Int32) (o : Nat) (lf : Nat → Int64) (k : Nat) (hk : k ≤ 8) (v : Int32) (hM : ww_ct l D g yy_DE_extent bb_DE_extent 6 (some .int) (ww_rm k) [.ref (dx_x K), .int p0, .int p1, .int p2] (dx_w g K ow vl S) (some (.int v)) (dx_w g K ow' vl' S')) : wc_ct l D g yy_LA_extent bb_LA_extent 6 (some .int) [(0, 12, 15, 13), (0, 12, 19, 27)] (wt_rm 9) [.ref (dx_x K), .int p0, .int p1, .int p2, .ref o] ((o, .inl (g 2, 1, .inr (.inl lf))) :: dx_w g K ow vl S) (some (.int (nI 0))) ((o, .inl (g 2, 1, .inr (.inl (vp_updL lf 0 v.toInt64)))) :: dx_w g K ow' vl' S') := by
  refine wc_start (by decide +kernel) rfl rfl (Nat.le_of_ble_eq_true rfl) (L0 := [(0, .ref (dx_x K)), (1, .int p0), (2, .int p1), (3, .int p2), (4, .ref o)]) rfl ?_
  intro X O hl hD hg hR hn htab hN F
  subst hl hD hg
  refine ww_aload O dd_LA_extent_0 4 rfl ?_
  refine ww_iconst O dd_LA_extent_2 (v := nI 0) rfl ?_
  refine ww_aload_n O dd_LA_extent_3 0 rfl ?_
  refine ww_iload_n O dd_LA_extent_4 1 rfl ?_
  refine ww_iload_n O dd_LA_extent_5 2 rfl ?_
  refine ww_iload_n O dd_LA_extent_6 3 rfl ?_
  refine ww_eqw (ws' := [(o, .inl (ww_g X 2, 1, .inr (.inl lf)))] ++ ((dx_w (ww_g X) K ow vl S) ++ [])) (by simp) ?_
  refine wm_callV (ci := 2) O [(o, .inl (ww_g X 2, 1, .inr (.inl lf)))] [] hM lc_LA_39 lx_DE_extent_III_I rfl rfl rfl (by rw [hR]; show k + 1 ≤ 9 ∧ 8 + (6 + 11) + 40 * k ≤ 40 * 9; omega) (by rw [hR]; show 0 + 0 ≤ 1; decide) (by rw [hR]; show 0 + 0 ≤ 6; decide) rfl (Nat.le_of_ble_eq_true rfl) dd_LA_extent_7 rfl ?_
  refine ww_eqw (ws' := ((o, .inl (ww_g X 2, 1, .inr (.inl lf))) :: (dx_w (ww_g X) K ow' vl' S'))) (by simp) ?_
  refine ww_i2l O dd_LA_extent_10 ?_
  refine ww_last O dd_LA_extent_11 0 rfl (show 0 < 1 by decide) (by decide) (ws' := ((o, .inl (ww_g X 2, 1, .inr (.inl (vp_updL lf 0 v.toInt64)))) :: (dx_w (ww_g X) K ow' vl' S'))) rfl ?_
  refine ww_goto O dd_LA_extent_12 (tgt := 23) rfl ?_
  refine ww_iconst O dd_LA_extent_23 (v := nI 0) rfl ?_
  exact ww_wid (cs' := 1) (ss' := 6) (show 0 + 0 ≤ 1 by decide) (show 0 + 0 ≤ 6 by decide) (F _ _ dd_LA_extent_24)
set_option maxRecDepth 4000 in
theorem cl_extent_IOOBE (l : Launch) (D : va_G) (g : Nat → ClassId) (K : dx_K) (ow vl ow' vl' : Nat → Int32) (S S' : Nat → dx_S) (p0 p1 p2 : Int32) (o : Nat) (lf : Nat → Int64) (hM : wt_ct l D g yy_DE_extent bb_DE_extent 6 (some .int) (wt_rm 8) [.ref (dx_x K), .int p0, .int p1, .int p2] (dx_w g K ow vl S) "java/lang/IndexOutOfBoundsException" (dx_w g K ow' vl' S')) : wc_ct l D g yy_LA_extent bb_LA_extent 6 (some .int) [(0, 12, 15, 13), (0, 12, 19, 27)] (wt_rm 9) [.ref (dx_x K), .int p0, .int p1, .int p2, .ref o] ((o, .inl (g 2, 1, .inr (.inl lf))) :: dx_w g K ow vl S) (some (.int (nI 1))) ((o, .inl (g 2, 1, .inr (.inl lf))) :: dx_w g K ow' vl' S') := by
  refine wc_start (by decide +kernel) rfl rfl (Nat.le_of_ble_eq_true rfl) (L0 := [(0, .ref (dx_x K)), (1, .int p0), (2, .int p1), (3, .int p2), (4, .ref o)]) rfl ?_
  intro X O hl hD hg hR hn htab hN F
  subst hl hD hg
  refine ww_aload O dd_LA_extent_0 4 rfl ?_
  refine ww_iconst O dd_LA_extent_2 (v := nI 0) rfl ?_
  refine ww_aload_n O dd_LA_extent_3 0 rfl ?_
  refine ww_iload_n O dd_LA_extent_4 1 rfl ?_
  refine ww_iload_n O dd_LA_extent_5 2 rfl ?_
  refine ww_iload_n O dd_LA_extent_6 3 rfl ?_
  refine ww_eqw (ws' := [(o, .inl (ww_g X 2, 1, .inr (.inl lf)))] ++ ((dx_w (ww_g X) K ow vl S) ++ [])) (by simp) ?_
  refine wm_throwV (ci := 2) O [(o, .inl (ww_g X 2, 1, .inr (.inl lf)))] [] hM lc_LA_39 lx_DE_extent_III_I rfl rfl rfl (by rw [hR]; decide) (by rw [hR]; decide) (by rw [hR]; decide) rfl (Nat.le_of_ble_eq_true rfl) dd_LA_extent_7 rfl ?_
  refine wc_catch (nm := "java/lang/IndexOutOfBoundsException") O [] ⟨0, 12, 15, 13⟩ [⟨0, 12, 19, 27⟩] (wc_tab htab) lk_in_IOOBE (fun q hq => absurd hq List.not_mem_nil) (by decide) (by decide) lk_LA_13 lk_ca_IOOBE (tgt := 15) rfl ?_
  intro a
  refine ww_eqw (ws' := ((o, .inl (ww_g X 2, 1, .inr (.inl lf))) :: (dx_w (ww_g X) K ow' vl' S'))) (by simp) ?_
  refine ww_astore O dd_LA_extent_15 (by rw [hn]; decide) rfl (L' := [(0, .ref (dx_x K)), (1, .int p0), (2, .int p1), (3, .int p2), (4, .ref o), (5, .ref a)]) rfl ?_
  refine ww_iconst O dd_LA_extent_17 (v := nI 1) rfl ?_
  exact ww_wid (cs' := 1) (ss' := 6) (show 0 + 1 ≤ 1 by decide) (show 0 + 6 ≤ 6 by decide) (F _ _ dd_LA_extent_18)
set_option maxRecDepth 4000 in
theorem cl_extent_IAE (l : Launch) (D : va_G) (g : Nat → ClassId) (K : dx_K) (ow vl ow' vl' : Nat → Int32) (S S' : Nat → dx_S) (p0 p1 p2 : Int32) (o : Nat) (lf : Nat → Int64) (hM : wt_ct l D g yy_DE_extent bb_DE_extent 6 (some .int) (wt_rm 8) [.ref (dx_x K), .int p0, .int p1, .int p2] (dx_w g K ow vl S) "java/lang/IllegalArgumentException" (dx_w g K ow' vl' S')) : wc_ct l D g yy_LA_extent bb_LA_extent 6 (some .int) [(0, 12, 15, 13), (0, 12, 19, 27)] (wt_rm 9) [.ref (dx_x K), .int p0, .int p1, .int p2, .ref o] ((o, .inl (g 2, 1, .inr (.inl lf))) :: dx_w g K ow vl S) (some (.int (nI 2))) ((o, .inl (g 2, 1, .inr (.inl lf))) :: dx_w g K ow' vl' S') := by
  refine wc_start (by decide +kernel) rfl rfl (Nat.le_of_ble_eq_true rfl) (L0 := [(0, .ref (dx_x K)), (1, .int p0), (2, .int p1), (3, .int p2), (4, .ref o)]) rfl ?_
  intro X O hl hD hg hR hn htab hN F
  subst hl hD hg
  refine ww_aload O dd_LA_extent_0 4 rfl ?_
  refine ww_iconst O dd_LA_extent_2 (v := nI 0) rfl ?_
  refine ww_aload_n O dd_LA_extent_3 0 rfl ?_
  refine ww_iload_n O dd_LA_extent_4 1 rfl ?_
  refine ww_iload_n O dd_LA_extent_5 2 rfl ?_
  refine ww_iload_n O dd_LA_extent_6 3 rfl ?_
  refine ww_eqw (ws' := [(o, .inl (ww_g X 2, 1, .inr (.inl lf)))] ++ ((dx_w (ww_g X) K ow vl S) ++ [])) (by simp) ?_
  refine wm_throwV (ci := 2) O [(o, .inl (ww_g X 2, 1, .inr (.inl lf)))] [] hM lc_LA_39 lx_DE_extent_III_I rfl rfl rfl (by rw [hR]; decide) (by rw [hR]; decide) (by rw [hR]; decide) rfl (Nat.le_of_ble_eq_true rfl) dd_LA_extent_7 rfl ?_
  refine wc_catch (nm := "java/lang/IllegalArgumentException") O [(⟨0, 12, 15, 13⟩, "java/lang/IndexOutOfBoundsException")] ⟨0, 12, 19, 27⟩ [] (wc_tab htab) lk_in_IAE (List.forall_mem_cons.mpr ⟨⟨by decide, by decide, lk_LA_13, fun c1 c2 h1 h2 => hN ("java/lang/IllegalArgumentException", "java/lang/IndexOutOfBoundsException") (by decide) c1 c2 h1 h2⟩, (fun q hq => absurd hq List.not_mem_nil)⟩) (by decide) (by decide) lk_LA_27 lk_ca_IAE (tgt := 19) rfl ?_
  intro a
  refine ww_eqw (ws' := ((o, .inl (ww_g X 2, 1, .inr (.inl lf))) :: (dx_w (ww_g X) K ow' vl' S'))) (by simp) ?_
  refine ww_astore O dd_LA_extent_19 (by rw [hn]; decide) rfl (L' := [(0, .ref (dx_x K)), (1, .int p0), (2, .int p1), (3, .int p2), (4, .ref o), (5, .ref a)]) rfl ?_
  refine ww_iconst O dd_LA_extent_21 (v := nI 2) rfl ?_
  exact ww_wid (cs' := 1) (ss' := 6) (show 0 + 1 ≤ 1 by decide) (show 0 + 6 ≤ 6 by decide) (F _ _ dd_LA_extent_22)
set_option maxRecDepth 4000 in
theorem cl_about (l : Launch) (D : va_G) (g : Nat → ClassId) (K : dx_K) (ow vl ow' vl' : Nat → Int32) (S S' : Nat → dx_S) (p0 p1 : Int32) (o : Nat) (lf : Nat → Int64) (k : Nat) (hk : k ≤ 8) (v : Int32) (hM : ww_ct l D g yy_DE_about bb_DE_about 4 (some .int) (ww_rm k) [.ref (dx_x K), .int p0, .int p1] (dx_w g K ow vl S) (some (.int v)) (dx_w g K ow' vl' S')) : wc_ct l D g yy_LA_about bb_LA_about 5 (some .int) [(0, 10, 13, 13), (0, 10, 17, 27)] (wt_rm 9) [.ref (dx_x K), .int p0, .int p1, .ref o] ((o, .inl (g 2, 1, .inr (.inl lf))) :: dx_w g K ow vl S) (some (.int (nI 0))) ((o, .inl (g 2, 1, .inr (.inl (vp_updL lf 0 v.toInt64)))) :: dx_w g K ow' vl' S') := by
  refine wc_start (by decide +kernel) rfl rfl (Nat.le_of_ble_eq_true rfl) (L0 := [(0, .ref (dx_x K)), (1, .int p0), (2, .int p1), (3, .ref o)]) rfl ?_
  intro X O hl hD hg hR hn htab hN F
  subst hl hD hg
  refine ww_aload_n O dd_LA_about_0 3 rfl ?_
  refine ww_iconst O dd_LA_about_1 (v := nI 0) rfl ?_
  refine ww_aload_n O dd_LA_about_2 0 rfl ?_
  refine ww_iload_n O dd_LA_about_3 1 rfl ?_
  refine ww_iload_n O dd_LA_about_4 2 rfl ?_
  refine ww_eqw (ws' := [(o, .inl (ww_g X 2, 1, .inr (.inl lf)))] ++ ((dx_w (ww_g X) K ow vl S) ++ [])) (by simp) ?_
  refine wm_callV (ci := 2) O [(o, .inl (ww_g X 2, 1, .inr (.inl lf)))] [] hM lc_LA_42 lx_DE_about_II_I rfl rfl rfl (by rw [hR]; show k + 1 ≤ 9 ∧ 8 + (4 + 11) + 40 * k ≤ 40 * 9; omega) (by rw [hR]; show 0 + 0 ≤ 1; decide) (by rw [hR]; show 0 + 0 ≤ 6; decide) rfl (Nat.le_of_ble_eq_true rfl) dd_LA_about_5 rfl ?_
  refine ww_eqw (ws' := ((o, .inl (ww_g X 2, 1, .inr (.inl lf))) :: (dx_w (ww_g X) K ow' vl' S'))) (by simp) ?_
  refine ww_i2l O dd_LA_about_8 ?_
  refine ww_last O dd_LA_about_9 0 rfl (show 0 < 1 by decide) (by decide) (ws' := ((o, .inl (ww_g X 2, 1, .inr (.inl (vp_updL lf 0 v.toInt64)))) :: (dx_w (ww_g X) K ow' vl' S'))) rfl ?_
  refine ww_goto O dd_LA_about_10 (tgt := 21) rfl ?_
  refine ww_iconst O dd_LA_about_21 (v := nI 0) rfl ?_
  exact ww_wid (cs' := 1) (ss' := 6) (show 0 + 0 ≤ 1 by decide) (show 0 + 0 ≤ 6 by decide) (F _ _ dd_LA_about_22)
set_option maxRecDepth 4000 in
theorem cl_about_IOOBE (l : Launch) (D : va_G) (g : Nat → ClassId) (K : dx_K) (ow vl ow' vl' : Nat → Int32) (S S' : Nat → dx_S) (p0 p1 : Int32) (o : Nat) (lf : Nat → Int64) (hM : wt_ct l D g yy_DE_about bb_DE_about 4 (some .int) (wt_rm 8) [.ref (dx_x K), .int p0, .int p1] (dx_w g K ow vl S) "java/lang/IndexOutOfBoundsException" (dx_w g K ow' vl' S')) : wc_ct l D g yy_LA_about bb_LA_about 5 (some .int) [(0, 10, 13, 13), (0, 10, 17, 27)] (wt_rm 9) [.ref (dx_x K), .int p0, .int p1, .ref o] ((o, .inl (g 2, 1, .inr (.inl lf))) :: dx_w g K ow vl S) (some (.int (nI 1))) ((o, .inl (g 2, 1, .inr (.inl lf))) :: dx_w g K ow' vl' S') := by
  refine wc_start (by decide +kernel) rfl rfl (Nat.le_of_ble_eq_true rfl) (L0 := [(0, .ref (dx_x K)), (1, .int p0), (2, .int p1), (3, .ref o)]) rfl ?_
  intro X O hl hD hg hR hn htab hN F
  subst hl hD hg
  refine ww_aload_n O dd_LA_about_0 3 rfl ?_
  refine ww_iconst O dd_LA_about_1 (v := nI 0) rfl ?_
  refine ww_aload_n O dd_LA_about_2 0 rfl ?_
  refine ww_iload_n O dd_LA_about_3 1 rfl ?_
  refine ww_iload_n O dd_LA_about_4 2 rfl ?_
  refine ww_eqw (ws' := [(o, .inl (ww_g X 2, 1, .inr (.inl lf)))] ++ ((dx_w (ww_g X) K ow vl S) ++ [])) (by simp) ?_
  refine wm_throwV (ci := 2) O [(o, .inl (ww_g X 2, 1, .inr (.inl lf)))] [] hM lc_LA_42 lx_DE_about_II_I rfl rfl rfl (by rw [hR]; decide) (by rw [hR]; decide) (by rw [hR]; decide) rfl (Nat.le_of_ble_eq_true rfl) dd_LA_about_5 rfl ?_
  refine wc_catch (nm := "java/lang/IndexOutOfBoundsException") O [] ⟨0, 10, 13, 13⟩ [⟨0, 10, 17, 27⟩] (wc_tab htab) lk_in_IOOBE (fun q hq => absurd hq List.not_mem_nil) (by decide) (by decide) lk_LA_13 lk_ca_IOOBE (tgt := 13) rfl ?_
  intro a
  refine ww_eqw (ws' := ((o, .inl (ww_g X 2, 1, .inr (.inl lf))) :: (dx_w (ww_g X) K ow' vl' S'))) (by simp) ?_
  refine ww_astore O dd_LA_about_13 (by rw [hn]; decide) rfl (L' := [(0, .ref (dx_x K)), (1, .int p0), (2, .int p1), (3, .ref o), (4, .ref a)]) rfl ?_
  refine ww_iconst O dd_LA_about_15 (v := nI 1) rfl ?_
  exact ww_wid (cs' := 1) (ss' := 6) (show 0 + 1 ≤ 1 by decide) (show 0 + 6 ≤ 6 by decide) (F _ _ dd_LA_about_16)
set_option maxRecDepth 4000 in
theorem cl_about_IAE (l : Launch) (D : va_G) (g : Nat → ClassId) (K : dx_K) (ow vl ow' vl' : Nat → Int32) (S S' : Nat → dx_S) (p0 p1 : Int32) (o : Nat) (lf : Nat → Int64) (hM : wt_ct l D g yy_DE_about bb_DE_about 4 (some .int) (wt_rm 8) [.ref (dx_x K), .int p0, .int p1] (dx_w g K ow vl S) "java/lang/IllegalArgumentException" (dx_w g K ow' vl' S')) : wc_ct l D g yy_LA_about bb_LA_about 5 (some .int) [(0, 10, 13, 13), (0, 10, 17, 27)] (wt_rm 9) [.ref (dx_x K), .int p0, .int p1, .ref o] ((o, .inl (g 2, 1, .inr (.inl lf))) :: dx_w g K ow vl S) (some (.int (nI 2))) ((o, .inl (g 2, 1, .inr (.inl lf))) :: dx_w g K ow' vl' S') := by
  refine wc_start (by decide +kernel) rfl rfl (Nat.le_of_ble_eq_true rfl) (L0 := [(0, .ref (dx_x K)), (1, .int p0), (2, .int p1), (3, .ref o)]) rfl ?_
  intro X O hl hD hg hR hn htab hN F
  subst hl hD hg
  refine ww_aload_n O dd_LA_about_0 3 rfl ?_
  refine ww_iconst O dd_LA_about_1 (v := nI 0) rfl ?_
  refine ww_aload_n O dd_LA_about_2 0 rfl ?_
  refine ww_iload_n O dd_LA_about_3 1 rfl ?_
  refine ww_iload_n O dd_LA_about_4 2 rfl ?_
  refine ww_eqw (ws' := [(o, .inl (ww_g X 2, 1, .inr (.inl lf)))] ++ ((dx_w (ww_g X) K ow vl S) ++ [])) (by simp) ?_
  refine wm_throwV (ci := 2) O [(o, .inl (ww_g X 2, 1, .inr (.inl lf)))] [] hM lc_LA_42 lx_DE_about_II_I rfl rfl rfl (by rw [hR]; decide) (by rw [hR]; decide) (by rw [hR]; decide) rfl (Nat.le_of_ble_eq_true rfl) dd_LA_about_5 rfl ?_
  refine wc_catch (nm := "java/lang/IllegalArgumentException") O [(⟨0, 10, 13, 13⟩, "java/lang/IndexOutOfBoundsException")] ⟨0, 10, 17, 27⟩ [] (wc_tab htab) lk_in_IAE (List.forall_mem_cons.mpr ⟨⟨by decide, by decide, lk_LA_13, fun c1 c2 h1 h2 => hN ("java/lang/IllegalArgumentException", "java/lang/IndexOutOfBoundsException") (by decide) c1 c2 h1 h2⟩, (fun q hq => absurd hq List.not_mem_nil)⟩) (by decide) (by decide) lk_LA_27 lk_ca_IAE (tgt := 17) rfl ?_
  intro a
  refine ww_eqw (ws' := ((o, .inl (ww_g X 2, 1, .inr (.inl lf))) :: (dx_w (ww_g X) K ow' vl' S'))) (by simp) ?_
  refine ww_astore O dd_LA_about_17 (by rw [hn]; decide) rfl (L' := [(0, .ref (dx_x K)), (1, .int p0), (2, .int p1), (3, .ref o), (4, .ref a)]) rfl ?_
  refine ww_iconst O dd_LA_about_19 (v := nI 2) rfl ?_
  exact ww_wid (cs' := 1) (ss' := 6) (show 0 + 1 ≤ 1 by decide) (show 0 + 6 ≤ 6 by decide) (F _ _ dd_LA_about_20)
set_option maxRecDepth 4000 in
theorem cl_owner (l : Launch) (D : va_G) (g : Nat → ClassId) (K : dx_K) (ow vl ow' vl' : Nat → Int32) (S S' : Nat → dx_S) (p0 : Int32) (o : Nat) (lf : Nat → Int64) (k : Nat) (hk : k ≤ 8) (v : Int32) (hM : ww_ct l D g yy_DE_owner bb_DE_owner 2 (some .int) (ww_rm k) [.ref (dx_x K), .int p0] (dx_w g K ow vl S) (some (.int v)) (dx_w g K ow' vl' S')) : wc_ct l D g yy_LA_owner bb_LA_owner 4 (some .int) [(0, 9, 12, 13)] (wt_rm 9) [.ref (dx_x K), .int p0, .ref o] ((o, .inl (g 2, 1, .inr (.inl lf))) :: dx_w g K ow vl S) (some (.int (nI 0))) ((o, .inl (g 2, 1, .inr (.inl (vp_updL lf 0 v.toInt64)))) :: dx_w g K ow' vl' S') := by
  refine wc_start (by decide +kernel) rfl rfl (Nat.le_of_ble_eq_true rfl) (L0 := [(0, .ref (dx_x K)), (1, .int p0), (2, .ref o)]) rfl ?_
  intro X O hl hD hg hR hn htab hN F
  subst hl hD hg
  refine ww_aload_n O dd_LA_owner_0 2 rfl ?_
  refine ww_iconst O dd_LA_owner_1 (v := nI 0) rfl ?_
  refine ww_aload_n O dd_LA_owner_2 0 rfl ?_
  refine ww_iload_n O dd_LA_owner_3 1 rfl ?_
  refine ww_eqw (ws' := [(o, .inl (ww_g X 2, 1, .inr (.inl lf)))] ++ ((dx_w (ww_g X) K ow vl S) ++ [])) (by simp) ?_
  refine wm_callV (ci := 2) O [(o, .inl (ww_g X 2, 1, .inr (.inl lf)))] [] hM lc_LA_45 lx_DE_owner_I_I rfl rfl rfl (by rw [hR]; show k + 1 ≤ 9 ∧ 8 + (2 + 11) + 40 * k ≤ 40 * 9; omega) (by rw [hR]; show 0 + 0 ≤ 1; decide) (by rw [hR]; show 0 + 0 ≤ 6; decide) rfl (Nat.le_of_ble_eq_true rfl) dd_LA_owner_4 rfl ?_
  refine ww_eqw (ws' := ((o, .inl (ww_g X 2, 1, .inr (.inl lf))) :: (dx_w (ww_g X) K ow' vl' S'))) (by simp) ?_
  refine ww_i2l O dd_LA_owner_7 ?_
  refine ww_last O dd_LA_owner_8 0 rfl (show 0 < 1 by decide) (by decide) (ws' := ((o, .inl (ww_g X 2, 1, .inr (.inl (vp_updL lf 0 v.toInt64)))) :: (dx_w (ww_g X) K ow' vl' S'))) rfl ?_
  refine ww_goto O dd_LA_owner_9 (tgt := 15) rfl ?_
  refine ww_iconst O dd_LA_owner_15 (v := nI 0) rfl ?_
  exact ww_wid (cs' := 1) (ss' := 6) (show 0 + 0 ≤ 1 by decide) (show 0 + 0 ≤ 6 by decide) (F _ _ dd_LA_owner_16)
set_option maxRecDepth 4000 in
theorem cl_owner_IOOBE (l : Launch) (D : va_G) (g : Nat → ClassId) (K : dx_K) (ow vl ow' vl' : Nat → Int32) (S S' : Nat → dx_S) (p0 : Int32) (o : Nat) (lf : Nat → Int64) (hM : wt_ct l D g yy_DE_owner bb_DE_owner 2 (some .int) (wt_rm 8) [.ref (dx_x K), .int p0] (dx_w g K ow vl S) "java/lang/IndexOutOfBoundsException" (dx_w g K ow' vl' S')) : wc_ct l D g yy_LA_owner bb_LA_owner 4 (some .int) [(0, 9, 12, 13)] (wt_rm 9) [.ref (dx_x K), .int p0, .ref o] ((o, .inl (g 2, 1, .inr (.inl lf))) :: dx_w g K ow vl S) (some (.int (nI 1))) ((o, .inl (g 2, 1, .inr (.inl lf))) :: dx_w g K ow' vl' S') := by
  refine wc_start (by decide +kernel) rfl rfl (Nat.le_of_ble_eq_true rfl) (L0 := [(0, .ref (dx_x K)), (1, .int p0), (2, .ref o)]) rfl ?_
  intro X O hl hD hg hR hn htab hN F
  subst hl hD hg
  refine ww_aload_n O dd_LA_owner_0 2 rfl ?_
  refine ww_iconst O dd_LA_owner_1 (v := nI 0) rfl ?_
  refine ww_aload_n O dd_LA_owner_2 0 rfl ?_
  refine ww_iload_n O dd_LA_owner_3 1 rfl ?_
  refine ww_eqw (ws' := [(o, .inl (ww_g X 2, 1, .inr (.inl lf)))] ++ ((dx_w (ww_g X) K ow vl S) ++ [])) (by simp) ?_
  refine wm_throwV (ci := 2) O [(o, .inl (ww_g X 2, 1, .inr (.inl lf)))] [] hM lc_LA_45 lx_DE_owner_I_I rfl rfl rfl (by rw [hR]; decide) (by rw [hR]; decide) (by rw [hR]; decide) rfl (Nat.le_of_ble_eq_true rfl) dd_LA_owner_4 rfl ?_
  refine wc_catch (nm := "java/lang/IndexOutOfBoundsException") O [] ⟨0, 9, 12, 13⟩ [] (wc_tab htab) lk_in_IOOBE (fun q hq => absurd hq List.not_mem_nil) (by decide) (by decide) lk_LA_13 lk_ca_IOOBE (tgt := 12) rfl ?_
  intro a
  refine ww_eqw (ws' := ((o, .inl (ww_g X 2, 1, .inr (.inl lf))) :: (dx_w (ww_g X) K ow' vl' S'))) (by simp) ?_
  refine ww_astore_n O dd_LA_owner_12 (by rw [hn]; decide) rfl (L' := [(0, .ref (dx_x K)), (1, .int p0), (2, .ref o), (3, .ref a)]) rfl ?_
  refine ww_iconst O dd_LA_owner_13 (v := nI 1) rfl ?_
  exact ww_wid (cs' := 1) (ss' := 6) (show 0 + 1 ≤ 1 by decide) (show 0 + 6 ≤ 6 by decide) (F _ _ dd_LA_owner_14)
set_option maxRecDepth 4000 in
theorem cl_value (l : Launch) (D : va_G) (g : Nat → ClassId) (K : dx_K) (ow vl ow' vl' : Nat → Int32) (S S' : Nat → dx_S) (p0 : Int32) (o : Nat) (lf : Nat → Int64) (k : Nat) (hk : k ≤ 8) (v : Int32) (hM : ww_ct l D g yy_DE_value bb_DE_value 2 (some .int) (ww_rm k) [.ref (dx_x K), .int p0] (dx_w g K ow vl S) (some (.int v)) (dx_w g K ow' vl' S')) : wc_ct l D g yy_LA_value bb_LA_value 4 (some .int) [(0, 9, 12, 13)] (wt_rm 9) [.ref (dx_x K), .int p0, .ref o] ((o, .inl (g 2, 1, .inr (.inl lf))) :: dx_w g K ow vl S) (some (.int (nI 0))) ((o, .inl (g 2, 1, .inr (.inl (vp_updL lf 0 v.toInt64)))) :: dx_w g K ow' vl' S') := by
  refine wc_start (by decide +kernel) rfl rfl (Nat.le_of_ble_eq_true rfl) (L0 := [(0, .ref (dx_x K)), (1, .int p0), (2, .ref o)]) rfl ?_
  intro X O hl hD hg hR hn htab hN F
  subst hl hD hg
  refine ww_aload_n O dd_LA_value_0 2 rfl ?_
  refine ww_iconst O dd_LA_value_1 (v := nI 0) rfl ?_
  refine ww_aload_n O dd_LA_value_2 0 rfl ?_
  refine ww_iload_n O dd_LA_value_3 1 rfl ?_
  refine ww_eqw (ws' := [(o, .inl (ww_g X 2, 1, .inr (.inl lf)))] ++ ((dx_w (ww_g X) K ow vl S) ++ [])) (by simp) ?_
  refine wm_callV (ci := 2) O [(o, .inl (ww_g X 2, 1, .inr (.inl lf)))] [] hM lc_LA_48 lx_DE_value_I_I rfl rfl rfl (by rw [hR]; show k + 1 ≤ 9 ∧ 8 + (2 + 11) + 40 * k ≤ 40 * 9; omega) (by rw [hR]; show 0 + 0 ≤ 1; decide) (by rw [hR]; show 0 + 0 ≤ 6; decide) rfl (Nat.le_of_ble_eq_true rfl) dd_LA_value_4 rfl ?_
  refine ww_eqw (ws' := ((o, .inl (ww_g X 2, 1, .inr (.inl lf))) :: (dx_w (ww_g X) K ow' vl' S'))) (by simp) ?_
  refine ww_i2l O dd_LA_value_7 ?_
  refine ww_last O dd_LA_value_8 0 rfl (show 0 < 1 by decide) (by decide) (ws' := ((o, .inl (ww_g X 2, 1, .inr (.inl (vp_updL lf 0 v.toInt64)))) :: (dx_w (ww_g X) K ow' vl' S'))) rfl ?_
  refine ww_goto O dd_LA_value_9 (tgt := 15) rfl ?_
  refine ww_iconst O dd_LA_value_15 (v := nI 0) rfl ?_
  exact ww_wid (cs' := 1) (ss' := 6) (show 0 + 0 ≤ 1 by decide) (show 0 + 0 ≤ 6 by decide) (F _ _ dd_LA_value_16)
set_option maxRecDepth 4000 in
theorem cl_value_IOOBE (l : Launch) (D : va_G) (g : Nat → ClassId) (K : dx_K) (ow vl ow' vl' : Nat → Int32) (S S' : Nat → dx_S) (p0 : Int32) (o : Nat) (lf : Nat → Int64) (hM : wt_ct l D g yy_DE_value bb_DE_value 2 (some .int) (wt_rm 8) [.ref (dx_x K), .int p0] (dx_w g K ow vl S) "java/lang/IndexOutOfBoundsException" (dx_w g K ow' vl' S')) : wc_ct l D g yy_LA_value bb_LA_value 4 (some .int) [(0, 9, 12, 13)] (wt_rm 9) [.ref (dx_x K), .int p0, .ref o] ((o, .inl (g 2, 1, .inr (.inl lf))) :: dx_w g K ow vl S) (some (.int (nI 1))) ((o, .inl (g 2, 1, .inr (.inl lf))) :: dx_w g K ow' vl' S') := by
  refine wc_start (by decide +kernel) rfl rfl (Nat.le_of_ble_eq_true rfl) (L0 := [(0, .ref (dx_x K)), (1, .int p0), (2, .ref o)]) rfl ?_
  intro X O hl hD hg hR hn htab hN F
  subst hl hD hg
  refine ww_aload_n O dd_LA_value_0 2 rfl ?_
  refine ww_iconst O dd_LA_value_1 (v := nI 0) rfl ?_
  refine ww_aload_n O dd_LA_value_2 0 rfl ?_
  refine ww_iload_n O dd_LA_value_3 1 rfl ?_
  refine ww_eqw (ws' := [(o, .inl (ww_g X 2, 1, .inr (.inl lf)))] ++ ((dx_w (ww_g X) K ow vl S) ++ [])) (by simp) ?_
  refine wm_throwV (ci := 2) O [(o, .inl (ww_g X 2, 1, .inr (.inl lf)))] [] hM lc_LA_48 lx_DE_value_I_I rfl rfl rfl (by rw [hR]; decide) (by rw [hR]; decide) (by rw [hR]; decide) rfl (Nat.le_of_ble_eq_true rfl) dd_LA_value_4 rfl ?_
  refine wc_catch (nm := "java/lang/IndexOutOfBoundsException") O [] ⟨0, 9, 12, 13⟩ [] (wc_tab htab) lk_in_IOOBE (fun q hq => absurd hq List.not_mem_nil) (by decide) (by decide) lk_LA_13 lk_ca_IOOBE (tgt := 12) rfl ?_
  intro a
  refine ww_eqw (ws' := ((o, .inl (ww_g X 2, 1, .inr (.inl lf))) :: (dx_w (ww_g X) K ow' vl' S'))) (by simp) ?_
  refine ww_astore_n O dd_LA_value_12 (by rw [hn]; decide) rfl (L' := [(0, .ref (dx_x K)), (1, .int p0), (2, .ref o), (3, .ref a)]) rfl ?_
  refine ww_iconst O dd_LA_value_13 (v := nI 1) rfl ?_
  exact ww_wid (cs' := 1) (ss' := 6) (show 0 + 1 ≤ 1 by decide) (show 0 + 6 ≤ 6 by decide) (F _ _ dd_LA_value_14)
