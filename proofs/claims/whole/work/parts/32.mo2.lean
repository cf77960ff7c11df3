theorem lc_MO_49 : ww_site "DelayedExtentsModel" 49 yy_MO_extents bb_MO_extents 6 (some .int) 2 := ⟨List.mem_filter.mpr ⟨List.mem_of_getElem? (i := 565) (by decide +kernel), by decide +kernel⟩, List.mem_filter.mpr ⟨List.mem_of_getElem? (i := 562) (by decide +kernel), by decide +kernel⟩, List.mem_filter.mpr ⟨List.mem_of_getElem? (i := 30) (by decide +kernel), by decide +kernel⟩, by decide, by decide, by decide +kernel⟩
theorem lx_MO_extents_II_I : ww_virt yy_MO_extents := ⟨List.mem_filter.mpr ⟨List.mem_of_getElem? (i := 564) (by decide +kernel), by decide +kernel⟩, List.mem_filter.mpr ⟨List.mem_of_getElem? (i := 14) (by decide +kernel), by decide +kernel⟩⟩
theorem lc_MO_53 : ww_site "DelayedExtentsModel" 53 yy_MO_tree bb_MO_tree 1 (some .int) 1 := ⟨List.mem_filter.mpr ⟨List.mem_of_getElem? (i := 572) (by decide +kernel), by decide +kernel⟩, List.mem_filter.mpr ⟨List.mem_of_getElem? (i := 570) (by decide +kernel), by decide +kernel⟩, List.mem_filter.mpr ⟨List.mem_of_getElem? (i := 30) (by decide +kernel), by decide +kernel⟩, by decide, by decide, by decide +kernel⟩
theorem ls_MO_tree_I_I : Cond.static yy_MO_tree ∈ lw_good := List.mem_filter.mpr ⟨List.mem_of_getElem? (i := 571) (by decide +kernel), by decide +kernel⟩
theorem lc_MO_57 : ww_site "DelayedExtentsModel" 57 yy_MO_reservedOf bb_MO_reservedOf 5 (some .int) 1 := ⟨List.mem_filter.mpr ⟨List.mem_of_getElem? (i := 580) (by decide +kernel), by decide +kernel⟩, List.mem_filter.mpr ⟨List.mem_of_getElem? (i := 577) (by decide +kernel), by decide +kernel⟩, List.mem_filter.mpr ⟨List.mem_of_getElem? (i := 30) (by decide +kernel), by decide +kernel⟩, by decide, by decide, by decide +kernel⟩
theorem lx_MO_reservedOf_I_I : ww_virt yy_MO_reservedOf := ⟨List.mem_filter.mpr ⟨List.mem_of_getElem? (i := 579) (by decide +kernel), by decide +kernel⟩, List.mem_filter.mpr ⟨List.mem_of_getElem? (i := 17) (by decide +kernel), by decide +kernel⟩⟩
theorem lc_MO_60 : ww_site "DelayedExtentsModel" 60 yy_MO_mappedOf bb_MO_mappedOf 4 (some .int) 1 := ⟨List.mem_filter.mpr ⟨List.mem_of_getElem? (i := 561) (by decide +kernel), by decide +kernel⟩, List.mem_filter.mpr ⟨List.mem_of_getElem? (i := 558) (by decide +kernel), by decide +kernel⟩, List.mem_filter.mpr ⟨List.mem_of_getElem? (i := 30) (by decide +kernel), by decide +kernel⟩, by decide, by decide, by decide +kernel⟩
theorem lx_MO_mappedOf_I_I : ww_virt yy_MO_mappedOf := ⟨List.mem_filter.mpr ⟨List.mem_of_getElem? (i := 560) (by decide +kernel), by decide +kernel⟩, List.mem_filter.mpr ⟨List.mem_of_getElem? (i := 13) (by decide +kernel), by decide +kernel⟩⟩
theorem lc_MO_70 : ww_site "DelayedExtentsModel" 70 yy_MO_bestFor bb_MO_bestFor 7 (some .int) 1 := ⟨List.mem_filter.mpr ⟨List.mem_of_getElem? (i := 604) (by decide +kernel), by decide +kernel⟩, List.mem_filter.mpr ⟨List.mem_of_getElem? (i := 601) (by decide +kernel), by decide +kernel⟩, List.mem_filter.mpr ⟨List.mem_of_getElem? (i := 30) (by decide +kernel), by decide +kernel⟩, by decide, by decide, by decide +kernel⟩
theorem lx_MO_bestFor_I_I : ww_virt yy_MO_bestFor := ⟨List.mem_filter.mpr ⟨List.mem_of_getElem? (i := 603) (by decide +kernel), by decide +kernel⟩, List.mem_filter.mpr ⟨List.mem_of_getElem? (i := 21) (by decide +kernel), by decide +kernel⟩⟩
theorem lc_MO_66 : ww_site "DelayedExtentsModel" 66 yy_MO_map bb_MO_map 3 none 2 := ⟨List.mem_filter.mpr ⟨List.mem_of_getElem? (i := 600) (by decide +kernel), by decide +kernel⟩, List.mem_filter.mpr ⟨List.mem_of_getElem? (i := 597) (by decide +kernel), by decide +kernel⟩, List.mem_filter.mpr ⟨List.mem_of_getElem? (i := 30) (by decide +kernel), by decide +kernel⟩, by decide, by decide, by decide +kernel⟩
theorem lx_MO_map_II_V : ww_virt yy_MO_map := ⟨List.mem_filter.mpr ⟨List.mem_of_getElem? (i := 599) (by decide +kernel), by decide +kernel⟩, List.mem_filter.mpr ⟨List.mem_of_getElem? (i := 20) (by decide +kernel), by decide +kernel⟩⟩
set_option maxRecDepth 4000 in
theorem cc_MO_reservedOf (l : Launch) (D : va_G) (g : Nat → ClassId) (m : Nat) (a1 : Nat) (a2 : Nat) (a3 : Nat) (a4 : Nat) (a5 : Nat) (a6 : Nat) (a7 : Nat) (a8 : Nat) (cd : Int32) (fi : Int32) (le : Int32) (pl : Nat → Int32) (wr : Nat → Int32) (pg : Nat → Int32) (pv : Nat → Int32) (sz : Nat → Int32) (ow : Nat → Int32) (vl : Nat → Int32) (bf : Nat → Int32) (f : Nat) (hr : ∀ b, b < 240 → px_rg (pl b)) (hf : f < 4) : ww_ct l D g yy_MO_reservedOf bb_MO_reservedOf 5 (some .int) (ww_rm 3) [.ref m, .int (nI f)] [(m, .inr (3, [.int cd, .ref a1, .ref a2, .ref a3, .ref a4, .ref a5, .ref a6, .ref a7, .ref a8, .int fi, .int le])), (a1, .inl (g 0, 240, .inl pl)), (a2, .inl (g 1, 240, .inl wr)), (a3, .inl (g 1, 240, .inl pg)), (a4, .inl (g 0, 240, .inl pv)), (a5, .inl (g 0, 4, .inl sz)), (a6, .inl (g 0, 80, .inl ow)), (a7, .inl (g 0, 80, .inl vl)), (a8, .inl (g 0, 60, .inl bf))] (some (.int (nI (px_res pl wr pg (60 * f))))) [(m, .inr (3, [.int cd, .ref a1, .ref a2, .ref a3, .ref a4, .ref a5, .ref a6, .ref a7, .ref a8, .int ((px_rx pl wr 60 60 (60 * f) 0 0 fi).2.2), .int (nI (px_rx pl wr 60 60 (60 * f) 0 0 fi).2.1)])), (a1, .inl (g 0, 240, .inl pl)), (a2, .inl (g 1, 240, .inl wr)), (a3, .inl (g 1, 240, .inl pg)), (a4, .inl (g 0, 240, .inl pv)), (a5, .inl (g 0, 4, .inl sz)), (a6, .inl (g 0, 80, .inl ow)), (a7, .inl (g 0, 80, .inl vl)), (a8, .inl (g 0, 60, .inl bf))] := by
  refine ww_start (by decide +kernel) rfl rfl (Nat.le_of_ble_eq_true rfl) (L0 := [(0, .ref m), (1, .int (nI f))]) rfl ?_
  intro X O hl hD hg hR hn F
  subst hl hD hg
  have loop : ∀ (k b x y : Nat), 60 * f + 60 ≤ b + k → 60 * f ≤ b → b ≤ 60 * f + 60 → x = px_cnt (fun b => px_on pg b && px_hole pl b) (60 * f) (b - 60 * f) → y = px_cnt (fun b => px_on pg b && (!px_hole pl b && wr b == 0)) (60 * f) (b - 60 * f) → ww_at X 0 0 10 [(0, .ref m), (1, .int (nI f)), (2, .int (nI x)), (3, .int (nI y)), (4, .int (nI b))] [] [(m, .inr (3, [.int cd, .ref a1, .ref a2, .ref a3, .ref a4, .ref a5, .ref a6, .ref a7, .ref a8, .int fi, .int le])), (a1, .inl (ww_g X 0, 240, .inl pl)), (a2, .inl (ww_g X 1, 240, .inl wr)), (a3, .inl (ww_g X 1, 240, .inl pg)), (a4, .inl (ww_g X 0, 240, .inl pv)), (a5, .inl (ww_g X 0, 4, .inl sz)), (a6, .inl (ww_g X 0, 80, .inl ow)), (a7, .inl (ww_g X 0, 80, .inl vl)), (a8, .inl (ww_g X 0, 60, .inl bf))] := by
    intro k
    induction k with
    | zero =>
      intro b x y h1 h2 h2b h3 h4
      have hx2 := px_cnt_le (fun b => px_on pg b && px_hole pl b) (60 * f) (b - 60 * f)
      have hy2 := px_cnt_le (fun b => px_on pg b && (!px_hole pl b && wr b == 0)) (60 * f) (b - 60 * f)
      refine ww_iload O dd_MO_reservedOf_10 4 rfl ?_
      refine ww_bipush O dd_MO_reservedOf_12 (v := nI 60) rfl ?_
      refine ww_iload_n O dd_MO_reservedOf_14 1 rfl ?_
      refine ww_imul O dd_MO_reservedOf_15 (v := nI (60 * f)) (pk_mul _ _) ?_
      refine ww_bipush O dd_MO_reservedOf_16 (v := nI 60) rfl ?_
      refine ww_iadd O dd_MO_reservedOf_18 (v := nI ((60 * f) + 60)) (nI_add _ _) ?_
      refine ww_icmp_geN O dd_MO_reservedOf_19 (tgt := 94) rfl (by omega) (by omega) (fun h19 => ?_) (fun h19 => ?_)
      · have hx9 : x ≤ 60 := by omega
        have hy9 : y ≤ 60 := by omega
        rw [show b - 60 * f = 60 by omega] at h3 h4
        have hx1 : x = px_hh pl pg (60 * f) := h3
        have hy1 : y = px_uu pl wr pg (60 * f) := h4
        have he3 : px_ee pl wr (60 * f) ≤ 60 := px_ex_le pl wr 60 (60 * f) 0
        refine ww_aload_n O dd_MO_reservedOf_94 0 rfl ?_
        refine ww_iload_n O dd_MO_reservedOf_95 1 rfl ?_
        refine ww_bipush O dd_MO_reservedOf_96 (v := nI 60) rfl ?_
        refine ww_callV (q0 := 0) (ci := 3) O (cc_MO_extents _ _ _ m a1 a2 a3 a4 a5 a6 a7 a8 cd fi le pl wr pg pv sz ow vl bf f 60 (by omega) (by omega) (by omega)) lc_MO_49 lx_MO_extents_II_I rfl rfl rfl (by rw [hR]; decide) (by rw [hR]; decide) (by rw [hR]; decide) rfl (Nat.le_of_ble_eq_true rfl) dd_MO_reservedOf_98 rfl [0, 1, 2, 3, 4, 5, 6, 7, 8] [] [0, 1, 2, 3, 4, 5, 6, 7, 8] rfl (by decide) rfl (by decide) (by decide) (ws' := [(m, .inr (3, [.int cd, .ref a1, .ref a2, .ref a3, .ref a4, .ref a5, .ref a6, .ref a7, .ref a8, .int ((px_rx pl wr 60 60 (60 * f) 0 0 fi).2.2), .int (nI (px_rx pl wr 60 60 (60 * f) 0 0 fi).2.1)])), (a1, .inl (ww_g X 0, 240, .inl pl)), (a2, .inl (ww_g X 1, 240, .inl wr)), (a3, .inl (ww_g X 1, 240, .inl pg)), (a4, .inl (ww_g X 0, 240, .inl pv)), (a5, .inl (ww_g X 0, 4, .inl sz)), (a6, .inl (ww_g X 0, 80, .inl ow)), (a7, .inl (ww_g X 0, 80, .inl vl)), (a8, .inl (ww_g X 0, 60, .inl bf))]) rfl rfl (by decide) ?_
        rw [px_rx_60]
        refine ww_istore O dd_MO_reservedOf_101 (by rw [hn]; decide) rfl (L' := [(0, .ref m), (1, .int (nI f)), (2, .int (nI x)), (3, .int (nI y)), (4, .int (nI (px_ee pl wr (60 * f))))]) rfl ?_
        refine ww_iload_n O dd_MO_reservedOf_103 2 rfl ?_
        refine ww_iload O dd_MO_reservedOf_104 4 rfl ?_
        refine ww_iload_n O dd_MO_reservedOf_106 2 rfl ?_
        refine ww_iadd O dd_MO_reservedOf_107 (v := nI ((px_ee pl wr (60 * f)) + x)) (nI_add _ _) ?_
        refine ww_iconst O dd_MO_reservedOf_108 (v := nI 2) rfl ?_
        refine ww_iload_n O dd_MO_reservedOf_109 3 rfl ?_
        refine ww_imul O dd_MO_reservedOf_110 (v := nI (2 * y)) (pk_mul _ _) ?_
        refine ww_iadd O dd_MO_reservedOf_111 (v := nI (((px_ee pl wr (60 * f)) + x) + (2 * y))) (nI_add _ _) ?_
        refine ww_callS O (cc_MO_tree _ _ _ (((px_ee pl wr (60 * f)) + x) + (2 * y)) (by omega)) lc_MO_53 ls_MO_tree_I_I (by rw [hR]; decide) (by rw [hR]; decide) (by rw [hR]; decide) rfl (Nat.le_of_ble_eq_true rfl) dd_MO_reservedOf_112 rfl [] [0, 1, 2, 3, 4, 5, 6, 7, 8] [0, 1, 2, 3, 4, 5, 6, 7, 8] rfl (by decide) rfl (by decide) (by decide) (ws' := [(m, .inr (3, [.int cd, .ref a1, .ref a2, .ref a3, .ref a4, .ref a5, .ref a6, .ref a7, .ref a8, .int ((px_rx pl wr 60 60 (60 * f) 0 0 fi).2.2), .int (nI (px_rx pl wr 60 60 (60 * f) 0 0 fi).2.1)])), (a1, .inl (ww_g X 0, 240, .inl pl)), (a2, .inl (ww_g X 1, 240, .inl wr)), (a3, .inl (ww_g X 1, 240, .inl pg)), (a4, .inl (ww_g X 0, 240, .inl pv)), (a5, .inl (ww_g X 0, 4, .inl sz)), (a6, .inl (ww_g X 0, 80, .inl ow)), (a7, .inl (ww_g X 0, 80, .inl vl)), (a8, .inl (ww_g X 0, 60, .inl bf))]) rfl rfl (by decide) ?_
        refine ww_iadd O dd_MO_reservedOf_115 (v := nI (x + (px_tree (((px_ee pl wr (60 * f)) + x) + (2 * y))))) (nI_add _ _) ?_
        refine ww_iload O dd_MO_reservedOf_116 4 rfl ?_
        refine ww_callS O (cc_MO_tree _ _ _ (px_ee pl wr (60 * f)) (by omega)) lc_MO_53 ls_MO_tree_I_I (by rw [hR]; decide) (by rw [hR]; decide) (by rw [hR]; decide) rfl (Nat.le_of_ble_eq_true rfl) dd_MO_reservedOf_118 rfl [] [0, 1, 2, 3, 4, 5, 6, 7, 8] [0, 1, 2, 3, 4, 5, 6, 7, 8] rfl (by decide) rfl (by decide) (by decide) (ws' := [(m, .inr (3, [.int cd, .ref a1, .ref a2, .ref a3, .ref a4, .ref a5, .ref a6, .ref a7, .ref a8, .int ((px_rx pl wr 60 60 (60 * f) 0 0 fi).2.2), .int (nI (px_rx pl wr 60 60 (60 * f) 0 0 fi).2.1)])), (a1, .inl (ww_g X 0, 240, .inl pl)), (a2, .inl (ww_g X 1, 240, .inl wr)), (a3, .inl (ww_g X 1, 240, .inl pg)), (a4, .inl (ww_g X 0, 240, .inl pv)), (a5, .inl (ww_g X 0, 4, .inl sz)), (a6, .inl (ww_g X 0, 80, .inl ow)), (a7, .inl (ww_g X 0, 80, .inl vl)), (a8, .inl (ww_g X 0, 60, .inl bf))]) rfl rfl (by decide) ?_
        have ht := px_tree_mono (show px_ee pl wr (60 * f) ≤ px_ee pl wr (60 * f) + x + 2 * y by omega)
        refine ww_isub O dd_MO_reservedOf_121 (v := nI ((x + (px_tree (((px_ee pl wr (60 * f)) + x) + (2 * y)))) - (px_tree (px_ee pl wr (60 * f))))) (pk_sub (by omega)) ?_
        rw [show px_res pl wr pg (60 * f) = ((x + (px_tree (((px_ee pl wr (60 * f)) + x) + (2 * y)))) - (px_tree (px_ee pl wr (60 * f)))) from by unfold px_res; rw [← hx1, ← hy1]] at F
        exact F.i dd_MO_reservedOf_122
      · exfalso; omega
    | succ k ih =>
      intro b x y h1 h2 h2b h3 h4
      have hx2 := px_cnt_le (fun b => px_on pg b && px_hole pl b) (60 * f) (b - 60 * f)
      have hy2 := px_cnt_le (fun b => px_on pg b && (!px_hole pl b && wr b == 0)) (60 * f) (b - 60 * f)
      refine ww_iload O dd_MO_reservedOf_10 4 rfl ?_
      refine ww_bipush O dd_MO_reservedOf_12 (v := nI 60) rfl ?_
      refine ww_iload_n O dd_MO_reservedOf_14 1 rfl ?_
      refine ww_imul O dd_MO_reservedOf_15 (v := nI (60 * f)) (pk_mul _ _) ?_
      refine ww_bipush O dd_MO_reservedOf_16 (v := nI 60) rfl ?_
      refine ww_iadd O dd_MO_reservedOf_18 (v := nI ((60 * f) + 60)) (nI_add _ _) ?_
      refine ww_icmp_geN O dd_MO_reservedOf_19 (tgt := 94) rfl (by omega) (by omega) (fun h19 => ?_) (fun h19 => ?_)
      · have hx9 : x ≤ 60 := by omega
        have hy9 : y ≤ 60 := by omega
        rw [show b - 60 * f = 60 by omega] at h3 h4
        have hx1 : x = px_hh pl pg (60 * f) := h3
        have hy1 : y = px_uu pl wr pg (60 * f) := h4
        have he3 : px_ee pl wr (60 * f) ≤ 60 := px_ex_le pl wr 60 (60 * f) 0
        refine ww_aload_n O dd_MO_reservedOf_94 0 rfl ?_
        refine ww_iload_n O dd_MO_reservedOf_95 1 rfl ?_
        refine ww_bipush O dd_MO_reservedOf_96 (v := nI 60) rfl ?_
        refine ww_callV (q0 := 0) (ci := 3) O (cc_MO_extents _ _ _ m a1 a2 a3 a4 a5 a6 a7 a8 cd fi le pl wr pg pv sz ow vl bf f 60 (by omega) (by omega) (by omega)) lc_MO_49 lx_MO_extents_II_I rfl rfl rfl (by rw [hR]; decide) (by rw [hR]; decide) (by rw [hR]; decide) rfl (Nat.le_of_ble_eq_true rfl) dd_MO_reservedOf_98 rfl [0, 1, 2, 3, 4, 5, 6, 7, 8] [] [0, 1, 2, 3, 4, 5, 6, 7, 8] rfl (by decide) rfl (by decide) (by decide) (ws' := [(m, .inr (3, [.int cd, .ref a1, .ref a2, .ref a3, .ref a4, .ref a5, .ref a6, .ref a7, .ref a8, .int ((px_rx pl wr 60 60 (60 * f) 0 0 fi).2.2), .int (nI (px_rx pl wr 60 60 (60 * f) 0 0 fi).2.1)])), (a1, .inl (ww_g X 0, 240, .inl pl)), (a2, .inl (ww_g X 1, 240, .inl wr)), (a3, .inl (ww_g X 1, 240, .inl pg)), (a4, .inl (ww_g X 0, 240, .inl pv)), (a5, .inl (ww_g X 0, 4, .inl sz)), (a6, .inl (ww_g X 0, 80, .inl ow)), (a7, .inl (ww_g X 0, 80, .inl vl)), (a8, .inl (ww_g X 0, 60, .inl bf))]) rfl rfl (by decide) ?_
        rw [px_rx_60]
        refine ww_istore O dd_MO_reservedOf_101 (by rw [hn]; decide) rfl (L' := [(0, .ref m), (1, .int (nI f)), (2, .int (nI x)), (3, .int (nI y)), (4, .int (nI (px_ee pl wr (60 * f))))]) rfl ?_
        refine ww_iload_n O dd_MO_reservedOf_103 2 rfl ?_
        refine ww_iload O dd_MO_reservedOf_104 4 rfl ?_
        refine ww_iload_n O dd_MO_reservedOf_106 2 rfl ?_
        refine ww_iadd O dd_MO_reservedOf_107 (v := nI ((px_ee pl wr (60 * f)) + x)) (nI_add _ _) ?_
        refine ww_iconst O dd_MO_reservedOf_108 (v := nI 2) rfl ?_
        refine ww_iload_n O dd_MO_reservedOf_109 3 rfl ?_
        refine ww_imul O dd_MO_reservedOf_110 (v := nI (2 * y)) (pk_mul _ _) ?_
        refine ww_iadd O dd_MO_reservedOf_111 (v := nI (((px_ee pl wr (60 * f)) + x) + (2 * y))) (nI_add _ _) ?_
        refine ww_callS O (cc_MO_tree _ _ _ (((px_ee pl wr (60 * f)) + x) + (2 * y)) (by omega)) lc_MO_53 ls_MO_tree_I_I (by rw [hR]; decide) (by rw [hR]; decide) (by rw [hR]; decide) rfl (Nat.le_of_ble_eq_true rfl) dd_MO_reservedOf_112 rfl [] [0, 1, 2, 3, 4, 5, 6, 7, 8] [0, 1, 2, 3, 4, 5, 6, 7, 8] rfl (by decide) rfl (by decide) (by decide) (ws' := [(m, .inr (3, [.int cd, .ref a1, .ref a2, .ref a3, .ref a4, .ref a5, .ref a6, .ref a7, .ref a8, .int ((px_rx pl wr 60 60 (60 * f) 0 0 fi).2.2), .int (nI (px_rx pl wr 60 60 (60 * f) 0 0 fi).2.1)])), (a1, .inl (ww_g X 0, 240, .inl pl)), (a2, .inl (ww_g X 1, 240, .inl wr)), (a3, .inl (ww_g X 1, 240, .inl pg)), (a4, .inl (ww_g X 0, 240, .inl pv)), (a5, .inl (ww_g X 0, 4, .inl sz)), (a6, .inl (ww_g X 0, 80, .inl ow)), (a7, .inl (ww_g X 0, 80, .inl vl)), (a8, .inl (ww_g X 0, 60, .inl bf))]) rfl rfl (by decide) ?_
        refine ww_iadd O dd_MO_reservedOf_115 (v := nI (x + (px_tree (((px_ee pl wr (60 * f)) + x) + (2 * y))))) (nI_add _ _) ?_
        refine ww_iload O dd_MO_reservedOf_116 4 rfl ?_
        refine ww_callS O (cc_MO_tree _ _ _ (px_ee pl wr (60 * f)) (by omega)) lc_MO_53 ls_MO_tree_I_I (by rw [hR]; decide) (by rw [hR]; decide) (by rw [hR]; decide) rfl (Nat.le_of_ble_eq_true rfl) dd_MO_reservedOf_118 rfl [] [0, 1, 2, 3, 4, 5, 6, 7, 8] [0, 1, 2, 3, 4, 5, 6, 7, 8] rfl (by decide) rfl (by decide) (by decide) (ws' := [(m, .inr (3, [.int cd, .ref a1, .ref a2, .ref a3, .ref a4, .ref a5, .ref a6, .ref a7, .ref a8, .int ((px_rx pl wr 60 60 (60 * f) 0 0 fi).2.2), .int (nI (px_rx pl wr 60 60 (60 * f) 0 0 fi).2.1)])), (a1, .inl (ww_g X 0, 240, .inl pl)), (a2, .inl (ww_g X 1, 240, .inl wr)), (a3, .inl (ww_g X 1, 240, .inl pg)), (a4, .inl (ww_g X 0, 240, .inl pv)), (a5, .inl (ww_g X 0, 4, .inl sz)), (a6, .inl (ww_g X 0, 80, .inl ow)), (a7, .inl (ww_g X 0, 80, .inl vl)), (a8, .inl (ww_g X 0, 60, .inl bf))]) rfl rfl (by decide) ?_
        have ht := px_tree_mono (show px_ee pl wr (60 * f) ≤ px_ee pl wr (60 * f) + x + 2 * y by omega)
        refine ww_isub O dd_MO_reservedOf_121 (v := nI ((x + (px_tree (((px_ee pl wr (60 * f)) + x) + (2 * y)))) - (px_tree (px_ee pl wr (60 * f))))) (pk_sub (by omega)) ?_
        rw [show px_res pl wr pg (60 * f) = ((x + (px_tree (((px_ee pl wr (60 * f)) + x) + (2 * y)))) - (px_tree (px_ee pl wr (60 * f)))) from by unfold px_res; rw [← hx1, ← hy1]] at F
        exact F.i dd_MO_reservedOf_122
      · refine ww_aload_n O dd_MO_reservedOf_22 0 rfl ?_
        refine ww_get O ci_MO rfl 3 (by decide) lf_MO_17 rfl dd_MO_reservedOf_23 0 rfl rfl ?_
        refine ww_iload O dd_MO_reservedOf_26 4 rfl ?_
        refine ww_zald O dd_MO_reservedOf_28 3 rfl (by omega) (by decide) rfl ?_
        refine ww_if_eq O dd_MO_reservedOf_29 (tgt := 48) rfl (fun h29 => ?_) (fun h29 => ?_)
        · refine ww_iload_n O dd_MO_reservedOf_48 2 rfl ?_
          refine ww_istore_n O dd_MO_reservedOf_49 (by rw [hn]; decide) rfl (L' := [(0, .ref m), (1, .int (nI f)), (2, .int (nI x)), (3, .int (nI y)), (4, .int (nI b))]) rfl ?_
          refine ww_aload_n O dd_MO_reservedOf_50 0 rfl ?_
          refine ww_get O ci_MO rfl 3 (by decide) lf_MO_17 rfl dd_MO_reservedOf_51 0 rfl rfl ?_
          refine ww_iload O dd_MO_reservedOf_54 4 rfl ?_
          refine ww_zald O dd_MO_reservedOf_56 3 rfl (by omega) (by decide) rfl ?_
          refine ww_if_eq O dd_MO_reservedOf_57 (tgt := 86) rfl (fun h57 => ?_) (fun h57 => ?_)
          · refine ww_iload_n O dd_MO_reservedOf_86 3 rfl ?_
            refine ww_istore_n O dd_MO_reservedOf_87 (by rw [hn]; decide) rfl (L' := [(0, .ref m), (1, .int (nI f)), (2, .int (nI x)), (3, .int (nI y)), (4, .int (nI b))]) rfl ?_
            refine ww_iinc O dd_MO_reservedOf_88 4 rfl (v := nI (b + 1)) (nI_add _ 1) (by rw [hn]; decide) rfl (L' := [(0, .ref m), (1, .int (nI f)), (2, .int (nI x)), (3, .int (nI y)), (4, .int (nI (b + 1)))]) rfl ?_
            refine ww_goto O dd_MO_reservedOf_91 (tgt := 10) rfl ?_
            exact ih (b + 1) x y (by omega) (by omega) (by omega) (px_caf h2 h3 (by simp [px_on, h29])) (px_caf h2 h4 (by simp [px_on, h29]))
          · exact absurd h29 h57
        · refine ww_aload_n O dd_MO_reservedOf_32 0 rfl ?_
          refine ww_get O ci_MO rfl 1 (by decide) lf_MO_7 rfl dd_MO_reservedOf_33 0 rfl rfl ?_
          refine ww_iload O dd_MO_reservedOf_36 4 rfl ?_
          refine ww_iald O dd_MO_reservedOf_38 1 rfl (by omega) (by decide) rfl ?_
          refine ww_if_ge O dd_MO_reservedOf_39 (tgt := 48) rfl (fun h39 => ?_) (fun h39 => ?_)
          · refine ww_iload_n O dd_MO_reservedOf_48 2 rfl ?_
            refine ww_istore_n O dd_MO_reservedOf_49 (by rw [hn]; decide) rfl (L' := [(0, .ref m), (1, .int (nI f)), (2, .int (nI x)), (3, .int (nI y)), (4, .int (nI b))]) rfl ?_
            refine ww_aload_n O dd_MO_reservedOf_50 0 rfl ?_
            refine ww_get O ci_MO rfl 3 (by decide) lf_MO_17 rfl dd_MO_reservedOf_51 0 rfl rfl ?_
            refine ww_iload O dd_MO_reservedOf_54 4 rfl ?_
            refine ww_zald O dd_MO_reservedOf_56 3 rfl (by omega) (by decide) rfl ?_
            refine ww_if_eq O dd_MO_reservedOf_57 (tgt := 86) rfl (fun h57 => ?_) (fun h57 => ?_)
            · exact absurd h57 h29
            · refine ww_aload_n O dd_MO_reservedOf_60 0 rfl ?_
              refine ww_get O ci_MO rfl 1 (by decide) lf_MO_7 rfl dd_MO_reservedOf_61 0 rfl rfl ?_
              refine ww_iload O dd_MO_reservedOf_64 4 rfl ?_
              refine ww_iald O dd_MO_reservedOf_66 1 rfl (by omega) (by decide) rfl ?_
              refine ww_if_lt O dd_MO_reservedOf_67 (tgt := 86) rfl (fun h67 => ?_) (fun h67 => ?_)
              · exact absurd h67 (Int32.not_lt.mpr h39)
              · refine ww_aload_n O dd_MO_reservedOf_70 0 rfl ?_
                refine ww_get O ci_MO rfl 2 (by decide) lf_MO_13 rfl dd_MO_reservedOf_71 0 rfl rfl ?_
                refine ww_iload O dd_MO_reservedOf_74 4 rfl ?_
                refine ww_zald O dd_MO_reservedOf_76 2 rfl (by omega) (by decide) rfl ?_
                refine ww_if_ne O dd_MO_reservedOf_77 (tgt := 86) rfl (fun h77 => ?_) (fun h77 => ?_)
                · refine ww_iload_n O dd_MO_reservedOf_86 3 rfl ?_
                  refine ww_istore_n O dd_MO_reservedOf_87 (by rw [hn]; decide) rfl (L' := [(0, .ref m), (1, .int (nI f)), (2, .int (nI x)), (3, .int (nI y)), (4, .int (nI b))]) rfl ?_
                  refine ww_iinc O dd_MO_reservedOf_88 4 rfl (v := nI (b + 1)) (nI_add _ 1) (by rw [hn]; decide) rfl (L' := [(0, .ref m), (1, .int (nI f)), (2, .int (nI x)), (3, .int (nI y)), (4, .int (nI (b + 1)))]) rfl ?_
                  refine ww_goto O dd_MO_reservedOf_91 (tgt := 10) rfl ?_
                  exact ih (b + 1) x y (by omega) (by omega) (by omega) (px_caf h2 h3 (by simp [px_on, h29, (hr b (by omega)).ge0 h39, h77])) (px_caf h2 h4 (by simp [px_on, h29, (hr b (by omega)).ge0 h39, h77]))
                · refine ww_iload_n O dd_MO_reservedOf_80 3 rfl ?_
                  refine ww_iconst O dd_MO_reservedOf_81 (v := nI 1) rfl ?_
                  refine ww_iadd O dd_MO_reservedOf_82 (v := nI (y + 1)) (nI_add _ _) ?_
                  refine ww_goto O dd_MO_reservedOf_83 (tgt := 87) rfl ?_
                  refine ww_istore_n O dd_MO_reservedOf_87 (by rw [hn]; decide) rfl (L' := [(0, .ref m), (1, .int (nI f)), (2, .int (nI x)), (3, .int (nI (y + 1))), (4, .int (nI b))]) rfl ?_
                  refine ww_iinc O dd_MO_reservedOf_88 4 rfl (v := nI (b + 1)) (nI_add _ 1) (by rw [hn]; decide) rfl (L' := [(0, .ref m), (1, .int (nI f)), (2, .int (nI x)), (3, .int (nI (y + 1))), (4, .int (nI (b + 1)))]) rfl ?_
                  refine ww_goto O dd_MO_reservedOf_91 (tgt := 10) rfl ?_
                  exact ih (b + 1) x (y + 1) (by omega) (by omega) (by omega) (px_caf h2 h3 (by simp [px_on, h29, (hr b (by omega)).ge0 h39, h77])) (px_cat h2 h4 (by simp [px_on, h29, (hr b (by omega)).ge0 h39, h77]))
          · refine ww_iload_n O dd_MO_reservedOf_42 2 rfl ?_
            refine ww_iconst O dd_MO_reservedOf_43 (v := nI 1) rfl ?_
            refine ww_iadd O dd_MO_reservedOf_44 (v := nI (x + 1)) (nI_add _ _) ?_
            refine ww_goto O dd_MO_reservedOf_45 (tgt := 49) rfl ?_
            refine ww_istore_n O dd_MO_reservedOf_49 (by rw [hn]; decide) rfl (L' := [(0, .ref m), (1, .int (nI f)), (2, .int (nI (x + 1))), (3, .int (nI y)), (4, .int (nI b))]) rfl ?_
            refine ww_aload_n O dd_MO_reservedOf_50 0 rfl ?_
            refine ww_get O ci_MO rfl 3 (by decide) lf_MO_17 rfl dd_MO_reservedOf_51 0 rfl rfl ?_
            refine ww_iload O dd_MO_reservedOf_54 4 rfl ?_
            refine ww_zald O dd_MO_reservedOf_56 3 rfl (by omega) (by decide) rfl ?_
            refine ww_if_eq O dd_MO_reservedOf_57 (tgt := 86) rfl (fun h57 => ?_) (fun h57 => ?_)
            · exact absurd h57 h29
            · refine ww_aload_n O dd_MO_reservedOf_60 0 rfl ?_
              refine ww_get O ci_MO rfl 1 (by decide) lf_MO_7 rfl dd_MO_reservedOf_61 0 rfl rfl ?_
              refine ww_iload O dd_MO_reservedOf_64 4 rfl ?_
              refine ww_iald O dd_MO_reservedOf_66 1 rfl (by omega) (by decide) rfl ?_
              refine ww_if_lt O dd_MO_reservedOf_67 (tgt := 86) rfl (fun h67 => ?_) (fun h67 => ?_)
              · refine ww_iload_n O dd_MO_reservedOf_86 3 rfl ?_
                refine ww_istore_n O dd_MO_reservedOf_87 (by rw [hn]; decide) rfl (L' := [(0, .ref m), (1, .int (nI f)), (2, .int (nI (x + 1))), (3, .int (nI y)), (4, .int (nI b))]) rfl ?_
                refine ww_iinc O dd_MO_reservedOf_88 4 rfl (v := nI (b + 1)) (nI_add _ 1) (by rw [hn]; decide) rfl (L' := [(0, .ref m), (1, .int (nI f)), (2, .int (nI (x + 1))), (3, .int (nI y)), (4, .int (nI (b + 1)))]) rfl ?_
                refine ww_goto O dd_MO_reservedOf_91 (tgt := 10) rfl ?_
                exact ih (b + 1) (x + 1) y (by omega) (by omega) (by omega) (px_cat h2 h3 (by simp [px_on, h29, (hr b (by omega)).lt0 h39])) (px_caf h2 h4 (by simp [px_on, h29, (hr b (by omega)).lt0 h39]))
              · exact absurd (Int32.not_lt.mp h67) h39
  refine ww_iconst O dd_MO_reservedOf_0 (v := nI 0) rfl ?_
  refine ww_istore_n O dd_MO_reservedOf_1 (by rw [hn]; decide) rfl (L' := [(0, .ref m), (1, .int (nI f)), (2, .int (nI 0))]) rfl ?_
  refine ww_iconst O dd_MO_reservedOf_2 (v := nI 0) rfl ?_
  refine ww_istore_n O dd_MO_reservedOf_3 (by rw [hn]; decide) rfl (L' := [(0, .ref m), (1, .int (nI f)), (2, .int (nI 0)), (3, .int (nI 0))]) rfl ?_
  refine ww_bipush O dd_MO_reservedOf_4 (v := nI 60) rfl ?_
  refine ww_iload_n O dd_MO_reservedOf_6 1 rfl ?_
  refine ww_imul O dd_MO_reservedOf_7 (v := nI (60 * f)) (pk_mul _ _) ?_
  refine ww_istore O dd_MO_reservedOf_8 (by rw [hn]; decide) rfl (L' := [(0, .ref m), (1, .int (nI f)), (2, .int (nI 0)), (3, .int (nI 0)), (4, .int (nI (60 * f)))]) rfl ?_
  exact loop 60 (60 * f) 0 0 (by omega) (by omega) (by omega) (by rw [Nat.sub_self]; rfl) (by rw [Nat.sub_self]; rfl)
set_option maxRecDepth 4000 in
theorem cc_MO_allReserved (l : Launch) (D : va_G) (g : Nat → ClassId) (m : Nat) (a1 : Nat) (a2 : Nat) (a3 : Nat) (a4 : Nat) (a5 : Nat) (a6 : Nat) (a7 : Nat) (a8 : Nat) (cd : Int32) (fi : Int32) (le : Int32) (pl : Nat → Int32) (wr : Nat → Int32) (pg : Nat → Int32) (pv : Nat → Int32) (sz : Nat → Int32) (ow : Nat → Int32) (vl : Nat → Int32) (bf : Nat → Int32) (hr : ∀ b, b < 240 → px_rg (pl b)) : ww_ct l D g yy_MO_allReserved bb_MO_allReserved 3 (some .int) (ww_rm 4) [.ref m] [(m, .inr (3, [.int cd, .ref a1, .ref a2, .ref a3, .ref a4, .ref a5, .ref a6, .ref a7, .ref a8, .int fi, .int le])), (a1, .inl (g 0, 240, .inl pl)), (a2, .inl (g 1, 240, .inl wr)), (a3, .inl (g 1, 240, .inl pg)), (a4, .inl (g 0, 240, .inl pv)), (a5, .inl (g 0, 4, .inl sz)), (a6, .inl (g 0, 80, .inl ow)), (a7, .inl (g 0, 80, .inl vl)), (a8, .inl (g 0, 60, .inl bf))] (some (.int (nI (px_sum (fun k => px_res pl wr pg (60 * k)) 4)))) [(m, .inr (3, [.int cd, .ref a1, .ref a2, .ref a3, .ref a4, .ref a5, .ref a6, .ref a7, .ref a8, .int ((px_xs pl wr le fi 4).2), .int ((px_xs pl wr le fi 4).1)])), (a1, .inl (g 0, 240, .inl pl)), (a2, .inl (g 1, 240, .inl wr)), (a3, .inl (g 1, 240, .inl pg)), (a4, .inl (g 0, 240, .inl pv)), (a5, .inl (g 0, 4, .inl sz)), (a6, .inl (g 0, 80, .inl ow)), (a7, .inl (g 0, 80, .inl vl)), (a8, .inl (g 0, 60, .inl bf))] := by
  refine ww_start (by decide +kernel) rfl rfl (Nat.le_of_ble_eq_true rfl) (L0 := [(0, .ref m)]) rfl ?_
  intro X O hl hD hg hR hn F
  subst hl hD hg
  have loop : ∀ (k f n : Nat), 4 ≤ f + k → f ≤ 4 → n = px_sum (fun k => px_res pl wr pg (60 * k)) f → ww_at X 0 0 4 [(0, .ref m), (1, .int (nI n)), (2, .int (nI f))] [] [(m, .inr (3, [.int cd, .ref a1, .ref a2, .ref a3, .ref a4, .ref a5, .ref a6, .ref a7, .ref a8, .int ((px_xs pl wr le fi f).2), .int ((px_xs pl wr le fi f).1)])), (a1, .inl (ww_g X 0, 240, .inl pl)), (a2, .inl (ww_g X 1, 240, .inl wr)), (a3, .inl (ww_g X 1, 240, .inl pg)), (a4, .inl (ww_g X 0, 240, .inl pv)), (a5, .inl (ww_g X 0, 4, .inl sz)), (a6, .inl (ww_g X 0, 80, .inl ow)), (a7, .inl (ww_g X 0, 80, .inl vl)), (a8, .inl (ww_g X 0, 60, .inl bf))] := by
    intro k
    induction k with
    | zero =>
      intro f n h1 h2 h3
      have hs := px_sum_le (f := (fun k => px_res pl wr pg (60 * k))) (fun k => px_res_le pl wr pg (60 * k)) f
      refine ww_iload_n O dd_MO_allReserved_4 2 rfl ?_
      refine ww_iconst O dd_MO_allReserved_5 (v := nI 4) rfl ?_
      refine ww_icmp_geN O dd_MO_allReserved_6 (tgt := 23) rfl (by omega) (by omega) (fun h6 => ?_) (fun h6 => ?_)
      · refine ww_iload_n O dd_MO_allReserved_23 1 rfl ?_
        have ef : f = 4 := by omega
        subst ef
        subst h3
        exact F.i dd_MO_allReserved_24
      · exfalso; omega
    | succ k ih =>
      intro f n h1 h2 h3
      have hs := px_sum_le (f := (fun k => px_res pl wr pg (60 * k))) (fun k => px_res_le pl wr pg (60 * k)) f
      refine ww_iload_n O dd_MO_allReserved_4 2 rfl ?_
      refine ww_iconst O dd_MO_allReserved_5 (v := nI 4) rfl ?_
      refine ww_icmp_geN O dd_MO_allReserved_6 (tgt := 23) rfl (by omega) (by omega) (fun h6 => ?_) (fun h6 => ?_)
      · refine ww_iload_n O dd_MO_allReserved_23 1 rfl ?_
        have ef : f = 4 := by omega
        subst ef
        subst h3
        exact F.i dd_MO_allReserved_24
      · refine ww_iload_n O dd_MO_allReserved_9 1 rfl ?_
        refine ww_aload_n O dd_MO_allReserved_10 0 rfl ?_
        refine ww_iload_n O dd_MO_allReserved_11 2 rfl ?_
        refine ww_callV (q0 := 0) (ci := 3) O (cc_MO_reservedOf _ _ _ m a1 a2 a3 a4 a5 a6 a7 a8 cd ((px_xs pl wr le fi f).2) ((px_xs pl wr le fi f).1) pl wr pg pv sz ow vl bf f (by omega) (by omega)) lc_MO_57 lx_MO_reservedOf_I_I rfl rfl rfl (by rw [hR]; decide) (by rw [hR]; decide) (by rw [hR]; decide) rfl (Nat.le_of_ble_eq_true rfl) dd_MO_allReserved_12 rfl [0, 1, 2, 3, 4, 5, 6, 7, 8] [] [0, 1, 2, 3, 4, 5, 6, 7, 8] rfl (by decide) rfl (by decide) (by decide) (ws' := [(m, .inr (3, [.int cd, .ref a1, .ref a2, .ref a3, .ref a4, .ref a5, .ref a6, .ref a7, .ref a8, .int ((px_rx pl wr 60 60 (60 * f) 0 0 ((px_xs pl wr le fi f).2)).2.2), .int (nI (px_rx pl wr 60 60 (60 * f) 0 0 ((px_xs pl wr le fi f).2)).2.1)])), (a1, .inl (ww_g X 0, 240, .inl pl)), (a2, .inl (ww_g X 1, 240, .inl wr)), (a3, .inl (ww_g X 1, 240, .inl pg)), (a4, .inl (ww_g X 0, 240, .inl pv)), (a5, .inl (ww_g X 0, 4, .inl sz)), (a6, .inl (ww_g X 0, 80, .inl ow)), (a7, .inl (ww_g X 0, 80, .inl vl)), (a8, .inl (ww_g X 0, 60, .inl bf))]) rfl rfl (by decide) ?_
        refine ww_iadd O dd_MO_allReserved_15 (v := nI (n + (px_res pl wr pg (60 * f)))) (nI_add _ _) ?_
        refine ww_istore_n O dd_MO_allReserved_16 (by rw [hn]; decide) rfl (L' := [(0, .ref m), (1, .int (nI (n + (px_res pl wr pg (60 * f))))), (2, .int (nI f))]) rfl ?_
        refine ww_iinc O dd_MO_allReserved_17 2 rfl (v := nI (f + 1)) (nI_add _ 1) (by rw [hn]; decide) rfl (L' := [(0, .ref m), (1, .int (nI (n + (px_res pl wr pg (60 * f))))), (2, .int (nI (f + 1)))]) rfl ?_
        refine ww_goto O dd_MO_allReserved_20 (tgt := 4) rfl ?_
        exact ih (f + 1) _ (by omega) (by omega) (by rw [px_sum, h3])
  refine ww_iconst O dd_MO_allReserved_0 (v := nI 0) rfl ?_
  refine ww_istore_n O dd_MO_allReserved_1 (by rw [hn]; decide) rfl (L' := [(0, .ref m), (1, .int (nI 0))]) rfl ?_
  refine ww_iconst O dd_MO_allReserved_2 (v := nI 0) rfl ?_
  refine ww_istore_n O dd_MO_allReserved_3 (by rw [hn]; decide) rfl (L' := [(0, .ref m), (1, .int (nI 0)), (2, .int (nI 0))]) rfl ?_
  exact loop 4 0 0 (by omega) (by omega) rfl
set_option maxRecDepth 4000 in
theorem cc_MO_allFree (l : Launch) (D : va_G) (g : Nat → ClassId) (m : Nat) (a1 : Nat) (a2 : Nat) (a3 : Nat) (a4 : Nat) (a5 : Nat) (a6 : Nat) (a7 : Nat) (a8 : Nat) (cd : Int32) (fi : Int32) (le : Int32) (pl : Nat → Int32) (wr : Nat → Int32) (pg : Nat → Int32) (pv : Nat → Int32) (sz : Nat → Int32) (ow : Nat → Int32) (vl : Nat → Int32) (bf : Nat → Int32) (hr : ∀ b, b < 240 → px_rg (pl b)) : ww_ct l D g yy_MO_allFree bb_MO_allFree 3 (some .int) (ww_rm 4) [.ref m] [(m, .inr (3, [.int cd, .ref a1, .ref a2, .ref a3, .ref a4, .ref a5, .ref a6, .ref a7, .ref a8, .int fi, .int le])), (a1, .inl (g 0, 240, .inl pl)), (a2, .inl (g 1, 240, .inl wr)), (a3, .inl (g 1, 240, .inl pg)), (a4, .inl (g 0, 240, .inl pv)), (a5, .inl (g 0, 4, .inl sz)), (a6, .inl (g 0, 80, .inl ow)), (a7, .inl (g 0, 80, .inl vl)), (a8, .inl (g 0, 60, .inl bf))] (some (.int (nI 80 - nI (px_sum (fun k => px_mt pl wr (60 * k)) 4)))) [(m, .inr (3, [.int cd, .ref a1, .ref a2, .ref a3, .ref a4, .ref a5, .ref a6, .ref a7, .ref a8, .int ((px_xs pl wr le fi 4).2), .int ((px_xs pl wr le fi 4).1)])), (a1, .inl (g 0, 240, .inl pl)), (a2, .inl (g 1, 240, .inl wr)), (a3, .inl (g 1, 240, .inl pg)), (a4, .inl (g 0, 240, .inl pv)), (a5, .inl (g 0, 4, .inl sz)), (a6, .inl (g 0, 80, .inl ow)), (a7, .inl (g 0, 80, .inl vl)), (a8, .inl (g 0, 60, .inl bf))] := by
  refine ww_start (by decide +kernel) rfl rfl (Nat.le_of_ble_eq_true rfl) (L0 := [(0, .ref m)]) rfl ?_
  intro X O hl hD hg hR hn F
  subst hl hD hg
  have loop : ∀ (k f n : Nat), 4 ≤ f + k → f ≤ 4 → n = px_sum (fun k => px_mt pl wr (60 * k)) f → ww_at X 0 0 5 [(0, .ref m), (1, .int (nI 80 - nI n)), (2, .int (nI f))] [] [(m, .inr (3, [.int cd, .ref a1, .ref a2, .ref a3, .ref a4, .ref a5, .ref a6, .ref a7, .ref a8, .int ((px_xs pl wr le fi f).2), .int ((px_xs pl wr le fi f).1)])), (a1, .inl (ww_g X 0, 240, .inl pl)), (a2, .inl (ww_g X 1, 240, .inl wr)), (a3, .inl (ww_g X 1, 240, .inl pg)), (a4, .inl (ww_g X 0, 240, .inl pv)), (a5, .inl (ww_g X 0, 4, .inl sz)), (a6, .inl (ww_g X 0, 80, .inl ow)), (a7, .inl (ww_g X 0, 80, .inl vl)), (a8, .inl (ww_g X 0, 60, .inl bf))] := by
    intro k
    induction k with
    | zero =>
      intro f n h1 h2 h3
      refine ww_iload_n O dd_MO_allFree_5 2 rfl ?_
      refine ww_iconst O dd_MO_allFree_6 (v := nI 4) rfl ?_
      refine ww_icmp_geN O dd_MO_allFree_7 (tgt := 35) rfl (by omega) (by omega) (fun h7 => ?_) (fun h7 => ?_)
      · refine ww_iload_n O dd_MO_allFree_35 1 rfl ?_
        have ef : f = 4 := by omega
        subst ef
        subst h3
        exact F.i dd_MO_allFree_36
      · exfalso; omega
    | succ k ih =>
      intro f n h1 h2 h3
      refine ww_iload_n O dd_MO_allFree_5 2 rfl ?_
      refine ww_iconst O dd_MO_allFree_6 (v := nI 4) rfl ?_
      refine ww_icmp_geN O dd_MO_allFree_7 (tgt := 35) rfl (by omega) (by omega) (fun h7 => ?_) (fun h7 => ?_)
      · refine ww_iload_n O dd_MO_allFree_35 1 rfl ?_
        have ef : f = 4 := by omega
        subst ef
        subst h3
        exact F.i dd_MO_allFree_36
      · refine ww_iload_n O dd_MO_allFree_10 1 rfl ?_
        refine ww_aload_n O dd_MO_allFree_11 0 rfl ?_
        refine ww_iload_n O dd_MO_allFree_12 2 rfl ?_
        refine ww_callV (q0 := 0) (ci := 3) O (cc_MO_mappedOf _ _ _ m a1 a2 a3 a4 a5 a6 a7 a8 cd ((px_xs pl wr le fi f).2) ((px_xs pl wr le fi f).1) pl wr pg pv sz ow vl bf f (by omega) (by omega)) lc_MO_60 lx_MO_mappedOf_I_I rfl rfl rfl (by rw [hR]; decide) (by rw [hR]; decide) (by rw [hR]; decide) rfl (Nat.le_of_ble_eq_true rfl) dd_MO_allFree_13 rfl [0, 1, 2, 3, 4, 5, 6, 7, 8] [] [0, 1, 2, 3, 4, 5, 6, 7, 8] rfl (by decide) rfl (by decide) (by decide) (ws' := [(m, .inr (3, [.int cd, .ref a1, .ref a2, .ref a3, .ref a4, .ref a5, .ref a6, .ref a7, .ref a8, .int ((px_xs pl wr le fi f).2), .int ((px_xs pl wr le fi f).1)])), (a1, .inl (ww_g X 0, 240, .inl pl)), (a2, .inl (ww_g X 1, 240, .inl wr)), (a3, .inl (ww_g X 1, 240, .inl pg)), (a4, .inl (ww_g X 0, 240, .inl pv)), (a5, .inl (ww_g X 0, 4, .inl sz)), (a6, .inl (ww_g X 0, 80, .inl ow)), (a7, .inl (ww_g X 0, 80, .inl vl)), (a8, .inl (ww_g X 0, 60, .inl bf))]) rfl rfl (by decide) ?_
        refine ww_isub O dd_MO_allFree_16 (v := (nI 80 - nI n) - (nI (px_mm pl (60 * f)))) rfl ?_
        refine ww_aload_n O dd_MO_allFree_17 0 rfl ?_
        refine ww_iload_n O dd_MO_allFree_18 2 rfl ?_
        refine ww_bipush O dd_MO_allFree_19 (v := nI 60) rfl ?_
        refine ww_callV (q0 := 0) (ci := 3) O (cc_MO_extents _ _ _ m a1 a2 a3 a4 a5 a6 a7 a8 cd ((px_xs pl wr le fi f).2) ((px_xs pl wr le fi f).1) pl wr pg pv sz ow vl bf f 60 (by omega) (by omega) (by omega)) lc_MO_49 lx_MO_extents_II_I rfl rfl rfl (by rw [hR]; decide) (by rw [hR]; decide) (by rw [hR]; decide) rfl (Nat.le_of_ble_eq_true rfl) dd_MO_allFree_21 rfl [0, 1, 2, 3, 4, 5, 6, 7, 8] [] [0, 1, 2, 3, 4, 5, 6, 7, 8] rfl (by decide) rfl (by decide) (by decide) (ws' := [(m, .inr (3, [.int cd, .ref a1, .ref a2, .ref a3, .ref a4, .ref a5, .ref a6, .ref a7, .ref a8, .int ((px_rx pl wr 60 60 (60 * f) 0 0 ((px_xs pl wr le fi f).2)).2.2), .int (nI (px_rx pl wr 60 60 (60 * f) 0 0 ((px_xs pl wr le fi f).2)).2.1)])), (a1, .inl (ww_g X 0, 240, .inl pl)), (a2, .inl (ww_g X 1, 240, .inl wr)), (a3, .inl (ww_g X 1, 240, .inl pg)), (a4, .inl (ww_g X 0, 240, .inl pv)), (a5, .inl (ww_g X 0, 4, .inl sz)), (a6, .inl (ww_g X 0, 80, .inl ow)), (a7, .inl (ww_g X 0, 80, .inl vl)), (a8, .inl (ww_g X 0, 60, .inl bf))]) rfl rfl (by decide) ?_
        rw [px_rx_60]
        have he3 : px_ee pl wr (60 * f) ≤ 60 := px_ex_le pl wr 60 (60 * f) 0
        refine ww_callS O (cc_MO_tree _ _ _ (px_ee pl wr (60 * f)) (by omega)) lc_MO_53 ls_MO_tree_I_I (by rw [hR]; decide) (by rw [hR]; decide) (by rw [hR]; decide) rfl (Nat.le_of_ble_eq_true rfl) dd_MO_allFree_24 rfl [] [0, 1, 2, 3, 4, 5, 6, 7, 8] [0, 1, 2, 3, 4, 5, 6, 7, 8] rfl (by decide) rfl (by decide) (by decide) (ws' := [(m, .inr (3, [.int cd, .ref a1, .ref a2, .ref a3, .ref a4, .ref a5, .ref a6, .ref a7, .ref a8, .int ((px_rx pl wr 60 60 (60 * f) 0 0 ((px_xs pl wr le fi f).2)).2.2), .int (nI (px_rx pl wr 60 60 (60 * f) 0 0 ((px_xs pl wr le fi f).2)).2.1)])), (a1, .inl (ww_g X 0, 240, .inl pl)), (a2, .inl (ww_g X 1, 240, .inl wr)), (a3, .inl (ww_g X 1, 240, .inl pg)), (a4, .inl (ww_g X 0, 240, .inl pv)), (a5, .inl (ww_g X 0, 4, .inl sz)), (a6, .inl (ww_g X 0, 80, .inl ow)), (a7, .inl (ww_g X 0, 80, .inl vl)), (a8, .inl (ww_g X 0, 60, .inl bf))]) rfl rfl (by decide) ?_
        refine ww_isub O dd_MO_allFree_27 (v := ((nI 80 - nI n) - (nI (px_mm pl (60 * f)))) - (nI (px_tree (px_ee pl wr (60 * f))))) rfl ?_
        rw [px_sub3]
        refine ww_istore_n O dd_MO_allFree_28 (by rw [hn]; decide) rfl (L' := [(0, .ref m), (1, .int (nI 80 - nI (n + (px_mm pl (60 * f) + px_tree (px_ee pl wr (60 * f)))))), (2, .int (nI f))]) rfl ?_
        refine ww_iinc O dd_MO_allFree_29 2 rfl (v := nI (f + 1)) (nI_add _ 1) (by rw [hn]; decide) rfl (L' := [(0, .ref m), (1, .int (nI 80 - nI (n + (px_mm pl (60 * f) + px_tree (px_ee pl wr (60 * f)))))), (2, .int (nI (f + 1)))]) rfl ?_
        refine ww_goto O dd_MO_allFree_32 (tgt := 5) rfl ?_
        exact ih (f + 1) _ (by omega) (by omega) (by rw [px_sum, h3]; rfl)
  refine ww_bipush O dd_MO_allFree_0 (v := nI 80) rfl ?_
  refine ww_eqs (st' := [.int (nI 80 - nI 0)]) rfl ?_
  refine ww_istore_n O dd_MO_allFree_2 (by rw [hn]; decide) rfl (L' := [(0, .ref m), (1, .int (nI 80 - nI 0))]) rfl ?_
  refine ww_iconst O dd_MO_allFree_3 (v := nI 0) rfl ?_
  refine ww_istore_n O dd_MO_allFree_4 (by rw [hn]; decide) rfl (L' := [(0, .ref m), (1, .int (nI 80 - nI 0)), (2, .int (nI 0))]) rfl ?_
  exact loop 4 0 0 (by omega) (by omega) rfl
set_option maxRecDepth 4000 in
theorem cc_MO_mapRow (l : Launch) (D : va_G) (g : Nat → ClassId) (m : Nat) (a1 : Nat) (a2 : Nat) (a3 : Nat) (a4 : Nat) (a5 : Nat) (a6 : Nat) (a7 : Nat) (a8 : Nat) (cd : Int32) (fi : Int32) (le : Int32) (pl : Nat → Int32) (wr : Nat → Int32) (pg : Nat → Int32) (pv : Nat → Int32) (sz : Nat → Int32) (ow : Nat → Int32) (vl : Nat → Int32) (bf : Nat → Int32) (a : Nat) (n : Nat) (hr : ∀ b, b < 240 → px_rg (pl b)) (ho : ∀ p, p < 80 → px_rq (ow p)) (hw : ∀ j, a ≤ j → j < a + n → wr j = nI 0) (han : a + n ≤ 240) (hn6 : n ≤ 60) (hnu : n ≤ px_nu ow) : ww_ct l D g yy_MO_mapRow bb_MO_mapRow 7 none (ww_rm 3) [.ref m, .int (nI a), .int (nI n)] [(m, .inr (3, [.int cd, .ref a1, .ref a2, .ref a3, .ref a4, .ref a5, .ref a6, .ref a7, .ref a8, .int fi, .int le])), (a1, .inl (g 0, 240, .inl pl)), (a2, .inl (g 1, 240, .inl wr)), (a3, .inl (g 1, 240, .inl pg)), (a4, .inl (g 0, 240, .inl pv)), (a5, .inl (g 0, 4, .inl sz)), (a6, .inl (g 0, 80, .inl ow)), (a7, .inl (g 0, 80, .inl vl)), (a8, .inl (g 0, 60, .inl bf))] none [(m, .inr (3, [.int cd, .ref a1, .ref a2, .ref a3, .ref a4, .ref a5, .ref a6, .ref a7, .ref a8, .int fi, .int le])), (a1, .inl (g 0, 240, .inl ((px_mr 0 n a (px_cand (a % 60 == 0) pl a) pl ow).1))), (a2, .inl (g 1, 240, .inl wr)), (a3, .inl (g 1, 240, .inl pg)), (a4, .inl (g 0, 240, .inl pv)), (a5, .inl (g 0, 4, .inl sz)), (a6, .inl (g 0, 80, .inl ((px_mr 0 n a (px_cand (a % 60 == 0) pl a) pl ow).2))), (a7, .inl (g 0, 80, .inl vl)), (a8, .inl (g 0, 60, .inl bf))] := by
  refine ww_start (by decide +kernel) rfl trivial (Nat.le_of_ble_eq_true rfl) (L0 := [(0, .ref m), (1, .int (nI a)), (2, .int (nI n))]) rfl ?_
  intro X O hl hD hg hR hn F
  subst hl hD hg
  generalize hT : px_mr 0 n a (px_cand (a % 60 == 0) pl a) pl ow = T at F
  have loop2 : ∀ (k d : Nat) (x : Int32) (pl2 ow2 : Nat → Int32), n ≤ d + k → d ≤ n → (∀ p, p < 80 → px_rq (ow2 p)) → n - d ≤ px_nu ow2 → px_mr 0 (n - d) (a + d) x pl2 ow2 = T → (d = n ∨ px_un ow2 x = false) → ww_at X 0 0 72 [(0, .ref m), (1, .int (nI a)), (2, .int (nI n)), (3, .int (nI d))] [] [(m, .inr (3, [.int cd, .ref a1, .ref a2, .ref a3, .ref a4, .ref a5, .ref a6, .ref a7, .ref a8, .int fi, .int le])), (a1, .inl (ww_g X 0, 240, .inl pl2)), (a2, .inl (ww_g X 1, 240, .inl wr)), (a3, .inl (ww_g X 1, 240, .inl pg)), (a4, .inl (ww_g X 0, 240, .inl pv)), (a5, .inl (ww_g X 0, 4, .inl sz)), (a6, .inl (ww_g X 0, 80, .inl ow2)), (a7, .inl (ww_g X 0, 80, .inl vl)), (a8, .inl (ww_g X 0, 60, .inl bf))] := by
    intro k
    induction k with
    | zero =>
      intro d x pl2 ow2 h1 h2 ho h5 h4 h6
      refine ww_iload_n O dd_MO_mapRow_72 3 rfl ?_
      refine ww_iload_n O dd_MO_mapRow_73 2 rfl ?_
      refine ww_icmp_geN O dd_MO_mapRow_74 (tgt := 133) rfl (by omega) (by omega) (fun h74 => ?_) (fun h74 => ?_)
      · rw [show n - d = 0 by omega] at h4
        subst h4
        exact F.v dd_MO_mapRow_133
      · exfalso; omega
    | succ k ih =>
      intro d x pl2 ow2 h1 h2 ho h5 h4 h6
      refine ww_iload_n O dd_MO_mapRow_72 3 rfl ?_
      refine ww_iload_n O dd_MO_mapRow_73 2 rfl ?_
      refine ww_icmp_geN O dd_MO_mapRow_74 (tgt := 133) rfl (by omega) (by omega) (fun h74 => ?_) (fun h74 => ?_)
      · rw [show n - d = 0 by omega] at h4
        subst h4
        exact F.v dd_MO_mapRow_133
      · refine ww_aload_n O dd_MO_mapRow_77 0 rfl ?_
        refine ww_iload_n O dd_MO_mapRow_78 2 rfl ?_
        refine ww_iload_n O dd_MO_mapRow_79 3 rfl ?_
        refine ww_isub O dd_MO_mapRow_80 (v := nI (n - d)) (pk_sub (by omega)) ?_
        refine ww_callV (q0 := 0) (ci := 3) O (cc_MO_bestFor _ _ _ m a1 a2 a3 a4 a5 a6 a7 a8 cd fi le pl2 wr pg pv sz ow2 vl bf (n - d) (by omega) (by omega)) lc_MO_70 lx_MO_bestFor_I_I rfl rfl rfl (by rw [hR]; decide) (by rw [hR]; decide) (by rw [hR]; decide) rfl (Nat.le_of_ble_eq_true rfl) dd_MO_mapRow_81 rfl [0, 1, 2, 3, 4, 5, 6, 7, 8] [] [0, 1, 2, 3, 4, 5, 6, 7, 8] rfl (by decide) rfl (by decide) (by decide) (ws' := [(m, .inr (3, [.int cd, .ref a1, .ref a2, .ref a3, .ref a4, .ref a5, .ref a6, .ref a7, .ref a8, .int fi, .int le])), (a1, .inl (ww_g X 0, 240, .inl pl2)), (a2, .inl (ww_g X 1, 240, .inl wr)), (a3, .inl (ww_g X 1, 240, .inl pg)), (a4, .inl (ww_g X 0, 240, .inl pv)), (a5, .inl (ww_g X 0, 4, .inl sz)), (a6, .inl (ww_g X 0, 80, .inl ow2)), (a7, .inl (ww_g X 0, 80, .inl vl)), (a8, .inl (ww_g X 0, 60, .inl bf))]) rfl rfl (by decide) ?_
        have hu := px_best_un (ow := ow2) (n := n - d) (by omega) (px_nu_ex (by omega))
        rw [px_mr_c (by rcases h6 with h | h; omega; exact h) hu] at h4
        obtain ⟨q, hq, hqe, hqo⟩ := px_un_spec hu
        rw [hqe] at h4 ⊢
        refine ww_istore O dd_MO_mapRow_84 (by rw [hn]; decide) rfl (L' := [(0, .ref m), (1, .int (nI a)), (2, .int (nI n)), (3, .int (nI d)), (4, .int (nI q))]) rfl ?_
        refine ww_aload_n O dd_MO_mapRow_86 0 rfl ?_
        refine ww_iload O dd_MO_mapRow_87 4 rfl ?_
        refine ww_callV (q0 := 0) (ci := 3) O (cc_MO_room _ _ _ m a1 a2 a3 a4 a5 a6 a7 a8 cd fi le pl2 wr pg pv sz ow2 vl bf q (by omega) (by omega)) lc_MO_63 lx_MO_room_I_I rfl rfl rfl (by rw [hR]; decide) (by rw [hR]; decide) (by rw [hR]; decide) rfl (Nat.le_of_ble_eq_true rfl) dd_MO_mapRow_89 rfl [0, 1, 2, 3, 4, 5, 6, 7, 8] [] [0, 1, 2, 3, 4, 5, 6, 7, 8] rfl (by decide) rfl (by decide) (by decide) (ws' := [(m, .inr (3, [.int cd, .ref a1, .ref a2, .ref a3, .ref a4, .ref a5, .ref a6, .ref a7, .ref a8, .int fi, .int le])), (a1, .inl (ww_g X 0, 240, .inl pl2)), (a2, .inl (ww_g X 1, 240, .inl wr)), (a3, .inl (ww_g X 1, 240, .inl pg)), (a4, .inl (ww_g X 0, 240, .inl pv)), (a5, .inl (ww_g X 0, 4, .inl sz)), (a6, .inl (ww_g X 0, 80, .inl ow2)), (a7, .inl (ww_g X 0, 80, .inl vl)), (a8, .inl (ww_g X 0, 60, .inl bf))]) rfl rfl (by decide) ?_
        have hr1 : 0 < px_room ow2 (80 - q) q := by rw [px_room_s, if_pos ⟨by omega, hqo⟩]; omega
        have hr2 := px_room_le ow2 (80 - q) q
        generalize hre : px_room ow2 (80 - q) q = r at hr1 hr2 ⊢
        refine ww_istore O dd_MO_mapRow_92 (by rw [hn]; decide) rfl (L' := [(0, .ref m), (1, .int (nI a)), (2, .int (nI n)), (3, .int (nI d)), (4, .int (nI q)), (5, .int (nI r))]) rfl ?_
        refine ww_iconst O dd_MO_mapRow_94 (v := nI 0) rfl ?_
        refine ww_istore O dd_MO_mapRow_95 (by rw [hn]; decide) rfl (L' := [(0, .ref m), (1, .int (nI a)), (2, .int (nI n)), (3, .int (nI d)), (4, .int (nI q)), (5, .int (nI r)), (6, .int (nI 0))]) rfl ?_
        have inner : ∀ (j i d2 : Nat) (pl3 ow3 : Nat → Int32), r ≤ i + j → i ≤ r → d2 = d + i → d2 ≤ n → (∀ p, p < 80 → px_rq (ow3 p)) → n - d2 ≤ px_nu ow3 → px_room ow3 (80 - (q + i)) (q + i) = r - i → px_mr 0 (n - d2) (a + d2) (nI (q + i)) pl3 ow3 = T → ww_at X 0 0 97 [(0, .ref m), (1, .int (nI a)), (2, .int (nI n)), (3, .int (nI d2)), (4, .int (nI q)), (5, .int (nI r)), (6, .int (nI i))] [] [(m, .inr (3, [.int cd, .ref a1, .ref a2, .ref a3, .ref a4, .ref a5, .ref a6, .ref a7, .ref a8, .int fi, .int le])), (a1, .inl (ww_g X 0, 240, .inl pl3)), (a2, .inl (ww_g X 1, 240, .inl wr)), (a3, .inl (ww_g X 1, 240, .inl pg)), (a4, .inl (ww_g X 0, 240, .inl pv)), (a5, .inl (ww_g X 0, 4, .inl sz)), (a6, .inl (ww_g X 0, 80, .inl ow3)), (a7, .inl (ww_g X 0, 80, .inl vl)), (a8, .inl (ww_g X 0, 60, .inl bf))] := by
          intro j
          induction j with
          | zero =>
            intro i d2 pl3 ow3 g1 g2 g3 g4 ho3 g5 g6 g7
            refine ww_iload O dd_MO_mapRow_97 6 rfl ?_
            refine ww_iload O dd_MO_mapRow_99 5 rfl ?_
            refine ww_icmp_geN O dd_MO_mapRow_101 (tgt := 130) rfl (by omega) (by omega) (fun h101 => ?_) (fun h101 => ?_)
            · refine ww_goto O dd_MO_mapRow_130 (tgt := 72) rfl ?_
              refine ww_sub [0, 1, 2, 3] rfl ?_
              refine ih d2 (nI (q + i)) pl3 ow3 (by omega) (by omega) ho3 (by omega) g7 ?_
              refine Or.inr ?_
              rw [px_un_nI ow3 (by omega)]
              have hz : px_room ow3 (80 - (q + i)) (q + i) = 0 := by omega
              rw [px_room_s] at hz
              by_cases hw2 : q + i < 80 ∧ ow3 (q + i) = -1
              · rw [if_pos ⟨by omega, hw2.2⟩] at hz; omega
              · by_cases h8 : q + i < 80
                · simp [h8]; exact fun z => hw2 ⟨h8, z⟩
                · simp [h8]
            · exfalso; omega
          | succ j ihj =>
            intro i d2 pl3 ow3 g1 g2 g3 g4 ho3 g5 g6 g7
            refine ww_iload O dd_MO_mapRow_97 6 rfl ?_
            refine ww_iload O dd_MO_mapRow_99 5 rfl ?_
            refine ww_icmp_geN O dd_MO_mapRow_101 (tgt := 130) rfl (by omega) (by omega) (fun h101 => ?_) (fun h101 => ?_)
            · refine ww_goto O dd_MO_mapRow_130 (tgt := 72) rfl ?_
              refine ww_sub [0, 1, 2, 3] rfl ?_
              refine ih d2 (nI (q + i)) pl3 ow3 (by omega) (by omega) ho3 (by omega) g7 ?_
              refine Or.inr ?_
              rw [px_un_nI ow3 (by omega)]
              have hz : px_room ow3 (80 - (q + i)) (q + i) = 0 := by omega
              rw [px_room_s] at hz
              by_cases hw2 : q + i < 80 ∧ ow3 (q + i) = -1
              · rw [if_pos ⟨by omega, hw2.2⟩] at hz; omega
              · by_cases h8 : q + i < 80
                · simp [h8]; exact fun z => hw2 ⟨h8, z⟩
                · simp [h8]
            · refine ww_iload_n O dd_MO_mapRow_104 3 rfl ?_
              refine ww_iload_n O dd_MO_mapRow_105 2 rfl ?_
              refine ww_icmp_geN O dd_MO_mapRow_106 (tgt := 130) rfl (by omega) (by omega) (fun h106 => ?_) (fun h106 => ?_)
              · refine ww_goto O dd_MO_mapRow_130 (tgt := 72) rfl ?_
                refine ww_sub [0, 1, 2, 3] rfl ?_
                refine ih d2 (nI (q + i)) pl3 ow3 (by omega) (by omega) ho3 (by omega) g7 ?_
                exact Or.inl (by omega)
              · refine ww_aload_n O dd_MO_mapRow_109 0 rfl ?_
                refine ww_iload_n O dd_MO_mapRow_110 1 rfl ?_
                refine ww_iload_n O dd_MO_mapRow_111 3 rfl ?_
                refine ww_iadd O dd_MO_mapRow_112 (v := nI (a + d2)) (nI_add _ _) ?_
                refine ww_iload O dd_MO_mapRow_113 4 rfl ?_
                refine ww_iload O dd_MO_mapRow_115 6 rfl ?_
                refine ww_iadd O dd_MO_mapRow_117 (v := nI (q + i)) (nI_add _ _) ?_
                have hw3 : ow3 (q + i) = -1 := by
                  have hz : 0 < px_room ow3 (80 - (q + i)) (q + i) := by omega
                  have := px_room_in (ow := ow3) (i := 0) hz
                  simpa using this
                have hu3 : px_un ow3 (nI (q + i)) = true := by rw [px_un_nI ow3 (by omega)]; simp [hw3]; omega
                rw [px_mr_u (by omega) hu3, nI_clamp (by omega), Nat.zero_add, nI_1] at g7
                have hnu := px_nu_take (v := nI (a + d2)) (show q + i < 80 by omega) hw3 (px_m1 (by omega))
                refine ww_callV (q0 := 0) (ci := 3) O (cc_MO_map _ _ _ m a1 a2 a3 a4 a5 a6 a7 a8 cd fi le pl3 wr pg pv sz ow3 vl bf (a + d2) (q + i) (by omega) (by omega)) lc_MO_66 lx_MO_map_II_V rfl rfl rfl (by rw [hR]; decide) (by rw [hR]; decide) (by rw [hR]; decide) rfl (Nat.le_of_ble_eq_true rfl) dd_MO_mapRow_118 rfl [0, 1, 2, 3, 4, 5, 6, 7, 8] [] [0, 1, 2, 3, 4, 5, 6, 7, 8] rfl (by decide) rfl (by decide) (by decide) (ws' := [(m, .inr (3, [.int cd, .ref a1, .ref a2, .ref a3, .ref a4, .ref a5, .ref a6, .ref a7, .ref a8, .int fi, .int le])), (a1, .inl (ww_g X 0, 240, .inl (upd pl3 (a + d2) (nI (q + i))))), (a2, .inl (ww_g X 1, 240, .inl (upd wr (a + d2) (nI 0)))), (a3, .inl (ww_g X 1, 240, .inl pg)), (a4, .inl (ww_g X 0, 240, .inl pv)), (a5, .inl (ww_g X 0, 4, .inl sz)), (a6, .inl (ww_g X 0, 80, .inl (upd ow3 (q + i) (nI (a + d2))))), (a7, .inl (ww_g X 0, 80, .inl vl)), (a8, .inl (ww_g X 0, 60, .inl bf))]) rfl rfl (by decide) ?_
                refine ww_iinc O dd_MO_mapRow_121 3 rfl (v := nI (d2 + 1)) (nI_add _ 1) (by rw [hn]; decide) rfl (L' := [(0, .ref m), (1, .int (nI a)), (2, .int (nI n)), (3, .int (nI (d2 + 1))), (4, .int (nI q)), (5, .int (nI r)), (6, .int (nI i))]) rfl ?_
                refine ww_iinc O dd_MO_mapRow_124 6 rfl (v := nI (i + 1)) (nI_add _ 1) (by rw [hn]; decide) rfl (L' := [(0, .ref m), (1, .int (nI a)), (2, .int (nI n)), (3, .int (nI (d2 + 1))), (4, .int (nI q)), (5, .int (nI r)), (6, .int (nI (i + 1)))]) rfl ?_
                refine ww_goto O dd_MO_mapRow_127 (tgt := 97) rfl ?_
                rw [px_upd_same (f := wr) (b := a + d2) (v := nI 0) (hw _ (by omega) (by omega))]
                refine ihj (i + 1) (d2 + 1) _ _ (by omega) (by omega) (by omega) (by omega) (px_ho_upd ho3 (by omega)) (by omega) ?_ g7
                rw [px_room_upd (by omega)]
                rw [px_room_s (p := q + i), if_pos ⟨by omega, hw3⟩, show 80 - (q + i) - 1 = 80 - (q + (i + 1)) by omega, show q + i + 1 = q + (i + 1) by omega] at g6
                omega
        exact inner r 0 d pl2 ow2 (by omega) (by omega) (by omega) (by omega) ho (by omega) (by rw [Nat.add_zero]; exact hre) h4
  have loop1 : ∀ (k d p : Nat) (pl2 ow2 : Nat → Int32), n ≤ d + k → d ≤ n → p ≤ 80 → (∀ p, p < 80 → px_rq (ow2 p)) → n - d ≤ px_nu ow2 → px_mr 0 (n - d) (a + d) (nI p) pl2 ow2 = T → ww_at X 0 0 32 [(0, .ref m), (1, .int (nI a)), (2, .int (nI n)), (3, .int (nI d)), (4, .int (nI p))] [] [(m, .inr (3, [.int cd, .ref a1, .ref a2, .ref a3, .ref a4, .ref a5, .ref a6, .ref a7, .ref a8, .int fi, .int le])), (a1, .inl (ww_g X 0, 240, .inl pl2)), (a2, .inl (ww_g X 1, 240, .inl wr)), (a3, .inl (ww_g X 1, 240, .inl pg)), (a4, .inl (ww_g X 0, 240, .inl pv)), (a5, .inl (ww_g X 0, 4, .inl sz)), (a6, .inl (ww_g X 0, 80, .inl ow2)), (a7, .inl (ww_g X 0, 80, .inl vl)), (a8, .inl (ww_g X 0, 60, .inl bf))] := by
    intro k
    induction k with
    | zero =>
      intro d p pl2 ow2 h1 h2 hp ho h5 h4
      refine ww_iload_n O dd_MO_mapRow_32 3 rfl ?_
      refine ww_iload_n O dd_MO_mapRow_33 2 rfl ?_
      refine ww_icmp_geN O dd_MO_mapRow_34 (tgt := 72) rfl (by omega) (by omega) (fun h34 => ?_) (fun h34 => ?_)
      · refine ww_sub [0, 1, 2, 3] rfl ?_
        refine loop2 n d (nI p) pl2 ow2 (by omega) (by omega) ho (by omega) h4 ?_
        exact Or.inl (by omega)
      · exfalso; omega
    | succ k ih =>
      intro d p pl2 ow2 h1 h2 hp ho h5 h4
      refine ww_iload_n O dd_MO_mapRow_32 3 rfl ?_
      refine ww_iload_n O dd_MO_mapRow_33 2 rfl ?_
      refine ww_icmp_geN O dd_MO_mapRow_34 (tgt := 72) rfl (by omega) (by omega) (fun h34 => ?_) (fun h34 => ?_)
      · refine ww_sub [0, 1, 2, 3] rfl ?_
        refine loop2 n d (nI p) pl2 ow2 (by omega) (by omega) ho (by omega) h4 ?_
        exact Or.inl (by omega)
      · refine ww_iload O dd_MO_mapRow_37 4 rfl ?_
        refine ww_bipush O dd_MO_mapRow_39 (v := nI 80) rfl ?_
        refine ww_icmp_geN O dd_MO_mapRow_41 (tgt := 72) rfl (by omega) (by omega) (fun h41 => ?_) (fun h41 => ?_)
        · refine ww_sub [0, 1, 2, 3] rfl ?_
          refine loop2 n d (nI p) pl2 ow2 (by omega) (by omega) ho (by omega) h4 ?_
          exact Or.inr (by rw [px_un_nI ow2 (by omega)]; simp; omega)
        · refine ww_aload_n O dd_MO_mapRow_44 0 rfl ?_
          refine ww_get O ci_MO rfl 6 (by decide) lf_MO_26 rfl dd_MO_mapRow_45 0 rfl rfl ?_
          refine ww_iload O dd_MO_mapRow_48 4 rfl ?_
          refine ww_iald O dd_MO_mapRow_50 6 rfl (by omega) (by decide) rfl ?_
          refine ww_if_ge O dd_MO_mapRow_51 (tgt := 72) rfl (fun h51 => ?_) (fun h51 => ?_)
          · refine ww_sub [0, 1, 2, 3] rfl ?_
            refine loop2 n d (nI p) pl2 ow2 (by omega) (by omega) ho (by omega) h4 ?_
            exact Or.inr (by rw [px_un_nI ow2 (by omega)]; simp; intro _; exact (ho p (by omega)).ge h51)
          · refine ww_aload_n O dd_MO_mapRow_54 0 rfl ?_
            refine ww_iload_n O dd_MO_mapRow_55 1 rfl ?_
            refine ww_iload_n O dd_MO_mapRow_56 3 rfl ?_
            refine ww_iadd O dd_MO_mapRow_57 (v := nI (a + d)) (nI_add _ _) ?_
            refine ww_iload O dd_MO_mapRow_58 4 rfl ?_
            have hw3 := (ho p (by omega)).lt h51
            have hu3 : px_un ow2 (nI p) = true := by rw [px_un_nI ow2 (by omega)]; simp [hw3]; omega
            rw [px_mr_u (by omega) hu3, nI_clamp (by omega), Nat.zero_add, nI_1] at h4
            have hnu := px_nu_take (v := nI (a + d)) (show p < 80 by omega) hw3 (px_m1 (by omega))
            refine ww_callV (q0 := 0) (ci := 3) O (cc_MO_map _ _ _ m a1 a2 a3 a4 a5 a6 a7 a8 cd fi le pl2 wr pg pv sz ow2 vl bf (a + d) p (by omega) (by omega)) lc_MO_66 lx_MO_map_II_V rfl rfl rfl (by rw [hR]; decide) (by rw [hR]; decide) (by rw [hR]; decide) rfl (Nat.le_of_ble_eq_true rfl) dd_MO_mapRow_60 rfl [0, 1, 2, 3, 4, 5, 6, 7, 8] [] [0, 1, 2, 3, 4, 5, 6, 7, 8] rfl (by decide) rfl (by decide) (by decide) (ws' := [(m, .inr (3, [.int cd, .ref a1, .ref a2, .ref a3, .ref a4, .ref a5, .ref a6, .ref a7, .ref a8, .int fi, .int le])), (a1, .inl (ww_g X 0, 240, .inl (upd pl2 (a + d) (nI p)))), (a2, .inl (ww_g X 1, 240, .inl (upd wr (a + d) (nI 0)))), (a3, .inl (ww_g X 1, 240, .inl pg)), (a4, .inl (ww_g X 0, 240, .inl pv)), (a5, .inl (ww_g X 0, 4, .inl sz)), (a6, .inl (ww_g X 0, 80, .inl (upd ow2 p (nI (a + d))))), (a7, .inl (ww_g X 0, 80, .inl vl)), (a8, .inl (ww_g X 0, 60, .inl bf))]) rfl rfl (by decide) ?_
            refine ww_iinc O dd_MO_mapRow_63 3 rfl (v := nI (d + 1)) (nI_add _ 1) (by rw [hn]; decide) rfl (L' := [(0, .ref m), (1, .int (nI a)), (2, .int (nI n)), (3, .int (nI (d + 1))), (4, .int (nI p))]) rfl ?_
            refine ww_iinc O dd_MO_mapRow_66 4 rfl (v := nI (p + 1)) (nI_add _ 1) (by rw [hn]; decide) rfl (L' := [(0, .ref m), (1, .int (nI a)), (2, .int (nI n)), (3, .int (nI (d + 1))), (4, .int (nI (p + 1)))]) rfl ?_
            refine ww_goto O dd_MO_mapRow_69 (tgt := 32) rfl ?_
            rw [px_upd_same (f := wr) (b := a + d) (v := nI 0) (hw _ (by omega) (by omega))]
            exact ih (d + 1) (p + 1) _ _ (by omega) (by omega) (by omega) (px_ho_upd ho (by omega)) (by omega) h4
  refine ww_iconst O dd_MO_mapRow_0 (v := nI 0) rfl ?_
  refine ww_istore_n O dd_MO_mapRow_1 (by rw [hn]; decide) rfl (L' := [(0, .ref m), (1, .int (nI a)), (2, .int (nI n)), (3, .int (nI 0))]) rfl ?_
  refine ww_iload_n O dd_MO_mapRow_2 1 rfl ?_
  refine ww_bipush O dd_MO_mapRow_3 (v := nI 60) rfl ?_
  refine ww_irem O dd_MO_mapRow_5 (by decide) (v := nI (a % 60)) (pk_rem (by omega) (by decide) (by decide)) ?_
  refine ww_if_leN O dd_MO_mapRow_6 (tgt := 72) rfl (by omega) (fun h6 => ?_) (fun h6 => ?_)
  · refine loop2 n 0 (-1) pl ow (by omega) (by omega) ho (by omega) ?_ (Or.inr (px_un_m1 ow))
    rw [Nat.sub_zero, Nat.add_zero, ← hT]
    congr 1
    unfold px_cand
    rw [show (a % 60 == 0) = true by simp; omega]; rfl
  · refine ww_aload_n O dd_MO_mapRow_9 0 rfl ?_
    refine ww_get O ci_MO rfl 1 (by decide) lf_MO_7 rfl dd_MO_mapRow_10 0 rfl rfl ?_
    refine ww_iload_n O dd_MO_mapRow_13 1 rfl ?_
    refine ww_iconst O dd_MO_mapRow_14 (v := nI 1) rfl ?_
    refine ww_isub O dd_MO_mapRow_15 (v := nI (a - 1)) (pk_sub (by omega)) ?_
    refine ww_iald O dd_MO_mapRow_16 1 rfl (by omega) (by decide) rfl ?_
    refine ww_if_lt O dd_MO_mapRow_17 (tgt := 72) rfl (fun h17 => ?_) (fun h17 => ?_)
    · refine loop2 n 0 (-1) pl ow (by omega) (by omega) ho (by omega) ?_ (Or.inr (px_un_m1 ow))
      rw [Nat.sub_zero, Nat.add_zero, ← hT]
      congr 1
      unfold px_cand
      simp [(hr (a - 1) (by omega)).lt h17]
    · refine ww_aload_n O dd_MO_mapRow_20 0 rfl ?_
      refine ww_get O ci_MO rfl 1 (by decide) lf_MO_7 rfl dd_MO_mapRow_21 0 rfl rfl ?_
      refine ww_iload_n O dd_MO_mapRow_24 1 rfl ?_
      refine ww_iconst O dd_MO_mapRow_25 (v := nI 1) rfl ?_
      refine ww_isub O dd_MO_mapRow_26 (v := nI (a - 1)) (pk_sub (by omega)) ?_
      refine ww_iald O dd_MO_mapRow_27 1 rfl (by omega) (by decide) rfl ?_
      refine ww_iconst O dd_MO_mapRow_28 (v := nI 1) rfl ?_
      refine ww_iadd O dd_MO_mapRow_29 (v := (pl (a - 1)) + (nI 1)) rfl ?_
      have hh := (hr (a - 1) (by omega)).ge h17
      obtain ⟨p, hp, hpe⟩ : ∃ p, p < 80 ∧ pl (a - 1) = nI p := by
        rcases hr (a - 1) (by omega) with h | h
        · simp [px_hole, h] at hh
        · exact h
      rw [show px_cand (a % 60 == 0) pl a = nI (p + 1) from by unfold px_cand; rw [show (a % 60 == 0) = false by simp; omega, hh, hpe]; exact nI_1 p] at hT
      rw [hpe, nI_add]
      refine ww_istore O dd_MO_mapRow_30 (by rw [hn]; decide) rfl (L' := [(0, .ref m), (1, .int (nI a)), (2, .int (nI n)), (3, .int (nI 0)), (4, .int (nI (p + 1)))]) rfl ?_
      exact loop1 n 0 (p + 1) pl ow (by omega) (by omega) (by omega) ho (by omega) (by rw [Nat.sub_zero, Nat.add_zero]; exact hT)
