theorem lf_MO_35 : Cond.fieldLink "DelayedExtentsModel" 35 "DelayedExtentsModel" "code" "I" ∈ lw_good := List.mem_filter.mpr ⟨List.mem_of_getElem? (i := 502) (by decide +kernel), by decide +kernel⟩
theorem lf_MO_7 : Cond.fieldLink "DelayedExtentsModel" 7 "DelayedExtentsModel" "place" "[I" ∈ lw_good := List.mem_filter.mpr ⟨List.mem_of_getElem? (i := 503) (by decide +kernel), by decide +kernel⟩
theorem lf_MO_13 : Cond.fieldLink "DelayedExtentsModel" 13 "DelayedExtentsModel" "written" "[Z" ∈ lw_good := List.mem_filter.mpr ⟨List.mem_of_getElem? (i := 504) (by decide +kernel), by decide +kernel⟩
theorem lf_MO_39 : Cond.fieldLink "DelayedExtentsModel" 39 "DelayedExtentsModel" "length" "I" ∈ lw_good := List.mem_filter.mpr ⟨List.mem_of_getElem? (i := 512) (by decide +kernel), by decide +kernel⟩
theorem lf_MO_46 : Cond.fieldLink "DelayedExtentsModel" 46 "DelayedExtentsModel" "first" "I" ∈ lw_good := List.mem_filter.mpr ⟨List.mem_of_getElem? (i := 511) (by decide +kernel), by decide +kernel⟩
theorem lc_MO_42 : ww_site "DelayedExtentsModel" 42 yy_MO_goesOn bb_MO_goesOn 2 (some .boolean) 1 := ⟨List.mem_filter.mpr ⟨List.mem_of_getElem? (i := 569) (by decide +kernel), by decide +kernel⟩, List.mem_filter.mpr ⟨List.mem_of_getElem? (i := 566) (by decide +kernel), by decide +kernel⟩, List.mem_filter.mpr ⟨List.mem_of_getElem? (i := 30) (by decide +kernel), by decide +kernel⟩, by decide, by decide, by decide +kernel⟩
theorem lx_MO_goesOn_I_Z : ww_virt yy_MO_goesOn := ⟨List.mem_filter.mpr ⟨List.mem_of_getElem? (i := 568) (by decide +kernel), by decide +kernel⟩, List.mem_filter.mpr ⟨List.mem_of_getElem? (i := 15) (by decide +kernel), by decide +kernel⟩⟩
theorem lf_MO_17 : Cond.fieldLink "DelayedExtentsModel" 17 "DelayedExtentsModel" "paged" "[Z" ∈ lw_good := List.mem_filter.mpr ⟨List.mem_of_getElem? (i := 505) (by decide +kernel), by decide +kernel⟩
theorem lf_MO_26 : Cond.fieldLink "DelayedExtentsModel" 26 "DelayedExtentsModel" "owners" "[I" ∈ lw_good := List.mem_filter.mpr ⟨List.mem_of_getElem? (i := 508) (by decide +kernel), by decide +kernel⟩
theorem lc_MO_63 : ww_site "DelayedExtentsModel" 63 yy_MO_room bb_MO_room 3 (some .int) 1 := ⟨List.mem_filter.mpr ⟨List.mem_of_getElem? (i := 608) (by decide +kernel), by decide +kernel⟩, List.mem_filter.mpr ⟨List.mem_of_getElem? (i := 605) (by decide +kernel), by decide +kernel⟩, List.mem_filter.mpr ⟨List.mem_of_getElem? (i := 30) (by decide +kernel), by decide +kernel⟩, by decide, by decide, by decide +kernel⟩
theorem lx_MO_room_I_I : ww_virt yy_MO_room := ⟨List.mem_filter.mpr ⟨List.mem_of_getElem? (i := 607) (by decide +kernel), by decide +kernel⟩, List.mem_filter.mpr ⟨List.mem_of_getElem? (i := 22) (by decide +kernel), by decide +kernel⟩⟩
set_option maxRecDepth 4000 in
theorem cc_MO_thrown (l : Launch) (D : va_G) (g : Nat → ClassId) (m : Nat) (a1 : Nat) (a2 : Nat) (a3 : Nat) (a4 : Nat) (a5 : Nat) (a6 : Nat) (a7 : Nat) (a8 : Nat) (cd : Int32) (fi : Int32) (le : Int32) (pl : Nat → Int32) (wr : Nat → Int32) (pg : Nat → Int32) (pv : Nat → Int32) (sz : Nat → Int32) (ow : Nat → Int32) (vl : Nat → Int32) (bf : Nat → Int32)  : ww_ct l D g yy_MO_thrown bb_MO_thrown 1 (some .int) (ww_rm 1) [.ref m] [(m, .inr (3, [.int cd, .ref a1, .ref a2, .ref a3, .ref a4, .ref a5, .ref a6, .ref a7, .ref a8, .int fi, .int le])), (a1, .inl (g 0, 240, .inl pl)), (a2, .inl (g 1, 240, .inl wr)), (a3, .inl (g 1, 240, .inl pg)), (a4, .inl (g 0, 240, .inl pv)), (a5, .inl (g 0, 4, .inl sz)), (a6, .inl (g 0, 80, .inl ow)), (a7, .inl (g 0, 80, .inl vl)), (a8, .inl (g 0, 60, .inl bf))] (some (.int cd)) [(m, .inr (3, [.int cd, .ref a1, .ref a2, .ref a3, .ref a4, .ref a5, .ref a6, .ref a7, .ref a8, .int fi, .int le])), (a1, .inl (g 0, 240, .inl pl)), (a2, .inl (g 1, 240, .inl wr)), (a3, .inl (g 1, 240, .inl pg)), (a4, .inl (g 0, 240, .inl pv)), (a5, .inl (g 0, 4, .inl sz)), (a6, .inl (g 0, 80, .inl ow)), (a7, .inl (g 0, 80, .inl vl)), (a8, .inl (g 0, 60, .inl bf))] := by
  refine ww_start (by decide +kernel) rfl rfl (Nat.le_of_ble_eq_true rfl) (L0 := [(0, .ref m)]) rfl ?_
  intro X O hl hD hg hR hn F
  subst hl hD hg
  refine ww_aload_n O dd_MO_thrown_0 0 rfl ?_
  refine ww_get O ci_MO rfl 0 (by decide) lf_MO_35 rfl dd_MO_thrown_1 0 rfl rfl ?_
  exact F.i dd_MO_thrown_4
set_option maxRecDepth 4000 in
theorem cc_MO_noFile (l : Launch) (D : va_G) (g : Nat → ClassId) (x : Int32)  : ww_ct l D g yy_MO_noFile bb_MO_noFile 1 (some .boolean) (ww_rm 1) [.int x] [] (some (.int (px_b (px_nf x 3)))) [] := by
  refine ww_start (by decide +kernel) rfl (px_b_nar _) (Nat.le_of_ble_eq_true rfl) (L0 := [(0, .int x)]) rfl ?_
  intro X O hl hD hg hR hn F
  subst hl hD hg
  refine ww_iload_n O dd_MO_noFile_0 0 rfl ?_
  refine ww_if_lt O dd_MO_noFile_1 (tgt := 9) rfl (fun h1 => ?_) (fun h1 => ?_)
  · refine ww_iconst O dd_MO_noFile_9 (v := nI 1) rfl ?_
    refine ww_goto O dd_MO_noFile_10 (tgt := 14) rfl ?_
    rw [show px_nf x 3 = true from px_nf_t (Or.inl h1), px_b_t] at F
    exact F.i dd_MO_noFile_14
  · refine ww_iload_n O dd_MO_noFile_4 0 rfl ?_
    refine ww_iconst O dd_MO_noFile_5 (v := nI 3) rfl ?_
    refine ww_icmp_le O dd_MO_noFile_6 (tgt := 13) rfl (fun h6 => ?_) (fun h6 => ?_)
    · refine ww_iconst O dd_MO_noFile_13 (v := nI 0) rfl ?_
      rw [show px_nf x 3 = false from px_nf_f h1 h6, px_b_f] at F
      exact F.i dd_MO_noFile_14
    · refine ww_iconst O dd_MO_noFile_9 (v := nI 1) rfl ?_
      refine ww_goto O dd_MO_noFile_10 (tgt := 14) rfl ?_
      rw [show px_nf x 3 = true from px_nf_t (Or.inr h6), px_b_t] at F
      exact F.i dd_MO_noFile_14
set_option maxRecDepth 4000 in
theorem cc_MO_noBlock (l : Launch) (D : va_G) (g : Nat → ClassId) (x : Int32)  : ww_ct l D g yy_MO_noBlock bb_MO_noBlock 1 (some .boolean) (ww_rm 1) [.int x] [] (some (.int (px_b (px_nf x 59)))) [] := by
  refine ww_start (by decide +kernel) rfl (px_b_nar _) (Nat.le_of_ble_eq_true rfl) (L0 := [(0, .int x)]) rfl ?_
  intro X O hl hD hg hR hn F
  subst hl hD hg
  refine ww_iload_n O dd_MO_noBlock_0 0 rfl ?_
  refine ww_if_lt O dd_MO_noBlock_1 (tgt := 10) rfl (fun h1 => ?_) (fun h1 => ?_)
  · refine ww_iconst O dd_MO_noBlock_10 (v := nI 1) rfl ?_
    refine ww_goto O dd_MO_noBlock_11 (tgt := 15) rfl ?_
    rw [show px_nf x 59 = true from px_nf_t (Or.inl h1), px_b_t] at F
    exact F.i dd_MO_noBlock_15
  · refine ww_iload_n O dd_MO_noBlock_4 0 rfl ?_
    refine ww_bipush O dd_MO_noBlock_5 (v := nI 59) rfl ?_
    refine ww_icmp_le O dd_MO_noBlock_7 (tgt := 14) rfl (fun h7 => ?_) (fun h7 => ?_)
    · refine ww_iconst O dd_MO_noBlock_14 (v := nI 0) rfl ?_
      rw [show px_nf x 59 = false from px_nf_f h1 h7, px_b_f] at F
      exact F.i dd_MO_noBlock_15
    · refine ww_iconst O dd_MO_noBlock_10 (v := nI 1) rfl ?_
      refine ww_goto O dd_MO_noBlock_11 (tgt := 15) rfl ?_
      rw [show px_nf x 59 = true from px_nf_t (Or.inr h7), px_b_t] at F
      exact F.i dd_MO_noBlock_15
set_option maxRecDepth 4000 in
theorem cc_MO_goesOn (l : Launch) (D : va_G) (g : Nat → ClassId) (m : Nat) (a1 : Nat) (a2 : Nat) (a3 : Nat) (a4 : Nat) (a5 : Nat) (a6 : Nat) (a7 : Nat) (a8 : Nat) (cd : Int32) (fi : Int32) (le : Int32) (pl : Nat → Int32) (wr : Nat → Int32) (pg : Nat → Int32) (pv : Nat → Int32) (sz : Nat → Int32) (ow : Nat → Int32) (vl : Nat → Int32) (bf : Nat → Int32) (b : Nat) (hr : ∀ b, b < 240 → px_rg (pl b)) (hb : b < 240) : ww_ct l D g yy_MO_goesOn bb_MO_goesOn 2 (some .boolean) (ww_rm 1) [.ref m, .int (nI b)] [(m, .inr (3, [.int cd, .ref a1, .ref a2, .ref a3, .ref a4, .ref a5, .ref a6, .ref a7, .ref a8, .int fi, .int le])), (a1, .inl (g 0, 240, .inl pl)), (a2, .inl (g 1, 240, .inl wr)), (a3, .inl (g 1, 240, .inl pg)), (a4, .inl (g 0, 240, .inl pv)), (a5, .inl (g 0, 4, .inl sz)), (a6, .inl (g 0, 80, .inl ow)), (a7, .inl (g 0, 80, .inl vl)), (a8, .inl (g 0, 60, .inl bf))] (some (.int (px_b (px_gon pl wr b)))) [(m, .inr (3, [.int cd, .ref a1, .ref a2, .ref a3, .ref a4, .ref a5, .ref a6, .ref a7, .ref a8, .int fi, .int le])), (a1, .inl (g 0, 240, .inl pl)), (a2, .inl (g 1, 240, .inl wr)), (a3, .inl (g 1, 240, .inl pg)), (a4, .inl (g 0, 240, .inl pv)), (a5, .inl (g 0, 4, .inl sz)), (a6, .inl (g 0, 80, .inl ow)), (a7, .inl (g 0, 80, .inl vl)), (a8, .inl (g 0, 60, .inl bf))] := by
  refine ww_start (by decide +kernel) rfl (px_b_nar _) (Nat.le_of_ble_eq_true rfl) (L0 := [(0, .ref m), (1, .int (nI b))]) rfl ?_
  intro X O hl hD hg hR hn F
  subst hl hD hg
  refine ww_iload_n O dd_MO_goesOn_0 1 rfl ?_
  refine ww_bipush O dd_MO_goesOn_1 (v := nI 60) rfl ?_
  refine ww_irem O dd_MO_goesOn_3 (by decide) (v := nI (b % 60)) (pk_rem (by omega) (by decide) (by decide)) ?_
  refine ww_if_leN O dd_MO_goesOn_4 (tgt := 67) rfl (by omega) (fun h4 => ?_) (fun h4 => ?_)
  · refine ww_iconst O dd_MO_goesOn_67 (v := nI 0) rfl ?_
    rw [show px_gon pl wr b = false from by unfold px_gon; simp; omega, px_b_f] at F
    exact F.i dd_MO_goesOn_68
  · refine ww_aload_n O dd_MO_goesOn_7 0 rfl ?_
    refine ww_get O ci_MO rfl 1 (by decide) lf_MO_7 rfl dd_MO_goesOn_8 0 rfl rfl ?_
    refine ww_iload_n O dd_MO_goesOn_11 1 rfl ?_
    refine ww_iald O dd_MO_goesOn_12 1 rfl (by omega) (by decide) rfl ?_
    refine ww_if_lt O dd_MO_goesOn_13 (tgt := 67) rfl (fun h13 => ?_) (fun h13 => ?_)
    · refine ww_iconst O dd_MO_goesOn_67 (v := nI 0) rfl ?_
      rw [show px_gon pl wr b = false from by unfold px_gon; simp [(hr b (by omega)).lt h13], px_b_f] at F
      exact F.i dd_MO_goesOn_68
    · refine ww_aload_n O dd_MO_goesOn_16 0 rfl ?_
      refine ww_get O ci_MO rfl 1 (by decide) lf_MO_7 rfl dd_MO_goesOn_17 0 rfl rfl ?_
      refine ww_iload_n O dd_MO_goesOn_20 1 rfl ?_
      refine ww_iconst O dd_MO_goesOn_21 (v := nI 1) rfl ?_
      refine ww_isub O dd_MO_goesOn_22 (v := nI (b - 1)) (pk_sub (by omega)) ?_
      refine ww_iald O dd_MO_goesOn_23 1 rfl (by omega) (by decide) rfl ?_
      refine ww_if_lt O dd_MO_goesOn_24 (tgt := 67) rfl (fun h24 => ?_) (fun h24 => ?_)
      · refine ww_iconst O dd_MO_goesOn_67 (v := nI 0) rfl ?_
        rw [show px_gon pl wr b = false from by unfold px_gon; simp [(hr (b - 1) (by omega)).lt h24], px_b_f] at F
        exact F.i dd_MO_goesOn_68
      · refine ww_aload_n O dd_MO_goesOn_27 0 rfl ?_
        refine ww_get O ci_MO rfl 1 (by decide) lf_MO_7 rfl dd_MO_goesOn_28 0 rfl rfl ?_
        refine ww_iload_n O dd_MO_goesOn_31 1 rfl ?_
        refine ww_iald O dd_MO_goesOn_32 1 rfl (by omega) (by decide) rfl ?_
        refine ww_aload_n O dd_MO_goesOn_33 0 rfl ?_
        refine ww_get O ci_MO rfl 1 (by decide) lf_MO_7 rfl dd_MO_goesOn_34 0 rfl rfl ?_
        refine ww_iload_n O dd_MO_goesOn_37 1 rfl ?_
        refine ww_iconst O dd_MO_goesOn_38 (v := nI 1) rfl ?_
        refine ww_isub O dd_MO_goesOn_39 (v := nI (b - 1)) (pk_sub (by omega)) ?_
        refine ww_iald O dd_MO_goesOn_40 1 rfl (by omega) (by decide) rfl ?_
        refine ww_iconst O dd_MO_goesOn_41 (v := nI 1) rfl ?_
        refine ww_iadd O dd_MO_goesOn_42 (v := (pl (b - 1)) + (nI 1)) rfl ?_
        refine ww_icmp_ne O dd_MO_goesOn_43 (tgt := 67) rfl (fun h43 => ?_) (fun h43 => ?_)
        · refine ww_iconst O dd_MO_goesOn_67 (v := nI 0) rfl ?_
          rw [show px_gon pl wr b = false from by unfold px_gon; simp [px_go_f1 (wr := wr) h43], px_b_f] at F
          exact F.i dd_MO_goesOn_68
        · refine ww_aload_n O dd_MO_goesOn_46 0 rfl ?_
          refine ww_get O ci_MO rfl 2 (by decide) lf_MO_13 rfl dd_MO_goesOn_47 0 rfl rfl ?_
          refine ww_iload_n O dd_MO_goesOn_50 1 rfl ?_
          refine ww_zald O dd_MO_goesOn_51 2 rfl (by omega) (by decide) rfl ?_
          refine ww_aload_n O dd_MO_goesOn_52 0 rfl ?_
          refine ww_get O ci_MO rfl 2 (by decide) lf_MO_13 rfl dd_MO_goesOn_53 0 rfl rfl ?_
          refine ww_iload_n O dd_MO_goesOn_56 1 rfl ?_
          refine ww_iconst O dd_MO_goesOn_57 (v := nI 1) rfl ?_
          refine ww_isub O dd_MO_goesOn_58 (v := nI (b - 1)) (pk_sub (by omega)) ?_
          refine ww_zald O dd_MO_goesOn_59 2 rfl (by omega) (by decide) rfl ?_
          refine ww_icmp_ne O dd_MO_goesOn_60 (tgt := 67) rfl (fun h60 => ?_) (fun h60 => ?_)
          · refine ww_iconst O dd_MO_goesOn_67 (v := nI 0) rfl ?_
            rw [show px_gon pl wr b = false from by unfold px_gon; simp [px_go_f2 (pl := pl) h60], px_b_f] at F
            exact F.i dd_MO_goesOn_68
          · refine ww_iconst O dd_MO_goesOn_63 (v := nI 1) rfl ?_
            refine ww_goto O dd_MO_goesOn_64 (tgt := 68) rfl ?_
            rw [show px_gon pl wr b = true from by unfold px_gon; simp [h4, (hr b (by omega)).ge h13, (hr (b - 1) (by omega)).ge h24, px_go_iff.mpr ⟨h43, h60⟩], px_b_t] at F
            exact F.i dd_MO_goesOn_68
set_option maxRecDepth 4000 in
theorem cc_MO_tree (l : Launch) (D : va_G) (g : Nat → ClassId) (e : Nat) (he : e < 1000) : ww_ct l D g yy_MO_tree bb_MO_tree 1 (some .int) (ww_rm 1) [.int (nI e)] [] (some (.int (nI (px_tree e)))) [] := by
  refine ww_start (by decide +kernel) rfl rfl (Nat.le_of_ble_eq_true rfl) (L0 := [(0, .int (nI e))]) rfl ?_
  intro X O hl hD hg hR hn F
  subst hl hD hg
  refine ww_iload_n O dd_MO_tree_0 0 rfl ?_
  refine ww_iconst O dd_MO_tree_1 (v := nI 3) rfl ?_
  refine ww_icmp_gtN O dd_MO_tree_2 (tgt := 9) rfl (by omega) (by omega) (fun h2 => ?_) (fun h2 => ?_)
  · refine ww_iload_n O dd_MO_tree_9 0 rfl ?_
    refine ww_iconst O dd_MO_tree_10 (v := nI 3) rfl ?_
    refine ww_iadd O dd_MO_tree_11 (v := nI (e + 3)) (nI_add _ _) ?_
    refine ww_iconst O dd_MO_tree_12 (v := nI 4) rfl ?_
    refine ww_idiv O dd_MO_tree_13 (by decide) (v := nI ((e + 3) / 4)) (pk_div (by omega) (by decide) (by decide)) ?_
    rw [show px_tree e = ((e + 3) / 4) from by unfold px_tree; rw [if_neg (by omega)]] at F
    exact F.i dd_MO_tree_14
  · refine ww_iconst O dd_MO_tree_5 (v := nI 0) rfl ?_
    refine ww_goto O dd_MO_tree_6 (tgt := 14) rfl ?_
    rw [show px_tree e = 0 from by unfold px_tree; rw [if_pos (by omega)]] at F
    exact F.i dd_MO_tree_14
set_option maxRecDepth 4000 in
theorem cc_MO_extents (l : Launch) (D : va_G) (g : Nat → ClassId) (m : Nat) (a1 : Nat) (a2 : Nat) (a3 : Nat) (a4 : Nat) (a5 : Nat) (a6 : Nat) (a7 : Nat) (a8 : Nat) (cd : Int32) (fi : Int32) (le : Int32) (pl : Nat → Int32) (wr : Nat → Int32) (pg : Nat → Int32) (pv : Nat → Int32) (sz : Nat → Int32) (ow : Nat → Int32) (vl : Nat → Int32) (bf : Nat → Int32) (f : Nat) (s : Nat) (hr : ∀ b, b < 240 → px_rg (pl b)) (hf : f < 4) (hs : s < 100) : ww_ct l D g yy_MO_extents bb_MO_extents 6 (some .int) (ww_rm 2) [.ref m, .int (nI f), .int (nI s)] [(m, .inr (3, [.int cd, .ref a1, .ref a2, .ref a3, .ref a4, .ref a5, .ref a6, .ref a7, .ref a8, .int fi, .int le])), (a1, .inl (g 0, 240, .inl pl)), (a2, .inl (g 1, 240, .inl wr)), (a3, .inl (g 1, 240, .inl pg)), (a4, .inl (g 0, 240, .inl pv)), (a5, .inl (g 0, 4, .inl sz)), (a6, .inl (g 0, 80, .inl ow)), (a7, .inl (g 0, 80, .inl vl)), (a8, .inl (g 0, 60, .inl bf))] (some (.int (nI (px_rx pl wr s 60 (60 * f) 0 0 fi).1))) [(m, .inr (3, [.int cd, .ref a1, .ref a2, .ref a3, .ref a4, .ref a5, .ref a6, .ref a7, .ref a8, .int ((px_rx pl wr s 60 (60 * f) 0 0 fi).2.2), .int (nI (px_rx pl wr s 60 (60 * f) 0 0 fi).2.1)])), (a1, .inl (g 0, 240, .inl pl)), (a2, .inl (g 1, 240, .inl wr)), (a3, .inl (g 1, 240, .inl pg)), (a4, .inl (g 0, 240, .inl pv)), (a5, .inl (g 0, 4, .inl sz)), (a6, .inl (g 0, 80, .inl ow)), (a7, .inl (g 0, 80, .inl vl)), (a8, .inl (g 0, 60, .inl bf))] := by
  refine ww_start (by decide +kernel) rfl rfl (Nat.le_of_ble_eq_true rfl) (L0 := [(0, .ref m), (1, .int (nI f)), (2, .int (nI s))]) rfl ?_
  intro X O hl hD hg hR hn F
  subst hl hD hg
  generalize hT : px_rx pl wr s 60 (60 * f) 0 0 fi = T at F
  have loop : ∀ (k b n z : Nat) (fi2 : Int32), 60 * f + 60 ≤ b + k → 60 * f ≤ b → b ≤ 60 * f + 60 → n ≤ b - 60 * f → z ≤ 8 → px_rx pl wr s (60 * f + 60 - b) b n z fi2 = T → ww_at X 0 0 13 [(0, .ref m), (1, .int (nI f)), (2, .int (nI s)), (3, .int (nI n)), (4, .int (nI b))] [] [(m, .inr (3, [.int cd, .ref a1, .ref a2, .ref a3, .ref a4, .ref a5, .ref a6, .ref a7, .ref a8, .int fi2, .int (nI z)])), (a1, .inl (ww_g X 0, 240, .inl pl)), (a2, .inl (ww_g X 1, 240, .inl wr)), (a3, .inl (ww_g X 1, 240, .inl pg)), (a4, .inl (ww_g X 0, 240, .inl pv)), (a5, .inl (ww_g X 0, 4, .inl sz)), (a6, .inl (ww_g X 0, 80, .inl ow)), (a7, .inl (ww_g X 0, 80, .inl vl)), (a8, .inl (ww_g X 0, 60, .inl bf))] := by
    intro k
    induction k with
    | zero =>
      intro b n z fi2 h1 h2 h3 h5 h6 h4
      refine ww_iload O dd_MO_extents_13 4 rfl ?_
      refine ww_bipush O dd_MO_extents_15 (v := nI 60) rfl ?_
      refine ww_iload_n O dd_MO_extents_17 1 rfl ?_
      refine ww_imul O dd_MO_extents_18 (v := nI (60 * f)) (pk_mul _ _) ?_
      refine ww_bipush O dd_MO_extents_19 (v := nI 60) rfl ?_
      refine ww_iadd O dd_MO_extents_21 (v := nI ((60 * f) + 60)) (nI_add _ _) ?_
      refine ww_icmp_geN O dd_MO_extents_22 (tgt := 130) rfl (by omega) (by omega) (fun h22 => ?_) (fun h22 => ?_)
      · refine ww_iload_n O dd_MO_extents_130 3 rfl ?_
        rw [show 60 * f + 60 - b = 0 by omega] at h4
        subst h4
        exact F.i dd_MO_extents_131
      · exfalso; omega
    | succ k ih =>
      intro b n z fi2 h1 h2 h3 h5 h6 h4
      refine ww_iload O dd_MO_extents_13 4 rfl ?_
      refine ww_bipush O dd_MO_extents_15 (v := nI 60) rfl ?_
      refine ww_iload_n O dd_MO_extents_17 1 rfl ?_
      refine ww_imul O dd_MO_extents_18 (v := nI (60 * f)) (pk_mul _ _) ?_
      refine ww_bipush O dd_MO_extents_19 (v := nI 60) rfl ?_
      refine ww_iadd O dd_MO_extents_21 (v := nI ((60 * f) + 60)) (nI_add _ _) ?_
      refine ww_icmp_geN O dd_MO_extents_22 (tgt := 130) rfl (by omega) (by omega) (fun h22 => ?_) (fun h22 => ?_)
      · refine ww_iload_n O dd_MO_extents_130 3 rfl ?_
        rw [show 60 * f + 60 - b = 0 by omega] at h4
        subst h4
        exact F.i dd_MO_extents_131
      · refine ww_aload_n O dd_MO_extents_25 0 rfl ?_
        refine ww_get O ci_MO rfl 1 (by decide) lf_MO_7 rfl dd_MO_extents_26 0 rfl rfl ?_
        refine ww_iload O dd_MO_extents_29 4 rfl ?_
        refine ww_iald O dd_MO_extents_31 1 rfl (by omega) (by decide) rfl ?_
        refine ww_if_lt O dd_MO_extents_32 (tgt := 108) rfl (fun h32 => ?_) (fun h32 => ?_)
        · have hh := (hr b (by omega)).lt h32
          rw [px_rx_s (by omega), if_pos hh] at h4
          refine ww_aload_n O dd_MO_extents_108 0 rfl ?_
          refine ww_get O ci_MO rfl 10 (by decide) lf_MO_39 rfl dd_MO_extents_109 0 rfl rfl ?_
          refine ww_if_leN O dd_MO_extents_112 (tgt := 124) rfl (by omega) (fun h112 => ?_) (fun h112 => ?_)
          · refine ww_iinc O dd_MO_extents_124 4 rfl (v := nI (b + 1)) (nI_add _ 1) (by rw [hn]; decide) rfl (L' := [(0, .ref m), (1, .int (nI f)), (2, .int (nI s)), (3, .int (nI n)), (4, .int (nI (b + 1)))]) rfl ?_
            refine ww_goto O dd_MO_extents_127 (tgt := 13) rfl ?_
            rw [if_neg (by omega)] at h4
            exact ih (b + 1) n z fi2 (by omega) (by omega) (by omega) (by omega) (by omega) h4
          · refine ww_iload_n O dd_MO_extents_115 3 rfl ?_
            refine ww_iload_n O dd_MO_extents_116 2 rfl ?_
            refine ww_iconst O dd_MO_extents_117 (v := nI 1) rfl ?_
            refine ww_iadd O dd_MO_extents_118 (v := nI (s + 1)) (nI_add _ _) ?_
            refine ww_icmp_neN O dd_MO_extents_119 (tgt := 124) rfl (by omega) (by omega) (fun h119 => ?_) (fun h119 => ?_)
            · refine ww_iinc O dd_MO_extents_124 4 rfl (v := nI (b + 1)) (nI_add _ 1) (by rw [hn]; decide) rfl (L' := [(0, .ref m), (1, .int (nI f)), (2, .int (nI s)), (3, .int (nI n)), (4, .int (nI (b + 1)))]) rfl ?_
              refine ww_goto O dd_MO_extents_127 (tgt := 13) rfl ?_
              rw [if_neg (by omega)] at h4
              exact ih (b + 1) n z fi2 (by omega) (by omega) (by omega) (by omega) (by omega) h4
            · refine ww_iload_n O dd_MO_extents_122 3 rfl ?_
              rw [if_pos ⟨h112, by omega⟩] at h4
              subst h4
              exact F.i dd_MO_extents_123
        · have hh := (hr b (by omega)).ge h32
          rw [px_rx_s (by omega), if_neg (by rw [hh]; decide)] at h4
          refine ww_aload_n O dd_MO_extents_35 0 rfl ?_
          refine ww_get O ci_MO rfl 10 (by decide) lf_MO_39 rfl dd_MO_extents_36 0 rfl rfl ?_
          refine ww_if_leN O dd_MO_extents_39 (tgt := 64) rfl (by omega) (fun h39 => ?_) (fun h39 => ?_)
          · refine ww_iconst O dd_MO_extents_64 (v := nI 0) rfl ?_
            rw [if_neg (by omega)] at h4
            refine ww_istore O dd_MO_extents_65 (by rw [hn]; decide) rfl (L' := [(0, .ref m), (1, .int (nI f)), (2, .int (nI s)), (3, .int (nI n)), (4, .int (nI b)), (5, .int (nI 0))]) rfl ?_
            refine ww_iload O dd_MO_extents_67 5 rfl ?_
            refine ww_if_neN O dd_MO_extents_69 (tgt := 95) rfl (by omega) (fun h69 => ?_) (fun h69 => ?_)
            · exact absurd rfl h69
            · refine ww_iload_n O dd_MO_extents_72 3 rfl ?_
              refine ww_iload_n O dd_MO_extents_73 2 rfl ?_
              refine ww_iconst O dd_MO_extents_74 (v := nI 1) rfl ?_
              refine ww_iadd O dd_MO_extents_75 (v := nI (s + 1)) (nI_add _ _) ?_
              refine ww_icmp_neN O dd_MO_extents_76 (tgt := 81) rfl (by omega) (by omega) (fun h76 => ?_) (fun h76 => ?_)
              · refine ww_iinc O dd_MO_extents_81 3 rfl (v := nI (n + 1)) (nI_add _ 1) (by rw [hn]; decide) rfl (L' := [(0, .ref m), (1, .int (nI f)), (2, .int (nI s)), (3, .int (nI (n + 1))), (4, .int (nI b)), (5, .int (nI 0))]) rfl ?_
                refine ww_aload_n O dd_MO_extents_84 0 rfl ?_
                refine ww_iload O dd_MO_extents_85 4 rfl ?_
                refine ww_put O ci_MO cy_MO cy_MO_ok cn_MO rfl 9 (by decide) lf_MO_46 rfl rfl (ty := .int) (by decide +kernel) dd_MO_extents_87 0 rfl rfl rfl (Nat.le_of_ble_eq_true rfl) (ws' := [(m, .inr (3, [.int cd, .ref a1, .ref a2, .ref a3, .ref a4, .ref a5, .ref a6, .ref a7, .ref a8, .int (nI b), .int (nI z)])), (a1, .inl (ww_g X 0, 240, .inl pl)), (a2, .inl (ww_g X 1, 240, .inl wr)), (a3, .inl (ww_g X 1, 240, .inl pg)), (a4, .inl (ww_g X 0, 240, .inl pv)), (a5, .inl (ww_g X 0, 4, .inl sz)), (a6, .inl (ww_g X 0, 80, .inl ow)), (a7, .inl (ww_g X 0, 80, .inl vl)), (a8, .inl (ww_g X 0, 60, .inl bf))]) rfl ?_
                refine ww_aload_n O dd_MO_extents_90 0 rfl ?_
                refine ww_iconst O dd_MO_extents_91 (v := nI 0) rfl ?_
                refine ww_put O ci_MO cy_MO cy_MO_ok cn_MO rfl 10 (by decide) lf_MO_39 rfl rfl (ty := .int) (by decide +kernel) dd_MO_extents_92 0 rfl rfl rfl (Nat.le_of_ble_eq_true rfl) (ws' := [(m, .inr (3, [.int cd, .ref a1, .ref a2, .ref a3, .ref a4, .ref a5, .ref a6, .ref a7, .ref a8, .int (nI b), .int (nI 0)])), (a1, .inl (ww_g X 0, 240, .inl pl)), (a2, .inl (ww_g X 1, 240, .inl wr)), (a3, .inl (ww_g X 1, 240, .inl pg)), (a4, .inl (ww_g X 0, 240, .inl pv)), (a5, .inl (ww_g X 0, 4, .inl sz)), (a6, .inl (ww_g X 0, 80, .inl ow)), (a7, .inl (ww_g X 0, 80, .inl vl)), (a8, .inl (ww_g X 0, 60, .inl bf))]) rfl ?_
                refine ww_aload_n O dd_MO_extents_95 0 rfl ?_
                refine ww_dup O dd_MO_extents_96 rfl ?_
                refine ww_get O ci_MO rfl 10 (by decide) lf_MO_39 rfl dd_MO_extents_97 0 rfl rfl ?_
                refine ww_iconst O dd_MO_extents_100 (v := nI 1) rfl ?_
                refine ww_iadd O dd_MO_extents_101 (v := nI (0 + 1)) (nI_add _ _) ?_
                refine ww_put O ci_MO cy_MO cy_MO_ok cn_MO rfl 10 (by decide) lf_MO_39 rfl rfl (ty := .int) (by decide +kernel) dd_MO_extents_102 0 rfl rfl rfl (Nat.le_of_ble_eq_true rfl) (ws' := [(m, .inr (3, [.int cd, .ref a1, .ref a2, .ref a3, .ref a4, .ref a5, .ref a6, .ref a7, .ref a8, .int (nI b), .int (nI (0 + 1))])), (a1, .inl (ww_g X 0, 240, .inl pl)), (a2, .inl (ww_g X 1, 240, .inl wr)), (a3, .inl (ww_g X 1, 240, .inl pg)), (a4, .inl (ww_g X 0, 240, .inl pv)), (a5, .inl (ww_g X 0, 4, .inl sz)), (a6, .inl (ww_g X 0, 80, .inl ow)), (a7, .inl (ww_g X 0, 80, .inl vl)), (a8, .inl (ww_g X 0, 60, .inl bf))]) rfl ?_
                refine ww_goto O dd_MO_extents_105 (tgt := 124) rfl ?_
                refine ww_iinc O dd_MO_extents_124 4 rfl (v := nI (b + 1)) (nI_add _ 1) (by rw [hn]; decide) rfl (L' := [(0, .ref m), (1, .int (nI f)), (2, .int (nI s)), (3, .int (nI (n + 1))), (4, .int (nI (b + 1))), (5, .int (nI 0))]) rfl ?_
                refine ww_goto O dd_MO_extents_127 (tgt := 13) rfl ?_
                rw [if_neg (by omega)] at h4
                refine ww_sub [0, 1, 2, 3, 4] rfl ?_
                exact ih (b + 1) (n + 1) 1 (nI b) (by omega) (by omega) (by omega) (by omega) (by omega) h4
              · refine ww_iload_n O dd_MO_extents_79 3 rfl ?_
                rw [if_pos (by omega)] at h4
                subst h4
                exact F.i dd_MO_extents_80
          · refine ww_aload_n O dd_MO_extents_42 0 rfl ?_
            refine ww_get O ci_MO rfl 10 (by decide) lf_MO_39 rfl dd_MO_extents_43 0 rfl rfl ?_
            refine ww_bipush O dd_MO_extents_46 (v := nI 8) rfl ?_
            refine ww_icmp_geN O dd_MO_extents_48 (tgt := 64) rfl (by omega) (by omega) (fun h48 => ?_) (fun h48 => ?_)
            · refine ww_iconst O dd_MO_extents_64 (v := nI 0) rfl ?_
              rw [if_neg (by omega)] at h4
              refine ww_istore O dd_MO_extents_65 (by rw [hn]; decide) rfl (L' := [(0, .ref m), (1, .int (nI f)), (2, .int (nI s)), (3, .int (nI n)), (4, .int (nI b)), (5, .int (nI 0))]) rfl ?_
              refine ww_iload O dd_MO_extents_67 5 rfl ?_
              refine ww_if_neN O dd_MO_extents_69 (tgt := 95) rfl (by omega) (fun h69 => ?_) (fun h69 => ?_)
              · exact absurd rfl h69
              · refine ww_iload_n O dd_MO_extents_72 3 rfl ?_
                refine ww_iload_n O dd_MO_extents_73 2 rfl ?_
                refine ww_iconst O dd_MO_extents_74 (v := nI 1) rfl ?_
                refine ww_iadd O dd_MO_extents_75 (v := nI (s + 1)) (nI_add _ _) ?_
                refine ww_icmp_neN O dd_MO_extents_76 (tgt := 81) rfl (by omega) (by omega) (fun h76 => ?_) (fun h76 => ?_)
                · refine ww_iinc O dd_MO_extents_81 3 rfl (v := nI (n + 1)) (nI_add _ 1) (by rw [hn]; decide) rfl (L' := [(0, .ref m), (1, .int (nI f)), (2, .int (nI s)), (3, .int (nI (n + 1))), (4, .int (nI b)), (5, .int (nI 0))]) rfl ?_
                  refine ww_aload_n O dd_MO_extents_84 0 rfl ?_
                  refine ww_iload O dd_MO_extents_85 4 rfl ?_
                  refine ww_put O ci_MO cy_MO cy_MO_ok cn_MO rfl 9 (by decide) lf_MO_46 rfl rfl (ty := .int) (by decide +kernel) dd_MO_extents_87 0 rfl rfl rfl (Nat.le_of_ble_eq_true rfl) (ws' := [(m, .inr (3, [.int cd, .ref a1, .ref a2, .ref a3, .ref a4, .ref a5, .ref a6, .ref a7, .ref a8, .int (nI b), .int (nI z)])), (a1, .inl (ww_g X 0, 240, .inl pl)), (a2, .inl (ww_g X 1, 240, .inl wr)), (a3, .inl (ww_g X 1, 240, .inl pg)), (a4, .inl (ww_g X 0, 240, .inl pv)), (a5, .inl (ww_g X 0, 4, .inl sz)), (a6, .inl (ww_g X 0, 80, .inl ow)), (a7, .inl (ww_g X 0, 80, .inl vl)), (a8, .inl (ww_g X 0, 60, .inl bf))]) rfl ?_
                  refine ww_aload_n O dd_MO_extents_90 0 rfl ?_
                  refine ww_iconst O dd_MO_extents_91 (v := nI 0) rfl ?_
                  refine ww_put O ci_MO cy_MO cy_MO_ok cn_MO rfl 10 (by decide) lf_MO_39 rfl rfl (ty := .int) (by decide +kernel) dd_MO_extents_92 0 rfl rfl rfl (Nat.le_of_ble_eq_true rfl) (ws' := [(m, .inr (3, [.int cd, .ref a1, .ref a2, .ref a3, .ref a4, .ref a5, .ref a6, .ref a7, .ref a8, .int (nI b), .int (nI 0)])), (a1, .inl (ww_g X 0, 240, .inl pl)), (a2, .inl (ww_g X 1, 240, .inl wr)), (a3, .inl (ww_g X 1, 240, .inl pg)), (a4, .inl (ww_g X 0, 240, .inl pv)), (a5, .inl (ww_g X 0, 4, .inl sz)), (a6, .inl (ww_g X 0, 80, .inl ow)), (a7, .inl (ww_g X 0, 80, .inl vl)), (a8, .inl (ww_g X 0, 60, .inl bf))]) rfl ?_
                  refine ww_aload_n O dd_MO_extents_95 0 rfl ?_
                  refine ww_dup O dd_MO_extents_96 rfl ?_
                  refine ww_get O ci_MO rfl 10 (by decide) lf_MO_39 rfl dd_MO_extents_97 0 rfl rfl ?_
                  refine ww_iconst O dd_MO_extents_100 (v := nI 1) rfl ?_
                  refine ww_iadd O dd_MO_extents_101 (v := nI (0 + 1)) (nI_add _ _) ?_
                  refine ww_put O ci_MO cy_MO cy_MO_ok cn_MO rfl 10 (by decide) lf_MO_39 rfl rfl (ty := .int) (by decide +kernel) dd_MO_extents_102 0 rfl rfl rfl (Nat.le_of_ble_eq_true rfl) (ws' := [(m, .inr (3, [.int cd, .ref a1, .ref a2, .ref a3, .ref a4, .ref a5, .ref a6, .ref a7, .ref a8, .int (nI b), .int (nI (0 + 1))])), (a1, .inl (ww_g X 0, 240, .inl pl)), (a2, .inl (ww_g X 1, 240, .inl wr)), (a3, .inl (ww_g X 1, 240, .inl pg)), (a4, .inl (ww_g X 0, 240, .inl pv)), (a5, .inl (ww_g X 0, 4, .inl sz)), (a6, .inl (ww_g X 0, 80, .inl ow)), (a7, .inl (ww_g X 0, 80, .inl vl)), (a8, .inl (ww_g X 0, 60, .inl bf))]) rfl ?_
                  refine ww_goto O dd_MO_extents_105 (tgt := 124) rfl ?_
                  refine ww_iinc O dd_MO_extents_124 4 rfl (v := nI (b + 1)) (nI_add _ 1) (by rw [hn]; decide) rfl (L' := [(0, .ref m), (1, .int (nI f)), (2, .int (nI s)), (3, .int (nI (n + 1))), (4, .int (nI (b + 1))), (5, .int (nI 0))]) rfl ?_
                  refine ww_goto O dd_MO_extents_127 (tgt := 13) rfl ?_
                  rw [if_neg (by omega)] at h4
                  refine ww_sub [0, 1, 2, 3, 4] rfl ?_
                  exact ih (b + 1) (n + 1) 1 (nI b) (by omega) (by omega) (by omega) (by omega) (by omega) h4
                · refine ww_iload_n O dd_MO_extents_79 3 rfl ?_
                  rw [if_pos (by omega)] at h4
                  subst h4
                  exact F.i dd_MO_extents_80
            · refine ww_aload_n O dd_MO_extents_51 0 rfl ?_
              refine ww_iload O dd_MO_extents_52 4 rfl ?_
              refine ww_callV (q0 := 0) (ci := 3) O (cc_MO_goesOn _ _ _ m a1 a2 a3 a4 a5 a6 a7 a8 cd fi2 (nI z) pl wr pg pv sz ow vl bf b (by omega) (by omega)) lc_MO_42 lx_MO_goesOn_I_Z rfl rfl rfl (by rw [hR]; decide) (by rw [hR]; decide) (by rw [hR]; decide) rfl (Nat.le_of_ble_eq_true rfl) dd_MO_extents_54 rfl [0, 1, 2, 3, 4, 5, 6, 7, 8] [] [0, 1, 2, 3, 4, 5, 6, 7, 8] rfl (by decide) rfl (by decide) (by decide) (ws' := [(m, .inr (3, [.int cd, .ref a1, .ref a2, .ref a3, .ref a4, .ref a5, .ref a6, .ref a7, .ref a8, .int fi2, .int (nI z)])), (a1, .inl (ww_g X 0, 240, .inl pl)), (a2, .inl (ww_g X 1, 240, .inl wr)), (a3, .inl (ww_g X 1, 240, .inl pg)), (a4, .inl (ww_g X 0, 240, .inl pv)), (a5, .inl (ww_g X 0, 4, .inl sz)), (a6, .inl (ww_g X 0, 80, .inl ow)), (a7, .inl (ww_g X 0, 80, .inl vl)), (a8, .inl (ww_g X 0, 60, .inl bf))]) rfl rfl (by decide) ?_
              refine ww_if_eqB O dd_MO_extents_57 (tgt := 64) rfl (fun h57 => ?_) (fun h57 => ?_)
              · refine ww_iconst O dd_MO_extents_64 (v := nI 0) rfl ?_
                rw [if_neg (fun q => by rw [h57] at q; exact absurd q.2.2 (by decide))] at h4
                refine ww_istore O dd_MO_extents_65 (by rw [hn]; decide) rfl (L' := [(0, .ref m), (1, .int (nI f)), (2, .int (nI s)), (3, .int (nI n)), (4, .int (nI b)), (5, .int (nI 0))]) rfl ?_
                refine ww_iload O dd_MO_extents_67 5 rfl ?_
                refine ww_if_neN O dd_MO_extents_69 (tgt := 95) rfl (by omega) (fun h69 => ?_) (fun h69 => ?_)
                · exact absurd rfl h69
                · refine ww_iload_n O dd_MO_extents_72 3 rfl ?_
                  refine ww_iload_n O dd_MO_extents_73 2 rfl ?_
                  refine ww_iconst O dd_MO_extents_74 (v := nI 1) rfl ?_
                  refine ww_iadd O dd_MO_extents_75 (v := nI (s + 1)) (nI_add _ _) ?_
                  refine ww_icmp_neN O dd_MO_extents_76 (tgt := 81) rfl (by omega) (by omega) (fun h76 => ?_) (fun h76 => ?_)
                  · refine ww_iinc O dd_MO_extents_81 3 rfl (v := nI (n + 1)) (nI_add _ 1) (by rw [hn]; decide) rfl (L' := [(0, .ref m), (1, .int (nI f)), (2, .int (nI s)), (3, .int (nI (n + 1))), (4, .int (nI b)), (5, .int (nI 0))]) rfl ?_
                    refine ww_aload_n O dd_MO_extents_84 0 rfl ?_
                    refine ww_iload O dd_MO_extents_85 4 rfl ?_
                    refine ww_put O ci_MO cy_MO cy_MO_ok cn_MO rfl 9 (by decide) lf_MO_46 rfl rfl (ty := .int) (by decide +kernel) dd_MO_extents_87 0 rfl rfl rfl (Nat.le_of_ble_eq_true rfl) (ws' := [(m, .inr (3, [.int cd, .ref a1, .ref a2, .ref a3, .ref a4, .ref a5, .ref a6, .ref a7, .ref a8, .int (nI b), .int (nI z)])), (a1, .inl (ww_g X 0, 240, .inl pl)), (a2, .inl (ww_g X 1, 240, .inl wr)), (a3, .inl (ww_g X 1, 240, .inl pg)), (a4, .inl (ww_g X 0, 240, .inl pv)), (a5, .inl (ww_g X 0, 4, .inl sz)), (a6, .inl (ww_g X 0, 80, .inl ow)), (a7, .inl (ww_g X 0, 80, .inl vl)), (a8, .inl (ww_g X 0, 60, .inl bf))]) rfl ?_
                    refine ww_aload_n O dd_MO_extents_90 0 rfl ?_
                    refine ww_iconst O dd_MO_extents_91 (v := nI 0) rfl ?_
                    refine ww_put O ci_MO cy_MO cy_MO_ok cn_MO rfl 10 (by decide) lf_MO_39 rfl rfl (ty := .int) (by decide +kernel) dd_MO_extents_92 0 rfl rfl rfl (Nat.le_of_ble_eq_true rfl) (ws' := [(m, .inr (3, [.int cd, .ref a1, .ref a2, .ref a3, .ref a4, .ref a5, .ref a6, .ref a7, .ref a8, .int (nI b), .int (nI 0)])), (a1, .inl (ww_g X 0, 240, .inl pl)), (a2, .inl (ww_g X 1, 240, .inl wr)), (a3, .inl (ww_g X 1, 240, .inl pg)), (a4, .inl (ww_g X 0, 240, .inl pv)), (a5, .inl (ww_g X 0, 4, .inl sz)), (a6, .inl (ww_g X 0, 80, .inl ow)), (a7, .inl (ww_g X 0, 80, .inl vl)), (a8, .inl (ww_g X 0, 60, .inl bf))]) rfl ?_
                    refine ww_aload_n O dd_MO_extents_95 0 rfl ?_
                    refine ww_dup O dd_MO_extents_96 rfl ?_
                    refine ww_get O ci_MO rfl 10 (by decide) lf_MO_39 rfl dd_MO_extents_97 0 rfl rfl ?_
                    refine ww_iconst O dd_MO_extents_100 (v := nI 1) rfl ?_
                    refine ww_iadd O dd_MO_extents_101 (v := nI (0 + 1)) (nI_add _ _) ?_
                    refine ww_put O ci_MO cy_MO cy_MO_ok cn_MO rfl 10 (by decide) lf_MO_39 rfl rfl (ty := .int) (by decide +kernel) dd_MO_extents_102 0 rfl rfl rfl (Nat.le_of_ble_eq_true rfl) (ws' := [(m, .inr (3, [.int cd, .ref a1, .ref a2, .ref a3, .ref a4, .ref a5, .ref a6, .ref a7, .ref a8, .int (nI b), .int (nI (0 + 1))])), (a1, .inl (ww_g X 0, 240, .inl pl)), (a2, .inl (ww_g X 1, 240, .inl wr)), (a3, .inl (ww_g X 1, 240, .inl pg)), (a4, .inl (ww_g X 0, 240, .inl pv)), (a5, .inl (ww_g X 0, 4, .inl sz)), (a6, .inl (ww_g X 0, 80, .inl ow)), (a7, .inl (ww_g X 0, 80, .inl vl)), (a8, .inl (ww_g X 0, 60, .inl bf))]) rfl ?_
                    refine ww_goto O dd_MO_extents_105 (tgt := 124) rfl ?_
                    refine ww_iinc O dd_MO_extents_124 4 rfl (v := nI (b + 1)) (nI_add _ 1) (by rw [hn]; decide) rfl (L' := [(0, .ref m), (1, .int (nI f)), (2, .int (nI s)), (3, .int (nI (n + 1))), (4, .int (nI (b + 1))), (5, .int (nI 0))]) rfl ?_
                    refine ww_goto O dd_MO_extents_127 (tgt := 13) rfl ?_
                    rw [if_neg (by omega)] at h4
                    refine ww_sub [0, 1, 2, 3, 4] rfl ?_
                    exact ih (b + 1) (n + 1) 1 (nI b) (by omega) (by omega) (by omega) (by omega) (by omega) h4
                  · refine ww_iload_n O dd_MO_extents_79 3 rfl ?_
                    rw [if_pos (by omega)] at h4
                    subst h4
                    exact F.i dd_MO_extents_80
              · refine ww_iconst O dd_MO_extents_60 (v := nI 1) rfl ?_
                refine ww_goto O dd_MO_extents_61 (tgt := 65) rfl ?_
                rw [if_pos ⟨h39, h48, h57⟩] at h4
                refine ww_istore O dd_MO_extents_65 (by rw [hn]; decide) rfl (L' := [(0, .ref m), (1, .int (nI f)), (2, .int (nI s)), (3, .int (nI n)), (4, .int (nI b)), (5, .int (nI 1))]) rfl ?_
                refine ww_iload O dd_MO_extents_67 5 rfl ?_
                refine ww_if_neN O dd_MO_extents_69 (tgt := 95) rfl (by omega) (fun h69 => ?_) (fun h69 => ?_)
                · refine ww_aload_n O dd_MO_extents_95 0 rfl ?_
                  refine ww_dup O dd_MO_extents_96 rfl ?_
                  refine ww_get O ci_MO rfl 10 (by decide) lf_MO_39 rfl dd_MO_extents_97 0 rfl rfl ?_
                  refine ww_iconst O dd_MO_extents_100 (v := nI 1) rfl ?_
                  refine ww_iadd O dd_MO_extents_101 (v := nI (z + 1)) (nI_add _ _) ?_
                  refine ww_put O ci_MO cy_MO cy_MO_ok cn_MO rfl 10 (by decide) lf_MO_39 rfl rfl (ty := .int) (by decide +kernel) dd_MO_extents_102 0 rfl rfl rfl (Nat.le_of_ble_eq_true rfl) (ws' := [(m, .inr (3, [.int cd, .ref a1, .ref a2, .ref a3, .ref a4, .ref a5, .ref a6, .ref a7, .ref a8, .int fi2, .int (nI (z + 1))])), (a1, .inl (ww_g X 0, 240, .inl pl)), (a2, .inl (ww_g X 1, 240, .inl wr)), (a3, .inl (ww_g X 1, 240, .inl pg)), (a4, .inl (ww_g X 0, 240, .inl pv)), (a5, .inl (ww_g X 0, 4, .inl sz)), (a6, .inl (ww_g X 0, 80, .inl ow)), (a7, .inl (ww_g X 0, 80, .inl vl)), (a8, .inl (ww_g X 0, 60, .inl bf))]) rfl ?_
                  refine ww_goto O dd_MO_extents_105 (tgt := 124) rfl ?_
                  refine ww_iinc O dd_MO_extents_124 4 rfl (v := nI (b + 1)) (nI_add _ 1) (by rw [hn]; decide) rfl (L' := [(0, .ref m), (1, .int (nI f)), (2, .int (nI s)), (3, .int (nI n)), (4, .int (nI (b + 1))), (5, .int (nI 1))]) rfl ?_
                  refine ww_goto O dd_MO_extents_127 (tgt := 13) rfl ?_
                  refine ww_sub [0, 1, 2, 3, 4] rfl ?_
                  exact ih (b + 1) n (z + 1) fi2 (by omega) (by omega) (by omega) (by omega) (by omega) h4
                · exact absurd h69 (by decide)
  refine ww_iconst O dd_MO_extents_0 (v := nI 0) rfl ?_
  refine ww_istore_n O dd_MO_extents_1 (by rw [hn]; decide) rfl (L' := [(0, .ref m), (1, .int (nI f)), (2, .int (nI s)), (3, .int (nI 0))]) rfl ?_
  refine ww_aload_n O dd_MO_extents_2 0 rfl ?_
  refine ww_iconst O dd_MO_extents_3 (v := nI 0) rfl ?_
  refine ww_put O ci_MO cy_MO cy_MO_ok cn_MO rfl 10 (by decide) lf_MO_39 rfl rfl (ty := .int) (by decide +kernel) dd_MO_extents_4 0 rfl rfl rfl (Nat.le_of_ble_eq_true rfl) (ws' := [(m, .inr (3, [.int cd, .ref a1, .ref a2, .ref a3, .ref a4, .ref a5, .ref a6, .ref a7, .ref a8, .int fi, .int (nI 0)])), (a1, .inl (ww_g X 0, 240, .inl pl)), (a2, .inl (ww_g X 1, 240, .inl wr)), (a3, .inl (ww_g X 1, 240, .inl pg)), (a4, .inl (ww_g X 0, 240, .inl pv)), (a5, .inl (ww_g X 0, 4, .inl sz)), (a6, .inl (ww_g X 0, 80, .inl ow)), (a7, .inl (ww_g X 0, 80, .inl vl)), (a8, .inl (ww_g X 0, 60, .inl bf))]) rfl ?_
  refine ww_bipush O dd_MO_extents_7 (v := nI 60) rfl ?_
  refine ww_iload_n O dd_MO_extents_9 1 rfl ?_
  refine ww_imul O dd_MO_extents_10 (v := nI (60 * f)) (pk_mul _ _) ?_
  refine ww_istore O dd_MO_extents_11 (by rw [hn]; decide) rfl (L' := [(0, .ref m), (1, .int (nI f)), (2, .int (nI s)), (3, .int (nI 0)), (4, .int (nI (60 * f)))]) rfl ?_
  exact loop 60 (60 * f) 0 0 fi (by omega) (by omega) (by omega) (by omega) (by omega) (by rw [show 60 * f + 60 - 60 * f = 60 by omega]; exact hT)
set_option maxRecDepth 4000 in
theorem cc_MO_mappedOf (l : Launch) (D : va_G) (g : Nat → ClassId) (m : Nat) (a1 : Nat) (a2 : Nat) (a3 : Nat) (a4 : Nat) (a5 : Nat) (a6 : Nat) (a7 : Nat) (a8 : Nat) (cd : Int32) (fi : Int32) (le : Int32) (pl : Nat → Int32) (wr : Nat → Int32) (pg : Nat → Int32) (pv : Nat → Int32) (sz : Nat → Int32) (ow : Nat → Int32) (vl : Nat → Int32) (bf : Nat → Int32) (f : Nat) (hr : ∀ b, b < 240 → px_rg (pl b)) (hf : f < 4) : ww_ct l D g yy_MO_mappedOf bb_MO_mappedOf 4 (some .int) (ww_rm 1) [.ref m, .int (nI f)] [(m, .inr (3, [.int cd, .ref a1, .ref a2, .ref a3, .ref a4, .ref a5, .ref a6, .ref a7, .ref a8, .int fi, .int le])), (a1, .inl (g 0, 240, .inl pl)), (a2, .inl (g 1, 240, .inl wr)), (a3, .inl (g 1, 240, .inl pg)), (a4, .inl (g 0, 240, .inl pv)), (a5, .inl (g 0, 4, .inl sz)), (a6, .inl (g 0, 80, .inl ow)), (a7, .inl (g 0, 80, .inl vl)), (a8, .inl (g 0, 60, .inl bf))] (some (.int (nI (px_mm pl (60 * f))))) [(m, .inr (3, [.int cd, .ref a1, .ref a2, .ref a3, .ref a4, .ref a5, .ref a6, .ref a7, .ref a8, .int fi, .int le])), (a1, .inl (g 0, 240, .inl pl)), (a2, .inl (g 1, 240, .inl wr)), (a3, .inl (g 1, 240, .inl pg)), (a4, .inl (g 0, 240, .inl pv)), (a5, .inl (g 0, 4, .inl sz)), (a6, .inl (g 0, 80, .inl ow)), (a7, .inl (g 0, 80, .inl vl)), (a8, .inl (g 0, 60, .inl bf))] := by
  refine ww_start (by decide +kernel) rfl rfl (Nat.le_of_ble_eq_true rfl) (L0 := [(0, .ref m), (1, .int (nI f))]) rfl ?_
  intro X O hl hD hg hR hn F
  subst hl hD hg
  have loop : ∀ (k b n : Nat), 60 * f + 60 ≤ b + k → 60 * f ≤ b → b ≤ 60 * f + 60 → n = px_cnt (fun b => !px_hole pl b) (60 * f) (b - 60 * f) → ww_at X 0 0 7 [(0, .ref m), (1, .int (nI f)), (2, .int (nI n)), (3, .int (nI b))] [] [(m, .inr (3, [.int cd, .ref a1, .ref a2, .ref a3, .ref a4, .ref a5, .ref a6, .ref a7, .ref a8, .int fi, .int le])), (a1, .inl (ww_g X 0, 240, .inl pl)), (a2, .inl (ww_g X 1, 240, .inl wr)), (a3, .inl (ww_g X 1, 240, .inl pg)), (a4, .inl (ww_g X 0, 240, .inl pv)), (a5, .inl (ww_g X 0, 4, .inl sz)), (a6, .inl (ww_g X 0, 80, .inl ow)), (a7, .inl (ww_g X 0, 80, .inl vl)), (a8, .inl (ww_g X 0, 60, .inl bf))] := by
    intro k
    induction k with
    | zero =>
      intro b n h1 h2 h3 h4
      have hn9 := px_cnt_le (fun b => !px_hole pl b) (60 * f) (b - 60 * f)
      refine ww_iload_n O dd_MO_mappedOf_7 3 rfl ?_
      refine ww_bipush O dd_MO_mappedOf_8 (v := nI 60) rfl ?_
      refine ww_iload_n O dd_MO_mappedOf_10 1 rfl ?_
      refine ww_imul O dd_MO_mappedOf_11 (v := nI (60 * f)) (pk_mul _ _) ?_
      refine ww_bipush O dd_MO_mappedOf_12 (v := nI 60) rfl ?_
      refine ww_iadd O dd_MO_mappedOf_14 (v := nI ((60 * f) + 60)) (nI_add _ _) ?_
      refine ww_icmp_geN O dd_MO_mappedOf_15 (tgt := 41) rfl (by omega) (by omega) (fun h15 => ?_) (fun h15 => ?_)
      · refine ww_iload_n O dd_MO_mappedOf_41 2 rfl ?_
        rw [show px_mm pl (60 * f) = n from by rw [h4, show b - 60 * f = 60 by omega]; rfl] at F
        exact F.i dd_MO_mappedOf_42
      · exfalso; omega
    | succ k ih =>
      intro b n h1 h2 h3 h4
      have hn9 := px_cnt_le (fun b => !px_hole pl b) (60 * f) (b - 60 * f)
      refine ww_iload_n O dd_MO_mappedOf_7 3 rfl ?_
      refine ww_bipush O dd_MO_mappedOf_8 (v := nI 60) rfl ?_
      refine ww_iload_n O dd_MO_mappedOf_10 1 rfl ?_
      refine ww_imul O dd_MO_mappedOf_11 (v := nI (60 * f)) (pk_mul _ _) ?_
      refine ww_bipush O dd_MO_mappedOf_12 (v := nI 60) rfl ?_
      refine ww_iadd O dd_MO_mappedOf_14 (v := nI ((60 * f) + 60)) (nI_add _ _) ?_
      refine ww_icmp_geN O dd_MO_mappedOf_15 (tgt := 41) rfl (by omega) (by omega) (fun h15 => ?_) (fun h15 => ?_)
      · refine ww_iload_n O dd_MO_mappedOf_41 2 rfl ?_
        rw [show px_mm pl (60 * f) = n from by rw [h4, show b - 60 * f = 60 by omega]; rfl] at F
        exact F.i dd_MO_mappedOf_42
      · refine ww_aload_n O dd_MO_mappedOf_18 0 rfl ?_
        refine ww_get O ci_MO rfl 1 (by decide) lf_MO_7 rfl dd_MO_mappedOf_19 0 rfl rfl ?_
        refine ww_iload_n O dd_MO_mappedOf_22 3 rfl ?_
        refine ww_iald O dd_MO_mappedOf_23 1 rfl (by omega) (by decide) rfl ?_
        refine ww_if_lt O dd_MO_mappedOf_24 (tgt := 33) rfl (fun h24 => ?_) (fun h24 => ?_)
        · refine ww_iload_n O dd_MO_mappedOf_33 2 rfl ?_
          refine ww_istore_n O dd_MO_mappedOf_34 (by rw [hn]; decide) rfl (L' := [(0, .ref m), (1, .int (nI f)), (2, .int (nI n)), (3, .int (nI b))]) rfl ?_
          refine ww_iinc O dd_MO_mappedOf_35 3 rfl (v := nI (b + 1)) (nI_add _ 1) (by rw [hn]; decide) rfl (L' := [(0, .ref m), (1, .int (nI f)), (2, .int (nI n)), (3, .int (nI (b + 1)))]) rfl ?_
          refine ww_goto O dd_MO_mappedOf_38 (tgt := 7) rfl ?_
          exact ih (b + 1) n (by omega) (by omega) (by omega) (px_caf h2 h4 (by simp [px_on, (hr b (by omega)).lt h24]))
        · refine ww_iload_n O dd_MO_mappedOf_27 2 rfl ?_
          refine ww_iconst O dd_MO_mappedOf_28 (v := nI 1) rfl ?_
          refine ww_iadd O dd_MO_mappedOf_29 (v := nI (n + 1)) (nI_add _ _) ?_
          refine ww_goto O dd_MO_mappedOf_30 (tgt := 34) rfl ?_
          refine ww_istore_n O dd_MO_mappedOf_34 (by rw [hn]; decide) rfl (L' := [(0, .ref m), (1, .int (nI f)), (2, .int (nI (n + 1))), (3, .int (nI b))]) rfl ?_
          refine ww_iinc O dd_MO_mappedOf_35 3 rfl (v := nI (b + 1)) (nI_add _ 1) (by rw [hn]; decide) rfl (L' := [(0, .ref m), (1, .int (nI f)), (2, .int (nI (n + 1))), (3, .int (nI (b + 1)))]) rfl ?_
          refine ww_goto O dd_MO_mappedOf_38 (tgt := 7) rfl ?_
          exact ih (b + 1) (n + 1) (by omega) (by omega) (by omega) (px_cat h2 h4 (by simp [px_on, (hr b (by omega)).ge h24]))
  refine ww_iconst O dd_MO_mappedOf_0 (v := nI 0) rfl ?_
  refine ww_istore_n O dd_MO_mappedOf_1 (by rw [hn]; decide) rfl (L' := [(0, .ref m), (1, .int (nI f)), (2, .int (nI 0))]) rfl ?_
  refine ww_bipush O dd_MO_mappedOf_2 (v := nI 60) rfl ?_
  refine ww_iload_n O dd_MO_mappedOf_4 1 rfl ?_
  refine ww_imul O dd_MO_mappedOf_5 (v := nI (60 * f)) (pk_mul _ _) ?_
  refine ww_istore_n O dd_MO_mappedOf_6 (by rw [hn]; decide) rfl (L' := [(0, .ref m), (1, .int (nI f)), (2, .int (nI 0)), (3, .int (nI (60 * f)))]) rfl ?_
  exact loop 60 (60 * f) 0 (by omega) (by omega) (by omega) (by rw [Nat.sub_self]; rfl)
set_option maxRecDepth 4000 in
theorem cc_MO_pagesOf (l : Launch) (D : va_G) (g : Nat → ClassId) (m : Nat) (a1 : Nat) (a2 : Nat) (a3 : Nat) (a4 : Nat) (a5 : Nat) (a6 : Nat) (a7 : Nat) (a8 : Nat) (cd : Int32) (fi : Int32) (le : Int32) (pl : Nat → Int32) (wr : Nat → Int32) (pg : Nat → Int32) (pv : Nat → Int32) (sz : Nat → Int32) (ow : Nat → Int32) (vl : Nat → Int32) (bf : Nat → Int32) (f : Nat) (hf : f < 4) : ww_ct l D g yy_MO_pagesOf bb_MO_pagesOf 4 (some .int) (ww_rm 1) [.ref m, .int (nI f)] [(m, .inr (3, [.int cd, .ref a1, .ref a2, .ref a3, .ref a4, .ref a5, .ref a6, .ref a7, .ref a8, .int fi, .int le])), (a1, .inl (g 0, 240, .inl pl)), (a2, .inl (g 1, 240, .inl wr)), (a3, .inl (g 1, 240, .inl pg)), (a4, .inl (g 0, 240, .inl pv)), (a5, .inl (g 0, 4, .inl sz)), (a6, .inl (g 0, 80, .inl ow)), (a7, .inl (g 0, 80, .inl vl)), (a8, .inl (g 0, 60, .inl bf))] (some (.int (nI (px_pp pg (60 * f))))) [(m, .inr (3, [.int cd, .ref a1, .ref a2, .ref a3, .ref a4, .ref a5, .ref a6, .ref a7, .ref a8, .int fi, .int le])), (a1, .inl (g 0, 240, .inl pl)), (a2, .inl (g 1, 240, .inl wr)), (a3, .inl (g 1, 240, .inl pg)), (a4, .inl (g 0, 240, .inl pv)), (a5, .inl (g 0, 4, .inl sz)), (a6, .inl (g 0, 80, .inl ow)), (a7, .inl (g 0, 80, .inl vl)), (a8, .inl (g 0, 60, .inl bf))] := by
  refine ww_start (by decide +kernel) rfl rfl (Nat.le_of_ble_eq_true rfl) (L0 := [(0, .ref m), (1, .int (nI f))]) rfl ?_
  intro X O hl hD hg hR hn F
  subst hl hD hg
  have loop : ∀ (k b n : Nat), 60 * f + 60 ≤ b + k → 60 * f ≤ b → b ≤ 60 * f + 60 → n = px_cnt (px_on pg) (60 * f) (b - 60 * f) → ww_at X 0 0 7 [(0, .ref m), (1, .int (nI f)), (2, .int (nI n)), (3, .int (nI b))] [] [(m, .inr (3, [.int cd, .ref a1, .ref a2, .ref a3, .ref a4, .ref a5, .ref a6, .ref a7, .ref a8, .int fi, .int le])), (a1, .inl (ww_g X 0, 240, .inl pl)), (a2, .inl (ww_g X 1, 240, .inl wr)), (a3, .inl (ww_g X 1, 240, .inl pg)), (a4, .inl (ww_g X 0, 240, .inl pv)), (a5, .inl (ww_g X 0, 4, .inl sz)), (a6, .inl (ww_g X 0, 80, .inl ow)), (a7, .inl (ww_g X 0, 80, .inl vl)), (a8, .inl (ww_g X 0, 60, .inl bf))] := by
    intro k
    induction k with
    | zero =>
      intro b n h1 h2 h3 h4
      have hn9 := px_cnt_le (px_on pg) (60 * f) (b - 60 * f)
      refine ww_iload_n O dd_MO_pagesOf_7 3 rfl ?_
      refine ww_bipush O dd_MO_pagesOf_8 (v := nI 60) rfl ?_
      refine ww_iload_n O dd_MO_pagesOf_10 1 rfl ?_
      refine ww_imul O dd_MO_pagesOf_11 (v := nI (60 * f)) (pk_mul _ _) ?_
      refine ww_bipush O dd_MO_pagesOf_12 (v := nI 60) rfl ?_
      refine ww_iadd O dd_MO_pagesOf_14 (v := nI ((60 * f) + 60)) (nI_add _ _) ?_
      refine ww_icmp_geN O dd_MO_pagesOf_15 (tgt := 41) rfl (by omega) (by omega) (fun h15 => ?_) (fun h15 => ?_)
      · refine ww_iload_n O dd_MO_pagesOf_41 2 rfl ?_
        rw [show px_pp pg (60 * f) = n from by rw [h4, show b - 60 * f = 60 by omega]; rfl] at F
        exact F.i dd_MO_pagesOf_42
      · exfalso; omega
    | succ k ih =>
      intro b n h1 h2 h3 h4
      have hn9 := px_cnt_le (px_on pg) (60 * f) (b - 60 * f)
      refine ww_iload_n O dd_MO_pagesOf_7 3 rfl ?_
      refine ww_bipush O dd_MO_pagesOf_8 (v := nI 60) rfl ?_
      refine ww_iload_n O dd_MO_pagesOf_10 1 rfl ?_
      refine ww_imul O dd_MO_pagesOf_11 (v := nI (60 * f)) (pk_mul _ _) ?_
      refine ww_bipush O dd_MO_pagesOf_12 (v := nI 60) rfl ?_
      refine ww_iadd O dd_MO_pagesOf_14 (v := nI ((60 * f) + 60)) (nI_add _ _) ?_
      refine ww_icmp_geN O dd_MO_pagesOf_15 (tgt := 41) rfl (by omega) (by omega) (fun h15 => ?_) (fun h15 => ?_)
      · refine ww_iload_n O dd_MO_pagesOf_41 2 rfl ?_
        rw [show px_pp pg (60 * f) = n from by rw [h4, show b - 60 * f = 60 by omega]; rfl] at F
        exact F.i dd_MO_pagesOf_42
      · refine ww_aload_n O dd_MO_pagesOf_18 0 rfl ?_
        refine ww_get O ci_MO rfl 3 (by decide) lf_MO_17 rfl dd_MO_pagesOf_19 0 rfl rfl ?_
        refine ww_iload_n O dd_MO_pagesOf_22 3 rfl ?_
        refine ww_zald O dd_MO_pagesOf_23 3 rfl (by omega) (by decide) rfl ?_
        refine ww_if_eq O dd_MO_pagesOf_24 (tgt := 33) rfl (fun h24 => ?_) (fun h24 => ?_)
        · refine ww_iload_n O dd_MO_pagesOf_33 2 rfl ?_
          refine ww_istore_n O dd_MO_pagesOf_34 (by rw [hn]; decide) rfl (L' := [(0, .ref m), (1, .int (nI f)), (2, .int (nI n)), (3, .int (nI b))]) rfl ?_
          refine ww_iinc O dd_MO_pagesOf_35 3 rfl (v := nI (b + 1)) (nI_add _ 1) (by rw [hn]; decide) rfl (L' := [(0, .ref m), (1, .int (nI f)), (2, .int (nI n)), (3, .int (nI (b + 1)))]) rfl ?_
          refine ww_goto O dd_MO_pagesOf_38 (tgt := 7) rfl ?_
          exact ih (b + 1) n (by omega) (by omega) (by omega) (px_caf h2 h4 (by simp [px_on, h24]))
        · refine ww_iload_n O dd_MO_pagesOf_27 2 rfl ?_
          refine ww_iconst O dd_MO_pagesOf_28 (v := nI 1) rfl ?_
          refine ww_iadd O dd_MO_pagesOf_29 (v := nI (n + 1)) (nI_add _ _) ?_
          refine ww_goto O dd_MO_pagesOf_30 (tgt := 34) rfl ?_
          refine ww_istore_n O dd_MO_pagesOf_34 (by rw [hn]; decide) rfl (L' := [(0, .ref m), (1, .int (nI f)), (2, .int (nI (n + 1))), (3, .int (nI b))]) rfl ?_
          refine ww_iinc O dd_MO_pagesOf_35 3 rfl (v := nI (b + 1)) (nI_add _ 1) (by rw [hn]; decide) rfl (L' := [(0, .ref m), (1, .int (nI f)), (2, .int (nI (n + 1))), (3, .int (nI (b + 1)))]) rfl ?_
          refine ww_goto O dd_MO_pagesOf_38 (tgt := 7) rfl ?_
          exact ih (b + 1) (n + 1) (by omega) (by omega) (by omega) (px_cat h2 h4 (by simp [px_on, h24]))
  refine ww_iconst O dd_MO_pagesOf_0 (v := nI 0) rfl ?_
  refine ww_istore_n O dd_MO_pagesOf_1 (by rw [hn]; decide) rfl (L' := [(0, .ref m), (1, .int (nI f)), (2, .int (nI 0))]) rfl ?_
  refine ww_bipush O dd_MO_pagesOf_2 (v := nI 60) rfl ?_
  refine ww_iload_n O dd_MO_pagesOf_4 1 rfl ?_
  refine ww_imul O dd_MO_pagesOf_5 (v := nI (60 * f)) (pk_mul _ _) ?_
  refine ww_istore_n O dd_MO_pagesOf_6 (by rw [hn]; decide) rfl (L' := [(0, .ref m), (1, .int (nI f)), (2, .int (nI 0)), (3, .int (nI (60 * f)))]) rfl ?_
  exact loop 60 (60 * f) 0 (by omega) (by omega) (by omega) (by rw [Nat.sub_self]; rfl)
set_option maxRecDepth 4000 in
theorem cc_MO_map (l : Launch) (D : va_G) (g : Nat → ClassId) (m : Nat) (a1 : Nat) (a2 : Nat) (a3 : Nat) (a4 : Nat) (a5 : Nat) (a6 : Nat) (a7 : Nat) (a8 : Nat) (cd : Int32) (fi : Int32) (le : Int32) (pl : Nat → Int32) (wr : Nat → Int32) (pg : Nat → Int32) (pv : Nat → Int32) (sz : Nat → Int32) (ow : Nat → Int32) (vl : Nat → Int32) (bf : Nat → Int32) (b : Nat) (p : Nat) (hb : b < 240) (hp : p < 80) : ww_ct l D g yy_MO_map bb_MO_map 3 none (ww_rm 1) [.ref m, .int (nI b), .int (nI p)] [(m, .inr (3, [.int cd, .ref a1, .ref a2, .ref a3, .ref a4, .ref a5, .ref a6, .ref a7, .ref a8, .int fi, .int le])), (a1, .inl (g 0, 240, .inl pl)), (a2, .inl (g 1, 240, .inl wr)), (a3, .inl (g 1, 240, .inl pg)), (a4, .inl (g 0, 240, .inl pv)), (a5, .inl (g 0, 4, .inl sz)), (a6, .inl (g 0, 80, .inl ow)), (a7, .inl (g 0, 80, .inl vl)), (a8, .inl (g 0, 60, .inl bf))] none [(m, .inr (3, [.int cd, .ref a1, .ref a2, .ref a3, .ref a4, .ref a5, .ref a6, .ref a7, .ref a8, .int fi, .int le])), (a1, .inl (g 0, 240, .inl (upd pl b (nI p)))), (a2, .inl (g 1, 240, .inl (upd wr b (nI 0)))), (a3, .inl (g 1, 240, .inl pg)), (a4, .inl (g 0, 240, .inl pv)), (a5, .inl (g 0, 4, .inl sz)), (a6, .inl (g 0, 80, .inl (upd ow p (nI b)))), (a7, .inl (g 0, 80, .inl vl)), (a8, .inl (g 0, 60, .inl bf))] := by
  refine ww_start (by decide +kernel) rfl trivial (Nat.le_of_ble_eq_true rfl) (L0 := [(0, .ref m), (1, .int (nI b)), (2, .int (nI p))]) rfl ?_
  intro X O hl hD hg hR hn F
  subst hl hD hg
  refine ww_aload_n O dd_MO_map_0 0 rfl ?_
  refine ww_get O ci_MO rfl 1 (by decide) lf_MO_7 rfl dd_MO_map_1 0 rfl rfl ?_
  refine ww_iload_n O dd_MO_map_4 1 rfl ?_
  refine ww_iload_n O dd_MO_map_5 2 rfl ?_
  refine ww_iast O dd_MO_map_6 1 rfl (by omega) (by decide) (ws' := [(m, .inr (3, [.int cd, .ref a1, .ref a2, .ref a3, .ref a4, .ref a5, .ref a6, .ref a7, .ref a8, .int fi, .int le])), (a1, .inl (ww_g X 0, 240, .inl (upd pl b (nI p)))), (a2, .inl (ww_g X 1, 240, .inl wr)), (a3, .inl (ww_g X 1, 240, .inl pg)), (a4, .inl (ww_g X 0, 240, .inl pv)), (a5, .inl (ww_g X 0, 4, .inl sz)), (a6, .inl (ww_g X 0, 80, .inl ow)), (a7, .inl (ww_g X 0, 80, .inl vl)), (a8, .inl (ww_g X 0, 60, .inl bf))]) rfl ?_
  refine ww_aload_n O dd_MO_map_7 0 rfl ?_
  refine ww_get O ci_MO rfl 6 (by decide) lf_MO_26 rfl dd_MO_map_8 0 rfl rfl ?_
  refine ww_iload_n O dd_MO_map_11 2 rfl ?_
  refine ww_iload_n O dd_MO_map_12 1 rfl ?_
  refine ww_iast O dd_MO_map_13 6 rfl (by omega) (by decide) (ws' := [(m, .inr (3, [.int cd, .ref a1, .ref a2, .ref a3, .ref a4, .ref a5, .ref a6, .ref a7, .ref a8, .int fi, .int le])), (a1, .inl (ww_g X 0, 240, .inl (upd pl b (nI p)))), (a2, .inl (ww_g X 1, 240, .inl wr)), (a3, .inl (ww_g X 1, 240, .inl pg)), (a4, .inl (ww_g X 0, 240, .inl pv)), (a5, .inl (ww_g X 0, 4, .inl sz)), (a6, .inl (ww_g X 0, 80, .inl (upd ow p (nI b)))), (a7, .inl (ww_g X 0, 80, .inl vl)), (a8, .inl (ww_g X 0, 60, .inl bf))]) rfl ?_
  refine ww_aload_n O dd_MO_map_14 0 rfl ?_
  refine ww_get O ci_MO rfl 2 (by decide) lf_MO_13 rfl dd_MO_map_15 0 rfl rfl ?_
  refine ww_iload_n O dd_MO_map_18 1 rfl ?_
  refine ww_iconst O dd_MO_map_19 (v := nI 0) rfl ?_
  refine ww_zast O dd_MO_map_20 2 rfl (by omega) (by decide) rfl (ws' := [(m, .inr (3, [.int cd, .ref a1, .ref a2, .ref a3, .ref a4, .ref a5, .ref a6, .ref a7, .ref a8, .int fi, .int le])), (a1, .inl (ww_g X 0, 240, .inl (upd pl b (nI p)))), (a2, .inl (ww_g X 1, 240, .inl (upd wr b (nI 0)))), (a3, .inl (ww_g X 1, 240, .inl pg)), (a4, .inl (ww_g X 0, 240, .inl pv)), (a5, .inl (ww_g X 0, 4, .inl sz)), (a6, .inl (ww_g X 0, 80, .inl (upd ow p (nI b)))), (a7, .inl (ww_g X 0, 80, .inl vl)), (a8, .inl (ww_g X 0, 60, .inl bf))]) rfl ?_
  exact F.v dd_MO_map_21
set_option maxRecDepth 4000 in
theorem cc_MO_unmap (l : Launch) (D : va_G) (g : Nat → ClassId) (m : Nat) (a1 : Nat) (a2 : Nat) (a3 : Nat) (a4 : Nat) (a5 : Nat) (a6 : Nat) (a7 : Nat) (a8 : Nat) (cd : Int32) (fi : Int32) (le : Int32) (pl : Nat → Int32) (wr : Nat → Int32) (pg : Nat → Int32) (pv : Nat → Int32) (sz : Nat → Int32) (ow : Nat → Int32) (vl : Nat → Int32) (bf : Nat → Int32) (b : Nat) (hr : px_rg (pl b)) (hb : b < 240) : ww_ct l D g yy_MO_unmap bb_MO_unmap 2 none (ww_rm 1) [.ref m, .int (nI b)] [(m, .inr (3, [.int cd, .ref a1, .ref a2, .ref a3, .ref a4, .ref a5, .ref a6, .ref a7, .ref a8, .int fi, .int le])), (a1, .inl (g 0, 240, .inl pl)), (a2, .inl (g 1, 240, .inl wr)), (a3, .inl (g 1, 240, .inl pg)), (a4, .inl (g 0, 240, .inl pv)), (a5, .inl (g 0, 4, .inl sz)), (a6, .inl (g 0, 80, .inl ow)), (a7, .inl (g 0, 80, .inl vl)), (a8, .inl (g 0, 60, .inl bf))] none [(m, .inr (3, [.int cd, .ref a1, .ref a2, .ref a3, .ref a4, .ref a5, .ref a6, .ref a7, .ref a8, .int fi, .int le])), (a1, .inl (g 0, 240, .inl (upd pl b (-1)))), (a2, .inl (g 1, 240, .inl (upd wr b (nI 0)))), (a3, .inl (g 1, 240, .inl pg)), (a4, .inl (g 0, 240, .inl pv)), (a5, .inl (g 0, 4, .inl sz)), (a6, .inl (g 0, 80, .inl (if px_hole pl b = true then ow else upd ow (pl b).toNatClampNeg (-1)))), (a7, .inl (g 0, 80, .inl vl)), (a8, .inl (g 0, 60, .inl bf))] := by
  refine ww_start (by decide +kernel) rfl trivial (Nat.le_of_ble_eq_true rfl) (L0 := [(0, .ref m), (1, .int (nI b))]) rfl ?_
  intro X O hl hD hg hR hn F
  subst hl hD hg
  refine ww_aload_n O dd_MO_unmap_0 0 rfl ?_
  refine ww_get O ci_MO rfl 1 (by decide) lf_MO_7 rfl dd_MO_unmap_1 0 rfl rfl ?_
  refine ww_iload_n O dd_MO_unmap_4 1 rfl ?_
  refine ww_iald O dd_MO_unmap_5 1 rfl (by omega) (by decide) rfl ?_
  refine ww_if_lt O dd_MO_unmap_6 (tgt := 21) rfl (fun h6 => ?_) (fun h6 => ?_)
  · rw [if_pos (hr.lt h6)] at F
    refine ww_aload_n O dd_MO_unmap_21 0 rfl ?_
    refine ww_get O ci_MO rfl 1 (by decide) lf_MO_7 rfl dd_MO_unmap_22 0 rfl rfl ?_
    refine ww_iload_n O dd_MO_unmap_25 1 rfl ?_
    refine ww_iconst O dd_MO_unmap_26 (v := (-1)) rfl ?_
    refine ww_iast O dd_MO_unmap_27 1 rfl (by omega) (by decide) (ws' := [(m, .inr (3, [.int cd, .ref a1, .ref a2, .ref a3, .ref a4, .ref a5, .ref a6, .ref a7, .ref a8, .int fi, .int le])), (a1, .inl (ww_g X 0, 240, .inl (upd pl b (-1)))), (a2, .inl (ww_g X 1, 240, .inl wr)), (a3, .inl (ww_g X 1, 240, .inl pg)), (a4, .inl (ww_g X 0, 240, .inl pv)), (a5, .inl (ww_g X 0, 4, .inl sz)), (a6, .inl (ww_g X 0, 80, .inl ow)), (a7, .inl (ww_g X 0, 80, .inl vl)), (a8, .inl (ww_g X 0, 60, .inl bf))]) rfl ?_
    refine ww_aload_n O dd_MO_unmap_28 0 rfl ?_
    refine ww_get O ci_MO rfl 2 (by decide) lf_MO_13 rfl dd_MO_unmap_29 0 rfl rfl ?_
    refine ww_iload_n O dd_MO_unmap_32 1 rfl ?_
    refine ww_iconst O dd_MO_unmap_33 (v := nI 0) rfl ?_
    refine ww_zast O dd_MO_unmap_34 2 rfl (by omega) (by decide) rfl (ws' := [(m, .inr (3, [.int cd, .ref a1, .ref a2, .ref a3, .ref a4, .ref a5, .ref a6, .ref a7, .ref a8, .int fi, .int le])), (a1, .inl (ww_g X 0, 240, .inl (upd pl b (-1)))), (a2, .inl (ww_g X 1, 240, .inl (upd wr b (nI 0)))), (a3, .inl (ww_g X 1, 240, .inl pg)), (a4, .inl (ww_g X 0, 240, .inl pv)), (a5, .inl (ww_g X 0, 4, .inl sz)), (a6, .inl (ww_g X 0, 80, .inl ow)), (a7, .inl (ww_g X 0, 80, .inl vl)), (a8, .inl (ww_g X 0, 60, .inl bf))]) rfl ?_
    exact F.v dd_MO_unmap_35
  · have hh := hr.ge h6
    rw [if_neg (by rw [hh]; decide)] at F
    obtain ⟨p, hp, hq⟩ : ∃ p, p < 80 ∧ pl b = nI p := by
      rcases hr with h | h
      · simp [px_hole, h] at hh
      · exact h
    rw [hq, nI_clamp (show p < 2 ^ 31 by omega)] at F
    refine ww_aload_n O dd_MO_unmap_9 0 rfl ?_
    refine ww_get O ci_MO rfl 6 (by decide) lf_MO_26 rfl dd_MO_unmap_10 0 rfl rfl ?_
    refine ww_aload_n O dd_MO_unmap_13 0 rfl ?_
    refine ww_get O ci_MO rfl 1 (by decide) lf_MO_7 rfl dd_MO_unmap_14 0 rfl rfl ?_
    refine ww_iload_n O dd_MO_unmap_17 1 rfl ?_
    refine ww_iald O dd_MO_unmap_18 1 rfl (by omega) (by decide) rfl ?_
    rw [hq]
    refine ww_iconst O dd_MO_unmap_19 (v := (-1)) rfl ?_
    refine ww_iast O dd_MO_unmap_20 6 rfl (by omega) (by decide) (ws' := [(m, .inr (3, [.int cd, .ref a1, .ref a2, .ref a3, .ref a4, .ref a5, .ref a6, .ref a7, .ref a8, .int fi, .int le])), (a1, .inl (ww_g X 0, 240, .inl pl)), (a2, .inl (ww_g X 1, 240, .inl wr)), (a3, .inl (ww_g X 1, 240, .inl pg)), (a4, .inl (ww_g X 0, 240, .inl pv)), (a5, .inl (ww_g X 0, 4, .inl sz)), (a6, .inl (ww_g X 0, 80, .inl (upd ow p (-1)))), (a7, .inl (ww_g X 0, 80, .inl vl)), (a8, .inl (ww_g X 0, 60, .inl bf))]) rfl ?_
    refine ww_aload_n O dd_MO_unmap_21 0 rfl ?_
    refine ww_get O ci_MO rfl 1 (by decide) lf_MO_7 rfl dd_MO_unmap_22 0 rfl rfl ?_
    refine ww_iload_n O dd_MO_unmap_25 1 rfl ?_
    refine ww_iconst O dd_MO_unmap_26 (v := (-1)) rfl ?_
    refine ww_iast O dd_MO_unmap_27 1 rfl (by omega) (by decide) (ws' := [(m, .inr (3, [.int cd, .ref a1, .ref a2, .ref a3, .ref a4, .ref a5, .ref a6, .ref a7, .ref a8, .int fi, .int le])), (a1, .inl (ww_g X 0, 240, .inl (upd pl b (-1)))), (a2, .inl (ww_g X 1, 240, .inl wr)), (a3, .inl (ww_g X 1, 240, .inl pg)), (a4, .inl (ww_g X 0, 240, .inl pv)), (a5, .inl (ww_g X 0, 4, .inl sz)), (a6, .inl (ww_g X 0, 80, .inl (upd ow p (-1)))), (a7, .inl (ww_g X 0, 80, .inl vl)), (a8, .inl (ww_g X 0, 60, .inl bf))]) rfl ?_
    refine ww_aload_n O dd_MO_unmap_28 0 rfl ?_
    refine ww_get O ci_MO rfl 2 (by decide) lf_MO_13 rfl dd_MO_unmap_29 0 rfl rfl ?_
    refine ww_iload_n O dd_MO_unmap_32 1 rfl ?_
    refine ww_iconst O dd_MO_unmap_33 (v := nI 0) rfl ?_
    refine ww_zast O dd_MO_unmap_34 2 rfl (by omega) (by decide) rfl (ws' := [(m, .inr (3, [.int cd, .ref a1, .ref a2, .ref a3, .ref a4, .ref a5, .ref a6, .ref a7, .ref a8, .int fi, .int le])), (a1, .inl (ww_g X 0, 240, .inl (upd pl b (-1)))), (a2, .inl (ww_g X 1, 240, .inl (upd wr b (nI 0)))), (a3, .inl (ww_g X 1, 240, .inl pg)), (a4, .inl (ww_g X 0, 240, .inl pv)), (a5, .inl (ww_g X 0, 4, .inl sz)), (a6, .inl (ww_g X 0, 80, .inl (upd ow p (-1)))), (a7, .inl (ww_g X 0, 80, .inl vl)), (a8, .inl (ww_g X 0, 60, .inl bf))]) rfl ?_
    exact F.v dd_MO_unmap_35
set_option maxRecDepth 4000 in
theorem cc_MO_room (l : Launch) (D : va_G) (g : Nat → ClassId) (m : Nat) (a1 : Nat) (a2 : Nat) (a3 : Nat) (a4 : Nat) (a5 : Nat) (a6 : Nat) (a7 : Nat) (a8 : Nat) (cd : Int32) (fi : Int32) (le : Int32) (pl : Nat → Int32) (wr : Nat → Int32) (pg : Nat → Int32) (pv : Nat → Int32) (sz : Nat → Int32) (ow : Nat → Int32) (vl : Nat → Int32) (bf : Nat → Int32) (p : Nat) (ho : ∀ p, p < 80 → px_rq (ow p)) (hp : p ≤ 80) : ww_ct l D g yy_MO_room bb_MO_room 3 (some .int) (ww_rm 1) [.ref m, .int (nI p)] [(m, .inr (3, [.int cd, .ref a1, .ref a2, .ref a3, .ref a4, .ref a5, .ref a6, .ref a7, .ref a8, .int fi, .int le])), (a1, .inl (g 0, 240, .inl pl)), (a2, .inl (g 1, 240, .inl wr)), (a3, .inl (g 1, 240, .inl pg)), (a4, .inl (g 0, 240, .inl pv)), (a5, .inl (g 0, 4, .inl sz)), (a6, .inl (g 0, 80, .inl ow)), (a7, .inl (g 0, 80, .inl vl)), (a8, .inl (g 0, 60, .inl bf))] (some (.int (nI (px_room ow (80 - p) p)))) [(m, .inr (3, [.int cd, .ref a1, .ref a2, .ref a3, .ref a4, .ref a5, .ref a6, .ref a7, .ref a8, .int fi, .int le])), (a1, .inl (g 0, 240, .inl pl)), (a2, .inl (g 1, 240, .inl wr)), (a3, .inl (g 1, 240, .inl pg)), (a4, .inl (g 0, 240, .inl pv)), (a5, .inl (g 0, 4, .inl sz)), (a6, .inl (g 0, 80, .inl ow)), (a7, .inl (g 0, 80, .inl vl)), (a8, .inl (g 0, 60, .inl bf))] := by
  refine ww_start (by decide +kernel) rfl rfl (Nat.le_of_ble_eq_true rfl) (L0 := [(0, .ref m), (1, .int (nI p))]) rfl ?_
  intro X O hl hD hg hR hn F
  subst hl hD hg
  have loop : ∀ (k n : Nat), 80 ≤ p + n + k → p + n ≤ 80 → n + px_room ow (80 - (p + n)) (p + n) = px_room ow (80 - p) p → ww_at X 0 0 2 [(0, .ref m), (1, .int (nI p)), (2, .int (nI n))] [] [(m, .inr (3, [.int cd, .ref a1, .ref a2, .ref a3, .ref a4, .ref a5, .ref a6, .ref a7, .ref a8, .int fi, .int le])), (a1, .inl (ww_g X 0, 240, .inl pl)), (a2, .inl (ww_g X 1, 240, .inl wr)), (a3, .inl (ww_g X 1, 240, .inl pg)), (a4, .inl (ww_g X 0, 240, .inl pv)), (a5, .inl (ww_g X 0, 4, .inl sz)), (a6, .inl (ww_g X 0, 80, .inl ow)), (a7, .inl (ww_g X 0, 80, .inl vl)), (a8, .inl (ww_g X 0, 60, .inl bf))] := by
    intro k
    induction k with
    | zero =>
      intro n h1 h2 h4
      refine ww_iload_n O dd_MO_room_2 1 rfl ?_
      refine ww_iload_n O dd_MO_room_3 2 rfl ?_
      refine ww_iadd O dd_MO_room_4 (v := nI (p + n)) (nI_add _ _) ?_
      refine ww_bipush O dd_MO_room_5 (v := nI 80) rfl ?_
      refine ww_icmp_geN O dd_MO_room_7 (tgt := 27) rfl (by omega) (by omega) (fun h7 => ?_) (fun h7 => ?_)
      · refine ww_iload_n O dd_MO_room_27 2 rfl ?_
        rw [← h4, px_room_s, if_neg (fun z => by omega), Nat.add_zero] at F
        exact F.i dd_MO_room_28
      · exfalso; omega
    | succ k ih =>
      intro n h1 h2 h4
      refine ww_iload_n O dd_MO_room_2 1 rfl ?_
      refine ww_iload_n O dd_MO_room_3 2 rfl ?_
      refine ww_iadd O dd_MO_room_4 (v := nI (p + n)) (nI_add _ _) ?_
      refine ww_bipush O dd_MO_room_5 (v := nI 80) rfl ?_
      refine ww_icmp_geN O dd_MO_room_7 (tgt := 27) rfl (by omega) (by omega) (fun h7 => ?_) (fun h7 => ?_)
      · refine ww_iload_n O dd_MO_room_27 2 rfl ?_
        rw [← h4, px_room_s, if_neg (fun z => by omega), Nat.add_zero] at F
        exact F.i dd_MO_room_28
      · refine ww_aload_n O dd_MO_room_10 0 rfl ?_
        refine ww_get O ci_MO rfl 6 (by decide) lf_MO_26 rfl dd_MO_room_11 0 rfl rfl ?_
        refine ww_iload_n O dd_MO_room_14 1 rfl ?_
        refine ww_iload_n O dd_MO_room_15 2 rfl ?_
        refine ww_iadd O dd_MO_room_16 (v := nI (p + n)) (nI_add _ _) ?_
        refine ww_iald O dd_MO_room_17 6 rfl (by omega) (by decide) rfl ?_
        refine ww_if_ge O dd_MO_room_18 (tgt := 27) rfl (fun h18 => ?_) (fun h18 => ?_)
        · refine ww_iload_n O dd_MO_room_27 2 rfl ?_
          rw [← h4, px_room_s, if_neg (fun z => (ho (p + n) (by omega)).ge h18 z.2), Nat.add_zero] at F
          exact F.i dd_MO_room_28
        · refine ww_iinc O dd_MO_room_21 2 rfl (v := nI (n + 1)) (nI_add _ 1) (by rw [hn]; decide) rfl (L' := [(0, .ref m), (1, .int (nI p)), (2, .int (nI (n + 1)))]) rfl ?_
          refine ww_goto O dd_MO_room_24 (tgt := 2) rfl ?_
          exact ih (n + 1) (by omega) (by omega) (by rw [← h4, px_room_s (p := p + n), if_pos ⟨by omega, (ho (p + n) (by omega)).lt h18⟩, show 80 - (p + n) - 1 = 80 - (p + (n + 1)) by omega, show p + n + 1 = p + (n + 1) by omega]; omega)
  refine ww_iconst O dd_MO_room_0 (v := nI 0) rfl ?_
  refine ww_istore_n O dd_MO_room_1 (by rw [hn]; decide) rfl (L' := [(0, .ref m), (1, .int (nI p)), (2, .int (nI 0))]) rfl ?_
  exact loop 80 0 (by omega) (by omega) (by rw [Nat.add_zero, Nat.zero_add])
set_option maxRecDepth 4000 in
theorem cc_MO_bestFor (l : Launch) (D : va_G) (g : Nat → ClassId) (m : Nat) (a1 : Nat) (a2 : Nat) (a3 : Nat) (a4 : Nat) (a5 : Nat) (a6 : Nat) (a7 : Nat) (a8 : Nat) (cd : Int32) (fi : Int32) (le : Int32) (pl : Nat → Int32) (wr : Nat → Int32) (pg : Nat → Int32) (pv : Nat → Int32) (sz : Nat → Int32) (ow : Nat → Int32) (vl : Nat → Int32) (bf : Nat → Int32) (w : Nat) (ho : ∀ p, p < 80 → px_rq (ow p)) (hw : w < 100) : ww_ct l D g yy_MO_bestFor bb_MO_bestFor 7 (some .int) (ww_rm 2) [.ref m, .int (nI w)] [(m, .inr (3, [.int cd, .ref a1, .ref a2, .ref a3, .ref a4, .ref a5, .ref a6, .ref a7, .ref a8, .int fi, .int le])), (a1, .inl (g 0, 240, .inl pl)), (a2, .inl (g 1, 240, .inl wr)), (a3, .inl (g 1, 240, .inl pg)), (a4, .inl (g 0, 240, .inl pv)), (a5, .inl (g 0, 4, .inl sz)), (a6, .inl (g 0, 80, .inl ow)), (a7, .inl (g 0, 80, .inl vl)), (a8, .inl (g 0, 60, .inl bf))] (some (.int (px_best ow w))) [(m, .inr (3, [.int cd, .ref a1, .ref a2, .ref a3, .ref a4, .ref a5, .ref a6, .ref a7, .ref a8, .int fi, .int le])), (a1, .inl (g 0, 240, .inl pl)), (a2, .inl (g 1, 240, .inl wr)), (a3, .inl (g 1, 240, .inl pg)), (a4, .inl (g 0, 240, .inl pv)), (a5, .inl (g 0, 4, .inl sz)), (a6, .inl (g 0, 80, .inl ow)), (a7, .inl (g 0, 80, .inl vl)), (a8, .inl (g 0, 60, .inl bf))] := by
  refine ww_start (by decide +kernel) rfl rfl (Nat.le_of_ble_eq_true rfl) (L0 := [(0, .ref m), (1, .int (nI w))]) rfl ?_
  intro X O hl hD hg hR hn F
  subst hl hD hg
  have loop : ∀ (k p s : Nat) (b : Int32), 80 ≤ p + k → p ≤ 80 → s ≤ 80 → px_bf ow w (80 - p) p b s = px_best ow w → ww_at X 0 0 7 [(0, .ref m), (1, .int (nI w)), (2, .int b), (3, .int (nI s)), (4, .int (nI p))] [] [(m, .inr (3, [.int cd, .ref a1, .ref a2, .ref a3, .ref a4, .ref a5, .ref a6, .ref a7, .ref a8, .int fi, .int le])), (a1, .inl (ww_g X 0, 240, .inl pl)), (a2, .inl (ww_g X 1, 240, .inl wr)), (a3, .inl (ww_g X 1, 240, .inl pg)), (a4, .inl (ww_g X 0, 240, .inl pv)), (a5, .inl (ww_g X 0, 4, .inl sz)), (a6, .inl (ww_g X 0, 80, .inl ow)), (a7, .inl (ww_g X 0, 80, .inl vl)), (a8, .inl (ww_g X 0, 60, .inl bf))] := by
    intro k
    induction k with
    | zero =>
      intro p s b h1 h2 hs h4
      refine ww_iload O dd_MO_bestFor_7 4 rfl ?_
      refine ww_bipush O dd_MO_bestFor_9 (v := nI 80) rfl ?_
      refine ww_icmp_geN O dd_MO_bestFor_11 (tgt := 99) rfl (by omega) (by omega) (fun h11 => ?_) (fun h11 => ?_)
      · refine ww_iload_n O dd_MO_bestFor_99 2 rfl ?_
        rw [show px_best ow w = b from by rw [← h4, show 80 - p = 0 by omega]; rfl] at F
        exact F.i dd_MO_bestFor_100
      · exfalso; omega
    | succ k ih =>
      intro p s b h1 h2 hs h4
      refine ww_iload O dd_MO_bestFor_7 4 rfl ?_
      refine ww_bipush O dd_MO_bestFor_9 (v := nI 80) rfl ?_
      refine ww_icmp_geN O dd_MO_bestFor_11 (tgt := 99) rfl (by omega) (by omega) (fun h11 => ?_) (fun h11 => ?_)
      · refine ww_iload_n O dd_MO_bestFor_99 2 rfl ?_
        rw [show px_best ow w = b from by rw [← h4, show 80 - p = 0 by omega]; rfl] at F
        exact F.i dd_MO_bestFor_100
      · refine ww_aload_n O dd_MO_bestFor_14 0 rfl ?_
        refine ww_iload O dd_MO_bestFor_15 4 rfl ?_
        refine ww_callV (q0 := 0) (ci := 3) O (cc_MO_room _ _ _ m a1 a2 a3 a4 a5 a6 a7 a8 cd fi le pl wr pg pv sz ow vl bf p (by omega) (by omega)) lc_MO_63 lx_MO_room_I_I rfl rfl rfl (by rw [hR]; decide) (by rw [hR]; decide) (by rw [hR]; decide) rfl (Nat.le_of_ble_eq_true rfl) dd_MO_bestFor_17 rfl [0, 1, 2, 3, 4, 5, 6, 7, 8] [] [0, 1, 2, 3, 4, 5, 6, 7, 8] rfl (by decide) rfl (by decide) (by decide) (ws' := [(m, .inr (3, [.int cd, .ref a1, .ref a2, .ref a3, .ref a4, .ref a5, .ref a6, .ref a7, .ref a8, .int fi, .int le])), (a1, .inl (ww_g X 0, 240, .inl pl)), (a2, .inl (ww_g X 1, 240, .inl wr)), (a3, .inl (ww_g X 1, 240, .inl pg)), (a4, .inl (ww_g X 0, 240, .inl pv)), (a5, .inl (ww_g X 0, 4, .inl sz)), (a6, .inl (ww_g X 0, 80, .inl ow)), (a7, .inl (ww_g X 0, 80, .inl vl)), (a8, .inl (ww_g X 0, 60, .inl bf))]) rfl rfl (by decide) ?_
        obtain ⟨j, hj⟩ : ∃ j, 80 - p = j + 1 := ⟨79 - p, by omega⟩
        have hrl := px_room_le ow (80 - p) p
        rw [hj, px_bf] at h4
        rw [← hj] at h4
        have hj2 : j = 80 - (p + 1) := by omega
        subst hj2
        generalize px_room ow (80 - p) p = r at hrl h4 ⊢
        refine ww_istore O dd_MO_bestFor_20 (by rw [hn]; decide) rfl (L' := [(0, .ref m), (1, .int (nI w)), (2, .int b), (3, .int (nI s)), (4, .int (nI p)), (5, .int (nI r))]) rfl ?_
        refine ww_iload O dd_MO_bestFor_22 5 rfl ?_
        refine ww_if_leN O dd_MO_bestFor_24 (tgt := 93) rfl (by omega) (fun h24 => ?_) (fun h24 => ?_)
        · refine ww_iinc O dd_MO_bestFor_93 4 rfl (v := nI (p + 1)) (nI_add _ 1) (by rw [hn]; decide) rfl (L' := [(0, .ref m), (1, .int (nI w)), (2, .int b), (3, .int (nI s)), (4, .int (nI (p + 1))), (5, .int (nI r))]) rfl ?_
          refine ww_goto O dd_MO_bestFor_96 (tgt := 7) rfl ?_
          rw [if_neg (by omega)] at h4
          refine ww_sub [0, 1, 2, 3, 4] rfl ?_
          exact ih (p + 1) _ _ (by omega) (by omega) (by omega) h4
        · refine ww_iload O dd_MO_bestFor_27 4 rfl ?_
          refine ww_if_eqN O dd_MO_bestFor_29 (tgt := 44) rfl (by omega) (fun h29 => ?_) (fun h29 => ?_)
          · refine ww_iload_n O dd_MO_bestFor_44 3 rfl ?_
            refine ww_iload_n O dd_MO_bestFor_45 1 rfl ?_
            refine ww_icmp_ltN O dd_MO_bestFor_46 (tgt := 69) rfl (by omega) (by omega) (fun h46 => ?_) (fun h46 => ?_)
            · refine ww_iload O dd_MO_bestFor_69 5 rfl ?_
              refine ww_iload_n O dd_MO_bestFor_71 3 rfl ?_
              refine ww_icmp_leN O dd_MO_bestFor_72 (tgt := 79) rfl (by omega) (by omega) (fun h72 => ?_) (fun h72 => ?_)
              · refine ww_iconst O dd_MO_bestFor_79 (v := nI 0) rfl ?_
                refine ww_istore O dd_MO_bestFor_80 (by rw [hn]; decide) rfl (L' := [(0, .ref m), (1, .int (nI w)), (2, .int b), (3, .int (nI s)), (4, .int (nI p)), (5, .int (nI r)), (6, .int (nI 0))]) rfl ?_
                refine ww_iload O dd_MO_bestFor_82 6 rfl ?_
                refine ww_if_eqN O dd_MO_bestFor_84 (tgt := 93) rfl (by omega) (fun h84 => ?_) (fun h84 => ?_)
                · refine ww_iinc O dd_MO_bestFor_93 4 rfl (v := nI (p + 1)) (nI_add _ 1) (by rw [hn]; decide) rfl (L' := [(0, .ref m), (1, .int (nI w)), (2, .int b), (3, .int (nI s)), (4, .int (nI (p + 1))), (5, .int (nI r)), (6, .int (nI 0))]) rfl ?_
                  refine ww_goto O dd_MO_bestFor_96 (tgt := 7) rfl ?_
                  rw [if_neg (fun z => by have q := z.2.2; unfold px_bet at q; split at q <;> simp at q <;> omega)] at h4
                  refine ww_sub [0, 1, 2, 3, 4] rfl ?_
                  exact ih (p + 1) _ _ (by omega) (by omega) (by omega) h4
                · exact absurd rfl h84
              · refine ww_iconst O dd_MO_bestFor_75 (v := nI 1) rfl ?_
                refine ww_goto O dd_MO_bestFor_76 (tgt := 80) rfl ?_
                refine ww_istore O dd_MO_bestFor_80 (by rw [hn]; decide) rfl (L' := [(0, .ref m), (1, .int (nI w)), (2, .int b), (3, .int (nI s)), (4, .int (nI p)), (5, .int (nI r)), (6, .int (nI 1))]) rfl ?_
                refine ww_iload O dd_MO_bestFor_82 6 rfl ?_
                refine ww_if_eqN O dd_MO_bestFor_84 (tgt := 93) rfl (by omega) (fun h84 => ?_) (fun h84 => ?_)
                · exact absurd h84 (by decide)
                · refine ww_iload O dd_MO_bestFor_87 4 rfl ?_
                  refine ww_istore_n O dd_MO_bestFor_89 (by rw [hn]; decide) rfl (L' := [(0, .ref m), (1, .int (nI w)), (2, .int (nI p)), (3, .int (nI s)), (4, .int (nI p)), (5, .int (nI r)), (6, .int (nI 1))]) rfl ?_
                  refine ww_iload O dd_MO_bestFor_90 5 rfl ?_
                  refine ww_istore_n O dd_MO_bestFor_92 (by rw [hn]; decide) rfl (L' := [(0, .ref m), (1, .int (nI w)), (2, .int (nI p)), (3, .int (nI r)), (4, .int (nI p)), (5, .int (nI r)), (6, .int (nI 1))]) rfl ?_
                  refine ww_iinc O dd_MO_bestFor_93 4 rfl (v := nI (p + 1)) (nI_add _ 1) (by rw [hn]; decide) rfl (L' := [(0, .ref m), (1, .int (nI w)), (2, .int (nI p)), (3, .int (nI r)), (4, .int (nI (p + 1))), (5, .int (nI r)), (6, .int (nI 1))]) rfl ?_
                  refine ww_goto O dd_MO_bestFor_96 (tgt := 7) rfl ?_
                  rw [if_pos ⟨h24, (Or.inl h29), by unfold px_bet; split <;> simp <;> omega⟩] at h4
                  refine ww_sub [0, 1, 2, 3, 4] rfl ?_
                  exact ih (p + 1) _ _ (by omega) (by omega) (by omega) h4
            · refine ww_iload O dd_MO_bestFor_49 5 rfl ?_
              refine ww_iload_n O dd_MO_bestFor_51 1 rfl ?_
              refine ww_icmp_ltN O dd_MO_bestFor_52 (tgt := 65) rfl (by omega) (by omega) (fun h52 => ?_) (fun h52 => ?_)
              · refine ww_iconst O dd_MO_bestFor_65 (v := nI 0) rfl ?_
                refine ww_goto O dd_MO_bestFor_66 (tgt := 80) rfl ?_
                refine ww_istore O dd_MO_bestFor_80 (by rw [hn]; decide) rfl (L' := [(0, .ref m), (1, .int (nI w)), (2, .int b), (3, .int (nI s)), (4, .int (nI p)), (5, .int (nI r)), (6, .int (nI 0))]) rfl ?_
                refine ww_iload O dd_MO_bestFor_82 6 rfl ?_
                refine ww_if_eqN O dd_MO_bestFor_84 (tgt := 93) rfl (by omega) (fun h84 => ?_) (fun h84 => ?_)
                · refine ww_iinc O dd_MO_bestFor_93 4 rfl (v := nI (p + 1)) (nI_add _ 1) (by rw [hn]; decide) rfl (L' := [(0, .ref m), (1, .int (nI w)), (2, .int b), (3, .int (nI s)), (4, .int (nI (p + 1))), (5, .int (nI r)), (6, .int (nI 0))]) rfl ?_
                  refine ww_goto O dd_MO_bestFor_96 (tgt := 7) rfl ?_
                  rw [if_neg (fun z => by have q := z.2.2; unfold px_bet at q; split at q <;> simp at q <;> omega)] at h4
                  refine ww_sub [0, 1, 2, 3, 4] rfl ?_
                  exact ih (p + 1) _ _ (by omega) (by omega) (by omega) h4
                · exact absurd rfl h84
              · refine ww_iload O dd_MO_bestFor_55 5 rfl ?_
                refine ww_iload_n O dd_MO_bestFor_57 3 rfl ?_
                refine ww_icmp_geN O dd_MO_bestFor_58 (tgt := 65) rfl (by omega) (by omega) (fun h58 => ?_) (fun h58 => ?_)
                · refine ww_iconst O dd_MO_bestFor_65 (v := nI 0) rfl ?_
                  refine ww_goto O dd_MO_bestFor_66 (tgt := 80) rfl ?_
                  refine ww_istore O dd_MO_bestFor_80 (by rw [hn]; decide) rfl (L' := [(0, .ref m), (1, .int (nI w)), (2, .int b), (3, .int (nI s)), (4, .int (nI p)), (5, .int (nI r)), (6, .int (nI 0))]) rfl ?_
                  refine ww_iload O dd_MO_bestFor_82 6 rfl ?_
                  refine ww_if_eqN O dd_MO_bestFor_84 (tgt := 93) rfl (by omega) (fun h84 => ?_) (fun h84 => ?_)
                  · refine ww_iinc O dd_MO_bestFor_93 4 rfl (v := nI (p + 1)) (nI_add _ 1) (by rw [hn]; decide) rfl (L' := [(0, .ref m), (1, .int (nI w)), (2, .int b), (3, .int (nI s)), (4, .int (nI (p + 1))), (5, .int (nI r)), (6, .int (nI 0))]) rfl ?_
                    refine ww_goto O dd_MO_bestFor_96 (tgt := 7) rfl ?_
                    rw [if_neg (fun z => by have q := z.2.2; unfold px_bet at q; split at q <;> simp at q <;> omega)] at h4
                    refine ww_sub [0, 1, 2, 3, 4] rfl ?_
                    exact ih (p + 1) _ _ (by omega) (by omega) (by omega) h4
                  · exact absurd rfl h84
                · refine ww_iconst O dd_MO_bestFor_61 (v := nI 1) rfl ?_
                  refine ww_goto O dd_MO_bestFor_62 (tgt := 80) rfl ?_
                  refine ww_istore O dd_MO_bestFor_80 (by rw [hn]; decide) rfl (L' := [(0, .ref m), (1, .int (nI w)), (2, .int b), (3, .int (nI s)), (4, .int (nI p)), (5, .int (nI r)), (6, .int (nI 1))]) rfl ?_
                  refine ww_iload O dd_MO_bestFor_82 6 rfl ?_
                  refine ww_if_eqN O dd_MO_bestFor_84 (tgt := 93) rfl (by omega) (fun h84 => ?_) (fun h84 => ?_)
                  · exact absurd h84 (by decide)
                  · refine ww_iload O dd_MO_bestFor_87 4 rfl ?_
                    refine ww_istore_n O dd_MO_bestFor_89 (by rw [hn]; decide) rfl (L' := [(0, .ref m), (1, .int (nI w)), (2, .int (nI p)), (3, .int (nI s)), (4, .int (nI p)), (5, .int (nI r)), (6, .int (nI 1))]) rfl ?_
                    refine ww_iload O dd_MO_bestFor_90 5 rfl ?_
                    refine ww_istore_n O dd_MO_bestFor_92 (by rw [hn]; decide) rfl (L' := [(0, .ref m), (1, .int (nI w)), (2, .int (nI p)), (3, .int (nI r)), (4, .int (nI p)), (5, .int (nI r)), (6, .int (nI 1))]) rfl ?_
                    refine ww_iinc O dd_MO_bestFor_93 4 rfl (v := nI (p + 1)) (nI_add _ 1) (by rw [hn]; decide) rfl (L' := [(0, .ref m), (1, .int (nI w)), (2, .int (nI p)), (3, .int (nI r)), (4, .int (nI (p + 1))), (5, .int (nI r)), (6, .int (nI 1))]) rfl ?_
                    refine ww_goto O dd_MO_bestFor_96 (tgt := 7) rfl ?_
                    rw [if_pos ⟨h24, (Or.inl h29), by unfold px_bet; split <;> simp <;> omega⟩] at h4
                    refine ww_sub [0, 1, 2, 3, 4] rfl ?_
                    exact ih (p + 1) _ _ (by omega) (by omega) (by omega) h4
          · refine ww_aload_n O dd_MO_bestFor_32 0 rfl ?_
            refine ww_get O ci_MO rfl 6 (by decide) lf_MO_26 rfl dd_MO_bestFor_33 0 rfl rfl ?_
            refine ww_iload O dd_MO_bestFor_36 4 rfl ?_
            refine ww_iconst O dd_MO_bestFor_38 (v := nI 1) rfl ?_
            refine ww_isub O dd_MO_bestFor_39 (v := nI (p - 1)) (pk_sub (by omega)) ?_
            refine ww_iald O dd_MO_bestFor_40 6 rfl (by omega) (by decide) rfl ?_
            refine ww_if_lt O dd_MO_bestFor_41 (tgt := 93) rfl (fun h41 => ?_) (fun h41 => ?_)
            · refine ww_iinc O dd_MO_bestFor_93 4 rfl (v := nI (p + 1)) (nI_add _ 1) (by rw [hn]; decide) rfl (L' := [(0, .ref m), (1, .int (nI w)), (2, .int b), (3, .int (nI s)), (4, .int (nI (p + 1))), (5, .int (nI r))]) rfl ?_
              refine ww_goto O dd_MO_bestFor_96 (tgt := 7) rfl ?_
              rw [if_neg (fun z => by rcases z.2.1 with q | q; exact h29 q; exact q ((ho (p - 1) (by omega)).lt (Int32.not_le.mpr h41)))] at h4
              refine ww_sub [0, 1, 2, 3, 4] rfl ?_
              exact ih (p + 1) _ _ (by omega) (by omega) (by omega) h4
            · refine ww_iload_n O dd_MO_bestFor_44 3 rfl ?_
              refine ww_iload_n O dd_MO_bestFor_45 1 rfl ?_
              refine ww_icmp_ltN O dd_MO_bestFor_46 (tgt := 69) rfl (by omega) (by omega) (fun h46 => ?_) (fun h46 => ?_)
              · refine ww_iload O dd_MO_bestFor_69 5 rfl ?_
                refine ww_iload_n O dd_MO_bestFor_71 3 rfl ?_
                refine ww_icmp_leN O dd_MO_bestFor_72 (tgt := 79) rfl (by omega) (by omega) (fun h72 => ?_) (fun h72 => ?_)
                · refine ww_iconst O dd_MO_bestFor_79 (v := nI 0) rfl ?_
                  refine ww_istore O dd_MO_bestFor_80 (by rw [hn]; decide) rfl (L' := [(0, .ref m), (1, .int (nI w)), (2, .int b), (3, .int (nI s)), (4, .int (nI p)), (5, .int (nI r)), (6, .int (nI 0))]) rfl ?_
                  refine ww_iload O dd_MO_bestFor_82 6 rfl ?_
                  refine ww_if_eqN O dd_MO_bestFor_84 (tgt := 93) rfl (by omega) (fun h84 => ?_) (fun h84 => ?_)
                  · refine ww_iinc O dd_MO_bestFor_93 4 rfl (v := nI (p + 1)) (nI_add _ 1) (by rw [hn]; decide) rfl (L' := [(0, .ref m), (1, .int (nI w)), (2, .int b), (3, .int (nI s)), (4, .int (nI (p + 1))), (5, .int (nI r)), (6, .int (nI 0))]) rfl ?_
                    refine ww_goto O dd_MO_bestFor_96 (tgt := 7) rfl ?_
                    rw [if_neg (fun z => by have q := z.2.2; unfold px_bet at q; split at q <;> simp at q <;> omega)] at h4
                    refine ww_sub [0, 1, 2, 3, 4] rfl ?_
                    exact ih (p + 1) _ _ (by omega) (by omega) (by omega) h4
                  · exact absurd rfl h84
                · refine ww_iconst O dd_MO_bestFor_75 (v := nI 1) rfl ?_
                  refine ww_goto O dd_MO_bestFor_76 (tgt := 80) rfl ?_
                  refine ww_istore O dd_MO_bestFor_80 (by rw [hn]; decide) rfl (L' := [(0, .ref m), (1, .int (nI w)), (2, .int b), (3, .int (nI s)), (4, .int (nI p)), (5, .int (nI r)), (6, .int (nI 1))]) rfl ?_
                  refine ww_iload O dd_MO_bestFor_82 6 rfl ?_
                  refine ww_if_eqN O dd_MO_bestFor_84 (tgt := 93) rfl (by omega) (fun h84 => ?_) (fun h84 => ?_)
                  · exact absurd h84 (by decide)
                  · refine ww_iload O dd_MO_bestFor_87 4 rfl ?_
                    refine ww_istore_n O dd_MO_bestFor_89 (by rw [hn]; decide) rfl (L' := [(0, .ref m), (1, .int (nI w)), (2, .int (nI p)), (3, .int (nI s)), (4, .int (nI p)), (5, .int (nI r)), (6, .int (nI 1))]) rfl ?_
                    refine ww_iload O dd_MO_bestFor_90 5 rfl ?_
                    refine ww_istore_n O dd_MO_bestFor_92 (by rw [hn]; decide) rfl (L' := [(0, .ref m), (1, .int (nI w)), (2, .int (nI p)), (3, .int (nI r)), (4, .int (nI p)), (5, .int (nI r)), (6, .int (nI 1))]) rfl ?_
                    refine ww_iinc O dd_MO_bestFor_93 4 rfl (v := nI (p + 1)) (nI_add _ 1) (by rw [hn]; decide) rfl (L' := [(0, .ref m), (1, .int (nI w)), (2, .int (nI p)), (3, .int (nI r)), (4, .int (nI (p + 1))), (5, .int (nI r)), (6, .int (nI 1))]) rfl ?_
                    refine ww_goto O dd_MO_bestFor_96 (tgt := 7) rfl ?_
                    rw [if_pos ⟨h24, (Or.inr ((ho (p - 1) (by omega)).ge (Int32.not_lt.mp h41))), by unfold px_bet; split <;> simp <;> omega⟩] at h4
                    refine ww_sub [0, 1, 2, 3, 4] rfl ?_
                    exact ih (p + 1) _ _ (by omega) (by omega) (by omega) h4
              · refine ww_iload O dd_MO_bestFor_49 5 rfl ?_
                refine ww_iload_n O dd_MO_bestFor_51 1 rfl ?_
                refine ww_icmp_ltN O dd_MO_bestFor_52 (tgt := 65) rfl (by omega) (by omega) (fun h52 => ?_) (fun h52 => ?_)
                · refine ww_iconst O dd_MO_bestFor_65 (v := nI 0) rfl ?_
                  refine ww_goto O dd_MO_bestFor_66 (tgt := 80) rfl ?_
                  refine ww_istore O dd_MO_bestFor_80 (by rw [hn]; decide) rfl (L' := [(0, .ref m), (1, .int (nI w)), (2, .int b), (3, .int (nI s)), (4, .int (nI p)), (5, .int (nI r)), (6, .int (nI 0))]) rfl ?_
                  refine ww_iload O dd_MO_bestFor_82 6 rfl ?_
                  refine ww_if_eqN O dd_MO_bestFor_84 (tgt := 93) rfl (by omega) (fun h84 => ?_) (fun h84 => ?_)
                  · refine ww_iinc O dd_MO_bestFor_93 4 rfl (v := nI (p + 1)) (nI_add _ 1) (by rw [hn]; decide) rfl (L' := [(0, .ref m), (1, .int (nI w)), (2, .int b), (3, .int (nI s)), (4, .int (nI (p + 1))), (5, .int (nI r)), (6, .int (nI 0))]) rfl ?_
                    refine ww_goto O dd_MO_bestFor_96 (tgt := 7) rfl ?_
                    rw [if_neg (fun z => by have q := z.2.2; unfold px_bet at q; split at q <;> simp at q <;> omega)] at h4
                    refine ww_sub [0, 1, 2, 3, 4] rfl ?_
                    exact ih (p + 1) _ _ (by omega) (by omega) (by omega) h4
                  · exact absurd rfl h84
                · refine ww_iload O dd_MO_bestFor_55 5 rfl ?_
                  refine ww_iload_n O dd_MO_bestFor_57 3 rfl ?_
                  refine ww_icmp_geN O dd_MO_bestFor_58 (tgt := 65) rfl (by omega) (by omega) (fun h58 => ?_) (fun h58 => ?_)
                  · refine ww_iconst O dd_MO_bestFor_65 (v := nI 0) rfl ?_
                    refine ww_goto O dd_MO_bestFor_66 (tgt := 80) rfl ?_
                    refine ww_istore O dd_MO_bestFor_80 (by rw [hn]; decide) rfl (L' := [(0, .ref m), (1, .int (nI w)), (2, .int b), (3, .int (nI s)), (4, .int (nI p)), (5, .int (nI r)), (6, .int (nI 0))]) rfl ?_
                    refine ww_iload O dd_MO_bestFor_82 6 rfl ?_
                    refine ww_if_eqN O dd_MO_bestFor_84 (tgt := 93) rfl (by omega) (fun h84 => ?_) (fun h84 => ?_)
                    · refine ww_iinc O dd_MO_bestFor_93 4 rfl (v := nI (p + 1)) (nI_add _ 1) (by rw [hn]; decide) rfl (L' := [(0, .ref m), (1, .int (nI w)), (2, .int b), (3, .int (nI s)), (4, .int (nI (p + 1))), (5, .int (nI r)), (6, .int (nI 0))]) rfl ?_
                      refine ww_goto O dd_MO_bestFor_96 (tgt := 7) rfl ?_
                      rw [if_neg (fun z => by have q := z.2.2; unfold px_bet at q; split at q <;> simp at q <;> omega)] at h4
                      refine ww_sub [0, 1, 2, 3, 4] rfl ?_
                      exact ih (p + 1) _ _ (by omega) (by omega) (by omega) h4
                    · exact absurd rfl h84
                  · refine ww_iconst O dd_MO_bestFor_61 (v := nI 1) rfl ?_
                    refine ww_goto O dd_MO_bestFor_62 (tgt := 80) rfl ?_
                    refine ww_istore O dd_MO_bestFor_80 (by rw [hn]; decide) rfl (L' := [(0, .ref m), (1, .int (nI w)), (2, .int b), (3, .int (nI s)), (4, .int (nI p)), (5, .int (nI r)), (6, .int (nI 1))]) rfl ?_
                    refine ww_iload O dd_MO_bestFor_82 6 rfl ?_
                    refine ww_if_eqN O dd_MO_bestFor_84 (tgt := 93) rfl (by omega) (fun h84 => ?_) (fun h84 => ?_)
                    · exact absurd h84 (by decide)
                    · refine ww_iload O dd_MO_bestFor_87 4 rfl ?_
                      refine ww_istore_n O dd_MO_bestFor_89 (by rw [hn]; decide) rfl (L' := [(0, .ref m), (1, .int (nI w)), (2, .int (nI p)), (3, .int (nI s)), (4, .int (nI p)), (5, .int (nI r)), (6, .int (nI 1))]) rfl ?_
                      refine ww_iload O dd_MO_bestFor_90 5 rfl ?_
                      refine ww_istore_n O dd_MO_bestFor_92 (by rw [hn]; decide) rfl (L' := [(0, .ref m), (1, .int (nI w)), (2, .int (nI p)), (3, .int (nI r)), (4, .int (nI p)), (5, .int (nI r)), (6, .int (nI 1))]) rfl ?_
                      refine ww_iinc O dd_MO_bestFor_93 4 rfl (v := nI (p + 1)) (nI_add _ 1) (by rw [hn]; decide) rfl (L' := [(0, .ref m), (1, .int (nI w)), (2, .int (nI p)), (3, .int (nI r)), (4, .int (nI (p + 1))), (5, .int (nI r)), (6, .int (nI 1))]) rfl ?_
                      refine ww_goto O dd_MO_bestFor_96 (tgt := 7) rfl ?_
                      rw [if_pos ⟨h24, (Or.inr ((ho (p - 1) (by omega)).ge (Int32.not_lt.mp h41))), by unfold px_bet; split <;> simp <;> omega⟩] at h4
                      refine ww_sub [0, 1, 2, 3, 4] rfl ?_
                      exact ih (p + 1) _ _ (by omega) (by omega) (by omega) h4
  refine ww_iconst O dd_MO_bestFor_0 (v := (-1)) rfl ?_
  refine ww_istore_n O dd_MO_bestFor_1 (by rw [hn]; decide) rfl (L' := [(0, .ref m), (1, .int (nI w)), (2, .int (-1))]) rfl ?_
  refine ww_iconst O dd_MO_bestFor_2 (v := nI 0) rfl ?_
  refine ww_istore_n O dd_MO_bestFor_3 (by rw [hn]; decide) rfl (L' := [(0, .ref m), (1, .int (nI w)), (2, .int (-1)), (3, .int (nI 0))]) rfl ?_
  refine ww_iconst O dd_MO_bestFor_4 (v := nI 0) rfl ?_
  refine ww_istore O dd_MO_bestFor_5 (by rw [hn]; decide) rfl (L' := [(0, .ref m), (1, .int (nI w)), (2, .int (-1)), (3, .int (nI 0)), (4, .int (nI 0))]) rfl ?_
  exact loop 80 0 0 (-1) (by omega) (by omega) (by omega) rfl
