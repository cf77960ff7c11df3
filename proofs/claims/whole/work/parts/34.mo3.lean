theorem lc_MO_73 : ww_site "DelayedExtentsModel" 73 yy_MO_mapRow bb_MO_mapRow 7 none 2 := ⟨List.mem_filter.mpr ⟨List.mem_of_getElem? (i := 596) (by decide +kernel), by decide +kernel⟩, List.mem_filter.mpr ⟨List.mem_of_getElem? (i := 593) (by decide +kernel), by decide +kernel⟩, List.mem_filter.mpr ⟨List.mem_of_getElem? (i := 30) (by decide +kernel), by decide +kernel⟩, by decide, by decide, by decide +kernel⟩
theorem lx_MO_mapRow_II_V : ww_virt yy_MO_mapRow := ⟨List.mem_filter.mpr ⟨List.mem_of_getElem? (i := 595) (by decide +kernel), by decide +kernel⟩, List.mem_filter.mpr ⟨List.mem_of_getElem? (i := 19) (by decide +kernel), by decide +kernel⟩⟩
theorem lc_MO_96 : ww_site "DelayedExtentsModel" 96 yy_MO_unmap bb_MO_unmap 2 none 1 := ⟨List.mem_filter.mpr ⟨List.mem_of_getElem? (i := 612) (by decide +kernel), by decide +kernel⟩, List.mem_filter.mpr ⟨List.mem_of_getElem? (i := 609) (by decide +kernel), by decide +kernel⟩, List.mem_filter.mpr ⟨List.mem_of_getElem? (i := 30) (by decide +kernel), by decide +kernel⟩, by decide, by decide, by decide +kernel⟩
theorem lx_MO_unmap_I_V : ww_virt yy_MO_unmap := ⟨List.mem_filter.mpr ⟨List.mem_of_getElem? (i := 611) (by decide +kernel), by decide +kernel⟩, List.mem_filter.mpr ⟨List.mem_of_getElem? (i := 23) (by decide +kernel), by decide +kernel⟩⟩
set_option maxRecDepth 4000 in
theorem cc_MO_mapHoles (l : Launch) (D : va_G) (g : Nat → ClassId) (m : Nat) (a1 : Nat) (a2 : Nat) (a3 : Nat) (a4 : Nat) (a5 : Nat) (a6 : Nat) (a7 : Nat) (a8 : Nat) (cd : Int32) (fi : Int32) (le : Int32) (pl : Nat → Int32) (wr : Nat → Int32) (pg : Nat → Int32) (pv : Nat → Int32) (sz : Nat → Int32) (ow : Nat → Int32) (vl : Nat → Int32) (bf : Nat → Int32) (a : Nat) (e : Nat) (all : Bool) (f : Nat) (hI : px_I1 pl ow) (hw : ∀ j, a ≤ j → j < e → px_hole pl j = true → wr j = nI 0) (hf : f < 4) (ha : 60 * f ≤ a) (hae : a ≤ e) (he : e ≤ 60 * f + 60) (hnu : px_cnt (fun j => px_hole pl j && (px_on pg j || all)) a (e - a) ≤ px_nu ow) : ww_ct l D g yy_MO_mapHoles bb_MO_mapHoles 6 none (ww_rm 4) [.ref m, .int (nI a), .int (nI e), .int (px_b all)] [(m, .inr (3, [.int cd, .ref a1, .ref a2, .ref a3, .ref a4, .ref a5, .ref a6, .ref a7, .ref a8, .int fi, .int le])), (a1, .inl (g 0, 240, .inl pl)), (a2, .inl (g 1, 240, .inl wr)), (a3, .inl (g 1, 240, .inl pg)), (a4, .inl (g 0, 240, .inl pv)), (a5, .inl (g 0, 4, .inl sz)), (a6, .inl (g 0, 80, .inl ow)), (a7, .inl (g 0, 80, .inl vl)), (a8, .inl (g 0, 60, .inl bf))] none [(m, .inr (3, [.int cd, .ref a1, .ref a2, .ref a3, .ref a4, .ref a5, .ref a6, .ref a7, .ref a8, .int fi, .int le])), (a1, .inl (g 0, 240, .inl ((px_mh 0 (60 * f) (fun j => px_on pg j || all) 60 a e pl ow).1))), (a2, .inl (g 1, 240, .inl wr)), (a3, .inl (g 1, 240, .inl pg)), (a4, .inl (g 0, 240, .inl pv)), (a5, .inl (g 0, 4, .inl sz)), (a6, .inl (g 0, 80, .inl ((px_mh 0 (60 * f) (fun j => px_on pg j || all) 60 a e pl ow).2))), (a7, .inl (g 0, 80, .inl vl)), (a8, .inl (g 0, 60, .inl bf))] := by
  refine ww_start (by decide +kernel) rfl trivial (Nat.le_of_ble_eq_true rfl) (L0 := [(0, .ref m), (1, .int (nI a)), (2, .int (nI e)), (3, .int (px_b all))]) rfl ?_
  intro X O hl hD hg hR hn F
  subst hl hD hg
  generalize hT : px_mh 0 (60 * f) (fun j => px_on pg j || all) 60 a e pl ow = T at F
  have loop : ∀ (k b : Nat) (pl2 ow2 : Nat → Int32), e ≤ b + k → 60 * f ≤ b → b ≤ e + 1 → px_I1 pl2 ow2 → px_cnt (fun j => px_hole pl2 j && (px_on pg j || all)) b (e - b) ≤ px_nu ow2 → (∀ j, b ≤ j → j < e → px_hole pl2 j = true → wr j = nI 0) → px_mh 0 (60 * f) (fun j => px_on pg j || all) k b e pl2 ow2 = T → ww_at X 0 0 3 [(0, .ref m), (1, .int (nI a)), (2, .int (nI e)), (3, .int (px_b all)), (4, .int (nI b))] [] [(m, .inr (3, [.int cd, .ref a1, .ref a2, .ref a3, .ref a4, .ref a5, .ref a6, .ref a7, .ref a8, .int fi, .int le])), (a1, .inl (ww_g X 0, 240, .inl pl2)), (a2, .inl (ww_g X 1, 240, .inl wr)), (a3, .inl (ww_g X 1, 240, .inl pg)), (a4, .inl (ww_g X 0, 240, .inl pv)), (a5, .inl (ww_g X 0, 4, .inl sz)), (a6, .inl (ww_g X 0, 80, .inl ow2)), (a7, .inl (ww_g X 0, 80, .inl vl)), (a8, .inl (ww_g X 0, 60, .inl bf))] := by
    intro k
    induction k with
    | zero =>
      intro b pl2 ow2 h1 h2 h3 hI hc hw2 h4
      refine ww_iload O dd_MO_mapHoles_3 4 rfl ?_
      refine ww_iload_n O dd_MO_mapHoles_5 2 rfl ?_
      refine ww_icmp_geN O dd_MO_mapHoles_6 (tgt := 82) rfl (by omega) (by omega) (fun h6 => ?_) (fun h6 => ?_)
      · rw [px_mh_e (by omega)] at h4
        subst h4
        exact F.v dd_MO_mapHoles_82
      · exfalso; omega
    | succ k ih =>
      intro b pl2 ow2 h1 h2 h3 hI hc hw2 h4
      refine ww_iload O dd_MO_mapHoles_3 4 rfl ?_
      refine ww_iload_n O dd_MO_mapHoles_5 2 rfl ?_
      refine ww_icmp_geN O dd_MO_mapHoles_6 (tgt := 82) rfl (by omega) (by omega) (fun h6 => ?_) (fun h6 => ?_)
      · rw [px_mh_e (by omega)] at h4
        subst h4
        exact F.v dd_MO_mapHoles_82
      · refine ww_iconst O dd_MO_mapHoles_9 (v := nI 0) rfl ?_
        refine ww_istore O dd_MO_mapHoles_10 (by rw [hn]; decide) rfl (L' := [(0, .ref m), (1, .int (nI a)), (2, .int (nI e)), (3, .int (px_b all)), (4, .int (nI b)), (5, .int (nI 0))]) rfl ?_
        rw [px_mh, if_pos (by omega)] at h4
        generalize hr2 : px_er (fun j => px_hole pl2 j && (px_on pg j || all)) (e - b) b = r at h4
        have hcd := px_cand_m (f := f) (a := b) (by omega) (by omega) pl2
        rw [hcd] at h4
        obtain ⟨r1, r2, r3, r4, r5, r6, r7⟩ := px_row (px_cand (b % 60 == 0) pl2 b) hI (by omega) (by omega) hc hr2
        have inner : ∀ (j n : Nat), e ≤ b + n + j → b + n ≤ r → px_er (fun j => px_hole pl2 j && (px_on pg j || all)) (e - (b + n)) (b + n) = r → ww_at X 0 0 12 [(0, .ref m), (1, .int (nI a)), (2, .int (nI e)), (3, .int (px_b all)), (4, .int (nI b)), (5, .int (nI n))] [] [(m, .inr (3, [.int cd, .ref a1, .ref a2, .ref a3, .ref a4, .ref a5, .ref a6, .ref a7, .ref a8, .int fi, .int le])), (a1, .inl (ww_g X 0, 240, .inl pl2)), (a2, .inl (ww_g X 1, 240, .inl wr)), (a3, .inl (ww_g X 1, 240, .inl pg)), (a4, .inl (ww_g X 0, 240, .inl pv)), (a5, .inl (ww_g X 0, 4, .inl sz)), (a6, .inl (ww_g X 0, 80, .inl ow2)), (a7, .inl (ww_g X 0, 80, .inl vl)), (a8, .inl (ww_g X 0, 60, .inl bf))] := by
          intro j
          induction j with
          | zero =>
            intro n g1 g2 g3
            refine ww_iload O dd_MO_mapHoles_12 4 rfl ?_
            refine ww_iload O dd_MO_mapHoles_14 5 rfl ?_
            refine ww_iadd O dd_MO_mapHoles_16 (v := nI (b + n)) (nI_add _ _) ?_
            refine ww_iload_n O dd_MO_mapHoles_17 2 rfl ?_
            refine ww_icmp_geN O dd_MO_mapHoles_18 (tgt := 57) rfl (by omega) (by omega) (fun h18 => ?_) (fun h18 => ?_)
            · have hnr : n = r - b := by rw [← g3, px_er_s, if_neg (fun z => by omega)]; omega
              refine ww_iload O dd_MO_mapHoles_57 5 rfl ?_
              refine ww_if_leN O dd_MO_mapHoles_59 (tgt := 70) rfl (by omega) (fun h59 => ?_) (fun h59 => ?_)
              · have hn0 : b = r := by omega
                subst hn0
                rw [Nat.sub_self] at r5 r6 r7 h4
                refine ww_iload O dd_MO_mapHoles_70 4 rfl ?_
                refine ww_iload O dd_MO_mapHoles_72 5 rfl ?_
                refine ww_iadd O dd_MO_mapHoles_74 (v := nI (b + n)) (nI_add _ _) ?_
                refine ww_iconst O dd_MO_mapHoles_75 (v := nI 1) rfl ?_
                refine ww_iadd O dd_MO_mapHoles_76 (v := nI ((b + n) + 1)) (nI_add _ _) ?_
                refine ww_istore O dd_MO_mapHoles_77 (by rw [hn]; decide) rfl (L' := [(0, .ref m), (1, .int (nI a)), (2, .int (nI e)), (3, .int (px_b all)), (4, .int (nI ((b + n) + 1))), (5, .int (nI n))]) rfl ?_
                refine ww_goto O dd_MO_mapHoles_79 (tgt := 3) rfl ?_
                refine ww_sub [0, 1, 2, 3, 4] rfl ?_
                exact ih _ _ _ (by omega) (by omega) (by omega) hI (by rw [show b + n + 1 = b + 1 by omega]; exact r6) (fun j g5 g6 g7 => hw2 j (by omega) g6 g7) (by rw [show b + n + 1 = b + 1 by omega]; exact h4)
              · refine ww_aload_n O dd_MO_mapHoles_62 0 rfl ?_
                refine ww_iload O dd_MO_mapHoles_63 4 rfl ?_
                refine ww_iload O dd_MO_mapHoles_65 5 rfl ?_
                refine ww_callV (q0 := 0) (ci := 3) O (cc_MO_mapRow _ _ _ m a1 a2 a3 a4 a5 a6 a7 a8 cd fi le pl2 wr pg pv sz ow2 vl bf b n (fun b hb => hI.rg b hb) (fun p hp => hI.rq p hp) (fun j g5 g6 => hw2 j (by omega) (by omega) (r3 j (by omega) (by omega))) (by omega) (by omega) (by omega)) lc_MO_73 lx_MO_mapRow_II_V rfl rfl rfl (by rw [hR]; decide) (by rw [hR]; decide) (by rw [hR]; decide) rfl (Nat.le_of_ble_eq_true rfl) dd_MO_mapHoles_67 rfl [0, 1, 2, 3, 4, 5, 6, 7, 8] [] [0, 1, 2, 3, 4, 5, 6, 7, 8] rfl (by decide) rfl (by decide) (by decide) (ws' := [(m, .inr (3, [.int cd, .ref a1, .ref a2, .ref a3, .ref a4, .ref a5, .ref a6, .ref a7, .ref a8, .int fi, .int le])), (a1, .inl (ww_g X 0, 240, .inl ((px_mr 0 n b (px_cand (b % 60 == 0) pl2 b) pl2 ow2).1))), (a2, .inl (ww_g X 1, 240, .inl wr)), (a3, .inl (ww_g X 1, 240, .inl pg)), (a4, .inl (ww_g X 0, 240, .inl pv)), (a5, .inl (ww_g X 0, 4, .inl sz)), (a6, .inl (ww_g X 0, 80, .inl ((px_mr 0 n b (px_cand (b % 60 == 0) pl2 b) pl2 ow2).2))), (a7, .inl (ww_g X 0, 80, .inl vl)), (a8, .inl (ww_g X 0, 60, .inl bf))]) rfl rfl (by decide) ?_
                refine ww_iload O dd_MO_mapHoles_70 4 rfl ?_
                refine ww_iload O dd_MO_mapHoles_72 5 rfl ?_
                refine ww_iadd O dd_MO_mapHoles_74 (v := nI (b + n)) (nI_add _ _) ?_
                refine ww_iconst O dd_MO_mapHoles_75 (v := nI 1) rfl ?_
                refine ww_iadd O dd_MO_mapHoles_76 (v := nI ((b + n) + 1)) (nI_add _ _) ?_
                refine ww_istore O dd_MO_mapHoles_77 (by rw [hn]; decide) rfl (L' := [(0, .ref m), (1, .int (nI a)), (2, .int (nI e)), (3, .int (px_b all)), (4, .int (nI ((b + n) + 1))), (5, .int (nI n))]) rfl ?_
                refine ww_goto O dd_MO_mapHoles_79 (tgt := 3) rfl ?_
                refine ww_sub [0, 1, 2, 3, 4] rfl ?_
                subst hnr
                exact ih _ _ _ (by omega) (by omega) (by omega) r5 (by rw [show b + (r - b) + 1 = r + 1 by omega]; exact r6) (fun j g5 g6 g7 => hw2 j (by omega) g6 (by rw [← g7]; unfold px_hole; rw [r7 j (by omega)])) (by rw [show b + (r - b) + 1 = r + 1 by omega]; exact h4)
            · exfalso; omega
          | succ j ihj =>
            intro n g1 g2 g3
            refine ww_iload O dd_MO_mapHoles_12 4 rfl ?_
            refine ww_iload O dd_MO_mapHoles_14 5 rfl ?_
            refine ww_iadd O dd_MO_mapHoles_16 (v := nI (b + n)) (nI_add _ _) ?_
            refine ww_iload_n O dd_MO_mapHoles_17 2 rfl ?_
            refine ww_icmp_geN O dd_MO_mapHoles_18 (tgt := 57) rfl (by omega) (by omega) (fun h18 => ?_) (fun h18 => ?_)
            · have hnr : n = r - b := by rw [← g3, px_er_s, if_neg (fun z => by omega)]; omega
              refine ww_iload O dd_MO_mapHoles_57 5 rfl ?_
              refine ww_if_leN O dd_MO_mapHoles_59 (tgt := 70) rfl (by omega) (fun h59 => ?_) (fun h59 => ?_)
              · have hn0 : b = r := by omega
                subst hn0
                rw [Nat.sub_self] at r5 r6 r7 h4
                refine ww_iload O dd_MO_mapHoles_70 4 rfl ?_
                refine ww_iload O dd_MO_mapHoles_72 5 rfl ?_
                refine ww_iadd O dd_MO_mapHoles_74 (v := nI (b + n)) (nI_add _ _) ?_
                refine ww_iconst O dd_MO_mapHoles_75 (v := nI 1) rfl ?_
                refine ww_iadd O dd_MO_mapHoles_76 (v := nI ((b + n) + 1)) (nI_add _ _) ?_
                refine ww_istore O dd_MO_mapHoles_77 (by rw [hn]; decide) rfl (L' := [(0, .ref m), (1, .int (nI a)), (2, .int (nI e)), (3, .int (px_b all)), (4, .int (nI ((b + n) + 1))), (5, .int (nI n))]) rfl ?_
                refine ww_goto O dd_MO_mapHoles_79 (tgt := 3) rfl ?_
                refine ww_sub [0, 1, 2, 3, 4] rfl ?_
                exact ih _ _ _ (by omega) (by omega) (by omega) hI (by rw [show b + n + 1 = b + 1 by omega]; exact r6) (fun j g5 g6 g7 => hw2 j (by omega) g6 g7) (by rw [show b + n + 1 = b + 1 by omega]; exact h4)
              · refine ww_aload_n O dd_MO_mapHoles_62 0 rfl ?_
                refine ww_iload O dd_MO_mapHoles_63 4 rfl ?_
                refine ww_iload O dd_MO_mapHoles_65 5 rfl ?_
                refine ww_callV (q0 := 0) (ci := 3) O (cc_MO_mapRow _ _ _ m a1 a2 a3 a4 a5 a6 a7 a8 cd fi le pl2 wr pg pv sz ow2 vl bf b n (fun b hb => hI.rg b hb) (fun p hp => hI.rq p hp) (fun j g5 g6 => hw2 j (by omega) (by omega) (r3 j (by omega) (by omega))) (by omega) (by omega) (by omega)) lc_MO_73 lx_MO_mapRow_II_V rfl rfl rfl (by rw [hR]; decide) (by rw [hR]; decide) (by rw [hR]; decide) rfl (Nat.le_of_ble_eq_true rfl) dd_MO_mapHoles_67 rfl [0, 1, 2, 3, 4, 5, 6, 7, 8] [] [0, 1, 2, 3, 4, 5, 6, 7, 8] rfl (by decide) rfl (by decide) (by decide) (ws' := [(m, .inr (3, [.int cd, .ref a1, .ref a2, .ref a3, .ref a4, .ref a5, .ref a6, .ref a7, .ref a8, .int fi, .int le])), (a1, .inl (ww_g X 0, 240, .inl ((px_mr 0 n b (px_cand (b % 60 == 0) pl2 b) pl2 ow2).1))), (a2, .inl (ww_g X 1, 240, .inl wr)), (a3, .inl (ww_g X 1, 240, .inl pg)), (a4, .inl (ww_g X 0, 240, .inl pv)), (a5, .inl (ww_g X 0, 4, .inl sz)), (a6, .inl (ww_g X 0, 80, .inl ((px_mr 0 n b (px_cand (b % 60 == 0) pl2 b) pl2 ow2).2))), (a7, .inl (ww_g X 0, 80, .inl vl)), (a8, .inl (ww_g X 0, 60, .inl bf))]) rfl rfl (by decide) ?_
                refine ww_iload O dd_MO_mapHoles_70 4 rfl ?_
                refine ww_iload O dd_MO_mapHoles_72 5 rfl ?_
                refine ww_iadd O dd_MO_mapHoles_74 (v := nI (b + n)) (nI_add _ _) ?_
                refine ww_iconst O dd_MO_mapHoles_75 (v := nI 1) rfl ?_
                refine ww_iadd O dd_MO_mapHoles_76 (v := nI ((b + n) + 1)) (nI_add _ _) ?_
                refine ww_istore O dd_MO_mapHoles_77 (by rw [hn]; decide) rfl (L' := [(0, .ref m), (1, .int (nI a)), (2, .int (nI e)), (3, .int (px_b all)), (4, .int (nI ((b + n) + 1))), (5, .int (nI n))]) rfl ?_
                refine ww_goto O dd_MO_mapHoles_79 (tgt := 3) rfl ?_
                refine ww_sub [0, 1, 2, 3, 4] rfl ?_
                subst hnr
                exact ih _ _ _ (by omega) (by omega) (by omega) r5 (by rw [show b + (r - b) + 1 = r + 1 by omega]; exact r6) (fun j g5 g6 g7 => hw2 j (by omega) g6 (by rw [← g7]; unfold px_hole; rw [r7 j (by omega)])) (by rw [show b + (r - b) + 1 = r + 1 by omega]; exact h4)
            · refine ww_aload_n O dd_MO_mapHoles_21 0 rfl ?_
              refine ww_get O ci_MO rfl 1 (by decide) lf_MO_7 rfl dd_MO_mapHoles_22 0 rfl rfl ?_
              refine ww_iload O dd_MO_mapHoles_25 4 rfl ?_
              refine ww_iload O dd_MO_mapHoles_27 5 rfl ?_
              refine ww_iadd O dd_MO_mapHoles_29 (v := nI (b + n)) (nI_add _ _) ?_
              refine ww_iald O dd_MO_mapHoles_30 1 rfl (by omega) (by decide) rfl ?_
              refine ww_if_ge O dd_MO_mapHoles_31 (tgt := 57) rfl (fun h31 => ?_) (fun h31 => ?_)
              · have hnr : n = r - b := by rw [← g3, px_er_s, if_neg (fun z => by have q := z.2; simp [px_rg.ge0 (hI.rg (b + n) (by omega)) h31] at q)]; omega
                refine ww_iload O dd_MO_mapHoles_57 5 rfl ?_
                refine ww_if_leN O dd_MO_mapHoles_59 (tgt := 70) rfl (by omega) (fun h59 => ?_) (fun h59 => ?_)
                · have hn0 : b = r := by omega
                  subst hn0
                  rw [Nat.sub_self] at r5 r6 r7 h4
                  refine ww_iload O dd_MO_mapHoles_70 4 rfl ?_
                  refine ww_iload O dd_MO_mapHoles_72 5 rfl ?_
                  refine ww_iadd O dd_MO_mapHoles_74 (v := nI (b + n)) (nI_add _ _) ?_
                  refine ww_iconst O dd_MO_mapHoles_75 (v := nI 1) rfl ?_
                  refine ww_iadd O dd_MO_mapHoles_76 (v := nI ((b + n) + 1)) (nI_add _ _) ?_
                  refine ww_istore O dd_MO_mapHoles_77 (by rw [hn]; decide) rfl (L' := [(0, .ref m), (1, .int (nI a)), (2, .int (nI e)), (3, .int (px_b all)), (4, .int (nI ((b + n) + 1))), (5, .int (nI n))]) rfl ?_
                  refine ww_goto O dd_MO_mapHoles_79 (tgt := 3) rfl ?_
                  refine ww_sub [0, 1, 2, 3, 4] rfl ?_
                  exact ih _ _ _ (by omega) (by omega) (by omega) hI (by rw [show b + n + 1 = b + 1 by omega]; exact r6) (fun j g5 g6 g7 => hw2 j (by omega) g6 g7) (by rw [show b + n + 1 = b + 1 by omega]; exact h4)
                · refine ww_aload_n O dd_MO_mapHoles_62 0 rfl ?_
                  refine ww_iload O dd_MO_mapHoles_63 4 rfl ?_
                  refine ww_iload O dd_MO_mapHoles_65 5 rfl ?_
                  refine ww_callV (q0 := 0) (ci := 3) O (cc_MO_mapRow _ _ _ m a1 a2 a3 a4 a5 a6 a7 a8 cd fi le pl2 wr pg pv sz ow2 vl bf b n (fun b hb => hI.rg b hb) (fun p hp => hI.rq p hp) (fun j g5 g6 => hw2 j (by omega) (by omega) (r3 j (by omega) (by omega))) (by omega) (by omega) (by omega)) lc_MO_73 lx_MO_mapRow_II_V rfl rfl rfl (by rw [hR]; decide) (by rw [hR]; decide) (by rw [hR]; decide) rfl (Nat.le_of_ble_eq_true rfl) dd_MO_mapHoles_67 rfl [0, 1, 2, 3, 4, 5, 6, 7, 8] [] [0, 1, 2, 3, 4, 5, 6, 7, 8] rfl (by decide) rfl (by decide) (by decide) (ws' := [(m, .inr (3, [.int cd, .ref a1, .ref a2, .ref a3, .ref a4, .ref a5, .ref a6, .ref a7, .ref a8, .int fi, .int le])), (a1, .inl (ww_g X 0, 240, .inl ((px_mr 0 n b (px_cand (b % 60 == 0) pl2 b) pl2 ow2).1))), (a2, .inl (ww_g X 1, 240, .inl wr)), (a3, .inl (ww_g X 1, 240, .inl pg)), (a4, .inl (ww_g X 0, 240, .inl pv)), (a5, .inl (ww_g X 0, 4, .inl sz)), (a6, .inl (ww_g X 0, 80, .inl ((px_mr 0 n b (px_cand (b % 60 == 0) pl2 b) pl2 ow2).2))), (a7, .inl (ww_g X 0, 80, .inl vl)), (a8, .inl (ww_g X 0, 60, .inl bf))]) rfl rfl (by decide) ?_
                  refine ww_iload O dd_MO_mapHoles_70 4 rfl ?_
                  refine ww_iload O dd_MO_mapHoles_72 5 rfl ?_
                  refine ww_iadd O dd_MO_mapHoles_74 (v := nI (b + n)) (nI_add _ _) ?_
                  refine ww_iconst O dd_MO_mapHoles_75 (v := nI 1) rfl ?_
                  refine ww_iadd O dd_MO_mapHoles_76 (v := nI ((b + n) + 1)) (nI_add _ _) ?_
                  refine ww_istore O dd_MO_mapHoles_77 (by rw [hn]; decide) rfl (L' := [(0, .ref m), (1, .int (nI a)), (2, .int (nI e)), (3, .int (px_b all)), (4, .int (nI ((b + n) + 1))), (5, .int (nI n))]) rfl ?_
                  refine ww_goto O dd_MO_mapHoles_79 (tgt := 3) rfl ?_
                  refine ww_sub [0, 1, 2, 3, 4] rfl ?_
                  subst hnr
                  exact ih _ _ _ (by omega) (by omega) (by omega) r5 (by rw [show b + (r - b) + 1 = r + 1 by omega]; exact r6) (fun j g5 g6 g7 => hw2 j (by omega) g6 (by rw [← g7]; unfold px_hole; rw [r7 j (by omega)])) (by rw [show b + (r - b) + 1 = r + 1 by omega]; exact h4)
              · refine ww_iload_n O dd_MO_mapHoles_34 3 rfl ?_
                refine ww_if_neB O dd_MO_mapHoles_35 (tgt := 51) rfl (fun h35 => ?_) (fun h35 => ?_)
                · refine ww_iinc O dd_MO_mapHoles_51 5 rfl (v := nI (n + 1)) (nI_add _ 1) (by rw [hn]; decide) rfl (L' := [(0, .ref m), (1, .int (nI a)), (2, .int (nI e)), (3, .int (px_b all)), (4, .int (nI b)), (5, .int (nI (n + 1)))]) rfl ?_
                  refine ww_goto O dd_MO_mapHoles_54 (tgt := 12) rfl ?_
                  have hPb : (px_hole pl2 (b + n) && (px_on pg (b + n) || all)) = true := by simp [px_on, px_rg.lt0 (hI.rg (b + n) (by omega)) h31, h35]
                  have g4 := g3
                  rw [px_er_s, if_pos ⟨by omega, hPb⟩, show e - (b + n) - 1 = e - (b + (n + 1)) by omega, show b + n + 1 = b + (n + 1) by omega] at g4
                  have g5 := (px_er_le (fun j => px_hole pl2 j && (px_on pg j || all)) (e - (b + (n + 1))) (b + (n + 1))).1
                  exact ihj (n + 1) (by omega) (by omega) g4
                · refine ww_aload_n O dd_MO_mapHoles_38 0 rfl ?_
                  refine ww_get O ci_MO rfl 3 (by decide) lf_MO_17 rfl dd_MO_mapHoles_39 0 rfl rfl ?_
                  refine ww_iload O dd_MO_mapHoles_42 4 rfl ?_
                  refine ww_iload O dd_MO_mapHoles_44 5 rfl ?_
                  refine ww_iadd O dd_MO_mapHoles_46 (v := nI (b + n)) (nI_add _ _) ?_
                  refine ww_zald O dd_MO_mapHoles_47 3 rfl (by omega) (by decide) rfl ?_
                  refine ww_if_eq O dd_MO_mapHoles_48 (tgt := 57) rfl (fun h48 => ?_) (fun h48 => ?_)
                  · have hnr : n = r - b := by rw [← g3, px_er_s, if_neg (fun z => by have q := z.2; simp [px_on, h35, h48] at q)]; omega
                    refine ww_iload O dd_MO_mapHoles_57 5 rfl ?_
                    refine ww_if_leN O dd_MO_mapHoles_59 (tgt := 70) rfl (by omega) (fun h59 => ?_) (fun h59 => ?_)
                    · have hn0 : b = r := by omega
                      subst hn0
                      rw [Nat.sub_self] at r5 r6 r7 h4
                      refine ww_iload O dd_MO_mapHoles_70 4 rfl ?_
                      refine ww_iload O dd_MO_mapHoles_72 5 rfl ?_
                      refine ww_iadd O dd_MO_mapHoles_74 (v := nI (b + n)) (nI_add _ _) ?_
                      refine ww_iconst O dd_MO_mapHoles_75 (v := nI 1) rfl ?_
                      refine ww_iadd O dd_MO_mapHoles_76 (v := nI ((b + n) + 1)) (nI_add _ _) ?_
                      refine ww_istore O dd_MO_mapHoles_77 (by rw [hn]; decide) rfl (L' := [(0, .ref m), (1, .int (nI a)), (2, .int (nI e)), (3, .int (px_b all)), (4, .int (nI ((b + n) + 1))), (5, .int (nI n))]) rfl ?_
                      refine ww_goto O dd_MO_mapHoles_79 (tgt := 3) rfl ?_
                      refine ww_sub [0, 1, 2, 3, 4] rfl ?_
                      exact ih _ _ _ (by omega) (by omega) (by omega) hI (by rw [show b + n + 1 = b + 1 by omega]; exact r6) (fun j g5 g6 g7 => hw2 j (by omega) g6 g7) (by rw [show b + n + 1 = b + 1 by omega]; exact h4)
                    · refine ww_aload_n O dd_MO_mapHoles_62 0 rfl ?_
                      refine ww_iload O dd_MO_mapHoles_63 4 rfl ?_
                      refine ww_iload O dd_MO_mapHoles_65 5 rfl ?_
                      refine ww_callV (q0 := 0) (ci := 3) O (cc_MO_mapRow _ _ _ m a1 a2 a3 a4 a5 a6 a7 a8 cd fi le pl2 wr pg pv sz ow2 vl bf b n (fun b hb => hI.rg b hb) (fun p hp => hI.rq p hp) (fun j g5 g6 => hw2 j (by omega) (by omega) (r3 j (by omega) (by omega))) (by omega) (by omega) (by omega)) lc_MO_73 lx_MO_mapRow_II_V rfl rfl rfl (by rw [hR]; decide) (by rw [hR]; decide) (by rw [hR]; decide) rfl (Nat.le_of_ble_eq_true rfl) dd_MO_mapHoles_67 rfl [0, 1, 2, 3, 4, 5, 6, 7, 8] [] [0, 1, 2, 3, 4, 5, 6, 7, 8] rfl (by decide) rfl (by decide) (by decide) (ws' := [(m, .inr (3, [.int cd, .ref a1, .ref a2, .ref a3, .ref a4, .ref a5, .ref a6, .ref a7, .ref a8, .int fi, .int le])), (a1, .inl (ww_g X 0, 240, .inl ((px_mr 0 n b (px_cand (b % 60 == 0) pl2 b) pl2 ow2).1))), (a2, .inl (ww_g X 1, 240, .inl wr)), (a3, .inl (ww_g X 1, 240, .inl pg)), (a4, .inl (ww_g X 0, 240, .inl pv)), (a5, .inl (ww_g X 0, 4, .inl sz)), (a6, .inl (ww_g X 0, 80, .inl ((px_mr 0 n b (px_cand (b % 60 == 0) pl2 b) pl2 ow2).2))), (a7, .inl (ww_g X 0, 80, .inl vl)), (a8, .inl (ww_g X 0, 60, .inl bf))]) rfl rfl (by decide) ?_
                      refine ww_iload O dd_MO_mapHoles_70 4 rfl ?_
                      refine ww_iload O dd_MO_mapHoles_72 5 rfl ?_
                      refine ww_iadd O dd_MO_mapHoles_74 (v := nI (b + n)) (nI_add _ _) ?_
                      refine ww_iconst O dd_MO_mapHoles_75 (v := nI 1) rfl ?_
                      refine ww_iadd O dd_MO_mapHoles_76 (v := nI ((b + n) + 1)) (nI_add _ _) ?_
                      refine ww_istore O dd_MO_mapHoles_77 (by rw [hn]; decide) rfl (L' := [(0, .ref m), (1, .int (nI a)), (2, .int (nI e)), (3, .int (px_b all)), (4, .int (nI ((b + n) + 1))), (5, .int (nI n))]) rfl ?_
                      refine ww_goto O dd_MO_mapHoles_79 (tgt := 3) rfl ?_
                      refine ww_sub [0, 1, 2, 3, 4] rfl ?_
                      subst hnr
                      exact ih _ _ _ (by omega) (by omega) (by omega) r5 (by rw [show b + (r - b) + 1 = r + 1 by omega]; exact r6) (fun j g5 g6 g7 => hw2 j (by omega) g6 (by rw [← g7]; unfold px_hole; rw [r7 j (by omega)])) (by rw [show b + (r - b) + 1 = r + 1 by omega]; exact h4)
                  · refine ww_iinc O dd_MO_mapHoles_51 5 rfl (v := nI (n + 1)) (nI_add _ 1) (by rw [hn]; decide) rfl (L' := [(0, .ref m), (1, .int (nI a)), (2, .int (nI e)), (3, .int (px_b all)), (4, .int (nI b)), (5, .int (nI (n + 1)))]) rfl ?_
                    refine ww_goto O dd_MO_mapHoles_54 (tgt := 12) rfl ?_
                    have hPb : (px_hole pl2 (b + n) && (px_on pg (b + n) || all)) = true := by simp [px_on, px_rg.lt0 (hI.rg (b + n) (by omega)) h31, h48]
                    have g4 := g3
                    rw [px_er_s, if_pos ⟨by omega, hPb⟩, show e - (b + n) - 1 = e - (b + (n + 1)) by omega, show b + n + 1 = b + (n + 1) by omega] at g4
                    have g5 := (px_er_le (fun j => px_hole pl2 j && (px_on pg j || all)) (e - (b + (n + 1))) (b + (n + 1))).1
                    exact ihj (n + 1) (by omega) (by omega) g4
        exact inner e 0 (by omega) (by omega) (by rw [Nat.add_zero]; exact hr2)
  refine ww_iload_n O dd_MO_mapHoles_0 1 rfl ?_
  refine ww_istore O dd_MO_mapHoles_1 (by rw [hn]; decide) rfl (L' := [(0, .ref m), (1, .int (nI a)), (2, .int (nI e)), (3, .int (px_b all)), (4, .int (nI a))]) rfl ?_
  exact loop 60 a pl ow (by omega) (by omega) (by omega) hI hnu hw hT
set_option maxRecDepth 4000 in
theorem cc_MO_empty (l : Launch) (D : va_G) (g : Nat → ClassId) (m : Nat) (a1 : Nat) (a2 : Nat) (a3 : Nat) (a4 : Nat) (a5 : Nat) (a6 : Nat) (a7 : Nat) (a8 : Nat) (cd : Int32) (fi : Int32) (le : Int32) (pl : Nat → Int32) (wr : Nat → Int32) (pg : Nat → Int32) (pv : Nat → Int32) (sz : Nat → Int32) (ow : Nat → Int32) (vl : Nat → Int32) (bf : Nat → Int32) (a : Nat) (e : Nat) (hr : ∀ b, b < 240 → px_rg (pl b)) (ha : a ≤ e) (he : e ≤ 240) : ww_ct l D g yy_MO_empty bb_MO_empty 5 (some .int) (ww_rm 2) [.ref m, .int (nI a), .int (nI e)] [(m, .inr (3, [.int cd, .ref a1, .ref a2, .ref a3, .ref a4, .ref a5, .ref a6, .ref a7, .ref a8, .int fi, .int le])), (a1, .inl (g 0, 240, .inl pl)), (a2, .inl (g 1, 240, .inl wr)), (a3, .inl (g 1, 240, .inl pg)), (a4, .inl (g 0, 240, .inl pv)), (a5, .inl (g 0, 4, .inl sz)), (a6, .inl (g 0, 80, .inl ow)), (a7, .inl (g 0, 80, .inl vl)), (a8, .inl (g 0, 60, .inl bf))] (some (.int (nI (px_cnt (fun j => !px_hole pl j) a (e - a))))) [(m, .inr (3, [.int cd, .ref a1, .ref a2, .ref a3, .ref a4, .ref a5, .ref a6, .ref a7, .ref a8, .int fi, .int le])), (a1, .inl (g 0, 240, .inl (px_fill pl (a) (e - (a)) (-1)))), (a2, .inl (g 1, 240, .inl (px_fill wr (a) (e - (a)) (nI 0)))), (a3, .inl (g 1, 240, .inl (px_fill pg (a) (e - (a)) (nI 0)))), (a4, .inl (g 0, 240, .inl pv)), (a5, .inl (g 0, 4, .inl sz)), (a6, .inl (g 0, 80, .inl (px_rel (fun _ => true) pl (e - (a)) (a) ow))), (a7, .inl (g 0, 80, .inl vl)), (a8, .inl (g 0, 60, .inl bf))] := by
  refine ww_start (by decide +kernel) rfl rfl (Nat.le_of_ble_eq_true rfl) (L0 := [(0, .ref m), (1, .int (nI a)), (2, .int (nI e))]) rfl ?_
  intro X O hl hD hg hR hn F
  subst hl hD hg
  generalize hT : px_rel (fun _ => true) pl (e - a) a ow = T at F
  have loop : ∀ (k b n : Nat) (ow2 : Nat → Int32), e ≤ b + k → a ≤ b → b ≤ e → n = px_cnt (fun j => !px_hole pl j) a (b - a) → px_rel (fun _ => true) pl (e - b) b ow2 = T → ww_at X 0 0 5 [(0, .ref m), (1, .int (nI a)), (2, .int (nI e)), (3, .int (nI n)), (4, .int (nI b))] [] [(m, .inr (3, [.int cd, .ref a1, .ref a2, .ref a3, .ref a4, .ref a5, .ref a6, .ref a7, .ref a8, .int fi, .int le])), (a1, .inl (ww_g X 0, 240, .inl (px_fill pl a (b - a) (-1)))), (a2, .inl (ww_g X 1, 240, .inl (px_fill wr a (b - a) (nI 0)))), (a3, .inl (ww_g X 1, 240, .inl (px_fill pg a (b - a) (nI 0)))), (a4, .inl (ww_g X 0, 240, .inl pv)), (a5, .inl (ww_g X 0, 4, .inl sz)), (a6, .inl (ww_g X 0, 80, .inl ow2)), (a7, .inl (ww_g X 0, 80, .inl vl)), (a8, .inl (ww_g X 0, 60, .inl bf))] := by
    intro k
    induction k with
    | zero =>
      intro b n ow2 h1 h2 h3 h5 h4
      have hn9 := px_cnt_le (fun j => !px_hole pl j) a (b - a)
      refine ww_iload O dd_MO_empty_5 4 rfl ?_
      refine ww_iload_n O dd_MO_empty_7 2 rfl ?_
      refine ww_icmp_geN O dd_MO_empty_8 (tgt := 49) rfl (by omega) (by omega) (fun h8 => ?_) (fun h8 => ?_)
      · refine ww_iload_n O dd_MO_empty_49 3 rfl ?_
        have eb : b = e := by omega
        subst eb
        rw [Nat.sub_self] at h4
        subst h4
        subst h5
        exact F.i dd_MO_empty_50
      · exfalso; omega
    | succ k ih =>
      intro b n ow2 h1 h2 h3 h5 h4
      have hn9 := px_cnt_le (fun j => !px_hole pl j) a (b - a)
      refine ww_iload O dd_MO_empty_5 4 rfl ?_
      refine ww_iload_n O dd_MO_empty_7 2 rfl ?_
      refine ww_icmp_geN O dd_MO_empty_8 (tgt := 49) rfl (by omega) (by omega) (fun h8 => ?_) (fun h8 => ?_)
      · refine ww_iload_n O dd_MO_empty_49 3 rfl ?_
        have eb : b = e := by omega
        subst eb
        rw [Nat.sub_self] at h4
        subst h4
        subst h5
        exact F.i dd_MO_empty_50
      · refine ww_aload_n O dd_MO_empty_11 0 rfl ?_
        refine ww_get O ci_MO rfl 1 (by decide) lf_MO_7 rfl dd_MO_empty_12 0 rfl rfl ?_
        refine ww_iload O dd_MO_empty_15 4 rfl ?_
        refine ww_iald O dd_MO_empty_17 1 rfl (by omega) (by decide) rfl ?_
        rw [px_fill_o (by omega)]
        refine ww_if_lt O dd_MO_empty_18 (tgt := 27) rfl (fun h18 => ?_) (fun h18 => ?_)
        · refine ww_iload_n O dd_MO_empty_27 3 rfl ?_
          refine ww_istore_n O dd_MO_empty_28 (by rw [hn]; decide) rfl (L' := [(0, .ref m), (1, .int (nI a)), (2, .int (nI e)), (3, .int (nI n)), (4, .int (nI b))]) rfl ?_
          refine ww_aload_n O dd_MO_empty_29 0 rfl ?_
          refine ww_iload O dd_MO_empty_30 4 rfl ?_
          refine ww_callV (q0 := 0) (ci := 3) O (cc_MO_unmap _ _ _ m a1 a2 a3 a4 a5 a6 a7 a8 cd fi le (px_fill pl a (b - a) (-1)) (px_fill wr a (b - a) (nI 0)) (px_fill pg a (b - a) (nI 0)) pv sz ow2 vl bf b (by rw [px_fill_o (by omega)]; exact hr b (by omega)) (by omega)) lc_MO_96 lx_MO_unmap_I_V rfl rfl rfl (by rw [hR]; decide) (by rw [hR]; decide) (by rw [hR]; decide) rfl (Nat.le_of_ble_eq_true rfl) dd_MO_empty_32 rfl [0, 1, 2, 3, 4, 5, 6, 7, 8] [] [0, 1, 2, 3, 4, 5, 6, 7, 8] rfl (by decide) rfl (by decide) (by decide) (ws' := [(m, .inr (3, [.int cd, .ref a1, .ref a2, .ref a3, .ref a4, .ref a5, .ref a6, .ref a7, .ref a8, .int fi, .int le])), (a1, .inl (ww_g X 0, 240, .inl (upd (px_fill pl a (b - a) (-1)) b (-1)))), (a2, .inl (ww_g X 1, 240, .inl (upd (px_fill wr a (b - a) (nI 0)) b (nI 0)))), (a3, .inl (ww_g X 1, 240, .inl (px_fill pg a (b - a) (nI 0)))), (a4, .inl (ww_g X 0, 240, .inl pv)), (a5, .inl (ww_g X 0, 4, .inl sz)), (a6, .inl (ww_g X 0, 80, .inl (if px_hole (px_fill pl a (b - a) (-1)) b = true then ow2 else upd ow2 ((px_fill pl a (b - a) (-1)) b).toNatClampNeg (-1)))), (a7, .inl (ww_g X 0, 80, .inl vl)), (a8, .inl (ww_g X 0, 60, .inl bf))]) rfl rfl (by decide) ?_
          refine ww_aload_n O dd_MO_empty_35 0 rfl ?_
          refine ww_get O ci_MO rfl 3 (by decide) lf_MO_17 rfl dd_MO_empty_36 0 rfl rfl ?_
          refine ww_iload O dd_MO_empty_39 4 rfl ?_
          refine ww_iconst O dd_MO_empty_41 (v := nI 0) rfl ?_
          refine ww_zast O dd_MO_empty_42 3 rfl (by omega) (by decide) rfl (ws' := [(m, .inr (3, [.int cd, .ref a1, .ref a2, .ref a3, .ref a4, .ref a5, .ref a6, .ref a7, .ref a8, .int fi, .int le])), (a1, .inl (ww_g X 0, 240, .inl (upd (px_fill pl a (b - a) (-1)) b (-1)))), (a2, .inl (ww_g X 1, 240, .inl (upd (px_fill wr a (b - a) (nI 0)) b (nI 0)))), (a3, .inl (ww_g X 1, 240, .inl (upd (px_fill pg a (b - a) (nI 0)) b (nI 0)))), (a4, .inl (ww_g X 0, 240, .inl pv)), (a5, .inl (ww_g X 0, 4, .inl sz)), (a6, .inl (ww_g X 0, 80, .inl (if px_hole (px_fill pl a (b - a) (-1)) b = true then ow2 else upd ow2 ((px_fill pl a (b - a) (-1)) b).toNatClampNeg (-1)))), (a7, .inl (ww_g X 0, 80, .inl vl)), (a8, .inl (ww_g X 0, 60, .inl bf))]) rfl ?_
          refine ww_iinc O dd_MO_empty_43 4 rfl (v := nI (b + 1)) (nI_add _ 1) (by rw [hn]; decide) rfl (L' := [(0, .ref m), (1, .int (nI a)), (2, .int (nI e)), (3, .int (nI n)), (4, .int (nI (b + 1)))]) rfl ?_
          refine ww_goto O dd_MO_empty_46 (tgt := 5) rfl ?_
          rw [px_fill_sa h2, px_fill_sa h2, px_fill_sa h2, px_hole_fl (by omega), px_fill_o (by omega)]
          exact ih (b + 1) n _ (by omega) (by omega) (by omega) (px_caf h2 h5 (by simp [(hr b (by omega)).lt h18])) (by rw [← h4, px_rel_s (b := b) (by omega), (hr b (by omega)).lt h18]; rfl)
        · refine ww_iload_n O dd_MO_empty_21 3 rfl ?_
          refine ww_iconst O dd_MO_empty_22 (v := nI 1) rfl ?_
          refine ww_iadd O dd_MO_empty_23 (v := nI (n + 1)) (nI_add _ _) ?_
          refine ww_goto O dd_MO_empty_24 (tgt := 28) rfl ?_
          refine ww_istore_n O dd_MO_empty_28 (by rw [hn]; decide) rfl (L' := [(0, .ref m), (1, .int (nI a)), (2, .int (nI e)), (3, .int (nI (n + 1))), (4, .int (nI b))]) rfl ?_
          refine ww_aload_n O dd_MO_empty_29 0 rfl ?_
          refine ww_iload O dd_MO_empty_30 4 rfl ?_
          refine ww_callV (q0 := 0) (ci := 3) O (cc_MO_unmap _ _ _ m a1 a2 a3 a4 a5 a6 a7 a8 cd fi le (px_fill pl a (b - a) (-1)) (px_fill wr a (b - a) (nI 0)) (px_fill pg a (b - a) (nI 0)) pv sz ow2 vl bf b (by rw [px_fill_o (by omega)]; exact hr b (by omega)) (by omega)) lc_MO_96 lx_MO_unmap_I_V rfl rfl rfl (by rw [hR]; decide) (by rw [hR]; decide) (by rw [hR]; decide) rfl (Nat.le_of_ble_eq_true rfl) dd_MO_empty_32 rfl [0, 1, 2, 3, 4, 5, 6, 7, 8] [] [0, 1, 2, 3, 4, 5, 6, 7, 8] rfl (by decide) rfl (by decide) (by decide) (ws' := [(m, .inr (3, [.int cd, .ref a1, .ref a2, .ref a3, .ref a4, .ref a5, .ref a6, .ref a7, .ref a8, .int fi, .int le])), (a1, .inl (ww_g X 0, 240, .inl (upd (px_fill pl a (b - a) (-1)) b (-1)))), (a2, .inl (ww_g X 1, 240, .inl (upd (px_fill wr a (b - a) (nI 0)) b (nI 0)))), (a3, .inl (ww_g X 1, 240, .inl (px_fill pg a (b - a) (nI 0)))), (a4, .inl (ww_g X 0, 240, .inl pv)), (a5, .inl (ww_g X 0, 4, .inl sz)), (a6, .inl (ww_g X 0, 80, .inl (if px_hole (px_fill pl a (b - a) (-1)) b = true then ow2 else upd ow2 ((px_fill pl a (b - a) (-1)) b).toNatClampNeg (-1)))), (a7, .inl (ww_g X 0, 80, .inl vl)), (a8, .inl (ww_g X 0, 60, .inl bf))]) rfl rfl (by decide) ?_
          refine ww_aload_n O dd_MO_empty_35 0 rfl ?_
          refine ww_get O ci_MO rfl 3 (by decide) lf_MO_17 rfl dd_MO_empty_36 0 rfl rfl ?_
          refine ww_iload O dd_MO_empty_39 4 rfl ?_
          refine ww_iconst O dd_MO_empty_41 (v := nI 0) rfl ?_
          refine ww_zast O dd_MO_empty_42 3 rfl (by omega) (by decide) rfl (ws' := [(m, .inr (3, [.int cd, .ref a1, .ref a2, .ref a3, .ref a4, .ref a5, .ref a6, .ref a7, .ref a8, .int fi, .int le])), (a1, .inl (ww_g X 0, 240, .inl (upd (px_fill pl a (b - a) (-1)) b (-1)))), (a2, .inl (ww_g X 1, 240, .inl (upd (px_fill wr a (b - a) (nI 0)) b (nI 0)))), (a3, .inl (ww_g X 1, 240, .inl (upd (px_fill pg a (b - a) (nI 0)) b (nI 0)))), (a4, .inl (ww_g X 0, 240, .inl pv)), (a5, .inl (ww_g X 0, 4, .inl sz)), (a6, .inl (ww_g X 0, 80, .inl (if px_hole (px_fill pl a (b - a) (-1)) b = true then ow2 else upd ow2 ((px_fill pl a (b - a) (-1)) b).toNatClampNeg (-1)))), (a7, .inl (ww_g X 0, 80, .inl vl)), (a8, .inl (ww_g X 0, 60, .inl bf))]) rfl ?_
          refine ww_iinc O dd_MO_empty_43 4 rfl (v := nI (b + 1)) (nI_add _ 1) (by rw [hn]; decide) rfl (L' := [(0, .ref m), (1, .int (nI a)), (2, .int (nI e)), (3, .int (nI (n + 1))), (4, .int (nI (b + 1)))]) rfl ?_
          refine ww_goto O dd_MO_empty_46 (tgt := 5) rfl ?_
          rw [px_fill_sa h2, px_fill_sa h2, px_fill_sa h2, px_hole_fl (by omega), px_fill_o (by omega)]
          exact ih (b + 1) (n + 1) _ (by omega) (by omega) (by omega) (px_cat h2 h5 (by simp [(hr b (by omega)).ge h18])) (by rw [← h4, px_rel_s (b := b) (by omega), (hr b (by omega)).ge h18]; rfl)
  have h0 := loop e a 0 ow (by omega) (by omega) (by omega) (by rw [Nat.sub_self]; rfl) hT
  rw [Nat.sub_self, px_fill_0, px_fill_0, px_fill_0] at h0
  refine ww_iconst O dd_MO_empty_0 (v := nI 0) rfl ?_
  refine ww_istore_n O dd_MO_empty_1 (by rw [hn]; decide) rfl (L' := [(0, .ref m), (1, .int (nI a)), (2, .int (nI e)), (3, .int (nI 0))]) rfl ?_
  refine ww_iload_n O dd_MO_empty_2 1 rfl ?_
  refine ww_istore O dd_MO_empty_3 (by rw [hn]; decide) rfl (L' := [(0, .ref m), (1, .int (nI a)), (2, .int (nI e)), (3, .int (nI 0)), (4, .int (nI a))]) rfl ?_
  exact h0
