theorem lc_BF_75 : ww_site "DelayedExtents$BlockFile" 75 yy_BF_extentLength bb_BF_extentLength 4 (some .int) 1 := ⟨List.mem_filter.mpr ⟨List.mem_of_getElem? (i := 148) (by decide +kernel), by decide +kernel⟩, List.mem_filter.mpr ⟨List.mem_of_getElem? (i := 145) (by decide +kernel), by decide +kernel⟩, List.mem_filter.mpr ⟨List.mem_of_getElem? (i := 29) (by decide +kernel), by decide +kernel⟩, by decide, by decide, by decide +kernel⟩
theorem lx_BF_extentLength_I_I : ww_virt yy_BF_extentLength := ⟨List.mem_filter.mpr ⟨List.mem_of_getElem? (i := 146) (by decide +kernel), by decide +kernel⟩, List.mem_filter.mpr ⟨List.mem_of_getElem? (i := 147) (by decide +kernel), by decide +kernel⟩⟩
theorem lc_BF_68 : ww_site "DelayedExtents$BlockFile" 68 yy_BF_countExtents bb_BF_countExtents 4 (some .int) 0 := ⟨List.mem_filter.mpr ⟨List.mem_of_getElem? (i := 144) (by decide +kernel), by decide +kernel⟩, List.mem_filter.mpr ⟨List.mem_of_getElem? (i := 170) (by decide +kernel), by decide +kernel⟩, List.mem_filter.mpr ⟨List.mem_of_getElem? (i := 29) (by decide +kernel), by decide +kernel⟩, by decide, by decide, by decide +kernel⟩
theorem lx_BF_countExtents__I : ww_virt yy_BF_countExtents := ⟨List.mem_filter.mpr ⟨List.mem_of_getElem? (i := 142) (by decide +kernel), by decide +kernel⟩, List.mem_filter.mpr ⟨List.mem_of_getElem? (i := 143) (by decide +kernel), by decide +kernel⟩⟩
theorem ln_BF_72 : Cond.code yy_DE_treeBlocks bb_DE_treeBlocks 1 (some .int) ∈ lw_good ∧ Cond.methodLinkNest "DelayedExtents$BlockFile" 72 yy_DE_treeBlocks "DelayedExtents" ∈ cx_nw ∧ Cond.initialized yy_DE_treeBlocks.cls ∈ lw_good ∧ (yy_DE_treeBlocks.cls ≠ "java/lang/invoke/MethodHandle" ∧ yy_DE_treeBlocks.cls ≠ "java/lang/invoke/VarHandle" ∧ (parseMethodDescriptor yy_DE_treeBlocks.desc).map (fun d => d.parameters.length) = some 1) := ⟨List.mem_filter.mpr ⟨List.mem_of_getElem? (i := 161) (by decide +kernel), by decide +kernel⟩, by decide +kernel, List.mem_filter.mpr ⟨List.mem_of_getElem? (i := 26) (by decide +kernel), by decide +kernel⟩, by decide, by decide, by decide +kernel⟩
theorem ls_DE_treeBlocks_I_I : Cond.static yy_DE_treeBlocks ∈ lw_good := List.mem_filter.mpr ⟨List.mem_of_getElem? (i := 160) (by decide +kernel), by decide +kernel⟩
set_option maxRecDepth 4000 in
theorem cc_BF_countExtents (l : Launch) (D : va_G) (g : Nat → ClassId) (h : Nat) (v : Nat) (fo : Nat) (ap : Nat) (aw : Nat) (ag : Nat) (av : Nat) (an : Nat) (vo : Nat) (vv : Nat) (sz : Int32) (pl : Nat → Int32) (wr : Nat → Int32) (pg : Nat → Int32) (pv : Nat → Int32) (nt : Nat → Int32) (ow : Nat → Int32) (vl : Nat → Int32) (hr : px_rng pl 0 60) : ww_ct l D g yy_BF_countExtents bb_BF_countExtents 4 (some .int) (ww_rm 3) [.ref h] [(h, .inr (0, [.ref v, .int (nI fo), .ref ap, .ref aw, .ref ag, .ref av, .ref an, .int sz])), (ap, .inl (g 0, 60, .inl pl)), (aw, .inl (g 1, 60, .inl wr)), (ag, .inl (g 1, 60, .inl pg)), (av, .inl (g 0, 60, .inl pv)), (an, .inl (g 1, 60, .inl nt)), (v, .inr (1, [.ref vo, .ref vv])), (vo, .inl (g 0, 80, .inl ow)), (vv, .inl (g 0, 80, .inl vl))] (some (.int (nI (px_ee pl wr 0)))) [(h, .inr (0, [.ref v, .int (nI fo), .ref ap, .ref aw, .ref ag, .ref av, .ref an, .int sz])), (ap, .inl (g 0, 60, .inl pl)), (aw, .inl (g 1, 60, .inl wr)), (ag, .inl (g 1, 60, .inl pg)), (av, .inl (g 0, 60, .inl pv)), (an, .inl (g 1, 60, .inl nt)), (v, .inr (1, [.ref vo, .ref vv])), (vo, .inl (g 0, 80, .inl ow)), (vv, .inl (g 0, 80, .inl vl))] := by
  refine ww_start (by decide +kernel) rfl rfl (Nat.le_of_ble_eq_true rfl) (L0 := [(0, .ref h)]) rfl ?_
  intro X O hl hD hg hR hn F
  subst hl hD hg
  have loop : ∀ (k b n : Nat), 60 ≤ b + k → b ≤ 60 → n + px_ex pl wr (60 - b) b 0 = px_ee pl wr 0 → ww_at X 0 0 4 [(0, .ref h), (1, .int (nI n)), (2, .int (nI b))] [] [(h, .inr (0, [.ref v, .int (nI fo), .ref ap, .ref aw, .ref ag, .ref av, .ref an, .int sz])), (ap, .inl (ww_g X 0, 60, .inl pl)), (aw, .inl (ww_g X 1, 60, .inl wr)), (ag, .inl (ww_g X 1, 60, .inl pg)), (av, .inl (ww_g X 0, 60, .inl pv)), (an, .inl (ww_g X 1, 60, .inl nt)), (v, .inr (1, [.ref vo, .ref vv])), (vo, .inl (ww_g X 0, 80, .inl ow)), (vv, .inl (ww_g X 0, 80, .inl vl))] := by
    intro k
    induction k with
    | zero =>
      intro b n h1 h2 h3
      have hn60 := px_ex_le pl wr 60 0 0
      have hnb : n ≤ 60 := by unfold px_ee at h3; omega
      refine ww_iload_n O dd_BF_countExtents_4 2 rfl ?_
      refine ww_bipush O dd_BF_countExtents_5 (v := nI 60) rfl ?_
      refine ww_icmp_geN O dd_BF_countExtents_7 (tgt := 34) rfl (by omega) (by omega) (fun h7 => ?_) (fun h7 => ?_)
      · refine ww_iload_n O dd_BF_countExtents_34 1 rfl ?_
        rw [show px_ee pl wr 0 = n from by rw [← h3, show 60 - b = 0 by omega]; rfl] at F
        exact F.i dd_BF_countExtents_35
      · exfalso; omega
    | succ k ih =>
      intro b n h1 h2 h3
      have hn60 := px_ex_le pl wr 60 0 0
      have hnb : n ≤ 60 := by unfold px_ee at h3; omega
      refine ww_iload_n O dd_BF_countExtents_4 2 rfl ?_
      refine ww_bipush O dd_BF_countExtents_5 (v := nI 60) rfl ?_
      refine ww_icmp_geN O dd_BF_countExtents_7 (tgt := 34) rfl (by omega) (by omega) (fun h7 => ?_) (fun h7 => ?_)
      · refine ww_iload_n O dd_BF_countExtents_34 1 rfl ?_
        rw [show px_ee pl wr 0 = n from by rw [← h3, show 60 - b = 0 by omega]; rfl] at F
        exact F.i dd_BF_countExtents_35
      · refine ww_aload_n O dd_BF_countExtents_10 0 rfl ?_
        refine ww_iload_n O dd_BF_countExtents_11 2 rfl ?_
        refine ww_callV (q0 := 0) (ci := 0) O (cc_BF_extentLength _ _ _ h v fo ap aw ag av an vo vv sz pl wr pg pv nt ow vl b (by omega)) lc_BF_75 lx_BF_extentLength_I_I rfl rfl rfl (by rw [hR]; decide) (by rw [hR]; decide) (by rw [hR]; decide) rfl (Nat.le_of_ble_eq_true rfl) dd_BF_countExtents_12 rfl [0, 1, 2, 3, 4, 5, 6, 7, 8] [] [0, 1, 2, 3, 4, 5, 6, 7, 8] rfl (by decide) rfl (by decide) (by decide) (ws' := [(h, .inr (0, [.ref v, .int (nI fo), .ref ap, .ref aw, .ref ag, .ref av, .ref an, .int sz])), (ap, .inl (ww_g X 0, 60, .inl pl)), (aw, .inl (ww_g X 1, 60, .inl wr)), (ag, .inl (ww_g X 1, 60, .inl pg)), (av, .inl (ww_g X 0, 60, .inl pv)), (an, .inl (ww_g X 1, 60, .inl nt)), (v, .inr (1, [.ref vo, .ref vv])), (vo, .inl (ww_g X 0, 80, .inl ow)), (vv, .inl (ww_g X 0, 80, .inl vl))]) rfl rfl (by decide) ?_
        have hl1 := px_len_le (pl := pl) (wr := wr) (b := b) (by omega)
        have hl2 := px_ex_len (wr := wr) hr (b := b) (by omega)
        generalize px_len pl wr b = z at hl1 hl2 ⊢
        refine ww_istore_n O dd_BF_countExtents_15 (by rw [hn]; decide) rfl (L' := [(0, .ref h), (1, .int (nI n)), (2, .int (nI b)), (3, .int (nI z))]) rfl ?_
        refine ww_iload_n O dd_BF_countExtents_16 3 rfl ?_
        refine ww_if_leN O dd_BF_countExtents_17 (tgt := 23) rfl (by omega) (fun h17 => ?_) (fun h17 => ?_)
        · refine ww_iload_n O dd_BF_countExtents_23 2 rfl ?_
          refine ww_iload_n O dd_BF_countExtents_24 3 rfl ?_
          refine ww_iconst O dd_BF_countExtents_25 (v := nI 1) rfl ?_
          refine ww_max O lm_BF_45 lk_Math_max (by rw [hR]; decide) (by rw [hR]; exact Nat.le_of_ble_eq_true rfl) (by rw [hR]; decide) (by rw [hR]; decide) dd_BF_countExtents_26 (v := nI (max z 1)) (px_max (by omega) (by omega)) ?_
          refine ww_iadd O dd_BF_countExtents_29 (v := nI (b + (max z 1))) (nI_add _ _) ?_
          refine ww_istore_n O dd_BF_countExtents_30 (by rw [hn]; decide) rfl (L' := [(0, .ref h), (1, .int (nI n)), (2, .int (nI (b + (max z 1)))), (3, .int (nI z))]) rfl ?_
          refine ww_goto O dd_BF_countExtents_31 (tgt := 4) rfl ?_
          refine ww_sub [0, 1, 2] rfl ?_
          exact ih _ _ (by omega) (by omega) (by rw [← h3, hl2]; rw [if_neg (by omega)]; omega)
        · refine ww_iinc O dd_BF_countExtents_20 1 rfl (v := nI (n + 1)) (nI_add _ 1) (by rw [hn]; decide) rfl (L' := [(0, .ref h), (1, .int (nI (n + 1))), (2, .int (nI b)), (3, .int (nI z))]) rfl ?_
          refine ww_iload_n O dd_BF_countExtents_23 2 rfl ?_
          refine ww_iload_n O dd_BF_countExtents_24 3 rfl ?_
          refine ww_iconst O dd_BF_countExtents_25 (v := nI 1) rfl ?_
          refine ww_max O lm_BF_45 lk_Math_max (by rw [hR]; decide) (by rw [hR]; exact Nat.le_of_ble_eq_true rfl) (by rw [hR]; decide) (by rw [hR]; decide) dd_BF_countExtents_26 (v := nI (max z 1)) (px_max (by omega) (by omega)) ?_
          refine ww_iadd O dd_BF_countExtents_29 (v := nI (b + (max z 1))) (nI_add _ _) ?_
          refine ww_istore_n O dd_BF_countExtents_30 (by rw [hn]; decide) rfl (L' := [(0, .ref h), (1, .int (nI (n + 1))), (2, .int (nI (b + (max z 1)))), (3, .int (nI z))]) rfl ?_
          refine ww_goto O dd_BF_countExtents_31 (tgt := 4) rfl ?_
          refine ww_sub [0, 1, 2] rfl ?_
          exact ih _ _ (by omega) (by omega) (by rw [← h3, hl2]; rw [if_pos (by omega)]; omega)
  refine ww_iconst O dd_BF_countExtents_0 (v := nI 0) rfl ?_
  refine ww_istore_n O dd_BF_countExtents_1 (by rw [hn]; decide) rfl (L' := [(0, .ref h), (1, .int (nI 0))]) rfl ?_
  refine ww_iconst O dd_BF_countExtents_2 (v := nI 0) rfl ?_
  refine ww_istore_n O dd_BF_countExtents_3 (by rw [hn]; decide) rfl (L' := [(0, .ref h), (1, .int (nI 0)), (2, .int (nI 0))]) rfl ?_
  exact loop 60 0 0 (by omega) (by omega) (Nat.zero_add _)
set_option maxRecDepth 4000 in
theorem cc_BF_first_neg (l : Launch) (D : va_G) (g : Nat → ClassId) (h : Nat) (v : Nat) (fo : Nat) (ap : Nat) (aw : Nat) (ag : Nat) (av : Nat) (an : Nat) (vo : Nat) (vv : Nat) (sz : Int32) (pl : Nat → Int32) (wr : Nat → Int32) (pg : Nat → Int32) (pv : Nat → Int32) (nt : Nat → Int32) (ow : Nat → Int32) (vl : Nat → Int32) (x : Int32) (hx : x < 0) : ww_ct l D g yy_BF_firstBlockOfExtent bb_BF_firstBlockOfExtent 5 (some .int) (ww_rm 3) [.ref h, .int x] [(h, .inr (0, [.ref v, .int (nI fo), .ref ap, .ref aw, .ref ag, .ref av, .ref an, .int sz])), (ap, .inl (g 0, 60, .inl pl)), (aw, .inl (g 1, 60, .inl wr)), (ag, .inl (g 1, 60, .inl pg)), (av, .inl (g 0, 60, .inl pv)), (an, .inl (g 1, 60, .inl nt)), (v, .inr (1, [.ref vo, .ref vv])), (vo, .inl (g 0, 80, .inl ow)), (vv, .inl (g 0, 80, .inl vl))] (some (.int (-1))) [(h, .inr (0, [.ref v, .int (nI fo), .ref ap, .ref aw, .ref ag, .ref av, .ref an, .int sz])), (ap, .inl (g 0, 60, .inl pl)), (aw, .inl (g 1, 60, .inl wr)), (ag, .inl (g 1, 60, .inl pg)), (av, .inl (g 0, 60, .inl pv)), (an, .inl (g 1, 60, .inl nt)), (v, .inr (1, [.ref vo, .ref vv])), (vo, .inl (g 0, 80, .inl ow)), (vv, .inl (g 0, 80, .inl vl))] := by
  refine ww_start (by decide +kernel) rfl rfl (Nat.le_of_ble_eq_true rfl) (L0 := [(0, .ref h), (1, .int x)]) rfl ?_
  intro X O hl hD hg hR hn F
  subst hl hD hg
  have loop : ∀ (k b n : Nat), 60 ≤ b + k → b ≤ 60 → n ≤ b → True → ww_at X 0 0 4 [(0, .ref h), (1, .int x), (2, .int (nI n)), (3, .int (nI b))] [] [(h, .inr (0, [.ref v, .int (nI fo), .ref ap, .ref aw, .ref ag, .ref av, .ref an, .int sz])), (ap, .inl (ww_g X 0, 60, .inl pl)), (aw, .inl (ww_g X 1, 60, .inl wr)), (ag, .inl (ww_g X 1, 60, .inl pg)), (av, .inl (ww_g X 0, 60, .inl pv)), (an, .inl (ww_g X 1, 60, .inl nt)), (v, .inr (1, [.ref vo, .ref vv])), (vo, .inl (ww_g X 0, 80, .inl ow)), (vv, .inl (ww_g X 0, 80, .inl vl))] := by
    intro k
    induction k with
    | zero =>
      intro b n h1 h2 hn2 h3
      refine ww_iload_n O dd_BF_firstBlockOfExtent_4 3 rfl ?_
      refine ww_bipush O dd_BF_firstBlockOfExtent_5 (v := nI 60) rfl ?_
      refine ww_icmp_geN O dd_BF_firstBlockOfExtent_7 (tgt := 44) rfl (by omega) (by omega) (fun h7 => ?_) (fun h7 => ?_)
      · refine ww_iconst O dd_BF_firstBlockOfExtent_44 (v := (-1)) rfl ?_
        exact F.i dd_BF_firstBlockOfExtent_45
      · exfalso; omega
    | succ k ih =>
      intro b n h1 h2 hn2 h3
      refine ww_iload_n O dd_BF_firstBlockOfExtent_4 3 rfl ?_
      refine ww_bipush O dd_BF_firstBlockOfExtent_5 (v := nI 60) rfl ?_
      refine ww_icmp_geN O dd_BF_firstBlockOfExtent_7 (tgt := 44) rfl (by omega) (by omega) (fun h7 => ?_) (fun h7 => ?_)
      · refine ww_iconst O dd_BF_firstBlockOfExtent_44 (v := (-1)) rfl ?_
        exact F.i dd_BF_firstBlockOfExtent_45
      · refine ww_aload_n O dd_BF_firstBlockOfExtent_10 0 rfl ?_
        refine ww_iload_n O dd_BF_firstBlockOfExtent_11 3 rfl ?_
        refine ww_callV (q0 := 0) (ci := 0) O (cc_BF_extentLength _ _ _ h v fo ap aw ag av an vo vv sz pl wr pg pv nt ow vl b (by omega)) lc_BF_75 lx_BF_extentLength_I_I rfl rfl rfl (by rw [hR]; decide) (by rw [hR]; decide) (by rw [hR]; decide) rfl (Nat.le_of_ble_eq_true rfl) dd_BF_firstBlockOfExtent_12 rfl [0, 1, 2, 3, 4, 5, 6, 7, 8] [] [0, 1, 2, 3, 4, 5, 6, 7, 8] rfl (by decide) rfl (by decide) (by decide) (ws' := [(h, .inr (0, [.ref v, .int (nI fo), .ref ap, .ref aw, .ref ag, .ref av, .ref an, .int sz])), (ap, .inl (ww_g X 0, 60, .inl pl)), (aw, .inl (ww_g X 1, 60, .inl wr)), (ag, .inl (ww_g X 1, 60, .inl pg)), (av, .inl (ww_g X 0, 60, .inl pv)), (an, .inl (ww_g X 1, 60, .inl nt)), (v, .inr (1, [.ref vo, .ref vv])), (vo, .inl (ww_g X 0, 80, .inl ow)), (vv, .inl (ww_g X 0, 80, .inl vl))]) rfl rfl (by decide) ?_
        have hl1 := px_len_le (pl := pl) (wr := wr) (b := b) (by omega)
        generalize px_len pl wr b = z at hl1 ⊢
        refine ww_istore O dd_BF_firstBlockOfExtent_15 (by rw [hn]; decide) rfl (L' := [(0, .ref h), (1, .int x), (2, .int (nI n)), (3, .int (nI b)), (4, .int (nI z))]) rfl ?_
        refine ww_iload O dd_BF_firstBlockOfExtent_17 4 rfl ?_
        refine ww_if_leN O dd_BF_firstBlockOfExtent_19 (tgt := 32) rfl (by omega) (fun h19 => ?_) (fun h19 => ?_)
        · refine ww_iload_n O dd_BF_firstBlockOfExtent_32 3 rfl ?_
          refine ww_iload O dd_BF_firstBlockOfExtent_33 4 rfl ?_
          refine ww_iconst O dd_BF_firstBlockOfExtent_35 (v := nI 1) rfl ?_
          refine ww_max O lm_BF_45 lk_Math_max (by rw [hR]; decide) (by rw [hR]; exact Nat.le_of_ble_eq_true rfl) (by rw [hR]; decide) (by rw [hR]; decide) dd_BF_firstBlockOfExtent_36 (v := nI (max z 1)) (px_max (by omega) (by omega)) ?_
          refine ww_iadd O dd_BF_firstBlockOfExtent_39 (v := nI (b + (max z 1))) (nI_add _ _) ?_
          refine ww_istore_n O dd_BF_firstBlockOfExtent_40 (by rw [hn]; decide) rfl (L' := [(0, .ref h), (1, .int x), (2, .int (nI n)), (3, .int (nI (b + (max z 1)))), (4, .int (nI z))]) rfl ?_
          refine ww_goto O dd_BF_firstBlockOfExtent_41 (tgt := 4) rfl ?_
          refine ww_sub [0, 1, 2, 3] rfl ?_
          exact ih _ _ (by omega) (by omega) (by omega) trivial
        · refine ww_iload_n O dd_BF_firstBlockOfExtent_22 2 rfl ?_
          refine ww_iload_n O dd_BF_firstBlockOfExtent_23 1 rfl ?_
          refine ww_icmp_ne O dd_BF_firstBlockOfExtent_24 (tgt := 29) rfl (fun h24 => ?_) (fun h24 => ?_)
          · refine ww_iinc O dd_BF_firstBlockOfExtent_29 2 rfl (v := nI (n + 1)) (nI_add _ 1) (by rw [hn]; decide) rfl (L' := [(0, .ref h), (1, .int x), (2, .int (nI (n + 1))), (3, .int (nI b)), (4, .int (nI z))]) rfl ?_
            refine ww_iload_n O dd_BF_firstBlockOfExtent_32 3 rfl ?_
            refine ww_iload O dd_BF_firstBlockOfExtent_33 4 rfl ?_
            refine ww_iconst O dd_BF_firstBlockOfExtent_35 (v := nI 1) rfl ?_
            refine ww_max O lm_BF_45 lk_Math_max (by rw [hR]; decide) (by rw [hR]; exact Nat.le_of_ble_eq_true rfl) (by rw [hR]; decide) (by rw [hR]; decide) dd_BF_firstBlockOfExtent_36 (v := nI (max z 1)) (px_max (by omega) (by omega)) ?_
            refine ww_iadd O dd_BF_firstBlockOfExtent_39 (v := nI (b + (max z 1))) (nI_add _ _) ?_
            refine ww_istore_n O dd_BF_firstBlockOfExtent_40 (by rw [hn]; decide) rfl (L' := [(0, .ref h), (1, .int x), (2, .int (nI (n + 1))), (3, .int (nI (b + (max z 1)))), (4, .int (nI z))]) rfl ?_
            refine ww_goto O dd_BF_firstBlockOfExtent_41 (tgt := 4) rfl ?_
            refine ww_sub [0, 1, 2, 3] rfl ?_
            exact ih _ _ (by omega) (by omega) (by omega) trivial
          · refine ww_iload_n O dd_BF_firstBlockOfExtent_27 3 rfl ?_
            exact absurd h24 (fun e => by rw [← e] at hx; exact absurd hx (nI_pos (by omega)))
  refine ww_iconst O dd_BF_firstBlockOfExtent_0 (v := nI 0) rfl ?_
  refine ww_istore_n O dd_BF_firstBlockOfExtent_1 (by rw [hn]; decide) rfl (L' := [(0, .ref h), (1, .int x), (2, .int (nI 0))]) rfl ?_
  refine ww_iconst O dd_BF_firstBlockOfExtent_2 (v := nI 0) rfl ?_
  refine ww_istore_n O dd_BF_firstBlockOfExtent_3 (by rw [hn]; decide) rfl (L' := [(0, .ref h), (1, .int x), (2, .int (nI 0)), (3, .int (nI 0))]) rfl ?_
  exact loop 60 0 0 (by omega) (by omega) (by omega) trivial
set_option maxRecDepth 4000 in
theorem cc_BF_firstBlockOfExtent (l : Launch) (D : va_G) (g : Nat → ClassId) (h : Nat) (v : Nat) (fo : Nat) (ap : Nat) (aw : Nat) (ag : Nat) (av : Nat) (an : Nat) (vo : Nat) (vv : Nat) (sz : Int32) (pl : Nat → Int32) (wr : Nat → Int32) (pg : Nat → Int32) (pv : Nat → Int32) (nt : Nat → Int32) (ow : Nat → Int32) (vl : Nat → Int32) (i : Nat) (hr : px_rng pl 0 60) (hi : i < 2 ^ 31) : ww_ct l D g yy_BF_firstBlockOfExtent bb_BF_firstBlockOfExtent 5 (some .int) (ww_rm 3) [.ref h, .int (nI i)] [(h, .inr (0, [.ref v, .int (nI fo), .ref ap, .ref aw, .ref ag, .ref av, .ref an, .int sz])), (ap, .inl (g 0, 60, .inl pl)), (aw, .inl (g 1, 60, .inl wr)), (ag, .inl (g 1, 60, .inl pg)), (av, .inl (g 0, 60, .inl pv)), (an, .inl (g 1, 60, .inl nt)), (v, .inr (1, [.ref vo, .ref vv])), (vo, .inl (g 0, 80, .inl ow)), (vv, .inl (g 0, 80, .inl vl))] (some (.int (px_on1 (px_nth pl wr 60 0 0 i)))) [(h, .inr (0, [.ref v, .int (nI fo), .ref ap, .ref aw, .ref ag, .ref av, .ref an, .int sz])), (ap, .inl (g 0, 60, .inl pl)), (aw, .inl (g 1, 60, .inl wr)), (ag, .inl (g 1, 60, .inl pg)), (av, .inl (g 0, 60, .inl pv)), (an, .inl (g 1, 60, .inl nt)), (v, .inr (1, [.ref vo, .ref vv])), (vo, .inl (g 0, 80, .inl ow)), (vv, .inl (g 0, 80, .inl vl))] := by
  refine ww_start (by decide +kernel) rfl rfl (Nat.le_of_ble_eq_true rfl) (L0 := [(0, .ref h), (1, .int (nI i))]) rfl ?_
  intro X O hl hD hg hR hn F
  subst hl hD hg
  have loop : ∀ (k b n : Nat), 60 ≤ b + k → b ≤ 60 → n ≤ b → n ≤ i ∧ px_nth pl wr (60 - b) b 0 (i - n) = px_nth pl wr 60 0 0 i → ww_at X 0 0 4 [(0, .ref h), (1, .int (nI i)), (2, .int (nI n)), (3, .int (nI b))] [] [(h, .inr (0, [.ref v, .int (nI fo), .ref ap, .ref aw, .ref ag, .ref av, .ref an, .int sz])), (ap, .inl (ww_g X 0, 60, .inl pl)), (aw, .inl (ww_g X 1, 60, .inl wr)), (ag, .inl (ww_g X 1, 60, .inl pg)), (av, .inl (ww_g X 0, 60, .inl pv)), (an, .inl (ww_g X 1, 60, .inl nt)), (v, .inr (1, [.ref vo, .ref vv])), (vo, .inl (ww_g X 0, 80, .inl ow)), (vv, .inl (ww_g X 0, 80, .inl vl))] := by
    intro k
    induction k with
    | zero =>
      intro b n h1 h2 hn2 h3
      refine ww_iload_n O dd_BF_firstBlockOfExtent_4 3 rfl ?_
      refine ww_bipush O dd_BF_firstBlockOfExtent_5 (v := nI 60) rfl ?_
      refine ww_icmp_geN O dd_BF_firstBlockOfExtent_7 (tgt := 44) rfl (by omega) (by omega) (fun h7 => ?_) (fun h7 => ?_)
      · refine ww_iconst O dd_BF_firstBlockOfExtent_44 (v := (-1)) rfl ?_
        rw [← h3.2, show 60 - b = 0 by omega] at F
        exact F.i dd_BF_firstBlockOfExtent_45
      · exfalso; omega
    | succ k ih =>
      intro b n h1 h2 hn2 h3
      refine ww_iload_n O dd_BF_firstBlockOfExtent_4 3 rfl ?_
      refine ww_bipush O dd_BF_firstBlockOfExtent_5 (v := nI 60) rfl ?_
      refine ww_icmp_geN O dd_BF_firstBlockOfExtent_7 (tgt := 44) rfl (by omega) (by omega) (fun h7 => ?_) (fun h7 => ?_)
      · refine ww_iconst O dd_BF_firstBlockOfExtent_44 (v := (-1)) rfl ?_
        rw [← h3.2, show 60 - b = 0 by omega] at F
        exact F.i dd_BF_firstBlockOfExtent_45
      · refine ww_aload_n O dd_BF_firstBlockOfExtent_10 0 rfl ?_
        refine ww_iload_n O dd_BF_firstBlockOfExtent_11 3 rfl ?_
        refine ww_callV (q0 := 0) (ci := 0) O (cc_BF_extentLength _ _ _ h v fo ap aw ag av an vo vv sz pl wr pg pv nt ow vl b (by omega)) lc_BF_75 lx_BF_extentLength_I_I rfl rfl rfl (by rw [hR]; decide) (by rw [hR]; decide) (by rw [hR]; decide) rfl (Nat.le_of_ble_eq_true rfl) dd_BF_firstBlockOfExtent_12 rfl [0, 1, 2, 3, 4, 5, 6, 7, 8] [] [0, 1, 2, 3, 4, 5, 6, 7, 8] rfl (by decide) rfl (by decide) (by decide) (ws' := [(h, .inr (0, [.ref v, .int (nI fo), .ref ap, .ref aw, .ref ag, .ref av, .ref an, .int sz])), (ap, .inl (ww_g X 0, 60, .inl pl)), (aw, .inl (ww_g X 1, 60, .inl wr)), (ag, .inl (ww_g X 1, 60, .inl pg)), (av, .inl (ww_g X 0, 60, .inl pv)), (an, .inl (ww_g X 1, 60, .inl nt)), (v, .inr (1, [.ref vo, .ref vv])), (vo, .inl (ww_g X 0, 80, .inl ow)), (vv, .inl (ww_g X 0, 80, .inl vl))]) rfl rfl (by decide) ?_
        have hl1 := px_len_le (pl := pl) (wr := wr) (b := b) (by omega)
        have hl2 := px_nth_len (wr := wr) hr (b := b) (by omega) (i - n)
        generalize px_len pl wr b = z at hl1 hl2 ⊢
        refine ww_istore O dd_BF_firstBlockOfExtent_15 (by rw [hn]; decide) rfl (L' := [(0, .ref h), (1, .int (nI i)), (2, .int (nI n)), (3, .int (nI b)), (4, .int (nI z))]) rfl ?_
        refine ww_iload O dd_BF_firstBlockOfExtent_17 4 rfl ?_
        refine ww_if_leN O dd_BF_firstBlockOfExtent_19 (tgt := 32) rfl (by omega) (fun h19 => ?_) (fun h19 => ?_)
        · refine ww_iload_n O dd_BF_firstBlockOfExtent_32 3 rfl ?_
          refine ww_iload O dd_BF_firstBlockOfExtent_33 4 rfl ?_
          refine ww_iconst O dd_BF_firstBlockOfExtent_35 (v := nI 1) rfl ?_
          refine ww_max O lm_BF_45 lk_Math_max (by rw [hR]; decide) (by rw [hR]; exact Nat.le_of_ble_eq_true rfl) (by rw [hR]; decide) (by rw [hR]; decide) dd_BF_firstBlockOfExtent_36 (v := nI (max z 1)) (px_max (by omega) (by omega)) ?_
          refine ww_iadd O dd_BF_firstBlockOfExtent_39 (v := nI (b + (max z 1))) (nI_add _ _) ?_
          refine ww_istore_n O dd_BF_firstBlockOfExtent_40 (by rw [hn]; decide) rfl (L' := [(0, .ref h), (1, .int (nI i)), (2, .int (nI n)), (3, .int (nI (b + (max z 1)))), (4, .int (nI z))]) rfl ?_
          refine ww_goto O dd_BF_firstBlockOfExtent_41 (tgt := 4) rfl ?_
          refine ww_sub [0, 1, 2, 3] rfl ?_
          exact ih _ _ (by omega) (by omega) (by omega) ⟨h3.1, by rw [← h3.2, hl2, if_neg (by omega)]⟩
        · refine ww_iload_n O dd_BF_firstBlockOfExtent_22 2 rfl ?_
          refine ww_iload_n O dd_BF_firstBlockOfExtent_23 1 rfl ?_
          refine ww_icmp_neN O dd_BF_firstBlockOfExtent_24 (tgt := 29) rfl (by omega) (by omega) (fun h24 => ?_) (fun h24 => ?_)
          · refine ww_iinc O dd_BF_firstBlockOfExtent_29 2 rfl (v := nI (n + 1)) (nI_add _ 1) (by rw [hn]; decide) rfl (L' := [(0, .ref h), (1, .int (nI i)), (2, .int (nI (n + 1))), (3, .int (nI b)), (4, .int (nI z))]) rfl ?_
            refine ww_iload_n O dd_BF_firstBlockOfExtent_32 3 rfl ?_
            refine ww_iload O dd_BF_firstBlockOfExtent_33 4 rfl ?_
            refine ww_iconst O dd_BF_firstBlockOfExtent_35 (v := nI 1) rfl ?_
            refine ww_max O lm_BF_45 lk_Math_max (by rw [hR]; decide) (by rw [hR]; exact Nat.le_of_ble_eq_true rfl) (by rw [hR]; decide) (by rw [hR]; decide) dd_BF_firstBlockOfExtent_36 (v := nI (max z 1)) (px_max (by omega) (by omega)) ?_
            refine ww_iadd O dd_BF_firstBlockOfExtent_39 (v := nI (b + (max z 1))) (nI_add _ _) ?_
            refine ww_istore_n O dd_BF_firstBlockOfExtent_40 (by rw [hn]; decide) rfl (L' := [(0, .ref h), (1, .int (nI i)), (2, .int (nI (n + 1))), (3, .int (nI (b + (max z 1)))), (4, .int (nI z))]) rfl ?_
            refine ww_goto O dd_BF_firstBlockOfExtent_41 (tgt := 4) rfl ?_
            refine ww_sub [0, 1, 2, 3] rfl ?_
            exact ih _ _ (by omega) (by omega) (by omega) ⟨by omega, by rw [← h3.2, hl2, if_pos (by omega), if_neg (by omega), Nat.sub_sub]⟩
          · refine ww_iload_n O dd_BF_firstBlockOfExtent_27 3 rfl ?_
            rw [← h3.2, hl2, if_pos (by omega), if_pos (by omega)] at F
            exact F.i dd_BF_firstBlockOfExtent_28
  refine ww_iconst O dd_BF_firstBlockOfExtent_0 (v := nI 0) rfl ?_
  refine ww_istore_n O dd_BF_firstBlockOfExtent_1 (by rw [hn]; decide) rfl (L' := [(0, .ref h), (1, .int (nI i)), (2, .int (nI 0))]) rfl ?_
  refine ww_iconst O dd_BF_firstBlockOfExtent_2 (v := nI 0) rfl ?_
  refine ww_istore_n O dd_BF_firstBlockOfExtent_3 (by rw [hn]; decide) rfl (L' := [(0, .ref h), (1, .int (nI i)), (2, .int (nI 0)), (3, .int (nI 0))]) rfl ?_
  exact loop 60 0 0 (by omega) (by omega) (by omega) ⟨Nat.zero_le _, rfl⟩
set_option maxRecDepth 4000 in
theorem cc_BF_countReserved (l : Launch) (D : va_G) (g : Nat → ClassId) (h : Nat) (v : Nat) (fo : Nat) (ap : Nat) (aw : Nat) (ag : Nat) (av : Nat) (an : Nat) (vo : Nat) (vv : Nat) (sz : Int32) (pl : Nat → Int32) (wr : Nat → Int32) (pg : Nat → Int32) (pv : Nat → Int32) (nt : Nat → Int32) (ow : Nat → Int32) (vl : Nat → Int32) (hr : px_rng pl 0 60) : ww_ct l D g yy_BF_countReserved bb_BF_countReserved 5 (some .int) (ww_rm 4) [.ref h] [(h, .inr (0, [.ref v, .int (nI fo), .ref ap, .ref aw, .ref ag, .ref av, .ref an, .int sz])), (ap, .inl (g 0, 60, .inl pl)), (aw, .inl (g 1, 60, .inl wr)), (ag, .inl (g 1, 60, .inl pg)), (av, .inl (g 0, 60, .inl pv)), (an, .inl (g 1, 60, .inl nt)), (v, .inr (1, [.ref vo, .ref vv])), (vo, .inl (g 0, 80, .inl ow)), (vv, .inl (g 0, 80, .inl vl))] (some (.int (nI (px_res pl wr pg 0)))) [(h, .inr (0, [.ref v, .int (nI fo), .ref ap, .ref aw, .ref ag, .ref av, .ref an, .int sz])), (ap, .inl (g 0, 60, .inl pl)), (aw, .inl (g 1, 60, .inl wr)), (ag, .inl (g 1, 60, .inl pg)), (av, .inl (g 0, 60, .inl pv)), (an, .inl (g 1, 60, .inl nt)), (v, .inr (1, [.ref vo, .ref vv])), (vo, .inl (g 0, 80, .inl ow)), (vv, .inl (g 0, 80, .inl vl))] := by
  refine ww_start (by decide +kernel) rfl rfl (Nat.le_of_ble_eq_true rfl) (L0 := [(0, .ref h)]) rfl ?_
  intro X O hl hD hg hR hn F
  subst hl hD hg
  have loop : ∀ (k b x y : Nat), 60 ≤ b + k → b ≤ 60 → x = px_cnt (fun b => px_on pg b && px_hole pl b) 0 b → y = px_cnt (fun b => px_on pg b && (!px_hole pl b && wr b == 0)) 0 b → ww_at X 0 0 6 [(0, .ref h), (1, .int (nI x)), (2, .int (nI y)), (3, .int (nI b))] [] [(h, .inr (0, [.ref v, .int (nI fo), .ref ap, .ref aw, .ref ag, .ref av, .ref an, .int sz])), (ap, .inl (ww_g X 0, 60, .inl pl)), (aw, .inl (ww_g X 1, 60, .inl wr)), (ag, .inl (ww_g X 1, 60, .inl pg)), (av, .inl (ww_g X 0, 60, .inl pv)), (an, .inl (ww_g X 1, 60, .inl nt)), (v, .inr (1, [.ref vo, .ref vv])), (vo, .inl (ww_g X 0, 80, .inl ow)), (vv, .inl (ww_g X 0, 80, .inl vl))] := by
    intro k
    induction k with
    | zero =>
      intro b x y h1 h2 h3 h4
      refine ww_iload_n O dd_BF_countReserved_6 3 rfl ?_
      refine ww_bipush O dd_BF_countReserved_7 (v := nI 60) rfl ?_
      refine ww_icmp_geN O dd_BF_countReserved_9 (tgt := 62) rfl (by omega) (by omega) (fun h9 => ?_) (fun h9 => ?_)
      · have e0 : b = 60 := by omega
        subst e0
        have hx1 : x = px_hh pl pg 0 := h3
        have hy1 : y = px_uu pl wr pg 0 := h4
        have hx2 := px_cnt_le (fun b => px_on pg b && px_hole pl b) 0 60
        have hy2 := px_cnt_le (fun b => px_on pg b && (!px_hole pl b && wr b == 0)) 0 60
        have he2 := px_ex_le pl wr 60 0 0
        have he3 : px_ee pl wr 0 ≤ 60 := he2
        refine ww_aload_n O dd_BF_countReserved_62 0 rfl ?_
        refine ww_callV (q0 := 0) (ci := 0) O (cc_BF_countExtents _ _ _ h v fo ap aw ag av an vo vv sz pl wr pg pv nt ow vl (by omega)) lc_BF_68 lx_BF_countExtents__I rfl rfl rfl (by rw [hR]; decide) (by rw [hR]; decide) (by rw [hR]; decide) rfl (Nat.le_of_ble_eq_true rfl) dd_BF_countReserved_63 rfl [0, 1, 2, 3, 4, 5, 6, 7, 8] [] [0, 1, 2, 3, 4, 5, 6, 7, 8] rfl (by decide) rfl (by decide) (by decide) (ws' := [(h, .inr (0, [.ref v, .int (nI fo), .ref ap, .ref aw, .ref ag, .ref av, .ref an, .int sz])), (ap, .inl (ww_g X 0, 60, .inl pl)), (aw, .inl (ww_g X 1, 60, .inl wr)), (ag, .inl (ww_g X 1, 60, .inl pg)), (av, .inl (ww_g X 0, 60, .inl pv)), (an, .inl (ww_g X 1, 60, .inl nt)), (v, .inr (1, [.ref vo, .ref vv])), (vo, .inl (ww_g X 0, 80, .inl ow)), (vv, .inl (ww_g X 0, 80, .inl vl))]) rfl rfl (by decide) ?_
        refine ww_istore_n O dd_BF_countReserved_66 (by rw [hn]; decide) rfl (L' := [(0, .ref h), (1, .int (nI x)), (2, .int (nI y)), (3, .int (nI (px_ee pl wr 0)))]) rfl ?_
        refine ww_iload_n O dd_BF_countReserved_67 3 rfl ?_
        refine ww_iload_n O dd_BF_countReserved_68 1 rfl ?_
        refine ww_iadd O dd_BF_countReserved_69 (v := nI ((px_ee pl wr 0) + x)) (nI_add _ _) ?_
        refine ww_iconst O dd_BF_countReserved_70 (v := nI 2) rfl ?_
        refine ww_iload_n O dd_BF_countReserved_71 2 rfl ?_
        refine ww_imul O dd_BF_countReserved_72 (v := nI (2 * y)) (pk_mul _ _) ?_
        refine ww_iadd O dd_BF_countReserved_73 (v := nI (((px_ee pl wr 0) + x) + (2 * y))) (nI_add _ _) ?_
        refine ww_istore O dd_BF_countReserved_74 (by rw [hn]; decide) rfl (L' := [(0, .ref h), (1, .int (nI x)), (2, .int (nI y)), (3, .int (nI (px_ee pl wr 0))), (4, .int (nI (((px_ee pl wr 0) + x) + (2 * y))))]) rfl ?_
        refine ww_iload_n O dd_BF_countReserved_76 1 rfl ?_
        refine ww_iload O dd_BF_countReserved_77 4 rfl ?_
        refine ww_callSN O (cc_DE_treeBlocks _ _ _ (((px_ee pl wr 0) + x) + (2 * y)) (by omega)) ln_BF_72 ls_DE_treeBlocks_I_I (by rw [hR]; decide) (by rw [hR]; decide) (by rw [hR]; decide) rfl (Nat.le_of_ble_eq_true rfl) dd_BF_countReserved_79 rfl [] [0, 1, 2, 3, 4, 5, 6, 7, 8] [0, 1, 2, 3, 4, 5, 6, 7, 8] rfl (by decide) rfl (by decide) (by decide) (ws' := [(h, .inr (0, [.ref v, .int (nI fo), .ref ap, .ref aw, .ref ag, .ref av, .ref an, .int sz])), (ap, .inl (ww_g X 0, 60, .inl pl)), (aw, .inl (ww_g X 1, 60, .inl wr)), (ag, .inl (ww_g X 1, 60, .inl pg)), (av, .inl (ww_g X 0, 60, .inl pv)), (an, .inl (ww_g X 1, 60, .inl nt)), (v, .inr (1, [.ref vo, .ref vv])), (vo, .inl (ww_g X 0, 80, .inl ow)), (vv, .inl (ww_g X 0, 80, .inl vl))]) rfl rfl (by decide) ?_
        refine ww_iadd O dd_BF_countReserved_82 (v := nI (x + (px_tree (((px_ee pl wr 0) + x) + (2 * y))))) (nI_add _ _) ?_
        refine ww_iload_n O dd_BF_countReserved_83 3 rfl ?_
        refine ww_callSN O (cc_DE_treeBlocks _ _ _ (px_ee pl wr 0) (by omega)) ln_BF_72 ls_DE_treeBlocks_I_I (by rw [hR]; decide) (by rw [hR]; decide) (by rw [hR]; decide) rfl (Nat.le_of_ble_eq_true rfl) dd_BF_countReserved_84 rfl [] [0, 1, 2, 3, 4, 5, 6, 7, 8] [0, 1, 2, 3, 4, 5, 6, 7, 8] rfl (by decide) rfl (by decide) (by decide) (ws' := [(h, .inr (0, [.ref v, .int (nI fo), .ref ap, .ref aw, .ref ag, .ref av, .ref an, .int sz])), (ap, .inl (ww_g X 0, 60, .inl pl)), (aw, .inl (ww_g X 1, 60, .inl wr)), (ag, .inl (ww_g X 1, 60, .inl pg)), (av, .inl (ww_g X 0, 60, .inl pv)), (an, .inl (ww_g X 1, 60, .inl nt)), (v, .inr (1, [.ref vo, .ref vv])), (vo, .inl (ww_g X 0, 80, .inl ow)), (vv, .inl (ww_g X 0, 80, .inl vl))]) rfl rfl (by decide) ?_
        have ht := px_tree_mono (show px_ee pl wr 0 ≤ px_ee pl wr 0 + x + 2 * y by omega)
        refine ww_isub O dd_BF_countReserved_87 (v := nI ((x + (px_tree (((px_ee pl wr 0) + x) + (2 * y)))) - (px_tree (px_ee pl wr 0)))) (pk_sub (by omega)) ?_
        rw [show px_res pl wr pg 0 = ((x + (px_tree (((px_ee pl wr 0) + x) + (2 * y)))) - (px_tree (px_ee pl wr 0))) from by unfold px_res; rw [← hx1, ← hy1]] at F
        exact F.i dd_BF_countReserved_88
      · exfalso; omega
    | succ k ih =>
      intro b x y h1 h2 h3 h4
      refine ww_iload_n O dd_BF_countReserved_6 3 rfl ?_
      refine ww_bipush O dd_BF_countReserved_7 (v := nI 60) rfl ?_
      refine ww_icmp_geN O dd_BF_countReserved_9 (tgt := 62) rfl (by omega) (by omega) (fun h9 => ?_) (fun h9 => ?_)
      · have e0 : b = 60 := by omega
        subst e0
        have hx1 : x = px_hh pl pg 0 := h3
        have hy1 : y = px_uu pl wr pg 0 := h4
        have hx2 := px_cnt_le (fun b => px_on pg b && px_hole pl b) 0 60
        have hy2 := px_cnt_le (fun b => px_on pg b && (!px_hole pl b && wr b == 0)) 0 60
        have he2 := px_ex_le pl wr 60 0 0
        have he3 : px_ee pl wr 0 ≤ 60 := he2
        refine ww_aload_n O dd_BF_countReserved_62 0 rfl ?_
        refine ww_callV (q0 := 0) (ci := 0) O (cc_BF_countExtents _ _ _ h v fo ap aw ag av an vo vv sz pl wr pg pv nt ow vl (by omega)) lc_BF_68 lx_BF_countExtents__I rfl rfl rfl (by rw [hR]; decide) (by rw [hR]; decide) (by rw [hR]; decide) rfl (Nat.le_of_ble_eq_true rfl) dd_BF_countReserved_63 rfl [0, 1, 2, 3, 4, 5, 6, 7, 8] [] [0, 1, 2, 3, 4, 5, 6, 7, 8] rfl (by decide) rfl (by decide) (by decide) (ws' := [(h, .inr (0, [.ref v, .int (nI fo), .ref ap, .ref aw, .ref ag, .ref av, .ref an, .int sz])), (ap, .inl (ww_g X 0, 60, .inl pl)), (aw, .inl (ww_g X 1, 60, .inl wr)), (ag, .inl (ww_g X 1, 60, .inl pg)), (av, .inl (ww_g X 0, 60, .inl pv)), (an, .inl (ww_g X 1, 60, .inl nt)), (v, .inr (1, [.ref vo, .ref vv])), (vo, .inl (ww_g X 0, 80, .inl ow)), (vv, .inl (ww_g X 0, 80, .inl vl))]) rfl rfl (by decide) ?_
        refine ww_istore_n O dd_BF_countReserved_66 (by rw [hn]; decide) rfl (L' := [(0, .ref h), (1, .int (nI x)), (2, .int (nI y)), (3, .int (nI (px_ee pl wr 0)))]) rfl ?_
        refine ww_iload_n O dd_BF_countReserved_67 3 rfl ?_
        refine ww_iload_n O dd_BF_countReserved_68 1 rfl ?_
        refine ww_iadd O dd_BF_countReserved_69 (v := nI ((px_ee pl wr 0) + x)) (nI_add _ _) ?_
        refine ww_iconst O dd_BF_countReserved_70 (v := nI 2) rfl ?_
        refine ww_iload_n O dd_BF_countReserved_71 2 rfl ?_
        refine ww_imul O dd_BF_countReserved_72 (v := nI (2 * y)) (pk_mul _ _) ?_
        refine ww_iadd O dd_BF_countReserved_73 (v := nI (((px_ee pl wr 0) + x) + (2 * y))) (nI_add _ _) ?_
        refine ww_istore O dd_BF_countReserved_74 (by rw [hn]; decide) rfl (L' := [(0, .ref h), (1, .int (nI x)), (2, .int (nI y)), (3, .int (nI (px_ee pl wr 0))), (4, .int (nI (((px_ee pl wr 0) + x) + (2 * y))))]) rfl ?_
        refine ww_iload_n O dd_BF_countReserved_76 1 rfl ?_
        refine ww_iload O dd_BF_countReserved_77 4 rfl ?_
        refine ww_callSN O (cc_DE_treeBlocks _ _ _ (((px_ee pl wr 0) + x) + (2 * y)) (by omega)) ln_BF_72 ls_DE_treeBlocks_I_I (by rw [hR]; decide) (by rw [hR]; decide) (by rw [hR]; decide) rfl (Nat.le_of_ble_eq_true rfl) dd_BF_countReserved_79 rfl [] [0, 1, 2, 3, 4, 5, 6, 7, 8] [0, 1, 2, 3, 4, 5, 6, 7, 8] rfl (by decide) rfl (by decide) (by decide) (ws' := [(h, .inr (0, [.ref v, .int (nI fo), .ref ap, .ref aw, .ref ag, .ref av, .ref an, .int sz])), (ap, .inl (ww_g X 0, 60, .inl pl)), (aw, .inl (ww_g X 1, 60, .inl wr)), (ag, .inl (ww_g X 1, 60, .inl pg)), (av, .inl (ww_g X 0, 60, .inl pv)), (an, .inl (ww_g X 1, 60, .inl nt)), (v, .inr (1, [.ref vo, .ref vv])), (vo, .inl (ww_g X 0, 80, .inl ow)), (vv, .inl (ww_g X 0, 80, .inl vl))]) rfl rfl (by decide) ?_
        refine ww_iadd O dd_BF_countReserved_82 (v := nI (x + (px_tree (((px_ee pl wr 0) + x) + (2 * y))))) (nI_add _ _) ?_
        refine ww_iload_n O dd_BF_countReserved_83 3 rfl ?_
        refine ww_callSN O (cc_DE_treeBlocks _ _ _ (px_ee pl wr 0) (by omega)) ln_BF_72 ls_DE_treeBlocks_I_I (by rw [hR]; decide) (by rw [hR]; decide) (by rw [hR]; decide) rfl (Nat.le_of_ble_eq_true rfl) dd_BF_countReserved_84 rfl [] [0, 1, 2, 3, 4, 5, 6, 7, 8] [0, 1, 2, 3, 4, 5, 6, 7, 8] rfl (by decide) rfl (by decide) (by decide) (ws' := [(h, .inr (0, [.ref v, .int (nI fo), .ref ap, .ref aw, .ref ag, .ref av, .ref an, .int sz])), (ap, .inl (ww_g X 0, 60, .inl pl)), (aw, .inl (ww_g X 1, 60, .inl wr)), (ag, .inl (ww_g X 1, 60, .inl pg)), (av, .inl (ww_g X 0, 60, .inl pv)), (an, .inl (ww_g X 1, 60, .inl nt)), (v, .inr (1, [.ref vo, .ref vv])), (vo, .inl (ww_g X 0, 80, .inl ow)), (vv, .inl (ww_g X 0, 80, .inl vl))]) rfl rfl (by decide) ?_
        have ht := px_tree_mono (show px_ee pl wr 0 ≤ px_ee pl wr 0 + x + 2 * y by omega)
        refine ww_isub O dd_BF_countReserved_87 (v := nI ((x + (px_tree (((px_ee pl wr 0) + x) + (2 * y)))) - (px_tree (px_ee pl wr 0)))) (pk_sub (by omega)) ?_
        rw [show px_res pl wr pg 0 = ((x + (px_tree (((px_ee pl wr 0) + x) + (2 * y)))) - (px_tree (px_ee pl wr 0))) from by unfold px_res; rw [← hx1, ← hy1]] at F
        exact F.i dd_BF_countReserved_88
      · refine ww_aload_n O dd_BF_countReserved_12 0 rfl ?_
        refine ww_get O ci_BF rfl 4 (by decide) lf_BF_19 rfl dd_BF_countReserved_13 0 rfl rfl ?_
        refine ww_iload_n O dd_BF_countReserved_16 3 rfl ?_
        refine ww_zald O dd_BF_countReserved_17 3 rfl (by omega) (by decide) rfl ?_
        refine ww_if_eq O dd_BF_countReserved_18 (tgt := 35) rfl (fun h18 => ?_) (fun h18 => ?_)
        · refine ww_aload_n O dd_BF_countReserved_35 0 rfl ?_
          refine ww_get O ci_BF rfl 4 (by decide) lf_BF_19 rfl dd_BF_countReserved_36 0 rfl rfl ?_
          refine ww_iload_n O dd_BF_countReserved_39 3 rfl ?_
          refine ww_zald O dd_BF_countReserved_40 3 rfl (by omega) (by decide) rfl ?_
          refine ww_if_eq O dd_BF_countReserved_41 (tgt := 56) rfl (fun h41 => ?_) (fun h41 => ?_)
          · refine ww_iinc O dd_BF_countReserved_56 3 rfl (v := nI (b + 1)) (nI_add _ 1) (by rw [hn]; decide) rfl (L' := [(0, .ref h), (1, .int (nI x)), (2, .int (nI y)), (3, .int (nI (b + 1)))]) rfl ?_
            refine ww_goto O dd_BF_countReserved_59 (tgt := 6) rfl ?_
            exact ih (b + 1) x y (by omega) (by omega) (px_c0f h3 (by simp [px_on, h18])) (px_c0f h4 (by simp [px_on, h18]))
          · exact absurd h18 h41
        · refine ww_aload_n O dd_BF_countReserved_21 0 rfl ?_
          refine ww_iload_n O dd_BF_countReserved_22 3 rfl ?_
          refine ww_callV (q0 := 0) (ci := 0) O (cc_BF_isHole _ _ _ h v fo ap aw ag av an vo vv sz pl wr pg pv nt ow vl b (by omega)) lc_BF_55 lx_BF_isHole_I_Z rfl rfl rfl (by rw [hR]; decide) (by rw [hR]; decide) (by rw [hR]; decide) rfl (Nat.le_of_ble_eq_true rfl) dd_BF_countReserved_23 rfl [0, 1, 2, 3, 4, 5, 6, 7, 8] [] [0, 1, 2, 3, 4, 5, 6, 7, 8] rfl (by decide) rfl (by decide) (by decide) (ws' := [(h, .inr (0, [.ref v, .int (nI fo), .ref ap, .ref aw, .ref ag, .ref av, .ref an, .int sz])), (ap, .inl (ww_g X 0, 60, .inl pl)), (aw, .inl (ww_g X 1, 60, .inl wr)), (ag, .inl (ww_g X 1, 60, .inl pg)), (av, .inl (ww_g X 0, 60, .inl pv)), (an, .inl (ww_g X 1, 60, .inl nt)), (v, .inr (1, [.ref vo, .ref vv])), (vo, .inl (ww_g X 0, 80, .inl ow)), (vv, .inl (ww_g X 0, 80, .inl vl))]) rfl rfl (by decide) ?_
          refine ww_if_eqB O dd_BF_countReserved_26 (tgt := 35) rfl (fun h26 => ?_) (fun h26 => ?_)
          · refine ww_aload_n O dd_BF_countReserved_35 0 rfl ?_
            refine ww_get O ci_BF rfl 4 (by decide) lf_BF_19 rfl dd_BF_countReserved_36 0 rfl rfl ?_
            refine ww_iload_n O dd_BF_countReserved_39 3 rfl ?_
            refine ww_zald O dd_BF_countReserved_40 3 rfl (by omega) (by decide) rfl ?_
            refine ww_if_eq O dd_BF_countReserved_41 (tgt := 56) rfl (fun h41 => ?_) (fun h41 => ?_)
            · exact absurd h41 h18
            · refine ww_aload_n O dd_BF_countReserved_44 0 rfl ?_
              refine ww_get O ci_BF rfl 3 (by decide) lf_BF_15 rfl dd_BF_countReserved_45 0 rfl rfl ?_
              refine ww_iload_n O dd_BF_countReserved_48 3 rfl ?_
              refine ww_zald O dd_BF_countReserved_49 2 rfl (by omega) (by decide) rfl ?_
              refine ww_if_ne O dd_BF_countReserved_50 (tgt := 56) rfl (fun h50 => ?_) (fun h50 => ?_)
              · refine ww_iinc O dd_BF_countReserved_56 3 rfl (v := nI (b + 1)) (nI_add _ 1) (by rw [hn]; decide) rfl (L' := [(0, .ref h), (1, .int (nI x)), (2, .int (nI y)), (3, .int (nI (b + 1)))]) rfl ?_
                refine ww_goto O dd_BF_countReserved_59 (tgt := 6) rfl ?_
                exact ih (b + 1) x y (by omega) (by omega) (px_c0f h3 (by simp [px_on, h18, h26, h50])) (px_c0f h4 (by simp [px_on, h18, h26, h50]))
              · refine ww_iinc O dd_BF_countReserved_53 2 rfl (v := nI (y + 1)) (nI_add _ 1) (by rw [hn]; decide) rfl (L' := [(0, .ref h), (1, .int (nI x)), (2, .int (nI (y + 1))), (3, .int (nI b))]) rfl ?_
                refine ww_iinc O dd_BF_countReserved_56 3 rfl (v := nI (b + 1)) (nI_add _ 1) (by rw [hn]; decide) rfl (L' := [(0, .ref h), (1, .int (nI x)), (2, .int (nI (y + 1))), (3, .int (nI (b + 1)))]) rfl ?_
                refine ww_goto O dd_BF_countReserved_59 (tgt := 6) rfl ?_
                exact ih (b + 1) x (y + 1) (by omega) (by omega) (px_c0f h3 (by simp [px_on, h18, h26, h50])) (px_c0t h4 (by simp [px_on, h18, h26, h50]))
          · refine ww_iinc O dd_BF_countReserved_29 1 rfl (v := nI (x + 1)) (nI_add _ 1) (by rw [hn]; decide) rfl (L' := [(0, .ref h), (1, .int (nI (x + 1))), (2, .int (nI y)), (3, .int (nI b))]) rfl ?_
            refine ww_goto O dd_BF_countReserved_32 (tgt := 56) rfl ?_
            refine ww_iinc O dd_BF_countReserved_56 3 rfl (v := nI (b + 1)) (nI_add _ 1) (by rw [hn]; decide) rfl (L' := [(0, .ref h), (1, .int (nI (x + 1))), (2, .int (nI y)), (3, .int (nI (b + 1)))]) rfl ?_
            refine ww_goto O dd_BF_countReserved_59 (tgt := 6) rfl ?_
            exact ih (b + 1) (x + 1) y (by omega) (by omega) (px_c0t h3 (by simp [px_on, h18, h26])) (px_c0f h4 (by simp [px_on, h18, h26]))
  refine ww_iconst O dd_BF_countReserved_0 (v := nI 0) rfl ?_
  refine ww_istore_n O dd_BF_countReserved_1 (by rw [hn]; decide) rfl (L' := [(0, .ref h), (1, .int (nI 0))]) rfl ?_
  refine ww_iconst O dd_BF_countReserved_2 (v := nI 0) rfl ?_
  refine ww_istore_n O dd_BF_countReserved_3 (by rw [hn]; decide) rfl (L' := [(0, .ref h), (1, .int (nI 0)), (2, .int (nI 0))]) rfl ?_
  refine ww_iconst O dd_BF_countReserved_4 (v := nI 0) rfl ?_
  refine ww_istore_n O dd_BF_countReserved_5 (by rw [hn]; decide) rfl (L' := [(0, .ref h), (1, .int (nI 0)), (2, .int (nI 0)), (3, .int (nI 0))]) rfl ?_
  exact loop 60 0 0 0 (by omega) (by omega) rfl rfl
set_option maxRecDepth 4000 in
theorem cc_BF_endOfRow (l : Launch) (D : va_G) (g : Nat → ClassId) (h : Nat) (v : Nat) (fo : Nat) (ap : Nat) (aw : Nat) (ag : Nat) (av : Nat) (an : Nat) (vo : Nat) (vv : Nat) (sz : Int32) (pl : Nat → Int32) (wr : Nat → Int32) (pg : Nat → Int32) (pv : Nat → Int32) (nt : Nat → Int32) (ow : Nat → Int32) (vl : Nat → Int32) (a : Nat) (e : Nat) (only : Bool) (ha : a ≤ e) (he : e ≤ 60) : ww_ct l D g yy_BF_endOfRow bb_BF_endOfRow 5 (some .int) (ww_rm 2) [.ref h, .int (nI a), .int (nI e), .int (px_b only)] [(h, .inr (0, [.ref v, .int (nI fo), .ref ap, .ref aw, .ref ag, .ref av, .ref an, .int sz])), (ap, .inl (g 0, 60, .inl pl)), (aw, .inl (g 1, 60, .inl wr)), (ag, .inl (g 1, 60, .inl pg)), (av, .inl (g 0, 60, .inl pv)), (an, .inl (g 1, 60, .inl nt)), (v, .inr (1, [.ref vo, .ref vv])), (vo, .inl (g 0, 80, .inl ow)), (vv, .inl (g 0, 80, .inl vl))] (some (.int (nI (px_er (fun j => px_hole pl j && (px_on pg j || !only)) (e - a) a)))) [(h, .inr (0, [.ref v, .int (nI fo), .ref ap, .ref aw, .ref ag, .ref av, .ref an, .int sz])), (ap, .inl (g 0, 60, .inl pl)), (aw, .inl (g 1, 60, .inl wr)), (ag, .inl (g 1, 60, .inl pg)), (av, .inl (g 0, 60, .inl pv)), (an, .inl (g 1, 60, .inl nt)), (v, .inr (1, [.ref vo, .ref vv])), (vo, .inl (g 0, 80, .inl ow)), (vv, .inl (g 0, 80, .inl vl))] := by
  refine ww_start (by decide +kernel) rfl rfl (Nat.le_of_ble_eq_true rfl) (L0 := [(0, .ref h), (1, .int (nI a)), (2, .int (nI e)), (3, .int (px_b only))]) rfl ?_
  intro X O hl hD hg hR hn F
  subst hl hD hg
  have loop : ∀ (k b : Nat), e ≤ b + k → a ≤ b → b ≤ e → px_er (fun j => px_hole pl j && (px_on pg j || !only)) (e - b) b = px_er (fun j => px_hole pl j && (px_on pg j || !only)) (e - a) a → ww_at X 0 0 3 [(0, .ref h), (1, .int (nI a)), (2, .int (nI e)), (3, .int (px_b only)), (4, .int (nI b))] [] [(h, .inr (0, [.ref v, .int (nI fo), .ref ap, .ref aw, .ref ag, .ref av, .ref an, .int sz])), (ap, .inl (ww_g X 0, 60, .inl pl)), (aw, .inl (ww_g X 1, 60, .inl wr)), (ag, .inl (ww_g X 1, 60, .inl pg)), (av, .inl (ww_g X 0, 60, .inl pv)), (an, .inl (ww_g X 1, 60, .inl nt)), (v, .inr (1, [.ref vo, .ref vv])), (vo, .inl (ww_g X 0, 80, .inl ow)), (vv, .inl (ww_g X 0, 80, .inl vl))] := by
    intro k
    induction k with
    | zero =>
      intro b h1 h2 h3 h4
      refine ww_iload O dd_BF_endOfRow_3 4 rfl ?_
      refine ww_iload_n O dd_BF_endOfRow_5 2 rfl ?_
      refine ww_icmp_geN O dd_BF_endOfRow_6 (tgt := 38) rfl (by omega) (by omega) (fun h6 => ?_) (fun h6 => ?_)
      · refine ww_iload O dd_BF_endOfRow_38 4 rfl ?_
        rw [← h4, px_er_s, if_neg (fun z => by omega)] at F
        exact F.i dd_BF_endOfRow_40
      · exfalso; omega
    | succ k ih =>
      intro b h1 h2 h3 h4
      refine ww_iload O dd_BF_endOfRow_3 4 rfl ?_
      refine ww_iload_n O dd_BF_endOfRow_5 2 rfl ?_
      refine ww_icmp_geN O dd_BF_endOfRow_6 (tgt := 38) rfl (by omega) (by omega) (fun h6 => ?_) (fun h6 => ?_)
      · refine ww_iload O dd_BF_endOfRow_38 4 rfl ?_
        rw [← h4, px_er_s, if_neg (fun z => by omega)] at F
        exact F.i dd_BF_endOfRow_40
      · refine ww_aload_n O dd_BF_endOfRow_9 0 rfl ?_
        refine ww_iload O dd_BF_endOfRow_10 4 rfl ?_
        refine ww_callV (q0 := 0) (ci := 0) O (cc_BF_isHole _ _ _ h v fo ap aw ag av an vo vv sz pl wr pg pv nt ow vl b (by omega)) lc_BF_55 lx_BF_isHole_I_Z rfl rfl rfl (by rw [hR]; decide) (by rw [hR]; decide) (by rw [hR]; decide) rfl (Nat.le_of_ble_eq_true rfl) dd_BF_endOfRow_12 rfl [0, 1, 2, 3, 4, 5, 6, 7, 8] [] [0, 1, 2, 3, 4, 5, 6, 7, 8] rfl (by decide) rfl (by decide) (by decide) (ws' := [(h, .inr (0, [.ref v, .int (nI fo), .ref ap, .ref aw, .ref ag, .ref av, .ref an, .int sz])), (ap, .inl (ww_g X 0, 60, .inl pl)), (aw, .inl (ww_g X 1, 60, .inl wr)), (ag, .inl (ww_g X 1, 60, .inl pg)), (av, .inl (ww_g X 0, 60, .inl pv)), (an, .inl (ww_g X 1, 60, .inl nt)), (v, .inr (1, [.ref vo, .ref vv])), (vo, .inl (ww_g X 0, 80, .inl ow)), (vv, .inl (ww_g X 0, 80, .inl vl))]) rfl rfl (by decide) ?_
        refine ww_if_eqB O dd_BF_endOfRow_15 (tgt := 38) rfl (fun h15 => ?_) (fun h15 => ?_)
        · refine ww_iload O dd_BF_endOfRow_38 4 rfl ?_
          rw [← h4, px_er_s, if_neg (fun z => by simp [h15] at z)] at F
          exact F.i dd_BF_endOfRow_40
        · refine ww_aload_n O dd_BF_endOfRow_18 0 rfl ?_
          refine ww_get O ci_BF rfl 4 (by decide) lf_BF_19 rfl dd_BF_endOfRow_19 0 rfl rfl ?_
          refine ww_iload O dd_BF_endOfRow_22 4 rfl ?_
          refine ww_zald O dd_BF_endOfRow_24 3 rfl (by omega) (by decide) rfl ?_
          refine ww_if_ne O dd_BF_endOfRow_25 (tgt := 32) rfl (fun h25 => ?_) (fun h25 => ?_)
          · refine ww_iinc O dd_BF_endOfRow_32 4 rfl (v := nI (b + 1)) (nI_add _ 1) (by rw [hn]; decide) rfl (L' := [(0, .ref h), (1, .int (nI a)), (2, .int (nI e)), (3, .int (px_b only)), (4, .int (nI (b + 1)))]) rfl ?_
            refine ww_goto O dd_BF_endOfRow_35 (tgt := 3) rfl ?_
            exact ih (b + 1) (by omega) (by omega) (by omega) (by rw [← h4, px_er_s (b := b), if_pos ⟨by omega, by simp [px_on, h15, h25]⟩, show e - b - 1 = e - (b + 1) by omega])
          · refine ww_iload_n O dd_BF_endOfRow_28 3 rfl ?_
            refine ww_if_neB O dd_BF_endOfRow_29 (tgt := 38) rfl (fun h29 => ?_) (fun h29 => ?_)
            · refine ww_iload O dd_BF_endOfRow_38 4 rfl ?_
              rw [← h4, px_er_s, if_neg (fun z => by simp [px_on, h15, h25, h29] at z)] at F
              exact F.i dd_BF_endOfRow_40
            · refine ww_iinc O dd_BF_endOfRow_32 4 rfl (v := nI (b + 1)) (nI_add _ 1) (by rw [hn]; decide) rfl (L' := [(0, .ref h), (1, .int (nI a)), (2, .int (nI e)), (3, .int (px_b only)), (4, .int (nI (b + 1)))]) rfl ?_
              refine ww_goto O dd_BF_endOfRow_35 (tgt := 3) rfl ?_
              exact ih (b + 1) (by omega) (by omega) (by omega) (by rw [← h4, px_er_s (b := b), if_pos ⟨by omega, by simp [px_on, h15, h25, h29]⟩, show e - b - 1 = e - (b + 1) by omega])
  refine ww_iload_n O dd_BF_endOfRow_0 1 rfl ?_
  refine ww_istore O dd_BF_endOfRow_1 (by rw [hn]; decide) rfl (L' := [(0, .ref h), (1, .int (nI a)), (2, .int (nI e)), (3, .int (px_b only)), (4, .int (nI a))]) rfl ?_
  exact loop e a (by omega) (by omega) (by omega) rfl
