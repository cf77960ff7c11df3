theorem lf_VO_9 : Cond.fieldLink "DelayedExtents$Volume" 9 "DelayedExtents$Volume" "owners" "[I" ∈ lw_good := List.mem_filter.mpr ⟨List.mem_of_getElem? (i := 56) (by decide +kernel), by decide +kernel⟩
theorem lf_VO_15 : Cond.fieldLink "DelayedExtents$Volume" 15 "DelayedExtents$Volume" "values" "[I" ∈ lw_good := List.mem_filter.mpr ⟨List.mem_of_getElem? (i := 57) (by decide +kernel), by decide +kernel⟩
set_option maxRecDepth 4000 in
theorem cc_VO_ownerOf (l : Launch) (D : va_G) (g : Nat → ClassId) (v : Nat) (vo : Nat) (vv : Nat) (ow : Nat → Int32) (vl : Nat → Int32) (p : Nat) (hp : p < 80) : ww_ct l D g yy_VO_ownerOf bb_VO_ownerOf 2 (some .int) (ww_rm 1) [.ref v, .int (nI p)] [(v, .inr (1, [.ref vo, .ref vv])), (vo, .inl (g 0, 80, .inl ow)), (vv, .inl (g 0, 80, .inl vl))] (some (.int (ow p))) [(v, .inr (1, [.ref vo, .ref vv])), (vo, .inl (g 0, 80, .inl ow)), (vv, .inl (g 0, 80, .inl vl))] := by
  refine ww_start (by decide +kernel) rfl rfl (Nat.le_of_ble_eq_true rfl) (L0 := [(0, .ref v), (1, .int (nI p))]) rfl ?_
  intro X O hl hD hg hR hn F
  subst hl hD hg
  refine ww_aload_n O dd_VO_ownerOf_0 0 rfl ?_
  refine ww_get O ci_VO rfl 0 (by decide) lf_VO_9 rfl dd_VO_ownerOf_1 0 rfl rfl ?_
  refine ww_iload_n O dd_VO_ownerOf_4 1 rfl ?_
  refine ww_iald O dd_VO_ownerOf_5 1 rfl (by omega) (by decide) rfl ?_
  exact F.i dd_VO_ownerOf_6
set_option maxRecDepth 4000 in
theorem cc_VO_valueAt (l : Launch) (D : va_G) (g : Nat → ClassId) (v : Nat) (vo : Nat) (vv : Nat) (ow : Nat → Int32) (vl : Nat → Int32) (p : Nat) (hp : p < 80) : ww_ct l D g yy_VO_valueAt bb_VO_valueAt 2 (some .int) (ww_rm 1) [.ref v, .int (nI p)] [(v, .inr (1, [.ref vo, .ref vv])), (vo, .inl (g 0, 80, .inl ow)), (vv, .inl (g 0, 80, .inl vl))] (some (.int (vl p))) [(v, .inr (1, [.ref vo, .ref vv])), (vo, .inl (g 0, 80, .inl ow)), (vv, .inl (g 0, 80, .inl vl))] := by
  refine ww_start (by decide +kernel) rfl rfl (Nat.le_of_ble_eq_true rfl) (L0 := [(0, .ref v), (1, .int (nI p))]) rfl ?_
  intro X O hl hD hg hR hn F
  subst hl hD hg
  refine ww_aload_n O dd_VO_valueAt_0 0 rfl ?_
  refine ww_get O ci_VO rfl 1 (by decide) lf_VO_15 rfl dd_VO_valueAt_1 0 rfl rfl ?_
  refine ww_iload_n O dd_VO_valueAt_4 1 rfl ?_
  refine ww_iald O dd_VO_valueAt_5 2 rfl (by omega) (by decide) rfl ?_
  exact F.i dd_VO_valueAt_6
set_option maxRecDepth 4000 in
theorem cc_VO_setValue (l : Launch) (D : va_G) (g : Nat → ClassId) (v : Nat) (vo : Nat) (vv : Nat) (ow : Nat → Int32) (vl : Nat → Int32) (p : Nat) (x : Int32) (hp : p < 80) : ww_ct l D g yy_VO_setValue bb_VO_setValue 3 none (ww_rm 1) [.ref v, .int (nI p), .int x] [(v, .inr (1, [.ref vo, .ref vv])), (vo, .inl (g 0, 80, .inl ow)), (vv, .inl (g 0, 80, .inl vl))] none [(v, .inr (1, [.ref vo, .ref vv])), (vo, .inl (g 0, 80, .inl ow)), (vv, .inl (g 0, 80, .inl (upd vl p x)))] := by
  refine ww_start (by decide +kernel) rfl trivial (Nat.le_of_ble_eq_true rfl) (L0 := [(0, .ref v), (1, .int (nI p)), (2, .int x)]) rfl ?_
  intro X O hl hD hg hR hn F
  subst hl hD hg
  refine ww_aload_n O dd_VO_setValue_0 0 rfl ?_
  refine ww_get O ci_VO rfl 1 (by decide) lf_VO_15 rfl dd_VO_setValue_1 0 rfl rfl ?_
  refine ww_iload_n O dd_VO_setValue_4 1 rfl ?_
  refine ww_iload_n O dd_VO_setValue_5 2 rfl ?_
  refine ww_iast O dd_VO_setValue_6 2 rfl (by omega) (by decide) (ws' := [(v, .inr (1, [.ref vo, .ref vv])), (vo, .inl (ww_g X 0, 80, .inl ow)), (vv, .inl (ww_g X 0, 80, .inl (upd vl p x)))]) rfl ?_
  exact F.v dd_VO_setValue_7
set_option maxRecDepth 4000 in
theorem cc_VO_take (l : Launch) (D : va_G) (g : Nat → ClassId) (v : Nat) (vo : Nat) (vv : Nat) (ow : Nat → Int32) (vl : Nat → Int32) (p : Nat) (x : Int32) (hp : p < 80) : ww_ct l D g yy_VO_take bb_VO_take 3 none (ww_rm 1) [.ref v, .int (nI p), .int x] [(v, .inr (1, [.ref vo, .ref vv])), (vo, .inl (g 0, 80, .inl ow)), (vv, .inl (g 0, 80, .inl vl))] none [(v, .inr (1, [.ref vo, .ref vv])), (vo, .inl (g 0, 80, .inl (upd ow p x))), (vv, .inl (g 0, 80, .inl vl))] := by
  refine ww_start (by decide +kernel) rfl trivial (Nat.le_of_ble_eq_true rfl) (L0 := [(0, .ref v), (1, .int (nI p)), (2, .int x)]) rfl ?_
  intro X O hl hD hg hR hn F
  subst hl hD hg
  refine ww_aload_n O dd_VO_take_0 0 rfl ?_
  refine ww_get O ci_VO rfl 0 (by decide) lf_VO_9 rfl dd_VO_take_1 0 rfl rfl ?_
  refine ww_iload_n O dd_VO_take_4 1 rfl ?_
  refine ww_iload_n O dd_VO_take_5 2 rfl ?_
  refine ww_iast O dd_VO_take_6 1 rfl (by omega) (by decide) (ws' := [(v, .inr (1, [.ref vo, .ref vv])), (vo, .inl (ww_g X 0, 80, .inl (upd ow p x))), (vv, .inl (ww_g X 0, 80, .inl vl))]) rfl ?_
  exact F.v dd_VO_take_7
set_option maxRecDepth 4000 in
theorem cc_VO_release (l : Launch) (D : va_G) (g : Nat → ClassId) (v : Nat) (vo : Nat) (vv : Nat) (ow : Nat → Int32) (vl : Nat → Int32) (p : Nat) (hp : p < 80) : ww_ct l D g yy_VO_release bb_VO_release 2 none (ww_rm 1) [.ref v, .int (nI p)] [(v, .inr (1, [.ref vo, .ref vv])), (vo, .inl (g 0, 80, .inl ow)), (vv, .inl (g 0, 80, .inl vl))] none [(v, .inr (1, [.ref vo, .ref vv])), (vo, .inl (g 0, 80, .inl (upd ow p (-1)))), (vv, .inl (g 0, 80, .inl vl))] := by
  refine ww_start (by decide +kernel) rfl trivial (Nat.le_of_ble_eq_true rfl) (L0 := [(0, .ref v), (1, .int (nI p))]) rfl ?_
  intro X O hl hD hg hR hn F
  subst hl hD hg
  refine ww_aload_n O dd_VO_release_0 0 rfl ?_
  refine ww_get O ci_VO rfl 0 (by decide) lf_VO_9 rfl dd_VO_release_1 0 rfl rfl ?_
  refine ww_iload_n O dd_VO_release_4 1 rfl ?_
  refine ww_iconst O dd_VO_release_5 (v := (-1)) rfl ?_
  refine ww_iast O dd_VO_release_6 1 rfl (by omega) (by decide) (ws' := [(v, .inr (1, [.ref vo, .ref vv])), (vo, .inl (ww_g X 0, 80, .inl (upd ow p (-1)))), (vv, .inl (ww_g X 0, 80, .inl vl))]) rfl ?_
  exact F.v dd_VO_release_7
