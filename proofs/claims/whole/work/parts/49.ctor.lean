
theorem la_int : Cond.arrayClass .int ∈ lw_good := List.mem_filter.mpr ⟨List.mem_of_getElem? (i := 63) (by decide +kernel), by decide +kernel⟩
theorem la_bool : Cond.arrayClass .boolean ∈ lw_good := List.mem_filter.mpr ⟨List.mem_of_getElem? (i := 97) (by decide +kernel), by decide +kernel⟩
theorem la_long : Cond.arrayClass .long ∈ lw_good := List.mem_filter.mpr ⟨List.mem_of_getElem? (i := 657) (by decide +kernel), by decide +kernel⟩
theorem lo_inst : Cond.instanceMethod Lib.objectInit ∈ lw_good := List.mem_filter.mpr ⟨List.mem_of_getElem? (i := 45) (by decide +kernel), by decide +kernel⟩
theorem lo_code : Cond.code Lib.objectInit ⟨#[0xb1]⟩ 1 none ∈ lw_good := List.mem_filter.mpr ⟨List.mem_of_getElem? (i := 46) (by decide +kernel), by decide +kernel⟩
theorem lo_DE : Cond.methodLink "DelayedExtents" 1 Lib.objectInit ∈ lw_good := List.mem_filter.mpr ⟨List.mem_of_getElem? (i := 44) (by decide +kernel), by decide +kernel⟩
theorem lo_VO : Cond.methodLink "DelayedExtents$Volume" 3 Lib.objectInit ∈ lw_good := List.mem_filter.mpr ⟨List.mem_of_getElem? (i := 52) (by decide +kernel), by decide +kernel⟩
theorem lo_BF : Cond.methodLink "DelayedExtents$BlockFile" 3 Lib.objectInit ∈ lw_good := List.mem_filter.mpr ⟨List.mem_of_getElem? (i := 70) (by decide +kernel), by decide +kernel⟩
theorem lo_MO : Cond.methodLink "DelayedExtentsModel" 1 Lib.objectInit ∈ lw_good := List.mem_filter.mpr ⟨List.mem_of_getElem? (i := 501) (by decide +kernel), by decide +kernel⟩
theorem ln_VO : Cond.classLink "DelayedExtents" 7 cs_VO ∈ lw_good ∧ Cond.instantiable cs_VO 2 ∈ lw_good ∧ Cond.initialized cs_VO ∈ lw_good := ⟨List.mem_filter.mpr ⟨List.mem_of_getElem? (i := 47) (by decide +kernel), by decide +kernel⟩, List.mem_filter.mpr ⟨List.mem_of_getElem? (i := 48) (by decide +kernel), by decide +kernel⟩, List.mem_filter.mpr ⟨List.mem_of_getElem? (i := 27) (by decide +kernel), by decide +kernel⟩⟩
theorem lm_VO : Cond.instanceMethod yy_VO_init ∈ lw_good := List.mem_filter.mpr ⟨List.mem_of_getElem? (i := 50) (by decide +kernel), by decide +kernel⟩
theorem ln_BF : Cond.classLink "DelayedExtents" 16 cs_BF ∈ lw_good ∧ Cond.instantiable cs_BF 8 ∈ lw_good ∧ Cond.initialized cs_BF ∈ lw_good := ⟨List.mem_filter.mpr ⟨List.mem_of_getElem? (i := 64) (by decide +kernel), by decide +kernel⟩, List.mem_filter.mpr ⟨List.mem_of_getElem? (i := 66) (by decide +kernel), by decide +kernel⟩, List.mem_filter.mpr ⟨List.mem_of_getElem? (i := 29) (by decide +kernel), by decide +kernel⟩⟩
theorem lm_BF : Cond.instanceMethod yy_BF_init ∈ lw_good := List.mem_filter.mpr ⟨List.mem_of_getElem? (i := 68) (by decide +kernel), by decide +kernel⟩
theorem ln_DE : Cond.classLink "DelayedExtentsLaw" 8 cs_DE ∈ lw_good ∧ Cond.instantiable cs_DE 2 ∈ lw_good ∧ Cond.initialized cs_DE ∈ lw_good := ⟨List.mem_filter.mpr ⟨List.mem_of_getElem? (i := 39) (by decide +kernel), by decide +kernel⟩, List.mem_filter.mpr ⟨List.mem_of_getElem? (i := 40) (by decide +kernel), by decide +kernel⟩, List.mem_filter.mpr ⟨List.mem_of_getElem? (i := 26) (by decide +kernel), by decide +kernel⟩⟩
theorem lm_DE : Cond.instanceMethod yy_DE_init ∈ lw_good := List.mem_filter.mpr ⟨List.mem_of_getElem? (i := 42) (by decide +kernel), by decide +kernel⟩
theorem ln_MO : Cond.classLink "DelayedExtentsLaw" 52 cs_MO ∈ lw_good ∧ Cond.instantiable cs_MO 11 ∈ lw_good ∧ Cond.initialized cs_MO ∈ lw_good := ⟨List.mem_filter.mpr ⟨List.mem_of_getElem? (i := 496) (by decide +kernel), by decide +kernel⟩, List.mem_filter.mpr ⟨List.mem_of_getElem? (i := 497) (by decide +kernel), by decide +kernel⟩, List.mem_filter.mpr ⟨List.mem_of_getElem? (i := 30) (by decide +kernel), by decide +kernel⟩⟩
theorem lm_MO : Cond.instanceMethod yy_MO_init ∈ lw_good := List.mem_filter.mpr ⟨List.mem_of_getElem? (i := 499) (by decide +kernel), by decide +kernel⟩
abbrev bb_AR_fill : ByteArray := prog_14_method_103_code
def yy_AR_fill : MethodName := ⟨"java/util/Arrays", "fill", "([II)V"⟩
theorem dd_AR_fill_0 : decode bb_AR_fill 0 = .ok (.iconst 0, 1) := by decide +kernel
theorem dd_AR_fill_1 : decode bb_AR_fill 1 = .ok (.istore_n 2, 1) := by decide +kernel
theorem dd_AR_fill_2 : decode bb_AR_fill 2 = .ok (.aload_n 0, 1) := by decide +kernel
theorem dd_AR_fill_3 : decode bb_AR_fill 3 = .ok (.arraylength, 1) := by decide +kernel
theorem dd_AR_fill_4 : decode bb_AR_fill 4 = .ok (.istore_n 3, 1) := by decide +kernel
theorem dd_AR_fill_5 : decode bb_AR_fill 5 = .ok (.iload_n 2, 1) := by decide +kernel
theorem dd_AR_fill_6 : decode bb_AR_fill 6 = .ok (.iload_n 3, 1) := by decide +kernel
theorem dd_AR_fill_7 : decode bb_AR_fill 7 = .ok (.if_icmp .ge 13, 3) := by decide +kernel
theorem dd_AR_fill_10 : decode bb_AR_fill 10 = .ok (.aload_n 0, 1) := by decide +kernel
theorem dd_AR_fill_11 : decode bb_AR_fill 11 = .ok (.iload_n 2, 1) := by decide +kernel
theorem dd_AR_fill_12 : decode bb_AR_fill 12 = .ok (.iload_n 1, 1) := by decide +kernel
theorem dd_AR_fill_13 : decode bb_AR_fill 13 = .ok (.iastore, 1) := by decide +kernel
theorem dd_AR_fill_14 : decode bb_AR_fill 14 = .ok (.iinc 2 1, 3) := by decide +kernel
theorem dd_AR_fill_17 : decode bb_AR_fill 17 = .ok (.goto (-12), 3) := by decide +kernel
theorem dd_AR_fill_20 : decode bb_AR_fill 20 = .ok (.return_, 1) := by decide +kernel
theorem ls_AR_fill : Cond.static yy_AR_fill ∈ lw_good := List.mem_filter.mpr ⟨List.mem_of_getElem? (i := 54) (by decide +kernel), by decide +kernel⟩
theorem lc_VO_fill : ww_site "DelayedExtents$Volume" 18 yy_AR_fill bb_AR_fill 4 none 2 := ⟨List.mem_filter.mpr ⟨List.mem_of_getElem? (i := 55) (by decide +kernel), by decide +kernel⟩, List.mem_filter.mpr ⟨List.mem_of_getElem? (i := 53) (by decide +kernel), by decide +kernel⟩, List.mem_filter.mpr ⟨List.mem_of_getElem? (i := 28) (by decide +kernel), by decide +kernel⟩, by decide, by decide, by decide +kernel⟩
theorem lc_BF_fill : ww_site "DelayedExtents$BlockFile" 39 yy_AR_fill bb_AR_fill 4 none 2 := ⟨List.mem_filter.mpr ⟨List.mem_of_getElem? (i := 55) (by decide +kernel), by decide +kernel⟩, List.mem_filter.mpr ⟨List.mem_of_getElem? (i := 71) (by decide +kernel), by decide +kernel⟩, List.mem_filter.mpr ⟨List.mem_of_getElem? (i := 28) (by decide +kernel), by decide +kernel⟩, by decide, by decide, by decide +kernel⟩
theorem cc_AR_fill (l : Launch) (D : va_G) (g : Nat → ClassId) (a n : Nat) (f : Nat → Int32) (x : Int32) (hn3 : n < 2 ^ 30) : ww_ct l D g yy_AR_fill bb_AR_fill 4 none (ww_rm 1) [.ref a, .int x] [(a, .inl (g 0, n, .inl f))] none [(a, .inl (g 0, n, .inl (px_fill f 0 n x)))] := by
  refine ww_start (by decide +kernel) rfl trivial (Nat.le_of_ble_eq_true rfl) (L0 := [(0, .ref a), (1, .int x)]) rfl ?_
  intro X O hl hD hg hR hn F
  subst hl hD hg
  have loop : ∀ (k i : Nat), n ≤ i + k → i ≤ n → ww_at X 0 0 5 [(0, .ref a), (1, .int x), (2, .int (nI i)), (3, .int (nI n))] [] [(a, .inl (ww_g X 0, n, .inl (px_fill f 0 i x)))] := by
    intro k
    induction k with
    | zero =>
      intro i h1 h2
      refine ww_iload_n O dd_AR_fill_5 2 rfl ?_
      refine ww_iload_n O dd_AR_fill_6 3 rfl ?_
      refine ww_icmp_geN O dd_AR_fill_7 (tgt := 20) rfl (by omega) (by omega) (fun h7 => ?_) (fun h7 => ?_)
      · have ei : i = n := by omega
        subst ei
        exact F.v dd_AR_fill_20
      · exfalso; omega
    | succ k ih =>
      intro i h1 h2
      refine ww_iload_n O dd_AR_fill_5 2 rfl ?_
      refine ww_iload_n O dd_AR_fill_6 3 rfl ?_
      refine ww_icmp_geN O dd_AR_fill_7 (tgt := 20) rfl (by omega) (by omega) (fun h7 => ?_) (fun h7 => ?_)
      · have ei : i = n := by omega
        subst ei
        exact F.v dd_AR_fill_20
      · refine ww_aload_n O dd_AR_fill_10 0 rfl ?_
        refine ww_iload_n O dd_AR_fill_11 2 rfl ?_
        refine ww_iload_n O dd_AR_fill_12 1 rfl ?_
        refine ww_iast O dd_AR_fill_13 0 rfl (by omega) (by omega) (ws' := [(a, .inl (ww_g X 0, n, .inl (upd (px_fill f 0 i x) i x)))]) rfl ?_
        refine ww_iinc O dd_AR_fill_14 2 rfl (v := nI (i + 1)) (nI_add _ 1) (by rw [hn]; decide) rfl (L' := [(0, .ref a), (1, .int x), (2, .int (nI (i + 1))), (3, .int (nI n))]) rfl ?_
        refine ww_goto O dd_AR_fill_17 (tgt := 5) rfl ?_
        have e1 : upd (px_fill f 0 i x) i x = px_fill f 0 (i + 1) x := by have h9 := px_fill_s (f := f) (a := 0) (n := i) (v := x); rw [Nat.zero_add] at h9; exact h9
        rw [e1]
        exact ih (i + 1) (by omega) (by omega)
  have h0 := loop n 0 (by omega) (by omega)
  rw [px_fill_0] at h0
  refine ww_iconst O dd_AR_fill_0 (v := nI 0) rfl ?_
  refine ww_istore_n O dd_AR_fill_1 (by rw [hn]; decide) rfl (L' := [(0, .ref a), (1, .int x), (2, .int (nI 0))]) rfl ?_
  refine ww_aload_n O dd_AR_fill_2 0 rfl ?_
  refine ww_alen O dd_AR_fill_3 0 rfl ?_
  refine ww_istore_n O dd_AR_fill_4 (by rw [hn]; decide) rfl (L' := [(0, .ref a), (1, .int x), (2, .int (nI 0)), (3, .int (nI n))]) rfl ?_
  exact h0
set_option maxRecDepth 8000 in
theorem ck_VO (l : Launch) (D : va_G) (g : Nat → ClassId) (v : Nat) : wi_ct l D g yy_VO_init bb_VO_init 1 (wi_rm 2 2 160) [.ref v] [(v, .inr (1, [.null, .null]))] (fun w1 => ∃ vo vv : Nat, w1 = [(v, .inr (1, [.ref vo, .ref vv])), (vo, .inl (g 0, 80, .inl (px_fill (fun _ => nI 0) 0 80 (-1)))), (vv, .inl (g 0, 80, .inl (fun _ => nI 0)))]) := by
  refine wi_start (by decide +kernel) rfl (Nat.le_of_ble_eq_true rfl) (L0 := [(0, .ref v)]) rfl ?_
  intro X O hl hD hg hR hn hin hao F
  subst hl hD hg
  refine ww_aload_n O dd_VO_init_0 0 rfl ?_
  refine ww_obj O lo_VO lo_inst lo_code dd_VO_init_1 (by rw [hR]; decide) (by rw [hR]; exact Nat.le_of_ble_eq_true rfl) ?_
  refine ww_aload_n O dd_VO_init_4 0 rfl ?_
  refine ww_bipush O dd_VO_init_5 (v := nI 80) rfl ?_
  refine ww_newi O (by decide) la_int (by rw [hR]; decide) (by rw [hR]; decide) dd_VO_init_7 (fun q7 => ?_)
  refine ww_eqw (ws' := [(v, .inr (1, [.null, .null])), (q7, .inl (ww_g X 0, 80, .inl (fun _ => nI 0)))]) rfl ?_
  refine ww_putF O hin ci_VO cy_VO cy_VO_ok cn_VO rfl 0 (by decide) lf_VO_9 rfl rfl rfl (ty := .array .int) (by decide +kernel) dd_VO_init_9 0 rfl rfl rfl (Nat.le_of_ble_eq_true rfl) (ws' := [(v, .inr (1, [.ref q7, .null])), (q7, .inl (ww_g X 0, 80, .inl (fun _ => nI 0)))]) rfl ?_
  refine ww_aload_n O dd_VO_init_12 0 rfl ?_
  refine ww_bipush O dd_VO_init_13 (v := nI 80) rfl ?_
  refine ww_newi O (by decide) la_int (by rw [hR]; decide) (by rw [hR]; decide) dd_VO_init_15 (fun q15 => ?_)
  refine ww_eqw (ws' := [(v, .inr (1, [.ref q7, .null])), (q7, .inl (ww_g X 0, 80, .inl (fun _ => nI 0))), (q15, .inl (ww_g X 0, 80, .inl (fun _ => nI 0)))]) rfl ?_
  refine ww_putF O hin ci_VO cy_VO cy_VO_ok cn_VO rfl 1 (by decide) lf_VO_15 rfl rfl rfl (ty := .array .int) (by decide +kernel) dd_VO_init_17 0 rfl rfl rfl (Nat.le_of_ble_eq_true rfl) (ws' := [(v, .inr (1, [.ref q7, .ref q15])), (q7, .inl (ww_g X 0, 80, .inl (fun _ => nI 0))), (q15, .inl (ww_g X 0, 80, .inl (fun _ => nI 0)))]) rfl ?_
  refine ww_aload_n O dd_VO_init_20 0 rfl ?_
  refine ww_get O ci_VO rfl 0 (by decide) lf_VO_9 rfl dd_VO_init_21 0 rfl rfl ?_
  refine ww_iconst O dd_VO_init_24 (v := (-1)) rfl ?_
  refine ww_callS O (cc_AR_fill _ _ _ q7 80 (fun _ => nI 0) (-1) (by decide)) lc_VO_fill ls_AR_fill (by rw [hR]; decide) (by rw [hR]; decide) (by rw [hR]; decide) rfl (Nat.le_of_ble_eq_true rfl) dd_VO_init_25 rfl [1] [0, 2] [0, 2, 1] rfl (by decide) rfl (by decide) (by decide) (ws' := [(v, .inr (1, [.ref q7, .ref q15])), (q7, .inl (ww_g X 0, 80, .inl (px_fill (fun _ => nI 0) 0 80 (-1)))), (q15, .inl (ww_g X 0, 80, .inl (fun _ => nI 0)))]) rfl rfl (by decide) ?_
  exact F _ _ _ ⟨q7, q15, rfl⟩ dd_VO_init_28
set_option maxRecDepth 8000 in
theorem ck_BF (l : Launch) (D : va_G) (g : Nat → ClassId) (h v fo : Nat) : wi_ct l D g yy_BF_init bb_BF_init 3 (wi_rm 2 5 300) [.ref h, .ref v, .int (nI fo)] [(h, .inr (0, [.null, .int 0, .null, .null, .null, .null, .null, .int 0]))] (fun w1 => ∃ ap aw ag av an : Nat, w1 = [(h, .inr (0, [.ref v, .int (nI fo), .ref ap, .ref aw, .ref ag, .ref av, .ref an, .int (nI 0)])), (ap, .inl (g 0, 60, .inl (px_fill (fun _ => nI 0) 0 60 (-1)))), (aw, .inl (g 1, 60, .inl (fun _ => nI 0))), (ag, .inl (g 1, 60, .inl (fun _ => nI 0))), (av, .inl (g 0, 60, .inl (fun _ => nI 0))), (an, .inl (g 1, 60, .inl (fun _ => nI 0)))]) := by
  refine wi_start (by decide +kernel) rfl (Nat.le_of_ble_eq_true rfl) (L0 := [(0, .ref h), (1, .ref v), (2, .int (nI fo))]) rfl ?_
  intro X O hl hD hg hR hn hin hao F
  subst hl hD hg
  refine ww_aload_n O dd_BF_init_0 0 rfl ?_
  refine ww_obj O lo_BF lo_inst lo_code dd_BF_init_1 (by rw [hR]; decide) (by rw [hR]; exact Nat.le_of_ble_eq_true rfl) ?_
  refine ww_aload_n O dd_BF_init_4 0 rfl ?_
  refine ww_bipush O dd_BF_init_5 (v := nI 60) rfl ?_
  refine ww_newi O (by decide) la_int (by rw [hR]; decide) (by rw [hR]; decide) dd_BF_init_7 (fun q7 => ?_)
  refine ww_eqw (ws' := [(h, .inr (0, [.null, .int 0, .null, .null, .null, .null, .null, .int 0])), (q7, .inl (ww_g X 0, 60, .inl (fun _ => nI 0)))]) rfl ?_
  refine ww_putF O hin ci_BF cy_BF cy_BF_ok cn_BF rfl 2 (by decide) lf_BF_9 rfl rfl rfl (ty := .array .int) (by decide +kernel) dd_BF_init_9 0 rfl rfl rfl (Nat.le_of_ble_eq_true rfl) (ws' := [(h, .inr (0, [.null, .int 0, .ref q7, .null, .null, .null, .null, .int 0])), (q7, .inl (ww_g X 0, 60, .inl (fun _ => nI 0)))]) rfl ?_
  refine ww_aload_n O dd_BF_init_12 0 rfl ?_
  refine ww_bipush O dd_BF_init_13 (v := nI 60) rfl ?_
  refine ww_newz O (by decide) la_bool (by rw [hR]; decide) (by rw [hR]; decide) dd_BF_init_15 (fun q15 => ?_)
  refine ww_eqw (ws' := [(h, .inr (0, [.null, .int 0, .ref q7, .null, .null, .null, .null, .int 0])), (q7, .inl (ww_g X 0, 60, .inl (fun _ => nI 0))), (q15, .inl (ww_g X 1, 60, .inl (fun _ => nI 0)))]) rfl ?_
  refine ww_putF O hin ci_BF cy_BF cy_BF_ok cn_BF rfl 3 (by decide) lf_BF_15 rfl rfl rfl (ty := .array .boolean) (by decide +kernel) dd_BF_init_17 0 rfl rfl rfl (Nat.le_of_ble_eq_true rfl) (ws' := [(h, .inr (0, [.null, .int 0, .ref q7, .ref q15, .null, .null, .null, .int 0])), (q7, .inl (ww_g X 0, 60, .inl (fun _ => nI 0))), (q15, .inl (ww_g X 1, 60, .inl (fun _ => nI 0)))]) rfl ?_
  refine ww_aload_n O dd_BF_init_20 0 rfl ?_
  refine ww_bipush O dd_BF_init_21 (v := nI 60) rfl ?_
  refine ww_newz O (by decide) la_bool (by rw [hR]; decide) (by rw [hR]; decide) dd_BF_init_23 (fun q23 => ?_)
  refine ww_eqw (ws' := [(h, .inr (0, [.null, .int 0, .ref q7, .ref q15, .null, .null, .null, .int 0])), (q7, .inl (ww_g X 0, 60, .inl (fun _ => nI 0))), (q15, .inl (ww_g X 1, 60, .inl (fun _ => nI 0))), (q23, .inl (ww_g X 1, 60, .inl (fun _ => nI 0)))]) rfl ?_
  refine ww_putF O hin ci_BF cy_BF cy_BF_ok cn_BF rfl 4 (by decide) lf_BF_19 rfl rfl rfl (ty := .array .boolean) (by decide +kernel) dd_BF_init_25 0 rfl rfl rfl (Nat.le_of_ble_eq_true rfl) (ws' := [(h, .inr (0, [.null, .int 0, .ref q7, .ref q15, .ref q23, .null, .null, .int 0])), (q7, .inl (ww_g X 0, 60, .inl (fun _ => nI 0))), (q15, .inl (ww_g X 1, 60, .inl (fun _ => nI 0))), (q23, .inl (ww_g X 1, 60, .inl (fun _ => nI 0)))]) rfl ?_
  refine ww_aload_n O dd_BF_init_28 0 rfl ?_
  refine ww_bipush O dd_BF_init_29 (v := nI 60) rfl ?_
  refine ww_newi O (by decide) la_int (by rw [hR]; decide) (by rw [hR]; decide) dd_BF_init_31 (fun q31 => ?_)
  refine ww_eqw (ws' := [(h, .inr (0, [.null, .int 0, .ref q7, .ref q15, .ref q23, .null, .null, .int 0])), (q7, .inl (ww_g X 0, 60, .inl (fun _ => nI 0))), (q15, .inl (ww_g X 1, 60, .inl (fun _ => nI 0))), (q23, .inl (ww_g X 1, 60, .inl (fun _ => nI 0))), (q31, .inl (ww_g X 0, 60, .inl (fun _ => nI 0)))]) rfl ?_
  refine ww_putF O hin ci_BF cy_BF cy_BF_ok cn_BF rfl 5 (by decide) lf_BF_22 rfl rfl rfl (ty := .array .int) (by decide +kernel) dd_BF_init_33 0 rfl rfl rfl (Nat.le_of_ble_eq_true rfl) (ws' := [(h, .inr (0, [.null, .int 0, .ref q7, .ref q15, .ref q23, .ref q31, .null, .int 0])), (q7, .inl (ww_g X 0, 60, .inl (fun _ => nI 0))), (q15, .inl (ww_g X 1, 60, .inl (fun _ => nI 0))), (q23, .inl (ww_g X 1, 60, .inl (fun _ => nI 0))), (q31, .inl (ww_g X 0, 60, .inl (fun _ => nI 0)))]) rfl ?_
  refine ww_aload_n O dd_BF_init_36 0 rfl ?_
  refine ww_bipush O dd_BF_init_37 (v := nI 60) rfl ?_
  refine ww_newz O (by decide) la_bool (by rw [hR]; decide) (by rw [hR]; decide) dd_BF_init_39 (fun q39 => ?_)
  refine ww_eqw (ws' := [(h, .inr (0, [.null, .int 0, .ref q7, .ref q15, .ref q23, .ref q31, .null, .int 0])), (q7, .inl (ww_g X 0, 60, .inl (fun _ => nI 0))), (q15, .inl (ww_g X 1, 60, .inl (fun _ => nI 0))), (q23, .inl (ww_g X 1, 60, .inl (fun _ => nI 0))), (q31, .inl (ww_g X 0, 60, .inl (fun _ => nI 0))), (q39, .inl (ww_g X 1, 60, .inl (fun _ => nI 0)))]) rfl ?_
  refine ww_putF O hin ci_BF cy_BF cy_BF_ok cn_BF rfl 6 (by decide) lf_BF_25 rfl rfl rfl (ty := .array .boolean) (by decide +kernel) dd_BF_init_41 0 rfl rfl rfl (Nat.le_of_ble_eq_true rfl) (ws' := [(h, .inr (0, [.null, .int 0, .ref q7, .ref q15, .ref q23, .ref q31, .ref q39, .int 0])), (q7, .inl (ww_g X 0, 60, .inl (fun _ => nI 0))), (q15, .inl (ww_g X 1, 60, .inl (fun _ => nI 0))), (q23, .inl (ww_g X 1, 60, .inl (fun _ => nI 0))), (q31, .inl (ww_g X 0, 60, .inl (fun _ => nI 0))), (q39, .inl (ww_g X 1, 60, .inl (fun _ => nI 0)))]) rfl ?_
  refine ww_aload_n O dd_BF_init_44 0 rfl ?_
  refine ww_iconst O dd_BF_init_45 (v := nI 0) rfl ?_
  refine ww_put O ci_BF cy_BF cy_BF_ok cn_BF rfl 7 (by decide) lf_BF_28 rfl rfl (ty := .int) (by decide +kernel) dd_BF_init_46 0 rfl rfl rfl (Nat.le_of_ble_eq_true rfl) (ws' := [(h, .inr (0, [.null, .int 0, .ref q7, .ref q15, .ref q23, .ref q31, .ref q39, .int (nI 0)])), (q7, .inl (ww_g X 0, 60, .inl (fun _ => nI 0))), (q15, .inl (ww_g X 1, 60, .inl (fun _ => nI 0))), (q23, .inl (ww_g X 1, 60, .inl (fun _ => nI 0))), (q31, .inl (ww_g X 0, 60, .inl (fun _ => nI 0))), (q39, .inl (ww_g X 1, 60, .inl (fun _ => nI 0)))]) rfl ?_
  refine ww_aload_n O dd_BF_init_49 0 rfl ?_
  refine ww_aload_n O dd_BF_init_50 1 rfl ?_
  refine ww_putF O hin ci_BF cy_BF cy_BF_ok cn_BF rfl 0 (by decide) lf_BF_32 rfl rfl rfl (ty := .object "DelayedExtents$Volume") (by decide +kernel) dd_BF_init_51 0 rfl rfl rfl (Nat.le_of_ble_eq_true rfl) (ws' := [(h, .inr (0, [.ref v, .int 0, .ref q7, .ref q15, .ref q23, .ref q31, .ref q39, .int (nI 0)])), (q7, .inl (ww_g X 0, 60, .inl (fun _ => nI 0))), (q15, .inl (ww_g X 1, 60, .inl (fun _ => nI 0))), (q23, .inl (ww_g X 1, 60, .inl (fun _ => nI 0))), (q31, .inl (ww_g X 0, 60, .inl (fun _ => nI 0))), (q39, .inl (ww_g X 1, 60, .inl (fun _ => nI 0)))]) rfl ?_
  refine ww_aload_n O dd_BF_init_54 0 rfl ?_
  refine ww_iload_n O dd_BF_init_55 2 rfl ?_
  refine ww_putF O hin ci_BF cy_BF cy_BF_ok cn_BF rfl 1 (by decide) lf_BF_36 rfl rfl rfl (ty := .int) (by decide +kernel) dd_BF_init_56 0 rfl rfl rfl (Nat.le_of_ble_eq_true rfl) (ws' := [(h, .inr (0, [.ref v, .int (nI fo), .ref q7, .ref q15, .ref q23, .ref q31, .ref q39, .int (nI 0)])), (q7, .inl (ww_g X 0, 60, .inl (fun _ => nI 0))), (q15, .inl (ww_g X 1, 60, .inl (fun _ => nI 0))), (q23, .inl (ww_g X 1, 60, .inl (fun _ => nI 0))), (q31, .inl (ww_g X 0, 60, .inl (fun _ => nI 0))), (q39, .inl (ww_g X 1, 60, .inl (fun _ => nI 0)))]) rfl ?_
  refine ww_aload_n O dd_BF_init_59 0 rfl ?_
  refine ww_get O ci_BF rfl 2 (by decide) lf_BF_9 rfl dd_BF_init_60 0 rfl rfl ?_
  refine ww_iconst O dd_BF_init_63 (v := (-1)) rfl ?_
  refine ww_callS O (cc_AR_fill _ _ _ q7 60 (fun _ => nI 0) (-1) (by decide)) lc_BF_fill ls_AR_fill (by rw [hR]; decide) (by rw [hR]; decide) (by rw [hR]; decide) rfl (Nat.le_of_ble_eq_true rfl) dd_BF_init_64 rfl [1] [0, 2, 3, 4, 5] [0, 5, 1, 2, 3, 4] rfl (by decide) rfl (by decide) (by decide) (ws' := [(h, .inr (0, [.ref v, .int (nI fo), .ref q7, .ref q15, .ref q23, .ref q31, .ref q39, .int (nI 0)])), (q7, .inl (ww_g X 0, 60, .inl (px_fill (fun _ => nI 0) 0 60 (-1)))), (q15, .inl (ww_g X 1, 60, .inl (fun _ => nI 0))), (q23, .inl (ww_g X 1, 60, .inl (fun _ => nI 0))), (q31, .inl (ww_g X 0, 60, .inl (fun _ => nI 0))), (q39, .inl (ww_g X 1, 60, .inl (fun _ => nI 0)))]) rfl rfl (by decide) ?_
  exact F _ _ _ ⟨q7, q15, q23, q31, q39, rfl⟩ dd_BF_init_67
