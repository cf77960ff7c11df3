theorem lc_DE_84 : ww_site "DelayedExtents" 84 yy_DE_requireFile bb_DE_requireFile 1 none 1 := ⟨List.mem_filter.mpr ⟨List.mem_of_getElem? (i := 187) (by decide +kernel), by decide +kernel⟩, List.mem_filter.mpr ⟨List.mem_of_getElem? (i := 185) (by decide +kernel), by decide +kernel⟩, List.mem_filter.mpr ⟨List.mem_of_getElem? (i := 26) (by decide +kernel), by decide +kernel⟩, by decide, by decide, by decide +kernel⟩
theorem ls_DE_requireFile_I_V : Cond.static yy_DE_requireFile ∈ lw_good := List.mem_filter.mpr ⟨List.mem_of_getElem? (i := 186) (by decide +kernel), by decide +kernel⟩
theorem le_DE_104 : ∀ w ∈ Bundle.ownAtoms0 "DelayedExtents" 104 "java/lang/IndexOutOfBoundsException" ["java/lang/RuntimeException", "java/lang/Exception"], w ∈ lw_good ∨ w ∈ cx_nw ∨ w ∈ cx_sw := by decide +kernel
theorem lk_DE_102 : Cond.classLink "DelayedExtents" 102 "java/lang/IndexOutOfBoundsException" ∈ lw_good ∧ Cond.instantiable "java/lang/IndexOutOfBoundsException" 6 ∈ lw_good ∧ Cond.initialized "java/lang/IndexOutOfBoundsException" ∈ lw_good := ⟨List.mem_filter.mpr ⟨List.mem_of_getElem? (i := 188) (by decide +kernel), by decide +kernel⟩, List.mem_filter.mpr ⟨List.mem_of_getElem? (i := 189) (by decide +kernel), by decide +kernel⟩, List.mem_filter.mpr ⟨List.mem_of_getElem? (i := 34) (by decide +kernel), by decide +kernel⟩⟩
theorem le_DE_89 : ∀ w ∈ Bundle.ownAtoms0 "DelayedExtents" 89 "java/lang/IllegalArgumentException" ["java/lang/RuntimeException", "java/lang/Exception"], w ∈ lw_good ∨ w ∈ cx_nw ∨ w ∈ cx_sw := by decide +kernel
theorem lk_DE_87 : Cond.classLink "DelayedExtents" 87 "java/lang/IllegalArgumentException" ∈ lw_good ∧ Cond.instantiable "java/lang/IllegalArgumentException" 6 ∈ lw_good ∧ Cond.initialized "java/lang/IllegalArgumentException" ∈ lw_good := ⟨List.mem_filter.mpr ⟨List.mem_of_getElem? (i := 327) (by decide +kernel), by decide +kernel⟩, List.mem_filter.mpr ⟨List.mem_of_getElem? (i := 328) (by decide +kernel), by decide +kernel⟩, List.mem_filter.mpr ⟨List.mem_of_getElem? (i := 38) (by decide +kernel), by decide +kernel⟩⟩
theorem le_DE_39 : ∀ w ∈ Bundle.ownAtoms0 "DelayedExtents" 39 "java/lang/IllegalStateException" ["java/lang/RuntimeException", "java/lang/Exception"], w ∈ lw_good ∨ w ∈ cx_nw ∨ w ∈ cx_sw := by decide +kernel
theorem lk_DE_37 : Cond.classLink "DelayedExtents" 37 "java/lang/IllegalStateException" ∈ lw_good ∧ Cond.instantiable "java/lang/IllegalStateException" 6 ∈ lw_good ∧ Cond.initialized "java/lang/IllegalStateException" ∈ lw_good := ⟨List.mem_filter.mpr ⟨List.mem_of_getElem? (i := 256) (by decide +kernel), by decide +kernel⟩, List.mem_filter.mpr ⟨List.mem_of_getElem? (i := 257) (by decide +kernel), by decide +kernel⟩, List.mem_filter.mpr ⟨List.mem_of_getElem? (i := 35) (by decide +kernel), by decide +kernel⟩⟩
theorem le_DE_53 : ∀ w ∈ Bundle.ownAtoms0 "DelayedExtents" 53 "java/lang/UnsupportedOperationException" ["java/lang/RuntimeException", "java/lang/Exception"], w ∈ lw_good ∨ w ∈ cx_nw ∨ w ∈ cx_sw := by decide +kernel
theorem lk_DE_51 : Cond.classLink "DelayedExtents" 51 "java/lang/UnsupportedOperationException" ∈ lw_good ∧ Cond.instantiable "java/lang/UnsupportedOperationException" 6 ∈ lw_good ∧ Cond.initialized "java/lang/UnsupportedOperationException" ∈ lw_good := ⟨List.mem_filter.mpr ⟨List.mem_of_getElem? (i := 282) (by decide +kernel), by decide +kernel⟩, List.mem_filter.mpr ⟨List.mem_of_getElem? (i := 283) (by decide +kernel), by decide +kernel⟩, List.mem_filter.mpr ⟨List.mem_of_getElem? (i := 37) (by decide +kernel), by decide +kernel⟩⟩
theorem px_cas (x : Int32) : x < 0 ∨ ∃ n, n < 2 ^ 31 ∧ x = nI n := by
  by_cases h : x < 0
  · exact Or.inl h
  · right
    have h0 : 0 ≤ x := Int32.not_lt.mp h
    have h1 : (0 : Int) ≤ x.toInt := by simpa using (Int32.le_iff_toInt_le.mp h0)
    have h2 : x.toInt < 2 ^ 31 := x.toInt_lt
    refine ⟨x.toInt.toNat, by omega, ?_⟩
    unfold nI
    apply Int32.toInt.inj
    rw [Int32.toInt_ofNat_of_lt (by omega)]
    omega
theorem px_nf_lt {x : Int32} {k : Nat} (h : px_nf x k = true) (hk : k + 1 < 2 ^ 31) (h0 : ¬ x < 0) : ¬ x < nI (k + 1) := by
  rcases px_cas x with h1 | ⟨n, hn, rfl⟩
  · exact absurd h1 h0
  · intro h2
    have h3 := (nI_ltI hn hk).mp h2
    rw [px_nf_nI (show n ≤ k by omega) (by omega)] at h
    exact absurd h (by decide)
theorem px_nf_or {x : Int32} {k : Nat} : px_nf x k = true ↔ x < 0 ∨ ¬ x ≤ nI k := by simp [px_nf]
theorem px_out {x : Int32} {k : Nat} (hk : k < 2 ^ 31) (h : x < 0 ∨ ¬ x ≤ nI k) : x.toInt < 0 ∨ (k : Int) < x.toInt := by
  rcases h with h | h
  · left
    simpa using Int32.lt_iff_toInt_lt.mp h
  · right
    have h1 := Int32.lt_iff_toInt_lt.mp (Int32.not_le.mp h)
    unfold nI at h1
    rwa [Int32.toInt_ofNat_of_lt hk] at h1
theorem px_m1n {n : Nat} (h : n < 2 ^ 31) : nI n ≠ -1 := by
  intro e
  have := px_m1 h
  simp [e] at this
theorem dx_wr {x : Int32} (h : x = 0 ∨ x = 1) : narrow .boolean (.int x) = .int x := by rcases h with rfl | rfl <;> rfl
set_option maxRecDepth 4000 in
theorem cc_DE_requireFile (l : Launch) (D : va_G) (g : Nat → ClassId) (f : Nat) (hf : f < 4) : ww_ct l D g yy_DE_requireFile bb_DE_requireFile 1 none (ww_rm 1) [.int (nI f)] [] none [] := by
  refine ww_start (by decide +kernel) rfl trivial (Nat.le_of_ble_eq_true rfl) (L0 := [(0, .int (nI f))]) rfl ?_
  intro X O hl hD hg hR hn F
  subst hl hD hg
  refine ww_iload_n O dd_DE_requireFile_0 0 rfl ?_
  refine ww_if_ltN O dd_DE_requireFile_1 (tgt := 9) rfl (by omega) (fun h1 => ?_) (fun h1 => ?_)
  · exfalso; omega
  · refine ww_iload_n O dd_DE_requireFile_4 0 rfl ?_
    refine ww_iconst O dd_DE_requireFile_5 (v := nI 4) rfl ?_
    refine ww_icmp_ltN O dd_DE_requireFile_6 (tgt := 17) rfl (by omega) (by omega) (fun h6 => ?_) (fun h6 => ?_)
    · exact F.v dd_DE_requireFile_17
    · exfalso; omega
set_option maxRecDepth 4000 in
theorem cc_DE_requireBlock (l : Launch) (D : va_G) (g : Nat → ClassId) (f : Nat) (b : Nat) (hf : f < 4) (hb : b < 60) : ww_ct l D g yy_DE_requireBlock bb_DE_requireBlock 2 none (ww_rm 2) [.int (nI f), .int (nI b)] [] none [] := by
  refine ww_start (by decide +kernel) rfl trivial (Nat.le_of_ble_eq_true rfl) (L0 := [(0, .int (nI f)), (1, .int (nI b))]) rfl ?_
  intro X O hl hD hg hR hn F
  subst hl hD hg
  refine ww_iload_n O dd_DE_requireBlock_0 0 rfl ?_
  refine ww_callS O (cc_DE_requireFile _ _ _ f (by omega)) lc_DE_84 ls_DE_requireFile_I_V (by rw [hR]; decide) (by rw [hR]; decide) (by rw [hR]; decide) rfl (Nat.le_of_ble_eq_true rfl) dd_DE_requireBlock_1 rfl [] [] [] rfl (by decide) rfl (by decide) (by decide) (ws' := []) rfl rfl (by decide) ?_
  refine ww_iload_n O dd_DE_requireBlock_4 1 rfl ?_
  refine ww_if_ltN O dd_DE_requireBlock_5 (tgt := 14) rfl (by omega) (fun h5 => ?_) (fun h5 => ?_)
  · exfalso; omega
  · refine ww_iload_n O dd_DE_requireBlock_8 1 rfl ?_
    refine ww_bipush O dd_DE_requireBlock_9 (v := nI 60) rfl ?_
    refine ww_icmp_ltN O dd_DE_requireBlock_11 (tgt := 22) rfl (by omega) (by omega) (fun h11 => ?_) (fun h11 => ?_)
    · exact F.v dd_DE_requireBlock_22
    · exfalso; omega
set_option maxRecDepth 4000 in
theorem cc_DE_requireRow (l : Launch) (D : va_G) (g : Nat → ClassId) (b : Nat) (n : Nat) (hb : b < 60) (hn1 : 0 < n) (hn2 : n ≤ 60 - b) : ww_ct l D g yy_DE_requireRow bb_DE_requireRow 2 none (ww_rm 1) [.int (nI b), .int (nI n)] [] none [] := by
  refine ww_start (by decide +kernel) rfl trivial (Nat.le_of_ble_eq_true rfl) (L0 := [(0, .int (nI b)), (1, .int (nI n))]) rfl ?_
  intro X O hl hD hg hR hn F
  subst hl hD hg
  refine ww_iload_n O dd_DE_requireRow_0 1 rfl ?_
  refine ww_iconst O dd_DE_requireRow_1 (v := nI 1) rfl ?_
  refine ww_icmp_ltN O dd_DE_requireRow_2 (tgt := 13) rfl (by omega) (by omega) (fun h2 => ?_) (fun h2 => ?_)
  · exfalso; omega
  · refine ww_iload_n O dd_DE_requireRow_5 1 rfl ?_
    refine ww_bipush O dd_DE_requireRow_6 (v := nI 60) rfl ?_
    refine ww_iload_n O dd_DE_requireRow_8 0 rfl ?_
    refine ww_isub O dd_DE_requireRow_9 (v := nI (60 - b)) (pk_sub (by omega)) ?_
    refine ww_icmp_leN O dd_DE_requireRow_10 (tgt := 21) rfl (by omega) (by omega) (fun h10 => ?_) (fun h10 => ?_)
    · exact F.v dd_DE_requireRow_21
    · exfalso; omega
set_option maxRecDepth 4000 in
theorem cc_DE_requirePlace (l : Launch) (D : va_G) (g : Nat → ClassId) (p : Nat) (hp : p < 80) : ww_ct l D g yy_DE_requirePlace bb_DE_requirePlace 1 none (ww_rm 1) [.int (nI p)] [] none [] := by
  refine ww_start (by decide +kernel) rfl trivial (Nat.le_of_ble_eq_true rfl) (L0 := [(0, .int (nI p))]) rfl ?_
  intro X O hl hD hg hR hn F
  subst hl hD hg
  refine ww_iload_n O dd_DE_requirePlace_0 0 rfl ?_
  refine ww_if_ltN O dd_DE_requirePlace_1 (tgt := 10) rfl (by omega) (fun h1 => ?_) (fun h1 => ?_)
  · exfalso; omega
  · refine ww_iload_n O dd_DE_requirePlace_4 0 rfl ?_
    refine ww_bipush O dd_DE_requirePlace_5 (v := nI 80) rfl ?_
    refine ww_icmp_ltN O dd_DE_requirePlace_7 (tgt := 18) rfl (by omega) (by omega) (fun h7 => ?_) (fun h7 => ?_)
    · exact F.v dd_DE_requirePlace_18
    · exfalso; omega
set_option maxRecDepth 4000 in
theorem ce_DE_requireFile (l : Launch) (D : va_G) (g : Nat → ClassId) (x : Int32) (hfl : l.flags = pinnedFlags ++ [noTraceFlag]) (hbad : px_nf x 3 = true) : wt_ct l D g yy_DE_requireFile bb_DE_requireFile 1 none (wt_rm 6) [.int x] [] "java/lang/IndexOutOfBoundsException" [] := by
  refine wt_start (by decide +kernel) rfl (Nat.le_of_ble_eq_true rfl) (L0 := [(0, .int x)]) rfl ?_
  intro X O hl hD hg hR hn hh F
  subst hl hD hg
  refine ww_iload_n O dd_DE_requireFile_0 0 rfl ?_
  refine ww_if_lt O dd_DE_requireFile_1 (tgt := 9) rfl (fun h1 => ?_) (fun h1 => ?_)
  · exact wt_newF O hfl hh le_DE_104 (by decide +kernel) (by decide +kernel) lk_DE_102.1 lk_DE_102.2.1 lk_DE_102.2.2 (by rw [hR]; decide) (by rw [hR]; exact Nat.le_of_ble_eq_true rfl) (by rw [hR]; decide) (by rw [hR]; decide) dd_DE_requireFile_9 dd_DE_requireFile_12 dd_DE_requireFile_13 dd_DE_requireFile_16 F
  · refine ww_iload_n O dd_DE_requireFile_4 0 rfl ?_
    refine ww_iconst O dd_DE_requireFile_5 (v := nI 4) rfl ?_
    refine ww_icmp_lt O dd_DE_requireFile_6 (tgt := 17) rfl (fun h6 => ?_) (fun h6 => ?_)
    · exact absurd h6 (px_nf_lt hbad (by decide) h1)
    · exact wt_newF O hfl hh le_DE_104 (by decide +kernel) (by decide +kernel) lk_DE_102.1 lk_DE_102.2.1 lk_DE_102.2.2 (by rw [hR]; decide) (by rw [hR]; exact Nat.le_of_ble_eq_true rfl) (by rw [hR]; decide) (by rw [hR]; decide) dd_DE_requireFile_9 dd_DE_requireFile_12 dd_DE_requireFile_13 dd_DE_requireFile_16 F
set_option maxRecDepth 4000 in
theorem ce_DE_requirePlace (l : Launch) (D : va_G) (g : Nat → ClassId) (x : Int32) (hfl : l.flags = pinnedFlags ++ [noTraceFlag]) (hbad : px_nf x 79 = true) : wt_ct l D g yy_DE_requirePlace bb_DE_requirePlace 1 none (wt_rm 6) [.int x] [] "java/lang/IndexOutOfBoundsException" [] := by
  refine wt_start (by decide +kernel) rfl (Nat.le_of_ble_eq_true rfl) (L0 := [(0, .int x)]) rfl ?_
  intro X O hl hD hg hR hn hh F
  subst hl hD hg
  refine ww_iload_n O dd_DE_requirePlace_0 0 rfl ?_
  refine ww_if_lt O dd_DE_requirePlace_1 (tgt := 10) rfl (fun h1 => ?_) (fun h1 => ?_)
  · exact wt_newF O hfl hh le_DE_104 (by decide +kernel) (by decide +kernel) lk_DE_102.1 lk_DE_102.2.1 lk_DE_102.2.2 (by rw [hR]; decide) (by rw [hR]; exact Nat.le_of_ble_eq_true rfl) (by rw [hR]; decide) (by rw [hR]; decide) dd_DE_requirePlace_10 dd_DE_requirePlace_13 dd_DE_requirePlace_14 dd_DE_requirePlace_17 F
  · refine ww_iload_n O dd_DE_requirePlace_4 0 rfl ?_
    refine ww_bipush O dd_DE_requirePlace_5 (v := nI 80) rfl ?_
    refine ww_icmp_lt O dd_DE_requirePlace_7 (tgt := 18) rfl (fun h7 => ?_) (fun h7 => ?_)
    · exact absurd h7 (px_nf_lt hbad (by decide) h1)
    · exact wt_newF O hfl hh le_DE_104 (by decide +kernel) (by decide +kernel) lk_DE_102.1 lk_DE_102.2.1 lk_DE_102.2.2 (by rw [hR]; decide) (by rw [hR]; exact Nat.le_of_ble_eq_true rfl) (by rw [hR]; decide) (by rw [hR]; decide) dd_DE_requirePlace_10 dd_DE_requirePlace_13 dd_DE_requirePlace_14 dd_DE_requirePlace_17 F
set_option maxRecDepth 4000 in
theorem ce_DE_requireRow (l : Launch) (D : va_G) (g : Nat → ClassId) (b : Nat) (x : Int32) (hfl : l.flags = pinnedFlags ++ [noTraceFlag]) (hb : b < 60) (hbad : x < nI 1 ∨ ¬ x ≤ nI (60 - b)) : wt_ct l D g yy_DE_requireRow bb_DE_requireRow 2 none (wt_rm 6) [.int (nI b), .int x] [] "java/lang/IllegalArgumentException" [] := by
  refine wt_start (by decide +kernel) rfl (Nat.le_of_ble_eq_true rfl) (L0 := [(0, .int (nI b)), (1, .int x)]) rfl ?_
  intro X O hl hD hg hR hn hh F
  subst hl hD hg
  refine ww_iload_n O dd_DE_requireRow_0 1 rfl ?_
  refine ww_iconst O dd_DE_requireRow_1 (v := nI 1) rfl ?_
  refine ww_icmp_lt O dd_DE_requireRow_2 (tgt := 13) rfl (fun h2 => ?_) (fun h2 => ?_)
  · exact wt_newF O hfl hh le_DE_89 (by decide +kernel) (by decide +kernel) lk_DE_87.1 lk_DE_87.2.1 lk_DE_87.2.2 (by rw [hR]; decide) (by rw [hR]; exact Nat.le_of_ble_eq_true rfl) (by rw [hR]; decide) (by rw [hR]; decide) dd_DE_requireRow_13 dd_DE_requireRow_16 dd_DE_requireRow_17 dd_DE_requireRow_20 F
  · refine ww_iload_n O dd_DE_requireRow_5 1 rfl ?_
    refine ww_bipush O dd_DE_requireRow_6 (v := nI 60) rfl ?_
    refine ww_iload_n O dd_DE_requireRow_8 0 rfl ?_
    refine ww_isub O dd_DE_requireRow_9 (v := nI (60 - b)) (pk_sub (by omega)) ?_
    refine ww_icmp_le O dd_DE_requireRow_10 (tgt := 21) rfl (fun h10 => ?_) (fun h10 => ?_)
    · exact absurd h10 (hbad.elim (fun q => absurd q h2) id)
    · exact wt_newF O hfl hh le_DE_89 (by decide +kernel) (by decide +kernel) lk_DE_87.1 lk_DE_87.2.1 lk_DE_87.2.2 (by rw [hR]; decide) (by rw [hR]; exact Nat.le_of_ble_eq_true rfl) (by rw [hR]; decide) (by rw [hR]; decide) dd_DE_requireRow_13 dd_DE_requireRow_16 dd_DE_requireRow_17 dd_DE_requireRow_20 F
set_option maxRecDepth 4000 in
theorem ce_DE_reqBlock_f (l : Launch) (D : va_G) (g : Nat → ClassId) (x : Int32) (y : Int32) (hfl : l.flags = pinnedFlags ++ [noTraceFlag]) (hbad : px_nf x 3 = true) : wt_ct l D g yy_DE_requireBlock bb_DE_requireBlock 2 none (wt_rm 7) [.int x, .int y] [] "java/lang/IndexOutOfBoundsException" [] := by
  refine wt_start (by decide +kernel) rfl (Nat.le_of_ble_eq_true rfl) (L0 := [(0, .int x), (1, .int y)]) rfl ?_
  intro X O hl hD hg hR hn hh F
  subst hl hD hg
  refine ww_iload_n O dd_DE_requireBlock_0 0 rfl ?_
  exact wt_callS O (ce_DE_requireFile _ _ _ x hfl hbad) lc_DE_84 ls_DE_requireFile_I_V (by rw [hR]; decide) (by rw [hR]; decide) (by rw [hR]; decide) rfl (Nat.le_of_ble_eq_true rfl) dd_DE_requireBlock_1 rfl [] [] [] rfl (by decide) rfl (by decide) (by decide) rfl rfl (by decide) (wt_out (pc := 1) O hh F)
set_option maxRecDepth 4000 in
theorem ce_DE_reqBlock_b (l : Launch) (D : va_G) (g : Nat → ClassId) (f : Nat) (y : Int32) (hfl : l.flags = pinnedFlags ++ [noTraceFlag]) (hf : f < 4) (hbad : px_nf y 59 = true) : wt_ct l D g yy_DE_requireBlock bb_DE_requireBlock 2 none (wt_rm 7) [.int (nI f), .int y] [] "java/lang/IndexOutOfBoundsException" [] := by
  refine wt_start (by decide +kernel) rfl (Nat.le_of_ble_eq_true rfl) (L0 := [(0, .int (nI f)), (1, .int y)]) rfl ?_
  intro X O hl hD hg hR hn hh F
  subst hl hD hg
  refine ww_iload_n O dd_DE_requireBlock_0 0 rfl ?_
  refine ww_callS O (cc_DE_requireFile _ _ _ f (by omega)) lc_DE_84 ls_DE_requireFile_I_V (by rw [hR]; decide) (by rw [hR]; decide) (by rw [hR]; decide) rfl (Nat.le_of_ble_eq_true rfl) dd_DE_requireBlock_1 rfl [] [] [] rfl (by decide) rfl (by decide) (by decide) (ws' := []) rfl rfl (by decide) ?_
  refine ww_iload_n O dd_DE_requireBlock_4 1 rfl ?_
  refine ww_if_lt O dd_DE_requireBlock_5 (tgt := 14) rfl (fun h5 => ?_) (fun h5 => ?_)
  · exact wt_newF O hfl hh le_DE_104 (by decide +kernel) (by decide +kernel) lk_DE_102.1 lk_DE_102.2.1 lk_DE_102.2.2 (by rw [hR]; decide) (by rw [hR]; exact Nat.le_of_ble_eq_true rfl) (by rw [hR]; decide) (by rw [hR]; decide) dd_DE_requireBlock_14 dd_DE_requireBlock_17 dd_DE_requireBlock_18 dd_DE_requireBlock_21 F
  · refine ww_iload_n O dd_DE_requireBlock_8 1 rfl ?_
    refine ww_bipush O dd_DE_requireBlock_9 (v := nI 60) rfl ?_
    refine ww_icmp_lt O dd_DE_requireBlock_11 (tgt := 22) rfl (fun h11 => ?_) (fun h11 => ?_)
    · exact absurd h11 (px_nf_lt hbad (by decide) h5)
    · exact wt_newF O hfl hh le_DE_104 (by decide +kernel) (by decide +kernel) lk_DE_102.1 lk_DE_102.2.1 lk_DE_102.2.2 (by rw [hR]; decide) (by rw [hR]; exact Nat.le_of_ble_eq_true rfl) (by rw [hR]; decide) (by rw [hR]; decide) dd_DE_requireBlock_14 dd_DE_requireBlock_17 dd_DE_requireBlock_18 dd_DE_requireBlock_21 F
