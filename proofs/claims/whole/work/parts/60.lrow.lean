
section LWR
variable {X : ww_X} {cc : ByteArray} {own : String} {cs ss pc : Nat} {L L' : List (Nat × Value)} {st : List Value} {ws : va_W}
theorem lw_sld (O : ww_ok X cc own) {b Ln : Nat} {xs : Nat → Int32} (hX : va_X b Ln xs (ww_s X) (ww_s X).heap) (hbl : b < (ww_s X).heap.size) (hbA : ¬ ww_A X b) {i : Nat} (hi : i < Ln) (hn : Ln < 2 ^ 31) (d : decode cc pc = .ok (.iaload, 1)) (k : ww_at X cs ss (pc + 1) L (.int (xs i) :: st) ws) : ww_at X cs ss pc L (.int (nI i) :: .ref b :: st) ws :=
  fun H ls locs hl hP hD hS => va_sld O.x O.b hX hbl hbA hS (ww_ix hi hn).1 d (by rw [(ww_ix hi hn).2]; exact k H ls locs hl hP hD hS)
theorem lw_slen (O : ww_ok X cc own) {b Ln : Nat} {xs : Nat → Int32} (hX : va_X b Ln xs (ww_s X) (ww_s X).heap) (hbl : b < (ww_s X).heap.size) (hbA : ¬ ww_A X b) (d : decode cc pc = .ok (.arraylength, 1)) (k : ww_at X cs ss (pc + 1) L (.int (nI Ln) :: st) ws) : ww_at X cs ss pc L (.ref b :: st) ws :=
  fun H ls locs hl hP hD hS => va_slen O.x O.b hX hbl hbA hS d (k H ls locs hl hP hD hS)
theorem ww_lcmp (O : ww_ok X cc own) {x y : Int64} (d : decode cc pc = .ok (.lcmp, 1)) (k : ww_at X cs ss (pc + 1) L (.int (lg_cmp x y) :: st) ws) : ww_at X cs ss pc L (.long y :: .long x :: st) ws :=
  fun H ls locs hl hP hD hS => W.lcmp O.x O.b d (k H ls locs hl hP hD hS)
end LWR
theorem px_and15 (x : Int32) : ∃ k, k < 16 ∧ x &&& nI 15 = nI k := by
  refine ⟨x.toBitVec.toNat &&& 15, Nat.lt_succ_of_le Nat.and_le_right, ?_⟩
  apply Int32.toBitVec_inj.mp
  apply BitVec.eq_of_toNat_eq
  have h : x.toBitVec.toNat &&& 15 < 16 := Nat.lt_succ_of_le Nat.and_le_right
  rw [Int32.toBitVec_and, BitVec.toNat_and]
  show x.toBitVec.toNat &&& (nI 15).toBitVec.toNat = (nI (x.toBitVec.toNat &&& 15)).toBitVec.toNat
  rw [show (nI 15).toBitVec.toNat = 15 from rfl]
  unfold nI
  rw [Int32.toBitVec_ofNat', BitVec.toNat_ofNat, Nat.mod_eq_of_lt (by omega)]
theorem px_end {L i : Nat} (hL : L ≤ 2048) (hi : i ≤ 2048) (h : ¬ nI L - nI 4 < nI i) : i + 4 ≤ L := by
  by_cases h4 : 4 ≤ L
  · have e : nI L - nI 4 = nI (L - 4) := by
      have h1 : nI (L - 4) + nI 4 = nI L := by rw [nI_add, Nat.sub_add_cancel h4]
      rw [← h1, Int32.add_sub_cancel]
    rw [e] at h
    have := mt (nI_ltI (a := L - 4) (b := i) (by omega) (by omega)).mpr h
    omega
  · refine absurd (Int32.lt_of_lt_of_le (b := 0) ?_ (nI_pos' (n := i) (by omega))) h
    rcases (show L = 0 ∨ L = 1 ∨ L = 2 ∨ L = 3 by omega) with rfl | rfl | rfl | rfl <;> decide
abbrev lw_w (g : Nat → ClassId) (o : Nat) (K : dx_K) (A : rr_A) (lf : Nat → Int64) (cd : Int32) (T : rr_T) : va_W := rr_o g o lf :: (rr_d g K T ++ rr_m g A cd T)
abbrev lw_L (b x m o i : Nat) : List (Nat × Value) := [(0, .ref b), (1, .ref x), (2, .ref m), (3, .ref o), (4, .int (nI i))]
/-- what stays fixed in the law -/
def lw_F (X : ww_X) (b Ln : Nat) (xs : Nat → Int32) : Prop := ww_ok X code "DelayedExtentsLaw" ∧ (ww_l X).flags = pinnedFlags ++ [noTraceFlag] ∧ ww_R X = room_1 ∧ ww_n X = 7 ∧ wc_K (ww_s X) ∧ va_X b Ln xs (ww_s X) (ww_s X).heap ∧ b < (ww_s X).heap.size ∧ ¬ ww_A X b ∧ Ln ≤ 2048 ∧ va_AO cs_BF (ww_s X)
theorem rr_thrown (l : Launch) (D : va_G) (g : Nat → ClassId) (A : rr_A) (cd : Int32) (T : rr_T) : ww_ct l D g yy_MO_thrown bb_MO_thrown 1 (some .int) (ww_rm 1) [.ref A.1] (rr_m g A cd T) (some (.int cd)) (rr_m g A cd T) := cc_MO_thrown l D g A.1 A.2.1 A.2.2.1 A.2.2.2.1 A.2.2.2.2.1 A.2.2.2.2.2.1 A.2.2.2.2.2.2.1 A.2.2.2.2.2.2.2.1 A.2.2.2.2.2.2.2.2 cd T.2.2.2.1 T.2.2.2.2.1 T.2.2.2.2.2.1 T.2.2.2.2.2.2.1 T.2.2.2.2.2.2.2.1 T.2.2.2.2.2.2.2.2.1 T.2.2.2.2.2.2.2.2.2.1 T.2.1 T.2.2.1 T.2.2.2.2.2.2.2.2.2.2
theorem rr_w1 (a : Nat × va_E) (d m : va_W) : a :: (d ++ m) = (a :: d) ++ (m ++ []) := by rw [List.append_nil]; rfl
theorem rr_w2 (a : Nat × va_E) (d m : va_W) : (a :: d) ++ (m ++ []) = a :: (d ++ m) := by rw [List.append_nil]; rfl
theorem px_c4 {c : Nat} (hc : c < 4) (h : nI c = 0) : c = 0 := by
  rcases (show c = 0 ∨ c = 1 ∨ c = 2 ∨ c = 3 by omega) with rfl | rfl | rfl | rfl
  · rfl
  · exact absurd h (by decide)
  · exact absurd h (by decide)
  · exact absurd h (by decide)
theorem lg_cmp_s {x y : Int64} (h : x = y) : lg_cmp x y = 0 := by
  subst h
  simp [lg_cmp]
