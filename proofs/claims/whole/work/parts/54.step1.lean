
abbrev rr_T : Type := (Nat → dx_S) × (Nat → Int32) × (Nat → Int32) × Int32 × Int32 × (Nat → Int32) × (Nat → Int32) × (Nat → Int32) × (Nat → Int32) × (Nat → Int32) × (Nat → Int32)
abbrev rr_A : Type := Nat × Nat × Nat × Nat × Nat × Nat × Nat × Nat × Nat
def rr_d (g : Nat → ClassId) (K : dx_K) (T : rr_T) : va_W := dx_w g K T.2.1 T.2.2.1 T.1
def rr_m (g : Nat → ClassId) (A : rr_A) (cd : Int32) (T : rr_T) : va_W := [(A.1, .inr (3, [.int cd, .ref A.2.1, .ref A.2.2.1, .ref A.2.2.2.1, .ref A.2.2.2.2.1, .ref A.2.2.2.2.2.1, .ref A.2.2.2.2.2.2.1, .ref A.2.2.2.2.2.2.2.1, .ref A.2.2.2.2.2.2.2.2, .int T.2.2.2.1, .int T.2.2.2.2.1])), (A.2.1, .inl (g 0, 240, .inl T.2.2.2.2.2.1)), (A.2.2.1, .inl (g 1, 240, .inl T.2.2.2.2.2.2.1)), (A.2.2.2.1, .inl (g 1, 240, .inl T.2.2.2.2.2.2.2.1)), (A.2.2.2.2.1, .inl (g 0, 240, .inl T.2.2.2.2.2.2.2.2.1)), (A.2.2.2.2.2.1, .inl (g 0, 4, .inl T.2.2.2.2.2.2.2.2.2.1)), (A.2.2.2.2.2.2.1, .inl (g 0, 80, .inl T.2.1)), (A.2.2.2.2.2.2.2.1, .inl (g 0, 80, .inl T.2.2.1)), (A.2.2.2.2.2.2.2.2, .inl (g 0, 60, .inl T.2.2.2.2.2.2.2.2.2.2))]
def rr_OK (T : rr_T) : Prop := rr_V T.1 T.2.2.2.2.2.1 T.2.2.2.2.2.2.1 T.2.2.2.2.2.2.2.1 T.2.2.2.2.2.2.2.2.1 T.2.2.2.2.2.2.2.2.2.1 ∧ rr_I T.2.2.2.2.2.1 T.2.2.2.2.2.2.1 T.2.2.2.2.2.2.2.1 T.2.2.2.2.2.2.2.2.2.1 T.2.1
abbrev rr_o (g : Nat → ClassId) (o : Nat) (lf : Nat → Int64) : Nat × va_E := (o, .inl (g 2, 1, .inr (.inl lf)))
/-- one call with an answer, on both sides -/
def rr_O (l : Launch) (D : va_G) (g : Nat → ClassId) (K : dx_K) (A : rr_A) (o : Nat) (yL : MethodName) (bL : ByteArray) (nL : Nat) (hh : List (Nat × Nat × Nat × Nat)) (yM : MethodName) (bM : ByteArray) (nM : Nat) (ps : List Value) (lf : Nat → Int64) (cd : Int32) (T : rr_T) : Prop :=
  ∃ (c : Nat) (lf' : Nat → Int64) (v : Int32) (k : Nat) (T' : rr_T), c < 4 ∧ k ≤ 8 ∧ wc_ct l D g yL bL nL (some .int) hh (wt_rm 9) (.ref (dx_x K) :: (ps ++ [.ref o])) (rr_o g o lf :: rr_d g K T) (some (.int (nI c))) (rr_o g o lf' :: rr_d g K T') ∧ ww_ct l D g yM bM nM (some .int) (ww_rm k) (.ref A.1 :: ps) (rr_m g A cd T) (some (.int v)) (rr_m g A (nI c) T') ∧ (c = 0 → lf' 0 = v.toInt64) ∧ rr_OK T'
/-- write, on both sides -/
def rr_W (l : Launch) (D : va_G) (g : Nat → ClassId) (K : dx_K) (A : rr_A) (ps : List Value) (cd : Int32) (T : rr_T) : Prop :=
  ∃ (c : Nat) (k : Nat) (T' : rr_T), c < 4 ∧ k ≤ 8 ∧ wc_ct l D g yy_LA_write bb_LA_write 5 (some .int) [(0, 7, 10, 13), (0, 7, 14, 15), (0, 7, 18, 17)] (wt_rm 9) (.ref (dx_x K) :: ps) (rr_d g K T) (some (.int (nI c))) (rr_d g K T') ∧ ww_ct l D g yy_MO_write bb_MO_write 7 none (ww_rm k) (.ref A.1 :: ps) (rr_m g A cd T) none (rr_m g A (nI c) T') ∧ rr_OK T'
/-- a call without arguments, on both sides -/
def rr_E (l : Launch) (D : va_G) (g : Nat → ClassId) (K : dx_K) (A : rr_A) (yD : MethodName) (bD : ByteArray) (nD : Nat) (yM : MethodName) (bM : ByteArray) (nM : Nat) (cd : Int32) (T : rr_T) : Prop :=
  ∃ (v : Int32) (k k2 : Nat) (T' : rr_T), k ≤ 8 ∧ k2 ≤ 8 ∧ ww_ct l D g yD bD nD (some .int) (ww_rm k) [.ref (dx_x K)] (rr_d g K T) (some (.int v)) (rr_d g K T') ∧ ww_ct l D g yM bM nM (some .int) (ww_rm k2) [.ref A.1] (rr_m g A cd T) (some (.int v)) (rr_m g A (nI 0) T') ∧ rr_OK T'
theorem rr_read {a c p v pl wr pg pv vl : Nat → Int32} {f b : Nat} (hb : b < 60) (h1 : px_vw a pl (60 * f)) (h2 : px_vw c wr (60 * f)) (h3 : px_vw p pg (60 * f)) (h4 : ∀ j, j < 60 → px_on pg (60 * f + j) = true → v j = pv (60 * f + j)) : px_read a c p v vl b = px_read pl wr pg pv vl (60 * f + b) := by
  unfold px_read
  rw [h1.hole hb, h1 b hb, h2 b hb, h3 b hb]
  by_cases e : pg (60 * f + b) = 0
  · rw [if_pos e, if_pos e]
  · rw [if_neg e, if_neg e]
    exact h4 b hb (by simp [px_on, e])
theorem rr_sz {n b : Nat} (hn : n ≤ 60) (hb : b < 60) : (if nI n < nI (b + 1) then nI (b + 1) else nI n) = (if nI n ≤ nI b then nI (b + 1) else nI n) := by
  by_cases h : n ≤ b
  · rw [if_pos ((nI_ltI (by omega) (by omega)).mpr (by omega)), if_pos ((nI_leI (by omega) (by omega)).mpr h)]
  · rw [if_neg (mt (nI_ltI (by omega) (by omega)).mp (by omega)), if_neg (mt (nI_leI (by omega) (by omega)).mp h)]
theorem rr_cnt {a pl : Nat → Int32} {f b n e : Nat} {P : Bool → Bool} (h : px_vw a pl (60 * f)) (he : e = n) (hn : b + n ≤ 60) : px_cnt (fun j => P (px_hole a j)) b e = px_cnt (fun j => P (px_hole pl j)) (60 * f + b) n := by
  subst he
  refine px_cnt_congr (fun k hk => ?_)
  rw [h.hole (show b + k < 60 by omega), Nat.add_assoc]
theorem sp_read (l : Launch) (D : va_G) (g : Nat → ClassId) (hfl : l.flags = pinnedFlags ++ [noTraceFlag]) (K : dx_K) (hK : dx_ok K) (A : rr_A) (o : Nat) (lf : Nat → Int64) (cd fi le : Int32) (S : Nat → dx_S) (ow vl pl wr pg pv sz bf : Nat → Int32) (x y : Int32) (hOK : rr_OK (S, ow, vl, fi, le, pl, wr, pg, pv, sz, bf)) : rr_O l D g K A o yy_LA_read bb_LA_read 5 [(0, 10, 13, 13)] yy_MO_read bb_MO_read 4 [.int x, .int y] lf cd (S, ow, vl, fi, le, pl, wr, pg, pv, sz, bf) := by
  obtain ⟨hV, hI⟩ := hOK
  have hV : rr_V S pl wr pg pv sz := hV
  have hI : rr_I pl wr pg sz ow := hI
  have hr := rr_hr hV hI
  by_cases h1 : px_nf x 3 = true
  · exact ⟨1, lf, nI 0, 2, (S, ow, vl, fi, le, pl, wr, pg, pv, sz, bf), by decide, by decide, (cl_read_IOOBE l D g K ow vl _ _ S _ x y o lf (ce_DE_read_f l D g K ow vl S x y hfl hK h1)), (cc_MO_read_bad l D g A.1 A.2.1 A.2.2.1 A.2.2.2.1 A.2.2.2.2.1 A.2.2.2.2.2.1 A.2.2.2.2.2.2.1 A.2.2.2.2.2.2.2.1 A.2.2.2.2.2.2.2.2 cd fi le pl wr pg pv sz ow vl bf x y (Or.inl h1)), (fun h => absurd h (by decide)), ⟨hV, hI⟩⟩
  obtain ⟨f, hf, rfl⟩ := px_val (by decide) (show px_nf x 3 = false by simpa using h1)
  have hf : f < 4 := by omega
  by_cases h2 : px_nf y 59 = true
  · exact ⟨1, lf, nI 0, 2, (S, ow, vl, fi, le, pl, wr, pg, pv, sz, bf), by decide, by decide, (cl_read_IOOBE l D g K ow vl _ _ S _ (nI f) y o lf (ce_DE_read_b l D g K ow vl S f y hfl hK hf h2)), (cc_MO_read_bad l D g A.1 A.2.1 A.2.2.1 A.2.2.2.1 A.2.2.2.2.1 A.2.2.2.2.2.1 A.2.2.2.2.2.2.1 A.2.2.2.2.2.2.2.1 A.2.2.2.2.2.2.2.2 cd fi le pl wr pg pv sz ow vl bf (nI f) y (Or.inr h2)), (fun h => absurd h (by decide)), ⟨hV, hI⟩⟩
  obtain ⟨b, hb, rfl⟩ := px_val (by decide) (show px_nf y 59 = false by simpa using h2)
  have hb : b < 60 := by omega
  obtain ⟨v1, v2, v3, v4, v5⟩ := hV f hf
  have e := rr_read (vl := vl) hb v1 v2 v3 v4
  have hc := (cc_DE_read l D g K ow vl S f b hK hf hb hr)
  rw [e] at hc
  exact ⟨0, _, _, 2, (S, ow, vl, fi, le, pl, wr, pg, pv, sz, bf), by decide, by decide, (cl_read l D g K ow vl _ _ S _ (nI f) (nI b) o lf 3 (by decide) _ hc), (cc_MO_read l D g A.1 A.2.1 A.2.2.1 A.2.2.2.1 A.2.2.2.2.1 A.2.2.2.2.2.1 A.2.2.2.2.2.2.1 A.2.2.2.2.2.2.2.1 A.2.2.2.2.2.2.2.2 cd fi le pl wr pg pv sz ow vl bf f b (rr_rg hI) hf hb), fun _ => rfl, ⟨hV, hI⟩⟩
theorem sp_owner (l : Launch) (D : va_G) (g : Nat → ClassId) (hfl : l.flags = pinnedFlags ++ [noTraceFlag]) (K : dx_K) (hK : dx_ok K) (A : rr_A) (o : Nat) (lf : Nat → Int64) (cd fi le : Int32) (S : Nat → dx_S) (ow vl pl wr pg pv sz bf : Nat → Int32) (x : Int32) (hOK : rr_OK (S, ow, vl, fi, le, pl, wr, pg, pv, sz, bf)) : rr_O l D g K A o yy_LA_owner bb_LA_owner 4 [(0, 9, 12, 13)] yy_MO_owner bb_MO_owner 2 [.int x] lf cd (S, ow, vl, fi, le, pl, wr, pg, pv, sz, bf) := by
  obtain ⟨hV, hI⟩ := hOK
  have hV : rr_V S pl wr pg pv sz := hV
  have hI : rr_I pl wr pg sz ow := hI
  have hr := rr_hr hV hI
  by_cases h1 : px_nf x 79 = true
  · exact ⟨1, lf, nI 0, 1, (S, ow, vl, fi, le, pl, wr, pg, pv, sz, bf), by decide, by decide, (cl_owner_IOOBE l D g K ow vl _ _ S _ x o lf (ce_DE_owner_p l D g K ow vl S x hfl hK h1)), (cc_MO_owner_bad l D g A.1 A.2.1 A.2.2.1 A.2.2.2.1 A.2.2.2.2.1 A.2.2.2.2.2.1 A.2.2.2.2.2.2.1 A.2.2.2.2.2.2.2.1 A.2.2.2.2.2.2.2.2 cd fi le pl wr pg pv sz ow vl bf x (px_nf_or.mp h1)), (fun h => absurd h (by decide)), ⟨hV, hI⟩⟩
  obtain ⟨p, hp, rfl⟩ := px_val (by decide) (show px_nf x 79 = false by simpa using h1)
  exact ⟨0, _, _, 1, (S, ow, vl, fi, le, pl, wr, pg, pv, sz, bf), by decide, by decide, (cl_owner l D g K ow vl _ _ S _ (nI p) o lf 2 (by decide) _ (cc_DE_owner l D g K ow vl S p hK (by omega))), (cc_MO_owner l D g A.1 A.2.1 A.2.2.1 A.2.2.2.1 A.2.2.2.2.1 A.2.2.2.2.2.1 A.2.2.2.2.2.2.1 A.2.2.2.2.2.2.2.1 A.2.2.2.2.2.2.2.2 cd fi le pl wr pg pv sz ow vl bf p (by omega)), fun _ => rfl, ⟨hV, hI⟩⟩
theorem sp_value (l : Launch) (D : va_G) (g : Nat → ClassId) (hfl : l.flags = pinnedFlags ++ [noTraceFlag]) (K : dx_K) (hK : dx_ok K) (A : rr_A) (o : Nat) (lf : Nat → Int64) (cd fi le : Int32) (S : Nat → dx_S) (ow vl pl wr pg pv sz bf : Nat → Int32) (x : Int32) (hOK : rr_OK (S, ow, vl, fi, le, pl, wr, pg, pv, sz, bf)) : rr_O l D g K A o yy_LA_value bb_LA_value 4 [(0, 9, 12, 13)] yy_MO_value bb_MO_value 2 [.int x] lf cd (S, ow, vl, fi, le, pl, wr, pg, pv, sz, bf) := by
  obtain ⟨hV, hI⟩ := hOK
  have hV : rr_V S pl wr pg pv sz := hV
  have hI : rr_I pl wr pg sz ow := hI
  have hr := rr_hr hV hI
  by_cases h1 : px_nf x 79 = true
  · exact ⟨1, lf, nI 0, 1, (S, ow, vl, fi, le, pl, wr, pg, pv, sz, bf), by decide, by decide, (cl_value_IOOBE l D g K ow vl _ _ S _ x o lf (ce_DE_value_p l D g K ow vl S x hfl hK h1)), (cc_MO_value_bad l D g A.1 A.2.1 A.2.2.1 A.2.2.2.1 A.2.2.2.2.1 A.2.2.2.2.2.1 A.2.2.2.2.2.2.1 A.2.2.2.2.2.2.2.1 A.2.2.2.2.2.2.2.2 cd fi le pl wr pg pv sz ow vl bf x (px_nf_or.mp h1)), (fun h => absurd h (by decide)), ⟨hV, hI⟩⟩
  obtain ⟨p, hp, rfl⟩ := px_val (by decide) (show px_nf x 79 = false by simpa using h1)
  exact ⟨0, _, _, 1, (S, ow, vl, fi, le, pl, wr, pg, pv, sz, bf), by decide, by decide, (cl_value l D g K ow vl _ _ S _ (nI p) o lf 2 (by decide) _ (cc_DE_value l D g K ow vl S p hK (by omega))), (cc_MO_value l D g A.1 A.2.1 A.2.2.1 A.2.2.2.1 A.2.2.2.2.1 A.2.2.2.2.2.1 A.2.2.2.2.2.2.1 A.2.2.2.2.2.2.2.1 A.2.2.2.2.2.2.2.2 cd fi le pl wr pg pv sz ow vl bf p (by omega)), fun _ => rfl, ⟨hV, hI⟩⟩
theorem sp_about (l : Launch) (D : va_G) (g : Nat → ClassId) (hfl : l.flags = pinnedFlags ++ [noTraceFlag]) (K : dx_K) (hK : dx_ok K) (A : rr_A) (o : Nat) (lf : Nat → Int64) (cd fi le : Int32) (S : Nat → dx_S) (ow vl pl wr pg pv sz bf : Nat → Int32) (x y : Int32) (hOK : rr_OK (S, ow, vl, fi, le, pl, wr, pg, pv, sz, bf)) : rr_O l D g K A o yy_LA_about bb_LA_about 5 [(0, 10, 13, 13), (0, 10, 17, 27)] yy_MO_about bb_MO_about 3 [.int x, .int y] lf cd (S, ow, vl, fi, le, pl, wr, pg, pv, sz, bf) := by
  obtain ⟨hV, hI⟩ := hOK
  have hV : rr_V S pl wr pg pv sz := hV
  have hI : rr_I pl wr pg sz ow := hI
  have hr := rr_hr hV hI
  by_cases h1 : px_nf x 3 = true
  · exact ⟨1, lf, nI 0, 5, (S, ow, vl, fi, le, pl, wr, pg, pv, sz, bf), by decide, by decide, (cl_about_IOOBE l D g K ow vl _ _ S _ x y o lf (ce_DE_about_f l D g K ow vl S x y hfl hK h1)), (cc_MO_about_bad1 l D g A.1 A.2.1 A.2.2.1 A.2.2.2.1 A.2.2.2.2.1 A.2.2.2.2.2.1 A.2.2.2.2.2.2.1 A.2.2.2.2.2.2.2.1 A.2.2.2.2.2.2.2.2 cd fi le pl wr pg pv sz ow vl bf x y h1), (fun h => absurd h (by decide)), ⟨hV, hI⟩⟩
  obtain ⟨f, hf, rfl⟩ := px_val (by decide) (show px_nf x 3 = false by simpa using h1)
  have hf : f < 4 := by omega
  obtain ⟨v1, v2, v3, v4, v5⟩ := hV f hf
  by_cases h2 : px_nf y 5 = true
  · exact ⟨2, lf, nI 0, 5, (S, ow, vl, fi, le, pl, wr, pg, pv, sz, bf), by decide, by decide, (cl_about_IAE l D g K ow vl _ _ S _ (nI f) y o lf (ce_DE_about_w l D g K ow vl S f y hfl hK hf (px_nf_or.mp h2))), (cc_MO_about_bad2 l D g A.1 A.2.1 A.2.2.1 A.2.2.2.1 A.2.2.2.2.1 A.2.2.2.2.2.1 A.2.2.2.2.2.2.1 A.2.2.2.2.2.2.2.1 A.2.2.2.2.2.2.2.2 cd fi le pl wr pg pv sz ow vl bf f y hf (px_nf_or.mp h2)), (fun h => absurd h (by decide)), ⟨hV, hI⟩⟩
  obtain ⟨w, hw, rfl⟩ := px_val (by decide) (show px_nf y 5 = false by simpa using h2)
  rcases (by omega : w = 0 ∨ w = 1 ∨ w = 2 ∨ w = 3 ∨ w = 4 ∨ w = 5) with rfl | rfl | rfl | rfl | rfl | rfl
  · have hc := (cc_DE_about_0 l D g K ow vl S f hK hf hr)
    rw [v5] at hc
    exact ⟨0, _, _, 5, (S, ow, vl, fi, le, pl, wr, pg, pv, sz, bf), by decide, by decide, (cl_about l D g K ow vl _ _ S _ (nI f) (nI 0) o lf 5 (by decide) _ hc), (cc_MO_about_0 l D g A.1 A.2.1 A.2.2.1 A.2.2.2.1 A.2.2.2.2.1 A.2.2.2.2.2.1 A.2.2.2.2.2.2.1 A.2.2.2.2.2.2.2.1 A.2.2.2.2.2.2.2.2 cd fi le pl wr pg pv sz ow vl bf f (rr_rg hI) hf), fun _ => rfl, ⟨hV, hI⟩⟩
  · have hc := (cc_DE_about_1 l D g K ow vl S f hK hf hr)
    rw [rr_mm v1] at hc
    exact ⟨0, _, _, 5, (S, ow, vl, fi, le, pl, wr, pg, pv, sz, bf), by decide, by decide, (cl_about l D g K ow vl _ _ S _ (nI f) (nI 1) o lf 5 (by decide) _ hc), (cc_MO_about_1 l D g A.1 A.2.1 A.2.2.1 A.2.2.2.1 A.2.2.2.2.1 A.2.2.2.2.2.1 A.2.2.2.2.2.2.1 A.2.2.2.2.2.2.2.1 A.2.2.2.2.2.2.2.2 cd fi le pl wr pg pv sz ow vl bf f (rr_rg hI) hf), fun _ => rfl, ⟨hV, hI⟩⟩
  · have hc := (cc_DE_about_2 l D g K ow vl S f hK hf hr)
    rw [rr_ee v1 v2] at hc
    exact ⟨0, _, _, 5, (S, ow, vl, _, _, pl, wr, pg, pv, sz, bf), by decide, by decide, (cl_about l D g K ow vl _ _ S _ (nI f) (nI 2) o lf 5 (by decide) _ hc), (cc_MO_about_2 l D g A.1 A.2.1 A.2.2.1 A.2.2.2.1 A.2.2.2.2.1 A.2.2.2.2.2.1 A.2.2.2.2.2.2.1 A.2.2.2.2.2.2.2.1 A.2.2.2.2.2.2.2.2 cd fi le pl wr pg pv sz ow vl bf f (rr_rg hI) hf), fun _ => rfl, ⟨hV, hI⟩⟩
  · have hc := (cc_DE_about_3 l D g K ow vl S f hK hf hr)
    rw [rr_ee v1 v2] at hc
    exact ⟨0, _, _, 5, (S, ow, vl, _, _, pl, wr, pg, pv, sz, bf), by decide, by decide, (cl_about l D g K ow vl _ _ S _ (nI f) (nI 3) o lf 5 (by decide) _ hc), (cc_MO_about_3 l D g A.1 A.2.1 A.2.2.1 A.2.2.2.1 A.2.2.2.2.1 A.2.2.2.2.2.1 A.2.2.2.2.2.2.1 A.2.2.2.2.2.2.2.1 A.2.2.2.2.2.2.2.2 cd fi le pl wr pg pv sz ow vl bf f (rr_rg hI) hf), fun _ => rfl, ⟨hV, hI⟩⟩
  · have hc := (cc_DE_about_4 l D g K ow vl S f hK hf hr)
    rw [rr_pp v3] at hc
    exact ⟨0, _, _, 5, (S, ow, vl, fi, le, pl, wr, pg, pv, sz, bf), by decide, by decide, (cl_about l D g K ow vl _ _ S _ (nI f) (nI 4) o lf 5 (by decide) _ hc), (cc_MO_about_4 l D g A.1 A.2.1 A.2.2.1 A.2.2.2.1 A.2.2.2.2.1 A.2.2.2.2.2.1 A.2.2.2.2.2.2.1 A.2.2.2.2.2.2.2.1 A.2.2.2.2.2.2.2.2 cd fi le pl wr pg pv sz ow vl bf f (rr_rg hI) hf), fun _ => rfl, ⟨hV, hI⟩⟩
  · have hc := (cc_DE_about_5 l D g K ow vl S f hK hf hr)
    rw [rr_rs v1 v2 v3] at hc
    exact ⟨0, _, _, 5, (S, ow, vl, _, _, pl, wr, pg, pv, sz, bf), by decide, by decide, (cl_about l D g K ow vl _ _ S _ (nI f) (nI 5) o lf 5 (by decide) _ hc), (cc_MO_about_5 l D g A.1 A.2.1 A.2.2.1 A.2.2.2.1 A.2.2.2.2.1 A.2.2.2.2.2.1 A.2.2.2.2.2.2.1 A.2.2.2.2.2.2.2.1 A.2.2.2.2.2.2.2.2 cd fi le pl wr pg pv sz ow vl bf f (rr_rg hI) hf), fun _ => rfl, ⟨hV, hI⟩⟩
theorem sp_extent (l : Launch) (D : va_G) (g : Nat → ClassId) (hfl : l.flags = pinnedFlags ++ [noTraceFlag]) (K : dx_K) (hK : dx_ok K) (A : rr_A) (o : Nat) (lf : Nat → Int64) (cd fi le : Int32) (S : Nat → dx_S) (ow vl pl wr pg pv sz bf : Nat → Int32) (x y z : Int32) (hOK : rr_OK (S, ow, vl, fi, le, pl, wr, pg, pv, sz, bf)) : rr_O l D g K A o yy_LA_extent bb_LA_extent 6 [(0, 12, 15, 13), (0, 12, 19, 27)] yy_MO_extent bb_MO_extent 4 [.int x, .int y, .int z] lf cd (S, ow, vl, fi, le, pl, wr, pg, pv, sz, bf) := by
  obtain ⟨hV, hI⟩ := hOK
  have hV : rr_V S pl wr pg pv sz := hV
  have hI : rr_I pl wr pg sz ow := hI
  have hr := rr_hr hV hI
  by_cases h1 : px_nf x 3 = true
  · exact ⟨1, lf, nI 0, 3, (S, ow, vl, fi, le, pl, wr, pg, pv, sz, bf), by decide, by decide, (cl_extent_IOOBE l D g K ow vl _ _ S _ x y z o lf (ce_DE_extent_f l D g K ow vl S x y z hfl hK h1)), (cc_MO_extent_bad1 l D g A.1 A.2.1 A.2.2.1 A.2.2.2.1 A.2.2.2.2.1 A.2.2.2.2.2.1 A.2.2.2.2.2.2.1 A.2.2.2.2.2.2.2.1 A.2.2.2.2.2.2.2.2 cd fi le pl wr pg pv sz ow vl bf x y z (Or.inl h1)), (fun h => absurd h (by decide)), ⟨hV, hI⟩⟩
  obtain ⟨f, hf, rfl⟩ := px_val (by decide) (show px_nf x 3 = false by simpa using h1)
  have hf : f < 4 := by omega
  obtain ⟨v1, v2, v3, v4, v5⟩ := hV f hf
  rcases px_cas y with hy | ⟨i, hi, rfl⟩
  · exact ⟨1, lf, nI 0, 3, (S, ow, vl, fi, le, pl, wr, pg, pv, sz, bf), by decide, by decide, (cl_extent_IOOBE l D g K ow vl _ _ S _ (nI f) y z o lf (ce_DE_extent_n l D g K ow vl S f y z hfl hK hf hy)), (cc_MO_extent_bad1 l D g A.1 A.2.1 A.2.2.1 A.2.2.2.1 A.2.2.2.2.1 A.2.2.2.2.2.1 A.2.2.2.2.2.2.1 A.2.2.2.2.2.2.2.1 A.2.2.2.2.2.2.2.2 cd fi le pl wr pg pv sz ow vl bf (nI f) y z (Or.inr (Or.inl hy))), (fun h => absurd h (by decide)), ⟨hV, hI⟩⟩
  obtain ⟨n1, n2⟩ := rr_nth (k := i) (fi := fi) hf v1 v2 (rr_rg hI)
  cases hn : px_nth (S f).1 (S f).2.1 60 0 0 i with
  | none =>
    by_cases h6 : i ≤ 60
    · exact ⟨1, lf, nI 0, 3, (S, ow, vl, _, _, pl, wr, pg, pv, sz, bf), by decide, by decide, (cl_extent_IOOBE l D g K ow vl _ _ S _ (nI f) (nI i) z o lf (ce_DE_extent_o l D g K ow vl S f i z hfl hK hf hi hr hn)), (cc_MO_extent_none l D g A.1 A.2.1 A.2.2.1 A.2.2.2.1 A.2.2.2.2.1 A.2.2.2.2.2.1 A.2.2.2.2.2.2.1 A.2.2.2.2.2.2.2.1 A.2.2.2.2.2.2.2.2 cd fi le pl wr pg pv sz ow vl bf f i z (rr_rg hI) hf h6 (n1 hn)), (fun h => absurd h (by decide)), ⟨hV, hI⟩⟩
    · exact ⟨1, lf, nI 0, 3, (S, ow, vl, fi, le, pl, wr, pg, pv, sz, bf), by decide, by decide, (cl_extent_IOOBE l D g K ow vl _ _ S _ (nI f) (nI i) z o lf (ce_DE_extent_o l D g K ow vl S f i z hfl hK hf hi hr hn)), (cc_MO_extent_bad1 l D g A.1 A.2.1 A.2.2.1 A.2.2.2.1 A.2.2.2.2.1 A.2.2.2.2.2.1 A.2.2.2.2.2.2.1 A.2.2.2.2.2.2.2.1 A.2.2.2.2.2.2.2.2 cd fi le pl wr pg pv sz ow vl bf (nI f) (nI i) z (Or.inr (Or.inr (fun q => h6 ((nI_leI hi (by decide)).mp q))))), (fun h => absurd h (by decide)), ⟨hV, hI⟩⟩
  | some q =>
    obtain ⟨i6, q6, hx⟩ := n2 q hn
    have hT : i < (px_rx pl wr i 60 (60 * f) 0 0 fi).1 := by rw [hx]; exact Nat.lt_succ_self i
    have hqe : (px_rx pl wr i 60 (60 * f) 0 0 fi).2.2 = nI (60 * f + q) := by rw [hx]
    have hle : (px_rx pl wr i 60 (60 * f) 0 0 fi).2.1 = px_len (S f).1 (S f).2.1 q := by rw [hx]
    by_cases h2 : px_nf z 3 = true
    · exact ⟨2, lf, nI 0, 3, (S, ow, vl, _, _, pl, wr, pg, pv, sz, bf), by decide, by decide, (cl_extent_IAE l D g K ow vl _ _ S _ (nI f) (nI i) z o lf (ce_DE_extent_w l D g K ow vl S f i q z hfl hK hf hi hr hn q6 (px_nf_or.mp h2))), (cc_MO_extent_bad2 l D g A.1 A.2.1 A.2.2.1 A.2.2.2.1 A.2.2.2.2.1 A.2.2.2.2.2.1 A.2.2.2.2.2.2.1 A.2.2.2.2.2.2.2.1 A.2.2.2.2.2.2.2.2 cd fi le pl wr pg pv sz ow vl bf f i z (rr_rg hI) hf (by omega) hT (px_nf_or.mp h2)), (fun h => absurd h (by decide)), ⟨hV, hI⟩⟩
    obtain ⟨w, hw, rfl⟩ := px_val (by decide) (show px_nf z 3 = false by simpa using h2)
    rcases (by omega : w = 0 ∨ w = 1 ∨ w = 2 ∨ w = 3) with rfl | rfl | rfl | rfl
    · have hm := (cc_MO_extent_0 l D g A.1 A.2.1 A.2.2.1 A.2.2.2.1 A.2.2.2.2.1 A.2.2.2.2.2.1 A.2.2.2.2.2.2.1 A.2.2.2.2.2.2.2.1 A.2.2.2.2.2.2.2.2 cd fi le pl wr pg pv sz ow vl bf f i (60 * f + q) (rr_rg hI) hf (by omega) hT hqe (by omega) (by omega))
      rw [Nat.add_sub_cancel_left] at hm
      exact ⟨0, _, _, 3, (S, ow, vl, _, _, pl, wr, pg, pv, sz, bf), by decide, by decide, (cl_extent l D g K ow vl _ _ S _ (nI f) (nI i) (nI 0) o lf 4 (by decide) _ (cc_DE_extent_0 l D g K ow vl S f i q hK hf hi hr hn q6)), hm, fun _ => rfl, ⟨hV, hI⟩⟩
    · have hm := (cc_MO_extent_1 l D g A.1 A.2.1 A.2.2.1 A.2.2.2.1 A.2.2.2.2.1 A.2.2.2.2.2.1 A.2.2.2.2.2.2.1 A.2.2.2.2.2.2.2.1 A.2.2.2.2.2.2.2.2 cd fi le pl wr pg pv sz ow vl bf f i (60 * f + q) (rr_rg hI) hf (by omega) hT hqe (by omega) (by omega))
      rw [← v1 q q6] at hm
      exact ⟨0, _, _, 3, (S, ow, vl, _, _, pl, wr, pg, pv, sz, bf), by decide, by decide, (cl_extent l D g K ow vl _ _ S _ (nI f) (nI i) (nI 1) o lf 4 (by decide) _ (cc_DE_extent_1 l D g K ow vl S f i q hK hf hi hr hn q6)), hm, fun _ => rfl, ⟨hV, hI⟩⟩
    · have hm := (cc_MO_extent_2 l D g A.1 A.2.1 A.2.2.1 A.2.2.2.1 A.2.2.2.2.1 A.2.2.2.2.2.1 A.2.2.2.2.2.2.1 A.2.2.2.2.2.2.2.1 A.2.2.2.2.2.2.2.2 cd fi le pl wr pg pv sz ow vl bf f i (60 * f + q) (rr_rg hI) hf (by omega) hT hqe (by omega) (by omega))
      rw [hle] at hm
      exact ⟨0, _, _, 3, (S, ow, vl, _, _, pl, wr, pg, pv, sz, bf), by decide, by decide, (cl_extent l D g K ow vl _ _ S _ (nI f) (nI i) (nI 2) o lf 4 (by decide) _ (cc_DE_extent_2 l D g K ow vl S f i q hK hf hi hr hn q6)), hm, fun _ => rfl, ⟨hV, hI⟩⟩
    · have hm := (cc_MO_extent_3 l D g A.1 A.2.1 A.2.2.1 A.2.2.2.1 A.2.2.2.2.1 A.2.2.2.2.2.1 A.2.2.2.2.2.2.1 A.2.2.2.2.2.2.2.1 A.2.2.2.2.2.2.2.2 cd fi le pl wr pg pv sz ow vl bf f i (60 * f + q) (rr_rg hI) hf (by omega) hT hqe (by omega) (by omega))
      rw [← v2 q q6] at hm
      have h01 : (S f).2.1 q = 0 ∨ (S f).2.1 q = 1 := by rw [v2 q q6]; exact (hI.2.2.1 _ (by omega)).1
      exact ⟨0, _, _, 3, (S, ow, vl, _, _, pl, wr, pg, pv, sz, bf), by decide, by decide, (cl_extent l D g K ow vl _ _ S _ (nI f) (nI i) (nI 3) o lf 4 (by decide) _ (cc_DE_extent_3 l D g K ow vl S f i q hK hf hi hr hn q6 h01)), hm, fun _ => rfl, ⟨hV, hI⟩⟩
theorem sp_free (l : Launch) (D : va_G) (g : Nat → ClassId) (hfl : l.flags = pinnedFlags ++ [noTraceFlag]) (K : dx_K) (hK : dx_ok K) (A : rr_A) (cd fi le : Int32) (S : Nat → dx_S) (ow vl pl wr pg pv sz bf : Nat → Int32) (hOK : rr_OK (S, ow, vl, fi, le, pl, wr, pg, pv, sz, bf)) : rr_E l D g K A yy_DE_free bb_DE_free 3 yy_MO_free bb_MO_free 1 cd (S, ow, vl, fi, le, pl, wr, pg, pv, sz, bf) := by
  obtain ⟨hV, hI⟩ := hOK
  have hV : rr_V S pl wr pg pv sz := hV
  have hI : rr_I pl wr pg sz ow := hI
  have hr := rr_hr hV hI
  have hc := (cc_DE_free l D g K ow vl S  hK hr)
  rw [rr_dmt hV] at hc
  exact ⟨_, 4, 5, (S, ow, vl, _, _, pl, wr, pg, pv, sz, bf), by decide, by decide, hc, (cc_MO_free l D g A.1 A.2.1 A.2.2.1 A.2.2.2.1 A.2.2.2.2.1 A.2.2.2.2.2.1 A.2.2.2.2.2.2.1 A.2.2.2.2.2.2.2.1 A.2.2.2.2.2.2.2.2 cd fi le pl wr pg pv sz ow vl bf (rr_rg hI)), ⟨hV, hI⟩⟩
theorem sp_reserved (l : Launch) (D : va_G) (g : Nat → ClassId) (hfl : l.flags = pinnedFlags ++ [noTraceFlag]) (K : dx_K) (hK : dx_ok K) (A : rr_A) (cd fi le : Int32) (S : Nat → dx_S) (ow vl pl wr pg pv sz bf : Nat → Int32) (hOK : rr_OK (S, ow, vl, fi, le, pl, wr, pg, pv, sz, bf)) : rr_E l D g K A yy_DE_reserved bb_DE_reserved 3 yy_MO_reserved bb_MO_reserved 1 cd (S, ow, vl, fi, le, pl, wr, pg, pv, sz, bf) := by
  obtain ⟨hV, hI⟩ := hOK
  have hV : rr_V S pl wr pg pv sz := hV
  have hI : rr_I pl wr pg sz ow := hI
  have hr := rr_hr hV hI
  have hc := (cc_DE_reserved l D g K ow vl S  hK hr)
  rw [rr_drs hV] at hc
  exact ⟨_, 5, 5, (S, ow, vl, _, _, pl, wr, pg, pv, sz, bf), by decide, by decide, hc, (cc_MO_reserved l D g A.1 A.2.1 A.2.2.1 A.2.2.2.1 A.2.2.2.2.1 A.2.2.2.2.2.1 A.2.2.2.2.2.2.1 A.2.2.2.2.2.2.2.1 A.2.2.2.2.2.2.2.2 cd fi le pl wr pg pv sz ow vl bf (rr_rg hI)), ⟨hV, hI⟩⟩
theorem sp_crash (l : Launch) (D : va_G) (g : Nat → ClassId) (hfl : l.flags = pinnedFlags ++ [noTraceFlag]) (K : dx_K) (hK : dx_ok K) (A : rr_A) (cd fi le : Int32) (S : Nat → dx_S) (ow vl pl wr pg pv sz bf : Nat → Int32) (hOK : rr_OK (S, ow, vl, fi, le, pl, wr, pg, pv, sz, bf)) : rr_E l D g K A yy_DE_crash bb_DE_crash 3 yy_MO_crash bb_MO_crash 3 cd (S, ow, vl, fi, le, pl, wr, pg, pv, sz, bf) := by
  obtain ⟨hV, hI⟩ := hOK
  have hV : rr_V S pl wr pg pv sz := hV
  have hI : rr_I pl wr pg sz ow := hI
  have hr := rr_hr hV hI
  have hc := (cc_DE_crash l D g K ow vl S  hK )
  rw [rr_dpp hV, ← rr_pp4] at hc
  refine ⟨_, 3, 1, ((fun j => if j < 4 then ((S j).1, (S j).2.1, px_fill (S j).2.2.1 0 60 (nI 0), (S j).2.2.2.1, (S j).2.2.2.2.1, (S j).2.2.2.2.2) else S j), ow, vl, fi, le, pl, wr, px_fill pg 0 240 (nI 0), pv, sz, bf), by decide, by decide, hc, (cc_MO_crash l D g A.1 A.2.1 A.2.2.1 A.2.2.2.1 A.2.2.2.2.1 A.2.2.2.2.2.1 A.2.2.2.2.2.2.1 A.2.2.2.2.2.2.2.1 A.2.2.2.2.2.2.2.2 cd fi le pl wr pg pv sz ow vl bf ), ?_, rr_crash hI⟩
  intro f hf
  obtain ⟨v1, v2, v3, v4, v5⟩ := hV f hf
  show px_vw ((fun j => if j < 4 then ((S j).1, (S j).2.1, px_fill (S j).2.2.1 0 60 (nI 0), (S j).2.2.2.1, (S j).2.2.2.2.1, (S j).2.2.2.2.2) else S j) f).1 pl (60 * f) ∧ px_vw ((fun j => if j < 4 then ((S j).1, (S j).2.1, px_fill (S j).2.2.1 0 60 (nI 0), (S j).2.2.2.1, (S j).2.2.2.2.1, (S j).2.2.2.2.2) else S j) f).2.1 wr (60 * f) ∧ px_vw ((fun j => if j < 4 then ((S j).1, (S j).2.1, px_fill (S j).2.2.1 0 60 (nI 0), (S j).2.2.2.1, (S j).2.2.2.2.1, (S j).2.2.2.2.2) else S j) f).2.2.1 (px_fill pg 0 240 (nI 0)) (60 * f) ∧ (∀ j, j < 60 → px_on (px_fill pg 0 240 (nI 0)) (60 * f + j) = true → ((fun j => if j < 4 then ((S j).1, (S j).2.1, px_fill (S j).2.2.1 0 60 (nI 0), (S j).2.2.2.1, (S j).2.2.2.2.1, (S j).2.2.2.2.2) else S j) f).2.2.2.1 j = pv (60 * f + j)) ∧ ((fun j => if j < 4 then ((S j).1, (S j).2.1, px_fill (S j).2.2.1 0 60 (nI 0), (S j).2.2.2.1, (S j).2.2.2.2.1, (S j).2.2.2.2.2) else S j) f).2.2.2.2.2 = sz f
  simp only [if_pos hf]
  have e : ∀ j, j < 60 → px_fill pg 0 240 (nI 0) (60 * f + j) = nI 0 := fun j hj => by unfold px_fill; rw [if_pos (by omega)]
  refine ⟨v1, v2, fun j hj => ?_, fun j hj ho => ?_, v5⟩
  · rw [e j hj]; unfold px_fill; rw [if_pos (by omega)]
  · rw [px_on_0 (e j hj)] at ho; exact absurd ho (by decide)
