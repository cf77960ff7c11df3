
theorem rr_V2 (cd fi le : Int32) (S : Nat → dx_S) (ow vl pl wr pg pv sz bf : Nat → Int32) (f b n : Nat) (TR T2 : (Nat → Int32) × (Nat → Int32)) (hf : f < 4) (hb : b < 60) (hn1 : 0 < n) (hn2 : n ≤ 60 - b) (hV : rr_V S pl wr pg pv sz) (hI : rr_I pl wr pg sz ow) (m1 : px_vw T2.1 TR.1 (60 * f)) (m2 : T2.2 = TR.2) (hsp : px_mhP (fun j => px_on pg j || true) pl ow TR.1 TR.2 (60 * f + b) (60 * f + b + n)) (ecn : px_cnt (px_hole (S f).1) b (b + n - b) = px_cnt (px_hole pl) (60 * f + b) n) : rr_V (dx_up S f (T2.1, (S f).2.1, (S f).2.2.1, (S f).2.2.2.1, px_note (S f).1 (S f).2.2.2.2.1 60, (S f).2.2.2.2.2)) TR.1 wr pg pv sz := by
  obtain ⟨v1, v2, v3, v4, v5⟩ := hV f hf
  exact hV.up hf (fun j hj => hsp.1 j (fun z => hj ⟨by omega, by omega⟩)) (fun _ _ => rfl) (fun _ _ => rfl) (fun _ _ => rfl) (fun _ _ => rfl) m1 v2 v3 v4 v5
theorem sp_preO (l : Launch) (D : va_G) (g : Nat → ClassId) (hfl : l.flags = pinnedFlags ++ [noTraceFlag]) (K : dx_K) (hK : dx_ok K) (A : rr_A) (o : Nat) (lf : Nat → Int64) (cd fi le : Int32) (S : Nat → dx_S) (ow vl pl wr pg pv sz bf : Nat → Int32) (f b n : Nat) (TR T2 : (Nat → Int32) × (Nat → Int32)) (hf : f < 4) (hb : b < 60) (hn1 : 0 < n) (hn2 : n ≤ 60 - b) (hV : rr_V S pl wr pg pv sz) (hI : rr_I pl wr pg sz ow) (m1 : px_vw T2.1 TR.1 (60 * f)) (m2 : T2.2 = TR.2) (hsp : px_mhP (fun j => px_on pg j || true) pl ow TR.1 TR.2 (60 * f + b) (60 * f + b + n)) (ecn : px_cnt (px_hole (S f).1) b (b + n - b) = px_cnt (px_hole pl) (60 * f + b) n) (hov : px_sum (fun k => px_res TR.1 wr pg (60 * k)) 4 + px_sum (fun k => px_mt TR.1 wr (60 * k)) 4 ≤ 80) (hc : ww_ct l D g yy_DE_preallocate bb_DE_preallocate 7 (some .int) (ww_rm 7) [.ref (dx_x K), .int (nI f), .int (nI b), .int (nI n)] (dx_w g K ow vl S) (some (.int (nI (px_cnt (px_hole (S f).1) b (b + n - b))))) (dx_w g K (T2.2) vl (dx_up S f (T2.1, (S f).2.1, (S f).2.2.1, (S f).2.2.2.1, px_note (S f).1 (S f).2.2.2.2.1 60, (S f).2.2.2.2.2)))) (hm : ww_ct l D g yy_MO_preallocate bb_MO_preallocate 7 (some .int) (ww_rm 5) [.ref A.1, .int (nI f), .int (nI b), .int (nI n)] [(A.1, .inr (3, [.int cd, .ref A.2.1, .ref A.2.2.1, .ref A.2.2.2.1, .ref A.2.2.2.2.1, .ref A.2.2.2.2.2.1, .ref A.2.2.2.2.2.2.1, .ref A.2.2.2.2.2.2.2.1, .ref A.2.2.2.2.2.2.2.2, .int fi, .int le])), (A.2.1, .inl (g 0, 240, .inl pl)), (A.2.2.1, .inl (g 1, 240, .inl wr)), (A.2.2.2.1, .inl (g 1, 240, .inl pg)), (A.2.2.2.2.1, .inl (g 0, 240, .inl pv)), (A.2.2.2.2.2.1, .inl (g 0, 4, .inl sz)), (A.2.2.2.2.2.2.1, .inl (g 0, 80, .inl ow)), (A.2.2.2.2.2.2.2.1, .inl (g 0, 80, .inl vl)), (A.2.2.2.2.2.2.2.2, .inl (g 0, 60, .inl bf))] (some (.int (nI (px_cnt (px_hole pl) (60 * f + b) n)))) [(A.1, .inr (3, [.int (nI 0), .ref A.2.1, .ref A.2.2.1, .ref A.2.2.2.1, .ref A.2.2.2.2.1, .ref A.2.2.2.2.2.1, .ref A.2.2.2.2.2.2.1, .ref A.2.2.2.2.2.2.2.1, .ref A.2.2.2.2.2.2.2.2, .int ((px_xs TR.1 wr (px_xs TR.1 wr le fi 4).1 (px_xs TR.1 wr le fi 4).2 4).2), .int ((px_xs TR.1 wr (px_xs TR.1 wr le fi 4).1 (px_xs TR.1 wr le fi 4).2 4).1)])), (A.2.1, .inl (g 0, 240, .inl (TR.1))), (A.2.2.1, .inl (g 1, 240, .inl wr)), (A.2.2.2.1, .inl (g 1, 240, .inl pg)), (A.2.2.2.2.1, .inl (g 0, 240, .inl pv)), (A.2.2.2.2.2.1, .inl (g 0, 4, .inl sz)), (A.2.2.2.2.2.2.1, .inl (g 0, 80, .inl (TR.2))), (A.2.2.2.2.2.2.2.1, .inl (g 0, 80, .inl vl)), (A.2.2.2.2.2.2.2.2, .inl (g 0, 60, .inl (px_bcp pl (60 * f) bf 60)))]) : rr_O l D g K A o yy_LA_preallocate bb_LA_preallocate 6 [(0, 12, 15, 13), (0, 12, 19, 27), (0, 12, 23, 17)] yy_MO_preallocate bb_MO_preallocate 7 [.int (nI f), .int (nI b), .int (nI n)] lf cd (S, ow, vl, fi, le, pl, wr, pg, pv, sz, bf) := by
  have hV2 := rr_V2 cd fi le S ow vl pl wr pg pv sz bf f b n TR T2 hf hb hn1 hn2 hV hI m1 m2 hsp ecn
  have hhw : ∀ j, j < 240 → px_hole TR.1 j = true → wr j = nI 0 := fun j hj hh => hI.2.1 j hj (rr_keep hsp hh)
  have hnu2 := hsp.2.2.2
  have hI4 := hI.2.2.2.1
  rw [m2, ecn] at hc
  have hq1 : px_nu TR.2 + px_mp TR.1 = 80 := by omega
  have hq2 : px_sum (fun k => rr_C TR.1 wr pg (60 * k)) 4 ≤ 80 := by rw [← rr_sum]; exact hov
  exact ⟨0, _, _, 5, (_, TR.2, vl, _, _, TR.1, wr, pg, pv, sz, _), by decide, by decide, (cl_preallocate l D g K ow vl _ _ S _ (nI f) (nI b) (nI n) o lf 7 (by decide) _ hc), hm, fun _ => rfl, ⟨hV2, hsp.2.2.1, hhw, hI.2.2.1, hq1, hq2, hI.2.2.2.2.2.1, hI.2.2.2.2.2.2⟩⟩
theorem rr_V3 (cd fi le : Int32) (S : Nat → dx_S) (ow vl pl wr pg pv sz bf : Nat → Int32) (f b n : Nat) (TR T2 : (Nat → Int32) × (Nat → Int32)) (hf : f < 4) (hb : b < 60) (hn1 : 0 < n) (hn2 : n ≤ 60 - b) (hV : rr_V S pl wr pg pv sz) (hI : rr_I pl wr pg sz ow) (m1 : px_vw T2.1 TR.1 (60 * f)) (m2 : T2.2 = TR.2) (hsp : px_mhP (fun j => px_on pg j || true) pl ow TR.1 TR.2 (60 * f + b) (60 * f + b + n)) (ecn : px_cnt (px_hole (S f).1) b (b + n - b) = px_cnt (px_hole pl) (60 * f + b) n) : (∀ j, j < 60 → px_on (px_note (S f).1 (S f).2.2.2.2.1 60) j = px_hole pl (60 * f + j)) ∧ px_cut (fun j => px_hole pl j) TR.1 (60 * f) 60 (-1) = pl ∧ rr_V (dx_up S f (px_cut (px_on (px_note (S f).1 (S f).2.2.2.2.1 60)) T2.1 0 60 (-1), px_cut (fun j => px_on (px_note (S f).1 (S f).2.2.2.2.1 60) j && !px_hole T2.1 j) (S f).2.1 0 60 (nI 0), (S f).2.2.1, (S f).2.2.2.1, px_note (S f).1 (S f).2.2.2.2.1 60, (S f).2.2.2.2.2)) pl wr pg pv sz := by
  obtain ⟨v1, v2, v3, v4, v5⟩ := hV f hf
  have hon : ∀ j, j < 60 → px_on (px_note (S f).1 (S f).2.2.2.2.1 60) j = px_hole pl (60 * f + j) := by
    intro j hj
    unfold px_on px_note
    rw [if_pos hj, v1.hole hj]
    cases px_hole pl (60 * f + j) <;> rfl
  refine ⟨hon, ?_, ?_⟩
  · funext j
    unfold px_cut
    by_cases hh : px_hole pl j = true
    · have hp : pl j = -1 := by simpa [px_hole] using hh
      by_cases hj : 60 * f ≤ j ∧ j < 60 * f + 60
      · rw [if_pos ⟨hj.1, hj.2, hh⟩, hp]
      · rw [if_neg (fun z => hj ⟨z.1, z.2.1⟩)]
        exact hsp.1 j (fun z => hj ⟨by omega, by omega⟩)
    · rw [if_neg (fun z => hh z.2.2)]
      exact hsp.1 j (fun z => hh z.2.2.1)
  · refine hV.up hf (fun _ _ => rfl) (fun _ _ => rfl) (fun _ _ => rfl) (fun _ _ => rfl) (fun _ _ => rfl) (fun j hj => ?_) (fun j hj => ?_) v3 v4 v5
    · show px_cut (px_on (px_note (S f).1 (S f).2.2.2.2.1 60)) T2.1 0 60 (-1) j = pl (60 * f + j)
      unfold px_cut
      by_cases hh : px_hole pl (60 * f + j) = true
      · rw [if_pos ⟨by omega, by omega, by rw [hon j hj]; exact hh⟩]
        have hp : pl (60 * f + j) = -1 := by simpa [px_hole] using hh
        exact hp.symm
      · rw [if_neg (fun z => hh (by rw [← hon j hj]; exact z.2.2)), m1 j hj]
        exact hsp.1 _ (fun z => hh z.2.2.1)
    · show px_cut (fun j => px_on (px_note (S f).1 (S f).2.2.2.2.1 60) j && !px_hole T2.1 j) (S f).2.1 0 60 (nI 0) j = wr (60 * f + j)
      unfold px_cut
      by_cases hh : px_hole pl (60 * f + j) = true
      · have hw0 := hI.2.1 (60 * f + j) (by omega) hh
        split
        · exact hw0.symm
        · exact v2 j hj
      · rw [if_neg (fun z => hh (by have z2 := z.2.2; simp only [Bool.and_eq_true] at z2; rw [← hon j hj]; exact z2.1))]
        exact v2 j hj
theorem sp_preV (l : Launch) (D : va_G) (g : Nat → ClassId) (hfl : l.flags = pinnedFlags ++ [noTraceFlag]) (K : dx_K) (hK : dx_ok K) (A : rr_A) (o : Nat) (lf : Nat → Int64) (cd fi le : Int32) (S : Nat → dx_S) (ow vl pl wr pg pv sz bf : Nat → Int32) (f b n : Nat) (TR T2 : (Nat → Int32) × (Nat → Int32)) (hf : f < 4) (hb : b < 60) (hn1 : 0 < n) (hn2 : n ≤ 60 - b) (hV : rr_V S pl wr pg pv sz) (hI : rr_I pl wr pg sz ow) (m1 : px_vw T2.1 TR.1 (60 * f)) (m2 : T2.2 = TR.2) (hsp : px_mhP (fun j => px_on pg j || true) pl ow TR.1 TR.2 (60 * f + b) (60 * f + b + n)) (ecn : px_cnt (px_hole (S f).1) b (b + n - b) = px_cnt (px_hole pl) (60 * f + b) n) (hc : wt_ct l D g yy_DE_preallocate bb_DE_preallocate 7 (some .int) (wt_rm 8) [.ref (dx_x K), .int (nI f), .int (nI b), .int (nI n)] (dx_w g K ow vl S) "java/lang/UnsupportedOperationException" (dx_w g K (px_rel (px_on (px_note (S f).1 (S f).2.2.2.2.1 60)) T2.1 60 0 T2.2) vl (dx_up S f (px_cut (px_on (px_note (S f).1 (S f).2.2.2.2.1 60)) T2.1 0 60 (-1), px_cut (fun j => px_on (px_note (S f).1 (S f).2.2.2.2.1 60) j && !px_hole T2.1 j) (S f).2.1 0 60 (nI 0), (S f).2.2.1, (S f).2.2.2.1, px_note (S f).1 (S f).2.2.2.2.1 60, (S f).2.2.2.2.2)))) (hm : ww_ct l D g yy_MO_preallocate bb_MO_preallocate 7 (some .int) (ww_rm 5) [.ref A.1, .int (nI f), .int (nI b), .int (nI n)] [(A.1, .inr (3, [.int cd, .ref A.2.1, .ref A.2.2.1, .ref A.2.2.2.1, .ref A.2.2.2.2.1, .ref A.2.2.2.2.2.1, .ref A.2.2.2.2.2.2.1, .ref A.2.2.2.2.2.2.2.1, .ref A.2.2.2.2.2.2.2.2, .int fi, .int le])), (A.2.1, .inl (g 0, 240, .inl pl)), (A.2.2.1, .inl (g 1, 240, .inl wr)), (A.2.2.2.1, .inl (g 1, 240, .inl pg)), (A.2.2.2.2.1, .inl (g 0, 240, .inl pv)), (A.2.2.2.2.2.1, .inl (g 0, 4, .inl sz)), (A.2.2.2.2.2.2.1, .inl (g 0, 80, .inl ow)), (A.2.2.2.2.2.2.2.1, .inl (g 0, 80, .inl vl)), (A.2.2.2.2.2.2.2.2, .inl (g 0, 60, .inl bf))] (some (.int (nI 0))) [(A.1, .inr (3, [.int (nI 3), .ref A.2.1, .ref A.2.2.1, .ref A.2.2.2.1, .ref A.2.2.2.2.1, .ref A.2.2.2.2.2.1, .ref A.2.2.2.2.2.2.1, .ref A.2.2.2.2.2.2.2.1, .ref A.2.2.2.2.2.2.2.2, .int ((px_xs TR.1 wr (px_xs TR.1 wr le fi 4).1 (px_xs TR.1 wr le fi 4).2 4).2), .int ((px_xs TR.1 wr (px_xs TR.1 wr le fi 4).1 (px_xs TR.1 wr le fi 4).2 4).1)])), (A.2.1, .inl (g 0, 240, .inl (px_cut (fun j => px_hole pl j) TR.1 (60 * f) 60 (-1)))), (A.2.2.1, .inl (g 1, 240, .inl wr)), (A.2.2.2.1, .inl (g 1, 240, .inl pg)), (A.2.2.2.2.1, .inl (g 0, 240, .inl pv)), (A.2.2.2.2.2.1, .inl (g 0, 4, .inl sz)), (A.2.2.2.2.2.2.1, .inl (g 0, 80, .inl (px_rel (fun j => px_hole pl j) TR.1 60 (60 * f) TR.2))), (A.2.2.2.2.2.2.2.1, .inl (g 0, 80, .inl vl)), (A.2.2.2.2.2.2.2.2, .inl (g 0, 60, .inl (px_bcp pl (60 * f) bf 60)))]) : rr_O l D g K A o yy_LA_preallocate bb_LA_preallocate 6 [(0, 12, 15, 13), (0, 12, 19, 27), (0, 12, 23, 17)] yy_MO_preallocate bb_MO_preallocate 7 [.int (nI f), .int (nI b), .int (nI n)] lf cd (S, ow, vl, fi, le, pl, wr, pg, pv, sz, bf) := by
  obtain ⟨hon, hcut, hV3⟩ := rr_V3 cd fi le S ow vl pl wr pg pv sz bf f b n TR T2 hf hb hn1 hn2 hV hI m1 m2 hsp ecn
  have hnu2 := hsp.2.2.2
  have hI4 := hI.2.2.2.1
  obtain ⟨r1, r2⟩ := px_rel_spec (fun j => px_hole pl j) 60 (60 * f) TR.1 TR.2 hsp.2.2.1 (by omega)
  rw [hcut] at r1 r2 hm
  have e5 := px_rel_sh (sel := px_on (px_note (S f).1 (S f).2.2.2.2.1 60)) (sel' := fun j => px_hole pl j) hon m1 60 0 T2.2 (Nat.le_refl _)
  rw [Nat.add_zero, m2] at e5
  rw [m2, e5] at hc
  have hq : px_nu (px_rel (fun j => px_hole pl j) TR.1 60 (60 * f) TR.2) + px_mp pl = 80 := by omega
  exact ⟨3, lf, nI 0, 5, (_, _, vl, _, _, pl, wr, pg, pv, sz, _), by decide, by decide, (cl_preallocate_UOE l D g K ow vl _ _ S _ (nI f) (nI b) (nI n) o lf hc), hm, (fun h => absurd h (by decide)), hV3, r1, hI.2.1, hI.2.2.1, hq, hI.2.2.2.2.1, hI.2.2.2.2.2.1, hI.2.2.2.2.2.2⟩
theorem rr_cmp {S : Nat → dx_S} {pl wr pg pv sz : Nat → Int32} (h : rr_V S pl wr pg pv sz) : dx_rs S + dx_mt S = px_sum (fun k => px_res pl wr pg (60 * k)) 4 + px_sum (fun k => px_mt pl wr (60 * k)) 4 := by rw [rr_drs h, rr_dmt h]
theorem sp_preallocate (l : Launch) (D : va_G) (g : Nat → ClassId) (hfl : l.flags = pinnedFlags ++ [noTraceFlag]) (K : dx_K) (hK : dx_ok K) (A : rr_A) (o : Nat) (lf : Nat → Int64) (cd fi le : Int32) (S : Nat → dx_S) (ow vl pl wr pg pv sz bf : Nat → Int32) (x y z : Int32) (hOK : rr_OK (S, ow, vl, fi, le, pl, wr, pg, pv, sz, bf)) : rr_O l D g K A o yy_LA_preallocate bb_LA_preallocate 6 [(0, 12, 15, 13), (0, 12, 19, 27), (0, 12, 23, 17)] yy_MO_preallocate bb_MO_preallocate 7 [.int x, .int y, .int z] lf cd (S, ow, vl, fi, le, pl, wr, pg, pv, sz, bf) := by
  obtain ⟨hV, hI⟩ := hOK
  have hV : rr_V S pl wr pg pv sz := hV
  have hI : rr_I pl wr pg sz ow := hI
  have hr := rr_hr hV hI
  by_cases h1 : px_nf x 3 = true
  · exact ⟨1, lf, nI 0, 5, (S, ow, vl, fi, le, pl, wr, pg, pv, sz, bf), by decide, by decide, (cl_preallocate_IOOBE l D g K ow vl _ _ S _ x y z o lf (ce_DE_preallocate_f l D g K ow vl S x y z hfl hK h1)), (cc_MO_pre_bad1 l D g A.1 A.2.1 A.2.2.1 A.2.2.2.1 A.2.2.2.2.1 A.2.2.2.2.2.1 A.2.2.2.2.2.2.1 A.2.2.2.2.2.2.2.1 A.2.2.2.2.2.2.2.2 cd fi le pl wr pg pv sz ow vl bf x y z (Or.inl h1)), (fun h => absurd h (by decide)), ⟨hV, hI⟩⟩
  obtain ⟨f, hf, rfl⟩ := px_val (by decide) (show px_nf x 3 = false by simpa using h1)
  have hf : f < 4 := by omega
  by_cases h2 : px_nf y 59 = true
  · exact ⟨1, lf, nI 0, 5, (S, ow, vl, fi, le, pl, wr, pg, pv, sz, bf), by decide, by decide, (cl_preallocate_IOOBE l D g K ow vl _ _ S _ (nI f) y z o lf (ce_DE_preallocate_b l D g K ow vl S f y z hfl hK hf h2)), (cc_MO_pre_bad1 l D g A.1 A.2.1 A.2.2.1 A.2.2.2.1 A.2.2.2.2.1 A.2.2.2.2.2.1 A.2.2.2.2.2.2.1 A.2.2.2.2.2.2.2.1 A.2.2.2.2.2.2.2.2 cd fi le pl wr pg pv sz ow vl bf (nI f) y z (Or.inr h2)), (fun h => absurd h (by decide)), ⟨hV, hI⟩⟩
  obtain ⟨b, hb, rfl⟩ := px_val (by decide) (show px_nf y 59 = false by simpa using h2)
  have hb : b < 60 := by omega
  obtain ⟨v1, v2, v3, v4, v5⟩ := hV f hf
  by_cases h3 : z < nI 1 ∨ ¬ z ≤ nI (60 - b)
  · exact ⟨2, lf, nI 0, 5, (S, ow, vl, fi, le, pl, wr, pg, pv, sz, bf), by decide, by decide, (cl_preallocate_IAE l D g K ow vl _ _ S _ (nI f) (nI b) z o lf (ce_DE_preallocate_r l D g K ow vl S f b z hfl hK hf hb h3)), (cc_MO_pre_bad2 l D g A.1 A.2.1 A.2.2.1 A.2.2.2.1 A.2.2.2.2.1 A.2.2.2.2.2.1 A.2.2.2.2.2.2.1 A.2.2.2.2.2.2.2.1 A.2.2.2.2.2.2.2.2 cd fi le pl wr pg pv sz ow vl bf f b z hf hb h3), (fun h => absurd h (by decide)), ⟨hV, hI⟩⟩
  obtain ⟨n, hn1, hn2, rfl⟩ := px_valr (by omega) h3
  have ecn : px_cnt (px_hole (S f).1) b (b + n - b) = px_cnt (px_hole pl) (60 * f + b) n := by
    rw [Nat.add_sub_cancel_left]
    refine px_cnt_congr (fun k hk => ?_)
    rw [v1.hole (show b + k < 60 by omega), Nat.add_assoc]
  by_cases hfew : px_nu ow < px_cnt (px_hole pl) (60 * f + b) n
  · exact ⟨3, lf, nI 0, 5, (S, ow, vl, fi, le, pl, wr, pg, pv, sz, _), by decide, by decide, (cl_preallocate_UOE l D g K ow vl _ _ S _ (nI f) (nI b) (nI n) o lf (ce_DE_pre_few l D g K ow vl S f b n hfl hK hf hb hn1 hn2 (by rw [ecn]; exact hfew))), (cc_MO_pre_few l D g A.1 A.2.1 A.2.2.1 A.2.2.2.1 A.2.2.2.2.1 A.2.2.2.2.2.1 A.2.2.2.2.2.2.1 A.2.2.2.2.2.2.2.1 A.2.2.2.2.2.2.2.2 cd fi le pl wr pg pv sz ow vl bf f b n hI.1 hI.2.1 hf hb hn1 hn2 hfew), (fun h => absurd h (by decide)), ⟨hV, hI⟩⟩
  have hnu : px_cnt (px_hole pl) (60 * f + b) n ≤ px_nu ow := by omega
  have hs : ∀ j, j < 60 → (fun j => px_on (S f).2.2.1 j || !false) j = (fun j => px_on pg j || true) (60 * f + j) := fun j hj => by simp
  obtain ⟨m1, m2⟩ := px_mh_sh (o := 60 * f) (sel := fun j => px_on (S f).2.2.1 j || !false) (sel' := fun j => px_on pg j || true) hs 60 b (b + n) (S f).1 pl ow (by omega) v1
  rw [← Nat.add_assoc] at m1 m2
  have hsp := px_mh_spec (60 * f) (fun j => px_on pg j || true) 60 (60 * f + b) (60 * f + b + n) pl ow (by omega) hI.1 (by omega) (by rw [show 60 * f + b + n - (60 * f + b) = n by omega]; simpa using hnu)
  have hr2 : px_rng (px_mh (60 * f) 0 (fun j => px_on (S f).2.2.1 j || !false) 60 b (b + n) (S f).1 ow).1 0 60 := rr_rng hf m1 (fun b hb => hsp.2.2.1.rg b hb)
  have hcmp : dx_rs (dx_up S f ((px_mh (60 * f) 0 (fun j => px_on (S f).2.2.1 j || !false) 60 b (b + n) (S f).1 ow).1, (S f).2.1, (S f).2.2.1, (S f).2.2.2.1, px_note (S f).1 (S f).2.2.2.2.1 60, (S f).2.2.2.2.2)) + dx_mt (dx_up S f ((px_mh (60 * f) 0 (fun j => px_on (S f).2.2.1 j || !false) 60 b (b + n) (S f).1 ow).1, (S f).2.1, (S f).2.2.1, (S f).2.2.2.1, px_note (S f).1 (S f).2.2.2.2.1 60, (S f).2.2.2.2.2)) = px_sum (fun k => px_res (px_mh 0 (60 * f) (fun j => px_on pg j || true) 60 (60 * f + b) (60 * f + b + n) pl ow).1 wr pg (60 * k)) 4 + px_sum (fun k => px_mt (px_mh 0 (60 * f) (fun j => px_on pg j || true) 60 (60 * f + b) (60 * f + b + n) pl ow).1 wr (60 * k)) 4 := rr_cmp (rr_V2 cd fi le S ow vl pl wr pg pv sz bf f b n (px_mh 0 (60 * f) (fun j => px_on pg j || true) 60 (60 * f + b) (60 * f + b + n) pl ow) (px_mh (60 * f) 0 (fun j => px_on (S f).2.2.1 j || !false) 60 b (b + n) (S f).1 ow) hf hb hn1 hn2 hV hI m1 m2 hsp ecn)
  by_cases hov : px_sum (fun k => px_res (px_mh 0 (60 * f) (fun j => px_on pg j || true) 60 (60 * f + b) (60 * f + b + n) pl ow).1 wr pg (60 * k)) 4 + px_sum (fun k => px_mt (px_mh 0 (60 * f) (fun j => px_on pg j || true) 60 (60 * f + b) (60 * f + b + n) pl ow).1 wr (60 * k)) 4 ≤ 80
  · exact sp_preO l D g hfl K hK A o lf cd fi le S ow vl pl wr pg pv sz bf f b n (px_mh 0 (60 * f) (fun j => px_on pg j || true) 60 (60 * f + b) (60 * f + b + n) pl ow) (px_mh (60 * f) 0 (fun j => px_on (S f).2.2.1 j || !false) 60 b (b + n) (S f).1 ow) hf hb hn1 hn2 hV hI m1 m2 hsp ecn hov (cc_DE_pre_ok l D g K ow vl S f b n hK hf hb hn1 hn2 hr hr2 (Nat.le_trans (Nat.le_of_eq ecn) hnu) (Nat.le_trans (Nat.le_of_eq hcmp) hov)) (cc_MO_pre_ok l D g A.1 A.2.1 A.2.2.1 A.2.2.2.1 A.2.2.2.2.1 A.2.2.2.2.2.1 A.2.2.2.2.2.2.1 A.2.2.2.2.2.2.2.1 A.2.2.2.2.2.2.2.2 cd fi le pl wr pg pv sz ow vl bf f b n hI.1 hI.2.1 hf hb hn1 hn2 hnu hov)
  · exact sp_preV l D g hfl K hK A o lf cd fi le S ow vl pl wr pg pv sz bf f b n (px_mh 0 (60 * f) (fun j => px_on pg j || true) 60 (60 * f + b) (60 * f + b + n) pl ow) (px_mh (60 * f) 0 (fun j => px_on (S f).2.2.1 j || !false) 60 b (b + n) (S f).1 ow) hf hb hn1 hn2 hV hI m1 m2 hsp ecn (ce_DE_pre_over l D g K ow vl S f b n hfl hK hf hb hn1 hn2 hr hr2 (Nat.le_trans (Nat.le_of_eq ecn) hnu) (fun z => hov (Nat.le_trans (Nat.le_of_eq hcmp.symm) z))) (cc_MO_pre_over l D g A.1 A.2.1 A.2.2.1 A.2.2.2.1 A.2.2.2.2.1 A.2.2.2.2.2.1 A.2.2.2.2.2.2.1 A.2.2.2.2.2.2.2.1 A.2.2.2.2.2.2.2.2 cd fi le pl wr pg pv sz ow vl bf f b n hI.1 hI.2.1 hf hb hn1 hn2 hnu hov)
