
theorem sp_flush (l : Launch) (D : va_G) (g : Nat → ClassId) (hfl : l.flags = pinnedFlags ++ [noTraceFlag]) (K : dx_K) (hK : dx_ok K) (A : rr_A) (o : Nat) (lf : Nat → Int64) (cd fi le : Int32) (S : Nat → dx_S) (ow vl pl wr pg pv sz bf : Nat → Int32) (x : Int32) (hOK : rr_OK (S, ow, vl, fi, le, pl, wr, pg, pv, sz, bf)) : rr_O l D g K A o yy_LA_flush bb_LA_flush 4 [(0, 9, 12, 13)] yy_MO_flush bb_MO_flush 4 [.int x] lf cd (S, ow, vl, fi, le, pl, wr, pg, pv, sz, bf) := by
  obtain ⟨hV, hI⟩ := hOK
  have hV : rr_V S pl wr pg pv sz := hV
  have hI : rr_I pl wr pg sz ow := hI
  have hr := rr_hr hV hI
  by_cases h1 : px_nf x 3 = true
  · exact ⟨1, lf, nI 0, 5, (S, ow, vl, fi, le, pl, wr, pg, pv, sz, bf), by decide, by decide, (cl_flush_IOOBE l D g K ow vl _ _ S _ x o lf (ce_DE_flush_f l D g K ow vl S x hfl hK h1)), (cc_MO_flush_bad l D g A.1 A.2.1 A.2.2.1 A.2.2.2.1 A.2.2.2.2.1 A.2.2.2.2.2.1 A.2.2.2.2.2.2.1 A.2.2.2.2.2.2.2.1 A.2.2.2.2.2.2.2.2 cd fi le pl wr pg pv sz ow vl bf x h1), (fun h => absurd h (by decide)), ⟨hV, hI⟩⟩
  obtain ⟨f, hf, rfl⟩ := px_val (by decide) (show px_nf x 3 = false by simpa using h1)
  have hf : f < 4 := by omega
  obtain ⟨v1, v2, v3, v4, v5⟩ := hV f hf
  have hs : ∀ j, j < 60 → (fun j => px_on (S f).2.2.1 j || !true) j = (fun j => px_on pg j || false) (60 * f + j) := fun j hj => by simp [v3.on hj]
  obtain ⟨m1, m2⟩ := px_mh_sh (o := 60 * f) (sel := fun j => px_on (S f).2.2.1 j || !true) (sel' := fun j => px_on pg j || false) hs 60 0 60 (S f).1 pl ow (Nat.le_refl _) v1
  rw [Nat.add_zero] at m1 m2
  have hcn : px_cnt (fun j => px_hole pl j && (px_on pg j || false)) (60 * f) 60 ≤ px_nu ow := by
    refine Nat.le_trans (Nat.le_of_eq (px_cnt_congr (fun k _ => ?_))) (rr_nu hI hf)
    simp [Bool.and_comm]
  have hsp := px_mh_spec (60 * f) (fun j => px_on pg j || false) 60 (60 * f) (60 * f + 60) pl ow (by omega) hI.1 (by omega) (by rw [show 60 * f + 60 - 60 * f = 60 by omega]; exact hcn)
  have hr2 : px_rng (px_mh (60 * f) 0 (fun j => px_on (S f).2.2.1 j || !true) 60 0 60 (S f).1 ow).1 0 60 := rr_rng hf m1 (fun b hb => hsp.2.2.1.rg b hb)
  have hc := (cc_DE_flush l D g K ow vl S f hK hf hr2)
  have hm := (cc_MO_flush l D g A.1 A.2.1 A.2.2.1 A.2.2.2.1 A.2.2.2.2.1 A.2.2.2.2.2.1 A.2.2.2.2.2.2.1 A.2.2.2.2.2.2.2.1 A.2.2.2.2.2.2.2.2 cd fi le pl wr pg pv sz ow vl bf f hI.1 hI.2.1 hf hcn)
  generalize hTR : (px_mh 0 (60 * f) (fun j => px_on pg j || false) 60 (60 * f) (60 * f + 60) pl ow) = TR at m1 m2 hsp hc hm
  generalize hT1 : (px_mh (60 * f) 0 (fun j => px_on (S f).2.2.1 j || !true) 60 0 60 (S f).1 ow) = T1 at m1 m2 hr2 hc
  clear hTR hT1
  have e3 : px_wv T1.1 (S f).2.2.1 (S f).2.2.2.1 60 0 vl = px_wv TR.1 pg pv 60 (60 * f) vl := by rw [px_wv_sh m1 v3 v4 60 0 vl (Nat.le_refl _), Nat.add_zero]
  rw [m2, e3, rr_pp v3] at hc
  have hV2 : rr_V (dx_up S f (T1.1, px_cut (fun j => px_on (S f).2.2.1 j && !px_hole T1.1 j) (S f).2.1 0 60 (nI 1), px_fill (S f).2.2.1 0 60 (nI 0), (S f).2.2.2.1, (S f).2.2.2.2.1, (S f).2.2.2.2.2)) TR.1 (px_cut (px_on pg) wr (60 * f) 60 (nI 1)) (px_fill pg (60 * f) 60 (nI 0)) pv sz := by
    have g3 := v3.fill 0 60 (nI 0)
    rw [Nat.add_zero] at g3
    refine hV.up hf (fun j hj => hsp.1 j (fun z => hj ⟨z.1, z.2.1⟩)) (fun j hj => px_cut_o hj) (fun j hj => px_fill_o hj) (fun _ _ => rfl) (fun _ _ => rfl) m1 (fun j hj => ?_) g3 (fun j hj ho => ?_) v5
    · show px_cut (fun j => px_on (S f).2.2.1 j && !px_hole T1.1 j) (S f).2.1 0 60 (nI 1) j = px_cut (px_on pg) wr (60 * f) 60 (nI 1) (60 * f + j)
      unfold px_cut
      by_cases o1 : px_on pg (60 * f + j) = true
      · have hm2 : px_hole TR.1 (60 * f + j) = false := by
          by_cases hh : px_hole pl (60 * f + j) = true
          · obtain ⟨p, hp, hq⟩ := hsp.2.1 (60 * f + j) (by omega) (by omega) hh (by simp [o1])
            have := px_m1 (show p < 2 ^ 31 by omega)
            simp [px_hole, hq, this]
          · have e := hsp.1 (60 * f + j) (fun z => hh z.2.2.1)
            simp only [Bool.not_eq_true] at hh
            unfold px_hole at hh ⊢
            rwa [e]
        rw [if_pos ⟨by omega, by omega, by show (px_on (S f).2.2.1 j && !px_hole T1.1 j) = true; rw [v3.on hj, o1, m1.hole hj, hm2]; rfl⟩, if_pos ⟨by omega, by omega, o1⟩]
      · rw [if_neg (fun z => o1 (by have z2 := z.2.2; simp only [Bool.and_eq_true] at z2; rw [← v3.on hj]; exact z2.1)), if_neg (fun z => o1 z.2.2)]
        exact v2 j hj
    · have e1 : px_fill pg (60 * f) 60 (nI 0) (60 * f + j) = nI 0 := by unfold px_fill; rw [if_pos (by omega)]
      rw [px_on_0 e1] at ho
      exact absurd ho (by decide)
  exact ⟨0, _, _, 5, (_, _, _, fi, le, _, (px_cut (px_on pg) wr (60 * f) 60 (nI 1)), (px_fill pg (60 * f) 60 (nI 0)), pv, sz, bf), by decide, by decide, (cl_flush l D g K ow vl _ _ S _ (nI f) o lf 5 (by decide) _ hc), hm, fun _ => rfl, ⟨hV2, rr_flush hf hI hsp⟩⟩
