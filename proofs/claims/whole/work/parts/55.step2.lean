
theorem sp_write (l : Launch) (D : va_G) (g : Nat → ClassId) (hfl : l.flags = pinnedFlags ++ [noTraceFlag]) (K : dx_K) (hK : dx_ok K) (A : rr_A) (cd fi le : Int32) (S : Nat → dx_S) (ow vl pl wr pg pv sz bf : Nat → Int32) (x y z : Int32) (hOK : rr_OK (S, ow, vl, fi, le, pl, wr, pg, pv, sz, bf)) : rr_W l D g K A [.int x, .int y, .int z] cd (S, ow, vl, fi, le, pl, wr, pg, pv, sz, bf) := by
  obtain ⟨hV, hI⟩ := hOK
  have hV : rr_V S pl wr pg pv sz := hV
  have hI : rr_I pl wr pg sz ow := hI
  have hr := rr_hr hV hI
  by_cases h1 : px_nf x 3 = true
  · exact ⟨1, 5, (S, ow, vl, fi, le, pl, wr, pg, pv, sz, bf), by decide, by decide, (cl_write_IOOBE l D g K ow vl _ _ S _ x y z (ce_DE_write_f l D g K ow vl S x y z hfl hK h1)), (cc_MO_write_bad l D g A.1 A.2.1 A.2.2.1 A.2.2.2.1 A.2.2.2.2.1 A.2.2.2.2.2.1 A.2.2.2.2.2.2.1 A.2.2.2.2.2.2.2.1 A.2.2.2.2.2.2.2.2 cd fi le pl wr pg pv sz ow vl bf x y z (Or.inl h1)), ⟨hV, hI⟩⟩
  obtain ⟨f, hf, rfl⟩ := px_val (by decide) (show px_nf x 3 = false by simpa using h1)
  have hf : f < 4 := by omega
  by_cases h2 : px_nf y 59 = true
  · exact ⟨1, 5, (S, ow, vl, fi, le, pl, wr, pg, pv, sz, bf), by decide, by decide, (cl_write_IOOBE l D g K ow vl _ _ S _ (nI f) y z (ce_DE_write_b l D g K ow vl S f y z hfl hK hf h2)), (cc_MO_write_bad l D g A.1 A.2.1 A.2.2.1 A.2.2.2.1 A.2.2.2.2.1 A.2.2.2.2.2.1 A.2.2.2.2.2.2.1 A.2.2.2.2.2.2.2.1 A.2.2.2.2.2.2.2.2 cd fi le pl wr pg pv sz ow vl bf (nI f) y z (Or.inr h2)), ⟨hV, hI⟩⟩
  obtain ⟨b, hb, rfl⟩ := px_val (by decide) (show px_nf y 59 = false by simpa using h2)
  have hb : b < 60 := by omega
  obtain ⟨v1, v2, v3, v4, v5⟩ := hV f hf
  have h01 : (S f).2.2.1 b = 0 ∨ (S f).2.2.1 b = 1 := by rw [v3 b hb]; exact (hI.2.2.1 _ (by omega)).2
  have h24 := hI.2.2.2.2.2.1
  obtain ⟨n, hn, hs⟩ := hI.2.2.2.2.2.2 f hf
  have eo : ∀ (g2 : Nat → Int32) (v : Int32) (j : Nat), ¬ (60 * f ≤ j ∧ j < 60 * f + 60) → upd g2 (60 * f + b) v j = g2 j := fun g2 v j hj => by unfold upd; rw [if_neg (by omega)]
  have g3 : px_vw (upd (S f).2.2.1 b (nI 1)) (upd pg (60 * f + b) (nI 1)) (60 * f) := v3.upd b _
  have g4 : ∀ j, j < 60 → px_on (upd pg (60 * f + b) (nI 1)) (60 * f + j) = true → upd (S f).2.2.2.1 b z j = (upd pv (60 * f + b) z) (60 * f + j) := by
    intro j hj ho
    unfold upd
    by_cases e : j = b
    · rw [if_pos e, if_pos (by omega)]
    · rw [if_neg e, if_neg (by omega)]
      refine v4 j hj ?_
      unfold px_on upd at ho
      rw [if_neg (by omega)] at ho
      exact ho
  have hV1 : rr_V (dx_up S f ((S f).1, (S f).2.1, upd (S f).2.2.1 b (nI 1), upd (S f).2.2.2.1 b z, (S f).2.2.2.2.1, (S f).2.2.2.2.2)) pl wr (upd pg (60 * f + b) (nI 1)) (upd pv (60 * f + b) z) sz := hV.up hf (fun _ _ => rfl) (fun _ _ => rfl) (fun j hj => eo pg _ j hj) (fun j hj => eo pv _ j hj) (fun _ _ => rfl) v1 v2 g3 g4 v5
  have hV2 : rr_V (dx_up S f ((S f).1, (S f).2.1, upd (S f).2.2.1 b (nI 1), upd (S f).2.2.2.1 b z, (S f).2.2.2.2.1, if (S f).2.2.2.2.2 < nI (b + 1) then nI (b + 1) else (S f).2.2.2.2.2)) pl wr (upd pg (60 * f + b) (nI 1)) (upd pv (60 * f + b) z) (upd sz f (if sz f ≤ nI b then nI (b + 1) else sz f)) := by
    refine hV.up hf (fun _ _ => rfl) (fun _ _ => rfl) (fun j hj => eo pg _ j hj) (fun j hj => eo pv _ j hj) (fun k hk => by unfold upd; rw [if_neg hk]) v1 v2 g3 g4 ?_
    show (if (S f).2.2.2.2.2 < nI (b + 1) then nI (b + 1) else (S f).2.2.2.2.2) = (upd sz f (if sz f ≤ nI b then nI (b + 1) else sz f)) f
    unfold upd
    rw [if_pos rfl, v5, hs]
    exact rr_sz hn hb
  have hsz : ∀ k, k < 4 → ∃ m, m ≤ 60 ∧ (upd sz f (if sz f ≤ nI b then nI (b + 1) else sz f)) k = nI m := by
    intro k hk
    unfold upd
    by_cases e : k = f
    · rw [if_pos e]
      split
      · exact ⟨b + 1, by omega, rfl⟩
      · exact ⟨n, hn, hs⟩
    · rw [if_neg e]
      exact hI.2.2.2.2.2.2 k hk
  have hw1 : ∀ j, j < 240 → (wr j = 0 ∨ wr j = 1) ∧ ((upd pg (60 * f + b) (nI 1)) j = 0 ∨ (upd pg (60 * f + b) (nI 1)) j = 1) := by
    intro j hj
    refine ⟨(hI.2.2.1 j hj).1, ?_⟩
    unfold upd
    split
    · exact Or.inr rfl
    · exact (hI.2.2.1 j hj).2
  by_cases hpg : pg (60 * f + b) = 0
  · by_cases hfull : px_sum (fun k => px_pp pg (60 * k)) 4 = 24
    · exact ⟨2, 5, (S, ow, vl, fi, le, pl, wr, pg, pv, sz, bf), by decide, by decide, (cl_write_ISE l D g K ow vl _ _ S _ (nI f) (nI b) z (ce_DE_write_full l D g K ow vl S f b z hfl hK hf hb h01 (by rw [v3 b hb]; exact hpg) (by rw [rr_dpp hV, hfull]; exact Nat.le_refl _))), (cc_MO_write_full l D g A.1 A.2.1 A.2.2.1 A.2.2.2.1 A.2.2.2.2.1 A.2.2.2.2.2.1 A.2.2.2.2.2.2.1 A.2.2.2.2.2.2.2.1 A.2.2.2.2.2.2.2.2 cd fi le pl wr pg pv sz ow vl bf f b z hf hb hpg hfull), ⟨hV, hI⟩⟩
    · have hnf : ¬ 24 ≤ dx_pp S := by rw [rr_dpp hV]; omega
      have hcmp : dx_rs (dx_up S f ((S f).1, (S f).2.1, upd (S f).2.2.1 b (nI 1), upd (S f).2.2.2.1 b z, (S f).2.2.2.2.1, (S f).2.2.2.2.2)) + dx_mt (dx_up S f ((S f).1, (S f).2.1, upd (S f).2.2.1 b (nI 1), upd (S f).2.2.2.1 b z, (S f).2.2.2.2.1, (S f).2.2.2.2.2)) = px_sum (fun k => px_res pl wr (upd pg (60 * f + b) (nI 1)) (60 * k)) 4 + px_sum (fun k => px_mt pl wr (60 * k)) 4 := by rw [rr_drs hV1, rr_dmt hV1]
      by_cases hov : px_sum (fun k => px_res pl wr (upd pg (60 * f + b) (nI 1)) (60 * k)) 4 + px_sum (fun k => px_mt pl wr (60 * k)) 4 ≤ 80
      · refine ⟨0, 5, (_, ow, vl, _, _, pl, wr, (upd pg (60 * f + b) (nI 1)), (upd pv (60 * f + b) z), (upd sz f (if sz f ≤ nI b then nI (b + 1) else sz f)), bf), by decide, by decide, (cl_write l D g K ow vl _ _ S _ (nI f) (nI b) z 7 (by decide) (cc_DE_write_new l D g K ow vl S f b z hK hf hb hr h01 (by rw [v3 b hb]; exact hpg) hnf (by rw [hcmp]; exact hov))), (cc_MO_write_new l D g A.1 A.2.1 A.2.2.1 A.2.2.2.1 A.2.2.2.2.1 A.2.2.2.2.2.1 A.2.2.2.2.2.2.1 A.2.2.2.2.2.2.2.1 A.2.2.2.2.2.2.2.2 cd fi le pl wr pg pv sz ow vl bf f b z (rr_rg hI) hf hb hpg hfull hov), hV2, hI.1, hI.2.1, hw1, hI.2.2.2.1, ?_, ?_, hsz⟩
        · rw [← rr_sum]; exact hov
        · show px_sum (fun k => px_pp (upd pg (60 * f + b) (nI 1)) (60 * k)) 4 ≤ 24
          rw [rr_pn (by omega) hpg]; omega
      · have hVo : rr_V (dx_up S f ((S f).1, (S f).2.1, upd (upd (S f).2.2.1 b (nI 1)) b (nI 0), upd (S f).2.2.2.1 b z, (S f).2.2.2.2.1, (S f).2.2.2.2.2)) pl wr pg pv sz := by
          refine hV.up hf (fun _ _ => rfl) (fun _ _ => rfl) (fun _ _ => rfl) (fun _ _ => rfl) (fun _ _ => rfl) v1 v2 (fun j hj => ?_) (fun j hj ho => ?_) v5
          · show upd (upd (S f).2.2.1 b (nI 1)) b (nI 0) j = pg (60 * f + j)
            unfold upd
            by_cases e : j = b
            · rw [if_pos e, e, hpg]; rfl
            · rw [if_neg e, if_neg e]; exact v3 j hj
          · show upd (S f).2.2.2.1 b z j = pv (60 * f + j)
            unfold upd
            by_cases e : j = b
            · rw [e] at ho; simp [px_on, hpg] at ho
            · rw [if_neg e]; exact v4 j hj ho
        exact ⟨3, 5, (_, ow, vl, _, _, pl, wr, pg, pv, sz, bf), by decide, by decide, (cl_write_UOE l D g K ow vl _ _ S _ (nI f) (nI b) z (ce_DE_write_over l D g K ow vl S f b z hfl hK hf hb hr h01 (by rw [v3 b hb]; exact hpg) hnf (by rw [hcmp]; exact hov))), (cc_MO_write_over l D g A.1 A.2.1 A.2.2.1 A.2.2.2.1 A.2.2.2.2.1 A.2.2.2.2.2.1 A.2.2.2.2.2.2.1 A.2.2.2.2.2.2.2.1 A.2.2.2.2.2.2.2.2 cd fi le pl wr pg pv sz ow vl bf f b z (rr_rg hI) hf hb hpg hfull hov), hVo, hI⟩
  · have e1 : pg (60 * f + b) = nI 1 := (hI.2.2.1 _ (by omega)).2.resolve_left hpg
    have e2 : (upd pg (60 * f + b) (nI 1)) = pg := px_upd_same e1
    refine ⟨0, 5, (_, ow, vl, fi, le, pl, wr, (upd pg (60 * f + b) (nI 1)), (upd pv (60 * f + b) z), (upd sz f (if sz f ≤ nI b then nI (b + 1) else sz f)), bf), by decide, by decide, (cl_write l D g K ow vl _ _ S _ (nI f) (nI b) z 7 (by decide) (cc_DE_write_old l D g K ow vl S f b z hK hf hb h01 (by rw [v3 b hb]; exact hpg))), (cc_MO_write_old l D g A.1 A.2.1 A.2.2.1 A.2.2.2.1 A.2.2.2.2.1 A.2.2.2.2.2.1 A.2.2.2.2.2.2.1 A.2.2.2.2.2.2.2.1 A.2.2.2.2.2.2.2.2 cd fi le pl wr pg pv sz ow vl bf f b z hf hb hpg), hV2, ?_⟩
    show rr_I pl wr (upd pg (60 * f + b) (nI 1)) (upd sz f (if sz f ≤ nI b then nI (b + 1) else sz f)) ow
    rw [e2]
    exact ⟨hI.1, hI.2.1, hI.2.2.1, hI.2.2.2.1, hI.2.2.2.2.1, hI.2.2.2.2.2.1, hsz⟩
theorem rr_Vp {S : Nat → dx_S} {pl wr pg pv sz ow sz' : Nat → Int32} {f b n e : Nat} {s : Int32} (hf : f < 4) (he : e = n) (hn : b + n ≤ 60) (hV : rr_V S pl wr pg pv sz) (hI : rr_I pl wr pg sz ow) (h5 : ∀ k, k ≠ f → sz' k = sz k) (g5 : s = sz' f) :
    rr_V (dx_up S f (px_fill (S f).1 b e (-1), px_cut (fun j => !px_hole (S f).1 j) (S f).2.1 b e (nI 0), px_fill (S f).2.2.1 b e (nI 0), (S f).2.2.2.1, (S f).2.2.2.2.1, s)) (px_fill pl (60 * f + b) n (-1)) (px_fill wr (60 * f + b) n (nI 0)) (px_fill pg (60 * f + b) n (nI 0)) pv sz' := by
  subst he
  obtain ⟨v1, v2, v3, v4, v5⟩ := hV f hf
  refine hV.up hf (fun j hj => px_fill_o (by omega)) (fun j hj => px_fill_o (by omega)) (fun j hj => px_fill_o (by omega)) (fun _ _ => rfl) h5 (v1.fill b e _) (fun j hj => ?_) (v3.fill b e _) (fun j hj ho => ?_) g5
  · show px_cut (fun j => !px_hole (S f).1 j) (S f).2.1 b e (nI 0) j = px_fill wr (60 * f + b) e (nI 0) (60 * f + j)
    unfold px_cut px_fill
    by_cases hr : b ≤ j ∧ j < b + e
    · rw [if_pos (show 60 * f + b ≤ 60 * f + j ∧ 60 * f + j < 60 * f + b + e by omega)]
      by_cases hh : px_hole (S f).1 j = true
      · rw [if_neg (fun z => by simp [hh] at z), v2 j hj]
        rw [v1.hole hj] at hh
        exact hI.2.1 _ (by omega) hh
      · rw [if_pos ⟨hr.1, hr.2, by simpa using hh⟩]
    · rw [if_neg (fun z => hr ⟨z.1, z.2.1⟩), if_neg (show ¬ (60 * f + b ≤ 60 * f + j ∧ 60 * f + j < 60 * f + b + e) by omega)]
      exact v2 j hj
  · by_cases hr : 60 * f + b ≤ 60 * f + j ∧ 60 * f + j < 60 * f + b + e
    · have e1 : px_fill pg (60 * f + b) e (nI 0) (60 * f + j) = nI 0 := by unfold px_fill; rw [if_pos hr]
      rw [px_on_0 e1] at ho
      exact absurd ho (by decide)
    · simp only [px_on, px_fill_o hr] at ho
      exact v4 j hj ho
theorem sp_punch (l : Launch) (D : va_G) (g : Nat → ClassId) (hfl : l.flags = pinnedFlags ++ [noTraceFlag]) (K : dx_K) (hK : dx_ok K) (A : rr_A) (o : Nat) (lf : Nat → Int64) (cd fi le : Int32) (S : Nat → dx_S) (ow vl pl wr pg pv sz bf : Nat → Int32) (x y z : Int32) (hOK : rr_OK (S, ow, vl, fi, le, pl, wr, pg, pv, sz, bf)) : rr_O l D g K A o yy_LA_punch bb_LA_punch 6 [(0, 12, 15, 13), (0, 12, 19, 27)] yy_MO_punch bb_MO_punch 4 [.int x, .int y, .int z] lf cd (S, ow, vl, fi, le, pl, wr, pg, pv, sz, bf) := by
  obtain ⟨hV, hI⟩ := hOK
  have hV : rr_V S pl wr pg pv sz := hV
  have hI : rr_I pl wr pg sz ow := hI
  have hr := rr_hr hV hI
  by_cases h1 : px_nf x 3 = true
  · exact ⟨1, lf, nI 0, 3, (S, ow, vl, fi, le, pl, wr, pg, pv, sz, bf), by decide, by decide, (cl_punch_IOOBE l D g K ow vl _ _ S _ x y z o lf (ce_DE_punch_f l D g K ow vl S x y z hfl hK h1)), (cc_MO_punch_bad1 l D g A.1 A.2.1 A.2.2.1 A.2.2.2.1 A.2.2.2.2.1 A.2.2.2.2.2.1 A.2.2.2.2.2.2.1 A.2.2.2.2.2.2.2.1 A.2.2.2.2.2.2.2.2 cd fi le pl wr pg pv sz ow vl bf x y z (Or.inl h1)), (fun h => absurd h (by decide)), ⟨hV, hI⟩⟩
  obtain ⟨f, hf, rfl⟩ := px_val (by decide) (show px_nf x 3 = false by simpa using h1)
  have hf : f < 4 := by omega
  by_cases h2 : px_nf y 59 = true
  · exact ⟨1, lf, nI 0, 3, (S, ow, vl, fi, le, pl, wr, pg, pv, sz, bf), by decide, by decide, (cl_punch_IOOBE l D g K ow vl _ _ S _ (nI f) y z o lf (ce_DE_punch_b l D g K ow vl S f y z hfl hK hf h2)), (cc_MO_punch_bad1 l D g A.1 A.2.1 A.2.2.1 A.2.2.2.1 A.2.2.2.2.1 A.2.2.2.2.2.1 A.2.2.2.2.2.2.1 A.2.2.2.2.2.2.2.1 A.2.2.2.2.2.2.2.2 cd fi le pl wr pg pv sz ow vl bf (nI f) y z (Or.inr h2)), (fun h => absurd h (by decide)), ⟨hV, hI⟩⟩
  obtain ⟨b, hb, rfl⟩ := px_val (by decide) (show px_nf y 59 = false by simpa using h2)
  have hb : b < 60 := by omega
  obtain ⟨v1, v2, v3, v4, v5⟩ := hV f hf
  by_cases h3 : z < nI 1 ∨ ¬ z ≤ nI (60 - b)
  · exact ⟨2, lf, nI 0, 3, (S, ow, vl, fi, le, pl, wr, pg, pv, sz, bf), by decide, by decide, (cl_punch_IAE l D g K ow vl _ _ S _ (nI f) (nI b) z o lf (ce_DE_punch_r l D g K ow vl S f b z hfl hK hf hb h3)), (cc_MO_punch_bad2 l D g A.1 A.2.1 A.2.2.1 A.2.2.2.1 A.2.2.2.2.1 A.2.2.2.2.2.1 A.2.2.2.2.2.2.1 A.2.2.2.2.2.2.2.1 A.2.2.2.2.2.2.2.2 cd fi le pl wr pg pv sz ow vl bf f b z hf hb h3), (fun h => absurd h (by decide)), ⟨hV, hI⟩⟩
  obtain ⟨n, hn1, hn2, rfl⟩ := px_valr (by omega) h3
  have hc := (cc_DE_punch l D g K ow vl S f b n hK hf hb hn1 hn2 hr)
  have en : b + n - b = n := by omega
  rw [en] at hc
  have e1 := rr_cnt (P := fun z => !z) (n := n) v1 rfl (show b + n ≤ 60 by omega)
  have e2 := px_rel_sh (sel := fun _ => true) (sel' := fun _ => true) (fun _ _ => rfl) v1 n b ow (by omega)
  rw [e1, e2] at hc
  exact ⟨0, _, _, 3, (_, _, vl, fi, le, (px_fill pl (60 * f + b) n (-1)), (px_fill wr (60 * f + b) n (nI 0)), (px_fill pg (60 * f + b) n (nI 0)), pv, sz, bf), by decide, by decide, (cl_punch l D g K ow vl _ _ S _ (nI f) (nI b) (nI n) o lf 4 (by decide) _ hc), (cc_MO_punch l D g A.1 A.2.1 A.2.2.1 A.2.2.2.1 A.2.2.2.2.1 A.2.2.2.2.2.1 A.2.2.2.2.2.2.1 A.2.2.2.2.2.2.2.1 A.2.2.2.2.2.2.2.2 cd fi le pl wr pg pv sz ow vl bf f b n (rr_rg hI) hf hb hn1 hn2), fun _ => rfl, ⟨rr_Vp hf rfl (by omega) hV hI (fun _ _ => rfl) v5, rr_punch hf (by omega) (by omega) hI hI.2.2.2.2.2.2⟩⟩
theorem sp_truncate (l : Launch) (D : va_G) (g : Nat → ClassId) (hfl : l.flags = pinnedFlags ++ [noTraceFlag]) (K : dx_K) (hK : dx_ok K) (A : rr_A) (o : Nat) (lf : Nat → Int64) (cd fi le : Int32) (S : Nat → dx_S) (ow vl pl wr pg pv sz bf : Nat → Int32) (x y : Int32) (hOK : rr_OK (S, ow, vl, fi, le, pl, wr, pg, pv, sz, bf)) : rr_O l D g K A o yy_LA_truncate bb_LA_truncate 5 [(0, 10, 13, 13), (0, 10, 17, 27)] yy_MO_truncate bb_MO_truncate 3 [.int x, .int y] lf cd (S, ow, vl, fi, le, pl, wr, pg, pv, sz, bf) := by
  obtain ⟨hV, hI⟩ := hOK
  have hV : rr_V S pl wr pg pv sz := hV
  have hI : rr_I pl wr pg sz ow := hI
  have hr := rr_hr hV hI
  by_cases h1 : px_nf x 3 = true
  · exact ⟨1, lf, nI 0, 3, (S, ow, vl, fi, le, pl, wr, pg, pv, sz, bf), by decide, by decide, (cl_truncate_IOOBE l D g K ow vl _ _ S _ x y o lf (ce_DE_truncate_f l D g K ow vl S x y hfl hK h1)), (cc_MO_truncate_bad1 l D g A.1 A.2.1 A.2.2.1 A.2.2.2.1 A.2.2.2.2.1 A.2.2.2.2.2.1 A.2.2.2.2.2.2.1 A.2.2.2.2.2.2.2.1 A.2.2.2.2.2.2.2.2 cd fi le pl wr pg pv sz ow vl bf x y h1), (fun h => absurd h (by decide)), ⟨hV, hI⟩⟩
  obtain ⟨f, hf, rfl⟩ := px_val (by decide) (show px_nf x 3 = false by simpa using h1)
  have hf : f < 4 := by omega
  obtain ⟨v1, v2, v3, v4, v5⟩ := hV f hf
  by_cases h2 : px_nf y 60 = true
  · exact ⟨2, lf, nI 0, 3, (S, ow, vl, fi, le, pl, wr, pg, pv, sz, bf), by decide, by decide, (cl_truncate_IAE l D g K ow vl _ _ S _ (nI f) y o lf (ce_DE_truncate_s l D g K ow vl S f y hfl hK hf (px_nf_or.mp h2))), (cc_MO_truncate_bad2 l D g A.1 A.2.1 A.2.2.1 A.2.2.2.1 A.2.2.2.2.1 A.2.2.2.2.2.1 A.2.2.2.2.2.2.1 A.2.2.2.2.2.2.2.1 A.2.2.2.2.2.2.2.2 cd fi le pl wr pg pv sz ow vl bf f y hf (px_nf_or.mp h2)), (fun h => absurd h (by decide)), ⟨hV, hI⟩⟩
  obtain ⟨b, hb, rfl⟩ := px_val (by decide) (show px_nf y 60 = false by simpa using h2)
  have hc := (cc_DE_truncate l D g K ow vl S f b hK hf hb hr)
  have e1 := rr_cnt (P := fun z => !z) (n := 60 - b) v1 rfl (show b + (60 - b) ≤ 60 by omega)
  have e2 := px_rel_sh (sel := fun _ => true) (sel' := fun _ => true) (fun _ _ => rfl) v1 (60 - b) b ow (by omega)
  rw [e1, e2] at hc
  have hsz : ∀ k, k < 4 → ∃ m, m ≤ 60 ∧ upd sz f (nI b) k = nI m := by
    intro k hk
    unfold upd
    by_cases e : k = f
    · rw [if_pos e]; exact ⟨b, hb, rfl⟩
    · rw [if_neg e]; exact hI.2.2.2.2.2.2 k hk
  have hu1 : ∀ k, k ≠ f → upd sz f (nI b) k = sz k := fun k hk => by unfold upd; rw [if_neg hk]
  have hu2 : nI b = upd sz f (nI b) f := by unfold upd; rw [if_pos rfl]
  exact ⟨0, _, _, 3, (_, _, vl, fi, le, (px_fill pl (60 * f + b) (60 - b) (-1)), (px_fill wr (60 * f + b) (60 - b) (nI 0)), (px_fill pg (60 * f + b) (60 - b) (nI 0)), pv, upd sz f (nI b), bf), by decide, by decide, (cl_truncate l D g K ow vl _ _ S _ (nI f) (nI b) o lf 4 (by decide) _ hc), (cc_MO_truncate l D g A.1 A.2.1 A.2.2.1 A.2.2.2.1 A.2.2.2.2.1 A.2.2.2.2.2.1 A.2.2.2.2.2.2.1 A.2.2.2.2.2.2.2.1 A.2.2.2.2.2.2.2.2 cd fi le pl wr pg pv sz ow vl bf f b (rr_rg hI) hf hb), fun _ => rfl, ⟨rr_Vp hf rfl (by omega) hV hI hu1 hu2, rr_punch hf (by omega) (by omega) hI hsz⟩⟩
