
theorem lw_turn {X : ww_X} {b Ln : Nat} {xs : Nat → Int32} (Fx : lw_F X b Ln xs) {K : dx_K} (hK : dx_ok K) {A : rr_A} {o i cs ss : Nat} (hi : i + 4 ≤ Ln) (hcs : cs + 1 ≤ 601024) (hss : ss + 6 ≤ 7293034) {lf : Nat → Int64} {cd : Int32} {T : rr_T} (hOK : rr_OK T) (kk : ∀ (lf' : Nat → Int64) (cd' : Int32) (T' : rr_T), rr_OK T' → ww_at X (cs + 1) (ss + 6) 815 (lw_L b (dx_x K) A.1 o i) [] (lw_w (ww_g X) o K A lf' cd' T')) : ww_at X cs ss 32 (lw_L b (dx_x K) A.1 o i) [] (lw_w (ww_g X) o K A lf cd T) := by
  have Fy := Fx
  obtain ⟨O, hfl, hR, hn, hN, hX, hbl, hbA, hLn, -⟩ := Fx
  refine ww_aload_n O dd_LA_law_32 0 rfl ?_
  refine ww_iload O dd_LA_law_33 4 rfl ?_
  refine lw_sld O hX hbl hbA (by omega) (by omega) dd_LA_law_35 ?_
  refine ww_bipush O dd_LA_law_36 (v := nI 15) rfl ?_
  obtain ⟨j, hj, ej⟩ := px_and15 (xs i)
  refine ww_iand O dd_LA_law_38 ej ?_
  rcases (show j = 0 ∨ j = 1 ∨ j = 2 ∨ j = 3 ∨ j = 4 ∨ j = 5 ∨ j = 6 ∨ j = 7 ∨ j = 8 ∨ j = 9 ∨ j = 10 ∨ j = 11 ∨ j = 12 ∨ j = 13 ∨ j = 14 ∨ j = 15 by omega) with rfl | rfl | rfl | rfl | rfl | rfl | rfl | rfl | rfl | rfl | rfl | rfl | rfl | rfl | rfl | rfl
  · exact ww_tabIn O dd_LA_law_39 (off := 65) (tgt := 104) (by decide) (by decide) (by decide) (by decide) (lw_write Fy hK hi hcs hss hOK kk)
  · exact ww_tabIn O dd_LA_law_39 (off := 125) (tgt := 164) (by decide) (by decide) (by decide) (by decide) (lw_read Fy hK hi hcs hss hOK kk)
  · exact ww_tabIn O dd_LA_law_39 (off := 193) (tgt := 232) (by decide) (by decide) (by decide) (by decide) (lw_preallocate Fy hK hi hcs hss hOK kk)
  · exact ww_tabIn O dd_LA_law_39 (off := 273) (tgt := 312) (by decide) (by decide) (by decide) (by decide) (lw_punch Fy hK hi hcs hss hOK kk)
  · exact ww_tabIn O dd_LA_law_39 (off := 353) (tgt := 392) (by decide) (by decide) (by decide) (by decide) (lw_truncate Fy hK hi hcs hss hOK kk)
  · exact ww_tabIn O dd_LA_law_39 (off := 421) (tgt := 460) (by decide) (by decide) (by decide) (by decide) (lw_flush Fy hK hi hcs hss hOK kk)
  · exact ww_tabIn O dd_LA_law_39 (off := 477) (tgt := 516) (by decide) (by decide) (by decide) (by decide) (lw_crash Fy hK hi hcs hss hOK kk)
  · exact ww_tabIn O dd_LA_law_39 (off := 490) (tgt := 529) (by decide) (by decide) (by decide) (by decide) (lw_extent Fy hK hi hcs hss hOK kk)
  · exact ww_tabIn O dd_LA_law_39 (off := 570) (tgt := 609) (by decide) (by decide) (by decide) (by decide) (lw_about Fy hK hi hcs hss hOK kk)
  · exact ww_tabIn O dd_LA_law_39 (off := 638) (tgt := 677) (by decide) (by decide) (by decide) (by decide) (lw_free Fy hK hi hcs hss hOK kk)
  · exact ww_tabIn O dd_LA_law_39 (off := 651) (tgt := 690) (by decide) (by decide) (by decide) (by decide) (lw_reserved Fy hK hi hcs hss hOK kk)
  · exact ww_tabIn O dd_LA_law_39 (off := 664) (tgt := 703) (by decide) (by decide) (by decide) (by decide) (lw_owner Fy hK hi hcs hss hOK kk)
  · exact ww_tabIn O dd_LA_law_39 (off := 720) (tgt := 759) (by decide) (by decide) (by decide) (by decide) (lw_value Fy hK hi hcs hss hOK kk)
  · exact ww_tabOut O dd_LA_law_39 (tgt := 815) (by decide) (by decide) (ww_wid (Nat.le_add_right _ _) (Nat.le_add_right _ _) (kk lf cd T hOK))
  · exact ww_tabOut O dd_LA_law_39 (tgt := 815) (by decide) (by decide) (ww_wid (Nat.le_add_right _ _) (Nat.le_add_right _ _) (kk lf cd T hOK))
  · exact ww_tabOut O dd_LA_law_39 (tgt := 815) (by decide) (by decide) (ww_wid (Nat.le_add_right _ _) (Nat.le_add_right _ _) (kk lf cd T hOK))
theorem lw_loop {X : ww_X} {b Ln : Nat} {xs : Nat → Int32} (Fx : lw_F X b Ln xs) (hF : ∀ (pc : Nat) (L : List (Nat × Value)) (ws : va_W) (cs ss : Nat), cs ≤ 601024 → ss ≤ 7293034 → decode code pc = .ok (.ireturn, 1) → ww_at X cs ss pc L [.int 1] ws) {K : dx_K} (hK : dx_ok K) {A : rr_A} {o : Nat} : ∀ (k t : Nat), 512 ≤ t + k → t ≤ 512 → ∀ (lf : Nat → Int64) (cd : Int32) (T : rr_T), rr_OK T → ww_at X (39 + t) (2596 + 6 * t) 23 (lw_L b (dx_x K) A.1 o (4 * t)) [] (lw_w (ww_g X) o K A lf cd T) := by
  have Fy := Fx
  obtain ⟨O, hfl, hR, hn, hN, hX, hbl, hbA, hLn, -⟩ := Fx
  have hd : ∀ (t : Nat), t ≤ 512 → ∀ (lf : Nat → Int64) (cd : Int32) (T : rr_T), rr_OK T → (4 * t + 4 ≤ Ln → ww_at X (39 + t) (2596 + 6 * t) 32 (lw_L b (dx_x K) A.1 o (4 * t)) [] (lw_w (ww_g X) o K A lf cd T)) → ww_at X (39 + t) (2596 + 6 * t) 23 (lw_L b (dx_x K) A.1 o (4 * t)) [] (lw_w (ww_g X) o K A lf cd T) := by
    intro t ht lf cd T hOK kk
    refine ww_iload O dd_LA_law_23 4 rfl ?_
    refine ww_aload_n O dd_LA_law_25 0 rfl ?_
    refine lw_slen O hX hbl hbA dd_LA_law_26 ?_
    refine ww_iconst O dd_LA_law_27 (v := nI 4) rfl ?_
    refine ww_isub O dd_LA_law_28 rfl ?_
    refine ww_icmp_gt O dd_LA_law_29 (tgt := 821) rfl (fun h => ?_) (fun h => kk (px_end hLn (by omega) h))
    refine ww_iconst O dd_LA_law_821 (v := 1) rfl ?_
    exact hF _ _ _ _ _ (by omega) (by omega) dd_LA_law_822
  intro k
  induction k with
  | zero =>
    intro t h1 h2 lf cd T hOK
    exact hd t h2 lf cd T hOK (fun h => absurd h (by omega))
  | succ k ih =>
    intro t h1 h2 lf cd T hOK
    refine hd t h2 lf cd T hOK (fun h => lw_turn Fy hK h (by omega) (by omega) hOK (fun lf' cd' T' hOK2 => ?_))
    refine ww_iinc O dd_LA_law_815 4 rfl (v := nI (4 * (t + 1))) (nI_add _ 4) (by rw [hn]; decide) rfl (L' := lw_L b (dx_x K) A.1 o (4 * (t + 1))) rfl ?_
    refine ww_goto O dd_LA_law_818 (tgt := 23) rfl ?_
    exact ih (t + 1) (by omega) (by omega) lf' cd' T' hOK2
