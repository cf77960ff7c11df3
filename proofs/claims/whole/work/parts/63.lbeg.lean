
theorem ww_pick {X : ww_X} {cs ss pc : Nat} {L : List (Nat × Value)} {st : List Value} {ws ws' : va_W} (pm : List Nat) (h2 : pm.map (fun i => ws[i]?) = ws'.map some) (hn : va_nd pm = true) (k : ww_at X cs ss pc L st ws') : ww_at X cs ss pc L st ws :=
  fun H ls locs hl hP hD hS => k H ls locs hl (hP.sub pm (wm_fm h2)) (hD.sub pm hn h2) hS
theorem ww_last1 {X : ww_X} {cs ss pc : Nat} {L : List (Nat × Value)} {st : List Value} {B : va_W} {e : Nat × va_E} (k : ww_at X cs ss pc L st (e :: B)) : ww_at X cs ss pc L st (B ++ [e]) := by
  refine ww_pick ([B.length] ++ List.range' 0 B.length) ?_ (wm_nda _ _ rfl (wm_nd _ _) (fun i hi hj => ?_)) k
  · rw [List.map_append]
    have h1 := wm_at B [] [e]
    simp only [List.length_nil, List.nil_append] at h1
    rw [h1]
    simp
  · simp at hi hj
    omega
def lw_T0 : rr_T := (dx_S0, px_fill (fun _ => nI 0) 0 80 (-1), (fun _ => nI 0), 0, 0, px_fill (fun _ => nI 0) 0 240 (-1), (fun _ => nI 0), (fun _ => nI 0), (fun _ => nI 0), (fun _ => nI 0), (fun _ => nI 0))
set_option maxRecDepth 8000 in
theorem lw_ok0 : rr_OK lw_T0 := by
  have hfi : ∀ (n j : Nat), j < n → px_fill (fun _ => nI 0) 0 n (-1) j = -1 := fun n j hj => by unfold px_fill; rw [if_pos (by omega)]
  refine ⟨fun f hf => ⟨fun j hj => ?_, fun j hj => rfl, fun j hj => rfl, fun j hj _ => rfl, rfl⟩, ⟨fun q hq => Or.inl (hfi 240 q hq), fun p hp => Or.inl (hfi 80 p hp)⟩, fun j hj _ => rfl, fun j hj => ⟨Or.inl rfl, Or.inl rfl⟩, ?_, ?_, ?_, fun f hf => ⟨0, by omega, rfl⟩⟩
  · show px_fill (fun _ => nI 0) 0 60 (-1) j = px_fill (fun _ => nI 0) 0 240 (-1) (60 * f + j)
    rw [hfi 60 j hj, hfi 240 _ (by omega)]
  · show px_nu (px_fill (fun _ => nI 0) 0 80 (-1)) + px_mp (px_fill (fun _ => nI 0) 0 240 (-1)) = 80
    decide +kernel
  · show px_sum (fun k => rr_C (px_fill (fun _ => nI 0) 0 240 (-1)) (fun _ => nI 0) (fun _ => nI 0) (60 * k)) 4 ≤ 80
    decide +kernel
  · show px_sum (fun k => px_pp (fun _ => nI 0) (60 * k)) 4 ≤ 24
    decide +kernel
theorem lw_begin {X : ww_X} {b Ln : Nat} {xs : Nat → Int32} (Fx : lw_F X b Ln xs) (hF : ∀ (pc : Nat) (L : List (Nat × Value)) (ws : va_W) (cs ss : Nat), cs ≤ 601024 → ss ≤ 7293034 → decode code pc = .ok (.ireturn, 1) → ww_at X cs ss pc L [.int 1] ws) : ww_at X 0 0 0 [(0, .ref b)] [] [] := by
  have Fy := Fx
  obtain ⟨O, hfl, hR, hn, hN, hX, hbl, hbA, hLn, hao⟩ := Fx
  refine ww_new O (ci := 2) (fs := [.null, .null]) ci_DE cy_DE cy_DE_ok ln_DE.1 ln_DE.2.1 ln_DE.2.2 rfl (fun j hj => by rcases (show j = 0 ∨ j = 1 by omega) with rfl | rfl <;> rfl) (by rw [hR]; decide) (by rw [hR]; decide) dd_LA_law_0 (fun x => ?_)
  refine ww_eqw (ws' := [] ++ ([(x, .inr (2, [.null, .null]))] ++ [])) rfl ?_
  refine ww_dup O dd_LA_law_3 rfl ?_
  refine wi_call O hao [] [] (ck_DE _ _ _ x) lz_51 lm_DE rfl (by rw [hR]; decide) (by rw [hR]; decide) (by rw [hR]; decide) rfl (Nat.le_of_ble_eq_true rfl) dd_LA_law_4 rfl ?_
  intro w1 hw1
  obtain ⟨K, hKx, hK, rfl⟩ := hw1
  subst hKx
  refine ww_astore_n O dd_LA_law_7 (by rw [hn]; decide) rfl (L' := [(0, .ref b), (1, .ref (dx_x K))]) rfl ?_
  refine ww_new O (ci := 3) (fs := [.int 0, .null, .null, .null, .null, .null, .null, .null, .null, .int 0, .int 0]) ci_MO cy_MO cy_MO_ok ln_MO.1 ln_MO.2.1 ln_MO.2.2 rfl (fun j hj => by rcases (show j = 0 ∨ j = 1 ∨ j = 2 ∨ j = 3 ∨ j = 4 ∨ j = 5 ∨ j = 6 ∨ j = 7 ∨ j = 8 ∨ j = 9 ∨ j = 10 by omega) with rfl | rfl | rfl | rfl | rfl | rfl | rfl | rfl | rfl | rfl | rfl <;> rfl) (by rw [hR]; decide) (by rw [hR]; decide) dd_LA_law_8 (fun m => ?_)
  refine ww_eqw (ws' := rr_d (ww_g X) K lw_T0 ++ ([(m, .inr (3, [.int 0, .null, .null, .null, .null, .null, .null, .null, .null, .int 0, .int 0]))] ++ [])) rfl ?_
  refine ww_dup O dd_LA_law_11 rfl ?_
  refine wi_call O hao (rr_d (ww_g X) K lw_T0) [] (ck_MO _ _ _ m) lz_54 lm_MO rfl (by rw [hR]; decide) (by rw [hR]; decide) (by rw [hR]; decide) rfl (Nat.le_of_ble_eq_true rfl) dd_LA_law_12 rfl ?_
  intro w1 hw1
  obtain ⟨a1, a2, a3, a4, a5, a6, a7, a8, rfl⟩ := hw1
  refine ww_astore_n O dd_LA_law_15 (by rw [hn]; decide) rfl (L' := [(0, .ref b), (1, .ref (dx_x K)), (2, .ref m)]) rfl ?_
  refine ww_iconst O dd_LA_law_16 (v := nI 1) rfl ?_
  refine ww_newl O (by decide) la_long (by rw [hR]; decide) (by rw [hR]; decide) dd_LA_law_17 (fun o => ?_)
  refine ww_astore_n O dd_LA_law_19 (by rw [hn]; decide) rfl (L' := [(0, .ref b), (1, .ref (dx_x K)), (2, .ref m), (3, .ref o)]) rfl ?_
  refine ww_iconst O dd_LA_law_20 (v := nI 0) rfl ?_
  refine ww_istore O dd_LA_law_21 (by rw [hn]; decide) rfl (L' := lw_L b (dx_x K) m o (4 * 0)) rfl ?_
  refine ww_last1 (ww_eqw (ws' := lw_w (ww_g X) o K (m, a1, a2, a3, a4, a5, a6, a7, a8) (fun _ => 0) 0 lw_T0) (by rw [List.append_nil]; rfl) (ww_wid (cs' := 39 + 0) (ss' := 2596 + 6 * 0) (by decide) (by decide) ?_))
  exact lw_loop (A := (m, a1, a2, a3, a4, a5, a6, a7, a8)) Fy hF hK 512 0 (by omega) (by omega) _ _ lw_T0 lw_ok0
