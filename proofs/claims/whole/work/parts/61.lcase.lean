theorem lw_write {X : ww_X} {b Ln : Nat} {xs : Nat → Int32} (Fx : lw_F X b Ln xs) {K : dx_K} (hK : dx_ok K) {A : rr_A} {o i cs ss : Nat} (hi : i + 4 ≤ Ln) (hcs : cs + 1 ≤ 601024) (hss : ss + 6 ≤ 7293034) {lf : Nat → Int64} {cd : Int32} {T : rr_T} (hOK : rr_OK T) (kk : ∀ (lf' : Nat → Int64) (cd' : Int32) (T' : rr_T), rr_OK T' → ww_at X (cs + 1) (ss + 6) 815 (lw_L b (dx_x K) A.1 o i) [] (lw_w (ww_g X) o K A lf' cd' T')) : ww_at X cs ss 104 (lw_L b (dx_x K) A.1 o i) [] (lw_w (ww_g X) o K A lf cd T) := by
  obtain ⟨O, hfl, hR, hn, hN, hX, hbl, hbA, hLn, -⟩ := Fx
  have hsp : rr_W (ww_l X) (ww_D X) (ww_g X) K A [.int (xs (i + 1)), .int (xs (i + 2)), .int (xs (i + 3))] cd T := sp_write (ww_l X) (ww_D X) (ww_g X) hfl K hK A cd T.2.2.2.1 T.2.2.2.2.1 T.1 T.2.1 T.2.2.1 T.2.2.2.2.2.1 T.2.2.2.2.2.2.1 T.2.2.2.2.2.2.2.1 T.2.2.2.2.2.2.2.2.1 T.2.2.2.2.2.2.2.2.2.1 T.2.2.2.2.2.2.2.2.2.2 (xs (i + 1)) (xs (i + 2)) (xs (i + 3)) hOK
  obtain ⟨cr, kr, T', hc4, hk8, hLa, hMo, hOK2⟩ := hsp
  refine ww_aload_n O dd_LA_law_104 1 rfl ?_
  refine ww_aload_n O dd_LA_law_105 0 rfl ?_
  refine ww_iload O dd_LA_law_106 4 rfl ?_
  refine ww_iconst O dd_LA_law_108 (v := nI 1) rfl ?_
  refine ww_iadd O dd_LA_law_109 (v := nI (i + 1)) (nI_add _ 1) ?_
  refine lw_sld O hX hbl hbA (by omega) (by omega) dd_LA_law_110 ?_
  refine ww_aload_n O dd_LA_law_111 0 rfl ?_
  refine ww_iload O dd_LA_law_112 4 rfl ?_
  refine ww_iconst O dd_LA_law_114 (v := nI 2) rfl ?_
  refine ww_iadd O dd_LA_law_115 (v := nI (i + 2)) (nI_add _ 2) ?_
  refine lw_sld O hX hbl hbA (by omega) (by omega) dd_LA_law_116 ?_
  refine ww_aload_n O dd_LA_law_117 0 rfl ?_
  refine ww_iload O dd_LA_law_118 4 rfl ?_
  refine ww_iconst O dd_LA_law_120 (v := nI 3) rfl ?_
  refine ww_iadd O dd_LA_law_121 (v := nI (i + 3)) (nI_add _ 3) ?_
  refine lw_sld O hX hbl hbA (by omega) (by omega) dd_LA_law_122 ?_
  refine ww_eqw (ws' := [rr_o (ww_g X) o lf] ++ (rr_d (ww_g X) K T ++ rr_m (ww_g X) A cd T)) rfl ?_
  refine wc_callS O hN [rr_o (ww_g X) o lf] (rr_m (ww_g X) A cd T) hLa lz_55.1 lz_55.2 (by rw [hR]; decide) (by rw [hR]; exact hcs) (by rw [hR]; exact hss) rfl (Nat.le_of_ble_eq_true rfl) dd_LA_law_123 rfl ?_
  refine ww_eqs (st' := [.int (nI cr)]) rfl (ww_eqw (ws' := (rr_o (ww_g X) o lf :: rr_d (ww_g X) K T') ++ (rr_m (ww_g X) A cd T ++ [])) (by rw [List.append_nil]; rfl) (ww_wid (cs' := cs + 1) (ss' := ss + 6) (Nat.le_refl _) (Nat.le_refl _) ?_))
  refine ww_istore O dd_LA_law_126 (by rw [hn]; decide) rfl (L' := [(0, .ref b), (1, .ref (dx_x K)), (2, .ref A.1), (3, .ref o), (4, .int (nI i)), (5, .int (nI cr))]) rfl ?_
  refine ww_aload_n O dd_LA_law_128 2 rfl ?_
  refine ww_aload_n O dd_LA_law_129 0 rfl ?_
  refine ww_iload O dd_LA_law_130 4 rfl ?_
  refine ww_iconst O dd_LA_law_132 (v := nI 1) rfl ?_
  refine ww_iadd O dd_LA_law_133 (v := nI (i + 1)) (nI_add _ 1) ?_
  refine lw_sld O hX hbl hbA (by omega) (by omega) dd_LA_law_134 ?_
  refine ww_aload_n O dd_LA_law_135 0 rfl ?_
  refine ww_iload O dd_LA_law_136 4 rfl ?_
  refine ww_iconst O dd_LA_law_138 (v := nI 2) rfl ?_
  refine ww_iadd O dd_LA_law_139 (v := nI (i + 2)) (nI_add _ 2) ?_
  refine lw_sld O hX hbl hbA (by omega) (by omega) dd_LA_law_140 ?_
  refine ww_aload_n O dd_LA_law_141 0 rfl ?_
  refine ww_iload O dd_LA_law_142 4 rfl ?_
  refine ww_iconst O dd_LA_law_144 (v := nI 3) rfl ?_
  refine ww_iadd O dd_LA_law_145 (v := nI (i + 3)) (nI_add _ 3) ?_
  refine lw_sld O hX hbl hbA (by omega) (by omega) dd_LA_law_146 ?_
  refine wm_callV O (rr_o (ww_g X) o lf :: rr_d (ww_g X) K T') [] (ci := 3) hMo lz_60.1 lz_60.2 rfl rfl rfl (by rw [hR]; exact ⟨show kr + 1 ≤ 12 by omega, show 8 + (7 + 11) + 40 * kr ≤ 426 by omega⟩) (by rw [hR]; show cs + 1 + 0 ≤ 601024; omega) (by rw [hR]; show ss + 6 + 0 ≤ 7293034; omega) rfl (Nat.le_of_ble_eq_true rfl) dd_LA_law_147 rfl ?_
  refine ww_eqs (st' := []) rfl (ww_wid (cs' := cs + 1) (ss' := ss + 6) (Nat.le_refl _) (Nat.le_refl _) ?_)
  refine ww_aload_n O dd_LA_law_150 2 rfl ?_
  refine wm_callV O (rr_o (ww_g X) o lf :: rr_d (ww_g X) K T') [] (ci := 3) (rr_thrown (ww_l X) (ww_D X) (ww_g X) A (nI cr) T') lz_61.1 lz_61.2 rfl rfl rfl (by rw [hR]; decide) (by rw [hR]; show cs + 1 + 0 ≤ 601024; omega) (by rw [hR]; show ss + 6 + 0 ≤ 7293034; omega) rfl (Nat.le_of_ble_eq_true rfl) dd_LA_law_151 rfl ?_
  refine ww_eqs (st' := [.int (nI cr)]) rfl (ww_eqw (ws' := lw_w (ww_g X) o K A lf (nI cr) T') (rr_w2 _ _ _) (ww_wid (cs' := cs + 1) (ss' := ss + 6) (Nat.le_refl _) (Nat.le_refl _) ?_))
  refine ww_iload O dd_LA_law_154 5 rfl ?_
  refine ww_icmp_eq O dd_LA_law_156 (tgt := 161) rfl (fun _ => ?_) (fun h => absurd rfl h)
  exact ww_goto O dd_LA_law_161 (tgt := 815) rfl (ww_sub [0, 1, 2, 3, 4] rfl (kk lf (nI cr) T' hOK2))
theorem lw_read {X : ww_X} {b Ln : Nat} {xs : Nat → Int32} (Fx : lw_F X b Ln xs) {K : dx_K} (hK : dx_ok K) {A : rr_A} {o i cs ss : Nat} (hi : i + 4 ≤ Ln) (hcs : cs + 1 ≤ 601024) (hss : ss + 6 ≤ 7293034) {lf : Nat → Int64} {cd : Int32} {T : rr_T} (hOK : rr_OK T) (kk : ∀ (lf' : Nat → Int64) (cd' : Int32) (T' : rr_T), rr_OK T' → ww_at X (cs + 1) (ss + 6) 815 (lw_L b (dx_x K) A.1 o i) [] (lw_w (ww_g X) o K A lf' cd' T')) : ww_at X cs ss 164 (lw_L b (dx_x K) A.1 o i) [] (lw_w (ww_g X) o K A lf cd T) := by
  obtain ⟨O, hfl, hR, hn, hN, hX, hbl, hbA, hLn, -⟩ := Fx
  have hsp : rr_O (ww_l X) (ww_D X) (ww_g X) K A o yy_LA_read bb_LA_read 5 [(0, 10, 13, 13)] yy_MO_read bb_MO_read 4 [.int (xs (i + 1)), .int (xs (i + 2))] lf cd T := sp_read (ww_l X) (ww_D X) (ww_g X) hfl K hK A o lf cd T.2.2.2.1 T.2.2.2.2.1 T.1 T.2.1 T.2.2.1 T.2.2.2.2.2.1 T.2.2.2.2.2.2.1 T.2.2.2.2.2.2.2.1 T.2.2.2.2.2.2.2.2.1 T.2.2.2.2.2.2.2.2.2.1 T.2.2.2.2.2.2.2.2.2.2 (xs (i + 1)) (xs (i + 2)) hOK
  obtain ⟨cr, lf', v, kr, T', hc4, hk8, hLa, hMo, hv, hOK2⟩ := hsp
  refine ww_aload_n O dd_LA_law_164 1 rfl ?_
  refine ww_aload_n O dd_LA_law_165 0 rfl ?_
  refine ww_iload O dd_LA_law_166 4 rfl ?_
  refine ww_iconst O dd_LA_law_168 (v := nI 1) rfl ?_
  refine ww_iadd O dd_LA_law_169 (v := nI (i + 1)) (nI_add _ 1) ?_
  refine lw_sld O hX hbl hbA (by omega) (by omega) dd_LA_law_170 ?_
  refine ww_aload_n O dd_LA_law_171 0 rfl ?_
  refine ww_iload O dd_LA_law_172 4 rfl ?_
  refine ww_iconst O dd_LA_law_174 (v := nI 2) rfl ?_
  refine ww_iadd O dd_LA_law_175 (v := nI (i + 2)) (nI_add _ 2) ?_
  refine lw_sld O hX hbl hbA (by omega) (by omega) dd_LA_law_176 ?_
  refine ww_aload_n O dd_LA_law_177 3 rfl ?_
  refine ww_eqw (ws' := [] ++ ((rr_o (ww_g X) o lf :: rr_d (ww_g X) K T) ++ rr_m (ww_g X) A cd T)) rfl ?_
  refine wc_callS O hN [] (rr_m (ww_g X) A cd T) hLa lz_65.1 lz_65.2 (by rw [hR]; decide) (by rw [hR]; exact hcs) (by rw [hR]; exact hss) rfl (Nat.le_of_ble_eq_true rfl) dd_LA_law_178 rfl ?_
  refine ww_eqs (st' := [.int (nI cr)]) rfl (ww_eqw (ws' := (rr_o (ww_g X) o lf' :: rr_d (ww_g X) K T') ++ (rr_m (ww_g X) A cd T ++ [])) (by rw [List.append_nil]; rfl) (ww_wid (cs' := cs + 1) (ss' := ss + 6) (Nat.le_refl _) (Nat.le_refl _) ?_))
  refine ww_istore O dd_LA_law_181 (by rw [hn]; decide) rfl (L' := [(0, .ref b), (1, .ref (dx_x K)), (2, .ref A.1), (3, .ref o), (4, .int (nI i)), (5, .int (nI cr))]) rfl ?_
  refine ww_aload_n O dd_LA_law_183 2 rfl ?_
  refine ww_aload_n O dd_LA_law_184 0 rfl ?_
  refine ww_iload O dd_LA_law_185 4 rfl ?_
  refine ww_iconst O dd_LA_law_187 (v := nI 1) rfl ?_
  refine ww_iadd O dd_LA_law_188 (v := nI (i + 1)) (nI_add _ 1) ?_
  refine lw_sld O hX hbl hbA (by omega) (by omega) dd_LA_law_189 ?_
  refine ww_aload_n O dd_LA_law_190 0 rfl ?_
  refine ww_iload O dd_LA_law_191 4 rfl ?_
  refine ww_iconst O dd_LA_law_193 (v := nI 2) rfl ?_
  refine ww_iadd O dd_LA_law_194 (v := nI (i + 2)) (nI_add _ 2) ?_
  refine lw_sld O hX hbl hbA (by omega) (by omega) dd_LA_law_195 ?_
  refine wm_callV O (rr_o (ww_g X) o lf' :: rr_d (ww_g X) K T') [] (ci := 3) hMo lz_68.1 lz_68.2 rfl rfl rfl (by rw [hR]; exact ⟨show kr + 1 ≤ 12 by omega, show 8 + (4 + 11) + 40 * kr ≤ 426 by omega⟩) (by rw [hR]; show cs + 1 + 0 ≤ 601024; omega) (by rw [hR]; show ss + 6 + 0 ≤ 7293034; omega) rfl (Nat.le_of_ble_eq_true rfl) dd_LA_law_196 rfl ?_
  refine ww_eqs (st' := [.int v]) rfl (ww_wid (cs' := cs + 1) (ss' := ss + 6) (Nat.le_refl _) (Nat.le_refl _) ?_)
  refine ww_istore O dd_LA_law_199 (by rw [hn]; decide) rfl (L' := [(0, .ref b), (1, .ref (dx_x K)), (2, .ref A.1), (3, .ref o), (4, .int (nI i)), (5, .int (nI cr)), (6, .int v)]) rfl ?_
  refine ww_aload_n O dd_LA_law_201 2 rfl ?_
  refine wm_callV O (rr_o (ww_g X) o lf' :: rr_d (ww_g X) K T') [] (ci := 3) (rr_thrown (ww_l X) (ww_D X) (ww_g X) A (nI cr) T') lz_61.1 lz_61.2 rfl rfl rfl (by rw [hR]; decide) (by rw [hR]; show cs + 1 + 0 ≤ 601024; omega) (by rw [hR]; show ss + 6 + 0 ≤ 7293034; omega) rfl (Nat.le_of_ble_eq_true rfl) dd_LA_law_202 rfl ?_
  refine ww_eqs (st' := [.int (nI cr)]) rfl (ww_eqw (ws' := lw_w (ww_g X) o K A lf' (nI cr) T') (rr_w2 _ _ _) (ww_wid (cs' := cs + 1) (ss' := ss + 6) (Nat.le_refl _) (Nat.le_refl _) ?_))
  refine ww_iload O dd_LA_law_205 5 rfl ?_
  refine ww_icmp_eq O dd_LA_law_207 (tgt := 212) rfl (fun _ => ?_) (fun h => absurd rfl h)
  refine ww_iload O dd_LA_law_212 5 rfl ?_
  have hE : ww_at X (cs + 1) (ss + 6) 229 [(0, .ref b), (1, .ref (dx_x K)), (2, .ref A.1), (3, .ref o), (4, .int (nI i)), (5, .int (nI cr)), (6, .int v)] [] (lw_w (ww_g X) o K A lf' (nI cr) T') := ww_goto O dd_LA_law_229 (tgt := 815) rfl (ww_sub [0, 1, 2, 3, 4] rfl (kk lf' (nI cr) T' hOK2))
  refine ww_if_ne O dd_LA_law_214 (tgt := 229) rfl (fun _ => hE) (fun h0 => ?_)
  refine ww_aload_n O dd_LA_law_217 3 rfl ?_
  refine ww_iconst O dd_LA_law_218 (v := nI 0) rfl ?_
  refine ww_lald O dd_LA_law_219 0 rfl (by decide) (by decide) (hv (px_c4 hc4 h0)) ?_
  refine ww_iload O dd_LA_law_220 6 rfl ?_
  refine ww_i2l O dd_LA_law_222 ?_
  refine ww_lcmp O dd_LA_law_223 ?_
  exact ww_if_eq O dd_LA_law_224 (tgt := 229) rfl (fun _ => hE) (fun h1 => absurd (lg_cmp_s rfl) h1)
theorem lw_preallocate {X : ww_X} {b Ln : Nat} {xs : Nat → Int32} (Fx : lw_F X b Ln xs) {K : dx_K} (hK : dx_ok K) {A : rr_A} {o i cs ss : Nat} (hi : i + 4 ≤ Ln) (hcs : cs + 1 ≤ 601024) (hss : ss + 6 ≤ 7293034) {lf : Nat → Int64} {cd : Int32} {T : rr_T} (hOK : rr_OK T) (kk : ∀ (lf' : Nat → Int64) (cd' : Int32) (T' : rr_T), rr_OK T' → ww_at X (cs + 1) (ss + 6) 815 (lw_L b (dx_x K) A.1 o i) [] (lw_w (ww_g X) o K A lf' cd' T')) : ww_at X cs ss 232 (lw_L b (dx_x K) A.1 o i) [] (lw_w (ww_g X) o K A lf cd T) := by
  obtain ⟨O, hfl, hR, hn, hN, hX, hbl, hbA, hLn, -⟩ := Fx
  have hsp : rr_O (ww_l X) (ww_D X) (ww_g X) K A o yy_LA_preallocate bb_LA_preallocate 6 [(0, 12, 15, 13), (0, 12, 19, 27), (0, 12, 23, 17)] yy_MO_preallocate bb_MO_preallocate 7 [.int (xs (i + 1)), .int (xs (i + 2)), .int (xs (i + 3))] lf cd T := sp_preallocate (ww_l X) (ww_D X) (ww_g X) hfl K hK A o lf cd T.2.2.2.1 T.2.2.2.2.1 T.1 T.2.1 T.2.2.1 T.2.2.2.2.2.1 T.2.2.2.2.2.2.1 T.2.2.2.2.2.2.2.1 T.2.2.2.2.2.2.2.2.1 T.2.2.2.2.2.2.2.2.2.1 T.2.2.2.2.2.2.2.2.2.2 (xs (i + 1)) (xs (i + 2)) (xs (i + 3)) hOK
  obtain ⟨cr, lf', v, kr, T', hc4, hk8, hLa, hMo, hv, hOK2⟩ := hsp
  refine ww_aload_n O dd_LA_law_232 1 rfl ?_
  refine ww_aload_n O dd_LA_law_233 0 rfl ?_
  refine ww_iload O dd_LA_law_234 4 rfl ?_
  refine ww_iconst O dd_LA_law_236 (v := nI 1) rfl ?_
  refine ww_iadd O dd_LA_law_237 (v := nI (i + 1)) (nI_add _ 1) ?_
  refine lw_sld O hX hbl hbA (by omega) (by omega) dd_LA_law_238 ?_
  refine ww_aload_n O dd_LA_law_239 0 rfl ?_
  refine ww_iload O dd_LA_law_240 4 rfl ?_
  refine ww_iconst O dd_LA_law_242 (v := nI 2) rfl ?_
  refine ww_iadd O dd_LA_law_243 (v := nI (i + 2)) (nI_add _ 2) ?_
  refine lw_sld O hX hbl hbA (by omega) (by omega) dd_LA_law_244 ?_
  refine ww_aload_n O dd_LA_law_245 0 rfl ?_
  refine ww_iload O dd_LA_law_246 4 rfl ?_
  refine ww_iconst O dd_LA_law_248 (v := nI 3) rfl ?_
  refine ww_iadd O dd_LA_law_249 (v := nI (i + 3)) (nI_add _ 3) ?_
  refine lw_sld O hX hbl hbA (by omega) (by omega) dd_LA_law_250 ?_
  refine ww_aload_n O dd_LA_law_251 3 rfl ?_
  refine ww_eqw (ws' := [] ++ ((rr_o (ww_g X) o lf :: rr_d (ww_g X) K T) ++ rr_m (ww_g X) A cd T)) rfl ?_
  refine wc_callS O hN [] (rr_m (ww_g X) A cd T) hLa lz_69.1 lz_69.2 (by rw [hR]; decide) (by rw [hR]; exact hcs) (by rw [hR]; exact hss) rfl (Nat.le_of_ble_eq_true rfl) dd_LA_law_252 rfl ?_
  refine ww_eqs (st' := [.int (nI cr)]) rfl (ww_eqw (ws' := (rr_o (ww_g X) o lf' :: rr_d (ww_g X) K T') ++ (rr_m (ww_g X) A cd T ++ [])) (by rw [List.append_nil]; rfl) (ww_wid (cs' := cs + 1) (ss' := ss + 6) (Nat.le_refl _) (Nat.le_refl _) ?_))
  refine ww_istore O dd_LA_law_255 (by rw [hn]; decide) rfl (L' := [(0, .ref b), (1, .ref (dx_x K)), (2, .ref A.1), (3, .ref o), (4, .int (nI i)), (5, .int (nI cr))]) rfl ?_
  refine ww_aload_n O dd_LA_law_257 2 rfl ?_
  refine ww_aload_n O dd_LA_law_258 0 rfl ?_
  refine ww_iload O dd_LA_law_259 4 rfl ?_
  refine ww_iconst O dd_LA_law_261 (v := nI 1) rfl ?_
  refine ww_iadd O dd_LA_law_262 (v := nI (i + 1)) (nI_add _ 1) ?_
  refine lw_sld O hX hbl hbA (by omega) (by omega) dd_LA_law_263 ?_
  refine ww_aload_n O dd_LA_law_264 0 rfl ?_
  refine ww_iload O dd_LA_law_265 4 rfl ?_
  refine ww_iconst O dd_LA_law_267 (v := nI 2) rfl ?_
  refine ww_iadd O dd_LA_law_268 (v := nI (i + 2)) (nI_add _ 2) ?_
  refine lw_sld O hX hbl hbA (by omega) (by omega) dd_LA_law_269 ?_
  refine ww_aload_n O dd_LA_law_270 0 rfl ?_
  refine ww_iload O dd_LA_law_271 4 rfl ?_
  refine ww_iconst O dd_LA_law_273 (v := nI 3) rfl ?_
  refine ww_iadd O dd_LA_law_274 (v := nI (i + 3)) (nI_add _ 3) ?_
  refine lw_sld O hX hbl hbA (by omega) (by omega) dd_LA_law_275 ?_
  refine wm_callV O (rr_o (ww_g X) o lf' :: rr_d (ww_g X) K T') [] (ci := 3) hMo lz_72.1 lz_72.2 rfl rfl rfl (by rw [hR]; exact ⟨show kr + 1 ≤ 12 by omega, show 8 + (7 + 11) + 40 * kr ≤ 426 by omega⟩) (by rw [hR]; show cs + 1 + 0 ≤ 601024; omega) (by rw [hR]; show ss + 6 + 0 ≤ 7293034; omega) rfl (Nat.le_of_ble_eq_true rfl) dd_LA_law_276 rfl ?_
  refine ww_eqs (st' := [.int v]) rfl (ww_wid (cs' := cs + 1) (ss' := ss + 6) (Nat.le_refl _) (Nat.le_refl _) ?_)
  refine ww_istore O dd_LA_law_279 (by rw [hn]; decide) rfl (L' := [(0, .ref b), (1, .ref (dx_x K)), (2, .ref A.1), (3, .ref o), (4, .int (nI i)), (5, .int (nI cr)), (6, .int v)]) rfl ?_
  refine ww_aload_n O dd_LA_law_281 2 rfl ?_
  refine wm_callV O (rr_o (ww_g X) o lf' :: rr_d (ww_g X) K T') [] (ci := 3) (rr_thrown (ww_l X) (ww_D X) (ww_g X) A (nI cr) T') lz_61.1 lz_61.2 rfl rfl rfl (by rw [hR]; decide) (by rw [hR]; show cs + 1 + 0 ≤ 601024; omega) (by rw [hR]; show ss + 6 + 0 ≤ 7293034; omega) rfl (Nat.le_of_ble_eq_true rfl) dd_LA_law_282 rfl ?_
  refine ww_eqs (st' := [.int (nI cr)]) rfl (ww_eqw (ws' := lw_w (ww_g X) o K A lf' (nI cr) T') (rr_w2 _ _ _) (ww_wid (cs' := cs + 1) (ss' := ss + 6) (Nat.le_refl _) (Nat.le_refl _) ?_))
  refine ww_iload O dd_LA_law_285 5 rfl ?_
  refine ww_icmp_eq O dd_LA_law_287 (tgt := 292) rfl (fun _ => ?_) (fun h => absurd rfl h)
  refine ww_iload O dd_LA_law_292 5 rfl ?_
  have hE : ww_at X (cs + 1) (ss + 6) 309 [(0, .ref b), (1, .ref (dx_x K)), (2, .ref A.1), (3, .ref o), (4, .int (nI i)), (5, .int (nI cr)), (6, .int v)] [] (lw_w (ww_g X) o K A lf' (nI cr) T') := ww_goto O dd_LA_law_309 (tgt := 815) rfl (ww_sub [0, 1, 2, 3, 4] rfl (kk lf' (nI cr) T' hOK2))
  refine ww_if_ne O dd_LA_law_294 (tgt := 309) rfl (fun _ => hE) (fun h0 => ?_)
  refine ww_aload_n O dd_LA_law_297 3 rfl ?_
  refine ww_iconst O dd_LA_law_298 (v := nI 0) rfl ?_
  refine ww_lald O dd_LA_law_299 0 rfl (by decide) (by decide) (hv (px_c4 hc4 h0)) ?_
  refine ww_iload O dd_LA_law_300 6 rfl ?_
  refine ww_i2l O dd_LA_law_302 ?_
  refine ww_lcmp O dd_LA_law_303 ?_
  exact ww_if_eq O dd_LA_law_304 (tgt := 309) rfl (fun _ => hE) (fun h1 => absurd (lg_cmp_s rfl) h1)
theorem lw_punch {X : ww_X} {b Ln : Nat} {xs : Nat → Int32} (Fx : lw_F X b Ln xs) {K : dx_K} (hK : dx_ok K) {A : rr_A} {o i cs ss : Nat} (hi : i + 4 ≤ Ln) (hcs : cs + 1 ≤ 601024) (hss : ss + 6 ≤ 7293034) {lf : Nat → Int64} {cd : Int32} {T : rr_T} (hOK : rr_OK T) (kk : ∀ (lf' : Nat → Int64) (cd' : Int32) (T' : rr_T), rr_OK T' → ww_at X (cs + 1) (ss + 6) 815 (lw_L b (dx_x K) A.1 o i) [] (lw_w (ww_g X) o K A lf' cd' T')) : ww_at X cs ss 312 (lw_L b (dx_x K) A.1 o i) [] (lw_w (ww_g X) o K A lf cd T) := by
  obtain ⟨O, hfl, hR, hn, hN, hX, hbl, hbA, hLn, -⟩ := Fx
  have hsp : rr_O (ww_l X) (ww_D X) (ww_g X) K A o yy_LA_punch bb_LA_punch 6 [(0, 12, 15, 13), (0, 12, 19, 27)] yy_MO_punch bb_MO_punch 4 [.int (xs (i + 1)), .int (xs (i + 2)), .int (xs (i + 3))] lf cd T := sp_punch (ww_l X) (ww_D X) (ww_g X) hfl K hK A o lf cd T.2.2.2.1 T.2.2.2.2.1 T.1 T.2.1 T.2.2.1 T.2.2.2.2.2.1 T.2.2.2.2.2.2.1 T.2.2.2.2.2.2.2.1 T.2.2.2.2.2.2.2.2.1 T.2.2.2.2.2.2.2.2.2.1 T.2.2.2.2.2.2.2.2.2.2 (xs (i + 1)) (xs (i + 2)) (xs (i + 3)) hOK
  obtain ⟨cr, lf', v, kr, T', hc4, hk8, hLa, hMo, hv, hOK2⟩ := hsp
  refine ww_aload_n O dd_LA_law_312 1 rfl ?_
  refine ww_aload_n O dd_LA_law_313 0 rfl ?_
  refine ww_iload O dd_LA_law_314 4 rfl ?_
  refine ww_iconst O dd_LA_law_316 (v := nI 1) rfl ?_
  refine ww_iadd O dd_LA_law_317 (v := nI (i + 1)) (nI_add _ 1) ?_
  refine lw_sld O hX hbl hbA (by omega) (by omega) dd_LA_law_318 ?_
  refine ww_aload_n O dd_LA_law_319 0 rfl ?_
  refine ww_iload O dd_LA_law_320 4 rfl ?_
  refine ww_iconst O dd_LA_law_322 (v := nI 2) rfl ?_
  refine ww_iadd O dd_LA_law_323 (v := nI (i + 2)) (nI_add _ 2) ?_
  refine lw_sld O hX hbl hbA (by omega) (by omega) dd_LA_law_324 ?_
  refine ww_aload_n O dd_LA_law_325 0 rfl ?_
  refine ww_iload O dd_LA_law_326 4 rfl ?_
  refine ww_iconst O dd_LA_law_328 (v := nI 3) rfl ?_
  refine ww_iadd O dd_LA_law_329 (v := nI (i + 3)) (nI_add _ 3) ?_
  refine lw_sld O hX hbl hbA (by omega) (by omega) dd_LA_law_330 ?_
  refine ww_aload_n O dd_LA_law_331 3 rfl ?_
  refine ww_eqw (ws' := [] ++ ((rr_o (ww_g X) o lf :: rr_d (ww_g X) K T) ++ rr_m (ww_g X) A cd T)) rfl ?_
  refine wc_callS O hN [] (rr_m (ww_g X) A cd T) hLa lz_73.1 lz_73.2 (by rw [hR]; decide) (by rw [hR]; exact hcs) (by rw [hR]; exact hss) rfl (Nat.le_of_ble_eq_true rfl) dd_LA_law_332 rfl ?_
  refine ww_eqs (st' := [.int (nI cr)]) rfl (ww_eqw (ws' := (rr_o (ww_g X) o lf' :: rr_d (ww_g X) K T') ++ (rr_m (ww_g X) A cd T ++ [])) (by rw [List.append_nil]; rfl) (ww_wid (cs' := cs + 1) (ss' := ss + 6) (Nat.le_refl _) (Nat.le_refl _) ?_))
  refine ww_istore O dd_LA_law_335 (by rw [hn]; decide) rfl (L' := [(0, .ref b), (1, .ref (dx_x K)), (2, .ref A.1), (3, .ref o), (4, .int (nI i)), (5, .int (nI cr))]) rfl ?_
  refine ww_aload_n O dd_LA_law_337 2 rfl ?_
  refine ww_aload_n O dd_LA_law_338 0 rfl ?_
  refine ww_iload O dd_LA_law_339 4 rfl ?_
  refine ww_iconst O dd_LA_law_341 (v := nI 1) rfl ?_
  refine ww_iadd O dd_LA_law_342 (v := nI (i + 1)) (nI_add _ 1) ?_
  refine lw_sld O hX hbl hbA (by omega) (by omega) dd_LA_law_343 ?_
  refine ww_aload_n O dd_LA_law_344 0 rfl ?_
  refine ww_iload O dd_LA_law_345 4 rfl ?_
  refine ww_iconst O dd_LA_law_347 (v := nI 2) rfl ?_
  refine ww_iadd O dd_LA_law_348 (v := nI (i + 2)) (nI_add _ 2) ?_
  refine lw_sld O hX hbl hbA (by omega) (by omega) dd_LA_law_349 ?_
  refine ww_aload_n O dd_LA_law_350 0 rfl ?_
  refine ww_iload O dd_LA_law_351 4 rfl ?_
  refine ww_iconst O dd_LA_law_353 (v := nI 3) rfl ?_
  refine ww_iadd O dd_LA_law_354 (v := nI (i + 3)) (nI_add _ 3) ?_
  refine lw_sld O hX hbl hbA (by omega) (by omega) dd_LA_law_355 ?_
  refine wm_callV O (rr_o (ww_g X) o lf' :: rr_d (ww_g X) K T') [] (ci := 3) hMo lz_75.1 lz_75.2 rfl rfl rfl (by rw [hR]; exact ⟨show kr + 1 ≤ 12 by omega, show 8 + (4 + 11) + 40 * kr ≤ 426 by omega⟩) (by rw [hR]; show cs + 1 + 0 ≤ 601024; omega) (by rw [hR]; show ss + 6 + 0 ≤ 7293034; omega) rfl (Nat.le_of_ble_eq_true rfl) dd_LA_law_356 rfl ?_
  refine ww_eqs (st' := [.int v]) rfl (ww_wid (cs' := cs + 1) (ss' := ss + 6) (Nat.le_refl _) (Nat.le_refl _) ?_)
  refine ww_istore O dd_LA_law_359 (by rw [hn]; decide) rfl (L' := [(0, .ref b), (1, .ref (dx_x K)), (2, .ref A.1), (3, .ref o), (4, .int (nI i)), (5, .int (nI cr)), (6, .int v)]) rfl ?_
  refine ww_aload_n O dd_LA_law_361 2 rfl ?_
  refine wm_callV O (rr_o (ww_g X) o lf' :: rr_d (ww_g X) K T') [] (ci := 3) (rr_thrown (ww_l X) (ww_D X) (ww_g X) A (nI cr) T') lz_61.1 lz_61.2 rfl rfl rfl (by rw [hR]; decide) (by rw [hR]; show cs + 1 + 0 ≤ 601024; omega) (by rw [hR]; show ss + 6 + 0 ≤ 7293034; omega) rfl (Nat.le_of_ble_eq_true rfl) dd_LA_law_362 rfl ?_
  refine ww_eqs (st' := [.int (nI cr)]) rfl (ww_eqw (ws' := lw_w (ww_g X) o K A lf' (nI cr) T') (rr_w2 _ _ _) (ww_wid (cs' := cs + 1) (ss' := ss + 6) (Nat.le_refl _) (Nat.le_refl _) ?_))
  refine ww_iload O dd_LA_law_365 5 rfl ?_
  refine ww_icmp_eq O dd_LA_law_367 (tgt := 372) rfl (fun _ => ?_) (fun h => absurd rfl h)
  refine ww_iload O dd_LA_law_372 5 rfl ?_
  have hE : ww_at X (cs + 1) (ss + 6) 389 [(0, .ref b), (1, .ref (dx_x K)), (2, .ref A.1), (3, .ref o), (4, .int (nI i)), (5, .int (nI cr)), (6, .int v)] [] (lw_w (ww_g X) o K A lf' (nI cr) T') := ww_goto O dd_LA_law_389 (tgt := 815) rfl (ww_sub [0, 1, 2, 3, 4] rfl (kk lf' (nI cr) T' hOK2))
  refine ww_if_ne O dd_LA_law_374 (tgt := 389) rfl (fun _ => hE) (fun h0 => ?_)
  refine ww_aload_n O dd_LA_law_377 3 rfl ?_
  refine ww_iconst O dd_LA_law_378 (v := nI 0) rfl ?_
  refine ww_lald O dd_LA_law_379 0 rfl (by decide) (by decide) (hv (px_c4 hc4 h0)) ?_
  refine ww_iload O dd_LA_law_380 6 rfl ?_
  refine ww_i2l O dd_LA_law_382 ?_
  refine ww_lcmp O dd_LA_law_383 ?_
  exact ww_if_eq O dd_LA_law_384 (tgt := 389) rfl (fun _ => hE) (fun h1 => absurd (lg_cmp_s rfl) h1)
theorem lw_truncate {X : ww_X} {b Ln : Nat} {xs : Nat → Int32} (Fx : lw_F X b Ln xs) {K : dx_K} (hK : dx_ok K) {A : rr_A} {o i cs ss : Nat} (hi : i + 4 ≤ Ln) (hcs : cs + 1 ≤ 601024) (hss : ss + 6 ≤ 7293034) {lf : Nat → Int64} {cd : Int32} {T : rr_T} (hOK : rr_OK T) (kk : ∀ (lf' : Nat → Int64) (cd' : Int32) (T' : rr_T), rr_OK T' → ww_at X (cs + 1) (ss + 6) 815 (lw_L b (dx_x K) A.1 o i) [] (lw_w (ww_g X) o K A lf' cd' T')) : ww_at X cs ss 392 (lw_L b (dx_x K) A.1 o i) [] (lw_w (ww_g X) o K A lf cd T) := by
  obtain ⟨O, hfl, hR, hn, hN, hX, hbl, hbA, hLn, -⟩ := Fx
  have hsp : rr_O (ww_l X) (ww_D X) (ww_g X) K A o yy_LA_truncate bb_LA_truncate 5 [(0, 10, 13, 13), (0, 10, 17, 27)] yy_MO_truncate bb_MO_truncate 3 [.int (xs (i + 1)), .int (xs (i + 2))] lf cd T := sp_truncate (ww_l X) (ww_D X) (ww_g X) hfl K hK A o lf cd T.2.2.2.1 T.2.2.2.2.1 T.1 T.2.1 T.2.2.1 T.2.2.2.2.2.1 T.2.2.2.2.2.2.1 T.2.2.2.2.2.2.2.1 T.2.2.2.2.2.2.2.2.1 T.2.2.2.2.2.2.2.2.2.1 T.2.2.2.2.2.2.2.2.2.2 (xs (i + 1)) (xs (i + 2)) hOK
  obtain ⟨cr, lf', v, kr, T', hc4, hk8, hLa, hMo, hv, hOK2⟩ := hsp
  refine ww_aload_n O dd_LA_law_392 1 rfl ?_
  refine ww_aload_n O dd_LA_law_393 0 rfl ?_
  refine ww_iload O dd_LA_law_394 4 rfl ?_
  refine ww_iconst O dd_LA_law_396 (v := nI 1) rfl ?_
  refine ww_iadd O dd_LA_law_397 (v := nI (i + 1)) (nI_add _ 1) ?_
  refine lw_sld O hX hbl hbA (by omega) (by omega) dd_LA_law_398 ?_
  refine ww_aload_n O dd_LA_law_399 0 rfl ?_
  refine ww_iload O dd_LA_law_400 4 rfl ?_
  refine ww_iconst O dd_LA_law_402 (v := nI 2) rfl ?_
  refine ww_iadd O dd_LA_law_403 (v := nI (i + 2)) (nI_add _ 2) ?_
  refine lw_sld O hX hbl hbA (by omega) (by omega) dd_LA_law_404 ?_
  refine ww_aload_n O dd_LA_law_405 3 rfl ?_
  refine ww_eqw (ws' := [] ++ ((rr_o (ww_g X) o lf :: rr_d (ww_g X) K T) ++ rr_m (ww_g X) A cd T)) rfl ?_
  refine wc_callS O hN [] (rr_m (ww_g X) A cd T) hLa lz_76.1 lz_76.2 (by rw [hR]; decide) (by rw [hR]; exact hcs) (by rw [hR]; exact hss) rfl (Nat.le_of_ble_eq_true rfl) dd_LA_law_406 rfl ?_
  refine ww_eqs (st' := [.int (nI cr)]) rfl (ww_eqw (ws' := (rr_o (ww_g X) o lf' :: rr_d (ww_g X) K T') ++ (rr_m (ww_g X) A cd T ++ [])) (by rw [List.append_nil]; rfl) (ww_wid (cs' := cs + 1) (ss' := ss + 6) (Nat.le_refl _) (Nat.le_refl _) ?_))
  refine ww_istore O dd_LA_law_409 (by rw [hn]; decide) rfl (L' := [(0, .ref b), (1, .ref (dx_x K)), (2, .ref A.1), (3, .ref o), (4, .int (nI i)), (5, .int (nI cr))]) rfl ?_
  refine ww_aload_n O dd_LA_law_411 2 rfl ?_
  refine ww_aload_n O dd_LA_law_412 0 rfl ?_
  refine ww_iload O dd_LA_law_413 4 rfl ?_
  refine ww_iconst O dd_LA_law_415 (v := nI 1) rfl ?_
  refine ww_iadd O dd_LA_law_416 (v := nI (i + 1)) (nI_add _ 1) ?_
  refine lw_sld O hX hbl hbA (by omega) (by omega) dd_LA_law_417 ?_
  refine ww_aload_n O dd_LA_law_418 0 rfl ?_
  refine ww_iload O dd_LA_law_419 4 rfl ?_
  refine ww_iconst O dd_LA_law_421 (v := nI 2) rfl ?_
  refine ww_iadd O dd_LA_law_422 (v := nI (i + 2)) (nI_add _ 2) ?_
  refine lw_sld O hX hbl hbA (by omega) (by omega) dd_LA_law_423 ?_
  refine wm_callV O (rr_o (ww_g X) o lf' :: rr_d (ww_g X) K T') [] (ci := 3) hMo lz_78.1 lz_78.2 rfl rfl rfl (by rw [hR]; exact ⟨show kr + 1 ≤ 12 by omega, show 8 + (3 + 11) + 40 * kr ≤ 426 by omega⟩) (by rw [hR]; show cs + 1 + 0 ≤ 601024; omega) (by rw [hR]; show ss + 6 + 0 ≤ 7293034; omega) rfl (Nat.le_of_ble_eq_true rfl) dd_LA_law_424 rfl ?_
  refine ww_eqs (st' := [.int v]) rfl (ww_wid (cs' := cs + 1) (ss' := ss + 6) (Nat.le_refl _) (Nat.le_refl _) ?_)
  refine ww_istore O dd_LA_law_427 (by rw [hn]; decide) rfl (L' := [(0, .ref b), (1, .ref (dx_x K)), (2, .ref A.1), (3, .ref o), (4, .int (nI i)), (5, .int (nI cr)), (6, .int v)]) rfl ?_
  refine ww_aload_n O dd_LA_law_429 2 rfl ?_
  refine wm_callV O (rr_o (ww_g X) o lf' :: rr_d (ww_g X) K T') [] (ci := 3) (rr_thrown (ww_l X) (ww_D X) (ww_g X) A (nI cr) T') lz_61.1 lz_61.2 rfl rfl rfl (by rw [hR]; decide) (by rw [hR]; show cs + 1 + 0 ≤ 601024; omega) (by rw [hR]; show ss + 6 + 0 ≤ 7293034; omega) rfl (Nat.le_of_ble_eq_true rfl) dd_LA_law_430 rfl ?_
  refine ww_eqs (st' := [.int (nI cr)]) rfl (ww_eqw (ws' := lw_w (ww_g X) o K A lf' (nI cr) T') (rr_w2 _ _ _) (ww_wid (cs' := cs + 1) (ss' := ss + 6) (Nat.le_refl _) (Nat.le_refl _) ?_))
  refine ww_iload O dd_LA_law_433 5 rfl ?_
  refine ww_icmp_eq O dd_LA_law_435 (tgt := 440) rfl (fun _ => ?_) (fun h => absurd rfl h)
  refine ww_iload O dd_LA_law_440 5 rfl ?_
  have hE : ww_at X (cs + 1) (ss + 6) 457 [(0, .ref b), (1, .ref (dx_x K)), (2, .ref A.1), (3, .ref o), (4, .int (nI i)), (5, .int (nI cr)), (6, .int v)] [] (lw_w (ww_g X) o K A lf' (nI cr) T') := ww_goto O dd_LA_law_457 (tgt := 815) rfl (ww_sub [0, 1, 2, 3, 4] rfl (kk lf' (nI cr) T' hOK2))
  refine ww_if_ne O dd_LA_law_442 (tgt := 457) rfl (fun _ => hE) (fun h0 => ?_)
  refine ww_aload_n O dd_LA_law_445 3 rfl ?_
  refine ww_iconst O dd_LA_law_446 (v := nI 0) rfl ?_
  refine ww_lald O dd_LA_law_447 0 rfl (by decide) (by decide) (hv (px_c4 hc4 h0)) ?_
  refine ww_iload O dd_LA_law_448 6 rfl ?_
  refine ww_i2l O dd_LA_law_450 ?_
  refine ww_lcmp O dd_LA_law_451 ?_
  exact ww_if_eq O dd_LA_law_452 (tgt := 457) rfl (fun _ => hE) (fun h1 => absurd (lg_cmp_s rfl) h1)
theorem lw_flush {X : ww_X} {b Ln : Nat} {xs : Nat → Int32} (Fx : lw_F X b Ln xs) {K : dx_K} (hK : dx_ok K) {A : rr_A} {o i cs ss : Nat} (hi : i + 4 ≤ Ln) (hcs : cs + 1 ≤ 601024) (hss : ss + 6 ≤ 7293034) {lf : Nat → Int64} {cd : Int32} {T : rr_T} (hOK : rr_OK T) (kk : ∀ (lf' : Nat → Int64) (cd' : Int32) (T' : rr_T), rr_OK T' → ww_at X (cs + 1) (ss + 6) 815 (lw_L b (dx_x K) A.1 o i) [] (lw_w (ww_g X) o K A lf' cd' T')) : ww_at X cs ss 460 (lw_L b (dx_x K) A.1 o i) [] (lw_w (ww_g X) o K A lf cd T) := by
  obtain ⟨O, hfl, hR, hn, hN, hX, hbl, hbA, hLn, -⟩ := Fx
  have hsp : rr_O (ww_l X) (ww_D X) (ww_g X) K A o yy_LA_flush bb_LA_flush 4 [(0, 9, 12, 13)] yy_MO_flush bb_MO_flush 4 [.int (xs (i + 1))] lf cd T := sp_flush (ww_l X) (ww_D X) (ww_g X) hfl K hK A o lf cd T.2.2.2.1 T.2.2.2.2.1 T.1 T.2.1 T.2.2.1 T.2.2.2.2.2.1 T.2.2.2.2.2.2.1 T.2.2.2.2.2.2.2.1 T.2.2.2.2.2.2.2.2.1 T.2.2.2.2.2.2.2.2.2.1 T.2.2.2.2.2.2.2.2.2.2 (xs (i + 1)) hOK
  obtain ⟨cr, lf', v, kr, T', hc4, hk8, hLa, hMo, hv, hOK2⟩ := hsp
  refine ww_aload_n O dd_LA_law_460 1 rfl ?_
  refine ww_aload_n O dd_LA_law_461 0 rfl ?_
  refine ww_iload O dd_LA_law_462 4 rfl ?_
  refine ww_iconst O dd_LA_law_464 (v := nI 1) rfl ?_
  refine ww_iadd O dd_LA_law_465 (v := nI (i + 1)) (nI_add _ 1) ?_
  refine lw_sld O hX hbl hbA (by omega) (by omega) dd_LA_law_466 ?_
  refine ww_aload_n O dd_LA_law_467 3 rfl ?_
  refine ww_eqw (ws' := [] ++ ((rr_o (ww_g X) o lf :: rr_d (ww_g X) K T) ++ rr_m (ww_g X) A cd T)) rfl ?_
  refine wc_callS O hN [] (rr_m (ww_g X) A cd T) hLa lz_79.1 lz_79.2 (by rw [hR]; decide) (by rw [hR]; exact hcs) (by rw [hR]; exact hss) rfl (Nat.le_of_ble_eq_true rfl) dd_LA_law_468 rfl ?_
  refine ww_eqs (st' := [.int (nI cr)]) rfl (ww_eqw (ws' := (rr_o (ww_g X) o lf' :: rr_d (ww_g X) K T') ++ (rr_m (ww_g X) A cd T ++ [])) (by rw [List.append_nil]; rfl) (ww_wid (cs' := cs + 1) (ss' := ss + 6) (Nat.le_refl _) (Nat.le_refl _) ?_))
  refine ww_istore O dd_LA_law_471 (by rw [hn]; decide) rfl (L' := [(0, .ref b), (1, .ref (dx_x K)), (2, .ref A.1), (3, .ref o), (4, .int (nI i)), (5, .int (nI cr))]) rfl ?_
  refine ww_aload_n O dd_LA_law_473 2 rfl ?_
  refine ww_aload_n O dd_LA_law_474 0 rfl ?_
  refine ww_iload O dd_LA_law_475 4 rfl ?_
  refine ww_iconst O dd_LA_law_477 (v := nI 1) rfl ?_
  refine ww_iadd O dd_LA_law_478 (v := nI (i + 1)) (nI_add _ 1) ?_
  refine lw_sld O hX hbl hbA (by omega) (by omega) dd_LA_law_479 ?_
  refine wm_callV O (rr_o (ww_g X) o lf' :: rr_d (ww_g X) K T') [] (ci := 3) hMo lz_82.1 lz_82.2 rfl rfl rfl (by rw [hR]; exact ⟨show kr + 1 ≤ 12 by omega, show 8 + (4 + 11) + 40 * kr ≤ 426 by omega⟩) (by rw [hR]; show cs + 1 + 0 ≤ 601024; omega) (by rw [hR]; show ss + 6 + 0 ≤ 7293034; omega) rfl (Nat.le_of_ble_eq_true rfl) dd_LA_law_480 rfl ?_
  refine ww_eqs (st' := [.int v]) rfl (ww_wid (cs' := cs + 1) (ss' := ss + 6) (Nat.le_refl _) (Nat.le_refl _) ?_)
  refine ww_istore O dd_LA_law_483 (by rw [hn]; decide) rfl (L' := [(0, .ref b), (1, .ref (dx_x K)), (2, .ref A.1), (3, .ref o), (4, .int (nI i)), (5, .int (nI cr)), (6, .int v)]) rfl ?_
  refine ww_aload_n O dd_LA_law_485 2 rfl ?_
  refine wm_callV O (rr_o (ww_g X) o lf' :: rr_d (ww_g X) K T') [] (ci := 3) (rr_thrown (ww_l X) (ww_D X) (ww_g X) A (nI cr) T') lz_61.1 lz_61.2 rfl rfl rfl (by rw [hR]; decide) (by rw [hR]; show cs + 1 + 0 ≤ 601024; omega) (by rw [hR]; show ss + 6 + 0 ≤ 7293034; omega) rfl (Nat.le_of_ble_eq_true rfl) dd_LA_law_486 rfl ?_
  refine ww_eqs (st' := [.int (nI cr)]) rfl (ww_eqw (ws' := lw_w (ww_g X) o K A lf' (nI cr) T') (rr_w2 _ _ _) (ww_wid (cs' := cs + 1) (ss' := ss + 6) (Nat.le_refl _) (Nat.le_refl _) ?_))
  refine ww_iload O dd_LA_law_489 5 rfl ?_
  refine ww_icmp_eq O dd_LA_law_491 (tgt := 496) rfl (fun _ => ?_) (fun h => absurd rfl h)
  refine ww_iload O dd_LA_law_496 5 rfl ?_
  have hE : ww_at X (cs + 1) (ss + 6) 513 [(0, .ref b), (1, .ref (dx_x K)), (2, .ref A.1), (3, .ref o), (4, .int (nI i)), (5, .int (nI cr)), (6, .int v)] [] (lw_w (ww_g X) o K A lf' (nI cr) T') := ww_goto O dd_LA_law_513 (tgt := 815) rfl (ww_sub [0, 1, 2, 3, 4] rfl (kk lf' (nI cr) T' hOK2))
  refine ww_if_ne O dd_LA_law_498 (tgt := 513) rfl (fun _ => hE) (fun h0 => ?_)
  refine ww_aload_n O dd_LA_law_501 3 rfl ?_
  refine ww_iconst O dd_LA_law_502 (v := nI 0) rfl ?_
  refine ww_lald O dd_LA_law_503 0 rfl (by decide) (by decide) (hv (px_c4 hc4 h0)) ?_
  refine ww_iload O dd_LA_law_504 6 rfl ?_
  refine ww_i2l O dd_LA_law_506 ?_
  refine ww_lcmp O dd_LA_law_507 ?_
  exact ww_if_eq O dd_LA_law_508 (tgt := 513) rfl (fun _ => hE) (fun h1 => absurd (lg_cmp_s rfl) h1)
theorem lw_crash {X : ww_X} {b Ln : Nat} {xs : Nat → Int32} (Fx : lw_F X b Ln xs) {K : dx_K} (hK : dx_ok K) {A : rr_A} {o i cs ss : Nat} (hi : i + 4 ≤ Ln) (hcs : cs + 1 ≤ 601024) (hss : ss + 6 ≤ 7293034) {lf : Nat → Int64} {cd : Int32} {T : rr_T} (hOK : rr_OK T) (kk : ∀ (lf' : Nat → Int64) (cd' : Int32) (T' : rr_T), rr_OK T' → ww_at X (cs + 1) (ss + 6) 815 (lw_L b (dx_x K) A.1 o i) [] (lw_w (ww_g X) o K A lf' cd' T')) : ww_at X cs ss 516 (lw_L b (dx_x K) A.1 o i) [] (lw_w (ww_g X) o K A lf cd T) := by
  obtain ⟨O, hfl, hR, hn, hN, hX, hbl, hbA, hLn, -⟩ := Fx
  have hsp : rr_E (ww_l X) (ww_D X) (ww_g X) K A yy_DE_crash bb_DE_crash 3 yy_MO_crash bb_MO_crash 3 cd T := sp_crash (ww_l X) (ww_D X) (ww_g X) hfl K hK A cd T.2.2.2.1 T.2.2.2.2.1 T.1 T.2.1 T.2.2.1 T.2.2.2.2.2.1 T.2.2.2.2.2.2.1 T.2.2.2.2.2.2.2.1 T.2.2.2.2.2.2.2.2.1 T.2.2.2.2.2.2.2.2.2.1 T.2.2.2.2.2.2.2.2.2.2 hOK
  obtain ⟨v, kr, k2, T', hk8, hk9, hDe, hMo, hOK2⟩ := hsp
  refine ww_aload_n O dd_LA_law_516 1 rfl ?_
  refine ww_eqw (ws' := [rr_o (ww_g X) o lf] ++ (rr_d (ww_g X) K T ++ rr_m (ww_g X) A cd T)) rfl ?_
  refine wm_callV O [rr_o (ww_g X) o lf] (rr_m (ww_g X) A cd T) (ci := 2) hDe lz_83.1 lz_83.2 rfl rfl rfl (by rw [hR]; exact ⟨show kr + 1 ≤ 12 by omega, show 8 + (3 + 11) + 40 * kr ≤ 426 by omega⟩) (by rw [hR]; show cs + 0 ≤ 601024; omega) (by rw [hR]; show ss + 0 ≤ 7293034; omega) rfl (Nat.le_of_ble_eq_true rfl) dd_LA_law_517 rfl ?_
  refine ww_eqs (st' := [.int v]) rfl (ww_eqw (ws' := (rr_o (ww_g X) o lf :: rr_d (ww_g X) K T') ++ (rr_m (ww_g X) A cd T ++ [])) (by rw [List.append_nil]; rfl) (ww_wid (cs' := cs) (ss' := ss) (Nat.le_refl _) (Nat.le_refl _) ?_))
  refine ww_aload_n O dd_LA_law_520 2 rfl ?_
  refine wm_callV O (rr_o (ww_g X) o lf :: rr_d (ww_g X) K T') [] (ci := 3) hMo lz_86.1 lz_86.2 rfl rfl rfl (by rw [hR]; exact ⟨show k2 + 1 ≤ 12 by omega, show 8 + (3 + 11) + 40 * k2 ≤ 426 by omega⟩) (by rw [hR]; show cs + 0 ≤ 601024; omega) (by rw [hR]; show ss + 0 ≤ 7293034; omega) rfl (Nat.le_of_ble_eq_true rfl) dd_LA_law_521 rfl ?_
  refine ww_eqs (st' := [.int v, .int v]) rfl (ww_eqw (ws' := lw_w (ww_g X) o K A lf (nI 0) T') (rr_w2 _ _ _) (ww_wid (cs' := cs + 1) (ss' := ss + 6) (Nat.le_add_right _ _) (Nat.le_add_right _ _) ?_))
  exact ww_icmp_eq O dd_LA_law_524 (tgt := 815) rfl (fun _ => kk lf (nI 0) T' hOK2) (fun h => absurd rfl h)
theorem lw_extent {X : ww_X} {b Ln : Nat} {xs : Nat → Int32} (Fx : lw_F X b Ln xs) {K : dx_K} (hK : dx_ok K) {A : rr_A} {o i cs ss : Nat} (hi : i + 4 ≤ Ln) (hcs : cs + 1 ≤ 601024) (hss : ss + 6 ≤ 7293034) {lf : Nat → Int64} {cd : Int32} {T : rr_T} (hOK : rr_OK T) (kk : ∀ (lf' : Nat → Int64) (cd' : Int32) (T' : rr_T), rr_OK T' → ww_at X (cs + 1) (ss + 6) 815 (lw_L b (dx_x K) A.1 o i) [] (lw_w (ww_g X) o K A lf' cd' T')) : ww_at X cs ss 529 (lw_L b (dx_x K) A.1 o i) [] (lw_w (ww_g X) o K A lf cd T) := by
  obtain ⟨O, hfl, hR, hn, hN, hX, hbl, hbA, hLn, -⟩ := Fx
  have hsp : rr_O (ww_l X) (ww_D X) (ww_g X) K A o yy_LA_extent bb_LA_extent 6 [(0, 12, 15, 13), (0, 12, 19, 27)] yy_MO_extent bb_MO_extent 4 [.int (xs (i + 1)), .int (xs (i + 2)), .int (xs (i + 3))] lf cd T := sp_extent (ww_l X) (ww_D X) (ww_g X) hfl K hK A o lf cd T.2.2.2.1 T.2.2.2.2.1 T.1 T.2.1 T.2.2.1 T.2.2.2.2.2.1 T.2.2.2.2.2.2.1 T.2.2.2.2.2.2.2.1 T.2.2.2.2.2.2.2.2.1 T.2.2.2.2.2.2.2.2.2.1 T.2.2.2.2.2.2.2.2.2.2 (xs (i + 1)) (xs (i + 2)) (xs (i + 3)) hOK
  obtain ⟨cr, lf', v, kr, T', hc4, hk8, hLa, hMo, hv, hOK2⟩ := hsp
  refine ww_aload_n O dd_LA_law_529 1 rfl ?_
  refine ww_aload_n O dd_LA_law_530 0 rfl ?_
  refine ww_iload O dd_LA_law_531 4 rfl ?_
  refine ww_iconst O dd_LA_law_533 (v := nI 1) rfl ?_
  refine ww_iadd O dd_LA_law_534 (v := nI (i + 1)) (nI_add _ 1) ?_
  refine lw_sld O hX hbl hbA (by omega) (by omega) dd_LA_law_535 ?_
  refine ww_aload_n O dd_LA_law_536 0 rfl ?_
  refine ww_iload O dd_LA_law_537 4 rfl ?_
  refine ww_iconst O dd_LA_law_539 (v := nI 2) rfl ?_
  refine ww_iadd O dd_LA_law_540 (v := nI (i + 2)) (nI_add _ 2) ?_
  refine lw_sld O hX hbl hbA (by omega) (by omega) dd_LA_law_541 ?_
  refine ww_aload_n O dd_LA_law_542 0 rfl ?_
  refine ww_iload O dd_LA_law_543 4 rfl ?_
  refine ww_iconst O dd_LA_law_545 (v := nI 3) rfl ?_
  refine ww_iadd O dd_LA_law_546 (v := nI (i + 3)) (nI_add _ 3) ?_
  refine lw_sld O hX hbl hbA (by omega) (by omega) dd_LA_law_547 ?_
  refine ww_aload_n O dd_LA_law_548 3 rfl ?_
  refine ww_eqw (ws' := [] ++ ((rr_o (ww_g X) o lf :: rr_d (ww_g X) K T) ++ rr_m (ww_g X) A cd T)) rfl ?_
  refine wc_callS O hN [] (rr_m (ww_g X) A cd T) hLa lz_87.1 lz_87.2 (by rw [hR]; decide) (by rw [hR]; exact hcs) (by rw [hR]; exact hss) rfl (Nat.le_of_ble_eq_true rfl) dd_LA_law_549 rfl ?_
  refine ww_eqs (st' := [.int (nI cr)]) rfl (ww_eqw (ws' := (rr_o (ww_g X) o lf' :: rr_d (ww_g X) K T') ++ (rr_m (ww_g X) A cd T ++ [])) (by rw [List.append_nil]; rfl) (ww_wid (cs' := cs + 1) (ss' := ss + 6) (Nat.le_refl _) (Nat.le_refl _) ?_))
  refine ww_istore O dd_LA_law_552 (by rw [hn]; decide) rfl (L' := [(0, .ref b), (1, .ref (dx_x K)), (2, .ref A.1), (3, .ref o), (4, .int (nI i)), (5, .int (nI cr))]) rfl ?_
  refine ww_aload_n O dd_LA_law_554 2 rfl ?_
  refine ww_aload_n O dd_LA_law_555 0 rfl ?_
  refine ww_iload O dd_LA_law_556 4 rfl ?_
  refine ww_iconst O dd_LA_law_558 (v := nI 1) rfl ?_
  refine ww_iadd O dd_LA_law_559 (v := nI (i + 1)) (nI_add _ 1) ?_
  refine lw_sld O hX hbl hbA (by omega) (by omega) dd_LA_law_560 ?_
  refine ww_aload_n O dd_LA_law_561 0 rfl ?_
  refine ww_iload O dd_LA_law_562 4 rfl ?_
  refine ww_iconst O dd_LA_law_564 (v := nI 2) rfl ?_
  refine ww_iadd O dd_LA_law_565 (v := nI (i + 2)) (nI_add _ 2) ?_
  refine lw_sld O hX hbl hbA (by omega) (by omega) dd_LA_law_566 ?_
  refine ww_aload_n O dd_LA_law_567 0 rfl ?_
  refine ww_iload O dd_LA_law_568 4 rfl ?_
  refine ww_iconst O dd_LA_law_570 (v := nI 3) rfl ?_
  refine ww_iadd O dd_LA_law_571 (v := nI (i + 3)) (nI_add _ 3) ?_
  refine lw_sld O hX hbl hbA (by omega) (by omega) dd_LA_law_572 ?_
  refine wm_callV O (rr_o (ww_g X) o lf' :: rr_d (ww_g X) K T') [] (ci := 3) hMo lz_89.1 lz_89.2 rfl rfl rfl (by rw [hR]; exact ⟨show kr + 1 ≤ 12 by omega, show 8 + (4 + 11) + 40 * kr ≤ 426 by omega⟩) (by rw [hR]; show cs + 1 + 0 ≤ 601024; omega) (by rw [hR]; show ss + 6 + 0 ≤ 7293034; omega) rfl (Nat.le_of_ble_eq_true rfl) dd_LA_law_573 rfl ?_
  refine ww_eqs (st' := [.int v]) rfl (ww_wid (cs' := cs + 1) (ss' := ss + 6) (Nat.le_refl _) (Nat.le_refl _) ?_)
  refine ww_istore O dd_LA_law_576 (by rw [hn]; decide) rfl (L' := [(0, .ref b), (1, .ref (dx_x K)), (2, .ref A.1), (3, .ref o), (4, .int (nI i)), (5, .int (nI cr)), (6, .int v)]) rfl ?_
  refine ww_aload_n O dd_LA_law_578 2 rfl ?_
  refine wm_callV O (rr_o (ww_g X) o lf' :: rr_d (ww_g X) K T') [] (ci := 3) (rr_thrown (ww_l X) (ww_D X) (ww_g X) A (nI cr) T') lz_61.1 lz_61.2 rfl rfl rfl (by rw [hR]; decide) (by rw [hR]; show cs + 1 + 0 ≤ 601024; omega) (by rw [hR]; show ss + 6 + 0 ≤ 7293034; omega) rfl (Nat.le_of_ble_eq_true rfl) dd_LA_law_579 rfl ?_
  refine ww_eqs (st' := [.int (nI cr)]) rfl (ww_eqw (ws' := lw_w (ww_g X) o K A lf' (nI cr) T') (rr_w2 _ _ _) (ww_wid (cs' := cs + 1) (ss' := ss + 6) (Nat.le_refl _) (Nat.le_refl _) ?_))
  refine ww_iload O dd_LA_law_582 5 rfl ?_
  refine ww_icmp_eq O dd_LA_law_584 (tgt := 589) rfl (fun _ => ?_) (fun h => absurd rfl h)
  refine ww_iload O dd_LA_law_589 5 rfl ?_
  have hE : ww_at X (cs + 1) (ss + 6) 606 [(0, .ref b), (1, .ref (dx_x K)), (2, .ref A.1), (3, .ref o), (4, .int (nI i)), (5, .int (nI cr)), (6, .int v)] [] (lw_w (ww_g X) o K A lf' (nI cr) T') := ww_goto O dd_LA_law_606 (tgt := 815) rfl (ww_sub [0, 1, 2, 3, 4] rfl (kk lf' (nI cr) T' hOK2))
  refine ww_if_ne O dd_LA_law_591 (tgt := 606) rfl (fun _ => hE) (fun h0 => ?_)
  refine ww_aload_n O dd_LA_law_594 3 rfl ?_
  refine ww_iconst O dd_LA_law_595 (v := nI 0) rfl ?_
  refine ww_lald O dd_LA_law_596 0 rfl (by decide) (by decide) (hv (px_c4 hc4 h0)) ?_
  refine ww_iload O dd_LA_law_597 6 rfl ?_
  refine ww_i2l O dd_LA_law_599 ?_
  refine ww_lcmp O dd_LA_law_600 ?_
  exact ww_if_eq O dd_LA_law_601 (tgt := 606) rfl (fun _ => hE) (fun h1 => absurd (lg_cmp_s rfl) h1)
theorem lw_about {X : ww_X} {b Ln : Nat} {xs : Nat → Int32} (Fx : lw_F X b Ln xs) {K : dx_K} (hK : dx_ok K) {A : rr_A} {o i cs ss : Nat} (hi : i + 4 ≤ Ln) (hcs : cs + 1 ≤ 601024) (hss : ss + 6 ≤ 7293034) {lf : Nat → Int64} {cd : Int32} {T : rr_T} (hOK : rr_OK T) (kk : ∀ (lf' : Nat → Int64) (cd' : Int32) (T' : rr_T), rr_OK T' → ww_at X (cs + 1) (ss + 6) 815 (lw_L b (dx_x K) A.1 o i) [] (lw_w (ww_g X) o K A lf' cd' T')) : ww_at X cs ss 609 (lw_L b (dx_x K) A.1 o i) [] (lw_w (ww_g X) o K A lf cd T) := by
  obtain ⟨O, hfl, hR, hn, hN, hX, hbl, hbA, hLn, -⟩ := Fx
  have hsp : rr_O (ww_l X) (ww_D X) (ww_g X) K A o yy_LA_about bb_LA_about 5 [(0, 10, 13, 13), (0, 10, 17, 27)] yy_MO_about bb_MO_about 3 [.int (xs (i + 1)), .int (xs (i + 2))] lf cd T := sp_about (ww_l X) (ww_D X) (ww_g X) hfl K hK A o lf cd T.2.2.2.1 T.2.2.2.2.1 T.1 T.2.1 T.2.2.1 T.2.2.2.2.2.1 T.2.2.2.2.2.2.1 T.2.2.2.2.2.2.2.1 T.2.2.2.2.2.2.2.2.1 T.2.2.2.2.2.2.2.2.2.1 T.2.2.2.2.2.2.2.2.2.2 (xs (i + 1)) (xs (i + 2)) hOK
  obtain ⟨cr, lf', v, kr, T', hc4, hk8, hLa, hMo, hv, hOK2⟩ := hsp
  refine ww_aload_n O dd_LA_law_609 1 rfl ?_
  refine ww_aload_n O dd_LA_law_610 0 rfl ?_
  refine ww_iload O dd_LA_law_611 4 rfl ?_
  refine ww_iconst O dd_LA_law_613 (v := nI 1) rfl ?_
  refine ww_iadd O dd_LA_law_614 (v := nI (i + 1)) (nI_add _ 1) ?_
  refine lw_sld O hX hbl hbA (by omega) (by omega) dd_LA_law_615 ?_
  refine ww_aload_n O dd_LA_law_616 0 rfl ?_
  refine ww_iload O dd_LA_law_617 4 rfl ?_
  refine ww_iconst O dd_LA_law_619 (v := nI 2) rfl ?_
  refine ww_iadd O dd_LA_law_620 (v := nI (i + 2)) (nI_add _ 2) ?_
  refine lw_sld O hX hbl hbA (by omega) (by omega) dd_LA_law_621 ?_
  refine ww_aload_n O dd_LA_law_622 3 rfl ?_
  refine ww_eqw (ws' := [] ++ ((rr_o (ww_g X) o lf :: rr_d (ww_g X) K T) ++ rr_m (ww_g X) A cd T)) rfl ?_
  refine wc_callS O hN [] (rr_m (ww_g X) A cd T) hLa lz_90.1 lz_90.2 (by rw [hR]; decide) (by rw [hR]; exact hcs) (by rw [hR]; exact hss) rfl (Nat.le_of_ble_eq_true rfl) dd_LA_law_623 rfl ?_
  refine ww_eqs (st' := [.int (nI cr)]) rfl (ww_eqw (ws' := (rr_o (ww_g X) o lf' :: rr_d (ww_g X) K T') ++ (rr_m (ww_g X) A cd T ++ [])) (by rw [List.append_nil]; rfl) (ww_wid (cs' := cs + 1) (ss' := ss + 6) (Nat.le_refl _) (Nat.le_refl _) ?_))
  refine ww_istore O dd_LA_law_626 (by rw [hn]; decide) rfl (L' := [(0, .ref b), (1, .ref (dx_x K)), (2, .ref A.1), (3, .ref o), (4, .int (nI i)), (5, .int (nI cr))]) rfl ?_
  refine ww_aload_n O dd_LA_law_628 2 rfl ?_
  refine ww_aload_n O dd_LA_law_629 0 rfl ?_
  refine ww_iload O dd_LA_law_630 4 rfl ?_
  refine ww_iconst O dd_LA_law_632 (v := nI 1) rfl ?_
  refine ww_iadd O dd_LA_law_633 (v := nI (i + 1)) (nI_add _ 1) ?_
  refine lw_sld O hX hbl hbA (by omega) (by omega) dd_LA_law_634 ?_
  refine ww_aload_n O dd_LA_law_635 0 rfl ?_
  refine ww_iload O dd_LA_law_636 4 rfl ?_
  refine ww_iconst O dd_LA_law_638 (v := nI 2) rfl ?_
  refine ww_iadd O dd_LA_law_639 (v := nI (i + 2)) (nI_add _ 2) ?_
  refine lw_sld O hX hbl hbA (by omega) (by omega) dd_LA_law_640 ?_
  refine wm_callV O (rr_o (ww_g X) o lf' :: rr_d (ww_g X) K T') [] (ci := 3) hMo lz_92.1 lz_92.2 rfl rfl rfl (by rw [hR]; exact ⟨show kr + 1 ≤ 12 by omega, show 8 + (3 + 11) + 40 * kr ≤ 426 by omega⟩) (by rw [hR]; show cs + 1 + 0 ≤ 601024; omega) (by rw [hR]; show ss + 6 + 0 ≤ 7293034; omega) rfl (Nat.le_of_ble_eq_true rfl) dd_LA_law_641 rfl ?_
  refine ww_eqs (st' := [.int v]) rfl (ww_wid (cs' := cs + 1) (ss' := ss + 6) (Nat.le_refl _) (Nat.le_refl _) ?_)
  refine ww_istore O dd_LA_law_644 (by rw [hn]; decide) rfl (L' := [(0, .ref b), (1, .ref (dx_x K)), (2, .ref A.1), (3, .ref o), (4, .int (nI i)), (5, .int (nI cr)), (6, .int v)]) rfl ?_
  refine ww_aload_n O dd_LA_law_646 2 rfl ?_
  refine wm_callV O (rr_o (ww_g X) o lf' :: rr_d (ww_g X) K T') [] (ci := 3) (rr_thrown (ww_l X) (ww_D X) (ww_g X) A (nI cr) T') lz_61.1 lz_61.2 rfl rfl rfl (by rw [hR]; decide) (by rw [hR]; show cs + 1 + 0 ≤ 601024; omega) (by rw [hR]; show ss + 6 + 0 ≤ 7293034; omega) rfl (Nat.le_of_ble_eq_true rfl) dd_LA_law_647 rfl ?_
  refine ww_eqs (st' := [.int (nI cr)]) rfl (ww_eqw (ws' := lw_w (ww_g X) o K A lf' (nI cr) T') (rr_w2 _ _ _) (ww_wid (cs' := cs + 1) (ss' := ss + 6) (Nat.le_refl _) (Nat.le_refl _) ?_))
  refine ww_iload O dd_LA_law_650 5 rfl ?_
  refine ww_icmp_eq O dd_LA_law_652 (tgt := 657) rfl (fun _ => ?_) (fun h => absurd rfl h)
  refine ww_iload O dd_LA_law_657 5 rfl ?_
  have hE : ww_at X (cs + 1) (ss + 6) 674 [(0, .ref b), (1, .ref (dx_x K)), (2, .ref A.1), (3, .ref o), (4, .int (nI i)), (5, .int (nI cr)), (6, .int v)] [] (lw_w (ww_g X) o K A lf' (nI cr) T') := ww_goto O dd_LA_law_674 (tgt := 815) rfl (ww_sub [0, 1, 2, 3, 4] rfl (kk lf' (nI cr) T' hOK2))
  refine ww_if_ne O dd_LA_law_659 (tgt := 674) rfl (fun _ => hE) (fun h0 => ?_)
  refine ww_aload_n O dd_LA_law_662 3 rfl ?_
  refine ww_iconst O dd_LA_law_663 (v := nI 0) rfl ?_
  refine ww_lald O dd_LA_law_664 0 rfl (by decide) (by decide) (hv (px_c4 hc4 h0)) ?_
  refine ww_iload O dd_LA_law_665 6 rfl ?_
  refine ww_i2l O dd_LA_law_667 ?_
  refine ww_lcmp O dd_LA_law_668 ?_
  exact ww_if_eq O dd_LA_law_669 (tgt := 674) rfl (fun _ => hE) (fun h1 => absurd (lg_cmp_s rfl) h1)
theorem lw_free {X : ww_X} {b Ln : Nat} {xs : Nat → Int32} (Fx : lw_F X b Ln xs) {K : dx_K} (hK : dx_ok K) {A : rr_A} {o i cs ss : Nat} (hi : i + 4 ≤ Ln) (hcs : cs + 1 ≤ 601024) (hss : ss + 6 ≤ 7293034) {lf : Nat → Int64} {cd : Int32} {T : rr_T} (hOK : rr_OK T) (kk : ∀ (lf' : Nat → Int64) (cd' : Int32) (T' : rr_T), rr_OK T' → ww_at X (cs + 1) (ss + 6) 815 (lw_L b (dx_x K) A.1 o i) [] (lw_w (ww_g X) o K A lf' cd' T')) : ww_at X cs ss 677 (lw_L b (dx_x K) A.1 o i) [] (lw_w (ww_g X) o K A lf cd T) := by
  obtain ⟨O, hfl, hR, hn, hN, hX, hbl, hbA, hLn, -⟩ := Fx
  have hsp : rr_E (ww_l X) (ww_D X) (ww_g X) K A yy_DE_free bb_DE_free 3 yy_MO_free bb_MO_free 1 cd T := sp_free (ww_l X) (ww_D X) (ww_g X) hfl K hK A cd T.2.2.2.1 T.2.2.2.2.1 T.1 T.2.1 T.2.2.1 T.2.2.2.2.2.1 T.2.2.2.2.2.2.1 T.2.2.2.2.2.2.2.1 T.2.2.2.2.2.2.2.2.1 T.2.2.2.2.2.2.2.2.2.1 T.2.2.2.2.2.2.2.2.2.2 hOK
  obtain ⟨v, kr, k2, T', hk8, hk9, hDe, hMo, hOK2⟩ := hsp
  refine ww_aload_n O dd_LA_law_677 1 rfl ?_
  refine ww_eqw (ws' := [rr_o (ww_g X) o lf] ++ (rr_d (ww_g X) K T ++ rr_m (ww_g X) A cd T)) rfl ?_
  refine wm_callV O [rr_o (ww_g X) o lf] (rr_m (ww_g X) A cd T) (ci := 2) hDe lz_93.1 lz_93.2 rfl rfl rfl (by rw [hR]; exact ⟨show kr + 1 ≤ 12 by omega, show 8 + (3 + 11) + 40 * kr ≤ 426 by omega⟩) (by rw [hR]; show cs + 0 ≤ 601024; omega) (by rw [hR]; show ss + 0 ≤ 7293034; omega) rfl (Nat.le_of_ble_eq_true rfl) dd_LA_law_678 rfl ?_
  refine ww_eqs (st' := [.int v]) rfl (ww_eqw (ws' := (rr_o (ww_g X) o lf :: rr_d (ww_g X) K T') ++ (rr_m (ww_g X) A cd T ++ [])) (by rw [List.append_nil]; rfl) (ww_wid (cs' := cs) (ss' := ss) (Nat.le_refl _) (Nat.le_refl _) ?_))
  refine ww_aload_n O dd_LA_law_681 2 rfl ?_
  refine wm_callV O (rr_o (ww_g X) o lf :: rr_d (ww_g X) K T') [] (ci := 3) hMo lz_96.1 lz_96.2 rfl rfl rfl (by rw [hR]; exact ⟨show k2 + 1 ≤ 12 by omega, show 8 + (1 + 11) + 40 * k2 ≤ 426 by omega⟩) (by rw [hR]; show cs + 0 ≤ 601024; omega) (by rw [hR]; show ss + 0 ≤ 7293034; omega) rfl (Nat.le_of_ble_eq_true rfl) dd_LA_law_682 rfl ?_
  refine ww_eqs (st' := [.int v, .int v]) rfl (ww_eqw (ws' := lw_w (ww_g X) o K A lf (nI 0) T') (rr_w2 _ _ _) (ww_wid (cs' := cs + 1) (ss' := ss + 6) (Nat.le_add_right _ _) (Nat.le_add_right _ _) ?_))
  exact ww_icmp_eq O dd_LA_law_685 (tgt := 815) rfl (fun _ => kk lf (nI 0) T' hOK2) (fun h => absurd rfl h)
theorem lw_reserved {X : ww_X} {b Ln : Nat} {xs : Nat → Int32} (Fx : lw_F X b Ln xs) {K : dx_K} (hK : dx_ok K) {A : rr_A} {o i cs ss : Nat} (hi : i + 4 ≤ Ln) (hcs : cs + 1 ≤ 601024) (hss : ss + 6 ≤ 7293034) {lf : Nat → Int64} {cd : Int32} {T : rr_T} (hOK : rr_OK T) (kk : ∀ (lf' : Nat → Int64) (cd' : Int32) (T' : rr_T), rr_OK T' → ww_at X (cs + 1) (ss + 6) 815 (lw_L b (dx_x K) A.1 o i) [] (lw_w (ww_g X) o K A lf' cd' T')) : ww_at X cs ss 690 (lw_L b (dx_x K) A.1 o i) [] (lw_w (ww_g X) o K A lf cd T) := by
  obtain ⟨O, hfl, hR, hn, hN, hX, hbl, hbA, hLn, -⟩ := Fx
  have hsp : rr_E (ww_l X) (ww_D X) (ww_g X) K A yy_DE_reserved bb_DE_reserved 3 yy_MO_reserved bb_MO_reserved 1 cd T := sp_reserved (ww_l X) (ww_D X) (ww_g X) hfl K hK A cd T.2.2.2.1 T.2.2.2.2.1 T.1 T.2.1 T.2.2.1 T.2.2.2.2.2.1 T.2.2.2.2.2.2.1 T.2.2.2.2.2.2.2.1 T.2.2.2.2.2.2.2.2.1 T.2.2.2.2.2.2.2.2.2.1 T.2.2.2.2.2.2.2.2.2.2 hOK
  obtain ⟨v, kr, k2, T', hk8, hk9, hDe, hMo, hOK2⟩ := hsp
  refine ww_aload_n O dd_LA_law_690 1 rfl ?_
  refine ww_eqw (ws' := [rr_o (ww_g X) o lf] ++ (rr_d (ww_g X) K T ++ rr_m (ww_g X) A cd T)) rfl ?_
  refine wm_callV O [rr_o (ww_g X) o lf] (rr_m (ww_g X) A cd T) (ci := 2) hDe lz_97.1 lz_97.2 rfl rfl rfl (by rw [hR]; exact ⟨show kr + 1 ≤ 12 by omega, show 8 + (3 + 11) + 40 * kr ≤ 426 by omega⟩) (by rw [hR]; show cs + 0 ≤ 601024; omega) (by rw [hR]; show ss + 0 ≤ 7293034; omega) rfl (Nat.le_of_ble_eq_true rfl) dd_LA_law_691 rfl ?_
  refine ww_eqs (st' := [.int v]) rfl (ww_eqw (ws' := (rr_o (ww_g X) o lf :: rr_d (ww_g X) K T') ++ (rr_m (ww_g X) A cd T ++ [])) (by rw [List.append_nil]; rfl) (ww_wid (cs' := cs) (ss' := ss) (Nat.le_refl _) (Nat.le_refl _) ?_))
  refine ww_aload_n O dd_LA_law_694 2 rfl ?_
  refine wm_callV O (rr_o (ww_g X) o lf :: rr_d (ww_g X) K T') [] (ci := 3) hMo lz_100.1 lz_100.2 rfl rfl rfl (by rw [hR]; exact ⟨show k2 + 1 ≤ 12 by omega, show 8 + (1 + 11) + 40 * k2 ≤ 426 by omega⟩) (by rw [hR]; show cs + 0 ≤ 601024; omega) (by rw [hR]; show ss + 0 ≤ 7293034; omega) rfl (Nat.le_of_ble_eq_true rfl) dd_LA_law_695 rfl ?_
  refine ww_eqs (st' := [.int v, .int v]) rfl (ww_eqw (ws' := lw_w (ww_g X) o K A lf (nI 0) T') (rr_w2 _ _ _) (ww_wid (cs' := cs + 1) (ss' := ss + 6) (Nat.le_add_right _ _) (Nat.le_add_right _ _) ?_))
  exact ww_icmp_eq O dd_LA_law_698 (tgt := 815) rfl (fun _ => kk lf (nI 0) T' hOK2) (fun h => absurd rfl h)
theorem lw_owner {X : ww_X} {b Ln : Nat} {xs : Nat → Int32} (Fx : lw_F X b Ln xs) {K : dx_K} (hK : dx_ok K) {A : rr_A} {o i cs ss : Nat} (hi : i + 4 ≤ Ln) (hcs : cs + 1 ≤ 601024) (hss : ss + 6 ≤ 7293034) {lf : Nat → Int64} {cd : Int32} {T : rr_T} (hOK : rr_OK T) (kk : ∀ (lf' : Nat → Int64) (cd' : Int32) (T' : rr_T), rr_OK T' → ww_at X (cs + 1) (ss + 6) 815 (lw_L b (dx_x K) A.1 o i) [] (lw_w (ww_g X) o K A lf' cd' T')) : ww_at X cs ss 703 (lw_L b (dx_x K) A.1 o i) [] (lw_w (ww_g X) o K A lf cd T) := by
  obtain ⟨O, hfl, hR, hn, hN, hX, hbl, hbA, hLn, -⟩ := Fx
  have hsp : rr_O (ww_l X) (ww_D X) (ww_g X) K A o yy_LA_owner bb_LA_owner 4 [(0, 9, 12, 13)] yy_MO_owner bb_MO_owner 2 [.int (xs (i + 1))] lf cd T := sp_owner (ww_l X) (ww_D X) (ww_g X) hfl K hK A o lf cd T.2.2.2.1 T.2.2.2.2.1 T.1 T.2.1 T.2.2.1 T.2.2.2.2.2.1 T.2.2.2.2.2.2.1 T.2.2.2.2.2.2.2.1 T.2.2.2.2.2.2.2.2.1 T.2.2.2.2.2.2.2.2.2.1 T.2.2.2.2.2.2.2.2.2.2 (xs (i + 1)) hOK
  obtain ⟨cr, lf', v, kr, T', hc4, hk8, hLa, hMo, hv, hOK2⟩ := hsp
  refine ww_aload_n O dd_LA_law_703 1 rfl ?_
  refine ww_aload_n O dd_LA_law_704 0 rfl ?_
  refine ww_iload O dd_LA_law_705 4 rfl ?_
  refine ww_iconst O dd_LA_law_707 (v := nI 1) rfl ?_
  refine ww_iadd O dd_LA_law_708 (v := nI (i + 1)) (nI_add _ 1) ?_
  refine lw_sld O hX hbl hbA (by omega) (by omega) dd_LA_law_709 ?_
  refine ww_aload_n O dd_LA_law_710 3 rfl ?_
  refine ww_eqw (ws' := [] ++ ((rr_o (ww_g X) o lf :: rr_d (ww_g X) K T) ++ rr_m (ww_g X) A cd T)) rfl ?_
  refine wc_callS O hN [] (rr_m (ww_g X) A cd T) hLa lz_101.1 lz_101.2 (by rw [hR]; decide) (by rw [hR]; exact hcs) (by rw [hR]; exact hss) rfl (Nat.le_of_ble_eq_true rfl) dd_LA_law_711 rfl ?_
  refine ww_eqs (st' := [.int (nI cr)]) rfl (ww_eqw (ws' := (rr_o (ww_g X) o lf' :: rr_d (ww_g X) K T') ++ (rr_m (ww_g X) A cd T ++ [])) (by rw [List.append_nil]; rfl) (ww_wid (cs' := cs + 1) (ss' := ss + 6) (Nat.le_refl _) (Nat.le_refl _) ?_))
  refine ww_istore O dd_LA_law_714 (by rw [hn]; decide) rfl (L' := [(0, .ref b), (1, .ref (dx_x K)), (2, .ref A.1), (3, .ref o), (4, .int (nI i)), (5, .int (nI cr))]) rfl ?_
  refine ww_aload_n O dd_LA_law_716 2 rfl ?_
  refine ww_aload_n O dd_LA_law_717 0 rfl ?_
  refine ww_iload O dd_LA_law_718 4 rfl ?_
  refine ww_iconst O dd_LA_law_720 (v := nI 1) rfl ?_
  refine ww_iadd O dd_LA_law_721 (v := nI (i + 1)) (nI_add _ 1) ?_
  refine lw_sld O hX hbl hbA (by omega) (by omega) dd_LA_law_722 ?_
  refine wm_callV O (rr_o (ww_g X) o lf' :: rr_d (ww_g X) K T') [] (ci := 3) hMo lz_103.1 lz_103.2 rfl rfl rfl (by rw [hR]; exact ⟨show kr + 1 ≤ 12 by omega, show 8 + (2 + 11) + 40 * kr ≤ 426 by omega⟩) (by rw [hR]; show cs + 1 + 0 ≤ 601024; omega) (by rw [hR]; show ss + 6 + 0 ≤ 7293034; omega) rfl (Nat.le_of_ble_eq_true rfl) dd_LA_law_723 rfl ?_
  refine ww_eqs (st' := [.int v]) rfl (ww_wid (cs' := cs + 1) (ss' := ss + 6) (Nat.le_refl _) (Nat.le_refl _) ?_)
  refine ww_istore O dd_LA_law_726 (by rw [hn]; decide) rfl (L' := [(0, .ref b), (1, .ref (dx_x K)), (2, .ref A.1), (3, .ref o), (4, .int (nI i)), (5, .int (nI cr)), (6, .int v)]) rfl ?_
  refine ww_aload_n O dd_LA_law_728 2 rfl ?_
  refine wm_callV O (rr_o (ww_g X) o lf' :: rr_d (ww_g X) K T') [] (ci := 3) (rr_thrown (ww_l X) (ww_D X) (ww_g X) A (nI cr) T') lz_61.1 lz_61.2 rfl rfl rfl (by rw [hR]; decide) (by rw [hR]; show cs + 1 + 0 ≤ 601024; omega) (by rw [hR]; show ss + 6 + 0 ≤ 7293034; omega) rfl (Nat.le_of_ble_eq_true rfl) dd_LA_law_729 rfl ?_
  refine ww_eqs (st' := [.int (nI cr)]) rfl (ww_eqw (ws' := lw_w (ww_g X) o K A lf' (nI cr) T') (rr_w2 _ _ _) (ww_wid (cs' := cs + 1) (ss' := ss + 6) (Nat.le_refl _) (Nat.le_refl _) ?_))
  refine ww_iload O dd_LA_law_732 5 rfl ?_
  refine ww_icmp_eq O dd_LA_law_734 (tgt := 739) rfl (fun _ => ?_) (fun h => absurd rfl h)
  refine ww_iload O dd_LA_law_739 5 rfl ?_
  have hE : ww_at X (cs + 1) (ss + 6) 756 [(0, .ref b), (1, .ref (dx_x K)), (2, .ref A.1), (3, .ref o), (4, .int (nI i)), (5, .int (nI cr)), (6, .int v)] [] (lw_w (ww_g X) o K A lf' (nI cr) T') := ww_goto O dd_LA_law_756 (tgt := 815) rfl (ww_sub [0, 1, 2, 3, 4] rfl (kk lf' (nI cr) T' hOK2))
  refine ww_if_ne O dd_LA_law_741 (tgt := 756) rfl (fun _ => hE) (fun h0 => ?_)
  refine ww_aload_n O dd_LA_law_744 3 rfl ?_
  refine ww_iconst O dd_LA_law_745 (v := nI 0) rfl ?_
  refine ww_lald O dd_LA_law_746 0 rfl (by decide) (by decide) (hv (px_c4 hc4 h0)) ?_
  refine ww_iload O dd_LA_law_747 6 rfl ?_
  refine ww_i2l O dd_LA_law_749 ?_
  refine ww_lcmp O dd_LA_law_750 ?_
  exact ww_if_eq O dd_LA_law_751 (tgt := 756) rfl (fun _ => hE) (fun h1 => absurd (lg_cmp_s rfl) h1)
theorem lw_value {X : ww_X} {b Ln : Nat} {xs : Nat → Int32} (Fx : lw_F X b Ln xs) {K : dx_K} (hK : dx_ok K) {A : rr_A} {o i cs ss : Nat} (hi : i + 4 ≤ Ln) (hcs : cs + 1 ≤ 601024) (hss : ss + 6 ≤ 7293034) {lf : Nat → Int64} {cd : Int32} {T : rr_T} (hOK : rr_OK T) (kk : ∀ (lf' : Nat → Int64) (cd' : Int32) (T' : rr_T), rr_OK T' → ww_at X (cs + 1) (ss + 6) 815 (lw_L b (dx_x K) A.1 o i) [] (lw_w (ww_g X) o K A lf' cd' T')) : ww_at X cs ss 759 (lw_L b (dx_x K) A.1 o i) [] (lw_w (ww_g X) o K A lf cd T) := by
  obtain ⟨O, hfl, hR, hn, hN, hX, hbl, hbA, hLn, -⟩ := Fx
  have hsp : rr_O (ww_l X) (ww_D X) (ww_g X) K A o yy_LA_value bb_LA_value 4 [(0, 9, 12, 13)] yy_MO_value bb_MO_value 2 [.int (xs (i + 1))] lf cd T := sp_value (ww_l X) (ww_D X) (ww_g X) hfl K hK A o lf cd T.2.2.2.1 T.2.2.2.2.1 T.1 T.2.1 T.2.2.1 T.2.2.2.2.2.1 T.2.2.2.2.2.2.1 T.2.2.2.2.2.2.2.1 T.2.2.2.2.2.2.2.2.1 T.2.2.2.2.2.2.2.2.2.1 T.2.2.2.2.2.2.2.2.2.2 (xs (i + 1)) hOK
  obtain ⟨cr, lf', v, kr, T', hc4, hk8, hLa, hMo, hv, hOK2⟩ := hsp
  refine ww_aload_n O dd_LA_law_759 1 rfl ?_
  refine ww_aload_n O dd_LA_law_760 0 rfl ?_
  refine ww_iload O dd_LA_law_761 4 rfl ?_
  refine ww_iconst O dd_LA_law_763 (v := nI 1) rfl ?_
  refine ww_iadd O dd_LA_law_764 (v := nI (i + 1)) (nI_add _ 1) ?_
  refine lw_sld O hX hbl hbA (by omega) (by omega) dd_LA_law_765 ?_
  refine ww_aload_n O dd_LA_law_766 3 rfl ?_
  refine ww_eqw (ws' := [] ++ ((rr_o (ww_g X) o lf :: rr_d (ww_g X) K T) ++ rr_m (ww_g X) A cd T)) rfl ?_
  refine wc_callS O hN [] (rr_m (ww_g X) A cd T) hLa lz_104.1 lz_104.2 (by rw [hR]; decide) (by rw [hR]; exact hcs) (by rw [hR]; exact hss) rfl (Nat.le_of_ble_eq_true rfl) dd_LA_law_767 rfl ?_
  refine ww_eqs (st' := [.int (nI cr)]) rfl (ww_eqw (ws' := (rr_o (ww_g X) o lf' :: rr_d (ww_g X) K T') ++ (rr_m (ww_g X) A cd T ++ [])) (by rw [List.append_nil]; rfl) (ww_wid (cs' := cs + 1) (ss' := ss + 6) (Nat.le_refl _) (Nat.le_refl _) ?_))
  refine ww_istore O dd_LA_law_770 (by rw [hn]; decide) rfl (L' := [(0, .ref b), (1, .ref (dx_x K)), (2, .ref A.1), (3, .ref o), (4, .int (nI i)), (5, .int (nI cr))]) rfl ?_
  refine ww_aload_n O dd_LA_law_772 2 rfl ?_
  refine ww_aload_n O dd_LA_law_773 0 rfl ?_
  refine ww_iload O dd_LA_law_774 4 rfl ?_
  refine ww_iconst O dd_LA_law_776 (v := nI 1) rfl ?_
  refine ww_iadd O dd_LA_law_777 (v := nI (i + 1)) (nI_add _ 1) ?_
  refine lw_sld O hX hbl hbA (by omega) (by omega) dd_LA_law_778 ?_
  refine wm_callV O (rr_o (ww_g X) o lf' :: rr_d (ww_g X) K T') [] (ci := 3) hMo lz_106.1 lz_106.2 rfl rfl rfl (by rw [hR]; exact ⟨show kr + 1 ≤ 12 by omega, show 8 + (2 + 11) + 40 * kr ≤ 426 by omega⟩) (by rw [hR]; show cs + 1 + 0 ≤ 601024; omega) (by rw [hR]; show ss + 6 + 0 ≤ 7293034; omega) rfl (Nat.le_of_ble_eq_true rfl) dd_LA_law_779 rfl ?_
  refine ww_eqs (st' := [.int v]) rfl (ww_wid (cs' := cs + 1) (ss' := ss + 6) (Nat.le_refl _) (Nat.le_refl _) ?_)
  refine ww_istore O dd_LA_law_782 (by rw [hn]; decide) rfl (L' := [(0, .ref b), (1, .ref (dx_x K)), (2, .ref A.1), (3, .ref o), (4, .int (nI i)), (5, .int (nI cr)), (6, .int v)]) rfl ?_
  refine ww_aload_n O dd_LA_law_784 2 rfl ?_
  refine wm_callV O (rr_o (ww_g X) o lf' :: rr_d (ww_g X) K T') [] (ci := 3) (rr_thrown (ww_l X) (ww_D X) (ww_g X) A (nI cr) T') lz_61.1 lz_61.2 rfl rfl rfl (by rw [hR]; decide) (by rw [hR]; show cs + 1 + 0 ≤ 601024; omega) (by rw [hR]; show ss + 6 + 0 ≤ 7293034; omega) rfl (Nat.le_of_ble_eq_true rfl) dd_LA_law_785 rfl ?_
  refine ww_eqs (st' := [.int (nI cr)]) rfl (ww_eqw (ws' := lw_w (ww_g X) o K A lf' (nI cr) T') (rr_w2 _ _ _) (ww_wid (cs' := cs + 1) (ss' := ss + 6) (Nat.le_refl _) (Nat.le_refl _) ?_))
  refine ww_iload O dd_LA_law_788 5 rfl ?_
  refine ww_icmp_eq O dd_LA_law_790 (tgt := 795) rfl (fun _ => ?_) (fun h => absurd rfl h)
  refine ww_iload O dd_LA_law_795 5 rfl ?_
  have hE : ww_at X (cs + 1) (ss + 6) 812 [(0, .ref b), (1, .ref (dx_x K)), (2, .ref A.1), (3, .ref o), (4, .int (nI i)), (5, .int (nI cr)), (6, .int v)] [] (lw_w (ww_g X) o K A lf' (nI cr) T') := ww_goto O dd_LA_law_812 (tgt := 815) rfl (ww_sub [0, 1, 2, 3, 4] rfl (kk lf' (nI cr) T' hOK2))
  refine ww_if_ne O dd_LA_law_797 (tgt := 812) rfl (fun _ => hE) (fun h0 => ?_)
  refine ww_aload_n O dd_LA_law_800 3 rfl ?_
  refine ww_iconst O dd_LA_law_801 (v := nI 0) rfl ?_
  refine ww_lald O dd_LA_law_802 0 rfl (by decide) (by decide) (hv (px_c4 hc4 h0)) ?_
  refine ww_iload O dd_LA_law_803 6 rfl ?_
  refine ww_i2l O dd_LA_law_805 ?_
  refine ww_lcmp O dd_LA_law_806 ?_
  exact ww_if_eq O dd_LA_law_807 (tgt := 812) rfl (fun _ => hE) (fun h1 => absurd (lg_cmp_s rfl) h1)
