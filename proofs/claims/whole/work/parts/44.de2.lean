theorem lc_DE_25 : ww_site "DelayedExtents" 25 yy_DE_requireBlock bb_DE_requireBlock 2 none 2 := ⟨List.mem_filter.mpr ⟨List.mem_of_getElem? (i := 184) (by decide +kernel), by decide +kernel⟩, List.mem_filter.mpr ⟨List.mem_of_getElem? (i := 182) (by decide +kernel), by decide +kernel⟩, List.mem_filter.mpr ⟨List.mem_of_getElem? (i := 26) (by decide +kernel), by decide +kernel⟩, by decide, by decide, by decide +kernel⟩
theorem ls_DE_requireBlock_II_V : Cond.static yy_DE_requireBlock ∈ lw_good := List.mem_filter.mpr ⟨List.mem_of_getElem? (i := 183) (by decide +kernel), by decide +kernel⟩
theorem lc_DE_29 : ww_site "DelayedExtents" 29 yy_BF_hasPage bb_BF_hasPage 2 (some .boolean) 1 := ⟨List.mem_filter.mpr ⟨List.mem_of_getElem? (i := 255) (by decide +kernel), by decide +kernel⟩, List.mem_filter.mpr ⟨List.mem_of_getElem? (i := 252) (by decide +kernel), by decide +kernel⟩, List.mem_filter.mpr ⟨List.mem_of_getElem? (i := 29) (by decide +kernel), by decide +kernel⟩, by decide, by decide, by decide +kernel⟩
theorem lx_BF_hasPage_I_Z : ww_virt yy_BF_hasPage := ⟨List.mem_filter.mpr ⟨List.mem_of_getElem? (i := 253) (by decide +kernel), by decide +kernel⟩, List.mem_filter.mpr ⟨List.mem_of_getElem? (i := 254) (by decide +kernel), by decide +kernel⟩⟩
theorem lc_DE_33 : ww_site "DelayedExtents" 33 yy_DE_countPages bb_DE_countPages 3 (some .int) 0 := ⟨List.mem_filter.mpr ⟨List.mem_of_getElem? (i := 112) (by decide +kernel), by decide +kernel⟩, List.mem_filter.mpr ⟨List.mem_of_getElem? (i := 109) (by decide +kernel), by decide +kernel⟩, List.mem_filter.mpr ⟨List.mem_of_getElem? (i := 26) (by decide +kernel), by decide +kernel⟩, by decide, by decide, by decide +kernel⟩
theorem lx_DE_countPages__I : ww_virt yy_DE_countPages := ⟨List.mem_filter.mpr ⟨List.mem_of_getElem? (i := 111) (by decide +kernel), by decide +kernel⟩, List.mem_filter.mpr ⟨List.mem_of_getElem? (i := 0) (by decide +kernel), by decide +kernel⟩⟩
theorem lc_DE_40 : ww_site "DelayedExtents" 40 yy_BF_putPage bb_BF_putPage 3 none 2 := ⟨List.mem_filter.mpr ⟨List.mem_of_getElem? (i := 274) (by decide +kernel), by decide +kernel⟩, List.mem_filter.mpr ⟨List.mem_of_getElem? (i := 271) (by decide +kernel), by decide +kernel⟩, List.mem_filter.mpr ⟨List.mem_of_getElem? (i := 29) (by decide +kernel), by decide +kernel⟩, by decide, by decide, by decide +kernel⟩
theorem lx_BF_putPage_II_V : ww_virt yy_BF_putPage := ⟨List.mem_filter.mpr ⟨List.mem_of_getElem? (i := 272) (by decide +kernel), by decide +kernel⟩, List.mem_filter.mpr ⟨List.mem_of_getElem? (i := 273) (by decide +kernel), by decide +kernel⟩⟩
theorem lc_DE_43 : ww_site "DelayedExtents" 43 yy_DE_isOverbooked bb_DE_isOverbooked 1 (some .boolean) 0 := ⟨List.mem_filter.mpr ⟨List.mem_of_getElem? (i := 278) (by decide +kernel), by decide +kernel⟩, List.mem_filter.mpr ⟨List.mem_of_getElem? (i := 275) (by decide +kernel), by decide +kernel⟩, List.mem_filter.mpr ⟨List.mem_of_getElem? (i := 26) (by decide +kernel), by decide +kernel⟩, by decide, by decide, by decide +kernel⟩
theorem lx_DE_isOverbooked__Z : ww_virt yy_DE_isOverbooked := ⟨List.mem_filter.mpr ⟨List.mem_of_getElem? (i := 277) (by decide +kernel), by decide +kernel⟩, List.mem_filter.mpr ⟨List.mem_of_getElem? (i := 3) (by decide +kernel), by decide +kernel⟩⟩
theorem lc_DE_47 : ww_site "DelayedExtents" 47 yy_BF_dropPage bb_BF_dropPage 2 none 1 := ⟨List.mem_filter.mpr ⟨List.mem_of_getElem? (i := 124) (by decide +kernel), by decide +kernel⟩, List.mem_filter.mpr ⟨List.mem_of_getElem? (i := 281) (by decide +kernel), by decide +kernel⟩, List.mem_filter.mpr ⟨List.mem_of_getElem? (i := 29) (by decide +kernel), by decide +kernel⟩, by decide, by decide, by decide +kernel⟩
theorem lc_DE_54 : ww_site "DelayedExtents" 54 yy_BF_growTo bb_BF_growTo 2 none 1 := ⟨List.mem_filter.mpr ⟨List.mem_of_getElem? (i := 300) (by decide +kernel), by decide +kernel⟩, List.mem_filter.mpr ⟨List.mem_of_getElem? (i := 297) (by decide +kernel), by decide +kernel⟩, List.mem_filter.mpr ⟨List.mem_of_getElem? (i := 29) (by decide +kernel), by decide +kernel⟩, by decide, by decide, by decide +kernel⟩
theorem lx_BF_growTo_I_V : ww_virt yy_BF_growTo := ⟨List.mem_filter.mpr ⟨List.mem_of_getElem? (i := 298) (by decide +kernel), by decide +kernel⟩, List.mem_filter.mpr ⟨List.mem_of_getElem? (i := 299) (by decide +kernel), by decide +kernel⟩⟩
theorem lc_DE_57 : ww_site "DelayedExtents" 57 yy_BF_readsAs bb_BF_readsAs 2 (some .int) 1 := ⟨List.mem_filter.mpr ⟨List.mem_of_getElem? (i := 311) (by decide +kernel), by decide +kernel⟩, List.mem_filter.mpr ⟨List.mem_of_getElem? (i := 308) (by decide +kernel), by decide +kernel⟩, List.mem_filter.mpr ⟨List.mem_of_getElem? (i := 29) (by decide +kernel), by decide +kernel⟩, by decide, by decide, by decide +kernel⟩
theorem lx_BF_readsAs_I_I : ww_virt yy_BF_readsAs := ⟨List.mem_filter.mpr ⟨List.mem_of_getElem? (i := 309) (by decide +kernel), by decide +kernel⟩, List.mem_filter.mpr ⟨List.mem_of_getElem? (i := 310) (by decide +kernel), by decide +kernel⟩⟩
theorem lc_DE_61 : ww_site "DelayedExtents" 61 yy_DE_requireRow bb_DE_requireRow 2 none 2 := ⟨List.mem_filter.mpr ⟨List.mem_of_getElem? (i := 326) (by decide +kernel), by decide +kernel⟩, List.mem_filter.mpr ⟨List.mem_of_getElem? (i := 324) (by decide +kernel), by decide +kernel⟩, List.mem_filter.mpr ⟨List.mem_of_getElem? (i := 26) (by decide +kernel), by decide +kernel⟩, by decide, by decide, by decide +kernel⟩
theorem ls_DE_requireRow_II_V : Cond.static yy_DE_requireRow ∈ lw_good := List.mem_filter.mpr ⟨List.mem_of_getElem? (i := 325) (by decide +kernel), by decide +kernel⟩
theorem lc_DE_81 : ww_site "DelayedExtents" 81 yy_BF_makeHoles bb_BF_makeHoles 5 (some .int) 2 := ⟨List.mem_filter.mpr ⟨List.mem_of_getElem? (i := 412) (by decide +kernel), by decide +kernel⟩, List.mem_filter.mpr ⟨List.mem_of_getElem? (i := 409) (by decide +kernel), by decide +kernel⟩, List.mem_filter.mpr ⟨List.mem_of_getElem? (i := 29) (by decide +kernel), by decide +kernel⟩, by decide, by decide, by decide +kernel⟩
theorem lx_BF_makeHoles_II_I : ww_virt yy_BF_makeHoles := ⟨List.mem_filter.mpr ⟨List.mem_of_getElem? (i := 410) (by decide +kernel), by decide +kernel⟩, List.mem_filter.mpr ⟨List.mem_of_getElem? (i := 411) (by decide +kernel), by decide +kernel⟩⟩
theorem lc_DE_90 : ww_site "DelayedExtents" 90 yy_BF_setSize bb_BF_setSize 2 none 1 := ⟨List.mem_filter.mpr ⟨List.mem_of_getElem? (i := 423) (by decide +kernel), by decide +kernel⟩, List.mem_filter.mpr ⟨List.mem_of_getElem? (i := 420) (by decide +kernel), by decide +kernel⟩, List.mem_filter.mpr ⟨List.mem_of_getElem? (i := 29) (by decide +kernel), by decide +kernel⟩, by decide, by decide, by decide +kernel⟩
theorem lx_BF_setSize_I_V : ww_virt yy_BF_setSize := ⟨List.mem_filter.mpr ⟨List.mem_of_getElem? (i := 421) (by decide +kernel), by decide +kernel⟩, List.mem_filter.mpr ⟨List.mem_of_getElem? (i := 422) (by decide +kernel), by decide +kernel⟩⟩
theorem lc_DE_74 : ww_site "DelayedExtents" 74 yy_BF_mapHoles bb_BF_mapHoles 6 none 3 := ⟨List.mem_filter.mpr ⟨List.mem_of_getElem? (i := 354) (by decide +kernel), by decide +kernel⟩, List.mem_filter.mpr ⟨List.mem_of_getElem? (i := 351) (by decide +kernel), by decide +kernel⟩, List.mem_filter.mpr ⟨List.mem_of_getElem? (i := 29) (by decide +kernel), by decide +kernel⟩, by decide, by decide, by decide +kernel⟩
theorem lx_BF_mapHoles_IIZ_V : ww_virt yy_BF_mapHoles := ⟨List.mem_filter.mpr ⟨List.mem_of_getElem? (i := 352) (by decide +kernel), by decide +kernel⟩, List.mem_filter.mpr ⟨List.mem_of_getElem? (i := 353) (by decide +kernel), by decide +kernel⟩⟩
theorem lc_DE_93 : ww_site "DelayedExtents" 93 yy_BF_writePages bb_BF_writePages 3 (some .int) 0 := ⟨List.mem_filter.mpr ⟨List.mem_of_getElem? (i := 434) (by decide +kernel), by decide +kernel⟩, List.mem_filter.mpr ⟨List.mem_of_getElem? (i := 431) (by decide +kernel), by decide +kernel⟩, List.mem_filter.mpr ⟨List.mem_of_getElem? (i := 29) (by decide +kernel), by decide +kernel⟩, by decide, by decide, by decide +kernel⟩
theorem lx_BF_writePages__I : ww_virt yy_BF_writePages := ⟨List.mem_filter.mpr ⟨List.mem_of_getElem? (i := 432) (by decide +kernel), by decide +kernel⟩, List.mem_filter.mpr ⟨List.mem_of_getElem? (i := 433) (by decide +kernel), by decide +kernel⟩⟩
theorem lc_DE_64 : ww_site "DelayedExtents" 64 yy_BF_countHoles bb_BF_countHoles 5 (some .int) 2 := ⟨List.mem_filter.mpr ⟨List.mem_of_getElem? (i := 136) (by decide +kernel), by decide +kernel⟩, List.mem_filter.mpr ⟨List.mem_of_getElem? (i := 342) (by decide +kernel), by decide +kernel⟩, List.mem_filter.mpr ⟨List.mem_of_getElem? (i := 29) (by decide +kernel), by decide +kernel⟩, by decide, by decide, by decide +kernel⟩
theorem lf_DE_10 : Cond.fieldLink "DelayedExtents" 10 "DelayedExtents" "volume" "LDelayedExtents$Volume;" ∈ lw_good := List.mem_filter.mpr ⟨List.mem_of_getElem? (i := 98) (by decide +kernel), by decide +kernel⟩
theorem lc_DE_68 : ww_site "DelayedExtents" 68 yy_VO_countUntaken bb_VO_countUntaken 3 (some .int) 0 := ⟨List.mem_filter.mpr ⟨List.mem_of_getElem? (i := 346) (by decide +kernel), by decide +kernel⟩, List.mem_filter.mpr ⟨List.mem_of_getElem? (i := 343) (by decide +kernel), by decide +kernel⟩, List.mem_filter.mpr ⟨List.mem_of_getElem? (i := 27) (by decide +kernel), by decide +kernel⟩, by decide, by decide, by decide +kernel⟩
theorem lx_VO_countUntaken__I : ww_virt yy_VO_countUntaken := ⟨List.mem_filter.mpr ⟨List.mem_of_getElem? (i := 344) (by decide +kernel), by decide +kernel⟩, List.mem_filter.mpr ⟨List.mem_of_getElem? (i := 345) (by decide +kernel), by decide +kernel⟩⟩
theorem lc_DE_71 : ww_site "DelayedExtents" 71 yy_BF_noteHoles bb_BF_noteHoles 2 none 0 := ⟨List.mem_filter.mpr ⟨List.mem_of_getElem? (i := 350) (by decide +kernel), by decide +kernel⟩, List.mem_filter.mpr ⟨List.mem_of_getElem? (i := 347) (by decide +kernel), by decide +kernel⟩, List.mem_filter.mpr ⟨List.mem_of_getElem? (i := 29) (by decide +kernel), by decide +kernel⟩, by decide, by decide, by decide +kernel⟩
theorem lx_BF_noteHoles__V : ww_virt yy_BF_noteHoles := ⟨List.mem_filter.mpr ⟨List.mem_of_getElem? (i := 348) (by decide +kernel), by decide +kernel⟩, List.mem_filter.mpr ⟨List.mem_of_getElem? (i := 349) (by decide +kernel), by decide +kernel⟩⟩
theorem lc_DE_78 : ww_site "DelayedExtents" 78 yy_BF_restoreHoles bb_BF_restoreHoles 2 none 0 := ⟨List.mem_filter.mpr ⟨List.mem_of_getElem? (i := 393) (by decide +kernel), by decide +kernel⟩, List.mem_filter.mpr ⟨List.mem_of_getElem? (i := 390) (by decide +kernel), by decide +kernel⟩, List.mem_filter.mpr ⟨List.mem_of_getElem? (i := 29) (by decide +kernel), by decide +kernel⟩, by decide, by decide, by decide +kernel⟩
theorem lx_BF_restoreHoles__V : ww_virt yy_BF_restoreHoles := ⟨List.mem_filter.mpr ⟨List.mem_of_getElem? (i := 391) (by decide +kernel), by decide +kernel⟩, List.mem_filter.mpr ⟨List.mem_of_getElem? (i := 392) (by decide +kernel), by decide +kernel⟩⟩
theorem lc_DE_130 : ww_site "DelayedExtents" 130 yy_DE_requirePlace bb_DE_requirePlace 1 none 1 := ⟨List.mem_filter.mpr ⟨List.mem_of_getElem? (i := 483) (by decide +kernel), by decide +kernel⟩, List.mem_filter.mpr ⟨List.mem_of_getElem? (i := 481) (by decide +kernel), by decide +kernel⟩, List.mem_filter.mpr ⟨List.mem_of_getElem? (i := 26) (by decide +kernel), by decide +kernel⟩, by decide, by decide, by decide +kernel⟩
theorem ls_DE_requirePlace_I_V : Cond.static yy_DE_requirePlace ∈ lw_good := List.mem_filter.mpr ⟨List.mem_of_getElem? (i := 482) (by decide +kernel), by decide +kernel⟩
theorem lc_DE_133 : ww_site "DelayedExtents" 133 yy_VO_ownerOf bb_VO_ownerOf 2 (some .int) 1 := ⟨List.mem_filter.mpr ⟨List.mem_of_getElem? (i := 487) (by decide +kernel), by decide +kernel⟩, List.mem_filter.mpr ⟨List.mem_of_getElem? (i := 484) (by decide +kernel), by decide +kernel⟩, List.mem_filter.mpr ⟨List.mem_of_getElem? (i := 27) (by decide +kernel), by decide +kernel⟩, by decide, by decide, by decide +kernel⟩
theorem lx_VO_ownerOf_I_I : ww_virt yy_VO_ownerOf := ⟨List.mem_filter.mpr ⟨List.mem_of_getElem? (i := 485) (by decide +kernel), by decide +kernel⟩, List.mem_filter.mpr ⟨List.mem_of_getElem? (i := 486) (by decide +kernel), by decide +kernel⟩⟩
theorem lc_DE_136 : ww_site "DelayedExtents" 136 yy_VO_valueAt bb_VO_valueAt 2 (some .int) 1 := ⟨List.mem_filter.mpr ⟨List.mem_of_getElem? (i := 315) (by decide +kernel), by decide +kernel⟩, List.mem_filter.mpr ⟨List.mem_of_getElem? (i := 495) (by decide +kernel), by decide +kernel⟩, List.mem_filter.mpr ⟨List.mem_of_getElem? (i := 27) (by decide +kernel), by decide +kernel⟩, by decide, by decide, by decide +kernel⟩
theorem lc_DE_114 : ww_site "DelayedExtents" 114 yy_BF_size bb_BF_size 1 (some .int) 0 := ⟨List.mem_filter.mpr ⟨List.mem_of_getElem? (i := 473) (by decide +kernel), by decide +kernel⟩, List.mem_filter.mpr ⟨List.mem_of_getElem? (i := 470) (by decide +kernel), by decide +kernel⟩, List.mem_filter.mpr ⟨List.mem_of_getElem? (i := 29) (by decide +kernel), by decide +kernel⟩, by decide, by decide, by decide +kernel⟩
theorem lx_BF_size__I : ww_virt yy_BF_size := ⟨List.mem_filter.mpr ⟨List.mem_of_getElem? (i := 471) (by decide +kernel), by decide +kernel⟩, List.mem_filter.mpr ⟨List.mem_of_getElem? (i := 472) (by decide +kernel), by decide +kernel⟩⟩
theorem lc_DE_99 : ww_site "DelayedExtents" 99 yy_BF_firstBlockOfExtent bb_BF_firstBlockOfExtent 5 (some .int) 1 := ⟨List.mem_filter.mpr ⟨List.mem_of_getElem? (i := 453) (by decide +kernel), by decide +kernel⟩, List.mem_filter.mpr ⟨List.mem_of_getElem? (i := 450) (by decide +kernel), by decide +kernel⟩, List.mem_filter.mpr ⟨List.mem_of_getElem? (i := 29) (by decide +kernel), by decide +kernel⟩, by decide, by decide, by decide +kernel⟩
theorem lx_BF_firstBlockOfExtent_I_I : ww_virt yy_BF_firstBlockOfExtent := ⟨List.mem_filter.mpr ⟨List.mem_of_getElem? (i := 451) (by decide +kernel), by decide +kernel⟩, List.mem_filter.mpr ⟨List.mem_of_getElem? (i := 452) (by decide +kernel), by decide +kernel⟩⟩
theorem lc_DE_105 : ww_site "DelayedExtents" 105 yy_BF_placeOf bb_BF_placeOf 2 (some .int) 1 := ⟨List.mem_filter.mpr ⟨List.mem_of_getElem? (i := 457) (by decide +kernel), by decide +kernel⟩, List.mem_filter.mpr ⟨List.mem_of_getElem? (i := 454) (by decide +kernel), by decide +kernel⟩, List.mem_filter.mpr ⟨List.mem_of_getElem? (i := 29) (by decide +kernel), by decide +kernel⟩, by decide, by decide, by decide +kernel⟩
theorem lx_BF_placeOf_I_I : ww_virt yy_BF_placeOf := ⟨List.mem_filter.mpr ⟨List.mem_of_getElem? (i := 455) (by decide +kernel), by decide +kernel⟩, List.mem_filter.mpr ⟨List.mem_of_getElem? (i := 456) (by decide +kernel), by decide +kernel⟩⟩
theorem lc_DE_108 : ww_site "DelayedExtents" 108 yy_BF_extentLength bb_BF_extentLength 4 (some .int) 1 := ⟨List.mem_filter.mpr ⟨List.mem_of_getElem? (i := 148) (by decide +kernel), by decide +kernel⟩, List.mem_filter.mpr ⟨List.mem_of_getElem? (i := 458) (by decide +kernel), by decide +kernel⟩, List.mem_filter.mpr ⟨List.mem_of_getElem? (i := 29) (by decide +kernel), by decide +kernel⟩, by decide, by decide, by decide +kernel⟩
theorem lc_DE_111 : ww_site "DelayedExtents" 111 yy_BF_isWritten bb_BF_isWritten 2 (some .boolean) 1 := ⟨List.mem_filter.mpr ⟨List.mem_of_getElem? (i := 462) (by decide +kernel), by decide +kernel⟩, List.mem_filter.mpr ⟨List.mem_of_getElem? (i := 459) (by decide +kernel), by decide +kernel⟩, List.mem_filter.mpr ⟨List.mem_of_getElem? (i := 29) (by decide +kernel), by decide +kernel⟩, by decide, by decide, by decide +kernel⟩
theorem lx_BF_isWritten_I_Z : ww_virt yy_BF_isWritten := ⟨List.mem_filter.mpr ⟨List.mem_of_getElem? (i := 460) (by decide +kernel), by decide +kernel⟩, List.mem_filter.mpr ⟨List.mem_of_getElem? (i := 461) (by decide +kernel), by decide +kernel⟩⟩
theorem lc_DE_96 : ww_site "DelayedExtents" 96 yy_BF_dropPages bb_BF_dropPages 2 none 0 := ⟨List.mem_filter.mpr ⟨List.mem_of_getElem? (i := 120) (by decide +kernel), by decide +kernel⟩, List.mem_filter.mpr ⟨List.mem_of_getElem? (i := 117) (by decide +kernel), by decide +kernel⟩, List.mem_filter.mpr ⟨List.mem_of_getElem? (i := 29) (by decide +kernel), by decide +kernel⟩, by decide, by decide, by decide +kernel⟩
theorem lx_BF_dropPages__V : ww_virt yy_BF_dropPages := ⟨List.mem_filter.mpr ⟨List.mem_of_getElem? (i := 118) (by decide +kernel), by decide +kernel⟩, List.mem_filter.mpr ⟨List.mem_of_getElem? (i := 119) (by decide +kernel), by decide +kernel⟩⟩
set_option maxRecDepth 4000 in
theorem ce_DE_write_f (l : Launch) (D : va_G) (g : Nat → ClassId) (K : dx_K) (ow : Nat → Int32) (vl : Nat → Int32) (S : Nat → dx_S) (x : Int32) (y : Int32) (z : Int32) (hfl : l.flags = pinnedFlags ++ [noTraceFlag]) (hK : dx_ok K) (hbad : px_nf x 3 = true) : wt_ct l D g yy_DE_write bb_DE_write 6 none (wt_rm 8) [.ref (dx_x K), .int x, .int y, .int z] (dx_w g K ow vl S) "java/lang/IndexOutOfBoundsException" (dx_w g K ow vl S) := by
  refine wt_start (by decide +kernel) rfl (Nat.le_of_ble_eq_true rfl) (L0 := [(0, .ref (dx_x K)), (1, .int x), (2, .int y), (3, .int z)]) rfl ?_
  intro X O hl hD hg hR hn hh F
  subst hl hD hg
  refine ww_iload_n O dd_DE_write_0 1 rfl ?_
  refine ww_iload_n O dd_DE_write_1 2 rfl ?_
  exact dx_throwS O (ce_DE_reqBlock_f _ _ _ x y hfl hbad) lc_DE_25 ls_DE_requireBlock_II_V hh (by rw [hR]; decide) (by rw [hR]; decide) (by rw [hR]; decide) rfl (Nat.le_of_ble_eq_true rfl) dd_DE_write_2 rfl F
set_option maxRecDepth 4000 in
theorem ce_DE_write_b (l : Launch) (D : va_G) (g : Nat → ClassId) (K : dx_K) (ow : Nat → Int32) (vl : Nat → Int32) (S : Nat → dx_S) (f : Nat) (y : Int32) (z : Int32) (hfl : l.flags = pinnedFlags ++ [noTraceFlag]) (hK : dx_ok K) (hf : f < 4) (hbad : px_nf y 59 = true) : wt_ct l D g yy_DE_write bb_DE_write 6 none (wt_rm 8) [.ref (dx_x K), .int (nI f), .int y, .int z] (dx_w g K ow vl S) "java/lang/IndexOutOfBoundsException" (dx_w g K ow vl S) := by
  refine wt_start (by decide +kernel) rfl (Nat.le_of_ble_eq_true rfl) (L0 := [(0, .ref (dx_x K)), (1, .int (nI f)), (2, .int y), (3, .int z)]) rfl ?_
  intro X O hl hD hg hR hn hh F
  subst hl hD hg
  refine ww_iload_n O dd_DE_write_0 1 rfl ?_
  refine ww_iload_n O dd_DE_write_1 2 rfl ?_
  exact dx_throwS O (ce_DE_reqBlock_b _ _ _ f y hfl (by omega) hbad) lc_DE_25 ls_DE_requireBlock_II_V hh (by rw [hR]; decide) (by rw [hR]; decide) (by rw [hR]; decide) rfl (Nat.le_of_ble_eq_true rfl) dd_DE_write_2 rfl F
set_option maxRecDepth 4000 in
theorem ce_DE_write_full (l : Launch) (D : va_G) (g : Nat → ClassId) (K : dx_K) (ow : Nat → Int32) (vl : Nat → Int32) (S : Nat → dx_S) (f : Nat) (b : Nat) (z : Int32) (hfl : l.flags = pinnedFlags ++ [noTraceFlag]) (hK : dx_ok K) (hf : f < 4) (hb : b < 60) (h01 : (S f).2.2.1 b = 0 ∨ (S f).2.2.1 b = 1) (hpg : (S f).2.2.1 b = 0) (h24 : 24 ≤ dx_pp S) : wt_ct l D g yy_DE_write bb_DE_write 6 none (wt_rm 8) [.ref (dx_x K), .int (nI f), .int (nI b), .int z] (dx_w g K ow vl S) "java/lang/IllegalStateException" (dx_w g K ow vl S) := by
  refine wt_start (by decide +kernel) rfl (Nat.le_of_ble_eq_true rfl) (L0 := [(0, .ref (dx_x K)), (1, .int (nI f)), (2, .int (nI b)), (3, .int z)]) rfl ?_
  intro X O hl hD hg hR hn hh F
  subst hl hD hg
  have hpp := dx_pp_le S
  refine ww_iload_n O dd_DE_write_0 1 rfl ?_
  refine ww_iload_n O dd_DE_write_1 2 rfl ?_
  refine dx_callS O (cc_DE_requireBlock _ _ _ f b (by omega) (by omega)) lc_DE_25 ls_DE_requireBlock_II_V (by rw [hR]; decide) (by rw [hR]; decide) (by rw [hR]; decide) rfl (Nat.le_of_ble_eq_true rfl) dd_DE_write_2 rfl ?_
  refine ww_aload_n O dd_DE_write_5 0 rfl ?_
  refine ww_get O ci_DE rfl 1 (by decide) lf_DE_18 rfl dd_DE_write_6 0 rfl rfl ?_
  refine ww_iload_n O dd_DE_write_9 1 rfl ?_
  refine ww_aald O dd_DE_write_10 4 rfl (by omega) (by decide) (hK f (by omega)) ?_
  refine ww_astore O dd_DE_write_11 (by rw [hn]; decide) rfl (L' := [(0, .ref (dx_x K)), (1, .int (nI f)), (2, .int (nI b)), (3, .int z), (4, .ref ((dx_ad K f).1))]) rfl ?_
  refine ww_aload O dd_DE_write_13 4 rfl ?_
  refine ww_iload_n O dd_DE_write_15 2 rfl ?_
  refine dx_callF (K := K) (f := f) O (by omega) (s := ((S f).1, (S f).2.1, (S f).2.2.1, (S f).2.2.2.1, (S f).2.2.2.2.1, (S f).2.2.2.2.2)) (s' := (((S f).1), ((S f).2.1), ((S f).2.2.1), ((S f).2.2.2.1), ((S f).2.2.2.2.1), ((S f).2.2.2.2.2))) (ow := ow) (vl := vl) (ow' := ow) (vl' := vl) (cc_BF_hasPage _ _ _ ((dx_ad K f).1) (dx_v K) (60 * f) ((dx_ad K f).2.1) ((dx_ad K f).2.2.1) ((dx_ad K f).2.2.2.1) ((dx_ad K f).2.2.2.2.1) ((dx_ad K f).2.2.2.2.2) (dx_vo K) (dx_vv K) ((S f).2.2.2.2.2) ((S f).1) ((S f).2.1) ((S f).2.2.1) ((S f).2.2.2.1) ((S f).2.2.2.2.1) ow vl b (by omega) (dx_wr h01)) rfl (S' := S) (dx_up_id S f) lc_DE_29 lx_BF_hasPage_I_Z rfl (by rw [hR]; decide) (by rw [hR]; decide) (by rw [hR]; decide) rfl (Nat.le_of_ble_eq_true rfl) dd_DE_write_16 rfl ?_
  refine ww_if_ne O dd_DE_write_19 (tgt := 26) rfl (fun h19 => ?_) (fun h19 => ?_)
  · exact absurd hpg h19
  · refine ww_iconst O dd_DE_write_22 (v := nI 1) rfl ?_
    refine ww_goto O dd_DE_write_23 (tgt := 27) rfl ?_
    refine ww_istore O dd_DE_write_27 (by rw [hn]; decide) rfl (L' := [(0, .ref (dx_x K)), (1, .int (nI f)), (2, .int (nI b)), (3, .int z), (4, .ref ((dx_ad K f).1)), (5, .int (nI 1))]) rfl ?_
    refine ww_iload O dd_DE_write_29 5 rfl ?_
    refine ww_if_eqN O dd_DE_write_31 (tgt := 51) rfl (by omega) (fun h31 => ?_) (fun h31 => ?_)
    · exfalso; omega
    · refine ww_aload_n O dd_DE_write_34 0 rfl ?_
      refine dx_callE (K := K) O (cc_DE_countPages _ _ _ K ow vl S hK) lc_DE_33 lx_DE_countPages__I rfl (by rw [hR]; decide) (by rw [hR]; decide) (by rw [hR]; decide) rfl (Nat.le_of_ble_eq_true rfl) dd_DE_write_35 rfl ?_
      refine ww_bipush O dd_DE_write_38 (v := nI 24) rfl ?_
      refine ww_icmp_ltN O dd_DE_write_40 (tgt := 51) rfl (by omega) (by omega) (fun h40 => ?_) (fun h40 => ?_)
      · exfalso; omega
      · exact wt_newF O hfl hh le_DE_39 (by decide +kernel) (by decide +kernel) lk_DE_37.1 lk_DE_37.2.1 lk_DE_37.2.2 (by rw [hR]; decide) (by rw [hR]; exact Nat.le_of_ble_eq_true rfl) (by rw [hR]; decide) (by rw [hR]; decide) dd_DE_write_43 dd_DE_write_46 dd_DE_write_47 dd_DE_write_50 F
set_option maxRecDepth 4000 in
theorem ce_DE_write_over (l : Launch) (D : va_G) (g : Nat → ClassId) (K : dx_K) (ow : Nat → Int32) (vl : Nat → Int32) (S : Nat → dx_S) (f : Nat) (b : Nat) (z : Int32) (hfl : l.flags = pinnedFlags ++ [noTraceFlag]) (hK : dx_ok K) (hf : f < 4) (hb : b < 60) (hr : ∀ j, j < 4 → px_rng (S j).1 0 60) (h01 : (S f).2.2.1 b = 0 ∨ (S f).2.2.1 b = 1) (hpg : (S f).2.2.1 b = 0) (h24 : ¬ 24 ≤ dx_pp S) (hov : ¬ dx_rs (dx_up S f ((S f).1, (S f).2.1, upd (S f).2.2.1 b (nI 1), upd (S f).2.2.2.1 b z, (S f).2.2.2.2.1, (S f).2.2.2.2.2)) + dx_mt (dx_up S f ((S f).1, (S f).2.1, upd (S f).2.2.1 b (nI 1), upd (S f).2.2.2.1 b z, (S f).2.2.2.2.1, (S f).2.2.2.2.2)) ≤ 80) : wt_ct l D g yy_DE_write bb_DE_write 6 none (wt_rm 8) [.ref (dx_x K), .int (nI f), .int (nI b), .int z] (dx_w g K ow vl S) "java/lang/UnsupportedOperationException" (dx_w g K ow vl (dx_up S f ((S f).1, (S f).2.1, upd (upd (S f).2.2.1 b (nI 1)) b (nI 0), upd (S f).2.2.2.1 b z, (S f).2.2.2.2.1, (S f).2.2.2.2.2))) := by
  refine wt_start (by decide +kernel) rfl (Nat.le_of_ble_eq_true rfl) (L0 := [(0, .ref (dx_x K)), (1, .int (nI f)), (2, .int (nI b)), (3, .int z)]) rfl ?_
  intro X O hl hD hg hR hn hh F
  subst hl hD hg
  have hpp := dx_pp_le S
  refine ww_iload_n O dd_DE_write_0 1 rfl ?_
  refine ww_iload_n O dd_DE_write_1 2 rfl ?_
  refine dx_callS O (cc_DE_requireBlock _ _ _ f b (by omega) (by omega)) lc_DE_25 ls_DE_requireBlock_II_V (by rw [hR]; decide) (by rw [hR]; decide) (by rw [hR]; decide) rfl (Nat.le_of_ble_eq_true rfl) dd_DE_write_2 rfl ?_
  refine ww_aload_n O dd_DE_write_5 0 rfl ?_
  refine ww_get O ci_DE rfl 1 (by decide) lf_DE_18 rfl dd_DE_write_6 0 rfl rfl ?_
  refine ww_iload_n O dd_DE_write_9 1 rfl ?_
  refine ww_aald O dd_DE_write_10 4 rfl (by omega) (by decide) (hK f (by omega)) ?_
  refine ww_astore O dd_DE_write_11 (by rw [hn]; decide) rfl (L' := [(0, .ref (dx_x K)), (1, .int (nI f)), (2, .int (nI b)), (3, .int z), (4, .ref ((dx_ad K f).1))]) rfl ?_
  refine ww_aload O dd_DE_write_13 4 rfl ?_
  refine ww_iload_n O dd_DE_write_15 2 rfl ?_
  refine dx_callF (K := K) (f := f) O (by omega) (s := ((S f).1, (S f).2.1, (S f).2.2.1, (S f).2.2.2.1, (S f).2.2.2.2.1, (S f).2.2.2.2.2)) (s' := (((S f).1), ((S f).2.1), ((S f).2.2.1), ((S f).2.2.2.1), ((S f).2.2.2.2.1), ((S f).2.2.2.2.2))) (ow := ow) (vl := vl) (ow' := ow) (vl' := vl) (cc_BF_hasPage _ _ _ ((dx_ad K f).1) (dx_v K) (60 * f) ((dx_ad K f).2.1) ((dx_ad K f).2.2.1) ((dx_ad K f).2.2.2.1) ((dx_ad K f).2.2.2.2.1) ((dx_ad K f).2.2.2.2.2) (dx_vo K) (dx_vv K) ((S f).2.2.2.2.2) ((S f).1) ((S f).2.1) ((S f).2.2.1) ((S f).2.2.2.1) ((S f).2.2.2.2.1) ow vl b (by omega) (dx_wr h01)) rfl (S' := S) (dx_up_id S f) lc_DE_29 lx_BF_hasPage_I_Z rfl (by rw [hR]; decide) (by rw [hR]; decide) (by rw [hR]; decide) rfl (Nat.le_of_ble_eq_true rfl) dd_DE_write_16 rfl ?_
  refine ww_if_ne O dd_DE_write_19 (tgt := 26) rfl (fun h19 => ?_) (fun h19 => ?_)
  · exact absurd hpg h19
  · refine ww_iconst O dd_DE_write_22 (v := nI 1) rfl ?_
    refine ww_goto O dd_DE_write_23 (tgt := 27) rfl ?_
    refine ww_istore O dd_DE_write_27 (by rw [hn]; decide) rfl (L' := [(0, .ref (dx_x K)), (1, .int (nI f)), (2, .int (nI b)), (3, .int z), (4, .ref ((dx_ad K f).1)), (5, .int (nI 1))]) rfl ?_
    refine ww_iload O dd_DE_write_29 5 rfl ?_
    refine ww_if_eqN O dd_DE_write_31 (tgt := 51) rfl (by omega) (fun h31 => ?_) (fun h31 => ?_)
    · exfalso; omega
    · refine ww_aload_n O dd_DE_write_34 0 rfl ?_
      refine dx_callE (K := K) O (cc_DE_countPages _ _ _ K ow vl S hK) lc_DE_33 lx_DE_countPages__I rfl (by rw [hR]; decide) (by rw [hR]; decide) (by rw [hR]; decide) rfl (Nat.le_of_ble_eq_true rfl) dd_DE_write_35 rfl ?_
      refine ww_bipush O dd_DE_write_38 (v := nI 24) rfl ?_
      refine ww_icmp_ltN O dd_DE_write_40 (tgt := 51) rfl (by omega) (by omega) (fun h40 => ?_) (fun h40 => ?_)
      · refine ww_aload O dd_DE_write_51 4 rfl ?_
        refine ww_iload_n O dd_DE_write_53 2 rfl ?_
        refine ww_iload_n O dd_DE_write_54 3 rfl ?_
        refine dx_callF (K := K) (f := f) O (by omega) (s := ((S f).1, (S f).2.1, (S f).2.2.1, (S f).2.2.2.1, (S f).2.2.2.2.1, (S f).2.2.2.2.2)) (s' := (((S f).1), ((S f).2.1), upd ((S f).2.2.1) b (nI 1), upd ((S f).2.2.2.1) b z, ((S f).2.2.2.2.1), ((S f).2.2.2.2.2))) (ow := ow) (vl := vl) (ow' := ow) (vl' := vl) (cc_BF_putPage _ _ _ ((dx_ad K f).1) (dx_v K) (60 * f) ((dx_ad K f).2.1) ((dx_ad K f).2.2.1) ((dx_ad K f).2.2.2.1) ((dx_ad K f).2.2.2.2.1) ((dx_ad K f).2.2.2.2.2) (dx_vo K) (dx_vv K) ((S f).2.2.2.2.2) ((S f).1) ((S f).2.1) ((S f).2.2.1) ((S f).2.2.2.1) ((S f).2.2.2.2.1) ow vl b z (by omega)) rfl (S' := dx_up S f (((S f).1), ((S f).2.1), upd ((S f).2.2.1) b (nI 1), upd ((S f).2.2.2.1) b z, ((S f).2.2.2.2.1), ((S f).2.2.2.2.2))) rfl lc_DE_40 lx_BF_putPage_II_V rfl (by rw [hR]; decide) (by rw [hR]; decide) (by rw [hR]; decide) rfl (Nat.le_of_ble_eq_true rfl) dd_DE_write_55 rfl ?_
        refine ww_iload O dd_DE_write_58 5 rfl ?_
        refine ww_if_eqN O dd_DE_write_60 (tgt := 84) rfl (by omega) (fun h60 => ?_) (fun h60 => ?_)
        · exfalso; omega
        · refine ww_aload_n O dd_DE_write_63 0 rfl ?_
          refine dx_callE (K := K) O (cc_DE_isOverbooked _ _ _ K ow vl (dx_up S f (((S f).1), ((S f).2.1), upd ((S f).2.2.1) b (nI 1), upd ((S f).2.2.2.1) b z, ((S f).2.2.2.2.1), ((S f).2.2.2.2.2))) hK (dx_rng hr (hr f hf))) lc_DE_43 lx_DE_isOverbooked__Z rfl (by rw [hR]; decide) (by rw [hR]; decide) (by rw [hR]; decide) rfl (Nat.le_of_ble_eq_true rfl) dd_DE_write_64 rfl ?_
          refine ww_if_eqB O dd_DE_write_67 (tgt := 84) rfl (fun h67 => ?_) (fun h67 => ?_)
          · exact absurd (by simpa using h67) hov
          · refine ww_aload O dd_DE_write_70 4 rfl ?_
            refine ww_iload_n O dd_DE_write_72 2 rfl ?_
            refine dx_callF (K := K) (f := f) O (by omega) (s := (((S f).1), ((S f).2.1), upd ((S f).2.2.1) b (nI 1), upd ((S f).2.2.2.1) b z, ((S f).2.2.2.2.1), ((S f).2.2.2.2.2))) (s' := (((S f).1), ((S f).2.1), upd (upd ((S f).2.2.1) b (nI 1)) b (nI 0), (upd ((S f).2.2.2.1) b z), ((S f).2.2.2.2.1), ((S f).2.2.2.2.2))) (ow := ow) (vl := vl) (ow' := ow) (vl' := vl) (cc_BF_dropPage _ _ _ ((dx_ad K f).1) (dx_v K) (60 * f) ((dx_ad K f).2.1) ((dx_ad K f).2.2.1) ((dx_ad K f).2.2.2.1) ((dx_ad K f).2.2.2.2.1) ((dx_ad K f).2.2.2.2.2) (dx_vo K) (dx_vv K) ((S f).2.2.2.2.2) ((S f).1) ((S f).2.1) (upd ((S f).2.2.1) b (nI 1)) (upd ((S f).2.2.2.1) b z) ((S f).2.2.2.2.1) ow vl b (by omega)) (dx_up_at _ _ _) (S' := dx_up S f (((S f).1), ((S f).2.1), upd (upd ((S f).2.2.1) b (nI 1)) b (nI 0), (upd ((S f).2.2.2.1) b z), ((S f).2.2.2.2.1), ((S f).2.2.2.2.2))) (dx_up_up _ _ _ _) lc_DE_47 lx_BF_dropPage_I_V rfl (by rw [hR]; decide) (by rw [hR]; decide) (by rw [hR]; decide) rfl (Nat.le_of_ble_eq_true rfl) dd_DE_write_73 rfl ?_
            exact wt_newF O hfl hh le_DE_53 (by decide +kernel) (by decide +kernel) lk_DE_51.1 lk_DE_51.2.1 lk_DE_51.2.2 (by rw [hR]; decide) (by rw [hR]; exact Nat.le_of_ble_eq_true rfl) (by rw [hR]; decide) (by rw [hR]; decide) dd_DE_write_76 dd_DE_write_79 dd_DE_write_80 dd_DE_write_83 F
      · exfalso; omega
set_option maxRecDepth 4000 in
theorem cc_DE_write_new (l : Launch) (D : va_G) (g : Nat → ClassId) (K : dx_K) (ow : Nat → Int32) (vl : Nat → Int32) (S : Nat → dx_S) (f : Nat) (b : Nat) (z : Int32) (hK : dx_ok K) (hf : f < 4) (hb : b < 60) (hr : ∀ j, j < 4 → px_rng (S j).1 0 60) (h01 : (S f).2.2.1 b = 0 ∨ (S f).2.2.1 b = 1) (hpg : (S f).2.2.1 b = 0) (h24 : ¬ 24 ≤ dx_pp S) (hov : dx_rs (dx_up S f ((S f).1, (S f).2.1, upd (S f).2.2.1 b (nI 1), upd (S f).2.2.2.1 b z, (S f).2.2.2.2.1, (S f).2.2.2.2.2)) + dx_mt (dx_up S f ((S f).1, (S f).2.1, upd (S f).2.2.1 b (nI 1), upd (S f).2.2.2.1 b z, (S f).2.2.2.2.1, (S f).2.2.2.2.2)) ≤ 80) : ww_ct l D g yy_DE_write bb_DE_write 6 none (ww_rm 7) [.ref (dx_x K), .int (nI f), .int (nI b), .int z] (dx_w g K ow vl S) none (dx_w g K ow vl (dx_up S f ((S f).1, (S f).2.1, upd (S f).2.2.1 b (nI 1), upd (S f).2.2.2.1 b z, (S f).2.2.2.2.1, if (S f).2.2.2.2.2 < nI (b + 1) then nI (b + 1) else (S f).2.2.2.2.2))) := by
  refine ww_start (by decide +kernel) rfl trivial (Nat.le_of_ble_eq_true rfl) (L0 := [(0, .ref (dx_x K)), (1, .int (nI f)), (2, .int (nI b)), (3, .int z)]) rfl ?_
  intro X O hl hD hg hR hn F
  subst hl hD hg
  have hpp := dx_pp_le S
  refine ww_iload_n O dd_DE_write_0 1 rfl ?_
  refine ww_iload_n O dd_DE_write_1 2 rfl ?_
  refine dx_callS O (cc_DE_requireBlock _ _ _ f b (by omega) (by omega)) lc_DE_25 ls_DE_requireBlock_II_V (by rw [hR]; decide) (by rw [hR]; decide) (by rw [hR]; decide) rfl (Nat.le_of_ble_eq_true rfl) dd_DE_write_2 rfl ?_
  refine ww_aload_n O dd_DE_write_5 0 rfl ?_
  refine ww_get O ci_DE rfl 1 (by decide) lf_DE_18 rfl dd_DE_write_6 0 rfl rfl ?_
  refine ww_iload_n O dd_DE_write_9 1 rfl ?_
  refine ww_aald O dd_DE_write_10 4 rfl (by omega) (by decide) (hK f (by omega)) ?_
  refine ww_astore O dd_DE_write_11 (by rw [hn]; decide) rfl (L' := [(0, .ref (dx_x K)), (1, .int (nI f)), (2, .int (nI b)), (3, .int z), (4, .ref ((dx_ad K f).1))]) rfl ?_
  refine ww_aload O dd_DE_write_13 4 rfl ?_
  refine ww_iload_n O dd_DE_write_15 2 rfl ?_
  refine dx_callF (K := K) (f := f) O (by omega) (s := ((S f).1, (S f).2.1, (S f).2.2.1, (S f).2.2.2.1, (S f).2.2.2.2.1, (S f).2.2.2.2.2)) (s' := (((S f).1), ((S f).2.1), ((S f).2.2.1), ((S f).2.2.2.1), ((S f).2.2.2.2.1), ((S f).2.2.2.2.2))) (ow := ow) (vl := vl) (ow' := ow) (vl' := vl) (cc_BF_hasPage _ _ _ ((dx_ad K f).1) (dx_v K) (60 * f) ((dx_ad K f).2.1) ((dx_ad K f).2.2.1) ((dx_ad K f).2.2.2.1) ((dx_ad K f).2.2.2.2.1) ((dx_ad K f).2.2.2.2.2) (dx_vo K) (dx_vv K) ((S f).2.2.2.2.2) ((S f).1) ((S f).2.1) ((S f).2.2.1) ((S f).2.2.2.1) ((S f).2.2.2.2.1) ow vl b (by omega) (dx_wr h01)) rfl (S' := S) (dx_up_id S f) lc_DE_29 lx_BF_hasPage_I_Z rfl (by rw [hR]; decide) (by rw [hR]; decide) (by rw [hR]; decide) rfl (Nat.le_of_ble_eq_true rfl) dd_DE_write_16 rfl ?_
  refine ww_if_ne O dd_DE_write_19 (tgt := 26) rfl (fun h19 => ?_) (fun h19 => ?_)
  · exact absurd hpg h19
  · refine ww_iconst O dd_DE_write_22 (v := nI 1) rfl ?_
    refine ww_goto O dd_DE_write_23 (tgt := 27) rfl ?_
    refine ww_istore O dd_DE_write_27 (by rw [hn]; decide) rfl (L' := [(0, .ref (dx_x K)), (1, .int (nI f)), (2, .int (nI b)), (3, .int z), (4, .ref ((dx_ad K f).1)), (5, .int (nI 1))]) rfl ?_
    refine ww_iload O dd_DE_write_29 5 rfl ?_
    refine ww_if_eqN O dd_DE_write_31 (tgt := 51) rfl (by omega) (fun h31 => ?_) (fun h31 => ?_)
    · exfalso; omega
    · refine ww_aload_n O dd_DE_write_34 0 rfl ?_
      refine dx_callE (K := K) O (cc_DE_countPages _ _ _ K ow vl S hK) lc_DE_33 lx_DE_countPages__I rfl (by rw [hR]; decide) (by rw [hR]; decide) (by rw [hR]; decide) rfl (Nat.le_of_ble_eq_true rfl) dd_DE_write_35 rfl ?_
      refine ww_bipush O dd_DE_write_38 (v := nI 24) rfl ?_
      refine ww_icmp_ltN O dd_DE_write_40 (tgt := 51) rfl (by omega) (by omega) (fun h40 => ?_) (fun h40 => ?_)
      · refine ww_aload O dd_DE_write_51 4 rfl ?_
        refine ww_iload_n O dd_DE_write_53 2 rfl ?_
        refine ww_iload_n O dd_DE_write_54 3 rfl ?_
        refine dx_callF (K := K) (f := f) O (by omega) (s := ((S f).1, (S f).2.1, (S f).2.2.1, (S f).2.2.2.1, (S f).2.2.2.2.1, (S f).2.2.2.2.2)) (s' := (((S f).1), ((S f).2.1), upd ((S f).2.2.1) b (nI 1), upd ((S f).2.2.2.1) b z, ((S f).2.2.2.2.1), ((S f).2.2.2.2.2))) (ow := ow) (vl := vl) (ow' := ow) (vl' := vl) (cc_BF_putPage _ _ _ ((dx_ad K f).1) (dx_v K) (60 * f) ((dx_ad K f).2.1) ((dx_ad K f).2.2.1) ((dx_ad K f).2.2.2.1) ((dx_ad K f).2.2.2.2.1) ((dx_ad K f).2.2.2.2.2) (dx_vo K) (dx_vv K) ((S f).2.2.2.2.2) ((S f).1) ((S f).2.1) ((S f).2.2.1) ((S f).2.2.2.1) ((S f).2.2.2.2.1) ow vl b z (by omega)) rfl (S' := dx_up S f (((S f).1), ((S f).2.1), upd ((S f).2.2.1) b (nI 1), upd ((S f).2.2.2.1) b z, ((S f).2.2.2.2.1), ((S f).2.2.2.2.2))) rfl lc_DE_40 lx_BF_putPage_II_V rfl (by rw [hR]; decide) (by rw [hR]; decide) (by rw [hR]; decide) rfl (Nat.le_of_ble_eq_true rfl) dd_DE_write_55 rfl ?_
        refine ww_iload O dd_DE_write_58 5 rfl ?_
        refine ww_if_eqN O dd_DE_write_60 (tgt := 84) rfl (by omega) (fun h60 => ?_) (fun h60 => ?_)
        · exfalso; omega
        · refine ww_aload_n O dd_DE_write_63 0 rfl ?_
          refine dx_callE (K := K) O (cc_DE_isOverbooked _ _ _ K ow vl (dx_up S f (((S f).1), ((S f).2.1), upd ((S f).2.2.1) b (nI 1), upd ((S f).2.2.2.1) b z, ((S f).2.2.2.2.1), ((S f).2.2.2.2.2))) hK (dx_rng hr (hr f hf))) lc_DE_43 lx_DE_isOverbooked__Z rfl (by rw [hR]; decide) (by rw [hR]; decide) (by rw [hR]; decide) rfl (Nat.le_of_ble_eq_true rfl) dd_DE_write_64 rfl ?_
          refine ww_if_eqB O dd_DE_write_67 (tgt := 84) rfl (fun h67 => ?_) (fun h67 => ?_)
          · refine ww_aload O dd_DE_write_84 4 rfl ?_
            refine ww_iload_n O dd_DE_write_86 2 rfl ?_
            refine ww_iconst O dd_DE_write_87 (v := nI 1) rfl ?_
            refine ww_iadd O dd_DE_write_88 (v := nI (b + 1)) (nI_add _ _) ?_
            refine dx_callF (K := K) (f := f) O (by omega) (s := (((S f).1), ((S f).2.1), upd ((S f).2.2.1) b (nI 1), upd ((S f).2.2.2.1) b z, ((S f).2.2.2.2.1), ((S f).2.2.2.2.2))) (s' := (((S f).1), ((S f).2.1), (upd ((S f).2.2.1) b (nI 1)), (upd ((S f).2.2.2.1) b z), ((S f).2.2.2.2.1), if ((S f).2.2.2.2.2) < (nI (b + 1)) then (nI (b + 1)) else ((S f).2.2.2.2.2))) (ow := ow) (vl := vl) (ow' := ow) (vl' := vl) (cc_BF_growTo _ _ _ ((dx_ad K f).1) (dx_v K) (60 * f) ((dx_ad K f).2.1) ((dx_ad K f).2.2.1) ((dx_ad K f).2.2.2.1) ((dx_ad K f).2.2.2.2.1) ((dx_ad K f).2.2.2.2.2) (dx_vo K) (dx_vv K) ((S f).2.2.2.2.2) ((S f).1) ((S f).2.1) (upd ((S f).2.2.1) b (nI 1)) (upd ((S f).2.2.2.1) b z) ((S f).2.2.2.2.1) ow vl (nI (b + 1)) ) (dx_up_at _ _ _) (S' := dx_up S f (((S f).1), ((S f).2.1), (upd ((S f).2.2.1) b (nI 1)), (upd ((S f).2.2.2.1) b z), ((S f).2.2.2.2.1), if ((S f).2.2.2.2.2) < (nI (b + 1)) then (nI (b + 1)) else ((S f).2.2.2.2.2))) (dx_up_up _ _ _ _) lc_DE_54 lx_BF_growTo_I_V rfl (by rw [hR]; decide) (by rw [hR]; decide) (by rw [hR]; decide) rfl (Nat.le_of_ble_eq_true rfl) dd_DE_write_89 rfl ?_
            exact F.v dd_DE_write_92
          · exact absurd hov (by simpa using h67)
      · exfalso; omega
set_option maxRecDepth 4000 in
theorem cc_DE_write_old (l : Launch) (D : va_G) (g : Nat → ClassId) (K : dx_K) (ow : Nat → Int32) (vl : Nat → Int32) (S : Nat → dx_S) (f : Nat) (b : Nat) (z : Int32) (hK : dx_ok K) (hf : f < 4) (hb : b < 60) (h01 : (S f).2.2.1 b = 0 ∨ (S f).2.2.1 b = 1) (hpg : ¬ (S f).2.2.1 b = 0) : ww_ct l D g yy_DE_write bb_DE_write 6 none (ww_rm 7) [.ref (dx_x K), .int (nI f), .int (nI b), .int z] (dx_w g K ow vl S) none (dx_w g K ow vl (dx_up S f ((S f).1, (S f).2.1, upd (S f).2.2.1 b (nI 1), upd (S f).2.2.2.1 b z, (S f).2.2.2.2.1, if (S f).2.2.2.2.2 < nI (b + 1) then nI (b + 1) else (S f).2.2.2.2.2))) := by
  refine ww_start (by decide +kernel) rfl trivial (Nat.le_of_ble_eq_true rfl) (L0 := [(0, .ref (dx_x K)), (1, .int (nI f)), (2, .int (nI b)), (3, .int z)]) rfl ?_
  intro X O hl hD hg hR hn F
  subst hl hD hg
  refine ww_iload_n O dd_DE_write_0 1 rfl ?_
  refine ww_iload_n O dd_DE_write_1 2 rfl ?_
  refine dx_callS O (cc_DE_requireBlock _ _ _ f b (by omega) (by omega)) lc_DE_25 ls_DE_requireBlock_II_V (by rw [hR]; decide) (by rw [hR]; decide) (by rw [hR]; decide) rfl (Nat.le_of_ble_eq_true rfl) dd_DE_write_2 rfl ?_
  refine ww_aload_n O dd_DE_write_5 0 rfl ?_
  refine ww_get O ci_DE rfl 1 (by decide) lf_DE_18 rfl dd_DE_write_6 0 rfl rfl ?_
  refine ww_iload_n O dd_DE_write_9 1 rfl ?_
  refine ww_aald O dd_DE_write_10 4 rfl (by omega) (by decide) (hK f (by omega)) ?_
  refine ww_astore O dd_DE_write_11 (by rw [hn]; decide) rfl (L' := [(0, .ref (dx_x K)), (1, .int (nI f)), (2, .int (nI b)), (3, .int z), (4, .ref ((dx_ad K f).1))]) rfl ?_
  refine ww_aload O dd_DE_write_13 4 rfl ?_
  refine ww_iload_n O dd_DE_write_15 2 rfl ?_
  refine dx_callF (K := K) (f := f) O (by omega) (s := ((S f).1, (S f).2.1, (S f).2.2.1, (S f).2.2.2.1, (S f).2.2.2.2.1, (S f).2.2.2.2.2)) (s' := (((S f).1), ((S f).2.1), ((S f).2.2.1), ((S f).2.2.2.1), ((S f).2.2.2.2.1), ((S f).2.2.2.2.2))) (ow := ow) (vl := vl) (ow' := ow) (vl' := vl) (cc_BF_hasPage _ _ _ ((dx_ad K f).1) (dx_v K) (60 * f) ((dx_ad K f).2.1) ((dx_ad K f).2.2.1) ((dx_ad K f).2.2.2.1) ((dx_ad K f).2.2.2.2.1) ((dx_ad K f).2.2.2.2.2) (dx_vo K) (dx_vv K) ((S f).2.2.2.2.2) ((S f).1) ((S f).2.1) ((S f).2.2.1) ((S f).2.2.2.1) ((S f).2.2.2.2.1) ow vl b (by omega) (dx_wr h01)) rfl (S' := S) (dx_up_id S f) lc_DE_29 lx_BF_hasPage_I_Z rfl (by rw [hR]; decide) (by rw [hR]; decide) (by rw [hR]; decide) rfl (Nat.le_of_ble_eq_true rfl) dd_DE_write_16 rfl ?_
  refine ww_if_ne O dd_DE_write_19 (tgt := 26) rfl (fun h19 => ?_) (fun h19 => ?_)
  · refine ww_iconst O dd_DE_write_26 (v := nI 0) rfl ?_
    refine ww_istore O dd_DE_write_27 (by rw [hn]; decide) rfl (L' := [(0, .ref (dx_x K)), (1, .int (nI f)), (2, .int (nI b)), (3, .int z), (4, .ref ((dx_ad K f).1)), (5, .int (nI 0))]) rfl ?_
    refine ww_iload O dd_DE_write_29 5 rfl ?_
    refine ww_if_eqN O dd_DE_write_31 (tgt := 51) rfl (by omega) (fun h31 => ?_) (fun h31 => ?_)
    · refine ww_aload O dd_DE_write_51 4 rfl ?_
      refine ww_iload_n O dd_DE_write_53 2 rfl ?_
      refine ww_iload_n O dd_DE_write_54 3 rfl ?_
      refine dx_callF (K := K) (f := f) O (by omega) (s := ((S f).1, (S f).2.1, (S f).2.2.1, (S f).2.2.2.1, (S f).2.2.2.2.1, (S f).2.2.2.2.2)) (s' := (((S f).1), ((S f).2.1), upd ((S f).2.2.1) b (nI 1), upd ((S f).2.2.2.1) b z, ((S f).2.2.2.2.1), ((S f).2.2.2.2.2))) (ow := ow) (vl := vl) (ow' := ow) (vl' := vl) (cc_BF_putPage _ _ _ ((dx_ad K f).1) (dx_v K) (60 * f) ((dx_ad K f).2.1) ((dx_ad K f).2.2.1) ((dx_ad K f).2.2.2.1) ((dx_ad K f).2.2.2.2.1) ((dx_ad K f).2.2.2.2.2) (dx_vo K) (dx_vv K) ((S f).2.2.2.2.2) ((S f).1) ((S f).2.1) ((S f).2.2.1) ((S f).2.2.2.1) ((S f).2.2.2.2.1) ow vl b z (by omega)) rfl (S' := dx_up S f (((S f).1), ((S f).2.1), upd ((S f).2.2.1) b (nI 1), upd ((S f).2.2.2.1) b z, ((S f).2.2.2.2.1), ((S f).2.2.2.2.2))) rfl lc_DE_40 lx_BF_putPage_II_V rfl (by rw [hR]; decide) (by rw [hR]; decide) (by rw [hR]; decide) rfl (Nat.le_of_ble_eq_true rfl) dd_DE_write_55 rfl ?_
      refine ww_iload O dd_DE_write_58 5 rfl ?_
      refine ww_if_eqN O dd_DE_write_60 (tgt := 84) rfl (by omega) (fun h60 => ?_) (fun h60 => ?_)
      · refine ww_aload O dd_DE_write_84 4 rfl ?_
        refine ww_iload_n O dd_DE_write_86 2 rfl ?_
        refine ww_iconst O dd_DE_write_87 (v := nI 1) rfl ?_
        refine ww_iadd O dd_DE_write_88 (v := nI (b + 1)) (nI_add _ _) ?_
        refine dx_callF (K := K) (f := f) O (by omega) (s := (((S f).1), ((S f).2.1), upd ((S f).2.2.1) b (nI 1), upd ((S f).2.2.2.1) b z, ((S f).2.2.2.2.1), ((S f).2.2.2.2.2))) (s' := (((S f).1), ((S f).2.1), (upd ((S f).2.2.1) b (nI 1)), (upd ((S f).2.2.2.1) b z), ((S f).2.2.2.2.1), if ((S f).2.2.2.2.2) < (nI (b + 1)) then (nI (b + 1)) else ((S f).2.2.2.2.2))) (ow := ow) (vl := vl) (ow' := ow) (vl' := vl) (cc_BF_growTo _ _ _ ((dx_ad K f).1) (dx_v K) (60 * f) ((dx_ad K f).2.1) ((dx_ad K f).2.2.1) ((dx_ad K f).2.2.2.1) ((dx_ad K f).2.2.2.2.1) ((dx_ad K f).2.2.2.2.2) (dx_vo K) (dx_vv K) ((S f).2.2.2.2.2) ((S f).1) ((S f).2.1) (upd ((S f).2.2.1) b (nI 1)) (upd ((S f).2.2.2.1) b z) ((S f).2.2.2.2.1) ow vl (nI (b + 1)) ) (dx_up_at _ _ _) (S' := dx_up S f (((S f).1), ((S f).2.1), (upd ((S f).2.2.1) b (nI 1)), (upd ((S f).2.2.2.1) b z), ((S f).2.2.2.2.1), if ((S f).2.2.2.2.2) < (nI (b + 1)) then (nI (b + 1)) else ((S f).2.2.2.2.2))) (dx_up_up _ _ _ _) lc_DE_54 lx_BF_growTo_I_V rfl (by rw [hR]; decide) (by rw [hR]; decide) (by rw [hR]; decide) rfl (Nat.le_of_ble_eq_true rfl) dd_DE_write_89 rfl ?_
        exact F.v dd_DE_write_92
      · exfalso; omega
    · exfalso; omega
  · exact absurd h19 hpg
set_option maxRecDepth 4000 in
theorem ce_DE_read_f (l : Launch) (D : va_G) (g : Nat → ClassId) (K : dx_K) (ow : Nat → Int32) (vl : Nat → Int32) (S : Nat → dx_S) (x : Int32) (y : Int32) (hfl : l.flags = pinnedFlags ++ [noTraceFlag]) (hK : dx_ok K) (hbad : px_nf x 3 = true) : wt_ct l D g yy_DE_read bb_DE_read 3 (some .int) (wt_rm 8) [.ref (dx_x K), .int x, .int y] (dx_w g K ow vl S) "java/lang/IndexOutOfBoundsException" (dx_w g K ow vl S) := by
  refine wt_start (by decide +kernel) rfl (Nat.le_of_ble_eq_true rfl) (L0 := [(0, .ref (dx_x K)), (1, .int x), (2, .int y)]) rfl ?_
  intro X O hl hD hg hR hn hh F
  subst hl hD hg
  refine ww_iload_n O dd_DE_read_0 1 rfl ?_
  refine ww_iload_n O dd_DE_read_1 2 rfl ?_
  exact dx_throwS O (ce_DE_reqBlock_f _ _ _ x y hfl hbad) lc_DE_25 ls_DE_requireBlock_II_V hh (by rw [hR]; decide) (by rw [hR]; decide) (by rw [hR]; decide) rfl (Nat.le_of_ble_eq_true rfl) dd_DE_read_2 rfl F
set_option maxRecDepth 4000 in
theorem ce_DE_read_b (l : Launch) (D : va_G) (g : Nat → ClassId) (K : dx_K) (ow : Nat → Int32) (vl : Nat → Int32) (S : Nat → dx_S) (f : Nat) (y : Int32) (hfl : l.flags = pinnedFlags ++ [noTraceFlag]) (hK : dx_ok K) (hf : f < 4) (hbad : px_nf y 59 = true) : wt_ct l D g yy_DE_read bb_DE_read 3 (some .int) (wt_rm 8) [.ref (dx_x K), .int (nI f), .int y] (dx_w g K ow vl S) "java/lang/IndexOutOfBoundsException" (dx_w g K ow vl S) := by
  refine wt_start (by decide +kernel) rfl (Nat.le_of_ble_eq_true rfl) (L0 := [(0, .ref (dx_x K)), (1, .int (nI f)), (2, .int y)]) rfl ?_
  intro X O hl hD hg hR hn hh F
  subst hl hD hg
  refine ww_iload_n O dd_DE_read_0 1 rfl ?_
  refine ww_iload_n O dd_DE_read_1 2 rfl ?_
  exact dx_throwS O (ce_DE_reqBlock_b _ _ _ f y hfl (by omega) hbad) lc_DE_25 ls_DE_requireBlock_II_V hh (by rw [hR]; decide) (by rw [hR]; decide) (by rw [hR]; decide) rfl (Nat.le_of_ble_eq_true rfl) dd_DE_read_2 rfl F
set_option maxRecDepth 4000 in
theorem cc_DE_read (l : Launch) (D : va_G) (g : Nat → ClassId) (K : dx_K) (ow : Nat → Int32) (vl : Nat → Int32) (S : Nat → dx_S) (f : Nat) (b : Nat) (hK : dx_ok K) (hf : f < 4) (hb : b < 60) (hr : ∀ j, j < 4 → px_rng (S j).1 0 60) : ww_ct l D g yy_DE_read bb_DE_read 3 (some .int) (ww_rm 3) [.ref (dx_x K), .int (nI f), .int (nI b)] (dx_w g K ow vl S) (some (.int (px_read (S f).1 (S f).2.1 (S f).2.2.1 (S f).2.2.2.1 vl b))) (dx_w g K ow vl S) := by
  refine ww_start (by decide +kernel) rfl rfl (Nat.le_of_ble_eq_true rfl) (L0 := [(0, .ref (dx_x K)), (1, .int (nI f)), (2, .int (nI b))]) rfl ?_
  intro X O hl hD hg hR hn F
  subst hl hD hg
  refine ww_iload_n O dd_DE_read_0 1 rfl ?_
  refine ww_iload_n O dd_DE_read_1 2 rfl ?_
  refine dx_callS O (cc_DE_requireBlock _ _ _ f b (by omega) (by omega)) lc_DE_25 ls_DE_requireBlock_II_V (by rw [hR]; decide) (by rw [hR]; decide) (by rw [hR]; decide) rfl (Nat.le_of_ble_eq_true rfl) dd_DE_read_2 rfl ?_
  refine ww_aload_n O dd_DE_read_5 0 rfl ?_
  refine ww_get O ci_DE rfl 1 (by decide) lf_DE_18 rfl dd_DE_read_6 0 rfl rfl ?_
  refine ww_iload_n O dd_DE_read_9 1 rfl ?_
  refine ww_aald O dd_DE_read_10 4 rfl (by omega) (by decide) (hK f (by omega)) ?_
  refine ww_iload_n O dd_DE_read_11 2 rfl ?_
  refine dx_callF (K := K) (f := f) O (by omega) (s := ((S f).1, (S f).2.1, (S f).2.2.1, (S f).2.2.2.1, (S f).2.2.2.2.1, (S f).2.2.2.2.2)) (s' := (((S f).1), ((S f).2.1), ((S f).2.2.1), ((S f).2.2.2.1), ((S f).2.2.2.2.1), ((S f).2.2.2.2.2))) (ow := ow) (vl := vl) (ow' := ow) (vl' := vl) (cc_BF_readsAs _ _ _ ((dx_ad K f).1) (dx_v K) (60 * f) ((dx_ad K f).2.1) ((dx_ad K f).2.2.1) ((dx_ad K f).2.2.2.1) ((dx_ad K f).2.2.2.2.1) ((dx_ad K f).2.2.2.2.2) (dx_vo K) (dx_vv K) ((S f).2.2.2.2.2) ((S f).1) ((S f).2.1) ((S f).2.2.1) ((S f).2.2.2.1) ((S f).2.2.2.2.1) ow vl b (by omega) (hr f (by omega) b (by omega) (by omega))) rfl (S' := S) (dx_up_id S f) lc_DE_57 lx_BF_readsAs_I_I rfl (by rw [hR]; decide) (by rw [hR]; decide) (by rw [hR]; decide) rfl (Nat.le_of_ble_eq_true rfl) dd_DE_read_12 rfl ?_
  exact F.i dd_DE_read_15
set_option maxRecDepth 4000 in
theorem ce_DE_punch_f (l : Launch) (D : va_G) (g : Nat → ClassId) (K : dx_K) (ow : Nat → Int32) (vl : Nat → Int32) (S : Nat → dx_S) (x : Int32) (y : Int32) (z : Int32) (hfl : l.flags = pinnedFlags ++ [noTraceFlag]) (hK : dx_ok K) (hbad : px_nf x 3 = true) : wt_ct l D g yy_DE_punch bb_DE_punch 4 (some .int) (wt_rm 8) [.ref (dx_x K), .int x, .int y, .int z] (dx_w g K ow vl S) "java/lang/IndexOutOfBoundsException" (dx_w g K ow vl S) := by
  refine wt_start (by decide +kernel) rfl (Nat.le_of_ble_eq_true rfl) (L0 := [(0, .ref (dx_x K)), (1, .int x), (2, .int y), (3, .int z)]) rfl ?_
  intro X O hl hD hg hR hn hh F
  subst hl hD hg
  refine ww_iload_n O dd_DE_punch_0 1 rfl ?_
  refine ww_iload_n O dd_DE_punch_1 2 rfl ?_
  exact dx_throwS O (ce_DE_reqBlock_f _ _ _ x y hfl hbad) lc_DE_25 ls_DE_requireBlock_II_V hh (by rw [hR]; decide) (by rw [hR]; decide) (by rw [hR]; decide) rfl (Nat.le_of_ble_eq_true rfl) dd_DE_punch_2 rfl F
set_option maxRecDepth 4000 in
theorem ce_DE_punch_b (l : Launch) (D : va_G) (g : Nat → ClassId) (K : dx_K) (ow : Nat → Int32) (vl : Nat → Int32) (S : Nat → dx_S) (f : Nat) (y : Int32) (z : Int32) (hfl : l.flags = pinnedFlags ++ [noTraceFlag]) (hK : dx_ok K) (hf : f < 4) (hbad : px_nf y 59 = true) : wt_ct l D g yy_DE_punch bb_DE_punch 4 (some .int) (wt_rm 8) [.ref (dx_x K), .int (nI f), .int y, .int z] (dx_w g K ow vl S) "java/lang/IndexOutOfBoundsException" (dx_w g K ow vl S) := by
  refine wt_start (by decide +kernel) rfl (Nat.le_of_ble_eq_true rfl) (L0 := [(0, .ref (dx_x K)), (1, .int (nI f)), (2, .int y), (3, .int z)]) rfl ?_
  intro X O hl hD hg hR hn hh F
  subst hl hD hg
  refine ww_iload_n O dd_DE_punch_0 1 rfl ?_
  refine ww_iload_n O dd_DE_punch_1 2 rfl ?_
  exact dx_throwS O (ce_DE_reqBlock_b _ _ _ f y hfl (by omega) hbad) lc_DE_25 ls_DE_requireBlock_II_V hh (by rw [hR]; decide) (by rw [hR]; decide) (by rw [hR]; decide) rfl (Nat.le_of_ble_eq_true rfl) dd_DE_punch_2 rfl F
set_option maxRecDepth 4000 in
theorem ce_DE_punch_r (l : Launch) (D : va_G) (g : Nat → ClassId) (K : dx_K) (ow : Nat → Int32) (vl : Nat → Int32) (S : Nat → dx_S) (f : Nat) (b : Nat) (x : Int32) (hfl : l.flags = pinnedFlags ++ [noTraceFlag]) (hK : dx_ok K) (hf : f < 4) (hb : b < 60) (hbad : x < nI 1 ∨ ¬ x ≤ nI (60 - b)) : wt_ct l D g yy_DE_punch bb_DE_punch 4 (some .int) (wt_rm 8) [.ref (dx_x K), .int (nI f), .int (nI b), .int x] (dx_w g K ow vl S) "java/lang/IllegalArgumentException" (dx_w g K ow vl S) := by
  refine wt_start (by decide +kernel) rfl (Nat.le_of_ble_eq_true rfl) (L0 := [(0, .ref (dx_x K)), (1, .int (nI f)), (2, .int (nI b)), (3, .int x)]) rfl ?_
  intro X O hl hD hg hR hn hh F
  subst hl hD hg
  refine ww_iload_n O dd_DE_punch_0 1 rfl ?_
  refine ww_iload_n O dd_DE_punch_1 2 rfl ?_
  refine dx_callS O (cc_DE_requireBlock _ _ _ f b (by omega) (by omega)) lc_DE_25 ls_DE_requireBlock_II_V (by rw [hR]; decide) (by rw [hR]; decide) (by rw [hR]; decide) rfl (Nat.le_of_ble_eq_true rfl) dd_DE_punch_2 rfl ?_
  refine ww_iload_n O dd_DE_punch_5 2 rfl ?_
  refine ww_iload_n O dd_DE_punch_6 3 rfl ?_
  exact dx_throwS O (ce_DE_requireRow _ _ _ b x hfl (by omega) hbad) lc_DE_61 ls_DE_requireRow_II_V hh (by rw [hR]; decide) (by rw [hR]; decide) (by rw [hR]; decide) rfl (Nat.le_of_ble_eq_true rfl) dd_DE_punch_7 rfl F
set_option maxRecDepth 4000 in
theorem cc_DE_punch (l : Launch) (D : va_G) (g : Nat → ClassId) (K : dx_K) (ow : Nat → Int32) (vl : Nat → Int32) (S : Nat → dx_S) (f : Nat) (b : Nat) (n : Nat) (hK : dx_ok K) (hf : f < 4) (hb : b < 60) (hn1 : 0 < n) (hn2 : n ≤ 60 - b) (hr : ∀ j, j < 4 → px_rng (S j).1 0 60) : ww_ct l D g yy_DE_punch bb_DE_punch 4 (some .int) (ww_rm 4) [.ref (dx_x K), .int (nI f), .int (nI b), .int (nI n)] (dx_w g K ow vl S) (some (.int (nI (px_cnt (fun j => !px_hole (S f).1 j) b ((b + n) - b))))) (dx_w g K (px_rel (fun _ => true) (S f).1 ((b + n) - b) b ow) vl (dx_up S f (px_fill (S f).1 b ((b + n) - b) (-1), px_cut (fun j => !px_hole (S f).1 j) (S f).2.1 b ((b + n) - b) (nI 0), px_fill (S f).2.2.1 b ((b + n) - b) (nI 0), (S f).2.2.2.1, (S f).2.2.2.2.1, (S f).2.2.2.2.2))) := by
  refine ww_start (by decide +kernel) rfl rfl (Nat.le_of_ble_eq_true rfl) (L0 := [(0, .ref (dx_x K)), (1, .int (nI f)), (2, .int (nI b)), (3, .int (nI n))]) rfl ?_
  intro X O hl hD hg hR hn F
  subst hl hD hg
  refine ww_iload_n O dd_DE_punch_0 1 rfl ?_
  refine ww_iload_n O dd_DE_punch_1 2 rfl ?_
  refine dx_callS O (cc_DE_requireBlock _ _ _ f b (by omega) (by omega)) lc_DE_25 ls_DE_requireBlock_II_V (by rw [hR]; decide) (by rw [hR]; decide) (by rw [hR]; decide) rfl (Nat.le_of_ble_eq_true rfl) dd_DE_punch_2 rfl ?_
  refine ww_iload_n O dd_DE_punch_5 2 rfl ?_
  refine ww_iload_n O dd_DE_punch_6 3 rfl ?_
  refine dx_callS O (cc_DE_requireRow _ _ _ b n (by omega) (by omega) (by omega)) lc_DE_61 ls_DE_requireRow_II_V (by rw [hR]; decide) (by rw [hR]; decide) (by rw [hR]; decide) rfl (Nat.le_of_ble_eq_true rfl) dd_DE_punch_7 rfl ?_
  refine ww_aload_n O dd_DE_punch_10 0 rfl ?_
  refine ww_get O ci_DE rfl 1 (by decide) lf_DE_18 rfl dd_DE_punch_11 0 rfl rfl ?_
  refine ww_iload_n O dd_DE_punch_14 1 rfl ?_
  refine ww_aald O dd_DE_punch_15 4 rfl (by omega) (by decide) (hK f (by omega)) ?_
  refine ww_iload_n O dd_DE_punch_16 2 rfl ?_
  refine ww_iload_n O dd_DE_punch_17 2 rfl ?_
  refine ww_iload_n O dd_DE_punch_18 3 rfl ?_
  refine ww_iadd O dd_DE_punch_19 (v := nI (b + n)) (nI_add _ _) ?_
  refine dx_callF (K := K) (f := f) O (by omega) (s := ((S f).1, (S f).2.1, (S f).2.2.1, (S f).2.2.2.1, (S f).2.2.2.2.1, (S f).2.2.2.2.2)) (s' := (px_fill ((S f).1) b ((b + n) - b) (-1), px_cut (fun j => !px_hole ((S f).1) j) ((S f).2.1) b ((b + n) - b) (nI 0), px_fill ((S f).2.2.1) b ((b + n) - b) (nI 0), ((S f).2.2.2.1), ((S f).2.2.2.2.1), ((S f).2.2.2.2.2))) (ow := ow) (vl := vl) (ow' := px_rel (fun _ => true) ((S f).1) ((b + n) - b) b ow) (vl' := vl) (cc_BF_makeHoles _ _ _ ((dx_ad K f).1) (dx_v K) (60 * f) ((dx_ad K f).2.1) ((dx_ad K f).2.2.1) ((dx_ad K f).2.2.2.1) ((dx_ad K f).2.2.2.2.1) ((dx_ad K f).2.2.2.2.2) (dx_vo K) (dx_vv K) ((S f).2.2.2.2.2) ((S f).1) ((S f).2.1) ((S f).2.2.1) ((S f).2.2.2.1) ((S f).2.2.2.2.1) ow vl b (b + n) (hr f (by omega)) (by omega) (by omega)) rfl (S' := dx_up S f (px_fill ((S f).1) b ((b + n) - b) (-1), px_cut (fun j => !px_hole ((S f).1) j) ((S f).2.1) b ((b + n) - b) (nI 0), px_fill ((S f).2.2.1) b ((b + n) - b) (nI 0), ((S f).2.2.2.1), ((S f).2.2.2.2.1), ((S f).2.2.2.2.2))) rfl lc_DE_81 lx_BF_makeHoles_II_I rfl (by rw [hR]; decide) (by rw [hR]; decide) (by rw [hR]; decide) rfl (Nat.le_of_ble_eq_true rfl) dd_DE_punch_20 rfl ?_
  exact F.i dd_DE_punch_23
set_option maxRecDepth 4000 in
theorem ce_DE_truncate_f (l : Launch) (D : va_G) (g : Nat → ClassId) (K : dx_K) (ow : Nat → Int32) (vl : Nat → Int32) (S : Nat → dx_S) (x : Int32) (y : Int32) (hfl : l.flags = pinnedFlags ++ [noTraceFlag]) (hK : dx_ok K) (hbad : px_nf x 3 = true) : wt_ct l D g yy_DE_truncate bb_DE_truncate 3 (some .int) (wt_rm 8) [.ref (dx_x K), .int x, .int y] (dx_w g K ow vl S) "java/lang/IndexOutOfBoundsException" (dx_w g K ow vl S) := by
  refine wt_start (by decide +kernel) rfl (Nat.le_of_ble_eq_true rfl) (L0 := [(0, .ref (dx_x K)), (1, .int x), (2, .int y)]) rfl ?_
  intro X O hl hD hg hR hn hh F
  subst hl hD hg
  refine ww_iload_n O dd_DE_truncate_0 1 rfl ?_
  exact dx_throwS O (ce_DE_requireFile _ _ _ x hfl hbad) lc_DE_84 ls_DE_requireFile_I_V hh (by rw [hR]; decide) (by rw [hR]; decide) (by rw [hR]; decide) rfl (Nat.le_of_ble_eq_true rfl) dd_DE_truncate_1 rfl F
set_option maxRecDepth 4000 in
theorem ce_DE_truncate_s (l : Launch) (D : va_G) (g : Nat → ClassId) (K : dx_K) (ow : Nat → Int32) (vl : Nat → Int32) (S : Nat → dx_S) (f : Nat) (x : Int32) (hfl : l.flags = pinnedFlags ++ [noTraceFlag]) (hK : dx_ok K) (hf : f < 4) (hbad : x < 0 ∨ ¬ x ≤ nI 60) : wt_ct l D g yy_DE_truncate bb_DE_truncate 3 (some .int) (wt_rm 8) [.ref (dx_x K), .int (nI f), .int x] (dx_w g K ow vl S) "java/lang/IllegalArgumentException" (dx_w g K ow vl S) := by
  refine wt_start (by decide +kernel) rfl (Nat.le_of_ble_eq_true rfl) (L0 := [(0, .ref (dx_x K)), (1, .int (nI f)), (2, .int x)]) rfl ?_
  intro X O hl hD hg hR hn hh F
  subst hl hD hg
  refine ww_iload_n O dd_DE_truncate_0 1 rfl ?_
  refine dx_callS O (cc_DE_requireFile _ _ _ f (by omega)) lc_DE_84 ls_DE_requireFile_I_V (by rw [hR]; decide) (by rw [hR]; decide) (by rw [hR]; decide) rfl (Nat.le_of_ble_eq_true rfl) dd_DE_truncate_1 rfl ?_
  refine ww_iload_n O dd_DE_truncate_4 2 rfl ?_
  refine ww_if_lt O dd_DE_truncate_5 (tgt := 14) rfl (fun h5 => ?_) (fun h5 => ?_)
  · exact wt_newF O hfl hh le_DE_89 (by decide +kernel) (by decide +kernel) lk_DE_87.1 lk_DE_87.2.1 lk_DE_87.2.2 (by rw [hR]; decide) (by rw [hR]; exact Nat.le_of_ble_eq_true rfl) (by rw [hR]; decide) (by rw [hR]; decide) dd_DE_truncate_14 dd_DE_truncate_17 dd_DE_truncate_18 dd_DE_truncate_21 F
  · refine ww_iload_n O dd_DE_truncate_8 2 rfl ?_
    refine ww_bipush O dd_DE_truncate_9 (v := nI 60) rfl ?_
    refine ww_icmp_le O dd_DE_truncate_11 (tgt := 22) rfl (fun h11 => ?_) (fun h11 => ?_)
    · exact absurd h11 (hbad.elim (fun q => absurd q h5) id)
    · exact wt_newF O hfl hh le_DE_89 (by decide +kernel) (by decide +kernel) lk_DE_87.1 lk_DE_87.2.1 lk_DE_87.2.2 (by rw [hR]; decide) (by rw [hR]; exact Nat.le_of_ble_eq_true rfl) (by rw [hR]; decide) (by rw [hR]; decide) dd_DE_truncate_14 dd_DE_truncate_17 dd_DE_truncate_18 dd_DE_truncate_21 F
set_option maxRecDepth 4000 in
theorem cc_DE_truncate (l : Launch) (D : va_G) (g : Nat → ClassId) (K : dx_K) (ow : Nat → Int32) (vl : Nat → Int32) (S : Nat → dx_S) (f : Nat) (b : Nat) (hK : dx_ok K) (hf : f < 4) (hb : b ≤ 60) (hr : ∀ j, j < 4 → px_rng (S j).1 0 60) : ww_ct l D g yy_DE_truncate bb_DE_truncate 3 (some .int) (ww_rm 4) [.ref (dx_x K), .int (nI f), .int (nI b)] (dx_w g K ow vl S) (some (.int (nI (px_cnt (fun j => !px_hole (S f).1 j) b (60 - b))))) (dx_w g K (px_rel (fun _ => true) (S f).1 (60 - b) b ow) vl (dx_up S f (px_fill (S f).1 b (60 - b) (-1), px_cut (fun j => !px_hole (S f).1 j) (S f).2.1 b (60 - b) (nI 0), px_fill (S f).2.2.1 b (60 - b) (nI 0), (S f).2.2.2.1, (S f).2.2.2.2.1, nI b))) := by
  refine ww_start (by decide +kernel) rfl rfl (Nat.le_of_ble_eq_true rfl) (L0 := [(0, .ref (dx_x K)), (1, .int (nI f)), (2, .int (nI b))]) rfl ?_
  intro X O hl hD hg hR hn F
  subst hl hD hg
  refine ww_iload_n O dd_DE_truncate_0 1 rfl ?_
  refine dx_callS O (cc_DE_requireFile _ _ _ f (by omega)) lc_DE_84 ls_DE_requireFile_I_V (by rw [hR]; decide) (by rw [hR]; decide) (by rw [hR]; decide) rfl (Nat.le_of_ble_eq_true rfl) dd_DE_truncate_1 rfl ?_
  refine ww_iload_n O dd_DE_truncate_4 2 rfl ?_
  refine ww_if_ltN O dd_DE_truncate_5 (tgt := 14) rfl (by omega) (fun h5 => ?_) (fun h5 => ?_)
  · exfalso; omega
  · refine ww_iload_n O dd_DE_truncate_8 2 rfl ?_
    refine ww_bipush O dd_DE_truncate_9 (v := nI 60) rfl ?_
    refine ww_icmp_leN O dd_DE_truncate_11 (tgt := 22) rfl (by omega) (by omega) (fun h11 => ?_) (fun h11 => ?_)
    · refine ww_aload_n O dd_DE_truncate_22 0 rfl ?_
      refine ww_get O ci_DE rfl 1 (by decide) lf_DE_18 rfl dd_DE_truncate_23 0 rfl rfl ?_
      refine ww_iload_n O dd_DE_truncate_26 1 rfl ?_
      refine ww_aald O dd_DE_truncate_27 4 rfl (by omega) (by decide) (hK f (by omega)) ?_
      refine ww_iload_n O dd_DE_truncate_28 2 rfl ?_
      refine dx_callF (K := K) (f := f) O (by omega) (s := ((S f).1, (S f).2.1, (S f).2.2.1, (S f).2.2.2.1, (S f).2.2.2.2.1, (S f).2.2.2.2.2)) (s' := (((S f).1), ((S f).2.1), ((S f).2.2.1), ((S f).2.2.2.1), ((S f).2.2.2.2.1), (nI b))) (ow := ow) (vl := vl) (ow' := ow) (vl' := vl) (cc_BF_setSize _ _ _ ((dx_ad K f).1) (dx_v K) (60 * f) ((dx_ad K f).2.1) ((dx_ad K f).2.2.1) ((dx_ad K f).2.2.2.1) ((dx_ad K f).2.2.2.2.1) ((dx_ad K f).2.2.2.2.2) (dx_vo K) (dx_vv K) ((S f).2.2.2.2.2) ((S f).1) ((S f).2.1) ((S f).2.2.1) ((S f).2.2.2.1) ((S f).2.2.2.2.1) ow vl (nI b) ) rfl (S' := dx_up S f (((S f).1), ((S f).2.1), ((S f).2.2.1), ((S f).2.2.2.1), ((S f).2.2.2.2.1), (nI b))) rfl lc_DE_90 lx_BF_setSize_I_V rfl (by rw [hR]; decide) (by rw [hR]; decide) (by rw [hR]; decide) rfl (Nat.le_of_ble_eq_true rfl) dd_DE_truncate_29 rfl ?_
      refine ww_aload_n O dd_DE_truncate_32 0 rfl ?_
      refine ww_get O ci_DE rfl 1 (by decide) lf_DE_18 rfl dd_DE_truncate_33 0 rfl rfl ?_
      refine ww_iload_n O dd_DE_truncate_36 1 rfl ?_
      refine ww_aald O dd_DE_truncate_37 4 rfl (by omega) (by decide) (hK f (by omega)) ?_
      refine ww_iload_n O dd_DE_truncate_38 2 rfl ?_
      refine ww_bipush O dd_DE_truncate_39 (v := nI 60) rfl ?_
      refine dx_callF (K := K) (f := f) O (by omega) (s := (((S f).1), ((S f).2.1), ((S f).2.2.1), ((S f).2.2.2.1), ((S f).2.2.2.2.1), (nI b))) (s' := (px_fill ((S f).1) b (60 - b) (-1), px_cut (fun j => !px_hole ((S f).1) j) ((S f).2.1) b (60 - b) (nI 0), px_fill ((S f).2.2.1) b (60 - b) (nI 0), ((S f).2.2.2.1), ((S f).2.2.2.2.1), (nI b))) (ow := ow) (vl := vl) (ow' := px_rel (fun _ => true) ((S f).1) (60 - b) b ow) (vl' := vl) (cc_BF_makeHoles _ _ _ ((dx_ad K f).1) (dx_v K) (60 * f) ((dx_ad K f).2.1) ((dx_ad K f).2.2.1) ((dx_ad K f).2.2.2.1) ((dx_ad K f).2.2.2.2.1) ((dx_ad K f).2.2.2.2.2) (dx_vo K) (dx_vv K) (nI b) ((S f).1) ((S f).2.1) ((S f).2.2.1) ((S f).2.2.2.1) ((S f).2.2.2.2.1) ow vl b 60 (hr f (by omega)) (by omega) (by omega)) (dx_up_at _ _ _) (S' := dx_up S f (px_fill ((S f).1) b (60 - b) (-1), px_cut (fun j => !px_hole ((S f).1) j) ((S f).2.1) b (60 - b) (nI 0), px_fill ((S f).2.2.1) b (60 - b) (nI 0), ((S f).2.2.2.1), ((S f).2.2.2.2.1), (nI b))) (dx_up_up _ _ _ _) lc_DE_81 lx_BF_makeHoles_II_I rfl (by rw [hR]; decide) (by rw [hR]; decide) (by rw [hR]; decide) rfl (Nat.le_of_ble_eq_true rfl) dd_DE_truncate_41 rfl ?_
      exact F.i dd_DE_truncate_44
    · exfalso; omega
set_option maxRecDepth 4000 in
theorem ce_DE_flush_f (l : Launch) (D : va_G) (g : Nat → ClassId) (K : dx_K) (ow : Nat → Int32) (vl : Nat → Int32) (S : Nat → dx_S) (x : Int32) (hfl : l.flags = pinnedFlags ++ [noTraceFlag]) (hK : dx_ok K) (hbad : px_nf x 3 = true) : wt_ct l D g yy_DE_flush bb_DE_flush 3 (some .int) (wt_rm 8) [.ref (dx_x K), .int x] (dx_w g K ow vl S) "java/lang/IndexOutOfBoundsException" (dx_w g K ow vl S) := by
  refine wt_start (by decide +kernel) rfl (Nat.le_of_ble_eq_true rfl) (L0 := [(0, .ref (dx_x K)), (1, .int x)]) rfl ?_
  intro X O hl hD hg hR hn hh F
  subst hl hD hg
  refine ww_iload_n O dd_DE_flush_0 1 rfl ?_
  exact dx_throwS O (ce_DE_requireFile _ _ _ x hfl hbad) lc_DE_84 ls_DE_requireFile_I_V hh (by rw [hR]; decide) (by rw [hR]; decide) (by rw [hR]; decide) rfl (Nat.le_of_ble_eq_true rfl) dd_DE_flush_1 rfl F
set_option maxRecDepth 4000 in
theorem cc_DE_flush (l : Launch) (D : va_G) (g : Nat → ClassId) (K : dx_K) (ow : Nat → Int32) (vl : Nat → Int32) (S : Nat → dx_S) (f : Nat) (hK : dx_ok K) (hf : f < 4) (hr : px_rng (px_mh (60 * f) 0 (fun j => px_on (S f).2.2.1 j || !true) 60 0 60 (S f).1 ow).1 0 60) : ww_ct l D g yy_DE_flush bb_DE_flush 3 (some .int) (ww_rm 5) [.ref (dx_x K), .int (nI f)] (dx_w g K ow vl S) (some (.int (nI (px_pp (S f).2.2.1 0)))) (dx_w g K ((px_mh (60 * f) 0 (fun j => px_on (S f).2.2.1 j || !true) 60 0 60 (S f).1 ow).2) (px_wv (px_mh (60 * f) 0 (fun j => px_on (S f).2.2.1 j || !true) 60 0 60 (S f).1 ow).1 (S f).2.2.1 (S f).2.2.2.1 60 0 vl) (dx_up S f ((px_mh (60 * f) 0 (fun j => px_on (S f).2.2.1 j || !true) 60 0 60 (S f).1 ow).1, px_cut (fun j => px_on (S f).2.2.1 j && !px_hole (px_mh (60 * f) 0 (fun j => px_on (S f).2.2.1 j || !true) 60 0 60 (S f).1 ow).1 j) (S f).2.1 0 60 (nI 1), px_fill (S f).2.2.1 0 60 (nI 0), (S f).2.2.2.1, (S f).2.2.2.2.1, (S f).2.2.2.2.2))) := by
  refine ww_start (by decide +kernel) rfl rfl (Nat.le_of_ble_eq_true rfl) (L0 := [(0, .ref (dx_x K)), (1, .int (nI f))]) rfl ?_
  intro X O hl hD hg hR hn F
  subst hl hD hg
  refine ww_iload_n O dd_DE_flush_0 1 rfl ?_
  refine dx_callS O (cc_DE_requireFile _ _ _ f (by omega)) lc_DE_84 ls_DE_requireFile_I_V (by rw [hR]; decide) (by rw [hR]; decide) (by rw [hR]; decide) rfl (Nat.le_of_ble_eq_true rfl) dd_DE_flush_1 rfl ?_
  refine ww_aload_n O dd_DE_flush_4 0 rfl ?_
  refine ww_get O ci_DE rfl 1 (by decide) lf_DE_18 rfl dd_DE_flush_5 0 rfl rfl ?_
  refine ww_iload_n O dd_DE_flush_8 1 rfl ?_
  refine ww_aald O dd_DE_flush_9 4 rfl (by omega) (by decide) (hK f (by omega)) ?_
  refine ww_astore_n O dd_DE_flush_10 (by rw [hn]; decide) rfl (L' := [(0, .ref (dx_x K)), (1, .int (nI f)), (2, .ref ((dx_ad K f).1))]) rfl ?_
  refine ww_aload_n O dd_DE_flush_11 2 rfl ?_
  refine ww_iconst O dd_DE_flush_12 (v := nI 0) rfl ?_
  refine ww_bipush O dd_DE_flush_13 (v := nI 60) rfl ?_
  refine ww_iconst O dd_DE_flush_15 (v := nI 1) rfl ?_
  refine ww_eqs (st' := [.int (px_b true), .int (nI 60), .int (nI 0), .ref (dx_ad K f).1]) rfl ?_
  refine dx_callF (K := K) (f := f) O (by omega) (s := ((S f).1, (S f).2.1, (S f).2.2.1, (S f).2.2.2.1, (S f).2.2.2.2.1, (S f).2.2.2.2.2)) (s' := ((px_mh (60 * f) 0 (fun j => px_on ((S f).2.2.1) j || !true) 60 0 60 ((S f).1) ow).1, ((S f).2.1), ((S f).2.2.1), ((S f).2.2.2.1), ((S f).2.2.2.2.1), ((S f).2.2.2.2.2))) (ow := ow) (vl := vl) (ow' := (px_mh (60 * f) 0 (fun j => px_on ((S f).2.2.1) j || !true) 60 0 60 ((S f).1) ow).2) (vl' := vl) (cc_BF_mapHoles _ _ _ ((dx_ad K f).1) (dx_v K) (60 * f) ((dx_ad K f).2.1) ((dx_ad K f).2.2.1) ((dx_ad K f).2.2.2.1) ((dx_ad K f).2.2.2.2.1) ((dx_ad K f).2.2.2.2.2) (dx_vo K) (dx_vv K) ((S f).2.2.2.2.2) ((S f).1) ((S f).2.1) ((S f).2.2.1) ((S f).2.2.2.1) ((S f).2.2.2.2.1) ow vl 0 60 true (by omega) (by omega)) rfl (S' := dx_up S f ((px_mh (60 * f) 0 (fun j => px_on ((S f).2.2.1) j || !true) 60 0 60 ((S f).1) ow).1, ((S f).2.1), ((S f).2.2.1), ((S f).2.2.2.1), ((S f).2.2.2.2.1), ((S f).2.2.2.2.2))) rfl lc_DE_74 lx_BF_mapHoles_IIZ_V rfl (by rw [hR]; decide) (by rw [hR]; decide) (by rw [hR]; decide) rfl (Nat.le_of_ble_eq_true rfl) dd_DE_flush_16 rfl ?_
  refine ww_aload_n O dd_DE_flush_19 2 rfl ?_
  refine dx_callF (K := K) (f := f) O (by omega) (s := ((px_mh (60 * f) 0 (fun j => px_on ((S f).2.2.1) j || !true) 60 0 60 ((S f).1) ow).1, ((S f).2.1), ((S f).2.2.1), ((S f).2.2.2.1), ((S f).2.2.2.2.1), ((S f).2.2.2.2.2))) (s' := (((px_mh (60 * f) 0 (fun j => px_on ((S f).2.2.1) j || !true) 60 0 60 ((S f).1) ow).1), px_cut (fun j => px_on ((S f).2.2.1) j && !px_hole ((px_mh (60 * f) 0 (fun j => px_on ((S f).2.2.1) j || !true) 60 0 60 ((S f).1) ow).1) j) ((S f).2.1) 0 60 (nI 1), px_fill ((S f).2.2.1) 0 60 (nI 0), ((S f).2.2.2.1), ((S f).2.2.2.2.1), ((S f).2.2.2.2.2))) (ow := (px_mh (60 * f) 0 (fun j => px_on ((S f).2.2.1) j || !true) 60 0 60 ((S f).1) ow).2) (vl := vl) (ow' := ((px_mh (60 * f) 0 (fun j => px_on ((S f).2.2.1) j || !true) 60 0 60 ((S f).1) ow).2)) (vl' := px_wv ((px_mh (60 * f) 0 (fun j => px_on ((S f).2.2.1) j || !true) 60 0 60 ((S f).1) ow).1) ((S f).2.2.1) ((S f).2.2.2.1) 60 0 vl) (cc_BF_writePages _ _ _ ((dx_ad K f).1) (dx_v K) (60 * f) ((dx_ad K f).2.1) ((dx_ad K f).2.2.1) ((dx_ad K f).2.2.2.1) ((dx_ad K f).2.2.2.2.1) ((dx_ad K f).2.2.2.2.2) (dx_vo K) (dx_vv K) ((S f).2.2.2.2.2) ((px_mh (60 * f) 0 (fun j => px_on ((S f).2.2.1) j || !true) 60 0 60 ((S f).1) ow).1) ((S f).2.1) ((S f).2.2.1) ((S f).2.2.2.1) ((S f).2.2.2.2.1) ((px_mh (60 * f) 0 (fun j => px_on ((S f).2.2.1) j || !true) 60 0 60 ((S f).1) ow).2) vl hr) (dx_up_at _ _ _) (S' := dx_up S f (((px_mh (60 * f) 0 (fun j => px_on ((S f).2.2.1) j || !true) 60 0 60 ((S f).1) ow).1), px_cut (fun j => px_on ((S f).2.2.1) j && !px_hole ((px_mh (60 * f) 0 (fun j => px_on ((S f).2.2.1) j || !true) 60 0 60 ((S f).1) ow).1) j) ((S f).2.1) 0 60 (nI 1), px_fill ((S f).2.2.1) 0 60 (nI 0), ((S f).2.2.2.1), ((S f).2.2.2.2.1), ((S f).2.2.2.2.2))) (dx_up_up _ _ _ _) lc_DE_93 lx_BF_writePages__I rfl (by rw [hR]; decide) (by rw [hR]; decide) (by rw [hR]; decide) rfl (Nat.le_of_ble_eq_true rfl) dd_DE_flush_20 rfl ?_
  exact F.i dd_DE_flush_23
set_option maxRecDepth 4000 in
theorem ce_DE_preallocate_f (l : Launch) (D : va_G) (g : Nat → ClassId) (K : dx_K) (ow : Nat → Int32) (vl : Nat → Int32) (S : Nat → dx_S) (x : Int32) (y : Int32) (z : Int32) (hfl : l.flags = pinnedFlags ++ [noTraceFlag]) (hK : dx_ok K) (hbad : px_nf x 3 = true) : wt_ct l D g yy_DE_preallocate bb_DE_preallocate 7 (some .int) (wt_rm 8) [.ref (dx_x K), .int x, .int y, .int z] (dx_w g K ow vl S) "java/lang/IndexOutOfBoundsException" (dx_w g K ow vl S) := by
  refine wt_start (by decide +kernel) rfl (Nat.le_of_ble_eq_true rfl) (L0 := [(0, .ref (dx_x K)), (1, .int x), (2, .int y), (3, .int z)]) rfl ?_
  intro X O hl hD hg hR hn hh F
  subst hl hD hg
  refine ww_iload_n O dd_DE_preallocate_0 1 rfl ?_
  refine ww_iload_n O dd_DE_preallocate_1 2 rfl ?_
  exact dx_throwS O (ce_DE_reqBlock_f _ _ _ x y hfl hbad) lc_DE_25 ls_DE_requireBlock_II_V hh (by rw [hR]; decide) (by rw [hR]; decide) (by rw [hR]; decide) rfl (Nat.le_of_ble_eq_true rfl) dd_DE_preallocate_2 rfl F
set_option maxRecDepth 4000 in
theorem ce_DE_preallocate_b (l : Launch) (D : va_G) (g : Nat → ClassId) (K : dx_K) (ow : Nat → Int32) (vl : Nat → Int32) (S : Nat → dx_S) (f : Nat) (y : Int32) (z : Int32) (hfl : l.flags = pinnedFlags ++ [noTraceFlag]) (hK : dx_ok K) (hf : f < 4) (hbad : px_nf y 59 = true) : wt_ct l D g yy_DE_preallocate bb_DE_preallocate 7 (some .int) (wt_rm 8) [.ref (dx_x K), .int (nI f), .int y, .int z] (dx_w g K ow vl S) "java/lang/IndexOutOfBoundsException" (dx_w g K ow vl S) := by
  refine wt_start (by decide +kernel) rfl (Nat.le_of_ble_eq_true rfl) (L0 := [(0, .ref (dx_x K)), (1, .int (nI f)), (2, .int y), (3, .int z)]) rfl ?_
  intro X O hl hD hg hR hn hh F
  subst hl hD hg
  refine ww_iload_n O dd_DE_preallocate_0 1 rfl ?_
  refine ww_iload_n O dd_DE_preallocate_1 2 rfl ?_
  exact dx_throwS O (ce_DE_reqBlock_b _ _ _ f y hfl (by omega) hbad) lc_DE_25 ls_DE_requireBlock_II_V hh (by rw [hR]; decide) (by rw [hR]; decide) (by rw [hR]; decide) rfl (Nat.le_of_ble_eq_true rfl) dd_DE_preallocate_2 rfl F
set_option maxRecDepth 4000 in
theorem ce_DE_preallocate_r (l : Launch) (D : va_G) (g : Nat → ClassId) (K : dx_K) (ow : Nat → Int32) (vl : Nat → Int32) (S : Nat → dx_S) (f : Nat) (b : Nat) (x : Int32) (hfl : l.flags = pinnedFlags ++ [noTraceFlag]) (hK : dx_ok K) (hf : f < 4) (hb : b < 60) (hbad : x < nI 1 ∨ ¬ x ≤ nI (60 - b)) : wt_ct l D g yy_DE_preallocate bb_DE_preallocate 7 (some .int) (wt_rm 8) [.ref (dx_x K), .int (nI f), .int (nI b), .int x] (dx_w g K ow vl S) "java/lang/IllegalArgumentException" (dx_w g K ow vl S) := by
  refine wt_start (by decide +kernel) rfl (Nat.le_of_ble_eq_true rfl) (L0 := [(0, .ref (dx_x K)), (1, .int (nI f)), (2, .int (nI b)), (3, .int x)]) rfl ?_
  intro X O hl hD hg hR hn hh F
  subst hl hD hg
  refine ww_iload_n O dd_DE_preallocate_0 1 rfl ?_
  refine ww_iload_n O dd_DE_preallocate_1 2 rfl ?_
  refine dx_callS O (cc_DE_requireBlock _ _ _ f b (by omega) (by omega)) lc_DE_25 ls_DE_requireBlock_II_V (by rw [hR]; decide) (by rw [hR]; decide) (by rw [hR]; decide) rfl (Nat.le_of_ble_eq_true rfl) dd_DE_preallocate_2 rfl ?_
  refine ww_iload_n O dd_DE_preallocate_5 2 rfl ?_
  refine ww_iload_n O dd_DE_preallocate_6 3 rfl ?_
  exact dx_throwS O (ce_DE_requireRow _ _ _ b x hfl (by omega) hbad) lc_DE_61 ls_DE_requireRow_II_V hh (by rw [hR]; decide) (by rw [hR]; decide) (by rw [hR]; decide) rfl (Nat.le_of_ble_eq_true rfl) dd_DE_preallocate_7 rfl F
set_option maxRecDepth 4000 in
theorem ce_DE_pre_few (l : Launch) (D : va_G) (g : Nat → ClassId) (K : dx_K) (ow : Nat → Int32) (vl : Nat → Int32) (S : Nat → dx_S) (f : Nat) (b : Nat) (n : Nat) (hfl : l.flags = pinnedFlags ++ [noTraceFlag]) (hK : dx_ok K) (hf : f < 4) (hb : b < 60) (hn1 : 0 < n) (hn2 : n ≤ 60 - b) (hfew : px_nu ow < px_cnt (px_hole (S f).1) b (b + n - b)) : wt_ct l D g yy_DE_preallocate bb_DE_preallocate 7 (some .int) (wt_rm 8) [.ref (dx_x K), .int (nI f), .int (nI b), .int (nI n)] (dx_w g K ow vl S) "java/lang/UnsupportedOperationException" (dx_w g K ow vl S) := by
  refine wt_start (by decide +kernel) rfl (Nat.le_of_ble_eq_true rfl) (L0 := [(0, .ref (dx_x K)), (1, .int (nI f)), (2, .int (nI b)), (3, .int (nI n))]) rfl ?_
  intro X O hl hD hg hR hn hh F
  subst hl hD hg
  have hcn := px_cnt_le (px_hole (S f).1) b (b + n - b)
  obtain ⟨-, hnu80⟩ := px_tk ow
  refine ww_iload_n O dd_DE_preallocate_0 1 rfl ?_
  refine ww_iload_n O dd_DE_preallocate_1 2 rfl ?_
  refine dx_callS O (cc_DE_requireBlock _ _ _ f b (by omega) (by omega)) lc_DE_25 ls_DE_requireBlock_II_V (by rw [hR]; decide) (by rw [hR]; decide) (by rw [hR]; decide) rfl (Nat.le_of_ble_eq_true rfl) dd_DE_preallocate_2 rfl ?_
  refine ww_iload_n O dd_DE_preallocate_5 2 rfl ?_
  refine ww_iload_n O dd_DE_preallocate_6 3 rfl ?_
  refine dx_callS O (cc_DE_requireRow _ _ _ b n (by omega) (by omega) (by omega)) lc_DE_61 ls_DE_requireRow_II_V (by rw [hR]; decide) (by rw [hR]; decide) (by rw [hR]; decide) rfl (Nat.le_of_ble_eq_true rfl) dd_DE_preallocate_7 rfl ?_
  refine ww_aload_n O dd_DE_preallocate_10 0 rfl ?_
  refine ww_get O ci_DE rfl 1 (by decide) lf_DE_18 rfl dd_DE_preallocate_11 0 rfl rfl ?_
  refine ww_iload_n O dd_DE_preallocate_14 1 rfl ?_
  refine ww_aald O dd_DE_preallocate_15 4 rfl (by omega) (by decide) (hK f (by omega)) ?_
  refine ww_astore O dd_DE_preallocate_16 (by rw [hn]; decide) rfl (L' := [(0, .ref (dx_x K)), (1, .int (nI f)), (2, .int (nI b)), (3, .int (nI n)), (4, .ref ((dx_ad K f).1))]) rfl ?_
  refine ww_iload_n O dd_DE_preallocate_18 2 rfl ?_
  refine ww_iload_n O dd_DE_preallocate_19 3 rfl ?_
  refine ww_iadd O dd_DE_preallocate_20 (v := nI (b + n)) (nI_add _ _) ?_
  refine ww_istore O dd_DE_preallocate_21 (by rw [hn]; decide) rfl (L' := [(0, .ref (dx_x K)), (1, .int (nI f)), (2, .int (nI b)), (3, .int (nI n)), (4, .ref ((dx_ad K f).1)), (5, .int (nI (b + n)))]) rfl ?_
  refine ww_aload O dd_DE_preallocate_23 4 rfl ?_
  refine ww_iload_n O dd_DE_preallocate_25 2 rfl ?_
  refine ww_iload O dd_DE_preallocate_26 5 rfl ?_
  refine dx_callF (K := K) (f := f) O (by omega) (s := ((S f).1, (S f).2.1, (S f).2.2.1, (S f).2.2.2.1, (S f).2.2.2.2.1, (S f).2.2.2.2.2)) (s' := (((S f).1), ((S f).2.1), ((S f).2.2.1), ((S f).2.2.2.1), ((S f).2.2.2.2.1), ((S f).2.2.2.2.2))) (ow := ow) (vl := vl) (ow' := ow) (vl' := vl) (cc_BF_countHoles _ _ _ ((dx_ad K f).1) (dx_v K) (60 * f) ((dx_ad K f).2.1) ((dx_ad K f).2.2.1) ((dx_ad K f).2.2.2.1) ((dx_ad K f).2.2.2.2.1) ((dx_ad K f).2.2.2.2.2) (dx_vo K) (dx_vv K) ((S f).2.2.2.2.2) ((S f).1) ((S f).2.1) ((S f).2.2.1) ((S f).2.2.2.1) ((S f).2.2.2.2.1) ow vl b (b + n) (by omega) (by omega)) rfl (S' := S) (dx_up_id S f) lc_DE_64 lx_BF_countHoles_II_I rfl (by rw [hR]; decide) (by rw [hR]; decide) (by rw [hR]; decide) rfl (Nat.le_of_ble_eq_true rfl) dd_DE_preallocate_28 rfl ?_
  refine ww_istore O dd_DE_preallocate_31 (by rw [hn]; decide) rfl (L' := [(0, .ref (dx_x K)), (1, .int (nI f)), (2, .int (nI b)), (3, .int (nI n)), (4, .ref ((dx_ad K f).1)), (5, .int (nI (b + n))), (6, .int (nI (px_cnt (px_hole ((S f).1)) b ((b + n) - b))))]) rfl ?_
  refine ww_iload O dd_DE_preallocate_33 6 rfl ?_
  refine ww_aload_n O dd_DE_preallocate_35 0 rfl ?_
  refine ww_get O ci_DE rfl 0 (by decide) lf_DE_10 rfl dd_DE_preallocate_36 0 rfl rfl ?_
  refine dx_callU (K := K) (ow := ow) (vl := vl) O (cc_VO_countUntaken _ _ _ (dx_v K) (dx_vo K) (dx_vv K) ow vl ) lc_DE_68 lx_VO_countUntaken__I rfl (by rw [hR]; decide) (by rw [hR]; decide) (by rw [hR]; decide) rfl (Nat.le_of_ble_eq_true rfl) dd_DE_preallocate_39 rfl ?_
  refine ww_icmp_leN O dd_DE_preallocate_42 (tgt := 53) rfl (by omega) (by omega) (fun h42 => ?_) (fun h42 => ?_)
  · exfalso; omega
  · exact wt_newF O hfl hh le_DE_53 (by decide +kernel) (by decide +kernel) lk_DE_51.1 lk_DE_51.2.1 lk_DE_51.2.2 (by rw [hR]; decide) (by rw [hR]; exact Nat.le_of_ble_eq_true rfl) (by rw [hR]; decide) (by rw [hR]; decide) dd_DE_preallocate_45 dd_DE_preallocate_48 dd_DE_preallocate_49 dd_DE_preallocate_52 F
set_option maxRecDepth 4000 in
theorem cc_DE_pre_ok (l : Launch) (D : va_G) (g : Nat → ClassId) (K : dx_K) (ow : Nat → Int32) (vl : Nat → Int32) (S : Nat → dx_S) (f : Nat) (b : Nat) (n : Nat) (hK : dx_ok K) (hf : f < 4) (hb : b < 60) (hn1 : 0 < n) (hn2 : n ≤ 60 - b) (hr : ∀ j, j < 4 → px_rng (S j).1 0 60) (hr2 : px_rng (px_mh (60 * f) 0 (fun j => px_on (S f).2.2.1 j || !false) 60 b (b + n) (S f).1 ow).1 0 60) (hnu : px_cnt (px_hole (S f).1) b (b + n - b) ≤ px_nu ow) (hov : dx_rs (dx_up S f ((px_mh (60 * f) 0 (fun j => px_on (S f).2.2.1 j || !false) 60 b (b + n) (S f).1 ow).1, (S f).2.1, (S f).2.2.1, (S f).2.2.2.1, px_note (S f).1 (S f).2.2.2.2.1 60, (S f).2.2.2.2.2)) + dx_mt (dx_up S f ((px_mh (60 * f) 0 (fun j => px_on (S f).2.2.1 j || !false) 60 b (b + n) (S f).1 ow).1, (S f).2.1, (S f).2.2.1, (S f).2.2.2.1, px_note (S f).1 (S f).2.2.2.2.1 60, (S f).2.2.2.2.2)) ≤ 80) : ww_ct l D g yy_DE_preallocate bb_DE_preallocate 7 (some .int) (ww_rm 7) [.ref (dx_x K), .int (nI f), .int (nI b), .int (nI n)] (dx_w g K ow vl S) (some (.int (nI (px_cnt (px_hole (S f).1) b (b + n - b))))) (dx_w g K ((px_mh (60 * f) 0 (fun j => px_on (S f).2.2.1 j || !false) 60 b (b + n) (S f).1 ow).2) vl (dx_up S f ((px_mh (60 * f) 0 (fun j => px_on (S f).2.2.1 j || !false) 60 b (b + n) (S f).1 ow).1, (S f).2.1, (S f).2.2.1, (S f).2.2.2.1, px_note (S f).1 (S f).2.2.2.2.1 60, (S f).2.2.2.2.2))) := by
  refine ww_start (by decide +kernel) rfl rfl (Nat.le_of_ble_eq_true rfl) (L0 := [(0, .ref (dx_x K)), (1, .int (nI f)), (2, .int (nI b)), (3, .int (nI n))]) rfl ?_
  intro X O hl hD hg hR hn F
  subst hl hD hg
  have hcn := px_cnt_le (px_hole (S f).1) b (b + n - b)
  obtain ⟨-, hnu80⟩ := px_tk ow
  refine ww_iload_n O dd_DE_preallocate_0 1 rfl ?_
  refine ww_iload_n O dd_DE_preallocate_1 2 rfl ?_
  refine dx_callS O (cc_DE_requireBlock _ _ _ f b (by omega) (by omega)) lc_DE_25 ls_DE_requireBlock_II_V (by rw [hR]; decide) (by rw [hR]; decide) (by rw [hR]; decide) rfl (Nat.le_of_ble_eq_true rfl) dd_DE_preallocate_2 rfl ?_
  refine ww_iload_n O dd_DE_preallocate_5 2 rfl ?_
  refine ww_iload_n O dd_DE_preallocate_6 3 rfl ?_
  refine dx_callS O (cc_DE_requireRow _ _ _ b n (by omega) (by omega) (by omega)) lc_DE_61 ls_DE_requireRow_II_V (by rw [hR]; decide) (by rw [hR]; decide) (by rw [hR]; decide) rfl (Nat.le_of_ble_eq_true rfl) dd_DE_preallocate_7 rfl ?_
  refine ww_aload_n O dd_DE_preallocate_10 0 rfl ?_
  refine ww_get O ci_DE rfl 1 (by decide) lf_DE_18 rfl dd_DE_preallocate_11 0 rfl rfl ?_
  refine ww_iload_n O dd_DE_preallocate_14 1 rfl ?_
  refine ww_aald O dd_DE_preallocate_15 4 rfl (by omega) (by decide) (hK f (by omega)) ?_
  refine ww_astore O dd_DE_preallocate_16 (by rw [hn]; decide) rfl (L' := [(0, .ref (dx_x K)), (1, .int (nI f)), (2, .int (nI b)), (3, .int (nI n)), (4, .ref ((dx_ad K f).1))]) rfl ?_
  refine ww_iload_n O dd_DE_preallocate_18 2 rfl ?_
  refine ww_iload_n O dd_DE_preallocate_19 3 rfl ?_
  refine ww_iadd O dd_DE_preallocate_20 (v := nI (b + n)) (nI_add _ _) ?_
  refine ww_istore O dd_DE_preallocate_21 (by rw [hn]; decide) rfl (L' := [(0, .ref (dx_x K)), (1, .int (nI f)), (2, .int (nI b)), (3, .int (nI n)), (4, .ref ((dx_ad K f).1)), (5, .int (nI (b + n)))]) rfl ?_
  refine ww_aload O dd_DE_preallocate_23 4 rfl ?_
  refine ww_iload_n O dd_DE_preallocate_25 2 rfl ?_
  refine ww_iload O dd_DE_preallocate_26 5 rfl ?_
  refine dx_callF (K := K) (f := f) O (by omega) (s := ((S f).1, (S f).2.1, (S f).2.2.1, (S f).2.2.2.1, (S f).2.2.2.2.1, (S f).2.2.2.2.2)) (s' := (((S f).1), ((S f).2.1), ((S f).2.2.1), ((S f).2.2.2.1), ((S f).2.2.2.2.1), ((S f).2.2.2.2.2))) (ow := ow) (vl := vl) (ow' := ow) (vl' := vl) (cc_BF_countHoles _ _ _ ((dx_ad K f).1) (dx_v K) (60 * f) ((dx_ad K f).2.1) ((dx_ad K f).2.2.1) ((dx_ad K f).2.2.2.1) ((dx_ad K f).2.2.2.2.1) ((dx_ad K f).2.2.2.2.2) (dx_vo K) (dx_vv K) ((S f).2.2.2.2.2) ((S f).1) ((S f).2.1) ((S f).2.2.1) ((S f).2.2.2.1) ((S f).2.2.2.2.1) ow vl b (b + n) (by omega) (by omega)) rfl (S' := S) (dx_up_id S f) lc_DE_64 lx_BF_countHoles_II_I rfl (by rw [hR]; decide) (by rw [hR]; decide) (by rw [hR]; decide) rfl (Nat.le_of_ble_eq_true rfl) dd_DE_preallocate_28 rfl ?_
  refine ww_istore O dd_DE_preallocate_31 (by rw [hn]; decide) rfl (L' := [(0, .ref (dx_x K)), (1, .int (nI f)), (2, .int (nI b)), (3, .int (nI n)), (4, .ref ((dx_ad K f).1)), (5, .int (nI (b + n))), (6, .int (nI (px_cnt (px_hole ((S f).1)) b ((b + n) - b))))]) rfl ?_
  refine ww_iload O dd_DE_preallocate_33 6 rfl ?_
  refine ww_aload_n O dd_DE_preallocate_35 0 rfl ?_
  refine ww_get O ci_DE rfl 0 (by decide) lf_DE_10 rfl dd_DE_preallocate_36 0 rfl rfl ?_
  refine dx_callU (K := K) (ow := ow) (vl := vl) O (cc_VO_countUntaken _ _ _ (dx_v K) (dx_vo K) (dx_vv K) ow vl ) lc_DE_68 lx_VO_countUntaken__I rfl (by rw [hR]; decide) (by rw [hR]; decide) (by rw [hR]; decide) rfl (Nat.le_of_ble_eq_true rfl) dd_DE_preallocate_39 rfl ?_
  refine ww_icmp_leN O dd_DE_preallocate_42 (tgt := 53) rfl (by omega) (by omega) (fun h42 => ?_) (fun h42 => ?_)
  · refine ww_aload O dd_DE_preallocate_53 4 rfl ?_
    refine dx_callF (K := K) (f := f) O (by omega) (s := ((S f).1, (S f).2.1, (S f).2.2.1, (S f).2.2.2.1, (S f).2.2.2.2.1, (S f).2.2.2.2.2)) (s' := (((S f).1), ((S f).2.1), ((S f).2.2.1), ((S f).2.2.2.1), px_note ((S f).1) ((S f).2.2.2.2.1) 60, ((S f).2.2.2.2.2))) (ow := ow) (vl := vl) (ow' := ow) (vl' := vl) (cc_BF_noteHoles _ _ _ ((dx_ad K f).1) (dx_v K) (60 * f) ((dx_ad K f).2.1) ((dx_ad K f).2.2.1) ((dx_ad K f).2.2.2.1) ((dx_ad K f).2.2.2.2.1) ((dx_ad K f).2.2.2.2.2) (dx_vo K) (dx_vv K) ((S f).2.2.2.2.2) ((S f).1) ((S f).2.1) ((S f).2.2.1) ((S f).2.2.2.1) ((S f).2.2.2.2.1) ow vl ) rfl (S' := dx_up S f (((S f).1), ((S f).2.1), ((S f).2.2.1), ((S f).2.2.2.1), px_note ((S f).1) ((S f).2.2.2.2.1) 60, ((S f).2.2.2.2.2))) rfl lc_DE_71 lx_BF_noteHoles__V rfl (by rw [hR]; decide) (by rw [hR]; decide) (by rw [hR]; decide) rfl (Nat.le_of_ble_eq_true rfl) dd_DE_preallocate_55 rfl ?_
    refine ww_aload O dd_DE_preallocate_58 4 rfl ?_
    refine ww_iload_n O dd_DE_preallocate_60 2 rfl ?_
    refine ww_iload O dd_DE_preallocate_61 5 rfl ?_
    refine ww_iconst O dd_DE_preallocate_63 (v := nI 0) rfl ?_
    refine ww_eqs (st' := [.int (px_b false), .int (nI (b + n)), .int (nI b), .ref (dx_ad K f).1]) rfl ?_
    refine dx_callF (K := K) (f := f) O (by omega) (s := (((S f).1), ((S f).2.1), ((S f).2.2.1), ((S f).2.2.2.1), px_note ((S f).1) ((S f).2.2.2.2.1) 60, ((S f).2.2.2.2.2))) (s' := ((px_mh (60 * f) 0 (fun j => px_on ((S f).2.2.1) j || !false) 60 b (b + n) ((S f).1) ow).1, ((S f).2.1), ((S f).2.2.1), ((S f).2.2.2.1), (px_note ((S f).1) ((S f).2.2.2.2.1) 60), ((S f).2.2.2.2.2))) (ow := ow) (vl := vl) (ow' := (px_mh (60 * f) 0 (fun j => px_on ((S f).2.2.1) j || !false) 60 b (b + n) ((S f).1) ow).2) (vl' := vl) (cc_BF_mapHoles _ _ _ ((dx_ad K f).1) (dx_v K) (60 * f) ((dx_ad K f).2.1) ((dx_ad K f).2.2.1) ((dx_ad K f).2.2.2.1) ((dx_ad K f).2.2.2.2.1) ((dx_ad K f).2.2.2.2.2) (dx_vo K) (dx_vv K) ((S f).2.2.2.2.2) ((S f).1) ((S f).2.1) ((S f).2.2.1) ((S f).2.2.2.1) (px_note ((S f).1) ((S f).2.2.2.2.1) 60) ow vl b (b + n) false (by omega) (by omega)) (dx_up_at _ _ _) (S' := dx_up S f ((px_mh (60 * f) 0 (fun j => px_on ((S f).2.2.1) j || !false) 60 b (b + n) ((S f).1) ow).1, ((S f).2.1), ((S f).2.2.1), ((S f).2.2.2.1), (px_note ((S f).1) ((S f).2.2.2.2.1) 60), ((S f).2.2.2.2.2))) (dx_up_up _ _ _ _) lc_DE_74 lx_BF_mapHoles_IIZ_V rfl (by rw [hR]; decide) (by rw [hR]; decide) (by rw [hR]; decide) rfl (Nat.le_of_ble_eq_true rfl) dd_DE_preallocate_64 rfl ?_
    refine ww_aload_n O dd_DE_preallocate_67 0 rfl ?_
    refine dx_callE (K := K) O (cc_DE_isOverbooked _ _ _ K ((px_mh (60 * f) 0 (fun j => px_on ((S f).2.2.1) j || !false) 60 b (b + n) ((S f).1) ow).2) vl (dx_up S f ((px_mh (60 * f) 0 (fun j => px_on ((S f).2.2.1) j || !false) 60 b (b + n) ((S f).1) ow).1, ((S f).2.1), ((S f).2.2.1), ((S f).2.2.2.1), (px_note ((S f).1) ((S f).2.2.2.2.1) 60), ((S f).2.2.2.2.2))) hK (dx_rng hr hr2)) lc_DE_43 lx_DE_isOverbooked__Z rfl (by rw [hR]; decide) (by rw [hR]; decide) (by rw [hR]; decide) rfl (Nat.le_of_ble_eq_true rfl) dd_DE_preallocate_68 rfl ?_
    refine ww_if_eqB O dd_DE_preallocate_71 (tgt := 87) rfl (fun h71 => ?_) (fun h71 => ?_)
    · refine ww_iload O dd_DE_preallocate_87 6 rfl ?_
      exact F.i dd_DE_preallocate_89
    · exact absurd hov (by simpa using h71)
  · exfalso; omega
set_option maxRecDepth 4000 in
theorem ce_DE_pre_over (l : Launch) (D : va_G) (g : Nat → ClassId) (K : dx_K) (ow : Nat → Int32) (vl : Nat → Int32) (S : Nat → dx_S) (f : Nat) (b : Nat) (n : Nat) (hfl : l.flags = pinnedFlags ++ [noTraceFlag]) (hK : dx_ok K) (hf : f < 4) (hb : b < 60) (hn1 : 0 < n) (hn2 : n ≤ 60 - b) (hr : ∀ j, j < 4 → px_rng (S j).1 0 60) (hr2 : px_rng (px_mh (60 * f) 0 (fun j => px_on (S f).2.2.1 j || !false) 60 b (b + n) (S f).1 ow).1 0 60) (hnu : px_cnt (px_hole (S f).1) b (b + n - b) ≤ px_nu ow) (hov : ¬ dx_rs (dx_up S f ((px_mh (60 * f) 0 (fun j => px_on (S f).2.2.1 j || !false) 60 b (b + n) (S f).1 ow).1, (S f).2.1, (S f).2.2.1, (S f).2.2.2.1, px_note (S f).1 (S f).2.2.2.2.1 60, (S f).2.2.2.2.2)) + dx_mt (dx_up S f ((px_mh (60 * f) 0 (fun j => px_on (S f).2.2.1 j || !false) 60 b (b + n) (S f).1 ow).1, (S f).2.1, (S f).2.2.1, (S f).2.2.2.1, px_note (S f).1 (S f).2.2.2.2.1 60, (S f).2.2.2.2.2)) ≤ 80) : wt_ct l D g yy_DE_preallocate bb_DE_preallocate 7 (some .int) (wt_rm 8) [.ref (dx_x K), .int (nI f), .int (nI b), .int (nI n)] (dx_w g K ow vl S) "java/lang/UnsupportedOperationException" (dx_w g K (px_rel (px_on (px_note (S f).1 (S f).2.2.2.2.1 60)) (px_mh (60 * f) 0 (fun j => px_on (S f).2.2.1 j || !false) 60 b (b + n) (S f).1 ow).1 60 0 (px_mh (60 * f) 0 (fun j => px_on (S f).2.2.1 j || !false) 60 b (b + n) (S f).1 ow).2) vl (dx_up S f (px_cut (px_on (px_note (S f).1 (S f).2.2.2.2.1 60)) (px_mh (60 * f) 0 (fun j => px_on (S f).2.2.1 j || !false) 60 b (b + n) (S f).1 ow).1 0 60 (-1), px_cut (fun j => px_on (px_note (S f).1 (S f).2.2.2.2.1 60) j && !px_hole (px_mh (60 * f) 0 (fun j => px_on (S f).2.2.1 j || !false) 60 b (b + n) (S f).1 ow).1 j) (S f).2.1 0 60 (nI 0), (S f).2.2.1, (S f).2.2.2.1, px_note (S f).1 (S f).2.2.2.2.1 60, (S f).2.2.2.2.2))) := by
  refine wt_start (by decide +kernel) rfl (Nat.le_of_ble_eq_true rfl) (L0 := [(0, .ref (dx_x K)), (1, .int (nI f)), (2, .int (nI b)), (3, .int (nI n))]) rfl ?_
  intro X O hl hD hg hR hn hh F
  subst hl hD hg
  have hcn := px_cnt_le (px_hole (S f).1) b (b + n - b)
  obtain ⟨-, hnu80⟩ := px_tk ow
  refine ww_iload_n O dd_DE_preallocate_0 1 rfl ?_
  refine ww_iload_n O dd_DE_preallocate_1 2 rfl ?_
  refine dx_callS O (cc_DE_requireBlock _ _ _ f b (by omega) (by omega)) lc_DE_25 ls_DE_requireBlock_II_V (by rw [hR]; decide) (by rw [hR]; decide) (by rw [hR]; decide) rfl (Nat.le_of_ble_eq_true rfl) dd_DE_preallocate_2 rfl ?_
  refine ww_iload_n O dd_DE_preallocate_5 2 rfl ?_
  refine ww_iload_n O dd_DE_preallocate_6 3 rfl ?_
  refine dx_callS O (cc_DE_requireRow _ _ _ b n (by omega) (by omega) (by omega)) lc_DE_61 ls_DE_requireRow_II_V (by rw [hR]; decide) (by rw [hR]; decide) (by rw [hR]; decide) rfl (Nat.le_of_ble_eq_true rfl) dd_DE_preallocate_7 rfl ?_
  refine ww_aload_n O dd_DE_preallocate_10 0 rfl ?_
  refine ww_get O ci_DE rfl 1 (by decide) lf_DE_18 rfl dd_DE_preallocate_11 0 rfl rfl ?_
  refine ww_iload_n O dd_DE_preallocate_14 1 rfl ?_
  refine ww_aald O dd_DE_preallocate_15 4 rfl (by omega) (by decide) (hK f (by omega)) ?_
  refine ww_astore O dd_DE_preallocate_16 (by rw [hn]; decide) rfl (L' := [(0, .ref (dx_x K)), (1, .int (nI f)), (2, .int (nI b)), (3, .int (nI n)), (4, .ref ((dx_ad K f).1))]) rfl ?_
  refine ww_iload_n O dd_DE_preallocate_18 2 rfl ?_
  refine ww_iload_n O dd_DE_preallocate_19 3 rfl ?_
  refine ww_iadd O dd_DE_preallocate_20 (v := nI (b + n)) (nI_add _ _) ?_
  refine ww_istore O dd_DE_preallocate_21 (by rw [hn]; decide) rfl (L' := [(0, .ref (dx_x K)), (1, .int (nI f)), (2, .int (nI b)), (3, .int (nI n)), (4, .ref ((dx_ad K f).1)), (5, .int (nI (b + n)))]) rfl ?_
  refine ww_aload O dd_DE_preallocate_23 4 rfl ?_
  refine ww_iload_n O dd_DE_preallocate_25 2 rfl ?_
  refine ww_iload O dd_DE_preallocate_26 5 rfl ?_
  refine dx_callF (K := K) (f := f) O (by omega) (s := ((S f).1, (S f).2.1, (S f).2.2.1, (S f).2.2.2.1, (S f).2.2.2.2.1, (S f).2.2.2.2.2)) (s' := (((S f).1), ((S f).2.1), ((S f).2.2.1), ((S f).2.2.2.1), ((S f).2.2.2.2.1), ((S f).2.2.2.2.2))) (ow := ow) (vl := vl) (ow' := ow) (vl' := vl) (cc_BF_countHoles _ _ _ ((dx_ad K f).1) (dx_v K) (60 * f) ((dx_ad K f).2.1) ((dx_ad K f).2.2.1) ((dx_ad K f).2.2.2.1) ((dx_ad K f).2.2.2.2.1) ((dx_ad K f).2.2.2.2.2) (dx_vo K) (dx_vv K) ((S f).2.2.2.2.2) ((S f).1) ((S f).2.1) ((S f).2.2.1) ((S f).2.2.2.1) ((S f).2.2.2.2.1) ow vl b (b + n) (by omega) (by omega)) rfl (S' := S) (dx_up_id S f) lc_DE_64 lx_BF_countHoles_II_I rfl (by rw [hR]; decide) (by rw [hR]; decide) (by rw [hR]; decide) rfl (Nat.le_of_ble_eq_true rfl) dd_DE_preallocate_28 rfl ?_
  refine ww_istore O dd_DE_preallocate_31 (by rw [hn]; decide) rfl (L' := [(0, .ref (dx_x K)), (1, .int (nI f)), (2, .int (nI b)), (3, .int (nI n)), (4, .ref ((dx_ad K f).1)), (5, .int (nI (b + n))), (6, .int (nI (px_cnt (px_hole ((S f).1)) b ((b + n) - b))))]) rfl ?_
  refine ww_iload O dd_DE_preallocate_33 6 rfl ?_
  refine ww_aload_n O dd_DE_preallocate_35 0 rfl ?_
  refine ww_get O ci_DE rfl 0 (by decide) lf_DE_10 rfl dd_DE_preallocate_36 0 rfl rfl ?_
  refine dx_callU (K := K) (ow := ow) (vl := vl) O (cc_VO_countUntaken _ _ _ (dx_v K) (dx_vo K) (dx_vv K) ow vl ) lc_DE_68 lx_VO_countUntaken__I rfl (by rw [hR]; decide) (by rw [hR]; decide) (by rw [hR]; decide) rfl (Nat.le_of_ble_eq_true rfl) dd_DE_preallocate_39 rfl ?_
  refine ww_icmp_leN O dd_DE_preallocate_42 (tgt := 53) rfl (by omega) (by omega) (fun h42 => ?_) (fun h42 => ?_)
  · refine ww_aload O dd_DE_preallocate_53 4 rfl ?_
    refine dx_callF (K := K) (f := f) O (by omega) (s := ((S f).1, (S f).2.1, (S f).2.2.1, (S f).2.2.2.1, (S f).2.2.2.2.1, (S f).2.2.2.2.2)) (s' := (((S f).1), ((S f).2.1), ((S f).2.2.1), ((S f).2.2.2.1), px_note ((S f).1) ((S f).2.2.2.2.1) 60, ((S f).2.2.2.2.2))) (ow := ow) (vl := vl) (ow' := ow) (vl' := vl) (cc_BF_noteHoles _ _ _ ((dx_ad K f).1) (dx_v K) (60 * f) ((dx_ad K f).2.1) ((dx_ad K f).2.2.1) ((dx_ad K f).2.2.2.1) ((dx_ad K f).2.2.2.2.1) ((dx_ad K f).2.2.2.2.2) (dx_vo K) (dx_vv K) ((S f).2.2.2.2.2) ((S f).1) ((S f).2.1) ((S f).2.2.1) ((S f).2.2.2.1) ((S f).2.2.2.2.1) ow vl ) rfl (S' := dx_up S f (((S f).1), ((S f).2.1), ((S f).2.2.1), ((S f).2.2.2.1), px_note ((S f).1) ((S f).2.2.2.2.1) 60, ((S f).2.2.2.2.2))) rfl lc_DE_71 lx_BF_noteHoles__V rfl (by rw [hR]; decide) (by rw [hR]; decide) (by rw [hR]; decide) rfl (Nat.le_of_ble_eq_true rfl) dd_DE_preallocate_55 rfl ?_
    refine ww_aload O dd_DE_preallocate_58 4 rfl ?_
    refine ww_iload_n O dd_DE_preallocate_60 2 rfl ?_
    refine ww_iload O dd_DE_preallocate_61 5 rfl ?_
    refine ww_iconst O dd_DE_preallocate_63 (v := nI 0) rfl ?_
    refine ww_eqs (st' := [.int (px_b false), .int (nI (b + n)), .int (nI b), .ref (dx_ad K f).1]) rfl ?_
    refine dx_callF (K := K) (f := f) O (by omega) (s := (((S f).1), ((S f).2.1), ((S f).2.2.1), ((S f).2.2.2.1), px_note ((S f).1) ((S f).2.2.2.2.1) 60, ((S f).2.2.2.2.2))) (s' := ((px_mh (60 * f) 0 (fun j => px_on ((S f).2.2.1) j || !false) 60 b (b + n) ((S f).1) ow).1, ((S f).2.1), ((S f).2.2.1), ((S f).2.2.2.1), (px_note ((S f).1) ((S f).2.2.2.2.1) 60), ((S f).2.2.2.2.2))) (ow := ow) (vl := vl) (ow' := (px_mh (60 * f) 0 (fun j => px_on ((S f).2.2.1) j || !false) 60 b (b + n) ((S f).1) ow).2) (vl' := vl) (cc_BF_mapHoles _ _ _ ((dx_ad K f).1) (dx_v K) (60 * f) ((dx_ad K f).2.1) ((dx_ad K f).2.2.1) ((dx_ad K f).2.2.2.1) ((dx_ad K f).2.2.2.2.1) ((dx_ad K f).2.2.2.2.2) (dx_vo K) (dx_vv K) ((S f).2.2.2.2.2) ((S f).1) ((S f).2.1) ((S f).2.2.1) ((S f).2.2.2.1) (px_note ((S f).1) ((S f).2.2.2.2.1) 60) ow vl b (b + n) false (by omega) (by omega)) (dx_up_at _ _ _) (S' := dx_up S f ((px_mh (60 * f) 0 (fun j => px_on ((S f).2.2.1) j || !false) 60 b (b + n) ((S f).1) ow).1, ((S f).2.1), ((S f).2.2.1), ((S f).2.2.2.1), (px_note ((S f).1) ((S f).2.2.2.2.1) 60), ((S f).2.2.2.2.2))) (dx_up_up _ _ _ _) lc_DE_74 lx_BF_mapHoles_IIZ_V rfl (by rw [hR]; decide) (by rw [hR]; decide) (by rw [hR]; decide) rfl (Nat.le_of_ble_eq_true rfl) dd_DE_preallocate_64 rfl ?_
    refine ww_aload_n O dd_DE_preallocate_67 0 rfl ?_
    refine dx_callE (K := K) O (cc_DE_isOverbooked _ _ _ K ((px_mh (60 * f) 0 (fun j => px_on ((S f).2.2.1) j || !false) 60 b (b + n) ((S f).1) ow).2) vl (dx_up S f ((px_mh (60 * f) 0 (fun j => px_on ((S f).2.2.1) j || !false) 60 b (b + n) ((S f).1) ow).1, ((S f).2.1), ((S f).2.2.1), ((S f).2.2.2.1), (px_note ((S f).1) ((S f).2.2.2.2.1) 60), ((S f).2.2.2.2.2))) hK (dx_rng hr hr2)) lc_DE_43 lx_DE_isOverbooked__Z rfl (by rw [hR]; decide) (by rw [hR]; decide) (by rw [hR]; decide) rfl (Nat.le_of_ble_eq_true rfl) dd_DE_preallocate_68 rfl ?_
    refine ww_if_eqB O dd_DE_preallocate_71 (tgt := 87) rfl (fun h71 => ?_) (fun h71 => ?_)
    · exact absurd (by simpa using h71) hov
    · refine ww_aload O dd_DE_preallocate_74 4 rfl ?_
      refine dx_callF (K := K) (f := f) O (by omega) (s := ((px_mh (60 * f) 0 (fun j => px_on ((S f).2.2.1) j || !false) 60 b (b + n) ((S f).1) ow).1, ((S f).2.1), ((S f).2.2.1), ((S f).2.2.2.1), (px_note ((S f).1) ((S f).2.2.2.2.1) 60), ((S f).2.2.2.2.2))) (s' := (px_cut (px_on (px_note ((S f).1) ((S f).2.2.2.2.1) 60)) ((px_mh (60 * f) 0 (fun j => px_on ((S f).2.2.1) j || !false) 60 b (b + n) ((S f).1) ow).1) 0 60 (-1), px_cut (fun j => px_on (px_note ((S f).1) ((S f).2.2.2.2.1) 60) j && !px_hole ((px_mh (60 * f) 0 (fun j => px_on ((S f).2.2.1) j || !false) 60 b (b + n) ((S f).1) ow).1) j) ((S f).2.1) 0 60 (nI 0), ((S f).2.2.1), ((S f).2.2.2.1), (px_note ((S f).1) ((S f).2.2.2.2.1) 60), ((S f).2.2.2.2.2))) (ow := (px_mh (60 * f) 0 (fun j => px_on ((S f).2.2.1) j || !false) 60 b (b + n) ((S f).1) ow).2) (vl := vl) (ow' := px_rel (px_on (px_note ((S f).1) ((S f).2.2.2.2.1) 60)) ((px_mh (60 * f) 0 (fun j => px_on ((S f).2.2.1) j || !false) 60 b (b + n) ((S f).1) ow).1) 60 0 ((px_mh (60 * f) 0 (fun j => px_on ((S f).2.2.1) j || !false) 60 b (b + n) ((S f).1) ow).2)) (vl' := vl) (cc_BF_restoreHoles _ _ _ ((dx_ad K f).1) (dx_v K) (60 * f) ((dx_ad K f).2.1) ((dx_ad K f).2.2.1) ((dx_ad K f).2.2.2.1) ((dx_ad K f).2.2.2.2.1) ((dx_ad K f).2.2.2.2.2) (dx_vo K) (dx_vv K) ((S f).2.2.2.2.2) ((px_mh (60 * f) 0 (fun j => px_on ((S f).2.2.1) j || !false) 60 b (b + n) ((S f).1) ow).1) ((S f).2.1) ((S f).2.2.1) ((S f).2.2.2.1) (px_note ((S f).1) ((S f).2.2.2.2.1) 60) ((px_mh (60 * f) 0 (fun j => px_on ((S f).2.2.1) j || !false) 60 b (b + n) ((S f).1) ow).2) vl hr2) (dx_up_at _ _ _) (S' := dx_up S f (px_cut (px_on (px_note ((S f).1) ((S f).2.2.2.2.1) 60)) ((px_mh (60 * f) 0 (fun j => px_on ((S f).2.2.1) j || !false) 60 b (b + n) ((S f).1) ow).1) 0 60 (-1), px_cut (fun j => px_on (px_note ((S f).1) ((S f).2.2.2.2.1) 60) j && !px_hole ((px_mh (60 * f) 0 (fun j => px_on ((S f).2.2.1) j || !false) 60 b (b + n) ((S f).1) ow).1) j) ((S f).2.1) 0 60 (nI 0), ((S f).2.2.1), ((S f).2.2.2.1), (px_note ((S f).1) ((S f).2.2.2.2.1) 60), ((S f).2.2.2.2.2))) (dx_up_up _ _ _ _) lc_DE_78 lx_BF_restoreHoles__V rfl (by rw [hR]; decide) (by rw [hR]; decide) (by rw [hR]; decide) rfl (Nat.le_of_ble_eq_true rfl) dd_DE_preallocate_76 rfl ?_
      exact wt_newF O hfl hh le_DE_53 (by decide +kernel) (by decide +kernel) lk_DE_51.1 lk_DE_51.2.1 lk_DE_51.2.2 (by rw [hR]; decide) (by rw [hR]; exact Nat.le_of_ble_eq_true rfl) (by rw [hR]; decide) (by rw [hR]; decide) dd_DE_preallocate_79 dd_DE_preallocate_82 dd_DE_preallocate_83 dd_DE_preallocate_86 F
  · exfalso; omega
set_option maxRecDepth 4000 in
theorem ce_DE_owner_p (l : Launch) (D : va_G) (g : Nat → ClassId) (K : dx_K) (ow : Nat → Int32) (vl : Nat → Int32) (S : Nat → dx_S) (x : Int32) (hfl : l.flags = pinnedFlags ++ [noTraceFlag]) (hK : dx_ok K) (hbad : px_nf x 79 = true) : wt_ct l D g yy_DE_owner bb_DE_owner 2 (some .int) (wt_rm 8) [.ref (dx_x K), .int x] (dx_w g K ow vl S) "java/lang/IndexOutOfBoundsException" (dx_w g K ow vl S) := by
  refine wt_start (by decide +kernel) rfl (Nat.le_of_ble_eq_true rfl) (L0 := [(0, .ref (dx_x K)), (1, .int x)]) rfl ?_
  intro X O hl hD hg hR hn hh F
  subst hl hD hg
  refine ww_iload_n O dd_DE_owner_0 1 rfl ?_
  exact dx_throwS O (ce_DE_requirePlace _ _ _ x hfl hbad) lc_DE_130 ls_DE_requirePlace_I_V hh (by rw [hR]; decide) (by rw [hR]; decide) (by rw [hR]; decide) rfl (Nat.le_of_ble_eq_true rfl) dd_DE_owner_1 rfl F
set_option maxRecDepth 4000 in
theorem cc_DE_owner (l : Launch) (D : va_G) (g : Nat → ClassId) (K : dx_K) (ow : Nat → Int32) (vl : Nat → Int32) (S : Nat → dx_S) (p : Nat) (hK : dx_ok K) (hp : p < 80) : ww_ct l D g yy_DE_owner bb_DE_owner 2 (some .int) (ww_rm 2) [.ref (dx_x K), .int (nI p)] (dx_w g K ow vl S) (some (.int (ow p))) (dx_w g K ow vl S) := by
  refine ww_start (by decide +kernel) rfl rfl (Nat.le_of_ble_eq_true rfl) (L0 := [(0, .ref (dx_x K)), (1, .int (nI p))]) rfl ?_
  intro X O hl hD hg hR hn F
  subst hl hD hg
  refine ww_iload_n O dd_DE_owner_0 1 rfl ?_
  refine dx_callS O (cc_DE_requirePlace _ _ _ p (by omega)) lc_DE_130 ls_DE_requirePlace_I_V (by rw [hR]; decide) (by rw [hR]; decide) (by rw [hR]; decide) rfl (Nat.le_of_ble_eq_true rfl) dd_DE_owner_1 rfl ?_
  refine ww_aload_n O dd_DE_owner_4 0 rfl ?_
  refine ww_get O ci_DE rfl 0 (by decide) lf_DE_10 rfl dd_DE_owner_5 0 rfl rfl ?_
  refine ww_iload_n O dd_DE_owner_8 1 rfl ?_
  refine dx_callU (K := K) (ow := ow) (vl := vl) O (cc_VO_ownerOf _ _ _ (dx_v K) (dx_vo K) (dx_vv K) ow vl p (by omega)) lc_DE_133 lx_VO_ownerOf_I_I rfl (by rw [hR]; decide) (by rw [hR]; decide) (by rw [hR]; decide) rfl (Nat.le_of_ble_eq_true rfl) dd_DE_owner_9 rfl ?_
  exact F.i dd_DE_owner_12
set_option maxRecDepth 4000 in
theorem ce_DE_value_p (l : Launch) (D : va_G) (g : Nat → ClassId) (K : dx_K) (ow : Nat → Int32) (vl : Nat → Int32) (S : Nat → dx_S) (x : Int32) (hfl : l.flags = pinnedFlags ++ [noTraceFlag]) (hK : dx_ok K) (hbad : px_nf x 79 = true) : wt_ct l D g yy_DE_value bb_DE_value 2 (some .int) (wt_rm 8) [.ref (dx_x K), .int x] (dx_w g K ow vl S) "java/lang/IndexOutOfBoundsException" (dx_w g K ow vl S) := by
  refine wt_start (by decide +kernel) rfl (Nat.le_of_ble_eq_true rfl) (L0 := [(0, .ref (dx_x K)), (1, .int x)]) rfl ?_
  intro X O hl hD hg hR hn hh F
  subst hl hD hg
  refine ww_iload_n O dd_DE_value_0 1 rfl ?_
  exact dx_throwS O (ce_DE_requirePlace _ _ _ x hfl hbad) lc_DE_130 ls_DE_requirePlace_I_V hh (by rw [hR]; decide) (by rw [hR]; decide) (by rw [hR]; decide) rfl (Nat.le_of_ble_eq_true rfl) dd_DE_value_1 rfl F
set_option maxRecDepth 4000 in
theorem cc_DE_value (l : Launch) (D : va_G) (g : Nat → ClassId) (K : dx_K) (ow : Nat → Int32) (vl : Nat → Int32) (S : Nat → dx_S) (p : Nat) (hK : dx_ok K) (hp : p < 80) : ww_ct l D g yy_DE_value bb_DE_value 2 (some .int) (ww_rm 2) [.ref (dx_x K), .int (nI p)] (dx_w g K ow vl S) (some (.int (vl p))) (dx_w g K ow vl S) := by
  refine ww_start (by decide +kernel) rfl rfl (Nat.le_of_ble_eq_true rfl) (L0 := [(0, .ref (dx_x K)), (1, .int (nI p))]) rfl ?_
  intro X O hl hD hg hR hn F
  subst hl hD hg
  refine ww_iload_n O dd_DE_value_0 1 rfl ?_
  refine dx_callS O (cc_DE_requirePlace _ _ _ p (by omega)) lc_DE_130 ls_DE_requirePlace_I_V (by rw [hR]; decide) (by rw [hR]; decide) (by rw [hR]; decide) rfl (Nat.le_of_ble_eq_true rfl) dd_DE_value_1 rfl ?_
  refine ww_aload_n O dd_DE_value_4 0 rfl ?_
  refine ww_get O ci_DE rfl 0 (by decide) lf_DE_10 rfl dd_DE_value_5 0 rfl rfl ?_
  refine ww_iload_n O dd_DE_value_8 1 rfl ?_
  refine dx_callU (K := K) (ow := ow) (vl := vl) O (cc_VO_valueAt _ _ _ (dx_v K) (dx_vo K) (dx_vv K) ow vl p (by omega)) lc_DE_136 lx_VO_valueAt_I_I rfl (by rw [hR]; decide) (by rw [hR]; decide) (by rw [hR]; decide) rfl (Nat.le_of_ble_eq_true rfl) dd_DE_value_9 rfl ?_
  exact F.i dd_DE_value_12
set_option maxRecDepth 4000 in
theorem ce_DE_about_f (l : Launch) (D : va_G) (g : Nat → ClassId) (K : dx_K) (ow : Nat → Int32) (vl : Nat → Int32) (S : Nat → dx_S) (x : Int32) (y : Int32) (hfl : l.flags = pinnedFlags ++ [noTraceFlag]) (hK : dx_ok K) (hbad : px_nf x 3 = true) : wt_ct l D g yy_DE_about bb_DE_about 4 (some .int) (wt_rm 8) [.ref (dx_x K), .int x, .int y] (dx_w g K ow vl S) "java/lang/IndexOutOfBoundsException" (dx_w g K ow vl S) := by
  refine wt_start (by decide +kernel) rfl (Nat.le_of_ble_eq_true rfl) (L0 := [(0, .ref (dx_x K)), (1, .int x), (2, .int y)]) rfl ?_
  intro X O hl hD hg hR hn hh F
  subst hl hD hg
  refine ww_iload_n O dd_DE_about_0 1 rfl ?_
  exact dx_throwS O (ce_DE_requireFile _ _ _ x hfl hbad) lc_DE_84 ls_DE_requireFile_I_V hh (by rw [hR]; decide) (by rw [hR]; decide) (by rw [hR]; decide) rfl (Nat.le_of_ble_eq_true rfl) dd_DE_about_1 rfl F
set_option maxRecDepth 4000 in
theorem ce_DE_about_w (l : Launch) (D : va_G) (g : Nat → ClassId) (K : dx_K) (ow : Nat → Int32) (vl : Nat → Int32) (S : Nat → dx_S) (f : Nat) (x : Int32) (hfl : l.flags = pinnedFlags ++ [noTraceFlag]) (hK : dx_ok K) (hf : f < 4) (hbad : x < 0 ∨ ¬ x ≤ nI 5) : wt_ct l D g yy_DE_about bb_DE_about 4 (some .int) (wt_rm 8) [.ref (dx_x K), .int (nI f), .int x] (dx_w g K ow vl S) "java/lang/IllegalArgumentException" (dx_w g K ow vl S) := by
  refine wt_start (by decide +kernel) rfl (Nat.le_of_ble_eq_true rfl) (L0 := [(0, .ref (dx_x K)), (1, .int (nI f)), (2, .int x)]) rfl ?_
  intro X O hl hD hg hR hn hh F
  subst hl hD hg
  refine ww_iload_n O dd_DE_about_0 1 rfl ?_
  refine dx_callS O (cc_DE_requireFile _ _ _ f (by omega)) lc_DE_84 ls_DE_requireFile_I_V (by rw [hR]; decide) (by rw [hR]; decide) (by rw [hR]; decide) rfl (Nat.le_of_ble_eq_true rfl) dd_DE_about_1 rfl ?_
  refine ww_aload_n O dd_DE_about_4 0 rfl ?_
  refine ww_get O ci_DE rfl 1 (by decide) lf_DE_18 rfl dd_DE_about_5 0 rfl rfl ?_
  refine ww_iload_n O dd_DE_about_8 1 rfl ?_
  refine ww_aald O dd_DE_about_9 4 rfl (by omega) (by decide) (hK f (by omega)) ?_
  refine ww_astore_n O dd_DE_about_10 (by rw [hn]; decide) rfl (L' := [(0, .ref (dx_x K)), (1, .int (nI f)), (2, .int x), (3, .ref ((dx_ad K f).1))]) rfl ?_
  refine ww_iload_n O dd_DE_about_11 2 rfl ?_
  refine ww_tabOut O dd_DE_about_12 (tgt := 85) (px_out (k := 5) (by decide) hbad) rfl ?_
  exact wt_newF O hfl hh le_DE_89 (by decide +kernel) (by decide +kernel) lk_DE_87.1 lk_DE_87.2.1 lk_DE_87.2.2 (by rw [hR]; decide) (by rw [hR]; exact Nat.le_of_ble_eq_true rfl) (by rw [hR]; decide) (by rw [hR]; decide) dd_DE_about_85 dd_DE_about_88 dd_DE_about_89 dd_DE_about_92 F
set_option maxRecDepth 4000 in
theorem cc_DE_about_0 (l : Launch) (D : va_G) (g : Nat → ClassId) (K : dx_K) (ow : Nat → Int32) (vl : Nat → Int32) (S : Nat → dx_S) (f : Nat) (hK : dx_ok K) (hf : f < 4) (hr : ∀ j, j < 4 → px_rng (S j).1 0 60) : ww_ct l D g yy_DE_about bb_DE_about 4 (some .int) (ww_rm 5) [.ref (dx_x K), .int (nI f), .int (nI 0)] (dx_w g K ow vl S) (some (.int ((S f).2.2.2.2.2))) (dx_w g K ow vl S) := by
  refine ww_start (by decide +kernel) rfl rfl (Nat.le_of_ble_eq_true rfl) (L0 := [(0, .ref (dx_x K)), (1, .int (nI f)), (2, .int (nI 0))]) rfl ?_
  intro X O hl hD hg hR hn F
  subst hl hD hg
  refine ww_iload_n O dd_DE_about_0 1 rfl ?_
  refine dx_callS O (cc_DE_requireFile _ _ _ f (by omega)) lc_DE_84 ls_DE_requireFile_I_V (by rw [hR]; decide) (by rw [hR]; decide) (by rw [hR]; decide) rfl (Nat.le_of_ble_eq_true rfl) dd_DE_about_1 rfl ?_
  refine ww_aload_n O dd_DE_about_4 0 rfl ?_
  refine ww_get O ci_DE rfl 1 (by decide) lf_DE_18 rfl dd_DE_about_5 0 rfl rfl ?_
  refine ww_iload_n O dd_DE_about_8 1 rfl ?_
  refine ww_aald O dd_DE_about_9 4 rfl (by omega) (by decide) (hK f (by omega)) ?_
  refine ww_astore_n O dd_DE_about_10 (by rw [hn]; decide) rfl (L' := [(0, .ref (dx_x K)), (1, .int (nI f)), (2, .int (nI 0)), (3, .ref ((dx_ad K f).1))]) rfl ?_
  refine ww_iload_n O dd_DE_about_11 2 rfl ?_
  refine ww_tabIn O dd_DE_about_12 (off := 40) (tgt := 52) (by decide) (by decide) (by decide) rfl ?_
  refine ww_aload_n O dd_DE_about_52 3 rfl ?_
  refine dx_callF (K := K) (f := f) O (by omega) (s := ((S f).1, (S f).2.1, (S f).2.2.1, (S f).2.2.2.1, (S f).2.2.2.2.1, (S f).2.2.2.2.2)) (s' := (((S f).1), ((S f).2.1), ((S f).2.2.1), ((S f).2.2.2.1), ((S f).2.2.2.2.1), ((S f).2.2.2.2.2))) (ow := ow) (vl := vl) (ow' := ow) (vl' := vl) (cc_BF_size _ _ _ ((dx_ad K f).1) (dx_v K) (60 * f) ((dx_ad K f).2.1) ((dx_ad K f).2.2.1) ((dx_ad K f).2.2.2.1) ((dx_ad K f).2.2.2.2.1) ((dx_ad K f).2.2.2.2.2) (dx_vo K) (dx_vv K) ((S f).2.2.2.2.2) ((S f).1) ((S f).2.1) ((S f).2.2.1) ((S f).2.2.2.1) ((S f).2.2.2.2.1) ow vl ) rfl (S' := S) (dx_up_id S f) lc_DE_114 lx_BF_size__I rfl (by rw [hR]; decide) (by rw [hR]; decide) (by rw [hR]; decide) rfl (Nat.le_of_ble_eq_true rfl) dd_DE_about_53 rfl ?_
  exact F.i dd_DE_about_56
set_option maxRecDepth 4000 in
theorem cc_DE_about_1 (l : Launch) (D : va_G) (g : Nat → ClassId) (K : dx_K) (ow : Nat → Int32) (vl : Nat → Int32) (S : Nat → dx_S) (f : Nat) (hK : dx_ok K) (hf : f < 4) (hr : ∀ j, j < 4 → px_rng (S j).1 0 60) : ww_ct l D g yy_DE_about bb_DE_about 4 (some .int) (ww_rm 5) [.ref (dx_x K), .int (nI f), .int (nI 1)] (dx_w g K ow vl S) (some (.int (nI (px_mm (S f).1 0)))) (dx_w g K ow vl S) := by
  refine ww_start (by decide +kernel) rfl rfl (Nat.le_of_ble_eq_true rfl) (L0 := [(0, .ref (dx_x K)), (1, .int (nI f)), (2, .int (nI 1))]) rfl ?_
  intro X O hl hD hg hR hn F
  subst hl hD hg
  refine ww_iload_n O dd_DE_about_0 1 rfl ?_
  refine dx_callS O (cc_DE_requireFile _ _ _ f (by omega)) lc_DE_84 ls_DE_requireFile_I_V (by rw [hR]; decide) (by rw [hR]; decide) (by rw [hR]; decide) rfl (Nat.le_of_ble_eq_true rfl) dd_DE_about_1 rfl ?_
  refine ww_aload_n O dd_DE_about_4 0 rfl ?_
  refine ww_get O ci_DE rfl 1 (by decide) lf_DE_18 rfl dd_DE_about_5 0 rfl rfl ?_
  refine ww_iload_n O dd_DE_about_8 1 rfl ?_
  refine ww_aald O dd_DE_about_9 4 rfl (by omega) (by decide) (hK f (by omega)) ?_
  refine ww_astore_n O dd_DE_about_10 (by rw [hn]; decide) rfl (L' := [(0, .ref (dx_x K)), (1, .int (nI f)), (2, .int (nI 1)), (3, .ref ((dx_ad K f).1))]) rfl ?_
  refine ww_iload_n O dd_DE_about_11 2 rfl ?_
  refine ww_tabIn O dd_DE_about_12 (off := 45) (tgt := 57) (by decide) (by decide) (by decide) rfl ?_
  refine ww_aload_n O dd_DE_about_57 3 rfl ?_
  refine dx_callF (K := K) (f := f) O (by omega) (s := ((S f).1, (S f).2.1, (S f).2.2.1, (S f).2.2.2.1, (S f).2.2.2.2.1, (S f).2.2.2.2.2)) (s' := (((S f).1), ((S f).2.1), ((S f).2.2.1), ((S f).2.2.2.1), ((S f).2.2.2.2.1), ((S f).2.2.2.2.2))) (ow := ow) (vl := vl) (ow' := ow) (vl' := vl) (cc_BF_countMapped _ _ _ ((dx_ad K f).1) (dx_v K) (60 * f) ((dx_ad K f).2.1) ((dx_ad K f).2.2.1) ((dx_ad K f).2.2.2.1) ((dx_ad K f).2.2.2.2.1) ((dx_ad K f).2.2.2.2.2) (dx_vo K) (dx_vv K) ((S f).2.2.2.2.2) ((S f).1) ((S f).2.1) ((S f).2.2.1) ((S f).2.2.2.1) ((S f).2.2.2.2.1) ow vl ) rfl (S' := S) (dx_up_id S f) lc_DE_117 lx_BF_countMapped__I rfl (by rw [hR]; decide) (by rw [hR]; decide) (by rw [hR]; decide) rfl (Nat.le_of_ble_eq_true rfl) dd_DE_about_58 rfl ?_
  exact F.i dd_DE_about_61
set_option maxRecDepth 4000 in
theorem cc_DE_about_2 (l : Launch) (D : va_G) (g : Nat → ClassId) (K : dx_K) (ow : Nat → Int32) (vl : Nat → Int32) (S : Nat → dx_S) (f : Nat) (hK : dx_ok K) (hf : f < 4) (hr : ∀ j, j < 4 → px_rng (S j).1 0 60) : ww_ct l D g yy_DE_about bb_DE_about 4 (some .int) (ww_rm 5) [.ref (dx_x K), .int (nI f), .int (nI 2)] (dx_w g K ow vl S) (some (.int (nI (px_ee (S f).1 (S f).2.1 0)))) (dx_w g K ow vl S) := by
  refine ww_start (by decide +kernel) rfl rfl (Nat.le_of_ble_eq_true rfl) (L0 := [(0, .ref (dx_x K)), (1, .int (nI f)), (2, .int (nI 2))]) rfl ?_
  intro X O hl hD hg hR hn F
  subst hl hD hg
  refine ww_iload_n O dd_DE_about_0 1 rfl ?_
  refine dx_callS O (cc_DE_requireFile _ _ _ f (by omega)) lc_DE_84 ls_DE_requireFile_I_V (by rw [hR]; decide) (by rw [hR]; decide) (by rw [hR]; decide) rfl (Nat.le_of_ble_eq_true rfl) dd_DE_about_1 rfl ?_
  refine ww_aload_n O dd_DE_about_4 0 rfl ?_
  refine ww_get O ci_DE rfl 1 (by decide) lf_DE_18 rfl dd_DE_about_5 0 rfl rfl ?_
  refine ww_iload_n O dd_DE_about_8 1 rfl ?_
  refine ww_aald O dd_DE_about_9 4 rfl (by omega) (by decide) (hK f (by omega)) ?_
  refine ww_astore_n O dd_DE_about_10 (by rw [hn]; decide) rfl (L' := [(0, .ref (dx_x K)), (1, .int (nI f)), (2, .int (nI 2)), (3, .ref ((dx_ad K f).1))]) rfl ?_
  refine ww_iload_n O dd_DE_about_11 2 rfl ?_
  refine ww_tabIn O dd_DE_about_12 (off := 50) (tgt := 62) (by decide) (by decide) (by decide) rfl ?_
  refine ww_aload_n O dd_DE_about_62 3 rfl ?_
  refine dx_callF (K := K) (f := f) O (by omega) (s := ((S f).1, (S f).2.1, (S f).2.2.1, (S f).2.2.2.1, (S f).2.2.2.2.1, (S f).2.2.2.2.2)) (s' := (((S f).1), ((S f).2.1), ((S f).2.2.1), ((S f).2.2.2.1), ((S f).2.2.2.2.1), ((S f).2.2.2.2.2))) (ow := ow) (vl := vl) (ow' := ow) (vl' := vl) (cc_BF_countExtents _ _ _ ((dx_ad K f).1) (dx_v K) (60 * f) ((dx_ad K f).2.1) ((dx_ad K f).2.2.1) ((dx_ad K f).2.2.2.1) ((dx_ad K f).2.2.2.2.1) ((dx_ad K f).2.2.2.2.2) (dx_vo K) (dx_vv K) ((S f).2.2.2.2.2) ((S f).1) ((S f).2.1) ((S f).2.2.1) ((S f).2.2.2.1) ((S f).2.2.2.2.1) ow vl (hr f (by omega))) rfl (S' := S) (dx_up_id S f) lc_DE_120 lx_BF_countExtents__I rfl (by rw [hR]; decide) (by rw [hR]; decide) (by rw [hR]; decide) rfl (Nat.le_of_ble_eq_true rfl) dd_DE_about_63 rfl ?_
  exact F.i dd_DE_about_66
set_option maxRecDepth 4000 in
theorem cc_DE_about_3 (l : Launch) (D : va_G) (g : Nat → ClassId) (K : dx_K) (ow : Nat → Int32) (vl : Nat → Int32) (S : Nat → dx_S) (f : Nat) (hK : dx_ok K) (hf : f < 4) (hr : ∀ j, j < 4 → px_rng (S j).1 0 60) : ww_ct l D g yy_DE_about bb_DE_about 4 (some .int) (ww_rm 5) [.ref (dx_x K), .int (nI f), .int (nI 3)] (dx_w g K ow vl S) (some (.int (nI (px_tree (px_ee (S f).1 (S f).2.1 0))))) (dx_w g K ow vl S) := by
  refine ww_start (by decide +kernel) rfl rfl (Nat.le_of_ble_eq_true rfl) (L0 := [(0, .ref (dx_x K)), (1, .int (nI f)), (2, .int (nI 3))]) rfl ?_
  intro X O hl hD hg hR hn F
  subst hl hD hg
  refine ww_iload_n O dd_DE_about_0 1 rfl ?_
  refine dx_callS O (cc_DE_requireFile _ _ _ f (by omega)) lc_DE_84 ls_DE_requireFile_I_V (by rw [hR]; decide) (by rw [hR]; decide) (by rw [hR]; decide) rfl (Nat.le_of_ble_eq_true rfl) dd_DE_about_1 rfl ?_
  refine ww_aload_n O dd_DE_about_4 0 rfl ?_
  refine ww_get O ci_DE rfl 1 (by decide) lf_DE_18 rfl dd_DE_about_5 0 rfl rfl ?_
  refine ww_iload_n O dd_DE_about_8 1 rfl ?_
  refine ww_aald O dd_DE_about_9 4 rfl (by omega) (by decide) (hK f (by omega)) ?_
  refine ww_astore_n O dd_DE_about_10 (by rw [hn]; decide) rfl (L' := [(0, .ref (dx_x K)), (1, .int (nI f)), (2, .int (nI 3)), (3, .ref ((dx_ad K f).1))]) rfl ?_
  refine ww_iload_n O dd_DE_about_11 2 rfl ?_
  refine ww_tabIn O dd_DE_about_12 (off := 55) (tgt := 67) (by decide) (by decide) (by decide) rfl ?_
  refine ww_aload_n O dd_DE_about_67 3 rfl ?_
  refine dx_callF (K := K) (f := f) O (by omega) (s := ((S f).1, (S f).2.1, (S f).2.2.1, (S f).2.2.2.1, (S f).2.2.2.2.1, (S f).2.2.2.2.2)) (s' := (((S f).1), ((S f).2.1), ((S f).2.2.1), ((S f).2.2.2.1), ((S f).2.2.2.2.1), ((S f).2.2.2.2.2))) (ow := ow) (vl := vl) (ow' := ow) (vl' := vl) (cc_BF_countExtents _ _ _ ((dx_ad K f).1) (dx_v K) (60 * f) ((dx_ad K f).2.1) ((dx_ad K f).2.2.1) ((dx_ad K f).2.2.2.1) ((dx_ad K f).2.2.2.2.1) ((dx_ad K f).2.2.2.2.2) (dx_vo K) (dx_vv K) ((S f).2.2.2.2.2) ((S f).1) ((S f).2.1) ((S f).2.2.1) ((S f).2.2.2.1) ((S f).2.2.2.2.1) ow vl (hr f (by omega))) rfl (S' := S) (dx_up_id S f) lc_DE_120 lx_BF_countExtents__I rfl (by rw [hR]; decide) (by rw [hR]; decide) (by rw [hR]; decide) rfl (Nat.le_of_ble_eq_true rfl) dd_DE_about_68 rfl ?_
  refine dx_callS O (cc_DE_treeBlocks _ _ _ (px_ee ((S f).1) ((S f).2.1) 0) (Nat.lt_of_le_of_lt (px_ex_le _ _ 60 0 0) (by decide))) lc_DE_123 ls_DE_treeBlocks_I_I (by rw [hR]; decide) (by rw [hR]; decide) (by rw [hR]; decide) rfl (Nat.le_of_ble_eq_true rfl) dd_DE_about_71 rfl ?_
  exact F.i dd_DE_about_74
set_option maxRecDepth 4000 in
theorem cc_DE_about_4 (l : Launch) (D : va_G) (g : Nat → ClassId) (K : dx_K) (ow : Nat → Int32) (vl : Nat → Int32) (S : Nat → dx_S) (f : Nat) (hK : dx_ok K) (hf : f < 4) (hr : ∀ j, j < 4 → px_rng (S j).1 0 60) : ww_ct l D g yy_DE_about bb_DE_about 4 (some .int) (ww_rm 5) [.ref (dx_x K), .int (nI f), .int (nI 4)] (dx_w g K ow vl S) (some (.int (nI (px_pp (S f).2.2.1 0)))) (dx_w g K ow vl S) := by
  refine ww_start (by decide +kernel) rfl rfl (Nat.le_of_ble_eq_true rfl) (L0 := [(0, .ref (dx_x K)), (1, .int (nI f)), (2, .int (nI 4))]) rfl ?_
  intro X O hl hD hg hR hn F
  subst hl hD hg
  refine ww_iload_n O dd_DE_about_0 1 rfl ?_
  refine dx_callS O (cc_DE_requireFile _ _ _ f (by omega)) lc_DE_84 ls_DE_requireFile_I_V (by rw [hR]; decide) (by rw [hR]; decide) (by rw [hR]; decide) rfl (Nat.le_of_ble_eq_true rfl) dd_DE_about_1 rfl ?_
  refine ww_aload_n O dd_DE_about_4 0 rfl ?_
  refine ww_get O ci_DE rfl 1 (by decide) lf_DE_18 rfl dd_DE_about_5 0 rfl rfl ?_
  refine ww_iload_n O dd_DE_about_8 1 rfl ?_
  refine ww_aald O dd_DE_about_9 4 rfl (by omega) (by decide) (hK f (by omega)) ?_
  refine ww_astore_n O dd_DE_about_10 (by rw [hn]; decide) rfl (L' := [(0, .ref (dx_x K)), (1, .int (nI f)), (2, .int (nI 4)), (3, .ref ((dx_ad K f).1))]) rfl ?_
  refine ww_iload_n O dd_DE_about_11 2 rfl ?_
  refine ww_tabIn O dd_DE_about_12 (off := 63) (tgt := 75) (by decide) (by decide) (by decide) rfl ?_
  refine ww_aload_n O dd_DE_about_75 3 rfl ?_
  refine dx_callF (K := K) (f := f) O (by omega) (s := ((S f).1, (S f).2.1, (S f).2.2.1, (S f).2.2.2.1, (S f).2.2.2.2.1, (S f).2.2.2.2.2)) (s' := (((S f).1), ((S f).2.1), ((S f).2.2.1), ((S f).2.2.2.1), ((S f).2.2.2.2.1), ((S f).2.2.2.2.2))) (ow := ow) (vl := vl) (ow' := ow) (vl' := vl) (cc_BF_countPages _ _ _ ((dx_ad K f).1) (dx_v K) (60 * f) ((dx_ad K f).2.1) ((dx_ad K f).2.2.1) ((dx_ad K f).2.2.2.1) ((dx_ad K f).2.2.2.2.1) ((dx_ad K f).2.2.2.2.2) (dx_vo K) (dx_vv K) ((S f).2.2.2.2.2) ((S f).1) ((S f).2.1) ((S f).2.2.1) ((S f).2.2.2.1) ((S f).2.2.2.2.1) ow vl ) rfl (S' := S) (dx_up_id S f) lc_DE_126 lx_BF_countPages__I rfl (by rw [hR]; decide) (by rw [hR]; decide) (by rw [hR]; decide) rfl (Nat.le_of_ble_eq_true rfl) dd_DE_about_76 rfl ?_
  exact F.i dd_DE_about_79
set_option maxRecDepth 4000 in
theorem cc_DE_about_5 (l : Launch) (D : va_G) (g : Nat → ClassId) (K : dx_K) (ow : Nat → Int32) (vl : Nat → Int32) (S : Nat → dx_S) (f : Nat) (hK : dx_ok K) (hf : f < 4) (hr : ∀ j, j < 4 → px_rng (S j).1 0 60) : ww_ct l D g yy_DE_about bb_DE_about 4 (some .int) (ww_rm 5) [.ref (dx_x K), .int (nI f), .int (nI 5)] (dx_w g K ow vl S) (some (.int (nI (px_res (S f).1 (S f).2.1 (S f).2.2.1 0)))) (dx_w g K ow vl S) := by
  refine ww_start (by decide +kernel) rfl rfl (Nat.le_of_ble_eq_true rfl) (L0 := [(0, .ref (dx_x K)), (1, .int (nI f)), (2, .int (nI 5))]) rfl ?_
  intro X O hl hD hg hR hn F
  subst hl hD hg
  refine ww_iload_n O dd_DE_about_0 1 rfl ?_
  refine dx_callS O (cc_DE_requireFile _ _ _ f (by omega)) lc_DE_84 ls_DE_requireFile_I_V (by rw [hR]; decide) (by rw [hR]; decide) (by rw [hR]; decide) rfl (Nat.le_of_ble_eq_true rfl) dd_DE_about_1 rfl ?_
  refine ww_aload_n O dd_DE_about_4 0 rfl ?_
  refine ww_get O ci_DE rfl 1 (by decide) lf_DE_18 rfl dd_DE_about_5 0 rfl rfl ?_
  refine ww_iload_n O dd_DE_about_8 1 rfl ?_
  refine ww_aald O dd_DE_about_9 4 rfl (by omega) (by decide) (hK f (by omega)) ?_
  refine ww_astore_n O dd_DE_about_10 (by rw [hn]; decide) rfl (L' := [(0, .ref (dx_x K)), (1, .int (nI f)), (2, .int (nI 5)), (3, .ref ((dx_ad K f).1))]) rfl ?_
  refine ww_iload_n O dd_DE_about_11 2 rfl ?_
  refine ww_tabIn O dd_DE_about_12 (off := 68) (tgt := 80) (by decide) (by decide) (by decide) rfl ?_
  refine ww_aload_n O dd_DE_about_80 3 rfl ?_
  refine dx_callF (K := K) (f := f) O (by omega) (s := ((S f).1, (S f).2.1, (S f).2.2.1, (S f).2.2.2.1, (S f).2.2.2.2.1, (S f).2.2.2.2.2)) (s' := (((S f).1), ((S f).2.1), ((S f).2.2.1), ((S f).2.2.2.1), ((S f).2.2.2.2.1), ((S f).2.2.2.2.2))) (ow := ow) (vl := vl) (ow' := ow) (vl' := vl) (cc_BF_countReserved _ _ _ ((dx_ad K f).1) (dx_v K) (60 * f) ((dx_ad K f).2.1) ((dx_ad K f).2.2.1) ((dx_ad K f).2.2.2.1) ((dx_ad K f).2.2.2.2.1) ((dx_ad K f).2.2.2.2.2) (dx_vo K) (dx_vv K) ((S f).2.2.2.2.2) ((S f).1) ((S f).2.1) ((S f).2.2.1) ((S f).2.2.2.1) ((S f).2.2.2.2.1) ow vl (hr f (by omega))) rfl (S' := S) (dx_up_id S f) lc_DE_127 lx_BF_countReserved__I rfl (by rw [hR]; decide) (by rw [hR]; decide) (by rw [hR]; decide) rfl (Nat.le_of_ble_eq_true rfl) dd_DE_about_81 rfl ?_
  exact F.i dd_DE_about_84
set_option maxRecDepth 4000 in
theorem ce_DE_extent_f (l : Launch) (D : va_G) (g : Nat → ClassId) (K : dx_K) (ow : Nat → Int32) (vl : Nat → Int32) (S : Nat → dx_S) (x : Int32) (y : Int32) (z : Int32) (hfl : l.flags = pinnedFlags ++ [noTraceFlag]) (hK : dx_ok K) (hbad : px_nf x 3 = true) : wt_ct l D g yy_DE_extent bb_DE_extent 6 (some .int) (wt_rm 8) [.ref (dx_x K), .int x, .int y, .int z] (dx_w g K ow vl S) "java/lang/IndexOutOfBoundsException" (dx_w g K ow vl S) := by
  refine wt_start (by decide +kernel) rfl (Nat.le_of_ble_eq_true rfl) (L0 := [(0, .ref (dx_x K)), (1, .int x), (2, .int y), (3, .int z)]) rfl ?_
  intro X O hl hD hg hR hn hh F
  subst hl hD hg
  refine ww_iload_n O dd_DE_extent_0 1 rfl ?_
  exact dx_throwS O (ce_DE_requireFile _ _ _ x hfl hbad) lc_DE_84 ls_DE_requireFile_I_V hh (by rw [hR]; decide) (by rw [hR]; decide) (by rw [hR]; decide) rfl (Nat.le_of_ble_eq_true rfl) dd_DE_extent_1 rfl F
set_option maxRecDepth 4000 in
theorem ce_DE_extent_n (l : Launch) (D : va_G) (g : Nat → ClassId) (K : dx_K) (ow : Nat → Int32) (vl : Nat → Int32) (S : Nat → dx_S) (f : Nat) (y : Int32) (z : Int32) (hfl : l.flags = pinnedFlags ++ [noTraceFlag]) (hK : dx_ok K) (hf : f < 4) (hneg : y < 0) : wt_ct l D g yy_DE_extent bb_DE_extent 6 (some .int) (wt_rm 8) [.ref (dx_x K), .int (nI f), .int y, .int z] (dx_w g K ow vl S) "java/lang/IndexOutOfBoundsException" (dx_w g K ow vl S) := by
  refine wt_start (by decide +kernel) rfl (Nat.le_of_ble_eq_true rfl) (L0 := [(0, .ref (dx_x K)), (1, .int (nI f)), (2, .int y), (3, .int z)]) rfl ?_
  intro X O hl hD hg hR hn hh F
  subst hl hD hg
  refine ww_iload_n O dd_DE_extent_0 1 rfl ?_
  refine dx_callS O (cc_DE_requireFile _ _ _ f (by omega)) lc_DE_84 ls_DE_requireFile_I_V (by rw [hR]; decide) (by rw [hR]; decide) (by rw [hR]; decide) rfl (Nat.le_of_ble_eq_true rfl) dd_DE_extent_1 rfl ?_
  refine ww_aload_n O dd_DE_extent_4 0 rfl ?_
  refine ww_get O ci_DE rfl 1 (by decide) lf_DE_18 rfl dd_DE_extent_5 0 rfl rfl ?_
  refine ww_iload_n O dd_DE_extent_8 1 rfl ?_
  refine ww_aald O dd_DE_extent_9 4 rfl (by omega) (by decide) (hK f (by omega)) ?_
  refine ww_astore O dd_DE_extent_10 (by rw [hn]; decide) rfl (L' := [(0, .ref (dx_x K)), (1, .int (nI f)), (2, .int y), (3, .int z), (4, .ref ((dx_ad K f).1))]) rfl ?_
  refine ww_aload O dd_DE_extent_12 4 rfl ?_
  refine ww_iload_n O dd_DE_extent_14 2 rfl ?_
  refine dx_callF (K := K) (f := f) O (by omega) (s := ((S f).1, (S f).2.1, (S f).2.2.1, (S f).2.2.2.1, (S f).2.2.2.2.1, (S f).2.2.2.2.2)) (s' := (((S f).1), ((S f).2.1), ((S f).2.2.1), ((S f).2.2.2.1), ((S f).2.2.2.2.1), ((S f).2.2.2.2.2))) (ow := ow) (vl := vl) (ow' := ow) (vl' := vl) (cc_BF_first_neg _ _ _ ((dx_ad K f).1) (dx_v K) (60 * f) ((dx_ad K f).2.1) ((dx_ad K f).2.2.1) ((dx_ad K f).2.2.2.1) ((dx_ad K f).2.2.2.2.1) ((dx_ad K f).2.2.2.2.2) (dx_vo K) (dx_vv K) ((S f).2.2.2.2.2) ((S f).1) ((S f).2.1) ((S f).2.2.1) ((S f).2.2.2.1) ((S f).2.2.2.2.1) ow vl y hneg) rfl (S' := S) (dx_up_id S f) lc_DE_99 lx_BF_firstBlockOfExtent_I_I rfl (by rw [hR]; decide) (by rw [hR]; decide) (by rw [hR]; decide) rfl (Nat.le_of_ble_eq_true rfl) dd_DE_extent_15 rfl ?_
  refine ww_istore O dd_DE_extent_18 (by rw [hn]; decide) rfl (L' := [(0, .ref (dx_x K)), (1, .int (nI f)), (2, .int y), (3, .int z), (4, .ref ((dx_ad K f).1)), (5, .int (-1))]) rfl ?_
  refine ww_iload O dd_DE_extent_20 5 rfl ?_
  refine ww_iconst O dd_DE_extent_22 (v := (-1)) rfl ?_
  refine ww_icmp_ne O dd_DE_extent_23 (tgt := 34) rfl (fun h23 => ?_) (fun h23 => ?_)
  · exact absurd rfl h23
  · exact wt_newF O hfl hh le_DE_104 (by decide +kernel) (by decide +kernel) lk_DE_102.1 lk_DE_102.2.1 lk_DE_102.2.2 (by rw [hR]; decide) (by rw [hR]; exact Nat.le_of_ble_eq_true rfl) (by rw [hR]; decide) (by rw [hR]; decide) dd_DE_extent_26 dd_DE_extent_29 dd_DE_extent_30 dd_DE_extent_33 F
set_option maxRecDepth 4000 in
theorem ce_DE_extent_o (l : Launch) (D : va_G) (g : Nat → ClassId) (K : dx_K) (ow : Nat → Int32) (vl : Nat → Int32) (S : Nat → dx_S) (f : Nat) (i : Nat) (z : Int32) (hfl : l.flags = pinnedFlags ++ [noTraceFlag]) (hK : dx_ok K) (hf : f < 4) (hi : i < 2 ^ 31) (hr : ∀ j, j < 4 → px_rng (S j).1 0 60) (hnth : px_nth (S f).1 (S f).2.1 60 0 0 i = none) : wt_ct l D g yy_DE_extent bb_DE_extent 6 (some .int) (wt_rm 8) [.ref (dx_x K), .int (nI f), .int (nI i), .int z] (dx_w g K ow vl S) "java/lang/IndexOutOfBoundsException" (dx_w g K ow vl S) := by
  refine wt_start (by decide +kernel) rfl (Nat.le_of_ble_eq_true rfl) (L0 := [(0, .ref (dx_x K)), (1, .int (nI f)), (2, .int (nI i)), (3, .int z)]) rfl ?_
  intro X O hl hD hg hR hn hh F
  subst hl hD hg
  refine ww_iload_n O dd_DE_extent_0 1 rfl ?_
  refine dx_callS O (cc_DE_requireFile _ _ _ f (by omega)) lc_DE_84 ls_DE_requireFile_I_V (by rw [hR]; decide) (by rw [hR]; decide) (by rw [hR]; decide) rfl (Nat.le_of_ble_eq_true rfl) dd_DE_extent_1 rfl ?_
  refine ww_aload_n O dd_DE_extent_4 0 rfl ?_
  refine ww_get O ci_DE rfl 1 (by decide) lf_DE_18 rfl dd_DE_extent_5 0 rfl rfl ?_
  refine ww_iload_n O dd_DE_extent_8 1 rfl ?_
  refine ww_aald O dd_DE_extent_9 4 rfl (by omega) (by decide) (hK f (by omega)) ?_
  refine ww_astore O dd_DE_extent_10 (by rw [hn]; decide) rfl (L' := [(0, .ref (dx_x K)), (1, .int (nI f)), (2, .int (nI i)), (3, .int z), (4, .ref ((dx_ad K f).1))]) rfl ?_
  refine ww_aload O dd_DE_extent_12 4 rfl ?_
  refine ww_iload_n O dd_DE_extent_14 2 rfl ?_
  refine dx_callF (K := K) (f := f) O (by omega) (s := ((S f).1, (S f).2.1, (S f).2.2.1, (S f).2.2.2.1, (S f).2.2.2.2.1, (S f).2.2.2.2.2)) (s' := (((S f).1), ((S f).2.1), ((S f).2.2.1), ((S f).2.2.2.1), ((S f).2.2.2.2.1), ((S f).2.2.2.2.2))) (ow := ow) (vl := vl) (ow' := ow) (vl' := vl) (cc_BF_firstBlockOfExtent _ _ _ ((dx_ad K f).1) (dx_v K) (60 * f) ((dx_ad K f).2.1) ((dx_ad K f).2.2.1) ((dx_ad K f).2.2.2.1) ((dx_ad K f).2.2.2.2.1) ((dx_ad K f).2.2.2.2.2) (dx_vo K) (dx_vv K) ((S f).2.2.2.2.2) ((S f).1) ((S f).2.1) ((S f).2.2.1) ((S f).2.2.2.1) ((S f).2.2.2.2.1) ow vl i (hr f (by omega)) (by omega)) rfl (S' := S) (dx_up_id S f) lc_DE_99 lx_BF_firstBlockOfExtent_I_I rfl (by rw [hR]; decide) (by rw [hR]; decide) (by rw [hR]; decide) rfl (Nat.le_of_ble_eq_true rfl) dd_DE_extent_15 rfl ?_
  rw [hnth]
  refine ww_eqs (st' := [.int (-1)]) rfl ?_
  refine ww_istore O dd_DE_extent_18 (by rw [hn]; decide) rfl (L' := [(0, .ref (dx_x K)), (1, .int (nI f)), (2, .int (nI i)), (3, .int z), (4, .ref ((dx_ad K f).1)), (5, .int (-1))]) rfl ?_
  refine ww_iload O dd_DE_extent_20 5 rfl ?_
  refine ww_iconst O dd_DE_extent_22 (v := (-1)) rfl ?_
  refine ww_icmp_ne O dd_DE_extent_23 (tgt := 34) rfl (fun h23 => ?_) (fun h23 => ?_)
  · exact absurd rfl h23
  · exact wt_newF O hfl hh le_DE_104 (by decide +kernel) (by decide +kernel) lk_DE_102.1 lk_DE_102.2.1 lk_DE_102.2.2 (by rw [hR]; decide) (by rw [hR]; exact Nat.le_of_ble_eq_true rfl) (by rw [hR]; decide) (by rw [hR]; decide) dd_DE_extent_26 dd_DE_extent_29 dd_DE_extent_30 dd_DE_extent_33 F
set_option maxRecDepth 4000 in
theorem ce_DE_extent_w (l : Launch) (D : va_G) (g : Nat → ClassId) (K : dx_K) (ow : Nat → Int32) (vl : Nat → Int32) (S : Nat → dx_S) (f : Nat) (i : Nat) (q : Nat) (z : Int32) (hfl : l.flags = pinnedFlags ++ [noTraceFlag]) (hK : dx_ok K) (hf : f < 4) (hi : i < 2 ^ 31) (hr : ∀ j, j < 4 → px_rng (S j).1 0 60) (hnth : px_nth (S f).1 (S f).2.1 60 0 0 i = some q) (hq : q < 60) (hbad : z < 0 ∨ ¬ z ≤ nI 3) : wt_ct l D g yy_DE_extent bb_DE_extent 6 (some .int) (wt_rm 8) [.ref (dx_x K), .int (nI f), .int (nI i), .int z] (dx_w g K ow vl S) "java/lang/IllegalArgumentException" (dx_w g K ow vl S) := by
  refine wt_start (by decide +kernel) rfl (Nat.le_of_ble_eq_true rfl) (L0 := [(0, .ref (dx_x K)), (1, .int (nI f)), (2, .int (nI i)), (3, .int z)]) rfl ?_
  intro X O hl hD hg hR hn hh F
  subst hl hD hg
  refine ww_iload_n O dd_DE_extent_0 1 rfl ?_
  refine dx_callS O (cc_DE_requireFile _ _ _ f (by omega)) lc_DE_84 ls_DE_requireFile_I_V (by rw [hR]; decide) (by rw [hR]; decide) (by rw [hR]; decide) rfl (Nat.le_of_ble_eq_true rfl) dd_DE_extent_1 rfl ?_
  refine ww_aload_n O dd_DE_extent_4 0 rfl ?_
  refine ww_get O ci_DE rfl 1 (by decide) lf_DE_18 rfl dd_DE_extent_5 0 rfl rfl ?_
  refine ww_iload_n O dd_DE_extent_8 1 rfl ?_
  refine ww_aald O dd_DE_extent_9 4 rfl (by omega) (by decide) (hK f (by omega)) ?_
  refine ww_astore O dd_DE_extent_10 (by rw [hn]; decide) rfl (L' := [(0, .ref (dx_x K)), (1, .int (nI f)), (2, .int (nI i)), (3, .int z), (4, .ref ((dx_ad K f).1))]) rfl ?_
  refine ww_aload O dd_DE_extent_12 4 rfl ?_
  refine ww_iload_n O dd_DE_extent_14 2 rfl ?_
  refine dx_callF (K := K) (f := f) O (by omega) (s := ((S f).1, (S f).2.1, (S f).2.2.1, (S f).2.2.2.1, (S f).2.2.2.2.1, (S f).2.2.2.2.2)) (s' := (((S f).1), ((S f).2.1), ((S f).2.2.1), ((S f).2.2.2.1), ((S f).2.2.2.2.1), ((S f).2.2.2.2.2))) (ow := ow) (vl := vl) (ow' := ow) (vl' := vl) (cc_BF_firstBlockOfExtent _ _ _ ((dx_ad K f).1) (dx_v K) (60 * f) ((dx_ad K f).2.1) ((dx_ad K f).2.2.1) ((dx_ad K f).2.2.2.1) ((dx_ad K f).2.2.2.2.1) ((dx_ad K f).2.2.2.2.2) (dx_vo K) (dx_vv K) ((S f).2.2.2.2.2) ((S f).1) ((S f).2.1) ((S f).2.2.1) ((S f).2.2.2.1) ((S f).2.2.2.2.1) ow vl i (hr f (by omega)) (by omega)) rfl (S' := S) (dx_up_id S f) lc_DE_99 lx_BF_firstBlockOfExtent_I_I rfl (by rw [hR]; decide) (by rw [hR]; decide) (by rw [hR]; decide) rfl (Nat.le_of_ble_eq_true rfl) dd_DE_extent_15 rfl ?_
  rw [hnth]
  refine ww_eqs (st' := [.int (nI q)]) rfl ?_
  refine ww_istore O dd_DE_extent_18 (by rw [hn]; decide) rfl (L' := [(0, .ref (dx_x K)), (1, .int (nI f)), (2, .int (nI i)), (3, .int z), (4, .ref ((dx_ad K f).1)), (5, .int (nI q))]) rfl ?_
  refine ww_iload O dd_DE_extent_20 5 rfl ?_
  refine ww_iconst O dd_DE_extent_22 (v := (-1)) rfl ?_
  refine ww_icmp_ne O dd_DE_extent_23 (tgt := 34) rfl (fun h23 => ?_) (fun h23 => ?_)
  · refine ww_iload_n O dd_DE_extent_34 3 rfl ?_
    refine ww_tabOut O dd_DE_extent_35 (tgt := 99) (px_out (k := 3) (by decide) hbad) rfl ?_
    exact wt_newF O hfl hh le_DE_89 (by decide +kernel) (by decide +kernel) lk_DE_87.1 lk_DE_87.2.1 lk_DE_87.2.2 (by rw [hR]; decide) (by rw [hR]; exact Nat.le_of_ble_eq_true rfl) (by rw [hR]; decide) (by rw [hR]; decide) dd_DE_extent_99 dd_DE_extent_102 dd_DE_extent_103 dd_DE_extent_106 F
  · exact absurd h23 (px_m1n (by omega))
set_option maxRecDepth 4000 in
theorem cc_DE_extent_0 (l : Launch) (D : va_G) (g : Nat → ClassId) (K : dx_K) (ow : Nat → Int32) (vl : Nat → Int32) (S : Nat → dx_S) (f : Nat) (i : Nat) (q : Nat) (hK : dx_ok K) (hf : f < 4) (hi : i < 2 ^ 31) (hr : ∀ j, j < 4 → px_rng (S j).1 0 60) (hnth : px_nth (S f).1 (S f).2.1 60 0 0 i = some q) (hq : q < 60) : ww_ct l D g yy_DE_extent bb_DE_extent 6 (some .int) (ww_rm 4) [.ref (dx_x K), .int (nI f), .int (nI i), .int (nI 0)] (dx_w g K ow vl S) (some (.int (nI q))) (dx_w g K ow vl S) := by
  refine ww_start (by decide +kernel) rfl rfl (Nat.le_of_ble_eq_true rfl) (L0 := [(0, .ref (dx_x K)), (1, .int (nI f)), (2, .int (nI i)), (3, .int (nI 0))]) rfl ?_
  intro X O hl hD hg hR hn F
  subst hl hD hg
  refine ww_iload_n O dd_DE_extent_0 1 rfl ?_
  refine dx_callS O (cc_DE_requireFile _ _ _ f (by omega)) lc_DE_84 ls_DE_requireFile_I_V (by rw [hR]; decide) (by rw [hR]; decide) (by rw [hR]; decide) rfl (Nat.le_of_ble_eq_true rfl) dd_DE_extent_1 rfl ?_
  refine ww_aload_n O dd_DE_extent_4 0 rfl ?_
  refine ww_get O ci_DE rfl 1 (by decide) lf_DE_18 rfl dd_DE_extent_5 0 rfl rfl ?_
  refine ww_iload_n O dd_DE_extent_8 1 rfl ?_
  refine ww_aald O dd_DE_extent_9 4 rfl (by omega) (by decide) (hK f (by omega)) ?_
  refine ww_astore O dd_DE_extent_10 (by rw [hn]; decide) rfl (L' := [(0, .ref (dx_x K)), (1, .int (nI f)), (2, .int (nI i)), (3, .int (nI 0)), (4, .ref ((dx_ad K f).1))]) rfl ?_
  refine ww_aload O dd_DE_extent_12 4 rfl ?_
  refine ww_iload_n O dd_DE_extent_14 2 rfl ?_
  refine dx_callF (K := K) (f := f) O (by omega) (s := ((S f).1, (S f).2.1, (S f).2.2.1, (S f).2.2.2.1, (S f).2.2.2.2.1, (S f).2.2.2.2.2)) (s' := (((S f).1), ((S f).2.1), ((S f).2.2.1), ((S f).2.2.2.1), ((S f).2.2.2.2.1), ((S f).2.2.2.2.2))) (ow := ow) (vl := vl) (ow' := ow) (vl' := vl) (cc_BF_firstBlockOfExtent _ _ _ ((dx_ad K f).1) (dx_v K) (60 * f) ((dx_ad K f).2.1) ((dx_ad K f).2.2.1) ((dx_ad K f).2.2.2.1) ((dx_ad K f).2.2.2.2.1) ((dx_ad K f).2.2.2.2.2) (dx_vo K) (dx_vv K) ((S f).2.2.2.2.2) ((S f).1) ((S f).2.1) ((S f).2.2.1) ((S f).2.2.2.1) ((S f).2.2.2.2.1) ow vl i (hr f (by omega)) (by omega)) rfl (S' := S) (dx_up_id S f) lc_DE_99 lx_BF_firstBlockOfExtent_I_I rfl (by rw [hR]; decide) (by rw [hR]; decide) (by rw [hR]; decide) rfl (Nat.le_of_ble_eq_true rfl) dd_DE_extent_15 rfl ?_
  rw [hnth]
  refine ww_eqs (st' := [.int (nI q)]) rfl ?_
  refine ww_istore O dd_DE_extent_18 (by rw [hn]; decide) rfl (L' := [(0, .ref (dx_x K)), (1, .int (nI f)), (2, .int (nI i)), (3, .int (nI 0)), (4, .ref ((dx_ad K f).1)), (5, .int (nI q))]) rfl ?_
  refine ww_iload O dd_DE_extent_20 5 rfl ?_
  refine ww_iconst O dd_DE_extent_22 (v := (-1)) rfl ?_
  refine ww_icmp_ne O dd_DE_extent_23 (tgt := 34) rfl (fun h23 => ?_) (fun h23 => ?_)
  · refine ww_iload_n O dd_DE_extent_34 3 rfl ?_
    refine ww_tabIn O dd_DE_extent_35 (off := 29) (tgt := 64) (by decide) (by decide) (by decide) rfl ?_
    refine ww_iload O dd_DE_extent_64 5 rfl ?_
    exact F.i dd_DE_extent_66
  · exact absurd h23 (px_m1n (by omega))
set_option maxRecDepth 4000 in
theorem cc_DE_extent_1 (l : Launch) (D : va_G) (g : Nat → ClassId) (K : dx_K) (ow : Nat → Int32) (vl : Nat → Int32) (S : Nat → dx_S) (f : Nat) (i : Nat) (q : Nat) (hK : dx_ok K) (hf : f < 4) (hi : i < 2 ^ 31) (hr : ∀ j, j < 4 → px_rng (S j).1 0 60) (hnth : px_nth (S f).1 (S f).2.1 60 0 0 i = some q) (hq : q < 60) : ww_ct l D g yy_DE_extent bb_DE_extent 6 (some .int) (ww_rm 4) [.ref (dx_x K), .int (nI f), .int (nI i), .int (nI 1)] (dx_w g K ow vl S) (some (.int ((S f).1 q))) (dx_w g K ow vl S) := by
  refine ww_start (by decide +kernel) rfl rfl (Nat.le_of_ble_eq_true rfl) (L0 := [(0, .ref (dx_x K)), (1, .int (nI f)), (2, .int (nI i)), (3, .int (nI 1))]) rfl ?_
  intro X O hl hD hg hR hn F
  subst hl hD hg
  refine ww_iload_n O dd_DE_extent_0 1 rfl ?_
  refine dx_callS O (cc_DE_requireFile _ _ _ f (by omega)) lc_DE_84 ls_DE_requireFile_I_V (by rw [hR]; decide) (by rw [hR]; decide) (by rw [hR]; decide) rfl (Nat.le_of_ble_eq_true rfl) dd_DE_extent_1 rfl ?_
  refine ww_aload_n O dd_DE_extent_4 0 rfl ?_
  refine ww_get O ci_DE rfl 1 (by decide) lf_DE_18 rfl dd_DE_extent_5 0 rfl rfl ?_
  refine ww_iload_n O dd_DE_extent_8 1 rfl ?_
  refine ww_aald O dd_DE_extent_9 4 rfl (by omega) (by decide) (hK f (by omega)) ?_
  refine ww_astore O dd_DE_extent_10 (by rw [hn]; decide) rfl (L' := [(0, .ref (dx_x K)), (1, .int (nI f)), (2, .int (nI i)), (3, .int (nI 1)), (4, .ref ((dx_ad K f).1))]) rfl ?_
  refine ww_aload O dd_DE_extent_12 4 rfl ?_
  refine ww_iload_n O dd_DE_extent_14 2 rfl ?_
  refine dx_callF (K := K) (f := f) O (by omega) (s := ((S f).1, (S f).2.1, (S f).2.2.1, (S f).2.2.2.1, (S f).2.2.2.2.1, (S f).2.2.2.2.2)) (s' := (((S f).1), ((S f).2.1), ((S f).2.2.1), ((S f).2.2.2.1), ((S f).2.2.2.2.1), ((S f).2.2.2.2.2))) (ow := ow) (vl := vl) (ow' := ow) (vl' := vl) (cc_BF_firstBlockOfExtent _ _ _ ((dx_ad K f).1) (dx_v K) (60 * f) ((dx_ad K f).2.1) ((dx_ad K f).2.2.1) ((dx_ad K f).2.2.2.1) ((dx_ad K f).2.2.2.2.1) ((dx_ad K f).2.2.2.2.2) (dx_vo K) (dx_vv K) ((S f).2.2.2.2.2) ((S f).1) ((S f).2.1) ((S f).2.2.1) ((S f).2.2.2.1) ((S f).2.2.2.2.1) ow vl i (hr f (by omega)) (by omega)) rfl (S' := S) (dx_up_id S f) lc_DE_99 lx_BF_firstBlockOfExtent_I_I rfl (by rw [hR]; decide) (by rw [hR]; decide) (by rw [hR]; decide) rfl (Nat.le_of_ble_eq_true rfl) dd_DE_extent_15 rfl ?_
  rw [hnth]
  refine ww_eqs (st' := [.int (nI q)]) rfl ?_
  refine ww_istore O dd_DE_extent_18 (by rw [hn]; decide) rfl (L' := [(0, .ref (dx_x K)), (1, .int (nI f)), (2, .int (nI i)), (3, .int (nI 1)), (4, .ref ((dx_ad K f).1)), (5, .int (nI q))]) rfl ?_
  refine ww_iload O dd_DE_extent_20 5 rfl ?_
  refine ww_iconst O dd_DE_extent_22 (v := (-1)) rfl ?_
  refine ww_icmp_ne O dd_DE_extent_23 (tgt := 34) rfl (fun h23 => ?_) (fun h23 => ?_)
  · refine ww_iload_n O dd_DE_extent_34 3 rfl ?_
    refine ww_tabIn O dd_DE_extent_35 (off := 32) (tgt := 67) (by decide) (by decide) (by decide) rfl ?_
    refine ww_aload O dd_DE_extent_67 4 rfl ?_
    refine ww_iload O dd_DE_extent_69 5 rfl ?_
    refine dx_callF (K := K) (f := f) O (by omega) (s := ((S f).1, (S f).2.1, (S f).2.2.1, (S f).2.2.2.1, (S f).2.2.2.2.1, (S f).2.2.2.2.2)) (s' := (((S f).1), ((S f).2.1), ((S f).2.2.1), ((S f).2.2.2.1), ((S f).2.2.2.2.1), ((S f).2.2.2.2.2))) (ow := ow) (vl := vl) (ow' := ow) (vl' := vl) (cc_BF_placeOf _ _ _ ((dx_ad K f).1) (dx_v K) (60 * f) ((dx_ad K f).2.1) ((dx_ad K f).2.2.1) ((dx_ad K f).2.2.2.1) ((dx_ad K f).2.2.2.2.1) ((dx_ad K f).2.2.2.2.2) (dx_vo K) (dx_vv K) ((S f).2.2.2.2.2) ((S f).1) ((S f).2.1) ((S f).2.2.1) ((S f).2.2.2.1) ((S f).2.2.2.2.1) ow vl q (by omega)) rfl (S' := S) (dx_up_id S f) lc_DE_105 lx_BF_placeOf_I_I rfl (by rw [hR]; decide) (by rw [hR]; decide) (by rw [hR]; decide) rfl (Nat.le_of_ble_eq_true rfl) dd_DE_extent_71 rfl ?_
    exact F.i dd_DE_extent_74
  · exact absurd h23 (px_m1n (by omega))
set_option maxRecDepth 4000 in
theorem cc_DE_extent_2 (l : Launch) (D : va_G) (g : Nat → ClassId) (K : dx_K) (ow : Nat → Int32) (vl : Nat → Int32) (S : Nat → dx_S) (f : Nat) (i : Nat) (q : Nat) (hK : dx_ok K) (hf : f < 4) (hi : i < 2 ^ 31) (hr : ∀ j, j < 4 → px_rng (S j).1 0 60) (hnth : px_nth (S f).1 (S f).2.1 60 0 0 i = some q) (hq : q < 60) : ww_ct l D g yy_DE_extent bb_DE_extent 6 (some .int) (ww_rm 4) [.ref (dx_x K), .int (nI f), .int (nI i), .int (nI 2)] (dx_w g K ow vl S) (some (.int (nI (px_len (S f).1 (S f).2.1 q)))) (dx_w g K ow vl S) := by
  refine ww_start (by decide +kernel) rfl rfl (Nat.le_of_ble_eq_true rfl) (L0 := [(0, .ref (dx_x K)), (1, .int (nI f)), (2, .int (nI i)), (3, .int (nI 2))]) rfl ?_
  intro X O hl hD hg hR hn F
  subst hl hD hg
  refine ww_iload_n O dd_DE_extent_0 1 rfl ?_
  refine dx_callS O (cc_DE_requireFile _ _ _ f (by omega)) lc_DE_84 ls_DE_requireFile_I_V (by rw [hR]; decide) (by rw [hR]; decide) (by rw [hR]; decide) rfl (Nat.le_of_ble_eq_true rfl) dd_DE_extent_1 rfl ?_
  refine ww_aload_n O dd_DE_extent_4 0 rfl ?_
  refine ww_get O ci_DE rfl 1 (by decide) lf_DE_18 rfl dd_DE_extent_5 0 rfl rfl ?_
  refine ww_iload_n O dd_DE_extent_8 1 rfl ?_
  refine ww_aald O dd_DE_extent_9 4 rfl (by omega) (by decide) (hK f (by omega)) ?_
  refine ww_astore O dd_DE_extent_10 (by rw [hn]; decide) rfl (L' := [(0, .ref (dx_x K)), (1, .int (nI f)), (2, .int (nI i)), (3, .int (nI 2)), (4, .ref ((dx_ad K f).1))]) rfl ?_
  refine ww_aload O dd_DE_extent_12 4 rfl ?_
  refine ww_iload_n O dd_DE_extent_14 2 rfl ?_
  refine dx_callF (K := K) (f := f) O (by omega) (s := ((S f).1, (S f).2.1, (S f).2.2.1, (S f).2.2.2.1, (S f).2.2.2.2.1, (S f).2.2.2.2.2)) (s' := (((S f).1), ((S f).2.1), ((S f).2.2.1), ((S f).2.2.2.1), ((S f).2.2.2.2.1), ((S f).2.2.2.2.2))) (ow := ow) (vl := vl) (ow' := ow) (vl' := vl) (cc_BF_firstBlockOfExtent _ _ _ ((dx_ad K f).1) (dx_v K) (60 * f) ((dx_ad K f).2.1) ((dx_ad K f).2.2.1) ((dx_ad K f).2.2.2.1) ((dx_ad K f).2.2.2.2.1) ((dx_ad K f).2.2.2.2.2) (dx_vo K) (dx_vv K) ((S f).2.2.2.2.2) ((S f).1) ((S f).2.1) ((S f).2.2.1) ((S f).2.2.2.1) ((S f).2.2.2.2.1) ow vl i (hr f (by omega)) (by omega)) rfl (S' := S) (dx_up_id S f) lc_DE_99 lx_BF_firstBlockOfExtent_I_I rfl (by rw [hR]; decide) (by rw [hR]; decide) (by rw [hR]; decide) rfl (Nat.le_of_ble_eq_true rfl) dd_DE_extent_15 rfl ?_
  rw [hnth]
  refine ww_eqs (st' := [.int (nI q)]) rfl ?_
  refine ww_istore O dd_DE_extent_18 (by rw [hn]; decide) rfl (L' := [(0, .ref (dx_x K)), (1, .int (nI f)), (2, .int (nI i)), (3, .int (nI 2)), (4, .ref ((dx_ad K f).1)), (5, .int (nI q))]) rfl ?_
  refine ww_iload O dd_DE_extent_20 5 rfl ?_
  refine ww_iconst O dd_DE_extent_22 (v := (-1)) rfl ?_
  refine ww_icmp_ne O dd_DE_extent_23 (tgt := 34) rfl (fun h23 => ?_) (fun h23 => ?_)
  · refine ww_iload_n O dd_DE_extent_34 3 rfl ?_
    refine ww_tabIn O dd_DE_extent_35 (off := 40) (tgt := 75) (by decide) (by decide) (by decide) rfl ?_
    refine ww_aload O dd_DE_extent_75 4 rfl ?_
    refine ww_iload O dd_DE_extent_77 5 rfl ?_
    refine dx_callF (K := K) (f := f) O (by omega) (s := ((S f).1, (S f).2.1, (S f).2.2.1, (S f).2.2.2.1, (S f).2.2.2.2.1, (S f).2.2.2.2.2)) (s' := (((S f).1), ((S f).2.1), ((S f).2.2.1), ((S f).2.2.2.1), ((S f).2.2.2.2.1), ((S f).2.2.2.2.2))) (ow := ow) (vl := vl) (ow' := ow) (vl' := vl) (cc_BF_extentLength _ _ _ ((dx_ad K f).1) (dx_v K) (60 * f) ((dx_ad K f).2.1) ((dx_ad K f).2.2.1) ((dx_ad K f).2.2.2.1) ((dx_ad K f).2.2.2.2.1) ((dx_ad K f).2.2.2.2.2) (dx_vo K) (dx_vv K) ((S f).2.2.2.2.2) ((S f).1) ((S f).2.1) ((S f).2.2.1) ((S f).2.2.2.1) ((S f).2.2.2.2.1) ow vl q (by omega)) rfl (S' := S) (dx_up_id S f) lc_DE_108 lx_BF_extentLength_I_I rfl (by rw [hR]; decide) (by rw [hR]; decide) (by rw [hR]; decide) rfl (Nat.le_of_ble_eq_true rfl) dd_DE_extent_79 rfl ?_
    exact F.i dd_DE_extent_82
  · exact absurd h23 (px_m1n (by omega))
set_option maxRecDepth 4000 in
theorem cc_DE_extent_3 (l : Launch) (D : va_G) (g : Nat → ClassId) (K : dx_K) (ow : Nat → Int32) (vl : Nat → Int32) (S : Nat → dx_S) (f : Nat) (i : Nat) (q : Nat) (hK : dx_ok K) (hf : f < 4) (hi : i < 2 ^ 31) (hr : ∀ j, j < 4 → px_rng (S j).1 0 60) (hnth : px_nth (S f).1 (S f).2.1 60 0 0 i = some q) (hq : q < 60) (h01 : (S f).2.1 q = 0 ∨ (S f).2.1 q = 1) : ww_ct l D g yy_DE_extent bb_DE_extent 6 (some .int) (ww_rm 4) [.ref (dx_x K), .int (nI f), .int (nI i), .int (nI 3)] (dx_w g K ow vl S) (some (.int (if (S f).2.1 q = 0 then nI 1 else nI 0))) (dx_w g K ow vl S) := by
  refine ww_start (by decide +kernel) rfl rfl (Nat.le_of_ble_eq_true rfl) (L0 := [(0, .ref (dx_x K)), (1, .int (nI f)), (2, .int (nI i)), (3, .int (nI 3))]) rfl ?_
  intro X O hl hD hg hR hn F
  subst hl hD hg
  refine ww_iload_n O dd_DE_extent_0 1 rfl ?_
  refine dx_callS O (cc_DE_requireFile _ _ _ f (by omega)) lc_DE_84 ls_DE_requireFile_I_V (by rw [hR]; decide) (by rw [hR]; decide) (by rw [hR]; decide) rfl (Nat.le_of_ble_eq_true rfl) dd_DE_extent_1 rfl ?_
  refine ww_aload_n O dd_DE_extent_4 0 rfl ?_
  refine ww_get O ci_DE rfl 1 (by decide) lf_DE_18 rfl dd_DE_extent_5 0 rfl rfl ?_
  refine ww_iload_n O dd_DE_extent_8 1 rfl ?_
  refine ww_aald O dd_DE_extent_9 4 rfl (by omega) (by decide) (hK f (by omega)) ?_
  refine ww_astore O dd_DE_extent_10 (by rw [hn]; decide) rfl (L' := [(0, .ref (dx_x K)), (1, .int (nI f)), (2, .int (nI i)), (3, .int (nI 3)), (4, .ref ((dx_ad K f).1))]) rfl ?_
  refine ww_aload O dd_DE_extent_12 4 rfl ?_
  refine ww_iload_n O dd_DE_extent_14 2 rfl ?_
  refine dx_callF (K := K) (f := f) O (by omega) (s := ((S f).1, (S f).2.1, (S f).2.2.1, (S f).2.2.2.1, (S f).2.2.2.2.1, (S f).2.2.2.2.2)) (s' := (((S f).1), ((S f).2.1), ((S f).2.2.1), ((S f).2.2.2.1), ((S f).2.2.2.2.1), ((S f).2.2.2.2.2))) (ow := ow) (vl := vl) (ow' := ow) (vl' := vl) (cc_BF_firstBlockOfExtent _ _ _ ((dx_ad K f).1) (dx_v K) (60 * f) ((dx_ad K f).2.1) ((dx_ad K f).2.2.1) ((dx_ad K f).2.2.2.1) ((dx_ad K f).2.2.2.2.1) ((dx_ad K f).2.2.2.2.2) (dx_vo K) (dx_vv K) ((S f).2.2.2.2.2) ((S f).1) ((S f).2.1) ((S f).2.2.1) ((S f).2.2.2.1) ((S f).2.2.2.2.1) ow vl i (hr f (by omega)) (by omega)) rfl (S' := S) (dx_up_id S f) lc_DE_99 lx_BF_firstBlockOfExtent_I_I rfl (by rw [hR]; decide) (by rw [hR]; decide) (by rw [hR]; decide) rfl (Nat.le_of_ble_eq_true rfl) dd_DE_extent_15 rfl ?_
  rw [hnth]
  refine ww_eqs (st' := [.int (nI q)]) rfl ?_
  refine ww_istore O dd_DE_extent_18 (by rw [hn]; decide) rfl (L' := [(0, .ref (dx_x K)), (1, .int (nI f)), (2, .int (nI i)), (3, .int (nI 3)), (4, .ref ((dx_ad K f).1)), (5, .int (nI q))]) rfl ?_
  refine ww_iload O dd_DE_extent_20 5 rfl ?_
  refine ww_iconst O dd_DE_extent_22 (v := (-1)) rfl ?_
  refine ww_icmp_ne O dd_DE_extent_23 (tgt := 34) rfl (fun h23 => ?_) (fun h23 => ?_)
  · refine ww_iload_n O dd_DE_extent_34 3 rfl ?_
    refine ww_tabIn O dd_DE_extent_35 (off := 48) (tgt := 83) (by decide) (by decide) (by decide) rfl ?_
    refine ww_aload O dd_DE_extent_83 4 rfl ?_
    refine ww_iload O dd_DE_extent_85 5 rfl ?_
    refine dx_callF (K := K) (f := f) O (by omega) (s := ((S f).1, (S f).2.1, (S f).2.2.1, (S f).2.2.2.1, (S f).2.2.2.2.1, (S f).2.2.2.2.2)) (s' := (((S f).1), ((S f).2.1), ((S f).2.2.1), ((S f).2.2.2.1), ((S f).2.2.2.2.1), ((S f).2.2.2.2.2))) (ow := ow) (vl := vl) (ow' := ow) (vl' := vl) (cc_BF_isWritten _ _ _ ((dx_ad K f).1) (dx_v K) (60 * f) ((dx_ad K f).2.1) ((dx_ad K f).2.2.1) ((dx_ad K f).2.2.2.1) ((dx_ad K f).2.2.2.2.1) ((dx_ad K f).2.2.2.2.2) (dx_vo K) (dx_vv K) ((S f).2.2.2.2.2) ((S f).1) ((S f).2.1) ((S f).2.2.1) ((S f).2.2.2.1) ((S f).2.2.2.2.1) ow vl q (by omega) (dx_wr h01)) rfl (S' := S) (dx_up_id S f) lc_DE_111 lx_BF_isWritten_I_Z rfl (by rw [hR]; decide) (by rw [hR]; decide) (by rw [hR]; decide) rfl (Nat.le_of_ble_eq_true rfl) dd_DE_extent_87 rfl ?_
    refine ww_if_eq O dd_DE_extent_90 (tgt := 97) rfl (fun h90 => ?_) (fun h90 => ?_)
    · refine ww_iconst O dd_DE_extent_97 (v := nI 1) rfl ?_
      rw [if_pos h90] at F
      exact F.i dd_DE_extent_98
    · refine ww_iconst O dd_DE_extent_93 (v := nI 0) rfl ?_
      refine ww_goto O dd_DE_extent_94 (tgt := 98) rfl ?_
      rw [if_neg h90] at F
      exact F.i dd_DE_extent_98
  · exact absurd h23 (px_m1n (by omega))
set_option maxRecDepth 4000 in
theorem cc_DE_crash (l : Launch) (D : va_G) (g : Nat → ClassId) (K : dx_K) (ow : Nat → Int32) (vl : Nat → Int32) (S : Nat → dx_S) (hK : dx_ok K) : ww_ct l D g yy_DE_crash bb_DE_crash 3 (some .int) (ww_rm 3) [.ref (dx_x K)] (dx_w g K ow vl S) (some (.int (nI (dx_pp S)))) (dx_w g K ow vl (fun j => if j < 4 then ((S j).1, (S j).2.1, px_fill (S j).2.2.1 0 60 (nI 0), (S j).2.2.2.1, (S j).2.2.2.2.1, (S j).2.2.2.2.2) else S j)) := by
  refine ww_start (by decide +kernel) rfl rfl (Nat.le_of_ble_eq_true rfl) (L0 := [(0, .ref (dx_x K))]) rfl ?_
  intro X O hl hD hg hR hn F
  subst hl hD hg
  have loop : ∀ (n i : Nat) (S2 : Nat → dx_S), 4 ≤ i + n → i ≤ 4 → S2 = (fun j => if j < i then ((S j).1, (S j).2.1, px_fill (S j).2.2.1 0 60 (nI 0), (S j).2.2.2.1, (S j).2.2.2.2.1, (S j).2.2.2.2.2) else S j) → ww_at X 0 0 7 [(0, .ref (dx_x K)), (1, .int (nI (dx_pp S))), (2, .int (nI i))] [] (dx_w (ww_g X) K ow vl S2) := by
    intro n
    induction n with
    | zero =>
      intro i S2 h1 h2 h3
      refine ww_iload_n O dd_DE_crash_7 2 rfl ?_
      refine ww_iconst O dd_DE_crash_8 (v := nI 4) rfl ?_
      refine ww_icmp_geN O dd_DE_crash_9 (tgt := 27) rfl (by omega) (by omega) (fun h9 => ?_) (fun h9 => ?_)
      · refine ww_iload_n O dd_DE_crash_27 1 rfl ?_
        have ei : i = 4 := by omega
        subst ei
        subst h3
        exact F.i dd_DE_crash_28
      · exfalso; omega
    | succ n ih =>
      intro i S2 h1 h2 h3
      refine ww_iload_n O dd_DE_crash_7 2 rfl ?_
      refine ww_iconst O dd_DE_crash_8 (v := nI 4) rfl ?_
      refine ww_icmp_geN O dd_DE_crash_9 (tgt := 27) rfl (by omega) (by omega) (fun h9 => ?_) (fun h9 => ?_)
      · refine ww_iload_n O dd_DE_crash_27 1 rfl ?_
        have ei : i = 4 := by omega
        subst ei
        subst h3
        exact F.i dd_DE_crash_28
      · refine ww_aload_n O dd_DE_crash_12 0 rfl ?_
        refine ww_get O ci_DE rfl 1 (by decide) lf_DE_18 rfl dd_DE_crash_13 0 rfl rfl ?_
        refine ww_iload_n O dd_DE_crash_16 2 rfl ?_
        refine ww_aald O dd_DE_crash_17 4 rfl (by omega) (by decide) (hK i (by omega)) ?_
        refine dx_callF (K := K) (f := i) O (by omega) (s := ((S2 i).1, (S2 i).2.1, (S2 i).2.2.1, (S2 i).2.2.2.1, (S2 i).2.2.2.2.1, (S2 i).2.2.2.2.2)) (s' := (((S2 i).1), ((S2 i).2.1), px_fill ((S2 i).2.2.1) 0 60 (nI 0), ((S2 i).2.2.2.1), ((S2 i).2.2.2.2.1), ((S2 i).2.2.2.2.2))) (ow := ow) (vl := vl) (ow' := ow) (vl' := vl) (cc_BF_dropPages _ _ _ ((dx_ad K i).1) (dx_v K) (60 * i) ((dx_ad K i).2.1) ((dx_ad K i).2.2.1) ((dx_ad K i).2.2.2.1) ((dx_ad K i).2.2.2.2.1) ((dx_ad K i).2.2.2.2.2) (dx_vo K) (dx_vv K) ((S2 i).2.2.2.2.2) ((S2 i).1) ((S2 i).2.1) ((S2 i).2.2.1) ((S2 i).2.2.2.1) ((S2 i).2.2.2.2.1) ow vl ) rfl (S' := dx_up S2 i (((S2 i).1), ((S2 i).2.1), px_fill ((S2 i).2.2.1) 0 60 (nI 0), ((S2 i).2.2.2.1), ((S2 i).2.2.2.2.1), ((S2 i).2.2.2.2.2))) rfl lc_DE_96 lx_BF_dropPages__V rfl (by rw [hR]; decide) (by rw [hR]; decide) (by rw [hR]; decide) rfl (Nat.le_of_ble_eq_true rfl) dd_DE_crash_18 rfl ?_
        refine ww_iinc O dd_DE_crash_21 2 rfl (v := nI (i + 1)) (nI_add _ 1) (by rw [hn]; decide) rfl (L' := [(0, .ref (dx_x K)), (1, .int (nI (dx_pp S))), (2, .int (nI (i + 1)))]) rfl ?_
        refine ww_goto O dd_DE_crash_24 (tgt := 7) rfl ?_
        refine ih (i + 1) _ (by omega) (by omega) ?_
        subst h3
        funext j
        unfold dx_up
        by_cases e : j = i
        · subst e; simp
        · rw [if_neg e]; by_cases e2 : j < i
          · simp only []; rw [if_pos e2, if_pos (by omega)]
          · simp only []; rw [if_neg e2, if_neg (by omega)]
  refine ww_aload_n O dd_DE_crash_0 0 rfl ?_
  refine dx_callE (K := K) O (cc_DE_countPages _ _ _ K ow vl S hK) lc_DE_33 lx_DE_countPages__I rfl (by rw [hR]; decide) (by rw [hR]; decide) (by rw [hR]; decide) rfl (Nat.le_of_ble_eq_true rfl) dd_DE_crash_1 rfl ?_
  refine ww_istore_n O dd_DE_crash_4 (by rw [hn]; decide) rfl (L' := [(0, .ref (dx_x K)), (1, .int (nI (dx_pp S)))]) rfl ?_
  refine ww_iconst O dd_DE_crash_5 (v := nI 0) rfl ?_
  refine ww_istore_n O dd_DE_crash_6 (by rw [hn]; decide) rfl (L' := [(0, .ref (dx_x K)), (1, .int (nI (dx_pp S))), (2, .int (nI 0))]) rfl ?_
  exact loop 4 0 S (by omega) (by omega) (by funext j; simp)
