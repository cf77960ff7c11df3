/-! the world of the class: one object, its volume, its four files -/
abbrev dx_S : Type := (Nat → Int32) × (Nat → Int32) × (Nat → Int32) × (Nat → Int32) × (Nat → Int32) × Int32
abbrev dx_A : Type := Nat × Nat × Nat × Nat × Nat × Nat
abbrev dx_K : Type := Nat × Nat × Nat × Nat × Nat × (Nat → dx_A) × (Nat → Option Nat)
abbrev dx_x (K : dx_K) : Nat := K.1
abbrev dx_v (K : dx_K) : Nat := K.2.1
abbrev dx_fa (K : dx_K) : Nat := K.2.2.1
abbrev dx_vo (K : dx_K) : Nat := K.2.2.2.1
abbrev dx_vv (K : dx_K) : Nat := K.2.2.2.2.1
abbrev dx_ad (K : dx_K) : Nat → dx_A := K.2.2.2.2.2.1
abbrev dx_fr (K : dx_K) : Nat → Option Nat := K.2.2.2.2.2.2
def dx_ok (K : dx_K) : Prop := ∀ j, j < 4 → dx_fr K j = some (dx_ad K j).1
def dx_vw (g : Nat → ClassId) (K : dx_K) (ow vl : Nat → Int32) : va_W := [(dx_v K, .inr (1, [.ref (dx_vo K), .ref (dx_vv K)])), (dx_vo K, .inl (g 0, 80, .inl ow)), (dx_vv K, .inl (g 0, 80, .inl vl))]
def dx_bw (g : Nat → ClassId) (K : dx_K) (f : Nat) (s : dx_S) : va_W := [((dx_ad K f).1, .inr (0, [.ref (dx_v K), .int (nI (60 * f)), .ref (dx_ad K f).2.1, .ref (dx_ad K f).2.2.1, .ref (dx_ad K f).2.2.2.1, .ref (dx_ad K f).2.2.2.2.1, .ref (dx_ad K f).2.2.2.2.2, .int s.2.2.2.2.2])), ((dx_ad K f).2.1, .inl (g 0, 60, .inl s.1)), ((dx_ad K f).2.2.1, .inl (g 1, 60, .inl s.2.1)), ((dx_ad K f).2.2.2.1, .inl (g 1, 60, .inl s.2.2.1)), ((dx_ad K f).2.2.2.2.1, .inl (g 0, 60, .inl s.2.2.2.1)), ((dx_ad K f).2.2.2.2.2, .inl (g 1, 60, .inl s.2.2.2.2.1))]
def dx_w (g : Nat → ClassId) (K : dx_K) (ow vl : Nat → Int32) (S : Nat → dx_S) : va_W :=
  (dx_x K, .inr (2, [.ref (dx_v K), .ref (dx_fa K)])) :: (dx_vw g K ow vl ++ ((dx_fa K, .inl (g 3, 4, .inr (.inr (.inr (.inr (dx_fr K)))))) :: (dx_bw g K 0 (S 0) ++ (dx_bw g K 1 (S 1) ++ (dx_bw g K 2 (S 2) ++ dx_bw g K 3 (S 3))))))
def dx_up (S : Nat → dx_S) (f : Nat) (s : dx_S) : Nat → dx_S := fun j => if j = f then s else S j
theorem dx_up_at (S : Nat → dx_S) (f : Nat) (s : dx_S) : dx_up S f s f = s := by simp [dx_up]
theorem dx_up_id (S : Nat → dx_S) (f : Nat) : dx_up S f (S f) = S := by
  funext j
  unfold dx_up
  split
  · rename_i e; rw [e]
  · rfl
theorem dx_up_up (S : Nat → dx_S) (f : Nat) (s t : dx_S) : dx_up (dx_up S f s) f t = dx_up S f t := by
  funext j
  unfold dx_up
  split <;> rfl
theorem dx_up_ne {S : Nat → dx_S} {f j : Nat} {s : dx_S} (h : j ≠ f) : dx_up S f s j = S j := by simp [dx_up, h]
section DXC
variable {X : ww_X} {cc : ByteArray} {own : String} {cs ss pc : Nat} {L : List (Nat × Value)} {st : List Value} {ws : va_W}
set_option maxRecDepth 4000 in
/-- a call of a method of the file f -/
theorem dx_callF (O : ww_ok X cc own) {index na n f : Nat} {y : MethodName} {b : ByteArray} {ret : Option FieldType} {rm : Room} {As : List Value} {K : dx_K} {ow vl ow' vl' : Nat → Int32} {S S' : Nat → dx_S} {s s' : dx_S} {r : Option Value} (hf : f < 4)
    (hM : ww_ct (ww_l X) (ww_D X) (ww_g X) y b n ret rm (.ref (dx_ad K f).1 :: As) (dx_bw (ww_g X) K f s ++ dx_vw (ww_g X) K ow vl) r (dx_bw (ww_g X) K f s' ++ dx_vw (ww_g X) K ow' vl'))
    (hSf : S f = s) (hS' : dx_up S f s' = S') (hs : ww_site own index y b n ret na) (hvi : ww_virt y) (hq : cs_BF = y.cls)
    (hRm : rm.frames + 1 ≤ (ww_R X).frames ∧ 8 + (n + 11) + rm.locals ≤ (ww_R X).locals) (hcs : cs + rm.cells ≤ (ww_R X).cells) (hss : ss + rm.slots ≤ (ww_R X).slots) (hna : As.length = na) (hst8 : (st.map fun v => v.category).sum ≤ 8) (d : decode cc pc = .ok (.invokevirtual index, 3)) {st0 : List Value} (hstk : st0 = As.reverse ++ .ref (dx_ad K f).1 :: st)
    (k : ww_at X (cs + rm.cells) (ss + rm.slots) (pc + 3) L (r.toList ++ st) (dx_w (ww_g X) K ow' vl' S')) : ww_at X cs ss pc L st0 (dx_w (ww_g X) K ow vl S) := by
  subst hSf hS'
  rcases (by omega : f = 0 ∨ f = 1 ∨ f = 2 ∨ f = 3) with rfl | rfl | rfl | rfl
  · exact ww_callV (q0 := 5) (ci := 0) O hM hs hvi rfl hq rfl hRm hcs hss hna hst8 d hstk [5, 6, 7, 8, 9, 10, 1, 2, 3] [0, 4, 11, 12, 13, 14, 15, 16, 17, 18, 19, 20, 21, 22, 23, 24, 25, 26, 27, 28] [0, 26, 27, 28, 1, 20, 21, 22, 23, 24, 25, 2, 3, 4, 5, 6, 7, 8, 9, 10, 11, 12, 13, 14, 15, 16, 17, 18, 19] rfl (by decide) rfl (by decide) (by decide) rfl rfl (by decide) k
  · exact ww_callV (q0 := 11) (ci := 0) O hM hs hvi rfl hq rfl hRm hcs hss hna hst8 d hstk [11, 12, 13, 14, 15, 16, 1, 2, 3] [0, 4, 5, 6, 7, 8, 9, 10, 17, 18, 19, 20, 21, 22, 23, 24, 25, 26, 27, 28] [0, 26, 27, 28, 1, 2, 3, 4, 5, 6, 7, 20, 21, 22, 23, 24, 25, 8, 9, 10, 11, 12, 13, 14, 15, 16, 17, 18, 19] rfl (by decide) rfl (by decide) (by decide) rfl rfl (by decide) k
  · exact ww_callV (q0 := 17) (ci := 0) O hM hs hvi rfl hq rfl hRm hcs hss hna hst8 d hstk [17, 18, 19, 20, 21, 22, 1, 2, 3] [0, 4, 5, 6, 7, 8, 9, 10, 11, 12, 13, 14, 15, 16, 23, 24, 25, 26, 27, 28] [0, 26, 27, 28, 1, 2, 3, 4, 5, 6, 7, 8, 9, 10, 11, 12, 13, 20, 21, 22, 23, 24, 25, 14, 15, 16, 17, 18, 19] rfl (by decide) rfl (by decide) (by decide) rfl rfl (by decide) k
  · exact ww_callV (q0 := 23) (ci := 0) O hM hs hvi rfl hq rfl hRm hcs hss hna hst8 d hstk [23, 24, 25, 26, 27, 28, 1, 2, 3] [0, 4, 5, 6, 7, 8, 9, 10, 11, 12, 13, 14, 15, 16, 17, 18, 19, 20, 21, 22] [0, 26, 27, 28, 1, 2, 3, 4, 5, 6, 7, 8, 9, 10, 11, 12, 13, 14, 15, 16, 17, 18, 19, 20, 21, 22, 23, 24, 25] rfl (by decide) rfl (by decide) (by decide) rfl rfl (by decide) k
/-- a call of a method of the volume that only looks -/
theorem dx_callU (O : ww_ok X cc own) {index na n : Nat} {y : MethodName} {b : ByteArray} {ret : Option FieldType} {rm : Room} {As : List Value} {K : dx_K} {ow vl : Nat → Int32} {S : Nat → dx_S} {r : Option Value}
    (hM : ww_ct (ww_l X) (ww_D X) (ww_g X) y b n ret rm (.ref (dx_v K) :: As) (dx_vw (ww_g X) K ow vl) r (dx_vw (ww_g X) K ow vl))
    (hs : ww_site own index y b n ret na) (hvi : ww_virt y) (hq : cs_VO = y.cls)
    (hRm : rm.frames + 1 ≤ (ww_R X).frames ∧ 8 + (n + 11) + rm.locals ≤ (ww_R X).locals) (hcs : cs + rm.cells ≤ (ww_R X).cells) (hss : ss + rm.slots ≤ (ww_R X).slots) (hna : As.length = na) (hst8 : (st.map fun v => v.category).sum ≤ 8) (d : decode cc pc = .ok (.invokevirtual index, 3)) {st0 : List Value} (hstk : st0 = As.reverse ++ .ref (dx_v K) :: st)
    (k : ww_at X (cs + rm.cells) (ss + rm.slots) (pc + 3) L (r.toList ++ st) (dx_w (ww_g X) K ow vl S)) : ww_at X cs ss pc L st0 (dx_w (ww_g X) K ow vl S) :=
  ww_callV (q0 := 1) (ci := 1) O hM hs hvi rfl hq rfl hRm hcs hss hna hst8 d hstk [1, 2, 3] [0, 4, 5, 6, 7, 8, 9, 10, 11, 12, 13, 14, 15, 16, 17, 18, 19, 20, 21, 22, 23, 24, 25, 26, 27, 28] [0, 26, 27, 28, 1, 2, 3, 4, 5, 6, 7, 8, 9, 10, 11, 12, 13, 14, 15, 16, 17, 18, 19, 20, 21, 22, 23, 24, 25] rfl (by decide) rfl (by decide) (by decide) rfl rfl (by decide) k
/-- a call of a method of the class itself -/
theorem dx_callE (O : ww_ok X cc own) {index na n : Nat} {y : MethodName} {b : ByteArray} {ret : Option FieldType} {rm : Room} {As : List Value} {K : dx_K} {ow vl ow' vl' : Nat → Int32} {S S' : Nat → dx_S} {r : Option Value}
    (hM : ww_ct (ww_l X) (ww_D X) (ww_g X) y b n ret rm (.ref (dx_x K) :: As) (dx_w (ww_g X) K ow vl S) r (dx_w (ww_g X) K ow' vl' S'))
    (hs : ww_site own index y b n ret na) (hvi : ww_virt y) (hq : cs_DE = y.cls)
    (hRm : rm.frames + 1 ≤ (ww_R X).frames ∧ 8 + (n + 11) + rm.locals ≤ (ww_R X).locals) (hcs : cs + rm.cells ≤ (ww_R X).cells) (hss : ss + rm.slots ≤ (ww_R X).slots) (hna : As.length = na) (hst8 : (st.map fun v => v.category).sum ≤ 8) (d : decode cc pc = .ok (.invokevirtual index, 3)) {st0 : List Value} (hstk : st0 = As.reverse ++ .ref (dx_x K) :: st)
    (k : ww_at X (cs + rm.cells) (ss + rm.slots) (pc + 3) L (r.toList ++ st) (dx_w (ww_g X) K ow' vl' S')) : ww_at X cs ss pc L st0 (dx_w (ww_g X) K ow vl S) :=
  ww_callV (q0 := 0) (ci := 2) O hM hs hvi rfl hq rfl hRm hcs hss hna hst8 d hstk [0, 1, 2, 3, 4, 5, 6, 7, 8, 9, 10, 11, 12, 13, 14, 15, 16, 17, 18, 19, 20, 21, 22, 23, 24, 25, 26, 27, 28] [] [0, 1, 2, 3, 4, 5, 6, 7, 8, 9, 10, 11, 12, 13, 14, 15, 16, 17, 18, 19, 20, 21, 22, 23, 24, 25, 26, 27, 28] rfl (by decide) rfl (by decide) (by decide) rfl rfl (by decide) k
/-- a call of a static method that touches nothing -/
theorem dx_callS (O : ww_ok X cc own) {index na n : Nat} {y : MethodName} {b : ByteArray} {ret : Option FieldType} {rm : Room} {As : List Value} {K : dx_K} {ow vl : Nat → Int32} {S : Nat → dx_S} {r : Option Value}
    (hM : ww_ct (ww_l X) (ww_D X) (ww_g X) y b n ret rm As [] r []) (hs : ww_site own index y b n ret na) (hst : Cond.static y ∈ lw_good)
    (hRm : rm.frames + 1 ≤ (ww_R X).frames ∧ 8 + (n + 11) + rm.locals ≤ (ww_R X).locals) (hcs : cs + rm.cells ≤ (ww_R X).cells) (hss : ss + rm.slots ≤ (ww_R X).slots) (hna : As.length = na) (hst8 : (st.map fun v => v.category).sum ≤ 8) (d : decode cc pc = .ok (.invokestatic index, 3)) {st0 : List Value} (hstk : st0 = As.reverse ++ st)
    (k : ww_at X (cs + rm.cells) (ss + rm.slots) (pc + 3) L (r.toList ++ st) (dx_w (ww_g X) K ow vl S)) : ww_at X cs ss pc L st0 (dx_w (ww_g X) K ow vl S) :=
  ww_callS O hM hs hst hRm hcs hss hna hst8 d hstk [] [0, 1, 2, 3, 4, 5, 6, 7, 8, 9, 10, 11, 12, 13, 14, 15, 16, 17, 18, 19, 20, 21, 22, 23, 24, 25, 26, 27, 28] [0, 1, 2, 3, 4, 5, 6, 7, 8, 9, 10, 11, 12, 13, 14, 15, 16, 17, 18, 19, 20, 21, 22, 23, 24, 25, 26, 27, 28] rfl (by decide) rfl (by decide) (by decide) rfl rfl (by decide) k
/-- such a one that throws -/
theorem dx_throwS (O : ww_ok X cc own) {index na n : Nat} {y : MethodName} {b : ByteArray} {ret : Option FieldType} {rm : Room} {As : List Value} {K : dx_K} {ow vl : Nat → Int32} {S : Nat → dx_S} {ex : String}
    (hM : wt_ct (ww_l X) (ww_D X) (ww_g X) y b n ret rm As [] ex []) (hs : ww_site own index y b n ret na) (hst : Cond.static y ∈ lw_good) (hh : (ww_c X).exceptionTable.isEmpty = true)
    (hRm : rm.frames + 1 ≤ (ww_R X).frames ∧ 8 + (n + 11) + rm.locals ≤ (ww_R X).locals) (hcs : cs + rm.cells ≤ (ww_R X).cells) (hss : ss + rm.slots ≤ (ww_R X).slots) (hna : As.length = na) (hst8 : (st.map fun v => v.category).sum ≤ 8) (d : decode cc pc = .ok (.invokestatic index, 3)) {st0 : List Value} (hstk : st0 = As.reverse ++ st)
    (F : wt_fin X (cs + rm.cells) (ss + rm.slots) ex (dx_w (ww_g X) K ow vl S)) : ww_at X cs ss pc L st0 (dx_w (ww_g X) K ow vl S) :=
  wt_callS O hM hs hst hRm hcs hss hna hst8 d hstk [] [0, 1, 2, 3, 4, 5, 6, 7, 8, 9, 10, 11, 12, 13, 14, 15, 16, 17, 18, 19, 20, 21, 22, 23, 24, 25, 26, 27, 28] [0, 1, 2, 3, 4, 5, 6, 7, 8, 9, 10, 11, 12, 13, 14, 15, 16, 17, 18, 19, 20, 21, 22, 23, 24, 25, 26, 27, 28] rfl (by decide) rfl (by decide) (by decide) rfl rfl (by decide) (wt_out (pc := pc) (L := L) O hh F)
theorem wt_newF (O : ww_ok X cc own) {ex : String} {names : List String} {ik ic : Nat} (hfl : (ww_l X).flags = pinnedFlags ++ [noTraceFlag]) (hh : (ww_c X).exceptionTable.isEmpty = true)
    (hat : ∀ w ∈ Bundle.ownAtoms0 own ic ex names, w ∈ lw_good ∨ w ∈ cx_nw ∨ w ∈ cx_sw) (hfit : Bundle.fit ex = true) (hnames : ∀ n ∈ names, Bundle.fit n = true) (hcl : Cond.classLink own ik ex ∈ lw_good) (hins : Cond.instantiable ex 6 ∈ lw_good) (hini : Cond.initialized ex ∈ lw_good)
    (hRf : names.length + 3 < (ww_R X).frames) (hRl : ((st.map fun v => v.category).sum + 1) + (13 * (names.length + 1) + 41) ≤ (ww_R X).locals) (hcs : cs + 1 ≤ (ww_R X).cells) (hss : ss + 6 ≤ (ww_R X).slots)
    (d0 : decode cc pc = .ok (.new ik, 3)) (d3 : decode cc (pc + 3) = .ok (.dup, 1)) (d4 : decode cc (pc + 4) = .ok (.invokespecial ic, 3)) (d7 : decode cc (pc + 7) = .ok (.athrow, 1)) (F : wt_fin X (cs + 1) (ss + 6) ex ws) : ww_at X cs ss pc L st ws := by
  intro H ls locs hl hP hD hS T hT XX
  exact wt_new O (Launch.traces_off hfl XX.admits) hh hat hfit hnames hcl hins hini hRf hRl hcs hss d0 d3 d4 d7 F H ls locs hl hP hD hS T hT XX
end DXC
def wt_rm (k : Nat) : Room := { frames := k, cells := 1, slots := 6, locals := 40 * k }
