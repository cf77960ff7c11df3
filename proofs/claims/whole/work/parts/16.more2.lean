theorem px_fill_s0 (f : Nat → Int32) (n : Nat) (v : Int32) : upd (px_fill f 0 n v) n v = px_fill f 0 (n + 1) v := by
  have h := px_fill_s f 0 n v
  rw [Nat.zero_add] at h
  exact h
def px_read (pl wr pg pv vl : Nat → Int32) (b : Nat) : Int32 := if pg b = 0 then (if px_hole pl b = true ∨ wr b = 0 then 0 else vl (pl b).toNatClampNeg) else pv b
def px_hh (pl pg : Nat → Int32) (o : Nat) : Nat := px_cnt (fun b => px_on pg b && px_hole pl b) o 60
def px_uu (pl wr pg : Nat → Int32) (o : Nat) : Nat := px_cnt (fun b => px_on pg b && (!px_hole pl b && wr b == 0)) o 60
def px_ee (pl wr : Nat → Int32) (o : Nat) : Nat := px_ex pl wr 60 o 0
def px_mm (pl : Nat → Int32) (o : Nat) : Nat := px_cnt (fun b => !px_hole pl b) o 60
def px_pp (pg : Nat → Int32) (o : Nat) : Nat := px_cnt (px_on pg) o 60
def px_res (pl wr pg : Nat → Int32) (o : Nat) : Nat := px_hh pl pg o + px_tree (px_ee pl wr o + px_hh pl pg o + 2 * px_uu pl wr pg o) - px_tree (px_ee pl wr o)
theorem px_cnt_not (P : Nat → Bool) (a n : Nat) : px_cnt (fun b => !P b) a n + px_cnt P a n = n := by
  induction n with
  | zero => rfl
  | succ n ih =>
    rw [px_cnt, px_cnt]
    cases P (a + n) <;> simp <;> omega
theorem px_mm_eq (pl : Nat → Int32) (o : Nat) : 60 - px_cnt (px_hole pl) o 60 = px_mm pl o := by
  have := px_cnt_not (px_hole pl) o 60
  unfold px_mm
  omega
def px_len (pl wr : Nat → Int32) (b : Nat) : Nat := if px_hole pl b then 0 else 1 + px_rl pl wr (59 - b) (b + 1) 1
theorem px_len_le {pl wr : Nat → Int32} {b : Nat} (hb : b < 60) : px_len pl wr b ≤ 60 - b := by
  unfold px_len
  have := px_rl_le pl wr (59 - b) (b + 1) 1
  split <;> omega
theorem px_rl_s {pl wr : Nat → Int32} {k b c : Nat} : px_rl pl wr k b c = if 0 < k ∧ c < 8 ∧ px_go pl wr b = true then 1 + px_rl pl wr (k - 1) (b + 1) (c + 1) else 0 := by
  cases k with
  | zero => rfl
  | succ k =>
    rw [px_rl]
    by_cases h : c < 8 ∧ px_go pl wr b = true
    · rw [if_pos h, if_pos ⟨by omega, h⟩]; rfl
    · rw [if_neg h, if_neg (fun z => h z.2)]
theorem px_go_iff {pl wr : Nat → Int32} {b : Nat} : px_go pl wr b = true ↔ pl b = pl (b - 1) + nI 1 ∧ wr b = wr (b - 1) := by
  unfold px_go
  simp only [Bool.and_eq_true, beq_iff_eq]
  exact Iff.rfl
theorem px_go_f1 {pl wr : Nat → Int32} {b : Nat} (h : ¬ pl b = pl (b - 1) + nI 1) : px_go pl wr b = false := by
  cases hg : px_go pl wr b with
  | false => rfl
  | true => exact absurd (px_go_iff.mp hg).1 h
theorem px_go_f2 {pl wr : Nat → Int32} {b : Nat} (h : ¬ wr b = wr (b - 1)) : px_go pl wr b = false := by
  cases hg : px_go pl wr b with
  | false => rfl
  | true => exact absurd (px_go_iff.mp hg).2 h
theorem px_ex_len {pl wr : Nat → Int32} (hr : px_rng pl 0 60) {b : Nat} (hb : b < 60) : px_ex pl wr (60 - b) b 0 = (if 0 < px_len pl wr b then 1 else 0) + px_ex pl wr (60 - (b + max (px_len pl wr b) 1)) (b + max (px_len pl wr b) 1) 0 := by
  obtain ⟨k, hk⟩ : ∃ k, 60 - b = k + 1 := ⟨59 - b, by omega⟩
  rw [hk, px_ex]
  by_cases hh : px_hole pl b = true
  · have hl : px_len pl wr b = 0 := by unfold px_len; rw [if_pos hh]
    rw [if_pos hh, hl, show 60 - (b + max 0 1) = k by omega, show b + max 0 1 = b + 1 by omega]
    simp
  · have hh2 : px_hole pl b = false := by simpa using hh
    have hl : px_len pl wr b = 1 + px_rl pl wr k (b + 1) 1 := by unfold px_len; rw [if_neg hh, show 59 - b = k by omega]
    rw [if_neg hh, if_neg (fun z => absurd z.1 (Nat.lt_irrefl 0)), hl, px_ex_jump hr k (b + 1) 1 (by omega) (by omega) (by omega) (by simpa using hh2)]
    have h1 := px_rl_le pl wr k (b + 1) 1
    generalize px_rl pl wr k (b + 1) 1 = r at h1
    rw [if_pos (c := 0 < 1 + r) (by omega), show max (1 + r) 1 = 1 + r by omega, show 60 - (b + (1 + r)) = k - r by omega, show b + (1 + r) = b + 1 + r by omega]
theorem px_nth_len {pl wr : Nat → Int32} (hr : px_rng pl 0 60) {b : Nat} (hb : b < 60) (i : Nat) : px_nth pl wr (60 - b) b 0 i = if 0 < px_len pl wr b then (if i = 0 then some b else px_nth pl wr (60 - (b + max (px_len pl wr b) 1)) (b + max (px_len pl wr b) 1) 0 (i - 1)) else px_nth pl wr (60 - (b + max (px_len pl wr b) 1)) (b + max (px_len pl wr b) 1) 0 i := by
  obtain ⟨k, hk⟩ : ∃ k, 60 - b = k + 1 := ⟨59 - b, by omega⟩
  rw [hk, px_nth]
  by_cases hh : px_hole pl b = true
  · have hl : px_len pl wr b = 0 := by unfold px_len; rw [if_pos hh]
    rw [if_pos hh, hl, show 60 - (b + max 0 1) = k by omega, show b + max 0 1 = b + 1 by omega]
    simp
  · have hh2 : px_hole pl b = false := by simpa using hh
    have hl : px_len pl wr b = 1 + px_rl pl wr k (b + 1) 1 := by unfold px_len; rw [if_neg hh, show 59 - b = k by omega]
    rw [if_neg hh, if_neg (fun z => absurd z.1 (Nat.lt_irrefl 0)), hl, px_nth_jump hr (i - 1) k (b + 1) 1 (by omega) (by omega) (by omega) (by simpa using hh2)]
    have h1 := px_rl_le pl wr k (b + 1) 1
    generalize px_rl pl wr k (b + 1) 1 = r at h1
    rw [if_pos (c := 0 < 1 + r) (by omega), show max (1 + r) 1 = 1 + r by omega, show 60 - (b + (1 + r)) = k - r by omega, show b + (1 + r) = b + 1 + r by omega]
def px_on1 (o : Option Nat) : Int32 := match o with
  | some b => nI b
  | none => -1
section WWN
variable {X : ww_X} {cc : ByteArray} {own : String} {cs ss pc : Nat} {L L' : List (Nat × Value)} {st : List Value} {ws : va_W}
theorem ww_callSN (O : ww_ok X cc own) {index na n : Nat} {y : MethodName} {b : ByteArray} {ret : Option FieldType} {rm : Room} {As : List Value} {w0 w1 ws' : va_W} {r : Option Value} {host : String} (hM : ww_ct (ww_l X) (ww_D X) (ww_g X) y b n ret rm As w0 r w1) (hs : Cond.code y b n ret ∈ lw_good ∧ Cond.methodLinkNest own index y host ∈ cx_nw ∧ Cond.initialized y.cls ∈ lw_good ∧ (y.cls ≠ "java/lang/invoke/MethodHandle" ∧ y.cls ≠ "java/lang/invoke/VarHandle" ∧ (parseMethodDescriptor y.desc).map (fun d => d.parameters.length) = some na)) (hst : Cond.static y ∈ lw_good)
    (hRm : rm.frames + 1 ≤ (ww_R X).frames ∧ 8 + (n + 11) + rm.locals ≤ (ww_R X).locals) (hcs : cs + rm.cells ≤ (ww_R X).cells) (hss : ss + rm.slots ≤ (ww_R X).slots) (hna : As.length = na) (hst8 : (st.map fun v => v.category).sum ≤ 8) (d : decode cc pc = .ok (.invokestatic index, 3)) {st0 : List Value} (hstk : st0 = As.reverse ++ st)
    (isC isR pm : List Nat) (hC : isC.map (fun i => ws[i]?) = w0.map some) (hcn : va_nd isC = true) (hR : isR.map (fun i => ws[i]?) = (isR.filterMap (fun i => ws[i]?)).map some) (hn : va_nd isR = true) (hdis : ∀ i ∈ isR, i ∉ isC)
    (hp1 : pm.filterMap (fun i => (isR.filterMap (fun i => ws[i]?) ++ w1)[i]?) = ws') (hp2 : pm.map (fun i => (isR.filterMap (fun i => ws[i]?) ++ w1)[i]?) = ws'.map some) (hpn : va_nd pm = true)
    (k : ww_at X (cs + rm.cells) (ss + rm.slots) (pc + 3) L (r.toList ++ st) ws') : ww_at X cs ss pc L st0 ws := by
  intro H ls locs hl hP hD hS
  subst hstk
  have hwc : va_P (ww_D X) cx_cl w0 H := hP.sub isC (ww_fm hC)
  refine ww_back O (w0 := w0) (w1 := w1) ?_ hl hP hD hS hM.1 isC isR pm hC hcn hR hn hdis hp1 hp2 hpn k
  exact va_runSN (As := As) (rest := st) ⟨O.x, O.b, O.n, O.o, O.t⟩ (hM.2 H.size) ⟨va_cnB na O.t (ww_gi hs.1) rfl rfl rfl (O.2.2.2.2.2.1.2.1 _ hs.2.1) (O.t _ hs.2.2.1) hs.2.2.2 hRm, O.t _ hst, trivial⟩ ⟨ww_blind, fun U hU hW => ⟨rfl, by rw [hU], by rw [hU]; exact hwc, O.go hS hU hW, (hD.sub isC hcn hC).weaken (fun _ _ _ _ => trivial)⟩⟩ rfl hna hl.1 rfl (lv_room hst8) d ⟨hcs, hss⟩
end WWN
