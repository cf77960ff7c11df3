section WWS
variable {X : ww_X} {cc : ByteArray} {own : String} {cs ss pc : Nat} {L L' : List (Nat × Value)} {st : List Value} {ws : va_W}
theorem ww_tabIn (O : ww_ok X cc own) {dflt lo hi : Int} {offs : Array Int} {len : Nat} {x : Int32} {off : Int} {tgt : Nat} (d : decode cc pc = .ok (.tableswitch dflt lo hi offs, len)) (h1 : ¬ x.toInt < lo) (h2 : ¬ hi < x.toInt) (ho : offs[(x.toInt - lo).toNat]? = some off) (ht : (pc : Int) + off = (tgt : Int)) (k : ww_at X cs ss tgt L st ws) : ww_at X cs ss pc L (.int x :: st) ws :=
  fun H ls locs hl hP hD hS => lv_tableIn O.x O.b d h1 h2 ho ht (k H ls locs hl hP hD hS)
theorem ww_tabOut (O : ww_ok X cc own) {dflt lo hi : Int} {offs : Array Int} {len : Nat} {x : Int32} {tgt : Nat} (d : decode cc pc = .ok (.tableswitch dflt lo hi offs, len)) (h : x.toInt < lo ∨ hi < x.toInt) (ht : (pc : Int) + dflt = (tgt : Int)) (k : ww_at X cs ss tgt L st ws) : ww_at X cs ss pc L (.int x :: st) ws :=
  fun H ls locs hl hP hD hS => lv_tableOut O.x O.b d h ht (k H ls locs hl hP hD hS)
end WWS
theorem px_rx_n {pl wr : Nat → Int32} {s : Nat} : ∀ (k b n le : Nat) (fi : Int32), (px_rx pl wr s k b n le fi).1 ≤ n + k
  | 0, _, _, _, _ => Nat.le_refl _
  | k + 1, b, n, le, fi => by
    rw [px_rx]
    have h1 := px_rx_n (pl := pl) (wr := wr) (s := s) k (b + 1) n le fi
    have h2 := px_rx_n (pl := pl) (wr := wr) (s := s) k (b + 1) n (le + 1) fi
    have h3 := px_rx_n (pl := pl) (wr := wr) (s := s) k (b + 1) (n + 1) 1 (nI b)
    split
    · split
      · exact Nat.le_add_right _ _
      · omega
    · split
      · omega
      · split
        · exact Nat.le_add_right _ _
        · omega
def px_bcp (pl : Nat → Int32) (o : Nat) (bf : Nat → Int32) (n : Nat) : Nat → Int32 := fun j => if j < n then pl (o + j) else bf j
theorem px_bcp_0 (pl : Nat → Int32) (o : Nat) (bf : Nat → Int32) : px_bcp pl o bf 0 = bf := by
  funext j
  unfold px_bcp
  rw [if_neg (by omega)]
theorem px_bcp_s (pl : Nat → Int32) (o : Nat) (bf : Nat → Int32) (n : Nat) : upd (px_bcp pl o bf n) n (pl (o + n)) = px_bcp pl o bf (n + 1) := by
  funext j
  unfold upd px_bcp
  by_cases e : j = n
  · rw [if_pos e, if_pos (by omega), e]
  · rw [if_neg e]
    by_cases h : j < n
    · rw [if_pos h, if_pos (by omega)]
    · rw [if_neg h, if_neg (by omega)]
theorem px_bcp_i {pl : Nat → Int32} {o : Nat} {bf : Nat → Int32} {n j : Nat} (h : j < n) : px_bcp pl o bf n j = pl (o + j) := by
  unfold px_bcp
  rw [if_pos h]
theorem px_tk (ow : Nat → Int32) : px_cnt (fun p => !(ow p == -1)) 0 80 = 80 - px_nu ow ∧ px_nu ow ≤ 80 := by
  have h := px_cnt_not (fun p => ow p == -1) 0 80
  have h2 := px_cnt_le (fun p => ow p == -1) 0 80
  unfold px_nu
  omega
