/-! the reference: its small parts and its evaluator -/
section ROWS3
variable {X : Ctx} {M : MD} {d : Nat} {ct cs : Nat × Nat} {T : TR} {pc : Nat} {lo st rest : List Value} {sh : List SH} {I : MI} {L : ML}
theorem r_idivN {a b : Nat} (hdg : decode M.2.1 pc = .ok (.idiv, 1)) (ha : a < 2 ^ 31) (h0 : 0 < b) (hb : b < 2 ^ 31) (k : Ev X M d ct cs T (pc + 1) lo (.int (nI (a / b)) :: st) sh I L) : Ev X M d ct cs T pc lo (.int (nI b) :: .int (nI a) :: st) sh I L := r_idiv hdg (nI_ne0 h0 hb) (by rw [pk_div ha h0 hb]; exact k)
theorem r_iremN {a b : Nat} (hdg : decode M.2.1 pc = .ok (.irem, 1)) (ha : a < 2 ^ 31) (h0 : 0 < b) (hb : b < 2 ^ 31) (k : Ev X M d ct cs T (pc + 1) lo (.int (nI (a % b)) :: st) sh I L) : Ev X M d ct cs T pc lo (.int (nI b) :: .int (nI a) :: st) sh I L := r_irem hdg (nI_ne0 h0 hb) (by rw [pk_rem ha h0 hb]; exact k)
end ROWS3
def hasB (set k : Int32) : Bool := decide ((set >>> (k &&& 31)) &&& nI 1 = nI 1)
def onP : Nat → Int32 → Nat
  | 0, _ => 0
  | k + 1, r => if r = 0 then 0 else 1 + onP k (r &&& (r - nI 1))
def onT : Nat → Int32 → Bool
  | 0, r => decide (r = 0)
  | k + 1, r => if r = 0 then true else onT k (r &&& (r - nI 1))
/-- the places from b on hold g -/
def blkR (f g : Nat → Int64) (b n : Nat) : Nat → Int64 := fun j => if b ≤ j ∧ j < b + n then g (j - b) else f j
theorem blkR_0 (f g : Nat → Int64) (b : Nat) : blkR f g b 0 = f := funext fun j => if_neg (by omega)
theorem blkR_lo {f g : Nat → Int64} {b n j : Nat} (h : j < b) : blkR f g b n j = f j := if_neg (by omega)
theorem blkR_hi {f g : Nat → Int64} {b n j : Nat} (h : b + n ≤ j) : blkR f g b n j = f j := if_neg (by omega)
theorem blkR_in {f g : Nat → Int64} {b n i : Nat} (h : i < n) : blkR f g b n (b + i) = g i := by
  unfold blkR
  rw [if_pos (by omega), Nat.add_sub_cancel_left]
theorem blkR_s {f g : Nat → Int64} {b i : Nat} {x : Int64} (h : x = g i) : vp_updL (blkR f g b i) (b + i) x = blkR f g b (i + 1) := by
  subst h
  funext j
  unfold vp_updL blkR
  by_cases hj : j = b + i
  · subst hj
    rw [if_pos rfl, if_pos (by omega), Nat.add_sub_cancel_left]
  · rw [if_neg hj]
    by_cases h1 : b ≤ j ∧ j < b + i
    · rw [if_pos h1, if_pos (by omega)]
    · rw [if_neg h1, if_neg (by omega)]
theorem rd_lo {L : ML} {c b n j : Nat} {f g : Nat → Int64} (h : j < b) : t2 L c (blkR f g b n) c j = f j := by
  unfold t2
  rw [if_pos rfl]
  exact blkR_lo h
def ndL (L : ML) (k : Nat) (w : Int64) (sg bg : Nat → Int64) : ML := t2 (t2 (v2 L 63 k w) 64 (blkR (L 64) sg (6 * k) 6)) 65 (blkR (L 65) bg (36 * k) 36)
def jO (I : MI) (x y : Nat) : Int32 := if x = y then I 55 (6 + x) else I 55 (12 + 6 * x + y)
def toI (a b : Nat → Int64) (J : Nat → Nat → Int32) (sure : Int32) (x : Nat) (acc : Int64) : Nat → Int64
  | 0 => acc
  | y + 1 => toI a b J sure x acc y + (if hasB sure (nI x) = true then 0 else if hasB sure (nI y) = true then 0 else a x * b y * (J x y).toInt64)
def toO (a b : Nat → Int64) (J : Nat → Nat → Int32) (sure : Int32) : Nat → Int64
  | 0 => 0
  | x + 1 => toI a b J sure x (toO a b J sure x) 6
def shO (a : Nat → Int64) (J : Nat → Nat → Int32) (x : Nat) : Nat → Int64
  | 0 => 0
  | y + 1 => shO a J x y + a x * a y * (J x y).toInt64
theorem s_in_t (X : Ctx) (d : Nat) (I : MI) (L : ML) (v a b : Int32) (h1 : ¬ v < a) (h2 : ¬ b < v) : Sp X mX6_in (d + 0) (0, 0) [.int (v), .int (a), .int (b)] shF I L (some (.int (nI 1)), shF, I, L) := by
  refine Sp.of okX6_in [.int (v), .int (a), .int (b)] 0 rfl (Nat.le_of_ble_eq_true rfl) ?_
  refine r_iload_n (pc := 0) dX6_in_0 rfl ?_
  refine r_iload_n (pc := 1) dX6_in_1 rfl ?_
  refine r_icmp_lt (pc := 2) (tgt := 14) dX6_in_2 (by decide) (fun c1 => ?_) (fun c1 => ?_)
  · exact absurd c1 h1
  · refine r_iload_n (pc := 5) dX6_in_5 rfl ?_
    refine r_iload_n (pc := 6) dX6_in_6 rfl ?_
    refine r_icmp_gt (pc := 7) (tgt := 14) dX6_in_7 (by decide) (fun c2 => ?_) (fun c2 => ?_)
    · exact absurd c2 h2
    · refine r_iconst (pc := 10) (v := nI 1) dX6_in_10 rfl ?_
      refine r_goto (pc := 11) (tgt := 15) dX6_in_11 (by decide) ?_
      exact r_zret dX6_in_15 rfl (by decide) (rfl) rfl
theorem s_in_f (X : Ctx) (d : Nat) (I : MI) (L : ML) (v a b : Int32) (h : v < a ∨ b < v) : Sp X mX6_in (d + 0) (0, 0) [.int (v), .int (a), .int (b)] shF I L (some (.int (nI 0)), shF, I, L) := by
  refine Sp.of okX6_in [.int (v), .int (a), .int (b)] 0 rfl (Nat.le_of_ble_eq_true rfl) ?_
  refine r_iload_n (pc := 0) dX6_in_0 rfl ?_
  refine r_iload_n (pc := 1) dX6_in_1 rfl ?_
  refine r_icmp_lt (pc := 2) (tgt := 14) dX6_in_2 (by decide) (fun c1 => ?_) (fun c1 => ?_)
  · refine r_iconst (pc := 14) (v := nI 0) dX6_in_14 rfl ?_
    exact r_zret dX6_in_15 rfl (by decide) (rfl) rfl
  · refine r_iload_n (pc := 5) dX6_in_5 rfl ?_
    refine r_iload_n (pc := 6) dX6_in_6 rfl ?_
    refine r_icmp_gt (pc := 7) (tgt := 14) dX6_in_7 (by decide) (fun c2 => ?_) (fun c2 => ?_)
    · refine r_iconst (pc := 14) (v := nI 0) dX6_in_14 rfl ?_
      exact r_zret dX6_in_15 rfl (by decide) (rfl) rfl
    · exact (h.elim c1 c2).elim
theorem s_has (X : Ctx) (d : Nat) (I : MI) (L : ML) (set k : Int32) : Sp X mX6_has (d + 0) (0, 0) [.int (set), .int (k)] shF I L (some (.int (bI (hasB set k))), shF, I, L) := by
  refine Sp.of okX6_has [.int (set), .int (k)] 0 rfl (Nat.le_of_ble_eq_true rfl) ?_
  refine r_iload_n (pc := 0) dX6_has_0 rfl ?_
  refine r_iload_n (pc := 1) dX6_has_1 rfl ?_
  refine r_ishr (pc := 2) dX6_has_2 ?_
  refine r_iconst (pc := 3) (v := nI 1) dX6_has_3 rfl ?_
  refine r_iand (pc := 4) dX6_has_4 ?_
  refine r_iconst (pc := 5) (v := nI 1) dX6_has_5 rfl ?_
  refine r_icmp_ne (pc := 6) (tgt := 13) dX6_has_6 (by decide) (fun c1 => ?_) (fun c1 => ?_)
  · refine r_iconst (pc := 13) (v := nI 0) dX6_has_13 rfl ?_
    exact r_zret dX6_has_14 rfl (by decide) (by rw [show hasB set k = false from decide_eq_false c1]; rfl) rfl
  · refine r_iconst (pc := 9) (v := nI 1) dX6_has_9 rfl ?_
    refine r_goto (pc := 10) (tgt := 14) dX6_has_10 (by decide) ?_
    exact r_zret dX6_has_14 rfl (by decide) (by rw [show hasB set k = true from decide_eq_true c1]; rfl) rfl
theorem lp_ones (X : Ctx) (d : Nat) (I : MI) (L : ML) (set : Int32) : ∀ (m : Nat) (r : Int32) (c : Nat), onT m r = true → Ev X mX6_ones (d + 0) (0, 0) (0, 0) (some (.int (nI (c + onP m r))), shF, I, L) 4 [.int set, .int (nI c), .int r] [] shF I L := by
  intro m
  induction m with
  | zero =>
    intro r c ht
    refine r_iload_n (pc := 4) dX6_ones_4 rfl ?_
    refine r_if_eq (pc := 5) (tgt := 20) dX6_ones_5 (by decide) (fun c1 => ?_) (fun c1 => ?_)
    · refine r_iload_n (pc := 20) dX6_ones_20 rfl ?_
      exact r_iret dX6_ones_21 rfl (rfl) rfl
    · exact absurd (of_decide_eq_true ht) c1
  | succ m ih =>
    intro r c ht
    refine r_iload_n (pc := 4) dX6_ones_4 rfl ?_
    refine r_if_eq (pc := 5) (tgt := 20) dX6_ones_5 (by decide) (fun c1 => ?_) (fun c1 => ?_)
    · refine r_iload_n (pc := 20) dX6_ones_20 rfl ?_
      exact r_iret dX6_ones_21 rfl (by rw [show onP (m + 1) r = 0 from if_pos c1]; rfl) rfl
    · refine r_iinc (pc := 8) (v := nI (c + 1)) (lo1 := [.int (set), .int (nI (c + 1)), .int (r)]) dX6_ones_8 rfl rfl (ii1 _) (by decide) rfl ?_
      refine r_iload_n (pc := 11) dX6_ones_11 rfl ?_
      refine r_iload_n (pc := 12) dX6_ones_12 rfl ?_
      refine r_iconst (pc := 13) (v := nI 1) dX6_ones_13 rfl ?_
      refine r_isub (pc := 14) dX6_ones_14 ?_
      refine r_iand (pc := 15) dX6_ones_15 ?_
      refine r_istore_n (pc := 16) (lo1 := [.int (set), .int (nI (c + 1)), .int (r &&& (r - (nI 1)))]) dX6_ones_16 rfl (by decide) rfl ?_
      refine r_goto (pc := 17) (tgt := 4) dX6_ones_17 (by decide) ?_
      rw [show onP (m + 1) r = 1 + onP m (r &&& (r - nI 1)) from if_neg c1, show c + (1 + onP m (r &&& (r - nI 1))) = c + 1 + onP m (r &&& (r - nI 1)) by omega]
      exact ih (r &&& (r - nI 1)) (c + 1) (by rw [show onT (m + 1) r = onT m (r &&& (r - nI 1)) from if_neg c1] at ht; exact ht)
theorem s_ones (X : Ctx) (d : Nat) (I : MI) (L : ML) (set : Int32) (h : onT 7 set = true) : Sp X mX6_ones (d + 0) (0, 0) [.int (set)] shF I L (some (.int (nI (0 + onP 7 set))), shF, I, L) := by
  refine Sp.of okX6_ones [.int (set), .null, .null] 2 rfl (Nat.le_of_ble_eq_true rfl) ?_
  refine r_iconst (pc := 0) (v := nI 0) dX6_ones_0 rfl ?_
  refine r_istore_n (pc := 1) (lo1 := [.int (set), .int (nI 0), .null]) dX6_ones_1 rfl (by decide) rfl ?_
  refine r_iload_n (pc := 2) dX6_ones_2 rfl ?_
  refine r_istore_n (pc := 3) (lo1 := [.int (set), .int (nI 0), .int (set)]) dX6_ones_3 rfl (by decide) rfl ?_
  exact lp_ones X d I L set 7 set 0 h
theorem lp_mpower (X : Ctx) (d : Nat) (I : MI) (L : ML) (x : Int64) (m : Nat) (hm : m < 2 ^ 31) : ∀ (z i : Nat), i + z = m → Ev X mX6_power (d + 0) (0, 0) (0, 0) (some (.long (pw x m)), shF, I, L) 5 [.long (x), .null, .int (nI m), .long (pw x i), .null, .int (nI i)] [] shF I L := by
  intro z
  induction z with
  | zero =>
    intro i hi
    have hi2 : i = m := by omega
    rw [hi2]
    refine r_iload (pc := 5) dX6_power_5 rfl ?_
    refine r_iload_n (pc := 7) dX6_power_7 rfl ?_
    refine r_icmpN_ge (pc := 8) (tgt := 21) dX6_power_8 (by decide) (by omega) (by omega) (fun c1 => ?_) (fun c1 => ?_)
    · refine r_lload_n (pc := 21) dX6_power_21 rfl ?_
      exact r_lret dX6_power_22 rfl (rfl) rfl
    · exact absurd c1 (by omega)
  | succ z ih =>
    intro i hi
    refine r_iload (pc := 5) dX6_power_5 rfl ?_
    refine r_iload_n (pc := 7) dX6_power_7 rfl ?_
    refine r_icmpN_ge (pc := 8) (tgt := 21) dX6_power_8 (by decide) (by omega) (by omega) (fun c2 => ?_) (fun c2 => ?_)
    · exact absurd c2 (by omega)
    · refine r_lload_n (pc := 11) dX6_power_11 rfl ?_
      refine r_lload_n (pc := 12) dX6_power_12 rfl ?_
      refine r_lmul (pc := 13) dX6_power_13 ?_
      refine r_lstore_n (pc := 14) (lo1 := [.long (x), .null, .int (nI m), .long ((pw x i) * x), .null, .int (nI i)]) dX6_power_14 rfl (by decide) rfl ?_
      refine r_iinc (pc := 15) (v := nI (i + 1)) (lo1 := [.long (x), .null, .int (nI m), .long ((pw x i) * x), .null, .int (nI (i + 1))]) dX6_power_15 rfl rfl (ii1 _) (by decide) rfl ?_
      refine r_goto (pc := 18) (tgt := 5) dX6_power_18 (by decide) ?_
      exact ih (i + 1) (by omega)
theorem s_mpower (X : Ctx) (d : Nat) (I : MI) (L : ML) (x : Int64) (m : Nat) (hm : m < 2 ^ 31) : Sp X mX6_power (d + 0) (0, 0) [.long (x), .int (nI m)] shF I L (some (.long (pw x m)), shF, I, L) := by
  refine Sp.of okX6_power [.long (x), .null, .int (nI m), .null, .null, .null] 3 rfl (Nat.le_of_ble_eq_true rfl) ?_
  refine r_lconst (pc := 0) (v := 1) dX6_power_0 rfl ?_
  refine r_lstore_n (pc := 1) (lo1 := [.long (x), .null, .int (nI m), .long (1), .null, .null]) dX6_power_1 rfl (by decide) rfl ?_
  refine r_iconst (pc := 2) (v := nI 0) dX6_power_2 rfl ?_
  refine r_istore (pc := 3) (lo1 := [.long (x), .null, .int (nI m), .long (1), .null, .int (nI 0)]) dX6_power_3 rfl (by decide) rfl ?_
  exact lp_mpower X d I L x m hm m 0 (by omega)
theorem lp_copies_b (X : Ctx) (d : Nat) (I : MI) (L : ML) (r k : Nat) (hr : r < k) (hk : k < 80) : ∀ (z i : Nat), i + z = 36 → Ev X mX6_copiesNode (d + 0) (0, 0) (0, 0) (none, shF, I, (t2 (t2 (v2 L 63 k (L 63 r)) 64 (blkR (L 64) (fun x => L 64 (6 * r + x)) (6 * k) 6)) 65 (blkR (L 65) (fun c => L 65 (36 * r + c)) (36 * k) 36))) 50 [.ref 42, .int (nI r), .int (nI k), .int (nI i)] [] shF I (t2 (t2 (v2 L 63 k (L 63 r)) 64 (blkR (L 64) (fun x => L 64 (6 * r + x)) (6 * k) 6)) 65 (blkR (L 65) (fun c => L 65 (36 * r + c)) (36 * k) i)) := by
  intro z
  induction z with
  | zero =>
    intro i hi
    have hi2 : i = 36 := by omega
    rw [hi2]
    refine r_iload_n (pc := 50) dX6_copiesNode_50 rfl ?_
    refine r_bipush (pc := 51) dX6_copiesNode_51 bp_36 ?_
    refine r_icmpN_ge (pc := 53) (tgt := 84) dX6_copiesNode_53 (by decide) (by omega) (by omega) (fun c1 => ?_) (fun c1 => ?_)
    · exact r_vret dX6_copiesNode_84 rfl (rfl) rfl
    · exact absurd c1 (by decide)
  | succ z ih =>
    intro i hi
    refine r_iload_n (pc := 50) dX6_copiesNode_50 rfl ?_
    refine r_bipush (pc := 51) dX6_copiesNode_51 bp_36 ?_
    refine r_icmpN_ge (pc := 53) (tgt := 84) dX6_copiesNode_53 (by decide) (by omega) (by omega) (fun c2 => ?_) (fun c2 => ?_)
    · exact absurd c2 (by omega)
    · refine r_aload_n (pc := 56) dX6_copiesNode_56 rfl ?_
      refine r_getR (pc := 57) (b := 65) dX6_copiesNode_57 fX6_78 rfl rfl ?_
      refine r_bipush (pc := 60) dX6_copiesNode_60 bp_36 ?_
      refine r_iload_n (pc := 62) dX6_copiesNode_62 rfl ?_
      refine r_imulN (pc := 63) dX6_copiesNode_63 ?_
      refine r_iload_n (pc := 64) dX6_copiesNode_64 rfl ?_
      refine r_iaddN (pc := 65) dX6_copiesNode_65 ?_
      refine r_aload_n (pc := 66) dX6_copiesNode_66 rfl ?_
      refine r_getR (pc := 67) (b := 65) dX6_copiesNode_67 fX6_78 rfl rfl ?_
      refine r_bipush (pc := 70) dX6_copiesNode_70 bp_36 ?_
      refine r_iload_n (pc := 72) dX6_copiesNode_72 rfl ?_
      refine r_imulN (pc := 73) dX6_copiesNode_73 ?_
      refine r_iload_n (pc := 74) dX6_copiesNode_74 rfl ?_
      refine r_iaddN (pc := 75) dX6_copiesNode_75 ?_
      refine r_laldV (pc := 76) (j := (36 * r) + i) (v := L 65 ((36 * r) + i)) dX6_copiesNode_76 rfl rfl (by omega) (by decide) (show (t2 (t2 (v2 L 63 k (L 63 r)) 64 (blkR (L 64) (fun x => L 64 (6 * r + x)) (6 * k) 6)) 65 (blkR (L 65) (fun c => L 65 (36 * r + c)) (36 * k) i)) 65 ((36 * r) + i) = _ from rd_lo (by omega)) ?_
      refine r_last (pc := 77) (j := (36 * k) + i) dX6_copiesNode_77 rfl rfl (by omega) (by decide) ?_
      refine r_iinc (pc := 78) (v := nI (i + 1)) (lo1 := [.ref 42, .int (nI r), .int (nI k), .int (nI (i + 1))]) dX6_copiesNode_78 rfl rfl (ii1 _) (by decide) rfl ?_
      refine r_goto (pc := 81) (tgt := 50) dX6_copiesNode_81 (by decide) ?_
      refine r_L (L' := (t2 (t2 (v2 L 63 k (L 63 r)) 64 (blkR (L 64) (fun x => L 64 (6 * r + x)) (6 * k) 6)) 65 (blkR (L 65) (fun c => L 65 (36 * r + c)) (36 * k) (i + 1)))) ((t2_v2 _ _ _ _ _).trans (congrArg (t2 _ 65) (blkR_s rfl))) ?_
      exact ih (i + 1) (by omega)
theorem lp_copies_a (X : Ctx) (d : Nat) (I : MI) (L : ML) (r k : Nat) (hr : r < k) (hk : k < 80) : ∀ (z i : Nat), i + z = 6 → Ev X mX6_copiesNode (d + 0) (0, 0) (0, 0) (none, shF, I, (t2 (t2 (v2 L 63 k (L 63 r)) 64 (blkR (L 64) (fun x => L 64 (6 * r + x)) (6 * k) 6)) 65 (blkR (L 65) (fun c => L 65 (36 * r + c)) (36 * k) 36))) 14 [.ref 42, .int (nI r), .int (nI k), .int (nI i)] [] shF I (t2 (v2 L 63 k (L 63 r)) 64 (blkR (L 64) (fun x => L 64 (6 * r + x)) (6 * k) i)) := by
  intro z
  induction z with
  | zero =>
    intro i hi
    have hi2 : i = 6 := by omega
    rw [hi2]
    refine r_iload_n (pc := 14) dX6_copiesNode_14 rfl ?_
    refine r_bipush (pc := 15) dX6_copiesNode_15 bp_6 ?_
    refine r_icmpN_ge (pc := 17) (tgt := 48) dX6_copiesNode_17 (by decide) (by omega) (by omega) (fun c3 => ?_) (fun c3 => ?_)
    · refine r_iconst (pc := 48) (v := nI 0) dX6_copiesNode_48 rfl ?_
      refine r_istore_n (pc := 49) (lo1 := [.ref 42, .int (nI r), .int (nI k), .int (nI 0)]) dX6_copiesNode_49 rfl (by decide) rfl ?_
      refine r_L (L' := (t2 (t2 (v2 L 63 k (L 63 r)) 64 (blkR (L 64) (fun x => L 64 (6 * r + x)) (6 * k) 6)) 65 (blkR (L 65) (fun c => L 65 (36 * r + c)) (36 * k) 0))) (by rw [blkR_0]; exact (t2_self _ 65).symm) ?_
      exact lp_copies_b X d I L r k hr hk 36 0 rfl
    · exact absurd c3 (by decide)
  | succ z ih =>
    intro i hi
    refine r_iload_n (pc := 14) dX6_copiesNode_14 rfl ?_
    refine r_bipush (pc := 15) dX6_copiesNode_15 bp_6 ?_
    refine r_icmpN_ge (pc := 17) (tgt := 48) dX6_copiesNode_17 (by decide) (by omega) (by omega) (fun c4 => ?_) (fun c4 => ?_)
    · exact absurd c4 (by omega)
    · refine r_aload_n (pc := 20) dX6_copiesNode_20 rfl ?_
      refine r_getR (pc := 21) (b := 64) dX6_copiesNode_21 fX6_75 rfl rfl ?_
      refine r_bipush (pc := 24) dX6_copiesNode_24 bp_6 ?_
      refine r_iload_n (pc := 26) dX6_copiesNode_26 rfl ?_
      refine r_imulN (pc := 27) dX6_copiesNode_27 ?_
      refine r_iload_n (pc := 28) dX6_copiesNode_28 rfl ?_
      refine r_iaddN (pc := 29) dX6_copiesNode_29 ?_
      refine r_aload_n (pc := 30) dX6_copiesNode_30 rfl ?_
      refine r_getR (pc := 31) (b := 64) dX6_copiesNode_31 fX6_75 rfl rfl ?_
      refine r_bipush (pc := 34) dX6_copiesNode_34 bp_6 ?_
      refine r_iload_n (pc := 36) dX6_copiesNode_36 rfl ?_
      refine r_imulN (pc := 37) dX6_copiesNode_37 ?_
      refine r_iload_n (pc := 38) dX6_copiesNode_38 rfl ?_
      refine r_iaddN (pc := 39) dX6_copiesNode_39 ?_
      refine r_laldV (pc := 40) (j := (6 * r) + i) (v := L 64 ((6 * r) + i)) dX6_copiesNode_40 rfl rfl (by omega) (by decide) (show (t2 (v2 L 63 k (L 63 r)) 64 (blkR (L 64) (fun x => L 64 (6 * r + x)) (6 * k) i)) 64 ((6 * r) + i) = _ from rd_lo (by omega)) ?_
      refine r_last (pc := 41) (j := (6 * k) + i) dX6_copiesNode_41 rfl rfl (by omega) (by decide) ?_
      refine r_iinc (pc := 42) (v := nI (i + 1)) (lo1 := [.ref 42, .int (nI r), .int (nI k), .int (nI (i + 1))]) dX6_copiesNode_42 rfl rfl (ii1 _) (by decide) rfl ?_
      refine r_goto (pc := 45) (tgt := 14) dX6_copiesNode_45 (by decide) ?_
      refine r_L (L' := (t2 (v2 L 63 k (L 63 r)) 64 (blkR (L 64) (fun x => L 64 (6 * r + x)) (6 * k) (i + 1)))) ((t2_v2 _ _ _ _ _).trans (congrArg (t2 _ 64) (blkR_s rfl))) ?_
      exact ih (i + 1) (by omega)
theorem s_copies (X : Ctx) (d : Nat) (I : MI) (L : ML) (r k : Nat) (hr : r < k) (hk : k < 80) : Sp X mX6_copiesNode (d + 0) (0, 0) [.ref 42, .int (nI r), .int (nI k)] shF I L (none, shF, I, (ndL L k (L 63 r) (fun x => L 64 (6 * r + x)) (fun c => L 65 (36 * r + c)))) := by
  refine Sp.of okX6_copiesNode [.ref 42, .int (nI r), .int (nI k), .null] 1 rfl (Nat.le_of_ble_eq_true rfl) ?_
  refine r_aload_n (pc := 0) dX6_copiesNode_0 rfl ?_
  refine r_getR (pc := 1) (b := 63) dX6_copiesNode_1 fX6_72 rfl rfl ?_
  refine r_iload_n (pc := 4) dX6_copiesNode_4 rfl ?_
  refine r_aload_n (pc := 5) dX6_copiesNode_5 rfl ?_
  refine r_getR (pc := 6) (b := 63) dX6_copiesNode_6 fX6_72 rfl rfl ?_
  refine r_iload_n (pc := 9) dX6_copiesNode_9 rfl ?_
  refine r_lald (pc := 10) (j := r) dX6_copiesNode_10 rfl rfl (by omega) (by decide) ?_
  refine r_last (pc := 11) (j := k) dX6_copiesNode_11 rfl rfl (by omega) (by decide) ?_
  refine r_iconst (pc := 12) (v := nI 0) dX6_copiesNode_12 rfl ?_
  refine r_istore_n (pc := 13) (lo1 := [.ref 42, .int (nI r), .int (nI k), .int (nI 0)]) dX6_copiesNode_13 rfl (by decide) rfl ?_
  refine r_L (L' := (t2 (v2 L 63 k (L 63 r)) 64 (blkR (L 64) (fun x => L 64 (6 * r + x)) (6 * k) 0))) (by rw [blkR_0]; exact (t2_self _ 64).symm) ?_
  exact lp_copies_a X d I L r k hr hk 6 0 rfl
theorem lp_leaf0_b (X : Ctx) (d : Nat) (I : MI) (L : ML) (k : Nat) (hk : k < 80) (v : Int32) (h45 : I 45 k = nI 0) (h46 : I 46 k = v) : ∀ (z i : Nat), i + z = 36 → Ev X mX6_goesLeaf (d + 0) (0, 0) (0, 0) (none, shF, I, (t2 (t2 (v2 L 63 k ((v).toInt64)) 64 (blkR (L 64) (fun _ => 0) (6 * k) 6)) 65 (blkR (L 65) (fun _ => 0) (36 * k) 36))) 89 [.ref 42, .int (nI k), .int (nI i)] [] shF I (t2 (t2 (v2 L 63 k ((v).toInt64)) 64 (blkR (L 64) (fun _ => 0) (6 * k) 6)) 65 (blkR (L 65) (fun _ => 0) (36 * k) i)) := by
  intro z
  induction z with
  | zero =>
    intro i hi
    have hi2 : i = 36 := by omega
    rw [hi2]
    refine r_iload_n (pc := 89) dX6_goesLeaf_89 rfl ?_
    refine r_bipush (pc := 90) dX6_goesLeaf_90 bp_36 ?_
    refine r_icmpN_ge (pc := 92) (tgt := 113) dX6_goesLeaf_92 (by decide) (by omega) (by omega) (fun c1 => ?_) (fun c1 => ?_)
    · exact r_vret dX6_goesLeaf_113 rfl (rfl) rfl
    · exact absurd c1 (by decide)
  | succ z ih =>
    intro i hi
    refine r_iload_n (pc := 89) dX6_goesLeaf_89 rfl ?_
    refine r_bipush (pc := 90) dX6_goesLeaf_90 bp_36 ?_
    refine r_icmpN_ge (pc := 92) (tgt := 113) dX6_goesLeaf_92 (by decide) (by omega) (by omega) (fun c2 => ?_) (fun c2 => ?_)
    · exact absurd c2 (by omega)
    · refine r_aload_n (pc := 95) dX6_goesLeaf_95 rfl ?_
      refine r_getR (pc := 96) (b := 65) dX6_goesLeaf_96 fX6_78 rfl rfl ?_
      refine r_bipush (pc := 99) dX6_goesLeaf_99 bp_36 ?_
      refine r_iload_n (pc := 101) dX6_goesLeaf_101 rfl ?_
      refine r_imulN (pc := 102) dX6_goesLeaf_102 ?_
      refine r_iload_n (pc := 103) dX6_goesLeaf_103 rfl ?_
      refine r_iaddN (pc := 104) dX6_goesLeaf_104 ?_
      refine r_lconst (pc := 105) (v := 0) dX6_goesLeaf_105 rfl ?_
      refine r_last (pc := 106) (j := (36 * k) + i) dX6_goesLeaf_106 rfl rfl (by omega) (by decide) ?_
      refine r_iinc (pc := 107) (v := nI (i + 1)) (lo1 := [.ref 42, .int (nI k), .int (nI (i + 1))]) dX6_goesLeaf_107 rfl rfl (ii1 _) (by decide) rfl ?_
      refine r_goto (pc := 110) (tgt := 89) dX6_goesLeaf_110 (by decide) ?_
      refine r_L (L' := (t2 (t2 (v2 L 63 k ((v).toInt64)) 64 (blkR (L 64) (fun _ => 0) (6 * k) 6)) 65 (blkR (L 65) (fun _ => 0) (36 * k) (i + 1)))) ((t2_v2 _ _ _ _ _).trans (congrArg (t2 _ 65) (blkR_s rfl))) ?_
      exact ih (i + 1) (by omega)
theorem lp_leaf0_a (X : Ctx) (d : Nat) (I : MI) (L : ML) (k : Nat) (hk : k < 80) (v : Int32) (h45 : I 45 k = nI 0) (h46 : I 46 k = v) : ∀ (z i : Nat), i + z = 6 → Ev X mX6_goesLeaf (d + 0) (0, 0) (0, 0) (none, shF, I, (t2 (t2 (v2 L 63 k ((v).toInt64)) 64 (blkR (L 64) (fun _ => 0) (6 * k) 6)) 65 (blkR (L 65) (fun _ => 0) (36 * k) 36))) 39 [.ref 42, .int (nI k), .int (nI i)] [] shF I (t2 (v2 L 63 k ((v).toInt64)) 64 (blkR (L 64) (fun _ => 0) (6 * k) i)) := by
  intro z
  induction z with
  | zero =>
    intro i hi
    have hi2 : i = 6 := by omega
    rw [hi2]
    refine r_iload_n (pc := 39) dX6_goesLeaf_39 rfl ?_
    refine r_bipush (pc := 40) dX6_goesLeaf_40 bp_6 ?_
    refine r_icmpN_ge (pc := 42) (tgt := 87) dX6_goesLeaf_42 (by decide) (by omega) (by omega) (fun c3 => ?_) (fun c3 => ?_)
    · refine r_iconst (pc := 87) (v := nI 0) dX6_goesLeaf_87 rfl ?_
      refine r_istore_n (pc := 88) (lo1 := [.ref 42, .int (nI k), .int (nI 0)]) dX6_goesLeaf_88 rfl (by decide) rfl ?_
      refine r_L (L' := (t2 (t2 (v2 L 63 k ((v).toInt64)) 64 (blkR (L 64) (fun _ => 0) (6 * k) 6)) 65 (blkR (L 65) (fun _ => 0) (36 * k) 0))) (by rw [blkR_0]; exact (t2_self _ 65).symm) ?_
      exact lp_leaf0_b X d I L k hk v h45 h46 36 0 rfl
    · exact absurd c3 (by decide)
  | succ z ih =>
    intro i hi
    refine r_iload_n (pc := 39) dX6_goesLeaf_39 rfl ?_
    refine r_bipush (pc := 40) dX6_goesLeaf_40 bp_6 ?_
    refine r_icmpN_ge (pc := 42) (tgt := 87) dX6_goesLeaf_42 (by decide) (by omega) (by omega) (fun c4 => ?_) (fun c4 => ?_)
    · exact absurd c4 (by omega)
    · refine r_aload_n (pc := 45) dX6_goesLeaf_45 rfl ?_
      refine r_getR (pc := 46) (b := 64) dX6_goesLeaf_46 fX6_75 rfl rfl ?_
      refine r_bipush (pc := 49) dX6_goesLeaf_49 bp_6 ?_
      refine r_iload_n (pc := 51) dX6_goesLeaf_51 rfl ?_
      refine r_imulN (pc := 52) dX6_goesLeaf_52 ?_
      refine r_iload_n (pc := 53) dX6_goesLeaf_53 rfl ?_
      refine r_iaddN (pc := 54) dX6_goesLeaf_54 ?_
      refine r_aload_n (pc := 55) dX6_goesLeaf_55 rfl ?_
      refine r_getR (pc := 56) (b := 45) dX6_goesLeaf_56 fX6_16 rfl rfl ?_
      refine r_iload_n (pc := 59) dX6_goesLeaf_59 rfl ?_
      refine r_ialdV (pc := 60) (j := k) (v := nI 0) dX6_goesLeaf_60 rfl rfl (by omega) (by decide) (h45) ?_
      refine r_iconst (pc := 61) (v := nI 1) dX6_goesLeaf_61 rfl ?_
      refine r_icmpN_ne (pc := 62) (tgt := 79) dX6_goesLeaf_62 (by decide) (by omega) (by omega) (fun c5 => ?_) (fun c5 => ?_)
      · refine r_lconst (pc := 79) (v := 0) dX6_goesLeaf_79 rfl ?_
        refine r_last (pc := 80) (j := (6 * k) + i) dX6_goesLeaf_80 rfl rfl (by omega) (by decide) ?_
        refine r_iinc (pc := 81) (v := nI (i + 1)) (lo1 := [.ref 42, .int (nI k), .int (nI (i + 1))]) dX6_goesLeaf_81 rfl rfl (ii1 _) (by decide) rfl ?_
        refine r_goto (pc := 84) (tgt := 39) dX6_goesLeaf_84 (by decide) ?_
        refine r_L (L' := (t2 (v2 L 63 k ((v).toInt64)) 64 (blkR (L 64) (fun _ => 0) (6 * k) (i + 1)))) ((t2_v2 _ _ _ _ _).trans (congrArg (t2 _ 64) (blkR_s rfl))) ?_
        exact ih (i + 1) (by omega)
      · exact absurd c5 (by decide)
theorem s_leaf0 (X : Ctx) (d : Nat) (I : MI) (L : ML) (k : Nat) (hk : k < 80) (v : Int32) (h45 : I 45 k = nI 0) (h46 : I 46 k = v) : Sp X mX6_goesLeaf (d + 0) (0, 0) [.ref 42, .int (nI k)] shF I L (none, shF, I, (ndL L k (v).toInt64 (fun _ => 0) (fun _ => 0))) := by
  refine Sp.of okX6_goesLeaf [.ref 42, .int (nI k), .null] 1 rfl (Nat.le_of_ble_eq_true rfl) ?_
  refine r_aload_n (pc := 0) dX6_goesLeaf_0 rfl ?_
  refine r_getR (pc := 1) (b := 63) dX6_goesLeaf_1 fX6_72 rfl rfl ?_
  refine r_iload_n (pc := 4) dX6_goesLeaf_4 rfl ?_
  refine r_aload_n (pc := 5) dX6_goesLeaf_5 rfl ?_
  refine r_getR (pc := 6) (b := 45) dX6_goesLeaf_6 fX6_16 rfl rfl ?_
  refine r_iload_n (pc := 9) dX6_goesLeaf_9 rfl ?_
  refine r_ialdV (pc := 10) (j := k) (v := nI 0) dX6_goesLeaf_10 rfl rfl (by omega) (by decide) (h45) ?_
  refine r_ifN_ne (pc := 11) (tgt := 24) dX6_goesLeaf_11 (by decide) (by omega) (fun c1 => ?_) (fun c1 => ?_)
  · exact absurd c1 (by decide)
  · refine r_aload_n (pc := 14) dX6_goesLeaf_14 rfl ?_
    refine r_getR (pc := 15) (b := 46) dX6_goesLeaf_15 fX6_19 rfl rfl ?_
    refine r_iload_n (pc := 18) dX6_goesLeaf_18 rfl ?_
    refine r_ialdV (pc := 19) (j := k) (v := v) dX6_goesLeaf_19 rfl rfl (by omega) (by decide) (h46) ?_
    refine r_i2l (pc := 20) dX6_goesLeaf_20 ?_
    refine r_goto (pc := 21) (tgt := 36) dX6_goesLeaf_21 (by decide) ?_
    refine r_last (pc := 36) (j := k) dX6_goesLeaf_36 rfl rfl (by omega) (by decide) ?_
    refine r_iconst (pc := 37) (v := nI 0) dX6_goesLeaf_37 rfl ?_
    refine r_istore_n (pc := 38) (lo1 := [.ref 42, .int (nI k), .int (nI 0)]) dX6_goesLeaf_38 rfl (by decide) rfl ?_
    refine r_L (L' := (t2 (v2 L 63 k ((v).toInt64)) 64 (blkR (L 64) (fun _ => 0) (6 * k) 0))) (by rw [blkR_0]; exact (t2_self _ 64).symm) ?_
    exact lp_leaf0_a X d I L k hk v h45 h46 6 0 rfl
theorem lp_leaf1_b (X : Ctx) (d : Nat) (I : MI) (L : ML) (k a : Nat) (hk : k < 80) (ha : a < 6) (h45 : I 45 k = nI 1) (h46 : I 46 k = nI a) : ∀ (z i : Nat), i + z = 36 → Ev X mX6_goesLeaf (d + 0) (0, 0) (0, 0) (none, shF, I, (t2 (t2 (v2 L 63 k ((I 55 a).toInt64)) 64 (blkR (L 64) (fun x => if a = x then 1 else 0) (6 * k) 6)) 65 (blkR (L 65) (fun _ => 0) (36 * k) 36))) 89 [.ref 42, .int (nI k), .int (nI i)] [] shF I (t2 (t2 (v2 L 63 k ((I 55 a).toInt64)) 64 (blkR (L 64) (fun x => if a = x then 1 else 0) (6 * k) 6)) 65 (blkR (L 65) (fun _ => 0) (36 * k) i)) := by
  intro z
  induction z with
  | zero =>
    intro i hi
    have hi2 : i = 36 := by omega
    rw [hi2]
    refine r_iload_n (pc := 89) dX6_goesLeaf_89 rfl ?_
    refine r_bipush (pc := 90) dX6_goesLeaf_90 bp_36 ?_
    refine r_icmpN_ge (pc := 92) (tgt := 113) dX6_goesLeaf_92 (by decide) (by omega) (by omega) (fun c1 => ?_) (fun c1 => ?_)
    · exact r_vret dX6_goesLeaf_113 rfl (rfl) rfl
    · exact absurd c1 (by decide)
  | succ z ih =>
    intro i hi
    refine r_iload_n (pc := 89) dX6_goesLeaf_89 rfl ?_
    refine r_bipush (pc := 90) dX6_goesLeaf_90 bp_36 ?_
    refine r_icmpN_ge (pc := 92) (tgt := 113) dX6_goesLeaf_92 (by decide) (by omega) (by omega) (fun c2 => ?_) (fun c2 => ?_)
    · exact absurd c2 (by omega)
    · refine r_aload_n (pc := 95) dX6_goesLeaf_95 rfl ?_
      refine r_getR (pc := 96) (b := 65) dX6_goesLeaf_96 fX6_78 rfl rfl ?_
      refine r_bipush (pc := 99) dX6_goesLeaf_99 bp_36 ?_
      refine r_iload_n (pc := 101) dX6_goesLeaf_101 rfl ?_
      refine r_imulN (pc := 102) dX6_goesLeaf_102 ?_
      refine r_iload_n (pc := 103) dX6_goesLeaf_103 rfl ?_
      refine r_iaddN (pc := 104) dX6_goesLeaf_104 ?_
      refine r_lconst (pc := 105) (v := 0) dX6_goesLeaf_105 rfl ?_
      refine r_last (pc := 106) (j := (36 * k) + i) dX6_goesLeaf_106 rfl rfl (by omega) (by decide) ?_
      refine r_iinc (pc := 107) (v := nI (i + 1)) (lo1 := [.ref 42, .int (nI k), .int (nI (i + 1))]) dX6_goesLeaf_107 rfl rfl (ii1 _) (by decide) rfl ?_
      refine r_goto (pc := 110) (tgt := 89) dX6_goesLeaf_110 (by decide) ?_
      refine r_L (L' := (t2 (t2 (v2 L 63 k ((I 55 a).toInt64)) 64 (blkR (L 64) (fun x => if a = x then 1 else 0) (6 * k) 6)) 65 (blkR (L 65) (fun _ => 0) (36 * k) (i + 1)))) ((t2_v2 _ _ _ _ _).trans (congrArg (t2 _ 65) (blkR_s rfl))) ?_
      exact ih (i + 1) (by omega)
theorem lp_leaf1_a (X : Ctx) (d : Nat) (I : MI) (L : ML) (k a : Nat) (hk : k < 80) (ha : a < 6) (h45 : I 45 k = nI 1) (h46 : I 46 k = nI a) : ∀ (z i : Nat), i + z = 6 → Ev X mX6_goesLeaf (d + 0) (0, 0) (0, 0) (none, shF, I, (t2 (t2 (v2 L 63 k ((I 55 a).toInt64)) 64 (blkR (L 64) (fun x => if a = x then 1 else 0) (6 * k) 6)) 65 (blkR (L 65) (fun _ => 0) (36 * k) 36))) 39 [.ref 42, .int (nI k), .int (nI i)] [] shF I (t2 (v2 L 63 k ((I 55 a).toInt64)) 64 (blkR (L 64) (fun x => if a = x then 1 else 0) (6 * k) i)) := by
  intro z
  induction z with
  | zero =>
    intro i hi
    have hi2 : i = 6 := by omega
    rw [hi2]
    refine r_iload_n (pc := 39) dX6_goesLeaf_39 rfl ?_
    refine r_bipush (pc := 40) dX6_goesLeaf_40 bp_6 ?_
    refine r_icmpN_ge (pc := 42) (tgt := 87) dX6_goesLeaf_42 (by decide) (by omega) (by omega) (fun c3 => ?_) (fun c3 => ?_)
    · refine r_iconst (pc := 87) (v := nI 0) dX6_goesLeaf_87 rfl ?_
      refine r_istore_n (pc := 88) (lo1 := [.ref 42, .int (nI k), .int (nI 0)]) dX6_goesLeaf_88 rfl (by decide) rfl ?_
      refine r_L (L' := (t2 (t2 (v2 L 63 k ((I 55 a).toInt64)) 64 (blkR (L 64) (fun x => if a = x then 1 else 0) (6 * k) 6)) 65 (blkR (L 65) (fun _ => 0) (36 * k) 0))) (by rw [blkR_0]; exact (t2_self _ 65).symm) ?_
      exact lp_leaf1_b X d I L k a hk ha h45 h46 36 0 rfl
    · exact absurd c3 (by decide)
  | succ z ih =>
    intro i hi
    refine r_iload_n (pc := 39) dX6_goesLeaf_39 rfl ?_
    refine r_bipush (pc := 40) dX6_goesLeaf_40 bp_6 ?_
    refine r_icmpN_ge (pc := 42) (tgt := 87) dX6_goesLeaf_42 (by decide) (by omega) (by omega) (fun c4 => ?_) (fun c4 => ?_)
    · exact absurd c4 (by omega)
    · refine r_aload_n (pc := 45) dX6_goesLeaf_45 rfl ?_
      refine r_getR (pc := 46) (b := 64) dX6_goesLeaf_46 fX6_75 rfl rfl ?_
      refine r_bipush (pc := 49) dX6_goesLeaf_49 bp_6 ?_
      refine r_iload_n (pc := 51) dX6_goesLeaf_51 rfl ?_
      refine r_imulN (pc := 52) dX6_goesLeaf_52 ?_
      refine r_iload_n (pc := 53) dX6_goesLeaf_53 rfl ?_
      refine r_iaddN (pc := 54) dX6_goesLeaf_54 ?_
      refine r_aload_n (pc := 55) dX6_goesLeaf_55 rfl ?_
      refine r_getR (pc := 56) (b := 45) dX6_goesLeaf_56 fX6_16 rfl rfl ?_
      refine r_iload_n (pc := 59) dX6_goesLeaf_59 rfl ?_
      refine r_ialdV (pc := 60) (j := k) (v := nI 1) dX6_goesLeaf_60 rfl rfl (by omega) (by decide) (h45) ?_
      refine r_iconst (pc := 61) (v := nI 1) dX6_goesLeaf_61 rfl ?_
      refine r_icmpN_ne (pc := 62) (tgt := 79) dX6_goesLeaf_62 (by decide) (by omega) (by omega) (fun c5 => ?_) (fun c5 => ?_)
      · exact absurd c5 (by decide)
      · refine r_aload_n (pc := 65) dX6_goesLeaf_65 rfl ?_
        refine r_getR (pc := 66) (b := 46) dX6_goesLeaf_66 fX6_19 rfl rfl ?_
        refine r_iload_n (pc := 69) dX6_goesLeaf_69 rfl ?_
        refine r_ialdV (pc := 70) (j := k) (v := nI a) dX6_goesLeaf_70 rfl rfl (by omega) (by decide) (h46) ?_
        refine r_iload_n (pc := 71) dX6_goesLeaf_71 rfl ?_
        refine r_icmpN_ne (pc := 72) (tgt := 79) dX6_goesLeaf_72 (by decide) (by omega) (by omega) (fun c6 => ?_) (fun c6 => ?_)
        · refine r_lconst (pc := 79) (v := 0) dX6_goesLeaf_79 rfl ?_
          refine r_last (pc := 80) (j := (6 * k) + i) dX6_goesLeaf_80 rfl rfl (by omega) (by decide) ?_
          refine r_iinc (pc := 81) (v := nI (i + 1)) (lo1 := [.ref 42, .int (nI k), .int (nI (i + 1))]) dX6_goesLeaf_81 rfl rfl (ii1 _) (by decide) rfl ?_
          refine r_goto (pc := 84) (tgt := 39) dX6_goesLeaf_84 (by decide) ?_
          refine r_L (L' := (t2 (v2 L 63 k ((I 55 a).toInt64)) 64 (blkR (L 64) (fun x => if a = x then 1 else 0) (6 * k) (i + 1)))) ((t2_v2 _ _ _ _ _).trans (congrArg (t2 _ 64) (blkR_s (if_neg c6).symm))) ?_
          exact ih (i + 1) (by omega)
        · refine r_lconst (pc := 75) (v := 1) dX6_goesLeaf_75 rfl ?_
          refine r_goto (pc := 76) (tgt := 80) dX6_goesLeaf_76 (by decide) ?_
          refine r_last (pc := 80) (j := (6 * k) + i) dX6_goesLeaf_80 rfl rfl (by omega) (by decide) ?_
          refine r_iinc (pc := 81) (v := nI (i + 1)) (lo1 := [.ref 42, .int (nI k), .int (nI (i + 1))]) dX6_goesLeaf_81 rfl rfl (ii1 _) (by decide) rfl ?_
          refine r_goto (pc := 84) (tgt := 39) dX6_goesLeaf_84 (by decide) ?_
          refine r_L (L' := (t2 (v2 L 63 k ((I 55 a).toInt64)) 64 (blkR (L 64) (fun x => if a = x then 1 else 0) (6 * k) (i + 1)))) ((t2_v2 _ _ _ _ _).trans (congrArg (t2 _ 64) (blkR_s (if_pos c6).symm))) ?_
          exact ih (i + 1) (by omega)
theorem s_leaf1 (X : Ctx) (d : Nat) (I : MI) (L : ML) (k a : Nat) (hk : k < 80) (ha : a < 6) (h45 : I 45 k = nI 1) (h46 : I 46 k = nI a) : Sp X mX6_goesLeaf (d + 0) (0, 0) [.ref 42, .int (nI k)] shF I L (none, shF, I, (ndL L k (I 55 a).toInt64 (fun x => if a = x then 1 else 0) (fun _ => 0))) := by
  refine Sp.of okX6_goesLeaf [.ref 42, .int (nI k), .null] 1 rfl (Nat.le_of_ble_eq_true rfl) ?_
  refine r_aload_n (pc := 0) dX6_goesLeaf_0 rfl ?_
  refine r_getR (pc := 1) (b := 63) dX6_goesLeaf_1 fX6_72 rfl rfl ?_
  refine r_iload_n (pc := 4) dX6_goesLeaf_4 rfl ?_
  refine r_aload_n (pc := 5) dX6_goesLeaf_5 rfl ?_
  refine r_getR (pc := 6) (b := 45) dX6_goesLeaf_6 fX6_16 rfl rfl ?_
  refine r_iload_n (pc := 9) dX6_goesLeaf_9 rfl ?_
  refine r_ialdV (pc := 10) (j := k) (v := nI 1) dX6_goesLeaf_10 rfl rfl (by omega) (by decide) (h45) ?_
  refine r_ifN_ne (pc := 11) (tgt := 24) dX6_goesLeaf_11 (by decide) (by omega) (fun c1 => ?_) (fun c1 => ?_)
  · refine r_aload_n (pc := 24) dX6_goesLeaf_24 rfl ?_
    refine r_getR (pc := 25) (b := 55) dX6_goesLeaf_25 fX6_46 rfl rfl ?_
    refine r_aload_n (pc := 28) dX6_goesLeaf_28 rfl ?_
    refine r_getR (pc := 29) (b := 46) dX6_goesLeaf_29 fX6_19 rfl rfl ?_
    refine r_iload_n (pc := 32) dX6_goesLeaf_32 rfl ?_
    refine r_ialdV (pc := 33) (j := k) (v := nI a) dX6_goesLeaf_33 rfl rfl (by omega) (by decide) (h46) ?_
    refine r_iald (pc := 34) (j := a) dX6_goesLeaf_34 rfl rfl (by omega) (by decide) ?_
    refine r_i2l (pc := 35) dX6_goesLeaf_35 ?_
    refine r_last (pc := 36) (j := k) dX6_goesLeaf_36 rfl rfl (by omega) (by decide) ?_
    refine r_iconst (pc := 37) (v := nI 0) dX6_goesLeaf_37 rfl ?_
    refine r_istore_n (pc := 38) (lo1 := [.ref 42, .int (nI k), .int (nI 0)]) dX6_goesLeaf_38 rfl (by decide) rfl ?_
    refine r_L (L' := (t2 (v2 L 63 k ((I 55 a).toInt64)) 64 (blkR (L 64) (fun x => if a = x then 1 else 0) (6 * k) 0))) (by rw [blkR_0]; exact (t2_self _ 64).symm) ?_
    exact lp_leaf1_a X d I L k a hk ha h45 h46 6 0 rfl
  · exact absurd c1 (by decide)
theorem lp_one_b (X : Ctx) (d : Nat) (I : MI) (L : ML) (k l : Nat) (hl : l < k) (hk : k < 80) (mb av : Int32) (x fi se w : Int64) : ∀ (z i : Nat), i + z = 36 → Ev X mX6_goesOne (d + 0) (0, 0) (0, 0) (none, shF, I, (t2 (t2 (v2 L 63 k w) 64 (blkR (L 64) (fun x => fi * L 64 (6 * l + x)) (6 * k) 6)) 65 (blkR (L 65) (fun c => se * L 64 (6 * l + c / 6) * L 64 (6 * l + c % 6) + fi * L 65 (36 * l + c)) (36 * k) 36))) 171 [.ref 42, .int (nI k), .int (nI l), .int (mb), .int (av), .long (x), .null, .long (fi), .null, .long (se), .null, .int (nI i)] [] shF I (t2 (t2 (v2 L 63 k w) 64 (blkR (L 64) (fun x => fi * L 64 (6 * l + x)) (6 * k) 6)) 65 (blkR (L 65) (fun c => se * L 64 (6 * l + c / 6) * L 64 (6 * l + c % 6) + fi * L 65 (36 * l + c)) (36 * k) i)) := by
  intro z
  induction z with
  | zero =>
    intro i hi
    have hi2 : i = 36 := by omega
    rw [hi2]
    refine r_iload (pc := 171) dX6_goesOne_171 rfl ?_
    refine r_bipush (pc := 173) dX6_goesOne_173 bp_36 ?_
    refine r_icmpN_ge (pc := 175) (tgt := 246) dX6_goesOne_175 (by decide) (by omega) (by omega) (fun c1 => ?_) (fun c1 => ?_)
    · exact r_vret dX6_goesOne_246 rfl (rfl) rfl
    · exact absurd c1 (by decide)
  | succ z ih =>
    intro i hi
    refine r_iload (pc := 171) dX6_goesOne_171 rfl ?_
    refine r_bipush (pc := 173) dX6_goesOne_173 bp_36 ?_
    refine r_icmpN_ge (pc := 175) (tgt := 246) dX6_goesOne_175 (by decide) (by omega) (by omega) (fun c2 => ?_) (fun c2 => ?_)
    · exact absurd c2 (by omega)
    · refine r_aload_n (pc := 178) dX6_goesOne_178 rfl ?_
      refine r_getR (pc := 179) (b := 65) dX6_goesOne_179 fX6_78 rfl rfl ?_
      refine r_bipush (pc := 182) dX6_goesOne_182 bp_36 ?_
      refine r_iload_n (pc := 184) dX6_goesOne_184 rfl ?_
      refine r_imulN (pc := 185) dX6_goesOne_185 ?_
      refine r_iload (pc := 186) dX6_goesOne_186 rfl ?_
      refine r_iaddN (pc := 188) dX6_goesOne_188 ?_
      refine r_lload (pc := 189) dX6_goesOne_189 rfl ?_
      refine r_aload_n (pc := 191) dX6_goesOne_191 rfl ?_
      refine r_getR (pc := 192) (b := 64) dX6_goesOne_192 fX6_75 rfl rfl ?_
      refine r_bipush (pc := 195) dX6_goesOne_195 bp_6 ?_
      refine r_iload_n (pc := 197) dX6_goesOne_197 rfl ?_
      refine r_imulN (pc := 198) dX6_goesOne_198 ?_
      refine r_iload (pc := 199) dX6_goesOne_199 rfl ?_
      refine r_bipush (pc := 201) dX6_goesOne_201 bp_6 ?_
      refine r_idivN (pc := 203) dX6_goesOne_203 (by omega) (by decide) (by decide) ?_
      refine r_iaddN (pc := 204) dX6_goesOne_204 ?_
      refine r_laldV (pc := 205) (j := (6 * l) + (i / 6)) (v := L 64 ((6 * l) + (i / 6))) dX6_goesOne_205 rfl rfl (by omega) (by decide) (show (t2 (v2 L 63 k w) 64 (blkR (L 64) (fun x => fi * L 64 (6 * l + x)) (6 * k) 6)) 64 ((6 * l) + (i / 6)) = _ from rd_lo (by omega)) ?_
      refine r_lmul (pc := 206) dX6_goesOne_206 ?_
      refine r_aload_n (pc := 207) dX6_goesOne_207 rfl ?_
      refine r_getR (pc := 208) (b := 64) dX6_goesOne_208 fX6_75 rfl rfl ?_
      refine r_bipush (pc := 211) dX6_goesOne_211 bp_6 ?_
      refine r_iload_n (pc := 213) dX6_goesOne_213 rfl ?_
      refine r_imulN (pc := 214) dX6_goesOne_214 ?_
      refine r_iload (pc := 215) dX6_goesOne_215 rfl ?_
      refine r_bipush (pc := 217) dX6_goesOne_217 bp_6 ?_
      refine r_iremN (pc := 219) dX6_goesOne_219 (by omega) (by decide) (by decide) ?_
      refine r_iaddN (pc := 220) dX6_goesOne_220 ?_
      refine r_laldV (pc := 221) (j := (6 * l) + (i % 6)) (v := L 64 ((6 * l) + (i % 6))) dX6_goesOne_221 rfl rfl (by omega) (by decide) (show (t2 (v2 L 63 k w) 64 (blkR (L 64) (fun x => fi * L 64 (6 * l + x)) (6 * k) 6)) 64 ((6 * l) + (i % 6)) = _ from rd_lo (by omega)) ?_
      refine r_lmul (pc := 222) dX6_goesOne_222 ?_
      refine r_lload (pc := 223) dX6_goesOne_223 rfl ?_
      refine r_aload_n (pc := 225) dX6_goesOne_225 rfl ?_
      refine r_getR (pc := 226) (b := 65) dX6_goesOne_226 fX6_78 rfl rfl ?_
      refine r_bipush (pc := 229) dX6_goesOne_229 bp_36 ?_
      refine r_iload_n (pc := 231) dX6_goesOne_231 rfl ?_
      refine r_imulN (pc := 232) dX6_goesOne_232 ?_
      refine r_iload (pc := 233) dX6_goesOne_233 rfl ?_
      refine r_iaddN (pc := 235) dX6_goesOne_235 ?_
      refine r_laldV (pc := 236) (j := (36 * l) + i) (v := L 65 ((36 * l) + i)) dX6_goesOne_236 rfl rfl (by omega) (by decide) (show (t2 (t2 (v2 L 63 k w) 64 (blkR (L 64) (fun x => fi * L 64 (6 * l + x)) (6 * k) 6)) 65 (blkR (L 65) (fun c => se * L 64 (6 * l + c / 6) * L 64 (6 * l + c % 6) + fi * L 65 (36 * l + c)) (36 * k) i)) 65 ((36 * l) + i) = _ from rd_lo (by omega)) ?_
      refine r_lmul (pc := 237) dX6_goesOne_237 ?_
      refine r_ladd (pc := 238) dX6_goesOne_238 ?_
      refine r_last (pc := 239) (j := (36 * k) + i) dX6_goesOne_239 rfl rfl (by omega) (by decide) ?_
      refine r_iinc (pc := 240) (v := nI (i + 1)) (lo1 := [.ref 42, .int (nI k), .int (nI l), .int (mb), .int (av), .long (x), .null, .long (fi), .null, .long (se), .null, .int (nI (i + 1))]) dX6_goesOne_240 rfl rfl (ii1 _) (by decide) rfl ?_
      refine r_goto (pc := 243) (tgt := 171) dX6_goesOne_243 (by decide) ?_
      refine r_L (L' := (t2 (t2 (v2 L 63 k w) 64 (blkR (L 64) (fun x => fi * L 64 (6 * l + x)) (6 * k) 6)) 65 (blkR (L 65) (fun c => se * L 64 (6 * l + c / 6) * L 64 (6 * l + c % 6) + fi * L 65 (36 * l + c)) (36 * k) (i + 1)))) ((t2_v2 _ _ _ _ _).trans (congrArg (t2 _ 65) (blkR_s rfl))) ?_
      exact ih (i + 1) (by omega)
theorem lp_one_a (X : Ctx) (d : Nat) (I : MI) (L : ML) (k l : Nat) (hl : l < k) (hk : k < 80) (mb av : Int32) (x fi se w : Int64) : ∀ (z i : Nat), i + z = 6 → Ev X mX6_goesOne (d + 0) (0, 0) (0, 0) (none, shF, I, (t2 (t2 (v2 L 63 k w) 64 (blkR (L 64) (fun x => fi * L 64 (6 * l + x)) (6 * k) 6)) 65 (blkR (L 65) (fun c => se * L 64 (6 * l + c / 6) * L 64 (6 * l + c % 6) + fi * L 65 (36 * l + c)) (36 * k) 36))) 128 [.ref 42, .int (nI k), .int (nI l), .int (mb), .int (av), .long (x), .null, .long (fi), .null, .long (se), .null, .int (nI i)] [] shF I (t2 (v2 L 63 k w) 64 (blkR (L 64) (fun x => fi * L 64 (6 * l + x)) (6 * k) i)) := by
  intro z
  induction z with
  | zero =>
    intro i hi
    have hi2 : i = 6 := by omega
    rw [hi2]
    refine r_iload (pc := 128) dX6_goesOne_128 rfl ?_
    refine r_bipush (pc := 130) dX6_goesOne_130 bp_6 ?_
    refine r_icmpN_ge (pc := 132) (tgt := 168) dX6_goesOne_132 (by decide) (by omega) (by omega) (fun c3 => ?_) (fun c3 => ?_)
    · refine r_iconst (pc := 168) (v := nI 0) dX6_goesOne_168 rfl ?_
      refine r_istore (pc := 169) (lo1 := [.ref 42, .int (nI k), .int (nI l), .int (mb), .int (av), .long (x), .null, .long (fi), .null, .long (se), .null, .int (nI 0)]) dX6_goesOne_169 rfl (by decide) rfl ?_
      refine r_L (L' := (t2 (t2 (v2 L 63 k w) 64 (blkR (L 64) (fun x => fi * L 64 (6 * l + x)) (6 * k) 6)) 65 (blkR (L 65) (fun c => se * L 64 (6 * l + c / 6) * L 64 (6 * l + c % 6) + fi * L 65 (36 * l + c)) (36 * k) 0))) (by rw [blkR_0]; exact (t2_self _ 65).symm) ?_
      exact lp_one_b X d I L k l hl hk mb av x fi se w 36 0 rfl
    · exact absurd c3 (by decide)
  | succ z ih =>
    intro i hi
    refine r_iload (pc := 128) dX6_goesOne_128 rfl ?_
    refine r_bipush (pc := 130) dX6_goesOne_130 bp_6 ?_
    refine r_icmpN_ge (pc := 132) (tgt := 168) dX6_goesOne_132 (by decide) (by omega) (by omega) (fun c4 => ?_) (fun c4 => ?_)
    · exact absurd c4 (by omega)
    · refine r_aload_n (pc := 135) dX6_goesOne_135 rfl ?_
      refine r_getR (pc := 136) (b := 64) dX6_goesOne_136 fX6_75 rfl rfl ?_
      refine r_bipush (pc := 139) dX6_goesOne_139 bp_6 ?_
      refine r_iload_n (pc := 141) dX6_goesOne_141 rfl ?_
      refine r_imulN (pc := 142) dX6_goesOne_142 ?_
      refine r_iload (pc := 143) dX6_goesOne_143 rfl ?_
      refine r_iaddN (pc := 145) dX6_goesOne_145 ?_
      refine r_lload (pc := 146) dX6_goesOne_146 rfl ?_
      refine r_aload_n (pc := 148) dX6_goesOne_148 rfl ?_
      refine r_getR (pc := 149) (b := 64) dX6_goesOne_149 fX6_75 rfl rfl ?_
      refine r_bipush (pc := 152) dX6_goesOne_152 bp_6 ?_
      refine r_iload_n (pc := 154) dX6_goesOne_154 rfl ?_
      refine r_imulN (pc := 155) dX6_goesOne_155 ?_
      refine r_iload (pc := 156) dX6_goesOne_156 rfl ?_
      refine r_iaddN (pc := 158) dX6_goesOne_158 ?_
      refine r_laldV (pc := 159) (j := (6 * l) + i) (v := L 64 ((6 * l) + i)) dX6_goesOne_159 rfl rfl (by omega) (by decide) (show (t2 (v2 L 63 k w) 64 (blkR (L 64) (fun x => fi * L 64 (6 * l + x)) (6 * k) i)) 64 ((6 * l) + i) = _ from rd_lo (by omega)) ?_
      refine r_lmul (pc := 160) dX6_goesOne_160 ?_
      refine r_last (pc := 161) (j := (6 * k) + i) dX6_goesOne_161 rfl rfl (by omega) (by decide) ?_
      refine r_iinc (pc := 162) (v := nI (i + 1)) (lo1 := [.ref 42, .int (nI k), .int (nI l), .int (mb), .int (av), .long (x), .null, .long (fi), .null, .long (se), .null, .int (nI (i + 1))]) dX6_goesOne_162 rfl rfl (ii1 _) (by decide) rfl ?_
      refine r_goto (pc := 165) (tgt := 128) dX6_goesOne_165 (by decide) ?_
      refine r_L (L' := (t2 (v2 L 63 k w) 64 (blkR (L 64) (fun x => fi * L 64 (6 * l + x)) (6 * k) (i + 1)))) ((t2_v2 _ _ _ _ _).trans (congrArg (t2 _ 64) (blkR_s rfl))) ?_
      exact ih (i + 1) (by omega)
theorem s_one_m (X : Ctx) (d : Nat) (I : MI) (L : ML) (k l : Nat) (hl : l < k) (hk : k < 80) (v : Int32) (h45 : I 45 k = nI 110) (h46 : I 46 k = v) : Sp X mX6_goesOne (d + 1) (0, 0) [.ref 42, .int (nI k), .int (nI l)] shF I L (none, shF, I, (ndL L k (-(L 63 l)) (fun x => (-1) * L 64 (6 * l + x)) (fun c => (0) * L 64 (6 * l + c / 6) * L 64 (6 * l + c % 6) + (-1) * L 65 (36 * l + c)))) := by
  refine Sp.of okX6_goesOne [.ref 42, .int (nI k), .int (nI l), .null, .null, .null, .null, .null, .null, .null, .null, .null] 9 rfl (Nat.le_of_ble_eq_true rfl) ?_
  refine r_aload_n (pc := 0) dX6_goesOne_0 rfl ?_
  refine r_getR (pc := 1) (b := 45) dX6_goesOne_1 fX6_16 rfl rfl ?_
  refine r_iload_n (pc := 4) dX6_goesOne_4 rfl ?_
  refine r_ialdV (pc := 5) (j := k) (v := nI 110) dX6_goesOne_5 rfl rfl (by omega) (by decide) (h45) ?_
  refine r_bipush (pc := 6) dX6_goesOne_6 bp_110 ?_
  refine r_icmpN_ne (pc := 8) (tgt := 15) dX6_goesOne_8 (by decide) (by omega) (by omega) (fun c1 => ?_) (fun c1 => ?_)
  · exact absurd c1 (by decide)
  · refine r_iconst (pc := 11) (v := nI 1) dX6_goesOne_11 rfl ?_
    refine r_goto (pc := 12) (tgt := 16) dX6_goesOne_12 (by decide) ?_
    refine r_istore_n (pc := 16) (lo1 := [.ref 42, .int (nI k), .int (nI l), .int (nI 1), .null, .null, .null, .null, .null, .null, .null, .null]) dX6_goesOne_16 rfl (by decide) rfl ?_
    refine r_aload_n (pc := 17) dX6_goesOne_17 rfl ?_
    refine r_getR (pc := 18) (b := 46) dX6_goesOne_18 fX6_19 rfl rfl ?_
    refine r_iload_n (pc := 21) dX6_goesOne_21 rfl ?_
    refine r_ialdV (pc := 22) (j := k) (v := v) dX6_goesOne_22 rfl rfl (by omega) (by decide) (h46) ?_
    refine r_istore (pc := 23) (lo1 := [.ref 42, .int (nI k), .int (nI l), .int (nI 1), .int (v), .null, .null, .null, .null, .null, .null, .null]) dX6_goesOne_23 rfl (by decide) rfl ?_
    refine r_aload_n (pc := 25) dX6_goesOne_25 rfl ?_
    refine r_getR (pc := 26) (b := 63) dX6_goesOne_26 fX6_72 rfl rfl ?_
    refine r_iload_n (pc := 29) dX6_goesOne_29 rfl ?_
    refine r_lald (pc := 30) (j := l) dX6_goesOne_30 rfl rfl (by omega) (by decide) ?_
    refine r_lstore (pc := 31) (lo1 := [.ref 42, .int (nI k), .int (nI l), .int (nI 1), .int (v), .long (L 63 l), .null, .null, .null, .null, .null, .null]) dX6_goesOne_31 rfl (by decide) rfl ?_
    refine r_iload_n (pc := 33) dX6_goesOne_33 rfl ?_
    refine r_ifN_eq (pc := 34) (tgt := 43) dX6_goesOne_34 (by decide) (by omega) (fun c2 => ?_) (fun c2 => ?_)
    · exact absurd c2 (by decide)
    · refine r_ldc2 (pc := 37) dX6_goesOne_37 kX6_220 ?_
      refine r_goto (pc := 40) (tgt := 65) dX6_goesOne_40 (by decide) ?_
      refine r_lstore (pc := 65) (lo1 := [.ref 42, .int (nI k), .int (nI l), .int (nI 1), .int (v), .long (L 63 l), .null, .long (-1), .null, .null, .null, .null]) dX6_goesOne_65 rfl (by decide) rfl ?_
      refine r_iload_n (pc := 67) dX6_goesOne_67 rfl ?_
      refine r_ifN_ne (pc := 68) (tgt := 77) dX6_goesOne_68 (by decide) (by omega) (fun c3 => ?_) (fun c3 => ?_)
      · refine r_lconst (pc := 77) (v := 0) dX6_goesOne_77 rfl ?_
        refine r_goto (pc := 78) (tgt := 100) dX6_goesOne_78 (by decide) ?_
        refine r_lstore (pc := 100) (lo1 := [.ref 42, .int (nI k), .int (nI l), .int (nI 1), .int (v), .long (L 63 l), .null, .long (-1), .null, .long (0), .null, .null]) dX6_goesOne_100 rfl (by decide) rfl ?_
        refine r_aload_n (pc := 102) dX6_goesOne_102 rfl ?_
        refine r_getR (pc := 103) (b := 63) dX6_goesOne_103 fX6_72 rfl rfl ?_
        refine r_iload_n (pc := 106) dX6_goesOne_106 rfl ?_
        refine r_iload_n (pc := 107) dX6_goesOne_107 rfl ?_
        refine r_ifN_eq (pc := 108) (tgt := 117) dX6_goesOne_108 (by decide) (by omega) (fun c4 => ?_) (fun c4 => ?_)
        · exact absurd c4 (by decide)
        · refine r_lload (pc := 111) dX6_goesOne_111 rfl ?_
          refine r_lneg (pc := 113) dX6_goesOne_113 ?_
          refine r_goto (pc := 114) (tgt := 124) dX6_goesOne_114 (by decide) ?_
          refine r_last (pc := 124) (j := k) dX6_goesOne_124 rfl rfl (by omega) (by decide) ?_
          refine r_iconst (pc := 125) (v := nI 0) dX6_goesOne_125 rfl ?_
          refine r_istore (pc := 126) (lo1 := [.ref 42, .int (nI k), .int (nI l), .int (nI 1), .int (v), .long (L 63 l), .null, .long (-1), .null, .long (0), .null, .int (nI 0)]) dX6_goesOne_126 rfl (by decide) rfl ?_
          refine r_L (L' := (t2 (v2 L 63 k (-(L 63 l))) 64 (blkR (L 64) (fun x => (-1) * L 64 (6 * l + x)) (6 * k) 0))) (by rw [blkR_0]; exact (t2_self _ 64).symm) ?_
          exact lp_one_a X _ I L k l hl hk (nI 1) v (L 63 l) (-1) 0 (-(L 63 l)) 6 0 rfl
      · exact absurd c3 (by decide)
theorem s_one_0 (X : Ctx) (d : Nat) (I : MI) (L : ML) (k l : Nat) (hl : l < k) (hk : k < 80)  (h45 : I 45 k = nI 94) (h46 : I 46 k = nI 0) : Sp X mX6_goesOne (d + 1) (0, 0) [.ref 42, .int (nI k), .int (nI l)] shF I L (none, shF, I, (ndL L k (pw (L 63 l) 0) (fun x => (0) * L 64 (6 * l + x)) (fun c => (0) * L 64 (6 * l + c / 6) * L 64 (6 * l + c % 6) + (0) * L 65 (36 * l + c)))) := by
  refine Sp.of okX6_goesOne [.ref 42, .int (nI k), .int (nI l), .null, .null, .null, .null, .null, .null, .null, .null, .null] 9 rfl (Nat.le_of_ble_eq_true rfl) ?_
  refine r_aload_n (pc := 0) dX6_goesOne_0 rfl ?_
  refine r_getR (pc := 1) (b := 45) dX6_goesOne_1 fX6_16 rfl rfl ?_
  refine r_iload_n (pc := 4) dX6_goesOne_4 rfl ?_
  refine r_ialdV (pc := 5) (j := k) (v := nI 94) dX6_goesOne_5 rfl rfl (by omega) (by decide) (h45) ?_
  refine r_bipush (pc := 6) dX6_goesOne_6 bp_110 ?_
  refine r_icmpN_ne (pc := 8) (tgt := 15) dX6_goesOne_8 (by decide) (by omega) (by omega) (fun c1 => ?_) (fun c1 => ?_)
  · refine r_iconst (pc := 15) (v := nI 0) dX6_goesOne_15 rfl ?_
    refine r_istore_n (pc := 16) (lo1 := [.ref 42, .int (nI k), .int (nI l), .int (nI 0), .null, .null, .null, .null, .null, .null, .null, .null]) dX6_goesOne_16 rfl (by decide) rfl ?_
    refine r_aload_n (pc := 17) dX6_goesOne_17 rfl ?_
    refine r_getR (pc := 18) (b := 46) dX6_goesOne_18 fX6_19 rfl rfl ?_
    refine r_iload_n (pc := 21) dX6_goesOne_21 rfl ?_
    refine r_ialdV (pc := 22) (j := k) (v := nI 0) dX6_goesOne_22 rfl rfl (by omega) (by decide) (h46) ?_
    refine r_istore (pc := 23) (lo1 := [.ref 42, .int (nI k), .int (nI l), .int (nI 0), .int (nI 0), .null, .null, .null, .null, .null, .null, .null]) dX6_goesOne_23 rfl (by decide) rfl ?_
    refine r_aload_n (pc := 25) dX6_goesOne_25 rfl ?_
    refine r_getR (pc := 26) (b := 63) dX6_goesOne_26 fX6_72 rfl rfl ?_
    refine r_iload_n (pc := 29) dX6_goesOne_29 rfl ?_
    refine r_lald (pc := 30) (j := l) dX6_goesOne_30 rfl rfl (by omega) (by decide) ?_
    refine r_lstore (pc := 31) (lo1 := [.ref 42, .int (nI k), .int (nI l), .int (nI 0), .int (nI 0), .long (L 63 l), .null, .null, .null, .null, .null, .null]) dX6_goesOne_31 rfl (by decide) rfl ?_
    refine r_iload_n (pc := 33) dX6_goesOne_33 rfl ?_
    refine r_ifN_eq (pc := 34) (tgt := 43) dX6_goesOne_34 (by decide) (by omega) (fun c2 => ?_) (fun c2 => ?_)
    · refine r_iload (pc := 43) dX6_goesOne_43 rfl ?_
      refine r_ifN_ne (pc := 45) (tgt := 52) dX6_goesOne_45 (by decide) (by omega) (fun c3 => ?_) (fun c3 => ?_)
      · exact absurd c3 (by decide)
      · refine r_lconst (pc := 48) (v := 0) dX6_goesOne_48 rfl ?_
        refine r_goto (pc := 49) (tgt := 65) dX6_goesOne_49 (by decide) ?_
        refine r_lstore (pc := 65) (lo1 := [.ref 42, .int (nI k), .int (nI l), .int (nI 0), .int (nI 0), .long (L 63 l), .null, .long (0), .null, .null, .null, .null]) dX6_goesOne_65 rfl (by decide) rfl ?_
        refine r_iload_n (pc := 67) dX6_goesOne_67 rfl ?_
        refine r_ifN_ne (pc := 68) (tgt := 77) dX6_goesOne_68 (by decide) (by omega) (fun c4 => ?_) (fun c4 => ?_)
        · exact absurd c4 (by decide)
        · refine r_iload (pc := 71) dX6_goesOne_71 rfl ?_
          refine r_iconst (pc := 73) (v := nI 2) dX6_goesOne_73 rfl ?_
          refine r_icmpN_ge (pc := 74) (tgt := 81) dX6_goesOne_74 (by decide) (by omega) (by omega) (fun c5 => ?_) (fun c5 => ?_)
          · exact absurd c5 (by decide)
          · refine r_lconst (pc := 77) (v := 0) dX6_goesOne_77 rfl ?_
            refine r_goto (pc := 78) (tgt := 100) dX6_goesOne_78 (by decide) ?_
            refine r_lstore (pc := 100) (lo1 := [.ref 42, .int (nI k), .int (nI l), .int (nI 0), .int (nI 0), .long (L 63 l), .null, .long (0), .null, .long (0), .null, .null]) dX6_goesOne_100 rfl (by decide) rfl ?_
            refine r_aload_n (pc := 102) dX6_goesOne_102 rfl ?_
            refine r_getR (pc := 103) (b := 63) dX6_goesOne_103 fX6_72 rfl rfl ?_
            refine r_iload_n (pc := 106) dX6_goesOne_106 rfl ?_
            refine r_iload_n (pc := 107) dX6_goesOne_107 rfl ?_
            refine r_ifN_eq (pc := 108) (tgt := 117) dX6_goesOne_108 (by decide) (by omega) (fun c6 => ?_) (fun c6 => ?_)
            · refine r_lload (pc := 117) dX6_goesOne_117 rfl ?_
              refine r_iload (pc := 119) dX6_goesOne_119 rfl ?_
              refine r_callS (pc := 121) (N := mX6_power) (rest := [.int (nI k), .ref 63]) (s_mpower X _ I L (L 63 l) 0 (by omega)) okX6_power lkX6_222 rfl rfl (Nat.le_of_ble_eq_true rfl) ⟨Nat.le_refl _, Nat.le_refl _⟩ dX6_goesOne_121 ?_
              refine r_last (pc := 124) (j := k) dX6_goesOne_124 rfl rfl (by omega) (by decide) ?_
              refine r_iconst (pc := 125) (v := nI 0) dX6_goesOne_125 rfl ?_
              refine r_istore (pc := 126) (lo1 := [.ref 42, .int (nI k), .int (nI l), .int (nI 0), .int (nI 0), .long (L 63 l), .null, .long (0), .null, .long (0), .null, .int (nI 0)]) dX6_goesOne_126 rfl (by decide) rfl ?_
              refine r_L (L' := (t2 (v2 L 63 k (pw (L 63 l) 0)) 64 (blkR (L 64) (fun x => 0 * L 64 (6 * l + x)) (6 * k) 0))) (by rw [blkR_0]; exact (t2_self _ 64).symm) ?_
              exact lp_one_a X _ I L k l hl hk (nI 0) (nI 0) (L 63 l) 0 0 (pw (L 63 l) 0) 6 0 rfl
            · exact absurd c6 (by decide)
    · exact absurd c2 (by decide)
  · exact absurd c1 (by decide)
theorem s_one_1 (X : Ctx) (d : Nat) (I : MI) (L : ML) (k l : Nat) (hl : l < k) (hk : k < 80)  (h45 : I 45 k = nI 94) (h46 : I 46 k = nI 1) : Sp X mX6_goesOne (d + 1) (0, 0) [.ref 42, .int (nI k), .int (nI l)] shF I L (none, shF, I, (ndL L k (pw (L 63 l) 1) (fun x => ((nI 1).toInt64 * pw (L 63 l) 0) * L 64 (6 * l + x)) (fun c => (0) * L 64 (6 * l + c / 6) * L 64 (6 * l + c % 6) + ((nI 1).toInt64 * pw (L 63 l) 0) * L 65 (36 * l + c)))) := by
  refine Sp.of okX6_goesOne [.ref 42, .int (nI k), .int (nI l), .null, .null, .null, .null, .null, .null, .null, .null, .null] 9 rfl (Nat.le_of_ble_eq_true rfl) ?_
  refine r_aload_n (pc := 0) dX6_goesOne_0 rfl ?_
  refine r_getR (pc := 1) (b := 45) dX6_goesOne_1 fX6_16 rfl rfl ?_
  refine r_iload_n (pc := 4) dX6_goesOne_4 rfl ?_
  refine r_ialdV (pc := 5) (j := k) (v := nI 94) dX6_goesOne_5 rfl rfl (by omega) (by decide) (h45) ?_
  refine r_bipush (pc := 6) dX6_goesOne_6 bp_110 ?_
  refine r_icmpN_ne (pc := 8) (tgt := 15) dX6_goesOne_8 (by decide) (by omega) (by omega) (fun c1 => ?_) (fun c1 => ?_)
  · refine r_iconst (pc := 15) (v := nI 0) dX6_goesOne_15 rfl ?_
    refine r_istore_n (pc := 16) (lo1 := [.ref 42, .int (nI k), .int (nI l), .int (nI 0), .null, .null, .null, .null, .null, .null, .null, .null]) dX6_goesOne_16 rfl (by decide) rfl ?_
    refine r_aload_n (pc := 17) dX6_goesOne_17 rfl ?_
    refine r_getR (pc := 18) (b := 46) dX6_goesOne_18 fX6_19 rfl rfl ?_
    refine r_iload_n (pc := 21) dX6_goesOne_21 rfl ?_
    refine r_ialdV (pc := 22) (j := k) (v := nI 1) dX6_goesOne_22 rfl rfl (by omega) (by decide) (h46) ?_
    refine r_istore (pc := 23) (lo1 := [.ref 42, .int (nI k), .int (nI l), .int (nI 0), .int (nI 1), .null, .null, .null, .null, .null, .null, .null]) dX6_goesOne_23 rfl (by decide) rfl ?_
    refine r_aload_n (pc := 25) dX6_goesOne_25 rfl ?_
    refine r_getR (pc := 26) (b := 63) dX6_goesOne_26 fX6_72 rfl rfl ?_
    refine r_iload_n (pc := 29) dX6_goesOne_29 rfl ?_
    refine r_lald (pc := 30) (j := l) dX6_goesOne_30 rfl rfl (by omega) (by decide) ?_
    refine r_lstore (pc := 31) (lo1 := [.ref 42, .int (nI k), .int (nI l), .int (nI 0), .int (nI 1), .long (L 63 l), .null, .null, .null, .null, .null, .null]) dX6_goesOne_31 rfl (by decide) rfl ?_
    refine r_iload_n (pc := 33) dX6_goesOne_33 rfl ?_
    refine r_ifN_eq (pc := 34) (tgt := 43) dX6_goesOne_34 (by decide) (by omega) (fun c2 => ?_) (fun c2 => ?_)
    · refine r_iload (pc := 43) dX6_goesOne_43 rfl ?_
      refine r_ifN_ne (pc := 45) (tgt := 52) dX6_goesOne_45 (by decide) (by omega) (fun c3 => ?_) (fun c3 => ?_)
      · refine r_iload (pc := 52) dX6_goesOne_52 rfl ?_
        refine r_i2l (pc := 54) dX6_goesOne_54 ?_
        refine r_lload (pc := 55) dX6_goesOne_55 rfl ?_
        refine r_iload (pc := 57) dX6_goesOne_57 rfl ?_
        refine r_iconst (pc := 59) (v := nI 1) dX6_goesOne_59 rfl ?_
        refine r_isubN (pc := 60) dX6_goesOne_60 (by omega) ?_
        refine r_callS (pc := 61) (N := mX6_power) (rest := [.long ((nI 1).toInt64)]) (s_mpower X _ I L (L 63 l) 0 (by omega)) okX6_power lkX6_222 rfl rfl (Nat.le_of_ble_eq_true rfl) ⟨Nat.le_refl _, Nat.le_refl _⟩ dX6_goesOne_61 ?_
        refine r_lmul (pc := 64) dX6_goesOne_64 ?_
        refine r_lstore (pc := 65) (lo1 := [.ref 42, .int (nI k), .int (nI l), .int (nI 0), .int (nI 1), .long (L 63 l), .null, .long (((nI 1).toInt64) * (pw (L 63 l) 0)), .null, .null, .null, .null]) dX6_goesOne_65 rfl (by decide) rfl ?_
        refine r_iload_n (pc := 67) dX6_goesOne_67 rfl ?_
        refine r_ifN_ne (pc := 68) (tgt := 77) dX6_goesOne_68 (by decide) (by omega) (fun c4 => ?_) (fun c4 => ?_)
        · exact absurd c4 (by decide)
        · refine r_iload (pc := 71) dX6_goesOne_71 rfl ?_
          refine r_iconst (pc := 73) (v := nI 2) dX6_goesOne_73 rfl ?_
          refine r_icmpN_ge (pc := 74) (tgt := 81) dX6_goesOne_74 (by decide) (by omega) (by omega) (fun c5 => ?_) (fun c5 => ?_)
          · exact absurd c5 (by decide)
          · refine r_lconst (pc := 77) (v := 0) dX6_goesOne_77 rfl ?_
            refine r_goto (pc := 78) (tgt := 100) dX6_goesOne_78 (by decide) ?_
            refine r_lstore (pc := 100) (lo1 := [.ref 42, .int (nI k), .int (nI l), .int (nI 0), .int (nI 1), .long (L 63 l), .null, .long (((nI 1).toInt64) * (pw (L 63 l) 0)), .null, .long (0), .null, .null]) dX6_goesOne_100 rfl (by decide) rfl ?_
            refine r_aload_n (pc := 102) dX6_goesOne_102 rfl ?_
            refine r_getR (pc := 103) (b := 63) dX6_goesOne_103 fX6_72 rfl rfl ?_
            refine r_iload_n (pc := 106) dX6_goesOne_106 rfl ?_
            refine r_iload_n (pc := 107) dX6_goesOne_107 rfl ?_
            refine r_ifN_eq (pc := 108) (tgt := 117) dX6_goesOne_108 (by decide) (by omega) (fun c6 => ?_) (fun c6 => ?_)
            · refine r_lload (pc := 117) dX6_goesOne_117 rfl ?_
              refine r_iload (pc := 119) dX6_goesOne_119 rfl ?_
              refine r_callS (pc := 121) (N := mX6_power) (rest := [.int (nI k), .ref 63]) (s_mpower X _ I L (L 63 l) 1 (by omega)) okX6_power lkX6_222 rfl rfl (Nat.le_of_ble_eq_true rfl) ⟨Nat.le_refl _, Nat.le_refl _⟩ dX6_goesOne_121 ?_
              refine r_last (pc := 124) (j := k) dX6_goesOne_124 rfl rfl (by omega) (by decide) ?_
              refine r_iconst (pc := 125) (v := nI 0) dX6_goesOne_125 rfl ?_
              refine r_istore (pc := 126) (lo1 := [.ref 42, .int (nI k), .int (nI l), .int (nI 0), .int (nI 1), .long (L 63 l), .null, .long (((nI 1).toInt64) * (pw (L 63 l) 0)), .null, .long (0), .null, .int (nI 0)]) dX6_goesOne_126 rfl (by decide) rfl ?_
              refine r_L (L' := (t2 (v2 L 63 k (pw (L 63 l) 1)) 64 (blkR (L 64) (fun x => (((nI 1).toInt64) * (pw (L 63 l) 0)) * L 64 (6 * l + x)) (6 * k) 0))) (by rw [blkR_0]; exact (t2_self _ 64).symm) ?_
              exact lp_one_a X _ I L k l hl hk (nI 0) (nI 1) (L 63 l) (((nI 1).toInt64) * (pw (L 63 l) 0)) 0 (pw (L 63 l) 1) 6 0 rfl
            · exact absurd c6 (by decide)
      · exact absurd c3 (by decide)
    · exact absurd c2 (by decide)
  · exact absurd c1 (by decide)
theorem s_one_2 (X : Ctx) (d : Nat) (I : MI) (L : ML) (k l : Nat) (hl : l < k) (hk : k < 80)  (h45 : I 45 k = nI 94) (h46 : I 46 k = nI 2) : Sp X mX6_goesOne (d + 1) (0, 0) [.ref 42, .int (nI k), .int (nI l)] shF I L (none, shF, I, (ndL L k (pw (L 63 l) 2) (fun x => ((nI 2).toInt64 * pw (L 63 l) 1) * L 64 (6 * l + x)) (fun c => ((nI 2).toInt64 * (nI 1).toInt64 * pw (L 63 l) 0) * L 64 (6 * l + c / 6) * L 64 (6 * l + c % 6) + ((nI 2).toInt64 * pw (L 63 l) 1) * L 65 (36 * l + c)))) := by
  refine Sp.of okX6_goesOne [.ref 42, .int (nI k), .int (nI l), .null, .null, .null, .null, .null, .null, .null, .null, .null] 9 rfl (Nat.le_of_ble_eq_true rfl) ?_
  refine r_aload_n (pc := 0) dX6_goesOne_0 rfl ?_
  refine r_getR (pc := 1) (b := 45) dX6_goesOne_1 fX6_16 rfl rfl ?_
  refine r_iload_n (pc := 4) dX6_goesOne_4 rfl ?_
  refine r_ialdV (pc := 5) (j := k) (v := nI 94) dX6_goesOne_5 rfl rfl (by omega) (by decide) (h45) ?_
  refine r_bipush (pc := 6) dX6_goesOne_6 bp_110 ?_
  refine r_icmpN_ne (pc := 8) (tgt := 15) dX6_goesOne_8 (by decide) (by omega) (by omega) (fun c1 => ?_) (fun c1 => ?_)
  · refine r_iconst (pc := 15) (v := nI 0) dX6_goesOne_15 rfl ?_
    refine r_istore_n (pc := 16) (lo1 := [.ref 42, .int (nI k), .int (nI l), .int (nI 0), .null, .null, .null, .null, .null, .null, .null, .null]) dX6_goesOne_16 rfl (by decide) rfl ?_
    refine r_aload_n (pc := 17) dX6_goesOne_17 rfl ?_
    refine r_getR (pc := 18) (b := 46) dX6_goesOne_18 fX6_19 rfl rfl ?_
    refine r_iload_n (pc := 21) dX6_goesOne_21 rfl ?_
    refine r_ialdV (pc := 22) (j := k) (v := nI 2) dX6_goesOne_22 rfl rfl (by omega) (by decide) (h46) ?_
    refine r_istore (pc := 23) (lo1 := [.ref 42, .int (nI k), .int (nI l), .int (nI 0), .int (nI 2), .null, .null, .null, .null, .null, .null, .null]) dX6_goesOne_23 rfl (by decide) rfl ?_
    refine r_aload_n (pc := 25) dX6_goesOne_25 rfl ?_
    refine r_getR (pc := 26) (b := 63) dX6_goesOne_26 fX6_72 rfl rfl ?_
    refine r_iload_n (pc := 29) dX6_goesOne_29 rfl ?_
    refine r_lald (pc := 30) (j := l) dX6_goesOne_30 rfl rfl (by omega) (by decide) ?_
    refine r_lstore (pc := 31) (lo1 := [.ref 42, .int (nI k), .int (nI l), .int (nI 0), .int (nI 2), .long (L 63 l), .null, .null, .null, .null, .null, .null]) dX6_goesOne_31 rfl (by decide) rfl ?_
    refine r_iload_n (pc := 33) dX6_goesOne_33 rfl ?_
    refine r_ifN_eq (pc := 34) (tgt := 43) dX6_goesOne_34 (by decide) (by omega) (fun c2 => ?_) (fun c2 => ?_)
    · refine r_iload (pc := 43) dX6_goesOne_43 rfl ?_
      refine r_ifN_ne (pc := 45) (tgt := 52) dX6_goesOne_45 (by decide) (by omega) (fun c3 => ?_) (fun c3 => ?_)
      · refine r_iload (pc := 52) dX6_goesOne_52 rfl ?_
        refine r_i2l (pc := 54) dX6_goesOne_54 ?_
        refine r_lload (pc := 55) dX6_goesOne_55 rfl ?_
        refine r_iload (pc := 57) dX6_goesOne_57 rfl ?_
        refine r_iconst (pc := 59) (v := nI 1) dX6_goesOne_59 rfl ?_
        refine r_isubN (pc := 60) dX6_goesOne_60 (by omega) ?_
        refine r_callS (pc := 61) (N := mX6_power) (rest := [.long ((nI 2).toInt64)]) (s_mpower X _ I L (L 63 l) 1 (by omega)) okX6_power lkX6_222 rfl rfl (Nat.le_of_ble_eq_true rfl) ⟨Nat.le_refl _, Nat.le_refl _⟩ dX6_goesOne_61 ?_
        refine r_lmul (pc := 64) dX6_goesOne_64 ?_
        refine r_lstore (pc := 65) (lo1 := [.ref 42, .int (nI k), .int (nI l), .int (nI 0), .int (nI 2), .long (L 63 l), .null, .long (((nI 2).toInt64) * (pw (L 63 l) 1)), .null, .null, .null, .null]) dX6_goesOne_65 rfl (by decide) rfl ?_
        refine r_iload_n (pc := 67) dX6_goesOne_67 rfl ?_
        refine r_ifN_ne (pc := 68) (tgt := 77) dX6_goesOne_68 (by decide) (by omega) (fun c4 => ?_) (fun c4 => ?_)
        · exact absurd c4 (by decide)
        · refine r_iload (pc := 71) dX6_goesOne_71 rfl ?_
          refine r_iconst (pc := 73) (v := nI 2) dX6_goesOne_73 rfl ?_
          refine r_icmpN_ge (pc := 74) (tgt := 81) dX6_goesOne_74 (by decide) (by omega) (by omega) (fun c5 => ?_) (fun c5 => ?_)
          · refine r_iload (pc := 81) dX6_goesOne_81 rfl ?_
            refine r_i2l (pc := 83) dX6_goesOne_83 ?_
            refine r_iload (pc := 84) dX6_goesOne_84 rfl ?_
            refine r_iconst (pc := 86) (v := nI 1) dX6_goesOne_86 rfl ?_
            refine r_isubN (pc := 87) dX6_goesOne_87 (by omega) ?_
            refine r_i2l (pc := 88) dX6_goesOne_88 ?_
            refine r_lmul (pc := 89) dX6_goesOne_89 ?_
            refine r_lload (pc := 90) dX6_goesOne_90 rfl ?_
            refine r_iload (pc := 92) dX6_goesOne_92 rfl ?_
            refine r_iconst (pc := 94) (v := nI 2) dX6_goesOne_94 rfl ?_
            refine r_isubN (pc := 95) dX6_goesOne_95 (by omega) ?_
            refine r_callS (pc := 96) (N := mX6_power) (rest := [.long (((nI 2).toInt64) * ((nI 1).toInt64))]) (s_mpower X _ I L (L 63 l) 0 (by omega)) okX6_power lkX6_222 rfl rfl (Nat.le_of_ble_eq_true rfl) ⟨Nat.le_refl _, Nat.le_refl _⟩ dX6_goesOne_96 ?_
            refine r_lmul (pc := 99) dX6_goesOne_99 ?_
            refine r_lstore (pc := 100) (lo1 := [.ref 42, .int (nI k), .int (nI l), .int (nI 0), .int (nI 2), .long (L 63 l), .null, .long (((nI 2).toInt64) * (pw (L 63 l) 1)), .null, .long ((((nI 2).toInt64) * ((nI 1).toInt64)) * (pw (L 63 l) 0)), .null, .null]) dX6_goesOne_100 rfl (by decide) rfl ?_
            refine r_aload_n (pc := 102) dX6_goesOne_102 rfl ?_
            refine r_getR (pc := 103) (b := 63) dX6_goesOne_103 fX6_72 rfl rfl ?_
            refine r_iload_n (pc := 106) dX6_goesOne_106 rfl ?_
            refine r_iload_n (pc := 107) dX6_goesOne_107 rfl ?_
            refine r_ifN_eq (pc := 108) (tgt := 117) dX6_goesOne_108 (by decide) (by omega) (fun c6 => ?_) (fun c6 => ?_)
            · refine r_lload (pc := 117) dX6_goesOne_117 rfl ?_
              refine r_iload (pc := 119) dX6_goesOne_119 rfl ?_
              refine r_callS (pc := 121) (N := mX6_power) (rest := [.int (nI k), .ref 63]) (s_mpower X _ I L (L 63 l) 2 (by omega)) okX6_power lkX6_222 rfl rfl (Nat.le_of_ble_eq_true rfl) ⟨Nat.le_refl _, Nat.le_refl _⟩ dX6_goesOne_121 ?_
              refine r_last (pc := 124) (j := k) dX6_goesOne_124 rfl rfl (by omega) (by decide) ?_
              refine r_iconst (pc := 125) (v := nI 0) dX6_goesOne_125 rfl ?_
              refine r_istore (pc := 126) (lo1 := [.ref 42, .int (nI k), .int (nI l), .int (nI 0), .int (nI 2), .long (L 63 l), .null, .long (((nI 2).toInt64) * (pw (L 63 l) 1)), .null, .long ((((nI 2).toInt64) * ((nI 1).toInt64)) * (pw (L 63 l) 0)), .null, .int (nI 0)]) dX6_goesOne_126 rfl (by decide) rfl ?_
              refine r_L (L' := (t2 (v2 L 63 k (pw (L 63 l) 2)) 64 (blkR (L 64) (fun x => (((nI 2).toInt64) * (pw (L 63 l) 1)) * L 64 (6 * l + x)) (6 * k) 0))) (by rw [blkR_0]; exact (t2_self _ 64).symm) ?_
              exact lp_one_a X _ I L k l hl hk (nI 0) (nI 2) (L 63 l) (((nI 2).toInt64) * (pw (L 63 l) 1)) ((((nI 2).toInt64) * ((nI 1).toInt64)) * (pw (L 63 l) 0)) (pw (L 63 l) 2) 6 0 rfl
            · exact absurd c6 (by decide)
          · exact absurd c5 (by decide)
      · exact absurd c3 (by decide)
    · exact absurd c2 (by decide)
  · exact absurd c1 (by decide)
theorem s_one_3 (X : Ctx) (d : Nat) (I : MI) (L : ML) (k l : Nat) (hl : l < k) (hk : k < 80)  (h45 : I 45 k = nI 94) (h46 : I 46 k = nI 3) : Sp X mX6_goesOne (d + 1) (0, 0) [.ref 42, .int (nI k), .int (nI l)] shF I L (none, shF, I, (ndL L k (pw (L 63 l) 3) (fun x => ((nI 3).toInt64 * pw (L 63 l) 2) * L 64 (6 * l + x)) (fun c => ((nI 3).toInt64 * (nI 2).toInt64 * pw (L 63 l) 1) * L 64 (6 * l + c / 6) * L 64 (6 * l + c % 6) + ((nI 3).toInt64 * pw (L 63 l) 2) * L 65 (36 * l + c)))) := by
  refine Sp.of okX6_goesOne [.ref 42, .int (nI k), .int (nI l), .null, .null, .null, .null, .null, .null, .null, .null, .null] 9 rfl (Nat.le_of_ble_eq_true rfl) ?_
  refine r_aload_n (pc := 0) dX6_goesOne_0 rfl ?_
  refine r_getR (pc := 1) (b := 45) dX6_goesOne_1 fX6_16 rfl rfl ?_
  refine r_iload_n (pc := 4) dX6_goesOne_4 rfl ?_
  refine r_ialdV (pc := 5) (j := k) (v := nI 94) dX6_goesOne_5 rfl rfl (by omega) (by decide) (h45) ?_
  refine r_bipush (pc := 6) dX6_goesOne_6 bp_110 ?_
  refine r_icmpN_ne (pc := 8) (tgt := 15) dX6_goesOne_8 (by decide) (by omega) (by omega) (fun c1 => ?_) (fun c1 => ?_)
  · refine r_iconst (pc := 15) (v := nI 0) dX6_goesOne_15 rfl ?_
    refine r_istore_n (pc := 16) (lo1 := [.ref 42, .int (nI k), .int (nI l), .int (nI 0), .null, .null, .null, .null, .null, .null, .null, .null]) dX6_goesOne_16 rfl (by decide) rfl ?_
    refine r_aload_n (pc := 17) dX6_goesOne_17 rfl ?_
    refine r_getR (pc := 18) (b := 46) dX6_goesOne_18 fX6_19 rfl rfl ?_
    refine r_iload_n (pc := 21) dX6_goesOne_21 rfl ?_
    refine r_ialdV (pc := 22) (j := k) (v := nI 3) dX6_goesOne_22 rfl rfl (by omega) (by decide) (h46) ?_
    refine r_istore (pc := 23) (lo1 := [.ref 42, .int (nI k), .int (nI l), .int (nI 0), .int (nI 3), .null, .null, .null, .null, .null, .null, .null]) dX6_goesOne_23 rfl (by decide) rfl ?_
    refine r_aload_n (pc := 25) dX6_goesOne_25 rfl ?_
    refine r_getR (pc := 26) (b := 63) dX6_goesOne_26 fX6_72 rfl rfl ?_
    refine r_iload_n (pc := 29) dX6_goesOne_29 rfl ?_
    refine r_lald (pc := 30) (j := l) dX6_goesOne_30 rfl rfl (by omega) (by decide) ?_
    refine r_lstore (pc := 31) (lo1 := [.ref 42, .int (nI k), .int (nI l), .int (nI 0), .int (nI 3), .long (L 63 l), .null, .null, .null, .null, .null, .null]) dX6_goesOne_31 rfl (by decide) rfl ?_
    refine r_iload_n (pc := 33) dX6_goesOne_33 rfl ?_
    refine r_ifN_eq (pc := 34) (tgt := 43) dX6_goesOne_34 (by decide) (by omega) (fun c2 => ?_) (fun c2 => ?_)
    · refine r_iload (pc := 43) dX6_goesOne_43 rfl ?_
      refine r_ifN_ne (pc := 45) (tgt := 52) dX6_goesOne_45 (by decide) (by omega) (fun c3 => ?_) (fun c3 => ?_)
      · refine r_iload (pc := 52) dX6_goesOne_52 rfl ?_
        refine r_i2l (pc := 54) dX6_goesOne_54 ?_
        refine r_lload (pc := 55) dX6_goesOne_55 rfl ?_
        refine r_iload (pc := 57) dX6_goesOne_57 rfl ?_
        refine r_iconst (pc := 59) (v := nI 1) dX6_goesOne_59 rfl ?_
        refine r_isubN (pc := 60) dX6_goesOne_60 (by omega) ?_
        refine r_callS (pc := 61) (N := mX6_power) (rest := [.long ((nI 3).toInt64)]) (s_mpower X _ I L (L 63 l) 2 (by omega)) okX6_power lkX6_222 rfl rfl (Nat.le_of_ble_eq_true rfl) ⟨Nat.le_refl _, Nat.le_refl _⟩ dX6_goesOne_61 ?_
        refine r_lmul (pc := 64) dX6_goesOne_64 ?_
        refine r_lstore (pc := 65) (lo1 := [.ref 42, .int (nI k), .int (nI l), .int (nI 0), .int (nI 3), .long (L 63 l), .null, .long (((nI 3).toInt64) * (pw (L 63 l) 2)), .null, .null, .null, .null]) dX6_goesOne_65 rfl (by decide) rfl ?_
        refine r_iload_n (pc := 67) dX6_goesOne_67 rfl ?_
        refine r_ifN_ne (pc := 68) (tgt := 77) dX6_goesOne_68 (by decide) (by omega) (fun c4 => ?_) (fun c4 => ?_)
        · exact absurd c4 (by decide)
        · refine r_iload (pc := 71) dX6_goesOne_71 rfl ?_
          refine r_iconst (pc := 73) (v := nI 2) dX6_goesOne_73 rfl ?_
          refine r_icmpN_ge (pc := 74) (tgt := 81) dX6_goesOne_74 (by decide) (by omega) (by omega) (fun c5 => ?_) (fun c5 => ?_)
          · refine r_iload (pc := 81) dX6_goesOne_81 rfl ?_
            refine r_i2l (pc := 83) dX6_goesOne_83 ?_
            refine r_iload (pc := 84) dX6_goesOne_84 rfl ?_
            refine r_iconst (pc := 86) (v := nI 1) dX6_goesOne_86 rfl ?_
            refine r_isubN (pc := 87) dX6_goesOne_87 (by omega) ?_
            refine r_i2l (pc := 88) dX6_goesOne_88 ?_
            refine r_lmul (pc := 89) dX6_goesOne_89 ?_
            refine r_lload (pc := 90) dX6_goesOne_90 rfl ?_
            refine r_iload (pc := 92) dX6_goesOne_92 rfl ?_
            refine r_iconst (pc := 94) (v := nI 2) dX6_goesOne_94 rfl ?_
            refine r_isubN (pc := 95) dX6_goesOne_95 (by omega) ?_
            refine r_callS (pc := 96) (N := mX6_power) (rest := [.long (((nI 3).toInt64) * ((nI 2).toInt64))]) (s_mpower X _ I L (L 63 l) 1 (by omega)) okX6_power lkX6_222 rfl rfl (Nat.le_of_ble_eq_true rfl) ⟨Nat.le_refl _, Nat.le_refl _⟩ dX6_goesOne_96 ?_
            refine r_lmul (pc := 99) dX6_goesOne_99 ?_
            refine r_lstore (pc := 100) (lo1 := [.ref 42, .int (nI k), .int (nI l), .int (nI 0), .int (nI 3), .long (L 63 l), .null, .long (((nI 3).toInt64) * (pw (L 63 l) 2)), .null, .long ((((nI 3).toInt64) * ((nI 2).toInt64)) * (pw (L 63 l) 1)), .null, .null]) dX6_goesOne_100 rfl (by decide) rfl ?_
            refine r_aload_n (pc := 102) dX6_goesOne_102 rfl ?_
            refine r_getR (pc := 103) (b := 63) dX6_goesOne_103 fX6_72 rfl rfl ?_
            refine r_iload_n (pc := 106) dX6_goesOne_106 rfl ?_
            refine r_iload_n (pc := 107) dX6_goesOne_107 rfl ?_
            refine r_ifN_eq (pc := 108) (tgt := 117) dX6_goesOne_108 (by decide) (by omega) (fun c6 => ?_) (fun c6 => ?_)
            · refine r_lload (pc := 117) dX6_goesOne_117 rfl ?_
              refine r_iload (pc := 119) dX6_goesOne_119 rfl ?_
              refine r_callS (pc := 121) (N := mX6_power) (rest := [.int (nI k), .ref 63]) (s_mpower X _ I L (L 63 l) 3 (by omega)) okX6_power lkX6_222 rfl rfl (Nat.le_of_ble_eq_true rfl) ⟨Nat.le_refl _, Nat.le_refl _⟩ dX6_goesOne_121 ?_
              refine r_last (pc := 124) (j := k) dX6_goesOne_124 rfl rfl (by omega) (by decide) ?_
              refine r_iconst (pc := 125) (v := nI 0) dX6_goesOne_125 rfl ?_
              refine r_istore (pc := 126) (lo1 := [.ref 42, .int (nI k), .int (nI l), .int (nI 0), .int (nI 3), .long (L 63 l), .null, .long (((nI 3).toInt64) * (pw (L 63 l) 2)), .null, .long ((((nI 3).toInt64) * ((nI 2).toInt64)) * (pw (L 63 l) 1)), .null, .int (nI 0)]) dX6_goesOne_126 rfl (by decide) rfl ?_
              refine r_L (L' := (t2 (v2 L 63 k (pw (L 63 l) 3)) 64 (blkR (L 64) (fun x => (((nI 3).toInt64) * (pw (L 63 l) 2)) * L 64 (6 * l + x)) (6 * k) 0))) (by rw [blkR_0]; exact (t2_self _ 64).symm) ?_
              exact lp_one_a X _ I L k l hl hk (nI 0) (nI 3) (L 63 l) (((nI 3).toInt64) * (pw (L 63 l) 2)) ((((nI 3).toInt64) * ((nI 2).toInt64)) * (pw (L 63 l) 1)) (pw (L 63 l) 3) 6 0 rfl
            · exact absurd c6 (by decide)
          · exact absurd c5 (by decide)
      · exact absurd c3 (by decide)
    · exact absurd c2 (by decide)
  · exact absurd c1 (by decide)
theorem s_one_4 (X : Ctx) (d : Nat) (I : MI) (L : ML) (k l : Nat) (hl : l < k) (hk : k < 80)  (h45 : I 45 k = nI 94) (h46 : I 46 k = nI 4) : Sp X mX6_goesOne (d + 1) (0, 0) [.ref 42, .int (nI k), .int (nI l)] shF I L (none, shF, I, (ndL L k (pw (L 63 l) 4) (fun x => ((nI 4).toInt64 * pw (L 63 l) 3) * L 64 (6 * l + x)) (fun c => ((nI 4).toInt64 * (nI 3).toInt64 * pw (L 63 l) 2) * L 64 (6 * l + c / 6) * L 64 (6 * l + c % 6) + ((nI 4).toInt64 * pw (L 63 l) 3) * L 65 (36 * l + c)))) := by
  refine Sp.of okX6_goesOne [.ref 42, .int (nI k), .int (nI l), .null, .null, .null, .null, .null, .null, .null, .null, .null] 9 rfl (Nat.le_of_ble_eq_true rfl) ?_
  refine r_aload_n (pc := 0) dX6_goesOne_0 rfl ?_
  refine r_getR (pc := 1) (b := 45) dX6_goesOne_1 fX6_16 rfl rfl ?_
  refine r_iload_n (pc := 4) dX6_goesOne_4 rfl ?_
  refine r_ialdV (pc := 5) (j := k) (v := nI 94) dX6_goesOne_5 rfl rfl (by omega) (by decide) (h45) ?_
  refine r_bipush (pc := 6) dX6_goesOne_6 bp_110 ?_
  refine r_icmpN_ne (pc := 8) (tgt := 15) dX6_goesOne_8 (by decide) (by omega) (by omega) (fun c1 => ?_) (fun c1 => ?_)
  · refine r_iconst (pc := 15) (v := nI 0) dX6_goesOne_15 rfl ?_
    refine r_istore_n (pc := 16) (lo1 := [.ref 42, .int (nI k), .int (nI l), .int (nI 0), .null, .null, .null, .null, .null, .null, .null, .null]) dX6_goesOne_16 rfl (by decide) rfl ?_
    refine r_aload_n (pc := 17) dX6_goesOne_17 rfl ?_
    refine r_getR (pc := 18) (b := 46) dX6_goesOne_18 fX6_19 rfl rfl ?_
    refine r_iload_n (pc := 21) dX6_goesOne_21 rfl ?_
    refine r_ialdV (pc := 22) (j := k) (v := nI 4) dX6_goesOne_22 rfl rfl (by omega) (by decide) (h46) ?_
    refine r_istore (pc := 23) (lo1 := [.ref 42, .int (nI k), .int (nI l), .int (nI 0), .int (nI 4), .null, .null, .null, .null, .null, .null, .null]) dX6_goesOne_23 rfl (by decide) rfl ?_
    refine r_aload_n (pc := 25) dX6_goesOne_25 rfl ?_
    refine r_getR (pc := 26) (b := 63) dX6_goesOne_26 fX6_72 rfl rfl ?_
    refine r_iload_n (pc := 29) dX6_goesOne_29 rfl ?_
    refine r_lald (pc := 30) (j := l) dX6_goesOne_30 rfl rfl (by omega) (by decide) ?_
    refine r_lstore (pc := 31) (lo1 := [.ref 42, .int (nI k), .int (nI l), .int (nI 0), .int (nI 4), .long (L 63 l), .null, .null, .null, .null, .null, .null]) dX6_goesOne_31 rfl (by decide) rfl ?_
    refine r_iload_n (pc := 33) dX6_goesOne_33 rfl ?_
    refine r_ifN_eq (pc := 34) (tgt := 43) dX6_goesOne_34 (by decide) (by omega) (fun c2 => ?_) (fun c2 => ?_)
    · refine r_iload (pc := 43) dX6_goesOne_43 rfl ?_
      refine r_ifN_ne (pc := 45) (tgt := 52) dX6_goesOne_45 (by decide) (by omega) (fun c3 => ?_) (fun c3 => ?_)
      · refine r_iload (pc := 52) dX6_goesOne_52 rfl ?_
        refine r_i2l (pc := 54) dX6_goesOne_54 ?_
        refine r_lload (pc := 55) dX6_goesOne_55 rfl ?_
        refine r_iload (pc := 57) dX6_goesOne_57 rfl ?_
        refine r_iconst (pc := 59) (v := nI 1) dX6_goesOne_59 rfl ?_
        refine r_isubN (pc := 60) dX6_goesOne_60 (by omega) ?_
        refine r_callS (pc := 61) (N := mX6_power) (rest := [.long ((nI 4).toInt64)]) (s_mpower X _ I L (L 63 l) 3 (by omega)) okX6_power lkX6_222 rfl rfl (Nat.le_of_ble_eq_true rfl) ⟨Nat.le_refl _, Nat.le_refl _⟩ dX6_goesOne_61 ?_
        refine r_lmul (pc := 64) dX6_goesOne_64 ?_
        refine r_lstore (pc := 65) (lo1 := [.ref 42, .int (nI k), .int (nI l), .int (nI 0), .int (nI 4), .long (L 63 l), .null, .long (((nI 4).toInt64) * (pw (L 63 l) 3)), .null, .null, .null, .null]) dX6_goesOne_65 rfl (by decide) rfl ?_
        refine r_iload_n (pc := 67) dX6_goesOne_67 rfl ?_
        refine r_ifN_ne (pc := 68) (tgt := 77) dX6_goesOne_68 (by decide) (by omega) (fun c4 => ?_) (fun c4 => ?_)
        · exact absurd c4 (by decide)
        · refine r_iload (pc := 71) dX6_goesOne_71 rfl ?_
          refine r_iconst (pc := 73) (v := nI 2) dX6_goesOne_73 rfl ?_
          refine r_icmpN_ge (pc := 74) (tgt := 81) dX6_goesOne_74 (by decide) (by omega) (by omega) (fun c5 => ?_) (fun c5 => ?_)
          · refine r_iload (pc := 81) dX6_goesOne_81 rfl ?_
            refine r_i2l (pc := 83) dX6_goesOne_83 ?_
            refine r_iload (pc := 84) dX6_goesOne_84 rfl ?_
            refine r_iconst (pc := 86) (v := nI 1) dX6_goesOne_86 rfl ?_
            refine r_isubN (pc := 87) dX6_goesOne_87 (by omega) ?_
            refine r_i2l (pc := 88) dX6_goesOne_88 ?_
            refine r_lmul (pc := 89) dX6_goesOne_89 ?_
            refine r_lload (pc := 90) dX6_goesOne_90 rfl ?_
            refine r_iload (pc := 92) dX6_goesOne_92 rfl ?_
            refine r_iconst (pc := 94) (v := nI 2) dX6_goesOne_94 rfl ?_
            refine r_isubN (pc := 95) dX6_goesOne_95 (by omega) ?_
            refine r_callS (pc := 96) (N := mX6_power) (rest := [.long (((nI 4).toInt64) * ((nI 3).toInt64))]) (s_mpower X _ I L (L 63 l) 2 (by omega)) okX6_power lkX6_222 rfl rfl (Nat.le_of_ble_eq_true rfl) ⟨Nat.le_refl _, Nat.le_refl _⟩ dX6_goesOne_96 ?_
            refine r_lmul (pc := 99) dX6_goesOne_99 ?_
            refine r_lstore (pc := 100) (lo1 := [.ref 42, .int (nI k), .int (nI l), .int (nI 0), .int (nI 4), .long (L 63 l), .null, .long (((nI 4).toInt64) * (pw (L 63 l) 3)), .null, .long ((((nI 4).toInt64) * ((nI 3).toInt64)) * (pw (L 63 l) 2)), .null, .null]) dX6_goesOne_100 rfl (by decide) rfl ?_
            refine r_aload_n (pc := 102) dX6_goesOne_102 rfl ?_
            refine r_getR (pc := 103) (b := 63) dX6_goesOne_103 fX6_72 rfl rfl ?_
            refine r_iload_n (pc := 106) dX6_goesOne_106 rfl ?_
            refine r_iload_n (pc := 107) dX6_goesOne_107 rfl ?_
            refine r_ifN_eq (pc := 108) (tgt := 117) dX6_goesOne_108 (by decide) (by omega) (fun c6 => ?_) (fun c6 => ?_)
            · refine r_lload (pc := 117) dX6_goesOne_117 rfl ?_
              refine r_iload (pc := 119) dX6_goesOne_119 rfl ?_
              refine r_callS (pc := 121) (N := mX6_power) (rest := [.int (nI k), .ref 63]) (s_mpower X _ I L (L 63 l) 4 (by omega)) okX6_power lkX6_222 rfl rfl (Nat.le_of_ble_eq_true rfl) ⟨Nat.le_refl _, Nat.le_refl _⟩ dX6_goesOne_121 ?_
              refine r_last (pc := 124) (j := k) dX6_goesOne_124 rfl rfl (by omega) (by decide) ?_
              refine r_iconst (pc := 125) (v := nI 0) dX6_goesOne_125 rfl ?_
              refine r_istore (pc := 126) (lo1 := [.ref 42, .int (nI k), .int (nI l), .int (nI 0), .int (nI 4), .long (L 63 l), .null, .long (((nI 4).toInt64) * (pw (L 63 l) 3)), .null, .long ((((nI 4).toInt64) * ((nI 3).toInt64)) * (pw (L 63 l) 2)), .null, .int (nI 0)]) dX6_goesOne_126 rfl (by decide) rfl ?_
              refine r_L (L' := (t2 (v2 L 63 k (pw (L 63 l) 4)) 64 (blkR (L 64) (fun x => (((nI 4).toInt64) * (pw (L 63 l) 3)) * L 64 (6 * l + x)) (6 * k) 0))) (by rw [blkR_0]; exact (t2_self _ 64).symm) ?_
              exact lp_one_a X _ I L k l hl hk (nI 0) (nI 4) (L 63 l) (((nI 4).toInt64) * (pw (L 63 l) 3)) ((((nI 4).toInt64) * ((nI 3).toInt64)) * (pw (L 63 l) 2)) (pw (L 63 l) 4) 6 0 rfl
            · exact absurd c6 (by decide)
          · exact absurd c5 (by decide)
      · exact absurd c3 (by decide)
    · exact absurd c2 (by decide)
  · exact absurd c1 (by decide)
theorem lp_two1_b (X : Ctx) (d : Nat) (I : MI) (L : ML) (k l r : Nat) (hl : l < k) (hr : r < k) (hk : k < 80) (oa ob w : Int64) : ∀ (z i : Nat), i + z = 36 → Ev X mX6_goesTwo (d + 0) (0, 0) (0, 0) (none, shF, I, (t2 (t2 (v2 L 63 k w) 64 (blkR (L 64) (fun x => oa * L 64 (6 * l + x) + ob * L 64 (6 * r + x)) (6 * k) 6)) 65 (blkR (L 65) (fun c => oa * L 65 (36 * l + c) + ob * L 65 (36 * r + c) + (L 64 (6 * l + c / 6) * L 64 (6 * r + c % 6) + L 64 (6 * l + c % 6) * L 64 (6 * r + c / 6))) (36 * k) 36))) 174 [.ref 42, .int (nI k), .int (nI l), .int (nI r), .int (nI 1), .long (oa), .null, .long (ob), .null, .int (nI i), .null, .null] [] shF I (t2 (t2 (v2 L 63 k w) 64 (blkR (L 64) (fun x => oa * L 64 (6 * l + x) + ob * L 64 (6 * r + x)) (6 * k) 6)) 65 (blkR (L 65) (fun c => oa * L 65 (36 * l + c) + ob * L 65 (36 * r + c) + (L 64 (6 * l + c / 6) * L 64 (6 * r + c % 6) + L 64 (6 * l + c % 6) * L 64 (6 * r + c / 6))) (36 * k) i)) := by
  intro z
  induction z with
  | zero =>
    intro i hi
    have hi2 : i = 36 := by omega
    rw [hi2]
    refine r_iload (pc := 174) dX6_goesTwo_174 rfl ?_
    refine r_bipush (pc := 176) dX6_goesTwo_176 bp_36 ?_
    refine r_icmpN_ge (pc := 178) (tgt := 307) dX6_goesTwo_178 (by decide) (by omega) (by omega) (fun c1 => ?_) (fun c1 => ?_)
    · exact r_vret dX6_goesTwo_307 rfl (rfl) rfl
    · exact absurd c1 (by decide)
  | succ z ih =>
    intro i hi
    refine r_iload (pc := 174) dX6_goesTwo_174 rfl ?_
    refine r_bipush (pc := 176) dX6_goesTwo_176 bp_36 ?_
    refine r_icmpN_ge (pc := 178) (tgt := 307) dX6_goesTwo_178 (by decide) (by omega) (by omega) (fun c2 => ?_) (fun c2 => ?_)
    · exact absurd c2 (by omega)
    · refine r_aload_n (pc := 181) dX6_goesTwo_181 rfl ?_
      refine r_getR (pc := 182) (b := 64) dX6_goesTwo_182 fX6_75 rfl rfl ?_
      refine r_bipush (pc := 185) dX6_goesTwo_185 bp_6 ?_
      refine r_iload_n (pc := 187) dX6_goesTwo_187 rfl ?_
      refine r_imulN (pc := 188) dX6_goesTwo_188 ?_
      refine r_iload (pc := 189) dX6_goesTwo_189 rfl ?_
      refine r_bipush (pc := 191) dX6_goesTwo_191 bp_6 ?_
      refine r_idivN (pc := 193) dX6_goesTwo_193 (by omega) (by decide) (by decide) ?_
      refine r_iaddN (pc := 194) dX6_goesTwo_194 ?_
      refine r_laldV (pc := 195) (j := (6 * l) + (i / 6)) (v := L 64 ((6 * l) + (i / 6))) dX6_goesTwo_195 rfl rfl (by omega) (by decide) (show (t2 (v2 L 63 k w) 64 (blkR (L 64) (fun x => oa * L 64 (6 * l + x) + ob * L 64 (6 * r + x)) (6 * k) 6)) 64 ((6 * l) + (i / 6)) = _ from rd_lo (by omega)) ?_
      refine r_aload_n (pc := 196) dX6_goesTwo_196 rfl ?_
      refine r_getR (pc := 197) (b := 64) dX6_goesTwo_197 fX6_75 rfl rfl ?_
      refine r_bipush (pc := 200) dX6_goesTwo_200 bp_6 ?_
      refine r_iload_n (pc := 202) dX6_goesTwo_202 rfl ?_
      refine r_imulN (pc := 203) dX6_goesTwo_203 ?_
      refine r_iload (pc := 204) dX6_goesTwo_204 rfl ?_
      refine r_bipush (pc := 206) dX6_goesTwo_206 bp_6 ?_
      refine r_iremN (pc := 208) dX6_goesTwo_208 (by omega) (by decide) (by decide) ?_
      refine r_iaddN (pc := 209) dX6_goesTwo_209 ?_
      refine r_laldV (pc := 210) (j := (6 * r) + (i % 6)) (v := L 64 ((6 * r) + (i % 6))) dX6_goesTwo_210 rfl rfl (by omega) (by decide) (show (t2 (v2 L 63 k w) 64 (blkR (L 64) (fun x => oa * L 64 (6 * l + x) + ob * L 64 (6 * r + x)) (6 * k) 6)) 64 ((6 * r) + (i % 6)) = _ from rd_lo (by omega)) ?_
      refine r_lmul (pc := 211) dX6_goesTwo_211 ?_
      refine r_aload_n (pc := 212) dX6_goesTwo_212 rfl ?_
      refine r_getR (pc := 213) (b := 64) dX6_goesTwo_213 fX6_75 rfl rfl ?_
      refine r_bipush (pc := 216) dX6_goesTwo_216 bp_6 ?_
      refine r_iload_n (pc := 218) dX6_goesTwo_218 rfl ?_
      refine r_imulN (pc := 219) dX6_goesTwo_219 ?_
      refine r_iload (pc := 220) dX6_goesTwo_220 rfl ?_
      refine r_bipush (pc := 222) dX6_goesTwo_222 bp_6 ?_
      refine r_iremN (pc := 224) dX6_goesTwo_224 (by omega) (by decide) (by decide) ?_
      refine r_iaddN (pc := 225) dX6_goesTwo_225 ?_
      refine r_laldV (pc := 226) (j := (6 * l) + (i % 6)) (v := L 64 ((6 * l) + (i % 6))) dX6_goesTwo_226 rfl rfl (by omega) (by decide) (show (t2 (v2 L 63 k w) 64 (blkR (L 64) (fun x => oa * L 64 (6 * l + x) + ob * L 64 (6 * r + x)) (6 * k) 6)) 64 ((6 * l) + (i % 6)) = _ from rd_lo (by omega)) ?_
      refine r_aload_n (pc := 227) dX6_goesTwo_227 rfl ?_
      refine r_getR (pc := 228) (b := 64) dX6_goesTwo_228 fX6_75 rfl rfl ?_
      refine r_bipush (pc := 231) dX6_goesTwo_231 bp_6 ?_
      refine r_iload_n (pc := 233) dX6_goesTwo_233 rfl ?_
      refine r_imulN (pc := 234) dX6_goesTwo_234 ?_
      refine r_iload (pc := 235) dX6_goesTwo_235 rfl ?_
      refine r_bipush (pc := 237) dX6_goesTwo_237 bp_6 ?_
      refine r_idivN (pc := 239) dX6_goesTwo_239 (by omega) (by decide) (by decide) ?_
      refine r_iaddN (pc := 240) dX6_goesTwo_240 ?_
      refine r_laldV (pc := 241) (j := (6 * r) + (i / 6)) (v := L 64 ((6 * r) + (i / 6))) dX6_goesTwo_241 rfl rfl (by omega) (by decide) (show (t2 (v2 L 63 k w) 64 (blkR (L 64) (fun x => oa * L 64 (6 * l + x) + ob * L 64 (6 * r + x)) (6 * k) 6)) 64 ((6 * r) + (i / 6)) = _ from rd_lo (by omega)) ?_
      refine r_lmul (pc := 242) dX6_goesTwo_242 ?_
      refine r_ladd (pc := 243) dX6_goesTwo_243 ?_
      refine r_lstore (pc := 244) (lo1 := [.ref 42, .int (nI k), .int (nI l), .int (nI r), .int (nI 1), .long (oa), .null, .long (ob), .null, .int (nI i), .long (((L 64 ((6 * l) + (i / 6))) * (L 64 ((6 * r) + (i % 6)))) + ((L 64 ((6 * l) + (i % 6))) * (L 64 ((6 * r) + (i / 6))))), .null]) dX6_goesTwo_244 rfl (by decide) rfl ?_
      refine r_aload_n (pc := 246) dX6_goesTwo_246 rfl ?_
      refine r_getR (pc := 247) (b := 65) dX6_goesTwo_247 fX6_78 rfl rfl ?_
      refine r_bipush (pc := 250) dX6_goesTwo_250 bp_36 ?_
      refine r_iload_n (pc := 252) dX6_goesTwo_252 rfl ?_
      refine r_imulN (pc := 253) dX6_goesTwo_253 ?_
      refine r_iload (pc := 254) dX6_goesTwo_254 rfl ?_
      refine r_iaddN (pc := 256) dX6_goesTwo_256 ?_
      refine r_lload (pc := 257) dX6_goesTwo_257 rfl ?_
      refine r_aload_n (pc := 259) dX6_goesTwo_259 rfl ?_
      refine r_getR (pc := 260) (b := 65) dX6_goesTwo_260 fX6_78 rfl rfl ?_
      refine r_bipush (pc := 263) dX6_goesTwo_263 bp_36 ?_
      refine r_iload_n (pc := 265) dX6_goesTwo_265 rfl ?_
      refine r_imulN (pc := 266) dX6_goesTwo_266 ?_
      refine r_iload (pc := 267) dX6_goesTwo_267 rfl ?_
      refine r_iaddN (pc := 269) dX6_goesTwo_269 ?_
      refine r_laldV (pc := 270) (j := (36 * l) + i) (v := L 65 ((36 * l) + i)) dX6_goesTwo_270 rfl rfl (by omega) (by decide) (show (t2 (t2 (v2 L 63 k w) 64 (blkR (L 64) (fun x => oa * L 64 (6 * l + x) + ob * L 64 (6 * r + x)) (6 * k) 6)) 65 (blkR (L 65) (fun c => oa * L 65 (36 * l + c) + ob * L 65 (36 * r + c) + (L 64 (6 * l + c / 6) * L 64 (6 * r + c % 6) + L 64 (6 * l + c % 6) * L 64 (6 * r + c / 6))) (36 * k) i)) 65 ((36 * l) + i) = _ from rd_lo (by omega)) ?_
      refine r_lmul (pc := 271) dX6_goesTwo_271 ?_
      refine r_lload (pc := 272) dX6_goesTwo_272 rfl ?_
      refine r_aload_n (pc := 274) dX6_goesTwo_274 rfl ?_
      refine r_getR (pc := 275) (b := 65) dX6_goesTwo_275 fX6_78 rfl rfl ?_
      refine r_bipush (pc := 278) dX6_goesTwo_278 bp_36 ?_
      refine r_iload_n (pc := 280) dX6_goesTwo_280 rfl ?_
      refine r_imulN (pc := 281) dX6_goesTwo_281 ?_
      refine r_iload (pc := 282) dX6_goesTwo_282 rfl ?_
      refine r_iaddN (pc := 284) dX6_goesTwo_284 ?_
      refine r_laldV (pc := 285) (j := (36 * r) + i) (v := L 65 ((36 * r) + i)) dX6_goesTwo_285 rfl rfl (by omega) (by decide) (show (t2 (t2 (v2 L 63 k w) 64 (blkR (L 64) (fun x => oa * L 64 (6 * l + x) + ob * L 64 (6 * r + x)) (6 * k) 6)) 65 (blkR (L 65) (fun c => oa * L 65 (36 * l + c) + ob * L 65 (36 * r + c) + (L 64 (6 * l + c / 6) * L 64 (6 * r + c % 6) + L 64 (6 * l + c % 6) * L 64 (6 * r + c / 6))) (36 * k) i)) 65 ((36 * r) + i) = _ from rd_lo (by omega)) ?_
      refine r_lmul (pc := 286) dX6_goesTwo_286 ?_
      refine r_ladd (pc := 287) dX6_goesTwo_287 ?_
      refine r_iload (pc := 288) dX6_goesTwo_288 rfl ?_
      refine r_ifN_eq (pc := 290) (tgt := 298) dX6_goesTwo_290 (by decide) (by omega) (fun c3 => ?_) (fun c3 => ?_)
      · exact absurd c3 (by decide)
      · refine r_lload (pc := 293) dX6_goesTwo_293 rfl ?_
        refine r_goto (pc := 295) (tgt := 299) dX6_goesTwo_295 (by decide) ?_
        refine r_ladd (pc := 299) dX6_goesTwo_299 ?_
        refine r_last (pc := 300) (j := (36 * k) + i) dX6_goesTwo_300 rfl rfl (by omega) (by decide) ?_
        refine r_iinc (pc := 301) (v := nI (i + 1)) (lo1 := [.ref 42, .int (nI k), .int (nI l), .int (nI r), .int (nI 1), .long (oa), .null, .long (ob), .null, .int (nI (i + 1)), .long (((L 64 ((6 * l) + (i / 6))) * (L 64 ((6 * r) + (i % 6)))) + ((L 64 ((6 * l) + (i % 6))) * (L 64 ((6 * r) + (i / 6))))), .null]) dX6_goesTwo_301 rfl rfl (ii1 _) (by decide) rfl ?_
        refine r_goto (pc := 304) (tgt := 174) dX6_goesTwo_304 (by decide) ?_
        refine r_drop (lo1 := [.ref 42, .int (nI k), .int (nI l), .int (nI r), .int (nI 1), .long (oa), .null, .long (ob), .null, .int (nI (i + 1)), .null, .null]) 10 rfl ?_
        refine r_L (L' := (t2 (t2 (v2 L 63 k w) 64 (blkR (L 64) (fun x => oa * L 64 (6 * l + x) + ob * L 64 (6 * r + x)) (6 * k) 6)) 65 (blkR (L 65) (fun c => oa * L 65 (36 * l + c) + ob * L 65 (36 * r + c) + (L 64 (6 * l + c / 6) * L 64 (6 * r + c % 6) + L 64 (6 * l + c % 6) * L 64 (6 * r + c / 6))) (36 * k) (i + 1)))) ((t2_v2 _ _ _ _ _).trans (congrArg (t2 _ 65) (blkR_s rfl))) ?_
        exact ih (i + 1) (by omega)
theorem lp_two1_a (X : Ctx) (d : Nat) (I : MI) (L : ML) (k l r : Nat) (hl : l < k) (hr : r < k) (hk : k < 80) (oa ob w : Int64) : ∀ (z i : Nat), i + z = 6 → Ev X mX6_goesTwo (d + 0) (0, 0) (0, 0) (none, shF, I, (t2 (t2 (v2 L 63 k w) 64 (blkR (L 64) (fun x => oa * L 64 (6 * l + x) + ob * L 64 (6 * r + x)) (6 * k) 6)) 65 (blkR (L 65) (fun c => oa * L 65 (36 * l + c) + ob * L 65 (36 * r + c) + (L 64 (6 * l + c / 6) * L 64 (6 * r + c % 6) + L 64 (6 * l + c % 6) * L 64 (6 * r + c / 6))) (36 * k) 36))) 115 [.ref 42, .int (nI k), .int (nI l), .int (nI r), .int (nI 1), .long (oa), .null, .long (ob), .null, .int (nI i), .null, .null] [] shF I (t2 (v2 L 63 k w) 64 (blkR (L 64) (fun x => oa * L 64 (6 * l + x) + ob * L 64 (6 * r + x)) (6 * k) i)) := by
  intro z
  induction z with
  | zero =>
    intro i hi
    have hi2 : i = 6 := by omega
    rw [hi2]
    refine r_iload (pc := 115) dX6_goesTwo_115 rfl ?_
    refine r_bipush (pc := 117) dX6_goesTwo_117 bp_6 ?_
    refine r_icmpN_ge (pc := 119) (tgt := 171) dX6_goesTwo_119 (by decide) (by omega) (by omega) (fun c4 => ?_) (fun c4 => ?_)
    · refine r_iconst (pc := 171) (v := nI 0) dX6_goesTwo_171 rfl ?_
      refine r_istore (pc := 172) (lo1 := [.ref 42, .int (nI k), .int (nI l), .int (nI r), .int (nI 1), .long (oa), .null, .long (ob), .null, .int (nI 0), .null, .null]) dX6_goesTwo_172 rfl (by decide) rfl ?_
      refine r_L (L' := (t2 (t2 (v2 L 63 k w) 64 (blkR (L 64) (fun x => oa * L 64 (6 * l + x) + ob * L 64 (6 * r + x)) (6 * k) 6)) 65 (blkR (L 65) (fun c => oa * L 65 (36 * l + c) + ob * L 65 (36 * r + c) + (L 64 (6 * l + c / 6) * L 64 (6 * r + c % 6) + L 64 (6 * l + c % 6) * L 64 (6 * r + c / 6))) (36 * k) 0))) (by rw [blkR_0]; exact (t2_self _ 65).symm) ?_
      exact lp_two1_b X d I L k l r hl hr hk oa ob w 36 0 rfl
    · exact absurd c4 (by decide)
  | succ z ih =>
    intro i hi
    refine r_iload (pc := 115) dX6_goesTwo_115 rfl ?_
    refine r_bipush (pc := 117) dX6_goesTwo_117 bp_6 ?_
    refine r_icmpN_ge (pc := 119) (tgt := 171) dX6_goesTwo_119 (by decide) (by omega) (by omega) (fun c5 => ?_) (fun c5 => ?_)
    · exact absurd c5 (by omega)
    · refine r_aload_n (pc := 122) dX6_goesTwo_122 rfl ?_
      refine r_getR (pc := 123) (b := 64) dX6_goesTwo_123 fX6_75 rfl rfl ?_
      refine r_bipush (pc := 126) dX6_goesTwo_126 bp_6 ?_
      refine r_iload_n (pc := 128) dX6_goesTwo_128 rfl ?_
      refine r_imulN (pc := 129) dX6_goesTwo_129 ?_
      refine r_iload (pc := 130) dX6_goesTwo_130 rfl ?_
      refine r_iaddN (pc := 132) dX6_goesTwo_132 ?_
      refine r_lload (pc := 133) dX6_goesTwo_133 rfl ?_
      refine r_aload_n (pc := 135) dX6_goesTwo_135 rfl ?_
      refine r_getR (pc := 136) (b := 64) dX6_goesTwo_136 fX6_75 rfl rfl ?_
      refine r_bipush (pc := 139) dX6_goesTwo_139 bp_6 ?_
      refine r_iload_n (pc := 141) dX6_goesTwo_141 rfl ?_
      refine r_imulN (pc := 142) dX6_goesTwo_142 ?_
      refine r_iload (pc := 143) dX6_goesTwo_143 rfl ?_
      refine r_iaddN (pc := 145) dX6_goesTwo_145 ?_
      refine r_laldV (pc := 146) (j := (6 * l) + i) (v := L 64 ((6 * l) + i)) dX6_goesTwo_146 rfl rfl (by omega) (by decide) (show (t2 (v2 L 63 k w) 64 (blkR (L 64) (fun x => oa * L 64 (6 * l + x) + ob * L 64 (6 * r + x)) (6 * k) i)) 64 ((6 * l) + i) = _ from rd_lo (by omega)) ?_
      refine r_lmul (pc := 147) dX6_goesTwo_147 ?_
      refine r_lload (pc := 148) dX6_goesTwo_148 rfl ?_
      refine r_aload_n (pc := 150) dX6_goesTwo_150 rfl ?_
      refine r_getR (pc := 151) (b := 64) dX6_goesTwo_151 fX6_75 rfl rfl ?_
      refine r_bipush (pc := 154) dX6_goesTwo_154 bp_6 ?_
      refine r_iload_n (pc := 156) dX6_goesTwo_156 rfl ?_
      refine r_imulN (pc := 157) dX6_goesTwo_157 ?_
      refine r_iload (pc := 158) dX6_goesTwo_158 rfl ?_
      refine r_iaddN (pc := 160) dX6_goesTwo_160 ?_
      refine r_laldV (pc := 161) (j := (6 * r) + i) (v := L 64 ((6 * r) + i)) dX6_goesTwo_161 rfl rfl (by omega) (by decide) (show (t2 (v2 L 63 k w) 64 (blkR (L 64) (fun x => oa * L 64 (6 * l + x) + ob * L 64 (6 * r + x)) (6 * k) i)) 64 ((6 * r) + i) = _ from rd_lo (by omega)) ?_
      refine r_lmul (pc := 162) dX6_goesTwo_162 ?_
      refine r_ladd (pc := 163) dX6_goesTwo_163 ?_
      refine r_last (pc := 164) (j := (6 * k) + i) dX6_goesTwo_164 rfl rfl (by omega) (by decide) ?_
      refine r_iinc (pc := 165) (v := nI (i + 1)) (lo1 := [.ref 42, .int (nI k), .int (nI l), .int (nI r), .int (nI 1), .long (oa), .null, .long (ob), .null, .int (nI (i + 1)), .null, .null]) dX6_goesTwo_165 rfl rfl (ii1 _) (by decide) rfl ?_
      refine r_goto (pc := 168) (tgt := 115) dX6_goesTwo_168 (by decide) ?_
      refine r_L (L' := (t2 (v2 L 63 k w) 64 (blkR (L 64) (fun x => oa * L 64 (6 * l + x) + ob * L 64 (6 * r + x)) (6 * k) (i + 1)))) ((t2_v2 _ _ _ _ _).trans (congrArg (t2 _ 64) (blkR_s rfl))) ?_
      exact ih (i + 1) (by omega)
theorem lp_two0_b (X : Ctx) (d : Nat) (I : MI) (L : ML) (k l r : Nat) (hl : l < k) (hr : r < k) (hk : k < 80) (oa ob w : Int64) : ∀ (z i : Nat), i + z = 36 → Ev X mX6_goesTwo (d + 0) (0, 0) (0, 0) (none, shF, I, (t2 (t2 (v2 L 63 k w) 64 (blkR (L 64) (fun x => oa * L 64 (6 * l + x) + ob * L 64 (6 * r + x)) (6 * k) 6)) 65 (blkR (L 65) (fun c => oa * L 65 (36 * l + c) + ob * L 65 (36 * r + c) + 0) (36 * k) 36))) 174 [.ref 42, .int (nI k), .int (nI l), .int (nI r), .int (nI 0), .long (oa), .null, .long (ob), .null, .int (nI i), .null, .null] [] shF I (t2 (t2 (v2 L 63 k w) 64 (blkR (L 64) (fun x => oa * L 64 (6 * l + x) + ob * L 64 (6 * r + x)) (6 * k) 6)) 65 (blkR (L 65) (fun c => oa * L 65 (36 * l + c) + ob * L 65 (36 * r + c) + 0) (36 * k) i)) := by
  intro z
  induction z with
  | zero =>
    intro i hi
    have hi2 : i = 36 := by omega
    rw [hi2]
    refine r_iload (pc := 174) dX6_goesTwo_174 rfl ?_
    refine r_bipush (pc := 176) dX6_goesTwo_176 bp_36 ?_
    refine r_icmpN_ge (pc := 178) (tgt := 307) dX6_goesTwo_178 (by decide) (by omega) (by omega) (fun c1 => ?_) (fun c1 => ?_)
    · exact r_vret dX6_goesTwo_307 rfl (rfl) rfl
    · exact absurd c1 (by decide)
  | succ z ih =>
    intro i hi
    refine r_iload (pc := 174) dX6_goesTwo_174 rfl ?_
    refine r_bipush (pc := 176) dX6_goesTwo_176 bp_36 ?_
    refine r_icmpN_ge (pc := 178) (tgt := 307) dX6_goesTwo_178 (by decide) (by omega) (by omega) (fun c2 => ?_) (fun c2 => ?_)
    · exact absurd c2 (by omega)
    · refine r_aload_n (pc := 181) dX6_goesTwo_181 rfl ?_
      refine r_getR (pc := 182) (b := 64) dX6_goesTwo_182 fX6_75 rfl rfl ?_
      refine r_bipush (pc := 185) dX6_goesTwo_185 bp_6 ?_
      refine r_iload_n (pc := 187) dX6_goesTwo_187 rfl ?_
      refine r_imulN (pc := 188) dX6_goesTwo_188 ?_
      refine r_iload (pc := 189) dX6_goesTwo_189 rfl ?_
      refine r_bipush (pc := 191) dX6_goesTwo_191 bp_6 ?_
      refine r_idivN (pc := 193) dX6_goesTwo_193 (by omega) (by decide) (by decide) ?_
      refine r_iaddN (pc := 194) dX6_goesTwo_194 ?_
      refine r_laldV (pc := 195) (j := (6 * l) + (i / 6)) (v := L 64 ((6 * l) + (i / 6))) dX6_goesTwo_195 rfl rfl (by omega) (by decide) (show (t2 (v2 L 63 k w) 64 (blkR (L 64) (fun x => oa * L 64 (6 * l + x) + ob * L 64 (6 * r + x)) (6 * k) 6)) 64 ((6 * l) + (i / 6)) = _ from rd_lo (by omega)) ?_
      refine r_aload_n (pc := 196) dX6_goesTwo_196 rfl ?_
      refine r_getR (pc := 197) (b := 64) dX6_goesTwo_197 fX6_75 rfl rfl ?_
      refine r_bipush (pc := 200) dX6_goesTwo_200 bp_6 ?_
      refine r_iload_n (pc := 202) dX6_goesTwo_202 rfl ?_
      refine r_imulN (pc := 203) dX6_goesTwo_203 ?_
      refine r_iload (pc := 204) dX6_goesTwo_204 rfl ?_
      refine r_bipush (pc := 206) dX6_goesTwo_206 bp_6 ?_
      refine r_iremN (pc := 208) dX6_goesTwo_208 (by omega) (by decide) (by decide) ?_
      refine r_iaddN (pc := 209) dX6_goesTwo_209 ?_
      refine r_laldV (pc := 210) (j := (6 * r) + (i % 6)) (v := L 64 ((6 * r) + (i % 6))) dX6_goesTwo_210 rfl rfl (by omega) (by decide) (show (t2 (v2 L 63 k w) 64 (blkR (L 64) (fun x => oa * L 64 (6 * l + x) + ob * L 64 (6 * r + x)) (6 * k) 6)) 64 ((6 * r) + (i % 6)) = _ from rd_lo (by omega)) ?_
      refine r_lmul (pc := 211) dX6_goesTwo_211 ?_
      refine r_aload_n (pc := 212) dX6_goesTwo_212 rfl ?_
      refine r_getR (pc := 213) (b := 64) dX6_goesTwo_213 fX6_75 rfl rfl ?_
      refine r_bipush (pc := 216) dX6_goesTwo_216 bp_6 ?_
      refine r_iload_n (pc := 218) dX6_goesTwo_218 rfl ?_
      refine r_imulN (pc := 219) dX6_goesTwo_219 ?_
      refine r_iload (pc := 220) dX6_goesTwo_220 rfl ?_
      refine r_bipush (pc := 222) dX6_goesTwo_222 bp_6 ?_
      refine r_iremN (pc := 224) dX6_goesTwo_224 (by omega) (by decide) (by decide) ?_
      refine r_iaddN (pc := 225) dX6_goesTwo_225 ?_
      refine r_laldV (pc := 226) (j := (6 * l) + (i % 6)) (v := L 64 ((6 * l) + (i % 6))) dX6_goesTwo_226 rfl rfl (by omega) (by decide) (show (t2 (v2 L 63 k w) 64 (blkR (L 64) (fun x => oa * L 64 (6 * l + x) + ob * L 64 (6 * r + x)) (6 * k) 6)) 64 ((6 * l) + (i % 6)) = _ from rd_lo (by omega)) ?_
      refine r_aload_n (pc := 227) dX6_goesTwo_227 rfl ?_
      refine r_getR (pc := 228) (b := 64) dX6_goesTwo_228 fX6_75 rfl rfl ?_
      refine r_bipush (pc := 231) dX6_goesTwo_231 bp_6 ?_
      refine r_iload_n (pc := 233) dX6_goesTwo_233 rfl ?_
      refine r_imulN (pc := 234) dX6_goesTwo_234 ?_
      refine r_iload (pc := 235) dX6_goesTwo_235 rfl ?_
      refine r_bipush (pc := 237) dX6_goesTwo_237 bp_6 ?_
      refine r_idivN (pc := 239) dX6_goesTwo_239 (by omega) (by decide) (by decide) ?_
      refine r_iaddN (pc := 240) dX6_goesTwo_240 ?_
      refine r_laldV (pc := 241) (j := (6 * r) + (i / 6)) (v := L 64 ((6 * r) + (i / 6))) dX6_goesTwo_241 rfl rfl (by omega) (by decide) (show (t2 (v2 L 63 k w) 64 (blkR (L 64) (fun x => oa * L 64 (6 * l + x) + ob * L 64 (6 * r + x)) (6 * k) 6)) 64 ((6 * r) + (i / 6)) = _ from rd_lo (by omega)) ?_
      refine r_lmul (pc := 242) dX6_goesTwo_242 ?_
      refine r_ladd (pc := 243) dX6_goesTwo_243 ?_
      refine r_lstore (pc := 244) (lo1 := [.ref 42, .int (nI k), .int (nI l), .int (nI r), .int (nI 0), .long (oa), .null, .long (ob), .null, .int (nI i), .long (((L 64 ((6 * l) + (i / 6))) * (L 64 ((6 * r) + (i % 6)))) + ((L 64 ((6 * l) + (i % 6))) * (L 64 ((6 * r) + (i / 6))))), .null]) dX6_goesTwo_244 rfl (by decide) rfl ?_
      refine r_aload_n (pc := 246) dX6_goesTwo_246 rfl ?_
      refine r_getR (pc := 247) (b := 65) dX6_goesTwo_247 fX6_78 rfl rfl ?_
      refine r_bipush (pc := 250) dX6_goesTwo_250 bp_36 ?_
      refine r_iload_n (pc := 252) dX6_goesTwo_252 rfl ?_
      refine r_imulN (pc := 253) dX6_goesTwo_253 ?_
      refine r_iload (pc := 254) dX6_goesTwo_254 rfl ?_
      refine r_iaddN (pc := 256) dX6_goesTwo_256 ?_
      refine r_lload (pc := 257) dX6_goesTwo_257 rfl ?_
      refine r_aload_n (pc := 259) dX6_goesTwo_259 rfl ?_
      refine r_getR (pc := 260) (b := 65) dX6_goesTwo_260 fX6_78 rfl rfl ?_
      refine r_bipush (pc := 263) dX6_goesTwo_263 bp_36 ?_
      refine r_iload_n (pc := 265) dX6_goesTwo_265 rfl ?_
      refine r_imulN (pc := 266) dX6_goesTwo_266 ?_
      refine r_iload (pc := 267) dX6_goesTwo_267 rfl ?_
      refine r_iaddN (pc := 269) dX6_goesTwo_269 ?_
      refine r_laldV (pc := 270) (j := (36 * l) + i) (v := L 65 ((36 * l) + i)) dX6_goesTwo_270 rfl rfl (by omega) (by decide) (show (t2 (t2 (v2 L 63 k w) 64 (blkR (L 64) (fun x => oa * L 64 (6 * l + x) + ob * L 64 (6 * r + x)) (6 * k) 6)) 65 (blkR (L 65) (fun c => oa * L 65 (36 * l + c) + ob * L 65 (36 * r + c) + 0) (36 * k) i)) 65 ((36 * l) + i) = _ from rd_lo (by omega)) ?_
      refine r_lmul (pc := 271) dX6_goesTwo_271 ?_
      refine r_lload (pc := 272) dX6_goesTwo_272 rfl ?_
      refine r_aload_n (pc := 274) dX6_goesTwo_274 rfl ?_
      refine r_getR (pc := 275) (b := 65) dX6_goesTwo_275 fX6_78 rfl rfl ?_
      refine r_bipush (pc := 278) dX6_goesTwo_278 bp_36 ?_
      refine r_iload_n (pc := 280) dX6_goesTwo_280 rfl ?_
      refine r_imulN (pc := 281) dX6_goesTwo_281 ?_
      refine r_iload (pc := 282) dX6_goesTwo_282 rfl ?_
      refine r_iaddN (pc := 284) dX6_goesTwo_284 ?_
      refine r_laldV (pc := 285) (j := (36 * r) + i) (v := L 65 ((36 * r) + i)) dX6_goesTwo_285 rfl rfl (by omega) (by decide) (show (t2 (t2 (v2 L 63 k w) 64 (blkR (L 64) (fun x => oa * L 64 (6 * l + x) + ob * L 64 (6 * r + x)) (6 * k) 6)) 65 (blkR (L 65) (fun c => oa * L 65 (36 * l + c) + ob * L 65 (36 * r + c) + 0) (36 * k) i)) 65 ((36 * r) + i) = _ from rd_lo (by omega)) ?_
      refine r_lmul (pc := 286) dX6_goesTwo_286 ?_
      refine r_ladd (pc := 287) dX6_goesTwo_287 ?_
      refine r_iload (pc := 288) dX6_goesTwo_288 rfl ?_
      refine r_ifN_eq (pc := 290) (tgt := 298) dX6_goesTwo_290 (by decide) (by omega) (fun c3 => ?_) (fun c3 => ?_)
      · refine r_lconst (pc := 298) (v := 0) dX6_goesTwo_298 rfl ?_
        refine r_ladd (pc := 299) dX6_goesTwo_299 ?_
        refine r_last (pc := 300) (j := (36 * k) + i) dX6_goesTwo_300 rfl rfl (by omega) (by decide) ?_
        refine r_iinc (pc := 301) (v := nI (i + 1)) (lo1 := [.ref 42, .int (nI k), .int (nI l), .int (nI r), .int (nI 0), .long (oa), .null, .long (ob), .null, .int (nI (i + 1)), .long (((L 64 ((6 * l) + (i / 6))) * (L 64 ((6 * r) + (i % 6)))) + ((L 64 ((6 * l) + (i % 6))) * (L 64 ((6 * r) + (i / 6))))), .null]) dX6_goesTwo_301 rfl rfl (ii1 _) (by decide) rfl ?_
        refine r_goto (pc := 304) (tgt := 174) dX6_goesTwo_304 (by decide) ?_
        refine r_drop (lo1 := [.ref 42, .int (nI k), .int (nI l), .int (nI r), .int (nI 0), .long (oa), .null, .long (ob), .null, .int (nI (i + 1)), .null, .null]) 10 rfl ?_
        refine r_L (L' := (t2 (t2 (v2 L 63 k w) 64 (blkR (L 64) (fun x => oa * L 64 (6 * l + x) + ob * L 64 (6 * r + x)) (6 * k) 6)) 65 (blkR (L 65) (fun c => oa * L 65 (36 * l + c) + ob * L 65 (36 * r + c) + 0) (36 * k) (i + 1)))) ((t2_v2 _ _ _ _ _).trans (congrArg (t2 _ 65) (blkR_s rfl))) ?_
        exact ih (i + 1) (by omega)
      · exact absurd c3 (by decide)
theorem lp_two0_a (X : Ctx) (d : Nat) (I : MI) (L : ML) (k l r : Nat) (hl : l < k) (hr : r < k) (hk : k < 80) (oa ob w : Int64) : ∀ (z i : Nat), i + z = 6 → Ev X mX6_goesTwo (d + 0) (0, 0) (0, 0) (none, shF, I, (t2 (t2 (v2 L 63 k w) 64 (blkR (L 64) (fun x => oa * L 64 (6 * l + x) + ob * L 64 (6 * r + x)) (6 * k) 6)) 65 (blkR (L 65) (fun c => oa * L 65 (36 * l + c) + ob * L 65 (36 * r + c) + 0) (36 * k) 36))) 115 [.ref 42, .int (nI k), .int (nI l), .int (nI r), .int (nI 0), .long (oa), .null, .long (ob), .null, .int (nI i), .null, .null] [] shF I (t2 (v2 L 63 k w) 64 (blkR (L 64) (fun x => oa * L 64 (6 * l + x) + ob * L 64 (6 * r + x)) (6 * k) i)) := by
  intro z
  induction z with
  | zero =>
    intro i hi
    have hi2 : i = 6 := by omega
    rw [hi2]
    refine r_iload (pc := 115) dX6_goesTwo_115 rfl ?_
    refine r_bipush (pc := 117) dX6_goesTwo_117 bp_6 ?_
    refine r_icmpN_ge (pc := 119) (tgt := 171) dX6_goesTwo_119 (by decide) (by omega) (by omega) (fun c4 => ?_) (fun c4 => ?_)
    · refine r_iconst (pc := 171) (v := nI 0) dX6_goesTwo_171 rfl ?_
      refine r_istore (pc := 172) (lo1 := [.ref 42, .int (nI k), .int (nI l), .int (nI r), .int (nI 0), .long (oa), .null, .long (ob), .null, .int (nI 0), .null, .null]) dX6_goesTwo_172 rfl (by decide) rfl ?_
      refine r_L (L' := (t2 (t2 (v2 L 63 k w) 64 (blkR (L 64) (fun x => oa * L 64 (6 * l + x) + ob * L 64 (6 * r + x)) (6 * k) 6)) 65 (blkR (L 65) (fun c => oa * L 65 (36 * l + c) + ob * L 65 (36 * r + c) + 0) (36 * k) 0))) (by rw [blkR_0]; exact (t2_self _ 65).symm) ?_
      exact lp_two0_b X d I L k l r hl hr hk oa ob w 36 0 rfl
    · exact absurd c4 (by decide)
  | succ z ih =>
    intro i hi
    refine r_iload (pc := 115) dX6_goesTwo_115 rfl ?_
    refine r_bipush (pc := 117) dX6_goesTwo_117 bp_6 ?_
    refine r_icmpN_ge (pc := 119) (tgt := 171) dX6_goesTwo_119 (by decide) (by omega) (by omega) (fun c5 => ?_) (fun c5 => ?_)
    · exact absurd c5 (by omega)
    · refine r_aload_n (pc := 122) dX6_goesTwo_122 rfl ?_
      refine r_getR (pc := 123) (b := 64) dX6_goesTwo_123 fX6_75 rfl rfl ?_
      refine r_bipush (pc := 126) dX6_goesTwo_126 bp_6 ?_
      refine r_iload_n (pc := 128) dX6_goesTwo_128 rfl ?_
      refine r_imulN (pc := 129) dX6_goesTwo_129 ?_
      refine r_iload (pc := 130) dX6_goesTwo_130 rfl ?_
      refine r_iaddN (pc := 132) dX6_goesTwo_132 ?_
      refine r_lload (pc := 133) dX6_goesTwo_133 rfl ?_
      refine r_aload_n (pc := 135) dX6_goesTwo_135 rfl ?_
      refine r_getR (pc := 136) (b := 64) dX6_goesTwo_136 fX6_75 rfl rfl ?_
      refine r_bipush (pc := 139) dX6_goesTwo_139 bp_6 ?_
      refine r_iload_n (pc := 141) dX6_goesTwo_141 rfl ?_
      refine r_imulN (pc := 142) dX6_goesTwo_142 ?_
      refine r_iload (pc := 143) dX6_goesTwo_143 rfl ?_
      refine r_iaddN (pc := 145) dX6_goesTwo_145 ?_
      refine r_laldV (pc := 146) (j := (6 * l) + i) (v := L 64 ((6 * l) + i)) dX6_goesTwo_146 rfl rfl (by omega) (by decide) (show (t2 (v2 L 63 k w) 64 (blkR (L 64) (fun x => oa * L 64 (6 * l + x) + ob * L 64 (6 * r + x)) (6 * k) i)) 64 ((6 * l) + i) = _ from rd_lo (by omega)) ?_
      refine r_lmul (pc := 147) dX6_goesTwo_147 ?_
      refine r_lload (pc := 148) dX6_goesTwo_148 rfl ?_
      refine r_aload_n (pc := 150) dX6_goesTwo_150 rfl ?_
      refine r_getR (pc := 151) (b := 64) dX6_goesTwo_151 fX6_75 rfl rfl ?_
      refine r_bipush (pc := 154) dX6_goesTwo_154 bp_6 ?_
      refine r_iload_n (pc := 156) dX6_goesTwo_156 rfl ?_
      refine r_imulN (pc := 157) dX6_goesTwo_157 ?_
      refine r_iload (pc := 158) dX6_goesTwo_158 rfl ?_
      refine r_iaddN (pc := 160) dX6_goesTwo_160 ?_
      refine r_laldV (pc := 161) (j := (6 * r) + i) (v := L 64 ((6 * r) + i)) dX6_goesTwo_161 rfl rfl (by omega) (by decide) (show (t2 (v2 L 63 k w) 64 (blkR (L 64) (fun x => oa * L 64 (6 * l + x) + ob * L 64 (6 * r + x)) (6 * k) i)) 64 ((6 * r) + i) = _ from rd_lo (by omega)) ?_
      refine r_lmul (pc := 162) dX6_goesTwo_162 ?_
      refine r_ladd (pc := 163) dX6_goesTwo_163 ?_
      refine r_last (pc := 164) (j := (6 * k) + i) dX6_goesTwo_164 rfl rfl (by omega) (by decide) ?_
      refine r_iinc (pc := 165) (v := nI (i + 1)) (lo1 := [.ref 42, .int (nI k), .int (nI l), .int (nI r), .int (nI 0), .long (oa), .null, .long (ob), .null, .int (nI (i + 1)), .null, .null]) dX6_goesTwo_165 rfl rfl (ii1 _) (by decide) rfl ?_
      refine r_goto (pc := 168) (tgt := 115) dX6_goesTwo_168 (by decide) ?_
      refine r_L (L' := (t2 (v2 L 63 k w) 64 (blkR (L 64) (fun x => oa * L 64 (6 * l + x) + ob * L 64 (6 * r + x)) (6 * k) (i + 1)))) ((t2_v2 _ _ _ _ _).trans (congrArg (t2 _ 64) (blkR_s rfl))) ?_
      exact ih (i + 1) (by omega)
theorem s_two_t (X : Ctx) (d : Nat) (I : MI) (L : ML) (k l r : Nat) (hl : l < k) (hr : r < k) (hk : k < 80) (h45 : I 45 k = nI 42) : Sp X mX6_goesTwo (d + 0) (0, 0) [.ref 42, .int (nI k), .int (nI l), .int (nI r)] shF I L (none, shF, I, (ndL L k (L 63 l * L 63 r) (fun x => (L 63 r) * L 64 (6 * l + x) + (L 63 l) * L 64 (6 * r + x)) (fun c => (L 63 r) * L 65 (36 * l + c) + (L 63 l) * L 65 (36 * r + c) + (L 64 (6 * l + c / 6) * L 64 (6 * r + c % 6) + L 64 (6 * l + c % 6) * L 64 (6 * r + c / 6))))) := by
  refine Sp.of okX6_goesTwo [.ref 42, .int (nI k), .int (nI l), .int (nI r), .null, .null, .null, .null, .null, .null, .null, .null] 8 rfl (Nat.le_of_ble_eq_true rfl) ?_
  refine r_aload_n (pc := 0) dX6_goesTwo_0 rfl ?_
  refine r_getR (pc := 1) (b := 45) dX6_goesTwo_1 fX6_16 rfl rfl ?_
  refine r_iload_n (pc := 4) dX6_goesTwo_4 rfl ?_
  refine r_ialdV (pc := 5) (j := k) (v := nI 42) dX6_goesTwo_5 rfl rfl (by omega) (by decide) (h45) ?_
  refine r_bipush (pc := 6) dX6_goesTwo_6 bp_42 ?_
  refine r_icmpN_ne (pc := 8) (tgt := 15) dX6_goesTwo_8 (by decide) (by omega) (by omega) (fun c1 => ?_) (fun c1 => ?_)
  · exact absurd c1 (by decide)
  · refine r_iconst (pc := 11) (v := nI 1) dX6_goesTwo_11 rfl ?_
    refine r_goto (pc := 12) (tgt := 16) dX6_goesTwo_12 (by decide) ?_
    refine r_istore (pc := 16) (lo1 := [.ref 42, .int (nI k), .int (nI l), .int (nI r), .int (nI 1), .null, .null, .null, .null, .null, .null, .null]) dX6_goesTwo_16 rfl (by decide) rfl ?_
    refine r_iload (pc := 18) dX6_goesTwo_18 rfl ?_
    refine r_ifN_eq (pc := 20) (tgt := 32) dX6_goesTwo_20 (by decide) (by omega) (fun c2 => ?_) (fun c2 => ?_)
    · exact absurd c2 (by decide)
    · refine r_aload_n (pc := 23) dX6_goesTwo_23 rfl ?_
      refine r_getR (pc := 24) (b := 63) dX6_goesTwo_24 fX6_72 rfl rfl ?_
      refine r_iload_n (pc := 27) dX6_goesTwo_27 rfl ?_
      refine r_lald (pc := 28) (j := r) dX6_goesTwo_28 rfl rfl (by omega) (by decide) ?_
      refine r_goto (pc := 29) (tgt := 33) dX6_goesTwo_29 (by decide) ?_
      refine r_lstore (pc := 33) (lo1 := [.ref 42, .int (nI k), .int (nI l), .int (nI r), .int (nI 1), .long (L 63 r), .null, .null, .null, .null, .null, .null]) dX6_goesTwo_33 rfl (by decide) rfl ?_
      refine r_iload (pc := 35) dX6_goesTwo_35 rfl ?_
      refine r_ifN_eq (pc := 37) (tgt := 49) dX6_goesTwo_37 (by decide) (by omega) (fun c3 => ?_) (fun c3 => ?_)
      · exact absurd c3 (by decide)
      · refine r_aload_n (pc := 40) dX6_goesTwo_40 rfl ?_
        refine r_getR (pc := 41) (b := 63) dX6_goesTwo_41 fX6_72 rfl rfl ?_
        refine r_iload_n (pc := 44) dX6_goesTwo_44 rfl ?_
        refine r_lald (pc := 45) (j := l) dX6_goesTwo_45 rfl rfl (by omega) (by decide) ?_
        refine r_goto (pc := 46) (tgt := 67) dX6_goesTwo_46 (by decide) ?_
        refine r_lstore (pc := 67) (lo1 := [.ref 42, .int (nI k), .int (nI l), .int (nI r), .int (nI 1), .long (L 63 r), .null, .long (L 63 l), .null, .null, .null, .null]) dX6_goesTwo_67 rfl (by decide) rfl ?_
        refine r_aload_n (pc := 69) dX6_goesTwo_69 rfl ?_
        refine r_getR (pc := 70) (b := 63) dX6_goesTwo_70 fX6_72 rfl rfl ?_
        refine r_iload_n (pc := 73) dX6_goesTwo_73 rfl ?_
        refine r_iload (pc := 74) dX6_goesTwo_74 rfl ?_
        refine r_ifN_eq (pc := 76) (tgt := 95) dX6_goesTwo_76 (by decide) (by omega) (fun c4 => ?_) (fun c4 => ?_)
        · exact absurd c4 (by decide)
        · refine r_aload_n (pc := 79) dX6_goesTwo_79 rfl ?_
          refine r_getR (pc := 80) (b := 63) dX6_goesTwo_80 fX6_72 rfl rfl ?_
          refine r_iload_n (pc := 83) dX6_goesTwo_83 rfl ?_
          refine r_lald (pc := 84) (j := l) dX6_goesTwo_84 rfl rfl (by omega) (by decide) ?_
          refine r_aload_n (pc := 85) dX6_goesTwo_85 rfl ?_
          refine r_getR (pc := 86) (b := 63) dX6_goesTwo_86 fX6_72 rfl rfl ?_
          refine r_iload_n (pc := 89) dX6_goesTwo_89 rfl ?_
          refine r_lald (pc := 90) (j := r) dX6_goesTwo_90 rfl rfl (by omega) (by decide) ?_
          refine r_lmul (pc := 91) dX6_goesTwo_91 ?_
          refine r_goto (pc := 92) (tgt := 111) dX6_goesTwo_92 (by decide) ?_
          refine r_last (pc := 111) (j := k) dX6_goesTwo_111 rfl rfl (by omega) (by decide) ?_
          refine r_iconst (pc := 112) (v := nI 0) dX6_goesTwo_112 rfl ?_
          refine r_istore (pc := 113) (lo1 := [.ref 42, .int (nI k), .int (nI l), .int (nI r), .int (nI 1), .long (L 63 r), .null, .long (L 63 l), .null, .int (nI 0), .null, .null]) dX6_goesTwo_113 rfl (by decide) rfl ?_
          refine r_L (L' := (t2 (v2 L 63 k ((L 63 l) * (L 63 r))) 64 (blkR (L 64) (fun x => (L 63 r) * L 64 (6 * l + x) + (L 63 l) * L 64 (6 * r + x)) (6 * k) 0))) (by rw [blkR_0]; exact (t2_self _ 64).symm) ?_
          exact lp_two1_a X _ I L k l r hl hr hk (L 63 r) (L 63 l) ((L 63 l) * (L 63 r)) 6 0 rfl
theorem s_two_p (X : Ctx) (d : Nat) (I : MI) (L : ML) (k l r : Nat) (hl : l < k) (hr : r < k) (hk : k < 80) (h45 : I 45 k = nI 43) : Sp X mX6_goesTwo (d + 0) (0, 0) [.ref 42, .int (nI k), .int (nI l), .int (nI r)] shF I L (none, shF, I, (ndL L k (L 63 l + 1 * L 63 r) (fun x => (1) * L 64 (6 * l + x) + (1) * L 64 (6 * r + x)) (fun c => (1) * L 65 (36 * l + c) + (1) * L 65 (36 * r + c) + 0))) := by
  refine Sp.of okX6_goesTwo [.ref 42, .int (nI k), .int (nI l), .int (nI r), .null, .null, .null, .null, .null, .null, .null, .null] 8 rfl (Nat.le_of_ble_eq_true rfl) ?_
  refine r_aload_n (pc := 0) dX6_goesTwo_0 rfl ?_
  refine r_getR (pc := 1) (b := 45) dX6_goesTwo_1 fX6_16 rfl rfl ?_
  refine r_iload_n (pc := 4) dX6_goesTwo_4 rfl ?_
  refine r_ialdV (pc := 5) (j := k) (v := nI 43) dX6_goesTwo_5 rfl rfl (by omega) (by decide) (h45) ?_
  refine r_bipush (pc := 6) dX6_goesTwo_6 bp_42 ?_
  refine r_icmpN_ne (pc := 8) (tgt := 15) dX6_goesTwo_8 (by decide) (by omega) (by omega) (fun c1 => ?_) (fun c1 => ?_)
  · refine r_iconst (pc := 15) (v := nI 0) dX6_goesTwo_15 rfl ?_
    refine r_istore (pc := 16) (lo1 := [.ref 42, .int (nI k), .int (nI l), .int (nI r), .int (nI 0), .null, .null, .null, .null, .null, .null, .null]) dX6_goesTwo_16 rfl (by decide) rfl ?_
    refine r_iload (pc := 18) dX6_goesTwo_18 rfl ?_
    refine r_ifN_eq (pc := 20) (tgt := 32) dX6_goesTwo_20 (by decide) (by omega) (fun c2 => ?_) (fun c2 => ?_)
    · refine r_lconst (pc := 32) (v := 1) dX6_goesTwo_32 rfl ?_
      refine r_lstore (pc := 33) (lo1 := [.ref 42, .int (nI k), .int (nI l), .int (nI r), .int (nI 0), .long (1), .null, .null, .null, .null, .null, .null]) dX6_goesTwo_33 rfl (by decide) rfl ?_
      refine r_iload (pc := 35) dX6_goesTwo_35 rfl ?_
      refine r_ifN_eq (pc := 37) (tgt := 49) dX6_goesTwo_37 (by decide) (by omega) (fun c3 => ?_) (fun c3 => ?_)
      · refine r_aload_n (pc := 49) dX6_goesTwo_49 rfl ?_
        refine r_getR (pc := 50) (b := 45) dX6_goesTwo_50 fX6_16 rfl rfl ?_
        refine r_iload_n (pc := 53) dX6_goesTwo_53 rfl ?_
        refine r_ialdV (pc := 54) (j := k) (v := nI 43) dX6_goesTwo_54 rfl rfl (by omega) (by decide) (h45) ?_
        refine r_bipush (pc := 55) dX6_goesTwo_55 bp_45 ?_
        refine r_icmpN_ne (pc := 57) (tgt := 66) dX6_goesTwo_57 (by decide) (by omega) (by omega) (fun c4 => ?_) (fun c4 => ?_)
        · refine r_lconst (pc := 66) (v := 1) dX6_goesTwo_66 rfl ?_
          refine r_lstore (pc := 67) (lo1 := [.ref 42, .int (nI k), .int (nI l), .int (nI r), .int (nI 0), .long (1), .null, .long (1), .null, .null, .null, .null]) dX6_goesTwo_67 rfl (by decide) rfl ?_
          refine r_aload_n (pc := 69) dX6_goesTwo_69 rfl ?_
          refine r_getR (pc := 70) (b := 63) dX6_goesTwo_70 fX6_72 rfl rfl ?_
          refine r_iload_n (pc := 73) dX6_goesTwo_73 rfl ?_
          refine r_iload (pc := 74) dX6_goesTwo_74 rfl ?_
          refine r_ifN_eq (pc := 76) (tgt := 95) dX6_goesTwo_76 (by decide) (by omega) (fun c5 => ?_) (fun c5 => ?_)
          · refine r_aload_n (pc := 95) dX6_goesTwo_95 rfl ?_
            refine r_getR (pc := 96) (b := 63) dX6_goesTwo_96 fX6_72 rfl rfl ?_
            refine r_iload_n (pc := 99) dX6_goesTwo_99 rfl ?_
            refine r_lald (pc := 100) (j := l) dX6_goesTwo_100 rfl rfl (by omega) (by decide) ?_
            refine r_lload (pc := 101) dX6_goesTwo_101 rfl ?_
            refine r_aload_n (pc := 103) dX6_goesTwo_103 rfl ?_
            refine r_getR (pc := 104) (b := 63) dX6_goesTwo_104 fX6_72 rfl rfl ?_
            refine r_iload_n (pc := 107) dX6_goesTwo_107 rfl ?_
            refine r_lald (pc := 108) (j := r) dX6_goesTwo_108 rfl rfl (by omega) (by decide) ?_
            refine r_lmul (pc := 109) dX6_goesTwo_109 ?_
            refine r_ladd (pc := 110) dX6_goesTwo_110 ?_
            refine r_last (pc := 111) (j := k) dX6_goesTwo_111 rfl rfl (by omega) (by decide) ?_
            refine r_iconst (pc := 112) (v := nI 0) dX6_goesTwo_112 rfl ?_
            refine r_istore (pc := 113) (lo1 := [.ref 42, .int (nI k), .int (nI l), .int (nI r), .int (nI 0), .long (1), .null, .long (1), .null, .int (nI 0), .null, .null]) dX6_goesTwo_113 rfl (by decide) rfl ?_
            refine r_L (L' := (t2 (v2 L 63 k ((L 63 l) + (1 * (L 63 r)))) 64 (blkR (L 64) (fun x => 1 * L 64 (6 * l + x) + 1 * L 64 (6 * r + x)) (6 * k) 0))) (by rw [blkR_0]; exact (t2_self _ 64).symm) ?_
            exact lp_two0_a X _ I L k l r hl hr hk 1 1 ((L 63 l) + (1 * (L 63 r))) 6 0 rfl
          · exact absurd c5 (by decide)
        · exact absurd c4 (by decide)
      · exact absurd c3 (by decide)
    · exact absurd c2 (by decide)
  · exact absurd c1 (by decide)
theorem s_two_m (X : Ctx) (d : Nat) (I : MI) (L : ML) (k l r : Nat) (hl : l < k) (hr : r < k) (hk : k < 80) (h45 : I 45 k = nI 45) : Sp X mX6_goesTwo (d + 0) (0, 0) [.ref 42, .int (nI k), .int (nI l), .int (nI r)] shF I L (none, shF, I, (ndL L k (L 63 l + -1 * L 63 r) (fun x => (1) * L 64 (6 * l + x) + (-1) * L 64 (6 * r + x)) (fun c => (1) * L 65 (36 * l + c) + (-1) * L 65 (36 * r + c) + 0))) := by
  refine Sp.of okX6_goesTwo [.ref 42, .int (nI k), .int (nI l), .int (nI r), .null, .null, .null, .null, .null, .null, .null, .null] 8 rfl (Nat.le_of_ble_eq_true rfl) ?_
  refine r_aload_n (pc := 0) dX6_goesTwo_0 rfl ?_
  refine r_getR (pc := 1) (b := 45) dX6_goesTwo_1 fX6_16 rfl rfl ?_
  refine r_iload_n (pc := 4) dX6_goesTwo_4 rfl ?_
  refine r_ialdV (pc := 5) (j := k) (v := nI 45) dX6_goesTwo_5 rfl rfl (by omega) (by decide) (h45) ?_
  refine r_bipush (pc := 6) dX6_goesTwo_6 bp_42 ?_
  refine r_icmpN_ne (pc := 8) (tgt := 15) dX6_goesTwo_8 (by decide) (by omega) (by omega) (fun c1 => ?_) (fun c1 => ?_)
  · refine r_iconst (pc := 15) (v := nI 0) dX6_goesTwo_15 rfl ?_
    refine r_istore (pc := 16) (lo1 := [.ref 42, .int (nI k), .int (nI l), .int (nI r), .int (nI 0), .null, .null, .null, .null, .null, .null, .null]) dX6_goesTwo_16 rfl (by decide) rfl ?_
    refine r_iload (pc := 18) dX6_goesTwo_18 rfl ?_
    refine r_ifN_eq (pc := 20) (tgt := 32) dX6_goesTwo_20 (by decide) (by omega) (fun c2 => ?_) (fun c2 => ?_)
    · refine r_lconst (pc := 32) (v := 1) dX6_goesTwo_32 rfl ?_
      refine r_lstore (pc := 33) (lo1 := [.ref 42, .int (nI k), .int (nI l), .int (nI r), .int (nI 0), .long (1), .null, .null, .null, .null, .null, .null]) dX6_goesTwo_33 rfl (by decide) rfl ?_
      refine r_iload (pc := 35) dX6_goesTwo_35 rfl ?_
      refine r_ifN_eq (pc := 37) (tgt := 49) dX6_goesTwo_37 (by decide) (by omega) (fun c3 => ?_) (fun c3 => ?_)
      · refine r_aload_n (pc := 49) dX6_goesTwo_49 rfl ?_
        refine r_getR (pc := 50) (b := 45) dX6_goesTwo_50 fX6_16 rfl rfl ?_
        refine r_iload_n (pc := 53) dX6_goesTwo_53 rfl ?_
        refine r_ialdV (pc := 54) (j := k) (v := nI 45) dX6_goesTwo_54 rfl rfl (by omega) (by decide) (h45) ?_
        refine r_bipush (pc := 55) dX6_goesTwo_55 bp_45 ?_
        refine r_icmpN_ne (pc := 57) (tgt := 66) dX6_goesTwo_57 (by decide) (by omega) (by omega) (fun c4 => ?_) (fun c4 => ?_)
        · exact absurd c4 (by decide)
        · refine r_ldc2 (pc := 60) dX6_goesTwo_60 kX6_220 ?_
          refine r_goto (pc := 63) (tgt := 67) dX6_goesTwo_63 (by decide) ?_
          refine r_lstore (pc := 67) (lo1 := [.ref 42, .int (nI k), .int (nI l), .int (nI r), .int (nI 0), .long (1), .null, .long (-1), .null, .null, .null, .null]) dX6_goesTwo_67 rfl (by decide) rfl ?_
          refine r_aload_n (pc := 69) dX6_goesTwo_69 rfl ?_
          refine r_getR (pc := 70) (b := 63) dX6_goesTwo_70 fX6_72 rfl rfl ?_
          refine r_iload_n (pc := 73) dX6_goesTwo_73 rfl ?_
          refine r_iload (pc := 74) dX6_goesTwo_74 rfl ?_
          refine r_ifN_eq (pc := 76) (tgt := 95) dX6_goesTwo_76 (by decide) (by omega) (fun c5 => ?_) (fun c5 => ?_)
          · refine r_aload_n (pc := 95) dX6_goesTwo_95 rfl ?_
            refine r_getR (pc := 96) (b := 63) dX6_goesTwo_96 fX6_72 rfl rfl ?_
            refine r_iload_n (pc := 99) dX6_goesTwo_99 rfl ?_
            refine r_lald (pc := 100) (j := l) dX6_goesTwo_100 rfl rfl (by omega) (by decide) ?_
            refine r_lload (pc := 101) dX6_goesTwo_101 rfl ?_
            refine r_aload_n (pc := 103) dX6_goesTwo_103 rfl ?_
            refine r_getR (pc := 104) (b := 63) dX6_goesTwo_104 fX6_72 rfl rfl ?_
            refine r_iload_n (pc := 107) dX6_goesTwo_107 rfl ?_
            refine r_lald (pc := 108) (j := r) dX6_goesTwo_108 rfl rfl (by omega) (by decide) ?_
            refine r_lmul (pc := 109) dX6_goesTwo_109 ?_
            refine r_ladd (pc := 110) dX6_goesTwo_110 ?_
            refine r_last (pc := 111) (j := k) dX6_goesTwo_111 rfl rfl (by omega) (by decide) ?_
            refine r_iconst (pc := 112) (v := nI 0) dX6_goesTwo_112 rfl ?_
            refine r_istore (pc := 113) (lo1 := [.ref 42, .int (nI k), .int (nI l), .int (nI r), .int (nI 0), .long (1), .null, .long (-1), .null, .int (nI 0), .null, .null]) dX6_goesTwo_113 rfl (by decide) rfl ?_
            refine r_L (L' := (t2 (v2 L 63 k ((L 63 l) + ((-1) * (L 63 r)))) 64 (blkR (L 64) (fun x => 1 * L 64 (6 * l + x) + (-1) * L 64 (6 * r + x)) (6 * k) 0))) (by rw [blkR_0]; exact (t2_self _ 64).symm) ?_
            exact lp_two0_a X _ I L k l r hl hr hk 1 (-1) ((L 63 l) + ((-1) * (L 63 r))) 6 0 rfl
          · exact absurd c5 (by decide)
      · exact absurd c3 (by decide)
    · exact absurd c2 (by decide)
  · exact absurd c1 (by decide)
