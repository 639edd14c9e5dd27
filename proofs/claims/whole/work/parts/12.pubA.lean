def bc1 (x : Int32) : Int32 := x - (((x).toUInt32 >>> ((nI 1).toUInt32 &&& Int32.toUInt32 31)).toInt32 &&& 1431655765)
def bc2 (x : Int32) : Int32 := (x &&& 858993459) + (((x).toUInt32 >>> ((nI 2).toUInt32 &&& Int32.toUInt32 31)).toInt32 &&& 858993459)
def bc3 (x : Int32) : Int32 := (x + ((x).toUInt32 >>> ((nI 4).toUInt32 &&& Int32.toUInt32 31)).toInt32) &&& 252645135
def bc4 (x : Int32) : Int32 := x + ((x).toUInt32 >>> ((nI 8).toUInt32 &&& Int32.toUInt32 31)).toInt32
def bc5 (x : Int32) : Int32 := (x + ((x).toUInt32 >>> ((nI 16).toUInt32 &&& Int32.toUInt32 31)).toInt32) &&& nI 63
def bcI (x : Int32) : Int32 := bc5 (bc4 (bc3 (bc2 (bc1 x))))
theorem l_nlt {x y : Int64} (h : x ≤ y) : ¬ y < x := fun q => by
  rw [Int64.lt_iff_toInt_lt] at q
  rw [Int64.le_iff_toInt_le] at h
  omega
theorem l_nle {x y : Int64} (h : y < x) : ¬ x ≤ y := fun q => by
  rw [Int64.lt_iff_toInt_lt] at h
  rw [Int64.le_iff_toInt_le] at q
  omega
theorem s_bitCount (X : Ctx) (d : Nat) (I : MI) (L : ML) (x : Int32) : Sp X mJ6_bitCount_0f7a4 (d + 0) (0, 0) [.int (x)] shF I L (some (.int (bcI x)), shF, I, L) := by
  refine Sp.of okJ6_bitCount_0f7a4 [.int (x)] 0 rfl (Nat.le_of_ble_eq_true rfl) ?_
  refine r_iload_n (pc := 0) dJ6_bitCount_0f7a4_0 rfl ?_
  refine r_iload_n (pc := 1) dJ6_bitCount_0f7a4_1 rfl ?_
  refine r_iconst (pc := 2) (v := nI 1) dJ6_bitCount_0f7a4_2 rfl ?_
  refine r_iushr (pc := 3) dJ6_bitCount_0f7a4_3 ?_
  refine r_ldcw (pc := 4) dJ6_bitCount_0f7a4_4 kJ6_265 ?_
  refine r_iand (pc := 7) dJ6_bitCount_0f7a4_7 ?_
  refine r_isub (pc := 8) dJ6_bitCount_0f7a4_8 ?_
  refine r_istore_n (pc := 9) (lo1 := [.int (x - (((x.toUInt32 >>> ((nI 1).toUInt32 &&& Int32.toUInt32 31)).toInt32) &&& 1431655765))]) dJ6_bitCount_0f7a4_9 rfl (by decide) rfl ?_
  refine (show Ev X mJ6_bitCount_0f7a4 (d + 0) (0, 0) (0, 0) (some (.int (bcI x)), shF, I, L) _ [.int (bc1 x)] [] shF I L from ?_)
  refine r_iload_n (pc := 10) dJ6_bitCount_0f7a4_10 rfl ?_
  refine r_ldcw (pc := 11) dJ6_bitCount_0f7a4_11 kJ6_266 ?_
  refine r_iand (pc := 14) dJ6_bitCount_0f7a4_14 ?_
  refine r_iload_n (pc := 15) dJ6_bitCount_0f7a4_15 rfl ?_
  refine r_iconst (pc := 16) (v := nI 2) dJ6_bitCount_0f7a4_16 rfl ?_
  refine r_iushr (pc := 17) dJ6_bitCount_0f7a4_17 ?_
  refine r_ldcw (pc := 18) dJ6_bitCount_0f7a4_18 kJ6_266 ?_
  refine r_iand (pc := 21) dJ6_bitCount_0f7a4_21 ?_
  refine r_iadd (pc := 22) dJ6_bitCount_0f7a4_22 ?_
  refine r_istore_n (pc := 23) (lo1 := [.int (((bc1 x) &&& 858993459) + ((((bc1 x).toUInt32 >>> ((nI 2).toUInt32 &&& Int32.toUInt32 31)).toInt32) &&& 858993459))]) dJ6_bitCount_0f7a4_23 rfl (by decide) rfl ?_
  refine (show Ev X mJ6_bitCount_0f7a4 (d + 0) (0, 0) (0, 0) (some (.int (bcI x)), shF, I, L) _ [.int (bc2 (bc1 x))] [] shF I L from ?_)
  refine r_iload_n (pc := 24) dJ6_bitCount_0f7a4_24 rfl ?_
  refine r_iload_n (pc := 25) dJ6_bitCount_0f7a4_25 rfl ?_
  refine r_iconst (pc := 26) (v := nI 4) dJ6_bitCount_0f7a4_26 rfl ?_
  refine r_iushr (pc := 27) dJ6_bitCount_0f7a4_27 ?_
  refine r_iadd (pc := 28) dJ6_bitCount_0f7a4_28 ?_
  refine r_ldcw (pc := 29) dJ6_bitCount_0f7a4_29 kJ6_267 ?_
  refine r_iand (pc := 32) dJ6_bitCount_0f7a4_32 ?_
  refine r_istore_n (pc := 33) (lo1 := [.int (((bc2 (bc1 x)) + (((bc2 (bc1 x)).toUInt32 >>> ((nI 4).toUInt32 &&& Int32.toUInt32 31)).toInt32)) &&& 252645135)]) dJ6_bitCount_0f7a4_33 rfl (by decide) rfl ?_
  refine (show Ev X mJ6_bitCount_0f7a4 (d + 0) (0, 0) (0, 0) (some (.int (bcI x)), shF, I, L) _ [.int (bc3 (bc2 (bc1 x)))] [] shF I L from ?_)
  refine r_iload_n (pc := 34) dJ6_bitCount_0f7a4_34 rfl ?_
  refine r_iload_n (pc := 35) dJ6_bitCount_0f7a4_35 rfl ?_
  refine r_bipush (pc := 36) dJ6_bitCount_0f7a4_36 bp_8 ?_
  refine r_iushr (pc := 38) dJ6_bitCount_0f7a4_38 ?_
  refine r_iadd (pc := 39) dJ6_bitCount_0f7a4_39 ?_
  refine r_istore_n (pc := 40) (lo1 := [.int ((bc3 (bc2 (bc1 x))) + (((bc3 (bc2 (bc1 x))).toUInt32 >>> ((nI 8).toUInt32 &&& Int32.toUInt32 31)).toInt32))]) dJ6_bitCount_0f7a4_40 rfl (by decide) rfl ?_
  refine (show Ev X mJ6_bitCount_0f7a4 (d + 0) (0, 0) (0, 0) (some (.int (bcI x)), shF, I, L) _ [.int (bc4 (bc3 (bc2 (bc1 x))))] [] shF I L from ?_)
  refine r_iload_n (pc := 41) dJ6_bitCount_0f7a4_41 rfl ?_
  refine r_iload_n (pc := 42) dJ6_bitCount_0f7a4_42 rfl ?_
  refine r_bipush (pc := 43) dJ6_bitCount_0f7a4_43 bp_16 ?_
  refine r_iushr (pc := 45) dJ6_bitCount_0f7a4_45 ?_
  refine r_iadd (pc := 46) dJ6_bitCount_0f7a4_46 ?_
  refine r_istore_n (pc := 47) (lo1 := [.int ((bc4 (bc3 (bc2 (bc1 x)))) + (((bc4 (bc3 (bc2 (bc1 x)))).toUInt32 >>> ((nI 16).toUInt32 &&& Int32.toUInt32 31)).toInt32))]) dJ6_bitCount_0f7a4_47 rfl (by decide) rfl ?_
  refine r_iload_n (pc := 48) dJ6_bitCount_0f7a4_48 rfl ?_
  refine r_bipush (pc := 49) dJ6_bitCount_0f7a4_49 bp_63 ?_
  refine r_iand (pc := 51) dJ6_bitCount_0f7a4_51 ?_
  exact r_iret dJ6_bitCount_0f7a4_52 rfl (rfl) rfl
def ptS (I : MI) (p q : Nat → Int64) (sure : Int32) (s : Nat) : Nat → Int64
  | 0 => 0
  | t + 1 => if (sure >>> (nI t &&& 31)) &&& nI 1 = 0 then ptS I p q sure s t + p s * q t * (I 3 (s * 6 + t)).toInt64 else ptS I p q sure s t
def prS (I : MI) (p q : Nat → Int64) (sure : Int32) : Nat → Int64
  | 0 => 0
  | s + 1 => if (sure >>> (nI s &&& 31)) &&& nI 1 = 0 then prS I p q sure s + ptS I p q sure s 6 else prS I p q sure s
theorem lp_part_40_40 (X : Ctx) (d : Nat) (I : MI) (L : ML) (sure : Int32) (s : Nat) (hs : s < 6) : ∀ (z i : Nat), i + z = 6 → Ev X mX5_part (d + 2) (0, 0) (0, 0) (some (.long (ptS I (L 40) (L 40) sure s 6)), shF, I, L) 18 [.ref 0, .ref 40, .ref 40, .int (nI s), .int (sure), .long (ptS I (L 40) (L 40) sure s i), .null, .int (nI i)] [] shF I L := by
  intro z
  induction z with
  | zero =>
    intro i hi
    have hi2 : i = 6 := by omega
    rw [hi2]
    refine r_iload (pc := 18) dX5_part_18 rfl ?_
    refine r_bipush (pc := 20) dX5_part_20 bp_6 ?_
    refine r_icmpN_ge (pc := 22) (tgt := 73) dX5_part_22 (by decide) (by omega) (by omega) (fun c1 => ?_) (fun c1 => ?_)
    · refine r_lload (pc := 73) dX5_part_73 rfl ?_
      exact r_lret dX5_part_75 rfl (rfl) rfl
    · exact absurd c1 (by decide)
  | succ z ih =>
    intro i hi
    refine r_iload (pc := 18) dX5_part_18 rfl ?_
    refine r_bipush (pc := 20) dX5_part_20 bp_6 ?_
    refine r_icmpN_ge (pc := 22) (tgt := 73) dX5_part_22 (by decide) (by omega) (by omega) (fun c2 => ?_) (fun c2 => ?_)
    · exact absurd c2 (by omega)
    · refine r_iload (pc := 25) dX5_part_25 rfl ?_
      refine r_aload_n (pc := 27) dX5_part_27 rfl ?_
      refine r_alen (pc := 28) (n := 6) dX5_part_28 rfl (by decide) ?_
      refine r_icmpN_ge (pc := 29) (tgt := 73) dX5_part_29 (by decide) (by omega) (by omega) (fun c3 => ?_) (fun c3 => ?_)
      · exact absurd c3 (by omega)
      · refine r_iload (pc := 32) dX5_part_32 rfl ?_
        refine r_iload (pc := 34) dX5_part_34 rfl ?_
        refine r_ishr (pc := 36) dX5_part_36 ?_
        refine r_iconst (pc := 37) (v := nI 1) dX5_part_37 rfl ?_
        refine r_iand (pc := 38) dX5_part_38 ?_
        refine r_if_ne (pc := 39) (tgt := 67) dX5_part_39 (by decide) (fun c4 => ?_) (fun c4 => ?_)
        · refine r_iinc (pc := 67) (v := nI (i + 1)) (lo1 := [.ref 0, .ref 40, .ref 40, .int (nI s), .int (sure), .long (ptS I (L 40) (L 40) sure s i), .null, .int (nI (i + 1))]) dX5_part_67 rfl rfl (ii1 _) (by decide) rfl ?_
          refine r_goto (pc := 70) (tgt := 18) dX5_part_70 (by decide) ?_
          have e9 : ptS I (L 40) (L 40) sure s (i + 1) = ptS I (L 40) (L 40) sure s i := if_neg c4
          have h9 := ih (i + 1) (by omega)
          rw [e9] at h9
          exact h9
        · refine r_lload (pc := 42) dX5_part_42 rfl ?_
          refine r_aload_n (pc := 44) dX5_part_44 rfl ?_
          refine r_iload_n (pc := 45) dX5_part_45 rfl ?_
          refine r_lald (pc := 46) (j := s) dX5_part_46 rfl rfl (by omega) (by decide) ?_
          refine r_aload_n (pc := 47) dX5_part_47 rfl ?_
          refine r_iload (pc := 48) dX5_part_48 rfl ?_
          refine r_lald (pc := 50) (j := i) dX5_part_50 rfl rfl (by omega) (by decide) ?_
          refine r_lmul (pc := 51) dX5_part_51 ?_
          refine r_aload_n (pc := 52) dX5_part_52 rfl ?_
          refine r_getR (pc := 53) (b := 1) dX5_part_53 fX5_12 rfl rfl ?_
          refine r_iload_n (pc := 56) dX5_part_56 rfl ?_
          refine r_iload (pc := 57) dX5_part_57 rfl ?_
          refine r_callV (pc := 59) (N := mX0_spread) (rest := [.long ((L 40 s) * (L 40 i)), .long (ptS I (L 40) (L 40) sure s i)]) (s_spread_1 X _ I L s i (by omega) (by omega)) okX0_spread lkX5_112 rfl (by decide) rfl rfl rfl (Nat.le_of_ble_eq_true rfl) ⟨Nat.le_refl _, Nat.le_refl _⟩ dX5_part_59 ?_
          refine r_i2l (pc := 62) dX5_part_62 ?_
          refine r_lmul (pc := 63) dX5_part_63 ?_
          refine r_ladd (pc := 64) dX5_part_64 ?_
          refine r_lstore (pc := 65) (lo1 := [.ref 0, .ref 40, .ref 40, .int (nI s), .int (sure), .long ((ptS I (L 40) (L 40) sure s i) + (((L 40 s) * (L 40 i)) * ((I 3 (s * 6 + i)).toInt64))), .null, .int (nI i)]) dX5_part_65 rfl (by decide) rfl ?_
          refine r_iinc (pc := 67) (v := nI (i + 1)) (lo1 := [.ref 0, .ref 40, .ref 40, .int (nI s), .int (sure), .long ((ptS I (L 40) (L 40) sure s i) + (((L 40 s) * (L 40 i)) * ((I 3 (s * 6 + i)).toInt64))), .null, .int (nI (i + 1))]) dX5_part_67 rfl rfl (ii1 _) (by decide) rfl ?_
          refine r_goto (pc := 70) (tgt := 18) dX5_part_70 (by decide) ?_
          have e9 : ptS I (L 40) (L 40) sure s (i + 1) = (ptS I (L 40) (L 40) sure s i) + (((L 40 s) * (L 40 i)) * ((I 3 (s * 6 + i)).toInt64)) := if_pos c4
          have h9 := ih (i + 1) (by omega)
          rw [e9] at h9
          exact h9
theorem s_part_40_40 (X : Ctx) (d : Nat) (I : MI) (L : ML) (sure : Int32) (s : Nat) (hs : s < 6) : Sp X mX5_part (d + 2) (0, 0) [.ref 0, .ref 40, .ref 40, .int (nI s), .int (sure)] shF I L (some (.long (ptS I (L 40) (L 40) sure s 6)), shF, I, L) := by
  refine Sp.of okX5_part [.ref 0, .ref 40, .ref 40, .int (nI s), .int (sure), .null, .null, .null] 3 rfl (Nat.le_of_ble_eq_true rfl) ?_
  refine r_iload_n (pc := 0) dX5_part_0 rfl ?_
  refine r_ifN_lt (pc := 1) (tgt := 10) dX5_part_1 (by decide) (by omega) (fun c5 => ?_) (fun c5 => ?_)
  · exact absurd c5 (by omega)
  · refine r_iload_n (pc := 4) dX5_part_4 rfl ?_
    refine r_aload_n (pc := 5) dX5_part_5 rfl ?_
    refine r_alen (pc := 6) (n := 6) dX5_part_6 rfl (by decide) ?_
    refine r_icmpN_lt (pc := 7) (tgt := 12) dX5_part_7 (by decide) (by omega) (by omega) (fun c6 => ?_) (fun c6 => ?_)
    · refine r_lconst (pc := 12) (v := 0) dX5_part_12 rfl ?_
      refine r_lstore (pc := 13) (lo1 := [.ref 0, .ref 40, .ref 40, .int (nI s), .int (sure), .long (0), .null, .null]) dX5_part_13 rfl (by decide) rfl ?_
      refine r_iconst (pc := 15) (v := nI 0) dX5_part_15 rfl ?_
      refine r_istore (pc := 16) (lo1 := [.ref 0, .ref 40, .ref 40, .int (nI s), .int (sure), .long (0), .null, .int (nI 0)]) dX5_part_16 rfl (by decide) rfl ?_
      exact lp_part_40_40 X d I L sure s hs 6 0 rfl
    · exact absurd c6 (by omega)
theorem lp_product_40_40 (X : Ctx) (d : Nat) (I : MI) (L : ML) (sure : Int32) : ∀ (z i : Nat), i + z = 6 → Ev X mX5_product (d + 3) (0, 0) (0, 0) (some (.long (prS I (L 40) (L 40) sure 6)), shF, I, L) 6 [.ref 0, .ref 40, .ref 40, .int (sure), .long (prS I (L 40) (L 40) sure i), .null, .int (nI i)] [] shF I L := by
  intro z
  induction z with
  | zero =>
    intro i hi
    have hi2 : i = 6 := by omega
    rw [hi2]
    refine r_iload (pc := 6) dX5_product_6 rfl ?_
    refine r_bipush (pc := 8) dX5_product_8 bp_6 ?_
    refine r_icmpN_ge (pc := 10) (tgt := 42) dX5_product_10 (by decide) (by omega) (by omega) (fun c1 => ?_) (fun c1 => ?_)
    · refine r_lload (pc := 42) dX5_product_42 rfl ?_
      exact r_lret dX5_product_44 rfl (rfl) rfl
    · exact absurd c1 (by decide)
  | succ z ih =>
    intro i hi
    refine r_iload (pc := 6) dX5_product_6 rfl ?_
    refine r_bipush (pc := 8) dX5_product_8 bp_6 ?_
    refine r_icmpN_ge (pc := 10) (tgt := 42) dX5_product_10 (by decide) (by omega) (by omega) (fun c2 => ?_) (fun c2 => ?_)
    · exact absurd c2 (by omega)
    · refine r_iload_n (pc := 13) dX5_product_13 rfl ?_
      refine r_iload (pc := 14) dX5_product_14 rfl ?_
      refine r_ishr (pc := 16) dX5_product_16 ?_
      refine r_iconst (pc := 17) (v := nI 1) dX5_product_17 rfl ?_
      refine r_iand (pc := 18) dX5_product_18 ?_
      refine r_if_ne (pc := 19) (tgt := 36) dX5_product_19 (by decide) (fun c3 => ?_) (fun c3 => ?_)
      · refine r_iinc (pc := 36) (v := nI (i + 1)) (lo1 := [.ref 0, .ref 40, .ref 40, .int (sure), .long (prS I (L 40) (L 40) sure i), .null, .int (nI (i + 1))]) dX5_product_36 rfl rfl (ii1 _) (by decide) rfl ?_
        refine r_goto (pc := 39) (tgt := 6) dX5_product_39 (by decide) ?_
        have e9 : prS I (L 40) (L 40) sure (i + 1) = prS I (L 40) (L 40) sure i := if_neg c3
        have h9 := ih (i + 1) (by omega)
        rw [e9] at h9
        exact h9
      · refine r_lload (pc := 22) dX5_product_22 rfl ?_
        refine r_aload_n (pc := 24) dX5_product_24 rfl ?_
        refine r_aload_n (pc := 25) dX5_product_25 rfl ?_
        refine r_aload_n (pc := 26) dX5_product_26 rfl ?_
        refine r_iload (pc := 27) dX5_product_27 rfl ?_
        refine r_iload_n (pc := 29) dX5_product_29 rfl ?_
        refine r_callV (pc := 30) (N := mX5_part) (rest := [.long (prS I (L 40) (L 40) sure i)]) (s_part_40_40 X _ I L sure i (by omega)) okX5_part lkX5_157 rfl (by decide) rfl rfl rfl (Nat.le_of_ble_eq_true rfl) ⟨Nat.le_refl _, Nat.le_refl _⟩ dX5_product_30 ?_
        refine r_ladd (pc := 33) dX5_product_33 ?_
        refine r_lstore (pc := 34) (lo1 := [.ref 0, .ref 40, .ref 40, .int (sure), .long ((prS I (L 40) (L 40) sure i) + (ptS I (L 40) (L 40) sure i 6)), .null, .int (nI i)]) dX5_product_34 rfl (by decide) rfl ?_
        refine r_iinc (pc := 36) (v := nI (i + 1)) (lo1 := [.ref 0, .ref 40, .ref 40, .int (sure), .long ((prS I (L 40) (L 40) sure i) + (ptS I (L 40) (L 40) sure i 6)), .null, .int (nI (i + 1))]) dX5_product_36 rfl rfl (ii1 _) (by decide) rfl ?_
        refine r_goto (pc := 39) (tgt := 6) dX5_product_39 (by decide) ?_
        have e9 : prS I (L 40) (L 40) sure (i + 1) = (prS I (L 40) (L 40) sure i) + (ptS I (L 40) (L 40) sure i 6) := if_pos c3
        have h9 := ih (i + 1) (by omega)
        rw [e9] at h9
        exact h9
theorem s_product_40_40 (X : Ctx) (d : Nat) (I : MI) (L : ML) (sure : Int32) : Sp X mX5_product (d + 3) (0, 0) [.ref 0, .ref 40, .ref 40, .int (sure)] shF I L (some (.long (prS I (L 40) (L 40) sure 6)), shF, I, L) := by
  refine Sp.of okX5_product [.ref 0, .ref 40, .ref 40, .int (sure), .null, .null, .null] 3 rfl (Nat.le_of_ble_eq_true rfl) ?_
  refine r_lconst (pc := 0) (v := 0) dX5_product_0 rfl ?_
  refine r_lstore (pc := 1) (lo1 := [.ref 0, .ref 40, .ref 40, .int (sure), .long (0), .null, .null]) dX5_product_1 rfl (by decide) rfl ?_
  refine r_iconst (pc := 3) (v := nI 0) dX5_product_3 rfl ?_
  refine r_istore (pc := 4) (lo1 := [.ref 0, .ref 40, .ref 40, .int (sure), .long (0), .null, .int (nI 0)]) dX5_product_4 rfl (by decide) rfl ?_
  exact lp_product_40_40 X d I L sure 6 0 rfl
theorem lp_part_40_41 (X : Ctx) (d : Nat) (I : MI) (L : ML) (sure : Int32) (s : Nat) (hs : s < 6) : ∀ (z i : Nat), i + z = 6 → Ev X mX5_part (d + 2) (0, 0) (0, 0) (some (.long (ptS I (L 40) (L 41) sure s 6)), shF, I, L) 18 [.ref 0, .ref 40, .ref 41, .int (nI s), .int (sure), .long (ptS I (L 40) (L 41) sure s i), .null, .int (nI i)] [] shF I L := by
  intro z
  induction z with
  | zero =>
    intro i hi
    have hi2 : i = 6 := by omega
    rw [hi2]
    refine r_iload (pc := 18) dX5_part_18 rfl ?_
    refine r_bipush (pc := 20) dX5_part_20 bp_6 ?_
    refine r_icmpN_ge (pc := 22) (tgt := 73) dX5_part_22 (by decide) (by omega) (by omega) (fun c1 => ?_) (fun c1 => ?_)
    · refine r_lload (pc := 73) dX5_part_73 rfl ?_
      exact r_lret dX5_part_75 rfl (rfl) rfl
    · exact absurd c1 (by decide)
  | succ z ih =>
    intro i hi
    refine r_iload (pc := 18) dX5_part_18 rfl ?_
    refine r_bipush (pc := 20) dX5_part_20 bp_6 ?_
    refine r_icmpN_ge (pc := 22) (tgt := 73) dX5_part_22 (by decide) (by omega) (by omega) (fun c2 => ?_) (fun c2 => ?_)
    · exact absurd c2 (by omega)
    · refine r_iload (pc := 25) dX5_part_25 rfl ?_
      refine r_aload_n (pc := 27) dX5_part_27 rfl ?_
      refine r_alen (pc := 28) (n := 6) dX5_part_28 rfl (by decide) ?_
      refine r_icmpN_ge (pc := 29) (tgt := 73) dX5_part_29 (by decide) (by omega) (by omega) (fun c3 => ?_) (fun c3 => ?_)
      · exact absurd c3 (by omega)
      · refine r_iload (pc := 32) dX5_part_32 rfl ?_
        refine r_iload (pc := 34) dX5_part_34 rfl ?_
        refine r_ishr (pc := 36) dX5_part_36 ?_
        refine r_iconst (pc := 37) (v := nI 1) dX5_part_37 rfl ?_
        refine r_iand (pc := 38) dX5_part_38 ?_
        refine r_if_ne (pc := 39) (tgt := 67) dX5_part_39 (by decide) (fun c4 => ?_) (fun c4 => ?_)
        · refine r_iinc (pc := 67) (v := nI (i + 1)) (lo1 := [.ref 0, .ref 40, .ref 41, .int (nI s), .int (sure), .long (ptS I (L 40) (L 41) sure s i), .null, .int (nI (i + 1))]) dX5_part_67 rfl rfl (ii1 _) (by decide) rfl ?_
          refine r_goto (pc := 70) (tgt := 18) dX5_part_70 (by decide) ?_
          have e9 : ptS I (L 40) (L 41) sure s (i + 1) = ptS I (L 40) (L 41) sure s i := if_neg c4
          have h9 := ih (i + 1) (by omega)
          rw [e9] at h9
          exact h9
        · refine r_lload (pc := 42) dX5_part_42 rfl ?_
          refine r_aload_n (pc := 44) dX5_part_44 rfl ?_
          refine r_iload_n (pc := 45) dX5_part_45 rfl ?_
          refine r_lald (pc := 46) (j := s) dX5_part_46 rfl rfl (by omega) (by decide) ?_
          refine r_aload_n (pc := 47) dX5_part_47 rfl ?_
          refine r_iload (pc := 48) dX5_part_48 rfl ?_
          refine r_lald (pc := 50) (j := i) dX5_part_50 rfl rfl (by omega) (by decide) ?_
          refine r_lmul (pc := 51) dX5_part_51 ?_
          refine r_aload_n (pc := 52) dX5_part_52 rfl ?_
          refine r_getR (pc := 53) (b := 1) dX5_part_53 fX5_12 rfl rfl ?_
          refine r_iload_n (pc := 56) dX5_part_56 rfl ?_
          refine r_iload (pc := 57) dX5_part_57 rfl ?_
          refine r_callV (pc := 59) (N := mX0_spread) (rest := [.long ((L 40 s) * (L 41 i)), .long (ptS I (L 40) (L 41) sure s i)]) (s_spread_1 X _ I L s i (by omega) (by omega)) okX0_spread lkX5_112 rfl (by decide) rfl rfl rfl (Nat.le_of_ble_eq_true rfl) ⟨Nat.le_refl _, Nat.le_refl _⟩ dX5_part_59 ?_
          refine r_i2l (pc := 62) dX5_part_62 ?_
          refine r_lmul (pc := 63) dX5_part_63 ?_
          refine r_ladd (pc := 64) dX5_part_64 ?_
          refine r_lstore (pc := 65) (lo1 := [.ref 0, .ref 40, .ref 41, .int (nI s), .int (sure), .long ((ptS I (L 40) (L 41) sure s i) + (((L 40 s) * (L 41 i)) * ((I 3 (s * 6 + i)).toInt64))), .null, .int (nI i)]) dX5_part_65 rfl (by decide) rfl ?_
          refine r_iinc (pc := 67) (v := nI (i + 1)) (lo1 := [.ref 0, .ref 40, .ref 41, .int (nI s), .int (sure), .long ((ptS I (L 40) (L 41) sure s i) + (((L 40 s) * (L 41 i)) * ((I 3 (s * 6 + i)).toInt64))), .null, .int (nI (i + 1))]) dX5_part_67 rfl rfl (ii1 _) (by decide) rfl ?_
          refine r_goto (pc := 70) (tgt := 18) dX5_part_70 (by decide) ?_
          have e9 : ptS I (L 40) (L 41) sure s (i + 1) = (ptS I (L 40) (L 41) sure s i) + (((L 40 s) * (L 41 i)) * ((I 3 (s * 6 + i)).toInt64)) := if_pos c4
          have h9 := ih (i + 1) (by omega)
          rw [e9] at h9
          exact h9
theorem s_part_40_41 (X : Ctx) (d : Nat) (I : MI) (L : ML) (sure : Int32) (s : Nat) (hs : s < 6) : Sp X mX5_part (d + 2) (0, 0) [.ref 0, .ref 40, .ref 41, .int (nI s), .int (sure)] shF I L (some (.long (ptS I (L 40) (L 41) sure s 6)), shF, I, L) := by
  refine Sp.of okX5_part [.ref 0, .ref 40, .ref 41, .int (nI s), .int (sure), .null, .null, .null] 3 rfl (Nat.le_of_ble_eq_true rfl) ?_
  refine r_iload_n (pc := 0) dX5_part_0 rfl ?_
  refine r_ifN_lt (pc := 1) (tgt := 10) dX5_part_1 (by decide) (by omega) (fun c5 => ?_) (fun c5 => ?_)
  · exact absurd c5 (by omega)
  · refine r_iload_n (pc := 4) dX5_part_4 rfl ?_
    refine r_aload_n (pc := 5) dX5_part_5 rfl ?_
    refine r_alen (pc := 6) (n := 6) dX5_part_6 rfl (by decide) ?_
    refine r_icmpN_lt (pc := 7) (tgt := 12) dX5_part_7 (by decide) (by omega) (by omega) (fun c6 => ?_) (fun c6 => ?_)
    · refine r_lconst (pc := 12) (v := 0) dX5_part_12 rfl ?_
      refine r_lstore (pc := 13) (lo1 := [.ref 0, .ref 40, .ref 41, .int (nI s), .int (sure), .long (0), .null, .null]) dX5_part_13 rfl (by decide) rfl ?_
      refine r_iconst (pc := 15) (v := nI 0) dX5_part_15 rfl ?_
      refine r_istore (pc := 16) (lo1 := [.ref 0, .ref 40, .ref 41, .int (nI s), .int (sure), .long (0), .null, .int (nI 0)]) dX5_part_16 rfl (by decide) rfl ?_
      exact lp_part_40_41 X d I L sure s hs 6 0 rfl
    · exact absurd c6 (by omega)
theorem lp_product_40_41 (X : Ctx) (d : Nat) (I : MI) (L : ML) (sure : Int32) : ∀ (z i : Nat), i + z = 6 → Ev X mX5_product (d + 3) (0, 0) (0, 0) (some (.long (prS I (L 40) (L 41) sure 6)), shF, I, L) 6 [.ref 0, .ref 40, .ref 41, .int (sure), .long (prS I (L 40) (L 41) sure i), .null, .int (nI i)] [] shF I L := by
  intro z
  induction z with
  | zero =>
    intro i hi
    have hi2 : i = 6 := by omega
    rw [hi2]
    refine r_iload (pc := 6) dX5_product_6 rfl ?_
    refine r_bipush (pc := 8) dX5_product_8 bp_6 ?_
    refine r_icmpN_ge (pc := 10) (tgt := 42) dX5_product_10 (by decide) (by omega) (by omega) (fun c1 => ?_) (fun c1 => ?_)
    · refine r_lload (pc := 42) dX5_product_42 rfl ?_
      exact r_lret dX5_product_44 rfl (rfl) rfl
    · exact absurd c1 (by decide)
  | succ z ih =>
    intro i hi
    refine r_iload (pc := 6) dX5_product_6 rfl ?_
    refine r_bipush (pc := 8) dX5_product_8 bp_6 ?_
    refine r_icmpN_ge (pc := 10) (tgt := 42) dX5_product_10 (by decide) (by omega) (by omega) (fun c2 => ?_) (fun c2 => ?_)
    · exact absurd c2 (by omega)
    · refine r_iload_n (pc := 13) dX5_product_13 rfl ?_
      refine r_iload (pc := 14) dX5_product_14 rfl ?_
      refine r_ishr (pc := 16) dX5_product_16 ?_
      refine r_iconst (pc := 17) (v := nI 1) dX5_product_17 rfl ?_
      refine r_iand (pc := 18) dX5_product_18 ?_
      refine r_if_ne (pc := 19) (tgt := 36) dX5_product_19 (by decide) (fun c3 => ?_) (fun c3 => ?_)
      · refine r_iinc (pc := 36) (v := nI (i + 1)) (lo1 := [.ref 0, .ref 40, .ref 41, .int (sure), .long (prS I (L 40) (L 41) sure i), .null, .int (nI (i + 1))]) dX5_product_36 rfl rfl (ii1 _) (by decide) rfl ?_
        refine r_goto (pc := 39) (tgt := 6) dX5_product_39 (by decide) ?_
        have e9 : prS I (L 40) (L 41) sure (i + 1) = prS I (L 40) (L 41) sure i := if_neg c3
        have h9 := ih (i + 1) (by omega)
        rw [e9] at h9
        exact h9
      · refine r_lload (pc := 22) dX5_product_22 rfl ?_
        refine r_aload_n (pc := 24) dX5_product_24 rfl ?_
        refine r_aload_n (pc := 25) dX5_product_25 rfl ?_
        refine r_aload_n (pc := 26) dX5_product_26 rfl ?_
        refine r_iload (pc := 27) dX5_product_27 rfl ?_
        refine r_iload_n (pc := 29) dX5_product_29 rfl ?_
        refine r_callV (pc := 30) (N := mX5_part) (rest := [.long (prS I (L 40) (L 41) sure i)]) (s_part_40_41 X _ I L sure i (by omega)) okX5_part lkX5_157 rfl (by decide) rfl rfl rfl (Nat.le_of_ble_eq_true rfl) ⟨Nat.le_refl _, Nat.le_refl _⟩ dX5_product_30 ?_
        refine r_ladd (pc := 33) dX5_product_33 ?_
        refine r_lstore (pc := 34) (lo1 := [.ref 0, .ref 40, .ref 41, .int (sure), .long ((prS I (L 40) (L 41) sure i) + (ptS I (L 40) (L 41) sure i 6)), .null, .int (nI i)]) dX5_product_34 rfl (by decide) rfl ?_
        refine r_iinc (pc := 36) (v := nI (i + 1)) (lo1 := [.ref 0, .ref 40, .ref 41, .int (sure), .long ((prS I (L 40) (L 41) sure i) + (ptS I (L 40) (L 41) sure i 6)), .null, .int (nI (i + 1))]) dX5_product_36 rfl rfl (ii1 _) (by decide) rfl ?_
        refine r_goto (pc := 39) (tgt := 6) dX5_product_39 (by decide) ?_
        have e9 : prS I (L 40) (L 41) sure (i + 1) = (prS I (L 40) (L 41) sure i) + (ptS I (L 40) (L 41) sure i 6) := if_pos c3
        have h9 := ih (i + 1) (by omega)
        rw [e9] at h9
        exact h9
theorem s_product_40_41 (X : Ctx) (d : Nat) (I : MI) (L : ML) (sure : Int32) : Sp X mX5_product (d + 3) (0, 0) [.ref 0, .ref 40, .ref 41, .int (sure)] shF I L (some (.long (prS I (L 40) (L 41) sure 6)), shF, I, L) := by
  refine Sp.of okX5_product [.ref 0, .ref 40, .ref 41, .int (sure), .null, .null, .null] 3 rfl (Nat.le_of_ble_eq_true rfl) ?_
  refine r_lconst (pc := 0) (v := 0) dX5_product_0 rfl ?_
  refine r_lstore (pc := 1) (lo1 := [.ref 0, .ref 40, .ref 41, .int (sure), .long (0), .null, .null]) dX5_product_1 rfl (by decide) rfl ?_
  refine r_iconst (pc := 3) (v := nI 0) dX5_product_3 rfl ?_
  refine r_istore (pc := 4) (lo1 := [.ref 0, .ref 40, .ref 41, .int (sure), .long (0), .null, .int (nI 0)]) dX5_product_4 rfl (by decide) rfl ?_
  exact lp_product_40_41 X d I L sure 6 0 rfl
theorem s_isTold_t (X : Ctx) (d : Nat) (I : MI) (L : ML) (F k : Nat) (hF : I 4 6 = nI F) (hk : k < F) (hF4 : F ≤ 4) : Sp X mX5_isTold (d + 1) (0, 0) [.ref 0, .int (nI k)] shF I L (some (.int (nI 1)), shF, I, L) := by
  refine Sp.of okX5_isTold [.ref 0, .int (nI k)] 0 rfl (Nat.le_of_ble_eq_true rfl) ?_
  refine r_iload_n (pc := 0) dX5_isTold_0 rfl ?_
  refine r_ifN_lt (pc := 1) (tgt := 19) dX5_isTold_1 (by decide) (by omega) (fun c1 => ?_) (fun c1 => ?_)
  · exact absurd c1 (by omega)
  · refine r_iload_n (pc := 4) dX5_isTold_4 rfl ?_
    refine r_aload_n (pc := 5) dX5_isTold_5 rfl ?_
    refine r_getR (pc := 6) (b := 4) dX5_isTold_6 fX5_19 rfl rfl ?_
    refine r_callV (pc := 9) (N := mX4_formulas) (rest := [.int (nI k)]) (s_formulas_4 X _ I L F (hF)) okX4_formulas lkX5_177 rfl (by decide) rfl rfl rfl (Nat.le_of_ble_eq_true rfl) ⟨Nat.le_refl _, Nat.le_refl _⟩ dX5_isTold_9 ?_
    refine r_icmpN_ge (pc := 12) (tgt := 19) dX5_isTold_12 (by decide) (by omega) (by omega) (fun c2 => ?_) (fun c2 => ?_)
    · exact absurd c2 (by omega)
    · refine r_iconst (pc := 15) (v := nI 1) dX5_isTold_15 rfl ?_
      refine r_goto (pc := 16) (tgt := 20) dX5_isTold_16 (by decide) ?_
      exact r_zret dX5_isTold_20 rfl (by decide) (rfl) rfl
theorem s_isTold_f (X : Ctx) (d : Nat) (I : MI) (L : ML) (F : Nat) (f : Int32) (hF : I 4 6 = nI F) (h : f < 0 ∨ nI F ≤ f) : Sp X mX5_isTold (d + 1) (0, 0) [.ref 0, .int (f)] shF I L (some (.int (nI 0)), shF, I, L) := by
  refine Sp.of okX5_isTold [.ref 0, .int (f)] 0 rfl (Nat.le_of_ble_eq_true rfl) ?_
  refine r_iload_n (pc := 0) dX5_isTold_0 rfl ?_
  refine r_if_lt (pc := 1) (tgt := 19) dX5_isTold_1 (by decide) (fun c1 => ?_) (fun c1 => ?_)
  · refine r_iconst (pc := 19) (v := nI 0) dX5_isTold_19 rfl ?_
    exact r_zret dX5_isTold_20 rfl (by decide) (rfl) rfl
  · refine r_iload_n (pc := 4) dX5_isTold_4 rfl ?_
    refine r_aload_n (pc := 5) dX5_isTold_5 rfl ?_
    refine r_getR (pc := 6) (b := 4) dX5_isTold_6 fX5_19 rfl rfl ?_
    refine r_callV (pc := 9) (N := mX4_formulas) (rest := [.int (f)]) (s_formulas_4 X _ I L F (hF)) okX4_formulas lkX5_177 rfl (by decide) rfl rfl rfl (Nat.le_of_ble_eq_true rfl) ⟨Nat.le_refl _, Nat.le_refl _⟩ dX5_isTold_9 ?_
    refine r_icmp_ge (pc := 12) (tgt := 19) dX5_isTold_12 (by decide) (fun c2 => ?_) (fun c2 => ?_)
    · refine r_iconst (pc := 19) (v := nI 0) dX5_isTold_19 rfl ?_
      exact r_zret dX5_isTold_20 rfl (by decide) (rfl) rfl
    · exact (h.elim c1 c2).elim
theorem s_isMove_t (X : Ctx) (d : Nat) (I : MI) (L : ML) (x : Int32) (h1 : ¬ x < -20) (h2 : ¬ nI 20 < x) : Sp X mX5_isMove (d + 0) (0, 0) [.int (x)] shF I L (some (.int (nI 1)), shF, I, L) := by
  refine Sp.of okX5_isMove [.int (x)] 0 rfl (Nat.le_of_ble_eq_true rfl) ?_
  refine r_iload_n (pc := 0) dX5_isMove_0 rfl ?_
  refine r_bipush (pc := 1) dX5_isMove_1 bp_m20 ?_
  refine r_icmp_lt (pc := 3) (tgt := 16) dX5_isMove_3 (by decide) (fun c1 => ?_) (fun c1 => ?_)
  · exact absurd c1 h1
  · refine r_iload_n (pc := 6) dX5_isMove_6 rfl ?_
    refine r_bipush (pc := 7) dX5_isMove_7 bp_20 ?_
    refine r_icmp_gt (pc := 9) (tgt := 16) dX5_isMove_9 (by decide) (fun c2 => ?_) (fun c2 => ?_)
    · exact absurd c2 h2
    · refine r_iconst (pc := 12) (v := nI 1) dX5_isMove_12 rfl ?_
      refine r_goto (pc := 13) (tgt := 17) dX5_isMove_13 (by decide) ?_
      exact r_zret dX5_isMove_17 rfl (by decide) (rfl) rfl
theorem s_isMove_f (X : Ctx) (d : Nat) (I : MI) (L : ML) (x : Int32) (h : x < -20 ∨ nI 20 < x) : Sp X mX5_isMove (d + 0) (0, 0) [.int (x)] shF I L (some (.int (nI 0)), shF, I, L) := by
  refine Sp.of okX5_isMove [.int (x)] 0 rfl (Nat.le_of_ble_eq_true rfl) ?_
  refine r_iload_n (pc := 0) dX5_isMove_0 rfl ?_
  refine r_bipush (pc := 1) dX5_isMove_1 bp_m20 ?_
  refine r_icmp_lt (pc := 3) (tgt := 16) dX5_isMove_3 (by decide) (fun c1 => ?_) (fun c1 => ?_)
  · refine r_iconst (pc := 16) (v := nI 0) dX5_isMove_16 rfl ?_
    exact r_zret dX5_isMove_17 rfl (by decide) (rfl) rfl
  · refine r_iload_n (pc := 6) dX5_isMove_6 rfl ?_
    refine r_bipush (pc := 7) dX5_isMove_7 bp_20 ?_
    refine r_icmp_gt (pc := 9) (tgt := 16) dX5_isMove_9 (by decide) (fun c2 => ?_) (fun c2 => ?_)
    · refine r_iconst (pc := 16) (v := nI 0) dX5_isMove_16 rfl ?_
      exact r_zret dX5_isMove_17 rfl (by decide) (rfl) rfl
    · exact (h.elim c1 c2).elim
theorem p_value (X : Ctx) (d : Nat) (I : MI) (L : ML) (F k n : Nat) (hF : I 4 6 = nI F) (hk : k < F) (hF4 : F ≤ 4) (hz : I 10 k = nI (n + 1)) (hn : n + 1 ≤ 80) (hN : ∀ j, j < n + 1 → NW I j) : Sp X mX5_value (d + 5) (0, 0) [.ref 0, .int (nI k)] shF I L (some (.long (tb (wO I (nI 0) (nI 0)) (L 28) (n + 1) n)), shF, I, (t2 L 28 (tb (wO I (nI 0) (nI 0)) (L 28) (n + 1)))) := by
  refine Sp.of okX5_value [.ref 0, .int (nI k)] 0 rfl (Nat.le_of_ble_eq_true rfl) ?_
  refine r_aload_n (pc := 0) dX5_value_0 rfl ?_
  refine r_iload_n (pc := 1) dX5_value_1 rfl ?_
  refine r_callV (pc := 2) (N := mX5_isTold) (rest := []) (s_isTold_t X _ I L F k hF (by omega) hF4) okX5_isTold lkX5_133 rfl (by decide) rfl rfl rfl (Nat.le_of_ble_eq_true rfl) ⟨Nat.le_refl _, Nat.le_refl _⟩ dX5_value_2 ?_
  refine r_ifN_eq (pc := 5) (tgt := 21) dX5_value_5 (by decide) (by omega) (fun c1 => ?_) (fun c1 => ?_)
  · exact absurd c1 (by decide)
  · refine r_aload_n (pc := 8) dX5_value_8 rfl ?_
    refine r_getR (pc := 9) (b := 27) dX5_value_9 fX5_42 rfl rfl ?_
    refine r_iload_n (pc := 12) dX5_value_12 rfl ?_
    refine r_iconst (pc := 13) (v := nI 0) dX5_value_13 rfl ?_
    refine r_iconst (pc := 14) (v := nI 0) dX5_value_14 rfl ?_
    refine r_callV (pc := 15) (N := mX3_worth) (rest := []) (s_sworth X _ I L (nI 0) (nI 0) k n (by omega) hz hn hN) okX3_worth lkX5_136 rfl (by decide) rfl rfl rfl (Nat.le_of_ble_eq_true rfl) ⟨Nat.le_refl _, Nat.le_refl _⟩ dX5_value_15 ?_
    refine r_goto (pc := 18) (tgt := 24) dX5_value_18 (by decide) ?_
    exact r_lret dX5_value_24 rfl (rfl) rfl
theorem p_slope (X : Ctx) (d : Nat) (I : MI) (L : ML) (s : Nat) (hs : s < 6) (F k n : Nat) (hF : I 4 6 = nI F) (hk : k < F) (hF4 : F ≤ 4) (hz : I 10 k = nI (n + 1)) (hn : n + 1 ≤ 80) (hN : ∀ j, j < n + 1 → NW I j) : Sp X mX5_slope (d + 5) (0, 0) [.ref 0, .int (nI k), .int (nI s)] shF I L (some (.long (tb (sO I (nI s) ((t2 L 28 (tb (wO I (nI s) (nI 0)) (L 28) (n + 1))) 28)) ((t2 L 28 (tb (wO I (nI s) (nI 0)) (L 28) (n + 1))) 29) (n + 1) n)), shF, I, (t2 (t2 L 28 (tb (wO I (nI s) (nI 0)) (L 28) (n + 1))) 29 (tb (sO I (nI s) ((t2 L 28 (tb (wO I (nI s) (nI 0)) (L 28) (n + 1))) 28)) ((t2 L 28 (tb (wO I (nI s) (nI 0)) (L 28) (n + 1))) 29) (n + 1)))) := by
  refine Sp.of okX5_slope [.ref 0, .int (nI k), .int (nI s)] 0 rfl (Nat.le_of_ble_eq_true rfl) ?_
  refine r_aload_n (pc := 0) dX5_slope_0 rfl ?_
  refine r_iload_n (pc := 1) dX5_slope_1 rfl ?_
  refine r_callV (pc := 2) (N := mX5_isTold) (rest := []) (s_isTold_t X _ I L F k hF (by omega) hF4) okX5_isTold lkX5_133 rfl (by decide) rfl rfl rfl (Nat.le_of_ble_eq_true rfl) ⟨Nat.le_refl _, Nat.le_refl _⟩ dX5_slope_2 ?_
  refine r_ifN_eq (pc := 5) (tgt := 27) dX5_slope_5 (by decide) (by omega) (fun c1 => ?_) (fun c1 => ?_)
  · exact absurd c1 (by decide)
  · refine r_iload_n (pc := 8) dX5_slope_8 rfl ?_
    refine r_callS (pc := 9) (N := mX5_isSource) (rest := []) (s_isSource_t X _ I L s (by omega)) okX5_isSource lkX5_103 rfl rfl (Nat.le_of_ble_eq_true rfl) ⟨Nat.le_refl _, Nat.le_refl _⟩ dX5_slope_9 ?_
    refine r_ifN_eq (pc := 12) (tgt := 27) dX5_slope_12 (by decide) (by omega) (fun c2 => ?_) (fun c2 => ?_)
    · exact absurd c2 (by decide)
    · refine r_aload_n (pc := 15) dX5_slope_15 rfl ?_
      refine r_getR (pc := 16) (b := 27) dX5_slope_16 fX5_42 rfl rfl ?_
      refine r_iload_n (pc := 19) dX5_slope_19 rfl ?_
      refine r_iload_n (pc := 20) dX5_slope_20 rfl ?_
      refine r_callV (pc := 21) (N := mX3_slopeBy) (rest := []) (s_slopeBy X _ I L (nI s) k n (by omega) hz hn hN) okX3_slopeBy lkX5_139 rfl (by decide) rfl rfl rfl (Nat.le_of_ble_eq_true rfl) ⟨Nat.le_refl _, Nat.le_refl _⟩ dX5_slope_21 ?_
      refine r_goto (pc := 24) (tgt := 30) dX5_slope_24 (by decide) ?_
      exact r_lret dX5_slope_30 rfl (rfl) rfl
theorem p_bend (X : Ctx) (d : Nat) (I : MI) (L : ML) (s t : Nat) (hs : s < 6) (ht : t < 6) (F k n : Nat) (hF : I 4 6 = nI F) (hk : k < F) (hF4 : F ≤ 4) (hz : I 10 k = nI (n + 1)) (hn : n + 1 ≤ 80) (hN : ∀ j, j < n + 1 → NW I j) : Sp X mX5_bend (d + 5) (0, 0) [.ref 0, .int (nI k), .int (nI s), .int (nI t)] shF I L (some (.long ((t2 (t2 (t2 (t2 L 28 (tb (wO I (nI s) (nI 0)) (L 28) (n + 1))) 29 (tb (sO I (nI s) ((t2 L 28 (tb (wO I (nI s) (nI 0)) (L 28) (n + 1))) 28)) ((t2 L 28 (tb (wO I (nI s) (nI 0)) (L 28) (n + 1))) 29) (n + 1))) 30 (tb (sO I (nI t) ((t2 (t2 L 28 (tb (wO I (nI s) (nI 0)) (L 28) (n + 1))) 29 (tb (sO I (nI s) ((t2 L 28 (tb (wO I (nI s) (nI 0)) (L 28) (n + 1))) 28)) ((t2 L 28 (tb (wO I (nI s) (nI 0)) (L 28) (n + 1))) 29) (n + 1))) 28)) ((t2 (t2 L 28 (tb (wO I (nI s) (nI 0)) (L 28) (n + 1))) 29 (tb (sO I (nI s) ((t2 L 28 (tb (wO I (nI s) (nI 0)) (L 28) (n + 1))) 28)) ((t2 L 28 (tb (wO I (nI s) (nI 0)) (L 28) (n + 1))) 29) (n + 1))) 30) (n + 1))) 31 (tb (bO I ((t2 (t2 (t2 L 28 (tb (wO I (nI s) (nI 0)) (L 28) (n + 1))) 29 (tb (sO I (nI s) ((t2 L 28 (tb (wO I (nI s) (nI 0)) (L 28) (n + 1))) 28)) ((t2 L 28 (tb (wO I (nI s) (nI 0)) (L 28) (n + 1))) 29) (n + 1))) 30 (tb (sO I (nI t) ((t2 (t2 L 28 (tb (wO I (nI s) (nI 0)) (L 28) (n + 1))) 29 (tb (sO I (nI s) ((t2 L 28 (tb (wO I (nI s) (nI 0)) (L 28) (n + 1))) 28)) ((t2 L 28 (tb (wO I (nI s) (nI 0)) (L 28) (n + 1))) 29) (n + 1))) 28)) ((t2 (t2 L 28 (tb (wO I (nI s) (nI 0)) (L 28) (n + 1))) 29 (tb (sO I (nI s) ((t2 L 28 (tb (wO I (nI s) (nI 0)) (L 28) (n + 1))) 28)) ((t2 L 28 (tb (wO I (nI s) (nI 0)) (L 28) (n + 1))) 29) (n + 1))) 30) (n + 1))) 28) ((t2 (t2 (t2 L 28 (tb (wO I (nI s) (nI 0)) (L 28) (n + 1))) 29 (tb (sO I (nI s) ((t2 L 28 (tb (wO I (nI s) (nI 0)) (L 28) (n + 1))) 28)) ((t2 L 28 (tb (wO I (nI s) (nI 0)) (L 28) (n + 1))) 29) (n + 1))) 30 (tb (sO I (nI t) ((t2 (t2 L 28 (tb (wO I (nI s) (nI 0)) (L 28) (n + 1))) 29 (tb (sO I (nI s) ((t2 L 28 (tb (wO I (nI s) (nI 0)) (L 28) (n + 1))) 28)) ((t2 L 28 (tb (wO I (nI s) (nI 0)) (L 28) (n + 1))) 29) (n + 1))) 28)) ((t2 (t2 L 28 (tb (wO I (nI s) (nI 0)) (L 28) (n + 1))) 29 (tb (sO I (nI s) ((t2 L 28 (tb (wO I (nI s) (nI 0)) (L 28) (n + 1))) 28)) ((t2 L 28 (tb (wO I (nI s) (nI 0)) (L 28) (n + 1))) 29) (n + 1))) 30) (n + 1))) 29) ((t2 (t2 (t2 L 28 (tb (wO I (nI s) (nI 0)) (L 28) (n + 1))) 29 (tb (sO I (nI s) ((t2 L 28 (tb (wO I (nI s) (nI 0)) (L 28) (n + 1))) 28)) ((t2 L 28 (tb (wO I (nI s) (nI 0)) (L 28) (n + 1))) 29) (n + 1))) 30 (tb (sO I (nI t) ((t2 (t2 L 28 (tb (wO I (nI s) (nI 0)) (L 28) (n + 1))) 29 (tb (sO I (nI s) ((t2 L 28 (tb (wO I (nI s) (nI 0)) (L 28) (n + 1))) 28)) ((t2 L 28 (tb (wO I (nI s) (nI 0)) (L 28) (n + 1))) 29) (n + 1))) 28)) ((t2 (t2 L 28 (tb (wO I (nI s) (nI 0)) (L 28) (n + 1))) 29 (tb (sO I (nI s) ((t2 L 28 (tb (wO I (nI s) (nI 0)) (L 28) (n + 1))) 28)) ((t2 L 28 (tb (wO I (nI s) (nI 0)) (L 28) (n + 1))) 29) (n + 1))) 30) (n + 1))) 30)) ((t2 (t2 (t2 L 28 (tb (wO I (nI s) (nI 0)) (L 28) (n + 1))) 29 (tb (sO I (nI s) ((t2 L 28 (tb (wO I (nI s) (nI 0)) (L 28) (n + 1))) 28)) ((t2 L 28 (tb (wO I (nI s) (nI 0)) (L 28) (n + 1))) 29) (n + 1))) 30 (tb (sO I (nI t) ((t2 (t2 L 28 (tb (wO I (nI s) (nI 0)) (L 28) (n + 1))) 29 (tb (sO I (nI s) ((t2 L 28 (tb (wO I (nI s) (nI 0)) (L 28) (n + 1))) 28)) ((t2 L 28 (tb (wO I (nI s) (nI 0)) (L 28) (n + 1))) 29) (n + 1))) 28)) ((t2 (t2 L 28 (tb (wO I (nI s) (nI 0)) (L 28) (n + 1))) 29 (tb (sO I (nI s) ((t2 L 28 (tb (wO I (nI s) (nI 0)) (L 28) (n + 1))) 28)) ((t2 L 28 (tb (wO I (nI s) (nI 0)) (L 28) (n + 1))) 29) (n + 1))) 30) (n + 1))) 31) (n + 1))) 31 n)), shF, I, (t2 (t2 (t2 (t2 L 28 (tb (wO I (nI s) (nI 0)) (L 28) (n + 1))) 29 (tb (sO I (nI s) ((t2 L 28 (tb (wO I (nI s) (nI 0)) (L 28) (n + 1))) 28)) ((t2 L 28 (tb (wO I (nI s) (nI 0)) (L 28) (n + 1))) 29) (n + 1))) 30 (tb (sO I (nI t) ((t2 (t2 L 28 (tb (wO I (nI s) (nI 0)) (L 28) (n + 1))) 29 (tb (sO I (nI s) ((t2 L 28 (tb (wO I (nI s) (nI 0)) (L 28) (n + 1))) 28)) ((t2 L 28 (tb (wO I (nI s) (nI 0)) (L 28) (n + 1))) 29) (n + 1))) 28)) ((t2 (t2 L 28 (tb (wO I (nI s) (nI 0)) (L 28) (n + 1))) 29 (tb (sO I (nI s) ((t2 L 28 (tb (wO I (nI s) (nI 0)) (L 28) (n + 1))) 28)) ((t2 L 28 (tb (wO I (nI s) (nI 0)) (L 28) (n + 1))) 29) (n + 1))) 30) (n + 1))) 31 (tb (bO I ((t2 (t2 (t2 L 28 (tb (wO I (nI s) (nI 0)) (L 28) (n + 1))) 29 (tb (sO I (nI s) ((t2 L 28 (tb (wO I (nI s) (nI 0)) (L 28) (n + 1))) 28)) ((t2 L 28 (tb (wO I (nI s) (nI 0)) (L 28) (n + 1))) 29) (n + 1))) 30 (tb (sO I (nI t) ((t2 (t2 L 28 (tb (wO I (nI s) (nI 0)) (L 28) (n + 1))) 29 (tb (sO I (nI s) ((t2 L 28 (tb (wO I (nI s) (nI 0)) (L 28) (n + 1))) 28)) ((t2 L 28 (tb (wO I (nI s) (nI 0)) (L 28) (n + 1))) 29) (n + 1))) 28)) ((t2 (t2 L 28 (tb (wO I (nI s) (nI 0)) (L 28) (n + 1))) 29 (tb (sO I (nI s) ((t2 L 28 (tb (wO I (nI s) (nI 0)) (L 28) (n + 1))) 28)) ((t2 L 28 (tb (wO I (nI s) (nI 0)) (L 28) (n + 1))) 29) (n + 1))) 30) (n + 1))) 28) ((t2 (t2 (t2 L 28 (tb (wO I (nI s) (nI 0)) (L 28) (n + 1))) 29 (tb (sO I (nI s) ((t2 L 28 (tb (wO I (nI s) (nI 0)) (L 28) (n + 1))) 28)) ((t2 L 28 (tb (wO I (nI s) (nI 0)) (L 28) (n + 1))) 29) (n + 1))) 30 (tb (sO I (nI t) ((t2 (t2 L 28 (tb (wO I (nI s) (nI 0)) (L 28) (n + 1))) 29 (tb (sO I (nI s) ((t2 L 28 (tb (wO I (nI s) (nI 0)) (L 28) (n + 1))) 28)) ((t2 L 28 (tb (wO I (nI s) (nI 0)) (L 28) (n + 1))) 29) (n + 1))) 28)) ((t2 (t2 L 28 (tb (wO I (nI s) (nI 0)) (L 28) (n + 1))) 29 (tb (sO I (nI s) ((t2 L 28 (tb (wO I (nI s) (nI 0)) (L 28) (n + 1))) 28)) ((t2 L 28 (tb (wO I (nI s) (nI 0)) (L 28) (n + 1))) 29) (n + 1))) 30) (n + 1))) 29) ((t2 (t2 (t2 L 28 (tb (wO I (nI s) (nI 0)) (L 28) (n + 1))) 29 (tb (sO I (nI s) ((t2 L 28 (tb (wO I (nI s) (nI 0)) (L 28) (n + 1))) 28)) ((t2 L 28 (tb (wO I (nI s) (nI 0)) (L 28) (n + 1))) 29) (n + 1))) 30 (tb (sO I (nI t) ((t2 (t2 L 28 (tb (wO I (nI s) (nI 0)) (L 28) (n + 1))) 29 (tb (sO I (nI s) ((t2 L 28 (tb (wO I (nI s) (nI 0)) (L 28) (n + 1))) 28)) ((t2 L 28 (tb (wO I (nI s) (nI 0)) (L 28) (n + 1))) 29) (n + 1))) 28)) ((t2 (t2 L 28 (tb (wO I (nI s) (nI 0)) (L 28) (n + 1))) 29 (tb (sO I (nI s) ((t2 L 28 (tb (wO I (nI s) (nI 0)) (L 28) (n + 1))) 28)) ((t2 L 28 (tb (wO I (nI s) (nI 0)) (L 28) (n + 1))) 29) (n + 1))) 30) (n + 1))) 30)) ((t2 (t2 (t2 L 28 (tb (wO I (nI s) (nI 0)) (L 28) (n + 1))) 29 (tb (sO I (nI s) ((t2 L 28 (tb (wO I (nI s) (nI 0)) (L 28) (n + 1))) 28)) ((t2 L 28 (tb (wO I (nI s) (nI 0)) (L 28) (n + 1))) 29) (n + 1))) 30 (tb (sO I (nI t) ((t2 (t2 L 28 (tb (wO I (nI s) (nI 0)) (L 28) (n + 1))) 29 (tb (sO I (nI s) ((t2 L 28 (tb (wO I (nI s) (nI 0)) (L 28) (n + 1))) 28)) ((t2 L 28 (tb (wO I (nI s) (nI 0)) (L 28) (n + 1))) 29) (n + 1))) 28)) ((t2 (t2 L 28 (tb (wO I (nI s) (nI 0)) (L 28) (n + 1))) 29 (tb (sO I (nI s) ((t2 L 28 (tb (wO I (nI s) (nI 0)) (L 28) (n + 1))) 28)) ((t2 L 28 (tb (wO I (nI s) (nI 0)) (L 28) (n + 1))) 29) (n + 1))) 30) (n + 1))) 31) (n + 1)))) := by
  refine Sp.of okX5_bend [.ref 0, .int (nI k), .int (nI s), .int (nI t)] 0 rfl (Nat.le_of_ble_eq_true rfl) ?_
  refine r_aload_n (pc := 0) dX5_bend_0 rfl ?_
  refine r_iload_n (pc := 1) dX5_bend_1 rfl ?_
  refine r_callV (pc := 2) (N := mX5_isTold) (rest := []) (s_isTold_t X _ I L F k hF (by omega) hF4) okX5_isTold lkX5_133 rfl (by decide) rfl rfl rfl (Nat.le_of_ble_eq_true rfl) ⟨Nat.le_refl _, Nat.le_refl _⟩ dX5_bend_2 ?_
  refine r_ifN_eq (pc := 5) (tgt := 35) dX5_bend_5 (by decide) (by omega) (fun c1 => ?_) (fun c1 => ?_)
  · exact absurd c1 (by decide)
  · refine r_iload_n (pc := 8) dX5_bend_8 rfl ?_
    refine r_callS (pc := 9) (N := mX5_isSource) (rest := []) (s_isSource_t X _ I L s (by omega)) okX5_isSource lkX5_103 rfl rfl (Nat.le_of_ble_eq_true rfl) ⟨Nat.le_refl _, Nat.le_refl _⟩ dX5_bend_9 ?_
    refine r_ifN_eq (pc := 12) (tgt := 35) dX5_bend_12 (by decide) (by omega) (fun c2 => ?_) (fun c2 => ?_)
    · exact absurd c2 (by decide)
    · refine r_iload_n (pc := 15) dX5_bend_15 rfl ?_
      refine r_callS (pc := 16) (N := mX5_isSource) (rest := []) (s_isSource_t X _ I L t (by omega)) okX5_isSource lkX5_103 rfl rfl (Nat.le_of_ble_eq_true rfl) ⟨Nat.le_refl _, Nat.le_refl _⟩ dX5_bend_16 ?_
      refine r_ifN_eq (pc := 19) (tgt := 35) dX5_bend_19 (by decide) (by omega) (fun c3 => ?_) (fun c3 => ?_)
      · exact absurd c3 (by decide)
      · refine r_aload_n (pc := 22) dX5_bend_22 rfl ?_
        refine r_getR (pc := 23) (b := 27) dX5_bend_23 fX5_42 rfl rfl ?_
        refine r_iload_n (pc := 26) dX5_bend_26 rfl ?_
        refine r_iload_n (pc := 27) dX5_bend_27 rfl ?_
        refine r_iload_n (pc := 28) dX5_bend_28 rfl ?_
        refine r_callV (pc := 29) (N := mX3_bendBy) (rest := []) (s_bendBy X _ I L (nI s) (nI t) k n (by omega) hz hn hN) okX3_bendBy lkX5_143 rfl (by decide) rfl rfl rfl (Nat.le_of_ble_eq_true rfl) ⟨Nat.le_refl _, Nat.le_refl _⟩ dX5_bend_29 ?_
        refine r_goto (pc := 32) (tgt := 38) dX5_bend_32 (by decide) ?_
        exact r_lret dX5_bend_38 rfl (rfl) rfl
theorem s_remains (X : Ctx) (d : Nat) (I : MI) (L : ML) (su : Int32) (F k n : Nat) (hF : I 4 6 = nI F) (hk : k < F) (hF4 : F ≤ 4) (hz : I 10 k = nI (n + 1)) (hn : n + 1 ≤ 80) (hN : ∀ j, j < n + 1 → NW I j) : Sp X mX5_remains (d + 5) (0, 0) [.ref 0, .int (nI k), .int (su)] shF I L (some (.long (prS I (siL I 40 n L 6 40) (siL I 40 n L 6 40) su 6)), shF, I, (siL I 40 n L 6)) := by
  refine Sp.of okX5_remains [.ref 0, .int (nI k), .int (su)] 0 rfl (Nat.le_of_ble_eq_true rfl) ?_
  refine r_aload_n (pc := 0) dX5_remains_0 rfl ?_
  refine r_getR (pc := 1) (b := 27) dX5_remains_1 fX5_42 rfl rfl ?_
  refine r_aload_n (pc := 4) dX5_remains_4 rfl ?_
  refine r_getR (pc := 5) (b := 40) dX5_remains_5 fX5_60 rfl rfl ?_
  refine r_iload_n (pc := 8) dX5_remains_8 rfl ?_
  refine r_callV (pc := 9) (N := mX3_slopesInto) (rest := []) (s_slopesInto_40 X _ I L k n (by omega) hz hn hN) okX3_slopesInto lkX5_149 rfl (by decide) rfl rfl rfl (Nat.le_of_ble_eq_true rfl) ⟨Nat.le_refl _, Nat.le_refl _⟩ dX5_remains_9 ?_
  refine r_aload_n (pc := 12) dX5_remains_12 rfl ?_
  refine r_aload_n (pc := 13) dX5_remains_13 rfl ?_
  refine r_getR (pc := 14) (b := 40) dX5_remains_14 fX5_60 rfl rfl ?_
  refine r_aload_n (pc := 17) dX5_remains_17 rfl ?_
  refine r_getR (pc := 18) (b := 40) dX5_remains_18 fX5_60 rfl rfl ?_
  refine r_iload_n (pc := 21) dX5_remains_21 rfl ?_
  refine r_callV (pc := 22) (N := mX5_product) (rest := []) (s_product_40_40 X _ I (siL I 40 n L 6) su) okX5_product lkX5_153 rfl (by decide) rfl rfl rfl (Nat.le_of_ble_eq_true rfl) ⟨Nat.le_refl _, Nat.le_refl _⟩ dX5_remains_22 ?_
  exact r_lret dX5_remains_25 rfl (rfl) rfl
theorem s_taken (X : Ctx) (d : Nat) (I : MI) (L : ML) (s : Nat) : Sp X mX5_taken (d + 4) (0, 0) [.ref 0, .int (nI s)] shF I L (some (.long (prS I (L 40) (L 40) (nI 0) 6 - prS I (L 40) (L 40) (nI 1 <<< (nI s &&& 31)) 6)), shF, I, L) := by
  refine Sp.of okX5_taken [.ref 0, .int (nI s)] 0 rfl (Nat.le_of_ble_eq_true rfl) ?_
  refine r_aload_n (pc := 0) dX5_taken_0 rfl ?_
  refine r_aload_n (pc := 1) dX5_taken_1 rfl ?_
  refine r_getR (pc := 2) (b := 40) dX5_taken_2 fX5_60 rfl rfl ?_
  refine r_aload_n (pc := 5) dX5_taken_5 rfl ?_
  refine r_getR (pc := 6) (b := 40) dX5_taken_6 fX5_60 rfl rfl ?_
  refine r_iconst (pc := 9) (v := nI 0) dX5_taken_9 rfl ?_
  refine r_callV (pc := 10) (N := mX5_product) (rest := []) (s_product_40_40 X _ I L (nI 0)) okX5_product lkX5_153 rfl (by decide) rfl rfl rfl (Nat.le_of_ble_eq_true rfl) ⟨Nat.le_refl _, Nat.le_refl _⟩ dX5_taken_10 ?_
  refine r_aload_n (pc := 13) dX5_taken_13 rfl ?_
  refine r_aload_n (pc := 14) dX5_taken_14 rfl ?_
  refine r_getR (pc := 15) (b := 40) dX5_taken_15 fX5_60 rfl rfl ?_
  refine r_aload_n (pc := 18) dX5_taken_18 rfl ?_
  refine r_getR (pc := 19) (b := 40) dX5_taken_19 fX5_60 rfl rfl ?_
  refine r_iconst (pc := 22) (v := nI 1) dX5_taken_22 rfl ?_
  refine r_iload_n (pc := 23) dX5_taken_23 rfl ?_
  refine r_ishl (pc := 24) dX5_taken_24 ?_
  refine r_callV (pc := 25) (N := mX5_product) (rest := [.long (prS I (L 40) (L 40) (nI 0) 6)]) (s_product_40_40 X _ I L ((nI 1) <<< (nI s &&& 31))) okX5_product lkX5_153 rfl (by decide) rfl rfl rfl (Nat.le_of_ble_eq_true rfl) ⟨Nat.le_refl _, Nat.le_refl _⟩ dX5_taken_25 ?_
  refine r_lsub (pc := 28) dX5_taken_28 ?_
  exact r_lret dX5_taken_29 rfl (rfl) rfl
theorem p_whole (X : Ctx) (d : Nat) (I : MI) (L : ML) (F k n : Nat) (hF : I 4 6 = nI F) (hk : k < F) (hF4 : F ≤ 4) (hz : I 10 k = nI (n + 1)) (hn : n + 1 ≤ 80) (hN : ∀ j, j < n + 1 → NW I j) : Sp X mX5_whole (d + 6) (0, 0) [.ref 0, .int (nI k)] shF I L (some (.long (prS I (siL I 40 n L 6 40) (siL I 40 n L 6 40) (nI 0) 6)), shF, I, (siL I 40 n L 6)) := by
  refine Sp.of okX5_whole [.ref 0, .int (nI k)] 0 rfl (Nat.le_of_ble_eq_true rfl) ?_
  refine r_aload_n (pc := 0) dX5_whole_0 rfl ?_
  refine r_iload_n (pc := 1) dX5_whole_1 rfl ?_
  refine r_callV (pc := 2) (N := mX5_isTold) (rest := []) (s_isTold_t X _ I L F k hF (by omega) hF4) okX5_isTold lkX5_133 rfl (by decide) rfl rfl rfl (Nat.le_of_ble_eq_true rfl) ⟨Nat.le_refl _, Nat.le_refl _⟩ dX5_whole_2 ?_
  refine r_ifN_eq (pc := 5) (tgt := 17) dX5_whole_5 (by decide) (by omega) (fun c1 => ?_) (fun c1 => ?_)
  · exact absurd c1 (by decide)
  · refine r_aload_n (pc := 8) dX5_whole_8 rfl ?_
    refine r_iload_n (pc := 9) dX5_whole_9 rfl ?_
    refine r_iconst (pc := 10) (v := nI 0) dX5_whole_10 rfl ?_
    refine r_callV (pc := 11) (N := mX5_remains) (rest := []) (s_remains X _ I L (nI 0) F k n hF (by omega) hF4 hz hn hN) okX5_remains lkX5_146 rfl (by decide) rfl rfl rfl (Nat.le_of_ble_eq_true rfl) ⟨Nat.le_refl _, Nat.le_refl _⟩ dX5_whole_11 ?_
    refine r_goto (pc := 14) (tgt := 20) dX5_whole_14 (by decide) ?_
    exact r_lret dX5_whole_20 rfl (rfl) rfl
theorem p_left (X : Ctx) (d : Nat) (I : MI) (L : ML) (su : Int32) (h1 : 0 ≤ su) (h2 : ¬ nI 64 ≤ su) (F k n : Nat) (hF : I 4 6 = nI F) (hk : k < F) (hF4 : F ≤ 4) (hz : I 10 k = nI (n + 1)) (hn : n + 1 ≤ 80) (hN : ∀ j, j < n + 1 → NW I j) : Sp X mX5_left (d + 6) (0, 0) [.ref 0, .int (nI k), .int (su)] shF I L (some (.long (prS I (siL I 40 n L 6 40) (siL I 40 n L 6 40) su 6)), shF, I, (siL I 40 n L 6)) := by
  refine Sp.of okX5_left [.ref 0, .int (nI k), .int (su)] 0 rfl (Nat.le_of_ble_eq_true rfl) ?_
  refine r_aload_n (pc := 0) dX5_left_0 rfl ?_
  refine r_iload_n (pc := 1) dX5_left_1 rfl ?_
  refine r_callV (pc := 2) (N := mX5_isTold) (rest := []) (s_isTold_t X _ I L F k hF (by omega) hF4) okX5_isTold lkX5_133 rfl (by decide) rfl rfl rfl (Nat.le_of_ble_eq_true rfl) ⟨Nat.le_refl _, Nat.le_refl _⟩ dX5_left_2 ?_
  refine r_ifN_eq (pc := 5) (tgt := 27) dX5_left_5 (by decide) (by omega) (fun c1 => ?_) (fun c1 => ?_)
  · exact absurd c1 (by decide)
  · refine r_iload_n (pc := 8) dX5_left_8 rfl ?_
    refine r_if_lt (pc := 9) (tgt := 27) dX5_left_9 (by decide) (fun c2 => ?_) (fun c2 => ?_)
    · exact absurd c2 (fun q => by rw [Int32.lt_iff_toInt_lt] at q; rw [Int32.le_iff_toInt_le] at h1; omega)
    · refine r_iload_n (pc := 12) dX5_left_12 rfl ?_
      refine r_bipush (pc := 13) dX5_left_13 bp_64 ?_
      refine r_icmp_ge (pc := 15) (tgt := 27) dX5_left_15 (by decide) (fun c3 => ?_) (fun c3 => ?_)
      · exact absurd c3 h2
      · refine r_aload_n (pc := 18) dX5_left_18 rfl ?_
        refine r_iload_n (pc := 19) dX5_left_19 rfl ?_
        refine r_iload_n (pc := 20) dX5_left_20 rfl ?_
        refine r_callV (pc := 21) (N := mX5_remains) (rest := []) (s_remains X _ I L su F k n hF (by omega) hF4 hz hn hN) okX5_remains lkX5_146 rfl (by decide) rfl rfl rfl (Nat.le_of_ble_eq_true rfl) ⟨Nat.le_refl _, Nat.le_refl _⟩ dX5_left_21 ?_
        refine r_goto (pc := 24) (tgt := 30) dX5_left_24 (by decide) ?_
        exact r_lret dX5_left_30 rfl (rfl) rfl
