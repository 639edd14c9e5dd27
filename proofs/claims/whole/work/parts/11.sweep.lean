/-! the evaluator of the class: a row is filled from its start, a place by what stands before it -/
def wO (I : MI) (s dd : Int32) (r : Nat → Int64) (i : Nat) : Int64 :=
  if I 5 i = nI 0 then (I 6 i).toInt64
  else if I 5 i = nI 1 then (I 2 (I 6 i).toNatClampNeg + (if I 6 i = s then dd else nI 0)).toInt64
  else if I 5 i = nI 3 then r (I 6 i).toNatClampNeg + r (I 7 i).toNatClampNeg
  else if I 5 i = nI 4 then r (I 6 i).toNatClampNeg - r (I 7 i).toNatClampNeg
  else if I 5 i = nI 5 then r (I 6 i).toNatClampNeg * r (I 7 i).toNatClampNeg
  else if I 5 i = nI 6 then pw (r (I 6 i).toNatClampNeg) (I 7 i).toNatClampNeg
  else if I 5 i = nI 7 then -(r (I 6 i).toNatClampNeg)
  else r (I 6 i).toNatClampNeg
def sO (I : MI) (s : Int32) (w r : Nat → Int64) (i : Nat) : Int64 :=
  if I 5 i = nI 0 then 0
  else if I 5 i = nI 1 then (if I 6 i = s then 1 else 0)
  else if I 5 i = nI 3 then r (I 6 i).toNatClampNeg + r (I 7 i).toNatClampNeg
  else if I 5 i = nI 4 then r (I 6 i).toNatClampNeg - r (I 7 i).toNatClampNeg
  else if I 5 i = nI 5 then r (I 6 i).toNatClampNeg * w (I 7 i).toNatClampNeg + w (I 6 i).toNatClampNeg * r (I 7 i).toNatClampNeg
  else if I 5 i = nI 6 then (I 7 i).toInt64 * pw (w (I 6 i).toNatClampNeg) ((I 7 i).toNatClampNeg - 1) * r (I 6 i).toNatClampNeg
  else if I 5 i = nI 7 then -(r (I 6 i).toNatClampNeg)
  else r (I 6 i).toNatClampNeg
def bO (I : MI) (w p q r : Nat → Int64) (i : Nat) : Int64 :=
  if I 5 i = nI 0 then 0
  else if I 5 i = nI 1 then 0
  else if I 5 i = nI 3 then r (I 6 i).toNatClampNeg + r (I 7 i).toNatClampNeg
  else if I 5 i = nI 4 then r (I 6 i).toNatClampNeg - r (I 7 i).toNatClampNeg
  else if I 5 i = nI 5 then r (I 6 i).toNatClampNeg * w (I 7 i).toNatClampNeg + w (I 6 i).toNatClampNeg * r (I 7 i).toNatClampNeg + p (I 6 i).toNatClampNeg * q (I 7 i).toNatClampNeg + q (I 6 i).toNatClampNeg * p (I 7 i).toNatClampNeg
  else if I 5 i = nI 6 then (I 7 i).toInt64 * pw (w (I 6 i).toNatClampNeg) ((I 7 i).toNatClampNeg - 1) * r (I 6 i).toNatClampNeg + (I 7 i * (I 7 i - 1)).toInt64 * pw (w (I 6 i).toNatClampNeg) ((I 7 i).toNatClampNeg - 2) * p (I 6 i).toNatClampNeg * q (I 6 i).toNatClampNeg
  else if I 5 i = nI 7 then -(r (I 6 i).toNatClampNeg)
  else r (I 6 i).toNatClampNeg
/-- a node as it should be -/
def NW (I : MI) (i : Nat) : Prop := ∃ k : Nat, k ≤ 7 ∧ I 5 i = nI k ∧ (k = 1 → ∃ j, j < 6 ∧ I 6 i = nI j) ∧ (2 ≤ k → ∃ a, a < i ∧ I 6 i = nI a) ∧ (3 ≤ k → k ≤ 5 → ∃ b, b < i ∧ I 7 i = nI b) ∧ (k = 6 → ∃ m, m ≤ 4 ∧ I 7 i = nI m)
def tb (step : (Nat → Int64) → Nat → Int64) (r0 : Nat → Int64) : Nat → (Nat → Int64)
  | 0 => r0
  | n + 1 => vp_updL (tb step r0 n) n (step (tb step r0 n) n)
theorem t2_v2 (L : ML) (c j : Nat) (f : Nat → Int64) (x : Int64) : v2 (t2 L c f) c j x = t2 L c (vp_updL f j x) := by
  funext c'
  unfold v2 t2
  by_cases h : c' = c
  · rw [if_pos h, if_pos h, if_pos rfl]
  · rw [if_neg h, if_neg h, if_neg h]
theorem t2_self (L : ML) (c : Nat) : t2 L c (L c) = L := by
  funext c'
  unfold t2
  by_cases h : c' = c
  · rw [if_pos h, h]
  · rw [if_neg h]
theorem kne {I : MI} {i a b : Nat} (h : I 5 i = nI a) (hab : a ≠ b) (ha : a < 8) (hb : b < 8) : ¬ I 5 i = nI b := fun q => hab ((nI_eq (by omega) (by omega)).mp (h.symm.trans q))
theorem wO_0 (X : Ctx) (d : Nat) (I : MI) (L : ML) (i : Nat) (s dd v : Int32) (h5 : I 5 i = nI 0) (hi : i < 80) (h6 : I 6 i = v) : Sp X mX3_worthOf (d + 2) (0, 0) [.ref 27, .int (nI i), .int (s), .int (dd)] shF I L (some (.long (v.toInt64)), shF, I, L) := by
  refine Sp.of okX3_worthOf [.ref 27, .int (nI i), .int (s), .int (dd), .null, .null] 2 rfl (Nat.le_of_ble_eq_true rfl) ?_
  refine r_aload_n (pc := 0) dX3_worthOf_0 rfl ?_
  refine r_getR (pc := 1) (b := 4) dX3_worthOf_1 fX3_9 rfl rfl ?_
  refine r_getR (pc := 4) (b := 6) dX3_worthOf_4 fX3_61 rfl rfl ?_
  refine r_iload_n (pc := 7) dX3_worthOf_7 rfl ?_
  refine r_ialdV (pc := 8) (j := i) (v := v) dX3_worthOf_8 rfl rfl (by omega) (by decide) (h6) ?_
  refine r_istore (pc := 9) (lo1 := [.ref 27, .int (nI i), .int (s), .int (dd), .int (v), .null]) dX3_worthOf_9 rfl (by decide) rfl ?_
  refine r_aload_n (pc := 11) dX3_worthOf_11 rfl ?_
  refine r_getR (pc := 12) (b := 4) dX3_worthOf_12 fX3_9 rfl rfl ?_
  refine r_getR (pc := 15) (b := 7) dX3_worthOf_15 fX3_65 rfl rfl ?_
  refine r_iload_n (pc := 18) dX3_worthOf_18 rfl ?_
  refine r_iald (pc := 19) (j := i) dX3_worthOf_19 rfl rfl (by omega) (by decide) ?_
  refine r_istore (pc := 20) (lo1 := [.ref 27, .int (nI i), .int (s), .int (dd), .int (v), .int (I 7 i)]) dX3_worthOf_20 rfl (by decide) rfl ?_
  refine r_aload_n (pc := 22) dX3_worthOf_22 rfl ?_
  refine r_getR (pc := 23) (b := 4) dX3_worthOf_23 fX3_9 rfl rfl ?_
  refine r_getR (pc := 26) (b := 5) dX3_worthOf_26 fX3_68 rfl rfl ?_
  refine r_iload_n (pc := 29) dX3_worthOf_29 rfl ?_
  refine r_ialdV (pc := 30) (j := i) (v := nI 0) dX3_worthOf_30 rfl rfl (by omega) (by decide) (h5) ?_
  refine r_swIn (pc := 31) (off := 45) (tgt := 76) dX3_worthOf_31 (by decide) (by decide) (by decide) (by decide) ?_
  refine r_iload (pc := 76) dX3_worthOf_76 rfl ?_
  refine r_i2l (pc := 78) dX3_worthOf_78 ?_
  exact r_lret dX3_worthOf_79 rfl (rfl) rfl
theorem wO_1 (X : Ctx) (d : Nat) (I : MI) (L : ML) (i : Nat) (a : Nat) (s dd : Int32) (ha : a < 6) (h5 : I 5 i = nI 1) (hi : i < 80) (h6 : I 6 i = nI a) : Sp X mX3_worthOf (d + 2) (0, 0) [.ref 27, .int (nI i), .int (s), .int (dd)] shF I L (some (.long ((I 2 a + (if nI a = s then dd else nI 0)).toInt64)), shF, I, L) := by
  refine Sp.of okX3_worthOf [.ref 27, .int (nI i), .int (s), .int (dd), .null, .null] 2 rfl (Nat.le_of_ble_eq_true rfl) ?_
  refine r_aload_n (pc := 0) dX3_worthOf_0 rfl ?_
  refine r_getR (pc := 1) (b := 4) dX3_worthOf_1 fX3_9 rfl rfl ?_
  refine r_getR (pc := 4) (b := 6) dX3_worthOf_4 fX3_61 rfl rfl ?_
  refine r_iload_n (pc := 7) dX3_worthOf_7 rfl ?_
  refine r_ialdV (pc := 8) (j := i) (v := nI a) dX3_worthOf_8 rfl rfl (by omega) (by decide) (h6) ?_
  refine r_istore (pc := 9) (lo1 := [.ref 27, .int (nI i), .int (s), .int (dd), .int (nI a), .null]) dX3_worthOf_9 rfl (by decide) rfl ?_
  refine r_aload_n (pc := 11) dX3_worthOf_11 rfl ?_
  refine r_getR (pc := 12) (b := 4) dX3_worthOf_12 fX3_9 rfl rfl ?_
  refine r_getR (pc := 15) (b := 7) dX3_worthOf_15 fX3_65 rfl rfl ?_
  refine r_iload_n (pc := 18) dX3_worthOf_18 rfl ?_
  refine r_iald (pc := 19) (j := i) dX3_worthOf_19 rfl rfl (by omega) (by decide) ?_
  refine r_istore (pc := 20) (lo1 := [.ref 27, .int (nI i), .int (s), .int (dd), .int (nI a), .int (I 7 i)]) dX3_worthOf_20 rfl (by decide) rfl ?_
  refine r_aload_n (pc := 22) dX3_worthOf_22 rfl ?_
  refine r_getR (pc := 23) (b := 4) dX3_worthOf_23 fX3_9 rfl rfl ?_
  refine r_getR (pc := 26) (b := 5) dX3_worthOf_26 fX3_68 rfl rfl ?_
  refine r_iload_n (pc := 29) dX3_worthOf_29 rfl ?_
  refine r_ialdV (pc := 30) (j := i) (v := nI 1) dX3_worthOf_30 rfl rfl (by omega) (by decide) (h5) ?_
  refine r_swIn (pc := 31) (off := 49) (tgt := 80) dX3_worthOf_31 (by decide) (by decide) (by decide) (by decide) ?_
  refine r_aload_n (pc := 80) dX3_worthOf_80 rfl ?_
  refine r_getR (pc := 81) (b := 1) dX3_worthOf_81 fX3_15 rfl rfl ?_
  refine r_iload (pc := 84) dX3_worthOf_84 rfl ?_
  refine r_callV (pc := 86) (N := mX0_worth) (rest := []) (s_worth_1 X _ I L a (by omega)) okX0_worth lkX3_71 rfl (by decide) rfl rfl rfl (Nat.le_of_ble_eq_true rfl) ⟨Nat.le_refl _, Nat.le_refl _⟩ dX3_worthOf_86 ?_
  refine r_iload (pc := 89) dX3_worthOf_89 rfl ?_
  refine r_iload_n (pc := 91) dX3_worthOf_91 rfl ?_
  refine r_icmp_ne (pc := 92) (tgt := 99) dX3_worthOf_92 (by decide) (fun c1 => ?_) (fun c1 => ?_)
  · refine r_iconst (pc := 99) (v := nI 0) dX3_worthOf_99 rfl ?_
    refine r_iadd (pc := 100) dX3_worthOf_100 ?_
    refine r_i2l (pc := 101) dX3_worthOf_101 ?_
    exact r_lret dX3_worthOf_102 rfl (by rw [if_neg c1]) rfl
  · refine r_iload_n (pc := 95) dX3_worthOf_95 rfl ?_
    refine r_goto (pc := 96) (tgt := 100) dX3_worthOf_96 (by decide) ?_
    refine r_iadd (pc := 100) dX3_worthOf_100 ?_
    refine r_i2l (pc := 101) dX3_worthOf_101 ?_
    exact r_lret dX3_worthOf_102 rfl (by rw [if_pos c1]) rfl
theorem wO_2 (X : Ctx) (d : Nat) (I : MI) (L : ML) (i : Nat) (a : Nat) (s dd : Int32) (ha : a < 80) (h5 : I 5 i = nI 2) (hi : i < 80) (h6 : I 6 i = nI a) : Sp X mX3_worthOf (d + 2) (0, 0) [.ref 27, .int (nI i), .int (s), .int (dd)] shF I L (some (.long (L 28 a)), shF, I, L) := by
  refine Sp.of okX3_worthOf [.ref 27, .int (nI i), .int (s), .int (dd), .null, .null] 2 rfl (Nat.le_of_ble_eq_true rfl) ?_
  refine r_aload_n (pc := 0) dX3_worthOf_0 rfl ?_
  refine r_getR (pc := 1) (b := 4) dX3_worthOf_1 fX3_9 rfl rfl ?_
  refine r_getR (pc := 4) (b := 6) dX3_worthOf_4 fX3_61 rfl rfl ?_
  refine r_iload_n (pc := 7) dX3_worthOf_7 rfl ?_
  refine r_ialdV (pc := 8) (j := i) (v := nI a) dX3_worthOf_8 rfl rfl (by omega) (by decide) (h6) ?_
  refine r_istore (pc := 9) (lo1 := [.ref 27, .int (nI i), .int (s), .int (dd), .int (nI a), .null]) dX3_worthOf_9 rfl (by decide) rfl ?_
  refine r_aload_n (pc := 11) dX3_worthOf_11 rfl ?_
  refine r_getR (pc := 12) (b := 4) dX3_worthOf_12 fX3_9 rfl rfl ?_
  refine r_getR (pc := 15) (b := 7) dX3_worthOf_15 fX3_65 rfl rfl ?_
  refine r_iload_n (pc := 18) dX3_worthOf_18 rfl ?_
  refine r_iald (pc := 19) (j := i) dX3_worthOf_19 rfl rfl (by omega) (by decide) ?_
  refine r_istore (pc := 20) (lo1 := [.ref 27, .int (nI i), .int (s), .int (dd), .int (nI a), .int (I 7 i)]) dX3_worthOf_20 rfl (by decide) rfl ?_
  refine r_aload_n (pc := 22) dX3_worthOf_22 rfl ?_
  refine r_getR (pc := 23) (b := 4) dX3_worthOf_23 fX3_9 rfl rfl ?_
  refine r_getR (pc := 26) (b := 5) dX3_worthOf_26 fX3_68 rfl rfl ?_
  refine r_iload_n (pc := 29) dX3_worthOf_29 rfl ?_
  refine r_ialdV (pc := 30) (j := i) (v := nI 2) dX3_worthOf_30 rfl rfl (by omega) (by decide) (h5) ?_
  refine r_swIn (pc := 31) (off := 158) (tgt := 189) dX3_worthOf_31 (by decide) (by decide) (by decide) (by decide) ?_
  refine r_aload_n (pc := 189) dX3_worthOf_189 rfl ?_
  refine r_getR (pc := 190) (b := 28) dX3_worthOf_190 fX3_19 rfl rfl ?_
  refine r_iload (pc := 193) dX3_worthOf_193 rfl ?_
  refine r_callS (pc := 195) (N := mX3_at) (rest := []) (s_at_28 X _ I L a (by omega)) okX3_at lkX3_45 rfl rfl (Nat.le_of_ble_eq_true rfl) ⟨Nat.le_refl _, Nat.le_refl _⟩ dX3_worthOf_195 ?_
  exact r_lret dX3_worthOf_198 rfl (rfl) rfl
theorem wO_3 (X : Ctx) (d : Nat) (I : MI) (L : ML) (i : Nat) (a b : Nat) (s dd : Int32) (ha : a < 80) (hb : b < 80) (h5 : I 5 i = nI 3) (hi : i < 80) (h6 : I 6 i = nI a) (h7 : I 7 i = nI b) : Sp X mX3_worthOf (d + 2) (0, 0) [.ref 27, .int (nI i), .int (s), .int (dd)] shF I L (some (.long (L 28 a + L 28 b)), shF, I, L) := by
  refine Sp.of okX3_worthOf [.ref 27, .int (nI i), .int (s), .int (dd), .null, .null] 2 rfl (Nat.le_of_ble_eq_true rfl) ?_
  refine r_aload_n (pc := 0) dX3_worthOf_0 rfl ?_
  refine r_getR (pc := 1) (b := 4) dX3_worthOf_1 fX3_9 rfl rfl ?_
  refine r_getR (pc := 4) (b := 6) dX3_worthOf_4 fX3_61 rfl rfl ?_
  refine r_iload_n (pc := 7) dX3_worthOf_7 rfl ?_
  refine r_ialdV (pc := 8) (j := i) (v := nI a) dX3_worthOf_8 rfl rfl (by omega) (by decide) (h6) ?_
  refine r_istore (pc := 9) (lo1 := [.ref 27, .int (nI i), .int (s), .int (dd), .int (nI a), .null]) dX3_worthOf_9 rfl (by decide) rfl ?_
  refine r_aload_n (pc := 11) dX3_worthOf_11 rfl ?_
  refine r_getR (pc := 12) (b := 4) dX3_worthOf_12 fX3_9 rfl rfl ?_
  refine r_getR (pc := 15) (b := 7) dX3_worthOf_15 fX3_65 rfl rfl ?_
  refine r_iload_n (pc := 18) dX3_worthOf_18 rfl ?_
  refine r_ialdV (pc := 19) (j := i) (v := nI b) dX3_worthOf_19 rfl rfl (by omega) (by decide) (h7) ?_
  refine r_istore (pc := 20) (lo1 := [.ref 27, .int (nI i), .int (s), .int (dd), .int (nI a), .int (nI b)]) dX3_worthOf_20 rfl (by decide) rfl ?_
  refine r_aload_n (pc := 22) dX3_worthOf_22 rfl ?_
  refine r_getR (pc := 23) (b := 4) dX3_worthOf_23 fX3_9 rfl rfl ?_
  refine r_getR (pc := 26) (b := 5) dX3_worthOf_26 fX3_68 rfl rfl ?_
  refine r_iload_n (pc := 29) dX3_worthOf_29 rfl ?_
  refine r_ialdV (pc := 30) (j := i) (v := nI 3) dX3_worthOf_30 rfl rfl (by omega) (by decide) (h5) ?_
  refine r_swIn (pc := 31) (off := 72) (tgt := 103) dX3_worthOf_31 (by decide) (by decide) (by decide) (by decide) ?_
  refine r_aload_n (pc := 103) dX3_worthOf_103 rfl ?_
  refine r_getR (pc := 104) (b := 28) dX3_worthOf_104 fX3_19 rfl rfl ?_
  refine r_iload (pc := 107) dX3_worthOf_107 rfl ?_
  refine r_callS (pc := 109) (N := mX3_at) (rest := []) (s_at_28 X _ I L a (by omega)) okX3_at lkX3_45 rfl rfl (Nat.le_of_ble_eq_true rfl) ⟨Nat.le_refl _, Nat.le_refl _⟩ dX3_worthOf_109 ?_
  refine r_aload_n (pc := 112) dX3_worthOf_112 rfl ?_
  refine r_getR (pc := 113) (b := 28) dX3_worthOf_113 fX3_19 rfl rfl ?_
  refine r_iload (pc := 116) dX3_worthOf_116 rfl ?_
  refine r_callS (pc := 118) (N := mX3_at) (rest := [.long (L 28 a)]) (s_at_28 X _ I L b (by omega)) okX3_at lkX3_45 rfl rfl (Nat.le_of_ble_eq_true rfl) ⟨Nat.le_refl _, Nat.le_refl _⟩ dX3_worthOf_118 ?_
  refine r_ladd (pc := 121) dX3_worthOf_121 ?_
  exact r_lret dX3_worthOf_122 rfl (rfl) rfl
theorem wO_4 (X : Ctx) (d : Nat) (I : MI) (L : ML) (i : Nat) (a b : Nat) (s dd : Int32) (ha : a < 80) (hb : b < 80) (h5 : I 5 i = nI 4) (hi : i < 80) (h6 : I 6 i = nI a) (h7 : I 7 i = nI b) : Sp X mX3_worthOf (d + 2) (0, 0) [.ref 27, .int (nI i), .int (s), .int (dd)] shF I L (some (.long (L 28 a - L 28 b)), shF, I, L) := by
  refine Sp.of okX3_worthOf [.ref 27, .int (nI i), .int (s), .int (dd), .null, .null] 2 rfl (Nat.le_of_ble_eq_true rfl) ?_
  refine r_aload_n (pc := 0) dX3_worthOf_0 rfl ?_
  refine r_getR (pc := 1) (b := 4) dX3_worthOf_1 fX3_9 rfl rfl ?_
  refine r_getR (pc := 4) (b := 6) dX3_worthOf_4 fX3_61 rfl rfl ?_
  refine r_iload_n (pc := 7) dX3_worthOf_7 rfl ?_
  refine r_ialdV (pc := 8) (j := i) (v := nI a) dX3_worthOf_8 rfl rfl (by omega) (by decide) (h6) ?_
  refine r_istore (pc := 9) (lo1 := [.ref 27, .int (nI i), .int (s), .int (dd), .int (nI a), .null]) dX3_worthOf_9 rfl (by decide) rfl ?_
  refine r_aload_n (pc := 11) dX3_worthOf_11 rfl ?_
  refine r_getR (pc := 12) (b := 4) dX3_worthOf_12 fX3_9 rfl rfl ?_
  refine r_getR (pc := 15) (b := 7) dX3_worthOf_15 fX3_65 rfl rfl ?_
  refine r_iload_n (pc := 18) dX3_worthOf_18 rfl ?_
  refine r_ialdV (pc := 19) (j := i) (v := nI b) dX3_worthOf_19 rfl rfl (by omega) (by decide) (h7) ?_
  refine r_istore (pc := 20) (lo1 := [.ref 27, .int (nI i), .int (s), .int (dd), .int (nI a), .int (nI b)]) dX3_worthOf_20 rfl (by decide) rfl ?_
  refine r_aload_n (pc := 22) dX3_worthOf_22 rfl ?_
  refine r_getR (pc := 23) (b := 4) dX3_worthOf_23 fX3_9 rfl rfl ?_
  refine r_getR (pc := 26) (b := 5) dX3_worthOf_26 fX3_68 rfl rfl ?_
  refine r_iload_n (pc := 29) dX3_worthOf_29 rfl ?_
  refine r_ialdV (pc := 30) (j := i) (v := nI 4) dX3_worthOf_30 rfl rfl (by omega) (by decide) (h5) ?_
  refine r_swIn (pc := 31) (off := 92) (tgt := 123) dX3_worthOf_31 (by decide) (by decide) (by decide) (by decide) ?_
  refine r_aload_n (pc := 123) dX3_worthOf_123 rfl ?_
  refine r_getR (pc := 124) (b := 28) dX3_worthOf_124 fX3_19 rfl rfl ?_
  refine r_iload (pc := 127) dX3_worthOf_127 rfl ?_
  refine r_callS (pc := 129) (N := mX3_at) (rest := []) (s_at_28 X _ I L a (by omega)) okX3_at lkX3_45 rfl rfl (Nat.le_of_ble_eq_true rfl) ⟨Nat.le_refl _, Nat.le_refl _⟩ dX3_worthOf_129 ?_
  refine r_aload_n (pc := 132) dX3_worthOf_132 rfl ?_
  refine r_getR (pc := 133) (b := 28) dX3_worthOf_133 fX3_19 rfl rfl ?_
  refine r_iload (pc := 136) dX3_worthOf_136 rfl ?_
  refine r_callS (pc := 138) (N := mX3_at) (rest := [.long (L 28 a)]) (s_at_28 X _ I L b (by omega)) okX3_at lkX3_45 rfl rfl (Nat.le_of_ble_eq_true rfl) ⟨Nat.le_refl _, Nat.le_refl _⟩ dX3_worthOf_138 ?_
  refine r_lsub (pc := 141) dX3_worthOf_141 ?_
  exact r_lret dX3_worthOf_142 rfl (rfl) rfl
theorem wO_5 (X : Ctx) (d : Nat) (I : MI) (L : ML) (i : Nat) (a b : Nat) (s dd : Int32) (ha : a < 80) (hb : b < 80) (h5 : I 5 i = nI 5) (hi : i < 80) (h6 : I 6 i = nI a) (h7 : I 7 i = nI b) : Sp X mX3_worthOf (d + 2) (0, 0) [.ref 27, .int (nI i), .int (s), .int (dd)] shF I L (some (.long (L 28 a * L 28 b)), shF, I, L) := by
  refine Sp.of okX3_worthOf [.ref 27, .int (nI i), .int (s), .int (dd), .null, .null] 2 rfl (Nat.le_of_ble_eq_true rfl) ?_
  refine r_aload_n (pc := 0) dX3_worthOf_0 rfl ?_
  refine r_getR (pc := 1) (b := 4) dX3_worthOf_1 fX3_9 rfl rfl ?_
  refine r_getR (pc := 4) (b := 6) dX3_worthOf_4 fX3_61 rfl rfl ?_
  refine r_iload_n (pc := 7) dX3_worthOf_7 rfl ?_
  refine r_ialdV (pc := 8) (j := i) (v := nI a) dX3_worthOf_8 rfl rfl (by omega) (by decide) (h6) ?_
  refine r_istore (pc := 9) (lo1 := [.ref 27, .int (nI i), .int (s), .int (dd), .int (nI a), .null]) dX3_worthOf_9 rfl (by decide) rfl ?_
  refine r_aload_n (pc := 11) dX3_worthOf_11 rfl ?_
  refine r_getR (pc := 12) (b := 4) dX3_worthOf_12 fX3_9 rfl rfl ?_
  refine r_getR (pc := 15) (b := 7) dX3_worthOf_15 fX3_65 rfl rfl ?_
  refine r_iload_n (pc := 18) dX3_worthOf_18 rfl ?_
  refine r_ialdV (pc := 19) (j := i) (v := nI b) dX3_worthOf_19 rfl rfl (by omega) (by decide) (h7) ?_
  refine r_istore (pc := 20) (lo1 := [.ref 27, .int (nI i), .int (s), .int (dd), .int (nI a), .int (nI b)]) dX3_worthOf_20 rfl (by decide) rfl ?_
  refine r_aload_n (pc := 22) dX3_worthOf_22 rfl ?_
  refine r_getR (pc := 23) (b := 4) dX3_worthOf_23 fX3_9 rfl rfl ?_
  refine r_getR (pc := 26) (b := 5) dX3_worthOf_26 fX3_68 rfl rfl ?_
  refine r_iload_n (pc := 29) dX3_worthOf_29 rfl ?_
  refine r_ialdV (pc := 30) (j := i) (v := nI 5) dX3_worthOf_30 rfl rfl (by omega) (by decide) (h5) ?_
  refine r_swIn (pc := 31) (off := 112) (tgt := 143) dX3_worthOf_31 (by decide) (by decide) (by decide) (by decide) ?_
  refine r_aload_n (pc := 143) dX3_worthOf_143 rfl ?_
  refine r_getR (pc := 144) (b := 28) dX3_worthOf_144 fX3_19 rfl rfl ?_
  refine r_iload (pc := 147) dX3_worthOf_147 rfl ?_
  refine r_callS (pc := 149) (N := mX3_at) (rest := []) (s_at_28 X _ I L a (by omega)) okX3_at lkX3_45 rfl rfl (Nat.le_of_ble_eq_true rfl) ⟨Nat.le_refl _, Nat.le_refl _⟩ dX3_worthOf_149 ?_
  refine r_aload_n (pc := 152) dX3_worthOf_152 rfl ?_
  refine r_getR (pc := 153) (b := 28) dX3_worthOf_153 fX3_19 rfl rfl ?_
  refine r_iload (pc := 156) dX3_worthOf_156 rfl ?_
  refine r_callS (pc := 158) (N := mX3_at) (rest := [.long (L 28 a)]) (s_at_28 X _ I L b (by omega)) okX3_at lkX3_45 rfl rfl (Nat.le_of_ble_eq_true rfl) ⟨Nat.le_refl _, Nat.le_refl _⟩ dX3_worthOf_158 ?_
  refine r_lmul (pc := 161) dX3_worthOf_161 ?_
  exact r_lret dX3_worthOf_162 rfl (rfl) rfl
theorem wO_6 (X : Ctx) (d : Nat) (I : MI) (L : ML) (i : Nat) (a m : Nat) (s dd : Int32) (ha : a < 80) (hm : m ≤ 4) (h5 : I 5 i = nI 6) (hi : i < 80) (h6 : I 6 i = nI a) (h7 : I 7 i = nI m) : Sp X mX3_worthOf (d + 2) (0, 0) [.ref 27, .int (nI i), .int (s), .int (dd)] shF I L (some (.long (pw (L 28 a) m)), shF, I, L) := by
  refine Sp.of okX3_worthOf [.ref 27, .int (nI i), .int (s), .int (dd), .null, .null] 2 rfl (Nat.le_of_ble_eq_true rfl) ?_
  refine r_aload_n (pc := 0) dX3_worthOf_0 rfl ?_
  refine r_getR (pc := 1) (b := 4) dX3_worthOf_1 fX3_9 rfl rfl ?_
  refine r_getR (pc := 4) (b := 6) dX3_worthOf_4 fX3_61 rfl rfl ?_
  refine r_iload_n (pc := 7) dX3_worthOf_7 rfl ?_
  refine r_ialdV (pc := 8) (j := i) (v := nI a) dX3_worthOf_8 rfl rfl (by omega) (by decide) (h6) ?_
  refine r_istore (pc := 9) (lo1 := [.ref 27, .int (nI i), .int (s), .int (dd), .int (nI a), .null]) dX3_worthOf_9 rfl (by decide) rfl ?_
  refine r_aload_n (pc := 11) dX3_worthOf_11 rfl ?_
  refine r_getR (pc := 12) (b := 4) dX3_worthOf_12 fX3_9 rfl rfl ?_
  refine r_getR (pc := 15) (b := 7) dX3_worthOf_15 fX3_65 rfl rfl ?_
  refine r_iload_n (pc := 18) dX3_worthOf_18 rfl ?_
  refine r_ialdV (pc := 19) (j := i) (v := nI m) dX3_worthOf_19 rfl rfl (by omega) (by decide) (h7) ?_
  refine r_istore (pc := 20) (lo1 := [.ref 27, .int (nI i), .int (s), .int (dd), .int (nI a), .int (nI m)]) dX3_worthOf_20 rfl (by decide) rfl ?_
  refine r_aload_n (pc := 22) dX3_worthOf_22 rfl ?_
  refine r_getR (pc := 23) (b := 4) dX3_worthOf_23 fX3_9 rfl rfl ?_
  refine r_getR (pc := 26) (b := 5) dX3_worthOf_26 fX3_68 rfl rfl ?_
  refine r_iload_n (pc := 29) dX3_worthOf_29 rfl ?_
  refine r_ialdV (pc := 30) (j := i) (v := nI 6) dX3_worthOf_30 rfl rfl (by omega) (by decide) (h5) ?_
  refine r_swIn (pc := 31) (off := 132) (tgt := 163) dX3_worthOf_31 (by decide) (by decide) (by decide) (by decide) ?_
  refine r_aload_n (pc := 163) dX3_worthOf_163 rfl ?_
  refine r_getR (pc := 164) (b := 28) dX3_worthOf_164 fX3_19 rfl rfl ?_
  refine r_iload (pc := 167) dX3_worthOf_167 rfl ?_
  refine r_callS (pc := 169) (N := mX3_at) (rest := []) (s_at_28 X _ I L a (by omega)) okX3_at lkX3_45 rfl rfl (Nat.le_of_ble_eq_true rfl) ⟨Nat.le_refl _, Nat.le_refl _⟩ dX3_worthOf_169 ?_
  refine r_iload (pc := 172) dX3_worthOf_172 rfl ?_
  refine r_callS (pc := 174) (N := mX3_power) (rest := []) (s_power X _ I L (L 28 a) m (by omega)) okX3_power lkX3_75 rfl rfl (Nat.le_of_ble_eq_true rfl) ⟨Nat.le_refl _, Nat.le_refl _⟩ dX3_worthOf_174 ?_
  exact r_lret dX3_worthOf_177 rfl (rfl) rfl
theorem wO_7 (X : Ctx) (d : Nat) (I : MI) (L : ML) (i : Nat) (a : Nat) (s dd : Int32) (ha : a < 80) (h5 : I 5 i = nI 7) (hi : i < 80) (h6 : I 6 i = nI a) : Sp X mX3_worthOf (d + 2) (0, 0) [.ref 27, .int (nI i), .int (s), .int (dd)] shF I L (some (.long (-(L 28 a))), shF, I, L) := by
  refine Sp.of okX3_worthOf [.ref 27, .int (nI i), .int (s), .int (dd), .null, .null] 2 rfl (Nat.le_of_ble_eq_true rfl) ?_
  refine r_aload_n (pc := 0) dX3_worthOf_0 rfl ?_
  refine r_getR (pc := 1) (b := 4) dX3_worthOf_1 fX3_9 rfl rfl ?_
  refine r_getR (pc := 4) (b := 6) dX3_worthOf_4 fX3_61 rfl rfl ?_
  refine r_iload_n (pc := 7) dX3_worthOf_7 rfl ?_
  refine r_ialdV (pc := 8) (j := i) (v := nI a) dX3_worthOf_8 rfl rfl (by omega) (by decide) (h6) ?_
  refine r_istore (pc := 9) (lo1 := [.ref 27, .int (nI i), .int (s), .int (dd), .int (nI a), .null]) dX3_worthOf_9 rfl (by decide) rfl ?_
  refine r_aload_n (pc := 11) dX3_worthOf_11 rfl ?_
  refine r_getR (pc := 12) (b := 4) dX3_worthOf_12 fX3_9 rfl rfl ?_
  refine r_getR (pc := 15) (b := 7) dX3_worthOf_15 fX3_65 rfl rfl ?_
  refine r_iload_n (pc := 18) dX3_worthOf_18 rfl ?_
  refine r_iald (pc := 19) (j := i) dX3_worthOf_19 rfl rfl (by omega) (by decide) ?_
  refine r_istore (pc := 20) (lo1 := [.ref 27, .int (nI i), .int (s), .int (dd), .int (nI a), .int (I 7 i)]) dX3_worthOf_20 rfl (by decide) rfl ?_
  refine r_aload_n (pc := 22) dX3_worthOf_22 rfl ?_
  refine r_getR (pc := 23) (b := 4) dX3_worthOf_23 fX3_9 rfl rfl ?_
  refine r_getR (pc := 26) (b := 5) dX3_worthOf_26 fX3_68 rfl rfl ?_
  refine r_iload_n (pc := 29) dX3_worthOf_29 rfl ?_
  refine r_ialdV (pc := 30) (j := i) (v := nI 7) dX3_worthOf_30 rfl rfl (by omega) (by decide) (h5) ?_
  refine r_swIn (pc := 31) (off := 147) (tgt := 178) dX3_worthOf_31 (by decide) (by decide) (by decide) (by decide) ?_
  refine r_aload_n (pc := 178) dX3_worthOf_178 rfl ?_
  refine r_getR (pc := 179) (b := 28) dX3_worthOf_179 fX3_19 rfl rfl ?_
  refine r_iload (pc := 182) dX3_worthOf_182 rfl ?_
  refine r_callS (pc := 184) (N := mX3_at) (rest := []) (s_at_28 X _ I L a (by omega)) okX3_at lkX3_45 rfl rfl (Nat.le_of_ble_eq_true rfl) ⟨Nat.le_refl _, Nat.le_refl _⟩ dX3_worthOf_184 ?_
  refine r_lneg (pc := 187) dX3_worthOf_187 ?_
  exact r_lret dX3_worthOf_188 rfl (rfl) rfl
theorem s_worthOf (X : Ctx) (d : Nat) (I : MI) (L : ML) (i : Nat) (s dd : Int32) (hi : i < 80) (hN : NW I i) : Sp X mX3_worthOf (d + 2) (0, 0) [.ref 27, .int (nI i), .int (s), .int (dd)] shF I L (some (.long (wO I s dd (L 28) i)), shF, I, L) := by
  obtain ⟨k, hk, h5, h1, h2, h3, h4⟩ := hN
  rcases (by omega : k = 0 ∨ k = 1 ∨ k = 2 ∨ k = 3 ∨ k = 4 ∨ k = 5 ∨ k = 6 ∨ k = 7) with rfl | rfl | rfl | rfl | rfl | rfl | rfl | rfl
  · have := wO_0 X d I L i s dd (I 6 i) h5 hi rfl
    unfold wO; rw [if_pos h5]
    exact this
  · obtain ⟨j, hj, h6⟩ := h1 rfl
    have := wO_1 X d I L i j s dd hj h5 hi h6
    unfold wO; rw [if_neg (kne h5 (b := 0) (by decide) (by decide) (by decide)), if_pos h5, h6, nI_clamp (by omega)]
    exact this
  · obtain ⟨a, ha, h6⟩ := h2 (by decide)
    have := wO_2 X d I L i a s dd (by omega) h5 hi h6
    unfold wO; rw [if_neg (kne h5 (b := 0) (by decide) (by decide) (by decide)), if_neg (kne h5 (b := 1) (by decide) (by decide) (by decide)), if_neg (kne h5 (b := 3) (by decide) (by decide) (by decide)), if_neg (kne h5 (b := 4) (by decide) (by decide) (by decide)), if_neg (kne h5 (b := 5) (by decide) (by decide) (by decide)), if_neg (kne h5 (b := 6) (by decide) (by decide) (by decide)), if_neg (kne h5 (b := 7) (by decide) (by decide) (by decide)), h6, nI_clamp (by omega)]
    exact this
  · obtain ⟨a, ha, h6⟩ := h2 (by decide)
    obtain ⟨b, hb, h7⟩ := h3 (by decide) (by decide)
    have := wO_3 X d I L i a b s dd (by omega) (by omega) h5 hi h6 h7
    unfold wO; rw [if_neg (kne h5 (b := 0) (by decide) (by decide) (by decide)), if_neg (kne h5 (b := 1) (by decide) (by decide) (by decide)), if_pos h5, h6, h7, nI_clamp (by omega), nI_clamp (by omega)]
    exact this
  · obtain ⟨a, ha, h6⟩ := h2 (by decide)
    obtain ⟨b, hb, h7⟩ := h3 (by decide) (by decide)
    have := wO_4 X d I L i a b s dd (by omega) (by omega) h5 hi h6 h7
    unfold wO; rw [if_neg (kne h5 (b := 0) (by decide) (by decide) (by decide)), if_neg (kne h5 (b := 1) (by decide) (by decide) (by decide)), if_neg (kne h5 (b := 3) (by decide) (by decide) (by decide)), if_pos h5, h6, h7, nI_clamp (by omega), nI_clamp (by omega)]
    exact this
  · obtain ⟨a, ha, h6⟩ := h2 (by decide)
    obtain ⟨b, hb, h7⟩ := h3 (by decide) (by decide)
    have := wO_5 X d I L i a b s dd (by omega) (by omega) h5 hi h6 h7
    unfold wO; rw [if_neg (kne h5 (b := 0) (by decide) (by decide) (by decide)), if_neg (kne h5 (b := 1) (by decide) (by decide) (by decide)), if_neg (kne h5 (b := 3) (by decide) (by decide) (by decide)), if_neg (kne h5 (b := 4) (by decide) (by decide) (by decide)), if_pos h5, h6, h7, nI_clamp (by omega), nI_clamp (by omega)]
    exact this
  · obtain ⟨a, ha, h6⟩ := h2 (by decide)
    obtain ⟨m, hm, h7⟩ := h4 rfl
    have := wO_6 X d I L i a m s dd (by omega) hm h5 hi h6 h7
    unfold wO; rw [if_neg (kne h5 (b := 0) (by decide) (by decide) (by decide)), if_neg (kne h5 (b := 1) (by decide) (by decide) (by decide)), if_neg (kne h5 (b := 3) (by decide) (by decide) (by decide)), if_neg (kne h5 (b := 4) (by decide) (by decide) (by decide)), if_neg (kne h5 (b := 5) (by decide) (by decide) (by decide)), if_pos h5, h6, h7, nI_clamp (by omega), nI_clamp (by omega)]
    exact this
  · obtain ⟨a, ha, h6⟩ := h2 (by decide)
    have := wO_7 X d I L i a s dd (by omega) h5 hi h6
    unfold wO; rw [if_neg (kne h5 (b := 0) (by decide) (by decide) (by decide)), if_neg (kne h5 (b := 1) (by decide) (by decide) (by decide)), if_neg (kne h5 (b := 3) (by decide) (by decide) (by decide)), if_neg (kne h5 (b := 4) (by decide) (by decide) (by decide)), if_neg (kne h5 (b := 5) (by decide) (by decide) (by decide)), if_neg (kne h5 (b := 6) (by decide) (by decide) (by decide)), if_pos h5, h6, nI_clamp (by omega)]
    exact this
theorem sO29_0 (X : Ctx) (d : Nat) (I : MI) (L : ML) (i : Nat) (s v : Int32) (h5 : I 5 i = nI 0) (hi : i < 80) (h6 : I 6 i = v) : Sp X mX3_slopeOf (d + 2) (0, 0) [.ref 27, .ref 29, .int (nI i), .int (s)] shF I L (some (.long (0)), shF, I, L) := by
  refine Sp.of okX3_slopeOf [.ref 27, .ref 29, .int (nI i), .int (s), .null, .null] 2 rfl (Nat.le_of_ble_eq_true rfl) ?_
  refine r_aload_n (pc := 0) dX3_slopeOf_0 rfl ?_
  refine r_getR (pc := 1) (b := 4) dX3_slopeOf_1 fX3_9 rfl rfl ?_
  refine r_getR (pc := 4) (b := 6) dX3_slopeOf_4 fX3_61 rfl rfl ?_
  refine r_iload_n (pc := 7) dX3_slopeOf_7 rfl ?_
  refine r_ialdV (pc := 8) (j := i) (v := v) dX3_slopeOf_8 rfl rfl (by omega) (by decide) (h6) ?_
  refine r_istore (pc := 9) (lo1 := [.ref 27, .ref 29, .int (nI i), .int (s), .int (v), .null]) dX3_slopeOf_9 rfl (by decide) rfl ?_
  refine r_aload_n (pc := 11) dX3_slopeOf_11 rfl ?_
  refine r_getR (pc := 12) (b := 4) dX3_slopeOf_12 fX3_9 rfl rfl ?_
  refine r_getR (pc := 15) (b := 7) dX3_slopeOf_15 fX3_65 rfl rfl ?_
  refine r_iload_n (pc := 18) dX3_slopeOf_18 rfl ?_
  refine r_iald (pc := 19) (j := i) dX3_slopeOf_19 rfl rfl (by omega) (by decide) ?_
  refine r_istore (pc := 20) (lo1 := [.ref 27, .ref 29, .int (nI i), .int (s), .int (v), .int (I 7 i)]) dX3_slopeOf_20 rfl (by decide) rfl ?_
  refine r_aload_n (pc := 22) dX3_slopeOf_22 rfl ?_
  refine r_getR (pc := 23) (b := 4) dX3_slopeOf_23 fX3_9 rfl rfl ?_
  refine r_getR (pc := 26) (b := 5) dX3_slopeOf_26 fX3_68 rfl rfl ?_
  refine r_iload_n (pc := 29) dX3_slopeOf_29 rfl ?_
  refine r_ialdV (pc := 30) (j := i) (v := nI 0) dX3_slopeOf_30 rfl rfl (by omega) (by decide) (h5) ?_
  refine r_swIn (pc := 31) (off := 45) (tgt := 76) dX3_slopeOf_31 (by decide) (by decide) (by decide) (by decide) ?_
  refine r_lconst (pc := 76) (v := 0) dX3_slopeOf_76 rfl ?_
  exact r_lret dX3_slopeOf_77 rfl (rfl) rfl
theorem sO29_1 (X : Ctx) (d : Nat) (I : MI) (L : ML) (i : Nat) (a : Nat) (s : Int32) (ha : a < 6) (h5 : I 5 i = nI 1) (hi : i < 80) (h6 : I 6 i = nI a) : Sp X mX3_slopeOf (d + 2) (0, 0) [.ref 27, .ref 29, .int (nI i), .int (s)] shF I L (some (.long ((if nI a = s then 1 else 0))), shF, I, L) := by
  refine Sp.of okX3_slopeOf [.ref 27, .ref 29, .int (nI i), .int (s), .null, .null] 2 rfl (Nat.le_of_ble_eq_true rfl) ?_
  refine r_aload_n (pc := 0) dX3_slopeOf_0 rfl ?_
  refine r_getR (pc := 1) (b := 4) dX3_slopeOf_1 fX3_9 rfl rfl ?_
  refine r_getR (pc := 4) (b := 6) dX3_slopeOf_4 fX3_61 rfl rfl ?_
  refine r_iload_n (pc := 7) dX3_slopeOf_7 rfl ?_
  refine r_ialdV (pc := 8) (j := i) (v := nI a) dX3_slopeOf_8 rfl rfl (by omega) (by decide) (h6) ?_
  refine r_istore (pc := 9) (lo1 := [.ref 27, .ref 29, .int (nI i), .int (s), .int (nI a), .null]) dX3_slopeOf_9 rfl (by decide) rfl ?_
  refine r_aload_n (pc := 11) dX3_slopeOf_11 rfl ?_
  refine r_getR (pc := 12) (b := 4) dX3_slopeOf_12 fX3_9 rfl rfl ?_
  refine r_getR (pc := 15) (b := 7) dX3_slopeOf_15 fX3_65 rfl rfl ?_
  refine r_iload_n (pc := 18) dX3_slopeOf_18 rfl ?_
  refine r_iald (pc := 19) (j := i) dX3_slopeOf_19 rfl rfl (by omega) (by decide) ?_
  refine r_istore (pc := 20) (lo1 := [.ref 27, .ref 29, .int (nI i), .int (s), .int (nI a), .int (I 7 i)]) dX3_slopeOf_20 rfl (by decide) rfl ?_
  refine r_aload_n (pc := 22) dX3_slopeOf_22 rfl ?_
  refine r_getR (pc := 23) (b := 4) dX3_slopeOf_23 fX3_9 rfl rfl ?_
  refine r_getR (pc := 26) (b := 5) dX3_slopeOf_26 fX3_68 rfl rfl ?_
  refine r_iload_n (pc := 29) dX3_slopeOf_29 rfl ?_
  refine r_ialdV (pc := 30) (j := i) (v := nI 1) dX3_slopeOf_30 rfl rfl (by omega) (by decide) (h5) ?_
  refine r_swIn (pc := 31) (off := 47) (tgt := 78) dX3_slopeOf_31 (by decide) (by decide) (by decide) (by decide) ?_
  refine r_iload (pc := 78) dX3_slopeOf_78 rfl ?_
  refine r_iload_n (pc := 80) dX3_slopeOf_80 rfl ?_
  refine r_icmp_ne (pc := 81) (tgt := 88) dX3_slopeOf_81 (by decide) (fun c1 => ?_) (fun c1 => ?_)
  · refine r_lconst (pc := 88) (v := 0) dX3_slopeOf_88 rfl ?_
    exact r_lret dX3_slopeOf_89 rfl (by rw [if_neg c1]) rfl
  · refine r_lconst (pc := 84) (v := 1) dX3_slopeOf_84 rfl ?_
    refine r_goto (pc := 85) (tgt := 89) dX3_slopeOf_85 (by decide) ?_
    exact r_lret dX3_slopeOf_89 rfl (by rw [if_pos c1]) rfl
theorem sO29_2 (X : Ctx) (d : Nat) (I : MI) (L : ML) (i : Nat) (a : Nat) (s : Int32) (ha : a < 80) (h5 : I 5 i = nI 2) (hi : i < 80) (h6 : I 6 i = nI a) : Sp X mX3_slopeOf (d + 2) (0, 0) [.ref 27, .ref 29, .int (nI i), .int (s)] shF I L (some (.long (L 29 a)), shF, I, L) := by
  refine Sp.of okX3_slopeOf [.ref 27, .ref 29, .int (nI i), .int (s), .null, .null] 2 rfl (Nat.le_of_ble_eq_true rfl) ?_
  refine r_aload_n (pc := 0) dX3_slopeOf_0 rfl ?_
  refine r_getR (pc := 1) (b := 4) dX3_slopeOf_1 fX3_9 rfl rfl ?_
  refine r_getR (pc := 4) (b := 6) dX3_slopeOf_4 fX3_61 rfl rfl ?_
  refine r_iload_n (pc := 7) dX3_slopeOf_7 rfl ?_
  refine r_ialdV (pc := 8) (j := i) (v := nI a) dX3_slopeOf_8 rfl rfl (by omega) (by decide) (h6) ?_
  refine r_istore (pc := 9) (lo1 := [.ref 27, .ref 29, .int (nI i), .int (s), .int (nI a), .null]) dX3_slopeOf_9 rfl (by decide) rfl ?_
  refine r_aload_n (pc := 11) dX3_slopeOf_11 rfl ?_
  refine r_getR (pc := 12) (b := 4) dX3_slopeOf_12 fX3_9 rfl rfl ?_
  refine r_getR (pc := 15) (b := 7) dX3_slopeOf_15 fX3_65 rfl rfl ?_
  refine r_iload_n (pc := 18) dX3_slopeOf_18 rfl ?_
  refine r_iald (pc := 19) (j := i) dX3_slopeOf_19 rfl rfl (by omega) (by decide) ?_
  refine r_istore (pc := 20) (lo1 := [.ref 27, .ref 29, .int (nI i), .int (s), .int (nI a), .int (I 7 i)]) dX3_slopeOf_20 rfl (by decide) rfl ?_
  refine r_aload_n (pc := 22) dX3_slopeOf_22 rfl ?_
  refine r_getR (pc := 23) (b := 4) dX3_slopeOf_23 fX3_9 rfl rfl ?_
  refine r_getR (pc := 26) (b := 5) dX3_slopeOf_26 fX3_68 rfl rfl ?_
  refine r_iload_n (pc := 29) dX3_slopeOf_29 rfl ?_
  refine r_ialdV (pc := 30) (j := i) (v := nI 2) dX3_slopeOf_30 rfl rfl (by omega) (by decide) (h5) ?_
  refine r_swIn (pc := 31) (off := 157) (tgt := 188) dX3_slopeOf_31 (by decide) (by decide) (by decide) (by decide) ?_
  refine r_aload_n (pc := 188) dX3_slopeOf_188 rfl ?_
  refine r_iload (pc := 189) dX3_slopeOf_189 rfl ?_
  refine r_callS (pc := 191) (N := mX3_at) (rest := []) (s_at_29 X _ I L a (by omega)) okX3_at lkX3_45 rfl rfl (Nat.le_of_ble_eq_true rfl) ⟨Nat.le_refl _, Nat.le_refl _⟩ dX3_slopeOf_191 ?_
  exact r_lret dX3_slopeOf_194 rfl (rfl) rfl
theorem sO29_3 (X : Ctx) (d : Nat) (I : MI) (L : ML) (i : Nat) (a b : Nat) (s : Int32) (ha : a < 80) (hb : b < 80) (h5 : I 5 i = nI 3) (hi : i < 80) (h6 : I 6 i = nI a) (h7 : I 7 i = nI b) : Sp X mX3_slopeOf (d + 2) (0, 0) [.ref 27, .ref 29, .int (nI i), .int (s)] shF I L (some (.long (L 29 a + L 29 b)), shF, I, L) := by
  refine Sp.of okX3_slopeOf [.ref 27, .ref 29, .int (nI i), .int (s), .null, .null] 2 rfl (Nat.le_of_ble_eq_true rfl) ?_
  refine r_aload_n (pc := 0) dX3_slopeOf_0 rfl ?_
  refine r_getR (pc := 1) (b := 4) dX3_slopeOf_1 fX3_9 rfl rfl ?_
  refine r_getR (pc := 4) (b := 6) dX3_slopeOf_4 fX3_61 rfl rfl ?_
  refine r_iload_n (pc := 7) dX3_slopeOf_7 rfl ?_
  refine r_ialdV (pc := 8) (j := i) (v := nI a) dX3_slopeOf_8 rfl rfl (by omega) (by decide) (h6) ?_
  refine r_istore (pc := 9) (lo1 := [.ref 27, .ref 29, .int (nI i), .int (s), .int (nI a), .null]) dX3_slopeOf_9 rfl (by decide) rfl ?_
  refine r_aload_n (pc := 11) dX3_slopeOf_11 rfl ?_
  refine r_getR (pc := 12) (b := 4) dX3_slopeOf_12 fX3_9 rfl rfl ?_
  refine r_getR (pc := 15) (b := 7) dX3_slopeOf_15 fX3_65 rfl rfl ?_
  refine r_iload_n (pc := 18) dX3_slopeOf_18 rfl ?_
  refine r_ialdV (pc := 19) (j := i) (v := nI b) dX3_slopeOf_19 rfl rfl (by omega) (by decide) (h7) ?_
  refine r_istore (pc := 20) (lo1 := [.ref 27, .ref 29, .int (nI i), .int (s), .int (nI a), .int (nI b)]) dX3_slopeOf_20 rfl (by decide) rfl ?_
  refine r_aload_n (pc := 22) dX3_slopeOf_22 rfl ?_
  refine r_getR (pc := 23) (b := 4) dX3_slopeOf_23 fX3_9 rfl rfl ?_
  refine r_getR (pc := 26) (b := 5) dX3_slopeOf_26 fX3_68 rfl rfl ?_
  refine r_iload_n (pc := 29) dX3_slopeOf_29 rfl ?_
  refine r_ialdV (pc := 30) (j := i) (v := nI 3) dX3_slopeOf_30 rfl rfl (by omega) (by decide) (h5) ?_
  refine r_swIn (pc := 31) (off := 59) (tgt := 90) dX3_slopeOf_31 (by decide) (by decide) (by decide) (by decide) ?_
  refine r_aload_n (pc := 90) dX3_slopeOf_90 rfl ?_
  refine r_iload (pc := 91) dX3_slopeOf_91 rfl ?_
  refine r_callS (pc := 93) (N := mX3_at) (rest := []) (s_at_29 X _ I L a (by omega)) okX3_at lkX3_45 rfl rfl (Nat.le_of_ble_eq_true rfl) ⟨Nat.le_refl _, Nat.le_refl _⟩ dX3_slopeOf_93 ?_
  refine r_aload_n (pc := 96) dX3_slopeOf_96 rfl ?_
  refine r_iload (pc := 97) dX3_slopeOf_97 rfl ?_
  refine r_callS (pc := 99) (N := mX3_at) (rest := [.long (L 29 a)]) (s_at_29 X _ I L b (by omega)) okX3_at lkX3_45 rfl rfl (Nat.le_of_ble_eq_true rfl) ⟨Nat.le_refl _, Nat.le_refl _⟩ dX3_slopeOf_99 ?_
  refine r_ladd (pc := 102) dX3_slopeOf_102 ?_
  exact r_lret dX3_slopeOf_103 rfl (rfl) rfl
theorem sO29_4 (X : Ctx) (d : Nat) (I : MI) (L : ML) (i : Nat) (a b : Nat) (s : Int32) (ha : a < 80) (hb : b < 80) (h5 : I 5 i = nI 4) (hi : i < 80) (h6 : I 6 i = nI a) (h7 : I 7 i = nI b) : Sp X mX3_slopeOf (d + 2) (0, 0) [.ref 27, .ref 29, .int (nI i), .int (s)] shF I L (some (.long (L 29 a - L 29 b)), shF, I, L) := by
  refine Sp.of okX3_slopeOf [.ref 27, .ref 29, .int (nI i), .int (s), .null, .null] 2 rfl (Nat.le_of_ble_eq_true rfl) ?_
  refine r_aload_n (pc := 0) dX3_slopeOf_0 rfl ?_
  refine r_getR (pc := 1) (b := 4) dX3_slopeOf_1 fX3_9 rfl rfl ?_
  refine r_getR (pc := 4) (b := 6) dX3_slopeOf_4 fX3_61 rfl rfl ?_
  refine r_iload_n (pc := 7) dX3_slopeOf_7 rfl ?_
  refine r_ialdV (pc := 8) (j := i) (v := nI a) dX3_slopeOf_8 rfl rfl (by omega) (by decide) (h6) ?_
  refine r_istore (pc := 9) (lo1 := [.ref 27, .ref 29, .int (nI i), .int (s), .int (nI a), .null]) dX3_slopeOf_9 rfl (by decide) rfl ?_
  refine r_aload_n (pc := 11) dX3_slopeOf_11 rfl ?_
  refine r_getR (pc := 12) (b := 4) dX3_slopeOf_12 fX3_9 rfl rfl ?_
  refine r_getR (pc := 15) (b := 7) dX3_slopeOf_15 fX3_65 rfl rfl ?_
  refine r_iload_n (pc := 18) dX3_slopeOf_18 rfl ?_
  refine r_ialdV (pc := 19) (j := i) (v := nI b) dX3_slopeOf_19 rfl rfl (by omega) (by decide) (h7) ?_
  refine r_istore (pc := 20) (lo1 := [.ref 27, .ref 29, .int (nI i), .int (s), .int (nI a), .int (nI b)]) dX3_slopeOf_20 rfl (by decide) rfl ?_
  refine r_aload_n (pc := 22) dX3_slopeOf_22 rfl ?_
  refine r_getR (pc := 23) (b := 4) dX3_slopeOf_23 fX3_9 rfl rfl ?_
  refine r_getR (pc := 26) (b := 5) dX3_slopeOf_26 fX3_68 rfl rfl ?_
  refine r_iload_n (pc := 29) dX3_slopeOf_29 rfl ?_
  refine r_ialdV (pc := 30) (j := i) (v := nI 4) dX3_slopeOf_30 rfl rfl (by omega) (by decide) (h5) ?_
  refine r_swIn (pc := 31) (off := 73) (tgt := 104) dX3_slopeOf_31 (by decide) (by decide) (by decide) (by decide) ?_
  refine r_aload_n (pc := 104) dX3_slopeOf_104 rfl ?_
  refine r_iload (pc := 105) dX3_slopeOf_105 rfl ?_
  refine r_callS (pc := 107) (N := mX3_at) (rest := []) (s_at_29 X _ I L a (by omega)) okX3_at lkX3_45 rfl rfl (Nat.le_of_ble_eq_true rfl) ⟨Nat.le_refl _, Nat.le_refl _⟩ dX3_slopeOf_107 ?_
  refine r_aload_n (pc := 110) dX3_slopeOf_110 rfl ?_
  refine r_iload (pc := 111) dX3_slopeOf_111 rfl ?_
  refine r_callS (pc := 113) (N := mX3_at) (rest := [.long (L 29 a)]) (s_at_29 X _ I L b (by omega)) okX3_at lkX3_45 rfl rfl (Nat.le_of_ble_eq_true rfl) ⟨Nat.le_refl _, Nat.le_refl _⟩ dX3_slopeOf_113 ?_
  refine r_lsub (pc := 116) dX3_slopeOf_116 ?_
  exact r_lret dX3_slopeOf_117 rfl (rfl) rfl
theorem sO29_5 (X : Ctx) (d : Nat) (I : MI) (L : ML) (i : Nat) (a b : Nat) (s : Int32) (ha : a < 80) (hb : b < 80) (h5 : I 5 i = nI 5) (hi : i < 80) (h6 : I 6 i = nI a) (h7 : I 7 i = nI b) : Sp X mX3_slopeOf (d + 2) (0, 0) [.ref 27, .ref 29, .int (nI i), .int (s)] shF I L (some (.long (L 29 a * L 28 b + L 28 a * L 29 b)), shF, I, L) := by
  refine Sp.of okX3_slopeOf [.ref 27, .ref 29, .int (nI i), .int (s), .null, .null] 2 rfl (Nat.le_of_ble_eq_true rfl) ?_
  refine r_aload_n (pc := 0) dX3_slopeOf_0 rfl ?_
  refine r_getR (pc := 1) (b := 4) dX3_slopeOf_1 fX3_9 rfl rfl ?_
  refine r_getR (pc := 4) (b := 6) dX3_slopeOf_4 fX3_61 rfl rfl ?_
  refine r_iload_n (pc := 7) dX3_slopeOf_7 rfl ?_
  refine r_ialdV (pc := 8) (j := i) (v := nI a) dX3_slopeOf_8 rfl rfl (by omega) (by decide) (h6) ?_
  refine r_istore (pc := 9) (lo1 := [.ref 27, .ref 29, .int (nI i), .int (s), .int (nI a), .null]) dX3_slopeOf_9 rfl (by decide) rfl ?_
  refine r_aload_n (pc := 11) dX3_slopeOf_11 rfl ?_
  refine r_getR (pc := 12) (b := 4) dX3_slopeOf_12 fX3_9 rfl rfl ?_
  refine r_getR (pc := 15) (b := 7) dX3_slopeOf_15 fX3_65 rfl rfl ?_
  refine r_iload_n (pc := 18) dX3_slopeOf_18 rfl ?_
  refine r_ialdV (pc := 19) (j := i) (v := nI b) dX3_slopeOf_19 rfl rfl (by omega) (by decide) (h7) ?_
  refine r_istore (pc := 20) (lo1 := [.ref 27, .ref 29, .int (nI i), .int (s), .int (nI a), .int (nI b)]) dX3_slopeOf_20 rfl (by decide) rfl ?_
  refine r_aload_n (pc := 22) dX3_slopeOf_22 rfl ?_
  refine r_getR (pc := 23) (b := 4) dX3_slopeOf_23 fX3_9 rfl rfl ?_
  refine r_getR (pc := 26) (b := 5) dX3_slopeOf_26 fX3_68 rfl rfl ?_
  refine r_iload_n (pc := 29) dX3_slopeOf_29 rfl ?_
  refine r_ialdV (pc := 30) (j := i) (v := nI 5) dX3_slopeOf_30 rfl rfl (by omega) (by decide) (h5) ?_
  refine r_swIn (pc := 31) (off := 87) (tgt := 118) dX3_slopeOf_31 (by decide) (by decide) (by decide) (by decide) ?_
  refine r_aload_n (pc := 118) dX3_slopeOf_118 rfl ?_
  refine r_iload (pc := 119) dX3_slopeOf_119 rfl ?_
  refine r_callS (pc := 121) (N := mX3_at) (rest := []) (s_at_29 X _ I L a (by omega)) okX3_at lkX3_45 rfl rfl (Nat.le_of_ble_eq_true rfl) ⟨Nat.le_refl _, Nat.le_refl _⟩ dX3_slopeOf_121 ?_
  refine r_aload_n (pc := 124) dX3_slopeOf_124 rfl ?_
  refine r_getR (pc := 125) (b := 28) dX3_slopeOf_125 fX3_19 rfl rfl ?_
  refine r_iload (pc := 128) dX3_slopeOf_128 rfl ?_
  refine r_callS (pc := 130) (N := mX3_at) (rest := [.long (L 29 a)]) (s_at_28 X _ I L b (by omega)) okX3_at lkX3_45 rfl rfl (Nat.le_of_ble_eq_true rfl) ⟨Nat.le_refl _, Nat.le_refl _⟩ dX3_slopeOf_130 ?_
  refine r_lmul (pc := 133) dX3_slopeOf_133 ?_
  refine r_aload_n (pc := 134) dX3_slopeOf_134 rfl ?_
  refine r_getR (pc := 135) (b := 28) dX3_slopeOf_135 fX3_19 rfl rfl ?_
  refine r_iload (pc := 138) dX3_slopeOf_138 rfl ?_
  refine r_callS (pc := 140) (N := mX3_at) (rest := [.long ((L 29 a) * (L 28 b))]) (s_at_28 X _ I L a (by omega)) okX3_at lkX3_45 rfl rfl (Nat.le_of_ble_eq_true rfl) ⟨Nat.le_refl _, Nat.le_refl _⟩ dX3_slopeOf_140 ?_
  refine r_aload_n (pc := 143) dX3_slopeOf_143 rfl ?_
  refine r_iload (pc := 144) dX3_slopeOf_144 rfl ?_
  refine r_callS (pc := 146) (N := mX3_at) (rest := [.long (L 28 a), .long ((L 29 a) * (L 28 b))]) (s_at_29 X _ I L b (by omega)) okX3_at lkX3_45 rfl rfl (Nat.le_of_ble_eq_true rfl) ⟨Nat.le_refl _, Nat.le_refl _⟩ dX3_slopeOf_146 ?_
  refine r_lmul (pc := 149) dX3_slopeOf_149 ?_
  refine r_ladd (pc := 150) dX3_slopeOf_150 ?_
  exact r_lret dX3_slopeOf_151 rfl (rfl) rfl
theorem sO29_60 (X : Ctx) (d : Nat) (I : MI) (L : ML) (i a : Nat) (s : Int32) (ha : a < 80) (h5 : I 5 i = nI 6) (hi : i < 80) (h6 : I 6 i = nI a) (h7 : I 7 i = nI 0) : Sp X mX3_slopeOf (d + 2) (0, 0) [.ref 27, .ref 29, .int (nI i), .int (s)] shF I L (some (.long ((nI 0).toInt64 * 1 * L 29 a)), shF, I, L) := by
  refine Sp.of okX3_slopeOf [.ref 27, .ref 29, .int (nI i), .int (s), .null, .null] 2 rfl (Nat.le_of_ble_eq_true rfl) ?_
  refine r_aload_n (pc := 0) dX3_slopeOf_0 rfl ?_
  refine r_getR (pc := 1) (b := 4) dX3_slopeOf_1 fX3_9 rfl rfl ?_
  refine r_getR (pc := 4) (b := 6) dX3_slopeOf_4 fX3_61 rfl rfl ?_
  refine r_iload_n (pc := 7) dX3_slopeOf_7 rfl ?_
  refine r_ialdV (pc := 8) (j := i) (v := nI a) dX3_slopeOf_8 rfl rfl (by omega) (by decide) (h6) ?_
  refine r_istore (pc := 9) (lo1 := [.ref 27, .ref 29, .int (nI i), .int (s), .int (nI a), .null]) dX3_slopeOf_9 rfl (by decide) rfl ?_
  refine r_aload_n (pc := 11) dX3_slopeOf_11 rfl ?_
  refine r_getR (pc := 12) (b := 4) dX3_slopeOf_12 fX3_9 rfl rfl ?_
  refine r_getR (pc := 15) (b := 7) dX3_slopeOf_15 fX3_65 rfl rfl ?_
  refine r_iload_n (pc := 18) dX3_slopeOf_18 rfl ?_
  refine r_ialdV (pc := 19) (j := i) (v := nI 0) dX3_slopeOf_19 rfl rfl (by omega) (by decide) (h7) ?_
  refine r_istore (pc := 20) (lo1 := [.ref 27, .ref 29, .int (nI i), .int (s), .int (nI a), .int (nI 0)]) dX3_slopeOf_20 rfl (by decide) rfl ?_
  refine r_aload_n (pc := 22) dX3_slopeOf_22 rfl ?_
  refine r_getR (pc := 23) (b := 4) dX3_slopeOf_23 fX3_9 rfl rfl ?_
  refine r_getR (pc := 26) (b := 5) dX3_slopeOf_26 fX3_68 rfl rfl ?_
  refine r_iload_n (pc := 29) dX3_slopeOf_29 rfl ?_
  refine r_ialdV (pc := 30) (j := i) (v := nI 6) dX3_slopeOf_30 rfl rfl (by omega) (by decide) (h5) ?_
  refine r_swIn (pc := 31) (off := 121) (tgt := 152) dX3_slopeOf_31 (by decide) (by decide) (by decide) (by decide) ?_
  refine r_iload (pc := 152) dX3_slopeOf_152 rfl ?_
  refine r_i2l (pc := 154) dX3_slopeOf_154 ?_
  refine r_aload_n (pc := 155) dX3_slopeOf_155 rfl ?_
  refine r_getR (pc := 156) (b := 28) dX3_slopeOf_156 fX3_19 rfl rfl ?_
  refine r_iload (pc := 159) dX3_slopeOf_159 rfl ?_
  refine r_callS (pc := 161) (N := mX3_at) (rest := [.long ((nI 0).toInt64)]) (s_at_28 X _ I L a (by omega)) okX3_at lkX3_45 rfl rfl (Nat.le_of_ble_eq_true rfl) ⟨Nat.le_refl _, Nat.le_refl _⟩ dX3_slopeOf_161 ?_
  refine r_iload (pc := 164) dX3_slopeOf_164 rfl ?_
  refine r_iconst (pc := 166) (v := nI 1) dX3_slopeOf_166 rfl ?_
  refine r_isub (pc := 167) dX3_slopeOf_167 ?_
  refine r_callS (pc := 168) (N := mX3_power) (rest := [.long ((nI 0).toInt64)]) (s_power_n X _ I L (L 28 a) ((nI 0) - (nI 1)) (by decide)) okX3_power lkX3_75 rfl rfl (Nat.le_of_ble_eq_true rfl) ⟨Nat.le_refl _, Nat.le_refl _⟩ dX3_slopeOf_168 ?_
  refine r_lmul (pc := 171) dX3_slopeOf_171 ?_
  refine r_aload_n (pc := 172) dX3_slopeOf_172 rfl ?_
  refine r_iload (pc := 173) dX3_slopeOf_173 rfl ?_
  refine r_callS (pc := 175) (N := mX3_at) (rest := [.long (((nI 0).toInt64) * 1)]) (s_at_29 X _ I L a (by omega)) okX3_at lkX3_45 rfl rfl (Nat.le_of_ble_eq_true rfl) ⟨Nat.le_refl _, Nat.le_refl _⟩ dX3_slopeOf_175 ?_
  refine r_lmul (pc := 178) dX3_slopeOf_178 ?_
  exact r_lret dX3_slopeOf_179 rfl (rfl) rfl
theorem sO29_61 (X : Ctx) (d : Nat) (I : MI) (L : ML) (i : Nat) (a m : Nat) (s : Int32) (ha : a < 80) (hm : m + 1 ≤ 4) (h5 : I 5 i = nI 6) (hi : i < 80) (h6 : I 6 i = nI a) (h7 : I 7 i = nI (m + 1)) : Sp X mX3_slopeOf (d + 2) (0, 0) [.ref 27, .ref 29, .int (nI i), .int (s)] shF I L (some (.long ((nI (m + 1)).toInt64 * pw (L 28 a) m * L 29 a)), shF, I, L) := by
  refine Sp.of okX3_slopeOf [.ref 27, .ref 29, .int (nI i), .int (s), .null, .null] 2 rfl (Nat.le_of_ble_eq_true rfl) ?_
  refine r_aload_n (pc := 0) dX3_slopeOf_0 rfl ?_
  refine r_getR (pc := 1) (b := 4) dX3_slopeOf_1 fX3_9 rfl rfl ?_
  refine r_getR (pc := 4) (b := 6) dX3_slopeOf_4 fX3_61 rfl rfl ?_
  refine r_iload_n (pc := 7) dX3_slopeOf_7 rfl ?_
  refine r_ialdV (pc := 8) (j := i) (v := nI a) dX3_slopeOf_8 rfl rfl (by omega) (by decide) (h6) ?_
  refine r_istore (pc := 9) (lo1 := [.ref 27, .ref 29, .int (nI i), .int (s), .int (nI a), .null]) dX3_slopeOf_9 rfl (by decide) rfl ?_
  refine r_aload_n (pc := 11) dX3_slopeOf_11 rfl ?_
  refine r_getR (pc := 12) (b := 4) dX3_slopeOf_12 fX3_9 rfl rfl ?_
  refine r_getR (pc := 15) (b := 7) dX3_slopeOf_15 fX3_65 rfl rfl ?_
  refine r_iload_n (pc := 18) dX3_slopeOf_18 rfl ?_
  refine r_ialdV (pc := 19) (j := i) (v := nI (m + 1)) dX3_slopeOf_19 rfl rfl (by omega) (by decide) (h7) ?_
  refine r_istore (pc := 20) (lo1 := [.ref 27, .ref 29, .int (nI i), .int (s), .int (nI a), .int (nI (m + 1))]) dX3_slopeOf_20 rfl (by decide) rfl ?_
  refine r_aload_n (pc := 22) dX3_slopeOf_22 rfl ?_
  refine r_getR (pc := 23) (b := 4) dX3_slopeOf_23 fX3_9 rfl rfl ?_
  refine r_getR (pc := 26) (b := 5) dX3_slopeOf_26 fX3_68 rfl rfl ?_
  refine r_iload_n (pc := 29) dX3_slopeOf_29 rfl ?_
  refine r_ialdV (pc := 30) (j := i) (v := nI 6) dX3_slopeOf_30 rfl rfl (by omega) (by decide) (h5) ?_
  refine r_swIn (pc := 31) (off := 121) (tgt := 152) dX3_slopeOf_31 (by decide) (by decide) (by decide) (by decide) ?_
  refine r_iload (pc := 152) dX3_slopeOf_152 rfl ?_
  refine r_i2l (pc := 154) dX3_slopeOf_154 ?_
  refine r_aload_n (pc := 155) dX3_slopeOf_155 rfl ?_
  refine r_getR (pc := 156) (b := 28) dX3_slopeOf_156 fX3_19 rfl rfl ?_
  refine r_iload (pc := 159) dX3_slopeOf_159 rfl ?_
  refine r_callS (pc := 161) (N := mX3_at) (rest := [.long ((nI (m + 1)).toInt64)]) (s_at_28 X _ I L a (by omega)) okX3_at lkX3_45 rfl rfl (Nat.le_of_ble_eq_true rfl) ⟨Nat.le_refl _, Nat.le_refl _⟩ dX3_slopeOf_161 ?_
  refine r_iload (pc := 164) dX3_slopeOf_164 rfl ?_
  refine r_iconst (pc := 166) (v := nI 1) dX3_slopeOf_166 rfl ?_
  refine r_isubN (pc := 167) dX3_slopeOf_167 (by omega) ?_
  refine r_callS (pc := 168) (N := mX3_power) (rest := [.long ((nI (m + 1)).toInt64)]) (s_power X _ I L (L 28 a) m (by omega)) okX3_power lkX3_75 rfl rfl (Nat.le_of_ble_eq_true rfl) ⟨Nat.le_refl _, Nat.le_refl _⟩ dX3_slopeOf_168 ?_
  refine r_lmul (pc := 171) dX3_slopeOf_171 ?_
  refine r_aload_n (pc := 172) dX3_slopeOf_172 rfl ?_
  refine r_iload (pc := 173) dX3_slopeOf_173 rfl ?_
  refine r_callS (pc := 175) (N := mX3_at) (rest := [.long (((nI (m + 1)).toInt64) * (pw (L 28 a) m))]) (s_at_29 X _ I L a (by omega)) okX3_at lkX3_45 rfl rfl (Nat.le_of_ble_eq_true rfl) ⟨Nat.le_refl _, Nat.le_refl _⟩ dX3_slopeOf_175 ?_
  refine r_lmul (pc := 178) dX3_slopeOf_178 ?_
  exact r_lret dX3_slopeOf_179 rfl (rfl) rfl
theorem sO29_7 (X : Ctx) (d : Nat) (I : MI) (L : ML) (i : Nat) (a : Nat) (s : Int32) (ha : a < 80) (h5 : I 5 i = nI 7) (hi : i < 80) (h6 : I 6 i = nI a) : Sp X mX3_slopeOf (d + 2) (0, 0) [.ref 27, .ref 29, .int (nI i), .int (s)] shF I L (some (.long (-(L 29 a))), shF, I, L) := by
  refine Sp.of okX3_slopeOf [.ref 27, .ref 29, .int (nI i), .int (s), .null, .null] 2 rfl (Nat.le_of_ble_eq_true rfl) ?_
  refine r_aload_n (pc := 0) dX3_slopeOf_0 rfl ?_
  refine r_getR (pc := 1) (b := 4) dX3_slopeOf_1 fX3_9 rfl rfl ?_
  refine r_getR (pc := 4) (b := 6) dX3_slopeOf_4 fX3_61 rfl rfl ?_
  refine r_iload_n (pc := 7) dX3_slopeOf_7 rfl ?_
  refine r_ialdV (pc := 8) (j := i) (v := nI a) dX3_slopeOf_8 rfl rfl (by omega) (by decide) (h6) ?_
  refine r_istore (pc := 9) (lo1 := [.ref 27, .ref 29, .int (nI i), .int (s), .int (nI a), .null]) dX3_slopeOf_9 rfl (by decide) rfl ?_
  refine r_aload_n (pc := 11) dX3_slopeOf_11 rfl ?_
  refine r_getR (pc := 12) (b := 4) dX3_slopeOf_12 fX3_9 rfl rfl ?_
  refine r_getR (pc := 15) (b := 7) dX3_slopeOf_15 fX3_65 rfl rfl ?_
  refine r_iload_n (pc := 18) dX3_slopeOf_18 rfl ?_
  refine r_iald (pc := 19) (j := i) dX3_slopeOf_19 rfl rfl (by omega) (by decide) ?_
  refine r_istore (pc := 20) (lo1 := [.ref 27, .ref 29, .int (nI i), .int (s), .int (nI a), .int (I 7 i)]) dX3_slopeOf_20 rfl (by decide) rfl ?_
  refine r_aload_n (pc := 22) dX3_slopeOf_22 rfl ?_
  refine r_getR (pc := 23) (b := 4) dX3_slopeOf_23 fX3_9 rfl rfl ?_
  refine r_getR (pc := 26) (b := 5) dX3_slopeOf_26 fX3_68 rfl rfl ?_
  refine r_iload_n (pc := 29) dX3_slopeOf_29 rfl ?_
  refine r_ialdV (pc := 30) (j := i) (v := nI 7) dX3_slopeOf_30 rfl rfl (by omega) (by decide) (h5) ?_
  refine r_swIn (pc := 31) (off := 149) (tgt := 180) dX3_slopeOf_31 (by decide) (by decide) (by decide) (by decide) ?_
  refine r_aload_n (pc := 180) dX3_slopeOf_180 rfl ?_
  refine r_iload (pc := 181) dX3_slopeOf_181 rfl ?_
  refine r_callS (pc := 183) (N := mX3_at) (rest := []) (s_at_29 X _ I L a (by omega)) okX3_at lkX3_45 rfl rfl (Nat.le_of_ble_eq_true rfl) ⟨Nat.le_refl _, Nat.le_refl _⟩ dX3_slopeOf_183 ?_
  refine r_lneg (pc := 186) dX3_slopeOf_186 ?_
  exact r_lret dX3_slopeOf_187 rfl (rfl) rfl
theorem s_slopeOf_29 (X : Ctx) (d : Nat) (I : MI) (L : ML) (i : Nat) (s : Int32) (hi : i < 80) (hN : NW I i) : Sp X mX3_slopeOf (d + 2) (0, 0) [.ref 27, .ref 29, .int (nI i), .int (s)] shF I L (some (.long (sO I s (L 28) (L 29) i)), shF, I, L) := by
  obtain ⟨k, hk, h5, h1, h2, h3, h4⟩ := hN
  rcases (by omega : k = 0 ∨ k = 1 ∨ k = 2 ∨ k = 3 ∨ k = 4 ∨ k = 5 ∨ k = 6 ∨ k = 7) with rfl | rfl | rfl | rfl | rfl | rfl | rfl | rfl
  · have := sO29_0 X d I L i s (I 6 i) h5 hi rfl
    unfold sO; rw [if_pos h5]
    exact this
  · obtain ⟨j, hj, h6⟩ := h1 rfl
    have := sO29_1 X d I L i j s hj h5 hi h6
    unfold sO; rw [if_neg (kne h5 (b := 0) (by decide) (by decide) (by decide)), if_pos h5, h6]
    exact this
  · obtain ⟨a, ha, h6⟩ := h2 (by decide)
    have := sO29_2 X d I L i a s (by omega) h5 hi h6
    unfold sO; rw [if_neg (kne h5 (b := 0) (by decide) (by decide) (by decide)), if_neg (kne h5 (b := 1) (by decide) (by decide) (by decide)), if_neg (kne h5 (b := 3) (by decide) (by decide) (by decide)), if_neg (kne h5 (b := 4) (by decide) (by decide) (by decide)), if_neg (kne h5 (b := 5) (by decide) (by decide) (by decide)), if_neg (kne h5 (b := 6) (by decide) (by decide) (by decide)), if_neg (kne h5 (b := 7) (by decide) (by decide) (by decide)), h6, nI_clamp (by omega)]
    exact this
  · obtain ⟨a, ha, h6⟩ := h2 (by decide)
    obtain ⟨b, hb, h7⟩ := h3 (by decide) (by decide)
    have := sO29_3 X d I L i a b s (by omega) (by omega) h5 hi h6 h7
    unfold sO; rw [if_neg (kne h5 (b := 0) (by decide) (by decide) (by decide)), if_neg (kne h5 (b := 1) (by decide) (by decide) (by decide)), if_pos h5, h6, h7, nI_clamp (by omega), nI_clamp (by omega)]
    exact this
  · obtain ⟨a, ha, h6⟩ := h2 (by decide)
    obtain ⟨b, hb, h7⟩ := h3 (by decide) (by decide)
    have := sO29_4 X d I L i a b s (by omega) (by omega) h5 hi h6 h7
    unfold sO; rw [if_neg (kne h5 (b := 0) (by decide) (by decide) (by decide)), if_neg (kne h5 (b := 1) (by decide) (by decide) (by decide)), if_neg (kne h5 (b := 3) (by decide) (by decide) (by decide)), if_pos h5, h6, h7, nI_clamp (by omega), nI_clamp (by omega)]
    exact this
  · obtain ⟨a, ha, h6⟩ := h2 (by decide)
    obtain ⟨b, hb, h7⟩ := h3 (by decide) (by decide)
    have := sO29_5 X d I L i a b s (by omega) (by omega) h5 hi h6 h7
    unfold sO; rw [if_neg (kne h5 (b := 0) (by decide) (by decide) (by decide)), if_neg (kne h5 (b := 1) (by decide) (by decide) (by decide)), if_neg (kne h5 (b := 3) (by decide) (by decide) (by decide)), if_neg (kne h5 (b := 4) (by decide) (by decide) (by decide)), if_pos h5, h6, h7, nI_clamp (by omega), nI_clamp (by omega)]
    exact this
  · obtain ⟨a, ha, h6⟩ := h2 (by decide)
    obtain ⟨m, hm, h7⟩ := h4 rfl
    cases m with
    | zero =>
      have := sO29_60 X d I L i a s (by omega) h5 hi h6 h7
      unfold sO; rw [if_neg (kne h5 (b := 0) (by decide) (by decide) (by decide)), if_neg (kne h5 (b := 1) (by decide) (by decide) (by decide)), if_neg (kne h5 (b := 3) (by decide) (by decide) (by decide)), if_neg (kne h5 (b := 4) (by decide) (by decide) (by decide)), if_neg (kne h5 (b := 5) (by decide) (by decide) (by decide)), if_pos h5, h6, h7, nI_clamp (by omega), nI_clamp (by omega)]
      exact this
    | succ m =>
      have := sO29_61 X d I L i a m s (by omega) hm h5 hi h6 h7
      unfold sO; rw [if_neg (kne h5 (b := 0) (by decide) (by decide) (by decide)), if_neg (kne h5 (b := 1) (by decide) (by decide) (by decide)), if_neg (kne h5 (b := 3) (by decide) (by decide) (by decide)), if_neg (kne h5 (b := 4) (by decide) (by decide) (by decide)), if_neg (kne h5 (b := 5) (by decide) (by decide) (by decide)), if_pos h5, h6, h7, nI_clamp (by omega), nI_clamp (by omega)]
      exact this
  · obtain ⟨a, ha, h6⟩ := h2 (by decide)
    have := sO29_7 X d I L i a s (by omega) h5 hi h6
    unfold sO; rw [if_neg (kne h5 (b := 0) (by decide) (by decide) (by decide)), if_neg (kne h5 (b := 1) (by decide) (by decide) (by decide)), if_neg (kne h5 (b := 3) (by decide) (by decide) (by decide)), if_neg (kne h5 (b := 4) (by decide) (by decide) (by decide)), if_neg (kne h5 (b := 5) (by decide) (by decide) (by decide)), if_neg (kne h5 (b := 6) (by decide) (by decide) (by decide)), if_pos h5, h6, nI_clamp (by omega)]
    exact this
theorem sO30_0 (X : Ctx) (d : Nat) (I : MI) (L : ML) (i : Nat) (s v : Int32) (h5 : I 5 i = nI 0) (hi : i < 80) (h6 : I 6 i = v) : Sp X mX3_slopeOf (d + 2) (0, 0) [.ref 27, .ref 30, .int (nI i), .int (s)] shF I L (some (.long (0)), shF, I, L) := by
  refine Sp.of okX3_slopeOf [.ref 27, .ref 30, .int (nI i), .int (s), .null, .null] 2 rfl (Nat.le_of_ble_eq_true rfl) ?_
  refine r_aload_n (pc := 0) dX3_slopeOf_0 rfl ?_
  refine r_getR (pc := 1) (b := 4) dX3_slopeOf_1 fX3_9 rfl rfl ?_
  refine r_getR (pc := 4) (b := 6) dX3_slopeOf_4 fX3_61 rfl rfl ?_
  refine r_iload_n (pc := 7) dX3_slopeOf_7 rfl ?_
  refine r_ialdV (pc := 8) (j := i) (v := v) dX3_slopeOf_8 rfl rfl (by omega) (by decide) (h6) ?_
  refine r_istore (pc := 9) (lo1 := [.ref 27, .ref 30, .int (nI i), .int (s), .int (v), .null]) dX3_slopeOf_9 rfl (by decide) rfl ?_
  refine r_aload_n (pc := 11) dX3_slopeOf_11 rfl ?_
  refine r_getR (pc := 12) (b := 4) dX3_slopeOf_12 fX3_9 rfl rfl ?_
  refine r_getR (pc := 15) (b := 7) dX3_slopeOf_15 fX3_65 rfl rfl ?_
  refine r_iload_n (pc := 18) dX3_slopeOf_18 rfl ?_
  refine r_iald (pc := 19) (j := i) dX3_slopeOf_19 rfl rfl (by omega) (by decide) ?_
  refine r_istore (pc := 20) (lo1 := [.ref 27, .ref 30, .int (nI i), .int (s), .int (v), .int (I 7 i)]) dX3_slopeOf_20 rfl (by decide) rfl ?_
  refine r_aload_n (pc := 22) dX3_slopeOf_22 rfl ?_
  refine r_getR (pc := 23) (b := 4) dX3_slopeOf_23 fX3_9 rfl rfl ?_
  refine r_getR (pc := 26) (b := 5) dX3_slopeOf_26 fX3_68 rfl rfl ?_
  refine r_iload_n (pc := 29) dX3_slopeOf_29 rfl ?_
  refine r_ialdV (pc := 30) (j := i) (v := nI 0) dX3_slopeOf_30 rfl rfl (by omega) (by decide) (h5) ?_
  refine r_swIn (pc := 31) (off := 45) (tgt := 76) dX3_slopeOf_31 (by decide) (by decide) (by decide) (by decide) ?_
  refine r_lconst (pc := 76) (v := 0) dX3_slopeOf_76 rfl ?_
  exact r_lret dX3_slopeOf_77 rfl (rfl) rfl
theorem sO30_1 (X : Ctx) (d : Nat) (I : MI) (L : ML) (i : Nat) (a : Nat) (s : Int32) (ha : a < 6) (h5 : I 5 i = nI 1) (hi : i < 80) (h6 : I 6 i = nI a) : Sp X mX3_slopeOf (d + 2) (0, 0) [.ref 27, .ref 30, .int (nI i), .int (s)] shF I L (some (.long ((if nI a = s then 1 else 0))), shF, I, L) := by
  refine Sp.of okX3_slopeOf [.ref 27, .ref 30, .int (nI i), .int (s), .null, .null] 2 rfl (Nat.le_of_ble_eq_true rfl) ?_
  refine r_aload_n (pc := 0) dX3_slopeOf_0 rfl ?_
  refine r_getR (pc := 1) (b := 4) dX3_slopeOf_1 fX3_9 rfl rfl ?_
  refine r_getR (pc := 4) (b := 6) dX3_slopeOf_4 fX3_61 rfl rfl ?_
  refine r_iload_n (pc := 7) dX3_slopeOf_7 rfl ?_
  refine r_ialdV (pc := 8) (j := i) (v := nI a) dX3_slopeOf_8 rfl rfl (by omega) (by decide) (h6) ?_
  refine r_istore (pc := 9) (lo1 := [.ref 27, .ref 30, .int (nI i), .int (s), .int (nI a), .null]) dX3_slopeOf_9 rfl (by decide) rfl ?_
  refine r_aload_n (pc := 11) dX3_slopeOf_11 rfl ?_
  refine r_getR (pc := 12) (b := 4) dX3_slopeOf_12 fX3_9 rfl rfl ?_
  refine r_getR (pc := 15) (b := 7) dX3_slopeOf_15 fX3_65 rfl rfl ?_
  refine r_iload_n (pc := 18) dX3_slopeOf_18 rfl ?_
  refine r_iald (pc := 19) (j := i) dX3_slopeOf_19 rfl rfl (by omega) (by decide) ?_
  refine r_istore (pc := 20) (lo1 := [.ref 27, .ref 30, .int (nI i), .int (s), .int (nI a), .int (I 7 i)]) dX3_slopeOf_20 rfl (by decide) rfl ?_
  refine r_aload_n (pc := 22) dX3_slopeOf_22 rfl ?_
  refine r_getR (pc := 23) (b := 4) dX3_slopeOf_23 fX3_9 rfl rfl ?_
  refine r_getR (pc := 26) (b := 5) dX3_slopeOf_26 fX3_68 rfl rfl ?_
  refine r_iload_n (pc := 29) dX3_slopeOf_29 rfl ?_
  refine r_ialdV (pc := 30) (j := i) (v := nI 1) dX3_slopeOf_30 rfl rfl (by omega) (by decide) (h5) ?_
  refine r_swIn (pc := 31) (off := 47) (tgt := 78) dX3_slopeOf_31 (by decide) (by decide) (by decide) (by decide) ?_
  refine r_iload (pc := 78) dX3_slopeOf_78 rfl ?_
  refine r_iload_n (pc := 80) dX3_slopeOf_80 rfl ?_
  refine r_icmp_ne (pc := 81) (tgt := 88) dX3_slopeOf_81 (by decide) (fun c1 => ?_) (fun c1 => ?_)
  · refine r_lconst (pc := 88) (v := 0) dX3_slopeOf_88 rfl ?_
    exact r_lret dX3_slopeOf_89 rfl (by rw [if_neg c1]) rfl
  · refine r_lconst (pc := 84) (v := 1) dX3_slopeOf_84 rfl ?_
    refine r_goto (pc := 85) (tgt := 89) dX3_slopeOf_85 (by decide) ?_
    exact r_lret dX3_slopeOf_89 rfl (by rw [if_pos c1]) rfl
theorem sO30_2 (X : Ctx) (d : Nat) (I : MI) (L : ML) (i : Nat) (a : Nat) (s : Int32) (ha : a < 80) (h5 : I 5 i = nI 2) (hi : i < 80) (h6 : I 6 i = nI a) : Sp X mX3_slopeOf (d + 2) (0, 0) [.ref 27, .ref 30, .int (nI i), .int (s)] shF I L (some (.long (L 30 a)), shF, I, L) := by
  refine Sp.of okX3_slopeOf [.ref 27, .ref 30, .int (nI i), .int (s), .null, .null] 2 rfl (Nat.le_of_ble_eq_true rfl) ?_
  refine r_aload_n (pc := 0) dX3_slopeOf_0 rfl ?_
  refine r_getR (pc := 1) (b := 4) dX3_slopeOf_1 fX3_9 rfl rfl ?_
  refine r_getR (pc := 4) (b := 6) dX3_slopeOf_4 fX3_61 rfl rfl ?_
  refine r_iload_n (pc := 7) dX3_slopeOf_7 rfl ?_
  refine r_ialdV (pc := 8) (j := i) (v := nI a) dX3_slopeOf_8 rfl rfl (by omega) (by decide) (h6) ?_
  refine r_istore (pc := 9) (lo1 := [.ref 27, .ref 30, .int (nI i), .int (s), .int (nI a), .null]) dX3_slopeOf_9 rfl (by decide) rfl ?_
  refine r_aload_n (pc := 11) dX3_slopeOf_11 rfl ?_
  refine r_getR (pc := 12) (b := 4) dX3_slopeOf_12 fX3_9 rfl rfl ?_
  refine r_getR (pc := 15) (b := 7) dX3_slopeOf_15 fX3_65 rfl rfl ?_
  refine r_iload_n (pc := 18) dX3_slopeOf_18 rfl ?_
  refine r_iald (pc := 19) (j := i) dX3_slopeOf_19 rfl rfl (by omega) (by decide) ?_
  refine r_istore (pc := 20) (lo1 := [.ref 27, .ref 30, .int (nI i), .int (s), .int (nI a), .int (I 7 i)]) dX3_slopeOf_20 rfl (by decide) rfl ?_
  refine r_aload_n (pc := 22) dX3_slopeOf_22 rfl ?_
  refine r_getR (pc := 23) (b := 4) dX3_slopeOf_23 fX3_9 rfl rfl ?_
  refine r_getR (pc := 26) (b := 5) dX3_slopeOf_26 fX3_68 rfl rfl ?_
  refine r_iload_n (pc := 29) dX3_slopeOf_29 rfl ?_
  refine r_ialdV (pc := 30) (j := i) (v := nI 2) dX3_slopeOf_30 rfl rfl (by omega) (by decide) (h5) ?_
  refine r_swIn (pc := 31) (off := 157) (tgt := 188) dX3_slopeOf_31 (by decide) (by decide) (by decide) (by decide) ?_
  refine r_aload_n (pc := 188) dX3_slopeOf_188 rfl ?_
  refine r_iload (pc := 189) dX3_slopeOf_189 rfl ?_
  refine r_callS (pc := 191) (N := mX3_at) (rest := []) (s_at_30 X _ I L a (by omega)) okX3_at lkX3_45 rfl rfl (Nat.le_of_ble_eq_true rfl) ⟨Nat.le_refl _, Nat.le_refl _⟩ dX3_slopeOf_191 ?_
  exact r_lret dX3_slopeOf_194 rfl (rfl) rfl
theorem sO30_3 (X : Ctx) (d : Nat) (I : MI) (L : ML) (i : Nat) (a b : Nat) (s : Int32) (ha : a < 80) (hb : b < 80) (h5 : I 5 i = nI 3) (hi : i < 80) (h6 : I 6 i = nI a) (h7 : I 7 i = nI b) : Sp X mX3_slopeOf (d + 2) (0, 0) [.ref 27, .ref 30, .int (nI i), .int (s)] shF I L (some (.long (L 30 a + L 30 b)), shF, I, L) := by
  refine Sp.of okX3_slopeOf [.ref 27, .ref 30, .int (nI i), .int (s), .null, .null] 2 rfl (Nat.le_of_ble_eq_true rfl) ?_
  refine r_aload_n (pc := 0) dX3_slopeOf_0 rfl ?_
  refine r_getR (pc := 1) (b := 4) dX3_slopeOf_1 fX3_9 rfl rfl ?_
  refine r_getR (pc := 4) (b := 6) dX3_slopeOf_4 fX3_61 rfl rfl ?_
  refine r_iload_n (pc := 7) dX3_slopeOf_7 rfl ?_
  refine r_ialdV (pc := 8) (j := i) (v := nI a) dX3_slopeOf_8 rfl rfl (by omega) (by decide) (h6) ?_
  refine r_istore (pc := 9) (lo1 := [.ref 27, .ref 30, .int (nI i), .int (s), .int (nI a), .null]) dX3_slopeOf_9 rfl (by decide) rfl ?_
  refine r_aload_n (pc := 11) dX3_slopeOf_11 rfl ?_
  refine r_getR (pc := 12) (b := 4) dX3_slopeOf_12 fX3_9 rfl rfl ?_
  refine r_getR (pc := 15) (b := 7) dX3_slopeOf_15 fX3_65 rfl rfl ?_
  refine r_iload_n (pc := 18) dX3_slopeOf_18 rfl ?_
  refine r_ialdV (pc := 19) (j := i) (v := nI b) dX3_slopeOf_19 rfl rfl (by omega) (by decide) (h7) ?_
  refine r_istore (pc := 20) (lo1 := [.ref 27, .ref 30, .int (nI i), .int (s), .int (nI a), .int (nI b)]) dX3_slopeOf_20 rfl (by decide) rfl ?_
  refine r_aload_n (pc := 22) dX3_slopeOf_22 rfl ?_
  refine r_getR (pc := 23) (b := 4) dX3_slopeOf_23 fX3_9 rfl rfl ?_
  refine r_getR (pc := 26) (b := 5) dX3_slopeOf_26 fX3_68 rfl rfl ?_
  refine r_iload_n (pc := 29) dX3_slopeOf_29 rfl ?_
  refine r_ialdV (pc := 30) (j := i) (v := nI 3) dX3_slopeOf_30 rfl rfl (by omega) (by decide) (h5) ?_
  refine r_swIn (pc := 31) (off := 59) (tgt := 90) dX3_slopeOf_31 (by decide) (by decide) (by decide) (by decide) ?_
  refine r_aload_n (pc := 90) dX3_slopeOf_90 rfl ?_
  refine r_iload (pc := 91) dX3_slopeOf_91 rfl ?_
  refine r_callS (pc := 93) (N := mX3_at) (rest := []) (s_at_30 X _ I L a (by omega)) okX3_at lkX3_45 rfl rfl (Nat.le_of_ble_eq_true rfl) ⟨Nat.le_refl _, Nat.le_refl _⟩ dX3_slopeOf_93 ?_
  refine r_aload_n (pc := 96) dX3_slopeOf_96 rfl ?_
  refine r_iload (pc := 97) dX3_slopeOf_97 rfl ?_
  refine r_callS (pc := 99) (N := mX3_at) (rest := [.long (L 30 a)]) (s_at_30 X _ I L b (by omega)) okX3_at lkX3_45 rfl rfl (Nat.le_of_ble_eq_true rfl) ⟨Nat.le_refl _, Nat.le_refl _⟩ dX3_slopeOf_99 ?_
  refine r_ladd (pc := 102) dX3_slopeOf_102 ?_
  exact r_lret dX3_slopeOf_103 rfl (rfl) rfl
theorem sO30_4 (X : Ctx) (d : Nat) (I : MI) (L : ML) (i : Nat) (a b : Nat) (s : Int32) (ha : a < 80) (hb : b < 80) (h5 : I 5 i = nI 4) (hi : i < 80) (h6 : I 6 i = nI a) (h7 : I 7 i = nI b) : Sp X mX3_slopeOf (d + 2) (0, 0) [.ref 27, .ref 30, .int (nI i), .int (s)] shF I L (some (.long (L 30 a - L 30 b)), shF, I, L) := by
  refine Sp.of okX3_slopeOf [.ref 27, .ref 30, .int (nI i), .int (s), .null, .null] 2 rfl (Nat.le_of_ble_eq_true rfl) ?_
  refine r_aload_n (pc := 0) dX3_slopeOf_0 rfl ?_
  refine r_getR (pc := 1) (b := 4) dX3_slopeOf_1 fX3_9 rfl rfl ?_
  refine r_getR (pc := 4) (b := 6) dX3_slopeOf_4 fX3_61 rfl rfl ?_
  refine r_iload_n (pc := 7) dX3_slopeOf_7 rfl ?_
  refine r_ialdV (pc := 8) (j := i) (v := nI a) dX3_slopeOf_8 rfl rfl (by omega) (by decide) (h6) ?_
  refine r_istore (pc := 9) (lo1 := [.ref 27, .ref 30, .int (nI i), .int (s), .int (nI a), .null]) dX3_slopeOf_9 rfl (by decide) rfl ?_
  refine r_aload_n (pc := 11) dX3_slopeOf_11 rfl ?_
  refine r_getR (pc := 12) (b := 4) dX3_slopeOf_12 fX3_9 rfl rfl ?_
  refine r_getR (pc := 15) (b := 7) dX3_slopeOf_15 fX3_65 rfl rfl ?_
  refine r_iload_n (pc := 18) dX3_slopeOf_18 rfl ?_
  refine r_ialdV (pc := 19) (j := i) (v := nI b) dX3_slopeOf_19 rfl rfl (by omega) (by decide) (h7) ?_
  refine r_istore (pc := 20) (lo1 := [.ref 27, .ref 30, .int (nI i), .int (s), .int (nI a), .int (nI b)]) dX3_slopeOf_20 rfl (by decide) rfl ?_
  refine r_aload_n (pc := 22) dX3_slopeOf_22 rfl ?_
  refine r_getR (pc := 23) (b := 4) dX3_slopeOf_23 fX3_9 rfl rfl ?_
  refine r_getR (pc := 26) (b := 5) dX3_slopeOf_26 fX3_68 rfl rfl ?_
  refine r_iload_n (pc := 29) dX3_slopeOf_29 rfl ?_
  refine r_ialdV (pc := 30) (j := i) (v := nI 4) dX3_slopeOf_30 rfl rfl (by omega) (by decide) (h5) ?_
  refine r_swIn (pc := 31) (off := 73) (tgt := 104) dX3_slopeOf_31 (by decide) (by decide) (by decide) (by decide) ?_
  refine r_aload_n (pc := 104) dX3_slopeOf_104 rfl ?_
  refine r_iload (pc := 105) dX3_slopeOf_105 rfl ?_
  refine r_callS (pc := 107) (N := mX3_at) (rest := []) (s_at_30 X _ I L a (by omega)) okX3_at lkX3_45 rfl rfl (Nat.le_of_ble_eq_true rfl) ⟨Nat.le_refl _, Nat.le_refl _⟩ dX3_slopeOf_107 ?_
  refine r_aload_n (pc := 110) dX3_slopeOf_110 rfl ?_
  refine r_iload (pc := 111) dX3_slopeOf_111 rfl ?_
  refine r_callS (pc := 113) (N := mX3_at) (rest := [.long (L 30 a)]) (s_at_30 X _ I L b (by omega)) okX3_at lkX3_45 rfl rfl (Nat.le_of_ble_eq_true rfl) ⟨Nat.le_refl _, Nat.le_refl _⟩ dX3_slopeOf_113 ?_
  refine r_lsub (pc := 116) dX3_slopeOf_116 ?_
  exact r_lret dX3_slopeOf_117 rfl (rfl) rfl
theorem sO30_5 (X : Ctx) (d : Nat) (I : MI) (L : ML) (i : Nat) (a b : Nat) (s : Int32) (ha : a < 80) (hb : b < 80) (h5 : I 5 i = nI 5) (hi : i < 80) (h6 : I 6 i = nI a) (h7 : I 7 i = nI b) : Sp X mX3_slopeOf (d + 2) (0, 0) [.ref 27, .ref 30, .int (nI i), .int (s)] shF I L (some (.long (L 30 a * L 28 b + L 28 a * L 30 b)), shF, I, L) := by
  refine Sp.of okX3_slopeOf [.ref 27, .ref 30, .int (nI i), .int (s), .null, .null] 2 rfl (Nat.le_of_ble_eq_true rfl) ?_
  refine r_aload_n (pc := 0) dX3_slopeOf_0 rfl ?_
  refine r_getR (pc := 1) (b := 4) dX3_slopeOf_1 fX3_9 rfl rfl ?_
  refine r_getR (pc := 4) (b := 6) dX3_slopeOf_4 fX3_61 rfl rfl ?_
  refine r_iload_n (pc := 7) dX3_slopeOf_7 rfl ?_
  refine r_ialdV (pc := 8) (j := i) (v := nI a) dX3_slopeOf_8 rfl rfl (by omega) (by decide) (h6) ?_
  refine r_istore (pc := 9) (lo1 := [.ref 27, .ref 30, .int (nI i), .int (s), .int (nI a), .null]) dX3_slopeOf_9 rfl (by decide) rfl ?_
  refine r_aload_n (pc := 11) dX3_slopeOf_11 rfl ?_
  refine r_getR (pc := 12) (b := 4) dX3_slopeOf_12 fX3_9 rfl rfl ?_
  refine r_getR (pc := 15) (b := 7) dX3_slopeOf_15 fX3_65 rfl rfl ?_
  refine r_iload_n (pc := 18) dX3_slopeOf_18 rfl ?_
  refine r_ialdV (pc := 19) (j := i) (v := nI b) dX3_slopeOf_19 rfl rfl (by omega) (by decide) (h7) ?_
  refine r_istore (pc := 20) (lo1 := [.ref 27, .ref 30, .int (nI i), .int (s), .int (nI a), .int (nI b)]) dX3_slopeOf_20 rfl (by decide) rfl ?_
  refine r_aload_n (pc := 22) dX3_slopeOf_22 rfl ?_
  refine r_getR (pc := 23) (b := 4) dX3_slopeOf_23 fX3_9 rfl rfl ?_
  refine r_getR (pc := 26) (b := 5) dX3_slopeOf_26 fX3_68 rfl rfl ?_
  refine r_iload_n (pc := 29) dX3_slopeOf_29 rfl ?_
  refine r_ialdV (pc := 30) (j := i) (v := nI 5) dX3_slopeOf_30 rfl rfl (by omega) (by decide) (h5) ?_
  refine r_swIn (pc := 31) (off := 87) (tgt := 118) dX3_slopeOf_31 (by decide) (by decide) (by decide) (by decide) ?_
  refine r_aload_n (pc := 118) dX3_slopeOf_118 rfl ?_
  refine r_iload (pc := 119) dX3_slopeOf_119 rfl ?_
  refine r_callS (pc := 121) (N := mX3_at) (rest := []) (s_at_30 X _ I L a (by omega)) okX3_at lkX3_45 rfl rfl (Nat.le_of_ble_eq_true rfl) ⟨Nat.le_refl _, Nat.le_refl _⟩ dX3_slopeOf_121 ?_
  refine r_aload_n (pc := 124) dX3_slopeOf_124 rfl ?_
  refine r_getR (pc := 125) (b := 28) dX3_slopeOf_125 fX3_19 rfl rfl ?_
  refine r_iload (pc := 128) dX3_slopeOf_128 rfl ?_
  refine r_callS (pc := 130) (N := mX3_at) (rest := [.long (L 30 a)]) (s_at_28 X _ I L b (by omega)) okX3_at lkX3_45 rfl rfl (Nat.le_of_ble_eq_true rfl) ⟨Nat.le_refl _, Nat.le_refl _⟩ dX3_slopeOf_130 ?_
  refine r_lmul (pc := 133) dX3_slopeOf_133 ?_
  refine r_aload_n (pc := 134) dX3_slopeOf_134 rfl ?_
  refine r_getR (pc := 135) (b := 28) dX3_slopeOf_135 fX3_19 rfl rfl ?_
  refine r_iload (pc := 138) dX3_slopeOf_138 rfl ?_
  refine r_callS (pc := 140) (N := mX3_at) (rest := [.long ((L 30 a) * (L 28 b))]) (s_at_28 X _ I L a (by omega)) okX3_at lkX3_45 rfl rfl (Nat.le_of_ble_eq_true rfl) ⟨Nat.le_refl _, Nat.le_refl _⟩ dX3_slopeOf_140 ?_
  refine r_aload_n (pc := 143) dX3_slopeOf_143 rfl ?_
  refine r_iload (pc := 144) dX3_slopeOf_144 rfl ?_
  refine r_callS (pc := 146) (N := mX3_at) (rest := [.long (L 28 a), .long ((L 30 a) * (L 28 b))]) (s_at_30 X _ I L b (by omega)) okX3_at lkX3_45 rfl rfl (Nat.le_of_ble_eq_true rfl) ⟨Nat.le_refl _, Nat.le_refl _⟩ dX3_slopeOf_146 ?_
  refine r_lmul (pc := 149) dX3_slopeOf_149 ?_
  refine r_ladd (pc := 150) dX3_slopeOf_150 ?_
  exact r_lret dX3_slopeOf_151 rfl (rfl) rfl
theorem sO30_60 (X : Ctx) (d : Nat) (I : MI) (L : ML) (i a : Nat) (s : Int32) (ha : a < 80) (h5 : I 5 i = nI 6) (hi : i < 80) (h6 : I 6 i = nI a) (h7 : I 7 i = nI 0) : Sp X mX3_slopeOf (d + 2) (0, 0) [.ref 27, .ref 30, .int (nI i), .int (s)] shF I L (some (.long ((nI 0).toInt64 * 1 * L 30 a)), shF, I, L) := by
  refine Sp.of okX3_slopeOf [.ref 27, .ref 30, .int (nI i), .int (s), .null, .null] 2 rfl (Nat.le_of_ble_eq_true rfl) ?_
  refine r_aload_n (pc := 0) dX3_slopeOf_0 rfl ?_
  refine r_getR (pc := 1) (b := 4) dX3_slopeOf_1 fX3_9 rfl rfl ?_
  refine r_getR (pc := 4) (b := 6) dX3_slopeOf_4 fX3_61 rfl rfl ?_
  refine r_iload_n (pc := 7) dX3_slopeOf_7 rfl ?_
  refine r_ialdV (pc := 8) (j := i) (v := nI a) dX3_slopeOf_8 rfl rfl (by omega) (by decide) (h6) ?_
  refine r_istore (pc := 9) (lo1 := [.ref 27, .ref 30, .int (nI i), .int (s), .int (nI a), .null]) dX3_slopeOf_9 rfl (by decide) rfl ?_
  refine r_aload_n (pc := 11) dX3_slopeOf_11 rfl ?_
  refine r_getR (pc := 12) (b := 4) dX3_slopeOf_12 fX3_9 rfl rfl ?_
  refine r_getR (pc := 15) (b := 7) dX3_slopeOf_15 fX3_65 rfl rfl ?_
  refine r_iload_n (pc := 18) dX3_slopeOf_18 rfl ?_
  refine r_ialdV (pc := 19) (j := i) (v := nI 0) dX3_slopeOf_19 rfl rfl (by omega) (by decide) (h7) ?_
  refine r_istore (pc := 20) (lo1 := [.ref 27, .ref 30, .int (nI i), .int (s), .int (nI a), .int (nI 0)]) dX3_slopeOf_20 rfl (by decide) rfl ?_
  refine r_aload_n (pc := 22) dX3_slopeOf_22 rfl ?_
  refine r_getR (pc := 23) (b := 4) dX3_slopeOf_23 fX3_9 rfl rfl ?_
  refine r_getR (pc := 26) (b := 5) dX3_slopeOf_26 fX3_68 rfl rfl ?_
  refine r_iload_n (pc := 29) dX3_slopeOf_29 rfl ?_
  refine r_ialdV (pc := 30) (j := i) (v := nI 6) dX3_slopeOf_30 rfl rfl (by omega) (by decide) (h5) ?_
  refine r_swIn (pc := 31) (off := 121) (tgt := 152) dX3_slopeOf_31 (by decide) (by decide) (by decide) (by decide) ?_
  refine r_iload (pc := 152) dX3_slopeOf_152 rfl ?_
  refine r_i2l (pc := 154) dX3_slopeOf_154 ?_
  refine r_aload_n (pc := 155) dX3_slopeOf_155 rfl ?_
  refine r_getR (pc := 156) (b := 28) dX3_slopeOf_156 fX3_19 rfl rfl ?_
  refine r_iload (pc := 159) dX3_slopeOf_159 rfl ?_
  refine r_callS (pc := 161) (N := mX3_at) (rest := [.long ((nI 0).toInt64)]) (s_at_28 X _ I L a (by omega)) okX3_at lkX3_45 rfl rfl (Nat.le_of_ble_eq_true rfl) ⟨Nat.le_refl _, Nat.le_refl _⟩ dX3_slopeOf_161 ?_
  refine r_iload (pc := 164) dX3_slopeOf_164 rfl ?_
  refine r_iconst (pc := 166) (v := nI 1) dX3_slopeOf_166 rfl ?_
  refine r_isub (pc := 167) dX3_slopeOf_167 ?_
  refine r_callS (pc := 168) (N := mX3_power) (rest := [.long ((nI 0).toInt64)]) (s_power_n X _ I L (L 28 a) ((nI 0) - (nI 1)) (by decide)) okX3_power lkX3_75 rfl rfl (Nat.le_of_ble_eq_true rfl) ⟨Nat.le_refl _, Nat.le_refl _⟩ dX3_slopeOf_168 ?_
  refine r_lmul (pc := 171) dX3_slopeOf_171 ?_
  refine r_aload_n (pc := 172) dX3_slopeOf_172 rfl ?_
  refine r_iload (pc := 173) dX3_slopeOf_173 rfl ?_
  refine r_callS (pc := 175) (N := mX3_at) (rest := [.long (((nI 0).toInt64) * 1)]) (s_at_30 X _ I L a (by omega)) okX3_at lkX3_45 rfl rfl (Nat.le_of_ble_eq_true rfl) ⟨Nat.le_refl _, Nat.le_refl _⟩ dX3_slopeOf_175 ?_
  refine r_lmul (pc := 178) dX3_slopeOf_178 ?_
  exact r_lret dX3_slopeOf_179 rfl (rfl) rfl
theorem sO30_61 (X : Ctx) (d : Nat) (I : MI) (L : ML) (i : Nat) (a m : Nat) (s : Int32) (ha : a < 80) (hm : m + 1 ≤ 4) (h5 : I 5 i = nI 6) (hi : i < 80) (h6 : I 6 i = nI a) (h7 : I 7 i = nI (m + 1)) : Sp X mX3_slopeOf (d + 2) (0, 0) [.ref 27, .ref 30, .int (nI i), .int (s)] shF I L (some (.long ((nI (m + 1)).toInt64 * pw (L 28 a) m * L 30 a)), shF, I, L) := by
  refine Sp.of okX3_slopeOf [.ref 27, .ref 30, .int (nI i), .int (s), .null, .null] 2 rfl (Nat.le_of_ble_eq_true rfl) ?_
  refine r_aload_n (pc := 0) dX3_slopeOf_0 rfl ?_
  refine r_getR (pc := 1) (b := 4) dX3_slopeOf_1 fX3_9 rfl rfl ?_
  refine r_getR (pc := 4) (b := 6) dX3_slopeOf_4 fX3_61 rfl rfl ?_
  refine r_iload_n (pc := 7) dX3_slopeOf_7 rfl ?_
  refine r_ialdV (pc := 8) (j := i) (v := nI a) dX3_slopeOf_8 rfl rfl (by omega) (by decide) (h6) ?_
  refine r_istore (pc := 9) (lo1 := [.ref 27, .ref 30, .int (nI i), .int (s), .int (nI a), .null]) dX3_slopeOf_9 rfl (by decide) rfl ?_
  refine r_aload_n (pc := 11) dX3_slopeOf_11 rfl ?_
  refine r_getR (pc := 12) (b := 4) dX3_slopeOf_12 fX3_9 rfl rfl ?_
  refine r_getR (pc := 15) (b := 7) dX3_slopeOf_15 fX3_65 rfl rfl ?_
  refine r_iload_n (pc := 18) dX3_slopeOf_18 rfl ?_
  refine r_ialdV (pc := 19) (j := i) (v := nI (m + 1)) dX3_slopeOf_19 rfl rfl (by omega) (by decide) (h7) ?_
  refine r_istore (pc := 20) (lo1 := [.ref 27, .ref 30, .int (nI i), .int (s), .int (nI a), .int (nI (m + 1))]) dX3_slopeOf_20 rfl (by decide) rfl ?_
  refine r_aload_n (pc := 22) dX3_slopeOf_22 rfl ?_
  refine r_getR (pc := 23) (b := 4) dX3_slopeOf_23 fX3_9 rfl rfl ?_
  refine r_getR (pc := 26) (b := 5) dX3_slopeOf_26 fX3_68 rfl rfl ?_
  refine r_iload_n (pc := 29) dX3_slopeOf_29 rfl ?_
  refine r_ialdV (pc := 30) (j := i) (v := nI 6) dX3_slopeOf_30 rfl rfl (by omega) (by decide) (h5) ?_
  refine r_swIn (pc := 31) (off := 121) (tgt := 152) dX3_slopeOf_31 (by decide) (by decide) (by decide) (by decide) ?_
  refine r_iload (pc := 152) dX3_slopeOf_152 rfl ?_
  refine r_i2l (pc := 154) dX3_slopeOf_154 ?_
  refine r_aload_n (pc := 155) dX3_slopeOf_155 rfl ?_
  refine r_getR (pc := 156) (b := 28) dX3_slopeOf_156 fX3_19 rfl rfl ?_
  refine r_iload (pc := 159) dX3_slopeOf_159 rfl ?_
  refine r_callS (pc := 161) (N := mX3_at) (rest := [.long ((nI (m + 1)).toInt64)]) (s_at_28 X _ I L a (by omega)) okX3_at lkX3_45 rfl rfl (Nat.le_of_ble_eq_true rfl) ⟨Nat.le_refl _, Nat.le_refl _⟩ dX3_slopeOf_161 ?_
  refine r_iload (pc := 164) dX3_slopeOf_164 rfl ?_
  refine r_iconst (pc := 166) (v := nI 1) dX3_slopeOf_166 rfl ?_
  refine r_isubN (pc := 167) dX3_slopeOf_167 (by omega) ?_
  refine r_callS (pc := 168) (N := mX3_power) (rest := [.long ((nI (m + 1)).toInt64)]) (s_power X _ I L (L 28 a) m (by omega)) okX3_power lkX3_75 rfl rfl (Nat.le_of_ble_eq_true rfl) ⟨Nat.le_refl _, Nat.le_refl _⟩ dX3_slopeOf_168 ?_
  refine r_lmul (pc := 171) dX3_slopeOf_171 ?_
  refine r_aload_n (pc := 172) dX3_slopeOf_172 rfl ?_
  refine r_iload (pc := 173) dX3_slopeOf_173 rfl ?_
  refine r_callS (pc := 175) (N := mX3_at) (rest := [.long (((nI (m + 1)).toInt64) * (pw (L 28 a) m))]) (s_at_30 X _ I L a (by omega)) okX3_at lkX3_45 rfl rfl (Nat.le_of_ble_eq_true rfl) ⟨Nat.le_refl _, Nat.le_refl _⟩ dX3_slopeOf_175 ?_
  refine r_lmul (pc := 178) dX3_slopeOf_178 ?_
  exact r_lret dX3_slopeOf_179 rfl (rfl) rfl
theorem sO30_7 (X : Ctx) (d : Nat) (I : MI) (L : ML) (i : Nat) (a : Nat) (s : Int32) (ha : a < 80) (h5 : I 5 i = nI 7) (hi : i < 80) (h6 : I 6 i = nI a) : Sp X mX3_slopeOf (d + 2) (0, 0) [.ref 27, .ref 30, .int (nI i), .int (s)] shF I L (some (.long (-(L 30 a))), shF, I, L) := by
  refine Sp.of okX3_slopeOf [.ref 27, .ref 30, .int (nI i), .int (s), .null, .null] 2 rfl (Nat.le_of_ble_eq_true rfl) ?_
  refine r_aload_n (pc := 0) dX3_slopeOf_0 rfl ?_
  refine r_getR (pc := 1) (b := 4) dX3_slopeOf_1 fX3_9 rfl rfl ?_
  refine r_getR (pc := 4) (b := 6) dX3_slopeOf_4 fX3_61 rfl rfl ?_
  refine r_iload_n (pc := 7) dX3_slopeOf_7 rfl ?_
  refine r_ialdV (pc := 8) (j := i) (v := nI a) dX3_slopeOf_8 rfl rfl (by omega) (by decide) (h6) ?_
  refine r_istore (pc := 9) (lo1 := [.ref 27, .ref 30, .int (nI i), .int (s), .int (nI a), .null]) dX3_slopeOf_9 rfl (by decide) rfl ?_
  refine r_aload_n (pc := 11) dX3_slopeOf_11 rfl ?_
  refine r_getR (pc := 12) (b := 4) dX3_slopeOf_12 fX3_9 rfl rfl ?_
  refine r_getR (pc := 15) (b := 7) dX3_slopeOf_15 fX3_65 rfl rfl ?_
  refine r_iload_n (pc := 18) dX3_slopeOf_18 rfl ?_
  refine r_iald (pc := 19) (j := i) dX3_slopeOf_19 rfl rfl (by omega) (by decide) ?_
  refine r_istore (pc := 20) (lo1 := [.ref 27, .ref 30, .int (nI i), .int (s), .int (nI a), .int (I 7 i)]) dX3_slopeOf_20 rfl (by decide) rfl ?_
  refine r_aload_n (pc := 22) dX3_slopeOf_22 rfl ?_
  refine r_getR (pc := 23) (b := 4) dX3_slopeOf_23 fX3_9 rfl rfl ?_
  refine r_getR (pc := 26) (b := 5) dX3_slopeOf_26 fX3_68 rfl rfl ?_
  refine r_iload_n (pc := 29) dX3_slopeOf_29 rfl ?_
  refine r_ialdV (pc := 30) (j := i) (v := nI 7) dX3_slopeOf_30 rfl rfl (by omega) (by decide) (h5) ?_
  refine r_swIn (pc := 31) (off := 149) (tgt := 180) dX3_slopeOf_31 (by decide) (by decide) (by decide) (by decide) ?_
  refine r_aload_n (pc := 180) dX3_slopeOf_180 rfl ?_
  refine r_iload (pc := 181) dX3_slopeOf_181 rfl ?_
  refine r_callS (pc := 183) (N := mX3_at) (rest := []) (s_at_30 X _ I L a (by omega)) okX3_at lkX3_45 rfl rfl (Nat.le_of_ble_eq_true rfl) ⟨Nat.le_refl _, Nat.le_refl _⟩ dX3_slopeOf_183 ?_
  refine r_lneg (pc := 186) dX3_slopeOf_186 ?_
  exact r_lret dX3_slopeOf_187 rfl (rfl) rfl
theorem s_slopeOf_30 (X : Ctx) (d : Nat) (I : MI) (L : ML) (i : Nat) (s : Int32) (hi : i < 80) (hN : NW I i) : Sp X mX3_slopeOf (d + 2) (0, 0) [.ref 27, .ref 30, .int (nI i), .int (s)] shF I L (some (.long (sO I s (L 28) (L 30) i)), shF, I, L) := by
  obtain ⟨k, hk, h5, h1, h2, h3, h4⟩ := hN
  rcases (by omega : k = 0 ∨ k = 1 ∨ k = 2 ∨ k = 3 ∨ k = 4 ∨ k = 5 ∨ k = 6 ∨ k = 7) with rfl | rfl | rfl | rfl | rfl | rfl | rfl | rfl
  · have := sO30_0 X d I L i s (I 6 i) h5 hi rfl
    unfold sO; rw [if_pos h5]
    exact this
  · obtain ⟨j, hj, h6⟩ := h1 rfl
    have := sO30_1 X d I L i j s hj h5 hi h6
    unfold sO; rw [if_neg (kne h5 (b := 0) (by decide) (by decide) (by decide)), if_pos h5, h6]
    exact this
  · obtain ⟨a, ha, h6⟩ := h2 (by decide)
    have := sO30_2 X d I L i a s (by omega) h5 hi h6
    unfold sO; rw [if_neg (kne h5 (b := 0) (by decide) (by decide) (by decide)), if_neg (kne h5 (b := 1) (by decide) (by decide) (by decide)), if_neg (kne h5 (b := 3) (by decide) (by decide) (by decide)), if_neg (kne h5 (b := 4) (by decide) (by decide) (by decide)), if_neg (kne h5 (b := 5) (by decide) (by decide) (by decide)), if_neg (kne h5 (b := 6) (by decide) (by decide) (by decide)), if_neg (kne h5 (b := 7) (by decide) (by decide) (by decide)), h6, nI_clamp (by omega)]
    exact this
  · obtain ⟨a, ha, h6⟩ := h2 (by decide)
    obtain ⟨b, hb, h7⟩ := h3 (by decide) (by decide)
    have := sO30_3 X d I L i a b s (by omega) (by omega) h5 hi h6 h7
    unfold sO; rw [if_neg (kne h5 (b := 0) (by decide) (by decide) (by decide)), if_neg (kne h5 (b := 1) (by decide) (by decide) (by decide)), if_pos h5, h6, h7, nI_clamp (by omega), nI_clamp (by omega)]
    exact this
  · obtain ⟨a, ha, h6⟩ := h2 (by decide)
    obtain ⟨b, hb, h7⟩ := h3 (by decide) (by decide)
    have := sO30_4 X d I L i a b s (by omega) (by omega) h5 hi h6 h7
    unfold sO; rw [if_neg (kne h5 (b := 0) (by decide) (by decide) (by decide)), if_neg (kne h5 (b := 1) (by decide) (by decide) (by decide)), if_neg (kne h5 (b := 3) (by decide) (by decide) (by decide)), if_pos h5, h6, h7, nI_clamp (by omega), nI_clamp (by omega)]
    exact this
  · obtain ⟨a, ha, h6⟩ := h2 (by decide)
    obtain ⟨b, hb, h7⟩ := h3 (by decide) (by decide)
    have := sO30_5 X d I L i a b s (by omega) (by omega) h5 hi h6 h7
    unfold sO; rw [if_neg (kne h5 (b := 0) (by decide) (by decide) (by decide)), if_neg (kne h5 (b := 1) (by decide) (by decide) (by decide)), if_neg (kne h5 (b := 3) (by decide) (by decide) (by decide)), if_neg (kne h5 (b := 4) (by decide) (by decide) (by decide)), if_pos h5, h6, h7, nI_clamp (by omega), nI_clamp (by omega)]
    exact this
  · obtain ⟨a, ha, h6⟩ := h2 (by decide)
    obtain ⟨m, hm, h7⟩ := h4 rfl
    cases m with
    | zero =>
      have := sO30_60 X d I L i a s (by omega) h5 hi h6 h7
      unfold sO; rw [if_neg (kne h5 (b := 0) (by decide) (by decide) (by decide)), if_neg (kne h5 (b := 1) (by decide) (by decide) (by decide)), if_neg (kne h5 (b := 3) (by decide) (by decide) (by decide)), if_neg (kne h5 (b := 4) (by decide) (by decide) (by decide)), if_neg (kne h5 (b := 5) (by decide) (by decide) (by decide)), if_pos h5, h6, h7, nI_clamp (by omega), nI_clamp (by omega)]
      exact this
    | succ m =>
      have := sO30_61 X d I L i a m s (by omega) hm h5 hi h6 h7
      unfold sO; rw [if_neg (kne h5 (b := 0) (by decide) (by decide) (by decide)), if_neg (kne h5 (b := 1) (by decide) (by decide) (by decide)), if_neg (kne h5 (b := 3) (by decide) (by decide) (by decide)), if_neg (kne h5 (b := 4) (by decide) (by decide) (by decide)), if_neg (kne h5 (b := 5) (by decide) (by decide) (by decide)), if_pos h5, h6, h7, nI_clamp (by omega), nI_clamp (by omega)]
      exact this
  · obtain ⟨a, ha, h6⟩ := h2 (by decide)
    have := sO30_7 X d I L i a s (by omega) h5 hi h6
    unfold sO; rw [if_neg (kne h5 (b := 0) (by decide) (by decide) (by decide)), if_neg (kne h5 (b := 1) (by decide) (by decide) (by decide)), if_neg (kne h5 (b := 3) (by decide) (by decide) (by decide)), if_neg (kne h5 (b := 4) (by decide) (by decide) (by decide)), if_neg (kne h5 (b := 5) (by decide) (by decide) (by decide)), if_neg (kne h5 (b := 6) (by decide) (by decide) (by decide)), if_pos h5, h6, nI_clamp (by omega)]
    exact this
theorem bO_0 (X : Ctx) (d : Nat) (I : MI) (L : ML) (i : Nat) (v : Int32) (h5 : I 5 i = nI 0) (hi : i < 80) (h6 : I 6 i = v) : Sp X mX3_bendOf (d + 2) (0, 0) [.ref 27, .int (nI i)] shF I L (some (.long (0)), shF, I, L) := by
  refine Sp.of okX3_bendOf [.ref 27, .int (nI i), .null, .null] 2 rfl (Nat.le_of_ble_eq_true rfl) ?_
  refine r_aload_n (pc := 0) dX3_bendOf_0 rfl ?_
  refine r_getR (pc := 1) (b := 4) dX3_bendOf_1 fX3_9 rfl rfl ?_
  refine r_getR (pc := 4) (b := 6) dX3_bendOf_4 fX3_61 rfl rfl ?_
  refine r_iload_n (pc := 7) dX3_bendOf_7 rfl ?_
  refine r_ialdV (pc := 8) (j := i) (v := v) dX3_bendOf_8 rfl rfl (by omega) (by decide) (h6) ?_
  refine r_istore_n (pc := 9) (lo1 := [.ref 27, .int (nI i), .int (v), .null]) dX3_bendOf_9 rfl (by decide) rfl ?_
  refine r_aload_n (pc := 10) dX3_bendOf_10 rfl ?_
  refine r_getR (pc := 11) (b := 4) dX3_bendOf_11 fX3_9 rfl rfl ?_
  refine r_getR (pc := 14) (b := 7) dX3_bendOf_14 fX3_65 rfl rfl ?_
  refine r_iload_n (pc := 17) dX3_bendOf_17 rfl ?_
  refine r_iald (pc := 18) (j := i) dX3_bendOf_18 rfl rfl (by omega) (by decide) ?_
  refine r_istore_n (pc := 19) (lo1 := [.ref 27, .int (nI i), .int (v), .int (I 7 i)]) dX3_bendOf_19 rfl (by decide) rfl ?_
  refine r_aload_n (pc := 20) dX3_bendOf_20 rfl ?_
  refine r_getR (pc := 21) (b := 4) dX3_bendOf_21 fX3_9 rfl rfl ?_
  refine r_getR (pc := 24) (b := 5) dX3_bendOf_24 fX3_68 rfl rfl ?_
  refine r_iload_n (pc := 27) dX3_bendOf_27 rfl ?_
  refine r_ialdV (pc := 28) (j := i) (v := nI 0) dX3_bendOf_28 rfl rfl (by omega) (by decide) (h5) ?_
  refine r_swIn (pc := 29) (off := 47) (tgt := 76) dX3_bendOf_29 (by decide) (by decide) (by decide) (by decide) ?_
  refine r_lconst (pc := 76) (v := 0) dX3_bendOf_76 rfl ?_
  exact r_lret dX3_bendOf_77 rfl (rfl) rfl
theorem bO_1 (X : Ctx) (d : Nat) (I : MI) (L : ML) (i : Nat) (a : Nat) (ha : a < 6) (h5 : I 5 i = nI 1) (hi : i < 80) (h6 : I 6 i = nI a) : Sp X mX3_bendOf (d + 2) (0, 0) [.ref 27, .int (nI i)] shF I L (some (.long (0)), shF, I, L) := by
  refine Sp.of okX3_bendOf [.ref 27, .int (nI i), .null, .null] 2 rfl (Nat.le_of_ble_eq_true rfl) ?_
  refine r_aload_n (pc := 0) dX3_bendOf_0 rfl ?_
  refine r_getR (pc := 1) (b := 4) dX3_bendOf_1 fX3_9 rfl rfl ?_
  refine r_getR (pc := 4) (b := 6) dX3_bendOf_4 fX3_61 rfl rfl ?_
  refine r_iload_n (pc := 7) dX3_bendOf_7 rfl ?_
  refine r_ialdV (pc := 8) (j := i) (v := nI a) dX3_bendOf_8 rfl rfl (by omega) (by decide) (h6) ?_
  refine r_istore_n (pc := 9) (lo1 := [.ref 27, .int (nI i), .int (nI a), .null]) dX3_bendOf_9 rfl (by decide) rfl ?_
  refine r_aload_n (pc := 10) dX3_bendOf_10 rfl ?_
  refine r_getR (pc := 11) (b := 4) dX3_bendOf_11 fX3_9 rfl rfl ?_
  refine r_getR (pc := 14) (b := 7) dX3_bendOf_14 fX3_65 rfl rfl ?_
  refine r_iload_n (pc := 17) dX3_bendOf_17 rfl ?_
  refine r_iald (pc := 18) (j := i) dX3_bendOf_18 rfl rfl (by omega) (by decide) ?_
  refine r_istore_n (pc := 19) (lo1 := [.ref 27, .int (nI i), .int (nI a), .int (I 7 i)]) dX3_bendOf_19 rfl (by decide) rfl ?_
  refine r_aload_n (pc := 20) dX3_bendOf_20 rfl ?_
  refine r_getR (pc := 21) (b := 4) dX3_bendOf_21 fX3_9 rfl rfl ?_
  refine r_getR (pc := 24) (b := 5) dX3_bendOf_24 fX3_68 rfl rfl ?_
  refine r_iload_n (pc := 27) dX3_bendOf_27 rfl ?_
  refine r_ialdV (pc := 28) (j := i) (v := nI 1) dX3_bendOf_28 rfl rfl (by omega) (by decide) (h5) ?_
  refine r_swIn (pc := 29) (off := 47) (tgt := 76) dX3_bendOf_29 (by decide) (by decide) (by decide) (by decide) ?_
  refine r_lconst (pc := 76) (v := 0) dX3_bendOf_76 rfl ?_
  exact r_lret dX3_bendOf_77 rfl (rfl) rfl
theorem bO_2 (X : Ctx) (d : Nat) (I : MI) (L : ML) (i : Nat) (a : Nat) (ha : a < 80) (h5 : I 5 i = nI 2) (hi : i < 80) (h6 : I 6 i = nI a) : Sp X mX3_bendOf (d + 2) (0, 0) [.ref 27, .int (nI i)] shF I L (some (.long (L 31 a)), shF, I, L) := by
  refine Sp.of okX3_bendOf [.ref 27, .int (nI i), .null, .null] 2 rfl (Nat.le_of_ble_eq_true rfl) ?_
  refine r_aload_n (pc := 0) dX3_bendOf_0 rfl ?_
  refine r_getR (pc := 1) (b := 4) dX3_bendOf_1 fX3_9 rfl rfl ?_
  refine r_getR (pc := 4) (b := 6) dX3_bendOf_4 fX3_61 rfl rfl ?_
  refine r_iload_n (pc := 7) dX3_bendOf_7 rfl ?_
  refine r_ialdV (pc := 8) (j := i) (v := nI a) dX3_bendOf_8 rfl rfl (by omega) (by decide) (h6) ?_
  refine r_istore_n (pc := 9) (lo1 := [.ref 27, .int (nI i), .int (nI a), .null]) dX3_bendOf_9 rfl (by decide) rfl ?_
  refine r_aload_n (pc := 10) dX3_bendOf_10 rfl ?_
  refine r_getR (pc := 11) (b := 4) dX3_bendOf_11 fX3_9 rfl rfl ?_
  refine r_getR (pc := 14) (b := 7) dX3_bendOf_14 fX3_65 rfl rfl ?_
  refine r_iload_n (pc := 17) dX3_bendOf_17 rfl ?_
  refine r_iald (pc := 18) (j := i) dX3_bendOf_18 rfl rfl (by omega) (by decide) ?_
  refine r_istore_n (pc := 19) (lo1 := [.ref 27, .int (nI i), .int (nI a), .int (I 7 i)]) dX3_bendOf_19 rfl (by decide) rfl ?_
  refine r_aload_n (pc := 20) dX3_bendOf_20 rfl ?_
  refine r_getR (pc := 21) (b := 4) dX3_bendOf_21 fX3_9 rfl rfl ?_
  refine r_getR (pc := 24) (b := 5) dX3_bendOf_24 fX3_68 rfl rfl ?_
  refine r_iload_n (pc := 27) dX3_bendOf_27 rfl ?_
  refine r_ialdV (pc := 28) (j := i) (v := nI 2) dX3_bendOf_28 rfl rfl (by omega) (by decide) (h5) ?_
  refine r_swIn (pc := 29) (off := 234) (tgt := 263) dX3_bendOf_29 (by decide) (by decide) (by decide) (by decide) ?_
  refine r_aload_n (pc := 263) dX3_bendOf_263 rfl ?_
  refine r_getR (pc := 264) (b := 31) dX3_bendOf_264 fX3_29 rfl rfl ?_
  refine r_iload_n (pc := 267) dX3_bendOf_267 rfl ?_
  refine r_callS (pc := 268) (N := mX3_at) (rest := []) (s_at_31 X _ I L a (by omega)) okX3_at lkX3_45 rfl rfl (Nat.le_of_ble_eq_true rfl) ⟨Nat.le_refl _, Nat.le_refl _⟩ dX3_bendOf_268 ?_
  exact r_lret dX3_bendOf_271 rfl (rfl) rfl
theorem bO_3 (X : Ctx) (d : Nat) (I : MI) (L : ML) (i : Nat) (a b : Nat) (ha : a < 80) (hb : b < 80) (h5 : I 5 i = nI 3) (hi : i < 80) (h6 : I 6 i = nI a) (h7 : I 7 i = nI b) : Sp X mX3_bendOf (d + 2) (0, 0) [.ref 27, .int (nI i)] shF I L (some (.long (L 31 a + L 31 b)), shF, I, L) := by
  refine Sp.of okX3_bendOf [.ref 27, .int (nI i), .null, .null] 2 rfl (Nat.le_of_ble_eq_true rfl) ?_
  refine r_aload_n (pc := 0) dX3_bendOf_0 rfl ?_
  refine r_getR (pc := 1) (b := 4) dX3_bendOf_1 fX3_9 rfl rfl ?_
  refine r_getR (pc := 4) (b := 6) dX3_bendOf_4 fX3_61 rfl rfl ?_
  refine r_iload_n (pc := 7) dX3_bendOf_7 rfl ?_
  refine r_ialdV (pc := 8) (j := i) (v := nI a) dX3_bendOf_8 rfl rfl (by omega) (by decide) (h6) ?_
  refine r_istore_n (pc := 9) (lo1 := [.ref 27, .int (nI i), .int (nI a), .null]) dX3_bendOf_9 rfl (by decide) rfl ?_
  refine r_aload_n (pc := 10) dX3_bendOf_10 rfl ?_
  refine r_getR (pc := 11) (b := 4) dX3_bendOf_11 fX3_9 rfl rfl ?_
  refine r_getR (pc := 14) (b := 7) dX3_bendOf_14 fX3_65 rfl rfl ?_
  refine r_iload_n (pc := 17) dX3_bendOf_17 rfl ?_
  refine r_ialdV (pc := 18) (j := i) (v := nI b) dX3_bendOf_18 rfl rfl (by omega) (by decide) (h7) ?_
  refine r_istore_n (pc := 19) (lo1 := [.ref 27, .int (nI i), .int (nI a), .int (nI b)]) dX3_bendOf_19 rfl (by decide) rfl ?_
  refine r_aload_n (pc := 20) dX3_bendOf_20 rfl ?_
  refine r_getR (pc := 21) (b := 4) dX3_bendOf_21 fX3_9 rfl rfl ?_
  refine r_getR (pc := 24) (b := 5) dX3_bendOf_24 fX3_68 rfl rfl ?_
  refine r_iload_n (pc := 27) dX3_bendOf_27 rfl ?_
  refine r_ialdV (pc := 28) (j := i) (v := nI 3) dX3_bendOf_28 rfl rfl (by omega) (by decide) (h5) ?_
  refine r_swIn (pc := 29) (off := 49) (tgt := 78) dX3_bendOf_29 (by decide) (by decide) (by decide) (by decide) ?_
  refine r_aload_n (pc := 78) dX3_bendOf_78 rfl ?_
  refine r_getR (pc := 79) (b := 31) dX3_bendOf_79 fX3_29 rfl rfl ?_
  refine r_iload_n (pc := 82) dX3_bendOf_82 rfl ?_
  refine r_callS (pc := 83) (N := mX3_at) (rest := []) (s_at_31 X _ I L a (by omega)) okX3_at lkX3_45 rfl rfl (Nat.le_of_ble_eq_true rfl) ⟨Nat.le_refl _, Nat.le_refl _⟩ dX3_bendOf_83 ?_
  refine r_aload_n (pc := 86) dX3_bendOf_86 rfl ?_
  refine r_getR (pc := 87) (b := 31) dX3_bendOf_87 fX3_29 rfl rfl ?_
  refine r_iload_n (pc := 90) dX3_bendOf_90 rfl ?_
  refine r_callS (pc := 91) (N := mX3_at) (rest := [.long (L 31 a)]) (s_at_31 X _ I L b (by omega)) okX3_at lkX3_45 rfl rfl (Nat.le_of_ble_eq_true rfl) ⟨Nat.le_refl _, Nat.le_refl _⟩ dX3_bendOf_91 ?_
  refine r_ladd (pc := 94) dX3_bendOf_94 ?_
  exact r_lret dX3_bendOf_95 rfl (rfl) rfl
theorem bO_4 (X : Ctx) (d : Nat) (I : MI) (L : ML) (i : Nat) (a b : Nat) (ha : a < 80) (hb : b < 80) (h5 : I 5 i = nI 4) (hi : i < 80) (h6 : I 6 i = nI a) (h7 : I 7 i = nI b) : Sp X mX3_bendOf (d + 2) (0, 0) [.ref 27, .int (nI i)] shF I L (some (.long (L 31 a - L 31 b)), shF, I, L) := by
  refine Sp.of okX3_bendOf [.ref 27, .int (nI i), .null, .null] 2 rfl (Nat.le_of_ble_eq_true rfl) ?_
  refine r_aload_n (pc := 0) dX3_bendOf_0 rfl ?_
  refine r_getR (pc := 1) (b := 4) dX3_bendOf_1 fX3_9 rfl rfl ?_
  refine r_getR (pc := 4) (b := 6) dX3_bendOf_4 fX3_61 rfl rfl ?_
  refine r_iload_n (pc := 7) dX3_bendOf_7 rfl ?_
  refine r_ialdV (pc := 8) (j := i) (v := nI a) dX3_bendOf_8 rfl rfl (by omega) (by decide) (h6) ?_
  refine r_istore_n (pc := 9) (lo1 := [.ref 27, .int (nI i), .int (nI a), .null]) dX3_bendOf_9 rfl (by decide) rfl ?_
  refine r_aload_n (pc := 10) dX3_bendOf_10 rfl ?_
  refine r_getR (pc := 11) (b := 4) dX3_bendOf_11 fX3_9 rfl rfl ?_
  refine r_getR (pc := 14) (b := 7) dX3_bendOf_14 fX3_65 rfl rfl ?_
  refine r_iload_n (pc := 17) dX3_bendOf_17 rfl ?_
  refine r_ialdV (pc := 18) (j := i) (v := nI b) dX3_bendOf_18 rfl rfl (by omega) (by decide) (h7) ?_
  refine r_istore_n (pc := 19) (lo1 := [.ref 27, .int (nI i), .int (nI a), .int (nI b)]) dX3_bendOf_19 rfl (by decide) rfl ?_
  refine r_aload_n (pc := 20) dX3_bendOf_20 rfl ?_
  refine r_getR (pc := 21) (b := 4) dX3_bendOf_21 fX3_9 rfl rfl ?_
  refine r_getR (pc := 24) (b := 5) dX3_bendOf_24 fX3_68 rfl rfl ?_
  refine r_iload_n (pc := 27) dX3_bendOf_27 rfl ?_
  refine r_ialdV (pc := 28) (j := i) (v := nI 4) dX3_bendOf_28 rfl rfl (by omega) (by decide) (h5) ?_
  refine r_swIn (pc := 29) (off := 67) (tgt := 96) dX3_bendOf_29 (by decide) (by decide) (by decide) (by decide) ?_
  refine r_aload_n (pc := 96) dX3_bendOf_96 rfl ?_
  refine r_getR (pc := 97) (b := 31) dX3_bendOf_97 fX3_29 rfl rfl ?_
  refine r_iload_n (pc := 100) dX3_bendOf_100 rfl ?_
  refine r_callS (pc := 101) (N := mX3_at) (rest := []) (s_at_31 X _ I L a (by omega)) okX3_at lkX3_45 rfl rfl (Nat.le_of_ble_eq_true rfl) ⟨Nat.le_refl _, Nat.le_refl _⟩ dX3_bendOf_101 ?_
  refine r_aload_n (pc := 104) dX3_bendOf_104 rfl ?_
  refine r_getR (pc := 105) (b := 31) dX3_bendOf_105 fX3_29 rfl rfl ?_
  refine r_iload_n (pc := 108) dX3_bendOf_108 rfl ?_
  refine r_callS (pc := 109) (N := mX3_at) (rest := [.long (L 31 a)]) (s_at_31 X _ I L b (by omega)) okX3_at lkX3_45 rfl rfl (Nat.le_of_ble_eq_true rfl) ⟨Nat.le_refl _, Nat.le_refl _⟩ dX3_bendOf_109 ?_
  refine r_lsub (pc := 112) dX3_bendOf_112 ?_
  exact r_lret dX3_bendOf_113 rfl (rfl) rfl
theorem bO_5 (X : Ctx) (d : Nat) (I : MI) (L : ML) (i : Nat) (a b : Nat) (ha : a < 80) (hb : b < 80) (h5 : I 5 i = nI 5) (hi : i < 80) (h6 : I 6 i = nI a) (h7 : I 7 i = nI b) : Sp X mX3_bendOf (d + 2) (0, 0) [.ref 27, .int (nI i)] shF I L (some (.long (L 31 a * L 28 b + L 28 a * L 31 b + L 29 a * L 30 b + L 30 a * L 29 b)), shF, I, L) := by
  refine Sp.of okX3_bendOf [.ref 27, .int (nI i), .null, .null] 2 rfl (Nat.le_of_ble_eq_true rfl) ?_
  refine r_aload_n (pc := 0) dX3_bendOf_0 rfl ?_
  refine r_getR (pc := 1) (b := 4) dX3_bendOf_1 fX3_9 rfl rfl ?_
  refine r_getR (pc := 4) (b := 6) dX3_bendOf_4 fX3_61 rfl rfl ?_
  refine r_iload_n (pc := 7) dX3_bendOf_7 rfl ?_
  refine r_ialdV (pc := 8) (j := i) (v := nI a) dX3_bendOf_8 rfl rfl (by omega) (by decide) (h6) ?_
  refine r_istore_n (pc := 9) (lo1 := [.ref 27, .int (nI i), .int (nI a), .null]) dX3_bendOf_9 rfl (by decide) rfl ?_
  refine r_aload_n (pc := 10) dX3_bendOf_10 rfl ?_
  refine r_getR (pc := 11) (b := 4) dX3_bendOf_11 fX3_9 rfl rfl ?_
  refine r_getR (pc := 14) (b := 7) dX3_bendOf_14 fX3_65 rfl rfl ?_
  refine r_iload_n (pc := 17) dX3_bendOf_17 rfl ?_
  refine r_ialdV (pc := 18) (j := i) (v := nI b) dX3_bendOf_18 rfl rfl (by omega) (by decide) (h7) ?_
  refine r_istore_n (pc := 19) (lo1 := [.ref 27, .int (nI i), .int (nI a), .int (nI b)]) dX3_bendOf_19 rfl (by decide) rfl ?_
  refine r_aload_n (pc := 20) dX3_bendOf_20 rfl ?_
  refine r_getR (pc := 21) (b := 4) dX3_bendOf_21 fX3_9 rfl rfl ?_
  refine r_getR (pc := 24) (b := 5) dX3_bendOf_24 fX3_68 rfl rfl ?_
  refine r_iload_n (pc := 27) dX3_bendOf_27 rfl ?_
  refine r_ialdV (pc := 28) (j := i) (v := nI 5) dX3_bendOf_28 rfl rfl (by omega) (by decide) (h5) ?_
  refine r_swIn (pc := 29) (off := 85) (tgt := 114) dX3_bendOf_29 (by decide) (by decide) (by decide) (by decide) ?_
  refine r_aload_n (pc := 114) dX3_bendOf_114 rfl ?_
  refine r_getR (pc := 115) (b := 31) dX3_bendOf_115 fX3_29 rfl rfl ?_
  refine r_iload_n (pc := 118) dX3_bendOf_118 rfl ?_
  refine r_callS (pc := 119) (N := mX3_at) (rest := []) (s_at_31 X _ I L a (by omega)) okX3_at lkX3_45 rfl rfl (Nat.le_of_ble_eq_true rfl) ⟨Nat.le_refl _, Nat.le_refl _⟩ dX3_bendOf_119 ?_
  refine r_aload_n (pc := 122) dX3_bendOf_122 rfl ?_
  refine r_getR (pc := 123) (b := 28) dX3_bendOf_123 fX3_19 rfl rfl ?_
  refine r_iload_n (pc := 126) dX3_bendOf_126 rfl ?_
  refine r_callS (pc := 127) (N := mX3_at) (rest := [.long (L 31 a)]) (s_at_28 X _ I L b (by omega)) okX3_at lkX3_45 rfl rfl (Nat.le_of_ble_eq_true rfl) ⟨Nat.le_refl _, Nat.le_refl _⟩ dX3_bendOf_127 ?_
  refine r_lmul (pc := 130) dX3_bendOf_130 ?_
  refine r_aload_n (pc := 131) dX3_bendOf_131 rfl ?_
  refine r_getR (pc := 132) (b := 28) dX3_bendOf_132 fX3_19 rfl rfl ?_
  refine r_iload_n (pc := 135) dX3_bendOf_135 rfl ?_
  refine r_callS (pc := 136) (N := mX3_at) (rest := [.long ((L 31 a) * (L 28 b))]) (s_at_28 X _ I L a (by omega)) okX3_at lkX3_45 rfl rfl (Nat.le_of_ble_eq_true rfl) ⟨Nat.le_refl _, Nat.le_refl _⟩ dX3_bendOf_136 ?_
  refine r_aload_n (pc := 139) dX3_bendOf_139 rfl ?_
  refine r_getR (pc := 140) (b := 31) dX3_bendOf_140 fX3_29 rfl rfl ?_
  refine r_iload_n (pc := 143) dX3_bendOf_143 rfl ?_
  refine r_callS (pc := 144) (N := mX3_at) (rest := [.long (L 28 a), .long ((L 31 a) * (L 28 b))]) (s_at_31 X _ I L b (by omega)) okX3_at lkX3_45 rfl rfl (Nat.le_of_ble_eq_true rfl) ⟨Nat.le_refl _, Nat.le_refl _⟩ dX3_bendOf_144 ?_
  refine r_lmul (pc := 147) dX3_bendOf_147 ?_
  refine r_ladd (pc := 148) dX3_bendOf_148 ?_
  refine r_aload_n (pc := 149) dX3_bendOf_149 rfl ?_
  refine r_getR (pc := 150) (b := 29) dX3_bendOf_150 fX3_23 rfl rfl ?_
  refine r_iload_n (pc := 153) dX3_bendOf_153 rfl ?_
  refine r_callS (pc := 154) (N := mX3_at) (rest := [.long (((L 31 a) * (L 28 b)) + ((L 28 a) * (L 31 b)))]) (s_at_29 X _ I L a (by omega)) okX3_at lkX3_45 rfl rfl (Nat.le_of_ble_eq_true rfl) ⟨Nat.le_refl _, Nat.le_refl _⟩ dX3_bendOf_154 ?_
  refine r_aload_n (pc := 157) dX3_bendOf_157 rfl ?_
  refine r_getR (pc := 158) (b := 30) dX3_bendOf_158 fX3_26 rfl rfl ?_
  refine r_iload_n (pc := 161) dX3_bendOf_161 rfl ?_
  refine r_callS (pc := 162) (N := mX3_at) (rest := [.long (L 29 a), .long (((L 31 a) * (L 28 b)) + ((L 28 a) * (L 31 b)))]) (s_at_30 X _ I L b (by omega)) okX3_at lkX3_45 rfl rfl (Nat.le_of_ble_eq_true rfl) ⟨Nat.le_refl _, Nat.le_refl _⟩ dX3_bendOf_162 ?_
  refine r_lmul (pc := 165) dX3_bendOf_165 ?_
  refine r_ladd (pc := 166) dX3_bendOf_166 ?_
  refine r_aload_n (pc := 167) dX3_bendOf_167 rfl ?_
  refine r_getR (pc := 168) (b := 30) dX3_bendOf_168 fX3_26 rfl rfl ?_
  refine r_iload_n (pc := 171) dX3_bendOf_171 rfl ?_
  refine r_callS (pc := 172) (N := mX3_at) (rest := [.long ((((L 31 a) * (L 28 b)) + ((L 28 a) * (L 31 b))) + ((L 29 a) * (L 30 b)))]) (s_at_30 X _ I L a (by omega)) okX3_at lkX3_45 rfl rfl (Nat.le_of_ble_eq_true rfl) ⟨Nat.le_refl _, Nat.le_refl _⟩ dX3_bendOf_172 ?_
  refine r_aload_n (pc := 175) dX3_bendOf_175 rfl ?_
  refine r_getR (pc := 176) (b := 29) dX3_bendOf_176 fX3_23 rfl rfl ?_
  refine r_iload_n (pc := 179) dX3_bendOf_179 rfl ?_
  refine r_callS (pc := 180) (N := mX3_at) (rest := [.long (L 30 a), .long ((((L 31 a) * (L 28 b)) + ((L 28 a) * (L 31 b))) + ((L 29 a) * (L 30 b)))]) (s_at_29 X _ I L b (by omega)) okX3_at lkX3_45 rfl rfl (Nat.le_of_ble_eq_true rfl) ⟨Nat.le_refl _, Nat.le_refl _⟩ dX3_bendOf_180 ?_
  refine r_lmul (pc := 183) dX3_bendOf_183 ?_
  refine r_ladd (pc := 184) dX3_bendOf_184 ?_
  exact r_lret dX3_bendOf_185 rfl (rfl) rfl
theorem bO_60 (X : Ctx) (d : Nat) (I : MI) (L : ML) (i a : Nat) (ha : a < 80) (h5 : I 5 i = nI 6) (hi : i < 80) (h6 : I 6 i = nI a) (h7 : I 7 i = nI 0) : Sp X mX3_bendOf (d + 2) (0, 0) [.ref 27, .int (nI i)] shF I L (some (.long ((nI 0).toInt64 * 1 * L 31 a + (nI 0 * (nI 0 - nI 1)).toInt64 * 1 * L 29 a * L 30 a)), shF, I, L) := by
  refine Sp.of okX3_bendOf [.ref 27, .int (nI i), .null, .null] 2 rfl (Nat.le_of_ble_eq_true rfl) ?_
  refine r_aload_n (pc := 0) dX3_bendOf_0 rfl ?_
  refine r_getR (pc := 1) (b := 4) dX3_bendOf_1 fX3_9 rfl rfl ?_
  refine r_getR (pc := 4) (b := 6) dX3_bendOf_4 fX3_61 rfl rfl ?_
  refine r_iload_n (pc := 7) dX3_bendOf_7 rfl ?_
  refine r_ialdV (pc := 8) (j := i) (v := nI a) dX3_bendOf_8 rfl rfl (by omega) (by decide) (h6) ?_
  refine r_istore_n (pc := 9) (lo1 := [.ref 27, .int (nI i), .int (nI a), .null]) dX3_bendOf_9 rfl (by decide) rfl ?_
  refine r_aload_n (pc := 10) dX3_bendOf_10 rfl ?_
  refine r_getR (pc := 11) (b := 4) dX3_bendOf_11 fX3_9 rfl rfl ?_
  refine r_getR (pc := 14) (b := 7) dX3_bendOf_14 fX3_65 rfl rfl ?_
  refine r_iload_n (pc := 17) dX3_bendOf_17 rfl ?_
  refine r_ialdV (pc := 18) (j := i) (v := nI 0) dX3_bendOf_18 rfl rfl (by omega) (by decide) (h7) ?_
  refine r_istore_n (pc := 19) (lo1 := [.ref 27, .int (nI i), .int (nI a), .int (nI 0)]) dX3_bendOf_19 rfl (by decide) rfl ?_
  refine r_aload_n (pc := 20) dX3_bendOf_20 rfl ?_
  refine r_getR (pc := 21) (b := 4) dX3_bendOf_21 fX3_9 rfl rfl ?_
  refine r_getR (pc := 24) (b := 5) dX3_bendOf_24 fX3_68 rfl rfl ?_
  refine r_iload_n (pc := 27) dX3_bendOf_27 rfl ?_
  refine r_ialdV (pc := 28) (j := i) (v := nI 6) dX3_bendOf_28 rfl rfl (by omega) (by decide) (h5) ?_
  refine r_swIn (pc := 29) (off := 157) (tgt := 186) dX3_bendOf_29 (by decide) (by decide) (by decide) (by decide) ?_
  refine r_iload_n (pc := 186) dX3_bendOf_186 rfl ?_
  refine r_i2l (pc := 187) dX3_bendOf_187 ?_
  refine r_aload_n (pc := 188) dX3_bendOf_188 rfl ?_
  refine r_getR (pc := 189) (b := 28) dX3_bendOf_189 fX3_19 rfl rfl ?_
  refine r_iload_n (pc := 192) dX3_bendOf_192 rfl ?_
  refine r_callS (pc := 193) (N := mX3_at) (rest := [.long ((nI 0).toInt64)]) (s_at_28 X _ I L a (by omega)) okX3_at lkX3_45 rfl rfl (Nat.le_of_ble_eq_true rfl) ⟨Nat.le_refl _, Nat.le_refl _⟩ dX3_bendOf_193 ?_
  refine r_iload_n (pc := 196) dX3_bendOf_196 rfl ?_
  refine r_iconst (pc := 197) (v := nI 1) dX3_bendOf_197 rfl ?_
  refine r_isub (pc := 198) dX3_bendOf_198 ?_
  refine r_callS (pc := 199) (N := mX3_power) (rest := [.long ((nI 0).toInt64)]) (s_power_n X _ I L (L 28 a) ((nI 0) - (nI 1)) (by decide)) okX3_power lkX3_75 rfl rfl (Nat.le_of_ble_eq_true rfl) ⟨Nat.le_refl _, Nat.le_refl _⟩ dX3_bendOf_199 ?_
  refine r_lmul (pc := 202) dX3_bendOf_202 ?_
  refine r_aload_n (pc := 203) dX3_bendOf_203 rfl ?_
  refine r_getR (pc := 204) (b := 31) dX3_bendOf_204 fX3_29 rfl rfl ?_
  refine r_iload_n (pc := 207) dX3_bendOf_207 rfl ?_
  refine r_callS (pc := 208) (N := mX3_at) (rest := [.long (((nI 0).toInt64) * 1)]) (s_at_31 X _ I L a (by omega)) okX3_at lkX3_45 rfl rfl (Nat.le_of_ble_eq_true rfl) ⟨Nat.le_refl _, Nat.le_refl _⟩ dX3_bendOf_208 ?_
  refine r_lmul (pc := 211) dX3_bendOf_211 ?_
  refine r_iload_n (pc := 212) dX3_bendOf_212 rfl ?_
  refine r_iload_n (pc := 213) dX3_bendOf_213 rfl ?_
  refine r_iconst (pc := 214) (v := nI 1) dX3_bendOf_214 rfl ?_
  refine r_isub (pc := 215) dX3_bendOf_215 ?_
  refine r_imul (pc := 216) dX3_bendOf_216 ?_
  refine r_i2l (pc := 217) dX3_bendOf_217 ?_
  refine r_aload_n (pc := 218) dX3_bendOf_218 rfl ?_
  refine r_getR (pc := 219) (b := 28) dX3_bendOf_219 fX3_19 rfl rfl ?_
  refine r_iload_n (pc := 222) dX3_bendOf_222 rfl ?_
  refine r_callS (pc := 223) (N := mX3_at) (rest := [.long (((nI 0) * ((nI 0) - (nI 1))).toInt64), .long ((((nI 0).toInt64) * 1) * (L 31 a))]) (s_at_28 X _ I L a (by omega)) okX3_at lkX3_45 rfl rfl (Nat.le_of_ble_eq_true rfl) ⟨Nat.le_refl _, Nat.le_refl _⟩ dX3_bendOf_223 ?_
  refine r_iload_n (pc := 226) dX3_bendOf_226 rfl ?_
  refine r_iconst (pc := 227) (v := nI 2) dX3_bendOf_227 rfl ?_
  refine r_isub (pc := 228) dX3_bendOf_228 ?_
  refine r_callS (pc := 229) (N := mX3_power) (rest := [.long (((nI 0) * ((nI 0) - (nI 1))).toInt64), .long ((((nI 0).toInt64) * 1) * (L 31 a))]) (s_power_n X _ I L (L 28 a) ((nI 0) - (nI 2)) (by decide)) okX3_power lkX3_75 rfl rfl (Nat.le_of_ble_eq_true rfl) ⟨Nat.le_refl _, Nat.le_refl _⟩ dX3_bendOf_229 ?_
  refine r_lmul (pc := 232) dX3_bendOf_232 ?_
  refine r_aload_n (pc := 233) dX3_bendOf_233 rfl ?_
  refine r_getR (pc := 234) (b := 29) dX3_bendOf_234 fX3_23 rfl rfl ?_
  refine r_iload_n (pc := 237) dX3_bendOf_237 rfl ?_
  refine r_callS (pc := 238) (N := mX3_at) (rest := [.long ((((nI 0) * ((nI 0) - (nI 1))).toInt64) * 1), .long ((((nI 0).toInt64) * 1) * (L 31 a))]) (s_at_29 X _ I L a (by omega)) okX3_at lkX3_45 rfl rfl (Nat.le_of_ble_eq_true rfl) ⟨Nat.le_refl _, Nat.le_refl _⟩ dX3_bendOf_238 ?_
  refine r_lmul (pc := 241) dX3_bendOf_241 ?_
  refine r_aload_n (pc := 242) dX3_bendOf_242 rfl ?_
  refine r_getR (pc := 243) (b := 30) dX3_bendOf_243 fX3_26 rfl rfl ?_
  refine r_iload_n (pc := 246) dX3_bendOf_246 rfl ?_
  refine r_callS (pc := 247) (N := mX3_at) (rest := [.long (((((nI 0) * ((nI 0) - (nI 1))).toInt64) * 1) * (L 29 a)), .long ((((nI 0).toInt64) * 1) * (L 31 a))]) (s_at_30 X _ I L a (by omega)) okX3_at lkX3_45 rfl rfl (Nat.le_of_ble_eq_true rfl) ⟨Nat.le_refl _, Nat.le_refl _⟩ dX3_bendOf_247 ?_
  refine r_lmul (pc := 250) dX3_bendOf_250 ?_
  refine r_ladd (pc := 251) dX3_bendOf_251 ?_
  exact r_lret dX3_bendOf_252 rfl (rfl) rfl
theorem bO_61 (X : Ctx) (d : Nat) (I : MI) (L : ML) (i a : Nat) (ha : a < 80) (h5 : I 5 i = nI 6) (hi : i < 80) (h6 : I 6 i = nI a) (h7 : I 7 i = nI 1) : Sp X mX3_bendOf (d + 2) (0, 0) [.ref 27, .int (nI i)] shF I L (some (.long ((nI 1).toInt64 * pw (L 28 a) 0 * L 31 a + (nI 1 * (nI 1 - nI 1)).toInt64 * 1 * L 29 a * L 30 a)), shF, I, L) := by
  refine Sp.of okX3_bendOf [.ref 27, .int (nI i), .null, .null] 2 rfl (Nat.le_of_ble_eq_true rfl) ?_
  refine r_aload_n (pc := 0) dX3_bendOf_0 rfl ?_
  refine r_getR (pc := 1) (b := 4) dX3_bendOf_1 fX3_9 rfl rfl ?_
  refine r_getR (pc := 4) (b := 6) dX3_bendOf_4 fX3_61 rfl rfl ?_
  refine r_iload_n (pc := 7) dX3_bendOf_7 rfl ?_
  refine r_ialdV (pc := 8) (j := i) (v := nI a) dX3_bendOf_8 rfl rfl (by omega) (by decide) (h6) ?_
  refine r_istore_n (pc := 9) (lo1 := [.ref 27, .int (nI i), .int (nI a), .null]) dX3_bendOf_9 rfl (by decide) rfl ?_
  refine r_aload_n (pc := 10) dX3_bendOf_10 rfl ?_
  refine r_getR (pc := 11) (b := 4) dX3_bendOf_11 fX3_9 rfl rfl ?_
  refine r_getR (pc := 14) (b := 7) dX3_bendOf_14 fX3_65 rfl rfl ?_
  refine r_iload_n (pc := 17) dX3_bendOf_17 rfl ?_
  refine r_ialdV (pc := 18) (j := i) (v := nI 1) dX3_bendOf_18 rfl rfl (by omega) (by decide) (h7) ?_
  refine r_istore_n (pc := 19) (lo1 := [.ref 27, .int (nI i), .int (nI a), .int (nI 1)]) dX3_bendOf_19 rfl (by decide) rfl ?_
  refine r_aload_n (pc := 20) dX3_bendOf_20 rfl ?_
  refine r_getR (pc := 21) (b := 4) dX3_bendOf_21 fX3_9 rfl rfl ?_
  refine r_getR (pc := 24) (b := 5) dX3_bendOf_24 fX3_68 rfl rfl ?_
  refine r_iload_n (pc := 27) dX3_bendOf_27 rfl ?_
  refine r_ialdV (pc := 28) (j := i) (v := nI 6) dX3_bendOf_28 rfl rfl (by omega) (by decide) (h5) ?_
  refine r_swIn (pc := 29) (off := 157) (tgt := 186) dX3_bendOf_29 (by decide) (by decide) (by decide) (by decide) ?_
  refine r_iload_n (pc := 186) dX3_bendOf_186 rfl ?_
  refine r_i2l (pc := 187) dX3_bendOf_187 ?_
  refine r_aload_n (pc := 188) dX3_bendOf_188 rfl ?_
  refine r_getR (pc := 189) (b := 28) dX3_bendOf_189 fX3_19 rfl rfl ?_
  refine r_iload_n (pc := 192) dX3_bendOf_192 rfl ?_
  refine r_callS (pc := 193) (N := mX3_at) (rest := [.long ((nI 1).toInt64)]) (s_at_28 X _ I L a (by omega)) okX3_at lkX3_45 rfl rfl (Nat.le_of_ble_eq_true rfl) ⟨Nat.le_refl _, Nat.le_refl _⟩ dX3_bendOf_193 ?_
  refine r_iload_n (pc := 196) dX3_bendOf_196 rfl ?_
  refine r_iconst (pc := 197) (v := nI 1) dX3_bendOf_197 rfl ?_
  refine r_isub (pc := 198) dX3_bendOf_198 ?_
  refine r_callS (pc := 199) (N := mX3_power) (rest := [.long ((nI 1).toInt64)]) (s_power X _ I L (L 28 a) 0 (by omega)) okX3_power lkX3_75 rfl rfl (Nat.le_of_ble_eq_true rfl) ⟨Nat.le_refl _, Nat.le_refl _⟩ dX3_bendOf_199 ?_
  refine r_lmul (pc := 202) dX3_bendOf_202 ?_
  refine r_aload_n (pc := 203) dX3_bendOf_203 rfl ?_
  refine r_getR (pc := 204) (b := 31) dX3_bendOf_204 fX3_29 rfl rfl ?_
  refine r_iload_n (pc := 207) dX3_bendOf_207 rfl ?_
  refine r_callS (pc := 208) (N := mX3_at) (rest := [.long (((nI 1).toInt64) * (pw (L 28 a) 0))]) (s_at_31 X _ I L a (by omega)) okX3_at lkX3_45 rfl rfl (Nat.le_of_ble_eq_true rfl) ⟨Nat.le_refl _, Nat.le_refl _⟩ dX3_bendOf_208 ?_
  refine r_lmul (pc := 211) dX3_bendOf_211 ?_
  refine r_iload_n (pc := 212) dX3_bendOf_212 rfl ?_
  refine r_iload_n (pc := 213) dX3_bendOf_213 rfl ?_
  refine r_iconst (pc := 214) (v := nI 1) dX3_bendOf_214 rfl ?_
  refine r_isub (pc := 215) dX3_bendOf_215 ?_
  refine r_imul (pc := 216) dX3_bendOf_216 ?_
  refine r_i2l (pc := 217) dX3_bendOf_217 ?_
  refine r_aload_n (pc := 218) dX3_bendOf_218 rfl ?_
  refine r_getR (pc := 219) (b := 28) dX3_bendOf_219 fX3_19 rfl rfl ?_
  refine r_iload_n (pc := 222) dX3_bendOf_222 rfl ?_
  refine r_callS (pc := 223) (N := mX3_at) (rest := [.long (((nI 1) * ((nI 1) - (nI 1))).toInt64), .long ((((nI 1).toInt64) * (pw (L 28 a) 0)) * (L 31 a))]) (s_at_28 X _ I L a (by omega)) okX3_at lkX3_45 rfl rfl (Nat.le_of_ble_eq_true rfl) ⟨Nat.le_refl _, Nat.le_refl _⟩ dX3_bendOf_223 ?_
  refine r_iload_n (pc := 226) dX3_bendOf_226 rfl ?_
  refine r_iconst (pc := 227) (v := nI 2) dX3_bendOf_227 rfl ?_
  refine r_isub (pc := 228) dX3_bendOf_228 ?_
  refine r_callS (pc := 229) (N := mX3_power) (rest := [.long (((nI 1) * ((nI 1) - (nI 1))).toInt64), .long ((((nI 1).toInt64) * (pw (L 28 a) 0)) * (L 31 a))]) (s_power_n X _ I L (L 28 a) ((nI 1) - (nI 2)) (by decide)) okX3_power lkX3_75 rfl rfl (Nat.le_of_ble_eq_true rfl) ⟨Nat.le_refl _, Nat.le_refl _⟩ dX3_bendOf_229 ?_
  refine r_lmul (pc := 232) dX3_bendOf_232 ?_
  refine r_aload_n (pc := 233) dX3_bendOf_233 rfl ?_
  refine r_getR (pc := 234) (b := 29) dX3_bendOf_234 fX3_23 rfl rfl ?_
  refine r_iload_n (pc := 237) dX3_bendOf_237 rfl ?_
  refine r_callS (pc := 238) (N := mX3_at) (rest := [.long ((((nI 1) * ((nI 1) - (nI 1))).toInt64) * 1), .long ((((nI 1).toInt64) * (pw (L 28 a) 0)) * (L 31 a))]) (s_at_29 X _ I L a (by omega)) okX3_at lkX3_45 rfl rfl (Nat.le_of_ble_eq_true rfl) ⟨Nat.le_refl _, Nat.le_refl _⟩ dX3_bendOf_238 ?_
  refine r_lmul (pc := 241) dX3_bendOf_241 ?_
  refine r_aload_n (pc := 242) dX3_bendOf_242 rfl ?_
  refine r_getR (pc := 243) (b := 30) dX3_bendOf_243 fX3_26 rfl rfl ?_
  refine r_iload_n (pc := 246) dX3_bendOf_246 rfl ?_
  refine r_callS (pc := 247) (N := mX3_at) (rest := [.long (((((nI 1) * ((nI 1) - (nI 1))).toInt64) * 1) * (L 29 a)), .long ((((nI 1).toInt64) * (pw (L 28 a) 0)) * (L 31 a))]) (s_at_30 X _ I L a (by omega)) okX3_at lkX3_45 rfl rfl (Nat.le_of_ble_eq_true rfl) ⟨Nat.le_refl _, Nat.le_refl _⟩ dX3_bendOf_247 ?_
  refine r_lmul (pc := 250) dX3_bendOf_250 ?_
  refine r_ladd (pc := 251) dX3_bendOf_251 ?_
  exact r_lret dX3_bendOf_252 rfl (rfl) rfl
theorem bO_62 (X : Ctx) (d : Nat) (I : MI) (L : ML) (i a m : Nat) (ha : a < 80) (hm : m + 2 ≤ 4) (h5 : I 5 i = nI 6) (hi : i < 80) (h6 : I 6 i = nI a) (h7 : I 7 i = nI (m + 2)) : Sp X mX3_bendOf (d + 2) (0, 0) [.ref 27, .int (nI i)] shF I L (some (.long ((nI (m + 2)).toInt64 * pw (L 28 a) (m + 1) * L 31 a + (nI (m + 2) * (nI (m + 2) - nI 1)).toInt64 * pw (L 28 a) m * L 29 a * L 30 a)), shF, I, L) := by
  refine Sp.of okX3_bendOf [.ref 27, .int (nI i), .null, .null] 2 rfl (Nat.le_of_ble_eq_true rfl) ?_
  refine r_aload_n (pc := 0) dX3_bendOf_0 rfl ?_
  refine r_getR (pc := 1) (b := 4) dX3_bendOf_1 fX3_9 rfl rfl ?_
  refine r_getR (pc := 4) (b := 6) dX3_bendOf_4 fX3_61 rfl rfl ?_
  refine r_iload_n (pc := 7) dX3_bendOf_7 rfl ?_
  refine r_ialdV (pc := 8) (j := i) (v := nI a) dX3_bendOf_8 rfl rfl (by omega) (by decide) (h6) ?_
  refine r_istore_n (pc := 9) (lo1 := [.ref 27, .int (nI i), .int (nI a), .null]) dX3_bendOf_9 rfl (by decide) rfl ?_
  refine r_aload_n (pc := 10) dX3_bendOf_10 rfl ?_
  refine r_getR (pc := 11) (b := 4) dX3_bendOf_11 fX3_9 rfl rfl ?_
  refine r_getR (pc := 14) (b := 7) dX3_bendOf_14 fX3_65 rfl rfl ?_
  refine r_iload_n (pc := 17) dX3_bendOf_17 rfl ?_
  refine r_ialdV (pc := 18) (j := i) (v := nI (m + 2)) dX3_bendOf_18 rfl rfl (by omega) (by decide) (h7) ?_
  refine r_istore_n (pc := 19) (lo1 := [.ref 27, .int (nI i), .int (nI a), .int (nI (m + 2))]) dX3_bendOf_19 rfl (by decide) rfl ?_
  refine r_aload_n (pc := 20) dX3_bendOf_20 rfl ?_
  refine r_getR (pc := 21) (b := 4) dX3_bendOf_21 fX3_9 rfl rfl ?_
  refine r_getR (pc := 24) (b := 5) dX3_bendOf_24 fX3_68 rfl rfl ?_
  refine r_iload_n (pc := 27) dX3_bendOf_27 rfl ?_
  refine r_ialdV (pc := 28) (j := i) (v := nI 6) dX3_bendOf_28 rfl rfl (by omega) (by decide) (h5) ?_
  refine r_swIn (pc := 29) (off := 157) (tgt := 186) dX3_bendOf_29 (by decide) (by decide) (by decide) (by decide) ?_
  refine r_iload_n (pc := 186) dX3_bendOf_186 rfl ?_
  refine r_i2l (pc := 187) dX3_bendOf_187 ?_
  refine r_aload_n (pc := 188) dX3_bendOf_188 rfl ?_
  refine r_getR (pc := 189) (b := 28) dX3_bendOf_189 fX3_19 rfl rfl ?_
  refine r_iload_n (pc := 192) dX3_bendOf_192 rfl ?_
  refine r_callS (pc := 193) (N := mX3_at) (rest := [.long ((nI (m + 2)).toInt64)]) (s_at_28 X _ I L a (by omega)) okX3_at lkX3_45 rfl rfl (Nat.le_of_ble_eq_true rfl) ⟨Nat.le_refl _, Nat.le_refl _⟩ dX3_bendOf_193 ?_
  refine r_iload_n (pc := 196) dX3_bendOf_196 rfl ?_
  refine r_iconst (pc := 197) (v := nI 1) dX3_bendOf_197 rfl ?_
  refine r_isubN (pc := 198) dX3_bendOf_198 (by omega) ?_
  refine r_callS (pc := 199) (N := mX3_power) (rest := [.long ((nI (m + 2)).toInt64)]) (s_power X _ I L (L 28 a) (m + 1) (by omega)) okX3_power lkX3_75 rfl rfl (Nat.le_of_ble_eq_true rfl) ⟨Nat.le_refl _, Nat.le_refl _⟩ dX3_bendOf_199 ?_
  refine r_lmul (pc := 202) dX3_bendOf_202 ?_
  refine r_aload_n (pc := 203) dX3_bendOf_203 rfl ?_
  refine r_getR (pc := 204) (b := 31) dX3_bendOf_204 fX3_29 rfl rfl ?_
  refine r_iload_n (pc := 207) dX3_bendOf_207 rfl ?_
  refine r_callS (pc := 208) (N := mX3_at) (rest := [.long (((nI (m + 2)).toInt64) * (pw (L 28 a) (m + 1)))]) (s_at_31 X _ I L a (by omega)) okX3_at lkX3_45 rfl rfl (Nat.le_of_ble_eq_true rfl) ⟨Nat.le_refl _, Nat.le_refl _⟩ dX3_bendOf_208 ?_
  refine r_lmul (pc := 211) dX3_bendOf_211 ?_
  refine r_iload_n (pc := 212) dX3_bendOf_212 rfl ?_
  refine r_iload_n (pc := 213) dX3_bendOf_213 rfl ?_
  refine r_iconst (pc := 214) (v := nI 1) dX3_bendOf_214 rfl ?_
  refine r_isub (pc := 215) dX3_bendOf_215 ?_
  refine r_imul (pc := 216) dX3_bendOf_216 ?_
  refine r_i2l (pc := 217) dX3_bendOf_217 ?_
  refine r_aload_n (pc := 218) dX3_bendOf_218 rfl ?_
  refine r_getR (pc := 219) (b := 28) dX3_bendOf_219 fX3_19 rfl rfl ?_
  refine r_iload_n (pc := 222) dX3_bendOf_222 rfl ?_
  refine r_callS (pc := 223) (N := mX3_at) (rest := [.long (((nI (m + 2)) * ((nI (m + 2)) - (nI 1))).toInt64), .long ((((nI (m + 2)).toInt64) * (pw (L 28 a) (m + 1))) * (L 31 a))]) (s_at_28 X _ I L a (by omega)) okX3_at lkX3_45 rfl rfl (Nat.le_of_ble_eq_true rfl) ⟨Nat.le_refl _, Nat.le_refl _⟩ dX3_bendOf_223 ?_
  refine r_iload_n (pc := 226) dX3_bendOf_226 rfl ?_
  refine r_iconst (pc := 227) (v := nI 2) dX3_bendOf_227 rfl ?_
  refine r_isubN (pc := 228) dX3_bendOf_228 (by omega) ?_
  refine r_callS (pc := 229) (N := mX3_power) (rest := [.long (((nI (m + 2)) * ((nI (m + 2)) - (nI 1))).toInt64), .long ((((nI (m + 2)).toInt64) * (pw (L 28 a) (m + 1))) * (L 31 a))]) (s_power X _ I L (L 28 a) m (by omega)) okX3_power lkX3_75 rfl rfl (Nat.le_of_ble_eq_true rfl) ⟨Nat.le_refl _, Nat.le_refl _⟩ dX3_bendOf_229 ?_
  refine r_lmul (pc := 232) dX3_bendOf_232 ?_
  refine r_aload_n (pc := 233) dX3_bendOf_233 rfl ?_
  refine r_getR (pc := 234) (b := 29) dX3_bendOf_234 fX3_23 rfl rfl ?_
  refine r_iload_n (pc := 237) dX3_bendOf_237 rfl ?_
  refine r_callS (pc := 238) (N := mX3_at) (rest := [.long ((((nI (m + 2)) * ((nI (m + 2)) - (nI 1))).toInt64) * (pw (L 28 a) m)), .long ((((nI (m + 2)).toInt64) * (pw (L 28 a) (m + 1))) * (L 31 a))]) (s_at_29 X _ I L a (by omega)) okX3_at lkX3_45 rfl rfl (Nat.le_of_ble_eq_true rfl) ⟨Nat.le_refl _, Nat.le_refl _⟩ dX3_bendOf_238 ?_
  refine r_lmul (pc := 241) dX3_bendOf_241 ?_
  refine r_aload_n (pc := 242) dX3_bendOf_242 rfl ?_
  refine r_getR (pc := 243) (b := 30) dX3_bendOf_243 fX3_26 rfl rfl ?_
  refine r_iload_n (pc := 246) dX3_bendOf_246 rfl ?_
  refine r_callS (pc := 247) (N := mX3_at) (rest := [.long (((((nI (m + 2)) * ((nI (m + 2)) - (nI 1))).toInt64) * (pw (L 28 a) m)) * (L 29 a)), .long ((((nI (m + 2)).toInt64) * (pw (L 28 a) (m + 1))) * (L 31 a))]) (s_at_30 X _ I L a (by omega)) okX3_at lkX3_45 rfl rfl (Nat.le_of_ble_eq_true rfl) ⟨Nat.le_refl _, Nat.le_refl _⟩ dX3_bendOf_247 ?_
  refine r_lmul (pc := 250) dX3_bendOf_250 ?_
  refine r_ladd (pc := 251) dX3_bendOf_251 ?_
  exact r_lret dX3_bendOf_252 rfl (rfl) rfl
theorem bO_7 (X : Ctx) (d : Nat) (I : MI) (L : ML) (i : Nat) (a : Nat) (ha : a < 80) (h5 : I 5 i = nI 7) (hi : i < 80) (h6 : I 6 i = nI a) : Sp X mX3_bendOf (d + 2) (0, 0) [.ref 27, .int (nI i)] shF I L (some (.long (-(L 31 a))), shF, I, L) := by
  refine Sp.of okX3_bendOf [.ref 27, .int (nI i), .null, .null] 2 rfl (Nat.le_of_ble_eq_true rfl) ?_
  refine r_aload_n (pc := 0) dX3_bendOf_0 rfl ?_
  refine r_getR (pc := 1) (b := 4) dX3_bendOf_1 fX3_9 rfl rfl ?_
  refine r_getR (pc := 4) (b := 6) dX3_bendOf_4 fX3_61 rfl rfl ?_
  refine r_iload_n (pc := 7) dX3_bendOf_7 rfl ?_
  refine r_ialdV (pc := 8) (j := i) (v := nI a) dX3_bendOf_8 rfl rfl (by omega) (by decide) (h6) ?_
  refine r_istore_n (pc := 9) (lo1 := [.ref 27, .int (nI i), .int (nI a), .null]) dX3_bendOf_9 rfl (by decide) rfl ?_
  refine r_aload_n (pc := 10) dX3_bendOf_10 rfl ?_
  refine r_getR (pc := 11) (b := 4) dX3_bendOf_11 fX3_9 rfl rfl ?_
  refine r_getR (pc := 14) (b := 7) dX3_bendOf_14 fX3_65 rfl rfl ?_
  refine r_iload_n (pc := 17) dX3_bendOf_17 rfl ?_
  refine r_iald (pc := 18) (j := i) dX3_bendOf_18 rfl rfl (by omega) (by decide) ?_
  refine r_istore_n (pc := 19) (lo1 := [.ref 27, .int (nI i), .int (nI a), .int (I 7 i)]) dX3_bendOf_19 rfl (by decide) rfl ?_
  refine r_aload_n (pc := 20) dX3_bendOf_20 rfl ?_
  refine r_getR (pc := 21) (b := 4) dX3_bendOf_21 fX3_9 rfl rfl ?_
  refine r_getR (pc := 24) (b := 5) dX3_bendOf_24 fX3_68 rfl rfl ?_
  refine r_iload_n (pc := 27) dX3_bendOf_27 rfl ?_
  refine r_ialdV (pc := 28) (j := i) (v := nI 7) dX3_bendOf_28 rfl rfl (by omega) (by decide) (h5) ?_
  refine r_swIn (pc := 29) (off := 224) (tgt := 253) dX3_bendOf_29 (by decide) (by decide) (by decide) (by decide) ?_
  refine r_aload_n (pc := 253) dX3_bendOf_253 rfl ?_
  refine r_getR (pc := 254) (b := 31) dX3_bendOf_254 fX3_29 rfl rfl ?_
  refine r_iload_n (pc := 257) dX3_bendOf_257 rfl ?_
  refine r_callS (pc := 258) (N := mX3_at) (rest := []) (s_at_31 X _ I L a (by omega)) okX3_at lkX3_45 rfl rfl (Nat.le_of_ble_eq_true rfl) ⟨Nat.le_refl _, Nat.le_refl _⟩ dX3_bendOf_258 ?_
  refine r_lneg (pc := 261) dX3_bendOf_261 ?_
  exact r_lret dX3_bendOf_262 rfl (rfl) rfl
theorem s_bendOf (X : Ctx) (d : Nat) (I : MI) (L : ML) (i : Nat)  (hi : i < 80) (hN : NW I i) : Sp X mX3_bendOf (d + 2) (0, 0) [.ref 27, .int (nI i)] shF I L (some (.long (bO I (L 28) (L 29) (L 30) (L 31) i)), shF, I, L) := by
  obtain ⟨k, hk, h5, h1, h2, h3, h4⟩ := hN
  rcases (by omega : k = 0 ∨ k = 1 ∨ k = 2 ∨ k = 3 ∨ k = 4 ∨ k = 5 ∨ k = 6 ∨ k = 7) with rfl | rfl | rfl | rfl | rfl | rfl | rfl | rfl
  · have := bO_0 X d I L i (I 6 i) h5 hi rfl
    unfold bO; rw [if_pos h5]
    exact this
  · obtain ⟨j, hj, h6⟩ := h1 rfl
    have := bO_1 X d I L i j hj h5 hi h6
    unfold bO; rw [if_neg (kne h5 (b := 0) (by decide) (by decide) (by decide)), if_pos h5]
    exact this
  · obtain ⟨a, ha, h6⟩ := h2 (by decide)
    have := bO_2 X d I L i a (by omega) h5 hi h6
    unfold bO; rw [if_neg (kne h5 (b := 0) (by decide) (by decide) (by decide)), if_neg (kne h5 (b := 1) (by decide) (by decide) (by decide)), if_neg (kne h5 (b := 3) (by decide) (by decide) (by decide)), if_neg (kne h5 (b := 4) (by decide) (by decide) (by decide)), if_neg (kne h5 (b := 5) (by decide) (by decide) (by decide)), if_neg (kne h5 (b := 6) (by decide) (by decide) (by decide)), if_neg (kne h5 (b := 7) (by decide) (by decide) (by decide)), h6, nI_clamp (by omega)]
    exact this
  · obtain ⟨a, ha, h6⟩ := h2 (by decide)
    obtain ⟨b, hb, h7⟩ := h3 (by decide) (by decide)
    have := bO_3 X d I L i a b (by omega) (by omega) h5 hi h6 h7
    unfold bO; rw [if_neg (kne h5 (b := 0) (by decide) (by decide) (by decide)), if_neg (kne h5 (b := 1) (by decide) (by decide) (by decide)), if_pos h5, h6, h7, nI_clamp (by omega), nI_clamp (by omega)]
    exact this
  · obtain ⟨a, ha, h6⟩ := h2 (by decide)
    obtain ⟨b, hb, h7⟩ := h3 (by decide) (by decide)
    have := bO_4 X d I L i a b (by omega) (by omega) h5 hi h6 h7
    unfold bO; rw [if_neg (kne h5 (b := 0) (by decide) (by decide) (by decide)), if_neg (kne h5 (b := 1) (by decide) (by decide) (by decide)), if_neg (kne h5 (b := 3) (by decide) (by decide) (by decide)), if_pos h5, h6, h7, nI_clamp (by omega), nI_clamp (by omega)]
    exact this
  · obtain ⟨a, ha, h6⟩ := h2 (by decide)
    obtain ⟨b, hb, h7⟩ := h3 (by decide) (by decide)
    have := bO_5 X d I L i a b (by omega) (by omega) h5 hi h6 h7
    unfold bO; rw [if_neg (kne h5 (b := 0) (by decide) (by decide) (by decide)), if_neg (kne h5 (b := 1) (by decide) (by decide) (by decide)), if_neg (kne h5 (b := 3) (by decide) (by decide) (by decide)), if_neg (kne h5 (b := 4) (by decide) (by decide) (by decide)), if_pos h5, h6, h7, nI_clamp (by omega), nI_clamp (by omega)]
    exact this
  · obtain ⟨a, ha, h6⟩ := h2 (by decide)
    obtain ⟨m, hm, h7⟩ := h4 rfl
    rcases (by omega : m = 0 ∨ m = 1 ∨ 2 ≤ m) with rfl | rfl | h9
    · have := bO_60 X d I L i a (by omega) h5 hi h6 h7
      unfold bO; rw [if_neg (kne h5 (b := 0) (by decide) (by decide) (by decide)), if_neg (kne h5 (b := 1) (by decide) (by decide) (by decide)), if_neg (kne h5 (b := 3) (by decide) (by decide) (by decide)), if_neg (kne h5 (b := 4) (by decide) (by decide) (by decide)), if_neg (kne h5 (b := 5) (by decide) (by decide) (by decide)), if_pos h5, h6, h7, nI_clamp (by omega), nI_clamp (by omega)]
      exact this
    · have := bO_61 X d I L i a (by omega) h5 hi h6 h7
      unfold bO; rw [if_neg (kne h5 (b := 0) (by decide) (by decide) (by decide)), if_neg (kne h5 (b := 1) (by decide) (by decide) (by decide)), if_neg (kne h5 (b := 3) (by decide) (by decide) (by decide)), if_neg (kne h5 (b := 4) (by decide) (by decide) (by decide)), if_neg (kne h5 (b := 5) (by decide) (by decide) (by decide)), if_pos h5, h6, h7, nI_clamp (by omega), nI_clamp (by omega)]
      exact this
    · obtain ⟨m, rfl⟩ : ∃ z, m = z + 2 := ⟨m - 2, by omega⟩
      have := bO_62 X d I L i a m (by omega) hm h5 hi h6 h7
      unfold bO; rw [if_neg (kne h5 (b := 0) (by decide) (by decide) (by decide)), if_neg (kne h5 (b := 1) (by decide) (by decide) (by decide)), if_neg (kne h5 (b := 3) (by decide) (by decide) (by decide)), if_neg (kne h5 (b := 4) (by decide) (by decide) (by decide)), if_neg (kne h5 (b := 5) (by decide) (by decide) (by decide)), if_pos h5, h6, h7, nI_clamp (by omega), nI_clamp (by omega)]
      exact this
  · obtain ⟨a, ha, h6⟩ := h2 (by decide)
    have := bO_7 X d I L i a (by omega) h5 hi h6
    unfold bO; rw [if_neg (kne h5 (b := 0) (by decide) (by decide) (by decide)), if_neg (kne h5 (b := 1) (by decide) (by decide) (by decide)), if_neg (kne h5 (b := 3) (by decide) (by decide) (by decide)), if_neg (kne h5 (b := 4) (by decide) (by decide) (by decide)), if_neg (kne h5 (b := 5) (by decide) (by decide) (by decide)), if_neg (kne h5 (b := 6) (by decide) (by decide) (by decide)), if_pos h5, h6, nI_clamp (by omega)]
    exact this
theorem lp_walkWorth (X : Ctx) (d : Nat) (I : MI) (L : ML) (n : Nat) (s dd : Int32) (hn : n ≤ 80) (hN : ∀ j, j < n → NW I j) : ∀ (z i : Nat), i + z = n → Ev X mX3_walkWorth (d + 3) (0, 0) (0, 0) (none, shF, I, (t2 L 28 (tb (wO I s dd) (L 28) n))) 3 [.ref 27, .int (nI n), .int (s), .int (dd), .int (nI i)] [] shF I (t2 L 28 (tb (wO I s dd) (L 28) i)) := by
  intro z
  induction z with
  | zero =>
    intro i hi
    have hi2 : i = n := by omega
    rw [hi2]
    refine r_iload (pc := 3) dX3_walkWorth_3 rfl ?_
    refine r_iload_n (pc := 5) dX3_walkWorth_5 rfl ?_
    refine r_icmpN_ge (pc := 6) (tgt := 37) dX3_walkWorth_6 (by decide) (by omega) (by omega) (fun c1 => ?_) (fun c1 => ?_)
    · exact r_vret dX3_walkWorth_37 rfl (rfl) rfl
    · exact absurd c1 (by omega)
  | succ z ih =>
    intro i hi
    refine r_iload (pc := 3) dX3_walkWorth_3 rfl ?_
    refine r_iload_n (pc := 5) dX3_walkWorth_5 rfl ?_
    refine r_icmpN_ge (pc := 6) (tgt := 37) dX3_walkWorth_6 (by decide) (by omega) (by omega) (fun c2 => ?_) (fun c2 => ?_)
    · exact absurd c2 (by omega)
    · refine r_iload (pc := 9) dX3_walkWorth_9 rfl ?_
      refine r_bipush (pc := 11) dX3_walkWorth_11 bp_80 ?_
      refine r_icmpN_ge (pc := 13) (tgt := 37) dX3_walkWorth_13 (by decide) (by omega) (by omega) (fun c3 => ?_) (fun c3 => ?_)
      · exact absurd c3 (by omega)
      · refine r_aload_n (pc := 16) dX3_walkWorth_16 rfl ?_
        refine r_getR (pc := 17) (b := 28) dX3_walkWorth_17 fX3_19 rfl rfl ?_
        refine r_iload (pc := 20) dX3_walkWorth_20 rfl ?_
        refine r_aload_n (pc := 22) dX3_walkWorth_22 rfl ?_
        refine r_iload (pc := 23) dX3_walkWorth_23 rfl ?_
        refine r_iload_n (pc := 25) dX3_walkWorth_25 rfl ?_
        refine r_iload_n (pc := 26) dX3_walkWorth_26 rfl ?_
        refine r_callV (pc := 27) (N := mX3_worthOf) (rest := [.int (nI i), .ref 28]) (s_worthOf X _ I (t2 L 28 (tb (wO I s dd) (L 28) i)) i s dd (by omega) (hN _ (by omega))) okX3_worthOf lkX3_57 rfl (by decide) rfl rfl rfl (Nat.le_of_ble_eq_true rfl) ⟨Nat.le_refl _, Nat.le_refl _⟩ dX3_walkWorth_27 ?_
        refine r_last (pc := 30) (j := i) dX3_walkWorth_30 rfl rfl (by omega) (by decide) ?_
        refine r_iinc (pc := 31) (v := nI (i + 1)) (lo1 := [.ref 27, .int (nI n), .int (s), .int (dd), .int (nI (i + 1))]) dX3_walkWorth_31 rfl rfl (ii1 _) (by decide) rfl ?_
        refine r_goto (pc := 34) (tgt := 3) dX3_walkWorth_34 (by decide) ?_
        refine r_L (L' := (t2 L 28 (tb (wO I s dd) (L 28) (i + 1)))) (t2_v2 _ _ _ _ _) ?_
        exact ih (i + 1) (by omega)
theorem s_walkWorth (X : Ctx) (d : Nat) (I : MI) (L : ML) (n : Nat) (s dd : Int32) (hn : n ≤ 80) (hN : ∀ j, j < n → NW I j) : Sp X mX3_walkWorth (d + 3) (0, 0) [.ref 27, .int (nI n), .int (s), .int (dd)] shF I L (none, shF, I, (t2 L 28 (tb (wO I s dd) (L 28) n))) := by
  refine Sp.of okX3_walkWorth [.ref 27, .int (nI n), .int (s), .int (dd), .null] 1 rfl (Nat.le_of_ble_eq_true rfl) ?_
  refine r_iconst (pc := 0) (v := nI 0) dX3_walkWorth_0 rfl ?_
  refine r_istore (pc := 1) (lo1 := [.ref 27, .int (nI n), .int (s), .int (dd), .int (nI 0)]) dX3_walkWorth_1 rfl (by decide) rfl ?_
  refine r_L (t2_self L 28).symm ?_
  exact lp_walkWorth X d I L n s dd hn hN n 0 (by omega)
theorem lp_walkSlope_29 (X : Ctx) (d : Nat) (I : MI) (L : ML) (n : Nat) (s : Int32) (hn : n ≤ 80) (hN : ∀ j, j < n → NW I j) : ∀ (z i : Nat), i + z = n → Ev X mX3_walkSlope (d + 3) (0, 0) (0, 0) (none, shF, I, (t2 L 29 (tb (sO I s (L 28)) (L 29) n))) 3 [.ref 27, .ref 29, .int (nI n), .int (s), .int (nI i)] [] shF I (t2 L 29 (tb (sO I s (L 28)) (L 29) i)) := by
  intro z
  induction z with
  | zero =>
    intro i hi
    have hi2 : i = n := by omega
    rw [hi2]
    refine r_iload (pc := 3) dX3_walkSlope_3 rfl ?_
    refine r_iload_n (pc := 5) dX3_walkSlope_5 rfl ?_
    refine r_icmpN_ge (pc := 6) (tgt := 41) dX3_walkSlope_6 (by decide) (by omega) (by omega) (fun c1 => ?_) (fun c1 => ?_)
    · exact r_vret dX3_walkSlope_41 rfl (rfl) rfl
    · exact absurd c1 (by omega)
  | succ z ih =>
    intro i hi
    refine r_iload (pc := 3) dX3_walkSlope_3 rfl ?_
    refine r_iload_n (pc := 5) dX3_walkSlope_5 rfl ?_
    refine r_icmpN_ge (pc := 6) (tgt := 41) dX3_walkSlope_6 (by decide) (by omega) (by omega) (fun c2 => ?_) (fun c2 => ?_)
    · exact absurd c2 (by omega)
    · refine r_iload (pc := 9) dX3_walkSlope_9 rfl ?_
      refine r_aload_n (pc := 11) dX3_walkSlope_11 rfl ?_
      refine r_alen (pc := 12) (n := 80) dX3_walkSlope_12 rfl (by decide) ?_
      refine r_icmpN_ge (pc := 13) (tgt := 41) dX3_walkSlope_13 (by decide) (by omega) (by omega) (fun c3 => ?_) (fun c3 => ?_)
      · exact absurd c3 (by omega)
      · refine r_iload (pc := 16) dX3_walkSlope_16 rfl ?_
        refine r_bipush (pc := 18) dX3_walkSlope_18 bp_80 ?_
        refine r_icmpN_ge (pc := 20) (tgt := 41) dX3_walkSlope_20 (by decide) (by omega) (by omega) (fun c4 => ?_) (fun c4 => ?_)
        · exact absurd c4 (by omega)
        · refine r_aload_n (pc := 23) dX3_walkSlope_23 rfl ?_
          refine r_iload (pc := 24) dX3_walkSlope_24 rfl ?_
          refine r_aload_n (pc := 26) dX3_walkSlope_26 rfl ?_
          refine r_aload_n (pc := 27) dX3_walkSlope_27 rfl ?_
          refine r_iload (pc := 28) dX3_walkSlope_28 rfl ?_
          refine r_iload_n (pc := 30) dX3_walkSlope_30 rfl ?_
          refine r_callV (pc := 31) (N := mX3_slopeOf) (rest := [.int (nI i), .ref 29]) (s_slopeOf_29 X _ I (t2 L 29 (tb (sO I s (L 28)) (L 29) i)) i s (by omega) (hN _ (by omega))) okX3_slopeOf lkX3_79 rfl (by decide) rfl rfl rfl (Nat.le_of_ble_eq_true rfl) ⟨Nat.le_refl _, Nat.le_refl _⟩ dX3_walkSlope_31 ?_
          refine r_last (pc := 34) (j := i) dX3_walkSlope_34 rfl rfl (by omega) (by decide) ?_
          refine r_iinc (pc := 35) (v := nI (i + 1)) (lo1 := [.ref 27, .ref 29, .int (nI n), .int (s), .int (nI (i + 1))]) dX3_walkSlope_35 rfl rfl (ii1 _) (by decide) rfl ?_
          refine r_goto (pc := 38) (tgt := 3) dX3_walkSlope_38 (by decide) ?_
          refine r_L (L' := (t2 L 29 (tb (sO I s (L 28)) (L 29) (i + 1)))) (t2_v2 _ _ _ _ _) ?_
          exact ih (i + 1) (by omega)
theorem s_walkSlope_29 (X : Ctx) (d : Nat) (I : MI) (L : ML) (n : Nat) (s : Int32) (hn : n ≤ 80) (hN : ∀ j, j < n → NW I j) : Sp X mX3_walkSlope (d + 3) (0, 0) [.ref 27, .ref 29, .int (nI n), .int (s)] shF I L (none, shF, I, (t2 L 29 (tb (sO I s (L 28)) (L 29) n))) := by
  refine Sp.of okX3_walkSlope [.ref 27, .ref 29, .int (nI n), .int (s), .null] 1 rfl (Nat.le_of_ble_eq_true rfl) ?_
  refine r_iconst (pc := 0) (v := nI 0) dX3_walkSlope_0 rfl ?_
  refine r_istore (pc := 1) (lo1 := [.ref 27, .ref 29, .int (nI n), .int (s), .int (nI 0)]) dX3_walkSlope_1 rfl (by decide) rfl ?_
  refine r_L (t2_self L 29).symm ?_
  exact lp_walkSlope_29 X d I L n s hn hN n 0 (by omega)
theorem lp_walkSlope_30 (X : Ctx) (d : Nat) (I : MI) (L : ML) (n : Nat) (s : Int32) (hn : n ≤ 80) (hN : ∀ j, j < n → NW I j) : ∀ (z i : Nat), i + z = n → Ev X mX3_walkSlope (d + 3) (0, 0) (0, 0) (none, shF, I, (t2 L 30 (tb (sO I s (L 28)) (L 30) n))) 3 [.ref 27, .ref 30, .int (nI n), .int (s), .int (nI i)] [] shF I (t2 L 30 (tb (sO I s (L 28)) (L 30) i)) := by
  intro z
  induction z with
  | zero =>
    intro i hi
    have hi2 : i = n := by omega
    rw [hi2]
    refine r_iload (pc := 3) dX3_walkSlope_3 rfl ?_
    refine r_iload_n (pc := 5) dX3_walkSlope_5 rfl ?_
    refine r_icmpN_ge (pc := 6) (tgt := 41) dX3_walkSlope_6 (by decide) (by omega) (by omega) (fun c1 => ?_) (fun c1 => ?_)
    · exact r_vret dX3_walkSlope_41 rfl (rfl) rfl
    · exact absurd c1 (by omega)
  | succ z ih =>
    intro i hi
    refine r_iload (pc := 3) dX3_walkSlope_3 rfl ?_
    refine r_iload_n (pc := 5) dX3_walkSlope_5 rfl ?_
    refine r_icmpN_ge (pc := 6) (tgt := 41) dX3_walkSlope_6 (by decide) (by omega) (by omega) (fun c2 => ?_) (fun c2 => ?_)
    · exact absurd c2 (by omega)
    · refine r_iload (pc := 9) dX3_walkSlope_9 rfl ?_
      refine r_aload_n (pc := 11) dX3_walkSlope_11 rfl ?_
      refine r_alen (pc := 12) (n := 80) dX3_walkSlope_12 rfl (by decide) ?_
      refine r_icmpN_ge (pc := 13) (tgt := 41) dX3_walkSlope_13 (by decide) (by omega) (by omega) (fun c3 => ?_) (fun c3 => ?_)
      · exact absurd c3 (by omega)
      · refine r_iload (pc := 16) dX3_walkSlope_16 rfl ?_
        refine r_bipush (pc := 18) dX3_walkSlope_18 bp_80 ?_
        refine r_icmpN_ge (pc := 20) (tgt := 41) dX3_walkSlope_20 (by decide) (by omega) (by omega) (fun c4 => ?_) (fun c4 => ?_)
        · exact absurd c4 (by omega)
        · refine r_aload_n (pc := 23) dX3_walkSlope_23 rfl ?_
          refine r_iload (pc := 24) dX3_walkSlope_24 rfl ?_
          refine r_aload_n (pc := 26) dX3_walkSlope_26 rfl ?_
          refine r_aload_n (pc := 27) dX3_walkSlope_27 rfl ?_
          refine r_iload (pc := 28) dX3_walkSlope_28 rfl ?_
          refine r_iload_n (pc := 30) dX3_walkSlope_30 rfl ?_
          refine r_callV (pc := 31) (N := mX3_slopeOf) (rest := [.int (nI i), .ref 30]) (s_slopeOf_30 X _ I (t2 L 30 (tb (sO I s (L 28)) (L 30) i)) i s (by omega) (hN _ (by omega))) okX3_slopeOf lkX3_79 rfl (by decide) rfl rfl rfl (Nat.le_of_ble_eq_true rfl) ⟨Nat.le_refl _, Nat.le_refl _⟩ dX3_walkSlope_31 ?_
          refine r_last (pc := 34) (j := i) dX3_walkSlope_34 rfl rfl (by omega) (by decide) ?_
          refine r_iinc (pc := 35) (v := nI (i + 1)) (lo1 := [.ref 27, .ref 30, .int (nI n), .int (s), .int (nI (i + 1))]) dX3_walkSlope_35 rfl rfl (ii1 _) (by decide) rfl ?_
          refine r_goto (pc := 38) (tgt := 3) dX3_walkSlope_38 (by decide) ?_
          refine r_L (L' := (t2 L 30 (tb (sO I s (L 28)) (L 30) (i + 1)))) (t2_v2 _ _ _ _ _) ?_
          exact ih (i + 1) (by omega)
theorem s_walkSlope_30 (X : Ctx) (d : Nat) (I : MI) (L : ML) (n : Nat) (s : Int32) (hn : n ≤ 80) (hN : ∀ j, j < n → NW I j) : Sp X mX3_walkSlope (d + 3) (0, 0) [.ref 27, .ref 30, .int (nI n), .int (s)] shF I L (none, shF, I, (t2 L 30 (tb (sO I s (L 28)) (L 30) n))) := by
  refine Sp.of okX3_walkSlope [.ref 27, .ref 30, .int (nI n), .int (s), .null] 1 rfl (Nat.le_of_ble_eq_true rfl) ?_
  refine r_iconst (pc := 0) (v := nI 0) dX3_walkSlope_0 rfl ?_
  refine r_istore (pc := 1) (lo1 := [.ref 27, .ref 30, .int (nI n), .int (s), .int (nI 0)]) dX3_walkSlope_1 rfl (by decide) rfl ?_
  refine r_L (t2_self L 30).symm ?_
  exact lp_walkSlope_30 X d I L n s hn hN n 0 (by omega)
theorem lp_walkBend (X : Ctx) (d : Nat) (I : MI) (L : ML) (n : Nat) (hn : n ≤ 80) (hN : ∀ j, j < n → NW I j) : ∀ (z i : Nat), i + z = n → Ev X mX3_walkBend (d + 3) (0, 0) (0, 0) (none, shF, I, (t2 L 31 (tb (bO I (L 28) (L 29) (L 30)) (L 31) n))) 2 [.ref 27, .int (nI n), .int (nI i)] [] shF I (t2 L 31 (tb (bO I (L 28) (L 29) (L 30)) (L 31) i)) := by
  intro z
  induction z with
  | zero =>
    intro i hi
    have hi2 : i = n := by omega
    rw [hi2]
    refine r_iload_n (pc := 2) dX3_walkBend_2 rfl ?_
    refine r_iload_n (pc := 3) dX3_walkBend_3 rfl ?_
    refine r_icmpN_ge (pc := 4) (tgt := 30) dX3_walkBend_4 (by decide) (by omega) (by omega) (fun c1 => ?_) (fun c1 => ?_)
    · exact r_vret dX3_walkBend_30 rfl (rfl) rfl
    · exact absurd c1 (by omega)
  | succ z ih =>
    intro i hi
    refine r_iload_n (pc := 2) dX3_walkBend_2 rfl ?_
    refine r_iload_n (pc := 3) dX3_walkBend_3 rfl ?_
    refine r_icmpN_ge (pc := 4) (tgt := 30) dX3_walkBend_4 (by decide) (by omega) (by omega) (fun c2 => ?_) (fun c2 => ?_)
    · exact absurd c2 (by omega)
    · refine r_iload_n (pc := 7) dX3_walkBend_7 rfl ?_
      refine r_bipush (pc := 8) dX3_walkBend_8 bp_80 ?_
      refine r_icmpN_ge (pc := 10) (tgt := 30) dX3_walkBend_10 (by decide) (by omega) (by omega) (fun c3 => ?_) (fun c3 => ?_)
      · exact absurd c3 (by omega)
      · refine r_aload_n (pc := 13) dX3_walkBend_13 rfl ?_
        refine r_getR (pc := 14) (b := 31) dX3_walkBend_14 fX3_29 rfl rfl ?_
        refine r_iload_n (pc := 17) dX3_walkBend_17 rfl ?_
        refine r_aload_n (pc := 18) dX3_walkBend_18 rfl ?_
        refine r_iload_n (pc := 19) dX3_walkBend_19 rfl ?_
        refine r_callV (pc := 20) (N := mX3_bendOf) (rest := [.int (nI i), .ref 31]) (s_bendOf X _ I (t2 L 31 (tb (bO I (L 28) (L 29) (L 30)) (L 31) i)) i (by omega) (hN _ (by omega))) okX3_bendOf lkX3_83 rfl (by decide) rfl rfl rfl (Nat.le_of_ble_eq_true rfl) ⟨Nat.le_refl _, Nat.le_refl _⟩ dX3_walkBend_20 ?_
        refine r_last (pc := 23) (j := i) dX3_walkBend_23 rfl rfl (by omega) (by decide) ?_
        refine r_iinc (pc := 24) (v := nI (i + 1)) (lo1 := [.ref 27, .int (nI n), .int (nI (i + 1))]) dX3_walkBend_24 rfl rfl (ii1 _) (by decide) rfl ?_
        refine r_goto (pc := 27) (tgt := 2) dX3_walkBend_27 (by decide) ?_
        refine r_L (L' := (t2 L 31 (tb (bO I (L 28) (L 29) (L 30)) (L 31) (i + 1)))) (t2_v2 _ _ _ _ _) ?_
        exact ih (i + 1) (by omega)
theorem s_walkBend (X : Ctx) (d : Nat) (I : MI) (L : ML) (n : Nat) (hn : n ≤ 80) (hN : ∀ j, j < n → NW I j) : Sp X mX3_walkBend (d + 3) (0, 0) [.ref 27, .int (nI n)] shF I L (none, shF, I, (t2 L 31 (tb (bO I (L 28) (L 29) (L 30)) (L 31) n))) := by
  refine Sp.of okX3_walkBend [.ref 27, .int (nI n), .null] 1 rfl (Nat.le_of_ble_eq_true rfl) ?_
  refine r_iconst (pc := 0) (v := nI 0) dX3_walkBend_0 rfl ?_
  refine r_istore_n (pc := 1) (lo1 := [.ref 27, .int (nI n), .int (nI 0)]) dX3_walkBend_1 rfl (by decide) rfl ?_
  refine r_L (t2_self L 31).symm ?_
  exact lp_walkBend X d I L n hn hN n 0 (by omega)
theorem s_sworth (X : Ctx) (d : Nat) (I : MI) (L : ML) (s dd : Int32) (f n : Nat) (hf : f < 4) (hz : I 10 f = nI (n + 1)) (hn : n + 1 ≤ 80) (hN : ∀ j, j < n + 1 → NW I j) : Sp X mX3_worth (d + 4) (0, 0) [.ref 27, .int (nI f), .int (s), .int (dd)] shF I L (some (.long (tb (wO I s dd) (L 28) (n + 1) n)), shF, I, (t2 L 28 (tb (wO I s dd) (L 28) (n + 1)))) := by
  refine Sp.of okX3_worth [.ref 27, .int (nI f), .int (s), .int (dd)] 0 rfl (Nat.le_of_ble_eq_true rfl) ?_
  refine r_aload_n (pc := 0) dX3_worth_0 rfl ?_
  refine r_aload_n (pc := 1) dX3_worth_1 rfl ?_
  refine r_getR (pc := 2) (b := 4) dX3_worth_2 fX3_9 rfl rfl ?_
  refine r_iload_n (pc := 5) dX3_worth_5 rfl ?_
  refine r_callV (pc := 6) (N := mX4_stop) (rest := [.ref 27]) (s_stop_4 X _ I L f (n + 1) (by omega) (hz)) okX4_stop lkX3_32 rfl (by decide) rfl rfl rfl (Nat.le_of_ble_eq_true rfl) ⟨Nat.le_refl _, Nat.le_refl _⟩ dX3_worth_6 ?_
  refine r_iload_n (pc := 9) dX3_worth_9 rfl ?_
  refine r_iload_n (pc := 10) dX3_worth_10 rfl ?_
  refine r_callV (pc := 11) (N := mX3_walkWorth) (rest := []) (s_walkWorth X _ I L (n + 1) s dd hn hN) okX3_walkWorth lkX3_38 rfl (by decide) rfl rfl rfl (Nat.le_of_ble_eq_true rfl) ⟨Nat.le_refl _, Nat.le_refl _⟩ dX3_worth_11 ?_
  refine r_aload_n (pc := 14) dX3_worth_14 rfl ?_
  refine r_getR (pc := 15) (b := 28) dX3_worth_15 fX3_19 rfl rfl ?_
  refine r_aload_n (pc := 18) dX3_worth_18 rfl ?_
  refine r_getR (pc := 19) (b := 4) dX3_worth_19 fX3_9 rfl rfl ?_
  refine r_iload_n (pc := 22) dX3_worth_22 rfl ?_
  refine r_callV (pc := 23) (N := mX4_root) (rest := [.ref 28]) (s_root_4 X _ I (t2 L 28 (tb (wO I s dd) (L 28) (n + 1))) f n (by omega) (hz)) okX4_root lkX3_42 rfl (by decide) rfl rfl rfl (Nat.le_of_ble_eq_true rfl) ⟨Nat.le_refl _, Nat.le_refl _⟩ dX3_worth_23 ?_
  refine r_callS (pc := 26) (N := mX3_at) (rest := []) (s_at_28 X _ I (t2 L 28 (tb (wO I s dd) (L 28) (n + 1))) n (by omega)) okX3_at lkX3_45 rfl rfl (Nat.le_of_ble_eq_true rfl) ⟨Nat.le_refl _, Nat.le_refl _⟩ dX3_worth_26 ?_
  exact r_lret dX3_worth_29 rfl (rfl) rfl
theorem s_slopeBy (X : Ctx) (d : Nat) (I : MI) (L : ML) (s : Int32) (f n : Nat) (hf : f < 4) (hz : I 10 f = nI (n + 1)) (hn : n + 1 ≤ 80) (hN : ∀ j, j < n + 1 → NW I j) : Sp X mX3_slopeBy (d + 4) (0, 0) [.ref 27, .int (nI f), .int (s)] shF I L (some (.long (tb (sO I s ((t2 L 28 (tb (wO I s (nI 0)) (L 28) (n + 1))) 28)) ((t2 L 28 (tb (wO I s (nI 0)) (L 28) (n + 1))) 29) (n + 1) n)), shF, I, (t2 (t2 L 28 (tb (wO I s (nI 0)) (L 28) (n + 1))) 29 (tb (sO I s ((t2 L 28 (tb (wO I s (nI 0)) (L 28) (n + 1))) 28)) ((t2 L 28 (tb (wO I s (nI 0)) (L 28) (n + 1))) 29) (n + 1)))) := by
  refine Sp.of okX3_slopeBy [.ref 27, .int (nI f), .int (s)] 0 rfl (Nat.le_of_ble_eq_true rfl) ?_
  refine r_aload_n (pc := 0) dX3_slopeBy_0 rfl ?_
  refine r_aload_n (pc := 1) dX3_slopeBy_1 rfl ?_
  refine r_getR (pc := 2) (b := 4) dX3_slopeBy_2 fX3_9 rfl rfl ?_
  refine r_iload_n (pc := 5) dX3_slopeBy_5 rfl ?_
  refine r_callV (pc := 6) (N := mX4_stop) (rest := [.ref 27]) (s_stop_4 X _ I L f (n + 1) (by omega) (hz)) okX4_stop lkX3_32 rfl (by decide) rfl rfl rfl (Nat.le_of_ble_eq_true rfl) ⟨Nat.le_refl _, Nat.le_refl _⟩ dX3_slopeBy_6 ?_
  refine r_iload_n (pc := 9) dX3_slopeBy_9 rfl ?_
  refine r_iconst (pc := 10) (v := nI 0) dX3_slopeBy_10 rfl ?_
  refine r_callV (pc := 11) (N := mX3_walkWorth) (rest := []) (s_walkWorth X _ I L (n + 1) s (nI 0) hn hN) okX3_walkWorth lkX3_38 rfl (by decide) rfl rfl rfl (Nat.le_of_ble_eq_true rfl) ⟨Nat.le_refl _, Nat.le_refl _⟩ dX3_slopeBy_11 ?_
  refine r_aload_n (pc := 14) dX3_slopeBy_14 rfl ?_
  refine r_aload_n (pc := 15) dX3_slopeBy_15 rfl ?_
  refine r_getR (pc := 16) (b := 29) dX3_slopeBy_16 fX3_23 rfl rfl ?_
  refine r_aload_n (pc := 19) dX3_slopeBy_19 rfl ?_
  refine r_getR (pc := 20) (b := 4) dX3_slopeBy_20 fX3_9 rfl rfl ?_
  refine r_iload_n (pc := 23) dX3_slopeBy_23 rfl ?_
  refine r_callV (pc := 24) (N := mX4_stop) (rest := [.ref 29, .ref 27]) (s_stop_4 X _ I (t2 L 28 (tb (wO I s (nI 0)) (L 28) (n + 1))) f (n + 1) (by omega) (hz)) okX4_stop lkX3_32 rfl (by decide) rfl rfl rfl (Nat.le_of_ble_eq_true rfl) ⟨Nat.le_refl _, Nat.le_refl _⟩ dX3_slopeBy_24 ?_
  refine r_iload_n (pc := 27) dX3_slopeBy_27 rfl ?_
  refine r_callV (pc := 28) (N := mX3_walkSlope) (rest := []) (s_walkSlope_29 X _ I (t2 L 28 (tb (wO I s (nI 0)) (L 28) (n + 1))) (n + 1) s hn hN) okX3_walkSlope lkX3_49 rfl (by decide) rfl rfl rfl (Nat.le_of_ble_eq_true rfl) ⟨Nat.le_refl _, Nat.le_refl _⟩ dX3_slopeBy_28 ?_
  refine r_aload_n (pc := 31) dX3_slopeBy_31 rfl ?_
  refine r_getR (pc := 32) (b := 29) dX3_slopeBy_32 fX3_23 rfl rfl ?_
  refine r_aload_n (pc := 35) dX3_slopeBy_35 rfl ?_
  refine r_getR (pc := 36) (b := 4) dX3_slopeBy_36 fX3_9 rfl rfl ?_
  refine r_iload_n (pc := 39) dX3_slopeBy_39 rfl ?_
  refine r_callV (pc := 40) (N := mX4_root) (rest := [.ref 29]) (s_root_4 X _ I (t2 (t2 L 28 (tb (wO I s (nI 0)) (L 28) (n + 1))) 29 (tb (sO I s ((t2 L 28 (tb (wO I s (nI 0)) (L 28) (n + 1))) 28)) ((t2 L 28 (tb (wO I s (nI 0)) (L 28) (n + 1))) 29) (n + 1))) f n (by omega) (hz)) okX4_root lkX3_42 rfl (by decide) rfl rfl rfl (Nat.le_of_ble_eq_true rfl) ⟨Nat.le_refl _, Nat.le_refl _⟩ dX3_slopeBy_40 ?_
  refine r_callS (pc := 43) (N := mX3_at) (rest := []) (s_at_29 X _ I (t2 (t2 L 28 (tb (wO I s (nI 0)) (L 28) (n + 1))) 29 (tb (sO I s ((t2 L 28 (tb (wO I s (nI 0)) (L 28) (n + 1))) 28)) ((t2 L 28 (tb (wO I s (nI 0)) (L 28) (n + 1))) 29) (n + 1))) n (by omega)) okX3_at lkX3_45 rfl rfl (Nat.le_of_ble_eq_true rfl) ⟨Nat.le_refl _, Nat.le_refl _⟩ dX3_slopeBy_43 ?_
  exact r_lret dX3_slopeBy_46 rfl (rfl) rfl
theorem s_bendBy (X : Ctx) (d : Nat) (I : MI) (L : ML) (s t : Int32) (f n : Nat) (hf : f < 4) (hz : I 10 f = nI (n + 1)) (hn : n + 1 ≤ 80) (hN : ∀ j, j < n + 1 → NW I j) : Sp X mX3_bendBy (d + 4) (0, 0) [.ref 27, .int (nI f), .int (s), .int (t)] shF I L (some (.long ((t2 (t2 (t2 (t2 L 28 (tb (wO I s (nI 0)) (L 28) (n + 1))) 29 (tb (sO I s ((t2 L 28 (tb (wO I s (nI 0)) (L 28) (n + 1))) 28)) ((t2 L 28 (tb (wO I s (nI 0)) (L 28) (n + 1))) 29) (n + 1))) 30 (tb (sO I t ((t2 (t2 L 28 (tb (wO I s (nI 0)) (L 28) (n + 1))) 29 (tb (sO I s ((t2 L 28 (tb (wO I s (nI 0)) (L 28) (n + 1))) 28)) ((t2 L 28 (tb (wO I s (nI 0)) (L 28) (n + 1))) 29) (n + 1))) 28)) ((t2 (t2 L 28 (tb (wO I s (nI 0)) (L 28) (n + 1))) 29 (tb (sO I s ((t2 L 28 (tb (wO I s (nI 0)) (L 28) (n + 1))) 28)) ((t2 L 28 (tb (wO I s (nI 0)) (L 28) (n + 1))) 29) (n + 1))) 30) (n + 1))) 31 (tb (bO I ((t2 (t2 (t2 L 28 (tb (wO I s (nI 0)) (L 28) (n + 1))) 29 (tb (sO I s ((t2 L 28 (tb (wO I s (nI 0)) (L 28) (n + 1))) 28)) ((t2 L 28 (tb (wO I s (nI 0)) (L 28) (n + 1))) 29) (n + 1))) 30 (tb (sO I t ((t2 (t2 L 28 (tb (wO I s (nI 0)) (L 28) (n + 1))) 29 (tb (sO I s ((t2 L 28 (tb (wO I s (nI 0)) (L 28) (n + 1))) 28)) ((t2 L 28 (tb (wO I s (nI 0)) (L 28) (n + 1))) 29) (n + 1))) 28)) ((t2 (t2 L 28 (tb (wO I s (nI 0)) (L 28) (n + 1))) 29 (tb (sO I s ((t2 L 28 (tb (wO I s (nI 0)) (L 28) (n + 1))) 28)) ((t2 L 28 (tb (wO I s (nI 0)) (L 28) (n + 1))) 29) (n + 1))) 30) (n + 1))) 28) ((t2 (t2 (t2 L 28 (tb (wO I s (nI 0)) (L 28) (n + 1))) 29 (tb (sO I s ((t2 L 28 (tb (wO I s (nI 0)) (L 28) (n + 1))) 28)) ((t2 L 28 (tb (wO I s (nI 0)) (L 28) (n + 1))) 29) (n + 1))) 30 (tb (sO I t ((t2 (t2 L 28 (tb (wO I s (nI 0)) (L 28) (n + 1))) 29 (tb (sO I s ((t2 L 28 (tb (wO I s (nI 0)) (L 28) (n + 1))) 28)) ((t2 L 28 (tb (wO I s (nI 0)) (L 28) (n + 1))) 29) (n + 1))) 28)) ((t2 (t2 L 28 (tb (wO I s (nI 0)) (L 28) (n + 1))) 29 (tb (sO I s ((t2 L 28 (tb (wO I s (nI 0)) (L 28) (n + 1))) 28)) ((t2 L 28 (tb (wO I s (nI 0)) (L 28) (n + 1))) 29) (n + 1))) 30) (n + 1))) 29) ((t2 (t2 (t2 L 28 (tb (wO I s (nI 0)) (L 28) (n + 1))) 29 (tb (sO I s ((t2 L 28 (tb (wO I s (nI 0)) (L 28) (n + 1))) 28)) ((t2 L 28 (tb (wO I s (nI 0)) (L 28) (n + 1))) 29) (n + 1))) 30 (tb (sO I t ((t2 (t2 L 28 (tb (wO I s (nI 0)) (L 28) (n + 1))) 29 (tb (sO I s ((t2 L 28 (tb (wO I s (nI 0)) (L 28) (n + 1))) 28)) ((t2 L 28 (tb (wO I s (nI 0)) (L 28) (n + 1))) 29) (n + 1))) 28)) ((t2 (t2 L 28 (tb (wO I s (nI 0)) (L 28) (n + 1))) 29 (tb (sO I s ((t2 L 28 (tb (wO I s (nI 0)) (L 28) (n + 1))) 28)) ((t2 L 28 (tb (wO I s (nI 0)) (L 28) (n + 1))) 29) (n + 1))) 30) (n + 1))) 30)) ((t2 (t2 (t2 L 28 (tb (wO I s (nI 0)) (L 28) (n + 1))) 29 (tb (sO I s ((t2 L 28 (tb (wO I s (nI 0)) (L 28) (n + 1))) 28)) ((t2 L 28 (tb (wO I s (nI 0)) (L 28) (n + 1))) 29) (n + 1))) 30 (tb (sO I t ((t2 (t2 L 28 (tb (wO I s (nI 0)) (L 28) (n + 1))) 29 (tb (sO I s ((t2 L 28 (tb (wO I s (nI 0)) (L 28) (n + 1))) 28)) ((t2 L 28 (tb (wO I s (nI 0)) (L 28) (n + 1))) 29) (n + 1))) 28)) ((t2 (t2 L 28 (tb (wO I s (nI 0)) (L 28) (n + 1))) 29 (tb (sO I s ((t2 L 28 (tb (wO I s (nI 0)) (L 28) (n + 1))) 28)) ((t2 L 28 (tb (wO I s (nI 0)) (L 28) (n + 1))) 29) (n + 1))) 30) (n + 1))) 31) (n + 1))) 31 n)), shF, I, (t2 (t2 (t2 (t2 L 28 (tb (wO I s (nI 0)) (L 28) (n + 1))) 29 (tb (sO I s ((t2 L 28 (tb (wO I s (nI 0)) (L 28) (n + 1))) 28)) ((t2 L 28 (tb (wO I s (nI 0)) (L 28) (n + 1))) 29) (n + 1))) 30 (tb (sO I t ((t2 (t2 L 28 (tb (wO I s (nI 0)) (L 28) (n + 1))) 29 (tb (sO I s ((t2 L 28 (tb (wO I s (nI 0)) (L 28) (n + 1))) 28)) ((t2 L 28 (tb (wO I s (nI 0)) (L 28) (n + 1))) 29) (n + 1))) 28)) ((t2 (t2 L 28 (tb (wO I s (nI 0)) (L 28) (n + 1))) 29 (tb (sO I s ((t2 L 28 (tb (wO I s (nI 0)) (L 28) (n + 1))) 28)) ((t2 L 28 (tb (wO I s (nI 0)) (L 28) (n + 1))) 29) (n + 1))) 30) (n + 1))) 31 (tb (bO I ((t2 (t2 (t2 L 28 (tb (wO I s (nI 0)) (L 28) (n + 1))) 29 (tb (sO I s ((t2 L 28 (tb (wO I s (nI 0)) (L 28) (n + 1))) 28)) ((t2 L 28 (tb (wO I s (nI 0)) (L 28) (n + 1))) 29) (n + 1))) 30 (tb (sO I t ((t2 (t2 L 28 (tb (wO I s (nI 0)) (L 28) (n + 1))) 29 (tb (sO I s ((t2 L 28 (tb (wO I s (nI 0)) (L 28) (n + 1))) 28)) ((t2 L 28 (tb (wO I s (nI 0)) (L 28) (n + 1))) 29) (n + 1))) 28)) ((t2 (t2 L 28 (tb (wO I s (nI 0)) (L 28) (n + 1))) 29 (tb (sO I s ((t2 L 28 (tb (wO I s (nI 0)) (L 28) (n + 1))) 28)) ((t2 L 28 (tb (wO I s (nI 0)) (L 28) (n + 1))) 29) (n + 1))) 30) (n + 1))) 28) ((t2 (t2 (t2 L 28 (tb (wO I s (nI 0)) (L 28) (n + 1))) 29 (tb (sO I s ((t2 L 28 (tb (wO I s (nI 0)) (L 28) (n + 1))) 28)) ((t2 L 28 (tb (wO I s (nI 0)) (L 28) (n + 1))) 29) (n + 1))) 30 (tb (sO I t ((t2 (t2 L 28 (tb (wO I s (nI 0)) (L 28) (n + 1))) 29 (tb (sO I s ((t2 L 28 (tb (wO I s (nI 0)) (L 28) (n + 1))) 28)) ((t2 L 28 (tb (wO I s (nI 0)) (L 28) (n + 1))) 29) (n + 1))) 28)) ((t2 (t2 L 28 (tb (wO I s (nI 0)) (L 28) (n + 1))) 29 (tb (sO I s ((t2 L 28 (tb (wO I s (nI 0)) (L 28) (n + 1))) 28)) ((t2 L 28 (tb (wO I s (nI 0)) (L 28) (n + 1))) 29) (n + 1))) 30) (n + 1))) 29) ((t2 (t2 (t2 L 28 (tb (wO I s (nI 0)) (L 28) (n + 1))) 29 (tb (sO I s ((t2 L 28 (tb (wO I s (nI 0)) (L 28) (n + 1))) 28)) ((t2 L 28 (tb (wO I s (nI 0)) (L 28) (n + 1))) 29) (n + 1))) 30 (tb (sO I t ((t2 (t2 L 28 (tb (wO I s (nI 0)) (L 28) (n + 1))) 29 (tb (sO I s ((t2 L 28 (tb (wO I s (nI 0)) (L 28) (n + 1))) 28)) ((t2 L 28 (tb (wO I s (nI 0)) (L 28) (n + 1))) 29) (n + 1))) 28)) ((t2 (t2 L 28 (tb (wO I s (nI 0)) (L 28) (n + 1))) 29 (tb (sO I s ((t2 L 28 (tb (wO I s (nI 0)) (L 28) (n + 1))) 28)) ((t2 L 28 (tb (wO I s (nI 0)) (L 28) (n + 1))) 29) (n + 1))) 30) (n + 1))) 30)) ((t2 (t2 (t2 L 28 (tb (wO I s (nI 0)) (L 28) (n + 1))) 29 (tb (sO I s ((t2 L 28 (tb (wO I s (nI 0)) (L 28) (n + 1))) 28)) ((t2 L 28 (tb (wO I s (nI 0)) (L 28) (n + 1))) 29) (n + 1))) 30 (tb (sO I t ((t2 (t2 L 28 (tb (wO I s (nI 0)) (L 28) (n + 1))) 29 (tb (sO I s ((t2 L 28 (tb (wO I s (nI 0)) (L 28) (n + 1))) 28)) ((t2 L 28 (tb (wO I s (nI 0)) (L 28) (n + 1))) 29) (n + 1))) 28)) ((t2 (t2 L 28 (tb (wO I s (nI 0)) (L 28) (n + 1))) 29 (tb (sO I s ((t2 L 28 (tb (wO I s (nI 0)) (L 28) (n + 1))) 28)) ((t2 L 28 (tb (wO I s (nI 0)) (L 28) (n + 1))) 29) (n + 1))) 30) (n + 1))) 31) (n + 1)))) := by
  refine Sp.of okX3_bendBy [.ref 27, .int (nI f), .int (s), .int (t), .null] 1 rfl (Nat.le_of_ble_eq_true rfl) ?_
  refine r_aload_n (pc := 0) dX3_bendBy_0 rfl ?_
  refine r_getR (pc := 1) (b := 4) dX3_bendBy_1 fX3_9 rfl rfl ?_
  refine r_iload_n (pc := 4) dX3_bendBy_4 rfl ?_
  refine r_callV (pc := 5) (N := mX4_stop) (rest := []) (s_stop_4 X _ I L f (n + 1) (by omega) (hz)) okX4_stop lkX3_32 rfl (by decide) rfl rfl rfl (Nat.le_of_ble_eq_true rfl) ⟨Nat.le_refl _, Nat.le_refl _⟩ dX3_bendBy_5 ?_
  refine r_istore (pc := 8) (lo1 := [.ref 27, .int (nI f), .int (s), .int (t), .int (nI (n + 1))]) dX3_bendBy_8 rfl (by decide) rfl ?_
  refine r_aload_n (pc := 10) dX3_bendBy_10 rfl ?_
  refine r_iload (pc := 11) dX3_bendBy_11 rfl ?_
  refine r_iload_n (pc := 13) dX3_bendBy_13 rfl ?_
  refine r_iconst (pc := 14) (v := nI 0) dX3_bendBy_14 rfl ?_
  refine r_callV (pc := 15) (N := mX3_walkWorth) (rest := []) (s_walkWorth X _ I L (n + 1) s (nI 0) hn hN) okX3_walkWorth lkX3_38 rfl (by decide) rfl rfl rfl (Nat.le_of_ble_eq_true rfl) ⟨Nat.le_refl _, Nat.le_refl _⟩ dX3_bendBy_15 ?_
  refine r_aload_n (pc := 18) dX3_bendBy_18 rfl ?_
  refine r_aload_n (pc := 19) dX3_bendBy_19 rfl ?_
  refine r_getR (pc := 20) (b := 29) dX3_bendBy_20 fX3_23 rfl rfl ?_
  refine r_iload (pc := 23) dX3_bendBy_23 rfl ?_
  refine r_iload_n (pc := 25) dX3_bendBy_25 rfl ?_
  refine r_callV (pc := 26) (N := mX3_walkSlope) (rest := []) (s_walkSlope_29 X _ I (t2 L 28 (tb (wO I s (nI 0)) (L 28) (n + 1))) (n + 1) s hn hN) okX3_walkSlope lkX3_49 rfl (by decide) rfl rfl rfl (Nat.le_of_ble_eq_true rfl) ⟨Nat.le_refl _, Nat.le_refl _⟩ dX3_bendBy_26 ?_
  refine r_aload_n (pc := 29) dX3_bendBy_29 rfl ?_
  refine r_aload_n (pc := 30) dX3_bendBy_30 rfl ?_
  refine r_getR (pc := 31) (b := 30) dX3_bendBy_31 fX3_26 rfl rfl ?_
  refine r_iload (pc := 34) dX3_bendBy_34 rfl ?_
  refine r_iload_n (pc := 36) dX3_bendBy_36 rfl ?_
  refine r_callV (pc := 37) (N := mX3_walkSlope) (rest := []) (s_walkSlope_30 X _ I (t2 (t2 L 28 (tb (wO I s (nI 0)) (L 28) (n + 1))) 29 (tb (sO I s ((t2 L 28 (tb (wO I s (nI 0)) (L 28) (n + 1))) 28)) ((t2 L 28 (tb (wO I s (nI 0)) (L 28) (n + 1))) 29) (n + 1))) (n + 1) t hn hN) okX3_walkSlope lkX3_49 rfl (by decide) rfl rfl rfl (Nat.le_of_ble_eq_true rfl) ⟨Nat.le_refl _, Nat.le_refl _⟩ dX3_bendBy_37 ?_
  refine r_aload_n (pc := 40) dX3_bendBy_40 rfl ?_
  refine r_iload (pc := 41) dX3_bendBy_41 rfl ?_
  refine r_callV (pc := 43) (N := mX3_walkBend) (rest := []) (s_walkBend X _ I (t2 (t2 (t2 L 28 (tb (wO I s (nI 0)) (L 28) (n + 1))) 29 (tb (sO I s ((t2 L 28 (tb (wO I s (nI 0)) (L 28) (n + 1))) 28)) ((t2 L 28 (tb (wO I s (nI 0)) (L 28) (n + 1))) 29) (n + 1))) 30 (tb (sO I t ((t2 (t2 L 28 (tb (wO I s (nI 0)) (L 28) (n + 1))) 29 (tb (sO I s ((t2 L 28 (tb (wO I s (nI 0)) (L 28) (n + 1))) 28)) ((t2 L 28 (tb (wO I s (nI 0)) (L 28) (n + 1))) 29) (n + 1))) 28)) ((t2 (t2 L 28 (tb (wO I s (nI 0)) (L 28) (n + 1))) 29 (tb (sO I s ((t2 L 28 (tb (wO I s (nI 0)) (L 28) (n + 1))) 28)) ((t2 L 28 (tb (wO I s (nI 0)) (L 28) (n + 1))) 29) (n + 1))) 30) (n + 1))) (n + 1) hn hN) okX3_walkBend lkX3_53 rfl (by decide) rfl rfl rfl (Nat.le_of_ble_eq_true rfl) ⟨Nat.le_refl _, Nat.le_refl _⟩ dX3_bendBy_43 ?_
  refine r_aload_n (pc := 46) dX3_bendBy_46 rfl ?_
  refine r_getR (pc := 47) (b := 31) dX3_bendBy_47 fX3_29 rfl rfl ?_
  refine r_aload_n (pc := 50) dX3_bendBy_50 rfl ?_
  refine r_getR (pc := 51) (b := 4) dX3_bendBy_51 fX3_9 rfl rfl ?_
  refine r_iload_n (pc := 54) dX3_bendBy_54 rfl ?_
  refine r_callV (pc := 55) (N := mX4_root) (rest := [.ref 31]) (s_root_4 X _ I (t2 (t2 (t2 (t2 L 28 (tb (wO I s (nI 0)) (L 28) (n + 1))) 29 (tb (sO I s ((t2 L 28 (tb (wO I s (nI 0)) (L 28) (n + 1))) 28)) ((t2 L 28 (tb (wO I s (nI 0)) (L 28) (n + 1))) 29) (n + 1))) 30 (tb (sO I t ((t2 (t2 L 28 (tb (wO I s (nI 0)) (L 28) (n + 1))) 29 (tb (sO I s ((t2 L 28 (tb (wO I s (nI 0)) (L 28) (n + 1))) 28)) ((t2 L 28 (tb (wO I s (nI 0)) (L 28) (n + 1))) 29) (n + 1))) 28)) ((t2 (t2 L 28 (tb (wO I s (nI 0)) (L 28) (n + 1))) 29 (tb (sO I s ((t2 L 28 (tb (wO I s (nI 0)) (L 28) (n + 1))) 28)) ((t2 L 28 (tb (wO I s (nI 0)) (L 28) (n + 1))) 29) (n + 1))) 30) (n + 1))) 31 (tb (bO I ((t2 (t2 (t2 L 28 (tb (wO I s (nI 0)) (L 28) (n + 1))) 29 (tb (sO I s ((t2 L 28 (tb (wO I s (nI 0)) (L 28) (n + 1))) 28)) ((t2 L 28 (tb (wO I s (nI 0)) (L 28) (n + 1))) 29) (n + 1))) 30 (tb (sO I t ((t2 (t2 L 28 (tb (wO I s (nI 0)) (L 28) (n + 1))) 29 (tb (sO I s ((t2 L 28 (tb (wO I s (nI 0)) (L 28) (n + 1))) 28)) ((t2 L 28 (tb (wO I s (nI 0)) (L 28) (n + 1))) 29) (n + 1))) 28)) ((t2 (t2 L 28 (tb (wO I s (nI 0)) (L 28) (n + 1))) 29 (tb (sO I s ((t2 L 28 (tb (wO I s (nI 0)) (L 28) (n + 1))) 28)) ((t2 L 28 (tb (wO I s (nI 0)) (L 28) (n + 1))) 29) (n + 1))) 30) (n + 1))) 28) ((t2 (t2 (t2 L 28 (tb (wO I s (nI 0)) (L 28) (n + 1))) 29 (tb (sO I s ((t2 L 28 (tb (wO I s (nI 0)) (L 28) (n + 1))) 28)) ((t2 L 28 (tb (wO I s (nI 0)) (L 28) (n + 1))) 29) (n + 1))) 30 (tb (sO I t ((t2 (t2 L 28 (tb (wO I s (nI 0)) (L 28) (n + 1))) 29 (tb (sO I s ((t2 L 28 (tb (wO I s (nI 0)) (L 28) (n + 1))) 28)) ((t2 L 28 (tb (wO I s (nI 0)) (L 28) (n + 1))) 29) (n + 1))) 28)) ((t2 (t2 L 28 (tb (wO I s (nI 0)) (L 28) (n + 1))) 29 (tb (sO I s ((t2 L 28 (tb (wO I s (nI 0)) (L 28) (n + 1))) 28)) ((t2 L 28 (tb (wO I s (nI 0)) (L 28) (n + 1))) 29) (n + 1))) 30) (n + 1))) 29) ((t2 (t2 (t2 L 28 (tb (wO I s (nI 0)) (L 28) (n + 1))) 29 (tb (sO I s ((t2 L 28 (tb (wO I s (nI 0)) (L 28) (n + 1))) 28)) ((t2 L 28 (tb (wO I s (nI 0)) (L 28) (n + 1))) 29) (n + 1))) 30 (tb (sO I t ((t2 (t2 L 28 (tb (wO I s (nI 0)) (L 28) (n + 1))) 29 (tb (sO I s ((t2 L 28 (tb (wO I s (nI 0)) (L 28) (n + 1))) 28)) ((t2 L 28 (tb (wO I s (nI 0)) (L 28) (n + 1))) 29) (n + 1))) 28)) ((t2 (t2 L 28 (tb (wO I s (nI 0)) (L 28) (n + 1))) 29 (tb (sO I s ((t2 L 28 (tb (wO I s (nI 0)) (L 28) (n + 1))) 28)) ((t2 L 28 (tb (wO I s (nI 0)) (L 28) (n + 1))) 29) (n + 1))) 30) (n + 1))) 30)) ((t2 (t2 (t2 L 28 (tb (wO I s (nI 0)) (L 28) (n + 1))) 29 (tb (sO I s ((t2 L 28 (tb (wO I s (nI 0)) (L 28) (n + 1))) 28)) ((t2 L 28 (tb (wO I s (nI 0)) (L 28) (n + 1))) 29) (n + 1))) 30 (tb (sO I t ((t2 (t2 L 28 (tb (wO I s (nI 0)) (L 28) (n + 1))) 29 (tb (sO I s ((t2 L 28 (tb (wO I s (nI 0)) (L 28) (n + 1))) 28)) ((t2 L 28 (tb (wO I s (nI 0)) (L 28) (n + 1))) 29) (n + 1))) 28)) ((t2 (t2 L 28 (tb (wO I s (nI 0)) (L 28) (n + 1))) 29 (tb (sO I s ((t2 L 28 (tb (wO I s (nI 0)) (L 28) (n + 1))) 28)) ((t2 L 28 (tb (wO I s (nI 0)) (L 28) (n + 1))) 29) (n + 1))) 30) (n + 1))) 31) (n + 1))) f n (by omega) (hz)) okX4_root lkX3_42 rfl (by decide) rfl rfl rfl (Nat.le_of_ble_eq_true rfl) ⟨Nat.le_refl _, Nat.le_refl _⟩ dX3_bendBy_55 ?_
  refine r_callS (pc := 58) (N := mX3_at) (rest := []) (s_at_31 X _ I (t2 (t2 (t2 (t2 L 28 (tb (wO I s (nI 0)) (L 28) (n + 1))) 29 (tb (sO I s ((t2 L 28 (tb (wO I s (nI 0)) (L 28) (n + 1))) 28)) ((t2 L 28 (tb (wO I s (nI 0)) (L 28) (n + 1))) 29) (n + 1))) 30 (tb (sO I t ((t2 (t2 L 28 (tb (wO I s (nI 0)) (L 28) (n + 1))) 29 (tb (sO I s ((t2 L 28 (tb (wO I s (nI 0)) (L 28) (n + 1))) 28)) ((t2 L 28 (tb (wO I s (nI 0)) (L 28) (n + 1))) 29) (n + 1))) 28)) ((t2 (t2 L 28 (tb (wO I s (nI 0)) (L 28) (n + 1))) 29 (tb (sO I s ((t2 L 28 (tb (wO I s (nI 0)) (L 28) (n + 1))) 28)) ((t2 L 28 (tb (wO I s (nI 0)) (L 28) (n + 1))) 29) (n + 1))) 30) (n + 1))) 31 (tb (bO I ((t2 (t2 (t2 L 28 (tb (wO I s (nI 0)) (L 28) (n + 1))) 29 (tb (sO I s ((t2 L 28 (tb (wO I s (nI 0)) (L 28) (n + 1))) 28)) ((t2 L 28 (tb (wO I s (nI 0)) (L 28) (n + 1))) 29) (n + 1))) 30 (tb (sO I t ((t2 (t2 L 28 (tb (wO I s (nI 0)) (L 28) (n + 1))) 29 (tb (sO I s ((t2 L 28 (tb (wO I s (nI 0)) (L 28) (n + 1))) 28)) ((t2 L 28 (tb (wO I s (nI 0)) (L 28) (n + 1))) 29) (n + 1))) 28)) ((t2 (t2 L 28 (tb (wO I s (nI 0)) (L 28) (n + 1))) 29 (tb (sO I s ((t2 L 28 (tb (wO I s (nI 0)) (L 28) (n + 1))) 28)) ((t2 L 28 (tb (wO I s (nI 0)) (L 28) (n + 1))) 29) (n + 1))) 30) (n + 1))) 28) ((t2 (t2 (t2 L 28 (tb (wO I s (nI 0)) (L 28) (n + 1))) 29 (tb (sO I s ((t2 L 28 (tb (wO I s (nI 0)) (L 28) (n + 1))) 28)) ((t2 L 28 (tb (wO I s (nI 0)) (L 28) (n + 1))) 29) (n + 1))) 30 (tb (sO I t ((t2 (t2 L 28 (tb (wO I s (nI 0)) (L 28) (n + 1))) 29 (tb (sO I s ((t2 L 28 (tb (wO I s (nI 0)) (L 28) (n + 1))) 28)) ((t2 L 28 (tb (wO I s (nI 0)) (L 28) (n + 1))) 29) (n + 1))) 28)) ((t2 (t2 L 28 (tb (wO I s (nI 0)) (L 28) (n + 1))) 29 (tb (sO I s ((t2 L 28 (tb (wO I s (nI 0)) (L 28) (n + 1))) 28)) ((t2 L 28 (tb (wO I s (nI 0)) (L 28) (n + 1))) 29) (n + 1))) 30) (n + 1))) 29) ((t2 (t2 (t2 L 28 (tb (wO I s (nI 0)) (L 28) (n + 1))) 29 (tb (sO I s ((t2 L 28 (tb (wO I s (nI 0)) (L 28) (n + 1))) 28)) ((t2 L 28 (tb (wO I s (nI 0)) (L 28) (n + 1))) 29) (n + 1))) 30 (tb (sO I t ((t2 (t2 L 28 (tb (wO I s (nI 0)) (L 28) (n + 1))) 29 (tb (sO I s ((t2 L 28 (tb (wO I s (nI 0)) (L 28) (n + 1))) 28)) ((t2 L 28 (tb (wO I s (nI 0)) (L 28) (n + 1))) 29) (n + 1))) 28)) ((t2 (t2 L 28 (tb (wO I s (nI 0)) (L 28) (n + 1))) 29 (tb (sO I s ((t2 L 28 (tb (wO I s (nI 0)) (L 28) (n + 1))) 28)) ((t2 L 28 (tb (wO I s (nI 0)) (L 28) (n + 1))) 29) (n + 1))) 30) (n + 1))) 30)) ((t2 (t2 (t2 L 28 (tb (wO I s (nI 0)) (L 28) (n + 1))) 29 (tb (sO I s ((t2 L 28 (tb (wO I s (nI 0)) (L 28) (n + 1))) 28)) ((t2 L 28 (tb (wO I s (nI 0)) (L 28) (n + 1))) 29) (n + 1))) 30 (tb (sO I t ((t2 (t2 L 28 (tb (wO I s (nI 0)) (L 28) (n + 1))) 29 (tb (sO I s ((t2 L 28 (tb (wO I s (nI 0)) (L 28) (n + 1))) 28)) ((t2 L 28 (tb (wO I s (nI 0)) (L 28) (n + 1))) 29) (n + 1))) 28)) ((t2 (t2 L 28 (tb (wO I s (nI 0)) (L 28) (n + 1))) 29 (tb (sO I s ((t2 L 28 (tb (wO I s (nI 0)) (L 28) (n + 1))) 28)) ((t2 L 28 (tb (wO I s (nI 0)) (L 28) (n + 1))) 29) (n + 1))) 30) (n + 1))) 31) (n + 1))) n (by omega)) okX3_at lkX3_45 rfl rfl (Nat.le_of_ble_eq_true rfl) ⟨Nat.le_refl _, Nat.le_refl _⟩ dX3_bendBy_58 ?_
  exact r_lret dX3_bendBy_61 rfl (rfl) rfl
/-- the slopes of a root by the sources in turn, put into row c; row 29 is left as the last walk left it -/
def siL (I : MI) (c n : Nat) (L : ML) : Nat → ML
  | 0 => t2 L 28 (tb (wO I (nI 0) (nI 0)) (L 28) (n + 1))
  | k + 1 => v2 (t2 (siL I c n L k) 29 (tb (sO I (nI k) (siL I c n L k 28)) (siL I c n L k 29) (n + 1))) c k (t2 (siL I c n L k) 29 (tb (sO I (nI k) (siL I c n L k 28)) (siL I c n L k 29) (n + 1)) 29 n)
theorem lp_slopesInto_40 (X : Ctx) (d : Nat) (I : MI) (L : ML) (f n : Nat) (hf : f < 4) (hz : I 10 f = nI (n + 1)) (hn : n + 1 ≤ 80) (hN : ∀ j, j < n + 1 → NW I j) : ∀ (z i : Nat), i + z = 6 → Ev X mX3_slopesInto (d + 4) (0, 0) (0, 0) (none, shF, I, (siL I 40 n L 6)) 19 [.ref 27, .ref 40, .int (nI f), .int (nI (n + 1)), .int (nI i)] [] shF I (siL I 40 n L i) := by
  intro z
  induction z with
  | zero =>
    intro i hi
    have hi2 : i = 6 := by omega
    rw [hi2]
    refine r_iload (pc := 19) dX3_slopesInto_19 rfl ?_
    refine r_bipush (pc := 21) dX3_slopesInto_21 bp_6 ?_
    refine r_icmpN_ge (pc := 23) (tgt := 69) dX3_slopesInto_23 (by decide) (by omega) (by omega) (fun c1 => ?_) (fun c1 => ?_)
    · exact r_vret dX3_slopesInto_69 rfl (rfl) rfl
    · exact absurd c1 (by decide)
  | succ z ih =>
    intro i hi
    refine r_iload (pc := 19) dX3_slopesInto_19 rfl ?_
    refine r_bipush (pc := 21) dX3_slopesInto_21 bp_6 ?_
    refine r_icmpN_ge (pc := 23) (tgt := 69) dX3_slopesInto_23 (by decide) (by omega) (by omega) (fun c2 => ?_) (fun c2 => ?_)
    · exact absurd c2 (by omega)
    · refine r_iload (pc := 26) dX3_slopesInto_26 rfl ?_
      refine r_aload_n (pc := 28) dX3_slopesInto_28 rfl ?_
      refine r_alen (pc := 29) (n := 6) dX3_slopesInto_29 rfl (by decide) ?_
      refine r_icmpN_ge (pc := 30) (tgt := 69) dX3_slopesInto_30 (by decide) (by omega) (by omega) (fun c3 => ?_) (fun c3 => ?_)
      · exact absurd c3 (by omega)
      · refine r_aload_n (pc := 33) dX3_slopesInto_33 rfl ?_
        refine r_aload_n (pc := 34) dX3_slopesInto_34 rfl ?_
        refine r_getR (pc := 35) (b := 29) dX3_slopesInto_35 fX3_23 rfl rfl ?_
        refine r_iload_n (pc := 38) dX3_slopesInto_38 rfl ?_
        refine r_iload (pc := 39) dX3_slopesInto_39 rfl ?_
        refine r_callV (pc := 41) (N := mX3_walkSlope) (rest := []) (s_walkSlope_29 X _ I (siL I 40 n L i) (n + 1) (nI i) hn hN) okX3_walkSlope lkX3_49 rfl (by decide) rfl rfl rfl (Nat.le_of_ble_eq_true rfl) ⟨Nat.le_refl _, Nat.le_refl _⟩ dX3_slopesInto_41 ?_
        refine r_aload_n (pc := 44) dX3_slopesInto_44 rfl ?_
        refine r_iload (pc := 45) dX3_slopesInto_45 rfl ?_
        refine r_aload_n (pc := 47) dX3_slopesInto_47 rfl ?_
        refine r_getR (pc := 48) (b := 29) dX3_slopesInto_48 fX3_23 rfl rfl ?_
        refine r_aload_n (pc := 51) dX3_slopesInto_51 rfl ?_
        refine r_getR (pc := 52) (b := 4) dX3_slopesInto_52 fX3_9 rfl rfl ?_
        refine r_iload_n (pc := 55) dX3_slopesInto_55 rfl ?_
        refine r_callV (pc := 56) (N := mX4_root) (rest := [.ref 29, .int (nI i), .ref 40]) (s_root_4 X _ I (t2 (siL I 40 n L i) 29 (tb (sO I (nI i) ((siL I 40 n L i) 28)) ((siL I 40 n L i) 29) (n + 1))) f n (by omega) (hz)) okX4_root lkX3_42 rfl (by decide) rfl rfl rfl (Nat.le_of_ble_eq_true rfl) ⟨Nat.le_refl _, Nat.le_refl _⟩ dX3_slopesInto_56 ?_
        refine r_callS (pc := 59) (N := mX3_at) (rest := [.int (nI i), .ref 40]) (s_at_29 X _ I (t2 (siL I 40 n L i) 29 (tb (sO I (nI i) ((siL I 40 n L i) 28)) ((siL I 40 n L i) 29) (n + 1))) n (by omega)) okX3_at lkX3_45 rfl rfl (Nat.le_of_ble_eq_true rfl) ⟨Nat.le_refl _, Nat.le_refl _⟩ dX3_slopesInto_59 ?_
        refine r_last (pc := 62) (j := i) dX3_slopesInto_62 rfl rfl (by omega) (by decide) ?_
        refine r_iinc (pc := 63) (v := nI (i + 1)) (lo1 := [.ref 27, .ref 40, .int (nI f), .int (nI (n + 1)), .int (nI (i + 1))]) dX3_slopesInto_63 rfl rfl (ii1 _) (by decide) rfl ?_
        refine r_goto (pc := 66) (tgt := 19) dX3_slopesInto_66 (by decide) ?_
        exact ih (i + 1) (by omega)
theorem s_slopesInto_40 (X : Ctx) (d : Nat) (I : MI) (L : ML) (f n : Nat) (hf : f < 4) (hz : I 10 f = nI (n + 1)) (hn : n + 1 ≤ 80) (hN : ∀ j, j < n + 1 → NW I j) : Sp X mX3_slopesInto (d + 4) (0, 0) [.ref 27, .ref 40, .int (nI f)] shF I L (none, shF, I, (siL I 40 n L 6)) := by
  refine Sp.of okX3_slopesInto [.ref 27, .ref 40, .int (nI f), .null, .null] 2 rfl (Nat.le_of_ble_eq_true rfl) ?_
  refine r_aload_n (pc := 0) dX3_slopesInto_0 rfl ?_
  refine r_getR (pc := 1) (b := 4) dX3_slopesInto_1 fX3_9 rfl rfl ?_
  refine r_iload_n (pc := 4) dX3_slopesInto_4 rfl ?_
  refine r_callV (pc := 5) (N := mX4_stop) (rest := []) (s_stop_4 X _ I L f (n + 1) (by omega) (hz)) okX4_stop lkX3_32 rfl (by decide) rfl rfl rfl (Nat.le_of_ble_eq_true rfl) ⟨Nat.le_refl _, Nat.le_refl _⟩ dX3_slopesInto_5 ?_
  refine r_istore_n (pc := 8) (lo1 := [.ref 27, .ref 40, .int (nI f), .int (nI (n + 1)), .null]) dX3_slopesInto_8 rfl (by decide) rfl ?_
  refine r_aload_n (pc := 9) dX3_slopesInto_9 rfl ?_
  refine r_iload_n (pc := 10) dX3_slopesInto_10 rfl ?_
  refine r_iconst (pc := 11) (v := nI 0) dX3_slopesInto_11 rfl ?_
  refine r_iconst (pc := 12) (v := nI 0) dX3_slopesInto_12 rfl ?_
  refine r_callV (pc := 13) (N := mX3_walkWorth) (rest := []) (s_walkWorth X _ I L (n + 1) (nI 0) (nI 0) hn hN) okX3_walkWorth lkX3_38 rfl (by decide) rfl rfl rfl (Nat.le_of_ble_eq_true rfl) ⟨Nat.le_refl _, Nat.le_refl _⟩ dX3_slopesInto_13 ?_
  refine r_iconst (pc := 16) (v := nI 0) dX3_slopesInto_16 rfl ?_
  refine r_istore (pc := 17) (lo1 := [.ref 27, .ref 40, .int (nI f), .int (nI (n + 1)), .int (nI 0)]) dX3_slopesInto_17 rfl (by decide) rfl ?_
  exact lp_slopesInto_40 X d I L f n hf hz hn hN 6 0 (by omega)
theorem lp_slopesInto_41 (X : Ctx) (d : Nat) (I : MI) (L : ML) (f n : Nat) (hf : f < 4) (hz : I 10 f = nI (n + 1)) (hn : n + 1 ≤ 80) (hN : ∀ j, j < n + 1 → NW I j) : ∀ (z i : Nat), i + z = 6 → Ev X mX3_slopesInto (d + 4) (0, 0) (0, 0) (none, shF, I, (siL I 41 n L 6)) 19 [.ref 27, .ref 41, .int (nI f), .int (nI (n + 1)), .int (nI i)] [] shF I (siL I 41 n L i) := by
  intro z
  induction z with
  | zero =>
    intro i hi
    have hi2 : i = 6 := by omega
    rw [hi2]
    refine r_iload (pc := 19) dX3_slopesInto_19 rfl ?_
    refine r_bipush (pc := 21) dX3_slopesInto_21 bp_6 ?_
    refine r_icmpN_ge (pc := 23) (tgt := 69) dX3_slopesInto_23 (by decide) (by omega) (by omega) (fun c1 => ?_) (fun c1 => ?_)
    · exact r_vret dX3_slopesInto_69 rfl (rfl) rfl
    · exact absurd c1 (by decide)
  | succ z ih =>
    intro i hi
    refine r_iload (pc := 19) dX3_slopesInto_19 rfl ?_
    refine r_bipush (pc := 21) dX3_slopesInto_21 bp_6 ?_
    refine r_icmpN_ge (pc := 23) (tgt := 69) dX3_slopesInto_23 (by decide) (by omega) (by omega) (fun c2 => ?_) (fun c2 => ?_)
    · exact absurd c2 (by omega)
    · refine r_iload (pc := 26) dX3_slopesInto_26 rfl ?_
      refine r_aload_n (pc := 28) dX3_slopesInto_28 rfl ?_
      refine r_alen (pc := 29) (n := 6) dX3_slopesInto_29 rfl (by decide) ?_
      refine r_icmpN_ge (pc := 30) (tgt := 69) dX3_slopesInto_30 (by decide) (by omega) (by omega) (fun c3 => ?_) (fun c3 => ?_)
      · exact absurd c3 (by omega)
      · refine r_aload_n (pc := 33) dX3_slopesInto_33 rfl ?_
        refine r_aload_n (pc := 34) dX3_slopesInto_34 rfl ?_
        refine r_getR (pc := 35) (b := 29) dX3_slopesInto_35 fX3_23 rfl rfl ?_
        refine r_iload_n (pc := 38) dX3_slopesInto_38 rfl ?_
        refine r_iload (pc := 39) dX3_slopesInto_39 rfl ?_
        refine r_callV (pc := 41) (N := mX3_walkSlope) (rest := []) (s_walkSlope_29 X _ I (siL I 41 n L i) (n + 1) (nI i) hn hN) okX3_walkSlope lkX3_49 rfl (by decide) rfl rfl rfl (Nat.le_of_ble_eq_true rfl) ⟨Nat.le_refl _, Nat.le_refl _⟩ dX3_slopesInto_41 ?_
        refine r_aload_n (pc := 44) dX3_slopesInto_44 rfl ?_
        refine r_iload (pc := 45) dX3_slopesInto_45 rfl ?_
        refine r_aload_n (pc := 47) dX3_slopesInto_47 rfl ?_
        refine r_getR (pc := 48) (b := 29) dX3_slopesInto_48 fX3_23 rfl rfl ?_
        refine r_aload_n (pc := 51) dX3_slopesInto_51 rfl ?_
        refine r_getR (pc := 52) (b := 4) dX3_slopesInto_52 fX3_9 rfl rfl ?_
        refine r_iload_n (pc := 55) dX3_slopesInto_55 rfl ?_
        refine r_callV (pc := 56) (N := mX4_root) (rest := [.ref 29, .int (nI i), .ref 41]) (s_root_4 X _ I (t2 (siL I 41 n L i) 29 (tb (sO I (nI i) ((siL I 41 n L i) 28)) ((siL I 41 n L i) 29) (n + 1))) f n (by omega) (hz)) okX4_root lkX3_42 rfl (by decide) rfl rfl rfl (Nat.le_of_ble_eq_true rfl) ⟨Nat.le_refl _, Nat.le_refl _⟩ dX3_slopesInto_56 ?_
        refine r_callS (pc := 59) (N := mX3_at) (rest := [.int (nI i), .ref 41]) (s_at_29 X _ I (t2 (siL I 41 n L i) 29 (tb (sO I (nI i) ((siL I 41 n L i) 28)) ((siL I 41 n L i) 29) (n + 1))) n (by omega)) okX3_at lkX3_45 rfl rfl (Nat.le_of_ble_eq_true rfl) ⟨Nat.le_refl _, Nat.le_refl _⟩ dX3_slopesInto_59 ?_
        refine r_last (pc := 62) (j := i) dX3_slopesInto_62 rfl rfl (by omega) (by decide) ?_
        refine r_iinc (pc := 63) (v := nI (i + 1)) (lo1 := [.ref 27, .ref 41, .int (nI f), .int (nI (n + 1)), .int (nI (i + 1))]) dX3_slopesInto_63 rfl rfl (ii1 _) (by decide) rfl ?_
        refine r_goto (pc := 66) (tgt := 19) dX3_slopesInto_66 (by decide) ?_
        exact ih (i + 1) (by omega)
theorem s_slopesInto_41 (X : Ctx) (d : Nat) (I : MI) (L : ML) (f n : Nat) (hf : f < 4) (hz : I 10 f = nI (n + 1)) (hn : n + 1 ≤ 80) (hN : ∀ j, j < n + 1 → NW I j) : Sp X mX3_slopesInto (d + 4) (0, 0) [.ref 27, .ref 41, .int (nI f)] shF I L (none, shF, I, (siL I 41 n L 6)) := by
  refine Sp.of okX3_slopesInto [.ref 27, .ref 41, .int (nI f), .null, .null] 2 rfl (Nat.le_of_ble_eq_true rfl) ?_
  refine r_aload_n (pc := 0) dX3_slopesInto_0 rfl ?_
  refine r_getR (pc := 1) (b := 4) dX3_slopesInto_1 fX3_9 rfl rfl ?_
  refine r_iload_n (pc := 4) dX3_slopesInto_4 rfl ?_
  refine r_callV (pc := 5) (N := mX4_stop) (rest := []) (s_stop_4 X _ I L f (n + 1) (by omega) (hz)) okX4_stop lkX3_32 rfl (by decide) rfl rfl rfl (Nat.le_of_ble_eq_true rfl) ⟨Nat.le_refl _, Nat.le_refl _⟩ dX3_slopesInto_5 ?_
  refine r_istore_n (pc := 8) (lo1 := [.ref 27, .ref 41, .int (nI f), .int (nI (n + 1)), .null]) dX3_slopesInto_8 rfl (by decide) rfl ?_
  refine r_aload_n (pc := 9) dX3_slopesInto_9 rfl ?_
  refine r_iload_n (pc := 10) dX3_slopesInto_10 rfl ?_
  refine r_iconst (pc := 11) (v := nI 0) dX3_slopesInto_11 rfl ?_
  refine r_iconst (pc := 12) (v := nI 0) dX3_slopesInto_12 rfl ?_
  refine r_callV (pc := 13) (N := mX3_walkWorth) (rest := []) (s_walkWorth X _ I L (n + 1) (nI 0) (nI 0) hn hN) okX3_walkWorth lkX3_38 rfl (by decide) rfl rfl rfl (Nat.le_of_ble_eq_true rfl) ⟨Nat.le_refl _, Nat.le_refl _⟩ dX3_slopesInto_13 ?_
  refine r_iconst (pc := 16) (v := nI 0) dX3_slopesInto_16 rfl ?_
  refine r_istore (pc := 17) (lo1 := [.ref 27, .ref 41, .int (nI f), .int (nI (n + 1)), .int (nI 0)]) dX3_slopesInto_17 rfl (by decide) rfl ?_
  exact lp_slopesInto_41 X d I L f n hf hz hn hN 6 0 (by omega)
