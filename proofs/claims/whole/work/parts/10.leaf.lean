theorem s_isSource_t (X : Ctx) (d : Nat) (I : MI) (L : ML) (j : Nat) (hj : j < 6) : Sp X mX5_isSource (d + 0) (0, 0) [.int (nI j)] shF I L (some (.int (nI 1)), shF, I, L) := by
  refine Sp.of okX5_isSource [.int (nI j)] 0 rfl (Nat.le_of_ble_eq_true rfl) ?_
  refine r_iload_n (pc := 0) dX5_isSource_0 rfl ?_
  refine r_ifN_lt (pc := 1) (tgt := 14) dX5_isSource_1 (by decide) (by omega) (fun c1 => ?_) (fun c1 => ?_)
  · exact absurd c1 (by omega)
  · refine r_iload_n (pc := 4) dX5_isSource_4 rfl ?_
    refine r_bipush (pc := 5) dX5_isSource_5 bp_6 ?_
    refine r_icmpN_ge (pc := 7) (tgt := 14) dX5_isSource_7 (by decide) (by omega) (by omega) (fun c2 => ?_) (fun c2 => ?_)
    · exact absurd c2 (by omega)
    · refine r_iconst (pc := 10) (v := nI 1) dX5_isSource_10 rfl ?_
      refine r_goto (pc := 11) (tgt := 15) dX5_isSource_11 (by decide) ?_
      exact r_zret dX5_isSource_15 rfl (by decide) (rfl) rfl
theorem s_isSource_f (X : Ctx) (d : Nat) (I : MI) (L : ML) (s : Int32) (h : s < 0 ∨ nI 6 ≤ s) : Sp X mX5_isSource (d + 0) (0, 0) [.int (s)] shF I L (some (.int (nI 0)), shF, I, L) := by
  refine Sp.of okX5_isSource [.int (s)] 0 rfl (Nat.le_of_ble_eq_true rfl) ?_
  refine r_iload_n (pc := 0) dX5_isSource_0 rfl ?_
  refine r_if_lt (pc := 1) (tgt := 14) dX5_isSource_1 (by decide) (fun c1 => ?_) (fun c1 => ?_)
  · refine r_iconst (pc := 14) (v := nI 0) dX5_isSource_14 rfl ?_
    exact r_zret dX5_isSource_15 rfl (by decide) (rfl) rfl
  · refine r_iload_n (pc := 4) dX5_isSource_4 rfl ?_
    refine r_bipush (pc := 5) dX5_isSource_5 bp_6 ?_
    refine r_icmp_ge (pc := 7) (tgt := 14) dX5_isSource_7 (by decide) (fun c2 => ?_) (fun c2 => ?_)
    · refine r_iconst (pc := 14) (v := nI 0) dX5_isSource_14 rfl ?_
      exact r_zret dX5_isSource_15 rfl (by decide) (rfl) rfl
    · exact (h.elim c1 c2).elim
theorem s_worth_1 (X : Ctx) (d : Nat) (I : MI) (L : ML) (j : Nat) (hj : j < 6) : Sp X mX0_worth (d + 1) (0, 0) [.ref 1, .int (nI j)] shF I L (some (.int (I 2 j)), shF, I, L) := by
  refine Sp.of okX0_worth [.ref 1, .int (nI j)] 0 rfl (Nat.le_of_ble_eq_true rfl) ?_
  refine r_iload_n (pc := 0) dX0_worth_0 rfl ?_
  refine r_callSN (pc := 1) (N := mX5_isSource) (rest := []) (s_isSource_t X _ I L j (by omega)) okX5_isSource lkX0_18 rfl rfl (Nat.le_of_ble_eq_true rfl) ⟨Nat.le_refl _, Nat.le_refl _⟩ dX0_worth_1 ?_
  refine r_ifN_eq (pc := 4) (tgt := 16) dX0_worth_4 (by decide) (by omega) (fun c1 => ?_) (fun c1 => ?_)
  · exact absurd c1 (by decide)
  · refine r_aload_n (pc := 7) dX0_worth_7 rfl ?_
    refine r_getR (pc := 8) (b := 2) dX0_worth_8 fX0_9 rfl rfl ?_
    refine r_iload_n (pc := 11) dX0_worth_11 rfl ?_
    refine r_iald (pc := 12) (j := j) dX0_worth_12 rfl rfl (by omega) (by decide) ?_
    refine r_goto (pc := 13) (tgt := 17) dX0_worth_13 (by decide) ?_
    exact r_iret dX0_worth_17 rfl (rfl) rfl
theorem s_spread_1 (X : Ctx) (d : Nat) (I : MI) (L : ML) (j k : Nat) (hj : j < 6) (hk : k < 6) : Sp X mX0_spread (d + 1) (0, 0) [.ref 1, .int (nI j), .int (nI k)] shF I L (some (.int (I 3 (j * 6 + k))), shF, I, L) := by
  refine Sp.of okX0_spread [.ref 1, .int (nI j), .int (nI k)] 0 rfl (Nat.le_of_ble_eq_true rfl) ?_
  refine r_iload_n (pc := 0) dX0_spread_0 rfl ?_
  refine r_callSN (pc := 1) (N := mX5_isSource) (rest := []) (s_isSource_t X _ I L j (by omega)) okX5_isSource lkX0_18 rfl rfl (Nat.le_of_ble_eq_true rfl) ⟨Nat.le_refl _, Nat.le_refl _⟩ dX0_spread_1 ?_
  refine r_ifN_eq (pc := 4) (tgt := 28) dX0_spread_4 (by decide) (by omega) (fun c1 => ?_) (fun c1 => ?_)
  · exact absurd c1 (by decide)
  · refine r_iload_n (pc := 7) dX0_spread_7 rfl ?_
    refine r_callSN (pc := 8) (N := mX5_isSource) (rest := []) (s_isSource_t X _ I L k (by omega)) okX5_isSource lkX0_18 rfl rfl (Nat.le_of_ble_eq_true rfl) ⟨Nat.le_refl _, Nat.le_refl _⟩ dX0_spread_8 ?_
    refine r_ifN_eq (pc := 11) (tgt := 28) dX0_spread_11 (by decide) (by omega) (fun c2 => ?_) (fun c2 => ?_)
    · exact absurd c2 (by decide)
    · refine r_aload_n (pc := 14) dX0_spread_14 rfl ?_
      refine r_getR (pc := 15) (b := 3) dX0_spread_15 fX0_15 rfl rfl ?_
      refine r_iload_n (pc := 18) dX0_spread_18 rfl ?_
      refine r_bipush (pc := 19) dX0_spread_19 bp_6 ?_
      refine r_imulN (pc := 21) dX0_spread_21 ?_
      refine r_iload_n (pc := 22) dX0_spread_22 rfl ?_
      refine r_iaddN (pc := 23) dX0_spread_23 ?_
      refine r_iald (pc := 24) (j := (j * 6) + k) dX0_spread_24 rfl rfl (by omega) (by decide) ?_
      refine r_goto (pc := 25) (tgt := 29) dX0_spread_25 (by decide) ?_
      exact r_iret dX0_spread_29 rfl (rfl) rfl
theorem s_setWorth_1 (X : Ctx) (d : Nat) (I : MI) (L : ML) (j : Nat) (v : Int32) (hj : j < 6) : Sp X mX0_setWorth (d + 1) (0, 0) [.ref 1, .int (nI j), .int (v)] shF I L (none, shF, (u2 I 2 j v), L) := by
  refine Sp.of okX0_setWorth [.ref 1, .int (nI j), .int (v)] 0 rfl (Nat.le_of_ble_eq_true rfl) ?_
  refine r_iload_n (pc := 0) dX0_setWorth_0 rfl ?_
  refine r_callSN (pc := 1) (N := mX5_isSource) (rest := []) (s_isSource_t X _ I L j (by omega)) okX5_isSource lkX0_18 rfl rfl (Nat.le_of_ble_eq_true rfl) ⟨Nat.le_refl _, Nat.le_refl _⟩ dX0_setWorth_1 ?_
  refine r_ifN_eq (pc := 4) (tgt := 14) dX0_setWorth_4 (by decide) (by omega) (fun c1 => ?_) (fun c1 => ?_)
  · exact absurd c1 (by decide)
  · refine r_aload_n (pc := 7) dX0_setWorth_7 rfl ?_
    refine r_getR (pc := 8) (b := 2) dX0_setWorth_8 fX0_9 rfl rfl ?_
    refine r_iload_n (pc := 11) dX0_setWorth_11 rfl ?_
    refine r_iload_n (pc := 12) dX0_setWorth_12 rfl ?_
    refine r_iast (pc := 13) (j := j) dX0_setWorth_13 rfl rfl (by omega) (by decide) ?_
    exact r_vret dX0_setWorth_14 rfl (rfl) rfl
theorem s_setSpread_1 (X : Ctx) (d : Nat) (I : MI) (L : ML) (j k : Nat) (v : Int32) (hj : j < 6) (hk : k < 6) : Sp X mX0_setSpread (d + 1) (0, 0) [.ref 1, .int (nI j), .int (nI k), .int (v)] shF I L (none, shF, (u2 (u2 I 3 (j * 6 + k) v) 3 (k * 6 + j) v), L) := by
  refine Sp.of okX0_setSpread [.ref 1, .int (nI j), .int (nI k), .int (v)] 0 rfl (Nat.le_of_ble_eq_true rfl) ?_
  refine r_iload_n (pc := 0) dX0_setSpread_0 rfl ?_
  refine r_callSN (pc := 1) (N := mX5_isSource) (rest := []) (s_isSource_t X _ I L j (by omega)) okX5_isSource lkX0_18 rfl rfl (Nat.le_of_ble_eq_true rfl) ⟨Nat.le_refl _, Nat.le_refl _⟩ dX0_setSpread_1 ?_
  refine r_ifN_eq (pc := 4) (tgt := 38) dX0_setSpread_4 (by decide) (by omega) (fun c1 => ?_) (fun c1 => ?_)
  · exact absurd c1 (by decide)
  · refine r_iload_n (pc := 7) dX0_setSpread_7 rfl ?_
    refine r_callSN (pc := 8) (N := mX5_isSource) (rest := []) (s_isSource_t X _ I L k (by omega)) okX5_isSource lkX0_18 rfl rfl (Nat.le_of_ble_eq_true rfl) ⟨Nat.le_refl _, Nat.le_refl _⟩ dX0_setSpread_8 ?_
    refine r_ifN_eq (pc := 11) (tgt := 38) dX0_setSpread_11 (by decide) (by omega) (fun c2 => ?_) (fun c2 => ?_)
    · exact absurd c2 (by decide)
    · refine r_aload_n (pc := 14) dX0_setSpread_14 rfl ?_
      refine r_getR (pc := 15) (b := 3) dX0_setSpread_15 fX0_15 rfl rfl ?_
      refine r_iload_n (pc := 18) dX0_setSpread_18 rfl ?_
      refine r_bipush (pc := 19) dX0_setSpread_19 bp_6 ?_
      refine r_imulN (pc := 21) dX0_setSpread_21 ?_
      refine r_iload_n (pc := 22) dX0_setSpread_22 rfl ?_
      refine r_iaddN (pc := 23) dX0_setSpread_23 ?_
      refine r_iload_n (pc := 24) dX0_setSpread_24 rfl ?_
      refine r_iast (pc := 25) (j := (j * 6) + k) dX0_setSpread_25 rfl rfl (by omega) (by decide) ?_
      refine r_aload_n (pc := 26) dX0_setSpread_26 rfl ?_
      refine r_getR (pc := 27) (b := 3) dX0_setSpread_27 fX0_15 rfl rfl ?_
      refine r_iload_n (pc := 30) dX0_setSpread_30 rfl ?_
      refine r_bipush (pc := 31) dX0_setSpread_31 bp_6 ?_
      refine r_imulN (pc := 33) dX0_setSpread_33 ?_
      refine r_iload_n (pc := 34) dX0_setSpread_34 rfl ?_
      refine r_iaddN (pc := 35) dX0_setSpread_35 ?_
      refine r_iload_n (pc := 36) dX0_setSpread_36 rfl ?_
      refine r_iast (pc := 37) (j := (k * 6) + j) dX0_setSpread_37 rfl rfl (by omega) (by decide) ?_
      exact r_vret dX0_setSpread_38 rfl (rfl) rfl
theorem s_setWorth_12 (X : Ctx) (d : Nat) (I : MI) (L : ML) (j : Nat) (v : Int32) (hj : j < 6) : Sp X mX0_setWorth (d + 1) (0, 0) [.ref 12, .int (nI j), .int (v)] shF I L (none, shF, (u2 I 13 j v), L) := by
  refine Sp.of okX0_setWorth [.ref 12, .int (nI j), .int (v)] 0 rfl (Nat.le_of_ble_eq_true rfl) ?_
  refine r_iload_n (pc := 0) dX0_setWorth_0 rfl ?_
  refine r_callSN (pc := 1) (N := mX5_isSource) (rest := []) (s_isSource_t X _ I L j (by omega)) okX5_isSource lkX0_18 rfl rfl (Nat.le_of_ble_eq_true rfl) ⟨Nat.le_refl _, Nat.le_refl _⟩ dX0_setWorth_1 ?_
  refine r_ifN_eq (pc := 4) (tgt := 14) dX0_setWorth_4 (by decide) (by omega) (fun c1 => ?_) (fun c1 => ?_)
  · exact absurd c1 (by decide)
  · refine r_aload_n (pc := 7) dX0_setWorth_7 rfl ?_
    refine r_getR (pc := 8) (b := 13) dX0_setWorth_8 fX0_9 rfl rfl ?_
    refine r_iload_n (pc := 11) dX0_setWorth_11 rfl ?_
    refine r_iload_n (pc := 12) dX0_setWorth_12 rfl ?_
    refine r_iast (pc := 13) (j := j) dX0_setWorth_13 rfl rfl (by omega) (by decide) ?_
    exact r_vret dX0_setWorth_14 rfl (rfl) rfl
theorem s_setSpread_12 (X : Ctx) (d : Nat) (I : MI) (L : ML) (j k : Nat) (v : Int32) (hj : j < 6) (hk : k < 6) : Sp X mX0_setSpread (d + 1) (0, 0) [.ref 12, .int (nI j), .int (nI k), .int (v)] shF I L (none, shF, (u2 (u2 I 14 (j * 6 + k) v) 14 (k * 6 + j) v), L) := by
  refine Sp.of okX0_setSpread [.ref 12, .int (nI j), .int (nI k), .int (v)] 0 rfl (Nat.le_of_ble_eq_true rfl) ?_
  refine r_iload_n (pc := 0) dX0_setSpread_0 rfl ?_
  refine r_callSN (pc := 1) (N := mX5_isSource) (rest := []) (s_isSource_t X _ I L j (by omega)) okX5_isSource lkX0_18 rfl rfl (Nat.le_of_ble_eq_true rfl) ⟨Nat.le_refl _, Nat.le_refl _⟩ dX0_setSpread_1 ?_
  refine r_ifN_eq (pc := 4) (tgt := 38) dX0_setSpread_4 (by decide) (by omega) (fun c1 => ?_) (fun c1 => ?_)
  · exact absurd c1 (by decide)
  · refine r_iload_n (pc := 7) dX0_setSpread_7 rfl ?_
    refine r_callSN (pc := 8) (N := mX5_isSource) (rest := []) (s_isSource_t X _ I L k (by omega)) okX5_isSource lkX0_18 rfl rfl (Nat.le_of_ble_eq_true rfl) ⟨Nat.le_refl _, Nat.le_refl _⟩ dX0_setSpread_8 ?_
    refine r_ifN_eq (pc := 11) (tgt := 38) dX0_setSpread_11 (by decide) (by omega) (fun c2 => ?_) (fun c2 => ?_)
    · exact absurd c2 (by decide)
    · refine r_aload_n (pc := 14) dX0_setSpread_14 rfl ?_
      refine r_getR (pc := 15) (b := 14) dX0_setSpread_15 fX0_15 rfl rfl ?_
      refine r_iload_n (pc := 18) dX0_setSpread_18 rfl ?_
      refine r_bipush (pc := 19) dX0_setSpread_19 bp_6 ?_
      refine r_imulN (pc := 21) dX0_setSpread_21 ?_
      refine r_iload_n (pc := 22) dX0_setSpread_22 rfl ?_
      refine r_iaddN (pc := 23) dX0_setSpread_23 ?_
      refine r_iload_n (pc := 24) dX0_setSpread_24 rfl ?_
      refine r_iast (pc := 25) (j := (j * 6) + k) dX0_setSpread_25 rfl rfl (by omega) (by decide) ?_
      refine r_aload_n (pc := 26) dX0_setSpread_26 rfl ?_
      refine r_getR (pc := 27) (b := 14) dX0_setSpread_27 fX0_15 rfl rfl ?_
      refine r_iload_n (pc := 30) dX0_setSpread_30 rfl ?_
      refine r_bipush (pc := 31) dX0_setSpread_31 bp_6 ?_
      refine r_imulN (pc := 33) dX0_setSpread_33 ?_
      refine r_iload_n (pc := 34) dX0_setSpread_34 rfl ?_
      refine r_iaddN (pc := 35) dX0_setSpread_35 ?_
      refine r_iload_n (pc := 36) dX0_setSpread_36 rfl ?_
      refine r_iast (pc := 37) (j := (k * 6) + j) dX0_setSpread_37 rfl rfl (by omega) (by decide) ?_
      exact r_vret dX0_setSpread_38 rfl (rfl) rfl
theorem lp_reset_b (X : Ctx) (d : Nat) (I : MI) (L : ML)  : ∀ (n i : Nat), i + n = 36 → Ev X mX0_reset (d + 0) (0, 0) (0, 0) (none, shF, (flA (flA I 13 6 (nI 0)) 14 36 (nI 0)), L) 23 [.ref 12, .int (nI i)] [] shF (flA (flA I 13 6 (nI 0)) 14 i (nI 0)) L := by
  intro n
  induction n with
  | zero =>
    intro i hi
    have hi2 : i = 36 := by omega
    rw [hi2]
    refine r_iload_n (pc := 23) dX0_reset_23 rfl ?_
    refine r_bipush (pc := 24) dX0_reset_24 bp_36 ?_
    refine r_icmpN_ge (pc := 26) (tgt := 42) dX0_reset_26 (by decide) (by omega) (by omega) (fun c1 => ?_) (fun c1 => ?_)
    · exact r_vret dX0_reset_42 rfl (rfl) rfl
    · exact absurd c1 (by decide)
  | succ n ih =>
    intro i hi
    refine r_iload_n (pc := 23) dX0_reset_23 rfl ?_
    refine r_bipush (pc := 24) dX0_reset_24 bp_36 ?_
    refine r_icmpN_ge (pc := 26) (tgt := 42) dX0_reset_26 (by decide) (by omega) (by omega) (fun c2 => ?_) (fun c2 => ?_)
    · exact absurd c2 (by omega)
    · refine r_aload_n (pc := 29) dX0_reset_29 rfl ?_
      refine r_getR (pc := 30) (b := 14) dX0_reset_30 fX0_15 rfl rfl ?_
      refine r_iload_n (pc := 33) dX0_reset_33 rfl ?_
      refine r_iconst (pc := 34) (v := nI 0) dX0_reset_34 rfl ?_
      refine r_iast (pc := 35) (j := i) dX0_reset_35 rfl rfl (by omega) (by decide) ?_
      refine r_iinc (pc := 36) (v := nI (i + 1)) (lo1 := [.ref 12, .int (nI (i + 1))]) dX0_reset_36 rfl rfl (ii1 _) (by decide) rfl ?_
      refine r_goto (pc := 39) (tgt := 23) dX0_reset_39 (by decide) ?_
      refine r_I (I' := (flA (flA I 13 6 (nI 0)) 14 (i + 1) (nI 0))) (flA_s _ _ _ _) ?_
      exact ih (i + 1) (by omega)
theorem lp_reset_a (X : Ctx) (d : Nat) (I : MI) (L : ML)  : ∀ (n i : Nat), i + n = 6 → Ev X mX0_reset (d + 0) (0, 0) (0, 0) (none, shF, (flA (flA I 13 6 (nI 0)) 14 36 (nI 0)), L) 2 [.ref 12, .int (nI i)] [] shF (flA I 13 i (nI 0)) L := by
  intro n
  induction n with
  | zero =>
    intro i hi
    have hi2 : i = 6 := by omega
    rw [hi2]
    refine r_iload_n (pc := 2) dX0_reset_2 rfl ?_
    refine r_bipush (pc := 3) dX0_reset_3 bp_6 ?_
    refine r_icmpN_ge (pc := 5) (tgt := 21) dX0_reset_5 (by decide) (by omega) (by omega) (fun c3 => ?_) (fun c3 => ?_)
    · refine r_iconst (pc := 21) (v := nI 0) dX0_reset_21 rfl ?_
      refine r_istore_n (pc := 22) (lo1 := [.ref 12, .int (nI 0)]) dX0_reset_22 rfl (by decide) rfl ?_
      refine r_I (flA_0 _ 14 (nI 0)).symm ?_
      exact lp_reset_b X d I L 36 0 rfl
    · exact absurd c3 (by decide)
  | succ n ih =>
    intro i hi
    refine r_iload_n (pc := 2) dX0_reset_2 rfl ?_
    refine r_bipush (pc := 3) dX0_reset_3 bp_6 ?_
    refine r_icmpN_ge (pc := 5) (tgt := 21) dX0_reset_5 (by decide) (by omega) (by omega) (fun c4 => ?_) (fun c4 => ?_)
    · exact absurd c4 (by omega)
    · refine r_aload_n (pc := 8) dX0_reset_8 rfl ?_
      refine r_getR (pc := 9) (b := 13) dX0_reset_9 fX0_9 rfl rfl ?_
      refine r_iload_n (pc := 12) dX0_reset_12 rfl ?_
      refine r_iconst (pc := 13) (v := nI 0) dX0_reset_13 rfl ?_
      refine r_iast (pc := 14) (j := i) dX0_reset_14 rfl rfl (by omega) (by decide) ?_
      refine r_iinc (pc := 15) (v := nI (i + 1)) (lo1 := [.ref 12, .int (nI (i + 1))]) dX0_reset_15 rfl rfl (ii1 _) (by decide) rfl ?_
      refine r_goto (pc := 18) (tgt := 2) dX0_reset_18 (by decide) ?_
      refine r_I (I' := (flA I 13 (i + 1) (nI 0))) (flA_s _ _ _ _) ?_
      exact ih (i + 1) (by omega)
theorem s_reset_12 (X : Ctx) (d : Nat) (I : MI) (L : ML)  : Sp X mX0_reset (d + 0) (0, 0) [.ref 12] shF I L (none, shF, (flA (flA I 13 6 (nI 0)) 14 36 (nI 0)), L) := by
  refine Sp.of okX0_reset [.ref 12, .null] 1 rfl (Nat.le_of_ble_eq_true rfl) ?_
  refine r_iconst (pc := 0) (v := nI 0) dX0_reset_0 rfl ?_
  refine r_istore_n (pc := 1) (lo1 := [.ref 12, .int (nI 0)]) dX0_reset_1 rfl (by decide) rfl ?_
  refine r_I (flA_0 _ 13 (nI 0)).symm ?_
  exact lp_reset_a X d I L 6 0 rfl
theorem lp_take_1_12_b (X : Ctx) (d : Nat) (I : MI) (L : ML)  : ∀ (n i : Nat), i + n = 36 → Ev X mX0_take (d + 0) (0, 0) (0, 0) (none, shF, (cpA (cpA I 2 13 6) 3 14 36), L) 28 [.ref 1, .ref 12, .int (nI i)] [] shF (cpA (cpA I 2 13 6) 3 14 i) L := by
  intro n
  induction n with
  | zero =>
    intro i hi
    have hi2 : i = 36 := by omega
    rw [hi2]
    refine r_iload_n (pc := 28) dX0_take_28 rfl ?_
    refine r_bipush (pc := 29) dX0_take_29 bp_36 ?_
    refine r_icmpN_ge (pc := 31) (tgt := 52) dX0_take_31 (by decide) (by omega) (by omega) (fun c1 => ?_) (fun c1 => ?_)
    · exact r_vret dX0_take_52 rfl (rfl) rfl
    · exact absurd c1 (by decide)
  | succ n ih =>
    intro i hi
    refine r_iload_n (pc := 28) dX0_take_28 rfl ?_
    refine r_bipush (pc := 29) dX0_take_29 bp_36 ?_
    refine r_icmpN_ge (pc := 31) (tgt := 52) dX0_take_31 (by decide) (by omega) (by omega) (fun c2 => ?_) (fun c2 => ?_)
    · exact absurd c2 (by omega)
    · refine r_aload_n (pc := 34) dX0_take_34 rfl ?_
      refine r_getR (pc := 35) (b := 3) dX0_take_35 fX0_15 rfl rfl ?_
      refine r_iload_n (pc := 38) dX0_take_38 rfl ?_
      refine r_aload_n (pc := 39) dX0_take_39 rfl ?_
      refine r_getR (pc := 40) (b := 14) dX0_take_40 fX0_15 rfl rfl ?_
      refine r_iload_n (pc := 43) dX0_take_43 rfl ?_
      refine r_iald (pc := 44) (j := i) dX0_take_44 rfl rfl (by omega) (by decide) ?_
      refine r_iast (pc := 45) (j := i) dX0_take_45 rfl rfl (by omega) (by decide) ?_
      refine r_iinc (pc := 46) (v := nI (i + 1)) (lo1 := [.ref 1, .ref 12, .int (nI (i + 1))]) dX0_take_46 rfl rfl (ii1 _) (by decide) rfl ?_
      refine r_goto (pc := 49) (tgt := 28) dX0_take_49 (by decide) ?_
      refine r_I (I' := (cpA (cpA I 2 13 6) 3 14 (i + 1))) (cpA_s _ _ (by decide)) ?_
      exact ih (i + 1) (by omega)
theorem lp_take_1_12_a (X : Ctx) (d : Nat) (I : MI) (L : ML)  : ∀ (n i : Nat), i + n = 6 → Ev X mX0_take (d + 0) (0, 0) (0, 0) (none, shF, (cpA (cpA I 2 13 6) 3 14 36), L) 2 [.ref 1, .ref 12, .int (nI i)] [] shF (cpA I 2 13 i) L := by
  intro n
  induction n with
  | zero =>
    intro i hi
    have hi2 : i = 6 := by omega
    rw [hi2]
    refine r_iload_n (pc := 2) dX0_take_2 rfl ?_
    refine r_bipush (pc := 3) dX0_take_3 bp_6 ?_
    refine r_icmpN_ge (pc := 5) (tgt := 26) dX0_take_5 (by decide) (by omega) (by omega) (fun c3 => ?_) (fun c3 => ?_)
    · refine r_iconst (pc := 26) (v := nI 0) dX0_take_26 rfl ?_
      refine r_istore_n (pc := 27) (lo1 := [.ref 1, .ref 12, .int (nI 0)]) dX0_take_27 rfl (by decide) rfl ?_
      refine r_I (cpA_0 _ 3 14).symm ?_
      exact lp_take_1_12_b X d I L 36 0 rfl
    · exact absurd c3 (by decide)
  | succ n ih =>
    intro i hi
    refine r_iload_n (pc := 2) dX0_take_2 rfl ?_
    refine r_bipush (pc := 3) dX0_take_3 bp_6 ?_
    refine r_icmpN_ge (pc := 5) (tgt := 26) dX0_take_5 (by decide) (by omega) (by omega) (fun c4 => ?_) (fun c4 => ?_)
    · exact absurd c4 (by omega)
    · refine r_aload_n (pc := 8) dX0_take_8 rfl ?_
      refine r_getR (pc := 9) (b := 2) dX0_take_9 fX0_9 rfl rfl ?_
      refine r_iload_n (pc := 12) dX0_take_12 rfl ?_
      refine r_aload_n (pc := 13) dX0_take_13 rfl ?_
      refine r_getR (pc := 14) (b := 13) dX0_take_14 fX0_9 rfl rfl ?_
      refine r_iload_n (pc := 17) dX0_take_17 rfl ?_
      refine r_iald (pc := 18) (j := i) dX0_take_18 rfl rfl (by omega) (by decide) ?_
      refine r_iast (pc := 19) (j := i) dX0_take_19 rfl rfl (by omega) (by decide) ?_
      refine r_iinc (pc := 20) (v := nI (i + 1)) (lo1 := [.ref 1, .ref 12, .int (nI (i + 1))]) dX0_take_20 rfl rfl (ii1 _) (by decide) rfl ?_
      refine r_goto (pc := 23) (tgt := 2) dX0_take_23 (by decide) ?_
      refine r_I (I' := (cpA I 2 13 (i + 1))) (cpA_s _ _ (by decide)) ?_
      exact ih (i + 1) (by omega)
theorem s_take_1_12 (X : Ctx) (d : Nat) (I : MI) (L : ML)  : Sp X mX0_take (d + 0) (0, 0) [.ref 1, .ref 12] shF I L (none, shF, (cpA (cpA I 2 13 6) 3 14 36), L) := by
  refine Sp.of okX0_take [.ref 1, .ref 12, .null] 1 rfl (Nat.le_of_ble_eq_true rfl) ?_
  refine r_iconst (pc := 0) (v := nI 0) dX0_take_0 rfl ?_
  refine r_istore_n (pc := 1) (lo1 := [.ref 1, .ref 12, .int (nI 0)]) dX0_take_1 rfl (by decide) rfl ?_
  refine r_I (cpA_0 _ 2 13).symm ?_
  exact lp_take_1_12_a X d I L 6 0 rfl
theorem lp_take_32_1_b (X : Ctx) (d : Nat) (I : MI) (L : ML)  : ∀ (n i : Nat), i + n = 36 → Ev X mX0_take (d + 0) (0, 0) (0, 0) (none, shF, (cpA (cpA I 33 2 6) 34 3 36), L) 28 [.ref 32, .ref 1, .int (nI i)] [] shF (cpA (cpA I 33 2 6) 34 3 i) L := by
  intro n
  induction n with
  | zero =>
    intro i hi
    have hi2 : i = 36 := by omega
    rw [hi2]
    refine r_iload_n (pc := 28) dX0_take_28 rfl ?_
    refine r_bipush (pc := 29) dX0_take_29 bp_36 ?_
    refine r_icmpN_ge (pc := 31) (tgt := 52) dX0_take_31 (by decide) (by omega) (by omega) (fun c1 => ?_) (fun c1 => ?_)
    · exact r_vret dX0_take_52 rfl (rfl) rfl
    · exact absurd c1 (by decide)
  | succ n ih =>
    intro i hi
    refine r_iload_n (pc := 28) dX0_take_28 rfl ?_
    refine r_bipush (pc := 29) dX0_take_29 bp_36 ?_
    refine r_icmpN_ge (pc := 31) (tgt := 52) dX0_take_31 (by decide) (by omega) (by omega) (fun c2 => ?_) (fun c2 => ?_)
    · exact absurd c2 (by omega)
    · refine r_aload_n (pc := 34) dX0_take_34 rfl ?_
      refine r_getR (pc := 35) (b := 34) dX0_take_35 fX0_15 rfl rfl ?_
      refine r_iload_n (pc := 38) dX0_take_38 rfl ?_
      refine r_aload_n (pc := 39) dX0_take_39 rfl ?_
      refine r_getR (pc := 40) (b := 3) dX0_take_40 fX0_15 rfl rfl ?_
      refine r_iload_n (pc := 43) dX0_take_43 rfl ?_
      refine r_iald (pc := 44) (j := i) dX0_take_44 rfl rfl (by omega) (by decide) ?_
      refine r_iast (pc := 45) (j := i) dX0_take_45 rfl rfl (by omega) (by decide) ?_
      refine r_iinc (pc := 46) (v := nI (i + 1)) (lo1 := [.ref 32, .ref 1, .int (nI (i + 1))]) dX0_take_46 rfl rfl (ii1 _) (by decide) rfl ?_
      refine r_goto (pc := 49) (tgt := 28) dX0_take_49 (by decide) ?_
      refine r_I (I' := (cpA (cpA I 33 2 6) 34 3 (i + 1))) (cpA_s _ _ (by decide)) ?_
      exact ih (i + 1) (by omega)
theorem lp_take_32_1_a (X : Ctx) (d : Nat) (I : MI) (L : ML)  : ∀ (n i : Nat), i + n = 6 → Ev X mX0_take (d + 0) (0, 0) (0, 0) (none, shF, (cpA (cpA I 33 2 6) 34 3 36), L) 2 [.ref 32, .ref 1, .int (nI i)] [] shF (cpA I 33 2 i) L := by
  intro n
  induction n with
  | zero =>
    intro i hi
    have hi2 : i = 6 := by omega
    rw [hi2]
    refine r_iload_n (pc := 2) dX0_take_2 rfl ?_
    refine r_bipush (pc := 3) dX0_take_3 bp_6 ?_
    refine r_icmpN_ge (pc := 5) (tgt := 26) dX0_take_5 (by decide) (by omega) (by omega) (fun c3 => ?_) (fun c3 => ?_)
    · refine r_iconst (pc := 26) (v := nI 0) dX0_take_26 rfl ?_
      refine r_istore_n (pc := 27) (lo1 := [.ref 32, .ref 1, .int (nI 0)]) dX0_take_27 rfl (by decide) rfl ?_
      refine r_I (cpA_0 _ 34 3).symm ?_
      exact lp_take_32_1_b X d I L 36 0 rfl
    · exact absurd c3 (by decide)
  | succ n ih =>
    intro i hi
    refine r_iload_n (pc := 2) dX0_take_2 rfl ?_
    refine r_bipush (pc := 3) dX0_take_3 bp_6 ?_
    refine r_icmpN_ge (pc := 5) (tgt := 26) dX0_take_5 (by decide) (by omega) (by omega) (fun c4 => ?_) (fun c4 => ?_)
    · exact absurd c4 (by omega)
    · refine r_aload_n (pc := 8) dX0_take_8 rfl ?_
      refine r_getR (pc := 9) (b := 33) dX0_take_9 fX0_9 rfl rfl ?_
      refine r_iload_n (pc := 12) dX0_take_12 rfl ?_
      refine r_aload_n (pc := 13) dX0_take_13 rfl ?_
      refine r_getR (pc := 14) (b := 2) dX0_take_14 fX0_9 rfl rfl ?_
      refine r_iload_n (pc := 17) dX0_take_17 rfl ?_
      refine r_iald (pc := 18) (j := i) dX0_take_18 rfl rfl (by omega) (by decide) ?_
      refine r_iast (pc := 19) (j := i) dX0_take_19 rfl rfl (by omega) (by decide) ?_
      refine r_iinc (pc := 20) (v := nI (i + 1)) (lo1 := [.ref 32, .ref 1, .int (nI (i + 1))]) dX0_take_20 rfl rfl (ii1 _) (by decide) rfl ?_
      refine r_goto (pc := 23) (tgt := 2) dX0_take_23 (by decide) ?_
      refine r_I (I' := (cpA I 33 2 (i + 1))) (cpA_s _ _ (by decide)) ?_
      exact ih (i + 1) (by omega)
theorem s_take_32_1 (X : Ctx) (d : Nat) (I : MI) (L : ML)  : Sp X mX0_take (d + 0) (0, 0) [.ref 32, .ref 1] shF I L (none, shF, (cpA (cpA I 33 2 6) 34 3 36), L) := by
  refine Sp.of okX0_take [.ref 32, .ref 1, .null] 1 rfl (Nat.le_of_ble_eq_true rfl) ?_
  refine r_iconst (pc := 0) (v := nI 0) dX0_take_0 rfl ?_
  refine r_istore_n (pc := 1) (lo1 := [.ref 32, .ref 1, .int (nI 0)]) dX0_take_1 rfl (by decide) rfl ?_
  refine r_I (cpA_0 _ 33 2).symm ?_
  exact lp_take_32_1_a X d I L 6 0 rfl
theorem lp_take_35_1_b (X : Ctx) (d : Nat) (I : MI) (L : ML)  : ∀ (n i : Nat), i + n = 36 → Ev X mX0_take (d + 0) (0, 0) (0, 0) (none, shF, (cpA (cpA I 36 2 6) 37 3 36), L) 28 [.ref 35, .ref 1, .int (nI i)] [] shF (cpA (cpA I 36 2 6) 37 3 i) L := by
  intro n
  induction n with
  | zero =>
    intro i hi
    have hi2 : i = 36 := by omega
    rw [hi2]
    refine r_iload_n (pc := 28) dX0_take_28 rfl ?_
    refine r_bipush (pc := 29) dX0_take_29 bp_36 ?_
    refine r_icmpN_ge (pc := 31) (tgt := 52) dX0_take_31 (by decide) (by omega) (by omega) (fun c1 => ?_) (fun c1 => ?_)
    · exact r_vret dX0_take_52 rfl (rfl) rfl
    · exact absurd c1 (by decide)
  | succ n ih =>
    intro i hi
    refine r_iload_n (pc := 28) dX0_take_28 rfl ?_
    refine r_bipush (pc := 29) dX0_take_29 bp_36 ?_
    refine r_icmpN_ge (pc := 31) (tgt := 52) dX0_take_31 (by decide) (by omega) (by omega) (fun c2 => ?_) (fun c2 => ?_)
    · exact absurd c2 (by omega)
    · refine r_aload_n (pc := 34) dX0_take_34 rfl ?_
      refine r_getR (pc := 35) (b := 37) dX0_take_35 fX0_15 rfl rfl ?_
      refine r_iload_n (pc := 38) dX0_take_38 rfl ?_
      refine r_aload_n (pc := 39) dX0_take_39 rfl ?_
      refine r_getR (pc := 40) (b := 3) dX0_take_40 fX0_15 rfl rfl ?_
      refine r_iload_n (pc := 43) dX0_take_43 rfl ?_
      refine r_iald (pc := 44) (j := i) dX0_take_44 rfl rfl (by omega) (by decide) ?_
      refine r_iast (pc := 45) (j := i) dX0_take_45 rfl rfl (by omega) (by decide) ?_
      refine r_iinc (pc := 46) (v := nI (i + 1)) (lo1 := [.ref 35, .ref 1, .int (nI (i + 1))]) dX0_take_46 rfl rfl (ii1 _) (by decide) rfl ?_
      refine r_goto (pc := 49) (tgt := 28) dX0_take_49 (by decide) ?_
      refine r_I (I' := (cpA (cpA I 36 2 6) 37 3 (i + 1))) (cpA_s _ _ (by decide)) ?_
      exact ih (i + 1) (by omega)
theorem lp_take_35_1_a (X : Ctx) (d : Nat) (I : MI) (L : ML)  : ∀ (n i : Nat), i + n = 6 → Ev X mX0_take (d + 0) (0, 0) (0, 0) (none, shF, (cpA (cpA I 36 2 6) 37 3 36), L) 2 [.ref 35, .ref 1, .int (nI i)] [] shF (cpA I 36 2 i) L := by
  intro n
  induction n with
  | zero =>
    intro i hi
    have hi2 : i = 6 := by omega
    rw [hi2]
    refine r_iload_n (pc := 2) dX0_take_2 rfl ?_
    refine r_bipush (pc := 3) dX0_take_3 bp_6 ?_
    refine r_icmpN_ge (pc := 5) (tgt := 26) dX0_take_5 (by decide) (by omega) (by omega) (fun c3 => ?_) (fun c3 => ?_)
    · refine r_iconst (pc := 26) (v := nI 0) dX0_take_26 rfl ?_
      refine r_istore_n (pc := 27) (lo1 := [.ref 35, .ref 1, .int (nI 0)]) dX0_take_27 rfl (by decide) rfl ?_
      refine r_I (cpA_0 _ 37 3).symm ?_
      exact lp_take_35_1_b X d I L 36 0 rfl
    · exact absurd c3 (by decide)
  | succ n ih =>
    intro i hi
    refine r_iload_n (pc := 2) dX0_take_2 rfl ?_
    refine r_bipush (pc := 3) dX0_take_3 bp_6 ?_
    refine r_icmpN_ge (pc := 5) (tgt := 26) dX0_take_5 (by decide) (by omega) (by omega) (fun c4 => ?_) (fun c4 => ?_)
    · exact absurd c4 (by omega)
    · refine r_aload_n (pc := 8) dX0_take_8 rfl ?_
      refine r_getR (pc := 9) (b := 36) dX0_take_9 fX0_9 rfl rfl ?_
      refine r_iload_n (pc := 12) dX0_take_12 rfl ?_
      refine r_aload_n (pc := 13) dX0_take_13 rfl ?_
      refine r_getR (pc := 14) (b := 2) dX0_take_14 fX0_9 rfl rfl ?_
      refine r_iload_n (pc := 17) dX0_take_17 rfl ?_
      refine r_iald (pc := 18) (j := i) dX0_take_18 rfl rfl (by omega) (by decide) ?_
      refine r_iast (pc := 19) (j := i) dX0_take_19 rfl rfl (by omega) (by decide) ?_
      refine r_iinc (pc := 20) (v := nI (i + 1)) (lo1 := [.ref 35, .ref 1, .int (nI (i + 1))]) dX0_take_20 rfl rfl (ii1 _) (by decide) rfl ?_
      refine r_goto (pc := 23) (tgt := 2) dX0_take_23 (by decide) ?_
      refine r_I (I' := (cpA I 36 2 (i + 1))) (cpA_s _ _ (by decide)) ?_
      exact ih (i + 1) (by omega)
theorem s_take_35_1 (X : Ctx) (d : Nat) (I : MI) (L : ML)  : Sp X mX0_take (d + 0) (0, 0) [.ref 35, .ref 1] shF I L (none, shF, (cpA (cpA I 36 2 6) 37 3 36), L) := by
  refine Sp.of okX0_take [.ref 35, .ref 1, .null] 1 rfl (Nat.le_of_ble_eq_true rfl) ?_
  refine r_iconst (pc := 0) (v := nI 0) dX0_take_0 rfl ?_
  refine r_istore_n (pc := 1) (lo1 := [.ref 35, .ref 1, .int (nI 0)]) dX0_take_1 rfl (by decide) rfl ?_
  refine r_I (cpA_0 _ 36 2).symm ?_
  exact lp_take_35_1_a X d I L 6 0 rfl
theorem lp_take_1_32_b (X : Ctx) (d : Nat) (I : MI) (L : ML)  : ∀ (n i : Nat), i + n = 36 → Ev X mX0_take (d + 0) (0, 0) (0, 0) (none, shF, (cpA (cpA I 2 33 6) 3 34 36), L) 28 [.ref 1, .ref 32, .int (nI i)] [] shF (cpA (cpA I 2 33 6) 3 34 i) L := by
  intro n
  induction n with
  | zero =>
    intro i hi
    have hi2 : i = 36 := by omega
    rw [hi2]
    refine r_iload_n (pc := 28) dX0_take_28 rfl ?_
    refine r_bipush (pc := 29) dX0_take_29 bp_36 ?_
    refine r_icmpN_ge (pc := 31) (tgt := 52) dX0_take_31 (by decide) (by omega) (by omega) (fun c1 => ?_) (fun c1 => ?_)
    · exact r_vret dX0_take_52 rfl (rfl) rfl
    · exact absurd c1 (by decide)
  | succ n ih =>
    intro i hi
    refine r_iload_n (pc := 28) dX0_take_28 rfl ?_
    refine r_bipush (pc := 29) dX0_take_29 bp_36 ?_
    refine r_icmpN_ge (pc := 31) (tgt := 52) dX0_take_31 (by decide) (by omega) (by omega) (fun c2 => ?_) (fun c2 => ?_)
    · exact absurd c2 (by omega)
    · refine r_aload_n (pc := 34) dX0_take_34 rfl ?_
      refine r_getR (pc := 35) (b := 3) dX0_take_35 fX0_15 rfl rfl ?_
      refine r_iload_n (pc := 38) dX0_take_38 rfl ?_
      refine r_aload_n (pc := 39) dX0_take_39 rfl ?_
      refine r_getR (pc := 40) (b := 34) dX0_take_40 fX0_15 rfl rfl ?_
      refine r_iload_n (pc := 43) dX0_take_43 rfl ?_
      refine r_iald (pc := 44) (j := i) dX0_take_44 rfl rfl (by omega) (by decide) ?_
      refine r_iast (pc := 45) (j := i) dX0_take_45 rfl rfl (by omega) (by decide) ?_
      refine r_iinc (pc := 46) (v := nI (i + 1)) (lo1 := [.ref 1, .ref 32, .int (nI (i + 1))]) dX0_take_46 rfl rfl (ii1 _) (by decide) rfl ?_
      refine r_goto (pc := 49) (tgt := 28) dX0_take_49 (by decide) ?_
      refine r_I (I' := (cpA (cpA I 2 33 6) 3 34 (i + 1))) (cpA_s _ _ (by decide)) ?_
      exact ih (i + 1) (by omega)
theorem lp_take_1_32_a (X : Ctx) (d : Nat) (I : MI) (L : ML)  : ∀ (n i : Nat), i + n = 6 → Ev X mX0_take (d + 0) (0, 0) (0, 0) (none, shF, (cpA (cpA I 2 33 6) 3 34 36), L) 2 [.ref 1, .ref 32, .int (nI i)] [] shF (cpA I 2 33 i) L := by
  intro n
  induction n with
  | zero =>
    intro i hi
    have hi2 : i = 6 := by omega
    rw [hi2]
    refine r_iload_n (pc := 2) dX0_take_2 rfl ?_
    refine r_bipush (pc := 3) dX0_take_3 bp_6 ?_
    refine r_icmpN_ge (pc := 5) (tgt := 26) dX0_take_5 (by decide) (by omega) (by omega) (fun c3 => ?_) (fun c3 => ?_)
    · refine r_iconst (pc := 26) (v := nI 0) dX0_take_26 rfl ?_
      refine r_istore_n (pc := 27) (lo1 := [.ref 1, .ref 32, .int (nI 0)]) dX0_take_27 rfl (by decide) rfl ?_
      refine r_I (cpA_0 _ 3 34).symm ?_
      exact lp_take_1_32_b X d I L 36 0 rfl
    · exact absurd c3 (by decide)
  | succ n ih =>
    intro i hi
    refine r_iload_n (pc := 2) dX0_take_2 rfl ?_
    refine r_bipush (pc := 3) dX0_take_3 bp_6 ?_
    refine r_icmpN_ge (pc := 5) (tgt := 26) dX0_take_5 (by decide) (by omega) (by omega) (fun c4 => ?_) (fun c4 => ?_)
    · exact absurd c4 (by omega)
    · refine r_aload_n (pc := 8) dX0_take_8 rfl ?_
      refine r_getR (pc := 9) (b := 2) dX0_take_9 fX0_9 rfl rfl ?_
      refine r_iload_n (pc := 12) dX0_take_12 rfl ?_
      refine r_aload_n (pc := 13) dX0_take_13 rfl ?_
      refine r_getR (pc := 14) (b := 33) dX0_take_14 fX0_9 rfl rfl ?_
      refine r_iload_n (pc := 17) dX0_take_17 rfl ?_
      refine r_iald (pc := 18) (j := i) dX0_take_18 rfl rfl (by omega) (by decide) ?_
      refine r_iast (pc := 19) (j := i) dX0_take_19 rfl rfl (by omega) (by decide) ?_
      refine r_iinc (pc := 20) (v := nI (i + 1)) (lo1 := [.ref 1, .ref 32, .int (nI (i + 1))]) dX0_take_20 rfl rfl (ii1 _) (by decide) rfl ?_
      refine r_goto (pc := 23) (tgt := 2) dX0_take_23 (by decide) ?_
      refine r_I (I' := (cpA I 2 33 (i + 1))) (cpA_s _ _ (by decide)) ?_
      exact ih (i + 1) (by omega)
theorem s_take_1_32 (X : Ctx) (d : Nat) (I : MI) (L : ML)  : Sp X mX0_take (d + 0) (0, 0) [.ref 1, .ref 32] shF I L (none, shF, (cpA (cpA I 2 33 6) 3 34 36), L) := by
  refine Sp.of okX0_take [.ref 1, .ref 32, .null] 1 rfl (Nat.le_of_ble_eq_true rfl) ?_
  refine r_iconst (pc := 0) (v := nI 0) dX0_take_0 rfl ?_
  refine r_istore_n (pc := 1) (lo1 := [.ref 1, .ref 32, .int (nI 0)]) dX0_take_1 rfl (by decide) rfl ?_
  refine r_I (cpA_0 _ 2 33).symm ?_
  exact lp_take_1_32_a X d I L 6 0 rfl
theorem lp_take_1_35_b (X : Ctx) (d : Nat) (I : MI) (L : ML)  : ∀ (n i : Nat), i + n = 36 → Ev X mX0_take (d + 0) (0, 0) (0, 0) (none, shF, (cpA (cpA I 2 36 6) 3 37 36), L) 28 [.ref 1, .ref 35, .int (nI i)] [] shF (cpA (cpA I 2 36 6) 3 37 i) L := by
  intro n
  induction n with
  | zero =>
    intro i hi
    have hi2 : i = 36 := by omega
    rw [hi2]
    refine r_iload_n (pc := 28) dX0_take_28 rfl ?_
    refine r_bipush (pc := 29) dX0_take_29 bp_36 ?_
    refine r_icmpN_ge (pc := 31) (tgt := 52) dX0_take_31 (by decide) (by omega) (by omega) (fun c1 => ?_) (fun c1 => ?_)
    · exact r_vret dX0_take_52 rfl (rfl) rfl
    · exact absurd c1 (by decide)
  | succ n ih =>
    intro i hi
    refine r_iload_n (pc := 28) dX0_take_28 rfl ?_
    refine r_bipush (pc := 29) dX0_take_29 bp_36 ?_
    refine r_icmpN_ge (pc := 31) (tgt := 52) dX0_take_31 (by decide) (by omega) (by omega) (fun c2 => ?_) (fun c2 => ?_)
    · exact absurd c2 (by omega)
    · refine r_aload_n (pc := 34) dX0_take_34 rfl ?_
      refine r_getR (pc := 35) (b := 3) dX0_take_35 fX0_15 rfl rfl ?_
      refine r_iload_n (pc := 38) dX0_take_38 rfl ?_
      refine r_aload_n (pc := 39) dX0_take_39 rfl ?_
      refine r_getR (pc := 40) (b := 37) dX0_take_40 fX0_15 rfl rfl ?_
      refine r_iload_n (pc := 43) dX0_take_43 rfl ?_
      refine r_iald (pc := 44) (j := i) dX0_take_44 rfl rfl (by omega) (by decide) ?_
      refine r_iast (pc := 45) (j := i) dX0_take_45 rfl rfl (by omega) (by decide) ?_
      refine r_iinc (pc := 46) (v := nI (i + 1)) (lo1 := [.ref 1, .ref 35, .int (nI (i + 1))]) dX0_take_46 rfl rfl (ii1 _) (by decide) rfl ?_
      refine r_goto (pc := 49) (tgt := 28) dX0_take_49 (by decide) ?_
      refine r_I (I' := (cpA (cpA I 2 36 6) 3 37 (i + 1))) (cpA_s _ _ (by decide)) ?_
      exact ih (i + 1) (by omega)
theorem lp_take_1_35_a (X : Ctx) (d : Nat) (I : MI) (L : ML)  : ∀ (n i : Nat), i + n = 6 → Ev X mX0_take (d + 0) (0, 0) (0, 0) (none, shF, (cpA (cpA I 2 36 6) 3 37 36), L) 2 [.ref 1, .ref 35, .int (nI i)] [] shF (cpA I 2 36 i) L := by
  intro n
  induction n with
  | zero =>
    intro i hi
    have hi2 : i = 6 := by omega
    rw [hi2]
    refine r_iload_n (pc := 2) dX0_take_2 rfl ?_
    refine r_bipush (pc := 3) dX0_take_3 bp_6 ?_
    refine r_icmpN_ge (pc := 5) (tgt := 26) dX0_take_5 (by decide) (by omega) (by omega) (fun c3 => ?_) (fun c3 => ?_)
    · refine r_iconst (pc := 26) (v := nI 0) dX0_take_26 rfl ?_
      refine r_istore_n (pc := 27) (lo1 := [.ref 1, .ref 35, .int (nI 0)]) dX0_take_27 rfl (by decide) rfl ?_
      refine r_I (cpA_0 _ 3 37).symm ?_
      exact lp_take_1_35_b X d I L 36 0 rfl
    · exact absurd c3 (by decide)
  | succ n ih =>
    intro i hi
    refine r_iload_n (pc := 2) dX0_take_2 rfl ?_
    refine r_bipush (pc := 3) dX0_take_3 bp_6 ?_
    refine r_icmpN_ge (pc := 5) (tgt := 26) dX0_take_5 (by decide) (by omega) (by omega) (fun c4 => ?_) (fun c4 => ?_)
    · exact absurd c4 (by omega)
    · refine r_aload_n (pc := 8) dX0_take_8 rfl ?_
      refine r_getR (pc := 9) (b := 2) dX0_take_9 fX0_9 rfl rfl ?_
      refine r_iload_n (pc := 12) dX0_take_12 rfl ?_
      refine r_aload_n (pc := 13) dX0_take_13 rfl ?_
      refine r_getR (pc := 14) (b := 36) dX0_take_14 fX0_9 rfl rfl ?_
      refine r_iload_n (pc := 17) dX0_take_17 rfl ?_
      refine r_iald (pc := 18) (j := i) dX0_take_18 rfl rfl (by omega) (by decide) ?_
      refine r_iast (pc := 19) (j := i) dX0_take_19 rfl rfl (by omega) (by decide) ?_
      refine r_iinc (pc := 20) (v := nI (i + 1)) (lo1 := [.ref 1, .ref 35, .int (nI (i + 1))]) dX0_take_20 rfl rfl (ii1 _) (by decide) rfl ?_
      refine r_goto (pc := 23) (tgt := 2) dX0_take_23 (by decide) ?_
      refine r_I (I' := (cpA I 2 36 (i + 1))) (cpA_s _ _ (by decide)) ?_
      exact ih (i + 1) (by omega)
theorem s_take_1_35 (X : Ctx) (d : Nat) (I : MI) (L : ML)  : Sp X mX0_take (d + 0) (0, 0) [.ref 1, .ref 35] shF I L (none, shF, (cpA (cpA I 2 36 6) 3 37 36), L) := by
  refine Sp.of okX0_take [.ref 1, .ref 35, .null] 1 rfl (Nat.le_of_ble_eq_true rfl) ?_
  refine r_iconst (pc := 0) (v := nI 0) dX0_take_0 rfl ?_
  refine r_istore_n (pc := 1) (lo1 := [.ref 1, .ref 35, .int (nI 0)]) dX0_take_1 rfl (by decide) rfl ?_
  refine r_I (cpA_0 _ 2 36).symm ?_
  exact lp_take_1_35_a X d I L 6 0 rfl
theorem s_known (X : Ctx) (d : Nat) (I : MI) (L : ML) (n : Nat) (hk : I 23 3 = nI n) : Sp X mX1_known (d + 0) (0, 0) [.ref 23] shF I L (some (.int (nI n)), shF, I, L) := by
  refine Sp.of okX1_known [.ref 23] 0 rfl (Nat.le_of_ble_eq_true rfl) ?_
  refine r_aload_n (pc := 0) dX1_known_0 rfl ?_
  refine r_getV (pc := 1) (v := nI n) dX1_known_1 fX1_21 rfl rfl (hk) ?_
  exact r_iret dX1_known_4 rfl (rfl) rfl
theorem s_lose (X : Ctx) (d : Nat) (I : MI) (L : ML)  : Sp X mX1_lose (d + 0) (0, 0) [.ref 23] shF I L (none, shF, (u2 I 23 3 (nI 0)), L) := by
  refine Sp.of okX1_lose [.ref 23] 0 rfl (Nat.le_of_ble_eq_true rfl) ?_
  refine r_aload_n (pc := 0) dX1_lose_0 rfl ?_
  refine r_iconst (pc := 1) (v := nI 0) dX1_lose_1 rfl ?_
  refine r_put (pc := 2) .int dX1_lose_2 fX1_21 rfl rfl nf1_3 rfl rfl ?_
  exact r_vret dX1_lose_5 rfl (rfl) rfl
theorem lp_loseOldest (X : Ctx) (d : Nat) (I : MI) (L : ML)  : ∀ (n i : Nat), i + n = 9 → Ev X mX1_loseOldest (d + 0) (0, 0) (0, 0) (none, shF, (u2 (pastM I 9) 23 3 (nI 9)), L) 2 [.ref 23, .int (nI (i + 1))] [] shF (pastM I i) L := by
  intro n
  induction n with
  | zero =>
    intro i hi
    have hi2 : i = 9 := by omega
    rw [hi2]
    refine r_iload_n (pc := 2) dX1_loseOldest_2 rfl ?_
    refine r_bipush (pc := 3) dX1_loseOldest_3 bp_10 ?_
    refine r_icmpN_ge (pc := 5) (tgt := 56) dX1_loseOldest_5 (by decide) (by omega) (by omega) (fun c1 => ?_) (fun c1 => ?_)
    · refine r_aload_n (pc := 56) dX1_loseOldest_56 rfl ?_
      refine r_bipush (pc := 57) dX1_loseOldest_57 bp_9 ?_
      refine r_put (pc := 59) .int dX1_loseOldest_59 fX1_21 rfl rfl nf1_3 rfl rfl ?_
      exact r_vret dX1_loseOldest_62 rfl (rfl) rfl
    · exact absurd c1 (by decide)
  | succ n ih =>
    intro i hi
    refine r_iload_n (pc := 2) dX1_loseOldest_2 rfl ?_
    refine r_bipush (pc := 3) dX1_loseOldest_3 bp_10 ?_
    refine r_icmpN_ge (pc := 5) (tgt := 56) dX1_loseOldest_5 (by decide) (by omega) (by omega) (fun c2 => ?_) (fun c2 => ?_)
    · exact absurd c2 (by omega)
    · refine r_aload_n (pc := 8) dX1_loseOldest_8 rfl ?_
      refine r_getR (pc := 9) (b := 24) dX1_loseOldest_9 fX1_9 rfl rfl ?_
      refine r_iload_n (pc := 12) dX1_loseOldest_12 rfl ?_
      refine r_iconst (pc := 13) (v := nI 1) dX1_loseOldest_13 rfl ?_
      refine r_isubN (pc := 14) dX1_loseOldest_14 (by omega) ?_
      refine r_aload_n (pc := 15) dX1_loseOldest_15 rfl ?_
      refine r_getR (pc := 16) (b := 24) dX1_loseOldest_16 fX1_9 rfl rfl ?_
      refine r_iload_n (pc := 19) dX1_loseOldest_19 rfl ?_
      refine r_iald (pc := 20) (j := i + 1) dX1_loseOldest_20 rfl rfl (by omega) (by decide) ?_
      refine r_iast (pc := 21) (j := i) dX1_loseOldest_21 rfl rfl (by omega) (by decide) ?_
      refine r_aload_n (pc := 22) dX1_loseOldest_22 rfl ?_
      refine r_getR (pc := 23) (b := 25) dX1_loseOldest_23 fX1_15 rfl rfl ?_
      refine r_iload_n (pc := 26) dX1_loseOldest_26 rfl ?_
      refine r_iconst (pc := 27) (v := nI 1) dX1_loseOldest_27 rfl ?_
      refine r_isubN (pc := 28) dX1_loseOldest_28 (by omega) ?_
      refine r_aload_n (pc := 29) dX1_loseOldest_29 rfl ?_
      refine r_getR (pc := 30) (b := 25) dX1_loseOldest_30 fX1_15 rfl rfl ?_
      refine r_iload_n (pc := 33) dX1_loseOldest_33 rfl ?_
      refine r_iald (pc := 34) (j := i + 1) dX1_loseOldest_34 rfl rfl (by omega) (by decide) ?_
      refine r_iast (pc := 35) (j := i) dX1_loseOldest_35 rfl rfl (by omega) (by decide) ?_
      refine r_aload_n (pc := 36) dX1_loseOldest_36 rfl ?_
      refine r_getR (pc := 37) (b := 26) dX1_loseOldest_37 fX1_18 rfl rfl ?_
      refine r_iload_n (pc := 40) dX1_loseOldest_40 rfl ?_
      refine r_iconst (pc := 41) (v := nI 1) dX1_loseOldest_41 rfl ?_
      refine r_isubN (pc := 42) dX1_loseOldest_42 (by omega) ?_
      refine r_aload_n (pc := 43) dX1_loseOldest_43 rfl ?_
      refine r_getR (pc := 44) (b := 26) dX1_loseOldest_44 fX1_18 rfl rfl ?_
      refine r_iload_n (pc := 47) dX1_loseOldest_47 rfl ?_
      refine r_iald (pc := 48) (j := i + 1) dX1_loseOldest_48 rfl rfl (by omega) (by decide) ?_
      refine r_iast (pc := 49) (j := i) dX1_loseOldest_49 rfl rfl (by omega) (by decide) ?_
      refine r_iinc (pc := 50) (v := nI ((i + 1) + 1)) (lo1 := [.ref 23, .int (nI ((i + 1) + 1))]) dX1_loseOldest_50 rfl rfl (ii1 _) (by decide) rfl ?_
      refine r_goto (pc := 53) (tgt := 2) dX1_loseOldest_53 (by decide) ?_
      refine r_I (I' := (pastM I (i + 1))) (pastM_s I i _ _ _ (pastM_rd I i 24) (pastM_rd I i 25) (pastM_rd I i 26)) ?_
      exact ih (i + 1) (by omega)
theorem s_loseOldest (X : Ctx) (d : Nat) (I : MI) (L : ML)  : Sp X mX1_loseOldest (d + 0) (0, 0) [.ref 23] shF I L (none, shF, (u2 (pastM I 9) 23 3 (nI 9)), L) := by
  refine Sp.of okX1_loseOldest [.ref 23, .null] 1 rfl (Nat.le_of_ble_eq_true rfl) ?_
  refine r_iconst (pc := 0) (v := nI 1) dX1_loseOldest_0 rfl ?_
  refine r_istore_n (pc := 1) (lo1 := [.ref 23, .int (nI 1)]) dX1_loseOldest_1 rfl (by decide) rfl ?_
  refine r_I (pastM_0 I).symm ?_
  exact lp_loseOldest X d I L 9 0 rfl
theorem s_add_a (X : Ctx) (d : Nat) (I : MI) (L : ML) (n : Nat) (s t w : Int32) (hk : I 23 3 = nI n) (hn : n < 10) : Sp X mX1_add (d + 1) (0, 0) [.ref 23, .int (s), .int (t), .int (w)] shF I L (none, shF, (u2 (u2 (u2 (u2 I 24 n s) 25 n t) 26 n w) 23 3 (nI (n + 1))), L) := by
  refine Sp.of okX1_add [.ref 23, .int (s), .int (t), .int (w)] 0 rfl (Nat.le_of_ble_eq_true rfl) ?_
  refine r_aload_n (pc := 0) dX1_add_0 rfl ?_
  refine r_getV (pc := 1) (v := nI n) dX1_add_1 fX1_21 rfl rfl (hk) ?_
  refine r_bipush (pc := 4) dX1_add_4 bp_10 ?_
  refine r_icmpN_lt (pc := 6) (tgt := 13) dX1_add_6 (by decide) (by omega) (by omega) (fun c1 => ?_) (fun c1 => ?_)
  · refine r_aload_n (pc := 13) dX1_add_13 rfl ?_
    refine r_getV (pc := 14) (v := nI n) dX1_add_14 fX1_21 rfl rfl (hk) ?_
    refine r_ifN_lt (pc := 17) (tgt := 69) dX1_add_17 (by decide) (by omega) (fun c2 => ?_) (fun c2 => ?_)
    · exact absurd c2 (by omega)
    · refine r_aload_n (pc := 20) dX1_add_20 rfl ?_
      refine r_getV (pc := 21) (v := nI n) dX1_add_21 fX1_21 rfl rfl (hk) ?_
      refine r_bipush (pc := 24) dX1_add_24 bp_10 ?_
      refine r_icmpN_ge (pc := 26) (tgt := 69) dX1_add_26 (by decide) (by omega) (by omega) (fun c3 => ?_) (fun c3 => ?_)
      · exact absurd c3 (by omega)
      · refine r_aload_n (pc := 29) dX1_add_29 rfl ?_
        refine r_getR (pc := 30) (b := 24) dX1_add_30 fX1_9 rfl rfl ?_
        refine r_aload_n (pc := 33) dX1_add_33 rfl ?_
        refine r_getV (pc := 34) (v := nI n) dX1_add_34 fX1_21 rfl rfl (hk) ?_
        refine r_iload_n (pc := 37) dX1_add_37 rfl ?_
        refine r_iast (pc := 38) (j := n) dX1_add_38 rfl rfl (by omega) (by decide) ?_
        refine r_aload_n (pc := 39) dX1_add_39 rfl ?_
        refine r_getR (pc := 40) (b := 25) dX1_add_40 fX1_15 rfl rfl ?_
        refine r_aload_n (pc := 43) dX1_add_43 rfl ?_
        refine r_getV (pc := 44) (v := nI n) dX1_add_44 fX1_21 rfl rfl (hk) ?_
        refine r_iload_n (pc := 47) dX1_add_47 rfl ?_
        refine r_iast (pc := 48) (j := n) dX1_add_48 rfl rfl (by omega) (by decide) ?_
        refine r_aload_n (pc := 49) dX1_add_49 rfl ?_
        refine r_getR (pc := 50) (b := 26) dX1_add_50 fX1_18 rfl rfl ?_
        refine r_aload_n (pc := 53) dX1_add_53 rfl ?_
        refine r_getV (pc := 54) (v := nI n) dX1_add_54 fX1_21 rfl rfl (hk) ?_
        refine r_iload_n (pc := 57) dX1_add_57 rfl ?_
        refine r_iast (pc := 58) (j := n) dX1_add_58 rfl rfl (by omega) (by decide) ?_
        refine r_aload_n (pc := 59) dX1_add_59 rfl ?_
        refine r_dup (pc := 60) dX1_add_60 rfl ?_
        refine r_getV (pc := 61) (v := nI n) dX1_add_61 fX1_21 rfl rfl (hk) ?_
        refine r_iconst (pc := 64) (v := nI 1) dX1_add_64 rfl ?_
        refine r_iaddN (pc := 65) dX1_add_65 ?_
        refine r_put (pc := 66) .int dX1_add_66 fX1_21 rfl rfl nf1_3 rfl rfl ?_
        exact r_vret dX1_add_69 rfl (rfl) rfl
  · exact absurd c1 (by omega)
theorem s_add_b (X : Ctx) (d : Nat) (I : MI) (L : ML) (s t w : Int32) (hk : I 23 3 = nI 10) : Sp X mX1_add (d + 1) (0, 0) [.ref 23, .int (s), .int (t), .int (w)] shF I L (none, shF, (u2 (u2 (u2 (u2 (u2 (pastM I 9) 23 3 (nI 9)) 24 9 s) 25 9 t) 26 9 w) 23 3 (nI 10)), L) := by
  refine Sp.of okX1_add [.ref 23, .int (s), .int (t), .int (w)] 0 rfl (Nat.le_of_ble_eq_true rfl) ?_
  refine r_aload_n (pc := 0) dX1_add_0 rfl ?_
  refine r_getV (pc := 1) (v := nI 10) dX1_add_1 fX1_21 rfl rfl (hk) ?_
  refine r_bipush (pc := 4) dX1_add_4 bp_10 ?_
  refine r_icmpN_lt (pc := 6) (tgt := 13) dX1_add_6 (by decide) (by omega) (by omega) (fun c1 => ?_) (fun c1 => ?_)
  · exact absurd c1 (by decide)
  · refine r_aload_n (pc := 9) dX1_add_9 rfl ?_
    refine r_callV (pc := 10) (N := mX1_loseOldest) (rest := []) (s_loseOldest X _ I L) okX1_loseOldest lkX1_25 rfl (by decide) rfl rfl rfl (Nat.le_of_ble_eq_true rfl) ⟨Nat.le_refl _, Nat.le_refl _⟩ dX1_add_10 ?_
    refine r_aload_n (pc := 13) dX1_add_13 rfl ?_
    refine r_getV (pc := 14) (v := nI 9) dX1_add_14 fX1_21 rfl rfl (rfl) ?_
    refine r_ifN_lt (pc := 17) (tgt := 69) dX1_add_17 (by decide) (by omega) (fun c2 => ?_) (fun c2 => ?_)
    · exact absurd c2 (by decide)
    · refine r_aload_n (pc := 20) dX1_add_20 rfl ?_
      refine r_getV (pc := 21) (v := nI 9) dX1_add_21 fX1_21 rfl rfl (rfl) ?_
      refine r_bipush (pc := 24) dX1_add_24 bp_10 ?_
      refine r_icmpN_ge (pc := 26) (tgt := 69) dX1_add_26 (by decide) (by omega) (by omega) (fun c3 => ?_) (fun c3 => ?_)
      · exact absurd c3 (by decide)
      · refine r_aload_n (pc := 29) dX1_add_29 rfl ?_
        refine r_getR (pc := 30) (b := 24) dX1_add_30 fX1_9 rfl rfl ?_
        refine r_aload_n (pc := 33) dX1_add_33 rfl ?_
        refine r_getV (pc := 34) (v := nI 9) dX1_add_34 fX1_21 rfl rfl (rfl) ?_
        refine r_iload_n (pc := 37) dX1_add_37 rfl ?_
        refine r_iast (pc := 38) (j := 9) dX1_add_38 rfl rfl (by omega) (by decide) ?_
        refine r_aload_n (pc := 39) dX1_add_39 rfl ?_
        refine r_getR (pc := 40) (b := 25) dX1_add_40 fX1_15 rfl rfl ?_
        refine r_aload_n (pc := 43) dX1_add_43 rfl ?_
        refine r_getV (pc := 44) (v := nI 9) dX1_add_44 fX1_21 rfl rfl (rfl) ?_
        refine r_iload_n (pc := 47) dX1_add_47 rfl ?_
        refine r_iast (pc := 48) (j := 9) dX1_add_48 rfl rfl (by omega) (by decide) ?_
        refine r_aload_n (pc := 49) dX1_add_49 rfl ?_
        refine r_getR (pc := 50) (b := 26) dX1_add_50 fX1_18 rfl rfl ?_
        refine r_aload_n (pc := 53) dX1_add_53 rfl ?_
        refine r_getV (pc := 54) (v := nI 9) dX1_add_54 fX1_21 rfl rfl (rfl) ?_
        refine r_iload_n (pc := 57) dX1_add_57 rfl ?_
        refine r_iast (pc := 58) (j := 9) dX1_add_58 rfl rfl (by omega) (by decide) ?_
        refine r_aload_n (pc := 59) dX1_add_59 rfl ?_
        refine r_dup (pc := 60) dX1_add_60 rfl ?_
        refine r_getV (pc := 61) (v := nI 9) dX1_add_61 fX1_21 rfl rfl (rfl) ?_
        refine r_iconst (pc := 64) (v := nI 1) dX1_add_64 rfl ?_
        refine r_iaddN (pc := 65) dX1_add_65 ?_
        refine r_put (pc := 66) .int dX1_add_66 fX1_21 rfl rfl nf1_3 rfl rfl ?_
        exact r_vret dX1_add_69 rfl (rfl) rfl
theorem nI_nm1 {t : Nat} (h : t < 2 ^ 31) : ¬ nI t = -1 := by
  intro q
  have a := nI_toInt h
  rw [q] at a
  have b : ((-1 : Int32)).toInt = -1 := by decide
  omega
theorem s_takeBack_0 (X : Ctx) (d : Nat) (I : MI) (L : ML) (hk : I 23 3 = nI 0) : Sp X mX1_takeBack (d + 3) (0, 0) [.ref 23, .ref 1] shF I L (some (.int (nI 0)), shF, I, L) := by
  refine Sp.of okX1_takeBack [.ref 23, .ref 1, .null] 1 rfl (Nat.le_of_ble_eq_true rfl) ?_
  refine r_aload_n (pc := 0) dX1_takeBack_0 rfl ?_
  refine r_getV (pc := 1) (v := nI 0) dX1_takeBack_1 fX1_21 rfl rfl (hk) ?_
  refine r_iconst (pc := 4) (v := nI 1) dX1_takeBack_4 rfl ?_
  refine r_isub (pc := 5) dX1_takeBack_5 ?_
  refine r_istore_n (pc := 6) (lo1 := [.ref 23, .ref 1, .int ((nI 0) - (nI 1))]) dX1_takeBack_6 rfl (by decide) rfl ?_
  refine r_iload_n (pc := 7) dX1_takeBack_7 rfl ?_
  refine r_if_lt (pc := 8) (tgt := 17) dX1_takeBack_8 (by decide) (fun c1 => ?_) (fun c1 => ?_)
  · refine r_iconst (pc := 17) (v := nI 0) dX1_takeBack_17 rfl ?_
    exact r_zret dX1_takeBack_18 rfl (by decide) (rfl) rfl
  · exact absurd (by decide : (nI 0 - nI 1 : Int32) < 0) c1
theorem s_takeBack_v (X : Ctx) (d : Nat) (I : MI) (L : ML) (k j : Nat) (hk : I 23 3 = nI (k + 1)) (hn : k < 10) (ho : I 25 k = -1) (hs : I 24 k = nI j) (hj : j < 6) : Sp X mX1_takeBack (d + 3) (0, 0) [.ref 23, .ref 1] shF I L (some (.int (nI 1)), shF, (u2 (u2 I 23 3 (nI k)) 2 j (I 26 k)), L) := by
  refine Sp.of okX1_takeBack [.ref 23, .ref 1, .null] 1 rfl (Nat.le_of_ble_eq_true rfl) ?_
  refine r_aload_n (pc := 0) dX1_takeBack_0 rfl ?_
  refine r_getV (pc := 1) (v := nI (k + 1)) dX1_takeBack_1 fX1_21 rfl rfl (hk) ?_
  refine r_iconst (pc := 4) (v := nI 1) dX1_takeBack_4 rfl ?_
  refine r_isubN (pc := 5) dX1_takeBack_5 (by omega) ?_
  refine r_istore_n (pc := 6) (lo1 := [.ref 23, .ref 1, .int (nI k)]) dX1_takeBack_6 rfl (by decide) rfl ?_
  refine r_iload_n (pc := 7) dX1_takeBack_7 rfl ?_
  refine r_ifN_lt (pc := 8) (tgt := 17) dX1_takeBack_8 (by decide) (by omega) (fun c1 => ?_) (fun c1 => ?_)
  · exact absurd c1 (by omega)
  · refine r_iload_n (pc := 11) dX1_takeBack_11 rfl ?_
    refine r_bipush (pc := 12) dX1_takeBack_12 bp_10 ?_
    refine r_icmpN_lt (pc := 14) (tgt := 19) dX1_takeBack_14 (by decide) (by omega) (by omega) (fun c2 => ?_) (fun c2 => ?_)
    · refine r_aload_n (pc := 19) dX1_takeBack_19 rfl ?_
      refine r_iload_n (pc := 20) dX1_takeBack_20 rfl ?_
      refine r_put (pc := 21) .int dX1_takeBack_21 fX1_21 rfl rfl nf1_3 rfl rfl ?_
      refine r_aload_n (pc := 24) dX1_takeBack_24 rfl ?_
      refine r_getR (pc := 25) (b := 25) dX1_takeBack_25 fX1_15 rfl rfl ?_
      refine r_iload_n (pc := 28) dX1_takeBack_28 rfl ?_
      refine r_ialdV (pc := 29) (j := k) (v := -1) dX1_takeBack_29 rfl rfl (by omega) (by decide) (ho) ?_
      refine r_iconst (pc := 30) (v := -1) dX1_takeBack_30 rfl ?_
      refine r_icmp_ne (pc := 31) (tgt := 53) dX1_takeBack_31 (by decide) (fun c3 => ?_) (fun c3 => ?_)
      · exact absurd rfl c3
      · refine r_aload_n (pc := 34) dX1_takeBack_34 rfl ?_
        refine r_aload_n (pc := 35) dX1_takeBack_35 rfl ?_
        refine r_getR (pc := 36) (b := 24) dX1_takeBack_36 fX1_9 rfl rfl ?_
        refine r_iload_n (pc := 39) dX1_takeBack_39 rfl ?_
        refine r_ialdV (pc := 40) (j := k) (v := nI j) dX1_takeBack_40 rfl rfl (by omega) (by decide) (hs) ?_
        refine r_aload_n (pc := 41) dX1_takeBack_41 rfl ?_
        refine r_getR (pc := 42) (b := 26) dX1_takeBack_42 fX1_18 rfl rfl ?_
        refine r_iload_n (pc := 45) dX1_takeBack_45 rfl ?_
        refine r_iald (pc := 46) (j := k) dX1_takeBack_46 rfl rfl (by omega) (by decide) ?_
        refine r_callV (pc := 47) (N := mX0_setWorth) (rest := []) (s_setWorth_1 X _ (u2 I 23 3 (nI k)) L j ((u2 I 23 3 (nI k)) 26 k) (by omega)) okX0_setWorth lkX1_28 rfl (by decide) rfl rfl rfl (Nat.le_of_ble_eq_true rfl) ⟨Nat.le_refl _, Nat.le_refl _⟩ dX1_takeBack_47 ?_
        refine r_goto (pc := 50) (tgt := 75) dX1_takeBack_50 (by decide) ?_
        refine r_iconst (pc := 75) (v := nI 1) dX1_takeBack_75 rfl ?_
        exact r_zret dX1_takeBack_76 rfl (by decide) (rfl) rfl
    · exact absurd c2 (by omega)
theorem s_takeBack_s (X : Ctx) (d : Nat) (I : MI) (L : ML) (k j t : Nat) (hk : I 23 3 = nI (k + 1)) (hn : k < 10) (ho : I 25 k = nI t) (hs : I 24 k = nI j) (hj : j < 6) (ht : t < 6) : Sp X mX1_takeBack (d + 3) (0, 0) [.ref 23, .ref 1] shF I L (some (.int (nI 1)), shF, (u2 (u2 (u2 I 23 3 (nI k)) 3 (j * 6 + t) (I 26 k)) 3 (t * 6 + j) (I 26 k)), L) := by
  refine Sp.of okX1_takeBack [.ref 23, .ref 1, .null] 1 rfl (Nat.le_of_ble_eq_true rfl) ?_
  refine r_aload_n (pc := 0) dX1_takeBack_0 rfl ?_
  refine r_getV (pc := 1) (v := nI (k + 1)) dX1_takeBack_1 fX1_21 rfl rfl (hk) ?_
  refine r_iconst (pc := 4) (v := nI 1) dX1_takeBack_4 rfl ?_
  refine r_isubN (pc := 5) dX1_takeBack_5 (by omega) ?_
  refine r_istore_n (pc := 6) (lo1 := [.ref 23, .ref 1, .int (nI k)]) dX1_takeBack_6 rfl (by decide) rfl ?_
  refine r_iload_n (pc := 7) dX1_takeBack_7 rfl ?_
  refine r_ifN_lt (pc := 8) (tgt := 17) dX1_takeBack_8 (by decide) (by omega) (fun c1 => ?_) (fun c1 => ?_)
  · exact absurd c1 (by omega)
  · refine r_iload_n (pc := 11) dX1_takeBack_11 rfl ?_
    refine r_bipush (pc := 12) dX1_takeBack_12 bp_10 ?_
    refine r_icmpN_lt (pc := 14) (tgt := 19) dX1_takeBack_14 (by decide) (by omega) (by omega) (fun c2 => ?_) (fun c2 => ?_)
    · refine r_aload_n (pc := 19) dX1_takeBack_19 rfl ?_
      refine r_iload_n (pc := 20) dX1_takeBack_20 rfl ?_
      refine r_put (pc := 21) .int dX1_takeBack_21 fX1_21 rfl rfl nf1_3 rfl rfl ?_
      refine r_aload_n (pc := 24) dX1_takeBack_24 rfl ?_
      refine r_getR (pc := 25) (b := 25) dX1_takeBack_25 fX1_15 rfl rfl ?_
      refine r_iload_n (pc := 28) dX1_takeBack_28 rfl ?_
      refine r_ialdV (pc := 29) (j := k) (v := nI t) dX1_takeBack_29 rfl rfl (by omega) (by decide) (ho) ?_
      refine r_iconst (pc := 30) (v := -1) dX1_takeBack_30 rfl ?_
      refine r_icmp_ne (pc := 31) (tgt := 53) dX1_takeBack_31 (by decide) (fun c3 => ?_) (fun c3 => ?_)
      · refine r_aload_n (pc := 53) dX1_takeBack_53 rfl ?_
        refine r_aload_n (pc := 54) dX1_takeBack_54 rfl ?_
        refine r_getR (pc := 55) (b := 24) dX1_takeBack_55 fX1_9 rfl rfl ?_
        refine r_iload_n (pc := 58) dX1_takeBack_58 rfl ?_
        refine r_ialdV (pc := 59) (j := k) (v := nI j) dX1_takeBack_59 rfl rfl (by omega) (by decide) (hs) ?_
        refine r_aload_n (pc := 60) dX1_takeBack_60 rfl ?_
        refine r_getR (pc := 61) (b := 25) dX1_takeBack_61 fX1_15 rfl rfl ?_
        refine r_iload_n (pc := 64) dX1_takeBack_64 rfl ?_
        refine r_ialdV (pc := 65) (j := k) (v := nI t) dX1_takeBack_65 rfl rfl (by omega) (by decide) (ho) ?_
        refine r_aload_n (pc := 66) dX1_takeBack_66 rfl ?_
        refine r_getR (pc := 67) (b := 26) dX1_takeBack_67 fX1_18 rfl rfl ?_
        refine r_iload_n (pc := 70) dX1_takeBack_70 rfl ?_
        refine r_iald (pc := 71) (j := k) dX1_takeBack_71 rfl rfl (by omega) (by decide) ?_
        refine r_callV (pc := 72) (N := mX0_setSpread) (rest := []) (s_setSpread_1 X _ (u2 I 23 3 (nI k)) L j t ((u2 I 23 3 (nI k)) 26 k) (by omega) (by omega)) okX0_setSpread lkX1_34 rfl (by decide) rfl rfl rfl (Nat.le_of_ble_eq_true rfl) ⟨Nat.le_refl _, Nat.le_refl _⟩ dX1_takeBack_72 ?_
        refine r_iconst (pc := 75) (v := nI 1) dX1_takeBack_75 rfl ?_
        exact r_zret dX1_takeBack_76 rfl (by decide) (rfl) rfl
      · exact absurd c3 (nI_nm1 (by omega))
    · exact absurd c2 (by omega)
theorem s_formulas_4 (X : Ctx) (d : Nat) (I : MI) (L : ML) (F : Nat) (hF : I 4 6 = nI F) : Sp X mX4_formulas (d + 0) (0, 0) [.ref 4] shF I L (some (.int (nI F)), shF, I, L) := by
  refine Sp.of okX4_formulas [.ref 4] 0 rfl (Nat.le_of_ble_eq_true rfl) ?_
  refine r_aload_n (pc := 0) dX4_formulas_0 rfl ?_
  refine r_getV (pc := 1) (v := nI F) dX4_formulas_1 fX4_30 rfl rfl (hF) ?_
  exact r_iret dX4_formulas_4 rfl (rfl) rfl
theorem s_stop_4 (X : Ctx) (d : Nat) (I : MI) (L : ML) (f z : Nat) (hf : f < 4) (hz : I 10 f = nI z) : Sp X mX4_stop (d + 0) (0, 0) [.ref 4, .int (nI f)] shF I L (some (.int (nI z)), shF, I, L) := by
  refine Sp.of okX4_stop [.ref 4, .int (nI f)] 0 rfl (Nat.le_of_ble_eq_true rfl) ?_
  refine r_iload_n (pc := 0) dX4_stop_0 rfl ?_
  refine r_ifN_lt (pc := 1) (tgt := 18) dX4_stop_1 (by decide) (by omega) (fun c1 => ?_) (fun c1 => ?_)
  · exact absurd c1 (by omega)
  · refine r_iload_n (pc := 4) dX4_stop_4 rfl ?_
    refine r_iconst (pc := 5) (v := nI 4) dX4_stop_5 rfl ?_
    refine r_icmpN_ge (pc := 6) (tgt := 18) dX4_stop_6 (by decide) (by omega) (by omega) (fun c2 => ?_) (fun c2 => ?_)
    · exact absurd c2 (by omega)
    · refine r_aload_n (pc := 9) dX4_stop_9 rfl ?_
      refine r_getR (pc := 10) (b := 10) dX4_stop_10 fX4_27 rfl rfl ?_
      refine r_iload_n (pc := 13) dX4_stop_13 rfl ?_
      refine r_ialdV (pc := 14) (j := f) (v := nI z) dX4_stop_14 rfl rfl (by omega) (by decide) (hz) ?_
      refine r_goto (pc := 15) (tgt := 19) dX4_stop_15 (by decide) ?_
      exact r_iret dX4_stop_19 rfl (rfl) rfl
theorem s_root_4 (X : Ctx) (d : Nat) (I : MI) (L : ML) (f z : Nat) (hf : f < 4) (hz : I 10 f = nI (z + 1)) : Sp X mX4_root (d + 1) (0, 0) [.ref 4, .int (nI f)] shF I L (some (.int (nI z)), shF, I, L) := by
  refine Sp.of okX4_root [.ref 4, .int (nI f)] 0 rfl (Nat.le_of_ble_eq_true rfl) ?_
  refine r_aload_n (pc := 0) dX4_root_0 rfl ?_
  refine r_iload_n (pc := 1) dX4_root_1 rfl ?_
  refine r_callV (pc := 2) (N := mX4_stop) (rest := []) (s_stop_4 X _ I L f (z + 1) (by omega) hz) okX4_stop lkX4_34 rfl (by decide) rfl rfl rfl (Nat.le_of_ble_eq_true rfl) ⟨Nat.le_refl _, Nat.le_refl _⟩ dX4_root_2 ?_
  refine r_iconst (pc := 5) (v := nI 1) dX4_root_5 rfl ?_
  refine r_isubN (pc := 6) dX4_root_6 (by omega) ?_
  exact r_iret dX4_root_7 rfl (rfl) rfl
theorem s_steps_4 (X : Ctx) (d : Nat) (I : MI) (L : ML) (i : Nat) (hi : i < 80) : Sp X mX4_steps (d + 0) (0, 0) [.ref 4, .int (nI i)] shF I L (some (.int (I 8 i)), shF, I, L) := by
  refine Sp.of okX4_steps [.ref 4, .int (nI i)] 0 rfl (Nat.le_of_ble_eq_true rfl) ?_
  refine r_iload_n (pc := 0) dX4_steps_0 rfl ?_
  refine r_ifN_lt (pc := 1) (tgt := 19) dX4_steps_1 (by decide) (by omega) (fun c1 => ?_) (fun c1 => ?_)
  · exact absurd c1 (by omega)
  · refine r_iload_n (pc := 4) dX4_steps_4 rfl ?_
    refine r_bipush (pc := 5) dX4_steps_5 bp_80 ?_
    refine r_icmpN_ge (pc := 7) (tgt := 19) dX4_steps_7 (by decide) (by omega) (by omega) (fun c2 => ?_) (fun c2 => ?_)
    · exact absurd c2 (by omega)
    · refine r_aload_n (pc := 10) dX4_steps_10 rfl ?_
      refine r_getR (pc := 11) (b := 8) dX4_steps_11 fX4_21 rfl rfl ?_
      refine r_iload_n (pc := 14) dX4_steps_14 rfl ?_
      refine r_iald (pc := 15) (j := i) dX4_steps_15 rfl rfl (by omega) (by decide) ?_
      refine r_goto (pc := 16) (tgt := 20) dX4_steps_16 (by decide) ?_
      exact r_iret dX4_steps_20 rfl (rfl) rfl
theorem s_names_4 (X : Ctx) (d : Nat) (I : MI) (L : ML) (i : Nat) (hi : i < 80) : Sp X mX4_names (d + 0) (0, 0) [.ref 4, .int (nI i)] shF I L (some (.int (I 9 i)), shF, I, L) := by
  refine Sp.of okX4_names [.ref 4, .int (nI i)] 0 rfl (Nat.le_of_ble_eq_true rfl) ?_
  refine r_iload_n (pc := 0) dX4_names_0 rfl ?_
  refine r_ifN_lt (pc := 1) (tgt := 19) dX4_names_1 (by decide) (by omega) (fun c1 => ?_) (fun c1 => ?_)
  · exact absurd c1 (by omega)
  · refine r_iload_n (pc := 4) dX4_names_4 rfl ?_
    refine r_bipush (pc := 5) dX4_names_5 bp_80 ?_
    refine r_icmpN_ge (pc := 7) (tgt := 19) dX4_names_7 (by decide) (by omega) (by omega) (fun c2 => ?_) (fun c2 => ?_)
    · exact absurd c2 (by omega)
    · refine r_aload_n (pc := 10) dX4_names_10 rfl ?_
      refine r_getR (pc := 11) (b := 9) dX4_names_11 fX4_24 rfl rfl ?_
      refine r_iload_n (pc := 14) dX4_names_14 rfl ?_
      refine r_iald (pc := 15) (j := i) dX4_names_15 rfl rfl (by omega) (by decide) ?_
      refine r_goto (pc := 16) (tgt := 20) dX4_names_16 (by decide) ?_
      exact r_iret dX4_names_20 rfl (rfl) rfl
theorem s_formulas_15 (X : Ctx) (d : Nat) (I : MI) (L : ML) (F : Nat) (hF : I 15 6 = nI F) : Sp X mX4_formulas (d + 0) (0, 0) [.ref 15] shF I L (some (.int (nI F)), shF, I, L) := by
  refine Sp.of okX4_formulas [.ref 15] 0 rfl (Nat.le_of_ble_eq_true rfl) ?_
  refine r_aload_n (pc := 0) dX4_formulas_0 rfl ?_
  refine r_getV (pc := 1) (v := nI F) dX4_formulas_1 fX4_30 rfl rfl (hF) ?_
  exact r_iret dX4_formulas_4 rfl (rfl) rfl
theorem s_stop_15 (X : Ctx) (d : Nat) (I : MI) (L : ML) (f z : Nat) (hf : f < 4) (hz : I 21 f = nI z) : Sp X mX4_stop (d + 0) (0, 0) [.ref 15, .int (nI f)] shF I L (some (.int (nI z)), shF, I, L) := by
  refine Sp.of okX4_stop [.ref 15, .int (nI f)] 0 rfl (Nat.le_of_ble_eq_true rfl) ?_
  refine r_iload_n (pc := 0) dX4_stop_0 rfl ?_
  refine r_ifN_lt (pc := 1) (tgt := 18) dX4_stop_1 (by decide) (by omega) (fun c1 => ?_) (fun c1 => ?_)
  · exact absurd c1 (by omega)
  · refine r_iload_n (pc := 4) dX4_stop_4 rfl ?_
    refine r_iconst (pc := 5) (v := nI 4) dX4_stop_5 rfl ?_
    refine r_icmpN_ge (pc := 6) (tgt := 18) dX4_stop_6 (by decide) (by omega) (by omega) (fun c2 => ?_) (fun c2 => ?_)
    · exact absurd c2 (by omega)
    · refine r_aload_n (pc := 9) dX4_stop_9 rfl ?_
      refine r_getR (pc := 10) (b := 21) dX4_stop_10 fX4_27 rfl rfl ?_
      refine r_iload_n (pc := 13) dX4_stop_13 rfl ?_
      refine r_ialdV (pc := 14) (j := f) (v := nI z) dX4_stop_14 rfl rfl (by omega) (by decide) (hz) ?_
      refine r_goto (pc := 15) (tgt := 19) dX4_stop_15 (by decide) ?_
      exact r_iret dX4_stop_19 rfl (rfl) rfl
theorem s_root_15 (X : Ctx) (d : Nat) (I : MI) (L : ML) (f z : Nat) (hf : f < 4) (hz : I 21 f = nI (z + 1)) : Sp X mX4_root (d + 1) (0, 0) [.ref 15, .int (nI f)] shF I L (some (.int (nI z)), shF, I, L) := by
  refine Sp.of okX4_root [.ref 15, .int (nI f)] 0 rfl (Nat.le_of_ble_eq_true rfl) ?_
  refine r_aload_n (pc := 0) dX4_root_0 rfl ?_
  refine r_iload_n (pc := 1) dX4_root_1 rfl ?_
  refine r_callV (pc := 2) (N := mX4_stop) (rest := []) (s_stop_15 X _ I L f (z + 1) (by omega) hz) okX4_stop lkX4_34 rfl (by decide) rfl rfl rfl (Nat.le_of_ble_eq_true rfl) ⟨Nat.le_refl _, Nat.le_refl _⟩ dX4_root_2 ?_
  refine r_iconst (pc := 5) (v := nI 1) dX4_root_5 rfl ?_
  refine r_isubN (pc := 6) dX4_root_6 (by omega) ?_
  exact r_iret dX4_root_7 rfl (rfl) rfl
theorem s_steps_15 (X : Ctx) (d : Nat) (I : MI) (L : ML) (i : Nat) (hi : i < 80) : Sp X mX4_steps (d + 0) (0, 0) [.ref 15, .int (nI i)] shF I L (some (.int (I 19 i)), shF, I, L) := by
  refine Sp.of okX4_steps [.ref 15, .int (nI i)] 0 rfl (Nat.le_of_ble_eq_true rfl) ?_
  refine r_iload_n (pc := 0) dX4_steps_0 rfl ?_
  refine r_ifN_lt (pc := 1) (tgt := 19) dX4_steps_1 (by decide) (by omega) (fun c1 => ?_) (fun c1 => ?_)
  · exact absurd c1 (by omega)
  · refine r_iload_n (pc := 4) dX4_steps_4 rfl ?_
    refine r_bipush (pc := 5) dX4_steps_5 bp_80 ?_
    refine r_icmpN_ge (pc := 7) (tgt := 19) dX4_steps_7 (by decide) (by omega) (by omega) (fun c2 => ?_) (fun c2 => ?_)
    · exact absurd c2 (by omega)
    · refine r_aload_n (pc := 10) dX4_steps_10 rfl ?_
      refine r_getR (pc := 11) (b := 19) dX4_steps_11 fX4_21 rfl rfl ?_
      refine r_iload_n (pc := 14) dX4_steps_14 rfl ?_
      refine r_iald (pc := 15) (j := i) dX4_steps_15 rfl rfl (by omega) (by decide) ?_
      refine r_goto (pc := 16) (tgt := 20) dX4_steps_16 (by decide) ?_
      exact r_iret dX4_steps_20 rfl (rfl) rfl
theorem s_names_15 (X : Ctx) (d : Nat) (I : MI) (L : ML) (i : Nat) (hi : i < 80) : Sp X mX4_names (d + 0) (0, 0) [.ref 15, .int (nI i)] shF I L (some (.int (I 20 i)), shF, I, L) := by
  refine Sp.of okX4_names [.ref 15, .int (nI i)] 0 rfl (Nat.le_of_ble_eq_true rfl) ?_
  refine r_iload_n (pc := 0) dX4_names_0 rfl ?_
  refine r_ifN_lt (pc := 1) (tgt := 19) dX4_names_1 (by decide) (by omega) (fun c1 => ?_) (fun c1 => ?_)
  · exact absurd c1 (by omega)
  · refine r_iload_n (pc := 4) dX4_names_4 rfl ?_
    refine r_bipush (pc := 5) dX4_names_5 bp_80 ?_
    refine r_icmpN_ge (pc := 7) (tgt := 19) dX4_names_7 (by decide) (by omega) (by omega) (fun c2 => ?_) (fun c2 => ?_)
    · exact absurd c2 (by omega)
    · refine r_aload_n (pc := 10) dX4_names_10 rfl ?_
      refine r_getR (pc := 11) (b := 20) dX4_names_11 fX4_24 rfl rfl ?_
      refine r_iload_n (pc := 14) dX4_names_14 rfl ?_
      refine r_iald (pc := 15) (j := i) dX4_names_15 rfl rfl (by omega) (by decide) ?_
      refine r_goto (pc := 16) (tgt := 20) dX4_names_16 (by decide) ?_
      exact r_iret dX4_names_20 rfl (rfl) rfl
theorem s_stop_m1 (X : Ctx) (d : Nat) (I : MI) (L : ML)  : Sp X mX4_stop (d + 0) (0, 0) [.ref 4, .int (-1)] shF I L (some (.int (nI 0)), shF, I, L) := by
  refine Sp.of okX4_stop [.ref 4, .int (-1)] 0 rfl (Nat.le_of_ble_eq_true rfl) ?_
  refine r_iload_n (pc := 0) dX4_stop_0 rfl ?_
  refine r_if_lt (pc := 1) (tgt := 18) dX4_stop_1 (by decide) (fun c1 => ?_) (fun c1 => ?_)
  · refine r_iconst (pc := 18) (v := nI 0) dX4_stop_18 rfl ?_
    exact r_iret dX4_stop_19 rfl (rfl) rfl
  · exact absurd (by decide) c1
theorem s_treset (X : Ctx) (d : Nat) (I : MI) (L : ML)  : Sp X mX4_reset (d + 0) (0, 0) [.ref 15] shF I L (none, shF, (u2 (u2 I 15 6 (nI 0)) 15 7 (nI 0)), L) := by
  refine Sp.of okX4_reset [.ref 15] 0 rfl (Nat.le_of_ble_eq_true rfl) ?_
  refine r_aload_n (pc := 0) dX4_reset_0 rfl ?_
  refine r_iconst (pc := 1) (v := nI 0) dX4_reset_1 rfl ?_
  refine r_put (pc := 2) .int dX4_reset_2 fX4_30 rfl rfl nf4_6 rfl rfl ?_
  refine r_aload_n (pc := 5) dX4_reset_5 rfl ?_
  refine r_iconst (pc := 6) (v := nI 0) dX4_reset_6 rfl ?_
  refine r_put (pc := 7) .int dX4_reset_7 fX4_37 rfl rfl nf4_7 rfl rfl ?_
  exact r_vret dX4_reset_10 rfl (rfl) rfl
theorem s_endFormula (X : Ctx) (d : Nat) (I : MI) (L : ML) (F n : Nat) (hF : I 15 6 = nI F) (hn : I 15 7 = nI n) (h4 : F < 4) : Sp X mX4_endFormula (d + 0) (0, 0) [.ref 15] shF I L (none, shF, (u2 (u2 I 21 F (nI n)) 15 6 (nI (F + 1))), L) := by
  refine Sp.of okX4_endFormula [.ref 15] 0 rfl (Nat.le_of_ble_eq_true rfl) ?_
  refine r_aload_n (pc := 0) dX4_endFormula_0 rfl ?_
  refine r_getV (pc := 1) (v := nI F) dX4_endFormula_1 fX4_30 rfl rfl (hF) ?_
  refine r_ifN_lt (pc := 4) (tgt := 38) dX4_endFormula_4 (by decide) (by omega) (fun c1 => ?_) (fun c1 => ?_)
  · exact absurd c1 (by omega)
  · refine r_aload_n (pc := 7) dX4_endFormula_7 rfl ?_
    refine r_getV (pc := 8) (v := nI F) dX4_endFormula_8 fX4_30 rfl rfl (hF) ?_
    refine r_iconst (pc := 11) (v := nI 4) dX4_endFormula_11 rfl ?_
    refine r_icmpN_ge (pc := 12) (tgt := 38) dX4_endFormula_12 (by decide) (by omega) (by omega) (fun c2 => ?_) (fun c2 => ?_)
    · exact absurd c2 (by omega)
    · refine r_aload_n (pc := 15) dX4_endFormula_15 rfl ?_
      refine r_getR (pc := 16) (b := 21) dX4_endFormula_16 fX4_27 rfl rfl ?_
      refine r_aload_n (pc := 19) dX4_endFormula_19 rfl ?_
      refine r_getV (pc := 20) (v := nI F) dX4_endFormula_20 fX4_30 rfl rfl (hF) ?_
      refine r_aload_n (pc := 23) dX4_endFormula_23 rfl ?_
      refine r_getV (pc := 24) (v := nI n) dX4_endFormula_24 fX4_37 rfl rfl (hn) ?_
      refine r_iast (pc := 27) (j := F) dX4_endFormula_27 rfl rfl (by omega) (by decide) ?_
      refine r_aload_n (pc := 28) dX4_endFormula_28 rfl ?_
      refine r_dup (pc := 29) dX4_endFormula_29 rfl ?_
      refine r_getV (pc := 30) (v := nI F) dX4_endFormula_30 fX4_30 rfl rfl (hF) ?_
      refine r_iconst (pc := 33) (v := nI 1) dX4_endFormula_33 rfl ?_
      refine r_iaddN (pc := 34) dX4_endFormula_34 ?_
      refine r_put (pc := 35) .int dX4_endFormula_35 fX4_30 rfl rfl nf4_6 rfl rfl ?_
      exact r_vret dX4_endFormula_38 rfl (rfl) rfl
theorem s_tadd (X : Ctx) (d : Nat) (I : MI) (L : ML) (n : Nat) (a b c p q : Int32) (hn : I 15 7 = nI n) (h8 : n < 80) : Sp X mX4_add (d + 0) (0, 0) [.ref 15, .int (a), .int (b), .int (c), .int (p), .int (q)] shF I L (some (.int (nI n)), shF, (u2 (u2 (u2 (u2 (u2 (u2 I 16 n a) 17 n b) 18 n c) 19 n p) 20 n q) 15 7 (nI (n + 1))), L) := by
  refine Sp.of okX4_add [.ref 15, .int (a), .int (b), .int (c), .int (p), .int (q), .null] 1 rfl (Nat.le_of_ble_eq_true rfl) ?_
  refine r_aload_n (pc := 0) dX4_add_0 rfl ?_
  refine r_getV (pc := 1) (v := nI n) dX4_add_1 fX4_37 rfl rfl (hn) ?_
  refine r_istore (pc := 4) (lo1 := [.ref 15, .int (a), .int (b), .int (c), .int (p), .int (q), .int (nI n)]) dX4_add_4 rfl (by decide) rfl ?_
  refine r_iload (pc := 6) dX4_add_6 rfl ?_
  refine r_ifN_lt (pc := 8) (tgt := 18) dX4_add_8 (by decide) (by omega) (fun c1 => ?_) (fun c1 => ?_)
  · exact absurd c1 (by omega)
  · refine r_iload (pc := 11) dX4_add_11 rfl ?_
    refine r_bipush (pc := 13) dX4_add_13 bp_80 ?_
    refine r_icmpN_lt (pc := 15) (tgt := 20) dX4_add_15 (by decide) (by omega) (by omega) (fun c2 => ?_) (fun c2 => ?_)
    · refine r_aload_n (pc := 20) dX4_add_20 rfl ?_
      refine r_getR (pc := 21) (b := 16) dX4_add_21 fX4_9 rfl rfl ?_
      refine r_iload (pc := 24) dX4_add_24 rfl ?_
      refine r_iload_n (pc := 26) dX4_add_26 rfl ?_
      refine r_iast (pc := 27) (j := n) dX4_add_27 rfl rfl (by omega) (by decide) ?_
      refine r_aload_n (pc := 28) dX4_add_28 rfl ?_
      refine r_getR (pc := 29) (b := 17) dX4_add_29 fX4_15 rfl rfl ?_
      refine r_iload (pc := 32) dX4_add_32 rfl ?_
      refine r_iload_n (pc := 34) dX4_add_34 rfl ?_
      refine r_iast (pc := 35) (j := n) dX4_add_35 rfl rfl (by omega) (by decide) ?_
      refine r_aload_n (pc := 36) dX4_add_36 rfl ?_
      refine r_getR (pc := 37) (b := 18) dX4_add_37 fX4_18 rfl rfl ?_
      refine r_iload (pc := 40) dX4_add_40 rfl ?_
      refine r_iload_n (pc := 42) dX4_add_42 rfl ?_
      refine r_iast (pc := 43) (j := n) dX4_add_43 rfl rfl (by omega) (by decide) ?_
      refine r_aload_n (pc := 44) dX4_add_44 rfl ?_
      refine r_getR (pc := 45) (b := 19) dX4_add_45 fX4_21 rfl rfl ?_
      refine r_iload (pc := 48) dX4_add_48 rfl ?_
      refine r_iload (pc := 50) dX4_add_50 rfl ?_
      refine r_iast (pc := 52) (j := n) dX4_add_52 rfl rfl (by omega) (by decide) ?_
      refine r_aload_n (pc := 53) dX4_add_53 rfl ?_
      refine r_getR (pc := 54) (b := 20) dX4_add_54 fX4_24 rfl rfl ?_
      refine r_iload (pc := 57) dX4_add_57 rfl ?_
      refine r_iload (pc := 59) dX4_add_59 rfl ?_
      refine r_iast (pc := 61) (j := n) dX4_add_61 rfl rfl (by omega) (by decide) ?_
      refine r_aload_n (pc := 62) dX4_add_62 rfl ?_
      refine r_iload (pc := 63) dX4_add_63 rfl ?_
      refine r_iconst (pc := 65) (v := nI 1) dX4_add_65 rfl ?_
      refine r_iaddN (pc := 66) dX4_add_66 ?_
      refine r_put (pc := 67) .int dX4_add_67 fX4_37 rfl rfl nf4_7 rfl rfl ?_
      refine r_iload (pc := 70) dX4_add_70 rfl ?_
      exact r_iret dX4_add_72 rfl (rfl) rfl
    · exact absurd c2 (by omega)
theorem s_addNumber (X : Ctx) (d : Nat) (I : MI) (L : ML) (n : Nat) (v : Int32) (hn : I 15 7 = nI n) (h8 : n < 80) : Sp X mX4_addNumber (d + 1) (0, 0) [.ref 15, .int (v)] shF I L (some (.int (nI n)), shF, (u2 (u2 (u2 (u2 (u2 (u2 I 16 n (nI 0)) 17 n v) 18 n (nI 0)) 19 n (nI 1)) 20 n (nI 0)) 15 7 (nI (n + 1))), L) := by
  refine Sp.of okX4_addNumber [.ref 15, .int (v)] 0 rfl (Nat.le_of_ble_eq_true rfl) ?_
  refine r_aload_n (pc := 0) dX4_addNumber_0 rfl ?_
  refine r_iconst (pc := 1) (v := nI 0) dX4_addNumber_1 rfl ?_
  refine r_iload_n (pc := 2) dX4_addNumber_2 rfl ?_
  refine r_iconst (pc := 3) (v := nI 0) dX4_addNumber_3 rfl ?_
  refine r_iconst (pc := 4) (v := nI 1) dX4_addNumber_4 rfl ?_
  refine r_iconst (pc := 5) (v := nI 0) dX4_addNumber_5 rfl ?_
  refine r_callV (pc := 6) (N := mX4_add) (rest := []) (s_tadd X _ I L n (nI 0) v (nI 0) (nI 1) (nI 0) (hn) (by omega)) okX4_add lkX4_40 rfl (by decide) rfl rfl rfl (Nat.le_of_ble_eq_true rfl) ⟨Nat.le_refl _, Nat.le_refl _⟩ dX4_addNumber_6 ?_
  exact r_iret dX4_addNumber_9 rfl (rfl) rfl
theorem s_addSource (X : Ctx) (d : Nat) (I : MI) (L : ML) (n : Nat) (v : Int32) (hn : I 15 7 = nI n) (h8 : n < 80) : Sp X mX4_addSource (d + 1) (0, 0) [.ref 15, .int (v)] shF I L (some (.int (nI n)), shF, (u2 (u2 (u2 (u2 (u2 (u2 I 16 n (nI 1)) 17 n v) 18 n (nI 0)) 19 n (nI 1)) 20 n (nI 1 <<< (v &&& 31))) 15 7 (nI (n + 1))), L) := by
  refine Sp.of okX4_addSource [.ref 15, .int (v)] 0 rfl (Nat.le_of_ble_eq_true rfl) ?_
  refine r_aload_n (pc := 0) dX4_addSource_0 rfl ?_
  refine r_iconst (pc := 1) (v := nI 1) dX4_addSource_1 rfl ?_
  refine r_iload_n (pc := 2) dX4_addSource_2 rfl ?_
  refine r_iconst (pc := 3) (v := nI 0) dX4_addSource_3 rfl ?_
  refine r_iconst (pc := 4) (v := nI 1) dX4_addSource_4 rfl ?_
  refine r_iconst (pc := 5) (v := nI 1) dX4_addSource_5 rfl ?_
  refine r_iload_n (pc := 6) dX4_addSource_6 rfl ?_
  refine r_ishl (pc := 7) dX4_addSource_7 ?_
  refine r_callV (pc := 8) (N := mX4_add) (rest := []) (s_tadd X _ I L n (nI 1) v (nI 0) (nI 1) ((nI 1) <<< (v &&& 31)) (hn) (by omega)) okX4_add lkX4_40 rfl (by decide) rfl rfl rfl (Nat.le_of_ble_eq_true rfl) ⟨Nat.le_refl _, Nat.le_refl _⟩ dX4_addSource_8 ?_
  exact r_iret dX4_addSource_11 rfl (rfl) rfl
theorem s_addOver (X : Ctx) (d : Nat) (I : MI) (L : ML) (n i : Nat) (k p : Int32) (hn : I 15 7 = nI n) (h8 : n < 80) (hi : i < 80) : Sp X mX4_addOver (d + 1) (0, 0) [.ref 15, .int (k), .int (nI i), .int (p)] shF I L (some (.int (nI n)), shF, (u2 (u2 (u2 (u2 (u2 (u2 I 16 n k) 17 n (nI i)) 18 n p) 19 n (nI 1 + I 19 i)) 20 n (I 20 i)) 15 7 (nI (n + 1))), L) := by
  refine Sp.of okX4_addOver [.ref 15, .int (k), .int (nI i), .int (p)] 0 rfl (Nat.le_of_ble_eq_true rfl) ?_
  refine r_aload_n (pc := 0) dX4_addOver_0 rfl ?_
  refine r_iload_n (pc := 1) dX4_addOver_1 rfl ?_
  refine r_iload_n (pc := 2) dX4_addOver_2 rfl ?_
  refine r_iload_n (pc := 3) dX4_addOver_3 rfl ?_
  refine r_iconst (pc := 4) (v := nI 1) dX4_addOver_4 rfl ?_
  refine r_aload_n (pc := 5) dX4_addOver_5 rfl ?_
  refine r_iload_n (pc := 6) dX4_addOver_6 rfl ?_
  refine r_callV (pc := 7) (N := mX4_steps) (rest := [.int (nI 1), .int (p), .int (nI i), .int (k), .ref 15]) (s_steps_15 X _ I L i (by omega)) okX4_steps lkX4_44 rfl (by decide) rfl rfl rfl (Nat.le_of_ble_eq_true rfl) ⟨Nat.le_refl _, Nat.le_refl _⟩ dX4_addOver_7 ?_
  refine r_iadd (pc := 10) dX4_addOver_10 ?_
  refine r_aload_n (pc := 11) dX4_addOver_11 rfl ?_
  refine r_iload_n (pc := 12) dX4_addOver_12 rfl ?_
  refine r_callV (pc := 13) (N := mX4_names) (rest := [.int ((nI 1) + (I 19 i)), .int (p), .int (nI i), .int (k), .ref 15]) (s_names_15 X _ I L i (by omega)) okX4_names lkX4_46 rfl (by decide) rfl rfl rfl (Nat.le_of_ble_eq_true rfl) ⟨Nat.le_refl _, Nat.le_refl _⟩ dX4_addOver_13 ?_
  refine r_callV (pc := 16) (N := mX4_add) (rest := []) (s_tadd X _ I L n k (nI i) p ((nI 1) + (I 19 i)) (I 20 i) (hn) (by omega)) okX4_add lkX4_40 rfl (by decide) rfl rfl rfl (Nat.le_of_ble_eq_true rfl) ⟨Nat.le_refl _, Nat.le_refl _⟩ dX4_addOver_16 ?_
  exact r_iret dX4_addOver_19 rfl (rfl) rfl
theorem s_addBoth (X : Ctx) (d : Nat) (I : MI) (L : ML) (n i j : Nat) (k : Int32) (hn : I 15 7 = nI n) (h8 : n < 80) (hi : i < 80) (hj : j < 80) : Sp X mX4_addBoth (d + 1) (0, 0) [.ref 15, .int (k), .int (nI i), .int (nI j)] shF I L (some (.int (nI n)), shF, (u2 (u2 (u2 (u2 (u2 (u2 I 16 n k) 17 n (nI i)) 18 n (nI j)) 19 n (nI 1 + I 19 i + I 19 j)) 20 n (I 20 i ||| I 20 j)) 15 7 (nI (n + 1))), L) := by
  refine Sp.of okX4_addBoth [.ref 15, .int (k), .int (nI i), .int (nI j)] 0 rfl (Nat.le_of_ble_eq_true rfl) ?_
  refine r_aload_n (pc := 0) dX4_addBoth_0 rfl ?_
  refine r_iload_n (pc := 1) dX4_addBoth_1 rfl ?_
  refine r_iload_n (pc := 2) dX4_addBoth_2 rfl ?_
  refine r_iload_n (pc := 3) dX4_addBoth_3 rfl ?_
  refine r_iconst (pc := 4) (v := nI 1) dX4_addBoth_4 rfl ?_
  refine r_aload_n (pc := 5) dX4_addBoth_5 rfl ?_
  refine r_iload_n (pc := 6) dX4_addBoth_6 rfl ?_
  refine r_callV (pc := 7) (N := mX4_steps) (rest := [.int (nI 1), .int (nI j), .int (nI i), .int (k), .ref 15]) (s_steps_15 X _ I L i (by omega)) okX4_steps lkX4_44 rfl (by decide) rfl rfl rfl (Nat.le_of_ble_eq_true rfl) ⟨Nat.le_refl _, Nat.le_refl _⟩ dX4_addBoth_7 ?_
  refine r_iadd (pc := 10) dX4_addBoth_10 ?_
  refine r_aload_n (pc := 11) dX4_addBoth_11 rfl ?_
  refine r_iload_n (pc := 12) dX4_addBoth_12 rfl ?_
  refine r_callV (pc := 13) (N := mX4_steps) (rest := [.int ((nI 1) + (I 19 i)), .int (nI j), .int (nI i), .int (k), .ref 15]) (s_steps_15 X _ I L j (by omega)) okX4_steps lkX4_44 rfl (by decide) rfl rfl rfl (Nat.le_of_ble_eq_true rfl) ⟨Nat.le_refl _, Nat.le_refl _⟩ dX4_addBoth_13 ?_
  refine r_iadd (pc := 16) dX4_addBoth_16 ?_
  refine r_aload_n (pc := 17) dX4_addBoth_17 rfl ?_
  refine r_iload_n (pc := 18) dX4_addBoth_18 rfl ?_
  refine r_callV (pc := 19) (N := mX4_names) (rest := [.int (((nI 1) + (I 19 i)) + (I 19 j)), .int (nI j), .int (nI i), .int (k), .ref 15]) (s_names_15 X _ I L i (by omega)) okX4_names lkX4_46 rfl (by decide) rfl rfl rfl (Nat.le_of_ble_eq_true rfl) ⟨Nat.le_refl _, Nat.le_refl _⟩ dX4_addBoth_19 ?_
  refine r_aload_n (pc := 22) dX4_addBoth_22 rfl ?_
  refine r_iload_n (pc := 23) dX4_addBoth_23 rfl ?_
  refine r_callV (pc := 24) (N := mX4_names) (rest := [.int (I 20 i), .int (((nI 1) + (I 19 i)) + (I 19 j)), .int (nI j), .int (nI i), .int (k), .ref 15]) (s_names_15 X _ I L j (by omega)) okX4_names lkX4_46 rfl (by decide) rfl rfl rfl (Nat.le_of_ble_eq_true rfl) ⟨Nat.le_refl _, Nat.le_refl _⟩ dX4_addBoth_24 ?_
  refine r_ior (pc := 27) dX4_addBoth_27 ?_
  refine r_callV (pc := 28) (N := mX4_add) (rest := []) (s_tadd X _ I L n k (nI i) (nI j) (((nI 1) + (I 19 i)) + (I 19 j)) ((I 20 i) ||| (I 20 j)) (hn) (by omega)) okX4_add lkX4_40 rfl (by decide) rfl rfl rfl (Nat.le_of_ble_eq_true rfl) ⟨Nat.le_refl _, Nat.le_refl _⟩ dX4_addBoth_28 ?_
  exact r_iret dX4_addBoth_31 rfl (rfl) rfl
theorem lp_ttake_b (X : Ctx) (d : Nat) (I : MI) (L : ML)  : ∀ (n i : Nat), i + n = 4 → Ev X mX4_take (d + 0) (0, 0) (0, 0) (none, shF, (u2 (u2 (cpA (cp5 I 80) 10 21 4) 4 6 (I 15 6)) 4 7 (I 15 7)), L) 76 [.ref 4, .ref 15, .int (nI i)] [] shF (cpA (cp5 I 80) 10 21 i) L := by
  intro n
  induction n with
  | zero =>
    intro i hi
    have hi2 : i = 4 := by omega
    rw [hi2]
    refine r_iload_n (pc := 76) dX4_take_76 rfl ?_
    refine r_iconst (pc := 77) (v := nI 4) dX4_take_77 rfl ?_
    refine r_icmpN_ge (pc := 78) (tgt := 99) dX4_take_78 (by decide) (by omega) (by omega) (fun c1 => ?_) (fun c1 => ?_)
    · refine r_aload_n (pc := 99) dX4_take_99 rfl ?_
      refine r_aload_n (pc := 100) dX4_take_100 rfl ?_
      refine r_get (pc := 101) dX4_take_101 fX4_30 rfl rfl ?_
      refine r_put (pc := 104) .int dX4_take_104 fX4_30 rfl rfl nf4_6 rfl rfl ?_
      refine r_aload_n (pc := 107) dX4_take_107 rfl ?_
      refine r_aload_n (pc := 108) dX4_take_108 rfl ?_
      refine r_get (pc := 109) dX4_take_109 fX4_37 rfl rfl ?_
      refine r_put (pc := 112) .int dX4_take_112 fX4_37 rfl rfl nf4_7 rfl rfl ?_
      exact r_vret dX4_take_115 rfl (rfl) rfl
    · exact absurd c1 (by decide)
  | succ n ih =>
    intro i hi
    refine r_iload_n (pc := 76) dX4_take_76 rfl ?_
    refine r_iconst (pc := 77) (v := nI 4) dX4_take_77 rfl ?_
    refine r_icmpN_ge (pc := 78) (tgt := 99) dX4_take_78 (by decide) (by omega) (by omega) (fun c2 => ?_) (fun c2 => ?_)
    · exact absurd c2 (by omega)
    · refine r_aload_n (pc := 81) dX4_take_81 rfl ?_
      refine r_getR (pc := 82) (b := 10) dX4_take_82 fX4_27 rfl rfl ?_
      refine r_iload_n (pc := 85) dX4_take_85 rfl ?_
      refine r_aload_n (pc := 86) dX4_take_86 rfl ?_
      refine r_getR (pc := 87) (b := 21) dX4_take_87 fX4_27 rfl rfl ?_
      refine r_iload_n (pc := 90) dX4_take_90 rfl ?_
      refine r_iald (pc := 91) (j := i) dX4_take_91 rfl rfl (by omega) (by decide) ?_
      refine r_iast (pc := 92) (j := i) dX4_take_92 rfl rfl (by omega) (by decide) ?_
      refine r_iinc (pc := 93) (v := nI (i + 1)) (lo1 := [.ref 4, .ref 15, .int (nI (i + 1))]) dX4_take_93 rfl rfl (ii1 _) (by decide) rfl ?_
      refine r_goto (pc := 96) (tgt := 76) dX4_take_96 (by decide) ?_
      refine r_I (I' := (cpA (cp5 I 80) 10 21 (i + 1))) (cpA_s _ _ (by decide)) ?_
      exact ih (i + 1) (by omega)
theorem lp_ttake_a (X : Ctx) (d : Nat) (I : MI) (L : ML)  : ∀ (n i : Nat), i + n = 80 → Ev X mX4_take (d + 0) (0, 0) (0, 0) (none, shF, (u2 (u2 (cpA (cp5 I 80) 10 21 4) 4 6 (I 15 6)) 4 7 (I 15 7)), L) 2 [.ref 4, .ref 15, .int (nI i)] [] shF (cp5 I i) L := by
  intro n
  induction n with
  | zero =>
    intro i hi
    have hi2 : i = 80 := by omega
    rw [hi2]
    refine r_iload_n (pc := 2) dX4_take_2 rfl ?_
    refine r_bipush (pc := 3) dX4_take_3 bp_80 ?_
    refine r_icmpN_ge (pc := 5) (tgt := 74) dX4_take_5 (by decide) (by omega) (by omega) (fun c3 => ?_) (fun c3 => ?_)
    · refine r_iconst (pc := 74) (v := nI 0) dX4_take_74 rfl ?_
      refine r_istore_n (pc := 75) (lo1 := [.ref 4, .ref 15, .int (nI 0)]) dX4_take_75 rfl (by decide) rfl ?_
      refine r_I (cpA_0 _ 10 21).symm ?_
      exact lp_ttake_b X d I L 4 0 rfl
    · exact absurd c3 (by decide)
  | succ n ih =>
    intro i hi
    refine r_iload_n (pc := 2) dX4_take_2 rfl ?_
    refine r_bipush (pc := 3) dX4_take_3 bp_80 ?_
    refine r_icmpN_ge (pc := 5) (tgt := 74) dX4_take_5 (by decide) (by omega) (by omega) (fun c4 => ?_) (fun c4 => ?_)
    · exact absurd c4 (by omega)
    · refine r_aload_n (pc := 8) dX4_take_8 rfl ?_
      refine r_getR (pc := 9) (b := 5) dX4_take_9 fX4_9 rfl rfl ?_
      refine r_iload_n (pc := 12) dX4_take_12 rfl ?_
      refine r_aload_n (pc := 13) dX4_take_13 rfl ?_
      refine r_getR (pc := 14) (b := 16) dX4_take_14 fX4_9 rfl rfl ?_
      refine r_iload_n (pc := 17) dX4_take_17 rfl ?_
      refine r_iald (pc := 18) (j := i) dX4_take_18 rfl rfl (by omega) (by decide) ?_
      refine r_iast (pc := 19) (j := i) dX4_take_19 rfl rfl (by omega) (by decide) ?_
      refine r_aload_n (pc := 20) dX4_take_20 rfl ?_
      refine r_getR (pc := 21) (b := 6) dX4_take_21 fX4_15 rfl rfl ?_
      refine r_iload_n (pc := 24) dX4_take_24 rfl ?_
      refine r_aload_n (pc := 25) dX4_take_25 rfl ?_
      refine r_getR (pc := 26) (b := 17) dX4_take_26 fX4_15 rfl rfl ?_
      refine r_iload_n (pc := 29) dX4_take_29 rfl ?_
      refine r_iald (pc := 30) (j := i) dX4_take_30 rfl rfl (by omega) (by decide) ?_
      refine r_iast (pc := 31) (j := i) dX4_take_31 rfl rfl (by omega) (by decide) ?_
      refine r_aload_n (pc := 32) dX4_take_32 rfl ?_
      refine r_getR (pc := 33) (b := 7) dX4_take_33 fX4_18 rfl rfl ?_
      refine r_iload_n (pc := 36) dX4_take_36 rfl ?_
      refine r_aload_n (pc := 37) dX4_take_37 rfl ?_
      refine r_getR (pc := 38) (b := 18) dX4_take_38 fX4_18 rfl rfl ?_
      refine r_iload_n (pc := 41) dX4_take_41 rfl ?_
      refine r_iald (pc := 42) (j := i) dX4_take_42 rfl rfl (by omega) (by decide) ?_
      refine r_iast (pc := 43) (j := i) dX4_take_43 rfl rfl (by omega) (by decide) ?_
      refine r_aload_n (pc := 44) dX4_take_44 rfl ?_
      refine r_getR (pc := 45) (b := 8) dX4_take_45 fX4_21 rfl rfl ?_
      refine r_iload_n (pc := 48) dX4_take_48 rfl ?_
      refine r_aload_n (pc := 49) dX4_take_49 rfl ?_
      refine r_getR (pc := 50) (b := 19) dX4_take_50 fX4_21 rfl rfl ?_
      refine r_iload_n (pc := 53) dX4_take_53 rfl ?_
      refine r_iald (pc := 54) (j := i) dX4_take_54 rfl rfl (by omega) (by decide) ?_
      refine r_iast (pc := 55) (j := i) dX4_take_55 rfl rfl (by omega) (by decide) ?_
      refine r_aload_n (pc := 56) dX4_take_56 rfl ?_
      refine r_getR (pc := 57) (b := 9) dX4_take_57 fX4_24 rfl rfl ?_
      refine r_iload_n (pc := 60) dX4_take_60 rfl ?_
      refine r_aload_n (pc := 61) dX4_take_61 rfl ?_
      refine r_getR (pc := 62) (b := 20) dX4_take_62 fX4_24 rfl rfl ?_
      refine r_iload_n (pc := 65) dX4_take_65 rfl ?_
      refine r_iald (pc := 66) (j := i) dX4_take_66 rfl rfl (by omega) (by decide) ?_
      refine r_iast (pc := 67) (j := i) dX4_take_67 rfl rfl (by omega) (by decide) ?_
      refine r_iinc (pc := 68) (v := nI (i + 1)) (lo1 := [.ref 4, .ref 15, .int (nI (i + 1))]) dX4_take_68 rfl rfl (ii1 _) (by decide) rfl ?_
      refine r_goto (pc := 71) (tgt := 2) dX4_take_71 (by decide) ?_
      refine r_I (I' := (cp5 I (i + 1))) (cp5_s _ _) ?_
      exact ih (i + 1) (by omega)
theorem s_ttake (X : Ctx) (d : Nat) (I : MI) (L : ML)  : Sp X mX4_take (d + 0) (0, 0) [.ref 4, .ref 15] shF I L (none, shF, (u2 (u2 (cpA (cp5 I 80) 10 21 4) 4 6 (I 15 6)) 4 7 (I 15 7)), L) := by
  refine Sp.of okX4_take [.ref 4, .ref 15, .null] 1 rfl (Nat.le_of_ble_eq_true rfl) ?_
  refine r_iconst (pc := 0) (v := nI 0) dX4_take_0 rfl ?_
  refine r_istore_n (pc := 1) (lo1 := [.ref 4, .ref 15, .int (nI 0)]) dX4_take_1 rfl (by decide) rfl ?_
  refine r_I (cp5_0 _).symm ?_
  exact lp_ttake_a X d I L 80 0 rfl
theorem s_letters (X : Ctx) (d : Nat) (I : MI) (L : ML) (n : Nat) (hn : I 11 3 = nI n) : Sp X mX2_letters (d + 0) (0, 0) [.ref 11] shF I L (some (.int (nI n)), shF, I, L) := by
  refine Sp.of okX2_letters [.ref 11] 0 rfl (Nat.le_of_ble_eq_true rfl) ?_
  refine r_aload_n (pc := 0) dX2_letters_0 rfl ?_
  refine r_getV (pc := 1) (v := nI n) dX2_letters_1 fX2_29 rfl rfl (hn) ?_
  exact r_iret dX2_letters_4 rfl (rfl) rfl
theorem s_drop (X : Ctx) (d : Nat) (I : MI) (L : ML)  : Sp X mX2_drop (d + 0) (0, 0) [.ref 11] shF I L (none, shF, (u2 I 11 3 (nI 0)), L) := by
  refine Sp.of okX2_drop [.ref 11] 0 rfl (Nat.le_of_ble_eq_true rfl) ?_
  refine r_aload_n (pc := 0) dX2_drop_0 rfl ?_
  refine r_iconst (pc := 1) (v := nI 0) dX2_drop_1 rfl ?_
  refine r_put (pc := 2) .int dX2_drop_2 fX2_29 rfl rfl nf2_3 rfl rfl ?_
  exact r_vret dX2_drop_5 rfl (rfl) rfl
theorem s_radd_t (X : Ctx) (d : Nat) (I : MI) (L : ML) (n : Nat) (c : Int32) (hn : I 11 3 = nI n) (h : n < 100) : Sp X mX2_add (d + 0) (0, 0) [.ref 11, .int (c)] shF I L (some (.int (nI 1)), shF, (u2 (u2 I 22 n c) 11 3 (nI (n + 1))), L) := by
  refine Sp.of okX2_add [.ref 11, .int (c)] 0 rfl (Nat.le_of_ble_eq_true rfl) ?_
  refine r_aload_n (pc := 0) dX2_add_0 rfl ?_
  refine r_getV (pc := 1) (v := nI n) dX2_add_1 fX2_29 rfl rfl (hn) ?_
  refine r_ifN_lt (pc := 4) (tgt := 16) dX2_add_4 (by decide) (by omega) (fun c1 => ?_) (fun c1 => ?_)
  · exact absurd c1 (by omega)
  · refine r_aload_n (pc := 7) dX2_add_7 rfl ?_
    refine r_getV (pc := 8) (v := nI n) dX2_add_8 fX2_29 rfl rfl (hn) ?_
    refine r_bipush (pc := 11) dX2_add_11 bp_100 ?_
    refine r_icmpN_lt (pc := 13) (tgt := 18) dX2_add_13 (by decide) (by omega) (by omega) (fun c2 => ?_) (fun c2 => ?_)
    · refine r_aload_n (pc := 18) dX2_add_18 rfl ?_
      refine r_getR (pc := 19) (b := 22) dX2_add_19 fX2_25 rfl rfl ?_
      refine r_aload_n (pc := 22) dX2_add_22 rfl ?_
      refine r_getV (pc := 23) (v := nI n) dX2_add_23 fX2_29 rfl rfl (hn) ?_
      refine r_iload_n (pc := 26) dX2_add_26 rfl ?_
      refine r_iast (pc := 27) (j := n) dX2_add_27 rfl rfl (by omega) (by decide) ?_
      refine r_aload_n (pc := 28) dX2_add_28 rfl ?_
      refine r_dup (pc := 29) dX2_add_29 rfl ?_
      refine r_getV (pc := 30) (v := nI n) dX2_add_30 fX2_29 rfl rfl (hn) ?_
      refine r_iconst (pc := 33) (v := nI 1) dX2_add_33 rfl ?_
      refine r_iaddN (pc := 34) dX2_add_34 ?_
      refine r_put (pc := 35) .int dX2_add_35 fX2_29 rfl rfl nf2_3 rfl rfl ?_
      refine r_iconst (pc := 38) (v := nI 1) dX2_add_38 rfl ?_
      exact r_zret dX2_add_39 rfl (by decide) (rfl) rfl
    · exact absurd c2 (by omega)
theorem s_radd_f (X : Ctx) (d : Nat) (I : MI) (L : ML) (c : Int32) (hn : I 11 3 = nI 100) : Sp X mX2_add (d + 0) (0, 0) [.ref 11, .int (c)] shF I L (some (.int (nI 0)), shF, I, L) := by
  refine Sp.of okX2_add [.ref 11, .int (c)] 0 rfl (Nat.le_of_ble_eq_true rfl) ?_
  refine r_aload_n (pc := 0) dX2_add_0 rfl ?_
  refine r_getV (pc := 1) (v := nI 100) dX2_add_1 fX2_29 rfl rfl (hn) ?_
  refine r_ifN_lt (pc := 4) (tgt := 16) dX2_add_4 (by decide) (by omega) (fun c1 => ?_) (fun c1 => ?_)
  · exact absurd c1 (by decide)
  · refine r_aload_n (pc := 7) dX2_add_7 rfl ?_
    refine r_getV (pc := 8) (v := nI 100) dX2_add_8 fX2_29 rfl rfl (hn) ?_
    refine r_bipush (pc := 11) dX2_add_11 bp_100 ?_
    refine r_icmpN_lt (pc := 13) (tgt := 18) dX2_add_13 (by decide) (by omega) (by omega) (fun c2 => ?_) (fun c2 => ?_)
    · exact absurd c2 (by decide)
    · refine r_iconst (pc := 16) (v := nI 0) dX2_add_16 rfl ?_
      exact r_zret dX2_add_17 rfl (by decide) (rfl) rfl
theorem s_at_28 (X : Ctx) (d : Nat) (I : MI) (L : ML) (i : Nat) (hi : i < 80) : Sp X mX3_at (d + 0) (0, 0) [.ref 28, .int (nI i)] shF I L (some (.long (L 28 i)), shF, I, L) := by
  refine Sp.of okX3_at [.ref 28, .int (nI i)] 0 rfl (Nat.le_of_ble_eq_true rfl) ?_
  refine r_iload_n (pc := 0) dX3_at_0 rfl ?_
  refine r_ifN_lt (pc := 1) (tgt := 16) dX3_at_1 (by decide) (by omega) (fun c1 => ?_) (fun c1 => ?_)
  · exact absurd c1 (by omega)
  · refine r_iload_n (pc := 4) dX3_at_4 rfl ?_
    refine r_aload_n (pc := 5) dX3_at_5 rfl ?_
    refine r_alen (pc := 6) (n := 80) dX3_at_6 rfl (by decide) ?_
    refine r_icmpN_ge (pc := 7) (tgt := 16) dX3_at_7 (by decide) (by omega) (by omega) (fun c2 => ?_) (fun c2 => ?_)
    · exact absurd c2 (by omega)
    · refine r_aload_n (pc := 10) dX3_at_10 rfl ?_
      refine r_iload_n (pc := 11) dX3_at_11 rfl ?_
      refine r_lald (pc := 12) (j := i) dX3_at_12 rfl rfl (by omega) (by decide) ?_
      refine r_goto (pc := 13) (tgt := 17) dX3_at_13 (by decide) ?_
      exact r_lret dX3_at_17 rfl (rfl) rfl
theorem s_at_29 (X : Ctx) (d : Nat) (I : MI) (L : ML) (i : Nat) (hi : i < 80) : Sp X mX3_at (d + 0) (0, 0) [.ref 29, .int (nI i)] shF I L (some (.long (L 29 i)), shF, I, L) := by
  refine Sp.of okX3_at [.ref 29, .int (nI i)] 0 rfl (Nat.le_of_ble_eq_true rfl) ?_
  refine r_iload_n (pc := 0) dX3_at_0 rfl ?_
  refine r_ifN_lt (pc := 1) (tgt := 16) dX3_at_1 (by decide) (by omega) (fun c1 => ?_) (fun c1 => ?_)
  · exact absurd c1 (by omega)
  · refine r_iload_n (pc := 4) dX3_at_4 rfl ?_
    refine r_aload_n (pc := 5) dX3_at_5 rfl ?_
    refine r_alen (pc := 6) (n := 80) dX3_at_6 rfl (by decide) ?_
    refine r_icmpN_ge (pc := 7) (tgt := 16) dX3_at_7 (by decide) (by omega) (by omega) (fun c2 => ?_) (fun c2 => ?_)
    · exact absurd c2 (by omega)
    · refine r_aload_n (pc := 10) dX3_at_10 rfl ?_
      refine r_iload_n (pc := 11) dX3_at_11 rfl ?_
      refine r_lald (pc := 12) (j := i) dX3_at_12 rfl rfl (by omega) (by decide) ?_
      refine r_goto (pc := 13) (tgt := 17) dX3_at_13 (by decide) ?_
      exact r_lret dX3_at_17 rfl (rfl) rfl
theorem s_at_30 (X : Ctx) (d : Nat) (I : MI) (L : ML) (i : Nat) (hi : i < 80) : Sp X mX3_at (d + 0) (0, 0) [.ref 30, .int (nI i)] shF I L (some (.long (L 30 i)), shF, I, L) := by
  refine Sp.of okX3_at [.ref 30, .int (nI i)] 0 rfl (Nat.le_of_ble_eq_true rfl) ?_
  refine r_iload_n (pc := 0) dX3_at_0 rfl ?_
  refine r_ifN_lt (pc := 1) (tgt := 16) dX3_at_1 (by decide) (by omega) (fun c1 => ?_) (fun c1 => ?_)
  · exact absurd c1 (by omega)
  · refine r_iload_n (pc := 4) dX3_at_4 rfl ?_
    refine r_aload_n (pc := 5) dX3_at_5 rfl ?_
    refine r_alen (pc := 6) (n := 80) dX3_at_6 rfl (by decide) ?_
    refine r_icmpN_ge (pc := 7) (tgt := 16) dX3_at_7 (by decide) (by omega) (by omega) (fun c2 => ?_) (fun c2 => ?_)
    · exact absurd c2 (by omega)
    · refine r_aload_n (pc := 10) dX3_at_10 rfl ?_
      refine r_iload_n (pc := 11) dX3_at_11 rfl ?_
      refine r_lald (pc := 12) (j := i) dX3_at_12 rfl rfl (by omega) (by decide) ?_
      refine r_goto (pc := 13) (tgt := 17) dX3_at_13 (by decide) ?_
      exact r_lret dX3_at_17 rfl (rfl) rfl
theorem s_at_31 (X : Ctx) (d : Nat) (I : MI) (L : ML) (i : Nat) (hi : i < 80) : Sp X mX3_at (d + 0) (0, 0) [.ref 31, .int (nI i)] shF I L (some (.long (L 31 i)), shF, I, L) := by
  refine Sp.of okX3_at [.ref 31, .int (nI i)] 0 rfl (Nat.le_of_ble_eq_true rfl) ?_
  refine r_iload_n (pc := 0) dX3_at_0 rfl ?_
  refine r_ifN_lt (pc := 1) (tgt := 16) dX3_at_1 (by decide) (by omega) (fun c1 => ?_) (fun c1 => ?_)
  · exact absurd c1 (by omega)
  · refine r_iload_n (pc := 4) dX3_at_4 rfl ?_
    refine r_aload_n (pc := 5) dX3_at_5 rfl ?_
    refine r_alen (pc := 6) (n := 80) dX3_at_6 rfl (by decide) ?_
    refine r_icmpN_ge (pc := 7) (tgt := 16) dX3_at_7 (by decide) (by omega) (by omega) (fun c2 => ?_) (fun c2 => ?_)
    · exact absurd c2 (by omega)
    · refine r_aload_n (pc := 10) dX3_at_10 rfl ?_
      refine r_iload_n (pc := 11) dX3_at_11 rfl ?_
      refine r_lald (pc := 12) (j := i) dX3_at_12 rfl rfl (by omega) (by decide) ?_
      refine r_goto (pc := 13) (tgt := 17) dX3_at_13 (by decide) ?_
      exact r_lret dX3_at_17 rfl (rfl) rfl
theorem lp_power (X : Ctx) (d : Nat) (I : MI) (L : ML) (x : Int64) (m : Nat) (hm : m ≤ 4) : ∀ (n i : Nat), i + n = m → Ev X mX3_power (d + 0) (0, 0) (0, 0) (some (.long (pw x m)), shF, I, L) 5 [.long (x), .null, .int (nI m), .long (pw x i), .null, .int (nI i)] [] shF I L := by
  intro n
  induction n with
  | zero =>
    intro i hi
    have hi2 : i = m := by omega
    rw [hi2]
    refine r_iload (pc := 5) dX3_power_5 rfl ?_
    refine r_iload_n (pc := 7) dX3_power_7 rfl ?_
    refine r_icmpN_ge (pc := 8) (tgt := 27) dX3_power_8 (by decide) (by omega) (by omega) (fun c1 => ?_) (fun c1 => ?_)
    · refine r_lload_n (pc := 27) dX3_power_27 rfl ?_
      exact r_lret dX3_power_28 rfl (rfl) rfl
    · exact absurd c1 (by omega)
  | succ n ih =>
    intro i hi
    refine r_iload (pc := 5) dX3_power_5 rfl ?_
    refine r_iload_n (pc := 7) dX3_power_7 rfl ?_
    refine r_icmpN_ge (pc := 8) (tgt := 27) dX3_power_8 (by decide) (by omega) (by omega) (fun c2 => ?_) (fun c2 => ?_)
    · exact absurd c2 (by omega)
    · refine r_iload (pc := 11) dX3_power_11 rfl ?_
      refine r_iconst (pc := 13) (v := nI 4) dX3_power_13 rfl ?_
      refine r_icmpN_ge (pc := 14) (tgt := 27) dX3_power_14 (by decide) (by omega) (by omega) (fun c3 => ?_) (fun c3 => ?_)
      · exact absurd c3 (by omega)
      · refine r_lload_n (pc := 17) dX3_power_17 rfl ?_
        refine r_lload_n (pc := 18) dX3_power_18 rfl ?_
        refine r_lmul (pc := 19) dX3_power_19 ?_
        refine r_lstore_n (pc := 20) (lo1 := [.long (x), .null, .int (nI m), .long ((pw x i) * x), .null, .int (nI i)]) dX3_power_20 rfl (by decide) rfl ?_
        refine r_iinc (pc := 21) (v := nI (i + 1)) (lo1 := [.long (x), .null, .int (nI m), .long ((pw x i) * x), .null, .int (nI (i + 1))]) dX3_power_21 rfl rfl (ii1 _) (by decide) rfl ?_
        refine r_goto (pc := 24) (tgt := 5) dX3_power_24 (by decide) ?_
        exact ih (i + 1) (by omega)
theorem s_power (X : Ctx) (d : Nat) (I : MI) (L : ML) (x : Int64) (m : Nat) (hm : m ≤ 4) : Sp X mX3_power (d + 0) (0, 0) [.long (x), .int (nI m)] shF I L (some (.long (pw x m)), shF, I, L) := by
  refine Sp.of okX3_power [.long (x), .null, .int (nI m), .null, .null, .null] 3 rfl (Nat.le_of_ble_eq_true rfl) ?_
  refine r_lconst (pc := 0) (v := 1) dX3_power_0 rfl ?_
  refine r_lstore_n (pc := 1) (lo1 := [.long (x), .null, .int (nI m), .long (1), .null, .null]) dX3_power_1 rfl (by decide) rfl ?_
  refine r_iconst (pc := 2) (v := nI 0) dX3_power_2 rfl ?_
  refine r_istore (pc := 3) (lo1 := [.long (x), .null, .int (nI m), .long (1), .null, .int (nI 0)]) dX3_power_3 rfl (by decide) rfl ?_
  exact lp_power X d I L x m hm m 0 (by omega)
theorem s_power_n (X : Ctx) (d : Nat) (I : MI) (L : ML) (x : Int64) (m : Int32) (hm : m ≤ nI 0) : Sp X mX3_power (d + 0) (0, 0) [.long (x), .int (m)] shF I L (some (.long (1)), shF, I, L) := by
  refine Sp.of okX3_power [.long (x), .null, .int (m), .null, .null, .null] 3 rfl (Nat.le_of_ble_eq_true rfl) ?_
  refine r_lconst (pc := 0) (v := 1) dX3_power_0 rfl ?_
  refine r_lstore_n (pc := 1) (lo1 := [.long (x), .null, .int (m), .long (1), .null, .null]) dX3_power_1 rfl (by decide) rfl ?_
  refine r_iconst (pc := 2) (v := nI 0) dX3_power_2 rfl ?_
  refine r_istore (pc := 3) (lo1 := [.long (x), .null, .int (m), .long (1), .null, .int (nI 0)]) dX3_power_3 rfl (by decide) rfl ?_
  refine r_iload (pc := 5) dX3_power_5 rfl ?_
  refine r_iload_n (pc := 7) dX3_power_7 rfl ?_
  refine r_icmp_ge (pc := 8) (tgt := 27) dX3_power_8 (by decide) (fun c1 => ?_) (fun c1 => ?_)
  · refine r_lload_n (pc := 27) dX3_power_27 rfl ?_
    exact r_lret dX3_power_28 rfl (rfl) rfl
  · exact absurd hm c1
