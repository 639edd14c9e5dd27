theorem p_type_f (X : Ctx) (d : Nat) (I : MI) (L : ML) (c : Int32) (h : c < 0 ∨ nI 255 < c) : Sp X mX5_type (d + 0) (0, 0) [.ref 0, .int (c)] shF I L (some (.int (-1)), shF, I, L) := by
  refine Sp.of okX5_type [.ref 0, .int (c)] 0 rfl (Nat.le_of_ble_eq_true rfl) ?_
  refine r_iload_n (pc := 0) dX5_type_0 rfl ?_
  refine r_if_lt (pc := 1) (tgt := 11) dX5_type_1 (by decide) (fun c1 => ?_) (fun c1 => ?_)
  · refine r_iconst (pc := 11) (v := -1) dX5_type_11 rfl ?_
    exact r_iret dX5_type_12 rfl (rfl) rfl
  · refine r_iload_n (pc := 4) dX5_type_4 rfl ?_
    refine r_sipush (pc := 5) dX5_type_5 sp_255 ?_
    refine r_icmp_le (pc := 8) (tgt := 13) dX5_type_8 (by decide) (fun c2 => ?_) (fun c2 => ?_)
    · exact (h.elim c1 (i_nlt c2)).elim
    · refine r_iconst (pc := 11) (v := -1) dX5_type_11 rfl ?_
      exact r_iret dX5_type_12 rfl (rfl) rfl
theorem p_type (X : Ctx) (d : Nat) (I : MI) (L : ML) (n : Nat) (c : Int32) (h1 : ¬ c < 0) (h2 : c ≤ nI 255) (hn : I 11 3 = nI n) (h : n < 100) : Sp X mX5_type (d + 1) (0, 0) [.ref 0, .int (c)] shF I L (some (.int (nI (n + 1))), shF, (u2 (u2 I 22 n c) 11 3 (nI (n + 1))), L) := by
  refine Sp.of okX5_type [.ref 0, .int (c)] 0 rfl (Nat.le_of_ble_eq_true rfl) ?_
  refine r_iload_n (pc := 0) dX5_type_0 rfl ?_
  refine r_if_lt (pc := 1) (tgt := 11) dX5_type_1 (by decide) (fun c1 => ?_) (fun c1 => ?_)
  · exact absurd c1 h1
  · refine r_iload_n (pc := 4) dX5_type_4 rfl ?_
    refine r_sipush (pc := 5) dX5_type_5 sp_255 ?_
    refine r_icmp_le (pc := 8) (tgt := 13) dX5_type_8 (by decide) (fun c2 => ?_) (fun c2 => ?_)
    · refine r_aload_n (pc := 13) dX5_type_13 rfl ?_
      refine r_getR (pc := 14) (b := 11) dX5_type_14 fX5_26 rfl rfl ?_
      refine r_iload_n (pc := 17) dX5_type_17 rfl ?_
      refine r_callV (pc := 18) (N := mX2_add) (rest := []) (s_radd_t X _ I L n c hn (by omega)) okX2_add lkX5_66 rfl (by decide) rfl rfl rfl (Nat.le_of_ble_eq_true rfl) ⟨Nat.le_refl _, Nat.le_refl _⟩ dX5_type_18 ?_
      refine r_ifN_eq (pc := 21) (tgt := 34) dX5_type_21 (by decide) (by omega) (fun c3 => ?_) (fun c3 => ?_)
      · exact absurd c3 (by decide)
      · refine r_aload_n (pc := 24) dX5_type_24 rfl ?_
        refine r_getR (pc := 25) (b := 11) dX5_type_25 fX5_26 rfl rfl ?_
        refine r_callV (pc := 28) (N := mX2_letters) (rest := []) (s_letters X _ (u2 (u2 I 22 n c) 11 3 (nI (n + 1))) L (n + 1) (rfl)) okX2_letters lkX5_70 rfl (by decide) rfl rfl rfl (Nat.le_of_ble_eq_true rfl) ⟨Nat.le_refl _, Nat.le_refl _⟩ dX5_type_28 ?_
        refine r_goto (pc := 31) (tgt := 36) dX5_type_31 (by decide) ?_
        exact r_iret dX5_type_36 rfl (rfl) rfl
    · exact absurd h2 c2
theorem p_type_full (X : Ctx) (d : Nat) (I : MI) (L : ML) (c : Int32) (h1 : ¬ c < 0) (h2 : c ≤ nI 255) (hn : I 11 3 = nI 100) : Sp X mX5_type (d + 1) (0, 0) [.ref 0, .int (c)] shF I L (some (.int (-3)), shF, I, L) := by
  refine Sp.of okX5_type [.ref 0, .int (c)] 0 rfl (Nat.le_of_ble_eq_true rfl) ?_
  refine r_iload_n (pc := 0) dX5_type_0 rfl ?_
  refine r_if_lt (pc := 1) (tgt := 11) dX5_type_1 (by decide) (fun c1 => ?_) (fun c1 => ?_)
  · exact absurd c1 h1
  · refine r_iload_n (pc := 4) dX5_type_4 rfl ?_
    refine r_sipush (pc := 5) dX5_type_5 sp_255 ?_
    refine r_icmp_le (pc := 8) (tgt := 13) dX5_type_8 (by decide) (fun c2 => ?_) (fun c2 => ?_)
    · refine r_aload_n (pc := 13) dX5_type_13 rfl ?_
      refine r_getR (pc := 14) (b := 11) dX5_type_14 fX5_26 rfl rfl ?_
      refine r_iload_n (pc := 17) dX5_type_17 rfl ?_
      refine r_callV (pc := 18) (N := mX2_add) (rest := []) (s_radd_f X _ I L c hn) okX2_add lkX5_66 rfl (by decide) rfl rfl rfl (Nat.le_of_ble_eq_true rfl) ⟨Nat.le_refl _, Nat.le_refl _⟩ dX5_type_18 ?_
      refine r_ifN_eq (pc := 21) (tgt := 34) dX5_type_21 (by decide) (by omega) (fun c3 => ?_) (fun c3 => ?_)
      · refine r_bipush (pc := 34) dX5_type_34 bp_m3 ?_
        exact r_iret dX5_type_36 rfl (rfl) rfl
      · exact absurd c3 (by decide)
    · exact absurd h2 c2
theorem p_clear (X : Ctx) (d : Nat) (I : MI) (L : ML) (n : Nat) (hn : I 11 3 = nI n) : Sp X mX5_clear (d + 1) (0, 0) [.ref 0] shF I L (some (.int (nI n)), shF, (u2 I 11 3 (nI 0)), L) := by
  refine Sp.of okX5_clear [.ref 0, .null] 1 rfl (Nat.le_of_ble_eq_true rfl) ?_
  refine r_aload_n (pc := 0) dX5_clear_0 rfl ?_
  refine r_getR (pc := 1) (b := 11) dX5_clear_1 fX5_26 rfl rfl ?_
  refine r_callV (pc := 4) (N := mX2_letters) (rest := []) (s_letters X _ I L n (hn)) okX2_letters lkX5_70 rfl (by decide) rfl rfl rfl (Nat.le_of_ble_eq_true rfl) ⟨Nat.le_refl _, Nat.le_refl _⟩ dX5_clear_4 ?_
  refine r_istore_n (pc := 7) (lo1 := [.ref 0, .int (nI n)]) dX5_clear_7 rfl (by decide) rfl ?_
  refine r_aload_n (pc := 8) dX5_clear_8 rfl ?_
  refine r_getR (pc := 9) (b := 11) dX5_clear_9 fX5_26 rfl rfl ?_
  refine r_callV (pc := 12) (N := mX2_drop) (rest := []) (s_drop X _ I L) okX2_drop lkX5_74 rfl (by decide) rfl rfl rfl (Nat.le_of_ble_eq_true rfl) ⟨Nat.le_refl _, Nat.le_refl _⟩ dX5_clear_12 ?_
  refine r_iload_n (pc := 15) dX5_clear_15 rfl ?_
  exact r_iret dX5_clear_16 rfl (rfl) rfl
theorem p_source_s (X : Ctx) (d : Nat) (I : MI) (L : ML) (s : Int32) (hs : s < 0 ∨ nI 6 ≤ s) (w : Int32) : Sp X mX5_source (d + 1) (0, 0) [.ref 0, .int (s), .int (w)] shF I L (some (.long (-9000000000000000000)), shF, I, L) := by
  refine Sp.of okX5_source [.ref 0, .int (s), .int (w)] 0 rfl (Nat.le_of_ble_eq_true rfl) ?_
  refine r_iload_n (pc := 0) dX5_source_0 rfl ?_
  refine r_callS (pc := 1) (N := mX5_isSource) (rest := []) (s_isSource_f X _ I L s hs) okX5_isSource lkX5_103 rfl rfl (Nat.le_of_ble_eq_true rfl) ⟨Nat.le_refl _, Nat.le_refl _⟩ dX5_source_1 ?_
  refine r_ifN_eq (pc := 4) (tgt := 16) dX5_source_4 (by decide) (by omega) (fun c1 => ?_) (fun c1 => ?_)
  · refine r_ldc2 (pc := 16) dX5_source_16 kX5_106 ?_
    exact r_lret dX5_source_19 rfl (rfl) rfl
  · exact absurd c1 (by decide)
theorem p_source_w (X : Ctx) (d : Nat) (I : MI) (L : ML) (j : Nat) (hj : j < 6) (w : Int32) (hw : w < 0 ∨ nI 1 < w) : Sp X mX5_source (d + 1) (0, 0) [.ref 0, .int (nI j), .int (w)] shF I L (some (.long (-9000000000000000000)), shF, I, L) := by
  refine Sp.of okX5_source [.ref 0, .int (nI j), .int (w)] 0 rfl (Nat.le_of_ble_eq_true rfl) ?_
  refine r_iload_n (pc := 0) dX5_source_0 rfl ?_
  refine r_callS (pc := 1) (N := mX5_isSource) (rest := []) (s_isSource_t X _ I L j (by omega)) okX5_isSource lkX5_103 rfl rfl (Nat.le_of_ble_eq_true rfl) ⟨Nat.le_refl _, Nat.le_refl _⟩ dX5_source_1 ?_
  refine r_ifN_eq (pc := 4) (tgt := 16) dX5_source_4 (by decide) (by omega) (fun c1 => ?_) (fun c1 => ?_)
  · exact absurd c1 (by decide)
  · refine r_iload_n (pc := 7) dX5_source_7 rfl ?_
    refine r_if_lt (pc := 8) (tgt := 16) dX5_source_8 (by decide) (fun c2 => ?_) (fun c2 => ?_)
    · refine r_ldc2 (pc := 16) dX5_source_16 kX5_106 ?_
      exact r_lret dX5_source_19 rfl (rfl) rfl
    · refine r_iload_n (pc := 11) dX5_source_11 rfl ?_
      refine r_iconst (pc := 12) (v := nI 1) dX5_source_12 rfl ?_
      refine r_icmp_le (pc := 13) (tgt := 20) dX5_source_13 (by decide) (fun c3 => ?_) (fun c3 => ?_)
      · exact (hw.elim c2 (i_nlt c3)).elim
      · refine r_ldc2 (pc := 16) dX5_source_16 kX5_106 ?_
        exact r_lret dX5_source_19 rfl (rfl) rfl
theorem p_source_0 (X : Ctx) (d : Nat) (I : MI) (L : ML) (j : Nat) (hj : j < 6) : Sp X mX5_source (d + 2) (0, 0) [.ref 0, .int (nI j), .int (nI 0)] shF I L (some (.long ((I 2 j).toInt64)), shF, I, L) := by
  refine Sp.of okX5_source [.ref 0, .int (nI j), .int (nI 0)] 0 rfl (Nat.le_of_ble_eq_true rfl) ?_
  refine r_iload_n (pc := 0) dX5_source_0 rfl ?_
  refine r_callS (pc := 1) (N := mX5_isSource) (rest := []) (s_isSource_t X _ I L j (by omega)) okX5_isSource lkX5_103 rfl rfl (Nat.le_of_ble_eq_true rfl) ⟨Nat.le_refl _, Nat.le_refl _⟩ dX5_source_1 ?_
  refine r_ifN_eq (pc := 4) (tgt := 16) dX5_source_4 (by decide) (by omega) (fun c1 => ?_) (fun c1 => ?_)
  · exact absurd c1 (by decide)
  · refine r_iload_n (pc := 7) dX5_source_7 rfl ?_
    refine r_ifN_lt (pc := 8) (tgt := 16) dX5_source_8 (by decide) (by omega) (fun c2 => ?_) (fun c2 => ?_)
    · exact absurd c2 (by decide)
    · refine r_iload_n (pc := 11) dX5_source_11 rfl ?_
      refine r_iconst (pc := 12) (v := nI 1) dX5_source_12 rfl ?_
      refine r_icmpN_le (pc := 13) (tgt := 20) dX5_source_13 (by decide) (by omega) (by omega) (fun c3 => ?_) (fun c3 => ?_)
      · refine r_iload_n (pc := 20) dX5_source_20 rfl ?_
        refine r_ifN_ne (pc := 21) (tgt := 36) dX5_source_21 (by decide) (by omega) (fun c4 => ?_) (fun c4 => ?_)
        · exact absurd c4 (by decide)
        · refine r_aload_n (pc := 24) dX5_source_24 rfl ?_
          refine r_getR (pc := 25) (b := 1) dX5_source_25 fX5_12 rfl rfl ?_
          refine r_iload_n (pc := 28) dX5_source_28 rfl ?_
          refine r_callV (pc := 29) (N := mX0_worth) (rest := []) (s_worth_1 X _ I L j (by omega)) okX0_worth lkX5_108 rfl (by decide) rfl rfl rfl (Nat.le_of_ble_eq_true rfl) ⟨Nat.le_refl _, Nat.le_refl _⟩ dX5_source_29 ?_
          refine r_i2l (pc := 32) dX5_source_32 ?_
          refine r_goto (pc := 33) (tgt := 46) dX5_source_33 (by decide) ?_
          exact r_lret dX5_source_46 rfl (rfl) rfl
      · exact absurd c3 (by decide)
theorem p_source_1 (X : Ctx) (d : Nat) (I : MI) (L : ML) (j : Nat) (hj : j < 6) : Sp X mX5_source (d + 2) (0, 0) [.ref 0, .int (nI j), .int (nI 1)] shF I L (some (.long ((I 3 (j * 6 + j)).toInt64)), shF, I, L) := by
  refine Sp.of okX5_source [.ref 0, .int (nI j), .int (nI 1)] 0 rfl (Nat.le_of_ble_eq_true rfl) ?_
  refine r_iload_n (pc := 0) dX5_source_0 rfl ?_
  refine r_callS (pc := 1) (N := mX5_isSource) (rest := []) (s_isSource_t X _ I L j (by omega)) okX5_isSource lkX5_103 rfl rfl (Nat.le_of_ble_eq_true rfl) ⟨Nat.le_refl _, Nat.le_refl _⟩ dX5_source_1 ?_
  refine r_ifN_eq (pc := 4) (tgt := 16) dX5_source_4 (by decide) (by omega) (fun c1 => ?_) (fun c1 => ?_)
  · exact absurd c1 (by decide)
  · refine r_iload_n (pc := 7) dX5_source_7 rfl ?_
    refine r_ifN_lt (pc := 8) (tgt := 16) dX5_source_8 (by decide) (by omega) (fun c2 => ?_) (fun c2 => ?_)
    · exact absurd c2 (by decide)
    · refine r_iload_n (pc := 11) dX5_source_11 rfl ?_
      refine r_iconst (pc := 12) (v := nI 1) dX5_source_12 rfl ?_
      refine r_icmpN_le (pc := 13) (tgt := 20) dX5_source_13 (by decide) (by omega) (by omega) (fun c3 => ?_) (fun c3 => ?_)
      · refine r_iload_n (pc := 20) dX5_source_20 rfl ?_
        refine r_ifN_ne (pc := 21) (tgt := 36) dX5_source_21 (by decide) (by omega) (fun c4 => ?_) (fun c4 => ?_)
        · refine r_aload_n (pc := 36) dX5_source_36 rfl ?_
          refine r_getR (pc := 37) (b := 1) dX5_source_37 fX5_12 rfl rfl ?_
          refine r_iload_n (pc := 40) dX5_source_40 rfl ?_
          refine r_iload_n (pc := 41) dX5_source_41 rfl ?_
          refine r_callV (pc := 42) (N := mX0_spread) (rest := []) (s_spread_1 X _ I L j j (by omega) (by omega)) okX0_spread lkX5_112 rfl (by decide) rfl rfl rfl (Nat.le_of_ble_eq_true rfl) ⟨Nat.le_refl _, Nat.le_refl _⟩ dX5_source_42 ?_
          refine r_i2l (pc := 45) dX5_source_45 ?_
          exact r_lret dX5_source_46 rfl (rfl) rfl
        · exact absurd c4 (by decide)
      · exact absurd c3 (by decide)
theorem p_joint_s (X : Ctx) (d : Nat) (I : MI) (L : ML) (s : Int32) (hs : s < 0 ∨ nI 6 ≤ s) (t : Int32) : Sp X mX5_joint (d + 1) (0, 0) [.ref 0, .int (s), .int (t)] shF I L (some (.long (-9000000000000000000)), shF, I, L) := by
  refine Sp.of okX5_joint [.ref 0, .int (s), .int (t)] 0 rfl (Nat.le_of_ble_eq_true rfl) ?_
  refine r_iload_n (pc := 0) dX5_joint_0 rfl ?_
  refine r_callS (pc := 1) (N := mX5_isSource) (rest := []) (s_isSource_f X _ I L s hs) okX5_isSource lkX5_103 rfl rfl (Nat.le_of_ble_eq_true rfl) ⟨Nat.le_refl _, Nat.le_refl _⟩ dX5_joint_1 ?_
  refine r_ifN_eq (pc := 4) (tgt := 27) dX5_joint_4 (by decide) (by omega) (fun c1 => ?_) (fun c1 => ?_)
  · refine r_ldc2 (pc := 27) dX5_joint_27 kX5_106 ?_
    exact r_lret dX5_joint_30 rfl (rfl) rfl
  · exact absurd c1 (by decide)
theorem p_joint_t (X : Ctx) (d : Nat) (I : MI) (L : ML) (j : Nat) (hj : j < 6) (s : Int32) (hs : s < 0 ∨ nI 6 ≤ s) : Sp X mX5_joint (d + 1) (0, 0) [.ref 0, .int (nI j), .int (s)] shF I L (some (.long (-9000000000000000000)), shF, I, L) := by
  refine Sp.of okX5_joint [.ref 0, .int (nI j), .int (s)] 0 rfl (Nat.le_of_ble_eq_true rfl) ?_
  refine r_iload_n (pc := 0) dX5_joint_0 rfl ?_
  refine r_callS (pc := 1) (N := mX5_isSource) (rest := []) (s_isSource_t X _ I L j (by omega)) okX5_isSource lkX5_103 rfl rfl (Nat.le_of_ble_eq_true rfl) ⟨Nat.le_refl _, Nat.le_refl _⟩ dX5_joint_1 ?_
  refine r_ifN_eq (pc := 4) (tgt := 27) dX5_joint_4 (by decide) (by omega) (fun c1 => ?_) (fun c1 => ?_)
  · exact absurd c1 (by decide)
  · refine r_iload_n (pc := 7) dX5_joint_7 rfl ?_
    refine r_callS (pc := 8) (N := mX5_isSource) (rest := []) (s_isSource_f X _ I L s hs) okX5_isSource lkX5_103 rfl rfl (Nat.le_of_ble_eq_true rfl) ⟨Nat.le_refl _, Nat.le_refl _⟩ dX5_joint_8 ?_
    refine r_ifN_eq (pc := 11) (tgt := 27) dX5_joint_11 (by decide) (by omega) (fun c2 => ?_) (fun c2 => ?_)
    · refine r_ldc2 (pc := 27) dX5_joint_27 kX5_106 ?_
      exact r_lret dX5_joint_30 rfl (rfl) rfl
    · exact absurd c2 (by decide)
theorem p_joint (X : Ctx) (d : Nat) (I : MI) (L : ML) (j t : Nat) (hj : j < 6) (ht : t < 6) : Sp X mX5_joint (d + 2) (0, 0) [.ref 0, .int (nI j), .int (nI t)] shF I L (some (.long ((I 3 (j * 6 + t)).toInt64)), shF, I, L) := by
  refine Sp.of okX5_joint [.ref 0, .int (nI j), .int (nI t)] 0 rfl (Nat.le_of_ble_eq_true rfl) ?_
  refine r_iload_n (pc := 0) dX5_joint_0 rfl ?_
  refine r_callS (pc := 1) (N := mX5_isSource) (rest := []) (s_isSource_t X _ I L j (by omega)) okX5_isSource lkX5_103 rfl rfl (Nat.le_of_ble_eq_true rfl) ⟨Nat.le_refl _, Nat.le_refl _⟩ dX5_joint_1 ?_
  refine r_ifN_eq (pc := 4) (tgt := 27) dX5_joint_4 (by decide) (by omega) (fun c1 => ?_) (fun c1 => ?_)
  · exact absurd c1 (by decide)
  · refine r_iload_n (pc := 7) dX5_joint_7 rfl ?_
    refine r_callS (pc := 8) (N := mX5_isSource) (rest := []) (s_isSource_t X _ I L t (by omega)) okX5_isSource lkX5_103 rfl rfl (Nat.le_of_ble_eq_true rfl) ⟨Nat.le_refl _, Nat.le_refl _⟩ dX5_joint_8 ?_
    refine r_ifN_eq (pc := 11) (tgt := 27) dX5_joint_11 (by decide) (by omega) (fun c2 => ?_) (fun c2 => ?_)
    · exact absurd c2 (by decide)
    · refine r_aload_n (pc := 14) dX5_joint_14 rfl ?_
      refine r_getR (pc := 15) (b := 1) dX5_joint_15 fX5_12 rfl rfl ?_
      refine r_iload_n (pc := 18) dX5_joint_18 rfl ?_
      refine r_iload_n (pc := 19) dX5_joint_19 rfl ?_
      refine r_callV (pc := 20) (N := mX0_spread) (rest := []) (s_spread_1 X _ I L j t (by omega) (by omega)) okX0_spread lkX5_112 rfl (by decide) rfl rfl rfl (Nat.le_of_ble_eq_true rfl) ⟨Nat.le_refl _, Nat.le_refl _⟩ dX5_joint_20 ?_
      refine r_i2l (pc := 23) dX5_joint_23 ?_
      refine r_goto (pc := 24) (tgt := 30) dX5_joint_24 (by decide) ?_
      exact r_lret dX5_joint_30 rfl (rfl) rfl
theorem p_values_s (X : Ctx) (d : Nat) (I : MI) (L : ML) (s : Int32) (hs : s < 0 ∨ nI 6 ≤ s) (v : Int32) : Sp X mX5_values (d + 1) (0, 0) [.ref 0, .int (s), .int (v)] shF I L (some (.int (-1)), shF, I, L) := by
  refine Sp.of okX5_values [.ref 0, .int (s), .int (v), .null] 1 rfl (Nat.le_of_ble_eq_true rfl) ?_
  refine r_iload_n (pc := 0) dX5_values_0 rfl ?_
  refine r_callS (pc := 1) (N := mX5_isSource) (rest := []) (s_isSource_f X _ I L s hs) okX5_isSource lkX5_103 rfl rfl (Nat.le_of_ble_eq_true rfl) ⟨Nat.le_refl _, Nat.le_refl _⟩ dX5_values_1 ?_
  refine r_ifN_eq (pc := 4) (tgt := 19) dX5_values_4 (by decide) (by omega) (fun c1 => ?_) (fun c1 => ?_)
  · refine r_iconst (pc := 19) (v := -1) dX5_values_19 rfl ?_
    exact r_iret dX5_values_20 rfl (rfl) rfl
  · exact absurd c1 (by decide)
theorem p_values_v (X : Ctx) (d : Nat) (I : MI) (L : ML) (j : Nat) (hj : j < 6) (v : Int32) (hv : v < -99 ∨ nI 99 < v) : Sp X mX5_values (d + 1) (0, 0) [.ref 0, .int (nI j), .int (v)] shF I L (some (.int (-1)), shF, I, L) := by
  refine Sp.of okX5_values [.ref 0, .int (nI j), .int (v), .null] 1 rfl (Nat.le_of_ble_eq_true rfl) ?_
  refine r_iload_n (pc := 0) dX5_values_0 rfl ?_
  refine r_callS (pc := 1) (N := mX5_isSource) (rest := []) (s_isSource_t X _ I L j (by omega)) okX5_isSource lkX5_103 rfl rfl (Nat.le_of_ble_eq_true rfl) ⟨Nat.le_refl _, Nat.le_refl _⟩ dX5_values_1 ?_
  refine r_ifN_eq (pc := 4) (tgt := 19) dX5_values_4 (by decide) (by omega) (fun c1 => ?_) (fun c1 => ?_)
  · exact absurd c1 (by decide)
  · refine r_iload_n (pc := 7) dX5_values_7 rfl ?_
    refine r_bipush (pc := 8) dX5_values_8 bp_m99 ?_
    refine r_icmp_lt (pc := 10) (tgt := 19) dX5_values_10 (by decide) (fun c2 => ?_) (fun c2 => ?_)
    · refine r_iconst (pc := 19) (v := -1) dX5_values_19 rfl ?_
      exact r_iret dX5_values_20 rfl (rfl) rfl
    · refine r_iload_n (pc := 13) dX5_values_13 rfl ?_
      refine r_bipush (pc := 14) dX5_values_14 bp_99 ?_
      refine r_icmp_le (pc := 16) (tgt := 21) dX5_values_16 (by decide) (fun c3 => ?_) (fun c3 => ?_)
      · exact (hv.elim c2 (i_nlt c3)).elim
      · refine r_iconst (pc := 19) (v := -1) dX5_values_19 rfl ?_
        exact r_iret dX5_values_20 rfl (rfl) rfl
theorem p_values_e (X : Ctx) (d : Nat) (I : MI) (L : ML) (j : Nat) (hj : j < 6) (v : Int32) (hv1 : ¬ v < -99) (hv2 : v ≤ nI 99) (he : I 2 j = v) : Sp X mX5_values (d + 2) (0, 0) [.ref 0, .int (nI j), .int (v)] shF I L (some (.int (-2)), shF, I, L) := by
  refine Sp.of okX5_values [.ref 0, .int (nI j), .int (v), .null] 1 rfl (Nat.le_of_ble_eq_true rfl) ?_
  refine r_iload_n (pc := 0) dX5_values_0 rfl ?_
  refine r_callS (pc := 1) (N := mX5_isSource) (rest := []) (s_isSource_t X _ I L j (by omega)) okX5_isSource lkX5_103 rfl rfl (Nat.le_of_ble_eq_true rfl) ⟨Nat.le_refl _, Nat.le_refl _⟩ dX5_values_1 ?_
  refine r_ifN_eq (pc := 4) (tgt := 19) dX5_values_4 (by decide) (by omega) (fun c1 => ?_) (fun c1 => ?_)
  · exact absurd c1 (by decide)
  · refine r_iload_n (pc := 7) dX5_values_7 rfl ?_
    refine r_bipush (pc := 8) dX5_values_8 bp_m99 ?_
    refine r_icmp_lt (pc := 10) (tgt := 19) dX5_values_10 (by decide) (fun c2 => ?_) (fun c2 => ?_)
    · exact absurd c2 hv1
    · refine r_iload_n (pc := 13) dX5_values_13 rfl ?_
      refine r_bipush (pc := 14) dX5_values_14 bp_99 ?_
      refine r_icmp_le (pc := 16) (tgt := 21) dX5_values_16 (by decide) (fun c3 => ?_) (fun c3 => ?_)
      · refine r_aload_n (pc := 21) dX5_values_21 rfl ?_
        refine r_getR (pc := 22) (b := 1) dX5_values_22 fX5_12 rfl rfl ?_
        refine r_iload_n (pc := 25) dX5_values_25 rfl ?_
        refine r_callV (pc := 26) (N := mX0_worth) (rest := []) (s_worth_1 X _ I L j (by omega)) okX0_worth lkX5_108 rfl (by decide) rfl rfl rfl (Nat.le_of_ble_eq_true rfl) ⟨Nat.le_refl _, Nat.le_refl _⟩ dX5_values_26 ?_
        refine r_istore_n (pc := 29) (lo1 := [.ref 0, .int (nI j), .int (v), .int (I 2 j)]) dX5_values_29 rfl (by decide) rfl ?_
        refine r_iload_n (pc := 30) dX5_values_30 rfl ?_
        refine r_iload_n (pc := 31) dX5_values_31 rfl ?_
        refine r_icmp_ne (pc := 32) (tgt := 38) dX5_values_32 (by decide) (fun c4 => ?_) (fun c4 => ?_)
        · exact absurd he c4
        · refine r_bipush (pc := 35) dX5_values_35 bp_m2 ?_
          exact r_iret dX5_values_37 rfl (rfl) rfl
      · exact absurd hv2 c3
theorem p_values_a (X : Ctx) (d : Nat) (I : MI) (L : ML) (j : Nat) (hj : j < 6) (v : Int32) (hv1 : ¬ v < -99) (hv2 : v ≤ nI 99) (he : ¬ I 2 j = v) (n : Nat) (hk : I 23 3 = nI n) (h10 : n < 10) : Sp X mX5_values (d + 2) (0, 0) [.ref 0, .int (nI j), .int (v)] shF I L (some (.int (nI 1)), shF, (u2 (u2 (u2 (u2 (u2 I 24 n (nI j)) 25 n (-1)) 26 n (I 2 j)) 23 3 (nI (n + 1))) 2 j v), L) := by
  refine Sp.of okX5_values [.ref 0, .int (nI j), .int (v), .null] 1 rfl (Nat.le_of_ble_eq_true rfl) ?_
  refine r_iload_n (pc := 0) dX5_values_0 rfl ?_
  refine r_callS (pc := 1) (N := mX5_isSource) (rest := []) (s_isSource_t X _ I L j (by omega)) okX5_isSource lkX5_103 rfl rfl (Nat.le_of_ble_eq_true rfl) ⟨Nat.le_refl _, Nat.le_refl _⟩ dX5_values_1 ?_
  refine r_ifN_eq (pc := 4) (tgt := 19) dX5_values_4 (by decide) (by omega) (fun c1 => ?_) (fun c1 => ?_)
  · exact absurd c1 (by decide)
  · refine r_iload_n (pc := 7) dX5_values_7 rfl ?_
    refine r_bipush (pc := 8) dX5_values_8 bp_m99 ?_
    refine r_icmp_lt (pc := 10) (tgt := 19) dX5_values_10 (by decide) (fun c2 => ?_) (fun c2 => ?_)
    · exact absurd c2 hv1
    · refine r_iload_n (pc := 13) dX5_values_13 rfl ?_
      refine r_bipush (pc := 14) dX5_values_14 bp_99 ?_
      refine r_icmp_le (pc := 16) (tgt := 21) dX5_values_16 (by decide) (fun c3 => ?_) (fun c3 => ?_)
      · refine r_aload_n (pc := 21) dX5_values_21 rfl ?_
        refine r_getR (pc := 22) (b := 1) dX5_values_22 fX5_12 rfl rfl ?_
        refine r_iload_n (pc := 25) dX5_values_25 rfl ?_
        refine r_callV (pc := 26) (N := mX0_worth) (rest := []) (s_worth_1 X _ I L j (by omega)) okX0_worth lkX5_108 rfl (by decide) rfl rfl rfl (Nat.le_of_ble_eq_true rfl) ⟨Nat.le_refl _, Nat.le_refl _⟩ dX5_values_26 ?_
        refine r_istore_n (pc := 29) (lo1 := [.ref 0, .int (nI j), .int (v), .int (I 2 j)]) dX5_values_29 rfl (by decide) rfl ?_
        refine r_iload_n (pc := 30) dX5_values_30 rfl ?_
        refine r_iload_n (pc := 31) dX5_values_31 rfl ?_
        refine r_icmp_ne (pc := 32) (tgt := 38) dX5_values_32 (by decide) (fun c4 => ?_) (fun c4 => ?_)
        · refine r_aload_n (pc := 38) dX5_values_38 rfl ?_
          refine r_getR (pc := 39) (b := 23) dX5_values_39 fX5_33 rfl rfl ?_
          refine r_iload_n (pc := 42) dX5_values_42 rfl ?_
          refine r_iconst (pc := 43) (v := -1) dX5_values_43 rfl ?_
          refine r_iload_n (pc := 44) dX5_values_44 rfl ?_
          refine r_callV (pc := 45) (N := mX1_add) (rest := []) (s_add_a X _ I L n (nI j) (-1) (I 2 j) hk h10) okX1_add lkX5_116 rfl (by decide) rfl rfl rfl (Nat.le_of_ble_eq_true rfl) ⟨Nat.le_refl _, Nat.le_refl _⟩ dX5_values_45 ?_
          refine r_aload_n (pc := 48) dX5_values_48 rfl ?_
          refine r_getR (pc := 49) (b := 1) dX5_values_49 fX5_12 rfl rfl ?_
          refine r_iload_n (pc := 52) dX5_values_52 rfl ?_
          refine r_iload_n (pc := 53) dX5_values_53 rfl ?_
          refine r_callV (pc := 54) (N := mX0_setWorth) (rest := []) (s_setWorth_1 X _ (u2 (u2 (u2 (u2 I 24 n (nI j)) 25 n (-1)) 26 n (I 2 j)) 23 3 (nI (n + 1))) L j v (by omega)) okX0_setWorth lkX5_119 rfl (by decide) rfl rfl rfl (Nat.le_of_ble_eq_true rfl) ⟨Nat.le_refl _, Nat.le_refl _⟩ dX5_values_54 ?_
          refine r_iconst (pc := 57) (v := nI 1) dX5_values_57 rfl ?_
          exact r_iret dX5_values_58 rfl (rfl) rfl
        · exact absurd c4 he
      · exact absurd hv2 c3
theorem p_spreads_a (X : Ctx) (d : Nat) (I : MI) (L : ML) (j : Nat) (hj : j < 6) (v : Int32) (hv1 : ¬ v < 0) (hv2 : v ≤ nI 99) (n : Nat) (hk : I 23 3 = nI n) (h10 : n < 10) : Sp X mX5_spreads (d + 2) (0, 0) [.ref 0, .int (nI j), .int (v)] shF I L (some (.int (I 3 (j * 6 + j))), shF, (u2 (u2 (u2 (u2 (u2 (u2 I 24 n (nI j)) 25 n (nI j)) 26 n (I 3 (j * 6 + j))) 23 3 (nI (n + 1))) 3 (j * 6 + j) v) 3 (j * 6 + j) v), L) := by
  refine Sp.of okX5_spreads [.ref 0, .int (nI j), .int (v), .null] 1 rfl (Nat.le_of_ble_eq_true rfl) ?_
  refine r_iload_n (pc := 0) dX5_spreads_0 rfl ?_
  refine r_callS (pc := 1) (N := mX5_isSource) (rest := []) (s_isSource_t X _ I L j (by omega)) okX5_isSource lkX5_103 rfl rfl (Nat.le_of_ble_eq_true rfl) ⟨Nat.le_refl _, Nat.le_refl _⟩ dX5_spreads_1 ?_
  refine r_ifN_eq (pc := 4) (tgt := 17) dX5_spreads_4 (by decide) (by omega) (fun c1 => ?_) (fun c1 => ?_)
  · exact absurd c1 (by decide)
  · refine r_iload_n (pc := 7) dX5_spreads_7 rfl ?_
    refine r_if_lt (pc := 8) (tgt := 17) dX5_spreads_8 (by decide) (fun c2 => ?_) (fun c2 => ?_)
    · exact absurd c2 hv1
    · refine r_iload_n (pc := 11) dX5_spreads_11 rfl ?_
      refine r_bipush (pc := 12) dX5_spreads_12 bp_99 ?_
      refine r_icmp_le (pc := 14) (tgt := 19) dX5_spreads_14 (by decide) (fun c3 => ?_) (fun c3 => ?_)
      · refine r_aload_n (pc := 19) dX5_spreads_19 rfl ?_
        refine r_getR (pc := 20) (b := 1) dX5_spreads_20 fX5_12 rfl rfl ?_
        refine r_iload_n (pc := 23) dX5_spreads_23 rfl ?_
        refine r_iload_n (pc := 24) dX5_spreads_24 rfl ?_
        refine r_callV (pc := 25) (N := mX0_spread) (rest := []) (s_spread_1 X _ I L j j (by omega) (by omega)) okX0_spread lkX5_112 rfl (by decide) rfl rfl rfl (Nat.le_of_ble_eq_true rfl) ⟨Nat.le_refl _, Nat.le_refl _⟩ dX5_spreads_25 ?_
        refine r_istore_n (pc := 28) (lo1 := [.ref 0, .int (nI j), .int (v), .int (I 3 (j * 6 + j))]) dX5_spreads_28 rfl (by decide) rfl ?_
        refine r_aload_n (pc := 29) dX5_spreads_29 rfl ?_
        refine r_getR (pc := 30) (b := 23) dX5_spreads_30 fX5_33 rfl rfl ?_
        refine r_iload_n (pc := 33) dX5_spreads_33 rfl ?_
        refine r_iload_n (pc := 34) dX5_spreads_34 rfl ?_
        refine r_iload_n (pc := 35) dX5_spreads_35 rfl ?_
        refine r_callV (pc := 36) (N := mX1_add) (rest := []) (s_add_a X _ I L n (nI j) (nI j) (I 3 (j * 6 + j)) hk h10) okX1_add lkX5_116 rfl (by decide) rfl rfl rfl (Nat.le_of_ble_eq_true rfl) ⟨Nat.le_refl _, Nat.le_refl _⟩ dX5_spreads_36 ?_
        refine r_aload_n (pc := 39) dX5_spreads_39 rfl ?_
        refine r_getR (pc := 40) (b := 1) dX5_spreads_40 fX5_12 rfl rfl ?_
        refine r_iload_n (pc := 43) dX5_spreads_43 rfl ?_
        refine r_iload_n (pc := 44) dX5_spreads_44 rfl ?_
        refine r_iload_n (pc := 45) dX5_spreads_45 rfl ?_
        refine r_callV (pc := 46) (N := mX0_setSpread) (rest := []) (s_setSpread_1 X _ (u2 (u2 (u2 (u2 I 24 n (nI j)) 25 n (nI j)) 26 n (I 3 (j * 6 + j))) 23 3 (nI (n + 1))) L j j v (by omega) (by omega)) okX0_setSpread lkX5_123 rfl (by decide) rfl rfl rfl (Nat.le_of_ble_eq_true rfl) ⟨Nat.le_refl _, Nat.le_refl _⟩ dX5_spreads_46 ?_
        refine r_iload_n (pc := 49) dX5_spreads_49 rfl ?_
        exact r_iret dX5_spreads_50 rfl (rfl) rfl
      · exact absurd hv2 c3
theorem p_joints_a (X : Ctx) (d : Nat) (I : MI) (L : ML) (j t : Nat) (hj : j < 6) (ht : t < 6) (hjt : j ≠ t) (v : Int32) (hv1 : ¬ v < -99) (hv2 : v ≤ nI 99) (he : ¬ I 3 (j * 6 + t) = v) (n : Nat) (hk : I 23 3 = nI n) (h10 : n < 10) : Sp X mX5_joints (d + 2) (0, 0) [.ref 0, .int (nI j), .int (nI t), .int (v)] shF I L (some (.int (nI 1)), shF, (u2 (u2 (u2 (u2 (u2 (u2 I 24 n (nI j)) 25 n (nI t)) 26 n (I 3 (j * 6 + t))) 23 3 (nI (n + 1))) 3 (j * 6 + t) v) 3 (t * 6 + j) v), L) := by
  refine Sp.of okX5_joints [.ref 0, .int (nI j), .int (nI t), .int (v), .null] 1 rfl (Nat.le_of_ble_eq_true rfl) ?_
  refine r_iload_n (pc := 0) dX5_joints_0 rfl ?_
  refine r_callS (pc := 1) (N := mX5_isSource) (rest := []) (s_isSource_t X _ I L j (by omega)) okX5_isSource lkX5_103 rfl rfl (Nat.le_of_ble_eq_true rfl) ⟨Nat.le_refl _, Nat.le_refl _⟩ dX5_joints_1 ?_
  refine r_ifN_eq (pc := 4) (tgt := 31) dX5_joints_4 (by decide) (by omega) (fun c1 => ?_) (fun c1 => ?_)
  · exact absurd c1 (by decide)
  · refine r_iload_n (pc := 7) dX5_joints_7 rfl ?_
    refine r_callS (pc := 8) (N := mX5_isSource) (rest := []) (s_isSource_t X _ I L t (by omega)) okX5_isSource lkX5_103 rfl rfl (Nat.le_of_ble_eq_true rfl) ⟨Nat.le_refl _, Nat.le_refl _⟩ dX5_joints_8 ?_
    refine r_ifN_eq (pc := 11) (tgt := 31) dX5_joints_11 (by decide) (by omega) (fun c2 => ?_) (fun c2 => ?_)
    · exact absurd c2 (by decide)
    · refine r_iload_n (pc := 14) dX5_joints_14 rfl ?_
      refine r_iload_n (pc := 15) dX5_joints_15 rfl ?_
      refine r_icmpN_eq (pc := 16) (tgt := 31) dX5_joints_16 (by decide) (by omega) (by omega) (fun c3 => ?_) (fun c3 => ?_)
      · exact absurd c3 (by omega)
      · refine r_iload_n (pc := 19) dX5_joints_19 rfl ?_
        refine r_bipush (pc := 20) dX5_joints_20 bp_m99 ?_
        refine r_icmp_lt (pc := 22) (tgt := 31) dX5_joints_22 (by decide) (fun c4 => ?_) (fun c4 => ?_)
        · exact absurd c4 hv1
        · refine r_iload_n (pc := 25) dX5_joints_25 rfl ?_
          refine r_bipush (pc := 26) dX5_joints_26 bp_99 ?_
          refine r_icmp_le (pc := 28) (tgt := 33) dX5_joints_28 (by decide) (fun c5 => ?_) (fun c5 => ?_)
          · refine r_aload_n (pc := 33) dX5_joints_33 rfl ?_
            refine r_getR (pc := 34) (b := 1) dX5_joints_34 fX5_12 rfl rfl ?_
            refine r_iload_n (pc := 37) dX5_joints_37 rfl ?_
            refine r_iload_n (pc := 38) dX5_joints_38 rfl ?_
            refine r_callV (pc := 39) (N := mX0_spread) (rest := []) (s_spread_1 X _ I L j t (by omega) (by omega)) okX0_spread lkX5_112 rfl (by decide) rfl rfl rfl (Nat.le_of_ble_eq_true rfl) ⟨Nat.le_refl _, Nat.le_refl _⟩ dX5_joints_39 ?_
            refine r_istore (pc := 42) (lo1 := [.ref 0, .int (nI j), .int (nI t), .int (v), .int (I 3 (j * 6 + t))]) dX5_joints_42 rfl (by decide) rfl ?_
            refine r_iload (pc := 44) dX5_joints_44 rfl ?_
            refine r_iload_n (pc := 46) dX5_joints_46 rfl ?_
            refine r_icmp_ne (pc := 47) (tgt := 53) dX5_joints_47 (by decide) (fun c6 => ?_) (fun c6 => ?_)
            · refine r_aload_n (pc := 53) dX5_joints_53 rfl ?_
              refine r_getR (pc := 54) (b := 23) dX5_joints_54 fX5_33 rfl rfl ?_
              refine r_iload_n (pc := 57) dX5_joints_57 rfl ?_
              refine r_iload_n (pc := 58) dX5_joints_58 rfl ?_
              refine r_iload (pc := 59) dX5_joints_59 rfl ?_
              refine r_callV (pc := 61) (N := mX1_add) (rest := []) (s_add_a X _ I L n (nI j) (nI t) (I 3 (j * 6 + t)) hk h10) okX1_add lkX5_116 rfl (by decide) rfl rfl rfl (Nat.le_of_ble_eq_true rfl) ⟨Nat.le_refl _, Nat.le_refl _⟩ dX5_joints_61 ?_
              refine r_aload_n (pc := 64) dX5_joints_64 rfl ?_
              refine r_getR (pc := 65) (b := 1) dX5_joints_65 fX5_12 rfl rfl ?_
              refine r_iload_n (pc := 68) dX5_joints_68 rfl ?_
              refine r_iload_n (pc := 69) dX5_joints_69 rfl ?_
              refine r_iload_n (pc := 70) dX5_joints_70 rfl ?_
              refine r_callV (pc := 71) (N := mX0_setSpread) (rest := []) (s_setSpread_1 X _ (u2 (u2 (u2 (u2 I 24 n (nI j)) 25 n (nI t)) 26 n (I 3 (j * 6 + t))) 23 3 (nI (n + 1))) L j t v (by omega) (by omega)) okX0_setSpread lkX5_123 rfl (by decide) rfl rfl rfl (Nat.le_of_ble_eq_true rfl) ⟨Nat.le_refl _, Nat.le_refl _⟩ dX5_joints_71 ?_
              refine r_iconst (pc := 74) (v := nI 1) dX5_joints_74 rfl ?_
              exact r_iret dX5_joints_75 rfl (rfl) rfl
            · exact absurd c6 he
          · exact absurd hv2 c5
theorem p_values_b (X : Ctx) (d : Nat) (I : MI) (L : ML) (j : Nat) (hj : j < 6) (v : Int32) (hv1 : ¬ v < -99) (hv2 : v ≤ nI 99) (he : ¬ I 2 j = v) (hk : I 23 3 = nI 10) : Sp X mX5_values (d + 2) (0, 0) [.ref 0, .int (nI j), .int (v)] shF I L (some (.int (nI 1)), shF, (u2 (u2 (u2 (u2 (u2 (u2 (pastM I 9) 23 3 (nI 9)) 24 9 (nI j)) 25 9 (-1)) 26 9 (I 2 j)) 23 3 (nI 10)) 2 j v), L) := by
  refine Sp.of okX5_values [.ref 0, .int (nI j), .int (v), .null] 1 rfl (Nat.le_of_ble_eq_true rfl) ?_
  refine r_iload_n (pc := 0) dX5_values_0 rfl ?_
  refine r_callS (pc := 1) (N := mX5_isSource) (rest := []) (s_isSource_t X _ I L j (by omega)) okX5_isSource lkX5_103 rfl rfl (Nat.le_of_ble_eq_true rfl) ⟨Nat.le_refl _, Nat.le_refl _⟩ dX5_values_1 ?_
  refine r_ifN_eq (pc := 4) (tgt := 19) dX5_values_4 (by decide) (by omega) (fun c1 => ?_) (fun c1 => ?_)
  · exact absurd c1 (by decide)
  · refine r_iload_n (pc := 7) dX5_values_7 rfl ?_
    refine r_bipush (pc := 8) dX5_values_8 bp_m99 ?_
    refine r_icmp_lt (pc := 10) (tgt := 19) dX5_values_10 (by decide) (fun c2 => ?_) (fun c2 => ?_)
    · exact absurd c2 hv1
    · refine r_iload_n (pc := 13) dX5_values_13 rfl ?_
      refine r_bipush (pc := 14) dX5_values_14 bp_99 ?_
      refine r_icmp_le (pc := 16) (tgt := 21) dX5_values_16 (by decide) (fun c3 => ?_) (fun c3 => ?_)
      · refine r_aload_n (pc := 21) dX5_values_21 rfl ?_
        refine r_getR (pc := 22) (b := 1) dX5_values_22 fX5_12 rfl rfl ?_
        refine r_iload_n (pc := 25) dX5_values_25 rfl ?_
        refine r_callV (pc := 26) (N := mX0_worth) (rest := []) (s_worth_1 X _ I L j (by omega)) okX0_worth lkX5_108 rfl (by decide) rfl rfl rfl (Nat.le_of_ble_eq_true rfl) ⟨Nat.le_refl _, Nat.le_refl _⟩ dX5_values_26 ?_
        refine r_istore_n (pc := 29) (lo1 := [.ref 0, .int (nI j), .int (v), .int (I 2 j)]) dX5_values_29 rfl (by decide) rfl ?_
        refine r_iload_n (pc := 30) dX5_values_30 rfl ?_
        refine r_iload_n (pc := 31) dX5_values_31 rfl ?_
        refine r_icmp_ne (pc := 32) (tgt := 38) dX5_values_32 (by decide) (fun c4 => ?_) (fun c4 => ?_)
        · refine r_aload_n (pc := 38) dX5_values_38 rfl ?_
          refine r_getR (pc := 39) (b := 23) dX5_values_39 fX5_33 rfl rfl ?_
          refine r_iload_n (pc := 42) dX5_values_42 rfl ?_
          refine r_iconst (pc := 43) (v := -1) dX5_values_43 rfl ?_
          refine r_iload_n (pc := 44) dX5_values_44 rfl ?_
          refine r_callV (pc := 45) (N := mX1_add) (rest := []) (s_add_b X _ I L (nI j) (-1) (I 2 j) hk) okX1_add lkX5_116 rfl (by decide) rfl rfl rfl (Nat.le_of_ble_eq_true rfl) ⟨Nat.le_refl _, Nat.le_refl _⟩ dX5_values_45 ?_
          refine r_aload_n (pc := 48) dX5_values_48 rfl ?_
          refine r_getR (pc := 49) (b := 1) dX5_values_49 fX5_12 rfl rfl ?_
          refine r_iload_n (pc := 52) dX5_values_52 rfl ?_
          refine r_iload_n (pc := 53) dX5_values_53 rfl ?_
          refine r_callV (pc := 54) (N := mX0_setWorth) (rest := []) (s_setWorth_1 X _ (u2 (u2 (u2 (u2 (u2 (pastM I 9) 23 3 (nI 9)) 24 9 (nI j)) 25 9 (-1)) 26 9 (I 2 j)) 23 3 (nI 10)) L j v (by omega)) okX0_setWorth lkX5_119 rfl (by decide) rfl rfl rfl (Nat.le_of_ble_eq_true rfl) ⟨Nat.le_refl _, Nat.le_refl _⟩ dX5_values_54 ?_
          refine r_iconst (pc := 57) (v := nI 1) dX5_values_57 rfl ?_
          exact r_iret dX5_values_58 rfl (rfl) rfl
        · exact absurd c4 he
      · exact absurd hv2 c3
theorem p_spreads_b (X : Ctx) (d : Nat) (I : MI) (L : ML) (j : Nat) (hj : j < 6) (v : Int32) (hv1 : ¬ v < 0) (hv2 : v ≤ nI 99) (hk : I 23 3 = nI 10) : Sp X mX5_spreads (d + 2) (0, 0) [.ref 0, .int (nI j), .int (v)] shF I L (some (.int (I 3 (j * 6 + j))), shF, (u2 (u2 (u2 (u2 (u2 (u2 (u2 (pastM I 9) 23 3 (nI 9)) 24 9 (nI j)) 25 9 (nI j)) 26 9 (I 3 (j * 6 + j))) 23 3 (nI 10)) 3 (j * 6 + j) v) 3 (j * 6 + j) v), L) := by
  refine Sp.of okX5_spreads [.ref 0, .int (nI j), .int (v), .null] 1 rfl (Nat.le_of_ble_eq_true rfl) ?_
  refine r_iload_n (pc := 0) dX5_spreads_0 rfl ?_
  refine r_callS (pc := 1) (N := mX5_isSource) (rest := []) (s_isSource_t X _ I L j (by omega)) okX5_isSource lkX5_103 rfl rfl (Nat.le_of_ble_eq_true rfl) ⟨Nat.le_refl _, Nat.le_refl _⟩ dX5_spreads_1 ?_
  refine r_ifN_eq (pc := 4) (tgt := 17) dX5_spreads_4 (by decide) (by omega) (fun c1 => ?_) (fun c1 => ?_)
  · exact absurd c1 (by decide)
  · refine r_iload_n (pc := 7) dX5_spreads_7 rfl ?_
    refine r_if_lt (pc := 8) (tgt := 17) dX5_spreads_8 (by decide) (fun c2 => ?_) (fun c2 => ?_)
    · exact absurd c2 hv1
    · refine r_iload_n (pc := 11) dX5_spreads_11 rfl ?_
      refine r_bipush (pc := 12) dX5_spreads_12 bp_99 ?_
      refine r_icmp_le (pc := 14) (tgt := 19) dX5_spreads_14 (by decide) (fun c3 => ?_) (fun c3 => ?_)
      · refine r_aload_n (pc := 19) dX5_spreads_19 rfl ?_
        refine r_getR (pc := 20) (b := 1) dX5_spreads_20 fX5_12 rfl rfl ?_
        refine r_iload_n (pc := 23) dX5_spreads_23 rfl ?_
        refine r_iload_n (pc := 24) dX5_spreads_24 rfl ?_
        refine r_callV (pc := 25) (N := mX0_spread) (rest := []) (s_spread_1 X _ I L j j (by omega) (by omega)) okX0_spread lkX5_112 rfl (by decide) rfl rfl rfl (Nat.le_of_ble_eq_true rfl) ⟨Nat.le_refl _, Nat.le_refl _⟩ dX5_spreads_25 ?_
        refine r_istore_n (pc := 28) (lo1 := [.ref 0, .int (nI j), .int (v), .int (I 3 (j * 6 + j))]) dX5_spreads_28 rfl (by decide) rfl ?_
        refine r_aload_n (pc := 29) dX5_spreads_29 rfl ?_
        refine r_getR (pc := 30) (b := 23) dX5_spreads_30 fX5_33 rfl rfl ?_
        refine r_iload_n (pc := 33) dX5_spreads_33 rfl ?_
        refine r_iload_n (pc := 34) dX5_spreads_34 rfl ?_
        refine r_iload_n (pc := 35) dX5_spreads_35 rfl ?_
        refine r_callV (pc := 36) (N := mX1_add) (rest := []) (s_add_b X _ I L (nI j) (nI j) (I 3 (j * 6 + j)) hk) okX1_add lkX5_116 rfl (by decide) rfl rfl rfl (Nat.le_of_ble_eq_true rfl) ⟨Nat.le_refl _, Nat.le_refl _⟩ dX5_spreads_36 ?_
        refine r_aload_n (pc := 39) dX5_spreads_39 rfl ?_
        refine r_getR (pc := 40) (b := 1) dX5_spreads_40 fX5_12 rfl rfl ?_
        refine r_iload_n (pc := 43) dX5_spreads_43 rfl ?_
        refine r_iload_n (pc := 44) dX5_spreads_44 rfl ?_
        refine r_iload_n (pc := 45) dX5_spreads_45 rfl ?_
        refine r_callV (pc := 46) (N := mX0_setSpread) (rest := []) (s_setSpread_1 X _ (u2 (u2 (u2 (u2 (u2 (pastM I 9) 23 3 (nI 9)) 24 9 (nI j)) 25 9 (nI j)) 26 9 (I 3 (j * 6 + j))) 23 3 (nI 10)) L j j v (by omega) (by omega)) okX0_setSpread lkX5_123 rfl (by decide) rfl rfl rfl (Nat.le_of_ble_eq_true rfl) ⟨Nat.le_refl _, Nat.le_refl _⟩ dX5_spreads_46 ?_
        refine r_iload_n (pc := 49) dX5_spreads_49 rfl ?_
        exact r_iret dX5_spreads_50 rfl (rfl) rfl
      · exact absurd hv2 c3
theorem p_joints_b (X : Ctx) (d : Nat) (I : MI) (L : ML) (j t : Nat) (hj : j < 6) (ht : t < 6) (hjt : j ≠ t) (v : Int32) (hv1 : ¬ v < -99) (hv2 : v ≤ nI 99) (he : ¬ I 3 (j * 6 + t) = v) (hk : I 23 3 = nI 10) : Sp X mX5_joints (d + 2) (0, 0) [.ref 0, .int (nI j), .int (nI t), .int (v)] shF I L (some (.int (nI 1)), shF, (u2 (u2 (u2 (u2 (u2 (u2 (u2 (pastM I 9) 23 3 (nI 9)) 24 9 (nI j)) 25 9 (nI t)) 26 9 (I 3 (j * 6 + t))) 23 3 (nI 10)) 3 (j * 6 + t) v) 3 (t * 6 + j) v), L) := by
  refine Sp.of okX5_joints [.ref 0, .int (nI j), .int (nI t), .int (v), .null] 1 rfl (Nat.le_of_ble_eq_true rfl) ?_
  refine r_iload_n (pc := 0) dX5_joints_0 rfl ?_
  refine r_callS (pc := 1) (N := mX5_isSource) (rest := []) (s_isSource_t X _ I L j (by omega)) okX5_isSource lkX5_103 rfl rfl (Nat.le_of_ble_eq_true rfl) ⟨Nat.le_refl _, Nat.le_refl _⟩ dX5_joints_1 ?_
  refine r_ifN_eq (pc := 4) (tgt := 31) dX5_joints_4 (by decide) (by omega) (fun c1 => ?_) (fun c1 => ?_)
  · exact absurd c1 (by decide)
  · refine r_iload_n (pc := 7) dX5_joints_7 rfl ?_
    refine r_callS (pc := 8) (N := mX5_isSource) (rest := []) (s_isSource_t X _ I L t (by omega)) okX5_isSource lkX5_103 rfl rfl (Nat.le_of_ble_eq_true rfl) ⟨Nat.le_refl _, Nat.le_refl _⟩ dX5_joints_8 ?_
    refine r_ifN_eq (pc := 11) (tgt := 31) dX5_joints_11 (by decide) (by omega) (fun c2 => ?_) (fun c2 => ?_)
    · exact absurd c2 (by decide)
    · refine r_iload_n (pc := 14) dX5_joints_14 rfl ?_
      refine r_iload_n (pc := 15) dX5_joints_15 rfl ?_
      refine r_icmpN_eq (pc := 16) (tgt := 31) dX5_joints_16 (by decide) (by omega) (by omega) (fun c3 => ?_) (fun c3 => ?_)
      · exact absurd c3 (by omega)
      · refine r_iload_n (pc := 19) dX5_joints_19 rfl ?_
        refine r_bipush (pc := 20) dX5_joints_20 bp_m99 ?_
        refine r_icmp_lt (pc := 22) (tgt := 31) dX5_joints_22 (by decide) (fun c4 => ?_) (fun c4 => ?_)
        · exact absurd c4 hv1
        · refine r_iload_n (pc := 25) dX5_joints_25 rfl ?_
          refine r_bipush (pc := 26) dX5_joints_26 bp_99 ?_
          refine r_icmp_le (pc := 28) (tgt := 33) dX5_joints_28 (by decide) (fun c5 => ?_) (fun c5 => ?_)
          · refine r_aload_n (pc := 33) dX5_joints_33 rfl ?_
            refine r_getR (pc := 34) (b := 1) dX5_joints_34 fX5_12 rfl rfl ?_
            refine r_iload_n (pc := 37) dX5_joints_37 rfl ?_
            refine r_iload_n (pc := 38) dX5_joints_38 rfl ?_
            refine r_callV (pc := 39) (N := mX0_spread) (rest := []) (s_spread_1 X _ I L j t (by omega) (by omega)) okX0_spread lkX5_112 rfl (by decide) rfl rfl rfl (Nat.le_of_ble_eq_true rfl) ⟨Nat.le_refl _, Nat.le_refl _⟩ dX5_joints_39 ?_
            refine r_istore (pc := 42) (lo1 := [.ref 0, .int (nI j), .int (nI t), .int (v), .int (I 3 (j * 6 + t))]) dX5_joints_42 rfl (by decide) rfl ?_
            refine r_iload (pc := 44) dX5_joints_44 rfl ?_
            refine r_iload_n (pc := 46) dX5_joints_46 rfl ?_
            refine r_icmp_ne (pc := 47) (tgt := 53) dX5_joints_47 (by decide) (fun c6 => ?_) (fun c6 => ?_)
            · refine r_aload_n (pc := 53) dX5_joints_53 rfl ?_
              refine r_getR (pc := 54) (b := 23) dX5_joints_54 fX5_33 rfl rfl ?_
              refine r_iload_n (pc := 57) dX5_joints_57 rfl ?_
              refine r_iload_n (pc := 58) dX5_joints_58 rfl ?_
              refine r_iload (pc := 59) dX5_joints_59 rfl ?_
              refine r_callV (pc := 61) (N := mX1_add) (rest := []) (s_add_b X _ I L (nI j) (nI t) (I 3 (j * 6 + t)) hk) okX1_add lkX5_116 rfl (by decide) rfl rfl rfl (Nat.le_of_ble_eq_true rfl) ⟨Nat.le_refl _, Nat.le_refl _⟩ dX5_joints_61 ?_
              refine r_aload_n (pc := 64) dX5_joints_64 rfl ?_
              refine r_getR (pc := 65) (b := 1) dX5_joints_65 fX5_12 rfl rfl ?_
              refine r_iload_n (pc := 68) dX5_joints_68 rfl ?_
              refine r_iload_n (pc := 69) dX5_joints_69 rfl ?_
              refine r_iload_n (pc := 70) dX5_joints_70 rfl ?_
              refine r_callV (pc := 71) (N := mX0_setSpread) (rest := []) (s_setSpread_1 X _ (u2 (u2 (u2 (u2 (u2 (pastM I 9) 23 3 (nI 9)) 24 9 (nI j)) 25 9 (nI t)) 26 9 (I 3 (j * 6 + t))) 23 3 (nI 10)) L j t v (by omega) (by omega)) okX0_setSpread lkX5_123 rfl (by decide) rfl rfl rfl (Nat.le_of_ble_eq_true rfl) ⟨Nat.le_refl _, Nat.le_refl _⟩ dX5_joints_71 ?_
              refine r_iconst (pc := 74) (v := nI 1) dX5_joints_74 rfl ?_
              exact r_iret dX5_joints_75 rfl (rfl) rfl
            · exact absurd c6 he
          · exact absurd hv2 c5
theorem p_spreads_s (X : Ctx) (d : Nat) (I : MI) (L : ML) (s : Int32) (hs : s < 0 ∨ nI 6 ≤ s) (v : Int32) : Sp X mX5_spreads (d + 1) (0, 0) [.ref 0, .int (s), .int (v)] shF I L (some (.int (-1)), shF, I, L) := by
  refine Sp.of okX5_spreads [.ref 0, .int (s), .int (v), .null] 1 rfl (Nat.le_of_ble_eq_true rfl) ?_
  refine r_iload_n (pc := 0) dX5_spreads_0 rfl ?_
  refine r_callS (pc := 1) (N := mX5_isSource) (rest := []) (s_isSource_f X _ I L s hs) okX5_isSource lkX5_103 rfl rfl (Nat.le_of_ble_eq_true rfl) ⟨Nat.le_refl _, Nat.le_refl _⟩ dX5_spreads_1 ?_
  refine r_ifN_eq (pc := 4) (tgt := 17) dX5_spreads_4 (by decide) (by omega) (fun c1 => ?_) (fun c1 => ?_)
  · refine r_iconst (pc := 17) (v := -1) dX5_spreads_17 rfl ?_
    exact r_iret dX5_spreads_18 rfl (rfl) rfl
  · exact absurd c1 (by decide)
theorem p_spreads_v (X : Ctx) (d : Nat) (I : MI) (L : ML) (j : Nat) (hj : j < 6) (v : Int32) (hv : v < 0 ∨ nI 99 < v) : Sp X mX5_spreads (d + 1) (0, 0) [.ref 0, .int (nI j), .int (v)] shF I L (some (.int (-1)), shF, I, L) := by
  refine Sp.of okX5_spreads [.ref 0, .int (nI j), .int (v), .null] 1 rfl (Nat.le_of_ble_eq_true rfl) ?_
  refine r_iload_n (pc := 0) dX5_spreads_0 rfl ?_
  refine r_callS (pc := 1) (N := mX5_isSource) (rest := []) (s_isSource_t X _ I L j (by omega)) okX5_isSource lkX5_103 rfl rfl (Nat.le_of_ble_eq_true rfl) ⟨Nat.le_refl _, Nat.le_refl _⟩ dX5_spreads_1 ?_
  refine r_ifN_eq (pc := 4) (tgt := 17) dX5_spreads_4 (by decide) (by omega) (fun c1 => ?_) (fun c1 => ?_)
  · exact absurd c1 (by decide)
  · refine r_iload_n (pc := 7) dX5_spreads_7 rfl ?_
    refine r_if_lt (pc := 8) (tgt := 17) dX5_spreads_8 (by decide) (fun c2 => ?_) (fun c2 => ?_)
    · refine r_iconst (pc := 17) (v := -1) dX5_spreads_17 rfl ?_
      exact r_iret dX5_spreads_18 rfl (rfl) rfl
    · refine r_iload_n (pc := 11) dX5_spreads_11 rfl ?_
      refine r_bipush (pc := 12) dX5_spreads_12 bp_99 ?_
      refine r_icmp_le (pc := 14) (tgt := 19) dX5_spreads_14 (by decide) (fun c3 => ?_) (fun c3 => ?_)
      · exact (hv.elim c2 (i_nlt c3)).elim
      · refine r_iconst (pc := 17) (v := -1) dX5_spreads_17 rfl ?_
        exact r_iret dX5_spreads_18 rfl (rfl) rfl
theorem p_joints_s (X : Ctx) (d : Nat) (I : MI) (L : ML) (s : Int32) (hs : s < 0 ∨ nI 6 ≤ s) (t v : Int32) : Sp X mX5_joints (d + 1) (0, 0) [.ref 0, .int (s), .int (t), .int (v)] shF I L (some (.int (-1)), shF, I, L) := by
  refine Sp.of okX5_joints [.ref 0, .int (s), .int (t), .int (v), .null] 1 rfl (Nat.le_of_ble_eq_true rfl) ?_
  refine r_iload_n (pc := 0) dX5_joints_0 rfl ?_
  refine r_callS (pc := 1) (N := mX5_isSource) (rest := []) (s_isSource_f X _ I L s hs) okX5_isSource lkX5_103 rfl rfl (Nat.le_of_ble_eq_true rfl) ⟨Nat.le_refl _, Nat.le_refl _⟩ dX5_joints_1 ?_
  refine r_ifN_eq (pc := 4) (tgt := 31) dX5_joints_4 (by decide) (by omega) (fun c1 => ?_) (fun c1 => ?_)
  · refine r_iconst (pc := 31) (v := -1) dX5_joints_31 rfl ?_
    exact r_iret dX5_joints_32 rfl (rfl) rfl
  · exact absurd c1 (by decide)
theorem p_joints_t (X : Ctx) (d : Nat) (I : MI) (L : ML) (j : Nat) (hj : j < 6) (s : Int32) (hs : s < 0 ∨ nI 6 ≤ s) (v : Int32) : Sp X mX5_joints (d + 1) (0, 0) [.ref 0, .int (nI j), .int (s), .int (v)] shF I L (some (.int (-1)), shF, I, L) := by
  refine Sp.of okX5_joints [.ref 0, .int (nI j), .int (s), .int (v), .null] 1 rfl (Nat.le_of_ble_eq_true rfl) ?_
  refine r_iload_n (pc := 0) dX5_joints_0 rfl ?_
  refine r_callS (pc := 1) (N := mX5_isSource) (rest := []) (s_isSource_t X _ I L j (by omega)) okX5_isSource lkX5_103 rfl rfl (Nat.le_of_ble_eq_true rfl) ⟨Nat.le_refl _, Nat.le_refl _⟩ dX5_joints_1 ?_
  refine r_ifN_eq (pc := 4) (tgt := 31) dX5_joints_4 (by decide) (by omega) (fun c1 => ?_) (fun c1 => ?_)
  · exact absurd c1 (by decide)
  · refine r_iload_n (pc := 7) dX5_joints_7 rfl ?_
    refine r_callS (pc := 8) (N := mX5_isSource) (rest := []) (s_isSource_f X _ I L s hs) okX5_isSource lkX5_103 rfl rfl (Nat.le_of_ble_eq_true rfl) ⟨Nat.le_refl _, Nat.le_refl _⟩ dX5_joints_8 ?_
    refine r_ifN_eq (pc := 11) (tgt := 31) dX5_joints_11 (by decide) (by omega) (fun c2 => ?_) (fun c2 => ?_)
    · refine r_iconst (pc := 31) (v := -1) dX5_joints_31 rfl ?_
      exact r_iret dX5_joints_32 rfl (rfl) rfl
    · exact absurd c2 (by decide)
theorem p_joints_same (X : Ctx) (d : Nat) (I : MI) (L : ML) (j : Nat) (hj : j < 6) (v : Int32) : Sp X mX5_joints (d + 1) (0, 0) [.ref 0, .int (nI j), .int (nI j), .int (v)] shF I L (some (.int (-1)), shF, I, L) := by
  refine Sp.of okX5_joints [.ref 0, .int (nI j), .int (nI j), .int (v), .null] 1 rfl (Nat.le_of_ble_eq_true rfl) ?_
  refine r_iload_n (pc := 0) dX5_joints_0 rfl ?_
  refine r_callS (pc := 1) (N := mX5_isSource) (rest := []) (s_isSource_t X _ I L j (by omega)) okX5_isSource lkX5_103 rfl rfl (Nat.le_of_ble_eq_true rfl) ⟨Nat.le_refl _, Nat.le_refl _⟩ dX5_joints_1 ?_
  refine r_ifN_eq (pc := 4) (tgt := 31) dX5_joints_4 (by decide) (by omega) (fun c1 => ?_) (fun c1 => ?_)
  · exact absurd c1 (by decide)
  · refine r_iload_n (pc := 7) dX5_joints_7 rfl ?_
    refine r_callS (pc := 8) (N := mX5_isSource) (rest := []) (s_isSource_t X _ I L j (by omega)) okX5_isSource lkX5_103 rfl rfl (Nat.le_of_ble_eq_true rfl) ⟨Nat.le_refl _, Nat.le_refl _⟩ dX5_joints_8 ?_
    refine r_ifN_eq (pc := 11) (tgt := 31) dX5_joints_11 (by decide) (by omega) (fun c2 => ?_) (fun c2 => ?_)
    · exact absurd c2 (by decide)
    · refine r_iload_n (pc := 14) dX5_joints_14 rfl ?_
      refine r_iload_n (pc := 15) dX5_joints_15 rfl ?_
      refine r_icmpN_eq (pc := 16) (tgt := 31) dX5_joints_16 (by decide) (by omega) (by omega) (fun c3 => ?_) (fun c3 => ?_)
      · refine r_iconst (pc := 31) (v := -1) dX5_joints_31 rfl ?_
        exact r_iret dX5_joints_32 rfl (rfl) rfl
      · exact absurd c3 (by omega)
theorem p_joints_v (X : Ctx) (d : Nat) (I : MI) (L : ML) (j t : Nat) (hj : j < 6) (ht : t < 6) (hjt : j ≠ t) (v : Int32) (hv : v < -99 ∨ nI 99 < v) : Sp X mX5_joints (d + 1) (0, 0) [.ref 0, .int (nI j), .int (nI t), .int (v)] shF I L (some (.int (-1)), shF, I, L) := by
  refine Sp.of okX5_joints [.ref 0, .int (nI j), .int (nI t), .int (v), .null] 1 rfl (Nat.le_of_ble_eq_true rfl) ?_
  refine r_iload_n (pc := 0) dX5_joints_0 rfl ?_
  refine r_callS (pc := 1) (N := mX5_isSource) (rest := []) (s_isSource_t X _ I L j (by omega)) okX5_isSource lkX5_103 rfl rfl (Nat.le_of_ble_eq_true rfl) ⟨Nat.le_refl _, Nat.le_refl _⟩ dX5_joints_1 ?_
  refine r_ifN_eq (pc := 4) (tgt := 31) dX5_joints_4 (by decide) (by omega) (fun c1 => ?_) (fun c1 => ?_)
  · exact absurd c1 (by decide)
  · refine r_iload_n (pc := 7) dX5_joints_7 rfl ?_
    refine r_callS (pc := 8) (N := mX5_isSource) (rest := []) (s_isSource_t X _ I L t (by omega)) okX5_isSource lkX5_103 rfl rfl (Nat.le_of_ble_eq_true rfl) ⟨Nat.le_refl _, Nat.le_refl _⟩ dX5_joints_8 ?_
    refine r_ifN_eq (pc := 11) (tgt := 31) dX5_joints_11 (by decide) (by omega) (fun c2 => ?_) (fun c2 => ?_)
    · exact absurd c2 (by decide)
    · refine r_iload_n (pc := 14) dX5_joints_14 rfl ?_
      refine r_iload_n (pc := 15) dX5_joints_15 rfl ?_
      refine r_icmpN_eq (pc := 16) (tgt := 31) dX5_joints_16 (by decide) (by omega) (by omega) (fun c3 => ?_) (fun c3 => ?_)
      · exact absurd c3 (by omega)
      · refine r_iload_n (pc := 19) dX5_joints_19 rfl ?_
        refine r_bipush (pc := 20) dX5_joints_20 bp_m99 ?_
        refine r_icmp_lt (pc := 22) (tgt := 31) dX5_joints_22 (by decide) (fun c4 => ?_) (fun c4 => ?_)
        · refine r_iconst (pc := 31) (v := -1) dX5_joints_31 rfl ?_
          exact r_iret dX5_joints_32 rfl (rfl) rfl
        · refine r_iload_n (pc := 25) dX5_joints_25 rfl ?_
          refine r_bipush (pc := 26) dX5_joints_26 bp_99 ?_
          refine r_icmp_le (pc := 28) (tgt := 33) dX5_joints_28 (by decide) (fun c5 => ?_) (fun c5 => ?_)
          · exact (hv.elim c4 (i_nlt c5)).elim
          · refine r_iconst (pc := 31) (v := -1) dX5_joints_31 rfl ?_
            exact r_iret dX5_joints_32 rfl (rfl) rfl
theorem p_joints_e (X : Ctx) (d : Nat) (I : MI) (L : ML) (j t : Nat) (hj : j < 6) (ht : t < 6) (hjt : j ≠ t) (v : Int32) (hv1 : ¬ v < -99) (hv2 : v ≤ nI 99) (he : I 3 (j * 6 + t) = v) : Sp X mX5_joints (d + 2) (0, 0) [.ref 0, .int (nI j), .int (nI t), .int (v)] shF I L (some (.int (-2)), shF, I, L) := by
  refine Sp.of okX5_joints [.ref 0, .int (nI j), .int (nI t), .int (v), .null] 1 rfl (Nat.le_of_ble_eq_true rfl) ?_
  refine r_iload_n (pc := 0) dX5_joints_0 rfl ?_
  refine r_callS (pc := 1) (N := mX5_isSource) (rest := []) (s_isSource_t X _ I L j (by omega)) okX5_isSource lkX5_103 rfl rfl (Nat.le_of_ble_eq_true rfl) ⟨Nat.le_refl _, Nat.le_refl _⟩ dX5_joints_1 ?_
  refine r_ifN_eq (pc := 4) (tgt := 31) dX5_joints_4 (by decide) (by omega) (fun c1 => ?_) (fun c1 => ?_)
  · exact absurd c1 (by decide)
  · refine r_iload_n (pc := 7) dX5_joints_7 rfl ?_
    refine r_callS (pc := 8) (N := mX5_isSource) (rest := []) (s_isSource_t X _ I L t (by omega)) okX5_isSource lkX5_103 rfl rfl (Nat.le_of_ble_eq_true rfl) ⟨Nat.le_refl _, Nat.le_refl _⟩ dX5_joints_8 ?_
    refine r_ifN_eq (pc := 11) (tgt := 31) dX5_joints_11 (by decide) (by omega) (fun c2 => ?_) (fun c2 => ?_)
    · exact absurd c2 (by decide)
    · refine r_iload_n (pc := 14) dX5_joints_14 rfl ?_
      refine r_iload_n (pc := 15) dX5_joints_15 rfl ?_
      refine r_icmpN_eq (pc := 16) (tgt := 31) dX5_joints_16 (by decide) (by omega) (by omega) (fun c3 => ?_) (fun c3 => ?_)
      · exact absurd c3 (by omega)
      · refine r_iload_n (pc := 19) dX5_joints_19 rfl ?_
        refine r_bipush (pc := 20) dX5_joints_20 bp_m99 ?_
        refine r_icmp_lt (pc := 22) (tgt := 31) dX5_joints_22 (by decide) (fun c4 => ?_) (fun c4 => ?_)
        · exact absurd c4 hv1
        · refine r_iload_n (pc := 25) dX5_joints_25 rfl ?_
          refine r_bipush (pc := 26) dX5_joints_26 bp_99 ?_
          refine r_icmp_le (pc := 28) (tgt := 33) dX5_joints_28 (by decide) (fun c5 => ?_) (fun c5 => ?_)
          · refine r_aload_n (pc := 33) dX5_joints_33 rfl ?_
            refine r_getR (pc := 34) (b := 1) dX5_joints_34 fX5_12 rfl rfl ?_
            refine r_iload_n (pc := 37) dX5_joints_37 rfl ?_
            refine r_iload_n (pc := 38) dX5_joints_38 rfl ?_
            refine r_callV (pc := 39) (N := mX0_spread) (rest := []) (s_spread_1 X _ I L j t (by omega) (by omega)) okX0_spread lkX5_112 rfl (by decide) rfl rfl rfl (Nat.le_of_ble_eq_true rfl) ⟨Nat.le_refl _, Nat.le_refl _⟩ dX5_joints_39 ?_
            refine r_istore (pc := 42) (lo1 := [.ref 0, .int (nI j), .int (nI t), .int (v), .int (I 3 (j * 6 + t))]) dX5_joints_42 rfl (by decide) rfl ?_
            refine r_iload (pc := 44) dX5_joints_44 rfl ?_
            refine r_iload_n (pc := 46) dX5_joints_46 rfl ?_
            refine r_icmp_ne (pc := 47) (tgt := 53) dX5_joints_47 (by decide) (fun c6 => ?_) (fun c6 => ?_)
            · exact absurd he c6
            · refine r_bipush (pc := 50) dX5_joints_50 bp_m2 ?_
              exact r_iret dX5_joints_52 rfl (rfl) rfl
          · exact absurd hv2 c5
theorem p_undo_0 (X : Ctx) (d : Nat) (I : MI) (L : ML) (hk : I 23 3 = nI 0) : Sp X mX5_undo (d + 4) (0, 0) [.ref 0] shF I L (some (.int (-2)), shF, I, L) := by
  refine Sp.of okX5_undo [.ref 0] 0 rfl (Nat.le_of_ble_eq_true rfl) ?_
  refine r_aload_n (pc := 0) dX5_undo_0 rfl ?_
  refine r_getR (pc := 1) (b := 23) dX5_undo_1 fX5_33 rfl rfl ?_
  refine r_aload_n (pc := 4) dX5_undo_4 rfl ?_
  refine r_getR (pc := 5) (b := 1) dX5_undo_5 fX5_12 rfl rfl ?_
  refine r_callV (pc := 8) (N := mX1_takeBack) (rest := []) (s_takeBack_0 X _ I L hk) okX1_takeBack lkX5_126 rfl (by decide) rfl rfl rfl (Nat.le_of_ble_eq_true rfl) ⟨Nat.le_refl _, Nat.le_refl _⟩ dX5_undo_8 ?_
  refine r_ifN_eq (pc := 11) (tgt := 24) dX5_undo_11 (by decide) (by omega) (fun c1 => ?_) (fun c1 => ?_)
  · refine r_bipush (pc := 24) dX5_undo_24 bp_m2 ?_
    exact r_iret dX5_undo_26 rfl (rfl) rfl
  · exact absurd c1 (by decide)
theorem p_undo_v (X : Ctx) (d : Nat) (I : MI) (L : ML) (k j : Nat) (hk : I 23 3 = nI (k + 1)) (hn : k < 10) (ho : I 25 k = -1) (hs : I 24 k = nI j) (hj : j < 6) : Sp X mX5_undo (d + 4) (0, 0) [.ref 0] shF I L (some (.int (nI k)), shF, (u2 (u2 I 23 3 (nI k)) 2 j (I 26 k)), L) := by
  refine Sp.of okX5_undo [.ref 0] 0 rfl (Nat.le_of_ble_eq_true rfl) ?_
  refine r_aload_n (pc := 0) dX5_undo_0 rfl ?_
  refine r_getR (pc := 1) (b := 23) dX5_undo_1 fX5_33 rfl rfl ?_
  refine r_aload_n (pc := 4) dX5_undo_4 rfl ?_
  refine r_getR (pc := 5) (b := 1) dX5_undo_5 fX5_12 rfl rfl ?_
  refine r_callV (pc := 8) (N := mX1_takeBack) (rest := []) (s_takeBack_v X _ I L k j hk hn ho hs hj) okX1_takeBack lkX5_126 rfl (by decide) rfl rfl rfl (Nat.le_of_ble_eq_true rfl) ⟨Nat.le_refl _, Nat.le_refl _⟩ dX5_undo_8 ?_
  refine r_ifN_eq (pc := 11) (tgt := 24) dX5_undo_11 (by decide) (by omega) (fun c1 => ?_) (fun c1 => ?_)
  · exact absurd c1 (by decide)
  · refine r_aload_n (pc := 14) dX5_undo_14 rfl ?_
    refine r_getR (pc := 15) (b := 23) dX5_undo_15 fX5_33 rfl rfl ?_
    refine r_callV (pc := 18) (N := mX1_known) (rest := []) (s_known X _ (u2 (u2 I 23 3 (nI k)) 2 j (I 26 k)) L k (rfl)) okX1_known lkX5_130 rfl (by decide) rfl rfl rfl (Nat.le_of_ble_eq_true rfl) ⟨Nat.le_refl _, Nat.le_refl _⟩ dX5_undo_18 ?_
    refine r_goto (pc := 21) (tgt := 26) dX5_undo_21 (by decide) ?_
    exact r_iret dX5_undo_26 rfl (rfl) rfl
theorem p_undo_s (X : Ctx) (d : Nat) (I : MI) (L : ML) (k j t : Nat) (hk : I 23 3 = nI (k + 1)) (hn : k < 10) (ho : I 25 k = nI t) (hs : I 24 k = nI j) (hj : j < 6) (ht : t < 6) : Sp X mX5_undo (d + 4) (0, 0) [.ref 0] shF I L (some (.int (nI k)), shF, (u2 (u2 (u2 I 23 3 (nI k)) 3 (j * 6 + t) (I 26 k)) 3 (t * 6 + j) (I 26 k)), L) := by
  refine Sp.of okX5_undo [.ref 0] 0 rfl (Nat.le_of_ble_eq_true rfl) ?_
  refine r_aload_n (pc := 0) dX5_undo_0 rfl ?_
  refine r_getR (pc := 1) (b := 23) dX5_undo_1 fX5_33 rfl rfl ?_
  refine r_aload_n (pc := 4) dX5_undo_4 rfl ?_
  refine r_getR (pc := 5) (b := 1) dX5_undo_5 fX5_12 rfl rfl ?_
  refine r_callV (pc := 8) (N := mX1_takeBack) (rest := []) (s_takeBack_s X _ I L k j t hk hn ho hs hj ht) okX1_takeBack lkX5_126 rfl (by decide) rfl rfl rfl (Nat.le_of_ble_eq_true rfl) ⟨Nat.le_refl _, Nat.le_refl _⟩ dX5_undo_8 ?_
  refine r_ifN_eq (pc := 11) (tgt := 24) dX5_undo_11 (by decide) (by omega) (fun c1 => ?_) (fun c1 => ?_)
  · exact absurd c1 (by decide)
  · refine r_aload_n (pc := 14) dX5_undo_14 rfl ?_
    refine r_getR (pc := 15) (b := 23) dX5_undo_15 fX5_33 rfl rfl ?_
    refine r_callV (pc := 18) (N := mX1_known) (rest := []) (s_known X _ (u2 (u2 (u2 I 23 3 (nI k)) 3 (j * 6 + t) (I 26 k)) 3 (t * 6 + j) (I 26 k)) L k (rfl)) okX1_known lkX5_130 rfl (by decide) rfl rfl rfl (Nat.le_of_ble_eq_true rfl) ⟨Nat.le_refl _, Nat.le_refl _⟩ dX5_undo_18 ?_
    refine r_goto (pc := 21) (tgt := 26) dX5_undo_21 (by decide) ?_
    exact r_iret dX5_undo_26 rfl (rfl) rfl
theorem p_keep_0 (X : Ctx) (d : Nat) (I : MI) (L : ML) (F : Nat) (hF : I 4 6 = nI F) : Sp X mX5_keep (d + 1) (0, 0) [.ref 0, .int (nI 0)] shF I L (some (.int (nI F)), shF, (u2 (cpA (cpA I 33 2 6) 34 3 36) 0 7 (nI 1)), L) := by
  refine Sp.of okX5_keep [.ref 0, .int (nI 0)] 0 rfl (Nat.le_of_ble_eq_true rfl) ?_
  refine r_iload_n (pc := 0) dX5_keep_0 rfl ?_
  refine r_ifN_ne (pc := 1) (tgt := 28) dX5_keep_1 (by decide) (by omega) (fun c1 => ?_) (fun c1 => ?_)
  · exact absurd c1 (by decide)
  · refine r_aload_n (pc := 4) dX5_keep_4 rfl ?_
    refine r_getR (pc := 5) (b := 32) dX5_keep_5 fX5_46 rfl rfl ?_
    refine r_aload_n (pc := 8) dX5_keep_8 rfl ?_
    refine r_getR (pc := 9) (b := 1) dX5_keep_9 fX5_12 rfl rfl ?_
    refine r_callV (pc := 12) (N := mX0_take) (rest := []) (s_take_32_1 X _ I L) okX0_take lkX5_81 rfl (by decide) rfl rfl rfl (Nat.le_of_ble_eq_true rfl) ⟨Nat.le_refl _, Nat.le_refl _⟩ dX5_keep_12 ?_
    refine r_aload_n (pc := 15) dX5_keep_15 rfl ?_
    refine r_iconst (pc := 16) (v := nI 1) dX5_keep_16 rfl ?_
    refine r_put (pc := 17) .boolean dX5_keep_17 fX5_96 rfl rfl nf5_7 (by decide) rfl ?_
    refine r_aload_n (pc := 20) dX5_keep_20 rfl ?_
    refine r_getR (pc := 21) (b := 4) dX5_keep_21 fX5_19 rfl rfl ?_
    refine r_callV (pc := 24) (N := mX4_formulas) (rest := []) (s_formulas_4 X _ (u2 (cpA (cpA I 33 2 6) 34 3 36) 0 7 (nI 1)) L F (hF)) okX4_formulas lkX5_177 rfl (by decide) rfl rfl rfl (Nat.le_of_ble_eq_true rfl) ⟨Nat.le_refl _, Nat.le_refl _⟩ dX5_keep_24 ?_
    exact r_iret dX5_keep_27 rfl (rfl) rfl
theorem p_keep_1 (X : Ctx) (d : Nat) (I : MI) (L : ML) (F : Nat) (hF : I 4 6 = nI F) : Sp X mX5_keep (d + 1) (0, 0) [.ref 0, .int (nI 1)] shF I L (some (.int (nI F)), shF, (u2 (cpA (cpA I 36 2 6) 37 3 36) 0 8 (nI 1)), L) := by
  refine Sp.of okX5_keep [.ref 0, .int (nI 1)] 0 rfl (Nat.le_of_ble_eq_true rfl) ?_
  refine r_iload_n (pc := 0) dX5_keep_0 rfl ?_
  refine r_ifN_ne (pc := 1) (tgt := 28) dX5_keep_1 (by decide) (by omega) (fun c1 => ?_) (fun c1 => ?_)
  · refine r_iload_n (pc := 28) dX5_keep_28 rfl ?_
    refine r_iconst (pc := 29) (v := nI 1) dX5_keep_29 rfl ?_
    refine r_icmpN_ne (pc := 30) (tgt := 57) dX5_keep_30 (by decide) (by omega) (by omega) (fun c2 => ?_) (fun c2 => ?_)
    · exact absurd c2 (by decide)
    · refine r_aload_n (pc := 33) dX5_keep_33 rfl ?_
      refine r_getR (pc := 34) (b := 35) dX5_keep_34 fX5_49 rfl rfl ?_
      refine r_aload_n (pc := 37) dX5_keep_37 rfl ?_
      refine r_getR (pc := 38) (b := 1) dX5_keep_38 fX5_12 rfl rfl ?_
      refine r_callV (pc := 41) (N := mX0_take) (rest := []) (s_take_35_1 X _ I L) okX0_take lkX5_81 rfl (by decide) rfl rfl rfl (Nat.le_of_ble_eq_true rfl) ⟨Nat.le_refl _, Nat.le_refl _⟩ dX5_keep_41 ?_
      refine r_aload_n (pc := 44) dX5_keep_44 rfl ?_
      refine r_iconst (pc := 45) (v := nI 1) dX5_keep_45 rfl ?_
      refine r_put (pc := 46) .boolean dX5_keep_46 fX5_100 rfl rfl nf5_8 (by decide) rfl ?_
      refine r_aload_n (pc := 49) dX5_keep_49 rfl ?_
      refine r_getR (pc := 50) (b := 4) dX5_keep_50 fX5_19 rfl rfl ?_
      refine r_callV (pc := 53) (N := mX4_formulas) (rest := []) (s_formulas_4 X _ (u2 (cpA (cpA I 36 2 6) 37 3 36) 0 8 (nI 1)) L F (hF)) okX4_formulas lkX5_177 rfl (by decide) rfl rfl rfl (Nat.le_of_ble_eq_true rfl) ⟨Nat.le_refl _, Nat.le_refl _⟩ dX5_keep_53 ?_
      exact r_iret dX5_keep_56 rfl (rfl) rfl
  · exact absurd c1 (by decide)
theorem p_keep_f (X : Ctx) (d : Nat) (I : MI) (L : ML) (x : Int32) (h : x < 0 ∨ nI 1 < x) : Sp X mX5_keep (d + 0) (0, 0) [.ref 0, .int (x)] shF I L (some (.int (-1)), shF, I, L) := by
  refine Sp.of okX5_keep [.ref 0, .int (x)] 0 rfl (Nat.le_of_ble_eq_true rfl) ?_
  refine r_iload_n (pc := 0) dX5_keep_0 rfl ?_
  refine r_if_ne (pc := 1) (tgt := 28) dX5_keep_1 (by decide) (fun c1 => ?_) (fun c1 => ?_)
  · refine r_iload_n (pc := 28) dX5_keep_28 rfl ?_
    refine r_iconst (pc := 29) (v := nI 1) dX5_keep_29 rfl ?_
    refine r_icmp_ne (pc := 30) (tgt := 57) dX5_keep_30 (by decide) (fun c2 => ?_) (fun c2 => ?_)
    · refine r_iconst (pc := 57) (v := -1) dX5_keep_57 rfl ?_
      exact r_iret dX5_keep_58 rfl (rfl) rfl
    · exact absurd c2 (fun q => by subst q; exact absurd h (by decide))
  · exact absurd c1 (fun q => by subst q; exact absurd h (by decide))
theorem p_back_f (X : Ctx) (d : Nat) (I : MI) (L : ML) (x : Int32) (h : x < 0 ∨ nI 1 < x) : Sp X mX5_back (d + 0) (0, 0) [.ref 0, .int (x)] shF I L (some (.int (-1)), shF, I, L) := by
  refine Sp.of okX5_back [.ref 0, .int (x)] 0 rfl (Nat.le_of_ble_eq_true rfl) ?_
  refine r_iload_n (pc := 0) dX5_back_0 rfl ?_
  refine r_if_lt (pc := 1) (tgt := 9) dX5_back_1 (by decide) (fun c1 => ?_) (fun c1 => ?_)
  · refine r_iconst (pc := 9) (v := -1) dX5_back_9 rfl ?_
    exact r_iret dX5_back_10 rfl (rfl) rfl
  · refine r_iload_n (pc := 4) dX5_back_4 rfl ?_
    refine r_iconst (pc := 5) (v := nI 1) dX5_back_5 rfl ?_
    refine r_icmp_le (pc := 6) (tgt := 11) dX5_back_6 (by decide) (fun c2 => ?_) (fun c2 => ?_)
    · exact (h.elim c1 (i_nlt c2)).elim
    · refine r_iconst (pc := 9) (v := -1) dX5_back_9 rfl ?_
      exact r_iret dX5_back_10 rfl (rfl) rfl
theorem p_back_0s (X : Ctx) (d : Nat) (I : MI) (L : ML) (hb : I 0 7 = nI 0) : Sp X mX5_back (d + 0) (0, 0) [.ref 0, .int (nI 0)] shF I L (some (.int (-2)), shF, I, L) := by
  refine Sp.of okX5_back [.ref 0, .int (nI 0)] 0 rfl (Nat.le_of_ble_eq_true rfl) ?_
  refine r_iload_n (pc := 0) dX5_back_0 rfl ?_
  refine r_ifN_lt (pc := 1) (tgt := 9) dX5_back_1 (by decide) (by omega) (fun c1 => ?_) (fun c1 => ?_)
  · exact absurd c1 (by decide)
  · refine r_iload_n (pc := 4) dX5_back_4 rfl ?_
    refine r_iconst (pc := 5) (v := nI 1) dX5_back_5 rfl ?_
    refine r_icmpN_le (pc := 6) (tgt := 11) dX5_back_6 (by decide) (by omega) (by omega) (fun c2 => ?_) (fun c2 => ?_)
    · refine r_iload_n (pc := 11) dX5_back_11 rfl ?_
      refine r_ifN_ne (pc := 12) (tgt := 25) dX5_back_12 (by decide) (by omega) (fun c3 => ?_) (fun c3 => ?_)
      · exact absurd c3 (by decide)
      · refine r_aload_n (pc := 15) dX5_back_15 rfl ?_
        refine r_getV (pc := 16) (v := nI 0) dX5_back_16 fX5_96 rfl rfl (hb) ?_
        refine r_ifN_ne (pc := 19) (tgt := 35) dX5_back_19 (by decide) (by omega) (fun c4 => ?_) (fun c4 => ?_)
        · exact absurd c4 (by decide)
        · refine r_goto (pc := 22) (tgt := 32) dX5_back_22 (by decide) ?_
          refine r_bipush (pc := 32) dX5_back_32 bp_m2 ?_
          exact r_iret dX5_back_34 rfl (rfl) rfl
    · exact absurd c2 (by decide)
theorem p_back_0 (X : Ctx) (d : Nat) (I : MI) (L : ML) (F : Nat) (hF : I 4 6 = nI F) (hb : I 0 7 = nI 1) : Sp X mX5_back (d + 1) (0, 0) [.ref 0, .int (nI 0)] shF I L (some (.int (nI F)), shF, (u2 (cpA (cpA I 2 33 6) 3 34 36) 23 3 (nI 0)), L) := by
  refine Sp.of okX5_back [.ref 0, .int (nI 0)] 0 rfl (Nat.le_of_ble_eq_true rfl) ?_
  refine r_iload_n (pc := 0) dX5_back_0 rfl ?_
  refine r_ifN_lt (pc := 1) (tgt := 9) dX5_back_1 (by decide) (by omega) (fun c1 => ?_) (fun c1 => ?_)
  · exact absurd c1 (by decide)
  · refine r_iload_n (pc := 4) dX5_back_4 rfl ?_
    refine r_iconst (pc := 5) (v := nI 1) dX5_back_5 rfl ?_
    refine r_icmpN_le (pc := 6) (tgt := 11) dX5_back_6 (by decide) (by omega) (by omega) (fun c2 => ?_) (fun c2 => ?_)
    · refine r_iload_n (pc := 11) dX5_back_11 rfl ?_
      refine r_ifN_ne (pc := 12) (tgt := 25) dX5_back_12 (by decide) (by omega) (fun c3 => ?_) (fun c3 => ?_)
      · exact absurd c3 (by decide)
      · refine r_aload_n (pc := 15) dX5_back_15 rfl ?_
        refine r_getV (pc := 16) (v := nI 1) dX5_back_16 fX5_96 rfl rfl (hb) ?_
        refine r_ifN_ne (pc := 19) (tgt := 35) dX5_back_19 (by decide) (by omega) (fun c4 => ?_) (fun c4 => ?_)
        · refine r_aload_n (pc := 35) dX5_back_35 rfl ?_
          refine r_getR (pc := 36) (b := 1) dX5_back_36 fX5_12 rfl rfl ?_
          refine r_iload_n (pc := 39) dX5_back_39 rfl ?_
          refine r_ifN_ne (pc := 40) (tgt := 50) dX5_back_40 (by decide) (by omega) (fun c5 => ?_) (fun c5 => ?_)
          · exact absurd c5 (by decide)
          · refine r_aload_n (pc := 43) dX5_back_43 rfl ?_
            refine r_getR (pc := 44) (b := 32) dX5_back_44 fX5_46 rfl rfl ?_
            refine r_goto (pc := 47) (tgt := 54) dX5_back_47 (by decide) ?_
            refine r_callV (pc := 54) (N := mX0_take) (rest := []) (s_take_1_32 X _ I L) okX0_take lkX5_81 rfl (by decide) rfl rfl rfl (Nat.le_of_ble_eq_true rfl) ⟨Nat.le_refl _, Nat.le_refl _⟩ dX5_back_54 ?_
            refine r_aload_n (pc := 57) dX5_back_57 rfl ?_
            refine r_getR (pc := 58) (b := 23) dX5_back_58 fX5_33 rfl rfl ?_
            refine r_callV (pc := 61) (N := mX1_lose) (rest := []) (s_lose X _ (cpA (cpA I 2 33 6) 3 34 36) L) okX1_lose lkX5_89 rfl (by decide) rfl rfl rfl (Nat.le_of_ble_eq_true rfl) ⟨Nat.le_refl _, Nat.le_refl _⟩ dX5_back_61 ?_
            refine r_aload_n (pc := 64) dX5_back_64 rfl ?_
            refine r_getR (pc := 65) (b := 4) dX5_back_65 fX5_19 rfl rfl ?_
            refine r_callV (pc := 68) (N := mX4_formulas) (rest := []) (s_formulas_4 X _ (u2 (cpA (cpA I 2 33 6) 3 34 36) 23 3 (nI 0)) L F (hF)) okX4_formulas lkX5_177 rfl (by decide) rfl rfl rfl (Nat.le_of_ble_eq_true rfl) ⟨Nat.le_refl _, Nat.le_refl _⟩ dX5_back_68 ?_
            exact r_iret dX5_back_71 rfl (rfl) rfl
        · exact absurd c4 (by decide)
    · exact absurd c2 (by decide)
theorem p_back_1s (X : Ctx) (d : Nat) (I : MI) (L : ML) (hb : I 0 8 = nI 0) : Sp X mX5_back (d + 0) (0, 0) [.ref 0, .int (nI 1)] shF I L (some (.int (-2)), shF, I, L) := by
  refine Sp.of okX5_back [.ref 0, .int (nI 1)] 0 rfl (Nat.le_of_ble_eq_true rfl) ?_
  refine r_iload_n (pc := 0) dX5_back_0 rfl ?_
  refine r_ifN_lt (pc := 1) (tgt := 9) dX5_back_1 (by decide) (by omega) (fun c1 => ?_) (fun c1 => ?_)
  · exact absurd c1 (by decide)
  · refine r_iload_n (pc := 4) dX5_back_4 rfl ?_
    refine r_iconst (pc := 5) (v := nI 1) dX5_back_5 rfl ?_
    refine r_icmpN_le (pc := 6) (tgt := 11) dX5_back_6 (by decide) (by omega) (by omega) (fun c2 => ?_) (fun c2 => ?_)
    · refine r_iload_n (pc := 11) dX5_back_11 rfl ?_
      refine r_ifN_ne (pc := 12) (tgt := 25) dX5_back_12 (by decide) (by omega) (fun c3 => ?_) (fun c3 => ?_)
      · refine r_aload_n (pc := 25) dX5_back_25 rfl ?_
        refine r_getV (pc := 26) (v := nI 0) dX5_back_26 fX5_100 rfl rfl (hb) ?_
        refine r_ifN_ne (pc := 29) (tgt := 35) dX5_back_29 (by decide) (by omega) (fun c4 => ?_) (fun c4 => ?_)
        · exact absurd c4 (by decide)
        · refine r_bipush (pc := 32) dX5_back_32 bp_m2 ?_
          exact r_iret dX5_back_34 rfl (rfl) rfl
      · exact absurd c3 (by decide)
    · exact absurd c2 (by decide)
theorem p_back_1 (X : Ctx) (d : Nat) (I : MI) (L : ML) (F : Nat) (hF : I 4 6 = nI F) (hb : I 0 8 = nI 1) : Sp X mX5_back (d + 1) (0, 0) [.ref 0, .int (nI 1)] shF I L (some (.int (nI F)), shF, (u2 (cpA (cpA I 2 36 6) 3 37 36) 23 3 (nI 0)), L) := by
  refine Sp.of okX5_back [.ref 0, .int (nI 1)] 0 rfl (Nat.le_of_ble_eq_true rfl) ?_
  refine r_iload_n (pc := 0) dX5_back_0 rfl ?_
  refine r_ifN_lt (pc := 1) (tgt := 9) dX5_back_1 (by decide) (by omega) (fun c1 => ?_) (fun c1 => ?_)
  · exact absurd c1 (by decide)
  · refine r_iload_n (pc := 4) dX5_back_4 rfl ?_
    refine r_iconst (pc := 5) (v := nI 1) dX5_back_5 rfl ?_
    refine r_icmpN_le (pc := 6) (tgt := 11) dX5_back_6 (by decide) (by omega) (by omega) (fun c2 => ?_) (fun c2 => ?_)
    · refine r_iload_n (pc := 11) dX5_back_11 rfl ?_
      refine r_ifN_ne (pc := 12) (tgt := 25) dX5_back_12 (by decide) (by omega) (fun c3 => ?_) (fun c3 => ?_)
      · refine r_aload_n (pc := 25) dX5_back_25 rfl ?_
        refine r_getV (pc := 26) (v := nI 1) dX5_back_26 fX5_100 rfl rfl (hb) ?_
        refine r_ifN_ne (pc := 29) (tgt := 35) dX5_back_29 (by decide) (by omega) (fun c4 => ?_) (fun c4 => ?_)
        · refine r_aload_n (pc := 35) dX5_back_35 rfl ?_
          refine r_getR (pc := 36) (b := 1) dX5_back_36 fX5_12 rfl rfl ?_
          refine r_iload_n (pc := 39) dX5_back_39 rfl ?_
          refine r_ifN_ne (pc := 40) (tgt := 50) dX5_back_40 (by decide) (by omega) (fun c5 => ?_) (fun c5 => ?_)
          · refine r_aload_n (pc := 50) dX5_back_50 rfl ?_
            refine r_getR (pc := 51) (b := 35) dX5_back_51 fX5_49 rfl rfl ?_
            refine r_callV (pc := 54) (N := mX0_take) (rest := []) (s_take_1_35 X _ I L) okX0_take lkX5_81 rfl (by decide) rfl rfl rfl (Nat.le_of_ble_eq_true rfl) ⟨Nat.le_refl _, Nat.le_refl _⟩ dX5_back_54 ?_
            refine r_aload_n (pc := 57) dX5_back_57 rfl ?_
            refine r_getR (pc := 58) (b := 23) dX5_back_58 fX5_33 rfl rfl ?_
            refine r_callV (pc := 61) (N := mX1_lose) (rest := []) (s_lose X _ (cpA (cpA I 2 36 6) 3 37 36) L) okX1_lose lkX5_89 rfl (by decide) rfl rfl rfl (Nat.le_of_ble_eq_true rfl) ⟨Nat.le_refl _, Nat.le_refl _⟩ dX5_back_61 ?_
            refine r_aload_n (pc := 64) dX5_back_64 rfl ?_
            refine r_getR (pc := 65) (b := 4) dX5_back_65 fX5_19 rfl rfl ?_
            refine r_callV (pc := 68) (N := mX4_formulas) (rest := []) (s_formulas_4 X _ (u2 (cpA (cpA I 2 36 6) 3 37 36) 23 3 (nI 0)) L F (hF)) okX4_formulas lkX5_177 rfl (by decide) rfl rfl rfl (Nat.le_of_ble_eq_true rfl) ⟨Nat.le_refl _, Nat.le_refl _⟩ dX5_back_68 ?_
            exact r_iret dX5_back_71 rfl (rfl) rfl
          · exact absurd c5 (by decide)
        · exact absurd c4 (by decide)
      · exact absurd c3 (by decide)
    · exact absurd c2 (by decide)
theorem s_start_0 (X : Ctx) (d : Nat) (I : MI) (L : ML)  : Sp X mX4_start (d + 1) (0, 0) [.ref 4, .int (nI 0)] shF I L (some (.int (nI 0)), shF, I, L) := by
  refine Sp.of okX4_start [.ref 4, .int (nI 0)] 0 rfl (Nat.le_of_ble_eq_true rfl) ?_
  refine r_aload_n (pc := 0) dX4_start_0 rfl ?_
  refine r_iload_n (pc := 1) dX4_start_1 rfl ?_
  refine r_iconst (pc := 2) (v := nI 1) dX4_start_2 rfl ?_
  refine r_isub (pc := 3) dX4_start_3 ?_
  refine r_top (w := .int (-1)) (by decide) ?_
  refine r_callV (pc := 4) (N := mX4_stop) (rest := []) (s_stop_m1 X _ I L) okX4_stop lkX4_34 rfl (by decide) rfl rfl rfl (Nat.le_of_ble_eq_true rfl) ⟨Nat.le_refl _, Nat.le_refl _⟩ dX4_start_4 ?_
  exact r_iret dX4_start_7 rfl (rfl) rfl
theorem s_start_s (X : Ctx) (d : Nat) (I : MI) (L : ML) (k z : Nat) (hk : k < 4) (hz : I 10 k = nI z) : Sp X mX4_start (d + 1) (0, 0) [.ref 4, .int (nI (k + 1))] shF I L (some (.int (nI z)), shF, I, L) := by
  refine Sp.of okX4_start [.ref 4, .int (nI (k + 1))] 0 rfl (Nat.le_of_ble_eq_true rfl) ?_
  refine r_aload_n (pc := 0) dX4_start_0 rfl ?_
  refine r_iload_n (pc := 1) dX4_start_1 rfl ?_
  refine r_iconst (pc := 2) (v := nI 1) dX4_start_2 rfl ?_
  refine r_isubN (pc := 3) dX4_start_3 (by omega) ?_
  refine r_callV (pc := 4) (N := mX4_stop) (rest := []) (s_stop_4 X _ I L k z (by omega) (hz)) okX4_stop lkX4_34 rfl (by decide) rfl rfl rfl (Nat.le_of_ble_eq_true rfl) ⟨Nat.le_refl _, Nat.le_refl _⟩ dX4_start_4 ?_
  exact r_iret dX4_start_7 rfl (rfl) rfl
theorem p_formula_00 (X : Ctx) (d : Nat) (I : MI) (L : ML) (F n : Nat) (hF : I 4 6 = nI F) (hk : 0 < F) (hF4 : F ≤ 4) (hz : I 10 0 = nI (n + 1)) : Sp X mX5_formula (d + 2) (0, 0) [.ref 0, .int (nI 0), .int (nI 0)] shF I L (some (.int (nI (n + 1))), shF, I, L) := by
  refine Sp.of okX5_formula [.ref 0, .int (nI 0), .int (nI 0)] 0 rfl (Nat.le_of_ble_eq_true rfl) ?_
  refine r_aload_n (pc := 0) dX5_formula_0 rfl ?_
  refine r_iload_n (pc := 1) dX5_formula_1 rfl ?_
  refine r_callV (pc := 2) (N := mX5_isTold) (rest := []) (s_isTold_t X _ I L F 0 hF (by omega) hF4) okX5_isTold lkX5_133 rfl (by decide) rfl rfl rfl (Nat.le_of_ble_eq_true rfl) ⟨Nat.le_refl _, Nat.le_refl _⟩ dX5_formula_2 ?_
  refine r_ifN_ne (pc := 5) (tgt := 10) dX5_formula_5 (by decide) (by omega) (fun c1 => ?_) (fun c1 => ?_)
  · refine r_iload_n (pc := 10) dX5_formula_10 rfl ?_
    refine r_swIn (pc := 11) (off := 25) (tgt := 36) dX5_formula_11 (by decide) (by decide) (by decide) (by decide) ?_
    refine r_aload_n (pc := 36) dX5_formula_36 rfl ?_
    refine r_getR (pc := 37) (b := 4) dX5_formula_37 fX5_19 rfl rfl ?_
    refine r_iload_n (pc := 40) dX5_formula_40 rfl ?_
    refine r_callV (pc := 41) (N := mX4_stop) (rest := []) (s_stop_4 X _ I L 0 (n + 1) (by omega) (hz)) okX4_stop lkX5_180 rfl (by decide) rfl rfl rfl (Nat.le_of_ble_eq_true rfl) ⟨Nat.le_refl _, Nat.le_refl _⟩ dX5_formula_41 ?_
    refine r_aload_n (pc := 44) dX5_formula_44 rfl ?_
    refine r_getR (pc := 45) (b := 4) dX5_formula_45 fX5_19 rfl rfl ?_
    refine r_iload_n (pc := 48) dX5_formula_48 rfl ?_
    refine r_callV (pc := 49) (N := mX4_start) (rest := [.int (nI (n + 1))]) (s_start_0 X _ I L) okX4_start lkX5_183 rfl (by decide) rfl rfl rfl (Nat.le_of_ble_eq_true rfl) ⟨Nat.le_refl _, Nat.le_refl _⟩ dX5_formula_49 ?_
    refine r_isubN (pc := 52) dX5_formula_52 (by omega) ?_
    exact r_iret dX5_formula_53 rfl (rfl) rfl
  · exact absurd c1 (by decide)
theorem p_formula_0s (X : Ctx) (d : Nat) (I : MI) (L : ML) (F k n m : Nat) (hF : I 4 6 = nI F) (hk : k + 1 < F) (hF4 : F ≤ 4) (hz : I 10 (k + 1) = nI (n + 1)) (hm : I 10 k = nI m) (hmn : m ≤ n + 1) : Sp X mX5_formula (d + 2) (0, 0) [.ref 0, .int (nI (k + 1)), .int (nI 0)] shF I L (some (.int (nI (n + 1 - m))), shF, I, L) := by
  refine Sp.of okX5_formula [.ref 0, .int (nI (k + 1)), .int (nI 0)] 0 rfl (Nat.le_of_ble_eq_true rfl) ?_
  refine r_aload_n (pc := 0) dX5_formula_0 rfl ?_
  refine r_iload_n (pc := 1) dX5_formula_1 rfl ?_
  refine r_callV (pc := 2) (N := mX5_isTold) (rest := []) (s_isTold_t X _ I L F (k + 1) hF (by omega) hF4) okX5_isTold lkX5_133 rfl (by decide) rfl rfl rfl (Nat.le_of_ble_eq_true rfl) ⟨Nat.le_refl _, Nat.le_refl _⟩ dX5_formula_2 ?_
  refine r_ifN_ne (pc := 5) (tgt := 10) dX5_formula_5 (by decide) (by omega) (fun c1 => ?_) (fun c1 => ?_)
  · refine r_iload_n (pc := 10) dX5_formula_10 rfl ?_
    refine r_swIn (pc := 11) (off := 25) (tgt := 36) dX5_formula_11 (by decide) (by decide) (by decide) (by decide) ?_
    refine r_aload_n (pc := 36) dX5_formula_36 rfl ?_
    refine r_getR (pc := 37) (b := 4) dX5_formula_37 fX5_19 rfl rfl ?_
    refine r_iload_n (pc := 40) dX5_formula_40 rfl ?_
    refine r_callV (pc := 41) (N := mX4_stop) (rest := []) (s_stop_4 X _ I L (k + 1) (n + 1) (by omega) (hz)) okX4_stop lkX5_180 rfl (by decide) rfl rfl rfl (Nat.le_of_ble_eq_true rfl) ⟨Nat.le_refl _, Nat.le_refl _⟩ dX5_formula_41 ?_
    refine r_aload_n (pc := 44) dX5_formula_44 rfl ?_
    refine r_getR (pc := 45) (b := 4) dX5_formula_45 fX5_19 rfl rfl ?_
    refine r_iload_n (pc := 48) dX5_formula_48 rfl ?_
    refine r_callV (pc := 49) (N := mX4_start) (rest := [.int (nI (n + 1))]) (s_start_s X _ I L k m (by omega) hm) okX4_start lkX5_183 rfl (by decide) rfl rfl rfl (Nat.le_of_ble_eq_true rfl) ⟨Nat.le_refl _, Nat.le_refl _⟩ dX5_formula_49 ?_
    refine r_isubN (pc := 52) dX5_formula_52 (by omega) ?_
    exact r_iret dX5_formula_53 rfl (rfl) rfl
  · exact absurd c1 (by decide)
theorem p_formula_1 (X : Ctx) (d : Nat) (I : MI) (L : ML) (F k n : Nat) (hF : I 4 6 = nI F) (hk : k < F) (hF4 : F ≤ 4) (hz : I 10 k = nI (n + 1)) (hn : n + 1 ≤ 80) : Sp X mX5_formula (d + 2) (0, 0) [.ref 0, .int (nI k), .int (nI 1)] shF I L (some (.int (I 8 n)), shF, I, L) := by
  refine Sp.of okX5_formula [.ref 0, .int (nI k), .int (nI 1)] 0 rfl (Nat.le_of_ble_eq_true rfl) ?_
  refine r_aload_n (pc := 0) dX5_formula_0 rfl ?_
  refine r_iload_n (pc := 1) dX5_formula_1 rfl ?_
  refine r_callV (pc := 2) (N := mX5_isTold) (rest := []) (s_isTold_t X _ I L F k hF (by omega) hF4) okX5_isTold lkX5_133 rfl (by decide) rfl rfl rfl (Nat.le_of_ble_eq_true rfl) ⟨Nat.le_refl _, Nat.le_refl _⟩ dX5_formula_2 ?_
  refine r_ifN_ne (pc := 5) (tgt := 10) dX5_formula_5 (by decide) (by omega) (fun c1 => ?_) (fun c1 => ?_)
  · refine r_iload_n (pc := 10) dX5_formula_10 rfl ?_
    refine r_swIn (pc := 11) (off := 43) (tgt := 54) dX5_formula_11 (by decide) (by decide) (by decide) (by decide) ?_
    refine r_aload_n (pc := 54) dX5_formula_54 rfl ?_
    refine r_getR (pc := 55) (b := 4) dX5_formula_55 fX5_19 rfl rfl ?_
    refine r_aload_n (pc := 58) dX5_formula_58 rfl ?_
    refine r_getR (pc := 59) (b := 4) dX5_formula_59 fX5_19 rfl rfl ?_
    refine r_iload_n (pc := 62) dX5_formula_62 rfl ?_
    refine r_callV (pc := 63) (N := mX4_root) (rest := [.ref 4]) (s_root_4 X _ I L k n (by omega) (hz)) okX4_root lkX5_186 rfl (by decide) rfl rfl rfl (Nat.le_of_ble_eq_true rfl) ⟨Nat.le_refl _, Nat.le_refl _⟩ dX5_formula_63 ?_
    refine r_callV (pc := 66) (N := mX4_steps) (rest := []) (s_steps_4 X _ I L n (by omega)) okX4_steps lkX5_189 rfl (by decide) rfl rfl rfl (Nat.le_of_ble_eq_true rfl) ⟨Nat.le_refl _, Nat.le_refl _⟩ dX5_formula_66 ?_
    exact r_iret dX5_formula_69 rfl (rfl) rfl
  · exact absurd c1 (by decide)
theorem p_formula_2 (X : Ctx) (d : Nat) (I : MI) (L : ML) (F k n : Nat) (hF : I 4 6 = nI F) (hk : k < F) (hF4 : F ≤ 4) (hz : I 10 k = nI (n + 1)) (hn : n + 1 ≤ 80) : Sp X mX5_formula (d + 2) (0, 0) [.ref 0, .int (nI k), .int (nI 2)] shF I L (some (.int (I 9 n)), shF, I, L) := by
  refine Sp.of okX5_formula [.ref 0, .int (nI k), .int (nI 2)] 0 rfl (Nat.le_of_ble_eq_true rfl) ?_
  refine r_aload_n (pc := 0) dX5_formula_0 rfl ?_
  refine r_iload_n (pc := 1) dX5_formula_1 rfl ?_
  refine r_callV (pc := 2) (N := mX5_isTold) (rest := []) (s_isTold_t X _ I L F k hF (by omega) hF4) okX5_isTold lkX5_133 rfl (by decide) rfl rfl rfl (Nat.le_of_ble_eq_true rfl) ⟨Nat.le_refl _, Nat.le_refl _⟩ dX5_formula_2 ?_
  refine r_ifN_ne (pc := 5) (tgt := 10) dX5_formula_5 (by decide) (by omega) (fun c1 => ?_) (fun c1 => ?_)
  · refine r_iload_n (pc := 10) dX5_formula_10 rfl ?_
    refine r_swIn (pc := 11) (off := 59) (tgt := 70) dX5_formula_11 (by decide) (by decide) (by decide) (by decide) ?_
    refine r_aload_n (pc := 70) dX5_formula_70 rfl ?_
    refine r_getR (pc := 71) (b := 4) dX5_formula_71 fX5_19 rfl rfl ?_
    refine r_aload_n (pc := 74) dX5_formula_74 rfl ?_
    refine r_getR (pc := 75) (b := 4) dX5_formula_75 fX5_19 rfl rfl ?_
    refine r_iload_n (pc := 78) dX5_formula_78 rfl ?_
    refine r_callV (pc := 79) (N := mX4_root) (rest := [.ref 4]) (s_root_4 X _ I L k n (by omega) (hz)) okX4_root lkX5_186 rfl (by decide) rfl rfl rfl (Nat.le_of_ble_eq_true rfl) ⟨Nat.le_refl _, Nat.le_refl _⟩ dX5_formula_79 ?_
    refine r_callV (pc := 82) (N := mX4_names) (rest := []) (s_names_4 X _ I L n (by omega)) okX4_names lkX5_192 rfl (by decide) rfl rfl rfl (Nat.le_of_ble_eq_true rfl) ⟨Nat.le_refl _, Nat.le_refl _⟩ dX5_formula_82 ?_
    exact r_iret dX5_formula_85 rfl (rfl) rfl
  · exact absurd c1 (by decide)
theorem p_formula_w (X : Ctx) (d : Nat) (I : MI) (L : ML) (F k : Nat) (hF : I 4 6 = nI F) (hk : k < F) (hF4 : F ≤ 4) (w : Int32) (hw : w.toInt < 0 ∨ 2 < w.toInt) : Sp X mX5_formula (d + 2) (0, 0) [.ref 0, .int (nI k), .int (w)] shF I L (some (.int (-1)), shF, I, L) := by
  refine Sp.of okX5_formula [.ref 0, .int (nI k), .int (w)] 0 rfl (Nat.le_of_ble_eq_true rfl) ?_
  refine r_aload_n (pc := 0) dX5_formula_0 rfl ?_
  refine r_iload_n (pc := 1) dX5_formula_1 rfl ?_
  refine r_callV (pc := 2) (N := mX5_isTold) (rest := []) (s_isTold_t X _ I L F k hF (by omega) hF4) okX5_isTold lkX5_133 rfl (by decide) rfl rfl rfl (Nat.le_of_ble_eq_true rfl) ⟨Nat.le_refl _, Nat.le_refl _⟩ dX5_formula_2 ?_
  refine r_ifN_ne (pc := 5) (tgt := 10) dX5_formula_5 (by decide) (by omega) (fun c1 => ?_) (fun c1 => ?_)
  · refine r_iload_n (pc := 10) dX5_formula_10 rfl ?_
    refine r_swOut (pc := 11) (tgt := 86) dX5_formula_11 hw (by decide) ?_
    refine r_iconst (pc := 86) (v := -1) dX5_formula_86 rfl ?_
    exact r_iret dX5_formula_87 rfl (rfl) rfl
  · exact absurd c1 (by decide)
theorem p_count_0 (X : Ctx) (d : Nat) (I : MI) (L : ML) (F : Nat) (hF : I 4 6 = nI F) : Sp X mX5_count (d + 1) (0, 0) [.ref 0, .int (nI 0)] shF I L (some (.int (nI F)), shF, I, L) := by
  refine Sp.of okX5_count [.ref 0, .int (nI 0)] 0 rfl (Nat.le_of_ble_eq_true rfl) ?_
  refine r_iload_n (pc := 0) dX5_count_0 rfl ?_
  refine r_swIn (pc := 1) (off := 31) (tgt := 32) dX5_count_1 (by decide) (by decide) (by decide) (by decide) ?_
  refine r_aload_n (pc := 32) dX5_count_32 rfl ?_
  refine r_getR (pc := 33) (b := 4) dX5_count_33 fX5_19 rfl rfl ?_
  refine r_callV (pc := 36) (N := mX4_formulas) (rest := []) (s_formulas_4 X _ I L F (hF)) okX4_formulas lkX5_177 rfl (by decide) rfl rfl rfl (Nat.le_of_ble_eq_true rfl) ⟨Nat.le_refl _, Nat.le_refl _⟩ dX5_count_36 ?_
  exact r_iret dX5_count_39 rfl (rfl) rfl
theorem p_count_1 (X : Ctx) (d : Nat) (I : MI) (L : ML)  : Sp X mX5_count (d + 0) (0, 0) [.ref 0, .int (nI 1)] shF I L (some (.int (I 0 11)), shF, I, L) := by
  refine Sp.of okX5_count [.ref 0, .int (nI 1)] 0 rfl (Nat.le_of_ble_eq_true rfl) ?_
  refine r_iload_n (pc := 0) dX5_count_0 rfl ?_
  refine r_swIn (pc := 1) (off := 39) (tgt := 40) dX5_count_1 (by decide) (by decide) (by decide) (by decide) ?_
  refine r_aload_n (pc := 40) dX5_count_40 rfl ?_
  refine r_get (pc := 41) dX5_count_41 fX5_92 rfl rfl ?_
  exact r_iret dX5_count_44 rfl (rfl) rfl
theorem p_count_2 (X : Ctx) (d : Nat) (I : MI) (L : ML) (n : Nat) (hn : I 11 3 = nI n) : Sp X mX5_count (d + 1) (0, 0) [.ref 0, .int (nI 2)] shF I L (some (.int (nI n)), shF, I, L) := by
  refine Sp.of okX5_count [.ref 0, .int (nI 2)] 0 rfl (Nat.le_of_ble_eq_true rfl) ?_
  refine r_iload_n (pc := 0) dX5_count_0 rfl ?_
  refine r_swIn (pc := 1) (off := 44) (tgt := 45) dX5_count_1 (by decide) (by decide) (by decide) (by decide) ?_
  refine r_aload_n (pc := 45) dX5_count_45 rfl ?_
  refine r_getR (pc := 46) (b := 11) dX5_count_46 fX5_26 rfl rfl ?_
  refine r_callV (pc := 49) (N := mX2_letters) (rest := []) (s_letters X _ I L n (hn)) okX2_letters lkX5_70 rfl (by decide) rfl rfl rfl (Nat.le_of_ble_eq_true rfl) ⟨Nat.le_refl _, Nat.le_refl _⟩ dX5_count_49 ?_
  exact r_iret dX5_count_52 rfl (rfl) rfl
theorem p_count_3 (X : Ctx) (d : Nat) (I : MI) (L : ML) (n : Nat) (hk : I 23 3 = nI n) : Sp X mX5_count (d + 1) (0, 0) [.ref 0, .int (nI 3)] shF I L (some (.int (nI n)), shF, I, L) := by
  refine Sp.of okX5_count [.ref 0, .int (nI 3)] 0 rfl (Nat.le_of_ble_eq_true rfl) ?_
  refine r_iload_n (pc := 0) dX5_count_0 rfl ?_
  refine r_swIn (pc := 1) (off := 52) (tgt := 53) dX5_count_1 (by decide) (by decide) (by decide) (by decide) ?_
  refine r_aload_n (pc := 53) dX5_count_53 rfl ?_
  refine r_getR (pc := 54) (b := 23) dX5_count_54 fX5_33 rfl rfl ?_
  refine r_callV (pc := 57) (N := mX1_known) (rest := []) (s_known X _ I L n (hk)) okX1_known lkX5_130 rfl (by decide) rfl rfl rfl (Nat.le_of_ble_eq_true rfl) ⟨Nat.le_refl _, Nat.le_refl _⟩ dX5_count_57 ?_
  exact r_iret dX5_count_60 rfl (rfl) rfl
theorem p_count_w (X : Ctx) (d : Nat) (I : MI) (L : ML) (w : Int32) (hw : w.toInt < 0 ∨ 3 < w.toInt) : Sp X mX5_count (d + 0) (0, 0) [.ref 0, .int (w)] shF I L (some (.int (-1)), shF, I, L) := by
  refine Sp.of okX5_count [.ref 0, .int (w)] 0 rfl (Nat.le_of_ble_eq_true rfl) ?_
  refine r_iload_n (pc := 0) dX5_count_0 rfl ?_
  refine r_swOut (pc := 1) (tgt := 61) dX5_count_1 hw (by decide) ?_
  refine r_iconst (pc := 61) (v := -1) dX5_count_61 rfl ?_
  exact r_iret dX5_count_62 rfl (rfl) rfl
