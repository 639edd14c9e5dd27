theorem GR.fr2 {J J2 : MI} {sg ng : Nat → Int32} {b0 c i c2 : Nat} {l l2 : List Q4} (h : GR J sg ng b0 c l i c2 l2) (hF : FRr J J2 (b0 + l2.length)) (hi : i < l2.length) : GR J2 sg ng b0 c l i c2 l2 := ⟨h.1, h.2.1, h.2.2.1, h.2.2.2.1, (hF 19 _ (by omega) (by omega) (by omega)).trans h.2.2.2.2.1, (hF 20 _ (by omega) (by omega) (by omega)).trans h.2.2.2.2.2⟩
theorem s_readPower (X : Ctx) (d : Nat) (I : MI) (L : ML) (tx : Nat → Nat) (n F : Nat) (rt : Nat → Nat) (sg ng : Nat → Int32) (b0 t c : Nat) (l : List Q4) (h : PS I tx n F rt sg ng b0 t c l) (dp : Nat) (inner : Option (Nat → Nat → List Q4 → RD)) (hin : INO L tx n F rt sg ng b0 X d dp inner) : ∃ T, QR I L tx n F rt sg ng b0 c l (rdPower (tkK tx n) (tkV tx n) F inner t c l) T ∧ Sp X mX2_readPower (d + 6) (0, 0) [.ref 11, .int (nI dp)] shF I L T := by
  refine qU (fun T_ k_ => Sp.of okX2_readPower [.ref 11, .int (nI dp), .null] 1 rfl (Nat.le_of_ble_eq_true rfl) k_) ?_
  unfold rdPower
  refine qU (fun T_ k_ => r_aload_n (pc := 0) dX2_readPower_0 rfl k_) ?_
  refine qU (fun T_ k_ => r_iload_n (pc := 1) dX2_readPower_1 rfl k_) ?_
  obtain ⟨T27, Q27, S27⟩ := s_readPart X d I L tx n F rt sg ng b0 t c l h dp inner hin
  cases R27 : rdPart (tkK tx n) (tkV tx n) F inner t c l
  · rename_i u27
    rw [R27] at Q27
    obtain ⟨J27, rfl, F27, C27⟩ := Q27
    dsimp only
    refine qU (fun T_ k_ => r_callV (pc := 2) (N := mX2_readPart) (rest := []) (S27) okX2_readPart lkX2_110 rfl (by decide) rfl rfl rfl (Nat.le_of_ble_eq_true rfl) ⟨Nat.le_refl _, Nat.le_refl _⟩ dX2_readPower_2 k_) ?_
    refine qU (fun T_ k_ => r_istore_n (pc := 5) (lo1 := [.ref 11, .int (nI dp), .int (-1)]) dX2_readPower_5 rfl (by decide) rfl k_) ?_
    refine qU (fun T_ k_ => r_iload_n (pc := 6) dX2_readPower_6 rfl k_) ?_
    refine qU (fun T_ k_ => r_iconst (pc := 7) (v := -1) dX2_readPower_7 rfl k_) ?_
    refine qP (fun T_ => r_icmp_eq (pc := 8) (tgt := 20) dX2_readPower_8 (by decide)) (fun c1 => ?_) (fun c1 => ?_)
    · refine qU (fun T_ k_ => r_iload_n (pc := 20) dX2_readPower_20 rfl k_) ?_
      exact ⟨_, ⟨_, rfl, (FRr.refl I (b0 + l.length)).trans F27 (by omega), C27⟩, r_iret dX2_readPower_21 rfl rfl rfl⟩
    · exact absurd rfl c1
  · rename_i v27
    obtain ⟨i27, u27, d27, l27⟩ := v27
    rw [R27] at Q27
    obtain ⟨J27, rfl, F27, P27, G27⟩ := Q27
    have hl27 := G27.1
    have hi27 := G27.2.1
    have hg27 := G27.2.2.1
    have hb27 := P27.2.2.2.2.1.2.2.1
    have hc27 := P27.2.2.2.2.2.2.1
    have hd27 := P27.2.2.2.1
    have bd27 := tk_bd P27.1 u27
    dsimp only
    refine qU (fun T_ k_ => r_callV (pc := 2) (N := mX2_readPart) (rest := []) (S27) okX2_readPart lkX2_110 rfl (by decide) rfl rfl rfl (Nat.le_of_ble_eq_true rfl) ⟨Nat.le_refl _, Nat.le_refl _⟩ dX2_readPower_2 k_) ?_
    refine qU (fun T_ k_ => r_istore_n (pc := 5) (lo1 := [.ref 11, .int (nI dp), .int (nI (b0 + i27))]) dX2_readPower_5 rfl (by decide) rfl k_) ?_
    refine qU (fun T_ k_ => r_iload_n (pc := 6) dX2_readPower_6 rfl k_) ?_
    refine qU (fun T_ k_ => r_iconst (pc := 7) (v := -1) dX2_readPower_7 rfl k_) ?_
    refine qP (fun T_ => r_icmp_eq (pc := 8) (tgt := 20) dX2_readPower_8 (by decide)) (fun c2 => ?_) (fun c2 => ?_)
    · exact absurd c2 (nI_nm1 (by omega))
    · refine qU (fun T_ k_ => r_aload_n (pc := 11) dX2_readPower_11 rfl k_) ?_
      refine qU (fun T_ k_ => r_getV (pc := 12) (v := tokI (tkK tx n (u27)) (tkV tx n (u27))) dX2_readPower_12 fX2_43 rfl rfl (P27.2.1.1) k_) ?_
      refine qU (fun T_ k_ => r_bipush (pc := 15) dX2_readPower_15 bp_94 k_) ?_
      refine qP (fun T_ => r_icmp_eq (pc := 17) (tgt := 22) dX2_readPower_17 (by decide)) (fun c3 => ?_) (fun c3 => ?_)
      · have hA27 := (tokI_ch bd27.1 bd27.2.1 (ch := 94) (by decide)).mp c3
        rw [if_pos hA27]
        have be27 := tk_bd P27.1 (u27 + 1)
        refine qU (fun T_ k_ => r_aload_n (pc := 22) dX2_readPower_22 rfl k_) ?_
        by_cases hc28 : 20 ≤ d27
        · rw [if_pos hc28]
          refine qU (fun T_ k_ => r_callV (pc := 23) (N := mX2_countNode) (rest := []) (s_countNode_f X _ J27 L (d27) P27.2.2.1 hc28 P27.2.2.2.1) okX2_countNode lkX2_100 rfl (by decide) rfl rfl rfl (Nat.le_of_ble_eq_true rfl) ⟨Nat.le_refl _, Nat.le_refl _⟩ dX2_readPower_23 k_) ?_
          refine qN (fun T_ => r_ifN_ne (pc := 26) (tgt := 31) dX2_readPower_26 (by decide) (by omega)) (fun c4 => ?_) (fun c4 => ?_)
          · exact absurd c4 (by decide)
          · refine qU (fun T_ k_ => r_iconst (pc := 29) (v := -1) dX2_readPower_29 rfl k_) ?_
            exact ⟨_, ⟨_, rfl, (FRr.refl I (b0 + l.length)).trans F27 (by omega), P27.2.1⟩, r_iret dX2_readPower_30 rfl rfl rfl⟩
        · rw [if_neg hc28]
          have P28 := P27.counted hc28
          refine qU (fun T_ k_ => r_callV (pc := 23) (N := mX2_countNode) (rest := []) (s_countNode_t X _ J27 L (d27) P27.2.2.1 hc28) okX2_countNode lkX2_100 rfl (by decide) rfl rfl rfl (Nat.le_of_ble_eq_true rfl) ⟨Nat.le_refl _, Nat.le_refl _⟩ dX2_readPower_23 k_) ?_
          refine qN (fun T_ => r_ifN_ne (pc := 26) (tgt := 31) dX2_readPower_26 (by decide) (by omega)) (fun c5 => ?_) (fun c5 => ?_)
          · refine qU (fun T_ k_ => r_aload_n (pc := 31) dX2_readPower_31 rfl k_) ?_
            obtain ⟨T29, ⟨J29, rfl, F29, C29⟩, S29⟩ := s_pass X (d + 3) (u2 J27 11 8 (nI (d27 + 1))) L tx n (u27 + 1) P28.1 P28.2.1.2.2.1
            have P29 := P28.passed F29 C29
            refine qU (fun T_ k_ => r_callV (pc := 32) (N := mX2_pass) (rest := []) (S29) okX2_pass lkX2_40 rfl (by decide) rfl rfl rfl (Nat.le_of_ble_eq_true rfl) ⟨Nat.le_refl _, Nat.le_refl _⟩ dX2_readPower_32 k_) ?_
            refine qU (fun T_ k_ => r_aload_n (pc := 35) dX2_readPower_35 rfl k_) ?_
            refine qU (fun T_ k_ => r_getV (pc := 36) (v := tokI (tkK tx n (u27 + 1)) (tkV tx n (u27 + 1))) dX2_readPower_36 fX2_43 rfl rfl (P29.2.1.1) k_) ?_
            refine qU (fun T_ k_ => r_bipush (pc := 39) dX2_readPower_39 bp_m2 k_) ?_
            refine qN (fun T_ => r_icmp_ne (pc := 41) (tgt := 52) dX2_readPower_41 (by decide)) (fun c6 => ?_) (fun c6 => ?_)
            · rw [if_neg (fun z => c6 ((tokI_m2 be27.1 be27.2.1).mpr z.1))]
              refine qU (fun T_ k_ => r_iconst (pc := 52) (v := -1) dX2_readPower_52 rfl k_) ?_
              exact ⟨_, ⟨_, rfl, (((FRr.refl I (b0 + l.length)).trans F27 (by omega)).nodes _).trans (FRr.ofp F29) (Nat.le_refl _), P29.2.1⟩, r_iret dX2_readPower_53 rfl rfl rfl⟩
            · have hB27 := (tokI_m2 be27.1 be27.2.1).mp c6
              refine qU (fun T_ k_ => r_aload_n (pc := 44) dX2_readPower_44 rfl k_) ?_
              refine qU (fun T_ k_ => r_getV (pc := 45) (v := nI (tkV tx n (u27 + 1))) dX2_readPower_45 fX2_73 rfl rfl ((P29.2.1.2.2.2 hB27)) k_) ?_
              refine qU (fun T_ k_ => r_iconst (pc := 48) (v := nI 4) dX2_readPower_48 rfl k_) ?_
              refine qP (fun T_ => r_icmpN_le (pc := 49) (tgt := 54) dX2_readPower_49 (by decide) (by omega) (by omega)) (fun c7 => ?_) (fun c7 => ?_)
              · have hV27 : tkV tx n (u27 + 1) ≤ 4 := by omega
                rw [if_pos ⟨hB27, hV27⟩]
                refine qU (fun T_ k_ => r_aload_n (pc := 54) dX2_readPower_54 rfl k_) ?_
                refine qU (fun T_ k_ => r_getR (pc := 55) (b := 15) dX2_readPower_55 fX2_21 rfl rfl k_) ?_
                refine qU (fun T_ k_ => r_bipush (pc := 58) dX2_readPower_58 bp_6 k_) ?_
                refine qU (fun T_ k_ => r_iload_n (pc := 60) dX2_readPower_60 rfl k_) ?_
                refine qU (fun T_ k_ => r_aload_n (pc := 61) dX2_readPower_61 rfl k_) ?_
                refine qU (fun T_ k_ => r_getV (pc := 62) (v := nI (tkV tx n (u27 + 1))) dX2_readPower_62 fX2_73 rfl rfl ((P29.2.1.2.2.2 hB27)) k_) ?_
                have P30 : PS (addN J29 (b0 + l27.length) (nI 6) (nI (b0 + i27)) (nI (tkV tx n (u27 + 1))) (nI 1 + J29 19 (b0 + i27)) (J29 20 (b0 + i27))) tx n F rt sg ng b0 (u27 + 1) (d27 + 1) (l27 ++ [((94, tkV tx n (u27 + 1), i27, 0) : Q4)]) := P29.made ((94, tkV tx n (u27 + 1), i27, 0) : Q4) (by omega) (Or.inr (Or.inr (Or.inr (Or.inr (Or.inl ⟨rfl, hV27, by show i27 < l27.length; omega⟩))))) rfl rfl rfl
                have G30 : GR (addN J29 (b0 + l27.length) (nI 6) (nI (b0 + i27)) (nI (tkV tx n (u27 + 1))) (nI 1 + J29 19 (b0 + i27)) (J29 20 (b0 + i27))) sg ng b0 c l l27.length (d27 + 1) (l27 ++ [((94, tkV tx n (u27 + 1), i27, 0) : Q4)]) := GR.un ((94, tkV tx n (u27 + 1), i27, 0) : Q4) (G27.fr2 ((((FRr.refl J27 (b0 + l27.length)).nodes _).trans (FRr.ofp F29) (Nat.le_refl _))) (by omega)) (Nat.le_of_ble_eq_true rfl) (by omega) rfl rfl
                refine qU (fun T_ k_ => r_callV (pc := 65) (N := mX4_addOver) (rest := []) (s_addOver X _ J29 L (b0 + l27.length) (b0 + i27) (nI 6) (nI (tkV tx n (u27 + 1))) P29.2.2.2.2.2.1 (by omega) (by omega)) okX4_addOver lkX2_113 rfl (by decide) rfl rfl rfl (Nat.le_of_ble_eq_true rfl) ⟨Nat.le_refl _, Nat.le_refl _⟩ dX2_readPower_65 k_) ?_
                refine qU (fun T_ k_ => r_istore_n (pc := 68) (lo1 := [.ref 11, .int (nI dp), .int (nI (b0 + l27.length))]) dX2_readPower_68 rfl (by decide) rfl k_) ?_
                refine qU (fun T_ k_ => r_aload_n (pc := 69) dX2_readPower_69 rfl k_) ?_
                obtain ⟨T31, ⟨J31, rfl, F31, C31⟩, S31⟩ := s_pass X (d + 3) (addN J29 (b0 + l27.length) (nI 6) (nI (b0 + i27)) (nI (tkV tx n (u27 + 1))) (nI 1 + J29 19 (b0 + i27)) (J29 20 (b0 + i27))) L tx n (u27 + 1 + 1) P30.1 P30.2.1.2.2.1
                have P31 := P30.passed F31 C31
                refine qU (fun T_ k_ => r_callV (pc := 70) (N := mX2_pass) (rest := []) (S31) okX2_pass lkX2_40 rfl (by decide) rfl rfl rfl (Nat.le_of_ble_eq_true rfl) ⟨Nat.le_refl _, Nat.le_refl _⟩ dX2_readPower_70 k_) ?_
                refine qU (fun T_ k_ => r_iload_n (pc := 73) dX2_readPower_73 rfl k_) ?_
                exact ⟨_, ⟨_, rfl, (((((FRr.refl I (b0 + l.length)).trans F27 (by omega)).nodes _).trans (FRr.ofp F29) (Nat.le_refl _)).addN (by omega)).trans (FRr.ofp F31) (Nat.le_refl _), P31, G30.fr F31⟩, r_iret dX2_readPower_74 rfl rfl rfl⟩
              · rw [if_neg (fun z => absurd z.2 (by omega))]
                refine qU (fun T_ k_ => r_iconst (pc := 52) (v := -1) dX2_readPower_52 rfl k_) ?_
                exact ⟨_, ⟨_, rfl, (((FRr.refl I (b0 + l.length)).trans F27 (by omega)).nodes _).trans (FRr.ofp F29) (Nat.le_refl _), P29.2.1⟩, r_iret dX2_readPower_53 rfl rfl rfl⟩
          · exact absurd c5 (by decide)
      · rw [if_neg (fun z => c3 ((tokI_ch bd27.1 bd27.2.1 (ch := 94) (by decide)).mpr z))]
        refine qU (fun T_ k_ => r_iload_n (pc := 20) dX2_readPower_20 rfl k_) ?_
        exact ⟨_, ⟨_, rfl, (FRr.refl I (b0 + l.length)).trans F27 (by omega), P27, G27⟩, r_iret dX2_readPower_21 rfl rfl rfl⟩
