theorem QR.val {I : MI} {L : ML} {tx : Nat → Nat} {n F : Nat} {rt : Nat → Nat} {sg ng : Nat → Int32} {b0 c : Nat} {l : List Q4} {r : RD} {T : TR} (h : QR I L tx n F rt sg ng b0 c l r T) : ∃ (x : Int32) (J : MI), T = (some (.int x), shF, J, L) := by
  cases r with
  | inl u => obtain ⟨J, h1, -⟩ := h; exact ⟨_, J, h1⟩
  | inr v => obtain ⟨i, u, c', l'⟩ := v; obtain ⟨J, h1, -⟩ := h; exact ⟨_, J, h1⟩
theorem nI_nm2 {t : Nat} (h : t < 2 ^ 31) : ¬ nI t = -2 := by
  intro q
  have a := nI_toInt h
  rw [q] at a
  have b : ((-2 : Int32)).toInt = -2 := by decide
  omega
def INO (L : ML) (tx : Nat → Nat) (n F : Nat) (rt : Nat → Nat) (sg ng : Nat → Int32) (b0 : Nat) (X : Ctx) (d dp : Nat) (inner : Option (Nat → Nat → List Q4 → RD)) : Prop := match inner with
  | none => dp = 8
  | some rs => dp < 8 ∧ INN L tx n F rt sg ng b0 X (d + 2) (dp + 1) rs
theorem s_readBarePart (X : Ctx) (d : Nat) (I : MI) (L : ML) (tx : Nat → Nat) (n F : Nat) (rt : Nat → Nat) (sg ng : Nat → Int32) (b0 t c : Nat) (l : List Q4) (h : PS I tx n F rt sg ng b0 t c l) (dp : Nat) (inner : Option (Nat → Nat → List Q4 → RD)) (hin : INO L tx n F rt sg ng b0 X d dp inner) : ∃ T, QR I L tx n F rt sg ng b0 c l (rdBare (tkK tx n) (tkV tx n) F inner t c l) T ∧ Sp X mX2_readBarePart (d + 4) (0, 0) [.ref 11, .int (nI dp)] shF I L T := by
  refine qU (fun T_ k_ => Sp.of okX2_readBarePart [.ref 11, .int (nI dp), .null, .null] 2 rfl (Nat.le_of_ble_eq_true rfl) k_) ?_
  have bd := tk_bd h.1 t
  have hF4 := h.2.2.2.2.1.2.1
  have hb8 := h.2.2.2.2.1.2.2.1
  have hlc := h.2.2.2.2.2.2.1
  have hc20 := h.2.2.2.1
  unfold rdBare
  by_cases hA : tkK tx n t = 1 ∧ tkV tx n t = 40
  · rw [if_pos hA]
    have tA := h.2.1.1.trans ((tokI_ch bd.1 bd.2.1 (ch := 40) (by decide)).mpr hA)
    cases inner with
    | none =>
      have hdp : dp = 8 := hin
      subst hdp
      refine qU (fun T_ k_ => r_aload_n (pc := 0) dX2_readBarePart_0 rfl k_) ?_
      refine qU (fun T_ k_ => r_getV (pc := 1) (v := nI 40) dX2_readBarePart_1 fX2_43 rfl rfl (tA) k_) ?_
      refine qU (fun T_ k_ => r_bipush (pc := 4) dX2_readBarePart_4 bp_40 k_) ?_
      refine qN (fun T_ => r_icmpN_ne (pc := 6) (tgt := 15) dX2_readBarePart_6 (by decide) (by omega) (by omega)) (fun c1 => ?_) (fun c1 => ?_)
      · exact absurd c1 (by decide)
      · refine qU (fun T_ k_ => r_aload_n (pc := 9) dX2_readBarePart_9 rfl k_) ?_
        refine qU (fun T_ k_ => r_iload_n (pc := 10) dX2_readBarePart_10 rfl k_) ?_
        obtain ⟨T12, Q12, S12⟩ := s_readInner_0 X d I L tx n F rt sg ng b0 t c l h
        obtain ⟨x12, J12, e12⟩ := Q12.val
        subst e12
        refine qU (fun T_ k_ => r_callV (pc := 11) (N := mX2_readInner) (rest := []) (S12) okX2_readInner lkX2_119 rfl (by decide) rfl rfl rfl (Nat.le_of_ble_eq_true rfl) ⟨Nat.le_refl _, Nat.le_refl _⟩ dX2_readBarePart_11 k_) ?_
        exact ⟨_, Q12, r_iret dX2_readBarePart_14 rfl rfl rfl⟩
    | some rs =>
      refine qU (fun T_ k_ => r_aload_n (pc := 0) dX2_readBarePart_0 rfl k_) ?_
      refine qU (fun T_ k_ => r_getV (pc := 1) (v := nI 40) dX2_readBarePart_1 fX2_43 rfl rfl (tA) k_) ?_
      refine qU (fun T_ k_ => r_bipush (pc := 4) dX2_readBarePart_4 bp_40 k_) ?_
      refine qN (fun T_ => r_icmpN_ne (pc := 6) (tgt := 15) dX2_readBarePart_6 (by decide) (by omega) (by omega)) (fun c1 => ?_) (fun c1 => ?_)
      · exact absurd c1 (by decide)
      · refine qU (fun T_ k_ => r_aload_n (pc := 9) dX2_readBarePart_9 rfl k_) ?_
        refine qU (fun T_ k_ => r_iload_n (pc := 10) dX2_readBarePart_10 rfl k_) ?_
        obtain ⟨T13, Q13, S13⟩ := s_readInner_s X d I L tx n F rt sg ng b0 t c l h dp hin.1 rs hin.2
        obtain ⟨x13, J13, e13⟩ := Q13.val
        subst e13
        refine qU (fun T_ k_ => r_callV (pc := 11) (N := mX2_readInner) (rest := []) (S13) okX2_readInner lkX2_119 rfl (by decide) rfl rfl rfl (Nat.le_of_ble_eq_true rfl) ⟨Nat.le_refl _, Nat.le_refl _⟩ dX2_readBarePart_11 k_) ?_
        exact ⟨_, Q13, r_iret dX2_readBarePart_14 rfl rfl rfl⟩
  · rw [if_neg hA]
    by_cases hB : tkK tx n t = 1 ∧ tkV tx n t = 64
    · rw [if_pos hB]
      have tB := h.2.1.1.trans ((tokI_ch bd.1 bd.2.1 (ch := 64) (by decide)).mpr hB)
      refine qU (fun T_ k_ => r_aload_n (pc := 0) dX2_readBarePart_0 rfl k_) ?_
      refine qU (fun T_ k_ => r_getV (pc := 1) (v := nI 64) dX2_readBarePart_1 fX2_43 rfl rfl (tB) k_) ?_
      refine qU (fun T_ k_ => r_bipush (pc := 4) dX2_readBarePart_4 bp_40 k_) ?_
      refine qN (fun T_ => r_icmpN_ne (pc := 6) (tgt := 15) dX2_readBarePart_6 (by decide) (by omega) (by omega)) (fun c1 => ?_) (fun c1 => ?_)
      · refine qU (fun T_ k_ => r_aload_n (pc := 15) dX2_readBarePart_15 rfl k_) ?_
        refine qU (fun T_ k_ => r_getV (pc := 16) (v := nI 64) dX2_readBarePart_16 fX2_43 rfl rfl (tB) k_) ?_
        refine qU (fun T_ k_ => r_bipush (pc := 19) dX2_readBarePart_19 bp_64 k_) ?_
        refine qN (fun T_ => r_icmpN_ne (pc := 21) (tgt := 29) dX2_readBarePart_21 (by decide) (by omega) (by omega)) (fun c2 => ?_) (fun c2 => ?_)
        · exact absurd c2 (by decide)
        · refine qU (fun T_ k_ => r_aload_n (pc := 24) dX2_readBarePart_24 rfl k_) ?_
          obtain ⟨T14, Q14, S14⟩ := s_readEarlier X d I L tx n F rt sg ng b0 t c l h
          obtain ⟨x14, J14, e14⟩ := Q14.val
          subst e14
          refine qU (fun T_ k_ => r_callV (pc := 25) (N := mX2_readEarlier) (rest := []) (S14) okX2_readEarlier lkX2_122 rfl (by decide) rfl rfl rfl (Nat.le_of_ble_eq_true rfl) ⟨Nat.le_refl _, Nat.le_refl _⟩ dX2_readBarePart_25 k_) ?_
          exact ⟨_, Q14, r_iret dX2_readBarePart_28 rfl rfl rfl⟩
      · exact absurd c1 (by decide)
    · rw [if_neg hB]
      by_cases hC : tkK tx n t = 2
      · rw [if_pos hC]
        by_cases hc : 20 ≤ c
        · rw [if_pos hc]
          refine qU (fun T_ k_ => r_aload_n (pc := 0) dX2_readBarePart_0 rfl k_) ?_
          refine qU (fun T_ k_ => r_getV (pc := 1) (v := -2) dX2_readBarePart_1 fX2_43 rfl rfl (h.2.1.1.trans ((tokI_m2 bd.1 bd.2.1).mpr hC)) k_) ?_
          refine qU (fun T_ k_ => r_bipush (pc := 4) dX2_readBarePart_4 bp_40 k_) ?_
          refine qN (fun T_ => r_icmp_ne (pc := 6) (tgt := 15) dX2_readBarePart_6 (by decide)) (fun c1 => ?_) (fun c1 => ?_)
          · refine qU (fun T_ k_ => r_aload_n (pc := 15) dX2_readBarePart_15 rfl k_) ?_
            refine qU (fun T_ k_ => r_getV (pc := 16) (v := -2) dX2_readBarePart_16 fX2_43 rfl rfl (h.2.1.1.trans ((tokI_m2 bd.1 bd.2.1).mpr hC)) k_) ?_
            refine qU (fun T_ k_ => r_bipush (pc := 19) dX2_readBarePart_19 bp_64 k_) ?_
            refine qN (fun T_ => r_icmp_ne (pc := 21) (tgt := 29) dX2_readBarePart_21 (by decide)) (fun c2 => ?_) (fun c2 => ?_)
            · refine qU (fun T_ k_ => r_aload_n (pc := 29) dX2_readBarePart_29 rfl k_) ?_
              refine qU (fun T_ k_ => r_callV (pc := 30) (N := mX2_sourceAtHand) (rest := []) (s_sourceAtHand X _ I L (-2) (h.2.1.1.trans ((tokI_m2 bd.1 bd.2.1).mpr hC))) okX2_sourceAtHand lkX2_62 rfl (by decide) rfl rfl rfl (Nat.le_of_ble_eq_true rfl) ⟨Nat.le_refl _, Nat.le_refl _⟩ dX2_readBarePart_30 k_) ?_
              refine qU (fun T_ k_ => r_istore_n (pc := 33) (lo1 := [.ref 11, .int (nI dp), .int ((-2) - nI 97), .null]) dX2_readBarePart_33 rfl (by decide) rfl k_) ?_
              refine qU (fun T_ k_ => r_aload_n (pc := 34) dX2_readBarePart_34 rfl k_) ?_
              refine qU (fun T_ k_ => r_getV (pc := 35) (v := -2) dX2_readBarePart_35 fX2_43 rfl rfl (h.2.1.1.trans ((tokI_m2 bd.1 bd.2.1).mpr hC)) k_) ?_
              refine qU (fun T_ k_ => r_bipush (pc := 38) dX2_readBarePart_38 bp_m2 k_) ?_
              refine qP (fun T_ => r_icmp_eq (pc := 40) (tgt := 50) dX2_readBarePart_40 (by decide)) (fun c3 => ?_) (fun c3 => ?_)
              · refine qU (fun T_ k_ => r_aload_n (pc := 50) dX2_readBarePart_50 rfl k_) ?_
                refine qU (fun T_ k_ => r_callV (pc := 51) (N := mX2_countNode) (rest := []) (s_countNode_f X _ I L (c) h.2.2.1 hc h.2.2.2.1) okX2_countNode lkX2_100 rfl (by decide) rfl rfl rfl (Nat.le_of_ble_eq_true rfl) ⟨Nat.le_refl _, Nat.le_refl _⟩ dX2_readBarePart_51 k_) ?_
                refine qN (fun T_ => r_ifN_ne (pc := 54) (tgt := 59) dX2_readBarePart_54 (by decide) (by omega)) (fun c4 => ?_) (fun c4 => ?_)
                · exact absurd c4 (by decide)
                · refine qU (fun T_ k_ => r_iconst (pc := 57) (v := -1) dX2_readBarePart_57 rfl k_) ?_
                  exact ⟨_, ⟨_, rfl, FRr.refl I (b0 + l.length), h.2.1⟩, r_iret dX2_readBarePart_58 rfl rfl rfl⟩
              · exact absurd rfl c3
            · exact absurd c2 (by decide)
          · exact absurd c1 (by decide)
        · rw [if_neg hc]
          refine qU (fun T_ k_ => r_aload_n (pc := 0) dX2_readBarePart_0 rfl k_) ?_
          refine qU (fun T_ k_ => r_getV (pc := 1) (v := -2) dX2_readBarePart_1 fX2_43 rfl rfl (h.2.1.1.trans ((tokI_m2 bd.1 bd.2.1).mpr hC)) k_) ?_
          refine qU (fun T_ k_ => r_bipush (pc := 4) dX2_readBarePart_4 bp_40 k_) ?_
          refine qN (fun T_ => r_icmp_ne (pc := 6) (tgt := 15) dX2_readBarePart_6 (by decide)) (fun c1 => ?_) (fun c1 => ?_)
          · refine qU (fun T_ k_ => r_aload_n (pc := 15) dX2_readBarePart_15 rfl k_) ?_
            refine qU (fun T_ k_ => r_getV (pc := 16) (v := -2) dX2_readBarePart_16 fX2_43 rfl rfl (h.2.1.1.trans ((tokI_m2 bd.1 bd.2.1).mpr hC)) k_) ?_
            refine qU (fun T_ k_ => r_bipush (pc := 19) dX2_readBarePart_19 bp_64 k_) ?_
            refine qN (fun T_ => r_icmp_ne (pc := 21) (tgt := 29) dX2_readBarePart_21 (by decide)) (fun c2 => ?_) (fun c2 => ?_)
            · refine qU (fun T_ k_ => r_aload_n (pc := 29) dX2_readBarePart_29 rfl k_) ?_
              refine qU (fun T_ k_ => r_callV (pc := 30) (N := mX2_sourceAtHand) (rest := []) (s_sourceAtHand X _ I L (-2) (h.2.1.1.trans ((tokI_m2 bd.1 bd.2.1).mpr hC))) okX2_sourceAtHand lkX2_62 rfl (by decide) rfl rfl rfl (Nat.le_of_ble_eq_true rfl) ⟨Nat.le_refl _, Nat.le_refl _⟩ dX2_readBarePart_30 k_) ?_
              refine qU (fun T_ k_ => r_istore_n (pc := 33) (lo1 := [.ref 11, .int (nI dp), .int ((-2) - nI 97), .null]) dX2_readBarePart_33 rfl (by decide) rfl k_) ?_
              refine qU (fun T_ k_ => r_aload_n (pc := 34) dX2_readBarePart_34 rfl k_) ?_
              refine qU (fun T_ k_ => r_getV (pc := 35) (v := -2) dX2_readBarePart_35 fX2_43 rfl rfl (h.2.1.1.trans ((tokI_m2 bd.1 bd.2.1).mpr hC)) k_) ?_
              refine qU (fun T_ k_ => r_bipush (pc := 38) dX2_readBarePart_38 bp_m2 k_) ?_
              refine qP (fun T_ => r_icmp_eq (pc := 40) (tgt := 50) dX2_readBarePart_40 (by decide)) (fun c3 => ?_) (fun c3 => ?_)
              · refine qU (fun T_ k_ => r_aload_n (pc := 50) dX2_readBarePart_50 rfl k_) ?_
                have P15 := h.counted hc
                refine qU (fun T_ k_ => r_callV (pc := 51) (N := mX2_countNode) (rest := []) (s_countNode_t X _ I L (c) h.2.2.1 hc) okX2_countNode lkX2_100 rfl (by decide) rfl rfl rfl (Nat.le_of_ble_eq_true rfl) ⟨Nat.le_refl _, Nat.le_refl _⟩ dX2_readBarePart_51 k_) ?_
                refine qN (fun T_ => r_ifN_ne (pc := 54) (tgt := 59) dX2_readBarePart_54 (by decide) (by omega)) (fun c4 => ?_) (fun c4 => ?_)
                · refine qU (fun T_ k_ => r_aload_n (pc := 59) dX2_readBarePart_59 rfl k_) ?_
                  refine qU (fun T_ k_ => r_getV (pc := 60) (v := -2) dX2_readBarePart_60 fX2_43 rfl rfl (h.2.1.1.trans ((tokI_m2 bd.1 bd.2.1).mpr hC)) k_) ?_
                  refine qU (fun T_ k_ => r_bipush (pc := 63) dX2_readBarePart_63 bp_m2 k_) ?_
                  refine qN (fun T_ => r_icmp_ne (pc := 65) (tgt := 82) dX2_readBarePart_65 (by decide)) (fun c5 => ?_) (fun c5 => ?_)
                  · exact absurd rfl c5
                  · refine qU (fun T_ k_ => r_aload_n (pc := 68) dX2_readBarePart_68 rfl k_) ?_
                    refine qU (fun T_ k_ => r_getR (pc := 69) (b := 15) dX2_readBarePart_69 fX2_21 rfl rfl k_) ?_
                    refine qU (fun T_ k_ => r_aload_n (pc := 72) dX2_readBarePart_72 rfl k_) ?_
                    refine qU (fun T_ k_ => r_getV (pc := 73) (v := nI (tkV tx n (t))) dX2_readBarePart_73 fX2_73 rfl rfl (h.2.1.2.2.2 hC) k_) ?_
                    have P16 : PS (addN (u2 I 11 8 (nI (c + 1))) (b0 + l.length) (nI 0) (nI (tkV tx n (t))) (nI 0) (nI 1) (nI 0)) tx n F rt sg ng b0 t (c + 1) (l ++ [((0, tkV tx n t, 0, 0) : Q4)]) := P15.made ((0, tkV tx n t, 0, 0) : Q4) (Nat.lt_succ_of_le hlc) (Or.inl rfl) rfl rfl rfl
                    have G16 : GR (addN (u2 I 11 8 (nI (c + 1))) (b0 + l.length) (nI 0) (nI (tkV tx n (t))) (nI 0) (nI 1) (nI 0)) sg ng b0 c l l.length (c + 1) (l ++ [((0, tkV tx n t, 0, 0) : Q4)]) := GR.leaf ((0, tkV tx n t, 0, 0) : Q4) (show nI 1 = nI 1 + nI 0 from by decide) rfl
                    refine qU (fun T_ k_ => r_callV (pc := 76) (N := mX4_addNumber) (rest := []) (s_addNumber X _ (u2 I 11 8 (nI (c + 1))) L (b0 + l.length) (nI (tkV tx n (t))) P15.2.2.2.2.2.1 (by omega)) okX4_addNumber lkX2_125 rfl (by decide) rfl rfl rfl (Nat.le_of_ble_eq_true rfl) ⟨Nat.le_refl _, Nat.le_refl _⟩ dX2_readBarePart_76 k_) ?_
                    refine qU (fun T_ k_ => r_goto (pc := 79) (tgt := 90) dX2_readBarePart_79 (by decide) k_) ?_
                    refine qU (fun T_ k_ => r_istore_n (pc := 90) (lo1 := [.ref 11, .int (nI dp), .int ((-2) - nI 97), .int (nI (b0 + l.length))]) dX2_readBarePart_90 rfl (by decide) rfl k_) ?_
                    refine qU (fun T_ k_ => r_aload_n (pc := 91) dX2_readBarePart_91 rfl k_) ?_
                    obtain ⟨T17, ⟨J17, rfl, F17, C17⟩, S17⟩ := s_pass X (d + 1) (addN (u2 I 11 8 (nI (c + 1))) (b0 + l.length) (nI 0) (nI (tkV tx n (t))) (nI 0) (nI 1) (nI 0)) L tx n (t + 1) P16.1 P16.2.1.2.2.1
                    have P17 := P16.passed F17 C17
                    refine qU (fun T_ k_ => r_callV (pc := 92) (N := mX2_pass) (rest := []) (S17) okX2_pass lkX2_40 rfl (by decide) rfl rfl rfl (Nat.le_of_ble_eq_true rfl) ⟨Nat.le_refl _, Nat.le_refl _⟩ dX2_readBarePart_92 k_) ?_
                    refine qU (fun T_ k_ => r_iload_n (pc := 95) dX2_readBarePart_95 rfl k_) ?_
                    exact ⟨_, ⟨_, rfl, (((FRr.refl I (b0 + l.length)).nodes _).addN (Nat.le_refl _)).trans (FRr.ofp F17) (Nat.le_refl _), P17, G16.fr F17⟩, r_iret dX2_readBarePart_96 rfl rfl rfl⟩
                · exact absurd c4 (by decide)
              · exact absurd rfl c3
            · exact absurd c2 (by decide)
          · exact absurd c1 (by decide)
      · rw [if_neg hC]
        by_cases hD : tkK tx n t = 1 ∧ 97 ≤ tkV tx n t ∧ tkV tx n t ≤ 102
        · rw [if_pos hD]
          have hD2 := hD.2
          by_cases hc : 20 ≤ c
          · rw [if_pos hc]
            refine qU (fun T_ k_ => r_aload_n (pc := 0) dX2_readBarePart_0 rfl k_) ?_
            refine qU (fun T_ k_ => r_getV (pc := 1) (v := nI (tkV tx n t)) dX2_readBarePart_1 fX2_43 rfl rfl (h.2.1.1.trans ((tokI_ch bd.1 bd.2.1 (by omega)).mpr ⟨hD.1, rfl⟩)) k_) ?_
            refine qU (fun T_ k_ => r_bipush (pc := 4) dX2_readBarePart_4 bp_40 k_) ?_
            refine qN (fun T_ => r_icmpN_ne (pc := 6) (tgt := 15) dX2_readBarePart_6 (by decide) (by omega) (by omega)) (fun c1 => ?_) (fun c1 => ?_)
            · refine qU (fun T_ k_ => r_aload_n (pc := 15) dX2_readBarePart_15 rfl k_) ?_
              refine qU (fun T_ k_ => r_getV (pc := 16) (v := nI (tkV tx n t)) dX2_readBarePart_16 fX2_43 rfl rfl (h.2.1.1.trans ((tokI_ch bd.1 bd.2.1 (by omega)).mpr ⟨hD.1, rfl⟩)) k_) ?_
              refine qU (fun T_ k_ => r_bipush (pc := 19) dX2_readBarePart_19 bp_64 k_) ?_
              refine qN (fun T_ => r_icmpN_ne (pc := 21) (tgt := 29) dX2_readBarePart_21 (by decide) (by omega) (by omega)) (fun c2 => ?_) (fun c2 => ?_)
              · refine qU (fun T_ k_ => r_aload_n (pc := 29) dX2_readBarePart_29 rfl k_) ?_
                refine qU (fun T_ k_ => r_callV (pc := 30) (N := mX2_sourceAtHand) (rest := []) (s_sourceAtHand_t X _ I L (tkV tx n t) (h.2.1.1.trans ((tokI_ch bd.1 bd.2.1 (by omega)).mpr ⟨hD.1, rfl⟩)) (by omega)) okX2_sourceAtHand lkX2_62 rfl (by decide) rfl rfl rfl (Nat.le_of_ble_eq_true rfl) ⟨Nat.le_refl _, Nat.le_refl _⟩ dX2_readBarePart_30 k_) ?_
                refine qU (fun T_ k_ => r_istore_n (pc := 33) (lo1 := [.ref 11, .int (nI dp), .int (nI (tkV tx n t - 97)), .null]) dX2_readBarePart_33 rfl (by decide) rfl k_) ?_
                refine qU (fun T_ k_ => r_aload_n (pc := 34) dX2_readBarePart_34 rfl k_) ?_
                refine qU (fun T_ k_ => r_getV (pc := 35) (v := nI (tkV tx n t)) dX2_readBarePart_35 fX2_43 rfl rfl (h.2.1.1.trans ((tokI_ch bd.1 bd.2.1 (by omega)).mpr ⟨hD.1, rfl⟩)) k_) ?_
                refine qU (fun T_ k_ => r_bipush (pc := 38) dX2_readBarePart_38 bp_m2 k_) ?_
                refine qP (fun T_ => r_icmp_eq (pc := 40) (tgt := 50) dX2_readBarePart_40 (by decide)) (fun c3 => ?_) (fun c3 => ?_)
                · exact absurd c3 (nI_nm2 (by omega))
                · refine qU (fun T_ k_ => r_iload_n (pc := 43) dX2_readBarePart_43 rfl k_) ?_
                  refine qU (fun T_ k_ => r_callSN (pc := 44) (N := mX5_isSource) (rest := []) (s_isSource_t X _ I L (tkV tx n t - 97) (by omega)) okX5_isSource lkX2_66 rfl rfl (Nat.le_of_ble_eq_true rfl) ⟨Nat.le_refl _, Nat.le_refl _⟩ dX2_readBarePart_44 k_) ?_
                  refine qP (fun T_ => r_ifN_eq (pc := 47) (tgt := 57) dX2_readBarePart_47 (by decide) (by omega)) (fun c4 => ?_) (fun c4 => ?_)
                  · exact absurd c4 (by decide)
                  · refine qU (fun T_ k_ => r_aload_n (pc := 50) dX2_readBarePart_50 rfl k_) ?_
                    refine qU (fun T_ k_ => r_callV (pc := 51) (N := mX2_countNode) (rest := []) (s_countNode_f X _ I L (c) h.2.2.1 hc h.2.2.2.1) okX2_countNode lkX2_100 rfl (by decide) rfl rfl rfl (Nat.le_of_ble_eq_true rfl) ⟨Nat.le_refl _, Nat.le_refl _⟩ dX2_readBarePart_51 k_) ?_
                    refine qN (fun T_ => r_ifN_ne (pc := 54) (tgt := 59) dX2_readBarePart_54 (by decide) (by omega)) (fun c5 => ?_) (fun c5 => ?_)
                    · exact absurd c5 (by decide)
                    · refine qU (fun T_ k_ => r_iconst (pc := 57) (v := -1) dX2_readBarePart_57 rfl k_) ?_
                      exact ⟨_, ⟨_, rfl, FRr.refl I (b0 + l.length), h.2.1⟩, r_iret dX2_readBarePart_58 rfl rfl rfl⟩
              · exact absurd c2 (by omega)
            · exact absurd c1 (by omega)
          · rw [if_neg hc]
            refine qU (fun T_ k_ => r_aload_n (pc := 0) dX2_readBarePart_0 rfl k_) ?_
            refine qU (fun T_ k_ => r_getV (pc := 1) (v := nI (tkV tx n t)) dX2_readBarePart_1 fX2_43 rfl rfl (h.2.1.1.trans ((tokI_ch bd.1 bd.2.1 (by omega)).mpr ⟨hD.1, rfl⟩)) k_) ?_
            refine qU (fun T_ k_ => r_bipush (pc := 4) dX2_readBarePart_4 bp_40 k_) ?_
            refine qN (fun T_ => r_icmpN_ne (pc := 6) (tgt := 15) dX2_readBarePart_6 (by decide) (by omega) (by omega)) (fun c1 => ?_) (fun c1 => ?_)
            · refine qU (fun T_ k_ => r_aload_n (pc := 15) dX2_readBarePart_15 rfl k_) ?_
              refine qU (fun T_ k_ => r_getV (pc := 16) (v := nI (tkV tx n t)) dX2_readBarePart_16 fX2_43 rfl rfl (h.2.1.1.trans ((tokI_ch bd.1 bd.2.1 (by omega)).mpr ⟨hD.1, rfl⟩)) k_) ?_
              refine qU (fun T_ k_ => r_bipush (pc := 19) dX2_readBarePart_19 bp_64 k_) ?_
              refine qN (fun T_ => r_icmpN_ne (pc := 21) (tgt := 29) dX2_readBarePart_21 (by decide) (by omega) (by omega)) (fun c2 => ?_) (fun c2 => ?_)
              · refine qU (fun T_ k_ => r_aload_n (pc := 29) dX2_readBarePart_29 rfl k_) ?_
                refine qU (fun T_ k_ => r_callV (pc := 30) (N := mX2_sourceAtHand) (rest := []) (s_sourceAtHand_t X _ I L (tkV tx n t) (h.2.1.1.trans ((tokI_ch bd.1 bd.2.1 (by omega)).mpr ⟨hD.1, rfl⟩)) (by omega)) okX2_sourceAtHand lkX2_62 rfl (by decide) rfl rfl rfl (Nat.le_of_ble_eq_true rfl) ⟨Nat.le_refl _, Nat.le_refl _⟩ dX2_readBarePart_30 k_) ?_
                refine qU (fun T_ k_ => r_istore_n (pc := 33) (lo1 := [.ref 11, .int (nI dp), .int (nI (tkV tx n t - 97)), .null]) dX2_readBarePart_33 rfl (by decide) rfl k_) ?_
                refine qU (fun T_ k_ => r_aload_n (pc := 34) dX2_readBarePart_34 rfl k_) ?_
                refine qU (fun T_ k_ => r_getV (pc := 35) (v := nI (tkV tx n t)) dX2_readBarePart_35 fX2_43 rfl rfl (h.2.1.1.trans ((tokI_ch bd.1 bd.2.1 (by omega)).mpr ⟨hD.1, rfl⟩)) k_) ?_
                refine qU (fun T_ k_ => r_bipush (pc := 38) dX2_readBarePart_38 bp_m2 k_) ?_
                refine qP (fun T_ => r_icmp_eq (pc := 40) (tgt := 50) dX2_readBarePart_40 (by decide)) (fun c3 => ?_) (fun c3 => ?_)
                · exact absurd c3 (nI_nm2 (by omega))
                · refine qU (fun T_ k_ => r_iload_n (pc := 43) dX2_readBarePart_43 rfl k_) ?_
                  refine qU (fun T_ k_ => r_callSN (pc := 44) (N := mX5_isSource) (rest := []) (s_isSource_t X _ I L (tkV tx n t - 97) (by omega)) okX5_isSource lkX2_66 rfl rfl (Nat.le_of_ble_eq_true rfl) ⟨Nat.le_refl _, Nat.le_refl _⟩ dX2_readBarePart_44 k_) ?_
                  refine qP (fun T_ => r_ifN_eq (pc := 47) (tgt := 57) dX2_readBarePart_47 (by decide) (by omega)) (fun c4 => ?_) (fun c4 => ?_)
                  · exact absurd c4 (by decide)
                  · refine qU (fun T_ k_ => r_aload_n (pc := 50) dX2_readBarePart_50 rfl k_) ?_
                    have P18 := h.counted hc
                    refine qU (fun T_ k_ => r_callV (pc := 51) (N := mX2_countNode) (rest := []) (s_countNode_t X _ I L (c) h.2.2.1 hc) okX2_countNode lkX2_100 rfl (by decide) rfl rfl rfl (Nat.le_of_ble_eq_true rfl) ⟨Nat.le_refl _, Nat.le_refl _⟩ dX2_readBarePart_51 k_) ?_
                    refine qN (fun T_ => r_ifN_ne (pc := 54) (tgt := 59) dX2_readBarePart_54 (by decide) (by omega)) (fun c5 => ?_) (fun c5 => ?_)
                    · refine qU (fun T_ k_ => r_aload_n (pc := 59) dX2_readBarePart_59 rfl k_) ?_
                      refine qU (fun T_ k_ => r_getV (pc := 60) (v := nI (tkV tx n t)) dX2_readBarePart_60 fX2_43 rfl rfl (h.2.1.1.trans ((tokI_ch bd.1 bd.2.1 (by omega)).mpr ⟨hD.1, rfl⟩)) k_) ?_
                      refine qU (fun T_ k_ => r_bipush (pc := 63) dX2_readBarePart_63 bp_m2 k_) ?_
                      refine qN (fun T_ => r_icmp_ne (pc := 65) (tgt := 82) dX2_readBarePart_65 (by decide)) (fun c6 => ?_) (fun c6 => ?_)
                      · refine qU (fun T_ k_ => r_aload_n (pc := 82) dX2_readBarePart_82 rfl k_) ?_
                        refine qU (fun T_ k_ => r_getR (pc := 83) (b := 15) dX2_readBarePart_83 fX2_21 rfl rfl k_) ?_
                        refine qU (fun T_ k_ => r_iload_n (pc := 86) dX2_readBarePart_86 rfl k_) ?_
                        have P19 : PS (addN (u2 I 11 8 (nI (c + 1))) (b0 + l.length) (nI 1) (nI (tkV tx n t - 97)) (nI 0) (nI 1) (nI 1 <<< (nI (tkV tx n t - 97) &&& 31))) tx n F rt sg ng b0 t (c + 1) (l ++ [((1, tkV tx n t - 97, 0, 0) : Q4)]) := P18.made ((1, tkV tx n t - 97, 0, 0) : Q4) (Nat.lt_succ_of_le hlc) (Or.inr (Or.inl ⟨rfl, by show tkV tx n t - 97 < 6; omega⟩)) rfl rfl rfl
                        have G19 : GR (addN (u2 I 11 8 (nI (c + 1))) (b0 + l.length) (nI 1) (nI (tkV tx n t - 97)) (nI 0) (nI 1) (nI 1 <<< (nI (tkV tx n t - 97) &&& 31))) sg ng b0 c l l.length (c + 1) (l ++ [((1, tkV tx n t - 97, 0, 0) : Q4)]) := GR.leaf ((1, tkV tx n t - 97, 0, 0) : Q4) (show nI 1 = nI 1 + nI 0 from by decide) rfl
                        refine qU (fun T_ k_ => r_callV (pc := 87) (N := mX4_addSource) (rest := []) (s_addSource X _ (u2 I 11 8 (nI (c + 1))) L (b0 + l.length) (nI (tkV tx n t - 97)) P18.2.2.2.2.2.1 (by omega)) okX4_addSource lkX2_128 rfl (by decide) rfl rfl rfl (Nat.le_of_ble_eq_true rfl) ⟨Nat.le_refl _, Nat.le_refl _⟩ dX2_readBarePart_87 k_) ?_
                        refine qU (fun T_ k_ => r_istore_n (pc := 90) (lo1 := [.ref 11, .int (nI dp), .int (nI (tkV tx n t - 97)), .int (nI (b0 + l.length))]) dX2_readBarePart_90 rfl (by decide) rfl k_) ?_
                        refine qU (fun T_ k_ => r_aload_n (pc := 91) dX2_readBarePart_91 rfl k_) ?_
                        obtain ⟨T20, ⟨J20, rfl, F20, C20⟩, S20⟩ := s_pass X (d + 1) (addN (u2 I 11 8 (nI (c + 1))) (b0 + l.length) (nI 1) (nI (tkV tx n t - 97)) (nI 0) (nI 1) (nI 1 <<< (nI (tkV tx n t - 97) &&& 31))) L tx n (t + 1) P19.1 P19.2.1.2.2.1
                        have P20 := P19.passed F20 C20
                        refine qU (fun T_ k_ => r_callV (pc := 92) (N := mX2_pass) (rest := []) (S20) okX2_pass lkX2_40 rfl (by decide) rfl rfl rfl (Nat.le_of_ble_eq_true rfl) ⟨Nat.le_refl _, Nat.le_refl _⟩ dX2_readBarePart_92 k_) ?_
                        refine qU (fun T_ k_ => r_iload_n (pc := 95) dX2_readBarePart_95 rfl k_) ?_
                        exact ⟨_, ⟨_, rfl, (((FRr.refl I (b0 + l.length)).nodes _).addN (Nat.le_refl _)).trans (FRr.ofp F20) (Nat.le_refl _), P20, G19.fr F20⟩, r_iret dX2_readBarePart_96 rfl rfl rfl⟩
                      · exact absurd c6 (nI_nm2 (by omega))
                    · exact absurd c5 (by decide)
              · exact absurd c2 (by omega)
            · exact absurd c1 (by omega)
        · rw [if_neg hD]
          refine qU (fun T_ k_ => r_aload_n (pc := 0) dX2_readBarePart_0 rfl k_) ?_
          refine qU (fun T_ k_ => r_getV (pc := 1) (v := tokI (tkK tx n (t)) (tkV tx n (t))) dX2_readBarePart_1 fX2_43 rfl rfl (h.2.1.1) k_) ?_
          refine qU (fun T_ k_ => r_bipush (pc := 4) dX2_readBarePart_4 bp_40 k_) ?_
          refine qN (fun T_ => r_icmp_ne (pc := 6) (tgt := 15) dX2_readBarePart_6 (by decide)) (fun c1 => ?_) (fun c1 => ?_)
          · refine qU (fun T_ k_ => r_aload_n (pc := 15) dX2_readBarePart_15 rfl k_) ?_
            refine qU (fun T_ k_ => r_getV (pc := 16) (v := tokI (tkK tx n (t)) (tkV tx n (t))) dX2_readBarePart_16 fX2_43 rfl rfl (h.2.1.1) k_) ?_
            refine qU (fun T_ k_ => r_bipush (pc := 19) dX2_readBarePart_19 bp_64 k_) ?_
            refine qN (fun T_ => r_icmp_ne (pc := 21) (tgt := 29) dX2_readBarePart_21 (by decide)) (fun c2 => ?_) (fun c2 => ?_)
            · refine qU (fun T_ k_ => r_aload_n (pc := 29) dX2_readBarePart_29 rfl k_) ?_
              refine qU (fun T_ k_ => r_callV (pc := 30) (N := mX2_sourceAtHand) (rest := []) (s_sourceAtHand X _ I L (tokI (tkK tx n (t)) (tkV tx n (t))) (h.2.1.1)) okX2_sourceAtHand lkX2_62 rfl (by decide) rfl rfl rfl (Nat.le_of_ble_eq_true rfl) ⟨Nat.le_refl _, Nat.le_refl _⟩ dX2_readBarePart_30 k_) ?_
              refine qU (fun T_ k_ => r_istore_n (pc := 33) (lo1 := [.ref 11, .int (nI dp), .int ((tokI (tkK tx n (t)) (tkV tx n (t))) - nI 97), .null]) dX2_readBarePart_33 rfl (by decide) rfl k_) ?_
              refine qU (fun T_ k_ => r_aload_n (pc := 34) dX2_readBarePart_34 rfl k_) ?_
              refine qU (fun T_ k_ => r_getV (pc := 35) (v := tokI (tkK tx n (t)) (tkV tx n (t))) dX2_readBarePart_35 fX2_43 rfl rfl (h.2.1.1) k_) ?_
              refine qU (fun T_ k_ => r_bipush (pc := 38) dX2_readBarePart_38 bp_m2 k_) ?_
              refine qP (fun T_ => r_icmp_eq (pc := 40) (tgt := 50) dX2_readBarePart_40 (by decide)) (fun c3 => ?_) (fun c3 => ?_)
              · exact absurd ((tokI_m2 bd.1 bd.2.1).mp c3) hC
              · refine qU (fun T_ k_ => r_iload_n (pc := 43) dX2_readBarePart_43 rfl k_) ?_
                refine qU (fun T_ k_ => r_callSN (pc := 44) (N := mX5_isSource) (rest := []) (s_isSource_f X _ I L ((tokI (tkK tx n (t)) (tkV tx n (t))) - nI 97) (not_src bd.1 bd.2.1 hD)) okX5_isSource lkX2_66 rfl rfl (Nat.le_of_ble_eq_true rfl) ⟨Nat.le_refl _, Nat.le_refl _⟩ dX2_readBarePart_44 k_) ?_
                refine qP (fun T_ => r_ifN_eq (pc := 47) (tgt := 57) dX2_readBarePart_47 (by decide) (by omega)) (fun c4 => ?_) (fun c4 => ?_)
                · refine qU (fun T_ k_ => r_iconst (pc := 57) (v := -1) dX2_readBarePart_57 rfl k_) ?_
                  exact ⟨_, ⟨_, rfl, FRr.refl I (b0 + l.length), h.2.1⟩, r_iret dX2_readBarePart_58 rfl rfl rfl⟩
                · exact absurd c4 (by decide)
            · exact absurd ((tokI_ch bd.1 bd.2.1 (by decide)).mp c2) hB
          · exact absurd ((tokI_ch bd.1 bd.2.1 (by decide)).mp c1) hA
