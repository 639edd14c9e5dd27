theorem s_readSource (X : Ctx) (d : Nat) (I : MI) (L : ML) (tx : Nat → Nat) (n t : Nat) (h : PQ I tx n t) (D : Nat → Int32) (g : FG I 13 14 D) : ∃ T, QI I L tx n (rdSrc (tkK tx n) (tkV tx n) (t + 1) D) T ∧ Sp X mX2_readSource (d + 4) (0, 0) [.ref 11] shF I L T := by
  refine qU (fun T_ k_ => Sp.of okX2_readSource [.ref 11, .null, .null] 2 rfl (Nat.le_of_ble_eq_true rfl) k_) ?_
  unfold rdSrc
  by_cases hS : isSo (tkK tx n) (tkV tx n) (t + 1)
  · rw [if_pos hS]
    have hS3 := hS.2
    by_cases hU : tkK tx n (sgT (tkK tx n) (tkV tx n) (t + 1 + 1)) = 2
    · rw [if_pos hU]
      by_cases hW : tkK tx n (sgT (tkK tx n) (tkV tx n) (t + 1 + 1) + 1) = 2
      · rw [if_pos hW]
        refine qU (fun T_ k_ => r_aload_n (pc := 0) dX2_readSource_0 rfl k_) ?_
        obtain ⟨T47, ⟨J47, rfl, F47, C47⟩, S47⟩ := s_pass X (d + 1) I L tx n (t + 1) h.1 h.2.2.2.1
        have P47 := h.pass F47 C47
        have G47 := g.fr (F47.c (by decide)) (F47.c (by decide))
        refine qU (fun T_ k_ => r_callV (pc := 1) (N := mX2_pass) (rest := []) (S47) okX2_pass lkX2_40 rfl (by decide) rfl rfl rfl (Nat.le_of_ble_eq_true rfl) ⟨Nat.le_refl _, Nat.le_refl _⟩ dX2_readSource_1 k_) ?_
        refine qU (fun T_ k_ => r_aload_n (pc := 4) dX2_readSource_4 rfl k_) ?_
        refine qU (fun T_ k_ => r_callV (pc := 5) (N := mX2_sourceAtHand) (rest := []) (s_sourceAtHand_t X _ J47 L (tkV tx n (t + 1)) ((P47.2.1.trans ((tokI_ch (tk_bd P47.1 (t + 1)).1 (tk_bd P47.1 (t + 1)).2.1 (by omega)).mpr ⟨hS.1, rfl⟩))) (by omega)) okX2_sourceAtHand lkX2_62 rfl (by decide) rfl rfl rfl (Nat.le_of_ble_eq_true rfl) ⟨Nat.le_refl _, Nat.le_refl _⟩ dX2_readSource_5 k_) ?_
        refine qU (fun T_ k_ => r_istore_n (pc := 8) (lo1 := [.ref 11, .int (nI (tkV tx n (t + 1) - 97)), .null]) dX2_readSource_8 rfl (by decide) rfl k_) ?_
        refine qU (fun T_ k_ => r_iload_n (pc := 9) dX2_readSource_9 rfl k_) ?_
        refine qU (fun T_ k_ => r_callSN (pc := 10) (N := mX5_isSource) (rest := []) (s_isSource_t X _ J47 L (tkV tx n (t + 1) - 97) (by omega)) okX5_isSource lkX2_66 rfl rfl (Nat.le_of_ble_eq_true rfl) ⟨Nat.le_refl _, Nat.le_refl _⟩ dX2_readSource_10 k_) ?_
        refine qN (fun T_ => r_ifN_ne (pc := 13) (tgt := 18) dX2_readSource_13 (by decide) (by omega)) (fun c1 => ?_) (fun c1 => ?_)
        · refine qU (fun T_ k_ => r_aload_n (pc := 18) dX2_readSource_18 rfl k_) ?_
          obtain ⟨T48, ⟨J48, rfl, F48, C48⟩, S48⟩ := s_pass X (d + 1) J47 L tx n (t + 1 + 1) P47.1 P47.2.2.2.1
          have P48 := P47.pass F48 C48
          have G48 := G47.fr (F48.c (by decide)) (F48.c (by decide))
          refine qU (fun T_ k_ => r_callV (pc := 19) (N := mX2_pass) (rest := []) (S48) okX2_pass lkX2_40 rfl (by decide) rfl rfl rfl (Nat.le_of_ble_eq_true rfl) ⟨Nat.le_refl _, Nat.le_refl _⟩ dX2_readSource_19 k_) ?_
          refine qU (fun T_ k_ => r_aload_n (pc := 22) dX2_readSource_22 rfl k_) ?_
          obtain ⟨T49, ⟨J49, rfl, F49, C49⟩, S49⟩ := s_passSign X d J48 L tx n (t + 1 + 1) P48
          have P49 := P48.pass F49 C49
          have G49 := G48.fr (F49.c (by decide)) (F49.c (by decide))
          refine qU (fun T_ k_ => r_callV (pc := 23) (N := mX2_passSign) (rest := []) (S49) okX2_passSign lkX2_70 rfl (by decide) rfl rfl rfl (Nat.le_of_ble_eq_true rfl) ⟨Nat.le_refl _, Nat.le_refl _⟩ dX2_readSource_23 k_) ?_
          refine qU (fun T_ k_ => r_istore_n (pc := 26) (lo1 := [.ref 11, .int (nI (tkV tx n (t + 1) - 97)), .int (sgO (tkK tx n) (tkV tx n) (t + 1 + 1))]) dX2_readSource_26 rfl (by decide) rfl k_) ?_
          refine qU (fun T_ k_ => r_aload_n (pc := 27) dX2_readSource_27 rfl k_) ?_
          refine qU (fun T_ k_ => r_getV (pc := 28) (v := -2) dX2_readSource_28 fX2_43 rfl rfl ((P49.2.1.trans ((tokI_m2 (tk_bd P49.1 (sgT (tkK tx n) (tkV tx n) (t + 1 + 1))).1 (tk_bd P49.1 (sgT (tkK tx n) (tkV tx n) (t + 1 + 1))).2.1).mpr hU))) k_) ?_
          refine qU (fun T_ k_ => r_bipush (pc := 31) dX2_readSource_31 bp_m2 k_) ?_
          refine qP (fun T_ => r_icmp_eq (pc := 33) (tgt := 38) dX2_readSource_33 (by decide)) (fun c2 => ?_) (fun c2 => ?_)
          · refine qU (fun T_ k_ => r_aload_n (pc := 38) dX2_readSource_38 rfl k_) ?_
            refine qU (fun T_ k_ => r_getR (pc := 39) (b := 12) dX2_readSource_39 fX2_12 rfl rfl k_) ?_
            refine qU (fun T_ k_ => r_iload_n (pc := 42) dX2_readSource_42 rfl k_) ?_
            refine qU (fun T_ k_ => r_iload_n (pc := 43) dX2_readSource_43 rfl k_) ?_
            refine qU (fun T_ k_ => r_aload_n (pc := 44) dX2_readSource_44 rfl k_) ?_
            refine qU (fun T_ k_ => r_getV (pc := 45) (v := nI (tkV tx n (sgT (tkK tx n) (tkV tx n) (t + 1 + 1)))) dX2_readSource_45 fX2_73 rfl rfl ((P49.2.2.2.2 hU)) k_) ?_
            refine qU (fun T_ k_ => r_imul (pc := 48) dX2_readSource_48 k_) ?_
            have P50 : PQ (u2 J49 13 (tkV tx n (t + 1) - 97) ((sgO (tkK tx n) (tkV tx n) (t + 1 + 1)) * (nI (tkV tx n (sgT (tkK tx n) (tkV tx n) (t + 1 + 1)))))) tx n (sgT (tkK tx n) (tkV tx n) (t + 1 + 1)) := P49.fr (u2_off (by decide)) (u2_off (by decide))
            have G50 := G49.worth (by decide) (x := (tkV tx n (t + 1) - 97)) (by omega) ((sgO (tkK tx n) (tkV tx n) (t + 1 + 1)) * (nI (tkV tx n (sgT (tkK tx n) (tkV tx n) (t + 1 + 1)))))
            refine qU (fun T_ k_ => r_callV (pc := 49) (N := mX0_setWorth) (rest := []) (s_setWorth_12 X _ J49 L (tkV tx n (t + 1) - 97) ((sgO (tkK tx n) (tkV tx n) (t + 1 + 1)) * (nI (tkV tx n (sgT (tkK tx n) (tkV tx n) (t + 1 + 1))))) (by omega)) okX0_setWorth lkX2_76 rfl (by decide) rfl rfl rfl (Nat.le_of_ble_eq_true rfl) ⟨Nat.le_refl _, Nat.le_refl _⟩ dX2_readSource_49 k_) ?_
            refine qU (fun T_ k_ => r_aload_n (pc := 52) dX2_readSource_52 rfl k_) ?_
            obtain ⟨T51, ⟨J51, rfl, F51, C51⟩, S51⟩ := s_pass X (d + 1) (u2 J49 13 (tkV tx n (t + 1) - 97) ((sgO (tkK tx n) (tkV tx n) (t + 1 + 1)) * (nI (tkV tx n (sgT (tkK tx n) (tkV tx n) (t + 1 + 1)))))) L tx n (sgT (tkK tx n) (tkV tx n) (t + 1 + 1) + 1) P50.1 P50.2.2.2.1
            have P51 := P50.pass F51 C51
            have G51 := G50.fr (F51.c (by decide)) (F51.c (by decide))
            refine qU (fun T_ k_ => r_callV (pc := 53) (N := mX2_pass) (rest := []) (S51) okX2_pass lkX2_40 rfl (by decide) rfl rfl rfl (Nat.le_of_ble_eq_true rfl) ⟨Nat.le_refl _, Nat.le_refl _⟩ dX2_readSource_53 k_) ?_
            refine qU (fun T_ k_ => r_aload_n (pc := 56) dX2_readSource_56 rfl k_) ?_
            refine qU (fun T_ k_ => r_getV (pc := 57) (v := -2) dX2_readSource_57 fX2_43 rfl rfl ((P51.2.1.trans ((tokI_m2 (tk_bd P51.1 (sgT (tkK tx n) (tkV tx n) (t + 1 + 1) + 1)).1 (tk_bd P51.1 (sgT (tkK tx n) (tkV tx n) (t + 1 + 1) + 1)).2.1).mpr hW))) k_) ?_
            refine qU (fun T_ k_ => r_bipush (pc := 60) dX2_readSource_60 bp_m2 k_) ?_
            refine qP (fun T_ => r_icmp_eq (pc := 62) (tgt := 67) dX2_readSource_62 (by decide)) (fun c3 => ?_) (fun c3 => ?_)
            · refine qU (fun T_ k_ => r_aload_n (pc := 67) dX2_readSource_67 rfl k_) ?_
              refine qU (fun T_ k_ => r_getR (pc := 68) (b := 12) dX2_readSource_68 fX2_12 rfl rfl k_) ?_
              refine qU (fun T_ k_ => r_iload_n (pc := 71) dX2_readSource_71 rfl k_) ?_
              refine qU (fun T_ k_ => r_iload_n (pc := 72) dX2_readSource_72 rfl k_) ?_
              refine qU (fun T_ k_ => r_aload_n (pc := 73) dX2_readSource_73 rfl k_) ?_
              refine qU (fun T_ k_ => r_getV (pc := 74) (v := nI (tkV tx n (sgT (tkK tx n) (tkV tx n) (t + 1 + 1) + 1))) dX2_readSource_74 fX2_73 rfl rfl ((P51.2.2.2.2 hW)) k_) ?_
              have P52 : PQ (u2 (u2 J51 14 ((tkV tx n (t + 1) - 97) * 6 + (tkV tx n (t + 1) - 97)) (nI (tkV tx n (sgT (tkK tx n) (tkV tx n) (t + 1 + 1) + 1)))) 14 ((tkV tx n (t + 1) - 97) * 6 + (tkV tx n (t + 1) - 97)) (nI (tkV tx n (sgT (tkK tx n) (tkV tx n) (t + 1 + 1) + 1)))) tx n (sgT (tkK tx n) (tkV tx n) (t + 1 + 1) + 1) := P51.fr ((u2_off (by decide)).trans (u2_off (by decide))) ((u2_off (by decide)).trans (u2_off (by decide)))
              have G52 := G51.own (by decide) (x := (tkV tx n (t + 1) - 97)) (by omega) (nI (tkV tx n (sgT (tkK tx n) (tkV tx n) (t + 1 + 1) + 1)))
              refine qU (fun T_ k_ => r_callV (pc := 77) (N := mX0_setSpread) (rest := []) (s_setSpread_12 X _ J51 L (tkV tx n (t + 1) - 97) (tkV tx n (t + 1) - 97) (nI (tkV tx n (sgT (tkK tx n) (tkV tx n) (t + 1 + 1) + 1))) (by omega) (by omega)) okX0_setSpread lkX2_80 rfl (by decide) rfl rfl rfl (Nat.le_of_ble_eq_true rfl) ⟨Nat.le_refl _, Nat.le_refl _⟩ dX2_readSource_77 k_) ?_
              refine qU (fun T_ k_ => r_aload_n (pc := 80) dX2_readSource_80 rfl k_) ?_
              obtain ⟨T53, ⟨J53, rfl, F53, C53⟩, S53⟩ := s_pass X (d + 1) (u2 (u2 J51 14 ((tkV tx n (t + 1) - 97) * 6 + (tkV tx n (t + 1) - 97)) (nI (tkV tx n (sgT (tkK tx n) (tkV tx n) (t + 1 + 1) + 1)))) 14 ((tkV tx n (t + 1) - 97) * 6 + (tkV tx n (t + 1) - 97)) (nI (tkV tx n (sgT (tkK tx n) (tkV tx n) (t + 1 + 1) + 1)))) L tx n (sgT (tkK tx n) (tkV tx n) (t + 1 + 1) + 1 + 1) P52.1 P52.2.2.2.1
              have P53 := P52.pass F53 C53
              have G53 := G52.fr (F53.c (by decide)) (F53.c (by decide))
              refine qU (fun T_ k_ => r_callV (pc := 81) (N := mX2_pass) (rest := []) (S53) okX2_pass lkX2_40 rfl (by decide) rfl rfl rfl (Nat.le_of_ble_eq_true rfl) ⟨Nat.le_refl _, Nat.le_refl _⟩ dX2_readSource_81 k_) ?_
              refine qU (fun T_ k_ => r_iconst (pc := 84) (v := nI 1) dX2_readSource_84 rfl k_) ?_
              exact ⟨_, ⟨_, rfl, ((((((((FRs.refl I).pass F47).pass F48).pass F49).u13 _ _).pass F51).u14 _ _).u14 _ _).pass F53, P53, G53⟩, r_zret dX2_readSource_85 rfl (by decide) rfl rfl⟩
            · exact absurd rfl c3
          · exact absurd rfl c2
        · exact absurd c1 (by decide)
      · rw [if_neg hW]
        refine qU (fun T_ k_ => r_aload_n (pc := 0) dX2_readSource_0 rfl k_) ?_
        obtain ⟨T54, ⟨J54, rfl, F54, C54⟩, S54⟩ := s_pass X (d + 1) I L tx n (t + 1) h.1 h.2.2.2.1
        have P54 := h.pass F54 C54
        have G54 := g.fr (F54.c (by decide)) (F54.c (by decide))
        refine qU (fun T_ k_ => r_callV (pc := 1) (N := mX2_pass) (rest := []) (S54) okX2_pass lkX2_40 rfl (by decide) rfl rfl rfl (Nat.le_of_ble_eq_true rfl) ⟨Nat.le_refl _, Nat.le_refl _⟩ dX2_readSource_1 k_) ?_
        refine qU (fun T_ k_ => r_aload_n (pc := 4) dX2_readSource_4 rfl k_) ?_
        refine qU (fun T_ k_ => r_callV (pc := 5) (N := mX2_sourceAtHand) (rest := []) (s_sourceAtHand_t X _ J54 L (tkV tx n (t + 1)) ((P54.2.1.trans ((tokI_ch (tk_bd P54.1 (t + 1)).1 (tk_bd P54.1 (t + 1)).2.1 (by omega)).mpr ⟨hS.1, rfl⟩))) (by omega)) okX2_sourceAtHand lkX2_62 rfl (by decide) rfl rfl rfl (Nat.le_of_ble_eq_true rfl) ⟨Nat.le_refl _, Nat.le_refl _⟩ dX2_readSource_5 k_) ?_
        refine qU (fun T_ k_ => r_istore_n (pc := 8) (lo1 := [.ref 11, .int (nI (tkV tx n (t + 1) - 97)), .null]) dX2_readSource_8 rfl (by decide) rfl k_) ?_
        refine qU (fun T_ k_ => r_iload_n (pc := 9) dX2_readSource_9 rfl k_) ?_
        refine qU (fun T_ k_ => r_callSN (pc := 10) (N := mX5_isSource) (rest := []) (s_isSource_t X _ J54 L (tkV tx n (t + 1) - 97) (by omega)) okX5_isSource lkX2_66 rfl rfl (Nat.le_of_ble_eq_true rfl) ⟨Nat.le_refl _, Nat.le_refl _⟩ dX2_readSource_10 k_) ?_
        refine qN (fun T_ => r_ifN_ne (pc := 13) (tgt := 18) dX2_readSource_13 (by decide) (by omega)) (fun c1 => ?_) (fun c1 => ?_)
        · refine qU (fun T_ k_ => r_aload_n (pc := 18) dX2_readSource_18 rfl k_) ?_
          obtain ⟨T55, ⟨J55, rfl, F55, C55⟩, S55⟩ := s_pass X (d + 1) J54 L tx n (t + 1 + 1) P54.1 P54.2.2.2.1
          have P55 := P54.pass F55 C55
          have G55 := G54.fr (F55.c (by decide)) (F55.c (by decide))
          refine qU (fun T_ k_ => r_callV (pc := 19) (N := mX2_pass) (rest := []) (S55) okX2_pass lkX2_40 rfl (by decide) rfl rfl rfl (Nat.le_of_ble_eq_true rfl) ⟨Nat.le_refl _, Nat.le_refl _⟩ dX2_readSource_19 k_) ?_
          refine qU (fun T_ k_ => r_aload_n (pc := 22) dX2_readSource_22 rfl k_) ?_
          obtain ⟨T56, ⟨J56, rfl, F56, C56⟩, S56⟩ := s_passSign X d J55 L tx n (t + 1 + 1) P55
          have P56 := P55.pass F56 C56
          have G56 := G55.fr (F56.c (by decide)) (F56.c (by decide))
          refine qU (fun T_ k_ => r_callV (pc := 23) (N := mX2_passSign) (rest := []) (S56) okX2_passSign lkX2_70 rfl (by decide) rfl rfl rfl (Nat.le_of_ble_eq_true rfl) ⟨Nat.le_refl _, Nat.le_refl _⟩ dX2_readSource_23 k_) ?_
          refine qU (fun T_ k_ => r_istore_n (pc := 26) (lo1 := [.ref 11, .int (nI (tkV tx n (t + 1) - 97)), .int (sgO (tkK tx n) (tkV tx n) (t + 1 + 1))]) dX2_readSource_26 rfl (by decide) rfl k_) ?_
          refine qU (fun T_ k_ => r_aload_n (pc := 27) dX2_readSource_27 rfl k_) ?_
          refine qU (fun T_ k_ => r_getV (pc := 28) (v := -2) dX2_readSource_28 fX2_43 rfl rfl ((P56.2.1.trans ((tokI_m2 (tk_bd P56.1 (sgT (tkK tx n) (tkV tx n) (t + 1 + 1))).1 (tk_bd P56.1 (sgT (tkK tx n) (tkV tx n) (t + 1 + 1))).2.1).mpr hU))) k_) ?_
          refine qU (fun T_ k_ => r_bipush (pc := 31) dX2_readSource_31 bp_m2 k_) ?_
          refine qP (fun T_ => r_icmp_eq (pc := 33) (tgt := 38) dX2_readSource_33 (by decide)) (fun c2 => ?_) (fun c2 => ?_)
          · refine qU (fun T_ k_ => r_aload_n (pc := 38) dX2_readSource_38 rfl k_) ?_
            refine qU (fun T_ k_ => r_getR (pc := 39) (b := 12) dX2_readSource_39 fX2_12 rfl rfl k_) ?_
            refine qU (fun T_ k_ => r_iload_n (pc := 42) dX2_readSource_42 rfl k_) ?_
            refine qU (fun T_ k_ => r_iload_n (pc := 43) dX2_readSource_43 rfl k_) ?_
            refine qU (fun T_ k_ => r_aload_n (pc := 44) dX2_readSource_44 rfl k_) ?_
            refine qU (fun T_ k_ => r_getV (pc := 45) (v := nI (tkV tx n (sgT (tkK tx n) (tkV tx n) (t + 1 + 1)))) dX2_readSource_45 fX2_73 rfl rfl ((P56.2.2.2.2 hU)) k_) ?_
            refine qU (fun T_ k_ => r_imul (pc := 48) dX2_readSource_48 k_) ?_
            have P57 : PQ (u2 J56 13 (tkV tx n (t + 1) - 97) ((sgO (tkK tx n) (tkV tx n) (t + 1 + 1)) * (nI (tkV tx n (sgT (tkK tx n) (tkV tx n) (t + 1 + 1)))))) tx n (sgT (tkK tx n) (tkV tx n) (t + 1 + 1)) := P56.fr (u2_off (by decide)) (u2_off (by decide))
            have G57 := G56.worth (by decide) (x := (tkV tx n (t + 1) - 97)) (by omega) ((sgO (tkK tx n) (tkV tx n) (t + 1 + 1)) * (nI (tkV tx n (sgT (tkK tx n) (tkV tx n) (t + 1 + 1)))))
            refine qU (fun T_ k_ => r_callV (pc := 49) (N := mX0_setWorth) (rest := []) (s_setWorth_12 X _ J56 L (tkV tx n (t + 1) - 97) ((sgO (tkK tx n) (tkV tx n) (t + 1 + 1)) * (nI (tkV tx n (sgT (tkK tx n) (tkV tx n) (t + 1 + 1))))) (by omega)) okX0_setWorth lkX2_76 rfl (by decide) rfl rfl rfl (Nat.le_of_ble_eq_true rfl) ⟨Nat.le_refl _, Nat.le_refl _⟩ dX2_readSource_49 k_) ?_
            refine qU (fun T_ k_ => r_aload_n (pc := 52) dX2_readSource_52 rfl k_) ?_
            obtain ⟨T58, ⟨J58, rfl, F58, C58⟩, S58⟩ := s_pass X (d + 1) (u2 J56 13 (tkV tx n (t + 1) - 97) ((sgO (tkK tx n) (tkV tx n) (t + 1 + 1)) * (nI (tkV tx n (sgT (tkK tx n) (tkV tx n) (t + 1 + 1)))))) L tx n (sgT (tkK tx n) (tkV tx n) (t + 1 + 1) + 1) P57.1 P57.2.2.2.1
            have P58 := P57.pass F58 C58
            have G58 := G57.fr (F58.c (by decide)) (F58.c (by decide))
            refine qU (fun T_ k_ => r_callV (pc := 53) (N := mX2_pass) (rest := []) (S58) okX2_pass lkX2_40 rfl (by decide) rfl rfl rfl (Nat.le_of_ble_eq_true rfl) ⟨Nat.le_refl _, Nat.le_refl _⟩ dX2_readSource_53 k_) ?_
            refine qU (fun T_ k_ => r_aload_n (pc := 56) dX2_readSource_56 rfl k_) ?_
            refine qU (fun T_ k_ => r_getV (pc := 57) (v := tokI (tkK tx n (sgT (tkK tx n) (tkV tx n) (t + 1 + 1) + 1)) (tkV tx n (sgT (tkK tx n) (tkV tx n) (t + 1 + 1) + 1))) dX2_readSource_57 fX2_43 rfl rfl (P58.2.1) k_) ?_
            refine qU (fun T_ k_ => r_bipush (pc := 60) dX2_readSource_60 bp_m2 k_) ?_
            refine qP (fun T_ => r_icmp_eq (pc := 62) (tgt := 67) dX2_readSource_62 (by decide)) (fun c3 => ?_) (fun c3 => ?_)
            · exact absurd ((tokI_m2 (tk_bd h.1 (sgT (tkK tx n) (tkV tx n) (t + 1 + 1) + 1)).1 (tk_bd h.1 (sgT (tkK tx n) (tkV tx n) (t + 1 + 1) + 1)).2.1).mp c3) hW
            · refine qU (fun T_ k_ => r_iconst (pc := 65) (v := nI 0) dX2_readSource_65 rfl k_) ?_
              exact ⟨_, ⟨_, rfl, (((((FRs.refl I).pass F54).pass F55).pass F56).u13 _ _).pass F58, P58⟩, r_zret dX2_readSource_66 rfl (by decide) rfl rfl⟩
          · exact absurd rfl c2
        · exact absurd c1 (by decide)
    · rw [if_neg hU]
      refine qU (fun T_ k_ => r_aload_n (pc := 0) dX2_readSource_0 rfl k_) ?_
      obtain ⟨T59, ⟨J59, rfl, F59, C59⟩, S59⟩ := s_pass X (d + 1) I L tx n (t + 1) h.1 h.2.2.2.1
      have P59 := h.pass F59 C59
      have G59 := g.fr (F59.c (by decide)) (F59.c (by decide))
      refine qU (fun T_ k_ => r_callV (pc := 1) (N := mX2_pass) (rest := []) (S59) okX2_pass lkX2_40 rfl (by decide) rfl rfl rfl (Nat.le_of_ble_eq_true rfl) ⟨Nat.le_refl _, Nat.le_refl _⟩ dX2_readSource_1 k_) ?_
      refine qU (fun T_ k_ => r_aload_n (pc := 4) dX2_readSource_4 rfl k_) ?_
      refine qU (fun T_ k_ => r_callV (pc := 5) (N := mX2_sourceAtHand) (rest := []) (s_sourceAtHand_t X _ J59 L (tkV tx n (t + 1)) ((P59.2.1.trans ((tokI_ch (tk_bd P59.1 (t + 1)).1 (tk_bd P59.1 (t + 1)).2.1 (by omega)).mpr ⟨hS.1, rfl⟩))) (by omega)) okX2_sourceAtHand lkX2_62 rfl (by decide) rfl rfl rfl (Nat.le_of_ble_eq_true rfl) ⟨Nat.le_refl _, Nat.le_refl _⟩ dX2_readSource_5 k_) ?_
      refine qU (fun T_ k_ => r_istore_n (pc := 8) (lo1 := [.ref 11, .int (nI (tkV tx n (t + 1) - 97)), .null]) dX2_readSource_8 rfl (by decide) rfl k_) ?_
      refine qU (fun T_ k_ => r_iload_n (pc := 9) dX2_readSource_9 rfl k_) ?_
      refine qU (fun T_ k_ => r_callSN (pc := 10) (N := mX5_isSource) (rest := []) (s_isSource_t X _ J59 L (tkV tx n (t + 1) - 97) (by omega)) okX5_isSource lkX2_66 rfl rfl (Nat.le_of_ble_eq_true rfl) ⟨Nat.le_refl _, Nat.le_refl _⟩ dX2_readSource_10 k_) ?_
      refine qN (fun T_ => r_ifN_ne (pc := 13) (tgt := 18) dX2_readSource_13 (by decide) (by omega)) (fun c1 => ?_) (fun c1 => ?_)
      · refine qU (fun T_ k_ => r_aload_n (pc := 18) dX2_readSource_18 rfl k_) ?_
        obtain ⟨T60, ⟨J60, rfl, F60, C60⟩, S60⟩ := s_pass X (d + 1) J59 L tx n (t + 1 + 1) P59.1 P59.2.2.2.1
        have P60 := P59.pass F60 C60
        have G60 := G59.fr (F60.c (by decide)) (F60.c (by decide))
        refine qU (fun T_ k_ => r_callV (pc := 19) (N := mX2_pass) (rest := []) (S60) okX2_pass lkX2_40 rfl (by decide) rfl rfl rfl (Nat.le_of_ble_eq_true rfl) ⟨Nat.le_refl _, Nat.le_refl _⟩ dX2_readSource_19 k_) ?_
        refine qU (fun T_ k_ => r_aload_n (pc := 22) dX2_readSource_22 rfl k_) ?_
        obtain ⟨T61, ⟨J61, rfl, F61, C61⟩, S61⟩ := s_passSign X d J60 L tx n (t + 1 + 1) P60
        have P61 := P60.pass F61 C61
        have G61 := G60.fr (F61.c (by decide)) (F61.c (by decide))
        refine qU (fun T_ k_ => r_callV (pc := 23) (N := mX2_passSign) (rest := []) (S61) okX2_passSign lkX2_70 rfl (by decide) rfl rfl rfl (Nat.le_of_ble_eq_true rfl) ⟨Nat.le_refl _, Nat.le_refl _⟩ dX2_readSource_23 k_) ?_
        refine qU (fun T_ k_ => r_istore_n (pc := 26) (lo1 := [.ref 11, .int (nI (tkV tx n (t + 1) - 97)), .int (sgO (tkK tx n) (tkV tx n) (t + 1 + 1))]) dX2_readSource_26 rfl (by decide) rfl k_) ?_
        refine qU (fun T_ k_ => r_aload_n (pc := 27) dX2_readSource_27 rfl k_) ?_
        refine qU (fun T_ k_ => r_getV (pc := 28) (v := tokI (tkK tx n (sgT (tkK tx n) (tkV tx n) (t + 1 + 1))) (tkV tx n (sgT (tkK tx n) (tkV tx n) (t + 1 + 1)))) dX2_readSource_28 fX2_43 rfl rfl (P61.2.1) k_) ?_
        refine qU (fun T_ k_ => r_bipush (pc := 31) dX2_readSource_31 bp_m2 k_) ?_
        refine qP (fun T_ => r_icmp_eq (pc := 33) (tgt := 38) dX2_readSource_33 (by decide)) (fun c2 => ?_) (fun c2 => ?_)
        · exact absurd ((tokI_m2 (tk_bd h.1 (sgT (tkK tx n) (tkV tx n) (t + 1 + 1))).1 (tk_bd h.1 (sgT (tkK tx n) (tkV tx n) (t + 1 + 1))).2.1).mp c2) hU
        · refine qU (fun T_ k_ => r_iconst (pc := 36) (v := nI 0) dX2_readSource_36 rfl k_) ?_
          exact ⟨_, ⟨_, rfl, (((FRs.refl I).pass F59).pass F60).pass F61, P61⟩, r_zret dX2_readSource_37 rfl (by decide) rfl rfl⟩
      · exact absurd c1 (by decide)
  · rw [if_neg hS]
    refine qU (fun T_ k_ => r_aload_n (pc := 0) dX2_readSource_0 rfl k_) ?_
    obtain ⟨T62, ⟨J62, rfl, F62, C62⟩, S62⟩ := s_pass X (d + 1) I L tx n (t + 1) h.1 h.2.2.2.1
    have P62 := h.pass F62 C62
    have G62 := g.fr (F62.c (by decide)) (F62.c (by decide))
    refine qU (fun T_ k_ => r_callV (pc := 1) (N := mX2_pass) (rest := []) (S62) okX2_pass lkX2_40 rfl (by decide) rfl rfl rfl (Nat.le_of_ble_eq_true rfl) ⟨Nat.le_refl _, Nat.le_refl _⟩ dX2_readSource_1 k_) ?_
    refine qU (fun T_ k_ => r_aload_n (pc := 4) dX2_readSource_4 rfl k_) ?_
    refine qU (fun T_ k_ => r_callV (pc := 5) (N := mX2_sourceAtHand) (rest := []) (s_sourceAtHand X _ J62 L (tokI (tkK tx n (t + 1)) (tkV tx n (t + 1))) (P62.2.1)) okX2_sourceAtHand lkX2_62 rfl (by decide) rfl rfl rfl (Nat.le_of_ble_eq_true rfl) ⟨Nat.le_refl _, Nat.le_refl _⟩ dX2_readSource_5 k_) ?_
    refine qU (fun T_ k_ => r_istore_n (pc := 8) (lo1 := [.ref 11, .int ((tokI (tkK tx n (t + 1)) (tkV tx n (t + 1))) - nI 97), .null]) dX2_readSource_8 rfl (by decide) rfl k_) ?_
    refine qU (fun T_ k_ => r_iload_n (pc := 9) dX2_readSource_9 rfl k_) ?_
    refine qU (fun T_ k_ => r_callSN (pc := 10) (N := mX5_isSource) (rest := []) (s_isSource_f X _ J62 L ((tokI (tkK tx n (t + 1)) (tkV tx n (t + 1))) - nI 97) (not_src (tk_bd h.1 (t + 1)).1 (tk_bd h.1 (t + 1)).2.1 hS)) okX5_isSource lkX2_66 rfl rfl (Nat.le_of_ble_eq_true rfl) ⟨Nat.le_refl _, Nat.le_refl _⟩ dX2_readSource_10 k_) ?_
    refine qN (fun T_ => r_ifN_ne (pc := 13) (tgt := 18) dX2_readSource_13 (by decide) (by omega)) (fun c1 => ?_) (fun c1 => ?_)
    · exact absurd c1 (by decide)
    · refine qU (fun T_ k_ => r_iconst (pc := 16) (v := nI 0) dX2_readSource_16 rfl k_) ?_
      exact ⟨_, ⟨_, rfl, (FRs.refl I).pass F62, P62⟩, r_zret dX2_readSource_17 rfl (by decide) rfl rfl⟩
theorem s_readJoint (X : Ctx) (d : Nat) (I : MI) (L : ML) (tx : Nat → Nat) (n t : Nat) (h : PQ I tx n t) (D : Nat → Int32) (g : FG I 13 14 D) : ∃ T, QI I L tx n (rdJnt (tkK tx n) (tkV tx n) (t + 1) D) T ∧ Sp X mX2_readJoint (d + 4) (0, 0) [.ref 11] shF I L T := by
  refine qU (fun T_ k_ => Sp.of okX2_readJoint [.ref 11, .null, .null, .null] 3 rfl (Nat.le_of_ble_eq_true rfl) k_) ?_
  unfold rdJnt
  by_cases hS : isSo (tkK tx n) (tkV tx n) (t + 1)
  · rw [if_pos hS]
    have hS3 := hS.2
    by_cases hS2 : isSo (tkK tx n) (tkV tx n) (t + 1 + 1)
    · have hS4 := hS2.2
      by_cases hE : tkV tx n (t + 1 + 1) = tkV tx n (t + 1)
      · rw [if_neg (fun z => z.2 hE)]
        refine qU (fun T_ k_ => r_aload_n (pc := 0) dX2_readJoint_0 rfl k_) ?_
        obtain ⟨T63, ⟨J63, rfl, F63, C63⟩, S63⟩ := s_pass X (d + 1) I L tx n (t + 1) h.1 h.2.2.2.1
        have P63 := h.pass F63 C63
        have G63 := g.fr (F63.c (by decide)) (F63.c (by decide))
        refine qU (fun T_ k_ => r_callV (pc := 1) (N := mX2_pass) (rest := []) (S63) okX2_pass lkX2_40 rfl (by decide) rfl rfl rfl (Nat.le_of_ble_eq_true rfl) ⟨Nat.le_refl _, Nat.le_refl _⟩ dX2_readJoint_1 k_) ?_
        refine qU (fun T_ k_ => r_aload_n (pc := 4) dX2_readJoint_4 rfl k_) ?_
        refine qU (fun T_ k_ => r_callV (pc := 5) (N := mX2_sourceAtHand) (rest := []) (s_sourceAtHand_t X _ J63 L (tkV tx n (t + 1)) ((P63.2.1.trans ((tokI_ch (tk_bd P63.1 (t + 1)).1 (tk_bd P63.1 (t + 1)).2.1 (by omega)).mpr ⟨hS.1, rfl⟩))) (by omega)) okX2_sourceAtHand lkX2_62 rfl (by decide) rfl rfl rfl (Nat.le_of_ble_eq_true rfl) ⟨Nat.le_refl _, Nat.le_refl _⟩ dX2_readJoint_5 k_) ?_
        refine qU (fun T_ k_ => r_istore_n (pc := 8) (lo1 := [.ref 11, .int (nI (tkV tx n (t + 1) - 97)), .null, .null]) dX2_readJoint_8 rfl (by decide) rfl k_) ?_
        refine qU (fun T_ k_ => r_iload_n (pc := 9) dX2_readJoint_9 rfl k_) ?_
        refine qU (fun T_ k_ => r_callSN (pc := 10) (N := mX5_isSource) (rest := []) (s_isSource_t X _ J63 L (tkV tx n (t + 1) - 97) (by omega)) okX5_isSource lkX2_66 rfl rfl (Nat.le_of_ble_eq_true rfl) ⟨Nat.le_refl _, Nat.le_refl _⟩ dX2_readJoint_10 k_) ?_
        refine qN (fun T_ => r_ifN_ne (pc := 13) (tgt := 18) dX2_readJoint_13 (by decide) (by omega)) (fun c1 => ?_) (fun c1 => ?_)
        · refine qU (fun T_ k_ => r_aload_n (pc := 18) dX2_readJoint_18 rfl k_) ?_
          obtain ⟨T64, ⟨J64, rfl, F64, C64⟩, S64⟩ := s_pass X (d + 1) J63 L tx n (t + 1 + 1) P63.1 P63.2.2.2.1
          have P64 := P63.pass F64 C64
          have G64 := G63.fr (F64.c (by decide)) (F64.c (by decide))
          refine qU (fun T_ k_ => r_callV (pc := 19) (N := mX2_pass) (rest := []) (S64) okX2_pass lkX2_40 rfl (by decide) rfl rfl rfl (Nat.le_of_ble_eq_true rfl) ⟨Nat.le_refl _, Nat.le_refl _⟩ dX2_readJoint_19 k_) ?_
          refine qU (fun T_ k_ => r_aload_n (pc := 22) dX2_readJoint_22 rfl k_) ?_
          refine qU (fun T_ k_ => r_callV (pc := 23) (N := mX2_sourceAtHand) (rest := []) (s_sourceAtHand_t X _ J64 L (tkV tx n (t + 1 + 1)) ((P64.2.1.trans ((tokI_ch (tk_bd P64.1 (t + 1 + 1)).1 (tk_bd P64.1 (t + 1 + 1)).2.1 (by omega)).mpr ⟨hS2.1, rfl⟩))) (by omega)) okX2_sourceAtHand lkX2_62 rfl (by decide) rfl rfl rfl (Nat.le_of_ble_eq_true rfl) ⟨Nat.le_refl _, Nat.le_refl _⟩ dX2_readJoint_23 k_) ?_
          refine qU (fun T_ k_ => r_istore_n (pc := 26) (lo1 := [.ref 11, .int (nI (tkV tx n (t + 1) - 97)), .int (nI (tkV tx n (t + 1 + 1) - 97)), .null]) dX2_readJoint_26 rfl (by decide) rfl k_) ?_
          refine qU (fun T_ k_ => r_iload_n (pc := 27) dX2_readJoint_27 rfl k_) ?_
          refine qU (fun T_ k_ => r_callSN (pc := 28) (N := mX5_isSource) (rest := []) (s_isSource_t X _ J64 L (tkV tx n (t + 1 + 1) - 97) (by omega)) okX5_isSource lkX2_66 rfl rfl (Nat.le_of_ble_eq_true rfl) ⟨Nat.le_refl _, Nat.le_refl _⟩ dX2_readJoint_28 k_) ?_
          refine qP (fun T_ => r_ifN_eq (pc := 31) (tgt := 39) dX2_readJoint_31 (by decide) (by omega)) (fun c2 => ?_) (fun c2 => ?_)
          · exact absurd c2 (by decide)
          · refine qU (fun T_ k_ => r_iload_n (pc := 34) dX2_readJoint_34 rfl k_) ?_
            refine qU (fun T_ k_ => r_iload_n (pc := 35) dX2_readJoint_35 rfl k_) ?_
            refine qN (fun T_ => r_icmpN_ne (pc := 36) (tgt := 41) dX2_readJoint_36 (by decide) (by omega) (by omega)) (fun c3 => ?_) (fun c3 => ?_)
            · exact absurd c3 (by omega)
            · refine qU (fun T_ k_ => r_iconst (pc := 39) (v := nI 0) dX2_readJoint_39 rfl k_) ?_
              exact ⟨_, ⟨_, rfl, ((FRs.refl I).pass F63).pass F64, P64⟩, r_zret dX2_readJoint_40 rfl (by decide) rfl rfl⟩
        · exact absurd c1 (by decide)
      · rw [if_pos ⟨hS2, hE⟩]
        by_cases hU : tkK tx n (sgT (tkK tx n) (tkV tx n) (t + 1 + 2)) = 2
        · rw [if_pos hU]
          refine qU (fun T_ k_ => r_aload_n (pc := 0) dX2_readJoint_0 rfl k_) ?_
          obtain ⟨T65, ⟨J65, rfl, F65, C65⟩, S65⟩ := s_pass X (d + 1) I L tx n (t + 1) h.1 h.2.2.2.1
          have P65 := h.pass F65 C65
          have G65 := g.fr (F65.c (by decide)) (F65.c (by decide))
          refine qU (fun T_ k_ => r_callV (pc := 1) (N := mX2_pass) (rest := []) (S65) okX2_pass lkX2_40 rfl (by decide) rfl rfl rfl (Nat.le_of_ble_eq_true rfl) ⟨Nat.le_refl _, Nat.le_refl _⟩ dX2_readJoint_1 k_) ?_
          refine qU (fun T_ k_ => r_aload_n (pc := 4) dX2_readJoint_4 rfl k_) ?_
          refine qU (fun T_ k_ => r_callV (pc := 5) (N := mX2_sourceAtHand) (rest := []) (s_sourceAtHand_t X _ J65 L (tkV tx n (t + 1)) ((P65.2.1.trans ((tokI_ch (tk_bd P65.1 (t + 1)).1 (tk_bd P65.1 (t + 1)).2.1 (by omega)).mpr ⟨hS.1, rfl⟩))) (by omega)) okX2_sourceAtHand lkX2_62 rfl (by decide) rfl rfl rfl (Nat.le_of_ble_eq_true rfl) ⟨Nat.le_refl _, Nat.le_refl _⟩ dX2_readJoint_5 k_) ?_
          refine qU (fun T_ k_ => r_istore_n (pc := 8) (lo1 := [.ref 11, .int (nI (tkV tx n (t + 1) - 97)), .null, .null]) dX2_readJoint_8 rfl (by decide) rfl k_) ?_
          refine qU (fun T_ k_ => r_iload_n (pc := 9) dX2_readJoint_9 rfl k_) ?_
          refine qU (fun T_ k_ => r_callSN (pc := 10) (N := mX5_isSource) (rest := []) (s_isSource_t X _ J65 L (tkV tx n (t + 1) - 97) (by omega)) okX5_isSource lkX2_66 rfl rfl (Nat.le_of_ble_eq_true rfl) ⟨Nat.le_refl _, Nat.le_refl _⟩ dX2_readJoint_10 k_) ?_
          refine qN (fun T_ => r_ifN_ne (pc := 13) (tgt := 18) dX2_readJoint_13 (by decide) (by omega)) (fun c1 => ?_) (fun c1 => ?_)
          · refine qU (fun T_ k_ => r_aload_n (pc := 18) dX2_readJoint_18 rfl k_) ?_
            obtain ⟨T66, ⟨J66, rfl, F66, C66⟩, S66⟩ := s_pass X (d + 1) J65 L tx n (t + 1 + 1) P65.1 P65.2.2.2.1
            have P66 := P65.pass F66 C66
            have G66 := G65.fr (F66.c (by decide)) (F66.c (by decide))
            refine qU (fun T_ k_ => r_callV (pc := 19) (N := mX2_pass) (rest := []) (S66) okX2_pass lkX2_40 rfl (by decide) rfl rfl rfl (Nat.le_of_ble_eq_true rfl) ⟨Nat.le_refl _, Nat.le_refl _⟩ dX2_readJoint_19 k_) ?_
            refine qU (fun T_ k_ => r_aload_n (pc := 22) dX2_readJoint_22 rfl k_) ?_
            refine qU (fun T_ k_ => r_callV (pc := 23) (N := mX2_sourceAtHand) (rest := []) (s_sourceAtHand_t X _ J66 L (tkV tx n (t + 1 + 1)) ((P66.2.1.trans ((tokI_ch (tk_bd P66.1 (t + 1 + 1)).1 (tk_bd P66.1 (t + 1 + 1)).2.1 (by omega)).mpr ⟨hS2.1, rfl⟩))) (by omega)) okX2_sourceAtHand lkX2_62 rfl (by decide) rfl rfl rfl (Nat.le_of_ble_eq_true rfl) ⟨Nat.le_refl _, Nat.le_refl _⟩ dX2_readJoint_23 k_) ?_
            refine qU (fun T_ k_ => r_istore_n (pc := 26) (lo1 := [.ref 11, .int (nI (tkV tx n (t + 1) - 97)), .int (nI (tkV tx n (t + 1 + 1) - 97)), .null]) dX2_readJoint_26 rfl (by decide) rfl k_) ?_
            refine qU (fun T_ k_ => r_iload_n (pc := 27) dX2_readJoint_27 rfl k_) ?_
            refine qU (fun T_ k_ => r_callSN (pc := 28) (N := mX5_isSource) (rest := []) (s_isSource_t X _ J66 L (tkV tx n (t + 1 + 1) - 97) (by omega)) okX5_isSource lkX2_66 rfl rfl (Nat.le_of_ble_eq_true rfl) ⟨Nat.le_refl _, Nat.le_refl _⟩ dX2_readJoint_28 k_) ?_
            refine qP (fun T_ => r_ifN_eq (pc := 31) (tgt := 39) dX2_readJoint_31 (by decide) (by omega)) (fun c2 => ?_) (fun c2 => ?_)
            · exact absurd c2 (by decide)
            · refine qU (fun T_ k_ => r_iload_n (pc := 34) dX2_readJoint_34 rfl k_) ?_
              refine qU (fun T_ k_ => r_iload_n (pc := 35) dX2_readJoint_35 rfl k_) ?_
              refine qN (fun T_ => r_icmpN_ne (pc := 36) (tgt := 41) dX2_readJoint_36 (by decide) (by omega) (by omega)) (fun c3 => ?_) (fun c3 => ?_)
              · refine qU (fun T_ k_ => r_aload_n (pc := 41) dX2_readJoint_41 rfl k_) ?_
                obtain ⟨T67, ⟨J67, rfl, F67, C67⟩, S67⟩ := s_pass X (d + 1) J66 L tx n (t + 1 + 1 + 1) P66.1 P66.2.2.2.1
                have P67 := P66.pass F67 C67
                have G67 := G66.fr (F67.c (by decide)) (F67.c (by decide))
                refine qU (fun T_ k_ => r_callV (pc := 42) (N := mX2_pass) (rest := []) (S67) okX2_pass lkX2_40 rfl (by decide) rfl rfl rfl (Nat.le_of_ble_eq_true rfl) ⟨Nat.le_refl _, Nat.le_refl _⟩ dX2_readJoint_42 k_) ?_
                refine qU (fun T_ k_ => r_aload_n (pc := 45) dX2_readJoint_45 rfl k_) ?_
                obtain ⟨T68, ⟨J68, rfl, F68, C68⟩, S68⟩ := s_passSign X d J67 L tx n (t + 1 + 2) P67
                have P68 := P67.pass F68 C68
                have G68 := G67.fr (F68.c (by decide)) (F68.c (by decide))
                refine qU (fun T_ k_ => r_callV (pc := 46) (N := mX2_passSign) (rest := []) (S68) okX2_passSign lkX2_70 rfl (by decide) rfl rfl rfl (Nat.le_of_ble_eq_true rfl) ⟨Nat.le_refl _, Nat.le_refl _⟩ dX2_readJoint_46 k_) ?_
                refine qU (fun T_ k_ => r_istore_n (pc := 49) (lo1 := [.ref 11, .int (nI (tkV tx n (t + 1) - 97)), .int (nI (tkV tx n (t + 1 + 1) - 97)), .int (sgO (tkK tx n) (tkV tx n) (t + 1 + 2))]) dX2_readJoint_49 rfl (by decide) rfl k_) ?_
                refine qU (fun T_ k_ => r_aload_n (pc := 50) dX2_readJoint_50 rfl k_) ?_
                refine qU (fun T_ k_ => r_getV (pc := 51) (v := -2) dX2_readJoint_51 fX2_43 rfl rfl ((P68.2.1.trans ((tokI_m2 (tk_bd P68.1 (sgT (tkK tx n) (tkV tx n) (t + 1 + 2))).1 (tk_bd P68.1 (sgT (tkK tx n) (tkV tx n) (t + 1 + 2))).2.1).mpr hU))) k_) ?_
                refine qU (fun T_ k_ => r_bipush (pc := 54) dX2_readJoint_54 bp_m2 k_) ?_
                refine qP (fun T_ => r_icmp_eq (pc := 56) (tgt := 61) dX2_readJoint_56 (by decide)) (fun c4 => ?_) (fun c4 => ?_)
                · refine qU (fun T_ k_ => r_aload_n (pc := 61) dX2_readJoint_61 rfl k_) ?_
                  refine qU (fun T_ k_ => r_getR (pc := 62) (b := 12) dX2_readJoint_62 fX2_12 rfl rfl k_) ?_
                  refine qU (fun T_ k_ => r_iload_n (pc := 65) dX2_readJoint_65 rfl k_) ?_
                  refine qU (fun T_ k_ => r_iload_n (pc := 66) dX2_readJoint_66 rfl k_) ?_
                  refine qU (fun T_ k_ => r_iload_n (pc := 67) dX2_readJoint_67 rfl k_) ?_
                  refine qU (fun T_ k_ => r_aload_n (pc := 68) dX2_readJoint_68 rfl k_) ?_
                  refine qU (fun T_ k_ => r_getV (pc := 69) (v := nI (tkV tx n (sgT (tkK tx n) (tkV tx n) (t + 1 + 2)))) dX2_readJoint_69 fX2_73 rfl rfl ((P68.2.2.2.2 hU)) k_) ?_
                  refine qU (fun T_ k_ => r_imul (pc := 72) dX2_readJoint_72 k_) ?_
                  have P69 : PQ (u2 (u2 J68 14 ((tkV tx n (t + 1) - 97) * 6 + (tkV tx n (t + 1 + 1) - 97)) ((sgO (tkK tx n) (tkV tx n) (t + 1 + 2)) * (nI (tkV tx n (sgT (tkK tx n) (tkV tx n) (t + 1 + 2)))))) 14 ((tkV tx n (t + 1 + 1) - 97) * 6 + (tkV tx n (t + 1) - 97)) ((sgO (tkK tx n) (tkV tx n) (t + 1 + 2)) * (nI (tkV tx n (sgT (tkK tx n) (tkV tx n) (t + 1 + 2)))))) tx n (sgT (tkK tx n) (tkV tx n) (t + 1 + 2)) := P68.fr ((u2_off (by decide)).trans (u2_off (by decide))) ((u2_off (by decide)).trans (u2_off (by decide)))
                  have G69 := G68.joint (by decide) (x := (tkV tx n (t + 1) - 97)) (y := (tkV tx n (t + 1 + 1) - 97)) (by omega) (by omega) (by omega) ((sgO (tkK tx n) (tkV tx n) (t + 1 + 2)) * (nI (tkV tx n (sgT (tkK tx n) (tkV tx n) (t + 1 + 2)))))
                  refine qU (fun T_ k_ => r_callV (pc := 73) (N := mX0_setSpread) (rest := []) (s_setSpread_12 X _ J68 L (tkV tx n (t + 1) - 97) (tkV tx n (t + 1 + 1) - 97) ((sgO (tkK tx n) (tkV tx n) (t + 1 + 2)) * (nI (tkV tx n (sgT (tkK tx n) (tkV tx n) (t + 1 + 2))))) (by omega) (by omega)) okX0_setSpread lkX2_80 rfl (by decide) rfl rfl rfl (Nat.le_of_ble_eq_true rfl) ⟨Nat.le_refl _, Nat.le_refl _⟩ dX2_readJoint_73 k_) ?_
                  refine qU (fun T_ k_ => r_aload_n (pc := 76) dX2_readJoint_76 rfl k_) ?_
                  obtain ⟨T70, ⟨J70, rfl, F70, C70⟩, S70⟩ := s_pass X (d + 1) (u2 (u2 J68 14 ((tkV tx n (t + 1) - 97) * 6 + (tkV tx n (t + 1 + 1) - 97)) ((sgO (tkK tx n) (tkV tx n) (t + 1 + 2)) * (nI (tkV tx n (sgT (tkK tx n) (tkV tx n) (t + 1 + 2)))))) 14 ((tkV tx n (t + 1 + 1) - 97) * 6 + (tkV tx n (t + 1) - 97)) ((sgO (tkK tx n) (tkV tx n) (t + 1 + 2)) * (nI (tkV tx n (sgT (tkK tx n) (tkV tx n) (t + 1 + 2)))))) L tx n (sgT (tkK tx n) (tkV tx n) (t + 1 + 2) + 1) P69.1 P69.2.2.2.1
                  have P70 := P69.pass F70 C70
                  have G70 := G69.fr (F70.c (by decide)) (F70.c (by decide))
                  refine qU (fun T_ k_ => r_callV (pc := 77) (N := mX2_pass) (rest := []) (S70) okX2_pass lkX2_40 rfl (by decide) rfl rfl rfl (Nat.le_of_ble_eq_true rfl) ⟨Nat.le_refl _, Nat.le_refl _⟩ dX2_readJoint_77 k_) ?_
                  refine qU (fun T_ k_ => r_iconst (pc := 80) (v := nI 1) dX2_readJoint_80 rfl k_) ?_
                  exact ⟨_, ⟨_, rfl, (((((((FRs.refl I).pass F65).pass F66).pass F67).pass F68).u14 _ _).u14 _ _).pass F70, P70, G70⟩, r_zret dX2_readJoint_81 rfl (by decide) rfl rfl⟩
                · exact absurd rfl c4
              · exact absurd c3 (by omega)
          · exact absurd c1 (by decide)
        · rw [if_neg hU]
          refine qU (fun T_ k_ => r_aload_n (pc := 0) dX2_readJoint_0 rfl k_) ?_
          obtain ⟨T71, ⟨J71, rfl, F71, C71⟩, S71⟩ := s_pass X (d + 1) I L tx n (t + 1) h.1 h.2.2.2.1
          have P71 := h.pass F71 C71
          have G71 := g.fr (F71.c (by decide)) (F71.c (by decide))
          refine qU (fun T_ k_ => r_callV (pc := 1) (N := mX2_pass) (rest := []) (S71) okX2_pass lkX2_40 rfl (by decide) rfl rfl rfl (Nat.le_of_ble_eq_true rfl) ⟨Nat.le_refl _, Nat.le_refl _⟩ dX2_readJoint_1 k_) ?_
          refine qU (fun T_ k_ => r_aload_n (pc := 4) dX2_readJoint_4 rfl k_) ?_
          refine qU (fun T_ k_ => r_callV (pc := 5) (N := mX2_sourceAtHand) (rest := []) (s_sourceAtHand_t X _ J71 L (tkV tx n (t + 1)) ((P71.2.1.trans ((tokI_ch (tk_bd P71.1 (t + 1)).1 (tk_bd P71.1 (t + 1)).2.1 (by omega)).mpr ⟨hS.1, rfl⟩))) (by omega)) okX2_sourceAtHand lkX2_62 rfl (by decide) rfl rfl rfl (Nat.le_of_ble_eq_true rfl) ⟨Nat.le_refl _, Nat.le_refl _⟩ dX2_readJoint_5 k_) ?_
          refine qU (fun T_ k_ => r_istore_n (pc := 8) (lo1 := [.ref 11, .int (nI (tkV tx n (t + 1) - 97)), .null, .null]) dX2_readJoint_8 rfl (by decide) rfl k_) ?_
          refine qU (fun T_ k_ => r_iload_n (pc := 9) dX2_readJoint_9 rfl k_) ?_
          refine qU (fun T_ k_ => r_callSN (pc := 10) (N := mX5_isSource) (rest := []) (s_isSource_t X _ J71 L (tkV tx n (t + 1) - 97) (by omega)) okX5_isSource lkX2_66 rfl rfl (Nat.le_of_ble_eq_true rfl) ⟨Nat.le_refl _, Nat.le_refl _⟩ dX2_readJoint_10 k_) ?_
          refine qN (fun T_ => r_ifN_ne (pc := 13) (tgt := 18) dX2_readJoint_13 (by decide) (by omega)) (fun c1 => ?_) (fun c1 => ?_)
          · refine qU (fun T_ k_ => r_aload_n (pc := 18) dX2_readJoint_18 rfl k_) ?_
            obtain ⟨T72, ⟨J72, rfl, F72, C72⟩, S72⟩ := s_pass X (d + 1) J71 L tx n (t + 1 + 1) P71.1 P71.2.2.2.1
            have P72 := P71.pass F72 C72
            have G72 := G71.fr (F72.c (by decide)) (F72.c (by decide))
            refine qU (fun T_ k_ => r_callV (pc := 19) (N := mX2_pass) (rest := []) (S72) okX2_pass lkX2_40 rfl (by decide) rfl rfl rfl (Nat.le_of_ble_eq_true rfl) ⟨Nat.le_refl _, Nat.le_refl _⟩ dX2_readJoint_19 k_) ?_
            refine qU (fun T_ k_ => r_aload_n (pc := 22) dX2_readJoint_22 rfl k_) ?_
            refine qU (fun T_ k_ => r_callV (pc := 23) (N := mX2_sourceAtHand) (rest := []) (s_sourceAtHand_t X _ J72 L (tkV tx n (t + 1 + 1)) ((P72.2.1.trans ((tokI_ch (tk_bd P72.1 (t + 1 + 1)).1 (tk_bd P72.1 (t + 1 + 1)).2.1 (by omega)).mpr ⟨hS2.1, rfl⟩))) (by omega)) okX2_sourceAtHand lkX2_62 rfl (by decide) rfl rfl rfl (Nat.le_of_ble_eq_true rfl) ⟨Nat.le_refl _, Nat.le_refl _⟩ dX2_readJoint_23 k_) ?_
            refine qU (fun T_ k_ => r_istore_n (pc := 26) (lo1 := [.ref 11, .int (nI (tkV tx n (t + 1) - 97)), .int (nI (tkV tx n (t + 1 + 1) - 97)), .null]) dX2_readJoint_26 rfl (by decide) rfl k_) ?_
            refine qU (fun T_ k_ => r_iload_n (pc := 27) dX2_readJoint_27 rfl k_) ?_
            refine qU (fun T_ k_ => r_callSN (pc := 28) (N := mX5_isSource) (rest := []) (s_isSource_t X _ J72 L (tkV tx n (t + 1 + 1) - 97) (by omega)) okX5_isSource lkX2_66 rfl rfl (Nat.le_of_ble_eq_true rfl) ⟨Nat.le_refl _, Nat.le_refl _⟩ dX2_readJoint_28 k_) ?_
            refine qP (fun T_ => r_ifN_eq (pc := 31) (tgt := 39) dX2_readJoint_31 (by decide) (by omega)) (fun c2 => ?_) (fun c2 => ?_)
            · exact absurd c2 (by decide)
            · refine qU (fun T_ k_ => r_iload_n (pc := 34) dX2_readJoint_34 rfl k_) ?_
              refine qU (fun T_ k_ => r_iload_n (pc := 35) dX2_readJoint_35 rfl k_) ?_
              refine qN (fun T_ => r_icmpN_ne (pc := 36) (tgt := 41) dX2_readJoint_36 (by decide) (by omega) (by omega)) (fun c3 => ?_) (fun c3 => ?_)
              · refine qU (fun T_ k_ => r_aload_n (pc := 41) dX2_readJoint_41 rfl k_) ?_
                obtain ⟨T73, ⟨J73, rfl, F73, C73⟩, S73⟩ := s_pass X (d + 1) J72 L tx n (t + 1 + 1 + 1) P72.1 P72.2.2.2.1
                have P73 := P72.pass F73 C73
                have G73 := G72.fr (F73.c (by decide)) (F73.c (by decide))
                refine qU (fun T_ k_ => r_callV (pc := 42) (N := mX2_pass) (rest := []) (S73) okX2_pass lkX2_40 rfl (by decide) rfl rfl rfl (Nat.le_of_ble_eq_true rfl) ⟨Nat.le_refl _, Nat.le_refl _⟩ dX2_readJoint_42 k_) ?_
                refine qU (fun T_ k_ => r_aload_n (pc := 45) dX2_readJoint_45 rfl k_) ?_
                obtain ⟨T74, ⟨J74, rfl, F74, C74⟩, S74⟩ := s_passSign X d J73 L tx n (t + 1 + 2) P73
                have P74 := P73.pass F74 C74
                have G74 := G73.fr (F74.c (by decide)) (F74.c (by decide))
                refine qU (fun T_ k_ => r_callV (pc := 46) (N := mX2_passSign) (rest := []) (S74) okX2_passSign lkX2_70 rfl (by decide) rfl rfl rfl (Nat.le_of_ble_eq_true rfl) ⟨Nat.le_refl _, Nat.le_refl _⟩ dX2_readJoint_46 k_) ?_
                refine qU (fun T_ k_ => r_istore_n (pc := 49) (lo1 := [.ref 11, .int (nI (tkV tx n (t + 1) - 97)), .int (nI (tkV tx n (t + 1 + 1) - 97)), .int (sgO (tkK tx n) (tkV tx n) (t + 1 + 2))]) dX2_readJoint_49 rfl (by decide) rfl k_) ?_
                refine qU (fun T_ k_ => r_aload_n (pc := 50) dX2_readJoint_50 rfl k_) ?_
                refine qU (fun T_ k_ => r_getV (pc := 51) (v := tokI (tkK tx n (sgT (tkK tx n) (tkV tx n) (t + 1 + 2))) (tkV tx n (sgT (tkK tx n) (tkV tx n) (t + 1 + 2)))) dX2_readJoint_51 fX2_43 rfl rfl (P74.2.1) k_) ?_
                refine qU (fun T_ k_ => r_bipush (pc := 54) dX2_readJoint_54 bp_m2 k_) ?_
                refine qP (fun T_ => r_icmp_eq (pc := 56) (tgt := 61) dX2_readJoint_56 (by decide)) (fun c4 => ?_) (fun c4 => ?_)
                · exact absurd ((tokI_m2 (tk_bd h.1 (sgT (tkK tx n) (tkV tx n) (t + 1 + 2))).1 (tk_bd h.1 (sgT (tkK tx n) (tkV tx n) (t + 1 + 2))).2.1).mp c4) hU
                · refine qU (fun T_ k_ => r_iconst (pc := 59) (v := nI 0) dX2_readJoint_59 rfl k_) ?_
                  exact ⟨_, ⟨_, rfl, ((((FRs.refl I).pass F71).pass F72).pass F73).pass F74, P74⟩, r_zret dX2_readJoint_60 rfl (by decide) rfl rfl⟩
              · exact absurd c3 (by omega)
          · exact absurd c1 (by decide)
    · rw [if_neg (fun z => hS2 z.1)]
      refine qU (fun T_ k_ => r_aload_n (pc := 0) dX2_readJoint_0 rfl k_) ?_
      obtain ⟨T75, ⟨J75, rfl, F75, C75⟩, S75⟩ := s_pass X (d + 1) I L tx n (t + 1) h.1 h.2.2.2.1
      have P75 := h.pass F75 C75
      have G75 := g.fr (F75.c (by decide)) (F75.c (by decide))
      refine qU (fun T_ k_ => r_callV (pc := 1) (N := mX2_pass) (rest := []) (S75) okX2_pass lkX2_40 rfl (by decide) rfl rfl rfl (Nat.le_of_ble_eq_true rfl) ⟨Nat.le_refl _, Nat.le_refl _⟩ dX2_readJoint_1 k_) ?_
      refine qU (fun T_ k_ => r_aload_n (pc := 4) dX2_readJoint_4 rfl k_) ?_
      refine qU (fun T_ k_ => r_callV (pc := 5) (N := mX2_sourceAtHand) (rest := []) (s_sourceAtHand_t X _ J75 L (tkV tx n (t + 1)) ((P75.2.1.trans ((tokI_ch (tk_bd P75.1 (t + 1)).1 (tk_bd P75.1 (t + 1)).2.1 (by omega)).mpr ⟨hS.1, rfl⟩))) (by omega)) okX2_sourceAtHand lkX2_62 rfl (by decide) rfl rfl rfl (Nat.le_of_ble_eq_true rfl) ⟨Nat.le_refl _, Nat.le_refl _⟩ dX2_readJoint_5 k_) ?_
      refine qU (fun T_ k_ => r_istore_n (pc := 8) (lo1 := [.ref 11, .int (nI (tkV tx n (t + 1) - 97)), .null, .null]) dX2_readJoint_8 rfl (by decide) rfl k_) ?_
      refine qU (fun T_ k_ => r_iload_n (pc := 9) dX2_readJoint_9 rfl k_) ?_
      refine qU (fun T_ k_ => r_callSN (pc := 10) (N := mX5_isSource) (rest := []) (s_isSource_t X _ J75 L (tkV tx n (t + 1) - 97) (by omega)) okX5_isSource lkX2_66 rfl rfl (Nat.le_of_ble_eq_true rfl) ⟨Nat.le_refl _, Nat.le_refl _⟩ dX2_readJoint_10 k_) ?_
      refine qN (fun T_ => r_ifN_ne (pc := 13) (tgt := 18) dX2_readJoint_13 (by decide) (by omega)) (fun c1 => ?_) (fun c1 => ?_)
      · refine qU (fun T_ k_ => r_aload_n (pc := 18) dX2_readJoint_18 rfl k_) ?_
        obtain ⟨T76, ⟨J76, rfl, F76, C76⟩, S76⟩ := s_pass X (d + 1) J75 L tx n (t + 1 + 1) P75.1 P75.2.2.2.1
        have P76 := P75.pass F76 C76
        have G76 := G75.fr (F76.c (by decide)) (F76.c (by decide))
        refine qU (fun T_ k_ => r_callV (pc := 19) (N := mX2_pass) (rest := []) (S76) okX2_pass lkX2_40 rfl (by decide) rfl rfl rfl (Nat.le_of_ble_eq_true rfl) ⟨Nat.le_refl _, Nat.le_refl _⟩ dX2_readJoint_19 k_) ?_
        refine qU (fun T_ k_ => r_aload_n (pc := 22) dX2_readJoint_22 rfl k_) ?_
        refine qU (fun T_ k_ => r_callV (pc := 23) (N := mX2_sourceAtHand) (rest := []) (s_sourceAtHand X _ J76 L (tokI (tkK tx n (t + 1 + 1)) (tkV tx n (t + 1 + 1))) (P76.2.1)) okX2_sourceAtHand lkX2_62 rfl (by decide) rfl rfl rfl (Nat.le_of_ble_eq_true rfl) ⟨Nat.le_refl _, Nat.le_refl _⟩ dX2_readJoint_23 k_) ?_
        refine qU (fun T_ k_ => r_istore_n (pc := 26) (lo1 := [.ref 11, .int (nI (tkV tx n (t + 1) - 97)), .int ((tokI (tkK tx n (t + 1 + 1)) (tkV tx n (t + 1 + 1))) - nI 97), .null]) dX2_readJoint_26 rfl (by decide) rfl k_) ?_
        refine qU (fun T_ k_ => r_iload_n (pc := 27) dX2_readJoint_27 rfl k_) ?_
        refine qU (fun T_ k_ => r_callSN (pc := 28) (N := mX5_isSource) (rest := []) (s_isSource_f X _ J76 L ((tokI (tkK tx n (t + 1 + 1)) (tkV tx n (t + 1 + 1))) - nI 97) (not_src (tk_bd h.1 (t + 1 + 1)).1 (tk_bd h.1 (t + 1 + 1)).2.1 hS2)) okX5_isSource lkX2_66 rfl rfl (Nat.le_of_ble_eq_true rfl) ⟨Nat.le_refl _, Nat.le_refl _⟩ dX2_readJoint_28 k_) ?_
        refine qP (fun T_ => r_ifN_eq (pc := 31) (tgt := 39) dX2_readJoint_31 (by decide) (by omega)) (fun c2 => ?_) (fun c2 => ?_)
        · refine qU (fun T_ k_ => r_iconst (pc := 39) (v := nI 0) dX2_readJoint_39 rfl k_) ?_
          exact ⟨_, ⟨_, rfl, ((FRs.refl I).pass F75).pass F76, P76⟩, r_zret dX2_readJoint_40 rfl (by decide) rfl rfl⟩
        · exact absurd c2 (by decide)
      · exact absurd c1 (by decide)
  · rw [if_neg hS]
    refine qU (fun T_ k_ => r_aload_n (pc := 0) dX2_readJoint_0 rfl k_) ?_
    obtain ⟨T77, ⟨J77, rfl, F77, C77⟩, S77⟩ := s_pass X (d + 1) I L tx n (t + 1) h.1 h.2.2.2.1
    have P77 := h.pass F77 C77
    have G77 := g.fr (F77.c (by decide)) (F77.c (by decide))
    refine qU (fun T_ k_ => r_callV (pc := 1) (N := mX2_pass) (rest := []) (S77) okX2_pass lkX2_40 rfl (by decide) rfl rfl rfl (Nat.le_of_ble_eq_true rfl) ⟨Nat.le_refl _, Nat.le_refl _⟩ dX2_readJoint_1 k_) ?_
    refine qU (fun T_ k_ => r_aload_n (pc := 4) dX2_readJoint_4 rfl k_) ?_
    refine qU (fun T_ k_ => r_callV (pc := 5) (N := mX2_sourceAtHand) (rest := []) (s_sourceAtHand X _ J77 L (tokI (tkK tx n (t + 1)) (tkV tx n (t + 1))) (P77.2.1)) okX2_sourceAtHand lkX2_62 rfl (by decide) rfl rfl rfl (Nat.le_of_ble_eq_true rfl) ⟨Nat.le_refl _, Nat.le_refl _⟩ dX2_readJoint_5 k_) ?_
    refine qU (fun T_ k_ => r_istore_n (pc := 8) (lo1 := [.ref 11, .int ((tokI (tkK tx n (t + 1)) (tkV tx n (t + 1))) - nI 97), .null, .null]) dX2_readJoint_8 rfl (by decide) rfl k_) ?_
    refine qU (fun T_ k_ => r_iload_n (pc := 9) dX2_readJoint_9 rfl k_) ?_
    refine qU (fun T_ k_ => r_callSN (pc := 10) (N := mX5_isSource) (rest := []) (s_isSource_f X _ J77 L ((tokI (tkK tx n (t + 1)) (tkV tx n (t + 1))) - nI 97) (not_src (tk_bd h.1 (t + 1)).1 (tk_bd h.1 (t + 1)).2.1 hS)) okX5_isSource lkX2_66 rfl rfl (Nat.le_of_ble_eq_true rfl) ⟨Nat.le_refl _, Nat.le_refl _⟩ dX2_readJoint_10 k_) ?_
    refine qN (fun T_ => r_ifN_ne (pc := 13) (tgt := 18) dX2_readJoint_13 (by decide) (by omega)) (fun c1 => ?_) (fun c1 => ?_)
    · exact absurd c1 (by decide)
    · refine qU (fun T_ k_ => r_iconst (pc := 16) (v := nI 0) dX2_readJoint_16 rfl k_) ?_
      exact ⟨_, ⟨_, rfl, (FRs.refl I).pass F77, P77⟩, r_zret dX2_readJoint_17 rfl (by decide) rfl rfl⟩
