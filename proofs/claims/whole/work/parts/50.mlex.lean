theorem nI_lt2 {a b : Nat} (ha : a < 2 ^ 31) (hb : b < 2 ^ 31) (h : a < b) : nI a < nI b := by
  rw [Int32.lt_iff_toInt_lt, nI_toInt ha, nI_toInt hb]
  omega
/-- the signs that the reference knows -/
abbrev isSg (v : Nat) : Prop := v = 83 ∨ v = 67 ∨ v = 70 ∨ (97 ≤ v ∧ v ≤ 102) ∨ v = 43 ∨ v = 45 ∨ v = 42 ∨ v = 94 ∨ v = 40 ∨ v = 41 ∨ v = 64 ∨ v = 59
def TXm (I : MI) (tx : Nat → Nat) (n : Nat) : Prop := I 42 2 = nI n ∧ n ≤ 100 ∧ ∀ j, j < n → I 43 j = nI (tx j) ∧ tx j < 256
def kdM (k v : Nat) : Nat := if k = 1 then (if isSg v then 1 else 3) else k
/-- the reference's token at hand is token t -/
def CRm (I : MI) (tx : Nat → Nat) (n t : Nat) : Prop := I 42 5 = nI (tkP tx n t) ∧ I 42 3 = nI (bps tx n (t + 1)) ∧ I 42 4 = nI (kdM (tkK tx n t) (tkV tx n t)) ∧ (tkK tx n t = 1 ∨ tkK tx n t = 2 → I 42 6 = nI (tkV tx n t))
theorem s_letterAt_t (X : Ctx) (d : Nat) (I : MI) (L : ML) (n j v : Nat) (h2 : I 42 2 = nI n) (hn : n ≤ 100) (hj : j < n) (hv : I 43 j = nI v) : Sp X mX6_letterAt (d + 0) (0, 0) [.ref 42, .int (nI j)] shF I L (some (.int (nI v)), shF, I, L) := by
  refine Sp.of okX6_letterAt [.ref 42, .int (nI j)] 0 rfl (Nat.le_of_ble_eq_true rfl) ?_
  refine r_iload_n (pc := 0) dX6_letterAt_0 rfl ?_
  refine r_aload_n (pc := 1) dX6_letterAt_1 rfl ?_
  refine r_getV (pc := 2) (v := nI n) dX6_letterAt_2 fX6_101 rfl rfl (h2) ?_
  refine r_icmpN_ge (pc := 5) (tgt := 17) dX6_letterAt_5 (by decide) (by omega) (by omega) (fun c1 => ?_) (fun c1 => ?_)
  · exact absurd c1 (by omega)
  · refine r_aload_n (pc := 8) dX6_letterAt_8 rfl ?_
    refine r_getR (pc := 9) (b := 43) dX6_letterAt_9 fX6_7 rfl rfl ?_
    refine r_iload_n (pc := 12) dX6_letterAt_12 rfl ?_
    refine r_ialdV (pc := 13) (j := j) (v := nI v) dX6_letterAt_13 rfl rfl (by omega) (by decide) (hv) ?_
    refine r_goto (pc := 14) (tgt := 18) dX6_letterAt_14 (by decide) ?_
    exact r_iret dX6_letterAt_18 rfl (rfl) rfl
theorem s_letterAt_f (X : Ctx) (d : Nat) (I : MI) (L : ML) (n j : Nat) (h2 : I 42 2 = nI n) (hn : n ≤ 100) (hj : n ≤ j) (hj2 : j ≤ 100) : Sp X mX6_letterAt (d + 0) (0, 0) [.ref 42, .int (nI j)] shF I L (some (.int (-1)), shF, I, L) := by
  refine Sp.of okX6_letterAt [.ref 42, .int (nI j)] 0 rfl (Nat.le_of_ble_eq_true rfl) ?_
  refine r_iload_n (pc := 0) dX6_letterAt_0 rfl ?_
  refine r_aload_n (pc := 1) dX6_letterAt_1 rfl ?_
  refine r_getV (pc := 2) (v := nI n) dX6_letterAt_2 fX6_101 rfl rfl (h2) ?_
  refine r_icmpN_ge (pc := 5) (tgt := 17) dX6_letterAt_5 (by decide) (by omega) (by omega) (fun c1 => ?_) (fun c1 => ?_)
  · refine r_iconst (pc := 17) (v := -1) dX6_letterAt_17 rfl ?_
    exact r_iret dX6_letterAt_18 rfl (rfl) rfl
  · exact absurd c1 (by omega)
theorem s_isSign_t (X : Ctx) (d : Nat) (I : MI) (L : ML) (v : Nat) (hv : v < 256) (h : isSg v) : Sp X mX6_isSign (d + 1) (0, 0) [.int (nI v)] shF I L (some (.int (nI 1)), shF, I, L) := by
  refine Sp.of okX6_isSign [.int (nI v)] 0 rfl (Nat.le_of_ble_eq_true rfl) ?_
  refine r_iload_n (pc := 0) dX6_isSign_0 rfl ?_
  refine r_bipush (pc := 1) dX6_isSign_1 bp_83 ?_
  refine r_icmpN_eq (pc := 3) (tgt := 77) dX6_isSign_3 (by decide) (by omega) (by omega) (fun c1 => ?_) (fun c1 => ?_)
  · refine r_iconst (pc := 77) (v := nI 1) dX6_isSign_77 rfl ?_
    refine r_goto (pc := 78) (tgt := 82) dX6_isSign_78 (by decide) ?_
    exact r_zret dX6_isSign_82 rfl (by decide) (rfl) rfl
  · refine r_iload_n (pc := 6) dX6_isSign_6 rfl ?_
    refine r_bipush (pc := 7) dX6_isSign_7 bp_67 ?_
    refine r_icmpN_eq (pc := 9) (tgt := 77) dX6_isSign_9 (by decide) (by omega) (by omega) (fun c2 => ?_) (fun c2 => ?_)
    · refine r_iconst (pc := 77) (v := nI 1) dX6_isSign_77 rfl ?_
      refine r_goto (pc := 78) (tgt := 82) dX6_isSign_78 (by decide) ?_
      exact r_zret dX6_isSign_82 rfl (by decide) (rfl) rfl
    · refine r_iload_n (pc := 12) dX6_isSign_12 rfl ?_
      refine r_bipush (pc := 13) dX6_isSign_13 bp_70 ?_
      refine r_icmpN_eq (pc := 15) (tgt := 77) dX6_isSign_15 (by decide) (by omega) (by omega) (fun c3 => ?_) (fun c3 => ?_)
      · refine r_iconst (pc := 77) (v := nI 1) dX6_isSign_77 rfl ?_
        refine r_goto (pc := 78) (tgt := 82) dX6_isSign_78 (by decide) ?_
        exact r_zret dX6_isSign_82 rfl (by decide) (rfl) rfl
      · refine r_iload_n (pc := 18) dX6_isSign_18 rfl ?_
        refine r_bipush (pc := 19) dX6_isSign_19 bp_97 ?_
        refine r_bipush (pc := 21) dX6_isSign_21 bp_102 ?_
        by_cases hz : 97 ≤ v ∧ v ≤ 102
        · refine r_callS (pc := 23) (N := mX6_in) (rest := []) (s_in_t X _ I L (nI v) (nI 97) (nI 102) (nI_nlt (by omega) (by omega)) (nI_nlt (by omega) (by omega))) okX6_in lkX6_97 rfl rfl (Nat.le_of_ble_eq_true rfl) ⟨Nat.le_refl _, Nat.le_refl _⟩ dX6_isSign_23 ?_
          refine r_ifN_ne (pc := 26) (tgt := 77) dX6_isSign_26 (by decide) (by omega) (fun c4 => ?_) (fun c4 => ?_)
          · refine r_iconst (pc := 77) (v := nI 1) dX6_isSign_77 rfl ?_
            refine r_goto (pc := 78) (tgt := 82) dX6_isSign_78 (by decide) ?_
            exact r_zret dX6_isSign_82 rfl (by decide) (rfl) rfl
          · exact absurd c4 (by decide)
        · refine r_callS (pc := 23) (N := mX6_in) (rest := []) (s_in_f X _ I L (nI v) (nI 97) (nI 102) ((Nat.lt_or_ge v 97).elim (fun q => Or.inl (nI_lt2 (by omega) (by omega) q)) (fun q => Or.inr (nI_lt2 (by omega) (by omega) (by omega))))) okX6_in lkX6_97 rfl rfl (Nat.le_of_ble_eq_true rfl) ⟨Nat.le_refl _, Nat.le_refl _⟩ dX6_isSign_23 ?_
          refine r_ifN_ne (pc := 26) (tgt := 77) dX6_isSign_26 (by decide) (by omega) (fun c5 => ?_) (fun c5 => ?_)
          · exact absurd c5 (by decide)
          · refine r_iload_n (pc := 29) dX6_isSign_29 rfl ?_
            refine r_bipush (pc := 30) dX6_isSign_30 bp_43 ?_
            refine r_icmpN_eq (pc := 32) (tgt := 77) dX6_isSign_32 (by decide) (by omega) (by omega) (fun c6 => ?_) (fun c6 => ?_)
            · refine r_iconst (pc := 77) (v := nI 1) dX6_isSign_77 rfl ?_
              refine r_goto (pc := 78) (tgt := 82) dX6_isSign_78 (by decide) ?_
              exact r_zret dX6_isSign_82 rfl (by decide) (rfl) rfl
            · refine r_iload_n (pc := 35) dX6_isSign_35 rfl ?_
              refine r_bipush (pc := 36) dX6_isSign_36 bp_45 ?_
              refine r_icmpN_eq (pc := 38) (tgt := 77) dX6_isSign_38 (by decide) (by omega) (by omega) (fun c7 => ?_) (fun c7 => ?_)
              · refine r_iconst (pc := 77) (v := nI 1) dX6_isSign_77 rfl ?_
                refine r_goto (pc := 78) (tgt := 82) dX6_isSign_78 (by decide) ?_
                exact r_zret dX6_isSign_82 rfl (by decide) (rfl) rfl
              · refine r_iload_n (pc := 41) dX6_isSign_41 rfl ?_
                refine r_bipush (pc := 42) dX6_isSign_42 bp_42 ?_
                refine r_icmpN_eq (pc := 44) (tgt := 77) dX6_isSign_44 (by decide) (by omega) (by omega) (fun c8 => ?_) (fun c8 => ?_)
                · refine r_iconst (pc := 77) (v := nI 1) dX6_isSign_77 rfl ?_
                  refine r_goto (pc := 78) (tgt := 82) dX6_isSign_78 (by decide) ?_
                  exact r_zret dX6_isSign_82 rfl (by decide) (rfl) rfl
                · refine r_iload_n (pc := 47) dX6_isSign_47 rfl ?_
                  refine r_bipush (pc := 48) dX6_isSign_48 bp_94 ?_
                  refine r_icmpN_eq (pc := 50) (tgt := 77) dX6_isSign_50 (by decide) (by omega) (by omega) (fun c9 => ?_) (fun c9 => ?_)
                  · refine r_iconst (pc := 77) (v := nI 1) dX6_isSign_77 rfl ?_
                    refine r_goto (pc := 78) (tgt := 82) dX6_isSign_78 (by decide) ?_
                    exact r_zret dX6_isSign_82 rfl (by decide) (rfl) rfl
                  · refine r_iload_n (pc := 53) dX6_isSign_53 rfl ?_
                    refine r_bipush (pc := 54) dX6_isSign_54 bp_40 ?_
                    refine r_icmpN_eq (pc := 56) (tgt := 77) dX6_isSign_56 (by decide) (by omega) (by omega) (fun c10 => ?_) (fun c10 => ?_)
                    · refine r_iconst (pc := 77) (v := nI 1) dX6_isSign_77 rfl ?_
                      refine r_goto (pc := 78) (tgt := 82) dX6_isSign_78 (by decide) ?_
                      exact r_zret dX6_isSign_82 rfl (by decide) (rfl) rfl
                    · refine r_iload_n (pc := 59) dX6_isSign_59 rfl ?_
                      refine r_bipush (pc := 60) dX6_isSign_60 bp_41 ?_
                      refine r_icmpN_eq (pc := 62) (tgt := 77) dX6_isSign_62 (by decide) (by omega) (by omega) (fun c11 => ?_) (fun c11 => ?_)
                      · refine r_iconst (pc := 77) (v := nI 1) dX6_isSign_77 rfl ?_
                        refine r_goto (pc := 78) (tgt := 82) dX6_isSign_78 (by decide) ?_
                        exact r_zret dX6_isSign_82 rfl (by decide) (rfl) rfl
                      · refine r_iload_n (pc := 65) dX6_isSign_65 rfl ?_
                        refine r_bipush (pc := 66) dX6_isSign_66 bp_64 ?_
                        refine r_icmpN_eq (pc := 68) (tgt := 77) dX6_isSign_68 (by decide) (by omega) (by omega) (fun c12 => ?_) (fun c12 => ?_)
                        · refine r_iconst (pc := 77) (v := nI 1) dX6_isSign_77 rfl ?_
                          refine r_goto (pc := 78) (tgt := 82) dX6_isSign_78 (by decide) ?_
                          exact r_zret dX6_isSign_82 rfl (by decide) (rfl) rfl
                        · refine r_iload_n (pc := 71) dX6_isSign_71 rfl ?_
                          refine r_bipush (pc := 72) dX6_isSign_72 bp_59 ?_
                          refine r_icmpN_ne (pc := 74) (tgt := 81) dX6_isSign_74 (by decide) (by omega) (by omega) (fun c13 => ?_) (fun c13 => ?_)
                          · exact absurd h (by omega)
                          · refine r_iconst (pc := 77) (v := nI 1) dX6_isSign_77 rfl ?_
                            refine r_goto (pc := 78) (tgt := 82) dX6_isSign_78 (by decide) ?_
                            exact r_zret dX6_isSign_82 rfl (by decide) (rfl) rfl
theorem s_isSign_f (X : Ctx) (d : Nat) (I : MI) (L : ML) (v : Nat) (hv : v < 256) (h : ¬ isSg v) : Sp X mX6_isSign (d + 1) (0, 0) [.int (nI v)] shF I L (some (.int (nI 0)), shF, I, L) := by
  refine Sp.of okX6_isSign [.int (nI v)] 0 rfl (Nat.le_of_ble_eq_true rfl) ?_
  refine r_iload_n (pc := 0) dX6_isSign_0 rfl ?_
  refine r_bipush (pc := 1) dX6_isSign_1 bp_83 ?_
  refine r_icmpN_eq (pc := 3) (tgt := 77) dX6_isSign_3 (by decide) (by omega) (by omega) (fun c1 => ?_) (fun c1 => ?_)
  · exact absurd (show isSg v by omega) h
  · refine r_iload_n (pc := 6) dX6_isSign_6 rfl ?_
    refine r_bipush (pc := 7) dX6_isSign_7 bp_67 ?_
    refine r_icmpN_eq (pc := 9) (tgt := 77) dX6_isSign_9 (by decide) (by omega) (by omega) (fun c2 => ?_) (fun c2 => ?_)
    · exact absurd (show isSg v by omega) h
    · refine r_iload_n (pc := 12) dX6_isSign_12 rfl ?_
      refine r_bipush (pc := 13) dX6_isSign_13 bp_70 ?_
      refine r_icmpN_eq (pc := 15) (tgt := 77) dX6_isSign_15 (by decide) (by omega) (by omega) (fun c3 => ?_) (fun c3 => ?_)
      · exact absurd (show isSg v by omega) h
      · refine r_iload_n (pc := 18) dX6_isSign_18 rfl ?_
        refine r_bipush (pc := 19) dX6_isSign_19 bp_97 ?_
        refine r_bipush (pc := 21) dX6_isSign_21 bp_102 ?_
        refine r_callS (pc := 23) (N := mX6_in) (rest := []) (s_in_f X _ I L (nI v) (nI 97) (nI 102) ((Nat.lt_or_ge v 97).elim (fun q => Or.inl (nI_lt2 (by omega) (by omega) q)) (fun q => Or.inr (nI_lt2 (by omega) (by omega) (by omega))))) okX6_in lkX6_97 rfl rfl (Nat.le_of_ble_eq_true rfl) ⟨Nat.le_refl _, Nat.le_refl _⟩ dX6_isSign_23 ?_
        refine r_ifN_ne (pc := 26) (tgt := 77) dX6_isSign_26 (by decide) (by omega) (fun c4 => ?_) (fun c4 => ?_)
        · exact absurd c4 (by decide)
        · refine r_iload_n (pc := 29) dX6_isSign_29 rfl ?_
          refine r_bipush (pc := 30) dX6_isSign_30 bp_43 ?_
          refine r_icmpN_eq (pc := 32) (tgt := 77) dX6_isSign_32 (by decide) (by omega) (by omega) (fun c5 => ?_) (fun c5 => ?_)
          · exact absurd (show isSg v by omega) h
          · refine r_iload_n (pc := 35) dX6_isSign_35 rfl ?_
            refine r_bipush (pc := 36) dX6_isSign_36 bp_45 ?_
            refine r_icmpN_eq (pc := 38) (tgt := 77) dX6_isSign_38 (by decide) (by omega) (by omega) (fun c6 => ?_) (fun c6 => ?_)
            · exact absurd (show isSg v by omega) h
            · refine r_iload_n (pc := 41) dX6_isSign_41 rfl ?_
              refine r_bipush (pc := 42) dX6_isSign_42 bp_42 ?_
              refine r_icmpN_eq (pc := 44) (tgt := 77) dX6_isSign_44 (by decide) (by omega) (by omega) (fun c7 => ?_) (fun c7 => ?_)
              · exact absurd (show isSg v by omega) h
              · refine r_iload_n (pc := 47) dX6_isSign_47 rfl ?_
                refine r_bipush (pc := 48) dX6_isSign_48 bp_94 ?_
                refine r_icmpN_eq (pc := 50) (tgt := 77) dX6_isSign_50 (by decide) (by omega) (by omega) (fun c8 => ?_) (fun c8 => ?_)
                · exact absurd (show isSg v by omega) h
                · refine r_iload_n (pc := 53) dX6_isSign_53 rfl ?_
                  refine r_bipush (pc := 54) dX6_isSign_54 bp_40 ?_
                  refine r_icmpN_eq (pc := 56) (tgt := 77) dX6_isSign_56 (by decide) (by omega) (by omega) (fun c9 => ?_) (fun c9 => ?_)
                  · exact absurd (show isSg v by omega) h
                  · refine r_iload_n (pc := 59) dX6_isSign_59 rfl ?_
                    refine r_bipush (pc := 60) dX6_isSign_60 bp_41 ?_
                    refine r_icmpN_eq (pc := 62) (tgt := 77) dX6_isSign_62 (by decide) (by omega) (by omega) (fun c10 => ?_) (fun c10 => ?_)
                    · exact absurd (show isSg v by omega) h
                    · refine r_iload_n (pc := 65) dX6_isSign_65 rfl ?_
                      refine r_bipush (pc := 66) dX6_isSign_66 bp_64 ?_
                      refine r_icmpN_eq (pc := 68) (tgt := 77) dX6_isSign_68 (by decide) (by omega) (by omega) (fun c11 => ?_) (fun c11 => ?_)
                      · exact absurd (show isSg v by omega) h
                      · refine r_iload_n (pc := 71) dX6_isSign_71 rfl ?_
                        refine r_bipush (pc := 72) dX6_isSign_72 bp_59 ?_
                        refine r_icmpN_ne (pc := 74) (tgt := 81) dX6_isSign_74 (by decide) (by omega) (by omega) (fun c12 => ?_) (fun c12 => ?_)
                        · refine r_iconst (pc := 81) (v := nI 0) dX6_isSign_81 rfl ?_
                          exact r_zret dX6_isSign_82 rfl (by decide) (rfl) rfl
                        · exact absurd (show isSg v by omega) h
