theorem lp_qfewest (X : Ctx) (d : Nat) (I : MI) (L : ML) (F : Nat) (sz : Nat → Nat) (nd : Nat → Nat → Nat × Nat × Nat × Nat) (hR : MR I F sz nd) (k : Nat) (hk : k < F) (lim : Int64) : ∀ (z i : Nat), i + z = 64 → Ev X mX6_fewest (d + 3) (0, 0) (0, 0) (some (.int (fwM (fun x => (goL (I 55) sz nd L F) 64 (6 * (20 * k + sz k - 1) + x)) (jO I) lim 64)), shF, (u2 I 42 0 (nI 0)), (goL (I 55) sz nd L F)) 26 [.ref 42, .int (nI k), .long (lim), .null, .int (fwM (fun x => (goL (I 55) sz nd L F) 64 (6 * (20 * k + sz k - 1) + x)) (jO I) lim i), .int (nI i), .null] [] shF (u2 I 42 0 (nI 0)) (goL (I 55) sz nd L F) := by
  intro z
  induction z with
  | zero =>
    intro i hi
    obtain ⟨hF, hF4, hall⟩ := id hR
    obtain ⟨hs, hs1, hs20, -⟩ := hall k hk
    have hi2 : i = 64 := by omega
    rw [hi2]
    refine r_iload (pc := 26) dX6_fewest_26 rfl ?_
    refine r_bipush (pc := 28) dX6_fewest_28 bp_64 ?_
    refine r_icmpN_ge (pc := 30) (tgt := 93) dX6_fewest_30 (by decide) (by omega) (by omega) (fun c1 => ?_) (fun c1 => ?_)
    · refine r_iload (pc := 93) dX6_fewest_93 rfl ?_
      exact r_iret dX6_fewest_95 rfl (rfl) rfl
    · exact absurd c1 (by decide)
  | succ z ih =>
    intro i hi
    obtain ⟨hF, hF4, hall⟩ := id hR
    obtain ⟨hs, hs1, hs20, -⟩ := hall k hk
    refine r_iload (pc := 26) dX6_fewest_26 rfl ?_
    refine r_bipush (pc := 28) dX6_fewest_28 bp_64 ?_
    refine r_icmpN_ge (pc := 30) (tgt := 93) dX6_fewest_30 (by decide) (by omega) (by omega) (fun c2 => ?_) (fun c2 => ?_)
    · exact absurd c2 (by omega)
    · refine r_iload (pc := 33) dX6_fewest_33 rfl ?_
      refine r_bipush (pc := 35) dX6_fewest_35 bp_m9 ?_
      refine r_icmp_eq (pc := 37) (tgt := 53) dX6_fewest_37 (by decide) (fun c3 => ?_) (fun c3 => ?_)
      · refine r_iconst (pc := 53) (v := nI 1) dX6_fewest_53 rfl ?_
        refine r_goto (pc := 54) (tgt := 58) dX6_fewest_54 (by decide) ?_
        refine r_istore (pc := 58) (lo1 := [.ref 42, .int (nI k), .long (lim), .null, .int (fwM (fun x => (goL (I 55) sz nd L F) 64 (6 * (20 * k + sz k - 1) + x)) (jO I) lim i), .int (nI i), .int (nI 1)]) dX6_fewest_58 rfl (by decide) rfl ?_
        refine r_iload (pc := 60) dX6_fewest_60 rfl ?_
        refine r_ifN_eq (pc := 62) (tgt := 83) dX6_fewest_62 (by decide) (by omega) (fun c4 => ?_) (fun c4 => ?_)
        · exact absurd c4 (by decide)
        · refine r_aload_n (pc := 65) dX6_fewest_65 rfl ?_
          refine r_iload_n (pc := 66) dX6_fewest_66 rfl ?_
          refine r_iload_n (pc := 67) dX6_fewest_67 rfl ?_
          refine r_iload (pc := 68) dX6_fewest_68 rfl ?_
          refine r_callV (pc := 70) (N := mX6_togetherOf) (rest := []) (s_together_same X _ (u2 I 42 0 (nI 0)) (goL (I 55) sz nd L F) F sz nd (MR_th hR) k hk (nI i)) okX6_togetherOf lkX6_256 rfl (by decide) rfl rfl rfl (Nat.le_of_ble_eq_true rfl) ⟨Nat.le_refl _, Nat.le_refl _⟩ dX6_fewest_70 ?_
          refine r_lload_n (pc := 73) dX6_fewest_73 rfl ?_
          refine r_lc_gt (pc := 74) (tgt := 83) dX6_fewest_74 dX6_fewest_75 (by decide) (fun c5 => ?_) (fun c5 => ?_)
          · refine r_iload (pc := 83) dX6_fewest_83 rfl ?_
            refine r_istore (pc := 85) (lo1 := [.ref 42, .int (nI k), .long (lim), .null, .int (fwM (fun x => (goL (I 55) sz nd L F) 64 (6 * (20 * k + sz k - 1) + x)) (jO I) lim i), .int (nI i), .int (nI 1)]) dX6_fewest_85 rfl (by decide) rfl ?_
            refine r_iinc (pc := 87) (v := nI (i + 1)) (lo1 := [.ref 42, .int (nI k), .long (lim), .null, .int (fwM (fun x => (goL (I 55) sz nd L F) 64 (6 * (20 * k + sz k - 1) + x)) (jO I) lim i), .int (nI (i + 1)), .int (nI 1)]) dX6_fewest_87 rfl rfl (ii1 _) (by decide) rfl ?_
            refine r_goto (pc := 90) (tgt := 26) dX6_fewest_90 (by decide) ?_
            refine r_drop (lo1 := [.ref 42, .int (nI k), .long (lim), .null, .int (fwM (fun x => (goL (I 55) sz nd L F) 64 (6 * (20 * k + sz k - 1) + x)) (jO I) lim i), .int (nI (i + 1)), .null]) 6 rfl ?_
            have e9 : fwM (fun x => (goL (I 55) sz nd L F) 64 (6 * (20 * k + sz k - 1) + x)) (jO I) lim (i + 1) = fwM (fun x => (goL (I 55) sz nd L F) 64 (6 * (20 * k + sz k - 1) + x)) (jO I) lim i := (if_pos c3).trans (if_neg (l_nle c5))
            have h9 := ih (i + 1) (by omega)
            rw [e9] at h9
            exact h9
          · refine r_iload (pc := 78) dX6_fewest_78 rfl ?_
            refine r_goto (pc := 80) (tgt := 85) dX6_fewest_80 (by decide) ?_
            refine r_istore (pc := 85) (lo1 := [.ref 42, .int (nI k), .long (lim), .null, .int (nI i), .int (nI i), .int (nI 1)]) dX6_fewest_85 rfl (by decide) rfl ?_
            refine r_iinc (pc := 87) (v := nI (i + 1)) (lo1 := [.ref 42, .int (nI k), .long (lim), .null, .int (nI i), .int (nI (i + 1)), .int (nI 1)]) dX6_fewest_87 rfl rfl (ii1 _) (by decide) rfl ?_
            refine r_goto (pc := 90) (tgt := 26) dX6_fewest_90 (by decide) ?_
            refine r_drop (lo1 := [.ref 42, .int (nI k), .long (lim), .null, .int (nI i), .int (nI (i + 1)), .null]) 6 rfl ?_
            have e9 : fwM (fun x => (goL (I 55) sz nd L F) 64 (6 * (20 * k + sz k - 1) + x)) (jO I) lim (i + 1) = nI i := (if_pos c3).trans (if_pos c5)
            have h9 := ih (i + 1) (by omega)
            rw [e9] at h9
            exact h9
      · refine r_iload (pc := 40) dX6_fewest_40 rfl ?_
        refine r_callS (pc := 42) (N := mX6_ones) (rest := []) (s_ones X _ (u2 I 42 0 (nI 0)) (goL (I 55) sz nd L F) (nI i) (onT_64 (by omega))) okX6_ones lkX6_263 rfl rfl (Nat.le_of_ble_eq_true rfl) ⟨Nat.le_refl _, Nat.le_refl _⟩ dX6_fewest_42 ?_
        refine r_iload (pc := 45) dX6_fewest_45 rfl ?_
        refine r_callS (pc := 47) (N := mX6_ones) (rest := [.int (nI (0 + onP 7 (nI i)))]) (s_ones X _ (u2 I 42 0 (nI 0)) (goL (I 55) sz nd L F) (fwM (fun x => (goL (I 55) sz nd L F) 64 (6 * (20 * k + sz k - 1) + x)) (jO I) lim i) (fwM_on (by omega) c3)) okX6_ones lkX6_263 rfl rfl (Nat.le_of_ble_eq_true rfl) ⟨Nat.le_refl _, Nat.le_refl _⟩ dX6_fewest_47 ?_
        have o1 := onP_le 7 (nI i)
        have o2 := onP_le 7 (fwM (fun x => (goL (I 55) sz nd L F) 64 (6 * (20 * k + sz k - 1) + x)) (jO I) lim i)
        refine r_icmpN_ge (pc := 50) (tgt := 57) dX6_fewest_50 (by decide) (by omega) (by omega) (fun c6 => ?_) (fun c6 => ?_)
        · refine r_iconst (pc := 57) (v := nI 0) dX6_fewest_57 rfl ?_
          refine r_istore (pc := 58) (lo1 := [.ref 42, .int (nI k), .long (lim), .null, .int (fwM (fun x => (goL (I 55) sz nd L F) 64 (6 * (20 * k + sz k - 1) + x)) (jO I) lim i), .int (nI i), .int (nI 0)]) dX6_fewest_58 rfl (by decide) rfl ?_
          refine r_iload (pc := 60) dX6_fewest_60 rfl ?_
          refine r_ifN_eq (pc := 62) (tgt := 83) dX6_fewest_62 (by decide) (by omega) (fun c7 => ?_) (fun c7 => ?_)
          · refine r_iload (pc := 83) dX6_fewest_83 rfl ?_
            refine r_istore (pc := 85) (lo1 := [.ref 42, .int (nI k), .long (lim), .null, .int (fwM (fun x => (goL (I 55) sz nd L F) 64 (6 * (20 * k + sz k - 1) + x)) (jO I) lim i), .int (nI i), .int (nI 0)]) dX6_fewest_85 rfl (by decide) rfl ?_
            refine r_iinc (pc := 87) (v := nI (i + 1)) (lo1 := [.ref 42, .int (nI k), .long (lim), .null, .int (fwM (fun x => (goL (I 55) sz nd L F) 64 (6 * (20 * k + sz k - 1) + x)) (jO I) lim i), .int (nI (i + 1)), .int (nI 0)]) dX6_fewest_87 rfl rfl (ii1 _) (by decide) rfl ?_
            refine r_goto (pc := 90) (tgt := 26) dX6_fewest_90 (by decide) ?_
            refine r_drop (lo1 := [.ref 42, .int (nI k), .long (lim), .null, .int (fwM (fun x => (goL (I 55) sz nd L F) 64 (6 * (20 * k + sz k - 1) + x)) (jO I) lim i), .int (nI (i + 1)), .null]) 6 rfl ?_
            have e9 : fwM (fun x => (goL (I 55) sz nd L F) 64 (6 * (20 * k + sz k - 1) + x)) (jO I) lim (i + 1) = fwM (fun x => (goL (I 55) sz nd L F) 64 (6 * (20 * k + sz k - 1) + x)) (jO I) lim i := (if_neg c3).trans (if_pos c6)
            have h9 := ih (i + 1) (by omega)
            rw [e9] at h9
            exact h9
          · exact absurd c7 (by decide)
        · refine r_iconst (pc := 53) (v := nI 1) dX6_fewest_53 rfl ?_
          refine r_goto (pc := 54) (tgt := 58) dX6_fewest_54 (by decide) ?_
          refine r_istore (pc := 58) (lo1 := [.ref 42, .int (nI k), .long (lim), .null, .int (fwM (fun x => (goL (I 55) sz nd L F) 64 (6 * (20 * k + sz k - 1) + x)) (jO I) lim i), .int (nI i), .int (nI 1)]) dX6_fewest_58 rfl (by decide) rfl ?_
          refine r_iload (pc := 60) dX6_fewest_60 rfl ?_
          refine r_ifN_eq (pc := 62) (tgt := 83) dX6_fewest_62 (by decide) (by omega) (fun c8 => ?_) (fun c8 => ?_)
          · exact absurd c8 (by decide)
          · refine r_aload_n (pc := 65) dX6_fewest_65 rfl ?_
            refine r_iload_n (pc := 66) dX6_fewest_66 rfl ?_
            refine r_iload_n (pc := 67) dX6_fewest_67 rfl ?_
            refine r_iload (pc := 68) dX6_fewest_68 rfl ?_
            refine r_callV (pc := 70) (N := mX6_togetherOf) (rest := []) (s_together_same X _ (u2 I 42 0 (nI 0)) (goL (I 55) sz nd L F) F sz nd (MR_th hR) k hk (nI i)) okX6_togetherOf lkX6_256 rfl (by decide) rfl rfl rfl (Nat.le_of_ble_eq_true rfl) ⟨Nat.le_refl _, Nat.le_refl _⟩ dX6_fewest_70 ?_
            refine r_lload_n (pc := 73) dX6_fewest_73 rfl ?_
            refine r_lc_gt (pc := 74) (tgt := 83) dX6_fewest_74 dX6_fewest_75 (by decide) (fun c9 => ?_) (fun c9 => ?_)
            · refine r_iload (pc := 83) dX6_fewest_83 rfl ?_
              refine r_istore (pc := 85) (lo1 := [.ref 42, .int (nI k), .long (lim), .null, .int (fwM (fun x => (goL (I 55) sz nd L F) 64 (6 * (20 * k + sz k - 1) + x)) (jO I) lim i), .int (nI i), .int (nI 1)]) dX6_fewest_85 rfl (by decide) rfl ?_
              refine r_iinc (pc := 87) (v := nI (i + 1)) (lo1 := [.ref 42, .int (nI k), .long (lim), .null, .int (fwM (fun x => (goL (I 55) sz nd L F) 64 (6 * (20 * k + sz k - 1) + x)) (jO I) lim i), .int (nI (i + 1)), .int (nI 1)]) dX6_fewest_87 rfl rfl (ii1 _) (by decide) rfl ?_
              refine r_goto (pc := 90) (tgt := 26) dX6_fewest_90 (by decide) ?_
              refine r_drop (lo1 := [.ref 42, .int (nI k), .long (lim), .null, .int (fwM (fun x => (goL (I 55) sz nd L F) 64 (6 * (20 * k + sz k - 1) + x)) (jO I) lim i), .int (nI (i + 1)), .null]) 6 rfl ?_
              have e9 : fwM (fun x => (goL (I 55) sz nd L F) 64 (6 * (20 * k + sz k - 1) + x)) (jO I) lim (i + 1) = fwM (fun x => (goL (I 55) sz nd L F) 64 (6 * (20 * k + sz k - 1) + x)) (jO I) lim i := (if_neg c3).trans ((if_neg c6).trans (if_neg (l_nle c9)))
              have h9 := ih (i + 1) (by omega)
              rw [e9] at h9
              exact h9
            · refine r_iload (pc := 78) dX6_fewest_78 rfl ?_
              refine r_goto (pc := 80) (tgt := 85) dX6_fewest_80 (by decide) ?_
              refine r_istore (pc := 85) (lo1 := [.ref 42, .int (nI k), .long (lim), .null, .int (nI i), .int (nI i), .int (nI 1)]) dX6_fewest_85 rfl (by decide) rfl ?_
              refine r_iinc (pc := 87) (v := nI (i + 1)) (lo1 := [.ref 42, .int (nI k), .long (lim), .null, .int (nI i), .int (nI (i + 1)), .int (nI 1)]) dX6_fewest_87 rfl rfl (ii1 _) (by decide) rfl ?_
              refine r_goto (pc := 90) (tgt := 26) dX6_fewest_90 (by decide) ?_
              refine r_drop (lo1 := [.ref 42, .int (nI k), .long (lim), .null, .int (nI i), .int (nI (i + 1)), .null]) 6 rfl ?_
              have e9 : fwM (fun x => (goL (I 55) sz nd L F) 64 (6 * (20 * k + sz k - 1) + x)) (jO I) lim (i + 1) = nI i := (if_neg c3).trans ((if_neg c6).trans (if_pos c9))
              have h9 := ih (i + 1) (by omega)
              rw [e9] at h9
              exact h9
theorem q_fewest (X : Ctx) (d : Nat) (I : MI) (L : ML) (F : Nat) (sz : Nat → Nat) (nd : Nat → Nat → Nat × Nat × Nat × Nat) (hR : MR I F sz nd) (k : Nat) (hk : k < F) (lim : Int64) : Sp X mX6_fewest (d + 3) (0, 0) [.ref 42, .int (nI k), .long (lim)] shF I L (some (.int (fwM (fun x => (goL (I 55) sz nd L F) 64 (6 * (20 * k + sz k - 1) + x)) (jO I) lim 64)), shF, (u2 I 42 0 (nI 0)), (goL (I 55) sz nd L F)) := by
  obtain ⟨hF, hF4, hall⟩ := id hR
  obtain ⟨hs, hs1, hs20, -⟩ := hall k hk
  refine Sp.of okX6_fewest [.ref 42, .int (nI k), .long (lim), .null, .null, .null, .null] 3 rfl (Nat.le_of_ble_eq_true rfl) ?_
  refine r_aload_n (pc := 0) dX6_fewest_0 rfl ?_
  refine r_iconst (pc := 1) (v := nI 0) dX6_fewest_1 rfl ?_
  refine r_put (pc := 2) .int dX6_fewest_2 fX6_93 rfl rfl nf6_0 rfl rfl ?_
  refine r_aload_n (pc := 5) dX6_fewest_5 rfl ?_
  refine r_iload_n (pc := 6) dX6_fewest_6 rfl ?_
  refine r_callV (pc := 7) (N := mX6_isFormula) (rest := []) (s_isFormula_t X _ (u2 I 42 0 (nI 0)) L F k (hF) (by omega) hF4) okX6_isFormula lkX6_243 rfl (by decide) rfl rfl rfl (Nat.le_of_ble_eq_true rfl) ⟨Nat.le_refl _, Nat.le_refl _⟩ dX6_fewest_7 ?_
  refine r_ifN_ne (pc := 10) (tgt := 15) dX6_fewest_10 (by decide) (by omega) (fun c10 => ?_) (fun c10 => ?_)
  · refine r_aload_n (pc := 15) dX6_fewest_15 rfl ?_
    refine r_callV (pc := 16) (N := mX6_goes) (rest := []) (s_goes X _ (u2 I 42 0 (nI 0)) L F sz nd (MR_th hR) (hF) hF4) okX6_goes lkX6_246 rfl (by decide) rfl rfl rfl (Nat.le_of_ble_eq_true rfl) ⟨Nat.le_refl _, Nat.le_refl _⟩ dX6_fewest_16 ?_
    refine r_bipush (pc := 19) dX6_fewest_19 bp_m9 ?_
    refine r_istore (pc := 21) (lo1 := [.ref 42, .int (nI k), .long (lim), .null, .int (-9), .null, .null]) dX6_fewest_21 rfl (by decide) rfl ?_
    refine r_iconst (pc := 23) (v := nI 0) dX6_fewest_23 rfl ?_
    refine r_istore (pc := 24) (lo1 := [.ref 42, .int (nI k), .long (lim), .null, .int (-9), .int (nI 0), .null]) dX6_fewest_24 rfl (by decide) rfl ?_
    exact lp_qfewest X d I L F sz nd hR k hk lim 64 0 rfl
  · exact absurd c10 (by decide)
theorem lp_qfirst_0 (X : Ctx) (d : Nat) (I : MI) (L : ML) (F : Nat) (sz : Nat → Nat) (nd : Nat → Nat → Nat × Nat × Nat × Nat) (hR : MR I F sz nd) (k : Nat) (hk : k < F) : ∀ (z i : Nat), i + z = 6 → Ev X mX6_first (d + 4) (0, 0) (0, 0) (some (.int ((fiM (fun x => toO (fun x => (goL (I 55) sz nd L F) 64 (6 * (20 * k + sz k - 1) + x)) (fun x => (goL (I 55) sz nd L F) 64 (6 * (20 * k + sz k - 1) + x)) (jO I) (nI 0) 6 - toO (fun x => (goL (I 55) sz nd L F) 64 (6 * (20 * k + sz k - 1) + x)) (fun x => (goL (I 55) sz nd L F) 64 (6 * (20 * k + sz k - 1) + x)) (jO I) (nI 1 <<< (nI x &&& 31)) 6) 6).1)), shF, (u2 I 42 0 (nI 0)), (goL (I 55) sz nd L F)) 36 [.ref 42, .int (nI k), .int (nI 0), .int ((fiM (fun x => toO (fun x => (goL (I 55) sz nd L F) 64 (6 * (20 * k + sz k - 1) + x)) (fun x => (goL (I 55) sz nd L F) 64 (6 * (20 * k + sz k - 1) + x)) (jO I) (nI 0) 6 - toO (fun x => (goL (I 55) sz nd L F) 64 (6 * (20 * k + sz k - 1) + x)) (fun x => (goL (I 55) sz nd L F) 64 (6 * (20 * k + sz k - 1) + x)) (jO I) (nI 1 <<< (nI x &&& 31)) 6) i).1), .long ((fiM (fun x => toO (fun x => (goL (I 55) sz nd L F) 64 (6 * (20 * k + sz k - 1) + x)) (fun x => (goL (I 55) sz nd L F) 64 (6 * (20 * k + sz k - 1) + x)) (jO I) (nI 0) 6 - toO (fun x => (goL (I 55) sz nd L F) 64 (6 * (20 * k + sz k - 1) + x)) (fun x => (goL (I 55) sz nd L F) 64 (6 * (20 * k + sz k - 1) + x)) (jO I) (nI 1 <<< (nI x &&& 31)) 6) i).2), .null, .int (nI i), .null, .null] [] shF (u2 I 42 0 (nI 0)) (goL (I 55) sz nd L F) := by
  intro z
  induction z with
  | zero =>
    intro i hi
    obtain ⟨hF, hF4, hall⟩ := id hR
    obtain ⟨hs, hs1, hs20, -⟩ := hall k hk
    have hi2 : i = 6 := by omega
    rw [hi2]
    refine r_iload (pc := 36) dX6_first_36 rfl ?_
    refine r_bipush (pc := 38) dX6_first_38 bp_6 ?_
    refine r_icmpN_ge (pc := 40) (tgt := 114) dX6_first_40 (by decide) (by omega) (by omega) (fun c1 => ?_) (fun c1 => ?_)
    · refine r_iload_n (pc := 114) dX6_first_114 rfl ?_
      exact r_iret dX6_first_115 rfl (rfl) rfl
    · exact absurd c1 (by decide)
  | succ z ih =>
    intro i hi
    obtain ⟨hF, hF4, hall⟩ := id hR
    obtain ⟨hs, hs1, hs20, -⟩ := hall k hk
    refine r_iload (pc := 36) dX6_first_36 rfl ?_
    refine r_bipush (pc := 38) dX6_first_38 bp_6 ?_
    refine r_icmpN_ge (pc := 40) (tgt := 114) dX6_first_40 (by decide) (by omega) (by omega) (fun c2 => ?_) (fun c2 => ?_)
    · exact absurd c2 (by omega)
    · refine r_iload_n (pc := 43) dX6_first_43 rfl ?_
      refine r_ifN_ne (pc := 44) (tgt := 57) dX6_first_44 (by decide) (by omega) (fun c3 => ?_) (fun c3 => ?_)
      · exact absurd c3 (by decide)
      · refine r_aload_n (pc := 47) dX6_first_47 rfl ?_
        refine r_iload_n (pc := 48) dX6_first_48 rfl ?_
        refine r_iload (pc := 49) dX6_first_49 rfl ?_
        refine r_callV (pc := 51) (N := mX6_takesOf) (rest := []) (s_takesOf X _ (u2 I 42 0 (nI 0)) (goL (I 55) sz nd L F) F sz nd (MR_th hR) k hk i) okX6_takesOf lkX6_266 rfl (by decide) rfl rfl rfl (Nat.le_of_ble_eq_true rfl) ⟨Nat.le_refl _, Nat.le_refl _⟩ dX6_first_51 ?_
        refine r_goto (pc := 54) (tgt := 64) dX6_first_54 (by decide) ?_
        refine r_lstore (pc := 64) (lo1 := [.ref 42, .int (nI k), .int (nI 0), .int ((fiM (fun x => toO (fun x => (goL (I 55) sz nd L F) 64 (6 * (20 * k + sz k - 1) + x)) (fun x => (goL (I 55) sz nd L F) 64 (6 * (20 * k + sz k - 1) + x)) (jO I) (nI 0) 6 - toO (fun x => (goL (I 55) sz nd L F) 64 (6 * (20 * k + sz k - 1) + x)) (fun x => (goL (I 55) sz nd L F) 64 (6 * (20 * k + sz k - 1) + x)) (jO I) (nI 1 <<< (nI x &&& 31)) 6) i).1), .long ((fiM (fun x => toO (fun x => (goL (I 55) sz nd L F) 64 (6 * (20 * k + sz k - 1) + x)) (fun x => (goL (I 55) sz nd L F) 64 (6 * (20 * k + sz k - 1) + x)) (jO I) (nI 0) 6 - toO (fun x => (goL (I 55) sz nd L F) 64 (6 * (20 * k + sz k - 1) + x)) (fun x => (goL (I 55) sz nd L F) 64 (6 * (20 * k + sz k - 1) + x)) (jO I) (nI 1 <<< (nI x &&& 31)) 6) i).2), .null, .int (nI i), .long (toO (fun x => (goL (I 55) sz nd L F) 64 (6 * (20 * k + sz k - 1) + x)) (fun x => (goL (I 55) sz nd L F) 64 (6 * (20 * k + sz k - 1) + x)) (jO I) (nI 0) 6 - toO (fun x => (goL (I 55) sz nd L F) 64 (6 * (20 * k + sz k - 1) + x)) (fun x => (goL (I 55) sz nd L F) 64 (6 * (20 * k + sz k - 1) + x)) (jO I) (nI 1 <<< (nI i &&& 31)) 6), .null]) dX6_first_64 rfl (by decide) rfl ?_
        refine r_iload (pc := 66) dX6_first_66 rfl ?_
        refine r_ifN_eq (pc := 68) (tgt := 79) dX6_first_68 (by decide) (by omega) (fun c4 => ?_) (fun c4 => ?_)
        · refine r_iload (pc := 79) dX6_first_79 rfl ?_
          refine r_goto (pc := 81) (tgt := 85) dX6_first_81 (by decide) ?_
          refine r_istore_n (pc := 85) (lo1 := [.ref 42, .int (nI k), .int (nI 0), .int (nI i), .long ((fiM (fun x => toO (fun x => (goL (I 55) sz nd L F) 64 (6 * (20 * k + sz k - 1) + x)) (fun x => (goL (I 55) sz nd L F) 64 (6 * (20 * k + sz k - 1) + x)) (jO I) (nI 0) 6 - toO (fun x => (goL (I 55) sz nd L F) 64 (6 * (20 * k + sz k - 1) + x)) (fun x => (goL (I 55) sz nd L F) 64 (6 * (20 * k + sz k - 1) + x)) (jO I) (nI 1 <<< (nI x &&& 31)) 6) i).2), .null, .int (nI i), .long (toO (fun x => (goL (I 55) sz nd L F) 64 (6 * (20 * k + sz k - 1) + x)) (fun x => (goL (I 55) sz nd L F) 64 (6 * (20 * k + sz k - 1) + x)) (jO I) (nI 0) 6 - toO (fun x => (goL (I 55) sz nd L F) 64 (6 * (20 * k + sz k - 1) + x)) (fun x => (goL (I 55) sz nd L F) 64 (6 * (20 * k + sz k - 1) + x)) (jO I) (nI 1 <<< (nI i &&& 31)) 6), .null]) dX6_first_85 rfl (by decide) rfl ?_
          refine r_iload (pc := 86) dX6_first_86 rfl ?_
          refine r_ifN_eq (pc := 88) (tgt := 99) dX6_first_88 (by decide) (by omega) (fun c5 => ?_) (fun c5 => ?_)
          · refine r_lload (pc := 99) dX6_first_99 rfl ?_
            refine r_goto (pc := 101) (tgt := 106) dX6_first_101 (by decide) ?_
            refine r_lstore (pc := 106) (lo1 := [.ref 42, .int (nI k), .int (nI 0), .int (nI i), .long (toO (fun x => (goL (I 55) sz nd L F) 64 (6 * (20 * k + sz k - 1) + x)) (fun x => (goL (I 55) sz nd L F) 64 (6 * (20 * k + sz k - 1) + x)) (jO I) (nI 0) 6 - toO (fun x => (goL (I 55) sz nd L F) 64 (6 * (20 * k + sz k - 1) + x)) (fun x => (goL (I 55) sz nd L F) 64 (6 * (20 * k + sz k - 1) + x)) (jO I) (nI 1 <<< (nI i &&& 31)) 6), .null, .int (nI i), .long (toO (fun x => (goL (I 55) sz nd L F) 64 (6 * (20 * k + sz k - 1) + x)) (fun x => (goL (I 55) sz nd L F) 64 (6 * (20 * k + sz k - 1) + x)) (jO I) (nI 0) 6 - toO (fun x => (goL (I 55) sz nd L F) 64 (6 * (20 * k + sz k - 1) + x)) (fun x => (goL (I 55) sz nd L F) 64 (6 * (20 * k + sz k - 1) + x)) (jO I) (nI 1 <<< (nI i &&& 31)) 6), .null]) dX6_first_106 rfl (by decide) rfl ?_
            refine r_iinc (pc := 108) (v := nI (i + 1)) (lo1 := [.ref 42, .int (nI k), .int (nI 0), .int (nI i), .long (toO (fun x => (goL (I 55) sz nd L F) 64 (6 * (20 * k + sz k - 1) + x)) (fun x => (goL (I 55) sz nd L F) 64 (6 * (20 * k + sz k - 1) + x)) (jO I) (nI 0) 6 - toO (fun x => (goL (I 55) sz nd L F) 64 (6 * (20 * k + sz k - 1) + x)) (fun x => (goL (I 55) sz nd L F) 64 (6 * (20 * k + sz k - 1) + x)) (jO I) (nI 1 <<< (nI i &&& 31)) 6), .null, .int (nI (i + 1)), .long (toO (fun x => (goL (I 55) sz nd L F) 64 (6 * (20 * k + sz k - 1) + x)) (fun x => (goL (I 55) sz nd L F) 64 (6 * (20 * k + sz k - 1) + x)) (jO I) (nI 0) 6 - toO (fun x => (goL (I 55) sz nd L F) 64 (6 * (20 * k + sz k - 1) + x)) (fun x => (goL (I 55) sz nd L F) 64 (6 * (20 * k + sz k - 1) + x)) (jO I) (nI 1 <<< (nI i &&& 31)) 6), .null]) dX6_first_108 rfl rfl (ii1 _) (by decide) rfl ?_
            refine r_goto (pc := 111) (tgt := 36) dX6_first_111 (by decide) ?_
            refine r_drop (lo1 := [.ref 42, .int (nI k), .int (nI 0), .int (nI i), .long (toO (fun x => (goL (I 55) sz nd L F) 64 (6 * (20 * k + sz k - 1) + x)) (fun x => (goL (I 55) sz nd L F) 64 (6 * (20 * k + sz k - 1) + x)) (jO I) (nI 0) 6 - toO (fun x => (goL (I 55) sz nd L F) 64 (6 * (20 * k + sz k - 1) + x)) (fun x => (goL (I 55) sz nd L F) 64 (6 * (20 * k + sz k - 1) + x)) (jO I) (nI 1 <<< (nI i &&& 31)) 6), .null, .int (nI (i + 1)), .null, .null]) 7 rfl ?_
            have e9 : fiM (fun x => toO (fun x => (goL (I 55) sz nd L F) 64 (6 * (20 * k + sz k - 1) + x)) (fun x => (goL (I 55) sz nd L F) 64 (6 * (20 * k + sz k - 1) + x)) (jO I) (nI 0) 6 - toO (fun x => (goL (I 55) sz nd L F) 64 (6 * (20 * k + sz k - 1) + x)) (fun x => (goL (I 55) sz nd L F) 64 (6 * (20 * k + sz k - 1) + x)) (jO I) (nI 1 <<< (nI x &&& 31)) 6) (i + 1) = (nI i, toO (fun x => (goL (I 55) sz nd L F) 64 (6 * (20 * k + sz k - 1) + x)) (fun x => (goL (I 55) sz nd L F) 64 (6 * (20 * k + sz k - 1) + x)) (jO I) (nI 0) 6 - toO (fun x => (goL (I 55) sz nd L F) 64 (6 * (20 * k + sz k - 1) + x)) (fun x => (goL (I 55) sz nd L F) 64 (6 * (20 * k + sz k - 1) + x)) (jO I) (nI 1 <<< (nI i &&& 31)) 6) := if_pos c4
            have h9 := ih (i + 1) (by omega)
            rw [e9] at h9
            exact h9
          · exact absurd c5 (by omega)
        · refine r_lload (pc := 71) dX6_first_71 rfl ?_
          refine r_lload (pc := 73) dX6_first_73 rfl ?_
          refine r_lc_le (pc := 75) (tgt := 84) dX6_first_75 dX6_first_76 (by decide) (fun c6 => ?_) (fun c6 => ?_)
          · refine r_iload_n (pc := 84) dX6_first_84 rfl ?_
            refine r_istore_n (pc := 85) (lo1 := [.ref 42, .int (nI k), .int (nI 0), .int ((fiM (fun x => toO (fun x => (goL (I 55) sz nd L F) 64 (6 * (20 * k + sz k - 1) + x)) (fun x => (goL (I 55) sz nd L F) 64 (6 * (20 * k + sz k - 1) + x)) (jO I) (nI 0) 6 - toO (fun x => (goL (I 55) sz nd L F) 64 (6 * (20 * k + sz k - 1) + x)) (fun x => (goL (I 55) sz nd L F) 64 (6 * (20 * k + sz k - 1) + x)) (jO I) (nI 1 <<< (nI x &&& 31)) 6) i).1), .long ((fiM (fun x => toO (fun x => (goL (I 55) sz nd L F) 64 (6 * (20 * k + sz k - 1) + x)) (fun x => (goL (I 55) sz nd L F) 64 (6 * (20 * k + sz k - 1) + x)) (jO I) (nI 0) 6 - toO (fun x => (goL (I 55) sz nd L F) 64 (6 * (20 * k + sz k - 1) + x)) (fun x => (goL (I 55) sz nd L F) 64 (6 * (20 * k + sz k - 1) + x)) (jO I) (nI 1 <<< (nI x &&& 31)) 6) i).2), .null, .int (nI i), .long (toO (fun x => (goL (I 55) sz nd L F) 64 (6 * (20 * k + sz k - 1) + x)) (fun x => (goL (I 55) sz nd L F) 64 (6 * (20 * k + sz k - 1) + x)) (jO I) (nI 0) 6 - toO (fun x => (goL (I 55) sz nd L F) 64 (6 * (20 * k + sz k - 1) + x)) (fun x => (goL (I 55) sz nd L F) 64 (6 * (20 * k + sz k - 1) + x)) (jO I) (nI 1 <<< (nI i &&& 31)) 6), .null]) dX6_first_85 rfl (by decide) rfl ?_
            refine r_iload (pc := 86) dX6_first_86 rfl ?_
            refine r_ifN_eq (pc := 88) (tgt := 99) dX6_first_88 (by decide) (by omega) (fun c7 => ?_) (fun c7 => ?_)
            · exact absurd c7 (by omega)
            · refine r_lload (pc := 91) dX6_first_91 rfl ?_
              refine r_lload (pc := 93) dX6_first_93 rfl ?_
              refine r_lc_le (pc := 95) (tgt := 104) dX6_first_95 dX6_first_96 (by decide) (fun c8 => ?_) (fun c8 => ?_)
              · refine r_lload (pc := 104) dX6_first_104 rfl ?_
                refine r_lstore (pc := 106) (lo1 := [.ref 42, .int (nI k), .int (nI 0), .int ((fiM (fun x => toO (fun x => (goL (I 55) sz nd L F) 64 (6 * (20 * k + sz k - 1) + x)) (fun x => (goL (I 55) sz nd L F) 64 (6 * (20 * k + sz k - 1) + x)) (jO I) (nI 0) 6 - toO (fun x => (goL (I 55) sz nd L F) 64 (6 * (20 * k + sz k - 1) + x)) (fun x => (goL (I 55) sz nd L F) 64 (6 * (20 * k + sz k - 1) + x)) (jO I) (nI 1 <<< (nI x &&& 31)) 6) i).1), .long ((fiM (fun x => toO (fun x => (goL (I 55) sz nd L F) 64 (6 * (20 * k + sz k - 1) + x)) (fun x => (goL (I 55) sz nd L F) 64 (6 * (20 * k + sz k - 1) + x)) (jO I) (nI 0) 6 - toO (fun x => (goL (I 55) sz nd L F) 64 (6 * (20 * k + sz k - 1) + x)) (fun x => (goL (I 55) sz nd L F) 64 (6 * (20 * k + sz k - 1) + x)) (jO I) (nI 1 <<< (nI x &&& 31)) 6) i).2), .null, .int (nI i), .long (toO (fun x => (goL (I 55) sz nd L F) 64 (6 * (20 * k + sz k - 1) + x)) (fun x => (goL (I 55) sz nd L F) 64 (6 * (20 * k + sz k - 1) + x)) (jO I) (nI 0) 6 - toO (fun x => (goL (I 55) sz nd L F) 64 (6 * (20 * k + sz k - 1) + x)) (fun x => (goL (I 55) sz nd L F) 64 (6 * (20 * k + sz k - 1) + x)) (jO I) (nI 1 <<< (nI i &&& 31)) 6), .null]) dX6_first_106 rfl (by decide) rfl ?_
                refine r_iinc (pc := 108) (v := nI (i + 1)) (lo1 := [.ref 42, .int (nI k), .int (nI 0), .int ((fiM (fun x => toO (fun x => (goL (I 55) sz nd L F) 64 (6 * (20 * k + sz k - 1) + x)) (fun x => (goL (I 55) sz nd L F) 64 (6 * (20 * k + sz k - 1) + x)) (jO I) (nI 0) 6 - toO (fun x => (goL (I 55) sz nd L F) 64 (6 * (20 * k + sz k - 1) + x)) (fun x => (goL (I 55) sz nd L F) 64 (6 * (20 * k + sz k - 1) + x)) (jO I) (nI 1 <<< (nI x &&& 31)) 6) i).1), .long ((fiM (fun x => toO (fun x => (goL (I 55) sz nd L F) 64 (6 * (20 * k + sz k - 1) + x)) (fun x => (goL (I 55) sz nd L F) 64 (6 * (20 * k + sz k - 1) + x)) (jO I) (nI 0) 6 - toO (fun x => (goL (I 55) sz nd L F) 64 (6 * (20 * k + sz k - 1) + x)) (fun x => (goL (I 55) sz nd L F) 64 (6 * (20 * k + sz k - 1) + x)) (jO I) (nI 1 <<< (nI x &&& 31)) 6) i).2), .null, .int (nI (i + 1)), .long (toO (fun x => (goL (I 55) sz nd L F) 64 (6 * (20 * k + sz k - 1) + x)) (fun x => (goL (I 55) sz nd L F) 64 (6 * (20 * k + sz k - 1) + x)) (jO I) (nI 0) 6 - toO (fun x => (goL (I 55) sz nd L F) 64 (6 * (20 * k + sz k - 1) + x)) (fun x => (goL (I 55) sz nd L F) 64 (6 * (20 * k + sz k - 1) + x)) (jO I) (nI 1 <<< (nI i &&& 31)) 6), .null]) dX6_first_108 rfl rfl (ii1 _) (by decide) rfl ?_
                refine r_goto (pc := 111) (tgt := 36) dX6_first_111 (by decide) ?_
                refine r_drop (lo1 := [.ref 42, .int (nI k), .int (nI 0), .int ((fiM (fun x => toO (fun x => (goL (I 55) sz nd L F) 64 (6 * (20 * k + sz k - 1) + x)) (fun x => (goL (I 55) sz nd L F) 64 (6 * (20 * k + sz k - 1) + x)) (jO I) (nI 0) 6 - toO (fun x => (goL (I 55) sz nd L F) 64 (6 * (20 * k + sz k - 1) + x)) (fun x => (goL (I 55) sz nd L F) 64 (6 * (20 * k + sz k - 1) + x)) (jO I) (nI 1 <<< (nI x &&& 31)) 6) i).1), .long ((fiM (fun x => toO (fun x => (goL (I 55) sz nd L F) 64 (6 * (20 * k + sz k - 1) + x)) (fun x => (goL (I 55) sz nd L F) 64 (6 * (20 * k + sz k - 1) + x)) (jO I) (nI 0) 6 - toO (fun x => (goL (I 55) sz nd L F) 64 (6 * (20 * k + sz k - 1) + x)) (fun x => (goL (I 55) sz nd L F) 64 (6 * (20 * k + sz k - 1) + x)) (jO I) (nI 1 <<< (nI x &&& 31)) 6) i).2), .null, .int (nI (i + 1)), .null, .null]) 7 rfl ?_
                have e9 : fiM (fun x => toO (fun x => (goL (I 55) sz nd L F) 64 (6 * (20 * k + sz k - 1) + x)) (fun x => (goL (I 55) sz nd L F) 64 (6 * (20 * k + sz k - 1) + x)) (jO I) (nI 0) 6 - toO (fun x => (goL (I 55) sz nd L F) 64 (6 * (20 * k + sz k - 1) + x)) (fun x => (goL (I 55) sz nd L F) 64 (6 * (20 * k + sz k - 1) + x)) (jO I) (nI 1 <<< (nI x &&& 31)) 6) (i + 1) = (fiM (fun x => toO (fun x => (goL (I 55) sz nd L F) 64 (6 * (20 * k + sz k - 1) + x)) (fun x => (goL (I 55) sz nd L F) 64 (6 * (20 * k + sz k - 1) + x)) (jO I) (nI 0) 6 - toO (fun x => (goL (I 55) sz nd L F) 64 (6 * (20 * k + sz k - 1) + x)) (fun x => (goL (I 55) sz nd L F) 64 (6 * (20 * k + sz k - 1) + x)) (jO I) (nI 1 <<< (nI x &&& 31)) 6) i) := (if_neg c4).trans (if_neg (l_nlt c6))
                have h9 := ih (i + 1) (by omega)
                rw [e9] at h9
                exact h9
              · exact absurd c8 (l_nlt c6)
          · refine r_iload (pc := 79) dX6_first_79 rfl ?_
            refine r_goto (pc := 81) (tgt := 85) dX6_first_81 (by decide) ?_
            refine r_istore_n (pc := 85) (lo1 := [.ref 42, .int (nI k), .int (nI 0), .int (nI i), .long ((fiM (fun x => toO (fun x => (goL (I 55) sz nd L F) 64 (6 * (20 * k + sz k - 1) + x)) (fun x => (goL (I 55) sz nd L F) 64 (6 * (20 * k + sz k - 1) + x)) (jO I) (nI 0) 6 - toO (fun x => (goL (I 55) sz nd L F) 64 (6 * (20 * k + sz k - 1) + x)) (fun x => (goL (I 55) sz nd L F) 64 (6 * (20 * k + sz k - 1) + x)) (jO I) (nI 1 <<< (nI x &&& 31)) 6) i).2), .null, .int (nI i), .long (toO (fun x => (goL (I 55) sz nd L F) 64 (6 * (20 * k + sz k - 1) + x)) (fun x => (goL (I 55) sz nd L F) 64 (6 * (20 * k + sz k - 1) + x)) (jO I) (nI 0) 6 - toO (fun x => (goL (I 55) sz nd L F) 64 (6 * (20 * k + sz k - 1) + x)) (fun x => (goL (I 55) sz nd L F) 64 (6 * (20 * k + sz k - 1) + x)) (jO I) (nI 1 <<< (nI i &&& 31)) 6), .null]) dX6_first_85 rfl (by decide) rfl ?_
            refine r_iload (pc := 86) dX6_first_86 rfl ?_
            refine r_ifN_eq (pc := 88) (tgt := 99) dX6_first_88 (by decide) (by omega) (fun c9 => ?_) (fun c9 => ?_)
            · exact absurd c9 (by omega)
            · refine r_lload (pc := 91) dX6_first_91 rfl ?_
              refine r_lload (pc := 93) dX6_first_93 rfl ?_
              refine r_lc_le (pc := 95) (tgt := 104) dX6_first_95 dX6_first_96 (by decide) (fun c10 => ?_) (fun c10 => ?_)
              · exact absurd c6 (l_nlt c10)
              · refine r_lload (pc := 99) dX6_first_99 rfl ?_
                refine r_goto (pc := 101) (tgt := 106) dX6_first_101 (by decide) ?_
                refine r_lstore (pc := 106) (lo1 := [.ref 42, .int (nI k), .int (nI 0), .int (nI i), .long (toO (fun x => (goL (I 55) sz nd L F) 64 (6 * (20 * k + sz k - 1) + x)) (fun x => (goL (I 55) sz nd L F) 64 (6 * (20 * k + sz k - 1) + x)) (jO I) (nI 0) 6 - toO (fun x => (goL (I 55) sz nd L F) 64 (6 * (20 * k + sz k - 1) + x)) (fun x => (goL (I 55) sz nd L F) 64 (6 * (20 * k + sz k - 1) + x)) (jO I) (nI 1 <<< (nI i &&& 31)) 6), .null, .int (nI i), .long (toO (fun x => (goL (I 55) sz nd L F) 64 (6 * (20 * k + sz k - 1) + x)) (fun x => (goL (I 55) sz nd L F) 64 (6 * (20 * k + sz k - 1) + x)) (jO I) (nI 0) 6 - toO (fun x => (goL (I 55) sz nd L F) 64 (6 * (20 * k + sz k - 1) + x)) (fun x => (goL (I 55) sz nd L F) 64 (6 * (20 * k + sz k - 1) + x)) (jO I) (nI 1 <<< (nI i &&& 31)) 6), .null]) dX6_first_106 rfl (by decide) rfl ?_
                refine r_iinc (pc := 108) (v := nI (i + 1)) (lo1 := [.ref 42, .int (nI k), .int (nI 0), .int (nI i), .long (toO (fun x => (goL (I 55) sz nd L F) 64 (6 * (20 * k + sz k - 1) + x)) (fun x => (goL (I 55) sz nd L F) 64 (6 * (20 * k + sz k - 1) + x)) (jO I) (nI 0) 6 - toO (fun x => (goL (I 55) sz nd L F) 64 (6 * (20 * k + sz k - 1) + x)) (fun x => (goL (I 55) sz nd L F) 64 (6 * (20 * k + sz k - 1) + x)) (jO I) (nI 1 <<< (nI i &&& 31)) 6), .null, .int (nI (i + 1)), .long (toO (fun x => (goL (I 55) sz nd L F) 64 (6 * (20 * k + sz k - 1) + x)) (fun x => (goL (I 55) sz nd L F) 64 (6 * (20 * k + sz k - 1) + x)) (jO I) (nI 0) 6 - toO (fun x => (goL (I 55) sz nd L F) 64 (6 * (20 * k + sz k - 1) + x)) (fun x => (goL (I 55) sz nd L F) 64 (6 * (20 * k + sz k - 1) + x)) (jO I) (nI 1 <<< (nI i &&& 31)) 6), .null]) dX6_first_108 rfl rfl (ii1 _) (by decide) rfl ?_
                refine r_goto (pc := 111) (tgt := 36) dX6_first_111 (by decide) ?_
                refine r_drop (lo1 := [.ref 42, .int (nI k), .int (nI 0), .int (nI i), .long (toO (fun x => (goL (I 55) sz nd L F) 64 (6 * (20 * k + sz k - 1) + x)) (fun x => (goL (I 55) sz nd L F) 64 (6 * (20 * k + sz k - 1) + x)) (jO I) (nI 0) 6 - toO (fun x => (goL (I 55) sz nd L F) 64 (6 * (20 * k + sz k - 1) + x)) (fun x => (goL (I 55) sz nd L F) 64 (6 * (20 * k + sz k - 1) + x)) (jO I) (nI 1 <<< (nI i &&& 31)) 6), .null, .int (nI (i + 1)), .null, .null]) 7 rfl ?_
                have e9 : fiM (fun x => toO (fun x => (goL (I 55) sz nd L F) 64 (6 * (20 * k + sz k - 1) + x)) (fun x => (goL (I 55) sz nd L F) 64 (6 * (20 * k + sz k - 1) + x)) (jO I) (nI 0) 6 - toO (fun x => (goL (I 55) sz nd L F) 64 (6 * (20 * k + sz k - 1) + x)) (fun x => (goL (I 55) sz nd L F) 64 (6 * (20 * k + sz k - 1) + x)) (jO I) (nI 1 <<< (nI x &&& 31)) 6) (i + 1) = (nI i, toO (fun x => (goL (I 55) sz nd L F) 64 (6 * (20 * k + sz k - 1) + x)) (fun x => (goL (I 55) sz nd L F) 64 (6 * (20 * k + sz k - 1) + x)) (jO I) (nI 0) 6 - toO (fun x => (goL (I 55) sz nd L F) 64 (6 * (20 * k + sz k - 1) + x)) (fun x => (goL (I 55) sz nd L F) 64 (6 * (20 * k + sz k - 1) + x)) (jO I) (nI 1 <<< (nI i &&& 31)) 6) := (if_neg c4).trans (if_pos c6)
                have h9 := ih (i + 1) (by omega)
                rw [e9] at h9
                exact h9
theorem q_first_0 (X : Ctx) (d : Nat) (I : MI) (L : ML) (F : Nat) (sz : Nat → Nat) (nd : Nat → Nat → Nat × Nat × Nat × Nat) (hR : MR I F sz nd) (k : Nat) (hk : k < F) : Sp X mX6_first (d + 4) (0, 0) [.ref 42, .int (nI k), .int (nI 0)] shF I L (some (.int ((fiM (fun x => toO (fun x => (goL (I 55) sz nd L F) 64 (6 * (20 * k + sz k - 1) + x)) (fun x => (goL (I 55) sz nd L F) 64 (6 * (20 * k + sz k - 1) + x)) (jO I) (nI 0) 6 - toO (fun x => (goL (I 55) sz nd L F) 64 (6 * (20 * k + sz k - 1) + x)) (fun x => (goL (I 55) sz nd L F) 64 (6 * (20 * k + sz k - 1) + x)) (jO I) (nI 1 <<< (nI x &&& 31)) 6) 6).1)), shF, (u2 I 42 0 (nI 0)), (goL (I 55) sz nd L F)) := by
  obtain ⟨hF, hF4, hall⟩ := id hR
  obtain ⟨hs, hs1, hs20, -⟩ := hall k hk
  refine Sp.of okX6_first [.ref 42, .int (nI k), .int (nI 0), .null, .null, .null, .null, .null, .null] 6 rfl (Nat.le_of_ble_eq_true rfl) ?_
  refine r_aload_n (pc := 0) dX6_first_0 rfl ?_
  refine r_iconst (pc := 1) (v := nI 0) dX6_first_1 rfl ?_
  refine r_put (pc := 2) .int dX6_first_2 fX6_93 rfl rfl nf6_0 rfl rfl ?_
  refine r_aload_n (pc := 5) dX6_first_5 rfl ?_
  refine r_iload_n (pc := 6) dX6_first_6 rfl ?_
  refine r_callV (pc := 7) (N := mX6_isFormula) (rest := []) (s_isFormula_t X _ (u2 I 42 0 (nI 0)) L F k (hF) (by omega) hF4) okX6_isFormula lkX6_243 rfl (by decide) rfl rfl rfl (Nat.le_of_ble_eq_true rfl) ⟨Nat.le_refl _, Nat.le_refl _⟩ dX6_first_7 ?_
  refine r_ifN_eq (pc := 10) (tgt := 22) dX6_first_10 (by decide) (by omega) (fun c11 => ?_) (fun c11 => ?_)
  · exact absurd c11 (by decide)
  · refine r_iload_n (pc := 13) dX6_first_13 rfl ?_
    refine r_iconst (pc := 14) (v := nI 0) dX6_first_14 rfl ?_
    refine r_iconst (pc := 15) (v := nI 1) dX6_first_15 rfl ?_
    refine r_callS (pc := 16) (N := mX6_in) (rest := []) (s_in_t X _ (u2 I 42 0 (nI 0)) L (nI 0) (nI 0) (nI 1) (nI_nlt (by omega) (by omega)) (nI_nlt (by omega) (by omega))) okX6_in lkX6_97 rfl rfl (Nat.le_of_ble_eq_true rfl) ⟨Nat.le_refl _, Nat.le_refl _⟩ dX6_first_16 ?_
    refine r_ifN_ne (pc := 19) (tgt := 24) dX6_first_19 (by decide) (by omega) (fun c12 => ?_) (fun c12 => ?_)
    · refine r_aload_n (pc := 24) dX6_first_24 rfl ?_
      refine r_callV (pc := 25) (N := mX6_goes) (rest := []) (s_goes X _ (u2 I 42 0 (nI 0)) L F sz nd (MR_th hR) (hF) hF4) okX6_goes lkX6_246 rfl (by decide) rfl rfl rfl (Nat.le_of_ble_eq_true rfl) ⟨Nat.le_refl _, Nat.le_refl _⟩ dX6_first_25 ?_
      refine r_iconst (pc := 28) (v := nI 0) dX6_first_28 rfl ?_
      refine r_istore_n (pc := 29) (lo1 := [.ref 42, .int (nI k), .int (nI 0), .int (nI 0), .null, .null, .null, .null, .null]) dX6_first_29 rfl (by decide) rfl ?_
      refine r_lconst (pc := 30) (v := 0) dX6_first_30 rfl ?_
      refine r_lstore (pc := 31) (lo1 := [.ref 42, .int (nI k), .int (nI 0), .int (nI 0), .long (0), .null, .null, .null, .null]) dX6_first_31 rfl (by decide) rfl ?_
      refine r_iconst (pc := 33) (v := nI 0) dX6_first_33 rfl ?_
      refine r_istore (pc := 34) (lo1 := [.ref 42, .int (nI k), .int (nI 0), .int (nI 0), .long (0), .null, .int (nI 0), .null, .null]) dX6_first_34 rfl (by decide) rfl ?_
      exact lp_qfirst_0 X d I L F sz nd hR k hk 6 0 rfl
    · exact absurd c12 (by decide)
theorem lp_qfirst_1 (X : Ctx) (d : Nat) (I : MI) (L : ML) (F : Nat) (sz : Nat → Nat) (nd : Nat → Nat → Nat × Nat × Nat × Nat) (hR : MR I F sz nd) (k : Nat) (hk : k < F) : ∀ (z i : Nat), i + z = 6 → Ev X mX6_first (d + 4) (0, 0) (0, 0) (some (.int ((fiM (fun x => shO (fun x => (goL (I 55) sz nd L F) 64 (6 * (20 * k + sz k - 1) + x)) (jO I) x 6) 6).1)), shF, (u2 I 42 0 (nI 0)), (goL (I 55) sz nd L F)) 36 [.ref 42, .int (nI k), .int (nI 1), .int ((fiM (fun x => shO (fun x => (goL (I 55) sz nd L F) 64 (6 * (20 * k + sz k - 1) + x)) (jO I) x 6) i).1), .long ((fiM (fun x => shO (fun x => (goL (I 55) sz nd L F) 64 (6 * (20 * k + sz k - 1) + x)) (jO I) x 6) i).2), .null, .int (nI i), .null, .null] [] shF (u2 I 42 0 (nI 0)) (goL (I 55) sz nd L F) := by
  intro z
  induction z with
  | zero =>
    intro i hi
    obtain ⟨hF, hF4, hall⟩ := id hR
    obtain ⟨hs, hs1, hs20, -⟩ := hall k hk
    have hi2 : i = 6 := by omega
    rw [hi2]
    refine r_iload (pc := 36) dX6_first_36 rfl ?_
    refine r_bipush (pc := 38) dX6_first_38 bp_6 ?_
    refine r_icmpN_ge (pc := 40) (tgt := 114) dX6_first_40 (by decide) (by omega) (by omega) (fun c1 => ?_) (fun c1 => ?_)
    · refine r_iload_n (pc := 114) dX6_first_114 rfl ?_
      exact r_iret dX6_first_115 rfl (rfl) rfl
    · exact absurd c1 (by decide)
  | succ z ih =>
    intro i hi
    obtain ⟨hF, hF4, hall⟩ := id hR
    obtain ⟨hs, hs1, hs20, -⟩ := hall k hk
    refine r_iload (pc := 36) dX6_first_36 rfl ?_
    refine r_bipush (pc := 38) dX6_first_38 bp_6 ?_
    refine r_icmpN_ge (pc := 40) (tgt := 114) dX6_first_40 (by decide) (by omega) (by omega) (fun c2 => ?_) (fun c2 => ?_)
    · exact absurd c2 (by omega)
    · refine r_iload_n (pc := 43) dX6_first_43 rfl ?_
      refine r_ifN_ne (pc := 44) (tgt := 57) dX6_first_44 (by decide) (by omega) (fun c3 => ?_) (fun c3 => ?_)
      · refine r_aload_n (pc := 57) dX6_first_57 rfl ?_
        refine r_iload_n (pc := 58) dX6_first_58 rfl ?_
        refine r_iload (pc := 59) dX6_first_59 rfl ?_
        refine r_callV (pc := 61) (N := mX6_shareOf) (rest := []) (s_shareOf X _ (u2 I 42 0 (nI 0)) (goL (I 55) sz nd L F) F sz nd (MR_th hR) k hk i (by omega)) okX6_shareOf lkX6_260 rfl (by decide) rfl rfl rfl (Nat.le_of_ble_eq_true rfl) ⟨Nat.le_refl _, Nat.le_refl _⟩ dX6_first_61 ?_
        refine r_lstore (pc := 64) (lo1 := [.ref 42, .int (nI k), .int (nI 1), .int ((fiM (fun x => shO (fun x => (goL (I 55) sz nd L F) 64 (6 * (20 * k + sz k - 1) + x)) (jO I) x 6) i).1), .long ((fiM (fun x => shO (fun x => (goL (I 55) sz nd L F) 64 (6 * (20 * k + sz k - 1) + x)) (jO I) x 6) i).2), .null, .int (nI i), .long (shO (fun x => (goL (I 55) sz nd L F) 64 (6 * (20 * k + sz k - 1) + x)) (jO I) i 6), .null]) dX6_first_64 rfl (by decide) rfl ?_
        refine r_iload (pc := 66) dX6_first_66 rfl ?_
        refine r_ifN_eq (pc := 68) (tgt := 79) dX6_first_68 (by decide) (by omega) (fun c4 => ?_) (fun c4 => ?_)
        · refine r_iload (pc := 79) dX6_first_79 rfl ?_
          refine r_goto (pc := 81) (tgt := 85) dX6_first_81 (by decide) ?_
          refine r_istore_n (pc := 85) (lo1 := [.ref 42, .int (nI k), .int (nI 1), .int (nI i), .long ((fiM (fun x => shO (fun x => (goL (I 55) sz nd L F) 64 (6 * (20 * k + sz k - 1) + x)) (jO I) x 6) i).2), .null, .int (nI i), .long (shO (fun x => (goL (I 55) sz nd L F) 64 (6 * (20 * k + sz k - 1) + x)) (jO I) i 6), .null]) dX6_first_85 rfl (by decide) rfl ?_
          refine r_iload (pc := 86) dX6_first_86 rfl ?_
          refine r_ifN_eq (pc := 88) (tgt := 99) dX6_first_88 (by decide) (by omega) (fun c5 => ?_) (fun c5 => ?_)
          · refine r_lload (pc := 99) dX6_first_99 rfl ?_
            refine r_goto (pc := 101) (tgt := 106) dX6_first_101 (by decide) ?_
            refine r_lstore (pc := 106) (lo1 := [.ref 42, .int (nI k), .int (nI 1), .int (nI i), .long (shO (fun x => (goL (I 55) sz nd L F) 64 (6 * (20 * k + sz k - 1) + x)) (jO I) i 6), .null, .int (nI i), .long (shO (fun x => (goL (I 55) sz nd L F) 64 (6 * (20 * k + sz k - 1) + x)) (jO I) i 6), .null]) dX6_first_106 rfl (by decide) rfl ?_
            refine r_iinc (pc := 108) (v := nI (i + 1)) (lo1 := [.ref 42, .int (nI k), .int (nI 1), .int (nI i), .long (shO (fun x => (goL (I 55) sz nd L F) 64 (6 * (20 * k + sz k - 1) + x)) (jO I) i 6), .null, .int (nI (i + 1)), .long (shO (fun x => (goL (I 55) sz nd L F) 64 (6 * (20 * k + sz k - 1) + x)) (jO I) i 6), .null]) dX6_first_108 rfl rfl (ii1 _) (by decide) rfl ?_
            refine r_goto (pc := 111) (tgt := 36) dX6_first_111 (by decide) ?_
            refine r_drop (lo1 := [.ref 42, .int (nI k), .int (nI 1), .int (nI i), .long (shO (fun x => (goL (I 55) sz nd L F) 64 (6 * (20 * k + sz k - 1) + x)) (jO I) i 6), .null, .int (nI (i + 1)), .null, .null]) 7 rfl ?_
            have e9 : fiM (fun x => shO (fun x => (goL (I 55) sz nd L F) 64 (6 * (20 * k + sz k - 1) + x)) (jO I) x 6) (i + 1) = (nI i, shO (fun x => (goL (I 55) sz nd L F) 64 (6 * (20 * k + sz k - 1) + x)) (jO I) i 6) := if_pos c4
            have h9 := ih (i + 1) (by omega)
            rw [e9] at h9
            exact h9
          · exact absurd c5 (by omega)
        · refine r_lload (pc := 71) dX6_first_71 rfl ?_
          refine r_lload (pc := 73) dX6_first_73 rfl ?_
          refine r_lc_le (pc := 75) (tgt := 84) dX6_first_75 dX6_first_76 (by decide) (fun c6 => ?_) (fun c6 => ?_)
          · refine r_iload_n (pc := 84) dX6_first_84 rfl ?_
            refine r_istore_n (pc := 85) (lo1 := [.ref 42, .int (nI k), .int (nI 1), .int ((fiM (fun x => shO (fun x => (goL (I 55) sz nd L F) 64 (6 * (20 * k + sz k - 1) + x)) (jO I) x 6) i).1), .long ((fiM (fun x => shO (fun x => (goL (I 55) sz nd L F) 64 (6 * (20 * k + sz k - 1) + x)) (jO I) x 6) i).2), .null, .int (nI i), .long (shO (fun x => (goL (I 55) sz nd L F) 64 (6 * (20 * k + sz k - 1) + x)) (jO I) i 6), .null]) dX6_first_85 rfl (by decide) rfl ?_
            refine r_iload (pc := 86) dX6_first_86 rfl ?_
            refine r_ifN_eq (pc := 88) (tgt := 99) dX6_first_88 (by decide) (by omega) (fun c7 => ?_) (fun c7 => ?_)
            · exact absurd c7 (by omega)
            · refine r_lload (pc := 91) dX6_first_91 rfl ?_
              refine r_lload (pc := 93) dX6_first_93 rfl ?_
              refine r_lc_le (pc := 95) (tgt := 104) dX6_first_95 dX6_first_96 (by decide) (fun c8 => ?_) (fun c8 => ?_)
              · refine r_lload (pc := 104) dX6_first_104 rfl ?_
                refine r_lstore (pc := 106) (lo1 := [.ref 42, .int (nI k), .int (nI 1), .int ((fiM (fun x => shO (fun x => (goL (I 55) sz nd L F) 64 (6 * (20 * k + sz k - 1) + x)) (jO I) x 6) i).1), .long ((fiM (fun x => shO (fun x => (goL (I 55) sz nd L F) 64 (6 * (20 * k + sz k - 1) + x)) (jO I) x 6) i).2), .null, .int (nI i), .long (shO (fun x => (goL (I 55) sz nd L F) 64 (6 * (20 * k + sz k - 1) + x)) (jO I) i 6), .null]) dX6_first_106 rfl (by decide) rfl ?_
                refine r_iinc (pc := 108) (v := nI (i + 1)) (lo1 := [.ref 42, .int (nI k), .int (nI 1), .int ((fiM (fun x => shO (fun x => (goL (I 55) sz nd L F) 64 (6 * (20 * k + sz k - 1) + x)) (jO I) x 6) i).1), .long ((fiM (fun x => shO (fun x => (goL (I 55) sz nd L F) 64 (6 * (20 * k + sz k - 1) + x)) (jO I) x 6) i).2), .null, .int (nI (i + 1)), .long (shO (fun x => (goL (I 55) sz nd L F) 64 (6 * (20 * k + sz k - 1) + x)) (jO I) i 6), .null]) dX6_first_108 rfl rfl (ii1 _) (by decide) rfl ?_
                refine r_goto (pc := 111) (tgt := 36) dX6_first_111 (by decide) ?_
                refine r_drop (lo1 := [.ref 42, .int (nI k), .int (nI 1), .int ((fiM (fun x => shO (fun x => (goL (I 55) sz nd L F) 64 (6 * (20 * k + sz k - 1) + x)) (jO I) x 6) i).1), .long ((fiM (fun x => shO (fun x => (goL (I 55) sz nd L F) 64 (6 * (20 * k + sz k - 1) + x)) (jO I) x 6) i).2), .null, .int (nI (i + 1)), .null, .null]) 7 rfl ?_
                have e9 : fiM (fun x => shO (fun x => (goL (I 55) sz nd L F) 64 (6 * (20 * k + sz k - 1) + x)) (jO I) x 6) (i + 1) = (fiM (fun x => shO (fun x => (goL (I 55) sz nd L F) 64 (6 * (20 * k + sz k - 1) + x)) (jO I) x 6) i) := (if_neg c4).trans (if_neg (l_nlt c6))
                have h9 := ih (i + 1) (by omega)
                rw [e9] at h9
                exact h9
              · exact absurd c8 (l_nlt c6)
          · refine r_iload (pc := 79) dX6_first_79 rfl ?_
            refine r_goto (pc := 81) (tgt := 85) dX6_first_81 (by decide) ?_
            refine r_istore_n (pc := 85) (lo1 := [.ref 42, .int (nI k), .int (nI 1), .int (nI i), .long ((fiM (fun x => shO (fun x => (goL (I 55) sz nd L F) 64 (6 * (20 * k + sz k - 1) + x)) (jO I) x 6) i).2), .null, .int (nI i), .long (shO (fun x => (goL (I 55) sz nd L F) 64 (6 * (20 * k + sz k - 1) + x)) (jO I) i 6), .null]) dX6_first_85 rfl (by decide) rfl ?_
            refine r_iload (pc := 86) dX6_first_86 rfl ?_
            refine r_ifN_eq (pc := 88) (tgt := 99) dX6_first_88 (by decide) (by omega) (fun c9 => ?_) (fun c9 => ?_)
            · exact absurd c9 (by omega)
            · refine r_lload (pc := 91) dX6_first_91 rfl ?_
              refine r_lload (pc := 93) dX6_first_93 rfl ?_
              refine r_lc_le (pc := 95) (tgt := 104) dX6_first_95 dX6_first_96 (by decide) (fun c10 => ?_) (fun c10 => ?_)
              · exact absurd c6 (l_nlt c10)
              · refine r_lload (pc := 99) dX6_first_99 rfl ?_
                refine r_goto (pc := 101) (tgt := 106) dX6_first_101 (by decide) ?_
                refine r_lstore (pc := 106) (lo1 := [.ref 42, .int (nI k), .int (nI 1), .int (nI i), .long (shO (fun x => (goL (I 55) sz nd L F) 64 (6 * (20 * k + sz k - 1) + x)) (jO I) i 6), .null, .int (nI i), .long (shO (fun x => (goL (I 55) sz nd L F) 64 (6 * (20 * k + sz k - 1) + x)) (jO I) i 6), .null]) dX6_first_106 rfl (by decide) rfl ?_
                refine r_iinc (pc := 108) (v := nI (i + 1)) (lo1 := [.ref 42, .int (nI k), .int (nI 1), .int (nI i), .long (shO (fun x => (goL (I 55) sz nd L F) 64 (6 * (20 * k + sz k - 1) + x)) (jO I) i 6), .null, .int (nI (i + 1)), .long (shO (fun x => (goL (I 55) sz nd L F) 64 (6 * (20 * k + sz k - 1) + x)) (jO I) i 6), .null]) dX6_first_108 rfl rfl (ii1 _) (by decide) rfl ?_
                refine r_goto (pc := 111) (tgt := 36) dX6_first_111 (by decide) ?_
                refine r_drop (lo1 := [.ref 42, .int (nI k), .int (nI 1), .int (nI i), .long (shO (fun x => (goL (I 55) sz nd L F) 64 (6 * (20 * k + sz k - 1) + x)) (jO I) i 6), .null, .int (nI (i + 1)), .null, .null]) 7 rfl ?_
                have e9 : fiM (fun x => shO (fun x => (goL (I 55) sz nd L F) 64 (6 * (20 * k + sz k - 1) + x)) (jO I) x 6) (i + 1) = (nI i, shO (fun x => (goL (I 55) sz nd L F) 64 (6 * (20 * k + sz k - 1) + x)) (jO I) i 6) := (if_neg c4).trans (if_pos c6)
                have h9 := ih (i + 1) (by omega)
                rw [e9] at h9
                exact h9
      · exact absurd c3 (by decide)
theorem q_first_1 (X : Ctx) (d : Nat) (I : MI) (L : ML) (F : Nat) (sz : Nat → Nat) (nd : Nat → Nat → Nat × Nat × Nat × Nat) (hR : MR I F sz nd) (k : Nat) (hk : k < F) : Sp X mX6_first (d + 4) (0, 0) [.ref 42, .int (nI k), .int (nI 1)] shF I L (some (.int ((fiM (fun x => shO (fun x => (goL (I 55) sz nd L F) 64 (6 * (20 * k + sz k - 1) + x)) (jO I) x 6) 6).1)), shF, (u2 I 42 0 (nI 0)), (goL (I 55) sz nd L F)) := by
  obtain ⟨hF, hF4, hall⟩ := id hR
  obtain ⟨hs, hs1, hs20, -⟩ := hall k hk
  refine Sp.of okX6_first [.ref 42, .int (nI k), .int (nI 1), .null, .null, .null, .null, .null, .null] 6 rfl (Nat.le_of_ble_eq_true rfl) ?_
  refine r_aload_n (pc := 0) dX6_first_0 rfl ?_
  refine r_iconst (pc := 1) (v := nI 0) dX6_first_1 rfl ?_
  refine r_put (pc := 2) .int dX6_first_2 fX6_93 rfl rfl nf6_0 rfl rfl ?_
  refine r_aload_n (pc := 5) dX6_first_5 rfl ?_
  refine r_iload_n (pc := 6) dX6_first_6 rfl ?_
  refine r_callV (pc := 7) (N := mX6_isFormula) (rest := []) (s_isFormula_t X _ (u2 I 42 0 (nI 0)) L F k (hF) (by omega) hF4) okX6_isFormula lkX6_243 rfl (by decide) rfl rfl rfl (Nat.le_of_ble_eq_true rfl) ⟨Nat.le_refl _, Nat.le_refl _⟩ dX6_first_7 ?_
  refine r_ifN_eq (pc := 10) (tgt := 22) dX6_first_10 (by decide) (by omega) (fun c11 => ?_) (fun c11 => ?_)
  · exact absurd c11 (by decide)
  · refine r_iload_n (pc := 13) dX6_first_13 rfl ?_
    refine r_iconst (pc := 14) (v := nI 0) dX6_first_14 rfl ?_
    refine r_iconst (pc := 15) (v := nI 1) dX6_first_15 rfl ?_
    refine r_callS (pc := 16) (N := mX6_in) (rest := []) (s_in_t X _ (u2 I 42 0 (nI 0)) L (nI 1) (nI 0) (nI 1) (nI_nlt (by omega) (by omega)) (nI_nlt (by omega) (by omega))) okX6_in lkX6_97 rfl rfl (Nat.le_of_ble_eq_true rfl) ⟨Nat.le_refl _, Nat.le_refl _⟩ dX6_first_16 ?_
    refine r_ifN_ne (pc := 19) (tgt := 24) dX6_first_19 (by decide) (by omega) (fun c12 => ?_) (fun c12 => ?_)
    · refine r_aload_n (pc := 24) dX6_first_24 rfl ?_
      refine r_callV (pc := 25) (N := mX6_goes) (rest := []) (s_goes X _ (u2 I 42 0 (nI 0)) L F sz nd (MR_th hR) (hF) hF4) okX6_goes lkX6_246 rfl (by decide) rfl rfl rfl (Nat.le_of_ble_eq_true rfl) ⟨Nat.le_refl _, Nat.le_refl _⟩ dX6_first_25 ?_
      refine r_iconst (pc := 28) (v := nI 0) dX6_first_28 rfl ?_
      refine r_istore_n (pc := 29) (lo1 := [.ref 42, .int (nI k), .int (nI 1), .int (nI 0), .null, .null, .null, .null, .null]) dX6_first_29 rfl (by decide) rfl ?_
      refine r_lconst (pc := 30) (v := 0) dX6_first_30 rfl ?_
      refine r_lstore (pc := 31) (lo1 := [.ref 42, .int (nI k), .int (nI 1), .int (nI 0), .long (0), .null, .null, .null, .null]) dX6_first_31 rfl (by decide) rfl ?_
      refine r_iconst (pc := 33) (v := nI 0) dX6_first_33 rfl ?_
      refine r_istore (pc := 34) (lo1 := [.ref 42, .int (nI k), .int (nI 1), .int (nI 0), .long (0), .null, .int (nI 0), .null, .null]) dX6_first_34 rfl (by decide) rfl ?_
      exact lp_qfirst_1 X d I L F sz nd hR k hk 6 0 rfl
    · exact absurd c12 (by decide)
theorem s_valueIf (X : Ctx) (d : Nat) (I : MI) (L : ML) (F : Nat) (sz : Nat → Nat) (nd : Nat → Nat → Nat × Nat × Nat × Nat) (hR : MR I F sz nd) (k : Nat) (hk : k < F) (x : Nat) (hx : x < 6) (dd : Int32) : Sp X mX6_valueIf (d + 3) (0, 0) [.ref 42, .int (nI k), .int (nI x), .int (dd)] shF I L (some (.long ((goL (upd (I 55) x (I 55 x + dd)) sz nd L F) 63 (20 * k + sz k - 1))), shF, I, (goL (upd (I 55) x (I 55 x + dd)) sz nd L F)) := by
  obtain ⟨hF, hF4, hall⟩ := id hR
  obtain ⟨hs, hs1, hs20, -⟩ := hall k hk
  refine Sp.of okX6_valueIf [.ref 42, .int (nI k), .int (nI x), .int (dd)] 0 rfl (Nat.le_of_ble_eq_true rfl) ?_
  refine r_aload_n (pc := 0) dX6_valueIf_0 rfl ?_
  refine r_getR (pc := 1) (b := 55) dX6_valueIf_1 fX6_46 rfl rfl ?_
  refine r_iload_n (pc := 4) dX6_valueIf_4 rfl ?_
  refine r_dup2 (pc := 5) dX6_valueIf_5 rfl rfl ?_
  refine r_iald (pc := 6) (j := x) dX6_valueIf_6 rfl rfl (by omega) (by decide) ?_
  refine r_iload_n (pc := 7) dX6_valueIf_7 rfl ?_
  refine r_iadd (pc := 8) dX6_valueIf_8 ?_
  refine r_iast (pc := 9) (j := x) dX6_valueIf_9 rfl rfl (by omega) (by decide) ?_
  refine r_aload_n (pc := 10) dX6_valueIf_10 rfl ?_
  refine r_callV (pc := 11) (N := mX6_goes) (rest := []) (s_goes X _ (u2 I 55 x ((I 55 x) + dd)) L F sz nd (MR_55 hR) (hF) hF4) okX6_goes lkX6_246 rfl (by decide) rfl rfl rfl (Nat.le_of_ble_eq_true rfl) ⟨Nat.le_refl _, Nat.le_refl _⟩ dX6_valueIf_11 ?_
  refine r_aload_n (pc := 14) dX6_valueIf_14 rfl ?_
  refine r_getR (pc := 15) (b := 55) dX6_valueIf_15 fX6_46 rfl rfl ?_
  refine r_iload_n (pc := 18) dX6_valueIf_18 rfl ?_
  refine r_dup2 (pc := 19) dX6_valueIf_19 rfl rfl ?_
  refine r_ialdV (pc := 20) (j := x) (v := (I 55 x) + dd) dX6_valueIf_20 rfl rfl (by omega) (by decide) (u2_at _ _ _ _) ?_
  refine r_iload_n (pc := 21) dX6_valueIf_21 rfl ?_
  refine r_isub (pc := 22) dX6_valueIf_22 ?_
  refine r_iast (pc := 23) (j := x) dX6_valueIf_23 rfl rfl (by omega) (by decide) ?_
  refine r_I (I' := I) (u2_back I 55 x _ _ (Int32.add_sub_cancel _ _)) ?_
  refine r_aload_n (pc := 24) dX6_valueIf_24 rfl ?_
  refine r_getR (pc := 25) (b := 63) dX6_valueIf_25 fX6_72 rfl rfl ?_
  refine r_aload_n (pc := 28) dX6_valueIf_28 rfl ?_
  refine r_iload_n (pc := 29) dX6_valueIf_29 rfl ?_
  refine r_callV (pc := 30) (N := mX6_rootOf) (rest := [.ref 63]) (s_mroot X _ I (goL (upd (I 55) x ((I 55 x) + dd)) sz nd L F) k (sz k) (by omega) (hs) hs1 hs20) okX6_rootOf lkX6_229 rfl (by decide) rfl rfl rfl (Nat.le_of_ble_eq_true rfl) ⟨Nat.le_refl _, Nat.le_refl _⟩ dX6_valueIf_30 ?_
  refine r_lald (pc := 33) (j := 20 * k + sz k - 1) dX6_valueIf_33 rfl rfl (by omega) (by decide) ?_
  exact r_lret dX6_valueIf_34 rfl (rfl) rfl
theorem q_off (X : Ctx) (d : Nat) (I : MI) (L : ML) (F : Nat) (sz : Nat → Nat) (nd : Nat → Nat → Nat × Nat × Nat × Nat) (hR : MR I F sz nd) (k : Nat) (hk : k < F) (x : Nat) (hx : x < 6) (dd : Int32) (hm1 : ¬ dd < -20) (hm2 : ¬ nI 20 < dd) : Sp X mX6_off (d + 4) (0, 0) [.ref 42, .int (nI k), .int (nI x), .int (dd)] shF I L (some (.long ((goL (upd (I 55) x (I 55 x + dd)) sz nd L F) 63 (20 * k + sz k - 1) - (goL (I 55) sz nd (goL (upd (I 55) x (I 55 x + dd)) sz nd L F) F) 63 (20 * k + sz k - 1) - (dd).toInt64 * (goL (I 55) sz nd (goL (upd (I 55) x (I 55 x + dd)) sz nd L F) F) 64 (6 * (20 * k + sz k - 1) + x))), shF, (u2 I 42 0 (nI 0)), (goL (I 55) sz nd (goL (upd (I 55) x (I 55 x + dd)) sz nd L F) F)) := by
  obtain ⟨hF, hF4, hall⟩ := id hR
  obtain ⟨hs, hs1, hs20, -⟩ := hall k hk
  refine Sp.of okX6_off [.ref 42, .int (nI k), .int (nI x), .int (dd), .null, .null] 2 rfl (Nat.le_of_ble_eq_true rfl) ?_
  refine r_aload_n (pc := 0) dX6_off_0 rfl ?_
  refine r_iconst (pc := 1) (v := nI 0) dX6_off_1 rfl ?_
  refine r_put (pc := 2) .int dX6_off_2 fX6_93 rfl rfl nf6_0 rfl rfl ?_
  refine r_aload_n (pc := 5) dX6_off_5 rfl ?_
  refine r_iload_n (pc := 6) dX6_off_6 rfl ?_
  refine r_callV (pc := 7) (N := mX6_isFormula) (rest := []) (s_isFormula_t X _ (u2 I 42 0 (nI 0)) L F k (hF) (by omega) hF4) okX6_isFormula lkX6_243 rfl (by decide) rfl rfl rfl (Nat.le_of_ble_eq_true rfl) ⟨Nat.le_refl _, Nat.le_refl _⟩ dX6_off_7 ?_
  refine r_ifN_eq (pc := 10) (tgt := 31) dX6_off_10 (by decide) (by omega) (fun c1 => ?_) (fun c1 => ?_)
  · exact absurd c1 (by decide)
  · refine r_iload_n (pc := 13) dX6_off_13 rfl ?_
    refine r_callS (pc := 14) (N := mX6_isSource) (rest := []) (s_misSource_t X _ (u2 I 42 0 (nI 0)) L x (by omega)) okX6_isSource lkX6_208 rfl rfl (Nat.le_of_ble_eq_true rfl) ⟨Nat.le_refl _, Nat.le_refl _⟩ dX6_off_14 ?_
    refine r_ifN_eq (pc := 17) (tgt := 31) dX6_off_17 (by decide) (by omega) (fun c2 => ?_) (fun c2 => ?_)
    · exact absurd c2 (by decide)
    · refine r_iload_n (pc := 20) dX6_off_20 rfl ?_
      refine r_bipush (pc := 21) dX6_off_21 bp_m20 ?_
      refine r_bipush (pc := 23) dX6_off_23 bp_20 ?_
      refine r_callS (pc := 25) (N := mX6_in) (rest := []) (s_in_t X _ (u2 I 42 0 (nI 0)) L dd (-20) (nI 20) hm1 hm2) okX6_in lkX6_97 rfl rfl (Nat.le_of_ble_eq_true rfl) ⟨Nat.le_refl _, Nat.le_refl _⟩ dX6_off_25 ?_
      refine r_ifN_ne (pc := 28) (tgt := 35) dX6_off_28 (by decide) (by omega) (fun c3 => ?_) (fun c3 => ?_)
      · refine r_aload_n (pc := 35) dX6_off_35 rfl ?_
        refine r_iload_n (pc := 36) dX6_off_36 rfl ?_
        refine r_iload_n (pc := 37) dX6_off_37 rfl ?_
        refine r_iload_n (pc := 38) dX6_off_38 rfl ?_
        refine r_callV (pc := 39) (N := mX6_valueIf) (rest := []) (s_valueIf X _ (u2 I 42 0 (nI 0)) L F sz nd (MR_th hR) k hk x (by omega) dd) okX6_valueIf lkX6_269 rfl (by decide) rfl rfl rfl (Nat.le_of_ble_eq_true rfl) ⟨Nat.le_refl _, Nat.le_refl _⟩ dX6_off_39 ?_
        refine r_lstore (pc := 42) (lo1 := [.ref 42, .int (nI k), .int (nI x), .int (dd), .long ((goL (upd (I 55) x (I 55 x + dd)) sz nd L F) 63 (20 * k + sz k - 1)), .null]) dX6_off_42 rfl (by decide) rfl ?_
        refine r_aload_n (pc := 44) dX6_off_44 rfl ?_
        refine r_callV (pc := 45) (N := mX6_goes) (rest := []) (s_goes X _ (u2 I 42 0 (nI 0)) (goL (upd (I 55) x (I 55 x + dd)) sz nd L F) F sz nd (MR_th hR) (hF) hF4) okX6_goes lkX6_246 rfl (by decide) rfl rfl rfl (Nat.le_of_ble_eq_true rfl) ⟨Nat.le_refl _, Nat.le_refl _⟩ dX6_off_45 ?_
        refine r_lload (pc := 48) dX6_off_48 rfl ?_
        refine r_aload_n (pc := 50) dX6_off_50 rfl ?_
        refine r_getR (pc := 51) (b := 63) dX6_off_51 fX6_72 rfl rfl ?_
        refine r_aload_n (pc := 54) dX6_off_54 rfl ?_
        refine r_iload_n (pc := 55) dX6_off_55 rfl ?_
        refine r_callV (pc := 56) (N := mX6_rootOf) (rest := [.ref 63, .long ((goL (upd (I 55) x (I 55 x + dd)) sz nd L F) 63 (20 * k + sz k - 1))]) (s_mroot X _ (u2 I 42 0 (nI 0)) (goL (I 55) sz nd (goL (upd (I 55) x (I 55 x + dd)) sz nd L F) F) k (sz k) (by omega) (hs) hs1 hs20) okX6_rootOf lkX6_229 rfl (by decide) rfl rfl rfl (Nat.le_of_ble_eq_true rfl) ⟨Nat.le_refl _, Nat.le_refl _⟩ dX6_off_56 ?_
        refine r_lald (pc := 59) (j := 20 * k + sz k - 1) dX6_off_59 rfl rfl (by omega) (by decide) ?_
        refine r_lsub (pc := 60) dX6_off_60 ?_
        refine r_iload_n (pc := 61) dX6_off_61 rfl ?_
        refine r_i2l (pc := 62) dX6_off_62 ?_
        refine r_aload_n (pc := 63) dX6_off_63 rfl ?_
        refine r_iload_n (pc := 64) dX6_off_64 rfl ?_
        refine r_iload_n (pc := 65) dX6_off_65 rfl ?_
        refine r_callV (pc := 66) (N := mX6_slopeOf) (rest := [.long ((dd).toInt64), .long (((goL (upd (I 55) x (I 55 x + dd)) sz nd L F) 63 (20 * k + sz k - 1)) - ((goL (I 55) sz nd (goL (upd (I 55) x (I 55 x + dd)) sz nd L F) F) 63 (20 * k + sz k - 1)))]) (s_mslopeOf X _ (u2 I 42 0 (nI 0)) (goL (I 55) sz nd (goL (upd (I 55) x (I 55 x + dd)) sz nd L F) F) F sz nd (MR_th hR) k hk x (by omega)) okX6_slopeOf lkX6_249 rfl (by decide) rfl rfl rfl (Nat.le_of_ble_eq_true rfl) ⟨Nat.le_refl _, Nat.le_refl _⟩ dX6_off_66 ?_
        refine r_lmul (pc := 69) dX6_off_69 ?_
        refine r_lsub (pc := 70) dX6_off_70 ?_
        exact r_lret dX6_off_71 rfl (rfl) rfl
      · exact absurd c3 (by decide)
theorem q_sees (X : Ctx) (d : Nat) (I : MI) (L : ML) (F k : Nat) (hF : I 42 8 = nI F) (hk : k < F) (hF4 : F ≤ 4) (m : Nat) (v : Int64) (hm : I 42 28 = nI m) (h6 : m < 6) : Sp X mX6_sees (d + 2) (0, 0) [.ref 42, .int (nI k), .long (v)] shF I L (some (.int (nI (m + 1))), shF, (u2 (u2 (u2 I 42 0 (nI 0)) 59 m (nI k)) 42 28 (nI (m + 1))), (v2 L 60 m v)) := by
  refine Sp.of okX6_sees [.ref 42, .int (nI k), .long (v), .null] 0 rfl (Nat.le_of_ble_eq_true rfl) ?_
  refine r_aload_n (pc := 0) dX6_sees_0 rfl ?_
  refine r_iconst (pc := 1) (v := nI 0) dX6_sees_1 rfl ?_
  refine r_put (pc := 2) .int dX6_sees_2 fX6_93 rfl rfl nf6_0 rfl rfl ?_
  refine r_aload_n (pc := 5) dX6_sees_5 rfl ?_
  refine r_iload_n (pc := 6) dX6_sees_6 rfl ?_
  refine r_callV (pc := 7) (N := mX6_isFormula) (rest := []) (s_isFormula_t X _ (u2 I 42 0 (nI 0)) L F k (hF) (by omega) hF4) okX6_isFormula lkX6_243 rfl (by decide) rfl rfl rfl (Nat.le_of_ble_eq_true rfl) ⟨Nat.le_refl _, Nat.le_refl _⟩ dX6_sees_7 ?_
  refine r_ifN_ne (pc := 10) (tgt := 15) dX6_sees_10 (by decide) (by omega) (fun c1 => ?_) (fun c1 => ?_)
  · refine r_aload_n (pc := 15) dX6_sees_15 rfl ?_
    refine r_getV (pc := 16) (v := nI m) dX6_sees_16 fX6_202 rfl rfl (hm) ?_
    refine r_bipush (pc := 19) dX6_sees_19 bp_6 ?_
    refine r_icmpN_ne (pc := 21) (tgt := 27) dX6_sees_21 (by decide) (by omega) (by omega) (fun c2 => ?_) (fun c2 => ?_)
    · refine r_aload_n (pc := 27) dX6_sees_27 rfl ?_
      refine r_getR (pc := 28) (b := 59) dX6_sees_28 fX6_59 rfl rfl ?_
      refine r_aload_n (pc := 31) dX6_sees_31 rfl ?_
      refine r_getV (pc := 32) (v := nI m) dX6_sees_32 fX6_202 rfl rfl (hm) ?_
      refine r_iload_n (pc := 35) dX6_sees_35 rfl ?_
      refine r_iast (pc := 36) (j := m) dX6_sees_36 rfl rfl (by omega) (by decide) ?_
      refine r_aload_n (pc := 37) dX6_sees_37 rfl ?_
      refine r_getR (pc := 38) (b := 60) dX6_sees_38 fX6_62 rfl rfl ?_
      refine r_aload_n (pc := 41) dX6_sees_41 rfl ?_
      refine r_getV (pc := 42) (v := nI m) dX6_sees_42 fX6_202 rfl rfl (hm) ?_
      refine r_lload_n (pc := 45) dX6_sees_45 rfl ?_
      refine r_last (pc := 46) (j := m) dX6_sees_46 rfl rfl (by omega) (by decide) ?_
      refine r_aload_n (pc := 47) dX6_sees_47 rfl ?_
      refine r_dup (pc := 48) dX6_sees_48 rfl ?_
      refine r_getV (pc := 49) (v := nI m) dX6_sees_49 fX6_202 rfl rfl (hm) ?_
      refine r_iconst (pc := 52) (v := nI 1) dX6_sees_52 rfl ?_
      refine r_iaddN (pc := 53) dX6_sees_53 ?_
      refine r_put (pc := 54) .int dX6_sees_54 fX6_202 rfl rfl nf6_28 rfl rfl ?_
      refine r_aload_n (pc := 57) dX6_sees_57 rfl ?_
      refine r_getV (pc := 58) (v := nI (m + 1)) dX6_sees_58 fX6_202 rfl rfl (rfl) ?_
      exact r_iret dX6_sees_61 rfl (rfl) rfl
    · exact absurd c2 (by omega)
  · exact absurd c1 (by decide)
theorem q_sees_full (X : Ctx) (d : Nat) (I : MI) (L : ML) (F k : Nat) (hF : I 42 8 = nI F) (hk : k < F) (hF4 : F ≤ 4) (v : Int64) (hm : I 42 28 = nI 6) : Sp X mX6_sees (d + 2) (0, 0) [.ref 42, .int (nI k), .long (v)] shF I L (some (.int (-3)), shF, (u2 I 42 0 (nI 0)), L) := by
  refine Sp.of okX6_sees [.ref 42, .int (nI k), .long (v), .null] 0 rfl (Nat.le_of_ble_eq_true rfl) ?_
  refine r_aload_n (pc := 0) dX6_sees_0 rfl ?_
  refine r_iconst (pc := 1) (v := nI 0) dX6_sees_1 rfl ?_
  refine r_put (pc := 2) .int dX6_sees_2 fX6_93 rfl rfl nf6_0 rfl rfl ?_
  refine r_aload_n (pc := 5) dX6_sees_5 rfl ?_
  refine r_iload_n (pc := 6) dX6_sees_6 rfl ?_
  refine r_callV (pc := 7) (N := mX6_isFormula) (rest := []) (s_isFormula_t X _ (u2 I 42 0 (nI 0)) L F k (hF) (by omega) hF4) okX6_isFormula lkX6_243 rfl (by decide) rfl rfl rfl (Nat.le_of_ble_eq_true rfl) ⟨Nat.le_refl _, Nat.le_refl _⟩ dX6_sees_7 ?_
  refine r_ifN_ne (pc := 10) (tgt := 15) dX6_sees_10 (by decide) (by omega) (fun c1 => ?_) (fun c1 => ?_)
  · refine r_aload_n (pc := 15) dX6_sees_15 rfl ?_
    refine r_getV (pc := 16) (v := nI 6) dX6_sees_16 fX6_202 rfl rfl (hm) ?_
    refine r_bipush (pc := 19) dX6_sees_19 bp_6 ?_
    refine r_icmpN_ne (pc := 21) (tgt := 27) dX6_sees_21 (by decide) (by omega) (by omega) (fun c2 => ?_) (fun c2 => ?_)
    · exact absurd c2 (by decide)
    · refine r_bipush (pc := 24) dX6_sees_24 bp_m3 ?_
      exact r_iret dX6_sees_26 rfl (rfl) rfl
  · exact absurd c1 (by decide)
theorem q_forget (X : Ctx) (d : Nat) (I : MI) (L : ML) (m : Nat) (hm : I 42 28 = nI m) : Sp X mX6_forget (d + 0) (0, 0) [.ref 42] shF I L (some (.int (nI m)), shF, (u2 (u2 I 42 0 (nI 0)) 42 28 (nI 0)), L) := by
  refine Sp.of okX6_forget [.ref 42, .null] 1 rfl (Nat.le_of_ble_eq_true rfl) ?_
  refine r_aload_n (pc := 0) dX6_forget_0 rfl ?_
  refine r_iconst (pc := 1) (v := nI 0) dX6_forget_1 rfl ?_
  refine r_put (pc := 2) .int dX6_forget_2 fX6_93 rfl rfl nf6_0 rfl rfl ?_
  refine r_aload_n (pc := 5) dX6_forget_5 rfl ?_
  refine r_getV (pc := 6) (v := nI m) dX6_forget_6 fX6_202 rfl rfl (hm) ?_
  refine r_istore_n (pc := 9) (lo1 := [.ref 42, .int (nI m)]) dX6_forget_9 rfl (by decide) rfl ?_
  refine r_aload_n (pc := 10) dX6_forget_10 rfl ?_
  refine r_iconst (pc := 11) (v := nI 0) dX6_forget_11 rfl ?_
  refine r_put (pc := 12) .int dX6_forget_12 fX6_202 rfl rfl nf6_28 rfl rfl ?_
  refine r_iload_n (pc := 15) dX6_forget_15 rfl ?_
  exact r_iret dX6_forget_16 rfl (rfl) rfl
theorem lp_unseen_in (X : Ctx) (d : Nat) (I : MI) (L : ML) (F : Nat) (sz : Nat → Nat) (nd : Nat → Nat → Nat × Nat × Nat × Nat) (hR : MR I F sz nd) (fs : Nat → Nat) (m : Nat) (hm : I 42 28 = nI m) (h6 : m ≤ 6) (hfs : ∀ k, k < m → I 59 k = nI (fs k) ∧ fs k < F) (dd : Int32) (x : Nat) (hx : x < 6) (se : Int32) (T : TR) (K : Ev X mX6_unseen (d + 4) (0, 0) (0, 0) T 22 [.ref 42, .int dd, .int (se ||| (if (exM I F sz nd fs x dd L m).1 = true then nI 1 <<< (nI x &&& 31) else nI 0)), .int (nI (x + 1)), .null, .null] [] shF (u2 I 42 0 (nI 0)) (exM I F sz nd fs x dd L m).2) : ∀ (z k : Nat), k + z = m → Ev X mX6_unseen (d + 4) (0, 0) (0, 0) T 34 [.ref 42, .int (dd), .int (se), .int (nI x), .int (bI ((exM I F sz nd fs x dd L k).1)), .int (nI k)] [] shF (u2 I 42 0 (nI 0)) (exM I F sz nd fs x dd L k).2 := by
  intro z
  induction z with
  | zero =>
    intro k hi
    obtain ⟨hF, hF4, hall⟩ := id hR
    have hi2 : k = m := by omega
    rw [hi2]
    refine r_iload (pc := 34) dX6_unseen_34 rfl ?_
    refine r_aload_n (pc := 36) dX6_unseen_36 rfl ?_
    refine r_getV (pc := 37) (v := nI m) dX6_unseen_37 fX6_202 rfl rfl (hm) ?_
    refine r_icmpN_ge (pc := 40) (tgt := 85) dX6_unseen_40 (by decide) (by omega) (by omega) (fun c1 => ?_) (fun c1 => ?_)
    · refine r_iload_n (pc := 85) dX6_unseen_85 rfl ?_
      refine r_iload (pc := 86) dX6_unseen_86 rfl ?_
      refine r_ifb_eq (pc := 88) (tgt := 97) dX6_unseen_88 (by decide) (fun c2 => ?_) (fun c2 => ?_)
      · refine r_iconst (pc := 97) (v := nI 0) dX6_unseen_97 rfl ?_
        refine r_ior (pc := 98) dX6_unseen_98 ?_
        refine r_istore_n (pc := 99) (lo1 := [.ref 42, .int (dd), .int (se ||| (nI 0)), .int (nI x), .int (bI ((exM I F sz nd fs x dd L m).1)), .int (nI m)]) dX6_unseen_99 rfl (by decide) rfl ?_
        refine r_iinc (pc := 100) (v := nI (x + 1)) (lo1 := [.ref 42, .int (dd), .int (se ||| (nI 0)), .int (nI (x + 1)), .int (bI ((exM I F sz nd fs x dd L m).1)), .int (nI m)]) dX6_unseen_100 rfl rfl (ii1 _) (by decide) rfl ?_
        refine r_goto (pc := 103) (tgt := 22) dX6_unseen_103 (by decide) ?_
        refine r_drop (lo1 := [.ref 42, .int (dd), .int (se ||| (nI 0)), .int (nI (x + 1)), .null, .int (nI m)]) 4 rfl ?_
        refine r_drop (lo1 := [.ref 42, .int (dd), .int (se ||| (nI 0)), .int (nI (x + 1)), .null, .null]) 5 rfl ?_
        have e9 : se ||| (if (exM I F sz nd fs x dd L m).1 = true then nI 1 <<< (nI x &&& 31) else nI 0) = se ||| (nI 0) := congrArg (fun z => se ||| z) (if_neg (by rw [c2]; decide))
        rw [e9] at K
        exact K
      · refine r_iconst (pc := 91) (v := nI 1) dX6_unseen_91 rfl ?_
        refine r_iload_n (pc := 92) dX6_unseen_92 rfl ?_
        refine r_ishl (pc := 93) dX6_unseen_93 ?_
        refine r_goto (pc := 94) (tgt := 98) dX6_unseen_94 (by decide) ?_
        refine r_ior (pc := 98) dX6_unseen_98 ?_
        refine r_istore_n (pc := 99) (lo1 := [.ref 42, .int (dd), .int (se ||| ((nI 1) <<< (nI x &&& 31))), .int (nI x), .int (bI ((exM I F sz nd fs x dd L m).1)), .int (nI m)]) dX6_unseen_99 rfl (by decide) rfl ?_
        refine r_iinc (pc := 100) (v := nI (x + 1)) (lo1 := [.ref 42, .int (dd), .int (se ||| ((nI 1) <<< (nI x &&& 31))), .int (nI (x + 1)), .int (bI ((exM I F sz nd fs x dd L m).1)), .int (nI m)]) dX6_unseen_100 rfl rfl (ii1 _) (by decide) rfl ?_
        refine r_goto (pc := 103) (tgt := 22) dX6_unseen_103 (by decide) ?_
        refine r_drop (lo1 := [.ref 42, .int (dd), .int (se ||| ((nI 1) <<< (nI x &&& 31))), .int (nI (x + 1)), .null, .int (nI m)]) 4 rfl ?_
        refine r_drop (lo1 := [.ref 42, .int (dd), .int (se ||| ((nI 1) <<< (nI x &&& 31))), .int (nI (x + 1)), .null, .null]) 5 rfl ?_
        have e9 : se ||| (if (exM I F sz nd fs x dd L m).1 = true then nI 1 <<< (nI x &&& 31) else nI 0) = se ||| ((nI 1) <<< (nI x &&& 31)) := congrArg (fun z => se ||| z) (if_pos c2)
        rw [e9] at K
        exact K
    · exact absurd c1 (by omega)
  | succ z ih =>
    intro k hi
    obtain ⟨hF, hF4, hall⟩ := id hR
    refine r_iload (pc := 34) dX6_unseen_34 rfl ?_
    refine r_aload_n (pc := 36) dX6_unseen_36 rfl ?_
    refine r_getV (pc := 37) (v := nI m) dX6_unseen_37 fX6_202 rfl rfl (hm) ?_
    refine r_icmpN_ge (pc := 40) (tgt := 85) dX6_unseen_40 (by decide) (by omega) (by omega) (fun c3 => ?_) (fun c3 => ?_)
    · exact absurd c3 (by omega)
    · refine r_iload (pc := 43) dX6_unseen_43 rfl ?_
      refine r_ifb_eq (pc := 45) (tgt := 76) dX6_unseen_45 (by decide) (fun c4 => ?_) (fun c4 => ?_)
      · refine r_iconst (pc := 76) (v := nI 0) dX6_unseen_76 rfl ?_
        refine r_istore (pc := 77) (lo1 := [.ref 42, .int (dd), .int (se), .int (nI x), .int (nI 0), .int (nI k)]) dX6_unseen_77 rfl (by decide) rfl ?_
        refine r_iinc (pc := 79) (v := nI (k + 1)) (lo1 := [.ref 42, .int (dd), .int (se), .int (nI x), .int (nI 0), .int (nI (k + 1))]) dX6_unseen_79 rfl rfl (ii1 _) (by decide) rfl ?_
        refine r_goto (pc := 82) (tgt := 34) dX6_unseen_82 (by decide) ?_
        have e9 : exM I F sz nd fs x dd L (k + 1) = exM I F sz nd fs x dd L k := if_neg (by rw [c4]; decide)
        have e8 : bI (exM I F sz nd fs x dd L k).1 = nI 0 := by rw [c4]; rfl
        have h9 := ih (k + 1) (by omega)
        rw [e9] at h9
        rw [e8] at h9
        exact h9
      · refine r_aload_n (pc := 48) dX6_unseen_48 rfl ?_
        refine r_aload_n (pc := 49) dX6_unseen_49 rfl ?_
        refine r_getR (pc := 50) (b := 59) dX6_unseen_50 fX6_59 rfl rfl ?_
        refine r_iload (pc := 53) dX6_unseen_53 rfl ?_
        refine r_ialdV (pc := 55) (j := k) (v := nI (fs k)) dX6_unseen_55 rfl rfl (by omega) (by decide) ((hfs k (by omega)).1) ?_
        refine r_iload_n (pc := 56) dX6_unseen_56 rfl ?_
        refine r_iload_n (pc := 57) dX6_unseen_57 rfl ?_
        refine r_callV (pc := 58) (N := mX6_valueIf) (rest := []) (s_valueIf X _ (u2 I 42 0 (nI 0)) (exM I F sz nd fs x dd L k).2 F sz nd (MR_th hR) (fs k) (hfs k (by omega)).2 x (by omega) dd) okX6_valueIf lkX6_269 rfl (by decide) rfl rfl rfl (Nat.le_of_ble_eq_true rfl) ⟨Nat.le_refl _, Nat.le_refl _⟩ dX6_unseen_58 ?_
        refine r_aload_n (pc := 61) dX6_unseen_61 rfl ?_
        refine r_getR (pc := 62) (b := 60) dX6_unseen_62 fX6_62 rfl rfl ?_
        refine r_iload (pc := 65) dX6_unseen_65 rfl ?_
        refine r_lald (pc := 67) (j := k) dX6_unseen_67 rfl rfl (by omega) (by decide) ?_
        refine r_lc_ne (pc := 68) (tgt := 76) dX6_unseen_68 dX6_unseen_69 (by decide) (fun c5 => ?_) (fun c5 => ?_)
        · refine r_iconst (pc := 76) (v := nI 0) dX6_unseen_76 rfl ?_
          refine r_istore (pc := 77) (lo1 := [.ref 42, .int (dd), .int (se), .int (nI x), .int (nI 0), .int (nI k)]) dX6_unseen_77 rfl (by decide) rfl ?_
          refine r_iinc (pc := 79) (v := nI (k + 1)) (lo1 := [.ref 42, .int (dd), .int (se), .int (nI x), .int (nI 0), .int (nI (k + 1))]) dX6_unseen_79 rfl rfl (ii1 _) (by decide) rfl ?_
          refine r_goto (pc := 82) (tgt := 34) dX6_unseen_82 (by decide) ?_
          have e9 : exM I F sz nd fs x dd L (k + 1) = (false, goL (upd (I 55) x (I 55 x + dd)) sz nd (exM I F sz nd fs x dd L k).2 F) := (if_pos c4).trans (congrArg (fun z => (z, goL (upd (I 55) x (I 55 x + dd)) sz nd (exM I F sz nd fs x dd L k).2 F)) (decide_eq_false c5))
          have h9 := ih (k + 1) (by omega)
          rw [e9] at h9
          exact h9
        · refine r_iconst (pc := 72) (v := nI 1) dX6_unseen_72 rfl ?_
          refine r_goto (pc := 73) (tgt := 77) dX6_unseen_73 (by decide) ?_
          refine r_istore (pc := 77) (lo1 := [.ref 42, .int (dd), .int (se), .int (nI x), .int (nI 1), .int (nI k)]) dX6_unseen_77 rfl (by decide) rfl ?_
          refine r_iinc (pc := 79) (v := nI (k + 1)) (lo1 := [.ref 42, .int (dd), .int (se), .int (nI x), .int (nI 1), .int (nI (k + 1))]) dX6_unseen_79 rfl rfl (ii1 _) (by decide) rfl ?_
          refine r_goto (pc := 82) (tgt := 34) dX6_unseen_82 (by decide) ?_
          have e9 : exM I F sz nd fs x dd L (k + 1) = (true, goL (upd (I 55) x (I 55 x + dd)) sz nd (exM I F sz nd fs x dd L k).2 F) := (if_pos c4).trans (congrArg (fun z => (z, goL (upd (I 55) x (I 55 x + dd)) sz nd (exM I F sz nd fs x dd L k).2 F)) (decide_eq_true c5))
          have h9 := ih (k + 1) (by omega)
          rw [e9] at h9
          exact h9
theorem lp_qunseen (X : Ctx) (d : Nat) (I : MI) (L : ML) (F : Nat) (sz : Nat → Nat) (nd : Nat → Nat → Nat × Nat × Nat × Nat) (hR : MR I F sz nd) (fs : Nat → Nat) (m : Nat) (hm : I 42 28 = nI m) (h6 : m ≤ 6) (hfs : ∀ k, k < m → I 59 k = nI (fs k) ∧ fs k < F) (dd : Int32) (hm1 : ¬ dd < -20) (hm2 : ¬ nI 20 < dd) : ∀ (z x : Nat), x + z = 6 → Ev X mX6_unseen (d + 4) (0, 0) (0, 0) (some (.int ((unM I F sz nd fs m dd L 6).1)), shF, (u2 I 42 0 (nI 0)), (unM I F sz nd fs m dd L 6).2) 22 [.ref 42, .int (dd), .int ((unM I F sz nd fs m dd L x).1), .int (nI x), .null, .null] [] shF (u2 I 42 0 (nI 0)) (unM I F sz nd fs m dd L x).2 := by
  intro z
  induction z with
  | zero =>
    intro x hi
    obtain ⟨hF, hF4, hall⟩ := id hR
    have hi2 : x = 6 := by omega
    rw [hi2]
    refine r_iload_n (pc := 22) dX6_unseen_22 rfl ?_
    refine r_bipush (pc := 23) dX6_unseen_23 bp_6 ?_
    refine r_icmpN_ge (pc := 25) (tgt := 106) dX6_unseen_25 (by decide) (by omega) (by omega) (fun c1 => ?_) (fun c1 => ?_)
    · refine r_iload_n (pc := 106) dX6_unseen_106 rfl ?_
      exact r_iret dX6_unseen_107 rfl (rfl) rfl
    · exact absurd c1 (by decide)
  | succ z ih =>
    intro x hi
    obtain ⟨hF, hF4, hall⟩ := id hR
    refine r_iload_n (pc := 22) dX6_unseen_22 rfl ?_
    refine r_bipush (pc := 23) dX6_unseen_23 bp_6 ?_
    refine r_icmpN_ge (pc := 25) (tgt := 106) dX6_unseen_25 (by decide) (by omega) (by omega) (fun c2 => ?_) (fun c2 => ?_)
    · exact absurd c2 (by omega)
    · refine r_iconst (pc := 28) (v := nI 1) dX6_unseen_28 rfl ?_
      refine r_istore (pc := 29) (lo1 := [.ref 42, .int (dd), .int ((unM I F sz nd fs m dd L x).1), .int (nI x), .int (nI 1), .null]) dX6_unseen_29 rfl (by decide) rfl ?_
      refine r_iconst (pc := 31) (v := nI 0) dX6_unseen_31 rfl ?_
      refine r_istore (pc := 32) (lo1 := [.ref 42, .int (dd), .int ((unM I F sz nd fs m dd L x).1), .int (nI x), .int (nI 1), .int (nI 0)]) dX6_unseen_32 rfl (by decide) rfl ?_
      refine lp_unseen_in X d I (unM I F sz nd fs m dd L x).2 F sz nd hR fs m hm h6 hfs dd x (by omega) (unM I F sz nd fs m dd L x).1 _ ?_ m 0 (by omega)
      exact ih (x + 1) (by omega)
theorem q_unseen (X : Ctx) (d : Nat) (I : MI) (L : ML) (F : Nat) (sz : Nat → Nat) (nd : Nat → Nat → Nat × Nat × Nat × Nat) (hR : MR I F sz nd) (fs : Nat → Nat) (m : Nat) (hm : I 42 28 = nI m) (h6 : m ≤ 6) (hfs : ∀ k, k < m → I 59 k = nI (fs k) ∧ fs k < F) (dd : Int32) (hm1 : ¬ dd < -20) (hm2 : ¬ nI 20 < dd) : Sp X mX6_unseen (d + 4) (0, 0) [.ref 42, .int (dd)] shF I L (some (.int ((unM I F sz nd fs m dd L 6).1)), shF, (u2 I 42 0 (nI 0)), (unM I F sz nd fs m dd L 6).2) := by
  obtain ⟨hF, hF4, hall⟩ := id hR
  refine Sp.of okX6_unseen [.ref 42, .int (dd), .null, .null, .null, .null] 4 rfl (Nat.le_of_ble_eq_true rfl) ?_
  refine r_aload_n (pc := 0) dX6_unseen_0 rfl ?_
  refine r_iconst (pc := 1) (v := nI 0) dX6_unseen_1 rfl ?_
  refine r_put (pc := 2) .int dX6_unseen_2 fX6_93 rfl rfl nf6_0 rfl rfl ?_
  refine r_iload_n (pc := 5) dX6_unseen_5 rfl ?_
  refine r_bipush (pc := 6) dX6_unseen_6 bp_m20 ?_
  refine r_bipush (pc := 8) dX6_unseen_8 bp_20 ?_
  refine r_callS (pc := 10) (N := mX6_in) (rest := []) (s_in_t X _ (u2 I 42 0 (nI 0)) L dd (-20) (nI 20) hm1 hm2) okX6_in lkX6_97 rfl rfl (Nat.le_of_ble_eq_true rfl) ⟨Nat.le_refl _, Nat.le_refl _⟩ dX6_unseen_10 ?_
  refine r_ifN_ne (pc := 13) (tgt := 18) dX6_unseen_13 (by decide) (by omega) (fun c3 => ?_) (fun c3 => ?_)
  · refine r_iconst (pc := 18) (v := nI 0) dX6_unseen_18 rfl ?_
    refine r_istore_n (pc := 19) (lo1 := [.ref 42, .int (dd), .int (nI 0), .null, .null, .null]) dX6_unseen_19 rfl (by decide) rfl ?_
    refine r_iconst (pc := 20) (v := nI 0) dX6_unseen_20 rfl ?_
    refine r_istore_n (pc := 21) (lo1 := [.ref 42, .int (dd), .int (nI 0), .int (nI 0), .null, .null]) dX6_unseen_21 rfl (by decide) rfl ?_
    exact lp_qunseen X d I L F sz nd hR fs m hm h6 hfs dd hm1 hm2 6 0 rfl
  · exact absurd c3 (by decide)
