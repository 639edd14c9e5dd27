def kdD (tx : Nat → Nat) (E q : Nat) : Nat := if E = q + 1 then 2 else if E = q + 2 ∧ tx q ≠ 48 then 2 else 3
def vD (tx : Nat → Nat) (E q : Nat) : Nat := if E = q + 1 then tx q - 48 else (tx q - 48) * 10 + tx (q + 1) - 48
def nuD (tx : Nat → Nat) (q dd : Nat) : Nat := if dd = 1 then tx q - 48 else (tx q - 48) * 10 + tx (q + dd - 1) - 48
theorem nuD_s (tx : Nat → Nat) (q : Nat) {dd : Nat} (h : 1 ≤ dd) : (tx q - 48) * 10 + tx (q + dd) - 48 = nuD tx q (dd + 1) := by
  unfold nuD
  rw [if_neg (by omega), show q + (dd + 1) - 1 = q + dd by omega]
theorem isD_t {c : Nat} (h : isD c = true) : 48 ≤ c ∧ c ≤ 57 := of_decide_eq_true h
theorem s_isDigit (X : Ctx) (d : Nat) (I : MI) (L : ML) (c : Nat) (hc : c < 256) : Sp X mX2_isDigit (d + 0) (0, 0) [.int (nI c)] shF I L (some (.int (bI (isD c))), shF, I, L) := by
  refine Sp.of okX2_isDigit [.int (nI c)] 0 rfl (Nat.le_of_ble_eq_true rfl) ?_
  refine r_iload_n (pc := 0) dX2_isDigit_0 rfl ?_
  refine r_bipush (pc := 1) dX2_isDigit_1 bp_48 ?_
  refine r_icmpN_lt (pc := 3) (tgt := 16) dX2_isDigit_3 (by decide) (by omega) (by omega) (fun c1 => ?_) (fun c1 => ?_)
  · refine r_iconst (pc := 16) (v := nI 0) dX2_isDigit_16 rfl ?_
    exact r_zret dX2_isDigit_17 rfl (by decide) (by rw [show isD c = false from decide_eq_false (by omega)]; rfl) rfl
  · refine r_iload_n (pc := 6) dX2_isDigit_6 rfl ?_
    refine r_bipush (pc := 7) dX2_isDigit_7 bp_57 ?_
    refine r_icmpN_gt (pc := 9) (tgt := 16) dX2_isDigit_9 (by decide) (by omega) (by omega) (fun c2 => ?_) (fun c2 => ?_)
    · refine r_iconst (pc := 16) (v := nI 0) dX2_isDigit_16 rfl ?_
      exact r_zret dX2_isDigit_17 rfl (by decide) (by rw [show isD c = false from decide_eq_false (by omega)]; rfl) rfl
    · refine r_iconst (pc := 12) (v := nI 1) dX2_isDigit_12 rfl ?_
      refine r_goto (pc := 13) (tgt := 17) dX2_isDigit_13 (by decide) ?_
      exact r_zret dX2_isDigit_17 rfl (by decide) (by rw [show isD c = true from decide_eq_true (by omega)]; rfl) rfl
theorem lp_passDigits (X : Ctx) (d : Nat) (I : MI) (L : ML) (tx : Nat → Nat) (n q E : Nat) (hn : n ≤ 100) (hq : q < n) (hd : 48 ≤ tx q ∧ tx q ≤ 57) : ∀ (f dd : Nat) (J : MI), n ≤ q + dd + f → q + dd ≤ n → 1 ≤ dd → TXc J tx n → FRp I J → J 11 5 = nI q → J 11 6 = nI (q + dd) → J 11 7 = nI (nuD tx q dd) → dgE tx n f (q + dd) = E → ∃ T, (fun T => ∃ J2, T = (none, shF, J2, L) ∧ FRp I J2 ∧ J2 11 5 = nI q ∧ J2 11 6 = nI E ∧ J2 11 4 = tokI (kdD tx E q) (vD tx E q) ∧ (kdD tx E q = 2 → J2 11 7 = nI (vD tx E q))) T ∧ Ev X mX2_passDigits (d + 1) (0, 0) (0, 0) T 7 [.ref 11, .int (nI (tx q - 48)), .int (nI dd)] [] shF J L := by
  intro f
  induction f with
  | zero =>
    intro dd J hf hb h1 hT hF h5 h6 h7 hE
    refine qU (fun T_ k_ => r_aload_n (pc := 7) dX2_passDigits_7 rfl k_) ?_
    refine qU (fun T_ k_ => r_getV (pc := 8) (v := nI (q + dd)) dX2_passDigits_8 fX2_37 rfl rfl (h6) k_) ?_
    refine qP (fun T_ => r_ifN_lt (pc := 11) (tgt := 86) dX2_passDigits_11 (by decide) (by omega)) (fun c1 => ?_) (fun c1 => ?_)
    · exact absurd c1 (by omega)
    · refine qU (fun T_ k_ => r_aload_n (pc := 14) dX2_passDigits_14 rfl k_) ?_
      refine qU (fun T_ k_ => r_getV (pc := 15) (v := nI (q + dd)) dX2_passDigits_15 fX2_37 rfl rfl (h6) k_) ?_
      refine qU (fun T_ k_ => r_aload_n (pc := 18) dX2_passDigits_18 rfl k_) ?_
      refine qU (fun T_ k_ => r_getV (pc := 19) (v := nI n) dX2_passDigits_19 fX2_29 rfl rfl (hT.1) k_) ?_
      refine qP (fun T_ => r_icmpN_ge (pc := 22) (tgt := 86) dX2_passDigits_22 (by decide) (by omega) (by omega)) (fun c2 => ?_) (fun c2 => ?_)
      · have hE2 : E = q + dd := hE.symm
        refine qU (fun T_ k_ => r_aload_n (pc := 86) dX2_passDigits_86 rfl k_) ?_
        refine qU (fun T_ k_ => r_iload_n (pc := 87) dX2_passDigits_87 rfl k_) ?_
        refine qU (fun T_ k_ => r_iconst (pc := 88) (v := nI 1) dX2_passDigits_88 rfl k_) ?_
        refine qP (fun T_ => r_icmpN_eq (pc := 89) (tgt := 101) dX2_passDigits_89 (by decide) (by omega) (by omega)) (fun c3 => ?_) (fun c3 => ?_)
        · refine qU (fun T_ k_ => r_bipush (pc := 101) dX2_passDigits_101 bp_m2 k_) ?_
          refine qU (fun T_ k_ => r_goto (pc := 103) (tgt := 108) dX2_passDigits_103 (by decide) k_) ?_
          refine qU (fun T_ k_ => r_put (pc := 108) .int dX2_passDigits_108 fX2_43 rfl rfl nf2_4 rfl rfl k_) ?_
          have hk : kdD tx E q = 2 := if_pos (by omega)
          exact ⟨_, ⟨_, rfl, hF.put 4 _ (by decide) (by decide), h5, h6.trans (by rw [hE2]), by rw [hk]; rfl, fun z => (by rw [h7]; unfold nuD vD; rw [if_pos (by omega), if_pos (by omega)] : J 11 7 = nI (vD tx E q))⟩, r_vret dX2_passDigits_111 rfl rfl rfl⟩
        · refine qU (fun T_ k_ => r_iload_n (pc := 92) dX2_passDigits_92 rfl k_) ?_
          refine qU (fun T_ k_ => r_iconst (pc := 93) (v := nI 2) dX2_passDigits_93 rfl k_) ?_
          refine qN (fun T_ => r_icmpN_ne (pc := 94) (tgt := 106) dX2_passDigits_94 (by decide) (by omega) (by omega)) (fun c4 => ?_) (fun c4 => ?_)
          · refine qU (fun T_ k_ => r_bipush (pc := 106) dX2_passDigits_106 bp_m3 k_) ?_
            refine qU (fun T_ k_ => r_put (pc := 108) .int dX2_passDigits_108 fX2_43 rfl rfl nf2_4 rfl rfl k_) ?_
            have hk : kdD tx E q = 3 := (if_neg (by omega)).trans (if_neg (by omega))
            exact ⟨_, ⟨_, rfl, hF.put 4 _ (by decide) (by decide), h5, h6.trans (by rw [hE2]), by rw [hk]; rfl, fun z => (by rw [hk] at z; exact absurd z (by decide) : J 11 7 = nI (vD tx E q))⟩, r_vret dX2_passDigits_111 rfl rfl rfl⟩
          · refine qU (fun T_ k_ => r_iload_n (pc := 97) dX2_passDigits_97 rfl k_) ?_
            refine qP (fun T_ => r_ifN_eq (pc := 98) (tgt := 106) dX2_passDigits_98 (by decide) (by omega)) (fun c5 => ?_) (fun c5 => ?_)
            · refine qU (fun T_ k_ => r_bipush (pc := 106) dX2_passDigits_106 bp_m3 k_) ?_
              refine qU (fun T_ k_ => r_put (pc := 108) .int dX2_passDigits_108 fX2_43 rfl rfl nf2_4 rfl rfl k_) ?_
              have hk : kdD tx E q = 3 := (if_neg (by omega)).trans (if_neg (by omega))
              exact ⟨_, ⟨_, rfl, hF.put 4 _ (by decide) (by decide), h5, h6.trans (by rw [hE2]), by rw [hk]; rfl, fun z => (by rw [hk] at z; exact absurd z (by decide) : J 11 7 = nI (vD tx E q))⟩, r_vret dX2_passDigits_111 rfl rfl rfl⟩
            · refine qU (fun T_ k_ => r_bipush (pc := 101) dX2_passDigits_101 bp_m2 k_) ?_
              refine qU (fun T_ k_ => r_goto (pc := 103) (tgt := 108) dX2_passDigits_103 (by decide) k_) ?_
              refine qU (fun T_ k_ => r_put (pc := 108) .int dX2_passDigits_108 fX2_43 rfl rfl nf2_4 rfl rfl k_) ?_
              have hk : kdD tx E q = 2 := (if_neg (by omega)).trans (if_pos ⟨by omega, by omega⟩)
              exact ⟨_, ⟨_, rfl, hF.put 4 _ (by decide) (by decide), h5, h6.trans (by rw [hE2]), by rw [hk]; rfl, fun z => (by rw [h7]; unfold nuD vD; rw [if_neg (by omega), if_neg (by omega), show q + dd - 1 = q + 1 by omega] : J 11 7 = nI (vD tx E q))⟩, r_vret dX2_passDigits_111 rfl rfl rfl⟩
      · exact absurd c2 (by omega)
  | succ f ih =>
    intro dd J hf hb h1 hT hF h5 h6 h7 hE
    refine qU (fun T_ k_ => r_aload_n (pc := 7) dX2_passDigits_7 rfl k_) ?_
    refine qU (fun T_ k_ => r_getV (pc := 8) (v := nI (q + dd)) dX2_passDigits_8 fX2_37 rfl rfl (h6) k_) ?_
    refine qP (fun T_ => r_ifN_lt (pc := 11) (tgt := 86) dX2_passDigits_11 (by decide) (by omega)) (fun c1 => ?_) (fun c1 => ?_)
    · exact absurd c1 (by omega)
    · refine qU (fun T_ k_ => r_aload_n (pc := 14) dX2_passDigits_14 rfl k_) ?_
      refine qU (fun T_ k_ => r_getV (pc := 15) (v := nI (q + dd)) dX2_passDigits_15 fX2_37 rfl rfl (h6) k_) ?_
      refine qU (fun T_ k_ => r_aload_n (pc := 18) dX2_passDigits_18 rfl k_) ?_
      refine qU (fun T_ k_ => r_getV (pc := 19) (v := nI n) dX2_passDigits_19 fX2_29 rfl rfl (hT.1) k_) ?_
      refine qP (fun T_ => r_icmpN_ge (pc := 22) (tgt := 86) dX2_passDigits_22 (by decide) (by omega) (by omega)) (fun c2 => ?_) (fun c2 => ?_)
      · have hE2 : E = q + dd := hE.symm.trans (if_neg (by omega))
        refine qU (fun T_ k_ => r_aload_n (pc := 86) dX2_passDigits_86 rfl k_) ?_
        refine qU (fun T_ k_ => r_iload_n (pc := 87) dX2_passDigits_87 rfl k_) ?_
        refine qU (fun T_ k_ => r_iconst (pc := 88) (v := nI 1) dX2_passDigits_88 rfl k_) ?_
        refine qP (fun T_ => r_icmpN_eq (pc := 89) (tgt := 101) dX2_passDigits_89 (by decide) (by omega) (by omega)) (fun c3 => ?_) (fun c3 => ?_)
        · refine qU (fun T_ k_ => r_bipush (pc := 101) dX2_passDigits_101 bp_m2 k_) ?_
          refine qU (fun T_ k_ => r_goto (pc := 103) (tgt := 108) dX2_passDigits_103 (by decide) k_) ?_
          refine qU (fun T_ k_ => r_put (pc := 108) .int dX2_passDigits_108 fX2_43 rfl rfl nf2_4 rfl rfl k_) ?_
          have hk : kdD tx E q = 2 := if_pos (by omega)
          exact ⟨_, ⟨_, rfl, hF.put 4 _ (by decide) (by decide), h5, h6.trans (by rw [hE2]), by rw [hk]; rfl, fun z => (by rw [h7]; unfold nuD vD; rw [if_pos (by omega), if_pos (by omega)] : J 11 7 = nI (vD tx E q))⟩, r_vret dX2_passDigits_111 rfl rfl rfl⟩
        · refine qU (fun T_ k_ => r_iload_n (pc := 92) dX2_passDigits_92 rfl k_) ?_
          refine qU (fun T_ k_ => r_iconst (pc := 93) (v := nI 2) dX2_passDigits_93 rfl k_) ?_
          refine qN (fun T_ => r_icmpN_ne (pc := 94) (tgt := 106) dX2_passDigits_94 (by decide) (by omega) (by omega)) (fun c4 => ?_) (fun c4 => ?_)
          · refine qU (fun T_ k_ => r_bipush (pc := 106) dX2_passDigits_106 bp_m3 k_) ?_
            refine qU (fun T_ k_ => r_put (pc := 108) .int dX2_passDigits_108 fX2_43 rfl rfl nf2_4 rfl rfl k_) ?_
            have hk : kdD tx E q = 3 := (if_neg (by omega)).trans (if_neg (by omega))
            exact ⟨_, ⟨_, rfl, hF.put 4 _ (by decide) (by decide), h5, h6.trans (by rw [hE2]), by rw [hk]; rfl, fun z => (by rw [hk] at z; exact absurd z (by decide) : J 11 7 = nI (vD tx E q))⟩, r_vret dX2_passDigits_111 rfl rfl rfl⟩
          · refine qU (fun T_ k_ => r_iload_n (pc := 97) dX2_passDigits_97 rfl k_) ?_
            refine qP (fun T_ => r_ifN_eq (pc := 98) (tgt := 106) dX2_passDigits_98 (by decide) (by omega)) (fun c5 => ?_) (fun c5 => ?_)
            · refine qU (fun T_ k_ => r_bipush (pc := 106) dX2_passDigits_106 bp_m3 k_) ?_
              refine qU (fun T_ k_ => r_put (pc := 108) .int dX2_passDigits_108 fX2_43 rfl rfl nf2_4 rfl rfl k_) ?_
              have hk : kdD tx E q = 3 := (if_neg (by omega)).trans (if_neg (by omega))
              exact ⟨_, ⟨_, rfl, hF.put 4 _ (by decide) (by decide), h5, h6.trans (by rw [hE2]), by rw [hk]; rfl, fun z => (by rw [hk] at z; exact absurd z (by decide) : J 11 7 = nI (vD tx E q))⟩, r_vret dX2_passDigits_111 rfl rfl rfl⟩
            · refine qU (fun T_ k_ => r_bipush (pc := 101) dX2_passDigits_101 bp_m2 k_) ?_
              refine qU (fun T_ k_ => r_goto (pc := 103) (tgt := 108) dX2_passDigits_103 (by decide) k_) ?_
              refine qU (fun T_ k_ => r_put (pc := 108) .int dX2_passDigits_108 fX2_43 rfl rfl nf2_4 rfl rfl k_) ?_
              have hk : kdD tx E q = 2 := (if_neg (by omega)).trans (if_pos ⟨by omega, by omega⟩)
              exact ⟨_, ⟨_, rfl, hF.put 4 _ (by decide) (by decide), h5, h6.trans (by rw [hE2]), by rw [hk]; rfl, fun z => (by rw [h7]; unfold nuD vD; rw [if_neg (by omega), if_neg (by omega), show q + dd - 1 = q + 1 by omega] : J 11 7 = nI (vD tx E q))⟩, r_vret dX2_passDigits_111 rfl rfl rfl⟩
      · refine qU (fun T_ k_ => r_aload_n (pc := 25) dX2_passDigits_25 rfl k_) ?_
        refine qU (fun T_ k_ => r_getV (pc := 26) (v := nI (q + dd)) dX2_passDigits_26 fX2_37 rfl rfl (h6) k_) ?_
        refine qU (fun T_ k_ => r_bipush (pc := 29) dX2_passDigits_29 bp_100 k_) ?_
        refine qP (fun T_ => r_icmpN_ge (pc := 31) (tgt := 86) dX2_passDigits_31 (by decide) (by omega) (by omega)) (fun c6 => ?_) (fun c6 => ?_)
        · exact absurd c6 (by omega)
        · have hx := (hT.2.2 (q + dd) (by omega)).2
          have hx2 := @isD_t (tx (q + dd))
          refine qU (fun T_ k_ => r_aload_n (pc := 34) dX2_passDigits_34 rfl k_) ?_
          refine qU (fun T_ k_ => r_getR (pc := 35) (b := 22) dX2_passDigits_35 fX2_25 rfl rfl k_) ?_
          refine qU (fun T_ k_ => r_aload_n (pc := 38) dX2_passDigits_38 rfl k_) ?_
          refine qU (fun T_ k_ => r_getV (pc := 39) (v := nI (q + dd)) dX2_passDigits_39 fX2_37 rfl rfl (h6) k_) ?_
          refine qU (fun T_ k_ => r_ialdV (pc := 42) (j := q + dd) (v := nI (tx (q + dd))) dX2_passDigits_42 rfl rfl (by omega) (by decide) ((hT.2.2 (q + dd) (by omega)).1) k_) ?_
          refine qU (fun T_ k_ => r_callS (pc := 43) (N := mX2_isDigit) (rest := []) (s_isDigit X _ J L (tx (q + dd)) (by omega)) okX2_isDigit lkX2_134 rfl rfl (Nat.le_of_ble_eq_true rfl) ⟨Nat.le_refl _, Nat.le_refl _⟩ dX2_passDigits_43 k_) ?_
          refine qBf (fun T_ => r_ifb_eq (pc := 46) (tgt := 86) dX2_passDigits_46 (by decide)) (fun c7 => ?_) (fun c7 => ?_)
          · have hE2 : E = q + dd := hE.symm.trans (if_neg (fun z => Bool.noConfusion (c7.symm.trans z.2)))
            refine qU (fun T_ k_ => r_aload_n (pc := 86) dX2_passDigits_86 rfl k_) ?_
            refine qU (fun T_ k_ => r_iload_n (pc := 87) dX2_passDigits_87 rfl k_) ?_
            refine qU (fun T_ k_ => r_iconst (pc := 88) (v := nI 1) dX2_passDigits_88 rfl k_) ?_
            refine qP (fun T_ => r_icmpN_eq (pc := 89) (tgt := 101) dX2_passDigits_89 (by decide) (by omega) (by omega)) (fun c8 => ?_) (fun c8 => ?_)
            · refine qU (fun T_ k_ => r_bipush (pc := 101) dX2_passDigits_101 bp_m2 k_) ?_
              refine qU (fun T_ k_ => r_goto (pc := 103) (tgt := 108) dX2_passDigits_103 (by decide) k_) ?_
              refine qU (fun T_ k_ => r_put (pc := 108) .int dX2_passDigits_108 fX2_43 rfl rfl nf2_4 rfl rfl k_) ?_
              have hk : kdD tx E q = 2 := if_pos (by omega)
              exact ⟨_, ⟨_, rfl, hF.put 4 _ (by decide) (by decide), h5, h6.trans (by rw [hE2]), by rw [hk]; rfl, fun z => (by rw [h7]; unfold nuD vD; rw [if_pos (by omega), if_pos (by omega)] : J 11 7 = nI (vD tx E q))⟩, r_vret dX2_passDigits_111 rfl rfl rfl⟩
            · refine qU (fun T_ k_ => r_iload_n (pc := 92) dX2_passDigits_92 rfl k_) ?_
              refine qU (fun T_ k_ => r_iconst (pc := 93) (v := nI 2) dX2_passDigits_93 rfl k_) ?_
              refine qN (fun T_ => r_icmpN_ne (pc := 94) (tgt := 106) dX2_passDigits_94 (by decide) (by omega) (by omega)) (fun c9 => ?_) (fun c9 => ?_)
              · refine qU (fun T_ k_ => r_bipush (pc := 106) dX2_passDigits_106 bp_m3 k_) ?_
                refine qU (fun T_ k_ => r_put (pc := 108) .int dX2_passDigits_108 fX2_43 rfl rfl nf2_4 rfl rfl k_) ?_
                have hk : kdD tx E q = 3 := (if_neg (by omega)).trans (if_neg (by omega))
                exact ⟨_, ⟨_, rfl, hF.put 4 _ (by decide) (by decide), h5, h6.trans (by rw [hE2]), by rw [hk]; rfl, fun z => (by rw [hk] at z; exact absurd z (by decide) : J 11 7 = nI (vD tx E q))⟩, r_vret dX2_passDigits_111 rfl rfl rfl⟩
              · refine qU (fun T_ k_ => r_iload_n (pc := 97) dX2_passDigits_97 rfl k_) ?_
                refine qP (fun T_ => r_ifN_eq (pc := 98) (tgt := 106) dX2_passDigits_98 (by decide) (by omega)) (fun c10 => ?_) (fun c10 => ?_)
                · refine qU (fun T_ k_ => r_bipush (pc := 106) dX2_passDigits_106 bp_m3 k_) ?_
                  refine qU (fun T_ k_ => r_put (pc := 108) .int dX2_passDigits_108 fX2_43 rfl rfl nf2_4 rfl rfl k_) ?_
                  have hk : kdD tx E q = 3 := (if_neg (by omega)).trans (if_neg (by omega))
                  exact ⟨_, ⟨_, rfl, hF.put 4 _ (by decide) (by decide), h5, h6.trans (by rw [hE2]), by rw [hk]; rfl, fun z => (by rw [hk] at z; exact absurd z (by decide) : J 11 7 = nI (vD tx E q))⟩, r_vret dX2_passDigits_111 rfl rfl rfl⟩
                · refine qU (fun T_ k_ => r_bipush (pc := 101) dX2_passDigits_101 bp_m2 k_) ?_
                  refine qU (fun T_ k_ => r_goto (pc := 103) (tgt := 108) dX2_passDigits_103 (by decide) k_) ?_
                  refine qU (fun T_ k_ => r_put (pc := 108) .int dX2_passDigits_108 fX2_43 rfl rfl nf2_4 rfl rfl k_) ?_
                  have hk : kdD tx E q = 2 := (if_neg (by omega)).trans (if_pos ⟨by omega, by omega⟩)
                  exact ⟨_, ⟨_, rfl, hF.put 4 _ (by decide) (by decide), h5, h6.trans (by rw [hE2]), by rw [hk]; rfl, fun z => (by rw [h7]; unfold nuD vD; rw [if_neg (by omega), if_neg (by omega), show q + dd - 1 = q + 1 by omega] : J 11 7 = nI (vD tx E q))⟩, r_vret dX2_passDigits_111 rfl rfl rfl⟩
          · have hx3 := isD_t c7
            refine qU (fun T_ k_ => r_aload_n (pc := 49) dX2_passDigits_49 rfl k_) ?_
            refine qU (fun T_ k_ => r_iload_n (pc := 50) dX2_passDigits_50 rfl k_) ?_
            refine qU (fun T_ k_ => r_bipush (pc := 51) dX2_passDigits_51 bp_10 k_) ?_
            refine qU (fun T_ k_ => r_imulN (pc := 53) dX2_passDigits_53 k_) ?_
            refine qU (fun T_ k_ => r_aload_n (pc := 54) dX2_passDigits_54 rfl k_) ?_
            refine qU (fun T_ k_ => r_getR (pc := 55) (b := 22) dX2_passDigits_55 fX2_25 rfl rfl k_) ?_
            refine qU (fun T_ k_ => r_aload_n (pc := 58) dX2_passDigits_58 rfl k_) ?_
            refine qU (fun T_ k_ => r_getV (pc := 59) (v := nI (q + dd)) dX2_passDigits_59 fX2_37 rfl rfl (h6) k_) ?_
            refine qU (fun T_ k_ => r_ialdV (pc := 62) (j := q + dd) (v := nI (tx (q + dd))) dX2_passDigits_62 rfl rfl (by omega) (by decide) ((hT.2.2 (q + dd) (by omega)).1) k_) ?_
            refine qU (fun T_ k_ => r_iaddN (pc := 63) dX2_passDigits_63 k_) ?_
            refine qU (fun T_ k_ => r_bipush (pc := 64) dX2_passDigits_64 bp_48 k_) ?_
            refine qU (fun T_ k_ => r_isubN (pc := 66) dX2_passDigits_66 (by omega) k_) ?_
            refine qU (fun T_ k_ => r_put (pc := 67) .int dX2_passDigits_67 fX2_73 rfl rfl nf2_7 rfl rfl k_) ?_
            refine qU (fun T_ k_ => r_iinc (pc := 70) (v := nI (dd + 1)) (lo1 := [.ref 11, .int (nI (tx q - 48)), .int (nI (dd + 1))]) dX2_passDigits_70 rfl rfl (ii1 _) (by decide) rfl k_) ?_
            refine qU (fun T_ k_ => r_aload_n (pc := 73) dX2_passDigits_73 rfl k_) ?_
            refine qU (fun T_ k_ => r_dup (pc := 74) dX2_passDigits_74 rfl k_) ?_
            refine qU (fun T_ k_ => r_getV (pc := 75) (v := nI (q + dd)) dX2_passDigits_75 fX2_37 rfl rfl (h6) k_) ?_
            refine qU (fun T_ k_ => r_iconst (pc := 78) (v := nI 1) dX2_passDigits_78 rfl k_) ?_
            refine qU (fun T_ k_ => r_iaddN (pc := 79) dX2_passDigits_79 k_) ?_
            refine qU (fun T_ k_ => r_put (pc := 80) .int dX2_passDigits_80 fX2_37 rfl rfl nf2_6 rfl rfl k_) ?_
            refine qU (fun T_ k_ => r_goto (pc := 83) (tgt := 7) dX2_passDigits_83 (by decide) k_) ?_
            exact ih (dd + 1) _ (by omega) (by omega) (by omega) (hT.fr (((FRp.refl J).put 7 _ (by decide) (by decide)).put 6 _ (by decide) (by decide))) ((hF.put 7 _ (by decide) (by decide)).put 6 _ (by decide) (by decide)) h5 rfl (congrArg nI (nuD_s tx q h1)) (by rw [show dgE tx n (f + 1) (q + dd) = dgE tx n f (q + dd + 1) from if_pos ⟨by omega, c7⟩] at hE; exact hE)
theorem s_passDigits (X : Ctx) (d : Nat) (I : MI) (L : ML) (tx : Nat → Nat) (n q E : Nat) (hT : TXc I tx n) (hq : q < n) (hd : 48 ≤ tx q ∧ tx q ≤ 57) (h5 : I 11 5 = nI q) (h6 : I 11 6 = nI (q + 1)) (hE : dgE tx n (n - (q + 1)) (q + 1) = E) : ∃ T, (fun T => ∃ J2, T = (none, shF, J2, L) ∧ FRp I J2 ∧ J2 11 5 = nI q ∧ J2 11 6 = nI E ∧ J2 11 4 = tokI (kdD tx E q) (vD tx E q) ∧ (kdD tx E q = 2 → J2 11 7 = nI (vD tx E q))) T ∧ Sp X mX2_passDigits (d + 1) (0, 0) [.ref 11, .int (nI (tx q - 48))] shF I L T := by
  refine qU (fun T_ k_ => Sp.of okX2_passDigits [.ref 11, .int (nI (tx q - 48)), .null] 1 rfl (Nat.le_of_ble_eq_true rfl) k_) ?_
  refine qU (fun T_ k_ => r_iconst (pc := 0) (v := nI 1) dX2_passDigits_0 rfl k_) ?_
  refine qU (fun T_ k_ => r_istore_n (pc := 1) (lo1 := [.ref 11, .int (nI (tx q - 48)), .int (nI 1)]) dX2_passDigits_1 rfl (by decide) rfl k_) ?_
  refine qU (fun T_ k_ => r_aload_n (pc := 2) dX2_passDigits_2 rfl k_) ?_
  refine qU (fun T_ k_ => r_iload_n (pc := 3) dX2_passDigits_3 rfl k_) ?_
  refine qU (fun T_ k_ => r_put (pc := 4) .int dX2_passDigits_4 fX2_73 rfl rfl nf2_7 rfl rfl k_) ?_
  exact lp_passDigits X d I L tx n q E hT.2.1 hq hd (n - (q + 1)) 1 _ (by omega) (by omega) (by omega) (hT.fr ((FRp.refl I).put 7 _ (by decide) (by decide))) ((FRp.refl I).put 7 _ (by decide) (by decide)) h5 h6 (by show nI _ = nI _; unfold nuD; rw [if_pos rfl]) hE
theorem lp_pass (X : Ctx) (d : Nat) (I : MI) (L : ML) (tx : Nat → Nat) (n : Nat) (hT : TXc I tx n) (T : TR) : ∀ (f p : Nat), n ≤ p + f → p ≤ n → Ev X mX2_pass (d + 2) (0, 0) (0, 0) T 40 [.ref 11, .int (nI (skp tx n f p))] [] shF I L → Ev X mX2_pass (d + 2) (0, 0) (0, 0) T 5 [.ref 11, .int (nI p)] [] shF I L := by
  have hn := hT.2.1
  intro f
  induction f with
  | zero =>
    intro p hf hp K
    refine r_iload_n (pc := 5) dX2_pass_5 rfl ?_
    refine r_ifN_lt (pc := 6) (tgt := 40) dX2_pass_6 (by decide) (by omega) (fun c1 => ?_) (fun c1 => ?_)
    · exact absurd c1 (by omega)
    · refine r_iload_n (pc := 9) dX2_pass_9 rfl ?_
      refine r_aload_n (pc := 10) dX2_pass_10 rfl ?_
      refine r_getV (pc := 11) (v := nI n) dX2_pass_11 fX2_29 rfl rfl (hT.1) ?_
      refine r_icmpN_ge (pc := 14) (tgt := 40) dX2_pass_14 (by decide) (by omega) (by omega) (fun c2 => ?_) (fun c2 => ?_)
      · exact K
      · exact absurd c2 (by omega)
  | succ f ih =>
    intro p hf hp K
    refine r_iload_n (pc := 5) dX2_pass_5 rfl ?_
    refine r_ifN_lt (pc := 6) (tgt := 40) dX2_pass_6 (by decide) (by omega) (fun c1 => ?_) (fun c1 => ?_)
    · exact absurd c1 (by omega)
    · refine r_iload_n (pc := 9) dX2_pass_9 rfl ?_
      refine r_aload_n (pc := 10) dX2_pass_10 rfl ?_
      refine r_getV (pc := 11) (v := nI n) dX2_pass_11 fX2_29 rfl rfl (hT.1) ?_
      refine r_icmpN_ge (pc := 14) (tgt := 40) dX2_pass_14 (by decide) (by omega) (by omega) (fun c2 => ?_) (fun c2 => ?_)
      · rw [show skp tx n (f + 1) p = p from if_neg (by omega)] at K
        exact K
      · refine r_iload_n (pc := 17) dX2_pass_17 rfl ?_
        refine r_bipush (pc := 18) dX2_pass_18 bp_100 ?_
        refine r_icmpN_ge (pc := 20) (tgt := 40) dX2_pass_20 (by decide) (by omega) (by omega) (fun c3 => ?_) (fun c3 => ?_)
        · exact absurd c3 (by omega)
        · refine r_aload_n (pc := 23) dX2_pass_23 rfl ?_
          refine r_getR (pc := 24) (b := 22) dX2_pass_24 fX2_25 rfl rfl ?_
          refine r_iload_n (pc := 27) dX2_pass_27 rfl ?_
          have hx := (hT.2.2 p (by omega)).2
          refine r_ialdV (pc := 28) (j := p) (v := nI (tx p)) dX2_pass_28 rfl rfl (by omega) (by decide) ((hT.2.2 p (by omega)).1) ?_
          refine r_bipush (pc := 29) dX2_pass_29 bp_32 ?_
          refine r_icmpN_ne (pc := 31) (tgt := 40) dX2_pass_31 (by decide) (by omega) (by omega) (fun c4 => ?_) (fun c4 => ?_)
          · rw [show skp tx n (f + 1) p = p from if_neg (by omega)] at K
            exact K
          · refine r_iinc (pc := 34) (v := nI (p + 1)) (lo1 := [.ref 11, .int (nI (p + 1))]) dX2_pass_34 rfl rfl (ii1 _) (by decide) rfl ?_
            refine r_goto (pc := 37) (tgt := 5) dX2_pass_37 (by decide) ?_
            rw [show skp tx n (f + 1) p = skp tx n f (p + 1) from if_pos ⟨by omega, by omega⟩] at K
            exact ih (p + 1) (by omega) (by omega) K
theorem s_pass (X : Ctx) (d : Nat) (I : MI) (L : ML) (tx : Nat → Nat) (n t : Nat) (hT : TXc I tx n) (h6 : I 11 6 = nI (bps tx n t)) : ∃ T, (fun T => ∃ J2, T = (none, shF, J2, L) ∧ FRp I J2 ∧ CRt J2 tx n t) T ∧ Sp X mX2_pass (d + 2) (0, 0) [.ref 11] shF I L T := by
  have hn := hT.2.1
  have hb := bps_le tx n t
  have hs := skp_le tx n (n - bps tx n t) (bps tx n t)
  obtain ⟨q, hq⟩ : ∃ q, skp tx n (n - bps tx n t) (bps tx n t) = q := ⟨_, rfl⟩
  have htok : tokP tx n (bps tx n t) = if n ≤ q then (q, q, 0, 0) else if isD (tx q) = true then (q, dgE tx n (n - (q + 1)) (q + 1), kdD tx (dgE tx n (n - (q + 1)) (q + 1)) q, vD tx (dgE tx n (n - (q + 1)) (q + 1)) q) else (q, q + 1, 1, tx q) := by
    rw [← hq]; rfl
  rw [hq] at hs
  refine qU (fun T_ k_ => Sp.of okX2_pass [.ref 11, .null] 1 rfl (Nat.le_of_ble_eq_true rfl) k_) ?_
  refine qU (fun T_ k_ => r_aload_n (pc := 0) dX2_pass_0 rfl k_) ?_
  refine qU (fun T_ k_ => r_getV (pc := 1) (v := nI (bps tx n t)) dX2_pass_1 fX2_37 rfl rfl (h6) k_) ?_
  refine qU (fun T_ k_ => r_istore_n (pc := 4) (lo1 := [.ref 11, .int (nI (bps tx n t))]) dX2_pass_4 rfl (by decide) rfl k_) ?_
  refine qU (A := fun T_ => Ev X mX2_pass (d + 2) (0, 0) (0, 0) T_ 40 [.ref 11, .int (nI q)] [] shF I L) (fun T_ k_ => lp_pass X d I L tx n hT T_ (n - bps tx n t) (bps tx n t) (by omega) hb (by rw [hq]; exact k_)) ?_
  refine qU (fun T_ k_ => r_aload_n (pc := 40) dX2_pass_40 rfl k_) ?_
  refine qU (fun T_ k_ => r_iload_n (pc := 41) dX2_pass_41 rfl k_) ?_
  refine qU (fun T_ k_ => r_put (pc := 42) .int dX2_pass_42 fX2_50 rfl rfl nf2_5 rfl rfl k_) ?_
  refine qU (fun T_ k_ => r_aload_n (pc := 45) dX2_pass_45 rfl k_) ?_
  refine qU (fun T_ k_ => r_iload_n (pc := 46) dX2_pass_46 rfl k_) ?_
  refine qU (fun T_ k_ => r_iconst (pc := 47) (v := nI 1) dX2_pass_47 rfl k_) ?_
  refine qU (fun T_ k_ => r_iaddN (pc := 48) dX2_pass_48 k_) ?_
  refine qU (fun T_ k_ => r_put (pc := 49) .int dX2_pass_49 fX2_37 rfl rfl nf2_6 rfl rfl k_) ?_
  refine qU (fun T_ k_ => r_iload_n (pc := 52) dX2_pass_52 rfl k_) ?_
  refine qP (fun T_ => r_ifN_lt (pc := 53) (tgt := 70) dX2_pass_53 (by decide) (by omega)) (fun c1 => ?_) (fun c1 => ?_)
  · exact absurd c1 (by omega)
  · refine qU (fun T_ k_ => r_iload_n (pc := 56) dX2_pass_56 rfl k_) ?_
    refine qU (fun T_ k_ => r_aload_n (pc := 57) dX2_pass_57 rfl k_) ?_
    refine qU (fun T_ k_ => r_getV (pc := 58) (v := nI n) dX2_pass_58 fX2_29 rfl rfl (hT.1) k_) ?_
    refine qP (fun T_ => r_icmpN_ge (pc := 61) (tgt := 70) dX2_pass_61 (by decide) (by omega) (by omega)) (fun c2 => ?_) (fun c2 => ?_)
    · refine qU (fun T_ k_ => r_aload_n (pc := 70) dX2_pass_70 rfl k_) ?_
      refine qU (fun T_ k_ => r_iconst (pc := 71) (v := -1) dX2_pass_71 rfl k_) ?_
      refine qU (fun T_ k_ => r_put (pc := 72) .int dX2_pass_72 fX2_43 rfl rfl nf2_4 rfl rfl k_) ?_
      refine qU (fun T_ k_ => r_aload_n (pc := 75) dX2_pass_75 rfl k_) ?_
      refine qU (fun T_ k_ => r_iload_n (pc := 76) dX2_pass_76 rfl k_) ?_
      refine qU (fun T_ k_ => r_put (pc := 77) .int dX2_pass_77 fX2_37 rfl rfl nf2_6 rfl rfl k_) ?_
      refine qU (fun T_ k_ => r_goto (pc := 80) (tgt := 121) dX2_pass_80 (by decide) k_) ?_
      have ht := htok.trans (if_pos (by omega))
      exact ⟨_, ⟨_, rfl, ((((FRp.refl I).put 5 _ (by decide) (by decide)).put 6 _ (by decide) (by decide)).put 4 _ (by decide) (by decide)).put 6 _ (by decide) (by decide), by show (-1 : Int32) = _; unfold tkK tkV; rw [ht]; rfl, by show nI q = _; unfold tkP; rw [ht], by show nI q = _; rw [show bps tx n (t + 1) = (tokP tx n (bps tx n t)).2.1 from rfl, ht], fun z => by unfold tkK at z; rw [ht] at z; cases z⟩, r_vret dX2_pass_121 rfl rfl rfl⟩
    · refine qU (fun T_ k_ => r_iload_n (pc := 64) dX2_pass_64 rfl k_) ?_
      refine qU (fun T_ k_ => r_bipush (pc := 65) dX2_pass_65 bp_100 k_) ?_
      refine qP (fun T_ => r_icmpN_lt (pc := 67) (tgt := 83) dX2_pass_67 (by decide) (by omega) (by omega)) (fun c3 => ?_) (fun c3 => ?_)
      · refine qU (fun T_ k_ => r_aload_n (pc := 83) dX2_pass_83 rfl k_) ?_
        refine qU (fun T_ k_ => r_getR (pc := 84) (b := 22) dX2_pass_84 fX2_25 rfl rfl k_) ?_
        refine qU (fun T_ k_ => r_iload_n (pc := 87) dX2_pass_87 rfl k_) ?_
        have hx := (hT.2.2 q (by omega)).2
        refine qU (fun T_ k_ => r_ialdV (pc := 88) (j := q) (v := nI (tx q)) dX2_pass_88 rfl rfl (by omega) (by decide) ((hT.2.2 q (by omega)).1) k_) ?_
        refine qU (fun T_ k_ => r_callS (pc := 89) (N := mX2_isDigit) (rest := []) (s_isDigit X _ (u2 (u2 I 11 5 (nI q)) 11 6 (nI (q + 1))) L (tx q) (by omega)) okX2_isDigit lkX2_134 rfl rfl (Nat.le_of_ble_eq_true rfl) ⟨Nat.le_refl _, Nat.le_refl _⟩ dX2_pass_89 k_) ?_
        refine qBf (fun T_ => r_ifb_eq (pc := 92) (tgt := 111) dX2_pass_92 (by decide)) (fun c4 => ?_) (fun c4 => ?_)
        · refine qU (fun T_ k_ => r_aload_n (pc := 111) dX2_pass_111 rfl k_) ?_
          refine qU (fun T_ k_ => r_aload_n (pc := 112) dX2_pass_112 rfl k_) ?_
          refine qU (fun T_ k_ => r_getR (pc := 113) (b := 22) dX2_pass_113 fX2_25 rfl rfl k_) ?_
          refine qU (fun T_ k_ => r_iload_n (pc := 116) dX2_pass_116 rfl k_) ?_
          refine qU (fun T_ k_ => r_ialdV (pc := 117) (j := q) (v := nI (tx q)) dX2_pass_117 rfl rfl (by omega) (by decide) ((hT.2.2 q (by omega)).1) k_) ?_
          refine qU (fun T_ k_ => r_put (pc := 118) .int dX2_pass_118 fX2_43 rfl rfl nf2_4 rfl rfl k_) ?_
          have ht := htok.trans ((if_neg (by omega)).trans (if_neg (fun z => Bool.noConfusion (c4.symm.trans z))))
          exact ⟨_, ⟨_, rfl, ((((FRp.refl I).put 5 _ (by decide) (by decide)).put 6 _ (by decide) (by decide)).put 4 _ (by decide) (by decide)), by show nI (tx q) = _; unfold tkK tkV; rw [ht]; rfl, by show nI q = _; unfold tkP; rw [ht], by show nI (q + 1) = _; rw [show bps tx n (t + 1) = (tokP tx n (bps tx n t)).2.1 from rfl, ht], fun z => by unfold tkK at z; rw [ht] at z; cases z⟩, r_vret dX2_pass_121 rfl rfl rfl⟩
        · have hx3 := isD_t c4
          refine qU (fun T_ k_ => r_aload_n (pc := 95) dX2_pass_95 rfl k_) ?_
          refine qU (fun T_ k_ => r_aload_n (pc := 96) dX2_pass_96 rfl k_) ?_
          refine qU (fun T_ k_ => r_getR (pc := 97) (b := 22) dX2_pass_97 fX2_25 rfl rfl k_) ?_
          refine qU (fun T_ k_ => r_iload_n (pc := 100) dX2_pass_100 rfl k_) ?_
          refine qU (fun T_ k_ => r_ialdV (pc := 101) (j := q) (v := nI (tx q)) dX2_pass_101 rfl rfl (by omega) (by decide) ((hT.2.2 q (by omega)).1) k_) ?_
          refine qU (fun T_ k_ => r_bipush (pc := 102) dX2_pass_102 bp_48 k_) ?_
          refine qU (fun T_ k_ => r_isubN (pc := 104) dX2_pass_104 (by omega) k_) ?_
          obtain ⟨T1, ⟨I1, rfl, hF1, g5, g6, g4, g7⟩, hS1⟩ := s_passDigits X d (u2 (u2 I 11 5 (nI q)) 11 6 (nI (q + 1))) L tx n q _ (hT.fr (((FRp.refl I).put 5 _ (by decide) (by decide)).put 6 _ (by decide) (by decide))) (by omega) (isD_t c4) rfl rfl rfl
          refine qU (fun T_ k_ => r_callV (pc := 105) (N := mX2_passDigits) (rest := []) (hS1) okX2_passDigits lkX2_137 rfl (by decide) rfl rfl rfl (Nat.le_of_ble_eq_true rfl) ⟨Nat.le_refl _, Nat.le_refl _⟩ dX2_pass_105 k_) ?_
          refine qU (fun T_ k_ => r_goto (pc := 108) (tgt := 121) dX2_pass_108 (by decide) k_) ?_
          have ht := htok.trans ((if_neg (by omega)).trans (if_pos c4))
          exact ⟨_, ⟨_, rfl, (((FRp.refl I).put 5 _ (by decide) (by decide)).put 6 _ (by decide) (by decide)).trans hF1, by unfold tkK tkV; rw [ht]; exact g4, by unfold tkP; rw [ht]; exact g5, by rw [show bps tx n (t + 1) = (tokP tx n (bps tx n t)).2.1 from rfl, ht]; exact g6, fun z => by unfold tkK at z; unfold tkV; rw [ht] at z ⊢; exact g7 z⟩, r_vret dX2_pass_121 rfl rfl rfl⟩
      · exact absurd c3 (by omega)
