/-- the value of k digits from q on; it stays once it is above 99 -/
def vM (tx : Nat → Nat) (q : Nat) : Nat → Nat
  | 0 => 0
  | k + 1 => if 99 < vM tx q k then vM tx q k else 10 * vM tx q k + tx (q + k) - 48
theorem vM_le {tx : Nat → Nat} {q : Nat} : ∀ {k : Nat}, (∀ j, j < k → 48 ≤ tx (q + j) ∧ tx (q + j) ≤ 57) → vM tx q k ≤ 999
  | 0, _ => Nat.zero_le _
  | k + 1, h => by
    have a := vM_le (k := k) (fun j hj => h j (by omega))
    have b := h k (by omega)
    unfold vM
    split <;> omega
theorem lp_adv2 (X : Ctx) (d : Nat) (I : MI) (L : ML) (tx : Nat → Nat) (n q c E : Nat) (Q : TR → Prop) : ∀ (f k : Nat) (J : MI), n ≤ q + k + f → q + k ≤ n → TXm J tx n → FRm I J → J 42 3 = nI (q + k) → J 42 5 = nI q → J 42 6 = nI (vM tx q k) → (∀ j, j < k → 48 ≤ tx (q + j) ∧ tx (q + j) ≤ 57) → dgE tx n f (q + k) = E → (∀ (k2 : Nat) (J2 : MI), q + k2 = E → k ≤ k2 → (∀ j, j < k2 → 48 ≤ tx (q + j) ∧ tx (q + j) ≤ 57) → TXm J2 tx n → FRm I J2 → J2 42 3 = nI E → J2 42 5 = nI q → J2 42 6 = nI (vM tx q k2) → ∃ T, Q T ∧ Ev X mX6_advances (d + 2) (0, 0) (0, 0) T 141 [.ref 42, .int (nI c)] [] shF J2 L) → ∃ T, Q T ∧ Ev X mX6_advances (d + 2) (0, 0) (0, 0) T 71 [.ref 42, .int (nI c)] [] shF J L := by
  intro f
  induction f with
  | zero =>
    intro k J hf hk hT hF h3 h5 h6 hdig hE K
    have hn := hT.2.1
    have hv9 := vM_le hdig
    have hE2 : q + k = E := hE
    refine qU (fun T_ k_ => r_aload_n (pc := 71) dX6_advances_71 rfl k_) ?_
    refine qU (fun T_ k_ => r_aload_n (pc := 72) dX6_advances_72 rfl k_) ?_
    refine qU (fun T_ k_ => r_getV (pc := 73) (v := nI (q + k)) dX6_advances_73 fX6_104 rfl rfl (h3) k_) ?_
    refine qU (fun T_ k_ => r_callV (pc := 76) (N := mX6_letterAt) (rest := []) (s_letterAt_f X _ J L n (q + k) hT.1 hn (by omega) (by omega)) okX6_letterAt lkX6_107 rfl (by decide) rfl rfl rfl (Nat.le_of_ble_eq_true rfl) ⟨Nat.le_refl _, Nat.le_refl _⟩ dX6_advances_76 k_) ?_
    refine qU (fun T_ k_ => r_bipush (pc := 79) dX6_advances_79 bp_48 k_) ?_
    refine qU (fun T_ k_ => r_bipush (pc := 81) dX6_advances_81 bp_57 k_) ?_
    refine qU (fun T_ k_ => r_callS (pc := 83) (N := mX6_in) (rest := []) (s_in_f X _ J L (-1) (nI 48) (nI 57) (Or.inl (by decide))) okX6_in lkX6_97 rfl rfl (Nat.le_of_ble_eq_true rfl) ⟨Nat.le_refl _, Nat.le_refl _⟩ dX6_advances_83 k_) ?_
    refine qP (fun T_ => r_ifN_eq (pc := 86) (tgt := 141) dX6_advances_86 (by decide) (by omega)) (fun c1 => ?_) (fun c1 => ?_)
    · exact K k J (hE2) (Nat.le_refl _) hdig hT hF (h3.trans (congrArg nI (hE2))) h5 h6
    · exact absurd c1 (by decide)
  | succ f ih =>
    intro k J hf hk hT hF h3 h5 h6 hdig hE K
    have hn := hT.2.1
    have hv9 := vM_le hdig
    by_cases hp : q + k < n
    · have hv := (hT.2.2 _ hp).2
      by_cases hD : 48 ≤ tx (q + k) ∧ tx (q + k) ≤ 57
      · have hdig2 : ∀ j, j < k + 1 → 48 ≤ tx (q + j) ∧ tx (q + j) ≤ 57 := fun j hj => by
          by_cases hjk : j = k
          · rw [hjk]; exact hD
          · exact hdig j (by omega)
        have hE2 : dgE tx n f (q + (k + 1)) = E := by
          rw [show dgE tx n (f + 1) (q + k) = dgE tx n f (q + k + 1) from if_pos ⟨hp, decide_eq_true hD⟩] at hE
          exact hE
        refine qU (fun T_ k_ => r_aload_n (pc := 71) dX6_advances_71 rfl k_) ?_
        refine qU (fun T_ k_ => r_aload_n (pc := 72) dX6_advances_72 rfl k_) ?_
        refine qU (fun T_ k_ => r_getV (pc := 73) (v := nI (q + k)) dX6_advances_73 fX6_104 rfl rfl (h3) k_) ?_
        refine qU (fun T_ k_ => r_callV (pc := 76) (N := mX6_letterAt) (rest := []) (s_letterAt_t X _ J L n (q + k) (tx (q + k)) hT.1 hn hp ((hT.2.2 _ hp).1)) okX6_letterAt lkX6_107 rfl (by decide) rfl rfl rfl (Nat.le_of_ble_eq_true rfl) ⟨Nat.le_refl _, Nat.le_refl _⟩ dX6_advances_76 k_) ?_
        refine qU (fun T_ k_ => r_bipush (pc := 79) dX6_advances_79 bp_48 k_) ?_
        refine qU (fun T_ k_ => r_bipush (pc := 81) dX6_advances_81 bp_57 k_) ?_
        refine qU (fun T_ k_ => r_callS (pc := 83) (N := mX6_in) (rest := []) (s_in_t X _ J L (nI (tx (q + k))) (nI 48) (nI 57) (nI_nlt (by omega) (by omega)) (nI_nlt (by omega) (by omega))) okX6_in lkX6_97 rfl rfl (Nat.le_of_ble_eq_true rfl) ⟨Nat.le_refl _, Nat.le_refl _⟩ dX6_advances_83 k_) ?_
        refine qP (fun T_ => r_ifN_eq (pc := 86) (tgt := 141) dX6_advances_86 (by decide) (by omega)) (fun c1 => ?_) (fun c1 => ?_)
        · exact absurd c1 (by decide)
        · refine qU (fun T_ k_ => r_aload_n (pc := 89) dX6_advances_89 rfl k_) ?_
          refine qU (fun T_ k_ => r_aload_n (pc := 90) dX6_advances_90 rfl k_) ?_
          refine qU (fun T_ k_ => r_getV (pc := 91) (v := nI (vM tx q k)) dX6_advances_91 fX6_117 rfl rfl (h6) k_) ?_
          refine qU (fun T_ k_ => r_bipush (pc := 94) dX6_advances_94 bp_99 k_) ?_
          refine qP (fun T_ => r_icmpN_le (pc := 96) (tgt := 106) dX6_advances_96 (by decide) (by omega) (by omega)) (fun c2 => ?_) (fun c2 => ?_)
          · refine qU (fun T_ k_ => r_bipush (pc := 106) dX6_advances_106 bp_10 k_) ?_
            refine qU (fun T_ k_ => r_aload_n (pc := 108) dX6_advances_108 rfl k_) ?_
            refine qU (fun T_ k_ => r_getV (pc := 109) (v := nI (vM tx q k)) dX6_advances_109 fX6_117 rfl rfl (h6) k_) ?_
            refine qU (fun T_ k_ => r_imulN (pc := 112) dX6_advances_112 k_) ?_
            refine qU (fun T_ k_ => r_aload_n (pc := 113) dX6_advances_113 rfl k_) ?_
            refine qU (fun T_ k_ => r_aload_n (pc := 114) dX6_advances_114 rfl k_) ?_
            refine qU (fun T_ k_ => r_getV (pc := 115) (v := nI (q + k)) dX6_advances_115 fX6_104 rfl rfl (h3) k_) ?_
            refine qU (fun T_ k_ => r_callV (pc := 118) (N := mX6_letterAt) (rest := [.int (nI (10 * (vM tx q k))), .ref 42]) (s_letterAt_t X _ J L n (q + k) (tx (q + k)) hT.1 hn hp ((hT.2.2 _ hp).1)) okX6_letterAt lkX6_107 rfl (by decide) rfl rfl rfl (Nat.le_of_ble_eq_true rfl) ⟨Nat.le_refl _, Nat.le_refl _⟩ dX6_advances_118 k_) ?_
            refine qU (fun T_ k_ => r_iaddN (pc := 121) dX6_advances_121 k_) ?_
            refine qU (fun T_ k_ => r_bipush (pc := 122) dX6_advances_122 bp_48 k_) ?_
            refine qU (fun T_ k_ => r_isubN (pc := 124) dX6_advances_124 (by omega) k_) ?_
            refine qU (fun T_ k_ => r_put (pc := 125) .int dX6_advances_125 fX6_117 rfl rfl nf6_6 rfl rfl k_) ?_
            refine qU (fun T_ k_ => r_aload_n (pc := 128) dX6_advances_128 rfl k_) ?_
            refine qU (fun T_ k_ => r_dup (pc := 129) dX6_advances_129 rfl k_) ?_
            refine qU (fun T_ k_ => r_getV (pc := 130) (v := nI (q + k)) dX6_advances_130 fX6_104 rfl rfl (h3) k_) ?_
            refine qU (fun T_ k_ => r_iconst (pc := 133) (v := nI 1) dX6_advances_133 rfl k_) ?_
            refine qU (fun T_ k_ => r_iaddN (pc := 134) dX6_advances_134 k_) ?_
            refine qU (fun T_ k_ => r_put (pc := 135) .int dX6_advances_135 fX6_104 rfl rfl nf6_3 rfl rfl k_) ?_
            refine qU (fun T_ k_ => r_goto (pc := 138) (tgt := 71) dX6_advances_138 (by decide) k_) ?_
            have hvv : vM tx q (k + 1) = 10 * vM tx q k + tx (q + k) - 48 := if_neg (by omega)
            exact ih (k + 1) _ (by omega) (by omega) (hT.fr (((FRm.refl J).put 6 _ (by decide) (by decide)).put 3 _ (by decide) (by decide))) ((hF.put 6 _ (by decide) (by decide)).put 3 _ (by decide) (by decide)) (u2_at _ 42 3 _) h5 (congrArg nI hvv.symm) hdig2 hE2 (fun k2 J2 a b => K k2 J2 a (by omega))
          · refine qU (fun T_ k_ => r_aload_n (pc := 99) dX6_advances_99 rfl k_) ?_
            refine qU (fun T_ k_ => r_getV (pc := 100) (v := nI (vM tx q k)) dX6_advances_100 fX6_117 rfl rfl (h6) k_) ?_
            refine qU (fun T_ k_ => r_goto (pc := 103) (tgt := 125) dX6_advances_103 (by decide) k_) ?_
            refine qU (fun T_ k_ => r_put (pc := 125) .int dX6_advances_125 fX6_117 rfl rfl nf6_6 rfl rfl k_) ?_
            refine qU (fun T_ k_ => r_aload_n (pc := 128) dX6_advances_128 rfl k_) ?_
            refine qU (fun T_ k_ => r_dup (pc := 129) dX6_advances_129 rfl k_) ?_
            refine qU (fun T_ k_ => r_getV (pc := 130) (v := nI (q + k)) dX6_advances_130 fX6_104 rfl rfl (h3) k_) ?_
            refine qU (fun T_ k_ => r_iconst (pc := 133) (v := nI 1) dX6_advances_133 rfl k_) ?_
            refine qU (fun T_ k_ => r_iaddN (pc := 134) dX6_advances_134 k_) ?_
            refine qU (fun T_ k_ => r_put (pc := 135) .int dX6_advances_135 fX6_104 rfl rfl nf6_3 rfl rfl k_) ?_
            refine qU (fun T_ k_ => r_goto (pc := 138) (tgt := 71) dX6_advances_138 (by decide) k_) ?_
            have hvv : vM tx q (k + 1) = vM tx q k := if_pos (by omega)
            exact ih (k + 1) _ (by omega) (by omega) (hT.fr (((FRm.refl J).put 6 _ (by decide) (by decide)).put 3 _ (by decide) (by decide))) ((hF.put 6 _ (by decide) (by decide)).put 3 _ (by decide) (by decide)) (u2_at _ 42 3 _) h5 (congrArg nI hvv.symm) hdig2 hE2 (fun k2 J2 a b => K k2 J2 a (by omega))
      · have hE2 : q + k = E := (show dgE tx n (f + 1) (q + k) = q + k from if_neg (fun z => hD (of_decide_eq_true z.2))).symm.trans hE
        refine qU (fun T_ k_ => r_aload_n (pc := 71) dX6_advances_71 rfl k_) ?_
        refine qU (fun T_ k_ => r_aload_n (pc := 72) dX6_advances_72 rfl k_) ?_
        refine qU (fun T_ k_ => r_getV (pc := 73) (v := nI (q + k)) dX6_advances_73 fX6_104 rfl rfl (h3) k_) ?_
        refine qU (fun T_ k_ => r_callV (pc := 76) (N := mX6_letterAt) (rest := []) (s_letterAt_t X _ J L n (q + k) (tx (q + k)) hT.1 hn hp ((hT.2.2 _ hp).1)) okX6_letterAt lkX6_107 rfl (by decide) rfl rfl rfl (Nat.le_of_ble_eq_true rfl) ⟨Nat.le_refl _, Nat.le_refl _⟩ dX6_advances_76 k_) ?_
        refine qU (fun T_ k_ => r_bipush (pc := 79) dX6_advances_79 bp_48 k_) ?_
        refine qU (fun T_ k_ => r_bipush (pc := 81) dX6_advances_81 bp_57 k_) ?_
        refine qU (fun T_ k_ => r_callS (pc := 83) (N := mX6_in) (rest := []) (s_in_f X _ J L (nI (tx (q + k))) (nI 48) (nI 57) ((Nat.lt_or_ge (tx (q + k)) 48).elim (fun z => Or.inl (nI_lt2 (by omega) (by omega) z)) (fun z => Or.inr (nI_lt2 (by omega) (by omega) (by omega))))) okX6_in lkX6_97 rfl rfl (Nat.le_of_ble_eq_true rfl) ⟨Nat.le_refl _, Nat.le_refl _⟩ dX6_advances_83 k_) ?_
        refine qP (fun T_ => r_ifN_eq (pc := 86) (tgt := 141) dX6_advances_86 (by decide) (by omega)) (fun c1 => ?_) (fun c1 => ?_)
        · exact K k J (hE2) (Nat.le_refl _) hdig hT hF (h3.trans (congrArg nI (hE2))) h5 h6
        · exact absurd c1 (by decide)
    · have hE2 : q + k = E := (show dgE tx n (f + 1) (q + k) = q + k from if_neg (fun z => hp z.1)).symm.trans hE
      refine qU (fun T_ k_ => r_aload_n (pc := 71) dX6_advances_71 rfl k_) ?_
      refine qU (fun T_ k_ => r_aload_n (pc := 72) dX6_advances_72 rfl k_) ?_
      refine qU (fun T_ k_ => r_getV (pc := 73) (v := nI (q + k)) dX6_advances_73 fX6_104 rfl rfl (h3) k_) ?_
      refine qU (fun T_ k_ => r_callV (pc := 76) (N := mX6_letterAt) (rest := []) (s_letterAt_f X _ J L n (q + k) hT.1 hn (by omega) (by omega)) okX6_letterAt lkX6_107 rfl (by decide) rfl rfl rfl (Nat.le_of_ble_eq_true rfl) ⟨Nat.le_refl _, Nat.le_refl _⟩ dX6_advances_76 k_) ?_
      refine qU (fun T_ k_ => r_bipush (pc := 79) dX6_advances_79 bp_48 k_) ?_
      refine qU (fun T_ k_ => r_bipush (pc := 81) dX6_advances_81 bp_57 k_) ?_
      refine qU (fun T_ k_ => r_callS (pc := 83) (N := mX6_in) (rest := []) (s_in_f X _ J L (-1) (nI 48) (nI 57) (Or.inl (by decide))) okX6_in lkX6_97 rfl rfl (Nat.le_of_ble_eq_true rfl) ⟨Nat.le_refl _, Nat.le_refl _⟩ dX6_advances_83 k_) ?_
      refine qP (fun T_ => r_ifN_eq (pc := 86) (tgt := 141) dX6_advances_86 (by decide) (by omega)) (fun c1 => ?_) (fun c1 => ?_)
      · exact K k J (hE2) (Nat.le_refl _) hdig hT hF (h3.trans (congrArg nI (hE2))) h5 h6
      · exact absurd c1 (by decide)
