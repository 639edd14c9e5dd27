theorem s_advances (X : Ctx) (d : Nat) (I : MI) (L : ML) (tx : Nat → Nat) (n t : Nat) (hT0 : TXm I tx n) (h30 : I 42 3 = nI (bps tx n t)) : ∃ T, (fun T => ∃ J, T = (none, shF, J, L) ∧ FRm I J ∧ CRm J tx n t) T ∧ Sp X mX6_advances (d + 2) (0, 0) [.ref 42] shF I L T := by
  refine qU (fun T_ k_ => Sp.of okX6_advances [.ref 42, .null] 1 rfl (Nat.le_of_ble_eq_true rfl) k_) ?_
  have hb := bps_le tx n t
  refine lp_adv1 X d I L tx n _ (n - bps tx n t) (bps tx n t) I (by omega) hb hT0 (FRm.refl I) h30 ?_
  intro J hT hF h3
  have hs := skp_le tx n (n - bps tx n t) (bps tx n t)
  obtain ⟨P, hP⟩ : ∃ P, skp tx n (n - bps tx n t) (bps tx n t) = P := ⟨_, rfl⟩
  rw [hP] at h3 hs
  have hn := hT.2.1
  by_cases hN : n ≤ P
  · have hk : tokP tx n (bps tx n t) = (P, P, 0, 0) := by
      unfold tokP
      rw [hP, if_pos hN]
    refine qU (fun T_ k_ => r_aload_n (pc := 26) dX6_advances_26 rfl k_) ?_
    refine qU (fun T_ k_ => r_aload_n (pc := 27) dX6_advances_27 rfl k_) ?_
    refine qU (fun T_ k_ => r_getV (pc := 28) (v := nI P) dX6_advances_28 fX6_104 rfl rfl (h3) k_) ?_
    refine qU (fun T_ k_ => r_put (pc := 31) .int dX6_advances_31 fX6_111 rfl rfl nf6_5 rfl rfl k_) ?_
    refine qU (fun T_ k_ => r_aload_n (pc := 34) dX6_advances_34 rfl k_) ?_
    refine qU (fun T_ k_ => r_aload_n (pc := 35) dX6_advances_35 rfl k_) ?_
    refine qU (fun T_ k_ => r_getV (pc := 36) (v := nI P) dX6_advances_36 fX6_104 rfl rfl (h3) k_) ?_
    refine qU (fun T_ k_ => r_callV (pc := 39) (N := mX6_letterAt) (rest := []) (s_letterAt_f X _ (u2 J 42 5 (nI P)) L n P hT.1 hn (by omega) (by omega)) okX6_letterAt lkX6_107 rfl (by decide) rfl rfl rfl (Nat.le_of_ble_eq_true rfl) ⟨Nat.le_refl _, Nat.le_refl _⟩ dX6_advances_39 k_) ?_
    refine qU (fun T_ k_ => r_istore_n (pc := 42) (lo1 := [.ref 42, .int (-1)]) dX6_advances_42 rfl (by decide) rfl k_) ?_
    refine qU (fun T_ k_ => r_iload_n (pc := 43) dX6_advances_43 rfl k_) ?_
    refine qP (fun T_ => r_if_ge (pc := 44) (tgt := 55) dX6_advances_44 (by decide)) (fun c1 => ?_) (fun c1 => ?_)
    · exact absurd c1 (by decide)
    · refine qU (fun T_ k_ => r_aload_n (pc := 47) dX6_advances_47 rfl k_) ?_
      refine qU (fun T_ k_ => r_iconst (pc := 48) (v := nI 0) dX6_advances_48 rfl k_) ?_
      refine qU (fun T_ k_ => r_put (pc := 49) .int dX6_advances_49 fX6_114 rfl rfl nf6_4 rfl rfl k_) ?_
      refine qU (fun T_ k_ => r_goto (pc := 52) (tgt := 212) dX6_advances_52 (by decide) k_) ?_
      exact ⟨_, ⟨_, rfl, (hF.put 5 _ (by decide) (by decide)).put 4 _ (by decide) (by decide), CRm.of hk rfl h3 rfl (fun z => absurd z (by decide))⟩, r_vret dX6_advances_212 rfl rfl rfl⟩
  · have hp : P < n := by omega
    have hv := (hT.2.2 P hp).2
    by_cases hD : 48 ≤ tx P ∧ tx P ≤ 57
    · obtain ⟨E, hE⟩ : ∃ E, dgE tx n (n - (P + 1)) (P + 1) = E := ⟨_, rfl⟩
      have hk : tokP tx n (bps tx n t) = (P, E, kdD tx E P, vD tx E P) := by
        unfold tokP
        rw [hP, if_neg hN, if_pos (show isD (tx P) = true from decide_eq_true hD), hE]
        rfl
      have hE0 : dgE tx n (n - P) (P + 0) = E := by
        obtain ⟨f, hf⟩ : ∃ f, n - P = f + 1 := ⟨n - P - 1, by omega⟩
        rw [hf, show dgE tx n (f + 1) (P + 0) = dgE tx n f (P + 1) from if_pos ⟨hp, decide_eq_true hD⟩, ← hE, show n - (P + 1) = f by omega]
      refine qU (fun T_ k_ => r_aload_n (pc := 26) dX6_advances_26 rfl k_) ?_
      refine qU (fun T_ k_ => r_aload_n (pc := 27) dX6_advances_27 rfl k_) ?_
      refine qU (fun T_ k_ => r_getV (pc := 28) (v := nI P) dX6_advances_28 fX6_104 rfl rfl (h3) k_) ?_
      refine qU (fun T_ k_ => r_put (pc := 31) .int dX6_advances_31 fX6_111 rfl rfl nf6_5 rfl rfl k_) ?_
      refine qU (fun T_ k_ => r_aload_n (pc := 34) dX6_advances_34 rfl k_) ?_
      refine qU (fun T_ k_ => r_aload_n (pc := 35) dX6_advances_35 rfl k_) ?_
      refine qU (fun T_ k_ => r_getV (pc := 36) (v := nI P) dX6_advances_36 fX6_104 rfl rfl (h3) k_) ?_
      refine qU (fun T_ k_ => r_callV (pc := 39) (N := mX6_letterAt) (rest := []) (s_letterAt_t X _ (u2 J 42 5 (nI P)) L n P (tx P) hT.1 hn hp ((hT.2.2 P hp).1)) okX6_letterAt lkX6_107 rfl (by decide) rfl rfl rfl (Nat.le_of_ble_eq_true rfl) ⟨Nat.le_refl _, Nat.le_refl _⟩ dX6_advances_39 k_) ?_
      refine qU (fun T_ k_ => r_istore_n (pc := 42) (lo1 := [.ref 42, .int (nI (tx P))]) dX6_advances_42 rfl (by decide) rfl k_) ?_
      refine qU (fun T_ k_ => r_iload_n (pc := 43) dX6_advances_43 rfl k_) ?_
      refine qP (fun T_ => r_ifN_ge (pc := 44) (tgt := 55) dX6_advances_44 (by decide) (by omega)) (fun c1 => ?_) (fun c1 => ?_)
      · refine qU (fun T_ k_ => r_iload_n (pc := 55) dX6_advances_55 rfl k_) ?_
        refine qU (fun T_ k_ => r_bipush (pc := 56) dX6_advances_56 bp_48 k_) ?_
        refine qU (fun T_ k_ => r_bipush (pc := 58) dX6_advances_58 bp_57 k_) ?_
        refine qU (fun T_ k_ => r_callS (pc := 60) (N := mX6_in) (rest := []) (s_in_t X _ (u2 J 42 5 (nI P)) L (nI (tx P)) (nI 48) (nI 57) (nI_nlt (by omega) (by omega)) (nI_nlt (by omega) (by omega))) okX6_in lkX6_97 rfl rfl (Nat.le_of_ble_eq_true rfl) ⟨Nat.le_refl _, Nat.le_refl _⟩ dX6_advances_60 k_) ?_
        refine qP (fun T_ => r_ifN_eq (pc := 63) (tgt := 181) dX6_advances_63 (by decide) (by omega)) (fun c2 => ?_) (fun c2 => ?_)
        · exact absurd c2 (by decide)
        · refine qU (fun T_ k_ => r_aload_n (pc := 66) dX6_advances_66 rfl k_) ?_
          refine qU (fun T_ k_ => r_iconst (pc := 67) (v := nI 0) dX6_advances_67 rfl k_) ?_
          refine qU (fun T_ k_ => r_put (pc := 68) .int dX6_advances_68 fX6_117 rfl rfl nf6_6 rfl rfl k_) ?_
          refine lp_adv2 X d I L tx n P (tx P) E _ (n - P) 0 _ (by omega) (by omega) (hT.fr (((FRm.refl J).put 5 _ (by decide) (by decide)).put 6 _ (by decide) (by decide))) ((hF.put 5 _ (by decide) (by decide)).put 6 _ (by decide) (by decide)) h3 rfl rfl (fun j hj => absurd hj (Nat.not_lt_zero j)) hE0 ?_
          intro k J2 e1 e2 e3 f1 f2 f3 f5 f6
          have hk1 : 1 ≤ k := by
            cases k with
            | zero =>
              have z : dgE tx n (n - P) P = P := hE0.trans e1.symm
              obtain ⟨f, hf⟩ : ∃ f, n - P = f + 1 := ⟨n - P - 1, by omega⟩
              have hg := dgE_le tx n f (P + 1)
              rw [hf, show dgE tx n (f + 1) P = dgE tx n f (P + 1) from if_pos ⟨hp, decide_eq_true hD⟩] at z
              omega
            | succ m => exact Nat.succ_pos m
          have hv9 := vM_le e3
          have hE9 : E ≤ n := by
            have hg := dgE_le tx n (n - (P + 1)) (P + 1)
            omega
          obtain ⟨w1, w2, w3⟩ := vM_kd e1 hk1 e3
          refine qU (fun T_ k_ => r_aload_n (pc := 141) dX6_advances_141 rfl k_) ?_
          refine qU (fun T_ k_ => r_aload_n (pc := 142) dX6_advances_142 rfl k_) ?_
          refine qU (fun T_ k_ => r_getV (pc := 143) (v := nI (vM tx P k)) dX6_advances_143 fX6_117 rfl rfl (f6) k_) ?_
          refine qU (fun T_ k_ => r_bipush (pc := 146) dX6_advances_146 bp_99 k_) ?_
          refine qP (fun T_ => r_icmpN_gt (pc := 148) (tgt := 170) dX6_advances_148 (by decide) (by omega) (by omega)) (fun c1 => ?_) (fun c1 => ?_)
          · refine qU (fun T_ k_ => r_iconst (pc := 170) (v := nI 3) dX6_advances_170 rfl k_) ?_
            refine qU (fun T_ k_ => r_goto (pc := 171) (tgt := 175) dX6_advances_171 (by decide) k_) ?_
            refine qU (fun T_ k_ => r_put (pc := 175) .int dX6_advances_175 fX6_114 rfl rfl nf6_4 rfl rfl k_) ?_
            refine qU (fun T_ k_ => r_goto (pc := 178) (tgt := 212) dX6_advances_178 (by decide) k_) ?_
            have hkd : kdD tx E P = 3 := by
              have z : ¬ kdD tx E P = 2 := fun z => absurd (w1.mp z) (by omega)
              omega
            exact ⟨_, ⟨_, rfl, (f2.put 4 _ (by decide) (by decide)), CRm.of hk f5 f3 (by rw [hkd]; rfl) (fun z => by rw [hkd] at z; exact absurd z (by decide))⟩, r_vret dX6_advances_212 rfl rfl rfl⟩
          · refine qU (fun T_ k_ => r_iload_n (pc := 151) dX6_advances_151 rfl k_) ?_
            refine qU (fun T_ k_ => r_bipush (pc := 152) dX6_advances_152 bp_48 k_) ?_
            refine qN (fun T_ => r_icmpN_ne (pc := 154) (tgt := 174) dX6_advances_154 (by decide) (by omega) (by omega)) (fun c2 => ?_) (fun c2 => ?_)
            · refine qU (fun T_ k_ => r_iconst (pc := 174) (v := nI 2) dX6_advances_174 rfl k_) ?_
              refine qU (fun T_ k_ => r_put (pc := 175) .int dX6_advances_175 fX6_114 rfl rfl nf6_4 rfl rfl k_) ?_
              refine qU (fun T_ k_ => r_goto (pc := 178) (tgt := 212) dX6_advances_178 (by decide) k_) ?_
              have hkd : kdD tx E P = 2 := w1.mpr (by omega)
              exact ⟨_, ⟨_, rfl, (f2.put 4 _ (by decide) (by decide)), CRm.of hk f5 f3 (by rw [hkd]; rfl) (fun _ => f6.trans (congrArg nI (w3 hkd)))⟩, r_vret dX6_advances_212 rfl rfl rfl⟩
            · refine qU (fun T_ k_ => r_aload_n (pc := 157) dX6_advances_157 rfl k_) ?_
              refine qU (fun T_ k_ => r_getV (pc := 158) (v := nI E) dX6_advances_158 fX6_104 rfl rfl (f3) k_) ?_
              refine qU (fun T_ k_ => r_aload_n (pc := 161) dX6_advances_161 rfl k_) ?_
              refine qU (fun T_ k_ => r_getV (pc := 162) (v := nI P) dX6_advances_162 fX6_111 rfl rfl (f5) k_) ?_
              refine qU (fun T_ k_ => r_isubN (pc := 165) dX6_advances_165 (by omega) k_) ?_
              refine qU (fun T_ k_ => r_iconst (pc := 166) (v := nI 1) dX6_advances_166 rfl k_) ?_
              refine qP (fun T_ => r_icmpN_le (pc := 167) (tgt := 174) dX6_advances_167 (by decide) (by omega) (by omega)) (fun c3 => ?_) (fun c3 => ?_)
              · refine qU (fun T_ k_ => r_iconst (pc := 174) (v := nI 2) dX6_advances_174 rfl k_) ?_
                refine qU (fun T_ k_ => r_put (pc := 175) .int dX6_advances_175 fX6_114 rfl rfl nf6_4 rfl rfl k_) ?_
                refine qU (fun T_ k_ => r_goto (pc := 178) (tgt := 212) dX6_advances_178 (by decide) k_) ?_
                have hkd : kdD tx E P = 2 := w1.mpr (by omega)
                exact ⟨_, ⟨_, rfl, (f2.put 4 _ (by decide) (by decide)), CRm.of hk f5 f3 (by rw [hkd]; rfl) (fun _ => f6.trans (congrArg nI (w3 hkd)))⟩, r_vret dX6_advances_212 rfl rfl rfl⟩
              · refine qU (fun T_ k_ => r_iconst (pc := 170) (v := nI 3) dX6_advances_170 rfl k_) ?_
                refine qU (fun T_ k_ => r_goto (pc := 171) (tgt := 175) dX6_advances_171 (by decide) k_) ?_
                refine qU (fun T_ k_ => r_put (pc := 175) .int dX6_advances_175 fX6_114 rfl rfl nf6_4 rfl rfl k_) ?_
                refine qU (fun T_ k_ => r_goto (pc := 178) (tgt := 212) dX6_advances_178 (by decide) k_) ?_
                have hkd : kdD tx E P = 3 := by
                  have z : ¬ kdD tx E P = 2 := fun z => absurd (w1.mp z) (by omega)
                  omega
                exact ⟨_, ⟨_, rfl, (f2.put 4 _ (by decide) (by decide)), CRm.of hk f5 f3 (by rw [hkd]; rfl) (fun z => by rw [hkd] at z; exact absurd z (by decide))⟩, r_vret dX6_advances_212 rfl rfl rfl⟩
      · exact absurd c1 (by omega)
    · have hk : tokP tx n (bps tx n t) = (P, P + 1, 1, tx P) := by
        unfold tokP
        rw [hP, if_neg hN, if_neg (show ¬ isD (tx P) = true from fun z => hD (of_decide_eq_true z))]
      by_cases hS : isSg (tx P)
      · refine qU (fun T_ k_ => r_aload_n (pc := 26) dX6_advances_26 rfl k_) ?_
        refine qU (fun T_ k_ => r_aload_n (pc := 27) dX6_advances_27 rfl k_) ?_
        refine qU (fun T_ k_ => r_getV (pc := 28) (v := nI P) dX6_advances_28 fX6_104 rfl rfl (h3) k_) ?_
        refine qU (fun T_ k_ => r_put (pc := 31) .int dX6_advances_31 fX6_111 rfl rfl nf6_5 rfl rfl k_) ?_
        refine qU (fun T_ k_ => r_aload_n (pc := 34) dX6_advances_34 rfl k_) ?_
        refine qU (fun T_ k_ => r_aload_n (pc := 35) dX6_advances_35 rfl k_) ?_
        refine qU (fun T_ k_ => r_getV (pc := 36) (v := nI P) dX6_advances_36 fX6_104 rfl rfl (h3) k_) ?_
        refine qU (fun T_ k_ => r_callV (pc := 39) (N := mX6_letterAt) (rest := []) (s_letterAt_t X _ (u2 J 42 5 (nI P)) L n P (tx P) hT.1 hn hp ((hT.2.2 P hp).1)) okX6_letterAt lkX6_107 rfl (by decide) rfl rfl rfl (Nat.le_of_ble_eq_true rfl) ⟨Nat.le_refl _, Nat.le_refl _⟩ dX6_advances_39 k_) ?_
        refine qU (fun T_ k_ => r_istore_n (pc := 42) (lo1 := [.ref 42, .int (nI (tx P))]) dX6_advances_42 rfl (by decide) rfl k_) ?_
        refine qU (fun T_ k_ => r_iload_n (pc := 43) dX6_advances_43 rfl k_) ?_
        refine qP (fun T_ => r_ifN_ge (pc := 44) (tgt := 55) dX6_advances_44 (by decide) (by omega)) (fun c1 => ?_) (fun c1 => ?_)
        · refine qU (fun T_ k_ => r_iload_n (pc := 55) dX6_advances_55 rfl k_) ?_
          refine qU (fun T_ k_ => r_bipush (pc := 56) dX6_advances_56 bp_48 k_) ?_
          refine qU (fun T_ k_ => r_bipush (pc := 58) dX6_advances_58 bp_57 k_) ?_
          refine qU (fun T_ k_ => r_callS (pc := 60) (N := mX6_in) (rest := []) (s_in_f X _ (u2 J 42 5 (nI P)) L (nI (tx P)) (nI 48) (nI 57) ((Nat.lt_or_ge (tx P) 48).elim (fun z => Or.inl (nI_lt2 (by omega) (by omega) z)) (fun z => Or.inr (nI_lt2 (by omega) (by omega) (by omega))))) okX6_in lkX6_97 rfl rfl (Nat.le_of_ble_eq_true rfl) ⟨Nat.le_refl _, Nat.le_refl _⟩ dX6_advances_60 k_) ?_
          refine qP (fun T_ => r_ifN_eq (pc := 63) (tgt := 181) dX6_advances_63 (by decide) (by omega)) (fun c2 => ?_) (fun c2 => ?_)
          · refine qU (fun T_ k_ => r_aload_n (pc := 181) dX6_advances_181 rfl k_) ?_
            refine qU (fun T_ k_ => r_dup (pc := 182) dX6_advances_182 rfl k_) ?_
            refine qU (fun T_ k_ => r_getV (pc := 183) (v := nI P) dX6_advances_183 fX6_104 rfl rfl (h3) k_) ?_
            refine qU (fun T_ k_ => r_iconst (pc := 186) (v := nI 1) dX6_advances_186 rfl k_) ?_
            refine qU (fun T_ k_ => r_iaddN (pc := 187) dX6_advances_187 k_) ?_
            refine qU (fun T_ k_ => r_put (pc := 188) .int dX6_advances_188 fX6_104 rfl rfl nf6_3 rfl rfl k_) ?_
            refine qU (fun T_ k_ => r_aload_n (pc := 191) dX6_advances_191 rfl k_) ?_
            refine qU (fun T_ k_ => r_iload_n (pc := 192) dX6_advances_192 rfl k_) ?_
            refine qU (fun T_ k_ => r_put (pc := 193) .int dX6_advances_193 fX6_117 rfl rfl nf6_6 rfl rfl k_) ?_
            refine qU (fun T_ k_ => r_aload_n (pc := 196) dX6_advances_196 rfl k_) ?_
            refine qU (fun T_ k_ => r_iload_n (pc := 197) dX6_advances_197 rfl k_) ?_
            refine qU (fun T_ k_ => r_callS (pc := 198) (N := mX6_isSign) (rest := [.ref 42]) (s_isSign_t X _ (u2 (u2 (u2 J 42 5 (nI P)) 42 3 (nI (P + 1))) 42 6 (nI (tx P))) L (tx P) hv hS) okX6_isSign lkX6_120 rfl rfl (Nat.le_of_ble_eq_true rfl) ⟨Nat.le_refl _, Nat.le_refl _⟩ dX6_advances_198 k_) ?_
            refine qP (fun T_ => r_ifN_eq (pc := 201) (tgt := 208) dX6_advances_201 (by decide) (by omega)) (fun c3 => ?_) (fun c3 => ?_)
            · exact absurd c3 (by decide)
            · refine qU (fun T_ k_ => r_iconst (pc := 204) (v := nI 1) dX6_advances_204 rfl k_) ?_
              refine qU (fun T_ k_ => r_goto (pc := 205) (tgt := 209) dX6_advances_205 (by decide) k_) ?_
              refine qU (fun T_ k_ => r_put (pc := 209) .int dX6_advances_209 fX6_114 rfl rfl nf6_4 rfl rfl k_) ?_
              exact ⟨_, ⟨_, rfl, (((hF.put 5 _ (by decide) (by decide)).put 3 _ (by decide) (by decide)).put 6 _ (by decide) (by decide)).put 4 _ (by decide) (by decide), CRm.of hk rfl rfl (congrArg nI (show kdM 1 (tx P) = _ from if_pos hS).symm) (fun _ => rfl)⟩, r_vret dX6_advances_212 rfl rfl rfl⟩
          · exact absurd c2 (by decide)
        · exact absurd c1 (by omega)
      · refine qU (fun T_ k_ => r_aload_n (pc := 26) dX6_advances_26 rfl k_) ?_
        refine qU (fun T_ k_ => r_aload_n (pc := 27) dX6_advances_27 rfl k_) ?_
        refine qU (fun T_ k_ => r_getV (pc := 28) (v := nI P) dX6_advances_28 fX6_104 rfl rfl (h3) k_) ?_
        refine qU (fun T_ k_ => r_put (pc := 31) .int dX6_advances_31 fX6_111 rfl rfl nf6_5 rfl rfl k_) ?_
        refine qU (fun T_ k_ => r_aload_n (pc := 34) dX6_advances_34 rfl k_) ?_
        refine qU (fun T_ k_ => r_aload_n (pc := 35) dX6_advances_35 rfl k_) ?_
        refine qU (fun T_ k_ => r_getV (pc := 36) (v := nI P) dX6_advances_36 fX6_104 rfl rfl (h3) k_) ?_
        refine qU (fun T_ k_ => r_callV (pc := 39) (N := mX6_letterAt) (rest := []) (s_letterAt_t X _ (u2 J 42 5 (nI P)) L n P (tx P) hT.1 hn hp ((hT.2.2 P hp).1)) okX6_letterAt lkX6_107 rfl (by decide) rfl rfl rfl (Nat.le_of_ble_eq_true rfl) ⟨Nat.le_refl _, Nat.le_refl _⟩ dX6_advances_39 k_) ?_
        refine qU (fun T_ k_ => r_istore_n (pc := 42) (lo1 := [.ref 42, .int (nI (tx P))]) dX6_advances_42 rfl (by decide) rfl k_) ?_
        refine qU (fun T_ k_ => r_iload_n (pc := 43) dX6_advances_43 rfl k_) ?_
        refine qP (fun T_ => r_ifN_ge (pc := 44) (tgt := 55) dX6_advances_44 (by decide) (by omega)) (fun c1 => ?_) (fun c1 => ?_)
        · refine qU (fun T_ k_ => r_iload_n (pc := 55) dX6_advances_55 rfl k_) ?_
          refine qU (fun T_ k_ => r_bipush (pc := 56) dX6_advances_56 bp_48 k_) ?_
          refine qU (fun T_ k_ => r_bipush (pc := 58) dX6_advances_58 bp_57 k_) ?_
          refine qU (fun T_ k_ => r_callS (pc := 60) (N := mX6_in) (rest := []) (s_in_f X _ (u2 J 42 5 (nI P)) L (nI (tx P)) (nI 48) (nI 57) ((Nat.lt_or_ge (tx P) 48).elim (fun z => Or.inl (nI_lt2 (by omega) (by omega) z)) (fun z => Or.inr (nI_lt2 (by omega) (by omega) (by omega))))) okX6_in lkX6_97 rfl rfl (Nat.le_of_ble_eq_true rfl) ⟨Nat.le_refl _, Nat.le_refl _⟩ dX6_advances_60 k_) ?_
          refine qP (fun T_ => r_ifN_eq (pc := 63) (tgt := 181) dX6_advances_63 (by decide) (by omega)) (fun c2 => ?_) (fun c2 => ?_)
          · refine qU (fun T_ k_ => r_aload_n (pc := 181) dX6_advances_181 rfl k_) ?_
            refine qU (fun T_ k_ => r_dup (pc := 182) dX6_advances_182 rfl k_) ?_
            refine qU (fun T_ k_ => r_getV (pc := 183) (v := nI P) dX6_advances_183 fX6_104 rfl rfl (h3) k_) ?_
            refine qU (fun T_ k_ => r_iconst (pc := 186) (v := nI 1) dX6_advances_186 rfl k_) ?_
            refine qU (fun T_ k_ => r_iaddN (pc := 187) dX6_advances_187 k_) ?_
            refine qU (fun T_ k_ => r_put (pc := 188) .int dX6_advances_188 fX6_104 rfl rfl nf6_3 rfl rfl k_) ?_
            refine qU (fun T_ k_ => r_aload_n (pc := 191) dX6_advances_191 rfl k_) ?_
            refine qU (fun T_ k_ => r_iload_n (pc := 192) dX6_advances_192 rfl k_) ?_
            refine qU (fun T_ k_ => r_put (pc := 193) .int dX6_advances_193 fX6_117 rfl rfl nf6_6 rfl rfl k_) ?_
            refine qU (fun T_ k_ => r_aload_n (pc := 196) dX6_advances_196 rfl k_) ?_
            refine qU (fun T_ k_ => r_iload_n (pc := 197) dX6_advances_197 rfl k_) ?_
            refine qU (fun T_ k_ => r_callS (pc := 198) (N := mX6_isSign) (rest := [.ref 42]) (s_isSign_f X _ (u2 (u2 (u2 J 42 5 (nI P)) 42 3 (nI (P + 1))) 42 6 (nI (tx P))) L (tx P) hv hS) okX6_isSign lkX6_120 rfl rfl (Nat.le_of_ble_eq_true rfl) ⟨Nat.le_refl _, Nat.le_refl _⟩ dX6_advances_198 k_) ?_
            refine qP (fun T_ => r_ifN_eq (pc := 201) (tgt := 208) dX6_advances_201 (by decide) (by omega)) (fun c3 => ?_) (fun c3 => ?_)
            · refine qU (fun T_ k_ => r_iconst (pc := 208) (v := nI 3) dX6_advances_208 rfl k_) ?_
              refine qU (fun T_ k_ => r_put (pc := 209) .int dX6_advances_209 fX6_114 rfl rfl nf6_4 rfl rfl k_) ?_
              exact ⟨_, ⟨_, rfl, (((hF.put 5 _ (by decide) (by decide)).put 3 _ (by decide) (by decide)).put 6 _ (by decide) (by decide)).put 4 _ (by decide) (by decide), CRm.of hk rfl rfl (congrArg nI (show kdM 1 (tx P) = _ from if_neg hS).symm) (fun _ => rfl)⟩, r_vret dX6_advances_212 rfl rfl rfl⟩
            · exact absurd c3 (by decide)
          · exact absurd c2 (by decide)
        · exact absurd c1 (by omega)
