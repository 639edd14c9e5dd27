def FRx (I J : MI) : Prop := ∀ c j, ¬ (c = 11 ∧ 4 ≤ j ∧ j ≤ 8) → c ≠ 13 → c ≠ 14 → ¬ (15 ≤ c ∧ c ≤ 21) → J c j = I c j
theorem FRx.refl (I : MI) : FRx I I := fun _ _ _ _ _ _ => rfl
theorem FRx.trans {I J H : MI} (h : FRx I J) (h2 : FRx J H) : FRx I H := fun c j q1 q2 q3 q4 => (h2 c j q1 q2 q3 q4).trans (h c j q1 q2 q3 q4)
theorem FRx.pass {I J H : MI} (h : FRx I J) (hF : FRp J H) : FRx I H := fun c j q1 q2 q3 q4 => (hF c j (by omega)).trans (h c j q1 q2 q3 q4)
theorem FRs.x {I J : MI} (h : FRs I J) : FRx I J := fun c j q1 q2 q3 q4 => h c j (by omega) q2 q3
theorem FRf.x {I J : MI} (h : FRf I J) : FRx I J := fun c j q1 q2 q3 q4 => h c j q1 q4
theorem FRs.c {I J : MI} (h : FRs I J) {c : Nat} (h1 : c ≠ 11) (h2 : c ≠ 13) (h3 : c ≠ 14) : J c = I c := funext fun j => h c j (by omega) h2 h3
abbrev RI : Type := Nat ⊕ (Nat × (Nat → Int32) × List (List Q4))
/-- an item -/
def rdItem (K V : Nat → Nat) (t : Nat) (D : Nat → Int32) (fs : List (List Q4)) : RI :=
  if K t = 1 ∧ V t = 83 then (match rdSrc K V (t + 1) D with
    | .inl u => .inl u
    | .inr (u, D2) => if K u = 1 ∧ V u = 59 then .inr (u + 1, D2, fs) else .inl u)
  else if K t = 1 ∧ V t = 67 then (match rdJnt K V (t + 1) D with
    | .inl u => .inl u
    | .inr (u, D2) => if K u = 1 ∧ V u = 59 then .inr (u + 1, D2, fs) else .inl u)
  else if K t = 1 ∧ V t = 70 then (match rdFrm K V t fs with
    | .inl u => .inl u
    | .inr (u, fs2) => if K u = 1 ∧ V u = 59 then .inr (u + 1, D, fs2) else .inl u)
  else .inl t
def QT (I : MI) (L : ML) (tx : Nat → Nat) (n : Nat) (r : RI) (T : TR) : Prop := match r with
  | .inl u => ∃ J, T = (some (.int (nI 0)), shF, J, L) ∧ FRx I J ∧ PQ J tx n u
  | .inr (u, D, fs) => ∃ J, T = (some (.int (nI 1)), shF, J, L) ∧ FRx I J ∧ PQ J tx n u ∧ FG J 13 14 D ∧ TPa J 15 fs
/-- the items, f more -/
def rdAll (K V : Nat → Nat) : Nat → Nat → Nat → (Nat → Int32) → List (List Q4) → RI
  | 0, i, _, D, fs => .inr (i, D, fs)
  | f + 1, i, t, D, fs => if K t = 0 then .inr (i, D, fs) else match rdItem K V t D fs with
    | .inl u => .inl u
    | .inr (u, D2, fs2) => rdAll K V f (i + 1) u D2 fs2
def QA (I : MI) (L : ML) (tx : Nat → Nat) (n : Nat) (r : RI) (T : TR) : Prop := match r with
  | .inl u => ∃ J, T = (some (.int (-10 - nI (tkP tx n u))), shF, J, L) ∧ FRx I J
  | .inr (i, D, fs) => ∃ J, T = (some (.int (nI i)), shF, J, L) ∧ FRx I J ∧ FG J 13 14 D ∧ TPa J 15 fs
theorem s_readItem (X : Ctx) (d : Nat) (I : MI) (L : ML) (tx : Nat → Nat) (n t : Nat) (h : PQ I tx n t) (D : Nat → Int32) (g : FG I 13 14 D) (fs : List (List Q4)) (hT : TPa I 15 fs) : ∃ T, QT I L tx n (rdItem (tkK tx n) (tkV tx n) t D fs) T ∧ Sp X mX2_readItem (d + 58) (0, 0) [.ref 11] shF I L T := by
  refine qU (fun T_ k_ => Sp.of okX2_readItem [.ref 11, .null] 1 rfl (Nat.le_of_ble_eq_true rfl) k_) ?_
  have bd := tk_bd h.1 t
  unfold rdItem
  by_cases hA : tkK tx n t = 1 ∧ tkV tx n t = 83
  · rw [if_pos hA]
    refine qU (fun T_ k_ => r_iconst (pc := 0) (v := nI 0) dX2_readItem_0 rfl k_) ?_
    refine qU (fun T_ k_ => r_istore_n (pc := 1) (lo1 := [.ref 11, .int (nI 0)]) dX2_readItem_1 rfl (by decide) rfl k_) ?_
    refine qU (fun T_ k_ => r_aload_n (pc := 2) dX2_readItem_2 rfl k_) ?_
    refine qU (fun T_ k_ => r_getV (pc := 3) (v := nI 83) dX2_readItem_3 fX2_43 rfl rfl (h.2.1.trans ((tokI_ch bd.1 bd.2.1 (ch := 83) (by decide)).mpr hA)) k_) ?_
    refine qU (fun T_ k_ => r_bipush (pc := 6) dX2_readItem_6 bp_83 k_) ?_
    refine qN (fun T_ => r_icmpN_ne (pc := 8) (tgt := 19) dX2_readItem_8 (by decide) (by omega) (by omega)) (fun c1 => ?_) (fun c1 => ?_)
    · exact absurd c1 (by decide)
    · refine qU (fun T_ k_ => r_aload_n (pc := 11) dX2_readItem_11 rfl k_) ?_
      obtain ⟨T80, Q80, S80⟩ := s_readSource X (d + 53) I L tx n t h D g
      cases R80 : rdSrc (tkK tx n) (tkV tx n) (t + 1) D
      · rename_i u80
        rw [R80] at Q80
        obtain ⟨J80, rfl, F80, P80⟩ := Q80
        dsimp only
        refine qU (fun T_ k_ => r_callV (pc := 12) (N := mX2_readSource) (rest := []) (S80) okX2_readSource lkX2_53 rfl (by decide) rfl rfl rfl (Nat.le_of_ble_eq_true rfl) ⟨Nat.le_refl _, Nat.le_refl _⟩ dX2_readItem_12 k_) ?_
        refine qU (fun T_ k_ => r_istore_n (pc := 15) (lo1 := [.ref 11, .int (nI 0)]) dX2_readItem_15 rfl (by decide) rfl k_) ?_
        refine qU (fun T_ k_ => r_goto (pc := 16) (tgt := 50) dX2_readItem_16 (by decide) k_) ?_
        refine qU (fun T_ k_ => r_iload_n (pc := 50) dX2_readItem_50 rfl k_) ?_
        refine qP (fun T_ => r_ifN_eq (pc := 51) (tgt := 63) dX2_readItem_51 (by decide) (by omega)) (fun c2 => ?_) (fun c2 => ?_)
        · refine qU (fun T_ k_ => r_iconst (pc := 63) (v := nI 0) dX2_readItem_63 rfl k_) ?_
          exact ⟨_, ⟨_, rfl, F80.x, P80⟩, r_zret dX2_readItem_64 rfl (by decide) rfl rfl⟩
        · exact absurd c2 (by decide)
      · rename_i v80
        obtain ⟨u80, d80⟩ := v80
        rw [R80] at Q80
        obtain ⟨J80, rfl, F80, P80, G80⟩ := Q80
        have Y80 := hT.fr (fun c q1 q2 => F80.c (by omega) (by omega) (by omega))
        have bd80 := tk_bd P80.1 u80
        dsimp only
        refine qU (fun T_ k_ => r_callV (pc := 12) (N := mX2_readSource) (rest := []) (S80) okX2_readSource lkX2_53 rfl (by decide) rfl rfl rfl (Nat.le_of_ble_eq_true rfl) ⟨Nat.le_refl _, Nat.le_refl _⟩ dX2_readItem_12 k_) ?_
        refine qU (fun T_ k_ => r_istore_n (pc := 15) (lo1 := [.ref 11, .int (nI 1)]) dX2_readItem_15 rfl (by decide) rfl k_) ?_
        refine qU (fun T_ k_ => r_goto (pc := 16) (tgt := 50) dX2_readItem_16 (by decide) k_) ?_
        refine qU (fun T_ k_ => r_iload_n (pc := 50) dX2_readItem_50 rfl k_) ?_
        refine qP (fun T_ => r_ifN_eq (pc := 51) (tgt := 63) dX2_readItem_51 (by decide) (by omega)) (fun c3 => ?_) (fun c3 => ?_)
        · exact absurd c3 (by decide)
        · refine qU (fun T_ k_ => r_aload_n (pc := 54) dX2_readItem_54 rfl k_) ?_
          refine qU (fun T_ k_ => r_getV (pc := 55) (v := tokI (tkK tx n (u80)) (tkV tx n (u80))) dX2_readItem_55 fX2_43 rfl rfl (P80.2.1) k_) ?_
          refine qU (fun T_ k_ => r_bipush (pc := 58) dX2_readItem_58 bp_59 k_) ?_
          refine qP (fun T_ => r_icmp_eq (pc := 60) (tgt := 65) dX2_readItem_60 (by decide)) (fun c4 => ?_) (fun c4 => ?_)
          · rw [if_pos ((tokI_ch bd80.1 bd80.2.1 (ch := 59) (by decide)).mp c4)]
            refine qU (fun T_ k_ => r_aload_n (pc := 65) dX2_readItem_65 rfl k_) ?_
            obtain ⟨T81, ⟨J81, rfl, F81, C81⟩, S81⟩ := s_pass X (d + 55) J80 L tx n (u80 + 1) P80.1 P80.2.2.2.1
            have P81 := P80.pass F81 C81
            have G81 := G80.fr (F81.c (by decide)) (F81.c (by decide))
            refine qU (fun T_ k_ => r_callV (pc := 66) (N := mX2_pass) (rest := []) (S81) okX2_pass lkX2_40 rfl (by decide) rfl rfl rfl (Nat.le_of_ble_eq_true rfl) ⟨Nat.le_refl _, Nat.le_refl _⟩ dX2_readItem_66 k_) ?_
            refine qU (fun T_ k_ => r_iconst (pc := 69) (v := nI 1) dX2_readItem_69 rfl k_) ?_
            exact ⟨_, ⟨_, rfl, F80.x.pass F81, P81, G81, Y80.fr (fun c q1 q2 => F81.c (by omega))⟩, r_zret dX2_readItem_70 rfl (by decide) rfl rfl⟩
          · rw [if_neg (fun z => c4 ((tokI_ch bd80.1 bd80.2.1 (ch := 59) (by decide)).mpr z))]
            refine qU (fun T_ k_ => r_iconst (pc := 63) (v := nI 0) dX2_readItem_63 rfl k_) ?_
            exact ⟨_, ⟨_, rfl, F80.x, P80⟩, r_zret dX2_readItem_64 rfl (by decide) rfl rfl⟩
  · rw [if_neg hA]
    have hA1 := hA
    clear hA
    by_cases hA : tkK tx n t = 1 ∧ tkV tx n t = 67
    · rw [if_pos hA]
      refine qU (fun T_ k_ => r_iconst (pc := 0) (v := nI 0) dX2_readItem_0 rfl k_) ?_
      refine qU (fun T_ k_ => r_istore_n (pc := 1) (lo1 := [.ref 11, .int (nI 0)]) dX2_readItem_1 rfl (by decide) rfl k_) ?_
      refine qU (fun T_ k_ => r_aload_n (pc := 2) dX2_readItem_2 rfl k_) ?_
      refine qU (fun T_ k_ => r_getV (pc := 3) (v := nI 67) dX2_readItem_3 fX2_43 rfl rfl (h.2.1.trans ((tokI_ch bd.1 bd.2.1 (ch := 67) (by decide)).mpr hA)) k_) ?_
      refine qU (fun T_ k_ => r_bipush (pc := 6) dX2_readItem_6 bp_83 k_) ?_
      refine qN (fun T_ => r_icmpN_ne (pc := 8) (tgt := 19) dX2_readItem_8 (by decide) (by omega) (by omega)) (fun c1 => ?_) (fun c1 => ?_)
      · refine qU (fun T_ k_ => r_aload_n (pc := 19) dX2_readItem_19 rfl k_) ?_
        refine qU (fun T_ k_ => r_getV (pc := 20) (v := nI 67) dX2_readItem_20 fX2_43 rfl rfl (h.2.1.trans ((tokI_ch bd.1 bd.2.1 (ch := 67) (by decide)).mpr hA)) k_) ?_
        refine qU (fun T_ k_ => r_bipush (pc := 23) dX2_readItem_23 bp_67 k_) ?_
        refine qN (fun T_ => r_icmpN_ne (pc := 25) (tgt := 36) dX2_readItem_25 (by decide) (by omega) (by omega)) (fun c2 => ?_) (fun c2 => ?_)
        · exact absurd c2 (by decide)
        · refine qU (fun T_ k_ => r_aload_n (pc := 28) dX2_readItem_28 rfl k_) ?_
          obtain ⟨T82, Q82, S82⟩ := s_readJoint X (d + 53) I L tx n t h D g
          cases R82 : rdJnt (tkK tx n) (tkV tx n) (t + 1) D
          · rename_i u82
            rw [R82] at Q82
            obtain ⟨J82, rfl, F82, P82⟩ := Q82
            dsimp only
            refine qU (fun T_ k_ => r_callV (pc := 29) (N := mX2_readJoint) (rest := []) (S82) okX2_readJoint lkX2_56 rfl (by decide) rfl rfl rfl (Nat.le_of_ble_eq_true rfl) ⟨Nat.le_refl _, Nat.le_refl _⟩ dX2_readItem_29 k_) ?_
            refine qU (fun T_ k_ => r_istore_n (pc := 32) (lo1 := [.ref 11, .int (nI 0)]) dX2_readItem_32 rfl (by decide) rfl k_) ?_
            refine qU (fun T_ k_ => r_goto (pc := 33) (tgt := 50) dX2_readItem_33 (by decide) k_) ?_
            refine qU (fun T_ k_ => r_iload_n (pc := 50) dX2_readItem_50 rfl k_) ?_
            refine qP (fun T_ => r_ifN_eq (pc := 51) (tgt := 63) dX2_readItem_51 (by decide) (by omega)) (fun c3 => ?_) (fun c3 => ?_)
            · refine qU (fun T_ k_ => r_iconst (pc := 63) (v := nI 0) dX2_readItem_63 rfl k_) ?_
              exact ⟨_, ⟨_, rfl, F82.x, P82⟩, r_zret dX2_readItem_64 rfl (by decide) rfl rfl⟩
            · exact absurd c3 (by decide)
          · rename_i v82
            obtain ⟨u82, d82⟩ := v82
            rw [R82] at Q82
            obtain ⟨J82, rfl, F82, P82, G82⟩ := Q82
            have Y82 := hT.fr (fun c q1 q2 => F82.c (by omega) (by omega) (by omega))
            have bd82 := tk_bd P82.1 u82
            dsimp only
            refine qU (fun T_ k_ => r_callV (pc := 29) (N := mX2_readJoint) (rest := []) (S82) okX2_readJoint lkX2_56 rfl (by decide) rfl rfl rfl (Nat.le_of_ble_eq_true rfl) ⟨Nat.le_refl _, Nat.le_refl _⟩ dX2_readItem_29 k_) ?_
            refine qU (fun T_ k_ => r_istore_n (pc := 32) (lo1 := [.ref 11, .int (nI 1)]) dX2_readItem_32 rfl (by decide) rfl k_) ?_
            refine qU (fun T_ k_ => r_goto (pc := 33) (tgt := 50) dX2_readItem_33 (by decide) k_) ?_
            refine qU (fun T_ k_ => r_iload_n (pc := 50) dX2_readItem_50 rfl k_) ?_
            refine qP (fun T_ => r_ifN_eq (pc := 51) (tgt := 63) dX2_readItem_51 (by decide) (by omega)) (fun c4 => ?_) (fun c4 => ?_)
            · exact absurd c4 (by decide)
            · refine qU (fun T_ k_ => r_aload_n (pc := 54) dX2_readItem_54 rfl k_) ?_
              refine qU (fun T_ k_ => r_getV (pc := 55) (v := tokI (tkK tx n (u82)) (tkV tx n (u82))) dX2_readItem_55 fX2_43 rfl rfl (P82.2.1) k_) ?_
              refine qU (fun T_ k_ => r_bipush (pc := 58) dX2_readItem_58 bp_59 k_) ?_
              refine qP (fun T_ => r_icmp_eq (pc := 60) (tgt := 65) dX2_readItem_60 (by decide)) (fun c5 => ?_) (fun c5 => ?_)
              · rw [if_pos ((tokI_ch bd82.1 bd82.2.1 (ch := 59) (by decide)).mp c5)]
                refine qU (fun T_ k_ => r_aload_n (pc := 65) dX2_readItem_65 rfl k_) ?_
                obtain ⟨T83, ⟨J83, rfl, F83, C83⟩, S83⟩ := s_pass X (d + 55) J82 L tx n (u82 + 1) P82.1 P82.2.2.2.1
                have P83 := P82.pass F83 C83
                have G83 := G82.fr (F83.c (by decide)) (F83.c (by decide))
                refine qU (fun T_ k_ => r_callV (pc := 66) (N := mX2_pass) (rest := []) (S83) okX2_pass lkX2_40 rfl (by decide) rfl rfl rfl (Nat.le_of_ble_eq_true rfl) ⟨Nat.le_refl _, Nat.le_refl _⟩ dX2_readItem_66 k_) ?_
                refine qU (fun T_ k_ => r_iconst (pc := 69) (v := nI 1) dX2_readItem_69 rfl k_) ?_
                exact ⟨_, ⟨_, rfl, F82.x.pass F83, P83, G83, Y82.fr (fun c q1 q2 => F83.c (by omega))⟩, r_zret dX2_readItem_70 rfl (by decide) rfl rfl⟩
              · rw [if_neg (fun z => c5 ((tokI_ch bd82.1 bd82.2.1 (ch := 59) (by decide)).mpr z))]
                refine qU (fun T_ k_ => r_iconst (pc := 63) (v := nI 0) dX2_readItem_63 rfl k_) ?_
                exact ⟨_, ⟨_, rfl, F82.x, P82⟩, r_zret dX2_readItem_64 rfl (by decide) rfl rfl⟩
      · exact absurd c1 (by decide)
    · rw [if_neg hA]
      have hA2 := hA
      clear hA
      by_cases hA : tkK tx n t = 1 ∧ tkV tx n t = 70
      · rw [if_pos hA]
        refine qU (fun T_ k_ => r_iconst (pc := 0) (v := nI 0) dX2_readItem_0 rfl k_) ?_
        refine qU (fun T_ k_ => r_istore_n (pc := 1) (lo1 := [.ref 11, .int (nI 0)]) dX2_readItem_1 rfl (by decide) rfl k_) ?_
        refine qU (fun T_ k_ => r_aload_n (pc := 2) dX2_readItem_2 rfl k_) ?_
        refine qU (fun T_ k_ => r_getV (pc := 3) (v := nI 70) dX2_readItem_3 fX2_43 rfl rfl (h.2.1.trans ((tokI_ch bd.1 bd.2.1 (ch := 70) (by decide)).mpr hA)) k_) ?_
        refine qU (fun T_ k_ => r_bipush (pc := 6) dX2_readItem_6 bp_83 k_) ?_
        refine qN (fun T_ => r_icmpN_ne (pc := 8) (tgt := 19) dX2_readItem_8 (by decide) (by omega) (by omega)) (fun c1 => ?_) (fun c1 => ?_)
        · refine qU (fun T_ k_ => r_aload_n (pc := 19) dX2_readItem_19 rfl k_) ?_
          refine qU (fun T_ k_ => r_getV (pc := 20) (v := nI 70) dX2_readItem_20 fX2_43 rfl rfl (h.2.1.trans ((tokI_ch bd.1 bd.2.1 (ch := 70) (by decide)).mpr hA)) k_) ?_
          refine qU (fun T_ k_ => r_bipush (pc := 23) dX2_readItem_23 bp_67 k_) ?_
          refine qN (fun T_ => r_icmpN_ne (pc := 25) (tgt := 36) dX2_readItem_25 (by decide) (by omega) (by omega)) (fun c2 => ?_) (fun c2 => ?_)
          · refine qU (fun T_ k_ => r_aload_n (pc := 36) dX2_readItem_36 rfl k_) ?_
            refine qU (fun T_ k_ => r_getV (pc := 37) (v := nI 70) dX2_readItem_37 fX2_43 rfl rfl (h.2.1.trans ((tokI_ch bd.1 bd.2.1 (ch := 70) (by decide)).mpr hA)) k_) ?_
            refine qU (fun T_ k_ => r_bipush (pc := 40) dX2_readItem_40 bp_70 k_) ?_
            refine qN (fun T_ => r_icmpN_ne (pc := 42) (tgt := 50) dX2_readItem_42 (by decide) (by omega) (by omega)) (fun c3 => ?_) (fun c3 => ?_)
            · exact absurd c3 (by decide)
            · refine qU (fun T_ k_ => r_aload_n (pc := 45) dX2_readItem_45 rfl k_) ?_
              obtain ⟨T84, Q84, S84⟩ := s_readFormula X d I L tx n t h fs hT
              cases R84 : rdFrm (tkK tx n) (tkV tx n) t fs
              · rename_i u84
                rw [R84] at Q84
                obtain ⟨J84, rfl, F84, P84⟩ := Q84
                dsimp only
                refine qU (fun T_ k_ => r_callV (pc := 46) (N := mX2_readFormula) (rest := []) (S84) okX2_readFormula lkX2_59 rfl (by decide) rfl rfl rfl (Nat.le_of_ble_eq_true rfl) ⟨Nat.le_refl _, Nat.le_refl _⟩ dX2_readItem_46 k_) ?_
                refine qU (fun T_ k_ => r_istore_n (pc := 49) (lo1 := [.ref 11, .int (nI 0)]) dX2_readItem_49 rfl (by decide) rfl k_) ?_
                refine qU (fun T_ k_ => r_iload_n (pc := 50) dX2_readItem_50 rfl k_) ?_
                refine qP (fun T_ => r_ifN_eq (pc := 51) (tgt := 63) dX2_readItem_51 (by decide) (by omega)) (fun c4 => ?_) (fun c4 => ?_)
                · refine qU (fun T_ k_ => r_iconst (pc := 63) (v := nI 0) dX2_readItem_63 rfl k_) ?_
                  exact ⟨_, ⟨_, rfl, F84.x, P84⟩, r_zret dX2_readItem_64 rfl (by decide) rfl rfl⟩
                · exact absurd c4 (by decide)
              · rename_i v84
                obtain ⟨u84, d84⟩ := v84
                rw [R84] at Q84
                obtain ⟨J84, rfl, F84, P84, Y84⟩ := Q84
                have G84 := g.fr (F84.cell (by decide) (by omega)) (F84.cell (by decide) (by omega))
                have bd84 := tk_bd P84.1 u84
                dsimp only
                refine qU (fun T_ k_ => r_callV (pc := 46) (N := mX2_readFormula) (rest := []) (S84) okX2_readFormula lkX2_59 rfl (by decide) rfl rfl rfl (Nat.le_of_ble_eq_true rfl) ⟨Nat.le_refl _, Nat.le_refl _⟩ dX2_readItem_46 k_) ?_
                refine qU (fun T_ k_ => r_istore_n (pc := 49) (lo1 := [.ref 11, .int (nI 1)]) dX2_readItem_49 rfl (by decide) rfl k_) ?_
                refine qU (fun T_ k_ => r_iload_n (pc := 50) dX2_readItem_50 rfl k_) ?_
                refine qP (fun T_ => r_ifN_eq (pc := 51) (tgt := 63) dX2_readItem_51 (by decide) (by omega)) (fun c5 => ?_) (fun c5 => ?_)
                · exact absurd c5 (by decide)
                · refine qU (fun T_ k_ => r_aload_n (pc := 54) dX2_readItem_54 rfl k_) ?_
                  refine qU (fun T_ k_ => r_getV (pc := 55) (v := tokI (tkK tx n (u84)) (tkV tx n (u84))) dX2_readItem_55 fX2_43 rfl rfl (P84.2.1) k_) ?_
                  refine qU (fun T_ k_ => r_bipush (pc := 58) dX2_readItem_58 bp_59 k_) ?_
                  refine qP (fun T_ => r_icmp_eq (pc := 60) (tgt := 65) dX2_readItem_60 (by decide)) (fun c6 => ?_) (fun c6 => ?_)
                  · rw [if_pos ((tokI_ch bd84.1 bd84.2.1 (ch := 59) (by decide)).mp c6)]
                    refine qU (fun T_ k_ => r_aload_n (pc := 65) dX2_readItem_65 rfl k_) ?_
                    obtain ⟨T85, ⟨J85, rfl, F85, C85⟩, S85⟩ := s_pass X (d + 55) J84 L tx n (u84 + 1) P84.1 P84.2.2.2.1
                    have P85 := P84.pass F85 C85
                    have G85 := G84.fr (F85.c (by decide)) (F85.c (by decide))
                    refine qU (fun T_ k_ => r_callV (pc := 66) (N := mX2_pass) (rest := []) (S85) okX2_pass lkX2_40 rfl (by decide) rfl rfl rfl (Nat.le_of_ble_eq_true rfl) ⟨Nat.le_refl _, Nat.le_refl _⟩ dX2_readItem_66 k_) ?_
                    refine qU (fun T_ k_ => r_iconst (pc := 69) (v := nI 1) dX2_readItem_69 rfl k_) ?_
                    exact ⟨_, ⟨_, rfl, F84.x.pass F85, P85, G85, Y84.fr (fun c q1 q2 => F85.c (by omega))⟩, r_zret dX2_readItem_70 rfl (by decide) rfl rfl⟩
                  · rw [if_neg (fun z => c6 ((tokI_ch bd84.1 bd84.2.1 (ch := 59) (by decide)).mpr z))]
                    refine qU (fun T_ k_ => r_iconst (pc := 63) (v := nI 0) dX2_readItem_63 rfl k_) ?_
                    exact ⟨_, ⟨_, rfl, F84.x, P84⟩, r_zret dX2_readItem_64 rfl (by decide) rfl rfl⟩
          · exact absurd c2 (by decide)
        · exact absurd c1 (by decide)
      · rw [if_neg hA]
        refine qU (fun T_ k_ => r_iconst (pc := 0) (v := nI 0) dX2_readItem_0 rfl k_) ?_
        refine qU (fun T_ k_ => r_istore_n (pc := 1) (lo1 := [.ref 11, .int (nI 0)]) dX2_readItem_1 rfl (by decide) rfl k_) ?_
        refine qU (fun T_ k_ => r_aload_n (pc := 2) dX2_readItem_2 rfl k_) ?_
        refine qU (fun T_ k_ => r_getV (pc := 3) (v := tokI (tkK tx n (t)) (tkV tx n (t))) dX2_readItem_3 fX2_43 rfl rfl (h.2.1) k_) ?_
        refine qU (fun T_ k_ => r_bipush (pc := 6) dX2_readItem_6 bp_83 k_) ?_
        refine qN (fun T_ => r_icmp_ne (pc := 8) (tgt := 19) dX2_readItem_8 (by decide)) (fun c1 => ?_) (fun c1 => ?_)
        · refine qU (fun T_ k_ => r_aload_n (pc := 19) dX2_readItem_19 rfl k_) ?_
          refine qU (fun T_ k_ => r_getV (pc := 20) (v := tokI (tkK tx n (t)) (tkV tx n (t))) dX2_readItem_20 fX2_43 rfl rfl (h.2.1) k_) ?_
          refine qU (fun T_ k_ => r_bipush (pc := 23) dX2_readItem_23 bp_67 k_) ?_
          refine qN (fun T_ => r_icmp_ne (pc := 25) (tgt := 36) dX2_readItem_25 (by decide)) (fun c2 => ?_) (fun c2 => ?_)
          · refine qU (fun T_ k_ => r_aload_n (pc := 36) dX2_readItem_36 rfl k_) ?_
            refine qU (fun T_ k_ => r_getV (pc := 37) (v := tokI (tkK tx n (t)) (tkV tx n (t))) dX2_readItem_37 fX2_43 rfl rfl (h.2.1) k_) ?_
            refine qU (fun T_ k_ => r_bipush (pc := 40) dX2_readItem_40 bp_70 k_) ?_
            refine qN (fun T_ => r_icmp_ne (pc := 42) (tgt := 50) dX2_readItem_42 (by decide)) (fun c3 => ?_) (fun c3 => ?_)
            · refine qU (fun T_ k_ => r_iload_n (pc := 50) dX2_readItem_50 rfl k_) ?_
              refine qP (fun T_ => r_ifN_eq (pc := 51) (tgt := 63) dX2_readItem_51 (by decide) (by omega)) (fun c4 => ?_) (fun c4 => ?_)
              · refine qU (fun T_ k_ => r_iconst (pc := 63) (v := nI 0) dX2_readItem_63 rfl k_) ?_
                exact ⟨_, ⟨_, rfl, FRx.refl I, h⟩, r_zret dX2_readItem_64 rfl (by decide) rfl rfl⟩
              · exact absurd c4 (by decide)
            · exact absurd ((tokI_ch bd.1 bd.2.1 (ch := 70) (by decide)).mp c3) hA
          · exact absurd ((tokI_ch bd.1 bd.2.1 (ch := 67) (by decide)).mp c2) hA2
        · exact absurd ((tokI_ch bd.1 bd.2.1 (ch := 83) (by decide)).mp c1) hA1
theorem lp_read (X : Ctx) (d : Nat) (I : MI) (L : ML) (tx : Nat → Nat) (n : Nat) : ∀ (f i t : Nat) (J : MI) (D : Nat → Int32) (fs : List (List Q4)), i + f = 100 → PQ J tx n t → FRx I J → FG J 13 14 D → TPa J 15 fs → ∃ T, QA I L tx n (rdAll (tkK tx n) (tkV tx n) f i t D fs) T ∧ Ev X mX2_read (d + 59) (0, 0) (0, 0) T 25 [.ref 11, .int (nI i)] [] shF J L := by
  intro f
  induction f with
  | zero =>
    intro i t J D fs hm h FR g hT
    have bd := tk_bd h.1 t
    unfold rdAll
    refine qU (fun T_ k_ => r_aload_n (pc := 25) dX2_read_25 rfl k_) ?_
    refine qU (fun T_ k_ => r_getV (pc := 26) (v := tokI (tkK tx n (t)) (tkV tx n (t))) dX2_read_26 fX2_43 rfl rfl (h.2.1) k_) ?_
    refine qU (fun T_ k_ => r_iconst (pc := 29) (v := -1) dX2_read_29 rfl k_) ?_
    refine qP (fun T_ => r_icmp_eq (pc := 30) (tgt := 60) dX2_read_30 (by decide)) (fun c1 => ?_) (fun c1 => ?_)
    · refine qU (fun T_ k_ => r_iload_n (pc := 60) dX2_read_60 rfl k_) ?_
      exact ⟨_, ⟨_, rfl, FR, g, hT⟩, r_iret dX2_read_61 rfl rfl rfl⟩
    · refine qU (fun T_ k_ => r_iload_n (pc := 33) dX2_read_33 rfl k_) ?_
      refine qU (fun T_ k_ => r_bipush (pc := 34) dX2_read_34 bp_100 k_) ?_
      refine qP (fun T_ => r_icmpN_ge (pc := 36) (tgt := 60) dX2_read_36 (by decide) (by omega) (by omega)) (fun c2 => ?_) (fun c2 => ?_)
      · refine qU (fun T_ k_ => r_iload_n (pc := 60) dX2_read_60 rfl k_) ?_
        exact ⟨_, ⟨_, rfl, FR, g, hT⟩, r_iret dX2_read_61 rfl rfl rfl⟩
      · exact absurd c2 (by omega)
  | succ f ih =>
    intro i t J D fs hm h FR g hT
    have bd := tk_bd h.1 t
    unfold rdAll
    by_cases hE : tkK tx n t = 0
    · rw [if_pos hE]
      refine qU (fun T_ k_ => r_aload_n (pc := 25) dX2_read_25 rfl k_) ?_
      refine qU (fun T_ k_ => r_getV (pc := 26) (v := tokI (tkK tx n (t)) (tkV tx n (t))) dX2_read_26 fX2_43 rfl rfl (h.2.1) k_) ?_
      refine qU (fun T_ k_ => r_iconst (pc := 29) (v := -1) dX2_read_29 rfl k_) ?_
      refine qP (fun T_ => r_icmp_eq (pc := 30) (tgt := 60) dX2_read_30 (by decide)) (fun c1 => ?_) (fun c1 => ?_)
      · refine qU (fun T_ k_ => r_iload_n (pc := 60) dX2_read_60 rfl k_) ?_
        exact ⟨_, ⟨_, rfl, FR, g, hT⟩, r_iret dX2_read_61 rfl rfl rfl⟩
      · exact absurd ((tokI_m1 bd.1 bd.2.1).mpr hE) c1
    · rw [if_neg hE]
      refine qU (fun T_ k_ => r_aload_n (pc := 25) dX2_read_25 rfl k_) ?_
      refine qU (fun T_ k_ => r_getV (pc := 26) (v := tokI (tkK tx n (t)) (tkV tx n (t))) dX2_read_26 fX2_43 rfl rfl (h.2.1) k_) ?_
      refine qU (fun T_ k_ => r_iconst (pc := 29) (v := -1) dX2_read_29 rfl k_) ?_
      refine qP (fun T_ => r_icmp_eq (pc := 30) (tgt := 60) dX2_read_30 (by decide)) (fun c1 => ?_) (fun c1 => ?_)
      · exact absurd ((tokI_m1 bd.1 bd.2.1).mp c1) hE
      · refine qU (fun T_ k_ => r_iload_n (pc := 33) dX2_read_33 rfl k_) ?_
        refine qU (fun T_ k_ => r_bipush (pc := 34) dX2_read_34 bp_100 k_) ?_
        refine qP (fun T_ => r_icmpN_ge (pc := 36) (tgt := 60) dX2_read_36 (by decide) (by omega) (by omega)) (fun c2 => ?_) (fun c2 => ?_)
        · exact absurd c2 (by omega)
        · refine qU (fun T_ k_ => r_aload_n (pc := 39) dX2_read_39 rfl k_) ?_
          obtain ⟨T86, Q86, S86⟩ := s_readItem X d J L tx n t h D g fs hT
          cases R86 : rdItem (tkK tx n) (tkV tx n) t D fs
          · rename_i u86
            rw [R86] at Q86
            obtain ⟨J86, rfl, F86, P86⟩ := Q86
            dsimp only
            refine qU (fun T_ k_ => r_callV (pc := 40) (N := mX2_readItem) (rest := []) (S86) okX2_readItem lkX2_46 rfl (by decide) rfl rfl rfl (Nat.le_of_ble_eq_true rfl) ⟨Nat.le_refl _, Nat.le_refl _⟩ dX2_read_40 k_) ?_
            refine qN (fun T_ => r_ifN_ne (pc := 43) (tgt := 54) dX2_read_43 (by decide) (by omega)) (fun c3 => ?_) (fun c3 => ?_)
            · exact absurd c3 (by decide)
            · refine qU (fun T_ k_ => r_bipush (pc := 46) dX2_read_46 bp_m10 k_) ?_
              refine qU (fun T_ k_ => r_aload_n (pc := 48) dX2_read_48 rfl k_) ?_
              refine qU (fun T_ k_ => r_getV (pc := 49) (v := nI (tkP tx n u86)) dX2_read_49 fX2_50 rfl rfl (P86.2.2.1) k_) ?_
              refine qU (fun T_ k_ => r_isub (pc := 52) dX2_read_52 k_) ?_
              exact ⟨_, ⟨_, rfl, FR.trans F86⟩, r_iret dX2_read_53 rfl rfl rfl⟩
          · rename_i v86
            obtain ⟨u86, d86, l86⟩ := v86
            rw [R86] at Q86
            obtain ⟨J86, rfl, F86, P86, G86, Y86⟩ := Q86
            dsimp only
            refine qU (fun T_ k_ => r_callV (pc := 40) (N := mX2_readItem) (rest := []) (S86) okX2_readItem lkX2_46 rfl (by decide) rfl rfl rfl (Nat.le_of_ble_eq_true rfl) ⟨Nat.le_refl _, Nat.le_refl _⟩ dX2_read_40 k_) ?_
            refine qN (fun T_ => r_ifN_ne (pc := 43) (tgt := 54) dX2_read_43 (by decide) (by omega)) (fun c4 => ?_) (fun c4 => ?_)
            · refine qU (fun T_ k_ => r_iinc (pc := 54) (v := nI (i + 1)) (lo1 := [.ref 11, .int (nI (i + 1))]) dX2_read_54 rfl rfl (ii1 _) (by decide) rfl k_) ?_
              refine qU (fun T_ k_ => r_goto (pc := 57) (tgt := 25) dX2_read_57 (by decide) k_) ?_
              exact ih (i + 1) u86 J86 d86 l86 (by omega) P86 (FR.trans F86) G86 Y86
            · exact absurd c4 (by decide)
