theorem GR.mono {J : MI} {sg ng : Nat → Int32} {b0 c a i c' : Nat} {l l' : List Q4} (h : GR J sg ng b0 c l i c' l') (ha : a ≤ c) : GR J sg ng b0 a l i c' l' := ⟨h.1, h.2.1, by have := h.2.2.1; omega, h.2.2.2⟩
def ptR (K V : Nat → Nat) (F : Nat) (inner : Option (Nat → Nat → List Q4 → RD)) (l : List Q4) (r : Nat ⊕ (Nat × Nat × Nat)) : RD := match r with
  | .inl u => .inl u
  | .inr (s, u, c') => match rdBare K V F inner u c' l with
    | .inl u => .inl u
    | .inr (i, u, c', l') => .inr ((adNeg s i l').1, u, c', (adNeg s i l').2)
theorem lp_neg (X : Ctx) (d : Nat) (I : MI) (L : ML) (tx : Nat → Nat) (n F : Nat) (rt : Nat → Nat) (sg ng : Nat → Int32) (b0 c0 : Nat) (l : List Q4) (hl0 : l.length ≤ c0) (dp s u c : Nat) (hs : s ≤ 20) : ∀ (z m i : Nat) (J : MI) (k : List Q4), m + z = s → PS J tx n F rt sg ng b0 u c k → FRr I J (b0 + l.length) → GR J sg ng b0 (c0 + z) l i c k → ∃ T, QR I L tx n F rt sg ng b0 c0 l (.inr ((adNeg z i k).1, u, c, (adNeg z i k).2)) T ∧ Ev X mX2_readPart (d + 5) (0, 0) (0, 0) T 45 [.ref 11, .int (nI dp), .int (nI s), .int (nI (b0 + i)), .int (nI m)] [] shF J L := by
  intro z
  induction z with
  | zero =>
    intro m i J k hm P FR G
    have hb8 := P.2.2.2.2.1.2.2.1
    have hc20 := P.2.2.2.1
    have hk1 := G.1
    have hk2 := G.2.1
    have hk3 := G.2.2.1
    have hk4 := P.2.2.2.2.2.2.1
    refine qU (fun T_ k_ => r_iload (pc := 45) dX2_readPart_45 rfl k_) ?_
    refine qU (fun T_ k_ => r_iload_n (pc := 47) dX2_readPart_47 rfl k_) ?_
    refine qP (fun T_ => r_icmpN_ge (pc := 48) (tgt := 74) dX2_readPart_48 (by decide) (by omega) (by omega)) (fun c1 => ?_) (fun c1 => ?_)
    · refine qU (fun T_ k_ => r_iload_n (pc := 74) dX2_readPart_74 rfl k_) ?_
      exact ⟨_, ⟨_, rfl, FR, P, G⟩, r_iret dX2_readPart_75 rfl rfl rfl⟩
    · exact absurd c1 (by omega)
  | succ z ih =>
    intro m i J k hm P FR G
    have hb8 := P.2.2.2.2.1.2.2.1
    have hc20 := P.2.2.2.1
    have hk1 := G.1
    have hk2 := G.2.1
    have hk3 := G.2.2.1
    have hk4 := P.2.2.2.2.2.2.1
    refine qU (fun T_ k_ => r_iload (pc := 45) dX2_readPart_45 rfl k_) ?_
    refine qU (fun T_ k_ => r_iload_n (pc := 47) dX2_readPart_47 rfl k_) ?_
    refine qP (fun T_ => r_icmpN_ge (pc := 48) (tgt := 74) dX2_readPart_48 (by decide) (by omega) (by omega)) (fun c1 => ?_) (fun c1 => ?_)
    · exact absurd c1 (by omega)
    · refine qU (fun T_ k_ => r_iload_n (pc := 51) dX2_readPart_51 rfl k_) ?_
      refine qU (fun T_ k_ => r_iconst (pc := 52) (v := -1) dX2_readPart_52 rfl k_) ?_
      refine qP (fun T_ => r_icmp_eq (pc := 53) (tgt := 74) dX2_readPart_53 (by decide)) (fun c2 => ?_) (fun c2 => ?_)
      · exact absurd c2 (nI_nm1 (by omega))
      · refine qU (fun T_ k_ => r_aload_n (pc := 56) dX2_readPart_56 rfl k_) ?_
        refine qU (fun T_ k_ => r_getR (pc := 57) (b := 15) dX2_readPart_57 fX2_21 rfl rfl k_) ?_
        refine qU (fun T_ k_ => r_bipush (pc := 60) dX2_readPart_60 bp_7 k_) ?_
        refine qU (fun T_ k_ => r_iload_n (pc := 62) dX2_readPart_62 rfl k_) ?_
        refine qU (fun T_ k_ => r_iconst (pc := 63) (v := nI 0) dX2_readPart_63 rfl k_) ?_
        have P21 : PS (addN J (b0 + k.length) (nI 7) (nI (b0 + i)) (nI 0) (nI 1 + J 19 (b0 + i)) (J 20 (b0 + i))) tx n F rt sg ng b0 u c (k ++ [((110, 0, i, 0) : Q4)]) := P.made ((110, 0, i, 0) : Q4) (by omega) (Or.inr (Or.inr (Or.inr (Or.inl ⟨rfl, by show i < k.length; omega⟩)))) rfl rfl rfl
        have G21 : GR (addN J (b0 + k.length) (nI 7) (nI (b0 + i)) (nI 0) (nI 1 + J 19 (b0 + i)) (J 20 (b0 + i))) sg ng b0 (c0 + z) l k.length c (k ++ [((110, 0, i, 0) : Q4)]) := GR.un ((110, 0, i, 0) : Q4) (G.mono (by omega)) (Nat.le_of_ble_eq_true rfl) (by omega) rfl rfl
        refine qU (fun T_ k_ => r_callV (pc := 64) (N := mX4_addOver) (rest := []) (s_addOver X _ J L (b0 + k.length) (b0 + i) (nI 7) (nI 0) P.2.2.2.2.2.1 (by omega) (by omega)) okX4_addOver lkX2_113 rfl (by decide) rfl rfl rfl (Nat.le_of_ble_eq_true rfl) ⟨Nat.le_refl _, Nat.le_refl _⟩ dX2_readPart_64 k_) ?_
        refine qU (fun T_ k_ => r_istore_n (pc := 67) (lo1 := [.ref 11, .int (nI dp), .int (nI s), .int (nI (b0 + k.length)), .int (nI m)]) dX2_readPart_67 rfl (by decide) rfl k_) ?_
        refine qU (fun T_ k_ => r_iinc (pc := 68) (v := nI (m + 1)) (lo1 := [.ref 11, .int (nI dp), .int (nI s), .int (nI (b0 + k.length)), .int (nI (m + 1))]) dX2_readPart_68 rfl rfl (ii1 _) (by decide) rfl k_) ?_
        refine qU (fun T_ k_ => r_goto (pc := 71) (tgt := 45) dX2_readPart_71 (by decide) k_) ?_
        exact ih (m + 1) k.length _ _ (by omega) P21 (FR.addN (by omega)) G21
theorem lp_part (X : Ctx) (d : Nat) (I : MI) (L : ML) (tx : Nat → Nat) (n F : Nat) (rt : Nat → Nat) (sg ng : Nat → Int32) (b0 c0 : Nat) (l : List Q4) (hl0 : l.length ≤ c0) (dp : Nat) (inner : Option (Nat → Nat → List Q4 → RD)) (hin : INO L tx n F rt sg ng b0 X d dp inner) : ∀ (f s t c : Nat) (J : MI), s + f = 20 → c = c0 + s → PS J tx n F rt sg ng b0 t c l → FRr I J (b0 + l.length) → ∃ T, QR I L tx n F rt sg ng b0 c0 l (ptR (tkK tx n) (tkV tx n) F inner l (rdNeg (tkK tx n) (tkV tx n) f s t c)) T ∧ Ev X mX2_readPart (d + 5) (0, 0) (0, 0) T 2 [.ref 11, .int (nI dp), .int (nI s), .null, .null] [] shF J L := by
  intro f
  induction f with
  | zero =>
    intro s t c J hs hcs P FR
    have bd := tk_bd P.1 t
    unfold rdNeg ptR
    dsimp only
    refine qU (fun T_ k_ => r_aload_n (pc := 2) dX2_readPart_2 rfl k_) ?_
    refine qU (fun T_ k_ => r_getV (pc := 3) (v := tokI (tkK tx n (t)) (tkV tx n (t))) dX2_readPart_3 fX2_43 rfl rfl (P.2.1.1) k_) ?_
    refine qU (fun T_ k_ => r_bipush (pc := 6) dX2_readPart_6 bp_45 k_) ?_
    refine qN (fun T_ => r_icmp_ne (pc := 8) (tgt := 36) dX2_readPart_8 (by decide)) (fun c1 => ?_) (fun c1 => ?_)
    · refine qU (fun T_ k_ => r_aload_n (pc := 36) dX2_readPart_36 rfl k_) ?_
      refine qU (fun T_ k_ => r_iload_n (pc := 37) dX2_readPart_37 rfl k_) ?_
      obtain ⟨T22, Q22, S22⟩ := s_readBarePart X d J L tx n F rt sg ng b0 t c l P dp inner hin
      cases R22 : rdBare (tkK tx n) (tkV tx n) F inner t c l
      · rename_i u22
        rw [R22] at Q22
        obtain ⟨J22, rfl, F22, C22⟩ := Q22
        dsimp only
        refine qU (fun T_ k_ => r_callV (pc := 38) (N := mX2_readBarePart) (rest := []) (S22) okX2_readBarePart lkX2_116 rfl (by decide) rfl rfl rfl (Nat.le_of_ble_eq_true rfl) ⟨Nat.le_refl _, Nat.le_refl _⟩ dX2_readPart_38 k_) ?_
        refine qU (fun T_ k_ => r_istore_n (pc := 41) (lo1 := [.ref 11, .int (nI dp), .int (nI s), .int (-1), .null]) dX2_readPart_41 rfl (by decide) rfl k_) ?_
        refine qU (fun T_ k_ => r_iconst (pc := 42) (v := nI 0) dX2_readPart_42 rfl k_) ?_
        refine qU (fun T_ k_ => r_istore (pc := 43) (lo1 := [.ref 11, .int (nI dp), .int (nI s), .int (-1), .int (nI 0)]) dX2_readPart_43 rfl (by decide) rfl k_) ?_
        refine qU (fun T_ k_ => r_iload (pc := 45) dX2_readPart_45 rfl k_) ?_
        refine qU (fun T_ k_ => r_iload_n (pc := 47) dX2_readPart_47 rfl k_) ?_
        refine qP (fun T_ => r_icmpN_ge (pc := 48) (tgt := 74) dX2_readPart_48 (by decide) (by omega) (by omega)) (fun c2 => ?_) (fun c2 => ?_)
        · refine qU (fun T_ k_ => r_iload_n (pc := 74) dX2_readPart_74 rfl k_) ?_
          exact ⟨_, ⟨_, rfl, FR.trans F22 (Nat.le_refl _), C22⟩, r_iret dX2_readPart_75 rfl rfl rfl⟩
        · refine qU (fun T_ k_ => r_iload_n (pc := 51) dX2_readPart_51 rfl k_) ?_
          refine qU (fun T_ k_ => r_iconst (pc := 52) (v := -1) dX2_readPart_52 rfl k_) ?_
          refine qP (fun T_ => r_icmp_eq (pc := 53) (tgt := 74) dX2_readPart_53 (by decide)) (fun c3 => ?_) (fun c3 => ?_)
          · refine qU (fun T_ k_ => r_iload_n (pc := 74) dX2_readPart_74 rfl k_) ?_
            exact ⟨_, ⟨_, rfl, FR.trans F22 (Nat.le_refl _), C22⟩, r_iret dX2_readPart_75 rfl rfl rfl⟩
          · exact absurd rfl c3
      · rename_i v22
        obtain ⟨i22, u22, d22, l22⟩ := v22
        rw [R22] at Q22
        obtain ⟨J22, rfl, F22, P22, G22⟩ := Q22
        have hl22 := G22.1
        have hi22 := G22.2.1
        have hg22 := G22.2.2.1
        have hb22 := P22.2.2.2.2.1.2.2.1
        have hc22 := P22.2.2.2.2.2.2.1
        have hd22 := P22.2.2.2.1
        have bd22 := tk_bd P22.1 u22
        dsimp only
        refine qU (fun T_ k_ => r_callV (pc := 38) (N := mX2_readBarePart) (rest := []) (S22) okX2_readBarePart lkX2_116 rfl (by decide) rfl rfl rfl (Nat.le_of_ble_eq_true rfl) ⟨Nat.le_refl _, Nat.le_refl _⟩ dX2_readPart_38 k_) ?_
        refine qU (fun T_ k_ => r_istore_n (pc := 41) (lo1 := [.ref 11, .int (nI dp), .int (nI s), .int (nI (b0 + i22)), .null]) dX2_readPart_41 rfl (by decide) rfl k_) ?_
        refine qU (fun T_ k_ => r_iconst (pc := 42) (v := nI 0) dX2_readPart_42 rfl k_) ?_
        refine qU (fun T_ k_ => r_istore (pc := 43) (lo1 := [.ref 11, .int (nI dp), .int (nI s), .int (nI (b0 + i22)), .int (nI 0)]) dX2_readPart_43 rfl (by decide) rfl k_) ?_
        exact lp_neg X d I L tx n F rt sg ng b0 c0 l hl0 dp s u22 d22 (by omega) s 0 i22 J22 l22 (by omega) P22 (FR.trans F22 (Nat.le_refl _)) (⟨hl22, hi22, by omega, G22.2.2.2⟩ : GR J22 sg ng b0 (c0 + s) l i22 d22 l22)
    · refine qU (fun T_ k_ => r_iload_n (pc := 11) dX2_readPart_11 rfl k_) ?_
      refine qU (fun T_ k_ => r_bipush (pc := 12) dX2_readPart_12 bp_20 k_) ?_
      refine qP (fun T_ => r_icmpN_ge (pc := 14) (tgt := 36) dX2_readPart_14 (by decide) (by omega) (by omega)) (fun c4 => ?_) (fun c4 => ?_)
      · refine qU (fun T_ k_ => r_aload_n (pc := 36) dX2_readPart_36 rfl k_) ?_
        refine qU (fun T_ k_ => r_iload_n (pc := 37) dX2_readPart_37 rfl k_) ?_
        obtain ⟨T23, Q23, S23⟩ := s_readBarePart X d J L tx n F rt sg ng b0 t c l P dp inner hin
        cases R23 : rdBare (tkK tx n) (tkV tx n) F inner t c l
        · rename_i u23
          rw [R23] at Q23
          obtain ⟨J23, rfl, F23, C23⟩ := Q23
          dsimp only
          refine qU (fun T_ k_ => r_callV (pc := 38) (N := mX2_readBarePart) (rest := []) (S23) okX2_readBarePart lkX2_116 rfl (by decide) rfl rfl rfl (Nat.le_of_ble_eq_true rfl) ⟨Nat.le_refl _, Nat.le_refl _⟩ dX2_readPart_38 k_) ?_
          refine qU (fun T_ k_ => r_istore_n (pc := 41) (lo1 := [.ref 11, .int (nI dp), .int (nI s), .int (-1), .null]) dX2_readPart_41 rfl (by decide) rfl k_) ?_
          refine qU (fun T_ k_ => r_iconst (pc := 42) (v := nI 0) dX2_readPart_42 rfl k_) ?_
          refine qU (fun T_ k_ => r_istore (pc := 43) (lo1 := [.ref 11, .int (nI dp), .int (nI s), .int (-1), .int (nI 0)]) dX2_readPart_43 rfl (by decide) rfl k_) ?_
          refine qU (fun T_ k_ => r_iload (pc := 45) dX2_readPart_45 rfl k_) ?_
          refine qU (fun T_ k_ => r_iload_n (pc := 47) dX2_readPart_47 rfl k_) ?_
          refine qP (fun T_ => r_icmpN_ge (pc := 48) (tgt := 74) dX2_readPart_48 (by decide) (by omega) (by omega)) (fun c5 => ?_) (fun c5 => ?_)
          · refine qU (fun T_ k_ => r_iload_n (pc := 74) dX2_readPart_74 rfl k_) ?_
            exact ⟨_, ⟨_, rfl, FR.trans F23 (Nat.le_refl _), C23⟩, r_iret dX2_readPart_75 rfl rfl rfl⟩
          · refine qU (fun T_ k_ => r_iload_n (pc := 51) dX2_readPart_51 rfl k_) ?_
            refine qU (fun T_ k_ => r_iconst (pc := 52) (v := -1) dX2_readPart_52 rfl k_) ?_
            refine qP (fun T_ => r_icmp_eq (pc := 53) (tgt := 74) dX2_readPart_53 (by decide)) (fun c6 => ?_) (fun c6 => ?_)
            · refine qU (fun T_ k_ => r_iload_n (pc := 74) dX2_readPart_74 rfl k_) ?_
              exact ⟨_, ⟨_, rfl, FR.trans F23 (Nat.le_refl _), C23⟩, r_iret dX2_readPart_75 rfl rfl rfl⟩
            · exact absurd rfl c6
        · rename_i v23
          obtain ⟨i23, u23, d23, l23⟩ := v23
          rw [R23] at Q23
          obtain ⟨J23, rfl, F23, P23, G23⟩ := Q23
          have hl23 := G23.1
          have hi23 := G23.2.1
          have hg23 := G23.2.2.1
          have hb23 := P23.2.2.2.2.1.2.2.1
          have hc23 := P23.2.2.2.2.2.2.1
          have hd23 := P23.2.2.2.1
          have bd23 := tk_bd P23.1 u23
          dsimp only
          refine qU (fun T_ k_ => r_callV (pc := 38) (N := mX2_readBarePart) (rest := []) (S23) okX2_readBarePart lkX2_116 rfl (by decide) rfl rfl rfl (Nat.le_of_ble_eq_true rfl) ⟨Nat.le_refl _, Nat.le_refl _⟩ dX2_readPart_38 k_) ?_
          refine qU (fun T_ k_ => r_istore_n (pc := 41) (lo1 := [.ref 11, .int (nI dp), .int (nI s), .int (nI (b0 + i23)), .null]) dX2_readPart_41 rfl (by decide) rfl k_) ?_
          refine qU (fun T_ k_ => r_iconst (pc := 42) (v := nI 0) dX2_readPart_42 rfl k_) ?_
          refine qU (fun T_ k_ => r_istore (pc := 43) (lo1 := [.ref 11, .int (nI dp), .int (nI s), .int (nI (b0 + i23)), .int (nI 0)]) dX2_readPart_43 rfl (by decide) rfl k_) ?_
          exact lp_neg X d I L tx n F rt sg ng b0 c0 l hl0 dp s u23 d23 (by omega) s 0 i23 J23 l23 (by omega) P23 (FR.trans F23 (Nat.le_refl _)) (⟨hl23, hi23, by omega, G23.2.2.2⟩ : GR J23 sg ng b0 (c0 + s) l i23 d23 l23)
      · exact absurd c4 (by omega)
  | succ f ih =>
    intro s t c J hs hcs P FR
    have bd := tk_bd P.1 t
    unfold rdNeg
    by_cases hA : tkK tx n t = 1 ∧ tkV tx n t = 45
    · rw [if_pos hA]
      by_cases hc : 20 ≤ c
      · rw [if_pos hc]
        refine qU (fun T_ k_ => r_aload_n (pc := 2) dX2_readPart_2 rfl k_) ?_
        refine qU (fun T_ k_ => r_getV (pc := 3) (v := tokI (tkK tx n (t)) (tkV tx n (t))) dX2_readPart_3 fX2_43 rfl rfl (P.2.1.1) k_) ?_
        refine qU (fun T_ k_ => r_bipush (pc := 6) dX2_readPart_6 bp_45 k_) ?_
        refine qN (fun T_ => r_icmp_ne (pc := 8) (tgt := 36) dX2_readPart_8 (by decide)) (fun c1 => ?_) (fun c1 => ?_)
        · exact absurd ((tokI_ch bd.1 bd.2.1 (ch := 45) (by decide)).mpr hA) c1
        · refine qU (fun T_ k_ => r_iload_n (pc := 11) dX2_readPart_11 rfl k_) ?_
          refine qU (fun T_ k_ => r_bipush (pc := 12) dX2_readPart_12 bp_20 k_) ?_
          refine qP (fun T_ => r_icmpN_ge (pc := 14) (tgt := 36) dX2_readPart_14 (by decide) (by omega) (by omega)) (fun c2 => ?_) (fun c2 => ?_)
          · exact absurd c2 (by omega)
          · refine qU (fun T_ k_ => r_aload_n (pc := 17) dX2_readPart_17 rfl k_) ?_
            refine qU (fun T_ k_ => r_callV (pc := 18) (N := mX2_countNode) (rest := []) (s_countNode_f X _ J L (c) P.2.2.1 hc P.2.2.2.1) okX2_countNode lkX2_100 rfl (by decide) rfl rfl rfl (Nat.le_of_ble_eq_true rfl) ⟨Nat.le_refl _, Nat.le_refl _⟩ dX2_readPart_18 k_) ?_
            refine qN (fun T_ => r_ifN_ne (pc := 21) (tgt := 26) dX2_readPart_21 (by decide) (by omega)) (fun c3 => ?_) (fun c3 => ?_)
            · exact absurd c3 (by decide)
            · refine qU (fun T_ k_ => r_iconst (pc := 24) (v := -1) dX2_readPart_24 rfl k_) ?_
              exact ⟨_, ⟨_, rfl, FR, P.2.1⟩, r_iret dX2_readPart_25 rfl rfl rfl⟩
      · rw [if_neg hc]
        refine qU (fun T_ k_ => r_aload_n (pc := 2) dX2_readPart_2 rfl k_) ?_
        refine qU (fun T_ k_ => r_getV (pc := 3) (v := tokI (tkK tx n (t)) (tkV tx n (t))) dX2_readPart_3 fX2_43 rfl rfl (P.2.1.1) k_) ?_
        refine qU (fun T_ k_ => r_bipush (pc := 6) dX2_readPart_6 bp_45 k_) ?_
        refine qN (fun T_ => r_icmp_ne (pc := 8) (tgt := 36) dX2_readPart_8 (by decide)) (fun c1 => ?_) (fun c1 => ?_)
        · exact absurd ((tokI_ch bd.1 bd.2.1 (ch := 45) (by decide)).mpr hA) c1
        · refine qU (fun T_ k_ => r_iload_n (pc := 11) dX2_readPart_11 rfl k_) ?_
          refine qU (fun T_ k_ => r_bipush (pc := 12) dX2_readPart_12 bp_20 k_) ?_
          refine qP (fun T_ => r_icmpN_ge (pc := 14) (tgt := 36) dX2_readPart_14 (by decide) (by omega) (by omega)) (fun c2 => ?_) (fun c2 => ?_)
          · exact absurd c2 (by omega)
          · refine qU (fun T_ k_ => r_aload_n (pc := 17) dX2_readPart_17 rfl k_) ?_
            have P24 := P.counted hc
            refine qU (fun T_ k_ => r_callV (pc := 18) (N := mX2_countNode) (rest := []) (s_countNode_t X _ J L (c) P.2.2.1 hc) okX2_countNode lkX2_100 rfl (by decide) rfl rfl rfl (Nat.le_of_ble_eq_true rfl) ⟨Nat.le_refl _, Nat.le_refl _⟩ dX2_readPart_18 k_) ?_
            refine qN (fun T_ => r_ifN_ne (pc := 21) (tgt := 26) dX2_readPart_21 (by decide) (by omega)) (fun c3 => ?_) (fun c3 => ?_)
            · refine qU (fun T_ k_ => r_iinc (pc := 26) (v := nI (s + 1)) (lo1 := [.ref 11, .int (nI dp), .int (nI (s + 1)), .null, .null]) dX2_readPart_26 rfl rfl (ii1 _) (by decide) rfl k_) ?_
              refine qU (fun T_ k_ => r_aload_n (pc := 29) dX2_readPart_29 rfl k_) ?_
              obtain ⟨T25, ⟨J25, rfl, F25, C25⟩, S25⟩ := s_pass X (d + 2) (u2 J 11 8 (nI (c + 1))) L tx n (t + 1) P24.1 P24.2.1.2.2.1
              have P25 := P24.passed F25 C25
              refine qU (fun T_ k_ => r_callV (pc := 30) (N := mX2_pass) (rest := []) (S25) okX2_pass lkX2_40 rfl (by decide) rfl rfl rfl (Nat.le_of_ble_eq_true rfl) ⟨Nat.le_refl _, Nat.le_refl _⟩ dX2_readPart_30 k_) ?_
              refine qU (fun T_ k_ => r_goto (pc := 33) (tgt := 2) dX2_readPart_33 (by decide) k_) ?_
              exact ih (s + 1) (t + 1) (c + 1) _ (by omega) (by omega) P25 (((FR).nodes _).trans (FRr.ofp F25) (Nat.le_refl _))
            · exact absurd c3 (by decide)
    · rw [if_neg hA]
      unfold ptR
      dsimp only
      refine qU (fun T_ k_ => r_aload_n (pc := 2) dX2_readPart_2 rfl k_) ?_
      refine qU (fun T_ k_ => r_getV (pc := 3) (v := tokI (tkK tx n (t)) (tkV tx n (t))) dX2_readPart_3 fX2_43 rfl rfl (P.2.1.1) k_) ?_
      refine qU (fun T_ k_ => r_bipush (pc := 6) dX2_readPart_6 bp_45 k_) ?_
      refine qN (fun T_ => r_icmp_ne (pc := 8) (tgt := 36) dX2_readPart_8 (by decide)) (fun c1 => ?_) (fun c1 => ?_)
      · refine qU (fun T_ k_ => r_aload_n (pc := 36) dX2_readPart_36 rfl k_) ?_
        refine qU (fun T_ k_ => r_iload_n (pc := 37) dX2_readPart_37 rfl k_) ?_
        obtain ⟨T26, Q26, S26⟩ := s_readBarePart X d J L tx n F rt sg ng b0 t c l P dp inner hin
        cases R26 : rdBare (tkK tx n) (tkV tx n) F inner t c l
        · rename_i u26
          rw [R26] at Q26
          obtain ⟨J26, rfl, F26, C26⟩ := Q26
          dsimp only
          refine qU (fun T_ k_ => r_callV (pc := 38) (N := mX2_readBarePart) (rest := []) (S26) okX2_readBarePart lkX2_116 rfl (by decide) rfl rfl rfl (Nat.le_of_ble_eq_true rfl) ⟨Nat.le_refl _, Nat.le_refl _⟩ dX2_readPart_38 k_) ?_
          refine qU (fun T_ k_ => r_istore_n (pc := 41) (lo1 := [.ref 11, .int (nI dp), .int (nI s), .int (-1), .null]) dX2_readPart_41 rfl (by decide) rfl k_) ?_
          refine qU (fun T_ k_ => r_iconst (pc := 42) (v := nI 0) dX2_readPart_42 rfl k_) ?_
          refine qU (fun T_ k_ => r_istore (pc := 43) (lo1 := [.ref 11, .int (nI dp), .int (nI s), .int (-1), .int (nI 0)]) dX2_readPart_43 rfl (by decide) rfl k_) ?_
          refine qU (fun T_ k_ => r_iload (pc := 45) dX2_readPart_45 rfl k_) ?_
          refine qU (fun T_ k_ => r_iload_n (pc := 47) dX2_readPart_47 rfl k_) ?_
          refine qP (fun T_ => r_icmpN_ge (pc := 48) (tgt := 74) dX2_readPart_48 (by decide) (by omega) (by omega)) (fun c2 => ?_) (fun c2 => ?_)
          · refine qU (fun T_ k_ => r_iload_n (pc := 74) dX2_readPart_74 rfl k_) ?_
            exact ⟨_, ⟨_, rfl, FR.trans F26 (Nat.le_refl _), C26⟩, r_iret dX2_readPart_75 rfl rfl rfl⟩
          · refine qU (fun T_ k_ => r_iload_n (pc := 51) dX2_readPart_51 rfl k_) ?_
            refine qU (fun T_ k_ => r_iconst (pc := 52) (v := -1) dX2_readPart_52 rfl k_) ?_
            refine qP (fun T_ => r_icmp_eq (pc := 53) (tgt := 74) dX2_readPart_53 (by decide)) (fun c3 => ?_) (fun c3 => ?_)
            · refine qU (fun T_ k_ => r_iload_n (pc := 74) dX2_readPart_74 rfl k_) ?_
              exact ⟨_, ⟨_, rfl, FR.trans F26 (Nat.le_refl _), C26⟩, r_iret dX2_readPart_75 rfl rfl rfl⟩
            · exact absurd rfl c3
        · rename_i v26
          obtain ⟨i26, u26, d26, l26⟩ := v26
          rw [R26] at Q26
          obtain ⟨J26, rfl, F26, P26, G26⟩ := Q26
          have hl26 := G26.1
          have hi26 := G26.2.1
          have hg26 := G26.2.2.1
          have hb26 := P26.2.2.2.2.1.2.2.1
          have hc26 := P26.2.2.2.2.2.2.1
          have hd26 := P26.2.2.2.1
          have bd26 := tk_bd P26.1 u26
          dsimp only
          refine qU (fun T_ k_ => r_callV (pc := 38) (N := mX2_readBarePart) (rest := []) (S26) okX2_readBarePart lkX2_116 rfl (by decide) rfl rfl rfl (Nat.le_of_ble_eq_true rfl) ⟨Nat.le_refl _, Nat.le_refl _⟩ dX2_readPart_38 k_) ?_
          refine qU (fun T_ k_ => r_istore_n (pc := 41) (lo1 := [.ref 11, .int (nI dp), .int (nI s), .int (nI (b0 + i26)), .null]) dX2_readPart_41 rfl (by decide) rfl k_) ?_
          refine qU (fun T_ k_ => r_iconst (pc := 42) (v := nI 0) dX2_readPart_42 rfl k_) ?_
          refine qU (fun T_ k_ => r_istore (pc := 43) (lo1 := [.ref 11, .int (nI dp), .int (nI s), .int (nI (b0 + i26)), .int (nI 0)]) dX2_readPart_43 rfl (by decide) rfl k_) ?_
          exact lp_neg X d I L tx n F rt sg ng b0 c0 l hl0 dp s u26 d26 (by omega) s 0 i26 J26 l26 (by omega) P26 (FR.trans F26 (Nat.le_refl _)) (⟨hl26, hi26, by omega, G26.2.2.2⟩ : GR J26 sg ng b0 (c0 + s) l i26 d26 l26)
      · exact absurd ((tokI_ch bd.1 bd.2.1 (ch := 45) (by decide)).mp c1) hA
theorem s_readPart (X : Ctx) (d : Nat) (I : MI) (L : ML) (tx : Nat → Nat) (n F : Nat) (rt : Nat → Nat) (sg ng : Nat → Int32) (b0 t c : Nat) (l : List Q4) (h : PS I tx n F rt sg ng b0 t c l) (dp : Nat) (inner : Option (Nat → Nat → List Q4 → RD)) (hin : INO L tx n F rt sg ng b0 X d dp inner) : ∃ T, QR I L tx n F rt sg ng b0 c l (rdPart (tkK tx n) (tkV tx n) F inner t c l) T ∧ Sp X mX2_readPart (d + 5) (0, 0) [.ref 11, .int (nI dp)] shF I L T := by
  refine qU (fun T_ k_ => Sp.of okX2_readPart [.ref 11, .int (nI dp), .null, .null, .null] 3 rfl (Nat.le_of_ble_eq_true rfl) k_) ?_
  refine qU (fun T_ k_ => r_iconst (pc := 0) (v := nI 0) dX2_readPart_0 rfl k_) ?_
  refine qU (fun T_ k_ => r_istore_n (pc := 1) (lo1 := [.ref 11, .int (nI dp), .int (nI 0), .null, .null]) dX2_readPart_1 rfl (by decide) rfl k_) ?_
  exact lp_part X d I L tx n F rt sg ng b0 c l h.2.2.2.2.2.2.1 dp inner hin 20 0 t c I rfl rfl h (FRr.refl I _)
