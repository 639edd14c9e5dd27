theorem lp_prod (X : Ctx) (d : Nat) (I : MI) (L : ML) (tx : Nat → Nat) (n F : Nat) (rt : Nat → Nat) (sg ng : Nat → Int32) (b0 c0 : Nat) (l : List Q4) (dp : Nat) (inner : Option (Nat → Nat → List Q4 → RD)) (hin : INO L tx n F rt sg ng b0 X d dp inner) : ∀ (f m i t c : Nat) (J : MI) (k : List Q4), m + f = 20 → PS J tx n F rt sg ng b0 t c k → FRr I J (b0 + l.length) → GR J sg ng b0 c0 l i c k → ∃ T, QR I L tx n F rt sg ng b0 c0 l (rdProdL (tkK tx n) (tkV tx n) F inner f i t c k) T ∧ Ev X mX2_readProduct (d + 7) (0, 0) (0, 0) T 8 [.ref 11, .int (nI dp), .int (nI (b0 + i)), .int (nI m), .null] [] shF J L := by
  intro f
  induction f with
  | zero =>
    intro m i t c J k hm P FR G
    have hb8 := P.2.2.2.2.1.2.2.1
    have hc20 := P.2.2.2.1
    have hk1 := G.1
    have hk2 := G.2.1
    have hk3 := G.2.2.1
    have hk4 := P.2.2.2.2.2.2.1
    have bd := tk_bd P.1 t
    unfold rdProdL
    refine qU (fun T_ k_ => r_iload_n (pc := 8) dX2_readProduct_8 rfl k_) ?_
    refine qU (fun T_ k_ => r_bipush (pc := 9) dX2_readProduct_9 bp_20 k_) ?_
    refine qP (fun T_ => r_icmpN_ge (pc := 11) (tgt := 76) dX2_readProduct_11 (by decide) (by omega) (by omega)) (fun c1 => ?_) (fun c1 => ?_)
    · refine qU (fun T_ k_ => r_iload_n (pc := 76) dX2_readProduct_76 rfl k_) ?_
      exact ⟨_, ⟨_, rfl, FR, P, G⟩, r_iret dX2_readProduct_77 rfl rfl rfl⟩
    · exact absurd c1 (by omega)
  | succ f ih =>
    intro m i t c J k hm P FR G
    have hb8 := P.2.2.2.2.1.2.2.1
    have hc20 := P.2.2.2.1
    have hk1 := G.1
    have hk2 := G.2.1
    have hk3 := G.2.2.1
    have hk4 := P.2.2.2.2.2.2.1
    have bd := tk_bd P.1 t
    unfold rdProdL
    by_cases hA : tkK tx n t = 1 ∧ tkV tx n t = 42
    · rw [if_pos hA]
      have hT := hA
      refine qU (fun T_ k_ => r_iload_n (pc := 8) dX2_readProduct_8 rfl k_) ?_
      refine qU (fun T_ k_ => r_bipush (pc := 9) dX2_readProduct_9 bp_20 k_) ?_
      refine qP (fun T_ => r_icmpN_ge (pc := 11) (tgt := 76) dX2_readProduct_11 (by decide) (by omega) (by omega)) (fun c1 => ?_) (fun c1 => ?_)
      · exact absurd c1 (by omega)
      · refine qU (fun T_ k_ => r_iload_n (pc := 14) dX2_readProduct_14 rfl k_) ?_
        refine qU (fun T_ k_ => r_iconst (pc := 15) (v := -1) dX2_readProduct_15 rfl k_) ?_
        refine qP (fun T_ => r_icmp_eq (pc := 16) (tgt := 76) dX2_readProduct_16 (by decide)) (fun c2 => ?_) (fun c2 => ?_)
        · exact absurd c2 (nI_nm1 (by omega))
        · refine qU (fun T_ k_ => r_aload_n (pc := 19) dX2_readProduct_19 rfl k_) ?_
          refine qU (fun T_ k_ => r_getV (pc := 20) (v := nI 42) dX2_readProduct_20 fX2_43 rfl rfl (P.2.1.1.trans ((tokI_ch bd.1 bd.2.1 (ch := 42) (by decide)).mpr hT)) k_) ?_
          refine qU (fun T_ k_ => r_bipush (pc := 23) dX2_readProduct_23 bp_42 k_) ?_
          refine qN (fun T_ => r_icmpN_ne (pc := 25) (tgt := 76) dX2_readProduct_25 (by decide) (by omega) (by omega)) (fun c3 => ?_) (fun c3 => ?_)
          · exact absurd c3 (by decide)
          · refine qU (fun T_ k_ => r_aload_n (pc := 28) dX2_readProduct_28 rfl k_) ?_
            by_cases hc32 : 20 ≤ c
            · rw [if_pos hc32]
              refine qU (fun T_ k_ => r_callV (pc := 29) (N := mX2_countNode) (rest := []) (s_countNode_f X _ J L (c) P.2.2.1 hc32 P.2.2.2.1) okX2_countNode lkX2_100 rfl (by decide) rfl rfl rfl (Nat.le_of_ble_eq_true rfl) ⟨Nat.le_refl _, Nat.le_refl _⟩ dX2_readProduct_29 k_) ?_
              refine qN (fun T_ => r_ifN_ne (pc := 32) (tgt := 37) dX2_readProduct_32 (by decide) (by omega)) (fun c4 => ?_) (fun c4 => ?_)
              · exact absurd c4 (by decide)
              · refine qU (fun T_ k_ => r_iconst (pc := 35) (v := -1) dX2_readProduct_35 rfl k_) ?_
                exact ⟨_, ⟨_, rfl, FR, P.2.1⟩, r_iret dX2_readProduct_36 rfl rfl rfl⟩
            · rw [if_neg hc32]
              have P32 := P.counted hc32
              refine qU (fun T_ k_ => r_callV (pc := 29) (N := mX2_countNode) (rest := []) (s_countNode_t X _ J L (c) P.2.2.1 hc32) okX2_countNode lkX2_100 rfl (by decide) rfl rfl rfl (Nat.le_of_ble_eq_true rfl) ⟨Nat.le_refl _, Nat.le_refl _⟩ dX2_readProduct_29 k_) ?_
              refine qN (fun T_ => r_ifN_ne (pc := 32) (tgt := 37) dX2_readProduct_32 (by decide) (by omega)) (fun c5 => ?_) (fun c5 => ?_)
              · refine qU (fun T_ k_ => r_aload_n (pc := 37) dX2_readProduct_37 rfl k_) ?_
                obtain ⟨T33, ⟨J33, rfl, F33, C33⟩, S33⟩ := s_pass X (d + 4) (u2 J 11 8 (nI (c + 1))) L tx n (t + 1) P32.1 P32.2.1.2.2.1
                have P33 := P32.passed F33 C33
                refine qU (fun T_ k_ => r_callV (pc := 38) (N := mX2_pass) (rest := []) (S33) okX2_pass lkX2_40 rfl (by decide) rfl rfl rfl (Nat.le_of_ble_eq_true rfl) ⟨Nat.le_refl _, Nat.le_refl _⟩ dX2_readProduct_38 k_) ?_
                refine qU (fun T_ k_ => r_aload_n (pc := 41) dX2_readProduct_41 rfl k_) ?_
                refine qU (fun T_ k_ => r_iload_n (pc := 42) dX2_readProduct_42 rfl k_) ?_
                obtain ⟨T34, Q34, S34⟩ := s_readPower X d J33 L tx n F rt sg ng b0 (t + 1) (c + 1) k P33 dp inner hin
                cases R34 : rdPower (tkK tx n) (tkV tx n) F inner (t + 1) (c + 1) k
                · rename_i u34
                  rw [R34] at Q34
                  obtain ⟨J34, rfl, F34, C34⟩ := Q34
                  dsimp only
                  refine qU (fun T_ k_ => r_callV (pc := 43) (N := mX2_readPower) (rest := []) (S34) okX2_readPower lkX2_107 rfl (by decide) rfl rfl rfl (Nat.le_of_ble_eq_true rfl) ⟨Nat.le_refl _, Nat.le_refl _⟩ dX2_readProduct_43 k_) ?_
                  refine qU (fun T_ k_ => r_istore (pc := 46) (lo1 := [.ref 11, .int (nI dp), .int (nI (b0 + i)), .int (nI m), .int (-1)]) dX2_readProduct_46 rfl (by decide) rfl k_) ?_
                  refine qU (fun T_ k_ => r_iload (pc := 48) dX2_readProduct_48 rfl k_) ?_
                  refine qU (fun T_ k_ => r_iconst (pc := 50) (v := -1) dX2_readProduct_50 rfl k_) ?_
                  refine qN (fun T_ => r_icmp_ne (pc := 51) (tgt := 58) dX2_readProduct_51 (by decide)) (fun c6 => ?_) (fun c6 => ?_)
                  · exact absurd rfl c6
                  · refine qU (fun T_ k_ => r_iconst (pc := 54) (v := -1) dX2_readProduct_54 rfl k_) ?_
                    refine qU (fun T_ k_ => r_goto (pc := 55) (tgt := 69) dX2_readProduct_55 (by decide) k_) ?_
                    refine qU (fun T_ k_ => r_istore_n (pc := 69) (lo1 := [.ref 11, .int (nI dp), .int (-1), .int (nI m), .int (-1)]) dX2_readProduct_69 rfl (by decide) rfl k_) ?_
                    refine qU (fun T_ k_ => r_iinc (pc := 70) (v := nI (m + 1)) (lo1 := [.ref 11, .int (nI dp), .int (-1), .int (nI (m + 1)), .int (-1)]) dX2_readProduct_70 rfl rfl (ii1 _) (by decide) rfl k_) ?_
                    refine qU (fun T_ k_ => r_goto (pc := 73) (tgt := 8) dX2_readProduct_73 (by decide) k_) ?_
                    refine qU (fun T_ k_ => r_iload_n (pc := 8) dX2_readProduct_8 rfl k_) ?_
                    refine qU (fun T_ k_ => r_bipush (pc := 9) dX2_readProduct_9 bp_20 k_) ?_
                    refine qP (fun T_ => r_icmpN_ge (pc := 11) (tgt := 76) dX2_readProduct_11 (by decide) (by omega) (by omega)) (fun c7 => ?_) (fun c7 => ?_)
                    · refine qU (fun T_ k_ => r_iload_n (pc := 76) dX2_readProduct_76 rfl k_) ?_
                      exact ⟨_, ⟨_, rfl, FR.trans ((((FRr.refl J (b0 + k.length)).nodes _).trans (FRr.ofp F33) (Nat.le_refl _)).trans F34 (by omega)) (by omega), C34⟩, r_iret dX2_readProduct_77 rfl rfl rfl⟩
                    · refine qU (fun T_ k_ => r_iload_n (pc := 14) dX2_readProduct_14 rfl k_) ?_
                      refine qU (fun T_ k_ => r_iconst (pc := 15) (v := -1) dX2_readProduct_15 rfl k_) ?_
                      refine qP (fun T_ => r_icmp_eq (pc := 16) (tgt := 76) dX2_readProduct_16 (by decide)) (fun c8 => ?_) (fun c8 => ?_)
                      · refine qU (fun T_ k_ => r_iload_n (pc := 76) dX2_readProduct_76 rfl k_) ?_
                        exact ⟨_, ⟨_, rfl, FR.trans ((((FRr.refl J (b0 + k.length)).nodes _).trans (FRr.ofp F33) (Nat.le_refl _)).trans F34 (by omega)) (by omega), C34⟩, r_iret dX2_readProduct_77 rfl rfl rfl⟩
                      · exact absurd rfl c8
                · rename_i v34
                  obtain ⟨i34, u34, d34, l34⟩ := v34
                  rw [R34] at Q34
                  obtain ⟨J34, rfl, F34, P34, G34⟩ := Q34
                  have hl34 := G34.1
                  have hi34 := G34.2.1
                  have hg34 := G34.2.2.1
                  have hb34 := P34.2.2.2.2.1.2.2.1
                  have hc34 := P34.2.2.2.2.2.2.1
                  have hd34 := P34.2.2.2.1
                  have bd34 := tk_bd P34.1 u34
                  dsimp only
                  refine qU (fun T_ k_ => r_callV (pc := 43) (N := mX2_readPower) (rest := []) (S34) okX2_readPower lkX2_107 rfl (by decide) rfl rfl rfl (Nat.le_of_ble_eq_true rfl) ⟨Nat.le_refl _, Nat.le_refl _⟩ dX2_readProduct_43 k_) ?_
                  refine qU (fun T_ k_ => r_istore (pc := 46) (lo1 := [.ref 11, .int (nI dp), .int (nI (b0 + i)), .int (nI m), .int (nI (b0 + i34))]) dX2_readProduct_46 rfl (by decide) rfl k_) ?_
                  refine qU (fun T_ k_ => r_iload (pc := 48) dX2_readProduct_48 rfl k_) ?_
                  refine qU (fun T_ k_ => r_iconst (pc := 50) (v := -1) dX2_readProduct_50 rfl k_) ?_
                  refine qN (fun T_ => r_icmp_ne (pc := 51) (tgt := 58) dX2_readProduct_51 (by decide)) (fun c9 => ?_) (fun c9 => ?_)
                  · refine qU (fun T_ k_ => r_aload_n (pc := 58) dX2_readProduct_58 rfl k_) ?_
                    refine qU (fun T_ k_ => r_getR (pc := 59) (b := 15) dX2_readProduct_59 fX2_21 rfl rfl k_) ?_
                    refine qU (fun T_ k_ => r_iconst (pc := 62) (v := nI 5) dX2_readProduct_62 rfl k_) ?_
                    refine qU (fun T_ k_ => r_iload_n (pc := 63) dX2_readProduct_63 rfl k_) ?_
                    refine qU (fun T_ k_ => r_iload (pc := 64) dX2_readProduct_64 rfl k_) ?_
                    have P35 : PS (addN J34 (b0 + l34.length) (nI 5) (nI (b0 + i)) (nI (b0 + i34)) (nI 1 + J34 19 (b0 + i) + J34 19 (b0 + i34)) (J34 20 (b0 + i) ||| J34 20 (b0 + i34))) tx n F rt sg ng b0 u34 d34 (l34 ++ [((42, 0, i, i34) : Q4)]) := P34.made ((42, 0, i, i34) : Q4) (by omega) (Or.inr (Or.inr (Or.inr (Or.inr (Or.inr ⟨Or.inl rfl, by show i < l34.length; omega, by show i34 < l34.length; omega⟩))))) rfl rfl rfl
                    have G35 : GR (addN J34 (b0 + l34.length) (nI 5) (nI (b0 + i)) (nI (b0 + i34)) (nI 1 + J34 19 (b0 + i) + J34 19 (b0 + i34)) (J34 20 (b0 + i) ||| J34 20 (b0 + i34))) sg ng b0 c0 l l34.length d34 (l34 ++ [((42, 0, i, i34) : Q4)]) := GR.bin ((42, 0, i, i34) : Q4) G ((((FRr.refl J (b0 + k.length)).nodes _).trans (FRr.ofp F33) (Nat.le_refl _)).trans F34 (by omega)) G34 (Or.inl rfl) rfl rfl rfl
                    refine qU (fun T_ k_ => r_callV (pc := 66) (N := mX4_addBoth) (rest := []) (s_addBoth X _ J34 L (b0 + l34.length) (b0 + i) (b0 + i34) (nI 5) P34.2.2.2.2.2.1 (by omega) (by omega) (by omega)) okX4_addBoth lkX2_103 rfl (by decide) rfl rfl rfl (Nat.le_of_ble_eq_true rfl) ⟨Nat.le_refl _, Nat.le_refl _⟩ dX2_readProduct_66 k_) ?_
                    refine qU (fun T_ k_ => r_istore_n (pc := 69) (lo1 := [.ref 11, .int (nI dp), .int (nI (b0 + l34.length)), .int (nI m), .int (nI (b0 + i34))]) dX2_readProduct_69 rfl (by decide) rfl k_) ?_
                    refine qU (fun T_ k_ => r_iinc (pc := 70) (v := nI (m + 1)) (lo1 := [.ref 11, .int (nI dp), .int (nI (b0 + l34.length)), .int (nI (m + 1)), .int (nI (b0 + i34))]) dX2_readProduct_70 rfl rfl (ii1 _) (by decide) rfl k_) ?_
                    refine qU (fun T_ k_ => r_goto (pc := 73) (tgt := 8) dX2_readProduct_73 (by decide) k_) ?_
                    refine qU (fun T_ k_ => r_drop (lo1 := [.ref 11, .int (nI dp), .int (nI (b0 + l34.length)), .int (nI (m + 1)), .null]) 4 rfl k_) ?_
                    exact ih (m + 1) l34.length u34 d34 _ _ (by omega) P35 (FR.trans (((((FRr.refl J (b0 + k.length)).nodes _).trans (FRr.ofp F33) (Nat.le_refl _)).trans F34 (by omega)).addN (by omega)) (by omega)) G35
                  · exact absurd c9 (nI_nm1 (by omega))
              · exact absurd c5 (by decide)
    · rw [if_neg hA]
      refine qU (fun T_ k_ => r_iload_n (pc := 8) dX2_readProduct_8 rfl k_) ?_
      refine qU (fun T_ k_ => r_bipush (pc := 9) dX2_readProduct_9 bp_20 k_) ?_
      refine qP (fun T_ => r_icmpN_ge (pc := 11) (tgt := 76) dX2_readProduct_11 (by decide) (by omega) (by omega)) (fun c1 => ?_) (fun c1 => ?_)
      · exact absurd c1 (by omega)
      · refine qU (fun T_ k_ => r_iload_n (pc := 14) dX2_readProduct_14 rfl k_) ?_
        refine qU (fun T_ k_ => r_iconst (pc := 15) (v := -1) dX2_readProduct_15 rfl k_) ?_
        refine qP (fun T_ => r_icmp_eq (pc := 16) (tgt := 76) dX2_readProduct_16 (by decide)) (fun c2 => ?_) (fun c2 => ?_)
        · exact absurd c2 (nI_nm1 (by omega))
        · refine qU (fun T_ k_ => r_aload_n (pc := 19) dX2_readProduct_19 rfl k_) ?_
          refine qU (fun T_ k_ => r_getV (pc := 20) (v := tokI (tkK tx n (t)) (tkV tx n (t))) dX2_readProduct_20 fX2_43 rfl rfl (P.2.1.1) k_) ?_
          refine qU (fun T_ k_ => r_bipush (pc := 23) dX2_readProduct_23 bp_42 k_) ?_
          refine qN (fun T_ => r_icmp_ne (pc := 25) (tgt := 76) dX2_readProduct_25 (by decide)) (fun c3 => ?_) (fun c3 => ?_)
          · refine qU (fun T_ k_ => r_iload_n (pc := 76) dX2_readProduct_76 rfl k_) ?_
            exact ⟨_, ⟨_, rfl, FR, P, G⟩, r_iret dX2_readProduct_77 rfl rfl rfl⟩
          · exact absurd ((tokI_ch bd.1 bd.2.1 (ch := 42) (by decide)).mp c3) hA
theorem s_readProduct (X : Ctx) (d : Nat) (I : MI) (L : ML) (tx : Nat → Nat) (n F : Nat) (rt : Nat → Nat) (sg ng : Nat → Int32) (b0 t c : Nat) (l : List Q4) (h : PS I tx n F rt sg ng b0 t c l) (dp : Nat) (inner : Option (Nat → Nat → List Q4 → RD)) (hin : INO L tx n F rt sg ng b0 X d dp inner) : ∃ T, QR I L tx n F rt sg ng b0 c l (rdProd (tkK tx n) (tkV tx n) F inner t c l) T ∧ Sp X mX2_readProduct (d + 7) (0, 0) [.ref 11, .int (nI dp)] shF I L T := by
  refine qU (fun T_ k_ => Sp.of okX2_readProduct [.ref 11, .int (nI dp), .null, .null, .null] 3 rfl (Nat.le_of_ble_eq_true rfl) k_) ?_
  unfold rdProd
  refine qU (fun T_ k_ => r_aload_n (pc := 0) dX2_readProduct_0 rfl k_) ?_
  refine qU (fun T_ k_ => r_iload_n (pc := 1) dX2_readProduct_1 rfl k_) ?_
  obtain ⟨T36, Q36, S36⟩ := s_readPower X d I L tx n F rt sg ng b0 t c l h dp inner hin
  cases R36 : rdPower (tkK tx n) (tkV tx n) F inner t c l
  · rename_i u36
    rw [R36] at Q36
    obtain ⟨J36, rfl, F36, C36⟩ := Q36
    dsimp only
    refine qU (fun T_ k_ => r_callV (pc := 2) (N := mX2_readPower) (rest := []) (S36) okX2_readPower lkX2_107 rfl (by decide) rfl rfl rfl (Nat.le_of_ble_eq_true rfl) ⟨Nat.le_refl _, Nat.le_refl _⟩ dX2_readProduct_2 k_) ?_
    refine qU (fun T_ k_ => r_istore_n (pc := 5) (lo1 := [.ref 11, .int (nI dp), .int (-1), .null, .null]) dX2_readProduct_5 rfl (by decide) rfl k_) ?_
    refine qU (fun T_ k_ => r_iconst (pc := 6) (v := nI 0) dX2_readProduct_6 rfl k_) ?_
    refine qU (fun T_ k_ => r_istore_n (pc := 7) (lo1 := [.ref 11, .int (nI dp), .int (-1), .int (nI 0), .null]) dX2_readProduct_7 rfl (by decide) rfl k_) ?_
    refine qU (fun T_ k_ => r_iload_n (pc := 8) dX2_readProduct_8 rfl k_) ?_
    refine qU (fun T_ k_ => r_bipush (pc := 9) dX2_readProduct_9 bp_20 k_) ?_
    refine qP (fun T_ => r_icmpN_ge (pc := 11) (tgt := 76) dX2_readProduct_11 (by decide) (by omega) (by omega)) (fun c1 => ?_) (fun c1 => ?_)
    · exact absurd c1 (by decide)
    · refine qU (fun T_ k_ => r_iload_n (pc := 14) dX2_readProduct_14 rfl k_) ?_
      refine qU (fun T_ k_ => r_iconst (pc := 15) (v := -1) dX2_readProduct_15 rfl k_) ?_
      refine qP (fun T_ => r_icmp_eq (pc := 16) (tgt := 76) dX2_readProduct_16 (by decide)) (fun c2 => ?_) (fun c2 => ?_)
      · refine qU (fun T_ k_ => r_iload_n (pc := 76) dX2_readProduct_76 rfl k_) ?_
        exact ⟨_, ⟨_, rfl, (FRr.refl I (b0 + l.length)).trans F36 (by omega), C36⟩, r_iret dX2_readProduct_77 rfl rfl rfl⟩
      · exact absurd rfl c2
  · rename_i v36
    obtain ⟨i36, u36, d36, l36⟩ := v36
    rw [R36] at Q36
    obtain ⟨J36, rfl, F36, P36, G36⟩ := Q36
    have hl36 := G36.1
    have hi36 := G36.2.1
    have hg36 := G36.2.2.1
    have hb36 := P36.2.2.2.2.1.2.2.1
    have hc36 := P36.2.2.2.2.2.2.1
    have hd36 := P36.2.2.2.1
    have bd36 := tk_bd P36.1 u36
    dsimp only
    refine qU (fun T_ k_ => r_callV (pc := 2) (N := mX2_readPower) (rest := []) (S36) okX2_readPower lkX2_107 rfl (by decide) rfl rfl rfl (Nat.le_of_ble_eq_true rfl) ⟨Nat.le_refl _, Nat.le_refl _⟩ dX2_readProduct_2 k_) ?_
    refine qU (fun T_ k_ => r_istore_n (pc := 5) (lo1 := [.ref 11, .int (nI dp), .int (nI (b0 + i36)), .null, .null]) dX2_readProduct_5 rfl (by decide) rfl k_) ?_
    refine qU (fun T_ k_ => r_iconst (pc := 6) (v := nI 0) dX2_readProduct_6 rfl k_) ?_
    refine qU (fun T_ k_ => r_istore_n (pc := 7) (lo1 := [.ref 11, .int (nI dp), .int (nI (b0 + i36)), .int (nI 0), .null]) dX2_readProduct_7 rfl (by decide) rfl k_) ?_
    exact lp_prod X d I L tx n F rt sg ng b0 c l dp inner hin 20 0 i36 u36 d36 J36 l36 rfl P36 ((FRr.refl I (b0 + l.length)).trans F36 (by omega)) G36
theorem lp_sum (X : Ctx) (d : Nat) (I : MI) (L : ML) (tx : Nat → Nat) (n F : Nat) (rt : Nat → Nat) (sg ng : Nat → Int32) (b0 c0 : Nat) (l : List Q4) (dp : Nat) (inner : Option (Nat → Nat → List Q4 → RD)) (hin : INO L tx n F rt sg ng b0 X d dp inner) : ∀ (f m i t c : Nat) (J : MI) (k : List Q4), m + f = 20 → PS J tx n F rt sg ng b0 t c k → FRr I J (b0 + l.length) → GR J sg ng b0 c0 l i c k → ∃ T, QR I L tx n F rt sg ng b0 c0 l (rdSumL (tkK tx n) (tkV tx n) F inner f i t c k) T ∧ Ev X mX2_readSum (d + 8) (0, 0) (0, 0) T 8 [.ref 11, .int (nI dp), .int (nI (b0 + i)), .int (nI m), .null, .null] [] shF J L := by
  intro f
  induction f with
  | zero =>
    intro m i t c J k hm P FR G
    have hb8 := P.2.2.2.2.1.2.2.1
    have hc20 := P.2.2.2.1
    have hk1 := G.1
    have hk2 := G.2.1
    have hk3 := G.2.2.1
    have hk4 := P.2.2.2.2.2.2.1
    have bd := tk_bd P.1 t
    unfold rdSumL
    refine qU (fun T_ k_ => r_iload_n (pc := 8) dX2_readSum_8 rfl k_) ?_
    refine qU (fun T_ k_ => r_bipush (pc := 9) dX2_readSum_9 bp_20 k_) ?_
    refine qP (fun T_ => r_icmpN_ge (pc := 11) (tgt := 102) dX2_readSum_11 (by decide) (by omega) (by omega)) (fun c1 => ?_) (fun c1 => ?_)
    · refine qU (fun T_ k_ => r_iload_n (pc := 102) dX2_readSum_102 rfl k_) ?_
      exact ⟨_, ⟨_, rfl, FR, P, G⟩, r_iret dX2_readSum_103 rfl rfl rfl⟩
    · exact absurd c1 (by omega)
  | succ f ih =>
    intro m i t c J k hm P FR G
    have hb8 := P.2.2.2.2.1.2.2.1
    have hc20 := P.2.2.2.1
    have hk1 := G.1
    have hk2 := G.2.1
    have hk3 := G.2.2.1
    have hk4 := P.2.2.2.2.2.2.1
    have bd := tk_bd P.1 t
    unfold rdSumL
    by_cases hA : tkK tx n t = 1 ∧ (tkV tx n t = 43 ∨ tkV tx n t = 45)
    · rw [if_pos hA]
      rcases hA.2 with hV | hV
      · have hT : tkK tx n t = 1 ∧ tkV tx n t = 43 := ⟨hA.1, hV⟩
        rw [hV]
        refine qU (fun T_ k_ => r_iload_n (pc := 8) dX2_readSum_8 rfl k_) ?_
        refine qU (fun T_ k_ => r_bipush (pc := 9) dX2_readSum_9 bp_20 k_) ?_
        refine qP (fun T_ => r_icmpN_ge (pc := 11) (tgt := 102) dX2_readSum_11 (by decide) (by omega) (by omega)) (fun c1 => ?_) (fun c1 => ?_)
        · exact absurd c1 (by omega)
        · refine qU (fun T_ k_ => r_iload_n (pc := 14) dX2_readSum_14 rfl k_) ?_
          refine qU (fun T_ k_ => r_iconst (pc := 15) (v := -1) dX2_readSum_15 rfl k_) ?_
          refine qP (fun T_ => r_icmp_eq (pc := 16) (tgt := 102) dX2_readSum_16 (by decide)) (fun c2 => ?_) (fun c2 => ?_)
          · exact absurd c2 (nI_nm1 (by omega))
          · refine qU (fun T_ k_ => r_aload_n (pc := 19) dX2_readSum_19 rfl k_) ?_
            refine qU (fun T_ k_ => r_getV (pc := 20) (v := nI 43) dX2_readSum_20 fX2_43 rfl rfl (P.2.1.1.trans ((tokI_ch bd.1 bd.2.1 (ch := 43) (by decide)).mpr hT)) k_) ?_
            refine qU (fun T_ k_ => r_bipush (pc := 23) dX2_readSum_23 bp_43 k_) ?_
            refine qP (fun T_ => r_icmpN_eq (pc := 25) (tgt := 37) dX2_readSum_25 (by decide) (by omega) (by omega)) (fun c3 => ?_) (fun c3 => ?_)
            · refine qU (fun T_ k_ => r_aload_n (pc := 37) dX2_readSum_37 rfl k_) ?_
              refine qU (fun T_ k_ => r_getV (pc := 38) (v := nI 43) dX2_readSum_38 fX2_43 rfl rfl (P.2.1.1.trans ((tokI_ch bd.1 bd.2.1 (ch := 43) (by decide)).mpr hT)) k_) ?_
              refine qU (fun T_ k_ => r_bipush (pc := 41) dX2_readSum_41 bp_43 k_) ?_
              refine qN (fun T_ => r_icmpN_ne (pc := 43) (tgt := 50) dX2_readSum_43 (by decide) (by omega) (by omega)) (fun c4 => ?_) (fun c4 => ?_)
              · exact absurd c4 (by decide)
              · refine qU (fun T_ k_ => r_iconst (pc := 46) (v := nI 3) dX2_readSum_46 rfl k_) ?_
                refine qU (fun T_ k_ => r_goto (pc := 47) (tgt := 51) dX2_readSum_47 (by decide) k_) ?_
                refine qU (fun T_ k_ => r_istore (pc := 51) (lo1 := [.ref 11, .int (nI dp), .int (nI (b0 + i)), .int (nI m), .int (nI 3), .null]) dX2_readSum_51 rfl (by decide) rfl k_) ?_
                refine qU (fun T_ k_ => r_aload_n (pc := 53) dX2_readSum_53 rfl k_) ?_
                by_cases hc37 : 20 ≤ c
                · rw [if_pos hc37]
                  refine qU (fun T_ k_ => r_callV (pc := 54) (N := mX2_countNode) (rest := []) (s_countNode_f X _ J L (c) P.2.2.1 hc37 P.2.2.2.1) okX2_countNode lkX2_100 rfl (by decide) rfl rfl rfl (Nat.le_of_ble_eq_true rfl) ⟨Nat.le_refl _, Nat.le_refl _⟩ dX2_readSum_54 k_) ?_
                  refine qN (fun T_ => r_ifN_ne (pc := 57) (tgt := 62) dX2_readSum_57 (by decide) (by omega)) (fun c5 => ?_) (fun c5 => ?_)
                  · exact absurd c5 (by decide)
                  · refine qU (fun T_ k_ => r_iconst (pc := 60) (v := -1) dX2_readSum_60 rfl k_) ?_
                    exact ⟨_, ⟨_, rfl, FR, P.2.1⟩, r_iret dX2_readSum_61 rfl rfl rfl⟩
                · rw [if_neg hc37]
                  have P37 := P.counted hc37
                  refine qU (fun T_ k_ => r_callV (pc := 54) (N := mX2_countNode) (rest := []) (s_countNode_t X _ J L (c) P.2.2.1 hc37) okX2_countNode lkX2_100 rfl (by decide) rfl rfl rfl (Nat.le_of_ble_eq_true rfl) ⟨Nat.le_refl _, Nat.le_refl _⟩ dX2_readSum_54 k_) ?_
                  refine qN (fun T_ => r_ifN_ne (pc := 57) (tgt := 62) dX2_readSum_57 (by decide) (by omega)) (fun c6 => ?_) (fun c6 => ?_)
                  · refine qU (fun T_ k_ => r_aload_n (pc := 62) dX2_readSum_62 rfl k_) ?_
                    obtain ⟨T38, ⟨J38, rfl, F38, C38⟩, S38⟩ := s_pass X (d + 5) (u2 J 11 8 (nI (c + 1))) L tx n (t + 1) P37.1 P37.2.1.2.2.1
                    have P38 := P37.passed F38 C38
                    refine qU (fun T_ k_ => r_callV (pc := 63) (N := mX2_pass) (rest := []) (S38) okX2_pass lkX2_40 rfl (by decide) rfl rfl rfl (Nat.le_of_ble_eq_true rfl) ⟨Nat.le_refl _, Nat.le_refl _⟩ dX2_readSum_63 k_) ?_
                    refine qU (fun T_ k_ => r_aload_n (pc := 66) dX2_readSum_66 rfl k_) ?_
                    refine qU (fun T_ k_ => r_iload_n (pc := 67) dX2_readSum_67 rfl k_) ?_
                    obtain ⟨T39, Q39, S39⟩ := s_readProduct X d J38 L tx n F rt sg ng b0 (t + 1) (c + 1) k P38 dp inner hin
                    cases R39 : rdProd (tkK tx n) (tkV tx n) F inner (t + 1) (c + 1) k
                    · rename_i u39
                      rw [R39] at Q39
                      obtain ⟨J39, rfl, F39, C39⟩ := Q39
                      dsimp only
                      refine qU (fun T_ k_ => r_callV (pc := 68) (N := mX2_readProduct) (rest := []) (S39) okX2_readProduct lkX2_97 rfl (by decide) rfl rfl rfl (Nat.le_of_ble_eq_true rfl) ⟨Nat.le_refl _, Nat.le_refl _⟩ dX2_readSum_68 k_) ?_
                      refine qU (fun T_ k_ => r_istore (pc := 71) (lo1 := [.ref 11, .int (nI dp), .int (nI (b0 + i)), .int (nI m), .int (nI 3), .int (-1)]) dX2_readSum_71 rfl (by decide) rfl k_) ?_
                      refine qU (fun T_ k_ => r_iload (pc := 73) dX2_readSum_73 rfl k_) ?_
                      refine qU (fun T_ k_ => r_iconst (pc := 75) (v := -1) dX2_readSum_75 rfl k_) ?_
                      refine qN (fun T_ => r_icmp_ne (pc := 76) (tgt := 83) dX2_readSum_76 (by decide)) (fun c7 => ?_) (fun c7 => ?_)
                      · exact absurd rfl c7
                      · refine qU (fun T_ k_ => r_iconst (pc := 79) (v := -1) dX2_readSum_79 rfl k_) ?_
                        refine qU (fun T_ k_ => r_goto (pc := 80) (tgt := 95) dX2_readSum_80 (by decide) k_) ?_
                        refine qU (fun T_ k_ => r_istore_n (pc := 95) (lo1 := [.ref 11, .int (nI dp), .int (-1), .int (nI m), .int (nI 3), .int (-1)]) dX2_readSum_95 rfl (by decide) rfl k_) ?_
                        refine qU (fun T_ k_ => r_iinc (pc := 96) (v := nI (m + 1)) (lo1 := [.ref 11, .int (nI dp), .int (-1), .int (nI (m + 1)), .int (nI 3), .int (-1)]) dX2_readSum_96 rfl rfl (ii1 _) (by decide) rfl k_) ?_
                        refine qU (fun T_ k_ => r_goto (pc := 99) (tgt := 8) dX2_readSum_99 (by decide) k_) ?_
                        refine qU (fun T_ k_ => r_iload_n (pc := 8) dX2_readSum_8 rfl k_) ?_
                        refine qU (fun T_ k_ => r_bipush (pc := 9) dX2_readSum_9 bp_20 k_) ?_
                        refine qP (fun T_ => r_icmpN_ge (pc := 11) (tgt := 102) dX2_readSum_11 (by decide) (by omega) (by omega)) (fun c8 => ?_) (fun c8 => ?_)
                        · refine qU (fun T_ k_ => r_iload_n (pc := 102) dX2_readSum_102 rfl k_) ?_
                          exact ⟨_, ⟨_, rfl, FR.trans ((((FRr.refl J (b0 + k.length)).nodes _).trans (FRr.ofp F38) (Nat.le_refl _)).trans F39 (by omega)) (by omega), C39⟩, r_iret dX2_readSum_103 rfl rfl rfl⟩
                        · refine qU (fun T_ k_ => r_iload_n (pc := 14) dX2_readSum_14 rfl k_) ?_
                          refine qU (fun T_ k_ => r_iconst (pc := 15) (v := -1) dX2_readSum_15 rfl k_) ?_
                          refine qP (fun T_ => r_icmp_eq (pc := 16) (tgt := 102) dX2_readSum_16 (by decide)) (fun c9 => ?_) (fun c9 => ?_)
                          · refine qU (fun T_ k_ => r_iload_n (pc := 102) dX2_readSum_102 rfl k_) ?_
                            exact ⟨_, ⟨_, rfl, FR.trans ((((FRr.refl J (b0 + k.length)).nodes _).trans (FRr.ofp F38) (Nat.le_refl _)).trans F39 (by omega)) (by omega), C39⟩, r_iret dX2_readSum_103 rfl rfl rfl⟩
                          · exact absurd rfl c9
                    · rename_i v39
                      obtain ⟨i39, u39, d39, l39⟩ := v39
                      rw [R39] at Q39
                      obtain ⟨J39, rfl, F39, P39, G39⟩ := Q39
                      have hl39 := G39.1
                      have hi39 := G39.2.1
                      have hg39 := G39.2.2.1
                      have hb39 := P39.2.2.2.2.1.2.2.1
                      have hc39 := P39.2.2.2.2.2.2.1
                      have hd39 := P39.2.2.2.1
                      have bd39 := tk_bd P39.1 u39
                      dsimp only
                      refine qU (fun T_ k_ => r_callV (pc := 68) (N := mX2_readProduct) (rest := []) (S39) okX2_readProduct lkX2_97 rfl (by decide) rfl rfl rfl (Nat.le_of_ble_eq_true rfl) ⟨Nat.le_refl _, Nat.le_refl _⟩ dX2_readSum_68 k_) ?_
                      refine qU (fun T_ k_ => r_istore (pc := 71) (lo1 := [.ref 11, .int (nI dp), .int (nI (b0 + i)), .int (nI m), .int (nI 3), .int (nI (b0 + i39))]) dX2_readSum_71 rfl (by decide) rfl k_) ?_
                      refine qU (fun T_ k_ => r_iload (pc := 73) dX2_readSum_73 rfl k_) ?_
                      refine qU (fun T_ k_ => r_iconst (pc := 75) (v := -1) dX2_readSum_75 rfl k_) ?_
                      refine qN (fun T_ => r_icmp_ne (pc := 76) (tgt := 83) dX2_readSum_76 (by decide)) (fun c10 => ?_) (fun c10 => ?_)
                      · refine qU (fun T_ k_ => r_aload_n (pc := 83) dX2_readSum_83 rfl k_) ?_
                        refine qU (fun T_ k_ => r_getR (pc := 84) (b := 15) dX2_readSum_84 fX2_21 rfl rfl k_) ?_
                        refine qU (fun T_ k_ => r_iload (pc := 87) dX2_readSum_87 rfl k_) ?_
                        refine qU (fun T_ k_ => r_iload_n (pc := 89) dX2_readSum_89 rfl k_) ?_
                        refine qU (fun T_ k_ => r_iload (pc := 90) dX2_readSum_90 rfl k_) ?_
                        have P40 : PS (addN J39 (b0 + l39.length) (nI 3) (nI (b0 + i)) (nI (b0 + i39)) (nI 1 + J39 19 (b0 + i) + J39 19 (b0 + i39)) (J39 20 (b0 + i) ||| J39 20 (b0 + i39))) tx n F rt sg ng b0 u39 d39 (l39 ++ [((43, 0, i, i39) : Q4)]) := P39.made ((43, 0, i, i39) : Q4) (by omega) (Or.inr (Or.inr (Or.inr (Or.inr (Or.inr ⟨Or.inr (Or.inl rfl), by show i < l39.length; omega, by show i39 < l39.length; omega⟩))))) rfl rfl rfl
                        have G40 : GR (addN J39 (b0 + l39.length) (nI 3) (nI (b0 + i)) (nI (b0 + i39)) (nI 1 + J39 19 (b0 + i) + J39 19 (b0 + i39)) (J39 20 (b0 + i) ||| J39 20 (b0 + i39))) sg ng b0 c0 l l39.length d39 (l39 ++ [((43, 0, i, i39) : Q4)]) := GR.bin ((43, 0, i, i39) : Q4) G ((((FRr.refl J (b0 + k.length)).nodes _).trans (FRr.ofp F38) (Nat.le_refl _)).trans F39 (by omega)) G39 (Or.inr (Or.inl rfl)) rfl rfl rfl
                        refine qU (fun T_ k_ => r_callV (pc := 92) (N := mX4_addBoth) (rest := []) (s_addBoth X _ J39 L (b0 + l39.length) (b0 + i) (b0 + i39) (nI 3) P39.2.2.2.2.2.1 (by omega) (by omega) (by omega)) okX4_addBoth lkX2_103 rfl (by decide) rfl rfl rfl (Nat.le_of_ble_eq_true rfl) ⟨Nat.le_refl _, Nat.le_refl _⟩ dX2_readSum_92 k_) ?_
                        refine qU (fun T_ k_ => r_istore_n (pc := 95) (lo1 := [.ref 11, .int (nI dp), .int (nI (b0 + l39.length)), .int (nI m), .int (nI 3), .int (nI (b0 + i39))]) dX2_readSum_95 rfl (by decide) rfl k_) ?_
                        refine qU (fun T_ k_ => r_iinc (pc := 96) (v := nI (m + 1)) (lo1 := [.ref 11, .int (nI dp), .int (nI (b0 + l39.length)), .int (nI (m + 1)), .int (nI 3), .int (nI (b0 + i39))]) dX2_readSum_96 rfl rfl (ii1 _) (by decide) rfl k_) ?_
                        refine qU (fun T_ k_ => r_goto (pc := 99) (tgt := 8) dX2_readSum_99 (by decide) k_) ?_
                        refine qU (fun T_ k_ => r_drop (lo1 := [.ref 11, .int (nI dp), .int (nI (b0 + l39.length)), .int (nI (m + 1)), .null, .int (nI (b0 + i39))]) 4 rfl k_) ?_
                        refine qU (fun T_ k_ => r_drop (lo1 := [.ref 11, .int (nI dp), .int (nI (b0 + l39.length)), .int (nI (m + 1)), .null, .null]) 5 rfl k_) ?_
                        exact ih (m + 1) l39.length u39 d39 _ _ (by omega) P40 (FR.trans (((((FRr.refl J (b0 + k.length)).nodes _).trans (FRr.ofp F38) (Nat.le_refl _)).trans F39 (by omega)).addN (by omega)) (by omega)) G40
                      · exact absurd c10 (nI_nm1 (by omega))
                  · exact absurd c6 (by decide)
            · exact absurd c3 (by decide)
      · have hT : tkK tx n t = 1 ∧ tkV tx n t = 45 := ⟨hA.1, hV⟩
        rw [hV]
        refine qU (fun T_ k_ => r_iload_n (pc := 8) dX2_readSum_8 rfl k_) ?_
        refine qU (fun T_ k_ => r_bipush (pc := 9) dX2_readSum_9 bp_20 k_) ?_
        refine qP (fun T_ => r_icmpN_ge (pc := 11) (tgt := 102) dX2_readSum_11 (by decide) (by omega) (by omega)) (fun c1 => ?_) (fun c1 => ?_)
        · exact absurd c1 (by omega)
        · refine qU (fun T_ k_ => r_iload_n (pc := 14) dX2_readSum_14 rfl k_) ?_
          refine qU (fun T_ k_ => r_iconst (pc := 15) (v := -1) dX2_readSum_15 rfl k_) ?_
          refine qP (fun T_ => r_icmp_eq (pc := 16) (tgt := 102) dX2_readSum_16 (by decide)) (fun c2 => ?_) (fun c2 => ?_)
          · exact absurd c2 (nI_nm1 (by omega))
          · refine qU (fun T_ k_ => r_aload_n (pc := 19) dX2_readSum_19 rfl k_) ?_
            refine qU (fun T_ k_ => r_getV (pc := 20) (v := nI 45) dX2_readSum_20 fX2_43 rfl rfl (P.2.1.1.trans ((tokI_ch bd.1 bd.2.1 (ch := 45) (by decide)).mpr hT)) k_) ?_
            refine qU (fun T_ k_ => r_bipush (pc := 23) dX2_readSum_23 bp_43 k_) ?_
            refine qP (fun T_ => r_icmpN_eq (pc := 25) (tgt := 37) dX2_readSum_25 (by decide) (by omega) (by omega)) (fun c3 => ?_) (fun c3 => ?_)
            · exact absurd c3 (by decide)
            · refine qU (fun T_ k_ => r_aload_n (pc := 28) dX2_readSum_28 rfl k_) ?_
              refine qU (fun T_ k_ => r_getV (pc := 29) (v := nI 45) dX2_readSum_29 fX2_43 rfl rfl (P.2.1.1.trans ((tokI_ch bd.1 bd.2.1 (ch := 45) (by decide)).mpr hT)) k_) ?_
              refine qU (fun T_ k_ => r_bipush (pc := 32) dX2_readSum_32 bp_45 k_) ?_
              refine qN (fun T_ => r_icmpN_ne (pc := 34) (tgt := 102) dX2_readSum_34 (by decide) (by omega) (by omega)) (fun c4 => ?_) (fun c4 => ?_)
              · exact absurd c4 (by decide)
              · refine qU (fun T_ k_ => r_aload_n (pc := 37) dX2_readSum_37 rfl k_) ?_
                refine qU (fun T_ k_ => r_getV (pc := 38) (v := nI 45) dX2_readSum_38 fX2_43 rfl rfl (P.2.1.1.trans ((tokI_ch bd.1 bd.2.1 (ch := 45) (by decide)).mpr hT)) k_) ?_
                refine qU (fun T_ k_ => r_bipush (pc := 41) dX2_readSum_41 bp_43 k_) ?_
                refine qN (fun T_ => r_icmpN_ne (pc := 43) (tgt := 50) dX2_readSum_43 (by decide) (by omega) (by omega)) (fun c5 => ?_) (fun c5 => ?_)
                · refine qU (fun T_ k_ => r_iconst (pc := 50) (v := nI 4) dX2_readSum_50 rfl k_) ?_
                  refine qU (fun T_ k_ => r_istore (pc := 51) (lo1 := [.ref 11, .int (nI dp), .int (nI (b0 + i)), .int (nI m), .int (nI 4), .null]) dX2_readSum_51 rfl (by decide) rfl k_) ?_
                  refine qU (fun T_ k_ => r_aload_n (pc := 53) dX2_readSum_53 rfl k_) ?_
                  by_cases hc41 : 20 ≤ c
                  · rw [if_pos hc41]
                    refine qU (fun T_ k_ => r_callV (pc := 54) (N := mX2_countNode) (rest := []) (s_countNode_f X _ J L (c) P.2.2.1 hc41 P.2.2.2.1) okX2_countNode lkX2_100 rfl (by decide) rfl rfl rfl (Nat.le_of_ble_eq_true rfl) ⟨Nat.le_refl _, Nat.le_refl _⟩ dX2_readSum_54 k_) ?_
                    refine qN (fun T_ => r_ifN_ne (pc := 57) (tgt := 62) dX2_readSum_57 (by decide) (by omega)) (fun c6 => ?_) (fun c6 => ?_)
                    · exact absurd c6 (by decide)
                    · refine qU (fun T_ k_ => r_iconst (pc := 60) (v := -1) dX2_readSum_60 rfl k_) ?_
                      exact ⟨_, ⟨_, rfl, FR, P.2.1⟩, r_iret dX2_readSum_61 rfl rfl rfl⟩
                  · rw [if_neg hc41]
                    have P41 := P.counted hc41
                    refine qU (fun T_ k_ => r_callV (pc := 54) (N := mX2_countNode) (rest := []) (s_countNode_t X _ J L (c) P.2.2.1 hc41) okX2_countNode lkX2_100 rfl (by decide) rfl rfl rfl (Nat.le_of_ble_eq_true rfl) ⟨Nat.le_refl _, Nat.le_refl _⟩ dX2_readSum_54 k_) ?_
                    refine qN (fun T_ => r_ifN_ne (pc := 57) (tgt := 62) dX2_readSum_57 (by decide) (by omega)) (fun c7 => ?_) (fun c7 => ?_)
                    · refine qU (fun T_ k_ => r_aload_n (pc := 62) dX2_readSum_62 rfl k_) ?_
                      obtain ⟨T42, ⟨J42, rfl, F42, C42⟩, S42⟩ := s_pass X (d + 5) (u2 J 11 8 (nI (c + 1))) L tx n (t + 1) P41.1 P41.2.1.2.2.1
                      have P42 := P41.passed F42 C42
                      refine qU (fun T_ k_ => r_callV (pc := 63) (N := mX2_pass) (rest := []) (S42) okX2_pass lkX2_40 rfl (by decide) rfl rfl rfl (Nat.le_of_ble_eq_true rfl) ⟨Nat.le_refl _, Nat.le_refl _⟩ dX2_readSum_63 k_) ?_
                      refine qU (fun T_ k_ => r_aload_n (pc := 66) dX2_readSum_66 rfl k_) ?_
                      refine qU (fun T_ k_ => r_iload_n (pc := 67) dX2_readSum_67 rfl k_) ?_
                      obtain ⟨T43, Q43, S43⟩ := s_readProduct X d J42 L tx n F rt sg ng b0 (t + 1) (c + 1) k P42 dp inner hin
                      cases R43 : rdProd (tkK tx n) (tkV tx n) F inner (t + 1) (c + 1) k
                      · rename_i u43
                        rw [R43] at Q43
                        obtain ⟨J43, rfl, F43, C43⟩ := Q43
                        dsimp only
                        refine qU (fun T_ k_ => r_callV (pc := 68) (N := mX2_readProduct) (rest := []) (S43) okX2_readProduct lkX2_97 rfl (by decide) rfl rfl rfl (Nat.le_of_ble_eq_true rfl) ⟨Nat.le_refl _, Nat.le_refl _⟩ dX2_readSum_68 k_) ?_
                        refine qU (fun T_ k_ => r_istore (pc := 71) (lo1 := [.ref 11, .int (nI dp), .int (nI (b0 + i)), .int (nI m), .int (nI 4), .int (-1)]) dX2_readSum_71 rfl (by decide) rfl k_) ?_
                        refine qU (fun T_ k_ => r_iload (pc := 73) dX2_readSum_73 rfl k_) ?_
                        refine qU (fun T_ k_ => r_iconst (pc := 75) (v := -1) dX2_readSum_75 rfl k_) ?_
                        refine qN (fun T_ => r_icmp_ne (pc := 76) (tgt := 83) dX2_readSum_76 (by decide)) (fun c8 => ?_) (fun c8 => ?_)
                        · exact absurd rfl c8
                        · refine qU (fun T_ k_ => r_iconst (pc := 79) (v := -1) dX2_readSum_79 rfl k_) ?_
                          refine qU (fun T_ k_ => r_goto (pc := 80) (tgt := 95) dX2_readSum_80 (by decide) k_) ?_
                          refine qU (fun T_ k_ => r_istore_n (pc := 95) (lo1 := [.ref 11, .int (nI dp), .int (-1), .int (nI m), .int (nI 4), .int (-1)]) dX2_readSum_95 rfl (by decide) rfl k_) ?_
                          refine qU (fun T_ k_ => r_iinc (pc := 96) (v := nI (m + 1)) (lo1 := [.ref 11, .int (nI dp), .int (-1), .int (nI (m + 1)), .int (nI 4), .int (-1)]) dX2_readSum_96 rfl rfl (ii1 _) (by decide) rfl k_) ?_
                          refine qU (fun T_ k_ => r_goto (pc := 99) (tgt := 8) dX2_readSum_99 (by decide) k_) ?_
                          refine qU (fun T_ k_ => r_iload_n (pc := 8) dX2_readSum_8 rfl k_) ?_
                          refine qU (fun T_ k_ => r_bipush (pc := 9) dX2_readSum_9 bp_20 k_) ?_
                          refine qP (fun T_ => r_icmpN_ge (pc := 11) (tgt := 102) dX2_readSum_11 (by decide) (by omega) (by omega)) (fun c9 => ?_) (fun c9 => ?_)
                          · refine qU (fun T_ k_ => r_iload_n (pc := 102) dX2_readSum_102 rfl k_) ?_
                            exact ⟨_, ⟨_, rfl, FR.trans ((((FRr.refl J (b0 + k.length)).nodes _).trans (FRr.ofp F42) (Nat.le_refl _)).trans F43 (by omega)) (by omega), C43⟩, r_iret dX2_readSum_103 rfl rfl rfl⟩
                          · refine qU (fun T_ k_ => r_iload_n (pc := 14) dX2_readSum_14 rfl k_) ?_
                            refine qU (fun T_ k_ => r_iconst (pc := 15) (v := -1) dX2_readSum_15 rfl k_) ?_
                            refine qP (fun T_ => r_icmp_eq (pc := 16) (tgt := 102) dX2_readSum_16 (by decide)) (fun c10 => ?_) (fun c10 => ?_)
                            · refine qU (fun T_ k_ => r_iload_n (pc := 102) dX2_readSum_102 rfl k_) ?_
                              exact ⟨_, ⟨_, rfl, FR.trans ((((FRr.refl J (b0 + k.length)).nodes _).trans (FRr.ofp F42) (Nat.le_refl _)).trans F43 (by omega)) (by omega), C43⟩, r_iret dX2_readSum_103 rfl rfl rfl⟩
                            · exact absurd rfl c10
                      · rename_i v43
                        obtain ⟨i43, u43, d43, l43⟩ := v43
                        rw [R43] at Q43
                        obtain ⟨J43, rfl, F43, P43, G43⟩ := Q43
                        have hl43 := G43.1
                        have hi43 := G43.2.1
                        have hg43 := G43.2.2.1
                        have hb43 := P43.2.2.2.2.1.2.2.1
                        have hc43 := P43.2.2.2.2.2.2.1
                        have hd43 := P43.2.2.2.1
                        have bd43 := tk_bd P43.1 u43
                        dsimp only
                        refine qU (fun T_ k_ => r_callV (pc := 68) (N := mX2_readProduct) (rest := []) (S43) okX2_readProduct lkX2_97 rfl (by decide) rfl rfl rfl (Nat.le_of_ble_eq_true rfl) ⟨Nat.le_refl _, Nat.le_refl _⟩ dX2_readSum_68 k_) ?_
                        refine qU (fun T_ k_ => r_istore (pc := 71) (lo1 := [.ref 11, .int (nI dp), .int (nI (b0 + i)), .int (nI m), .int (nI 4), .int (nI (b0 + i43))]) dX2_readSum_71 rfl (by decide) rfl k_) ?_
                        refine qU (fun T_ k_ => r_iload (pc := 73) dX2_readSum_73 rfl k_) ?_
                        refine qU (fun T_ k_ => r_iconst (pc := 75) (v := -1) dX2_readSum_75 rfl k_) ?_
                        refine qN (fun T_ => r_icmp_ne (pc := 76) (tgt := 83) dX2_readSum_76 (by decide)) (fun c11 => ?_) (fun c11 => ?_)
                        · refine qU (fun T_ k_ => r_aload_n (pc := 83) dX2_readSum_83 rfl k_) ?_
                          refine qU (fun T_ k_ => r_getR (pc := 84) (b := 15) dX2_readSum_84 fX2_21 rfl rfl k_) ?_
                          refine qU (fun T_ k_ => r_iload (pc := 87) dX2_readSum_87 rfl k_) ?_
                          refine qU (fun T_ k_ => r_iload_n (pc := 89) dX2_readSum_89 rfl k_) ?_
                          refine qU (fun T_ k_ => r_iload (pc := 90) dX2_readSum_90 rfl k_) ?_
                          have P44 : PS (addN J43 (b0 + l43.length) (nI 4) (nI (b0 + i)) (nI (b0 + i43)) (nI 1 + J43 19 (b0 + i) + J43 19 (b0 + i43)) (J43 20 (b0 + i) ||| J43 20 (b0 + i43))) tx n F rt sg ng b0 u43 d43 (l43 ++ [((45, 0, i, i43) : Q4)]) := P43.made ((45, 0, i, i43) : Q4) (by omega) (Or.inr (Or.inr (Or.inr (Or.inr (Or.inr ⟨Or.inr (Or.inr rfl), by show i < l43.length; omega, by show i43 < l43.length; omega⟩))))) rfl rfl rfl
                          have G44 : GR (addN J43 (b0 + l43.length) (nI 4) (nI (b0 + i)) (nI (b0 + i43)) (nI 1 + J43 19 (b0 + i) + J43 19 (b0 + i43)) (J43 20 (b0 + i) ||| J43 20 (b0 + i43))) sg ng b0 c0 l l43.length d43 (l43 ++ [((45, 0, i, i43) : Q4)]) := GR.bin ((45, 0, i, i43) : Q4) G ((((FRr.refl J (b0 + k.length)).nodes _).trans (FRr.ofp F42) (Nat.le_refl _)).trans F43 (by omega)) G43 (Or.inr (Or.inr rfl)) rfl rfl rfl
                          refine qU (fun T_ k_ => r_callV (pc := 92) (N := mX4_addBoth) (rest := []) (s_addBoth X _ J43 L (b0 + l43.length) (b0 + i) (b0 + i43) (nI 4) P43.2.2.2.2.2.1 (by omega) (by omega) (by omega)) okX4_addBoth lkX2_103 rfl (by decide) rfl rfl rfl (Nat.le_of_ble_eq_true rfl) ⟨Nat.le_refl _, Nat.le_refl _⟩ dX2_readSum_92 k_) ?_
                          refine qU (fun T_ k_ => r_istore_n (pc := 95) (lo1 := [.ref 11, .int (nI dp), .int (nI (b0 + l43.length)), .int (nI m), .int (nI 4), .int (nI (b0 + i43))]) dX2_readSum_95 rfl (by decide) rfl k_) ?_
                          refine qU (fun T_ k_ => r_iinc (pc := 96) (v := nI (m + 1)) (lo1 := [.ref 11, .int (nI dp), .int (nI (b0 + l43.length)), .int (nI (m + 1)), .int (nI 4), .int (nI (b0 + i43))]) dX2_readSum_96 rfl rfl (ii1 _) (by decide) rfl k_) ?_
                          refine qU (fun T_ k_ => r_goto (pc := 99) (tgt := 8) dX2_readSum_99 (by decide) k_) ?_
                          refine qU (fun T_ k_ => r_drop (lo1 := [.ref 11, .int (nI dp), .int (nI (b0 + l43.length)), .int (nI (m + 1)), .null, .int (nI (b0 + i43))]) 4 rfl k_) ?_
                          refine qU (fun T_ k_ => r_drop (lo1 := [.ref 11, .int (nI dp), .int (nI (b0 + l43.length)), .int (nI (m + 1)), .null, .null]) 5 rfl k_) ?_
                          exact ih (m + 1) l43.length u43 d43 _ _ (by omega) P44 (FR.trans (((((FRr.refl J (b0 + k.length)).nodes _).trans (FRr.ofp F42) (Nat.le_refl _)).trans F43 (by omega)).addN (by omega)) (by omega)) G44
                        · exact absurd c11 (nI_nm1 (by omega))
                    · exact absurd c7 (by decide)
                · exact absurd c5 (by decide)
    · rw [if_neg hA]
      refine qU (fun T_ k_ => r_iload_n (pc := 8) dX2_readSum_8 rfl k_) ?_
      refine qU (fun T_ k_ => r_bipush (pc := 9) dX2_readSum_9 bp_20 k_) ?_
      refine qP (fun T_ => r_icmpN_ge (pc := 11) (tgt := 102) dX2_readSum_11 (by decide) (by omega) (by omega)) (fun c1 => ?_) (fun c1 => ?_)
      · exact absurd c1 (by omega)
      · refine qU (fun T_ k_ => r_iload_n (pc := 14) dX2_readSum_14 rfl k_) ?_
        refine qU (fun T_ k_ => r_iconst (pc := 15) (v := -1) dX2_readSum_15 rfl k_) ?_
        refine qP (fun T_ => r_icmp_eq (pc := 16) (tgt := 102) dX2_readSum_16 (by decide)) (fun c2 => ?_) (fun c2 => ?_)
        · exact absurd c2 (nI_nm1 (by omega))
        · refine qU (fun T_ k_ => r_aload_n (pc := 19) dX2_readSum_19 rfl k_) ?_
          refine qU (fun T_ k_ => r_getV (pc := 20) (v := tokI (tkK tx n (t)) (tkV tx n (t))) dX2_readSum_20 fX2_43 rfl rfl (P.2.1.1) k_) ?_
          refine qU (fun T_ k_ => r_bipush (pc := 23) dX2_readSum_23 bp_43 k_) ?_
          refine qP (fun T_ => r_icmp_eq (pc := 25) (tgt := 37) dX2_readSum_25 (by decide)) (fun c3 => ?_) (fun c3 => ?_)
          · exact absurd (let z := (tokI_ch bd.1 bd.2.1 (ch := 43) (by decide)).mp c3; ⟨z.1, Or.inl z.2⟩) hA
          · refine qU (fun T_ k_ => r_aload_n (pc := 28) dX2_readSum_28 rfl k_) ?_
            refine qU (fun T_ k_ => r_getV (pc := 29) (v := tokI (tkK tx n (t)) (tkV tx n (t))) dX2_readSum_29 fX2_43 rfl rfl (P.2.1.1) k_) ?_
            refine qU (fun T_ k_ => r_bipush (pc := 32) dX2_readSum_32 bp_45 k_) ?_
            refine qN (fun T_ => r_icmp_ne (pc := 34) (tgt := 102) dX2_readSum_34 (by decide)) (fun c4 => ?_) (fun c4 => ?_)
            · refine qU (fun T_ k_ => r_iload_n (pc := 102) dX2_readSum_102 rfl k_) ?_
              exact ⟨_, ⟨_, rfl, FR, P, G⟩, r_iret dX2_readSum_103 rfl rfl rfl⟩
            · exact absurd (let z := (tokI_ch bd.1 bd.2.1 (ch := 45) (by decide)).mp c4; ⟨z.1, Or.inr z.2⟩) hA
theorem s_readSum (X : Ctx) (d : Nat) (I : MI) (L : ML) (tx : Nat → Nat) (n F : Nat) (rt : Nat → Nat) (sg ng : Nat → Int32) (b0 t c : Nat) (l : List Q4) (h : PS I tx n F rt sg ng b0 t c l) (dp : Nat) (inner : Option (Nat → Nat → List Q4 → RD)) (hin : INO L tx n F rt sg ng b0 X d dp inner) : ∃ T, QR I L tx n F rt sg ng b0 c l (rdSum (tkK tx n) (tkV tx n) F inner t c l) T ∧ Sp X mX2_readSum (d + 8) (0, 0) [.ref 11, .int (nI dp)] shF I L T := by
  refine qU (fun T_ k_ => Sp.of okX2_readSum [.ref 11, .int (nI dp), .null, .null, .null, .null] 4 rfl (Nat.le_of_ble_eq_true rfl) k_) ?_
  unfold rdSum
  refine qU (fun T_ k_ => r_aload_n (pc := 0) dX2_readSum_0 rfl k_) ?_
  refine qU (fun T_ k_ => r_iload_n (pc := 1) dX2_readSum_1 rfl k_) ?_
  obtain ⟨T45, Q45, S45⟩ := s_readProduct X d I L tx n F rt sg ng b0 t c l h dp inner hin
  cases R45 : rdProd (tkK tx n) (tkV tx n) F inner t c l
  · rename_i u45
    rw [R45] at Q45
    obtain ⟨J45, rfl, F45, C45⟩ := Q45
    dsimp only
    refine qU (fun T_ k_ => r_callV (pc := 2) (N := mX2_readProduct) (rest := []) (S45) okX2_readProduct lkX2_97 rfl (by decide) rfl rfl rfl (Nat.le_of_ble_eq_true rfl) ⟨Nat.le_refl _, Nat.le_refl _⟩ dX2_readSum_2 k_) ?_
    refine qU (fun T_ k_ => r_istore_n (pc := 5) (lo1 := [.ref 11, .int (nI dp), .int (-1), .null, .null, .null]) dX2_readSum_5 rfl (by decide) rfl k_) ?_
    refine qU (fun T_ k_ => r_iconst (pc := 6) (v := nI 0) dX2_readSum_6 rfl k_) ?_
    refine qU (fun T_ k_ => r_istore_n (pc := 7) (lo1 := [.ref 11, .int (nI dp), .int (-1), .int (nI 0), .null, .null]) dX2_readSum_7 rfl (by decide) rfl k_) ?_
    refine qU (fun T_ k_ => r_iload_n (pc := 8) dX2_readSum_8 rfl k_) ?_
    refine qU (fun T_ k_ => r_bipush (pc := 9) dX2_readSum_9 bp_20 k_) ?_
    refine qP (fun T_ => r_icmpN_ge (pc := 11) (tgt := 102) dX2_readSum_11 (by decide) (by omega) (by omega)) (fun c1 => ?_) (fun c1 => ?_)
    · exact absurd c1 (by decide)
    · refine qU (fun T_ k_ => r_iload_n (pc := 14) dX2_readSum_14 rfl k_) ?_
      refine qU (fun T_ k_ => r_iconst (pc := 15) (v := -1) dX2_readSum_15 rfl k_) ?_
      refine qP (fun T_ => r_icmp_eq (pc := 16) (tgt := 102) dX2_readSum_16 (by decide)) (fun c2 => ?_) (fun c2 => ?_)
      · refine qU (fun T_ k_ => r_iload_n (pc := 102) dX2_readSum_102 rfl k_) ?_
        exact ⟨_, ⟨_, rfl, (FRr.refl I (b0 + l.length)).trans F45 (by omega), C45⟩, r_iret dX2_readSum_103 rfl rfl rfl⟩
      · exact absurd rfl c2
  · rename_i v45
    obtain ⟨i45, u45, d45, l45⟩ := v45
    rw [R45] at Q45
    obtain ⟨J45, rfl, F45, P45, G45⟩ := Q45
    have hl45 := G45.1
    have hi45 := G45.2.1
    have hg45 := G45.2.2.1
    have hb45 := P45.2.2.2.2.1.2.2.1
    have hc45 := P45.2.2.2.2.2.2.1
    have hd45 := P45.2.2.2.1
    have bd45 := tk_bd P45.1 u45
    dsimp only
    refine qU (fun T_ k_ => r_callV (pc := 2) (N := mX2_readProduct) (rest := []) (S45) okX2_readProduct lkX2_97 rfl (by decide) rfl rfl rfl (Nat.le_of_ble_eq_true rfl) ⟨Nat.le_refl _, Nat.le_refl _⟩ dX2_readSum_2 k_) ?_
    refine qU (fun T_ k_ => r_istore_n (pc := 5) (lo1 := [.ref 11, .int (nI dp), .int (nI (b0 + i45)), .null, .null, .null]) dX2_readSum_5 rfl (by decide) rfl k_) ?_
    refine qU (fun T_ k_ => r_iconst (pc := 6) (v := nI 0) dX2_readSum_6 rfl k_) ?_
    refine qU (fun T_ k_ => r_istore_n (pc := 7) (lo1 := [.ref 11, .int (nI dp), .int (nI (b0 + i45)), .int (nI 0), .null, .null]) dX2_readSum_7 rfl (by decide) rfl k_) ?_
    exact lp_sum X d I L tx n F rt sg ng b0 c l dp inner hin 20 0 i45 u45 d45 J45 l45 rfl P45 ((FRr.refl I (b0 + l.length)).trans F45 (by omega)) G45
