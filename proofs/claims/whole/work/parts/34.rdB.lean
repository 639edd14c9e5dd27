theorem GR.fr {J J2 : MI} {sg ng : Nat → Int32} {b0 c i c' : Nat} {l l' : List Q4} (h : GR J sg ng b0 c l i c' l') (hF : FRp J J2) : GR J2 sg ng b0 c l i c' l' := ⟨h.1, h.2.1, h.2.2.1, h.2.2.2.1, (hF 19 _ (by omega)).trans h.2.2.2.2.1, (hF 20 _ (by omega)).trans h.2.2.2.2.2⟩
def rdEar (K V : Nat → Nat) (F t c : Nat) (l : List Q4) : RD := if 20 ≤ c then .inl t else if K (t + 1) = 2 ∧ V (t + 1) < F then .inr (l.length, t + 2, c + 1, l ++ [(2, V (t + 1), 0, 0)]) else .inl (t + 1)
theorem s_readEarlier (X : Ctx) (d : Nat) (I : MI) (L : ML) (tx : Nat → Nat) (n F : Nat) (rt : Nat → Nat) (sg ng : Nat → Int32) (b0 t c : Nat) (l : List Q4) (h : PS I tx n F rt sg ng b0 t c l) : ∃ T, QR I L tx n F rt sg ng b0 c l (rdEar (tkK tx n) (tkV tx n) F t c l) T ∧ Sp X mX2_readEarlier (d + 3) (0, 0) [.ref 11] shF I L T := by
  refine qU (fun T_ k_ => Sp.of okX2_readEarlier [.ref 11, .null] 1 rfl (Nat.le_of_ble_eq_true rfl) k_) ?_
  unfold rdEar
  by_cases hc : 20 ≤ c
  · rw [if_pos hc]
    refine qU (fun T_ k_ => r_aload_n (pc := 0) dX2_readEarlier_0 rfl k_) ?_
    refine qU (fun T_ k_ => r_callV (pc := 1) (N := mX2_countNode) (rest := []) (s_countNode_f X _ I L (c) h.2.2.1 hc h.2.2.2.1) okX2_countNode lkX2_100 rfl (by decide) rfl rfl rfl (Nat.le_of_ble_eq_true rfl) ⟨Nat.le_refl _, Nat.le_refl _⟩ dX2_readEarlier_1 k_) ?_
    refine qN (fun T_ => r_ifN_ne (pc := 4) (tgt := 9) dX2_readEarlier_4 (by decide) (by omega)) (fun c1 => ?_) (fun c1 => ?_)
    · exact absurd c1 (by decide)
    · refine qU (fun T_ k_ => r_iconst (pc := 7) (v := -1) dX2_readEarlier_7 rfl k_) ?_
      exact ⟨_, ⟨_, rfl, FRr.refl I (b0 + l.length), h.2.1⟩, r_iret dX2_readEarlier_8 rfl rfl rfl⟩
  · rw [if_neg hc]
    have bd1 := tk_bd h.1 (t + 1)
    have hF4 := h.2.2.2.2.1.2.1
    by_cases hk : tkK tx n (t + 1) = 2
    · by_cases hv : tkV tx n (t + 1) < F
      · rw [if_pos ⟨hk, hv⟩]
        refine qU (fun T_ k_ => r_aload_n (pc := 0) dX2_readEarlier_0 rfl k_) ?_
        have P1 := h.counted hc
        refine qU (fun T_ k_ => r_callV (pc := 1) (N := mX2_countNode) (rest := []) (s_countNode_t X _ I L (c) h.2.2.1 hc) okX2_countNode lkX2_100 rfl (by decide) rfl rfl rfl (Nat.le_of_ble_eq_true rfl) ⟨Nat.le_refl _, Nat.le_refl _⟩ dX2_readEarlier_1 k_) ?_
        refine qN (fun T_ => r_ifN_ne (pc := 4) (tgt := 9) dX2_readEarlier_4 (by decide) (by omega)) (fun c1 => ?_) (fun c1 => ?_)
        · refine qU (fun T_ k_ => r_aload_n (pc := 9) dX2_readEarlier_9 rfl k_) ?_
          obtain ⟨T2, ⟨J2, rfl, F2, C2⟩, S2⟩ := s_pass X d (u2 I 11 8 (nI (c + 1))) L tx n (t + 1) P1.1 P1.2.1.2.2.1
          have P2 := P1.passed F2 C2
          refine qU (fun T_ k_ => r_callV (pc := 10) (N := mX2_pass) (rest := []) (S2) okX2_pass lkX2_40 rfl (by decide) rfl rfl rfl (Nat.le_of_ble_eq_true rfl) ⟨Nat.le_refl _, Nat.le_refl _⟩ dX2_readEarlier_10 k_) ?_
          refine qU (fun T_ k_ => r_aload_n (pc := 13) dX2_readEarlier_13 rfl k_) ?_
          refine qU (fun T_ k_ => r_getV (pc := 14) (v := -2) dX2_readEarlier_14 fX2_43 rfl rfl ((P2.2.1.1.trans ((tokI_m2 bd1.1 bd1.2.1).mpr hk))) k_) ?_
          refine qU (fun T_ k_ => r_bipush (pc := 17) dX2_readEarlier_17 bp_m2 k_) ?_
          refine qN (fun T_ => r_icmp_ne (pc := 19) (tgt := 36) dX2_readEarlier_19 (by decide)) (fun c2 => ?_) (fun c2 => ?_)
          · exact absurd rfl c2
          · refine qU (fun T_ k_ => r_aload_n (pc := 22) dX2_readEarlier_22 rfl k_) ?_
            refine qU (fun T_ k_ => r_getV (pc := 23) (v := nI (tkV tx n (t + 1))) dX2_readEarlier_23 fX2_73 rfl rfl ((P2.2.1.2.2.2 hk)) k_) ?_
            refine qU (fun T_ k_ => r_aload_n (pc := 26) dX2_readEarlier_26 rfl k_) ?_
            refine qU (fun T_ k_ => r_getR (pc := 27) (b := 15) dX2_readEarlier_27 fX2_21 rfl rfl k_) ?_
            refine qU (fun T_ k_ => r_callV (pc := 30) (N := mX4_formulas) (rest := [.int (nI (tkV tx n (t + 1)))]) (s_formulas_15 X _ J2 L F (P2.2.2.2.2.1.1)) okX4_formulas lkX2_84 rfl (by decide) rfl rfl rfl (Nat.le_of_ble_eq_true rfl) ⟨Nat.le_refl _, Nat.le_refl _⟩ dX2_readEarlier_30 k_) ?_
            refine qP (fun T_ => r_icmpN_lt (pc := 33) (tgt := 38) dX2_readEarlier_33 (by decide) (by omega) (by omega)) (fun c3 => ?_) (fun c3 => ?_)
            · refine qU (fun T_ k_ => r_aload_n (pc := 38) dX2_readEarlier_38 rfl k_) ?_
              refine qU (fun T_ k_ => r_getR (pc := 39) (b := 15) dX2_readEarlier_39 fX2_21 rfl rfl k_) ?_
              refine qU (fun T_ k_ => r_iconst (pc := 42) (v := nI 2) dX2_readEarlier_42 rfl k_) ?_
              refine qU (fun T_ k_ => r_aload_n (pc := 43) dX2_readEarlier_43 rfl k_) ?_
              refine qU (fun T_ k_ => r_getR (pc := 44) (b := 15) dX2_readEarlier_44 fX2_21 rfl rfl k_) ?_
              refine qU (fun T_ k_ => r_aload_n (pc := 47) dX2_readEarlier_47 rfl k_) ?_
              refine qU (fun T_ k_ => r_getV (pc := 48) (v := nI (tkV tx n (t + 1))) dX2_readEarlier_48 fX2_73 rfl rfl ((P2.2.1.2.2.2 hk)) k_) ?_
              refine qU (fun T_ k_ => r_callV (pc := 51) (N := mX4_root) (rest := [.int (nI 2), .ref 15]) (s_root_15 X _ J2 L (tkV tx n (t + 1)) (rt (tkV tx n (t + 1))) (by have := P2.2.2.2.2.1.2.1; omega) (P2.2.2.2.2.1.2.2.2 _ hv).1) okX4_root lkX2_131 rfl (by decide) rfl rfl rfl (Nat.le_of_ble_eq_true rfl) ⟨Nat.le_refl _, Nat.le_refl _⟩ dX2_readEarlier_51 k_) ?_
              refine qU (fun T_ k_ => r_iconst (pc := 54) (v := nI 0) dX2_readEarlier_54 rfl k_) ?_
              have hb3 := P2.2.2.2.2.1.2.2.1
              have hr3 := P2.2.2.2.2.1.2.2.2 _ hv
              have hl3 : l.length < c + 1 := Nat.lt_succ_of_le h.2.2.2.2.2.2.1
              have P3 : PS (addN J2 (b0 + l.length) (nI 2) (nI (rt (tkV tx n (t + 1)))) (nI 0) (nI 1 + J2 19 (rt (tkV tx n (t + 1)))) (J2 20 (rt (tkV tx n (t + 1))))) tx n F rt sg ng b0 (t + 1) (c + 1) (l ++ [((2, tkV tx n (t + 1), 0, 0) : Q4)]) := P2.made ((2, tkV tx n (t + 1), 0, 0) : Q4) hl3 (Or.inr (Or.inr (Or.inl ⟨rfl, hv⟩))) rfl rfl rfl
              have G3 : GR (addN J2 (b0 + l.length) (nI 2) (nI (rt (tkV tx n (t + 1)))) (nI 0) (nI 1 + J2 19 (rt (tkV tx n (t + 1)))) (J2 20 (rt (tkV tx n (t + 1))))) sg ng b0 c l l.length (c + 1) (l ++ [((2, tkV tx n (t + 1), 0, 0) : Q4)]) := GR.leaf ((2, tkV tx n (t + 1), 0, 0) : Q4) (by rw [hr3.2.2.1]; rfl) (by rw [hr3.2.2.2]; rfl)
              refine qU (fun T_ k_ => r_callV (pc := 55) (N := mX4_addOver) (rest := []) (s_addOver X _ J2 L (b0 + l.length) (rt (tkV tx n (t + 1))) (nI 2) (nI 0) P2.2.2.2.2.2.1 (by omega) (by omega)) okX4_addOver lkX2_113 rfl (by decide) rfl rfl rfl (Nat.le_of_ble_eq_true rfl) ⟨Nat.le_refl _, Nat.le_refl _⟩ dX2_readEarlier_55 k_) ?_
              refine qU (fun T_ k_ => r_istore_n (pc := 58) (lo1 := [.ref 11, .int (nI (b0 + l.length))]) dX2_readEarlier_58 rfl (by decide) rfl k_) ?_
              refine qU (fun T_ k_ => r_aload_n (pc := 59) dX2_readEarlier_59 rfl k_) ?_
              obtain ⟨T4, ⟨J4, rfl, F4, C4⟩, S4⟩ := s_pass X d (addN J2 (b0 + l.length) (nI 2) (nI (rt (tkV tx n (t + 1)))) (nI 0) (nI 1 + J2 19 (rt (tkV tx n (t + 1)))) (J2 20 (rt (tkV tx n (t + 1))))) L tx n (t + 1 + 1) P3.1 P3.2.1.2.2.1
              have P4 := P3.passed F4 C4
              refine qU (fun T_ k_ => r_callV (pc := 60) (N := mX2_pass) (rest := []) (S4) okX2_pass lkX2_40 rfl (by decide) rfl rfl rfl (Nat.le_of_ble_eq_true rfl) ⟨Nat.le_refl _, Nat.le_refl _⟩ dX2_readEarlier_60 k_) ?_
              refine qU (fun T_ k_ => r_iload_n (pc := 63) dX2_readEarlier_63 rfl k_) ?_
              exact ⟨_, ⟨_, rfl, ((((FRr.refl I (b0 + l.length)).nodes _).trans (FRr.ofp F2) (Nat.le_refl _)).addN (Nat.le_refl _)).trans (FRr.ofp F4) (Nat.le_refl _), P4, G3.fr F4⟩, r_iret dX2_readEarlier_64 rfl rfl rfl⟩
            · exact absurd c3 (by omega)
        · exact absurd c1 (by decide)
      · rw [if_neg (fun z => hv z.2)]
        refine qU (fun T_ k_ => r_aload_n (pc := 0) dX2_readEarlier_0 rfl k_) ?_
        have P5 := h.counted hc
        refine qU (fun T_ k_ => r_callV (pc := 1) (N := mX2_countNode) (rest := []) (s_countNode_t X _ I L (c) h.2.2.1 hc) okX2_countNode lkX2_100 rfl (by decide) rfl rfl rfl (Nat.le_of_ble_eq_true rfl) ⟨Nat.le_refl _, Nat.le_refl _⟩ dX2_readEarlier_1 k_) ?_
        refine qN (fun T_ => r_ifN_ne (pc := 4) (tgt := 9) dX2_readEarlier_4 (by decide) (by omega)) (fun c1 => ?_) (fun c1 => ?_)
        · refine qU (fun T_ k_ => r_aload_n (pc := 9) dX2_readEarlier_9 rfl k_) ?_
          obtain ⟨T6, ⟨J6, rfl, F6, C6⟩, S6⟩ := s_pass X d (u2 I 11 8 (nI (c + 1))) L tx n (t + 1) P5.1 P5.2.1.2.2.1
          have P6 := P5.passed F6 C6
          refine qU (fun T_ k_ => r_callV (pc := 10) (N := mX2_pass) (rest := []) (S6) okX2_pass lkX2_40 rfl (by decide) rfl rfl rfl (Nat.le_of_ble_eq_true rfl) ⟨Nat.le_refl _, Nat.le_refl _⟩ dX2_readEarlier_10 k_) ?_
          refine qU (fun T_ k_ => r_aload_n (pc := 13) dX2_readEarlier_13 rfl k_) ?_
          refine qU (fun T_ k_ => r_getV (pc := 14) (v := -2) dX2_readEarlier_14 fX2_43 rfl rfl ((P6.2.1.1.trans ((tokI_m2 bd1.1 bd1.2.1).mpr hk))) k_) ?_
          refine qU (fun T_ k_ => r_bipush (pc := 17) dX2_readEarlier_17 bp_m2 k_) ?_
          refine qN (fun T_ => r_icmp_ne (pc := 19) (tgt := 36) dX2_readEarlier_19 (by decide)) (fun c2 => ?_) (fun c2 => ?_)
          · exact absurd rfl c2
          · refine qU (fun T_ k_ => r_aload_n (pc := 22) dX2_readEarlier_22 rfl k_) ?_
            refine qU (fun T_ k_ => r_getV (pc := 23) (v := nI (tkV tx n (t + 1))) dX2_readEarlier_23 fX2_73 rfl rfl ((P6.2.1.2.2.2 hk)) k_) ?_
            refine qU (fun T_ k_ => r_aload_n (pc := 26) dX2_readEarlier_26 rfl k_) ?_
            refine qU (fun T_ k_ => r_getR (pc := 27) (b := 15) dX2_readEarlier_27 fX2_21 rfl rfl k_) ?_
            refine qU (fun T_ k_ => r_callV (pc := 30) (N := mX4_formulas) (rest := [.int (nI (tkV tx n (t + 1)))]) (s_formulas_15 X _ J6 L F (P6.2.2.2.2.1.1)) okX4_formulas lkX2_84 rfl (by decide) rfl rfl rfl (Nat.le_of_ble_eq_true rfl) ⟨Nat.le_refl _, Nat.le_refl _⟩ dX2_readEarlier_30 k_) ?_
            refine qP (fun T_ => r_icmpN_lt (pc := 33) (tgt := 38) dX2_readEarlier_33 (by decide) (by omega) (by omega)) (fun c3 => ?_) (fun c3 => ?_)
            · exact absurd c3 (by omega)
            · refine qU (fun T_ k_ => r_iconst (pc := 36) (v := -1) dX2_readEarlier_36 rfl k_) ?_
              exact ⟨_, ⟨_, rfl, ((FRr.refl I (b0 + l.length)).nodes _).trans (FRr.ofp F6) (Nat.le_refl _), P6.2.1⟩, r_iret dX2_readEarlier_37 rfl rfl rfl⟩
        · exact absurd c1 (by decide)
    · rw [if_neg (fun z => hk z.1)]
      refine qU (fun T_ k_ => r_aload_n (pc := 0) dX2_readEarlier_0 rfl k_) ?_
      have P7 := h.counted hc
      refine qU (fun T_ k_ => r_callV (pc := 1) (N := mX2_countNode) (rest := []) (s_countNode_t X _ I L (c) h.2.2.1 hc) okX2_countNode lkX2_100 rfl (by decide) rfl rfl rfl (Nat.le_of_ble_eq_true rfl) ⟨Nat.le_refl _, Nat.le_refl _⟩ dX2_readEarlier_1 k_) ?_
      refine qN (fun T_ => r_ifN_ne (pc := 4) (tgt := 9) dX2_readEarlier_4 (by decide) (by omega)) (fun c1 => ?_) (fun c1 => ?_)
      · refine qU (fun T_ k_ => r_aload_n (pc := 9) dX2_readEarlier_9 rfl k_) ?_
        obtain ⟨T8, ⟨J8, rfl, F8, C8⟩, S8⟩ := s_pass X d (u2 I 11 8 (nI (c + 1))) L tx n (t + 1) P7.1 P7.2.1.2.2.1
        have P8 := P7.passed F8 C8
        refine qU (fun T_ k_ => r_callV (pc := 10) (N := mX2_pass) (rest := []) (S8) okX2_pass lkX2_40 rfl (by decide) rfl rfl rfl (Nat.le_of_ble_eq_true rfl) ⟨Nat.le_refl _, Nat.le_refl _⟩ dX2_readEarlier_10 k_) ?_
        refine qU (fun T_ k_ => r_aload_n (pc := 13) dX2_readEarlier_13 rfl k_) ?_
        refine qU (fun T_ k_ => r_getV (pc := 14) (v := tokI (tkK tx n (t + 1)) (tkV tx n (t + 1))) dX2_readEarlier_14 fX2_43 rfl rfl (P8.2.1.1) k_) ?_
        refine qU (fun T_ k_ => r_bipush (pc := 17) dX2_readEarlier_17 bp_m2 k_) ?_
        refine qN (fun T_ => r_icmp_ne (pc := 19) (tgt := 36) dX2_readEarlier_19 (by decide)) (fun c2 => ?_) (fun c2 => ?_)
        · refine qU (fun T_ k_ => r_iconst (pc := 36) (v := -1) dX2_readEarlier_36 rfl k_) ?_
          exact ⟨_, ⟨_, rfl, ((FRr.refl I (b0 + l.length)).nodes _).trans (FRr.ofp F8) (Nat.le_refl _), P8.2.1⟩, r_iret dX2_readEarlier_37 rfl rfl rfl⟩
        · exact absurd ((tokI_m2 bd1.1 bd1.2.1).mp c2) hk
      · exact absurd c1 (by decide)
def INN (L : ML) (tx : Nat → Nat) (n F : Nat) (rt : Nat → Nat) (sg ng : Nat → Int32) (b0 : Nat) (X : Ctx) (d dp : Nat) (rs : Nat → Nat → List Q4 → RD) : Prop := ∀ (I : MI) (t c : Nat) (l : List Q4), PS I tx n F rt sg ng b0 t c l → ∃ T, QR I L tx n F rt sg ng b0 c l (rs t c l) T ∧ Sp X mX2_readSum d (0, 0) [.ref 11, .int (nI dp)] shF I L T
def rdInn (K V : Nat → Nat) (rs : Nat → Nat → List Q4 → RD) (t c : Nat) (l : List Q4) : RD := match rs (t + 1) c l with
  | .inl u => .inl u
  | .inr (i, u, c', l') => if K u = 1 ∧ V u = 41 then .inr (i, u + 1, c', l') else .inl u
theorem s_readInner_0 (X : Ctx) (d : Nat) (I : MI) (L : ML) (tx : Nat → Nat) (n F : Nat) (rt : Nat → Nat) (sg ng : Nat → Int32) (b0 t c : Nat) (l : List Q4) (h : PS I tx n F rt sg ng b0 t c l) : ∃ T, QR I L tx n F rt sg ng b0 c l (.inl t) T ∧ Sp X mX2_readInner (d + 3) (0, 0) [.ref 11, .int (nI 8)] shF I L T := by
  refine qU (fun T_ k_ => Sp.of okX2_readInner [.ref 11, .int (nI 8), .null] 1 rfl (Nat.le_of_ble_eq_true rfl) k_) ?_
  refine qU (fun T_ k_ => r_iload_n (pc := 0) dX2_readInner_0 rfl k_) ?_
  refine qU (fun T_ k_ => r_bipush (pc := 1) dX2_readInner_1 bp_8 k_) ?_
  refine qP (fun T_ => r_icmpN_lt (pc := 3) (tgt := 8) dX2_readInner_3 (by decide) (by omega) (by omega)) (fun c1 => ?_) (fun c1 => ?_)
  · exact absurd c1 (by decide)
  · refine qU (fun T_ k_ => r_iconst (pc := 6) (v := -1) dX2_readInner_6 rfl k_) ?_
    exact ⟨_, ⟨_, rfl, FRr.refl I (b0 + l.length), h.2.1⟩, r_iret dX2_readInner_7 rfl rfl rfl⟩
theorem s_readInner_s (X : Ctx) (d : Nat) (I : MI) (L : ML) (tx : Nat → Nat) (n F : Nat) (rt : Nat → Nat) (sg ng : Nat → Int32) (b0 t c : Nat) (l : List Q4) (h : PS I tx n F rt sg ng b0 t c l) (dp : Nat) (hdp : dp < 8) (rs : Nat → Nat → List Q4 → RD) (hin : INN L tx n F rt sg ng b0 X (d + 2) (dp + 1) rs) : ∃ T, QR I L tx n F rt sg ng b0 c l (rdInn (tkK tx n) (tkV tx n) rs t c l) T ∧ Sp X mX2_readInner (d + 3) (0, 0) [.ref 11, .int (nI dp)] shF I L T := by
  refine qU (fun T_ k_ => Sp.of okX2_readInner [.ref 11, .int (nI dp), .null] 1 rfl (Nat.le_of_ble_eq_true rfl) k_) ?_
  refine qU (fun T_ k_ => r_iload_n (pc := 0) dX2_readInner_0 rfl k_) ?_
  refine qU (fun T_ k_ => r_bipush (pc := 1) dX2_readInner_1 bp_8 k_) ?_
  refine qP (fun T_ => r_icmpN_lt (pc := 3) (tgt := 8) dX2_readInner_3 (by decide) (by omega) (by omega)) (fun c1 => ?_) (fun c1 => ?_)
  · refine qU (fun T_ k_ => r_aload_n (pc := 8) dX2_readInner_8 rfl k_) ?_
    obtain ⟨T9, ⟨J9, rfl, F9, C9⟩, S9⟩ := s_pass X d I L tx n (t + 1) h.1 h.2.1.2.2.1
    have P9 := h.passed F9 C9
    refine qU (fun T_ k_ => r_callV (pc := 9) (N := mX2_pass) (rest := []) (S9) okX2_pass lkX2_40 rfl (by decide) rfl rfl rfl (Nat.le_of_ble_eq_true rfl) ⟨Nat.le_refl _, Nat.le_refl _⟩ dX2_readInner_9 k_) ?_
    refine qU (fun T_ k_ => r_aload_n (pc := 12) dX2_readInner_12 rfl k_) ?_
    refine qU (fun T_ k_ => r_iload_n (pc := 13) dX2_readInner_13 rfl k_) ?_
    refine qU (fun T_ k_ => r_iconst (pc := 14) (v := nI 1) dX2_readInner_14 rfl k_) ?_
    refine qU (fun T_ k_ => r_iaddN (pc := 15) dX2_readInner_15 k_) ?_
    obtain ⟨T10, Q10, S10⟩ := hin J9 (t + 1) c l P9
    unfold rdInn
    cases R10 : rs (t + 1) c l
    · rename_i u
      rw [R10] at Q10
      obtain ⟨J10, rfl, F10, C10⟩ := Q10
      refine qU (fun T_ k_ => r_callV (pc := 16) (N := mX2_readSum) (rest := []) (S10) okX2_readSum lkX2_90 rfl (by decide) rfl rfl rfl (Nat.le_of_ble_eq_true rfl) ⟨Nat.le_refl _, Nat.le_refl _⟩ dX2_readInner_16 k_) ?_
      refine qU (fun T_ k_ => r_istore_n (pc := 19) (lo1 := [.ref 11, .int (nI dp), .int (-1)]) dX2_readInner_19 rfl (by decide) rfl k_) ?_
      refine qU (fun T_ k_ => r_iload_n (pc := 20) dX2_readInner_20 rfl k_) ?_
      refine qU (fun T_ k_ => r_iconst (pc := 21) (v := -1) dX2_readInner_21 rfl k_) ?_
      refine qP (fun T_ => r_icmp_eq (pc := 22) (tgt := 34) dX2_readInner_22 (by decide)) (fun c2 => ?_) (fun c2 => ?_)
      · refine qU (fun T_ k_ => r_iconst (pc := 34) (v := -1) dX2_readInner_34 rfl k_) ?_
        exact ⟨_, ⟨_, rfl, (FRr.refl I (b0 + l.length)).trans ((FRr.ofp F9).trans F10 (Nat.le_refl _)) (Nat.le_refl _), C10⟩, r_iret dX2_readInner_35 rfl rfl rfl⟩
      · exact absurd rfl c2
    · rename_i v10
      obtain ⟨i, u, cc, ll⟩ := v10
      rw [R10] at Q10
      obtain ⟨J10, rfl, F10, P10, G10⟩ := Q10
      have hl10 := G10.1
      have hb10 := P10.2.2.2.2.1.2.2.1
      have hc10 := P10.2.2.2.2.2.2.1
      have hd10 := P10.2.2.2.1
      have hi10 := G10.2.1
      have bd10 := tk_bd P10.1 u
      dsimp only
      refine qU (fun T_ k_ => r_callV (pc := 16) (N := mX2_readSum) (rest := []) (S10) okX2_readSum lkX2_90 rfl (by decide) rfl rfl rfl (Nat.le_of_ble_eq_true rfl) ⟨Nat.le_refl _, Nat.le_refl _⟩ dX2_readInner_16 k_) ?_
      refine qU (fun T_ k_ => r_istore_n (pc := 19) (lo1 := [.ref 11, .int (nI dp), .int (nI (b0 + i))]) dX2_readInner_19 rfl (by decide) rfl k_) ?_
      refine qU (fun T_ k_ => r_iload_n (pc := 20) dX2_readInner_20 rfl k_) ?_
      refine qU (fun T_ k_ => r_iconst (pc := 21) (v := -1) dX2_readInner_21 rfl k_) ?_
      refine qP (fun T_ => r_icmp_eq (pc := 22) (tgt := 34) dX2_readInner_22 (by decide)) (fun c3 => ?_) (fun c3 => ?_)
      · exact absurd c3 (nI_nm1 (by omega))
      · refine qU (fun T_ k_ => r_aload_n (pc := 25) dX2_readInner_25 rfl k_) ?_
        refine qU (fun T_ k_ => r_getV (pc := 26) (v := tokI (tkK tx n (u)) (tkV tx n (u))) dX2_readInner_26 fX2_43 rfl rfl (P10.2.1.1) k_) ?_
        refine qU (fun T_ k_ => r_bipush (pc := 29) dX2_readInner_29 bp_41 k_) ?_
        refine qP (fun T_ => r_icmp_eq (pc := 31) (tgt := 36) dX2_readInner_31 (by decide)) (fun c4 => ?_) (fun c4 => ?_)
        · refine qU (fun T_ k_ => r_aload_n (pc := 36) dX2_readInner_36 rfl k_) ?_
          obtain ⟨T11, ⟨J11, rfl, F11, C11⟩, S11⟩ := s_pass X d J10 L tx n (u + 1) P10.1 P10.2.1.2.2.1
          have P11 := P10.passed F11 C11
          refine qU (fun T_ k_ => r_callV (pc := 37) (N := mX2_pass) (rest := []) (S11) okX2_pass lkX2_40 rfl (by decide) rfl rfl rfl (Nat.le_of_ble_eq_true rfl) ⟨Nat.le_refl _, Nat.le_refl _⟩ dX2_readInner_37 k_) ?_
          refine qU (fun T_ k_ => r_iload_n (pc := 40) dX2_readInner_40 rfl k_) ?_
          rw [if_pos ((tokI_ch bd10.1 bd10.2.1 (by decide)).mp c4)]
          exact ⟨_, ⟨_, rfl, ((FRr.refl I (b0 + l.length)).trans ((FRr.ofp F9).trans F10 (Nat.le_refl _)) (Nat.le_refl _)).trans (FRr.ofp F11) (Nat.le_refl _), P11, G10.fr F11⟩, r_iret dX2_readInner_41 rfl rfl rfl⟩
        · refine qU (fun T_ k_ => r_iconst (pc := 34) (v := -1) dX2_readInner_34 rfl k_) ?_
          rw [if_neg (fun z => c4 ((tokI_ch bd10.1 bd10.2.1 (by decide)).mpr z))]
          exact ⟨_, ⟨_, rfl, (FRr.refl I (b0 + l.length)).trans ((FRr.ofp F9).trans F10 (Nat.le_refl _)) (Nat.le_refl _), P10.2.1⟩, r_iret dX2_readInner_35 rfl rfl rfl⟩
  · exact absurd c1 (by omega)
