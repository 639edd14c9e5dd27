theorem neg10 {p : Nat} (h : p ≤ 100) : ¬ (0 : Int32) ≤ -10 - nI p := by
  rw [Int32.le_iff_toInt_le, Int32.toInt_sub, nI_toInt (by omega), show ((0 : Int32)).toInt = 0 from rfl, show ((-10 : Int32)).toInt = -10 by decide]
  rw [Int.bmod_eq_of_le (by omega) (by omega)]
  omega
theorem tkP_le {tx : Nat → Nat} {n : Nat} (t : Nat) : tkP tx n t ≤ n := by
  have a := tokP_le tx (bps_le tx n t)
  show (tokP tx n (bps tx n t)).1 ≤ n
  omega
theorem rdAll_le {K V : Nat → Nat} : ∀ {f i t : Nat} {D : Nat → Int32} {fs : List (List Q4)} {j : Nat} {r : (Nat → Int32) × List (List Q4)}, rdAll K V f i t D fs = .inr (j, r) → j ≤ i + f
  | 0, i, t, D, fs, j, r, h => by
    unfold rdAll at h
    cases h
    exact Nat.le_refl _
  | f + 1, i, t, D, fs, j, r, h => by
    unfold rdAll at h
    by_cases hE : K t = 0
    · rw [if_pos hE] at h
      cases h
      omega
    · rw [if_neg hE] at h
      cases hR : rdItem K V t D fs with
      | inl u => rw [hR] at h; cases h
      | inr v =>
        obtain ⟨u, D2, fs2⟩ := v
        rw [hR] at h
        have := rdAll_le (f := f) h
        omega
/-- the reader made ready -/
abbrev rdM (I : MI) : MI := u2 (u2 (u2 (flA (flA I 13 6 (nI 0)) 14 36 (nI 0)) 15 6 (nI 0)) 15 7 (nI 0)) 11 6 (nI 0)
theorem rdM_tx {I : MI} {tx : Nat → Nat} {n : Nat} (h : TXc I tx n) : TXc (rdM I) tx n := ⟨h.1, h.2.1, fun j hj => h.2.2 j hj⟩
theorem rdM_x (I : MI) : FRx I (rdM I) := fun c j q1 q2 q3 q4 => by
  refine (u2_ne (by omega)).trans ((u2_ne (by omega)).trans ((u2_ne (by omega)).trans ?_))
  show (if c = 14 then _ else (if c = 13 then _ else I c)) j = _
  rw [if_neg q3, if_neg q2]
theorem rdM_fg (I : MI) : FG (rdM I) 13 14 (fun _ => nI 0) := by
  refine ⟨fun j hj => ?_, fun x hx y hy => ?_⟩
  · show (if j < 6 then nI 0 else I 13 j) = nI 0
    exact if_pos hj
  · show (if x * 6 + y < 36 then nI 0 else I 14 (x * 6 + y)) = if x = y then nI 0 else nI 0
    rw [if_pos (by omega)]
    by_cases h : x = y
    · rw [if_pos h]
    · rw [if_neg h]
theorem rdM_tp (I : MI) : TPa (rdM I) 15 [] := ⟨rfl, Nat.zero_le _, rfl, fun g hg => absurd hg (Nat.not_lt_zero g)⟩
/-- the desk told anew -/
abbrev dkM (I : MI) : MI := u2 (u2 (u2 (u2 (u2 (u2 (u2 (cpA (cp5 (cpA (cpA I 2 13 6) 3 14 36) 80) 10 21 4) 4 6 ((cpA (cpA I 2 13 6) 3 14 36) 15 6)) 4 7 ((cpA (cpA I 2 13 6) 3 14 36) 15 7)) 11 3 (nI 0)) 23 3 (nI 0)) 0 11 (nI 0)) 0 7 (nI 0)) 0 8 (nI 0)
theorem dkM_fg {I : MI} {D : Nat → Int32} (h : FG I 13 14 D) : FG (dkM I) 2 3 D := by
  refine ⟨fun j hj => ?_, fun x hx y hy => ?_⟩
  · show (if j < 6 then I 13 j else I 2 j) = _
    rw [if_pos hj]
    exact h.1 j hj
  · show (if x * 6 + y < 36 then I 14 (x * 6 + y) else I 3 (x * 6 + y)) = _
    rw [if_pos (by omega)]
    exact h.2 x hx y hy
theorem dkM_tp {I : MI} {fs : List (List Q4)} (h : TPa I 15 fs) : TPa (dkM I) 4 fs := by
  have hb := h.b80 (Nat.le_refl _)
  have h4 := h.2.1
  refine h.tr rfl rfl (fun j hj => ?_) (fun j hj => ?_)
  · have h8 : j < 80 := by omega
    exact ⟨(show (if j < 80 then I 16 j else I 5 j) = I 16 j from if_pos h8), (show (if j < 80 then I 17 j else I 6 j) = I 17 j from if_pos h8), (show (if j < 80 then I 18 j else I 7 j) = I 18 j from if_pos h8), (show (if j < 80 then I 19 j else I 8 j) = I 19 j from if_pos h8), (show (if j < 80 then I 20 j else I 9 j) = I 20 j from if_pos h8)⟩
  · exact (show (if j < 4 then I 21 j else I 10 j) = I 21 j from if_pos (by omega))
def QD (I : MI) (L : ML) (tx : Nat → Nat) (n : Nat) (r : RI) (T : TR) : Prop := match r with
  | .inl u => ∃ J, T = (some (.int (-10 - nI (tkP tx n u))), shF, J, L) ∧ FRx I J
  | .inr (i, D, fs) => ∃ J, T = (some (.int (nI i)), shF, J, L) ∧ FG J 2 3 D ∧ TPa J 4 fs ∧ J 11 3 = nI 0 ∧ J 23 3 = nI 0 ∧ J 0 11 = nI 0 ∧ J 0 7 = nI 0 ∧ J 0 8 = nI 0 ∧ ∀ c, 42 ≤ c → J c = I c
theorem dkM_hi {I : MI} {c : Nat} (hc : 42 ≤ c) : dkM I c = I c := by
  have e1 : cpA (cpA I 2 13 6) 3 14 36 c = I c := (if_neg (show ¬ c = 3 by omega)).trans (if_neg (show ¬ c = 2 by omega))
  have e2 : cp5 (cpA (cpA I 2 13 6) 3 14 36) 80 c = I c := (if_neg (show ¬ (5 ≤ c ∧ c ≤ 9) by omega)).trans e1
  exact (u2_off (by omega)).trans ((u2_off (by omega)).trans ((u2_off (by omega)).trans ((u2_off (by omega)).trans ((u2_off (by omega)).trans ((u2_off (by omega)).trans ((u2_off (by omega)).trans ((if_neg (show ¬ c = 10 by omega)).trans e2)))))))
theorem FRx.hi {I J : MI} (h : FRx I J) {c : Nat} (hc : 42 ≤ c) : J c = I c := funext fun j => h c j (by omega) (by omega) (by omega) (by omega)
theorem s_read (X : Ctx) (d : Nat) (I : MI) (L : ML) (tx : Nat → Nat) (n : Nat) (hX : TXc I tx n) : ∃ T, QA I L tx n (rdAll (tkK tx n) (tkV tx n) 100 0 0 (fun _ => nI 0) []) T ∧ Sp X mX2_read (d + 59) (0, 0) [.ref 11] shF I L T := by
  refine qU (fun T_ k_ => Sp.of okX2_read [.ref 11, .null] 1 rfl (Nat.le_of_ble_eq_true rfl) k_) ?_
  refine qU (fun T_ k_ => r_aload_n (pc := 0) dX2_read_0 rfl k_) ?_
  refine qU (fun T_ k_ => r_getR (pc := 1) (b := 12) dX2_read_1 fX2_12 rfl rfl k_) ?_
  refine qU (fun T_ k_ => r_callV (pc := 4) (N := mX0_reset) (rest := []) (s_reset_12 X _ I L) okX0_reset lkX2_33 rfl (by decide) rfl rfl rfl (Nat.le_of_ble_eq_true rfl) ⟨Nat.le_refl _, Nat.le_refl _⟩ dX2_read_4 k_) ?_
  refine qU (fun T_ k_ => r_aload_n (pc := 7) dX2_read_7 rfl k_) ?_
  refine qU (fun T_ k_ => r_getR (pc := 8) (b := 15) dX2_read_8 fX2_21 rfl rfl k_) ?_
  refine qU (fun T_ k_ => r_callV (pc := 11) (N := mX4_reset) (rest := []) (s_treset X _ (flA (flA I 13 6 (nI 0)) 14 36 (nI 0)) L) okX4_reset lkX2_36 rfl (by decide) rfl rfl rfl (Nat.le_of_ble_eq_true rfl) ⟨Nat.le_refl _, Nat.le_refl _⟩ dX2_read_11 k_) ?_
  refine qU (fun T_ k_ => r_aload_n (pc := 14) dX2_read_14 rfl k_) ?_
  refine qU (fun T_ k_ => r_iconst (pc := 15) (v := nI 0) dX2_read_15 rfl k_) ?_
  refine qU (fun T_ k_ => r_put (pc := 16) .int dX2_read_16 fX2_37 rfl rfl nf2_6 rfl rfl k_) ?_
  refine qU (fun T_ k_ => r_aload_n (pc := 19) dX2_read_19 rfl k_) ?_
  obtain ⟨T0, ⟨J0, rfl, F0, C0⟩, S0⟩ := s_pass X (d + 56) (rdM I) L tx n 0 (rdM_tx hX) rfl
  refine qU (fun T_ k_ => r_callV (pc := 20) (N := mX2_pass) (rest := []) (S0) okX2_pass lkX2_40 rfl (by decide) rfl rfl rfl (Nat.le_of_ble_eq_true rfl) ⟨Nat.le_refl _, Nat.le_refl _⟩ dX2_read_20 k_) ?_
  refine qU (fun T_ k_ => r_iconst (pc := 23) (v := nI 0) dX2_read_23 rfl k_) ?_
  refine qU (fun T_ k_ => r_istore_n (pc := 24) (lo1 := [.ref 11, .int (nI 0)]) dX2_read_24 rfl (by decide) rfl k_) ?_
  exact lp_read X d I L tx n 100 0 0 J0 (fun _ => nI 0) [] rfl ⟨(rdM_tx hX).fr F0, C0⟩ ((rdM_x I).pass F0) ((rdM_fg I).fr (F0.c (by decide)) (F0.c (by decide))) ((rdM_tp I).fr (fun c q1 q2 => F0.c (by omega)))
theorem p_desk (X : Ctx) (d : Nat) (I : MI) (L : ML) (tx : Nat → Nat) (n : Nat) (hX : TXc I tx n) : ∃ T, QD I L tx n (rdAll (tkK tx n) (tkV tx n) 100 0 0 (fun _ => nI 0) []) T ∧ Sp X mX5_desk (d + 60) (0, 0) [.ref 0] shF I L T := by
  refine qU (fun T_ k_ => Sp.of okX5_desk [.ref 0, .null] 1 rfl (Nat.le_of_ble_eq_true rfl) k_) ?_
  refine qU (fun T_ k_ => r_aload_n (pc := 0) dX5_desk_0 rfl k_) ?_
  refine qU (fun T_ k_ => r_getR (pc := 1) (b := 11) dX5_desk_1 fX5_26 rfl rfl k_) ?_
  obtain ⟨T87, Q87, S87⟩ := s_read X d I L tx n hX
  cases R87 : rdAll (tkK tx n) (tkV tx n) 100 0 0 (fun _ => nI 0) []
  · rename_i u87
    rw [R87] at Q87
    obtain ⟨J87, rfl, F87⟩ := Q87
    have hp87 := tkP_le (tx := tx) (n := n) u87
    have hn := hX.2.1
    refine qU (fun T_ k_ => r_callV (pc := 4) (N := mX2_read) (rest := []) (S87) okX2_read lkX5_77 rfl (by decide) rfl rfl rfl (Nat.le_of_ble_eq_true rfl) ⟨Nat.le_refl _, Nat.le_refl _⟩ dX5_desk_4 k_) ?_
    refine qU (fun T_ k_ => r_istore_n (pc := 7) (lo1 := [.ref 0, .int (-10 - nI (tkP tx n u87))]) dX5_desk_7 rfl (by decide) rfl k_) ?_
    refine qU (fun T_ k_ => r_iload_n (pc := 8) dX5_desk_8 rfl k_) ?_
    refine qP (fun T_ => r_if_ge (pc := 9) (tgt := 14) dX5_desk_9 (by decide)) (fun c1 => ?_) (fun c1 => ?_)
    · exact absurd c1 (neg10 (by omega))
    · refine qU (fun T_ k_ => r_iload_n (pc := 12) dX5_desk_12 rfl k_) ?_
      exact ⟨_, ⟨_, rfl, F87⟩, r_iret dX5_desk_13 rfl rfl rfl⟩
  · rename_i v87
    obtain ⟨i87, d87, l87⟩ := v87
    rw [R87] at Q87
    obtain ⟨J87, rfl, F87, G87, Y87⟩ := Q87
    have hi87 := rdAll_le R87
    refine qU (fun T_ k_ => r_callV (pc := 4) (N := mX2_read) (rest := []) (S87) okX2_read lkX5_77 rfl (by decide) rfl rfl rfl (Nat.le_of_ble_eq_true rfl) ⟨Nat.le_refl _, Nat.le_refl _⟩ dX5_desk_4 k_) ?_
    refine qU (fun T_ k_ => r_istore_n (pc := 7) (lo1 := [.ref 0, .int (nI i87)]) dX5_desk_7 rfl (by decide) rfl k_) ?_
    refine qU (fun T_ k_ => r_iload_n (pc := 8) dX5_desk_8 rfl k_) ?_
    refine qP (fun T_ => r_ifN_ge (pc := 9) (tgt := 14) dX5_desk_9 (by decide) (by omega)) (fun c2 => ?_) (fun c2 => ?_)
    · refine qU (fun T_ k_ => r_aload_n (pc := 14) dX5_desk_14 rfl k_) ?_
      refine qU (fun T_ k_ => r_getR (pc := 15) (b := 1) dX5_desk_15 fX5_12 rfl rfl k_) ?_
      refine qU (fun T_ k_ => r_aload_n (pc := 18) dX5_desk_18 rfl k_) ?_
      refine qU (fun T_ k_ => r_getR (pc := 19) (b := 11) dX5_desk_19 fX5_26 rfl rfl k_) ?_
      refine qU (fun T_ k_ => r_getR (pc := 22) (b := 12) dX5_desk_22 fX5_80 rfl rfl k_) ?_
      refine qU (fun T_ k_ => r_callV (pc := 25) (N := mX0_take) (rest := []) (s_take_1_12 X _ J87 L) okX0_take lkX5_81 rfl (by decide) rfl rfl rfl (Nat.le_of_ble_eq_true rfl) ⟨Nat.le_refl _, Nat.le_refl _⟩ dX5_desk_25 k_) ?_
      refine qU (fun T_ k_ => r_aload_n (pc := 28) dX5_desk_28 rfl k_) ?_
      refine qU (fun T_ k_ => r_getR (pc := 29) (b := 4) dX5_desk_29 fX5_19 rfl rfl k_) ?_
      refine qU (fun T_ k_ => r_aload_n (pc := 32) dX5_desk_32 rfl k_) ?_
      refine qU (fun T_ k_ => r_getR (pc := 33) (b := 11) dX5_desk_33 fX5_26 rfl rfl k_) ?_
      refine qU (fun T_ k_ => r_getR (pc := 36) (b := 15) dX5_desk_36 fX5_85 rfl rfl k_) ?_
      refine qU (fun T_ k_ => r_callV (pc := 39) (N := mX4_take) (rest := []) (s_ttake X _ (cpA (cpA J87 2 13 6) 3 14 36) L) okX4_take lkX5_86 rfl (by decide) rfl rfl rfl (Nat.le_of_ble_eq_true rfl) ⟨Nat.le_refl _, Nat.le_refl _⟩ dX5_desk_39 k_) ?_
      refine qU (fun T_ k_ => r_aload_n (pc := 42) dX5_desk_42 rfl k_) ?_
      refine qU (fun T_ k_ => r_getR (pc := 43) (b := 11) dX5_desk_43 fX5_26 rfl rfl k_) ?_
      refine qU (fun T_ k_ => r_callV (pc := 46) (N := mX2_drop) (rest := []) (s_drop X _ (u2 (u2 (cpA (cp5 (cpA (cpA J87 2 13 6) 3 14 36) 80) 10 21 4) 4 6 ((cpA (cpA J87 2 13 6) 3 14 36) 15 6)) 4 7 ((cpA (cpA J87 2 13 6) 3 14 36) 15 7)) L) okX2_drop lkX5_74 rfl (by decide) rfl rfl rfl (Nat.le_of_ble_eq_true rfl) ⟨Nat.le_refl _, Nat.le_refl _⟩ dX5_desk_46 k_) ?_
      refine qU (fun T_ k_ => r_aload_n (pc := 49) dX5_desk_49 rfl k_) ?_
      refine qU (fun T_ k_ => r_getR (pc := 50) (b := 23) dX5_desk_50 fX5_33 rfl rfl k_) ?_
      refine qU (fun T_ k_ => r_callV (pc := 53) (N := mX1_lose) (rest := []) (s_lose X _ (u2 (u2 (u2 (cpA (cp5 (cpA (cpA J87 2 13 6) 3 14 36) 80) 10 21 4) 4 6 ((cpA (cpA J87 2 13 6) 3 14 36) 15 6)) 4 7 ((cpA (cpA J87 2 13 6) 3 14 36) 15 7)) 11 3 (nI 0)) L) okX1_lose lkX5_89 rfl (by decide) rfl rfl rfl (Nat.le_of_ble_eq_true rfl) ⟨Nat.le_refl _, Nat.le_refl _⟩ dX5_desk_53 k_) ?_
      refine qU (fun T_ k_ => r_aload_n (pc := 56) dX5_desk_56 rfl k_) ?_
      refine qU (fun T_ k_ => r_iconst (pc := 57) (v := nI 0) dX5_desk_57 rfl k_) ?_
      refine qU (fun T_ k_ => r_put (pc := 58) .int dX5_desk_58 fX5_92 rfl rfl nf5_11 rfl rfl k_) ?_
      refine qU (fun T_ k_ => r_aload_n (pc := 61) dX5_desk_61 rfl k_) ?_
      refine qU (fun T_ k_ => r_iconst (pc := 62) (v := nI 0) dX5_desk_62 rfl k_) ?_
      refine qU (fun T_ k_ => r_put (pc := 63) .boolean dX5_desk_63 fX5_96 rfl rfl nf5_7 (by decide) rfl k_) ?_
      refine qU (fun T_ k_ => r_aload_n (pc := 66) dX5_desk_66 rfl k_) ?_
      refine qU (fun T_ k_ => r_iconst (pc := 67) (v := nI 0) dX5_desk_67 rfl k_) ?_
      refine qU (fun T_ k_ => r_put (pc := 68) .boolean dX5_desk_68 fX5_100 rfl rfl nf5_8 (by decide) rfl k_) ?_
      refine qU (fun T_ k_ => r_iload_n (pc := 71) dX5_desk_71 rfl k_) ?_
      exact ⟨_, ⟨dkM J87, rfl, dkM_fg G87, dkM_tp Y87, rfl, rfl, rfl, rfl, rfl, fun c hc => (dkM_hi hc).trans (F87.hi hc)⟩, r_iret dX5_desk_72 rfl rfl rfl⟩
    · exact absurd c2 (by omega)
