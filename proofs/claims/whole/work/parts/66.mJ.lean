def FRt (I J : MI) : Prop := ∀ c j, ¬ (c = 42 ∧ 3 ≤ j ∧ j ≤ 7) → c ≠ 54 → J c j = I c j
theorem FRt.refl (I : MI) : FRt I I := fun _ _ _ _ => rfl
theorem FRt.p54 {I J : MI} (h : FRt I J) (j : Nat) (x : Int32) : FRt I (u2 J 54 j x) := fun c i q1 q2 => (u2_ne (by omega)).trans (h c i q1 q2)
def FRv (I J : MI) : Prop := ∀ c j, ¬ (c = 42 ∧ 3 ≤ j ∧ j ≤ 7) → J c j = I c j
theorem FRv.refl (I : MI) : FRv I I := fun _ _ _ => rfl
theorem FRv.trans {I J H : MI} (h : FRv I J) (h2 : FRv J H) : FRv I H := fun c j q1 => (h2 c j q1).trans (h c j q1)
theorem FRm.v {I J : MI} (h : FRm I J) : FRv I J := fun c j q1 => h c j (by omega)
theorem FRv.t {I J : MI} (h : FRv I J) : FRt I J := fun c j q1 q2 => h c j q1
theorem FRv.put {I J : MI} (h : FRv I J) (j : Nat) (x : Int32) (hj : 3 ≤ j ∧ j ≤ 7) : FRv I (u2 J 42 j x) := fun c i q1 => (u2_ne (by omega)).trans (h c i q1)
def FGm (I : MI) (D : Nat → Int32) : Prop := ∀ j, j < 48 → I 54 j = D j
theorem FGm.fr {I J : MI} {D : Nat → Int32} (h : FGm I D) (hF : ∀ j, J 54 j = I 54 j) : FGm J D := fun j hj => (hF j).trans (h j hj)
theorem FGm.put {I : MI} {D : Nat → Int32} (h : FGm I D) (j : Nat) (x : Int32) : FGm (u2 I 54 j x) (up D j x) := fun i hi => by
  rw [u2_on]
  show (if i = j then x else I 54 i) = if i = j then x else D i
  rw [h i hi]
theorem PM.u54 {J : MI} {tx : Nat → Nat} {n t : Nat} (h : PM J tx n t) (j : Nat) (x : Int32) : PM (u2 J 54 j x) tx n t := ⟨⟨h.1.1, h.1.2.1, fun k hk => h.1.2.2 k hk⟩, ⟨h.2.1.1, h.2.1.2.1, h.2.1.2.2.1, h.2.1.2.2.2⟩, h.2.2⟩
theorem neg1_mul (x : Int32) : (-1 : Int32) * x = -x := (Int32.neg_mul 1 x).trans (congrArg (fun y => -y) (Int32.one_mul x))
theorem s_signed_n (X : Ctx) (d : Nat) (I : MI) (L : ML) (p : Nat) (h7 : I 42 7 = nI p) (hp : p ≤ 100) : Sp X mX6_signed (d + 4) (0, 0) [.ref 42] shF I L (some (.int (nI 0)), shF, I, L) := by
  refine Sp.of okX6_signed [.ref 42, .null, .null] 2 rfl (Nat.le_of_ble_eq_true rfl) ?_
  refine r_aload_n (pc := 0) dX6_signed_0 rfl ?_
  refine r_bipush (pc := 1) dX6_signed_1 bp_45 ?_
  refine r_callV (pc := 3) (N := mX6_isThis) (rest := []) (s_isThis_n X _ I L (45) p h7 hp) okX6_isThis lkX6_134 rfl (by decide) rfl rfl rfl (Nat.le_of_ble_eq_true rfl) ⟨Nat.le_refl _, Nat.le_refl _⟩ dX6_signed_3 ?_
  refine r_istore_n (pc := 6) (lo1 := [.ref 42, .int (nI 0), .null]) dX6_signed_6 rfl (by decide) rfl ?_
  refine r_iload_n (pc := 7) dX6_signed_7 rfl ?_
  refine r_ifN_eq (pc := 8) (tgt := 17) dX6_signed_8 (by decide) (by omega) (fun c1 => ?_) (fun c1 => ?_)
  · refine r_aload_n (pc := 17) dX6_signed_17 rfl ?_
    refine r_aload_n (pc := 18) dX6_signed_18 rfl ?_
    refine r_iconst (pc := 19) (v := nI 0) dX6_signed_19 rfl ?_
    refine r_bipush (pc := 20) dX6_signed_20 bp_99 ?_
    refine r_callV (pc := 22) (N := mX6_isNumber) (rest := [.ref 42]) (s_isNumber_n X _ I L _ _ p h7 hp) okX6_isNumber lkX6_141 rfl (by decide) rfl rfl rfl (Nat.le_of_ble_eq_true rfl) ⟨Nat.le_refl _, Nat.le_refl _⟩ dX6_signed_22 ?_
    refine r_callV (pc := 25) (N := mX6_takes) (rest := []) (s_takes_n X _ I L _ p h7 hp) okX6_takes lkX6_137 rfl (by decide) rfl rfl rfl (Nat.le_of_ble_eq_true rfl) ⟨Nat.le_refl _, Nat.le_refl _⟩ dX6_signed_25 ?_
    refine r_istore_n (pc := 28) (lo1 := [.ref 42, .int (nI 0), .int (nI 0)]) dX6_signed_28 rfl (by decide) rfl ?_
    refine r_iload_n (pc := 29) dX6_signed_29 rfl ?_
    refine r_ifN_eq (pc := 30) (tgt := 38) dX6_signed_30 (by decide) (by omega) (fun c2 => ?_) (fun c2 => ?_)
    · refine r_iload_n (pc := 38) dX6_signed_38 rfl ?_
      exact r_iret dX6_signed_39 rfl (rfl) rfl
    · exact absurd c2 (by decide)
  · exact absurd c1 (by decide)
theorem s_signed_t (X : Ctx) (d : Nat) (I : MI) (L : ML) (tx : Nat → Nat) (n t : Nat) (h : PM I tx n t) (hU : tkK tx n (sgT (tkK tx n) (tkV tx n) t) = 2) : ∃ T, (fun T => ∃ J, T = (some (.int (sgO (tkK tx n) (tkV tx n) t * nI (tkV tx n (sgT (tkK tx n) (tkV tx n) t)))), shF, J, L) ∧ FRv I J ∧ PM J tx n (sgT (tkK tx n) (tkV tx n) t + 1)) T ∧ Sp X mX6_signed (d + 4) (0, 0) [.ref 42] shF I L T := by
  refine qU (fun T_ k_ => Sp.of okX6_signed [.ref 42, .null, .null] 2 rfl (Nat.le_of_ble_eq_true rfl) k_) ?_
  have bd := tm_bd h.1 t
  by_cases hM : tkK tx n t = 1 ∧ tkV tx n t = 45
  · have eU : sgT (tkK tx n) (tkV tx n) t = t + 1 := if_pos hM
    rw [eU] at hU ⊢
    have bd1 := tm_bd h.1 (t + 1)
    rw [show sgO (tkK tx n) (tkV tx n) t * nI (tkV tx n (t + 1)) = -(nI (tkV tx n (t + 1))) from (congrArg (fun y => y * nI (tkV tx n (t + 1))) (show sgO (tkK tx n) (tkV tx n) t = -1 from if_pos hM)).trans (neg1_mul _)]
    refine qU (fun T_ k_ => r_aload_n (pc := 0) dX6_signed_0 rfl k_) ?_
    refine qU (fun T_ k_ => r_bipush (pc := 1) dX6_signed_1 bp_45 k_) ?_
    refine qU (fun T_ k_ => r_callV (pc := 3) (N := mX6_isThis) (rest := []) (s_isThis_t X _ I L (45) tx n t h hM (by decide)) okX6_isThis lkX6_134 rfl (by decide) rfl rfl rfl (Nat.le_of_ble_eq_true rfl) ⟨Nat.le_refl _, Nat.le_refl _⟩ dX6_signed_3 k_) ?_
    refine qU (fun T_ k_ => r_istore_n (pc := 6) (lo1 := [.ref 42, .int (nI 1), .null]) dX6_signed_6 rfl (by decide) rfl k_) ?_
    refine qU (fun T_ k_ => r_iload_n (pc := 7) dX6_signed_7 rfl k_) ?_
    refine qP (fun T_ => r_ifN_eq (pc := 8) (tgt := 17) dX6_signed_8 (by decide) (by omega)) (fun c1 => ?_) (fun c1 => ?_)
    · exact absurd c1 (by decide)
    · refine qU (fun T_ k_ => r_aload_n (pc := 11) dX6_signed_11 rfl k_) ?_
      refine qU (fun T_ k_ => r_iconst (pc := 12) (v := nI 1) dX6_signed_12 rfl k_) ?_
      obtain ⟨T145, ⟨J145, rfl, F145, C145⟩, S145⟩ := s_takes_t X d I L tx n t h (45) ((h.2.1.2.2.2 (Or.inl hM.1)).trans (congrArg nI hM.2))
      have P145 := h.step F145 C145
      refine qU (fun T_ k_ => r_callV (pc := 13) (N := mX6_takes) (rest := []) (S145) okX6_takes lkX6_137 rfl (by decide) rfl rfl rfl (Nat.le_of_ble_eq_true rfl) ⟨Nat.le_refl _, Nat.le_refl _⟩ dX6_signed_13 k_) ?_
      refine qU (fun T_ k_ => r_pop (pc := 16) dX6_signed_16 rfl k_) ?_
      refine qU (fun T_ k_ => r_aload_n (pc := 17) dX6_signed_17 rfl k_) ?_
      refine qU (fun T_ k_ => r_aload_n (pc := 18) dX6_signed_18 rfl k_) ?_
      refine qU (fun T_ k_ => r_iconst (pc := 19) (v := nI 0) dX6_signed_19 rfl k_) ?_
      refine qU (fun T_ k_ => r_bipush (pc := 20) dX6_signed_20 bp_99 k_) ?_
      refine qU (fun T_ k_ => r_callV (pc := 22) (N := mX6_isNumber) (rest := [.ref 42]) (s_isNumber_t X _ J145 L 0 (99) (by omega) tx n (t + 1) P145 hU (Nat.zero_le _) (bd1.2.2 hU)) okX6_isNumber lkX6_141 rfl (by decide) rfl rfl rfl (Nat.le_of_ble_eq_true rfl) ⟨Nat.le_refl _, Nat.le_refl _⟩ dX6_signed_22 k_) ?_
      obtain ⟨T146, ⟨J146, rfl, F146, C146⟩, S146⟩ := s_takes_t X d J145 L tx n (t + 1) P145 (tkV tx n (t + 1)) (P145.2.1.2.2.2 (Or.inr hU))
      have P146 := P145.step F146 C146
      refine qU (fun T_ k_ => r_callV (pc := 25) (N := mX6_takes) (rest := []) (S146) okX6_takes lkX6_137 rfl (by decide) rfl rfl rfl (Nat.le_of_ble_eq_true rfl) ⟨Nat.le_refl _, Nat.le_refl _⟩ dX6_signed_25 k_) ?_
      refine qU (fun T_ k_ => r_istore_n (pc := 28) (lo1 := [.ref 42, .int (nI 1), .int (nI (tkV tx n (t + 1)))]) dX6_signed_28 rfl (by decide) rfl k_) ?_
      refine qU (fun T_ k_ => r_iload_n (pc := 29) dX6_signed_29 rfl k_) ?_
      refine qP (fun T_ => r_ifN_eq (pc := 30) (tgt := 38) dX6_signed_30 (by decide) (by omega)) (fun c2 => ?_) (fun c2 => ?_)
      · exact absurd c2 (by decide)
      · refine qU (fun T_ k_ => r_iload_n (pc := 33) dX6_signed_33 rfl k_) ?_
        refine qU (fun T_ k_ => r_ineg (pc := 34) dX6_signed_34 k_) ?_
        refine qU (fun T_ k_ => r_goto (pc := 35) (tgt := 39) dX6_signed_35 (by decide) k_) ?_
        exact ⟨_, ⟨_, rfl, ((FRv.refl I).trans F145.v).trans F146.v, P146⟩, r_iret dX6_signed_39 rfl rfl rfl⟩
  · have eU : sgT (tkK tx n) (tkV tx n) t = t := if_neg hM
    rw [eU] at hU ⊢
    rw [show sgO (tkK tx n) (tkV tx n) t * nI (tkV tx n t) = nI (tkV tx n t) from (congrArg (fun y => y * nI (tkV tx n t)) (show sgO (tkK tx n) (tkV tx n) t = 1 from if_neg hM)).trans (Int32.one_mul _)]
    refine qU (fun T_ k_ => r_aload_n (pc := 0) dX6_signed_0 rfl k_) ?_
    refine qU (fun T_ k_ => r_bipush (pc := 1) dX6_signed_1 bp_45 k_) ?_
    refine qU (fun T_ k_ => r_callV (pc := 3) (N := mX6_isThis) (rest := []) (s_isThis_f X _ I L (45) (by decide) tx n t h hM) okX6_isThis lkX6_134 rfl (by decide) rfl rfl rfl (Nat.le_of_ble_eq_true rfl) ⟨Nat.le_refl _, Nat.le_refl _⟩ dX6_signed_3 k_) ?_
    refine qU (fun T_ k_ => r_istore_n (pc := 6) (lo1 := [.ref 42, .int (nI 0), .null]) dX6_signed_6 rfl (by decide) rfl k_) ?_
    refine qU (fun T_ k_ => r_iload_n (pc := 7) dX6_signed_7 rfl k_) ?_
    refine qP (fun T_ => r_ifN_eq (pc := 8) (tgt := 17) dX6_signed_8 (by decide) (by omega)) (fun c1 => ?_) (fun c1 => ?_)
    · refine qU (fun T_ k_ => r_aload_n (pc := 17) dX6_signed_17 rfl k_) ?_
      refine qU (fun T_ k_ => r_aload_n (pc := 18) dX6_signed_18 rfl k_) ?_
      refine qU (fun T_ k_ => r_iconst (pc := 19) (v := nI 0) dX6_signed_19 rfl k_) ?_
      refine qU (fun T_ k_ => r_bipush (pc := 20) dX6_signed_20 bp_99 k_) ?_
      refine qU (fun T_ k_ => r_callV (pc := 22) (N := mX6_isNumber) (rest := [.ref 42]) (s_isNumber_t X _ I L 0 (99) (by omega) tx n t h hU (Nat.zero_le _) (bd.2.2 hU)) okX6_isNumber lkX6_141 rfl (by decide) rfl rfl rfl (Nat.le_of_ble_eq_true rfl) ⟨Nat.le_refl _, Nat.le_refl _⟩ dX6_signed_22 k_) ?_
      obtain ⟨T147, ⟨J147, rfl, F147, C147⟩, S147⟩ := s_takes_t X d I L tx n t h (tkV tx n t) (h.2.1.2.2.2 (Or.inr hU))
      have P147 := h.step F147 C147
      refine qU (fun T_ k_ => r_callV (pc := 25) (N := mX6_takes) (rest := []) (S147) okX6_takes lkX6_137 rfl (by decide) rfl rfl rfl (Nat.le_of_ble_eq_true rfl) ⟨Nat.le_refl _, Nat.le_refl _⟩ dX6_signed_25 k_) ?_
      refine qU (fun T_ k_ => r_istore_n (pc := 28) (lo1 := [.ref 42, .int (nI 0), .int (nI (tkV tx n t))]) dX6_signed_28 rfl (by decide) rfl k_) ?_
      refine qU (fun T_ k_ => r_iload_n (pc := 29) dX6_signed_29 rfl k_) ?_
      refine qP (fun T_ => r_ifN_eq (pc := 30) (tgt := 38) dX6_signed_30 (by decide) (by omega)) (fun c2 => ?_) (fun c2 => ?_)
      · refine qU (fun T_ k_ => r_iload_n (pc := 38) dX6_signed_38 rfl k_) ?_
        exact ⟨_, ⟨_, rfl, (FRv.refl I).trans F147.v, P147⟩, r_iret dX6_signed_39 rfl rfl rfl⟩
      · exact absurd c2 (by decide)
    · exact absurd c1 (by decide)
theorem s_signed_f (X : Ctx) (d : Nat) (I : MI) (L : ML) (tx : Nat → Nat) (n t : Nat) (h : PM I tx n t) (hU : ¬ tkK tx n (sgT (tkK tx n) (tkV tx n) t) = 2) : ∃ T, (fun T => ∃ x J, T = (some (.int x), shF, J, L) ∧ FRv I J ∧ J 42 7 = nI (tkP tx n (sgT (tkK tx n) (tkV tx n) t))) T ∧ Sp X mX6_signed (d + 4) (0, 0) [.ref 42] shF I L T := by
  refine qU (fun T_ k_ => Sp.of okX6_signed [.ref 42, .null, .null] 2 rfl (Nat.le_of_ble_eq_true rfl) k_) ?_
  have bd := tm_bd h.1 t
  by_cases hM : tkK tx n t = 1 ∧ tkV tx n t = 45
  · have eU : sgT (tkK tx n) (tkV tx n) t = t + 1 := if_pos hM
    rw [eU] at hU ⊢
    refine qU (fun T_ k_ => r_aload_n (pc := 0) dX6_signed_0 rfl k_) ?_
    refine qU (fun T_ k_ => r_bipush (pc := 1) dX6_signed_1 bp_45 k_) ?_
    refine qU (fun T_ k_ => r_callV (pc := 3) (N := mX6_isThis) (rest := []) (s_isThis_t X _ I L (45) tx n t h hM (by decide)) okX6_isThis lkX6_134 rfl (by decide) rfl rfl rfl (Nat.le_of_ble_eq_true rfl) ⟨Nat.le_refl _, Nat.le_refl _⟩ dX6_signed_3 k_) ?_
    refine qU (fun T_ k_ => r_istore_n (pc := 6) (lo1 := [.ref 42, .int (nI 1), .null]) dX6_signed_6 rfl (by decide) rfl k_) ?_
    refine qU (fun T_ k_ => r_iload_n (pc := 7) dX6_signed_7 rfl k_) ?_
    refine qP (fun T_ => r_ifN_eq (pc := 8) (tgt := 17) dX6_signed_8 (by decide) (by omega)) (fun c1 => ?_) (fun c1 => ?_)
    · exact absurd c1 (by decide)
    · refine qU (fun T_ k_ => r_aload_n (pc := 11) dX6_signed_11 rfl k_) ?_
      refine qU (fun T_ k_ => r_iconst (pc := 12) (v := nI 1) dX6_signed_12 rfl k_) ?_
      obtain ⟨T148, ⟨J148, rfl, F148, C148⟩, S148⟩ := s_takes_t X d I L tx n t h (45) ((h.2.1.2.2.2 (Or.inl hM.1)).trans (congrArg nI hM.2))
      have P148 := h.step F148 C148
      refine qU (fun T_ k_ => r_callV (pc := 13) (N := mX6_takes) (rest := []) (S148) okX6_takes lkX6_137 rfl (by decide) rfl rfl rfl (Nat.le_of_ble_eq_true rfl) ⟨Nat.le_refl _, Nat.le_refl _⟩ dX6_signed_13 k_) ?_
      refine qU (fun T_ k_ => r_pop (pc := 16) dX6_signed_16 rfl k_) ?_
      refine qU (fun T_ k_ => r_aload_n (pc := 17) dX6_signed_17 rfl k_) ?_
      refine qU (fun T_ k_ => r_aload_n (pc := 18) dX6_signed_18 rfl k_) ?_
      refine qU (fun T_ k_ => r_iconst (pc := 19) (v := nI 0) dX6_signed_19 rfl k_) ?_
      refine qU (fun T_ k_ => r_bipush (pc := 20) dX6_signed_20 bp_99 k_) ?_
      refine qU (fun T_ k_ => r_callV (pc := 22) (N := mX6_isNumber) (rest := [.ref 42]) (s_isNumber_f X _ J148 L (nI 99) tx n (t + 1) P148 (fun q => absurd q hU)) okX6_isNumber lkX6_141 rfl (by decide) rfl rfl rfl (Nat.le_of_ble_eq_true rfl) ⟨Nat.le_refl _, Nat.le_refl _⟩ dX6_signed_22 k_) ?_
      refine qU (fun T_ k_ => r_callV (pc := 25) (N := mX6_takes) (rest := []) (s_takes_f X _ J148 L tx n (t + 1) P148) okX6_takes lkX6_137 rfl (by decide) rfl rfl rfl (Nat.le_of_ble_eq_true rfl) ⟨Nat.le_refl _, Nat.le_refl _⟩ dX6_signed_25 k_) ?_
      refine qU (fun T_ k_ => r_istore_n (pc := 28) (lo1 := [.ref 42, .int (nI 1), .int (nI 0)]) dX6_signed_28 rfl (by decide) rfl k_) ?_
      refine qU (fun T_ k_ => r_iload_n (pc := 29) dX6_signed_29 rfl k_) ?_
      refine qP (fun T_ => r_ifN_eq (pc := 30) (tgt := 38) dX6_signed_30 (by decide) (by omega)) (fun c2 => ?_) (fun c2 => ?_)
      · exact absurd c2 (by decide)
      · refine qU (fun T_ k_ => r_iload_n (pc := 33) dX6_signed_33 rfl k_) ?_
        refine qU (fun T_ k_ => r_ineg (pc := 34) dX6_signed_34 k_) ?_
        refine qU (fun T_ k_ => r_goto (pc := 35) (tgt := 39) dX6_signed_35 (by decide) k_) ?_
        exact ⟨_, ⟨_, _, rfl, ((FRv.refl I).trans F148.v).put 7 _ (by decide), rfl⟩, r_iret dX6_signed_39 rfl rfl rfl⟩
  · have eU : sgT (tkK tx n) (tkV tx n) t = t := if_neg hM
    rw [eU] at hU ⊢
    refine qU (fun T_ k_ => r_aload_n (pc := 0) dX6_signed_0 rfl k_) ?_
    refine qU (fun T_ k_ => r_bipush (pc := 1) dX6_signed_1 bp_45 k_) ?_
    refine qU (fun T_ k_ => r_callV (pc := 3) (N := mX6_isThis) (rest := []) (s_isThis_f X _ I L (45) (by decide) tx n t h hM) okX6_isThis lkX6_134 rfl (by decide) rfl rfl rfl (Nat.le_of_ble_eq_true rfl) ⟨Nat.le_refl _, Nat.le_refl _⟩ dX6_signed_3 k_) ?_
    refine qU (fun T_ k_ => r_istore_n (pc := 6) (lo1 := [.ref 42, .int (nI 0), .null]) dX6_signed_6 rfl (by decide) rfl k_) ?_
    refine qU (fun T_ k_ => r_iload_n (pc := 7) dX6_signed_7 rfl k_) ?_
    refine qP (fun T_ => r_ifN_eq (pc := 8) (tgt := 17) dX6_signed_8 (by decide) (by omega)) (fun c1 => ?_) (fun c1 => ?_)
    · refine qU (fun T_ k_ => r_aload_n (pc := 17) dX6_signed_17 rfl k_) ?_
      refine qU (fun T_ k_ => r_aload_n (pc := 18) dX6_signed_18 rfl k_) ?_
      refine qU (fun T_ k_ => r_iconst (pc := 19) (v := nI 0) dX6_signed_19 rfl k_) ?_
      refine qU (fun T_ k_ => r_bipush (pc := 20) dX6_signed_20 bp_99 k_) ?_
      refine qU (fun T_ k_ => r_callV (pc := 22) (N := mX6_isNumber) (rest := [.ref 42]) (s_isNumber_f X _ I L (nI 99) tx n t h (fun q => absurd q hU)) okX6_isNumber lkX6_141 rfl (by decide) rfl rfl rfl (Nat.le_of_ble_eq_true rfl) ⟨Nat.le_refl _, Nat.le_refl _⟩ dX6_signed_22 k_) ?_
      refine qU (fun T_ k_ => r_callV (pc := 25) (N := mX6_takes) (rest := []) (s_takes_f X _ I L tx n t h) okX6_takes lkX6_137 rfl (by decide) rfl rfl rfl (Nat.le_of_ble_eq_true rfl) ⟨Nat.le_refl _, Nat.le_refl _⟩ dX6_signed_25 k_) ?_
      refine qU (fun T_ k_ => r_istore_n (pc := 28) (lo1 := [.ref 42, .int (nI 0), .int (nI 0)]) dX6_signed_28 rfl (by decide) rfl k_) ?_
      refine qU (fun T_ k_ => r_iload_n (pc := 29) dX6_signed_29 rfl k_) ?_
      refine qP (fun T_ => r_ifN_eq (pc := 30) (tgt := 38) dX6_signed_30 (by decide) (by omega)) (fun c2 => ?_) (fun c2 => ?_)
      · refine qU (fun T_ k_ => r_iload_n (pc := 38) dX6_signed_38 rfl k_) ?_
        exact ⟨_, ⟨_, _, rfl, (FRv.refl I).put 7 _ (by decide), rfl⟩, r_iret dX6_signed_39 rfl rfl rfl⟩
      · exact absurd c2 (by decide)
    · exact absurd c1 (by decide)
def QIm (I : MI) (L : ML) (tx : Nat → Nat) (n : Nat) (r : Nat ⊕ (Nat × (Nat → Int32))) (T : TR) : Prop := match r with
  | .inl u => ∃ J, T = (none, shF, J, L) ∧ FRt I J ∧ J 42 7 = nI (tkP tx n u)
  | .inr (u, D) => ∃ J, T = (none, shF, J, L) ∧ FRt I J ∧ PM J tx n u ∧ FGm J D
theorem s_readsItem_S (X : Ctx) (d : Nat) (I : MI) (L : ML) (tx : Nat → Nat) (n t : Nat) (h : PM I tx n t) (D : Nat → Int32) (g : FGm I D) : ∃ T, QIm I L tx n (rdSrc (tkK tx n) (tkV tx n) t D) T ∧ Sp X mX6_readsItem (d + 6) (0, 0) [.ref 42, .int (nI 83)] shF I L T := by
  refine qU (fun T_ k_ => Sp.of okX6_readsItem [.ref 42, .int (nI 83), .null, .null, .null] 3 rfl (Nat.le_of_ble_eq_true rfl) k_) ?_
  have bd := tm_bd h.1 t
  unfold rdSrc
  by_cases hS : isSo (tkK tx n) (tkV tx n) t
  · rw [if_pos hS]
    have hS2 := hS.2
    by_cases hU : tkK tx n (sgT (tkK tx n) (tkV tx n) (t + 1)) = 2
    · rw [if_pos hU]
      by_cases hW : tkK tx n (sgT (tkK tx n) (tkV tx n) (t + 1) + 1) = 2
      · rw [if_pos hW]
        have bdW := (tm_bd h.1 (sgT (tkK tx n) (tkV tx n) (t + 1) + 1)).2.2 hW
        refine qU (fun T_ k_ => r_iload_n (pc := 0) dX6_readsItem_0 rfl k_) ?_
        refine qU (fun T_ k_ => r_bipush (pc := 1) dX6_readsItem_1 bp_70 k_) ?_
        refine qN (fun T_ => r_icmpN_ne (pc := 3) (tgt := 11) dX6_readsItem_3 (by decide) (by omega) (by omega)) (fun c1 => ?_) (fun c1 => ?_)
        · refine qU (fun T_ k_ => r_aload_n (pc := 11) dX6_readsItem_11 rfl k_) ?_
          refine qU (fun T_ k_ => r_aload_n (pc := 12) dX6_readsItem_12 rfl k_) ?_
          refine qU (fun T_ k_ => r_callV (pc := 13) (N := mX6_isSourceSign) (rest := [.ref 42]) (s_isSourceSign_t X _ I L tx n t h hS) okX6_isSourceSign lkX6_178 rfl (by decide) rfl rfl rfl (Nat.le_of_ble_eq_true rfl) ⟨Nat.le_refl _, Nat.le_refl _⟩ dX6_readsItem_13 k_) ?_
          obtain ⟨T151, ⟨J151, rfl, F151, C151⟩, S151⟩ := s_takes_t X (d + 2) I L tx n t h (tkV tx n t) (h.2.1.2.2.2 (Or.inl hS.1))
          have P151 := h.step F151 C151
          refine qU (fun T_ k_ => r_callV (pc := 16) (N := mX6_takes) (rest := []) (S151) okX6_takes lkX6_137 rfl (by decide) rfl rfl rfl (Nat.le_of_ble_eq_true rfl) ⟨Nat.le_refl _, Nat.le_refl _⟩ dX6_readsItem_16 k_) ?_
          refine qU (fun T_ k_ => r_bipush (pc := 19) dX6_readsItem_19 bp_97 k_) ?_
          refine qU (fun T_ k_ => r_isubN (pc := 21) dX6_readsItem_21 (by omega) k_) ?_
          refine qU (fun T_ k_ => r_istore_n (pc := 22) (lo1 := [.ref 42, .int (nI 83), .int (nI ((tkV tx n t) - 97)), .null, .null]) dX6_readsItem_22 rfl (by decide) rfl k_) ?_
          refine qU (fun T_ k_ => r_iload_n (pc := 23) dX6_readsItem_23 rfl k_) ?_
          refine qU (fun T_ k_ => r_bipush (pc := 24) dX6_readsItem_24 bp_83 k_) ?_
          refine qN (fun T_ => r_icmpN_ne (pc := 26) (tgt := 75) dX6_readsItem_26 (by decide) (by omega) (by omega)) (fun c2 => ?_) (fun c2 => ?_)
          · exact absurd c2 (by decide)
          · refine qU (fun T_ k_ => r_aload_n (pc := 29) dX6_readsItem_29 rfl k_) ?_
            obtain ⟨T152, ⟨J152, rfl, F152, P152⟩, S152⟩ := s_signed_t X (d + 1) J151 L tx n (t + 1) P151 hU
            refine qU (fun T_ k_ => r_callV (pc := 30) (N := mX6_signed) (rest := []) (S152) okX6_signed lkX6_193 rfl (by decide) rfl rfl rfl (Nat.le_of_ble_eq_true rfl) ⟨Nat.le_refl _, Nat.le_refl _⟩ dX6_readsItem_30 k_) ?_
            refine qU (fun T_ k_ => r_istore_n (pc := 33) (lo1 := [.ref 42, .int (nI 83), .int (nI ((tkV tx n t) - 97)), .int (sgO (tkK tx n) (tkV tx n) (t + 1) * nI (tkV tx n (sgT (tkK tx n) (tkV tx n) (t + 1)))), .null]) dX6_readsItem_33 rfl (by decide) rfl k_) ?_
            refine qU (fun T_ k_ => r_aload_n (pc := 34) dX6_readsItem_34 rfl k_) ?_
            refine qU (fun T_ k_ => r_aload_n (pc := 35) dX6_readsItem_35 rfl k_) ?_
            refine qU (fun T_ k_ => r_iconst (pc := 36) (v := nI 0) dX6_readsItem_36 rfl k_) ?_
            refine qU (fun T_ k_ => r_bipush (pc := 37) dX6_readsItem_37 bp_99 k_) ?_
            refine qU (fun T_ k_ => r_callV (pc := 39) (N := mX6_isNumber) (rest := [.ref 42]) (s_isNumber_t X _ J152 L 0 (99) (by omega) tx n (sgT (tkK tx n) (tkV tx n) (t + 1) + 1) P152 hW (Nat.zero_le _) bdW) okX6_isNumber lkX6_141 rfl (by decide) rfl rfl rfl (Nat.le_of_ble_eq_true rfl) ⟨Nat.le_refl _, Nat.le_refl _⟩ dX6_readsItem_39 k_) ?_
            obtain ⟨T153, ⟨J153, rfl, F153, C153⟩, S153⟩ := s_takes_t X (d + 2) J152 L tx n (sgT (tkK tx n) (tkV tx n) (t + 1) + 1) P152 (tkV tx n (sgT (tkK tx n) (tkV tx n) (t + 1) + 1)) (P152.2.1.2.2.2 (Or.inr hW))
            have P153 := P152.step F153 C153
            refine qU (fun T_ k_ => r_callV (pc := 42) (N := mX6_takes) (rest := []) (S153) okX6_takes lkX6_137 rfl (by decide) rfl rfl rfl (Nat.le_of_ble_eq_true rfl) ⟨Nat.le_refl _, Nat.le_refl _⟩ dX6_readsItem_42 k_) ?_
            refine qU (fun T_ k_ => r_istore (pc := 45) (lo1 := [.ref 42, .int (nI 83), .int (nI ((tkV tx n t) - 97)), .int (sgO (tkK tx n) (tkV tx n) (t + 1) * nI (tkV tx n (sgT (tkK tx n) (tkV tx n) (t + 1)))), .int (nI (tkV tx n (sgT (tkK tx n) (tkV tx n) (t + 1) + 1)))]) dX6_readsItem_45 rfl (by decide) rfl k_) ?_
            refine qU (fun T_ k_ => r_aload_n (pc := 47) dX6_readsItem_47 rfl k_) ?_
            refine qU (fun T_ k_ => r_callV (pc := 48) (N := mX6_isWell) (rest := []) (s_isWell_t X _ J153 L P153.2.2) okX6_isWell lkX6_127 rfl (by decide) rfl rfl rfl (Nat.le_of_ble_eq_true rfl) ⟨Nat.le_refl _, Nat.le_refl _⟩ dX6_readsItem_48 k_) ?_
            refine qP (fun T_ => r_ifN_eq (pc := 51) (tgt := 72) dX6_readsItem_51 (by decide) (by omega)) (fun c3 => ?_) (fun c3 => ?_)
            · exact absurd c3 (by decide)
            · refine qU (fun T_ k_ => r_aload_n (pc := 54) dX6_readsItem_54 rfl k_) ?_
              refine qU (fun T_ k_ => r_getR (pc := 55) (b := 54) dX6_readsItem_55 fX6_43 rfl rfl k_) ?_
              refine qU (fun T_ k_ => r_iload_n (pc := 58) dX6_readsItem_58 rfl k_) ?_
              refine qU (fun T_ k_ => r_iload_n (pc := 59) dX6_readsItem_59 rfl k_) ?_
              refine qU (fun T_ k_ => r_iast (pc := 60) (j := (tkV tx n t) - 97) dX6_readsItem_60 rfl rfl (by omega) (by decide) k_) ?_
              refine qU (fun T_ k_ => r_aload_n (pc := 61) dX6_readsItem_61 rfl k_) ?_
              refine qU (fun T_ k_ => r_getR (pc := 62) (b := 54) dX6_readsItem_62 fX6_43 rfl rfl k_) ?_
              refine qU (fun T_ k_ => r_bipush (pc := 65) dX6_readsItem_65 bp_6 k_) ?_
              refine qU (fun T_ k_ => r_iload_n (pc := 67) dX6_readsItem_67 rfl k_) ?_
              refine qU (fun T_ k_ => r_iaddN (pc := 68) dX6_readsItem_68 k_) ?_
              refine qU (fun T_ k_ => r_iload (pc := 69) dX6_readsItem_69 rfl k_) ?_
              refine qU (fun T_ k_ => r_iast (pc := 71) (j := 6 + ((tkV tx n t) - 97)) dX6_readsItem_71 rfl rfl (by omega) (by decide) k_) ?_
              refine qU (fun T_ k_ => r_goto (pc := 72) (tgt := 151) dX6_readsItem_72 (by decide) k_) ?_
              exact ⟨_, ⟨_, rfl, ((((((FRv.refl I).trans F151.v).trans F152).trans F153.v).t).p54 _ _).p54 _ _, (P153.u54 _ _).u54 _ _, ((g.fr (fun j => ((((FRv.refl I).trans F151.v).trans F152).trans F153.v) 54 j (by omega))).put _ _).put _ _⟩, r_vret dX6_readsItem_151 rfl rfl rfl⟩
        · exact absurd c1 (by decide)
      · rw [if_neg hW]
        refine qU (fun T_ k_ => r_iload_n (pc := 0) dX6_readsItem_0 rfl k_) ?_
        refine qU (fun T_ k_ => r_bipush (pc := 1) dX6_readsItem_1 bp_70 k_) ?_
        refine qN (fun T_ => r_icmpN_ne (pc := 3) (tgt := 11) dX6_readsItem_3 (by decide) (by omega) (by omega)) (fun c1 => ?_) (fun c1 => ?_)
        · refine qU (fun T_ k_ => r_aload_n (pc := 11) dX6_readsItem_11 rfl k_) ?_
          refine qU (fun T_ k_ => r_aload_n (pc := 12) dX6_readsItem_12 rfl k_) ?_
          refine qU (fun T_ k_ => r_callV (pc := 13) (N := mX6_isSourceSign) (rest := [.ref 42]) (s_isSourceSign_t X _ I L tx n t h hS) okX6_isSourceSign lkX6_178 rfl (by decide) rfl rfl rfl (Nat.le_of_ble_eq_true rfl) ⟨Nat.le_refl _, Nat.le_refl _⟩ dX6_readsItem_13 k_) ?_
          obtain ⟨T154, ⟨J154, rfl, F154, C154⟩, S154⟩ := s_takes_t X (d + 2) I L tx n t h (tkV tx n t) (h.2.1.2.2.2 (Or.inl hS.1))
          have P154 := h.step F154 C154
          refine qU (fun T_ k_ => r_callV (pc := 16) (N := mX6_takes) (rest := []) (S154) okX6_takes lkX6_137 rfl (by decide) rfl rfl rfl (Nat.le_of_ble_eq_true rfl) ⟨Nat.le_refl _, Nat.le_refl _⟩ dX6_readsItem_16 k_) ?_
          refine qU (fun T_ k_ => r_bipush (pc := 19) dX6_readsItem_19 bp_97 k_) ?_
          refine qU (fun T_ k_ => r_isubN (pc := 21) dX6_readsItem_21 (by omega) k_) ?_
          refine qU (fun T_ k_ => r_istore_n (pc := 22) (lo1 := [.ref 42, .int (nI 83), .int (nI ((tkV tx n t) - 97)), .null, .null]) dX6_readsItem_22 rfl (by decide) rfl k_) ?_
          refine qU (fun T_ k_ => r_iload_n (pc := 23) dX6_readsItem_23 rfl k_) ?_
          refine qU (fun T_ k_ => r_bipush (pc := 24) dX6_readsItem_24 bp_83 k_) ?_
          refine qN (fun T_ => r_icmpN_ne (pc := 26) (tgt := 75) dX6_readsItem_26 (by decide) (by omega) (by omega)) (fun c2 => ?_) (fun c2 => ?_)
          · exact absurd c2 (by decide)
          · refine qU (fun T_ k_ => r_aload_n (pc := 29) dX6_readsItem_29 rfl k_) ?_
            obtain ⟨T155, ⟨J155, rfl, F155, P155⟩, S155⟩ := s_signed_t X (d + 1) J154 L tx n (t + 1) P154 hU
            refine qU (fun T_ k_ => r_callV (pc := 30) (N := mX6_signed) (rest := []) (S155) okX6_signed lkX6_193 rfl (by decide) rfl rfl rfl (Nat.le_of_ble_eq_true rfl) ⟨Nat.le_refl _, Nat.le_refl _⟩ dX6_readsItem_30 k_) ?_
            refine qU (fun T_ k_ => r_istore_n (pc := 33) (lo1 := [.ref 42, .int (nI 83), .int (nI ((tkV tx n t) - 97)), .int (sgO (tkK tx n) (tkV tx n) (t + 1) * nI (tkV tx n (sgT (tkK tx n) (tkV tx n) (t + 1)))), .null]) dX6_readsItem_33 rfl (by decide) rfl k_) ?_
            refine qU (fun T_ k_ => r_aload_n (pc := 34) dX6_readsItem_34 rfl k_) ?_
            refine qU (fun T_ k_ => r_aload_n (pc := 35) dX6_readsItem_35 rfl k_) ?_
            refine qU (fun T_ k_ => r_iconst (pc := 36) (v := nI 0) dX6_readsItem_36 rfl k_) ?_
            refine qU (fun T_ k_ => r_bipush (pc := 37) dX6_readsItem_37 bp_99 k_) ?_
            refine qU (fun T_ k_ => r_callV (pc := 39) (N := mX6_isNumber) (rest := [.ref 42]) (s_isNumber_f X _ J155 L (nI 99) tx n (sgT (tkK tx n) (tkV tx n) (t + 1) + 1) P155 (fun q => absurd q hW)) okX6_isNumber lkX6_141 rfl (by decide) rfl rfl rfl (Nat.le_of_ble_eq_true rfl) ⟨Nat.le_refl _, Nat.le_refl _⟩ dX6_readsItem_39 k_) ?_
            refine qU (fun T_ k_ => r_callV (pc := 42) (N := mX6_takes) (rest := []) (s_takes_f X _ J155 L tx n (sgT (tkK tx n) (tkV tx n) (t + 1) + 1) P155) okX6_takes lkX6_137 rfl (by decide) rfl rfl rfl (Nat.le_of_ble_eq_true rfl) ⟨Nat.le_refl _, Nat.le_refl _⟩ dX6_readsItem_42 k_) ?_
            refine qU (fun T_ k_ => r_istore (pc := 45) (lo1 := [.ref 42, .int (nI 83), .int (nI ((tkV tx n t) - 97)), .int (sgO (tkK tx n) (tkV tx n) (t + 1) * nI (tkV tx n (sgT (tkK tx n) (tkV tx n) (t + 1)))), .int (nI 0)]) dX6_readsItem_45 rfl (by decide) rfl k_) ?_
            refine qU (fun T_ k_ => r_aload_n (pc := 47) dX6_readsItem_47 rfl k_) ?_
            refine qU (fun T_ k_ => r_callV (pc := 48) (N := mX6_isWell) (rest := []) (s_isWell_f X _ (u2 J155 42 7 (nI (tkP tx n (sgT (tkK tx n) (tkV tx n) (t + 1) + 1)))) L (tkP tx n (sgT (tkK tx n) (tkV tx n) (t + 1) + 1)) rfl (Nat.le_trans (tkP_le (sgT (tkK tx n) (tkV tx n) (t + 1) + 1)) P155.1.2.1)) okX6_isWell lkX6_127 rfl (by decide) rfl rfl rfl (Nat.le_of_ble_eq_true rfl) ⟨Nat.le_refl _, Nat.le_refl _⟩ dX6_readsItem_48 k_) ?_
            refine qP (fun T_ => r_ifN_eq (pc := 51) (tgt := 72) dX6_readsItem_51 (by decide) (by omega)) (fun c3 => ?_) (fun c3 => ?_)
            · refine qU (fun T_ k_ => r_goto (pc := 72) (tgt := 151) dX6_readsItem_72 (by decide) k_) ?_
              exact ⟨_, ⟨_, rfl, ((((FRv.refl I).trans F154.v).trans F155).put 7 _ (by decide)).t, rfl⟩, r_vret dX6_readsItem_151 rfl rfl rfl⟩
            · exact absurd c3 (by decide)
        · exact absurd c1 (by decide)
    · rw [if_neg hU]
      refine qU (fun T_ k_ => r_iload_n (pc := 0) dX6_readsItem_0 rfl k_) ?_
      refine qU (fun T_ k_ => r_bipush (pc := 1) dX6_readsItem_1 bp_70 k_) ?_
      refine qN (fun T_ => r_icmpN_ne (pc := 3) (tgt := 11) dX6_readsItem_3 (by decide) (by omega) (by omega)) (fun c1 => ?_) (fun c1 => ?_)
      · refine qU (fun T_ k_ => r_aload_n (pc := 11) dX6_readsItem_11 rfl k_) ?_
        refine qU (fun T_ k_ => r_aload_n (pc := 12) dX6_readsItem_12 rfl k_) ?_
        refine qU (fun T_ k_ => r_callV (pc := 13) (N := mX6_isSourceSign) (rest := [.ref 42]) (s_isSourceSign_t X _ I L tx n t h hS) okX6_isSourceSign lkX6_178 rfl (by decide) rfl rfl rfl (Nat.le_of_ble_eq_true rfl) ⟨Nat.le_refl _, Nat.le_refl _⟩ dX6_readsItem_13 k_) ?_
        obtain ⟨T157, ⟨J157, rfl, F157, C157⟩, S157⟩ := s_takes_t X (d + 2) I L tx n t h (tkV tx n t) (h.2.1.2.2.2 (Or.inl hS.1))
        have P157 := h.step F157 C157
        refine qU (fun T_ k_ => r_callV (pc := 16) (N := mX6_takes) (rest := []) (S157) okX6_takes lkX6_137 rfl (by decide) rfl rfl rfl (Nat.le_of_ble_eq_true rfl) ⟨Nat.le_refl _, Nat.le_refl _⟩ dX6_readsItem_16 k_) ?_
        refine qU (fun T_ k_ => r_bipush (pc := 19) dX6_readsItem_19 bp_97 k_) ?_
        refine qU (fun T_ k_ => r_isubN (pc := 21) dX6_readsItem_21 (by omega) k_) ?_
        refine qU (fun T_ k_ => r_istore_n (pc := 22) (lo1 := [.ref 42, .int (nI 83), .int (nI ((tkV tx n t) - 97)), .null, .null]) dX6_readsItem_22 rfl (by decide) rfl k_) ?_
        refine qU (fun T_ k_ => r_iload_n (pc := 23) dX6_readsItem_23 rfl k_) ?_
        refine qU (fun T_ k_ => r_bipush (pc := 24) dX6_readsItem_24 bp_83 k_) ?_
        refine qN (fun T_ => r_icmpN_ne (pc := 26) (tgt := 75) dX6_readsItem_26 (by decide) (by omega) (by omega)) (fun c2 => ?_) (fun c2 => ?_)
        · exact absurd c2 (by decide)
        · refine qU (fun T_ k_ => r_aload_n (pc := 29) dX6_readsItem_29 rfl k_) ?_
          obtain ⟨T158, ⟨x158, J158, rfl, F158, C158⟩, S158⟩ := s_signed_f X (d + 1) J157 L tx n (t + 1) P157 hU
          refine qU (fun T_ k_ => r_callV (pc := 30) (N := mX6_signed) (rest := []) (S158) okX6_signed lkX6_193 rfl (by decide) rfl rfl rfl (Nat.le_of_ble_eq_true rfl) ⟨Nat.le_refl _, Nat.le_refl _⟩ dX6_readsItem_30 k_) ?_
          refine qU (fun T_ k_ => r_istore_n (pc := 33) (lo1 := [.ref 42, .int (nI 83), .int (nI ((tkV tx n t) - 97)), .int (x158), .null]) dX6_readsItem_33 rfl (by decide) rfl k_) ?_
          refine qU (fun T_ k_ => r_aload_n (pc := 34) dX6_readsItem_34 rfl k_) ?_
          refine qU (fun T_ k_ => r_aload_n (pc := 35) dX6_readsItem_35 rfl k_) ?_
          refine qU (fun T_ k_ => r_iconst (pc := 36) (v := nI 0) dX6_readsItem_36 rfl k_) ?_
          refine qU (fun T_ k_ => r_bipush (pc := 37) dX6_readsItem_37 bp_99 k_) ?_
          refine qU (fun T_ k_ => r_callV (pc := 39) (N := mX6_isNumber) (rest := [.ref 42]) (s_isNumber_n X _ J158 L _ _ (tkP tx n (sgT (tkK tx n) (tkV tx n) (t + 1))) C158 (Nat.le_trans (tkP_le (sgT (tkK tx n) (tkV tx n) (t + 1))) h.1.2.1)) okX6_isNumber lkX6_141 rfl (by decide) rfl rfl rfl (Nat.le_of_ble_eq_true rfl) ⟨Nat.le_refl _, Nat.le_refl _⟩ dX6_readsItem_39 k_) ?_
          refine qU (fun T_ k_ => r_callV (pc := 42) (N := mX6_takes) (rest := []) (s_takes_n X _ J158 L _ (tkP tx n (sgT (tkK tx n) (tkV tx n) (t + 1))) C158 (Nat.le_trans (tkP_le (sgT (tkK tx n) (tkV tx n) (t + 1))) h.1.2.1)) okX6_takes lkX6_137 rfl (by decide) rfl rfl rfl (Nat.le_of_ble_eq_true rfl) ⟨Nat.le_refl _, Nat.le_refl _⟩ dX6_readsItem_42 k_) ?_
          refine qU (fun T_ k_ => r_istore (pc := 45) (lo1 := [.ref 42, .int (nI 83), .int (nI ((tkV tx n t) - 97)), .int (x158), .int (nI 0)]) dX6_readsItem_45 rfl (by decide) rfl k_) ?_
          refine qU (fun T_ k_ => r_aload_n (pc := 47) dX6_readsItem_47 rfl k_) ?_
          refine qU (fun T_ k_ => r_callV (pc := 48) (N := mX6_isWell) (rest := []) (s_isWell_f X _ J158 L (tkP tx n (sgT (tkK tx n) (tkV tx n) (t + 1))) C158 (Nat.le_trans (tkP_le (sgT (tkK tx n) (tkV tx n) (t + 1))) h.1.2.1)) okX6_isWell lkX6_127 rfl (by decide) rfl rfl rfl (Nat.le_of_ble_eq_true rfl) ⟨Nat.le_refl _, Nat.le_refl _⟩ dX6_readsItem_48 k_) ?_
          refine qP (fun T_ => r_ifN_eq (pc := 51) (tgt := 72) dX6_readsItem_51 (by decide) (by omega)) (fun c3 => ?_) (fun c3 => ?_)
          · refine qU (fun T_ k_ => r_goto (pc := 72) (tgt := 151) dX6_readsItem_72 (by decide) k_) ?_
            exact ⟨_, ⟨_, rfl, (((FRv.refl I).trans F157.v).trans F158).t, C158⟩, r_vret dX6_readsItem_151 rfl rfl rfl⟩
          · exact absurd c3 (by decide)
      · exact absurd c1 (by decide)
  · rw [if_neg hS]
    refine qU (fun T_ k_ => r_iload_n (pc := 0) dX6_readsItem_0 rfl k_) ?_
    refine qU (fun T_ k_ => r_bipush (pc := 1) dX6_readsItem_1 bp_70 k_) ?_
    refine qN (fun T_ => r_icmpN_ne (pc := 3) (tgt := 11) dX6_readsItem_3 (by decide) (by omega) (by omega)) (fun c1 => ?_) (fun c1 => ?_)
    · refine qU (fun T_ k_ => r_aload_n (pc := 11) dX6_readsItem_11 rfl k_) ?_
      refine qU (fun T_ k_ => r_aload_n (pc := 12) dX6_readsItem_12 rfl k_) ?_
      refine qU (fun T_ k_ => r_callV (pc := 13) (N := mX6_isSourceSign) (rest := [.ref 42]) (s_isSourceSign_f X _ I L tx n t h hS) okX6_isSourceSign lkX6_178 rfl (by decide) rfl rfl rfl (Nat.le_of_ble_eq_true rfl) ⟨Nat.le_refl _, Nat.le_refl _⟩ dX6_readsItem_13 k_) ?_
      refine qU (fun T_ k_ => r_callV (pc := 16) (N := mX6_takes) (rest := []) (s_takes_f X _ I L tx n t h) okX6_takes lkX6_137 rfl (by decide) rfl rfl rfl (Nat.le_of_ble_eq_true rfl) ⟨Nat.le_refl _, Nat.le_refl _⟩ dX6_readsItem_16 k_) ?_
      refine qU (fun T_ k_ => r_bipush (pc := 19) dX6_readsItem_19 bp_97 k_) ?_
      refine qU (fun T_ k_ => r_isub (pc := 21) dX6_readsItem_21 k_) ?_
      refine qU (fun T_ k_ => r_istore_n (pc := 22) (lo1 := [.ref 42, .int (nI 83), .int ((nI 0) - (nI 97)), .null, .null]) dX6_readsItem_22 rfl (by decide) rfl k_) ?_
      refine qU (fun T_ k_ => r_iload_n (pc := 23) dX6_readsItem_23 rfl k_) ?_
      refine qU (fun T_ k_ => r_bipush (pc := 24) dX6_readsItem_24 bp_83 k_) ?_
      refine qN (fun T_ => r_icmpN_ne (pc := 26) (tgt := 75) dX6_readsItem_26 (by decide) (by omega) (by omega)) (fun c2 => ?_) (fun c2 => ?_)
      · exact absurd c2 (by decide)
      · refine qU (fun T_ k_ => r_aload_n (pc := 29) dX6_readsItem_29 rfl k_) ?_
        refine qU (fun T_ k_ => r_callV (pc := 30) (N := mX6_signed) (rest := []) (s_signed_n X _ (u2 I 42 7 (nI (tkP tx n t))) L (tkP tx n t) rfl (Nat.le_trans (tkP_le t) h.1.2.1)) okX6_signed lkX6_193 rfl (by decide) rfl rfl rfl (Nat.le_of_ble_eq_true rfl) ⟨Nat.le_refl _, Nat.le_refl _⟩ dX6_readsItem_30 k_) ?_
        refine qU (fun T_ k_ => r_istore_n (pc := 33) (lo1 := [.ref 42, .int (nI 83), .int ((nI 0) - (nI 97)), .int (nI 0), .null]) dX6_readsItem_33 rfl (by decide) rfl k_) ?_
        refine qU (fun T_ k_ => r_aload_n (pc := 34) dX6_readsItem_34 rfl k_) ?_
        refine qU (fun T_ k_ => r_aload_n (pc := 35) dX6_readsItem_35 rfl k_) ?_
        refine qU (fun T_ k_ => r_iconst (pc := 36) (v := nI 0) dX6_readsItem_36 rfl k_) ?_
        refine qU (fun T_ k_ => r_bipush (pc := 37) dX6_readsItem_37 bp_99 k_) ?_
        refine qU (fun T_ k_ => r_callV (pc := 39) (N := mX6_isNumber) (rest := [.ref 42]) (s_isNumber_n X _ (u2 I 42 7 (nI (tkP tx n t))) L _ _ (tkP tx n t) rfl (Nat.le_trans (tkP_le t) h.1.2.1)) okX6_isNumber lkX6_141 rfl (by decide) rfl rfl rfl (Nat.le_of_ble_eq_true rfl) ⟨Nat.le_refl _, Nat.le_refl _⟩ dX6_readsItem_39 k_) ?_
        refine qU (fun T_ k_ => r_callV (pc := 42) (N := mX6_takes) (rest := []) (s_takes_n X _ (u2 I 42 7 (nI (tkP tx n t))) L _ (tkP tx n t) rfl (Nat.le_trans (tkP_le t) h.1.2.1)) okX6_takes lkX6_137 rfl (by decide) rfl rfl rfl (Nat.le_of_ble_eq_true rfl) ⟨Nat.le_refl _, Nat.le_refl _⟩ dX6_readsItem_42 k_) ?_
        refine qU (fun T_ k_ => r_istore (pc := 45) (lo1 := [.ref 42, .int (nI 83), .int ((nI 0) - (nI 97)), .int (nI 0), .int (nI 0)]) dX6_readsItem_45 rfl (by decide) rfl k_) ?_
        refine qU (fun T_ k_ => r_aload_n (pc := 47) dX6_readsItem_47 rfl k_) ?_
        refine qU (fun T_ k_ => r_callV (pc := 48) (N := mX6_isWell) (rest := []) (s_isWell_f X _ (u2 I 42 7 (nI (tkP tx n t))) L (tkP tx n t) rfl (Nat.le_trans (tkP_le t) h.1.2.1)) okX6_isWell lkX6_127 rfl (by decide) rfl rfl rfl (Nat.le_of_ble_eq_true rfl) ⟨Nat.le_refl _, Nat.le_refl _⟩ dX6_readsItem_48 k_) ?_
        refine qP (fun T_ => r_ifN_eq (pc := 51) (tgt := 72) dX6_readsItem_51 (by decide) (by omega)) (fun c3 => ?_) (fun c3 => ?_)
        · refine qU (fun T_ k_ => r_goto (pc := 72) (tgt := 151) dX6_readsItem_72 (by decide) k_) ?_
          exact ⟨_, ⟨_, rfl, ((FRv.refl I).put 7 _ (by decide)).t, rfl⟩, r_vret dX6_readsItem_151 rfl rfl rfl⟩
        · exact absurd c3 (by decide)
    · exact absurd c1 (by decide)
theorem s_readsItem_C (X : Ctx) (d : Nat) (I : MI) (L : ML) (tx : Nat → Nat) (n t : Nat) (h : PM I tx n t) (D : Nat → Int32) (g : FGm I D) : ∃ T, QIm I L tx n (rdJnt (tkK tx n) (tkV tx n) t D) T ∧ Sp X mX6_readsItem (d + 6) (0, 0) [.ref 42, .int (nI 67)] shF I L T := by
  refine qU (fun T_ k_ => Sp.of okX6_readsItem [.ref 42, .int (nI 67), .null, .null, .null] 3 rfl (Nat.le_of_ble_eq_true rfl) k_) ?_
  have bd := tm_bd h.1 t
  have bd1 := tm_bd h.1 (t + 1)
  unfold rdJnt
  by_cases hS : isSo (tkK tx n) (tkV tx n) t
  · rw [if_pos hS]
    have hS2 := hS.2
    by_cases hR : isSo (tkK tx n) (tkV tx n) (t + 1)
    · have hR2 := hR.2
      by_cases hE : tkV tx n (t + 1) = tkV tx n t
      · rw [if_neg (fun z => z.2 hE)]
        refine qU (fun T_ k_ => r_iload_n (pc := 0) dX6_readsItem_0 rfl k_) ?_
        refine qU (fun T_ k_ => r_bipush (pc := 1) dX6_readsItem_1 bp_70 k_) ?_
        refine qN (fun T_ => r_icmpN_ne (pc := 3) (tgt := 11) dX6_readsItem_3 (by decide) (by omega) (by omega)) (fun c1 => ?_) (fun c1 => ?_)
        · refine qU (fun T_ k_ => r_aload_n (pc := 11) dX6_readsItem_11 rfl k_) ?_
          refine qU (fun T_ k_ => r_aload_n (pc := 12) dX6_readsItem_12 rfl k_) ?_
          refine qU (fun T_ k_ => r_callV (pc := 13) (N := mX6_isSourceSign) (rest := [.ref 42]) (s_isSourceSign_t X _ I L tx n t h hS) okX6_isSourceSign lkX6_178 rfl (by decide) rfl rfl rfl (Nat.le_of_ble_eq_true rfl) ⟨Nat.le_refl _, Nat.le_refl _⟩ dX6_readsItem_13 k_) ?_
          obtain ⟨T160, ⟨J160, rfl, F160, C160⟩, S160⟩ := s_takes_t X (d + 2) I L tx n t h (tkV tx n t) (h.2.1.2.2.2 (Or.inl hS.1))
          have P160 := h.step F160 C160
          refine qU (fun T_ k_ => r_callV (pc := 16) (N := mX6_takes) (rest := []) (S160) okX6_takes lkX6_137 rfl (by decide) rfl rfl rfl (Nat.le_of_ble_eq_true rfl) ⟨Nat.le_refl _, Nat.le_refl _⟩ dX6_readsItem_16 k_) ?_
          refine qU (fun T_ k_ => r_bipush (pc := 19) dX6_readsItem_19 bp_97 k_) ?_
          refine qU (fun T_ k_ => r_isubN (pc := 21) dX6_readsItem_21 (by omega) k_) ?_
          refine qU (fun T_ k_ => r_istore_n (pc := 22) (lo1 := [.ref 42, .int (nI 67), .int (nI ((tkV tx n t) - 97)), .null, .null]) dX6_readsItem_22 rfl (by decide) rfl k_) ?_
          refine qU (fun T_ k_ => r_iload_n (pc := 23) dX6_readsItem_23 rfl k_) ?_
          refine qU (fun T_ k_ => r_bipush (pc := 24) dX6_readsItem_24 bp_83 k_) ?_
          refine qN (fun T_ => r_icmpN_ne (pc := 26) (tgt := 75) dX6_readsItem_26 (by decide) (by omega) (by omega)) (fun c2 => ?_) (fun c2 => ?_)
          · refine qU (fun T_ k_ => r_aload_n (pc := 75) dX6_readsItem_75 rfl k_) ?_
            refine qU (fun T_ k_ => r_aload_n (pc := 76) dX6_readsItem_76 rfl k_) ?_
            refine qU (fun T_ k_ => r_callV (pc := 77) (N := mX6_isSourceSign) (rest := [.ref 42]) (s_isSourceSign_t X _ J160 L tx n (t + 1) P160 hR) okX6_isSourceSign lkX6_178 rfl (by decide) rfl rfl rfl (Nat.le_of_ble_eq_true rfl) ⟨Nat.le_refl _, Nat.le_refl _⟩ dX6_readsItem_77 k_) ?_
            refine qP (fun T_ => r_ifN_eq (pc := 80) (tgt := 98) dX6_readsItem_80 (by decide) (by omega)) (fun c3 => ?_) (fun c3 => ?_)
            · exact absurd c3 (by decide)
            · refine qU (fun T_ k_ => r_aload_n (pc := 83) dX6_readsItem_83 rfl k_) ?_
              refine qU (fun T_ k_ => r_getV (pc := 84) (v := nI (tkV tx n (t + 1))) dX6_readsItem_84 fX6_117 rfl rfl ((P160.2.1.2.2.2 (Or.inl hR.1))) k_) ?_
              refine qU (fun T_ k_ => r_bipush (pc := 87) dX6_readsItem_87 bp_97 k_) ?_
              refine qU (fun T_ k_ => r_isubN (pc := 89) dX6_readsItem_89 (by omega) k_) ?_
              refine qU (fun T_ k_ => r_iload_n (pc := 90) dX6_readsItem_90 rfl k_) ?_
              refine qP (fun T_ => r_icmpN_eq (pc := 91) (tgt := 98) dX6_readsItem_91 (by decide) (by omega) (by omega)) (fun c4 => ?_) (fun c4 => ?_)
              · refine qU (fun T_ k_ => r_iconst (pc := 98) (v := nI 0) dX6_readsItem_98 rfl k_) ?_
                refine qU (fun T_ k_ => r_callV (pc := 99) (N := mX6_takes) (rest := []) (s_takes_f X _ J160 L tx n (t + 1) P160) okX6_takes lkX6_137 rfl (by decide) rfl rfl rfl (Nat.le_of_ble_eq_true rfl) ⟨Nat.le_refl _, Nat.le_refl _⟩ dX6_readsItem_99 k_) ?_
                refine qU (fun T_ k_ => r_bipush (pc := 102) dX6_readsItem_102 bp_97 k_) ?_
                refine qU (fun T_ k_ => r_isub (pc := 104) dX6_readsItem_104 k_) ?_
                refine qU (fun T_ k_ => r_istore_n (pc := 105) (lo1 := [.ref 42, .int (nI 67), .int (nI ((tkV tx n t) - 97)), .int ((nI 0) - (nI 97)), .null]) dX6_readsItem_105 rfl (by decide) rfl k_) ?_
                refine qU (fun T_ k_ => r_aload_n (pc := 106) dX6_readsItem_106 rfl k_) ?_
                refine qU (fun T_ k_ => r_callV (pc := 107) (N := mX6_signed) (rest := []) (s_signed_n X _ (u2 J160 42 7 (nI (tkP tx n (t + 1)))) L (tkP tx n (t + 1)) rfl (Nat.le_trans (tkP_le (t + 1)) P160.1.2.1)) okX6_signed lkX6_193 rfl (by decide) rfl rfl rfl (Nat.le_of_ble_eq_true rfl) ⟨Nat.le_refl _, Nat.le_refl _⟩ dX6_readsItem_107 k_) ?_
                refine qU (fun T_ k_ => r_istore (pc := 110) (lo1 := [.ref 42, .int (nI 67), .int (nI ((tkV tx n t) - 97)), .int ((nI 0) - (nI 97)), .int (nI 0)]) dX6_readsItem_110 rfl (by decide) rfl k_) ?_
                refine qU (fun T_ k_ => r_aload_n (pc := 112) dX6_readsItem_112 rfl k_) ?_
                refine qU (fun T_ k_ => r_callV (pc := 113) (N := mX6_isWell) (rest := []) (s_isWell_f X _ (u2 J160 42 7 (nI (tkP tx n (t + 1)))) L (tkP tx n (t + 1)) rfl (Nat.le_trans (tkP_le (t + 1)) P160.1.2.1)) okX6_isWell lkX6_127 rfl (by decide) rfl rfl rfl (Nat.le_of_ble_eq_true rfl) ⟨Nat.le_refl _, Nat.le_refl _⟩ dX6_readsItem_113 k_) ?_
                refine qP (fun T_ => r_ifN_eq (pc := 116) (tgt := 151) dX6_readsItem_116 (by decide) (by omega)) (fun c5 => ?_) (fun c5 => ?_)
                · exact ⟨_, ⟨_, rfl, (((FRv.refl I).trans F160.v).put 7 _ (by decide)).t, rfl⟩, r_vret dX6_readsItem_151 rfl rfl rfl⟩
                · exact absurd c5 (by decide)
              · exact absurd c4 (by omega)
          · exact absurd c2 (by decide)
        · exact absurd c1 (by decide)
      · rw [if_pos ⟨hR, hE⟩]
        by_cases hU : tkK tx n (sgT (tkK tx n) (tkV tx n) (t + 2)) = 2
        · rw [if_pos hU]
          refine qU (fun T_ k_ => r_iload_n (pc := 0) dX6_readsItem_0 rfl k_) ?_
          refine qU (fun T_ k_ => r_bipush (pc := 1) dX6_readsItem_1 bp_70 k_) ?_
          refine qN (fun T_ => r_icmpN_ne (pc := 3) (tgt := 11) dX6_readsItem_3 (by decide) (by omega) (by omega)) (fun c1 => ?_) (fun c1 => ?_)
          · refine qU (fun T_ k_ => r_aload_n (pc := 11) dX6_readsItem_11 rfl k_) ?_
            refine qU (fun T_ k_ => r_aload_n (pc := 12) dX6_readsItem_12 rfl k_) ?_
            refine qU (fun T_ k_ => r_callV (pc := 13) (N := mX6_isSourceSign) (rest := [.ref 42]) (s_isSourceSign_t X _ I L tx n t h hS) okX6_isSourceSign lkX6_178 rfl (by decide) rfl rfl rfl (Nat.le_of_ble_eq_true rfl) ⟨Nat.le_refl _, Nat.le_refl _⟩ dX6_readsItem_13 k_) ?_
            obtain ⟨T162, ⟨J162, rfl, F162, C162⟩, S162⟩ := s_takes_t X (d + 2) I L tx n t h (tkV tx n t) (h.2.1.2.2.2 (Or.inl hS.1))
            have P162 := h.step F162 C162
            refine qU (fun T_ k_ => r_callV (pc := 16) (N := mX6_takes) (rest := []) (S162) okX6_takes lkX6_137 rfl (by decide) rfl rfl rfl (Nat.le_of_ble_eq_true rfl) ⟨Nat.le_refl _, Nat.le_refl _⟩ dX6_readsItem_16 k_) ?_
            refine qU (fun T_ k_ => r_bipush (pc := 19) dX6_readsItem_19 bp_97 k_) ?_
            refine qU (fun T_ k_ => r_isubN (pc := 21) dX6_readsItem_21 (by omega) k_) ?_
            refine qU (fun T_ k_ => r_istore_n (pc := 22) (lo1 := [.ref 42, .int (nI 67), .int (nI ((tkV tx n t) - 97)), .null, .null]) dX6_readsItem_22 rfl (by decide) rfl k_) ?_
            refine qU (fun T_ k_ => r_iload_n (pc := 23) dX6_readsItem_23 rfl k_) ?_
            refine qU (fun T_ k_ => r_bipush (pc := 24) dX6_readsItem_24 bp_83 k_) ?_
            refine qN (fun T_ => r_icmpN_ne (pc := 26) (tgt := 75) dX6_readsItem_26 (by decide) (by omega) (by omega)) (fun c2 => ?_) (fun c2 => ?_)
            · refine qU (fun T_ k_ => r_aload_n (pc := 75) dX6_readsItem_75 rfl k_) ?_
              refine qU (fun T_ k_ => r_aload_n (pc := 76) dX6_readsItem_76 rfl k_) ?_
              refine qU (fun T_ k_ => r_callV (pc := 77) (N := mX6_isSourceSign) (rest := [.ref 42]) (s_isSourceSign_t X _ J162 L tx n (t + 1) P162 hR) okX6_isSourceSign lkX6_178 rfl (by decide) rfl rfl rfl (Nat.le_of_ble_eq_true rfl) ⟨Nat.le_refl _, Nat.le_refl _⟩ dX6_readsItem_77 k_) ?_
              refine qP (fun T_ => r_ifN_eq (pc := 80) (tgt := 98) dX6_readsItem_80 (by decide) (by omega)) (fun c3 => ?_) (fun c3 => ?_)
              · exact absurd c3 (by decide)
              · refine qU (fun T_ k_ => r_aload_n (pc := 83) dX6_readsItem_83 rfl k_) ?_
                refine qU (fun T_ k_ => r_getV (pc := 84) (v := nI (tkV tx n (t + 1))) dX6_readsItem_84 fX6_117 rfl rfl ((P162.2.1.2.2.2 (Or.inl hR.1))) k_) ?_
                refine qU (fun T_ k_ => r_bipush (pc := 87) dX6_readsItem_87 bp_97 k_) ?_
                refine qU (fun T_ k_ => r_isubN (pc := 89) dX6_readsItem_89 (by omega) k_) ?_
                refine qU (fun T_ k_ => r_iload_n (pc := 90) dX6_readsItem_90 rfl k_) ?_
                refine qP (fun T_ => r_icmpN_eq (pc := 91) (tgt := 98) dX6_readsItem_91 (by decide) (by omega) (by omega)) (fun c4 => ?_) (fun c4 => ?_)
                · exact absurd c4 (by omega)
                · refine qU (fun T_ k_ => r_iconst (pc := 94) (v := nI 1) dX6_readsItem_94 rfl k_) ?_
                  refine qU (fun T_ k_ => r_goto (pc := 95) (tgt := 99) dX6_readsItem_95 (by decide) k_) ?_
                  obtain ⟨T163, ⟨J163, rfl, F163, C163⟩, S163⟩ := s_takes_t X (d + 2) J162 L tx n (t + 1) P162 (tkV tx n (t + 1)) (P162.2.1.2.2.2 (Or.inl hR.1))
                  have P163 := P162.step F163 C163
                  refine qU (fun T_ k_ => r_callV (pc := 99) (N := mX6_takes) (rest := []) (S163) okX6_takes lkX6_137 rfl (by decide) rfl rfl rfl (Nat.le_of_ble_eq_true rfl) ⟨Nat.le_refl _, Nat.le_refl _⟩ dX6_readsItem_99 k_) ?_
                  refine qU (fun T_ k_ => r_bipush (pc := 102) dX6_readsItem_102 bp_97 k_) ?_
                  refine qU (fun T_ k_ => r_isubN (pc := 104) dX6_readsItem_104 (by omega) k_) ?_
                  refine qU (fun T_ k_ => r_istore_n (pc := 105) (lo1 := [.ref 42, .int (nI 67), .int (nI ((tkV tx n t) - 97)), .int (nI ((tkV tx n (t + 1)) - 97)), .null]) dX6_readsItem_105 rfl (by decide) rfl k_) ?_
                  refine qU (fun T_ k_ => r_aload_n (pc := 106) dX6_readsItem_106 rfl k_) ?_
                  obtain ⟨T164, ⟨J164, rfl, F164, P164⟩, S164⟩ := s_signed_t X (d + 1) J163 L tx n (t + 2) P163 hU
                  refine qU (fun T_ k_ => r_callV (pc := 107) (N := mX6_signed) (rest := []) (S164) okX6_signed lkX6_193 rfl (by decide) rfl rfl rfl (Nat.le_of_ble_eq_true rfl) ⟨Nat.le_refl _, Nat.le_refl _⟩ dX6_readsItem_107 k_) ?_
                  refine qU (fun T_ k_ => r_istore (pc := 110) (lo1 := [.ref 42, .int (nI 67), .int (nI ((tkV tx n t) - 97)), .int (nI ((tkV tx n (t + 1)) - 97)), .int (sgO (tkK tx n) (tkV tx n) (t + 2) * nI (tkV tx n (sgT (tkK tx n) (tkV tx n) (t + 2))))]) dX6_readsItem_110 rfl (by decide) rfl k_) ?_
                  refine qU (fun T_ k_ => r_aload_n (pc := 112) dX6_readsItem_112 rfl k_) ?_
                  refine qU (fun T_ k_ => r_callV (pc := 113) (N := mX6_isWell) (rest := []) (s_isWell_t X _ J164 L P164.2.2) okX6_isWell lkX6_127 rfl (by decide) rfl rfl rfl (Nat.le_of_ble_eq_true rfl) ⟨Nat.le_refl _, Nat.le_refl _⟩ dX6_readsItem_113 k_) ?_
                  refine qP (fun T_ => r_ifN_eq (pc := 116) (tgt := 151) dX6_readsItem_116 (by decide) (by omega)) (fun c5 => ?_) (fun c5 => ?_)
                  · exact absurd c5 (by decide)
                  · refine qU (fun T_ k_ => r_aload_n (pc := 119) dX6_readsItem_119 rfl k_) ?_
                    refine qU (fun T_ k_ => r_getR (pc := 120) (b := 54) dX6_readsItem_120 fX6_43 rfl rfl k_) ?_
                    refine qU (fun T_ k_ => r_bipush (pc := 123) dX6_readsItem_123 bp_12 k_) ?_
                    refine qU (fun T_ k_ => r_bipush (pc := 125) dX6_readsItem_125 bp_6 k_) ?_
                    refine qU (fun T_ k_ => r_iload_n (pc := 127) dX6_readsItem_127 rfl k_) ?_
                    refine qU (fun T_ k_ => r_imulN (pc := 128) dX6_readsItem_128 k_) ?_
                    refine qU (fun T_ k_ => r_iaddN (pc := 129) dX6_readsItem_129 k_) ?_
                    refine qU (fun T_ k_ => r_iload_n (pc := 130) dX6_readsItem_130 rfl k_) ?_
                    refine qU (fun T_ k_ => r_iaddN (pc := 131) dX6_readsItem_131 k_) ?_
                    refine qU (fun T_ k_ => r_iload (pc := 132) dX6_readsItem_132 rfl k_) ?_
                    refine qU (fun T_ k_ => r_iast (pc := 134) (j := (12 + (6 * ((tkV tx n t) - 97))) + ((tkV tx n (t + 1)) - 97)) dX6_readsItem_134 rfl rfl (by omega) (by decide) k_) ?_
                    refine qU (fun T_ k_ => r_aload_n (pc := 135) dX6_readsItem_135 rfl k_) ?_
                    refine qU (fun T_ k_ => r_getR (pc := 136) (b := 54) dX6_readsItem_136 fX6_43 rfl rfl k_) ?_
                    refine qU (fun T_ k_ => r_bipush (pc := 139) dX6_readsItem_139 bp_12 k_) ?_
                    refine qU (fun T_ k_ => r_bipush (pc := 141) dX6_readsItem_141 bp_6 k_) ?_
                    refine qU (fun T_ k_ => r_iload_n (pc := 143) dX6_readsItem_143 rfl k_) ?_
                    refine qU (fun T_ k_ => r_imulN (pc := 144) dX6_readsItem_144 k_) ?_
                    refine qU (fun T_ k_ => r_iaddN (pc := 145) dX6_readsItem_145 k_) ?_
                    refine qU (fun T_ k_ => r_iload_n (pc := 146) dX6_readsItem_146 rfl k_) ?_
                    refine qU (fun T_ k_ => r_iaddN (pc := 147) dX6_readsItem_147 k_) ?_
                    refine qU (fun T_ k_ => r_iload (pc := 148) dX6_readsItem_148 rfl k_) ?_
                    refine qU (fun T_ k_ => r_iast (pc := 150) (j := (12 + (6 * ((tkV tx n (t + 1)) - 97))) + ((tkV tx n t) - 97)) dX6_readsItem_150 rfl rfl (by omega) (by decide) k_) ?_
                    exact ⟨_, ⟨_, rfl, ((((((FRv.refl I).trans F162.v).trans F163.v).trans F164).t).p54 _ _).p54 _ _, (P164.u54 _ _).u54 _ _, ((g.fr (fun j => ((((FRv.refl I).trans F162.v).trans F163.v).trans F164) 54 j (by omega))).put _ _).put _ _⟩, r_vret dX6_readsItem_151 rfl rfl rfl⟩
            · exact absurd c2 (by decide)
          · exact absurd c1 (by decide)
        · rw [if_neg hU]
          refine qU (fun T_ k_ => r_iload_n (pc := 0) dX6_readsItem_0 rfl k_) ?_
          refine qU (fun T_ k_ => r_bipush (pc := 1) dX6_readsItem_1 bp_70 k_) ?_
          refine qN (fun T_ => r_icmpN_ne (pc := 3) (tgt := 11) dX6_readsItem_3 (by decide) (by omega) (by omega)) (fun c1 => ?_) (fun c1 => ?_)
          · refine qU (fun T_ k_ => r_aload_n (pc := 11) dX6_readsItem_11 rfl k_) ?_
            refine qU (fun T_ k_ => r_aload_n (pc := 12) dX6_readsItem_12 rfl k_) ?_
            refine qU (fun T_ k_ => r_callV (pc := 13) (N := mX6_isSourceSign) (rest := [.ref 42]) (s_isSourceSign_t X _ I L tx n t h hS) okX6_isSourceSign lkX6_178 rfl (by decide) rfl rfl rfl (Nat.le_of_ble_eq_true rfl) ⟨Nat.le_refl _, Nat.le_refl _⟩ dX6_readsItem_13 k_) ?_
            obtain ⟨T165, ⟨J165, rfl, F165, C165⟩, S165⟩ := s_takes_t X (d + 2) I L tx n t h (tkV tx n t) (h.2.1.2.2.2 (Or.inl hS.1))
            have P165 := h.step F165 C165
            refine qU (fun T_ k_ => r_callV (pc := 16) (N := mX6_takes) (rest := []) (S165) okX6_takes lkX6_137 rfl (by decide) rfl rfl rfl (Nat.le_of_ble_eq_true rfl) ⟨Nat.le_refl _, Nat.le_refl _⟩ dX6_readsItem_16 k_) ?_
            refine qU (fun T_ k_ => r_bipush (pc := 19) dX6_readsItem_19 bp_97 k_) ?_
            refine qU (fun T_ k_ => r_isubN (pc := 21) dX6_readsItem_21 (by omega) k_) ?_
            refine qU (fun T_ k_ => r_istore_n (pc := 22) (lo1 := [.ref 42, .int (nI 67), .int (nI ((tkV tx n t) - 97)), .null, .null]) dX6_readsItem_22 rfl (by decide) rfl k_) ?_
            refine qU (fun T_ k_ => r_iload_n (pc := 23) dX6_readsItem_23 rfl k_) ?_
            refine qU (fun T_ k_ => r_bipush (pc := 24) dX6_readsItem_24 bp_83 k_) ?_
            refine qN (fun T_ => r_icmpN_ne (pc := 26) (tgt := 75) dX6_readsItem_26 (by decide) (by omega) (by omega)) (fun c2 => ?_) (fun c2 => ?_)
            · refine qU (fun T_ k_ => r_aload_n (pc := 75) dX6_readsItem_75 rfl k_) ?_
              refine qU (fun T_ k_ => r_aload_n (pc := 76) dX6_readsItem_76 rfl k_) ?_
              refine qU (fun T_ k_ => r_callV (pc := 77) (N := mX6_isSourceSign) (rest := [.ref 42]) (s_isSourceSign_t X _ J165 L tx n (t + 1) P165 hR) okX6_isSourceSign lkX6_178 rfl (by decide) rfl rfl rfl (Nat.le_of_ble_eq_true rfl) ⟨Nat.le_refl _, Nat.le_refl _⟩ dX6_readsItem_77 k_) ?_
              refine qP (fun T_ => r_ifN_eq (pc := 80) (tgt := 98) dX6_readsItem_80 (by decide) (by omega)) (fun c3 => ?_) (fun c3 => ?_)
              · exact absurd c3 (by decide)
              · refine qU (fun T_ k_ => r_aload_n (pc := 83) dX6_readsItem_83 rfl k_) ?_
                refine qU (fun T_ k_ => r_getV (pc := 84) (v := nI (tkV tx n (t + 1))) dX6_readsItem_84 fX6_117 rfl rfl ((P165.2.1.2.2.2 (Or.inl hR.1))) k_) ?_
                refine qU (fun T_ k_ => r_bipush (pc := 87) dX6_readsItem_87 bp_97 k_) ?_
                refine qU (fun T_ k_ => r_isubN (pc := 89) dX6_readsItem_89 (by omega) k_) ?_
                refine qU (fun T_ k_ => r_iload_n (pc := 90) dX6_readsItem_90 rfl k_) ?_
                refine qP (fun T_ => r_icmpN_eq (pc := 91) (tgt := 98) dX6_readsItem_91 (by decide) (by omega) (by omega)) (fun c4 => ?_) (fun c4 => ?_)
                · exact absurd c4 (by omega)
                · refine qU (fun T_ k_ => r_iconst (pc := 94) (v := nI 1) dX6_readsItem_94 rfl k_) ?_
                  refine qU (fun T_ k_ => r_goto (pc := 95) (tgt := 99) dX6_readsItem_95 (by decide) k_) ?_
                  obtain ⟨T166, ⟨J166, rfl, F166, C166⟩, S166⟩ := s_takes_t X (d + 2) J165 L tx n (t + 1) P165 (tkV tx n (t + 1)) (P165.2.1.2.2.2 (Or.inl hR.1))
                  have P166 := P165.step F166 C166
                  refine qU (fun T_ k_ => r_callV (pc := 99) (N := mX6_takes) (rest := []) (S166) okX6_takes lkX6_137 rfl (by decide) rfl rfl rfl (Nat.le_of_ble_eq_true rfl) ⟨Nat.le_refl _, Nat.le_refl _⟩ dX6_readsItem_99 k_) ?_
                  refine qU (fun T_ k_ => r_bipush (pc := 102) dX6_readsItem_102 bp_97 k_) ?_
                  refine qU (fun T_ k_ => r_isubN (pc := 104) dX6_readsItem_104 (by omega) k_) ?_
                  refine qU (fun T_ k_ => r_istore_n (pc := 105) (lo1 := [.ref 42, .int (nI 67), .int (nI ((tkV tx n t) - 97)), .int (nI ((tkV tx n (t + 1)) - 97)), .null]) dX6_readsItem_105 rfl (by decide) rfl k_) ?_
                  refine qU (fun T_ k_ => r_aload_n (pc := 106) dX6_readsItem_106 rfl k_) ?_
                  obtain ⟨T167, ⟨x167, J167, rfl, F167, C167⟩, S167⟩ := s_signed_f X (d + 1) J166 L tx n (t + 2) P166 hU
                  refine qU (fun T_ k_ => r_callV (pc := 107) (N := mX6_signed) (rest := []) (S167) okX6_signed lkX6_193 rfl (by decide) rfl rfl rfl (Nat.le_of_ble_eq_true rfl) ⟨Nat.le_refl _, Nat.le_refl _⟩ dX6_readsItem_107 k_) ?_
                  refine qU (fun T_ k_ => r_istore (pc := 110) (lo1 := [.ref 42, .int (nI 67), .int (nI ((tkV tx n t) - 97)), .int (nI ((tkV tx n (t + 1)) - 97)), .int (x167)]) dX6_readsItem_110 rfl (by decide) rfl k_) ?_
                  refine qU (fun T_ k_ => r_aload_n (pc := 112) dX6_readsItem_112 rfl k_) ?_
                  refine qU (fun T_ k_ => r_callV (pc := 113) (N := mX6_isWell) (rest := []) (s_isWell_f X _ J167 L (tkP tx n (sgT (tkK tx n) (tkV tx n) (t + 2))) C167 (Nat.le_trans (tkP_le (sgT (tkK tx n) (tkV tx n) (t + 2))) h.1.2.1)) okX6_isWell lkX6_127 rfl (by decide) rfl rfl rfl (Nat.le_of_ble_eq_true rfl) ⟨Nat.le_refl _, Nat.le_refl _⟩ dX6_readsItem_113 k_) ?_
                  refine qP (fun T_ => r_ifN_eq (pc := 116) (tgt := 151) dX6_readsItem_116 (by decide) (by omega)) (fun c5 => ?_) (fun c5 => ?_)
                  · exact ⟨_, ⟨_, rfl, ((((FRv.refl I).trans F165.v).trans F166.v).trans F167).t, C167⟩, r_vret dX6_readsItem_151 rfl rfl rfl⟩
                  · exact absurd c5 (by decide)
            · exact absurd c2 (by decide)
          · exact absurd c1 (by decide)
    · rw [if_neg (fun z => hR z.1)]
      refine qU (fun T_ k_ => r_iload_n (pc := 0) dX6_readsItem_0 rfl k_) ?_
      refine qU (fun T_ k_ => r_bipush (pc := 1) dX6_readsItem_1 bp_70 k_) ?_
      refine qN (fun T_ => r_icmpN_ne (pc := 3) (tgt := 11) dX6_readsItem_3 (by decide) (by omega) (by omega)) (fun c1 => ?_) (fun c1 => ?_)
      · refine qU (fun T_ k_ => r_aload_n (pc := 11) dX6_readsItem_11 rfl k_) ?_
        refine qU (fun T_ k_ => r_aload_n (pc := 12) dX6_readsItem_12 rfl k_) ?_
        refine qU (fun T_ k_ => r_callV (pc := 13) (N := mX6_isSourceSign) (rest := [.ref 42]) (s_isSourceSign_t X _ I L tx n t h hS) okX6_isSourceSign lkX6_178 rfl (by decide) rfl rfl rfl (Nat.le_of_ble_eq_true rfl) ⟨Nat.le_refl _, Nat.le_refl _⟩ dX6_readsItem_13 k_) ?_
        obtain ⟨T168, ⟨J168, rfl, F168, C168⟩, S168⟩ := s_takes_t X (d + 2) I L tx n t h (tkV tx n t) (h.2.1.2.2.2 (Or.inl hS.1))
        have P168 := h.step F168 C168
        refine qU (fun T_ k_ => r_callV (pc := 16) (N := mX6_takes) (rest := []) (S168) okX6_takes lkX6_137 rfl (by decide) rfl rfl rfl (Nat.le_of_ble_eq_true rfl) ⟨Nat.le_refl _, Nat.le_refl _⟩ dX6_readsItem_16 k_) ?_
        refine qU (fun T_ k_ => r_bipush (pc := 19) dX6_readsItem_19 bp_97 k_) ?_
        refine qU (fun T_ k_ => r_isubN (pc := 21) dX6_readsItem_21 (by omega) k_) ?_
        refine qU (fun T_ k_ => r_istore_n (pc := 22) (lo1 := [.ref 42, .int (nI 67), .int (nI ((tkV tx n t) - 97)), .null, .null]) dX6_readsItem_22 rfl (by decide) rfl k_) ?_
        refine qU (fun T_ k_ => r_iload_n (pc := 23) dX6_readsItem_23 rfl k_) ?_
        refine qU (fun T_ k_ => r_bipush (pc := 24) dX6_readsItem_24 bp_83 k_) ?_
        refine qN (fun T_ => r_icmpN_ne (pc := 26) (tgt := 75) dX6_readsItem_26 (by decide) (by omega) (by omega)) (fun c2 => ?_) (fun c2 => ?_)
        · refine qU (fun T_ k_ => r_aload_n (pc := 75) dX6_readsItem_75 rfl k_) ?_
          refine qU (fun T_ k_ => r_aload_n (pc := 76) dX6_readsItem_76 rfl k_) ?_
          refine qU (fun T_ k_ => r_callV (pc := 77) (N := mX6_isSourceSign) (rest := [.ref 42]) (s_isSourceSign_f X _ J168 L tx n (t + 1) P168 hR) okX6_isSourceSign lkX6_178 rfl (by decide) rfl rfl rfl (Nat.le_of_ble_eq_true rfl) ⟨Nat.le_refl _, Nat.le_refl _⟩ dX6_readsItem_77 k_) ?_
          refine qP (fun T_ => r_ifN_eq (pc := 80) (tgt := 98) dX6_readsItem_80 (by decide) (by omega)) (fun c3 => ?_) (fun c3 => ?_)
          · refine qU (fun T_ k_ => r_iconst (pc := 98) (v := nI 0) dX6_readsItem_98 rfl k_) ?_
            refine qU (fun T_ k_ => r_callV (pc := 99) (N := mX6_takes) (rest := []) (s_takes_f X _ J168 L tx n (t + 1) P168) okX6_takes lkX6_137 rfl (by decide) rfl rfl rfl (Nat.le_of_ble_eq_true rfl) ⟨Nat.le_refl _, Nat.le_refl _⟩ dX6_readsItem_99 k_) ?_
            refine qU (fun T_ k_ => r_bipush (pc := 102) dX6_readsItem_102 bp_97 k_) ?_
            refine qU (fun T_ k_ => r_isub (pc := 104) dX6_readsItem_104 k_) ?_
            refine qU (fun T_ k_ => r_istore_n (pc := 105) (lo1 := [.ref 42, .int (nI 67), .int (nI ((tkV tx n t) - 97)), .int ((nI 0) - (nI 97)), .null]) dX6_readsItem_105 rfl (by decide) rfl k_) ?_
            refine qU (fun T_ k_ => r_aload_n (pc := 106) dX6_readsItem_106 rfl k_) ?_
            refine qU (fun T_ k_ => r_callV (pc := 107) (N := mX6_signed) (rest := []) (s_signed_n X _ (u2 J168 42 7 (nI (tkP tx n (t + 1)))) L (tkP tx n (t + 1)) rfl (Nat.le_trans (tkP_le (t + 1)) P168.1.2.1)) okX6_signed lkX6_193 rfl (by decide) rfl rfl rfl (Nat.le_of_ble_eq_true rfl) ⟨Nat.le_refl _, Nat.le_refl _⟩ dX6_readsItem_107 k_) ?_
            refine qU (fun T_ k_ => r_istore (pc := 110) (lo1 := [.ref 42, .int (nI 67), .int (nI ((tkV tx n t) - 97)), .int ((nI 0) - (nI 97)), .int (nI 0)]) dX6_readsItem_110 rfl (by decide) rfl k_) ?_
            refine qU (fun T_ k_ => r_aload_n (pc := 112) dX6_readsItem_112 rfl k_) ?_
            refine qU (fun T_ k_ => r_callV (pc := 113) (N := mX6_isWell) (rest := []) (s_isWell_f X _ (u2 J168 42 7 (nI (tkP tx n (t + 1)))) L (tkP tx n (t + 1)) rfl (Nat.le_trans (tkP_le (t + 1)) P168.1.2.1)) okX6_isWell lkX6_127 rfl (by decide) rfl rfl rfl (Nat.le_of_ble_eq_true rfl) ⟨Nat.le_refl _, Nat.le_refl _⟩ dX6_readsItem_113 k_) ?_
            refine qP (fun T_ => r_ifN_eq (pc := 116) (tgt := 151) dX6_readsItem_116 (by decide) (by omega)) (fun c4 => ?_) (fun c4 => ?_)
            · exact ⟨_, ⟨_, rfl, (((FRv.refl I).trans F168.v).put 7 _ (by decide)).t, rfl⟩, r_vret dX6_readsItem_151 rfl rfl rfl⟩
            · exact absurd c4 (by decide)
          · exact absurd c3 (by decide)
        · exact absurd c2 (by decide)
      · exact absurd c1 (by decide)
  · rw [if_neg hS]
    refine qU (fun T_ k_ => r_iload_n (pc := 0) dX6_readsItem_0 rfl k_) ?_
    refine qU (fun T_ k_ => r_bipush (pc := 1) dX6_readsItem_1 bp_70 k_) ?_
    refine qN (fun T_ => r_icmpN_ne (pc := 3) (tgt := 11) dX6_readsItem_3 (by decide) (by omega) (by omega)) (fun c1 => ?_) (fun c1 => ?_)
    · refine qU (fun T_ k_ => r_aload_n (pc := 11) dX6_readsItem_11 rfl k_) ?_
      refine qU (fun T_ k_ => r_aload_n (pc := 12) dX6_readsItem_12 rfl k_) ?_
      refine qU (fun T_ k_ => r_callV (pc := 13) (N := mX6_isSourceSign) (rest := [.ref 42]) (s_isSourceSign_f X _ I L tx n t h hS) okX6_isSourceSign lkX6_178 rfl (by decide) rfl rfl rfl (Nat.le_of_ble_eq_true rfl) ⟨Nat.le_refl _, Nat.le_refl _⟩ dX6_readsItem_13 k_) ?_
      refine qU (fun T_ k_ => r_callV (pc := 16) (N := mX6_takes) (rest := []) (s_takes_f X _ I L tx n t h) okX6_takes lkX6_137 rfl (by decide) rfl rfl rfl (Nat.le_of_ble_eq_true rfl) ⟨Nat.le_refl _, Nat.le_refl _⟩ dX6_readsItem_16 k_) ?_
      refine qU (fun T_ k_ => r_bipush (pc := 19) dX6_readsItem_19 bp_97 k_) ?_
      refine qU (fun T_ k_ => r_isub (pc := 21) dX6_readsItem_21 k_) ?_
      refine qU (fun T_ k_ => r_istore_n (pc := 22) (lo1 := [.ref 42, .int (nI 67), .int ((nI 0) - (nI 97)), .null, .null]) dX6_readsItem_22 rfl (by decide) rfl k_) ?_
      refine qU (fun T_ k_ => r_iload_n (pc := 23) dX6_readsItem_23 rfl k_) ?_
      refine qU (fun T_ k_ => r_bipush (pc := 24) dX6_readsItem_24 bp_83 k_) ?_
      refine qN (fun T_ => r_icmpN_ne (pc := 26) (tgt := 75) dX6_readsItem_26 (by decide) (by omega) (by omega)) (fun c2 => ?_) (fun c2 => ?_)
      · refine qU (fun T_ k_ => r_aload_n (pc := 75) dX6_readsItem_75 rfl k_) ?_
        refine qU (fun T_ k_ => r_aload_n (pc := 76) dX6_readsItem_76 rfl k_) ?_
        refine qU (fun T_ k_ => r_callV (pc := 77) (N := mX6_isSourceSign) (rest := [.ref 42]) (s_isSourceSign_n X _ (u2 I 42 7 (nI (tkP tx n t))) L (tkP tx n t) rfl (Nat.le_trans (tkP_le t) h.1.2.1)) okX6_isSourceSign lkX6_178 rfl (by decide) rfl rfl rfl (Nat.le_of_ble_eq_true rfl) ⟨Nat.le_refl _, Nat.le_refl _⟩ dX6_readsItem_77 k_) ?_
        refine qP (fun T_ => r_ifN_eq (pc := 80) (tgt := 98) dX6_readsItem_80 (by decide) (by omega)) (fun c3 => ?_) (fun c3 => ?_)
        · refine qU (fun T_ k_ => r_iconst (pc := 98) (v := nI 0) dX6_readsItem_98 rfl k_) ?_
          refine qU (fun T_ k_ => r_callV (pc := 99) (N := mX6_takes) (rest := []) (s_takes_n X _ (u2 I 42 7 (nI (tkP tx n t))) L _ (tkP tx n t) rfl (Nat.le_trans (tkP_le t) h.1.2.1)) okX6_takes lkX6_137 rfl (by decide) rfl rfl rfl (Nat.le_of_ble_eq_true rfl) ⟨Nat.le_refl _, Nat.le_refl _⟩ dX6_readsItem_99 k_) ?_
          refine qU (fun T_ k_ => r_bipush (pc := 102) dX6_readsItem_102 bp_97 k_) ?_
          refine qU (fun T_ k_ => r_isub (pc := 104) dX6_readsItem_104 k_) ?_
          refine qU (fun T_ k_ => r_istore_n (pc := 105) (lo1 := [.ref 42, .int (nI 67), .int ((nI 0) - (nI 97)), .int ((nI 0) - (nI 97)), .null]) dX6_readsItem_105 rfl (by decide) rfl k_) ?_
          refine qU (fun T_ k_ => r_aload_n (pc := 106) dX6_readsItem_106 rfl k_) ?_
          refine qU (fun T_ k_ => r_callV (pc := 107) (N := mX6_signed) (rest := []) (s_signed_n X _ (u2 I 42 7 (nI (tkP tx n t))) L (tkP tx n t) rfl (Nat.le_trans (tkP_le t) h.1.2.1)) okX6_signed lkX6_193 rfl (by decide) rfl rfl rfl (Nat.le_of_ble_eq_true rfl) ⟨Nat.le_refl _, Nat.le_refl _⟩ dX6_readsItem_107 k_) ?_
          refine qU (fun T_ k_ => r_istore (pc := 110) (lo1 := [.ref 42, .int (nI 67), .int ((nI 0) - (nI 97)), .int ((nI 0) - (nI 97)), .int (nI 0)]) dX6_readsItem_110 rfl (by decide) rfl k_) ?_
          refine qU (fun T_ k_ => r_aload_n (pc := 112) dX6_readsItem_112 rfl k_) ?_
          refine qU (fun T_ k_ => r_callV (pc := 113) (N := mX6_isWell) (rest := []) (s_isWell_f X _ (u2 I 42 7 (nI (tkP tx n t))) L (tkP tx n t) rfl (Nat.le_trans (tkP_le t) h.1.2.1)) okX6_isWell lkX6_127 rfl (by decide) rfl rfl rfl (Nat.le_of_ble_eq_true rfl) ⟨Nat.le_refl _, Nat.le_refl _⟩ dX6_readsItem_113 k_) ?_
          refine qP (fun T_ => r_ifN_eq (pc := 116) (tgt := 151) dX6_readsItem_116 (by decide) (by omega)) (fun c4 => ?_) (fun c4 => ?_)
          · exact ⟨_, ⟨_, rfl, ((FRv.refl I).put 7 _ (by decide)).t, rfl⟩, r_vret dX6_readsItem_151 rfl rfl rfl⟩
          · exact absurd c4 (by decide)
        · exact absurd c3 (by decide)
      · exact absurd c2 (by decide)
    · exact absurd c1 (by decide)
