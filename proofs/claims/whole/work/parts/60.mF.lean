def rpR (K V : Nat → Nat) (F t c : Nat) (ws : List Nat) (op : Nat) : Nat ⊕ ((Nat × Nat × List Nat × Nat) ⊕ (Nat × Nat × Q4)) :=
  if K t = 1 ∧ V t = 40 then (if op < 8 then .inr (.inl (t + 1, c, 0 :: ws, op + 1)) else .inl t)
  else if K t = 1 ∧ V t = 45 then (if 20 ≤ c then .inl t else .inr (.inl (t + 1, c + 1, 110 :: ws, op)))
  else if K t = 1 ∧ V t = 64 then (if 20 ≤ c then .inl t else if K (t + 1) = 2 ∧ V (t + 1) < F then .inr (.inr (t + 1 + 1, c + 1, (2, V (t + 1), 0, 0))) else .inl (t + 1))
  else if K t = 1 ∧ 97 ≤ V t ∧ V t ≤ 102 then (if 20 ≤ c then .inl t else .inr (.inr (t + 1, c + 1, (1, V t - 97, 0, 0))))
  else if K t = 2 then (if 20 ≤ c then .inl t else .inr (.inr (t + 1, c + 1, (0, V t, 0, 0))))
  else .inl t
def QRP (I : MI) (L : ML) (tx : Nat → Nat) (n F : Nat) (l : List Q4) (ps ws : List Nat) (op : Nat) (r : Nat ⊕ ((Nat × Nat × List Nat × Nat) ⊕ (Nat × Nat × Q4))) (T : TR) : Prop := match r with
  | .inl u => ∃ b J, T = (some (.int (nI b)), shF, J, L) ∧ b ≤ 1 ∧ FRq F I J ∧ J 42 7 = nI (tkP tx n u)
  | .inr (.inl (t', c', ws', op')) => ∃ J, T = (some (.int (nI 0)), shF, J, L) ∧ FRq F I J ∧ PM J tx n t' ∧ SM J F c' l ps ws' op' 0
  | .inr (.inr (t', c', q)) => ∃ J, T = (some (.int (nI 1)), shF, J, L) ∧ FRq F I J ∧ PM J tx n t' ∧ SM J F c' (l ++ [q]) (l.length :: ps) ws op 1
theorem FRq.pt2 {F : Nat} {I J : MI} (h : FRq F I J) (c j : Nat) (x : Int32) (hj : c = 61 ∨ c = 62) : FRq F I (u2 J c j x) := fun a i q1 q2 q3 q4 q5 => (u2_ne (by omega)).trans (h a i q1 q2 q3 q4 q5)
theorem sub1_lt {F V : Nat} (h4 : F < 4) (h : F ≤ V) (hV : V < 256) : nI F - nI 1 < nI V := by
  cases F with
  | zero =>
    rw [show nI 0 - nI 1 = (-1 : Int32) from by decide, Int32.lt_iff_toInt_lt, nI_toInt (by omega)]
    have b : ((-1 : Int32)).toInt = -1 := by decide
    omega
  | succ f =>
    have e : nI (f + 1) - nI 1 = nI f := by
      have : f = 0 ∨ f = 1 ∨ f = 2 := by omega
      rcases this with z | z | z <;> subst z <;> decide
    rw [e]
    exact nI_lt2 (by omega) (by omega) (by omega)
theorem s_readsPart (X : Ctx) (d : Nat) (I : MI) (L : ML) (tx : Nat → Nat) (n F t c op : Nat) (l : List Q4) (ps ws : List Nat) (h : PM I tx n t) (hS : SM I F c l ps ws op 0) : ∃ T, QRP I L tx n F l ps ws op (rpR (tkK tx n) (tkV tx n) F t c ws op) T ∧ Sp X mX6_readsPart (d + 4) (0, 0) [.ref 42] shF I L T := by
  refine qU (fun T_ k_ => Sp.of okX6_readsPart [.ref 42, .null] 1 rfl (Nat.le_of_ble_eq_true rfl) k_) ?_
  have bd := tm_bd h.1 t
  have bd1 := tm_bd h.1 (t + 1)
  have hlen := hS.2.len
  have hop := hS.2.2.2.2.2.1
  have hF := hS.2.1
  unfold rpR
  by_cases hA : tkK tx n t = 1 ∧ tkV tx n t = 40
  · rw [if_pos hA]
    by_cases ho : op < 8
    · rw [if_pos ho]
      refine qU (fun T_ k_ => r_aload_n (pc := 0) dX6_readsPart_0 rfl k_) ?_
      refine qU (fun T_ k_ => r_bipush (pc := 1) dX6_readsPart_1 bp_40 k_) ?_
      refine qU (fun T_ k_ => r_callV (pc := 3) (N := mX6_isThis) (rest := []) (s_isThis_t X _ I L (40) tx n t h hA (by decide)) okX6_isThis lkX6_134 rfl (by decide) rfl rfl rfl (Nat.le_of_ble_eq_true rfl) ⟨Nat.le_refl _, Nat.le_refl _⟩ dX6_readsPart_3 k_) ?_
      refine qP (fun T_ => r_ifN_eq (pc := 6) (tgt := 45) dX6_readsPart_6 (by decide) (by omega)) (fun c1 => ?_) (fun c1 => ?_)
      · exact absurd c1 (by decide)
      · refine qU (fun T_ k_ => r_aload_n (pc := 9) dX6_readsPart_9 rfl k_) ?_
        refine qU (fun T_ k_ => r_aload_n (pc := 10) dX6_readsPart_10 rfl k_) ?_
        refine qU (fun T_ k_ => r_getV (pc := 11) (v := nI op) dX6_readsPart_11 fX6_171 rfl rfl (hS.1.2.2.2.2.1) k_) ?_
        refine qU (fun T_ k_ => r_bipush (pc := 14) dX6_readsPart_14 bp_8 k_) ?_
        refine qP (fun T_ => r_icmpN_ge (pc := 16) (tgt := 23) dX6_readsPart_16 (by decide) (by omega) (by omega)) (fun c2 => ?_) (fun c2 => ?_)
        · exact absurd c2 (by omega)
        · refine qU (fun T_ k_ => r_iconst (pc := 19) (v := nI 1) dX6_readsPart_19 rfl k_) ?_
          refine qU (fun T_ k_ => r_goto (pc := 20) (tgt := 24) dX6_readsPart_20 (by decide) k_) ?_
          obtain ⟨T99, ⟨J99, rfl, F99, C99⟩, S99⟩ := s_takes_t X d I L tx n t h (40) ((h.2.1.2.2.2 (Or.inl hA.1)).trans (congrArg nI hA.2))
          have P99 := h.step F99 C99
          have G99 := hS.frm F99
          refine qU (fun T_ k_ => r_callV (pc := 24) (N := mX6_takes) (rest := []) (S99) okX6_takes lkX6_137 rfl (by decide) rfl rfl rfl (Nat.le_of_ble_eq_true rfl) ⟨Nat.le_refl _, Nat.le_refl _⟩ dX6_readsPart_24 k_) ?_
          refine qU (fun T_ k_ => r_pop (pc := 27) dX6_readsPart_27 rfl k_) ?_
          refine qU (fun T_ k_ => r_aload_n (pc := 28) dX6_readsPart_28 rfl k_) ?_
          refine qU (fun T_ k_ => r_dup (pc := 29) dX6_readsPart_29 rfl k_) ?_
          refine qU (fun T_ k_ => r_getV (pc := 30) (v := nI op) dX6_readsPart_30 fX6_171 rfl rfl (G99.1.2.2.2.2.1) k_) ?_
          refine qU (fun T_ k_ => r_iconst (pc := 33) (v := nI 1) dX6_readsPart_33 rfl k_) ?_
          refine qU (fun T_ k_ => r_iaddN (pc := 34) dX6_readsPart_34 k_) ?_
          refine qU (fun T_ k_ => r_put (pc := 35) .int dX6_readsPart_35 fX6_171 rfl rfl nf6_33 rfl rfl k_) ?_
          refine qU (fun T_ k_ => r_aload_n (pc := 38) dX6_readsPart_38 rfl k_) ?_
          refine qU (fun T_ k_ => r_iconst (pc := 39) (v := nI 0) dX6_readsPart_39 rfl k_) ?_
          refine qU (fun T_ k_ => r_callV (pc := 40) (N := mX6_waits) (rest := []) (s_waits X _ (u2 J99 42 33 (nI (op + 1))) L ws.length (nI 0) (G99.1.2.2.2.1) (by omega)) okX6_waits lkX6_174 rfl (by decide) rfl rfl rfl (Nat.le_of_ble_eq_true rfl) ⟨Nat.le_refl _, Nat.le_refl _⟩ dX6_readsPart_40 k_) ?_
          refine qU (fun T_ k_ => r_iconst (pc := 43) (v := nI 0) dX6_readsPart_43 rfl k_) ?_
          exact ⟨_, ⟨_, rfl, ((((FRq.refl F I).trans F99.q).put 33 _ (by decide)).pt2 62 _ _ (by decide)).put 32 _ (by decide), P99.frk ((((FRk.refl F _).put 33 _ (by decide)).pt2 62 _ _ (by decide)).put 32 _ (by decide)), G99.opn ho⟩, r_zret dX6_readsPart_44 rfl (by decide) rfl rfl⟩
    · rw [if_neg ho]
      refine qU (fun T_ k_ => r_aload_n (pc := 0) dX6_readsPart_0 rfl k_) ?_
      refine qU (fun T_ k_ => r_bipush (pc := 1) dX6_readsPart_1 bp_40 k_) ?_
      refine qU (fun T_ k_ => r_callV (pc := 3) (N := mX6_isThis) (rest := []) (s_isThis_t X _ I L (40) tx n t h hA (by decide)) okX6_isThis lkX6_134 rfl (by decide) rfl rfl rfl (Nat.le_of_ble_eq_true rfl) ⟨Nat.le_refl _, Nat.le_refl _⟩ dX6_readsPart_3 k_) ?_
      refine qP (fun T_ => r_ifN_eq (pc := 6) (tgt := 45) dX6_readsPart_6 (by decide) (by omega)) (fun c1 => ?_) (fun c1 => ?_)
      · exact absurd c1 (by decide)
      · refine qU (fun T_ k_ => r_aload_n (pc := 9) dX6_readsPart_9 rfl k_) ?_
        refine qU (fun T_ k_ => r_aload_n (pc := 10) dX6_readsPart_10 rfl k_) ?_
        refine qU (fun T_ k_ => r_getV (pc := 11) (v := nI op) dX6_readsPart_11 fX6_171 rfl rfl (hS.1.2.2.2.2.1) k_) ?_
        refine qU (fun T_ k_ => r_bipush (pc := 14) dX6_readsPart_14 bp_8 k_) ?_
        refine qP (fun T_ => r_icmpN_ge (pc := 16) (tgt := 23) dX6_readsPart_16 (by decide) (by omega) (by omega)) (fun c2 => ?_) (fun c2 => ?_)
        · refine qU (fun T_ k_ => r_iconst (pc := 23) (v := nI 0) dX6_readsPart_23 rfl k_) ?_
          refine qU (fun T_ k_ => r_callV (pc := 24) (N := mX6_takes) (rest := []) (s_takes_f X _ I L tx n t h) okX6_takes lkX6_137 rfl (by decide) rfl rfl rfl (Nat.le_of_ble_eq_true rfl) ⟨Nat.le_refl _, Nat.le_refl _⟩ dX6_readsPart_24 k_) ?_
          refine qU (fun T_ k_ => r_pop (pc := 27) dX6_readsPart_27 rfl k_) ?_
          refine qU (fun T_ k_ => r_aload_n (pc := 28) dX6_readsPart_28 rfl k_) ?_
          refine qU (fun T_ k_ => r_dup (pc := 29) dX6_readsPart_29 rfl k_) ?_
          refine qU (fun T_ k_ => r_getV (pc := 30) (v := nI op) dX6_readsPart_30 fX6_171 rfl rfl (hS.1.2.2.2.2.1) k_) ?_
          refine qU (fun T_ k_ => r_iconst (pc := 33) (v := nI 1) dX6_readsPart_33 rfl k_) ?_
          refine qU (fun T_ k_ => r_iaddN (pc := 34) dX6_readsPart_34 k_) ?_
          refine qU (fun T_ k_ => r_put (pc := 35) .int dX6_readsPart_35 fX6_171 rfl rfl nf6_33 rfl rfl k_) ?_
          refine qU (fun T_ k_ => r_aload_n (pc := 38) dX6_readsPart_38 rfl k_) ?_
          refine qU (fun T_ k_ => r_iconst (pc := 39) (v := nI 0) dX6_readsPart_39 rfl k_) ?_
          refine qU (fun T_ k_ => r_callV (pc := 40) (N := mX6_waits) (rest := []) (s_waits X _ (u2 (u2 I 42 7 (nI (tkP tx n t))) 42 33 (nI (op + 1))) L ws.length (nI 0) (hS.1.2.2.2.1) (by omega)) okX6_waits lkX6_174 rfl (by decide) rfl rfl rfl (Nat.le_of_ble_eq_true rfl) ⟨Nat.le_refl _, Nat.le_refl _⟩ dX6_readsPart_40 k_) ?_
          refine qU (fun T_ k_ => r_iconst (pc := 43) (v := nI 0) dX6_readsPart_43 rfl k_) ?_
          exact ⟨_, ⟨0, _, rfl, by decide, ((((FRq.refl F I).put 7 _ (by decide)).put 33 _ (by decide)).pt2 62 _ _ (by decide)).put 32 _ (by decide), rfl⟩, r_zret dX6_readsPart_44 rfl (by decide) rfl rfl⟩
        · exact absurd c2 (by omega)
  · rw [if_neg hA]
    by_cases hB : tkK tx n t = 1 ∧ tkV tx n t = 45
    · rw [if_pos hB]
      by_cases hc : 20 ≤ c
      · rw [if_pos hc]
        refine qU (fun T_ k_ => r_aload_n (pc := 0) dX6_readsPart_0 rfl k_) ?_
        refine qU (fun T_ k_ => r_bipush (pc := 1) dX6_readsPart_1 bp_40 k_) ?_
        refine qU (fun T_ k_ => r_callV (pc := 3) (N := mX6_isThis) (rest := []) (s_isThis_f X _ I L (40) (by decide) tx n t h hA) okX6_isThis lkX6_134 rfl (by decide) rfl rfl rfl (Nat.le_of_ble_eq_true rfl) ⟨Nat.le_refl _, Nat.le_refl _⟩ dX6_readsPart_3 k_) ?_
        refine qP (fun T_ => r_ifN_eq (pc := 6) (tgt := 45) dX6_readsPart_6 (by decide) (by omega)) (fun c1 => ?_) (fun c1 => ?_)
        · refine qU (fun T_ k_ => r_aload_n (pc := 45) dX6_readsPart_45 rfl k_) ?_
          refine qU (fun T_ k_ => r_bipush (pc := 46) dX6_readsPart_46 bp_45 k_) ?_
          refine qU (fun T_ k_ => r_callV (pc := 48) (N := mX6_isThis) (rest := []) (s_isThis_t X _ I L (45) tx n t h hB (by decide)) okX6_isThis lkX6_134 rfl (by decide) rfl rfl rfl (Nat.le_of_ble_eq_true rfl) ⟨Nat.le_refl _, Nat.le_refl _⟩ dX6_readsPart_48 k_) ?_
          refine qP (fun T_ => r_ifN_eq (pc := 51) (tgt := 71) dX6_readsPart_51 (by decide) (by omega)) (fun c2 => ?_) (fun c2 => ?_)
          · exact absurd c2 (by decide)
          · refine qU (fun T_ k_ => r_aload_n (pc := 54) dX6_readsPart_54 rfl k_) ?_
            refine qU (fun T_ k_ => r_aload_n (pc := 55) dX6_readsPart_55 rfl k_) ?_
            have P101 : PM (u2 I 42 34 (nI (c + 1))) tx n t := h.frk ((FRk.refl F _).put 34 _ (by decide))
            refine qU (fun T_ k_ => r_callV (pc := 56) (N := mX6_counts) (rest := [.ref 42]) (s_counts_f X _ I L c hS.1.2.2.2.2.2.1 hc hS.2.2.2.1) okX6_counts lkX6_168 rfl (by decide) rfl rfl rfl (Nat.le_of_ble_eq_true rfl) ⟨Nat.le_refl _, Nat.le_refl _⟩ dX6_readsPart_56 k_) ?_
            refine qU (fun T_ k_ => r_callV (pc := 59) (N := mX6_takes) (rest := []) (s_takes_f X _ (u2 I 42 34 (nI (c + 1))) L tx n t P101) okX6_takes lkX6_137 rfl (by decide) rfl rfl rfl (Nat.le_of_ble_eq_true rfl) ⟨Nat.le_refl _, Nat.le_refl _⟩ dX6_readsPart_59 k_) ?_
            refine qU (fun T_ k_ => r_pop (pc := 62) dX6_readsPart_62 rfl k_) ?_
            refine qU (fun T_ k_ => r_aload_n (pc := 63) dX6_readsPart_63 rfl k_) ?_
            refine qU (fun T_ k_ => r_bipush (pc := 64) dX6_readsPart_64 bp_110 k_) ?_
            refine qU (fun T_ k_ => r_callV (pc := 66) (N := mX6_waits) (rest := []) (s_waits X _ (u2 (u2 I 42 34 (nI (c + 1))) 42 7 (nI (tkP tx n t))) L ws.length (nI 110) (hS.1.2.2.2.1) (by omega)) okX6_waits lkX6_174 rfl (by decide) rfl rfl rfl (Nat.le_of_ble_eq_true rfl) ⟨Nat.le_refl _, Nat.le_refl _⟩ dX6_readsPart_66 k_) ?_
            refine qU (fun T_ k_ => r_iconst (pc := 69) (v := nI 0) dX6_readsPart_69 rfl k_) ?_
            exact ⟨_, ⟨0, _, rfl, by decide, ((((FRq.refl F I).put 34 _ (by decide)).put 7 _ (by decide)).pt2 62 _ _ (by decide)).put 32 _ (by decide), rfl⟩, r_zret dX6_readsPart_70 rfl (by decide) rfl rfl⟩
        · exact absurd c1 (by decide)
      · rw [if_neg hc]
        refine qU (fun T_ k_ => r_aload_n (pc := 0) dX6_readsPart_0 rfl k_) ?_
        refine qU (fun T_ k_ => r_bipush (pc := 1) dX6_readsPart_1 bp_40 k_) ?_
        refine qU (fun T_ k_ => r_callV (pc := 3) (N := mX6_isThis) (rest := []) (s_isThis_f X _ I L (40) (by decide) tx n t h hA) okX6_isThis lkX6_134 rfl (by decide) rfl rfl rfl (Nat.le_of_ble_eq_true rfl) ⟨Nat.le_refl _, Nat.le_refl _⟩ dX6_readsPart_3 k_) ?_
        refine qP (fun T_ => r_ifN_eq (pc := 6) (tgt := 45) dX6_readsPart_6 (by decide) (by omega)) (fun c1 => ?_) (fun c1 => ?_)
        · refine qU (fun T_ k_ => r_aload_n (pc := 45) dX6_readsPart_45 rfl k_) ?_
          refine qU (fun T_ k_ => r_bipush (pc := 46) dX6_readsPart_46 bp_45 k_) ?_
          refine qU (fun T_ k_ => r_callV (pc := 48) (N := mX6_isThis) (rest := []) (s_isThis_t X _ I L (45) tx n t h hB (by decide)) okX6_isThis lkX6_134 rfl (by decide) rfl rfl rfl (Nat.le_of_ble_eq_true rfl) ⟨Nat.le_refl _, Nat.le_refl _⟩ dX6_readsPart_48 k_) ?_
          refine qP (fun T_ => r_ifN_eq (pc := 51) (tgt := 71) dX6_readsPart_51 (by decide) (by omega)) (fun c2 => ?_) (fun c2 => ?_)
          · exact absurd c2 (by decide)
          · refine qU (fun T_ k_ => r_aload_n (pc := 54) dX6_readsPart_54 rfl k_) ?_
            refine qU (fun T_ k_ => r_aload_n (pc := 55) dX6_readsPart_55 rfl k_) ?_
            have P103 : PM (u2 I 42 34 (nI (c + 1))) tx n t := h.frk ((FRk.refl F _).put 34 _ (by decide))
            have G103 := hS.counted hc
            refine qU (fun T_ k_ => r_callV (pc := 56) (N := mX6_counts) (rest := [.ref 42]) (s_counts_t X _ I L c hS.1.2.2.2.2.2.1 hc) okX6_counts lkX6_168 rfl (by decide) rfl rfl rfl (Nat.le_of_ble_eq_true rfl) ⟨Nat.le_refl _, Nat.le_refl _⟩ dX6_readsPart_56 k_) ?_
            obtain ⟨T104, ⟨J104, rfl, F104, C104⟩, S104⟩ := s_takes_t X d (u2 I 42 34 (nI (c + 1))) L tx n t P103 (45) ((P103.2.1.2.2.2 (Or.inl hB.1)).trans (congrArg nI hB.2))
            have P104 := P103.step F104 C104
            have G104 := G103.1.frm F104
            refine qU (fun T_ k_ => r_callV (pc := 59) (N := mX6_takes) (rest := []) (S104) okX6_takes lkX6_137 rfl (by decide) rfl rfl rfl (Nat.le_of_ble_eq_true rfl) ⟨Nat.le_refl _, Nat.le_refl _⟩ dX6_readsPart_59 k_) ?_
            refine qU (fun T_ k_ => r_pop (pc := 62) dX6_readsPart_62 rfl k_) ?_
            refine qU (fun T_ k_ => r_aload_n (pc := 63) dX6_readsPart_63 rfl k_) ?_
            refine qU (fun T_ k_ => r_bipush (pc := 64) dX6_readsPart_64 bp_110 k_) ?_
            refine qU (fun T_ k_ => r_callV (pc := 66) (N := mX6_waits) (rest := []) (s_waits X _ J104 L ws.length (nI 110) (G104.1.2.2.2.1) (by omega)) okX6_waits lkX6_174 rfl (by decide) rfl rfl rfl (Nat.le_of_ble_eq_true rfl) ⟨Nat.le_refl _, Nat.le_refl _⟩ dX6_readsPart_66 k_) ?_
            refine qU (fun T_ k_ => r_iconst (pc := 69) (v := nI 0) dX6_readsPart_69 rfl k_) ?_
            exact ⟨_, ⟨_, rfl, ((((FRq.refl F I).put 34 _ (by decide)).trans F104.q).pt2 62 _ _ (by decide)).put 32 _ (by decide), P104.frk (((FRk.refl F _).pt2 62 _ _ (by decide)).put 32 _ (by decide)), G104.wait (Or.inl ⟨rfl, rfl⟩) G103.2⟩, r_zret dX6_readsPart_70 rfl (by decide) rfl rfl⟩
        · exact absurd c1 (by decide)
    · rw [if_neg hB]
      by_cases hC : tkK tx n t = 1 ∧ tkV tx n t = 64
      · rw [if_pos hC]
        by_cases hc : 20 ≤ c
        · rw [if_pos hc]
          refine qU (fun T_ k_ => r_aload_n (pc := 0) dX6_readsPart_0 rfl k_) ?_
          refine qU (fun T_ k_ => r_bipush (pc := 1) dX6_readsPart_1 bp_40 k_) ?_
          refine qU (fun T_ k_ => r_callV (pc := 3) (N := mX6_isThis) (rest := []) (s_isThis_f X _ I L (40) (by decide) tx n t h hA) okX6_isThis lkX6_134 rfl (by decide) rfl rfl rfl (Nat.le_of_ble_eq_true rfl) ⟨Nat.le_refl _, Nat.le_refl _⟩ dX6_readsPart_3 k_) ?_
          refine qP (fun T_ => r_ifN_eq (pc := 6) (tgt := 45) dX6_readsPart_6 (by decide) (by omega)) (fun c1 => ?_) (fun c1 => ?_)
          · refine qU (fun T_ k_ => r_aload_n (pc := 45) dX6_readsPart_45 rfl k_) ?_
            refine qU (fun T_ k_ => r_bipush (pc := 46) dX6_readsPart_46 bp_45 k_) ?_
            refine qU (fun T_ k_ => r_callV (pc := 48) (N := mX6_isThis) (rest := []) (s_isThis_f X _ I L (45) (by decide) tx n t h hB) okX6_isThis lkX6_134 rfl (by decide) rfl rfl rfl (Nat.le_of_ble_eq_true rfl) ⟨Nat.le_refl _, Nat.le_refl _⟩ dX6_readsPart_48 k_) ?_
            refine qP (fun T_ => r_ifN_eq (pc := 51) (tgt := 71) dX6_readsPart_51 (by decide) (by omega)) (fun c2 => ?_) (fun c2 => ?_)
            · refine qU (fun T_ k_ => r_aload_n (pc := 71) dX6_readsPart_71 rfl k_) ?_
              refine qU (fun T_ k_ => r_bipush (pc := 72) dX6_readsPart_72 bp_64 k_) ?_
              refine qU (fun T_ k_ => r_callV (pc := 74) (N := mX6_isThis) (rest := []) (s_isThis_t X _ I L (64) tx n t h hC (by decide)) okX6_isThis lkX6_134 rfl (by decide) rfl rfl rfl (Nat.le_of_ble_eq_true rfl) ⟨Nat.le_refl _, Nat.le_refl _⟩ dX6_readsPart_74 k_) ?_
              refine qP (fun T_ => r_ifN_eq (pc := 77) (tgt := 125) dX6_readsPart_77 (by decide) (by omega)) (fun c3 => ?_) (fun c3 => ?_)
              · exact absurd c3 (by decide)
              · refine qU (fun T_ k_ => r_aload_n (pc := 80) dX6_readsPart_80 rfl k_) ?_
                refine qU (fun T_ k_ => r_aload_n (pc := 81) dX6_readsPart_81 rfl k_) ?_
                have P105 : PM (u2 I 42 34 (nI (c + 1))) tx n t := h.frk ((FRk.refl F _).put 34 _ (by decide))
                refine qU (fun T_ k_ => r_callV (pc := 82) (N := mX6_counts) (rest := [.ref 42]) (s_counts_f X _ I L c hS.1.2.2.2.2.2.1 hc hS.2.2.2.1) okX6_counts lkX6_168 rfl (by decide) rfl rfl rfl (Nat.le_of_ble_eq_true rfl) ⟨Nat.le_refl _, Nat.le_refl _⟩ dX6_readsPart_82 k_) ?_
                refine qU (fun T_ k_ => r_callV (pc := 85) (N := mX6_takes) (rest := []) (s_takes_f X _ (u2 I 42 34 (nI (c + 1))) L tx n t P105) okX6_takes lkX6_137 rfl (by decide) rfl rfl rfl (Nat.le_of_ble_eq_true rfl) ⟨Nat.le_refl _, Nat.le_refl _⟩ dX6_readsPart_85 k_) ?_
                refine qU (fun T_ k_ => r_pop (pc := 88) dX6_readsPart_88 rfl k_) ?_
                refine qU (fun T_ k_ => r_aload_n (pc := 89) dX6_readsPart_89 rfl k_) ?_
                refine qU (fun T_ k_ => r_aload_n (pc := 90) dX6_readsPart_90 rfl k_) ?_
                refine qU (fun T_ k_ => r_iconst (pc := 91) (v := nI 0) dX6_readsPart_91 rfl k_) ?_
                refine qU (fun T_ k_ => r_aload_n (pc := 92) dX6_readsPart_92 rfl k_) ?_
                refine qU (fun T_ k_ => r_getV (pc := 93) (v := nI F) dX6_readsPart_93 fX6_145 rfl rfl (hS.1.1) k_) ?_
                refine qU (fun T_ k_ => r_iconst (pc := 96) (v := nI 1) dX6_readsPart_96 rfl k_) ?_
                refine qU (fun T_ k_ => r_isub (pc := 97) dX6_readsPart_97 k_) ?_
                refine qU (fun T_ k_ => r_callV (pc := 98) (N := mX6_isNumber) (rest := [.ref 42]) (s_isNumber_n X _ (u2 (u2 I 42 34 (nI (c + 1))) 42 7 (nI (tkP tx n t))) L _ _ (tkP tx n t) rfl (Nat.le_trans (tkP_le t) P105.1.2.1)) okX6_isNumber lkX6_141 rfl (by decide) rfl rfl rfl (Nat.le_of_ble_eq_true rfl) ⟨Nat.le_refl _, Nat.le_refl _⟩ dX6_readsPart_98 k_) ?_
                refine qU (fun T_ k_ => r_callV (pc := 101) (N := mX6_takes) (rest := []) (s_takes_n X _ (u2 (u2 I 42 34 (nI (c + 1))) 42 7 (nI (tkP tx n t))) L _ (tkP tx n t) rfl (Nat.le_trans (tkP_le t) P105.1.2.1)) okX6_takes lkX6_137 rfl (by decide) rfl rfl rfl (Nat.le_of_ble_eq_true rfl) ⟨Nat.le_refl _, Nat.le_refl _⟩ dX6_readsPart_101 k_) ?_
                refine qU (fun T_ k_ => r_istore_n (pc := 104) (lo1 := [.ref 42, .int (nI 0)]) dX6_readsPart_104 rfl (by decide) rfl k_) ?_
                refine qU (fun T_ k_ => r_aload_n (pc := 105) dX6_readsPart_105 rfl k_) ?_
                refine qU (fun T_ k_ => r_callV (pc := 106) (N := mX6_isWell) (rest := []) (s_isWell_f X _ (u2 (u2 I 42 34 (nI (c + 1))) 42 7 (nI (tkP tx n t))) L (tkP tx n t) rfl (Nat.le_trans (tkP_le t) P105.1.2.1)) okX6_isWell lkX6_127 rfl (by decide) rfl rfl rfl (Nat.le_of_ble_eq_true rfl) ⟨Nat.le_refl _, Nat.le_refl _⟩ dX6_readsPart_106 k_) ?_
                refine qP (fun T_ => r_ifN_eq (pc := 109) (tgt := 122) dX6_readsPart_109 (by decide) (by omega)) (fun c4 => ?_) (fun c4 => ?_)
                · refine qU (fun T_ k_ => r_goto (pc := 122) (tgt := 208) dX6_readsPart_122 (by decide) k_) ?_
                  refine qU (fun T_ k_ => r_iconst (pc := 208) (v := nI 1) dX6_readsPart_208 rfl k_) ?_
                  exact ⟨_, ⟨1, _, rfl, by decide, ((FRq.refl F I).put 34 _ (by decide)).put 7 _ (by decide), rfl⟩, r_zret dX6_readsPart_209 rfl (by decide) rfl rfl⟩
                · exact absurd c4 (by decide)
            · exact absurd c2 (by decide)
          · exact absurd c1 (by decide)
        · rw [if_neg hc]
          by_cases hN : tkK tx n (t + 1) = 2 ∧ tkV tx n (t + 1) < F
          · rw [if_pos hN]
            have hN2 := hN.2
            refine qU (fun T_ k_ => r_aload_n (pc := 0) dX6_readsPart_0 rfl k_) ?_
            refine qU (fun T_ k_ => r_bipush (pc := 1) dX6_readsPart_1 bp_40 k_) ?_
            refine qU (fun T_ k_ => r_callV (pc := 3) (N := mX6_isThis) (rest := []) (s_isThis_f X _ I L (40) (by decide) tx n t h hA) okX6_isThis lkX6_134 rfl (by decide) rfl rfl rfl (Nat.le_of_ble_eq_true rfl) ⟨Nat.le_refl _, Nat.le_refl _⟩ dX6_readsPart_3 k_) ?_
            refine qP (fun T_ => r_ifN_eq (pc := 6) (tgt := 45) dX6_readsPart_6 (by decide) (by omega)) (fun c1 => ?_) (fun c1 => ?_)
            · refine qU (fun T_ k_ => r_aload_n (pc := 45) dX6_readsPart_45 rfl k_) ?_
              refine qU (fun T_ k_ => r_bipush (pc := 46) dX6_readsPart_46 bp_45 k_) ?_
              refine qU (fun T_ k_ => r_callV (pc := 48) (N := mX6_isThis) (rest := []) (s_isThis_f X _ I L (45) (by decide) tx n t h hB) okX6_isThis lkX6_134 rfl (by decide) rfl rfl rfl (Nat.le_of_ble_eq_true rfl) ⟨Nat.le_refl _, Nat.le_refl _⟩ dX6_readsPart_48 k_) ?_
              refine qP (fun T_ => r_ifN_eq (pc := 51) (tgt := 71) dX6_readsPart_51 (by decide) (by omega)) (fun c2 => ?_) (fun c2 => ?_)
              · refine qU (fun T_ k_ => r_aload_n (pc := 71) dX6_readsPart_71 rfl k_) ?_
                refine qU (fun T_ k_ => r_bipush (pc := 72) dX6_readsPart_72 bp_64 k_) ?_
                refine qU (fun T_ k_ => r_callV (pc := 74) (N := mX6_isThis) (rest := []) (s_isThis_t X _ I L (64) tx n t h hC (by decide)) okX6_isThis lkX6_134 rfl (by decide) rfl rfl rfl (Nat.le_of_ble_eq_true rfl) ⟨Nat.le_refl _, Nat.le_refl _⟩ dX6_readsPart_74 k_) ?_
                refine qP (fun T_ => r_ifN_eq (pc := 77) (tgt := 125) dX6_readsPart_77 (by decide) (by omega)) (fun c3 => ?_) (fun c3 => ?_)
                · exact absurd c3 (by decide)
                · refine qU (fun T_ k_ => r_aload_n (pc := 80) dX6_readsPart_80 rfl k_) ?_
                  refine qU (fun T_ k_ => r_aload_n (pc := 81) dX6_readsPart_81 rfl k_) ?_
                  have P107 : PM (u2 I 42 34 (nI (c + 1))) tx n t := h.frk ((FRk.refl F _).put 34 _ (by decide))
                  have G107 := hS.counted hc
                  refine qU (fun T_ k_ => r_callV (pc := 82) (N := mX6_counts) (rest := [.ref 42]) (s_counts_t X _ I L c hS.1.2.2.2.2.2.1 hc) okX6_counts lkX6_168 rfl (by decide) rfl rfl rfl (Nat.le_of_ble_eq_true rfl) ⟨Nat.le_refl _, Nat.le_refl _⟩ dX6_readsPart_82 k_) ?_
                  obtain ⟨T108, ⟨J108, rfl, F108, C108⟩, S108⟩ := s_takes_t X d (u2 I 42 34 (nI (c + 1))) L tx n t P107 (64) ((P107.2.1.2.2.2 (Or.inl hC.1)).trans (congrArg nI hC.2))
                  have P108 := P107.step F108 C108
                  have G108 := G107.1.frm F108
                  refine qU (fun T_ k_ => r_callV (pc := 85) (N := mX6_takes) (rest := []) (S108) okX6_takes lkX6_137 rfl (by decide) rfl rfl rfl (Nat.le_of_ble_eq_true rfl) ⟨Nat.le_refl _, Nat.le_refl _⟩ dX6_readsPart_85 k_) ?_
                  refine qU (fun T_ k_ => r_pop (pc := 88) dX6_readsPart_88 rfl k_) ?_
                  refine qU (fun T_ k_ => r_aload_n (pc := 89) dX6_readsPart_89 rfl k_) ?_
                  refine qU (fun T_ k_ => r_aload_n (pc := 90) dX6_readsPart_90 rfl k_) ?_
                  refine qU (fun T_ k_ => r_iconst (pc := 91) (v := nI 0) dX6_readsPart_91 rfl k_) ?_
                  refine qU (fun T_ k_ => r_aload_n (pc := 92) dX6_readsPart_92 rfl k_) ?_
                  refine qU (fun T_ k_ => r_getV (pc := 93) (v := nI F) dX6_readsPart_93 fX6_145 rfl rfl (G108.1.1) k_) ?_
                  refine qU (fun T_ k_ => r_iconst (pc := 96) (v := nI 1) dX6_readsPart_96 rfl k_) ?_
                  refine qU (fun T_ k_ => r_isubN (pc := 97) dX6_readsPart_97 (by omega) k_) ?_
                  refine qU (fun T_ k_ => r_callV (pc := 98) (N := mX6_isNumber) (rest := [.ref 42]) (s_isNumber_t X _ J108 L 0 (F - 1) (by omega) tx n (t + 1) P108 hN.1 (Nat.zero_le _) (by omega)) okX6_isNumber lkX6_141 rfl (by decide) rfl rfl rfl (Nat.le_of_ble_eq_true rfl) ⟨Nat.le_refl _, Nat.le_refl _⟩ dX6_readsPart_98 k_) ?_
                  obtain ⟨T109, ⟨J109, rfl, F109, C109⟩, S109⟩ := s_takes_t X d J108 L tx n (t + 1) P108 (tkV tx n (t + 1)) (P108.2.1.2.2.2 (Or.inr hN.1))
                  have P109 := P108.step F109 C109
                  have G109 := G108.frm F109
                  refine qU (fun T_ k_ => r_callV (pc := 101) (N := mX6_takes) (rest := []) (S109) okX6_takes lkX6_137 rfl (by decide) rfl rfl rfl (Nat.le_of_ble_eq_true rfl) ⟨Nat.le_refl _, Nat.le_refl _⟩ dX6_readsPart_101 k_) ?_
                  refine qU (fun T_ k_ => r_istore_n (pc := 104) (lo1 := [.ref 42, .int (nI (tkV tx n (t + 1)))]) dX6_readsPart_104 rfl (by decide) rfl k_) ?_
                  refine qU (fun T_ k_ => r_aload_n (pc := 105) dX6_readsPart_105 rfl k_) ?_
                  refine qU (fun T_ k_ => r_callV (pc := 106) (N := mX6_isWell) (rest := []) (s_isWell_t X _ J109 L P109.2.2) okX6_isWell lkX6_127 rfl (by decide) rfl rfl rfl (Nat.le_of_ble_eq_true rfl) ⟨Nat.le_refl _, Nat.le_refl _⟩ dX6_readsPart_106 k_) ?_
                  refine qP (fun T_ => r_ifN_eq (pc := 109) (tgt := 122) dX6_readsPart_109 (by decide) (by omega)) (fun c4 => ?_) (fun c4 => ?_)
                  · exact absurd c4 (by decide)
                  · refine qU (fun T_ k_ => r_aload_n (pc := 112) dX6_readsPart_112 rfl k_) ?_
                    refine qU (fun T_ k_ => r_iconst (pc := 113) (v := nI 2) dX6_readsPart_113 rfl k_) ?_
                    refine qU (fun T_ k_ => r_iload_n (pc := 114) dX6_readsPart_114 rfl k_) ?_
                    refine qU (fun T_ k_ => r_bipush (pc := 115) dX6_readsPart_115 bp_m9 k_) ?_
                    refine qU (fun T_ k_ => r_bipush (pc := 117) dX6_readsPart_117 bp_m9 k_) ?_
                    have N110 := G109.2.len
                    have hl110 := G107.2
                    have hc110 := G109.2.2.2.1
                    have G110 := G109.made G107.2 ((2, tkV tx n (t + 1), 0, 0) : Q4) (Or.inr (Or.inr (Or.inl ⟨rfl, hN2⟩))) (so := (nI 2)) (its := (nI (tkV tx n (t + 1)))) (lf := (-9)) (rt := (-9)) rfl rfl (fun z => absurd z (show ¬ 42 ≤ (2 : Nat) by decide)) (fun z => absurd z (show ¬ ((2 : Nat) = 42 ∨ (2 : Nat) = 43 ∨ (2 : Nat) = 45) by decide)) (fun z => absurd z (show ¬ ((2 : Nat) = 94 ∨ (2 : Nat) = 110) by decide))
                    have P110 := P109.frk ((FRk.refl F _).mk l.length ps.length (nI 2) (nI (tkV tx n (t + 1))) (-9) (-9))
                    refine qU (fun T_ k_ => r_callV (pc := 119) (N := mX6_makes) (rest := []) (s_makes X _ J109 L F l.length ps.length (nI 2) (nI (tkV tx n (t + 1))) (-9) (-9) (G109.1.1) (G109.1.2.1) G109.1.2.2.1 hF (by omega) (by omega)) okX6_makes lkX6_157 rfl (by decide) rfl rfl rfl (Nat.le_of_ble_eq_true rfl) ⟨Nat.le_refl _, Nat.le_refl _⟩ dX6_readsPart_119 k_) ?_
                    refine qU (fun T_ k_ => r_goto (pc := 122) (tgt := 208) dX6_readsPart_122 (by decide) k_) ?_
                    refine qU (fun T_ k_ => r_iconst (pc := 208) (v := nI 1) dX6_readsPart_208 rfl k_) ?_
                    exact ⟨_, ⟨_, rfl, ((((FRq.refl F I).put 34 _ (by decide)).trans F108.q).trans F109.q).trans ((FRk.refl F _).mk _ _ _ _ _ _).q, P110, G110⟩, r_zret dX6_readsPart_209 rfl (by decide) rfl rfl⟩
              · exact absurd c2 (by decide)
            · exact absurd c1 (by decide)
          · rw [if_neg hN]
            refine qU (fun T_ k_ => r_aload_n (pc := 0) dX6_readsPart_0 rfl k_) ?_
            refine qU (fun T_ k_ => r_bipush (pc := 1) dX6_readsPart_1 bp_40 k_) ?_
            refine qU (fun T_ k_ => r_callV (pc := 3) (N := mX6_isThis) (rest := []) (s_isThis_f X _ I L (40) (by decide) tx n t h hA) okX6_isThis lkX6_134 rfl (by decide) rfl rfl rfl (Nat.le_of_ble_eq_true rfl) ⟨Nat.le_refl _, Nat.le_refl _⟩ dX6_readsPart_3 k_) ?_
            refine qP (fun T_ => r_ifN_eq (pc := 6) (tgt := 45) dX6_readsPart_6 (by decide) (by omega)) (fun c1 => ?_) (fun c1 => ?_)
            · refine qU (fun T_ k_ => r_aload_n (pc := 45) dX6_readsPart_45 rfl k_) ?_
              refine qU (fun T_ k_ => r_bipush (pc := 46) dX6_readsPart_46 bp_45 k_) ?_
              refine qU (fun T_ k_ => r_callV (pc := 48) (N := mX6_isThis) (rest := []) (s_isThis_f X _ I L (45) (by decide) tx n t h hB) okX6_isThis lkX6_134 rfl (by decide) rfl rfl rfl (Nat.le_of_ble_eq_true rfl) ⟨Nat.le_refl _, Nat.le_refl _⟩ dX6_readsPart_48 k_) ?_
              refine qP (fun T_ => r_ifN_eq (pc := 51) (tgt := 71) dX6_readsPart_51 (by decide) (by omega)) (fun c2 => ?_) (fun c2 => ?_)
              · refine qU (fun T_ k_ => r_aload_n (pc := 71) dX6_readsPart_71 rfl k_) ?_
                refine qU (fun T_ k_ => r_bipush (pc := 72) dX6_readsPart_72 bp_64 k_) ?_
                refine qU (fun T_ k_ => r_callV (pc := 74) (N := mX6_isThis) (rest := []) (s_isThis_t X _ I L (64) tx n t h hC (by decide)) okX6_isThis lkX6_134 rfl (by decide) rfl rfl rfl (Nat.le_of_ble_eq_true rfl) ⟨Nat.le_refl _, Nat.le_refl _⟩ dX6_readsPart_74 k_) ?_
                refine qP (fun T_ => r_ifN_eq (pc := 77) (tgt := 125) dX6_readsPart_77 (by decide) (by omega)) (fun c3 => ?_) (fun c3 => ?_)
                · exact absurd c3 (by decide)
                · refine qU (fun T_ k_ => r_aload_n (pc := 80) dX6_readsPart_80 rfl k_) ?_
                  refine qU (fun T_ k_ => r_aload_n (pc := 81) dX6_readsPart_81 rfl k_) ?_
                  have P111 : PM (u2 I 42 34 (nI (c + 1))) tx n t := h.frk ((FRk.refl F _).put 34 _ (by decide))
                  have G111 := hS.counted hc
                  refine qU (fun T_ k_ => r_callV (pc := 82) (N := mX6_counts) (rest := [.ref 42]) (s_counts_t X _ I L c hS.1.2.2.2.2.2.1 hc) okX6_counts lkX6_168 rfl (by decide) rfl rfl rfl (Nat.le_of_ble_eq_true rfl) ⟨Nat.le_refl _, Nat.le_refl _⟩ dX6_readsPart_82 k_) ?_
                  obtain ⟨T112, ⟨J112, rfl, F112, C112⟩, S112⟩ := s_takes_t X d (u2 I 42 34 (nI (c + 1))) L tx n t P111 (64) ((P111.2.1.2.2.2 (Or.inl hC.1)).trans (congrArg nI hC.2))
                  have P112 := P111.step F112 C112
                  have G112 := G111.1.frm F112
                  refine qU (fun T_ k_ => r_callV (pc := 85) (N := mX6_takes) (rest := []) (S112) okX6_takes lkX6_137 rfl (by decide) rfl rfl rfl (Nat.le_of_ble_eq_true rfl) ⟨Nat.le_refl _, Nat.le_refl _⟩ dX6_readsPart_85 k_) ?_
                  refine qU (fun T_ k_ => r_pop (pc := 88) dX6_readsPart_88 rfl k_) ?_
                  refine qU (fun T_ k_ => r_aload_n (pc := 89) dX6_readsPart_89 rfl k_) ?_
                  refine qU (fun T_ k_ => r_aload_n (pc := 90) dX6_readsPart_90 rfl k_) ?_
                  refine qU (fun T_ k_ => r_iconst (pc := 91) (v := nI 0) dX6_readsPart_91 rfl k_) ?_
                  refine qU (fun T_ k_ => r_aload_n (pc := 92) dX6_readsPart_92 rfl k_) ?_
                  refine qU (fun T_ k_ => r_getV (pc := 93) (v := nI F) dX6_readsPart_93 fX6_145 rfl rfl (G112.1.1) k_) ?_
                  refine qU (fun T_ k_ => r_iconst (pc := 96) (v := nI 1) dX6_readsPart_96 rfl k_) ?_
                  refine qU (fun T_ k_ => r_isub (pc := 97) dX6_readsPart_97 k_) ?_
                  refine qU (fun T_ k_ => r_callV (pc := 98) (N := mX6_isNumber) (rest := [.ref 42]) (s_isNumber_f X _ J112 L (nI F - nI 1) tx n (t + 1) P112 (fun q => sub1_lt hF (Nat.le_of_not_lt (fun y => hN ⟨q, y⟩)) bd1.2.1)) okX6_isNumber lkX6_141 rfl (by decide) rfl rfl rfl (Nat.le_of_ble_eq_true rfl) ⟨Nat.le_refl _, Nat.le_refl _⟩ dX6_readsPart_98 k_) ?_
                  refine qU (fun T_ k_ => r_callV (pc := 101) (N := mX6_takes) (rest := []) (s_takes_f X _ J112 L tx n (t + 1) P112) okX6_takes lkX6_137 rfl (by decide) rfl rfl rfl (Nat.le_of_ble_eq_true rfl) ⟨Nat.le_refl _, Nat.le_refl _⟩ dX6_readsPart_101 k_) ?_
                  refine qU (fun T_ k_ => r_istore_n (pc := 104) (lo1 := [.ref 42, .int (nI 0)]) dX6_readsPart_104 rfl (by decide) rfl k_) ?_
                  refine qU (fun T_ k_ => r_aload_n (pc := 105) dX6_readsPart_105 rfl k_) ?_
                  refine qU (fun T_ k_ => r_callV (pc := 106) (N := mX6_isWell) (rest := []) (s_isWell_f X _ (u2 J112 42 7 (nI (tkP tx n (t + 1)))) L (tkP tx n (t + 1)) rfl (Nat.le_trans (tkP_le (t + 1)) P112.1.2.1)) okX6_isWell lkX6_127 rfl (by decide) rfl rfl rfl (Nat.le_of_ble_eq_true rfl) ⟨Nat.le_refl _, Nat.le_refl _⟩ dX6_readsPart_106 k_) ?_
                  refine qP (fun T_ => r_ifN_eq (pc := 109) (tgt := 122) dX6_readsPart_109 (by decide) (by omega)) (fun c4 => ?_) (fun c4 => ?_)
                  · refine qU (fun T_ k_ => r_goto (pc := 122) (tgt := 208) dX6_readsPart_122 (by decide) k_) ?_
                    refine qU (fun T_ k_ => r_iconst (pc := 208) (v := nI 1) dX6_readsPart_208 rfl k_) ?_
                    exact ⟨_, ⟨1, _, rfl, by decide, (((FRq.refl F I).put 34 _ (by decide)).trans F112.q).put 7 _ (by decide), rfl⟩, r_zret dX6_readsPart_209 rfl (by decide) rfl rfl⟩
                  · exact absurd c4 (by decide)
              · exact absurd c2 (by decide)
            · exact absurd c1 (by decide)
      · rw [if_neg hC]
        by_cases hD : tkK tx n t = 1 ∧ 97 ≤ tkV tx n t ∧ tkV tx n t ≤ 102
        · rw [if_pos hD]
          have hD2 := hD.2
          by_cases hc : 20 ≤ c
          · rw [if_pos hc]
            refine qU (fun T_ k_ => r_aload_n (pc := 0) dX6_readsPart_0 rfl k_) ?_
            refine qU (fun T_ k_ => r_bipush (pc := 1) dX6_readsPart_1 bp_40 k_) ?_
            refine qU (fun T_ k_ => r_callV (pc := 3) (N := mX6_isThis) (rest := []) (s_isThis_f X _ I L (40) (by decide) tx n t h hA) okX6_isThis lkX6_134 rfl (by decide) rfl rfl rfl (Nat.le_of_ble_eq_true rfl) ⟨Nat.le_refl _, Nat.le_refl _⟩ dX6_readsPart_3 k_) ?_
            refine qP (fun T_ => r_ifN_eq (pc := 6) (tgt := 45) dX6_readsPart_6 (by decide) (by omega)) (fun c1 => ?_) (fun c1 => ?_)
            · refine qU (fun T_ k_ => r_aload_n (pc := 45) dX6_readsPart_45 rfl k_) ?_
              refine qU (fun T_ k_ => r_bipush (pc := 46) dX6_readsPart_46 bp_45 k_) ?_
              refine qU (fun T_ k_ => r_callV (pc := 48) (N := mX6_isThis) (rest := []) (s_isThis_f X _ I L (45) (by decide) tx n t h hB) okX6_isThis lkX6_134 rfl (by decide) rfl rfl rfl (Nat.le_of_ble_eq_true rfl) ⟨Nat.le_refl _, Nat.le_refl _⟩ dX6_readsPart_48 k_) ?_
              refine qP (fun T_ => r_ifN_eq (pc := 51) (tgt := 71) dX6_readsPart_51 (by decide) (by omega)) (fun c2 => ?_) (fun c2 => ?_)
              · refine qU (fun T_ k_ => r_aload_n (pc := 71) dX6_readsPart_71 rfl k_) ?_
                refine qU (fun T_ k_ => r_bipush (pc := 72) dX6_readsPart_72 bp_64 k_) ?_
                refine qU (fun T_ k_ => r_callV (pc := 74) (N := mX6_isThis) (rest := []) (s_isThis_f X _ I L (64) (by decide) tx n t h hC) okX6_isThis lkX6_134 rfl (by decide) rfl rfl rfl (Nat.le_of_ble_eq_true rfl) ⟨Nat.le_refl _, Nat.le_refl _⟩ dX6_readsPart_74 k_) ?_
                refine qP (fun T_ => r_ifN_eq (pc := 77) (tgt := 125) dX6_readsPart_77 (by decide) (by omega)) (fun c3 => ?_) (fun c3 => ?_)
                · refine qU (fun T_ k_ => r_aload_n (pc := 125) dX6_readsPart_125 rfl k_) ?_
                  refine qU (fun T_ k_ => r_callV (pc := 126) (N := mX6_isSourceSign) (rest := []) (s_isSourceSign_t X _ I L tx n t h hD) okX6_isSourceSign lkX6_178 rfl (by decide) rfl rfl rfl (Nat.le_of_ble_eq_true rfl) ⟨Nat.le_refl _, Nat.le_refl _⟩ dX6_readsPart_126 k_) ?_
                  refine qP (fun T_ => r_ifN_eq (pc := 129) (tgt := 164) dX6_readsPart_129 (by decide) (by omega)) (fun c4 => ?_) (fun c4 => ?_)
                  · exact absurd c4 (by decide)
                  · refine qU (fun T_ k_ => r_aload_n (pc := 132) dX6_readsPart_132 rfl k_) ?_
                    refine qU (fun T_ k_ => r_aload_n (pc := 133) dX6_readsPart_133 rfl k_) ?_
                    have P114 : PM (u2 I 42 34 (nI (c + 1))) tx n t := h.frk ((FRk.refl F _).put 34 _ (by decide))
                    refine qU (fun T_ k_ => r_callV (pc := 134) (N := mX6_counts) (rest := [.ref 42]) (s_counts_f X _ I L c hS.1.2.2.2.2.2.1 hc hS.2.2.2.1) okX6_counts lkX6_168 rfl (by decide) rfl rfl rfl (Nat.le_of_ble_eq_true rfl) ⟨Nat.le_refl _, Nat.le_refl _⟩ dX6_readsPart_134 k_) ?_
                    refine qU (fun T_ k_ => r_callV (pc := 137) (N := mX6_takes) (rest := []) (s_takes_f X _ (u2 I 42 34 (nI (c + 1))) L tx n t P114) okX6_takes lkX6_137 rfl (by decide) rfl rfl rfl (Nat.le_of_ble_eq_true rfl) ⟨Nat.le_refl _, Nat.le_refl _⟩ dX6_readsPart_137 k_) ?_
                    refine qU (fun T_ k_ => r_istore_n (pc := 140) (lo1 := [.ref 42, .int (nI 0)]) dX6_readsPart_140 rfl (by decide) rfl k_) ?_
                    refine qU (fun T_ k_ => r_aload_n (pc := 141) dX6_readsPart_141 rfl k_) ?_
                    refine qU (fun T_ k_ => r_callV (pc := 142) (N := mX6_isWell) (rest := []) (s_isWell_f X _ (u2 (u2 I 42 34 (nI (c + 1))) 42 7 (nI (tkP tx n t))) L (tkP tx n t) rfl (Nat.le_trans (tkP_le t) P114.1.2.1)) okX6_isWell lkX6_127 rfl (by decide) rfl rfl rfl (Nat.le_of_ble_eq_true rfl) ⟨Nat.le_refl _, Nat.le_refl _⟩ dX6_readsPart_142 k_) ?_
                    refine qP (fun T_ => r_ifN_eq (pc := 145) (tgt := 161) dX6_readsPart_145 (by decide) (by omega)) (fun c5 => ?_) (fun c5 => ?_)
                    · refine qU (fun T_ k_ => r_goto (pc := 161) (tgt := 208) dX6_readsPart_161 (by decide) k_) ?_
                      refine qU (fun T_ k_ => r_iconst (pc := 208) (v := nI 1) dX6_readsPart_208 rfl k_) ?_
                      exact ⟨_, ⟨1, _, rfl, by decide, ((FRq.refl F I).put 34 _ (by decide)).put 7 _ (by decide), rfl⟩, r_zret dX6_readsPart_209 rfl (by decide) rfl rfl⟩
                    · exact absurd c5 (by decide)
                · exact absurd c3 (by decide)
              · exact absurd c2 (by decide)
            · exact absurd c1 (by decide)
          · rw [if_neg hc]
            refine qU (fun T_ k_ => r_aload_n (pc := 0) dX6_readsPart_0 rfl k_) ?_
            refine qU (fun T_ k_ => r_bipush (pc := 1) dX6_readsPart_1 bp_40 k_) ?_
            refine qU (fun T_ k_ => r_callV (pc := 3) (N := mX6_isThis) (rest := []) (s_isThis_f X _ I L (40) (by decide) tx n t h hA) okX6_isThis lkX6_134 rfl (by decide) rfl rfl rfl (Nat.le_of_ble_eq_true rfl) ⟨Nat.le_refl _, Nat.le_refl _⟩ dX6_readsPart_3 k_) ?_
            refine qP (fun T_ => r_ifN_eq (pc := 6) (tgt := 45) dX6_readsPart_6 (by decide) (by omega)) (fun c1 => ?_) (fun c1 => ?_)
            · refine qU (fun T_ k_ => r_aload_n (pc := 45) dX6_readsPart_45 rfl k_) ?_
              refine qU (fun T_ k_ => r_bipush (pc := 46) dX6_readsPart_46 bp_45 k_) ?_
              refine qU (fun T_ k_ => r_callV (pc := 48) (N := mX6_isThis) (rest := []) (s_isThis_f X _ I L (45) (by decide) tx n t h hB) okX6_isThis lkX6_134 rfl (by decide) rfl rfl rfl (Nat.le_of_ble_eq_true rfl) ⟨Nat.le_refl _, Nat.le_refl _⟩ dX6_readsPart_48 k_) ?_
              refine qP (fun T_ => r_ifN_eq (pc := 51) (tgt := 71) dX6_readsPart_51 (by decide) (by omega)) (fun c2 => ?_) (fun c2 => ?_)
              · refine qU (fun T_ k_ => r_aload_n (pc := 71) dX6_readsPart_71 rfl k_) ?_
                refine qU (fun T_ k_ => r_bipush (pc := 72) dX6_readsPart_72 bp_64 k_) ?_
                refine qU (fun T_ k_ => r_callV (pc := 74) (N := mX6_isThis) (rest := []) (s_isThis_f X _ I L (64) (by decide) tx n t h hC) okX6_isThis lkX6_134 rfl (by decide) rfl rfl rfl (Nat.le_of_ble_eq_true rfl) ⟨Nat.le_refl _, Nat.le_refl _⟩ dX6_readsPart_74 k_) ?_
                refine qP (fun T_ => r_ifN_eq (pc := 77) (tgt := 125) dX6_readsPart_77 (by decide) (by omega)) (fun c3 => ?_) (fun c3 => ?_)
                · refine qU (fun T_ k_ => r_aload_n (pc := 125) dX6_readsPart_125 rfl k_) ?_
                  refine qU (fun T_ k_ => r_callV (pc := 126) (N := mX6_isSourceSign) (rest := []) (s_isSourceSign_t X _ I L tx n t h hD) okX6_isSourceSign lkX6_178 rfl (by decide) rfl rfl rfl (Nat.le_of_ble_eq_true rfl) ⟨Nat.le_refl _, Nat.le_refl _⟩ dX6_readsPart_126 k_) ?_
                  refine qP (fun T_ => r_ifN_eq (pc := 129) (tgt := 164) dX6_readsPart_129 (by decide) (by omega)) (fun c4 => ?_) (fun c4 => ?_)
                  · exact absurd c4 (by decide)
                  · refine qU (fun T_ k_ => r_aload_n (pc := 132) dX6_readsPart_132 rfl k_) ?_
                    refine qU (fun T_ k_ => r_aload_n (pc := 133) dX6_readsPart_133 rfl k_) ?_
                    have P116 : PM (u2 I 42 34 (nI (c + 1))) tx n t := h.frk ((FRk.refl F _).put 34 _ (by decide))
                    have G116 := hS.counted hc
                    refine qU (fun T_ k_ => r_callV (pc := 134) (N := mX6_counts) (rest := [.ref 42]) (s_counts_t X _ I L c hS.1.2.2.2.2.2.1 hc) okX6_counts lkX6_168 rfl (by decide) rfl rfl rfl (Nat.le_of_ble_eq_true rfl) ⟨Nat.le_refl _, Nat.le_refl _⟩ dX6_readsPart_134 k_) ?_
                    obtain ⟨T117, ⟨J117, rfl, F117, C117⟩, S117⟩ := s_takes_t X d (u2 I 42 34 (nI (c + 1))) L tx n t P116 (tkV tx n t) (P116.2.1.2.2.2 (Or.inl hD.1))
                    have P117 := P116.step F117 C117
                    have G117 := G116.1.frm F117
                    refine qU (fun T_ k_ => r_callV (pc := 137) (N := mX6_takes) (rest := []) (S117) okX6_takes lkX6_137 rfl (by decide) rfl rfl rfl (Nat.le_of_ble_eq_true rfl) ⟨Nat.le_refl _, Nat.le_refl _⟩ dX6_readsPart_137 k_) ?_
                    refine qU (fun T_ k_ => r_istore_n (pc := 140) (lo1 := [.ref 42, .int (nI (tkV tx n t))]) dX6_readsPart_140 rfl (by decide) rfl k_) ?_
                    refine qU (fun T_ k_ => r_aload_n (pc := 141) dX6_readsPart_141 rfl k_) ?_
                    refine qU (fun T_ k_ => r_callV (pc := 142) (N := mX6_isWell) (rest := []) (s_isWell_t X _ J117 L P117.2.2) okX6_isWell lkX6_127 rfl (by decide) rfl rfl rfl (Nat.le_of_ble_eq_true rfl) ⟨Nat.le_refl _, Nat.le_refl _⟩ dX6_readsPart_142 k_) ?_
                    refine qP (fun T_ => r_ifN_eq (pc := 145) (tgt := 161) dX6_readsPart_145 (by decide) (by omega)) (fun c5 => ?_) (fun c5 => ?_)
                    · exact absurd c5 (by decide)
                    · refine qU (fun T_ k_ => r_aload_n (pc := 148) dX6_readsPart_148 rfl k_) ?_
                      refine qU (fun T_ k_ => r_iconst (pc := 149) (v := nI 1) dX6_readsPart_149 rfl k_) ?_
                      refine qU (fun T_ k_ => r_iload_n (pc := 150) dX6_readsPart_150 rfl k_) ?_
                      refine qU (fun T_ k_ => r_bipush (pc := 151) dX6_readsPart_151 bp_97 k_) ?_
                      refine qU (fun T_ k_ => r_isubN (pc := 153) dX6_readsPart_153 (by omega) k_) ?_
                      refine qU (fun T_ k_ => r_bipush (pc := 154) dX6_readsPart_154 bp_m9 k_) ?_
                      refine qU (fun T_ k_ => r_bipush (pc := 156) dX6_readsPart_156 bp_m9 k_) ?_
                      have N118 := G117.2.len
                      have hl118 := G116.2
                      have hc118 := G117.2.2.2.1
                      have G118 := G117.made G116.2 ((1, tkV tx n t - 97, 0, 0) : Q4) (Or.inr (Or.inl ⟨rfl, by show tkV tx n t - 97 < 6; omega⟩)) (so := (nI 1)) (its := (nI ((tkV tx n t) - 97))) (lf := (-9)) (rt := (-9)) rfl rfl (fun z => absurd z (show ¬ 42 ≤ (1 : Nat) by decide)) (fun z => absurd z (show ¬ ((1 : Nat) = 42 ∨ (1 : Nat) = 43 ∨ (1 : Nat) = 45) by decide)) (fun z => absurd z (show ¬ ((1 : Nat) = 94 ∨ (1 : Nat) = 110) by decide))
                      have P118 := P117.frk ((FRk.refl F _).mk l.length ps.length (nI 1) (nI ((tkV tx n t) - 97)) (-9) (-9))
                      refine qU (fun T_ k_ => r_callV (pc := 158) (N := mX6_makes) (rest := []) (s_makes X _ J117 L F l.length ps.length (nI 1) (nI ((tkV tx n t) - 97)) (-9) (-9) (G117.1.1) (G117.1.2.1) G117.1.2.2.1 hF (by omega) (by omega)) okX6_makes lkX6_157 rfl (by decide) rfl rfl rfl (Nat.le_of_ble_eq_true rfl) ⟨Nat.le_refl _, Nat.le_refl _⟩ dX6_readsPart_158 k_) ?_
                      refine qU (fun T_ k_ => r_goto (pc := 161) (tgt := 208) dX6_readsPart_161 (by decide) k_) ?_
                      refine qU (fun T_ k_ => r_iconst (pc := 208) (v := nI 1) dX6_readsPart_208 rfl k_) ?_
                      exact ⟨_, ⟨_, rfl, (((FRq.refl F I).put 34 _ (by decide)).trans F117.q).trans ((FRk.refl F _).mk _ _ _ _ _ _).q, P118, G118⟩, r_zret dX6_readsPart_209 rfl (by decide) rfl rfl⟩
                · exact absurd c3 (by decide)
              · exact absurd c2 (by decide)
            · exact absurd c1 (by decide)
        · rw [if_neg hD]
          by_cases hE : tkK tx n t = 2
          · rw [if_pos hE]
            have hE2 := bd.2.2 hE
            by_cases hc : 20 ≤ c
            · rw [if_pos hc]
              refine qU (fun T_ k_ => r_aload_n (pc := 0) dX6_readsPart_0 rfl k_) ?_
              refine qU (fun T_ k_ => r_bipush (pc := 1) dX6_readsPart_1 bp_40 k_) ?_
              refine qU (fun T_ k_ => r_callV (pc := 3) (N := mX6_isThis) (rest := []) (s_isThis_f X _ I L (40) (by decide) tx n t h hA) okX6_isThis lkX6_134 rfl (by decide) rfl rfl rfl (Nat.le_of_ble_eq_true rfl) ⟨Nat.le_refl _, Nat.le_refl _⟩ dX6_readsPart_3 k_) ?_
              refine qP (fun T_ => r_ifN_eq (pc := 6) (tgt := 45) dX6_readsPart_6 (by decide) (by omega)) (fun c1 => ?_) (fun c1 => ?_)
              · refine qU (fun T_ k_ => r_aload_n (pc := 45) dX6_readsPart_45 rfl k_) ?_
                refine qU (fun T_ k_ => r_bipush (pc := 46) dX6_readsPart_46 bp_45 k_) ?_
                refine qU (fun T_ k_ => r_callV (pc := 48) (N := mX6_isThis) (rest := []) (s_isThis_f X _ I L (45) (by decide) tx n t h hB) okX6_isThis lkX6_134 rfl (by decide) rfl rfl rfl (Nat.le_of_ble_eq_true rfl) ⟨Nat.le_refl _, Nat.le_refl _⟩ dX6_readsPart_48 k_) ?_
                refine qP (fun T_ => r_ifN_eq (pc := 51) (tgt := 71) dX6_readsPart_51 (by decide) (by omega)) (fun c2 => ?_) (fun c2 => ?_)
                · refine qU (fun T_ k_ => r_aload_n (pc := 71) dX6_readsPart_71 rfl k_) ?_
                  refine qU (fun T_ k_ => r_bipush (pc := 72) dX6_readsPart_72 bp_64 k_) ?_
                  refine qU (fun T_ k_ => r_callV (pc := 74) (N := mX6_isThis) (rest := []) (s_isThis_f X _ I L (64) (by decide) tx n t h hC) okX6_isThis lkX6_134 rfl (by decide) rfl rfl rfl (Nat.le_of_ble_eq_true rfl) ⟨Nat.le_refl _, Nat.le_refl _⟩ dX6_readsPart_74 k_) ?_
                  refine qP (fun T_ => r_ifN_eq (pc := 77) (tgt := 125) dX6_readsPart_77 (by decide) (by omega)) (fun c3 => ?_) (fun c3 => ?_)
                  · refine qU (fun T_ k_ => r_aload_n (pc := 125) dX6_readsPart_125 rfl k_) ?_
                    refine qU (fun T_ k_ => r_callV (pc := 126) (N := mX6_isSourceSign) (rest := []) (s_isSourceSign_f X _ I L tx n t h hD) okX6_isSourceSign lkX6_178 rfl (by decide) rfl rfl rfl (Nat.le_of_ble_eq_true rfl) ⟨Nat.le_refl _, Nat.le_refl _⟩ dX6_readsPart_126 k_) ?_
                    refine qP (fun T_ => r_ifN_eq (pc := 129) (tgt := 164) dX6_readsPart_129 (by decide) (by omega)) (fun c4 => ?_) (fun c4 => ?_)
                    · refine qU (fun T_ k_ => r_aload_n (pc := 164) dX6_readsPart_164 rfl k_) ?_
                      refine qU (fun T_ k_ => r_aload_n (pc := 165) dX6_readsPart_165 rfl k_) ?_
                      refine qU (fun T_ k_ => r_iconst (pc := 166) (v := nI 0) dX6_readsPart_166 rfl k_) ?_
                      refine qU (fun T_ k_ => r_bipush (pc := 167) dX6_readsPart_167 bp_99 k_) ?_
                      refine qU (fun T_ k_ => r_callV (pc := 169) (N := mX6_isNumber) (rest := [.ref 42]) (s_isNumber_t X _ I L 0 (99) (by omega) tx n t h hE (Nat.zero_le _) hE2) okX6_isNumber lkX6_141 rfl (by decide) rfl rfl rfl (Nat.le_of_ble_eq_true rfl) ⟨Nat.le_refl _, Nat.le_refl _⟩ dX6_readsPart_169 k_) ?_
                      refine qP (fun T_ => r_ifN_eq (pc := 172) (tgt := 186) dX6_readsPart_172 (by decide) (by omega)) (fun c5 => ?_) (fun c5 => ?_)
                      · exact absurd c5 (by decide)
                      · refine qU (fun T_ k_ => r_aload_n (pc := 175) dX6_readsPart_175 rfl k_) ?_
                        have P119 : PM (u2 I 42 34 (nI (c + 1))) tx n t := h.frk ((FRk.refl F _).put 34 _ (by decide))
                        refine qU (fun T_ k_ => r_callV (pc := 176) (N := mX6_counts) (rest := [.ref 42]) (s_counts_f X _ I L c hS.1.2.2.2.2.2.1 hc hS.2.2.2.1) okX6_counts lkX6_168 rfl (by decide) rfl rfl rfl (Nat.le_of_ble_eq_true rfl) ⟨Nat.le_refl _, Nat.le_refl _⟩ dX6_readsPart_176 k_) ?_
                        refine qP (fun T_ => r_ifN_eq (pc := 179) (tgt := 186) dX6_readsPart_179 (by decide) (by omega)) (fun c6 => ?_) (fun c6 => ?_)
                        · refine qU (fun T_ k_ => r_iconst (pc := 186) (v := nI 0) dX6_readsPart_186 rfl k_) ?_
                          refine qU (fun T_ k_ => r_callV (pc := 187) (N := mX6_takes) (rest := []) (s_takes_f X _ (u2 I 42 34 (nI (c + 1))) L tx n t P119) okX6_takes lkX6_137 rfl (by decide) rfl rfl rfl (Nat.le_of_ble_eq_true rfl) ⟨Nat.le_refl _, Nat.le_refl _⟩ dX6_readsPart_187 k_) ?_
                          refine qU (fun T_ k_ => r_istore_n (pc := 190) (lo1 := [.ref 42, .int (nI 0)]) dX6_readsPart_190 rfl (by decide) rfl k_) ?_
                          refine qU (fun T_ k_ => r_aload_n (pc := 191) dX6_readsPart_191 rfl k_) ?_
                          refine qU (fun T_ k_ => r_callV (pc := 192) (N := mX6_isWell) (rest := []) (s_isWell_f X _ (u2 (u2 I 42 34 (nI (c + 1))) 42 7 (nI (tkP tx n t))) L (tkP tx n t) rfl (Nat.le_trans (tkP_le t) P119.1.2.1)) okX6_isWell lkX6_127 rfl (by decide) rfl rfl rfl (Nat.le_of_ble_eq_true rfl) ⟨Nat.le_refl _, Nat.le_refl _⟩ dX6_readsPart_192 k_) ?_
                          refine qP (fun T_ => r_ifN_eq (pc := 195) (tgt := 208) dX6_readsPart_195 (by decide) (by omega)) (fun c7 => ?_) (fun c7 => ?_)
                          · refine qU (fun T_ k_ => r_iconst (pc := 208) (v := nI 1) dX6_readsPart_208 rfl k_) ?_
                            exact ⟨_, ⟨1, _, rfl, by decide, ((FRq.refl F I).put 34 _ (by decide)).put 7 _ (by decide), rfl⟩, r_zret dX6_readsPart_209 rfl (by decide) rfl rfl⟩
                          · exact absurd c7 (by decide)
                        · exact absurd c6 (by decide)
                    · exact absurd c4 (by decide)
                  · exact absurd c3 (by decide)
                · exact absurd c2 (by decide)
              · exact absurd c1 (by decide)
            · rw [if_neg hc]
              refine qU (fun T_ k_ => r_aload_n (pc := 0) dX6_readsPart_0 rfl k_) ?_
              refine qU (fun T_ k_ => r_bipush (pc := 1) dX6_readsPart_1 bp_40 k_) ?_
              refine qU (fun T_ k_ => r_callV (pc := 3) (N := mX6_isThis) (rest := []) (s_isThis_f X _ I L (40) (by decide) tx n t h hA) okX6_isThis lkX6_134 rfl (by decide) rfl rfl rfl (Nat.le_of_ble_eq_true rfl) ⟨Nat.le_refl _, Nat.le_refl _⟩ dX6_readsPart_3 k_) ?_
              refine qP (fun T_ => r_ifN_eq (pc := 6) (tgt := 45) dX6_readsPart_6 (by decide) (by omega)) (fun c1 => ?_) (fun c1 => ?_)
              · refine qU (fun T_ k_ => r_aload_n (pc := 45) dX6_readsPart_45 rfl k_) ?_
                refine qU (fun T_ k_ => r_bipush (pc := 46) dX6_readsPart_46 bp_45 k_) ?_
                refine qU (fun T_ k_ => r_callV (pc := 48) (N := mX6_isThis) (rest := []) (s_isThis_f X _ I L (45) (by decide) tx n t h hB) okX6_isThis lkX6_134 rfl (by decide) rfl rfl rfl (Nat.le_of_ble_eq_true rfl) ⟨Nat.le_refl _, Nat.le_refl _⟩ dX6_readsPart_48 k_) ?_
                refine qP (fun T_ => r_ifN_eq (pc := 51) (tgt := 71) dX6_readsPart_51 (by decide) (by omega)) (fun c2 => ?_) (fun c2 => ?_)
                · refine qU (fun T_ k_ => r_aload_n (pc := 71) dX6_readsPart_71 rfl k_) ?_
                  refine qU (fun T_ k_ => r_bipush (pc := 72) dX6_readsPart_72 bp_64 k_) ?_
                  refine qU (fun T_ k_ => r_callV (pc := 74) (N := mX6_isThis) (rest := []) (s_isThis_f X _ I L (64) (by decide) tx n t h hC) okX6_isThis lkX6_134 rfl (by decide) rfl rfl rfl (Nat.le_of_ble_eq_true rfl) ⟨Nat.le_refl _, Nat.le_refl _⟩ dX6_readsPart_74 k_) ?_
                  refine qP (fun T_ => r_ifN_eq (pc := 77) (tgt := 125) dX6_readsPart_77 (by decide) (by omega)) (fun c3 => ?_) (fun c3 => ?_)
                  · refine qU (fun T_ k_ => r_aload_n (pc := 125) dX6_readsPart_125 rfl k_) ?_
                    refine qU (fun T_ k_ => r_callV (pc := 126) (N := mX6_isSourceSign) (rest := []) (s_isSourceSign_f X _ I L tx n t h hD) okX6_isSourceSign lkX6_178 rfl (by decide) rfl rfl rfl (Nat.le_of_ble_eq_true rfl) ⟨Nat.le_refl _, Nat.le_refl _⟩ dX6_readsPart_126 k_) ?_
                    refine qP (fun T_ => r_ifN_eq (pc := 129) (tgt := 164) dX6_readsPart_129 (by decide) (by omega)) (fun c4 => ?_) (fun c4 => ?_)
                    · refine qU (fun T_ k_ => r_aload_n (pc := 164) dX6_readsPart_164 rfl k_) ?_
                      refine qU (fun T_ k_ => r_aload_n (pc := 165) dX6_readsPart_165 rfl k_) ?_
                      refine qU (fun T_ k_ => r_iconst (pc := 166) (v := nI 0) dX6_readsPart_166 rfl k_) ?_
                      refine qU (fun T_ k_ => r_bipush (pc := 167) dX6_readsPart_167 bp_99 k_) ?_
                      refine qU (fun T_ k_ => r_callV (pc := 169) (N := mX6_isNumber) (rest := [.ref 42]) (s_isNumber_t X _ I L 0 (99) (by omega) tx n t h hE (Nat.zero_le _) hE2) okX6_isNumber lkX6_141 rfl (by decide) rfl rfl rfl (Nat.le_of_ble_eq_true rfl) ⟨Nat.le_refl _, Nat.le_refl _⟩ dX6_readsPart_169 k_) ?_
                      refine qP (fun T_ => r_ifN_eq (pc := 172) (tgt := 186) dX6_readsPart_172 (by decide) (by omega)) (fun c5 => ?_) (fun c5 => ?_)
                      · exact absurd c5 (by decide)
                      · refine qU (fun T_ k_ => r_aload_n (pc := 175) dX6_readsPart_175 rfl k_) ?_
                        have P121 : PM (u2 I 42 34 (nI (c + 1))) tx n t := h.frk ((FRk.refl F _).put 34 _ (by decide))
                        have G121 := hS.counted hc
                        refine qU (fun T_ k_ => r_callV (pc := 176) (N := mX6_counts) (rest := [.ref 42]) (s_counts_t X _ I L c hS.1.2.2.2.2.2.1 hc) okX6_counts lkX6_168 rfl (by decide) rfl rfl rfl (Nat.le_of_ble_eq_true rfl) ⟨Nat.le_refl _, Nat.le_refl _⟩ dX6_readsPart_176 k_) ?_
                        refine qP (fun T_ => r_ifN_eq (pc := 179) (tgt := 186) dX6_readsPart_179 (by decide) (by omega)) (fun c6 => ?_) (fun c6 => ?_)
                        · exact absurd c6 (by decide)
                        · refine qU (fun T_ k_ => r_iconst (pc := 182) (v := nI 1) dX6_readsPart_182 rfl k_) ?_
                          refine qU (fun T_ k_ => r_goto (pc := 183) (tgt := 187) dX6_readsPart_183 (by decide) k_) ?_
                          obtain ⟨T122, ⟨J122, rfl, F122, C122⟩, S122⟩ := s_takes_t X d (u2 I 42 34 (nI (c + 1))) L tx n t P121 (tkV tx n t) (P121.2.1.2.2.2 (Or.inr hE))
                          have P122 := P121.step F122 C122
                          have G122 := G121.1.frm F122
                          refine qU (fun T_ k_ => r_callV (pc := 187) (N := mX6_takes) (rest := []) (S122) okX6_takes lkX6_137 rfl (by decide) rfl rfl rfl (Nat.le_of_ble_eq_true rfl) ⟨Nat.le_refl _, Nat.le_refl _⟩ dX6_readsPart_187 k_) ?_
                          refine qU (fun T_ k_ => r_istore_n (pc := 190) (lo1 := [.ref 42, .int (nI (tkV tx n t))]) dX6_readsPart_190 rfl (by decide) rfl k_) ?_
                          refine qU (fun T_ k_ => r_aload_n (pc := 191) dX6_readsPart_191 rfl k_) ?_
                          refine qU (fun T_ k_ => r_callV (pc := 192) (N := mX6_isWell) (rest := []) (s_isWell_t X _ J122 L P122.2.2) okX6_isWell lkX6_127 rfl (by decide) rfl rfl rfl (Nat.le_of_ble_eq_true rfl) ⟨Nat.le_refl _, Nat.le_refl _⟩ dX6_readsPart_192 k_) ?_
                          refine qP (fun T_ => r_ifN_eq (pc := 195) (tgt := 208) dX6_readsPart_195 (by decide) (by omega)) (fun c7 => ?_) (fun c7 => ?_)
                          · exact absurd c7 (by decide)
                          · refine qU (fun T_ k_ => r_aload_n (pc := 198) dX6_readsPart_198 rfl k_) ?_
                            refine qU (fun T_ k_ => r_iconst (pc := 199) (v := nI 0) dX6_readsPart_199 rfl k_) ?_
                            refine qU (fun T_ k_ => r_iload_n (pc := 200) dX6_readsPart_200 rfl k_) ?_
                            refine qU (fun T_ k_ => r_bipush (pc := 201) dX6_readsPart_201 bp_m9 k_) ?_
                            refine qU (fun T_ k_ => r_bipush (pc := 203) dX6_readsPart_203 bp_m9 k_) ?_
                            have N123 := G122.2.len
                            have hl123 := G121.2
                            have hc123 := G122.2.2.2.1
                            have G123 := G122.made G121.2 ((0, tkV tx n t, 0, 0) : Q4) (Or.inl rfl) (so := (nI 0)) (its := (nI (tkV tx n t))) (lf := (-9)) (rt := (-9)) rfl rfl (fun z => absurd z (show ¬ 42 ≤ (0 : Nat) by decide)) (fun z => absurd z (show ¬ ((0 : Nat) = 42 ∨ (0 : Nat) = 43 ∨ (0 : Nat) = 45) by decide)) (fun z => absurd z (show ¬ ((0 : Nat) = 94 ∨ (0 : Nat) = 110) by decide))
                            have P123 := P122.frk ((FRk.refl F _).mk l.length ps.length (nI 0) (nI (tkV tx n t)) (-9) (-9))
                            refine qU (fun T_ k_ => r_callV (pc := 205) (N := mX6_makes) (rest := []) (s_makes X _ J122 L F l.length ps.length (nI 0) (nI (tkV tx n t)) (-9) (-9) (G122.1.1) (G122.1.2.1) G122.1.2.2.1 hF (by omega) (by omega)) okX6_makes lkX6_157 rfl (by decide) rfl rfl rfl (Nat.le_of_ble_eq_true rfl) ⟨Nat.le_refl _, Nat.le_refl _⟩ dX6_readsPart_205 k_) ?_
                            refine qU (fun T_ k_ => r_iconst (pc := 208) (v := nI 1) dX6_readsPart_208 rfl k_) ?_
                            exact ⟨_, ⟨_, rfl, (((FRq.refl F I).put 34 _ (by decide)).trans F122.q).trans ((FRk.refl F _).mk _ _ _ _ _ _).q, P123, G123⟩, r_zret dX6_readsPart_209 rfl (by decide) rfl rfl⟩
                    · exact absurd c4 (by decide)
                  · exact absurd c3 (by decide)
                · exact absurd c2 (by decide)
              · exact absurd c1 (by decide)
          · rw [if_neg hE]
            refine qU (fun T_ k_ => r_aload_n (pc := 0) dX6_readsPart_0 rfl k_) ?_
            refine qU (fun T_ k_ => r_bipush (pc := 1) dX6_readsPart_1 bp_40 k_) ?_
            refine qU (fun T_ k_ => r_callV (pc := 3) (N := mX6_isThis) (rest := []) (s_isThis_f X _ I L (40) (by decide) tx n t h hA) okX6_isThis lkX6_134 rfl (by decide) rfl rfl rfl (Nat.le_of_ble_eq_true rfl) ⟨Nat.le_refl _, Nat.le_refl _⟩ dX6_readsPart_3 k_) ?_
            refine qP (fun T_ => r_ifN_eq (pc := 6) (tgt := 45) dX6_readsPart_6 (by decide) (by omega)) (fun c1 => ?_) (fun c1 => ?_)
            · refine qU (fun T_ k_ => r_aload_n (pc := 45) dX6_readsPart_45 rfl k_) ?_
              refine qU (fun T_ k_ => r_bipush (pc := 46) dX6_readsPart_46 bp_45 k_) ?_
              refine qU (fun T_ k_ => r_callV (pc := 48) (N := mX6_isThis) (rest := []) (s_isThis_f X _ I L (45) (by decide) tx n t h hB) okX6_isThis lkX6_134 rfl (by decide) rfl rfl rfl (Nat.le_of_ble_eq_true rfl) ⟨Nat.le_refl _, Nat.le_refl _⟩ dX6_readsPart_48 k_) ?_
              refine qP (fun T_ => r_ifN_eq (pc := 51) (tgt := 71) dX6_readsPart_51 (by decide) (by omega)) (fun c2 => ?_) (fun c2 => ?_)
              · refine qU (fun T_ k_ => r_aload_n (pc := 71) dX6_readsPart_71 rfl k_) ?_
                refine qU (fun T_ k_ => r_bipush (pc := 72) dX6_readsPart_72 bp_64 k_) ?_
                refine qU (fun T_ k_ => r_callV (pc := 74) (N := mX6_isThis) (rest := []) (s_isThis_f X _ I L (64) (by decide) tx n t h hC) okX6_isThis lkX6_134 rfl (by decide) rfl rfl rfl (Nat.le_of_ble_eq_true rfl) ⟨Nat.le_refl _, Nat.le_refl _⟩ dX6_readsPart_74 k_) ?_
                refine qP (fun T_ => r_ifN_eq (pc := 77) (tgt := 125) dX6_readsPart_77 (by decide) (by omega)) (fun c3 => ?_) (fun c3 => ?_)
                · refine qU (fun T_ k_ => r_aload_n (pc := 125) dX6_readsPart_125 rfl k_) ?_
                  refine qU (fun T_ k_ => r_callV (pc := 126) (N := mX6_isSourceSign) (rest := []) (s_isSourceSign_f X _ I L tx n t h hD) okX6_isSourceSign lkX6_178 rfl (by decide) rfl rfl rfl (Nat.le_of_ble_eq_true rfl) ⟨Nat.le_refl _, Nat.le_refl _⟩ dX6_readsPart_126 k_) ?_
                  refine qP (fun T_ => r_ifN_eq (pc := 129) (tgt := 164) dX6_readsPart_129 (by decide) (by omega)) (fun c4 => ?_) (fun c4 => ?_)
                  · refine qU (fun T_ k_ => r_aload_n (pc := 164) dX6_readsPart_164 rfl k_) ?_
                    refine qU (fun T_ k_ => r_aload_n (pc := 165) dX6_readsPart_165 rfl k_) ?_
                    refine qU (fun T_ k_ => r_iconst (pc := 166) (v := nI 0) dX6_readsPart_166 rfl k_) ?_
                    refine qU (fun T_ k_ => r_bipush (pc := 167) dX6_readsPart_167 bp_99 k_) ?_
                    refine qU (fun T_ k_ => r_callV (pc := 169) (N := mX6_isNumber) (rest := [.ref 42]) (s_isNumber_f X _ I L (nI 99) tx n t h (fun q => absurd q hE)) okX6_isNumber lkX6_141 rfl (by decide) rfl rfl rfl (Nat.le_of_ble_eq_true rfl) ⟨Nat.le_refl _, Nat.le_refl _⟩ dX6_readsPart_169 k_) ?_
                    refine qP (fun T_ => r_ifN_eq (pc := 172) (tgt := 186) dX6_readsPart_172 (by decide) (by omega)) (fun c5 => ?_) (fun c5 => ?_)
                    · refine qU (fun T_ k_ => r_iconst (pc := 186) (v := nI 0) dX6_readsPart_186 rfl k_) ?_
                      refine qU (fun T_ k_ => r_callV (pc := 187) (N := mX6_takes) (rest := []) (s_takes_f X _ I L tx n t h) okX6_takes lkX6_137 rfl (by decide) rfl rfl rfl (Nat.le_of_ble_eq_true rfl) ⟨Nat.le_refl _, Nat.le_refl _⟩ dX6_readsPart_187 k_) ?_
                      refine qU (fun T_ k_ => r_istore_n (pc := 190) (lo1 := [.ref 42, .int (nI 0)]) dX6_readsPart_190 rfl (by decide) rfl k_) ?_
                      refine qU (fun T_ k_ => r_aload_n (pc := 191) dX6_readsPart_191 rfl k_) ?_
                      refine qU (fun T_ k_ => r_callV (pc := 192) (N := mX6_isWell) (rest := []) (s_isWell_f X _ (u2 I 42 7 (nI (tkP tx n t))) L (tkP tx n t) rfl (Nat.le_trans (tkP_le t) h.1.2.1)) okX6_isWell lkX6_127 rfl (by decide) rfl rfl rfl (Nat.le_of_ble_eq_true rfl) ⟨Nat.le_refl _, Nat.le_refl _⟩ dX6_readsPart_192 k_) ?_
                      refine qP (fun T_ => r_ifN_eq (pc := 195) (tgt := 208) dX6_readsPart_195 (by decide) (by omega)) (fun c6 => ?_) (fun c6 => ?_)
                      · refine qU (fun T_ k_ => r_iconst (pc := 208) (v := nI 1) dX6_readsPart_208 rfl k_) ?_
                        exact ⟨_, ⟨1, _, rfl, by decide, (FRq.refl F I).put 7 _ (by decide), rfl⟩, r_zret dX6_readsPart_209 rfl (by decide) rfl rfl⟩
                      · exact absurd c6 (by decide)
                    · exact absurd c5 (by decide)
                  · exact absurd c4 (by decide)
                · exact absurd c3 (by decide)
              · exact absurd c2 (by decide)
            · exact absurd c1 (by decide)
