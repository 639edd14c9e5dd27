def pd1 : List Nat → Nat → List Q4 → Nat × List Q4 × List Nat
  | [], i, l => (i, l, [])
  | w :: ws, i, l => if w = 110 then pd1 ws l.length (l ++ [(110, 0, i, 0)]) else (i, l, w :: ws)
def pdB (f : Nat → Bool) : List Nat → Nat → List Nat → List Q4 → Nat × List Nat × List Q4 × List Nat
  | [], j, ps, l => (j, ps, l, [])
  | w :: ws, j, ps, l => if f w = true then (match ps with
    | [] => (j, [], l, w :: ws)
    | i :: ps => pdB f ws l.length ps (l ++ [(w, 0, i, j)])) else (j, ps, l, w :: ws)
def f42 (w : Nat) : Bool := decide (w = 42)
def f43 (w : Nat) : Bool := decide (w = 43 ∨ w = 45)
abbrev R4 : Type := Nat × List Nat × List Q4 × List Nat
def pdW (K V : Nat → Nat) (t c : Nat) (ps : List Nat) (a : Nat × List Q4 × List Nat) : Nat ⊕ (Nat × Nat × R4) :=
  if K t = 1 ∧ V t = 94 then
    if 20 ≤ c then .inl t
    else if K (t + 1) = 2 ∧ V (t + 1) ≤ 4 then .inr (t + 1 + 1, c + 1, pdB f42 a.2.2 a.2.1.length ps (a.2.1 ++ [(94, V (t + 1), a.1, 0)])) else .inl (t + 1)
  else .inr (t, c, pdB f42 a.2.2 a.1 ps a.2.1)
/-- what is done behind a part -/
def pdR (K V : Nat → Nat) (t c : Nat) (l : List Q4) (i : Nat) (ps ws : List Nat) : Nat ⊕ (Nat × Nat × R4) := pdW K V t c ps (pd1 ws i l)
def SM4 (J : MI) (F c : Nat) (op : Nat) (a : R4) : Prop := SM J F c a.2.2.1 (a.1 :: a.2.1) a.2.2.2 op 1
def QPD (I : MI) (L : ML) (tx : Nat → Nat) (n F op : Nat) (r : Nat ⊕ (Nat × Nat × R4)) (T : TR) : Prop := match r with
  | .inl u => ∃ J, T = (none, shF, J, L) ∧ FRq F I J ∧ J 42 7 = nI (tkP tx n u)
  | .inr (t', c', a) => ∃ J, T = (none, shF, J, L) ∧ FRq F I J ∧ PM J tx n t' ∧ SM4 J F c' op a
theorem lp_pd1 (X : Ctx) (d : Nat) (I : MI) (L : ML) (tx : Nat → Nat) (n F t c op : Nat) (ps : List Nat) (Q : TR → Prop) : ∀ (ws : List Nat) (i : Nat) (l : List Q4) (J : MI), PM J tx n t → FRk F I J → SM J F c l (i :: ps) ws op 1 → (∀ J2, PM J2 tx n t → FRk F I J2 → SM J2 F c (pd1 ws i l).2.1 ((pd1 ws i l).1 :: ps) (pd1 ws i l).2.2 op 1 → ∃ T, Q T ∧ Ev X mX6_partDone (d + 4) (0, 0) (0, 0) T 16 [.ref 42, .null] [] shF J2 L) → ∃ T, Q T ∧ Ev X mX6_partDone (d + 4) (0, 0) (0, 0) T 0 [.ref 42, .null] [] shF J L := by
  intro ws
  induction ws with
  | nil =>
    intro i l J P FR G K
    refine qU (fun T_ k_ => r_aload_n (pc := 0) dX6_partDone_0 rfl k_) ?_
    refine qU (fun T_ k_ => r_callV (pc := 1) (N := mX6_lastWaiting) (rest := []) (s_lastWaiting X _ J L F c l (i :: ps) ([]) op 1 G (0) rfl) okX6_lastWaiting lkX6_161 rfl (by decide) rfl rfl rfl (Nat.le_of_ble_eq_true rfl) ⟨Nat.le_refl _, Nat.le_refl _⟩ dX6_partDone_1 k_) ?_
    refine qU (fun T_ k_ => r_bipush (pc := 4) dX6_partDone_4 bp_110 k_) ?_
    refine qN (fun T_ => r_icmpN_ne (pc := 6) (tgt := 16) dX6_partDone_6 (by decide) (by omega) (by omega)) (fun c1 => ?_) (fun c1 => ?_)
    · exact K _ P FR G
    · exact absurd c1 (by decide)
  | cons w ws ih =>
    intro i l J P FR G K
    have hw8 := G.2.2.2.2.2.2.2.2.2.2 w (List.mem_cons_self ..)
    unfold wOk at hw8
    by_cases hw : w = 110
    · subst hw
      rw [show pd1 (110 :: ws) i l = pd1 ws l.length (l ++ [(110, 0, i, 0)]) from if_pos rfl] at K
      refine qU (fun T_ k_ => r_aload_n (pc := 0) dX6_partDone_0 rfl k_) ?_
      refine qU (fun T_ k_ => r_callV (pc := 1) (N := mX6_lastWaiting) (rest := []) (s_lastWaiting X _ J L F c l (i :: ps) (110 :: ws) op 1 G (110) rfl) okX6_lastWaiting lkX6_161 rfl (by decide) rfl rfl rfl (Nat.le_of_ble_eq_true rfl) ⟨Nat.le_refl _, Nat.le_refl _⟩ dX6_partDone_1 k_) ?_
      refine qU (fun T_ k_ => r_bipush (pc := 4) dX6_partDone_4 bp_110 k_) ?_
      refine qN (fun T_ => r_icmpN_ne (pc := 6) (tgt := 16) dX6_partDone_6 (by decide) (by omega) (by omega)) (fun c1 => ?_) (fun c1 => ?_)
      · exact absurd c1 (by decide)
      · refine qU (fun T_ k_ => r_aload_n (pc := 9) dX6_partDone_9 rfl k_) ?_
        obtain ⟨T88, ⟨J88, rfl, F88, G88⟩, S88⟩ := s_doesLast_110 X (d + 2) J L F c l i ps ws op G
        have P88 := P.frk F88
        refine qU (fun T_ k_ => r_callV (pc := 10) (N := mX6_doesLast) (rest := []) (S88) okX6_doesLast lkX6_165 rfl (by decide) rfl rfl rfl (Nat.le_of_ble_eq_true rfl) ⟨Nat.le_refl _, Nat.le_refl _⟩ dX6_partDone_10 k_) ?_
        refine qU (fun T_ k_ => r_goto (pc := 13) (tgt := 0) dX6_partDone_13 (by decide) k_) ?_
        exact ih _ _ _ P88 ((FR).trans F88) G88 K
    · rw [show pd1 (w :: ws) i l = (i, l, w :: ws) from if_neg hw] at K
      refine qU (fun T_ k_ => r_aload_n (pc := 0) dX6_partDone_0 rfl k_) ?_
      refine qU (fun T_ k_ => r_callV (pc := 1) (N := mX6_lastWaiting) (rest := []) (s_lastWaiting X _ J L F c l (i :: ps) (w :: ws) op 1 G (w) rfl) okX6_lastWaiting lkX6_161 rfl (by decide) rfl rfl rfl (Nat.le_of_ble_eq_true rfl) ⟨Nat.le_refl _, Nat.le_refl _⟩ dX6_partDone_1 k_) ?_
      refine qU (fun T_ k_ => r_bipush (pc := 4) dX6_partDone_4 bp_110 k_) ?_
      refine qN (fun T_ => r_icmpN_ne (pc := 6) (tgt := 16) dX6_partDone_6 (by decide) (by omega) (by omega)) (fun c1 => ?_) (fun c1 => ?_)
      · exact K _ P FR G
      · exact absurd c1 (by omega)
theorem lp_pd3 (X : Ctx) (d : Nat) (I : MI) (L : ML) (tx : Nat → Nat) (n F t c op : Nat) (Q : TR → Prop) : ∀ (ws : List Nat) (j : Nat) (ps : List Nat) (l : List Q4) (J : MI), PM J tx n t → FRq F I J → SM J F c l (j :: ps) ws op 1 → (∀ J2, PM J2 tx n t → FRq F I J2 → SM4 J2 F c op (pdB f42 ws j ps l) → Q (none, shF, J2, L)) → ∃ T, Q T ∧ Ev X mX6_partDone (d + 4) (0, 0) (0, 0) T 80 [.ref 42, .null] [] shF J L := by
  intro ws
  induction ws with
  | nil =>
    intro j ps l J P FR G K
    refine qU (fun T_ k_ => r_aload_n (pc := 80) dX6_partDone_80 rfl k_) ?_
    refine qU (fun T_ k_ => r_callV (pc := 81) (N := mX6_isWell) (rest := []) (s_isWell_t X _ J L P.2.2) okX6_isWell lkX6_127 rfl (by decide) rfl rfl rfl (Nat.le_of_ble_eq_true rfl) ⟨Nat.le_refl _, Nat.le_refl _⟩ dX6_partDone_81 k_) ?_
    refine qP (fun T_ => r_ifN_eq (pc := 84) (tgt := 103) dX6_partDone_84 (by decide) (by omega)) (fun c1 => ?_) (fun c1 => ?_)
    · exact absurd c1 (by decide)
    · refine qU (fun T_ k_ => r_aload_n (pc := 87) dX6_partDone_87 rfl k_) ?_
      refine qU (fun T_ k_ => r_callV (pc := 88) (N := mX6_lastWaiting) (rest := []) (s_lastWaiting X _ J L F c l (j :: ps) ([]) op 1 G (0) rfl) okX6_lastWaiting lkX6_161 rfl (by decide) rfl rfl rfl (Nat.le_of_ble_eq_true rfl) ⟨Nat.le_refl _, Nat.le_refl _⟩ dX6_partDone_88 k_) ?_
      refine qU (fun T_ k_ => r_bipush (pc := 91) dX6_partDone_91 bp_42 k_) ?_
      refine qN (fun T_ => r_icmpN_ne (pc := 93) (tgt := 103) dX6_partDone_93 (by decide) (by omega) (by omega)) (fun c2 => ?_) (fun c2 => ?_)
      · exact ⟨_, K _ P FR G, r_vret dX6_partDone_103 rfl rfl rfl⟩
      · exact absurd c2 (by decide)
  | cons w ws ih =>
    intro j ps l J P FR G K
    have hw8 := G.2.2.2.2.2.2.2.2.2.2 w (List.mem_cons_self ..)
    unfold wOk at hw8
    by_cases hw : w = 42
    · subst hw
      cases ps with
      | nil =>
        have hb := G.2.2.2.2.2.2.1
        rw [bn_b (by decide)] at hb
        have e1 : [j].length = 1 := rfl
        omega
      | cons i ps =>
        rw [show pdB f42 (42 :: ws) j (i :: ps) l = pdB f42 ws l.length ps (l ++ [(42, 0, i, j)]) from if_pos rfl] at K
        refine qU (fun T_ k_ => r_aload_n (pc := 80) dX6_partDone_80 rfl k_) ?_
        refine qU (fun T_ k_ => r_callV (pc := 81) (N := mX6_isWell) (rest := []) (s_isWell_t X _ J L P.2.2) okX6_isWell lkX6_127 rfl (by decide) rfl rfl rfl (Nat.le_of_ble_eq_true rfl) ⟨Nat.le_refl _, Nat.le_refl _⟩ dX6_partDone_81 k_) ?_
        refine qP (fun T_ => r_ifN_eq (pc := 84) (tgt := 103) dX6_partDone_84 (by decide) (by omega)) (fun c1 => ?_) (fun c1 => ?_)
        · exact absurd c1 (by decide)
        · refine qU (fun T_ k_ => r_aload_n (pc := 87) dX6_partDone_87 rfl k_) ?_
          refine qU (fun T_ k_ => r_callV (pc := 88) (N := mX6_lastWaiting) (rest := []) (s_lastWaiting X _ J L F c l (j :: i :: ps) (42 :: ws) op 1 G (42) rfl) okX6_lastWaiting lkX6_161 rfl (by decide) rfl rfl rfl (Nat.le_of_ble_eq_true rfl) ⟨Nat.le_refl _, Nat.le_refl _⟩ dX6_partDone_88 k_) ?_
          refine qU (fun T_ k_ => r_bipush (pc := 91) dX6_partDone_91 bp_42 k_) ?_
          refine qN (fun T_ => r_icmpN_ne (pc := 93) (tgt := 103) dX6_partDone_93 (by decide) (by omega) (by omega)) (fun c2 => ?_) (fun c2 => ?_)
          · exact absurd c2 (by decide)
          · refine qU (fun T_ k_ => r_aload_n (pc := 96) dX6_partDone_96 rfl k_) ?_
            obtain ⟨T89, ⟨J89, rfl, F89, G89⟩, S89⟩ := s_doesLast_b X (d + 2) J L F c l j i 42 ps ws op G (Or.inl rfl)
            have P89 := P.frk F89
            refine qU (fun T_ k_ => r_callV (pc := 97) (N := mX6_doesLast) (rest := []) (S89) okX6_doesLast lkX6_165 rfl (by decide) rfl rfl rfl (Nat.le_of_ble_eq_true rfl) ⟨Nat.le_refl _, Nat.le_refl _⟩ dX6_partDone_97 k_) ?_
            refine qU (fun T_ k_ => r_goto (pc := 100) (tgt := 80) dX6_partDone_100 (by decide) k_) ?_
            exact ih _ _ _ _ P89 ((FR).trans F89.q) G89 K
    · rw [show pdB f42 (w :: ws) j ps l = (j, ps, l, w :: ws) from if_neg (fun z => hw (of_decide_eq_true z))] at K
      refine qU (fun T_ k_ => r_aload_n (pc := 80) dX6_partDone_80 rfl k_) ?_
      refine qU (fun T_ k_ => r_callV (pc := 81) (N := mX6_isWell) (rest := []) (s_isWell_t X _ J L P.2.2) okX6_isWell lkX6_127 rfl (by decide) rfl rfl rfl (Nat.le_of_ble_eq_true rfl) ⟨Nat.le_refl _, Nat.le_refl _⟩ dX6_partDone_81 k_) ?_
      refine qP (fun T_ => r_ifN_eq (pc := 84) (tgt := 103) dX6_partDone_84 (by decide) (by omega)) (fun c1 => ?_) (fun c1 => ?_)
      · exact absurd c1 (by decide)
      · refine qU (fun T_ k_ => r_aload_n (pc := 87) dX6_partDone_87 rfl k_) ?_
        refine qU (fun T_ k_ => r_callV (pc := 88) (N := mX6_lastWaiting) (rest := []) (s_lastWaiting X _ J L F c l (j :: ps) (w :: ws) op 1 G (w) rfl) okX6_lastWaiting lkX6_161 rfl (by decide) rfl rfl rfl (Nat.le_of_ble_eq_true rfl) ⟨Nat.le_refl _, Nat.le_refl _⟩ dX6_partDone_88 k_) ?_
        refine qU (fun T_ k_ => r_bipush (pc := 91) dX6_partDone_91 bp_42 k_) ?_
        refine qN (fun T_ => r_icmpN_ne (pc := 93) (tgt := 103) dX6_partDone_93 (by decide) (by omega) (by omega)) (fun c2 => ?_) (fun c2 => ?_)
        · exact ⟨_, K _ P FR G, r_vret dX6_partDone_103 rfl rfl rfl⟩
        · exact absurd c2 (by omega)
theorem s_partDone (X : Ctx) (d : Nat) (I : MI) (L : ML) (tx : Nat → Nat) (n F t c op : Nat) (l : List Q4) (i : Nat) (ps ws : List Nat) (h : PM I tx n t) (hS : SM I F c l (i :: ps) ws op 1) : ∃ T, QPD I L tx n F op (pdR (tkK tx n) (tkV tx n) t c l i ps ws) T ∧ Sp X mX6_partDone (d + 4) (0, 0) [.ref 42] shF I L T := by
  refine qU (fun T_ k_ => Sp.of okX6_partDone [.ref 42, .null] 1 rfl (Nat.le_of_ble_eq_true rfl) k_) ?_
  refine lp_pd1 X d I L tx n F t c op ps _ ws i l I h (FRk.refl F I) hS ?_
  intro J P FR G
  unfold pdR
  obtain ⟨a, ha⟩ : ∃ a, pd1 ws i l = a := ⟨_, rfl⟩
  rw [ha] at G ⊢
  obtain ⟨i1, l1, w1⟩ := a
  have G : SM J F c l1 (i1 :: ps) w1 op 1 := G
  have bd := tm_bd P.1 t
  have bd1 := tm_bd P.1 (t + 1)
  unfold pdW
  by_cases hA : tkK tx n t = 1 ∧ tkV tx n t = 94
  · rw [if_pos hA]
    by_cases hc : 20 ≤ c
    · rw [if_pos hc]
      refine qU (fun T_ k_ => r_aload_n (pc := 16) dX6_partDone_16 rfl k_) ?_
      refine qU (fun T_ k_ => r_bipush (pc := 17) dX6_partDone_17 bp_94 k_) ?_
      refine qU (fun T_ k_ => r_callV (pc := 19) (N := mX6_isThis) (rest := []) (s_isThis_t X _ J L (94) tx n t P hA (by decide)) okX6_isThis lkX6_134 rfl (by decide) rfl rfl rfl (Nat.le_of_ble_eq_true rfl) ⟨Nat.le_refl _, Nat.le_refl _⟩ dX6_partDone_19 k_) ?_
      refine qP (fun T_ => r_ifN_eq (pc := 22) (tgt := 80) dX6_partDone_22 (by decide) (by omega)) (fun c1 => ?_) (fun c1 => ?_)
      · exact absurd c1 (by decide)
      · refine qU (fun T_ k_ => r_aload_n (pc := 25) dX6_partDone_25 rfl k_) ?_
        refine qU (fun T_ k_ => r_aload_n (pc := 26) dX6_partDone_26 rfl k_) ?_
        have P90 : PM (u2 J 42 34 (nI (c + 1))) tx n t := P.frk ((FRk.refl F _).put 34 _ (by decide))
        refine qU (fun T_ k_ => r_callV (pc := 27) (N := mX6_counts) (rest := [.ref 42]) (s_counts_f X _ J L c G.1.2.2.2.2.2.1 hc G.2.2.2.1) okX6_counts lkX6_168 rfl (by decide) rfl rfl rfl (Nat.le_of_ble_eq_true rfl) ⟨Nat.le_refl _, Nat.le_refl _⟩ dX6_partDone_27 k_) ?_
        refine qU (fun T_ k_ => r_callV (pc := 30) (N := mX6_takes) (rest := []) (s_takes_f X _ (u2 J 42 34 (nI (c + 1))) L tx n t P90) okX6_takes lkX6_137 rfl (by decide) rfl rfl rfl (Nat.le_of_ble_eq_true rfl) ⟨Nat.le_refl _, Nat.le_refl _⟩ dX6_partDone_30 k_) ?_
        refine qU (fun T_ k_ => r_pop (pc := 33) dX6_partDone_33 rfl k_) ?_
        refine qU (fun T_ k_ => r_aload_n (pc := 34) dX6_partDone_34 rfl k_) ?_
        refine qU (fun T_ k_ => r_aload_n (pc := 35) dX6_partDone_35 rfl k_) ?_
        refine qU (fun T_ k_ => r_iconst (pc := 36) (v := nI 0) dX6_partDone_36 rfl k_) ?_
        refine qU (fun T_ k_ => r_iconst (pc := 37) (v := nI 4) dX6_partDone_37 rfl k_) ?_
        refine qU (fun T_ k_ => r_callV (pc := 38) (N := mX6_isNumber) (rest := [.ref 42]) (s_isNumber_n X _ (u2 (u2 J 42 34 (nI (c + 1))) 42 7 (nI (tkP tx n t))) L _ _ (tkP tx n t) rfl (Nat.le_trans (tkP_le t) P90.1.2.1)) okX6_isNumber lkX6_141 rfl (by decide) rfl rfl rfl (Nat.le_of_ble_eq_true rfl) ⟨Nat.le_refl _, Nat.le_refl _⟩ dX6_partDone_38 k_) ?_
        refine qU (fun T_ k_ => r_callV (pc := 41) (N := mX6_takes) (rest := []) (s_takes_n X _ (u2 (u2 J 42 34 (nI (c + 1))) 42 7 (nI (tkP tx n t))) L _ (tkP tx n t) rfl (Nat.le_trans (tkP_le t) P90.1.2.1)) okX6_takes lkX6_137 rfl (by decide) rfl rfl rfl (Nat.le_of_ble_eq_true rfl) ⟨Nat.le_refl _, Nat.le_refl _⟩ dX6_partDone_41 k_) ?_
        refine qU (fun T_ k_ => r_istore_n (pc := 44) (lo1 := [.ref 42, .int (nI 0)]) dX6_partDone_44 rfl (by decide) rfl k_) ?_
        refine qU (fun T_ k_ => r_aload_n (pc := 45) dX6_partDone_45 rfl k_) ?_
        refine qU (fun T_ k_ => r_callV (pc := 46) (N := mX6_isWell) (rest := []) (s_isWell_f X _ (u2 (u2 J 42 34 (nI (c + 1))) 42 7 (nI (tkP tx n t))) L (tkP tx n t) rfl (Nat.le_trans (tkP_le t) P90.1.2.1)) okX6_isWell lkX6_127 rfl (by decide) rfl rfl rfl (Nat.le_of_ble_eq_true rfl) ⟨Nat.le_refl _, Nat.le_refl _⟩ dX6_partDone_46 k_) ?_
        refine qP (fun T_ => r_ifN_eq (pc := 49) (tgt := 80) dX6_partDone_49 (by decide) (by omega)) (fun c2 => ?_) (fun c2 => ?_)
        · refine qU (fun T_ k_ => r_aload_n (pc := 80) dX6_partDone_80 rfl k_) ?_
          refine qU (fun T_ k_ => r_callV (pc := 81) (N := mX6_isWell) (rest := []) (s_isWell_f X _ (u2 (u2 J 42 34 (nI (c + 1))) 42 7 (nI (tkP tx n t))) L (tkP tx n t) rfl (Nat.le_trans (tkP_le t) P90.1.2.1)) okX6_isWell lkX6_127 rfl (by decide) rfl rfl rfl (Nat.le_of_ble_eq_true rfl) ⟨Nat.le_refl _, Nat.le_refl _⟩ dX6_partDone_81 k_) ?_
          refine qP (fun T_ => r_ifN_eq (pc := 84) (tgt := 103) dX6_partDone_84 (by decide) (by omega)) (fun c3 => ?_) (fun c3 => ?_)
          · exact ⟨_, ⟨_, rfl, ((FR.q).put 34 _ (by decide)).put 7 _ (by decide), rfl⟩, r_vret dX6_partDone_103 rfl rfl rfl⟩
          · exact absurd c3 (by decide)
        · exact absurd c2 (by decide)
    · rw [if_neg hc]
      by_cases hN : tkK tx n (t + 1) = 2 ∧ tkV tx n (t + 1) ≤ 4
      · rw [if_pos hN]
        refine qU (fun T_ k_ => r_aload_n (pc := 16) dX6_partDone_16 rfl k_) ?_
        refine qU (fun T_ k_ => r_bipush (pc := 17) dX6_partDone_17 bp_94 k_) ?_
        refine qU (fun T_ k_ => r_callV (pc := 19) (N := mX6_isThis) (rest := []) (s_isThis_t X _ J L (94) tx n t P hA (by decide)) okX6_isThis lkX6_134 rfl (by decide) rfl rfl rfl (Nat.le_of_ble_eq_true rfl) ⟨Nat.le_refl _, Nat.le_refl _⟩ dX6_partDone_19 k_) ?_
        refine qP (fun T_ => r_ifN_eq (pc := 22) (tgt := 80) dX6_partDone_22 (by decide) (by omega)) (fun c1 => ?_) (fun c1 => ?_)
        · exact absurd c1 (by decide)
        · refine qU (fun T_ k_ => r_aload_n (pc := 25) dX6_partDone_25 rfl k_) ?_
          refine qU (fun T_ k_ => r_aload_n (pc := 26) dX6_partDone_26 rfl k_) ?_
          have P92 : PM (u2 J 42 34 (nI (c + 1))) tx n t := P.frk ((FRk.refl F _).put 34 _ (by decide))
          have G92 := G.counted hc
          refine qU (fun T_ k_ => r_callV (pc := 27) (N := mX6_counts) (rest := [.ref 42]) (s_counts_t X _ J L c G.1.2.2.2.2.2.1 hc) okX6_counts lkX6_168 rfl (by decide) rfl rfl rfl (Nat.le_of_ble_eq_true rfl) ⟨Nat.le_refl _, Nat.le_refl _⟩ dX6_partDone_27 k_) ?_
          obtain ⟨T93, ⟨J93, rfl, F93, C93⟩, S93⟩ := s_takes_t X d (u2 J 42 34 (nI (c + 1))) L tx n t P92 (94) ((P92.2.1.2.2.2 (Or.inl hA.1)).trans (congrArg nI hA.2))
          have P93 := P92.step F93 C93
          have G93 := G92.1.frm F93
          refine qU (fun T_ k_ => r_callV (pc := 30) (N := mX6_takes) (rest := []) (S93) okX6_takes lkX6_137 rfl (by decide) rfl rfl rfl (Nat.le_of_ble_eq_true rfl) ⟨Nat.le_refl _, Nat.le_refl _⟩ dX6_partDone_30 k_) ?_
          refine qU (fun T_ k_ => r_pop (pc := 33) dX6_partDone_33 rfl k_) ?_
          refine qU (fun T_ k_ => r_aload_n (pc := 34) dX6_partDone_34 rfl k_) ?_
          refine qU (fun T_ k_ => r_aload_n (pc := 35) dX6_partDone_35 rfl k_) ?_
          refine qU (fun T_ k_ => r_iconst (pc := 36) (v := nI 0) dX6_partDone_36 rfl k_) ?_
          refine qU (fun T_ k_ => r_iconst (pc := 37) (v := nI 4) dX6_partDone_37 rfl k_) ?_
          refine qU (fun T_ k_ => r_callV (pc := 38) (N := mX6_isNumber) (rest := [.ref 42]) (s_isNumber_t X _ J93 L 0 (4) (by omega) tx n (t + 1) P93 hN.1 (Nat.zero_le _) hN.2) okX6_isNumber lkX6_141 rfl (by decide) rfl rfl rfl (Nat.le_of_ble_eq_true rfl) ⟨Nat.le_refl _, Nat.le_refl _⟩ dX6_partDone_38 k_) ?_
          obtain ⟨T94, ⟨J94, rfl, F94, C94⟩, S94⟩ := s_takes_t X d J93 L tx n (t + 1) P93 (tkV tx n (t + 1)) (P93.2.1.2.2.2 (Or.inr hN.1))
          have P94 := P93.step F94 C94
          have G94 := G93.frm F94
          have len9 := G94.2.len
          have e9 : (i1 :: ps).length = ps.length + 1 := rfl
          refine qU (fun T_ k_ => r_callV (pc := 41) (N := mX6_takes) (rest := []) (S94) okX6_takes lkX6_137 rfl (by decide) rfl rfl rfl (Nat.le_of_ble_eq_true rfl) ⟨Nat.le_refl _, Nat.le_refl _⟩ dX6_partDone_41 k_) ?_
          refine qU (fun T_ k_ => r_istore_n (pc := 44) (lo1 := [.ref 42, .int (nI (tkV tx n (t + 1)))]) dX6_partDone_44 rfl (by decide) rfl k_) ?_
          refine qU (fun T_ k_ => r_aload_n (pc := 45) dX6_partDone_45 rfl k_) ?_
          refine qU (fun T_ k_ => r_callV (pc := 46) (N := mX6_isWell) (rest := []) (s_isWell_t X _ J94 L P94.2.2) okX6_isWell lkX6_127 rfl (by decide) rfl rfl rfl (Nat.le_of_ble_eq_true rfl) ⟨Nat.le_refl _, Nat.le_refl _⟩ dX6_partDone_46 k_) ?_
          refine qP (fun T_ => r_ifN_eq (pc := 49) (tgt := 80) dX6_partDone_49 (by decide) (by omega)) (fun c2 => ?_) (fun c2 => ?_)
          · exact absurd c2 (by decide)
          · refine qU (fun T_ k_ => r_aload_n (pc := 52) dX6_partDone_52 rfl k_) ?_
            refine qU (fun T_ k_ => r_dup (pc := 53) dX6_partDone_53 rfl k_) ?_
            refine qU (fun T_ k_ => r_getV (pc := 54) (v := nI (ps.length + 1)) dX6_partDone_54 fX6_151 rfl rfl (G94.1.2.2.1) k_) ?_
            refine qU (fun T_ k_ => r_iconst (pc := 57) (v := nI 1) dX6_partDone_57 rfl k_) ?_
            refine qU (fun T_ k_ => r_isubN (pc := 58) dX6_partDone_58 (by omega) k_) ?_
            refine qU (fun T_ k_ => r_put (pc := 59) .int dX6_partDone_59 fX6_151 rfl rfl nf6_30 rfl rfl k_) ?_
            refine qU (fun T_ k_ => r_aload_n (pc := 62) dX6_partDone_62 rfl k_) ?_
            refine qU (fun T_ k_ => r_bipush (pc := 63) dX6_partDone_63 bp_94 k_) ?_
            refine qU (fun T_ k_ => r_iload_n (pc := 65) dX6_partDone_65 rfl k_) ?_
            refine qU (fun T_ k_ => r_aload_n (pc := 66) dX6_partDone_66 rfl k_) ?_
            refine qU (fun T_ k_ => r_getR (pc := 67) (b := 61) dX6_partDone_67 fX6_66 rfl rfl k_) ?_
            refine qU (fun T_ k_ => r_aload_n (pc := 70) dX6_partDone_70 rfl k_) ?_
            refine qU (fun T_ k_ => r_getV (pc := 71) (v := nI ps.length) dX6_partDone_71 fX6_151 rfl rfl (rfl) k_) ?_
            refine qU (fun T_ k_ => r_ialdV (pc := 74) (j := ps.length) (v := nI i1) dX6_partDone_74 rfl rfl (by omega) (by decide) (G94.1.2.2.2.2.2.2.2.1.1) k_) ?_
            refine qU (fun T_ k_ => r_bipush (pc := 75) dX6_partDone_75 bp_m9 k_) ?_
            have B95 := G94.pop
            have N95 := B95.1.2.len
            have hF95 := B95.1.2.1
            have hl95 := G92.2
            have G95 := B95.1.made G92.2 ((94, tkV tx n (t + 1), i1, 0) : Q4) (Or.inr (Or.inr (Or.inr (Or.inr (Or.inl ⟨rfl, hN.2, B95.2⟩))))) (so := (nI 94)) (its := (nI (tkV tx n (t + 1)))) (lf := (nI i1)) (rt := (-9)) rfl rfl (fun _ => rfl) (fun z => absurd z (show ¬ ((94 : Nat) = 42 ∨ (94 : Nat) = 43 ∨ (94 : Nat) = 45) by decide)) (fun _ => rfl)
            have P95 := P94.frk (((FRk.refl F _).put 30 (nI ps.length) (by decide)).mk l1.length ps.length (nI 94) (nI (tkV tx n (t + 1))) (nI i1) (-9))
            refine qU (fun T_ k_ => r_callV (pc := 77) (N := mX6_makes) (rest := []) (s_makes X _ (u2 J94 42 30 (nI ps.length)) L F l1.length ps.length (nI 94) (nI (tkV tx n (t + 1))) (nI i1) (-9) (B95.1.1.1) (B95.1.1.2.1) rfl hF95 (by omega) (by omega)) okX6_makes lkX6_157 rfl (by decide) rfl rfl rfl (Nat.le_of_ble_eq_true rfl) ⟨Nat.le_refl _, Nat.le_refl _⟩ dX6_partDone_77 k_) ?_
            refine qU (fun T_ k_ => r_drop (lo1 := [.ref 42, .null]) 1 rfl k_) ?_
            exact lp_pd3 X d I L tx n F ((t + 1) + 1) (c + 1) op _ _ _ _ _ _ P95 (((((FR.q).put 34 _ (by decide)).trans F93.q).trans F94.q).trans (((FRk.refl F _).put 30 _ (by decide)).mk _ _ _ _ _ _).q) G95 (fun J2 p2 f2 g2 => ⟨J2, rfl, f2, p2, g2⟩)
      · rw [if_neg hN]
        refine qU (fun T_ k_ => r_aload_n (pc := 16) dX6_partDone_16 rfl k_) ?_
        refine qU (fun T_ k_ => r_bipush (pc := 17) dX6_partDone_17 bp_94 k_) ?_
        refine qU (fun T_ k_ => r_callV (pc := 19) (N := mX6_isThis) (rest := []) (s_isThis_t X _ J L (94) tx n t P hA (by decide)) okX6_isThis lkX6_134 rfl (by decide) rfl rfl rfl (Nat.le_of_ble_eq_true rfl) ⟨Nat.le_refl _, Nat.le_refl _⟩ dX6_partDone_19 k_) ?_
        refine qP (fun T_ => r_ifN_eq (pc := 22) (tgt := 80) dX6_partDone_22 (by decide) (by omega)) (fun c1 => ?_) (fun c1 => ?_)
        · exact absurd c1 (by decide)
        · refine qU (fun T_ k_ => r_aload_n (pc := 25) dX6_partDone_25 rfl k_) ?_
          refine qU (fun T_ k_ => r_aload_n (pc := 26) dX6_partDone_26 rfl k_) ?_
          have P96 : PM (u2 J 42 34 (nI (c + 1))) tx n t := P.frk ((FRk.refl F _).put 34 _ (by decide))
          have G96 := G.counted hc
          refine qU (fun T_ k_ => r_callV (pc := 27) (N := mX6_counts) (rest := [.ref 42]) (s_counts_t X _ J L c G.1.2.2.2.2.2.1 hc) okX6_counts lkX6_168 rfl (by decide) rfl rfl rfl (Nat.le_of_ble_eq_true rfl) ⟨Nat.le_refl _, Nat.le_refl _⟩ dX6_partDone_27 k_) ?_
          obtain ⟨T97, ⟨J97, rfl, F97, C97⟩, S97⟩ := s_takes_t X d (u2 J 42 34 (nI (c + 1))) L tx n t P96 (94) ((P96.2.1.2.2.2 (Or.inl hA.1)).trans (congrArg nI hA.2))
          have P97 := P96.step F97 C97
          have G97 := G96.1.frm F97
          refine qU (fun T_ k_ => r_callV (pc := 30) (N := mX6_takes) (rest := []) (S97) okX6_takes lkX6_137 rfl (by decide) rfl rfl rfl (Nat.le_of_ble_eq_true rfl) ⟨Nat.le_refl _, Nat.le_refl _⟩ dX6_partDone_30 k_) ?_
          refine qU (fun T_ k_ => r_pop (pc := 33) dX6_partDone_33 rfl k_) ?_
          refine qU (fun T_ k_ => r_aload_n (pc := 34) dX6_partDone_34 rfl k_) ?_
          refine qU (fun T_ k_ => r_aload_n (pc := 35) dX6_partDone_35 rfl k_) ?_
          refine qU (fun T_ k_ => r_iconst (pc := 36) (v := nI 0) dX6_partDone_36 rfl k_) ?_
          refine qU (fun T_ k_ => r_iconst (pc := 37) (v := nI 4) dX6_partDone_37 rfl k_) ?_
          refine qU (fun T_ k_ => r_callV (pc := 38) (N := mX6_isNumber) (rest := [.ref 42]) (s_isNumber_f X _ J97 L (nI 4) tx n (t + 1) P97 (fun q => nI_lt2 (by decide) (by omega) (Nat.lt_of_not_le (fun y => hN ⟨q, y⟩)))) okX6_isNumber lkX6_141 rfl (by decide) rfl rfl rfl (Nat.le_of_ble_eq_true rfl) ⟨Nat.le_refl _, Nat.le_refl _⟩ dX6_partDone_38 k_) ?_
          refine qU (fun T_ k_ => r_callV (pc := 41) (N := mX6_takes) (rest := []) (s_takes_f X _ J97 L tx n (t + 1) P97) okX6_takes lkX6_137 rfl (by decide) rfl rfl rfl (Nat.le_of_ble_eq_true rfl) ⟨Nat.le_refl _, Nat.le_refl _⟩ dX6_partDone_41 k_) ?_
          refine qU (fun T_ k_ => r_istore_n (pc := 44) (lo1 := [.ref 42, .int (nI 0)]) dX6_partDone_44 rfl (by decide) rfl k_) ?_
          refine qU (fun T_ k_ => r_aload_n (pc := 45) dX6_partDone_45 rfl k_) ?_
          refine qU (fun T_ k_ => r_callV (pc := 46) (N := mX6_isWell) (rest := []) (s_isWell_f X _ (u2 J97 42 7 (nI (tkP tx n (t + 1)))) L (tkP tx n (t + 1)) rfl (Nat.le_trans (tkP_le (t + 1)) P97.1.2.1)) okX6_isWell lkX6_127 rfl (by decide) rfl rfl rfl (Nat.le_of_ble_eq_true rfl) ⟨Nat.le_refl _, Nat.le_refl _⟩ dX6_partDone_46 k_) ?_
          refine qP (fun T_ => r_ifN_eq (pc := 49) (tgt := 80) dX6_partDone_49 (by decide) (by omega)) (fun c2 => ?_) (fun c2 => ?_)
          · refine qU (fun T_ k_ => r_aload_n (pc := 80) dX6_partDone_80 rfl k_) ?_
            refine qU (fun T_ k_ => r_callV (pc := 81) (N := mX6_isWell) (rest := []) (s_isWell_f X _ (u2 J97 42 7 (nI (tkP tx n (t + 1)))) L (tkP tx n (t + 1)) rfl (Nat.le_trans (tkP_le (t + 1)) P97.1.2.1)) okX6_isWell lkX6_127 rfl (by decide) rfl rfl rfl (Nat.le_of_ble_eq_true rfl) ⟨Nat.le_refl _, Nat.le_refl _⟩ dX6_partDone_81 k_) ?_
            refine qP (fun T_ => r_ifN_eq (pc := 84) (tgt := 103) dX6_partDone_84 (by decide) (by omega)) (fun c3 => ?_) (fun c3 => ?_)
            · exact ⟨_, ⟨_, rfl, (((FR.q).put 34 _ (by decide)).trans F97.q).put 7 _ (by decide), rfl⟩, r_vret dX6_partDone_103 rfl rfl rfl⟩
            · exact absurd c3 (by decide)
          · exact absurd c2 (by decide)
  · rw [if_neg hA]
    refine qU (fun T_ k_ => r_aload_n (pc := 16) dX6_partDone_16 rfl k_) ?_
    refine qU (fun T_ k_ => r_bipush (pc := 17) dX6_partDone_17 bp_94 k_) ?_
    refine qU (fun T_ k_ => r_callV (pc := 19) (N := mX6_isThis) (rest := []) (s_isThis_f X _ J L (94) (by decide) tx n t P hA) okX6_isThis lkX6_134 rfl (by decide) rfl rfl rfl (Nat.le_of_ble_eq_true rfl) ⟨Nat.le_refl _, Nat.le_refl _⟩ dX6_partDone_19 k_) ?_
    refine qP (fun T_ => r_ifN_eq (pc := 22) (tgt := 80) dX6_partDone_22 (by decide) (by omega)) (fun c1 => ?_) (fun c1 => ?_)
    · exact lp_pd3 X d I L tx n F t c op _ _ _ _ _ _ P (FR.q) G (fun J2 p2 f2 g2 => ⟨J2, rfl, f2, p2, g2⟩)
    · exact absurd c1 (by decide)
