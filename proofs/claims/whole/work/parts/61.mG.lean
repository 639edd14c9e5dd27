abbrev RB : Type := Nat ⊕ ((Nat × Nat × List Q4 × List Nat × List Nat) ⊕ (Nat × Nat × Nat × R4))
def rbP (op : Nat) (r : Nat ⊕ (Nat × Nat × R4)) : RB := match r with
  | .inl u => .inl u
  | .inr (t', c', a') => .inr (.inr (t', c', op - 1, a'))
def rbW (K V : Nat → Nat) (t c op : Nat) (a : R4) : RB :=
  if K t = 1 ∧ (V t = 43 ∨ V t = 45) then (if 20 ≤ c then .inl t else .inr (.inl (t + 1, c + 1, a.2.2.1, a.1 :: a.2.1, V t :: a.2.2.2)))
  else match a.2.2.2 with
    | [] => .inr (.inr (t, c, op, a))
    | _ :: ws' => if K t = 1 ∧ V t = 41 then rbP op (pdR K V (t + 1) c a.2.2.1 a.1 a.2.1 ws') else .inl t
/-- what is done behind a part: signs that wait, then the next -/
def rbR (K V : Nat → Nat) (t c : Nat) (l : List Q4) (j : Nat) (ps ws : List Nat) (op : Nat) : RB :=
  if K t = 1 ∧ V t = 42 then (if 20 ≤ c then .inl t else .inr (.inl (t + 1, c + 1, l, j :: ps, 42 :: ws))) else rbW K V t c op (pdB f43 ws j ps l)
def QRB (I : MI) (L : ML) (tx : Nat → Nat) (n F op : Nat) (r : RB) (T : TR) : Prop := match r with
  | .inl u => ∃ b J, T = (some (.int (nI b)), shF, J, L) ∧ b ≤ 1 ∧ FRq F I J ∧ J 42 7 = nI (tkP tx n u)
  | .inr (.inl (t', c', l', ps', ws')) => ∃ J, T = (some (.int (nI 1)), shF, J, L) ∧ FRq F I J ∧ PM J tx n t' ∧ SM J F c' l' ps' ws' op 0
  | .inr (.inr (t', c', op', a)) => ∃ J, T = (some (.int (nI 0)), shF, J, L) ∧ FRq F I J ∧ PM J tx n t' ∧ SM4 J F c' op' a
/-- above the next bracket nothing waits but sums -/
def clW (a : R4) : Prop := ∀ w r, a.2.2.2 = w :: r → w = 0
theorem lp_pb (X : Ctx) (d : Nat) (I : MI) (L : ML) (tx : Nat → Nat) (n F t c op : Nat) (Q : TR → Prop) : ∀ (ws : List Nat) (j : Nat) (ps : List Nat) (l : List Q4) (J : MI), PM J tx n t → FRq F I J → SM J F c l (j :: ps) ws op 1 → (∀ J2, PM J2 tx n t → FRq F I J2 → SM4 J2 F c op (pdB f43 ws j ps l) → ∃ T, Q T ∧ Ev X mX6_readsBehind (d + 5) (0, 0) (0, 0) T 51 [.ref 42] [] shF J2 L) → ∃ T, Q T ∧ Ev X mX6_readsBehind (d + 5) (0, 0) (0, 0) T 26 [.ref 42] [] shF J L := by
  intro ws
  induction ws with
  | nil =>
    intro j ps l J P FR G K
    refine qU (fun T_ k_ => r_aload_n (pc := 26) dX6_readsBehind_26 rfl k_) ?_
    refine qU (fun T_ k_ => r_callV (pc := 27) (N := mX6_lastWaiting) (rest := []) (s_lastWaiting X _ J L F c l (j :: ps) ([]) op 1 G (0) rfl) okX6_lastWaiting lkX6_161 rfl (by decide) rfl rfl rfl (Nat.le_of_ble_eq_true rfl) ⟨Nat.le_refl _, Nat.le_refl _⟩ dX6_readsBehind_27 k_) ?_
    refine qU (fun T_ k_ => r_bipush (pc := 30) dX6_readsBehind_30 bp_43 k_) ?_
    refine qP (fun T_ => r_icmpN_eq (pc := 32) (tgt := 44) dX6_readsBehind_32 (by decide) (by omega) (by omega)) (fun c1 => ?_) (fun c1 => ?_)
    · exact absurd c1 (by decide)
    · refine qU (fun T_ k_ => r_aload_n (pc := 35) dX6_readsBehind_35 rfl k_) ?_
      refine qU (fun T_ k_ => r_callV (pc := 36) (N := mX6_lastWaiting) (rest := []) (s_lastWaiting X _ J L F c l (j :: ps) ([]) op 1 G (0) rfl) okX6_lastWaiting lkX6_161 rfl (by decide) rfl rfl rfl (Nat.le_of_ble_eq_true rfl) ⟨Nat.le_refl _, Nat.le_refl _⟩ dX6_readsBehind_36 k_) ?_
      refine qU (fun T_ k_ => r_bipush (pc := 39) dX6_readsBehind_39 bp_45 k_) ?_
      refine qN (fun T_ => r_icmpN_ne (pc := 41) (tgt := 51) dX6_readsBehind_41 (by decide) (by omega) (by omega)) (fun c2 => ?_) (fun c2 => ?_)
      · exact K _ P FR G
      · exact absurd c2 (by decide)
  | cons w ws ih =>
    intro j ps l J P FR G K
    have hw8 := G.2.2.2.2.2.2.2.2.2.2 w (List.mem_cons_self ..)
    unfold wOk at hw8
    by_cases hw : w = 43 ∨ w = 45
    · cases ps with
      | nil =>
        have hb := G.2.2.2.2.2.2.1
        rw [bn_b (by omega)] at hb
        have e1 : [j].length = 1 := rfl
        omega
      | cons i ps =>
        rw [show pdB f43 (w :: ws) j (i :: ps) l = pdB f43 ws l.length ps (l ++ [(w, 0, i, j)]) from if_pos (decide_eq_true hw)] at K
        refine qU (fun T_ k_ => r_aload_n (pc := 26) dX6_readsBehind_26 rfl k_) ?_
        refine qU (fun T_ k_ => r_callV (pc := 27) (N := mX6_lastWaiting) (rest := []) (s_lastWaiting X _ J L F c l (j :: i :: ps) (w :: ws) op 1 G (w) rfl) okX6_lastWaiting lkX6_161 rfl (by decide) rfl rfl rfl (Nat.le_of_ble_eq_true rfl) ⟨Nat.le_refl _, Nat.le_refl _⟩ dX6_readsBehind_27 k_) ?_
        refine qU (fun T_ k_ => r_bipush (pc := 30) dX6_readsBehind_30 bp_43 k_) ?_
        refine qP (fun T_ => r_icmpN_eq (pc := 32) (tgt := 44) dX6_readsBehind_32 (by decide) (by omega) (by omega)) (fun c1 => ?_) (fun c1 => ?_)
        · refine qU (fun T_ k_ => r_aload_n (pc := 44) dX6_readsBehind_44 rfl k_) ?_
          obtain ⟨T125, ⟨J125, rfl, F125, G125⟩, S125⟩ := s_doesLast_b X (d + 3) J L F c l j i w ps ws op G (Or.inr hw)
          have P125 := P.frk F125
          refine qU (fun T_ k_ => r_callV (pc := 45) (N := mX6_doesLast) (rest := []) (S125) okX6_doesLast lkX6_165 rfl (by decide) rfl rfl rfl (Nat.le_of_ble_eq_true rfl) ⟨Nat.le_refl _, Nat.le_refl _⟩ dX6_readsBehind_45 k_) ?_
          refine qU (fun T_ k_ => r_goto (pc := 48) (tgt := 26) dX6_readsBehind_48 (by decide) k_) ?_
          exact ih _ _ _ _ P125 ((FR).trans F125.q) G125 K
        · refine qU (fun T_ k_ => r_aload_n (pc := 35) dX6_readsBehind_35 rfl k_) ?_
          refine qU (fun T_ k_ => r_callV (pc := 36) (N := mX6_lastWaiting) (rest := []) (s_lastWaiting X _ J L F c l (j :: i :: ps) (w :: ws) op 1 G (w) rfl) okX6_lastWaiting lkX6_161 rfl (by decide) rfl rfl rfl (Nat.le_of_ble_eq_true rfl) ⟨Nat.le_refl _, Nat.le_refl _⟩ dX6_readsBehind_36 k_) ?_
          refine qU (fun T_ k_ => r_bipush (pc := 39) dX6_readsBehind_39 bp_45 k_) ?_
          refine qN (fun T_ => r_icmpN_ne (pc := 41) (tgt := 51) dX6_readsBehind_41 (by decide) (by omega) (by omega)) (fun c2 => ?_) (fun c2 => ?_)
          · exact absurd c2 (by omega)
          · refine qU (fun T_ k_ => r_aload_n (pc := 44) dX6_readsBehind_44 rfl k_) ?_
            obtain ⟨T126, ⟨J126, rfl, F126, G126⟩, S126⟩ := s_doesLast_b X (d + 3) J L F c l j i w ps ws op G (Or.inr hw)
            have P126 := P.frk F126
            refine qU (fun T_ k_ => r_callV (pc := 45) (N := mX6_doesLast) (rest := []) (S126) okX6_doesLast lkX6_165 rfl (by decide) rfl rfl rfl (Nat.le_of_ble_eq_true rfl) ⟨Nat.le_refl _, Nat.le_refl _⟩ dX6_readsBehind_45 k_) ?_
            refine qU (fun T_ k_ => r_goto (pc := 48) (tgt := 26) dX6_readsBehind_48 (by decide) k_) ?_
            exact ih _ _ _ _ P126 ((FR).trans F126.q) G126 K
    · rw [show pdB f43 (w :: ws) j ps l = (j, ps, l, w :: ws) from if_neg (fun z => hw (of_decide_eq_true z))] at K
      refine qU (fun T_ k_ => r_aload_n (pc := 26) dX6_readsBehind_26 rfl k_) ?_
      refine qU (fun T_ k_ => r_callV (pc := 27) (N := mX6_lastWaiting) (rest := []) (s_lastWaiting X _ J L F c l (j :: ps) (w :: ws) op 1 G (w) rfl) okX6_lastWaiting lkX6_161 rfl (by decide) rfl rfl rfl (Nat.le_of_ble_eq_true rfl) ⟨Nat.le_refl _, Nat.le_refl _⟩ dX6_readsBehind_27 k_) ?_
      refine qU (fun T_ k_ => r_bipush (pc := 30) dX6_readsBehind_30 bp_43 k_) ?_
      refine qP (fun T_ => r_icmpN_eq (pc := 32) (tgt := 44) dX6_readsBehind_32 (by decide) (by omega) (by omega)) (fun c1 => ?_) (fun c1 => ?_)
      · exact absurd c1 (by omega)
      · refine qU (fun T_ k_ => r_aload_n (pc := 35) dX6_readsBehind_35 rfl k_) ?_
        refine qU (fun T_ k_ => r_callV (pc := 36) (N := mX6_lastWaiting) (rest := []) (s_lastWaiting X _ J L F c l (j :: ps) (w :: ws) op 1 G (w) rfl) okX6_lastWaiting lkX6_161 rfl (by decide) rfl rfl rfl (Nat.le_of_ble_eq_true rfl) ⟨Nat.le_refl _, Nat.le_refl _⟩ dX6_readsBehind_36 k_) ?_
        refine qU (fun T_ k_ => r_bipush (pc := 39) dX6_readsBehind_39 bp_45 k_) ?_
        refine qN (fun T_ => r_icmpN_ne (pc := 41) (tgt := 51) dX6_readsBehind_41 (by decide) (by omega) (by omega)) (fun c2 => ?_) (fun c2 => ?_)
        · exact K _ P FR G
        · exact absurd c2 (by omega)
theorem s_readsBehind (X : Ctx) (d : Nat) (I : MI) (L : ML) (tx : Nat → Nat) (n F t c op : Nat) (l : List Q4) (j : Nat) (ps ws : List Nat) (h : PM I tx n t) (hS : SM I F c l (j :: ps) ws op 1) (hcl : clW (pdB f43 ws j ps l)) : ∃ T, QRB I L tx n F op (rbR (tkK tx n) (tkV tx n) t c l j ps ws op) T ∧ Sp X mX6_readsBehind (d + 5) (0, 0) [.ref 42] shF I L T := by
  refine qU (fun T_ k_ => Sp.of okX6_readsBehind [.ref 42] 0 rfl (Nat.le_of_ble_eq_true rfl) k_) ?_
  have bd := tm_bd h.1 t
  have hlen := hS.2.len
  have hop := hS.2.2.2.2.2.1
  have hF := hS.2.1
  unfold rbR
  by_cases hA : tkK tx n t = 1 ∧ tkV tx n t = 42
  · rw [if_pos hA]
    by_cases hc : 20 ≤ c
    · rw [if_pos hc]
      refine qU (fun T_ k_ => r_aload_n (pc := 0) dX6_readsBehind_0 rfl k_) ?_
      refine qU (fun T_ k_ => r_bipush (pc := 1) dX6_readsBehind_1 bp_42 k_) ?_
      refine qU (fun T_ k_ => r_callV (pc := 3) (N := mX6_isThis) (rest := []) (s_isThis_t X _ I L (42) tx n t h hA (by decide)) okX6_isThis lkX6_134 rfl (by decide) rfl rfl rfl (Nat.le_of_ble_eq_true rfl) ⟨Nat.le_refl _, Nat.le_refl _⟩ dX6_readsBehind_3 k_) ?_
      refine qP (fun T_ => r_ifN_eq (pc := 6) (tgt := 26) dX6_readsBehind_6 (by decide) (by omega)) (fun c1 => ?_) (fun c1 => ?_)
      · exact absurd c1 (by decide)
      · refine qU (fun T_ k_ => r_aload_n (pc := 9) dX6_readsBehind_9 rfl k_) ?_
        refine qU (fun T_ k_ => r_aload_n (pc := 10) dX6_readsBehind_10 rfl k_) ?_
        have P127 : PM (u2 I 42 34 (nI (c + 1))) tx n t := h.frk ((FRk.refl F _).put 34 _ (by decide))
        refine qU (fun T_ k_ => r_callV (pc := 11) (N := mX6_counts) (rest := [.ref 42]) (s_counts_f X _ I L c hS.1.2.2.2.2.2.1 hc hS.2.2.2.1) okX6_counts lkX6_168 rfl (by decide) rfl rfl rfl (Nat.le_of_ble_eq_true rfl) ⟨Nat.le_refl _, Nat.le_refl _⟩ dX6_readsBehind_11 k_) ?_
        refine qU (fun T_ k_ => r_callV (pc := 14) (N := mX6_takes) (rest := []) (s_takes_f X _ (u2 I 42 34 (nI (c + 1))) L tx n t P127) okX6_takes lkX6_137 rfl (by decide) rfl rfl rfl (Nat.le_of_ble_eq_true rfl) ⟨Nat.le_refl _, Nat.le_refl _⟩ dX6_readsBehind_14 k_) ?_
        refine qU (fun T_ k_ => r_pop (pc := 17) dX6_readsBehind_17 rfl k_) ?_
        refine qU (fun T_ k_ => r_aload_n (pc := 18) dX6_readsBehind_18 rfl k_) ?_
        refine qU (fun T_ k_ => r_bipush (pc := 19) dX6_readsBehind_19 bp_42 k_) ?_
        refine qU (fun T_ k_ => r_callV (pc := 21) (N := mX6_waits) (rest := []) (s_waits X _ (u2 (u2 I 42 34 (nI (c + 1))) 42 7 (nI (tkP tx n t))) L ws.length (nI 42) (hS.1.2.2.2.1) (by omega)) okX6_waits lkX6_174 rfl (by decide) rfl rfl rfl (Nat.le_of_ble_eq_true rfl) ⟨Nat.le_refl _, Nat.le_refl _⟩ dX6_readsBehind_21 k_) ?_
        refine qU (fun T_ k_ => r_iconst (pc := 24) (v := nI 1) dX6_readsBehind_24 rfl k_) ?_
        exact ⟨_, ⟨1, _, rfl, by decide, ((((FRq.refl F I).put 34 _ (by decide)).put 7 _ (by decide)).pt2 62 _ _ (by decide)).put 32 _ (by decide), rfl⟩, r_zret dX6_readsBehind_25 rfl (by decide) rfl rfl⟩
    · rw [if_neg hc]
      refine qU (fun T_ k_ => r_aload_n (pc := 0) dX6_readsBehind_0 rfl k_) ?_
      refine qU (fun T_ k_ => r_bipush (pc := 1) dX6_readsBehind_1 bp_42 k_) ?_
      refine qU (fun T_ k_ => r_callV (pc := 3) (N := mX6_isThis) (rest := []) (s_isThis_t X _ I L (42) tx n t h hA (by decide)) okX6_isThis lkX6_134 rfl (by decide) rfl rfl rfl (Nat.le_of_ble_eq_true rfl) ⟨Nat.le_refl _, Nat.le_refl _⟩ dX6_readsBehind_3 k_) ?_
      refine qP (fun T_ => r_ifN_eq (pc := 6) (tgt := 26) dX6_readsBehind_6 (by decide) (by omega)) (fun c1 => ?_) (fun c1 => ?_)
      · exact absurd c1 (by decide)
      · refine qU (fun T_ k_ => r_aload_n (pc := 9) dX6_readsBehind_9 rfl k_) ?_
        refine qU (fun T_ k_ => r_aload_n (pc := 10) dX6_readsBehind_10 rfl k_) ?_
        have P129 : PM (u2 I 42 34 (nI (c + 1))) tx n t := h.frk ((FRk.refl F _).put 34 _ (by decide))
        have G129 := hS.counted hc
        refine qU (fun T_ k_ => r_callV (pc := 11) (N := mX6_counts) (rest := [.ref 42]) (s_counts_t X _ I L c hS.1.2.2.2.2.2.1 hc) okX6_counts lkX6_168 rfl (by decide) rfl rfl rfl (Nat.le_of_ble_eq_true rfl) ⟨Nat.le_refl _, Nat.le_refl _⟩ dX6_readsBehind_11 k_) ?_
        obtain ⟨T130, ⟨J130, rfl, F130, C130⟩, S130⟩ := s_takes_t X (d + 1) (u2 I 42 34 (nI (c + 1))) L tx n t P129 (42) ((P129.2.1.2.2.2 (Or.inl hA.1)).trans (congrArg nI hA.2))
        have P130 := P129.step F130 C130
        have G130 := G129.1.frm F130
        refine qU (fun T_ k_ => r_callV (pc := 14) (N := mX6_takes) (rest := []) (S130) okX6_takes lkX6_137 rfl (by decide) rfl rfl rfl (Nat.le_of_ble_eq_true rfl) ⟨Nat.le_refl _, Nat.le_refl _⟩ dX6_readsBehind_14 k_) ?_
        refine qU (fun T_ k_ => r_pop (pc := 17) dX6_readsBehind_17 rfl k_) ?_
        refine qU (fun T_ k_ => r_aload_n (pc := 18) dX6_readsBehind_18 rfl k_) ?_
        refine qU (fun T_ k_ => r_bipush (pc := 19) dX6_readsBehind_19 bp_42 k_) ?_
        refine qU (fun T_ k_ => r_callV (pc := 21) (N := mX6_waits) (rest := []) (s_waits X _ J130 L ws.length (nI 42) (G130.1.2.2.2.1) (by omega)) okX6_waits lkX6_174 rfl (by decide) rfl rfl rfl (Nat.le_of_ble_eq_true rfl) ⟨Nat.le_refl _, Nat.le_refl _⟩ dX6_readsBehind_21 k_) ?_
        refine qU (fun T_ k_ => r_iconst (pc := 24) (v := nI 1) dX6_readsBehind_24 rfl k_) ?_
        exact ⟨_, ⟨_, rfl, ((((FRq.refl F I).put 34 _ (by decide)).trans F130.q).pt2 62 _ _ (by decide)).put 32 _ (by decide), P130.frk (((FRk.refl F _).pt2 62 _ _ (by decide)).put 32 _ (by decide)), G130.wait (Or.inr ⟨(by decide), rfl⟩) G129.2⟩, r_zret dX6_readsBehind_25 rfl (by decide) rfl rfl⟩
  · rw [if_neg hA]
    refine qU (fun T_ k_ => r_aload_n (pc := 0) dX6_readsBehind_0 rfl k_) ?_
    refine qU (fun T_ k_ => r_bipush (pc := 1) dX6_readsBehind_1 bp_42 k_) ?_
    refine qU (fun T_ k_ => r_callV (pc := 3) (N := mX6_isThis) (rest := []) (s_isThis_f X _ I L (42) (by decide) tx n t h hA) okX6_isThis lkX6_134 rfl (by decide) rfl rfl rfl (Nat.le_of_ble_eq_true rfl) ⟨Nat.le_refl _, Nat.le_refl _⟩ dX6_readsBehind_3 k_) ?_
    refine qP (fun T_ => r_ifN_eq (pc := 6) (tgt := 26) dX6_readsBehind_6 (by decide) (by omega)) (fun c1 => ?_) (fun c1 => ?_)
    · refine lp_pb X d I L tx n F t c op _ ws j ps l I h (FRq.refl F I) hS ?_
      intro J P FR G
      obtain ⟨a, ha⟩ : ∃ a, pdB f43 ws j ps l = a := ⟨_, rfl⟩
      rw [ha] at G hcl ⊢
      obtain ⟨j1, p1, l1, w1⟩ := a
      have G : SM J F c l1 (j1 :: p1) w1 op 1 := G
      have hlen1 := G.2.len
      have hop1 := G.2.2.2.2.2.1
      unfold rbW
      by_cases hB : tkK tx n t = 1 ∧ (tkV tx n t = 43 ∨ tkV tx n t = 45)
      · rw [if_pos hB]
        by_cases hc : 20 ≤ c
        · rw [if_pos hc]
          by_cases h43 : tkV tx n t = 43
          · refine qU (fun T_ k_ => r_aload_n (pc := 51) dX6_readsBehind_51 rfl k_) ?_
            refine qU (fun T_ k_ => r_bipush (pc := 52) dX6_readsBehind_52 bp_43 k_) ?_
            refine qU (fun T_ k_ => r_callV (pc := 54) (N := mX6_isThis) (rest := []) (s_isThis_t X _ J L (43) tx n t P ⟨hB.1, h43⟩ (by decide)) okX6_isThis lkX6_134 rfl (by decide) rfl rfl rfl (Nat.le_of_ble_eq_true rfl) ⟨Nat.le_refl _, Nat.le_refl _⟩ dX6_readsBehind_54 k_) ?_
            refine qN (fun T_ => r_ifN_ne (pc := 57) (tgt := 69) dX6_readsBehind_57 (by decide) (by omega)) (fun c1 => ?_) (fun c1 => ?_)
            · refine qU (fun T_ k_ => r_aload_n (pc := 69) dX6_readsBehind_69 rfl k_) ?_
              refine qU (fun T_ k_ => r_aload_n (pc := 70) dX6_readsBehind_70 rfl k_) ?_
              refine qU (fun T_ k_ => r_aload_n (pc := 71) dX6_readsBehind_71 rfl k_) ?_
              have P131 : PM (u2 J 42 34 (nI (c + 1))) tx n t := P.frk ((FRk.refl F _).put 34 _ (by decide))
              refine qU (fun T_ k_ => r_callV (pc := 72) (N := mX6_counts) (rest := [.ref 42, .ref 42]) (s_counts_f X _ J L c G.1.2.2.2.2.2.1 hc G.2.2.2.1) okX6_counts lkX6_168 rfl (by decide) rfl rfl rfl (Nat.le_of_ble_eq_true rfl) ⟨Nat.le_refl _, Nat.le_refl _⟩ dX6_readsBehind_72 k_) ?_
              refine qU (fun T_ k_ => r_callV (pc := 75) (N := mX6_takes) (rest := [.ref 42]) (s_takes_f X _ (u2 J 42 34 (nI (c + 1))) L tx n t P131) okX6_takes lkX6_137 rfl (by decide) rfl rfl rfl (Nat.le_of_ble_eq_true rfl) ⟨Nat.le_refl _, Nat.le_refl _⟩ dX6_readsBehind_75 k_) ?_
              refine qU (fun T_ k_ => r_callV (pc := 78) (N := mX6_waits) (rest := []) (s_waits X _ (u2 (u2 J 42 34 (nI (c + 1))) 42 7 (nI (tkP tx n t))) L w1.length (nI 0) (G.1.2.2.2.1) (by omega)) okX6_waits lkX6_174 rfl (by decide) rfl rfl rfl (Nat.le_of_ble_eq_true rfl) ⟨Nat.le_refl _, Nat.le_refl _⟩ dX6_readsBehind_78 k_) ?_
              refine qU (fun T_ k_ => r_iconst (pc := 81) (v := nI 1) dX6_readsBehind_81 rfl k_) ?_
              exact ⟨_, ⟨1, _, rfl, by decide, ((((FR).put 34 _ (by decide)).put 7 _ (by decide)).pt2 62 _ _ (by decide)).put 32 _ (by decide), rfl⟩, r_zret dX6_readsBehind_82 rfl (by decide) rfl rfl⟩
            · exact absurd c1 (by decide)
          · refine qU (fun T_ k_ => r_aload_n (pc := 51) dX6_readsBehind_51 rfl k_) ?_
            refine qU (fun T_ k_ => r_bipush (pc := 52) dX6_readsBehind_52 bp_43 k_) ?_
            refine qU (fun T_ k_ => r_callV (pc := 54) (N := mX6_isThis) (rest := []) (s_isThis_f X _ J L (43) (by decide) tx n t P (fun z => h43 z.2)) okX6_isThis lkX6_134 rfl (by decide) rfl rfl rfl (Nat.le_of_ble_eq_true rfl) ⟨Nat.le_refl _, Nat.le_refl _⟩ dX6_readsBehind_54 k_) ?_
            refine qN (fun T_ => r_ifN_ne (pc := 57) (tgt := 69) dX6_readsBehind_57 (by decide) (by omega)) (fun c1 => ?_) (fun c1 => ?_)
            · exact absurd c1 (by decide)
            · refine qU (fun T_ k_ => r_aload_n (pc := 60) dX6_readsBehind_60 rfl k_) ?_
              refine qU (fun T_ k_ => r_bipush (pc := 61) dX6_readsBehind_61 bp_45 k_) ?_
              refine qU (fun T_ k_ => r_callV (pc := 63) (N := mX6_isThis) (rest := []) (s_isThis_t X _ J L (45) tx n t P ⟨hB.1, hB.2.resolve_left h43⟩ (by decide)) okX6_isThis lkX6_134 rfl (by decide) rfl rfl rfl (Nat.le_of_ble_eq_true rfl) ⟨Nat.le_refl _, Nat.le_refl _⟩ dX6_readsBehind_63 k_) ?_
              refine qP (fun T_ => r_ifN_eq (pc := 66) (tgt := 83) dX6_readsBehind_66 (by decide) (by omega)) (fun c2 => ?_) (fun c2 => ?_)
              · exact absurd c2 (by decide)
              · refine qU (fun T_ k_ => r_aload_n (pc := 69) dX6_readsBehind_69 rfl k_) ?_
                refine qU (fun T_ k_ => r_aload_n (pc := 70) dX6_readsBehind_70 rfl k_) ?_
                refine qU (fun T_ k_ => r_aload_n (pc := 71) dX6_readsBehind_71 rfl k_) ?_
                have P133 : PM (u2 J 42 34 (nI (c + 1))) tx n t := P.frk ((FRk.refl F _).put 34 _ (by decide))
                refine qU (fun T_ k_ => r_callV (pc := 72) (N := mX6_counts) (rest := [.ref 42, .ref 42]) (s_counts_f X _ J L c G.1.2.2.2.2.2.1 hc G.2.2.2.1) okX6_counts lkX6_168 rfl (by decide) rfl rfl rfl (Nat.le_of_ble_eq_true rfl) ⟨Nat.le_refl _, Nat.le_refl _⟩ dX6_readsBehind_72 k_) ?_
                refine qU (fun T_ k_ => r_callV (pc := 75) (N := mX6_takes) (rest := [.ref 42]) (s_takes_f X _ (u2 J 42 34 (nI (c + 1))) L tx n t P133) okX6_takes lkX6_137 rfl (by decide) rfl rfl rfl (Nat.le_of_ble_eq_true rfl) ⟨Nat.le_refl _, Nat.le_refl _⟩ dX6_readsBehind_75 k_) ?_
                refine qU (fun T_ k_ => r_callV (pc := 78) (N := mX6_waits) (rest := []) (s_waits X _ (u2 (u2 J 42 34 (nI (c + 1))) 42 7 (nI (tkP tx n t))) L w1.length (nI 0) (G.1.2.2.2.1) (by omega)) okX6_waits lkX6_174 rfl (by decide) rfl rfl rfl (Nat.le_of_ble_eq_true rfl) ⟨Nat.le_refl _, Nat.le_refl _⟩ dX6_readsBehind_78 k_) ?_
                refine qU (fun T_ k_ => r_iconst (pc := 81) (v := nI 1) dX6_readsBehind_81 rfl k_) ?_
                exact ⟨_, ⟨1, _, rfl, by decide, ((((FR).put 34 _ (by decide)).put 7 _ (by decide)).pt2 62 _ _ (by decide)).put 32 _ (by decide), rfl⟩, r_zret dX6_readsBehind_82 rfl (by decide) rfl rfl⟩
        · rw [if_neg hc]
          by_cases h43 : tkV tx n t = 43
          · refine qU (fun T_ k_ => r_aload_n (pc := 51) dX6_readsBehind_51 rfl k_) ?_
            refine qU (fun T_ k_ => r_bipush (pc := 52) dX6_readsBehind_52 bp_43 k_) ?_
            refine qU (fun T_ k_ => r_callV (pc := 54) (N := mX6_isThis) (rest := []) (s_isThis_t X _ J L (43) tx n t P ⟨hB.1, h43⟩ (by decide)) okX6_isThis lkX6_134 rfl (by decide) rfl rfl rfl (Nat.le_of_ble_eq_true rfl) ⟨Nat.le_refl _, Nat.le_refl _⟩ dX6_readsBehind_54 k_) ?_
            refine qN (fun T_ => r_ifN_ne (pc := 57) (tgt := 69) dX6_readsBehind_57 (by decide) (by omega)) (fun c1 => ?_) (fun c1 => ?_)
            · refine qU (fun T_ k_ => r_aload_n (pc := 69) dX6_readsBehind_69 rfl k_) ?_
              refine qU (fun T_ k_ => r_aload_n (pc := 70) dX6_readsBehind_70 rfl k_) ?_
              refine qU (fun T_ k_ => r_aload_n (pc := 71) dX6_readsBehind_71 rfl k_) ?_
              have P135 : PM (u2 J 42 34 (nI (c + 1))) tx n t := P.frk ((FRk.refl F _).put 34 _ (by decide))
              have G135 := G.counted hc
              refine qU (fun T_ k_ => r_callV (pc := 72) (N := mX6_counts) (rest := [.ref 42, .ref 42]) (s_counts_t X _ J L c G.1.2.2.2.2.2.1 hc) okX6_counts lkX6_168 rfl (by decide) rfl rfl rfl (Nat.le_of_ble_eq_true rfl) ⟨Nat.le_refl _, Nat.le_refl _⟩ dX6_readsBehind_72 k_) ?_
              obtain ⟨T136, ⟨J136, rfl, F136, C136⟩, S136⟩ := s_takes_t X (d + 1) (u2 J 42 34 (nI (c + 1))) L tx n t P135 (tkV tx n t) (P135.2.1.2.2.2 (Or.inl hB.1))
              have P136 := P135.step F136 C136
              have G136 := G135.1.frm F136
              refine qU (fun T_ k_ => r_callV (pc := 75) (N := mX6_takes) (rest := [.ref 42]) (S136) okX6_takes lkX6_137 rfl (by decide) rfl rfl rfl (Nat.le_of_ble_eq_true rfl) ⟨Nat.le_refl _, Nat.le_refl _⟩ dX6_readsBehind_75 k_) ?_
              refine qU (fun T_ k_ => r_callV (pc := 78) (N := mX6_waits) (rest := []) (s_waits X _ J136 L w1.length (nI (tkV tx n t)) (G136.1.2.2.2.1) (by omega)) okX6_waits lkX6_174 rfl (by decide) rfl rfl rfl (Nat.le_of_ble_eq_true rfl) ⟨Nat.le_refl _, Nat.le_refl _⟩ dX6_readsBehind_78 k_) ?_
              refine qU (fun T_ k_ => r_iconst (pc := 81) (v := nI 1) dX6_readsBehind_81 rfl k_) ?_
              exact ⟨_, ⟨_, rfl, ((((FR).put 34 _ (by decide)).trans F136.q).pt2 62 _ _ (by decide)).put 32 _ (by decide), P136.frk (((FRk.refl F _).pt2 62 _ _ (by decide)).put 32 _ (by decide)), G136.wait (Or.inr ⟨(Or.inr hB.2), rfl⟩) G135.2⟩, r_zret dX6_readsBehind_82 rfl (by decide) rfl rfl⟩
            · exact absurd c1 (by decide)
          · refine qU (fun T_ k_ => r_aload_n (pc := 51) dX6_readsBehind_51 rfl k_) ?_
            refine qU (fun T_ k_ => r_bipush (pc := 52) dX6_readsBehind_52 bp_43 k_) ?_
            refine qU (fun T_ k_ => r_callV (pc := 54) (N := mX6_isThis) (rest := []) (s_isThis_f X _ J L (43) (by decide) tx n t P (fun z => h43 z.2)) okX6_isThis lkX6_134 rfl (by decide) rfl rfl rfl (Nat.le_of_ble_eq_true rfl) ⟨Nat.le_refl _, Nat.le_refl _⟩ dX6_readsBehind_54 k_) ?_
            refine qN (fun T_ => r_ifN_ne (pc := 57) (tgt := 69) dX6_readsBehind_57 (by decide) (by omega)) (fun c1 => ?_) (fun c1 => ?_)
            · exact absurd c1 (by decide)
            · refine qU (fun T_ k_ => r_aload_n (pc := 60) dX6_readsBehind_60 rfl k_) ?_
              refine qU (fun T_ k_ => r_bipush (pc := 61) dX6_readsBehind_61 bp_45 k_) ?_
              refine qU (fun T_ k_ => r_callV (pc := 63) (N := mX6_isThis) (rest := []) (s_isThis_t X _ J L (45) tx n t P ⟨hB.1, hB.2.resolve_left h43⟩ (by decide)) okX6_isThis lkX6_134 rfl (by decide) rfl rfl rfl (Nat.le_of_ble_eq_true rfl) ⟨Nat.le_refl _, Nat.le_refl _⟩ dX6_readsBehind_63 k_) ?_
              refine qP (fun T_ => r_ifN_eq (pc := 66) (tgt := 83) dX6_readsBehind_66 (by decide) (by omega)) (fun c2 => ?_) (fun c2 => ?_)
              · exact absurd c2 (by decide)
              · refine qU (fun T_ k_ => r_aload_n (pc := 69) dX6_readsBehind_69 rfl k_) ?_
                refine qU (fun T_ k_ => r_aload_n (pc := 70) dX6_readsBehind_70 rfl k_) ?_
                refine qU (fun T_ k_ => r_aload_n (pc := 71) dX6_readsBehind_71 rfl k_) ?_
                have P137 : PM (u2 J 42 34 (nI (c + 1))) tx n t := P.frk ((FRk.refl F _).put 34 _ (by decide))
                have G137 := G.counted hc
                refine qU (fun T_ k_ => r_callV (pc := 72) (N := mX6_counts) (rest := [.ref 42, .ref 42]) (s_counts_t X _ J L c G.1.2.2.2.2.2.1 hc) okX6_counts lkX6_168 rfl (by decide) rfl rfl rfl (Nat.le_of_ble_eq_true rfl) ⟨Nat.le_refl _, Nat.le_refl _⟩ dX6_readsBehind_72 k_) ?_
                obtain ⟨T138, ⟨J138, rfl, F138, C138⟩, S138⟩ := s_takes_t X (d + 1) (u2 J 42 34 (nI (c + 1))) L tx n t P137 (tkV tx n t) (P137.2.1.2.2.2 (Or.inl hB.1))
                have P138 := P137.step F138 C138
                have G138 := G137.1.frm F138
                refine qU (fun T_ k_ => r_callV (pc := 75) (N := mX6_takes) (rest := [.ref 42]) (S138) okX6_takes lkX6_137 rfl (by decide) rfl rfl rfl (Nat.le_of_ble_eq_true rfl) ⟨Nat.le_refl _, Nat.le_refl _⟩ dX6_readsBehind_75 k_) ?_
                refine qU (fun T_ k_ => r_callV (pc := 78) (N := mX6_waits) (rest := []) (s_waits X _ J138 L w1.length (nI (tkV tx n t)) (G138.1.2.2.2.1) (by omega)) okX6_waits lkX6_174 rfl (by decide) rfl rfl rfl (Nat.le_of_ble_eq_true rfl) ⟨Nat.le_refl _, Nat.le_refl _⟩ dX6_readsBehind_78 k_) ?_
                refine qU (fun T_ k_ => r_iconst (pc := 81) (v := nI 1) dX6_readsBehind_81 rfl k_) ?_
                exact ⟨_, ⟨_, rfl, ((((FR).put 34 _ (by decide)).trans F138.q).pt2 62 _ _ (by decide)).put 32 _ (by decide), P138.frk (((FRk.refl F _).pt2 62 _ _ (by decide)).put 32 _ (by decide)), G138.wait (Or.inr ⟨(Or.inr hB.2), rfl⟩) G137.2⟩, r_zret dX6_readsBehind_82 rfl (by decide) rfl rfl⟩
      · rw [if_neg hB]
        cases w1 with
        | nil =>
          by_cases hC : tkK tx n t = 1 ∧ tkV tx n t = 41
          · refine qU (fun T_ k_ => r_aload_n (pc := 51) dX6_readsBehind_51 rfl k_) ?_
            refine qU (fun T_ k_ => r_bipush (pc := 52) dX6_readsBehind_52 bp_43 k_) ?_
            refine qU (fun T_ k_ => r_callV (pc := 54) (N := mX6_isThis) (rest := []) (s_isThis_f X _ J L (43) (by decide) tx n t P (fun z => hB ⟨z.1, Or.inl z.2⟩)) okX6_isThis lkX6_134 rfl (by decide) rfl rfl rfl (Nat.le_of_ble_eq_true rfl) ⟨Nat.le_refl _, Nat.le_refl _⟩ dX6_readsBehind_54 k_) ?_
            refine qN (fun T_ => r_ifN_ne (pc := 57) (tgt := 69) dX6_readsBehind_57 (by decide) (by omega)) (fun c1 => ?_) (fun c1 => ?_)
            · exact absurd c1 (by decide)
            · refine qU (fun T_ k_ => r_aload_n (pc := 60) dX6_readsBehind_60 rfl k_) ?_
              refine qU (fun T_ k_ => r_bipush (pc := 61) dX6_readsBehind_61 bp_45 k_) ?_
              refine qU (fun T_ k_ => r_callV (pc := 63) (N := mX6_isThis) (rest := []) (s_isThis_f X _ J L (45) (by decide) tx n t P (fun z => hB ⟨z.1, Or.inr z.2⟩)) okX6_isThis lkX6_134 rfl (by decide) rfl rfl rfl (Nat.le_of_ble_eq_true rfl) ⟨Nat.le_refl _, Nat.le_refl _⟩ dX6_readsBehind_63 k_) ?_
              refine qP (fun T_ => r_ifN_eq (pc := 66) (tgt := 83) dX6_readsBehind_66 (by decide) (by omega)) (fun c2 => ?_) (fun c2 => ?_)
              · refine qU (fun T_ k_ => r_aload_n (pc := 83) dX6_readsBehind_83 rfl k_) ?_
                refine qU (fun T_ k_ => r_bipush (pc := 84) dX6_readsBehind_84 bp_41 k_) ?_
                refine qU (fun T_ k_ => r_callV (pc := 86) (N := mX6_isThis) (rest := []) (s_isThis_t X _ J L (41) tx n t P hC (by decide)) okX6_isThis lkX6_134 rfl (by decide) rfl rfl rfl (Nat.le_of_ble_eq_true rfl) ⟨Nat.le_refl _, Nat.le_refl _⟩ dX6_readsBehind_86 k_) ?_
                refine qP (fun T_ => r_ifN_eq (pc := 89) (tgt := 132) dX6_readsBehind_89 (by decide) (by omega)) (fun c3 => ?_) (fun c3 => ?_)
                · exact absurd c3 (by decide)
                · refine qU (fun T_ k_ => r_aload_n (pc := 92) dX6_readsBehind_92 rfl k_) ?_
                  refine qU (fun T_ k_ => r_getV (pc := 93) (v := nI 0) dX6_readsBehind_93 fX6_154 rfl rfl (G.1.2.2.2.1) k_) ?_
                  refine qP (fun T_ => r_ifN_le (pc := 96) (tgt := 132) dX6_readsBehind_96 (by decide) (by omega)) (fun c4 => ?_) (fun c4 => ?_)
                  · refine qU (fun T_ k_ => r_aload_n (pc := 132) dX6_readsBehind_132 rfl k_) ?_
                    refine qU (fun T_ k_ => r_getV (pc := 133) (v := nI 0) dX6_readsBehind_133 fX6_154 rfl rfl (G.1.2.2.2.1) k_) ?_
                    refine qP (fun T_ => r_ifN_le (pc := 136) (tgt := 145) dX6_readsBehind_136 (by decide) (by omega)) (fun c5 => ?_) (fun c5 => ?_)
                    · refine qU (fun T_ k_ => r_iconst (pc := 145) (v := nI 0) dX6_readsBehind_145 rfl k_) ?_
                      exact ⟨_, ⟨_, rfl, FR, P, G⟩, r_zret dX6_readsBehind_146 rfl (by decide) rfl rfl⟩
                    · exact absurd c5 (by decide)
                  · exact absurd c4 (by decide)
              · exact absurd c2 (by decide)
          · refine qU (fun T_ k_ => r_aload_n (pc := 51) dX6_readsBehind_51 rfl k_) ?_
            refine qU (fun T_ k_ => r_bipush (pc := 52) dX6_readsBehind_52 bp_43 k_) ?_
            refine qU (fun T_ k_ => r_callV (pc := 54) (N := mX6_isThis) (rest := []) (s_isThis_f X _ J L (43) (by decide) tx n t P (fun z => hB ⟨z.1, Or.inl z.2⟩)) okX6_isThis lkX6_134 rfl (by decide) rfl rfl rfl (Nat.le_of_ble_eq_true rfl) ⟨Nat.le_refl _, Nat.le_refl _⟩ dX6_readsBehind_54 k_) ?_
            refine qN (fun T_ => r_ifN_ne (pc := 57) (tgt := 69) dX6_readsBehind_57 (by decide) (by omega)) (fun c1 => ?_) (fun c1 => ?_)
            · exact absurd c1 (by decide)
            · refine qU (fun T_ k_ => r_aload_n (pc := 60) dX6_readsBehind_60 rfl k_) ?_
              refine qU (fun T_ k_ => r_bipush (pc := 61) dX6_readsBehind_61 bp_45 k_) ?_
              refine qU (fun T_ k_ => r_callV (pc := 63) (N := mX6_isThis) (rest := []) (s_isThis_f X _ J L (45) (by decide) tx n t P (fun z => hB ⟨z.1, Or.inr z.2⟩)) okX6_isThis lkX6_134 rfl (by decide) rfl rfl rfl (Nat.le_of_ble_eq_true rfl) ⟨Nat.le_refl _, Nat.le_refl _⟩ dX6_readsBehind_63 k_) ?_
              refine qP (fun T_ => r_ifN_eq (pc := 66) (tgt := 83) dX6_readsBehind_66 (by decide) (by omega)) (fun c2 => ?_) (fun c2 => ?_)
              · refine qU (fun T_ k_ => r_aload_n (pc := 83) dX6_readsBehind_83 rfl k_) ?_
                refine qU (fun T_ k_ => r_bipush (pc := 84) dX6_readsBehind_84 bp_41 k_) ?_
                refine qU (fun T_ k_ => r_callV (pc := 86) (N := mX6_isThis) (rest := []) (s_isThis_f X _ J L (41) (by decide) tx n t P hC) okX6_isThis lkX6_134 rfl (by decide) rfl rfl rfl (Nat.le_of_ble_eq_true rfl) ⟨Nat.le_refl _, Nat.le_refl _⟩ dX6_readsBehind_86 k_) ?_
                refine qP (fun T_ => r_ifN_eq (pc := 89) (tgt := 132) dX6_readsBehind_89 (by decide) (by omega)) (fun c3 => ?_) (fun c3 => ?_)
                · refine qU (fun T_ k_ => r_aload_n (pc := 132) dX6_readsBehind_132 rfl k_) ?_
                  refine qU (fun T_ k_ => r_getV (pc := 133) (v := nI 0) dX6_readsBehind_133 fX6_154 rfl rfl (G.1.2.2.2.1) k_) ?_
                  refine qP (fun T_ => r_ifN_le (pc := 136) (tgt := 145) dX6_readsBehind_136 (by decide) (by omega)) (fun c4 => ?_) (fun c4 => ?_)
                  · refine qU (fun T_ k_ => r_iconst (pc := 145) (v := nI 0) dX6_readsBehind_145 rfl k_) ?_
                    exact ⟨_, ⟨_, rfl, FR, P, G⟩, r_zret dX6_readsBehind_146 rfl (by decide) rfl rfl⟩
                  · exact absurd c4 (by decide)
                · exact absurd c3 (by decide)
              · exact absurd c2 (by decide)
        | cons w w1 =>
          have hw0 : w = 0 := hcl w w1 rfl
          subst hw0
          dsimp only
          have e1 : (0 :: w1).length = w1.length + 1 := rfl
          by_cases hC : tkK tx n t = 1 ∧ tkV tx n t = 41
          · rw [if_pos hC]
            refine qU (fun T_ k_ => r_aload_n (pc := 51) dX6_readsBehind_51 rfl k_) ?_
            refine qU (fun T_ k_ => r_bipush (pc := 52) dX6_readsBehind_52 bp_43 k_) ?_
            refine qU (fun T_ k_ => r_callV (pc := 54) (N := mX6_isThis) (rest := []) (s_isThis_f X _ J L (43) (by decide) tx n t P (fun z => hB ⟨z.1, Or.inl z.2⟩)) okX6_isThis lkX6_134 rfl (by decide) rfl rfl rfl (Nat.le_of_ble_eq_true rfl) ⟨Nat.le_refl _, Nat.le_refl _⟩ dX6_readsBehind_54 k_) ?_
            refine qN (fun T_ => r_ifN_ne (pc := 57) (tgt := 69) dX6_readsBehind_57 (by decide) (by omega)) (fun c1 => ?_) (fun c1 => ?_)
            · exact absurd c1 (by decide)
            · refine qU (fun T_ k_ => r_aload_n (pc := 60) dX6_readsBehind_60 rfl k_) ?_
              refine qU (fun T_ k_ => r_bipush (pc := 61) dX6_readsBehind_61 bp_45 k_) ?_
              refine qU (fun T_ k_ => r_callV (pc := 63) (N := mX6_isThis) (rest := []) (s_isThis_f X _ J L (45) (by decide) tx n t P (fun z => hB ⟨z.1, Or.inr z.2⟩)) okX6_isThis lkX6_134 rfl (by decide) rfl rfl rfl (Nat.le_of_ble_eq_true rfl) ⟨Nat.le_refl _, Nat.le_refl _⟩ dX6_readsBehind_63 k_) ?_
              refine qP (fun T_ => r_ifN_eq (pc := 66) (tgt := 83) dX6_readsBehind_66 (by decide) (by omega)) (fun c2 => ?_) (fun c2 => ?_)
              · refine qU (fun T_ k_ => r_aload_n (pc := 83) dX6_readsBehind_83 rfl k_) ?_
                refine qU (fun T_ k_ => r_bipush (pc := 84) dX6_readsBehind_84 bp_41 k_) ?_
                refine qU (fun T_ k_ => r_callV (pc := 86) (N := mX6_isThis) (rest := []) (s_isThis_t X _ J L (41) tx n t P hC (by decide)) okX6_isThis lkX6_134 rfl (by decide) rfl rfl rfl (Nat.le_of_ble_eq_true rfl) ⟨Nat.le_refl _, Nat.le_refl _⟩ dX6_readsBehind_86 k_) ?_
                refine qP (fun T_ => r_ifN_eq (pc := 89) (tgt := 132) dX6_readsBehind_89 (by decide) (by omega)) (fun c3 => ?_) (fun c3 => ?_)
                · exact absurd c3 (by decide)
                · refine qU (fun T_ k_ => r_aload_n (pc := 92) dX6_readsBehind_92 rfl k_) ?_
                  refine qU (fun T_ k_ => r_getV (pc := 93) (v := nI (w1.length + 1)) dX6_readsBehind_93 fX6_154 rfl rfl (G.1.2.2.2.1) k_) ?_
                  refine qP (fun T_ => r_ifN_le (pc := 96) (tgt := 132) dX6_readsBehind_96 (by decide) (by omega)) (fun c4 => ?_) (fun c4 => ?_)
                  · exact absurd c4 (by omega)
                  · refine qU (fun T_ k_ => r_aload_n (pc := 99) dX6_readsBehind_99 rfl k_) ?_
                    refine qU (fun T_ k_ => r_iconst (pc := 100) (v := nI 1) dX6_readsBehind_100 rfl k_) ?_
                    obtain ⟨T139, ⟨J139, rfl, F139, C139⟩, S139⟩ := s_takes_t X (d + 1) J L tx n t P (41) ((P.2.1.2.2.2 (Or.inl hC.1)).trans (congrArg nI hC.2))
                    have P139 := P.step F139 C139
                    have G139 := G.frm F139
                    have hcls := G139.cls
                    have hop2 := hcls.2
                    refine qU (fun T_ k_ => r_callV (pc := 101) (N := mX6_takes) (rest := []) (S139) okX6_takes lkX6_137 rfl (by decide) rfl rfl rfl (Nat.le_of_ble_eq_true rfl) ⟨Nat.le_refl _, Nat.le_refl _⟩ dX6_readsBehind_101 k_) ?_
                    refine qU (fun T_ k_ => r_pop (pc := 104) dX6_readsBehind_104 rfl k_) ?_
                    refine qU (fun T_ k_ => r_aload_n (pc := 105) dX6_readsBehind_105 rfl k_) ?_
                    refine qU (fun T_ k_ => r_dup (pc := 106) dX6_readsBehind_106 rfl k_) ?_
                    refine qU (fun T_ k_ => r_getV (pc := 107) (v := nI op) dX6_readsBehind_107 fX6_171 rfl rfl (G139.1.2.2.2.2.1) k_) ?_
                    refine qU (fun T_ k_ => r_iconst (pc := 110) (v := nI 1) dX6_readsBehind_110 rfl k_) ?_
                    refine qU (fun T_ k_ => r_isubN (pc := 111) dX6_readsBehind_111 (by omega) k_) ?_
                    refine qU (fun T_ k_ => r_put (pc := 112) .int dX6_readsBehind_112 fX6_171 rfl rfl nf6_33 rfl rfl k_) ?_
                    refine qU (fun T_ k_ => r_aload_n (pc := 115) dX6_readsBehind_115 rfl k_) ?_
                    refine qU (fun T_ k_ => r_dup (pc := 116) dX6_readsBehind_116 rfl k_) ?_
                    refine qU (fun T_ k_ => r_getV (pc := 117) (v := nI (w1.length + 1)) dX6_readsBehind_117 fX6_154 rfl rfl (G139.1.2.2.2.1) k_) ?_
                    refine qU (fun T_ k_ => r_iconst (pc := 120) (v := nI 1) dX6_readsBehind_120 rfl k_) ?_
                    refine qU (fun T_ k_ => r_isubN (pc := 121) dX6_readsBehind_121 (by omega) k_) ?_
                    refine qU (fun T_ k_ => r_put (pc := 122) .int dX6_readsBehind_122 fX6_154 rfl rfl nf6_32 rfl rfl k_) ?_
                    refine qU (fun T_ k_ => r_aload_n (pc := 125) dX6_readsBehind_125 rfl k_) ?_
                    have P140 : PM (u2 (u2 J139 42 33 (nI (op - 1))) 42 32 (nI w1.length)) tx n (t + 1) := P139.frk (((FRk.refl F _).put 33 _ (by decide)).put 32 _ (by decide))
                    obtain ⟨T140, Q140, S140⟩ := s_partDone X d (u2 (u2 J139 42 33 (nI (op - 1))) 42 32 (nI w1.length)) L tx n F (t + 1) c (op - 1) l1 j1 p1 w1 P140 hcls.1
                    cases R140 : pdR (tkK tx n) (tkV tx n) (t + 1) c l1 j1 p1 w1
                    · rename_i u140
                      rw [R140] at Q140
                      obtain ⟨J140, rfl, F140, C140⟩ := Q140
                      refine qU (fun T_ k_ => r_callV (pc := 126) (N := mX6_partDone) (rest := []) (S140) okX6_partDone lkX6_181 rfl (by decide) rfl rfl rfl (Nat.le_of_ble_eq_true rfl) ⟨Nat.le_refl _, Nat.le_refl _⟩ dX6_readsBehind_126 k_) ?_
                      refine qU (fun T_ k_ => r_goto (pc := 129) (tgt := 145) dX6_readsBehind_129 (by decide) k_) ?_
                      refine qU (fun T_ k_ => r_iconst (pc := 145) (v := nI 0) dX6_readsBehind_145 rfl k_) ?_
                      exact ⟨_, ⟨0, _, rfl, by decide, ((((FR).trans F139.q).trans (((FRk.refl F _).put 33 _ (by decide)).put 32 _ (by decide)).q)).trans F140, C140⟩, r_zret dX6_readsBehind_146 rfl (by decide) rfl rfl⟩
                    · rename_i v140
                      obtain ⟨u140, c140, a140⟩ := v140
                      rw [R140] at Q140
                      obtain ⟨J140, rfl, F140, P2140, G140⟩ := Q140
                      refine qU (fun T_ k_ => r_callV (pc := 126) (N := mX6_partDone) (rest := []) (S140) okX6_partDone lkX6_181 rfl (by decide) rfl rfl rfl (Nat.le_of_ble_eq_true rfl) ⟨Nat.le_refl _, Nat.le_refl _⟩ dX6_readsBehind_126 k_) ?_
                      refine qU (fun T_ k_ => r_goto (pc := 129) (tgt := 145) dX6_readsBehind_129 (by decide) k_) ?_
                      refine qU (fun T_ k_ => r_iconst (pc := 145) (v := nI 0) dX6_readsBehind_145 rfl k_) ?_
                      exact ⟨_, ⟨_, rfl, ((((FR).trans F139.q).trans (((FRk.refl F _).put 33 _ (by decide)).put 32 _ (by decide)).q)).trans F140, P2140, G140⟩, r_zret dX6_readsBehind_146 rfl (by decide) rfl rfl⟩
              · exact absurd c2 (by decide)
          · rw [if_neg hC]
            refine qU (fun T_ k_ => r_aload_n (pc := 51) dX6_readsBehind_51 rfl k_) ?_
            refine qU (fun T_ k_ => r_bipush (pc := 52) dX6_readsBehind_52 bp_43 k_) ?_
            refine qU (fun T_ k_ => r_callV (pc := 54) (N := mX6_isThis) (rest := []) (s_isThis_f X _ J L (43) (by decide) tx n t P (fun z => hB ⟨z.1, Or.inl z.2⟩)) okX6_isThis lkX6_134 rfl (by decide) rfl rfl rfl (Nat.le_of_ble_eq_true rfl) ⟨Nat.le_refl _, Nat.le_refl _⟩ dX6_readsBehind_54 k_) ?_
            refine qN (fun T_ => r_ifN_ne (pc := 57) (tgt := 69) dX6_readsBehind_57 (by decide) (by omega)) (fun c1 => ?_) (fun c1 => ?_)
            · exact absurd c1 (by decide)
            · refine qU (fun T_ k_ => r_aload_n (pc := 60) dX6_readsBehind_60 rfl k_) ?_
              refine qU (fun T_ k_ => r_bipush (pc := 61) dX6_readsBehind_61 bp_45 k_) ?_
              refine qU (fun T_ k_ => r_callV (pc := 63) (N := mX6_isThis) (rest := []) (s_isThis_f X _ J L (45) (by decide) tx n t P (fun z => hB ⟨z.1, Or.inr z.2⟩)) okX6_isThis lkX6_134 rfl (by decide) rfl rfl rfl (Nat.le_of_ble_eq_true rfl) ⟨Nat.le_refl _, Nat.le_refl _⟩ dX6_readsBehind_63 k_) ?_
              refine qP (fun T_ => r_ifN_eq (pc := 66) (tgt := 83) dX6_readsBehind_66 (by decide) (by omega)) (fun c2 => ?_) (fun c2 => ?_)
              · refine qU (fun T_ k_ => r_aload_n (pc := 83) dX6_readsBehind_83 rfl k_) ?_
                refine qU (fun T_ k_ => r_bipush (pc := 84) dX6_readsBehind_84 bp_41 k_) ?_
                refine qU (fun T_ k_ => r_callV (pc := 86) (N := mX6_isThis) (rest := []) (s_isThis_f X _ J L (41) (by decide) tx n t P hC) okX6_isThis lkX6_134 rfl (by decide) rfl rfl rfl (Nat.le_of_ble_eq_true rfl) ⟨Nat.le_refl _, Nat.le_refl _⟩ dX6_readsBehind_86 k_) ?_
                refine qP (fun T_ => r_ifN_eq (pc := 89) (tgt := 132) dX6_readsBehind_89 (by decide) (by omega)) (fun c3 => ?_) (fun c3 => ?_)
                · refine qU (fun T_ k_ => r_aload_n (pc := 132) dX6_readsBehind_132 rfl k_) ?_
                  refine qU (fun T_ k_ => r_getV (pc := 133) (v := nI (w1.length + 1)) dX6_readsBehind_133 fX6_154 rfl rfl (G.1.2.2.2.1) k_) ?_
                  refine qP (fun T_ => r_ifN_le (pc := 136) (tgt := 145) dX6_readsBehind_136 (by decide) (by omega)) (fun c4 => ?_) (fun c4 => ?_)
                  · exact absurd c4 (by omega)
                  · refine qU (fun T_ k_ => r_aload_n (pc := 139) dX6_readsBehind_139 rfl k_) ?_
                    refine qU (fun T_ k_ => r_iconst (pc := 140) (v := nI 0) dX6_readsBehind_140 rfl k_) ?_
                    refine qU (fun T_ k_ => r_callV (pc := 141) (N := mX6_takes) (rest := []) (s_takes_f X _ J L tx n t P) okX6_takes lkX6_137 rfl (by decide) rfl rfl rfl (Nat.le_of_ble_eq_true rfl) ⟨Nat.le_refl _, Nat.le_refl _⟩ dX6_readsBehind_141 k_) ?_
                    refine qU (fun T_ k_ => r_pop (pc := 144) dX6_readsBehind_144 rfl k_) ?_
                    refine qU (fun T_ k_ => r_iconst (pc := 145) (v := nI 0) dX6_readsBehind_145 rfl k_) ?_
                    exact ⟨_, ⟨0, _, rfl, by decide, (FR).put 7 _ (by decide), rfl⟩, r_zret dX6_readsBehind_146 rfl (by decide) rfl rfl⟩
                · exact absurd c3 (by decide)
              · exact absurd c2 (by decide)
    · exact absurd c1 (by decide)
