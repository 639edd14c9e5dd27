/-- the reference reads well, token t at hand -/
def PM (J : MI) (tx : Nat → Nat) (n t : Nat) : Prop := TXm J tx n ∧ CRm J tx n t ∧ J 42 7 = -1
theorem PM.step {I J : MI} {tx : Nat → Nat} {n t u : Nat} (h : PM I tx n t) (hF : FRm I J) (hC : CRm J tx n u) : PM J tx n u := ⟨h.1.fr hF, hC, (hF 42 7 (by decide)).trans h.2.2⟩
theorem tm_bd {I : MI} {tx : Nat → Nat} {n : Nat} (h : TXm I tx n) (t : Nat) : tkK tx n t ≤ 3 ∧ tkV tx n t < 256 ∧ (tkK tx n t = 2 → tkV tx n t ≤ 99) := tok_bd (fun j hj => (h.2.2 j hj).2) (bps_le tx n t)
theorem kdM_le {k v : Nat} (h : k ≤ 3) : kdM k v ≤ 3 := by
  unfold kdM
  split
  · split <;> decide
  · exact h
theorem kdM_1 {k v : Nat} (h : kdM k v = 1) : k = 1 ∧ isSg v := by
  unfold kdM at h
  split at h
  · split at h
    · exact ⟨by assumption, by assumption⟩
    · exact absurd h (by decide)
  · exact absurd h (by assumption)
theorem kdM_1i {k v : Nat} (h : k = 1) (hs : isSg v) : kdM k v = 1 := by
  unfold kdM
  rw [if_pos h, if_pos hs]
theorem kdM_2 {k v : Nat} : kdM k v = 2 ↔ k = 2 := by
  unfold kdM
  split
  · split <;> omega
  · exact Iff.rfl
theorem kdM_0 {k v : Nat} : kdM k v = 0 ↔ k = 0 := by
  unfold kdM
  split
  · split <;> omega
  · exact Iff.rfl
theorem s_takes_n (X : Ctx) (d : Nat) (I : MI) (L : ML) (b : Int32) (p : Nat) (h7 : I 42 7 = nI p) (hp : p ≤ 100) : Sp X mX6_takes (d + 1) (0, 0) [.ref 42, .int (b)] shF I L (some (.int (nI 0)), shF, I, L) := by
  refine Sp.of okX6_takes [.ref 42, .int (b), .null] 1 rfl (Nat.le_of_ble_eq_true rfl) ?_
  refine r_aload_n (pc := 0) dX6_takes_0 rfl ?_
  refine r_callV (pc := 1) (N := mX6_isWell) (rest := []) (s_isWell_f X _ I L p (h7) hp) okX6_isWell lkX6_127 rfl (by decide) rfl rfl rfl (Nat.le_of_ble_eq_true rfl) ⟨Nat.le_refl _, Nat.le_refl _⟩ dX6_takes_1 ?_
  refine r_ifN_ne (pc := 4) (tgt := 9) dX6_takes_4 (by decide) (by omega) (fun c1 => ?_) (fun c1 => ?_)
  · exact absurd c1 (by decide)
  · refine r_iconst (pc := 7) (v := nI 0) dX6_takes_7 rfl ?_
    exact r_iret dX6_takes_8 rfl (rfl) rfl
theorem s_takes_f (X : Ctx) (d : Nat) (I : MI) (L : ML) (tx : Nat → Nat) (n t : Nat) (h : PM I tx n t) : Sp X mX6_takes (d + 1) (0, 0) [.ref 42, .int (nI 0)] shF I L (some (.int (nI 0)), shF, (u2 I 42 7 (nI (tkP tx n t))), L) := by
  refine Sp.of okX6_takes [.ref 42, .int (nI 0), .null] 1 rfl (Nat.le_of_ble_eq_true rfl) ?_
  refine r_aload_n (pc := 0) dX6_takes_0 rfl ?_
  refine r_callV (pc := 1) (N := mX6_isWell) (rest := []) (s_isWell_t X _ I L (h.2.2)) okX6_isWell lkX6_127 rfl (by decide) rfl rfl rfl (Nat.le_of_ble_eq_true rfl) ⟨Nat.le_refl _, Nat.le_refl _⟩ dX6_takes_1 ?_
  refine r_ifN_ne (pc := 4) (tgt := 9) dX6_takes_4 (by decide) (by omega) (fun c1 => ?_) (fun c1 => ?_)
  · refine r_iload_n (pc := 9) dX6_takes_9 rfl ?_
    refine r_ifN_ne (pc := 10) (tgt := 23) dX6_takes_10 (by decide) (by omega) (fun c2 => ?_) (fun c2 => ?_)
    · exact absurd c2 (by decide)
    · refine r_aload_n (pc := 13) dX6_takes_13 rfl ?_
      refine r_aload_n (pc := 14) dX6_takes_14 rfl ?_
      refine r_getV (pc := 15) (v := nI (tkP tx n t)) dX6_takes_15 fX6_111 rfl rfl (h.2.1.1) ?_
      refine r_put (pc := 18) .int dX6_takes_18 fX6_124 rfl rfl nf6_7 rfl rfl ?_
      refine r_iconst (pc := 21) (v := nI 0) dX6_takes_21 rfl ?_
      exact r_iret dX6_takes_22 rfl (rfl) rfl
  · exact absurd c1 (by decide)
theorem s_takes_t (X : Ctx) (d : Nat) (I : MI) (L : ML) (tx : Nat → Nat) (n t : Nat) (h : PM I tx n t) (v : Nat) (h6 : I 42 6 = nI v) : ∃ T, (fun T => ∃ J, T = (some (.int (nI v)), shF, J, L) ∧ FRm I J ∧ CRm J tx n (t + 1)) T ∧ Sp X mX6_takes (d + 3) (0, 0) [.ref 42, .int (nI 1)] shF I L T := by
  refine qU (fun T_ k_ => Sp.of okX6_takes [.ref 42, .int (nI 1), .null] 1 rfl (Nat.le_of_ble_eq_true rfl) k_) ?_
  refine qU (fun T_ k_ => r_aload_n (pc := 0) dX6_takes_0 rfl k_) ?_
  refine qU (fun T_ k_ => r_callV (pc := 1) (N := mX6_isWell) (rest := []) (s_isWell_t X _ I L (h.2.2)) okX6_isWell lkX6_127 rfl (by decide) rfl rfl rfl (Nat.le_of_ble_eq_true rfl) ⟨Nat.le_refl _, Nat.le_refl _⟩ dX6_takes_1 k_) ?_
  refine qN (fun T_ => r_ifN_ne (pc := 4) (tgt := 9) dX6_takes_4 (by decide) (by omega)) (fun c1 => ?_) (fun c1 => ?_)
  · refine qU (fun T_ k_ => r_iload_n (pc := 9) dX6_takes_9 rfl k_) ?_
    refine qN (fun T_ => r_ifN_ne (pc := 10) (tgt := 23) dX6_takes_10 (by decide) (by omega)) (fun c2 => ?_) (fun c2 => ?_)
    · refine qU (fun T_ k_ => r_aload_n (pc := 23) dX6_takes_23 rfl k_) ?_
      refine qU (fun T_ k_ => r_getV (pc := 24) (v := nI v) dX6_takes_24 fX6_117 rfl rfl (h6) k_) ?_
      refine qU (fun T_ k_ => r_istore_n (pc := 27) (lo1 := [.ref 42, .int (nI 1), .int (nI v)]) dX6_takes_27 rfl (by decide) rfl k_) ?_
      refine qU (fun T_ k_ => r_aload_n (pc := 28) dX6_takes_28 rfl k_) ?_
      obtain ⟨T1, ⟨J1, rfl, F1, C1⟩, S1⟩ := s_advances X d I L tx n (t + 1) h.1 h.2.1.2.1
      refine qU (fun T_ k_ => r_callV (pc := 29) (N := mX6_advances) (rest := []) (S1) okX6_advances lkX6_131 rfl (by decide) rfl rfl rfl (Nat.le_of_ble_eq_true rfl) ⟨Nat.le_refl _, Nat.le_refl _⟩ dX6_takes_29 k_) ?_
      refine qU (fun T_ k_ => r_iload_n (pc := 32) dX6_takes_32 rfl k_) ?_
      exact ⟨_, ⟨_, rfl, F1, C1⟩, r_iret dX6_takes_33 rfl rfl rfl⟩
    · exact absurd c2 (by decide)
  · exact absurd c1 (by decide)
theorem s_isThis_n (X : Ctx) (d : Nat) (I : MI) (L : ML) (c : Nat) (p : Nat) (h7 : I 42 7 = nI p) (hp : p ≤ 100) : Sp X mX6_isThis (d + 1) (0, 0) [.ref 42, .int (nI c)] shF I L (some (.int (nI 0)), shF, I, L) := by
  refine Sp.of okX6_isThis [.ref 42, .int (nI c)] 0 rfl (Nat.le_of_ble_eq_true rfl) ?_
  refine r_aload_n (pc := 0) dX6_isThis_0 rfl ?_
  refine r_callV (pc := 1) (N := mX6_isWell) (rest := []) (s_isWell_f X _ I L p (h7) hp) okX6_isWell lkX6_127 rfl (by decide) rfl rfl rfl (Nat.le_of_ble_eq_true rfl) ⟨Nat.le_refl _, Nat.le_refl _⟩ dX6_isThis_1 ?_
  refine r_ifN_eq (pc := 4) (tgt := 27) dX6_isThis_4 (by decide) (by omega) (fun c1 => ?_) (fun c1 => ?_)
  · refine r_iconst (pc := 27) (v := nI 0) dX6_isThis_27 rfl ?_
    exact r_zret dX6_isThis_28 rfl (by decide) (rfl) rfl
  · exact absurd c1 (by decide)
theorem s_isThis_t (X : Ctx) (d : Nat) (I : MI) (L : ML) (c : Nat) (tx : Nat → Nat) (n t : Nat) (h : PM I tx n t) (hk : tkK tx n t = 1 ∧ tkV tx n t = c) (hs : isSg c) : Sp X mX6_isThis (d + 1) (0, 0) [.ref 42, .int (nI c)] shF I L (some (.int (nI 1)), shF, I, L) := by
  have bd := tm_bd h.1 t
  have hd := kdM_le (v := tkV tx n t) bd.1
  have hc : c < 256 := hk.2 ▸ bd.2.1
  refine Sp.of okX6_isThis [.ref 42, .int (nI c)] 0 rfl (Nat.le_of_ble_eq_true rfl) ?_
  refine r_aload_n (pc := 0) dX6_isThis_0 rfl ?_
  refine r_callV (pc := 1) (N := mX6_isWell) (rest := []) (s_isWell_t X _ I L (h.2.2)) okX6_isWell lkX6_127 rfl (by decide) rfl rfl rfl (Nat.le_of_ble_eq_true rfl) ⟨Nat.le_refl _, Nat.le_refl _⟩ dX6_isThis_1 ?_
  refine r_ifN_eq (pc := 4) (tgt := 27) dX6_isThis_4 (by decide) (by omega) (fun c1 => ?_) (fun c1 => ?_)
  · exact absurd c1 (by decide)
  · refine r_aload_n (pc := 7) dX6_isThis_7 rfl ?_
    refine r_getV (pc := 8) (v := nI 1) dX6_isThis_8 fX6_114 rfl rfl ((h.2.1.2.2.1.trans (congrArg nI (kdM_1i hk.1 (hk.2 ▸ hs))))) ?_
    refine r_iconst (pc := 11) (v := nI 1) dX6_isThis_11 rfl ?_
    refine r_icmpN_ne (pc := 12) (tgt := 27) dX6_isThis_12 (by decide) (by omega) (by omega) (fun c2 => ?_) (fun c2 => ?_)
    · exact absurd c2 (by decide)
    · refine r_aload_n (pc := 15) dX6_isThis_15 rfl ?_
      refine r_getV (pc := 16) (v := nI c) dX6_isThis_16 fX6_117 rfl rfl ((h.2.1.2.2.2 (Or.inl hk.1)).trans (congrArg nI hk.2)) ?_
      refine r_iload_n (pc := 19) dX6_isThis_19 rfl ?_
      refine r_icmpN_ne (pc := 20) (tgt := 27) dX6_isThis_20 (by decide) (by omega) (by omega) (fun c3 => ?_) (fun c3 => ?_)
      · exact absurd rfl c3
      · refine r_iconst (pc := 23) (v := nI 1) dX6_isThis_23 rfl ?_
        refine r_goto (pc := 24) (tgt := 28) dX6_isThis_24 (by decide) ?_
        exact r_zret dX6_isThis_28 rfl (by decide) (rfl) rfl
theorem s_isThis_f (X : Ctx) (d : Nat) (I : MI) (L : ML) (c : Nat) (hc : c < 256) (tx : Nat → Nat) (n t : Nat) (h : PM I tx n t) (hk : ¬ (tkK tx n t = 1 ∧ tkV tx n t = c)) : Sp X mX6_isThis (d + 1) (0, 0) [.ref 42, .int (nI c)] shF I L (some (.int (nI 0)), shF, I, L) := by
  have bd := tm_bd h.1 t
  have hd := kdM_le (v := tkV tx n t) bd.1
  refine Sp.of okX6_isThis [.ref 42, .int (nI c)] 0 rfl (Nat.le_of_ble_eq_true rfl) ?_
  refine r_aload_n (pc := 0) dX6_isThis_0 rfl ?_
  refine r_callV (pc := 1) (N := mX6_isWell) (rest := []) (s_isWell_t X _ I L (h.2.2)) okX6_isWell lkX6_127 rfl (by decide) rfl rfl rfl (Nat.le_of_ble_eq_true rfl) ⟨Nat.le_refl _, Nat.le_refl _⟩ dX6_isThis_1 ?_
  refine r_ifN_eq (pc := 4) (tgt := 27) dX6_isThis_4 (by decide) (by omega) (fun c1 => ?_) (fun c1 => ?_)
  · exact absurd c1 (by decide)
  · refine r_aload_n (pc := 7) dX6_isThis_7 rfl ?_
    refine r_getV (pc := 8) (v := nI (kdM (tkK tx n t) (tkV tx n t))) dX6_isThis_8 fX6_114 rfl rfl (h.2.1.2.2.1) ?_
    refine r_iconst (pc := 11) (v := nI 1) dX6_isThis_11 rfl ?_
    refine r_icmpN_ne (pc := 12) (tgt := 27) dX6_isThis_12 (by decide) (by omega) (by omega) (fun c2 => ?_) (fun c2 => ?_)
    · refine r_iconst (pc := 27) (v := nI 0) dX6_isThis_27 rfl ?_
      exact r_zret dX6_isThis_28 rfl (by decide) (rfl) rfl
    · refine r_aload_n (pc := 15) dX6_isThis_15 rfl ?_
      refine r_get (pc := 16) dX6_isThis_16 fX6_117 rfl rfl ?_
      refine r_iload_n (pc := 19) dX6_isThis_19 rfl ?_
      refine r_icmp_ne (pc := 20) (tgt := 27) dX6_isThis_20 (by decide) (fun c3 => ?_) (fun c3 => ?_)
      · refine r_iconst (pc := 27) (v := nI 0) dX6_isThis_27 rfl ?_
        exact r_zret dX6_isThis_28 rfl (by decide) (rfl) rfl
      · exact absurd ⟨(kdM_1 (c2)).1, (nI_eq (by omega) (by omega)).mp ((h.2.1.2.2.2 (Or.inl (kdM_1 (c2)).1)).symm.trans c3)⟩ hk
theorem s_isSourceSign_n (X : Ctx) (d : Nat) (I : MI) (L : ML) (p : Nat) (h7 : I 42 7 = nI p) (hp : p ≤ 100) : Sp X mX6_isSourceSign (d + 1) (0, 0) [.ref 42] shF I L (some (.int (nI 0)), shF, I, L) := by
  refine Sp.of okX6_isSourceSign [.ref 42] 0 rfl (Nat.le_of_ble_eq_true rfl) ?_
  refine r_aload_n (pc := 0) dX6_isSourceSign_0 rfl ?_
  refine r_callV (pc := 1) (N := mX6_isWell) (rest := []) (s_isWell_f X _ I L p (h7) hp) okX6_isWell lkX6_127 rfl (by decide) rfl rfl rfl (Nat.le_of_ble_eq_true rfl) ⟨Nat.le_refl _, Nat.le_refl _⟩ dX6_isSourceSign_1 ?_
  refine r_ifN_eq (pc := 4) (tgt := 33) dX6_isSourceSign_4 (by decide) (by omega) (fun c1 => ?_) (fun c1 => ?_)
  · refine r_iconst (pc := 33) (v := nI 0) dX6_isSourceSign_33 rfl ?_
    exact r_zret dX6_isSourceSign_34 rfl (by decide) (rfl) rfl
  · exact absurd c1 (by decide)
theorem s_isSourceSign_t (X : Ctx) (d : Nat) (I : MI) (L : ML) (tx : Nat → Nat) (n t : Nat) (h : PM I tx n t) (hk : tkK tx n t = 1 ∧ 97 ≤ tkV tx n t ∧ tkV tx n t ≤ 102) : Sp X mX6_isSourceSign (d + 1) (0, 0) [.ref 42] shF I L (some (.int (nI 1)), shF, I, L) := by
  have bd := tm_bd h.1 t
  have hd := kdM_le (v := tkV tx n t) bd.1
  have hk2 := hk.2
  refine Sp.of okX6_isSourceSign [.ref 42] 0 rfl (Nat.le_of_ble_eq_true rfl) ?_
  refine r_aload_n (pc := 0) dX6_isSourceSign_0 rfl ?_
  refine r_callV (pc := 1) (N := mX6_isWell) (rest := []) (s_isWell_t X _ I L (h.2.2)) okX6_isWell lkX6_127 rfl (by decide) rfl rfl rfl (Nat.le_of_ble_eq_true rfl) ⟨Nat.le_refl _, Nat.le_refl _⟩ dX6_isSourceSign_1 ?_
  refine r_ifN_eq (pc := 4) (tgt := 33) dX6_isSourceSign_4 (by decide) (by omega) (fun c1 => ?_) (fun c1 => ?_)
  · exact absurd c1 (by decide)
  · refine r_aload_n (pc := 7) dX6_isSourceSign_7 rfl ?_
    refine r_getV (pc := 8) (v := nI 1) dX6_isSourceSign_8 fX6_114 rfl rfl ((h.2.1.2.2.1.trans (congrArg nI (kdM_1i hk.1 (Or.inr (Or.inr (Or.inr (Or.inl hk.2)))))))) ?_
    refine r_iconst (pc := 11) (v := nI 1) dX6_isSourceSign_11 rfl ?_
    refine r_icmpN_ne (pc := 12) (tgt := 33) dX6_isSourceSign_12 (by decide) (by omega) (by omega) (fun c2 => ?_) (fun c2 => ?_)
    · exact absurd c2 (by decide)
    · refine r_aload_n (pc := 15) dX6_isSourceSign_15 rfl ?_
      refine r_getV (pc := 16) (v := nI (tkV tx n t)) dX6_isSourceSign_16 fX6_117 rfl rfl ((h.2.1.2.2.2 (Or.inl hk.1))) ?_
      refine r_bipush (pc := 19) dX6_isSourceSign_19 bp_97 ?_
      refine r_bipush (pc := 21) dX6_isSourceSign_21 bp_102 ?_
      refine r_callS (pc := 23) (N := mX6_in) (rest := []) (s_in_t X _ I L (nI (tkV tx n t)) (nI 97) (nI 102) (nI_nlt (by omega) (by omega)) (nI_nlt (by omega) (by omega))) okX6_in lkX6_97 rfl rfl (Nat.le_of_ble_eq_true rfl) ⟨Nat.le_refl _, Nat.le_refl _⟩ dX6_isSourceSign_23 ?_
      refine r_ifN_eq (pc := 26) (tgt := 33) dX6_isSourceSign_26 (by decide) (by omega) (fun c3 => ?_) (fun c3 => ?_)
      · exact absurd c3 (by decide)
      · refine r_iconst (pc := 29) (v := nI 1) dX6_isSourceSign_29 rfl ?_
        refine r_goto (pc := 30) (tgt := 34) dX6_isSourceSign_30 (by decide) ?_
        exact r_zret dX6_isSourceSign_34 rfl (by decide) (rfl) rfl
theorem s_isSourceSign_f (X : Ctx) (d : Nat) (I : MI) (L : ML) (tx : Nat → Nat) (n t : Nat) (h : PM I tx n t) (hk : ¬ (tkK tx n t = 1 ∧ 97 ≤ tkV tx n t ∧ tkV tx n t ≤ 102)) : Sp X mX6_isSourceSign (d + 1) (0, 0) [.ref 42] shF I L (some (.int (nI 0)), shF, I, L) := by
  have bd := tm_bd h.1 t
  have hd := kdM_le (v := tkV tx n t) bd.1
  refine Sp.of okX6_isSourceSign [.ref 42] 0 rfl (Nat.le_of_ble_eq_true rfl) ?_
  refine r_aload_n (pc := 0) dX6_isSourceSign_0 rfl ?_
  refine r_callV (pc := 1) (N := mX6_isWell) (rest := []) (s_isWell_t X _ I L (h.2.2)) okX6_isWell lkX6_127 rfl (by decide) rfl rfl rfl (Nat.le_of_ble_eq_true rfl) ⟨Nat.le_refl _, Nat.le_refl _⟩ dX6_isSourceSign_1 ?_
  refine r_ifN_eq (pc := 4) (tgt := 33) dX6_isSourceSign_4 (by decide) (by omega) (fun c1 => ?_) (fun c1 => ?_)
  · exact absurd c1 (by decide)
  · refine r_aload_n (pc := 7) dX6_isSourceSign_7 rfl ?_
    refine r_getV (pc := 8) (v := nI (kdM (tkK tx n t) (tkV tx n t))) dX6_isSourceSign_8 fX6_114 rfl rfl (h.2.1.2.2.1) ?_
    refine r_iconst (pc := 11) (v := nI 1) dX6_isSourceSign_11 rfl ?_
    refine r_icmpN_ne (pc := 12) (tgt := 33) dX6_isSourceSign_12 (by decide) (by omega) (by omega) (fun c2 => ?_) (fun c2 => ?_)
    · refine r_iconst (pc := 33) (v := nI 0) dX6_isSourceSign_33 rfl ?_
      exact r_zret dX6_isSourceSign_34 rfl (by decide) (rfl) rfl
    · refine r_aload_n (pc := 15) dX6_isSourceSign_15 rfl ?_
      refine r_get (pc := 16) dX6_isSourceSign_16 fX6_117 rfl rfl ?_
      refine r_bipush (pc := 19) dX6_isSourceSign_19 bp_97 ?_
      refine r_bipush (pc := 21) dX6_isSourceSign_21 bp_102 ?_
      have k1 := kdM_1 c2
      rw [h.2.1.2.2.2 (Or.inl k1.1)]
      refine r_callS (pc := 23) (N := mX6_in) (rest := []) (s_in_f X _ I L (nI (tkV tx n t)) (nI 97) (nI 102) ((Nat.lt_or_ge (tkV tx n t) 97).elim (fun z => Or.inl (nI_lt2 (by omega) (by omega) z)) (fun z => Or.inr (nI_lt2 (by omega) (by omega) (by omega))))) okX6_in lkX6_97 rfl rfl (Nat.le_of_ble_eq_true rfl) ⟨Nat.le_refl _, Nat.le_refl _⟩ dX6_isSourceSign_23 ?_
      refine r_ifN_eq (pc := 26) (tgt := 33) dX6_isSourceSign_26 (by decide) (by omega) (fun c3 => ?_) (fun c3 => ?_)
      · refine r_iconst (pc := 33) (v := nI 0) dX6_isSourceSign_33 rfl ?_
        exact r_zret dX6_isSourceSign_34 rfl (by decide) (rfl) rfl
      · exact absurd c3 (by decide)
theorem s_isNumber_n (X : Ctx) (d : Nat) (I : MI) (L : ML) (a b : Int32) (p : Nat) (h7 : I 42 7 = nI p) (hp : p ≤ 100) : Sp X mX6_isNumber (d + 1) (0, 0) [.ref 42, .int (a), .int (b)] shF I L (some (.int (nI 0)), shF, I, L) := by
  refine Sp.of okX6_isNumber [.ref 42, .int (a), .int (b)] 0 rfl (Nat.le_of_ble_eq_true rfl) ?_
  refine r_aload_n (pc := 0) dX6_isNumber_0 rfl ?_
  refine r_callV (pc := 1) (N := mX6_isWell) (rest := []) (s_isWell_f X _ I L p (h7) hp) okX6_isWell lkX6_127 rfl (by decide) rfl rfl rfl (Nat.le_of_ble_eq_true rfl) ⟨Nat.le_refl _, Nat.le_refl _⟩ dX6_isNumber_1 ?_
  refine r_ifN_eq (pc := 4) (tgt := 31) dX6_isNumber_4 (by decide) (by omega) (fun c1 => ?_) (fun c1 => ?_)
  · refine r_iconst (pc := 31) (v := nI 0) dX6_isNumber_31 rfl ?_
    exact r_zret dX6_isNumber_32 rfl (by decide) (rfl) rfl
  · exact absurd c1 (by decide)
theorem s_isNumber_t (X : Ctx) (d : Nat) (I : MI) (L : ML) (a b : Nat) (hb : b < 256) (tx : Nat → Nat) (n t : Nat) (h : PM I tx n t) (hk : tkK tx n t = 2) (h1 : a ≤ tkV tx n t) (h2 : tkV tx n t ≤ b) : Sp X mX6_isNumber (d + 1) (0, 0) [.ref 42, .int (nI a), .int (nI b)] shF I L (some (.int (nI 1)), shF, I, L) := by
  have bd := tm_bd h.1 t
  have hd := kdM_le (v := tkV tx n t) bd.1
  refine Sp.of okX6_isNumber [.ref 42, .int (nI a), .int (nI b)] 0 rfl (Nat.le_of_ble_eq_true rfl) ?_
  refine r_aload_n (pc := 0) dX6_isNumber_0 rfl ?_
  refine r_callV (pc := 1) (N := mX6_isWell) (rest := []) (s_isWell_t X _ I L (h.2.2)) okX6_isWell lkX6_127 rfl (by decide) rfl rfl rfl (Nat.le_of_ble_eq_true rfl) ⟨Nat.le_refl _, Nat.le_refl _⟩ dX6_isNumber_1 ?_
  refine r_ifN_eq (pc := 4) (tgt := 31) dX6_isNumber_4 (by decide) (by omega) (fun c1 => ?_) (fun c1 => ?_)
  · exact absurd c1 (by decide)
  · refine r_aload_n (pc := 7) dX6_isNumber_7 rfl ?_
    refine r_getV (pc := 8) (v := nI 2) dX6_isNumber_8 fX6_114 rfl rfl ((h.2.1.2.2.1.trans (congrArg nI (kdM_2.mpr hk)))) ?_
    refine r_iconst (pc := 11) (v := nI 2) dX6_isNumber_11 rfl ?_
    refine r_icmpN_ne (pc := 12) (tgt := 31) dX6_isNumber_12 (by decide) (by omega) (by omega) (fun c2 => ?_) (fun c2 => ?_)
    · exact absurd c2 (by decide)
    · refine r_aload_n (pc := 15) dX6_isNumber_15 rfl ?_
      refine r_getV (pc := 16) (v := nI (tkV tx n t)) dX6_isNumber_16 fX6_117 rfl rfl ((h.2.1.2.2.2 (Or.inr hk))) ?_
      refine r_iload_n (pc := 19) dX6_isNumber_19 rfl ?_
      refine r_iload_n (pc := 20) dX6_isNumber_20 rfl ?_
      refine r_callS (pc := 21) (N := mX6_in) (rest := []) (s_in_t X _ I L (nI (tkV tx n t)) (nI a) (nI b) (nI_nlt (by omega) (by omega)) (nI_nlt (by omega) (by omega))) okX6_in lkX6_97 rfl rfl (Nat.le_of_ble_eq_true rfl) ⟨Nat.le_refl _, Nat.le_refl _⟩ dX6_isNumber_21 ?_
      refine r_ifN_eq (pc := 24) (tgt := 31) dX6_isNumber_24 (by decide) (by omega) (fun c3 => ?_) (fun c3 => ?_)
      · exact absurd c3 (by decide)
      · refine r_iconst (pc := 27) (v := nI 1) dX6_isNumber_27 rfl ?_
        refine r_goto (pc := 28) (tgt := 32) dX6_isNumber_28 (by decide) ?_
        exact r_zret dX6_isNumber_32 rfl (by decide) (rfl) rfl
theorem s_isNumber_f (X : Ctx) (d : Nat) (I : MI) (L : ML) (b : Int32) (tx : Nat → Nat) (n t : Nat) (h : PM I tx n t) (hk : tkK tx n t = 2 → b < nI (tkV tx n t)) : Sp X mX6_isNumber (d + 1) (0, 0) [.ref 42, .int (nI 0), .int (b)] shF I L (some (.int (nI 0)), shF, I, L) := by
  have bd := tm_bd h.1 t
  have hd := kdM_le (v := tkV tx n t) bd.1
  refine Sp.of okX6_isNumber [.ref 42, .int (nI 0), .int (b)] 0 rfl (Nat.le_of_ble_eq_true rfl) ?_
  refine r_aload_n (pc := 0) dX6_isNumber_0 rfl ?_
  refine r_callV (pc := 1) (N := mX6_isWell) (rest := []) (s_isWell_t X _ I L (h.2.2)) okX6_isWell lkX6_127 rfl (by decide) rfl rfl rfl (Nat.le_of_ble_eq_true rfl) ⟨Nat.le_refl _, Nat.le_refl _⟩ dX6_isNumber_1 ?_
  refine r_ifN_eq (pc := 4) (tgt := 31) dX6_isNumber_4 (by decide) (by omega) (fun c1 => ?_) (fun c1 => ?_)
  · exact absurd c1 (by decide)
  · refine r_aload_n (pc := 7) dX6_isNumber_7 rfl ?_
    refine r_getV (pc := 8) (v := nI (kdM (tkK tx n t) (tkV tx n t))) dX6_isNumber_8 fX6_114 rfl rfl (h.2.1.2.2.1) ?_
    refine r_iconst (pc := 11) (v := nI 2) dX6_isNumber_11 rfl ?_
    refine r_icmpN_ne (pc := 12) (tgt := 31) dX6_isNumber_12 (by decide) (by omega) (by omega) (fun c2 => ?_) (fun c2 => ?_)
    · refine r_iconst (pc := 31) (v := nI 0) dX6_isNumber_31 rfl ?_
      exact r_zret dX6_isNumber_32 rfl (by decide) (rfl) rfl
    · refine r_aload_n (pc := 15) dX6_isNumber_15 rfl ?_
      refine r_get (pc := 16) dX6_isNumber_16 fX6_117 rfl rfl ?_
      refine r_iload_n (pc := 19) dX6_isNumber_19 rfl ?_
      refine r_iload_n (pc := 20) dX6_isNumber_20 rfl ?_
      have k1 := kdM_2.mp c2
      have k2 := hk k1
      rw [h.2.1.2.2.2 (Or.inr k1)]
      refine r_callS (pc := 21) (N := mX6_in) (rest := []) (s_in_f X _ I L (nI (tkV tx n t)) (nI 0) b (Or.inr k2)) okX6_in lkX6_97 rfl rfl (Nat.le_of_ble_eq_true rfl) ⟨Nat.le_refl _, Nat.le_refl _⟩ dX6_isNumber_21 ?_
      refine r_ifN_eq (pc := 24) (tgt := 31) dX6_isNumber_24 (by decide) (by omega) (fun c3 => ?_) (fun c3 => ?_)
      · refine r_iconst (pc := 31) (v := nI 0) dX6_isNumber_31 rfl ?_
        exact r_zret dX6_isNumber_32 rfl (by decide) (rfl) rfl
      · exact absurd c3 (by decide)
