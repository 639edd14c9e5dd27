theorem s_counts_t (X : Ctx) (d : Nat) (I : MI) (L : ML) (c : Nat) (h34 : I 42 34 = nI c) (hc : ¬ 20 ≤ c) : Sp X mX6_counts (d + 0) (0, 0) [.ref 42] shF I L (some (.int (nI 1)), shF, (u2 I 42 34 (nI (c + 1))), L) := by
  refine Sp.of okX6_counts [.ref 42] 0 rfl (Nat.le_of_ble_eq_true rfl) ?_
  refine r_aload_n (pc := 0) dX6_counts_0 rfl ?_
  refine r_dup (pc := 1) dX6_counts_1 rfl ?_
  refine r_getV (pc := 2) (v := nI c) dX6_counts_2 fX6_148 rfl rfl (h34) ?_
  refine r_iconst (pc := 5) (v := nI 1) dX6_counts_5 rfl ?_
  refine r_iaddN (pc := 6) dX6_counts_6 ?_
  refine r_put (pc := 7) .int dX6_counts_7 fX6_148 rfl rfl nf6_34 rfl rfl ?_
  refine r_aload_n (pc := 10) dX6_counts_10 rfl ?_
  refine r_getV (pc := 11) (v := nI (c + 1)) dX6_counts_11 fX6_148 rfl rfl (rfl) ?_
  refine r_bipush (pc := 14) dX6_counts_14 bp_20 ?_
  refine r_icmpN_gt (pc := 16) (tgt := 23) dX6_counts_16 (by decide) (by omega) (by omega) (fun c1 => ?_) (fun c1 => ?_)
  · exact absurd c1 (by omega)
  · refine r_iconst (pc := 19) (v := nI 1) dX6_counts_19 rfl ?_
    refine r_goto (pc := 20) (tgt := 24) dX6_counts_20 (by decide) ?_
    exact r_zret dX6_counts_24 rfl (by decide) (rfl) rfl
theorem s_counts_f (X : Ctx) (d : Nat) (I : MI) (L : ML) (c : Nat) (h34 : I 42 34 = nI c) (hc : 20 ≤ c) (hc2 : c ≤ 20) : Sp X mX6_counts (d + 0) (0, 0) [.ref 42] shF I L (some (.int (nI 0)), shF, (u2 I 42 34 (nI (c + 1))), L) := by
  refine Sp.of okX6_counts [.ref 42] 0 rfl (Nat.le_of_ble_eq_true rfl) ?_
  refine r_aload_n (pc := 0) dX6_counts_0 rfl ?_
  refine r_dup (pc := 1) dX6_counts_1 rfl ?_
  refine r_getV (pc := 2) (v := nI c) dX6_counts_2 fX6_148 rfl rfl (h34) ?_
  refine r_iconst (pc := 5) (v := nI 1) dX6_counts_5 rfl ?_
  refine r_iaddN (pc := 6) dX6_counts_6 ?_
  refine r_put (pc := 7) .int dX6_counts_7 fX6_148 rfl rfl nf6_34 rfl rfl ?_
  refine r_aload_n (pc := 10) dX6_counts_10 rfl ?_
  refine r_getV (pc := 11) (v := nI (c + 1)) dX6_counts_11 fX6_148 rfl rfl (rfl) ?_
  refine r_bipush (pc := 14) dX6_counts_14 bp_20 ?_
  refine r_icmpN_gt (pc := 16) (tgt := 23) dX6_counts_16 (by decide) (by omega) (by omega) (fun c1 => ?_) (fun c1 => ?_)
  · refine r_iconst (pc := 23) (v := nI 0) dX6_counts_23 rfl ?_
    exact r_zret dX6_counts_24 rfl (by decide) (rfl) rfl
  · exact absurd c1 (by omega)
theorem s_makes (X : Ctx) (d : Nat) (I : MI) (L : ML) (F k m : Nat) (so its lf rt : Int32) (h14 : I 42 14 = nI F) (h49 : I 49 F = nI k) (h30 : I 42 30 = nI m) (hF : F < 4) (hk : k < 20) (hm : m < 32) : Sp X mX6_makes (d + 0) (0, 0) [.ref 42, .int (so), .int (its), .int (lf), .int (rt)] shF I L (none, shF, (mkN I F k m so its lf rt), L) := by
  refine Sp.of okX6_makes [.ref 42, .int (so), .int (its), .int (lf), .int (rt), .null, .null] 2 rfl (Nat.le_of_ble_eq_true rfl) ?_
  refine r_aload_n (pc := 0) dX6_makes_0 rfl ?_
  refine r_getV (pc := 1) (v := nI F) dX6_makes_1 fX6_145 rfl rfl (h14) ?_
  refine r_istore (pc := 4) (lo1 := [.ref 42, .int (so), .int (its), .int (lf), .int (rt), .int (nI F), .null]) dX6_makes_4 rfl (by decide) rfl ?_
  refine r_bipush (pc := 6) dX6_makes_6 bp_20 ?_
  refine r_iload (pc := 8) dX6_makes_8 rfl ?_
  refine r_imulN (pc := 10) dX6_makes_10 ?_
  refine r_aload_n (pc := 11) dX6_makes_11 rfl ?_
  refine r_getR (pc := 12) (b := 49) dX6_makes_12 fX6_28 rfl rfl ?_
  refine r_iload (pc := 15) dX6_makes_15 rfl ?_
  refine r_ialdV (pc := 17) (j := F) (v := nI k) dX6_makes_17 rfl rfl (by omega) (by decide) (h49) ?_
  refine r_iaddN (pc := 18) dX6_makes_18 ?_
  refine r_istore (pc := 19) (lo1 := [.ref 42, .int (so), .int (its), .int (lf), .int (rt), .int (nI F), .int (nI ((20 * F) + k))]) dX6_makes_19 rfl (by decide) rfl ?_
  refine r_aload_n (pc := 21) dX6_makes_21 rfl ?_
  refine r_getR (pc := 22) (b := 50) dX6_makes_22 fX6_31 rfl rfl ?_
  refine r_iload (pc := 25) dX6_makes_25 rfl ?_
  refine r_iload_n (pc := 27) dX6_makes_27 rfl ?_
  refine r_iast (pc := 28) (j := (20 * F) + k) dX6_makes_28 rfl rfl (by omega) (by decide) ?_
  refine r_aload_n (pc := 29) dX6_makes_29 rfl ?_
  refine r_getR (pc := 30) (b := 51) dX6_makes_30 fX6_34 rfl rfl ?_
  refine r_iload (pc := 33) dX6_makes_33 rfl ?_
  refine r_iload_n (pc := 35) dX6_makes_35 rfl ?_
  refine r_iast (pc := 36) (j := (20 * F) + k) dX6_makes_36 rfl rfl (by omega) (by decide) ?_
  refine r_aload_n (pc := 37) dX6_makes_37 rfl ?_
  refine r_getR (pc := 38) (b := 52) dX6_makes_38 fX6_37 rfl rfl ?_
  refine r_iload (pc := 41) dX6_makes_41 rfl ?_
  refine r_iload_n (pc := 43) dX6_makes_43 rfl ?_
  refine r_iast (pc := 44) (j := (20 * F) + k) dX6_makes_44 rfl rfl (by omega) (by decide) ?_
  refine r_aload_n (pc := 45) dX6_makes_45 rfl ?_
  refine r_getR (pc := 46) (b := 53) dX6_makes_46 fX6_40 rfl rfl ?_
  refine r_iload (pc := 49) dX6_makes_49 rfl ?_
  refine r_iload (pc := 51) dX6_makes_51 rfl ?_
  refine r_iast (pc := 53) (j := (20 * F) + k) dX6_makes_53 rfl rfl (by omega) (by decide) ?_
  refine r_aload_n (pc := 54) dX6_makes_54 rfl ?_
  refine r_getR (pc := 55) (b := 61) dX6_makes_55 fX6_66 rfl rfl ?_
  refine r_aload_n (pc := 58) dX6_makes_58 rfl ?_
  refine r_getV (pc := 59) (v := nI m) dX6_makes_59 fX6_151 rfl rfl (h30) ?_
  refine r_aload_n (pc := 62) dX6_makes_62 rfl ?_
  refine r_getR (pc := 63) (b := 49) dX6_makes_63 fX6_28 rfl rfl ?_
  refine r_iload (pc := 66) dX6_makes_66 rfl ?_
  refine r_ialdV (pc := 68) (j := F) (v := nI k) dX6_makes_68 rfl rfl (by omega) (by decide) (h49) ?_
  refine r_iast (pc := 69) (j := m) dX6_makes_69 rfl rfl (by omega) (by decide) ?_
  refine r_aload_n (pc := 70) dX6_makes_70 rfl ?_
  refine r_dup (pc := 71) dX6_makes_71 rfl ?_
  refine r_getV (pc := 72) (v := nI m) dX6_makes_72 fX6_151 rfl rfl (h30) ?_
  refine r_iconst (pc := 75) (v := nI 1) dX6_makes_75 rfl ?_
  refine r_iaddN (pc := 76) dX6_makes_76 ?_
  refine r_put (pc := 77) .int dX6_makes_77 fX6_151 rfl rfl nf6_30 rfl rfl ?_
  refine r_aload_n (pc := 80) dX6_makes_80 rfl ?_
  refine r_getR (pc := 81) (b := 49) dX6_makes_81 fX6_28 rfl rfl ?_
  refine r_iload (pc := 84) dX6_makes_84 rfl ?_
  refine r_dup2 (pc := 86) dX6_makes_86 rfl rfl ?_
  refine r_ialdV (pc := 87) (j := F) (v := nI k) dX6_makes_87 rfl rfl (by omega) (by decide) (h49) ?_
  refine r_iconst (pc := 88) (v := nI 1) dX6_makes_88 rfl ?_
  refine r_iaddN (pc := 89) dX6_makes_89 ?_
  refine r_iast (pc := 90) (j := F) dX6_makes_90 rfl rfl (by omega) (by decide) ?_
  exact r_vret dX6_makes_91 rfl (rfl) rfl
def hdW (ws : List Nat) : Nat := match ws with
  | [] => 0
  | w :: _ => w
theorem s_lastWaiting_0 (X : Ctx) (d : Nat) (I : MI) (L : ML) (h32 : I 42 32 = nI 0) : Sp X mX6_lastWaiting (d + 0) (0, 0) [.ref 42] shF I L (some (.int (nI 0)), shF, I, L) := by
  refine Sp.of okX6_lastWaiting [.ref 42] 0 rfl (Nat.le_of_ble_eq_true rfl) ?_
  refine r_aload_n (pc := 0) dX6_lastWaiting_0 rfl ?_
  refine r_getV (pc := 1) (v := nI 0) dX6_lastWaiting_1 fX6_154 rfl rfl (h32) ?_
  refine r_ifN_ne (pc := 4) (tgt := 11) dX6_lastWaiting_4 (by decide) (by omega) (fun c1 => ?_) (fun c1 => ?_)
  · exact absurd c1 (by decide)
  · refine r_iconst (pc := 7) (v := nI 0) dX6_lastWaiting_7 rfl ?_
    refine r_goto (pc := 8) (tgt := 22) dX6_lastWaiting_8 (by decide) ?_
    exact r_iret dX6_lastWaiting_22 rfl (rfl) rfl
theorem s_lastWaiting_s (X : Ctx) (d : Nat) (I : MI) (L : ML) (m w : Nat) (h32 : I 42 32 = nI (m + 1)) (hm : m < 127) (hw : I 62 m = nI w) : Sp X mX6_lastWaiting (d + 0) (0, 0) [.ref 42] shF I L (some (.int (nI w)), shF, I, L) := by
  refine Sp.of okX6_lastWaiting [.ref 42] 0 rfl (Nat.le_of_ble_eq_true rfl) ?_
  refine r_aload_n (pc := 0) dX6_lastWaiting_0 rfl ?_
  refine r_getV (pc := 1) (v := nI (m + 1)) dX6_lastWaiting_1 fX6_154 rfl rfl (h32) ?_
  refine r_ifN_ne (pc := 4) (tgt := 11) dX6_lastWaiting_4 (by decide) (by omega) (fun c1 => ?_) (fun c1 => ?_)
  · refine r_aload_n (pc := 11) dX6_lastWaiting_11 rfl ?_
    refine r_getR (pc := 12) (b := 62) dX6_lastWaiting_12 fX6_69 rfl rfl ?_
    refine r_aload_n (pc := 15) dX6_lastWaiting_15 rfl ?_
    refine r_getV (pc := 16) (v := nI (m + 1)) dX6_lastWaiting_16 fX6_154 rfl rfl (h32) ?_
    refine r_iconst (pc := 19) (v := nI 1) dX6_lastWaiting_19 rfl ?_
    refine r_isubN (pc := 20) dX6_lastWaiting_20 (by omega) ?_
    refine r_ialdV (pc := 21) (j := m) (v := nI w) dX6_lastWaiting_21 rfl rfl (by omega) (by decide) (hw) ?_
    exact r_iret dX6_lastWaiting_22 rfl (rfl) rfl
  · exact absurd c1 (by omega)
theorem SI.len {F c : Nat} {l : List Q4} {ps ws : List Nat} {op de : Nat} (h : SI F c l ps ws op de) : ws.length ≤ 28 ∧ ps.length ≤ 21 ∧ l.length ≤ 20 := by
  obtain ⟨i1, i2, i3, i4, i5, i6, i7, -⟩ := h
  have := bn_nz ws
  omega
theorem s_lastWaiting (X : Ctx) (d : Nat) (I : MI) (L : ML) (F c : Nat) (l : List Q4) (ps ws : List Nat) (op de : Nat) (h : SM I F c l ps ws op de) (v : Nat) (hv : hdW ws = v) : Sp X mX6_lastWaiting (d + 0) (0, 0) [.ref 42] shF I L (some (.int (nI v)), shF, I, L) := by
  have hl := h.2.len
  have h32 := h.1.2.2.2.1
  have h9 := h.1.2.2.2.2.2.2.2.2
  subst hv
  cases ws with
  | nil => exact s_lastWaiting_0 X d I L h32
  | cons w r =>
    have e1 : (w :: r).length = r.length + 1 := rfl
    exact s_lastWaiting_s X d I L r.length w h32 (by omega) h9.1
theorem s_waits (X : Ctx) (d : Nat) (I : MI) (L : ML) (m : Nat) (x : Int32) (h32 : I 42 32 = nI m) (hm : m < 128) : Sp X mX6_waits (d + 0) (0, 0) [.ref 42, .int (x)] shF I L (none, shF, (u2 (u2 I 62 m x) 42 32 (nI (m + 1))), L) := by
  refine Sp.of okX6_waits [.ref 42, .int (x)] 0 rfl (Nat.le_of_ble_eq_true rfl) ?_
  refine r_aload_n (pc := 0) dX6_waits_0 rfl ?_
  refine r_getR (pc := 1) (b := 62) dX6_waits_1 fX6_69 rfl rfl ?_
  refine r_aload_n (pc := 4) dX6_waits_4 rfl ?_
  refine r_getV (pc := 5) (v := nI m) dX6_waits_5 fX6_154 rfl rfl (h32) ?_
  refine r_iload_n (pc := 8) dX6_waits_8 rfl ?_
  refine r_iast (pc := 9) (j := m) dX6_waits_9 rfl rfl (by omega) (by decide) ?_
  refine r_aload_n (pc := 10) dX6_waits_10 rfl ?_
  refine r_dup (pc := 11) dX6_waits_11 rfl ?_
  refine r_getV (pc := 12) (v := nI m) dX6_waits_12 fX6_154 rfl rfl (h32) ?_
  refine r_iconst (pc := 15) (v := nI 1) dX6_waits_15 rfl ?_
  refine r_iaddN (pc := 16) dX6_waits_16 ?_
  refine r_put (pc := 17) .int dX6_waits_17 fX6_154 rfl rfl nf6_32 rfl rfl ?_
  exact r_vret dX6_waits_20 rfl (rfl) rfl
theorem s_doesLast_110 (X : Ctx) (d : Nat) (I : MI) (L : ML) (F c : Nat) (l : List Q4) (i : Nat) (ps ws : List Nat) (op : Nat) (h : SM I F c l (i :: ps) (110 :: ws) op 1) : ∃ T, (fun T => ∃ J, T = (none, shF, J, L) ∧ FRk F I J ∧ SM J F c (l ++ [((110, 0, i, 0) : Q4)]) (l.length :: ps) ws op 1) T ∧ Sp X mX6_doesLast (d + 1) (0, 0) [.ref 42] shF I L T := by
  have hl := h.2.len
  have hF := h.2.1
  have hi3 := h.2.2.2.1
  have hs := h.ahd
  have hl2 := hs.1.2.len
  have hl3 := hs.2.1
  have e1 : (110 :: ws).length = ws.length + 1 := rfl
  refine qU (fun T_ k_ => Sp.of okX6_doesLast [.ref 42, .null] 1 rfl (Nat.le_of_ble_eq_true rfl) k_) ?_
  refine qU (fun T_ k_ => r_aload_n (pc := 0) dX6_doesLast_0 rfl k_) ?_
  refine qU (fun T_ k_ => r_dup (pc := 1) dX6_doesLast_1 rfl k_) ?_
  refine qU (fun T_ k_ => r_getV (pc := 2) (v := nI (ws.length + 1)) dX6_doesLast_2 fX6_154 rfl rfl (h.1.2.2.2.1) k_) ?_
  refine qU (fun T_ k_ => r_iconst (pc := 5) (v := nI 1) dX6_doesLast_5 rfl k_) ?_
  refine qU (fun T_ k_ => r_isubN (pc := 6) dX6_doesLast_6 (by omega) k_) ?_
  refine qU (fun T_ k_ => r_put (pc := 7) .int dX6_doesLast_7 fX6_154 rfl rfl nf6_32 rfl rfl k_) ?_
  refine qU (fun T_ k_ => r_aload_n (pc := 10) dX6_doesLast_10 rfl k_) ?_
  refine qU (fun T_ k_ => r_getR (pc := 11) (b := 62) dX6_doesLast_11 fX6_69 rfl rfl k_) ?_
  refine qU (fun T_ k_ => r_aload_n (pc := 14) dX6_doesLast_14 rfl k_) ?_
  refine qU (fun T_ k_ => r_getV (pc := 15) (v := nI ws.length) dX6_doesLast_15 fX6_154 rfl rfl (rfl) k_) ?_
  refine qU (fun T_ k_ => r_ialdV (pc := 18) (j := ws.length) (v := nI 110) dX6_doesLast_18 rfl rfl (by omega) (by decide) (h.1.2.2.2.2.2.2.2.2.1) k_) ?_
  refine qU (fun T_ k_ => r_istore_n (pc := 19) (lo1 := [.ref 42, .int (nI 110)]) dX6_doesLast_19 rfl (by decide) rfl k_) ?_
  refine qU (fun T_ k_ => r_aload_n (pc := 20) dX6_doesLast_20 rfl k_) ?_
  refine qU (fun T_ k_ => r_dup (pc := 21) dX6_doesLast_21 rfl k_) ?_
  refine qU (fun T_ k_ => r_getV (pc := 22) (v := nI (ps.length + 1)) dX6_doesLast_22 fX6_151 rfl rfl (h.1.2.2.1) k_) ?_
  refine qU (fun T_ k_ => r_iload_n (pc := 25) dX6_doesLast_25 rfl k_) ?_
  refine qU (fun T_ k_ => r_bipush (pc := 26) dX6_doesLast_26 bp_110 k_) ?_
  refine qN (fun T_ => r_icmpN_ne (pc := 28) (tgt := 35) dX6_doesLast_28 (by decide) (by omega) (by omega)) (fun c1 => ?_) (fun c1 => ?_)
  · exact absurd c1 (by decide)
  · refine qU (fun T_ k_ => r_iconst (pc := 31) (v := nI 1) dX6_doesLast_31 rfl k_) ?_
    refine qU (fun T_ k_ => r_goto (pc := 32) (tgt := 36) dX6_doesLast_32 (by decide) k_) ?_
    refine qU (fun T_ k_ => r_isubN (pc := 36) dX6_doesLast_36 (by omega) k_) ?_
    refine qU (fun T_ k_ => r_put (pc := 37) .int dX6_doesLast_37 fX6_151 rfl rfl nf6_30 rfl rfl k_) ?_
    refine qU (fun T_ k_ => r_aload_n (pc := 40) dX6_doesLast_40 rfl k_) ?_
    refine qU (fun T_ k_ => r_iload_n (pc := 41) dX6_doesLast_41 rfl k_) ?_
    refine qU (fun T_ k_ => r_iconst (pc := 42) (v := nI 0) dX6_doesLast_42 rfl k_) ?_
    refine qU (fun T_ k_ => r_aload_n (pc := 43) dX6_doesLast_43 rfl k_) ?_
    refine qU (fun T_ k_ => r_getR (pc := 44) (b := 61) dX6_doesLast_44 fX6_66 rfl rfl k_) ?_
    refine qU (fun T_ k_ => r_aload_n (pc := 47) dX6_doesLast_47 rfl k_) ?_
    refine qU (fun T_ k_ => r_getV (pc := 48) (v := nI ps.length) dX6_doesLast_48 fX6_151 rfl rfl (rfl) k_) ?_
    refine qU (fun T_ k_ => r_ialdV (pc := 51) (j := ps.length) (v := nI i) dX6_doesLast_51 rfl rfl (by omega) (by decide) (h.1.2.2.2.2.2.2.2.1.1) k_) ?_
    refine qU (fun T_ k_ => r_iload_n (pc := 52) dX6_doesLast_52 rfl k_) ?_
    refine qU (fun T_ k_ => r_bipush (pc := 53) dX6_doesLast_53 bp_110 k_) ?_
    refine qN (fun T_ => r_icmpN_ne (pc := 55) (tgt := 63) dX6_doesLast_55 (by decide) (by omega) (by omega)) (fun c2 => ?_) (fun c2 => ?_)
    · exact absurd c2 (by decide)
    · refine qU (fun T_ k_ => r_bipush (pc := 58) dX6_doesLast_58 bp_m9 k_) ?_
      refine qU (fun T_ k_ => r_goto (pc := 60) (tgt := 74) dX6_doesLast_60 (by decide) k_) ?_
      refine qU (fun T_ k_ => r_callV (pc := 74) (N := mX6_makes) (rest := []) (s_makes X _ (u2 (u2 I 42 32 (nI ws.length)) 42 30 (nI ps.length)) L F l.length ps.length (nI 110) (nI 0) (nI i) (-9) (h.1.1) (h.1.2.1) rfl hF (by omega) (by omega)) okX6_makes lkX6_157 rfl (by decide) rfl rfl rfl (Nat.le_of_ble_eq_true rfl) ⟨Nat.le_refl _, Nat.le_refl _⟩ dX6_doesLast_74 k_) ?_
      exact ⟨_, ⟨_, rfl, (((FRk.refl F I).put 32 _ (by decide)).put 30 _ (by decide)).mk _ _ _ _ _ _, hs.1.made hs.2.1 _ (Or.inr (Or.inr (Or.inr (Or.inl ⟨rfl, hs.2.2⟩)))) rfl rfl (fun _ => rfl) (fun z => absurd z (show ¬ ((110 : Nat) = 42 ∨ (110 : Nat) = 43 ∨ (110 : Nat) = 45) by decide)) (fun _ => rfl)⟩, r_vret dX6_doesLast_77 rfl rfl rfl⟩
theorem s_doesLast_b (X : Ctx) (d : Nat) (I : MI) (L : ML) (F c : Nat) (l : List Q4) (j i w : Nat) (ps ws : List Nat) (op : Nat) (h : SM I F c l (j :: i :: ps) (w :: ws) op 1) (hw : w = 42 ∨ w = 43 ∨ w = 45) : ∃ T, (fun T => ∃ J, T = (none, shF, J, L) ∧ FRk F I J ∧ SM J F c (l ++ [((w, 0, i, j) : Q4)]) (l.length :: ps) ws op 1) T ∧ Sp X mX6_doesLast (d + 1) (0, 0) [.ref 42] shF I L T := by
  have hl := h.2.len
  have hF := h.2.1
  have hi3 := h.2.2.2.1
  have hs := h.bin hw
  have hl2 := hs.1.2.len
  have hl3 := hs.2.1
  have e1 : (w :: ws).length = ws.length + 1 := rfl
  refine qU (fun T_ k_ => Sp.of okX6_doesLast [.ref 42, .null] 1 rfl (Nat.le_of_ble_eq_true rfl) k_) ?_
  refine qU (fun T_ k_ => r_aload_n (pc := 0) dX6_doesLast_0 rfl k_) ?_
  refine qU (fun T_ k_ => r_dup (pc := 1) dX6_doesLast_1 rfl k_) ?_
  refine qU (fun T_ k_ => r_getV (pc := 2) (v := nI (ws.length + 1)) dX6_doesLast_2 fX6_154 rfl rfl (h.1.2.2.2.1) k_) ?_
  refine qU (fun T_ k_ => r_iconst (pc := 5) (v := nI 1) dX6_doesLast_5 rfl k_) ?_
  refine qU (fun T_ k_ => r_isubN (pc := 6) dX6_doesLast_6 (by omega) k_) ?_
  refine qU (fun T_ k_ => r_put (pc := 7) .int dX6_doesLast_7 fX6_154 rfl rfl nf6_32 rfl rfl k_) ?_
  refine qU (fun T_ k_ => r_aload_n (pc := 10) dX6_doesLast_10 rfl k_) ?_
  refine qU (fun T_ k_ => r_getR (pc := 11) (b := 62) dX6_doesLast_11 fX6_69 rfl rfl k_) ?_
  refine qU (fun T_ k_ => r_aload_n (pc := 14) dX6_doesLast_14 rfl k_) ?_
  refine qU (fun T_ k_ => r_getV (pc := 15) (v := nI ws.length) dX6_doesLast_15 fX6_154 rfl rfl (rfl) k_) ?_
  refine qU (fun T_ k_ => r_ialdV (pc := 18) (j := ws.length) (v := nI w) dX6_doesLast_18 rfl rfl (by omega) (by decide) (h.1.2.2.2.2.2.2.2.2.1) k_) ?_
  refine qU (fun T_ k_ => r_istore_n (pc := 19) (lo1 := [.ref 42, .int (nI w)]) dX6_doesLast_19 rfl (by decide) rfl k_) ?_
  refine qU (fun T_ k_ => r_aload_n (pc := 20) dX6_doesLast_20 rfl k_) ?_
  refine qU (fun T_ k_ => r_dup (pc := 21) dX6_doesLast_21 rfl k_) ?_
  refine qU (fun T_ k_ => r_getV (pc := 22) (v := nI (ps.length + 2)) dX6_doesLast_22 fX6_151 rfl rfl (h.1.2.2.1) k_) ?_
  refine qU (fun T_ k_ => r_iload_n (pc := 25) dX6_doesLast_25 rfl k_) ?_
  refine qU (fun T_ k_ => r_bipush (pc := 26) dX6_doesLast_26 bp_110 k_) ?_
  refine qN (fun T_ => r_icmpN_ne (pc := 28) (tgt := 35) dX6_doesLast_28 (by decide) (by omega) (by omega)) (fun c1 => ?_) (fun c1 => ?_)
  · refine qU (fun T_ k_ => r_iconst (pc := 35) (v := nI 2) dX6_doesLast_35 rfl k_) ?_
    refine qU (fun T_ k_ => r_isubN (pc := 36) dX6_doesLast_36 (by omega) k_) ?_
    refine qU (fun T_ k_ => r_put (pc := 37) .int dX6_doesLast_37 fX6_151 rfl rfl nf6_30 rfl rfl k_) ?_
    refine qU (fun T_ k_ => r_aload_n (pc := 40) dX6_doesLast_40 rfl k_) ?_
    refine qU (fun T_ k_ => r_iload_n (pc := 41) dX6_doesLast_41 rfl k_) ?_
    refine qU (fun T_ k_ => r_iconst (pc := 42) (v := nI 0) dX6_doesLast_42 rfl k_) ?_
    refine qU (fun T_ k_ => r_aload_n (pc := 43) dX6_doesLast_43 rfl k_) ?_
    refine qU (fun T_ k_ => r_getR (pc := 44) (b := 61) dX6_doesLast_44 fX6_66 rfl rfl k_) ?_
    refine qU (fun T_ k_ => r_aload_n (pc := 47) dX6_doesLast_47 rfl k_) ?_
    refine qU (fun T_ k_ => r_getV (pc := 48) (v := nI ps.length) dX6_doesLast_48 fX6_151 rfl rfl (rfl) k_) ?_
    refine qU (fun T_ k_ => r_ialdV (pc := 51) (j := ps.length) (v := nI i) dX6_doesLast_51 rfl rfl (by omega) (by decide) (h.1.2.2.2.2.2.2.2.1.2.1) k_) ?_
    refine qU (fun T_ k_ => r_iload_n (pc := 52) dX6_doesLast_52 rfl k_) ?_
    refine qU (fun T_ k_ => r_bipush (pc := 53) dX6_doesLast_53 bp_110 k_) ?_
    refine qN (fun T_ => r_icmpN_ne (pc := 55) (tgt := 63) dX6_doesLast_55 (by decide) (by omega) (by omega)) (fun c2 => ?_) (fun c2 => ?_)
    · refine qU (fun T_ k_ => r_aload_n (pc := 63) dX6_doesLast_63 rfl k_) ?_
      refine qU (fun T_ k_ => r_getR (pc := 64) (b := 61) dX6_doesLast_64 fX6_66 rfl rfl k_) ?_
      refine qU (fun T_ k_ => r_aload_n (pc := 67) dX6_doesLast_67 rfl k_) ?_
      refine qU (fun T_ k_ => r_getV (pc := 68) (v := nI ps.length) dX6_doesLast_68 fX6_151 rfl rfl (rfl) k_) ?_
      refine qU (fun T_ k_ => r_iconst (pc := 71) (v := nI 1) dX6_doesLast_71 rfl k_) ?_
      refine qU (fun T_ k_ => r_iaddN (pc := 72) dX6_doesLast_72 k_) ?_
      refine qU (fun T_ k_ => r_ialdV (pc := 73) (j := ps.length + 1) (v := nI j) dX6_doesLast_73 rfl rfl (by omega) (by decide) (h.1.2.2.2.2.2.2.2.1.1) k_) ?_
      refine qU (fun T_ k_ => r_callV (pc := 74) (N := mX6_makes) (rest := []) (s_makes X _ (u2 (u2 I 42 32 (nI ws.length)) 42 30 (nI ps.length)) L F l.length ps.length (nI w) (nI 0) (nI i) (nI j) (h.1.1) (h.1.2.1) rfl hF (by omega) (by omega)) okX6_makes lkX6_157 rfl (by decide) rfl rfl rfl (Nat.le_of_ble_eq_true rfl) ⟨Nat.le_refl _, Nat.le_refl _⟩ dX6_doesLast_74 k_) ?_
      exact ⟨_, ⟨_, rfl, (((FRk.refl F I).put 32 _ (by decide)).put 30 _ (by decide)).mk _ _ _ _ _ _, hs.1.made hs.2.1 _ (Or.inr (Or.inr (Or.inr (Or.inr (Or.inr ⟨hw, hs.2.2⟩))))) rfl rfl (fun _ => rfl) (fun _ => rfl) (fun z => absurd z (by show ¬ (w = 94 ∨ w = 110); omega))⟩, r_vret dX6_doesLast_77 rfl rfl rfl⟩
    · exact absurd c2 (by omega)
  · exact absurd c1 (by omega)
