theorem rdAll_0 {K V : Nat → Nat} {f i t : Nat} {D : Nat → Int32} {fs : List (List Q4)} (h : K t = 0) : rdAll K V f i t D fs = .inr (i, D, fs) := by
  cases f with
  | zero => rfl
  | succ f => exact if_pos h
theorem rdAll_f {K V : Nat → Nat} {f i t u : Nat} {D : Nat → Int32} {fs : List (List Q4)} (h : K t ≠ 0) (hr : rdItem K V t D fs = .inl u) : rdAll K V (f + 1) i t D fs = .inl u := by
  unfold rdAll
  rw [if_neg h, hr]
theorem rdAll_s {K V : Nat → Nat} {f i t u : Nat} {D D2 : Nat → Int32} {fs fs2 : List (List Q4)} (h : K t ≠ 0) (hr : rdItem K V t D fs = .inr (u, D2, fs2)) : rdAll K V (f + 1) i t D fs = rdAll K V f (i + 1) u D2 fs2 := by
  rw [show rdAll K V (f + 1) i t D fs = if K t = 0 then .inr (i, D, fs) else match rdItem K V t D fs with
    | .inl u => .inl u
    | .inr (u, D2, fs2) => rdAll K V f (i + 1) u D2 fs2 from rfl, if_neg h, hr]
theorem it_S_f {K V : Nat → Nat} {t u : Nat} {D : Nat → Int32} {fs : List (List Q4)} (h : K t = 1 ∧ V t = 83) (R : rdSrc K V (t + 1) D = .inl u) : rdItem K V t D fs = .inl u := by
  unfold rdItem
  rw [if_pos h, R]
theorem it_S_n {K V : Nat → Nat} {t u : Nat} {D D2 : Nat → Int32} {fs : List (List Q4)} (h : K t = 1 ∧ V t = 83) (R : rdSrc K V (t + 1) D = .inr (u, D2)) (hz : ¬ (K u = 1 ∧ V u = 59)) : rdItem K V t D fs = .inl u := by
  unfold rdItem
  rw [if_pos h, R]
  exact if_neg hz
theorem it_S_g {K V : Nat → Nat} {t u : Nat} {D D2 : Nat → Int32} {fs : List (List Q4)} (h : K t = 1 ∧ V t = 83) (R : rdSrc K V (t + 1) D = .inr (u, D2)) (hz : K u = 1 ∧ V u = 59) : rdItem K V t D fs = .inr (u + 1, D2, fs) := by
  unfold rdItem
  rw [if_pos h, R]
  exact if_pos hz
theorem it_C_f {K V : Nat → Nat} {t u : Nat} {D : Nat → Int32} {fs : List (List Q4)} (h : K t = 1 ∧ V t = 67) (R : rdJnt K V (t + 1) D = .inl u) : rdItem K V t D fs = .inl u := by
  unfold rdItem
  rw [if_neg (by omega), if_pos h, R]
theorem it_C_n {K V : Nat → Nat} {t u : Nat} {D D2 : Nat → Int32} {fs : List (List Q4)} (h : K t = 1 ∧ V t = 67) (R : rdJnt K V (t + 1) D = .inr (u, D2)) (hz : ¬ (K u = 1 ∧ V u = 59)) : rdItem K V t D fs = .inl u := by
  unfold rdItem
  rw [if_neg (by omega), if_pos h, R]
  exact if_neg hz
theorem it_C_g {K V : Nat → Nat} {t u : Nat} {D D2 : Nat → Int32} {fs : List (List Q4)} (h : K t = 1 ∧ V t = 67) (R : rdJnt K V (t + 1) D = .inr (u, D2)) (hz : K u = 1 ∧ V u = 59) : rdItem K V t D fs = .inr (u + 1, D2, fs) := by
  unfold rdItem
  rw [if_neg (by omega), if_pos h, R]
  exact if_pos hz
theorem it_F_4 {K V : Nat → Nat} {t : Nat} {D : Nat → Int32} {fs : List (List Q4)} (h : K t = 1 ∧ V t = 70) (h4 : 4 ≤ fs.length) : rdItem K V t D fs = .inl t := by
  unfold rdItem rdFrm
  rw [if_neg (by omega), if_neg (by omega), if_pos h, if_pos h4]
theorem it_F_f {K V : Nat → Nat} {t u : Nat} {D : Nat → Int32} {fs : List (List Q4)} (h : K t = 1 ∧ V t = 70) (h4 : ¬ 4 ≤ fs.length) (R : rdS K V fs.length 8 (t + 1) 0 [] = .inl u) : rdItem K V t D fs = .inl u := by
  unfold rdItem rdFrm
  rw [if_neg (by omega), if_neg (by omega), if_pos h, if_neg h4, R]
theorem it_F_n {K V : Nat → Nat} {t u i c : Nat} {l : List Q4} {D : Nat → Int32} {fs : List (List Q4)} (h : K t = 1 ∧ V t = 70) (h4 : ¬ 4 ≤ fs.length) (R : rdS K V fs.length 8 (t + 1) 0 [] = .inr (i, u, c, l)) (hz : ¬ (K u = 1 ∧ V u = 59)) : rdItem K V t D fs = .inl u := by
  unfold rdItem rdFrm
  rw [if_neg (by omega), if_neg (by omega), if_pos h, if_neg h4, R]
  dsimp only
  rw [if_neg hz]
theorem it_F_g {K V : Nat → Nat} {t u i c : Nat} {l : List Q4} {D : Nat → Int32} {fs : List (List Q4)} (h : K t = 1 ∧ V t = 70) (h4 : ¬ 4 ≤ fs.length) (R : rdS K V fs.length 8 (t + 1) 0 [] = .inr (i, u, c, l)) (hz : K u = 1 ∧ V u = 59) : rdItem K V t D fs = .inr (u + 1, D, fs ++ [l]) := by
  unfold rdItem rdFrm
  rw [if_neg (by omega), if_neg (by omega), if_pos h, if_neg h4, R]
  dsimp only
  rw [if_pos hz]
  dsimp only
  rw [if_pos hz]
theorem it_no {K V : Nat → Nat} {t : Nat} {D : Nat → Int32} {fs : List (List Q4)} (h1 : ¬ (K t = 1 ∧ V t = 83)) (h2 : ¬ (K t = 1 ∧ V t = 67)) (h3 : ¬ (K t = 1 ∧ V t = 70)) : rdItem K V t D fs = .inl t := by
  unfold rdItem
  rw [if_neg h1, if_neg h2, if_neg h3]
theorem sgT_le (K V : Nat → Nat) (t : Nat) : t ≤ sgT K V t := by
  unfold sgT
  split <;> omega
theorem rdSrc_t {K V : Nat → Nat} {t u : Nat} {D D2 : Nat → Int32} (h : rdSrc K V t D = .inr (u, D2)) : t ≤ u := by
  have hs := sgT_le K V (t + 1)
  unfold rdSrc at h
  split at h
  · split at h
    · split at h
      · cases h; omega
      · cases h
    · cases h
  · cases h
theorem rdJnt_t {K V : Nat → Nat} {t u : Nat} {D D2 : Nat → Int32} (h : rdJnt K V t D = .inr (u, D2)) : t ≤ u := by
  have hs := sgT_le K V (t + 2)
  unfold rdJnt at h
  split at h
  · split at h
    · split at h
      · cases h; omega
      · cases h
    · cases h
  · cases h
theorem rdS_t {K V : Nat → Nat} {F t u i c : Nat} {l : List Q4} (h : rdS K V F 8 t 0 [] = .inr (i, u, c, l)) : t ≤ u := by
  have g := gro_S (K := K) (V := V) (F := F) 8 t 0 [] (Nat.zero_le _)
  rw [h] at g
  exact Nat.le_of_lt g.1
theorem bps_lt {tx : Nat → Nat} {n t u : Nat} (hk : tkK tx n t ≠ 0) (h : t < u) : bps tx n t < bps tx n u := by
  have g := tokP_le tx (bps_le tx n t)
  have g2 := g.2.2.2 hk
  have e2 : bps tx n (t + 1) = (tokP tx n (bps tx n t)).2.1 := rfl
  have h3 := bps_mono tx n (t + 1) (u - (t + 1))
  rw [show t + 1 + (u - (t + 1)) = u by omega] at h3
  omega
theorem tkK_end {tx : Nat → Nat} {n t : Nat} (h : n ≤ bps tx n t) : tkK tx n t = 0 := by
  have g := bps_le tx n t
  unfold tkK tokP
  have e : skp tx n (n - bps tx n t) (bps tx n t) = bps tx n t := by
    rw [show n - bps tx n t = 0 by omega]
    rfl
  rw [e, if_pos h]
def FRy (I J : MI) : Prop := ∀ c j, ¬ (c = 42 ∧ (j = 0 ∨ 3 ≤ j ∧ j ≤ 7 ∨ j = 14 ∨ j = 30 ∨ j = 32 ∨ j = 33 ∨ j = 34)) → ¬ (49 ≤ c ∧ c ≤ 54) → c ≠ 61 → c ≠ 62 → J c j = I c j
theorem FRy.trans {I J H : MI} (h : FRy I J) (h2 : FRy J H) : FRy I H := fun c j q1 q2 q3 q4 => (h2 c j q1 q2 q3 q4).trans (h c j q1 q2 q3 q4)
theorem FRm.y {I J : MI} (h : FRm I J) : FRy I J := fun c j q1 q2 q3 q4 => h c j (by omega)
theorem FRt.y {I J : MI} (h : FRt I J) : FRy I J := fun c j q1 q2 q3 q4 => h c j (by omega) (by omega)
theorem FRq.y {F : Nat} {I J : MI} (h : FRq F I J) : FRy I J := fun c j q1 q2 q3 q4 => h c j (by omega) (by omega) (by omega) q3 q4
theorem FRy.put {I J : MI} (h : FRy I J) (j : Nat) (x : Int32) (hj : j = 0 ∨ 3 ≤ j ∧ j ≤ 7 ∨ j = 14 ∨ j = 30 ∨ j = 32 ∨ j = 33 ∨ j = 34) : FRy I (u2 J 42 j x) := fun c i q1 q2 q3 q4 => (u2_ne (by omega)).trans (h c i q1 q2 q3 q4)
theorem PM.u14 {J : MI} {tx : Nat → Nat} {n t : Nat} (h : PM J tx n t) (x : Int32) : PM (u2 J 42 14 x) tx n t := ⟨⟨h.1.1, h.1.2.1, fun k hk => h.1.2.2 k hk⟩, ⟨h.2.1.1, h.2.1.2.1, h.2.1.2.2.1, h.2.1.2.2.2⟩, h.2.2⟩
def QMD (I : MI) (L : ML) (tx : Nat → Nat) (n : Nat) (r : RI) (T : TR) : Prop := match r with
  | .inl u => ∃ J, T = (some (.int (-10 - nI (tkP tx n u))), shF, J, L) ∧ FRy I J
  | .inr (i, D, fs) => ∃ J, T = (some (.int (nI i)), shF, setM J fs.length, L) ∧ FRy I J ∧ FGm J D ∧ TPm J fs
theorem s_readsItem_F (X : Ctx) (d : Nat) (I : MI) (L : ML) (tx : Nat → Nat) (n F t : Nat) (h : PM I tx n t) (hF14 : I 42 14 = nI F) (hF : F < 4) : ∃ T, QRS I L tx n F (rdS (tkK tx n) (tkV tx n) F 8 t 0 []) T ∧ Sp X mX6_readsItem (d + 7) (0, 0) [.ref 42, .int (nI 70)] shF I L T := by
  refine qU (fun T_ k_ => Sp.of okX6_readsItem [.ref 42, .int (nI 70), .null, .null, .null] 3 rfl (Nat.le_of_ble_eq_true rfl) k_) ?_
  obtain ⟨T1, Q1, S1⟩ := s_readsSum X d I L tx n F t h hF14 hF
  have hT : ∃ J, T1 = (none, shF, J, L) := by
    cases R : rdS (tkK tx n) (tkV tx n) F 8 t 0 [] with
    | inl u => rw [R] at Q1; obtain ⟨J, e, -⟩ := Q1; exact ⟨_, e⟩
    | inr v => obtain ⟨i, u, c, l⟩ := v; rw [R] at Q1; obtain ⟨J, e, -⟩ := Q1; exact ⟨_, e⟩
  obtain ⟨J1, rfl⟩ := hT
  refine qU (fun T_ k_ => r_iload_n (pc := 0) dX6_readsItem_0 rfl k_) ?_
  refine qU (fun T_ k_ => r_bipush (pc := 1) dX6_readsItem_1 bp_70 k_) ?_
  refine qN (fun T_ => r_icmpN_ne (pc := 3) (tgt := 11) dX6_readsItem_3 (by decide) (by omega) (by omega)) (fun c1 => ?_) (fun c1 => ?_)
  · exact absurd c1 (by decide)
  · refine qU (fun T_ k_ => r_aload_n (pc := 6) dX6_readsItem_6 rfl k_) ?_
    refine qU (fun T_ k_ => r_callV (pc := 7) (N := mX6_readsSum) (rest := []) (S1) okX6_readsSum lkX6_190 rfl (by decide) rfl rfl rfl (Nat.le_of_ble_eq_true rfl) ⟨Nat.le_refl _, Nat.le_refl _⟩ dX6_readsItem_7 k_) ?_
    exact ⟨_, Q1, r_vret dX6_readsItem_10 rfl rfl rfl⟩
theorem lp_mdesk (X : Ctx) (d : Nat) (I : MI) (L : ML) (tx : Nat → Nat) (n : Nat) : ∀ (f i t : Nat) (J : MI) (D : Nat → Int32) (fs : List (List Q4)), i + f = 100 → i ≤ bps tx n t → PM J tx n t → FRy I J → FGm J D → TPm J fs → ∃ T, QMD I L tx n (rdAll (tkK tx n) (tkV tx n) f i t D fs) T ∧ Ev X mX6_desk (d + 8) (0, 0) (0, 0) T 25 [.ref 42, .int (nI i), .null] [] shF J L := by
  intro f
  induction f with
  | zero =>
    intro i t J D fs hi hb P FR G T
    have hk0 : tkK tx n t = 0 := tkK_end (by have := P.1.2.1; omega)
    rw [rdAll_0 hk0]
    refine qU (fun T_ k_ => r_aload_n (pc := 25) dX6_desk_25 rfl k_) ?_
    refine qU (fun T_ k_ => r_callV (pc := 26) (N := mX6_isWell) (rest := []) (s_isWell_t X _ J L P.2.2) okX6_isWell lkX6_127 rfl (by decide) rfl rfl rfl (Nat.le_of_ble_eq_true rfl) ⟨Nat.le_refl _, Nat.le_refl _⟩ dX6_desk_26 k_) ?_
    refine qP (fun T_ => r_ifN_eq (pc := 29) (tgt := 113) dX6_desk_29 (by decide) (by omega)) (fun c1 => ?_) (fun c1 => ?_)
    · exact absurd c1 (by decide)
    · refine qU (fun T_ k_ => r_aload_n (pc := 32) dX6_desk_32 rfl k_) ?_
      refine qU (fun T_ k_ => r_getV (pc := 33) (v := nI 0) dX6_desk_33 fX6_114 rfl rfl ((P.2.1.2.2.1.trans (congrArg nI (kdM_0.mpr hk0)))) k_) ?_
      refine qP (fun T_ => r_ifN_eq (pc := 36) (tgt := 113) dX6_desk_36 (by decide) (by omega)) (fun c2 => ?_) (fun c2 => ?_)
      · refine qU (fun T_ k_ => r_aload_n (pc := 113) dX6_desk_113 rfl k_) ?_
        refine qU (fun T_ k_ => r_callV (pc := 114) (N := mX6_isWell) (rest := []) (s_isWell_t X _ J L P.2.2) okX6_isWell lkX6_127 rfl (by decide) rfl rfl rfl (Nat.le_of_ble_eq_true rfl) ⟨Nat.le_refl _, Nat.le_refl _⟩ dX6_desk_114 k_) ?_
        refine qN (fun T_ => r_ifN_ne (pc := 117) (tgt := 128) dX6_desk_117 (by decide) (by omega)) (fun c3 => ?_) (fun c3 => ?_)
        · refine qU (fun T_ k_ => r_aload_n (pc := 128) dX6_desk_128 rfl k_) ?_
          refine qU (fun T_ k_ => r_callV (pc := 129) (N := mX6_settles) (rest := []) (s_settles X _ J L fs.length T.1 T.2.1) okX6_settles lkX6_90 rfl (by decide) rfl rfl rfl (Nat.le_of_ble_eq_true rfl) ⟨Nat.le_refl _, Nat.le_refl _⟩ dX6_desk_129 k_) ?_
          refine qU (fun T_ k_ => r_iload_n (pc := 132) dX6_desk_132 rfl k_) ?_
          exact ⟨_, ⟨_, rfl, FR, G, T⟩, r_iret dX6_desk_133 rfl rfl rfl⟩
        · exact absurd c3 (by decide)
      · exact absurd c2 (by decide)
  | succ f ih =>
    intro i t J D fs hi hb P FR G T
    by_cases hk0 : tkK tx n t = 0
    · rw [rdAll_0 hk0]
      refine qU (fun T_ k_ => r_aload_n (pc := 25) dX6_desk_25 rfl k_) ?_
      refine qU (fun T_ k_ => r_callV (pc := 26) (N := mX6_isWell) (rest := []) (s_isWell_t X _ J L P.2.2) okX6_isWell lkX6_127 rfl (by decide) rfl rfl rfl (Nat.le_of_ble_eq_true rfl) ⟨Nat.le_refl _, Nat.le_refl _⟩ dX6_desk_26 k_) ?_
      refine qP (fun T_ => r_ifN_eq (pc := 29) (tgt := 113) dX6_desk_29 (by decide) (by omega)) (fun c1 => ?_) (fun c1 => ?_)
      · exact absurd c1 (by decide)
      · refine qU (fun T_ k_ => r_aload_n (pc := 32) dX6_desk_32 rfl k_) ?_
        refine qU (fun T_ k_ => r_getV (pc := 33) (v := nI 0) dX6_desk_33 fX6_114 rfl rfl ((P.2.1.2.2.1.trans (congrArg nI (kdM_0.mpr hk0)))) k_) ?_
        refine qP (fun T_ => r_ifN_eq (pc := 36) (tgt := 113) dX6_desk_36 (by decide) (by omega)) (fun c2 => ?_) (fun c2 => ?_)
        · refine qU (fun T_ k_ => r_aload_n (pc := 113) dX6_desk_113 rfl k_) ?_
          refine qU (fun T_ k_ => r_callV (pc := 114) (N := mX6_isWell) (rest := []) (s_isWell_t X _ J L P.2.2) okX6_isWell lkX6_127 rfl (by decide) rfl rfl rfl (Nat.le_of_ble_eq_true rfl) ⟨Nat.le_refl _, Nat.le_refl _⟩ dX6_desk_114 k_) ?_
          refine qN (fun T_ => r_ifN_ne (pc := 117) (tgt := 128) dX6_desk_117 (by decide) (by omega)) (fun c3 => ?_) (fun c3 => ?_)
          · refine qU (fun T_ k_ => r_aload_n (pc := 128) dX6_desk_128 rfl k_) ?_
            refine qU (fun T_ k_ => r_callV (pc := 129) (N := mX6_settles) (rest := []) (s_settles X _ J L fs.length T.1 T.2.1) okX6_settles lkX6_90 rfl (by decide) rfl rfl rfl (Nat.le_of_ble_eq_true rfl) ⟨Nat.le_refl _, Nat.le_refl _⟩ dX6_desk_129 k_) ?_
            refine qU (fun T_ k_ => r_iload_n (pc := 132) dX6_desk_132 rfl k_) ?_
            exact ⟨_, ⟨_, rfl, FR, G, T⟩, r_iret dX6_desk_133 rfl rfl rfl⟩
          · exact absurd c3 (by decide)
        · exact absurd c2 (by decide)
    · have bd := tm_bd P.1 t
      have hd3 := kdM_le (v := tkV tx n t) bd.1
      have hd0 : ¬ kdM (tkK tx n t) (tkV tx n t) = 0 := fun z => hk0 (kdM_0.mp z)
      by_cases hA : tkK tx n t = 1 ∧ tkV tx n t = 83
      · refine qU (fun T_ k_ => r_aload_n (pc := 25) dX6_desk_25 rfl k_) ?_
        refine qU (fun T_ k_ => r_callV (pc := 26) (N := mX6_isWell) (rest := []) (s_isWell_t X _ J L P.2.2) okX6_isWell lkX6_127 rfl (by decide) rfl rfl rfl (Nat.le_of_ble_eq_true rfl) ⟨Nat.le_refl _, Nat.le_refl _⟩ dX6_desk_26 k_) ?_
        refine qP (fun T_ => r_ifN_eq (pc := 29) (tgt := 113) dX6_desk_29 (by decide) (by omega)) (fun c1 => ?_) (fun c1 => ?_)
        · exact absurd c1 (by decide)
        · refine qU (fun T_ k_ => r_aload_n (pc := 32) dX6_desk_32 rfl k_) ?_
          refine qU (fun T_ k_ => r_getV (pc := 33) (v := nI (kdM (tkK tx n t) (tkV tx n t))) dX6_desk_33 fX6_114 rfl rfl (P.2.1.2.2.1) k_) ?_
          refine qP (fun T_ => r_ifN_eq (pc := 36) (tgt := 113) dX6_desk_36 (by decide) (by omega)) (fun c2 => ?_) (fun c2 => ?_)
          · exact absurd c2 (by omega)
          · refine qU (fun T_ k_ => r_aload_n (pc := 39) dX6_desk_39 rfl k_) ?_
            refine qU (fun T_ k_ => r_aload_n (pc := 40) dX6_desk_40 rfl k_) ?_
            refine qU (fun T_ k_ => r_bipush (pc := 41) dX6_desk_41 bp_83 k_) ?_
            refine qU (fun T_ k_ => r_callV (pc := 43) (N := mX6_isThis) (rest := [.ref 42]) (s_isThis_t X _ J L (83) tx n t P hA (by decide)) okX6_isThis lkX6_134 rfl (by decide) rfl rfl rfl (Nat.le_of_ble_eq_true rfl) ⟨Nat.le_refl _, Nat.le_refl _⟩ dX6_desk_43 k_) ?_
            refine qN (fun T_ => r_ifN_ne (pc := 46) (tgt := 75) dX6_desk_46 (by decide) (by omega)) (fun c3 => ?_) (fun c3 => ?_)
            · refine qU (fun T_ k_ => r_iconst (pc := 75) (v := nI 1) dX6_desk_75 rfl k_) ?_
              refine qU (fun T_ k_ => r_goto (pc := 76) (tgt := 80) dX6_desk_76 (by decide) k_) ?_
              obtain ⟨T171, ⟨J171, rfl, F171, C171⟩, S171⟩ := s_takes_t X (d + 4) J L tx n t P (83) ((P.2.1.2.2.2 (Or.inl hA.1)).trans (congrArg nI hA.2))
              have P171 := P.step F171 C171
              have U171 := T.fr (F171 42 14 (by decide)) (fun c j c1 c2 => F171 c j (by omega))
              have W171 := G.fr (fun j => F171 54 j (by omega))
              refine qU (fun T_ k_ => r_callV (pc := 80) (N := mX6_takes) (rest := []) (S171) okX6_takes lkX6_137 rfl (by decide) rfl rfl rfl (Nat.le_of_ble_eq_true rfl) ⟨Nat.le_refl _, Nat.le_refl _⟩ dX6_desk_80 k_) ?_
              refine qU (fun T_ k_ => r_istore_n (pc := 83) (lo1 := [.ref 42, .int (nI i), .int (nI 83)]) dX6_desk_83 rfl (by decide) rfl k_) ?_
              refine qU (fun T_ k_ => r_aload_n (pc := 84) dX6_desk_84 rfl k_) ?_
              refine qU (fun T_ k_ => r_callV (pc := 85) (N := mX6_isWell) (rest := []) (s_isWell_t X _ J171 L P171.2.2) okX6_isWell lkX6_127 rfl (by decide) rfl rfl rfl (Nat.le_of_ble_eq_true rfl) ⟨Nat.le_refl _, Nat.le_refl _⟩ dX6_desk_85 k_) ?_
              refine qP (fun T_ => r_ifN_eq (pc := 88) (tgt := 96) dX6_desk_88 (by decide) (by omega)) (fun c4 => ?_) (fun c4 => ?_)
              · exact absurd c4 (by decide)
              · refine qU (fun T_ k_ => r_aload_n (pc := 91) dX6_desk_91 rfl k_) ?_
                refine qU (fun T_ k_ => r_iload_n (pc := 92) dX6_desk_92 rfl k_) ?_
                obtain ⟨T172, Q172, S172⟩ := s_readsItem_S X (d + 1) J171 L tx n (t + 1) P171 D W171
                rcases R172 : rdSrc (tkK tx n) (tkV tx n) (t + 1) D with u172 | ⟨u172, D172⟩
                · rw [rdAll_f hk0 (it_S_f hA R172)]
                  rw [R172] at Q172
                  obtain ⟨J172, rfl, F172, C172⟩ := Q172
                  refine qU (fun T_ k_ => r_callV (pc := 93) (N := mX6_readsItem) (rest := []) (S172) okX6_readsItem lkX6_196 rfl (by decide) rfl rfl rfl (Nat.le_of_ble_eq_true rfl) ⟨Nat.le_refl _, Nat.le_refl _⟩ dX6_desk_93 k_) ?_
                  refine qU (fun T_ k_ => r_aload_n (pc := 96) dX6_desk_96 rfl k_) ?_
                  refine qU (fun T_ k_ => r_aload_n (pc := 97) dX6_desk_97 rfl k_) ?_
                  refine qU (fun T_ k_ => r_bipush (pc := 98) dX6_desk_98 bp_59 k_) ?_
                  refine qU (fun T_ k_ => r_callV (pc := 100) (N := mX6_isThis) (rest := [.ref 42]) (s_isThis_n X _ J172 L (59) (tkP tx n u172) C172 (Nat.le_trans (tkP_le u172) P.1.2.1)) okX6_isThis lkX6_134 rfl (by decide) rfl rfl rfl (Nat.le_of_ble_eq_true rfl) ⟨Nat.le_refl _, Nat.le_refl _⟩ dX6_desk_100 k_) ?_
                  refine qU (fun T_ k_ => r_callV (pc := 103) (N := mX6_takes) (rest := []) (s_takes_n X _ J172 L _ (tkP tx n u172) C172 (Nat.le_trans (tkP_le u172) P.1.2.1)) okX6_takes lkX6_137 rfl (by decide) rfl rfl rfl (Nat.le_of_ble_eq_true rfl) ⟨Nat.le_refl _, Nat.le_refl _⟩ dX6_desk_103 k_) ?_
                  refine qU (fun T_ k_ => r_pop (pc := 106) dX6_desk_106 rfl k_) ?_
                  refine qU (fun T_ k_ => r_iinc (pc := 107) (v := nI (i + 1)) (lo1 := [.ref 42, .int (nI (i + 1)), .int (nI 83)]) dX6_desk_107 rfl rfl (ii1 _) (by decide) rfl k_) ?_
                  refine qU (fun T_ k_ => r_goto (pc := 110) (tgt := 25) dX6_desk_110 (by decide) k_) ?_
                  refine qU (fun T_ k_ => r_aload_n (pc := 25) dX6_desk_25 rfl k_) ?_
                  refine qU (fun T_ k_ => r_callV (pc := 26) (N := mX6_isWell) (rest := []) (s_isWell_f X _ J172 L (tkP tx n u172) C172 (Nat.le_trans (tkP_le u172) P.1.2.1)) okX6_isWell lkX6_127 rfl (by decide) rfl rfl rfl (Nat.le_of_ble_eq_true rfl) ⟨Nat.le_refl _, Nat.le_refl _⟩ dX6_desk_26 k_) ?_
                  refine qP (fun T_ => r_ifN_eq (pc := 29) (tgt := 113) dX6_desk_29 (by decide) (by omega)) (fun c5 => ?_) (fun c5 => ?_)
                  · refine qU (fun T_ k_ => r_aload_n (pc := 113) dX6_desk_113 rfl k_) ?_
                    refine qU (fun T_ k_ => r_callV (pc := 114) (N := mX6_isWell) (rest := []) (s_isWell_f X _ J172 L (tkP tx n u172) C172 (Nat.le_trans (tkP_le u172) P.1.2.1)) okX6_isWell lkX6_127 rfl (by decide) rfl rfl rfl (Nat.le_of_ble_eq_true rfl) ⟨Nat.le_refl _, Nat.le_refl _⟩ dX6_desk_114 k_) ?_
                    refine qN (fun T_ => r_ifN_ne (pc := 117) (tgt := 128) dX6_desk_117 (by decide) (by omega)) (fun c6 => ?_) (fun c6 => ?_)
                    · exact absurd c6 (by decide)
                    · refine qU (fun T_ k_ => r_bipush (pc := 120) dX6_desk_120 bp_m10 k_) ?_
                      refine qU (fun T_ k_ => r_aload_n (pc := 122) dX6_desk_122 rfl k_) ?_
                      refine qU (fun T_ k_ => r_getV (pc := 123) (v := nI (tkP tx n u172)) dX6_desk_123 fX6_124 rfl rfl (C172) k_) ?_
                      refine qU (fun T_ k_ => r_isub (pc := 126) dX6_desk_126 k_) ?_
                      exact ⟨_, ⟨_, rfl, ((FR).trans F171.y).trans F172.y⟩, r_iret dX6_desk_127 rfl rfl rfl⟩
                  · exact absurd c5 (by decide)
                · have ht172 := rdSrc_t R172
                  rw [R172] at Q172
                  obtain ⟨J172, rfl, F172, P172, G172⟩ := Q172
                  have U172 := U171.fr (F172 42 14 (by decide) (by decide)) (fun c j c1 c2 => F172 c j (by omega) (by omega))
                  refine qU (fun T_ k_ => r_callV (pc := 93) (N := mX6_readsItem) (rest := []) (S172) okX6_readsItem lkX6_196 rfl (by decide) rfl rfl rfl (Nat.le_of_ble_eq_true rfl) ⟨Nat.le_refl _, Nat.le_refl _⟩ dX6_desk_93 k_) ?_
                  refine qU (fun T_ k_ => r_aload_n (pc := 96) dX6_desk_96 rfl k_) ?_
                  refine qU (fun T_ k_ => r_aload_n (pc := 97) dX6_desk_97 rfl k_) ?_
                  refine qU (fun T_ k_ => r_bipush (pc := 98) dX6_desk_98 bp_59 k_) ?_
                  by_cases hZ : tkK tx n u172 = 1 ∧ tkV tx n u172 = 59
                  · rw [rdAll_s hk0 (it_S_g hA R172 hZ)]
                    refine qU (fun T_ k_ => r_callV (pc := 100) (N := mX6_isThis) (rest := [.ref 42]) (s_isThis_t X _ J172 L 59 tx n u172 P172 hZ (by decide)) okX6_isThis lkX6_134 rfl (by decide) rfl rfl rfl (Nat.le_of_ble_eq_true rfl) ⟨Nat.le_refl _, Nat.le_refl _⟩ dX6_desk_100 k_) ?_
                    obtain ⟨T173, ⟨J173, rfl, F173, C173⟩, S173⟩ := s_takes_t X (d + 4) J172 L tx n u172 P172 (59) ((P172.2.1.2.2.2 (Or.inl hZ.1)).trans (congrArg nI hZ.2))
                    have P173 := P172.step F173 C173
                    have U173 := U172.fr (F173 42 14 (by decide)) (fun c j c1 c2 => F173 c j (by omega))
                    have W173 := G172.fr (fun j => F173 54 j (by omega))
                    refine qU (fun T_ k_ => r_callV (pc := 103) (N := mX6_takes) (rest := []) (S173) okX6_takes lkX6_137 rfl (by decide) rfl rfl rfl (Nat.le_of_ble_eq_true rfl) ⟨Nat.le_refl _, Nat.le_refl _⟩ dX6_desk_103 k_) ?_
                    refine qU (fun T_ k_ => r_pop (pc := 106) dX6_desk_106 rfl k_) ?_
                    refine qU (fun T_ k_ => r_iinc (pc := 107) (v := nI (i + 1)) (lo1 := [.ref 42, .int (nI (i + 1)), .int (nI 83)]) dX6_desk_107 rfl rfl (ii1 _) (by decide) rfl k_) ?_
                    refine qU (fun T_ k_ => r_goto (pc := 110) (tgt := 25) dX6_desk_110 (by decide) k_) ?_
                    refine qU (fun T_ k_ => r_drop (lo1 := [.ref 42, .int (nI (i + 1)), .null]) 2 rfl k_) ?_
                    exact ih (i + 1) (u172 + 1) _ D172 fs (by omega) (Nat.lt_of_le_of_lt hb (bps_lt hk0 (by omega))) P173 ((((FR).trans F171.y).trans F172.y).trans F173.y) W173 U173
                  · rw [rdAll_f hk0 (it_S_n hA R172 hZ)]
                    refine qU (fun T_ k_ => r_callV (pc := 100) (N := mX6_isThis) (rest := [.ref 42]) (s_isThis_f X _ J172 L 59 (by decide) tx n u172 P172 hZ) okX6_isThis lkX6_134 rfl (by decide) rfl rfl rfl (Nat.le_of_ble_eq_true rfl) ⟨Nat.le_refl _, Nat.le_refl _⟩ dX6_desk_100 k_) ?_
                    refine qU (fun T_ k_ => r_callV (pc := 103) (N := mX6_takes) (rest := []) (s_takes_f X _ J172 L tx n u172 P172) okX6_takes lkX6_137 rfl (by decide) rfl rfl rfl (Nat.le_of_ble_eq_true rfl) ⟨Nat.le_refl _, Nat.le_refl _⟩ dX6_desk_103 k_) ?_
                    refine qU (fun T_ k_ => r_pop (pc := 106) dX6_desk_106 rfl k_) ?_
                    refine qU (fun T_ k_ => r_iinc (pc := 107) (v := nI (i + 1)) (lo1 := [.ref 42, .int (nI (i + 1)), .int (nI 83)]) dX6_desk_107 rfl rfl (ii1 _) (by decide) rfl k_) ?_
                    refine qU (fun T_ k_ => r_goto (pc := 110) (tgt := 25) dX6_desk_110 (by decide) k_) ?_
                    refine qU (fun T_ k_ => r_aload_n (pc := 25) dX6_desk_25 rfl k_) ?_
                    refine qU (fun T_ k_ => r_callV (pc := 26) (N := mX6_isWell) (rest := []) (s_isWell_f X _ (u2 J172 42 7 (nI (tkP tx n u172))) L (tkP tx n u172) rfl (Nat.le_trans (tkP_le u172) P172.1.2.1)) okX6_isWell lkX6_127 rfl (by decide) rfl rfl rfl (Nat.le_of_ble_eq_true rfl) ⟨Nat.le_refl _, Nat.le_refl _⟩ dX6_desk_26 k_) ?_
                    refine qP (fun T_ => r_ifN_eq (pc := 29) (tgt := 113) dX6_desk_29 (by decide) (by omega)) (fun c7 => ?_) (fun c7 => ?_)
                    · refine qU (fun T_ k_ => r_aload_n (pc := 113) dX6_desk_113 rfl k_) ?_
                      refine qU (fun T_ k_ => r_callV (pc := 114) (N := mX6_isWell) (rest := []) (s_isWell_f X _ (u2 J172 42 7 (nI (tkP tx n u172))) L (tkP tx n u172) rfl (Nat.le_trans (tkP_le u172) P172.1.2.1)) okX6_isWell lkX6_127 rfl (by decide) rfl rfl rfl (Nat.le_of_ble_eq_true rfl) ⟨Nat.le_refl _, Nat.le_refl _⟩ dX6_desk_114 k_) ?_
                      refine qN (fun T_ => r_ifN_ne (pc := 117) (tgt := 128) dX6_desk_117 (by decide) (by omega)) (fun c8 => ?_) (fun c8 => ?_)
                      · exact absurd c8 (by decide)
                      · refine qU (fun T_ k_ => r_bipush (pc := 120) dX6_desk_120 bp_m10 k_) ?_
                        refine qU (fun T_ k_ => r_aload_n (pc := 122) dX6_desk_122 rfl k_) ?_
                        refine qU (fun T_ k_ => r_getV (pc := 123) (v := nI (tkP tx n u172)) dX6_desk_123 fX6_124 rfl rfl (rfl) k_) ?_
                        refine qU (fun T_ k_ => r_isub (pc := 126) dX6_desk_126 k_) ?_
                        exact ⟨_, ⟨_, rfl, (((FR).trans F171.y).trans F172.y).put 7 _ (by decide)⟩, r_iret dX6_desk_127 rfl rfl rfl⟩
                    · exact absurd c7 (by decide)
            · exact absurd c3 (by decide)
      · have n83 := hA
        by_cases hA : tkK tx n t = 1 ∧ tkV tx n t = 67
        · refine qU (fun T_ k_ => r_aload_n (pc := 25) dX6_desk_25 rfl k_) ?_
          refine qU (fun T_ k_ => r_callV (pc := 26) (N := mX6_isWell) (rest := []) (s_isWell_t X _ J L P.2.2) okX6_isWell lkX6_127 rfl (by decide) rfl rfl rfl (Nat.le_of_ble_eq_true rfl) ⟨Nat.le_refl _, Nat.le_refl _⟩ dX6_desk_26 k_) ?_
          refine qP (fun T_ => r_ifN_eq (pc := 29) (tgt := 113) dX6_desk_29 (by decide) (by omega)) (fun c1 => ?_) (fun c1 => ?_)
          · exact absurd c1 (by decide)
          · refine qU (fun T_ k_ => r_aload_n (pc := 32) dX6_desk_32 rfl k_) ?_
            refine qU (fun T_ k_ => r_getV (pc := 33) (v := nI (kdM (tkK tx n t) (tkV tx n t))) dX6_desk_33 fX6_114 rfl rfl (P.2.1.2.2.1) k_) ?_
            refine qP (fun T_ => r_ifN_eq (pc := 36) (tgt := 113) dX6_desk_36 (by decide) (by omega)) (fun c2 => ?_) (fun c2 => ?_)
            · exact absurd c2 (by omega)
            · refine qU (fun T_ k_ => r_aload_n (pc := 39) dX6_desk_39 rfl k_) ?_
              refine qU (fun T_ k_ => r_aload_n (pc := 40) dX6_desk_40 rfl k_) ?_
              refine qU (fun T_ k_ => r_bipush (pc := 41) dX6_desk_41 bp_83 k_) ?_
              refine qU (fun T_ k_ => r_callV (pc := 43) (N := mX6_isThis) (rest := [.ref 42]) (s_isThis_f X _ J L (83) (by decide) tx n t P n83) okX6_isThis lkX6_134 rfl (by decide) rfl rfl rfl (Nat.le_of_ble_eq_true rfl) ⟨Nat.le_refl _, Nat.le_refl _⟩ dX6_desk_43 k_) ?_
              refine qN (fun T_ => r_ifN_ne (pc := 46) (tgt := 75) dX6_desk_46 (by decide) (by omega)) (fun c3 => ?_) (fun c3 => ?_)
              · exact absurd c3 (by decide)
              · refine qU (fun T_ k_ => r_aload_n (pc := 49) dX6_desk_49 rfl k_) ?_
                refine qU (fun T_ k_ => r_bipush (pc := 50) dX6_desk_50 bp_67 k_) ?_
                refine qU (fun T_ k_ => r_callV (pc := 52) (N := mX6_isThis) (rest := [.ref 42]) (s_isThis_t X _ J L (67) tx n t P hA (by decide)) okX6_isThis lkX6_134 rfl (by decide) rfl rfl rfl (Nat.le_of_ble_eq_true rfl) ⟨Nat.le_refl _, Nat.le_refl _⟩ dX6_desk_52 k_) ?_
                refine qN (fun T_ => r_ifN_ne (pc := 55) (tgt := 75) dX6_desk_55 (by decide) (by omega)) (fun c4 => ?_) (fun c4 => ?_)
                · refine qU (fun T_ k_ => r_iconst (pc := 75) (v := nI 1) dX6_desk_75 rfl k_) ?_
                  refine qU (fun T_ k_ => r_goto (pc := 76) (tgt := 80) dX6_desk_76 (by decide) k_) ?_
                  obtain ⟨T175, ⟨J175, rfl, F175, C175⟩, S175⟩ := s_takes_t X (d + 4) J L tx n t P (67) ((P.2.1.2.2.2 (Or.inl hA.1)).trans (congrArg nI hA.2))
                  have P175 := P.step F175 C175
                  have U175 := T.fr (F175 42 14 (by decide)) (fun c j c1 c2 => F175 c j (by omega))
                  have W175 := G.fr (fun j => F175 54 j (by omega))
                  refine qU (fun T_ k_ => r_callV (pc := 80) (N := mX6_takes) (rest := []) (S175) okX6_takes lkX6_137 rfl (by decide) rfl rfl rfl (Nat.le_of_ble_eq_true rfl) ⟨Nat.le_refl _, Nat.le_refl _⟩ dX6_desk_80 k_) ?_
                  refine qU (fun T_ k_ => r_istore_n (pc := 83) (lo1 := [.ref 42, .int (nI i), .int (nI 67)]) dX6_desk_83 rfl (by decide) rfl k_) ?_
                  refine qU (fun T_ k_ => r_aload_n (pc := 84) dX6_desk_84 rfl k_) ?_
                  refine qU (fun T_ k_ => r_callV (pc := 85) (N := mX6_isWell) (rest := []) (s_isWell_t X _ J175 L P175.2.2) okX6_isWell lkX6_127 rfl (by decide) rfl rfl rfl (Nat.le_of_ble_eq_true rfl) ⟨Nat.le_refl _, Nat.le_refl _⟩ dX6_desk_85 k_) ?_
                  refine qP (fun T_ => r_ifN_eq (pc := 88) (tgt := 96) dX6_desk_88 (by decide) (by omega)) (fun c5 => ?_) (fun c5 => ?_)
                  · exact absurd c5 (by decide)
                  · refine qU (fun T_ k_ => r_aload_n (pc := 91) dX6_desk_91 rfl k_) ?_
                    refine qU (fun T_ k_ => r_iload_n (pc := 92) dX6_desk_92 rfl k_) ?_
                    obtain ⟨T176, Q176, S176⟩ := s_readsItem_C X (d + 1) J175 L tx n (t + 1) P175 D W175
                    rcases R176 : rdJnt (tkK tx n) (tkV tx n) (t + 1) D with u176 | ⟨u176, D176⟩
                    · rw [rdAll_f hk0 (it_C_f hA R176)]
                      rw [R176] at Q176
                      obtain ⟨J176, rfl, F176, C176⟩ := Q176
                      refine qU (fun T_ k_ => r_callV (pc := 93) (N := mX6_readsItem) (rest := []) (S176) okX6_readsItem lkX6_196 rfl (by decide) rfl rfl rfl (Nat.le_of_ble_eq_true rfl) ⟨Nat.le_refl _, Nat.le_refl _⟩ dX6_desk_93 k_) ?_
                      refine qU (fun T_ k_ => r_aload_n (pc := 96) dX6_desk_96 rfl k_) ?_
                      refine qU (fun T_ k_ => r_aload_n (pc := 97) dX6_desk_97 rfl k_) ?_
                      refine qU (fun T_ k_ => r_bipush (pc := 98) dX6_desk_98 bp_59 k_) ?_
                      refine qU (fun T_ k_ => r_callV (pc := 100) (N := mX6_isThis) (rest := [.ref 42]) (s_isThis_n X _ J176 L (59) (tkP tx n u176) C176 (Nat.le_trans (tkP_le u176) P.1.2.1)) okX6_isThis lkX6_134 rfl (by decide) rfl rfl rfl (Nat.le_of_ble_eq_true rfl) ⟨Nat.le_refl _, Nat.le_refl _⟩ dX6_desk_100 k_) ?_
                      refine qU (fun T_ k_ => r_callV (pc := 103) (N := mX6_takes) (rest := []) (s_takes_n X _ J176 L _ (tkP tx n u176) C176 (Nat.le_trans (tkP_le u176) P.1.2.1)) okX6_takes lkX6_137 rfl (by decide) rfl rfl rfl (Nat.le_of_ble_eq_true rfl) ⟨Nat.le_refl _, Nat.le_refl _⟩ dX6_desk_103 k_) ?_
                      refine qU (fun T_ k_ => r_pop (pc := 106) dX6_desk_106 rfl k_) ?_
                      refine qU (fun T_ k_ => r_iinc (pc := 107) (v := nI (i + 1)) (lo1 := [.ref 42, .int (nI (i + 1)), .int (nI 67)]) dX6_desk_107 rfl rfl (ii1 _) (by decide) rfl k_) ?_
                      refine qU (fun T_ k_ => r_goto (pc := 110) (tgt := 25) dX6_desk_110 (by decide) k_) ?_
                      refine qU (fun T_ k_ => r_aload_n (pc := 25) dX6_desk_25 rfl k_) ?_
                      refine qU (fun T_ k_ => r_callV (pc := 26) (N := mX6_isWell) (rest := []) (s_isWell_f X _ J176 L (tkP tx n u176) C176 (Nat.le_trans (tkP_le u176) P.1.2.1)) okX6_isWell lkX6_127 rfl (by decide) rfl rfl rfl (Nat.le_of_ble_eq_true rfl) ⟨Nat.le_refl _, Nat.le_refl _⟩ dX6_desk_26 k_) ?_
                      refine qP (fun T_ => r_ifN_eq (pc := 29) (tgt := 113) dX6_desk_29 (by decide) (by omega)) (fun c6 => ?_) (fun c6 => ?_)
                      · refine qU (fun T_ k_ => r_aload_n (pc := 113) dX6_desk_113 rfl k_) ?_
                        refine qU (fun T_ k_ => r_callV (pc := 114) (N := mX6_isWell) (rest := []) (s_isWell_f X _ J176 L (tkP tx n u176) C176 (Nat.le_trans (tkP_le u176) P.1.2.1)) okX6_isWell lkX6_127 rfl (by decide) rfl rfl rfl (Nat.le_of_ble_eq_true rfl) ⟨Nat.le_refl _, Nat.le_refl _⟩ dX6_desk_114 k_) ?_
                        refine qN (fun T_ => r_ifN_ne (pc := 117) (tgt := 128) dX6_desk_117 (by decide) (by omega)) (fun c7 => ?_) (fun c7 => ?_)
                        · exact absurd c7 (by decide)
                        · refine qU (fun T_ k_ => r_bipush (pc := 120) dX6_desk_120 bp_m10 k_) ?_
                          refine qU (fun T_ k_ => r_aload_n (pc := 122) dX6_desk_122 rfl k_) ?_
                          refine qU (fun T_ k_ => r_getV (pc := 123) (v := nI (tkP tx n u176)) dX6_desk_123 fX6_124 rfl rfl (C176) k_) ?_
                          refine qU (fun T_ k_ => r_isub (pc := 126) dX6_desk_126 k_) ?_
                          exact ⟨_, ⟨_, rfl, ((FR).trans F175.y).trans F176.y⟩, r_iret dX6_desk_127 rfl rfl rfl⟩
                      · exact absurd c6 (by decide)
                    · have ht176 := rdJnt_t R176
                      rw [R176] at Q176
                      obtain ⟨J176, rfl, F176, P176, G176⟩ := Q176
                      have U176 := U175.fr (F176 42 14 (by decide) (by decide)) (fun c j c1 c2 => F176 c j (by omega) (by omega))
                      refine qU (fun T_ k_ => r_callV (pc := 93) (N := mX6_readsItem) (rest := []) (S176) okX6_readsItem lkX6_196 rfl (by decide) rfl rfl rfl (Nat.le_of_ble_eq_true rfl) ⟨Nat.le_refl _, Nat.le_refl _⟩ dX6_desk_93 k_) ?_
                      refine qU (fun T_ k_ => r_aload_n (pc := 96) dX6_desk_96 rfl k_) ?_
                      refine qU (fun T_ k_ => r_aload_n (pc := 97) dX6_desk_97 rfl k_) ?_
                      refine qU (fun T_ k_ => r_bipush (pc := 98) dX6_desk_98 bp_59 k_) ?_
                      by_cases hZ : tkK tx n u176 = 1 ∧ tkV tx n u176 = 59
                      · rw [rdAll_s hk0 (it_C_g hA R176 hZ)]
                        refine qU (fun T_ k_ => r_callV (pc := 100) (N := mX6_isThis) (rest := [.ref 42]) (s_isThis_t X _ J176 L 59 tx n u176 P176 hZ (by decide)) okX6_isThis lkX6_134 rfl (by decide) rfl rfl rfl (Nat.le_of_ble_eq_true rfl) ⟨Nat.le_refl _, Nat.le_refl _⟩ dX6_desk_100 k_) ?_
                        obtain ⟨T177, ⟨J177, rfl, F177, C177⟩, S177⟩ := s_takes_t X (d + 4) J176 L tx n u176 P176 (59) ((P176.2.1.2.2.2 (Or.inl hZ.1)).trans (congrArg nI hZ.2))
                        have P177 := P176.step F177 C177
                        have U177 := U176.fr (F177 42 14 (by decide)) (fun c j c1 c2 => F177 c j (by omega))
                        have W177 := G176.fr (fun j => F177 54 j (by omega))
                        refine qU (fun T_ k_ => r_callV (pc := 103) (N := mX6_takes) (rest := []) (S177) okX6_takes lkX6_137 rfl (by decide) rfl rfl rfl (Nat.le_of_ble_eq_true rfl) ⟨Nat.le_refl _, Nat.le_refl _⟩ dX6_desk_103 k_) ?_
                        refine qU (fun T_ k_ => r_pop (pc := 106) dX6_desk_106 rfl k_) ?_
                        refine qU (fun T_ k_ => r_iinc (pc := 107) (v := nI (i + 1)) (lo1 := [.ref 42, .int (nI (i + 1)), .int (nI 67)]) dX6_desk_107 rfl rfl (ii1 _) (by decide) rfl k_) ?_
                        refine qU (fun T_ k_ => r_goto (pc := 110) (tgt := 25) dX6_desk_110 (by decide) k_) ?_
                        refine qU (fun T_ k_ => r_drop (lo1 := [.ref 42, .int (nI (i + 1)), .null]) 2 rfl k_) ?_
                        exact ih (i + 1) (u176 + 1) _ D176 fs (by omega) (Nat.lt_of_le_of_lt hb (bps_lt hk0 (by omega))) P177 ((((FR).trans F175.y).trans F176.y).trans F177.y) W177 U177
                      · rw [rdAll_f hk0 (it_C_n hA R176 hZ)]
                        refine qU (fun T_ k_ => r_callV (pc := 100) (N := mX6_isThis) (rest := [.ref 42]) (s_isThis_f X _ J176 L 59 (by decide) tx n u176 P176 hZ) okX6_isThis lkX6_134 rfl (by decide) rfl rfl rfl (Nat.le_of_ble_eq_true rfl) ⟨Nat.le_refl _, Nat.le_refl _⟩ dX6_desk_100 k_) ?_
                        refine qU (fun T_ k_ => r_callV (pc := 103) (N := mX6_takes) (rest := []) (s_takes_f X _ J176 L tx n u176 P176) okX6_takes lkX6_137 rfl (by decide) rfl rfl rfl (Nat.le_of_ble_eq_true rfl) ⟨Nat.le_refl _, Nat.le_refl _⟩ dX6_desk_103 k_) ?_
                        refine qU (fun T_ k_ => r_pop (pc := 106) dX6_desk_106 rfl k_) ?_
                        refine qU (fun T_ k_ => r_iinc (pc := 107) (v := nI (i + 1)) (lo1 := [.ref 42, .int (nI (i + 1)), .int (nI 67)]) dX6_desk_107 rfl rfl (ii1 _) (by decide) rfl k_) ?_
                        refine qU (fun T_ k_ => r_goto (pc := 110) (tgt := 25) dX6_desk_110 (by decide) k_) ?_
                        refine qU (fun T_ k_ => r_aload_n (pc := 25) dX6_desk_25 rfl k_) ?_
                        refine qU (fun T_ k_ => r_callV (pc := 26) (N := mX6_isWell) (rest := []) (s_isWell_f X _ (u2 J176 42 7 (nI (tkP tx n u176))) L (tkP tx n u176) rfl (Nat.le_trans (tkP_le u176) P176.1.2.1)) okX6_isWell lkX6_127 rfl (by decide) rfl rfl rfl (Nat.le_of_ble_eq_true rfl) ⟨Nat.le_refl _, Nat.le_refl _⟩ dX6_desk_26 k_) ?_
                        refine qP (fun T_ => r_ifN_eq (pc := 29) (tgt := 113) dX6_desk_29 (by decide) (by omega)) (fun c8 => ?_) (fun c8 => ?_)
                        · refine qU (fun T_ k_ => r_aload_n (pc := 113) dX6_desk_113 rfl k_) ?_
                          refine qU (fun T_ k_ => r_callV (pc := 114) (N := mX6_isWell) (rest := []) (s_isWell_f X _ (u2 J176 42 7 (nI (tkP tx n u176))) L (tkP tx n u176) rfl (Nat.le_trans (tkP_le u176) P176.1.2.1)) okX6_isWell lkX6_127 rfl (by decide) rfl rfl rfl (Nat.le_of_ble_eq_true rfl) ⟨Nat.le_refl _, Nat.le_refl _⟩ dX6_desk_114 k_) ?_
                          refine qN (fun T_ => r_ifN_ne (pc := 117) (tgt := 128) dX6_desk_117 (by decide) (by omega)) (fun c9 => ?_) (fun c9 => ?_)
                          · exact absurd c9 (by decide)
                          · refine qU (fun T_ k_ => r_bipush (pc := 120) dX6_desk_120 bp_m10 k_) ?_
                            refine qU (fun T_ k_ => r_aload_n (pc := 122) dX6_desk_122 rfl k_) ?_
                            refine qU (fun T_ k_ => r_getV (pc := 123) (v := nI (tkP tx n u176)) dX6_desk_123 fX6_124 rfl rfl (rfl) k_) ?_
                            refine qU (fun T_ k_ => r_isub (pc := 126) dX6_desk_126 k_) ?_
                            exact ⟨_, ⟨_, rfl, (((FR).trans F175.y).trans F176.y).put 7 _ (by decide)⟩, r_iret dX6_desk_127 rfl rfl rfl⟩
                        · exact absurd c8 (by decide)
                · exact absurd c4 (by decide)
        · have n67 := hA
          by_cases hA : tkK tx n t = 1 ∧ tkV tx n t = 70
          · by_cases h4 : 4 ≤ fs.length
            · rw [rdAll_f hk0 (it_F_4 hA h4)]
              have hT4 := T.2.1
              refine qU (fun T_ k_ => r_aload_n (pc := 25) dX6_desk_25 rfl k_) ?_
              refine qU (fun T_ k_ => r_callV (pc := 26) (N := mX6_isWell) (rest := []) (s_isWell_t X _ J L P.2.2) okX6_isWell lkX6_127 rfl (by decide) rfl rfl rfl (Nat.le_of_ble_eq_true rfl) ⟨Nat.le_refl _, Nat.le_refl _⟩ dX6_desk_26 k_) ?_
              refine qP (fun T_ => r_ifN_eq (pc := 29) (tgt := 113) dX6_desk_29 (by decide) (by omega)) (fun c1 => ?_) (fun c1 => ?_)
              · exact absurd c1 (by decide)
              · refine qU (fun T_ k_ => r_aload_n (pc := 32) dX6_desk_32 rfl k_) ?_
                refine qU (fun T_ k_ => r_getV (pc := 33) (v := nI (kdM (tkK tx n t) (tkV tx n t))) dX6_desk_33 fX6_114 rfl rfl (P.2.1.2.2.1) k_) ?_
                refine qP (fun T_ => r_ifN_eq (pc := 36) (tgt := 113) dX6_desk_36 (by decide) (by omega)) (fun c2 => ?_) (fun c2 => ?_)
                · exact absurd c2 (by omega)
                · refine qU (fun T_ k_ => r_aload_n (pc := 39) dX6_desk_39 rfl k_) ?_
                  refine qU (fun T_ k_ => r_aload_n (pc := 40) dX6_desk_40 rfl k_) ?_
                  refine qU (fun T_ k_ => r_bipush (pc := 41) dX6_desk_41 bp_83 k_) ?_
                  refine qU (fun T_ k_ => r_callV (pc := 43) (N := mX6_isThis) (rest := [.ref 42]) (s_isThis_f X _ J L (83) (by decide) tx n t P n83) okX6_isThis lkX6_134 rfl (by decide) rfl rfl rfl (Nat.le_of_ble_eq_true rfl) ⟨Nat.le_refl _, Nat.le_refl _⟩ dX6_desk_43 k_) ?_
                  refine qN (fun T_ => r_ifN_ne (pc := 46) (tgt := 75) dX6_desk_46 (by decide) (by omega)) (fun c3 => ?_) (fun c3 => ?_)
                  · exact absurd c3 (by decide)
                  · refine qU (fun T_ k_ => r_aload_n (pc := 49) dX6_desk_49 rfl k_) ?_
                    refine qU (fun T_ k_ => r_bipush (pc := 50) dX6_desk_50 bp_67 k_) ?_
                    refine qU (fun T_ k_ => r_callV (pc := 52) (N := mX6_isThis) (rest := [.ref 42]) (s_isThis_f X _ J L (67) (by decide) tx n t P n67) okX6_isThis lkX6_134 rfl (by decide) rfl rfl rfl (Nat.le_of_ble_eq_true rfl) ⟨Nat.le_refl _, Nat.le_refl _⟩ dX6_desk_52 k_) ?_
                    refine qN (fun T_ => r_ifN_ne (pc := 55) (tgt := 75) dX6_desk_55 (by decide) (by omega)) (fun c4 => ?_) (fun c4 => ?_)
                    · exact absurd c4 (by decide)
                    · refine qU (fun T_ k_ => r_aload_n (pc := 58) dX6_desk_58 rfl k_) ?_
                      refine qU (fun T_ k_ => r_bipush (pc := 59) dX6_desk_59 bp_70 k_) ?_
                      refine qU (fun T_ k_ => r_callV (pc := 61) (N := mX6_isThis) (rest := [.ref 42]) (s_isThis_t X _ J L (70) tx n t P hA (by decide)) okX6_isThis lkX6_134 rfl (by decide) rfl rfl rfl (Nat.le_of_ble_eq_true rfl) ⟨Nat.le_refl _, Nat.le_refl _⟩ dX6_desk_61 k_) ?_
                      refine qP (fun T_ => r_ifN_eq (pc := 64) (tgt := 79) dX6_desk_64 (by decide) (by omega)) (fun c5 => ?_) (fun c5 => ?_)
                      · exact absurd c5 (by decide)
                      · refine qU (fun T_ k_ => r_aload_n (pc := 67) dX6_desk_67 rfl k_) ?_
                        refine qU (fun T_ k_ => r_getV (pc := 68) (v := nI fs.length) dX6_desk_68 fX6_145 rfl rfl (T.1) k_) ?_
                        refine qU (fun T_ k_ => r_iconst (pc := 71) (v := nI 4) dX6_desk_71 rfl k_) ?_
                        refine qP (fun T_ => r_icmpN_ge (pc := 72) (tgt := 79) dX6_desk_72 (by decide) (by omega) (by omega)) (fun c6 => ?_) (fun c6 => ?_)
                        · refine qU (fun T_ k_ => r_iconst (pc := 79) (v := nI 0) dX6_desk_79 rfl k_) ?_
                          refine qU (fun T_ k_ => r_callV (pc := 80) (N := mX6_takes) (rest := []) (s_takes_f X _ J L tx n t P) okX6_takes lkX6_137 rfl (by decide) rfl rfl rfl (Nat.le_of_ble_eq_true rfl) ⟨Nat.le_refl _, Nat.le_refl _⟩ dX6_desk_80 k_) ?_
                          refine qU (fun T_ k_ => r_istore_n (pc := 83) (lo1 := [.ref 42, .int (nI i), .int (nI 0)]) dX6_desk_83 rfl (by decide) rfl k_) ?_
                          refine qU (fun T_ k_ => r_aload_n (pc := 84) dX6_desk_84 rfl k_) ?_
                          refine qU (fun T_ k_ => r_callV (pc := 85) (N := mX6_isWell) (rest := []) (s_isWell_f X _ (u2 J 42 7 (nI (tkP tx n t))) L (tkP tx n t) rfl (Nat.le_trans (tkP_le t) P.1.2.1)) okX6_isWell lkX6_127 rfl (by decide) rfl rfl rfl (Nat.le_of_ble_eq_true rfl) ⟨Nat.le_refl _, Nat.le_refl _⟩ dX6_desk_85 k_) ?_
                          refine qP (fun T_ => r_ifN_eq (pc := 88) (tgt := 96) dX6_desk_88 (by decide) (by omega)) (fun c7 => ?_) (fun c7 => ?_)
                          · refine qU (fun T_ k_ => r_aload_n (pc := 96) dX6_desk_96 rfl k_) ?_
                            refine qU (fun T_ k_ => r_aload_n (pc := 97) dX6_desk_97 rfl k_) ?_
                            refine qU (fun T_ k_ => r_bipush (pc := 98) dX6_desk_98 bp_59 k_) ?_
                            refine qU (fun T_ k_ => r_callV (pc := 100) (N := mX6_isThis) (rest := [.ref 42]) (s_isThis_n X _ (u2 J 42 7 (nI (tkP tx n t))) L (59) (tkP tx n t) rfl (Nat.le_trans (tkP_le t) P.1.2.1)) okX6_isThis lkX6_134 rfl (by decide) rfl rfl rfl (Nat.le_of_ble_eq_true rfl) ⟨Nat.le_refl _, Nat.le_refl _⟩ dX6_desk_100 k_) ?_
                            refine qU (fun T_ k_ => r_callV (pc := 103) (N := mX6_takes) (rest := []) (s_takes_n X _ (u2 J 42 7 (nI (tkP tx n t))) L _ (tkP tx n t) rfl (Nat.le_trans (tkP_le t) P.1.2.1)) okX6_takes lkX6_137 rfl (by decide) rfl rfl rfl (Nat.le_of_ble_eq_true rfl) ⟨Nat.le_refl _, Nat.le_refl _⟩ dX6_desk_103 k_) ?_
                            refine qU (fun T_ k_ => r_pop (pc := 106) dX6_desk_106 rfl k_) ?_
                            refine qU (fun T_ k_ => r_iinc (pc := 107) (v := nI (i + 1)) (lo1 := [.ref 42, .int (nI (i + 1)), .int (nI 0)]) dX6_desk_107 rfl rfl (ii1 _) (by decide) rfl k_) ?_
                            refine qU (fun T_ k_ => r_goto (pc := 110) (tgt := 25) dX6_desk_110 (by decide) k_) ?_
                            refine qU (fun T_ k_ => r_aload_n (pc := 25) dX6_desk_25 rfl k_) ?_
                            refine qU (fun T_ k_ => r_callV (pc := 26) (N := mX6_isWell) (rest := []) (s_isWell_f X _ (u2 J 42 7 (nI (tkP tx n t))) L (tkP tx n t) rfl (Nat.le_trans (tkP_le t) P.1.2.1)) okX6_isWell lkX6_127 rfl (by decide) rfl rfl rfl (Nat.le_of_ble_eq_true rfl) ⟨Nat.le_refl _, Nat.le_refl _⟩ dX6_desk_26 k_) ?_
                            refine qP (fun T_ => r_ifN_eq (pc := 29) (tgt := 113) dX6_desk_29 (by decide) (by omega)) (fun c8 => ?_) (fun c8 => ?_)
                            · refine qU (fun T_ k_ => r_aload_n (pc := 113) dX6_desk_113 rfl k_) ?_
                              refine qU (fun T_ k_ => r_callV (pc := 114) (N := mX6_isWell) (rest := []) (s_isWell_f X _ (u2 J 42 7 (nI (tkP tx n t))) L (tkP tx n t) rfl (Nat.le_trans (tkP_le t) P.1.2.1)) okX6_isWell lkX6_127 rfl (by decide) rfl rfl rfl (Nat.le_of_ble_eq_true rfl) ⟨Nat.le_refl _, Nat.le_refl _⟩ dX6_desk_114 k_) ?_
                              refine qN (fun T_ => r_ifN_ne (pc := 117) (tgt := 128) dX6_desk_117 (by decide) (by omega)) (fun c9 => ?_) (fun c9 => ?_)
                              · exact absurd c9 (by decide)
                              · refine qU (fun T_ k_ => r_bipush (pc := 120) dX6_desk_120 bp_m10 k_) ?_
                                refine qU (fun T_ k_ => r_aload_n (pc := 122) dX6_desk_122 rfl k_) ?_
                                refine qU (fun T_ k_ => r_getV (pc := 123) (v := nI (tkP tx n t)) dX6_desk_123 fX6_124 rfl rfl (rfl) k_) ?_
                                refine qU (fun T_ k_ => r_isub (pc := 126) dX6_desk_126 k_) ?_
                                exact ⟨_, ⟨_, rfl, (FR).put 7 _ (by decide)⟩, r_iret dX6_desk_127 rfl rfl rfl⟩
                            · exact absurd c8 (by decide)
                          · exact absurd c7 (by decide)
                        · exact absurd c6 (by omega)
            · refine qU (fun T_ k_ => r_aload_n (pc := 25) dX6_desk_25 rfl k_) ?_
              refine qU (fun T_ k_ => r_callV (pc := 26) (N := mX6_isWell) (rest := []) (s_isWell_t X _ J L P.2.2) okX6_isWell lkX6_127 rfl (by decide) rfl rfl rfl (Nat.le_of_ble_eq_true rfl) ⟨Nat.le_refl _, Nat.le_refl _⟩ dX6_desk_26 k_) ?_
              refine qP (fun T_ => r_ifN_eq (pc := 29) (tgt := 113) dX6_desk_29 (by decide) (by omega)) (fun c1 => ?_) (fun c1 => ?_)
              · exact absurd c1 (by decide)
              · refine qU (fun T_ k_ => r_aload_n (pc := 32) dX6_desk_32 rfl k_) ?_
                refine qU (fun T_ k_ => r_getV (pc := 33) (v := nI (kdM (tkK tx n t) (tkV tx n t))) dX6_desk_33 fX6_114 rfl rfl (P.2.1.2.2.1) k_) ?_
                refine qP (fun T_ => r_ifN_eq (pc := 36) (tgt := 113) dX6_desk_36 (by decide) (by omega)) (fun c2 => ?_) (fun c2 => ?_)
                · exact absurd c2 (by omega)
                · refine qU (fun T_ k_ => r_aload_n (pc := 39) dX6_desk_39 rfl k_) ?_
                  refine qU (fun T_ k_ => r_aload_n (pc := 40) dX6_desk_40 rfl k_) ?_
                  refine qU (fun T_ k_ => r_bipush (pc := 41) dX6_desk_41 bp_83 k_) ?_
                  refine qU (fun T_ k_ => r_callV (pc := 43) (N := mX6_isThis) (rest := [.ref 42]) (s_isThis_f X _ J L (83) (by decide) tx n t P n83) okX6_isThis lkX6_134 rfl (by decide) rfl rfl rfl (Nat.le_of_ble_eq_true rfl) ⟨Nat.le_refl _, Nat.le_refl _⟩ dX6_desk_43 k_) ?_
                  refine qN (fun T_ => r_ifN_ne (pc := 46) (tgt := 75) dX6_desk_46 (by decide) (by omega)) (fun c3 => ?_) (fun c3 => ?_)
                  · exact absurd c3 (by decide)
                  · refine qU (fun T_ k_ => r_aload_n (pc := 49) dX6_desk_49 rfl k_) ?_
                    refine qU (fun T_ k_ => r_bipush (pc := 50) dX6_desk_50 bp_67 k_) ?_
                    refine qU (fun T_ k_ => r_callV (pc := 52) (N := mX6_isThis) (rest := [.ref 42]) (s_isThis_f X _ J L (67) (by decide) tx n t P n67) okX6_isThis lkX6_134 rfl (by decide) rfl rfl rfl (Nat.le_of_ble_eq_true rfl) ⟨Nat.le_refl _, Nat.le_refl _⟩ dX6_desk_52 k_) ?_
                    refine qN (fun T_ => r_ifN_ne (pc := 55) (tgt := 75) dX6_desk_55 (by decide) (by omega)) (fun c4 => ?_) (fun c4 => ?_)
                    · exact absurd c4 (by decide)
                    · refine qU (fun T_ k_ => r_aload_n (pc := 58) dX6_desk_58 rfl k_) ?_
                      refine qU (fun T_ k_ => r_bipush (pc := 59) dX6_desk_59 bp_70 k_) ?_
                      refine qU (fun T_ k_ => r_callV (pc := 61) (N := mX6_isThis) (rest := [.ref 42]) (s_isThis_t X _ J L (70) tx n t P hA (by decide)) okX6_isThis lkX6_134 rfl (by decide) rfl rfl rfl (Nat.le_of_ble_eq_true rfl) ⟨Nat.le_refl _, Nat.le_refl _⟩ dX6_desk_61 k_) ?_
                      refine qP (fun T_ => r_ifN_eq (pc := 64) (tgt := 79) dX6_desk_64 (by decide) (by omega)) (fun c5 => ?_) (fun c5 => ?_)
                      · exact absurd c5 (by decide)
                      · refine qU (fun T_ k_ => r_aload_n (pc := 67) dX6_desk_67 rfl k_) ?_
                        refine qU (fun T_ k_ => r_getV (pc := 68) (v := nI fs.length) dX6_desk_68 fX6_145 rfl rfl (T.1) k_) ?_
                        refine qU (fun T_ k_ => r_iconst (pc := 71) (v := nI 4) dX6_desk_71 rfl k_) ?_
                        refine qP (fun T_ => r_icmpN_ge (pc := 72) (tgt := 79) dX6_desk_72 (by decide) (by omega) (by omega)) (fun c6 => ?_) (fun c6 => ?_)
                        · exact absurd c6 (by omega)
                        · refine qU (fun T_ k_ => r_iconst (pc := 75) (v := nI 1) dX6_desk_75 rfl k_) ?_
                          refine qU (fun T_ k_ => r_goto (pc := 76) (tgt := 80) dX6_desk_76 (by decide) k_) ?_
                          obtain ⟨T180, ⟨J180, rfl, F180, C180⟩, S180⟩ := s_takes_t X (d + 4) J L tx n t P (70) ((P.2.1.2.2.2 (Or.inl hA.1)).trans (congrArg nI hA.2))
                          have P180 := P.step F180 C180
                          have U180 := T.fr (F180 42 14 (by decide)) (fun c j c1 c2 => F180 c j (by omega))
                          have W180 := G.fr (fun j => F180 54 j (by omega))
                          refine qU (fun T_ k_ => r_callV (pc := 80) (N := mX6_takes) (rest := []) (S180) okX6_takes lkX6_137 rfl (by decide) rfl rfl rfl (Nat.le_of_ble_eq_true rfl) ⟨Nat.le_refl _, Nat.le_refl _⟩ dX6_desk_80 k_) ?_
                          refine qU (fun T_ k_ => r_istore_n (pc := 83) (lo1 := [.ref 42, .int (nI i), .int (nI 70)]) dX6_desk_83 rfl (by decide) rfl k_) ?_
                          refine qU (fun T_ k_ => r_aload_n (pc := 84) dX6_desk_84 rfl k_) ?_
                          refine qU (fun T_ k_ => r_callV (pc := 85) (N := mX6_isWell) (rest := []) (s_isWell_t X _ J180 L P180.2.2) okX6_isWell lkX6_127 rfl (by decide) rfl rfl rfl (Nat.le_of_ble_eq_true rfl) ⟨Nat.le_refl _, Nat.le_refl _⟩ dX6_desk_85 k_) ?_
                          refine qP (fun T_ => r_ifN_eq (pc := 88) (tgt := 96) dX6_desk_88 (by decide) (by omega)) (fun c7 => ?_) (fun c7 => ?_)
                          · exact absurd c7 (by decide)
                          · refine qU (fun T_ k_ => r_aload_n (pc := 91) dX6_desk_91 rfl k_) ?_
                            refine qU (fun T_ k_ => r_iload_n (pc := 92) dX6_desk_92 rfl k_) ?_
                            obtain ⟨T181, Q181, S181⟩ := s_readsItem_F X d J180 L tx n fs.length (t + 1) P180 U180.1 (by omega)
                            rcases R181 : rdS (tkK tx n) (tkV tx n) fs.length 8 (t + 1) 0 [] with u181 | ⟨i181, u181, c181, l181⟩
                            · rw [rdAll_f hk0 (it_F_f hA h4 R181)]
                              rw [R181] at Q181
                              obtain ⟨J181, rfl, F181, C181⟩ := Q181
                              refine qU (fun T_ k_ => r_callV (pc := 93) (N := mX6_readsItem) (rest := []) (S181) okX6_readsItem lkX6_196 rfl (by decide) rfl rfl rfl (Nat.le_of_ble_eq_true rfl) ⟨Nat.le_refl _, Nat.le_refl _⟩ dX6_desk_93 k_) ?_
                              refine qU (fun T_ k_ => r_aload_n (pc := 96) dX6_desk_96 rfl k_) ?_
                              refine qU (fun T_ k_ => r_aload_n (pc := 97) dX6_desk_97 rfl k_) ?_
                              refine qU (fun T_ k_ => r_bipush (pc := 98) dX6_desk_98 bp_59 k_) ?_
                              refine qU (fun T_ k_ => r_callV (pc := 100) (N := mX6_isThis) (rest := [.ref 42]) (s_isThis_n X _ (u2 J181 42 14 (nI (fs.length + 1))) L (59) (tkP tx n u181) C181 (Nat.le_trans (tkP_le u181) P.1.2.1)) okX6_isThis lkX6_134 rfl (by decide) rfl rfl rfl (Nat.le_of_ble_eq_true rfl) ⟨Nat.le_refl _, Nat.le_refl _⟩ dX6_desk_100 k_) ?_
                              refine qU (fun T_ k_ => r_callV (pc := 103) (N := mX6_takes) (rest := []) (s_takes_n X _ (u2 J181 42 14 (nI (fs.length + 1))) L _ (tkP tx n u181) C181 (Nat.le_trans (tkP_le u181) P.1.2.1)) okX6_takes lkX6_137 rfl (by decide) rfl rfl rfl (Nat.le_of_ble_eq_true rfl) ⟨Nat.le_refl _, Nat.le_refl _⟩ dX6_desk_103 k_) ?_
                              refine qU (fun T_ k_ => r_pop (pc := 106) dX6_desk_106 rfl k_) ?_
                              refine qU (fun T_ k_ => r_iinc (pc := 107) (v := nI (i + 1)) (lo1 := [.ref 42, .int (nI (i + 1)), .int (nI 70)]) dX6_desk_107 rfl rfl (ii1 _) (by decide) rfl k_) ?_
                              refine qU (fun T_ k_ => r_goto (pc := 110) (tgt := 25) dX6_desk_110 (by decide) k_) ?_
                              refine qU (fun T_ k_ => r_aload_n (pc := 25) dX6_desk_25 rfl k_) ?_
                              refine qU (fun T_ k_ => r_callV (pc := 26) (N := mX6_isWell) (rest := []) (s_isWell_f X _ (u2 J181 42 14 (nI (fs.length + 1))) L (tkP tx n u181) C181 (Nat.le_trans (tkP_le u181) P.1.2.1)) okX6_isWell lkX6_127 rfl (by decide) rfl rfl rfl (Nat.le_of_ble_eq_true rfl) ⟨Nat.le_refl _, Nat.le_refl _⟩ dX6_desk_26 k_) ?_
                              refine qP (fun T_ => r_ifN_eq (pc := 29) (tgt := 113) dX6_desk_29 (by decide) (by omega)) (fun c8 => ?_) (fun c8 => ?_)
                              · refine qU (fun T_ k_ => r_aload_n (pc := 113) dX6_desk_113 rfl k_) ?_
                                refine qU (fun T_ k_ => r_callV (pc := 114) (N := mX6_isWell) (rest := []) (s_isWell_f X _ (u2 J181 42 14 (nI (fs.length + 1))) L (tkP tx n u181) C181 (Nat.le_trans (tkP_le u181) P.1.2.1)) okX6_isWell lkX6_127 rfl (by decide) rfl rfl rfl (Nat.le_of_ble_eq_true rfl) ⟨Nat.le_refl _, Nat.le_refl _⟩ dX6_desk_114 k_) ?_
                                refine qN (fun T_ => r_ifN_ne (pc := 117) (tgt := 128) dX6_desk_117 (by decide) (by omega)) (fun c9 => ?_) (fun c9 => ?_)
                                · exact absurd c9 (by decide)
                                · refine qU (fun T_ k_ => r_bipush (pc := 120) dX6_desk_120 bp_m10 k_) ?_
                                  refine qU (fun T_ k_ => r_aload_n (pc := 122) dX6_desk_122 rfl k_) ?_
                                  refine qU (fun T_ k_ => r_getV (pc := 123) (v := nI (tkP tx n u181)) dX6_desk_123 fX6_124 rfl rfl (C181) k_) ?_
                                  refine qU (fun T_ k_ => r_isub (pc := 126) dX6_desk_126 k_) ?_
                                  exact ⟨_, ⟨_, rfl, (((FR).trans F180.y).trans F181.y).put 14 _ (by decide)⟩, r_iret dX6_desk_127 rfl rfl rfl⟩
                              · exact absurd c8 (by decide)
                            · have ht181 := rdS_t R181
                              rw [R181] at Q181
                              obtain ⟨J181, rfl, F181, P0181, G0181⟩ := Q181
                              have P181 := P0181.u14 (nI (fs.length + 1))
                              have G181 : FGm (u2 J181 42 14 (nI (fs.length + 1))) D := W180.fr (fun j => F181 54 j (by omega) (by omega) (by omega) (by decide) (by decide))
                              have U181 := U180.more (by omega) F181 G0181
                              refine qU (fun T_ k_ => r_callV (pc := 93) (N := mX6_readsItem) (rest := []) (S181) okX6_readsItem lkX6_196 rfl (by decide) rfl rfl rfl (Nat.le_of_ble_eq_true rfl) ⟨Nat.le_refl _, Nat.le_refl _⟩ dX6_desk_93 k_) ?_
                              refine qU (fun T_ k_ => r_aload_n (pc := 96) dX6_desk_96 rfl k_) ?_
                              refine qU (fun T_ k_ => r_aload_n (pc := 97) dX6_desk_97 rfl k_) ?_
                              refine qU (fun T_ k_ => r_bipush (pc := 98) dX6_desk_98 bp_59 k_) ?_
                              by_cases hZ : tkK tx n u181 = 1 ∧ tkV tx n u181 = 59
                              · rw [rdAll_s hk0 (it_F_g hA h4 R181 hZ)]
                                refine qU (fun T_ k_ => r_callV (pc := 100) (N := mX6_isThis) (rest := [.ref 42]) (s_isThis_t X _ (u2 J181 42 14 (nI (fs.length + 1))) L 59 tx n u181 P181 hZ (by decide)) okX6_isThis lkX6_134 rfl (by decide) rfl rfl rfl (Nat.le_of_ble_eq_true rfl) ⟨Nat.le_refl _, Nat.le_refl _⟩ dX6_desk_100 k_) ?_
                                obtain ⟨T182, ⟨J182, rfl, F182, C182⟩, S182⟩ := s_takes_t X (d + 4) (u2 J181 42 14 (nI (fs.length + 1))) L tx n u181 P181 (59) ((P181.2.1.2.2.2 (Or.inl hZ.1)).trans (congrArg nI hZ.2))
                                have P182 := P181.step F182 C182
                                have U182 := U181.fr (F182 42 14 (by decide)) (fun c j c1 c2 => F182 c j (by omega))
                                have W182 := G181.fr (fun j => F182 54 j (by omega))
                                refine qU (fun T_ k_ => r_callV (pc := 103) (N := mX6_takes) (rest := []) (S182) okX6_takes lkX6_137 rfl (by decide) rfl rfl rfl (Nat.le_of_ble_eq_true rfl) ⟨Nat.le_refl _, Nat.le_refl _⟩ dX6_desk_103 k_) ?_
                                refine qU (fun T_ k_ => r_pop (pc := 106) dX6_desk_106 rfl k_) ?_
                                refine qU (fun T_ k_ => r_iinc (pc := 107) (v := nI (i + 1)) (lo1 := [.ref 42, .int (nI (i + 1)), .int (nI 70)]) dX6_desk_107 rfl rfl (ii1 _) (by decide) rfl k_) ?_
                                refine qU (fun T_ k_ => r_goto (pc := 110) (tgt := 25) dX6_desk_110 (by decide) k_) ?_
                                refine qU (fun T_ k_ => r_drop (lo1 := [.ref 42, .int (nI (i + 1)), .null]) 2 rfl k_) ?_
                                exact ih (i + 1) (u181 + 1) _ D (fs ++ [l181]) (by omega) (Nat.lt_of_le_of_lt hb (bps_lt hk0 (by omega))) P182 (((((FR).trans F180.y).trans F181.y).put 14 _ (by decide)).trans F182.y) W182 U182
                              · rw [rdAll_f hk0 (it_F_n hA h4 R181 hZ)]
                                refine qU (fun T_ k_ => r_callV (pc := 100) (N := mX6_isThis) (rest := [.ref 42]) (s_isThis_f X _ (u2 J181 42 14 (nI (fs.length + 1))) L 59 (by decide) tx n u181 P181 hZ) okX6_isThis lkX6_134 rfl (by decide) rfl rfl rfl (Nat.le_of_ble_eq_true rfl) ⟨Nat.le_refl _, Nat.le_refl _⟩ dX6_desk_100 k_) ?_
                                refine qU (fun T_ k_ => r_callV (pc := 103) (N := mX6_takes) (rest := []) (s_takes_f X _ (u2 J181 42 14 (nI (fs.length + 1))) L tx n u181 P181) okX6_takes lkX6_137 rfl (by decide) rfl rfl rfl (Nat.le_of_ble_eq_true rfl) ⟨Nat.le_refl _, Nat.le_refl _⟩ dX6_desk_103 k_) ?_
                                refine qU (fun T_ k_ => r_pop (pc := 106) dX6_desk_106 rfl k_) ?_
                                refine qU (fun T_ k_ => r_iinc (pc := 107) (v := nI (i + 1)) (lo1 := [.ref 42, .int (nI (i + 1)), .int (nI 70)]) dX6_desk_107 rfl rfl (ii1 _) (by decide) rfl k_) ?_
                                refine qU (fun T_ k_ => r_goto (pc := 110) (tgt := 25) dX6_desk_110 (by decide) k_) ?_
                                refine qU (fun T_ k_ => r_aload_n (pc := 25) dX6_desk_25 rfl k_) ?_
                                refine qU (fun T_ k_ => r_callV (pc := 26) (N := mX6_isWell) (rest := []) (s_isWell_f X _ (u2 (u2 J181 42 14 (nI (fs.length + 1))) 42 7 (nI (tkP tx n u181))) L (tkP tx n u181) rfl (Nat.le_trans (tkP_le u181) P181.1.2.1)) okX6_isWell lkX6_127 rfl (by decide) rfl rfl rfl (Nat.le_of_ble_eq_true rfl) ⟨Nat.le_refl _, Nat.le_refl _⟩ dX6_desk_26 k_) ?_
                                refine qP (fun T_ => r_ifN_eq (pc := 29) (tgt := 113) dX6_desk_29 (by decide) (by omega)) (fun c10 => ?_) (fun c10 => ?_)
                                · refine qU (fun T_ k_ => r_aload_n (pc := 113) dX6_desk_113 rfl k_) ?_
                                  refine qU (fun T_ k_ => r_callV (pc := 114) (N := mX6_isWell) (rest := []) (s_isWell_f X _ (u2 (u2 J181 42 14 (nI (fs.length + 1))) 42 7 (nI (tkP tx n u181))) L (tkP tx n u181) rfl (Nat.le_trans (tkP_le u181) P181.1.2.1)) okX6_isWell lkX6_127 rfl (by decide) rfl rfl rfl (Nat.le_of_ble_eq_true rfl) ⟨Nat.le_refl _, Nat.le_refl _⟩ dX6_desk_114 k_) ?_
                                  refine qN (fun T_ => r_ifN_ne (pc := 117) (tgt := 128) dX6_desk_117 (by decide) (by omega)) (fun c11 => ?_) (fun c11 => ?_)
                                  · exact absurd c11 (by decide)
                                  · refine qU (fun T_ k_ => r_bipush (pc := 120) dX6_desk_120 bp_m10 k_) ?_
                                    refine qU (fun T_ k_ => r_aload_n (pc := 122) dX6_desk_122 rfl k_) ?_
                                    refine qU (fun T_ k_ => r_getV (pc := 123) (v := nI (tkP tx n u181)) dX6_desk_123 fX6_124 rfl rfl (rfl) k_) ?_
                                    refine qU (fun T_ k_ => r_isub (pc := 126) dX6_desk_126 k_) ?_
                                    exact ⟨_, ⟨_, rfl, ((((FR).trans F180.y).trans F181.y).put 14 _ (by decide)).put 7 _ (by decide)⟩, r_iret dX6_desk_127 rfl rfl rfl⟩
                                · exact absurd c10 (by decide)
          · rw [rdAll_f hk0 (it_no n83 n67 hA)]
            refine qU (fun T_ k_ => r_aload_n (pc := 25) dX6_desk_25 rfl k_) ?_
            refine qU (fun T_ k_ => r_callV (pc := 26) (N := mX6_isWell) (rest := []) (s_isWell_t X _ J L P.2.2) okX6_isWell lkX6_127 rfl (by decide) rfl rfl rfl (Nat.le_of_ble_eq_true rfl) ⟨Nat.le_refl _, Nat.le_refl _⟩ dX6_desk_26 k_) ?_
            refine qP (fun T_ => r_ifN_eq (pc := 29) (tgt := 113) dX6_desk_29 (by decide) (by omega)) (fun c1 => ?_) (fun c1 => ?_)
            · exact absurd c1 (by decide)
            · refine qU (fun T_ k_ => r_aload_n (pc := 32) dX6_desk_32 rfl k_) ?_
              refine qU (fun T_ k_ => r_getV (pc := 33) (v := nI (kdM (tkK tx n t) (tkV tx n t))) dX6_desk_33 fX6_114 rfl rfl (P.2.1.2.2.1) k_) ?_
              refine qP (fun T_ => r_ifN_eq (pc := 36) (tgt := 113) dX6_desk_36 (by decide) (by omega)) (fun c2 => ?_) (fun c2 => ?_)
              · exact absurd c2 (by omega)
              · refine qU (fun T_ k_ => r_aload_n (pc := 39) dX6_desk_39 rfl k_) ?_
                refine qU (fun T_ k_ => r_aload_n (pc := 40) dX6_desk_40 rfl k_) ?_
                refine qU (fun T_ k_ => r_bipush (pc := 41) dX6_desk_41 bp_83 k_) ?_
                refine qU (fun T_ k_ => r_callV (pc := 43) (N := mX6_isThis) (rest := [.ref 42]) (s_isThis_f X _ J L (83) (by decide) tx n t P n83) okX6_isThis lkX6_134 rfl (by decide) rfl rfl rfl (Nat.le_of_ble_eq_true rfl) ⟨Nat.le_refl _, Nat.le_refl _⟩ dX6_desk_43 k_) ?_
                refine qN (fun T_ => r_ifN_ne (pc := 46) (tgt := 75) dX6_desk_46 (by decide) (by omega)) (fun c3 => ?_) (fun c3 => ?_)
                · exact absurd c3 (by decide)
                · refine qU (fun T_ k_ => r_aload_n (pc := 49) dX6_desk_49 rfl k_) ?_
                  refine qU (fun T_ k_ => r_bipush (pc := 50) dX6_desk_50 bp_67 k_) ?_
                  refine qU (fun T_ k_ => r_callV (pc := 52) (N := mX6_isThis) (rest := [.ref 42]) (s_isThis_f X _ J L (67) (by decide) tx n t P n67) okX6_isThis lkX6_134 rfl (by decide) rfl rfl rfl (Nat.le_of_ble_eq_true rfl) ⟨Nat.le_refl _, Nat.le_refl _⟩ dX6_desk_52 k_) ?_
                  refine qN (fun T_ => r_ifN_ne (pc := 55) (tgt := 75) dX6_desk_55 (by decide) (by omega)) (fun c4 => ?_) (fun c4 => ?_)
                  · exact absurd c4 (by decide)
                  · refine qU (fun T_ k_ => r_aload_n (pc := 58) dX6_desk_58 rfl k_) ?_
                    refine qU (fun T_ k_ => r_bipush (pc := 59) dX6_desk_59 bp_70 k_) ?_
                    refine qU (fun T_ k_ => r_callV (pc := 61) (N := mX6_isThis) (rest := [.ref 42]) (s_isThis_f X _ J L (70) (by decide) tx n t P hA) okX6_isThis lkX6_134 rfl (by decide) rfl rfl rfl (Nat.le_of_ble_eq_true rfl) ⟨Nat.le_refl _, Nat.le_refl _⟩ dX6_desk_61 k_) ?_
                    refine qP (fun T_ => r_ifN_eq (pc := 64) (tgt := 79) dX6_desk_64 (by decide) (by omega)) (fun c5 => ?_) (fun c5 => ?_)
                    · refine qU (fun T_ k_ => r_iconst (pc := 79) (v := nI 0) dX6_desk_79 rfl k_) ?_
                      refine qU (fun T_ k_ => r_callV (pc := 80) (N := mX6_takes) (rest := []) (s_takes_f X _ J L tx n t P) okX6_takes lkX6_137 rfl (by decide) rfl rfl rfl (Nat.le_of_ble_eq_true rfl) ⟨Nat.le_refl _, Nat.le_refl _⟩ dX6_desk_80 k_) ?_
                      refine qU (fun T_ k_ => r_istore_n (pc := 83) (lo1 := [.ref 42, .int (nI i), .int (nI 0)]) dX6_desk_83 rfl (by decide) rfl k_) ?_
                      refine qU (fun T_ k_ => r_aload_n (pc := 84) dX6_desk_84 rfl k_) ?_
                      refine qU (fun T_ k_ => r_callV (pc := 85) (N := mX6_isWell) (rest := []) (s_isWell_f X _ (u2 J 42 7 (nI (tkP tx n t))) L (tkP tx n t) rfl (Nat.le_trans (tkP_le t) P.1.2.1)) okX6_isWell lkX6_127 rfl (by decide) rfl rfl rfl (Nat.le_of_ble_eq_true rfl) ⟨Nat.le_refl _, Nat.le_refl _⟩ dX6_desk_85 k_) ?_
                      refine qP (fun T_ => r_ifN_eq (pc := 88) (tgt := 96) dX6_desk_88 (by decide) (by omega)) (fun c6 => ?_) (fun c6 => ?_)
                      · refine qU (fun T_ k_ => r_aload_n (pc := 96) dX6_desk_96 rfl k_) ?_
                        refine qU (fun T_ k_ => r_aload_n (pc := 97) dX6_desk_97 rfl k_) ?_
                        refine qU (fun T_ k_ => r_bipush (pc := 98) dX6_desk_98 bp_59 k_) ?_
                        refine qU (fun T_ k_ => r_callV (pc := 100) (N := mX6_isThis) (rest := [.ref 42]) (s_isThis_n X _ (u2 J 42 7 (nI (tkP tx n t))) L (59) (tkP tx n t) rfl (Nat.le_trans (tkP_le t) P.1.2.1)) okX6_isThis lkX6_134 rfl (by decide) rfl rfl rfl (Nat.le_of_ble_eq_true rfl) ⟨Nat.le_refl _, Nat.le_refl _⟩ dX6_desk_100 k_) ?_
                        refine qU (fun T_ k_ => r_callV (pc := 103) (N := mX6_takes) (rest := []) (s_takes_n X _ (u2 J 42 7 (nI (tkP tx n t))) L _ (tkP tx n t) rfl (Nat.le_trans (tkP_le t) P.1.2.1)) okX6_takes lkX6_137 rfl (by decide) rfl rfl rfl (Nat.le_of_ble_eq_true rfl) ⟨Nat.le_refl _, Nat.le_refl _⟩ dX6_desk_103 k_) ?_
                        refine qU (fun T_ k_ => r_pop (pc := 106) dX6_desk_106 rfl k_) ?_
                        refine qU (fun T_ k_ => r_iinc (pc := 107) (v := nI (i + 1)) (lo1 := [.ref 42, .int (nI (i + 1)), .int (nI 0)]) dX6_desk_107 rfl rfl (ii1 _) (by decide) rfl k_) ?_
                        refine qU (fun T_ k_ => r_goto (pc := 110) (tgt := 25) dX6_desk_110 (by decide) k_) ?_
                        refine qU (fun T_ k_ => r_aload_n (pc := 25) dX6_desk_25 rfl k_) ?_
                        refine qU (fun T_ k_ => r_callV (pc := 26) (N := mX6_isWell) (rest := []) (s_isWell_f X _ (u2 J 42 7 (nI (tkP tx n t))) L (tkP tx n t) rfl (Nat.le_trans (tkP_le t) P.1.2.1)) okX6_isWell lkX6_127 rfl (by decide) rfl rfl rfl (Nat.le_of_ble_eq_true rfl) ⟨Nat.le_refl _, Nat.le_refl _⟩ dX6_desk_26 k_) ?_
                        refine qP (fun T_ => r_ifN_eq (pc := 29) (tgt := 113) dX6_desk_29 (by decide) (by omega)) (fun c7 => ?_) (fun c7 => ?_)
                        · refine qU (fun T_ k_ => r_aload_n (pc := 113) dX6_desk_113 rfl k_) ?_
                          refine qU (fun T_ k_ => r_callV (pc := 114) (N := mX6_isWell) (rest := []) (s_isWell_f X _ (u2 J 42 7 (nI (tkP tx n t))) L (tkP tx n t) rfl (Nat.le_trans (tkP_le t) P.1.2.1)) okX6_isWell lkX6_127 rfl (by decide) rfl rfl rfl (Nat.le_of_ble_eq_true rfl) ⟨Nat.le_refl _, Nat.le_refl _⟩ dX6_desk_114 k_) ?_
                          refine qN (fun T_ => r_ifN_ne (pc := 117) (tgt := 128) dX6_desk_117 (by decide) (by omega)) (fun c8 => ?_) (fun c8 => ?_)
                          · exact absurd c8 (by decide)
                          · refine qU (fun T_ k_ => r_bipush (pc := 120) dX6_desk_120 bp_m10 k_) ?_
                            refine qU (fun T_ k_ => r_aload_n (pc := 122) dX6_desk_122 rfl k_) ?_
                            refine qU (fun T_ k_ => r_getV (pc := 123) (v := nI (tkP tx n t)) dX6_desk_123 fX6_124 rfl rfl (rfl) k_) ?_
                            refine qU (fun T_ k_ => r_isub (pc := 126) dX6_desk_126 k_) ?_
                            exact ⟨_, ⟨_, rfl, (FR).put 7 _ (by decide)⟩, r_iret dX6_desk_127 rfl rfl rfl⟩
                        · exact absurd c7 (by decide)
                      · exact absurd c6 (by decide)
                    · exact absurd c5 (by decide)
