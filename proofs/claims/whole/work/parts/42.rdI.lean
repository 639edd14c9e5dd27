theorem TPa.fr {I J : MI} {fs : List (List Q4)} (h : TPa I 15 fs) (hc : ∀ c, 15 ≤ c → c ≤ 21 → J c = I c) : TPa J 15 fs := h.tr (congrFun (hc 15 (by decide) (by decide)) 6) (congrFun (hc 15 (by decide) (by decide)) 7) (fun j _ => ⟨congrFun (hc 16 (by decide) (by decide)) j, congrFun (hc 17 (by decide) (by decide)) j, congrFun (hc 18 (by decide) (by decide)) j, congrFun (hc 19 (by decide) (by decide)) j, congrFun (hc 20 (by decide) (by decide)) j⟩) (fun j _ => congrFun (hc 21 (by decide) (by decide)) j)
def FRf (I J : MI) : Prop := ∀ c j, ¬ (c = 11 ∧ 4 ≤ j ∧ j ≤ 8) → ¬ (15 ≤ c ∧ c ≤ 21) → J c j = I c j
theorem FRf.refl (I : MI) : FRf I I := fun _ _ _ _ => rfl
theorem FRf.sum {I J H : MI} {x : Int32} {b : Nat} (h1 : FRp I J) (h2 : FRr (u2 J 11 8 x) H b) : FRf I H := fun c j q1 q2 => (h2 c j q1 (by omega) (by omega)).trans ((u2_ne (by omega)).trans (h1 c j (by omega)))
theorem FRf.cell {I J : MI} (h : FRf I J) {c : Nat} (h1 : c ≠ 11) (h2 : ¬ (15 ≤ c ∧ c ≤ 21)) : J c = I c := funext fun j => h c j (by omega) h2
theorem PS.start {J : MI} {tx : Nat → Nat} {n t : Nat} {fs : List (List Q4)} (h : PQ J tx n t) (hT : TPa J 15 fs) (h4 : fs.length < 4) : TPa (u2 J 11 8 (nI 0)) 15 fs ∧ PS (u2 J 11 8 (nI 0)) tx n fs.length (rtF fs) (fun k => u2 J 11 8 (nI 0) 19 (rtF fs k)) (fun k => u2 J 11 8 (nI 0) 20 (rtF fs k)) (bsF fs fs.length) t 0 [] := by
  have hM : TPa (u2 J 11 8 (nI 0)) 15 fs := hT.fr (fun c h1 h2 => u2_off (by omega))
  refine ⟨hM, h.1, h.2, rfl, Nat.zero_le _, hM.pf h4, hM.2.2.1, Nat.zero_le _, fun e q hq => ?_⟩
  rw [List.getElem?_nil] at hq
  cases hq
/-- a formula; t the place of F -/
def rdFrm (K V : Nat → Nat) (t : Nat) (fs : List (List Q4)) : Nat ⊕ (Nat × List (List Q4)) :=
  if 4 ≤ fs.length then .inl t else match rdS K V fs.length 8 (t + 1) 0 [] with
    | .inl u => .inl u
    | .inr (_, u, _, l) => if K u = 1 ∧ V u = 59 then .inr (u, fs ++ [l]) else .inl u
def QF (I : MI) (L : ML) (tx : Nat → Nat) (n : Nat) (r : Nat ⊕ (Nat × List (List Q4))) (T : TR) : Prop := match r with
  | .inl u => ∃ J, T = (some (.int (nI 0)), shF, J, L) ∧ FRf I J ∧ PQ J tx n u
  | .inr (u, fs) => ∃ J, T = (some (.int (nI 1)), shF, J, L) ∧ FRf I J ∧ PQ J tx n u ∧ TPa J 15 fs
theorem FRf.tape2 {I J : MI} (h : FRf I J) (a b : Nat) (x y : Int32) : FRf I (u2 (u2 J 21 a x) 15 b y) := fun c j q1 q2 => (u2_ne (by omega)).trans ((u2_ne (by omega)).trans (h c j q1 q2))
theorem TXc.ofr {I J : MI} {tx : Nat → Nat} {n b : Nat} (h : TXc I tx n) (hF : FRr I J b) : TXc J tx n := ⟨(hF 11 3 (by decide) (by decide) (by omega)).trans h.1, h.2.1, fun j hj => ⟨(hF 22 j (by omega) (by omega) (by omega)).trans (h.2.2 j hj).1, (h.2.2 j hj).2⟩⟩
theorem s_readFormula (X : Ctx) (d : Nat) (I : MI) (L : ML) (tx : Nat → Nat) (n t : Nat) (h : PQ I tx n t) (fs : List (List Q4)) (hT : TPa I 15 fs) : ∃ T, QF I L tx n (rdFrm (tkK tx n) (tkV tx n) t fs) T ∧ Sp X mX2_readFormula (d + 57) (0, 0) [.ref 11] shF I L T := by
  refine qU (fun T_ k_ => Sp.of okX2_readFormula [.ref 11] 0 rfl (Nat.le_of_ble_eq_true rfl) k_) ?_
  unfold rdFrm
  have hT2 := hT.2.1
  by_cases hF : 4 ≤ fs.length
  · rw [if_pos hF]
    refine qU (fun T_ k_ => r_aload_n (pc := 0) dX2_readFormula_0 rfl k_) ?_
    refine qU (fun T_ k_ => r_getR (pc := 1) (b := 15) dX2_readFormula_1 fX2_21 rfl rfl k_) ?_
    refine qU (fun T_ k_ => r_callV (pc := 4) (N := mX4_formulas) (rest := []) (s_formulas_15 X _ I L (fs.length) hT.1) okX4_formulas lkX2_84 rfl (by decide) rfl rfl rfl (Nat.le_of_ble_eq_true rfl) ⟨Nat.le_refl _, Nat.le_refl _⟩ dX2_readFormula_4 k_) ?_
    refine qU (fun T_ k_ => r_iconst (pc := 7) (v := nI 4) dX2_readFormula_7 rfl k_) ?_
    refine qP (fun T_ => r_icmpN_lt (pc := 8) (tgt := 13) dX2_readFormula_8 (by decide) (by omega) (by omega)) (fun c1 => ?_) (fun c1 => ?_)
    · exact absurd c1 (by omega)
    · refine qU (fun T_ k_ => r_iconst (pc := 11) (v := nI 0) dX2_readFormula_11 rfl k_) ?_
      exact ⟨_, ⟨_, rfl, FRf.refl I, h⟩, r_zret dX2_readFormula_12 rfl (by decide) rfl rfl⟩
  · rw [if_neg hF]
    have h4 : fs.length < 4 := by omega
    refine qU (fun T_ k_ => r_aload_n (pc := 0) dX2_readFormula_0 rfl k_) ?_
    refine qU (fun T_ k_ => r_getR (pc := 1) (b := 15) dX2_readFormula_1 fX2_21 rfl rfl k_) ?_
    refine qU (fun T_ k_ => r_callV (pc := 4) (N := mX4_formulas) (rest := []) (s_formulas_15 X _ I L (fs.length) hT.1) okX4_formulas lkX2_84 rfl (by decide) rfl rfl rfl (Nat.le_of_ble_eq_true rfl) ⟨Nat.le_refl _, Nat.le_refl _⟩ dX2_readFormula_4 k_) ?_
    refine qU (fun T_ k_ => r_iconst (pc := 7) (v := nI 4) dX2_readFormula_7 rfl k_) ?_
    refine qP (fun T_ => r_icmpN_lt (pc := 8) (tgt := 13) dX2_readFormula_8 (by decide) (by omega) (by omega)) (fun c1 => ?_) (fun c1 => ?_)
    · refine qU (fun T_ k_ => r_aload_n (pc := 13) dX2_readFormula_13 rfl k_) ?_
      obtain ⟨T78, ⟨J78, rfl, F78, C78⟩, S78⟩ := s_pass X (d + 54) I L tx n (t + 1) h.1 h.2.2.2.1
      have P78 := h.pass F78 C78
      refine qU (fun T_ k_ => r_callV (pc := 14) (N := mX2_pass) (rest := []) (S78) okX2_pass lkX2_40 rfl (by decide) rfl rfl rfl (Nat.le_of_ble_eq_true rfl) ⟨Nat.le_refl _, Nat.le_refl _⟩ dX2_readFormula_14 k_) ?_
      refine qU (fun T_ k_ => r_aload_n (pc := 17) dX2_readFormula_17 rfl k_) ?_
      refine qU (fun T_ k_ => r_iconst (pc := 18) (v := nI 0) dX2_readFormula_18 rfl k_) ?_
      refine qU (fun T_ k_ => r_put (pc := 19) .int dX2_readFormula_19 fX2_87 rfl rfl nf2_8 rfl rfl k_) ?_
      refine qU (fun T_ k_ => r_aload_n (pc := 22) dX2_readFormula_22 rfl k_) ?_
      refine qU (fun T_ k_ => r_iconst (pc := 23) (v := nI 0) dX2_readFormula_23 rfl k_) ?_
      have V79 := PS.start P78 (hT.fr (fun c q1 q2 => F78.c (by omega))) h4
      obtain ⟨T79, Q79, S79⟩ := s_sumK X L tx n fs.length (rtF fs) (fun k => (u2 J78 11 8 (nI 0)) 19 (rtF fs k)) (fun k => (u2 J78 11 8 (nI 0)) 20 (rtF fs k)) (bsF fs fs.length) d 8 0 rfl (u2 J78 11 8 (nI 0)) (t + 1) 0 [] V79.2
      cases R79 : rdS (tkK tx n) (tkV tx n) fs.length 8 (t + 1) 0 []
      · rename_i u79
        rw [R79] at Q79
        obtain ⟨J79, rfl, F79, C79⟩ := Q79
        dsimp only
        have W79 := FRf.sum F78 F79
        refine qU (fun T_ k_ => r_callV (pc := 24) (N := mX2_readSum) (rest := []) (S79) okX2_readSum lkX2_90 rfl (by decide) rfl rfl rfl (Nat.le_of_ble_eq_true rfl) ⟨Nat.le_refl _, Nat.le_refl _⟩ dX2_readFormula_24 k_) ?_
        refine qU (fun T_ k_ => r_iconst (pc := 27) (v := -1) dX2_readFormula_27 rfl k_) ?_
        refine qP (fun T_ => r_icmp_eq (pc := 28) (tgt := 40) dX2_readFormula_28 (by decide)) (fun c2 => ?_) (fun c2 => ?_)
        · refine qU (fun T_ k_ => r_iconst (pc := 40) (v := nI 0) dX2_readFormula_40 rfl k_) ?_
          exact ⟨_, ⟨_, rfl, W79, PQ.fr (⟨TXc.ofr V79.2.1 F79, C79⟩ : PQ J79 tx n u79) rfl rfl⟩, r_zret dX2_readFormula_41 rfl (by decide) rfl rfl⟩
        · exact absurd rfl c2
      · rename_i v79
        obtain ⟨i79, u79, d79, l79⟩ := v79
        rw [R79] at Q79
        obtain ⟨J79, rfl, F79, P79, G79⟩ := Q79
        have W79 := FRf.sum F78 F79
        have hl79 := G79.1
        have hi79 := G79.2.1
        have hb79 := P79.2.2.2.2.1.2.2.1
        have hc79 := P79.2.2.2.2.2.2.1
        have hd79 := P79.2.2.2.1
        have bd79 := tk_bd P79.1 u79
        dsimp only
        refine qU (fun T_ k_ => r_callV (pc := 24) (N := mX2_readSum) (rest := []) (S79) okX2_readSum lkX2_90 rfl (by decide) rfl rfl rfl (Nat.le_of_ble_eq_true rfl) ⟨Nat.le_refl _, Nat.le_refl _⟩ dX2_readFormula_24 k_) ?_
        refine qU (fun T_ k_ => r_iconst (pc := 27) (v := -1) dX2_readFormula_27 rfl k_) ?_
        refine qP (fun T_ => r_icmp_eq (pc := 28) (tgt := 40) dX2_readFormula_28 (by decide)) (fun c3 => ?_) (fun c3 => ?_)
        · exact absurd c3 (nI_nm1 (by omega))
        · refine qU (fun T_ k_ => r_aload_n (pc := 31) dX2_readFormula_31 rfl k_) ?_
          refine qU (fun T_ k_ => r_getV (pc := 32) (v := tokI (tkK tx n (u79)) (tkV tx n (u79))) dX2_readFormula_32 fX2_43 rfl rfl (P79.2.1.1) k_) ?_
          refine qU (fun T_ k_ => r_bipush (pc := 35) dX2_readFormula_35 bp_59 k_) ?_
          refine qP (fun T_ => r_icmp_eq (pc := 37) (tgt := 42) dX2_readFormula_37 (by decide)) (fun c4 => ?_) (fun c4 => ?_)
          · rw [if_pos ((tokI_ch bd79.1 bd79.2.1 (ch := 59) (by decide)).mp c4)]
            refine qU (fun T_ k_ => r_aload_n (pc := 42) dX2_readFormula_42 rfl k_) ?_
            refine qU (fun T_ k_ => r_getR (pc := 43) (b := 15) dX2_readFormula_43 fX2_21 rfl rfl k_) ?_
            have Y79 := V79.1.more h4 F79 P79 G79
            refine qU (fun T_ k_ => r_callV (pc := 46) (N := mX4_endFormula) (rest := []) (s_endFormula X _ J79 L fs.length (bsF fs fs.length + l79.length) P79.2.2.2.2.1.1 P79.2.2.2.2.2.1 h4) okX4_endFormula lkX2_94 rfl (by decide) rfl rfl rfl (Nat.le_of_ble_eq_true rfl) ⟨Nat.le_refl _, Nat.le_refl _⟩ dX2_readFormula_46 k_) ?_
            refine qU (fun T_ k_ => r_iconst (pc := 49) (v := nI 1) dX2_readFormula_49 rfl k_) ?_
            exact ⟨_, ⟨_, rfl, W79.tape2 _ _ _ _, PQ.fr (⟨P79.1, P79.2.1⟩ : PQ J79 tx n u79) ((u2_off (by decide)).trans (u2_off (by decide))) ((u2_off (by decide)).trans (u2_off (by decide))), Y79⟩, r_zret dX2_readFormula_50 rfl (by decide) rfl rfl⟩
          · rw [if_neg (fun z => c4 ((tokI_ch bd79.1 bd79.2.1 (ch := 59) (by decide)).mpr z))]
            refine qU (fun T_ k_ => r_iconst (pc := 40) (v := nI 0) dX2_readFormula_40 rfl k_) ?_
            exact ⟨_, ⟨_, rfl, W79, P79.1, P79.2.1⟩, r_zret dX2_readFormula_41 rfl (by decide) rfl rfl⟩
    · exact absurd c1 (by omega)
