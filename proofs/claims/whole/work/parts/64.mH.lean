def DZ (X : Ctx) (d : Nat) (I : MI) (L : ML) (tx : Nat → Nat) (n F : Nat) (Q : TR → Prop) (t c : Nat) (l : List Q4) (ps ws : List Nat) (op : Nat) : Prop := ∀ J, PM J tx n t → FRq F I J → SM J F c l ps ws op 0 → ∃ T, Q T ∧ Ev X mX6_readsSum (d + 6) (0, 0) (0, 0) T 34 [.ref 42, .int (nI 1), .int (nI 1), .null] [] shF J L
def BZ (X : Ctx) (d : Nat) (I : MI) (L : ML) (tx : Nat → Nat) (n F : Nat) (Q : TR → Prop) (t c op : Nat) (a : R4) : Prop := ∀ J, PM J tx n t → FRq F I J → SM4 J F c op a → ∃ T, Q T ∧ Ev X mX6_readsSum (d + 6) (0, 0) (0, 0) T 34 [.ref 42, .int (nI 0), .int (nI 1), .null] [] shF J L
def EZ (I : MI) (L : ML) (tx : Nat → Nat) (n F : Nat) (Q : TR → Prop) (t c op : Nat) (a : R4) : Prop := ∀ J, PM J tx n t → FRq F I J → SM4 J F c op a → Q (none, shF, u2 J 42 14 (nI (F + 1)), L)
def FZ (I : MI) (L : ML) (tx : Nat → Nat) (n F : Nat) (Q : TR → Prop) (u : Nat) : Prop := ∀ J, FRq F I J → J 42 7 = nI (tkP tx n u) → Q (none, shF, u2 J 42 14 (nI (F + 1)), L)
theorem bps_mono (tx : Nat → Nat) (n t : Nat) : ∀ k, bps tx n t ≤ bps tx n (t + k)
  | 0 => Nat.le_refl _
  | k + 1 => by
    have h := bps_mono tx n t k
    have g := tokP_le tx (bps_le tx n (t + k))
    have e : bps tx n (t + (k + 1)) = (tokP tx n (bps tx n (t + k))).2.1 := rfl
    omega
theorem tkP_lt {tx : Nat → Nat} {n t t' : Nat} (hk : tkK tx n t ≠ 0) (h : t < t') : tkP tx n t < tkP tx n t' := by
  have g := tokP_le tx (bps_le tx n t)
  have g2 := g.2.2.2 hk
  have e1 : tkP tx n t = (tokP tx n (bps tx n t)).1 := rfl
  have e2 : bps tx n (t + 1) = (tokP tx n (bps tx n t)).2.1 := rfl
  have h3 := bps_mono tx n (t + 1) (t' - (t + 1))
  rw [show t + 1 + (t' - (t + 1)) = t' by omega] at h3
  have g3 := tokP_le tx (bps_le tx n t')
  have e4 : tkP tx n t' = (tokP tx n (bps tx n t')).1 := rfl
  omega
theorem rbR_t {K V : Nat → Nat} {t c op : Nat} {l : List Q4} {j : Nat} {ps ws : List Nat} {t' c' op' : Nat} {a : R4} (h : rbR K V t c l j ps ws op = .inr (.inr (t', c', op', a))) : t' = t ∨ (t < t' ∧ K t = 1) := by
  unfold rbR at h
  split at h
  · split at h
    · cases h
    · cases h
  · unfold rbW at h
    split at h
    · split at h
      · cases h
      · cases h
    · split at h
      · cases h; exact Or.inl rfl
      · split at h
        · rename_i ws' _ hC
          cases R : pdR K V (t + 1) c (pdB f43 ws j ps l).2.2.1 (pdB f43 ws j ps l).1 (pdB f43 ws j ps l).2.1 ws' with
          | inl u => rw [R] at h; cases h
          | inr v =>
            obtain ⟨t2, c2, a2⟩ := v
            rw [R] at h
            have hp := pdR_t R
            cases h
            exact Or.inr ⟨by omega, hC.1⟩
        · cases h
theorem rs_D (X : Ctx) (d : Nat) (I : MI) (L : ML) (tx : Nat → Nat) (n F : Nat) (Q : TR → Prop) (hn : n ≤ 100) (hF14 : I 42 14 = nI F) (hF : F < 4) (t c : Nat) (l : List Q4) (ps ws : List Nat) (op : Nat) (hr : goD (tkK tx n) (tkV tx n) F (DZ X d I L tx n F Q) (BZ X d I L tx n F Q) (FZ I L tx n F Q) t c l ps ws op) : DZ X d I L tx n F Q t c l ps ws op := by
  intro J P FR G
  unfold goD at hr
  refine qU (fun T_ k_ => r_aload_n (pc := 34) dX6_readsSum_34 rfl k_) ?_
  refine qU (fun T_ k_ => r_callV (pc := 35) (N := mX6_isWell) (rest := []) (s_isWell_t X _ J L P.2.2) okX6_isWell lkX6_127 rfl (by decide) rfl rfl rfl (Nat.le_of_ble_eq_true rfl) ⟨Nat.le_refl _, Nat.le_refl _⟩ dX6_readsSum_35 k_) ?_
  refine qP (fun T_ => r_ifN_eq (pc := 38) (tgt := 111) dX6_readsSum_38 (by decide) (by omega)) (fun c1 => ?_) (fun c1 => ?_)
  · exact absurd c1 (by decide)
  · refine qU (fun T_ k_ => r_iload_n (pc := 41) dX6_readsSum_41 rfl k_) ?_
    refine qP (fun T_ => r_ifN_eq (pc := 42) (tgt := 111) dX6_readsSum_42 (by decide) (by omega)) (fun c2 => ?_) (fun c2 => ?_)
    · exact absurd c2 (by decide)
    · refine qU (fun T_ k_ => r_iload_n (pc := 45) dX6_readsSum_45 rfl k_) ?_
      refine qP (fun T_ => r_ifN_eq (pc := 46) (tgt := 80) dX6_readsSum_46 (by decide) (by omega)) (fun c3 => ?_) (fun c3 => ?_)
      · exact absurd c3 (by decide)
      · refine qU (fun T_ k_ => r_aload_n (pc := 49) dX6_readsSum_49 rfl k_) ?_
        obtain ⟨T142, Q142, S142⟩ := s_readsPart X (d + 1) J L tx n F t c op l ps ws P G
        rcases R142 : rpR (tkK tx n) (tkV tx n) F t c ws op with u142 | ⟨t142, c142, w142, o142⟩ | ⟨t142, c142, q142⟩
        · rw [R142] at Q142 hr
          obtain ⟨b142, J142, rfl, hb142, F0142, C142⟩ := Q142
          have F142 := FR.trans F0142
          refine qU (fun T_ k_ => r_callV (pc := 50) (N := mX6_readsPart) (rest := []) (S142) okX6_readsPart lkX6_184 rfl (by decide) rfl rfl rfl (Nat.le_of_ble_eq_true rfl) ⟨Nat.le_refl _, Nat.le_refl _⟩ dX6_readsSum_50 k_) ?_
          refine qN (fun T_ => r_ifN_ne (pc := 53) (tgt := 60) dX6_readsSum_53 (by decide) (by omega)) (fun c4 => ?_) (fun c4 => ?_)
          · refine qU (fun T_ k_ => r_iconst (pc := 60) (v := nI 0) dX6_readsSum_60 rfl k_) ?_
            refine qU (fun T_ k_ => r_istore_n (pc := 61) (lo1 := [.ref 42, .int (nI 0), .int (nI 1), .null]) dX6_readsSum_61 rfl (by decide) rfl k_) ?_
            refine qU (fun T_ k_ => r_iload_n (pc := 62) dX6_readsSum_62 rfl k_) ?_
            refine qN (fun T_ => r_ifN_ne (pc := 63) (tgt := 34) dX6_readsSum_63 (by decide) (by omega)) (fun c5 => ?_) (fun c5 => ?_)
            · exact absurd c5 (by decide)
            · refine qU (fun T_ k_ => r_aload_n (pc := 66) dX6_readsSum_66 rfl k_) ?_
              refine qU (fun T_ k_ => r_callV (pc := 67) (N := mX6_isWell) (rest := []) (s_isWell_f X _ J142 L (tkP tx n u142) C142 (Nat.le_trans (tkP_le u142) hn)) okX6_isWell lkX6_127 rfl (by decide) rfl rfl rfl (Nat.le_of_ble_eq_true rfl) ⟨Nat.le_refl _, Nat.le_refl _⟩ dX6_readsSum_67 k_) ?_
              refine qP (fun T_ => r_ifN_eq (pc := 70) (tgt := 34) dX6_readsSum_70 (by decide) (by omega)) (fun c6 => ?_) (fun c6 => ?_)
              · refine qU (fun T_ k_ => r_aload_n (pc := 34) dX6_readsSum_34 rfl k_) ?_
                refine qU (fun T_ k_ => r_callV (pc := 35) (N := mX6_isWell) (rest := []) (s_isWell_f X _ J142 L (tkP tx n u142) C142 (Nat.le_trans (tkP_le u142) hn)) okX6_isWell lkX6_127 rfl (by decide) rfl rfl rfl (Nat.le_of_ble_eq_true rfl) ⟨Nat.le_refl _, Nat.le_refl _⟩ dX6_readsSum_35 k_) ?_
                refine qP (fun T_ => r_ifN_eq (pc := 38) (tgt := 111) dX6_readsSum_38 (by decide) (by omega)) (fun c7 => ?_) (fun c7 => ?_)
                · refine qU (fun T_ k_ => r_aload_n (pc := 111) dX6_readsSum_111 rfl k_) ?_
                  refine qU (fun T_ k_ => r_dup (pc := 112) dX6_readsSum_112 rfl k_) ?_
                  refine qU (fun T_ k_ => r_getV (pc := 113) (v := nI F) dX6_readsSum_113 fX6_145 rfl rfl ((F142 42 14 (by decide) (by omega) (by omega) (by decide) (by decide)).trans hF14) k_) ?_
                  refine qU (fun T_ k_ => r_iconst (pc := 116) (v := nI 1) dX6_readsSum_116 rfl k_) ?_
                  refine qU (fun T_ k_ => r_iaddN (pc := 117) dX6_readsSum_117 k_) ?_
                  refine qU (fun T_ k_ => r_put (pc := 118) .int dX6_readsSum_118 fX6_145 rfl rfl nf6_14 rfl rfl k_) ?_
                  exact ⟨_, hr _ F142 C142, r_vret dX6_readsSum_121 rfl rfl rfl⟩
                · exact absurd c7 (by decide)
              · exact absurd c6 (by decide)
          · refine qU (fun T_ k_ => r_iconst (pc := 56) (v := nI 1) dX6_readsSum_56 rfl k_) ?_
            refine qU (fun T_ k_ => r_goto (pc := 57) (tgt := 61) dX6_readsSum_57 (by decide) k_) ?_
            refine qU (fun T_ k_ => r_istore_n (pc := 61) (lo1 := [.ref 42, .int (nI 1), .int (nI 1), .null]) dX6_readsSum_61 rfl (by decide) rfl k_) ?_
            refine qU (fun T_ k_ => r_iload_n (pc := 62) dX6_readsSum_62 rfl k_) ?_
            refine qN (fun T_ => r_ifN_ne (pc := 63) (tgt := 34) dX6_readsSum_63 (by decide) (by omega)) (fun c8 => ?_) (fun c8 => ?_)
            · refine qU (fun T_ k_ => r_aload_n (pc := 34) dX6_readsSum_34 rfl k_) ?_
              refine qU (fun T_ k_ => r_callV (pc := 35) (N := mX6_isWell) (rest := []) (s_isWell_f X _ J142 L (tkP tx n u142) C142 (Nat.le_trans (tkP_le u142) hn)) okX6_isWell lkX6_127 rfl (by decide) rfl rfl rfl (Nat.le_of_ble_eq_true rfl) ⟨Nat.le_refl _, Nat.le_refl _⟩ dX6_readsSum_35 k_) ?_
              refine qP (fun T_ => r_ifN_eq (pc := 38) (tgt := 111) dX6_readsSum_38 (by decide) (by omega)) (fun c9 => ?_) (fun c9 => ?_)
              · refine qU (fun T_ k_ => r_aload_n (pc := 111) dX6_readsSum_111 rfl k_) ?_
                refine qU (fun T_ k_ => r_dup (pc := 112) dX6_readsSum_112 rfl k_) ?_
                refine qU (fun T_ k_ => r_getV (pc := 113) (v := nI F) dX6_readsSum_113 fX6_145 rfl rfl ((F142 42 14 (by decide) (by omega) (by omega) (by decide) (by decide)).trans hF14) k_) ?_
                refine qU (fun T_ k_ => r_iconst (pc := 116) (v := nI 1) dX6_readsSum_116 rfl k_) ?_
                refine qU (fun T_ k_ => r_iaddN (pc := 117) dX6_readsSum_117 k_) ?_
                refine qU (fun T_ k_ => r_put (pc := 118) .int dX6_readsSum_118 fX6_145 rfl rfl nf6_14 rfl rfl k_) ?_
                exact ⟨_, hr _ F142 C142, r_vret dX6_readsSum_121 rfl rfl rfl⟩
              · exact absurd c9 (by decide)
            · exact absurd c8 (by decide)
        · rw [R142] at Q142 hr
          obtain ⟨J142, rfl, F0142, P142, G142⟩ := Q142
          have F142 := FR.trans F0142
          refine qU (fun T_ k_ => r_callV (pc := 50) (N := mX6_readsPart) (rest := []) (S142) okX6_readsPart lkX6_184 rfl (by decide) rfl rfl rfl (Nat.le_of_ble_eq_true rfl) ⟨Nat.le_refl _, Nat.le_refl _⟩ dX6_readsSum_50 k_) ?_
          refine qN (fun T_ => r_ifN_ne (pc := 53) (tgt := 60) dX6_readsSum_53 (by decide) (by omega)) (fun c10 => ?_) (fun c10 => ?_)
          · exact absurd c10 (by decide)
          · refine qU (fun T_ k_ => r_iconst (pc := 56) (v := nI 1) dX6_readsSum_56 rfl k_) ?_
            refine qU (fun T_ k_ => r_goto (pc := 57) (tgt := 61) dX6_readsSum_57 (by decide) k_) ?_
            refine qU (fun T_ k_ => r_istore_n (pc := 61) (lo1 := [.ref 42, .int (nI 1), .int (nI 1), .null]) dX6_readsSum_61 rfl (by decide) rfl k_) ?_
            refine qU (fun T_ k_ => r_iload_n (pc := 62) dX6_readsSum_62 rfl k_) ?_
            refine qN (fun T_ => r_ifN_ne (pc := 63) (tgt := 34) dX6_readsSum_63 (by decide) (by omega)) (fun c11 => ?_) (fun c11 => ?_)
            · exact hr _ P142 F142 G142
            · exact absurd c11 (by decide)
        · rw [R142] at Q142 hr
          obtain ⟨J142, rfl, F0142, P142, G142⟩ := Q142
          have F142 := FR.trans F0142
          refine qU (fun T_ k_ => r_callV (pc := 50) (N := mX6_readsPart) (rest := []) (S142) okX6_readsPart lkX6_184 rfl (by decide) rfl rfl rfl (Nat.le_of_ble_eq_true rfl) ⟨Nat.le_refl _, Nat.le_refl _⟩ dX6_readsSum_50 k_) ?_
          refine qN (fun T_ => r_ifN_ne (pc := 53) (tgt := 60) dX6_readsSum_53 (by decide) (by omega)) (fun c12 => ?_) (fun c12 => ?_)
          · refine qU (fun T_ k_ => r_iconst (pc := 60) (v := nI 0) dX6_readsSum_60 rfl k_) ?_
            refine qU (fun T_ k_ => r_istore_n (pc := 61) (lo1 := [.ref 42, .int (nI 0), .int (nI 1), .null]) dX6_readsSum_61 rfl (by decide) rfl k_) ?_
            refine qU (fun T_ k_ => r_iload_n (pc := 62) dX6_readsSum_62 rfl k_) ?_
            refine qN (fun T_ => r_ifN_ne (pc := 63) (tgt := 34) dX6_readsSum_63 (by decide) (by omega)) (fun c13 => ?_) (fun c13 => ?_)
            · exact absurd c13 (by decide)
            · refine qU (fun T_ k_ => r_aload_n (pc := 66) dX6_readsSum_66 rfl k_) ?_
              refine qU (fun T_ k_ => r_callV (pc := 67) (N := mX6_isWell) (rest := []) (s_isWell_t X _ J142 L P142.2.2) okX6_isWell lkX6_127 rfl (by decide) rfl rfl rfl (Nat.le_of_ble_eq_true rfl) ⟨Nat.le_refl _, Nat.le_refl _⟩ dX6_readsSum_67 k_) ?_
              refine qP (fun T_ => r_ifN_eq (pc := 70) (tgt := 34) dX6_readsSum_70 (by decide) (by omega)) (fun c14 => ?_) (fun c14 => ?_)
              · exact absurd c14 (by decide)
              · refine qU (fun T_ k_ => r_aload_n (pc := 73) dX6_readsSum_73 rfl k_) ?_
                obtain ⟨T143, Q143, S143⟩ := s_partDone X (d + 1) J142 L tx n F t142 c142 op (l ++ [q142]) l.length ps ws P142 G142
                have hr : goP (tkK tx n) (tkV tx n) (BZ X d I L tx n F Q) (FZ I L tx n F Q) t142 c142 (l ++ [q142]) l.length ps ws op := hr
                unfold goP at hr
                rcases R143 : pdR (tkK tx n) (tkV tx n) t142 c142 (l ++ [q142]) l.length ps ws with u143 | ⟨t143, c143, a143⟩
                · rw [R143] at Q143 hr
                  obtain ⟨J143, rfl, F0143, C143⟩ := Q143
                  have F143 := F142.trans F0143
                  refine qU (fun T_ k_ => r_callV (pc := 74) (N := mX6_partDone) (rest := []) (S143) okX6_partDone lkX6_181 rfl (by decide) rfl rfl rfl (Nat.le_of_ble_eq_true rfl) ⟨Nat.le_refl _, Nat.le_refl _⟩ dX6_readsSum_74 k_) ?_
                  refine qU (fun T_ k_ => r_goto (pc := 77) (tgt := 34) dX6_readsSum_77 (by decide) k_) ?_
                  refine qU (fun T_ k_ => r_aload_n (pc := 34) dX6_readsSum_34 rfl k_) ?_
                  refine qU (fun T_ k_ => r_callV (pc := 35) (N := mX6_isWell) (rest := []) (s_isWell_f X _ J143 L (tkP tx n u143) C143 (Nat.le_trans (tkP_le u143) hn)) okX6_isWell lkX6_127 rfl (by decide) rfl rfl rfl (Nat.le_of_ble_eq_true rfl) ⟨Nat.le_refl _, Nat.le_refl _⟩ dX6_readsSum_35 k_) ?_
                  refine qP (fun T_ => r_ifN_eq (pc := 38) (tgt := 111) dX6_readsSum_38 (by decide) (by omega)) (fun c15 => ?_) (fun c15 => ?_)
                  · refine qU (fun T_ k_ => r_aload_n (pc := 111) dX6_readsSum_111 rfl k_) ?_
                    refine qU (fun T_ k_ => r_dup (pc := 112) dX6_readsSum_112 rfl k_) ?_
                    refine qU (fun T_ k_ => r_getV (pc := 113) (v := nI F) dX6_readsSum_113 fX6_145 rfl rfl ((F143 42 14 (by decide) (by omega) (by omega) (by decide) (by decide)).trans hF14) k_) ?_
                    refine qU (fun T_ k_ => r_iconst (pc := 116) (v := nI 1) dX6_readsSum_116 rfl k_) ?_
                    refine qU (fun T_ k_ => r_iaddN (pc := 117) dX6_readsSum_117 k_) ?_
                    refine qU (fun T_ k_ => r_put (pc := 118) .int dX6_readsSum_118 fX6_145 rfl rfl nf6_14 rfl rfl k_) ?_
                    exact ⟨_, hr _ F143 C143, r_vret dX6_readsSum_121 rfl rfl rfl⟩
                  · exact absurd c15 (by decide)
                · rw [R143] at Q143 hr
                  obtain ⟨J143, rfl, F0143, P143, G143⟩ := Q143
                  have F143 := F142.trans F0143
                  refine qU (fun T_ k_ => r_callV (pc := 74) (N := mX6_partDone) (rest := []) (S143) okX6_partDone lkX6_181 rfl (by decide) rfl rfl rfl (Nat.le_of_ble_eq_true rfl) ⟨Nat.le_refl _, Nat.le_refl _⟩ dX6_readsSum_74 k_) ?_
                  refine qU (fun T_ k_ => r_goto (pc := 77) (tgt := 34) dX6_readsSum_77 (by decide) k_) ?_
                  exact hr _ P143 F143 G143
          · exact absurd c12 (by decide)
theorem rs_B (X : Ctx) (d : Nat) (I : MI) (L : ML) (tx : Nat → Nat) (n F : Nat) (Q : TR → Prop) (hn : n ≤ 100) (hF14 : I 42 14 = nI F) (hF : F < 4) (t c op : Nat) (a : R4) (hcl : clW (pdB f43 a.2.2.2 a.1 a.2.1 a.2.2.1)) (hr : goB (tkK tx n) (tkV tx n) (DZ X d I L tx n F Q) (BZ X d I L tx n F Q) (EZ I L tx n F Q) (FZ I L tx n F Q) t c op a) : BZ X d I L tx n F Q t c op a := by
  intro J P FR G
  obtain ⟨j, ps, l, ws⟩ := a
  have G : SM J F c l (j :: ps) ws op 1 := G
  have htn := tkP_le (tx := tx) (n := n) t
  unfold goB at hr
  dsimp only at hr hcl
  refine qU (fun T_ k_ => r_aload_n (pc := 34) dX6_readsSum_34 rfl k_) ?_
  refine qU (fun T_ k_ => r_callV (pc := 35) (N := mX6_isWell) (rest := []) (s_isWell_t X _ J L P.2.2) okX6_isWell lkX6_127 rfl (by decide) rfl rfl rfl (Nat.le_of_ble_eq_true rfl) ⟨Nat.le_refl _, Nat.le_refl _⟩ dX6_readsSum_35 k_) ?_
  refine qP (fun T_ => r_ifN_eq (pc := 38) (tgt := 111) dX6_readsSum_38 (by decide) (by omega)) (fun c1 => ?_) (fun c1 => ?_)
  · exact absurd c1 (by decide)
  · refine qU (fun T_ k_ => r_iload_n (pc := 41) dX6_readsSum_41 rfl k_) ?_
    refine qP (fun T_ => r_ifN_eq (pc := 42) (tgt := 111) dX6_readsSum_42 (by decide) (by omega)) (fun c2 => ?_) (fun c2 => ?_)
    · exact absurd c2 (by decide)
    · refine qU (fun T_ k_ => r_iload_n (pc := 45) dX6_readsSum_45 rfl k_) ?_
      refine qP (fun T_ => r_ifN_eq (pc := 46) (tgt := 80) dX6_readsSum_46 (by decide) (by omega)) (fun c3 => ?_) (fun c3 => ?_)
      · refine qU (fun T_ k_ => r_aload_n (pc := 80) dX6_readsSum_80 rfl k_) ?_
        refine qU (fun T_ k_ => r_getV (pc := 81) (v := nI (tkP tx n t)) dX6_readsSum_81 fX6_111 rfl rfl (P.2.1.1) k_) ?_
        refine qU (fun T_ k_ => r_istore_n (pc := 84) (lo1 := [.ref 42, .int (nI 0), .int (nI 1), .int (nI (tkP tx n t))]) dX6_readsSum_84 rfl (by decide) rfl k_) ?_
        refine qU (fun T_ k_ => r_aload_n (pc := 85) dX6_readsSum_85 rfl k_) ?_
        obtain ⟨T144, Q144, S144⟩ := s_readsBehind X d J L tx n F t c op l j ps ws P G hcl
        rcases R144 : rbR (tkK tx n) (tkV tx n) t c l j ps ws op with u144 | ⟨t144, c144, l144, p144, w144⟩ | ⟨t144, c144, o144, a144⟩
        · rw [R144] at Q144 hr
          obtain ⟨b144, J144, rfl, hb144, F0144, C144⟩ := Q144
          have F144 := FR.trans F0144
          refine qU (fun T_ k_ => r_callV (pc := 86) (N := mX6_readsBehind) (rest := []) (S144) okX6_readsBehind lkX6_187 rfl (by decide) rfl rfl rfl (Nat.le_of_ble_eq_true rfl) ⟨Nat.le_refl _, Nat.le_refl _⟩ dX6_readsSum_86 k_) ?_
          refine qU (fun T_ k_ => r_istore_n (pc := 89) (lo1 := [.ref 42, .int (nI b144), .int (nI 1), .int (nI (tkP tx n t))]) dX6_readsSum_89 rfl (by decide) rfl k_) ?_
          refine qU (fun T_ k_ => r_iload_n (pc := 90) dX6_readsSum_90 rfl k_) ?_
          refine qN (fun T_ => r_ifN_ne (pc := 91) (tgt := 102) dX6_readsSum_91 (by decide) (by omega)) (fun c4 => ?_) (fun c4 => ?_)
          · refine qU (fun T_ k_ => r_iconst (pc := 102) (v := nI 1) dX6_readsSum_102 rfl k_) ?_
            refine qU (fun T_ k_ => r_goto (pc := 103) (tgt := 107) dX6_readsSum_103 (by decide) k_) ?_
            refine qU (fun T_ k_ => r_istore_n (pc := 107) (lo1 := [.ref 42, .int (nI b144), .int (nI 1), .int (nI (tkP tx n t))]) dX6_readsSum_107 rfl (by decide) rfl k_) ?_
            refine qU (fun T_ k_ => r_goto (pc := 108) (tgt := 34) dX6_readsSum_108 (by decide) k_) ?_
            refine qU (fun T_ k_ => r_aload_n (pc := 34) dX6_readsSum_34 rfl k_) ?_
            refine qU (fun T_ k_ => r_callV (pc := 35) (N := mX6_isWell) (rest := []) (s_isWell_f X _ J144 L (tkP tx n u144) C144 (Nat.le_trans (tkP_le u144) hn)) okX6_isWell lkX6_127 rfl (by decide) rfl rfl rfl (Nat.le_of_ble_eq_true rfl) ⟨Nat.le_refl _, Nat.le_refl _⟩ dX6_readsSum_35 k_) ?_
            refine qP (fun T_ => r_ifN_eq (pc := 38) (tgt := 111) dX6_readsSum_38 (by decide) (by omega)) (fun c5 => ?_) (fun c5 => ?_)
            · refine qU (fun T_ k_ => r_aload_n (pc := 111) dX6_readsSum_111 rfl k_) ?_
              refine qU (fun T_ k_ => r_dup (pc := 112) dX6_readsSum_112 rfl k_) ?_
              refine qU (fun T_ k_ => r_getV (pc := 113) (v := nI F) dX6_readsSum_113 fX6_145 rfl rfl ((F144 42 14 (by decide) (by omega) (by omega) (by decide) (by decide)).trans hF14) k_) ?_
              refine qU (fun T_ k_ => r_iconst (pc := 116) (v := nI 1) dX6_readsSum_116 rfl k_) ?_
              refine qU (fun T_ k_ => r_iaddN (pc := 117) dX6_readsSum_117 k_) ?_
              refine qU (fun T_ k_ => r_put (pc := 118) .int dX6_readsSum_118 fX6_145 rfl rfl nf6_14 rfl rfl k_) ?_
              exact ⟨_, hr _ F144 C144, r_vret dX6_readsSum_121 rfl rfl rfl⟩
            · exact absurd c5 (by decide)
          · refine qU (fun T_ k_ => r_aload_n (pc := 94) dX6_readsSum_94 rfl k_) ?_
            refine qU (fun T_ k_ => r_get (pc := 95) dX6_readsSum_95 fX6_111 rfl rfl k_) ?_
            refine qU (fun T_ k_ => r_iload_n (pc := 98) dX6_readsSum_98 rfl k_) ?_
            refine qP (fun T_ => r_icmp_le (pc := 99) (tgt := 106) dX6_readsSum_99 (by decide)) (fun c6 => ?_) (fun c6 => ?_)
            · refine qU (fun T_ k_ => r_iconst (pc := 106) (v := nI 0) dX6_readsSum_106 rfl k_) ?_
              refine qU (fun T_ k_ => r_istore_n (pc := 107) (lo1 := [.ref 42, .int (nI b144), .int (nI 0), .int (nI (tkP tx n t))]) dX6_readsSum_107 rfl (by decide) rfl k_) ?_
              refine qU (fun T_ k_ => r_goto (pc := 108) (tgt := 34) dX6_readsSum_108 (by decide) k_) ?_
              refine qU (fun T_ k_ => r_aload_n (pc := 34) dX6_readsSum_34 rfl k_) ?_
              refine qU (fun T_ k_ => r_callV (pc := 35) (N := mX6_isWell) (rest := []) (s_isWell_f X _ J144 L (tkP tx n u144) C144 (Nat.le_trans (tkP_le u144) hn)) okX6_isWell lkX6_127 rfl (by decide) rfl rfl rfl (Nat.le_of_ble_eq_true rfl) ⟨Nat.le_refl _, Nat.le_refl _⟩ dX6_readsSum_35 k_) ?_
              refine qP (fun T_ => r_ifN_eq (pc := 38) (tgt := 111) dX6_readsSum_38 (by decide) (by omega)) (fun c7 => ?_) (fun c7 => ?_)
              · refine qU (fun T_ k_ => r_aload_n (pc := 111) dX6_readsSum_111 rfl k_) ?_
                refine qU (fun T_ k_ => r_dup (pc := 112) dX6_readsSum_112 rfl k_) ?_
                refine qU (fun T_ k_ => r_getV (pc := 113) (v := nI F) dX6_readsSum_113 fX6_145 rfl rfl ((F144 42 14 (by decide) (by omega) (by omega) (by decide) (by decide)).trans hF14) k_) ?_
                refine qU (fun T_ k_ => r_iconst (pc := 116) (v := nI 1) dX6_readsSum_116 rfl k_) ?_
                refine qU (fun T_ k_ => r_iaddN (pc := 117) dX6_readsSum_117 k_) ?_
                refine qU (fun T_ k_ => r_put (pc := 118) .int dX6_readsSum_118 fX6_145 rfl rfl nf6_14 rfl rfl k_) ?_
                exact ⟨_, hr _ F144 C144, r_vret dX6_readsSum_121 rfl rfl rfl⟩
              · exact absurd c7 (by decide)
            · refine qU (fun T_ k_ => r_iconst (pc := 102) (v := nI 1) dX6_readsSum_102 rfl k_) ?_
              refine qU (fun T_ k_ => r_goto (pc := 103) (tgt := 107) dX6_readsSum_103 (by decide) k_) ?_
              refine qU (fun T_ k_ => r_istore_n (pc := 107) (lo1 := [.ref 42, .int (nI b144), .int (nI 1), .int (nI (tkP tx n t))]) dX6_readsSum_107 rfl (by decide) rfl k_) ?_
              refine qU (fun T_ k_ => r_goto (pc := 108) (tgt := 34) dX6_readsSum_108 (by decide) k_) ?_
              refine qU (fun T_ k_ => r_aload_n (pc := 34) dX6_readsSum_34 rfl k_) ?_
              refine qU (fun T_ k_ => r_callV (pc := 35) (N := mX6_isWell) (rest := []) (s_isWell_f X _ J144 L (tkP tx n u144) C144 (Nat.le_trans (tkP_le u144) hn)) okX6_isWell lkX6_127 rfl (by decide) rfl rfl rfl (Nat.le_of_ble_eq_true rfl) ⟨Nat.le_refl _, Nat.le_refl _⟩ dX6_readsSum_35 k_) ?_
              refine qP (fun T_ => r_ifN_eq (pc := 38) (tgt := 111) dX6_readsSum_38 (by decide) (by omega)) (fun c8 => ?_) (fun c8 => ?_)
              · refine qU (fun T_ k_ => r_aload_n (pc := 111) dX6_readsSum_111 rfl k_) ?_
                refine qU (fun T_ k_ => r_dup (pc := 112) dX6_readsSum_112 rfl k_) ?_
                refine qU (fun T_ k_ => r_getV (pc := 113) (v := nI F) dX6_readsSum_113 fX6_145 rfl rfl ((F144 42 14 (by decide) (by omega) (by omega) (by decide) (by decide)).trans hF14) k_) ?_
                refine qU (fun T_ k_ => r_iconst (pc := 116) (v := nI 1) dX6_readsSum_116 rfl k_) ?_
                refine qU (fun T_ k_ => r_iaddN (pc := 117) dX6_readsSum_117 k_) ?_
                refine qU (fun T_ k_ => r_put (pc := 118) .int dX6_readsSum_118 fX6_145 rfl rfl nf6_14 rfl rfl k_) ?_
                exact ⟨_, hr _ F144 C144, r_vret dX6_readsSum_121 rfl rfl rfl⟩
              · exact absurd c8 (by decide)
        · rw [R144] at Q144 hr
          obtain ⟨J144, rfl, F0144, P144, G144⟩ := Q144
          have F144 := FR.trans F0144
          refine qU (fun T_ k_ => r_callV (pc := 86) (N := mX6_readsBehind) (rest := []) (S144) okX6_readsBehind lkX6_187 rfl (by decide) rfl rfl rfl (Nat.le_of_ble_eq_true rfl) ⟨Nat.le_refl _, Nat.le_refl _⟩ dX6_readsSum_86 k_) ?_
          refine qU (fun T_ k_ => r_istore_n (pc := 89) (lo1 := [.ref 42, .int (nI 1), .int (nI 1), .int (nI (tkP tx n t))]) dX6_readsSum_89 rfl (by decide) rfl k_) ?_
          refine qU (fun T_ k_ => r_iload_n (pc := 90) dX6_readsSum_90 rfl k_) ?_
          refine qN (fun T_ => r_ifN_ne (pc := 91) (tgt := 102) dX6_readsSum_91 (by decide) (by omega)) (fun c9 => ?_) (fun c9 => ?_)
          · refine qU (fun T_ k_ => r_iconst (pc := 102) (v := nI 1) dX6_readsSum_102 rfl k_) ?_
            refine qU (fun T_ k_ => r_goto (pc := 103) (tgt := 107) dX6_readsSum_103 (by decide) k_) ?_
            refine qU (fun T_ k_ => r_istore_n (pc := 107) (lo1 := [.ref 42, .int (nI 1), .int (nI 1), .int (nI (tkP tx n t))]) dX6_readsSum_107 rfl (by decide) rfl k_) ?_
            refine qU (fun T_ k_ => r_goto (pc := 108) (tgt := 34) dX6_readsSum_108 (by decide) k_) ?_
            refine qU (fun T_ k_ => r_drop (lo1 := [.ref 42, .int (nI 1), .int (nI 1), .null]) 3 rfl k_) ?_
            exact hr _ P144 F144 G144
          · exact absurd c9 (by decide)
        · have ht144 := rbR_t R144
          rw [R144] at Q144 hr
          obtain ⟨J144, rfl, F0144, P144, G144⟩ := Q144
          have F144 := FR.trans F0144
          have hp144 := tkP_le (tx := tx) (n := n) t144
          refine qU (fun T_ k_ => r_callV (pc := 86) (N := mX6_readsBehind) (rest := []) (S144) okX6_readsBehind lkX6_187 rfl (by decide) rfl rfl rfl (Nat.le_of_ble_eq_true rfl) ⟨Nat.le_refl _, Nat.le_refl _⟩ dX6_readsSum_86 k_) ?_
          refine qU (fun T_ k_ => r_istore_n (pc := 89) (lo1 := [.ref 42, .int (nI 0), .int (nI 1), .int (nI (tkP tx n t))]) dX6_readsSum_89 rfl (by decide) rfl k_) ?_
          refine qU (fun T_ k_ => r_iload_n (pc := 90) dX6_readsSum_90 rfl k_) ?_
          refine qN (fun T_ => r_ifN_ne (pc := 91) (tgt := 102) dX6_readsSum_91 (by decide) (by omega)) (fun c10 => ?_) (fun c10 => ?_)
          · exact absurd c10 (by decide)
          · refine qU (fun T_ k_ => r_aload_n (pc := 94) dX6_readsSum_94 rfl k_) ?_
            refine qU (fun T_ k_ => r_getV (pc := 95) (v := nI (tkP tx n t144)) dX6_readsSum_95 fX6_111 rfl rfl (P144.2.1.1) k_) ?_
            refine qU (fun T_ k_ => r_iload_n (pc := 98) dX6_readsSum_98 rfl k_) ?_
            refine qP (fun T_ => r_icmpN_le (pc := 99) (tgt := 106) dX6_readsSum_99 (by decide) (by omega) (by omega)) (fun c11 => ?_) (fun c11 => ?_)
            · refine qU (fun T_ k_ => r_iconst (pc := 106) (v := nI 0) dX6_readsSum_106 rfl k_) ?_
              refine qU (fun T_ k_ => r_istore_n (pc := 107) (lo1 := [.ref 42, .int (nI 0), .int (nI 0), .int (nI (tkP tx n t))]) dX6_readsSum_107 rfl (by decide) rfl k_) ?_
              refine qU (fun T_ k_ => r_goto (pc := 108) (tgt := 34) dX6_readsSum_108 (by decide) k_) ?_
              refine qU (fun T_ k_ => r_aload_n (pc := 34) dX6_readsSum_34 rfl k_) ?_
              refine qU (fun T_ k_ => r_callV (pc := 35) (N := mX6_isWell) (rest := []) (s_isWell_t X _ J144 L P144.2.2) okX6_isWell lkX6_127 rfl (by decide) rfl rfl rfl (Nat.le_of_ble_eq_true rfl) ⟨Nat.le_refl _, Nat.le_refl _⟩ dX6_readsSum_35 k_) ?_
              refine qP (fun T_ => r_ifN_eq (pc := 38) (tgt := 111) dX6_readsSum_38 (by decide) (by omega)) (fun c12 => ?_) (fun c12 => ?_)
              · exact absurd c12 (by decide)
              · refine qU (fun T_ k_ => r_iload_n (pc := 41) dX6_readsSum_41 rfl k_) ?_
                refine qP (fun T_ => r_ifN_eq (pc := 42) (tgt := 111) dX6_readsSum_42 (by decide) (by omega)) (fun c13 => ?_) (fun c13 => ?_)
                · refine qU (fun T_ k_ => r_aload_n (pc := 111) dX6_readsSum_111 rfl k_) ?_
                  refine qU (fun T_ k_ => r_dup (pc := 112) dX6_readsSum_112 rfl k_) ?_
                  refine qU (fun T_ k_ => r_getV (pc := 113) (v := nI F) dX6_readsSum_113 fX6_145 rfl rfl (G144.1.1) k_) ?_
                  refine qU (fun T_ k_ => r_iconst (pc := 116) (v := nI 1) dX6_readsSum_116 rfl k_) ?_
                  refine qU (fun T_ k_ => r_iaddN (pc := 117) dX6_readsSum_117 k_) ?_
                  refine qU (fun T_ k_ => r_put (pc := 118) .int dX6_readsSum_118 fX6_145 rfl rfl nf6_14 rfl rfl k_) ?_
                  have he144 : t144 = t := ht144.elim (fun z => z) (fun z => absurd (tkP_lt (tx := tx) (n := n) (show tkK tx n t ≠ 0 by omega) z.1) (by omega))
                  exact ⟨_, hr.2 he144 _ P144 F144 G144, r_vret dX6_readsSum_121 rfl rfl rfl⟩
                · exact absurd c13 (by decide)
            · refine qU (fun T_ k_ => r_iconst (pc := 102) (v := nI 1) dX6_readsSum_102 rfl k_) ?_
              refine qU (fun T_ k_ => r_goto (pc := 103) (tgt := 107) dX6_readsSum_103 (by decide) k_) ?_
              refine qU (fun T_ k_ => r_istore_n (pc := 107) (lo1 := [.ref 42, .int (nI 0), .int (nI 1), .int (nI (tkP tx n t))]) dX6_readsSum_107 rfl (by decide) rfl k_) ?_
              refine qU (fun T_ k_ => r_goto (pc := 108) (tgt := 34) dX6_readsSum_108 (by decide) k_) ?_
              refine qU (fun T_ k_ => r_drop (lo1 := [.ref 42, .int (nI 0), .int (nI 1), .null]) 3 rfl k_) ?_
              exact hr.1 (ht144.elim (fun z => absurd (Nat.le_of_eq (congrArg (tkP tx n) z)) c11) (fun z => z.1)) _ P144 F144 G144
      · exact absurd c3 (by decide)
