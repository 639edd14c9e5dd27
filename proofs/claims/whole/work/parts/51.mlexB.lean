def FRm (I J : MI) : Prop := ∀ c j, ¬ (c = 42 ∧ 3 ≤ j ∧ j ≤ 6) → J c j = I c j
theorem FRm.refl (I : MI) : FRm I I := fun _ _ _ => rfl
theorem FRm.put {I J : MI} (h : FRm I J) (j : Nat) (x : Int32) (h1 : 3 ≤ j) (h2 : j ≤ 6) : FRm I (u2 J 42 j x) := fun c i q => (u2_ne (by omega)).trans (h c i q)
theorem FRm.trans {I J H : MI} (h : FRm I J) (h2 : FRm J H) : FRm I H := fun c j q => (h2 c j q).trans (h c j q)
theorem TXm.fr {I J : MI} {tx : Nat → Nat} {n : Nat} (h : TXm I tx n) (hF : FRm I J) : TXm J tx n := ⟨(hF 42 2 (by decide)).trans h.1, h.2.1, fun j hj => ⟨(hF 43 j (by omega)).trans (h.2.2 j hj).1, (h.2.2 j hj).2⟩⟩
theorem lp_adv1 (X : Ctx) (d : Nat) (I : MI) (L : ML) (tx : Nat → Nat) (n : Nat) (Q : TR → Prop) : ∀ (f p : Nat) (J : MI), n ≤ p + f → p ≤ n → TXm J tx n → FRm I J → J 42 3 = nI p → (∀ J2, TXm J2 tx n → FRm I J2 → J2 42 3 = nI (skp tx n f p) → ∃ T, Q T ∧ Ev X mX6_advances (d + 2) (0, 0) (0, 0) T 26 [.ref 42, .null] [] shF J2 L) → ∃ T, Q T ∧ Ev X mX6_advances (d + 2) (0, 0) (0, 0) T 0 [.ref 42, .null] [] shF J L := by
  intro f
  induction f with
  | zero =>
    intro p J hf hp2 hT hF h3 K
    have hn := hT.2.1
    refine qU (fun T_ k_ => r_aload_n (pc := 0) dX6_advances_0 rfl k_) ?_
    refine qU (fun T_ k_ => r_aload_n (pc := 1) dX6_advances_1 rfl k_) ?_
    refine qU (fun T_ k_ => r_getV (pc := 2) (v := nI p) dX6_advances_2 fX6_104 rfl rfl (h3) k_) ?_
    refine qU (fun T_ k_ => r_callV (pc := 5) (N := mX6_letterAt) (rest := []) (s_letterAt_f X _ J L n (p) hT.1 hn (by omega) (by omega)) okX6_letterAt lkX6_107 rfl (by decide) rfl rfl rfl (Nat.le_of_ble_eq_true rfl) ⟨Nat.le_refl _, Nat.le_refl _⟩ dX6_advances_5 k_) ?_
    refine qU (fun T_ k_ => r_bipush (pc := 8) dX6_advances_8 bp_32 k_) ?_
    refine qN (fun T_ => r_icmp_ne (pc := 10) (tgt := 26) dX6_advances_10 (by decide)) (fun c1 => ?_) (fun c1 => ?_)
    · exact K J hT hF h3
    · exact absurd c1 (by decide)
  | succ f ih =>
    intro p J hf hp2 hT hF h3 K
    have hn := hT.2.1
    by_cases hp : p < n
    · have hv := (hT.2.2 p hp).2
      refine qU (fun T_ k_ => r_aload_n (pc := 0) dX6_advances_0 rfl k_) ?_
      refine qU (fun T_ k_ => r_aload_n (pc := 1) dX6_advances_1 rfl k_) ?_
      refine qU (fun T_ k_ => r_getV (pc := 2) (v := nI p) dX6_advances_2 fX6_104 rfl rfl (h3) k_) ?_
      refine qU (fun T_ k_ => r_callV (pc := 5) (N := mX6_letterAt) (rest := []) (s_letterAt_t X _ J L n (p) (tx (p)) hT.1 hn hp ((hT.2.2 _ hp).1)) okX6_letterAt lkX6_107 rfl (by decide) rfl rfl rfl (Nat.le_of_ble_eq_true rfl) ⟨Nat.le_refl _, Nat.le_refl _⟩ dX6_advances_5 k_) ?_
      refine qU (fun T_ k_ => r_bipush (pc := 8) dX6_advances_8 bp_32 k_) ?_
      refine qN (fun T_ => r_icmpN_ne (pc := 10) (tgt := 26) dX6_advances_10 (by decide) (by omega) (by omega)) (fun c1 => ?_) (fun c1 => ?_)
      · exact K J hT hF (h3.trans (congrArg nI (show skp tx n (f + 1) p = p from if_neg (fun z => c1 z.2)).symm))
      · refine qU (fun T_ k_ => r_aload_n (pc := 13) dX6_advances_13 rfl k_) ?_
        refine qU (fun T_ k_ => r_dup (pc := 14) dX6_advances_14 rfl k_) ?_
        refine qU (fun T_ k_ => r_getV (pc := 15) (v := nI p) dX6_advances_15 fX6_104 rfl rfl (h3) k_) ?_
        refine qU (fun T_ k_ => r_iconst (pc := 18) (v := nI 1) dX6_advances_18 rfl k_) ?_
        refine qU (fun T_ k_ => r_iaddN (pc := 19) dX6_advances_19 k_) ?_
        refine qU (fun T_ k_ => r_put (pc := 20) .int dX6_advances_20 fX6_104 rfl rfl nf6_3 rfl rfl k_) ?_
        refine qU (fun T_ k_ => r_goto (pc := 23) (tgt := 0) dX6_advances_23 (by decide) k_) ?_
        exact ih (p + 1) (u2 J 42 3 (nI (p + 1))) (by omega) (by omega) (hT.fr ((FRm.refl J).put 3 _ (by decide) (by decide))) (hF.put 3 _ (by decide) (by decide)) (u2_at J 42 3 _) (fun J2 a b q => K J2 a b (q.trans (congrArg nI (show skp tx n (f + 1) p = skp tx n f (p + 1) from if_pos ⟨hp, c1⟩).symm)))
    · have hp3 : p = n := by omega
      refine qU (fun T_ k_ => r_aload_n (pc := 0) dX6_advances_0 rfl k_) ?_
      refine qU (fun T_ k_ => r_aload_n (pc := 1) dX6_advances_1 rfl k_) ?_
      refine qU (fun T_ k_ => r_getV (pc := 2) (v := nI p) dX6_advances_2 fX6_104 rfl rfl (h3) k_) ?_
      refine qU (fun T_ k_ => r_callV (pc := 5) (N := mX6_letterAt) (rest := []) (s_letterAt_f X _ J L n (p) hT.1 hn (by omega) (by omega)) okX6_letterAt lkX6_107 rfl (by decide) rfl rfl rfl (Nat.le_of_ble_eq_true rfl) ⟨Nat.le_refl _, Nat.le_refl _⟩ dX6_advances_5 k_) ?_
      refine qU (fun T_ k_ => r_bipush (pc := 8) dX6_advances_8 bp_32 k_) ?_
      refine qN (fun T_ => r_icmp_ne (pc := 10) (tgt := 26) dX6_advances_10 (by decide)) (fun c1 => ?_) (fun c1 => ?_)
      · exact K J hT hF (h3.trans (congrArg nI (show skp tx n (f + 1) p = p from if_neg (fun z => hp z.1)).symm))
      · exact absurd c1 (by decide)
