theorem s_isWell_t (X : Ctx) (d : Nat) (I : MI) (L : ML) (h7 : I 42 7 = -1) : Sp X mX6_isWell (d + 0) (0, 0) [.ref 42] shF I L (some (.int (nI 1)), shF, I, L) := by
  refine Sp.of okX6_isWell [.ref 42] 0 rfl (Nat.le_of_ble_eq_true rfl) ?_
  refine r_aload_n (pc := 0) dX6_isWell_0 rfl ?_
  refine r_getV (pc := 1) (v := -1) dX6_isWell_1 fX6_124 rfl rfl (h7) ?_
  refine r_if_ge (pc := 4) (tgt := 11) dX6_isWell_4 (by decide) (fun c1 => ?_) (fun c1 => ?_)
  · exact absurd c1 (by decide)
  · refine r_iconst (pc := 7) (v := nI 1) dX6_isWell_7 rfl ?_
    refine r_goto (pc := 8) (tgt := 12) dX6_isWell_8 (by decide) ?_
    exact r_zret dX6_isWell_12 rfl (by decide) (rfl) rfl
theorem s_isWell_f (X : Ctx) (d : Nat) (I : MI) (L : ML) (p : Nat) (h7 : I 42 7 = nI p) (hp : p ≤ 100) : Sp X mX6_isWell (d + 0) (0, 0) [.ref 42] shF I L (some (.int (nI 0)), shF, I, L) := by
  refine Sp.of okX6_isWell [.ref 42] 0 rfl (Nat.le_of_ble_eq_true rfl) ?_
  refine r_aload_n (pc := 0) dX6_isWell_0 rfl ?_
  refine r_getV (pc := 1) (v := nI p) dX6_isWell_1 fX6_124 rfl rfl (h7) ?_
  refine r_ifN_ge (pc := 4) (tgt := 11) dX6_isWell_4 (by decide) (by omega) (fun c1 => ?_) (fun c1 => ?_)
  · refine r_iconst (pc := 11) (v := nI 0) dX6_isWell_11 rfl ?_
    exact r_zret dX6_isWell_12 rfl (by decide) (rfl) rfl
  · exact absurd c1 (by omega)
