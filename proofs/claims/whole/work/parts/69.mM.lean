theorem q_desk (X : Ctx) (d : Nat) (I : MI) (L : ML) (tx : Nat → Nat) (n : Nat) (hX : TXm I tx n) : ∃ T, QMD I L tx n (rdAll (tkK tx n) (tkV tx n) 100 0 0 (fun _ => nI 0) []) T ∧ Sp X mX6_desk (d + 8) (0, 0) [.ref 42] shF I L T := by
  refine qU (fun T_ k_ => Sp.of okX6_desk [.ref 42, .null, .null] 2 rfl (Nat.le_of_ble_eq_true rfl) k_) ?_
  refine qU (fun T_ k_ => r_aload_n (pc := 0) dX6_desk_0 rfl k_) ?_
  refine qU (fun T_ k_ => r_iconst (pc := 1) (v := nI 0) dX6_desk_1 rfl k_) ?_
  refine qU (fun T_ k_ => r_put (pc := 2) .int dX6_desk_2 fX6_93 rfl rfl nf6_0 rfl rfl k_) ?_
  refine qU (fun T_ k_ => r_aload_n (pc := 5) dX6_desk_5 rfl k_) ?_
  refine qU (fun T_ k_ => r_iconst (pc := 6) (v := -1) dX6_desk_6 rfl k_) ?_
  refine qU (fun T_ k_ => r_put (pc := 7) .int dX6_desk_7 fX6_124 rfl rfl nf6_7 rfl rfl k_) ?_
  refine qU (fun T_ k_ => r_aload_n (pc := 10) dX6_desk_10 rfl k_) ?_
  refine qU (fun T_ k_ => r_iconst (pc := 11) (v := nI 0) dX6_desk_11 rfl k_) ?_
  refine qU (fun T_ k_ => r_put (pc := 12) .int dX6_desk_12 fX6_104 rfl rfl nf6_3 rfl rfl k_) ?_
  refine qU (fun T_ k_ => r_aload_n (pc := 15) dX6_desk_15 rfl k_) ?_
  refine qU (fun T_ k_ => r_callV (pc := 16) (N := mX6_begins) (rest := []) (s_begins X _ (u2 (u2 (u2 I 42 0 (nI 0)) 42 7 (-1)) 42 3 (nI 0)) L) okX6_begins lkX6_87 rfl (by decide) rfl rfl rfl (Nat.le_of_ble_eq_true rfl) ⟨Nat.le_refl _, Nat.le_refl _⟩ dX6_desk_16 k_) ?_
  refine qU (fun T_ k_ => r_iconst (pc := 19) (v := nI 0) dX6_desk_19 rfl k_) ?_
  refine qU (fun T_ k_ => r_istore_n (pc := 20) (lo1 := [.ref 42, .int (nI 0), .null]) dX6_desk_20 rfl (by decide) rfl k_) ?_
  refine qU (fun T_ k_ => r_aload_n (pc := 21) dX6_desk_21 rfl k_) ?_
  have X1 : TXm (u2 (flA (u2 (u2 (u2 I 42 0 (nI 0)) 42 7 (-1)) 42 3 (nI 0)) 54 48 (nI 0)) 42 14 (nI 0)) tx n := ⟨hX.1, hX.2.1, fun j hj => hX.2.2 j hj⟩
  obtain ⟨T0, ⟨J1, rfl, F1, C1⟩, S1⟩ := s_advances X (d + 5) (u2 (flA (u2 (u2 (u2 I 42 0 (nI 0)) 42 7 (-1)) 42 3 (nI 0)) 54 48 (nI 0)) 42 14 (nI 0)) L tx n 0 X1 rfl
  have P1 : PM J1 tx n 0 := ⟨X1.fr F1, C1, F1 42 7 (by decide)⟩
  have Y1 : FRy I (u2 (flA (u2 (u2 (u2 I 42 0 (nI 0)) 42 7 (-1)) 42 3 (nI 0)) 54 48 (nI 0)) 42 14 (nI 0)) := fun c j q1 q2 q3 q4 => (u2_ne (by omega)).trans ((show flA (u2 (u2 (u2 I 42 0 (nI 0)) 42 7 (-1)) 42 3 (nI 0)) 54 48 (nI 0) c j = _ from congrFun (if_neg (by omega)) j).trans ((u2_ne (by omega)).trans ((u2_ne (by omega)).trans (u2_ne (by omega)))))
  have FR1 := Y1.trans F1.y
  have G1 : FGm J1 (fun _ => nI 0) := fun j hj => (F1 54 j (by omega)).trans (show flA _ 54 48 (nI 0) 54 j = nI 0 from (congrFun (if_pos rfl) j).trans (if_pos hj))
  have T1 : TPm J1 [] := ⟨F1 42 14 (by decide), Nat.zero_le 4, fun g hg => absurd hg (Nat.not_lt_zero g)⟩
  refine qU (fun T_ k_ => r_callV (pc := 22) (N := mX6_advances) (rest := []) (S1) okX6_advances lkX6_131 rfl (by decide) rfl rfl rfl (Nat.le_of_ble_eq_true rfl) ⟨Nat.le_refl _, Nat.le_refl _⟩ dX6_desk_22 k_) ?_
  refine lp_mdesk X d I L tx n 100 0 0 J1 (fun _ => nI 0) [] rfl (Nat.zero_le _) P1 FR1 G1 T1
