theorem r_drop {X : Ctx} {M : MD} {d : Nat} {ct cs : Nat × Nat} {T : TR} {pc : Nat} {lo lo1 st : List Value} {sh : List SH} {I : MI} {L : ML} (j : Nat) (h : lo.set j .null = lo1) (k : Ev X M d ct cs T pc lo1 st sh I L) : Ev X M d ct cs T pc lo st sh I L := by
  subst h
  refine r_lo (fun i v h hn => ?_) k
  rw [List.getElem?_set] at h
  split at h
  · split at h
    · cases h; cases hn
    · cases h
  · exact h
theorem i_nlt {x y : Int32} (h : x ≤ y) : ¬ y < x := fun q => by
  rw [Int32.lt_iff_toInt_lt] at q
  rw [Int32.le_iff_toInt_le] at h
  omega
theorem i_nle {x y : Int32} (h : y < x) : ¬ x ≤ y := fun q => by
  rw [Int32.lt_iff_toInt_lt] at h
  rw [Int32.le_iff_toInt_le] at q
  omega
theorem p_value_f (X : Ctx) (d : Nat) (I : MI) (L : ML) (F : Nat) (hF : I 4 6 = nI F) (f : Int32) (hf : f < 0 ∨ nI F ≤ f)  : Sp X mX5_value (d + 2) (0, 0) [.ref 0, .int (f)] shF I L (some (.long (-9000000000000000000)), shF, I, L) := by
  refine Sp.of okX5_value [.ref 0, .int (f)] 0 rfl (Nat.le_of_ble_eq_true rfl) ?_
  refine r_aload_n (pc := 0) dX5_value_0 rfl ?_
  refine r_iload_n (pc := 1) dX5_value_1 rfl ?_
  refine r_callV (pc := 2) (N := mX5_isTold) (rest := []) (s_isTold_f X _ I L F f hF hf) okX5_isTold lkX5_133 rfl (by decide) rfl rfl rfl (Nat.le_of_ble_eq_true rfl) ⟨Nat.le_refl _, Nat.le_refl _⟩ dX5_value_2 ?_
  refine r_ifN_eq (pc := 5) (tgt := 21) dX5_value_5 (by decide) (by omega) (fun c1 => ?_) (fun c1 => ?_)
  · refine r_ldc2 (pc := 21) dX5_value_21 kX5_106 ?_
    exact r_lret dX5_value_24 rfl (rfl) rfl
  · exact absurd c1 (by decide)
theorem p_slope_f (X : Ctx) (d : Nat) (I : MI) (L : ML) (F : Nat) (hF : I 4 6 = nI F) (f : Int32) (hf : f < 0 ∨ nI F ≤ f) (s : Int32) : Sp X mX5_slope (d + 2) (0, 0) [.ref 0, .int (f), .int (s)] shF I L (some (.long (-9000000000000000000)), shF, I, L) := by
  refine Sp.of okX5_slope [.ref 0, .int (f), .int (s)] 0 rfl (Nat.le_of_ble_eq_true rfl) ?_
  refine r_aload_n (pc := 0) dX5_slope_0 rfl ?_
  refine r_iload_n (pc := 1) dX5_slope_1 rfl ?_
  refine r_callV (pc := 2) (N := mX5_isTold) (rest := []) (s_isTold_f X _ I L F f hF hf) okX5_isTold lkX5_133 rfl (by decide) rfl rfl rfl (Nat.le_of_ble_eq_true rfl) ⟨Nat.le_refl _, Nat.le_refl _⟩ dX5_slope_2 ?_
  refine r_ifN_eq (pc := 5) (tgt := 27) dX5_slope_5 (by decide) (by omega) (fun c1 => ?_) (fun c1 => ?_)
  · refine r_ldc2 (pc := 27) dX5_slope_27 kX5_106 ?_
    exact r_lret dX5_slope_30 rfl (rfl) rfl
  · exact absurd c1 (by decide)
theorem p_bend_f (X : Ctx) (d : Nat) (I : MI) (L : ML) (F : Nat) (hF : I 4 6 = nI F) (f : Int32) (hf : f < 0 ∨ nI F ≤ f) (s t : Int32) : Sp X mX5_bend (d + 2) (0, 0) [.ref 0, .int (f), .int (s), .int (t)] shF I L (some (.long (-9000000000000000000)), shF, I, L) := by
  refine Sp.of okX5_bend [.ref 0, .int (f), .int (s), .int (t)] 0 rfl (Nat.le_of_ble_eq_true rfl) ?_
  refine r_aload_n (pc := 0) dX5_bend_0 rfl ?_
  refine r_iload_n (pc := 1) dX5_bend_1 rfl ?_
  refine r_callV (pc := 2) (N := mX5_isTold) (rest := []) (s_isTold_f X _ I L F f hF hf) okX5_isTold lkX5_133 rfl (by decide) rfl rfl rfl (Nat.le_of_ble_eq_true rfl) ⟨Nat.le_refl _, Nat.le_refl _⟩ dX5_bend_2 ?_
  refine r_ifN_eq (pc := 5) (tgt := 35) dX5_bend_5 (by decide) (by omega) (fun c1 => ?_) (fun c1 => ?_)
  · refine r_ldc2 (pc := 35) dX5_bend_35 kX5_106 ?_
    exact r_lret dX5_bend_38 rfl (rfl) rfl
  · exact absurd c1 (by decide)
theorem p_whole_f (X : Ctx) (d : Nat) (I : MI) (L : ML) (F : Nat) (hF : I 4 6 = nI F) (f : Int32) (hf : f < 0 ∨ nI F ≤ f)  : Sp X mX5_whole (d + 2) (0, 0) [.ref 0, .int (f)] shF I L (some (.long (-9000000000000000000)), shF, I, L) := by
  refine Sp.of okX5_whole [.ref 0, .int (f)] 0 rfl (Nat.le_of_ble_eq_true rfl) ?_
  refine r_aload_n (pc := 0) dX5_whole_0 rfl ?_
  refine r_iload_n (pc := 1) dX5_whole_1 rfl ?_
  refine r_callV (pc := 2) (N := mX5_isTold) (rest := []) (s_isTold_f X _ I L F f hF hf) okX5_isTold lkX5_133 rfl (by decide) rfl rfl rfl (Nat.le_of_ble_eq_true rfl) ⟨Nat.le_refl _, Nat.le_refl _⟩ dX5_whole_2 ?_
  refine r_ifN_eq (pc := 5) (tgt := 17) dX5_whole_5 (by decide) (by omega) (fun c1 => ?_) (fun c1 => ?_)
  · refine r_ldc2 (pc := 17) dX5_whole_17 kX5_106 ?_
    exact r_lret dX5_whole_20 rfl (rfl) rfl
  · exact absurd c1 (by decide)
theorem p_together_f (X : Ctx) (d : Nat) (I : MI) (L : ML) (F : Nat) (hF : I 4 6 = nI F) (f : Int32) (hf : f < 0 ∨ nI F ≤ f) (g : Int32) : Sp X mX5_together (d + 2) (0, 0) [.ref 0, .int (f), .int (g)] shF I L (some (.long (-9000000000000000000)), shF, I, L) := by
  refine Sp.of okX5_together [.ref 0, .int (f), .int (g)] 0 rfl (Nat.le_of_ble_eq_true rfl) ?_
  refine r_aload_n (pc := 0) dX5_together_0 rfl ?_
  refine r_iload_n (pc := 1) dX5_together_1 rfl ?_
  refine r_callV (pc := 2) (N := mX5_isTold) (rest := []) (s_isTold_f X _ I L F f hF hf) okX5_isTold lkX5_133 rfl (by decide) rfl rfl rfl (Nat.le_of_ble_eq_true rfl) ⟨Nat.le_refl _, Nat.le_refl _⟩ dX5_together_2 ?_
  refine r_ifN_eq (pc := 5) (tgt := 16) dX5_together_5 (by decide) (by omega) (fun c1 => ?_) (fun c1 => ?_)
  · refine r_ldc2 (pc := 16) dX5_together_16 kX5_106 ?_
    exact r_lret dX5_together_19 rfl (rfl) rfl
  · exact absurd c1 (by decide)
theorem p_share_f (X : Ctx) (d : Nat) (I : MI) (L : ML) (F : Nat) (hF : I 4 6 = nI F) (f : Int32) (hf : f < 0 ∨ nI F ≤ f) (s : Int32) : Sp X mX5_share (d + 2) (0, 0) [.ref 0, .int (f), .int (s)] shF I L (some (.long (-9000000000000000000)), shF, I, L) := by
  refine Sp.of okX5_share [.ref 0, .int (f), .int (s)] 0 rfl (Nat.le_of_ble_eq_true rfl) ?_
  refine r_aload_n (pc := 0) dX5_share_0 rfl ?_
  refine r_iload_n (pc := 1) dX5_share_1 rfl ?_
  refine r_callV (pc := 2) (N := mX5_isTold) (rest := []) (s_isTold_f X _ I L F f hF hf) okX5_isTold lkX5_133 rfl (by decide) rfl rfl rfl (Nat.le_of_ble_eq_true rfl) ⟨Nat.le_refl _, Nat.le_refl _⟩ dX5_share_2 ?_
  refine r_ifN_eq (pc := 5) (tgt := 15) dX5_share_5 (by decide) (by omega) (fun c1 => ?_) (fun c1 => ?_)
  · refine r_ldc2 (pc := 15) dX5_share_15 kX5_106 ?_
    exact r_lret dX5_share_18 rfl (rfl) rfl
  · exact absurd c1 (by decide)
theorem p_left_f (X : Ctx) (d : Nat) (I : MI) (L : ML) (F : Nat) (hF : I 4 6 = nI F) (f : Int32) (hf : f < 0 ∨ nI F ≤ f) (s : Int32) : Sp X mX5_left (d + 2) (0, 0) [.ref 0, .int (f), .int (s)] shF I L (some (.long (-9000000000000000000)), shF, I, L) := by
  refine Sp.of okX5_left [.ref 0, .int (f), .int (s)] 0 rfl (Nat.le_of_ble_eq_true rfl) ?_
  refine r_aload_n (pc := 0) dX5_left_0 rfl ?_
  refine r_iload_n (pc := 1) dX5_left_1 rfl ?_
  refine r_callV (pc := 2) (N := mX5_isTold) (rest := []) (s_isTold_f X _ I L F f hF hf) okX5_isTold lkX5_133 rfl (by decide) rfl rfl rfl (Nat.le_of_ble_eq_true rfl) ⟨Nat.le_refl _, Nat.le_refl _⟩ dX5_left_2 ?_
  refine r_ifN_eq (pc := 5) (tgt := 27) dX5_left_5 (by decide) (by omega) (fun c1 => ?_) (fun c1 => ?_)
  · refine r_ldc2 (pc := 27) dX5_left_27 kX5_106 ?_
    exact r_lret dX5_left_30 rfl (rfl) rfl
  · exact absurd c1 (by decide)
theorem p_takes_f (X : Ctx) (d : Nat) (I : MI) (L : ML) (F : Nat) (hF : I 4 6 = nI F) (f : Int32) (hf : f < 0 ∨ nI F ≤ f) (s : Int32) : Sp X mX5_takes (d + 2) (0, 0) [.ref 0, .int (f), .int (s)] shF I L (some (.long (-9000000000000000000)), shF, I, L) := by
  refine Sp.of okX5_takes [.ref 0, .int (f), .int (s)] 0 rfl (Nat.le_of_ble_eq_true rfl) ?_
  refine r_aload_n (pc := 0) dX5_takes_0 rfl ?_
  refine r_iload_n (pc := 1) dX5_takes_1 rfl ?_
  refine r_callV (pc := 2) (N := mX5_isTold) (rest := []) (s_isTold_f X _ I L F f hF hf) okX5_isTold lkX5_133 rfl (by decide) rfl rfl rfl (Nat.le_of_ble_eq_true rfl) ⟨Nat.le_refl _, Nat.le_refl _⟩ dX5_takes_2 ?_
  refine r_ifN_eq (pc := 5) (tgt := 15) dX5_takes_5 (by decide) (by omega) (fun c1 => ?_) (fun c1 => ?_)
  · refine r_ldc2 (pc := 15) dX5_takes_15 kX5_106 ?_
    exact r_lret dX5_takes_18 rfl (rfl) rfl
  · exact absurd c1 (by decide)
theorem p_first_f (X : Ctx) (d : Nat) (I : MI) (L : ML) (F : Nat) (hF : I 4 6 = nI F) (f : Int32) (hf : f < 0 ∨ nI F ≤ f) (s : Int32) : Sp X mX5_first (d + 2) (0, 0) [.ref 0, .int (f), .int (s)] shF I L (some (.int (-1)), shF, I, L) := by
  refine Sp.of okX5_first [.ref 0, .int (f), .int (s), .null, .null, .null, .null, .null, .null] 6 rfl (Nat.le_of_ble_eq_true rfl) ?_
  refine r_aload_n (pc := 0) dX5_first_0 rfl ?_
  refine r_iload_n (pc := 1) dX5_first_1 rfl ?_
  refine r_callV (pc := 2) (N := mX5_isTold) (rest := []) (s_isTold_f X _ I L F f hF hf) okX5_isTold lkX5_133 rfl (by decide) rfl rfl rfl (Nat.le_of_ble_eq_true rfl) ⟨Nat.le_refl _, Nat.le_refl _⟩ dX5_first_2 ?_
  refine r_ifN_eq (pc := 5) (tgt := 17) dX5_first_5 (by decide) (by omega) (fun c1 => ?_) (fun c1 => ?_)
  · refine r_iconst (pc := 17) (v := -1) dX5_first_17 rfl ?_
    exact r_iret dX5_first_18 rfl (rfl) rfl
  · exact absurd c1 (by decide)
theorem p_off_f (X : Ctx) (d : Nat) (I : MI) (L : ML) (F : Nat) (hF : I 4 6 = nI F) (f : Int32) (hf : f < 0 ∨ nI F ≤ f) (s t : Int32) : Sp X mX5_off (d + 2) (0, 0) [.ref 0, .int (f), .int (s), .int (t)] shF I L (some (.long (-9000000000000000000)), shF, I, L) := by
  refine Sp.of okX5_off [.ref 0, .int (f), .int (s), .int (t), .null, .null, .null, .null] 4 rfl (Nat.le_of_ble_eq_true rfl) ?_
  refine r_aload_n (pc := 0) dX5_off_0 rfl ?_
  refine r_iload_n (pc := 1) dX5_off_1 rfl ?_
  refine r_callV (pc := 2) (N := mX5_isTold) (rest := []) (s_isTold_f X _ I L F f hF hf) okX5_isTold lkX5_133 rfl (by decide) rfl rfl rfl (Nat.le_of_ble_eq_true rfl) ⟨Nat.le_refl _, Nat.le_refl _⟩ dX5_off_2 ?_
  refine r_ifN_eq (pc := 5) (tgt := 22) dX5_off_5 (by decide) (by omega) (fun c1 => ?_) (fun c1 => ?_)
  · refine r_ldc2 (pc := 22) dX5_off_22 kX5_106 ?_
    exact r_lret dX5_off_25 rfl (rfl) rfl
  · exact absurd c1 (by decide)
theorem p_formula_f (X : Ctx) (d : Nat) (I : MI) (L : ML) (F : Nat) (hF : I 4 6 = nI F) (f : Int32) (hf : f < 0 ∨ nI F ≤ f) (w : Int32) : Sp X mX5_formula (d + 2) (0, 0) [.ref 0, .int (f), .int (w)] shF I L (some (.int (-1)), shF, I, L) := by
  refine Sp.of okX5_formula [.ref 0, .int (f), .int (w)] 0 rfl (Nat.le_of_ble_eq_true rfl) ?_
  refine r_aload_n (pc := 0) dX5_formula_0 rfl ?_
  refine r_iload_n (pc := 1) dX5_formula_1 rfl ?_
  refine r_callV (pc := 2) (N := mX5_isTold) (rest := []) (s_isTold_f X _ I L F f hF hf) okX5_isTold lkX5_133 rfl (by decide) rfl rfl rfl (Nat.le_of_ble_eq_true rfl) ⟨Nat.le_refl _, Nat.le_refl _⟩ dX5_formula_2 ?_
  refine r_ifN_ne (pc := 5) (tgt := 10) dX5_formula_5 (by decide) (by omega) (fun c1 => ?_) (fun c1 => ?_)
  · exact absurd c1 (by decide)
  · refine r_iconst (pc := 8) (v := -1) dX5_formula_8 rfl ?_
    exact r_iret dX5_formula_9 rfl (rfl) rfl
theorem p_fewest_f (X : Ctx) (d : Nat) (I : MI) (L : ML) (F : Nat) (hF : I 4 6 = nI F) (f : Int32) (hf : f < 0 ∨ nI F ≤ f) (lim : Int64) : Sp X mX5_fewest (d + 2) (0, 0) [.ref 0, .int (f), .long (lim)] shF I L (some (.int (-1)), shF, I, L) := by
  refine Sp.of okX5_fewest [.ref 0, .int (f), .long (lim), .null, .null, .null, .null] 3 rfl (Nat.le_of_ble_eq_true rfl) ?_
  refine r_aload_n (pc := 0) dX5_fewest_0 rfl ?_
  refine r_iload_n (pc := 1) dX5_fewest_1 rfl ?_
  refine r_callV (pc := 2) (N := mX5_isTold) (rest := []) (s_isTold_f X _ I L F f hF hf) okX5_isTold lkX5_133 rfl (by decide) rfl rfl rfl (Nat.le_of_ble_eq_true rfl) ⟨Nat.le_refl _, Nat.le_refl _⟩ dX5_fewest_2 ?_
  refine r_ifN_ne (pc := 5) (tgt := 10) dX5_fewest_5 (by decide) (by omega) (fun c1 => ?_) (fun c1 => ?_)
  · exact absurd c1 (by decide)
  · refine r_iconst (pc := 8) (v := -1) dX5_fewest_8 rfl ?_
    exact r_iret dX5_fewest_9 rfl (rfl) rfl
theorem p_sees_f (X : Ctx) (d : Nat) (I : MI) (L : ML) (F : Nat) (hF : I 4 6 = nI F) (f : Int32) (hf : f < 0 ∨ nI F ≤ f) (v : Int64) : Sp X mX5_sees (d + 2) (0, 0) [.ref 0, .int (f), .long (v)] shF I L (some (.int (-1)), shF, I, L) := by
  refine Sp.of okX5_sees [.ref 0, .int (f), .long (v), .null] 0 rfl (Nat.le_of_ble_eq_true rfl) ?_
  refine r_aload_n (pc := 0) dX5_sees_0 rfl ?_
  refine r_iload_n (pc := 1) dX5_sees_1 rfl ?_
  refine r_callV (pc := 2) (N := mX5_isTold) (rest := []) (s_isTold_f X _ I L F f hF hf) okX5_isTold lkX5_133 rfl (by decide) rfl rfl rfl (Nat.le_of_ble_eq_true rfl) ⟨Nat.le_refl _, Nat.le_refl _⟩ dX5_sees_2 ?_
  refine r_ifN_ne (pc := 5) (tgt := 10) dX5_sees_5 (by decide) (by omega) (fun c1 => ?_) (fun c1 => ?_)
  · exact absurd c1 (by decide)
  · refine r_iconst (pc := 8) (v := -1) dX5_sees_8 rfl ?_
    exact r_iret dX5_sees_9 rfl (rfl) rfl
theorem p_slope_s (X : Ctx) (d : Nat) (I : MI) (L : ML) (F k : Nat) (hF : I 4 6 = nI F) (hk : k < F) (hF4 : F ≤ 4) (s : Int32) (hs : s < 0 ∨ nI 6 ≤ s)  : Sp X mX5_slope (d + 2) (0, 0) [.ref 0, .int (nI k), .int (s)] shF I L (some (.long (-9000000000000000000)), shF, I, L) := by
  refine Sp.of okX5_slope [.ref 0, .int (nI k), .int (s)] 0 rfl (Nat.le_of_ble_eq_true rfl) ?_
  refine r_aload_n (pc := 0) dX5_slope_0 rfl ?_
  refine r_iload_n (pc := 1) dX5_slope_1 rfl ?_
  refine r_callV (pc := 2) (N := mX5_isTold) (rest := []) (s_isTold_t X _ I L F k hF (by omega) hF4) okX5_isTold lkX5_133 rfl (by decide) rfl rfl rfl (Nat.le_of_ble_eq_true rfl) ⟨Nat.le_refl _, Nat.le_refl _⟩ dX5_slope_2 ?_
  refine r_ifN_eq (pc := 5) (tgt := 27) dX5_slope_5 (by decide) (by omega) (fun c1 => ?_) (fun c1 => ?_)
  · exact absurd c1 (by decide)
  · refine r_iload_n (pc := 8) dX5_slope_8 rfl ?_
    refine r_callS (pc := 9) (N := mX5_isSource) (rest := []) (s_isSource_f X _ I L s hs) okX5_isSource lkX5_103 rfl rfl (Nat.le_of_ble_eq_true rfl) ⟨Nat.le_refl _, Nat.le_refl _⟩ dX5_slope_9 ?_
    refine r_ifN_eq (pc := 12) (tgt := 27) dX5_slope_12 (by decide) (by omega) (fun c2 => ?_) (fun c2 => ?_)
    · refine r_ldc2 (pc := 27) dX5_slope_27 kX5_106 ?_
      exact r_lret dX5_slope_30 rfl (rfl) rfl
    · exact absurd c2 (by decide)
theorem p_bend_s (X : Ctx) (d : Nat) (I : MI) (L : ML) (F k : Nat) (hF : I 4 6 = nI F) (hk : k < F) (hF4 : F ≤ 4) (s : Int32) (hs : s < 0 ∨ nI 6 ≤ s) (t : Int32) : Sp X mX5_bend (d + 2) (0, 0) [.ref 0, .int (nI k), .int (s), .int (t)] shF I L (some (.long (-9000000000000000000)), shF, I, L) := by
  refine Sp.of okX5_bend [.ref 0, .int (nI k), .int (s), .int (t)] 0 rfl (Nat.le_of_ble_eq_true rfl) ?_
  refine r_aload_n (pc := 0) dX5_bend_0 rfl ?_
  refine r_iload_n (pc := 1) dX5_bend_1 rfl ?_
  refine r_callV (pc := 2) (N := mX5_isTold) (rest := []) (s_isTold_t X _ I L F k hF (by omega) hF4) okX5_isTold lkX5_133 rfl (by decide) rfl rfl rfl (Nat.le_of_ble_eq_true rfl) ⟨Nat.le_refl _, Nat.le_refl _⟩ dX5_bend_2 ?_
  refine r_ifN_eq (pc := 5) (tgt := 35) dX5_bend_5 (by decide) (by omega) (fun c1 => ?_) (fun c1 => ?_)
  · exact absurd c1 (by decide)
  · refine r_iload_n (pc := 8) dX5_bend_8 rfl ?_
    refine r_callS (pc := 9) (N := mX5_isSource) (rest := []) (s_isSource_f X _ I L s hs) okX5_isSource lkX5_103 rfl rfl (Nat.le_of_ble_eq_true rfl) ⟨Nat.le_refl _, Nat.le_refl _⟩ dX5_bend_9 ?_
    refine r_ifN_eq (pc := 12) (tgt := 35) dX5_bend_12 (by decide) (by omega) (fun c2 => ?_) (fun c2 => ?_)
    · refine r_ldc2 (pc := 35) dX5_bend_35 kX5_106 ?_
      exact r_lret dX5_bend_38 rfl (rfl) rfl
    · exact absurd c2 (by decide)
theorem p_share_s (X : Ctx) (d : Nat) (I : MI) (L : ML) (F k : Nat) (hF : I 4 6 = nI F) (hk : k < F) (hF4 : F ≤ 4) (s : Int32) (hs : s < 0 ∨ nI 6 ≤ s)  : Sp X mX5_share (d + 2) (0, 0) [.ref 0, .int (nI k), .int (s)] shF I L (some (.long (-9000000000000000000)), shF, I, L) := by
  refine Sp.of okX5_share [.ref 0, .int (nI k), .int (s)] 0 rfl (Nat.le_of_ble_eq_true rfl) ?_
  refine r_aload_n (pc := 0) dX5_share_0 rfl ?_
  refine r_iload_n (pc := 1) dX5_share_1 rfl ?_
  refine r_callV (pc := 2) (N := mX5_isTold) (rest := []) (s_isTold_t X _ I L F k hF (by omega) hF4) okX5_isTold lkX5_133 rfl (by decide) rfl rfl rfl (Nat.le_of_ble_eq_true rfl) ⟨Nat.le_refl _, Nat.le_refl _⟩ dX5_share_2 ?_
  refine r_ifN_eq (pc := 5) (tgt := 15) dX5_share_5 (by decide) (by omega) (fun c1 => ?_) (fun c1 => ?_)
  · exact absurd c1 (by decide)
  · refine r_iload_n (pc := 8) dX5_share_8 rfl ?_
    refine r_callS (pc := 9) (N := mX5_isSource) (rest := []) (s_isSource_f X _ I L s hs) okX5_isSource lkX5_103 rfl rfl (Nat.le_of_ble_eq_true rfl) ⟨Nat.le_refl _, Nat.le_refl _⟩ dX5_share_9 ?_
    refine r_ifN_ne (pc := 12) (tgt := 19) dX5_share_12 (by decide) (by omega) (fun c2 => ?_) (fun c2 => ?_)
    · exact absurd c2 (by decide)
    · refine r_ldc2 (pc := 15) dX5_share_15 kX5_106 ?_
      exact r_lret dX5_share_18 rfl (rfl) rfl
theorem p_takes_s (X : Ctx) (d : Nat) (I : MI) (L : ML) (F k : Nat) (hF : I 4 6 = nI F) (hk : k < F) (hF4 : F ≤ 4) (s : Int32) (hs : s < 0 ∨ nI 6 ≤ s)  : Sp X mX5_takes (d + 2) (0, 0) [.ref 0, .int (nI k), .int (s)] shF I L (some (.long (-9000000000000000000)), shF, I, L) := by
  refine Sp.of okX5_takes [.ref 0, .int (nI k), .int (s)] 0 rfl (Nat.le_of_ble_eq_true rfl) ?_
  refine r_aload_n (pc := 0) dX5_takes_0 rfl ?_
  refine r_iload_n (pc := 1) dX5_takes_1 rfl ?_
  refine r_callV (pc := 2) (N := mX5_isTold) (rest := []) (s_isTold_t X _ I L F k hF (by omega) hF4) okX5_isTold lkX5_133 rfl (by decide) rfl rfl rfl (Nat.le_of_ble_eq_true rfl) ⟨Nat.le_refl _, Nat.le_refl _⟩ dX5_takes_2 ?_
  refine r_ifN_eq (pc := 5) (tgt := 15) dX5_takes_5 (by decide) (by omega) (fun c1 => ?_) (fun c1 => ?_)
  · exact absurd c1 (by decide)
  · refine r_iload_n (pc := 8) dX5_takes_8 rfl ?_
    refine r_callS (pc := 9) (N := mX5_isSource) (rest := []) (s_isSource_f X _ I L s hs) okX5_isSource lkX5_103 rfl rfl (Nat.le_of_ble_eq_true rfl) ⟨Nat.le_refl _, Nat.le_refl _⟩ dX5_takes_9 ?_
    refine r_ifN_ne (pc := 12) (tgt := 19) dX5_takes_12 (by decide) (by omega) (fun c2 => ?_) (fun c2 => ?_)
    · exact absurd c2 (by decide)
    · refine r_ldc2 (pc := 15) dX5_takes_15 kX5_106 ?_
      exact r_lret dX5_takes_18 rfl (rfl) rfl
theorem p_off_s (X : Ctx) (d : Nat) (I : MI) (L : ML) (F k : Nat) (hF : I 4 6 = nI F) (hk : k < F) (hF4 : F ≤ 4) (s : Int32) (hs : s < 0 ∨ nI 6 ≤ s) (t : Int32) : Sp X mX5_off (d + 2) (0, 0) [.ref 0, .int (nI k), .int (s), .int (t)] shF I L (some (.long (-9000000000000000000)), shF, I, L) := by
  refine Sp.of okX5_off [.ref 0, .int (nI k), .int (s), .int (t), .null, .null, .null, .null] 4 rfl (Nat.le_of_ble_eq_true rfl) ?_
  refine r_aload_n (pc := 0) dX5_off_0 rfl ?_
  refine r_iload_n (pc := 1) dX5_off_1 rfl ?_
  refine r_callV (pc := 2) (N := mX5_isTold) (rest := []) (s_isTold_t X _ I L F k hF (by omega) hF4) okX5_isTold lkX5_133 rfl (by decide) rfl rfl rfl (Nat.le_of_ble_eq_true rfl) ⟨Nat.le_refl _, Nat.le_refl _⟩ dX5_off_2 ?_
  refine r_ifN_eq (pc := 5) (tgt := 22) dX5_off_5 (by decide) (by omega) (fun c1 => ?_) (fun c1 => ?_)
  · exact absurd c1 (by decide)
  · refine r_iload_n (pc := 8) dX5_off_8 rfl ?_
    refine r_callS (pc := 9) (N := mX5_isSource) (rest := []) (s_isSource_f X _ I L s hs) okX5_isSource lkX5_103 rfl rfl (Nat.le_of_ble_eq_true rfl) ⟨Nat.le_refl _, Nat.le_refl _⟩ dX5_off_9 ?_
    refine r_ifN_eq (pc := 12) (tgt := 22) dX5_off_12 (by decide) (by omega) (fun c2 => ?_) (fun c2 => ?_)
    · refine r_ldc2 (pc := 22) dX5_off_22 kX5_106 ?_
      exact r_lret dX5_off_25 rfl (rfl) rfl
    · exact absurd c2 (by decide)
theorem p_bend_t (X : Ctx) (d : Nat) (I : MI) (L : ML) (F k : Nat) (hF : I 4 6 = nI F) (hk : k < F) (hF4 : F ≤ 4) (j : Nat) (hj : j < 6) (s : Int32) (hs : s < 0 ∨ nI 6 ≤ s) : Sp X mX5_bend (d + 2) (0, 0) [.ref 0, .int (nI k), .int (nI j), .int (s)] shF I L (some (.long (-9000000000000000000)), shF, I, L) := by
  refine Sp.of okX5_bend [.ref 0, .int (nI k), .int (nI j), .int (s)] 0 rfl (Nat.le_of_ble_eq_true rfl) ?_
  refine r_aload_n (pc := 0) dX5_bend_0 rfl ?_
  refine r_iload_n (pc := 1) dX5_bend_1 rfl ?_
  refine r_callV (pc := 2) (N := mX5_isTold) (rest := []) (s_isTold_t X _ I L F k hF (by omega) hF4) okX5_isTold lkX5_133 rfl (by decide) rfl rfl rfl (Nat.le_of_ble_eq_true rfl) ⟨Nat.le_refl _, Nat.le_refl _⟩ dX5_bend_2 ?_
  refine r_ifN_eq (pc := 5) (tgt := 35) dX5_bend_5 (by decide) (by omega) (fun c1 => ?_) (fun c1 => ?_)
  · exact absurd c1 (by decide)
  · refine r_iload_n (pc := 8) dX5_bend_8 rfl ?_
    refine r_callS (pc := 9) (N := mX5_isSource) (rest := []) (s_isSource_t X _ I L j (by omega)) okX5_isSource lkX5_103 rfl rfl (Nat.le_of_ble_eq_true rfl) ⟨Nat.le_refl _, Nat.le_refl _⟩ dX5_bend_9 ?_
    refine r_ifN_eq (pc := 12) (tgt := 35) dX5_bend_12 (by decide) (by omega) (fun c2 => ?_) (fun c2 => ?_)
    · exact absurd c2 (by decide)
    · refine r_iload_n (pc := 15) dX5_bend_15 rfl ?_
      refine r_callS (pc := 16) (N := mX5_isSource) (rest := []) (s_isSource_f X _ I L s hs) okX5_isSource lkX5_103 rfl rfl (Nat.le_of_ble_eq_true rfl) ⟨Nat.le_refl _, Nat.le_refl _⟩ dX5_bend_16 ?_
      refine r_ifN_eq (pc := 19) (tgt := 35) dX5_bend_19 (by decide) (by omega) (fun c3 => ?_) (fun c3 => ?_)
      · refine r_ldc2 (pc := 35) dX5_bend_35 kX5_106 ?_
        exact r_lret dX5_bend_38 rfl (rfl) rfl
      · exact absurd c3 (by decide)
theorem p_off_d (X : Ctx) (d : Nat) (I : MI) (L : ML) (F k : Nat) (hF : I 4 6 = nI F) (hk : k < F) (hF4 : F ≤ 4) (j : Nat) (hj : j < 6) (x : Int32) (hm : x < -20 ∨ nI 20 < x) : Sp X mX5_off (d + 2) (0, 0) [.ref 0, .int (nI k), .int (nI j), .int (x)] shF I L (some (.long (-9000000000000000000)), shF, I, L) := by
  refine Sp.of okX5_off [.ref 0, .int (nI k), .int (nI j), .int (x), .null, .null, .null, .null] 4 rfl (Nat.le_of_ble_eq_true rfl) ?_
  refine r_aload_n (pc := 0) dX5_off_0 rfl ?_
  refine r_iload_n (pc := 1) dX5_off_1 rfl ?_
  refine r_callV (pc := 2) (N := mX5_isTold) (rest := []) (s_isTold_t X _ I L F k hF (by omega) hF4) okX5_isTold lkX5_133 rfl (by decide) rfl rfl rfl (Nat.le_of_ble_eq_true rfl) ⟨Nat.le_refl _, Nat.le_refl _⟩ dX5_off_2 ?_
  refine r_ifN_eq (pc := 5) (tgt := 22) dX5_off_5 (by decide) (by omega) (fun c1 => ?_) (fun c1 => ?_)
  · exact absurd c1 (by decide)
  · refine r_iload_n (pc := 8) dX5_off_8 rfl ?_
    refine r_callS (pc := 9) (N := mX5_isSource) (rest := []) (s_isSource_t X _ I L j (by omega)) okX5_isSource lkX5_103 rfl rfl (Nat.le_of_ble_eq_true rfl) ⟨Nat.le_refl _, Nat.le_refl _⟩ dX5_off_9 ?_
    refine r_ifN_eq (pc := 12) (tgt := 22) dX5_off_12 (by decide) (by omega) (fun c2 => ?_) (fun c2 => ?_)
    · exact absurd c2 (by decide)
    · refine r_iload_n (pc := 15) dX5_off_15 rfl ?_
      refine r_callS (pc := 16) (N := mX5_isMove) (rest := []) (s_isMove_f X _ I L x hm) okX5_isMove lkX5_170 rfl rfl (Nat.le_of_ble_eq_true rfl) ⟨Nat.le_refl _, Nat.le_refl _⟩ dX5_off_16 ?_
      refine r_ifN_ne (pc := 19) (tgt := 26) dX5_off_19 (by decide) (by omega) (fun c3 => ?_) (fun c3 => ?_)
      · exact absurd c3 (by decide)
      · refine r_ldc2 (pc := 22) dX5_off_22 kX5_106 ?_
        exact r_lret dX5_off_25 rfl (rfl) rfl
theorem p_together_g (X : Ctx) (d : Nat) (I : MI) (L : ML) (F k : Nat) (hF : I 4 6 = nI F) (hk : k < F) (hF4 : F ≤ 4) (f : Int32) (hf : f < 0 ∨ nI F ≤ f) : Sp X mX5_together (d + 2) (0, 0) [.ref 0, .int (nI k), .int (f)] shF I L (some (.long (-9000000000000000000)), shF, I, L) := by
  refine Sp.of okX5_together [.ref 0, .int (nI k), .int (f)] 0 rfl (Nat.le_of_ble_eq_true rfl) ?_
  refine r_aload_n (pc := 0) dX5_together_0 rfl ?_
  refine r_iload_n (pc := 1) dX5_together_1 rfl ?_
  refine r_callV (pc := 2) (N := mX5_isTold) (rest := []) (s_isTold_t X _ I L F k hF (by omega) hF4) okX5_isTold lkX5_133 rfl (by decide) rfl rfl rfl (Nat.le_of_ble_eq_true rfl) ⟨Nat.le_refl _, Nat.le_refl _⟩ dX5_together_2 ?_
  refine r_ifN_eq (pc := 5) (tgt := 16) dX5_together_5 (by decide) (by omega) (fun c1 => ?_) (fun c1 => ?_)
  · exact absurd c1 (by decide)
  · refine r_aload_n (pc := 8) dX5_together_8 rfl ?_
    refine r_iload_n (pc := 9) dX5_together_9 rfl ?_
    refine r_callV (pc := 10) (N := mX5_isTold) (rest := []) (s_isTold_f X _ I L F f hF hf) okX5_isTold lkX5_133 rfl (by decide) rfl rfl rfl (Nat.le_of_ble_eq_true rfl) ⟨Nat.le_refl _, Nat.le_refl _⟩ dX5_together_10 ?_
    refine r_ifN_ne (pc := 13) (tgt := 20) dX5_together_13 (by decide) (by omega) (fun c2 => ?_) (fun c2 => ?_)
    · exact absurd c2 (by decide)
    · refine r_ldc2 (pc := 16) dX5_together_16 kX5_106 ?_
      exact r_lret dX5_together_19 rfl (rfl) rfl
theorem p_left_s (X : Ctx) (d : Nat) (I : MI) (L : ML) (F k : Nat) (hF : I 4 6 = nI F) (hk : k < F) (hF4 : F ≤ 4) (s : Int32) (hs : s < 0 ∨ nI 64 ≤ s) : Sp X mX5_left (d + 2) (0, 0) [.ref 0, .int (nI k), .int (s)] shF I L (some (.long (-9000000000000000000)), shF, I, L) := by
  refine Sp.of okX5_left [.ref 0, .int (nI k), .int (s)] 0 rfl (Nat.le_of_ble_eq_true rfl) ?_
  refine r_aload_n (pc := 0) dX5_left_0 rfl ?_
  refine r_iload_n (pc := 1) dX5_left_1 rfl ?_
  refine r_callV (pc := 2) (N := mX5_isTold) (rest := []) (s_isTold_t X _ I L F k hF (by omega) hF4) okX5_isTold lkX5_133 rfl (by decide) rfl rfl rfl (Nat.le_of_ble_eq_true rfl) ⟨Nat.le_refl _, Nat.le_refl _⟩ dX5_left_2 ?_
  refine r_ifN_eq (pc := 5) (tgt := 27) dX5_left_5 (by decide) (by omega) (fun c1 => ?_) (fun c1 => ?_)
  · exact absurd c1 (by decide)
  · refine r_iload_n (pc := 8) dX5_left_8 rfl ?_
    refine r_if_lt (pc := 9) (tgt := 27) dX5_left_9 (by decide) (fun c2 => ?_) (fun c2 => ?_)
    · refine r_ldc2 (pc := 27) dX5_left_27 kX5_106 ?_
      exact r_lret dX5_left_30 rfl (rfl) rfl
    · refine r_iload_n (pc := 12) dX5_left_12 rfl ?_
      refine r_bipush (pc := 13) dX5_left_13 bp_64 ?_
      refine r_icmp_ge (pc := 15) (tgt := 27) dX5_left_15 (by decide) (fun c3 => ?_) (fun c3 => ?_)
      · refine r_ldc2 (pc := 27) dX5_left_27 kX5_106 ?_
        exact r_lret dX5_left_30 rfl (rfl) rfl
      · exact (hs.elim c2 c3).elim
theorem p_first_s (X : Ctx) (d : Nat) (I : MI) (L : ML) (F k : Nat) (hF : I 4 6 = nI F) (hk : k < F) (hF4 : F ≤ 4) (s : Int32) (hs : s < 0 ∨ nI 1 < s) : Sp X mX5_first (d + 2) (0, 0) [.ref 0, .int (nI k), .int (s)] shF I L (some (.int (-1)), shF, I, L) := by
  refine Sp.of okX5_first [.ref 0, .int (nI k), .int (s), .null, .null, .null, .null, .null, .null] 6 rfl (Nat.le_of_ble_eq_true rfl) ?_
  refine r_aload_n (pc := 0) dX5_first_0 rfl ?_
  refine r_iload_n (pc := 1) dX5_first_1 rfl ?_
  refine r_callV (pc := 2) (N := mX5_isTold) (rest := []) (s_isTold_t X _ I L F k hF (by omega) hF4) okX5_isTold lkX5_133 rfl (by decide) rfl rfl rfl (Nat.le_of_ble_eq_true rfl) ⟨Nat.le_refl _, Nat.le_refl _⟩ dX5_first_2 ?_
  refine r_ifN_eq (pc := 5) (tgt := 17) dX5_first_5 (by decide) (by omega) (fun c1 => ?_) (fun c1 => ?_)
  · exact absurd c1 (by decide)
  · refine r_iload_n (pc := 8) dX5_first_8 rfl ?_
    refine r_if_lt (pc := 9) (tgt := 17) dX5_first_9 (by decide) (fun c2 => ?_) (fun c2 => ?_)
    · refine r_iconst (pc := 17) (v := -1) dX5_first_17 rfl ?_
      exact r_iret dX5_first_18 rfl (rfl) rfl
    · refine r_iload_n (pc := 12) dX5_first_12 rfl ?_
      refine r_iconst (pc := 13) (v := nI 1) dX5_first_13 rfl ?_
      refine r_icmp_le (pc := 14) (tgt := 19) dX5_first_14 (by decide) (fun c3 => ?_) (fun c3 => ?_)
      · exact (hs.elim c2 (i_nlt c3)).elim
      · refine r_iconst (pc := 17) (v := -1) dX5_first_17 rfl ?_
        exact r_iret dX5_first_18 rfl (rfl) rfl
theorem p_together (X : Ctx) (d : Nat) (I : MI) (L : ML) (F k n g m : Nat) (hF : I 4 6 = nI F) (hk : k < F) (hg : g < F) (hF4 : F ≤ 4) (hz : I 10 k = nI (n + 1)) (hn : n + 1 ≤ 80) (hN : ∀ j, j < n + 1 → NW I j) (hz2 : I 10 g = nI (m + 1)) (hn2 : m + 1 ≤ 80) (hN2 : ∀ j, j < m + 1 → NW I j) : Sp X mX5_together (d + 5) (0, 0) [.ref 0, .int (nI k), .int (nI g)] shF I L (some (.long (prS I (siL I 41 m (siL I 40 n L 6) 6 40) (siL I 41 m (siL I 40 n L 6) 6 41) (nI 0) 6)), shF, I, (siL I 41 m (siL I 40 n L 6) 6)) := by
  refine Sp.of okX5_together [.ref 0, .int (nI k), .int (nI g)] 0 rfl (Nat.le_of_ble_eq_true rfl) ?_
  refine r_aload_n (pc := 0) dX5_together_0 rfl ?_
  refine r_iload_n (pc := 1) dX5_together_1 rfl ?_
  refine r_callV (pc := 2) (N := mX5_isTold) (rest := []) (s_isTold_t X _ I L F k hF (by omega) hF4) okX5_isTold lkX5_133 rfl (by decide) rfl rfl rfl (Nat.le_of_ble_eq_true rfl) ⟨Nat.le_refl _, Nat.le_refl _⟩ dX5_together_2 ?_
  refine r_ifN_eq (pc := 5) (tgt := 16) dX5_together_5 (by decide) (by omega) (fun c1 => ?_) (fun c1 => ?_)
  · exact absurd c1 (by decide)
  · refine r_aload_n (pc := 8) dX5_together_8 rfl ?_
    refine r_iload_n (pc := 9) dX5_together_9 rfl ?_
    refine r_callV (pc := 10) (N := mX5_isTold) (rest := []) (s_isTold_t X _ I L F g hF (by omega) hF4) okX5_isTold lkX5_133 rfl (by decide) rfl rfl rfl (Nat.le_of_ble_eq_true rfl) ⟨Nat.le_refl _, Nat.le_refl _⟩ dX5_together_10 ?_
    refine r_ifN_ne (pc := 13) (tgt := 20) dX5_together_13 (by decide) (by omega) (fun c2 => ?_) (fun c2 => ?_)
    · refine r_aload_n (pc := 20) dX5_together_20 rfl ?_
      refine r_getR (pc := 21) (b := 27) dX5_together_21 fX5_42 rfl rfl ?_
      refine r_aload_n (pc := 24) dX5_together_24 rfl ?_
      refine r_getR (pc := 25) (b := 40) dX5_together_25 fX5_60 rfl rfl ?_
      refine r_iload_n (pc := 28) dX5_together_28 rfl ?_
      refine r_callV (pc := 29) (N := mX3_slopesInto) (rest := []) (s_slopesInto_40 X _ I L k n (by omega) hz hn hN) okX3_slopesInto lkX5_149 rfl (by decide) rfl rfl rfl (Nat.le_of_ble_eq_true rfl) ⟨Nat.le_refl _, Nat.le_refl _⟩ dX5_together_29 ?_
      refine r_aload_n (pc := 32) dX5_together_32 rfl ?_
      refine r_getR (pc := 33) (b := 27) dX5_together_33 fX5_42 rfl rfl ?_
      refine r_aload_n (pc := 36) dX5_together_36 rfl ?_
      refine r_getR (pc := 37) (b := 41) dX5_together_37 fX5_63 rfl rfl ?_
      refine r_iload_n (pc := 40) dX5_together_40 rfl ?_
      refine r_callV (pc := 41) (N := mX3_slopesInto) (rest := []) (s_slopesInto_41 X _ I (siL I 40 n L 6) g m (by omega) hz2 hn2 hN2) okX3_slopesInto lkX5_149 rfl (by decide) rfl rfl rfl (Nat.le_of_ble_eq_true rfl) ⟨Nat.le_refl _, Nat.le_refl _⟩ dX5_together_41 ?_
      refine r_aload_n (pc := 44) dX5_together_44 rfl ?_
      refine r_aload_n (pc := 45) dX5_together_45 rfl ?_
      refine r_getR (pc := 46) (b := 40) dX5_together_46 fX5_60 rfl rfl ?_
      refine r_aload_n (pc := 49) dX5_together_49 rfl ?_
      refine r_getR (pc := 50) (b := 41) dX5_together_50 fX5_63 rfl rfl ?_
      refine r_iconst (pc := 53) (v := nI 0) dX5_together_53 rfl ?_
      refine r_callV (pc := 54) (N := mX5_product) (rest := []) (s_product_40_41 X _ I (siL I 41 m (siL I 40 n L 6) 6) (nI 0)) okX5_product lkX5_153 rfl (by decide) rfl rfl rfl (Nat.le_of_ble_eq_true rfl) ⟨Nat.le_refl _, Nat.le_refl _⟩ dX5_together_54 ?_
      exact r_lret dX5_together_57 rfl (rfl) rfl
    · exact absurd c2 (by decide)
theorem p_share (X : Ctx) (d : Nat) (I : MI) (L : ML) (s : Nat) (hs : s < 6) (F k n : Nat) (hF : I 4 6 = nI F) (hk : k < F) (hF4 : F ≤ 4) (hz : I 10 k = nI (n + 1)) (hn : n + 1 ≤ 80) (hN : ∀ j, j < n + 1 → NW I j) : Sp X mX5_share (d + 5) (0, 0) [.ref 0, .int (nI k), .int (nI s)] shF I L (some (.long (ptS I (siL I 40 n L 6 40) (siL I 40 n L 6 40) (nI 0) s 6)), shF, I, (siL I 40 n L 6)) := by
  refine Sp.of okX5_share [.ref 0, .int (nI k), .int (nI s)] 0 rfl (Nat.le_of_ble_eq_true rfl) ?_
  refine r_aload_n (pc := 0) dX5_share_0 rfl ?_
  refine r_iload_n (pc := 1) dX5_share_1 rfl ?_
  refine r_callV (pc := 2) (N := mX5_isTold) (rest := []) (s_isTold_t X _ I L F k hF (by omega) hF4) okX5_isTold lkX5_133 rfl (by decide) rfl rfl rfl (Nat.le_of_ble_eq_true rfl) ⟨Nat.le_refl _, Nat.le_refl _⟩ dX5_share_2 ?_
  refine r_ifN_eq (pc := 5) (tgt := 15) dX5_share_5 (by decide) (by omega) (fun c1 => ?_) (fun c1 => ?_)
  · exact absurd c1 (by decide)
  · refine r_iload_n (pc := 8) dX5_share_8 rfl ?_
    refine r_callS (pc := 9) (N := mX5_isSource) (rest := []) (s_isSource_t X _ I L s (by omega)) okX5_isSource lkX5_103 rfl rfl (Nat.le_of_ble_eq_true rfl) ⟨Nat.le_refl _, Nat.le_refl _⟩ dX5_share_9 ?_
    refine r_ifN_ne (pc := 12) (tgt := 19) dX5_share_12 (by decide) (by omega) (fun c2 => ?_) (fun c2 => ?_)
    · refine r_aload_n (pc := 19) dX5_share_19 rfl ?_
      refine r_getR (pc := 20) (b := 27) dX5_share_20 fX5_42 rfl rfl ?_
      refine r_aload_n (pc := 23) dX5_share_23 rfl ?_
      refine r_getR (pc := 24) (b := 40) dX5_share_24 fX5_60 rfl rfl ?_
      refine r_iload_n (pc := 27) dX5_share_27 rfl ?_
      refine r_callV (pc := 28) (N := mX3_slopesInto) (rest := []) (s_slopesInto_40 X _ I L k n (by omega) hz hn hN) okX3_slopesInto lkX5_149 rfl (by decide) rfl rfl rfl (Nat.le_of_ble_eq_true rfl) ⟨Nat.le_refl _, Nat.le_refl _⟩ dX5_share_28 ?_
      refine r_aload_n (pc := 31) dX5_share_31 rfl ?_
      refine r_aload_n (pc := 32) dX5_share_32 rfl ?_
      refine r_getR (pc := 33) (b := 40) dX5_share_33 fX5_60 rfl rfl ?_
      refine r_aload_n (pc := 36) dX5_share_36 rfl ?_
      refine r_getR (pc := 37) (b := 40) dX5_share_37 fX5_60 rfl rfl ?_
      refine r_iload_n (pc := 40) dX5_share_40 rfl ?_
      refine r_iconst (pc := 41) (v := nI 0) dX5_share_41 rfl ?_
      refine r_callV (pc := 42) (N := mX5_part) (rest := []) (s_part_40_40 X _ I (siL I 40 n L 6) (nI 0) s (by omega)) okX5_part lkX5_157 rfl (by decide) rfl rfl rfl (Nat.le_of_ble_eq_true rfl) ⟨Nat.le_refl _, Nat.le_refl _⟩ dX5_share_42 ?_
      exact r_lret dX5_share_45 rfl (rfl) rfl
    · exact absurd c2 (by decide)
theorem p_takes (X : Ctx) (d : Nat) (I : MI) (L : ML) (s : Nat) (hs : s < 6) (F k n : Nat) (hF : I 4 6 = nI F) (hk : k < F) (hF4 : F ≤ 4) (hz : I 10 k = nI (n + 1)) (hn : n + 1 ≤ 80) (hN : ∀ j, j < n + 1 → NW I j) : Sp X mX5_takes (d + 5) (0, 0) [.ref 0, .int (nI k), .int (nI s)] shF I L (some (.long (prS I (siL I 40 n L 6 40) (siL I 40 n L 6 40) (nI 0) 6 - prS I (siL I 40 n L 6 40) (siL I 40 n L 6 40) (nI 1 <<< (nI s &&& 31)) 6)), shF, I, (siL I 40 n L 6)) := by
  refine Sp.of okX5_takes [.ref 0, .int (nI k), .int (nI s)] 0 rfl (Nat.le_of_ble_eq_true rfl) ?_
  refine r_aload_n (pc := 0) dX5_takes_0 rfl ?_
  refine r_iload_n (pc := 1) dX5_takes_1 rfl ?_
  refine r_callV (pc := 2) (N := mX5_isTold) (rest := []) (s_isTold_t X _ I L F k hF (by omega) hF4) okX5_isTold lkX5_133 rfl (by decide) rfl rfl rfl (Nat.le_of_ble_eq_true rfl) ⟨Nat.le_refl _, Nat.le_refl _⟩ dX5_takes_2 ?_
  refine r_ifN_eq (pc := 5) (tgt := 15) dX5_takes_5 (by decide) (by omega) (fun c1 => ?_) (fun c1 => ?_)
  · exact absurd c1 (by decide)
  · refine r_iload_n (pc := 8) dX5_takes_8 rfl ?_
    refine r_callS (pc := 9) (N := mX5_isSource) (rest := []) (s_isSource_t X _ I L s (by omega)) okX5_isSource lkX5_103 rfl rfl (Nat.le_of_ble_eq_true rfl) ⟨Nat.le_refl _, Nat.le_refl _⟩ dX5_takes_9 ?_
    refine r_ifN_ne (pc := 12) (tgt := 19) dX5_takes_12 (by decide) (by omega) (fun c2 => ?_) (fun c2 => ?_)
    · refine r_aload_n (pc := 19) dX5_takes_19 rfl ?_
      refine r_getR (pc := 20) (b := 27) dX5_takes_20 fX5_42 rfl rfl ?_
      refine r_aload_n (pc := 23) dX5_takes_23 rfl ?_
      refine r_getR (pc := 24) (b := 40) dX5_takes_24 fX5_60 rfl rfl ?_
      refine r_iload_n (pc := 27) dX5_takes_27 rfl ?_
      refine r_callV (pc := 28) (N := mX3_slopesInto) (rest := []) (s_slopesInto_40 X _ I L k n (by omega) hz hn hN) okX3_slopesInto lkX5_149 rfl (by decide) rfl rfl rfl (Nat.le_of_ble_eq_true rfl) ⟨Nat.le_refl _, Nat.le_refl _⟩ dX5_takes_28 ?_
      refine r_aload_n (pc := 31) dX5_takes_31 rfl ?_
      refine r_iload_n (pc := 32) dX5_takes_32 rfl ?_
      refine r_callV (pc := 33) (N := mX5_taken) (rest := []) (s_taken X _ I (siL I 40 n L 6) s) okX5_taken lkX5_166 rfl (by decide) rfl rfl rfl (Nat.le_of_ble_eq_true rfl) ⟨Nat.le_refl _, Nat.le_refl _⟩ dX5_takes_33 ?_
      exact r_lret dX5_takes_36 rfl (rfl) rfl
    · exact absurd c2 (by decide)
def fiS (g : Nat → Int64) : Nat → Int32 × Int64
  | 0 => (nI 0, 0)
  | s + 1 => if s = 0 then (nI s, g s) else if (fiS g s).2 < g s then (nI s, g s) else fiS g s
def fwS (I : MI) (p : Nat → Int64) (lim : Int64) : Nat → Int32
  | 0 => -9
  | s + 1 => if fwS I p lim s = -9 then (if prS I p p (nI s) 6 ≤ lim then nI s else fwS I p lim s) else if bcI (fwS I p lim s) ≤ bcI (nI s) then fwS I p lim s else (if prS I p p (nI s) 6 ≤ lim then nI s else fwS I p lim s)
theorem lp_first_0 (X : Ctx) (d : Nat) (I : MI) (L : ML) (F k n : Nat) (hF : I 4 6 = nI F) (hk : k < F) (hF4 : F ≤ 4) (hz : I 10 k = nI (n + 1)) (hn : n + 1 ≤ 80) (hN : ∀ j, j < n + 1 → NW I j) : ∀ (z i : Nat), i + z = 6 → Ev X mX5_first (d + 6) (0, 0) (0, 0) (some (.int ((fiS (fun s => prS I (siL I 40 n L 6 40) (siL I 40 n L 6 40) (nI 0) 6 - prS I (siL I 40 n L 6 40) (siL I 40 n L 6 40) (nI 1 <<< (nI s &&& 31)) 6) 6).1)), shF, I, (siL I 40 n L 6)) 39 [.ref 0, .int (nI k), .int (nI 0), .int ((fiS (fun s => prS I (siL I 40 n L 6 40) (siL I 40 n L 6 40) (nI 0) 6 - prS I (siL I 40 n L 6 40) (siL I 40 n L 6 40) (nI 1 <<< (nI s &&& 31)) 6) i).1), .long ((fiS (fun s => prS I (siL I 40 n L 6 40) (siL I 40 n L 6 40) (nI 0) 6 - prS I (siL I 40 n L 6 40) (siL I 40 n L 6 40) (nI 1 <<< (nI s &&& 31)) 6) i).2), .null, .int (nI i), .null, .null] [] shF I (siL I 40 n L 6) := by
  intro z
  induction z with
  | zero =>
    intro i hi
    have hi2 : i = 6 := by omega
    rw [hi2]
    refine r_iload (pc := 39) dX5_first_39 rfl ?_
    refine r_bipush (pc := 41) dX5_first_41 bp_6 ?_
    refine r_icmpN_ge (pc := 43) (tgt := 102) dX5_first_43 (by decide) (by omega) (by omega) (fun c1 => ?_) (fun c1 => ?_)
    · refine r_iload_n (pc := 102) dX5_first_102 rfl ?_
      exact r_iret dX5_first_103 rfl (rfl) rfl
    · exact absurd c1 (by decide)
  | succ z ih =>
    intro i hi
    refine r_iload (pc := 39) dX5_first_39 rfl ?_
    refine r_bipush (pc := 41) dX5_first_41 bp_6 ?_
    refine r_icmpN_ge (pc := 43) (tgt := 102) dX5_first_43 (by decide) (by omega) (by omega) (fun c2 => ?_) (fun c2 => ?_)
    · exact absurd c2 (by omega)
    · refine r_iload_n (pc := 46) dX5_first_46 rfl ?_
      refine r_ifN_ne (pc := 47) (tgt := 59) dX5_first_47 (by decide) (by omega) (fun c3 => ?_) (fun c3 => ?_)
      · exact absurd c3 (by decide)
      · refine r_aload_n (pc := 50) dX5_first_50 rfl ?_
        refine r_iload (pc := 51) dX5_first_51 rfl ?_
        refine r_callV (pc := 53) (N := mX5_taken) (rest := []) (s_taken X _ I (siL I 40 n L 6) i) okX5_taken lkX5_166 rfl (by decide) rfl rfl rfl (Nat.le_of_ble_eq_true rfl) ⟨Nat.le_refl _, Nat.le_refl _⟩ dX5_first_53 ?_
        refine r_goto (pc := 56) (tgt := 74) dX5_first_56 (by decide) ?_
        refine r_lstore (pc := 74) (lo1 := [.ref 0, .int (nI k), .int (nI 0), .int ((fiS (fun s => prS I (siL I 40 n L 6 40) (siL I 40 n L 6 40) (nI 0) 6 - prS I (siL I 40 n L 6 40) (siL I 40 n L 6 40) (nI 1 <<< (nI s &&& 31)) 6) i).1), .long ((fiS (fun s => prS I (siL I 40 n L 6 40) (siL I 40 n L 6 40) (nI 0) 6 - prS I (siL I 40 n L 6 40) (siL I 40 n L 6 40) (nI 1 <<< (nI s &&& 31)) 6) i).2), .null, .int (nI i), .long (prS I ((siL I 40 n L 6) 40) ((siL I 40 n L 6) 40) (nI 0) 6 - prS I ((siL I 40 n L 6) 40) ((siL I 40 n L 6) 40) (nI 1 <<< (nI i &&& 31)) 6), .null]) dX5_first_74 rfl (by decide) rfl ?_
        refine r_iload (pc := 76) dX5_first_76 rfl ?_
        refine r_ifN_eq (pc := 78) (tgt := 89) dX5_first_78 (by decide) (by omega) (fun c4 => ?_) (fun c4 => ?_)
        · refine r_iload (pc := 89) dX5_first_89 rfl ?_
          refine r_istore_n (pc := 91) (lo1 := [.ref 0, .int (nI k), .int (nI 0), .int (nI i), .long ((fiS (fun s => prS I (siL I 40 n L 6 40) (siL I 40 n L 6 40) (nI 0) 6 - prS I (siL I 40 n L 6 40) (siL I 40 n L 6 40) (nI 1 <<< (nI s &&& 31)) 6) i).2), .null, .int (nI i), .long (prS I ((siL I 40 n L 6) 40) ((siL I 40 n L 6) 40) (nI 0) 6 - prS I ((siL I 40 n L 6) 40) ((siL I 40 n L 6) 40) (nI 1 <<< (nI i &&& 31)) 6), .null]) dX5_first_91 rfl (by decide) rfl ?_
          refine r_lload (pc := 92) dX5_first_92 rfl ?_
          refine r_lstore (pc := 94) (lo1 := [.ref 0, .int (nI k), .int (nI 0), .int (nI i), .long (prS I ((siL I 40 n L 6) 40) ((siL I 40 n L 6) 40) (nI 0) 6 - prS I ((siL I 40 n L 6) 40) ((siL I 40 n L 6) 40) (nI 1 <<< (nI i &&& 31)) 6), .null, .int (nI i), .long (prS I ((siL I 40 n L 6) 40) ((siL I 40 n L 6) 40) (nI 0) 6 - prS I ((siL I 40 n L 6) 40) ((siL I 40 n L 6) 40) (nI 1 <<< (nI i &&& 31)) 6), .null]) dX5_first_94 rfl (by decide) rfl ?_
          refine r_iinc (pc := 96) (v := nI (i + 1)) (lo1 := [.ref 0, .int (nI k), .int (nI 0), .int (nI i), .long (prS I ((siL I 40 n L 6) 40) ((siL I 40 n L 6) 40) (nI 0) 6 - prS I ((siL I 40 n L 6) 40) ((siL I 40 n L 6) 40) (nI 1 <<< (nI i &&& 31)) 6), .null, .int (nI (i + 1)), .long (prS I ((siL I 40 n L 6) 40) ((siL I 40 n L 6) 40) (nI 0) 6 - prS I ((siL I 40 n L 6) 40) ((siL I 40 n L 6) 40) (nI 1 <<< (nI i &&& 31)) 6), .null]) dX5_first_96 rfl rfl (ii1 _) (by decide) rfl ?_
          refine r_goto (pc := 99) (tgt := 39) dX5_first_99 (by decide) ?_
          refine r_drop (lo1 := [.ref 0, .int (nI k), .int (nI 0), .int (nI i), .long (prS I ((siL I 40 n L 6) 40) ((siL I 40 n L 6) 40) (nI 0) 6 - prS I ((siL I 40 n L 6) 40) ((siL I 40 n L 6) 40) (nI 1 <<< (nI i &&& 31)) 6), .null, .int (nI (i + 1)), .null, .null]) 7 rfl ?_
          have e9 : fiS (fun s => prS I (siL I 40 n L 6 40) (siL I 40 n L 6 40) (nI 0) 6 - prS I (siL I 40 n L 6 40) (siL I 40 n L 6 40) (nI 1 <<< (nI s &&& 31)) 6) (i + 1) = (nI i, prS I ((siL I 40 n L 6) 40) ((siL I 40 n L 6) 40) (nI 0) 6 - prS I ((siL I 40 n L 6) 40) ((siL I 40 n L 6) 40) (nI 1 <<< (nI i &&& 31)) 6) := if_pos c4
          have h9 := ih (i + 1) (by omega)
          rw [e9] at h9
          exact h9
        · refine r_lload (pc := 81) dX5_first_81 rfl ?_
          refine r_lload (pc := 83) dX5_first_83 rfl ?_
          refine r_lc_le (pc := 85) (tgt := 96) dX5_first_85 dX5_first_86 (by decide) (fun c5 => ?_) (fun c5 => ?_)
          · refine r_iinc (pc := 96) (v := nI (i + 1)) (lo1 := [.ref 0, .int (nI k), .int (nI 0), .int ((fiS (fun s => prS I (siL I 40 n L 6 40) (siL I 40 n L 6 40) (nI 0) 6 - prS I (siL I 40 n L 6 40) (siL I 40 n L 6 40) (nI 1 <<< (nI s &&& 31)) 6) i).1), .long ((fiS (fun s => prS I (siL I 40 n L 6 40) (siL I 40 n L 6 40) (nI 0) 6 - prS I (siL I 40 n L 6 40) (siL I 40 n L 6 40) (nI 1 <<< (nI s &&& 31)) 6) i).2), .null, .int (nI (i + 1)), .long (prS I ((siL I 40 n L 6) 40) ((siL I 40 n L 6) 40) (nI 0) 6 - prS I ((siL I 40 n L 6) 40) ((siL I 40 n L 6) 40) (nI 1 <<< (nI i &&& 31)) 6), .null]) dX5_first_96 rfl rfl (ii1 _) (by decide) rfl ?_
            refine r_goto (pc := 99) (tgt := 39) dX5_first_99 (by decide) ?_
            refine r_drop (lo1 := [.ref 0, .int (nI k), .int (nI 0), .int ((fiS (fun s => prS I (siL I 40 n L 6 40) (siL I 40 n L 6 40) (nI 0) 6 - prS I (siL I 40 n L 6 40) (siL I 40 n L 6 40) (nI 1 <<< (nI s &&& 31)) 6) i).1), .long ((fiS (fun s => prS I (siL I 40 n L 6 40) (siL I 40 n L 6 40) (nI 0) 6 - prS I (siL I 40 n L 6 40) (siL I 40 n L 6 40) (nI 1 <<< (nI s &&& 31)) 6) i).2), .null, .int (nI (i + 1)), .null, .null]) 7 rfl ?_
            have e9 : fiS (fun s => prS I (siL I 40 n L 6 40) (siL I 40 n L 6 40) (nI 0) 6 - prS I (siL I 40 n L 6 40) (siL I 40 n L 6 40) (nI 1 <<< (nI s &&& 31)) 6) (i + 1) = (fiS (fun s => prS I (siL I 40 n L 6 40) (siL I 40 n L 6 40) (nI 0) 6 - prS I (siL I 40 n L 6 40) (siL I 40 n L 6 40) (nI 1 <<< (nI s &&& 31)) 6) i) := (if_neg c4).trans (if_neg (l_nlt c5))
            have h9 := ih (i + 1) (by omega)
            rw [e9] at h9
            exact h9
          · refine r_iload (pc := 89) dX5_first_89 rfl ?_
            refine r_istore_n (pc := 91) (lo1 := [.ref 0, .int (nI k), .int (nI 0), .int (nI i), .long ((fiS (fun s => prS I (siL I 40 n L 6 40) (siL I 40 n L 6 40) (nI 0) 6 - prS I (siL I 40 n L 6 40) (siL I 40 n L 6 40) (nI 1 <<< (nI s &&& 31)) 6) i).2), .null, .int (nI i), .long (prS I ((siL I 40 n L 6) 40) ((siL I 40 n L 6) 40) (nI 0) 6 - prS I ((siL I 40 n L 6) 40) ((siL I 40 n L 6) 40) (nI 1 <<< (nI i &&& 31)) 6), .null]) dX5_first_91 rfl (by decide) rfl ?_
            refine r_lload (pc := 92) dX5_first_92 rfl ?_
            refine r_lstore (pc := 94) (lo1 := [.ref 0, .int (nI k), .int (nI 0), .int (nI i), .long (prS I ((siL I 40 n L 6) 40) ((siL I 40 n L 6) 40) (nI 0) 6 - prS I ((siL I 40 n L 6) 40) ((siL I 40 n L 6) 40) (nI 1 <<< (nI i &&& 31)) 6), .null, .int (nI i), .long (prS I ((siL I 40 n L 6) 40) ((siL I 40 n L 6) 40) (nI 0) 6 - prS I ((siL I 40 n L 6) 40) ((siL I 40 n L 6) 40) (nI 1 <<< (nI i &&& 31)) 6), .null]) dX5_first_94 rfl (by decide) rfl ?_
            refine r_iinc (pc := 96) (v := nI (i + 1)) (lo1 := [.ref 0, .int (nI k), .int (nI 0), .int (nI i), .long (prS I ((siL I 40 n L 6) 40) ((siL I 40 n L 6) 40) (nI 0) 6 - prS I ((siL I 40 n L 6) 40) ((siL I 40 n L 6) 40) (nI 1 <<< (nI i &&& 31)) 6), .null, .int (nI (i + 1)), .long (prS I ((siL I 40 n L 6) 40) ((siL I 40 n L 6) 40) (nI 0) 6 - prS I ((siL I 40 n L 6) 40) ((siL I 40 n L 6) 40) (nI 1 <<< (nI i &&& 31)) 6), .null]) dX5_first_96 rfl rfl (ii1 _) (by decide) rfl ?_
            refine r_goto (pc := 99) (tgt := 39) dX5_first_99 (by decide) ?_
            refine r_drop (lo1 := [.ref 0, .int (nI k), .int (nI 0), .int (nI i), .long (prS I ((siL I 40 n L 6) 40) ((siL I 40 n L 6) 40) (nI 0) 6 - prS I ((siL I 40 n L 6) 40) ((siL I 40 n L 6) 40) (nI 1 <<< (nI i &&& 31)) 6), .null, .int (nI (i + 1)), .null, .null]) 7 rfl ?_
            have e9 : fiS (fun s => prS I (siL I 40 n L 6 40) (siL I 40 n L 6 40) (nI 0) 6 - prS I (siL I 40 n L 6 40) (siL I 40 n L 6 40) (nI 1 <<< (nI s &&& 31)) 6) (i + 1) = (nI i, prS I ((siL I 40 n L 6) 40) ((siL I 40 n L 6) 40) (nI 0) 6 - prS I ((siL I 40 n L 6) 40) ((siL I 40 n L 6) 40) (nI 1 <<< (nI i &&& 31)) 6) := (if_neg c4).trans (if_pos c5)
            have h9 := ih (i + 1) (by omega)
            rw [e9] at h9
            exact h9
theorem p_first_0 (X : Ctx) (d : Nat) (I : MI) (L : ML) (F k n : Nat) (hF : I 4 6 = nI F) (hk : k < F) (hF4 : F ≤ 4) (hz : I 10 k = nI (n + 1)) (hn : n + 1 ≤ 80) (hN : ∀ j, j < n + 1 → NW I j) : Sp X mX5_first (d + 6) (0, 0) [.ref 0, .int (nI k), .int (nI 0)] shF I L (some (.int ((fiS (fun s => prS I (siL I 40 n L 6 40) (siL I 40 n L 6 40) (nI 0) 6 - prS I (siL I 40 n L 6 40) (siL I 40 n L 6 40) (nI 1 <<< (nI s &&& 31)) 6) 6).1)), shF, I, (siL I 40 n L 6)) := by
  refine Sp.of okX5_first [.ref 0, .int (nI k), .int (nI 0), .null, .null, .null, .null, .null, .null] 6 rfl (Nat.le_of_ble_eq_true rfl) ?_
  refine r_aload_n (pc := 0) dX5_first_0 rfl ?_
  refine r_iload_n (pc := 1) dX5_first_1 rfl ?_
  refine r_callV (pc := 2) (N := mX5_isTold) (rest := []) (s_isTold_t X _ I L F k hF (by omega) hF4) okX5_isTold lkX5_133 rfl (by decide) rfl rfl rfl (Nat.le_of_ble_eq_true rfl) ⟨Nat.le_refl _, Nat.le_refl _⟩ dX5_first_2 ?_
  refine r_ifN_eq (pc := 5) (tgt := 17) dX5_first_5 (by decide) (by omega) (fun c6 => ?_) (fun c6 => ?_)
  · exact absurd c6 (by decide)
  · refine r_iload_n (pc := 8) dX5_first_8 rfl ?_
    refine r_ifN_lt (pc := 9) (tgt := 17) dX5_first_9 (by decide) (by omega) (fun c7 => ?_) (fun c7 => ?_)
    · exact absurd c7 (by decide)
    · refine r_iload_n (pc := 12) dX5_first_12 rfl ?_
      refine r_iconst (pc := 13) (v := nI 1) dX5_first_13 rfl ?_
      refine r_icmpN_le (pc := 14) (tgt := 19) dX5_first_14 (by decide) (by omega) (by omega) (fun c8 => ?_) (fun c8 => ?_)
      · refine r_aload_n (pc := 19) dX5_first_19 rfl ?_
        refine r_getR (pc := 20) (b := 27) dX5_first_20 fX5_42 rfl rfl ?_
        refine r_aload_n (pc := 23) dX5_first_23 rfl ?_
        refine r_getR (pc := 24) (b := 40) dX5_first_24 fX5_60 rfl rfl ?_
        refine r_iload_n (pc := 27) dX5_first_27 rfl ?_
        refine r_callV (pc := 28) (N := mX3_slopesInto) (rest := []) (s_slopesInto_40 X _ I L k n (by omega) hz hn hN) okX3_slopesInto lkX5_149 rfl (by decide) rfl rfl rfl (Nat.le_of_ble_eq_true rfl) ⟨Nat.le_refl _, Nat.le_refl _⟩ dX5_first_28 ?_
        refine r_iconst (pc := 31) (v := nI 0) dX5_first_31 rfl ?_
        refine r_istore_n (pc := 32) (lo1 := [.ref 0, .int (nI k), .int (nI 0), .int (nI 0), .null, .null, .null, .null, .null]) dX5_first_32 rfl (by decide) rfl ?_
        refine r_lconst (pc := 33) (v := 0) dX5_first_33 rfl ?_
        refine r_lstore (pc := 34) (lo1 := [.ref 0, .int (nI k), .int (nI 0), .int (nI 0), .long (0), .null, .null, .null, .null]) dX5_first_34 rfl (by decide) rfl ?_
        refine r_iconst (pc := 36) (v := nI 0) dX5_first_36 rfl ?_
        refine r_istore (pc := 37) (lo1 := [.ref 0, .int (nI k), .int (nI 0), .int (nI 0), .long (0), .null, .int (nI 0), .null, .null]) dX5_first_37 rfl (by decide) rfl ?_
        exact lp_first_0 X d I L F k n hF hk hF4 hz hn hN 6 0 rfl
      · exact absurd c8 (by decide)
theorem lp_first_1 (X : Ctx) (d : Nat) (I : MI) (L : ML) (F k n : Nat) (hF : I 4 6 = nI F) (hk : k < F) (hF4 : F ≤ 4) (hz : I 10 k = nI (n + 1)) (hn : n + 1 ≤ 80) (hN : ∀ j, j < n + 1 → NW I j) : ∀ (z i : Nat), i + z = 6 → Ev X mX5_first (d + 6) (0, 0) (0, 0) (some (.int ((fiS (fun s => ptS I (siL I 40 n L 6 40) (siL I 40 n L 6 40) (nI 0) s 6) 6).1)), shF, I, (siL I 40 n L 6)) 39 [.ref 0, .int (nI k), .int (nI 1), .int ((fiS (fun s => ptS I (siL I 40 n L 6 40) (siL I 40 n L 6 40) (nI 0) s 6) i).1), .long ((fiS (fun s => ptS I (siL I 40 n L 6 40) (siL I 40 n L 6 40) (nI 0) s 6) i).2), .null, .int (nI i), .null, .null] [] shF I (siL I 40 n L 6) := by
  intro z
  induction z with
  | zero =>
    intro i hi
    have hi2 : i = 6 := by omega
    rw [hi2]
    refine r_iload (pc := 39) dX5_first_39 rfl ?_
    refine r_bipush (pc := 41) dX5_first_41 bp_6 ?_
    refine r_icmpN_ge (pc := 43) (tgt := 102) dX5_first_43 (by decide) (by omega) (by omega) (fun c1 => ?_) (fun c1 => ?_)
    · refine r_iload_n (pc := 102) dX5_first_102 rfl ?_
      exact r_iret dX5_first_103 rfl (rfl) rfl
    · exact absurd c1 (by decide)
  | succ z ih =>
    intro i hi
    refine r_iload (pc := 39) dX5_first_39 rfl ?_
    refine r_bipush (pc := 41) dX5_first_41 bp_6 ?_
    refine r_icmpN_ge (pc := 43) (tgt := 102) dX5_first_43 (by decide) (by omega) (by omega) (fun c2 => ?_) (fun c2 => ?_)
    · exact absurd c2 (by omega)
    · refine r_iload_n (pc := 46) dX5_first_46 rfl ?_
      refine r_ifN_ne (pc := 47) (tgt := 59) dX5_first_47 (by decide) (by omega) (fun c3 => ?_) (fun c3 => ?_)
      · refine r_aload_n (pc := 59) dX5_first_59 rfl ?_
        refine r_aload_n (pc := 60) dX5_first_60 rfl ?_
        refine r_getR (pc := 61) (b := 40) dX5_first_61 fX5_60 rfl rfl ?_
        refine r_aload_n (pc := 64) dX5_first_64 rfl ?_
        refine r_getR (pc := 65) (b := 40) dX5_first_65 fX5_60 rfl rfl ?_
        refine r_iload (pc := 68) dX5_first_68 rfl ?_
        refine r_iconst (pc := 70) (v := nI 0) dX5_first_70 rfl ?_
        refine r_callV (pc := 71) (N := mX5_part) (rest := []) (s_part_40_40 X _ I (siL I 40 n L 6) (nI 0) i (by omega)) okX5_part lkX5_157 rfl (by decide) rfl rfl rfl (Nat.le_of_ble_eq_true rfl) ⟨Nat.le_refl _, Nat.le_refl _⟩ dX5_first_71 ?_
        refine r_lstore (pc := 74) (lo1 := [.ref 0, .int (nI k), .int (nI 1), .int ((fiS (fun s => ptS I (siL I 40 n L 6 40) (siL I 40 n L 6 40) (nI 0) s 6) i).1), .long ((fiS (fun s => ptS I (siL I 40 n L 6 40) (siL I 40 n L 6 40) (nI 0) s 6) i).2), .null, .int (nI i), .long (ptS I ((siL I 40 n L 6) 40) ((siL I 40 n L 6) 40) (nI 0) i 6), .null]) dX5_first_74 rfl (by decide) rfl ?_
        refine r_iload (pc := 76) dX5_first_76 rfl ?_
        refine r_ifN_eq (pc := 78) (tgt := 89) dX5_first_78 (by decide) (by omega) (fun c4 => ?_) (fun c4 => ?_)
        · refine r_iload (pc := 89) dX5_first_89 rfl ?_
          refine r_istore_n (pc := 91) (lo1 := [.ref 0, .int (nI k), .int (nI 1), .int (nI i), .long ((fiS (fun s => ptS I (siL I 40 n L 6 40) (siL I 40 n L 6 40) (nI 0) s 6) i).2), .null, .int (nI i), .long (ptS I ((siL I 40 n L 6) 40) ((siL I 40 n L 6) 40) (nI 0) i 6), .null]) dX5_first_91 rfl (by decide) rfl ?_
          refine r_lload (pc := 92) dX5_first_92 rfl ?_
          refine r_lstore (pc := 94) (lo1 := [.ref 0, .int (nI k), .int (nI 1), .int (nI i), .long (ptS I ((siL I 40 n L 6) 40) ((siL I 40 n L 6) 40) (nI 0) i 6), .null, .int (nI i), .long (ptS I ((siL I 40 n L 6) 40) ((siL I 40 n L 6) 40) (nI 0) i 6), .null]) dX5_first_94 rfl (by decide) rfl ?_
          refine r_iinc (pc := 96) (v := nI (i + 1)) (lo1 := [.ref 0, .int (nI k), .int (nI 1), .int (nI i), .long (ptS I ((siL I 40 n L 6) 40) ((siL I 40 n L 6) 40) (nI 0) i 6), .null, .int (nI (i + 1)), .long (ptS I ((siL I 40 n L 6) 40) ((siL I 40 n L 6) 40) (nI 0) i 6), .null]) dX5_first_96 rfl rfl (ii1 _) (by decide) rfl ?_
          refine r_goto (pc := 99) (tgt := 39) dX5_first_99 (by decide) ?_
          refine r_drop (lo1 := [.ref 0, .int (nI k), .int (nI 1), .int (nI i), .long (ptS I ((siL I 40 n L 6) 40) ((siL I 40 n L 6) 40) (nI 0) i 6), .null, .int (nI (i + 1)), .null, .null]) 7 rfl ?_
          have e9 : fiS (fun s => ptS I (siL I 40 n L 6 40) (siL I 40 n L 6 40) (nI 0) s 6) (i + 1) = (nI i, ptS I ((siL I 40 n L 6) 40) ((siL I 40 n L 6) 40) (nI 0) i 6) := if_pos c4
          have h9 := ih (i + 1) (by omega)
          rw [e9] at h9
          exact h9
        · refine r_lload (pc := 81) dX5_first_81 rfl ?_
          refine r_lload (pc := 83) dX5_first_83 rfl ?_
          refine r_lc_le (pc := 85) (tgt := 96) dX5_first_85 dX5_first_86 (by decide) (fun c5 => ?_) (fun c5 => ?_)
          · refine r_iinc (pc := 96) (v := nI (i + 1)) (lo1 := [.ref 0, .int (nI k), .int (nI 1), .int ((fiS (fun s => ptS I (siL I 40 n L 6 40) (siL I 40 n L 6 40) (nI 0) s 6) i).1), .long ((fiS (fun s => ptS I (siL I 40 n L 6 40) (siL I 40 n L 6 40) (nI 0) s 6) i).2), .null, .int (nI (i + 1)), .long (ptS I ((siL I 40 n L 6) 40) ((siL I 40 n L 6) 40) (nI 0) i 6), .null]) dX5_first_96 rfl rfl (ii1 _) (by decide) rfl ?_
            refine r_goto (pc := 99) (tgt := 39) dX5_first_99 (by decide) ?_
            refine r_drop (lo1 := [.ref 0, .int (nI k), .int (nI 1), .int ((fiS (fun s => ptS I (siL I 40 n L 6 40) (siL I 40 n L 6 40) (nI 0) s 6) i).1), .long ((fiS (fun s => ptS I (siL I 40 n L 6 40) (siL I 40 n L 6 40) (nI 0) s 6) i).2), .null, .int (nI (i + 1)), .null, .null]) 7 rfl ?_
            have e9 : fiS (fun s => ptS I (siL I 40 n L 6 40) (siL I 40 n L 6 40) (nI 0) s 6) (i + 1) = (fiS (fun s => ptS I (siL I 40 n L 6 40) (siL I 40 n L 6 40) (nI 0) s 6) i) := (if_neg c4).trans (if_neg (l_nlt c5))
            have h9 := ih (i + 1) (by omega)
            rw [e9] at h9
            exact h9
          · refine r_iload (pc := 89) dX5_first_89 rfl ?_
            refine r_istore_n (pc := 91) (lo1 := [.ref 0, .int (nI k), .int (nI 1), .int (nI i), .long ((fiS (fun s => ptS I (siL I 40 n L 6 40) (siL I 40 n L 6 40) (nI 0) s 6) i).2), .null, .int (nI i), .long (ptS I ((siL I 40 n L 6) 40) ((siL I 40 n L 6) 40) (nI 0) i 6), .null]) dX5_first_91 rfl (by decide) rfl ?_
            refine r_lload (pc := 92) dX5_first_92 rfl ?_
            refine r_lstore (pc := 94) (lo1 := [.ref 0, .int (nI k), .int (nI 1), .int (nI i), .long (ptS I ((siL I 40 n L 6) 40) ((siL I 40 n L 6) 40) (nI 0) i 6), .null, .int (nI i), .long (ptS I ((siL I 40 n L 6) 40) ((siL I 40 n L 6) 40) (nI 0) i 6), .null]) dX5_first_94 rfl (by decide) rfl ?_
            refine r_iinc (pc := 96) (v := nI (i + 1)) (lo1 := [.ref 0, .int (nI k), .int (nI 1), .int (nI i), .long (ptS I ((siL I 40 n L 6) 40) ((siL I 40 n L 6) 40) (nI 0) i 6), .null, .int (nI (i + 1)), .long (ptS I ((siL I 40 n L 6) 40) ((siL I 40 n L 6) 40) (nI 0) i 6), .null]) dX5_first_96 rfl rfl (ii1 _) (by decide) rfl ?_
            refine r_goto (pc := 99) (tgt := 39) dX5_first_99 (by decide) ?_
            refine r_drop (lo1 := [.ref 0, .int (nI k), .int (nI 1), .int (nI i), .long (ptS I ((siL I 40 n L 6) 40) ((siL I 40 n L 6) 40) (nI 0) i 6), .null, .int (nI (i + 1)), .null, .null]) 7 rfl ?_
            have e9 : fiS (fun s => ptS I (siL I 40 n L 6 40) (siL I 40 n L 6 40) (nI 0) s 6) (i + 1) = (nI i, ptS I ((siL I 40 n L 6) 40) ((siL I 40 n L 6) 40) (nI 0) i 6) := (if_neg c4).trans (if_pos c5)
            have h9 := ih (i + 1) (by omega)
            rw [e9] at h9
            exact h9
      · exact absurd c3 (by decide)
theorem p_first_1 (X : Ctx) (d : Nat) (I : MI) (L : ML) (F k n : Nat) (hF : I 4 6 = nI F) (hk : k < F) (hF4 : F ≤ 4) (hz : I 10 k = nI (n + 1)) (hn : n + 1 ≤ 80) (hN : ∀ j, j < n + 1 → NW I j) : Sp X mX5_first (d + 6) (0, 0) [.ref 0, .int (nI k), .int (nI 1)] shF I L (some (.int ((fiS (fun s => ptS I (siL I 40 n L 6 40) (siL I 40 n L 6 40) (nI 0) s 6) 6).1)), shF, I, (siL I 40 n L 6)) := by
  refine Sp.of okX5_first [.ref 0, .int (nI k), .int (nI 1), .null, .null, .null, .null, .null, .null] 6 rfl (Nat.le_of_ble_eq_true rfl) ?_
  refine r_aload_n (pc := 0) dX5_first_0 rfl ?_
  refine r_iload_n (pc := 1) dX5_first_1 rfl ?_
  refine r_callV (pc := 2) (N := mX5_isTold) (rest := []) (s_isTold_t X _ I L F k hF (by omega) hF4) okX5_isTold lkX5_133 rfl (by decide) rfl rfl rfl (Nat.le_of_ble_eq_true rfl) ⟨Nat.le_refl _, Nat.le_refl _⟩ dX5_first_2 ?_
  refine r_ifN_eq (pc := 5) (tgt := 17) dX5_first_5 (by decide) (by omega) (fun c6 => ?_) (fun c6 => ?_)
  · exact absurd c6 (by decide)
  · refine r_iload_n (pc := 8) dX5_first_8 rfl ?_
    refine r_ifN_lt (pc := 9) (tgt := 17) dX5_first_9 (by decide) (by omega) (fun c7 => ?_) (fun c7 => ?_)
    · exact absurd c7 (by decide)
    · refine r_iload_n (pc := 12) dX5_first_12 rfl ?_
      refine r_iconst (pc := 13) (v := nI 1) dX5_first_13 rfl ?_
      refine r_icmpN_le (pc := 14) (tgt := 19) dX5_first_14 (by decide) (by omega) (by omega) (fun c8 => ?_) (fun c8 => ?_)
      · refine r_aload_n (pc := 19) dX5_first_19 rfl ?_
        refine r_getR (pc := 20) (b := 27) dX5_first_20 fX5_42 rfl rfl ?_
        refine r_aload_n (pc := 23) dX5_first_23 rfl ?_
        refine r_getR (pc := 24) (b := 40) dX5_first_24 fX5_60 rfl rfl ?_
        refine r_iload_n (pc := 27) dX5_first_27 rfl ?_
        refine r_callV (pc := 28) (N := mX3_slopesInto) (rest := []) (s_slopesInto_40 X _ I L k n (by omega) hz hn hN) okX3_slopesInto lkX5_149 rfl (by decide) rfl rfl rfl (Nat.le_of_ble_eq_true rfl) ⟨Nat.le_refl _, Nat.le_refl _⟩ dX5_first_28 ?_
        refine r_iconst (pc := 31) (v := nI 0) dX5_first_31 rfl ?_
        refine r_istore_n (pc := 32) (lo1 := [.ref 0, .int (nI k), .int (nI 1), .int (nI 0), .null, .null, .null, .null, .null]) dX5_first_32 rfl (by decide) rfl ?_
        refine r_lconst (pc := 33) (v := 0) dX5_first_33 rfl ?_
        refine r_lstore (pc := 34) (lo1 := [.ref 0, .int (nI k), .int (nI 1), .int (nI 0), .long (0), .null, .null, .null, .null]) dX5_first_34 rfl (by decide) rfl ?_
        refine r_iconst (pc := 36) (v := nI 0) dX5_first_36 rfl ?_
        refine r_istore (pc := 37) (lo1 := [.ref 0, .int (nI k), .int (nI 1), .int (nI 0), .long (0), .null, .int (nI 0), .null, .null]) dX5_first_37 rfl (by decide) rfl ?_
        exact lp_first_1 X d I L F k n hF hk hF4 hz hn hN 6 0 rfl
      · exact absurd c8 (by decide)
theorem lp_fewest (X : Ctx) (d : Nat) (I : MI) (L : ML) (lim : Int64) (F k n : Nat) (hF : I 4 6 = nI F) (hk : k < F) (hF4 : F ≤ 4) (hz : I 10 k = nI (n + 1)) (hn : n + 1 ≤ 80) (hN : ∀ j, j < n + 1 → NW I j) : ∀ (z i : Nat), i + z = 64 → Ev X mX5_fewest (d + 5) (0, 0) (0, 0) (some (.int (fwS I (siL I 40 n L 6 40) lim 64)), shF, I, (siL I 40 n L 6)) 29 [.ref 0, .int (nI k), .long (lim), .null, .int (fwS I (siL I 40 n L 6 40) lim i), .int (nI i), .null] [] shF I (siL I 40 n L 6) := by
  intro z
  induction z with
  | zero =>
    intro i hi
    have hi2 : i = 64 := by omega
    rw [hi2]
    refine r_iload (pc := 29) dX5_fewest_29 rfl ?_
    refine r_bipush (pc := 31) dX5_fewest_31 bp_64 ?_
    refine r_icmpN_ge (pc := 33) (tgt := 97) dX5_fewest_33 (by decide) (by omega) (by omega) (fun c1 => ?_) (fun c1 => ?_)
    · refine r_iload (pc := 97) dX5_fewest_97 rfl ?_
      exact r_iret dX5_fewest_99 rfl (rfl) rfl
    · exact absurd c1 (by decide)
  | succ z ih =>
    intro i hi
    refine r_iload (pc := 29) dX5_fewest_29 rfl ?_
    refine r_bipush (pc := 31) dX5_fewest_31 bp_64 ?_
    refine r_icmpN_ge (pc := 33) (tgt := 97) dX5_fewest_33 (by decide) (by omega) (by omega) (fun c2 => ?_) (fun c2 => ?_)
    · exact absurd c2 (by omega)
    · refine r_iload (pc := 36) dX5_fewest_36 rfl ?_
      refine r_bipush (pc := 38) dX5_fewest_38 bp_m9 ?_
      refine r_icmp_eq (pc := 40) (tgt := 56) dX5_fewest_40 (by decide) (fun c3 => ?_) (fun c3 => ?_)
      · refine r_iconst (pc := 56) (v := nI 1) dX5_fewest_56 rfl ?_
        refine r_goto (pc := 57) (tgt := 61) dX5_fewest_57 (by decide) ?_
        refine r_istore (pc := 61) (lo1 := [.ref 0, .int (nI k), .long (lim), .null, .int (fwS I (siL I 40 n L 6 40) lim i), .int (nI i), .int (nI 1)]) dX5_fewest_61 rfl (by decide) rfl ?_
        refine r_iload (pc := 63) dX5_fewest_63 rfl ?_
        refine r_ifN_eq (pc := 65) (tgt := 91) dX5_fewest_65 (by decide) (by omega) (fun c4 => ?_) (fun c4 => ?_)
        · exact absurd c4 (by decide)
        · refine r_aload_n (pc := 68) dX5_fewest_68 rfl ?_
          refine r_aload_n (pc := 69) dX5_fewest_69 rfl ?_
          refine r_getR (pc := 70) (b := 40) dX5_fewest_70 fX5_60 rfl rfl ?_
          refine r_aload_n (pc := 73) dX5_fewest_73 rfl ?_
          refine r_getR (pc := 74) (b := 40) dX5_fewest_74 fX5_60 rfl rfl ?_
          refine r_iload (pc := 77) dX5_fewest_77 rfl ?_
          refine r_callV (pc := 79) (N := mX5_product) (rest := []) (s_product_40_40 X _ I (siL I 40 n L 6) (nI i)) okX5_product lkX5_153 rfl (by decide) rfl rfl rfl (Nat.le_of_ble_eq_true rfl) ⟨Nat.le_refl _, Nat.le_refl _⟩ dX5_fewest_79 ?_
          refine r_lload_n (pc := 82) dX5_fewest_82 rfl ?_
          refine r_lc_gt (pc := 83) (tgt := 91) dX5_fewest_83 dX5_fewest_84 (by decide) (fun c5 => ?_) (fun c5 => ?_)
          · refine r_iinc (pc := 91) (v := nI (i + 1)) (lo1 := [.ref 0, .int (nI k), .long (lim), .null, .int (fwS I (siL I 40 n L 6 40) lim i), .int (nI (i + 1)), .int (nI 1)]) dX5_fewest_91 rfl rfl (ii1 _) (by decide) rfl ?_
            refine r_goto (pc := 94) (tgt := 29) dX5_fewest_94 (by decide) ?_
            refine r_drop (lo1 := [.ref 0, .int (nI k), .long (lim), .null, .int (fwS I (siL I 40 n L 6 40) lim i), .int (nI (i + 1)), .null]) 6 rfl ?_
            have e9 : fwS I (siL I 40 n L 6 40) lim (i + 1) = fwS I (siL I 40 n L 6 40) lim i := (if_pos c3).trans (if_neg (l_nle c5))
            have h9 := ih (i + 1) (by omega)
            rw [e9] at h9
            exact h9
          · refine r_iload (pc := 87) dX5_fewest_87 rfl ?_
            refine r_istore (pc := 89) (lo1 := [.ref 0, .int (nI k), .long (lim), .null, .int (nI i), .int (nI i), .int (nI 1)]) dX5_fewest_89 rfl (by decide) rfl ?_
            refine r_iinc (pc := 91) (v := nI (i + 1)) (lo1 := [.ref 0, .int (nI k), .long (lim), .null, .int (nI i), .int (nI (i + 1)), .int (nI 1)]) dX5_fewest_91 rfl rfl (ii1 _) (by decide) rfl ?_
            refine r_goto (pc := 94) (tgt := 29) dX5_fewest_94 (by decide) ?_
            refine r_drop (lo1 := [.ref 0, .int (nI k), .long (lim), .null, .int (nI i), .int (nI (i + 1)), .null]) 6 rfl ?_
            have e9 : fwS I (siL I 40 n L 6 40) lim (i + 1) = nI i := (if_pos c3).trans (if_pos c5)
            have h9 := ih (i + 1) (by omega)
            rw [e9] at h9
            exact h9
      · refine r_iload (pc := 43) dX5_fewest_43 rfl ?_
        refine r_callS (pc := 45) (N := mJ6_bitCount_0f7a4) (rest := []) (s_bitCount X _ I (siL I 40 n L 6) (nI i)) okJ6_bitCount_0f7a4 lkX5_161 rfl rfl (Nat.le_of_ble_eq_true rfl) ⟨Nat.le_refl _, Nat.le_refl _⟩ dX5_fewest_45 ?_
        refine r_iload (pc := 48) dX5_fewest_48 rfl ?_
        refine r_callS (pc := 50) (N := mJ6_bitCount_0f7a4) (rest := [.int (bcI (nI i))]) (s_bitCount X _ I (siL I 40 n L 6) (fwS I (siL I 40 n L 6 40) lim i)) okJ6_bitCount_0f7a4 lkX5_161 rfl rfl (Nat.le_of_ble_eq_true rfl) ⟨Nat.le_refl _, Nat.le_refl _⟩ dX5_fewest_50 ?_
        refine r_icmp_ge (pc := 53) (tgt := 60) dX5_fewest_53 (by decide) (fun c6 => ?_) (fun c6 => ?_)
        · refine r_iconst (pc := 60) (v := nI 0) dX5_fewest_60 rfl ?_
          refine r_istore (pc := 61) (lo1 := [.ref 0, .int (nI k), .long (lim), .null, .int (fwS I (siL I 40 n L 6 40) lim i), .int (nI i), .int (nI 0)]) dX5_fewest_61 rfl (by decide) rfl ?_
          refine r_iload (pc := 63) dX5_fewest_63 rfl ?_
          refine r_ifN_eq (pc := 65) (tgt := 91) dX5_fewest_65 (by decide) (by omega) (fun c7 => ?_) (fun c7 => ?_)
          · refine r_iinc (pc := 91) (v := nI (i + 1)) (lo1 := [.ref 0, .int (nI k), .long (lim), .null, .int (fwS I (siL I 40 n L 6 40) lim i), .int (nI (i + 1)), .int (nI 0)]) dX5_fewest_91 rfl rfl (ii1 _) (by decide) rfl ?_
            refine r_goto (pc := 94) (tgt := 29) dX5_fewest_94 (by decide) ?_
            refine r_drop (lo1 := [.ref 0, .int (nI k), .long (lim), .null, .int (fwS I (siL I 40 n L 6 40) lim i), .int (nI (i + 1)), .null]) 6 rfl ?_
            have e9 : fwS I (siL I 40 n L 6 40) lim (i + 1) = fwS I (siL I 40 n L 6 40) lim i := (if_neg c3).trans (if_pos c6)
            have h9 := ih (i + 1) (by omega)
            rw [e9] at h9
            exact h9
          · exact absurd c7 (by decide)
        · refine r_iconst (pc := 56) (v := nI 1) dX5_fewest_56 rfl ?_
          refine r_goto (pc := 57) (tgt := 61) dX5_fewest_57 (by decide) ?_
          refine r_istore (pc := 61) (lo1 := [.ref 0, .int (nI k), .long (lim), .null, .int (fwS I (siL I 40 n L 6 40) lim i), .int (nI i), .int (nI 1)]) dX5_fewest_61 rfl (by decide) rfl ?_
          refine r_iload (pc := 63) dX5_fewest_63 rfl ?_
          refine r_ifN_eq (pc := 65) (tgt := 91) dX5_fewest_65 (by decide) (by omega) (fun c8 => ?_) (fun c8 => ?_)
          · exact absurd c8 (by decide)
          · refine r_aload_n (pc := 68) dX5_fewest_68 rfl ?_
            refine r_aload_n (pc := 69) dX5_fewest_69 rfl ?_
            refine r_getR (pc := 70) (b := 40) dX5_fewest_70 fX5_60 rfl rfl ?_
            refine r_aload_n (pc := 73) dX5_fewest_73 rfl ?_
            refine r_getR (pc := 74) (b := 40) dX5_fewest_74 fX5_60 rfl rfl ?_
            refine r_iload (pc := 77) dX5_fewest_77 rfl ?_
            refine r_callV (pc := 79) (N := mX5_product) (rest := []) (s_product_40_40 X _ I (siL I 40 n L 6) (nI i)) okX5_product lkX5_153 rfl (by decide) rfl rfl rfl (Nat.le_of_ble_eq_true rfl) ⟨Nat.le_refl _, Nat.le_refl _⟩ dX5_fewest_79 ?_
            refine r_lload_n (pc := 82) dX5_fewest_82 rfl ?_
            refine r_lc_gt (pc := 83) (tgt := 91) dX5_fewest_83 dX5_fewest_84 (by decide) (fun c9 => ?_) (fun c9 => ?_)
            · refine r_iinc (pc := 91) (v := nI (i + 1)) (lo1 := [.ref 0, .int (nI k), .long (lim), .null, .int (fwS I (siL I 40 n L 6 40) lim i), .int (nI (i + 1)), .int (nI 1)]) dX5_fewest_91 rfl rfl (ii1 _) (by decide) rfl ?_
              refine r_goto (pc := 94) (tgt := 29) dX5_fewest_94 (by decide) ?_
              refine r_drop (lo1 := [.ref 0, .int (nI k), .long (lim), .null, .int (fwS I (siL I 40 n L 6 40) lim i), .int (nI (i + 1)), .null]) 6 rfl ?_
              have e9 : fwS I (siL I 40 n L 6 40) lim (i + 1) = fwS I (siL I 40 n L 6 40) lim i := (if_neg c3).trans ((if_neg c6).trans (if_neg (l_nle c9)))
              have h9 := ih (i + 1) (by omega)
              rw [e9] at h9
              exact h9
            · refine r_iload (pc := 87) dX5_fewest_87 rfl ?_
              refine r_istore (pc := 89) (lo1 := [.ref 0, .int (nI k), .long (lim), .null, .int (nI i), .int (nI i), .int (nI 1)]) dX5_fewest_89 rfl (by decide) rfl ?_
              refine r_iinc (pc := 91) (v := nI (i + 1)) (lo1 := [.ref 0, .int (nI k), .long (lim), .null, .int (nI i), .int (nI (i + 1)), .int (nI 1)]) dX5_fewest_91 rfl rfl (ii1 _) (by decide) rfl ?_
              refine r_goto (pc := 94) (tgt := 29) dX5_fewest_94 (by decide) ?_
              refine r_drop (lo1 := [.ref 0, .int (nI k), .long (lim), .null, .int (nI i), .int (nI (i + 1)), .null]) 6 rfl ?_
              have e9 : fwS I (siL I 40 n L 6 40) lim (i + 1) = nI i := (if_neg c3).trans ((if_neg c6).trans (if_pos c9))
              have h9 := ih (i + 1) (by omega)
              rw [e9] at h9
              exact h9
theorem p_fewest (X : Ctx) (d : Nat) (I : MI) (L : ML) (lim : Int64) (F k n : Nat) (hF : I 4 6 = nI F) (hk : k < F) (hF4 : F ≤ 4) (hz : I 10 k = nI (n + 1)) (hn : n + 1 ≤ 80) (hN : ∀ j, j < n + 1 → NW I j) : Sp X mX5_fewest (d + 5) (0, 0) [.ref 0, .int (nI k), .long (lim)] shF I L (some (.int (fwS I (siL I 40 n L 6 40) lim 64)), shF, I, (siL I 40 n L 6)) := by
  refine Sp.of okX5_fewest [.ref 0, .int (nI k), .long (lim), .null, .null, .null, .null] 3 rfl (Nat.le_of_ble_eq_true rfl) ?_
  refine r_aload_n (pc := 0) dX5_fewest_0 rfl ?_
  refine r_iload_n (pc := 1) dX5_fewest_1 rfl ?_
  refine r_callV (pc := 2) (N := mX5_isTold) (rest := []) (s_isTold_t X _ I L F k hF (by omega) hF4) okX5_isTold lkX5_133 rfl (by decide) rfl rfl rfl (Nat.le_of_ble_eq_true rfl) ⟨Nat.le_refl _, Nat.le_refl _⟩ dX5_fewest_2 ?_
  refine r_ifN_ne (pc := 5) (tgt := 10) dX5_fewest_5 (by decide) (by omega) (fun c10 => ?_) (fun c10 => ?_)
  · refine r_aload_n (pc := 10) dX5_fewest_10 rfl ?_
    refine r_getR (pc := 11) (b := 27) dX5_fewest_11 fX5_42 rfl rfl ?_
    refine r_aload_n (pc := 14) dX5_fewest_14 rfl ?_
    refine r_getR (pc := 15) (b := 40) dX5_fewest_15 fX5_60 rfl rfl ?_
    refine r_iload_n (pc := 18) dX5_fewest_18 rfl ?_
    refine r_callV (pc := 19) (N := mX3_slopesInto) (rest := []) (s_slopesInto_40 X _ I L k n (by omega) hz hn hN) okX3_slopesInto lkX5_149 rfl (by decide) rfl rfl rfl (Nat.le_of_ble_eq_true rfl) ⟨Nat.le_refl _, Nat.le_refl _⟩ dX5_fewest_19 ?_
    refine r_bipush (pc := 22) dX5_fewest_22 bp_m9 ?_
    refine r_istore (pc := 24) (lo1 := [.ref 0, .int (nI k), .long (lim), .null, .int (-9), .null, .null]) dX5_fewest_24 rfl (by decide) rfl ?_
    refine r_iconst (pc := 26) (v := nI 0) dX5_fewest_26 rfl ?_
    refine r_istore (pc := 27) (lo1 := [.ref 0, .int (nI k), .long (lim), .null, .int (-9), .int (nI 0), .null]) dX5_fewest_27 rfl (by decide) rfl ?_
    exact lp_fewest X d I L lim F k n hF hk hF4 hz hn hN 64 0 rfl
  · exact absurd c10 (by decide)
theorem p_off (X : Ctx) (d : Nat) (I : MI) (L : ML) (s : Nat) (hs : s < 6) (x : Int32) (hm1 : ¬ x < -20) (hm2 : ¬ nI 20 < x) (F k n : Nat) (hF : I 4 6 = nI F) (hk : k < F) (hF4 : F ≤ 4) (hz : I 10 k = nI (n + 1)) (hn : n + 1 ≤ 80) (hN : ∀ j, j < n + 1 → NW I j) : Sp X mX5_off (d + 5) (0, 0) [.ref 0, .int (nI k), .int (nI s), .int (x)] shF I L (some (.long ((tb (wO I (nI s) x) (L 28) (n + 1) n) - (tb (wO I (nI s) (nI 0)) ((t2 (t2 (t2 L 28 (tb (wO I (nI s) x) (L 28) (n + 1))) 28 (tb (wO I (nI s) (nI 0)) ((t2 L 28 (tb (wO I (nI s) x) (L 28) (n + 1))) 28) (n + 1))) 29 (tb (sO I (nI s) ((t2 (t2 L 28 (tb (wO I (nI s) x) (L 28) (n + 1))) 28 (tb (wO I (nI s) (nI 0)) ((t2 L 28 (tb (wO I (nI s) x) (L 28) (n + 1))) 28) (n + 1))) 28)) ((t2 (t2 L 28 (tb (wO I (nI s) x) (L 28) (n + 1))) 28 (tb (wO I (nI s) (nI 0)) ((t2 L 28 (tb (wO I (nI s) x) (L 28) (n + 1))) 28) (n + 1))) 29) (n + 1))) 28) (n + 1) n) - (x).toInt64 * (tb (sO I (nI s) ((t2 (t2 L 28 (tb (wO I (nI s) x) (L 28) (n + 1))) 28 (tb (wO I (nI s) (nI 0)) ((t2 L 28 (tb (wO I (nI s) x) (L 28) (n + 1))) 28) (n + 1))) 28)) ((t2 (t2 L 28 (tb (wO I (nI s) x) (L 28) (n + 1))) 28 (tb (wO I (nI s) (nI 0)) ((t2 L 28 (tb (wO I (nI s) x) (L 28) (n + 1))) 28) (n + 1))) 29) (n + 1) n))), shF, I, (t2 (t2 (t2 (t2 L 28 (tb (wO I (nI s) x) (L 28) (n + 1))) 28 (tb (wO I (nI s) (nI 0)) ((t2 L 28 (tb (wO I (nI s) x) (L 28) (n + 1))) 28) (n + 1))) 29 (tb (sO I (nI s) ((t2 (t2 L 28 (tb (wO I (nI s) x) (L 28) (n + 1))) 28 (tb (wO I (nI s) (nI 0)) ((t2 L 28 (tb (wO I (nI s) x) (L 28) (n + 1))) 28) (n + 1))) 28)) ((t2 (t2 L 28 (tb (wO I (nI s) x) (L 28) (n + 1))) 28 (tb (wO I (nI s) (nI 0)) ((t2 L 28 (tb (wO I (nI s) x) (L 28) (n + 1))) 28) (n + 1))) 29) (n + 1))) 28 (tb (wO I (nI s) (nI 0)) ((t2 (t2 (t2 L 28 (tb (wO I (nI s) x) (L 28) (n + 1))) 28 (tb (wO I (nI s) (nI 0)) ((t2 L 28 (tb (wO I (nI s) x) (L 28) (n + 1))) 28) (n + 1))) 29 (tb (sO I (nI s) ((t2 (t2 L 28 (tb (wO I (nI s) x) (L 28) (n + 1))) 28 (tb (wO I (nI s) (nI 0)) ((t2 L 28 (tb (wO I (nI s) x) (L 28) (n + 1))) 28) (n + 1))) 28)) ((t2 (t2 L 28 (tb (wO I (nI s) x) (L 28) (n + 1))) 28 (tb (wO I (nI s) (nI 0)) ((t2 L 28 (tb (wO I (nI s) x) (L 28) (n + 1))) 28) (n + 1))) 29) (n + 1))) 28) (n + 1)))) := by
  refine Sp.of okX5_off [.ref 0, .int (nI k), .int (nI s), .int (x), .null, .null, .null, .null] 4 rfl (Nat.le_of_ble_eq_true rfl) ?_
  refine r_aload_n (pc := 0) dX5_off_0 rfl ?_
  refine r_iload_n (pc := 1) dX5_off_1 rfl ?_
  refine r_callV (pc := 2) (N := mX5_isTold) (rest := []) (s_isTold_t X _ I L F k hF (by omega) hF4) okX5_isTold lkX5_133 rfl (by decide) rfl rfl rfl (Nat.le_of_ble_eq_true rfl) ⟨Nat.le_refl _, Nat.le_refl _⟩ dX5_off_2 ?_
  refine r_ifN_eq (pc := 5) (tgt := 22) dX5_off_5 (by decide) (by omega) (fun c1 => ?_) (fun c1 => ?_)
  · exact absurd c1 (by decide)
  · refine r_iload_n (pc := 8) dX5_off_8 rfl ?_
    refine r_callS (pc := 9) (N := mX5_isSource) (rest := []) (s_isSource_t X _ I L s (by omega)) okX5_isSource lkX5_103 rfl rfl (Nat.le_of_ble_eq_true rfl) ⟨Nat.le_refl _, Nat.le_refl _⟩ dX5_off_9 ?_
    refine r_ifN_eq (pc := 12) (tgt := 22) dX5_off_12 (by decide) (by omega) (fun c2 => ?_) (fun c2 => ?_)
    · exact absurd c2 (by decide)
    · refine r_iload_n (pc := 15) dX5_off_15 rfl ?_
      refine r_callS (pc := 16) (N := mX5_isMove) (rest := []) (s_isMove_t X _ I L x hm1 hm2) okX5_isMove lkX5_170 rfl rfl (Nat.le_of_ble_eq_true rfl) ⟨Nat.le_refl _, Nat.le_refl _⟩ dX5_off_16 ?_
      refine r_ifN_ne (pc := 19) (tgt := 26) dX5_off_19 (by decide) (by omega) (fun c3 => ?_) (fun c3 => ?_)
      · refine r_aload_n (pc := 26) dX5_off_26 rfl ?_
        refine r_getR (pc := 27) (b := 27) dX5_off_27 fX5_42 rfl rfl ?_
        refine r_iload_n (pc := 30) dX5_off_30 rfl ?_
        refine r_iload_n (pc := 31) dX5_off_31 rfl ?_
        refine r_iload_n (pc := 32) dX5_off_32 rfl ?_
        refine r_callV (pc := 33) (N := mX3_worth) (rest := []) (s_sworth X _ I L (nI s) x k n (by omega) hz hn hN) okX3_worth lkX5_136 rfl (by decide) rfl rfl rfl (Nat.le_of_ble_eq_true rfl) ⟨Nat.le_refl _, Nat.le_refl _⟩ dX5_off_33 ?_
        refine r_lstore (pc := 36) (lo1 := [.ref 0, .int (nI k), .int (nI s), .int (x), .long (tb (wO I (nI s) x) (L 28) (n + 1) n), .null, .null, .null]) dX5_off_36 rfl (by decide) rfl ?_
        refine r_aload_n (pc := 38) dX5_off_38 rfl ?_
        refine r_getR (pc := 39) (b := 27) dX5_off_39 fX5_42 rfl rfl ?_
        refine r_iload_n (pc := 42) dX5_off_42 rfl ?_
        refine r_iload_n (pc := 43) dX5_off_43 rfl ?_
        refine r_callV (pc := 44) (N := mX3_slopeBy) (rest := []) (s_slopeBy X _ I (t2 L 28 (tb (wO I (nI s) x) (L 28) (n + 1))) (nI s) k n (by omega) hz hn hN) okX3_slopeBy lkX5_139 rfl (by decide) rfl rfl rfl (Nat.le_of_ble_eq_true rfl) ⟨Nat.le_refl _, Nat.le_refl _⟩ dX5_off_44 ?_
        refine r_lstore (pc := 47) (lo1 := [.ref 0, .int (nI k), .int (nI s), .int (x), .long (tb (wO I (nI s) x) (L 28) (n + 1) n), .null, .long (tb (sO I (nI s) ((t2 (t2 L 28 (tb (wO I (nI s) x) (L 28) (n + 1))) 28 (tb (wO I (nI s) (nI 0)) ((t2 L 28 (tb (wO I (nI s) x) (L 28) (n + 1))) 28) (n + 1))) 28)) ((t2 (t2 L 28 (tb (wO I (nI s) x) (L 28) (n + 1))) 28 (tb (wO I (nI s) (nI 0)) ((t2 L 28 (tb (wO I (nI s) x) (L 28) (n + 1))) 28) (n + 1))) 29) (n + 1) n), .null]) dX5_off_47 rfl (by decide) rfl ?_
        refine r_lload (pc := 49) dX5_off_49 rfl ?_
        refine r_aload_n (pc := 51) dX5_off_51 rfl ?_
        refine r_getR (pc := 52) (b := 27) dX5_off_52 fX5_42 rfl rfl ?_
        refine r_iload_n (pc := 55) dX5_off_55 rfl ?_
        refine r_iload_n (pc := 56) dX5_off_56 rfl ?_
        refine r_iconst (pc := 57) (v := nI 0) dX5_off_57 rfl ?_
        refine r_callV (pc := 58) (N := mX3_worth) (rest := [.long (tb (wO I (nI s) x) (L 28) (n + 1) n)]) (s_sworth X _ I (t2 (t2 (t2 L 28 (tb (wO I (nI s) x) (L 28) (n + 1))) 28 (tb (wO I (nI s) (nI 0)) ((t2 L 28 (tb (wO I (nI s) x) (L 28) (n + 1))) 28) (n + 1))) 29 (tb (sO I (nI s) ((t2 (t2 L 28 (tb (wO I (nI s) x) (L 28) (n + 1))) 28 (tb (wO I (nI s) (nI 0)) ((t2 L 28 (tb (wO I (nI s) x) (L 28) (n + 1))) 28) (n + 1))) 28)) ((t2 (t2 L 28 (tb (wO I (nI s) x) (L 28) (n + 1))) 28 (tb (wO I (nI s) (nI 0)) ((t2 L 28 (tb (wO I (nI s) x) (L 28) (n + 1))) 28) (n + 1))) 29) (n + 1))) (nI s) (nI 0) k n (by omega) hz hn hN) okX3_worth lkX5_136 rfl (by decide) rfl rfl rfl (Nat.le_of_ble_eq_true rfl) ⟨Nat.le_refl _, Nat.le_refl _⟩ dX5_off_58 ?_
        refine r_lsub (pc := 61) dX5_off_61 ?_
        refine r_iload_n (pc := 62) dX5_off_62 rfl ?_
        refine r_i2l (pc := 63) dX5_off_63 ?_
        refine r_lload (pc := 64) dX5_off_64 rfl ?_
        refine r_lmul (pc := 66) dX5_off_66 ?_
        refine r_lsub (pc := 67) dX5_off_67 ?_
        exact r_lret dX5_off_68 rfl (rfl) rfl
      · exact absurd c3 (by decide)
theorem p_sees (X : Ctx) (d : Nat) (I : MI) (L : ML) (F k : Nat) (hF : I 4 6 = nI F) (hk : k < F) (hF4 : F ≤ 4) (m : Nat) (v : Int64) (hm : I 0 11 = nI m) (h6 : m < 6) : Sp X mX5_sees (d + 2) (0, 0) [.ref 0, .int (nI k), .long (v)] shF I L (some (.int (nI (m + 1))), shF, (u2 (u2 I 38 m (nI k)) 0 11 (nI (m + 1))), (v2 L 39 m v)) := by
  refine Sp.of okX5_sees [.ref 0, .int (nI k), .long (v), .null] 0 rfl (Nat.le_of_ble_eq_true rfl) ?_
  refine r_aload_n (pc := 0) dX5_sees_0 rfl ?_
  refine r_iload_n (pc := 1) dX5_sees_1 rfl ?_
  refine r_callV (pc := 2) (N := mX5_isTold) (rest := []) (s_isTold_t X _ I L F k hF (by omega) hF4) okX5_isTold lkX5_133 rfl (by decide) rfl rfl rfl (Nat.le_of_ble_eq_true rfl) ⟨Nat.le_refl _, Nat.le_refl _⟩ dX5_sees_2 ?_
  refine r_ifN_ne (pc := 5) (tgt := 10) dX5_sees_5 (by decide) (by omega) (fun c1 => ?_) (fun c1 => ?_)
  · refine r_aload_n (pc := 10) dX5_sees_10 rfl ?_
    refine r_getV (pc := 11) (v := nI m) dX5_sees_11 fX5_92 rfl rfl (hm) ?_
    refine r_ifN_lt (pc := 14) (tgt := 26) dX5_sees_14 (by decide) (by omega) (fun c2 => ?_) (fun c2 => ?_)
    · exact absurd c2 (by omega)
    · refine r_aload_n (pc := 17) dX5_sees_17 rfl ?_
      refine r_getV (pc := 18) (v := nI m) dX5_sees_18 fX5_92 rfl rfl (hm) ?_
      refine r_bipush (pc := 21) dX5_sees_21 bp_6 ?_
      refine r_icmpN_lt (pc := 23) (tgt := 29) dX5_sees_23 (by decide) (by omega) (by omega) (fun c3 => ?_) (fun c3 => ?_)
      · refine r_aload_n (pc := 29) dX5_sees_29 rfl ?_
        refine r_getR (pc := 30) (b := 38) dX5_sees_30 fX5_52 rfl rfl ?_
        refine r_aload_n (pc := 33) dX5_sees_33 rfl ?_
        refine r_getV (pc := 34) (v := nI m) dX5_sees_34 fX5_92 rfl rfl (hm) ?_
        refine r_iload_n (pc := 37) dX5_sees_37 rfl ?_
        refine r_iast (pc := 38) (j := m) dX5_sees_38 rfl rfl (by omega) (by decide) ?_
        refine r_aload_n (pc := 39) dX5_sees_39 rfl ?_
        refine r_getR (pc := 40) (b := 39) dX5_sees_40 fX5_56 rfl rfl ?_
        refine r_aload_n (pc := 43) dX5_sees_43 rfl ?_
        refine r_getV (pc := 44) (v := nI m) dX5_sees_44 fX5_92 rfl rfl (hm) ?_
        refine r_lload_n (pc := 47) dX5_sees_47 rfl ?_
        refine r_last (pc := 48) (j := m) dX5_sees_48 rfl rfl (by omega) (by decide) ?_
        refine r_aload_n (pc := 49) dX5_sees_49 rfl ?_
        refine r_dup (pc := 50) dX5_sees_50 rfl ?_
        refine r_getV (pc := 51) (v := nI m) dX5_sees_51 fX5_92 rfl rfl (hm) ?_
        refine r_iconst (pc := 54) (v := nI 1) dX5_sees_54 rfl ?_
        refine r_iaddN (pc := 55) dX5_sees_55 ?_
        refine r_put (pc := 56) .int dX5_sees_56 fX5_92 rfl rfl nf5_11 rfl rfl ?_
        refine r_aload_n (pc := 59) dX5_sees_59 rfl ?_
        refine r_getV (pc := 60) (v := nI (m + 1)) dX5_sees_60 fX5_92 rfl rfl (rfl) ?_
        exact r_iret dX5_sees_63 rfl (rfl) rfl
      · exact absurd c3 (by omega)
  · exact absurd c1 (by decide)
theorem p_sees_full (X : Ctx) (d : Nat) (I : MI) (L : ML) (F k : Nat) (hF : I 4 6 = nI F) (hk : k < F) (hF4 : F ≤ 4) (v : Int64) (hm : I 0 11 = nI 6) : Sp X mX5_sees (d + 2) (0, 0) [.ref 0, .int (nI k), .long (v)] shF I L (some (.int (-3)), shF, I, L) := by
  refine Sp.of okX5_sees [.ref 0, .int (nI k), .long (v), .null] 0 rfl (Nat.le_of_ble_eq_true rfl) ?_
  refine r_aload_n (pc := 0) dX5_sees_0 rfl ?_
  refine r_iload_n (pc := 1) dX5_sees_1 rfl ?_
  refine r_callV (pc := 2) (N := mX5_isTold) (rest := []) (s_isTold_t X _ I L F k hF (by omega) hF4) okX5_isTold lkX5_133 rfl (by decide) rfl rfl rfl (Nat.le_of_ble_eq_true rfl) ⟨Nat.le_refl _, Nat.le_refl _⟩ dX5_sees_2 ?_
  refine r_ifN_ne (pc := 5) (tgt := 10) dX5_sees_5 (by decide) (by omega) (fun c1 => ?_) (fun c1 => ?_)
  · refine r_aload_n (pc := 10) dX5_sees_10 rfl ?_
    refine r_getV (pc := 11) (v := nI 6) dX5_sees_11 fX5_92 rfl rfl (hm) ?_
    refine r_ifN_lt (pc := 14) (tgt := 26) dX5_sees_14 (by decide) (by omega) (fun c2 => ?_) (fun c2 => ?_)
    · exact absurd c2 (by decide)
    · refine r_aload_n (pc := 17) dX5_sees_17 rfl ?_
      refine r_getV (pc := 18) (v := nI 6) dX5_sees_18 fX5_92 rfl rfl (hm) ?_
      refine r_bipush (pc := 21) dX5_sees_21 bp_6 ?_
      refine r_icmpN_lt (pc := 23) (tgt := 29) dX5_sees_23 (by decide) (by omega) (by omega) (fun c3 => ?_) (fun c3 => ?_)
      · exact absurd c3 (by decide)
      · refine r_bipush (pc := 26) dX5_sees_26 bp_m3 ?_
        exact r_iret dX5_sees_28 rfl (rfl) rfl
  · exact absurd c1 (by decide)
theorem p_forget (X : Ctx) (d : Nat) (I : MI) (L : ML) (m : Nat) (hm : I 0 11 = nI m) : Sp X mX5_forget (d + 0) (0, 0) [.ref 0] shF I L (some (.int (nI m)), shF, (u2 I 0 11 (nI 0)), L) := by
  refine Sp.of okX5_forget [.ref 0, .null] 1 rfl (Nat.le_of_ble_eq_true rfl) ?_
  refine r_aload_n (pc := 0) dX5_forget_0 rfl ?_
  refine r_getV (pc := 1) (v := nI m) dX5_forget_1 fX5_92 rfl rfl (hm) ?_
  refine r_istore_n (pc := 4) (lo1 := [.ref 0, .int (nI m)]) dX5_forget_4 rfl (by decide) rfl ?_
  refine r_aload_n (pc := 5) dX5_forget_5 rfl ?_
  refine r_iconst (pc := 6) (v := nI 0) dX5_forget_6 rfl ?_
  refine r_put (pc := 7) .int dX5_forget_7 fX5_92 rfl rfl nf5_11 rfl rfl ?_
  refine r_iload_n (pc := 10) dX5_forget_10 rfl ?_
  exact r_iret dX5_forget_11 rfl (rfl) rfl
def exP (I : MI) (s dd : Int32) (nn : Nat → Nat) : Nat → Nat → ML → Bool × ML
  | 0, _, L => (true, L)
  | m + 1, i, L => if tb (wO I s dd) (L 28) (nn i + 1) (nn i) = L 39 i then exP I s dd nn m (i + 1) (t2 L 28 (tb (wO I s dd) (L 28) (nn i + 1))) else (false, t2 L 28 (tb (wO I s dd) (L 28) (nn i + 1)))
def unP (I : MI) (dd : Int32) (nn : Nat → Nat) (m : Nat) (L : ML) : Nat → Int32 × ML
  | 0 => (nI 0, L)
  | s + 1 => (if (exP I (nI s) dd nn m 0 (unP I dd nn m L s).2).1 then (unP I dd nn m L s).1 ||| (nI 1 <<< (nI s &&& 31)) else (unP I dd nn m L s).1, (exP I (nI s) dd nn m 0 (unP I dd nn m L s).2).2)
theorem lp_explains (X : Ctx) (d : Nat) (I : MI) (s dd : Int32) (m : Nat) (fs nn : Nat → Nat) (hm : I 0 11 = nI m) (h6 : m ≤ 6) (hsn : ∀ i, i < m → I 38 i = nI (fs i) ∧ fs i < 4 ∧ I 10 (fs i) = nI (nn i + 1) ∧ nn i + 1 ≤ 80 ∧ ∀ j, j < nn i + 1 → NW I j) : ∀ (z i : Nat) (L : ML), i + z = m → Ev X mX5_explains (d + 5) (0, 0) (0, 0) (some (.int (bI (exP I s dd nn z i L).1)), shF, I, (exP I s dd nn z i L).2) 2 [.ref 0, .int (s), .int (dd), .int (nI i)] [] shF I L := by
  intro z
  induction z with
  | zero =>
    intro i L hi
    have hi2 : i = m := by omega
    rw [hi2]
    refine r_iload_n (pc := 2) dX5_explains_2 rfl ?_
    refine r_aload_n (pc := 3) dX5_explains_3 rfl ?_
    refine r_getV (pc := 4) (v := nI m) dX5_explains_4 fX5_92 rfl rfl (hm) ?_
    refine r_icmpN_ge (pc := 7) (tgt := 49) dX5_explains_7 (by decide) (by omega) (by omega) (fun c1 => ?_) (fun c1 => ?_)
    · refine r_iconst (pc := 49) (v := nI 1) dX5_explains_49 rfl ?_
      exact r_zret dX5_explains_50 rfl (by decide) (rfl) rfl
    · exact absurd c1 (by omega)
  | succ z ih =>
    intro i L hi
    refine r_iload_n (pc := 2) dX5_explains_2 rfl ?_
    refine r_aload_n (pc := 3) dX5_explains_3 rfl ?_
    refine r_getV (pc := 4) (v := nI m) dX5_explains_4 fX5_92 rfl rfl (hm) ?_
    refine r_icmpN_ge (pc := 7) (tgt := 49) dX5_explains_7 (by decide) (by omega) (by omega) (fun c2 => ?_) (fun c2 => ?_)
    · exact absurd c2 (by omega)
    · refine r_iload_n (pc := 10) dX5_explains_10 rfl ?_
      refine r_bipush (pc := 11) dX5_explains_11 bp_6 ?_
      refine r_icmpN_ge (pc := 13) (tgt := 49) dX5_explains_13 (by decide) (by omega) (by omega) (fun c3 => ?_) (fun c3 => ?_)
      · exact absurd c3 (by omega)
      · refine r_aload_n (pc := 16) dX5_explains_16 rfl ?_
        refine r_getR (pc := 17) (b := 27) dX5_explains_17 fX5_42 rfl rfl ?_
        refine r_aload_n (pc := 20) dX5_explains_20 rfl ?_
        refine r_getR (pc := 21) (b := 38) dX5_explains_21 fX5_52 rfl rfl ?_
        refine r_iload_n (pc := 24) dX5_explains_24 rfl ?_
        refine r_ialdV (pc := 25) (j := i) (v := nI (fs i)) dX5_explains_25 rfl rfl (by omega) (by decide) ((hsn i (by omega)).1) ?_
        refine r_iload_n (pc := 26) dX5_explains_26 rfl ?_
        refine r_iload_n (pc := 27) dX5_explains_27 rfl ?_
        refine r_callV (pc := 28) (N := mX3_worth) (rest := []) (s_sworth X _ I L s dd (fs i) (nn i) (hsn i (by omega)).2.1 (hsn i (by omega)).2.2.1 (hsn i (by omega)).2.2.2.1 (hsn i (by omega)).2.2.2.2) okX3_worth lkX5_136 rfl (by decide) rfl rfl rfl (Nat.le_of_ble_eq_true rfl) ⟨Nat.le_refl _, Nat.le_refl _⟩ dX5_explains_28 ?_
        refine r_aload_n (pc := 31) dX5_explains_31 rfl ?_
        refine r_getR (pc := 32) (b := 39) dX5_explains_32 fX5_56 rfl rfl ?_
        refine r_iload_n (pc := 35) dX5_explains_35 rfl ?_
        refine r_lald (pc := 36) (j := i) dX5_explains_36 rfl rfl (by omega) (by decide) ?_
        refine r_lc_eq (pc := 37) (tgt := 43) dX5_explains_37 dX5_explains_38 (by decide) (fun c4 => ?_) (fun c4 => ?_)
        · refine r_iinc (pc := 43) (v := nI (i + 1)) (lo1 := [.ref 0, .int (s), .int (dd), .int (nI (i + 1))]) dX5_explains_43 rfl rfl (ii1 _) (by decide) rfl ?_
          refine r_goto (pc := 46) (tgt := 2) dX5_explains_46 (by decide) ?_
          have e9 : exP I s dd nn (z + 1) i L = exP I s dd nn z (i + 1) (t2 L 28 (tb (wO I s dd) (L 28) (nn i + 1))) := if_pos c4
          have h9 := ih (i + 1) (t2 L 28 (tb (wO I s dd) (L 28) (nn i + 1))) (by omega)
          rw [← e9] at h9
          exact h9
        · refine r_iconst (pc := 41) (v := nI 0) dX5_explains_41 rfl ?_
          exact r_zret dX5_explains_42 rfl (by decide) (by rw [show exP I s dd nn (z + 1) i L = (false, (t2 L 28 (tb (wO I s dd) (L 28) (nn i + 1)))) from if_neg c4]; rfl) rfl
theorem s_explains (X : Ctx) (d : Nat) (I : MI) (L : ML) (s dd : Int32) (m : Nat) (fs nn : Nat → Nat) (hm : I 0 11 = nI m) (h6 : m ≤ 6) (hsn : ∀ i, i < m → I 38 i = nI (fs i) ∧ fs i < 4 ∧ I 10 (fs i) = nI (nn i + 1) ∧ nn i + 1 ≤ 80 ∧ ∀ j, j < nn i + 1 → NW I j) : Sp X mX5_explains (d + 5) (0, 0) [.ref 0, .int (s), .int (dd)] shF I L (some (.int (bI (exP I s dd nn m 0 L).1)), shF, I, (exP I s dd nn m 0 L).2) := by
  refine Sp.of okX5_explains [.ref 0, .int (s), .int (dd), .null] 1 rfl (Nat.le_of_ble_eq_true rfl) ?_
  refine r_iconst (pc := 0) (v := nI 0) dX5_explains_0 rfl ?_
  refine r_istore_n (pc := 1) (lo1 := [.ref 0, .int (s), .int (dd), .int (nI 0)]) dX5_explains_1 rfl (by decide) rfl ?_
  exact lp_explains X d I s dd m fs nn hm h6 hsn m 0 L (by omega)
theorem lp_unseen (X : Ctx) (d : Nat) (I : MI) (L : ML) (dd : Int32) (hm1 : ¬ dd < -20) (hm2 : ¬ nI 20 < dd) (m : Nat) (fs nn : Nat → Nat) (hm : I 0 11 = nI m) (h6 : m ≤ 6) (hsn : ∀ i, i < m → I 38 i = nI (fs i) ∧ fs i < 4 ∧ I 10 (fs i) = nI (nn i + 1) ∧ nn i + 1 ≤ 80 ∧ ∀ j, j < nn i + 1 → NW I j) : ∀ (z i : Nat), i + z = 6 → Ev X mX5_unseen (d + 6) (0, 0) (0, 0) (some (.int ((unP I dd nn m L 6).1)), shF, I, (unP I dd nn m L 6).2) 13 [.ref 0, .int (dd), .int ((unP I dd nn m L i).1), .int (nI i)] [] shF I (unP I dd nn m L i).2 := by
  intro z
  induction z with
  | zero =>
    intro i hi
    have hi2 : i = 6 := by omega
    rw [hi2]
    refine r_iload_n (pc := 13) dX5_unseen_13 rfl ?_
    refine r_bipush (pc := 14) dX5_unseen_14 bp_6 ?_
    refine r_icmpN_ge (pc := 16) (tgt := 40) dX5_unseen_16 (by decide) (by omega) (by omega) (fun c1 => ?_) (fun c1 => ?_)
    · refine r_iload_n (pc := 40) dX5_unseen_40 rfl ?_
      exact r_iret dX5_unseen_41 rfl (rfl) rfl
    · exact absurd c1 (by decide)
  | succ z ih =>
    intro i hi
    refine r_iload_n (pc := 13) dX5_unseen_13 rfl ?_
    refine r_bipush (pc := 14) dX5_unseen_14 bp_6 ?_
    refine r_icmpN_ge (pc := 16) (tgt := 40) dX5_unseen_16 (by decide) (by omega) (by omega) (fun c2 => ?_) (fun c2 => ?_)
    · exact absurd c2 (by omega)
    · refine r_aload_n (pc := 19) dX5_unseen_19 rfl ?_
      refine r_iload_n (pc := 20) dX5_unseen_20 rfl ?_
      refine r_iload_n (pc := 21) dX5_unseen_21 rfl ?_
      refine r_callV (pc := 22) (N := mX5_explains) (rest := []) (s_explains X _ I (unP I dd nn m L i).2 (nI i) dd m fs nn hm h6 hsn) okX5_explains lkX5_173 rfl (by decide) rfl rfl rfl (Nat.le_of_ble_eq_true rfl) ⟨Nat.le_refl _, Nat.le_refl _⟩ dX5_unseen_22 ?_
      refine r_ifb_eq (pc := 25) (tgt := 34) dX5_unseen_25 (by decide) (fun c3 => ?_) (fun c3 => ?_)
      · refine r_iinc (pc := 34) (v := nI (i + 1)) (lo1 := [.ref 0, .int (dd), .int ((unP I dd nn m L i).1), .int (nI (i + 1))]) dX5_unseen_34 rfl rfl (ii1 _) (by decide) rfl ?_
        refine r_goto (pc := 37) (tgt := 13) dX5_unseen_37 (by decide) ?_
        refine r_L (L' := (unP I dd nn m L (i + 1)).2) (rfl) ?_
        have e9 : (unP I dd nn m L (i + 1)).1 = (unP I dd nn m L i).1 := if_neg (fun q => Bool.noConfusion (c3.symm.trans q))
        have h9 := ih (i + 1) (by omega)
        rw [e9] at h9
        exact h9
      · refine r_iload_n (pc := 28) dX5_unseen_28 rfl ?_
        refine r_iconst (pc := 29) (v := nI 1) dX5_unseen_29 rfl ?_
        refine r_iload_n (pc := 30) dX5_unseen_30 rfl ?_
        refine r_ishl (pc := 31) dX5_unseen_31 ?_
        refine r_ior (pc := 32) dX5_unseen_32 ?_
        refine r_istore_n (pc := 33) (lo1 := [.ref 0, .int (dd), .int (((unP I dd nn m L i).1) ||| ((nI 1) <<< (nI i &&& 31))), .int (nI i)]) dX5_unseen_33 rfl (by decide) rfl ?_
        refine r_iinc (pc := 34) (v := nI (i + 1)) (lo1 := [.ref 0, .int (dd), .int (((unP I dd nn m L i).1) ||| ((nI 1) <<< (nI i &&& 31))), .int (nI (i + 1))]) dX5_unseen_34 rfl rfl (ii1 _) (by decide) rfl ?_
        refine r_goto (pc := 37) (tgt := 13) dX5_unseen_37 (by decide) ?_
        refine r_L (L' := (unP I dd nn m L (i + 1)).2) (rfl) ?_
        have e9 : (unP I dd nn m L (i + 1)).1 = ((unP I dd nn m L i).1) ||| ((nI 1) <<< (nI i &&& 31)) := if_pos c3
        have h9 := ih (i + 1) (by omega)
        rw [e9] at h9
        exact h9
theorem p_unseen (X : Ctx) (d : Nat) (I : MI) (L : ML) (dd : Int32) (hm1 : ¬ dd < -20) (hm2 : ¬ nI 20 < dd) (m : Nat) (fs nn : Nat → Nat) (hm : I 0 11 = nI m) (h6 : m ≤ 6) (hsn : ∀ i, i < m → I 38 i = nI (fs i) ∧ fs i < 4 ∧ I 10 (fs i) = nI (nn i + 1) ∧ nn i + 1 ≤ 80 ∧ ∀ j, j < nn i + 1 → NW I j) : Sp X mX5_unseen (d + 6) (0, 0) [.ref 0, .int (dd)] shF I L (some (.int ((unP I dd nn m L 6).1)), shF, I, (unP I dd nn m L 6).2) := by
  refine Sp.of okX5_unseen [.ref 0, .int (dd), .null, .null] 2 rfl (Nat.le_of_ble_eq_true rfl) ?_
  refine r_iload_n (pc := 0) dX5_unseen_0 rfl ?_
  refine r_callS (pc := 1) (N := mX5_isMove) (rest := []) (s_isMove_t X _ I L dd hm1 hm2) okX5_isMove lkX5_170 rfl rfl (Nat.le_of_ble_eq_true rfl) ⟨Nat.le_refl _, Nat.le_refl _⟩ dX5_unseen_1 ?_
  refine r_ifN_ne (pc := 4) (tgt := 9) dX5_unseen_4 (by decide) (by omega) (fun c4 => ?_) (fun c4 => ?_)
  · refine r_iconst (pc := 9) (v := nI 0) dX5_unseen_9 rfl ?_
    refine r_istore_n (pc := 10) (lo1 := [.ref 0, .int (dd), .int (nI 0), .null]) dX5_unseen_10 rfl (by decide) rfl ?_
    refine r_iconst (pc := 11) (v := nI 0) dX5_unseen_11 rfl ?_
    refine r_istore_n (pc := 12) (lo1 := [.ref 0, .int (dd), .int (nI 0), .int (nI 0)]) dX5_unseen_12 rfl (by decide) rfl ?_
    exact lp_unseen X d I L dd hm1 hm2 m fs nn hm h6 hsn 6 0 rfl
  · exact absurd c4 (by decide)
theorem p_unseen_f (X : Ctx) (d : Nat) (I : MI) (L : ML) (x : Int32) (hm : x < -20 ∨ nI 20 < x) : Sp X mX5_unseen (d + 1) (0, 0) [.ref 0, .int (x)] shF I L (some (.int (-1)), shF, I, L) := by
  refine Sp.of okX5_unseen [.ref 0, .int (x), .null, .null] 2 rfl (Nat.le_of_ble_eq_true rfl) ?_
  refine r_iload_n (pc := 0) dX5_unseen_0 rfl ?_
  refine r_callS (pc := 1) (N := mX5_isMove) (rest := []) (s_isMove_f X _ I L x hm) okX5_isMove lkX5_170 rfl rfl (Nat.le_of_ble_eq_true rfl) ⟨Nat.le_refl _, Nat.le_refl _⟩ dX5_unseen_1 ?_
  refine r_ifN_ne (pc := 4) (tgt := 9) dX5_unseen_4 (by decide) (by omega) (fun c1 => ?_) (fun c1 => ?_)
  · exact absurd c1 (by decide)
  · refine r_iconst (pc := 7) (v := -1) dX5_unseen_7 rfl ?_
    exact r_iret dX5_unseen_8 rfl (rfl) rfl
