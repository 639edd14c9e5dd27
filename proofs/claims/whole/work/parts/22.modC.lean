theorem MR_of {I I' : MI} {F : Nat} {sz : Nat → Nat} {nd : Nat → Nat → Nat × Nat × Nat × Nat} (hR : MR I F sz nd) (h8 : I' 42 8 = I 42 8) (h : ∀ c, 44 ≤ c → c ≤ 48 → I' c = I c) : MR I' F sz nd := by
  obtain ⟨h1, h2, h3⟩ := hR
  refine ⟨by rw [h8]; exact h1, h2, fun f hf => ?_⟩
  obtain ⟨g1, g2, g3, g4⟩ := h3 f hf
  refine ⟨by rw [h 44 (by decide) (by decide)]; exact g1, g2, g3, fun e he => ?_⟩
  obtain ⟨k1, k2, k3, k4, k5, k6⟩ := g4 e he
  exact ⟨k1, by rw [h 45 (by decide) (by decide)]; exact k2, by rw [h 46 (by decide) (by decide)]; exact k3, fun q => by rw [h 47 (by decide) (by decide)]; exact k4 q, fun q => by rw [h 48 (by decide) (by decide)]; exact k5 q, fun q => by rw [h 48 (by decide) (by decide)]; exact k6 q⟩
theorem MR_th {I : MI} {F : Nat} {sz : Nat → Nat} {nd : Nat → Nat → Nat × Nat × Nat × Nat} {x : Int32} (hR : MR I F sz nd) : MR (u2 I 42 0 x) F sz nd := MR_of hR rfl fun c h1 h2 => u2_off (by omega)
theorem MR_55 {I : MI} {F : Nat} {sz : Nat → Nat} {nd : Nat → Nat → Nat × Nat × Nat × Nat} {j : Nat} {x : Int32} (hR : MR I F sz nd) : MR (u2 I 55 j x) F sz nd := MR_of hR rfl fun c h1 h2 => u2_off (by omega)
theorem u2_back (I : MI) (c j : Nat) (x y : Int32) (h : y = I c j) : u2 (u2 I c j x) c j y = I := by
  subst h
  funext c' j'
  unfold u2 upd
  by_cases h1 : c' = c
  · subst h1
    rw [if_pos rfl, if_pos rfl]
    by_cases h2 : j' = j
    · rw [if_pos h2, h2]
    · rw [if_neg h2, if_neg h2]
  · rw [if_neg h1, if_neg h1]
theorem u2_at (I : MI) (c j : Nat) (x : Int32) : u2 I c j x c j = x := by
  unfold u2 upd
  rw [if_pos rfl, if_pos rfl]
theorem onP_le : ∀ (m : Nat) (r : Int32), onP m r ≤ m
  | 0, _ => Nat.le_refl 0
  | m + 1, r => by
    unfold onP
    split
    · exact Nat.zero_le _
    · have := onP_le m (r &&& (r - nI 1)); omega
theorem onT_64 {i : Nat} (h : i < 64) : onT 7 (nI i) = true := co_dec (N := 64) (P := fun i => onT 7 (nI i) = true) (by decide +kernel) h
def fwM (a : Nat → Int64) (J : Nat → Nat → Int32) (lim : Int64) : Nat → Int32
  | 0 => -9
  | s + 1 => if fwM a J lim s = -9 then (if toO a a J (nI s) 6 ≤ lim then nI s else fwM a J lim s) else if 0 + onP 7 (fwM a J lim s) ≤ 0 + onP 7 (nI s) then fwM a J lim s else (if toO a a J (nI s) 6 ≤ lim then nI s else fwM a J lim s)
theorem fwM_is (a : Nat → Int64) (J : Nat → Nat → Int32) (lim : Int64) : ∀ s, fwM a J lim s = -9 ∨ ∃ m, m < s ∧ fwM a J lim s = nI m
  | 0 => Or.inl rfl
  | s + 1 => by
    have ih := fwM_is a J lim s
    have keep : fwM a J lim s = -9 ∨ ∃ m, m < s + 1 ∧ fwM a J lim s = nI m := ih.imp id (fun ⟨m, h1, h2⟩ => ⟨m, by omega, h2⟩)
    unfold fwM
    repeat' split
    all_goals first | exact keep | exact Or.inr ⟨s, by omega, rfl⟩
theorem fwM_on {a : Nat → Int64} {J : Nat → Nat → Int32} {lim : Int64} {s : Nat} (hs : s ≤ 64) (h : ¬ fwM a J lim s = -9) : onT 7 (fwM a J lim s) = true := by
  rcases fwM_is a J lim s with q | ⟨m, h1, h2⟩
  · exact absurd q h
  · rw [h2]; exact onT_64 (by omega)
def fiM (g : Nat → Int64) : Nat → Int32 × Int64
  | 0 => (nI 0, 0)
  | s + 1 => if s = 0 then (nI s, g s) else if (fiM g s).2 < g s then (nI s, g s) else fiM g s
def exM (I : MI) (F : Nat) (sz : Nat → Nat) (nd : Nat → Nat → Nat × Nat × Nat × Nat) (fs : Nat → Nat) (x : Nat) (dd : Int32) (L : ML) : Nat → Bool × ML
  | 0 => (true, L)
  | k + 1 => if (exM I F sz nd fs x dd L k).1 = true then (decide (goL (upd (I 55) x (I 55 x + dd)) sz nd (exM I F sz nd fs x dd L k).2 F 63 (20 * fs k + sz (fs k) - 1) = goL (upd (I 55) x (I 55 x + dd)) sz nd (exM I F sz nd fs x dd L k).2 F 60 k), goL (upd (I 55) x (I 55 x + dd)) sz nd (exM I F sz nd fs x dd L k).2 F) else exM I F sz nd fs x dd L k
def unM (I : MI) (F : Nat) (sz : Nat → Nat) (nd : Nat → Nat → Nat × Nat × Nat × Nat) (fs : Nat → Nat) (m : Nat) (dd : Int32) (L : ML) : Nat → Int32 × ML
  | 0 => (nI 0, L)
  | x + 1 => ((unM I F sz nd fs m dd L x).1 ||| (if (exM I F sz nd fs x dd (unM I F sz nd fs m dd L x).2 m).1 = true then nI 1 <<< (nI x &&& 31) else nI 0), (exM I F sz nd fs x dd (unM I F sz nd fs m dd L x).2 m).2)
theorem s_isFormula_t (X : Ctx) (d : Nat) (I : MI) (L : ML) (F k : Nat) (hF : I 42 8 = nI F) (hk : k < F) (hF4 : F ≤ 4) : Sp X mX6_isFormula (d + 1) (0, 0) [.ref 42, .int (nI k)] shF I L (some (.int (nI 1)), shF, I, L) := by
  refine Sp.of okX6_isFormula [.ref 42, .int (nI k)] 0 rfl (Nat.le_of_ble_eq_true rfl) ?_
  refine r_iload_n (pc := 0) dX6_isFormula_0 rfl ?_
  refine r_iconst (pc := 1) (v := nI 0) dX6_isFormula_1 rfl ?_
  refine r_aload_n (pc := 2) dX6_isFormula_2 rfl ?_
  refine r_getV (pc := 3) (v := nI F) dX6_isFormula_3 fX6_199 rfl rfl (hF) ?_
  refine r_iconst (pc := 6) (v := nI 1) dX6_isFormula_6 rfl ?_
  refine r_isubN (pc := 7) dX6_isFormula_7 (by omega) ?_
  refine r_callS (pc := 8) (N := mX6_in) (rest := []) (s_in_t X _ I L (nI k) (nI 0) (nI (F - 1)) (nI_nlt (by omega) (by omega)) (nI_nlt (by omega) (by omega))) okX6_in lkX6_97 rfl rfl (Nat.le_of_ble_eq_true rfl) ⟨Nat.le_refl _, Nat.le_refl _⟩ dX6_isFormula_8 ?_
  exact r_zret dX6_isFormula_11 rfl (by decide) (rfl) rfl
theorem s_isFormula_f (X : Ctx) (d : Nat) (I : MI) (L : ML) (F : Nat) (f : Int32) (hF : I 42 8 = nI F) (h : f < nI 0 ∨ nI F - nI 1 < f) : Sp X mX6_isFormula (d + 1) (0, 0) [.ref 42, .int (f)] shF I L (some (.int (nI 0)), shF, I, L) := by
  refine Sp.of okX6_isFormula [.ref 42, .int (f)] 0 rfl (Nat.le_of_ble_eq_true rfl) ?_
  refine r_iload_n (pc := 0) dX6_isFormula_0 rfl ?_
  refine r_iconst (pc := 1) (v := nI 0) dX6_isFormula_1 rfl ?_
  refine r_aload_n (pc := 2) dX6_isFormula_2 rfl ?_
  refine r_getV (pc := 3) (v := nI F) dX6_isFormula_3 fX6_199 rfl rfl (hF) ?_
  refine r_iconst (pc := 6) (v := nI 1) dX6_isFormula_6 rfl ?_
  refine r_isub (pc := 7) dX6_isFormula_7 ?_
  refine r_callS (pc := 8) (N := mX6_in) (rest := []) (s_in_f X _ I L f (nI 0) ((nI F) - (nI 1)) h) okX6_in lkX6_97 rfl rfl (Nat.le_of_ble_eq_true rfl) ⟨Nat.le_refl _, Nat.le_refl _⟩ dX6_isFormula_8 ?_
  exact r_zret dX6_isFormula_11 rfl (by decide) (rfl) rfl
theorem s_misSource_t (X : Ctx) (d : Nat) (I : MI) (L : ML) (j : Nat) (hj : j < 6) : Sp X mX6_isSource (d + 1) (0, 0) [.int (nI j)] shF I L (some (.int (nI 1)), shF, I, L) := by
  refine Sp.of okX6_isSource [.int (nI j)] 0 rfl (Nat.le_of_ble_eq_true rfl) ?_
  refine r_iload_n (pc := 0) dX6_isSource_0 rfl ?_
  refine r_iconst (pc := 1) (v := nI 0) dX6_isSource_1 rfl ?_
  refine r_iconst (pc := 2) (v := nI 5) dX6_isSource_2 rfl ?_
  refine r_callS (pc := 3) (N := mX6_in) (rest := []) (s_in_t X _ I L (nI j) (nI 0) (nI 5) (nI_nlt (by omega) (by omega)) (nI_nlt (by omega) (by omega))) okX6_in lkX6_97 rfl rfl (Nat.le_of_ble_eq_true rfl) ⟨Nat.le_refl _, Nat.le_refl _⟩ dX6_isSource_3 ?_
  exact r_zret dX6_isSource_6 rfl (by decide) (rfl) rfl
theorem s_misSource_f (X : Ctx) (d : Nat) (I : MI) (L : ML) (s : Int32) (h : s < nI 0 ∨ nI 5 < s) : Sp X mX6_isSource (d + 1) (0, 0) [.int (s)] shF I L (some (.int (nI 0)), shF, I, L) := by
  refine Sp.of okX6_isSource [.int (s)] 0 rfl (Nat.le_of_ble_eq_true rfl) ?_
  refine r_iload_n (pc := 0) dX6_isSource_0 rfl ?_
  refine r_iconst (pc := 1) (v := nI 0) dX6_isSource_1 rfl ?_
  refine r_iconst (pc := 2) (v := nI 5) dX6_isSource_2 rfl ?_
  refine r_callS (pc := 3) (N := mX6_in) (rest := []) (s_in_f X _ I L s (nI 0) (nI 5) h) okX6_in lkX6_97 rfl rfl (Nat.le_of_ble_eq_true rfl) ⟨Nat.le_refl _, Nat.le_refl _⟩ dX6_isSource_3 ?_
  exact r_zret dX6_isSource_6 rfl (by decide) (rfl) rfl
theorem q_value (X : Ctx) (d : Nat) (I : MI) (L : ML) (F : Nat) (sz : Nat → Nat) (nd : Nat → Nat → Nat × Nat × Nat × Nat) (hR : MR I F sz nd) (k : Nat) (hk : k < F) : Sp X mX6_value (d + 3) (0, 0) [.ref 42, .int (nI k)] shF I L (some (.long ((goL (I 55) sz nd L F) 63 (20 * k + sz k - 1))), shF, (u2 I 42 0 (nI 0)), (goL (I 55) sz nd L F)) := by
  obtain ⟨hF, hF4, hall⟩ := id hR
  obtain ⟨hs, hs1, hs20, -⟩ := hall k hk
  refine Sp.of okX6_value [.ref 42, .int (nI k)] 0 rfl (Nat.le_of_ble_eq_true rfl) ?_
  refine r_aload_n (pc := 0) dX6_value_0 rfl ?_
  refine r_iconst (pc := 1) (v := nI 0) dX6_value_1 rfl ?_
  refine r_put (pc := 2) .int dX6_value_2 fX6_93 rfl rfl nf6_0 rfl rfl ?_
  refine r_aload_n (pc := 5) dX6_value_5 rfl ?_
  refine r_iload_n (pc := 6) dX6_value_6 rfl ?_
  refine r_callV (pc := 7) (N := mX6_isFormula) (rest := []) (s_isFormula_t X _ (u2 I 42 0 (nI 0)) L F k (hF) (by omega) hF4) okX6_isFormula lkX6_243 rfl (by decide) rfl rfl rfl (Nat.le_of_ble_eq_true rfl) ⟨Nat.le_refl _, Nat.le_refl _⟩ dX6_value_7 ?_
  refine r_ifN_ne (pc := 10) (tgt := 17) dX6_value_10 (by decide) (by omega) (fun c1 => ?_) (fun c1 => ?_)
  · refine r_aload_n (pc := 17) dX6_value_17 rfl ?_
    refine r_callV (pc := 18) (N := mX6_goes) (rest := []) (s_goes X _ (u2 I 42 0 (nI 0)) L F sz nd (MR_th hR) (hF) hF4) okX6_goes lkX6_246 rfl (by decide) rfl rfl rfl (Nat.le_of_ble_eq_true rfl) ⟨Nat.le_refl _, Nat.le_refl _⟩ dX6_value_18 ?_
    refine r_aload_n (pc := 21) dX6_value_21 rfl ?_
    refine r_getR (pc := 22) (b := 63) dX6_value_22 fX6_72 rfl rfl ?_
    refine r_aload_n (pc := 25) dX6_value_25 rfl ?_
    refine r_iload_n (pc := 26) dX6_value_26 rfl ?_
    refine r_callV (pc := 27) (N := mX6_rootOf) (rest := [.ref 63]) (s_mroot X _ (u2 I 42 0 (nI 0)) (goL (I 55) sz nd L F) k (sz k) (by omega) (hs) hs1 hs20) okX6_rootOf lkX6_229 rfl (by decide) rfl rfl rfl (Nat.le_of_ble_eq_true rfl) ⟨Nat.le_refl _, Nat.le_refl _⟩ dX6_value_27 ?_
    refine r_lald (pc := 30) (j := 20 * k + sz k - 1) dX6_value_30 rfl rfl (by omega) (by decide) ?_
    exact r_lret dX6_value_31 rfl (rfl) rfl
  · exact absurd c1 (by decide)
theorem s_mslopeOf (X : Ctx) (d : Nat) (I : MI) (L : ML) (F : Nat) (sz : Nat → Nat) (nd : Nat → Nat → Nat × Nat × Nat × Nat) (hR : MR I F sz nd) (k : Nat) (hk : k < F) (x : Nat) (hx : x < 6) : Sp X mX6_slopeOf (d + 1) (0, 0) [.ref 42, .int (nI k), .int (nI x)] shF I L (some (.long (L 64 (6 * (20 * k + sz k - 1) + x))), shF, I, L) := by
  obtain ⟨hF, hF4, hall⟩ := id hR
  obtain ⟨hs, hs1, hs20, -⟩ := hall k hk
  refine Sp.of okX6_slopeOf [.ref 42, .int (nI k), .int (nI x)] 0 rfl (Nat.le_of_ble_eq_true rfl) ?_
  refine r_aload_n (pc := 0) dX6_slopeOf_0 rfl ?_
  refine r_getR (pc := 1) (b := 64) dX6_slopeOf_1 fX6_75 rfl rfl ?_
  refine r_bipush (pc := 4) dX6_slopeOf_4 bp_6 ?_
  refine r_aload_n (pc := 6) dX6_slopeOf_6 rfl ?_
  refine r_iload_n (pc := 7) dX6_slopeOf_7 rfl ?_
  refine r_callV (pc := 8) (N := mX6_rootOf) (rest := [.int (nI 6), .ref 64]) (s_mroot X _ I L k (sz k) (by omega) (hs) hs1 hs20) okX6_rootOf lkX6_229 rfl (by decide) rfl rfl rfl (Nat.le_of_ble_eq_true rfl) ⟨Nat.le_refl _, Nat.le_refl _⟩ dX6_slopeOf_8 ?_
  refine r_imulN (pc := 11) dX6_slopeOf_11 ?_
  refine r_iload_n (pc := 12) dX6_slopeOf_12 rfl ?_
  refine r_iaddN (pc := 13) dX6_slopeOf_13 ?_
  refine r_lald (pc := 14) (j := (6 * (20 * k + sz k - 1)) + x) dX6_slopeOf_14 rfl rfl (by omega) (by decide) ?_
  exact r_lret dX6_slopeOf_15 rfl (rfl) rfl
theorem q_slope (X : Ctx) (d : Nat) (I : MI) (L : ML) (F : Nat) (sz : Nat → Nat) (nd : Nat → Nat → Nat × Nat × Nat × Nat) (hR : MR I F sz nd) (k : Nat) (hk : k < F) (x : Nat) (hx : x < 6) : Sp X mX6_slope (d + 3) (0, 0) [.ref 42, .int (nI k), .int (nI x)] shF I L (some (.long ((goL (I 55) sz nd L F) 64 (6 * (20 * k + sz k - 1) + x))), shF, (u2 I 42 0 (nI 0)), (goL (I 55) sz nd L F)) := by
  obtain ⟨hF, hF4, hall⟩ := id hR
  obtain ⟨hs, hs1, hs20, -⟩ := hall k hk
  refine Sp.of okX6_slope [.ref 42, .int (nI k), .int (nI x)] 0 rfl (Nat.le_of_ble_eq_true rfl) ?_
  refine r_aload_n (pc := 0) dX6_slope_0 rfl ?_
  refine r_iconst (pc := 1) (v := nI 0) dX6_slope_1 rfl ?_
  refine r_put (pc := 2) .int dX6_slope_2 fX6_93 rfl rfl nf6_0 rfl rfl ?_
  refine r_aload_n (pc := 5) dX6_slope_5 rfl ?_
  refine r_iload_n (pc := 6) dX6_slope_6 rfl ?_
  refine r_callV (pc := 7) (N := mX6_isFormula) (rest := []) (s_isFormula_t X _ (u2 I 42 0 (nI 0)) L F k (hF) (by omega) hF4) okX6_isFormula lkX6_243 rfl (by decide) rfl rfl rfl (Nat.le_of_ble_eq_true rfl) ⟨Nat.le_refl _, Nat.le_refl _⟩ dX6_slope_7 ?_
  refine r_ifN_eq (pc := 10) (tgt := 20) dX6_slope_10 (by decide) (by omega) (fun c1 => ?_) (fun c1 => ?_)
  · exact absurd c1 (by decide)
  · refine r_iload_n (pc := 13) dX6_slope_13 rfl ?_
    refine r_callS (pc := 14) (N := mX6_isSource) (rest := []) (s_misSource_t X _ (u2 I 42 0 (nI 0)) L x (by omega)) okX6_isSource lkX6_208 rfl rfl (Nat.le_of_ble_eq_true rfl) ⟨Nat.le_refl _, Nat.le_refl _⟩ dX6_slope_14 ?_
    refine r_ifN_ne (pc := 17) (tgt := 24) dX6_slope_17 (by decide) (by omega) (fun c2 => ?_) (fun c2 => ?_)
    · refine r_aload_n (pc := 24) dX6_slope_24 rfl ?_
      refine r_callV (pc := 25) (N := mX6_goes) (rest := []) (s_goes X _ (u2 I 42 0 (nI 0)) L F sz nd (MR_th hR) (hF) hF4) okX6_goes lkX6_246 rfl (by decide) rfl rfl rfl (Nat.le_of_ble_eq_true rfl) ⟨Nat.le_refl _, Nat.le_refl _⟩ dX6_slope_25 ?_
      refine r_aload_n (pc := 28) dX6_slope_28 rfl ?_
      refine r_iload_n (pc := 29) dX6_slope_29 rfl ?_
      refine r_iload_n (pc := 30) dX6_slope_30 rfl ?_
      refine r_callV (pc := 31) (N := mX6_slopeOf) (rest := []) (s_mslopeOf X _ (u2 I 42 0 (nI 0)) (goL (I 55) sz nd L F) F sz nd (MR_th hR) k hk x (by omega)) okX6_slopeOf lkX6_249 rfl (by decide) rfl rfl rfl (Nat.le_of_ble_eq_true rfl) ⟨Nat.le_refl _, Nat.le_refl _⟩ dX6_slope_31 ?_
      exact r_lret dX6_slope_34 rfl (rfl) rfl
    · exact absurd c2 (by decide)
theorem q_bend (X : Ctx) (d : Nat) (I : MI) (L : ML) (F : Nat) (sz : Nat → Nat) (nd : Nat → Nat → Nat × Nat × Nat × Nat) (hR : MR I F sz nd) (k : Nat) (hk : k < F) (x y : Nat) (hx : x < 6) (hy : y < 6) : Sp X mX6_bend (d + 3) (0, 0) [.ref 42, .int (nI k), .int (nI x), .int (nI y)] shF I L (some (.long ((goL (I 55) sz nd L F) 65 (36 * (20 * k + sz k - 1) + 6 * x + y))), shF, (u2 I 42 0 (nI 0)), (goL (I 55) sz nd L F)) := by
  obtain ⟨hF, hF4, hall⟩ := id hR
  obtain ⟨hs, hs1, hs20, -⟩ := hall k hk
  refine Sp.of okX6_bend [.ref 42, .int (nI k), .int (nI x), .int (nI y)] 0 rfl (Nat.le_of_ble_eq_true rfl) ?_
  refine r_aload_n (pc := 0) dX6_bend_0 rfl ?_
  refine r_iconst (pc := 1) (v := nI 0) dX6_bend_1 rfl ?_
  refine r_put (pc := 2) .int dX6_bend_2 fX6_93 rfl rfl nf6_0 rfl rfl ?_
  refine r_aload_n (pc := 5) dX6_bend_5 rfl ?_
  refine r_iload_n (pc := 6) dX6_bend_6 rfl ?_
  refine r_callV (pc := 7) (N := mX6_isFormula) (rest := []) (s_isFormula_t X _ (u2 I 42 0 (nI 0)) L F k (hF) (by omega) hF4) okX6_isFormula lkX6_243 rfl (by decide) rfl rfl rfl (Nat.le_of_ble_eq_true rfl) ⟨Nat.le_refl _, Nat.le_refl _⟩ dX6_bend_7 ?_
  refine r_ifN_eq (pc := 10) (tgt := 27) dX6_bend_10 (by decide) (by omega) (fun c1 => ?_) (fun c1 => ?_)
  · exact absurd c1 (by decide)
  · refine r_iload_n (pc := 13) dX6_bend_13 rfl ?_
    refine r_callS (pc := 14) (N := mX6_isSource) (rest := []) (s_misSource_t X _ (u2 I 42 0 (nI 0)) L x (by omega)) okX6_isSource lkX6_208 rfl rfl (Nat.le_of_ble_eq_true rfl) ⟨Nat.le_refl _, Nat.le_refl _⟩ dX6_bend_14 ?_
    refine r_ifN_eq (pc := 17) (tgt := 27) dX6_bend_17 (by decide) (by omega) (fun c2 => ?_) (fun c2 => ?_)
    · exact absurd c2 (by decide)
    · refine r_iload_n (pc := 20) dX6_bend_20 rfl ?_
      refine r_callS (pc := 21) (N := mX6_isSource) (rest := []) (s_misSource_t X _ (u2 I 42 0 (nI 0)) L y (by omega)) okX6_isSource lkX6_208 rfl rfl (Nat.le_of_ble_eq_true rfl) ⟨Nat.le_refl _, Nat.le_refl _⟩ dX6_bend_21 ?_
      refine r_ifN_ne (pc := 24) (tgt := 31) dX6_bend_24 (by decide) (by omega) (fun c3 => ?_) (fun c3 => ?_)
      · refine r_aload_n (pc := 31) dX6_bend_31 rfl ?_
        refine r_callV (pc := 32) (N := mX6_goes) (rest := []) (s_goes X _ (u2 I 42 0 (nI 0)) L F sz nd (MR_th hR) (hF) hF4) okX6_goes lkX6_246 rfl (by decide) rfl rfl rfl (Nat.le_of_ble_eq_true rfl) ⟨Nat.le_refl _, Nat.le_refl _⟩ dX6_bend_32 ?_
        refine r_aload_n (pc := 35) dX6_bend_35 rfl ?_
        refine r_getR (pc := 36) (b := 65) dX6_bend_36 fX6_78 rfl rfl ?_
        refine r_bipush (pc := 39) dX6_bend_39 bp_36 ?_
        refine r_aload_n (pc := 41) dX6_bend_41 rfl ?_
        refine r_iload_n (pc := 42) dX6_bend_42 rfl ?_
        refine r_callV (pc := 43) (N := mX6_rootOf) (rest := [.int (nI 36), .ref 65]) (s_mroot X _ (u2 I 42 0 (nI 0)) (goL (I 55) sz nd L F) k (sz k) (by omega) (hs) hs1 hs20) okX6_rootOf lkX6_229 rfl (by decide) rfl rfl rfl (Nat.le_of_ble_eq_true rfl) ⟨Nat.le_refl _, Nat.le_refl _⟩ dX6_bend_43 ?_
        refine r_imulN (pc := 46) dX6_bend_46 ?_
        refine r_bipush (pc := 47) dX6_bend_47 bp_6 ?_
        refine r_iload_n (pc := 49) dX6_bend_49 rfl ?_
        refine r_imulN (pc := 50) dX6_bend_50 ?_
        refine r_iaddN (pc := 51) dX6_bend_51 ?_
        refine r_iload_n (pc := 52) dX6_bend_52 rfl ?_
        refine r_iaddN (pc := 53) dX6_bend_53 ?_
        refine r_lald (pc := 54) (j := ((36 * (20 * k + sz k - 1)) + (6 * x)) + y) dX6_bend_54 rfl rfl (by omega) (by decide) ?_
        exact r_lret dX6_bend_55 rfl (rfl) rfl
      · exact absurd c3 (by decide)
theorem s_jointOf (X : Ctx) (d : Nat) (I : MI) (L : ML) (x y : Nat) (hx : x < 6) (hy : y < 6) : Sp X mX6_jointOf (d + 0) (0, 0) [.ref 42, .int (nI x), .int (nI y)] shF I L (some (.int (jO I x y)), shF, I, L) := by
  refine Sp.of okX6_jointOf [.ref 42, .int (nI x), .int (nI y)] 0 rfl (Nat.le_of_ble_eq_true rfl) ?_
  refine r_iload_n (pc := 0) dX6_jointOf_0 rfl ?_
  refine r_iload_n (pc := 1) dX6_jointOf_1 rfl ?_
  refine r_icmpN_ne (pc := 2) (tgt := 17) dX6_jointOf_2 (by decide) (by omega) (by omega) (fun c1 => ?_) (fun c1 => ?_)
  · refine r_aload_n (pc := 17) dX6_jointOf_17 rfl ?_
    refine r_getR (pc := 18) (b := 55) dX6_jointOf_18 fX6_46 rfl rfl ?_
    refine r_bipush (pc := 21) dX6_jointOf_21 bp_12 ?_
    refine r_bipush (pc := 23) dX6_jointOf_23 bp_6 ?_
    refine r_iload_n (pc := 25) dX6_jointOf_25 rfl ?_
    refine r_imulN (pc := 26) dX6_jointOf_26 ?_
    refine r_iaddN (pc := 27) dX6_jointOf_27 ?_
    refine r_iload_n (pc := 28) dX6_jointOf_28 rfl ?_
    refine r_iaddN (pc := 29) dX6_jointOf_29 ?_
    refine r_iald (pc := 30) (j := (12 + (6 * x)) + y) dX6_jointOf_30 rfl rfl (by omega) (by decide) ?_
    exact r_iret dX6_jointOf_31 rfl (by rw [show jO I x y = _ from if_neg c1]) rfl
  · refine r_aload_n (pc := 5) dX6_jointOf_5 rfl ?_
    refine r_getR (pc := 6) (b := 55) dX6_jointOf_6 fX6_46 rfl rfl ?_
    refine r_bipush (pc := 9) dX6_jointOf_9 bp_6 ?_
    refine r_iload_n (pc := 11) dX6_jointOf_11 rfl ?_
    refine r_iaddN (pc := 12) dX6_jointOf_12 ?_
    refine r_iald (pc := 13) (j := 6 + x) dX6_jointOf_13 rfl rfl (by omega) (by decide) ?_
    refine r_goto (pc := 14) (tgt := 31) dX6_jointOf_14 (by decide) ?_
    exact r_iret dX6_jointOf_31 rfl (by rw [show jO I x y = _ from if_pos c1]) rfl
theorem lp_together_same_in (X : Ctx) (d : Nat) (I : MI) (L : ML) (F : Nat) (sz : Nat → Nat) (nd : Nat → Nat → Nat × Nat × Nat × Nat) (hR : MR I F sz nd) (k : Nat) (hk : k < F) (sure : Int32) (x : Nat) (hx : x < 6) (acc : Int64) (T : TR) (K : Ev X mX6_togetherOf (d + 2) (0, 0) (0, 0) T 6 [.ref 42, .int (nI k), .int (nI k), .int (sure), .long (toI (fun x => L 64 (6 * (20 * k + sz k - 1) + x)) (fun x => L 64 (6 * (20 * k + sz k - 1) + x)) (jO I) sure x (acc) 6), .null, .int (nI (x + 1)), .null] [] shF I L) : ∀ (z i : Nat), i + z = 6 → Ev X mX6_togetherOf (d + 2) (0, 0) (0, 0) T 16 [.ref 42, .int (nI k), .int (nI k), .int (sure), .long (toI (fun x => L 64 (6 * (20 * k + sz k - 1) + x)) (fun x => L 64 (6 * (20 * k + sz k - 1) + x)) (jO I) sure x (acc) i), .null, .int (nI x), .int (nI i)] [] shF I L := by
  intro z
  induction z with
  | zero =>
    intro i hi
    obtain ⟨hF, hF4, hall⟩ := id hR
    obtain ⟨hs, hs1, hs20, -⟩ := hall k hk
    have hi2 : i = 6 := by omega
    rw [hi2]
    refine r_iload (pc := 16) dX6_togetherOf_16 rfl ?_
    refine r_bipush (pc := 18) dX6_togetherOf_18 bp_6 ?_
    refine r_icmpN_ge (pc := 20) (tgt := 81) dX6_togetherOf_20 (by decide) (by omega) (by omega) (fun c1 => ?_) (fun c1 => ?_)
    · refine r_iinc (pc := 81) (v := nI (x + 1)) (lo1 := [.ref 42, .int (nI k), .int (nI k), .int (sure), .long (toI (fun x => L 64 (6 * (20 * k + sz k - 1) + x)) (fun x => L 64 (6 * (20 * k + sz k - 1) + x)) (jO I) sure x (acc) 6), .null, .int (nI (x + 1)), .int (nI 6)]) dX6_togetherOf_81 rfl rfl (ii1 _) (by decide) rfl ?_
      refine r_goto (pc := 84) (tgt := 6) dX6_togetherOf_84 (by decide) ?_
      refine r_drop (lo1 := [.ref 42, .int (nI k), .int (nI k), .int (sure), .long (toI (fun x => L 64 (6 * (20 * k + sz k - 1) + x)) (fun x => L 64 (6 * (20 * k + sz k - 1) + x)) (jO I) sure x (acc) 6), .null, .int (nI (x + 1)), .null]) 7 rfl ?_
      exact K
    · exact absurd c1 (by decide)
  | succ z ih =>
    intro i hi
    obtain ⟨hF, hF4, hall⟩ := id hR
    obtain ⟨hs, hs1, hs20, -⟩ := hall k hk
    refine r_iload (pc := 16) dX6_togetherOf_16 rfl ?_
    refine r_bipush (pc := 18) dX6_togetherOf_18 bp_6 ?_
    refine r_icmpN_ge (pc := 20) (tgt := 81) dX6_togetherOf_20 (by decide) (by omega) (by omega) (fun c2 => ?_) (fun c2 => ?_)
    · exact absurd c2 (by omega)
    · refine r_lload (pc := 23) dX6_togetherOf_23 rfl ?_
      refine r_iload_n (pc := 25) dX6_togetherOf_25 rfl ?_
      refine r_iload (pc := 26) dX6_togetherOf_26 rfl ?_
      refine r_callS (pc := 28) (N := mX6_has) (rest := [.long (toI (fun x => L 64 (6 * (20 * k + sz k - 1) + x)) (fun x => L 64 (6 * (20 * k + sz k - 1) + x)) (jO I) sure x (acc) i)]) (s_has X _ I L sure (nI x)) okX6_has lkX6_253 rfl rfl (Nat.le_of_ble_eq_true rfl) ⟨Nat.le_refl _, Nat.le_refl _⟩ dX6_togetherOf_28 ?_
      refine r_ifb_ne (pc := 31) (tgt := 43) dX6_togetherOf_31 (by decide) (fun c3 => ?_) (fun c3 => ?_)
      · refine r_lconst (pc := 43) (v := 0) dX6_togetherOf_43 rfl ?_
        refine r_goto (pc := 44) (tgt := 72) dX6_togetherOf_44 (by decide) ?_
        refine r_ladd (pc := 72) dX6_togetherOf_72 ?_
        refine r_lstore (pc := 73) (lo1 := [.ref 42, .int (nI k), .int (nI k), .int (sure), .long ((toI (fun x => L 64 (6 * (20 * k + sz k - 1) + x)) (fun x => L 64 (6 * (20 * k + sz k - 1) + x)) (jO I) sure x (acc) i) + 0), .null, .int (nI x), .int (nI i)]) dX6_togetherOf_73 rfl (by decide) rfl ?_
        refine r_iinc (pc := 75) (v := nI (i + 1)) (lo1 := [.ref 42, .int (nI k), .int (nI k), .int (sure), .long ((toI (fun x => L 64 (6 * (20 * k + sz k - 1) + x)) (fun x => L 64 (6 * (20 * k + sz k - 1) + x)) (jO I) sure x (acc) i) + 0), .null, .int (nI x), .int (nI (i + 1))]) dX6_togetherOf_75 rfl rfl (ii1 _) (by decide) rfl ?_
        refine r_goto (pc := 78) (tgt := 16) dX6_togetherOf_78 (by decide) ?_
        have e9 : toI (fun x => L 64 (6 * (20 * k + sz k - 1) + x)) (fun x => L 64 (6 * (20 * k + sz k - 1) + x)) (jO I) sure x (acc) (i + 1) = (toI (fun x => L 64 (6 * (20 * k + sz k - 1) + x)) (fun x => L 64 (6 * (20 * k + sz k - 1) + x)) (jO I) sure x (acc) i) + 0 := congrArg (fun z => toI (fun x => L 64 (6 * (20 * k + sz k - 1) + x)) (fun x => L 64 (6 * (20 * k + sz k - 1) + x)) (jO I) sure x (acc) i + z) (if_pos c3)
        have h9 := ih (i + 1) (by omega)
        rw [e9] at h9
        exact h9
      · refine r_iload_n (pc := 34) dX6_togetherOf_34 rfl ?_
        refine r_iload (pc := 35) dX6_togetherOf_35 rfl ?_
        refine r_callS (pc := 37) (N := mX6_has) (rest := [.long (toI (fun x => L 64 (6 * (20 * k + sz k - 1) + x)) (fun x => L 64 (6 * (20 * k + sz k - 1) + x)) (jO I) sure x (acc) i)]) (s_has X _ I L sure (nI i)) okX6_has lkX6_253 rfl rfl (Nat.le_of_ble_eq_true rfl) ⟨Nat.le_refl _, Nat.le_refl _⟩ dX6_togetherOf_37 ?_
        refine r_ifb_eq (pc := 40) (tgt := 47) dX6_togetherOf_40 (by decide) (fun c4 => ?_) (fun c4 => ?_)
        · refine r_aload_n (pc := 47) dX6_togetherOf_47 rfl ?_
          refine r_iload_n (pc := 48) dX6_togetherOf_48 rfl ?_
          refine r_iload (pc := 49) dX6_togetherOf_49 rfl ?_
          refine r_callV (pc := 51) (N := mX6_slopeOf) (rest := [.long (toI (fun x => L 64 (6 * (20 * k + sz k - 1) + x)) (fun x => L 64 (6 * (20 * k + sz k - 1) + x)) (jO I) sure x (acc) i)]) (s_mslopeOf X _ I L F sz nd hR k hk x (by omega)) okX6_slopeOf lkX6_249 rfl (by decide) rfl rfl rfl (Nat.le_of_ble_eq_true rfl) ⟨Nat.le_refl _, Nat.le_refl _⟩ dX6_togetherOf_51 ?_
          refine r_aload_n (pc := 54) dX6_togetherOf_54 rfl ?_
          refine r_iload_n (pc := 55) dX6_togetherOf_55 rfl ?_
          refine r_iload (pc := 56) dX6_togetherOf_56 rfl ?_
          refine r_callV (pc := 58) (N := mX6_slopeOf) (rest := [.long (L 64 (6 * (20 * k + sz k - 1) + x)), .long (toI (fun x => L 64 (6 * (20 * k + sz k - 1) + x)) (fun x => L 64 (6 * (20 * k + sz k - 1) + x)) (jO I) sure x (acc) i)]) (s_mslopeOf X _ I L F sz nd hR k hk i (by omega)) okX6_slopeOf lkX6_249 rfl (by decide) rfl rfl rfl (Nat.le_of_ble_eq_true rfl) ⟨Nat.le_refl _, Nat.le_refl _⟩ dX6_togetherOf_58 ?_
          refine r_lmul (pc := 61) dX6_togetherOf_61 ?_
          refine r_aload_n (pc := 62) dX6_togetherOf_62 rfl ?_
          refine r_iload (pc := 63) dX6_togetherOf_63 rfl ?_
          refine r_iload (pc := 65) dX6_togetherOf_65 rfl ?_
          refine r_callV (pc := 67) (N := mX6_jointOf) (rest := [.long ((L 64 (6 * (20 * k + sz k - 1) + x)) * (L 64 (6 * (20 * k + sz k - 1) + i))), .long (toI (fun x => L 64 (6 * (20 * k + sz k - 1) + x)) (fun x => L 64 (6 * (20 * k + sz k - 1) + x)) (jO I) sure x (acc) i)]) (s_jointOf X _ I L x i (by omega) (by omega)) okX6_jointOf lkX6_213 rfl (by decide) rfl rfl rfl (Nat.le_of_ble_eq_true rfl) ⟨Nat.le_refl _, Nat.le_refl _⟩ dX6_togetherOf_67 ?_
          refine r_i2l (pc := 70) dX6_togetherOf_70 ?_
          refine r_lmul (pc := 71) dX6_togetherOf_71 ?_
          refine r_ladd (pc := 72) dX6_togetherOf_72 ?_
          refine r_lstore (pc := 73) (lo1 := [.ref 42, .int (nI k), .int (nI k), .int (sure), .long ((toI (fun x => L 64 (6 * (20 * k + sz k - 1) + x)) (fun x => L 64 (6 * (20 * k + sz k - 1) + x)) (jO I) sure x (acc) i) + (((L 64 (6 * (20 * k + sz k - 1) + x)) * (L 64 (6 * (20 * k + sz k - 1) + i))) * ((jO I x i).toInt64))), .null, .int (nI x), .int (nI i)]) dX6_togetherOf_73 rfl (by decide) rfl ?_
          refine r_iinc (pc := 75) (v := nI (i + 1)) (lo1 := [.ref 42, .int (nI k), .int (nI k), .int (sure), .long ((toI (fun x => L 64 (6 * (20 * k + sz k - 1) + x)) (fun x => L 64 (6 * (20 * k + sz k - 1) + x)) (jO I) sure x (acc) i) + (((L 64 (6 * (20 * k + sz k - 1) + x)) * (L 64 (6 * (20 * k + sz k - 1) + i))) * ((jO I x i).toInt64))), .null, .int (nI x), .int (nI (i + 1))]) dX6_togetherOf_75 rfl rfl (ii1 _) (by decide) rfl ?_
          refine r_goto (pc := 78) (tgt := 16) dX6_togetherOf_78 (by decide) ?_
          have e9 : toI (fun x => L 64 (6 * (20 * k + sz k - 1) + x)) (fun x => L 64 (6 * (20 * k + sz k - 1) + x)) (jO I) sure x (acc) (i + 1) = (toI (fun x => L 64 (6 * (20 * k + sz k - 1) + x)) (fun x => L 64 (6 * (20 * k + sz k - 1) + x)) (jO I) sure x (acc) i) + (((L 64 (6 * (20 * k + sz k - 1) + x)) * (L 64 (6 * (20 * k + sz k - 1) + i))) * ((jO I x i).toInt64)) := congrArg (fun z => toI (fun x => L 64 (6 * (20 * k + sz k - 1) + x)) (fun x => L 64 (6 * (20 * k + sz k - 1) + x)) (jO I) sure x (acc) i + z) ((if_neg (by rw [c3]; decide)).trans ((if_neg (by rw [c4]; decide))))
          have h9 := ih (i + 1) (by omega)
          rw [e9] at h9
          exact h9
        · refine r_lconst (pc := 43) (v := 0) dX6_togetherOf_43 rfl ?_
          refine r_goto (pc := 44) (tgt := 72) dX6_togetherOf_44 (by decide) ?_
          refine r_ladd (pc := 72) dX6_togetherOf_72 ?_
          refine r_lstore (pc := 73) (lo1 := [.ref 42, .int (nI k), .int (nI k), .int (sure), .long ((toI (fun x => L 64 (6 * (20 * k + sz k - 1) + x)) (fun x => L 64 (6 * (20 * k + sz k - 1) + x)) (jO I) sure x (acc) i) + 0), .null, .int (nI x), .int (nI i)]) dX6_togetherOf_73 rfl (by decide) rfl ?_
          refine r_iinc (pc := 75) (v := nI (i + 1)) (lo1 := [.ref 42, .int (nI k), .int (nI k), .int (sure), .long ((toI (fun x => L 64 (6 * (20 * k + sz k - 1) + x)) (fun x => L 64 (6 * (20 * k + sz k - 1) + x)) (jO I) sure x (acc) i) + 0), .null, .int (nI x), .int (nI (i + 1))]) dX6_togetherOf_75 rfl rfl (ii1 _) (by decide) rfl ?_
          refine r_goto (pc := 78) (tgt := 16) dX6_togetherOf_78 (by decide) ?_
          have e9 : toI (fun x => L 64 (6 * (20 * k + sz k - 1) + x)) (fun x => L 64 (6 * (20 * k + sz k - 1) + x)) (jO I) sure x (acc) (i + 1) = (toI (fun x => L 64 (6 * (20 * k + sz k - 1) + x)) (fun x => L 64 (6 * (20 * k + sz k - 1) + x)) (jO I) sure x (acc) i) + 0 := congrArg (fun z => toI (fun x => L 64 (6 * (20 * k + sz k - 1) + x)) (fun x => L 64 (6 * (20 * k + sz k - 1) + x)) (jO I) sure x (acc) i + z) ((if_neg (by rw [c3]; decide)).trans (if_pos c4))
          have h9 := ih (i + 1) (by omega)
          rw [e9] at h9
          exact h9
theorem lp_together_same (X : Ctx) (d : Nat) (I : MI) (L : ML) (F : Nat) (sz : Nat → Nat) (nd : Nat → Nat → Nat × Nat × Nat × Nat) (hR : MR I F sz nd) (k : Nat) (hk : k < F) (sure : Int32) : ∀ (z i : Nat), i + z = 6 → Ev X mX6_togetherOf (d + 2) (0, 0) (0, 0) (some (.long (toO (fun x => L 64 (6 * (20 * k + sz k - 1) + x)) (fun x => L 64 (6 * (20 * k + sz k - 1) + x)) (jO I) sure 6)), shF, I, L) 6 [.ref 42, .int (nI k), .int (nI k), .int (sure), .long (toO (fun x => L 64 (6 * (20 * k + sz k - 1) + x)) (fun x => L 64 (6 * (20 * k + sz k - 1) + x)) (jO I) sure i), .null, .int (nI i), .null] [] shF I L := by
  intro z
  induction z with
  | zero =>
    intro i hi
    obtain ⟨hF, hF4, hall⟩ := id hR
    obtain ⟨hs, hs1, hs20, -⟩ := hall k hk
    have hi2 : i = 6 := by omega
    rw [hi2]
    refine r_iload (pc := 6) dX6_togetherOf_6 rfl ?_
    refine r_bipush (pc := 8) dX6_togetherOf_8 bp_6 ?_
    refine r_icmpN_ge (pc := 10) (tgt := 87) dX6_togetherOf_10 (by decide) (by omega) (by omega) (fun c1 => ?_) (fun c1 => ?_)
    · refine r_lload (pc := 87) dX6_togetherOf_87 rfl ?_
      exact r_lret dX6_togetherOf_89 rfl (rfl) rfl
    · exact absurd c1 (by decide)
  | succ z ih =>
    intro i hi
    obtain ⟨hF, hF4, hall⟩ := id hR
    obtain ⟨hs, hs1, hs20, -⟩ := hall k hk
    refine r_iload (pc := 6) dX6_togetherOf_6 rfl ?_
    refine r_bipush (pc := 8) dX6_togetherOf_8 bp_6 ?_
    refine r_icmpN_ge (pc := 10) (tgt := 87) dX6_togetherOf_10 (by decide) (by omega) (by omega) (fun c2 => ?_) (fun c2 => ?_)
    · exact absurd c2 (by omega)
    · refine r_iconst (pc := 13) (v := nI 0) dX6_togetherOf_13 rfl ?_
      refine r_istore (pc := 14) (lo1 := [.ref 42, .int (nI k), .int (nI k), .int (sure), .long (toO (fun x => L 64 (6 * (20 * k + sz k - 1) + x)) (fun x => L 64 (6 * (20 * k + sz k - 1) + x)) (jO I) sure i), .null, .int (nI i), .int (nI 0)]) dX6_togetherOf_14 rfl (by decide) rfl ?_
      refine lp_together_same_in X d I L F sz nd hR k hk sure i (by omega) (toO (fun x => L 64 (6 * (20 * k + sz k - 1) + x)) (fun x => L 64 (6 * (20 * k + sz k - 1) + x)) (jO I) sure i) _ ?_ 6 0 rfl
      exact ih (i + 1) (by omega)
theorem s_together_same (X : Ctx) (d : Nat) (I : MI) (L : ML) (F : Nat) (sz : Nat → Nat) (nd : Nat → Nat → Nat × Nat × Nat × Nat) (hR : MR I F sz nd) (k : Nat) (hk : k < F) (sure : Int32) : Sp X mX6_togetherOf (d + 2) (0, 0) [.ref 42, .int (nI k), .int (nI k), .int (sure)] shF I L (some (.long (toO (fun x => L 64 (6 * (20 * k + sz k - 1) + x)) (fun x => L 64 (6 * (20 * k + sz k - 1) + x)) (jO I) sure 6)), shF, I, L) := by
  obtain ⟨hF, hF4, hall⟩ := id hR
  obtain ⟨hs, hs1, hs20, -⟩ := hall k hk
  refine Sp.of okX6_togetherOf [.ref 42, .int (nI k), .int (nI k), .int (sure), .null, .null, .null, .null] 4 rfl (Nat.le_of_ble_eq_true rfl) ?_
  refine r_lconst (pc := 0) (v := 0) dX6_togetherOf_0 rfl ?_
  refine r_lstore (pc := 1) (lo1 := [.ref 42, .int (nI k), .int (nI k), .int (sure), .long (0), .null, .null, .null]) dX6_togetherOf_1 rfl (by decide) rfl ?_
  refine r_iconst (pc := 3) (v := nI 0) dX6_togetherOf_3 rfl ?_
  refine r_istore (pc := 4) (lo1 := [.ref 42, .int (nI k), .int (nI k), .int (sure), .long (0), .null, .int (nI 0), .null]) dX6_togetherOf_4 rfl (by decide) rfl ?_
  exact lp_together_same X d I L F sz nd hR k hk sure 6 0 rfl
theorem lp_together_two_in (X : Ctx) (d : Nat) (I : MI) (L : ML) (F : Nat) (sz : Nat → Nat) (nd : Nat → Nat → Nat × Nat × Nat × Nat) (hR : MR I F sz nd) (k : Nat) (hk : k < F) (g : Nat) (hg : g < F) (sure : Int32) (x : Nat) (hx : x < 6) (acc : Int64) (T : TR) (K : Ev X mX6_togetherOf (d + 2) (0, 0) (0, 0) T 6 [.ref 42, .int (nI k), .int (nI g), .int (sure), .long (toI (fun x => L 64 (6 * (20 * k + sz k - 1) + x)) (fun x => L 64 (6 * (20 * g + sz g - 1) + x)) (jO I) sure x (acc) 6), .null, .int (nI (x + 1)), .null] [] shF I L) : ∀ (z i : Nat), i + z = 6 → Ev X mX6_togetherOf (d + 2) (0, 0) (0, 0) T 16 [.ref 42, .int (nI k), .int (nI g), .int (sure), .long (toI (fun x => L 64 (6 * (20 * k + sz k - 1) + x)) (fun x => L 64 (6 * (20 * g + sz g - 1) + x)) (jO I) sure x (acc) i), .null, .int (nI x), .int (nI i)] [] shF I L := by
  intro z
  induction z with
  | zero =>
    intro i hi
    obtain ⟨hF, hF4, hall⟩ := id hR
    obtain ⟨hs, hs1, hs20, -⟩ := hall k hk
    obtain ⟨hg0, hg1, hg20, -⟩ := hall g hg
    have hi2 : i = 6 := by omega
    rw [hi2]
    refine r_iload (pc := 16) dX6_togetherOf_16 rfl ?_
    refine r_bipush (pc := 18) dX6_togetherOf_18 bp_6 ?_
    refine r_icmpN_ge (pc := 20) (tgt := 81) dX6_togetherOf_20 (by decide) (by omega) (by omega) (fun c1 => ?_) (fun c1 => ?_)
    · refine r_iinc (pc := 81) (v := nI (x + 1)) (lo1 := [.ref 42, .int (nI k), .int (nI g), .int (sure), .long (toI (fun x => L 64 (6 * (20 * k + sz k - 1) + x)) (fun x => L 64 (6 * (20 * g + sz g - 1) + x)) (jO I) sure x (acc) 6), .null, .int (nI (x + 1)), .int (nI 6)]) dX6_togetherOf_81 rfl rfl (ii1 _) (by decide) rfl ?_
      refine r_goto (pc := 84) (tgt := 6) dX6_togetherOf_84 (by decide) ?_
      refine r_drop (lo1 := [.ref 42, .int (nI k), .int (nI g), .int (sure), .long (toI (fun x => L 64 (6 * (20 * k + sz k - 1) + x)) (fun x => L 64 (6 * (20 * g + sz g - 1) + x)) (jO I) sure x (acc) 6), .null, .int (nI (x + 1)), .null]) 7 rfl ?_
      exact K
    · exact absurd c1 (by decide)
  | succ z ih =>
    intro i hi
    obtain ⟨hF, hF4, hall⟩ := id hR
    obtain ⟨hs, hs1, hs20, -⟩ := hall k hk
    obtain ⟨hg0, hg1, hg20, -⟩ := hall g hg
    refine r_iload (pc := 16) dX6_togetherOf_16 rfl ?_
    refine r_bipush (pc := 18) dX6_togetherOf_18 bp_6 ?_
    refine r_icmpN_ge (pc := 20) (tgt := 81) dX6_togetherOf_20 (by decide) (by omega) (by omega) (fun c2 => ?_) (fun c2 => ?_)
    · exact absurd c2 (by omega)
    · refine r_lload (pc := 23) dX6_togetherOf_23 rfl ?_
      refine r_iload_n (pc := 25) dX6_togetherOf_25 rfl ?_
      refine r_iload (pc := 26) dX6_togetherOf_26 rfl ?_
      refine r_callS (pc := 28) (N := mX6_has) (rest := [.long (toI (fun x => L 64 (6 * (20 * k + sz k - 1) + x)) (fun x => L 64 (6 * (20 * g + sz g - 1) + x)) (jO I) sure x (acc) i)]) (s_has X _ I L sure (nI x)) okX6_has lkX6_253 rfl rfl (Nat.le_of_ble_eq_true rfl) ⟨Nat.le_refl _, Nat.le_refl _⟩ dX6_togetherOf_28 ?_
      refine r_ifb_ne (pc := 31) (tgt := 43) dX6_togetherOf_31 (by decide) (fun c3 => ?_) (fun c3 => ?_)
      · refine r_lconst (pc := 43) (v := 0) dX6_togetherOf_43 rfl ?_
        refine r_goto (pc := 44) (tgt := 72) dX6_togetherOf_44 (by decide) ?_
        refine r_ladd (pc := 72) dX6_togetherOf_72 ?_
        refine r_lstore (pc := 73) (lo1 := [.ref 42, .int (nI k), .int (nI g), .int (sure), .long ((toI (fun x => L 64 (6 * (20 * k + sz k - 1) + x)) (fun x => L 64 (6 * (20 * g + sz g - 1) + x)) (jO I) sure x (acc) i) + 0), .null, .int (nI x), .int (nI i)]) dX6_togetherOf_73 rfl (by decide) rfl ?_
        refine r_iinc (pc := 75) (v := nI (i + 1)) (lo1 := [.ref 42, .int (nI k), .int (nI g), .int (sure), .long ((toI (fun x => L 64 (6 * (20 * k + sz k - 1) + x)) (fun x => L 64 (6 * (20 * g + sz g - 1) + x)) (jO I) sure x (acc) i) + 0), .null, .int (nI x), .int (nI (i + 1))]) dX6_togetherOf_75 rfl rfl (ii1 _) (by decide) rfl ?_
        refine r_goto (pc := 78) (tgt := 16) dX6_togetherOf_78 (by decide) ?_
        have e9 : toI (fun x => L 64 (6 * (20 * k + sz k - 1) + x)) (fun x => L 64 (6 * (20 * g + sz g - 1) + x)) (jO I) sure x (acc) (i + 1) = (toI (fun x => L 64 (6 * (20 * k + sz k - 1) + x)) (fun x => L 64 (6 * (20 * g + sz g - 1) + x)) (jO I) sure x (acc) i) + 0 := congrArg (fun z => toI (fun x => L 64 (6 * (20 * k + sz k - 1) + x)) (fun x => L 64 (6 * (20 * g + sz g - 1) + x)) (jO I) sure x (acc) i + z) (if_pos c3)
        have h9 := ih (i + 1) (by omega)
        rw [e9] at h9
        exact h9
      · refine r_iload_n (pc := 34) dX6_togetherOf_34 rfl ?_
        refine r_iload (pc := 35) dX6_togetherOf_35 rfl ?_
        refine r_callS (pc := 37) (N := mX6_has) (rest := [.long (toI (fun x => L 64 (6 * (20 * k + sz k - 1) + x)) (fun x => L 64 (6 * (20 * g + sz g - 1) + x)) (jO I) sure x (acc) i)]) (s_has X _ I L sure (nI i)) okX6_has lkX6_253 rfl rfl (Nat.le_of_ble_eq_true rfl) ⟨Nat.le_refl _, Nat.le_refl _⟩ dX6_togetherOf_37 ?_
        refine r_ifb_eq (pc := 40) (tgt := 47) dX6_togetherOf_40 (by decide) (fun c4 => ?_) (fun c4 => ?_)
        · refine r_aload_n (pc := 47) dX6_togetherOf_47 rfl ?_
          refine r_iload_n (pc := 48) dX6_togetherOf_48 rfl ?_
          refine r_iload (pc := 49) dX6_togetherOf_49 rfl ?_
          refine r_callV (pc := 51) (N := mX6_slopeOf) (rest := [.long (toI (fun x => L 64 (6 * (20 * k + sz k - 1) + x)) (fun x => L 64 (6 * (20 * g + sz g - 1) + x)) (jO I) sure x (acc) i)]) (s_mslopeOf X _ I L F sz nd hR k hk x (by omega)) okX6_slopeOf lkX6_249 rfl (by decide) rfl rfl rfl (Nat.le_of_ble_eq_true rfl) ⟨Nat.le_refl _, Nat.le_refl _⟩ dX6_togetherOf_51 ?_
          refine r_aload_n (pc := 54) dX6_togetherOf_54 rfl ?_
          refine r_iload_n (pc := 55) dX6_togetherOf_55 rfl ?_
          refine r_iload (pc := 56) dX6_togetherOf_56 rfl ?_
          refine r_callV (pc := 58) (N := mX6_slopeOf) (rest := [.long (L 64 (6 * (20 * k + sz k - 1) + x)), .long (toI (fun x => L 64 (6 * (20 * k + sz k - 1) + x)) (fun x => L 64 (6 * (20 * g + sz g - 1) + x)) (jO I) sure x (acc) i)]) (s_mslopeOf X _ I L F sz nd hR g hg i (by omega)) okX6_slopeOf lkX6_249 rfl (by decide) rfl rfl rfl (Nat.le_of_ble_eq_true rfl) ⟨Nat.le_refl _, Nat.le_refl _⟩ dX6_togetherOf_58 ?_
          refine r_lmul (pc := 61) dX6_togetherOf_61 ?_
          refine r_aload_n (pc := 62) dX6_togetherOf_62 rfl ?_
          refine r_iload (pc := 63) dX6_togetherOf_63 rfl ?_
          refine r_iload (pc := 65) dX6_togetherOf_65 rfl ?_
          refine r_callV (pc := 67) (N := mX6_jointOf) (rest := [.long ((L 64 (6 * (20 * k + sz k - 1) + x)) * (L 64 (6 * (20 * g + sz g - 1) + i))), .long (toI (fun x => L 64 (6 * (20 * k + sz k - 1) + x)) (fun x => L 64 (6 * (20 * g + sz g - 1) + x)) (jO I) sure x (acc) i)]) (s_jointOf X _ I L x i (by omega) (by omega)) okX6_jointOf lkX6_213 rfl (by decide) rfl rfl rfl (Nat.le_of_ble_eq_true rfl) ⟨Nat.le_refl _, Nat.le_refl _⟩ dX6_togetherOf_67 ?_
          refine r_i2l (pc := 70) dX6_togetherOf_70 ?_
          refine r_lmul (pc := 71) dX6_togetherOf_71 ?_
          refine r_ladd (pc := 72) dX6_togetherOf_72 ?_
          refine r_lstore (pc := 73) (lo1 := [.ref 42, .int (nI k), .int (nI g), .int (sure), .long ((toI (fun x => L 64 (6 * (20 * k + sz k - 1) + x)) (fun x => L 64 (6 * (20 * g + sz g - 1) + x)) (jO I) sure x (acc) i) + (((L 64 (6 * (20 * k + sz k - 1) + x)) * (L 64 (6 * (20 * g + sz g - 1) + i))) * ((jO I x i).toInt64))), .null, .int (nI x), .int (nI i)]) dX6_togetherOf_73 rfl (by decide) rfl ?_
          refine r_iinc (pc := 75) (v := nI (i + 1)) (lo1 := [.ref 42, .int (nI k), .int (nI g), .int (sure), .long ((toI (fun x => L 64 (6 * (20 * k + sz k - 1) + x)) (fun x => L 64 (6 * (20 * g + sz g - 1) + x)) (jO I) sure x (acc) i) + (((L 64 (6 * (20 * k + sz k - 1) + x)) * (L 64 (6 * (20 * g + sz g - 1) + i))) * ((jO I x i).toInt64))), .null, .int (nI x), .int (nI (i + 1))]) dX6_togetherOf_75 rfl rfl (ii1 _) (by decide) rfl ?_
          refine r_goto (pc := 78) (tgt := 16) dX6_togetherOf_78 (by decide) ?_
          have e9 : toI (fun x => L 64 (6 * (20 * k + sz k - 1) + x)) (fun x => L 64 (6 * (20 * g + sz g - 1) + x)) (jO I) sure x (acc) (i + 1) = (toI (fun x => L 64 (6 * (20 * k + sz k - 1) + x)) (fun x => L 64 (6 * (20 * g + sz g - 1) + x)) (jO I) sure x (acc) i) + (((L 64 (6 * (20 * k + sz k - 1) + x)) * (L 64 (6 * (20 * g + sz g - 1) + i))) * ((jO I x i).toInt64)) := congrArg (fun z => toI (fun x => L 64 (6 * (20 * k + sz k - 1) + x)) (fun x => L 64 (6 * (20 * g + sz g - 1) + x)) (jO I) sure x (acc) i + z) ((if_neg (by rw [c3]; decide)).trans ((if_neg (by rw [c4]; decide))))
          have h9 := ih (i + 1) (by omega)
          rw [e9] at h9
          exact h9
        · refine r_lconst (pc := 43) (v := 0) dX6_togetherOf_43 rfl ?_
          refine r_goto (pc := 44) (tgt := 72) dX6_togetherOf_44 (by decide) ?_
          refine r_ladd (pc := 72) dX6_togetherOf_72 ?_
          refine r_lstore (pc := 73) (lo1 := [.ref 42, .int (nI k), .int (nI g), .int (sure), .long ((toI (fun x => L 64 (6 * (20 * k + sz k - 1) + x)) (fun x => L 64 (6 * (20 * g + sz g - 1) + x)) (jO I) sure x (acc) i) + 0), .null, .int (nI x), .int (nI i)]) dX6_togetherOf_73 rfl (by decide) rfl ?_
          refine r_iinc (pc := 75) (v := nI (i + 1)) (lo1 := [.ref 42, .int (nI k), .int (nI g), .int (sure), .long ((toI (fun x => L 64 (6 * (20 * k + sz k - 1) + x)) (fun x => L 64 (6 * (20 * g + sz g - 1) + x)) (jO I) sure x (acc) i) + 0), .null, .int (nI x), .int (nI (i + 1))]) dX6_togetherOf_75 rfl rfl (ii1 _) (by decide) rfl ?_
          refine r_goto (pc := 78) (tgt := 16) dX6_togetherOf_78 (by decide) ?_
          have e9 : toI (fun x => L 64 (6 * (20 * k + sz k - 1) + x)) (fun x => L 64 (6 * (20 * g + sz g - 1) + x)) (jO I) sure x (acc) (i + 1) = (toI (fun x => L 64 (6 * (20 * k + sz k - 1) + x)) (fun x => L 64 (6 * (20 * g + sz g - 1) + x)) (jO I) sure x (acc) i) + 0 := congrArg (fun z => toI (fun x => L 64 (6 * (20 * k + sz k - 1) + x)) (fun x => L 64 (6 * (20 * g + sz g - 1) + x)) (jO I) sure x (acc) i + z) ((if_neg (by rw [c3]; decide)).trans (if_pos c4))
          have h9 := ih (i + 1) (by omega)
          rw [e9] at h9
          exact h9
theorem lp_together_two (X : Ctx) (d : Nat) (I : MI) (L : ML) (F : Nat) (sz : Nat → Nat) (nd : Nat → Nat → Nat × Nat × Nat × Nat) (hR : MR I F sz nd) (k : Nat) (hk : k < F) (g : Nat) (hg : g < F) (sure : Int32) : ∀ (z i : Nat), i + z = 6 → Ev X mX6_togetherOf (d + 2) (0, 0) (0, 0) (some (.long (toO (fun x => L 64 (6 * (20 * k + sz k - 1) + x)) (fun x => L 64 (6 * (20 * g + sz g - 1) + x)) (jO I) sure 6)), shF, I, L) 6 [.ref 42, .int (nI k), .int (nI g), .int (sure), .long (toO (fun x => L 64 (6 * (20 * k + sz k - 1) + x)) (fun x => L 64 (6 * (20 * g + sz g - 1) + x)) (jO I) sure i), .null, .int (nI i), .null] [] shF I L := by
  intro z
  induction z with
  | zero =>
    intro i hi
    obtain ⟨hF, hF4, hall⟩ := id hR
    obtain ⟨hs, hs1, hs20, -⟩ := hall k hk
    obtain ⟨hg0, hg1, hg20, -⟩ := hall g hg
    have hi2 : i = 6 := by omega
    rw [hi2]
    refine r_iload (pc := 6) dX6_togetherOf_6 rfl ?_
    refine r_bipush (pc := 8) dX6_togetherOf_8 bp_6 ?_
    refine r_icmpN_ge (pc := 10) (tgt := 87) dX6_togetherOf_10 (by decide) (by omega) (by omega) (fun c1 => ?_) (fun c1 => ?_)
    · refine r_lload (pc := 87) dX6_togetherOf_87 rfl ?_
      exact r_lret dX6_togetherOf_89 rfl (rfl) rfl
    · exact absurd c1 (by decide)
  | succ z ih =>
    intro i hi
    obtain ⟨hF, hF4, hall⟩ := id hR
    obtain ⟨hs, hs1, hs20, -⟩ := hall k hk
    obtain ⟨hg0, hg1, hg20, -⟩ := hall g hg
    refine r_iload (pc := 6) dX6_togetherOf_6 rfl ?_
    refine r_bipush (pc := 8) dX6_togetherOf_8 bp_6 ?_
    refine r_icmpN_ge (pc := 10) (tgt := 87) dX6_togetherOf_10 (by decide) (by omega) (by omega) (fun c2 => ?_) (fun c2 => ?_)
    · exact absurd c2 (by omega)
    · refine r_iconst (pc := 13) (v := nI 0) dX6_togetherOf_13 rfl ?_
      refine r_istore (pc := 14) (lo1 := [.ref 42, .int (nI k), .int (nI g), .int (sure), .long (toO (fun x => L 64 (6 * (20 * k + sz k - 1) + x)) (fun x => L 64 (6 * (20 * g + sz g - 1) + x)) (jO I) sure i), .null, .int (nI i), .int (nI 0)]) dX6_togetherOf_14 rfl (by decide) rfl ?_
      refine lp_together_two_in X d I L F sz nd hR k hk g hg sure i (by omega) (toO (fun x => L 64 (6 * (20 * k + sz k - 1) + x)) (fun x => L 64 (6 * (20 * g + sz g - 1) + x)) (jO I) sure i) _ ?_ 6 0 rfl
      exact ih (i + 1) (by omega)
theorem s_together_two (X : Ctx) (d : Nat) (I : MI) (L : ML) (F : Nat) (sz : Nat → Nat) (nd : Nat → Nat → Nat × Nat × Nat × Nat) (hR : MR I F sz nd) (k : Nat) (hk : k < F) (g : Nat) (hg : g < F) (sure : Int32) : Sp X mX6_togetherOf (d + 2) (0, 0) [.ref 42, .int (nI k), .int (nI g), .int (sure)] shF I L (some (.long (toO (fun x => L 64 (6 * (20 * k + sz k - 1) + x)) (fun x => L 64 (6 * (20 * g + sz g - 1) + x)) (jO I) sure 6)), shF, I, L) := by
  obtain ⟨hF, hF4, hall⟩ := id hR
  obtain ⟨hs, hs1, hs20, -⟩ := hall k hk
  obtain ⟨hg0, hg1, hg20, -⟩ := hall g hg
  refine Sp.of okX6_togetherOf [.ref 42, .int (nI k), .int (nI g), .int (sure), .null, .null, .null, .null] 4 rfl (Nat.le_of_ble_eq_true rfl) ?_
  refine r_lconst (pc := 0) (v := 0) dX6_togetherOf_0 rfl ?_
  refine r_lstore (pc := 1) (lo1 := [.ref 42, .int (nI k), .int (nI g), .int (sure), .long (0), .null, .null, .null]) dX6_togetherOf_1 rfl (by decide) rfl ?_
  refine r_iconst (pc := 3) (v := nI 0) dX6_togetherOf_3 rfl ?_
  refine r_istore (pc := 4) (lo1 := [.ref 42, .int (nI k), .int (nI g), .int (sure), .long (0), .null, .int (nI 0), .null]) dX6_togetherOf_4 rfl (by decide) rfl ?_
  exact lp_together_two X d I L F sz nd hR k hk g hg sure 6 0 rfl
theorem q_whole (X : Ctx) (d : Nat) (I : MI) (L : ML) (F : Nat) (sz : Nat → Nat) (nd : Nat → Nat → Nat × Nat × Nat × Nat) (hR : MR I F sz nd) (k : Nat) (hk : k < F) : Sp X mX6_whole (d + 3) (0, 0) [.ref 42, .int (nI k)] shF I L (some (.long (toO (fun x => (goL (I 55) sz nd L F) 64 (6 * (20 * k + sz k - 1) + x)) (fun x => (goL (I 55) sz nd L F) 64 (6 * (20 * k + sz k - 1) + x)) (jO I) (nI 0) 6)), shF, (u2 I 42 0 (nI 0)), (goL (I 55) sz nd L F)) := by
  obtain ⟨hF, hF4, hall⟩ := id hR
  obtain ⟨hs, hs1, hs20, -⟩ := hall k hk
  refine Sp.of okX6_whole [.ref 42, .int (nI k)] 0 rfl (Nat.le_of_ble_eq_true rfl) ?_
  refine r_aload_n (pc := 0) dX6_whole_0 rfl ?_
  refine r_iconst (pc := 1) (v := nI 0) dX6_whole_1 rfl ?_
  refine r_put (pc := 2) .int dX6_whole_2 fX6_93 rfl rfl nf6_0 rfl rfl ?_
  refine r_aload_n (pc := 5) dX6_whole_5 rfl ?_
  refine r_iload_n (pc := 6) dX6_whole_6 rfl ?_
  refine r_callV (pc := 7) (N := mX6_isFormula) (rest := []) (s_isFormula_t X _ (u2 I 42 0 (nI 0)) L F k (hF) (by omega) hF4) okX6_isFormula lkX6_243 rfl (by decide) rfl rfl rfl (Nat.le_of_ble_eq_true rfl) ⟨Nat.le_refl _, Nat.le_refl _⟩ dX6_whole_7 ?_
  refine r_ifN_ne (pc := 10) (tgt := 17) dX6_whole_10 (by decide) (by omega) (fun c1 => ?_) (fun c1 => ?_)
  · refine r_aload_n (pc := 17) dX6_whole_17 rfl ?_
    refine r_callV (pc := 18) (N := mX6_goes) (rest := []) (s_goes X _ (u2 I 42 0 (nI 0)) L F sz nd (MR_th hR) (hF) hF4) okX6_goes lkX6_246 rfl (by decide) rfl rfl rfl (Nat.le_of_ble_eq_true rfl) ⟨Nat.le_refl _, Nat.le_refl _⟩ dX6_whole_18 ?_
    refine r_aload_n (pc := 21) dX6_whole_21 rfl ?_
    refine r_iload_n (pc := 22) dX6_whole_22 rfl ?_
    refine r_iload_n (pc := 23) dX6_whole_23 rfl ?_
    refine r_iconst (pc := 24) (v := nI 0) dX6_whole_24 rfl ?_
    refine r_callV (pc := 25) (N := mX6_togetherOf) (rest := []) (s_together_same X _ (u2 I 42 0 (nI 0)) (goL (I 55) sz nd L F) F sz nd (MR_th hR) k hk (nI 0)) okX6_togetherOf lkX6_256 rfl (by decide) rfl rfl rfl (Nat.le_of_ble_eq_true rfl) ⟨Nat.le_refl _, Nat.le_refl _⟩ dX6_whole_25 ?_
    exact r_lret dX6_whole_28 rfl (rfl) rfl
  · exact absurd c1 (by decide)
theorem q_together (X : Ctx) (d : Nat) (I : MI) (L : ML) (F : Nat) (sz : Nat → Nat) (nd : Nat → Nat → Nat × Nat × Nat × Nat) (hR : MR I F sz nd) (k : Nat) (hk : k < F) (g : Nat) (hg : g < F) : Sp X mX6_together (d + 3) (0, 0) [.ref 42, .int (nI k), .int (nI g)] shF I L (some (.long (toO (fun x => (goL (I 55) sz nd L F) 64 (6 * (20 * k + sz k - 1) + x)) (fun x => (goL (I 55) sz nd L F) 64 (6 * (20 * g + sz g - 1) + x)) (jO I) (nI 0) 6)), shF, (u2 I 42 0 (nI 0)), (goL (I 55) sz nd L F)) := by
  obtain ⟨hF, hF4, hall⟩ := id hR
  obtain ⟨hs, hs1, hs20, -⟩ := hall k hk
  obtain ⟨hg0, hg1, hg20, -⟩ := hall g hg
  refine Sp.of okX6_together [.ref 42, .int (nI k), .int (nI g)] 0 rfl (Nat.le_of_ble_eq_true rfl) ?_
  refine r_aload_n (pc := 0) dX6_together_0 rfl ?_
  refine r_iconst (pc := 1) (v := nI 0) dX6_together_1 rfl ?_
  refine r_put (pc := 2) .int dX6_together_2 fX6_93 rfl rfl nf6_0 rfl rfl ?_
  refine r_aload_n (pc := 5) dX6_together_5 rfl ?_
  refine r_iload_n (pc := 6) dX6_together_6 rfl ?_
  refine r_callV (pc := 7) (N := mX6_isFormula) (rest := []) (s_isFormula_t X _ (u2 I 42 0 (nI 0)) L F k (hF) (by omega) hF4) okX6_isFormula lkX6_243 rfl (by decide) rfl rfl rfl (Nat.le_of_ble_eq_true rfl) ⟨Nat.le_refl _, Nat.le_refl _⟩ dX6_together_7 ?_
  refine r_ifN_eq (pc := 10) (tgt := 21) dX6_together_10 (by decide) (by omega) (fun c1 => ?_) (fun c1 => ?_)
  · exact absurd c1 (by decide)
  · refine r_aload_n (pc := 13) dX6_together_13 rfl ?_
    refine r_iload_n (pc := 14) dX6_together_14 rfl ?_
    refine r_callV (pc := 15) (N := mX6_isFormula) (rest := []) (s_isFormula_t X _ (u2 I 42 0 (nI 0)) L F g (hF) (by omega) hF4) okX6_isFormula lkX6_243 rfl (by decide) rfl rfl rfl (Nat.le_of_ble_eq_true rfl) ⟨Nat.le_refl _, Nat.le_refl _⟩ dX6_together_15 ?_
    refine r_ifN_ne (pc := 18) (tgt := 25) dX6_together_18 (by decide) (by omega) (fun c2 => ?_) (fun c2 => ?_)
    · refine r_aload_n (pc := 25) dX6_together_25 rfl ?_
      refine r_callV (pc := 26) (N := mX6_goes) (rest := []) (s_goes X _ (u2 I 42 0 (nI 0)) L F sz nd (MR_th hR) (hF) hF4) okX6_goes lkX6_246 rfl (by decide) rfl rfl rfl (Nat.le_of_ble_eq_true rfl) ⟨Nat.le_refl _, Nat.le_refl _⟩ dX6_together_26 ?_
      refine r_aload_n (pc := 29) dX6_together_29 rfl ?_
      refine r_iload_n (pc := 30) dX6_together_30 rfl ?_
      refine r_iload_n (pc := 31) dX6_together_31 rfl ?_
      refine r_iconst (pc := 32) (v := nI 0) dX6_together_32 rfl ?_
      refine r_callV (pc := 33) (N := mX6_togetherOf) (rest := []) (s_together_two X _ (u2 I 42 0 (nI 0)) (goL (I 55) sz nd L F) F sz nd (MR_th hR) k hk g hg (nI 0)) okX6_togetherOf lkX6_256 rfl (by decide) rfl rfl rfl (Nat.le_of_ble_eq_true rfl) ⟨Nat.le_refl _, Nat.le_refl _⟩ dX6_together_33 ?_
      exact r_lret dX6_together_36 rfl (rfl) rfl
    · exact absurd c2 (by decide)
theorem q_left (X : Ctx) (d : Nat) (I : MI) (L : ML) (F : Nat) (sz : Nat → Nat) (nd : Nat → Nat → Nat × Nat × Nat × Nat) (hR : MR I F sz nd) (k : Nat) (hk : k < F) (su : Int32) (h1 : ¬ su < nI 0) (h2 : ¬ nI 63 < su) : Sp X mX6_left (d + 3) (0, 0) [.ref 42, .int (nI k), .int (su)] shF I L (some (.long (toO (fun x => (goL (I 55) sz nd L F) 64 (6 * (20 * k + sz k - 1) + x)) (fun x => (goL (I 55) sz nd L F) 64 (6 * (20 * k + sz k - 1) + x)) (jO I) su 6)), shF, (u2 I 42 0 (nI 0)), (goL (I 55) sz nd L F)) := by
  obtain ⟨hF, hF4, hall⟩ := id hR
  obtain ⟨hs, hs1, hs20, -⟩ := hall k hk
  refine Sp.of okX6_left [.ref 42, .int (nI k), .int (su)] 0 rfl (Nat.le_of_ble_eq_true rfl) ?_
  refine r_aload_n (pc := 0) dX6_left_0 rfl ?_
  refine r_iconst (pc := 1) (v := nI 0) dX6_left_1 rfl ?_
  refine r_put (pc := 2) .int dX6_left_2 fX6_93 rfl rfl nf6_0 rfl rfl ?_
  refine r_aload_n (pc := 5) dX6_left_5 rfl ?_
  refine r_iload_n (pc := 6) dX6_left_6 rfl ?_
  refine r_callV (pc := 7) (N := mX6_isFormula) (rest := []) (s_isFormula_t X _ (u2 I 42 0 (nI 0)) L F k (hF) (by omega) hF4) okX6_isFormula lkX6_243 rfl (by decide) rfl rfl rfl (Nat.le_of_ble_eq_true rfl) ⟨Nat.le_refl _, Nat.le_refl _⟩ dX6_left_7 ?_
  refine r_ifN_eq (pc := 10) (tgt := 23) dX6_left_10 (by decide) (by omega) (fun c1 => ?_) (fun c1 => ?_)
  · exact absurd c1 (by decide)
  · refine r_iload_n (pc := 13) dX6_left_13 rfl ?_
    refine r_iconst (pc := 14) (v := nI 0) dX6_left_14 rfl ?_
    refine r_bipush (pc := 15) dX6_left_15 bp_63 ?_
    refine r_callS (pc := 17) (N := mX6_in) (rest := []) (s_in_t X _ (u2 I 42 0 (nI 0)) L su (nI 0) (nI 63) h1 h2) okX6_in lkX6_97 rfl rfl (Nat.le_of_ble_eq_true rfl) ⟨Nat.le_refl _, Nat.le_refl _⟩ dX6_left_17 ?_
    refine r_ifN_ne (pc := 20) (tgt := 27) dX6_left_20 (by decide) (by omega) (fun c2 => ?_) (fun c2 => ?_)
    · refine r_aload_n (pc := 27) dX6_left_27 rfl ?_
      refine r_callV (pc := 28) (N := mX6_goes) (rest := []) (s_goes X _ (u2 I 42 0 (nI 0)) L F sz nd (MR_th hR) (hF) hF4) okX6_goes lkX6_246 rfl (by decide) rfl rfl rfl (Nat.le_of_ble_eq_true rfl) ⟨Nat.le_refl _, Nat.le_refl _⟩ dX6_left_28 ?_
      refine r_aload_n (pc := 31) dX6_left_31 rfl ?_
      refine r_iload_n (pc := 32) dX6_left_32 rfl ?_
      refine r_iload_n (pc := 33) dX6_left_33 rfl ?_
      refine r_iload_n (pc := 34) dX6_left_34 rfl ?_
      refine r_callV (pc := 35) (N := mX6_togetherOf) (rest := []) (s_together_same X _ (u2 I 42 0 (nI 0)) (goL (I 55) sz nd L F) F sz nd (MR_th hR) k hk su) okX6_togetherOf lkX6_256 rfl (by decide) rfl rfl rfl (Nat.le_of_ble_eq_true rfl) ⟨Nat.le_refl _, Nat.le_refl _⟩ dX6_left_35 ?_
      exact r_lret dX6_left_38 rfl (rfl) rfl
    · exact absurd c2 (by decide)
theorem s_takesOf (X : Ctx) (d : Nat) (I : MI) (L : ML) (F : Nat) (sz : Nat → Nat) (nd : Nat → Nat → Nat × Nat × Nat × Nat) (hR : MR I F sz nd) (k : Nat) (hk : k < F) (x : Nat) : Sp X mX6_takesOf (d + 3) (0, 0) [.ref 42, .int (nI k), .int (nI x)] shF I L (some (.long (toO (fun x => L 64 (6 * (20 * k + sz k - 1) + x)) (fun x => L 64 (6 * (20 * k + sz k - 1) + x)) (jO I) (nI 0) 6 - toO (fun x => L 64 (6 * (20 * k + sz k - 1) + x)) (fun x => L 64 (6 * (20 * k + sz k - 1) + x)) (jO I) (nI 1 <<< (nI x &&& 31)) 6)), shF, I, L) := by
  obtain ⟨hF, hF4, hall⟩ := id hR
  obtain ⟨hs, hs1, hs20, -⟩ := hall k hk
  refine Sp.of okX6_takesOf [.ref 42, .int (nI k), .int (nI x)] 0 rfl (Nat.le_of_ble_eq_true rfl) ?_
  refine r_aload_n (pc := 0) dX6_takesOf_0 rfl ?_
  refine r_iload_n (pc := 1) dX6_takesOf_1 rfl ?_
  refine r_iload_n (pc := 2) dX6_takesOf_2 rfl ?_
  refine r_iconst (pc := 3) (v := nI 0) dX6_takesOf_3 rfl ?_
  refine r_callV (pc := 4) (N := mX6_togetherOf) (rest := []) (s_together_same X _ I L F sz nd hR k hk (nI 0)) okX6_togetherOf lkX6_256 rfl (by decide) rfl rfl rfl (Nat.le_of_ble_eq_true rfl) ⟨Nat.le_refl _, Nat.le_refl _⟩ dX6_takesOf_4 ?_
  refine r_aload_n (pc := 7) dX6_takesOf_7 rfl ?_
  refine r_iload_n (pc := 8) dX6_takesOf_8 rfl ?_
  refine r_iload_n (pc := 9) dX6_takesOf_9 rfl ?_
  refine r_iconst (pc := 10) (v := nI 1) dX6_takesOf_10 rfl ?_
  refine r_iload_n (pc := 11) dX6_takesOf_11 rfl ?_
  refine r_ishl (pc := 12) dX6_takesOf_12 ?_
  refine r_callV (pc := 13) (N := mX6_togetherOf) (rest := [.long (toO (fun x => L 64 (6 * (20 * k + sz k - 1) + x)) (fun x => L 64 (6 * (20 * k + sz k - 1) + x)) (jO I) (nI 0) 6)]) (s_together_same X _ I L F sz nd hR k hk ((nI 1) <<< (nI x &&& 31))) okX6_togetherOf lkX6_256 rfl (by decide) rfl rfl rfl (Nat.le_of_ble_eq_true rfl) ⟨Nat.le_refl _, Nat.le_refl _⟩ dX6_takesOf_13 ?_
  refine r_lsub (pc := 16) dX6_takesOf_16 ?_
  exact r_lret dX6_takesOf_17 rfl (rfl) rfl
theorem q_takes (X : Ctx) (d : Nat) (I : MI) (L : ML) (F : Nat) (sz : Nat → Nat) (nd : Nat → Nat → Nat × Nat × Nat × Nat) (hR : MR I F sz nd) (k : Nat) (hk : k < F) (x : Nat) (hx : x < 6) : Sp X mX6_takes_ (d + 4) (0, 0) [.ref 42, .int (nI k), .int (nI x)] shF I L (some (.long (toO (fun x => (goL (I 55) sz nd L F) 64 (6 * (20 * k + sz k - 1) + x)) (fun x => (goL (I 55) sz nd L F) 64 (6 * (20 * k + sz k - 1) + x)) (jO I) (nI 0) 6 - toO (fun x => (goL (I 55) sz nd L F) 64 (6 * (20 * k + sz k - 1) + x)) (fun x => (goL (I 55) sz nd L F) 64 (6 * (20 * k + sz k - 1) + x)) (jO I) (nI 1 <<< (nI x &&& 31)) 6)), shF, (u2 I 42 0 (nI 0)), (goL (I 55) sz nd L F)) := by
  obtain ⟨hF, hF4, hall⟩ := id hR
  obtain ⟨hs, hs1, hs20, -⟩ := hall k hk
  refine Sp.of okX6_takes_ [.ref 42, .int (nI k), .int (nI x)] 0 rfl (Nat.le_of_ble_eq_true rfl) ?_
  refine r_aload_n (pc := 0) dX6_takes__0 rfl ?_
  refine r_iconst (pc := 1) (v := nI 0) dX6_takes__1 rfl ?_
  refine r_put (pc := 2) .int dX6_takes__2 fX6_93 rfl rfl nf6_0 rfl rfl ?_
  refine r_aload_n (pc := 5) dX6_takes__5 rfl ?_
  refine r_iload_n (pc := 6) dX6_takes__6 rfl ?_
  refine r_callV (pc := 7) (N := mX6_isFormula) (rest := []) (s_isFormula_t X _ (u2 I 42 0 (nI 0)) L F k (hF) (by omega) hF4) okX6_isFormula lkX6_243 rfl (by decide) rfl rfl rfl (Nat.le_of_ble_eq_true rfl) ⟨Nat.le_refl _, Nat.le_refl _⟩ dX6_takes__7 ?_
  refine r_ifN_eq (pc := 10) (tgt := 20) dX6_takes__10 (by decide) (by omega) (fun c1 => ?_) (fun c1 => ?_)
  · exact absurd c1 (by decide)
  · refine r_iload_n (pc := 13) dX6_takes__13 rfl ?_
    refine r_callS (pc := 14) (N := mX6_isSource) (rest := []) (s_misSource_t X _ (u2 I 42 0 (nI 0)) L x (by omega)) okX6_isSource lkX6_208 rfl rfl (Nat.le_of_ble_eq_true rfl) ⟨Nat.le_refl _, Nat.le_refl _⟩ dX6_takes__14 ?_
    refine r_ifN_ne (pc := 17) (tgt := 24) dX6_takes__17 (by decide) (by omega) (fun c2 => ?_) (fun c2 => ?_)
    · refine r_aload_n (pc := 24) dX6_takes__24 rfl ?_
      refine r_callV (pc := 25) (N := mX6_goes) (rest := []) (s_goes X _ (u2 I 42 0 (nI 0)) L F sz nd (MR_th hR) (hF) hF4) okX6_goes lkX6_246 rfl (by decide) rfl rfl rfl (Nat.le_of_ble_eq_true rfl) ⟨Nat.le_refl _, Nat.le_refl _⟩ dX6_takes__25 ?_
      refine r_aload_n (pc := 28) dX6_takes__28 rfl ?_
      refine r_iload_n (pc := 29) dX6_takes__29 rfl ?_
      refine r_iload_n (pc := 30) dX6_takes__30 rfl ?_
      refine r_callV (pc := 31) (N := mX6_takesOf) (rest := []) (s_takesOf X _ (u2 I 42 0 (nI 0)) (goL (I 55) sz nd L F) F sz nd (MR_th hR) k hk x) okX6_takesOf lkX6_266 rfl (by decide) rfl rfl rfl (Nat.le_of_ble_eq_true rfl) ⟨Nat.le_refl _, Nat.le_refl _⟩ dX6_takes__31 ?_
      exact r_lret dX6_takes__34 rfl (rfl) rfl
    · exact absurd c2 (by decide)
theorem lp_shareOf (X : Ctx) (d : Nat) (I : MI) (L : ML) (F : Nat) (sz : Nat → Nat) (nd : Nat → Nat → Nat × Nat × Nat × Nat) (hR : MR I F sz nd) (k : Nat) (hk : k < F) (x : Nat) (hx : x < 6) : ∀ (z i : Nat), i + z = 6 → Ev X mX6_shareOf (d + 2) (0, 0) (0, 0) (some (.long (shO (fun x => L 64 (6 * (20 * k + sz k - 1) + x)) (jO I) x 6)), shF, I, L) 5 [.ref 42, .int (nI k), .int (nI x), .long (shO (fun x => L 64 (6 * (20 * k + sz k - 1) + x)) (jO I) x i), .null, .int (nI i)] [] shF I L := by
  intro z
  induction z with
  | zero =>
    intro i hi
    obtain ⟨hF, hF4, hall⟩ := id hR
    obtain ⟨hs, hs1, hs20, -⟩ := hall k hk
    have hi2 : i = 6 := by omega
    rw [hi2]
    refine r_iload (pc := 5) dX6_shareOf_5 rfl ?_
    refine r_bipush (pc := 7) dX6_shareOf_7 bp_6 ?_
    refine r_icmpN_ge (pc := 9) (tgt := 44) dX6_shareOf_9 (by decide) (by omega) (by omega) (fun c1 => ?_) (fun c1 => ?_)
    · refine r_lload_n (pc := 44) dX6_shareOf_44 rfl ?_
      exact r_lret dX6_shareOf_45 rfl (rfl) rfl
    · exact absurd c1 (by decide)
  | succ z ih =>
    intro i hi
    obtain ⟨hF, hF4, hall⟩ := id hR
    obtain ⟨hs, hs1, hs20, -⟩ := hall k hk
    refine r_iload (pc := 5) dX6_shareOf_5 rfl ?_
    refine r_bipush (pc := 7) dX6_shareOf_7 bp_6 ?_
    refine r_icmpN_ge (pc := 9) (tgt := 44) dX6_shareOf_9 (by decide) (by omega) (by omega) (fun c2 => ?_) (fun c2 => ?_)
    · exact absurd c2 (by omega)
    · refine r_lload_n (pc := 12) dX6_shareOf_12 rfl ?_
      refine r_aload_n (pc := 13) dX6_shareOf_13 rfl ?_
      refine r_iload_n (pc := 14) dX6_shareOf_14 rfl ?_
      refine r_iload_n (pc := 15) dX6_shareOf_15 rfl ?_
      refine r_callV (pc := 16) (N := mX6_slopeOf) (rest := [.long (shO (fun x => L 64 (6 * (20 * k + sz k - 1) + x)) (jO I) x i)]) (s_mslopeOf X _ I L F sz nd hR k hk x (by omega)) okX6_slopeOf lkX6_249 rfl (by decide) rfl rfl rfl (Nat.le_of_ble_eq_true rfl) ⟨Nat.le_refl _, Nat.le_refl _⟩ dX6_shareOf_16 ?_
      refine r_aload_n (pc := 19) dX6_shareOf_19 rfl ?_
      refine r_iload_n (pc := 20) dX6_shareOf_20 rfl ?_
      refine r_iload (pc := 21) dX6_shareOf_21 rfl ?_
      refine r_callV (pc := 23) (N := mX6_slopeOf) (rest := [.long (L 64 (6 * (20 * k + sz k - 1) + x)), .long (shO (fun x => L 64 (6 * (20 * k + sz k - 1) + x)) (jO I) x i)]) (s_mslopeOf X _ I L F sz nd hR k hk i (by omega)) okX6_slopeOf lkX6_249 rfl (by decide) rfl rfl rfl (Nat.le_of_ble_eq_true rfl) ⟨Nat.le_refl _, Nat.le_refl _⟩ dX6_shareOf_23 ?_
      refine r_lmul (pc := 26) dX6_shareOf_26 ?_
      refine r_aload_n (pc := 27) dX6_shareOf_27 rfl ?_
      refine r_iload_n (pc := 28) dX6_shareOf_28 rfl ?_
      refine r_iload (pc := 29) dX6_shareOf_29 rfl ?_
      refine r_callV (pc := 31) (N := mX6_jointOf) (rest := [.long ((L 64 (6 * (20 * k + sz k - 1) + x)) * (L 64 (6 * (20 * k + sz k - 1) + i))), .long (shO (fun x => L 64 (6 * (20 * k + sz k - 1) + x)) (jO I) x i)]) (s_jointOf X _ I L x i (by omega) (by omega)) okX6_jointOf lkX6_213 rfl (by decide) rfl rfl rfl (Nat.le_of_ble_eq_true rfl) ⟨Nat.le_refl _, Nat.le_refl _⟩ dX6_shareOf_31 ?_
      refine r_i2l (pc := 34) dX6_shareOf_34 ?_
      refine r_lmul (pc := 35) dX6_shareOf_35 ?_
      refine r_ladd (pc := 36) dX6_shareOf_36 ?_
      refine r_lstore_n (pc := 37) (lo1 := [.ref 42, .int (nI k), .int (nI x), .long ((shO (fun x => L 64 (6 * (20 * k + sz k - 1) + x)) (jO I) x i) + (((L 64 (6 * (20 * k + sz k - 1) + x)) * (L 64 (6 * (20 * k + sz k - 1) + i))) * ((jO I x i).toInt64))), .null, .int (nI i)]) dX6_shareOf_37 rfl (by decide) rfl ?_
      refine r_iinc (pc := 38) (v := nI (i + 1)) (lo1 := [.ref 42, .int (nI k), .int (nI x), .long ((shO (fun x => L 64 (6 * (20 * k + sz k - 1) + x)) (jO I) x i) + (((L 64 (6 * (20 * k + sz k - 1) + x)) * (L 64 (6 * (20 * k + sz k - 1) + i))) * ((jO I x i).toInt64))), .null, .int (nI (i + 1))]) dX6_shareOf_38 rfl rfl (ii1 _) (by decide) rfl ?_
      refine r_goto (pc := 41) (tgt := 5) dX6_shareOf_41 (by decide) ?_
      exact ih (i + 1) (by omega)
theorem s_shareOf (X : Ctx) (d : Nat) (I : MI) (L : ML) (F : Nat) (sz : Nat → Nat) (nd : Nat → Nat → Nat × Nat × Nat × Nat) (hR : MR I F sz nd) (k : Nat) (hk : k < F) (x : Nat) (hx : x < 6) : Sp X mX6_shareOf (d + 2) (0, 0) [.ref 42, .int (nI k), .int (nI x)] shF I L (some (.long (shO (fun x => L 64 (6 * (20 * k + sz k - 1) + x)) (jO I) x 6)), shF, I, L) := by
  obtain ⟨hF, hF4, hall⟩ := id hR
  obtain ⟨hs, hs1, hs20, -⟩ := hall k hk
  refine Sp.of okX6_shareOf [.ref 42, .int (nI k), .int (nI x), .null, .null, .null] 3 rfl (Nat.le_of_ble_eq_true rfl) ?_
  refine r_lconst (pc := 0) (v := 0) dX6_shareOf_0 rfl ?_
  refine r_lstore_n (pc := 1) (lo1 := [.ref 42, .int (nI k), .int (nI x), .long (0), .null, .null]) dX6_shareOf_1 rfl (by decide) rfl ?_
  refine r_iconst (pc := 2) (v := nI 0) dX6_shareOf_2 rfl ?_
  refine r_istore (pc := 3) (lo1 := [.ref 42, .int (nI k), .int (nI x), .long (0), .null, .int (nI 0)]) dX6_shareOf_3 rfl (by decide) rfl ?_
  exact lp_shareOf X d I L F sz nd hR k hk x hx 6 0 rfl
theorem q_share (X : Ctx) (d : Nat) (I : MI) (L : ML) (F : Nat) (sz : Nat → Nat) (nd : Nat → Nat → Nat × Nat × Nat × Nat) (hR : MR I F sz nd) (k : Nat) (hk : k < F) (x : Nat) (hx : x < 6) : Sp X mX6_share (d + 3) (0, 0) [.ref 42, .int (nI k), .int (nI x)] shF I L (some (.long (shO (fun x => (goL (I 55) sz nd L F) 64 (6 * (20 * k + sz k - 1) + x)) (jO I) x 6)), shF, (u2 I 42 0 (nI 0)), (goL (I 55) sz nd L F)) := by
  obtain ⟨hF, hF4, hall⟩ := id hR
  obtain ⟨hs, hs1, hs20, -⟩ := hall k hk
  refine Sp.of okX6_share [.ref 42, .int (nI k), .int (nI x)] 0 rfl (Nat.le_of_ble_eq_true rfl) ?_
  refine r_aload_n (pc := 0) dX6_share_0 rfl ?_
  refine r_iconst (pc := 1) (v := nI 0) dX6_share_1 rfl ?_
  refine r_put (pc := 2) .int dX6_share_2 fX6_93 rfl rfl nf6_0 rfl rfl ?_
  refine r_aload_n (pc := 5) dX6_share_5 rfl ?_
  refine r_iload_n (pc := 6) dX6_share_6 rfl ?_
  refine r_callV (pc := 7) (N := mX6_isFormula) (rest := []) (s_isFormula_t X _ (u2 I 42 0 (nI 0)) L F k (hF) (by omega) hF4) okX6_isFormula lkX6_243 rfl (by decide) rfl rfl rfl (Nat.le_of_ble_eq_true rfl) ⟨Nat.le_refl _, Nat.le_refl _⟩ dX6_share_7 ?_
  refine r_ifN_eq (pc := 10) (tgt := 20) dX6_share_10 (by decide) (by omega) (fun c1 => ?_) (fun c1 => ?_)
  · exact absurd c1 (by decide)
  · refine r_iload_n (pc := 13) dX6_share_13 rfl ?_
    refine r_callS (pc := 14) (N := mX6_isSource) (rest := []) (s_misSource_t X _ (u2 I 42 0 (nI 0)) L x (by omega)) okX6_isSource lkX6_208 rfl rfl (Nat.le_of_ble_eq_true rfl) ⟨Nat.le_refl _, Nat.le_refl _⟩ dX6_share_14 ?_
    refine r_ifN_ne (pc := 17) (tgt := 24) dX6_share_17 (by decide) (by omega) (fun c2 => ?_) (fun c2 => ?_)
    · refine r_aload_n (pc := 24) dX6_share_24 rfl ?_
      refine r_callV (pc := 25) (N := mX6_goes) (rest := []) (s_goes X _ (u2 I 42 0 (nI 0)) L F sz nd (MR_th hR) (hF) hF4) okX6_goes lkX6_246 rfl (by decide) rfl rfl rfl (Nat.le_of_ble_eq_true rfl) ⟨Nat.le_refl _, Nat.le_refl _⟩ dX6_share_25 ?_
      refine r_aload_n (pc := 28) dX6_share_28 rfl ?_
      refine r_iload_n (pc := 29) dX6_share_29 rfl ?_
      refine r_iload_n (pc := 30) dX6_share_30 rfl ?_
      refine r_callV (pc := 31) (N := mX6_shareOf) (rest := []) (s_shareOf X _ (u2 I 42 0 (nI 0)) (goL (I 55) sz nd L F) F sz nd (MR_th hR) k hk x (by omega)) okX6_shareOf lkX6_260 rfl (by decide) rfl rfl rfl (Nat.le_of_ble_eq_true rfl) ⟨Nat.le_refl _, Nat.le_refl _⟩ dX6_share_31 ?_
      exact r_lret dX6_share_34 rfl (rfl) rfl
    · exact absurd c2 (by decide)
