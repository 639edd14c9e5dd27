theorem nI_nm9 {t : Nat} (h : t < 2 ^ 31) : ¬ nI t = -9 := by
  intro q
  have a := nI_toInt h
  rw [q] at a
  have b : ((-9 : Int32)).toInt = -9 := by decide
  omega
/-! the reference goes through all nodes; nd f e: sort, number (or source, formula, power), left, right -/
def ndM (vs : Nat → Int32) (sz : Nat → Nat) (q : Nat × Nat × Nat × Nat) (L : ML) (f e : Nat) : ML :=
  if q.1 = 0 then ndL L (20 * f + e) (nI q.2.1).toInt64 (fun _ => 0) (fun _ => 0)
  else if q.1 = 1 then ndL L (20 * f + e) (vs q.2.1).toInt64 (fun x => if q.2.1 = x then 1 else 0) (fun _ => 0)
  else if q.1 = 2 then ndL L (20 * f + e) (L 63 (20 * q.2.1 + sz q.2.1 - 1)) (fun x => L 64 (6 * (20 * q.2.1 + sz q.2.1 - 1) + x)) (fun c => L 65 (36 * (20 * q.2.1 + sz q.2.1 - 1) + c))
  else if q.1 = 110 then ndL L (20 * f + e) (-(L 63 (20 * f + q.2.2.1))) (fun x => (-1) * L 64 (6 * (20 * f + q.2.2.1) + x)) (fun c => (0) * L 64 (6 * (20 * f + q.2.2.1) + c / 6) * L 64 (6 * (20 * f + q.2.2.1) + c % 6) + (-1) * L 65 (36 * (20 * f + q.2.2.1) + c))
  else if q.1 = 94 ∧ q.2.1 = 0 then ndL L (20 * f + e) (pw (L 63 (20 * f + q.2.2.1)) 0) (fun x => (0) * L 64 (6 * (20 * f + q.2.2.1) + x)) (fun c => (0) * L 64 (6 * (20 * f + q.2.2.1) + c / 6) * L 64 (6 * (20 * f + q.2.2.1) + c % 6) + (0) * L 65 (36 * (20 * f + q.2.2.1) + c))
  else if q.1 = 94 ∧ q.2.1 = 1 then ndL L (20 * f + e) (pw (L 63 (20 * f + q.2.2.1)) 1) (fun x => ((nI 1).toInt64 * pw (L 63 (20 * f + q.2.2.1)) 0) * L 64 (6 * (20 * f + q.2.2.1) + x)) (fun c => (0) * L 64 (6 * (20 * f + q.2.2.1) + c / 6) * L 64 (6 * (20 * f + q.2.2.1) + c % 6) + ((nI 1).toInt64 * pw (L 63 (20 * f + q.2.2.1)) 0) * L 65 (36 * (20 * f + q.2.2.1) + c))
  else if q.1 = 94 ∧ q.2.1 = 2 then ndL L (20 * f + e) (pw (L 63 (20 * f + q.2.2.1)) 2) (fun x => ((nI 2).toInt64 * pw (L 63 (20 * f + q.2.2.1)) 1) * L 64 (6 * (20 * f + q.2.2.1) + x)) (fun c => ((nI 2).toInt64 * (nI 1).toInt64 * pw (L 63 (20 * f + q.2.2.1)) 0) * L 64 (6 * (20 * f + q.2.2.1) + c / 6) * L 64 (6 * (20 * f + q.2.2.1) + c % 6) + ((nI 2).toInt64 * pw (L 63 (20 * f + q.2.2.1)) 1) * L 65 (36 * (20 * f + q.2.2.1) + c))
  else if q.1 = 94 ∧ q.2.1 = 3 then ndL L (20 * f + e) (pw (L 63 (20 * f + q.2.2.1)) 3) (fun x => ((nI 3).toInt64 * pw (L 63 (20 * f + q.2.2.1)) 2) * L 64 (6 * (20 * f + q.2.2.1) + x)) (fun c => ((nI 3).toInt64 * (nI 2).toInt64 * pw (L 63 (20 * f + q.2.2.1)) 1) * L 64 (6 * (20 * f + q.2.2.1) + c / 6) * L 64 (6 * (20 * f + q.2.2.1) + c % 6) + ((nI 3).toInt64 * pw (L 63 (20 * f + q.2.2.1)) 2) * L 65 (36 * (20 * f + q.2.2.1) + c))
  else if q.1 = 94 ∧ q.2.1 = 4 then ndL L (20 * f + e) (pw (L 63 (20 * f + q.2.2.1)) 4) (fun x => ((nI 4).toInt64 * pw (L 63 (20 * f + q.2.2.1)) 3) * L 64 (6 * (20 * f + q.2.2.1) + x)) (fun c => ((nI 4).toInt64 * (nI 3).toInt64 * pw (L 63 (20 * f + q.2.2.1)) 2) * L 64 (6 * (20 * f + q.2.2.1) + c / 6) * L 64 (6 * (20 * f + q.2.2.1) + c % 6) + ((nI 4).toInt64 * pw (L 63 (20 * f + q.2.2.1)) 3) * L 65 (36 * (20 * f + q.2.2.1) + c))
  else if q.1 = 42 then ndL L (20 * f + e) (L 63 (20 * f + q.2.2.1) * L 63 (20 * f + q.2.2.2)) (fun x => (L 63 (20 * f + q.2.2.2)) * L 64 (6 * (20 * f + q.2.2.1) + x) + (L 63 (20 * f + q.2.2.1)) * L 64 (6 * (20 * f + q.2.2.2) + x)) (fun c => (L 63 (20 * f + q.2.2.2)) * L 65 (36 * (20 * f + q.2.2.1) + c) + (L 63 (20 * f + q.2.2.1)) * L 65 (36 * (20 * f + q.2.2.2) + c) + (L 64 (6 * (20 * f + q.2.2.1) + c / 6) * L 64 (6 * (20 * f + q.2.2.2) + c % 6) + L 64 (6 * (20 * f + q.2.2.1) + c % 6) * L 64 (6 * (20 * f + q.2.2.2) + c / 6)))
  else if q.1 = 43 then ndL L (20 * f + e) (L 63 (20 * f + q.2.2.1) + 1 * L 63 (20 * f + q.2.2.2)) (fun x => (1) * L 64 (6 * (20 * f + q.2.2.1) + x) + (1) * L 64 (6 * (20 * f + q.2.2.2) + x)) (fun c => (1) * L 65 (36 * (20 * f + q.2.2.1) + c) + (1) * L 65 (36 * (20 * f + q.2.2.2) + c) + 0)
  else if q.1 = 45 then ndL L (20 * f + e) (L 63 (20 * f + q.2.2.1) + -1 * L 63 (20 * f + q.2.2.2)) (fun x => (1) * L 64 (6 * (20 * f + q.2.2.1) + x) + (-1) * L 64 (6 * (20 * f + q.2.2.2) + x)) (fun c => (1) * L 65 (36 * (20 * f + q.2.2.1) + c) + (-1) * L 65 (36 * (20 * f + q.2.2.2) + c) + 0)
  else L
theorem ndM_0 {vs : Nat → Int32} {sz : Nat → Nat} {q : Nat × Nat × Nat × Nat} {L : ML} {f e : Nat} (h0 : q.1 = 0) : ndM vs sz q L f e = ndL L (20 * f + e) (nI q.2.1).toInt64 (fun _ => 0) (fun _ => 0) := by
  unfold ndM
  rw [if_pos (by omega)]
theorem ndM_1 {vs : Nat → Int32} {sz : Nat → Nat} {q : Nat × Nat × Nat × Nat} {L : ML} {f e : Nat} (h0 : q.1 = 1) : ndM vs sz q L f e = ndL L (20 * f + e) (vs q.2.1).toInt64 (fun x => if q.2.1 = x then 1 else 0) (fun _ => 0) := by
  unfold ndM
  rw [if_neg (by omega), if_pos (by omega)]
theorem ndM_2 {vs : Nat → Int32} {sz : Nat → Nat} {q : Nat × Nat × Nat × Nat} {L : ML} {f e : Nat} (h0 : q.1 = 2) : ndM vs sz q L f e = ndL L (20 * f + e) (L 63 (20 * q.2.1 + sz q.2.1 - 1)) (fun x => L 64 (6 * (20 * q.2.1 + sz q.2.1 - 1) + x)) (fun c => L 65 (36 * (20 * q.2.1 + sz q.2.1 - 1) + c)) := by
  unfold ndM
  rw [if_neg (by omega), if_neg (by omega), if_pos (by omega)]
theorem ndM_110 {vs : Nat → Int32} {sz : Nat → Nat} {q : Nat × Nat × Nat × Nat} {L : ML} {f e : Nat} (h0 : q.1 = 110) : ndM vs sz q L f e = ndL L (20 * f + e) (-(L 63 (20 * f + q.2.2.1))) (fun x => (-1) * L 64 (6 * (20 * f + q.2.2.1) + x)) (fun c => (0) * L 64 (6 * (20 * f + q.2.2.1) + c / 6) * L 64 (6 * (20 * f + q.2.2.1) + c % 6) + (-1) * L 65 (36 * (20 * f + q.2.2.1) + c)) := by
  unfold ndM
  rw [if_neg (by omega), if_neg (by omega), if_neg (by omega), if_pos (by omega)]
theorem ndM_94_0 {vs : Nat → Int32} {sz : Nat → Nat} {q : Nat × Nat × Nat × Nat} {L : ML} {f e : Nat} (h0 : q.1 = 94) (h1 : q.2.1 = 0) : ndM vs sz q L f e = ndL L (20 * f + e) (pw (L 63 (20 * f + q.2.2.1)) 0) (fun x => (0) * L 64 (6 * (20 * f + q.2.2.1) + x)) (fun c => (0) * L 64 (6 * (20 * f + q.2.2.1) + c / 6) * L 64 (6 * (20 * f + q.2.2.1) + c % 6) + (0) * L 65 (36 * (20 * f + q.2.2.1) + c)) := by
  unfold ndM
  rw [if_neg (by omega), if_neg (by omega), if_neg (by omega), if_neg (by omega), if_pos (by omega)]
theorem ndM_94_1 {vs : Nat → Int32} {sz : Nat → Nat} {q : Nat × Nat × Nat × Nat} {L : ML} {f e : Nat} (h0 : q.1 = 94) (h1 : q.2.1 = 1) : ndM vs sz q L f e = ndL L (20 * f + e) (pw (L 63 (20 * f + q.2.2.1)) 1) (fun x => ((nI 1).toInt64 * pw (L 63 (20 * f + q.2.2.1)) 0) * L 64 (6 * (20 * f + q.2.2.1) + x)) (fun c => (0) * L 64 (6 * (20 * f + q.2.2.1) + c / 6) * L 64 (6 * (20 * f + q.2.2.1) + c % 6) + ((nI 1).toInt64 * pw (L 63 (20 * f + q.2.2.1)) 0) * L 65 (36 * (20 * f + q.2.2.1) + c)) := by
  unfold ndM
  rw [if_neg (by omega), if_neg (by omega), if_neg (by omega), if_neg (by omega), if_neg (by omega), if_pos (by omega)]
theorem ndM_94_2 {vs : Nat → Int32} {sz : Nat → Nat} {q : Nat × Nat × Nat × Nat} {L : ML} {f e : Nat} (h0 : q.1 = 94) (h1 : q.2.1 = 2) : ndM vs sz q L f e = ndL L (20 * f + e) (pw (L 63 (20 * f + q.2.2.1)) 2) (fun x => ((nI 2).toInt64 * pw (L 63 (20 * f + q.2.2.1)) 1) * L 64 (6 * (20 * f + q.2.2.1) + x)) (fun c => ((nI 2).toInt64 * (nI 1).toInt64 * pw (L 63 (20 * f + q.2.2.1)) 0) * L 64 (6 * (20 * f + q.2.2.1) + c / 6) * L 64 (6 * (20 * f + q.2.2.1) + c % 6) + ((nI 2).toInt64 * pw (L 63 (20 * f + q.2.2.1)) 1) * L 65 (36 * (20 * f + q.2.2.1) + c)) := by
  unfold ndM
  rw [if_neg (by omega), if_neg (by omega), if_neg (by omega), if_neg (by omega), if_neg (by omega), if_neg (by omega), if_pos (by omega)]
theorem ndM_94_3 {vs : Nat → Int32} {sz : Nat → Nat} {q : Nat × Nat × Nat × Nat} {L : ML} {f e : Nat} (h0 : q.1 = 94) (h1 : q.2.1 = 3) : ndM vs sz q L f e = ndL L (20 * f + e) (pw (L 63 (20 * f + q.2.2.1)) 3) (fun x => ((nI 3).toInt64 * pw (L 63 (20 * f + q.2.2.1)) 2) * L 64 (6 * (20 * f + q.2.2.1) + x)) (fun c => ((nI 3).toInt64 * (nI 2).toInt64 * pw (L 63 (20 * f + q.2.2.1)) 1) * L 64 (6 * (20 * f + q.2.2.1) + c / 6) * L 64 (6 * (20 * f + q.2.2.1) + c % 6) + ((nI 3).toInt64 * pw (L 63 (20 * f + q.2.2.1)) 2) * L 65 (36 * (20 * f + q.2.2.1) + c)) := by
  unfold ndM
  rw [if_neg (by omega), if_neg (by omega), if_neg (by omega), if_neg (by omega), if_neg (by omega), if_neg (by omega), if_neg (by omega), if_pos (by omega)]
theorem ndM_94_4 {vs : Nat → Int32} {sz : Nat → Nat} {q : Nat × Nat × Nat × Nat} {L : ML} {f e : Nat} (h0 : q.1 = 94) (h1 : q.2.1 = 4) : ndM vs sz q L f e = ndL L (20 * f + e) (pw (L 63 (20 * f + q.2.2.1)) 4) (fun x => ((nI 4).toInt64 * pw (L 63 (20 * f + q.2.2.1)) 3) * L 64 (6 * (20 * f + q.2.2.1) + x)) (fun c => ((nI 4).toInt64 * (nI 3).toInt64 * pw (L 63 (20 * f + q.2.2.1)) 2) * L 64 (6 * (20 * f + q.2.2.1) + c / 6) * L 64 (6 * (20 * f + q.2.2.1) + c % 6) + ((nI 4).toInt64 * pw (L 63 (20 * f + q.2.2.1)) 3) * L 65 (36 * (20 * f + q.2.2.1) + c)) := by
  unfold ndM
  rw [if_neg (by omega), if_neg (by omega), if_neg (by omega), if_neg (by omega), if_neg (by omega), if_neg (by omega), if_neg (by omega), if_neg (by omega), if_pos (by omega)]
theorem ndM_42 {vs : Nat → Int32} {sz : Nat → Nat} {q : Nat × Nat × Nat × Nat} {L : ML} {f e : Nat} (h0 : q.1 = 42) : ndM vs sz q L f e = ndL L (20 * f + e) (L 63 (20 * f + q.2.2.1) * L 63 (20 * f + q.2.2.2)) (fun x => (L 63 (20 * f + q.2.2.2)) * L 64 (6 * (20 * f + q.2.2.1) + x) + (L 63 (20 * f + q.2.2.1)) * L 64 (6 * (20 * f + q.2.2.2) + x)) (fun c => (L 63 (20 * f + q.2.2.2)) * L 65 (36 * (20 * f + q.2.2.1) + c) + (L 63 (20 * f + q.2.2.1)) * L 65 (36 * (20 * f + q.2.2.2) + c) + (L 64 (6 * (20 * f + q.2.2.1) + c / 6) * L 64 (6 * (20 * f + q.2.2.2) + c % 6) + L 64 (6 * (20 * f + q.2.2.1) + c % 6) * L 64 (6 * (20 * f + q.2.2.2) + c / 6))) := by
  unfold ndM
  rw [if_neg (by omega), if_neg (by omega), if_neg (by omega), if_neg (by omega), if_neg (by omega), if_neg (by omega), if_neg (by omega), if_neg (by omega), if_neg (by omega), if_pos (by omega)]
theorem ndM_43 {vs : Nat → Int32} {sz : Nat → Nat} {q : Nat × Nat × Nat × Nat} {L : ML} {f e : Nat} (h0 : q.1 = 43) : ndM vs sz q L f e = ndL L (20 * f + e) (L 63 (20 * f + q.2.2.1) + 1 * L 63 (20 * f + q.2.2.2)) (fun x => (1) * L 64 (6 * (20 * f + q.2.2.1) + x) + (1) * L 64 (6 * (20 * f + q.2.2.2) + x)) (fun c => (1) * L 65 (36 * (20 * f + q.2.2.1) + c) + (1) * L 65 (36 * (20 * f + q.2.2.2) + c) + 0) := by
  unfold ndM
  rw [if_neg (by omega), if_neg (by omega), if_neg (by omega), if_neg (by omega), if_neg (by omega), if_neg (by omega), if_neg (by omega), if_neg (by omega), if_neg (by omega), if_neg (by omega), if_pos (by omega)]
theorem ndM_45 {vs : Nat → Int32} {sz : Nat → Nat} {q : Nat × Nat × Nat × Nat} {L : ML} {f e : Nat} (h0 : q.1 = 45) : ndM vs sz q L f e = ndL L (20 * f + e) (L 63 (20 * f + q.2.2.1) + -1 * L 63 (20 * f + q.2.2.2)) (fun x => (1) * L 64 (6 * (20 * f + q.2.2.1) + x) + (-1) * L 64 (6 * (20 * f + q.2.2.2) + x)) (fun c => (1) * L 65 (36 * (20 * f + q.2.2.1) + c) + (-1) * L 65 (36 * (20 * f + q.2.2.2) + c) + 0) := by
  unfold ndM
  rw [if_neg (by omega), if_neg (by omega), if_neg (by omega), if_neg (by omega), if_neg (by omega), if_neg (by omega), if_neg (by omega), if_neg (by omega), if_neg (by omega), if_neg (by omega), if_neg (by omega), if_pos (by omega)]
def giL (vs : Nat → Int32) (sz : Nat → Nat) (nd : Nat → Nat → Nat × Nat × Nat × Nat) (f : Nat) (L : ML) : Nat → ML
  | 0 => L
  | e + 1 => ndM vs sz (nd f e) (giL vs sz nd f L e) f e
def goL (vs : Nat → Int32) (sz : Nat → Nat) (nd : Nat → Nat → Nat × Nat × Nat × Nat) (L : ML) : Nat → ML
  | 0 => L
  | f + 1 => giL vs sz nd f (goL vs sz nd L f) (sz f)
def NDok (q : Nat × Nat × Nat × Nat) (f e : Nat) : Prop := q.1 = 0 ∨ (q.1 = 1 ∧ q.2.1 < 6) ∨ (q.1 = 2 ∧ q.2.1 < f) ∨ (q.1 = 110 ∧ q.2.2.1 < e) ∨ (q.1 = 94 ∧ q.2.1 ≤ 4 ∧ q.2.2.1 < e) ∨ ((q.1 = 42 ∨ q.1 = 43 ∨ q.1 = 45) ∧ q.2.2.1 < e ∧ q.2.2.2 < e)
/-- the reference's rows hold the formulas -/
def MRn (I : MI) (q : Nat × Nat × Nat × Nat) (k : Nat) : Prop := I 45 k = nI q.1 ∧ I 46 k = nI q.2.1 ∧ (42 ≤ q.1 → I 47 k = nI q.2.2.1) ∧ (q.1 = 42 ∨ q.1 = 43 ∨ q.1 = 45 → I 48 k = nI q.2.2.2) ∧ (q.1 = 94 ∨ q.1 = 110 → I 48 k = -9)
def MR (I : MI) (F : Nat) (sz : Nat → Nat) (nd : Nat → Nat → Nat × Nat × Nat × Nat) : Prop := I 42 8 = nI F ∧ F ≤ 4 ∧ ∀ f, f < F → I 44 f = nI (sz f) ∧ 1 ≤ sz f ∧ sz f ≤ 20 ∧ ∀ e, e < sz f → NDok (nd f e) f e ∧ MRn I (nd f e) (20 * f + e)
theorem s_mroot (X : Ctx) (d : Nat) (I : MI) (L : ML) (g s : Nat) (hg : g < 4) (hs : I 44 g = nI s) (h1 : 1 ≤ s) (h2 : s ≤ 20) : Sp X mX6_rootOf (d + 0) (0, 0) [.ref 42, .int (nI g)] shF I L (some (.int (nI (20 * g + s - 1))), shF, I, L) := by
  refine Sp.of okX6_rootOf [.ref 42, .int (nI g)] 0 rfl (Nat.le_of_ble_eq_true rfl) ?_
  refine r_bipush (pc := 0) dX6_rootOf_0 bp_20 ?_
  refine r_iload_n (pc := 2) dX6_rootOf_2 rfl ?_
  refine r_imulN (pc := 3) dX6_rootOf_3 ?_
  refine r_aload_n (pc := 4) dX6_rootOf_4 rfl ?_
  refine r_getR (pc := 5) (b := 44) dX6_rootOf_5 fX6_13 rfl rfl ?_
  refine r_iload_n (pc := 8) dX6_rootOf_8 rfl ?_
  refine r_ialdV (pc := 9) (j := g) (v := nI s) dX6_rootOf_9 rfl rfl (by omega) (by decide) (hs) ?_
  refine r_iaddN (pc := 10) dX6_rootOf_10 ?_
  refine r_iconst (pc := 11) (v := nI 1) dX6_rootOf_11 rfl ?_
  refine r_isubN (pc := 12) dX6_rootOf_12 (by omega) ?_
  exact r_iret dX6_rootOf_13 rfl (rfl) rfl
theorem lp_goes_in (X : Ctx) (d : Nat) (I : MI) (L : ML) (F : Nat) (sz : Nat → Nat) (nd : Nat → Nat → Nat × Nat × Nat × Nat) (hR : MR I F sz nd) (f : Nat) (hf : f < F) (T : TR) (K : Ev X mX6_goes (d + 2) (0, 0) (0, 0) T 2 [.ref 42, .int (nI (f + 1)), .null, .null] [] shF I (giL (I 55) sz nd f L (sz f))) : ∀ (z e : Nat), e + z = sz f → Ev X mX6_goes (d + 2) (0, 0) (0, 0) T 12 [.ref 42, .int (nI f), .int (nI e), .null] [] shF I (giL (I 55) sz nd f L e) := by
  obtain ⟨hF, hF4, hall⟩ := hR
  obtain ⟨hs, hs1, hs20, hnd⟩ := hall f hf
  intro z
  induction z with
  | zero =>
    intro e he
    have he2 : e = sz f := by omega
    rw [he2]
    refine r_iload_n (pc := 12) dX6_goes_12 rfl ?_
    refine r_aload_n (pc := 13) dX6_goes_13 rfl ?_
    refine r_getR (pc := 14) (b := 44) dX6_goes_14 fX6_13 rfl rfl ?_
    refine r_iload_n (pc := 17) dX6_goes_17 rfl ?_
    refine r_ialdV (pc := 18) (j := f) (v := nI (sz f)) dX6_goes_18 rfl rfl (by omega) (by decide) (hs) ?_
    refine r_icmpN_ge (pc := 19) (tgt := 147) dX6_goes_19 (by decide) (by omega) (by omega) (fun c1 => ?_) (fun c1 => ?_)
    · refine r_iinc (pc := 147) (v := nI (f + 1)) (lo1 := [.ref 42, .int (nI (f + 1)), .int (nI (sz f)), .null]) dX6_goes_147 rfl rfl (ii1 _) (by decide) rfl ?_
      refine r_goto (pc := 150) (tgt := 2) dX6_goes_150 (by decide) ?_
      refine r_drop (lo1 := [.ref 42, .int (nI (f + 1)), .null, .null]) 2 rfl ?_
      exact K
    · exact absurd c1 (by omega)
  | succ z ih =>
    intro e he
    obtain ⟨hok, h45, h46, h47, h48, h48n⟩ := hnd e (by omega)
    rcases hok with q1 | ⟨q1, q2⟩ | ⟨q1, q2⟩ | ⟨q1, q2⟩ | ⟨q1, q2, q3⟩ | ⟨q1, q2, q3⟩
    · have p45 : I 45 (20 * f + e) = nI 0 := by rw [h45, q1]
      refine r_iload_n (pc := 12) dX6_goes_12 rfl ?_
      refine r_aload_n (pc := 13) dX6_goes_13 rfl ?_
      refine r_getR (pc := 14) (b := 44) dX6_goes_14 fX6_13 rfl rfl ?_
      refine r_iload_n (pc := 17) dX6_goes_17 rfl ?_
      refine r_ialdV (pc := 18) (j := f) (v := nI (sz f)) dX6_goes_18 rfl rfl (by omega) (by decide) (hs) ?_
      refine r_icmpN_ge (pc := 19) (tgt := 147) dX6_goes_19 (by decide) (by omega) (by omega) (fun c1 => ?_) (fun c1 => ?_)
      · exact absurd c1 (by omega)
      · refine r_bipush (pc := 22) dX6_goes_22 bp_20 ?_
        refine r_iload_n (pc := 24) dX6_goes_24 rfl ?_
        refine r_imulN (pc := 25) dX6_goes_25 ?_
        refine r_iload_n (pc := 26) dX6_goes_26 rfl ?_
        refine r_iaddN (pc := 27) dX6_goes_27 ?_
        refine r_istore_n (pc := 28) (lo1 := [.ref 42, .int (nI f), .int (nI e), .int (nI ((20 * f) + e))]) dX6_goes_28 rfl (by decide) rfl ?_
        refine r_aload_n (pc := 29) dX6_goes_29 rfl ?_
        refine r_getR (pc := 30) (b := 45) dX6_goes_30 fX6_16 rfl rfl ?_
        refine r_iload_n (pc := 33) dX6_goes_33 rfl ?_
        refine r_ialdV (pc := 34) (j := (20 * f) + e) (v := nI 0) dX6_goes_34 rfl rfl (by omega) (by decide) (p45) ?_
        refine r_ifN_eq (pc := 35) (tgt := 48) dX6_goes_35 (by decide) (by omega) (fun c2 => ?_) (fun c2 => ?_)
        · refine r_aload_n (pc := 48) dX6_goes_48 rfl ?_
          refine r_iload_n (pc := 49) dX6_goes_49 rfl ?_
          refine r_callV (pc := 50) (N := mX6_goesLeaf) (rest := []) (s_leaf0 X _ I (giL (I 55) sz nd f L e) (20 * f + e) (by omega) (nI (nd f e).2.1) p45 h46) okX6_goesLeaf lkX6_226 rfl (by decide) rfl rfl rfl (Nat.le_of_ble_eq_true rfl) ⟨Nat.le_refl _, Nat.le_refl _⟩ dX6_goes_50 ?_
          refine r_goto (pc := 53) (tgt := 141) dX6_goes_53 (by decide) ?_
          refine r_iinc (pc := 141) (v := nI (e + 1)) (lo1 := [.ref 42, .int (nI f), .int (nI (e + 1)), .int (nI ((20 * f) + e))]) dX6_goes_141 rfl rfl (ii1 _) (by decide) rfl ?_
          refine r_goto (pc := 144) (tgt := 12) dX6_goes_144 (by decide) ?_
          refine r_drop (lo1 := [.ref 42, .int (nI f), .int (nI (e + 1)), .null]) 3 rfl ?_
          refine r_L (L' := (giL (I 55) sz nd f L (e + 1))) ((ndM_0 q1).symm) ?_
          exact ih (e + 1) (by omega)
        · exact absurd c2 (by decide)
    · have p45 : I 45 (20 * f + e) = nI 1 := by rw [h45, q1]
      refine r_iload_n (pc := 12) dX6_goes_12 rfl ?_
      refine r_aload_n (pc := 13) dX6_goes_13 rfl ?_
      refine r_getR (pc := 14) (b := 44) dX6_goes_14 fX6_13 rfl rfl ?_
      refine r_iload_n (pc := 17) dX6_goes_17 rfl ?_
      refine r_ialdV (pc := 18) (j := f) (v := nI (sz f)) dX6_goes_18 rfl rfl (by omega) (by decide) (hs) ?_
      refine r_icmpN_ge (pc := 19) (tgt := 147) dX6_goes_19 (by decide) (by omega) (by omega) (fun c1 => ?_) (fun c1 => ?_)
      · exact absurd c1 (by omega)
      · refine r_bipush (pc := 22) dX6_goes_22 bp_20 ?_
        refine r_iload_n (pc := 24) dX6_goes_24 rfl ?_
        refine r_imulN (pc := 25) dX6_goes_25 ?_
        refine r_iload_n (pc := 26) dX6_goes_26 rfl ?_
        refine r_iaddN (pc := 27) dX6_goes_27 ?_
        refine r_istore_n (pc := 28) (lo1 := [.ref 42, .int (nI f), .int (nI e), .int (nI ((20 * f) + e))]) dX6_goes_28 rfl (by decide) rfl ?_
        refine r_aload_n (pc := 29) dX6_goes_29 rfl ?_
        refine r_getR (pc := 30) (b := 45) dX6_goes_30 fX6_16 rfl rfl ?_
        refine r_iload_n (pc := 33) dX6_goes_33 rfl ?_
        refine r_ialdV (pc := 34) (j := (20 * f) + e) (v := nI 1) dX6_goes_34 rfl rfl (by omega) (by decide) (p45) ?_
        refine r_ifN_eq (pc := 35) (tgt := 48) dX6_goes_35 (by decide) (by omega) (fun c2 => ?_) (fun c2 => ?_)
        · exact absurd c2 (by decide)
        · refine r_aload_n (pc := 38) dX6_goes_38 rfl ?_
          refine r_getR (pc := 39) (b := 45) dX6_goes_39 fX6_16 rfl rfl ?_
          refine r_iload_n (pc := 42) dX6_goes_42 rfl ?_
          refine r_ialdV (pc := 43) (j := (20 * f) + e) (v := nI 1) dX6_goes_43 rfl rfl (by omega) (by decide) (p45) ?_
          refine r_iconst (pc := 44) (v := nI 1) dX6_goes_44 rfl ?_
          refine r_icmpN_ne (pc := 45) (tgt := 56) dX6_goes_45 (by decide) (by omega) (by omega) (fun c3 => ?_) (fun c3 => ?_)
          · exact absurd c3 (by decide)
          · refine r_aload_n (pc := 48) dX6_goes_48 rfl ?_
            refine r_iload_n (pc := 49) dX6_goes_49 rfl ?_
            refine r_callV (pc := 50) (N := mX6_goesLeaf) (rest := []) (s_leaf1 X _ I (giL (I 55) sz nd f L e) (20 * f + e) (nd f e).2.1 (by omega) q2 p45 h46) okX6_goesLeaf lkX6_226 rfl (by decide) rfl rfl rfl (Nat.le_of_ble_eq_true rfl) ⟨Nat.le_refl _, Nat.le_refl _⟩ dX6_goes_50 ?_
            refine r_goto (pc := 53) (tgt := 141) dX6_goes_53 (by decide) ?_
            refine r_iinc (pc := 141) (v := nI (e + 1)) (lo1 := [.ref 42, .int (nI f), .int (nI (e + 1)), .int (nI ((20 * f) + e))]) dX6_goes_141 rfl rfl (ii1 _) (by decide) rfl ?_
            refine r_goto (pc := 144) (tgt := 12) dX6_goes_144 (by decide) ?_
            refine r_drop (lo1 := [.ref 42, .int (nI f), .int (nI (e + 1)), .null]) 3 rfl ?_
            refine r_L (L' := (giL (I 55) sz nd f L (e + 1))) ((ndM_1 q1).symm) ?_
            exact ih (e + 1) (by omega)
    · have p45 : I 45 (20 * f + e) = nI 2 := by rw [h45, q1]
      obtain ⟨gs, gs1, gs20, -⟩ := hall (nd f e).2.1 (by omega)
      refine r_iload_n (pc := 12) dX6_goes_12 rfl ?_
      refine r_aload_n (pc := 13) dX6_goes_13 rfl ?_
      refine r_getR (pc := 14) (b := 44) dX6_goes_14 fX6_13 rfl rfl ?_
      refine r_iload_n (pc := 17) dX6_goes_17 rfl ?_
      refine r_ialdV (pc := 18) (j := f) (v := nI (sz f)) dX6_goes_18 rfl rfl (by omega) (by decide) (hs) ?_
      refine r_icmpN_ge (pc := 19) (tgt := 147) dX6_goes_19 (by decide) (by omega) (by omega) (fun c1 => ?_) (fun c1 => ?_)
      · exact absurd c1 (by omega)
      · refine r_bipush (pc := 22) dX6_goes_22 bp_20 ?_
        refine r_iload_n (pc := 24) dX6_goes_24 rfl ?_
        refine r_imulN (pc := 25) dX6_goes_25 ?_
        refine r_iload_n (pc := 26) dX6_goes_26 rfl ?_
        refine r_iaddN (pc := 27) dX6_goes_27 ?_
        refine r_istore_n (pc := 28) (lo1 := [.ref 42, .int (nI f), .int (nI e), .int (nI ((20 * f) + e))]) dX6_goes_28 rfl (by decide) rfl ?_
        refine r_aload_n (pc := 29) dX6_goes_29 rfl ?_
        refine r_getR (pc := 30) (b := 45) dX6_goes_30 fX6_16 rfl rfl ?_
        refine r_iload_n (pc := 33) dX6_goes_33 rfl ?_
        refine r_ialdV (pc := 34) (j := (20 * f) + e) (v := nI 2) dX6_goes_34 rfl rfl (by omega) (by decide) (p45) ?_
        refine r_ifN_eq (pc := 35) (tgt := 48) dX6_goes_35 (by decide) (by omega) (fun c2 => ?_) (fun c2 => ?_)
        · exact absurd c2 (by decide)
        · refine r_aload_n (pc := 38) dX6_goes_38 rfl ?_
          refine r_getR (pc := 39) (b := 45) dX6_goes_39 fX6_16 rfl rfl ?_
          refine r_iload_n (pc := 42) dX6_goes_42 rfl ?_
          refine r_ialdV (pc := 43) (j := (20 * f) + e) (v := nI 2) dX6_goes_43 rfl rfl (by omega) (by decide) (p45) ?_
          refine r_iconst (pc := 44) (v := nI 1) dX6_goes_44 rfl ?_
          refine r_icmpN_ne (pc := 45) (tgt := 56) dX6_goes_45 (by decide) (by omega) (by omega) (fun c3 => ?_) (fun c3 => ?_)
          · refine r_aload_n (pc := 56) dX6_goes_56 rfl ?_
            refine r_getR (pc := 57) (b := 45) dX6_goes_57 fX6_16 rfl rfl ?_
            refine r_iload_n (pc := 60) dX6_goes_60 rfl ?_
            refine r_ialdV (pc := 61) (j := (20 * f) + e) (v := nI 2) dX6_goes_61 rfl rfl (by omega) (by decide) (p45) ?_
            refine r_iconst (pc := 62) (v := nI 2) dX6_goes_62 rfl ?_
            refine r_icmpN_ne (pc := 63) (tgt := 84) dX6_goes_63 (by decide) (by omega) (by omega) (fun c4 => ?_) (fun c4 => ?_)
            · exact absurd c4 (by decide)
            · refine r_aload_n (pc := 66) dX6_goes_66 rfl ?_
              refine r_aload_n (pc := 67) dX6_goes_67 rfl ?_
              refine r_aload_n (pc := 68) dX6_goes_68 rfl ?_
              refine r_getR (pc := 69) (b := 46) dX6_goes_69 fX6_19 rfl rfl ?_
              refine r_iload_n (pc := 72) dX6_goes_72 rfl ?_
              refine r_ialdV (pc := 73) (j := (20 * f) + e) (v := nI ((nd f e).2.1)) dX6_goes_73 rfl rfl (by omega) (by decide) (h46) ?_
              refine r_callV (pc := 74) (N := mX6_rootOf) (rest := [.ref 42]) (s_mroot X _ I (giL (I 55) sz nd f L e) (nd f e).2.1 (sz (nd f e).2.1) (by omega) gs gs1 gs20) okX6_rootOf lkX6_229 rfl (by decide) rfl rfl rfl (Nat.le_of_ble_eq_true rfl) ⟨Nat.le_refl _, Nat.le_refl _⟩ dX6_goes_74 ?_
              refine r_iload_n (pc := 77) dX6_goes_77 rfl ?_
              refine r_callV (pc := 78) (N := mX6_copiesNode) (rest := []) (s_copies X _ I (giL (I 55) sz nd f L e) (20 * (nd f e).2.1 + sz (nd f e).2.1 - 1) (20 * f + e) (by omega) (by omega)) okX6_copiesNode lkX6_232 rfl (by decide) rfl rfl rfl (Nat.le_of_ble_eq_true rfl) ⟨Nat.le_refl _, Nat.le_refl _⟩ dX6_goes_78 ?_
              refine r_goto (pc := 81) (tgt := 141) dX6_goes_81 (by decide) ?_
              refine r_iinc (pc := 141) (v := nI (e + 1)) (lo1 := [.ref 42, .int (nI f), .int (nI (e + 1)), .int (nI ((20 * f) + e))]) dX6_goes_141 rfl rfl (ii1 _) (by decide) rfl ?_
              refine r_goto (pc := 144) (tgt := 12) dX6_goes_144 (by decide) ?_
              refine r_drop (lo1 := [.ref 42, .int (nI f), .int (nI (e + 1)), .null]) 3 rfl ?_
              refine r_L (L' := (giL (I 55) sz nd f L (e + 1))) ((ndM_2 q1).symm) ?_
              exact ih (e + 1) (by omega)
          · exact absurd c3 (by decide)
    · have p45 : I 45 (20 * f + e) = nI 110 := by rw [h45, q1]
      refine r_iload_n (pc := 12) dX6_goes_12 rfl ?_
      refine r_aload_n (pc := 13) dX6_goes_13 rfl ?_
      refine r_getR (pc := 14) (b := 44) dX6_goes_14 fX6_13 rfl rfl ?_
      refine r_iload_n (pc := 17) dX6_goes_17 rfl ?_
      refine r_ialdV (pc := 18) (j := f) (v := nI (sz f)) dX6_goes_18 rfl rfl (by omega) (by decide) (hs) ?_
      refine r_icmpN_ge (pc := 19) (tgt := 147) dX6_goes_19 (by decide) (by omega) (by omega) (fun c1 => ?_) (fun c1 => ?_)
      · exact absurd c1 (by omega)
      · refine r_bipush (pc := 22) dX6_goes_22 bp_20 ?_
        refine r_iload_n (pc := 24) dX6_goes_24 rfl ?_
        refine r_imulN (pc := 25) dX6_goes_25 ?_
        refine r_iload_n (pc := 26) dX6_goes_26 rfl ?_
        refine r_iaddN (pc := 27) dX6_goes_27 ?_
        refine r_istore_n (pc := 28) (lo1 := [.ref 42, .int (nI f), .int (nI e), .int (nI ((20 * f) + e))]) dX6_goes_28 rfl (by decide) rfl ?_
        refine r_aload_n (pc := 29) dX6_goes_29 rfl ?_
        refine r_getR (pc := 30) (b := 45) dX6_goes_30 fX6_16 rfl rfl ?_
        refine r_iload_n (pc := 33) dX6_goes_33 rfl ?_
        refine r_ialdV (pc := 34) (j := (20 * f) + e) (v := nI 110) dX6_goes_34 rfl rfl (by omega) (by decide) (p45) ?_
        refine r_ifN_eq (pc := 35) (tgt := 48) dX6_goes_35 (by decide) (by omega) (fun c2 => ?_) (fun c2 => ?_)
        · exact absurd c2 (by decide)
        · refine r_aload_n (pc := 38) dX6_goes_38 rfl ?_
          refine r_getR (pc := 39) (b := 45) dX6_goes_39 fX6_16 rfl rfl ?_
          refine r_iload_n (pc := 42) dX6_goes_42 rfl ?_
          refine r_ialdV (pc := 43) (j := (20 * f) + e) (v := nI 110) dX6_goes_43 rfl rfl (by omega) (by decide) (p45) ?_
          refine r_iconst (pc := 44) (v := nI 1) dX6_goes_44 rfl ?_
          refine r_icmpN_ne (pc := 45) (tgt := 56) dX6_goes_45 (by decide) (by omega) (by omega) (fun c3 => ?_) (fun c3 => ?_)
          · refine r_aload_n (pc := 56) dX6_goes_56 rfl ?_
            refine r_getR (pc := 57) (b := 45) dX6_goes_57 fX6_16 rfl rfl ?_
            refine r_iload_n (pc := 60) dX6_goes_60 rfl ?_
            refine r_ialdV (pc := 61) (j := (20 * f) + e) (v := nI 110) dX6_goes_61 rfl rfl (by omega) (by decide) (p45) ?_
            refine r_iconst (pc := 62) (v := nI 2) dX6_goes_62 rfl ?_
            refine r_icmpN_ne (pc := 63) (tgt := 84) dX6_goes_63 (by decide) (by omega) (by omega) (fun c4 => ?_) (fun c4 => ?_)
            · refine r_aload_n (pc := 84) dX6_goes_84 rfl ?_
              refine r_getR (pc := 85) (b := 48) dX6_goes_85 fX6_25 rfl rfl ?_
              refine r_iload_n (pc := 88) dX6_goes_88 rfl ?_
              refine r_ialdV (pc := 89) (j := (20 * f) + e) (v := -9) dX6_goes_89 rfl rfl (by omega) (by decide) ((h48n (by omega))) ?_
              refine r_bipush (pc := 90) dX6_goes_90 bp_m9 ?_
              refine r_icmp_ne (pc := 92) (tgt := 114) dX6_goes_92 (by decide) (fun c5 => ?_) (fun c5 => ?_)
              · exact absurd rfl c5
              · refine r_aload_n (pc := 95) dX6_goes_95 rfl ?_
                refine r_iload_n (pc := 96) dX6_goes_96 rfl ?_
                refine r_bipush (pc := 97) dX6_goes_97 bp_20 ?_
                refine r_iload_n (pc := 99) dX6_goes_99 rfl ?_
                refine r_imulN (pc := 100) dX6_goes_100 ?_
                refine r_aload_n (pc := 101) dX6_goes_101 rfl ?_
                refine r_getR (pc := 102) (b := 47) dX6_goes_102 fX6_22 rfl rfl ?_
                refine r_iload_n (pc := 105) dX6_goes_105 rfl ?_
                refine r_ialdV (pc := 106) (j := (20 * f) + e) (v := nI ((nd f e).2.2.1)) dX6_goes_106 rfl rfl (by omega) (by decide) ((h47 (by omega))) ?_
                refine r_iaddN (pc := 107) dX6_goes_107 ?_
                refine r_callV (pc := 108) (N := mX6_goesOne) (rest := []) (s_one_m X _ I (giL (I 55) sz nd f L e) (20 * f + e) (20 * f + (nd f e).2.2.1) (by omega) (by omega) (nI (nd f e).2.1) p45 h46) okX6_goesOne lkX6_236 rfl (by decide) rfl rfl rfl (Nat.le_of_ble_eq_true rfl) ⟨Nat.le_refl _, Nat.le_refl _⟩ dX6_goes_108 ?_
                refine r_goto (pc := 111) (tgt := 141) dX6_goes_111 (by decide) ?_
                refine r_iinc (pc := 141) (v := nI (e + 1)) (lo1 := [.ref 42, .int (nI f), .int (nI (e + 1)), .int (nI ((20 * f) + e))]) dX6_goes_141 rfl rfl (ii1 _) (by decide) rfl ?_
                refine r_goto (pc := 144) (tgt := 12) dX6_goes_144 (by decide) ?_
                refine r_drop (lo1 := [.ref 42, .int (nI f), .int (nI (e + 1)), .null]) 3 rfl ?_
                refine r_L (L' := (giL (I 55) sz nd f L (e + 1))) ((ndM_110 q1).symm) ?_
                exact ih (e + 1) (by omega)
            · exact absurd c4 (by decide)
          · exact absurd c3 (by decide)
    · rcases (by omega : (nd f e).2.1 = 0 ∨ (nd f e).2.1 = 1 ∨ (nd f e).2.1 = 2 ∨ (nd f e).2.1 = 3 ∨ (nd f e).2.1 = 4) with q4 | q4 | q4 | q4 | q4
      · have p45 : I 45 (20 * f + e) = nI 94 := by rw [h45, q1]
        have p46 : I 46 (20 * f + e) = nI 0 := by rw [h46, q4]
        refine r_iload_n (pc := 12) dX6_goes_12 rfl ?_
        refine r_aload_n (pc := 13) dX6_goes_13 rfl ?_
        refine r_getR (pc := 14) (b := 44) dX6_goes_14 fX6_13 rfl rfl ?_
        refine r_iload_n (pc := 17) dX6_goes_17 rfl ?_
        refine r_ialdV (pc := 18) (j := f) (v := nI (sz f)) dX6_goes_18 rfl rfl (by omega) (by decide) (hs) ?_
        refine r_icmpN_ge (pc := 19) (tgt := 147) dX6_goes_19 (by decide) (by omega) (by omega) (fun c1 => ?_) (fun c1 => ?_)
        · exact absurd c1 (by omega)
        · refine r_bipush (pc := 22) dX6_goes_22 bp_20 ?_
          refine r_iload_n (pc := 24) dX6_goes_24 rfl ?_
          refine r_imulN (pc := 25) dX6_goes_25 ?_
          refine r_iload_n (pc := 26) dX6_goes_26 rfl ?_
          refine r_iaddN (pc := 27) dX6_goes_27 ?_
          refine r_istore_n (pc := 28) (lo1 := [.ref 42, .int (nI f), .int (nI e), .int (nI ((20 * f) + e))]) dX6_goes_28 rfl (by decide) rfl ?_
          refine r_aload_n (pc := 29) dX6_goes_29 rfl ?_
          refine r_getR (pc := 30) (b := 45) dX6_goes_30 fX6_16 rfl rfl ?_
          refine r_iload_n (pc := 33) dX6_goes_33 rfl ?_
          refine r_ialdV (pc := 34) (j := (20 * f) + e) (v := nI 94) dX6_goes_34 rfl rfl (by omega) (by decide) (p45) ?_
          refine r_ifN_eq (pc := 35) (tgt := 48) dX6_goes_35 (by decide) (by omega) (fun c2 => ?_) (fun c2 => ?_)
          · exact absurd c2 (by decide)
          · refine r_aload_n (pc := 38) dX6_goes_38 rfl ?_
            refine r_getR (pc := 39) (b := 45) dX6_goes_39 fX6_16 rfl rfl ?_
            refine r_iload_n (pc := 42) dX6_goes_42 rfl ?_
            refine r_ialdV (pc := 43) (j := (20 * f) + e) (v := nI 94) dX6_goes_43 rfl rfl (by omega) (by decide) (p45) ?_
            refine r_iconst (pc := 44) (v := nI 1) dX6_goes_44 rfl ?_
            refine r_icmpN_ne (pc := 45) (tgt := 56) dX6_goes_45 (by decide) (by omega) (by omega) (fun c3 => ?_) (fun c3 => ?_)
            · refine r_aload_n (pc := 56) dX6_goes_56 rfl ?_
              refine r_getR (pc := 57) (b := 45) dX6_goes_57 fX6_16 rfl rfl ?_
              refine r_iload_n (pc := 60) dX6_goes_60 rfl ?_
              refine r_ialdV (pc := 61) (j := (20 * f) + e) (v := nI 94) dX6_goes_61 rfl rfl (by omega) (by decide) (p45) ?_
              refine r_iconst (pc := 62) (v := nI 2) dX6_goes_62 rfl ?_
              refine r_icmpN_ne (pc := 63) (tgt := 84) dX6_goes_63 (by decide) (by omega) (by omega) (fun c4 => ?_) (fun c4 => ?_)
              · refine r_aload_n (pc := 84) dX6_goes_84 rfl ?_
                refine r_getR (pc := 85) (b := 48) dX6_goes_85 fX6_25 rfl rfl ?_
                refine r_iload_n (pc := 88) dX6_goes_88 rfl ?_
                refine r_ialdV (pc := 89) (j := (20 * f) + e) (v := -9) dX6_goes_89 rfl rfl (by omega) (by decide) ((h48n (by omega))) ?_
                refine r_bipush (pc := 90) dX6_goes_90 bp_m9 ?_
                refine r_icmp_ne (pc := 92) (tgt := 114) dX6_goes_92 (by decide) (fun c5 => ?_) (fun c5 => ?_)
                · exact absurd rfl c5
                · refine r_aload_n (pc := 95) dX6_goes_95 rfl ?_
                  refine r_iload_n (pc := 96) dX6_goes_96 rfl ?_
                  refine r_bipush (pc := 97) dX6_goes_97 bp_20 ?_
                  refine r_iload_n (pc := 99) dX6_goes_99 rfl ?_
                  refine r_imulN (pc := 100) dX6_goes_100 ?_
                  refine r_aload_n (pc := 101) dX6_goes_101 rfl ?_
                  refine r_getR (pc := 102) (b := 47) dX6_goes_102 fX6_22 rfl rfl ?_
                  refine r_iload_n (pc := 105) dX6_goes_105 rfl ?_
                  refine r_ialdV (pc := 106) (j := (20 * f) + e) (v := nI ((nd f e).2.2.1)) dX6_goes_106 rfl rfl (by omega) (by decide) ((h47 (by omega))) ?_
                  refine r_iaddN (pc := 107) dX6_goes_107 ?_
                  refine r_callV (pc := 108) (N := mX6_goesOne) (rest := []) (s_one_0 X _ I (giL (I 55) sz nd f L e) (20 * f + e) (20 * f + (nd f e).2.2.1) (by omega) (by omega) p45 p46) okX6_goesOne lkX6_236 rfl (by decide) rfl rfl rfl (Nat.le_of_ble_eq_true rfl) ⟨Nat.le_refl _, Nat.le_refl _⟩ dX6_goes_108 ?_
                  refine r_goto (pc := 111) (tgt := 141) dX6_goes_111 (by decide) ?_
                  refine r_iinc (pc := 141) (v := nI (e + 1)) (lo1 := [.ref 42, .int (nI f), .int (nI (e + 1)), .int (nI ((20 * f) + e))]) dX6_goes_141 rfl rfl (ii1 _) (by decide) rfl ?_
                  refine r_goto (pc := 144) (tgt := 12) dX6_goes_144 (by decide) ?_
                  refine r_drop (lo1 := [.ref 42, .int (nI f), .int (nI (e + 1)), .null]) 3 rfl ?_
                  refine r_L (L' := (giL (I 55) sz nd f L (e + 1))) ((ndM_94_0 q1 q4).symm) ?_
                  exact ih (e + 1) (by omega)
              · exact absurd c4 (by decide)
            · exact absurd c3 (by decide)
      · have p45 : I 45 (20 * f + e) = nI 94 := by rw [h45, q1]
        have p46 : I 46 (20 * f + e) = nI 1 := by rw [h46, q4]
        refine r_iload_n (pc := 12) dX6_goes_12 rfl ?_
        refine r_aload_n (pc := 13) dX6_goes_13 rfl ?_
        refine r_getR (pc := 14) (b := 44) dX6_goes_14 fX6_13 rfl rfl ?_
        refine r_iload_n (pc := 17) dX6_goes_17 rfl ?_
        refine r_ialdV (pc := 18) (j := f) (v := nI (sz f)) dX6_goes_18 rfl rfl (by omega) (by decide) (hs) ?_
        refine r_icmpN_ge (pc := 19) (tgt := 147) dX6_goes_19 (by decide) (by omega) (by omega) (fun c1 => ?_) (fun c1 => ?_)
        · exact absurd c1 (by omega)
        · refine r_bipush (pc := 22) dX6_goes_22 bp_20 ?_
          refine r_iload_n (pc := 24) dX6_goes_24 rfl ?_
          refine r_imulN (pc := 25) dX6_goes_25 ?_
          refine r_iload_n (pc := 26) dX6_goes_26 rfl ?_
          refine r_iaddN (pc := 27) dX6_goes_27 ?_
          refine r_istore_n (pc := 28) (lo1 := [.ref 42, .int (nI f), .int (nI e), .int (nI ((20 * f) + e))]) dX6_goes_28 rfl (by decide) rfl ?_
          refine r_aload_n (pc := 29) dX6_goes_29 rfl ?_
          refine r_getR (pc := 30) (b := 45) dX6_goes_30 fX6_16 rfl rfl ?_
          refine r_iload_n (pc := 33) dX6_goes_33 rfl ?_
          refine r_ialdV (pc := 34) (j := (20 * f) + e) (v := nI 94) dX6_goes_34 rfl rfl (by omega) (by decide) (p45) ?_
          refine r_ifN_eq (pc := 35) (tgt := 48) dX6_goes_35 (by decide) (by omega) (fun c2 => ?_) (fun c2 => ?_)
          · exact absurd c2 (by decide)
          · refine r_aload_n (pc := 38) dX6_goes_38 rfl ?_
            refine r_getR (pc := 39) (b := 45) dX6_goes_39 fX6_16 rfl rfl ?_
            refine r_iload_n (pc := 42) dX6_goes_42 rfl ?_
            refine r_ialdV (pc := 43) (j := (20 * f) + e) (v := nI 94) dX6_goes_43 rfl rfl (by omega) (by decide) (p45) ?_
            refine r_iconst (pc := 44) (v := nI 1) dX6_goes_44 rfl ?_
            refine r_icmpN_ne (pc := 45) (tgt := 56) dX6_goes_45 (by decide) (by omega) (by omega) (fun c3 => ?_) (fun c3 => ?_)
            · refine r_aload_n (pc := 56) dX6_goes_56 rfl ?_
              refine r_getR (pc := 57) (b := 45) dX6_goes_57 fX6_16 rfl rfl ?_
              refine r_iload_n (pc := 60) dX6_goes_60 rfl ?_
              refine r_ialdV (pc := 61) (j := (20 * f) + e) (v := nI 94) dX6_goes_61 rfl rfl (by omega) (by decide) (p45) ?_
              refine r_iconst (pc := 62) (v := nI 2) dX6_goes_62 rfl ?_
              refine r_icmpN_ne (pc := 63) (tgt := 84) dX6_goes_63 (by decide) (by omega) (by omega) (fun c4 => ?_) (fun c4 => ?_)
              · refine r_aload_n (pc := 84) dX6_goes_84 rfl ?_
                refine r_getR (pc := 85) (b := 48) dX6_goes_85 fX6_25 rfl rfl ?_
                refine r_iload_n (pc := 88) dX6_goes_88 rfl ?_
                refine r_ialdV (pc := 89) (j := (20 * f) + e) (v := -9) dX6_goes_89 rfl rfl (by omega) (by decide) ((h48n (by omega))) ?_
                refine r_bipush (pc := 90) dX6_goes_90 bp_m9 ?_
                refine r_icmp_ne (pc := 92) (tgt := 114) dX6_goes_92 (by decide) (fun c5 => ?_) (fun c5 => ?_)
                · exact absurd rfl c5
                · refine r_aload_n (pc := 95) dX6_goes_95 rfl ?_
                  refine r_iload_n (pc := 96) dX6_goes_96 rfl ?_
                  refine r_bipush (pc := 97) dX6_goes_97 bp_20 ?_
                  refine r_iload_n (pc := 99) dX6_goes_99 rfl ?_
                  refine r_imulN (pc := 100) dX6_goes_100 ?_
                  refine r_aload_n (pc := 101) dX6_goes_101 rfl ?_
                  refine r_getR (pc := 102) (b := 47) dX6_goes_102 fX6_22 rfl rfl ?_
                  refine r_iload_n (pc := 105) dX6_goes_105 rfl ?_
                  refine r_ialdV (pc := 106) (j := (20 * f) + e) (v := nI ((nd f e).2.2.1)) dX6_goes_106 rfl rfl (by omega) (by decide) ((h47 (by omega))) ?_
                  refine r_iaddN (pc := 107) dX6_goes_107 ?_
                  refine r_callV (pc := 108) (N := mX6_goesOne) (rest := []) (s_one_1 X _ I (giL (I 55) sz nd f L e) (20 * f + e) (20 * f + (nd f e).2.2.1) (by omega) (by omega) p45 p46) okX6_goesOne lkX6_236 rfl (by decide) rfl rfl rfl (Nat.le_of_ble_eq_true rfl) ⟨Nat.le_refl _, Nat.le_refl _⟩ dX6_goes_108 ?_
                  refine r_goto (pc := 111) (tgt := 141) dX6_goes_111 (by decide) ?_
                  refine r_iinc (pc := 141) (v := nI (e + 1)) (lo1 := [.ref 42, .int (nI f), .int (nI (e + 1)), .int (nI ((20 * f) + e))]) dX6_goes_141 rfl rfl (ii1 _) (by decide) rfl ?_
                  refine r_goto (pc := 144) (tgt := 12) dX6_goes_144 (by decide) ?_
                  refine r_drop (lo1 := [.ref 42, .int (nI f), .int (nI (e + 1)), .null]) 3 rfl ?_
                  refine r_L (L' := (giL (I 55) sz nd f L (e + 1))) ((ndM_94_1 q1 q4).symm) ?_
                  exact ih (e + 1) (by omega)
              · exact absurd c4 (by decide)
            · exact absurd c3 (by decide)
      · have p45 : I 45 (20 * f + e) = nI 94 := by rw [h45, q1]
        have p46 : I 46 (20 * f + e) = nI 2 := by rw [h46, q4]
        refine r_iload_n (pc := 12) dX6_goes_12 rfl ?_
        refine r_aload_n (pc := 13) dX6_goes_13 rfl ?_
        refine r_getR (pc := 14) (b := 44) dX6_goes_14 fX6_13 rfl rfl ?_
        refine r_iload_n (pc := 17) dX6_goes_17 rfl ?_
        refine r_ialdV (pc := 18) (j := f) (v := nI (sz f)) dX6_goes_18 rfl rfl (by omega) (by decide) (hs) ?_
        refine r_icmpN_ge (pc := 19) (tgt := 147) dX6_goes_19 (by decide) (by omega) (by omega) (fun c1 => ?_) (fun c1 => ?_)
        · exact absurd c1 (by omega)
        · refine r_bipush (pc := 22) dX6_goes_22 bp_20 ?_
          refine r_iload_n (pc := 24) dX6_goes_24 rfl ?_
          refine r_imulN (pc := 25) dX6_goes_25 ?_
          refine r_iload_n (pc := 26) dX6_goes_26 rfl ?_
          refine r_iaddN (pc := 27) dX6_goes_27 ?_
          refine r_istore_n (pc := 28) (lo1 := [.ref 42, .int (nI f), .int (nI e), .int (nI ((20 * f) + e))]) dX6_goes_28 rfl (by decide) rfl ?_
          refine r_aload_n (pc := 29) dX6_goes_29 rfl ?_
          refine r_getR (pc := 30) (b := 45) dX6_goes_30 fX6_16 rfl rfl ?_
          refine r_iload_n (pc := 33) dX6_goes_33 rfl ?_
          refine r_ialdV (pc := 34) (j := (20 * f) + e) (v := nI 94) dX6_goes_34 rfl rfl (by omega) (by decide) (p45) ?_
          refine r_ifN_eq (pc := 35) (tgt := 48) dX6_goes_35 (by decide) (by omega) (fun c2 => ?_) (fun c2 => ?_)
          · exact absurd c2 (by decide)
          · refine r_aload_n (pc := 38) dX6_goes_38 rfl ?_
            refine r_getR (pc := 39) (b := 45) dX6_goes_39 fX6_16 rfl rfl ?_
            refine r_iload_n (pc := 42) dX6_goes_42 rfl ?_
            refine r_ialdV (pc := 43) (j := (20 * f) + e) (v := nI 94) dX6_goes_43 rfl rfl (by omega) (by decide) (p45) ?_
            refine r_iconst (pc := 44) (v := nI 1) dX6_goes_44 rfl ?_
            refine r_icmpN_ne (pc := 45) (tgt := 56) dX6_goes_45 (by decide) (by omega) (by omega) (fun c3 => ?_) (fun c3 => ?_)
            · refine r_aload_n (pc := 56) dX6_goes_56 rfl ?_
              refine r_getR (pc := 57) (b := 45) dX6_goes_57 fX6_16 rfl rfl ?_
              refine r_iload_n (pc := 60) dX6_goes_60 rfl ?_
              refine r_ialdV (pc := 61) (j := (20 * f) + e) (v := nI 94) dX6_goes_61 rfl rfl (by omega) (by decide) (p45) ?_
              refine r_iconst (pc := 62) (v := nI 2) dX6_goes_62 rfl ?_
              refine r_icmpN_ne (pc := 63) (tgt := 84) dX6_goes_63 (by decide) (by omega) (by omega) (fun c4 => ?_) (fun c4 => ?_)
              · refine r_aload_n (pc := 84) dX6_goes_84 rfl ?_
                refine r_getR (pc := 85) (b := 48) dX6_goes_85 fX6_25 rfl rfl ?_
                refine r_iload_n (pc := 88) dX6_goes_88 rfl ?_
                refine r_ialdV (pc := 89) (j := (20 * f) + e) (v := -9) dX6_goes_89 rfl rfl (by omega) (by decide) ((h48n (by omega))) ?_
                refine r_bipush (pc := 90) dX6_goes_90 bp_m9 ?_
                refine r_icmp_ne (pc := 92) (tgt := 114) dX6_goes_92 (by decide) (fun c5 => ?_) (fun c5 => ?_)
                · exact absurd rfl c5
                · refine r_aload_n (pc := 95) dX6_goes_95 rfl ?_
                  refine r_iload_n (pc := 96) dX6_goes_96 rfl ?_
                  refine r_bipush (pc := 97) dX6_goes_97 bp_20 ?_
                  refine r_iload_n (pc := 99) dX6_goes_99 rfl ?_
                  refine r_imulN (pc := 100) dX6_goes_100 ?_
                  refine r_aload_n (pc := 101) dX6_goes_101 rfl ?_
                  refine r_getR (pc := 102) (b := 47) dX6_goes_102 fX6_22 rfl rfl ?_
                  refine r_iload_n (pc := 105) dX6_goes_105 rfl ?_
                  refine r_ialdV (pc := 106) (j := (20 * f) + e) (v := nI ((nd f e).2.2.1)) dX6_goes_106 rfl rfl (by omega) (by decide) ((h47 (by omega))) ?_
                  refine r_iaddN (pc := 107) dX6_goes_107 ?_
                  refine r_callV (pc := 108) (N := mX6_goesOne) (rest := []) (s_one_2 X _ I (giL (I 55) sz nd f L e) (20 * f + e) (20 * f + (nd f e).2.2.1) (by omega) (by omega) p45 p46) okX6_goesOne lkX6_236 rfl (by decide) rfl rfl rfl (Nat.le_of_ble_eq_true rfl) ⟨Nat.le_refl _, Nat.le_refl _⟩ dX6_goes_108 ?_
                  refine r_goto (pc := 111) (tgt := 141) dX6_goes_111 (by decide) ?_
                  refine r_iinc (pc := 141) (v := nI (e + 1)) (lo1 := [.ref 42, .int (nI f), .int (nI (e + 1)), .int (nI ((20 * f) + e))]) dX6_goes_141 rfl rfl (ii1 _) (by decide) rfl ?_
                  refine r_goto (pc := 144) (tgt := 12) dX6_goes_144 (by decide) ?_
                  refine r_drop (lo1 := [.ref 42, .int (nI f), .int (nI (e + 1)), .null]) 3 rfl ?_
                  refine r_L (L' := (giL (I 55) sz nd f L (e + 1))) ((ndM_94_2 q1 q4).symm) ?_
                  exact ih (e + 1) (by omega)
              · exact absurd c4 (by decide)
            · exact absurd c3 (by decide)
      · have p45 : I 45 (20 * f + e) = nI 94 := by rw [h45, q1]
        have p46 : I 46 (20 * f + e) = nI 3 := by rw [h46, q4]
        refine r_iload_n (pc := 12) dX6_goes_12 rfl ?_
        refine r_aload_n (pc := 13) dX6_goes_13 rfl ?_
        refine r_getR (pc := 14) (b := 44) dX6_goes_14 fX6_13 rfl rfl ?_
        refine r_iload_n (pc := 17) dX6_goes_17 rfl ?_
        refine r_ialdV (pc := 18) (j := f) (v := nI (sz f)) dX6_goes_18 rfl rfl (by omega) (by decide) (hs) ?_
        refine r_icmpN_ge (pc := 19) (tgt := 147) dX6_goes_19 (by decide) (by omega) (by omega) (fun c1 => ?_) (fun c1 => ?_)
        · exact absurd c1 (by omega)
        · refine r_bipush (pc := 22) dX6_goes_22 bp_20 ?_
          refine r_iload_n (pc := 24) dX6_goes_24 rfl ?_
          refine r_imulN (pc := 25) dX6_goes_25 ?_
          refine r_iload_n (pc := 26) dX6_goes_26 rfl ?_
          refine r_iaddN (pc := 27) dX6_goes_27 ?_
          refine r_istore_n (pc := 28) (lo1 := [.ref 42, .int (nI f), .int (nI e), .int (nI ((20 * f) + e))]) dX6_goes_28 rfl (by decide) rfl ?_
          refine r_aload_n (pc := 29) dX6_goes_29 rfl ?_
          refine r_getR (pc := 30) (b := 45) dX6_goes_30 fX6_16 rfl rfl ?_
          refine r_iload_n (pc := 33) dX6_goes_33 rfl ?_
          refine r_ialdV (pc := 34) (j := (20 * f) + e) (v := nI 94) dX6_goes_34 rfl rfl (by omega) (by decide) (p45) ?_
          refine r_ifN_eq (pc := 35) (tgt := 48) dX6_goes_35 (by decide) (by omega) (fun c2 => ?_) (fun c2 => ?_)
          · exact absurd c2 (by decide)
          · refine r_aload_n (pc := 38) dX6_goes_38 rfl ?_
            refine r_getR (pc := 39) (b := 45) dX6_goes_39 fX6_16 rfl rfl ?_
            refine r_iload_n (pc := 42) dX6_goes_42 rfl ?_
            refine r_ialdV (pc := 43) (j := (20 * f) + e) (v := nI 94) dX6_goes_43 rfl rfl (by omega) (by decide) (p45) ?_
            refine r_iconst (pc := 44) (v := nI 1) dX6_goes_44 rfl ?_
            refine r_icmpN_ne (pc := 45) (tgt := 56) dX6_goes_45 (by decide) (by omega) (by omega) (fun c3 => ?_) (fun c3 => ?_)
            · refine r_aload_n (pc := 56) dX6_goes_56 rfl ?_
              refine r_getR (pc := 57) (b := 45) dX6_goes_57 fX6_16 rfl rfl ?_
              refine r_iload_n (pc := 60) dX6_goes_60 rfl ?_
              refine r_ialdV (pc := 61) (j := (20 * f) + e) (v := nI 94) dX6_goes_61 rfl rfl (by omega) (by decide) (p45) ?_
              refine r_iconst (pc := 62) (v := nI 2) dX6_goes_62 rfl ?_
              refine r_icmpN_ne (pc := 63) (tgt := 84) dX6_goes_63 (by decide) (by omega) (by omega) (fun c4 => ?_) (fun c4 => ?_)
              · refine r_aload_n (pc := 84) dX6_goes_84 rfl ?_
                refine r_getR (pc := 85) (b := 48) dX6_goes_85 fX6_25 rfl rfl ?_
                refine r_iload_n (pc := 88) dX6_goes_88 rfl ?_
                refine r_ialdV (pc := 89) (j := (20 * f) + e) (v := -9) dX6_goes_89 rfl rfl (by omega) (by decide) ((h48n (by omega))) ?_
                refine r_bipush (pc := 90) dX6_goes_90 bp_m9 ?_
                refine r_icmp_ne (pc := 92) (tgt := 114) dX6_goes_92 (by decide) (fun c5 => ?_) (fun c5 => ?_)
                · exact absurd rfl c5
                · refine r_aload_n (pc := 95) dX6_goes_95 rfl ?_
                  refine r_iload_n (pc := 96) dX6_goes_96 rfl ?_
                  refine r_bipush (pc := 97) dX6_goes_97 bp_20 ?_
                  refine r_iload_n (pc := 99) dX6_goes_99 rfl ?_
                  refine r_imulN (pc := 100) dX6_goes_100 ?_
                  refine r_aload_n (pc := 101) dX6_goes_101 rfl ?_
                  refine r_getR (pc := 102) (b := 47) dX6_goes_102 fX6_22 rfl rfl ?_
                  refine r_iload_n (pc := 105) dX6_goes_105 rfl ?_
                  refine r_ialdV (pc := 106) (j := (20 * f) + e) (v := nI ((nd f e).2.2.1)) dX6_goes_106 rfl rfl (by omega) (by decide) ((h47 (by omega))) ?_
                  refine r_iaddN (pc := 107) dX6_goes_107 ?_
                  refine r_callV (pc := 108) (N := mX6_goesOne) (rest := []) (s_one_3 X _ I (giL (I 55) sz nd f L e) (20 * f + e) (20 * f + (nd f e).2.2.1) (by omega) (by omega) p45 p46) okX6_goesOne lkX6_236 rfl (by decide) rfl rfl rfl (Nat.le_of_ble_eq_true rfl) ⟨Nat.le_refl _, Nat.le_refl _⟩ dX6_goes_108 ?_
                  refine r_goto (pc := 111) (tgt := 141) dX6_goes_111 (by decide) ?_
                  refine r_iinc (pc := 141) (v := nI (e + 1)) (lo1 := [.ref 42, .int (nI f), .int (nI (e + 1)), .int (nI ((20 * f) + e))]) dX6_goes_141 rfl rfl (ii1 _) (by decide) rfl ?_
                  refine r_goto (pc := 144) (tgt := 12) dX6_goes_144 (by decide) ?_
                  refine r_drop (lo1 := [.ref 42, .int (nI f), .int (nI (e + 1)), .null]) 3 rfl ?_
                  refine r_L (L' := (giL (I 55) sz nd f L (e + 1))) ((ndM_94_3 q1 q4).symm) ?_
                  exact ih (e + 1) (by omega)
              · exact absurd c4 (by decide)
            · exact absurd c3 (by decide)
      · have p45 : I 45 (20 * f + e) = nI 94 := by rw [h45, q1]
        have p46 : I 46 (20 * f + e) = nI 4 := by rw [h46, q4]
        refine r_iload_n (pc := 12) dX6_goes_12 rfl ?_
        refine r_aload_n (pc := 13) dX6_goes_13 rfl ?_
        refine r_getR (pc := 14) (b := 44) dX6_goes_14 fX6_13 rfl rfl ?_
        refine r_iload_n (pc := 17) dX6_goes_17 rfl ?_
        refine r_ialdV (pc := 18) (j := f) (v := nI (sz f)) dX6_goes_18 rfl rfl (by omega) (by decide) (hs) ?_
        refine r_icmpN_ge (pc := 19) (tgt := 147) dX6_goes_19 (by decide) (by omega) (by omega) (fun c1 => ?_) (fun c1 => ?_)
        · exact absurd c1 (by omega)
        · refine r_bipush (pc := 22) dX6_goes_22 bp_20 ?_
          refine r_iload_n (pc := 24) dX6_goes_24 rfl ?_
          refine r_imulN (pc := 25) dX6_goes_25 ?_
          refine r_iload_n (pc := 26) dX6_goes_26 rfl ?_
          refine r_iaddN (pc := 27) dX6_goes_27 ?_
          refine r_istore_n (pc := 28) (lo1 := [.ref 42, .int (nI f), .int (nI e), .int (nI ((20 * f) + e))]) dX6_goes_28 rfl (by decide) rfl ?_
          refine r_aload_n (pc := 29) dX6_goes_29 rfl ?_
          refine r_getR (pc := 30) (b := 45) dX6_goes_30 fX6_16 rfl rfl ?_
          refine r_iload_n (pc := 33) dX6_goes_33 rfl ?_
          refine r_ialdV (pc := 34) (j := (20 * f) + e) (v := nI 94) dX6_goes_34 rfl rfl (by omega) (by decide) (p45) ?_
          refine r_ifN_eq (pc := 35) (tgt := 48) dX6_goes_35 (by decide) (by omega) (fun c2 => ?_) (fun c2 => ?_)
          · exact absurd c2 (by decide)
          · refine r_aload_n (pc := 38) dX6_goes_38 rfl ?_
            refine r_getR (pc := 39) (b := 45) dX6_goes_39 fX6_16 rfl rfl ?_
            refine r_iload_n (pc := 42) dX6_goes_42 rfl ?_
            refine r_ialdV (pc := 43) (j := (20 * f) + e) (v := nI 94) dX6_goes_43 rfl rfl (by omega) (by decide) (p45) ?_
            refine r_iconst (pc := 44) (v := nI 1) dX6_goes_44 rfl ?_
            refine r_icmpN_ne (pc := 45) (tgt := 56) dX6_goes_45 (by decide) (by omega) (by omega) (fun c3 => ?_) (fun c3 => ?_)
            · refine r_aload_n (pc := 56) dX6_goes_56 rfl ?_
              refine r_getR (pc := 57) (b := 45) dX6_goes_57 fX6_16 rfl rfl ?_
              refine r_iload_n (pc := 60) dX6_goes_60 rfl ?_
              refine r_ialdV (pc := 61) (j := (20 * f) + e) (v := nI 94) dX6_goes_61 rfl rfl (by omega) (by decide) (p45) ?_
              refine r_iconst (pc := 62) (v := nI 2) dX6_goes_62 rfl ?_
              refine r_icmpN_ne (pc := 63) (tgt := 84) dX6_goes_63 (by decide) (by omega) (by omega) (fun c4 => ?_) (fun c4 => ?_)
              · refine r_aload_n (pc := 84) dX6_goes_84 rfl ?_
                refine r_getR (pc := 85) (b := 48) dX6_goes_85 fX6_25 rfl rfl ?_
                refine r_iload_n (pc := 88) dX6_goes_88 rfl ?_
                refine r_ialdV (pc := 89) (j := (20 * f) + e) (v := -9) dX6_goes_89 rfl rfl (by omega) (by decide) ((h48n (by omega))) ?_
                refine r_bipush (pc := 90) dX6_goes_90 bp_m9 ?_
                refine r_icmp_ne (pc := 92) (tgt := 114) dX6_goes_92 (by decide) (fun c5 => ?_) (fun c5 => ?_)
                · exact absurd rfl c5
                · refine r_aload_n (pc := 95) dX6_goes_95 rfl ?_
                  refine r_iload_n (pc := 96) dX6_goes_96 rfl ?_
                  refine r_bipush (pc := 97) dX6_goes_97 bp_20 ?_
                  refine r_iload_n (pc := 99) dX6_goes_99 rfl ?_
                  refine r_imulN (pc := 100) dX6_goes_100 ?_
                  refine r_aload_n (pc := 101) dX6_goes_101 rfl ?_
                  refine r_getR (pc := 102) (b := 47) dX6_goes_102 fX6_22 rfl rfl ?_
                  refine r_iload_n (pc := 105) dX6_goes_105 rfl ?_
                  refine r_ialdV (pc := 106) (j := (20 * f) + e) (v := nI ((nd f e).2.2.1)) dX6_goes_106 rfl rfl (by omega) (by decide) ((h47 (by omega))) ?_
                  refine r_iaddN (pc := 107) dX6_goes_107 ?_
                  refine r_callV (pc := 108) (N := mX6_goesOne) (rest := []) (s_one_4 X _ I (giL (I 55) sz nd f L e) (20 * f + e) (20 * f + (nd f e).2.2.1) (by omega) (by omega) p45 p46) okX6_goesOne lkX6_236 rfl (by decide) rfl rfl rfl (Nat.le_of_ble_eq_true rfl) ⟨Nat.le_refl _, Nat.le_refl _⟩ dX6_goes_108 ?_
                  refine r_goto (pc := 111) (tgt := 141) dX6_goes_111 (by decide) ?_
                  refine r_iinc (pc := 141) (v := nI (e + 1)) (lo1 := [.ref 42, .int (nI f), .int (nI (e + 1)), .int (nI ((20 * f) + e))]) dX6_goes_141 rfl rfl (ii1 _) (by decide) rfl ?_
                  refine r_goto (pc := 144) (tgt := 12) dX6_goes_144 (by decide) ?_
                  refine r_drop (lo1 := [.ref 42, .int (nI f), .int (nI (e + 1)), .null]) 3 rfl ?_
                  refine r_L (L' := (giL (I 55) sz nd f L (e + 1))) ((ndM_94_4 q1 q4).symm) ?_
                  exact ih (e + 1) (by omega)
              · exact absurd c4 (by decide)
            · exact absurd c3 (by decide)
    · rcases q1 with q1 | q1 | q1
      · have p45 : I 45 (20 * f + e) = nI 42 := by rw [h45, q1]
        refine r_iload_n (pc := 12) dX6_goes_12 rfl ?_
        refine r_aload_n (pc := 13) dX6_goes_13 rfl ?_
        refine r_getR (pc := 14) (b := 44) dX6_goes_14 fX6_13 rfl rfl ?_
        refine r_iload_n (pc := 17) dX6_goes_17 rfl ?_
        refine r_ialdV (pc := 18) (j := f) (v := nI (sz f)) dX6_goes_18 rfl rfl (by omega) (by decide) (hs) ?_
        refine r_icmpN_ge (pc := 19) (tgt := 147) dX6_goes_19 (by decide) (by omega) (by omega) (fun c1 => ?_) (fun c1 => ?_)
        · exact absurd c1 (by omega)
        · refine r_bipush (pc := 22) dX6_goes_22 bp_20 ?_
          refine r_iload_n (pc := 24) dX6_goes_24 rfl ?_
          refine r_imulN (pc := 25) dX6_goes_25 ?_
          refine r_iload_n (pc := 26) dX6_goes_26 rfl ?_
          refine r_iaddN (pc := 27) dX6_goes_27 ?_
          refine r_istore_n (pc := 28) (lo1 := [.ref 42, .int (nI f), .int (nI e), .int (nI ((20 * f) + e))]) dX6_goes_28 rfl (by decide) rfl ?_
          refine r_aload_n (pc := 29) dX6_goes_29 rfl ?_
          refine r_getR (pc := 30) (b := 45) dX6_goes_30 fX6_16 rfl rfl ?_
          refine r_iload_n (pc := 33) dX6_goes_33 rfl ?_
          refine r_ialdV (pc := 34) (j := (20 * f) + e) (v := nI 42) dX6_goes_34 rfl rfl (by omega) (by decide) (p45) ?_
          refine r_ifN_eq (pc := 35) (tgt := 48) dX6_goes_35 (by decide) (by omega) (fun c2 => ?_) (fun c2 => ?_)
          · exact absurd c2 (by decide)
          · refine r_aload_n (pc := 38) dX6_goes_38 rfl ?_
            refine r_getR (pc := 39) (b := 45) dX6_goes_39 fX6_16 rfl rfl ?_
            refine r_iload_n (pc := 42) dX6_goes_42 rfl ?_
            refine r_ialdV (pc := 43) (j := (20 * f) + e) (v := nI 42) dX6_goes_43 rfl rfl (by omega) (by decide) (p45) ?_
            refine r_iconst (pc := 44) (v := nI 1) dX6_goes_44 rfl ?_
            refine r_icmpN_ne (pc := 45) (tgt := 56) dX6_goes_45 (by decide) (by omega) (by omega) (fun c3 => ?_) (fun c3 => ?_)
            · refine r_aload_n (pc := 56) dX6_goes_56 rfl ?_
              refine r_getR (pc := 57) (b := 45) dX6_goes_57 fX6_16 rfl rfl ?_
              refine r_iload_n (pc := 60) dX6_goes_60 rfl ?_
              refine r_ialdV (pc := 61) (j := (20 * f) + e) (v := nI 42) dX6_goes_61 rfl rfl (by omega) (by decide) (p45) ?_
              refine r_iconst (pc := 62) (v := nI 2) dX6_goes_62 rfl ?_
              refine r_icmpN_ne (pc := 63) (tgt := 84) dX6_goes_63 (by decide) (by omega) (by omega) (fun c4 => ?_) (fun c4 => ?_)
              · refine r_aload_n (pc := 84) dX6_goes_84 rfl ?_
                refine r_getR (pc := 85) (b := 48) dX6_goes_85 fX6_25 rfl rfl ?_
                refine r_iload_n (pc := 88) dX6_goes_88 rfl ?_
                refine r_ialdV (pc := 89) (j := (20 * f) + e) (v := nI ((nd f e).2.2.2)) dX6_goes_89 rfl rfl (by omega) (by decide) ((h48 (by omega))) ?_
                refine r_bipush (pc := 90) dX6_goes_90 bp_m9 ?_
                refine r_icmp_ne (pc := 92) (tgt := 114) dX6_goes_92 (by decide) (fun c5 => ?_) (fun c5 => ?_)
                · refine r_aload_n (pc := 114) dX6_goes_114 rfl ?_
                  refine r_iload_n (pc := 115) dX6_goes_115 rfl ?_
                  refine r_bipush (pc := 116) dX6_goes_116 bp_20 ?_
                  refine r_iload_n (pc := 118) dX6_goes_118 rfl ?_
                  refine r_imulN (pc := 119) dX6_goes_119 ?_
                  refine r_aload_n (pc := 120) dX6_goes_120 rfl ?_
                  refine r_getR (pc := 121) (b := 47) dX6_goes_121 fX6_22 rfl rfl ?_
                  refine r_iload_n (pc := 124) dX6_goes_124 rfl ?_
                  refine r_ialdV (pc := 125) (j := (20 * f) + e) (v := nI ((nd f e).2.2.1)) dX6_goes_125 rfl rfl (by omega) (by decide) ((h47 (by omega))) ?_
                  refine r_iaddN (pc := 126) dX6_goes_126 ?_
                  refine r_bipush (pc := 127) dX6_goes_127 bp_20 ?_
                  refine r_iload_n (pc := 129) dX6_goes_129 rfl ?_
                  refine r_imulN (pc := 130) dX6_goes_130 ?_
                  refine r_aload_n (pc := 131) dX6_goes_131 rfl ?_
                  refine r_getR (pc := 132) (b := 48) dX6_goes_132 fX6_25 rfl rfl ?_
                  refine r_iload_n (pc := 135) dX6_goes_135 rfl ?_
                  refine r_ialdV (pc := 136) (j := (20 * f) + e) (v := nI ((nd f e).2.2.2)) dX6_goes_136 rfl rfl (by omega) (by decide) ((h48 (by omega))) ?_
                  refine r_iaddN (pc := 137) dX6_goes_137 ?_
                  refine r_callV (pc := 138) (N := mX6_goesTwo) (rest := []) (s_two_t X _ I (giL (I 55) sz nd f L e) (20 * f + e) (20 * f + (nd f e).2.2.1) (20 * f + (nd f e).2.2.2) (by omega) (by omega) (by omega) p45) okX6_goesTwo lkX6_239 rfl (by decide) rfl rfl rfl (Nat.le_of_ble_eq_true rfl) ⟨Nat.le_refl _, Nat.le_refl _⟩ dX6_goes_138 ?_
                  refine r_iinc (pc := 141) (v := nI (e + 1)) (lo1 := [.ref 42, .int (nI f), .int (nI (e + 1)), .int (nI ((20 * f) + e))]) dX6_goes_141 rfl rfl (ii1 _) (by decide) rfl ?_
                  refine r_goto (pc := 144) (tgt := 12) dX6_goes_144 (by decide) ?_
                  refine r_drop (lo1 := [.ref 42, .int (nI f), .int (nI (e + 1)), .null]) 3 rfl ?_
                  refine r_L (L' := (giL (I 55) sz nd f L (e + 1))) ((ndM_42 q1).symm) ?_
                  exact ih (e + 1) (by omega)
                · exact absurd c5 (nI_nm9 (by omega))
              · exact absurd c4 (by decide)
            · exact absurd c3 (by decide)
      · have p45 : I 45 (20 * f + e) = nI 43 := by rw [h45, q1]
        refine r_iload_n (pc := 12) dX6_goes_12 rfl ?_
        refine r_aload_n (pc := 13) dX6_goes_13 rfl ?_
        refine r_getR (pc := 14) (b := 44) dX6_goes_14 fX6_13 rfl rfl ?_
        refine r_iload_n (pc := 17) dX6_goes_17 rfl ?_
        refine r_ialdV (pc := 18) (j := f) (v := nI (sz f)) dX6_goes_18 rfl rfl (by omega) (by decide) (hs) ?_
        refine r_icmpN_ge (pc := 19) (tgt := 147) dX6_goes_19 (by decide) (by omega) (by omega) (fun c1 => ?_) (fun c1 => ?_)
        · exact absurd c1 (by omega)
        · refine r_bipush (pc := 22) dX6_goes_22 bp_20 ?_
          refine r_iload_n (pc := 24) dX6_goes_24 rfl ?_
          refine r_imulN (pc := 25) dX6_goes_25 ?_
          refine r_iload_n (pc := 26) dX6_goes_26 rfl ?_
          refine r_iaddN (pc := 27) dX6_goes_27 ?_
          refine r_istore_n (pc := 28) (lo1 := [.ref 42, .int (nI f), .int (nI e), .int (nI ((20 * f) + e))]) dX6_goes_28 rfl (by decide) rfl ?_
          refine r_aload_n (pc := 29) dX6_goes_29 rfl ?_
          refine r_getR (pc := 30) (b := 45) dX6_goes_30 fX6_16 rfl rfl ?_
          refine r_iload_n (pc := 33) dX6_goes_33 rfl ?_
          refine r_ialdV (pc := 34) (j := (20 * f) + e) (v := nI 43) dX6_goes_34 rfl rfl (by omega) (by decide) (p45) ?_
          refine r_ifN_eq (pc := 35) (tgt := 48) dX6_goes_35 (by decide) (by omega) (fun c2 => ?_) (fun c2 => ?_)
          · exact absurd c2 (by decide)
          · refine r_aload_n (pc := 38) dX6_goes_38 rfl ?_
            refine r_getR (pc := 39) (b := 45) dX6_goes_39 fX6_16 rfl rfl ?_
            refine r_iload_n (pc := 42) dX6_goes_42 rfl ?_
            refine r_ialdV (pc := 43) (j := (20 * f) + e) (v := nI 43) dX6_goes_43 rfl rfl (by omega) (by decide) (p45) ?_
            refine r_iconst (pc := 44) (v := nI 1) dX6_goes_44 rfl ?_
            refine r_icmpN_ne (pc := 45) (tgt := 56) dX6_goes_45 (by decide) (by omega) (by omega) (fun c3 => ?_) (fun c3 => ?_)
            · refine r_aload_n (pc := 56) dX6_goes_56 rfl ?_
              refine r_getR (pc := 57) (b := 45) dX6_goes_57 fX6_16 rfl rfl ?_
              refine r_iload_n (pc := 60) dX6_goes_60 rfl ?_
              refine r_ialdV (pc := 61) (j := (20 * f) + e) (v := nI 43) dX6_goes_61 rfl rfl (by omega) (by decide) (p45) ?_
              refine r_iconst (pc := 62) (v := nI 2) dX6_goes_62 rfl ?_
              refine r_icmpN_ne (pc := 63) (tgt := 84) dX6_goes_63 (by decide) (by omega) (by omega) (fun c4 => ?_) (fun c4 => ?_)
              · refine r_aload_n (pc := 84) dX6_goes_84 rfl ?_
                refine r_getR (pc := 85) (b := 48) dX6_goes_85 fX6_25 rfl rfl ?_
                refine r_iload_n (pc := 88) dX6_goes_88 rfl ?_
                refine r_ialdV (pc := 89) (j := (20 * f) + e) (v := nI ((nd f e).2.2.2)) dX6_goes_89 rfl rfl (by omega) (by decide) ((h48 (by omega))) ?_
                refine r_bipush (pc := 90) dX6_goes_90 bp_m9 ?_
                refine r_icmp_ne (pc := 92) (tgt := 114) dX6_goes_92 (by decide) (fun c5 => ?_) (fun c5 => ?_)
                · refine r_aload_n (pc := 114) dX6_goes_114 rfl ?_
                  refine r_iload_n (pc := 115) dX6_goes_115 rfl ?_
                  refine r_bipush (pc := 116) dX6_goes_116 bp_20 ?_
                  refine r_iload_n (pc := 118) dX6_goes_118 rfl ?_
                  refine r_imulN (pc := 119) dX6_goes_119 ?_
                  refine r_aload_n (pc := 120) dX6_goes_120 rfl ?_
                  refine r_getR (pc := 121) (b := 47) dX6_goes_121 fX6_22 rfl rfl ?_
                  refine r_iload_n (pc := 124) dX6_goes_124 rfl ?_
                  refine r_ialdV (pc := 125) (j := (20 * f) + e) (v := nI ((nd f e).2.2.1)) dX6_goes_125 rfl rfl (by omega) (by decide) ((h47 (by omega))) ?_
                  refine r_iaddN (pc := 126) dX6_goes_126 ?_
                  refine r_bipush (pc := 127) dX6_goes_127 bp_20 ?_
                  refine r_iload_n (pc := 129) dX6_goes_129 rfl ?_
                  refine r_imulN (pc := 130) dX6_goes_130 ?_
                  refine r_aload_n (pc := 131) dX6_goes_131 rfl ?_
                  refine r_getR (pc := 132) (b := 48) dX6_goes_132 fX6_25 rfl rfl ?_
                  refine r_iload_n (pc := 135) dX6_goes_135 rfl ?_
                  refine r_ialdV (pc := 136) (j := (20 * f) + e) (v := nI ((nd f e).2.2.2)) dX6_goes_136 rfl rfl (by omega) (by decide) ((h48 (by omega))) ?_
                  refine r_iaddN (pc := 137) dX6_goes_137 ?_
                  refine r_callV (pc := 138) (N := mX6_goesTwo) (rest := []) (s_two_p X _ I (giL (I 55) sz nd f L e) (20 * f + e) (20 * f + (nd f e).2.2.1) (20 * f + (nd f e).2.2.2) (by omega) (by omega) (by omega) p45) okX6_goesTwo lkX6_239 rfl (by decide) rfl rfl rfl (Nat.le_of_ble_eq_true rfl) ⟨Nat.le_refl _, Nat.le_refl _⟩ dX6_goes_138 ?_
                  refine r_iinc (pc := 141) (v := nI (e + 1)) (lo1 := [.ref 42, .int (nI f), .int (nI (e + 1)), .int (nI ((20 * f) + e))]) dX6_goes_141 rfl rfl (ii1 _) (by decide) rfl ?_
                  refine r_goto (pc := 144) (tgt := 12) dX6_goes_144 (by decide) ?_
                  refine r_drop (lo1 := [.ref 42, .int (nI f), .int (nI (e + 1)), .null]) 3 rfl ?_
                  refine r_L (L' := (giL (I 55) sz nd f L (e + 1))) ((ndM_43 q1).symm) ?_
                  exact ih (e + 1) (by omega)
                · exact absurd c5 (nI_nm9 (by omega))
              · exact absurd c4 (by decide)
            · exact absurd c3 (by decide)
      · have p45 : I 45 (20 * f + e) = nI 45 := by rw [h45, q1]
        refine r_iload_n (pc := 12) dX6_goes_12 rfl ?_
        refine r_aload_n (pc := 13) dX6_goes_13 rfl ?_
        refine r_getR (pc := 14) (b := 44) dX6_goes_14 fX6_13 rfl rfl ?_
        refine r_iload_n (pc := 17) dX6_goes_17 rfl ?_
        refine r_ialdV (pc := 18) (j := f) (v := nI (sz f)) dX6_goes_18 rfl rfl (by omega) (by decide) (hs) ?_
        refine r_icmpN_ge (pc := 19) (tgt := 147) dX6_goes_19 (by decide) (by omega) (by omega) (fun c1 => ?_) (fun c1 => ?_)
        · exact absurd c1 (by omega)
        · refine r_bipush (pc := 22) dX6_goes_22 bp_20 ?_
          refine r_iload_n (pc := 24) dX6_goes_24 rfl ?_
          refine r_imulN (pc := 25) dX6_goes_25 ?_
          refine r_iload_n (pc := 26) dX6_goes_26 rfl ?_
          refine r_iaddN (pc := 27) dX6_goes_27 ?_
          refine r_istore_n (pc := 28) (lo1 := [.ref 42, .int (nI f), .int (nI e), .int (nI ((20 * f) + e))]) dX6_goes_28 rfl (by decide) rfl ?_
          refine r_aload_n (pc := 29) dX6_goes_29 rfl ?_
          refine r_getR (pc := 30) (b := 45) dX6_goes_30 fX6_16 rfl rfl ?_
          refine r_iload_n (pc := 33) dX6_goes_33 rfl ?_
          refine r_ialdV (pc := 34) (j := (20 * f) + e) (v := nI 45) dX6_goes_34 rfl rfl (by omega) (by decide) (p45) ?_
          refine r_ifN_eq (pc := 35) (tgt := 48) dX6_goes_35 (by decide) (by omega) (fun c2 => ?_) (fun c2 => ?_)
          · exact absurd c2 (by decide)
          · refine r_aload_n (pc := 38) dX6_goes_38 rfl ?_
            refine r_getR (pc := 39) (b := 45) dX6_goes_39 fX6_16 rfl rfl ?_
            refine r_iload_n (pc := 42) dX6_goes_42 rfl ?_
            refine r_ialdV (pc := 43) (j := (20 * f) + e) (v := nI 45) dX6_goes_43 rfl rfl (by omega) (by decide) (p45) ?_
            refine r_iconst (pc := 44) (v := nI 1) dX6_goes_44 rfl ?_
            refine r_icmpN_ne (pc := 45) (tgt := 56) dX6_goes_45 (by decide) (by omega) (by omega) (fun c3 => ?_) (fun c3 => ?_)
            · refine r_aload_n (pc := 56) dX6_goes_56 rfl ?_
              refine r_getR (pc := 57) (b := 45) dX6_goes_57 fX6_16 rfl rfl ?_
              refine r_iload_n (pc := 60) dX6_goes_60 rfl ?_
              refine r_ialdV (pc := 61) (j := (20 * f) + e) (v := nI 45) dX6_goes_61 rfl rfl (by omega) (by decide) (p45) ?_
              refine r_iconst (pc := 62) (v := nI 2) dX6_goes_62 rfl ?_
              refine r_icmpN_ne (pc := 63) (tgt := 84) dX6_goes_63 (by decide) (by omega) (by omega) (fun c4 => ?_) (fun c4 => ?_)
              · refine r_aload_n (pc := 84) dX6_goes_84 rfl ?_
                refine r_getR (pc := 85) (b := 48) dX6_goes_85 fX6_25 rfl rfl ?_
                refine r_iload_n (pc := 88) dX6_goes_88 rfl ?_
                refine r_ialdV (pc := 89) (j := (20 * f) + e) (v := nI ((nd f e).2.2.2)) dX6_goes_89 rfl rfl (by omega) (by decide) ((h48 (by omega))) ?_
                refine r_bipush (pc := 90) dX6_goes_90 bp_m9 ?_
                refine r_icmp_ne (pc := 92) (tgt := 114) dX6_goes_92 (by decide) (fun c5 => ?_) (fun c5 => ?_)
                · refine r_aload_n (pc := 114) dX6_goes_114 rfl ?_
                  refine r_iload_n (pc := 115) dX6_goes_115 rfl ?_
                  refine r_bipush (pc := 116) dX6_goes_116 bp_20 ?_
                  refine r_iload_n (pc := 118) dX6_goes_118 rfl ?_
                  refine r_imulN (pc := 119) dX6_goes_119 ?_
                  refine r_aload_n (pc := 120) dX6_goes_120 rfl ?_
                  refine r_getR (pc := 121) (b := 47) dX6_goes_121 fX6_22 rfl rfl ?_
                  refine r_iload_n (pc := 124) dX6_goes_124 rfl ?_
                  refine r_ialdV (pc := 125) (j := (20 * f) + e) (v := nI ((nd f e).2.2.1)) dX6_goes_125 rfl rfl (by omega) (by decide) ((h47 (by omega))) ?_
                  refine r_iaddN (pc := 126) dX6_goes_126 ?_
                  refine r_bipush (pc := 127) dX6_goes_127 bp_20 ?_
                  refine r_iload_n (pc := 129) dX6_goes_129 rfl ?_
                  refine r_imulN (pc := 130) dX6_goes_130 ?_
                  refine r_aload_n (pc := 131) dX6_goes_131 rfl ?_
                  refine r_getR (pc := 132) (b := 48) dX6_goes_132 fX6_25 rfl rfl ?_
                  refine r_iload_n (pc := 135) dX6_goes_135 rfl ?_
                  refine r_ialdV (pc := 136) (j := (20 * f) + e) (v := nI ((nd f e).2.2.2)) dX6_goes_136 rfl rfl (by omega) (by decide) ((h48 (by omega))) ?_
                  refine r_iaddN (pc := 137) dX6_goes_137 ?_
                  refine r_callV (pc := 138) (N := mX6_goesTwo) (rest := []) (s_two_m X _ I (giL (I 55) sz nd f L e) (20 * f + e) (20 * f + (nd f e).2.2.1) (20 * f + (nd f e).2.2.2) (by omega) (by omega) (by omega) p45) okX6_goesTwo lkX6_239 rfl (by decide) rfl rfl rfl (Nat.le_of_ble_eq_true rfl) ⟨Nat.le_refl _, Nat.le_refl _⟩ dX6_goes_138 ?_
                  refine r_iinc (pc := 141) (v := nI (e + 1)) (lo1 := [.ref 42, .int (nI f), .int (nI (e + 1)), .int (nI ((20 * f) + e))]) dX6_goes_141 rfl rfl (ii1 _) (by decide) rfl ?_
                  refine r_goto (pc := 144) (tgt := 12) dX6_goes_144 (by decide) ?_
                  refine r_drop (lo1 := [.ref 42, .int (nI f), .int (nI (e + 1)), .null]) 3 rfl ?_
                  refine r_L (L' := (giL (I 55) sz nd f L (e + 1))) ((ndM_45 q1).symm) ?_
                  exact ih (e + 1) (by omega)
                · exact absurd c5 (nI_nm9 (by omega))
              · exact absurd c4 (by decide)
            · exact absurd c3 (by decide)
theorem lp_goes (X : Ctx) (d : Nat) (I : MI) (L : ML) (F : Nat) (sz : Nat → Nat) (nd : Nat → Nat → Nat × Nat × Nat × Nat) (hR : MR I F sz nd) (hF : I 42 8 = nI F) (hF4 : F ≤ 4) : ∀ (z f : Nat), f + z = F → Ev X mX6_goes (d + 2) (0, 0) (0, 0) (none, shF, I, (goL (I 55) sz nd L F)) 2 [.ref 42, .int (nI f), .null, .null] [] shF I (goL (I 55) sz nd L f) := by
  intro z
  induction z with
  | zero =>
    intro f hi
    have hi2 : f = F := by omega
    rw [hi2]
    refine r_iload_n (pc := 2) dX6_goes_2 rfl ?_
    refine r_aload_n (pc := 3) dX6_goes_3 rfl ?_
    refine r_getV (pc := 4) (v := nI F) dX6_goes_4 fX6_199 rfl rfl (hF) ?_
    refine r_icmpN_ge (pc := 7) (tgt := 153) dX6_goes_7 (by decide) (by omega) (by omega) (fun c1 => ?_) (fun c1 => ?_)
    · exact r_vret dX6_goes_153 rfl (rfl) rfl
    · exact absurd c1 (by omega)
  | succ z ih =>
    intro f hi
    refine r_iload_n (pc := 2) dX6_goes_2 rfl ?_
    refine r_aload_n (pc := 3) dX6_goes_3 rfl ?_
    refine r_getV (pc := 4) (v := nI F) dX6_goes_4 fX6_199 rfl rfl (hF) ?_
    refine r_icmpN_ge (pc := 7) (tgt := 153) dX6_goes_7 (by decide) (by omega) (by omega) (fun c2 => ?_) (fun c2 => ?_)
    · exact absurd c2 (by omega)
    · refine r_iconst (pc := 10) (v := nI 0) dX6_goes_10 rfl ?_
      refine r_istore_n (pc := 11) (lo1 := [.ref 42, .int (nI f), .int (nI 0), .null]) dX6_goes_11 rfl (by decide) rfl ?_
      refine lp_goes_in X d I (goL (I 55) sz nd L f) F sz nd hR f (by omega) _ ?_ (sz f) 0 (by omega)
      exact ih (f + 1) (by omega)
theorem s_goes (X : Ctx) (d : Nat) (I : MI) (L : ML) (F : Nat) (sz : Nat → Nat) (nd : Nat → Nat → Nat × Nat × Nat × Nat) (hR : MR I F sz nd) (hF : I 42 8 = nI F) (hF4 : F ≤ 4) : Sp X mX6_goes (d + 2) (0, 0) [.ref 42] shF I L (none, shF, I, (goL (I 55) sz nd L F)) := by
  refine Sp.of okX6_goes [.ref 42, .null, .null, .null] 3 rfl (Nat.le_of_ble_eq_true rfl) ?_
  refine r_iconst (pc := 0) (v := nI 0) dX6_goes_0 rfl ?_
  refine r_istore_n (pc := 1) (lo1 := [.ref 42, .int (nI 0), .null, .null]) dX6_goes_1 rfl (by decide) rfl ?_
  exact lp_goes X d I L F sz nd hR hF hF4 F 0 (by omega)
