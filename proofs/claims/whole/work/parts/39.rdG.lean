/-- a sum, k more brackets to open -/
theorem s_sumK (X : Ctx) (L : ML) (tx : Nat → Nat) (n F : Nat) (rt : Nat → Nat) (sg ng : Nat → Int32) (b0 e : Nat) : ∀ k dp, dp + k = 8 → INN L tx n F rt sg ng b0 X (e + 6 * k + 8) dp (rdS (tkK tx n) (tkV tx n) F k)
  | 0, dp, h => fun I t c l hP => s_readSum X (e + 6 * 0) I L tx n F rt sg ng b0 t c l hP dp none (show dp = 8 by omega)
  | k + 1, dp, h => fun I t c l hP => s_readSum X (e + 6 * (k + 1)) I L tx n F rt sg ng b0 t c l hP dp (some (rdS (tkK tx n) (tkV tx n) F k)) ⟨by omega, by
      have q := s_sumK X L tx n F rt sg ng b0 e k (dp + 1) (by omega)
      have e1 : e + 6 * k + 8 = e + 6 * (k + 1) + 2 := by omega
      rw [e1] at q
      exact q⟩
def up (D : Nat → Int32) (j : Nat) (v : Int32) : Nat → Int32 := fun i => if i = j then v else D i
/-- figures at cells a, b are those of D -/
def FG (I : MI) (a b : Nat) (D : Nat → Int32) : Prop := (∀ j, j < 6 → I a j = D j) ∧ ∀ x, x < 6 → ∀ y, y < 6 → I b (x * 6 + y) = if x = y then D (6 + x) else D (12 + 6 * x + y)
theorem FG.fr {I J : MI} {a b : Nat} {D : Nat → Int32} (h : FG I a b D) (ha : J a = I a) (hb : J b = I b) : FG J a b D := ⟨fun j hj => by rw [ha]; exact h.1 j hj, fun x hx y hy => by rw [hb]; exact h.2 x hx y hy⟩
theorem FG.worth {I : MI} {a b : Nat} {D : Nat → Int32} (h : FG I a b D) (hab : b ≠ a) {x : Nat} (hx : x < 6) (v : Int32) : FG (u2 I a x v) a b (up D x v) := by
  refine ⟨fun j hj => ?_, fun p hp q hq => ?_⟩
  · rw [u2_on]
    show (if j = x then v else I a j) = if j = x then v else D j
    rw [h.1 j hj]
  · rw [u2_off hab, h.2 p hp q hq]
    unfold up
    by_cases h3 : p = q
    · rw [if_pos h3, if_pos h3, if_neg (by omega)]
    · rw [if_neg h3, if_neg h3, if_neg (by omega)]
theorem FG.own {I : MI} {a b : Nat} {D : Nat → Int32} (h : FG I a b D) (hab : a ≠ b) {x : Nat} (hx : x < 6) (v : Int32) : FG (u2 (u2 I b (x * 6 + x) v) b (x * 6 + x) v) a b (up D (6 + x) v) := by
  refine ⟨fun j hj => ?_, fun p hp q hq => ?_⟩
  · rw [u2_off hab, u2_off hab, h.1 j hj]
    unfold up
    rw [if_neg (by omega)]
  · rw [u2_on, u2_on]
    show (if p * 6 + q = x * 6 + x then v else if p * 6 + q = x * 6 + x then v else I b (p * 6 + q)) = _
    rw [h.2 p hp q hq]
    unfold up
    by_cases h1 : p = x ∧ q = x
    · rw [if_pos (by omega), if_pos (by omega), if_pos (by omega)]
    · rw [if_neg (by omega), if_neg (by omega)]
      by_cases h2 : p = q
      · rw [if_pos h2, if_pos h2, if_neg (by omega)]
      · rw [if_neg h2, if_neg h2, if_neg (by omega)]
theorem FG.joint {I : MI} {a b : Nat} {D : Nat → Int32} (h : FG I a b D) (hab : a ≠ b) {x y : Nat} (hx : x < 6) (hy : y < 6) (hxy : y ≠ x) (v : Int32) : FG (u2 (u2 I b (x * 6 + y) v) b (y * 6 + x) v) a b (up (up D (12 + 6 * x + y) v) (12 + 6 * y + x) v) := by
  refine ⟨fun j hj => ?_, fun p hp q hq => ?_⟩
  · rw [u2_off hab, u2_off hab, h.1 j hj]
    unfold up
    rw [if_neg (by omega), if_neg (by omega)]
  · rw [u2_on, u2_on]
    show (if p * 6 + q = y * 6 + x then v else if p * 6 + q = x * 6 + y then v else I b (p * 6 + q)) = _
    rw [h.2 p hp q hq]
    unfold up
    by_cases h1 : p = y ∧ q = x
    · rw [if_pos (by omega), if_neg (by omega), if_pos (by omega)]
    · rw [if_neg (by omega)]
      by_cases h2 : p = x ∧ q = y
      · rw [if_pos (by omega), if_neg (by omega), if_neg (by omega), if_pos (by omega)]
      · rw [if_neg (by omega)]
        by_cases h3 : p = q
        · rw [if_pos h3, if_pos h3, if_neg (by omega), if_neg (by omega)]
        · rw [if_neg h3, if_neg h3, if_neg (by omega), if_neg (by omega)]
/-- text and the token at hand -/
def PQ (I : MI) (tx : Nat → Nat) (n t : Nat) : Prop := TXc I tx n ∧ CRt I tx n t
theorem PQ.pass {I J : MI} {tx : Nat → Nat} {n t t' : Nat} (h : PQ I tx n t) (hF : FRp I J) (hC : CRt J tx n t') : PQ J tx n t' := ⟨h.1.fr hF, hC⟩
theorem PQ.fr {I J : MI} {tx : Nat → Nat} {n t : Nat} (h : PQ I tx n t) (h1 : J 11 = I 11) (h2 : J 22 = I 22) : PQ J tx n t := by
  obtain ⟨⟨a, b, c⟩, r⟩ := h
  refine ⟨⟨?_, b, fun j hj => ?_⟩, ?_⟩
  · rw [h1]; exact a
  · rw [h2]; exact c j hj
  · exact r.fr (by rw [h1]) (by rw [h1]) (by rw [h1]) (by rw [h1])
def FRs (I J : MI) : Prop := ∀ c j, ¬ (c = 11 ∧ 4 ≤ j ∧ j ≤ 7) → c ≠ 13 → c ≠ 14 → J c j = I c j
theorem FRs.refl (I : MI) : FRs I I := fun _ _ _ _ _ => rfl
theorem FRs.pass {I J H : MI} (h : FRs I J) (hF : FRp J H) : FRs I H := fun c j q1 q2 q3 => (hF c j q1).trans (h c j q1 q2 q3)
theorem FRs.u13 {I J : MI} (h : FRs I J) (j : Nat) (v : Int32) : FRs I (u2 J 13 j v) := fun c i q1 q2 q3 => by rw [u2_off q2]; exact h c i q1 q2 q3
theorem FRs.u14 {I J : MI} (h : FRs I J) (j : Nat) (v : Int32) : FRs I (u2 J 14 j v) := fun c i q1 q2 q3 => by rw [u2_off q3]; exact h c i q1 q2 q3
theorem FRp.c {I J : MI} (h : FRp I J) {c : Nat} (hc : c ≠ 11) : J c = I c := funext fun j => h c j (by omega)
abbrev isSo (K V : Nat → Nat) (t : Nat) : Prop := K t = 1 ∧ 97 ≤ V t ∧ V t ≤ 102
def sgO (K V : Nat → Nat) (t : Nat) : Int32 := if K t = 1 ∧ V t = 45 then -1 else nI 1
def sgT (K V : Nat → Nat) (t : Nat) : Nat := if K t = 1 ∧ V t = 45 then t + 1 else t
/-- S, source, value, spread; t behind the S -/
def rdSrc (K V : Nat → Nat) (t : Nat) (D : Nat → Int32) : Nat ⊕ (Nat × (Nat → Int32)) :=
  if isSo K V t then (if K (sgT K V (t + 1)) = 2 then (if K (sgT K V (t + 1) + 1) = 2 then .inr (sgT K V (t + 1) + 2, up (up D (V t - 97) (sgO K V (t + 1) * nI (V (sgT K V (t + 1))))) (6 + (V t - 97)) (nI (V (sgT K V (t + 1) + 1)))) else .inl (sgT K V (t + 1) + 1)) else .inl (sgT K V (t + 1))) else .inl t
/-- C, source, other source, value -/
def rdJnt (K V : Nat → Nat) (t : Nat) (D : Nat → Int32) : Nat ⊕ (Nat × (Nat → Int32)) :=
  if isSo K V t then (if isSo K V (t + 1) ∧ V (t + 1) ≠ V t then (if K (sgT K V (t + 2)) = 2 then .inr (sgT K V (t + 2) + 1, up (up D (12 + 6 * (V t - 97) + (V (t + 1) - 97)) (sgO K V (t + 2) * nI (V (sgT K V (t + 2))))) (12 + 6 * (V (t + 1) - 97) + (V t - 97)) (sgO K V (t + 2) * nI (V (sgT K V (t + 2))))) else .inl (sgT K V (t + 2))) else .inl (t + 1)) else .inl t
/-- the end of the reading of a source or a joint -/
def QI (I : MI) (L : ML) (tx : Nat → Nat) (n : Nat) (r : Nat ⊕ (Nat × (Nat → Int32))) (T : TR) : Prop := match r with
  | .inl u => ∃ J, T = (some (.int (nI 0)), shF, J, L) ∧ FRs I J ∧ PQ J tx n u
  | .inr (u, D) => ∃ J, T = (some (.int (nI 1)), shF, J, L) ∧ FRs I J ∧ PQ J tx n u ∧ FG J 13 14 D
theorem s_passSign (X : Ctx) (d : Nat) (I : MI) (L : ML) (tx : Nat → Nat) (n t : Nat) (h : PQ I tx n t) : ∃ T, (fun T => ∃ J, T = (some (.int (sgO (tkK tx n) (tkV tx n) t)), shF, J, L) ∧ FRp I J ∧ CRt J tx n (sgT (tkK tx n) (tkV tx n) t)) T ∧ Sp X mX2_passSign (d + 3) (0, 0) [.ref 11] shF I L T := by
  refine qU (fun T_ k_ => Sp.of okX2_passSign [.ref 11] 0 rfl (Nat.le_of_ble_eq_true rfl) k_) ?_
  have bd := tk_bd h.1 t
  unfold sgO sgT
  by_cases hA : tkK tx n t = 1 ∧ tkV tx n t = 45
  · rw [if_pos hA, if_pos hA]
    refine qU (fun T_ k_ => r_aload_n (pc := 0) dX2_passSign_0 rfl k_) ?_
    refine qU (fun T_ k_ => r_getV (pc := 1) (v := tokI (tkK tx n (t)) (tkV tx n (t))) dX2_passSign_1 fX2_43 rfl rfl (h.2.1) k_) ?_
    refine qU (fun T_ k_ => r_bipush (pc := 4) dX2_passSign_4 bp_45 k_) ?_
    refine qP (fun T_ => r_icmp_eq (pc := 6) (tgt := 11) dX2_passSign_6 (by decide)) (fun c1 => ?_) (fun c1 => ?_)
    · refine qU (fun T_ k_ => r_aload_n (pc := 11) dX2_passSign_11 rfl k_) ?_
      obtain ⟨T46, ⟨J46, rfl, F46, C46⟩, S46⟩ := s_pass X d I L tx n (t + 1) h.1 h.2.2.2.1
      have P46 := h.pass F46 C46
      refine qU (fun T_ k_ => r_callV (pc := 12) (N := mX2_pass) (rest := []) (S46) okX2_pass lkX2_40 rfl (by decide) rfl rfl rfl (Nat.le_of_ble_eq_true rfl) ⟨Nat.le_refl _, Nat.le_refl _⟩ dX2_passSign_12 k_) ?_
      refine qU (fun T_ k_ => r_iconst (pc := 15) (v := -1) dX2_passSign_15 rfl k_) ?_
      exact ⟨_, ⟨_, rfl, F46, P46.2⟩, r_iret dX2_passSign_16 rfl rfl rfl⟩
    · exact absurd ((tokI_ch bd.1 bd.2.1 (ch := 45) (by decide)).mpr hA) c1
  · rw [if_neg hA, if_neg hA]
    refine qU (fun T_ k_ => r_aload_n (pc := 0) dX2_passSign_0 rfl k_) ?_
    refine qU (fun T_ k_ => r_getV (pc := 1) (v := tokI (tkK tx n (t)) (tkV tx n (t))) dX2_passSign_1 fX2_43 rfl rfl (h.2.1) k_) ?_
    refine qU (fun T_ k_ => r_bipush (pc := 4) dX2_passSign_4 bp_45 k_) ?_
    refine qP (fun T_ => r_icmp_eq (pc := 6) (tgt := 11) dX2_passSign_6 (by decide)) (fun c1 => ?_) (fun c1 => ?_)
    · exact absurd ((tokI_ch bd.1 bd.2.1 (ch := 45) (by decide)).mp c1) hA
    · refine qU (fun T_ k_ => r_iconst (pc := 9) (v := nI 1) dX2_passSign_9 rfl k_) ?_
      exact ⟨_, ⟨_, rfl, FRp.refl I, h.2⟩, r_iret dX2_passSign_10 rfl rfl rfl⟩
