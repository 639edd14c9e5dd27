/-! the class's memory and the reference's, one by the other -/
def symD (D : Nat → Int32) : Prop := ∀ x y, x < 6 → y < 6 → D (12 + 6 * x + y) = D (12 + 6 * y + x)
def RLt (I : MI) (tx : Nat → Nat) (n : Nat) : Prop := TXc I tx n ∧ TXm I tx n
def RLf (I : MI) (D : Nat → Int32) : Prop := FG I 2 3 D ∧ (∀ j, j < 48 → I 55 j = D j) ∧ symD D
def RLp (I : MI) (fs : List (List Q4)) : Prop := TPa I 4 fs ∧ MR I fs.length (szn fs) (ndn fs)
def RLs (I : MI) (L : ML) (F m : Nat) (fn : Nat → Nat) : Prop := I 0 11 = nI m ∧ I 42 28 = nI m ∧ m ≤ 6 ∧ ∀ i, i < m → I 38 i = nI (fn i) ∧ I 59 i = nI (fn i) ∧ fn i < F ∧ L 39 i = L 60 i
/-- a step back: of a value, of a spread, of a joint -/
def rcU (I : MI) (k : Nat) (A B : Nat → Int32) : Prop := (∃ a, a < 6 ∧ I 24 k = nI a ∧ I 25 k = -1 ∧ ∀ j, j < 48 → B j = up A a (I 26 k) j) ∨ (∃ a b, a < 6 ∧ b < 6 ∧ I 24 k = nI a ∧ I 25 k = nI b ∧ (a = b → ∀ j, j < 48 → B j = up A (6 + a) (I 26 k) j) ∧ (a ≠ b → ∀ j, j < 48 → B j = up (up A (12 + 6 * a + b) (I 26 k)) (12 + 6 * b + a) (I 26 k) j))
def RLu (I : MI) (D : Nat → Int32) (u : Nat) (U : Nat → Nat → Int32) : Prop := I 23 3 = nI u ∧ I 42 23 = nI u ∧ u ≤ 10 ∧ (∀ k, k < u → ∀ j, j < 48 → I 56 (48 * k + j) = U k j) ∧ (∀ j, j < 48 → U u j = D j) ∧ ∀ k, k < u → rcU I k (U (k + 1)) (U k)
def imK (I : MI) (a b c k : Nat) : Prop := I 0 a = I 58 k ∧ (I 0 a = nI 0 ∨ (I 0 a = nI 1 ∧ ∃ E, FG I b c E ∧ (∀ j, j < 48 → I 57 (48 * k + j) = E j) ∧ symD E))
def RLk (I : MI) : Prop := imK I 7 33 34 0 ∧ imK I 8 36 37 1
def REL (I : MI) (L : ML) : Prop := ∃ tx n D fs m fn u U, RLt I tx n ∧ RLf I D ∧ RLp I fs ∧ RLs I L fs.length m fn ∧ RLu I D u U ∧ RLk I
theorem RLt.fr {I J : MI} {tx : Nat → Nat} {n : Nat} (h : RLt I tx n) (h1 : J 11 3 = I 11 3) (h2 : J 22 = I 22) (h3 : J 42 2 = I 42 2) (h4 : J 43 = I 43) : RLt J tx n := ⟨⟨h1.trans h.1.1, h.1.2.1, fun j hj => by rw [h2]; exact h.1.2.2 j hj⟩, ⟨h3.trans h.2.1, h.2.2.1, fun j hj => by rw [h4]; exact h.2.2.2 j hj⟩⟩
theorem RLf.fr {I J : MI} {D : Nat → Int32} (h : RLf I D) (h1 : J 2 = I 2) (h2 : J 3 = I 3) (h3 : J 55 = I 55) : RLf J D := ⟨h.1.fr h1 h2, fun j hj => by rw [h3]; exact h.2.1 j hj, h.2.2⟩
theorem RLp.fr {I J : MI} {fs : List (List Q4)} (h : RLp I fs) (h1 : ∀ c, 4 ≤ c → c ≤ 10 → J c = I c) (h2 : J 42 8 = I 42 8) (h3 : ∀ c, 44 ≤ c → c ≤ 48 → J c = I c) : RLp J fs := ⟨h.1.tr (congrFun (h1 4 (by decide) (by decide)) 6) (congrFun (h1 4 (by decide) (by decide)) 7) (fun j _ => ⟨congrFun (h1 5 (by decide) (by decide)) j, congrFun (h1 6 (by decide) (by decide)) j, congrFun (h1 7 (by decide) (by decide)) j, congrFun (h1 8 (by decide) (by decide)) j, congrFun (h1 9 (by decide) (by decide)) j⟩) (fun j _ => congrFun (h1 10 (by decide) (by decide)) j), MR_of h.2 h2 h3⟩
theorem RLs.fr {I J : MI} {L M : ML} {F m : Nat} {fn : Nat → Nat} (h : RLs I L F m fn) (h1 : J 0 11 = I 0 11) (h2 : J 42 28 = I 42 28) (h3 : J 38 = I 38) (h4 : J 59 = I 59) (h5 : M 39 = L 39) (h6 : M 60 = L 60) : RLs J M F m fn := ⟨h1.trans h.1, h2.trans h.2.1, h.2.2.1, fun i hi => by rw [h3, h4, h5, h6]; exact h.2.2.2 i hi⟩
theorem rcU.fr {I J : MI} {k : Nat} {A B : Nat → Int32} (h : rcU I k A B) (h1 : J 24 k = I 24 k) (h2 : J 25 k = I 25 k) (h3 : J 26 k = I 26 k) : rcU J k A B := by
  unfold rcU
  rw [h1, h2, h3]
  exact h
theorem RLu.fr {I J : MI} {D : Nat → Int32} {u : Nat} {U : Nat → Nat → Int32} (h : RLu I D u U) (h1 : J 23 3 = I 23 3) (h2 : J 42 23 = I 42 23) (h3 : J 24 = I 24) (h4 : J 25 = I 25) (h5 : J 26 = I 26) (h6 : J 56 = I 56) : RLu J D u U := ⟨h1.trans h.1, h2.trans h.2.1, h.2.2.1, fun k hk j hj => by rw [h6]; exact h.2.2.2.1 k hk j hj, h.2.2.2.2.1, fun k hk => (h.2.2.2.2.2 k hk).fr (congrFun h3 k) (congrFun h4 k) (congrFun h5 k)⟩
theorem imK.fr {I J : MI} {a b c k : Nat} (h : imK I a b c k) (h1 : J 0 a = I 0 a) (h2 : J 58 k = I 58 k) (h3 : J b = I b) (h4 : J c = I c) (h5 : ∀ j, j < 48 → J 57 (48 * k + j) = I 57 (48 * k + j)) : imK J a b c k := by
  refine ⟨(h1.trans h.1).trans h2.symm, ?_⟩
  rcases h.2 with z | ⟨z, E, e1, e2, e3⟩
  · exact Or.inl (h1.trans z)
  · exact Or.inr ⟨h1.trans z, E, e1.fr h3 h4, fun j hj => (h5 j hj).trans (e2 j hj), e3⟩
theorem RLk.fr {I J : MI} (h : RLk I) (h1 : J 0 7 = I 0 7) (h2 : J 0 8 = I 0 8) (h3 : J 58 = I 58) (h4 : J 33 = I 33) (h5 : J 34 = I 34) (h6 : J 36 = I 36) (h7 : J 37 = I 37) (h8 : J 57 = I 57) : RLk J := ⟨h.1.fr h1 (congrFun h3 0) h4 h5 (fun j _ => congrFun h8 _), h.2.fr h2 (congrFun h3 1) h6 h7 (fun j _ => congrFun h8 _)⟩
/-- nothing but the reference's word of throwing, and the arrays of the evaluators, has changed -/
theorem REL.th {I J : MI} {L M : ML} (h : REL I L) (hc : ∀ c, c ≤ 62 → c ≠ 42 → J c = I c) (hj : ∀ j, j = 2 ∨ j = 8 ∨ j = 23 ∨ j = 28 → J 42 j = I 42 j) (h5 : M 39 = L 39) (h6 : M 60 = L 60) : REL J M := by
  obtain ⟨tx, n, D, fs, m, fn, u, U, r1, r2, r3, r4, r5, r6⟩ := h
  have g : ∀ c, c ≤ 62 → c ≠ 42 → ∀ j, J c j = I c j := fun c c1 c2 j => congrFun (hc c c1 c2) j
  exact ⟨tx, n, D, fs, m, fn, u, U, r1.fr (g 11 (by decide) (by decide) 3) (hc 22 (by decide) (by decide)) (hj 2 (by decide)) (hc 43 (by decide) (by decide)),
    r2.fr (hc 2 (by decide) (by decide)) (hc 3 (by decide) (by decide)) (hc 55 (by decide) (by decide)),
    r3.fr (fun c c1 c2 => hc c (by omega) (by omega)) (hj 8 (by decide)) (fun c c1 c2 => hc c (by omega) (by omega)),
    r4.fr (g 0 (by decide) (by decide) 11) (hj 28 (by decide)) (hc 38 (by decide) (by decide)) (hc 59 (by decide) (by decide)) h5 h6,
    r5.fr (g 23 (by decide) (by decide) 3) (hj 23 (by decide)) (hc 24 (by decide) (by decide)) (hc 25 (by decide) (by decide)) (hc 26 (by decide) (by decide)) (hc 56 (by decide) (by decide)),
    r6.fr (g 0 (by decide) (by decide) 7) (g 0 (by decide) (by decide) 8) (hc 58 (by decide) (by decide)) (hc 33 (by decide) (by decide)) (hc 34 (by decide) (by decide)) (hc 36 (by decide) (by decide)) (hc 37 (by decide) (by decide)) (hc 57 (by decide) (by decide))⟩
theorem REL.t0 {I : MI} {L M : ML} (h : REL I L) (h5 : M 39 = L 39) (h6 : M 60 = L 60) : REL (u2 I 42 0 (nI 0)) M := h.th (fun c _ c2 => u2_off c2) (fun j hj => u2_ne (by omega)) h5 h6
/-! arguments -/
theorem i_lt {x : Int32} {n : Nat} (hn : n < 2 ^ 31) : x < nI n ↔ x.toInt < n := by rw [Int32.lt_iff_toInt_lt, nI_toInt hn]
theorem i_le {x : Int32} {n : Nat} (hn : n < 2 ^ 31) : nI n ≤ x ↔ (n : Int) ≤ x.toInt := by rw [Int32.le_iff_toInt_le, nI_toInt hn]
theorem i_gt {x : Int32} {n : Nat} (hn : n < 2 ^ 31) : nI n < x ↔ (n : Int) < x.toInt := by rw [Int32.lt_iff_toInt_lt, nI_toInt hn]
theorem i_nn {x : Int32} : x < 0 ↔ x.toInt < 0 := by
  rw [Int32.lt_iff_toInt_lt, show ((0 : Int32)).toInt = 0 from by decide]
theorem i_eq {x : Int32} {n : Nat} (hn : n < 2 ^ 31) (h : x.toInt = n) : x = nI n := Int32.toInt_inj.mp (h.trans (nI_toInt hn).symm)
/-- a number below N, or none -/
theorem arN {N : Nat} (hN : N ≤ 1000) (x : Int32) : (∃ k, k < N ∧ x = nI k) ∨ ((x < 0 ∨ nI N ≤ x) ∧ (x < nI 0)) ∨ ((x < 0 ∨ nI N ≤ x) ∧ (N : Int) ≤ x.toInt) := by
  by_cases h0 : x.toInt < 0
  · exact Or.inr (Or.inl ⟨Or.inl (i_nn.mpr h0), (i_lt (by decide)).mpr h0⟩)
  · by_cases h1 : (N : Int) ≤ x.toInt
    · exact Or.inr (Or.inr ⟨Or.inr ((i_le (by omega)).mpr h1), h1⟩)
    · exact Or.inl ⟨x.toInt.toNat, by omega, i_eq (by omega) (by omega)⟩
/-- a formula's number, or none -/
theorem arF {F : Nat} (hF : F ≤ 4) (x : Int32) : (∃ k, k < F ∧ x = nI k) ∨ ((x < 0 ∨ nI F ≤ x) ∧ (x < nI 0 ∨ nI F - nI 1 < x)) := by
  rcases arN (N := F) (by omega) x with h | ⟨h1, h2⟩ | ⟨h1, h2⟩
  · exact Or.inl h
  · exact Or.inr ⟨h1, Or.inl h2⟩
  · refine Or.inr ⟨h1, Or.inr ?_⟩
    rw [Int32.lt_iff_toInt_lt]
    have e : (nI F - nI 1).toInt = (F : Int) - 1 := by
      rcases (by omega : F = 0 ∨ F = 1 ∨ F = 2 ∨ F = 3 ∨ F = 4) with z | z | z | z | z <;> subst z <;> decide
    omega
/-- a number of 0 to N, or none -/
theorem arS {N : Nat} (hN : N ≤ 900) (x : Int32) : (∃ k, k < N + 1 ∧ x = nI k) ∨ ((x < 0 ∨ nI (N + 1) ≤ x) ∧ (x < nI 0 ∨ nI N < x) ∧ (x < 0 ∨ nI N < x) ∧ (x.toInt < 0 ∨ (N : Int) < x.toInt)) := by
  rcases arN (N := N + 1) (by omega) x with h | ⟨h1, h2⟩ | ⟨h1, h2⟩
  · exact Or.inl h
  · have h3 := (i_lt (by decide)).mp h2
    exact Or.inr ⟨h1, Or.inl h2, Or.inl (i_nn.mpr (by omega)), Or.inl (by omega)⟩
  · exact Or.inr ⟨h1, Or.inr ((i_gt (by omega)).mpr (by omega)), Or.inr ((i_gt (by omega)).mpr (by omega)), Or.inr (by omega)⟩
/-- one method of both, over the two memories -/
def AGI (N M : MD) (av : List Value) (X : Ctx) (I : MI) (L : ML) : Prop := ∃ (v : Int32) (I1 : MI) (L1 : ML) (I2 : MI) (L2 : ML), Sp X N 60 (0, 0) (.ref 0 :: av) shF I L (some (.int v), shF, I1, L1) ∧ Sp X M 60 (0, 0) (.ref 42 :: av) shF I1 L1 (some (.int v), shF, I2, L2) ∧ REL I2 L2
def AGL (N M : MD) (av : List Value) (X : Ctx) (I : MI) (L : ML) : Prop := ∃ (v : Int64) (I1 : MI) (L1 : ML) (I2 : MI) (L2 : ML), Sp X N 60 (0, 0) (.ref 0 :: av) shF I L (some (.long v), shF, I1, L1) ∧ Sp X M 60 (0, 0) (.ref 42 :: av) shF I1 L1 (some (.long v), shF, I2, L2) ∧ REL I2 L2
theorem TPa.nw {I : MI} {fs : List (List Q4)} (h : TPa I 4 fs) {m : Nat} (hm : m ≤ fs.length) : ∀ j, j < bsF fs m → NW I j := by
  intro j hj
  obtain ⟨g, e, h1, h2, h3⟩ := bs_dec hj
  subst h3
  obtain ⟨n5, n6, n7, ok⟩ := h.nf (show g < fs.length by omega) h2
  obtain ⟨q, hq⟩ : ∃ q, ndn fs g e = q := ⟨_, rfl⟩
  rw [hq] at n5 n6 n7 ok
  rcases ok with h0 | ⟨h0, hx⟩ | ⟨h0, hx⟩ | ⟨h0, hx⟩ | ⟨h0, hn, hx⟩ | ⟨h0, hx, hy⟩
  · exact ⟨0, by decide, n5.trans (congrArg (fun z => nI (kdS z)) h0), fun z => absurd z (by decide), fun z => absurd z (by decide), fun z => absurd z (by decide), fun z => absurd z (by decide)⟩
  · exact ⟨1, by decide, n5.trans (congrArg (fun z => nI (kdS z)) h0), fun _ => ⟨q.2.1, hx, n6.trans (congrArg nI (if_pos (by omega)))⟩, fun z => absurd z (by decide), fun z => absurd z (by decide), fun z => absurd z (by decide)⟩
  · have hr := (h.rtb (show g ≤ fs.length by omega) hx).2
    exact ⟨2, by decide, n5.trans (congrArg (fun z => nI (kdS z)) h0), fun z => absurd z (by decide), fun _ => ⟨rtF fs q.2.1, by omega, n6.trans (congrArg nI ((if_neg (by omega)).trans (if_pos h0)))⟩, fun z => absurd z (by decide), fun z => absurd z (by decide)⟩
  · exact ⟨7, by decide, n5.trans (congrArg (fun z => nI (kdS z)) h0), fun z => absurd z (by decide), fun _ => ⟨bsF fs g + q.2.2.1, by omega, n6.trans (congrArg nI ((if_neg (by omega)).trans (if_neg (by omega))))⟩, fun _ z => absurd z (by decide), fun z => absurd z (by decide)⟩
  · exact ⟨6, by decide, n5.trans (congrArg (fun z => nI (kdS z)) h0), fun z => absurd z (by decide), fun _ => ⟨bsF fs g + q.2.2.1, by omega, n6.trans (congrArg nI ((if_neg (by omega)).trans (if_neg (by omega))))⟩, fun _ z => absurd z (by decide), fun _ => ⟨q.2.1, hn, n7.trans (congrArg nI (if_pos h0))⟩⟩
  · have one : oneS (rtF fs) (bsF fs g) q = bsF fs g + q.2.2.1 := (if_neg (by omega)).trans (if_neg (by omega))
    have oth : othS (bsF fs g) q = bsF fs g + q.2.2.2 := (if_neg (by omega)).trans (if_pos (by omega))
    have A : ∀ k, k ≤ 7 → 3 ≤ k → k ≤ 5 → I 5 (bsF fs g + e) = nI k → NW I (bsF fs g + e) := fun k k1 k2 k3 k4 => ⟨k, k1, k4, fun z => by omega, fun _ => ⟨bsF fs g + q.2.2.1, by omega, n6.trans (congrArg nI one)⟩, fun _ _ => ⟨bsF fs g + q.2.2.2, by omega, n7.trans (congrArg nI oth)⟩, fun z => by omega⟩
    rcases h0 with h0 | h0 | h0
    · exact A 5 (by decide) (by decide) (by decide) (n5.trans (congrArg (fun z => nI (kdS z)) h0))
    · exact A 3 (by decide) (by decide) (by decide) (n5.trans (congrArg (fun z => nI (kdS z)) h0))
    · exact A 4 (by decide) (by decide) (by decide) (n5.trans (congrArg (fun z => nI (kdS z)) h0))
