/-! the desk: both answer the same -/
theorem FRy.c {I J : MI} (h : FRy I J) {c : Nat} (h1 : c ≠ 42) (h2 : ¬ (49 ≤ c ∧ c ≤ 54)) (h3 : c ≠ 61) (h4 : c ≠ 62) : J c = I c := funext fun j => h c j (by omega) h2 h3 h4
theorem FRy.j {I J : MI} (h : FRy I J) {j : Nat} (hj : j = 2 ∨ j = 8 ∨ j = 23 ∨ j = 28) : J 42 j = I 42 j := h 42 j (by omega) (by omega) (by omega) (by omega)
theorem FRx.c2 {I J : MI} (h : FRx I J) {c : Nat} (h1 : c ≠ 11) (h2 : ¬ (13 ≤ c ∧ c ≤ 21)) : J c = I c := funext fun j => h c j (by omega) (by omega) (by omega) (by omega)
/-- a text that tells no desk leaves all as it was -/
theorem REL.bad {I J H : MI} {L : ML} (hR : REL I L) (hx : FRx I J) (hy : FRy J H) : REL H L := by
  obtain ⟨tx, n, D, fs, m, fn, u, U, r1, r2, r3, r4, r5, r6⟩ := hR
  have g : ∀ c, c ≠ 11 → ¬ (13 ≤ c ∧ c ≤ 21) → c ≠ 42 → ¬ (49 ≤ c ∧ c ≤ 54) → c ≠ 61 → c ≠ 62 → H c = I c := fun c h1 h2 h3 h4 h5 h6 => (hy.c h3 h4 h5 h6).trans (hx.c2 h1 h2)
  have k : ∀ j, j = 2 ∨ j = 8 ∨ j = 23 ∨ j = 28 → H 42 j = I 42 j := fun j hj => (hy.j hj).trans (congrFun (hx.c2 (by decide) (by decide)) j)
  have z : ∀ c, (c ≤ 10 ∨ c = 12 ∨ (22 ≤ c ∧ c ≤ 41) ∨ c = 43 ∨ (44 ≤ c ∧ c ≤ 48) ∨ (55 ≤ c ∧ c ≤ 60)) → H c = I c := fun c hc => g c (by omega) (by omega) (by omega) (by omega) (by omega) (by omega)
  have h11 : H 11 3 = I 11 3 := (congrFun (hy.c (by decide) (by decide) (by decide) (by decide)) 3).trans (hx 11 3 (by decide) (by decide) (by decide) (by decide))
  exact ⟨tx, n, D, fs, m, fn, u, U, r1.fr h11 (z 22 (by decide)) (k 2 (by decide)) (z 43 (by decide)), r2.fr (z 2 (by decide)) (z 3 (by decide)) (z 55 (by decide)),
    r3.fr (fun c c1 c2 => z c (by omega)) (k 8 (by decide)) (fun c c1 c2 => z c (by omega)), r4.fr (congrFun (z 0 (by decide)) 11) (k 28 (by decide)) (z 38 (by decide)) (z 59 (by decide)) rfl rfl,
    r5.fr (congrFun (z 23 (by decide)) 3) (k 23 (by decide)) (z 24 (by decide)) (z 25 (by decide)) (z 26 (by decide)) (z 56 (by decide)),
    r6.fr (congrFun (z 0 (by decide)) 7) (congrFun (z 0 (by decide)) 8) (z 58 (by decide)) (z 33 (by decide)) (z 34 (by decide)) (z 36 (by decide)) (z 37 (by decide)) (z 57 (by decide))⟩
/-- a new desk's figures are as they are told on both sides of every joint -/
theorem symD_0 : symD (fun _ => nI 0) := fun _ _ _ _ => rfl
theorem rdSrc_sym {K V : Nat → Nat} {t u : Nat} {D D2 : Nat → Int32} (h : rdSrc K V t D = .inr (u, D2)) (hs : symD D) : symD D2 := by
  unfold rdSrc at h
  split at h
  · rename_i hS
    split at h
    · split at h
      · cases h; exact sym_lo (sym_lo hs (by omega) _) (by omega) _
      · cases h
    · cases h
  · cases h
theorem rdJnt_sym {K V : Nat → Nat} {t u : Nat} {D D2 : Nat → Int32} (h : rdJnt K V t D = .inr (u, D2)) (hs : symD D) : symD D2 := by
  unfold rdJnt at h
  split at h
  · rename_i hS
    split at h
    · rename_i hR
      split at h
      · cases h; exact sym_jt hs (by omega) (by omega) _
      · cases h
    · cases h
  · cases h
theorem rdItem_sym {K V : Nat → Nat} {t u : Nat} {D D2 : Nat → Int32} {fs fs2 : List (List Q4)} (h : rdItem K V t D fs = .inr (u, D2, fs2)) (hs : symD D) : symD D2 := by
  unfold rdItem at h
  split at h
  · cases R : rdSrc K V (t + 1) D with
    | inl v => rw [R] at h; cases h
    | inr v =>
      obtain ⟨w, E⟩ := v
      rw [R] at h
      dsimp only at h
      split at h
      · cases h; exact rdSrc_sym R hs
      · cases h
  · split at h
    · cases R : rdJnt K V (t + 1) D with
      | inl v => rw [R] at h; cases h
      | inr v =>
        obtain ⟨w, E⟩ := v
        rw [R] at h
        dsimp only at h
        split at h
        · cases h; exact rdJnt_sym R hs
        · cases h
    · split at h
      · cases R : rdFrm K V t fs with
        | inl v => rw [R] at h; cases h
        | inr v =>
          obtain ⟨w, E⟩ := v
          rw [R] at h
          dsimp only at h
          split at h
          · cases h; exact hs
          · cases h
      · cases h
theorem rdAll_sym {K V : Nat → Nat} : ∀ {f i t : Nat} {D : Nat → Int32} {fs : List (List Q4)} {j : Nat} {D2 : Nat → Int32} {fs2 : List (List Q4)}, rdAll K V f i t D fs = .inr (j, D2, fs2) → symD D → symD D2
  | 0, i, t, D, fs, j, D2, fs2, h, hs => by cases h; exact hs
  | f + 1, i, t, D, fs, j, D2, fs2, h, hs => by
    by_cases hk : K t = 0
    · rw [rdAll_0 hk] at h
      cases h
      exact hs
    · cases R : rdItem K V t D fs with
      | inl u => rw [rdAll_f hk R] at h; cases h
      | inr v =>
        obtain ⟨u, E, gs⟩ := v
        rw [rdAll_s hk R] at h
        exact rdAll_sym h (rdItem_sym R hs)
theorem setM_mr {J : MI} {fs : List (List Q4)} (h : TPm J fs) : MR (setM J fs.length) fs.length (szn fs) (ndn fs) := by
  refine ⟨rfl, h.2.1, fun f hf => ?_⟩
  obtain ⟨h1, h2, h3, h4⟩ := h.2.2 f hf
  have hF4 := h.2.1
  refine ⟨?_, h1, h2, fun e he => ?_⟩
  · exact (show (if f < 4 then (if f < fs.length then J 49 f else nI 0) else J 44 f) = _ from (if_pos (by omega)).trans (if_pos hf)).trans h3
  · obtain ⟨⟨m1, m2, m3, m4, m5⟩, ok⟩ := h4 e _ (ndn_ex he)
    have he2 : e < szn fs f := he
    have hs2 : szn fs f ≤ 20 := h2
    have h80 : 20 * f + e < 80 := by omega
    exact ⟨ok, (show (if 20 * f + e < 80 then J 50 (20 * f + e) else J 45 (20 * f + e)) = _ from if_pos h80).trans m1, (show (if 20 * f + e < 80 then J 51 (20 * f + e) else J 46 (20 * f + e)) = _ from if_pos h80).trans m2, fun z => (show (if 20 * f + e < 80 then J 52 (20 * f + e) else J 47 (20 * f + e)) = _ from if_pos h80).trans (m3 z), fun z => (show (if 20 * f + e < 80 then J 53 (20 * f + e) else J 48 (20 * f + e)) = _ from if_pos h80).trans (m4 z), fun z => (show (if 20 * f + e < 80 then J 53 (20 * f + e) else J 48 (20 * f + e)) = _ from if_pos h80).trans (m5 z)⟩
theorem a_desk (X : Ctx) (I : MI) (L : ML) (hR : REL I L)  : AGI mX5_desk mX6_desk [] X I L := by
  obtain ⟨tx, n, D, fs, m, fn, u, U, r1, r2, r3, r4, r5, r6⟩ := id hR
  have hF := r3.1.1
  have hF8 := r3.2.1
  have hF4 := r3.1.2.1
  obtain ⟨T1, Q1, S1⟩ := p_desk X 0 I L tx n r1.1
  cases R : rdAll (tkK tx n) (tkV tx n) 100 0 0 (fun _ => nI 0) [] with
  | inl v =>
    rw [R] at Q1
    obtain ⟨J, rfl, hx⟩ := Q1
    have hX : TXm J tx n := ⟨(congrFun (hx.c2 (by decide) (by decide)) 2).trans r1.2.1, r1.2.2.1, fun j hj => by rw [hx.c2 (by decide) (by decide)]; exact r1.2.2.2 j hj⟩
    obtain ⟨T2, Q2, S2⟩ := q_desk X 52 J L tx n hX
    rw [R] at Q2
    obtain ⟨H, rfl, hy⟩ := Q2
    exact ⟨_, _, _, _, _, S1, S2, hR.bad hx hy⟩
  | inr v =>
    obtain ⟨i, E, gs⟩ := v
    rw [R] at Q1
    obtain ⟨J, rfl, g1, g2, e1, e2, e3, e4, e5, hc⟩ := Q1
    have hX : TXm J tx n := ⟨(congrFun (hc 42 (by decide)) 2).trans r1.2.1, r1.2.2.1, fun j hj => by rw [hc 43 (by decide)]; exact r1.2.2.2 j hj⟩
    obtain ⟨T2, Q2, S2⟩ := q_desk X 52 J L tx n hX
    rw [R] at Q2
    obtain ⟨H, rfl, hy, g3, g4⟩ := Q2
    have z : ∀ c, c < 42 → H c = J c := fun c hc => hy.c (by omega) (by omega) (by omega) (by omega)
    refine ⟨_, _, _, _, _, S1, S2, tx, 0, E, gs, 0, (fun _ => 0), 0, (fun _ => E), ⟨⟨?_, Nat.zero_le _, fun j hj => absurd hj (Nat.not_lt_zero j)⟩, ⟨rfl, Nat.zero_le _, fun j hj => absurd hj (Nat.not_lt_zero j)⟩⟩, ⟨g1.fr ?_ ?_, ?_, rdAll_sym R symD_0⟩, ⟨?_, setM_mr g4⟩, ⟨?_, rfl, Nat.zero_le _, fun j hj => absurd hj (Nat.not_lt_zero j)⟩, ⟨?_, rfl, Nat.zero_le _, fun j hj => absurd hj (Nat.not_lt_zero j), fun j hj => rfl, fun j hj => absurd hj (Nat.not_lt_zero j)⟩, ⟨⟨?_, Or.inl ?_⟩, ⟨?_, Or.inl ?_⟩⟩⟩
    · exact (congrFun (z 11 (by decide)) 3).trans e1
    · exact z 2 (by decide)
    · exact z 3 (by decide)
    · exact fun j hj => (show (if j < 48 then H 54 j else H 55 j) = _ from if_pos hj).trans (g3 j hj)
    · exact g2.tr (congrFun (z 4 (by decide)) 6) (congrFun (z 4 (by decide)) 7) (fun j _ => ⟨congrFun (z 5 (by decide)) j, congrFun (z 6 (by decide)) j, congrFun (z 7 (by decide)) j, congrFun (z 8 (by decide)) j, congrFun (z 9 (by decide)) j⟩) (fun j _ => congrFun (z 10 (by decide)) j)
    · exact (congrFun (z 0 (by decide)) 11).trans e3
    · exact (congrFun (z 23 (by decide)) 3).trans e2
    · exact (congrFun (z 0 (by decide)) 7).trans e4
    · exact (congrFun (z 0 (by decide)) 7).trans e4
    · exact (congrFun (z 0 (by decide)) 8).trans e5
    · exact (congrFun (z 0 (by decide)) 8).trans e5
