/-! figures changed and undone: both answer the same -/
theorem rcU.mv {I J : MI} {k k' : Nat} {A B : Nat → Int32} (h : rcU I k A B) (h1 : J 24 k' = I 24 k) (h2 : J 25 k' = I 25 k) (h3 : J 26 k' = I 26 k) : rcU J k' A B := by
  unfold rcU
  rw [h1, h2, h3]
  exact h
theorem rcU.cg {I : MI} {k : Nat} {A A' B B' : Nat → Int32} (h : rcU I k A B) (hA : ∀ j, j < 48 → A j = A' j) (hB : ∀ j, j < 48 → B j = B' j) : rcU I k A' B' := by
  have g : ∀ p x j, j < 48 → up A p x j = up A' p x j := fun p x j hj => by
    unfold up
    by_cases hz : j = p
    · rw [if_pos hz, if_pos hz]
    · rw [if_neg hz, if_neg hz, hA j hj]
  have g2 : ∀ p q x j, j < 48 → up (up A p x) q x j = up (up A' p x) q x j := fun p q x j hj => by
    show (if j = q then x else up A p x j) = if j = q then x else up A' p x j
    rw [g p x j hj]
  rcases h with ⟨a, h1, h2, h3, h4⟩ | ⟨a, b, h1, h2, h3, h4, h5, h6⟩
  · exact Or.inl ⟨a, h1, h2, h3, fun j hj => (hB j hj).symm.trans ((h4 j hj).trans (g _ _ j hj))⟩
  · exact Or.inr ⟨a, b, h1, h2, h3, h4, fun z j hj => (hB j hj).symm.trans ((h5 z j hj).trans (g _ _ j hj)), fun z j hj => (hB j hj).symm.trans ((h6 z j hj).trans (g2 _ _ _ j hj))⟩
theorem RLu.step {J : MI} {D D' : Nat → Int32} {u : Nat} {U : Nat → Nat → Int32} (h23 : J 23 3 = nI (u + 1)) (h42 : J 42 23 = nI (u + 1)) (hu : u + 1 ≤ 10) (h56 : ∀ k, k ≤ u → ∀ j, j < 48 → J 56 (48 * k + j) = U k j) (hD : ∀ j, j < 48 → U u j = D j) (hold : ∀ k, k < u → rcU J k (U (k + 1)) (U k)) (hnew : rcU J u D' D) : RLu J D' (u + 1) (fun k => if k = u + 1 then D' else U k) := by
  refine ⟨h23, h42, hu, fun k hk j hj => ?_, fun j hj => by dsimp only; rw [if_pos rfl], fun k hk => ?_⟩
  · dsimp only
    rw [if_neg (by omega)]
    exact h56 k (by omega) j hj
  · dsimp only
    rw [if_neg (show ¬ k = u + 1 by omega)]
    by_cases hz : k = u
    · subst hz
      rw [if_pos rfl]
      exact hnew.cg (fun _ _ => rfl) (fun j hj => (hD j hj).symm)
    · rw [if_neg (by omega)]
      exact hold k (by omega)
theorem upd_o {f : Nat → Int32} {j k : Nat} {x : Int32} (h : k ≠ j) : upd f j x k = f k := if_neg h
theorem upd_s {f : Nat → Int32} {j : Nat} {x : Int32} : upd f j x j = x := if_pos rfl
theorem past_a {I J : MI} {D D' : Nat → Int32} {u : Nat} {U : Nat → Nat → Int32} {a b x : Int32} (h : RLu I D u U) (hu : u < 10) (j23 : J 23 3 = nI (u + 1)) (j42 : J 42 23 = nI (u + 1)) (j24 : J 24 = upd (I 24) u a) (j25 : J 25 = upd (I 25) u b) (j26 : J 26 = upd (I 26) u x) (j56 : J 56 = blkI (I 56) (I 55) (48 * u) 48) (h55 : ∀ j, j < 48 → I 55 j = D j) (hnew : ∀ J' : MI, J' 24 u = a → J' 25 u = b → J' 26 u = x → rcU J' u D' D) : RLu J D' (u + 1) (fun k => if k = u + 1 then D' else U k) := by
  refine RLu.step j23 j42 hu (fun k hk j hj => ?_) h.2.2.2.2.1 (fun k hk => ?_) (hnew J (by rw [j24]; exact upd_s) (by rw [j25]; exact upd_s) (by rw [j26]; exact upd_s))
  · rw [j56]
    unfold blkI
    by_cases hz : k = u
    · subst hz
      rw [if_pos (by omega), show 48 * k + j - 48 * k = j by omega, h55 j hj]
      exact (h.2.2.2.2.1 j hj).symm
    · rw [if_neg (by omega)]
      exact h.2.2.2.1 k (by omega) j hj
  · exact (h.2.2.2.2.2 k hk).mv (by rw [j24]; exact upd_o (by omega)) (by rw [j25]; exact upd_o (by omega)) (by rw [j26]; exact upd_o (by omega))
theorem past_b {I J : MI} {D D' : Nat → Int32} {U : Nat → Nat → Int32} {a b x : Int32} (h : RLu I D 10 U) (j23 : J 23 3 = nI 10) (j42 : J 42 23 = nI 10) (j24 : J 24 = upd (pastM I 9 24) 9 a) (j25 : J 25 = upd (pastM I 9 25) 9 b) (j26 : J 26 = upd (pastM I 9 26) 9 x) (j56 : J 56 = blkI (fun j => if j < 432 then I 56 (j + 48) else I 56 j) (I 55) (48 * 9) 48) (h55 : ∀ j, j < 48 → I 55 j = D j) (hnew : ∀ J' : MI, J' 24 9 = a → J' 25 9 = b → J' 26 9 = x → rcU J' 9 D' D) : RLu J D' 10 (fun k => if k = 10 then D' else U (k + 1)) := by
  refine RLu.step (u := 9) (U := fun k => U (k + 1)) j23 j42 (Nat.le_refl 10) (fun k hk j hj => ?_) h.2.2.2.2.1 (fun k hk => ?_) (hnew J (by rw [j24]; exact upd_s) (by rw [j25]; exact upd_s) (by rw [j26]; exact upd_s))
  · rw [j56]
    unfold blkI
    by_cases hz : k = 9
    · subst hz
      rw [if_pos (by omega), show 48 * 9 + j - 48 * 9 = j by omega, h55 j hj]
      exact (h.2.2.2.2.1 j hj).symm
    · rw [if_neg (by omega)]
      dsimp only
      rw [if_pos (by omega), show 48 * k + j + 48 = 48 * (k + 1) + j by omega]
      exact h.2.2.2.1 (k + 1) (by omega) j hj
  · have p : ∀ c, c = 24 ∨ c = 25 ∨ c = 26 → pastM I 9 c k = I c (k + 1) := fun c hc => by
      unfold pastM
      rw [if_pos hc, if_pos hk]
    exact (h.2.2.2.2.2 (k + 1) (by omega)).mv (by rw [j24, upd_o (by omega)]; exact p 24 (by decide)) (by rw [j25, upd_o (by omega)]; exact p 25 (by decide)) (by rw [j26, upd_o (by omega)]; exact p 26 (by decide))
theorem ub1 {D : Nat → Int32} {p : Nat} {v y : Int32} (hy : y = D p) : ∀ i, D i = up (up D p v) p y i := fun i => by
  unfold up
  by_cases hz : i = p
  · rw [if_pos hz, hy, hz]
  · rw [if_neg hz, if_neg hz]
theorem ub2 {D : Nat → Int32} {p q : Nat} {v y : Int32} (h1 : y = D p) (h2 : y = D q) : ∀ i, D i = up (up (up (up D p v) q v) p y) q y i := fun i => by
  unfold up
  by_cases hz : i = q
  · rw [if_pos hz, h2, hz]
  · rw [if_neg hz]
    by_cases hw : i = p
    · rw [if_pos hw, h1, hw]
    · rw [if_neg hw, if_neg hz, if_neg hw]
theorem upd_up {f D : Nat → Int32} (h : ∀ i, i < 48 → f i = D i) (p : Nat) (v : Int32) : ∀ i, i < 48 → upd f p v i = up D p v i := fun i hi => by
  unfold upd up
  rw [h i hi]
theorem sym_lo {D : Nat → Int32} (h : symD D) {p : Nat} (hp : p < 12) (v : Int32) : symD (up D p v) := fun x y hx hy => by
  unfold up
  rw [if_neg (by omega), if_neg (by omega)]
  exact h x y hx hy
theorem sym_jt {D : Nat → Int32} (h : symD D) {a b : Nat} (ha : a < 6) (hb : b < 6) (v : Int32) : symD (up (up D (12 + 6 * a + b) v) (12 + 6 * b + a) v) := fun x y hx hy => by
  unfold up
  by_cases h1 : 12 + 6 * x + y = 12 + 6 * b + a
  · rw [if_pos h1]
    by_cases h2 : 12 + 6 * y + x = 12 + 6 * b + a
    · rw [if_pos h2]
    · rw [if_neg h2, if_pos (by omega)]
  · rw [if_neg h1]
    by_cases h3 : 12 + 6 * x + y = 12 + 6 * a + b
    · rw [if_pos h3, if_pos (by omega)]
    · rw [if_neg h3, if_neg (by omega), if_neg (by omega)]
      exact h x y hx hy
theorem a_values (X : Ctx) (I : MI) (L : ML) (hR : REL I L) (s : Int32) (v : Int32) : AGI mX5_values mX6_values [.int s, .int v] X I L := by
  obtain ⟨tx, n, D, fs, m, fn, u, U, r1, r2, r3, r4, r5, r6⟩ := id hR
  have hF := r3.1.1
  have hF8 := r3.2.1
  have hF4 := r3.1.2.1
  rcases arS (N := 5) (by decide) s with ⟨j, hj, rfl⟩ | ⟨s1, s2, -, -⟩
  · by_cases hv : v < -99 ∨ nI 99 < v
    · exact ⟨_, _, _, _, _, p_values_v X 59 I L j hj v hv, q_values_v X 58 I L j hj v hv, hR.t0 rfl rfl⟩
    · have v1 : ¬ v < -99 := fun z => hv (Or.inl z)
      have v2 : ¬ nI 99 < v := fun z => hv (Or.inr z)
      have v3 : v ≤ nI 99 := Int32.not_lt.mp v2
      have e0 : I 55 j = I 2 j := (r2.2.1 j (by omega)).trans (r2.1.1 j hj).symm
      by_cases he : I 2 j = v
      · exact ⟨_, _, _, _, _, p_values_e X 58 I L j hj v v1 v3 he, q_values_e X 58 I L j hj v v1 v2 (e0.trans he), hR.t0 rfl rfl⟩
      · have qe : ¬ I 55 j = v := fun z => he (e0.symm.trans z)
        by_cases h10 : u < 10
        · exact ⟨_, _, _, _, _, p_values_a X 58 I L j hj v v1 v3 he u r5.1 h10, q_values_a X 58 (u2 (u2 (u2 (u2 (u2 I 24 u (nI j)) 25 u (-1)) 26 u (I 2 j)) 23 3 (nI (u + 1))) 2 (j) v) L j hj v v1 v2 qe u r5.2.1 h10, tx, n, up D j v, fs, m, fn, u + 1, (fun k => if k = u + 1 then (up D j v) else U k), (r1.fr rfl rfl rfl rfl), ⟨(FG.worth (I := (u2 (u2 (u2 (u2 I 24 u (nI j)) 25 u (-1)) 26 u (I 2 j)) 23 3 (nI (u + 1)))) (r2.1.fr rfl rfl) (by decide) hj v).fr rfl rfl, upd_up r2.2.1 j v, sym_lo r2.2.2 (by omega) v⟩, (r3.f rfl rfl rfl rfl rfl rfl rfl rfl rfl rfl rfl rfl rfl), (r4.fr rfl rfl rfl rfl rfl rfl), past_a r5 h10 rfl rfl rfl rfl rfl rfl r2.2.1 (fun J e1 e2 e3 => Or.inl ⟨j, hj, e1, e2, fun i hi => by rw [e3]; exact ub1 (r2.1.1 j hj) i⟩), (r6.fr rfl rfl rfl rfl rfl rfl rfl rfl)⟩
        · have hu10 : u = 10 := by have := r5.2.2.1; omega
          subst hu10
          exact ⟨_, _, _, _, _, p_values_b X 58 I L j hj v v1 v3 he r5.1, q_values_b X 58 (u2 (u2 (u2 (u2 (u2 (u2 (pastM I 9) 23 3 (nI 9)) 24 9 (nI j)) 25 9 (-1)) 26 9 (I 2 j)) 23 3 (nI 10)) 2 (j) v) L j hj v v1 v2 qe r5.2.1, tx, n, up D j v, fs, m, fn, 10, (fun k => if k = 10 then (up D j v) else U (k + 1)), (r1.fr rfl rfl rfl rfl), ⟨(FG.worth (I := (u2 (u2 (u2 (u2 (u2 (pastM I 9) 23 3 (nI 9)) 24 9 (nI j)) 25 9 (-1)) 26 9 (I 2 j)) 23 3 (nI 10))) (r2.1.fr rfl rfl) (by decide) hj v).fr rfl rfl, upd_up r2.2.1 j v, sym_lo r2.2.2 (by omega) v⟩, (r3.f rfl rfl rfl rfl rfl rfl rfl rfl rfl rfl rfl rfl rfl), (r4.fr rfl rfl rfl rfl rfl rfl), past_b r5 rfl rfl rfl rfl rfl rfl r2.2.1 (fun J e1 e2 e3 => Or.inl ⟨j, hj, e1, e2, fun i hi => by rw [e3]; exact ub1 (r2.1.1 j hj) i⟩), (r6.fr rfl rfl rfl rfl rfl rfl rfl rfl)⟩
  · exact ⟨_, _, _, _, _, p_values_s X 59 I L s s1 v, q_values_s X 58 I L s s2 v, hR.t0 rfl rfl⟩
theorem a_spreads (X : Ctx) (I : MI) (L : ML) (hR : REL I L) (s : Int32) (v : Int32) : AGI mX5_spreads mX6_spreads [.int s, .int v] X I L := by
  obtain ⟨tx, n, D, fs, m, fn, u, U, r1, r2, r3, r4, r5, r6⟩ := id hR
  have hF := r3.1.1
  have hF8 := r3.2.1
  have hF4 := r3.1.2.1
  rcases arS (N := 5) (by decide) s with ⟨j, hj, rfl⟩ | ⟨s1, s2, -, -⟩
  · by_cases hv : v < 0 ∨ nI 99 < v
    · exact ⟨_, _, _, _, _, p_spreads_v X 59 I L j hj v hv, q_spreads_v X 58 I L j hj v hv, hR.t0 rfl rfl⟩
    · have v1 : ¬ v < 0 := fun z => hv (Or.inl z)
      have v2 : ¬ nI 99 < v := fun z => hv (Or.inr z)
      have v3 : v ≤ nI 99 := Int32.not_lt.mp v2
      have e0 : I 3 (j * 6 + j) = D (6 + j) := (r2.1.2 j hj j hj).trans (if_pos rfl)
      have e9 : I 3 (j * 6 + j) = I 55 (6 + j) := e0.trans (r2.2.1 _ (by omega)).symm
      by_cases h10 : u < 10
      · exact ⟨_, _, _, _, _, p_spreads_a X 58 I L j hj v v1 v3 u r5.1 h10, Sp.vi (q_spreads_a X 58 (u2 (u2 (u2 (u2 (u2 (u2 I 24 u (nI j)) 25 u (nI j)) 26 u (I 3 (j * 6 + j))) 23 3 (nI (u + 1))) 3 (j * 6 + j) v) 3 (j * 6 + j) v) L j hj v v1 v2 u r5.2.1 h10) (e9), tx, n, up D (6 + j) v, fs, m, fn, u + 1, (fun k => if k = u + 1 then (up D (6 + j) v) else U k), (r1.fr rfl rfl rfl rfl), ⟨(FG.own (I := (u2 (u2 (u2 (u2 I 24 u (nI j)) 25 u (nI j)) 26 u (I 3 (j * 6 + j))) 23 3 (nI (u + 1)))) (r2.1.fr rfl rfl) (by decide) hj v).fr rfl rfl, upd_up r2.2.1 (6 + j) v, sym_lo r2.2.2 (by omega) v⟩, (r3.f rfl rfl rfl rfl rfl rfl rfl rfl rfl rfl rfl rfl rfl), (r4.fr rfl rfl rfl rfl rfl rfl), past_a r5 h10 rfl rfl rfl rfl rfl rfl r2.2.1 (fun J e1 e2 e3 => Or.inr ⟨j, j, hj, hj, e1, e2, fun _ i hi => by rw [e3]; exact ub1 e0 i, fun z => absurd rfl z⟩), (r6.fr rfl rfl rfl rfl rfl rfl rfl rfl)⟩
      · have hu10 : u = 10 := by have := r5.2.2.1; omega
        subst hu10
        exact ⟨_, _, _, _, _, p_spreads_b X 58 I L j hj v v1 v3 r5.1, Sp.vi (q_spreads_b X 58 (u2 (u2 (u2 (u2 (u2 (u2 (u2 (pastM I 9) 23 3 (nI 9)) 24 9 (nI j)) 25 9 (nI j)) 26 9 (I 3 (j * 6 + j))) 23 3 (nI 10)) 3 (j * 6 + j) v) 3 (j * 6 + j) v) L j hj v v1 v2 r5.2.1) (e9), tx, n, up D (6 + j) v, fs, m, fn, 10, (fun k => if k = 10 then (up D (6 + j) v) else U (k + 1)), (r1.fr rfl rfl rfl rfl), ⟨(FG.own (I := (u2 (u2 (u2 (u2 (u2 (pastM I 9) 23 3 (nI 9)) 24 9 (nI j)) 25 9 (nI j)) 26 9 (I 3 (j * 6 + j))) 23 3 (nI 10))) (r2.1.fr rfl rfl) (by decide) hj v).fr rfl rfl, upd_up r2.2.1 (6 + j) v, sym_lo r2.2.2 (by omega) v⟩, (r3.f rfl rfl rfl rfl rfl rfl rfl rfl rfl rfl rfl rfl rfl), (r4.fr rfl rfl rfl rfl rfl rfl), past_b r5 rfl rfl rfl rfl rfl rfl r2.2.1 (fun J e1 e2 e3 => Or.inr ⟨j, j, hj, hj, e1, e2, fun _ i hi => by rw [e3]; exact ub1 e0 i, fun z => absurd rfl z⟩), (r6.fr rfl rfl rfl rfl rfl rfl rfl rfl)⟩
  · exact ⟨_, _, _, _, _, p_spreads_s X 59 I L s s1 v, q_spreads_s X 58 I L s s2 v, hR.t0 rfl rfl⟩
theorem a_joints (X : Ctx) (I : MI) (L : ML) (hR : REL I L) (s : Int32) (w : Int32) (v : Int32) : AGI mX5_joints mX6_joints [.int s, .int w, .int v] X I L := by
  obtain ⟨tx, n, D, fs, m, fn, u, U, r1, r2, r3, r4, r5, r6⟩ := id hR
  have hF := r3.1.1
  have hF8 := r3.2.1
  have hF4 := r3.1.2.1
  rcases arS (N := 5) (by decide) s with ⟨j, hj, rfl⟩ | ⟨s1, s2, -, -⟩
  · rcases arS (N := 5) (by decide) w with ⟨t, ht, rfl⟩ | ⟨t1, t2, -, -⟩
    · by_cases hjt : j = t
      · subst hjt
        exact ⟨_, _, _, _, _, p_joints_same X 59 I L j hj v, q_joints_same X 58 I L j hj v, hR.t0 rfl rfl⟩
      · by_cases hv : v < -99 ∨ nI 99 < v
        · exact ⟨_, _, _, _, _, p_joints_v X 59 I L j t hj ht hjt v hv, q_joints_v X 58 I L j t hj ht hjt v hv, hR.t0 rfl rfl⟩
        · have v1 : ¬ v < -99 := fun z => hv (Or.inl z)
          have v2 : ¬ nI 99 < v := fun z => hv (Or.inr z)
          have v3 : v ≤ nI 99 := Int32.not_lt.mp v2
          have e0 : I 3 (j * 6 + t) = jO I j t := r2.j j t hj ht
          have e5 : I 3 (j * 6 + t) = D (12 + 6 * j + t) := (r2.1.2 j hj t ht).trans (if_neg hjt)
          have e6 : I 3 (j * 6 + t) = D (12 + 6 * t + j) := e5.trans (r2.2.2 j t hj ht)
          by_cases he : I 3 (j * 6 + t) = v
          · exact ⟨_, _, _, _, _, p_joints_e X 58 I L j t hj ht hjt v v1 v3 he, q_joints_e X 58 I L j t hj ht hjt v v1 v2 (e0.symm.trans he), hR.t0 rfl rfl⟩
          · have qe : ¬ jO I j t = v := fun z => he (e0.trans z)
            by_cases h10 : u < 10
            · exact ⟨_, _, _, _, _, p_joints_a X 58 I L j t hj ht hjt v v1 v3 he u r5.1 h10, q_joints_a X 58 (u2 (u2 (u2 (u2 (u2 (u2 I 24 u (nI j)) 25 u (nI t)) 26 u (I 3 (j * 6 + t))) 23 3 (nI (u + 1))) 3 (j * 6 + t) v) 3 (t * 6 + j) v) L j t hj ht hjt v v1 v2 qe u r5.2.1 h10, tx, n, up (up D (12 + 6 * j + t) v) (12 + 6 * t + j) v, fs, m, fn, u + 1, (fun k => if k = u + 1 then (up (up D (12 + 6 * j + t) v) (12 + 6 * t + j) v) else U k), (r1.fr rfl rfl rfl rfl), ⟨(FG.joint (I := (u2 (u2 (u2 (u2 I 24 u (nI j)) 25 u (nI t)) 26 u (I 3 (j * 6 + t))) 23 3 (nI (u + 1)))) (r2.1.fr rfl rfl) (by decide) hj ht (fun z => hjt z.symm) v).fr rfl rfl, upd_up (upd_up r2.2.1 (12 + 6 * j + t) v) (12 + 6 * t + j) v, sym_jt r2.2.2 hj ht v⟩, (r3.f rfl rfl rfl rfl rfl rfl rfl rfl rfl rfl rfl rfl rfl), (r4.fr rfl rfl rfl rfl rfl rfl), past_a r5 h10 rfl rfl rfl rfl rfl rfl r2.2.1 (fun J e1 e2 e3 => Or.inr ⟨j, t, hj, ht, e1, e2, fun z => absurd z hjt, fun _ i hi => by rw [e3]; exact ub2 e5 e6 i⟩), (r6.fr rfl rfl rfl rfl rfl rfl rfl rfl)⟩
            · have hu10 : u = 10 := by have := r5.2.2.1; omega
              subst hu10
              exact ⟨_, _, _, _, _, p_joints_b X 58 I L j t hj ht hjt v v1 v3 he r5.1, q_joints_b X 58 (u2 (u2 (u2 (u2 (u2 (u2 (u2 (pastM I 9) 23 3 (nI 9)) 24 9 (nI j)) 25 9 (nI t)) 26 9 (I 3 (j * 6 + t))) 23 3 (nI 10)) 3 (j * 6 + t) v) 3 (t * 6 + j) v) L j t hj ht hjt v v1 v2 qe r5.2.1, tx, n, up (up D (12 + 6 * j + t) v) (12 + 6 * t + j) v, fs, m, fn, 10, (fun k => if k = 10 then (up (up D (12 + 6 * j + t) v) (12 + 6 * t + j) v) else U (k + 1)), (r1.fr rfl rfl rfl rfl), ⟨(FG.joint (I := (u2 (u2 (u2 (u2 (u2 (pastM I 9) 23 3 (nI 9)) 24 9 (nI j)) 25 9 (nI t)) 26 9 (I 3 (j * 6 + t))) 23 3 (nI 10))) (r2.1.fr rfl rfl) (by decide) hj ht (fun z => hjt z.symm) v).fr rfl rfl, upd_up (upd_up r2.2.1 (12 + 6 * j + t) v) (12 + 6 * t + j) v, sym_jt r2.2.2 hj ht v⟩, (r3.f rfl rfl rfl rfl rfl rfl rfl rfl rfl rfl rfl rfl rfl), (r4.fr rfl rfl rfl rfl rfl rfl), past_b r5 rfl rfl rfl rfl rfl rfl r2.2.1 (fun J e1 e2 e3 => Or.inr ⟨j, t, hj, ht, e1, e2, fun z => absurd z hjt, fun _ i hi => by rw [e3]; exact ub2 e5 e6 i⟩), (r6.fr rfl rfl rfl rfl rfl rfl rfl rfl)⟩
    · exact ⟨_, _, _, _, _, p_joints_t X 59 I L j hj w t1 v, q_joints_t X 58 I L j hj w t2 v, hR.t0 rfl rfl⟩
  · exact ⟨_, _, _, _, _, p_joints_s X 59 I L s s1 w v, q_joints_s X 58 I L s s2 w v, hR.t0 rfl rfl⟩
theorem a_undo (X : Ctx) (I : MI) (L : ML) (hR : REL I L)  : AGI mX5_undo mX6_undo [] X I L := by
  obtain ⟨tx, n, D, fs, m, fn, u, U, r1, r2, r3, r4, r5, r6⟩ := id hR
  have hF := r3.1.1
  have hF8 := r3.2.1
  have hF4 := r3.1.2.1
  cases u with
  | zero => exact ⟨_, _, _, _, _, p_undo_0 X 56 I L r5.1, q_undo_0 X 60 I L r5.2.1, hR.t0 rfl rfl⟩
  | succ k =>
    have hu := r5.2.2.1
    have g1 : ∀ p x j, j < 48 → up (U (k + 1)) p x j = up D p x j := fun p x j hj => by
      unfold up
      rw [r5.2.2.2.2.1 j hj]
    have g2 : ∀ p q x j, j < 48 → up (up (U (k + 1)) p x) q x j = up (up D p x) q x j := fun p q x j hj => by
      show (if j = q then x else up (U (k + 1)) p x j) = if j = q then x else up D p x j
      rw [g1 p x j hj]
    rcases r5.2.2.2.2.2 k (Nat.lt_succ_self k) with ⟨a, h1, h2, h3, h4⟩ | ⟨a, b, h1, h2, h3, h4, h5, h6⟩
    · have ud : ∀ j, j < 48 → U k j = (up D a (I 26 k)) j := fun j hj => (h4 j hj).trans (g1 _ _ j hj)
      exact ⟨_, _, _, _, _, p_undo_v X 56 I L k a r5.1 (by omega) h3 h2 h1, q_undo X 60 (u2 (u2 I 23 3 (nI k)) 2 a (I 26 k)) L k r5.2.1 (by omega), tx, n, up D a (I 26 k), fs, m, fn, k, U, (r1.fr rfl rfl rfl rfl), ⟨(FG.worth (I := (u2 I 23 3 (nI k))) (r2.1.fr rfl rfl) (by decide) h1 (I 26 k)).fr rfl rfl, fun j hj => (if_pos hj).trans ((r5.2.2.2.1 k (Nat.lt_succ_self k) j hj).trans (ud j hj)), sym_lo r2.2.2 (by omega) _⟩, (r3.f rfl rfl rfl rfl rfl rfl rfl rfl rfl rfl rfl rfl rfl), (r4.fr rfl rfl rfl rfl rfl rfl), ⟨rfl, rfl, by omega, fun i hi j hj => r5.2.2.2.1 i (by omega) j hj, ud, fun i hi => (r5.2.2.2.2.2 i (by omega)).fr rfl rfl rfl⟩, (r6.fr rfl rfl rfl rfl rfl rfl rfl rfl)⟩
    · by_cases hab : a = b
      · subst hab
        have ud : ∀ j, j < 48 → U k j = (up D (6 + a) (I 26 k)) j := fun j hj => (h5 rfl j hj).trans (g1 _ _ j hj)
        exact ⟨_, _, _, _, _, p_undo_s X 56 I L k a a r5.1 (by omega) h4 h3 h1 h2, q_undo X 60 (u2 (u2 (u2 I 23 3 (nI k)) 3 (a * 6 + a) (I 26 k)) 3 (a * 6 + a) (I 26 k)) L k r5.2.1 (by omega), tx, n, up D (6 + a) (I 26 k), fs, m, fn, k, U, (r1.fr rfl rfl rfl rfl), ⟨(FG.own (I := (u2 I 23 3 (nI k))) (r2.1.fr rfl rfl) (by decide) h1 (I 26 k)).fr rfl rfl, fun j hj => (if_pos hj).trans ((r5.2.2.2.1 k (Nat.lt_succ_self k) j hj).trans (ud j hj)), sym_lo r2.2.2 (by omega) _⟩, (r3.f rfl rfl rfl rfl rfl rfl rfl rfl rfl rfl rfl rfl rfl), (r4.fr rfl rfl rfl rfl rfl rfl), ⟨rfl, rfl, by omega, fun i hi j hj => r5.2.2.2.1 i (by omega) j hj, ud, fun i hi => (r5.2.2.2.2.2 i (by omega)).fr rfl rfl rfl⟩, (r6.fr rfl rfl rfl rfl rfl rfl rfl rfl)⟩
      · have ud : ∀ j, j < 48 → U k j = (up (up D (12 + 6 * a + b) (I 26 k)) (12 + 6 * b + a) (I 26 k)) j := fun j hj => (h6 hab j hj).trans (g2 _ _ _ j hj)
        exact ⟨_, _, _, _, _, p_undo_s X 56 I L k a b r5.1 (by omega) h4 h3 h1 h2, q_undo X 60 (u2 (u2 (u2 I 23 3 (nI k)) 3 (a * 6 + b) (I 26 k)) 3 (b * 6 + a) (I 26 k)) L k r5.2.1 (by omega), tx, n, up (up D (12 + 6 * a + b) (I 26 k)) (12 + 6 * b + a) (I 26 k), fs, m, fn, k, U, (r1.fr rfl rfl rfl rfl), ⟨(FG.joint (I := (u2 I 23 3 (nI k))) (r2.1.fr rfl rfl) (by decide) h1 h2 (fun z => hab z.symm) (I 26 k)).fr rfl rfl, fun j hj => (if_pos hj).trans ((r5.2.2.2.1 k (Nat.lt_succ_self k) j hj).trans (ud j hj)), sym_jt r2.2.2 h1 h2 _⟩, (r3.f rfl rfl rfl rfl rfl rfl rfl rfl rfl rfl rfl rfl rfl), (r4.fr rfl rfl rfl rfl rfl rfl), ⟨rfl, rfl, by omega, fun i hi j hj => r5.2.2.2.1 i (by omega) j hj, ud, fun i hi => (r5.2.2.2.2.2 i (by omega)).fr rfl rfl rfl⟩, (r6.fr rfl rfl rfl rfl rfl rfl rfl rfl)⟩
