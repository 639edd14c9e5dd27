/-! the methods that evaluate: both answer the same -/
theorem add0 (x : Int32) : x + nI 0 = x := Int32.add_zero x
theorem rt1 {I : MI} {a : Nat} {fs : List (List Q4)} (h : TPa I a fs) {k : Nat} (hk : k < fs.length) : rtF fs k + 1 = bsF fs (k + 1) := by
  have h1 := (h.rtb (g := k + 1) (by omega) (Nat.lt_succ_self k)).1
  have h2 := h.sz hk
  have h3 := bsF_s fs k
  omega
theorem RLp.z {I : MI} {fs : List (List Q4)} (h : RLp I fs) {k : Nat} (hk : k < fs.length) : I 10 k = nI (rtF fs k + 1) ∧ rtF fs k + 1 ≤ 80 ∧ ∀ j, j < rtF fs k + 1 → NW I j := by
  have e := rt1 h.1 hk
  have t := h.1.top (m := k + 1) (by omega) (Nat.lt_succ_self k)
  refine ⟨?_, by omega, ?_⟩
  · rw [e]; exact (h.1.2.2.2 k hk).2.2.1
  · rw [e]; exact h.1.nw (by omega)
theorem RLf.j {I : MI} {D : Nat → Int32} (h : RLf I D) : ∀ x t, x < 6 → t < 6 → I 3 (x * 6 + t) = jO I x t := fun x t hx ht => by
  rw [h.1.2 x hx t ht]
  unfold jO
  by_cases hz : x = t
  · rw [if_pos hz, if_pos hz, h.2.1 _ (by omega)]
  · rw [if_neg hz, if_neg hz, h.2.1 _ (by omega)]
theorem RLf.v0 {I : MI} {D : Nat → Int32} (h : RLf I D) (s : Int32) : ∀ j, j < 6 → I 55 j = I 2 j + (if nI j = s then nI 0 else nI 0) := fun j hj => by
  rw [ite_self, add0, h.1.1 j hj, h.2.1 j (by omega)]
theorem RLf.v1 {I : MI} {D : Nat → Int32} (h : RLf I D) {x : Nat} (hx : x < 6) (dd : Int32) : ∀ j, j < 6 → upd (I 55) x (I 55 x + dd) j = I 2 j + (if nI j = nI x then dd else nI 0) := fun j hj => by
  unfold upd
  by_cases hz : j = x
  · subst hz
    rw [if_pos rfl, if_pos rfl, h.1.1 j hj, h.2.1 j (by omega)]
  · rw [if_neg hz, if_neg (fun z => hz ((nI_eq (by omega) (by omega)).mp z)), add0, h.1.1 j hj, h.2.1 j (by omega)]
theorem vW {I : MI} {fs : List (List Q4)} (h : RLp I fs) {k : Nat} (hk : k < fs.length) {s dd : Int32} {vs : Nat → Int32} (hv : ∀ j, j < 6 → vs j = I 2 j + (if nI j = s then dd else nI 0)) (r0 : Nat → Int64) (L : ML) : tb (wO I s dd) r0 (rtF fs k + 1) (rtF fs k) = goL vs (szn fs) (ndn fs) L fs.length 63 (20 * k + szn fs k - 1) := by
  have hs := h.1.sz hk
  have e := ev_W (L := L) (r0 := r0) h.1 (m := k + 1) (by omega) hv k (szn fs k - 1) (by omega) (by omega)
  rw [rt1 h.1 hk, (h.1.rtb (g := k + 1) (by omega) (Nat.lt_succ_self k)).1, e]
  exact congrArg (goL vs (szn fs) (ndn fs) L fs.length 63) (by omega)
theorem vS {I : MI} {fs : List (List Q4)} (h : RLp I fs) {k : Nat} (hk : k < fs.length) {s : Nat} (hs : s < 6) {s' dd : Int32} {vs : Nat → Int32} (hv : ∀ j, j < 6 → vs j = I 2 j + (if nI j = s' then dd else nI 0)) (r0 r1 : Nat → Int64) (L : ML) : tb (sO I (nI s) (tb (wO I s' dd) r1 (rtF fs k + 1))) r0 (rtF fs k + 1) (rtF fs k) = goL vs (szn fs) (ndn fs) L fs.length 64 (6 * (20 * k + szn fs k - 1) + s) := by
  have hz := h.1.sz hk
  have e1 := ev_W (L := L) (r0 := r1) h.1 (m := k + 1) (by omega) hv
  have e := ev_S (L := L) (r0 := r0) (w := tb (wO I s' dd) r1 (bsF fs (k + 1))) (vs := vs) h.1 (m := k + 1) (by omega) hs e1 k (szn fs k - 1) (by omega) (by omega)
  rw [rt1 h.1 hk, (h.1.rtb (g := k + 1) (by omega) (Nat.lt_succ_self k)).1, e]
  exact congrArg (fun z => goL vs (szn fs) (ndn fs) L fs.length 64 (6 * z + s)) (by omega)
theorem vB {I : MI} {fs : List (List Q4)} (h : RLp I fs) {k : Nat} (hk : k < fs.length) {s t : Nat} (hs : s < 6) (ht : t < 6) {s' dd : Int32} {vs : Nat → Int32} (hv : ∀ j, j < 6 → vs j = I 2 j + (if nI j = s' then dd else nI 0)) (r0 r1 r2 r3 : Nat → Int64) (L : ML) : tb (bO I (tb (wO I s' dd) r1 (rtF fs k + 1)) (tb (sO I (nI s) (tb (wO I s' dd) r1 (rtF fs k + 1))) r2 (rtF fs k + 1)) (tb (sO I (nI t) (tb (wO I s' dd) r1 (rtF fs k + 1))) r3 (rtF fs k + 1))) r0 (rtF fs k + 1) (rtF fs k) = goL vs (szn fs) (ndn fs) L fs.length 65 (36 * (20 * k + szn fs k - 1) + 6 * s + t) := by
  have hz := h.1.sz hk
  have e1 := ev_W (L := L) (r0 := r1) h.1 (m := k + 1) (by omega) hv
  have e2 := ev_S (L := L) (r0 := r2) (w := tb (wO I s' dd) r1 (bsF fs (k + 1))) (vs := vs) h.1 (m := k + 1) (by omega) hs e1
  have e3 := ev_S (L := L) (r0 := r3) (w := tb (wO I s' dd) r1 (bsF fs (k + 1))) (vs := vs) h.1 (m := k + 1) (by omega) ht e1
  have e := ev_B (L := L) (r0 := r0) (vs := vs) h.1 (m := k + 1) (by omega) hs ht e1 e2 e3 k (szn fs k - 1) (by omega) (by omega)
  rw [rt1 h.1 hk, (h.1.rtb (g := k + 1) (by omega) (Nat.lt_succ_self k)).1, e]
  exact congrArg (goL vs (szn fs) (ndn fs) L fs.length 65) (by omega)
/-- a formula's row of slopes -/
theorem vR {I : MI} {D : Nat → Int32} {fs : List (List Q4)} (h : RLp I fs) (hf : RLf I D) {k c : Nat} (hk : k < fs.length) (h8 : c ≠ 28) (h9 : c ≠ 29) (L L' : ML) : ∀ t, t < 6 → siL I c (rtF fs k) L 6 c t = goL (I 55) (szn fs) (ndn fs) L' fs.length 64 (6 * (20 * k + szn fs k - 1) + t) := fun t ht => by
  rw [siL_c h9 6 ht, siL_28 h8]
  exact vS h hk ht (hf.v0 (nI 0)) _ _ L'
theorem Sp.vl {X : Ctx} {M : MD} {d : Nat} {ct : Nat × Nat} {av : List Value} {sh sh' : List SH} {I I' : MI} {L L' : ML} {x y : Int64} (h : Sp X M d ct av sh I L (some (.long y), sh', I', L')) (e : x = y) : Sp X M d ct av sh I L (some (.long x), sh', I', L') := by
  rw [e]; exact h
theorem Sp.vi {X : Ctx} {M : MD} {d : Nat} {ct : Nat × Nat} {av : List Value} {sh sh' : List SH} {I I' : MI} {L L' : ML} {x y : Int32} (h : Sp X M d ct av sh I L (some (.int y), sh', I', L')) (e : x = y) : Sp X M d ct av sh I L (some (.int x), sh', I', L') := by
  rw [e]; exact h
theorem nI_ge0 {k : Nat} (h : k < 2 ^ 31) : (0 : Int32) ≤ nI k := by
  rw [Int32.le_iff_toInt_le, nI_toInt h, show ((0 : Int32)).toInt = 0 from by decide]
  omega
theorem nI_nge {k m : Nat} (hm : m < 2 ^ 31) (h : k < m) : ¬ nI m ≤ nI k := by
  rw [Int32.le_iff_toInt_le, nI_toInt hm, nI_toInt (by omega)]
  omega
theorem a_value (X : Ctx) (I : MI) (L : ML) (hR : REL I L) (f : Int32) : AGL mX5_value mX6_value [.int f] X I L := by
  obtain ⟨tx, n, D, fs, m, fn, u, U, r1, r2, r3, r4, r5, r6⟩ := id hR
  have hF := r3.1.1
  have hF8 := r3.2.1
  have hF4 := r3.1.2.1
  rcases arF hF4 f with ⟨k, hk, rfl⟩ | ⟨h1, h2⟩
  · obtain ⟨hz, hn, hN⟩ := r3.z hk
    exact ⟨_, _, _, _, _, p_value X 55 I L fs.length k (rtF fs k) hF hk hF4 hz hn hN, Sp.vl (q_value X 57 I _ fs.length (szn fs) (ndn fs) r3.2 k hk) (vW r3 hk (r2.v0 (nI 0)) _ _), hR.t0 (by rw [goL_off (by decide) _]; rfl) (by rw [goL_off (by decide) _]; rfl)⟩
  · exact ⟨_, _, _, _, _, p_value_f X 58 I L fs.length hF f h1, q_value_f X 58 I L fs.length f hF8 h2, hR.t0 rfl rfl⟩
theorem a_slope (X : Ctx) (I : MI) (L : ML) (hR : REL I L) (f : Int32) (s : Int32) : AGL mX5_slope mX6_slope [.int f, .int s] X I L := by
  obtain ⟨tx, n, D, fs, m, fn, u, U, r1, r2, r3, r4, r5, r6⟩ := id hR
  have hF := r3.1.1
  have hF8 := r3.2.1
  have hF4 := r3.1.2.1
  rcases arF hF4 f with ⟨k, hk, rfl⟩ | ⟨h1, h2⟩
  · obtain ⟨hz, hn, hN⟩ := r3.z hk
    rcases arS (N := 5) (by decide) s with ⟨j, hj, rfl⟩ | ⟨s1, s2, -, -⟩
    · exact ⟨_, _, _, _, _, p_slope X 55 I L j hj fs.length k (rtF fs k) hF hk hF4 hz hn hN, Sp.vl (q_slope X 57 I _ fs.length (szn fs) (ndn fs) r3.2 k hk j hj) (vS r3 hk hj (r2.v0 (nI j)) _ _ _), hR.t0 (by rw [goL_off (by decide) _]; rfl) (by rw [goL_off (by decide) _]; rfl)⟩
    · exact ⟨_, _, _, _, _, p_slope_s X 58 I L fs.length k hF hk hF4 s s1, q_slope_s X 58 I L fs.length k hF8 hk hF4 s s2, hR.t0 rfl rfl⟩
  · exact ⟨_, _, _, _, _, p_slope_f X 58 I L fs.length hF f h1 s, q_slope_f X 58 I L fs.length f hF8 h2 s, hR.t0 rfl rfl⟩
theorem a_bend (X : Ctx) (I : MI) (L : ML) (hR : REL I L) (f : Int32) (s : Int32) (t : Int32) : AGL mX5_bend mX6_bend [.int f, .int s, .int t] X I L := by
  obtain ⟨tx, n, D, fs, m, fn, u, U, r1, r2, r3, r4, r5, r6⟩ := id hR
  have hF := r3.1.1
  have hF8 := r3.2.1
  have hF4 := r3.1.2.1
  rcases arF hF4 f with ⟨k, hk, rfl⟩ | ⟨h1, h2⟩
  · obtain ⟨hz, hn, hN⟩ := r3.z hk
    rcases arS (N := 5) (by decide) s with ⟨j, hj, rfl⟩ | ⟨s1, s2, -, -⟩
    · rcases arS (N := 5) (by decide) t with ⟨i, hi, rfl⟩ | ⟨t1, t2, -, -⟩
      · exact ⟨_, _, _, _, _, p_bend X 55 I L j i hj hi fs.length k (rtF fs k) hF hk hF4 hz hn hN, Sp.vl (q_bend X 57 I _ fs.length (szn fs) (ndn fs) r3.2 k hk j i hj hi) (vB r3 hk hj hi (r2.v0 (nI j)) _ _ _ _ _), hR.t0 (by rw [goL_off (by decide) _]; rfl) (by rw [goL_off (by decide) _]; rfl)⟩
      · exact ⟨_, _, _, _, _, p_bend_t X 58 I L fs.length k hF hk hF4 j hj t t1, q_bend_t X 58 I L fs.length k hF8 hk hF4 j hj t t2, hR.t0 rfl rfl⟩
    · exact ⟨_, _, _, _, _, p_bend_s X 58 I L fs.length k hF hk hF4 s s1 t, q_bend_s X 58 I L fs.length k hF8 hk hF4 s s2 t, hR.t0 rfl rfl⟩
  · exact ⟨_, _, _, _, _, p_bend_f X 58 I L fs.length hF f h1 s t, q_bend_f X 58 I L fs.length f hF8 h2 s t, hR.t0 rfl rfl⟩
theorem a_whole (X : Ctx) (I : MI) (L : ML) (hR : REL I L) (f : Int32) : AGL mX5_whole mX6_whole [.int f] X I L := by
  obtain ⟨tx, n, D, fs, m, fn, u, U, r1, r2, r3, r4, r5, r6⟩ := id hR
  have hF := r3.1.1
  have hF8 := r3.2.1
  have hF4 := r3.1.2.1
  rcases arF hF4 f with ⟨k, hk, rfl⟩ | ⟨h1, h2⟩
  · obtain ⟨hz, hn, hN⟩ := r3.z hk
    exact ⟨_, _, _, _, _, p_whole X 54 I L fs.length k (rtF fs k) hF hk hF4 hz hn hN, Sp.vl (q_whole X 57 I _ fs.length (szn fs) (ndn fs) r3.2 k hk) (prS_toO (vR r3 r2 hk (by decide) (by decide) L _) (vR r3 r2 hk (by decide) (by decide) L _) r2.j 6 (Nat.le_refl 6)), hR.t0 (by rw [goL_off (by decide) _, siL_off (by decide) (by decide) (by decide) 6]) (by rw [goL_off (by decide) _, siL_off (by decide) (by decide) (by decide) 6])⟩
  · exact ⟨_, _, _, _, _, p_whole_f X 58 I L fs.length hF f h1, q_whole_f X 58 I L fs.length f hF8 h2, hR.t0 rfl rfl⟩
theorem a_share (X : Ctx) (I : MI) (L : ML) (hR : REL I L) (f : Int32) (s : Int32) : AGL mX5_share mX6_share [.int f, .int s] X I L := by
  obtain ⟨tx, n, D, fs, m, fn, u, U, r1, r2, r3, r4, r5, r6⟩ := id hR
  have hF := r3.1.1
  have hF8 := r3.2.1
  have hF4 := r3.1.2.1
  rcases arF hF4 f with ⟨k, hk, rfl⟩ | ⟨h1, h2⟩
  · obtain ⟨hz, hn, hN⟩ := r3.z hk
    rcases arS (N := 5) (by decide) s with ⟨j, hj, rfl⟩ | ⟨s1, s2, -, -⟩
    · exact ⟨_, _, _, _, _, p_share X 55 I L j hj fs.length k (rtF fs k) hF hk hF4 hz hn hN, Sp.vl (q_share X 57 I _ fs.length (szn fs) (ndn fs) r3.2 k hk j hj) (ptS_shO hj (vR r3 r2 hk (by decide) (by decide) L _) r2.j 6 (Nat.le_refl 6)), hR.t0 (by rw [goL_off (by decide) _, siL_off (by decide) (by decide) (by decide) 6]) (by rw [goL_off (by decide) _, siL_off (by decide) (by decide) (by decide) 6])⟩
    · exact ⟨_, _, _, _, _, p_share_s X 58 I L fs.length k hF hk hF4 s s1, q_share_s X 58 I L fs.length k hF8 hk hF4 s s2, hR.t0 rfl rfl⟩
  · exact ⟨_, _, _, _, _, p_share_f X 58 I L fs.length hF f h1 s, q_share_f X 58 I L fs.length f hF8 h2 s, hR.t0 rfl rfl⟩
theorem a_left (X : Ctx) (I : MI) (L : ML) (hR : REL I L) (f : Int32) (s : Int32) : AGL mX5_left mX6_left [.int f, .int s] X I L := by
  obtain ⟨tx, n, D, fs, m, fn, u, U, r1, r2, r3, r4, r5, r6⟩ := id hR
  have hF := r3.1.1
  have hF8 := r3.2.1
  have hF4 := r3.1.2.1
  rcases arF hF4 f with ⟨k, hk, rfl⟩ | ⟨h1, h2⟩
  · obtain ⟨hz, hn, hN⟩ := r3.z hk
    rcases arS (N := 63) (by decide) s with ⟨j, hj, rfl⟩ | ⟨s1, s2, -, -⟩
    · exact ⟨_, _, _, _, _, p_left X 54 I L (nI j) (nI_ge0 (by omega)) (nI_nge (by decide) hj) fs.length k (rtF fs k) hF hk hF4 hz hn hN, Sp.vl (q_left X 57 I _ fs.length (szn fs) (ndn fs) r3.2 k hk (nI j) (nI_nlt (by omega) (by omega)) (nI_nlt (by omega) (by omega))) (prS_toO (vR r3 r2 hk (by decide) (by decide) L _) (vR r3 r2 hk (by decide) (by decide) L _) r2.j 6 (Nat.le_refl 6)), hR.t0 (by rw [goL_off (by decide) _, siL_off (by decide) (by decide) (by decide) 6]) (by rw [goL_off (by decide) _, siL_off (by decide) (by decide) (by decide) 6])⟩
    · exact ⟨_, _, _, _, _, p_left_s X 58 I L fs.length k hF hk hF4 s s1, q_left_s X 58 I L fs.length k hF8 hk hF4 s s2, hR.t0 rfl rfl⟩
  · exact ⟨_, _, _, _, _, p_left_f X 58 I L fs.length hF f h1 s, q_left_f X 58 I L fs.length f hF8 h2 s, hR.t0 rfl rfl⟩
theorem a_fewest (X : Ctx) (I : MI) (L : ML) (hR : REL I L) (f : Int32) (lim : Int64) : AGI mX5_fewest mX6_fewest [.int f, .long lim] X I L := by
  obtain ⟨tx, n, D, fs, m, fn, u, U, r1, r2, r3, r4, r5, r6⟩ := id hR
  have hF := r3.1.1
  have hF8 := r3.2.1
  have hF4 := r3.1.2.1
  rcases arF hF4 f with ⟨k, hk, rfl⟩ | ⟨h1, h2⟩
  · obtain ⟨hz, hn, hN⟩ := r3.z hk
    exact ⟨_, _, _, _, _, p_fewest X 55 I L lim fs.length k (rtF fs k) hF hk hF4 hz hn hN, Sp.vi (q_fewest X 57 I _ fs.length (szn fs) (ndn fs) r3.2 k hk lim) (fwS_fwM (vR r3 r2 hk (by decide) (by decide) L _) r2.j 64 (Nat.le_refl 64)), hR.t0 (by rw [goL_off (by decide) _, siL_off (by decide) (by decide) (by decide) 6]) (by rw [goL_off (by decide) _, siL_off (by decide) (by decide) (by decide) 6])⟩
  · exact ⟨_, _, _, _, _, p_fewest_f X 58 I L fs.length hF f h1 lim, q_fewest_f X 58 I L fs.length f hF8 h2 lim, hR.t0 rfl rfl⟩
theorem a_takes (X : Ctx) (I : MI) (L : ML) (hR : REL I L) (f : Int32) (s : Int32) : AGL mX5_takes mX6_takes_ [.int f, .int s] X I L := by
  obtain ⟨tx, n, D, fs, m, fn, u, U, r1, r2, r3, r4, r5, r6⟩ := id hR
  have hF := r3.1.1
  have hF8 := r3.2.1
  have hF4 := r3.1.2.1
  rcases arF hF4 f with ⟨k, hk, rfl⟩ | ⟨h1, h2⟩
  · obtain ⟨hz, hn, hN⟩ := r3.z hk
    rcases arS (N := 5) (by decide) s with ⟨j, hj, rfl⟩ | ⟨s1, s2, -, -⟩
    · exact ⟨_, _, _, _, _, p_takes X 55 I L j hj fs.length k (rtF fs k) hF hk hF4 hz hn hN, Sp.vl (q_takes X 56 I _ fs.length (szn fs) (ndn fs) r3.2 k hk j hj) (congr (congrArg (fun x y => x - y) (prS_toO (vR r3 r2 hk (by decide) (by decide) L _) (vR r3 r2 hk (by decide) (by decide) L _) r2.j 6 (Nat.le_refl 6))) (prS_toO (vR r3 r2 hk (by decide) (by decide) L _) (vR r3 r2 hk (by decide) (by decide) L _) r2.j 6 (Nat.le_refl 6))), hR.t0 (by rw [goL_off (by decide) _, siL_off (by decide) (by decide) (by decide) 6]) (by rw [goL_off (by decide) _, siL_off (by decide) (by decide) (by decide) 6])⟩
    · exact ⟨_, _, _, _, _, p_takes_s X 58 I L fs.length k hF hk hF4 s s1, q_takes__s X 58 I L fs.length k hF8 hk hF4 s s2, hR.t0 rfl rfl⟩
  · exact ⟨_, _, _, _, _, p_takes_f X 58 I L fs.length hF f h1 s, q_takes__f X 58 I L fs.length f hF8 h2 s, hR.t0 rfl rfl⟩
theorem a_first (X : Ctx) (I : MI) (L : ML) (hR : REL I L) (f : Int32) (s : Int32) : AGI mX5_first mX6_first [.int f, .int s] X I L := by
  obtain ⟨tx, n, D, fs, m, fn, u, U, r1, r2, r3, r4, r5, r6⟩ := id hR
  have hF := r3.1.1
  have hF8 := r3.2.1
  have hF4 := r3.1.2.1
  rcases arF hF4 f with ⟨k, hk, rfl⟩ | ⟨h1, h2⟩
  · obtain ⟨hz, hn, hN⟩ := r3.z hk
    rcases arS (N := 1) (by decide) s with ⟨j, hj, rfl⟩ | ⟨-, s2, s1, -⟩
    · rcases (by omega : j = 0 ∨ j = 1) with rfl | rfl
      · exact ⟨_, _, _, _, _, p_first_0 X 54 I L fs.length k (rtF fs k) hF hk hF4 hz hn hN, Sp.vi (q_first_0 X 56 I _ fs.length (szn fs) (ndn fs) r3.2 k hk) (congrArg Prod.fst (fiS_fiM (fun s hs => (congr (congrArg (fun x y => x - y) (prS_toO (vR r3 r2 hk (by decide) (by decide) L _) (vR r3 r2 hk (by decide) (by decide) L _) r2.j 6 (Nat.le_refl 6))) (prS_toO (vR r3 r2 hk (by decide) (by decide) L _) (vR r3 r2 hk (by decide) (by decide) L _) r2.j 6 (Nat.le_refl 6)))) 6 (Nat.le_refl 6))), hR.t0 (by rw [goL_off (by decide) _, siL_off (by decide) (by decide) (by decide) 6]) (by rw [goL_off (by decide) _, siL_off (by decide) (by decide) (by decide) 6])⟩
      · exact ⟨_, _, _, _, _, p_first_1 X 54 I L fs.length k (rtF fs k) hF hk hF4 hz hn hN, Sp.vi (q_first_1 X 56 I _ fs.length (szn fs) (ndn fs) r3.2 k hk) (congrArg Prod.fst (fiS_fiM (fun s hs => ptS_shO hs (vR r3 r2 hk (by decide) (by decide) L _) r2.j 6 (Nat.le_refl 6)) 6 (Nat.le_refl 6))), hR.t0 (by rw [goL_off (by decide) _, siL_off (by decide) (by decide) (by decide) 6]) (by rw [goL_off (by decide) _, siL_off (by decide) (by decide) (by decide) 6])⟩
    · exact ⟨_, _, _, _, _, p_first_s X 58 I L fs.length k hF hk hF4 s s1, q_first_s X 58 I L fs.length k hF8 hk hF4 s s2, hR.t0 rfl rfl⟩
  · exact ⟨_, _, _, _, _, p_first_f X 58 I L fs.length hF f h1 s, q_first_f X 58 I L fs.length f hF8 h2 s, hR.t0 rfl rfl⟩
theorem a_together (X : Ctx) (I : MI) (L : ML) (hR : REL I L) (f : Int32) (g : Int32) : AGL mX5_together mX6_together [.int f, .int g] X I L := by
  obtain ⟨tx, n, D, fs, m, fn, u, U, r1, r2, r3, r4, r5, r6⟩ := id hR
  have hF := r3.1.1
  have hF8 := r3.2.1
  have hF4 := r3.1.2.1
  rcases arF hF4 f with ⟨k, hk, rfl⟩ | ⟨h1, h2⟩
  · obtain ⟨hz, hn, hN⟩ := r3.z hk
    rcases arF hF4 g with ⟨i, hi, rfl⟩ | ⟨g1, g2⟩
    · obtain ⟨hz2, hn2, hN2⟩ := r3.z hi
      exact ⟨_, _, _, _, _, p_together X 55 I L fs.length k (rtF fs k) i (rtF fs i) hF hk hi hF4 hz hn hN hz2 hn2 hN2, Sp.vl (q_together X 57 I _ fs.length (szn fs) (ndn fs) r3.2 k hk i hi) (prS_toO (fun t ht => (congrFun (siL_off (by decide) (by decide) (by decide) 6) t).trans (vR r3 r2 hk (by decide) (by decide) L _ t ht)) (vR r3 r2 hi (by decide) (by decide) _ _) r2.j 6 (Nat.le_refl 6)), hR.t0 (by rw [goL_off (by decide) _, siL_off (by decide) (by decide) (by decide) 6, siL_off (by decide) (by decide) (by decide) 6]) (by rw [goL_off (by decide) _, siL_off (by decide) (by decide) (by decide) 6, siL_off (by decide) (by decide) (by decide) 6])⟩
    · exact ⟨_, _, _, _, _, p_together_g X 58 I L fs.length k hF hk hF4 g g1, q_together_g X 58 I L fs.length k hF8 hk hF4 g g2, hR.t0 rfl rfl⟩
  · exact ⟨_, _, _, _, _, p_together_f X 58 I L fs.length hF f h1 g, q_together_f X 58 I L fs.length f hF8 h2 g, hR.t0 rfl rfl⟩
theorem a_off (X : Ctx) (I : MI) (L : ML) (hR : REL I L) (f : Int32) (s : Int32) (x : Int32) : AGL mX5_off mX6_off [.int f, .int s, .int x] X I L := by
  obtain ⟨tx, n, D, fs, m, fn, u, U, r1, r2, r3, r4, r5, r6⟩ := id hR
  have hF := r3.1.1
  have hF8 := r3.2.1
  have hF4 := r3.1.2.1
  rcases arF hF4 f with ⟨k, hk, rfl⟩ | ⟨h1, h2⟩
  · obtain ⟨hz, hn, hN⟩ := r3.z hk
    rcases arS (N := 5) (by decide) s with ⟨j, hj, rfl⟩ | ⟨s1, s2, -, -⟩
    · by_cases hm : x < -20 ∨ nI 20 < x
      · exact ⟨_, _, _, _, _, p_off_d X 58 I L fs.length k hF hk hF4 j hj x hm, q_off_d X 58 I L fs.length k hF8 hk hF4 j hj x hm, hR.t0 rfl rfl⟩
      · exact ⟨_, _, _, _, _, p_off X 55 I L j hj x (fun z => hm (Or.inl z)) (fun z => hm (Or.inr z)) fs.length k (rtF fs k) hF hk hF4 hz hn hN, Sp.vl (q_off X 56 I _ fs.length (szn fs) (ndn fs) r3.2 k hk j hj x (fun z => hm (Or.inl z)) (fun z => hm (Or.inr z))) (congr (congrArg (fun a b => a - b) (congr (congrArg (fun a b => a - b) (vW r3 hk (r2.v1 hj x) _ _)) (vW r3 hk (r2.v0 (nI j)) _ _))) (congrArg (fun b => x.toInt64 * b) (vS r3 hk hj (r2.v0 (nI j)) _ _ _))), hR.t0 (by rw [goL_off (by decide) _, goL_off (by decide) _]; rfl) (by rw [goL_off (by decide) _, goL_off (by decide) _]; rfl)⟩
    · exact ⟨_, _, _, _, _, p_off_s X 58 I L fs.length k hF hk hF4 s s1 x, q_off_s X 58 I L fs.length k hF8 hk hF4 s s2 x, hR.t0 rfl rfl⟩
  · exact ⟨_, _, _, _, _, p_off_f X 58 I L fs.length hF f h1 s x, q_off_f X 58 I L fs.length f hF8 h2 s x, hR.t0 rfl rfl⟩
