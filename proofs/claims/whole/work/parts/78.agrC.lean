/-! text, figures shown, seen results, counts, images: both answer the same -/
theorem RLp.f {I J : MI} {fs : List (List Q4)} (h : RLp I fs) (h4 : J 4 = I 4) (h5 : J 5 = I 5) (h6 : J 6 = I 6) (h7 : J 7 = I 7) (h8 : J 8 = I 8) (h9 : J 9 = I 9) (h10 : J 10 = I 10) (hm : J 42 8 = I 42 8) (h44 : J 44 = I 44) (h45 : J 45 = I 45) (h46 : J 46 = I 46) (h47 : J 47 = I 47) (h48 : J 48 = I 48) : RLp J fs := h.fr (fun c c1 c2 => by
  rcases (by omega : c = 4 ∨ c = 5 ∨ c = 6 ∨ c = 7 ∨ c = 8 ∨ c = 9 ∨ c = 10) with z | z | z | z | z | z | z <;> subst z <;> assumption) hm (fun c c1 c2 => by
  rcases (by omega : c = 44 ∨ c = 45 ∨ c = 46 ∨ c = 47 ∨ c = 48) with z | z | z | z | z <;> subst z <;> assumption)
theorem FG.mv {I J : MI} {a b a' b' : Nat} {D : Nat → Int32} (h : FG I a b D) (h1 : ∀ j, j < 6 → J a' j = I a j) (h2 : ∀ j, j < 36 → J b' j = I b j) : FG J a' b' D := ⟨fun j hj => (h1 j hj).trans (h.1 j hj), fun x hx y hy => (h2 _ (by omega)).trans (h.2 x hx y hy)⟩
theorem a_type (X : Ctx) (I : MI) (L : ML) (hR : REL I L) (c : Int32) : AGI mX5_type mX6_type [.int c] X I L := by
  obtain ⟨tx, n, D, fs, m, fn, u, U, r1, r2, r3, r4, r5, r6⟩ := id hR
  have hF := r3.1.1
  have hF8 := r3.2.1
  have hF4 := r3.1.2.1
  rcases arS (N := 255) (by decide) c with ⟨k, hk, rfl⟩ | ⟨-, s2, s1, -⟩
  · have c1 : ¬ nI k < 0 := fun z => by have y := i_nn.mp z; rw [nI_toInt (by omega)] at y; omega
    have c2 : nI k ≤ nI 255 := by rw [Int32.le_iff_toInt_le, nI_toInt (by omega), nI_toInt (by decide)]; omega
    by_cases hn : n < 100
    · have g : ∀ j, j < n + 1 → ∀ f : Nat → Int32, (j < n → f j = nI (tx j)) → upd f n (nI k) j = nI (if j = n then k else tx j) := fun j hj f hf => by
        unfold upd
        by_cases hz : j = n
        · rw [if_pos hz, if_pos hz]
        · rw [if_neg hz, if_neg hz, hf (by omega)]
      have g2 : ∀ j, j < n + 1 → (if j = n then k else tx j) < 256 := fun j hj => by
        by_cases hz : j = n
        · rw [if_pos hz]; exact hk
        · rw [if_neg hz]; exact (r1.1.2.2 j (by omega)).2
      exact ⟨_, _, _, _, _, p_type X 59 I L n (nI k) c1 c2 r1.1.1 hn, q_type X 59 _ L n (nI k) (nI_nlt (by omega) (by omega)) (nI_nlt (by omega) (by omega)) r1.2.1 hn, (fun j => if j = n then k else tx j), n + 1, D, fs, m, fn, u, U, ⟨⟨rfl, hn, fun j hj => ⟨g j hj (I 22) (fun z => (r1.1.2.2 j z).1), g2 j hj⟩⟩, ⟨rfl, hn, fun j hj => ⟨g j hj (I 43) (fun z => (r1.2.2.2 j z).1), g2 j hj⟩⟩⟩, (r2.fr rfl rfl rfl), (r3.f rfl rfl rfl rfl rfl rfl rfl rfl rfl rfl rfl rfl rfl), (r4.fr rfl rfl rfl rfl rfl rfl), (r5.fr rfl rfl rfl rfl rfl rfl), (r6.fr rfl rfl rfl rfl rfl rfl rfl rfl)⟩
    · have h100 : n = 100 := by have := r1.1.2.1; omega
      subst h100
      exact ⟨_, _, _, _, _, p_type_full X 59 I L (nI k) c1 c2 r1.1.1, q_type_full X 59 I L (nI k) (nI_nlt (by omega) (by omega)) (nI_nlt (by omega) (by omega)) r1.2.1, hR.t0 rfl rfl⟩
  · exact ⟨_, _, _, _, _, p_type_f X 60 I L c s1, q_type_f X 59 I L c s2, hR.t0 rfl rfl⟩
theorem a_clear (X : Ctx) (I : MI) (L : ML) (hR : REL I L)  : AGI mX5_clear mX6_clear [] X I L := by
  obtain ⟨tx, n, D, fs, m, fn, u, U, r1, r2, r3, r4, r5, r6⟩ := id hR
  have hF := r3.1.1
  have hF8 := r3.2.1
  have hF4 := r3.1.2.1
  exact ⟨_, _, _, _, _, p_clear X 59 I L n r1.1.1, q_clear X 60 _ L n r1.2.1, tx, 0, D, fs, m, fn, u, U, ⟨⟨rfl, Nat.zero_le _, fun j hj => absurd hj (Nat.not_lt_zero j)⟩, ⟨rfl, Nat.zero_le _, fun j hj => absurd hj (Nat.not_lt_zero j)⟩⟩, (r2.fr rfl rfl rfl), (r3.f rfl rfl rfl rfl rfl rfl rfl rfl rfl rfl rfl rfl rfl), (r4.fr rfl rfl rfl rfl rfl rfl), (r5.fr rfl rfl rfl rfl rfl rfl), (r6.fr rfl rfl rfl rfl rfl rfl rfl rfl)⟩
theorem a_source (X : Ctx) (I : MI) (L : ML) (hR : REL I L) (s : Int32) (w : Int32) : AGL mX5_source mX6_source [.int s, .int w] X I L := by
  obtain ⟨tx, n, D, fs, m, fn, u, U, r1, r2, r3, r4, r5, r6⟩ := id hR
  have hF := r3.1.1
  have hF8 := r3.2.1
  have hF4 := r3.1.2.1
  rcases arS (N := 5) (by decide) s with ⟨j, hj, rfl⟩ | ⟨s1, s2, -, -⟩
  · rcases arS (N := 1) (by decide) w with ⟨i, hi, rfl⟩ | ⟨-, w2, w1, -⟩
    · rcases (by omega : i = 0 ∨ i = 1) with rfl | rfl
      · exact ⟨_, _, _, _, _, p_source_0 X 58 I L j hj, Sp.vl (q_source_0 X 58 I L j hj) (congrArg Int32.toInt64 ((r2.1.1 j hj).trans ((r2.2.1 (0 + j) (by omega)).trans (congrArg D (Nat.zero_add j))).symm)), hR.t0 rfl rfl⟩
      · exact ⟨_, _, _, _, _, p_source_1 X 58 I L j hj, Sp.vl (q_source_1 X 58 I L j hj) (congrArg Int32.toInt64 ((r2.j j j hj hj).trans (if_pos rfl))), hR.t0 rfl rfl⟩
    · exact ⟨_, _, _, _, _, p_source_w X 59 I L j hj w w1, q_source_w X 58 I L j hj w w2, hR.t0 rfl rfl⟩
  · exact ⟨_, _, _, _, _, p_source_s X 59 I L s s1 w, q_source_s X 58 I L s s2 w, hR.t0 rfl rfl⟩
theorem a_joint (X : Ctx) (I : MI) (L : ML) (hR : REL I L) (s : Int32) (t : Int32) : AGL mX5_joint mX6_joint [.int s, .int t] X I L := by
  obtain ⟨tx, n, D, fs, m, fn, u, U, r1, r2, r3, r4, r5, r6⟩ := id hR
  have hF := r3.1.1
  have hF8 := r3.2.1
  have hF4 := r3.1.2.1
  rcases arS (N := 5) (by decide) s with ⟨j, hj, rfl⟩ | ⟨s1, s2, -, -⟩
  · rcases arS (N := 5) (by decide) t with ⟨i, hi, rfl⟩ | ⟨t1, t2, -, -⟩
    · exact ⟨_, _, _, _, _, p_joint X 58 I L j i hj hi, Sp.vl (q_joint X 58 I L j i hj hi) (congrArg Int32.toInt64 (r2.j j i hj hi)), hR.t0 rfl rfl⟩
    · exact ⟨_, _, _, _, _, p_joint_t X 59 I L j hj t t1, q_joint_t X 58 I L j hj t t2, hR.t0 rfl rfl⟩
  · exact ⟨_, _, _, _, _, p_joint_s X 59 I L s s1 t, q_joint_s X 58 I L s s2 t, hR.t0 rfl rfl⟩
theorem a_sees (X : Ctx) (I : MI) (L : ML) (hR : REL I L) (f : Int32) (v : Int64) : AGI mX5_sees mX6_sees [.int f, .long v] X I L := by
  obtain ⟨tx, n, D, fs, m, fn, u, U, r1, r2, r3, r4, r5, r6⟩ := id hR
  have hF := r3.1.1
  have hF8 := r3.2.1
  have hF4 := r3.1.2.1
  rcases arF hF4 f with ⟨k, hk, rfl⟩ | ⟨h1, h2⟩
  · by_cases h6 : m < 6
    · have g : ∀ i, i < m + 1 → ∀ f : Nat → Int32, (i < m → f i = nI (fn i)) → upd f m (nI k) i = nI (if i = m then k else fn i) := fun i hi f hf => by
        unfold upd
        by_cases hz : i = m
        · rw [if_pos hz, if_pos hz]
        · rw [if_neg hz, if_neg hz, hf (by omega)]
      have g2 : ∀ i, i < m + 1 → (if i = m then k else fn i) < fs.length := fun i hi => by
        by_cases hz : i = m
        · rw [if_pos hz]; exact hk
        · rw [if_neg hz]; exact (r4.2.2.2 i (by omega)).2.2.1
      have g3 : ∀ i, i < m + 1 → vp_updL (L 39) m v i = vp_updL (L 60) m v i := fun i hi => by
        unfold vp_updL
        by_cases hz : i = m
        · rw [if_pos hz, if_pos hz]
        · rw [if_neg hz, if_neg hz]; exact (r4.2.2.2 i (by omega)).2.2.2
      refine ⟨_, _, _, _, _, p_sees X 58 I L fs.length k hF hk hF4 m v r4.1 h6, q_sees X 58 (u2 (u2 I 38 m (nI k)) 0 11 (nI (m + 1))) (v2 L 39 m v) fs.length k hF8 hk hF4 m v r4.2.1 h6, tx, n, D, fs, m + 1, (fun i => if i = m then k else fn i), u, U, (r1.fr rfl rfl rfl rfl), (r2.fr rfl rfl rfl), (r3.f rfl rfl rfl rfl rfl rfl rfl rfl rfl rfl rfl rfl rfl), ?_, (r5.fr rfl rfl rfl rfl rfl rfl), (r6.fr rfl rfl rfl rfl rfl rfl rfl rfl)⟩
      refine ⟨?_, ?_, h6, fun i hi => ⟨?_, ?_, g2 i hi, ?_⟩⟩
      · exact (u2_ne (by omega)).trans ((u2_ne (by omega)).trans ((u2_ne (by omega)).trans (u2_at _ _ _ _)))
      · exact u2_at _ _ _ _
      · exact (u2_ne (by omega)).trans ((u2_ne (by omega)).trans ((u2_ne (by omega)).trans ((u2_ne (by omega)).trans ((congrFun u2_on i).trans (g i hi (I 38) (fun z => (r4.2.2.2 i z).1))))))
      · exact (u2_ne (by omega)).trans ((congrFun u2_on i).trans (g i hi _ (fun z => ((u2_ne (by omega)).trans ((u2_ne (by omega)).trans (u2_ne (by omega)))).trans (r4.2.2.2 i z).2.1)))
      · rw [v2_off (show (39 : Nat) ≠ 60 by decide), v2_on, v2_on, v2_off (show (60 : Nat) ≠ 39 by decide)]; exact g3 i hi
    · have hm6 : m = 6 := by have := r4.2.2.1; omega
      subst hm6
      exact ⟨_, _, _, _, _, p_sees_full X 58 I L fs.length k hF hk hF4 v r4.1, q_sees_full X 58 I L fs.length k hF8 hk hF4 v r4.2.1, hR.t0 rfl rfl⟩
  · exact ⟨_, _, _, _, _, p_sees_f X 58 I L fs.length hF f h1 v, q_sees_f X 58 I L fs.length f hF8 h2 v, hR.t0 rfl rfl⟩
theorem a_forget (X : Ctx) (I : MI) (L : ML) (hR : REL I L)  : AGI mX5_forget mX6_forget [] X I L := by
  obtain ⟨tx, n, D, fs, m, fn, u, U, r1, r2, r3, r4, r5, r6⟩ := id hR
  have hF := r3.1.1
  have hF8 := r3.2.1
  have hF4 := r3.1.2.1
  exact ⟨_, _, _, _, _, p_forget X 60 I L m r4.1, q_forget X 60 _ L m r4.2.1, tx, n, D, fs, 0, fn, u, U, (r1.fr rfl rfl rfl rfl), (r2.fr rfl rfl rfl), (r3.f rfl rfl rfl rfl rfl rfl rfl rfl rfl rfl rfl rfl rfl), ⟨rfl, rfl, Nat.zero_le _, fun i hi => absurd hi (Nat.not_lt_zero i)⟩, (r5.fr rfl rfl rfl rfl rfl rfl), (r6.fr rfl rfl rfl rfl rfl rfl rfl rfl)⟩
theorem a_count (X : Ctx) (I : MI) (L : ML) (hR : REL I L) (w : Int32) : AGI mX5_count mX6_count [.int w] X I L := by
  obtain ⟨tx, n, D, fs, m, fn, u, U, r1, r2, r3, r4, r5, r6⟩ := id hR
  have hF := r3.1.1
  have hF8 := r3.2.1
  have hF4 := r3.1.2.1
  rcases arS (N := 3) (by decide) w with ⟨j, hj, rfl⟩ | ⟨-, -, -, s1⟩
  · rcases (by omega : j = 0 ∨ j = 1 ∨ j = 2 ∨ j = 3) with rfl | rfl | rfl | rfl
    · exact ⟨_, _, _, _, _, p_count_0 X 59 I L fs.length hF, q_count_0 X 60 I L fs.length hF8, hR.t0 rfl rfl⟩
    · exact ⟨_, _, _, _, _, p_count_1 X 60 I L, Sp.vi (q_count_1 X 60 I L) (r4.1.trans r4.2.1.symm), hR.t0 rfl rfl⟩
    · exact ⟨_, _, _, _, _, p_count_2 X 59 I L n r1.1.1, Sp.vi (q_count_2 X 60 I L) r1.2.1.symm, hR.t0 rfl rfl⟩
    · exact ⟨_, _, _, _, _, p_count_3 X 59 I L u r5.1, Sp.vi (q_count_3 X 60 I L) r5.2.1.symm, hR.t0 rfl rfl⟩
  · have g : ∀ j, j ≤ 3 → ¬ w = nI j := fun j hj z => by rw [z, nI_toInt (by omega)] at s1; omega
    exact ⟨_, _, _, _, _, p_count_w X 60 I L w s1, q_count_w X 60 I L w (g 0 (by decide)) (g 1 (by decide)) (g 2 (by decide)) (g 3 (by decide)), hR.t0 rfl rfl⟩
theorem im_new0 {f g D : Nat → Int32} (h : ∀ j, j < 48 → g j = D j) : ∀ j, j < 48 → blkI f g 0 48 (48 * 0 + j) = D j := fun j hj => by
  unfold blkI
  rw [if_pos (by omega), show 48 * 0 + j - 0 = j by omega]
  exact h j hj
theorem im_old0 {f g : Nat → Int32} : ∀ j, j < 48 → blkI f g 0 48 (48 * 1 + j) = f (48 * 1 + j) := fun j hj => if_neg (by omega)
theorem im_new1 {f g D : Nat → Int32} (h : ∀ j, j < 48 → g j = D j) : ∀ j, j < 48 → blkI f g 48 48 (48 * 1 + j) = D j := fun j hj => by
  unfold blkI
  rw [if_pos (by omega), show 48 * 1 + j - 48 = j by omega]
  exact h j hj
theorem im_old1 {f g : Nat → Int32} : ∀ j, j < 48 → blkI f g 48 48 (48 * 0 + j) = f (48 * 0 + j) := fun j hj => if_neg (by omega)
theorem a_keep (X : Ctx) (I : MI) (L : ML) (hR : REL I L) (w : Int32) : AGI mX5_keep mX6_keep [.int w] X I L := by
  obtain ⟨tx, n, D, fs, m, fn, u, U, r1, r2, r3, r4, r5, r6⟩ := id hR
  have hF := r3.1.1
  have hF8 := r3.2.1
  have hF4 := r3.1.2.1
  rcases arS (N := 1) (by decide) w with ⟨i, hi, rfl⟩ | ⟨-, w2, w1, -⟩
  · rcases (by omega : i = 0 ∨ i = 1) with rfl | rfl
    · exact ⟨_, _, _, _, _, p_keep_0 X 59 I L fs.length hF, q_keep_0 X 59 _ L fs.length hF8, tx, n, D, fs, m, fn, u, U, (r1.fr rfl rfl rfl rfl), (r2.fr rfl rfl rfl), (r3.f rfl rfl rfl rfl rfl rfl rfl rfl rfl rfl rfl rfl rfl), (r4.fr rfl rfl rfl rfl rfl rfl), (r5.fr rfl rfl rfl rfl rfl rfl), ⟨⟨rfl, Or.inr ⟨rfl, D, r2.1.mv (fun j hj => if_pos hj) (fun j hj => if_pos hj), im_new0 r2.2.1, r2.2.2⟩⟩, (r6.2.fr rfl rfl rfl rfl im_old0)⟩⟩
    · exact ⟨_, _, _, _, _, p_keep_1 X 59 I L fs.length hF, q_keep_1 X 59 _ L fs.length hF8, tx, n, D, fs, m, fn, u, U, (r1.fr rfl rfl rfl rfl), (r2.fr rfl rfl rfl), (r3.f rfl rfl rfl rfl rfl rfl rfl rfl rfl rfl rfl rfl rfl), (r4.fr rfl rfl rfl rfl rfl rfl), (r5.fr rfl rfl rfl rfl rfl rfl), ⟨(r6.1.fr rfl rfl rfl rfl im_old1), ⟨rfl, Or.inr ⟨rfl, D, r2.1.mv (fun j hj => if_pos hj) (fun j hj => if_pos hj), im_new1 r2.2.1, r2.2.2⟩⟩⟩⟩
  · exact ⟨_, _, _, _, _, p_keep_f X 60 I L w w1, q_keep_f X 59 I L w w2, hR.t0 rfl rfl⟩
theorem a_back (X : Ctx) (I : MI) (L : ML) (hR : REL I L) (w : Int32) : AGI mX5_back mX6_back [.int w] X I L := by
  obtain ⟨tx, n, D, fs, m, fn, u, U, r1, r2, r3, r4, r5, r6⟩ := id hR
  have hF := r3.1.1
  have hF8 := r3.2.1
  have hF4 := r3.1.2.1
  rcases arS (N := 1) (by decide) w with ⟨i, hi, rfl⟩ | ⟨-, w2, w1, -⟩
  · rcases (by omega : i = 0 ∨ i = 1) with rfl | rfl
    · obtain ⟨z0, z⟩ := r6.1
      rcases z with z | ⟨z, E, e1, e2, e3⟩
      · exact ⟨_, _, _, _, _, p_back_0s X 60 I L z, q_back_0s X 59 I L (z0.symm.trans z), hR.t0 rfl rfl⟩
      · exact ⟨_, _, _, _, _, p_back_0 X 59 I L fs.length hF z, q_back_0 X 59 _ L fs.length hF8 (z0.symm.trans z), tx, n, E, fs, m, fn, 0, (fun _ => E), (r1.fr rfl rfl rfl rfl), ⟨e1.mv (fun j hj => if_pos hj) (fun j hj => if_pos hj), fun j hj => (if_pos hj).trans ((congrArg (I 57) (show 0 + j = 48 * 0 + j by omega)).trans (e2 j hj)), e3⟩, (r3.f rfl rfl rfl rfl rfl rfl rfl rfl rfl rfl rfl rfl rfl), (r4.fr rfl rfl rfl rfl rfl rfl), ⟨rfl, rfl, Nat.zero_le _, fun k hk => absurd hk (Nat.not_lt_zero k), fun j hj => rfl, fun k hk => absurd hk (Nat.not_lt_zero k)⟩, (r6.fr rfl rfl rfl rfl rfl rfl rfl rfl)⟩
    · obtain ⟨z0, z⟩ := r6.2
      rcases z with z | ⟨z, E, e1, e2, e3⟩
      · exact ⟨_, _, _, _, _, p_back_1s X 60 I L z, q_back_1s X 59 I L (z0.symm.trans z), hR.t0 rfl rfl⟩
      · exact ⟨_, _, _, _, _, p_back_1 X 59 I L fs.length hF z, q_back_1 X 59 _ L fs.length hF8 (z0.symm.trans z), tx, n, E, fs, m, fn, 0, (fun _ => E), (r1.fr rfl rfl rfl rfl), ⟨e1.mv (fun j hj => if_pos hj) (fun j hj => if_pos hj), fun j hj => (if_pos hj).trans ((congrArg (I 57) (show 48 + j = 48 * 1 + j by omega)).trans (e2 j hj)), e3⟩, (r3.f rfl rfl rfl rfl rfl rfl rfl rfl rfl rfl rfl rfl rfl), (r4.fr rfl rfl rfl rfl rfl rfl), ⟨rfl, rfl, Nat.zero_le _, fun k hk => absurd hk (Nat.not_lt_zero k), fun j hj => rfl, fun k hk => absurd hk (Nat.not_lt_zero k)⟩, (r6.fr rfl rfl rfl rfl rfl rfl rfl rfl)⟩
  · exact ⟨_, _, _, _, _, p_back_f X 60 I L w w1, q_back_f X 59 I L w w2, hR.t0 rfl rfl⟩
