/-! the reference's evaluator, at its end -/
def agL (k : Nat) (L L' : ML) : Prop := (∀ j, j < k → L 63 j = L' 63 j) ∧ (∀ j, j < k → ∀ x, x < 6 → L 64 (6 * j + x) = L' 64 (6 * j + x)) ∧ (∀ j, j < k → ∀ c, c < 36 → L 65 (36 * j + c) = L' 65 (36 * j + c))
theorem agL.refl (k : Nat) (L : ML) : agL k L L := ⟨fun _ _ => rfl, fun _ _ _ _ => rfl, fun _ _ _ _ => rfl⟩
theorem agL.trans {k : Nat} {L L' M : ML} (h : agL k L L') (g : agL k L' M) : agL k L M := ⟨fun j hj => (h.1 j hj).trans (g.1 j hj), fun j hj x hx => (h.2.1 j hj x hx).trans (g.2.1 j hj x hx), fun j hj c hc => (h.2.2 j hj c hc).trans (g.2.2 j hj c hc)⟩
theorem agL.symm {k : Nat} {L L' : ML} (h : agL k L L') : agL k L' L := ⟨fun j hj => (h.1 j hj).symm, fun j hj x hx => (h.2.1 j hj x hx).symm, fun j hj c hc => (h.2.2 j hj c hc).symm⟩
theorem agL.le {k m : Nat} {L L' : ML} (h : agL k L L') (hm : m ≤ k) : agL m L L' := ⟨fun j hj => h.1 j (by omega), fun j hj => h.2.1 j (by omega), fun j hj => h.2.2 j (by omega)⟩
theorem ndL_63 {L : ML} {k j : Nat} {w : Int64} {sg bg : Nat → Int64} : ndL L k w sg bg 63 j = vp_updL (L 63) k w j := rfl
theorem ndL_64 {L : ML} {k j : Nat} {w : Int64} {sg bg : Nat → Int64} : ndL L k w sg bg 64 j = blkR (L 64) sg (6 * k) 6 j := rfl
theorem ndL_65 {L : ML} {k j : Nat} {w : Int64} {sg bg : Nat → Int64} : ndL L k w sg bg 65 j = blkR (L 65) bg (36 * k) 36 j := rfl
theorem ndL_lo {L : ML} {k : Nat} {w : Int64} {sg bg : Nat → Int64} : agL k (ndL L k w sg bg) L := ⟨fun j hj => ndL_63.trans (if_neg (by omega)), fun j hj x hx => ndL_64.trans (blkR_lo (by omega)), fun j hj c hc => ndL_65.trans (blkR_lo (by omega))⟩
theorem agL_ite {k : Nat} {c : Prop} [Decidable c] {A B L : ML} (h1 : agL k A L) (h2 : agL k B L) : agL k (if c then A else B) L := by
  by_cases h : c
  · rw [if_pos h]; exact h1
  · rw [if_neg h]; exact h2
theorem ndM_lo {vs : Nat → Int32} {sz : Nat → Nat} {q : Q4} {L : ML} {f e : Nat} : agL (20 * f + e) (ndM vs sz q L f e) L := agL_ite ndL_lo (agL_ite ndL_lo (agL_ite ndL_lo (agL_ite ndL_lo (agL_ite ndL_lo (agL_ite ndL_lo (agL_ite ndL_lo (agL_ite ndL_lo (agL_ite ndL_lo (agL_ite ndL_lo (agL_ite ndL_lo (agL_ite ndL_lo (agL.refl _ _))))))))))))
/-- the place k of two memories is the same -/
def atL (k : Nat) (L L' : ML) : Prop := L 63 k = L' 63 k ∧ (∀ x, x < 6 → L 64 (6 * k + x) = L' 64 (6 * k + x)) ∧ (∀ c, c < 36 → L 65 (36 * k + c) = L' 65 (36 * k + c))
theorem agL.at {k j : Nat} {L L' : ML} (h : agL k L L') (hj : j < k) : atL j L L' := ⟨h.1 j hj, h.2.1 j hj, h.2.2 j hj⟩
theorem atL.trans {k : Nat} {L L' M : ML} (h : atL k L L') (g : atL k L' M) : atL k L M := ⟨h.1.trans g.1, fun x hx => (h.2.1 x hx).trans (g.2.1 x hx), fun c hc => (h.2.2 c hc).trans (g.2.2 c hc)⟩
theorem atL.symm {k : Nat} {L L' : ML} (h : atL k L L') : atL k L' L := ⟨h.1.symm, fun x hx => (h.2.1 x hx).symm, fun c hc => (h.2.2 c hc).symm⟩
theorem ndL_at {L L' : ML} {k : Nat} {w w' : Int64} {sg sg' bg bg' : Nat → Int64} (h1 : w = w') (h2 : ∀ x, x < 6 → sg x = sg' x) (h3 : ∀ c, c < 36 → bg c = bg' c) : atL k (ndL L k w sg bg) (ndL L' k w' sg' bg') := by
  refine ⟨?_, fun x hx => ?_, fun c hc => ?_⟩
  · rw [ndL_63, ndL_63]
    exact (if_pos rfl).trans (h1.trans (if_pos rfl).symm)
  · rw [ndL_64, ndL_64, blkR_in hx, blkR_in hx]
    exact h2 x hx
  · rw [ndL_65, ndL_65, blkR_in hc, blkR_in hc]
    exact h3 c hc
theorem ndM_at {vs : Nat → Int32} {sz : Nat → Nat} {q : Q4} {L L' : ML} {f e : Nat} (hok : NDok q f e) (hsz : ∀ g, g < f → 1 ≤ sz g ∧ sz g ≤ 20) (h : agL (20 * f + e) L L') : atL (20 * f + e) (ndM vs sz q L f e) (ndM vs sz q L' f e) := by
  have h64 : ∀ j, j < 20 * f + e → ∀ x, x < 6 → L 64 (6 * j + x) = L' 64 (6 * j + x) := h.2.1
  rcases hok with h0 | ⟨h0, hx⟩ | ⟨h0, hx⟩ | ⟨h0, hx⟩ | ⟨h0, hn, hx⟩ | ⟨h0, hx, hy⟩
  · rw [ndM_0 h0, ndM_0 h0]; exact ndL_at rfl (fun _ _ => rfl) (fun _ _ => rfl)
  · rw [ndM_1 h0, ndM_1 h0]; exact ndL_at rfl (fun _ _ => rfl) (fun _ _ => rfl)
  · have hs := hsz _ hx
    have hj : 20 * q.2.1 + sz q.2.1 - 1 < 20 * f + e := by omega
    rw [ndM_2 h0, ndM_2 h0]; exact ndL_at (h.1 _ hj) (fun x hx => h64 _ hj x hx) (fun c hc => h.2.2 _ hj c hc)
  · have hj : 20 * f + q.2.2.1 < 20 * f + e := by omega
    rw [ndM_110 h0, ndM_110 h0]
    exact ndL_at (by rw [h.1 _ hj]) (fun x hx => by rw [h64 _ hj x hx]) (fun c hc => by rw [h.2.2 _ hj c hc, h64 _ hj (c / 6) (by omega), h64 _ hj (c % 6) (by omega)])
  · have hj : 20 * f + q.2.2.1 < 20 * f + e := by omega
    rcases (by omega : q.2.1 = 0 ∨ q.2.1 = 1 ∨ q.2.1 = 2 ∨ q.2.1 = 3 ∨ q.2.1 = 4) with hm | hm | hm | hm | hm
    · rw [ndM_94_0 h0 hm, ndM_94_0 h0 hm]
      exact ndL_at (by rw [h.1 _ hj]) (fun x hx => by rw [h64 _ hj x hx]) (fun c hc => by rw [h.2.2 _ hj c hc, h64 _ hj (c / 6) (by omega), h64 _ hj (c % 6) (by omega)])
    · rw [ndM_94_1 h0 hm, ndM_94_1 h0 hm]
      exact ndL_at (by rw [h.1 _ hj]) (fun x hx => by rw [h.1 _ hj, h64 _ hj x hx]) (fun c hc => by rw [h.1 _ hj, h.2.2 _ hj c hc, h64 _ hj (c / 6) (by omega), h64 _ hj (c % 6) (by omega)])
    · rw [ndM_94_2 h0 hm, ndM_94_2 h0 hm]
      exact ndL_at (by rw [h.1 _ hj]) (fun x hx => by rw [h.1 _ hj, h64 _ hj x hx]) (fun c hc => by rw [h.1 _ hj, h.2.2 _ hj c hc, h64 _ hj (c / 6) (by omega), h64 _ hj (c % 6) (by omega)])
    · rw [ndM_94_3 h0 hm, ndM_94_3 h0 hm]
      exact ndL_at (by rw [h.1 _ hj]) (fun x hx => by rw [h.1 _ hj, h64 _ hj x hx]) (fun c hc => by rw [h.1 _ hj, h.2.2 _ hj c hc, h64 _ hj (c / 6) (by omega), h64 _ hj (c % 6) (by omega)])
    · rw [ndM_94_4 h0 hm, ndM_94_4 h0 hm]
      exact ndL_at (by rw [h.1 _ hj]) (fun x hx => by rw [h.1 _ hj, h64 _ hj x hx]) (fun c hc => by rw [h.1 _ hj, h.2.2 _ hj c hc, h64 _ hj (c / 6) (by omega), h64 _ hj (c % 6) (by omega)])
  · have hj : 20 * f + q.2.2.1 < 20 * f + e := by omega
    have hi : 20 * f + q.2.2.2 < 20 * f + e := by omega
    rcases h0 with h0 | h0 | h0
    · rw [ndM_42 h0, ndM_42 h0]
      exact ndL_at (by rw [h.1 _ hj, h.1 _ hi]) (fun x hx => by rw [h.1 _ hj, h.1 _ hi, h64 _ hj x hx, h64 _ hi x hx]) (fun c hc => by rw [h.1 _ hj, h.1 _ hi, h.2.2 _ hj c hc, h.2.2 _ hi c hc, h64 _ hj (c / 6) (by omega), h64 _ hj (c % 6) (by omega), h64 _ hi (c / 6) (by omega), h64 _ hi (c % 6) (by omega)])
    · rw [ndM_43 h0, ndM_43 h0]
      exact ndL_at (by rw [h.1 _ hj, h.1 _ hi]) (fun x hx => by rw [h64 _ hj x hx, h64 _ hi x hx]) (fun c hc => by rw [h.2.2 _ hj c hc, h.2.2 _ hi c hc])
    · rw [ndM_45 h0, ndM_45 h0]
      exact ndL_at (by rw [h.1 _ hj, h.1 _ hi]) (fun x hx => by rw [h64 _ hj x hx, h64 _ hi x hx]) (fun c hc => by rw [h.2.2 _ hj c hc, h.2.2 _ hi c hc])
theorem giL_keep {vs : Nat → Int32} {sz : Nat → Nat} {nd : Nat → Nat → Q4} {f : Nat} {L : ML} (m : Nat) : ∀ n, agL (20 * f + m) (giL vs sz nd f L (m + n)) (giL vs sz nd f L m)
  | 0 => agL.refl _ _
  | n + 1 => ((ndM_lo (vs := vs) (sz := sz) (q := nd f (m + n)) (L := giL vs sz nd f L (m + n)) (f := f) (e := m + n)).le (by omega)).trans (giL_keep m n)
theorem goL_keep {vs : Nat → Int32} {sz : Nat → Nat} {nd : Nat → Nat → Q4} {L : ML} (m : Nat) : ∀ n, agL (20 * m) (goL vs sz nd L (m + n)) (goL vs sz nd L m)
  | 0 => agL.refl _ _
  | n + 1 => by
    have h := (giL_keep (vs := vs) (sz := sz) (nd := nd) (f := m + n) (L := goL vs sz nd L (m + n)) 0 (sz (m + n))).le (m := 20 * m) (by omega)
    rw [Nat.zero_add] at h
    exact h.trans (goL_keep m n)
/-- every node of the end is what its own rule makes of the end -/
theorem goL_fix {vs : Nat → Int32} {sz : Nat → Nat} {nd : Nat → Nat → Q4} {L : ML} {F f e : Nat} (hsz : ∀ g, g < F → 1 ≤ sz g ∧ sz g ≤ 20) (hf : f < F) (he : e < sz f) (hok : NDok (nd f e) f e) : atL (20 * f + e) (goL vs sz nd L F) (ndM vs sz (nd f e) (goL vs sz nd L F) f e) := by
  have h1 := goL_keep (vs := vs) (sz := sz) (nd := nd) (L := L) (f + 1) (F - (f + 1))
  rw [show f + 1 + (F - (f + 1)) = F by omega] at h1
  have h2 := giL_keep (vs := vs) (sz := sz) (nd := nd) (f := f) (L := goL vs sz nd L f) (e + 1) (sz f - (e + 1))
  rw [show e + 1 + (sz f - (e + 1)) = sz f by omega] at h2
  have h3 := (hsz f hf).2
  have h4 : agL (20 * f + (e + 1)) (goL vs sz nd L F) (giL vs sz nd f (goL vs sz nd L f) (e + 1)) := (h1.le (by omega)).trans h2
  have h5 : agL (20 * f + e) (giL vs sz nd f (goL vs sz nd L f) e) (goL vs sz nd L F) := ((h4.le (by omega)).trans (giL_keep (vs := vs) (sz := sz) (nd := nd) (f := f) (L := goL vs sz nd L f) e 1)).symm
  exact (h4.at (by omega)).trans (ndM_at hok (fun g hg => hsz g (by omega)) h5)
