/-! the machine of stacks does what the plain parser tells -/
theorem pdR_t {K V : Nat → Nat} {t c : Nat} {l : List Q4} {i : Nat} {ps ws : List Nat} {t' c' : Nat} {a : R4} (h : pdR K V t c l i ps ws = .inr (t', c', a)) : t ≤ t' := by
  unfold pdR pdW at h
  split at h
  · split at h
    · cases h
    · split at h
      · cases h; omega
      · cases h
  · cases h; exact Nat.le_refl _
def gro (t c : Nat) (r : RD) : Prop := match r with
  | .inl _ => True
  | .inr (_, u, c', _) => t < u ∧ c < c' ∧ c' ≤ 20
def groE (t c : Nat) (r : RD) : Prop := match r with
  | .inl _ => True
  | .inr (_, u, c', _) => t ≤ u ∧ c ≤ c' ∧ c' ≤ 20
def groI (inner : Option (Nat → Nat → List Q4 → RD)) : Prop := match inner with
  | none => True
  | some rs => ∀ t c l, c ≤ 20 → gro t c (rs t c l)
theorem gro_bare {K V : Nat → Nat} {F : Nat} {inner : Option (Nat → Nat → List Q4 → RD)} (hin : groI inner) {t c : Nat} {l : List Q4} (hc : c ≤ 20) : gro t c (rdBare K V F inner t c l) := by
  unfold rdBare
  split
  · cases inner with
    | none => exact True.intro
    | some rs =>
      have h := hin (t + 1) c l hc
      dsimp only
      cases R : rs (t + 1) c l with
      | inl u => exact True.intro
      | inr v =>
        obtain ⟨i, u, c', l'⟩ := v
        rw [R] at h
        have h2 : t + 1 < u ∧ c < c' ∧ c' ≤ 20 := h
        dsimp only
        split
        · show t < u + 1 ∧ c < c' ∧ c' ≤ 20; omega
        · exact True.intro
  · split
    · split
      · exact True.intro
      · split
        · show t < t + 2 ∧ c < c + 1 ∧ c + 1 ≤ 20; omega
        · exact True.intro
    · split
      · split
        · exact True.intro
        · show t < t + 1 ∧ c < c + 1 ∧ c + 1 ≤ 20; omega
      · split
        · split
          · exact True.intro
          · show t < t + 1 ∧ c < c + 1 ∧ c + 1 ≤ 20; omega
        · exact True.intro
theorem gro_neg {K V : Nat → Nat} : ∀ (f s t c : Nat), c ≤ 20 → match rdNeg K V f s t c with
    | .inl _ => True
    | .inr (_, u, c') => t ≤ u ∧ c ≤ c' ∧ c' ≤ 20
  | 0, s, t, c, hc => ⟨Nat.le_refl t, Nat.le_refl c, hc⟩
  | f + 1, s, t, c, hc => by
    unfold rdNeg
    by_cases hM : K t = 1 ∧ V t = 45
    · rw [if_pos hM]
      by_cases h20 : 20 ≤ c
      · rw [if_pos h20]; exact True.intro
      · rw [if_neg h20]
        have h := gro_neg (K := K) (V := V) f (s + 1) (t + 1) (c + 1) (by omega)
        cases R : rdNeg K V f (s + 1) (t + 1) (c + 1) with
        | inl u => exact True.intro
        | inr v =>
          obtain ⟨s', u, c'⟩ := v
          rw [R] at h
          have h2 : t + 1 ≤ u ∧ c + 1 ≤ c' ∧ c' ≤ 20 := h
          show t ≤ u ∧ c ≤ c' ∧ c' ≤ 20
          omega
    · rw [if_neg hM]
      exact ⟨Nat.le_refl t, Nat.le_refl c, hc⟩
theorem gro_part {K V : Nat → Nat} {F : Nat} {inner : Option (Nat → Nat → List Q4 → RD)} (hin : groI inner) {t c : Nat} {l : List Q4} (hc : c ≤ 20) : gro t c (rdPart K V F inner t c l) := by
  unfold rdPart
  have h := gro_neg (K := K) (V := V) 20 0 t c hc
  cases R : rdNeg K V 20 0 t c with
  | inl u => exact True.intro
  | inr v =>
    obtain ⟨s, u, c1⟩ := v
    rw [R] at h
    have h2 : t ≤ u ∧ c ≤ c1 ∧ c1 ≤ 20 := h
    dsimp only
    have g := gro_bare (K := K) (V := V) (F := F) hin (t := u) (l := l) h2.2.2
    cases R2 : rdBare K V F inner u c1 l with
    | inl u => exact True.intro
    | inr v =>
      obtain ⟨i, u2, c2, l2⟩ := v
      rw [R2] at g
      have g2 : u < u2 ∧ c1 < c2 ∧ c2 ≤ 20 := g
      show t < u2 ∧ c < c2 ∧ c2 ≤ 20
      omega
theorem gro_power {K V : Nat → Nat} {F : Nat} {inner : Option (Nat → Nat → List Q4 → RD)} (hin : groI inner) {t c : Nat} {l : List Q4} (hc : c ≤ 20) : gro t c (rdPower K V F inner t c l) := by
  unfold rdPower
  have g := gro_part (K := K) (V := V) (F := F) hin (t := t) (l := l) hc
  cases R2 : rdPart K V F inner t c l with
  | inl u => exact True.intro
  | inr v =>
    obtain ⟨i, u, c1, l1⟩ := v
    rw [R2] at g
    have g2 : t < u ∧ c < c1 ∧ c1 ≤ 20 := g
    dsimp only
    split
    · split
      · exact True.intro
      · split
        · show t < u + 2 ∧ c < c1 + 1 ∧ c1 + 1 ≤ 20; omega
        · exact True.intro
    · exact g2
theorem gro_prodL {K V : Nat → Nat} {F : Nat} {inner : Option (Nat → Nat → List Q4 → RD)} (hin : groI inner) : ∀ (f i t c : Nat) (l : List Q4), c ≤ 20 → groE t c (rdProdL K V F inner f i t c l)
  | 0, i, t, c, l, hc => ⟨Nat.le_refl t, Nat.le_refl c, hc⟩
  | f + 1, i, t, c, l, hc => by
    unfold rdProdL
    by_cases hM : K t = 1 ∧ V t = 42
    · rw [if_pos hM]
      by_cases h20 : 20 ≤ c
      · rw [if_pos h20]; exact True.intro
      · rw [if_neg h20]
        have g := gro_power (K := K) (V := V) (F := F) hin (t := t + 1) (c := c + 1) (l := l) (by omega)
        cases R : rdPower K V F inner (t + 1) (c + 1) l with
        | inl u => exact True.intro
        | inr v =>
          obtain ⟨j, u, c1, l1⟩ := v
          rw [R] at g
          have g2 : t + 1 < u ∧ c + 1 < c1 ∧ c1 ≤ 20 := g
          dsimp only
          have h := gro_prodL hin (K := K) (V := V) (F := F) f l1.length u c1 (l1 ++ [(42, 0, i, j)]) g2.2.2
          cases R3 : rdProdL K V F inner f l1.length u c1 (l1 ++ [(42, 0, i, j)]) with
          | inl u => exact True.intro
          | inr v =>
            obtain ⟨j2, u2, c2, l2⟩ := v
            rw [R3] at h
            have h2 : u ≤ u2 ∧ c1 ≤ c2 ∧ c2 ≤ 20 := h
            show t ≤ u2 ∧ c ≤ c2 ∧ c2 ≤ 20
            omega
    · rw [if_neg hM]
      exact ⟨Nat.le_refl t, Nat.le_refl c, hc⟩
theorem gro_prod {K V : Nat → Nat} {F : Nat} {inner : Option (Nat → Nat → List Q4 → RD)} (hin : groI inner) {t c : Nat} {l : List Q4} (hc : c ≤ 20) : gro t c (rdProd K V F inner t c l) := by
  unfold rdProd
  have g := gro_power (K := K) (V := V) (F := F) hin (t := t) (l := l) hc
  cases R2 : rdPower K V F inner t c l with
  | inl u => exact True.intro
  | inr v =>
    obtain ⟨i, u, c1, l1⟩ := v
    rw [R2] at g
    have g2 : t < u ∧ c < c1 ∧ c1 ≤ 20 := g
    dsimp only
    have h := gro_prodL hin (K := K) (V := V) (F := F) 20 i u c1 l1 g2.2.2
    cases R3 : rdProdL K V F inner 20 i u c1 l1 with
    | inl u => exact True.intro
    | inr v =>
      obtain ⟨j2, u2, c2, l2⟩ := v
      rw [R3] at h
      have h2 : u ≤ u2 ∧ c1 ≤ c2 ∧ c2 ≤ 20 := h
      show t < u2 ∧ c < c2 ∧ c2 ≤ 20
      omega
theorem gro_sumL {K V : Nat → Nat} {F : Nat} {inner : Option (Nat → Nat → List Q4 → RD)} (hin : groI inner) : ∀ (f i t c : Nat) (l : List Q4), c ≤ 20 → groE t c (rdSumL K V F inner f i t c l)
  | 0, i, t, c, l, hc => ⟨Nat.le_refl t, Nat.le_refl c, hc⟩
  | f + 1, i, t, c, l, hc => by
    unfold rdSumL
    by_cases hM : K t = 1 ∧ (V t = 43 ∨ V t = 45)
    · rw [if_pos hM]
      by_cases h20 : 20 ≤ c
      · rw [if_pos h20]; exact True.intro
      · rw [if_neg h20]
        have g := gro_prod (K := K) (V := V) (F := F) hin (t := t + 1) (c := c + 1) (l := l) (by omega)
        cases R : rdProd K V F inner (t + 1) (c + 1) l with
        | inl u => exact True.intro
        | inr v =>
          obtain ⟨j, u, c1, l1⟩ := v
          rw [R] at g
          have g2 : t + 1 < u ∧ c + 1 < c1 ∧ c1 ≤ 20 := g
          dsimp only
          have h := gro_sumL hin (K := K) (V := V) (F := F) f l1.length u c1 (l1 ++ [(V t, 0, i, j)]) g2.2.2
          cases R3 : rdSumL K V F inner f l1.length u c1 (l1 ++ [(V t, 0, i, j)]) with
          | inl u => exact True.intro
          | inr v =>
            obtain ⟨j2, u2, c2, l2⟩ := v
            rw [R3] at h
            have h2 : u ≤ u2 ∧ c1 ≤ c2 ∧ c2 ≤ 20 := h
            show t ≤ u2 ∧ c ≤ c2 ∧ c2 ≤ 20
            omega
    · rw [if_neg hM]
      exact ⟨Nat.le_refl t, Nat.le_refl c, hc⟩
theorem gro_sum {K V : Nat → Nat} {F : Nat} {inner : Option (Nat → Nat → List Q4 → RD)} (hin : groI inner) {t c : Nat} {l : List Q4} (hc : c ≤ 20) : gro t c (rdSum K V F inner t c l) := by
  unfold rdSum
  have g := gro_prod (K := K) (V := V) (F := F) hin (t := t) (l := l) hc
  cases R2 : rdProd K V F inner t c l with
  | inl u => exact True.intro
  | inr v =>
    obtain ⟨i, u, c1, l1⟩ := v
    rw [R2] at g
    have g2 : t < u ∧ c < c1 ∧ c1 ≤ 20 := g
    dsimp only
    have h := gro_sumL hin (K := K) (V := V) (F := F) 20 i u c1 l1 g2.2.2
    cases R3 : rdSumL K V F inner 20 i u c1 l1 with
    | inl u => exact True.intro
    | inr v =>
      obtain ⟨j2, u2, c2, l2⟩ := v
      rw [R3] at h
      have h2 : u ≤ u2 ∧ c1 ≤ c2 ∧ c2 ≤ 20 := h
      show t < u2 ∧ c < c2 ∧ c2 ≤ 20
      omega
theorem gro_S {K V : Nat → Nat} {F : Nat} : ∀ (k t c : Nat) (l : List Q4), c ≤ 20 → gro t c (rdS K V F k t c l)
  | 0, t, c, l, hc => gro_sum (inner := none) True.intro hc
  | k + 1, t, c, l, hc => gro_sum (inner := some (rdS K V F k)) (fun t c l hc => gro_S k t c l hc) hc
