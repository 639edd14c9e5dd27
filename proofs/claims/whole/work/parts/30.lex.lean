/-! existential ends -/
theorem qU {Q A B : TR → Prop} (h : ∀ T, A T → B T) (k : ∃ T, Q T ∧ A T) : ∃ T, Q T ∧ B T := by
  obtain ⟨T, h1, h2⟩ := k
  exact ⟨T, h1, h T h2⟩
theorem qP {Q A B C : TR → Prop} {c : Prop} (row : ∀ T, (c → A T) → (¬ c → B T) → C T) (kt : c → ∃ T, Q T ∧ A T) (kf : ¬ c → ∃ T, Q T ∧ B T) : ∃ T, Q T ∧ C T := by
  by_cases h : c
  · obtain ⟨T, h1, h2⟩ := kt h
    exact ⟨T, h1, row T (fun _ => h2) (fun q => absurd h q)⟩
  · obtain ⟨T, h1, h2⟩ := kf h
    exact ⟨T, h1, row T (fun q => absurd q h) (fun _ => h2)⟩
theorem qN {Q A B C : TR → Prop} {c : Prop} (row : ∀ T, (¬ c → A T) → (c → B T) → C T) (kt : ¬ c → ∃ T, Q T ∧ A T) (kf : c → ∃ T, Q T ∧ B T) : ∃ T, Q T ∧ C T := by
  by_cases h : c
  · obtain ⟨T, h1, h2⟩ := kf h
    exact ⟨T, h1, row T (fun q => absurd h q) (fun _ => h2)⟩
  · obtain ⟨T, h1, h2⟩ := kt h
    exact ⟨T, h1, row T (fun _ => h2) (fun q => absurd q h)⟩
theorem qBf {Q A B C : TR → Prop} {b : Bool} (row : ∀ T, (b = false → A T) → (b = true → B T) → C T) (kt : b = false → ∃ T, Q T ∧ A T) (kf : b = true → ∃ T, Q T ∧ B T) : ∃ T, Q T ∧ C T := by
  cases b with
  | false => obtain ⟨T, h1, h2⟩ := kt rfl; exact ⟨T, h1, row T (fun _ => h2) (fun q => Bool.noConfusion q)⟩
  | true => obtain ⟨T, h1, h2⟩ := kf rfl; exact ⟨T, h1, row T (fun q => Bool.noConfusion q) (fun _ => h2)⟩
theorem qBt {Q A B C : TR → Prop} {b : Bool} (row : ∀ T, (b = true → A T) → (b = false → B T) → C T) (kt : b = true → ∃ T, Q T ∧ A T) (kf : b = false → ∃ T, Q T ∧ B T) : ∃ T, Q T ∧ C T := by
  cases b with
  | true => obtain ⟨T, h1, h2⟩ := kt rfl; exact ⟨T, h1, row T (fun _ => h2) (fun q => Bool.noConfusion q)⟩
  | false => obtain ⟨T, h1, h2⟩ := kf rfl; exact ⟨T, h1, row T (fun q => Bool.noConfusion q) (fun _ => h2)⟩
/-! tokens of a text of n letters tx: a token by the place where the search for it begins -/
def skp (tx : Nat → Nat) (n : Nat) : Nat → Nat → Nat
  | 0, p => p
  | f + 1, p => if p < n ∧ tx p = 32 then skp tx n f (p + 1) else p
def isD (c : Nat) : Bool := decide (48 ≤ c ∧ c ≤ 57)
def dgE (tx : Nat → Nat) (n : Nat) : Nat → Nat → Nat
  | 0, p => p
  | f + 1, p => if p < n ∧ isD (tx p) = true then dgE tx n f (p + 1) else p
/-- place, where the next search begins, kind (0 end, 1 a letter, 2 a number, 3 a wrong number), letter or number -/
def tokP (tx : Nat → Nat) (n p : Nat) : Nat × Nat × Nat × Nat :=
  if n ≤ skp tx n (n - p) p then (skp tx n (n - p) p, skp tx n (n - p) p, 0, 0)
  else if isD (tx (skp tx n (n - p) p)) = true then
    (skp tx n (n - p) p, dgE tx n (n - (skp tx n (n - p) p + 1)) (skp tx n (n - p) p + 1),
      if dgE tx n (n - (skp tx n (n - p) p + 1)) (skp tx n (n - p) p + 1) = skp tx n (n - p) p + 1 then 2
      else if dgE tx n (n - (skp tx n (n - p) p + 1)) (skp tx n (n - p) p + 1) = skp tx n (n - p) p + 2 ∧ tx (skp tx n (n - p) p) ≠ 48 then 2 else 3,
      if dgE tx n (n - (skp tx n (n - p) p + 1)) (skp tx n (n - p) p + 1) = skp tx n (n - p) p + 1 then tx (skp tx n (n - p) p) - 48
      else (tx (skp tx n (n - p) p) - 48) * 10 + tx (skp tx n (n - p) p + 1) - 48)
  else (skp tx n (n - p) p, skp tx n (n - p) p + 1, 1, tx (skp tx n (n - p) p))
def bps (tx : Nat → Nat) (n : Nat) : Nat → Nat
  | 0 => 0
  | t + 1 => (tokP tx n (bps tx n t)).2.1
def tkP (tx : Nat → Nat) (n t : Nat) : Nat := (tokP tx n (bps tx n t)).1
def tkK (tx : Nat → Nat) (n t : Nat) : Nat := (tokP tx n (bps tx n t)).2.2.1
def tkV (tx : Nat → Nat) (n t : Nat) : Nat := (tokP tx n (bps tx n t)).2.2.2
theorem skp_le (tx : Nat → Nat) (n : Nat) : ∀ f p, p ≤ skp tx n f p ∧ (p ≤ n → skp tx n f p ≤ n)
  | 0, p => ⟨Nat.le_refl p, id⟩
  | f + 1, p => by
    unfold skp
    split
    · have := skp_le tx n f (p + 1); omega
    · exact ⟨Nat.le_refl p, id⟩
theorem dgE_le (tx : Nat → Nat) (n : Nat) : ∀ f p, p ≤ dgE tx n f p ∧ (p ≤ n → dgE tx n f p ≤ n)
  | 0, p => ⟨Nat.le_refl p, id⟩
  | f + 1, p => by
    unfold dgE
    split
    · have := dgE_le tx n f (p + 1); omega
    · exact ⟨Nat.le_refl p, id⟩
theorem skp_end (tx : Nat → Nat) (n : Nat) : ∀ f p, n ≤ p + f → ¬ (skp tx n f p < n ∧ tx (skp tx n f p) = 32)
  | 0, p, h => by unfold skp; omega
  | f + 1, p, h => by
    unfold skp
    split
    · exact skp_end tx n f (p + 1) (by omega)
    · assumption
theorem dgE_end (tx : Nat → Nat) (n : Nat) : ∀ f p, n ≤ p + f → ¬ (dgE tx n f p < n ∧ isD (tx (dgE tx n f p)) = true)
  | 0, p, h => by unfold dgE; omega
  | f + 1, p, h => by
    unfold dgE
    split
    · exact dgE_end tx n f (p + 1) (by omega)
    · assumption
theorem tokP_le (tx : Nat → Nat) {n p : Nat} (h : p ≤ n) : p ≤ (tokP tx n p).1 ∧ (tokP tx n p).1 ≤ (tokP tx n p).2.1 ∧ (tokP tx n p).2.1 ≤ n ∧ ((tokP tx n p).2.2.1 ≠ 0 → (tokP tx n p).1 < (tokP tx n p).2.1) := by
  have h1 := skp_le tx n (n - p) p
  unfold tokP
  split
  · refine ⟨h1.1, Nat.le_refl _, h1.2 h, fun q => absurd rfl q⟩
  · rename_i hq
    split
    · have h2 := dgE_le tx n (n - (skp tx n (n - p) p + 1)) (skp tx n (n - p) p + 1)
      refine ⟨h1.1, ?_, h2.2 (by omega), fun _ => ?_⟩
      · show skp tx n (n - p) p ≤ dgE tx n (n - (skp tx n (n - p) p + 1)) (skp tx n (n - p) p + 1); omega
      · show skp tx n (n - p) p < dgE tx n (n - (skp tx n (n - p) p + 1)) (skp tx n (n - p) p + 1); omega
    · exact ⟨h1.1, Nat.le_succ _, by show skp tx n (n - p) p + 1 ≤ n; omega, fun _ => Nat.lt_succ_self _⟩
theorem bps_le (tx : Nat → Nat) (n : Nat) : ∀ t, bps tx n t ≤ n
  | 0 => Nat.zero_le n
  | t + 1 => (tokP_le tx (bps_le tx n t)).2.2.1
/-- the class's text and token at hand -/
def TXc (I : MI) (tx : Nat → Nat) (n : Nat) : Prop := I 11 3 = nI n ∧ n ≤ 100 ∧ ∀ j, j < n → I 22 j = nI (tx j) ∧ tx j < 256
def tokI (k v : Nat) : Int32 := if k = 0 then -1 else if k = 2 then -2 else if k = 3 then -3 else nI v
def CRt (I : MI) (tx : Nat → Nat) (n t : Nat) : Prop := I 11 4 = tokI (tkK tx n t) (tkV tx n t) ∧ I 11 5 = nI (tkP tx n t) ∧ I 11 6 = nI (bps tx n (t + 1)) ∧ (tkK tx n t = 2 → I 11 7 = nI (tkV tx n t))
def FRp (I I' : MI) : Prop := ∀ c j, ¬ (c = 11 ∧ 4 ≤ j ∧ j ≤ 7) → I' c j = I c j
theorem FRp.refl (I : MI) : FRp I I := fun _ _ _ => rfl
theorem FRp.trans {I J K : MI} (h1 : FRp I J) (h2 : FRp J K) : FRp I K := fun c j h => (h2 c j h).trans (h1 c j h)
theorem FRp.put {I J : MI} (h : FRp I J) (j : Nat) (x : Int32) (h4 : 4 ≤ j) (h7 : j ≤ 7) : FRp I (u2 J 11 j x) := fun c i q => by
  unfold u2
  by_cases hc : c = 11
  · subst hc
    rw [if_pos rfl]
    unfold upd
    rw [if_neg (by omega)]
    exact h 11 i q
  · rw [if_neg hc]; exact h c i q
theorem TXc.fr {I I' : MI} {tx : Nat → Nat} {n : Nat} (h : TXc I tx n) (hF : FRp I I') : TXc I' tx n := ⟨by rw [hF 11 3 (by decide)]; exact h.1, h.2.1, fun j hj => by rw [hF 22 j (by omega)]; exact h.2.2 j hj⟩
