theorem CRm.of {J : MI} {tx : Nat → Nat} {n t a b c v : Nat} (hk : tokP tx n (bps tx n t) = (a, b, c, v)) (h5 : J 42 5 = nI a) (h3 : J 42 3 = nI b) (h4 : J 42 4 = nI (kdM c v)) (h6 : c = 1 ∨ c = 2 → J 42 6 = nI v) : CRm J tx n t := by
  unfold CRm
  refine ⟨?_, ?_, ?_, ?_⟩
  · unfold tkP; rw [hk]; exact h5
  · show J 42 3 = nI (tokP tx n (bps tx n t)).2.1
    rw [hk]; exact h3
  · unfold tkK tkV; rw [hk]; exact h4
  · unfold tkK tkV; rw [hk]; exact h6
theorem vM_1 (tx : Nat → Nat) (q : Nat) : vM tx q 1 = tx q - 48 := by
  have e : vM tx q 1 = 10 * vM tx q 0 + tx (q + 0) - 48 := if_neg (show ¬ 99 < 0 by omega)
  rw [e]
  show 10 * 0 + tx q - 48 = _
  omega
theorem vM_3 {tx : Nat → Nat} {q : Nat} (h0 : tx q ≠ 48) : ∀ {k : Nat}, (∀ j, j < k + 3 → 48 ≤ tx (q + j) ∧ tx (q + j) ≤ 57) → 99 < vM tx q (k + 3)
  | 0, h => by
    have a := h 0 (by omega)
    have b := h 1 (by omega)
    have c := h 2 (by omega)
    have a1 := vM_1 tx q
    have a2 : vM tx q 2 = 10 * (tx q - 48) + tx (q + 1) - 48 := by
      show (if 99 < vM tx q 1 then vM tx q 1 else 10 * vM tx q 1 + tx (q + 1) - 48) = _
      rw [a1, if_neg (by show ¬ 99 < tx q - 48; have : tx (q + 0) = tx q := rfl; omega)]
    have z0 : tx (q + 0) = tx q := rfl
    show 99 < (if 99 < vM tx q 2 then vM tx q 2 else 10 * vM tx q 2 + tx (q + 2) - 48)
    rw [a2]
    split <;> omega
  | k + 1, h => by
    have a := vM_3 h0 (k := k) (fun j hj => h j (by omega))
    show 99 < (if 99 < vM tx q (k + 3) then vM tx q (k + 3) else _)
    rw [if_pos a]
    exact a
/-- what the digits tell: k of them from q on -/
theorem vM_kd {tx : Nat → Nat} {q E k : Nat} (hE : q + k = E) (hk : 1 ≤ k) (h : ∀ j, j < k → 48 ≤ tx (q + j) ∧ tx (q + j) ≤ 57) : (kdD tx E q = 2 ↔ ¬ (99 < vM tx q k ∨ (tx q = 48 ∧ 1 < E - q))) ∧ (kdD tx E q = 2 ∨ kdD tx E q = 3) ∧ (kdD tx E q = 2 → vM tx q k = vD tx E q) := by
  have a := h 0 (by omega)
  have z0 : tx (q + 0) = tx q := rfl
  have a1 := vM_1 tx q
  unfold kdD vD
  by_cases k1 : k = 1
  · subst k1
    have e1 : E = q + 1 := hE.symm
    rw [if_pos e1, if_pos e1, a1]
    refine ⟨⟨fun _ => by omega, fun _ => rfl⟩, Or.inl rfl, fun _ => rfl⟩
  · have e1 : ¬ E = q + 1 := by omega
    rw [if_neg e1, if_neg e1]
    by_cases k2 : k = 2
    · subst k2
      have b := h 1 (by omega)
      have a2 : vM tx q 2 = 10 * (tx q - 48) + tx (q + 1) - 48 := by
        show (if 99 < vM tx q 1 then vM tx q 1 else 10 * vM tx q 1 + tx (q + 1) - 48) = _
        rw [a1, if_neg (by omega)]
      rw [a2]
      by_cases h48 : tx q = 48
      · rw [if_neg (fun z => z.2 h48)]
        exact ⟨⟨fun z => absurd z (by decide), fun z => absurd (Or.inr ⟨h48, by omega⟩) z⟩, Or.inr rfl, fun z => absurd z (by decide)⟩
      · rw [if_pos ⟨by omega, h48⟩]
        exact ⟨⟨fun _ => by omega, fun _ => rfl⟩, Or.inl rfl, fun _ => by omega⟩
    · rw [if_neg (by omega)]
      refine ⟨⟨fun z => absurd z (by decide), fun z => absurd ?_ z⟩, Or.inr rfl, fun z => absurd z (by decide)⟩
      by_cases h48 : tx q = 48
      · exact Or.inr ⟨h48, by omega⟩
      · obtain ⟨m, hm⟩ : ∃ m, k = m + 3 := ⟨k - 3, by omega⟩
        subst hm
        exact Or.inl (vM_3 h48 h)
