/-! the class's evaluator, node by node -/
theorem tb_at {step : (Nat → Int64) → Nat → Int64} {r0 : Nat → Int64} {n : Nat} : tb step r0 (n + 1) n = step (tb step r0 n) n := if_pos rfl
theorem tb_ne {step : (Nat → Int64) → Nat → Int64} {r0 : Nat → Int64} {n j : Nat} (h : j ≠ n) : tb step r0 (n + 1) j = tb step r0 n j := if_neg h
theorem tb_mono {step : (Nat → Int64) → Nat → Int64} {r0 : Nat → Int64} {j m : Nat} (h : j < m) : ∀ k, tb step r0 (m + k) j = tb step r0 m j
  | 0 => rfl
  | k + 1 => (tb_ne (n := m + k) (by omega)).trans (tb_mono h k)
theorem tb_fix {step : (Nat → Int64) → Nat → Int64} {r0 : Nat → Int64} {N : Nat} (hs : ∀ i, i < N → ∀ r r' : Nat → Int64, (∀ j, j < i → r j = r' j) → step r i = step r' i) {j : Nat} (hj : j < N) : tb step r0 N j = step (tb step r0 N) j := by
  have h1 : tb step r0 N j = tb step r0 (j + 1) j := by
    have h := tb_mono (step := step) (r0 := r0) (Nat.lt_succ_self j) (N - (j + 1))
    rw [show j + 1 + (N - (j + 1)) = N by omega] at h
    exact h
  rw [h1, tb_at]
  refine hs j hj _ _ (fun i hi => ?_)
  have h := tb_mono (step := step) (r0 := r0) hi (N - j)
  rw [show j + (N - j) = N by omega] at h
  exact h.symm
def cW (vs : Nat → Int32) (rt : Nat → Nat) (b : Nat) (q : Q4) (r : Nat → Int64) : Int64 := if q.1 = 0 then (nI q.2.1).toInt64 else if q.1 = 1 then (vs q.2.1).toInt64 else if q.1 = 2 then r (rt q.2.1) else if q.1 = 110 then -(r (b + q.2.2.1)) else if q.1 = 94 then pw (r (b + q.2.2.1)) q.2.1 else if q.1 = 42 then r (b + q.2.2.1) * r (b + q.2.2.2) else if q.1 = 43 then r (b + q.2.2.1) + r (b + q.2.2.2) else r (b + q.2.2.1) - r (b + q.2.2.2)
def cS (rt : Nat → Nat) (b s : Nat) (q : Q4) (w r : Nat → Int64) : Int64 := if q.1 = 0 then 0 else if q.1 = 1 then (if q.2.1 = s then 1 else 0) else if q.1 = 2 then r (rt q.2.1) else if q.1 = 110 then -(r (b + q.2.2.1)) else if q.1 = 94 then (nI q.2.1).toInt64 * pw (w (b + q.2.2.1)) (q.2.1 - 1) * r (b + q.2.2.1) else if q.1 = 42 then r (b + q.2.2.1) * w (b + q.2.2.2) + w (b + q.2.2.1) * r (b + q.2.2.2) else if q.1 = 43 then r (b + q.2.2.1) + r (b + q.2.2.2) else r (b + q.2.2.1) - r (b + q.2.2.2)
def cB (rt : Nat → Nat) (b : Nat) (q : Q4) (w x y r : Nat → Int64) : Int64 := if q.1 = 0 then 0 else if q.1 = 1 then 0 else if q.1 = 2 then r (rt q.2.1) else if q.1 = 110 then -(r (b + q.2.2.1)) else if q.1 = 94 then (nI q.2.1).toInt64 * pw (w (b + q.2.2.1)) (q.2.1 - 1) * r (b + q.2.2.1) + (nI q.2.1 * (nI q.2.1 - 1)).toInt64 * pw (w (b + q.2.2.1)) (q.2.1 - 2) * x (b + q.2.2.1) * y (b + q.2.2.1) else if q.1 = 42 then r (b + q.2.2.1) * w (b + q.2.2.2) + w (b + q.2.2.1) * r (b + q.2.2.2) + x (b + q.2.2.1) * y (b + q.2.2.2) + y (b + q.2.2.1) * x (b + q.2.2.2) else if q.1 = 43 then r (b + q.2.2.1) + r (b + q.2.2.2) else r (b + q.2.2.1) - r (b + q.2.2.2)
theorem wO_q {I : MI} {s dd : Int32} {vs : Nat → Int32} {r : Nat → Int64} (hv : ∀ j, j < 6 → vs j = I 2 j + (if nI j = s then dd else nI 0)) {p b g e : Nat} {rt : Nat → Nat} {q : Q4} (hok : NDok q g e) (h5 : I 5 p = nI (kdS q.1)) (h6 : I 6 p = nI (oneS rt b q)) (h7 : I 7 p = nI (othS b q)) (hrt : q.1 = 2 → rt q.2.1 < 80) (hb : b + e < 80) : wO I s dd r p = cW vs rt b q r := by
  rcases hok with h0 | ⟨h0, hx⟩ | ⟨h0, hx⟩ | ⟨h0, hx⟩ | ⟨h0, hn, hx⟩ | ⟨h0, hx, hy⟩
  · have e5 : I 5 p = nI 0 := h5.trans (congrArg (fun z => nI (kdS z)) h0)
    have e6 : I 6 p = nI (q.2.1) := h6.trans (congrArg nI (show oneS rt b q = _ by unfold oneS; rw [if_pos (by omega)]))
    have hr : cW vs rt b q r = (nI q.2.1).toInt64 := by unfold cW; rw [if_pos h0]
    have hl : wO I s dd r p = (nI q.2.1).toInt64 := by unfold wO; rw [e5, if_pos rfl, e6]
    exact hl.trans hr.symm
  · have e5 : I 5 p = nI 1 := h5.trans (congrArg (fun z => nI (kdS z)) h0)
    have e6 : I 6 p = nI (q.2.1) := h6.trans (congrArg nI (show oneS rt b q = _ by unfold oneS; rw [if_pos (by omega)]))
    have hr : cW vs rt b q r = (vs q.2.1).toInt64 := by unfold cW; rw [if_neg (by omega), if_pos h0]
    have hl : wO I s dd r p = (I 2 q.2.1 + (if nI q.2.1 = s then dd else nI 0)).toInt64 := by unfold wO; rw [e5, if_neg (by decide), if_pos rfl, e6, nI_clamp (by omega)]
    exact hl.trans ((congrArg Int32.toInt64 (hv _ hx)).symm.trans hr.symm)
  · have e5 : I 5 p = nI 2 := h5.trans (congrArg (fun z => nI (kdS z)) h0)
    have e6 : I 6 p = nI (rt q.2.1) := h6.trans (congrArg nI (show oneS rt b q = _ by unfold oneS; rw [if_neg (by omega), if_pos h0]))
    have hr8 := hrt h0
    have hr : cW vs rt b q r = r (rt q.2.1) := by unfold cW; rw [if_neg (by omega), if_neg (by omega), if_pos h0]
    have hl : wO I s dd r p = r (rt q.2.1) := by unfold wO; rw [e5, if_neg (by decide), if_neg (by decide), if_neg (by decide), if_neg (by decide), if_neg (by decide), if_neg (by decide), if_neg (by decide), e6, nI_clamp (by omega)]
    exact hl.trans hr.symm
  · have e5 : I 5 p = nI 7 := h5.trans (congrArg (fun z => nI (kdS z)) h0)
    have e6 : I 6 p = nI (b + q.2.2.1) := h6.trans (congrArg nI (show oneS rt b q = _ by unfold oneS; rw [if_neg (by omega), if_neg (by omega)]))
    have hr : cW vs rt b q r = -(r (b + q.2.2.1)) := by unfold cW; rw [if_neg (by omega), if_neg (by omega), if_neg (by omega), if_pos h0]
    have hl : wO I s dd r p = -(r (b + q.2.2.1)) := by unfold wO; rw [e5, if_neg (by decide), if_neg (by decide), if_neg (by decide), if_neg (by decide), if_neg (by decide), if_neg (by decide), if_pos rfl, e6, nI_clamp (by omega)]
    exact hl.trans hr.symm
  · have e5 : I 5 p = nI 6 := h5.trans (congrArg (fun z => nI (kdS z)) h0)
    have e6 : I 6 p = nI (b + q.2.2.1) := h6.trans (congrArg nI (show oneS rt b q = _ by unfold oneS; rw [if_neg (by omega), if_neg (by omega)]))
    have e7 : I 7 p = nI (q.2.1) := h7.trans (congrArg nI (show othS b q = _ by unfold othS; rw [if_pos h0]))
    have hr : cW vs rt b q r = pw (r (b + q.2.2.1)) q.2.1 := by unfold cW; rw [if_neg (by omega), if_neg (by omega), if_neg (by omega), if_neg (by omega), if_pos h0]
    have hl : wO I s dd r p = pw (r (b + q.2.2.1)) q.2.1 := by unfold wO; rw [e5, if_neg (by decide), if_neg (by decide), if_neg (by decide), if_neg (by decide), if_neg (by decide), if_pos rfl, e6, e7, nI_clamp (by omega), nI_clamp (by omega)]
    exact hl.trans hr.symm
  · rcases h0 with h0 | h0 | h0
    · have e5 : I 5 p = nI 5 := h5.trans (congrArg (fun z => nI (kdS z)) h0)
      have e6 : I 6 p = nI (b + q.2.2.1) := h6.trans (congrArg nI (show oneS rt b q = _ by unfold oneS; rw [if_neg (by omega), if_neg (by omega)]))
      have e7 : I 7 p = nI (b + q.2.2.2) := h7.trans (congrArg nI (show othS b q = _ by unfold othS; rw [if_neg (by omega), if_pos (by omega)]))
      have hr : cW vs rt b q r = r (b + q.2.2.1) * r (b + q.2.2.2) := by unfold cW; rw [if_neg (by omega), if_neg (by omega), if_neg (by omega), if_neg (by omega), if_neg (by omega), if_pos h0]
      have hl : wO I s dd r p = r (b + q.2.2.1) * r (b + q.2.2.2) := by unfold wO; rw [e5, if_neg (by decide), if_neg (by decide), if_neg (by decide), if_neg (by decide), if_pos rfl, e6, e7, nI_clamp (by omega), nI_clamp (by omega)]
      exact hl.trans hr.symm
    · have e5 : I 5 p = nI 3 := h5.trans (congrArg (fun z => nI (kdS z)) h0)
      have e6 : I 6 p = nI (b + q.2.2.1) := h6.trans (congrArg nI (show oneS rt b q = _ by unfold oneS; rw [if_neg (by omega), if_neg (by omega)]))
      have e7 : I 7 p = nI (b + q.2.2.2) := h7.trans (congrArg nI (show othS b q = _ by unfold othS; rw [if_neg (by omega), if_pos (by omega)]))
      have hr : cW vs rt b q r = r (b + q.2.2.1) + r (b + q.2.2.2) := by unfold cW; rw [if_neg (by omega), if_neg (by omega), if_neg (by omega), if_neg (by omega), if_neg (by omega), if_neg (by omega), if_pos h0]
      have hl : wO I s dd r p = r (b + q.2.2.1) + r (b + q.2.2.2) := by unfold wO; rw [e5, if_neg (by decide), if_neg (by decide), if_pos rfl, e6, e7, nI_clamp (by omega), nI_clamp (by omega)]
      exact hl.trans hr.symm
    · have e5 : I 5 p = nI 4 := h5.trans (congrArg (fun z => nI (kdS z)) h0)
      have e6 : I 6 p = nI (b + q.2.2.1) := h6.trans (congrArg nI (show oneS rt b q = _ by unfold oneS; rw [if_neg (by omega), if_neg (by omega)]))
      have e7 : I 7 p = nI (b + q.2.2.2) := h7.trans (congrArg nI (show othS b q = _ by unfold othS; rw [if_neg (by omega), if_pos (by omega)]))
      have hr : cW vs rt b q r = r (b + q.2.2.1) - r (b + q.2.2.2) := by unfold cW; rw [if_neg (by omega), if_neg (by omega), if_neg (by omega), if_neg (by omega), if_neg (by omega), if_neg (by omega), if_neg (by omega)]
      have hl : wO I s dd r p = r (b + q.2.2.1) - r (b + q.2.2.2) := by unfold wO; rw [e5, if_neg (by decide), if_neg (by decide), if_neg (by decide), if_pos rfl, e6, e7, nI_clamp (by omega), nI_clamp (by omega)]
      exact hl.trans hr.symm
theorem sO_q {I : MI} {s : Nat} {w r : Nat → Int64} (hs : s < 6) {p b g e : Nat} {rt : Nat → Nat} {q : Q4} (hok : NDok q g e) (h5 : I 5 p = nI (kdS q.1)) (h6 : I 6 p = nI (oneS rt b q)) (h7 : I 7 p = nI (othS b q)) (hrt : q.1 = 2 → rt q.2.1 < 80) (hb : b + e < 80) : sO I (nI s) w r p = cS rt b s q w r := by
  rcases hok with h0 | ⟨h0, hx⟩ | ⟨h0, hx⟩ | ⟨h0, hx⟩ | ⟨h0, hn, hx⟩ | ⟨h0, hx, hy⟩
  · have e5 : I 5 p = nI 0 := h5.trans (congrArg (fun z => nI (kdS z)) h0)
    have e6 : I 6 p = nI (q.2.1) := h6.trans (congrArg nI (show oneS rt b q = _ by unfold oneS; rw [if_pos (by omega)]))
    have hr : cS rt b s q w r = 0 := by unfold cS; rw [if_pos h0]
    have hl : sO I (nI s) w r p = 0 := by unfold sO; rw [e5, if_pos rfl]
    exact hl.trans hr.symm
  · have e5 : I 5 p = nI 1 := h5.trans (congrArg (fun z => nI (kdS z)) h0)
    have e6 : I 6 p = nI (q.2.1) := h6.trans (congrArg nI (show oneS rt b q = _ by unfold oneS; rw [if_pos (by omega)]))
    have hr : cS rt b s q w r = (if q.2.1 = s then 1 else 0) := by unfold cS; rw [if_neg (by omega), if_pos h0]
    have hl : sO I (nI s) w r p = (if nI q.2.1 = nI s then 1 else 0) := by unfold sO; rw [e5, if_neg (by decide), if_pos rfl, e6]
    refine hl.trans (Eq.trans ?_ hr.symm)
    by_cases hz : q.2.1 = s
    · rw [if_pos hz, if_pos (congrArg nI hz)]
    · rw [if_neg hz, if_neg (fun z => hz ((nI_eq (by omega) (by omega)).mp z))]
  · have e5 : I 5 p = nI 2 := h5.trans (congrArg (fun z => nI (kdS z)) h0)
    have e6 : I 6 p = nI (rt q.2.1) := h6.trans (congrArg nI (show oneS rt b q = _ by unfold oneS; rw [if_neg (by omega), if_pos h0]))
    have hr8 := hrt h0
    have hr : cS rt b s q w r = r (rt q.2.1) := by unfold cS; rw [if_neg (by omega), if_neg (by omega), if_pos h0]
    have hl : sO I (nI s) w r p = r (rt q.2.1) := by unfold sO; rw [e5, if_neg (by decide), if_neg (by decide), if_neg (by decide), if_neg (by decide), if_neg (by decide), if_neg (by decide), if_neg (by decide), e6, nI_clamp (by omega)]
    exact hl.trans hr.symm
  · have e5 : I 5 p = nI 7 := h5.trans (congrArg (fun z => nI (kdS z)) h0)
    have e6 : I 6 p = nI (b + q.2.2.1) := h6.trans (congrArg nI (show oneS rt b q = _ by unfold oneS; rw [if_neg (by omega), if_neg (by omega)]))
    have hr : cS rt b s q w r = -(r (b + q.2.2.1)) := by unfold cS; rw [if_neg (by omega), if_neg (by omega), if_neg (by omega), if_pos h0]
    have hl : sO I (nI s) w r p = -(r (b + q.2.2.1)) := by unfold sO; rw [e5, if_neg (by decide), if_neg (by decide), if_neg (by decide), if_neg (by decide), if_neg (by decide), if_neg (by decide), if_pos rfl, e6, nI_clamp (by omega)]
    exact hl.trans hr.symm
  · have e5 : I 5 p = nI 6 := h5.trans (congrArg (fun z => nI (kdS z)) h0)
    have e6 : I 6 p = nI (b + q.2.2.1) := h6.trans (congrArg nI (show oneS rt b q = _ by unfold oneS; rw [if_neg (by omega), if_neg (by omega)]))
    have e7 : I 7 p = nI (q.2.1) := h7.trans (congrArg nI (show othS b q = _ by unfold othS; rw [if_pos h0]))
    have hr : cS rt b s q w r = (nI q.2.1).toInt64 * pw (w (b + q.2.2.1)) (q.2.1 - 1) * r (b + q.2.2.1) := by unfold cS; rw [if_neg (by omega), if_neg (by omega), if_neg (by omega), if_neg (by omega), if_pos h0]
    have hl : sO I (nI s) w r p = (nI q.2.1).toInt64 * pw (w (b + q.2.2.1)) (q.2.1 - 1) * r (b + q.2.2.1) := by unfold sO; rw [e5, if_neg (by decide), if_neg (by decide), if_neg (by decide), if_neg (by decide), if_neg (by decide), if_pos rfl, e6, e7, nI_clamp (by omega), nI_clamp (by omega)]
    exact hl.trans hr.symm
  · rcases h0 with h0 | h0 | h0
    · have e5 : I 5 p = nI 5 := h5.trans (congrArg (fun z => nI (kdS z)) h0)
      have e6 : I 6 p = nI (b + q.2.2.1) := h6.trans (congrArg nI (show oneS rt b q = _ by unfold oneS; rw [if_neg (by omega), if_neg (by omega)]))
      have e7 : I 7 p = nI (b + q.2.2.2) := h7.trans (congrArg nI (show othS b q = _ by unfold othS; rw [if_neg (by omega), if_pos (by omega)]))
      have hr : cS rt b s q w r = r (b + q.2.2.1) * w (b + q.2.2.2) + w (b + q.2.2.1) * r (b + q.2.2.2) := by unfold cS; rw [if_neg (by omega), if_neg (by omega), if_neg (by omega), if_neg (by omega), if_neg (by omega), if_pos h0]
      have hl : sO I (nI s) w r p = r (b + q.2.2.1) * w (b + q.2.2.2) + w (b + q.2.2.1) * r (b + q.2.2.2) := by unfold sO; rw [e5, if_neg (by decide), if_neg (by decide), if_neg (by decide), if_neg (by decide), if_pos rfl, e6, e7, nI_clamp (by omega), nI_clamp (by omega)]
      exact hl.trans hr.symm
    · have e5 : I 5 p = nI 3 := h5.trans (congrArg (fun z => nI (kdS z)) h0)
      have e6 : I 6 p = nI (b + q.2.2.1) := h6.trans (congrArg nI (show oneS rt b q = _ by unfold oneS; rw [if_neg (by omega), if_neg (by omega)]))
      have e7 : I 7 p = nI (b + q.2.2.2) := h7.trans (congrArg nI (show othS b q = _ by unfold othS; rw [if_neg (by omega), if_pos (by omega)]))
      have hr : cS rt b s q w r = r (b + q.2.2.1) + r (b + q.2.2.2) := by unfold cS; rw [if_neg (by omega), if_neg (by omega), if_neg (by omega), if_neg (by omega), if_neg (by omega), if_neg (by omega), if_pos h0]
      have hl : sO I (nI s) w r p = r (b + q.2.2.1) + r (b + q.2.2.2) := by unfold sO; rw [e5, if_neg (by decide), if_neg (by decide), if_pos rfl, e6, e7, nI_clamp (by omega), nI_clamp (by omega)]
      exact hl.trans hr.symm
    · have e5 : I 5 p = nI 4 := h5.trans (congrArg (fun z => nI (kdS z)) h0)
      have e6 : I 6 p = nI (b + q.2.2.1) := h6.trans (congrArg nI (show oneS rt b q = _ by unfold oneS; rw [if_neg (by omega), if_neg (by omega)]))
      have e7 : I 7 p = nI (b + q.2.2.2) := h7.trans (congrArg nI (show othS b q = _ by unfold othS; rw [if_neg (by omega), if_pos (by omega)]))
      have hr : cS rt b s q w r = r (b + q.2.2.1) - r (b + q.2.2.2) := by unfold cS; rw [if_neg (by omega), if_neg (by omega), if_neg (by omega), if_neg (by omega), if_neg (by omega), if_neg (by omega), if_neg (by omega)]
      have hl : sO I (nI s) w r p = r (b + q.2.2.1) - r (b + q.2.2.2) := by unfold sO; rw [e5, if_neg (by decide), if_neg (by decide), if_neg (by decide), if_pos rfl, e6, e7, nI_clamp (by omega), nI_clamp (by omega)]
      exact hl.trans hr.symm
theorem bO_q {I : MI} {w x y r : Nat → Int64} {p b g e : Nat} {rt : Nat → Nat} {q : Q4} (hok : NDok q g e) (h5 : I 5 p = nI (kdS q.1)) (h6 : I 6 p = nI (oneS rt b q)) (h7 : I 7 p = nI (othS b q)) (hrt : q.1 = 2 → rt q.2.1 < 80) (hb : b + e < 80) : bO I w x y r p = cB rt b q w x y r := by
  rcases hok with h0 | ⟨h0, hx⟩ | ⟨h0, hx⟩ | ⟨h0, hx⟩ | ⟨h0, hn, hx⟩ | ⟨h0, hx, hy⟩
  · have e5 : I 5 p = nI 0 := h5.trans (congrArg (fun z => nI (kdS z)) h0)
    have e6 : I 6 p = nI (q.2.1) := h6.trans (congrArg nI (show oneS rt b q = _ by unfold oneS; rw [if_pos (by omega)]))
    have hr : cB rt b q w x y r = 0 := by unfold cB; rw [if_pos h0]
    have hl : bO I w x y r p = 0 := by unfold bO; rw [e5, if_pos rfl]
    exact hl.trans hr.symm
  · have e5 : I 5 p = nI 1 := h5.trans (congrArg (fun z => nI (kdS z)) h0)
    have e6 : I 6 p = nI (q.2.1) := h6.trans (congrArg nI (show oneS rt b q = _ by unfold oneS; rw [if_pos (by omega)]))
    have hr : cB rt b q w x y r = 0 := by unfold cB; rw [if_neg (by omega), if_pos h0]
    have hl : bO I w x y r p = 0 := by unfold bO; rw [e5, if_neg (by decide), if_pos rfl]
    exact hl.trans hr.symm
  · have e5 : I 5 p = nI 2 := h5.trans (congrArg (fun z => nI (kdS z)) h0)
    have e6 : I 6 p = nI (rt q.2.1) := h6.trans (congrArg nI (show oneS rt b q = _ by unfold oneS; rw [if_neg (by omega), if_pos h0]))
    have hr8 := hrt h0
    have hr : cB rt b q w x y r = r (rt q.2.1) := by unfold cB; rw [if_neg (by omega), if_neg (by omega), if_pos h0]
    have hl : bO I w x y r p = r (rt q.2.1) := by unfold bO; rw [e5, if_neg (by decide), if_neg (by decide), if_neg (by decide), if_neg (by decide), if_neg (by decide), if_neg (by decide), if_neg (by decide), e6, nI_clamp (by omega)]
    exact hl.trans hr.symm
  · have e5 : I 5 p = nI 7 := h5.trans (congrArg (fun z => nI (kdS z)) h0)
    have e6 : I 6 p = nI (b + q.2.2.1) := h6.trans (congrArg nI (show oneS rt b q = _ by unfold oneS; rw [if_neg (by omega), if_neg (by omega)]))
    have hr : cB rt b q w x y r = -(r (b + q.2.2.1)) := by unfold cB; rw [if_neg (by omega), if_neg (by omega), if_neg (by omega), if_pos h0]
    have hl : bO I w x y r p = -(r (b + q.2.2.1)) := by unfold bO; rw [e5, if_neg (by decide), if_neg (by decide), if_neg (by decide), if_neg (by decide), if_neg (by decide), if_neg (by decide), if_pos rfl, e6, nI_clamp (by omega)]
    exact hl.trans hr.symm
  · have e5 : I 5 p = nI 6 := h5.trans (congrArg (fun z => nI (kdS z)) h0)
    have e6 : I 6 p = nI (b + q.2.2.1) := h6.trans (congrArg nI (show oneS rt b q = _ by unfold oneS; rw [if_neg (by omega), if_neg (by omega)]))
    have e7 : I 7 p = nI (q.2.1) := h7.trans (congrArg nI (show othS b q = _ by unfold othS; rw [if_pos h0]))
    have hr : cB rt b q w x y r = (nI q.2.1).toInt64 * pw (w (b + q.2.2.1)) (q.2.1 - 1) * r (b + q.2.2.1) + (nI q.2.1 * (nI q.2.1 - 1)).toInt64 * pw (w (b + q.2.2.1)) (q.2.1 - 2) * x (b + q.2.2.1) * y (b + q.2.2.1) := by unfold cB; rw [if_neg (by omega), if_neg (by omega), if_neg (by omega), if_neg (by omega), if_pos h0]
    have hl : bO I w x y r p = (nI q.2.1).toInt64 * pw (w (b + q.2.2.1)) (q.2.1 - 1) * r (b + q.2.2.1) + (nI q.2.1 * (nI q.2.1 - 1)).toInt64 * pw (w (b + q.2.2.1)) (q.2.1 - 2) * x (b + q.2.2.1) * y (b + q.2.2.1) := by unfold bO; rw [e5, if_neg (by decide), if_neg (by decide), if_neg (by decide), if_neg (by decide), if_neg (by decide), if_pos rfl, e6, e7, nI_clamp (by omega), nI_clamp (by omega)]
    exact hl.trans hr.symm
  · rcases h0 with h0 | h0 | h0
    · have e5 : I 5 p = nI 5 := h5.trans (congrArg (fun z => nI (kdS z)) h0)
      have e6 : I 6 p = nI (b + q.2.2.1) := h6.trans (congrArg nI (show oneS rt b q = _ by unfold oneS; rw [if_neg (by omega), if_neg (by omega)]))
      have e7 : I 7 p = nI (b + q.2.2.2) := h7.trans (congrArg nI (show othS b q = _ by unfold othS; rw [if_neg (by omega), if_pos (by omega)]))
      have hr : cB rt b q w x y r = r (b + q.2.2.1) * w (b + q.2.2.2) + w (b + q.2.2.1) * r (b + q.2.2.2) + x (b + q.2.2.1) * y (b + q.2.2.2) + y (b + q.2.2.1) * x (b + q.2.2.2) := by unfold cB; rw [if_neg (by omega), if_neg (by omega), if_neg (by omega), if_neg (by omega), if_neg (by omega), if_pos h0]
      have hl : bO I w x y r p = r (b + q.2.2.1) * w (b + q.2.2.2) + w (b + q.2.2.1) * r (b + q.2.2.2) + x (b + q.2.2.1) * y (b + q.2.2.2) + y (b + q.2.2.1) * x (b + q.2.2.2) := by unfold bO; rw [e5, if_neg (by decide), if_neg (by decide), if_neg (by decide), if_neg (by decide), if_pos rfl, e6, e7, nI_clamp (by omega), nI_clamp (by omega)]
      exact hl.trans hr.symm
    · have e5 : I 5 p = nI 3 := h5.trans (congrArg (fun z => nI (kdS z)) h0)
      have e6 : I 6 p = nI (b + q.2.2.1) := h6.trans (congrArg nI (show oneS rt b q = _ by unfold oneS; rw [if_neg (by omega), if_neg (by omega)]))
      have e7 : I 7 p = nI (b + q.2.2.2) := h7.trans (congrArg nI (show othS b q = _ by unfold othS; rw [if_neg (by omega), if_pos (by omega)]))
      have hr : cB rt b q w x y r = r (b + q.2.2.1) + r (b + q.2.2.2) := by unfold cB; rw [if_neg (by omega), if_neg (by omega), if_neg (by omega), if_neg (by omega), if_neg (by omega), if_neg (by omega), if_pos h0]
      have hl : bO I w x y r p = r (b + q.2.2.1) + r (b + q.2.2.2) := by unfold bO; rw [e5, if_neg (by decide), if_neg (by decide), if_pos rfl, e6, e7, nI_clamp (by omega), nI_clamp (by omega)]
      exact hl.trans hr.symm
    · have e5 : I 5 p = nI 4 := h5.trans (congrArg (fun z => nI (kdS z)) h0)
      have e6 : I 6 p = nI (b + q.2.2.1) := h6.trans (congrArg nI (show oneS rt b q = _ by unfold oneS; rw [if_neg (by omega), if_neg (by omega)]))
      have e7 : I 7 p = nI (b + q.2.2.2) := h7.trans (congrArg nI (show othS b q = _ by unfold othS; rw [if_neg (by omega), if_pos (by omega)]))
      have hr : cB rt b q w x y r = r (b + q.2.2.1) - r (b + q.2.2.2) := by unfold cB; rw [if_neg (by omega), if_neg (by omega), if_neg (by omega), if_neg (by omega), if_neg (by omega), if_neg (by omega), if_neg (by omega)]
      have hl : bO I w x y r p = r (b + q.2.2.1) - r (b + q.2.2.2) := by unfold bO; rw [e5, if_neg (by decide), if_neg (by decide), if_neg (by decide), if_pos rfl, e6, e7, nI_clamp (by omega), nI_clamp (by omega)]
      exact hl.trans hr.symm
theorem cW_loc {vs : Nat → Int32} {r r' : Nat → Int64} {b g e : Nat} {rt : Nat → Nat} {q : Q4} (hok : NDok q g e) (hrt : q.1 = 2 → rt q.2.1 < b) (h : ∀ j, j < b + e → r j = r' j) : cW vs rt b q r = cW vs rt b q r' := by
  rcases hok with h0 | ⟨h0, hx⟩ | ⟨h0, hx⟩ | ⟨h0, hx⟩ | ⟨h0, hn, hx⟩ | ⟨h0, hx, hy⟩
  · have hr : cW vs rt b q r = (nI q.2.1).toInt64 := by unfold cW; rw [if_pos h0]
    have hr2 : cW vs rt b q r' = (nI q.2.1).toInt64 := by unfold cW; rw [if_pos h0]
    rw [hr, hr2]
  · have hr : cW vs rt b q r = (vs q.2.1).toInt64 := by unfold cW; rw [if_neg (by omega), if_pos h0]
    have hr2 : cW vs rt b q r' = (vs q.2.1).toInt64 := by unfold cW; rw [if_neg (by omega), if_pos h0]
    rw [hr, hr2]
  · have hr : cW vs rt b q r = r (rt q.2.1) := by unfold cW; rw [if_neg (by omega), if_neg (by omega), if_pos h0]
    have hr2 : cW vs rt b q r' = r' (rt q.2.1) := by unfold cW; rw [if_neg (by omega), if_neg (by omega), if_pos h0]
    rw [hr, hr2, h _ (show rt q.2.1 < b + e by have := hrt h0; omega)]
  · have hr : cW vs rt b q r = -(r (b + q.2.2.1)) := by unfold cW; rw [if_neg (by omega), if_neg (by omega), if_neg (by omega), if_pos h0]
    have hr2 : cW vs rt b q r' = -(r' (b + q.2.2.1)) := by unfold cW; rw [if_neg (by omega), if_neg (by omega), if_neg (by omega), if_pos h0]
    rw [hr, hr2, h (b + q.2.2.1) (by omega)]
  · have hr : cW vs rt b q r = pw (r (b + q.2.2.1)) q.2.1 := by unfold cW; rw [if_neg (by omega), if_neg (by omega), if_neg (by omega), if_neg (by omega), if_pos h0]
    have hr2 : cW vs rt b q r' = pw (r' (b + q.2.2.1)) q.2.1 := by unfold cW; rw [if_neg (by omega), if_neg (by omega), if_neg (by omega), if_neg (by omega), if_pos h0]
    rw [hr, hr2, h (b + q.2.2.1) (by omega)]
  · rcases h0 with h0 | h0 | h0
    · have hr : cW vs rt b q r = r (b + q.2.2.1) * r (b + q.2.2.2) := by unfold cW; rw [if_neg (by omega), if_neg (by omega), if_neg (by omega), if_neg (by omega), if_neg (by omega), if_pos h0]
      have hr2 : cW vs rt b q r' = r' (b + q.2.2.1) * r' (b + q.2.2.2) := by unfold cW; rw [if_neg (by omega), if_neg (by omega), if_neg (by omega), if_neg (by omega), if_neg (by omega), if_pos h0]
      rw [hr, hr2, h (b + q.2.2.1) (by omega), h (b + q.2.2.2) (by omega)]
    · have hr : cW vs rt b q r = r (b + q.2.2.1) + r (b + q.2.2.2) := by unfold cW; rw [if_neg (by omega), if_neg (by omega), if_neg (by omega), if_neg (by omega), if_neg (by omega), if_neg (by omega), if_pos h0]
      have hr2 : cW vs rt b q r' = r' (b + q.2.2.1) + r' (b + q.2.2.2) := by unfold cW; rw [if_neg (by omega), if_neg (by omega), if_neg (by omega), if_neg (by omega), if_neg (by omega), if_neg (by omega), if_pos h0]
      rw [hr, hr2, h (b + q.2.2.1) (by omega), h (b + q.2.2.2) (by omega)]
    · have hr : cW vs rt b q r = r (b + q.2.2.1) - r (b + q.2.2.2) := by unfold cW; rw [if_neg (by omega), if_neg (by omega), if_neg (by omega), if_neg (by omega), if_neg (by omega), if_neg (by omega), if_neg (by omega)]
      have hr2 : cW vs rt b q r' = r' (b + q.2.2.1) - r' (b + q.2.2.2) := by unfold cW; rw [if_neg (by omega), if_neg (by omega), if_neg (by omega), if_neg (by omega), if_neg (by omega), if_neg (by omega), if_neg (by omega)]
      rw [hr, hr2, h (b + q.2.2.1) (by omega), h (b + q.2.2.2) (by omega)]
theorem cS_loc {s : Nat} {w r r' : Nat → Int64} {b g e : Nat} {rt : Nat → Nat} {q : Q4} (hok : NDok q g e) (hrt : q.1 = 2 → rt q.2.1 < b) (h : ∀ j, j < b + e → r j = r' j) : cS rt b s q w r = cS rt b s q w r' := by
  rcases hok with h0 | ⟨h0, hx⟩ | ⟨h0, hx⟩ | ⟨h0, hx⟩ | ⟨h0, hn, hx⟩ | ⟨h0, hx, hy⟩
  · have hr : cS rt b s q w r = 0 := by unfold cS; rw [if_pos h0]
    have hr2 : cS rt b s q w r' = 0 := by unfold cS; rw [if_pos h0]
    rw [hr, hr2]
  · have hr : cS rt b s q w r = (if q.2.1 = s then 1 else 0) := by unfold cS; rw [if_neg (by omega), if_pos h0]
    have hr2 : cS rt b s q w r' = (if q.2.1 = s then 1 else 0) := by unfold cS; rw [if_neg (by omega), if_pos h0]
    rw [hr, hr2]
  · have hr : cS rt b s q w r = r (rt q.2.1) := by unfold cS; rw [if_neg (by omega), if_neg (by omega), if_pos h0]
    have hr2 : cS rt b s q w r' = r' (rt q.2.1) := by unfold cS; rw [if_neg (by omega), if_neg (by omega), if_pos h0]
    rw [hr, hr2, h _ (show rt q.2.1 < b + e by have := hrt h0; omega)]
  · have hr : cS rt b s q w r = -(r (b + q.2.2.1)) := by unfold cS; rw [if_neg (by omega), if_neg (by omega), if_neg (by omega), if_pos h0]
    have hr2 : cS rt b s q w r' = -(r' (b + q.2.2.1)) := by unfold cS; rw [if_neg (by omega), if_neg (by omega), if_neg (by omega), if_pos h0]
    rw [hr, hr2, h (b + q.2.2.1) (by omega)]
  · have hr : cS rt b s q w r = (nI q.2.1).toInt64 * pw (w (b + q.2.2.1)) (q.2.1 - 1) * r (b + q.2.2.1) := by unfold cS; rw [if_neg (by omega), if_neg (by omega), if_neg (by omega), if_neg (by omega), if_pos h0]
    have hr2 : cS rt b s q w r' = (nI q.2.1).toInt64 * pw (w (b + q.2.2.1)) (q.2.1 - 1) * r' (b + q.2.2.1) := by unfold cS; rw [if_neg (by omega), if_neg (by omega), if_neg (by omega), if_neg (by omega), if_pos h0]
    rw [hr, hr2, h (b + q.2.2.1) (by omega)]
  · rcases h0 with h0 | h0 | h0
    · have hr : cS rt b s q w r = r (b + q.2.2.1) * w (b + q.2.2.2) + w (b + q.2.2.1) * r (b + q.2.2.2) := by unfold cS; rw [if_neg (by omega), if_neg (by omega), if_neg (by omega), if_neg (by omega), if_neg (by omega), if_pos h0]
      have hr2 : cS rt b s q w r' = r' (b + q.2.2.1) * w (b + q.2.2.2) + w (b + q.2.2.1) * r' (b + q.2.2.2) := by unfold cS; rw [if_neg (by omega), if_neg (by omega), if_neg (by omega), if_neg (by omega), if_neg (by omega), if_pos h0]
      rw [hr, hr2, h (b + q.2.2.1) (by omega), h (b + q.2.2.2) (by omega)]
    · have hr : cS rt b s q w r = r (b + q.2.2.1) + r (b + q.2.2.2) := by unfold cS; rw [if_neg (by omega), if_neg (by omega), if_neg (by omega), if_neg (by omega), if_neg (by omega), if_neg (by omega), if_pos h0]
      have hr2 : cS rt b s q w r' = r' (b + q.2.2.1) + r' (b + q.2.2.2) := by unfold cS; rw [if_neg (by omega), if_neg (by omega), if_neg (by omega), if_neg (by omega), if_neg (by omega), if_neg (by omega), if_pos h0]
      rw [hr, hr2, h (b + q.2.2.1) (by omega), h (b + q.2.2.2) (by omega)]
    · have hr : cS rt b s q w r = r (b + q.2.2.1) - r (b + q.2.2.2) := by unfold cS; rw [if_neg (by omega), if_neg (by omega), if_neg (by omega), if_neg (by omega), if_neg (by omega), if_neg (by omega), if_neg (by omega)]
      have hr2 : cS rt b s q w r' = r' (b + q.2.2.1) - r' (b + q.2.2.2) := by unfold cS; rw [if_neg (by omega), if_neg (by omega), if_neg (by omega), if_neg (by omega), if_neg (by omega), if_neg (by omega), if_neg (by omega)]
      rw [hr, hr2, h (b + q.2.2.1) (by omega), h (b + q.2.2.2) (by omega)]
theorem cB_loc {w x y r r' : Nat → Int64} {b g e : Nat} {rt : Nat → Nat} {q : Q4} (hok : NDok q g e) (hrt : q.1 = 2 → rt q.2.1 < b) (h : ∀ j, j < b + e → r j = r' j) : cB rt b q w x y r = cB rt b q w x y r' := by
  rcases hok with h0 | ⟨h0, hx⟩ | ⟨h0, hx⟩ | ⟨h0, hx⟩ | ⟨h0, hn, hx⟩ | ⟨h0, hx, hy⟩
  · have hr : cB rt b q w x y r = 0 := by unfold cB; rw [if_pos h0]
    have hr2 : cB rt b q w x y r' = 0 := by unfold cB; rw [if_pos h0]
    rw [hr, hr2]
  · have hr : cB rt b q w x y r = 0 := by unfold cB; rw [if_neg (by omega), if_pos h0]
    have hr2 : cB rt b q w x y r' = 0 := by unfold cB; rw [if_neg (by omega), if_pos h0]
    rw [hr, hr2]
  · have hr : cB rt b q w x y r = r (rt q.2.1) := by unfold cB; rw [if_neg (by omega), if_neg (by omega), if_pos h0]
    have hr2 : cB rt b q w x y r' = r' (rt q.2.1) := by unfold cB; rw [if_neg (by omega), if_neg (by omega), if_pos h0]
    rw [hr, hr2, h _ (show rt q.2.1 < b + e by have := hrt h0; omega)]
  · have hr : cB rt b q w x y r = -(r (b + q.2.2.1)) := by unfold cB; rw [if_neg (by omega), if_neg (by omega), if_neg (by omega), if_pos h0]
    have hr2 : cB rt b q w x y r' = -(r' (b + q.2.2.1)) := by unfold cB; rw [if_neg (by omega), if_neg (by omega), if_neg (by omega), if_pos h0]
    rw [hr, hr2, h (b + q.2.2.1) (by omega)]
  · have hr : cB rt b q w x y r = (nI q.2.1).toInt64 * pw (w (b + q.2.2.1)) (q.2.1 - 1) * r (b + q.2.2.1) + (nI q.2.1 * (nI q.2.1 - 1)).toInt64 * pw (w (b + q.2.2.1)) (q.2.1 - 2) * x (b + q.2.2.1) * y (b + q.2.2.1) := by unfold cB; rw [if_neg (by omega), if_neg (by omega), if_neg (by omega), if_neg (by omega), if_pos h0]
    have hr2 : cB rt b q w x y r' = (nI q.2.1).toInt64 * pw (w (b + q.2.2.1)) (q.2.1 - 1) * r' (b + q.2.2.1) + (nI q.2.1 * (nI q.2.1 - 1)).toInt64 * pw (w (b + q.2.2.1)) (q.2.1 - 2) * x (b + q.2.2.1) * y (b + q.2.2.1) := by unfold cB; rw [if_neg (by omega), if_neg (by omega), if_neg (by omega), if_neg (by omega), if_pos h0]
    rw [hr, hr2, h (b + q.2.2.1) (by omega)]
  · rcases h0 with h0 | h0 | h0
    · have hr : cB rt b q w x y r = r (b + q.2.2.1) * w (b + q.2.2.2) + w (b + q.2.2.1) * r (b + q.2.2.2) + x (b + q.2.2.1) * y (b + q.2.2.2) + y (b + q.2.2.1) * x (b + q.2.2.2) := by unfold cB; rw [if_neg (by omega), if_neg (by omega), if_neg (by omega), if_neg (by omega), if_neg (by omega), if_pos h0]
      have hr2 : cB rt b q w x y r' = r' (b + q.2.2.1) * w (b + q.2.2.2) + w (b + q.2.2.1) * r' (b + q.2.2.2) + x (b + q.2.2.1) * y (b + q.2.2.2) + y (b + q.2.2.1) * x (b + q.2.2.2) := by unfold cB; rw [if_neg (by omega), if_neg (by omega), if_neg (by omega), if_neg (by omega), if_neg (by omega), if_pos h0]
      rw [hr, hr2, h (b + q.2.2.1) (by omega), h (b + q.2.2.2) (by omega)]
    · have hr : cB rt b q w x y r = r (b + q.2.2.1) + r (b + q.2.2.2) := by unfold cB; rw [if_neg (by omega), if_neg (by omega), if_neg (by omega), if_neg (by omega), if_neg (by omega), if_neg (by omega), if_pos h0]
      have hr2 : cB rt b q w x y r' = r' (b + q.2.2.1) + r' (b + q.2.2.2) := by unfold cB; rw [if_neg (by omega), if_neg (by omega), if_neg (by omega), if_neg (by omega), if_neg (by omega), if_neg (by omega), if_pos h0]
      rw [hr, hr2, h (b + q.2.2.1) (by omega), h (b + q.2.2.2) (by omega)]
    · have hr : cB rt b q w x y r = r (b + q.2.2.1) - r (b + q.2.2.2) := by unfold cB; rw [if_neg (by omega), if_neg (by omega), if_neg (by omega), if_neg (by omega), if_neg (by omega), if_neg (by omega), if_neg (by omega)]
      have hr2 : cB rt b q w x y r' = r' (b + q.2.2.1) - r' (b + q.2.2.2) := by unfold cB; rw [if_neg (by omega), if_neg (by omega), if_neg (by omega), if_neg (by omega), if_neg (by omega), if_neg (by omega), if_neg (by omega)]
      rw [hr, hr2, h (b + q.2.2.1) (by omega), h (b + q.2.2.2) (by omega)]
