/-! which sources may have moved; a formula's counts -/
theorem gvI {I : MI} {fs : List (List Q4)} (h : RLp I fs) {k : Nat} (hk : k < fs.length) {s dd : Int32} {vs : Nat → Int32} (hv : ∀ j, j < 6 → vs j = I 2 j + (if nI j = s then dd else nI 0)) (L L' : ML) : goL vs (szn fs) (ndn fs) L fs.length 63 (20 * k + szn fs k - 1) = goL vs (szn fs) (ndn fs) L' fs.length 63 (20 * k + szn fs k - 1) := (vW h hk hv (fun _ => 0) L).symm.trans (vW h hk hv (fun _ => 0) L')
theorem exP_off {I : MI} {s dd : Int32} {nn : Nat → Nat} {c : Nat} (hc : c ≠ 28) : ∀ m i L, (exP I s dd nn m i L).2 c = L c
  | 0, _, _ => rfl
  | m + 1, i, L => by
    unfold exP
    by_cases h : tb (wO I s dd) (L 28) (nn i + 1) (nn i) = L 39 i
    · rw [if_pos h]; exact (exP_off hc m (i + 1) _).trans (if_neg hc)
    · rw [if_neg h]; exact if_neg hc
theorem exP_iff {I : MI} {D : Nat → Int32} {fs : List (List Q4)} (h : RLp I fs) (hf : RLf I D) {s : Nat} (hs : s < 6) {dd : Int32} {nn fn : Nat → Nat} {m0 : Nat} (hn : ∀ j, j < m0 → nn j = rtF fs (fn j) ∧ fn j < fs.length) (L0 : ML) : ∀ m i L, i + m = m0 → ((exP I (nI s) dd nn m i L).1 = true ↔ ∀ j, i ≤ j → j < m0 → goL (upd (I 55) s (I 55 s + dd)) (szn fs) (ndn fs) L0 fs.length 63 (20 * fn j + szn fs (fn j) - 1) = L 39 j)
  | 0, i, L, hi => ⟨fun _ j h1 h2 => absurd h2 (by omega), fun _ => rfl⟩
  | m + 1, i, L, hi => by
    obtain ⟨n1, n2⟩ := hn i (by omega)
    have ev := vW h n2 (hf.v1 hs dd) (L 28) L0
    unfold exP
    rw [n1, ev]
    by_cases hc : goL (upd (I 55) s (I 55 s + dd)) (szn fs) (ndn fs) L0 fs.length 63 (20 * fn i + szn fs (fn i) - 1) = L 39 i
    · rw [if_pos hc, exP_iff h hf hs hn L0 m (i + 1) _ (by omega)]
      refine ⟨fun g j h1 h2 => ?_, fun g j h1 h2 => g j (by omega) h2⟩
      by_cases hj : j = i
      · rw [hj]; exact hc
      · exact g j (by omega) h2
    · rw [if_neg hc]
      exact ⟨fun z => absurd z Bool.false_ne_true, fun g => absurd (g i (Nat.le_refl i) (by omega)) hc⟩
theorem exM_off {I : MI} {F : Nat} {sz : Nat → Nat} {nd : Nat → Nat → Q4} {fn : Nat → Nat} {x : Nat} {dd : Int32} {L : ML} {c : Nat} (hc : c < 63) : ∀ m, (exM I F sz nd fn x dd L m).2 c = L c
  | 0 => rfl
  | m + 1 => by
    unfold exM
    by_cases h : (exM I F sz nd fn x dd L m).1 = true
    · rw [if_pos h]; exact (goL_off hc F).trans (exM_off hc m)
    · rw [if_neg h]; exact exM_off hc m
theorem exM_iff {I : MI} {D : Nat → Int32} {fs : List (List Q4)} (h : RLp I fs) (hf : RLf I D) {s : Nat} (hs : s < 6) {dd : Int32} {fn : Nat → Nat} {m0 : Nat} (hn : ∀ j, j < m0 → fn j < fs.length) (L0 L : ML) : ∀ m, m ≤ m0 → ((exM I fs.length (szn fs) (ndn fs) fn s dd L m).1 = true ↔ ∀ j, j < m → goL (upd (I 55) s (I 55 s + dd)) (szn fs) (ndn fs) L0 fs.length 63 (20 * fn j + szn fs (fn j) - 1) = L 60 j)
  | 0, hm => ⟨fun _ j h2 => absurd h2 (by omega), fun _ => rfl⟩
  | m + 1, hm => by
    have ih := exM_iff (dd := dd) h hf hs hn L0 L m (by omega)
    have ev := gvI h (hn m (by omega)) (hf.v1 hs dd) (exM I fs.length (szn fs) (ndn fs) fn s dd L m).2 L0
    have e60 : goL (upd (I 55) s (I 55 s + dd)) (szn fs) (ndn fs) (exM I fs.length (szn fs) (ndn fs) fn s dd L m).2 fs.length 60 m = L 60 m := congrFun ((goL_off (by decide) _).trans (exM_off (by decide) m)) m
    unfold exM
    by_cases hc : (exM I fs.length (szn fs) (ndn fs) fn s dd L m).1 = true
    · rw [if_pos hc]
      dsimp only
      rw [ev, e60, decide_eq_true_iff]
      refine ⟨fun g j h2 => ?_, fun g => g m (Nat.lt_succ_self m)⟩
      by_cases hj : j = m
      · rw [hj]; exact g
      · exact ih.mp hc j (by omega)
    · rw [if_neg hc]
      exact ⟨fun z => absurd z hc, fun g => absurd (ih.mpr (fun j hj => g j (by omega))) hc⟩
theorem unP_off {I : MI} {dd : Int32} {nn : Nat → Nat} {m : Nat} {L : ML} {c : Nat} (hc : c ≠ 28) : ∀ s, (unP I dd nn m L s).2 c = L c
  | 0 => rfl
  | s + 1 => (exP_off hc m 0 _).trans (unP_off hc s)
theorem unM_off {I : MI} {F : Nat} {sz : Nat → Nat} {nd : Nat → Nat → Q4} {fn : Nat → Nat} {m : Nat} {dd : Int32} {L : ML} {c : Nat} (hc : c < 63) : ∀ s, (unM I F sz nd fn m dd L s).2 c = L c
  | 0 => rfl
  | s + 1 => (exM_off hc m).trans (unM_off hc s)
theorem un_eq {I : MI} {D : Nat → Int32} {fs : List (List Q4)} (h : RLp I fs) (hf : RLf I D) {dd : Int32} {nn fn : Nat → Nat} {m : Nat} {L L' : ML} (hn : ∀ j, j < m → nn j = rtF fs (fn j) ∧ fn j < fs.length) (hL : ∀ j, j < m → L 39 j = L' 60 j) : ∀ s, s ≤ 6 → (unP I dd nn m L s).1 = (unM I fs.length (szn fs) (ndn fs) fn m dd L' s).1
  | 0, _ => rfl
  | s + 1, hs => by
    have ih := un_eq (dd := dd) h hf hn hL s (by omega)
    have i1 := exP_iff (dd := dd) h hf (show s < 6 by omega) hn L m 0 (unP I dd nn m L s).2 (Nat.zero_add m)
    have i2 := exM_iff (dd := dd) h hf (show s < 6 by omega) (fun j hj => (hn j hj).2) L (unM I fs.length (szn fs) (ndn fs) fn m dd L' s).2 m (Nat.le_refl m)
    have e39 : (unP I dd nn m L s).2 39 = L 39 := unP_off (by decide) s
    have e60 : (unM I fs.length (szn fs) (ndn fs) fn m dd L' s).2 60 = L' 60 := unM_off (by decide) s
    rw [e39] at i1
    rw [e60] at i2
    have ii : (exP I (nI s) dd nn m 0 (unP I dd nn m L s).2).1 = true ↔ (exM I fs.length (szn fs) (ndn fs) fn s dd (unM I fs.length (szn fs) (ndn fs) fn m dd L' s).2 m).1 = true := by
      rw [i1, i2]
      exact ⟨fun g j hj => (g j (Nat.zero_le j) hj).trans (hL j hj), fun g j _ hj => (g j hj).trans (hL j hj).symm⟩
    unfold unP unM
    dsimp only
    by_cases hc : (exP I (nI s) dd nn m 0 (unP I dd nn m L s).2).1 = true
    · rw [if_pos hc, if_pos (ii.mp hc), ih]
    · rw [if_neg hc, if_neg (fun z => hc (ii.mpr z)), ih]
      exact (Int32.or_zero).symm
theorem a_unseen (X : Ctx) (I : MI) (L : ML) (hR : REL I L) (x : Int32) : AGI mX5_unseen mX6_unseen [.int x] X I L := by
  obtain ⟨tx, n, D, fs, m, fn, u, U, r1, r2, r3, r4, r5, r6⟩ := id hR
  have hF := r3.1.1
  have hF8 := r3.2.1
  have hF4 := r3.1.2.1
  by_cases hm : x < -20 ∨ nI 20 < x
  · exact ⟨_, _, _, _, _, p_unseen_f X 59 I L x hm, q_unseen_f X 59 I L x hm, hR.t0 rfl rfl⟩
  · have hsn : ∀ i, i < m → I 38 i = nI (fn i) ∧ fn i < 4 ∧ I 10 (fn i) = nI (rtF fs (fn i) + 1) ∧ rtF fs (fn i) + 1 ≤ 80 ∧ ∀ j, j < rtF fs (fn i) + 1 → NW I j := fun i hi => by
      obtain ⟨w1, w2, w3, w4⟩ := r4.2.2.2 i hi
      exact ⟨w1, by omega, r3.z w3⟩
    exact ⟨_, _, _, _, _, p_unseen X 54 I L x (fun z => hm (Or.inl z)) (fun z => hm (Or.inr z)) m fn (fun i => rtF fs (fn i)) r4.1 r4.2.2.1 hsn, Sp.vi (q_unseen X 56 I _ fs.length (szn fs) (ndn fs) r3.2 fn m r4.2.1 r4.2.2.1 (fun k hk => ⟨(r4.2.2.2 k hk).2.1, (r4.2.2.2 k hk).2.2.1⟩) x (fun z => hm (Or.inl z)) (fun z => hm (Or.inr z))) (un_eq r3 r2 (fun j hj => ⟨rfl, (r4.2.2.2 j hj).2.2.1⟩) (fun j hj => (r4.2.2.2 j hj).2.2.2.trans (congrFun (unP_off (by decide) 6) j).symm) 6 (Nat.le_refl 6)), hR.t0 ((unM_off (by decide) 6).trans (unP_off (by decide) 6)) ((unM_off (by decide) 6).trans (unP_off (by decide) 6))⟩
def xS (sg : Nat → Int32) (l : List Q4) : Nat → Int32
  | 0 => nI 0
  | k + 1 => xS sg l k + (if (l.getD k (0, 0, 0, 0)).1 = 2 then sg (l.getD k (0, 0, 0, 0)).2.1 else nI 0)
theorem nI_s1 (k : Nat) : nI k + nI 1 = nI (k + 1) := (Int32.ofNat_add k 1).symm
theorem wS_x (sg : Nat → Int32) (l : List Q4) : ∀ k, wS sg l 0 k = nI k + xS sg l k
  | 0 => (Int32.add_zero _).symm
  | k + 1 => by
    unfold wS xS
    rw [Nat.zero_add, wS_x sg l k, ← nI_s1 k]
    generalize (if (l.getD k (0, 0, 0, 0)).1 = 2 then sg (l.getD k (0, 0, 0, 0)).2.1 else nI 0) = y
    rw [Int32.add_assoc, Int32.add_assoc, ← Int32.add_assoc (xS sg l k) (nI 1) y, Int32.add_comm (xS sg l k) (nI 1), Int32.add_assoc]
theorem fmI_j {nd : Nat → Nat → Q4} {sz : Nat → Nat} {g j : Nat} {M : MI} (hj : j ≠ g) : ∀ e, fmI nd sz g M e 66 j = M 66 j ∧ fmI nd sz g M e 67 j = M 67 j
  | 0 => by
    show u2 (u2 M 66 g (nI (sz g))) 67 g (nI 0) 66 j = _ ∧ u2 (u2 M 66 g (nI (sz g))) 67 g (nI 0) 67 j = _
    exact ⟨(u2_ne (by omega)).trans (u2_ne (by omega)), (u2_ne (by omega)).trans (u2_ne (by omega))⟩
  | e + 1 => by
    have ih := fmI_j (nd := nd) (sz := sz) (M := M) hj e
    rw [show fmI nd sz g M (e + 1) = fmS (nd g e) g (fmI nd sz g M e) from rfl]
    generalize fmI nd sz g M e = A at ih ⊢
    unfold fmS
    exact ⟨(u2_ne (by omega)).trans ((u2_ne (by omega)).trans ih.1), (u2_ne (by omega)).trans ((u2_ne (by omega)).trans ih.2)⟩
theorem fmI_x {fs : List (List Q4)} {g : Nat} {M : MI} (hok : ∀ e, e < szn fs g → NDok (ndn fs g e) g e) : ∀ e, e ≤ szn fs g → fmI (ndn fs) (szn fs) g M e 66 g = nI (szn fs g) + xS (M 66) (fs.getD g []) e ∧ fmI (ndn fs) (szn fs) g M e 67 g = wN (M 67) (fs.getD g []) 0 e
  | 0, _ => by
    show u2 (u2 M 66 g (nI (szn fs g))) 67 g (nI 0) 66 g = _ ∧ u2 (u2 M 66 g (nI (szn fs g))) 67 g (nI 0) 67 g = _
    exact ⟨((u2_ne (by omega)).trans (u2_at _ _ _ _)).trans (Int32.add_zero _).symm, u2_at _ _ _ _⟩
  | e + 1, he => by
    obtain ⟨i1, i2⟩ := fmI_x (M := M) hok e (by omega)
    have ok := hok e (by omega)
    have eq : (fs.getD g []).getD e (0, 0, 0, 0) = ndn fs g e := rfl
    have jj : (ndn fs g e).1 = 2 → fmI (ndn fs) (szn fs) g M e 66 (ndn fs g e).2.1 = M 66 (ndn fs g e).2.1 ∧ fmI (ndn fs) (szn fs) g M e 67 (ndn fs g e).2.1 = M 67 (ndn fs g e).2.1 := fun h2 => fmI_j (by have := ok.j h2; omega) e
    have j1 : (ndn fs g e).1 = 2 → (ndn fs g e).2.1 ≠ g := fun h2 => by have := ok.j h2; omega
    rw [show fmI (ndn fs) (szn fs) g M (e + 1) = fmS (ndn fs g e) g (fmI (ndn fs) (szn fs) g M e) from rfl, show xS (M 66) (fs.getD g []) (e + 1) = xS (M 66) (fs.getD g []) e + (if (ndn fs g e).1 = 2 then M 66 (ndn fs g e).2.1 else nI 0) from rfl,
      show wN (M 67) (fs.getD g []) 0 (e + 1) = wN (M 67) (fs.getD g []) 0 e ||| (if (ndn fs g e).1 = 2 then M 67 (ndn fs g e).2.1 else if (ndn fs g e).1 = 1 then nI 1 <<< (nI (ndn fs g e).2.1 &&& 31) else nI 0) from by
        show wN (M 67) (fs.getD g []) 0 e ||| _ = _
        rw [Nat.zero_add, eq]]
    generalize fmI (ndn fs) (szn fs) g M e = A at i1 i2 jj ⊢
    unfold fmS
    constructor
    · refine ((u2_ne (by omega)).trans (u2_at _ _ _ _)).trans ?_
      rw [i1, Int32.add_assoc]
      by_cases h2 : (ndn fs g e).1 = 2
      · rw [if_pos h2, if_pos h2, (jj h2).1]
      · rw [if_neg h2, if_neg h2]
    · refine (u2_at _ _ _ _).trans ?_
      rw [i2]
      by_cases h2 : (ndn fs g e).1 = 2
      · rw [if_pos h2, if_pos h2, (jj h2).2]
      · rw [if_neg h2, if_neg h2]
theorem foI_x {I M : MI} {fs : List (List Q4)} (h : TPa I 4 fs) : ∀ k, k ≤ fs.length → ∀ g, g < k → foI (ndn fs) (szn fs) M k 66 g = I 8 (rtF fs g) ∧ foI (ndn fs) (szn fs) M k 67 g = I 9 (rtF fs g)
  | 0, _, g, hg => absurd hg (Nat.not_lt_zero g)
  | k + 1, hk, g, hg => by
    have ih := foI_x (M := M) h k (by omega)
    by_cases hgk : g = k
    · subst hgk
      have f := h.2.2.2 g (by omega)
      have x := fmI_x (fs := fs) (g := g) (M := foI (ndn fs) (szn fs) M g) (fun e he => (h.nf (show g < fs.length by omega) he).2.2.2) (szn fs g) (Nat.le_refl _)
      have sg1 : wS (fun j => I 8 (rtF fs j)) (fs.getD g []) 0 (fs.getD g []).length = wS (foI (ndn fs) (szn fs) M g 66) (fs.getD g []) 0 (fs.getD g []).length := wS_sg (fun e q hq h2 => ((ih q.2.1 ((f.2.2.2.1 e q hq).2.2.2.j h2)).1).symm) _
      have sg2 : wN (fun j => I 9 (rtF fs j)) (fs.getD g []) 0 (fs.getD g []).length = wN (foI (ndn fs) (szn fs) M g 67) (fs.getD g []) 0 (fs.getD g []).length := wN_sg (fun e q hq h2 => ((ih q.2.1 ((f.2.2.2.1 e q hq).2.2.2.j h2)).2).symm) _
      constructor
      · refine x.1.trans ?_
        refine (wS_x _ _ _).symm.trans ?_
        exact sg1.symm.trans f.2.2.2.2.1.symm
      · refine x.2.trans ?_
        exact sg2.symm.trans f.2.2.2.2.2.symm
    · have j := fmI_j (nd := ndn fs) (sz := szn fs) (M := foI (ndn fs) (szn fs) M k) hgk (szn fs k)
      exact ⟨j.1.trans (ih g (by omega)).1, j.2.trans (ih g (by omega)).2⟩
theorem foI_rel {I : MI} {L : ML} {fs : List (List Q4)} {k : Nat} (hR : REL I L) : REL (foI (ndn fs) (szn fs) (u2 I 42 0 (nI 0)) k) L := hR.th (fun c c1 c2 => (foI_off _ _ _ (by omega) (by omega) _).trans (u2_off c2)) (fun j hj => (congrFun (foI_off _ _ _ (by decide) (by decide) _) j).trans (u2_ne (by omega))) rfl rfl
theorem a_formula (X : Ctx) (I : MI) (L : ML) (hR : REL I L) (f : Int32) (w : Int32) : AGI mX5_formula mX6_formula [.int f, .int w] X I L := by
  obtain ⟨tx, n, D, fs, m, fn, u, U, r1, r2, r3, r4, r5, r6⟩ := id hR
  have hF := r3.1.1
  have hF8 := r3.2.1
  have hF4 := r3.1.2.1
  rcases arF hF4 f with ⟨k, hk, rfl⟩ | ⟨h1, h2⟩
  · obtain ⟨hz, hn, hN⟩ := r3.z hk
    rcases arS (N := 2) (by decide) w with ⟨j, hj, rfl⟩ | ⟨-, s2, -, s1⟩
    · rcases (by omega : j = 0 ∨ j = 1 ∨ j = 2) with rfl | rfl | rfl
      · have rr := rt1 r3.1 hk
        cases k with
        | zero => exact ⟨_, _, _, _, _, p_formula_00 X 58 I L fs.length (rtF fs 0) hF hk hF4 hz, Sp.vi (q_formula_0 X 58 I L fs.length (szn fs) (ndn fs) r3.2 0 hk) (congrArg nI (rr.trans (Nat.zero_add _))), foI_rel hR⟩
        | succ k =>
          have z2 := (r3.z (show k < fs.length by omega)).1
          have rr2 := rt1 r3.1 (show k < fs.length by omega)
          have bb := bsF_s fs (k + 1)
          exact ⟨_, _, _, _, _, p_formula_0s X 58 I L fs.length k (rtF fs (k + 1)) (rtF fs k + 1) hF hk hF4 hz z2 (by omega), Sp.vi (q_formula_0 X 58 I L fs.length (szn fs) (ndn fs) r3.2 (k + 1) hk) (congrArg nI (by omega)), foI_rel hR⟩
      · exact ⟨_, _, _, _, _, p_formula_1 X 58 I L fs.length k (rtF fs k) hF hk hF4 hz hn, Sp.vi (q_formula_1 X 58 I L fs.length (szn fs) (ndn fs) r3.2 k hk) (foI_x r3.1 (k + 1) (by omega) k (Nat.lt_succ_self k)).1.symm, foI_rel hR⟩
      · exact ⟨_, _, _, _, _, p_formula_2 X 58 I L fs.length k (rtF fs k) hF hk hF4 hz hn, Sp.vi (q_formula_2 X 58 I L fs.length (szn fs) (ndn fs) r3.2 k hk) (foI_x r3.1 (k + 1) (by omega) k (Nat.lt_succ_self k)).2.symm, foI_rel hR⟩
    · exact ⟨_, _, _, _, _, p_formula_w X 58 I L fs.length k hF hk hF4 w s1, q_formula_w X 58 I L fs.length k hF8 hk hF4 w s2, hR.t0 rfl rfl⟩
  · exact ⟨_, _, _, _, _, p_formula_f X 58 I L fs.length hF f h1 w, q_formula_f X 58 I L fs.length f hF8 h2 w, hR.t0 rfl rfl⟩
