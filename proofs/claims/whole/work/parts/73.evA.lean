/-! both evaluators tell the same -/
def szn (fs : List (List Q4)) (g : Nat) : Nat := (fs.getD g []).length
def ndn (fs : List (List Q4)) (g e : Nat) : Q4 := (fs.getD g []).getD e (0, 0, 0, 0)
theorem ndn_ex {fs : List (List Q4)} {g e : Nat} (h : e < szn fs g) : (fs.getD g [])[e]? = some (ndn fs g e) := by
  unfold ndn
  rw [List.getD_eq_getElem?_getD (l := fs.getD g []), List.getElem?_eq_getElem h]
  rfl
theorem bsF_s (fs : List (List Q4)) (g : Nat) : bsF fs (g + 1) = bsF fs g + szn fs g := rfl
theorem bs_dec {fs : List (List Q4)} : ∀ {m i : Nat}, i < bsF fs m → ∃ g e, g < m ∧ e < szn fs g ∧ i = bsF fs g + e
  | 0, i, h => absurd h (Nat.not_lt_zero i)
  | m + 1, i, h => by
    by_cases hi : i < bsF fs m
    · obtain ⟨g, e, h1, h2, h3⟩ := bs_dec hi
      exact ⟨g, e, by omega, h2, h3⟩
    · rw [bsF_s] at h
      exact ⟨m, i - bsF fs m, Nat.lt_succ_self m, by omega, by omega⟩
theorem TPa.nf {I : MI} {fs : List (List Q4)} (h : TPa I 4 fs) {g e : Nat} (hg : g < fs.length) (he : e < szn fs g) : I 5 (bsF fs g + e) = nI (kdS (ndn fs g e).1) ∧ I 6 (bsF fs g + e) = nI (oneS (rtF fs) (bsF fs g) (ndn fs g e)) ∧ I 7 (bsF fs g + e) = nI (othS (bsF fs g) (ndn fs g e)) ∧ NDok (ndn fs g e) g e := (h.2.2.2 g hg).2.2.2.1 e _ (ndn_ex he)
theorem TPa.sz {I : MI} {a : Nat} {fs : List (List Q4)} (h : TPa I a fs) {g : Nat} (hg : g < fs.length) : 1 ≤ szn fs g ∧ szn fs g ≤ 20 := ⟨(h.2.2.2 g hg).1, (h.2.2.2 g hg).2.1⟩
theorem TPa.top {I : MI} {a : Nat} {fs : List (List Q4)} (h : TPa I a fs) {g m : Nat} (hm : m ≤ fs.length) (hg : g < m) : bsF fs g + szn fs g ≤ bsF fs m ∧ bsF fs m ≤ 80 := by
  have h1 := bsF_mono (fs := fs) (g := g + 1) (h := m) (by omega)
  have h2 := h.b80 (g := m) hm
  have h3 := h.2.1
  rw [bsF_s] at h1
  exact ⟨h1, by omega⟩
theorem TPa.rtb {I : MI} {a : Nat} {fs : List (List Q4)} (h : TPa I a fs) {g j : Nat} (hg : g ≤ fs.length) (hj : j < g) : rtF fs j = bsF fs j + (szn fs j - 1) ∧ rtF fs j < bsF fs g := by
  have h1 := bsF_mono (fs := fs) (g := j + 1) (h := g) (by omega)
  have h2 := h.sz (g := j) (by omega)
  have h3 : rtF fs j = bsF fs (j + 1) - 1 := rfl
  rw [bsF_s] at h1 h3
  omega
theorem NDok.j {q : Q4} {g e : Nat} (h : NDok q g e) (h2 : q.1 = 2) : q.2.1 < g := by
  unfold NDok at h
  omega
theorem fix_W {I : MI} {fs : List (List Q4)} (h : TPa I 4 fs) {s dd : Int32} {vs : Nat → Int32} {r0 : Nat → Int64} (hv : ∀ j, j < 6 → vs j = I 2 j + (if nI j = s then dd else nI 0)) {m g e : Nat} (hm : m ≤ fs.length) (hg : g < m) (he : e < szn fs g) : tb (wO I s dd) r0 (bsF fs m) (bsF fs g + e) = cW vs (rtF fs) (bsF fs g) (ndn fs g e) (tb (wO I s dd) r0 (bsF fs m)) := by
  have key : ∀ g e, g < m → e < szn fs g → ∀ r : Nat → Int64, wO I s dd r (bsF fs g + e) = cW vs (rtF fs) (bsF fs g) (ndn fs g e) r := fun g e hg he r => by
    obtain ⟨n5, n6, n7, ok⟩ := h.nf (show g < fs.length by omega) he
    have t := h.top hm hg
    exact wO_q hv ok n5 n6 n7 (fun z => by have := (h.rtb (show g ≤ fs.length by omega) (ok.j z)).2; omega) (by omega)
  rw [tb_fix (N := bsF fs m) (fun i hi r r' hr => ?_) (by have := h.top hm hg; omega), key g e hg he]
  obtain ⟨g', e', h1, h2, h3⟩ := bs_dec hi
  subst h3
  obtain ⟨-, -, -, ok⟩ := h.nf (show g' < fs.length by omega) h2
  rw [key g' e' h1 h2, key g' e' h1 h2]
  exact cW_loc ok (fun z => (h.rtb (show g' ≤ fs.length by omega) (ok.j z)).2) hr
theorem fix_S {I : MI} {fs : List (List Q4)} (h : TPa I 4 fs) {s : Nat} {w r0 : Nat → Int64} (hs : s < 6) {m g e : Nat} (hm : m ≤ fs.length) (hg : g < m) (he : e < szn fs g) : tb (sO I (nI s) w) r0 (bsF fs m) (bsF fs g + e) = cS (rtF fs) (bsF fs g) s (ndn fs g e) w (tb (sO I (nI s) w) r0 (bsF fs m)) := by
  have key : ∀ g e, g < m → e < szn fs g → ∀ r : Nat → Int64, sO I (nI s) w r (bsF fs g + e) = cS (rtF fs) (bsF fs g) s (ndn fs g e) w r := fun g e hg he r => by
    obtain ⟨n5, n6, n7, ok⟩ := h.nf (show g < fs.length by omega) he
    have t := h.top hm hg
    exact sO_q hs ok n5 n6 n7 (fun z => by have := (h.rtb (show g ≤ fs.length by omega) (ok.j z)).2; omega) (by omega)
  rw [tb_fix (N := bsF fs m) (fun i hi r r' hr => ?_) (by have := h.top hm hg; omega), key g e hg he]
  obtain ⟨g', e', h1, h2, h3⟩ := bs_dec hi
  subst h3
  obtain ⟨-, -, -, ok⟩ := h.nf (show g' < fs.length by omega) h2
  rw [key g' e' h1 h2, key g' e' h1 h2]
  exact cS_loc ok (fun z => (h.rtb (show g' ≤ fs.length by omega) (ok.j z)).2) hr
theorem fix_B {I : MI} {fs : List (List Q4)} (h : TPa I 4 fs) {w x y r0 : Nat → Int64} {m g e : Nat} (hm : m ≤ fs.length) (hg : g < m) (he : e < szn fs g) : tb (bO I w x y) r0 (bsF fs m) (bsF fs g + e) = cB (rtF fs) (bsF fs g) (ndn fs g e) w x y (tb (bO I w x y) r0 (bsF fs m)) := by
  have key : ∀ g e, g < m → e < szn fs g → ∀ r : Nat → Int64, bO I w x y r (bsF fs g + e) = cB (rtF fs) (bsF fs g) (ndn fs g e) w x y r := fun g e hg he r => by
    obtain ⟨n5, n6, n7, ok⟩ := h.nf (show g < fs.length by omega) he
    have t := h.top hm hg
    exact bO_q ok n5 n6 n7 (fun z => by have := (h.rtb (show g ≤ fs.length by omega) (ok.j z)).2; omega) (by omega)
  rw [tb_fix (N := bsF fs m) (fun i hi r r' hr => ?_) (by have := h.top hm hg; omega), key g e hg he]
  obtain ⟨g', e', h1, h2, h3⟩ := bs_dec hi
  subst h3
  obtain ⟨-, -, -, ok⟩ := h.nf (show g' < fs.length by omega) h2
  rw [key g' e' h1 h2, key g' e' h1 h2]
  exact cB_loc ok (fun z => (h.rtb (show g' ≤ fs.length by omega) (ok.j z)).2) hr
theorem lex {P : Nat → Nat → Prop} (h : ∀ g e, (∀ g' e', g' < g → P g' e') → (∀ e', e' < e → P g e') → P g e) : ∀ g e, P g e := by
  intro g
  induction g using Nat.strongRecOn with
  | ind g ihg =>
    intro e
    induction e using Nat.strongRecOn with
    | ind e ihe => exact h g e (fun g' e' hg => ihg g' hg e') ihe
theorem n1_mul (x : Int64) : (-1 : Int64) * x = -x := (Int64.neg_mul 1 x).trans (congrArg (fun y => -y) (Int64.one_mul x))
theorem ev_W {I : MI} {L : ML} {fs : List (List Q4)} (h : TPa I 4 fs) {s dd : Int32} {vs : Nat → Int32} {r0 : Nat → Int64} {m : Nat} (hm : m ≤ fs.length) (hv : ∀ j, j < 6 → vs j = I 2 j + (if nI j = s then dd else nI 0)) : ∀ g e, g < m → e < szn fs g → tb (wO I s dd) r0 (bsF fs m) (bsF fs g + e) = goL vs (szn fs) (ndn fs) L fs.length 63 (20 * g + e) := by
  refine lex (fun g e ih1 ih2 => ?_)
  intro hg he
  obtain ⟨-, -, -, ok⟩ := h.nf (show g < fs.length by omega) he
  have fx := (goL_fix (vs := vs) (sz := szn fs) (nd := ndn fs) (L := L) (F := fs.length) (fun g hg => h.sz hg) (show g < fs.length by omega) he ok).1
  rw [fix_W h hv hm hg he, fx]
  obtain ⟨q, hq⟩ : ∃ q, ndn fs g e = q := ⟨_, rfl⟩
  rw [hq] at ok ⊢
  generalize tb (wO I s dd) r0 (bsF fs m) = cw at ih1 ih2 ⊢
  generalize goL vs (szn fs) (ndn fs) L fs.length = M at ih1 ih2 ⊢
  rcases ok with h0 | ⟨h0, hj⟩ | ⟨h0, hj⟩ | ⟨h0, hj⟩ | ⟨h0, hn, hj⟩ | ⟨h0, hj, hi⟩
  · have hl : cW vs (rtF fs) (bsF fs g) q cw = (nI q.2.1).toInt64 := by unfold cW; rw [if_pos h0]
    rw [hl, ndM_0 h0]
    refine Eq.trans ?_ (ndL_63.trans (if_pos rfl)).symm
    rfl
  · have hl : cW vs (rtF fs) (bsF fs g) q cw = (vs q.2.1).toInt64 := by unfold cW; rw [if_neg (by omega), if_pos h0]
    rw [hl, ndM_1 h0]
    refine Eq.trans ?_ (ndL_63.trans (if_pos rfl)).symm
    rfl
  · have hs2 := h.sz (g := q.2.1) (by omega)
    have hr := (h.rtb (show g ≤ fs.length by omega) hj).1
    have ij := ih1 q.2.1 (szn fs q.2.1 - 1) hj (by omega) (by omega)
    rw [← hr] at ij
    have hl : cW vs (rtF fs) (bsF fs g) q cw = cw (rtF fs q.2.1) := by unfold cW; rw [if_neg (by omega), if_neg (by omega), if_pos h0]
    rw [hl, ndM_2 h0]
    refine Eq.trans ?_ (ndL_63.trans (if_pos rfl)).symm
    rw [ij]
    exact congrArg (fun z => M 63 z) (show 20 * q.2.1 + (szn fs q.2.1 - 1) = 20 * q.2.1 + szn fs q.2.1 - 1 by omega)
  · have ia := ih2 q.2.2.1 hj hg (by omega)
    have hl : cW vs (rtF fs) (bsF fs g) q cw = -(cw (bsF fs g + q.2.2.1)) := by unfold cW; rw [if_neg (by omega), if_neg (by omega), if_neg (by omega), if_pos h0]
    rw [hl, ndM_110 h0]
    refine Eq.trans ?_ (ndL_63.trans (if_pos rfl)).symm
    rw [ia]
  · have ia := ih2 q.2.2.1 hj hg (by omega)
    rcases (by omega : q.2.1 = 0 ∨ q.2.1 = 1 ∨ q.2.1 = 2 ∨ q.2.1 = 3 ∨ q.2.1 = 4) with hk | hk | hk | hk | hk
    · have hl : cW vs (rtF fs) (bsF fs g) q cw = pw (cw (bsF fs g + q.2.2.1)) q.2.1 := by unfold cW; rw [if_neg (by omega), if_neg (by omega), if_neg (by omega), if_neg (by omega), if_pos h0]
      rw [hl, ndM_94_0 h0 hk]
      refine Eq.trans ?_ (ndL_63.trans (if_pos rfl)).symm
      rw [ia, hk]
    · have hl : cW vs (rtF fs) (bsF fs g) q cw = pw (cw (bsF fs g + q.2.2.1)) q.2.1 := by unfold cW; rw [if_neg (by omega), if_neg (by omega), if_neg (by omega), if_neg (by omega), if_pos h0]
      rw [hl, ndM_94_1 h0 hk]
      refine Eq.trans ?_ (ndL_63.trans (if_pos rfl)).symm
      rw [ia, hk]
    · have hl : cW vs (rtF fs) (bsF fs g) q cw = pw (cw (bsF fs g + q.2.2.1)) q.2.1 := by unfold cW; rw [if_neg (by omega), if_neg (by omega), if_neg (by omega), if_neg (by omega), if_pos h0]
      rw [hl, ndM_94_2 h0 hk]
      refine Eq.trans ?_ (ndL_63.trans (if_pos rfl)).symm
      rw [ia, hk]
    · have hl : cW vs (rtF fs) (bsF fs g) q cw = pw (cw (bsF fs g + q.2.2.1)) q.2.1 := by unfold cW; rw [if_neg (by omega), if_neg (by omega), if_neg (by omega), if_neg (by omega), if_pos h0]
      rw [hl, ndM_94_3 h0 hk]
      refine Eq.trans ?_ (ndL_63.trans (if_pos rfl)).symm
      rw [ia, hk]
    · have hl : cW vs (rtF fs) (bsF fs g) q cw = pw (cw (bsF fs g + q.2.2.1)) q.2.1 := by unfold cW; rw [if_neg (by omega), if_neg (by omega), if_neg (by omega), if_neg (by omega), if_pos h0]
      rw [hl, ndM_94_4 h0 hk]
      refine Eq.trans ?_ (ndL_63.trans (if_pos rfl)).symm
      rw [ia, hk]
  · have ia := ih2 q.2.2.1 hj hg (by omega)
    have ic := ih2 q.2.2.2 hi hg (by omega)
    rcases h0 with h0 | h0 | h0
    · have hl : cW vs (rtF fs) (bsF fs g) q cw = cw (bsF fs g + q.2.2.1) * cw (bsF fs g + q.2.2.2) := by unfold cW; rw [if_neg (by omega), if_neg (by omega), if_neg (by omega), if_neg (by omega), if_neg (by omega), if_pos h0]
      rw [hl, ndM_42 h0]
      refine Eq.trans ?_ (ndL_63.trans (if_pos rfl)).symm
      rw [ia, ic]
    · have hl : cW vs (rtF fs) (bsF fs g) q cw = cw (bsF fs g + q.2.2.1) + cw (bsF fs g + q.2.2.2) := by unfold cW; rw [if_neg (by omega), if_neg (by omega), if_neg (by omega), if_neg (by omega), if_neg (by omega), if_neg (by omega), if_pos h0]
      rw [hl, ndM_43 h0]
      refine Eq.trans ?_ (ndL_63.trans (if_pos rfl)).symm
      rw [ia, ic, Int64.one_mul]
    · have hl : cW vs (rtF fs) (bsF fs g) q cw = cw (bsF fs g + q.2.2.1) - cw (bsF fs g + q.2.2.2) := by unfold cW; rw [if_neg (by omega), if_neg (by omega), if_neg (by omega), if_neg (by omega), if_neg (by omega), if_neg (by omega), if_neg (by omega)]
      rw [hl, ndM_45 h0]
      refine Eq.trans ?_ (ndL_63.trans (if_pos rfl)).symm
      rw [ia, ic, n1_mul, Int64.sub_eq_add_neg]
theorem ev_S {I : MI} {L : ML} {fs : List (List Q4)} (h : TPa I 4 fs) {s : Nat} {vs : Nat → Int32} {w r0 : Nat → Int64} {m : Nat} (hm : m ≤ fs.length) (hs : s < 6) (hw : ∀ g e, g < m → e < szn fs g → w (bsF fs g + e) = goL vs (szn fs) (ndn fs) L fs.length 63 (20 * g + e)) : ∀ g e, g < m → e < szn fs g → tb (sO I (nI s) w) r0 (bsF fs m) (bsF fs g + e) = goL vs (szn fs) (ndn fs) L fs.length 64 (6 * (20 * g + e) + s) := by
  refine lex (fun g e ih1 ih2 => ?_)
  intro hg he
  obtain ⟨-, -, -, ok⟩ := h.nf (show g < fs.length by omega) he
  have fx := (goL_fix (vs := vs) (sz := szn fs) (nd := ndn fs) (L := L) (F := fs.length) (fun g hg => h.sz hg) (show g < fs.length by omega) he ok).2.1 s hs
  rw [fix_S h hs hm hg he, fx]
  obtain ⟨q, hq⟩ : ∃ q, ndn fs g e = q := ⟨_, rfl⟩
  rw [hq] at ok ⊢
  generalize tb (sO I (nI s) w) r0 (bsF fs m) = cw at ih1 ih2 ⊢
  generalize goL vs (szn fs) (ndn fs) L fs.length = M at ih1 ih2 hw ⊢
  rcases ok with h0 | ⟨h0, hj⟩ | ⟨h0, hj⟩ | ⟨h0, hj⟩ | ⟨h0, hn, hj⟩ | ⟨h0, hj, hi⟩
  · have hl : cS (rtF fs) (bsF fs g) s q w cw = 0 := by unfold cS; rw [if_pos h0]
    rw [hl, ndM_0 h0]
    refine Eq.trans ?_ (ndL_64.trans (blkR_in hs)).symm
    rfl
  · have hl : cS (rtF fs) (bsF fs g) s q w cw = (if q.2.1 = s then 1 else 0) := by unfold cS; rw [if_neg (by omega), if_pos h0]
    rw [hl, ndM_1 h0]
    refine Eq.trans ?_ (ndL_64.trans (blkR_in hs)).symm
    rfl
  · have hs2 := h.sz (g := q.2.1) (by omega)
    have hr := (h.rtb (show g ≤ fs.length by omega) hj).1
    have ij := ih1 q.2.1 (szn fs q.2.1 - 1) hj (by omega) (by omega)
    rw [← hr] at ij
    have hl : cS (rtF fs) (bsF fs g) s q w cw = cw (rtF fs q.2.1) := by unfold cS; rw [if_neg (by omega), if_neg (by omega), if_pos h0]
    rw [hl, ndM_2 h0]
    refine Eq.trans ?_ (ndL_64.trans (blkR_in hs)).symm
    rw [ij]
    exact congrArg (fun z => M 64 (6 * z + s)) (show 20 * q.2.1 + (szn fs q.2.1 - 1) = 20 * q.2.1 + szn fs q.2.1 - 1 by omega)
  · have ia := ih2 q.2.2.1 hj hg (by omega)
    have hl : cS (rtF fs) (bsF fs g) s q w cw = -(cw (bsF fs g + q.2.2.1)) := by unfold cS; rw [if_neg (by omega), if_neg (by omega), if_neg (by omega), if_pos h0]
    rw [hl, ndM_110 h0]
    refine Eq.trans ?_ (ndL_64.trans (blkR_in hs)).symm
    rw [ia]
    exact (n1_mul _).symm
  · have ia := ih2 q.2.2.1 hj hg (by omega)
    have wa := hw g q.2.2.1 hg (by omega)
    rcases (by omega : q.2.1 = 0 ∨ q.2.1 = 1 ∨ q.2.1 = 2 ∨ q.2.1 = 3 ∨ q.2.1 = 4) with hk | hk | hk | hk | hk
    · have hl : cS (rtF fs) (bsF fs g) s q w cw = (nI q.2.1).toInt64 * pw (w (bsF fs g + q.2.2.1)) (q.2.1 - 1) * cw (bsF fs g + q.2.2.1) := by unfold cS; rw [if_neg (by omega), if_neg (by omega), if_neg (by omega), if_neg (by omega), if_pos h0]
      rw [hl, ndM_94_0 h0 hk]
      refine Eq.trans ?_ (ndL_64.trans (blkR_in hs)).symm
      rw [hk, show (nI 0).toInt64 = 0 from by decide, Int64.zero_mul, Int64.zero_mul]
      exact Int64.zero_mul.symm
    · have hl : cS (rtF fs) (bsF fs g) s q w cw = (nI q.2.1).toInt64 * pw (w (bsF fs g + q.2.2.1)) (q.2.1 - 1) * cw (bsF fs g + q.2.2.1) := by unfold cS; rw [if_neg (by omega), if_neg (by omega), if_neg (by omega), if_neg (by omega), if_pos h0]
      rw [hl, ndM_94_1 h0 hk]
      refine Eq.trans ?_ (ndL_64.trans (blkR_in hs)).symm
      rw [ia, wa, show q.2.1 - 1 = 0 by omega, hk]
    · have hl : cS (rtF fs) (bsF fs g) s q w cw = (nI q.2.1).toInt64 * pw (w (bsF fs g + q.2.2.1)) (q.2.1 - 1) * cw (bsF fs g + q.2.2.1) := by unfold cS; rw [if_neg (by omega), if_neg (by omega), if_neg (by omega), if_neg (by omega), if_pos h0]
      rw [hl, ndM_94_2 h0 hk]
      refine Eq.trans ?_ (ndL_64.trans (blkR_in hs)).symm
      rw [ia, wa, show q.2.1 - 1 = 1 by omega, hk]
    · have hl : cS (rtF fs) (bsF fs g) s q w cw = (nI q.2.1).toInt64 * pw (w (bsF fs g + q.2.2.1)) (q.2.1 - 1) * cw (bsF fs g + q.2.2.1) := by unfold cS; rw [if_neg (by omega), if_neg (by omega), if_neg (by omega), if_neg (by omega), if_pos h0]
      rw [hl, ndM_94_3 h0 hk]
      refine Eq.trans ?_ (ndL_64.trans (blkR_in hs)).symm
      rw [ia, wa, show q.2.1 - 1 = 2 by omega, hk]
    · have hl : cS (rtF fs) (bsF fs g) s q w cw = (nI q.2.1).toInt64 * pw (w (bsF fs g + q.2.2.1)) (q.2.1 - 1) * cw (bsF fs g + q.2.2.1) := by unfold cS; rw [if_neg (by omega), if_neg (by omega), if_neg (by omega), if_neg (by omega), if_pos h0]
      rw [hl, ndM_94_4 h0 hk]
      refine Eq.trans ?_ (ndL_64.trans (blkR_in hs)).symm
      rw [ia, wa, show q.2.1 - 1 = 3 by omega, hk]
  · have ia := ih2 q.2.2.1 hj hg (by omega)
    have ic := ih2 q.2.2.2 hi hg (by omega)
    have wa := hw g q.2.2.1 hg (by omega)
    have wc := hw g q.2.2.2 hg (by omega)
    rcases h0 with h0 | h0 | h0
    · have hl : cS (rtF fs) (bsF fs g) s q w cw = cw (bsF fs g + q.2.2.1) * w (bsF fs g + q.2.2.2) + w (bsF fs g + q.2.2.1) * cw (bsF fs g + q.2.2.2) := by unfold cS; rw [if_neg (by omega), if_neg (by omega), if_neg (by omega), if_neg (by omega), if_neg (by omega), if_pos h0]
      rw [hl, ndM_42 h0]
      refine Eq.trans ?_ (ndL_64.trans (blkR_in hs)).symm
      rw [ia, ic, wa, wc]
      try dsimp only
      rw [Int64.mul_comm (M 64 _) (M 63 _)]
    · have hl : cS (rtF fs) (bsF fs g) s q w cw = cw (bsF fs g + q.2.2.1) + cw (bsF fs g + q.2.2.2) := by unfold cS; rw [if_neg (by omega), if_neg (by omega), if_neg (by omega), if_neg (by omega), if_neg (by omega), if_neg (by omega), if_pos h0]
      rw [hl, ndM_43 h0]
      refine Eq.trans ?_ (ndL_64.trans (blkR_in hs)).symm
      rw [ia, ic]
      try dsimp only
      rw [Int64.one_mul, Int64.one_mul]
    · have hl : cS (rtF fs) (bsF fs g) s q w cw = cw (bsF fs g + q.2.2.1) - cw (bsF fs g + q.2.2.2) := by unfold cS; rw [if_neg (by omega), if_neg (by omega), if_neg (by omega), if_neg (by omega), if_neg (by omega), if_neg (by omega), if_neg (by omega)]
      rw [hl, ndM_45 h0]
      refine Eq.trans ?_ (ndL_64.trans (blkR_in hs)).symm
      rw [ia, ic]
      try dsimp only
      rw [Int64.one_mul, n1_mul, Int64.sub_eq_add_neg]
theorem ev_B {I : MI} {L : ML} {fs : List (List Q4)} (h : TPa I 4 fs) {s t : Nat} {vs : Nat → Int32} {w x y r0 : Nat → Int64} {m : Nat} (hm : m ≤ fs.length) (hs : s < 6) (ht : t < 6) (hw : ∀ g e, g < m → e < szn fs g → w (bsF fs g + e) = goL vs (szn fs) (ndn fs) L fs.length 63 (20 * g + e)) (hx : ∀ g e, g < m → e < szn fs g → x (bsF fs g + e) = goL vs (szn fs) (ndn fs) L fs.length 64 (6 * (20 * g + e) + s)) (hy : ∀ g e, g < m → e < szn fs g → y (bsF fs g + e) = goL vs (szn fs) (ndn fs) L fs.length 64 (6 * (20 * g + e) + t)) : ∀ g e, g < m → e < szn fs g → tb (bO I w x y) r0 (bsF fs m) (bsF fs g + e) = goL vs (szn fs) (ndn fs) L fs.length 65 (36 * (20 * g + e) + (6 * s + t)) := by
  refine lex (fun g e ih1 ih2 => ?_)
  intro hg he
  have hc : 6 * s + t < 36 := by omega
  have hc6 : (6 * s + t) / 6 = s := by omega
  have hc7 : (6 * s + t) % 6 = t := by omega
  obtain ⟨-, -, -, ok⟩ := h.nf (show g < fs.length by omega) he
  have fx := (goL_fix (vs := vs) (sz := szn fs) (nd := ndn fs) (L := L) (F := fs.length) (fun g hg => h.sz hg) (show g < fs.length by omega) he ok).2.2 (6 * s + t) hc
  rw [fix_B h hm hg he, fx]
  obtain ⟨q, hq⟩ : ∃ q, ndn fs g e = q := ⟨_, rfl⟩
  rw [hq] at ok ⊢
  generalize tb (bO I w x y) r0 (bsF fs m) = cw at ih1 ih2 ⊢
  generalize goL vs (szn fs) (ndn fs) L fs.length = M at ih1 ih2 hw hx hy ⊢
  rcases ok with h0 | ⟨h0, hj⟩ | ⟨h0, hj⟩ | ⟨h0, hj⟩ | ⟨h0, hn, hj⟩ | ⟨h0, hj, hi⟩
  · have hl : cB (rtF fs) (bsF fs g) q w x y cw = 0 := by unfold cB; rw [if_pos h0]
    rw [hl, ndM_0 h0]
    refine Eq.trans ?_ (ndL_65.trans (blkR_in hc)).symm
    rfl
  · have hl : cB (rtF fs) (bsF fs g) q w x y cw = 0 := by unfold cB; rw [if_neg (by omega), if_pos h0]
    rw [hl, ndM_1 h0]
    refine Eq.trans ?_ (ndL_65.trans (blkR_in hc)).symm
    rfl
  · have hs2 := h.sz (g := q.2.1) (by omega)
    have hr := (h.rtb (show g ≤ fs.length by omega) hj).1
    have ij := ih1 q.2.1 (szn fs q.2.1 - 1) hj (by omega) (by omega)
    rw [← hr] at ij
    have hl : cB (rtF fs) (bsF fs g) q w x y cw = cw (rtF fs q.2.1) := by unfold cB; rw [if_neg (by omega), if_neg (by omega), if_pos h0]
    rw [hl, ndM_2 h0]
    refine Eq.trans ?_ (ndL_65.trans (blkR_in hc)).symm
    rw [ij]
    exact congrArg (fun z => M 65 (36 * z + (6 * s + t))) (show 20 * q.2.1 + (szn fs q.2.1 - 1) = 20 * q.2.1 + szn fs q.2.1 - 1 by omega)
  · have ia := ih2 q.2.2.1 hj hg (by omega)
    have hl : cB (rtF fs) (bsF fs g) q w x y cw = -(cw (bsF fs g + q.2.2.1)) := by unfold cB; rw [if_neg (by omega), if_neg (by omega), if_neg (by omega), if_pos h0]
    rw [hl, ndM_110 h0]
    refine Eq.trans ?_ (ndL_65.trans (blkR_in hc)).symm
    rw [ia]
    try dsimp only
    rw [Int64.zero_mul, Int64.zero_mul, Int64.zero_add, n1_mul]
  · have ia := ih2 q.2.2.1 hj hg (by omega)
    have wa := hw g q.2.2.1 hg (by omega)
    have xa := hx g q.2.2.1 hg (by omega)
    have ya := hy g q.2.2.1 hg (by omega)
    rcases (by omega : q.2.1 = 0 ∨ q.2.1 = 1 ∨ q.2.1 = 2 ∨ q.2.1 = 3 ∨ q.2.1 = 4) with hk | hk | hk | hk | hk
    · have hl : cB (rtF fs) (bsF fs g) q w x y cw = (nI q.2.1).toInt64 * pw (w (bsF fs g + q.2.2.1)) (q.2.1 - 1) * cw (bsF fs g + q.2.2.1) + (nI q.2.1 * (nI q.2.1 - 1)).toInt64 * pw (w (bsF fs g + q.2.2.1)) (q.2.1 - 2) * x (bsF fs g + q.2.2.1) * y (bsF fs g + q.2.2.1) := by unfold cB; rw [if_neg (by omega), if_neg (by omega), if_neg (by omega), if_neg (by omega), if_pos h0]
      rw [hl, ndM_94_0 h0 hk]
      refine Eq.trans ?_ (ndL_65.trans (blkR_in hc)).symm
      try dsimp only
      rw [hk, show (nI 0).toInt64 = 0 from by decide, show (nI 0 * (nI 0 - 1)).toInt64 = 0 from by decide]
      simp only [Int64.zero_mul]
    · have hl : cB (rtF fs) (bsF fs g) q w x y cw = (nI q.2.1).toInt64 * pw (w (bsF fs g + q.2.2.1)) (q.2.1 - 1) * cw (bsF fs g + q.2.2.1) + (nI q.2.1 * (nI q.2.1 - 1)).toInt64 * pw (w (bsF fs g + q.2.2.1)) (q.2.1 - 2) * x (bsF fs g + q.2.2.1) * y (bsF fs g + q.2.2.1) := by unfold cB; rw [if_neg (by omega), if_neg (by omega), if_neg (by omega), if_neg (by omega), if_pos h0]
      rw [hl, ndM_94_1 h0 hk]
      refine Eq.trans ?_ (ndL_65.trans (blkR_in hc)).symm
      try dsimp only
      rw [ia, wa, show q.2.1 - 1 = 0 by omega, hk, show (nI 1 * (nI 1 - 1)).toInt64 = 0 from by decide]
      rw [Int64.zero_mul, Int64.zero_mul, Int64.zero_mul, Int64.zero_mul, Int64.zero_mul, Int64.add_zero, Int64.zero_add]
    · have hl : cB (rtF fs) (bsF fs g) q w x y cw = (nI q.2.1).toInt64 * pw (w (bsF fs g + q.2.2.1)) (q.2.1 - 1) * cw (bsF fs g + q.2.2.1) + (nI q.2.1 * (nI q.2.1 - 1)).toInt64 * pw (w (bsF fs g + q.2.2.1)) (q.2.1 - 2) * x (bsF fs g + q.2.2.1) * y (bsF fs g + q.2.2.1) := by unfold cB; rw [if_neg (by omega), if_neg (by omega), if_neg (by omega), if_neg (by omega), if_pos h0]
      rw [hl, ndM_94_2 h0 hk]
      refine Eq.trans ?_ (ndL_65.trans (blkR_in hc)).symm
      try dsimp only
      rw [ia, wa, xa, ya, hc6, hc7, show q.2.1 - 1 = 1 by omega, show q.2.1 - 2 = 0 by omega, hk, show (nI 2 * (nI 2 - 1)).toInt64 = (nI 2).toInt64 * (nI 1).toInt64 from by decide]
      exact Int64.add_comm _ _
    · have hl : cB (rtF fs) (bsF fs g) q w x y cw = (nI q.2.1).toInt64 * pw (w (bsF fs g + q.2.2.1)) (q.2.1 - 1) * cw (bsF fs g + q.2.2.1) + (nI q.2.1 * (nI q.2.1 - 1)).toInt64 * pw (w (bsF fs g + q.2.2.1)) (q.2.1 - 2) * x (bsF fs g + q.2.2.1) * y (bsF fs g + q.2.2.1) := by unfold cB; rw [if_neg (by omega), if_neg (by omega), if_neg (by omega), if_neg (by omega), if_pos h0]
      rw [hl, ndM_94_3 h0 hk]
      refine Eq.trans ?_ (ndL_65.trans (blkR_in hc)).symm
      try dsimp only
      rw [ia, wa, xa, ya, hc6, hc7, show q.2.1 - 1 = 2 by omega, show q.2.1 - 2 = 1 by omega, hk, show (nI 3 * (nI 3 - 1)).toInt64 = (nI 3).toInt64 * (nI 2).toInt64 from by decide]
      exact Int64.add_comm _ _
    · have hl : cB (rtF fs) (bsF fs g) q w x y cw = (nI q.2.1).toInt64 * pw (w (bsF fs g + q.2.2.1)) (q.2.1 - 1) * cw (bsF fs g + q.2.2.1) + (nI q.2.1 * (nI q.2.1 - 1)).toInt64 * pw (w (bsF fs g + q.2.2.1)) (q.2.1 - 2) * x (bsF fs g + q.2.2.1) * y (bsF fs g + q.2.2.1) := by unfold cB; rw [if_neg (by omega), if_neg (by omega), if_neg (by omega), if_neg (by omega), if_pos h0]
      rw [hl, ndM_94_4 h0 hk]
      refine Eq.trans ?_ (ndL_65.trans (blkR_in hc)).symm
      try dsimp only
      rw [ia, wa, xa, ya, hc6, hc7, show q.2.1 - 1 = 3 by omega, show q.2.1 - 2 = 2 by omega, hk, show (nI 4 * (nI 4 - 1)).toInt64 = (nI 4).toInt64 * (nI 3).toInt64 from by decide]
      exact Int64.add_comm _ _
  · have ia := ih2 q.2.2.1 hj hg (by omega)
    have ic := ih2 q.2.2.2 hi hg (by omega)
    have wa := hw g q.2.2.1 hg (by omega)
    have wc := hw g q.2.2.2 hg (by omega)
    have xa := hx g q.2.2.1 hg (by omega)
    have xc := hx g q.2.2.2 hg (by omega)
    have ya := hy g q.2.2.1 hg (by omega)
    have yc := hy g q.2.2.2 hg (by omega)
    rcases h0 with h0 | h0 | h0
    · have hl : cB (rtF fs) (bsF fs g) q w x y cw = cw (bsF fs g + q.2.2.1) * w (bsF fs g + q.2.2.2) + w (bsF fs g + q.2.2.1) * cw (bsF fs g + q.2.2.2) + x (bsF fs g + q.2.2.1) * y (bsF fs g + q.2.2.2) + y (bsF fs g + q.2.2.1) * x (bsF fs g + q.2.2.2) := by unfold cB; rw [if_neg (by omega), if_neg (by omega), if_neg (by omega), if_neg (by omega), if_neg (by omega), if_pos h0]
      rw [hl, ndM_42 h0]
      refine Eq.trans ?_ (ndL_65.trans (blkR_in hc)).symm
      try dsimp only
      rw [ia, ic, wa, wc, xa, xc, ya, yc, hc6, hc7, Int64.mul_comm (M 65 _) (M 63 _), Int64.add_assoc (_ + _) (_ * _) (_ * _)]
    · have hl : cB (rtF fs) (bsF fs g) q w x y cw = cw (bsF fs g + q.2.2.1) + cw (bsF fs g + q.2.2.2) := by unfold cB; rw [if_neg (by omega), if_neg (by omega), if_neg (by omega), if_neg (by omega), if_neg (by omega), if_neg (by omega), if_pos h0]
      rw [hl, ndM_43 h0]
      refine Eq.trans ?_ (ndL_65.trans (blkR_in hc)).symm
      try dsimp only
      rw [ia, ic, Int64.one_mul, Int64.one_mul, Int64.add_zero]
    · have hl : cB (rtF fs) (bsF fs g) q w x y cw = cw (bsF fs g + q.2.2.1) - cw (bsF fs g + q.2.2.2) := by unfold cB; rw [if_neg (by omega), if_neg (by omega), if_neg (by omega), if_neg (by omega), if_neg (by omega), if_neg (by omega), if_neg (by omega)]
      rw [hl, ndM_45 h0]
      refine Eq.trans ?_ (ndL_65.trans (blkR_in hc)).symm
      try dsimp only
      rw [ia, ic, Int64.one_mul, n1_mul, Int64.add_zero, Int64.sub_eq_add_neg]
