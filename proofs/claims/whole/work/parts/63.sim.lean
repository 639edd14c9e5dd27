def rp : Nat → List Nat → List Nat
  | 0, ws => ws
  | s + 1, ws => 110 :: rp s ws
def hd0 (ws : List Nat) : Prop := ws = [] ∨ ∃ r, ws = 0 :: r
def okWs (ps ws : List Nat) : Prop := hd0 ws ∨ ∃ w i ps0 ws0, ws = w :: ws0 ∧ ps = i :: ps0 ∧ (w = 43 ∨ w = 45) ∧ hd0 ws0
def noW (v : Nat) (ws : List Nat) : Prop := ∀ w r, ws = w :: r → w ≠ v
theorem hd0.no {ws : List Nat} (h : hd0 ws) (v : Nat) (hv : v ≠ 0) : noW v ws := by
  intro w r e
  rcases h with z | ⟨x, z⟩
  · rw [z] at e; cases e
  · rw [z] at e; cases e; exact fun y => hv y.symm
theorem okWs.no {ps ws : List Nat} (h : okWs ps ws) (v : Nat) (hv : v ≠ 0) (h3 : v ≠ 43) (h5 : v ≠ 45) : noW v ws := by
  rcases h with h | ⟨w, i, ps0, ws0, e1, e2, e3, e4⟩
  · exact h.no v hv
  · intro w2 r e
    rw [e1] at e
    cases e
    omega
theorem pd1_no {ws : List Nat} (h : noW 110 ws) (i : Nat) (l : List Q4) : pd1 ws i l = (i, l, ws) := by
  cases ws with
  | nil => rfl
  | cons w r => exact if_neg (h w r rfl)
theorem pd1_rp {ws : List Nat} (h : noW 110 ws) : ∀ (s i : Nat) (l : List Q4), pd1 (rp s ws) i l = ((adNeg s i l).1, (adNeg s i l).2, ws)
  | 0, i, l => pd1_no h i l
  | s + 1, i, l => by
    show pd1 (110 :: rp s ws) i l = _
    rw [show pd1 (110 :: rp s ws) i l = pd1 (rp s ws) l.length (l ++ [(110, 0, i, 0)]) from if_pos rfl]
    exact pd1_rp h s l.length (l ++ [(110, 0, i, 0)])
theorem pd42_no {ws : List Nat} (h : noW 42 ws) (i : Nat) (ps : List Nat) (l : List Q4) : pdB f42 ws i ps l = (i, ps, l, ws) := by
  cases ws with
  | nil => rfl
  | cons w r => exact if_neg (fun z => h w r rfl (of_decide_eq_true z))
theorem pd42_s (ws : List Nat) (j i : Nat) (ps : List Nat) (l : List Q4) : pdB f42 (42 :: ws) j (i :: ps) l = pdB f42 ws l.length ps (l ++ [(42, 0, i, j)]) := if_pos rfl
theorem pd43_no {ws : List Nat} (h : hd0 ws) (i : Nat) (ps : List Nat) (l : List Q4) : pdB f43 ws i ps l = (i, ps, l, ws) := by
  rcases h with z | ⟨x, z⟩
  · rw [z]; rfl
  · rw [z]; rfl
theorem pd43_s {w : Nat} (hw : w = 43 ∨ w = 45) (ws : List Nat) (j i : Nat) (ps : List Nat) (l : List Q4) : pdB f43 (w :: ws) j (i :: ps) l = pdB f43 ws l.length ps (l ++ [(w, 0, i, j)]) := if_pos (decide_eq_true hw)
theorem clW_0 {ws : List Nat} (h : hd0 ws) (i : Nat) (ps : List Nat) (l : List Q4) : clW (pdB f43 ws i ps l) := by
  rw [pd43_no h]
  intro w r e
  rcases h with z | ⟨x, z⟩
  · rw [z] at e; cases e
  · rw [z] at e; cases e; rfl
theorem okWs.cl {ps ws : List Nat} (h : okWs ps ws) (i : Nat) (l : List Q4) : clW (pdB f43 ws i ps l) := by
  rcases h with h | ⟨w, i0, ps0, ws0, e1, e2, e3, e4⟩
  · exact clW_0 h i ps l
  · subst e1 e2
    rw [pd43_s e3]
    exact clW_0 e4 _ _ _
def goR (D : Nat → Nat → List Q4 → List Nat → List Nat → Nat → Prop) (B E : Nat → Nat → Nat → R4 → Prop) (Fl : Nat → Prop) (t op : Nat) (r : RB) : Prop := match r with
  | .inl u => Fl u
  | .inr (.inl (t', c', l', ps', ws')) => D t' c' l' ps' ws' op
  | .inr (.inr (t', c', op', a')) => (t < t' → B t' c' op' a') ∧ (t' = t → E t' c' op' a')
def goB (K V : Nat → Nat) (D : Nat → Nat → List Q4 → List Nat → List Nat → Nat → Prop) (B E : Nat → Nat → Nat → R4 → Prop) (Fl : Nat → Prop) (t c op : Nat) (a : R4) : Prop := goR D B E Fl t op (rbR K V t c a.2.2.1 a.1 a.2.1 a.2.2.2 op)
def goP (K V : Nat → Nat) (B : Nat → Nat → Nat → R4 → Prop) (Fl : Nat → Prop) (t c : Nat) (l : List Q4) (i : Nat) (ps ws : List Nat) (op : Nat) : Prop := match pdR K V t c l i ps ws with
  | .inl u => Fl u
  | .inr (t', c', a) => B t' c' op a
def goD (K V : Nat → Nat) (F : Nat) (D : Nat → Nat → List Q4 → List Nat → List Nat → Nat → Prop) (B : Nat → Nat → Nat → R4 → Prop) (Fl : Nat → Prop) (t c : Nat) (l : List Q4) (ps ws : List Nat) (op : Nat) : Prop := match rpR K V F t c ws op with
  | .inl u => Fl u
  | .inr (.inl (t', c', ws', op')) => D t' c' l ps ws' op'
  | .inr (.inr (t', c', q)) => goP K V B Fl t' c' (l ++ [q]) l.length ps ws op
section MACH
variable {K V : Nat → Nat} {F : Nat} {D : Nat → Nat → List Q4 → List Nat → List Nat → Nat → Prop} {B E : Nat → Nat → Nat → R4 → Prop} {Fl : Nat → Prop}
def cnS (K V : Nat → Nat) (D : Nat → Nat → List Q4 → List Nat → List Nat → Nat → Prop) (B E : Nat → Nat → Nat → R4 → Prop) (Fl : Nat → Prop) (op : Nat) (ps ws : List Nat) (r : RD) : Prop := match r with
  | .inl u => Fl u
  | .inr (i, u, c', l') => ¬ (K u = 1 ∧ V u = 42) → ¬ (K u = 1 ∧ (V u = 43 ∨ V u = 45)) → goB K V D B E Fl u c' op (i, ps, l', ws)
def inS (K V : Nat → Nat) (D : Nat → Nat → List Q4 → List Nat → List Nat → Nat → Prop) (B E : Nat → Nat → Nat → R4 → Prop) (Fl : Nat → Prop) (op : Nat) (rs : Nat → Nat → List Q4 → RD) : Prop := ∀ t c l ps ws, c ≤ 20 → hd0 ws → cnS K V D B E Fl op ps ws (rs t c l) → D t c l ps ws op
def inO (K V : Nat → Nat) (D : Nat → Nat → List Q4 → List Nat → List Nat → Nat → Prop) (B E : Nat → Nat → Nat → R4 → Prop) (Fl : Nat → Prop) (op : Nat) (inner : Option (Nat → Nat → List Q4 → RD)) : Prop := match inner with
  | none => op = 8
  | some rs => op < 8 ∧ inS K V D B E Fl (op + 1) rs
theorem sim_bare (hD : ∀ t c l ps ws op, goD K V F D B Fl t c l ps ws op → D t c l ps ws op) {inner : Option (Nat → Nat → List Q4 → RD)} {op : Nat} (hin : inO K V D B E Fl op inner) {t c : Nat} {l : List Q4} {ps ws : List Nat} (hc : c ≤ 20) (hm : ¬ (K t = 1 ∧ V t = 45) ∨ 20 ≤ c) (hr : match rdBare K V F inner t c l with
    | .inl u => Fl u
    | .inr (i, u, c', l') => goP K V B Fl u c' l' i ps ws op) : D t c l ps ws op := by
  refine hD _ _ _ _ _ _ ?_
  unfold goD rpR
  unfold rdBare at hr
  by_cases hA : K t = 1 ∧ V t = 40
  · rw [if_pos hA] at hr ⊢
    cases inner with
    | none =>
      have ho : op = 8 := hin
      rw [if_neg (by omega)]
      exact hr
    | some rs =>
      have hin2 : op < 8 ∧ inS K V D B E Fl (op + 1) rs := hin
      obtain ⟨ho, hi⟩ := hin2
      rw [if_pos ho]
      refine hi (t + 1) c l ps (0 :: ws) hc (Or.inr ⟨ws, rfl⟩) ?_
      dsimp only at hr
      cases R : rs (t + 1) c l with
      | inl u => rw [R] at hr; exact hr
      | inr v =>
        obtain ⟨i, u, c', l'⟩ := v
        rw [R] at hr
        show ¬ (K u = 1 ∧ V u = 42) → ¬ (K u = 1 ∧ (V u = 43 ∨ V u = 45)) → goB K V D B E Fl u c' (op + 1) (i, ps, l', 0 :: ws)
        intro h1 h2
        unfold goB
        have e : rbR K V u c' l' i ps (0 :: ws) (op + 1) = if K u = 1 ∧ V u = 41 then rbP (op + 1) (pdR K V (u + 1) c' l' i ps ws) else .inl u := by
          unfold rbR
          rw [if_neg h1, pd43_no (Or.inr ⟨ws, rfl⟩)]
          unfold rbW
          rw [if_neg h2]
        dsimp only
        rw [e]
        dsimp only at hr
        by_cases hC : K u = 1 ∧ V u = 41
        · rw [if_pos hC] at hr ⊢
          have hr2 : goP K V B Fl (u + 1) c' l' i ps ws op := hr
          unfold goP at hr2
          cases R2 : pdR K V (u + 1) c' l' i ps ws with
          | inl v => rw [R2] at hr2; exact hr2
          | inr w =>
            obtain ⟨t2, c2, a2⟩ := w
            rw [R2] at hr2
            have h9 := pdR_t R2
            show (u < t2 → B t2 c2 (op + 1 - 1) a2) ∧ (t2 = u → E t2 c2 (op + 1 - 1) a2)
            exact ⟨fun _ => hr2, fun z => by omega⟩
        · rw [if_neg hC] at hr ⊢
          exact hr
  · rw [if_neg hA] at hr ⊢
    by_cases hM : K t = 1 ∧ V t = 45
    · have hc20 : 20 ≤ c := hm.resolve_left (fun z => z hM)
      rw [if_pos hM, if_pos hc20]
      rw [if_neg (by omega), if_neg (by omega), if_neg (by omega)] at hr
      exact hr
    · rw [if_neg hM]
      by_cases hC : K t = 1 ∧ V t = 64
      · rw [if_pos hC] at hr ⊢
        by_cases hc2 : 20 ≤ c
        · rw [if_pos hc2] at hr ⊢
          exact hr
        · rw [if_neg hc2] at hr ⊢
          by_cases hN : K (t + 1) = 2 ∧ V (t + 1) < F
          · rw [if_pos hN] at hr ⊢
            exact hr
          · rw [if_neg hN] at hr ⊢
            exact hr
      · rw [if_neg hC] at hr ⊢
        by_cases hE : K t = 2
        · rw [if_pos hE] at hr
          rw [if_neg (show ¬ (K t = 1 ∧ 97 ≤ V t ∧ V t ≤ 102) by omega), if_pos hE]
          by_cases hc2 : 20 ≤ c
          · rw [if_pos hc2] at hr ⊢
            exact hr
          · rw [if_neg hc2] at hr ⊢
            exact hr
        · rw [if_neg hE] at hr
          by_cases hS : K t = 1 ∧ 97 ≤ V t ∧ V t ≤ 102
          · rw [if_pos hS] at hr ⊢
            by_cases hc2 : 20 ≤ c
            · rw [if_pos hc2] at hr ⊢
              exact hr
            · rw [if_neg hc2] at hr ⊢
              exact hr
          · rw [if_neg hS] at hr ⊢
            rw [if_neg hE]
            exact hr
theorem sim_neg (hD : ∀ t c l ps ws op, goD K V F D B Fl t c l ps ws op → D t c l ps ws op) {op : Nat} {l : List Q4} {ps ws : List Nat} : ∀ (f s t c : Nat), 20 ≤ f + c → c ≤ 20 → (match rdNeg K V f s t c with
    | .inl u => Fl u
    | .inr (s', u, c') => c' ≤ 20 → (¬ (K u = 1 ∧ V u = 45) ∨ 20 ≤ c') → D u c' l ps (rp s' ws) op) → D t c l ps (rp s ws) op
  | 0, s, t, c, hf, hc, hr => hr hc (Or.inr (by omega))
  | f + 1, s, t, c, hf, hc, hr => by
    unfold rdNeg at hr
    by_cases hM : K t = 1 ∧ V t = 45
    · rw [if_pos hM] at hr
      refine hD _ _ _ _ _ _ ?_
      unfold goD rpR
      rw [if_neg (by omega), if_pos hM]
      by_cases h20 : 20 ≤ c
      · rw [if_pos h20] at hr ⊢
        exact hr
      · rw [if_neg h20] at hr ⊢
        exact sim_neg hD f (s + 1) (t + 1) (c + 1) (by omega) (by omega) hr
    · rw [if_neg hM] at hr
      exact hr hc (Or.inl hM)
theorem sim_part (hD : ∀ t c l ps ws op, goD K V F D B Fl t c l ps ws op → D t c l ps ws op) {inner : Option (Nat → Nat → List Q4 → RD)} {op : Nat} (hin : inO K V D B E Fl op inner) {t c : Nat} {l : List Q4} {ps ws : List Nat} (hc : c ≤ 20) (hw : noW 110 ws) (hr : match rdPart K V F inner t c l with
    | .inl u => Fl u
    | .inr (i, u, c', l') => goP K V B Fl u c' l' i ps ws op) : D t c l ps ws op := by
  refine sim_neg (ws := ws) hD 20 0 t c (by omega) hc ?_
  unfold rdPart at hr
  cases R : rdNeg K V 20 0 t c with
  | inl u => rw [R] at hr; exact hr
  | inr v =>
    obtain ⟨s, u, c1⟩ := v
    rw [R] at hr
    dsimp only at hr ⊢
    intro hc1 hm
    refine sim_bare hD hin hc1 hm ?_
    cases R2 : rdBare K V F inner u c1 l with
    | inl v => rw [R2] at hr; exact hr
    | inr v =>
      obtain ⟨i, u2, c2, l2⟩ := v
      rw [R2] at hr
      dsimp only at hr ⊢
      unfold goP pdR at hr ⊢
      rw [pd1_rp hw]
      rw [pd1_no hw] at hr
      exact hr
theorem sim_power (hD : ∀ t c l ps ws op, goD K V F D B Fl t c l ps ws op → D t c l ps ws op) {inner : Option (Nat → Nat → List Q4 → RD)} {op : Nat} (hin : inO K V D B E Fl op inner) {t c : Nat} {l : List Q4} {ps ws : List Nat} (hc : c ≤ 20) (hw : noW 110 ws) (hr : match rdPower K V F inner t c l with
    | .inl u => Fl u
    | .inr (i, u, c', l') => B u c' op (pdB f42 ws i ps l')) : D t c l ps ws op := by
  refine sim_part hD hin hc hw ?_
  unfold rdPower at hr
  cases R : rdPart K V F inner t c l with
  | inl u => rw [R] at hr; exact hr
  | inr v =>
    obtain ⟨i, u, c1, l1⟩ := v
    rw [R] at hr
    dsimp only at hr ⊢
    unfold goP pdR
    rw [pd1_no hw]
    unfold pdW
    by_cases hA : K u = 1 ∧ V u = 94
    · rw [if_pos hA] at hr ⊢
      by_cases h20 : 20 ≤ c1
      · rw [if_pos h20] at hr ⊢
        exact hr
      · rw [if_neg h20] at hr ⊢
        by_cases hN : K (u + 1) = 2 ∧ V (u + 1) ≤ 4
        · rw [if_pos hN] at hr ⊢
          exact hr
        · rw [if_neg hN] at hr ⊢
          exact hr
    · rw [if_neg hA] at hr ⊢
      exact hr
theorem goB_of {K V : Nat → Nat} {t c op : Nat} {a : R4} {r : RB} (h : rbR K V t c a.2.2.1 a.1 a.2.1 a.2.2.2 op = r) (g : goR D B E Fl t op r) : goB K V D B E Fl t c op a := by
  unfold goB
  rw [h]
  exact g
theorem sim_prodL (hD : ∀ t c l ps ws op, goD K V F D B Fl t c l ps ws op → D t c l ps ws op) (hB : ∀ t c op a, clW (pdB f43 a.2.2.2 a.1 a.2.1 a.2.2.1) → goB K V D B E Fl t c op a → B t c op a) {inner : Option (Nat → Nat → List Q4 → RD)} {op : Nat} (hin : inO K V D B E Fl op inner) (hgr : groI inner) {ps ws : List Nat} (hok : okWs ps ws) : ∀ (f i t c : Nat) (l : List Q4), 20 < f + c → c ≤ 20 → (match rdProdL K V F inner f i t c l with
    | .inl u => Fl u
    | .inr (i', u, c', l') => ¬ (K u = 1 ∧ V u = 42) → B u c' op (i', ps, l', ws)) → B t c op (i, ps, l, ws)
  | 0, i, t, c, l, hf, hc, hr => by omega
  | f + 1, i, t, c, l, hf, hc, hr => by
    unfold rdProdL at hr
    by_cases hM : K t = 1 ∧ V t = 42
    · rw [if_pos hM] at hr
      refine hB _ _ _ _ (hok.cl i l) ?_
      by_cases h20 : 20 ≤ c
      · rw [if_pos h20] at hr
        exact goB_of (r := .inl t) (by unfold rbR; rw [if_pos hM, if_pos h20]) hr
      · rw [if_neg h20] at hr
        refine goB_of (r := .inr (.inl (t + 1, c + 1, l, i :: ps, 42 :: ws))) (by unfold rbR; rw [if_pos hM, if_neg h20]) ?_
        show D (t + 1) (c + 1) l (i :: ps) (42 :: ws) op
        refine sim_power hD hin (by omega) (fun w r z => by cases z; decide) ?_
        have g := gro_power (K := K) (V := V) (F := F) hgr (t := t + 1) (c := c + 1) (l := l) (by omega)
        cases R : rdPower K V F inner (t + 1) (c + 1) l with
        | inl u => rw [R] at hr; exact hr
        | inr v =>
          obtain ⟨j, u, c1, l1⟩ := v
          rw [R] at hr g
          have g2 : t + 1 < u ∧ c + 1 < c1 ∧ c1 ≤ 20 := g
          dsimp only at hr ⊢
          rw [pd42_s, pd42_no (hok.no 42 (by decide) (by decide) (by decide))]
          exact sim_prodL hD hB hin hgr hok f l1.length u c1 (l1 ++ [(42, 0, i, j)]) (by omega) g2.2.2 hr
    · rw [if_neg hM] at hr
      exact hr hM
theorem sim_prod (hD : ∀ t c l ps ws op, goD K V F D B Fl t c l ps ws op → D t c l ps ws op) (hB : ∀ t c op a, clW (pdB f43 a.2.2.2 a.1 a.2.1 a.2.2.1) → goB K V D B E Fl t c op a → B t c op a) {inner : Option (Nat → Nat → List Q4 → RD)} {op : Nat} (hin : inO K V D B E Fl op inner) (hgr : groI inner) {ps ws : List Nat} (hok : okWs ps ws) {t c : Nat} {l : List Q4} (hc : c ≤ 20) (hr : match rdProd K V F inner t c l with
    | .inl u => Fl u
    | .inr (i, u, c', l') => ¬ (K u = 1 ∧ V u = 42) → B u c' op (i, ps, l', ws)) : D t c l ps ws op := by
  refine sim_power hD hin hc (hok.no 110 (by decide) (by decide) (by decide)) ?_
  unfold rdProd at hr
  have g := gro_power (K := K) (V := V) (F := F) hgr (t := t) (l := l) hc
  cases R : rdPower K V F inner t c l with
  | inl u => rw [R] at hr; exact hr
  | inr v =>
    obtain ⟨i, u, c1, l1⟩ := v
    rw [R] at hr g
    have g2 : t < u ∧ c < c1 ∧ c1 ≤ 20 := g
    dsimp only at hr ⊢
    rw [pd42_no (hok.no 42 (by decide) (by decide) (by decide))]
    exact sim_prodL hD hB hin hgr hok 20 i u c1 l1 (by omega) g2.2.2 hr
theorem sim_sumL (hD : ∀ t c l ps ws op, goD K V F D B Fl t c l ps ws op → D t c l ps ws op) (hB : ∀ t c op a, clW (pdB f43 a.2.2.2 a.1 a.2.1 a.2.2.1) → goB K V D B E Fl t c op a → B t c op a) {inner : Option (Nat → Nat → List Q4 → RD)} {op : Nat} (hin : inO K V D B E Fl op inner) (hgr : groI inner) {ps ws : List Nat} (h0 : hd0 ws) : ∀ (f i t c : Nat) (l : List Q4), 20 < f + c → c ≤ 20 → ¬ (K t = 1 ∧ V t = 42) → cnS K V D B E Fl op ps ws (rdSumL K V F inner f i t c l) → goB K V D B E Fl t c op (i, ps, l, ws)
  | 0, i, t, c, l, hf, hc, hs, hr => by omega
  | f + 1, i, t, c, l, hf, hc, hs, hr => by
    unfold rdSumL at hr
    have e0 : rbR K V t c l i ps ws op = rbW K V t c op (i, ps, l, ws) := by
      unfold rbR
      rw [if_neg hs, pd43_no h0]
    by_cases hM : K t = 1 ∧ (V t = 43 ∨ V t = 45)
    · rw [if_pos hM] at hr
      by_cases h20 : 20 ≤ c
      · rw [if_pos h20] at hr
        exact goB_of (r := .inl t) (e0.trans (by unfold rbW; rw [if_pos hM, if_pos h20])) hr
      · rw [if_neg h20] at hr
        refine goB_of (r := .inr (.inl (t + 1, c + 1, l, i :: ps, V t :: ws))) (e0.trans (by unfold rbW; rw [if_pos hM, if_neg h20])) ?_
        show D (t + 1) (c + 1) l (i :: ps) (V t :: ws) op
        refine sim_prod hD hB hin hgr (Or.inr ⟨V t, i, ps, ws, rfl, rfl, hM.2, h0⟩) (by omega) ?_
        have g := gro_prod (K := K) (V := V) (F := F) hgr (t := t + 1) (c := c + 1) (l := l) (by omega)
        cases R : rdProd K V F inner (t + 1) (c + 1) l with
        | inl u => rw [R] at hr; exact hr
        | inr v =>
          obtain ⟨j, u, c1, l1⟩ := v
          rw [R] at hr g
          have g2 : t + 1 < u ∧ c + 1 < c1 ∧ c1 ≤ 20 := g
          dsimp only at hr ⊢
          intro hs2
          refine hB _ _ _ _ ((show okWs (i :: ps) (V t :: ws) from Or.inr ⟨V t, i, ps, ws, rfl, rfl, hM.2, h0⟩).cl j l1) ?_
          have h := sim_sumL hD hB hin hgr h0 f l1.length u c1 (l1 ++ [(V t, 0, i, j)]) (by omega) g2.2.2 hs2 hr
          have e : rbR K V u c1 l1 j (i :: ps) (V t :: ws) op = rbR K V u c1 (l1 ++ [(V t, 0, i, j)]) l1.length ps ws op := by
            unfold rbR
            rw [if_neg hs2, if_neg hs2, pd43_s hM.2]
          unfold goB at h ⊢
          dsimp only at h ⊢
          rw [e]
          exact h
    · rw [if_neg hM] at hr
      exact hr hs hM
theorem sim_sum (hD : ∀ t c l ps ws op, goD K V F D B Fl t c l ps ws op → D t c l ps ws op) (hB : ∀ t c op a, clW (pdB f43 a.2.2.2 a.1 a.2.1 a.2.2.1) → goB K V D B E Fl t c op a → B t c op a) {inner : Option (Nat → Nat → List Q4 → RD)} {op : Nat} (hin : inO K V D B E Fl op inner) (hgr : groI inner) : inS K V D B E Fl op (rdSum K V F inner) := by
  intro t c l ps ws hc h0 hr
  refine sim_prod hD hB hin hgr (Or.inl h0) hc ?_
  unfold rdSum at hr
  have g := gro_prod (K := K) (V := V) (F := F) hgr (t := t) (l := l) hc
  cases R : rdProd K V F inner t c l with
  | inl u => rw [R] at hr; exact hr
  | inr v =>
    obtain ⟨i, u, c1, l1⟩ := v
    rw [R] at hr g
    have g2 : t < u ∧ c < c1 ∧ c1 ≤ 20 := g
    dsimp only at hr ⊢
    intro hs
    exact hB _ _ _ _ (clW_0 h0 i ps l1) (sim_sumL hD hB hin hgr h0 20 i u c1 l1 (by omega) g2.2.2 hs hr)
theorem sim_S (hD : ∀ t c l ps ws op, goD K V F D B Fl t c l ps ws op → D t c l ps ws op) (hB : ∀ t c op a, clW (pdB f43 a.2.2.2 a.1 a.2.1 a.2.2.1) → goB K V D B E Fl t c op a → B t c op a) : ∀ (k op : Nat), op + k = 8 → inS K V D B E Fl op (rdS K V F k)
  | 0, op, h => sim_sum hD hB (inner := none) h True.intro
  | k + 1, op, h => sim_sum hD hB (inner := some (rdS K V F k)) ⟨by omega, sim_S hD hB k (op + 1) (by omega)⟩ (fun t c l hc => gro_S k t c l hc)
/-- the machine, from its start -/
theorem sim_all (hD : ∀ t c l ps ws op, goD K V F D B Fl t c l ps ws op → D t c l ps ws op) (hB : ∀ t c op a, clW (pdB f43 a.2.2.2 a.1 a.2.1 a.2.2.1) → goB K V D B E Fl t c op a → B t c op a) (t : Nat) (hr : match rdS K V F 8 t 0 [] with
    | .inl u => Fl u
    | .inr (i, u, c', l') => E u c' 0 (i, [], l', [])) : D t 0 [] [] [] 0 := by
  refine sim_S hD hB 8 0 rfl t 0 [] [] [] (Nat.zero_le _) (Or.inl rfl) ?_
  cases R : rdS K V F 8 t 0 [] with
  | inl u => rw [R] at hr; exact hr
  | inr v =>
    obtain ⟨i, u, c1, l1⟩ := v
    rw [R] at hr
    dsimp only at hr
    show ¬ (K u = 1 ∧ V u = 42) → ¬ (K u = 1 ∧ (V u = 43 ∨ V u = 45)) → goB K V D B E Fl u c1 0 (i, [], l1, [])
    intro h1 h2
    refine goB_of (r := .inr (.inr (u, c1, 0, (i, [], l1, [])))) (by unfold rbR; rw [if_neg h1]; show rbW K V u c1 0 (i, [], l1, []) = _; unfold rbW; rw [if_neg h2]) ?_
    exact ⟨fun z => absurd z (Nat.lt_irrefl u), fun _ => hr⟩
end MACH
