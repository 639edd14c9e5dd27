/-! what a formula's text tells: the first fault's token, or the last node, the token behind, the count of nodes, the nodes -/
abbrev Q4 : Type := Nat × Nat × Nat × Nat
abbrev RD : Type := Nat ⊕ (Nat × Nat × Nat × List Q4)
def isT (K V : Nat → Nat) (t ch : Nat) : Prop := K t = 1 ∧ V t = ch
def rdBare (K V : Nat → Nat) (F : Nat) (inner : Option (Nat → Nat → List Q4 → RD)) (t c : Nat) (l : List Q4) : RD :=
  if K t = 1 ∧ V t = 40 then
    match inner with
    | none => .inl t
    | some rs => match rs (t + 1) c l with
      | .inl u => .inl u
      | .inr (i, u, c', l') => if K u = 1 ∧ V u = 41 then .inr (i, u + 1, c', l') else .inl u
  else if K t = 1 ∧ V t = 64 then
    if 20 ≤ c then .inl t else if K (t + 1) = 2 ∧ V (t + 1) < F then .inr (l.length, t + 2, c + 1, l ++ [(2, V (t + 1), 0, 0)]) else .inl (t + 1)
  else if K t = 2 then
    if 20 ≤ c then .inl t else .inr (l.length, t + 1, c + 1, l ++ [(0, V t, 0, 0)])
  else if K t = 1 ∧ 97 ≤ V t ∧ V t ≤ 102 then
    if 20 ≤ c then .inl t else .inr (l.length, t + 1, c + 1, l ++ [(1, V t - 97, 0, 0)])
  else .inl t
def rdNeg (K V : Nat → Nat) : Nat → Nat → Nat → Nat → Nat ⊕ (Nat × Nat × Nat)
  | 0, s, t, c => .inr (s, t, c)
  | f + 1, s, t, c => if K t = 1 ∧ V t = 45 then (if 20 ≤ c then .inl t else rdNeg K V f (s + 1) (t + 1) (c + 1)) else .inr (s, t, c)
def adNeg : Nat → Nat → List Q4 → Nat × List Q4
  | 0, i, l => (i, l)
  | s + 1, i, l => adNeg s l.length (l ++ [(110, 0, i, 0)])
def rdPart (K V : Nat → Nat) (F : Nat) (inner : Option (Nat → Nat → List Q4 → RD)) (t c : Nat) (l : List Q4) : RD :=
  match rdNeg K V 20 0 t c with
  | .inl u => .inl u
  | .inr (s, u, c') => match rdBare K V F inner u c' l with
    | .inl u => .inl u
    | .inr (i, u, c', l') => .inr ((adNeg s i l').1, u, c', (adNeg s i l').2)
def rdPower (K V : Nat → Nat) (F : Nat) (inner : Option (Nat → Nat → List Q4 → RD)) (t c : Nat) (l : List Q4) : RD :=
  match rdPart K V F inner t c l with
  | .inl u => .inl u
  | .inr (i, u, c', l') => if K u = 1 ∧ V u = 94 then
      (if 20 ≤ c' then .inl u else if K (u + 1) = 2 ∧ V (u + 1) ≤ 4 then .inr (l'.length, u + 2, c' + 1, l' ++ [(94, V (u + 1), i, 0)]) else .inl (u + 1))
    else .inr (i, u, c', l')
def rdProdL (K V : Nat → Nat) (F : Nat) (inner : Option (Nat → Nat → List Q4 → RD)) : Nat → Nat → Nat → Nat → List Q4 → RD
  | 0, i, t, c, l => .inr (i, t, c, l)
  | f + 1, i, t, c, l => if K t = 1 ∧ V t = 42 then
      (if 20 ≤ c then .inl t else match rdPower K V F inner (t + 1) (c + 1) l with
        | .inl u => .inl u
        | .inr (j, u, c', l') => rdProdL K V F inner f l'.length u c' (l' ++ [(42, 0, i, j)]))
    else .inr (i, t, c, l)
def rdProd (K V : Nat → Nat) (F : Nat) (inner : Option (Nat → Nat → List Q4 → RD)) (t c : Nat) (l : List Q4) : RD :=
  match rdPower K V F inner t c l with
  | .inl u => .inl u
  | .inr (i, u, c', l') => rdProdL K V F inner 20 i u c' l'
def rdSumL (K V : Nat → Nat) (F : Nat) (inner : Option (Nat → Nat → List Q4 → RD)) : Nat → Nat → Nat → Nat → List Q4 → RD
  | 0, i, t, c, l => .inr (i, t, c, l)
  | f + 1, i, t, c, l => if K t = 1 ∧ (V t = 43 ∨ V t = 45) then
      (if 20 ≤ c then .inl t else match rdProd K V F inner (t + 1) (c + 1) l with
        | .inl u => .inl u
        | .inr (j, u, c', l') => rdSumL K V F inner f l'.length u c' (l' ++ [(V t, 0, i, j)]))
    else .inr (i, t, c, l)
def rdSum (K V : Nat → Nat) (F : Nat) (inner : Option (Nat → Nat → List Q4 → RD)) (t c : Nat) (l : List Q4) : RD :=
  match rdProd K V F inner t c l with
  | .inl u => .inl u
  | .inr (i, u, c', l') => rdSumL K V F inner 20 i u c' l'
/-- k more brackets may be opened -/
def rdS (K V : Nat → Nat) (F : Nat) : Nat → Nat → Nat → List Q4 → RD
  | 0 => rdSum K V F none
  | k + 1 => rdSum K V F (some (rdS K V F k))
/-! the class's tape while a formula is read -/
def kdS (so : Nat) : Nat := if so = 0 then 0 else if so = 1 then 1 else if so = 2 then 2 else if so = 43 then 3 else if so = 45 then 4 else if so = 42 then 5 else if so = 94 then 6 else 7
def oneS (rt : Nat → Nat) (b0 : Nat) (q : Q4) : Nat := if q.1 ≤ 1 then q.2.1 else if q.1 = 2 then rt q.2.1 else b0 + q.2.2.1
def othS (b0 : Nat) (q : Q4) : Nat := if q.1 = 94 then q.2.1 else if q.1 = 42 ∨ q.1 = 43 ∨ q.1 = 45 then b0 + q.2.2.2 else 0
def TN (I : MI) (rt : Nat → Nat) (b0 e : Nat) (q : Q4) : Prop := I 16 (b0 + e) = nI (kdS q.1) ∧ I 17 (b0 + e) = nI (oneS rt b0 q) ∧ I 18 (b0 + e) = nI (othS b0 q)
/-- sums over k nodes from s on -/
def wS (sg : Nat → Int32) (l : List Q4) (s : Nat) : Nat → Int32
  | 0 => nI 0
  | k + 1 => wS sg l s k + (nI 1 + (if (l.getD (s + k) (0, 0, 0, 0)).1 = 2 then sg (l.getD (s + k) (0, 0, 0, 0)).2.1 else nI 0))
def wN (ng : Nat → Int32) (l : List Q4) (s : Nat) : Nat → Int32
  | 0 => nI 0
  | k + 1 => wN ng l s k ||| (if (l.getD (s + k) (0, 0, 0, 0)).1 = 2 then ng (l.getD (s + k) (0, 0, 0, 0)).2.1 else if (l.getD (s + k) (0, 0, 0, 0)).1 = 1 then nI 1 <<< (nI (l.getD (s + k) (0, 0, 0, 0)).2.1 &&& 31) else nI 0)
/-- formulas told ahead: F of them, roots rt, steps sg, names ng, all ahead of place b0 -/
def PF (I : MI) (F : Nat) (rt : Nat → Nat) (sg ng : Nat → Int32) (b0 : Nat) : Prop := I 15 6 = nI F ∧ F ≤ 4 ∧ b0 + 20 ≤ 80 ∧ ∀ g, g < F → I 21 g = nI (rt g + 1) ∧ rt g + 1 ≤ b0 ∧ I 19 (rt g) = sg g ∧ I 20 (rt g) = ng g
def PS (I : MI) (tx : Nat → Nat) (n F : Nat) (rt : Nat → Nat) (sg ng : Nat → Int32) (b0 t c : Nat) (l : List Q4) : Prop :=
  TXc I tx n ∧ CRt I tx n t ∧ I 11 8 = nI c ∧ c ≤ 20 ∧ PF I F rt sg ng b0 ∧ I 15 7 = nI (b0 + l.length) ∧ l.length ≤ c ∧ ∀ (e : Nat) (q : Q4), l[e]? = some q → TN I rt b0 e q ∧ NDok q F e
def FRr (I I' : MI) (b : Nat) : Prop := ∀ c j, ¬ (c = 11 ∧ 4 ≤ j ∧ j ≤ 8) → ¬ (c = 15 ∧ j = 7) → ¬ (16 ≤ c ∧ c ≤ 20 ∧ b ≤ j) → I' c j = I c j
theorem FRr.refl (I : MI) (b : Nat) : FRr I I b := fun _ _ _ _ _ => rfl
theorem FRr.trans {I J H : MI} {a b : Nat} (h1 : FRr I J a) (h2 : FRr J H b) (h : a ≤ b) : FRr I H a := fun c j q1 q2 q3 => (h2 c j q1 q2 (by omega)).trans (h1 c j q1 q2 q3)
theorem FRr.ofp {I J : MI} {b : Nat} (h : FRp I J) : FRr I J b := fun c j q1 _ _ => h c j (by omega)
theorem u2_ne {I : MI} {c j c' j' : Nat} {x : Int32} (h : ¬ (c = c' ∧ j = j')) : u2 I c' j' x c j = I c j := by
  by_cases hc : c = c'
  · subst hc
    rw [u2_on]
    exact if_neg (fun q => h ⟨rfl, q⟩)
  · rw [u2_off hc]
theorem FRr.nodes {I J : MI} {b : Nat} (h : FRr I J b) (x : Int32) : FRr I (u2 J 11 8 x) b := fun c j q1 q2 q3 => (u2_ne (by omega)).trans (h c j q1 q2 q3)
/-- one node more -/
def addN (J : MI) (p : Nat) (k a b s m : Int32) : MI := u2 (u2 (u2 (u2 (u2 (u2 J 16 p k) 17 p a) 18 p b) 19 p s) 20 p m) 15 7 (nI (p + 1))
theorem addN_off {J : MI} {p : Nat} {k a b s m : Int32} {c j : Nat} (h1 : ¬ (c = 15 ∧ j = 7)) (h2 : ¬ (16 ≤ c ∧ c ≤ 20 ∧ j = p)) : addN J p k a b s m c j = J c j := by
  unfold addN
  exact (u2_ne (by omega)).trans ((u2_ne (by omega)).trans ((u2_ne (by omega)).trans ((u2_ne (by omega)).trans ((u2_ne (by omega)).trans (u2_ne (by omega))))))
theorem FRr.addN {I J : MI} {b p : Nat} {k a o s m : Int32} (h : FRr I J b) (hp : b ≤ p) : FRr I (addN J p k a o s m) b := fun c j q1 q2 q3 => (addN_off q2 (by omega)).trans (h c j q1 q2 q3)
theorem addN_16 {J : MI} {p : Nat} {k a b s m : Int32} : addN J p k a b s m 16 p = k := u2_at J 16 p k
theorem addN_17 {J : MI} {p : Nat} {k a b s m : Int32} : addN J p k a b s m 17 p = a := u2_at (u2 J 16 p k) 17 p a
theorem addN_18 {J : MI} {p : Nat} {k a b s m : Int32} : addN J p k a b s m 18 p = b := u2_at (u2 (u2 J 16 p k) 17 p a) 18 p b
theorem addN_19 {J : MI} {p : Nat} {k a b s m : Int32} : addN J p k a b s m 19 p = s := u2_at (u2 (u2 (u2 J 16 p k) 17 p a) 18 p b) 19 p s
theorem addN_20 {J : MI} {p : Nat} {k a b s m : Int32} : addN J p k a b s m 20 p = m := u2_at (u2 (u2 (u2 (u2 J 16 p k) 17 p a) 18 p b) 19 p s) 20 p m
theorem CRt.fr {I I' : MI} {tx : Nat → Nat} {n t : Nat} (h : CRt I tx n t) (h4 : I' 11 4 = I 11 4) (h5 : I' 11 5 = I 11 5) (h6 : I' 11 6 = I 11 6) (h7 : I' 11 7 = I 11 7) : CRt I' tx n t := ⟨h4.trans h.1, h5.trans h.2.1, h6.trans h.2.2.1, fun z => h7.trans (h.2.2.2 z)⟩
theorem PF.fr {I I' : MI} {F : Nat} {rt : Nat → Nat} {sg ng : Nat → Int32} {b0 b : Nat} (h : PF I F rt sg ng b0) (hF : FRr I I' b) (hb : b0 ≤ b) : PF I' F rt sg ng b0 := by
  refine ⟨(hF 15 6 (by decide) (by decide) (by omega)).trans h.1, h.2.1, h.2.2.1, fun g hg => ?_⟩
  obtain ⟨h1, h2, h3, h4⟩ := h.2.2.2 g hg
  exact ⟨(hF 21 g (by omega) (by omega) (by omega)).trans h1, h2, (hF 19 _ (by omega) (by omega) (by omega)).trans h3, (hF 20 _ (by omega) (by omega) (by omega)).trans h4⟩
/-- a token is passed -/
theorem PS.passed {I J : MI} {tx : Nat → Nat} {n F : Nat} {rt : Nat → Nat} {sg ng : Nat → Int32} {b0 t t' c : Nat} {l : List Q4} (h : PS I tx n F rt sg ng b0 t c l) (hF : FRp I J) (hC : CRt J tx n t') : PS J tx n F rt sg ng b0 t' c l := by
  obtain ⟨h1, h2, h3, h4, h5, h6, h7, h8⟩ := h
  refine ⟨h1.fr hF, hC, (hF 11 8 (by decide)).trans h3, h4, h5.fr (FRr.ofp hF) (Nat.le_refl _), (hF 15 7 (by decide)).trans h6, h7, fun e q hq => ?_⟩
  obtain ⟨⟨g1, g2, g3⟩, g4⟩ := h8 e q hq
  exact ⟨⟨(hF 16 _ (by omega)).trans g1, (hF 17 _ (by omega)).trans g2, (hF 18 _ (by omega)).trans g3⟩, g4⟩
/-- a node is counted -/
theorem PS.counted {I : MI} {tx : Nat → Nat} {n F : Nat} {rt : Nat → Nat} {sg ng : Nat → Int32} {b0 t c : Nat} {l : List Q4} (h : PS I tx n F rt sg ng b0 t c l) (hc : ¬ 20 ≤ c) : PS (u2 I 11 8 (nI (c + 1))) tx n F rt sg ng b0 t (c + 1) l := by
  obtain ⟨h1, h2, h3, h4, h5, h6, h7, h8⟩ := h
  exact ⟨h1, h2, rfl, by omega, h5, h6, by omega, h8⟩
/-- a node is made -/
theorem PS.made {J : MI} {tx : Nat → Nat} {n F : Nat} {rt : Nat → Nat} {sg ng : Nat → Int32} {b0 t c : Nat} {l : List Q4} {s m : Int32} (q : Q4) (h : PS J tx n F rt sg ng b0 t c l) (hl : l.length < c) (hok : NDok q F l.length) {k a o : Int32} (hk : k = nI (kdS q.1)) (ha : a = nI (oneS rt b0 q)) (ho : o = nI (othS b0 q)) : PS (addN J (b0 + l.length) k a o s m) tx n F rt sg ng b0 t c (l ++ [q]) := by
  obtain ⟨h1, h2, h3, h4, h5, h6, h7, h8⟩ := h
  have off : ∀ c j, ¬ (c = 15 ∧ j = 7) → ¬ (16 ≤ c ∧ c ≤ 20 ∧ j = b0 + l.length) → addN J (b0 + l.length) k a o s m c j = J c j := fun c j q1 q2 => addN_off q1 q2
  refine ⟨⟨(off 11 3 (by decide) (by omega)).trans h1.1, h1.2.1, fun j hj => ?_⟩, h2.fr (off 11 4 (by decide) (by omega)) (off 11 5 (by decide) (by omega)) (off 11 6 (by decide) (by omega)) (off 11 7 (by decide) (by omega)), (off 11 8 (by decide) (by omega)).trans h3, h4, h5.fr (FRr.addN (FRr.refl J (b0 + l.length)) (Nat.le_refl _)) (Nat.le_add_right _ _), ?_, ?_, fun e z hz => ?_⟩
  · exact ⟨(off 22 j (by omega) (by omega)).trans (h1.2.2 j hj).1, (h1.2.2 j hj).2⟩
  · show addN J (b0 + l.length) k a o s m 15 7 = _
    rw [List.length_append]
    exact u2_at _ 15 7 _
  · rw [List.length_append]; exact hl
  · by_cases he : e < l.length
    · rw [List.getElem?_append_left he] at hz
      obtain ⟨⟨g1, g2, g3⟩, g4⟩ := h8 e z hz
      exact ⟨⟨(off 16 _ (by omega) (by omega)).trans g1, (off 17 _ (by omega) (by omega)).trans g2, (off 18 _ (by omega) (by omega)).trans g3⟩, g4⟩
    · rw [List.getElem?_append_right (by omega)] at hz
      have h0 : e - l.length < 1 := (List.getElem?_eq_some_iff.mp hz).1
      have he2 : e = l.length := by omega
      subst he2
      rw [Nat.sub_self] at hz
      cases hz
      exact ⟨⟨addN_16.trans hk, addN_17.trans ha, addN_18.trans ho⟩, hok⟩
theorem tokI_ch {k v ch : Nat} (hk : k ≤ 3) (hv : v < 256) (hc : ch < 256) : tokI k v = nI ch ↔ k = 1 ∧ v = ch := by
  unfold tokI
  split
  · subst_vars; exact ⟨fun q => absurd q.symm (nI_nm1 (by omega)), fun q => absurd q.1 (by decide)⟩
  · split
    · subst_vars
      refine ⟨fun q => ?_, fun q => absurd q.1 (by decide)⟩
      have a := nI_toInt (n := ch) (by omega); rw [← q] at a; have b : ((-2 : Int32)).toInt = -2 := by decide
      omega
    · split
      · subst_vars
        refine ⟨fun q => ?_, fun q => absurd q.1 (by decide)⟩
        have a := nI_toInt (n := ch) (by omega); rw [← q] at a; have b : ((-3 : Int32)).toInt = -3 := by decide
        omega
      · rw [nI_eq (by omega) (by omega)]; omega
theorem tokI_m2 {k v : Nat} (hk : k ≤ 3) (hv : v < 256) : tokI k v = -2 ↔ k = 2 := by
  unfold tokI
  split
  · subst_vars; exact ⟨fun q => absurd q (by decide), fun q => absurd q (by decide)⟩
  · split
    · exact ⟨fun _ => by assumption, fun _ => rfl⟩
    · split
      · exact ⟨fun q => absurd q (by decide), fun q => by omega⟩
      · refine ⟨fun q => ?_, fun q => by omega⟩
        have a := nI_toInt (n := v) (by omega); rw [q] at a; have b : ((-2 : Int32)).toInt = -2 := by decide
        omega
theorem tokI_m1 {k v : Nat} (hk : k ≤ 3) (hv : v < 256) : tokI k v = -1 ↔ k = 0 := by
  unfold tokI
  split
  · exact ⟨fun _ => by assumption, fun _ => rfl⟩
  · split
    · exact ⟨fun q => absurd q (by decide), fun q => by omega⟩
    · split
      · exact ⟨fun q => absurd q (by decide), fun q => by omega⟩
      · exact ⟨fun q => absurd q (nI_nm1 (by omega)), fun q => by omega⟩
theorem tok_bd {tx : Nat → Nat} {n : Nat} (htx : ∀ j, j < n → tx j < 256) {p : Nat} (hp : p ≤ n) : (tokP tx n p).2.2.1 ≤ 3 ∧ (tokP tx n p).2.2.2 < 256 ∧ ((tokP tx n p).2.2.1 = 2 → (tokP tx n p).2.2.2 ≤ 99) := by
  have hs := skp_le tx n (n - p) p
  unfold tokP
  split
  · exact ⟨Nat.zero_le 3, (by decide : 0 < 256), fun q => by cases q⟩
  · rename_i hq
    have h1 := htx (skp tx n (n - p) p) (by omega)
    split
    · rename_i hD
      have hd := isD_t hD
      obtain ⟨q, hqq⟩ : ∃ q, skp tx n (n - p) p = q := ⟨_, rfl⟩
      rw [hqq] at hq hD hd h1 ⊢
      obtain ⟨E, hE⟩ : ∃ E, dgE tx n (n - (q + 1)) (q + 1) = E := ⟨_, rfl⟩
      have hle := dgE_le tx n (n - (q + 1)) (q + 1)
      rw [hE] at hle ⊢
      have h2 : E ≠ q + 1 → tx (q + 1) < 256 ∧ 48 ≤ tx (q + 1) ∧ tx (q + 1) ≤ 57 := by
        intro hne
        have : q + 1 < n := by omega
        refine ⟨htx _ this, ?_⟩
        have hf : ∃ f, n - (q + 1) = f + 1 := ⟨n - (q + 1) - 1, by omega⟩
        obtain ⟨f, hf⟩ := hf
        rw [hf] at hE
        unfold dgE at hE
        split at hE
        · rename_i hz; exact isD_t hz.2
        · exact absurd hE.symm hne
      show (if E = q + 1 then 2 else if E = q + 2 ∧ tx q ≠ 48 then 2 else 3) ≤ 3 ∧ (if E = q + 1 then tx q - 48 else (tx q - 48) * 10 + tx (q + 1) - 48) < 256 ∧ ((if E = q + 1 then 2 else if E = q + 2 ∧ tx q ≠ 48 then 2 else 3) = 2 → (if E = q + 1 then tx q - 48 else (tx q - 48) * 10 + tx (q + 1) - 48) ≤ 99)
      by_cases hE1 : E = q + 1
      · rw [if_pos hE1, if_pos hE1]; omega
      · rw [if_neg hE1, if_neg hE1]
        have := h2 hE1
        split <;> omega
    · exact ⟨by show 1 ≤ 3; decide, h1, fun q => by cases q⟩
theorem tk_bd {I : MI} {tx : Nat → Nat} {n : Nat} (h : TXc I tx n) (t : Nat) : tkK tx n t ≤ 3 ∧ tkV tx n t < 256 ∧ (tkK tx n t = 2 → tkV tx n t ≤ 99) := tok_bd (fun j hj => (h.2.2 j hj).2) (bps_le tx n t)
