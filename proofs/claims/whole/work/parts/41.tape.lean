/-- the nodes ahead of formula g -/
def bsF (fs : List (List Q4)) : Nat → Nat
  | 0 => 0
  | g + 1 => bsF fs g + (fs.getD g []).length
def rtF (fs : List (List Q4)) (g : Nat) : Nat := bsF fs (g + 1) - 1
theorem bsF_app {fs : List (List Q4)} {l : List Q4} : ∀ {g : Nat}, g ≤ fs.length → bsF (fs ++ [l]) g = bsF fs g
  | 0, _ => rfl
  | g + 1, h => by
    show bsF (fs ++ [l]) g + _ = bsF fs g + _
    rw [bsF_app (g := g) (by omega), List.getD_eq_getElem?_getD, List.getD_eq_getElem?_getD, List.getElem?_append_left (by omega)]
theorem bsF_new {fs : List (List Q4)} {l : List Q4} : bsF (fs ++ [l]) (fs.length + 1) = bsF fs fs.length + l.length := by
  show bsF (fs ++ [l]) fs.length + _ = _
  rw [bsF_app (Nat.le_refl _), List.getD_eq_getElem?_getD, List.getElem?_append_right (Nat.le_refl _), Nat.sub_self]
  rfl
theorem bsF_mono {fs : List (List Q4)} {g : Nat} : ∀ {h : Nat}, g ≤ h → bsF fs g ≤ bsF fs h
  | 0, q => by rw [show g = 0 by omega]; exact Nat.le_refl _
  | h + 1, q => by
    by_cases e : g = h + 1
    · rw [e]; exact Nat.le_refl _
    · have := bsF_mono (fs := fs) (g := g) (h := h) (by omega)
      show _ ≤ bsF fs h + _
      omega
theorem bsF_le {fs : List (List Q4)} (hl : ∀ g, g < fs.length → (fs.getD g []).length ≤ 20) : ∀ {g : Nat}, g ≤ fs.length → bsF fs g ≤ 20 * g
  | 0, _ => Nat.le_refl _
  | g + 1, h => by
    have a := bsF_le hl (g := g) (by omega)
    have b := hl g (by omega)
    show bsF fs g + _ ≤ _
    omega
theorem wS_sg {sg sg' : Nat → Int32} {l : List Q4} (h : ∀ (e : Nat) (q : Q4), l[e]? = some q → q.1 = 2 → sg' q.2.1 = sg q.2.1) : ∀ k, wS sg' l 0 k = wS sg l 0 k
  | 0 => rfl
  | k + 1 => by
    unfold wS
    rw [wS_sg h k]
    cases hq : l[0 + k]? with
    | none => rw [List.getD_eq_getElem?_getD, hq]; rfl
    | some q =>
      rw [List.getD_eq_getElem?_getD, hq]
      show _ + (_ + (if q.1 = 2 then sg' q.2.1 else _)) = _ + (_ + (if q.1 = 2 then sg q.2.1 else _))
      by_cases h2 : q.1 = 2
      · rw [if_pos h2, if_pos h2, h _ q hq h2]
      · rw [if_neg h2, if_neg h2]
theorem wN_sg {sg sg' : Nat → Int32} {l : List Q4} (h : ∀ (e : Nat) (q : Q4), l[e]? = some q → q.1 = 2 → sg' q.2.1 = sg q.2.1) : ∀ k, wN sg' l 0 k = wN sg l 0 k
  | 0 => rfl
  | k + 1 => by
    unfold wN
    rw [wN_sg h k]
    cases hq : l[0 + k]? with
    | none => rw [List.getD_eq_getElem?_getD, hq]; rfl
    | some q =>
      rw [List.getD_eq_getElem?_getD, hq]
      show _ ||| (if q.1 = 2 then sg' q.2.1 else _) = _ ||| (if q.1 = 2 then sg q.2.1 else _)
      by_cases h2 : q.1 = 2
      · rw [if_pos h2, if_pos h2, h _ q hq h2]
      · rw [if_neg h2, if_neg h2]
/-- formula g of the tape at cell a -/
def FPa (I : MI) (a : Nat) (fs : List (List Q4)) (g : Nat) (l : List Q4) : Prop := 1 ≤ l.length ∧ l.length ≤ 20 ∧ I (a + 6) g = nI (bsF fs g + l.length) ∧ (∀ (e : Nat) (q : Q4), l[e]? = some q → I (a + 1) (bsF fs g + e) = nI (kdS q.1) ∧ I (a + 2) (bsF fs g + e) = nI (oneS (rtF fs) (bsF fs g) q) ∧ I (a + 3) (bsF fs g + e) = nI (othS (bsF fs g) q) ∧ NDok q g e) ∧ I (a + 4) (bsF fs g + l.length - 1) = wS (fun h => I (a + 4) (rtF fs h)) l 0 l.length ∧ I (a + 5) (bsF fs g + l.length - 1) = wN (fun h => I (a + 5) (rtF fs h)) l 0 l.length
/-- the tape at cell a holds the formulas fs -/
def TPa (I : MI) (a : Nat) (fs : List (List Q4)) : Prop := I a 6 = nI fs.length ∧ fs.length ≤ 4 ∧ I a 7 = nI (bsF fs fs.length) ∧ ∀ g, g < fs.length → FPa I a fs g (fs.getD g [])
theorem TPa.rt {I : MI} {a : Nat} {fs : List (List Q4)} (h : TPa I a fs) {g : Nat} (hg : g < fs.length) : rtF fs g + 1 = bsF fs (g + 1) ∧ bsF fs (g + 1) ≤ bsF fs fs.length := by
  have a1 := (h.2.2.2 g hg).1
  have a2 := bsF_mono (fs := fs) (g := g + 1) (h := fs.length) (by omega)
  refine ⟨?_, a2⟩
  unfold rtF
  show bsF fs g + _ - 1 + 1 = bsF fs g + _
  omega
theorem TPa.b80 {I : MI} {a : Nat} {fs : List (List Q4)} (h : TPa I a fs) {g : Nat} (hg : g ≤ fs.length) : bsF fs g ≤ 20 * g := bsF_le (fun g hg => (h.2.2.2 g hg).2.1) hg
theorem TPa.pf {I : MI} {fs : List (List Q4)} (h : TPa I 15 fs) (h4 : fs.length < 4) : PF I fs.length (rtF fs) (fun k => I 19 (rtF fs k)) (fun k => I 20 (rtF fs k)) (bsF fs fs.length) := by
  refine ⟨h.1, h.2.1, ?_, fun g hg => ?_⟩
  · have := h.b80 (Nat.le_refl _)
    omega
  · have a := h.rt hg
    refine ⟨?_, by omega, rfl, rfl⟩
    rw [a.1]
    exact (h.2.2.2 g hg).2.2.1
/-- what a tape tells depends on its used places only -/
theorem TPa.tr {I J : MI} {a b : Nat} {fs : List (List Q4)} (h : TPa I a fs) (h6 : J b 6 = I a 6) (h7 : J b 7 = I a 7) (hp : ∀ j, j < bsF fs fs.length → J (b + 1) j = I (a + 1) j ∧ J (b + 2) j = I (a + 2) j ∧ J (b + 3) j = I (a + 3) j ∧ J (b + 4) j = I (a + 4) j ∧ J (b + 5) j = I (a + 5) j) (hs : ∀ j, j < fs.length → J (b + 6) j = I (a + 6) j) : TPa J b fs := by
  refine ⟨h6.trans h.1, h.2.1, h7.trans h.2.2.1, fun g hg => ?_⟩
  obtain ⟨f1, f2, f3, f4, f5, f6⟩ := h.2.2.2 g hg
  have hb : bsF fs g + (fs.getD g []).length ≤ bsF fs fs.length := bsF_mono (fs := fs) (g := g + 1) (h := fs.length) (by omega)
  have hr : ∀ (e : Nat) (q : Q4), (fs.getD g [])[e]? = some q → q.1 = 2 → rtF fs q.2.1 < bsF fs fs.length := by
    intro e q hq h2
    have ok := (f4 e q hq).2.2.2
    unfold NDok at ok
    have := h.rt (g := q.2.1) (by omega)
    omega
  refine ⟨f1, f2, (hs g hg).trans f3, fun e q hq => ?_, ?_, ?_⟩
  · obtain ⟨q1, q2, q3, q4⟩ := f4 e q hq
    have he := (List.getElem?_eq_some_iff.mp hq).1
    have p := hp (bsF fs g + e) (by omega)
    exact ⟨p.1.trans q1, p.2.1.trans q2, p.2.2.1.trans q3, q4⟩
  · rw [(hp _ (by omega)).2.2.2.1, f5]
    exact (wS_sg (fun e q hq h2 => (hp _ (hr e q hq h2)).2.2.2.1) _).symm
  · rw [(hp _ (by omega)).2.2.2.2, f6]
    exact (wN_sg (fun e q hq h2 => (hp _ (hr e q hq h2)).2.2.2.2) _).symm
/-- a formula more -/
theorem TPa.more {I J : MI} {tx : Nat → Nat} {n u i c : Nat} {fs : List (List Q4)} {l : List Q4} (h : TPa I 15 fs) (h4 : fs.length < 4) (hF : FRr I J (bsF fs fs.length)) (hP : PS J tx n fs.length (rtF fs) (fun k => I 19 (rtF fs k)) (fun k => I 20 (rtF fs k)) (bsF fs fs.length) u c l) (hG : GR J (fun k => I 19 (rtF fs k)) (fun k => I 20 (rtF fs k)) (bsF fs fs.length) 0 [] i c l) : TPa (u2 (u2 J 21 fs.length (nI (bsF fs fs.length + l.length))) 15 6 (nI (fs.length + 1))) 15 (fs ++ [l]) := by
  have hl1 : 0 < l.length := hG.1
  have hl2 : l.length ≤ 20 := by have a := hP.2.2.2.2.2.2.1; have b := hP.2.2.2.1; omega
  have hlen : (fs ++ [l]).length = fs.length + 1 := by rw [List.length_append]; rfl
  have hH : ∀ c, c ≠ 21 → c ≠ 15 → u2 (u2 J 21 fs.length (nI (bsF fs fs.length + l.length))) 15 6 (nI (fs.length + 1)) c = J c := fun c h1 h2 => (u2_off h2).trans (u2_off h1)
  have hrt : ∀ g, g < fs.length → rtF (fs ++ [l]) g = rtF fs g ∧ rtF fs g < bsF fs fs.length := fun g hg => by
    have a := h.rt hg
    refine ⟨?_, by omega⟩
    unfold rtF
    rw [bsF_app (by omega)]
  have h19 : ∀ (g : Nat) (l2 : List Q4), g ≤ fs.length → (∀ (e : Nat) (q : Q4), l2[e]? = some q → NDok q g e) → ∀ (e : Nat) (q : Q4), l2[e]? = some q → q.1 = 2 → J 19 (rtF (fs ++ [l]) q.2.1) = I 19 (rtF fs q.2.1) ∧ J 20 (rtF (fs ++ [l]) q.2.1) = I 20 (rtF fs q.2.1) := by
    intro g l2 hg hok e q hq h2
    have ok := hok e q hq
    unfold NDok at ok
    have a := hrt q.2.1 (by omega)
    rw [a.1]
    exact ⟨hF 19 _ (by omega) (by omega) (by omega), hF 20 _ (by omega) (by omega) (by omega)⟩
  refine ⟨by rw [hlen]; exact u2_at _ 15 6 _, by omega, ?_, fun g hg => ?_⟩
  · rw [hlen, bsF_new]
    exact (u2_ne (by omega)).trans ((congrFun (u2_off (by decide)) 7).trans hP.2.2.2.2.2.1)
  · by_cases hgF : g < fs.length
    · have e1 : (fs ++ [l]).getD g [] = fs.getD g [] := by rw [List.getD_eq_getElem?_getD, List.getD_eq_getElem?_getD, List.getElem?_append_left hgF]
      rw [e1]
      obtain ⟨f1, f2, f3, f4, f5, f6⟩ := h.2.2.2 g hgF
      have hb : bsF fs g + (fs.getD g []).length ≤ bsF fs fs.length := bsF_mono (fs := fs) (g := g + 1) (h := fs.length) (by omega)
      unfold FPa
      rw [bsF_app (by omega)]
      refine ⟨f1, f2, ?_, fun e q hq => ?_, ?_, ?_⟩
      · exact ((congrFun (u2_off (by decide)) g).trans (u2_ne (by omega))).trans ((hF 21 g (by omega) (by omega) (by omega)).trans f3)
      · obtain ⟨q1, q2, q3, q4⟩ := f4 e q hq
        have he := (List.getElem?_eq_some_iff.mp hq).1
        have e2 : oneS (rtF (fs ++ [l])) (bsF fs g) q = oneS (rtF fs) (bsF fs g) q := by
          unfold oneS
          by_cases h2 : q.1 = 2
          · have ok := q4
            unfold NDok at ok
            rw [(hrt q.2.1 (by omega)).1]
          · rw [if_neg h2, if_neg h2]
        rw [e2]
        exact ⟨(congrFun (hH 16 (by decide) (by decide)) _).trans ((hF 16 _ (by omega) (by omega) (by omega)).trans q1), (congrFun (hH 17 (by decide) (by decide)) _).trans ((hF 17 _ (by omega) (by omega) (by omega)).trans q2), (congrFun (hH 18 (by decide) (by decide)) _).trans ((hF 18 _ (by omega) (by omega) (by omega)).trans q3), q4⟩
      · refine (congrFun (hH 19 (by decide) (by decide)) _).trans ((hF 19 _ (by omega) (by omega) (by omega)).trans (f5.trans ?_))
        refine (wS_sg (fun e q hq h2 => ?_) _).symm
        exact (congrFun (hH 19 (by decide) (by decide)) _).trans (h19 g _ (by omega) (fun e q hq => (f4 e q hq).2.2.2) e q hq h2).1
      · refine (congrFun (hH 20 (by decide) (by decide)) _).trans ((hF 20 _ (by omega) (by omega) (by omega)).trans (f6.trans ?_))
        refine (wN_sg (fun e q hq h2 => ?_) _).symm
        exact (congrFun (hH 20 (by decide) (by decide)) _).trans (h19 g _ (by omega) (fun e q hq => (f4 e q hq).2.2.2) e q hq h2).2
    · have hgF2 : g = fs.length := by omega
      subst hgF2
      have e1 : (fs ++ [l]).getD fs.length [] = l := by rw [List.getD_eq_getElem?_getD, List.getElem?_append_right (Nat.le_refl _), Nat.sub_self]; rfl
      rw [e1]
      unfold FPa
      rw [bsF_app (Nat.le_refl _)]
      have hi := hG.2.1
      have hi2 : bsF fs fs.length + l.length - 1 = bsF fs fs.length + i := by omega
      refine ⟨hl1, hl2, ?_, fun e q hq => ?_, ?_, ?_⟩
      · exact (congrFun (u2_off (by decide)) _).trans (u2_at J 21 _ _)
      · obtain ⟨⟨q1, q2, q3⟩, q4⟩ := hP.2.2.2.2.2.2.2 e q hq
        have e2 : oneS (rtF (fs ++ [l])) (bsF fs fs.length) q = oneS (rtF fs) (bsF fs fs.length) q := by
          unfold oneS
          by_cases h2 : q.1 = 2
          · have ok := q4
            unfold NDok at ok
            rw [(hrt q.2.1 (by omega)).1]
          · rw [if_neg h2, if_neg h2]
        rw [e2]
        exact ⟨(congrFun (hH 16 (by decide) (by decide)) _).trans q1, (congrFun (hH 17 (by decide) (by decide)) _).trans q2, (congrFun (hH 18 (by decide) (by decide)) _).trans q3, q4⟩
      · rw [hi2]
        refine (congrFun (hH 19 (by decide) (by decide)) _).trans (hG.2.2.2.2.1.trans ?_)
        refine (wS_sg (fun e q hq h2 => ?_) _).symm
        exact (congrFun (hH 19 (by decide) (by decide)) _).trans (h19 _ _ (Nat.le_refl _) (fun e q hq => (hP.2.2.2.2.2.2.2 e q hq).2) e q hq h2).1
      · rw [hi2]
        refine (congrFun (hH 20 (by decide) (by decide)) _).trans (hG.2.2.2.2.2.trans ?_)
        refine (wN_sg (fun e q hq h2 => ?_) _).symm
        exact (congrFun (hH 20 (by decide) (by decide)) _).trans (h19 _ _ (Nat.le_refl _) (fun e q hq => (hP.2.2.2.2.2.2.2 e q hq).2) e q hq h2).2
