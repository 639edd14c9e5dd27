theorem wS_congr {sg : Nat → Int32} {l l' : List Q4} {s : Nat} : ∀ {k : Nat}, (∀ e, s ≤ e → e < s + k → l'[e]? = l[e]?) → wS sg l' s k = wS sg l s k
  | 0, _ => rfl
  | k + 1, h => by
    unfold wS
    rw [wS_congr (fun e h1 h2 => h e h1 (by omega)), List.getD_eq_getElem?_getD, List.getD_eq_getElem?_getD, h (s + k) (by omega) (by omega)]
theorem wN_congr {ng : Nat → Int32} {l l' : List Q4} {s : Nat} : ∀ {k : Nat}, (∀ e, s ≤ e → e < s + k → l'[e]? = l[e]?) → wN ng l' s k = wN ng l s k
  | 0, _ => rfl
  | k + 1, h => by
    unfold wN
    rw [wN_congr (fun e h1 h2 => h e h1 (by omega)), List.getD_eq_getElem?_getD, List.getD_eq_getElem?_getD, h (s + k) (by omega) (by omega)]
theorem wS_add (sg : Nat → Int32) (l : List Q4) (s a : Nat) : ∀ b, wS sg l s (a + b) = wS sg l s a + wS sg l (s + a) b
  | 0 => by show wS sg l s a = wS sg l s a + 0; rw [Int32.add_zero]
  | b + 1 => by
    show wS sg l s (a + b) + _ = wS sg l s a + (wS sg l (s + a) b + _)
    rw [wS_add sg l s a b, Int32.add_assoc, Nat.add_assoc]
    rfl
theorem wN_add (ng : Nat → Int32) (l : List Q4) (s a : Nat) : ∀ b, wN ng l s (a + b) = wN ng l s a ||| wN ng l (s + a) b
  | 0 => by show wN ng l s a = wN ng l s a ||| 0; rw [Int32.or_zero]
  | b + 1 => by
    show wN ng l s (a + b) ||| _ = wN ng l s a ||| (wN ng l (s + a) b ||| _)
    rw [wN_add ng l s a b, Int32.or_assoc, Nat.add_assoc]
    rfl
theorem getD_last (l : List Q4) (q z : Q4) : (l ++ [q]).getD l.length z = q := by
  rw [List.getD_eq_getElem?_getD, List.getElem?_append_right (Nat.le_refl _), Nat.sub_self]
  rfl
/-- what a piece of a formula has told -/
def GR (J : MI) (sg ng : Nat → Int32) (b0 c : Nat) (l : List Q4) (i c' : Nat) (l' : List Q4) : Prop :=
  l.length < l'.length ∧ i + 1 = l'.length ∧ l'.length + c ≤ c' + l.length ∧ (∀ e, e < l.length → l'[e]? = l[e]?) ∧ J 19 (b0 + i) = wS sg l' l.length (l'.length - l.length) ∧ J 20 (b0 + i) = wN ng l' l.length (l'.length - l.length)
theorem GR.leaf {J : MI} {sg ng : Nat → Int32} {b0 c : Nat} {l : List Q4} {k a o s m : Int32} (q : Q4) (hs : s = nI 1 + (if q.1 = 2 then sg q.2.1 else nI 0)) (hm : m = (if q.1 = 2 then ng q.2.1 else if q.1 = 1 then nI 1 <<< (nI q.2.1 &&& 31) else nI 0)) : GR (addN J (b0 + l.length) k a o s m) sg ng b0 c l l.length (c + 1) (l ++ [q]) := by
  refine ⟨by rw [List.length_append]; exact Nat.lt_succ_self _, by rw [List.length_append]; rfl, by rw [List.length_append]; show l.length + 1 + c ≤ c + 1 + l.length; omega, fun e he => List.getElem?_append_left he, ?_, ?_⟩
  · rw [addN_19, hs, List.length_append, show l.length + [q].length - l.length = 0 + 1 from Nat.add_sub_cancel_left _ _]
    unfold wS
    rw [Nat.add_zero, getD_last]
    show _ = 0 + _
    rw [Int32.zero_add]
  · rw [addN_20, hm, List.length_append, show l.length + [q].length - l.length = 0 + 1 from Nat.add_sub_cancel_left _ _]
    unfold wN
    rw [Nat.add_zero, getD_last]
    show _ = 0 ||| _
    rw [Int32.zero_or]
theorem GR.un {J : MI} {sg ng : Nat → Int32} {b0 c i c' c2 : Nat} {l l' : List Q4} {k a o s m : Int32} (q : Q4) (h : GR J sg ng b0 c l i c' l') (hq : 94 ≤ q.1) (hc : l'.length + 1 + c ≤ c2 + l.length) (hs : s = nI 1 + J 19 (b0 + i)) (hm : m = J 20 (b0 + i)) : GR (addN J (b0 + l'.length) k a o s m) sg ng b0 c l l'.length c2 (l' ++ [q]) := by
  obtain ⟨h1, h2, h3, h4, h5, h6⟩ := h
  have hlen : (l' ++ [q]).length - l.length = (l'.length - l.length) + 1 := by rw [List.length_append]; show l'.length + 1 - l.length = _; omega
  have hpl : l.length + (l'.length - l.length) = l'.length := by omega
  refine ⟨by rw [List.length_append]; show l.length < l'.length + 1; omega, by rw [List.length_append]; rfl, by rw [List.length_append]; show l'.length + 1 + c ≤ c2 + l.length; omega, fun e he => by rw [List.getElem?_append_left (by omega)]; exact h4 e he, ?_, ?_⟩
  · rw [addN_19, hlen, hs, h5]
    unfold wS
    rw [hpl, getD_last, if_neg (by omega), wS_congr (l := l') (fun e h7 h8 => List.getElem?_append_left (by omega))]
    rw [show nI 1 + nI 0 = nI 1 from by decide, Int32.add_comm]
    cases hk : l'.length - l.length with
    | zero => omega
    | succ z => rfl
  · rw [addN_20, hlen, hm, h6]
    unfold wN
    rw [hpl, getD_last, if_neg (by omega), if_neg (by omega), wN_congr (l := l') (fun e h7 h8 => List.getElem?_append_left (by omega))]
    rw [show (nI 0 : Int32) = 0 from rfl, Int32.or_zero]
    cases hk : l'.length - l.length with
    | zero => omega
    | succ z => rfl
theorem GR.bin {J0 J : MI} {sg ng : Nat → Int32} {b0 c i c1 j c2 c3 : Nat} {l l1 l2 : List Q4} {k a o s m : Int32} (q : Q4) (h : GR J0 sg ng b0 c l i c1 l1) (hJ : FRr J0 J (b0 + l1.length)) (g : GR J sg ng b0 (c1 + 1) l1 j c2 l2) (hq : q.1 = 42 ∨ q.1 = 43 ∨ q.1 = 45) (hc : c3 = c2) (hs : s = nI 1 + J 19 (b0 + i) + J 19 (b0 + j)) (hm : m = J 20 (b0 + i) ||| J 20 (b0 + j)) : GR (addN J (b0 + l2.length) k a o s m) sg ng b0 c l l2.length c3 (l2 ++ [q]) := by
  subst hc
  obtain ⟨h1, h2, h3, h4, h5, h6⟩ := h
  obtain ⟨g1, g2, g3, g4, g5, g6⟩ := g
  have hlen : (l2 ++ [q]).length - l.length = ((l1.length - l.length) + (l2.length - l1.length)) + 1 := by rw [List.length_append]; show l2.length + 1 - l.length = _; omega
  have hpl : l.length + ((l1.length - l.length) + (l2.length - l1.length)) = l2.length := by omega
  have hp1 : l.length + (l1.length - l.length) = l1.length := by omega
  have e19 : J 19 (b0 + i) = wS sg l1 l.length (l1.length - l.length) := (hJ 19 _ (by omega) (by omega) (by omega)).trans h5
  have e20 : J 20 (b0 + i) = wN ng l1 l.length (l1.length - l.length) := (hJ 20 _ (by omega) (by omega) (by omega)).trans h6
  refine ⟨by rw [List.length_append]; show l.length < l2.length + 1; omega, by rw [List.length_append]; rfl, by rw [List.length_append]; show l2.length + 1 + c ≤ c3 + l.length; omega, fun e he => by rw [List.getElem?_append_left (by omega), g4 e (by omega)]; exact h4 e he, ?_, ?_⟩
  · rw [addN_19, hlen, hs, e19, g5]
    show _ = wS sg (l2 ++ [q]) l.length ((l1.length - l.length) + (l2.length - l1.length)) + _
    rw [hpl, getD_last, if_neg (by omega), wS_add, hp1, wS_congr (l := l1) (l' := l2 ++ [q]) (s := l.length) (fun e h7 h8 => by rw [List.getElem?_append_left (by omega)]; exact g4 e (by omega)), wS_congr (l := l2) (l' := l2 ++ [q]) (s := l1.length) (fun e h7 h8 => List.getElem?_append_left (by omega))]
    rw [show nI 1 + nI 0 = nI 1 from by decide, Int32.add_assoc, Int32.add_comm]
  · rw [addN_20, hlen, hm, e20, g6]
    show _ = wN ng (l2 ++ [q]) l.length ((l1.length - l.length) + (l2.length - l1.length)) ||| _
    rw [hpl, getD_last, if_neg (by omega), if_neg (by omega), wN_add, hp1, wN_congr (l := l1) (l' := l2 ++ [q]) (s := l.length) (fun e h7 h8 => by rw [List.getElem?_append_left (by omega)]; exact g4 e (by omega)), wN_congr (l := l2) (l' := l2 ++ [q]) (s := l1.length) (fun e h7 h8 => List.getElem?_append_left (by omega))]
    rw [show (nI 0 : Int32) = 0 from rfl, Int32.or_zero]
/-- the end of a reading method -/
def QR (I : MI) (L : ML) (tx : Nat → Nat) (n F : Nat) (rt : Nat → Nat) (sg ng : Nat → Int32) (b0 c : Nat) (l : List Q4) (r : RD) (T : TR) : Prop := match r with
  | .inl u => ∃ J, T = (some (.int (-1)), shF, J, L) ∧ FRr I J (b0 + l.length) ∧ CRt J tx n u
  | .inr (i, u, c', l') => ∃ J, T = (some (.int (nI (b0 + i))), shF, J, L) ∧ FRr I J (b0 + l.length) ∧ PS J tx n F rt sg ng b0 u c' l' ∧ GR J sg ng b0 c l i c' l'
theorem s_countNode_t (X : Ctx) (d : Nat) (I : MI) (L : ML) (c : Nat) (h8 : I 11 8 = nI c) (hc : ¬ 20 ≤ c) : Sp X mX2_countNode (d + 0) (0, 0) [.ref 11] shF I L (some (.int (nI 1)), shF, (u2 I 11 8 (nI (c + 1))), L) := by
  refine Sp.of okX2_countNode [.ref 11] 0 rfl (Nat.le_of_ble_eq_true rfl) ?_
  refine r_aload_n (pc := 0) dX2_countNode_0 rfl ?_
  refine r_getV (pc := 1) (v := nI c) dX2_countNode_1 fX2_87 rfl rfl (h8) ?_
  refine r_bipush (pc := 4) dX2_countNode_4 bp_20 ?_
  refine r_icmpN_lt (pc := 6) (tgt := 11) dX2_countNode_6 (by decide) (by omega) (by omega) (fun c1 => ?_) (fun c1 => ?_)
  · refine r_aload_n (pc := 11) dX2_countNode_11 rfl ?_
    refine r_dup (pc := 12) dX2_countNode_12 rfl ?_
    refine r_getV (pc := 13) (v := nI c) dX2_countNode_13 fX2_87 rfl rfl (h8) ?_
    refine r_iconst (pc := 16) (v := nI 1) dX2_countNode_16 rfl ?_
    refine r_iaddN (pc := 17) dX2_countNode_17 ?_
    refine r_put (pc := 18) .int dX2_countNode_18 fX2_87 rfl rfl nf2_8 rfl rfl ?_
    refine r_iconst (pc := 21) (v := nI 1) dX2_countNode_21 rfl ?_
    exact r_zret dX2_countNode_22 rfl (by decide) (rfl) rfl
  · exact absurd c1 (by omega)
theorem s_countNode_f (X : Ctx) (d : Nat) (I : MI) (L : ML) (c : Nat) (h8 : I 11 8 = nI c) (hc : 20 ≤ c) (hc2 : c ≤ 20) : Sp X mX2_countNode (d + 0) (0, 0) [.ref 11] shF I L (some (.int (nI 0)), shF, I, L) := by
  refine Sp.of okX2_countNode [.ref 11] 0 rfl (Nat.le_of_ble_eq_true rfl) ?_
  refine r_aload_n (pc := 0) dX2_countNode_0 rfl ?_
  refine r_getV (pc := 1) (v := nI c) dX2_countNode_1 fX2_87 rfl rfl (h8) ?_
  refine r_bipush (pc := 4) dX2_countNode_4 bp_20 ?_
  refine r_icmpN_lt (pc := 6) (tgt := 11) dX2_countNode_6 (by decide) (by omega) (by omega) (fun c1 => ?_) (fun c1 => ?_)
  · exact absurd c1 (by omega)
  · refine r_iconst (pc := 9) (v := nI 0) dX2_countNode_9 rfl ?_
    exact r_zret dX2_countNode_10 rfl (by decide) (rfl) rfl
theorem s_sourceAtHand (X : Ctx) (d : Nat) (I : MI) (L : ML) (x : Int32) (h4 : I 11 4 = x) : Sp X mX2_sourceAtHand (d + 0) (0, 0) [.ref 11] shF I L (some (.int (x - nI 97)), shF, I, L) := by
  refine Sp.of okX2_sourceAtHand [.ref 11] 0 rfl (Nat.le_of_ble_eq_true rfl) ?_
  refine r_aload_n (pc := 0) dX2_sourceAtHand_0 rfl ?_
  refine r_getV (pc := 1) (v := x) dX2_sourceAtHand_1 fX2_43 rfl rfl (h4) ?_
  refine r_bipush (pc := 4) dX2_sourceAtHand_4 bp_97 ?_
  refine r_isub (pc := 6) dX2_sourceAtHand_6 ?_
  exact r_iret dX2_sourceAtHand_7 rfl (rfl) rfl
theorem s_sourceAtHand_t (X : Ctx) (d : Nat) (I : MI) (L : ML) (v : Nat) (h4 : I 11 4 = nI v) (hv : 97 ≤ v) : Sp X mX2_sourceAtHand (d + 0) (0, 0) [.ref 11] shF I L (some (.int (nI (v - 97))), shF, I, L) := by
  refine Sp.of okX2_sourceAtHand [.ref 11] 0 rfl (Nat.le_of_ble_eq_true rfl) ?_
  refine r_aload_n (pc := 0) dX2_sourceAtHand_0 rfl ?_
  refine r_getV (pc := 1) (v := nI v) dX2_sourceAtHand_1 fX2_43 rfl rfl (h4) ?_
  refine r_bipush (pc := 4) dX2_sourceAtHand_4 bp_97 ?_
  refine r_isubN (pc := 6) dX2_sourceAtHand_6 (by omega) ?_
  exact r_iret dX2_sourceAtHand_7 rfl (rfl) rfl
theorem not_src {k v : Nat} (hk : k ≤ 3) (hv : v < 256) (h : ¬ (k = 1 ∧ 97 ≤ v ∧ v ≤ 102)) : tokI k v - nI 97 < 0 ∨ nI 6 ≤ tokI k v - nI 97 := by
  have hx : (-3 : Int) ≤ (tokI k v).toInt ∧ (tokI k v).toInt < 256 ∧ ¬ (97 ≤ (tokI k v).toInt ∧ (tokI k v).toInt ≤ 102) := by
    unfold tokI
    split
    · decide
    · split
      · decide
      · split
        · decide
        · rw [nI_toInt (by omega)]; omega
  have e : (tokI k v - nI 97).toInt = (tokI k v).toInt - 97 := by
    rw [Int32.toInt_sub, show (nI 97).toInt = 97 from rfl]
    obtain ⟨h1, h2, -⟩ := hx
    generalize (tokI k v).toInt = z at h1 h2 ⊢
    rw [Int.bmod_eq_of_le (by omega) (by omega)]
  rw [Int32.lt_iff_toInt_lt, Int32.le_iff_toInt_le, e, show ((0 : Int32)).toInt = 0 from rfl, show (nI 6).toInt = 6 from rfl]
  omega
