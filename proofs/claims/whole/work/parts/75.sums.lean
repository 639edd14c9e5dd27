/-! what both make of slopes -/
theorem b01 (x : Int32) : x &&& nI 1 = 0 ∨ x &&& nI 1 = nI 1 := by
  have h : (x &&& nI 1).toBitVec = BitVec.setWidth 32 (BitVec.ofBool (x.toBitVec.getLsbD 0)) := BitVec.and_one_eq_setWidth_ofBool_getLsbD (x := x.toBitVec)
  cases hb : x.toBitVec.getLsbD 0 with
  | false => exact Or.inl (Int32.toBitVec_inj.mp (by rw [h, hb]; rfl))
  | true => exact Or.inr (Int32.toBitVec_inj.mp (by rw [h, hb]; rfl))
theorem hasB_n {set : Int32} {x : Nat} (h : (set >>> (nI x &&& 31)) &&& nI 1 = 0) : ¬ hasB set (nI x) = true := fun z => by
  have g := of_decide_eq_true z
  rw [h] at g
  exact absurd g (by decide)
theorem hasB_y {set : Int32} {x : Nat} (h : ¬ (set >>> (nI x &&& 31)) &&& nI 1 = 0) : hasB set (nI x) = true := decide_eq_true ((b01 _).resolve_left h)
theorem toI_n {a b : Nat → Int64} {J : Nat → Nat → Int32} {sure : Int32} {x : Nat} {acc : Int64} (h : hasB sure (nI x) = true) : ∀ y, toI a b J sure x acc y = acc
  | 0 => rfl
  | y + 1 => by
    unfold toI
    rw [if_pos h, toI_n h y, Int64.add_zero]
theorem toI_y {I : MI} {p q a b : Nat → Int64} {J : Nat → Nat → Int32} {sure : Int32} {x : Nat} {acc : Int64} (hp : p x = a x) (hq : ∀ t, t < 6 → q t = b t) (hJ : ∀ t, t < 6 → I 3 (x * 6 + t) = J x t) (h : ¬ hasB sure (nI x) = true) : ∀ y, y ≤ 6 → toI a b J sure x acc y = acc + ptS I p q sure x y
  | 0, _ => (Int64.add_zero acc).symm
  | y + 1, hy => by
    unfold toI ptS
    rw [if_neg h, toI_y hp hq hJ h y (by omega)]
    by_cases hb : (sure >>> (nI y &&& 31)) &&& nI 1 = 0
    · rw [if_neg (hasB_n hb), if_pos hb, hp, hq y (by omega), hJ y (by omega), Int64.add_assoc]
    · rw [if_pos (hasB_y hb), if_neg hb, Int64.add_zero]
theorem prS_toO {I : MI} {p q a b : Nat → Int64} {J : Nat → Nat → Int32} {sure : Int32} (hp : ∀ t, t < 6 → p t = a t) (hq : ∀ t, t < 6 → q t = b t) (hJ : ∀ x t, x < 6 → t < 6 → I 3 (x * 6 + t) = J x t) : ∀ k, k ≤ 6 → prS I p q sure k = toO a b J sure k
  | 0, _ => rfl
  | k + 1, hk => by
    have ih := prS_toO (sure := sure) hp hq hJ k (by omega)
    unfold prS toO
    by_cases hb : (sure >>> (nI k &&& 31)) &&& nI 1 = 0
    · rw [if_pos hb, toI_y (hp k (by omega)) hq (fun t ht => hJ k t (by omega) ht) (hasB_n hb) 6 (Nat.le_refl 6), ih]
    · rw [if_neg hb, toI_n (hasB_y hb) 6, ih]
theorem z_bit {t : Nat} (h : t < 6) : ((nI 0) >>> (nI t &&& 31)) &&& nI 1 = 0 := by
  rcases (by omega : t = 0 ∨ t = 1 ∨ t = 2 ∨ t = 3 ∨ t = 4 ∨ t = 5) with z | z | z | z | z | z <;> subst z <;> decide
theorem ptS_shO {I : MI} {p a : Nat → Int64} {J : Nat → Nat → Int32} {s : Nat} (hs : s < 6) (hp : ∀ t, t < 6 → p t = a t) (hJ : ∀ x t, x < 6 → t < 6 → I 3 (x * 6 + t) = J x t) : ∀ k, k ≤ 6 → ptS I p p (nI 0) s k = shO a J s k
  | 0, _ => rfl
  | k + 1, hk => by
    unfold ptS shO
    rw [if_pos (z_bit (by omega)), ptS_shO hs hp hJ k (by omega), hp s hs, hp k (by omega), hJ s k hs (by omega)]
theorem bc_on : ∀ m, m < 64 → bcI (nI m) = nI (onP 7 (nI m)) ∧ onP 7 (nI m) ≤ 7 := by decide +kernel
theorem fwS_fwM {I : MI} {p a : Nat → Int64} {J : Nat → Nat → Int32} {lim : Int64} (hp : ∀ t, t < 6 → p t = a t) (hJ : ∀ x t, x < 6 → t < 6 → I 3 (x * 6 + t) = J x t) : ∀ k, k ≤ 64 → fwS I p lim k = fwM a J lim k
  | 0, _ => rfl
  | k + 1, hk => by
    have ih := fwS_fwM (lim := lim) hp hJ k (by omega)
    have hi := fwM_is a J lim k
    unfold fwS fwM
    rw [ih, prS_toO (sure := nI k) hp hp hJ 6 (Nat.le_refl 6)]
    by_cases h9 : fwM a J lim k = -9
    · rw [if_pos h9, if_pos h9]
    · rw [if_neg h9, if_neg h9]
      rcases hi with z | ⟨m, z1, z2⟩
      · exact absurd z h9
      · have e1 := bc_on m (by omega)
        have e2 := bc_on k (by omega)
        have e : bcI (fwM a J lim k) ≤ bcI (nI k) ↔ 0 + onP 7 (fwM a J lim k) ≤ 0 + onP 7 (nI k) := by
          rw [z2, e1.1, e2.1, Int32.le_iff_toInt_le, nI_toInt (by omega), nI_toInt (by omega)]
          omega
        by_cases hc : 0 + onP 7 (fwM a J lim k) ≤ 0 + onP 7 (nI k)
        · rw [if_pos hc, if_pos (e.mpr hc)]
        · rw [if_neg hc, if_neg (fun z => hc (e.mp z))]
theorem fiS_fiM {g g' : Nat → Int64} (h : ∀ s, s < 6 → g s = g' s) : ∀ k, k ≤ 6 → fiS g k = fiM g' k
  | 0, _ => rfl
  | k + 1, hk => by
    unfold fiS fiM
    rw [fiS_fiM h k (by omega), h k (by omega)]
theorem siL_28 {I : MI} {c n : Nat} {L : ML} (hc : c ≠ 28) : ∀ k, siL I c n L k 28 = tb (wO I (nI 0) (nI 0)) (L 28) (n + 1)
  | 0 => rfl
  | k + 1 => by
    unfold siL
    rw [v2_off (fun z => hc z.symm)]
    exact siL_28 hc k
theorem siL_off {I : MI} {c n : Nat} {L : ML} {c' : Nat} (h1 : c' ≠ 28) (h2 : c' ≠ 29) (h3 : c' ≠ c) : ∀ k, siL I c n L k c' = L c'
  | 0 => if_neg h1
  | k + 1 => by
    unfold siL
    rw [v2_off h3]
    exact (if_neg h2).trans (siL_off h1 h2 h3 k)
theorem siL_c {I : MI} {c n : Nat} {L : ML} (hc : c ≠ 29) {s : Nat} : ∀ k, s < k → siL I c n L k c s = tb (sO I (nI s) (siL I c n L s 28)) (siL I c n L s 29) (n + 1) n
  | 0, h => absurd h (Nat.not_lt_zero s)
  | k + 1, h => by
    rw [show siL I c n L (k + 1) = v2 (t2 (siL I c n L k) 29 (tb (sO I (nI k) (siL I c n L k 28)) (siL I c n L k 29) (n + 1))) c k (t2 (siL I c n L k) 29 (tb (sO I (nI k) (siL I c n L k 28)) (siL I c n L k 29) (n + 1)) 29 n) from rfl, v2_on]
    by_cases hk : s = k
    · subst hk
      exact (if_pos rfl).trans (congrFun (if_pos rfl) n)
    · exact (if_neg hk).trans ((congrFun (if_neg hc) s).trans (siL_c hc k (by omega)))
theorem goL_off {vs : Nat → Int32} {sz : Nat → Nat} {nd : Nat → Nat → Q4} {L : ML} {c : Nat} (h : c < 63) : ∀ F, goL vs sz nd L F c = L c
  | 0 => rfl
  | F + 1 => by
    have hn : ∀ (q : Q4) (M : ML) (f e : Nat), ndM vs sz q M f e c = M c := fun q M f e => by
      have hl : ∀ k w sg bg, ndL M k w sg bg c = M c := fun k w sg bg => (if_neg (show c ≠ 65 by omega)).trans ((if_neg (show c ≠ 64 by omega)).trans (v2_off (by omega)))
      have hi : ∀ (p : Prop) [Decidable p] (A B : ML), A c = M c → B c = M c → (if p then A else B) c = M c := fun p _ A B h1 h2 => by
        by_cases hp : p
        · rw [if_pos hp]; exact h1
        · rw [if_neg hp]; exact h2
      exact hi _ _ _ (hl _ _ _ _) (hi _ _ _ (hl _ _ _ _) (hi _ _ _ (hl _ _ _ _) (hi _ _ _ (hl _ _ _ _) (hi _ _ _ (hl _ _ _ _) (hi _ _ _ (hl _ _ _ _) (hi _ _ _ (hl _ _ _ _) (hi _ _ _ (hl _ _ _ _) (hi _ _ _ (hl _ _ _ _) (hi _ _ _ (hl _ _ _ _) (hi _ _ _ (hl _ _ _ _) (hi _ _ _ (hl _ _ _ _) (rfl))))))))))))
    have hg : ∀ e M, giL vs sz nd F M e c = M c := fun e => by
      induction e with
      | zero => exact fun M => rfl
      | succ e ih => exact fun M => (hn _ _ _ _).trans (ih M)
    exact (hg _ _).trans (goL_off h F)
