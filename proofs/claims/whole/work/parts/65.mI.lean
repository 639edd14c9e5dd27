def QRS (I : MI) (L : ML) (tx : Nat → Nat) (n F : Nat) (r : RD) (T : TR) : Prop := match r with
  | .inl u => ∃ J, T = (none, shF, u2 J 42 14 (nI (F + 1)), L) ∧ FRq F I J ∧ J 42 7 = nI (tkP tx n u)
  | .inr (i, u, c', l') => ∃ J, T = (none, shF, u2 J 42 14 (nI (F + 1)), L) ∧ FRq F I J ∧ PM J tx n u ∧ SM4 J F c' 0 (i, [], l', [])
theorem FRk.p49 {F : Nat} {I J : MI} (h : FRk F I J) (x : Int32) : FRk F I (u2 J 49 F x) := fun c i q1 q2 q3 q4 q5 => (u2_ne (by omega)).trans (h c i q1 q2 q3 q4 q5)
theorem SI.nil {F : Nat} (hF : F < 4) : SI F 0 [] [] [] 0 0 := ⟨hF, Nat.le_refl 0, Nat.zero_le 20, rfl, Nat.zero_le 8, rfl, Nat.zero_le 1, fun i h => (by cases h), fun k q h => (by rw [List.getElem?_nil] at h; cases h), fun w h => (by cases h)⟩
theorem readsSum_Q (X : Ctx) (d : Nat) (I : MI) (L : ML) (tx : Nat → Nat) (n F t : Nat) (Q : TR → Prop) (h : PM I tx n t) (hF14 : I 42 14 = nI F) (hF : F < 4) (hQ : match rdS (tkK tx n) (tkV tx n) F 8 t 0 [] with
    | .inl u => FZ I L tx n F Q u
    | .inr (i, u, c', l') => EZ I L tx n F Q u c' 0 (i, [], l', [])) : ∃ T, Q T ∧ Sp X mX6_readsSum (d + 6) (0, 0) [.ref 42] shF I L T := by
  refine qU (fun T_ k_ => Sp.of okX6_readsSum [.ref 42, .null, .null, .null] 3 rfl (Nat.le_of_ble_eq_true rfl) k_) ?_
  refine qU (fun T_ k_ => r_aload_n (pc := 0) dX6_readsSum_0 rfl k_) ?_
  refine qU (fun T_ k_ => r_getR (pc := 1) (b := 49) dX6_readsSum_1 fX6_28 rfl rfl k_) ?_
  refine qU (fun T_ k_ => r_aload_n (pc := 4) dX6_readsSum_4 rfl k_) ?_
  refine qU (fun T_ k_ => r_getV (pc := 5) (v := nI F) dX6_readsSum_5 fX6_145 rfl rfl (hF14) k_) ?_
  refine qU (fun T_ k_ => r_iconst (pc := 8) (v := nI 0) dX6_readsSum_8 rfl k_) ?_
  refine qU (fun T_ k_ => r_iast (pc := 9) (j := F) dX6_readsSum_9 rfl rfl (by omega) (by decide) k_) ?_
  refine qU (fun T_ k_ => r_aload_n (pc := 10) dX6_readsSum_10 rfl k_) ?_
  refine qU (fun T_ k_ => r_iconst (pc := 11) (v := nI 0) dX6_readsSum_11 rfl k_) ?_
  refine qU (fun T_ k_ => r_put (pc := 12) .int dX6_readsSum_12 fX6_151 rfl rfl nf6_30 rfl rfl k_) ?_
  refine qU (fun T_ k_ => r_aload_n (pc := 15) dX6_readsSum_15 rfl k_) ?_
  refine qU (fun T_ k_ => r_iconst (pc := 16) (v := nI 0) dX6_readsSum_16 rfl k_) ?_
  refine qU (fun T_ k_ => r_put (pc := 17) .int dX6_readsSum_17 fX6_154 rfl rfl nf6_32 rfl rfl k_) ?_
  refine qU (fun T_ k_ => r_aload_n (pc := 20) dX6_readsSum_20 rfl k_) ?_
  refine qU (fun T_ k_ => r_iconst (pc := 21) (v := nI 0) dX6_readsSum_21 rfl k_) ?_
  refine qU (fun T_ k_ => r_put (pc := 22) .int dX6_readsSum_22 fX6_171 rfl rfl nf6_33 rfl rfl k_) ?_
  refine qU (fun T_ k_ => r_aload_n (pc := 25) dX6_readsSum_25 rfl k_) ?_
  refine qU (fun T_ k_ => r_iconst (pc := 26) (v := nI 0) dX6_readsSum_26 rfl k_) ?_
  refine qU (fun T_ k_ => r_put (pc := 27) .int dX6_readsSum_27 fX6_148 rfl rfl nf6_34 rfl rfl k_) ?_
  refine qU (fun T_ k_ => r_iconst (pc := 30) (v := nI 1) dX6_readsSum_30 rfl k_) ?_
  refine qU (fun T_ k_ => r_istore_n (pc := 31) (lo1 := [.ref 42, .int (nI 1), .null, .null]) dX6_readsSum_31 rfl (by decide) rfl k_) ?_
  refine qU (fun T_ k_ => r_iconst (pc := 32) (v := nI 1) dX6_readsSum_32 rfl k_) ?_
  refine qU (fun T_ k_ => r_istore_n (pc := 33) (lo1 := [.ref 42, .int (nI 1), .int (nI 1), .null]) dX6_readsSum_33 rfl (by decide) rfl k_) ?_
  have P9 : PM (u2 (u2 (u2 (u2 (u2 I 49 F (nI 0)) 42 30 (nI 0)) 42 32 (nI 0)) 42 33 (nI 0)) 42 34 (nI 0)) tx n t := h.frk (((((FRk.refl F I).p49 _).put 30 _ (by decide)).put 32 _ (by decide)).put 33 _ (by decide) |>.put 34 _ (by decide))
  have F9 : FRq F I (u2 (u2 (u2 (u2 (u2 I 49 F (nI 0)) 42 30 (nI 0)) 42 32 (nI 0)) 42 33 (nI 0)) 42 34 (nI 0)) := FRk.q (((((FRk.refl F I).p49 _).put 30 _ (by decide)).put 32 _ (by decide)).put 33 _ (by decide) |>.put 34 _ (by decide))
  have G9 : SM (u2 (u2 (u2 (u2 (u2 I 49 F (nI 0)) 42 30 (nI 0)) 42 32 (nI 0)) 42 33 (nI 0)) 42 34 (nI 0)) F 0 [] [] [] 0 0 := ⟨⟨hF14, u2_at I 49 F (nI 0), rfl, rfl, rfl, rfl, fun k q hk => (by rw [List.getElem?_nil] at hk; cases hk), True.intro, True.intro⟩, SI.nil hF⟩
  refine sim_all (K := tkK tx n) (V := tkV tx n) (F := F) (D := DZ X d I L tx n F Q) (B := BZ X d I L tx n F Q) (E := EZ I L tx n F Q) (Fl := FZ I L tx n F Q) (fun t c l ps ws op z => rs_D X d I L tx n F Q h.1.2.1 hF14 hF t c l ps ws op z) (fun t c op a z y => rs_B X d I L tx n F Q h.1.2.1 hF14 hF t c op a z y) t ?_ _ P9 F9 G9
  exact hQ
theorem s_readsSum (X : Ctx) (d : Nat) (I : MI) (L : ML) (tx : Nat → Nat) (n F t : Nat) (h : PM I tx n t) (hF14 : I 42 14 = nI F) (hF : F < 4) : ∃ T, QRS I L tx n F (rdS (tkK tx n) (tkV tx n) F 8 t 0 []) T ∧ Sp X mX6_readsSum (d + 6) (0, 0) [.ref 42] shF I L T := by
  refine readsSum_Q X d I L tx n F t _ h hF14 hF ?_
  cases R : rdS (tkK tx n) (tkV tx n) F 8 t 0 [] with
  | inl u => exact fun J f c => ⟨J, rfl, f, c⟩
  | inr v =>
    obtain ⟨i, u, c', l'⟩ := v
    exact fun J p f g => ⟨J, rfl, f, p, g⟩
