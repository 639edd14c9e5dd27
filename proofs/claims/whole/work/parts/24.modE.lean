theorem s2_u2 (I : MI) (c j : Nat) (f : Nat → Int32) (x : Int32) : u2 (s2 I c f) c j x = s2 I c (upd f j x) := by
  funext c'
  unfold u2 s2
  by_cases h : c' = c
  · rw [if_pos h, if_pos h, if_pos rfl]
  · rw [if_neg h, if_neg h, if_neg h]
theorem s2_self (I : MI) (c : Nat) : s2 I c (I c) = I := by
  funext c'
  unfold s2
  by_cases h : c' = c
  · rw [if_pos h, h]
  · rw [if_neg h]
/-- the places from b on hold g (ints) -/
def blkI (f g : Nat → Int32) (b n : Nat) : Nat → Int32 := fun j => if b ≤ j ∧ j < b + n then g (j - b) else f j
theorem blkI_0 (f g : Nat → Int32) (b : Nat) : blkI f g b 0 = f := funext fun j => if_neg (by omega)
theorem blkI_s {f g : Nat → Int32} {b i : Nat} {x : Int32} (h : x = g i) : upd (blkI f g b i) (b + i) x = blkI f g b (i + 1) := by
  subst h
  funext j
  unfold upd blkI
  by_cases hj : j = b + i
  · subst hj
    rw [if_pos rfl, if_pos (by omega), Nat.add_sub_cancel_left]
  · rw [if_neg hj]
    by_cases h1 : b ≤ j ∧ j < b + i
    · rw [if_pos h1, if_pos (by omega)]
    · rw [if_neg h1, if_neg (by omega)]
theorem wI_s (I : MI) (c i : Nat) (g f : Nat → Int32) (x : Int32) (h : x = g i) : u2 (s2 I c (fun j => if j < i then g j else f j)) c i x = s2 I c (fun j => if j < i + 1 then g j else f j) := by
  subst h
  rw [s2_u2]
  congr 1
  funext j
  exact ite_step g f i j
theorem rd_sh {I : MI} {c i m : Nat} {g f : Nat → Int32} (h : i ≤ m) : s2 I c (fun j => if j < i then g j else f j) c m = f m := by
  unfold s2
  rw [if_pos rfl]
  exact if_neg (by omega)
def shU (I : MI) : MI := s2 I 56 (fun j => if j < 432 then I 56 (j + 48) else I 56 j)
def noU (I : MI) (n : Nat) : MI := s2 I 56 (blkI (I 56) (I 55) (48 * n) 48)
theorem lp_notes_a (X : Ctx) (d : Nat) (I : MI) (L : ML) (n : Nat) (hn : I 42 23 = nI n) (h10 : n < 10) : ∀ (z i : Nat), i + z = 48 → Ev X mX6_notes (d + 0) (0, 0) (0, 0) (none, shF, (u2 (noU I n) 42 23 (nI (n + 1))), L) 47 [.ref 42, .int (nI i)] [] shF (s2 I 56 (blkI (I 56) (I 55) (48 * n) i)) L := by
  intro z
  induction z with
  | zero =>
    intro i hi
    have hi2 : i = 48 := by omega
    rw [hi2]
    refine r_iload_n (pc := 47) dX6_notes_47 rfl ?_
    refine r_bipush (pc := 48) dX6_notes_48 bp_48 ?_
    refine r_icmpN_ge (pc := 50) (tgt := 79) dX6_notes_50 (by decide) (by omega) (by omega) (fun c1 => ?_) (fun c1 => ?_)
    · refine r_aload_n (pc := 79) dX6_notes_79 rfl ?_
      refine r_dup (pc := 80) dX6_notes_80 rfl ?_
      refine r_getV (pc := 81) (v := nI n) dX6_notes_81 fX6_205 rfl rfl (hn) ?_
      refine r_iconst (pc := 84) (v := nI 1) dX6_notes_84 rfl ?_
      refine r_iaddN (pc := 85) dX6_notes_85 ?_
      refine r_put (pc := 86) .int dX6_notes_86 fX6_205 rfl rfl nf6_23 rfl rfl ?_
      exact r_vret dX6_notes_89 rfl (rfl) rfl
    · exact absurd c1 (by decide)
  | succ z ih =>
    intro i hi
    refine r_iload_n (pc := 47) dX6_notes_47 rfl ?_
    refine r_bipush (pc := 48) dX6_notes_48 bp_48 ?_
    refine r_icmpN_ge (pc := 50) (tgt := 79) dX6_notes_50 (by decide) (by omega) (by omega) (fun c2 => ?_) (fun c2 => ?_)
    · exact absurd c2 (by omega)
    · refine r_aload_n (pc := 53) dX6_notes_53 rfl ?_
      refine r_getR (pc := 54) (b := 56) dX6_notes_54 fX6_49 rfl rfl ?_
      refine r_bipush (pc := 57) dX6_notes_57 bp_48 ?_
      refine r_aload_n (pc := 59) dX6_notes_59 rfl ?_
      refine r_getV (pc := 60) (v := nI n) dX6_notes_60 fX6_205 rfl rfl (hn) ?_
      refine r_imulN (pc := 63) dX6_notes_63 ?_
      refine r_iload_n (pc := 64) dX6_notes_64 rfl ?_
      refine r_iaddN (pc := 65) dX6_notes_65 ?_
      refine r_aload_n (pc := 66) dX6_notes_66 rfl ?_
      refine r_getR (pc := 67) (b := 55) dX6_notes_67 fX6_46 rfl rfl ?_
      refine r_iload_n (pc := 70) dX6_notes_70 rfl ?_
      refine r_iald (pc := 71) (j := i) dX6_notes_71 rfl rfl (by omega) (by decide) ?_
      refine r_iast (pc := 72) (j := (48 * n) + i) dX6_notes_72 rfl rfl (by omega) (by decide) ?_
      refine r_iinc (pc := 73) (v := nI (i + 1)) (lo1 := [.ref 42, .int (nI (i + 1))]) dX6_notes_73 rfl rfl (ii1 _) (by decide) rfl ?_
      refine r_goto (pc := 76) (tgt := 47) dX6_notes_76 (by decide) ?_
      refine r_I (I' := (s2 I 56 (blkI (I 56) (I 55) (48 * n) (i + 1)))) ((s2_u2 _ _ _ _ _).trans (congrArg (s2 _ 56) (blkI_s rfl))) ?_
      exact ih (i + 1) (by omega)
theorem s_notes_a (X : Ctx) (d : Nat) (I : MI) (L : ML) (n : Nat) (hn : I 42 23 = nI n) (h10 : n < 10) : Sp X mX6_notes (d + 0) (0, 0) [.ref 42] shF I L (none, shF, (u2 (noU I n) 42 23 (nI (n + 1))), L) := by
  refine Sp.of okX6_notes [.ref 42, .null] 1 rfl (Nat.le_of_ble_eq_true rfl) ?_
  refine r_aload_n (pc := 0) dX6_notes_0 rfl ?_
  refine r_getV (pc := 1) (v := nI n) dX6_notes_1 fX6_205 rfl rfl (hn) ?_
  refine r_bipush (pc := 4) dX6_notes_4 bp_10 ?_
  refine r_icmpN_ne (pc := 6) (tgt := 45) dX6_notes_6 (by decide) (by omega) (by omega) (fun c3 => ?_) (fun c3 => ?_)
  · refine r_iconst (pc := 45) (v := nI 0) dX6_notes_45 rfl ?_
    refine r_istore_n (pc := 46) (lo1 := [.ref 42, .int (nI 0)]) dX6_notes_46 rfl (by decide) rfl ?_
    refine r_I (I' := (s2 I 56 (blkI (I 56) (I 55) (48 * n) 0))) (by rw [blkI_0]; exact (s2_self _ 56).symm) ?_
    exact lp_notes_a X d I L n hn h10 48 0 rfl
  · exact absurd c3 (by omega)
theorem lp_notes_b2 (X : Ctx) (d : Nat) (I : MI) (L : ML) (hn : I 42 23 = nI 10) : ∀ (z i : Nat), i + z = 48 → Ev X mX6_notes (d + 0) (0, 0) (0, 0) (none, shF, (u2 (noU (u2 (shU I) 42 23 (nI 9)) 9) 42 23 (nI 10)), L) 47 [.ref 42, .int (nI i)] [] shF (s2 (u2 (shU I) 42 23 (nI 9)) 56 (blkI ((u2 (shU I) 42 23 (nI 9)) 56) ((u2 (shU I) 42 23 (nI 9)) 55) (48 * 9) i)) L := by
  intro z
  induction z with
  | zero =>
    intro i hi
    have hi2 : i = 48 := by omega
    rw [hi2]
    refine r_iload_n (pc := 47) dX6_notes_47 rfl ?_
    refine r_bipush (pc := 48) dX6_notes_48 bp_48 ?_
    refine r_icmpN_ge (pc := 50) (tgt := 79) dX6_notes_50 (by decide) (by omega) (by omega) (fun c1 => ?_) (fun c1 => ?_)
    · refine r_aload_n (pc := 79) dX6_notes_79 rfl ?_
      refine r_dup (pc := 80) dX6_notes_80 rfl ?_
      refine r_getV (pc := 81) (v := nI 9) dX6_notes_81 fX6_205 rfl rfl (rfl) ?_
      refine r_iconst (pc := 84) (v := nI 1) dX6_notes_84 rfl ?_
      refine r_iaddN (pc := 85) dX6_notes_85 ?_
      refine r_put (pc := 86) .int dX6_notes_86 fX6_205 rfl rfl nf6_23 rfl rfl ?_
      exact r_vret dX6_notes_89 rfl (rfl) rfl
    · exact absurd c1 (by decide)
  | succ z ih =>
    intro i hi
    refine r_iload_n (pc := 47) dX6_notes_47 rfl ?_
    refine r_bipush (pc := 48) dX6_notes_48 bp_48 ?_
    refine r_icmpN_ge (pc := 50) (tgt := 79) dX6_notes_50 (by decide) (by omega) (by omega) (fun c2 => ?_) (fun c2 => ?_)
    · exact absurd c2 (by omega)
    · refine r_aload_n (pc := 53) dX6_notes_53 rfl ?_
      refine r_getR (pc := 54) (b := 56) dX6_notes_54 fX6_49 rfl rfl ?_
      refine r_bipush (pc := 57) dX6_notes_57 bp_48 ?_
      refine r_aload_n (pc := 59) dX6_notes_59 rfl ?_
      refine r_getV (pc := 60) (v := nI 9) dX6_notes_60 fX6_205 rfl rfl (rfl) ?_
      refine r_imulN (pc := 63) dX6_notes_63 ?_
      refine r_iload_n (pc := 64) dX6_notes_64 rfl ?_
      refine r_iaddN (pc := 65) dX6_notes_65 ?_
      refine r_aload_n (pc := 66) dX6_notes_66 rfl ?_
      refine r_getR (pc := 67) (b := 55) dX6_notes_67 fX6_46 rfl rfl ?_
      refine r_iload_n (pc := 70) dX6_notes_70 rfl ?_
      refine r_iald (pc := 71) (j := i) dX6_notes_71 rfl rfl (by omega) (by decide) ?_
      refine r_iast (pc := 72) (j := 432 + i) dX6_notes_72 rfl rfl (by omega) (by decide) ?_
      refine r_iinc (pc := 73) (v := nI (i + 1)) (lo1 := [.ref 42, .int (nI (i + 1))]) dX6_notes_73 rfl rfl (ii1 _) (by decide) rfl ?_
      refine r_goto (pc := 76) (tgt := 47) dX6_notes_76 (by decide) ?_
      refine r_I (I' := (s2 (u2 (shU I) 42 23 (nI 9)) 56 (blkI ((u2 (shU I) 42 23 (nI 9)) 56) ((u2 (shU I) 42 23 (nI 9)) 55) (48 * 9) (i + 1)))) ((s2_u2 _ _ _ _ _).trans (congrArg (s2 _ 56) (blkI_s rfl))) ?_
      exact ih (i + 1) (by omega)
theorem lp_notes_b1 (X : Ctx) (d : Nat) (I : MI) (L : ML) (hn : I 42 23 = nI 10) : ∀ (z i : Nat), i + z = 432 → Ev X mX6_notes (d + 0) (0, 0) (0, 0) (none, shF, (u2 (noU (u2 (shU I) 42 23 (nI 9)) 9) 42 23 (nI 10)), L) 11 [.ref 42, .int (nI i)] [] shF (s2 I 56 (fun j => if j < i then I 56 (j + 48) else I 56 j)) L := by
  intro z
  induction z with
  | zero =>
    intro i hi
    have hi2 : i = 432 := by omega
    rw [hi2]
    refine r_iload_n (pc := 11) dX6_notes_11 rfl ?_
    refine r_sipush (pc := 12) dX6_notes_12 sp_432 ?_
    refine r_icmpN_ge (pc := 15) (tgt := 39) dX6_notes_15 (by decide) (by omega) (by omega) (fun c3 => ?_) (fun c3 => ?_)
    · refine r_aload_n (pc := 39) dX6_notes_39 rfl ?_
      refine r_bipush (pc := 40) dX6_notes_40 bp_9 ?_
      refine r_put (pc := 42) .int dX6_notes_42 fX6_205 rfl rfl nf6_23 rfl rfl ?_
      refine r_iconst (pc := 45) (v := nI 0) dX6_notes_45 rfl ?_
      refine r_istore_n (pc := 46) (lo1 := [.ref 42, .int (nI 0)]) dX6_notes_46 rfl (by decide) rfl ?_
      refine r_I (I' := (s2 (u2 (shU I) 42 23 (nI 9)) 56 (blkI ((u2 (shU I) 42 23 (nI 9)) 56) ((u2 (shU I) 42 23 (nI 9)) 55) (48 * 9) 0))) (by rw [blkI_0]; exact (s2_self _ 56).symm) ?_
      exact lp_notes_b2 X d I L hn 48 0 rfl
    · exact absurd c3 (by decide)
  | succ z ih =>
    intro i hi
    refine r_iload_n (pc := 11) dX6_notes_11 rfl ?_
    refine r_sipush (pc := 12) dX6_notes_12 sp_432 ?_
    refine r_icmpN_ge (pc := 15) (tgt := 39) dX6_notes_15 (by decide) (by omega) (by omega) (fun c4 => ?_) (fun c4 => ?_)
    · exact absurd c4 (by omega)
    · refine r_aload_n (pc := 18) dX6_notes_18 rfl ?_
      refine r_getR (pc := 19) (b := 56) dX6_notes_19 fX6_49 rfl rfl ?_
      refine r_iload_n (pc := 22) dX6_notes_22 rfl ?_
      refine r_aload_n (pc := 23) dX6_notes_23 rfl ?_
      refine r_getR (pc := 24) (b := 56) dX6_notes_24 fX6_49 rfl rfl ?_
      refine r_iload_n (pc := 27) dX6_notes_27 rfl ?_
      refine r_bipush (pc := 28) dX6_notes_28 bp_48 ?_
      refine r_iaddN (pc := 30) dX6_notes_30 ?_
      refine r_ialdV (pc := 31) (j := i + 48) (v := I 56 (i + 48)) dX6_notes_31 rfl rfl (by omega) (by decide) (show (s2 I 56 (fun j => if j < i then I 56 (j + 48) else I 56 j)) 56 (i + 48) = _ from rd_sh (by omega)) ?_
      refine r_iast (pc := 32) (j := i) dX6_notes_32 rfl rfl (by omega) (by decide) ?_
      refine r_iinc (pc := 33) (v := nI (i + 1)) (lo1 := [.ref 42, .int (nI (i + 1))]) dX6_notes_33 rfl rfl (ii1 _) (by decide) rfl ?_
      refine r_goto (pc := 36) (tgt := 11) dX6_notes_36 (by decide) ?_
      refine r_I (I' := (s2 I 56 (fun j => if j < i + 1 then I 56 (j + 48) else I 56 j))) (wI_s I 56 i (fun j => I 56 (j + 48)) (I 56) _ rfl) ?_
      exact ih (i + 1) (by omega)
theorem s_notes_b (X : Ctx) (d : Nat) (I : MI) (L : ML) (hn : I 42 23 = nI 10) : Sp X mX6_notes (d + 0) (0, 0) [.ref 42] shF I L (none, shF, (u2 (noU (u2 (shU I) 42 23 (nI 9)) 9) 42 23 (nI 10)), L) := by
  refine Sp.of okX6_notes [.ref 42, .null] 1 rfl (Nat.le_of_ble_eq_true rfl) ?_
  refine r_aload_n (pc := 0) dX6_notes_0 rfl ?_
  refine r_getV (pc := 1) (v := nI 10) dX6_notes_1 fX6_205 rfl rfl (hn) ?_
  refine r_bipush (pc := 4) dX6_notes_4 bp_10 ?_
  refine r_icmpN_ne (pc := 6) (tgt := 45) dX6_notes_6 (by decide) (by omega) (by omega) (fun c5 => ?_) (fun c5 => ?_)
  · exact absurd c5 (by decide)
  · refine r_iconst (pc := 9) (v := nI 0) dX6_notes_9 rfl ?_
    refine r_istore_n (pc := 10) (lo1 := [.ref 42, .int (nI 0)]) dX6_notes_10 rfl (by decide) rfl ?_
    refine r_I (I' := (s2 I 56 (fun j => if j < 0 then I 56 (j + 48) else I 56 j))) (by rw [ite_lt0]; exact (s2_self _ 56).symm) ?_
    exact lp_notes_b1 X d I L hn 432 0 rfl
theorem q_type_f (X : Ctx) (d : Nat) (I : MI) (L : ML) (c : Int32) (h : c < nI 0 ∨ nI 255 < c) : Sp X mX6_type (d + 1) (0, 0) [.ref 42, .int (c)] shF I L (some (.int (-1)), shF, (u2 I 42 0 (nI 0)), L) := by
  refine Sp.of okX6_type [.ref 42, .int (c)] 0 rfl (Nat.le_of_ble_eq_true rfl) ?_
  refine r_aload_n (pc := 0) dX6_type_0 rfl ?_
  refine r_iconst (pc := 1) (v := nI 0) dX6_type_1 rfl ?_
  refine r_put (pc := 2) .int dX6_type_2 fX6_93 rfl rfl nf6_0 rfl rfl ?_
  refine r_iload_n (pc := 5) dX6_type_5 rfl ?_
  refine r_iconst (pc := 6) (v := nI 0) dX6_type_6 rfl ?_
  refine r_sipush (pc := 7) dX6_type_7 sp_255 ?_
  refine r_callS (pc := 10) (N := mX6_in) (rest := []) (s_in_f X _ (u2 I 42 0 (nI 0)) L c (nI 0) (nI 255) h) okX6_in lkX6_97 rfl rfl (Nat.le_of_ble_eq_true rfl) ⟨Nat.le_refl _, Nat.le_refl _⟩ dX6_type_10 ?_
  refine r_ifN_ne (pc := 13) (tgt := 18) dX6_type_13 (by decide) (by omega) (fun c1 => ?_) (fun c1 => ?_)
  · exact absurd c1 (by decide)
  · refine r_iconst (pc := 16) (v := -1) dX6_type_16 rfl ?_
    exact r_iret dX6_type_17 rfl (rfl) rfl
theorem q_type (X : Ctx) (d : Nat) (I : MI) (L : ML) (n : Nat) (c : Int32) (h1 : ¬ c < nI 0) (h2 : ¬ nI 255 < c) (hn : I 42 2 = nI n) (h : n < 100) : Sp X mX6_type (d + 1) (0, 0) [.ref 42, .int (c)] shF I L (some (.int (nI (n + 1))), shF, (u2 (u2 (u2 I 42 0 (nI 0)) 43 n c) 42 2 (nI (n + 1))), L) := by
  refine Sp.of okX6_type [.ref 42, .int (c)] 0 rfl (Nat.le_of_ble_eq_true rfl) ?_
  refine r_aload_n (pc := 0) dX6_type_0 rfl ?_
  refine r_iconst (pc := 1) (v := nI 0) dX6_type_1 rfl ?_
  refine r_put (pc := 2) .int dX6_type_2 fX6_93 rfl rfl nf6_0 rfl rfl ?_
  refine r_iload_n (pc := 5) dX6_type_5 rfl ?_
  refine r_iconst (pc := 6) (v := nI 0) dX6_type_6 rfl ?_
  refine r_sipush (pc := 7) dX6_type_7 sp_255 ?_
  refine r_callS (pc := 10) (N := mX6_in) (rest := []) (s_in_t X _ (u2 I 42 0 (nI 0)) L c (nI 0) (nI 255) h1 h2) okX6_in lkX6_97 rfl rfl (Nat.le_of_ble_eq_true rfl) ⟨Nat.le_refl _, Nat.le_refl _⟩ dX6_type_10 ?_
  refine r_ifN_ne (pc := 13) (tgt := 18) dX6_type_13 (by decide) (by omega) (fun c1 => ?_) (fun c1 => ?_)
  · refine r_aload_n (pc := 18) dX6_type_18 rfl ?_
    refine r_getV (pc := 19) (v := nI n) dX6_type_19 fX6_101 rfl rfl (hn) ?_
    refine r_bipush (pc := 22) dX6_type_22 bp_100 ?_
    refine r_icmpN_ne (pc := 24) (tgt := 30) dX6_type_24 (by decide) (by omega) (by omega) (fun c2 => ?_) (fun c2 => ?_)
    · refine r_aload_n (pc := 30) dX6_type_30 rfl ?_
      refine r_getR (pc := 31) (b := 43) dX6_type_31 fX6_7 rfl rfl ?_
      refine r_aload_n (pc := 34) dX6_type_34 rfl ?_
      refine r_getV (pc := 35) (v := nI n) dX6_type_35 fX6_101 rfl rfl (hn) ?_
      refine r_iload_n (pc := 38) dX6_type_38 rfl ?_
      refine r_iast (pc := 39) (j := n) dX6_type_39 rfl rfl (by omega) (by decide) ?_
      refine r_aload_n (pc := 40) dX6_type_40 rfl ?_
      refine r_dup (pc := 41) dX6_type_41 rfl ?_
      refine r_getV (pc := 42) (v := nI n) dX6_type_42 fX6_101 rfl rfl (hn) ?_
      refine r_iconst (pc := 45) (v := nI 1) dX6_type_45 rfl ?_
      refine r_iaddN (pc := 46) dX6_type_46 ?_
      refine r_put (pc := 47) .int dX6_type_47 fX6_101 rfl rfl nf6_2 rfl rfl ?_
      refine r_aload_n (pc := 50) dX6_type_50 rfl ?_
      refine r_getV (pc := 51) (v := nI (n + 1)) dX6_type_51 fX6_101 rfl rfl (rfl) ?_
      exact r_iret dX6_type_54 rfl (rfl) rfl
    · exact absurd c2 (by omega)
  · exact absurd c1 (by decide)
theorem q_type_full (X : Ctx) (d : Nat) (I : MI) (L : ML) (c : Int32) (h1 : ¬ c < nI 0) (h2 : ¬ nI 255 < c) (hn : I 42 2 = nI 100) : Sp X mX6_type (d + 1) (0, 0) [.ref 42, .int (c)] shF I L (some (.int (-3)), shF, (u2 I 42 0 (nI 0)), L) := by
  refine Sp.of okX6_type [.ref 42, .int (c)] 0 rfl (Nat.le_of_ble_eq_true rfl) ?_
  refine r_aload_n (pc := 0) dX6_type_0 rfl ?_
  refine r_iconst (pc := 1) (v := nI 0) dX6_type_1 rfl ?_
  refine r_put (pc := 2) .int dX6_type_2 fX6_93 rfl rfl nf6_0 rfl rfl ?_
  refine r_iload_n (pc := 5) dX6_type_5 rfl ?_
  refine r_iconst (pc := 6) (v := nI 0) dX6_type_6 rfl ?_
  refine r_sipush (pc := 7) dX6_type_7 sp_255 ?_
  refine r_callS (pc := 10) (N := mX6_in) (rest := []) (s_in_t X _ (u2 I 42 0 (nI 0)) L c (nI 0) (nI 255) h1 h2) okX6_in lkX6_97 rfl rfl (Nat.le_of_ble_eq_true rfl) ⟨Nat.le_refl _, Nat.le_refl _⟩ dX6_type_10 ?_
  refine r_ifN_ne (pc := 13) (tgt := 18) dX6_type_13 (by decide) (by omega) (fun c1 => ?_) (fun c1 => ?_)
  · refine r_aload_n (pc := 18) dX6_type_18 rfl ?_
    refine r_getV (pc := 19) (v := nI 100) dX6_type_19 fX6_101 rfl rfl (hn) ?_
    refine r_bipush (pc := 22) dX6_type_22 bp_100 ?_
    refine r_icmpN_ne (pc := 24) (tgt := 30) dX6_type_24 (by decide) (by omega) (by omega) (fun c2 => ?_) (fun c2 => ?_)
    · exact absurd c2 (by decide)
    · refine r_bipush (pc := 27) dX6_type_27 bp_m3 ?_
      exact r_iret dX6_type_29 rfl (rfl) rfl
  · exact absurd c1 (by decide)
theorem q_clear (X : Ctx) (d : Nat) (I : MI) (L : ML) (n : Nat) (hn : I 42 2 = nI n) : Sp X mX6_clear (d + 0) (0, 0) [.ref 42] shF I L (some (.int (nI n)), shF, (u2 (u2 I 42 0 (nI 0)) 42 2 (nI 0)), L) := by
  refine Sp.of okX6_clear [.ref 42, .null] 1 rfl (Nat.le_of_ble_eq_true rfl) ?_
  refine r_aload_n (pc := 0) dX6_clear_0 rfl ?_
  refine r_iconst (pc := 1) (v := nI 0) dX6_clear_1 rfl ?_
  refine r_put (pc := 2) .int dX6_clear_2 fX6_93 rfl rfl nf6_0 rfl rfl ?_
  refine r_aload_n (pc := 5) dX6_clear_5 rfl ?_
  refine r_getV (pc := 6) (v := nI n) dX6_clear_6 fX6_101 rfl rfl (hn) ?_
  refine r_istore_n (pc := 9) (lo1 := [.ref 42, .int (nI n)]) dX6_clear_9 rfl (by decide) rfl ?_
  refine r_aload_n (pc := 10) dX6_clear_10 rfl ?_
  refine r_iconst (pc := 11) (v := nI 0) dX6_clear_11 rfl ?_
  refine r_put (pc := 12) .int dX6_clear_12 fX6_101 rfl rfl nf6_2 rfl rfl ?_
  refine r_iload_n (pc := 15) dX6_clear_15 rfl ?_
  exact r_iret dX6_clear_16 rfl (rfl) rfl
theorem q_source_s (X : Ctx) (d : Nat) (I : MI) (L : ML) (s : Int32) (hs : s < nI 0 ∨ nI 5 < s) (w : Int32) : Sp X mX6_source (d + 2) (0, 0) [.ref 42, .int (s), .int (w)] shF I L (some (.long (-9000000000000000000)), shF, (u2 I 42 0 (nI 0)), L) := by
  refine Sp.of okX6_source [.ref 42, .int (s), .int (w)] 0 rfl (Nat.le_of_ble_eq_true rfl) ?_
  refine r_aload_n (pc := 0) dX6_source_0 rfl ?_
  refine r_iconst (pc := 1) (v := nI 0) dX6_source_1 rfl ?_
  refine r_put (pc := 2) .int dX6_source_2 fX6_93 rfl rfl nf6_0 rfl rfl ?_
  refine r_iload_n (pc := 5) dX6_source_5 rfl ?_
  refine r_callS (pc := 6) (N := mX6_isSource) (rest := []) (s_misSource_f X _ (u2 I 42 0 (nI 0)) L s hs) okX6_isSource lkX6_208 rfl rfl (Nat.le_of_ble_eq_true rfl) ⟨Nat.le_refl _, Nat.le_refl _⟩ dX6_source_6 ?_
  refine r_ifN_eq (pc := 9) (tgt := 36) dX6_source_9 (by decide) (by omega) (fun c1 => ?_) (fun c1 => ?_)
  · refine r_ldc2 (pc := 36) dX6_source_36 kX6_211 ?_
    exact r_lret dX6_source_39 rfl (rfl) rfl
  · exact absurd c1 (by decide)
theorem q_source_w (X : Ctx) (d : Nat) (I : MI) (L : ML) (j : Nat) (hj : j < 6) (w : Int32) (hw : w < nI 0 ∨ nI 1 < w) : Sp X mX6_source (d + 2) (0, 0) [.ref 42, .int (nI j), .int (w)] shF I L (some (.long (-9000000000000000000)), shF, (u2 I 42 0 (nI 0)), L) := by
  refine Sp.of okX6_source [.ref 42, .int (nI j), .int (w)] 0 rfl (Nat.le_of_ble_eq_true rfl) ?_
  refine r_aload_n (pc := 0) dX6_source_0 rfl ?_
  refine r_iconst (pc := 1) (v := nI 0) dX6_source_1 rfl ?_
  refine r_put (pc := 2) .int dX6_source_2 fX6_93 rfl rfl nf6_0 rfl rfl ?_
  refine r_iload_n (pc := 5) dX6_source_5 rfl ?_
  refine r_callS (pc := 6) (N := mX6_isSource) (rest := []) (s_misSource_t X _ (u2 I 42 0 (nI 0)) L j (by omega)) okX6_isSource lkX6_208 rfl rfl (Nat.le_of_ble_eq_true rfl) ⟨Nat.le_refl _, Nat.le_refl _⟩ dX6_source_6 ?_
  refine r_ifN_eq (pc := 9) (tgt := 36) dX6_source_9 (by decide) (by omega) (fun c1 => ?_) (fun c1 => ?_)
  · exact absurd c1 (by decide)
  · refine r_iload_n (pc := 12) dX6_source_12 rfl ?_
    refine r_iconst (pc := 13) (v := nI 0) dX6_source_13 rfl ?_
    refine r_iconst (pc := 14) (v := nI 1) dX6_source_14 rfl ?_
    refine r_callS (pc := 15) (N := mX6_in) (rest := []) (s_in_f X _ (u2 I 42 0 (nI 0)) L w (nI 0) (nI 1) hw) okX6_in lkX6_97 rfl rfl (Nat.le_of_ble_eq_true rfl) ⟨Nat.le_refl _, Nat.le_refl _⟩ dX6_source_15 ?_
    refine r_ifN_eq (pc := 18) (tgt := 36) dX6_source_18 (by decide) (by omega) (fun c2 => ?_) (fun c2 => ?_)
    · refine r_ldc2 (pc := 36) dX6_source_36 kX6_211 ?_
      exact r_lret dX6_source_39 rfl (rfl) rfl
    · exact absurd c2 (by decide)
theorem q_source_0 (X : Ctx) (d : Nat) (I : MI) (L : ML) (j : Nat) (hj : j < 6) : Sp X mX6_source (d + 2) (0, 0) [.ref 42, .int (nI j), .int (nI 0)] shF I L (some (.long ((I 55 (0 + j)).toInt64)), shF, (u2 I 42 0 (nI 0)), L) := by
  refine Sp.of okX6_source [.ref 42, .int (nI j), .int (nI 0)] 0 rfl (Nat.le_of_ble_eq_true rfl) ?_
  refine r_aload_n (pc := 0) dX6_source_0 rfl ?_
  refine r_iconst (pc := 1) (v := nI 0) dX6_source_1 rfl ?_
  refine r_put (pc := 2) .int dX6_source_2 fX6_93 rfl rfl nf6_0 rfl rfl ?_
  refine r_iload_n (pc := 5) dX6_source_5 rfl ?_
  refine r_callS (pc := 6) (N := mX6_isSource) (rest := []) (s_misSource_t X _ (u2 I 42 0 (nI 0)) L j (by omega)) okX6_isSource lkX6_208 rfl rfl (Nat.le_of_ble_eq_true rfl) ⟨Nat.le_refl _, Nat.le_refl _⟩ dX6_source_6 ?_
  refine r_ifN_eq (pc := 9) (tgt := 36) dX6_source_9 (by decide) (by omega) (fun c1 => ?_) (fun c1 => ?_)
  · exact absurd c1 (by decide)
  · refine r_iload_n (pc := 12) dX6_source_12 rfl ?_
    refine r_iconst (pc := 13) (v := nI 0) dX6_source_13 rfl ?_
    refine r_iconst (pc := 14) (v := nI 1) dX6_source_14 rfl ?_
    refine r_callS (pc := 15) (N := mX6_in) (rest := []) (s_in_t X _ (u2 I 42 0 (nI 0)) L (nI 0) (nI 0) (nI 1) (nI_nlt (by omega) (by omega)) (nI_nlt (by omega) (by omega))) okX6_in lkX6_97 rfl rfl (Nat.le_of_ble_eq_true rfl) ⟨Nat.le_refl _, Nat.le_refl _⟩ dX6_source_15 ?_
    refine r_ifN_eq (pc := 18) (tgt := 36) dX6_source_18 (by decide) (by omega) (fun c2 => ?_) (fun c2 => ?_)
    · exact absurd c2 (by decide)
    · refine r_aload_n (pc := 21) dX6_source_21 rfl ?_
      refine r_getR (pc := 22) (b := 55) dX6_source_22 fX6_46 rfl rfl ?_
      refine r_bipush (pc := 25) dX6_source_25 bp_6 ?_
      refine r_iload_n (pc := 27) dX6_source_27 rfl ?_
      refine r_imulN (pc := 28) dX6_source_28 ?_
      refine r_iload_n (pc := 29) dX6_source_29 rfl ?_
      refine r_iaddN (pc := 30) dX6_source_30 ?_
      refine r_iald (pc := 31) (j := 0 + j) dX6_source_31 rfl rfl (by omega) (by decide) ?_
      refine r_i2l (pc := 32) dX6_source_32 ?_
      refine r_goto (pc := 33) (tgt := 39) dX6_source_33 (by decide) ?_
      exact r_lret dX6_source_39 rfl (rfl) rfl
theorem q_source_1 (X : Ctx) (d : Nat) (I : MI) (L : ML) (j : Nat) (hj : j < 6) : Sp X mX6_source (d + 2) (0, 0) [.ref 42, .int (nI j), .int (nI 1)] shF I L (some (.long ((I 55 (6 + j)).toInt64)), shF, (u2 I 42 0 (nI 0)), L) := by
  refine Sp.of okX6_source [.ref 42, .int (nI j), .int (nI 1)] 0 rfl (Nat.le_of_ble_eq_true rfl) ?_
  refine r_aload_n (pc := 0) dX6_source_0 rfl ?_
  refine r_iconst (pc := 1) (v := nI 0) dX6_source_1 rfl ?_
  refine r_put (pc := 2) .int dX6_source_2 fX6_93 rfl rfl nf6_0 rfl rfl ?_
  refine r_iload_n (pc := 5) dX6_source_5 rfl ?_
  refine r_callS (pc := 6) (N := mX6_isSource) (rest := []) (s_misSource_t X _ (u2 I 42 0 (nI 0)) L j (by omega)) okX6_isSource lkX6_208 rfl rfl (Nat.le_of_ble_eq_true rfl) ⟨Nat.le_refl _, Nat.le_refl _⟩ dX6_source_6 ?_
  refine r_ifN_eq (pc := 9) (tgt := 36) dX6_source_9 (by decide) (by omega) (fun c1 => ?_) (fun c1 => ?_)
  · exact absurd c1 (by decide)
  · refine r_iload_n (pc := 12) dX6_source_12 rfl ?_
    refine r_iconst (pc := 13) (v := nI 0) dX6_source_13 rfl ?_
    refine r_iconst (pc := 14) (v := nI 1) dX6_source_14 rfl ?_
    refine r_callS (pc := 15) (N := mX6_in) (rest := []) (s_in_t X _ (u2 I 42 0 (nI 0)) L (nI 1) (nI 0) (nI 1) (nI_nlt (by omega) (by omega)) (nI_nlt (by omega) (by omega))) okX6_in lkX6_97 rfl rfl (Nat.le_of_ble_eq_true rfl) ⟨Nat.le_refl _, Nat.le_refl _⟩ dX6_source_15 ?_
    refine r_ifN_eq (pc := 18) (tgt := 36) dX6_source_18 (by decide) (by omega) (fun c2 => ?_) (fun c2 => ?_)
    · exact absurd c2 (by decide)
    · refine r_aload_n (pc := 21) dX6_source_21 rfl ?_
      refine r_getR (pc := 22) (b := 55) dX6_source_22 fX6_46 rfl rfl ?_
      refine r_bipush (pc := 25) dX6_source_25 bp_6 ?_
      refine r_iload_n (pc := 27) dX6_source_27 rfl ?_
      refine r_imulN (pc := 28) dX6_source_28 ?_
      refine r_iload_n (pc := 29) dX6_source_29 rfl ?_
      refine r_iaddN (pc := 30) dX6_source_30 ?_
      refine r_iald (pc := 31) (j := 6 + j) dX6_source_31 rfl rfl (by omega) (by decide) ?_
      refine r_i2l (pc := 32) dX6_source_32 ?_
      refine r_goto (pc := 33) (tgt := 39) dX6_source_33 (by decide) ?_
      exact r_lret dX6_source_39 rfl (rfl) rfl
theorem q_joint_s (X : Ctx) (d : Nat) (I : MI) (L : ML) (s : Int32) (hs : s < nI 0 ∨ nI 5 < s) (t : Int32) : Sp X mX6_joint (d + 2) (0, 0) [.ref 42, .int (s), .int (t)] shF I L (some (.long (-9000000000000000000)), shF, (u2 I 42 0 (nI 0)), L) := by
  refine Sp.of okX6_joint [.ref 42, .int (s), .int (t)] 0 rfl (Nat.le_of_ble_eq_true rfl) ?_
  refine r_aload_n (pc := 0) dX6_joint_0 rfl ?_
  refine r_iconst (pc := 1) (v := nI 0) dX6_joint_1 rfl ?_
  refine r_put (pc := 2) .int dX6_joint_2 fX6_93 rfl rfl nf6_0 rfl rfl ?_
  refine r_iload_n (pc := 5) dX6_joint_5 rfl ?_
  refine r_callS (pc := 6) (N := mX6_isSource) (rest := []) (s_misSource_f X _ (u2 I 42 0 (nI 0)) L s hs) okX6_isSource lkX6_208 rfl rfl (Nat.le_of_ble_eq_true rfl) ⟨Nat.le_refl _, Nat.le_refl _⟩ dX6_joint_6 ?_
  refine r_ifN_eq (pc := 9) (tgt := 29) dX6_joint_9 (by decide) (by omega) (fun c1 => ?_) (fun c1 => ?_)
  · refine r_ldc2 (pc := 29) dX6_joint_29 kX6_211 ?_
    exact r_lret dX6_joint_32 rfl (rfl) rfl
  · exact absurd c1 (by decide)
theorem q_joint_t (X : Ctx) (d : Nat) (I : MI) (L : ML) (j : Nat) (hj : j < 6) (s : Int32) (hs : s < nI 0 ∨ nI 5 < s) : Sp X mX6_joint (d + 2) (0, 0) [.ref 42, .int (nI j), .int (s)] shF I L (some (.long (-9000000000000000000)), shF, (u2 I 42 0 (nI 0)), L) := by
  refine Sp.of okX6_joint [.ref 42, .int (nI j), .int (s)] 0 rfl (Nat.le_of_ble_eq_true rfl) ?_
  refine r_aload_n (pc := 0) dX6_joint_0 rfl ?_
  refine r_iconst (pc := 1) (v := nI 0) dX6_joint_1 rfl ?_
  refine r_put (pc := 2) .int dX6_joint_2 fX6_93 rfl rfl nf6_0 rfl rfl ?_
  refine r_iload_n (pc := 5) dX6_joint_5 rfl ?_
  refine r_callS (pc := 6) (N := mX6_isSource) (rest := []) (s_misSource_t X _ (u2 I 42 0 (nI 0)) L j (by omega)) okX6_isSource lkX6_208 rfl rfl (Nat.le_of_ble_eq_true rfl) ⟨Nat.le_refl _, Nat.le_refl _⟩ dX6_joint_6 ?_
  refine r_ifN_eq (pc := 9) (tgt := 29) dX6_joint_9 (by decide) (by omega) (fun c1 => ?_) (fun c1 => ?_)
  · exact absurd c1 (by decide)
  · refine r_iload_n (pc := 12) dX6_joint_12 rfl ?_
    refine r_callS (pc := 13) (N := mX6_isSource) (rest := []) (s_misSource_f X _ (u2 I 42 0 (nI 0)) L s hs) okX6_isSource lkX6_208 rfl rfl (Nat.le_of_ble_eq_true rfl) ⟨Nat.le_refl _, Nat.le_refl _⟩ dX6_joint_13 ?_
    refine r_ifN_eq (pc := 16) (tgt := 29) dX6_joint_16 (by decide) (by omega) (fun c2 => ?_) (fun c2 => ?_)
    · refine r_ldc2 (pc := 29) dX6_joint_29 kX6_211 ?_
      exact r_lret dX6_joint_32 rfl (rfl) rfl
    · exact absurd c2 (by decide)
theorem q_joint (X : Ctx) (d : Nat) (I : MI) (L : ML) (j t : Nat) (hj : j < 6) (ht : t < 6) : Sp X mX6_joint (d + 2) (0, 0) [.ref 42, .int (nI j), .int (nI t)] shF I L (some (.long ((jO I j t).toInt64)), shF, (u2 I 42 0 (nI 0)), L) := by
  refine Sp.of okX6_joint [.ref 42, .int (nI j), .int (nI t)] 0 rfl (Nat.le_of_ble_eq_true rfl) ?_
  refine r_aload_n (pc := 0) dX6_joint_0 rfl ?_
  refine r_iconst (pc := 1) (v := nI 0) dX6_joint_1 rfl ?_
  refine r_put (pc := 2) .int dX6_joint_2 fX6_93 rfl rfl nf6_0 rfl rfl ?_
  refine r_iload_n (pc := 5) dX6_joint_5 rfl ?_
  refine r_callS (pc := 6) (N := mX6_isSource) (rest := []) (s_misSource_t X _ (u2 I 42 0 (nI 0)) L j (by omega)) okX6_isSource lkX6_208 rfl rfl (Nat.le_of_ble_eq_true rfl) ⟨Nat.le_refl _, Nat.le_refl _⟩ dX6_joint_6 ?_
  refine r_ifN_eq (pc := 9) (tgt := 29) dX6_joint_9 (by decide) (by omega) (fun c1 => ?_) (fun c1 => ?_)
  · exact absurd c1 (by decide)
  · refine r_iload_n (pc := 12) dX6_joint_12 rfl ?_
    refine r_callS (pc := 13) (N := mX6_isSource) (rest := []) (s_misSource_t X _ (u2 I 42 0 (nI 0)) L t (by omega)) okX6_isSource lkX6_208 rfl rfl (Nat.le_of_ble_eq_true rfl) ⟨Nat.le_refl _, Nat.le_refl _⟩ dX6_joint_13 ?_
    refine r_ifN_eq (pc := 16) (tgt := 29) dX6_joint_16 (by decide) (by omega) (fun c2 => ?_) (fun c2 => ?_)
    · exact absurd c2 (by decide)
    · refine r_aload_n (pc := 19) dX6_joint_19 rfl ?_
      refine r_iload_n (pc := 20) dX6_joint_20 rfl ?_
      refine r_iload_n (pc := 21) dX6_joint_21 rfl ?_
      refine r_callV (pc := 22) (N := mX6_jointOf) (rest := []) (s_jointOf X _ (u2 I 42 0 (nI 0)) L j t (by omega) (by omega)) okX6_jointOf lkX6_213 rfl (by decide) rfl rfl rfl (Nat.le_of_ble_eq_true rfl) ⟨Nat.le_refl _, Nat.le_refl _⟩ dX6_joint_22 ?_
      refine r_i2l (pc := 25) dX6_joint_25 ?_
      refine r_goto (pc := 26) (tgt := 32) dX6_joint_26 (by decide) ?_
      exact r_lret dX6_joint_32 rfl (rfl) rfl
theorem q_values_s (X : Ctx) (d : Nat) (I : MI) (L : ML) (s : Int32) (hs : s < nI 0 ∨ nI 5 < s) (v : Int32) : Sp X mX6_values (d + 2) (0, 0) [.ref 42, .int (s), .int (v)] shF I L (some (.int (-1)), shF, (u2 I 42 0 (nI 0)), L) := by
  refine Sp.of okX6_values [.ref 42, .int (s), .int (v)] 0 rfl (Nat.le_of_ble_eq_true rfl) ?_
  refine r_aload_n (pc := 0) dX6_values_0 rfl ?_
  refine r_iconst (pc := 1) (v := nI 0) dX6_values_1 rfl ?_
  refine r_put (pc := 2) .int dX6_values_2 fX6_93 rfl rfl nf6_0 rfl rfl ?_
  refine r_iload_n (pc := 5) dX6_values_5 rfl ?_
  refine r_callS (pc := 6) (N := mX6_isSource) (rest := []) (s_misSource_f X _ (u2 I 42 0 (nI 0)) L s hs) okX6_isSource lkX6_208 rfl rfl (Nat.le_of_ble_eq_true rfl) ⟨Nat.le_refl _, Nat.le_refl _⟩ dX6_values_6 ?_
  refine r_ifN_eq (pc := 9) (tgt := 23) dX6_values_9 (by decide) (by omega) (fun c1 => ?_) (fun c1 => ?_)
  · refine r_iconst (pc := 23) (v := -1) dX6_values_23 rfl ?_
    exact r_iret dX6_values_24 rfl (rfl) rfl
  · exact absurd c1 (by decide)
theorem q_values_v (X : Ctx) (d : Nat) (I : MI) (L : ML) (j : Nat) (hj : j < 6) (v : Int32) (hv : v < -99 ∨ nI 99 < v) : Sp X mX6_values (d + 2) (0, 0) [.ref 42, .int (nI j), .int (v)] shF I L (some (.int (-1)), shF, (u2 I 42 0 (nI 0)), L) := by
  refine Sp.of okX6_values [.ref 42, .int (nI j), .int (v)] 0 rfl (Nat.le_of_ble_eq_true rfl) ?_
  refine r_aload_n (pc := 0) dX6_values_0 rfl ?_
  refine r_iconst (pc := 1) (v := nI 0) dX6_values_1 rfl ?_
  refine r_put (pc := 2) .int dX6_values_2 fX6_93 rfl rfl nf6_0 rfl rfl ?_
  refine r_iload_n (pc := 5) dX6_values_5 rfl ?_
  refine r_callS (pc := 6) (N := mX6_isSource) (rest := []) (s_misSource_t X _ (u2 I 42 0 (nI 0)) L j (by omega)) okX6_isSource lkX6_208 rfl rfl (Nat.le_of_ble_eq_true rfl) ⟨Nat.le_refl _, Nat.le_refl _⟩ dX6_values_6 ?_
  refine r_ifN_eq (pc := 9) (tgt := 23) dX6_values_9 (by decide) (by omega) (fun c1 => ?_) (fun c1 => ?_)
  · exact absurd c1 (by decide)
  · refine r_iload_n (pc := 12) dX6_values_12 rfl ?_
    refine r_bipush (pc := 13) dX6_values_13 bp_m99 ?_
    refine r_bipush (pc := 15) dX6_values_15 bp_99 ?_
    refine r_callS (pc := 17) (N := mX6_in) (rest := []) (s_in_f X _ (u2 I 42 0 (nI 0)) L v (-99) (nI 99) hv) okX6_in lkX6_97 rfl rfl (Nat.le_of_ble_eq_true rfl) ⟨Nat.le_refl _, Nat.le_refl _⟩ dX6_values_17 ?_
    refine r_ifN_ne (pc := 20) (tgt := 25) dX6_values_20 (by decide) (by omega) (fun c2 => ?_) (fun c2 => ?_)
    · exact absurd c2 (by decide)
    · refine r_iconst (pc := 23) (v := -1) dX6_values_23 rfl ?_
      exact r_iret dX6_values_24 rfl (rfl) rfl
theorem q_values_e (X : Ctx) (d : Nat) (I : MI) (L : ML) (j : Nat) (hj : j < 6) (v : Int32) (hv1 : ¬ v < -99) (hv2 : ¬ nI 99 < v) (he : I 55 j = v) : Sp X mX6_values (d + 2) (0, 0) [.ref 42, .int (nI j), .int (v)] shF I L (some (.int (-2)), shF, (u2 I 42 0 (nI 0)), L) := by
  refine Sp.of okX6_values [.ref 42, .int (nI j), .int (v)] 0 rfl (Nat.le_of_ble_eq_true rfl) ?_
  refine r_aload_n (pc := 0) dX6_values_0 rfl ?_
  refine r_iconst (pc := 1) (v := nI 0) dX6_values_1 rfl ?_
  refine r_put (pc := 2) .int dX6_values_2 fX6_93 rfl rfl nf6_0 rfl rfl ?_
  refine r_iload_n (pc := 5) dX6_values_5 rfl ?_
  refine r_callS (pc := 6) (N := mX6_isSource) (rest := []) (s_misSource_t X _ (u2 I 42 0 (nI 0)) L j (by omega)) okX6_isSource lkX6_208 rfl rfl (Nat.le_of_ble_eq_true rfl) ⟨Nat.le_refl _, Nat.le_refl _⟩ dX6_values_6 ?_
  refine r_ifN_eq (pc := 9) (tgt := 23) dX6_values_9 (by decide) (by omega) (fun c1 => ?_) (fun c1 => ?_)
  · exact absurd c1 (by decide)
  · refine r_iload_n (pc := 12) dX6_values_12 rfl ?_
    refine r_bipush (pc := 13) dX6_values_13 bp_m99 ?_
    refine r_bipush (pc := 15) dX6_values_15 bp_99 ?_
    refine r_callS (pc := 17) (N := mX6_in) (rest := []) (s_in_t X _ (u2 I 42 0 (nI 0)) L v (-99) (nI 99) hv1 hv2) okX6_in lkX6_97 rfl rfl (Nat.le_of_ble_eq_true rfl) ⟨Nat.le_refl _, Nat.le_refl _⟩ dX6_values_17 ?_
    refine r_ifN_ne (pc := 20) (tgt := 25) dX6_values_20 (by decide) (by omega) (fun c2 => ?_) (fun c2 => ?_)
    · refine r_aload_n (pc := 25) dX6_values_25 rfl ?_
      refine r_getR (pc := 26) (b := 55) dX6_values_26 fX6_46 rfl rfl ?_
      refine r_iload_n (pc := 29) dX6_values_29 rfl ?_
      refine r_iald (pc := 30) (j := j) dX6_values_30 rfl rfl (by omega) (by decide) ?_
      refine r_iload_n (pc := 31) dX6_values_31 rfl ?_
      refine r_icmp_ne (pc := 32) (tgt := 38) dX6_values_32 (by decide) (fun c3 => ?_) (fun c3 => ?_)
      · exact absurd he c3
      · refine r_bipush (pc := 35) dX6_values_35 bp_m2 ?_
        exact r_iret dX6_values_37 rfl (rfl) rfl
    · exact absurd c2 (by decide)
theorem q_spreads_s (X : Ctx) (d : Nat) (I : MI) (L : ML) (s : Int32) (hs : s < nI 0 ∨ nI 5 < s) (v : Int32) : Sp X mX6_spreads (d + 2) (0, 0) [.ref 42, .int (s), .int (v)] shF I L (some (.int (-1)), shF, (u2 I 42 0 (nI 0)), L) := by
  refine Sp.of okX6_spreads [.ref 42, .int (s), .int (v), .null] 1 rfl (Nat.le_of_ble_eq_true rfl) ?_
  refine r_aload_n (pc := 0) dX6_spreads_0 rfl ?_
  refine r_iconst (pc := 1) (v := nI 0) dX6_spreads_1 rfl ?_
  refine r_put (pc := 2) .int dX6_spreads_2 fX6_93 rfl rfl nf6_0 rfl rfl ?_
  refine r_iload_n (pc := 5) dX6_spreads_5 rfl ?_
  refine r_callS (pc := 6) (N := mX6_isSource) (rest := []) (s_misSource_f X _ (u2 I 42 0 (nI 0)) L s hs) okX6_isSource lkX6_208 rfl rfl (Nat.le_of_ble_eq_true rfl) ⟨Nat.le_refl _, Nat.le_refl _⟩ dX6_spreads_6 ?_
  refine r_ifN_eq (pc := 9) (tgt := 22) dX6_spreads_9 (by decide) (by omega) (fun c1 => ?_) (fun c1 => ?_)
  · refine r_iconst (pc := 22) (v := -1) dX6_spreads_22 rfl ?_
    exact r_iret dX6_spreads_23 rfl (rfl) rfl
  · exact absurd c1 (by decide)
theorem q_spreads_v (X : Ctx) (d : Nat) (I : MI) (L : ML) (j : Nat) (hj : j < 6) (v : Int32) (hv : v < nI 0 ∨ nI 99 < v) : Sp X mX6_spreads (d + 2) (0, 0) [.ref 42, .int (nI j), .int (v)] shF I L (some (.int (-1)), shF, (u2 I 42 0 (nI 0)), L) := by
  refine Sp.of okX6_spreads [.ref 42, .int (nI j), .int (v), .null] 1 rfl (Nat.le_of_ble_eq_true rfl) ?_
  refine r_aload_n (pc := 0) dX6_spreads_0 rfl ?_
  refine r_iconst (pc := 1) (v := nI 0) dX6_spreads_1 rfl ?_
  refine r_put (pc := 2) .int dX6_spreads_2 fX6_93 rfl rfl nf6_0 rfl rfl ?_
  refine r_iload_n (pc := 5) dX6_spreads_5 rfl ?_
  refine r_callS (pc := 6) (N := mX6_isSource) (rest := []) (s_misSource_t X _ (u2 I 42 0 (nI 0)) L j (by omega)) okX6_isSource lkX6_208 rfl rfl (Nat.le_of_ble_eq_true rfl) ⟨Nat.le_refl _, Nat.le_refl _⟩ dX6_spreads_6 ?_
  refine r_ifN_eq (pc := 9) (tgt := 22) dX6_spreads_9 (by decide) (by omega) (fun c1 => ?_) (fun c1 => ?_)
  · exact absurd c1 (by decide)
  · refine r_iload_n (pc := 12) dX6_spreads_12 rfl ?_
    refine r_iconst (pc := 13) (v := nI 0) dX6_spreads_13 rfl ?_
    refine r_bipush (pc := 14) dX6_spreads_14 bp_99 ?_
    refine r_callS (pc := 16) (N := mX6_in) (rest := []) (s_in_f X _ (u2 I 42 0 (nI 0)) L v (nI 0) (nI 99) hv) okX6_in lkX6_97 rfl rfl (Nat.le_of_ble_eq_true rfl) ⟨Nat.le_refl _, Nat.le_refl _⟩ dX6_spreads_16 ?_
    refine r_ifN_ne (pc := 19) (tgt := 24) dX6_spreads_19 (by decide) (by omega) (fun c2 => ?_) (fun c2 => ?_)
    · exact absurd c2 (by decide)
    · refine r_iconst (pc := 22) (v := -1) dX6_spreads_22 rfl ?_
      exact r_iret dX6_spreads_23 rfl (rfl) rfl
theorem q_joints_s (X : Ctx) (d : Nat) (I : MI) (L : ML) (s : Int32) (hs : s < nI 0 ∨ nI 5 < s) (t v : Int32) : Sp X mX6_joints (d + 2) (0, 0) [.ref 42, .int (s), .int (t), .int (v)] shF I L (some (.int (-1)), shF, (u2 I 42 0 (nI 0)), L) := by
  refine Sp.of okX6_joints [.ref 42, .int (s), .int (t), .int (v)] 0 rfl (Nat.le_of_ble_eq_true rfl) ?_
  refine r_aload_n (pc := 0) dX6_joints_0 rfl ?_
  refine r_iconst (pc := 1) (v := nI 0) dX6_joints_1 rfl ?_
  refine r_put (pc := 2) .int dX6_joints_2 fX6_93 rfl rfl nf6_0 rfl rfl ?_
  refine r_iload_n (pc := 5) dX6_joints_5 rfl ?_
  refine r_callS (pc := 6) (N := mX6_isSource) (rest := []) (s_misSource_f X _ (u2 I 42 0 (nI 0)) L s hs) okX6_isSource lkX6_208 rfl rfl (Nat.le_of_ble_eq_true rfl) ⟨Nat.le_refl _, Nat.le_refl _⟩ dX6_joints_6 ?_
  refine r_ifN_eq (pc := 9) (tgt := 35) dX6_joints_9 (by decide) (by omega) (fun c1 => ?_) (fun c1 => ?_)
  · refine r_iconst (pc := 35) (v := -1) dX6_joints_35 rfl ?_
    exact r_iret dX6_joints_36 rfl (rfl) rfl
  · exact absurd c1 (by decide)
theorem q_joints_t (X : Ctx) (d : Nat) (I : MI) (L : ML) (j : Nat) (hj : j < 6) (s : Int32) (hs : s < nI 0 ∨ nI 5 < s) (v : Int32) : Sp X mX6_joints (d + 2) (0, 0) [.ref 42, .int (nI j), .int (s), .int (v)] shF I L (some (.int (-1)), shF, (u2 I 42 0 (nI 0)), L) := by
  refine Sp.of okX6_joints [.ref 42, .int (nI j), .int (s), .int (v)] 0 rfl (Nat.le_of_ble_eq_true rfl) ?_
  refine r_aload_n (pc := 0) dX6_joints_0 rfl ?_
  refine r_iconst (pc := 1) (v := nI 0) dX6_joints_1 rfl ?_
  refine r_put (pc := 2) .int dX6_joints_2 fX6_93 rfl rfl nf6_0 rfl rfl ?_
  refine r_iload_n (pc := 5) dX6_joints_5 rfl ?_
  refine r_callS (pc := 6) (N := mX6_isSource) (rest := []) (s_misSource_t X _ (u2 I 42 0 (nI 0)) L j (by omega)) okX6_isSource lkX6_208 rfl rfl (Nat.le_of_ble_eq_true rfl) ⟨Nat.le_refl _, Nat.le_refl _⟩ dX6_joints_6 ?_
  refine r_ifN_eq (pc := 9) (tgt := 35) dX6_joints_9 (by decide) (by omega) (fun c1 => ?_) (fun c1 => ?_)
  · exact absurd c1 (by decide)
  · refine r_iload_n (pc := 12) dX6_joints_12 rfl ?_
    refine r_callS (pc := 13) (N := mX6_isSource) (rest := []) (s_misSource_f X _ (u2 I 42 0 (nI 0)) L s hs) okX6_isSource lkX6_208 rfl rfl (Nat.le_of_ble_eq_true rfl) ⟨Nat.le_refl _, Nat.le_refl _⟩ dX6_joints_13 ?_
    refine r_ifN_eq (pc := 16) (tgt := 35) dX6_joints_16 (by decide) (by omega) (fun c2 => ?_) (fun c2 => ?_)
    · refine r_iconst (pc := 35) (v := -1) dX6_joints_35 rfl ?_
      exact r_iret dX6_joints_36 rfl (rfl) rfl
    · exact absurd c2 (by decide)
theorem q_joints_same (X : Ctx) (d : Nat) (I : MI) (L : ML) (j : Nat) (hj : j < 6) (v : Int32) : Sp X mX6_joints (d + 2) (0, 0) [.ref 42, .int (nI j), .int (nI j), .int (v)] shF I L (some (.int (-1)), shF, (u2 I 42 0 (nI 0)), L) := by
  refine Sp.of okX6_joints [.ref 42, .int (nI j), .int (nI j), .int (v)] 0 rfl (Nat.le_of_ble_eq_true rfl) ?_
  refine r_aload_n (pc := 0) dX6_joints_0 rfl ?_
  refine r_iconst (pc := 1) (v := nI 0) dX6_joints_1 rfl ?_
  refine r_put (pc := 2) .int dX6_joints_2 fX6_93 rfl rfl nf6_0 rfl rfl ?_
  refine r_iload_n (pc := 5) dX6_joints_5 rfl ?_
  refine r_callS (pc := 6) (N := mX6_isSource) (rest := []) (s_misSource_t X _ (u2 I 42 0 (nI 0)) L j (by omega)) okX6_isSource lkX6_208 rfl rfl (Nat.le_of_ble_eq_true rfl) ⟨Nat.le_refl _, Nat.le_refl _⟩ dX6_joints_6 ?_
  refine r_ifN_eq (pc := 9) (tgt := 35) dX6_joints_9 (by decide) (by omega) (fun c1 => ?_) (fun c1 => ?_)
  · exact absurd c1 (by decide)
  · refine r_iload_n (pc := 12) dX6_joints_12 rfl ?_
    refine r_callS (pc := 13) (N := mX6_isSource) (rest := []) (s_misSource_t X _ (u2 I 42 0 (nI 0)) L j (by omega)) okX6_isSource lkX6_208 rfl rfl (Nat.le_of_ble_eq_true rfl) ⟨Nat.le_refl _, Nat.le_refl _⟩ dX6_joints_13 ?_
    refine r_ifN_eq (pc := 16) (tgt := 35) dX6_joints_16 (by decide) (by omega) (fun c2 => ?_) (fun c2 => ?_)
    · exact absurd c2 (by decide)
    · refine r_iload_n (pc := 19) dX6_joints_19 rfl ?_
      refine r_iload_n (pc := 20) dX6_joints_20 rfl ?_
      refine r_icmpN_eq (pc := 21) (tgt := 35) dX6_joints_21 (by decide) (by omega) (by omega) (fun c3 => ?_) (fun c3 => ?_)
      · refine r_iconst (pc := 35) (v := -1) dX6_joints_35 rfl ?_
        exact r_iret dX6_joints_36 rfl (rfl) rfl
      · exact absurd c3 (by omega)
theorem q_joints_v (X : Ctx) (d : Nat) (I : MI) (L : ML) (j t : Nat) (hj : j < 6) (ht : t < 6) (hjt : j ≠ t) (v : Int32) (hv : v < -99 ∨ nI 99 < v) : Sp X mX6_joints (d + 2) (0, 0) [.ref 42, .int (nI j), .int (nI t), .int (v)] shF I L (some (.int (-1)), shF, (u2 I 42 0 (nI 0)), L) := by
  refine Sp.of okX6_joints [.ref 42, .int (nI j), .int (nI t), .int (v)] 0 rfl (Nat.le_of_ble_eq_true rfl) ?_
  refine r_aload_n (pc := 0) dX6_joints_0 rfl ?_
  refine r_iconst (pc := 1) (v := nI 0) dX6_joints_1 rfl ?_
  refine r_put (pc := 2) .int dX6_joints_2 fX6_93 rfl rfl nf6_0 rfl rfl ?_
  refine r_iload_n (pc := 5) dX6_joints_5 rfl ?_
  refine r_callS (pc := 6) (N := mX6_isSource) (rest := []) (s_misSource_t X _ (u2 I 42 0 (nI 0)) L j (by omega)) okX6_isSource lkX6_208 rfl rfl (Nat.le_of_ble_eq_true rfl) ⟨Nat.le_refl _, Nat.le_refl _⟩ dX6_joints_6 ?_
  refine r_ifN_eq (pc := 9) (tgt := 35) dX6_joints_9 (by decide) (by omega) (fun c1 => ?_) (fun c1 => ?_)
  · exact absurd c1 (by decide)
  · refine r_iload_n (pc := 12) dX6_joints_12 rfl ?_
    refine r_callS (pc := 13) (N := mX6_isSource) (rest := []) (s_misSource_t X _ (u2 I 42 0 (nI 0)) L t (by omega)) okX6_isSource lkX6_208 rfl rfl (Nat.le_of_ble_eq_true rfl) ⟨Nat.le_refl _, Nat.le_refl _⟩ dX6_joints_13 ?_
    refine r_ifN_eq (pc := 16) (tgt := 35) dX6_joints_16 (by decide) (by omega) (fun c2 => ?_) (fun c2 => ?_)
    · exact absurd c2 (by decide)
    · refine r_iload_n (pc := 19) dX6_joints_19 rfl ?_
      refine r_iload_n (pc := 20) dX6_joints_20 rfl ?_
      refine r_icmpN_eq (pc := 21) (tgt := 35) dX6_joints_21 (by decide) (by omega) (by omega) (fun c3 => ?_) (fun c3 => ?_)
      · exact absurd c3 (by omega)
      · refine r_iload_n (pc := 24) dX6_joints_24 rfl ?_
        refine r_bipush (pc := 25) dX6_joints_25 bp_m99 ?_
        refine r_bipush (pc := 27) dX6_joints_27 bp_99 ?_
        refine r_callS (pc := 29) (N := mX6_in) (rest := []) (s_in_f X _ (u2 I 42 0 (nI 0)) L v (-99) (nI 99) hv) okX6_in lkX6_97 rfl rfl (Nat.le_of_ble_eq_true rfl) ⟨Nat.le_refl _, Nat.le_refl _⟩ dX6_joints_29 ?_
        refine r_ifN_ne (pc := 32) (tgt := 37) dX6_joints_32 (by decide) (by omega) (fun c4 => ?_) (fun c4 => ?_)
        · exact absurd c4 (by decide)
        · refine r_iconst (pc := 35) (v := -1) dX6_joints_35 rfl ?_
          exact r_iret dX6_joints_36 rfl (rfl) rfl
theorem q_joints_e (X : Ctx) (d : Nat) (I : MI) (L : ML) (j t : Nat) (hj : j < 6) (ht : t < 6) (hjt : j ≠ t) (v : Int32) (hv1 : ¬ v < -99) (hv2 : ¬ nI 99 < v) (he : jO I j t = v) : Sp X mX6_joints (d + 2) (0, 0) [.ref 42, .int (nI j), .int (nI t), .int (v)] shF I L (some (.int (-2)), shF, (u2 I 42 0 (nI 0)), L) := by
  refine Sp.of okX6_joints [.ref 42, .int (nI j), .int (nI t), .int (v)] 0 rfl (Nat.le_of_ble_eq_true rfl) ?_
  refine r_aload_n (pc := 0) dX6_joints_0 rfl ?_
  refine r_iconst (pc := 1) (v := nI 0) dX6_joints_1 rfl ?_
  refine r_put (pc := 2) .int dX6_joints_2 fX6_93 rfl rfl nf6_0 rfl rfl ?_
  refine r_iload_n (pc := 5) dX6_joints_5 rfl ?_
  refine r_callS (pc := 6) (N := mX6_isSource) (rest := []) (s_misSource_t X _ (u2 I 42 0 (nI 0)) L j (by omega)) okX6_isSource lkX6_208 rfl rfl (Nat.le_of_ble_eq_true rfl) ⟨Nat.le_refl _, Nat.le_refl _⟩ dX6_joints_6 ?_
  refine r_ifN_eq (pc := 9) (tgt := 35) dX6_joints_9 (by decide) (by omega) (fun c1 => ?_) (fun c1 => ?_)
  · exact absurd c1 (by decide)
  · refine r_iload_n (pc := 12) dX6_joints_12 rfl ?_
    refine r_callS (pc := 13) (N := mX6_isSource) (rest := []) (s_misSource_t X _ (u2 I 42 0 (nI 0)) L t (by omega)) okX6_isSource lkX6_208 rfl rfl (Nat.le_of_ble_eq_true rfl) ⟨Nat.le_refl _, Nat.le_refl _⟩ dX6_joints_13 ?_
    refine r_ifN_eq (pc := 16) (tgt := 35) dX6_joints_16 (by decide) (by omega) (fun c2 => ?_) (fun c2 => ?_)
    · exact absurd c2 (by decide)
    · refine r_iload_n (pc := 19) dX6_joints_19 rfl ?_
      refine r_iload_n (pc := 20) dX6_joints_20 rfl ?_
      refine r_icmpN_eq (pc := 21) (tgt := 35) dX6_joints_21 (by decide) (by omega) (by omega) (fun c3 => ?_) (fun c3 => ?_)
      · exact absurd c3 (by omega)
      · refine r_iload_n (pc := 24) dX6_joints_24 rfl ?_
        refine r_bipush (pc := 25) dX6_joints_25 bp_m99 ?_
        refine r_bipush (pc := 27) dX6_joints_27 bp_99 ?_
        refine r_callS (pc := 29) (N := mX6_in) (rest := []) (s_in_t X _ (u2 I 42 0 (nI 0)) L v (-99) (nI 99) hv1 hv2) okX6_in lkX6_97 rfl rfl (Nat.le_of_ble_eq_true rfl) ⟨Nat.le_refl _, Nat.le_refl _⟩ dX6_joints_29 ?_
        refine r_ifN_ne (pc := 32) (tgt := 37) dX6_joints_32 (by decide) (by omega) (fun c4 => ?_) (fun c4 => ?_)
        · refine r_aload_n (pc := 37) dX6_joints_37 rfl ?_
          refine r_iload_n (pc := 38) dX6_joints_38 rfl ?_
          refine r_iload_n (pc := 39) dX6_joints_39 rfl ?_
          refine r_callV (pc := 40) (N := mX6_jointOf) (rest := []) (s_jointOf X _ (u2 I 42 0 (nI 0)) L j t (by omega) (by omega)) okX6_jointOf lkX6_213 rfl (by decide) rfl rfl rfl (Nat.le_of_ble_eq_true rfl) ⟨Nat.le_refl _, Nat.le_refl _⟩ dX6_joints_40 ?_
          refine r_iload_n (pc := 43) dX6_joints_43 rfl ?_
          refine r_icmp_ne (pc := 44) (tgt := 50) dX6_joints_44 (by decide) (fun c5 => ?_) (fun c5 => ?_)
          · exact absurd he c5
          · refine r_bipush (pc := 47) dX6_joints_47 bp_m2 ?_
            exact r_iret dX6_joints_49 rfl (rfl) rfl
        · exact absurd c4 (by decide)
theorem q_values_a (X : Ctx) (d : Nat) (I : MI) (L : ML) (j : Nat) (hj : j < 6) (v : Int32) (hv1 : ¬ v < -99) (hv2 : ¬ nI 99 < v) (he : ¬ I 55 j = v) (n : Nat) (hn : I 42 23 = nI n) (h10 : n < 10) : Sp X mX6_values (d + 2) (0, 0) [.ref 42, .int (nI j), .int (v)] shF I L (some (.int (nI 1)), shF, (u2 (u2 (noU (u2 I 42 0 (nI 0)) n) 42 23 (nI (n + 1))) 55 j v), L) := by
  refine Sp.of okX6_values [.ref 42, .int (nI j), .int (v)] 0 rfl (Nat.le_of_ble_eq_true rfl) ?_
  refine r_aload_n (pc := 0) dX6_values_0 rfl ?_
  refine r_iconst (pc := 1) (v := nI 0) dX6_values_1 rfl ?_
  refine r_put (pc := 2) .int dX6_values_2 fX6_93 rfl rfl nf6_0 rfl rfl ?_
  refine r_iload_n (pc := 5) dX6_values_5 rfl ?_
  refine r_callS (pc := 6) (N := mX6_isSource) (rest := []) (s_misSource_t X _ (u2 I 42 0 (nI 0)) L j (by omega)) okX6_isSource lkX6_208 rfl rfl (Nat.le_of_ble_eq_true rfl) ⟨Nat.le_refl _, Nat.le_refl _⟩ dX6_values_6 ?_
  refine r_ifN_eq (pc := 9) (tgt := 23) dX6_values_9 (by decide) (by omega) (fun c1 => ?_) (fun c1 => ?_)
  · exact absurd c1 (by decide)
  · refine r_iload_n (pc := 12) dX6_values_12 rfl ?_
    refine r_bipush (pc := 13) dX6_values_13 bp_m99 ?_
    refine r_bipush (pc := 15) dX6_values_15 bp_99 ?_
    refine r_callS (pc := 17) (N := mX6_in) (rest := []) (s_in_t X _ (u2 I 42 0 (nI 0)) L v (-99) (nI 99) hv1 hv2) okX6_in lkX6_97 rfl rfl (Nat.le_of_ble_eq_true rfl) ⟨Nat.le_refl _, Nat.le_refl _⟩ dX6_values_17 ?_
    refine r_ifN_ne (pc := 20) (tgt := 25) dX6_values_20 (by decide) (by omega) (fun c2 => ?_) (fun c2 => ?_)
    · refine r_aload_n (pc := 25) dX6_values_25 rfl ?_
      refine r_getR (pc := 26) (b := 55) dX6_values_26 fX6_46 rfl rfl ?_
      refine r_iload_n (pc := 29) dX6_values_29 rfl ?_
      refine r_iald (pc := 30) (j := j) dX6_values_30 rfl rfl (by omega) (by decide) ?_
      refine r_iload_n (pc := 31) dX6_values_31 rfl ?_
      refine r_icmp_ne (pc := 32) (tgt := 38) dX6_values_32 (by decide) (fun c3 => ?_) (fun c3 => ?_)
      · refine r_aload_n (pc := 38) dX6_values_38 rfl ?_
        refine r_callV (pc := 39) (N := mX6_notes) (rest := []) (s_notes_a X _ (u2 I 42 0 (nI 0)) L n hn h10) okX6_notes lkX6_217 rfl (by decide) rfl rfl rfl (Nat.le_of_ble_eq_true rfl) ⟨Nat.le_refl _, Nat.le_refl _⟩ dX6_values_39 ?_
        refine r_aload_n (pc := 42) dX6_values_42 rfl ?_
        refine r_getR (pc := 43) (b := 55) dX6_values_43 fX6_46 rfl rfl ?_
        refine r_iload_n (pc := 46) dX6_values_46 rfl ?_
        refine r_iload_n (pc := 47) dX6_values_47 rfl ?_
        refine r_iast (pc := 48) (j := j) dX6_values_48 rfl rfl (by omega) (by decide) ?_
        refine r_iconst (pc := 49) (v := nI 1) dX6_values_49 rfl ?_
        exact r_iret dX6_values_50 rfl (rfl) rfl
      · exact absurd c3 he
    · exact absurd c2 (by decide)
theorem q_spreads_a (X : Ctx) (d : Nat) (I : MI) (L : ML) (j : Nat) (hj : j < 6) (v : Int32) (hv1 : ¬ v < nI 0) (hv2 : ¬ nI 99 < v) (n : Nat) (hn : I 42 23 = nI n) (h10 : n < 10) : Sp X mX6_spreads (d + 2) (0, 0) [.ref 42, .int (nI j), .int (v)] shF I L (some (.int (I 55 (6 + j))), shF, (u2 (u2 (noU (u2 I 42 0 (nI 0)) n) 42 23 (nI (n + 1))) 55 (6 + j) v), L) := by
  refine Sp.of okX6_spreads [.ref 42, .int (nI j), .int (v), .null] 1 rfl (Nat.le_of_ble_eq_true rfl) ?_
  refine r_aload_n (pc := 0) dX6_spreads_0 rfl ?_
  refine r_iconst (pc := 1) (v := nI 0) dX6_spreads_1 rfl ?_
  refine r_put (pc := 2) .int dX6_spreads_2 fX6_93 rfl rfl nf6_0 rfl rfl ?_
  refine r_iload_n (pc := 5) dX6_spreads_5 rfl ?_
  refine r_callS (pc := 6) (N := mX6_isSource) (rest := []) (s_misSource_t X _ (u2 I 42 0 (nI 0)) L j (by omega)) okX6_isSource lkX6_208 rfl rfl (Nat.le_of_ble_eq_true rfl) ⟨Nat.le_refl _, Nat.le_refl _⟩ dX6_spreads_6 ?_
  refine r_ifN_eq (pc := 9) (tgt := 22) dX6_spreads_9 (by decide) (by omega) (fun c1 => ?_) (fun c1 => ?_)
  · exact absurd c1 (by decide)
  · refine r_iload_n (pc := 12) dX6_spreads_12 rfl ?_
    refine r_iconst (pc := 13) (v := nI 0) dX6_spreads_13 rfl ?_
    refine r_bipush (pc := 14) dX6_spreads_14 bp_99 ?_
    refine r_callS (pc := 16) (N := mX6_in) (rest := []) (s_in_t X _ (u2 I 42 0 (nI 0)) L v (nI 0) (nI 99) hv1 hv2) okX6_in lkX6_97 rfl rfl (Nat.le_of_ble_eq_true rfl) ⟨Nat.le_refl _, Nat.le_refl _⟩ dX6_spreads_16 ?_
    refine r_ifN_ne (pc := 19) (tgt := 24) dX6_spreads_19 (by decide) (by omega) (fun c2 => ?_) (fun c2 => ?_)
    · refine r_aload_n (pc := 24) dX6_spreads_24 rfl ?_
      refine r_callV (pc := 25) (N := mX6_notes) (rest := []) (s_notes_a X _ (u2 I 42 0 (nI 0)) L n hn h10) okX6_notes lkX6_217 rfl (by decide) rfl rfl rfl (Nat.le_of_ble_eq_true rfl) ⟨Nat.le_refl _, Nat.le_refl _⟩ dX6_spreads_25 ?_
      refine r_aload_n (pc := 28) dX6_spreads_28 rfl ?_
      refine r_getR (pc := 29) (b := 55) dX6_spreads_29 fX6_46 rfl rfl ?_
      refine r_bipush (pc := 32) dX6_spreads_32 bp_6 ?_
      refine r_iload_n (pc := 34) dX6_spreads_34 rfl ?_
      refine r_iaddN (pc := 35) dX6_spreads_35 ?_
      refine r_iald (pc := 36) (j := 6 + j) dX6_spreads_36 rfl rfl (by omega) (by decide) ?_
      refine r_istore_n (pc := 37) (lo1 := [.ref 42, .int (nI j), .int (v), .int ((u2 (noU (u2 I 42 0 (nI 0)) n) 42 23 (nI (n + 1))) 55 (6 + j))]) dX6_spreads_37 rfl (by decide) rfl ?_
      refine r_aload_n (pc := 38) dX6_spreads_38 rfl ?_
      refine r_getR (pc := 39) (b := 55) dX6_spreads_39 fX6_46 rfl rfl ?_
      refine r_bipush (pc := 42) dX6_spreads_42 bp_6 ?_
      refine r_iload_n (pc := 44) dX6_spreads_44 rfl ?_
      refine r_iaddN (pc := 45) dX6_spreads_45 ?_
      refine r_iload_n (pc := 46) dX6_spreads_46 rfl ?_
      refine r_iast (pc := 47) (j := 6 + j) dX6_spreads_47 rfl rfl (by omega) (by decide) ?_
      refine r_iload_n (pc := 48) dX6_spreads_48 rfl ?_
      exact r_iret dX6_spreads_49 rfl (rfl) rfl
    · exact absurd c2 (by decide)
theorem q_joints_a (X : Ctx) (d : Nat) (I : MI) (L : ML) (j t : Nat) (hj : j < 6) (ht : t < 6) (hjt : j ≠ t) (v : Int32) (hv1 : ¬ v < -99) (hv2 : ¬ nI 99 < v) (he : ¬ jO I j t = v) (n : Nat) (hn : I 42 23 = nI n) (h10 : n < 10) : Sp X mX6_joints (d + 2) (0, 0) [.ref 42, .int (nI j), .int (nI t), .int (v)] shF I L (some (.int (nI 1)), shF, (u2 (u2 (u2 (noU (u2 I 42 0 (nI 0)) n) 42 23 (nI (n + 1))) 55 (12 + 6 * j + t) v) 55 (12 + 6 * t + j) v), L) := by
  refine Sp.of okX6_joints [.ref 42, .int (nI j), .int (nI t), .int (v)] 0 rfl (Nat.le_of_ble_eq_true rfl) ?_
  refine r_aload_n (pc := 0) dX6_joints_0 rfl ?_
  refine r_iconst (pc := 1) (v := nI 0) dX6_joints_1 rfl ?_
  refine r_put (pc := 2) .int dX6_joints_2 fX6_93 rfl rfl nf6_0 rfl rfl ?_
  refine r_iload_n (pc := 5) dX6_joints_5 rfl ?_
  refine r_callS (pc := 6) (N := mX6_isSource) (rest := []) (s_misSource_t X _ (u2 I 42 0 (nI 0)) L j (by omega)) okX6_isSource lkX6_208 rfl rfl (Nat.le_of_ble_eq_true rfl) ⟨Nat.le_refl _, Nat.le_refl _⟩ dX6_joints_6 ?_
  refine r_ifN_eq (pc := 9) (tgt := 35) dX6_joints_9 (by decide) (by omega) (fun c1 => ?_) (fun c1 => ?_)
  · exact absurd c1 (by decide)
  · refine r_iload_n (pc := 12) dX6_joints_12 rfl ?_
    refine r_callS (pc := 13) (N := mX6_isSource) (rest := []) (s_misSource_t X _ (u2 I 42 0 (nI 0)) L t (by omega)) okX6_isSource lkX6_208 rfl rfl (Nat.le_of_ble_eq_true rfl) ⟨Nat.le_refl _, Nat.le_refl _⟩ dX6_joints_13 ?_
    refine r_ifN_eq (pc := 16) (tgt := 35) dX6_joints_16 (by decide) (by omega) (fun c2 => ?_) (fun c2 => ?_)
    · exact absurd c2 (by decide)
    · refine r_iload_n (pc := 19) dX6_joints_19 rfl ?_
      refine r_iload_n (pc := 20) dX6_joints_20 rfl ?_
      refine r_icmpN_eq (pc := 21) (tgt := 35) dX6_joints_21 (by decide) (by omega) (by omega) (fun c3 => ?_) (fun c3 => ?_)
      · exact absurd c3 (by omega)
      · refine r_iload_n (pc := 24) dX6_joints_24 rfl ?_
        refine r_bipush (pc := 25) dX6_joints_25 bp_m99 ?_
        refine r_bipush (pc := 27) dX6_joints_27 bp_99 ?_
        refine r_callS (pc := 29) (N := mX6_in) (rest := []) (s_in_t X _ (u2 I 42 0 (nI 0)) L v (-99) (nI 99) hv1 hv2) okX6_in lkX6_97 rfl rfl (Nat.le_of_ble_eq_true rfl) ⟨Nat.le_refl _, Nat.le_refl _⟩ dX6_joints_29 ?_
        refine r_ifN_ne (pc := 32) (tgt := 37) dX6_joints_32 (by decide) (by omega) (fun c4 => ?_) (fun c4 => ?_)
        · refine r_aload_n (pc := 37) dX6_joints_37 rfl ?_
          refine r_iload_n (pc := 38) dX6_joints_38 rfl ?_
          refine r_iload_n (pc := 39) dX6_joints_39 rfl ?_
          refine r_callV (pc := 40) (N := mX6_jointOf) (rest := []) (s_jointOf X _ (u2 I 42 0 (nI 0)) L j t (by omega) (by omega)) okX6_jointOf lkX6_213 rfl (by decide) rfl rfl rfl (Nat.le_of_ble_eq_true rfl) ⟨Nat.le_refl _, Nat.le_refl _⟩ dX6_joints_40 ?_
          refine r_iload_n (pc := 43) dX6_joints_43 rfl ?_
          refine r_icmp_ne (pc := 44) (tgt := 50) dX6_joints_44 (by decide) (fun c5 => ?_) (fun c5 => ?_)
          · refine r_aload_n (pc := 50) dX6_joints_50 rfl ?_
            refine r_callV (pc := 51) (N := mX6_notes) (rest := []) (s_notes_a X _ (u2 I 42 0 (nI 0)) L n hn h10) okX6_notes lkX6_217 rfl (by decide) rfl rfl rfl (Nat.le_of_ble_eq_true rfl) ⟨Nat.le_refl _, Nat.le_refl _⟩ dX6_joints_51 ?_
            refine r_aload_n (pc := 54) dX6_joints_54 rfl ?_
            refine r_getR (pc := 55) (b := 55) dX6_joints_55 fX6_46 rfl rfl ?_
            refine r_bipush (pc := 58) dX6_joints_58 bp_12 ?_
            refine r_bipush (pc := 60) dX6_joints_60 bp_6 ?_
            refine r_iload_n (pc := 62) dX6_joints_62 rfl ?_
            refine r_imulN (pc := 63) dX6_joints_63 ?_
            refine r_iaddN (pc := 64) dX6_joints_64 ?_
            refine r_iload_n (pc := 65) dX6_joints_65 rfl ?_
            refine r_iaddN (pc := 66) dX6_joints_66 ?_
            refine r_iload_n (pc := 67) dX6_joints_67 rfl ?_
            refine r_iast (pc := 68) (j := (12 + (6 * j)) + t) dX6_joints_68 rfl rfl (by omega) (by decide) ?_
            refine r_aload_n (pc := 69) dX6_joints_69 rfl ?_
            refine r_getR (pc := 70) (b := 55) dX6_joints_70 fX6_46 rfl rfl ?_
            refine r_bipush (pc := 73) dX6_joints_73 bp_12 ?_
            refine r_bipush (pc := 75) dX6_joints_75 bp_6 ?_
            refine r_iload_n (pc := 77) dX6_joints_77 rfl ?_
            refine r_imulN (pc := 78) dX6_joints_78 ?_
            refine r_iaddN (pc := 79) dX6_joints_79 ?_
            refine r_iload_n (pc := 80) dX6_joints_80 rfl ?_
            refine r_iaddN (pc := 81) dX6_joints_81 ?_
            refine r_iload_n (pc := 82) dX6_joints_82 rfl ?_
            refine r_iast (pc := 83) (j := (12 + (6 * t)) + j) dX6_joints_83 rfl rfl (by omega) (by decide) ?_
            refine r_iconst (pc := 84) (v := nI 1) dX6_joints_84 rfl ?_
            exact r_iret dX6_joints_85 rfl (rfl) rfl
          · exact absurd c5 he
        · exact absurd c4 (by decide)
theorem q_values_b (X : Ctx) (d : Nat) (I : MI) (L : ML) (j : Nat) (hj : j < 6) (v : Int32) (hv1 : ¬ v < -99) (hv2 : ¬ nI 99 < v) (he : ¬ I 55 j = v) (hn : I 42 23 = nI 10) : Sp X mX6_values (d + 2) (0, 0) [.ref 42, .int (nI j), .int (v)] shF I L (some (.int (nI 1)), shF, (u2 (u2 (noU (u2 (shU (u2 I 42 0 (nI 0))) 42 23 (nI 9)) 9) 42 23 (nI 10)) 55 j v), L) := by
  refine Sp.of okX6_values [.ref 42, .int (nI j), .int (v)] 0 rfl (Nat.le_of_ble_eq_true rfl) ?_
  refine r_aload_n (pc := 0) dX6_values_0 rfl ?_
  refine r_iconst (pc := 1) (v := nI 0) dX6_values_1 rfl ?_
  refine r_put (pc := 2) .int dX6_values_2 fX6_93 rfl rfl nf6_0 rfl rfl ?_
  refine r_iload_n (pc := 5) dX6_values_5 rfl ?_
  refine r_callS (pc := 6) (N := mX6_isSource) (rest := []) (s_misSource_t X _ (u2 I 42 0 (nI 0)) L j (by omega)) okX6_isSource lkX6_208 rfl rfl (Nat.le_of_ble_eq_true rfl) ⟨Nat.le_refl _, Nat.le_refl _⟩ dX6_values_6 ?_
  refine r_ifN_eq (pc := 9) (tgt := 23) dX6_values_9 (by decide) (by omega) (fun c1 => ?_) (fun c1 => ?_)
  · exact absurd c1 (by decide)
  · refine r_iload_n (pc := 12) dX6_values_12 rfl ?_
    refine r_bipush (pc := 13) dX6_values_13 bp_m99 ?_
    refine r_bipush (pc := 15) dX6_values_15 bp_99 ?_
    refine r_callS (pc := 17) (N := mX6_in) (rest := []) (s_in_t X _ (u2 I 42 0 (nI 0)) L v (-99) (nI 99) hv1 hv2) okX6_in lkX6_97 rfl rfl (Nat.le_of_ble_eq_true rfl) ⟨Nat.le_refl _, Nat.le_refl _⟩ dX6_values_17 ?_
    refine r_ifN_ne (pc := 20) (tgt := 25) dX6_values_20 (by decide) (by omega) (fun c2 => ?_) (fun c2 => ?_)
    · refine r_aload_n (pc := 25) dX6_values_25 rfl ?_
      refine r_getR (pc := 26) (b := 55) dX6_values_26 fX6_46 rfl rfl ?_
      refine r_iload_n (pc := 29) dX6_values_29 rfl ?_
      refine r_iald (pc := 30) (j := j) dX6_values_30 rfl rfl (by omega) (by decide) ?_
      refine r_iload_n (pc := 31) dX6_values_31 rfl ?_
      refine r_icmp_ne (pc := 32) (tgt := 38) dX6_values_32 (by decide) (fun c3 => ?_) (fun c3 => ?_)
      · refine r_aload_n (pc := 38) dX6_values_38 rfl ?_
        refine r_callV (pc := 39) (N := mX6_notes) (rest := []) (s_notes_b X _ (u2 I 42 0 (nI 0)) L hn) okX6_notes lkX6_217 rfl (by decide) rfl rfl rfl (Nat.le_of_ble_eq_true rfl) ⟨Nat.le_refl _, Nat.le_refl _⟩ dX6_values_39 ?_
        refine r_aload_n (pc := 42) dX6_values_42 rfl ?_
        refine r_getR (pc := 43) (b := 55) dX6_values_43 fX6_46 rfl rfl ?_
        refine r_iload_n (pc := 46) dX6_values_46 rfl ?_
        refine r_iload_n (pc := 47) dX6_values_47 rfl ?_
        refine r_iast (pc := 48) (j := j) dX6_values_48 rfl rfl (by omega) (by decide) ?_
        refine r_iconst (pc := 49) (v := nI 1) dX6_values_49 rfl ?_
        exact r_iret dX6_values_50 rfl (rfl) rfl
      · exact absurd c3 he
    · exact absurd c2 (by decide)
theorem q_spreads_b (X : Ctx) (d : Nat) (I : MI) (L : ML) (j : Nat) (hj : j < 6) (v : Int32) (hv1 : ¬ v < nI 0) (hv2 : ¬ nI 99 < v) (hn : I 42 23 = nI 10) : Sp X mX6_spreads (d + 2) (0, 0) [.ref 42, .int (nI j), .int (v)] shF I L (some (.int (I 55 (6 + j))), shF, (u2 (u2 (noU (u2 (shU (u2 I 42 0 (nI 0))) 42 23 (nI 9)) 9) 42 23 (nI 10)) 55 (6 + j) v), L) := by
  refine Sp.of okX6_spreads [.ref 42, .int (nI j), .int (v), .null] 1 rfl (Nat.le_of_ble_eq_true rfl) ?_
  refine r_aload_n (pc := 0) dX6_spreads_0 rfl ?_
  refine r_iconst (pc := 1) (v := nI 0) dX6_spreads_1 rfl ?_
  refine r_put (pc := 2) .int dX6_spreads_2 fX6_93 rfl rfl nf6_0 rfl rfl ?_
  refine r_iload_n (pc := 5) dX6_spreads_5 rfl ?_
  refine r_callS (pc := 6) (N := mX6_isSource) (rest := []) (s_misSource_t X _ (u2 I 42 0 (nI 0)) L j (by omega)) okX6_isSource lkX6_208 rfl rfl (Nat.le_of_ble_eq_true rfl) ⟨Nat.le_refl _, Nat.le_refl _⟩ dX6_spreads_6 ?_
  refine r_ifN_eq (pc := 9) (tgt := 22) dX6_spreads_9 (by decide) (by omega) (fun c1 => ?_) (fun c1 => ?_)
  · exact absurd c1 (by decide)
  · refine r_iload_n (pc := 12) dX6_spreads_12 rfl ?_
    refine r_iconst (pc := 13) (v := nI 0) dX6_spreads_13 rfl ?_
    refine r_bipush (pc := 14) dX6_spreads_14 bp_99 ?_
    refine r_callS (pc := 16) (N := mX6_in) (rest := []) (s_in_t X _ (u2 I 42 0 (nI 0)) L v (nI 0) (nI 99) hv1 hv2) okX6_in lkX6_97 rfl rfl (Nat.le_of_ble_eq_true rfl) ⟨Nat.le_refl _, Nat.le_refl _⟩ dX6_spreads_16 ?_
    refine r_ifN_ne (pc := 19) (tgt := 24) dX6_spreads_19 (by decide) (by omega) (fun c2 => ?_) (fun c2 => ?_)
    · refine r_aload_n (pc := 24) dX6_spreads_24 rfl ?_
      refine r_callV (pc := 25) (N := mX6_notes) (rest := []) (s_notes_b X _ (u2 I 42 0 (nI 0)) L hn) okX6_notes lkX6_217 rfl (by decide) rfl rfl rfl (Nat.le_of_ble_eq_true rfl) ⟨Nat.le_refl _, Nat.le_refl _⟩ dX6_spreads_25 ?_
      refine r_aload_n (pc := 28) dX6_spreads_28 rfl ?_
      refine r_getR (pc := 29) (b := 55) dX6_spreads_29 fX6_46 rfl rfl ?_
      refine r_bipush (pc := 32) dX6_spreads_32 bp_6 ?_
      refine r_iload_n (pc := 34) dX6_spreads_34 rfl ?_
      refine r_iaddN (pc := 35) dX6_spreads_35 ?_
      refine r_iald (pc := 36) (j := 6 + j) dX6_spreads_36 rfl rfl (by omega) (by decide) ?_
      refine r_istore_n (pc := 37) (lo1 := [.ref 42, .int (nI j), .int (v), .int ((u2 (noU (u2 (shU (u2 I 42 0 (nI 0))) 42 23 (nI 9)) 9) 42 23 (nI 10)) 55 (6 + j))]) dX6_spreads_37 rfl (by decide) rfl ?_
      refine r_aload_n (pc := 38) dX6_spreads_38 rfl ?_
      refine r_getR (pc := 39) (b := 55) dX6_spreads_39 fX6_46 rfl rfl ?_
      refine r_bipush (pc := 42) dX6_spreads_42 bp_6 ?_
      refine r_iload_n (pc := 44) dX6_spreads_44 rfl ?_
      refine r_iaddN (pc := 45) dX6_spreads_45 ?_
      refine r_iload_n (pc := 46) dX6_spreads_46 rfl ?_
      refine r_iast (pc := 47) (j := 6 + j) dX6_spreads_47 rfl rfl (by omega) (by decide) ?_
      refine r_iload_n (pc := 48) dX6_spreads_48 rfl ?_
      exact r_iret dX6_spreads_49 rfl (rfl) rfl
    · exact absurd c2 (by decide)
theorem q_joints_b (X : Ctx) (d : Nat) (I : MI) (L : ML) (j t : Nat) (hj : j < 6) (ht : t < 6) (hjt : j ≠ t) (v : Int32) (hv1 : ¬ v < -99) (hv2 : ¬ nI 99 < v) (he : ¬ jO I j t = v) (hn : I 42 23 = nI 10) : Sp X mX6_joints (d + 2) (0, 0) [.ref 42, .int (nI j), .int (nI t), .int (v)] shF I L (some (.int (nI 1)), shF, (u2 (u2 (u2 (noU (u2 (shU (u2 I 42 0 (nI 0))) 42 23 (nI 9)) 9) 42 23 (nI 10)) 55 (12 + 6 * j + t) v) 55 (12 + 6 * t + j) v), L) := by
  refine Sp.of okX6_joints [.ref 42, .int (nI j), .int (nI t), .int (v)] 0 rfl (Nat.le_of_ble_eq_true rfl) ?_
  refine r_aload_n (pc := 0) dX6_joints_0 rfl ?_
  refine r_iconst (pc := 1) (v := nI 0) dX6_joints_1 rfl ?_
  refine r_put (pc := 2) .int dX6_joints_2 fX6_93 rfl rfl nf6_0 rfl rfl ?_
  refine r_iload_n (pc := 5) dX6_joints_5 rfl ?_
  refine r_callS (pc := 6) (N := mX6_isSource) (rest := []) (s_misSource_t X _ (u2 I 42 0 (nI 0)) L j (by omega)) okX6_isSource lkX6_208 rfl rfl (Nat.le_of_ble_eq_true rfl) ⟨Nat.le_refl _, Nat.le_refl _⟩ dX6_joints_6 ?_
  refine r_ifN_eq (pc := 9) (tgt := 35) dX6_joints_9 (by decide) (by omega) (fun c1 => ?_) (fun c1 => ?_)
  · exact absurd c1 (by decide)
  · refine r_iload_n (pc := 12) dX6_joints_12 rfl ?_
    refine r_callS (pc := 13) (N := mX6_isSource) (rest := []) (s_misSource_t X _ (u2 I 42 0 (nI 0)) L t (by omega)) okX6_isSource lkX6_208 rfl rfl (Nat.le_of_ble_eq_true rfl) ⟨Nat.le_refl _, Nat.le_refl _⟩ dX6_joints_13 ?_
    refine r_ifN_eq (pc := 16) (tgt := 35) dX6_joints_16 (by decide) (by omega) (fun c2 => ?_) (fun c2 => ?_)
    · exact absurd c2 (by decide)
    · refine r_iload_n (pc := 19) dX6_joints_19 rfl ?_
      refine r_iload_n (pc := 20) dX6_joints_20 rfl ?_
      refine r_icmpN_eq (pc := 21) (tgt := 35) dX6_joints_21 (by decide) (by omega) (by omega) (fun c3 => ?_) (fun c3 => ?_)
      · exact absurd c3 (by omega)
      · refine r_iload_n (pc := 24) dX6_joints_24 rfl ?_
        refine r_bipush (pc := 25) dX6_joints_25 bp_m99 ?_
        refine r_bipush (pc := 27) dX6_joints_27 bp_99 ?_
        refine r_callS (pc := 29) (N := mX6_in) (rest := []) (s_in_t X _ (u2 I 42 0 (nI 0)) L v (-99) (nI 99) hv1 hv2) okX6_in lkX6_97 rfl rfl (Nat.le_of_ble_eq_true rfl) ⟨Nat.le_refl _, Nat.le_refl _⟩ dX6_joints_29 ?_
        refine r_ifN_ne (pc := 32) (tgt := 37) dX6_joints_32 (by decide) (by omega) (fun c4 => ?_) (fun c4 => ?_)
        · refine r_aload_n (pc := 37) dX6_joints_37 rfl ?_
          refine r_iload_n (pc := 38) dX6_joints_38 rfl ?_
          refine r_iload_n (pc := 39) dX6_joints_39 rfl ?_
          refine r_callV (pc := 40) (N := mX6_jointOf) (rest := []) (s_jointOf X _ (u2 I 42 0 (nI 0)) L j t (by omega) (by omega)) okX6_jointOf lkX6_213 rfl (by decide) rfl rfl rfl (Nat.le_of_ble_eq_true rfl) ⟨Nat.le_refl _, Nat.le_refl _⟩ dX6_joints_40 ?_
          refine r_iload_n (pc := 43) dX6_joints_43 rfl ?_
          refine r_icmp_ne (pc := 44) (tgt := 50) dX6_joints_44 (by decide) (fun c5 => ?_) (fun c5 => ?_)
          · refine r_aload_n (pc := 50) dX6_joints_50 rfl ?_
            refine r_callV (pc := 51) (N := mX6_notes) (rest := []) (s_notes_b X _ (u2 I 42 0 (nI 0)) L hn) okX6_notes lkX6_217 rfl (by decide) rfl rfl rfl (Nat.le_of_ble_eq_true rfl) ⟨Nat.le_refl _, Nat.le_refl _⟩ dX6_joints_51 ?_
            refine r_aload_n (pc := 54) dX6_joints_54 rfl ?_
            refine r_getR (pc := 55) (b := 55) dX6_joints_55 fX6_46 rfl rfl ?_
            refine r_bipush (pc := 58) dX6_joints_58 bp_12 ?_
            refine r_bipush (pc := 60) dX6_joints_60 bp_6 ?_
            refine r_iload_n (pc := 62) dX6_joints_62 rfl ?_
            refine r_imulN (pc := 63) dX6_joints_63 ?_
            refine r_iaddN (pc := 64) dX6_joints_64 ?_
            refine r_iload_n (pc := 65) dX6_joints_65 rfl ?_
            refine r_iaddN (pc := 66) dX6_joints_66 ?_
            refine r_iload_n (pc := 67) dX6_joints_67 rfl ?_
            refine r_iast (pc := 68) (j := (12 + (6 * j)) + t) dX6_joints_68 rfl rfl (by omega) (by decide) ?_
            refine r_aload_n (pc := 69) dX6_joints_69 rfl ?_
            refine r_getR (pc := 70) (b := 55) dX6_joints_70 fX6_46 rfl rfl ?_
            refine r_bipush (pc := 73) dX6_joints_73 bp_12 ?_
            refine r_bipush (pc := 75) dX6_joints_75 bp_6 ?_
            refine r_iload_n (pc := 77) dX6_joints_77 rfl ?_
            refine r_imulN (pc := 78) dX6_joints_78 ?_
            refine r_iaddN (pc := 79) dX6_joints_79 ?_
            refine r_iload_n (pc := 80) dX6_joints_80 rfl ?_
            refine r_iaddN (pc := 81) dX6_joints_81 ?_
            refine r_iload_n (pc := 82) dX6_joints_82 rfl ?_
            refine r_iast (pc := 83) (j := (12 + (6 * t)) + j) dX6_joints_83 rfl rfl (by omega) (by decide) ?_
            refine r_iconst (pc := 84) (v := nI 1) dX6_joints_84 rfl ?_
            exact r_iret dX6_joints_85 rfl (rfl) rfl
          · exact absurd c5 he
        · exact absurd c4 (by decide)
theorem q_undo_0 (X : Ctx) (d : Nat) (I : MI) (L : ML) (hn : I 42 23 = nI 0) : Sp X mX6_undo (d + 0) (0, 0) [.ref 42] shF I L (some (.int (-2)), shF, (u2 I 42 0 (nI 0)), L) := by
  refine Sp.of okX6_undo [.ref 42, .null] 1 rfl (Nat.le_of_ble_eq_true rfl) ?_
  refine r_aload_n (pc := 0) dX6_undo_0 rfl ?_
  refine r_iconst (pc := 1) (v := nI 0) dX6_undo_1 rfl ?_
  refine r_put (pc := 2) .int dX6_undo_2 fX6_93 rfl rfl nf6_0 rfl rfl ?_
  refine r_aload_n (pc := 5) dX6_undo_5 rfl ?_
  refine r_getV (pc := 6) (v := nI 0) dX6_undo_6 fX6_205 rfl rfl (hn) ?_
  refine r_ifN_ne (pc := 9) (tgt := 15) dX6_undo_9 (by decide) (by omega) (fun c1 => ?_) (fun c1 => ?_)
  · exact absurd c1 (by decide)
  · refine r_bipush (pc := 12) dX6_undo_12 bp_m2 ?_
    exact r_iret dX6_undo_14 rfl (rfl) rfl
theorem lp_qundo (X : Ctx) (d : Nat) (I : MI) (L : ML) (k : Nat) (hn : I 42 23 = nI (k + 1)) (hk : k < 10) : ∀ (z i : Nat), i + z = 48 → Ev X mX6_undo (d + 0) (0, 0) (0, 0) (some (.int (nI k)), shF, (s2 (u2 (u2 I 42 0 (nI 0)) 42 23 (nI k)) 55 (fun j => if j < 48 then I 56 (48 * k + j) else I 55 j)), L) 27 [.ref 42, .int (nI i)] [] shF (s2 (u2 (u2 I 42 0 (nI 0)) 42 23 (nI k)) 55 (fun j => if j < i then I 56 (48 * k + j) else I 55 j)) L := by
  intro z
  induction z with
  | zero =>
    intro i hi
    have hi2 : i = 48 := by omega
    rw [hi2]
    refine r_iload_n (pc := 27) dX6_undo_27 rfl ?_
    refine r_bipush (pc := 28) dX6_undo_28 bp_48 ?_
    refine r_icmpN_ge (pc := 30) (tgt := 59) dX6_undo_30 (by decide) (by omega) (by omega) (fun c1 => ?_) (fun c1 => ?_)
    · refine r_aload_n (pc := 59) dX6_undo_59 rfl ?_
      refine r_getV (pc := 60) (v := nI k) dX6_undo_60 fX6_205 rfl rfl (rfl) ?_
      exact r_iret dX6_undo_63 rfl (rfl) rfl
    · exact absurd c1 (by decide)
  | succ z ih =>
    intro i hi
    refine r_iload_n (pc := 27) dX6_undo_27 rfl ?_
    refine r_bipush (pc := 28) dX6_undo_28 bp_48 ?_
    refine r_icmpN_ge (pc := 30) (tgt := 59) dX6_undo_30 (by decide) (by omega) (by omega) (fun c2 => ?_) (fun c2 => ?_)
    · exact absurd c2 (by omega)
    · refine r_aload_n (pc := 33) dX6_undo_33 rfl ?_
      refine r_getR (pc := 34) (b := 55) dX6_undo_34 fX6_46 rfl rfl ?_
      refine r_iload_n (pc := 37) dX6_undo_37 rfl ?_
      refine r_aload_n (pc := 38) dX6_undo_38 rfl ?_
      refine r_getR (pc := 39) (b := 56) dX6_undo_39 fX6_49 rfl rfl ?_
      refine r_bipush (pc := 42) dX6_undo_42 bp_48 ?_
      refine r_aload_n (pc := 44) dX6_undo_44 rfl ?_
      refine r_getV (pc := 45) (v := nI k) dX6_undo_45 fX6_205 rfl rfl (rfl) ?_
      refine r_imulN (pc := 48) dX6_undo_48 ?_
      refine r_iload_n (pc := 49) dX6_undo_49 rfl ?_
      refine r_iaddN (pc := 50) dX6_undo_50 ?_
      refine r_iald (pc := 51) (j := (48 * k) + i) dX6_undo_51 rfl rfl (by omega) (by decide) ?_
      refine r_iast (pc := 52) (j := i) dX6_undo_52 rfl rfl (by omega) (by decide) ?_
      refine r_iinc (pc := 53) (v := nI (i + 1)) (lo1 := [.ref 42, .int (nI (i + 1))]) dX6_undo_53 rfl rfl (ii1 _) (by decide) rfl ?_
      refine r_goto (pc := 56) (tgt := 27) dX6_undo_56 (by decide) ?_
      refine r_I (I' := (s2 (u2 (u2 I 42 0 (nI 0)) 42 23 (nI k)) 55 (fun j => if j < i + 1 then I 56 (48 * k + j) else I 55 j))) (wI_s (u2 (u2 I 42 0 (nI 0)) 42 23 (nI k)) 55 i (fun j => I 56 (48 * k + j)) (I 55) _ rfl) ?_
      exact ih (i + 1) (by omega)
theorem q_undo (X : Ctx) (d : Nat) (I : MI) (L : ML) (k : Nat) (hn : I 42 23 = nI (k + 1)) (hk : k < 10) : Sp X mX6_undo (d + 0) (0, 0) [.ref 42] shF I L (some (.int (nI k)), shF, (s2 (u2 (u2 I 42 0 (nI 0)) 42 23 (nI k)) 55 (fun j => if j < 48 then I 56 (48 * k + j) else I 55 j)), L) := by
  refine Sp.of okX6_undo [.ref 42, .null] 1 rfl (Nat.le_of_ble_eq_true rfl) ?_
  refine r_aload_n (pc := 0) dX6_undo_0 rfl ?_
  refine r_iconst (pc := 1) (v := nI 0) dX6_undo_1 rfl ?_
  refine r_put (pc := 2) .int dX6_undo_2 fX6_93 rfl rfl nf6_0 rfl rfl ?_
  refine r_aload_n (pc := 5) dX6_undo_5 rfl ?_
  refine r_getV (pc := 6) (v := nI (k + 1)) dX6_undo_6 fX6_205 rfl rfl (hn) ?_
  refine r_ifN_ne (pc := 9) (tgt := 15) dX6_undo_9 (by decide) (by omega) (fun c3 => ?_) (fun c3 => ?_)
  · refine r_aload_n (pc := 15) dX6_undo_15 rfl ?_
    refine r_dup (pc := 16) dX6_undo_16 rfl ?_
    refine r_getV (pc := 17) (v := nI (k + 1)) dX6_undo_17 fX6_205 rfl rfl (hn) ?_
    refine r_iconst (pc := 20) (v := nI 1) dX6_undo_20 rfl ?_
    refine r_isubN (pc := 21) dX6_undo_21 (by omega) ?_
    refine r_put (pc := 22) .int dX6_undo_22 fX6_205 rfl rfl nf6_23 rfl rfl ?_
    refine r_iconst (pc := 25) (v := nI 0) dX6_undo_25 rfl ?_
    refine r_istore_n (pc := 26) (lo1 := [.ref 42, .int (nI 0)]) dX6_undo_26 rfl (by decide) rfl ?_
    refine r_I (I' := (s2 (u2 (u2 I 42 0 (nI 0)) 42 23 (nI k)) 55 (fun j => if j < 0 then I 56 (48 * k + j) else I 55 j))) (by rw [ite_lt0]; exact (s2_self _ 55).symm) ?_
    exact lp_qundo X d I L k hn hk 48 0 rfl
  · exact absurd c3 (by omega)
theorem q_keep_f (X : Ctx) (d : Nat) (I : MI) (L : ML) (x : Int32) (h : x < nI 0 ∨ nI 1 < x) : Sp X mX6_keep (d + 1) (0, 0) [.ref 42, .int (x)] shF I L (some (.int (-1)), shF, (u2 I 42 0 (nI 0)), L) := by
  refine Sp.of okX6_keep [.ref 42, .int (x), .null] 1 rfl (Nat.le_of_ble_eq_true rfl) ?_
  refine r_aload_n (pc := 0) dX6_keep_0 rfl ?_
  refine r_iconst (pc := 1) (v := nI 0) dX6_keep_1 rfl ?_
  refine r_put (pc := 2) .int dX6_keep_2 fX6_93 rfl rfl nf6_0 rfl rfl ?_
  refine r_iload_n (pc := 5) dX6_keep_5 rfl ?_
  refine r_iconst (pc := 6) (v := nI 0) dX6_keep_6 rfl ?_
  refine r_iconst (pc := 7) (v := nI 1) dX6_keep_7 rfl ?_
  refine r_callS (pc := 8) (N := mX6_in) (rest := []) (s_in_f X _ (u2 I 42 0 (nI 0)) L x (nI 0) (nI 1) h) okX6_in lkX6_97 rfl rfl (Nat.le_of_ble_eq_true rfl) ⟨Nat.le_refl _, Nat.le_refl _⟩ dX6_keep_8 ?_
  refine r_ifN_ne (pc := 11) (tgt := 16) dX6_keep_11 (by decide) (by omega) (fun c1 => ?_) (fun c1 => ?_)
  · exact absurd c1 (by decide)
  · refine r_iconst (pc := 14) (v := -1) dX6_keep_14 rfl ?_
    exact r_iret dX6_keep_15 rfl (rfl) rfl
theorem q_back_f (X : Ctx) (d : Nat) (I : MI) (L : ML) (x : Int32) (h : x < nI 0 ∨ nI 1 < x) : Sp X mX6_back (d + 1) (0, 0) [.ref 42, .int (x)] shF I L (some (.int (-1)), shF, (u2 I 42 0 (nI 0)), L) := by
  refine Sp.of okX6_back [.ref 42, .int (x), .null] 1 rfl (Nat.le_of_ble_eq_true rfl) ?_
  refine r_aload_n (pc := 0) dX6_back_0 rfl ?_
  refine r_iconst (pc := 1) (v := nI 0) dX6_back_1 rfl ?_
  refine r_put (pc := 2) .int dX6_back_2 fX6_93 rfl rfl nf6_0 rfl rfl ?_
  refine r_iload_n (pc := 5) dX6_back_5 rfl ?_
  refine r_iconst (pc := 6) (v := nI 0) dX6_back_6 rfl ?_
  refine r_iconst (pc := 7) (v := nI 1) dX6_back_7 rfl ?_
  refine r_callS (pc := 8) (N := mX6_in) (rest := []) (s_in_f X _ (u2 I 42 0 (nI 0)) L x (nI 0) (nI 1) h) okX6_in lkX6_97 rfl rfl (Nat.le_of_ble_eq_true rfl) ⟨Nat.le_refl _, Nat.le_refl _⟩ dX6_back_8 ?_
  refine r_ifN_ne (pc := 11) (tgt := 16) dX6_back_11 (by decide) (by omega) (fun c1 => ?_) (fun c1 => ?_)
  · exact absurd c1 (by decide)
  · refine r_iconst (pc := 14) (v := -1) dX6_back_14 rfl ?_
    exact r_iret dX6_back_15 rfl (rfl) rfl
theorem lp_keep_0 (X : Ctx) (d : Nat) (I : MI) (L : ML) (F : Nat) (hF : I 42 8 = nI F) : ∀ (z i : Nat), i + z = 48 → Ev X mX6_keep (d + 1) (0, 0) (0, 0) (some (.int (nI F)), shF, (u2 (s2 (u2 I 42 0 (nI 0)) 57 (blkI (I 57) (I 55) 0 48)) 58 0 (nI 1)), L) 18 [.ref 42, .int (nI 0), .int (nI i)] [] shF (s2 (u2 I 42 0 (nI 0)) 57 (blkI (I 57) (I 55) 0 i)) L := by
  intro z
  induction z with
  | zero =>
    intro i hi
    have hi2 : i = 48 := by omega
    rw [hi2]
    refine r_iload_n (pc := 18) dX6_keep_18 rfl ?_
    refine r_bipush (pc := 19) dX6_keep_19 bp_48 ?_
    refine r_icmpN_ge (pc := 21) (tgt := 47) dX6_keep_21 (by decide) (by omega) (by omega) (fun c1 => ?_) (fun c1 => ?_)
    · refine r_aload_n (pc := 47) dX6_keep_47 rfl ?_
      refine r_getR (pc := 48) (b := 58) dX6_keep_48 fX6_55 rfl rfl ?_
      refine r_iload_n (pc := 51) dX6_keep_51 rfl ?_
      refine r_iconst (pc := 52) (v := nI 1) dX6_keep_52 rfl ?_
      refine r_zast (pc := 53) (j := 0) dX6_keep_53 rfl rfl (by omega) (by decide) (by decide) ?_
      refine r_aload_n (pc := 54) dX6_keep_54 rfl ?_
      refine r_getV (pc := 55) (v := nI F) dX6_keep_55 fX6_199 rfl rfl (hF) ?_
      exact r_iret dX6_keep_58 rfl (rfl) rfl
    · exact absurd c1 (by decide)
  | succ z ih =>
    intro i hi
    refine r_iload_n (pc := 18) dX6_keep_18 rfl ?_
    refine r_bipush (pc := 19) dX6_keep_19 bp_48 ?_
    refine r_icmpN_ge (pc := 21) (tgt := 47) dX6_keep_21 (by decide) (by omega) (by omega) (fun c2 => ?_) (fun c2 => ?_)
    · exact absurd c2 (by omega)
    · refine r_aload_n (pc := 24) dX6_keep_24 rfl ?_
      refine r_getR (pc := 25) (b := 57) dX6_keep_25 fX6_52 rfl rfl ?_
      refine r_bipush (pc := 28) dX6_keep_28 bp_48 ?_
      refine r_iload_n (pc := 30) dX6_keep_30 rfl ?_
      refine r_imulN (pc := 31) dX6_keep_31 ?_
      refine r_iload_n (pc := 32) dX6_keep_32 rfl ?_
      refine r_iaddN (pc := 33) dX6_keep_33 ?_
      refine r_aload_n (pc := 34) dX6_keep_34 rfl ?_
      refine r_getR (pc := 35) (b := 55) dX6_keep_35 fX6_46 rfl rfl ?_
      refine r_iload_n (pc := 38) dX6_keep_38 rfl ?_
      refine r_iald (pc := 39) (j := i) dX6_keep_39 rfl rfl (by omega) (by decide) ?_
      refine r_iast (pc := 40) (j := 0 + i) dX6_keep_40 rfl rfl (by omega) (by decide) ?_
      refine r_iinc (pc := 41) (v := nI (i + 1)) (lo1 := [.ref 42, .int (nI 0), .int (nI (i + 1))]) dX6_keep_41 rfl rfl (ii1 _) (by decide) rfl ?_
      refine r_goto (pc := 44) (tgt := 18) dX6_keep_44 (by decide) ?_
      refine r_I (I' := (s2 (u2 I 42 0 (nI 0)) 57 (blkI (I 57) (I 55) 0 (i + 1)))) ((s2_u2 _ _ _ _ _).trans (congrArg (s2 _ 57) (blkI_s rfl))) ?_
      exact ih (i + 1) (by omega)
theorem q_keep_0 (X : Ctx) (d : Nat) (I : MI) (L : ML) (F : Nat) (hF : I 42 8 = nI F) : Sp X mX6_keep (d + 1) (0, 0) [.ref 42, .int (nI 0)] shF I L (some (.int (nI F)), shF, (u2 (s2 (u2 I 42 0 (nI 0)) 57 (blkI (I 57) (I 55) 0 48)) 58 0 (nI 1)), L) := by
  refine Sp.of okX6_keep [.ref 42, .int (nI 0), .null] 1 rfl (Nat.le_of_ble_eq_true rfl) ?_
  refine r_aload_n (pc := 0) dX6_keep_0 rfl ?_
  refine r_iconst (pc := 1) (v := nI 0) dX6_keep_1 rfl ?_
  refine r_put (pc := 2) .int dX6_keep_2 fX6_93 rfl rfl nf6_0 rfl rfl ?_
  refine r_iload_n (pc := 5) dX6_keep_5 rfl ?_
  refine r_iconst (pc := 6) (v := nI 0) dX6_keep_6 rfl ?_
  refine r_iconst (pc := 7) (v := nI 1) dX6_keep_7 rfl ?_
  refine r_callS (pc := 8) (N := mX6_in) (rest := []) (s_in_t X _ (u2 I 42 0 (nI 0)) L (nI 0) (nI 0) (nI 1) (nI_nlt (by omega) (by omega)) (nI_nlt (by omega) (by omega))) okX6_in lkX6_97 rfl rfl (Nat.le_of_ble_eq_true rfl) ⟨Nat.le_refl _, Nat.le_refl _⟩ dX6_keep_8 ?_
  refine r_ifN_ne (pc := 11) (tgt := 16) dX6_keep_11 (by decide) (by omega) (fun c3 => ?_) (fun c3 => ?_)
  · refine r_iconst (pc := 16) (v := nI 0) dX6_keep_16 rfl ?_
    refine r_istore_n (pc := 17) (lo1 := [.ref 42, .int (nI 0), .int (nI 0)]) dX6_keep_17 rfl (by decide) rfl ?_
    refine r_I (I' := (s2 (u2 I 42 0 (nI 0)) 57 (blkI (I 57) (I 55) 0 0))) (by rw [blkI_0]; exact (s2_self _ 57).symm) ?_
    exact lp_keep_0 X d I L F hF 48 0 rfl
  · exact absurd c3 (by decide)
theorem q_back_0s (X : Ctx) (d : Nat) (I : MI) (L : ML) (hb : I 58 0 = nI 0) : Sp X mX6_back (d + 1) (0, 0) [.ref 42, .int (nI 0)] shF I L (some (.int (-2)), shF, (u2 I 42 0 (nI 0)), L) := by
  refine Sp.of okX6_back [.ref 42, .int (nI 0), .null] 1 rfl (Nat.le_of_ble_eq_true rfl) ?_
  refine r_aload_n (pc := 0) dX6_back_0 rfl ?_
  refine r_iconst (pc := 1) (v := nI 0) dX6_back_1 rfl ?_
  refine r_put (pc := 2) .int dX6_back_2 fX6_93 rfl rfl nf6_0 rfl rfl ?_
  refine r_iload_n (pc := 5) dX6_back_5 rfl ?_
  refine r_iconst (pc := 6) (v := nI 0) dX6_back_6 rfl ?_
  refine r_iconst (pc := 7) (v := nI 1) dX6_back_7 rfl ?_
  refine r_callS (pc := 8) (N := mX6_in) (rest := []) (s_in_t X _ (u2 I 42 0 (nI 0)) L (nI 0) (nI 0) (nI 1) (nI_nlt (by omega) (by omega)) (nI_nlt (by omega) (by omega))) okX6_in lkX6_97 rfl rfl (Nat.le_of_ble_eq_true rfl) ⟨Nat.le_refl _, Nat.le_refl _⟩ dX6_back_8 ?_
  refine r_ifN_ne (pc := 11) (tgt := 16) dX6_back_11 (by decide) (by omega) (fun c1 => ?_) (fun c1 => ?_)
  · refine r_aload_n (pc := 16) dX6_back_16 rfl ?_
    refine r_getR (pc := 17) (b := 58) dX6_back_17 fX6_55 rfl rfl ?_
    refine r_iload_n (pc := 20) dX6_back_20 rfl ?_
    refine r_zaldV (pc := 21) (j := 0) (v := nI 0) dX6_back_21 rfl rfl (by omega) (by decide) (hb) ?_
    refine r_ifN_ne (pc := 22) (tgt := 28) dX6_back_22 (by decide) (by omega) (fun c2 => ?_) (fun c2 => ?_)
    · exact absurd c2 (by decide)
    · refine r_bipush (pc := 25) dX6_back_25 bp_m2 ?_
      exact r_iret dX6_back_27 rfl (rfl) rfl
  · exact absurd c1 (by decide)
theorem lp_back_0 (X : Ctx) (d : Nat) (I : MI) (L : ML) (F : Nat) (hF : I 42 8 = nI F) (hb : I 58 0 = nI 1) : ∀ (z i : Nat), i + z = 48 → Ev X mX6_back (d + 1) (0, 0) (0, 0) (some (.int (nI F)), shF, (u2 (s2 (u2 I 42 0 (nI 0)) 55 (fun j => if j < 48 then I 57 (0 + j) else I 55 j)) 42 23 (nI 0)), L) 30 [.ref 42, .int (nI 0), .int (nI i)] [] shF (s2 (u2 I 42 0 (nI 0)) 55 (fun j => if j < i then I 57 (0 + j) else I 55 j)) L := by
  intro z
  induction z with
  | zero =>
    intro i hi
    have hi2 : i = 48 := by omega
    rw [hi2]
    refine r_iload_n (pc := 30) dX6_back_30 rfl ?_
    refine r_bipush (pc := 31) dX6_back_31 bp_48 ?_
    refine r_icmpN_ge (pc := 33) (tgt := 59) dX6_back_33 (by decide) (by omega) (by omega) (fun c1 => ?_) (fun c1 => ?_)
    · refine r_aload_n (pc := 59) dX6_back_59 rfl ?_
      refine r_iconst (pc := 60) (v := nI 0) dX6_back_60 rfl ?_
      refine r_put (pc := 61) .int dX6_back_61 fX6_205 rfl rfl nf6_23 rfl rfl ?_
      refine r_aload_n (pc := 64) dX6_back_64 rfl ?_
      refine r_getV (pc := 65) (v := nI F) dX6_back_65 fX6_199 rfl rfl (hF) ?_
      exact r_iret dX6_back_68 rfl (rfl) rfl
    · exact absurd c1 (by decide)
  | succ z ih =>
    intro i hi
    refine r_iload_n (pc := 30) dX6_back_30 rfl ?_
    refine r_bipush (pc := 31) dX6_back_31 bp_48 ?_
    refine r_icmpN_ge (pc := 33) (tgt := 59) dX6_back_33 (by decide) (by omega) (by omega) (fun c2 => ?_) (fun c2 => ?_)
    · exact absurd c2 (by omega)
    · refine r_aload_n (pc := 36) dX6_back_36 rfl ?_
      refine r_getR (pc := 37) (b := 55) dX6_back_37 fX6_46 rfl rfl ?_
      refine r_iload_n (pc := 40) dX6_back_40 rfl ?_
      refine r_aload_n (pc := 41) dX6_back_41 rfl ?_
      refine r_getR (pc := 42) (b := 57) dX6_back_42 fX6_52 rfl rfl ?_
      refine r_bipush (pc := 45) dX6_back_45 bp_48 ?_
      refine r_iload_n (pc := 47) dX6_back_47 rfl ?_
      refine r_imulN (pc := 48) dX6_back_48 ?_
      refine r_iload_n (pc := 49) dX6_back_49 rfl ?_
      refine r_iaddN (pc := 50) dX6_back_50 ?_
      refine r_iald (pc := 51) (j := 0 + i) dX6_back_51 rfl rfl (by omega) (by decide) ?_
      refine r_iast (pc := 52) (j := i) dX6_back_52 rfl rfl (by omega) (by decide) ?_
      refine r_iinc (pc := 53) (v := nI (i + 1)) (lo1 := [.ref 42, .int (nI 0), .int (nI (i + 1))]) dX6_back_53 rfl rfl (ii1 _) (by decide) rfl ?_
      refine r_goto (pc := 56) (tgt := 30) dX6_back_56 (by decide) ?_
      refine r_I (I' := (s2 (u2 I 42 0 (nI 0)) 55 (fun j => if j < i + 1 then I 57 (0 + j) else I 55 j))) (wI_s (u2 I 42 0 (nI 0)) 55 i (fun j => I 57 (0 + j)) (I 55) _ rfl) ?_
      exact ih (i + 1) (by omega)
theorem q_back_0 (X : Ctx) (d : Nat) (I : MI) (L : ML) (F : Nat) (hF : I 42 8 = nI F) (hb : I 58 0 = nI 1) : Sp X mX6_back (d + 1) (0, 0) [.ref 42, .int (nI 0)] shF I L (some (.int (nI F)), shF, (u2 (s2 (u2 I 42 0 (nI 0)) 55 (fun j => if j < 48 then I 57 (0 + j) else I 55 j)) 42 23 (nI 0)), L) := by
  refine Sp.of okX6_back [.ref 42, .int (nI 0), .null] 1 rfl (Nat.le_of_ble_eq_true rfl) ?_
  refine r_aload_n (pc := 0) dX6_back_0 rfl ?_
  refine r_iconst (pc := 1) (v := nI 0) dX6_back_1 rfl ?_
  refine r_put (pc := 2) .int dX6_back_2 fX6_93 rfl rfl nf6_0 rfl rfl ?_
  refine r_iload_n (pc := 5) dX6_back_5 rfl ?_
  refine r_iconst (pc := 6) (v := nI 0) dX6_back_6 rfl ?_
  refine r_iconst (pc := 7) (v := nI 1) dX6_back_7 rfl ?_
  refine r_callS (pc := 8) (N := mX6_in) (rest := []) (s_in_t X _ (u2 I 42 0 (nI 0)) L (nI 0) (nI 0) (nI 1) (nI_nlt (by omega) (by omega)) (nI_nlt (by omega) (by omega))) okX6_in lkX6_97 rfl rfl (Nat.le_of_ble_eq_true rfl) ⟨Nat.le_refl _, Nat.le_refl _⟩ dX6_back_8 ?_
  refine r_ifN_ne (pc := 11) (tgt := 16) dX6_back_11 (by decide) (by omega) (fun c3 => ?_) (fun c3 => ?_)
  · refine r_aload_n (pc := 16) dX6_back_16 rfl ?_
    refine r_getR (pc := 17) (b := 58) dX6_back_17 fX6_55 rfl rfl ?_
    refine r_iload_n (pc := 20) dX6_back_20 rfl ?_
    refine r_zaldV (pc := 21) (j := 0) (v := nI 1) dX6_back_21 rfl rfl (by omega) (by decide) (hb) ?_
    refine r_ifN_ne (pc := 22) (tgt := 28) dX6_back_22 (by decide) (by omega) (fun c4 => ?_) (fun c4 => ?_)
    · refine r_iconst (pc := 28) (v := nI 0) dX6_back_28 rfl ?_
      refine r_istore_n (pc := 29) (lo1 := [.ref 42, .int (nI 0), .int (nI 0)]) dX6_back_29 rfl (by decide) rfl ?_
      refine r_I (I' := (s2 (u2 I 42 0 (nI 0)) 55 (fun j => if j < 0 then I 57 (0 + j) else I 55 j))) (by rw [ite_lt0]; exact (s2_self _ 55).symm) ?_
      exact lp_back_0 X d I L F hF hb 48 0 rfl
    · exact absurd c4 (by decide)
  · exact absurd c3 (by decide)
theorem lp_keep_1 (X : Ctx) (d : Nat) (I : MI) (L : ML) (F : Nat) (hF : I 42 8 = nI F) : ∀ (z i : Nat), i + z = 48 → Ev X mX6_keep (d + 1) (0, 0) (0, 0) (some (.int (nI F)), shF, (u2 (s2 (u2 I 42 0 (nI 0)) 57 (blkI (I 57) (I 55) 48 48)) 58 1 (nI 1)), L) 18 [.ref 42, .int (nI 1), .int (nI i)] [] shF (s2 (u2 I 42 0 (nI 0)) 57 (blkI (I 57) (I 55) 48 i)) L := by
  intro z
  induction z with
  | zero =>
    intro i hi
    have hi2 : i = 48 := by omega
    rw [hi2]
    refine r_iload_n (pc := 18) dX6_keep_18 rfl ?_
    refine r_bipush (pc := 19) dX6_keep_19 bp_48 ?_
    refine r_icmpN_ge (pc := 21) (tgt := 47) dX6_keep_21 (by decide) (by omega) (by omega) (fun c1 => ?_) (fun c1 => ?_)
    · refine r_aload_n (pc := 47) dX6_keep_47 rfl ?_
      refine r_getR (pc := 48) (b := 58) dX6_keep_48 fX6_55 rfl rfl ?_
      refine r_iload_n (pc := 51) dX6_keep_51 rfl ?_
      refine r_iconst (pc := 52) (v := nI 1) dX6_keep_52 rfl ?_
      refine r_zast (pc := 53) (j := 1) dX6_keep_53 rfl rfl (by omega) (by decide) (by decide) ?_
      refine r_aload_n (pc := 54) dX6_keep_54 rfl ?_
      refine r_getV (pc := 55) (v := nI F) dX6_keep_55 fX6_199 rfl rfl (hF) ?_
      exact r_iret dX6_keep_58 rfl (rfl) rfl
    · exact absurd c1 (by decide)
  | succ z ih =>
    intro i hi
    refine r_iload_n (pc := 18) dX6_keep_18 rfl ?_
    refine r_bipush (pc := 19) dX6_keep_19 bp_48 ?_
    refine r_icmpN_ge (pc := 21) (tgt := 47) dX6_keep_21 (by decide) (by omega) (by omega) (fun c2 => ?_) (fun c2 => ?_)
    · exact absurd c2 (by omega)
    · refine r_aload_n (pc := 24) dX6_keep_24 rfl ?_
      refine r_getR (pc := 25) (b := 57) dX6_keep_25 fX6_52 rfl rfl ?_
      refine r_bipush (pc := 28) dX6_keep_28 bp_48 ?_
      refine r_iload_n (pc := 30) dX6_keep_30 rfl ?_
      refine r_imulN (pc := 31) dX6_keep_31 ?_
      refine r_iload_n (pc := 32) dX6_keep_32 rfl ?_
      refine r_iaddN (pc := 33) dX6_keep_33 ?_
      refine r_aload_n (pc := 34) dX6_keep_34 rfl ?_
      refine r_getR (pc := 35) (b := 55) dX6_keep_35 fX6_46 rfl rfl ?_
      refine r_iload_n (pc := 38) dX6_keep_38 rfl ?_
      refine r_iald (pc := 39) (j := i) dX6_keep_39 rfl rfl (by omega) (by decide) ?_
      refine r_iast (pc := 40) (j := 48 + i) dX6_keep_40 rfl rfl (by omega) (by decide) ?_
      refine r_iinc (pc := 41) (v := nI (i + 1)) (lo1 := [.ref 42, .int (nI 1), .int (nI (i + 1))]) dX6_keep_41 rfl rfl (ii1 _) (by decide) rfl ?_
      refine r_goto (pc := 44) (tgt := 18) dX6_keep_44 (by decide) ?_
      refine r_I (I' := (s2 (u2 I 42 0 (nI 0)) 57 (blkI (I 57) (I 55) 48 (i + 1)))) ((s2_u2 _ _ _ _ _).trans (congrArg (s2 _ 57) (blkI_s rfl))) ?_
      exact ih (i + 1) (by omega)
theorem q_keep_1 (X : Ctx) (d : Nat) (I : MI) (L : ML) (F : Nat) (hF : I 42 8 = nI F) : Sp X mX6_keep (d + 1) (0, 0) [.ref 42, .int (nI 1)] shF I L (some (.int (nI F)), shF, (u2 (s2 (u2 I 42 0 (nI 0)) 57 (blkI (I 57) (I 55) 48 48)) 58 1 (nI 1)), L) := by
  refine Sp.of okX6_keep [.ref 42, .int (nI 1), .null] 1 rfl (Nat.le_of_ble_eq_true rfl) ?_
  refine r_aload_n (pc := 0) dX6_keep_0 rfl ?_
  refine r_iconst (pc := 1) (v := nI 0) dX6_keep_1 rfl ?_
  refine r_put (pc := 2) .int dX6_keep_2 fX6_93 rfl rfl nf6_0 rfl rfl ?_
  refine r_iload_n (pc := 5) dX6_keep_5 rfl ?_
  refine r_iconst (pc := 6) (v := nI 0) dX6_keep_6 rfl ?_
  refine r_iconst (pc := 7) (v := nI 1) dX6_keep_7 rfl ?_
  refine r_callS (pc := 8) (N := mX6_in) (rest := []) (s_in_t X _ (u2 I 42 0 (nI 0)) L (nI 1) (nI 0) (nI 1) (nI_nlt (by omega) (by omega)) (nI_nlt (by omega) (by omega))) okX6_in lkX6_97 rfl rfl (Nat.le_of_ble_eq_true rfl) ⟨Nat.le_refl _, Nat.le_refl _⟩ dX6_keep_8 ?_
  refine r_ifN_ne (pc := 11) (tgt := 16) dX6_keep_11 (by decide) (by omega) (fun c3 => ?_) (fun c3 => ?_)
  · refine r_iconst (pc := 16) (v := nI 0) dX6_keep_16 rfl ?_
    refine r_istore_n (pc := 17) (lo1 := [.ref 42, .int (nI 1), .int (nI 0)]) dX6_keep_17 rfl (by decide) rfl ?_
    refine r_I (I' := (s2 (u2 I 42 0 (nI 0)) 57 (blkI (I 57) (I 55) 48 0))) (by rw [blkI_0]; exact (s2_self _ 57).symm) ?_
    exact lp_keep_1 X d I L F hF 48 0 rfl
  · exact absurd c3 (by decide)
theorem q_back_1s (X : Ctx) (d : Nat) (I : MI) (L : ML) (hb : I 58 1 = nI 0) : Sp X mX6_back (d + 1) (0, 0) [.ref 42, .int (nI 1)] shF I L (some (.int (-2)), shF, (u2 I 42 0 (nI 0)), L) := by
  refine Sp.of okX6_back [.ref 42, .int (nI 1), .null] 1 rfl (Nat.le_of_ble_eq_true rfl) ?_
  refine r_aload_n (pc := 0) dX6_back_0 rfl ?_
  refine r_iconst (pc := 1) (v := nI 0) dX6_back_1 rfl ?_
  refine r_put (pc := 2) .int dX6_back_2 fX6_93 rfl rfl nf6_0 rfl rfl ?_
  refine r_iload_n (pc := 5) dX6_back_5 rfl ?_
  refine r_iconst (pc := 6) (v := nI 0) dX6_back_6 rfl ?_
  refine r_iconst (pc := 7) (v := nI 1) dX6_back_7 rfl ?_
  refine r_callS (pc := 8) (N := mX6_in) (rest := []) (s_in_t X _ (u2 I 42 0 (nI 0)) L (nI 1) (nI 0) (nI 1) (nI_nlt (by omega) (by omega)) (nI_nlt (by omega) (by omega))) okX6_in lkX6_97 rfl rfl (Nat.le_of_ble_eq_true rfl) ⟨Nat.le_refl _, Nat.le_refl _⟩ dX6_back_8 ?_
  refine r_ifN_ne (pc := 11) (tgt := 16) dX6_back_11 (by decide) (by omega) (fun c1 => ?_) (fun c1 => ?_)
  · refine r_aload_n (pc := 16) dX6_back_16 rfl ?_
    refine r_getR (pc := 17) (b := 58) dX6_back_17 fX6_55 rfl rfl ?_
    refine r_iload_n (pc := 20) dX6_back_20 rfl ?_
    refine r_zaldV (pc := 21) (j := 1) (v := nI 0) dX6_back_21 rfl rfl (by omega) (by decide) (hb) ?_
    refine r_ifN_ne (pc := 22) (tgt := 28) dX6_back_22 (by decide) (by omega) (fun c2 => ?_) (fun c2 => ?_)
    · exact absurd c2 (by decide)
    · refine r_bipush (pc := 25) dX6_back_25 bp_m2 ?_
      exact r_iret dX6_back_27 rfl (rfl) rfl
  · exact absurd c1 (by decide)
theorem lp_back_1 (X : Ctx) (d : Nat) (I : MI) (L : ML) (F : Nat) (hF : I 42 8 = nI F) (hb : I 58 1 = nI 1) : ∀ (z i : Nat), i + z = 48 → Ev X mX6_back (d + 1) (0, 0) (0, 0) (some (.int (nI F)), shF, (u2 (s2 (u2 I 42 0 (nI 0)) 55 (fun j => if j < 48 then I 57 (48 + j) else I 55 j)) 42 23 (nI 0)), L) 30 [.ref 42, .int (nI 1), .int (nI i)] [] shF (s2 (u2 I 42 0 (nI 0)) 55 (fun j => if j < i then I 57 (48 + j) else I 55 j)) L := by
  intro z
  induction z with
  | zero =>
    intro i hi
    have hi2 : i = 48 := by omega
    rw [hi2]
    refine r_iload_n (pc := 30) dX6_back_30 rfl ?_
    refine r_bipush (pc := 31) dX6_back_31 bp_48 ?_
    refine r_icmpN_ge (pc := 33) (tgt := 59) dX6_back_33 (by decide) (by omega) (by omega) (fun c1 => ?_) (fun c1 => ?_)
    · refine r_aload_n (pc := 59) dX6_back_59 rfl ?_
      refine r_iconst (pc := 60) (v := nI 0) dX6_back_60 rfl ?_
      refine r_put (pc := 61) .int dX6_back_61 fX6_205 rfl rfl nf6_23 rfl rfl ?_
      refine r_aload_n (pc := 64) dX6_back_64 rfl ?_
      refine r_getV (pc := 65) (v := nI F) dX6_back_65 fX6_199 rfl rfl (hF) ?_
      exact r_iret dX6_back_68 rfl (rfl) rfl
    · exact absurd c1 (by decide)
  | succ z ih =>
    intro i hi
    refine r_iload_n (pc := 30) dX6_back_30 rfl ?_
    refine r_bipush (pc := 31) dX6_back_31 bp_48 ?_
    refine r_icmpN_ge (pc := 33) (tgt := 59) dX6_back_33 (by decide) (by omega) (by omega) (fun c2 => ?_) (fun c2 => ?_)
    · exact absurd c2 (by omega)
    · refine r_aload_n (pc := 36) dX6_back_36 rfl ?_
      refine r_getR (pc := 37) (b := 55) dX6_back_37 fX6_46 rfl rfl ?_
      refine r_iload_n (pc := 40) dX6_back_40 rfl ?_
      refine r_aload_n (pc := 41) dX6_back_41 rfl ?_
      refine r_getR (pc := 42) (b := 57) dX6_back_42 fX6_52 rfl rfl ?_
      refine r_bipush (pc := 45) dX6_back_45 bp_48 ?_
      refine r_iload_n (pc := 47) dX6_back_47 rfl ?_
      refine r_imulN (pc := 48) dX6_back_48 ?_
      refine r_iload_n (pc := 49) dX6_back_49 rfl ?_
      refine r_iaddN (pc := 50) dX6_back_50 ?_
      refine r_iald (pc := 51) (j := 48 + i) dX6_back_51 rfl rfl (by omega) (by decide) ?_
      refine r_iast (pc := 52) (j := i) dX6_back_52 rfl rfl (by omega) (by decide) ?_
      refine r_iinc (pc := 53) (v := nI (i + 1)) (lo1 := [.ref 42, .int (nI 1), .int (nI (i + 1))]) dX6_back_53 rfl rfl (ii1 _) (by decide) rfl ?_
      refine r_goto (pc := 56) (tgt := 30) dX6_back_56 (by decide) ?_
      refine r_I (I' := (s2 (u2 I 42 0 (nI 0)) 55 (fun j => if j < i + 1 then I 57 (48 + j) else I 55 j))) (wI_s (u2 I 42 0 (nI 0)) 55 i (fun j => I 57 (48 + j)) (I 55) _ rfl) ?_
      exact ih (i + 1) (by omega)
theorem q_back_1 (X : Ctx) (d : Nat) (I : MI) (L : ML) (F : Nat) (hF : I 42 8 = nI F) (hb : I 58 1 = nI 1) : Sp X mX6_back (d + 1) (0, 0) [.ref 42, .int (nI 1)] shF I L (some (.int (nI F)), shF, (u2 (s2 (u2 I 42 0 (nI 0)) 55 (fun j => if j < 48 then I 57 (48 + j) else I 55 j)) 42 23 (nI 0)), L) := by
  refine Sp.of okX6_back [.ref 42, .int (nI 1), .null] 1 rfl (Nat.le_of_ble_eq_true rfl) ?_
  refine r_aload_n (pc := 0) dX6_back_0 rfl ?_
  refine r_iconst (pc := 1) (v := nI 0) dX6_back_1 rfl ?_
  refine r_put (pc := 2) .int dX6_back_2 fX6_93 rfl rfl nf6_0 rfl rfl ?_
  refine r_iload_n (pc := 5) dX6_back_5 rfl ?_
  refine r_iconst (pc := 6) (v := nI 0) dX6_back_6 rfl ?_
  refine r_iconst (pc := 7) (v := nI 1) dX6_back_7 rfl ?_
  refine r_callS (pc := 8) (N := mX6_in) (rest := []) (s_in_t X _ (u2 I 42 0 (nI 0)) L (nI 1) (nI 0) (nI 1) (nI_nlt (by omega) (by omega)) (nI_nlt (by omega) (by omega))) okX6_in lkX6_97 rfl rfl (Nat.le_of_ble_eq_true rfl) ⟨Nat.le_refl _, Nat.le_refl _⟩ dX6_back_8 ?_
  refine r_ifN_ne (pc := 11) (tgt := 16) dX6_back_11 (by decide) (by omega) (fun c3 => ?_) (fun c3 => ?_)
  · refine r_aload_n (pc := 16) dX6_back_16 rfl ?_
    refine r_getR (pc := 17) (b := 58) dX6_back_17 fX6_55 rfl rfl ?_
    refine r_iload_n (pc := 20) dX6_back_20 rfl ?_
    refine r_zaldV (pc := 21) (j := 1) (v := nI 1) dX6_back_21 rfl rfl (by omega) (by decide) (hb) ?_
    refine r_ifN_ne (pc := 22) (tgt := 28) dX6_back_22 (by decide) (by omega) (fun c4 => ?_) (fun c4 => ?_)
    · refine r_iconst (pc := 28) (v := nI 0) dX6_back_28 rfl ?_
      refine r_istore_n (pc := 29) (lo1 := [.ref 42, .int (nI 1), .int (nI 0)]) dX6_back_29 rfl (by decide) rfl ?_
      refine r_I (I' := (s2 (u2 I 42 0 (nI 0)) 55 (fun j => if j < 0 then I 57 (48 + j) else I 55 j))) (by rw [ite_lt0]; exact (s2_self _ 55).symm) ?_
      exact lp_back_1 X d I L F hF hb 48 0 rfl
    · exact absurd c4 (by decide)
  · exact absurd c3 (by decide)
theorem q_count_0 (X : Ctx) (d : Nat) (I : MI) (L : ML) (F : Nat) (hF : I 42 8 = nI F) : Sp X mX6_count (d + 0) (0, 0) [.ref 42, .int (nI 0)] shF I L (some (.int (nI F)), shF, (u2 I 42 0 (nI 0)), L) := by
  refine Sp.of okX6_count [.ref 42, .int (nI 0)] 0 rfl (Nat.le_of_ble_eq_true rfl) ?_
  refine r_aload_n (pc := 0) dX6_count_0 rfl ?_
  refine r_iconst (pc := 1) (v := nI 0) dX6_count_1 rfl ?_
  refine r_put (pc := 2) .int dX6_count_2 fX6_93 rfl rfl nf6_0 rfl rfl ?_
  refine r_iload_n (pc := 5) dX6_count_5 rfl ?_
  refine r_ifN_ne (pc := 6) (tgt := 16) dX6_count_6 (by decide) (by omega) (fun c1 => ?_) (fun c1 => ?_)
  · exact absurd c1 (by decide)
  · refine r_aload_n (pc := 9) dX6_count_9 rfl ?_
    refine r_getV (pc := 10) (v := nI F) dX6_count_10 fX6_199 rfl rfl (hF) ?_
    refine r_goto (pc := 13) (tgt := 53) dX6_count_13 (by decide) ?_
    exact r_iret dX6_count_53 rfl (rfl) rfl
theorem q_count_1 (X : Ctx) (d : Nat) (I : MI) (L : ML)  : Sp X mX6_count (d + 0) (0, 0) [.ref 42, .int (nI 1)] shF I L (some (.int (I 42 28)), shF, (u2 I 42 0 (nI 0)), L) := by
  refine Sp.of okX6_count [.ref 42, .int (nI 1)] 0 rfl (Nat.le_of_ble_eq_true rfl) ?_
  refine r_aload_n (pc := 0) dX6_count_0 rfl ?_
  refine r_iconst (pc := 1) (v := nI 0) dX6_count_1 rfl ?_
  refine r_put (pc := 2) .int dX6_count_2 fX6_93 rfl rfl nf6_0 rfl rfl ?_
  refine r_iload_n (pc := 5) dX6_count_5 rfl ?_
  refine r_ifN_ne (pc := 6) (tgt := 16) dX6_count_6 (by decide) (by omega) (fun c1 => ?_) (fun c1 => ?_)
  · refine r_iload_n (pc := 16) dX6_count_16 rfl ?_
    refine r_iconst (pc := 17) (v := nI 1) dX6_count_17 rfl ?_
    refine r_icmpN_ne (pc := 18) (tgt := 28) dX6_count_18 (by decide) (by omega) (by omega) (fun c2 => ?_) (fun c2 => ?_)
    · exact absurd c2 (by decide)
    · refine r_aload_n (pc := 21) dX6_count_21 rfl ?_
      refine r_get (pc := 22) dX6_count_22 fX6_202 rfl rfl ?_
      refine r_goto (pc := 25) (tgt := 53) dX6_count_25 (by decide) ?_
      exact r_iret dX6_count_53 rfl (rfl) rfl
  · exact absurd c1 (by decide)
theorem q_count_2 (X : Ctx) (d : Nat) (I : MI) (L : ML)  : Sp X mX6_count (d + 0) (0, 0) [.ref 42, .int (nI 2)] shF I L (some (.int (I 42 2)), shF, (u2 I 42 0 (nI 0)), L) := by
  refine Sp.of okX6_count [.ref 42, .int (nI 2)] 0 rfl (Nat.le_of_ble_eq_true rfl) ?_
  refine r_aload_n (pc := 0) dX6_count_0 rfl ?_
  refine r_iconst (pc := 1) (v := nI 0) dX6_count_1 rfl ?_
  refine r_put (pc := 2) .int dX6_count_2 fX6_93 rfl rfl nf6_0 rfl rfl ?_
  refine r_iload_n (pc := 5) dX6_count_5 rfl ?_
  refine r_ifN_ne (pc := 6) (tgt := 16) dX6_count_6 (by decide) (by omega) (fun c1 => ?_) (fun c1 => ?_)
  · refine r_iload_n (pc := 16) dX6_count_16 rfl ?_
    refine r_iconst (pc := 17) (v := nI 1) dX6_count_17 rfl ?_
    refine r_icmpN_ne (pc := 18) (tgt := 28) dX6_count_18 (by decide) (by omega) (by omega) (fun c2 => ?_) (fun c2 => ?_)
    · refine r_iload_n (pc := 28) dX6_count_28 rfl ?_
      refine r_iconst (pc := 29) (v := nI 2) dX6_count_29 rfl ?_
      refine r_icmpN_ne (pc := 30) (tgt := 40) dX6_count_30 (by decide) (by omega) (by omega) (fun c3 => ?_) (fun c3 => ?_)
      · exact absurd c3 (by decide)
      · refine r_aload_n (pc := 33) dX6_count_33 rfl ?_
        refine r_get (pc := 34) dX6_count_34 fX6_101 rfl rfl ?_
        refine r_goto (pc := 37) (tgt := 53) dX6_count_37 (by decide) ?_
        exact r_iret dX6_count_53 rfl (rfl) rfl
    · exact absurd c2 (by decide)
  · exact absurd c1 (by decide)
theorem q_count_3 (X : Ctx) (d : Nat) (I : MI) (L : ML)  : Sp X mX6_count (d + 0) (0, 0) [.ref 42, .int (nI 3)] shF I L (some (.int (I 42 23)), shF, (u2 I 42 0 (nI 0)), L) := by
  refine Sp.of okX6_count [.ref 42, .int (nI 3)] 0 rfl (Nat.le_of_ble_eq_true rfl) ?_
  refine r_aload_n (pc := 0) dX6_count_0 rfl ?_
  refine r_iconst (pc := 1) (v := nI 0) dX6_count_1 rfl ?_
  refine r_put (pc := 2) .int dX6_count_2 fX6_93 rfl rfl nf6_0 rfl rfl ?_
  refine r_iload_n (pc := 5) dX6_count_5 rfl ?_
  refine r_ifN_ne (pc := 6) (tgt := 16) dX6_count_6 (by decide) (by omega) (fun c1 => ?_) (fun c1 => ?_)
  · refine r_iload_n (pc := 16) dX6_count_16 rfl ?_
    refine r_iconst (pc := 17) (v := nI 1) dX6_count_17 rfl ?_
    refine r_icmpN_ne (pc := 18) (tgt := 28) dX6_count_18 (by decide) (by omega) (by omega) (fun c2 => ?_) (fun c2 => ?_)
    · refine r_iload_n (pc := 28) dX6_count_28 rfl ?_
      refine r_iconst (pc := 29) (v := nI 2) dX6_count_29 rfl ?_
      refine r_icmpN_ne (pc := 30) (tgt := 40) dX6_count_30 (by decide) (by omega) (by omega) (fun c3 => ?_) (fun c3 => ?_)
      · refine r_iload_n (pc := 40) dX6_count_40 rfl ?_
        refine r_iconst (pc := 41) (v := nI 3) dX6_count_41 rfl ?_
        refine r_icmpN_ne (pc := 42) (tgt := 52) dX6_count_42 (by decide) (by omega) (by omega) (fun c4 => ?_) (fun c4 => ?_)
        · exact absurd c4 (by decide)
        · refine r_aload_n (pc := 45) dX6_count_45 rfl ?_
          refine r_get (pc := 46) dX6_count_46 fX6_205 rfl rfl ?_
          refine r_goto (pc := 49) (tgt := 53) dX6_count_49 (by decide) ?_
          exact r_iret dX6_count_53 rfl (rfl) rfl
      · exact absurd c3 (by decide)
    · exact absurd c2 (by decide)
  · exact absurd c1 (by decide)
theorem q_count_w (X : Ctx) (d : Nat) (I : MI) (L : ML) (w : Int32) (h0 : ¬ w = 0) (h1 : ¬ w = nI 1) (h2 : ¬ w = nI 2) (h3 : ¬ w = nI 3) : Sp X mX6_count (d + 0) (0, 0) [.ref 42, .int (w)] shF I L (some (.int (-1)), shF, (u2 I 42 0 (nI 0)), L) := by
  refine Sp.of okX6_count [.ref 42, .int (w)] 0 rfl (Nat.le_of_ble_eq_true rfl) ?_
  refine r_aload_n (pc := 0) dX6_count_0 rfl ?_
  refine r_iconst (pc := 1) (v := nI 0) dX6_count_1 rfl ?_
  refine r_put (pc := 2) .int dX6_count_2 fX6_93 rfl rfl nf6_0 rfl rfl ?_
  refine r_iload_n (pc := 5) dX6_count_5 rfl ?_
  refine r_if_ne (pc := 6) (tgt := 16) dX6_count_6 (by decide) (fun c1 => ?_) (fun c1 => ?_)
  · refine r_iload_n (pc := 16) dX6_count_16 rfl ?_
    refine r_iconst (pc := 17) (v := nI 1) dX6_count_17 rfl ?_
    refine r_icmp_ne (pc := 18) (tgt := 28) dX6_count_18 (by decide) (fun c2 => ?_) (fun c2 => ?_)
    · refine r_iload_n (pc := 28) dX6_count_28 rfl ?_
      refine r_iconst (pc := 29) (v := nI 2) dX6_count_29 rfl ?_
      refine r_icmp_ne (pc := 30) (tgt := 40) dX6_count_30 (by decide) (fun c3 => ?_) (fun c3 => ?_)
      · refine r_iload_n (pc := 40) dX6_count_40 rfl ?_
        refine r_iconst (pc := 41) (v := nI 3) dX6_count_41 rfl ?_
        refine r_icmp_ne (pc := 42) (tgt := 52) dX6_count_42 (by decide) (fun c4 => ?_) (fun c4 => ?_)
        · refine r_iconst (pc := 52) (v := -1) dX6_count_52 rfl ?_
          exact r_iret dX6_count_53 rfl (rfl) rfl
        · exact absurd c4 h3
      · exact absurd c3 h2
    · exact absurd c2 h1
  · exact absurd c1 h0
theorem q_value_f (X : Ctx) (d : Nat) (I : MI) (L : ML) (F : Nat) (f : Int32) (hF : I 42 8 = nI F) (hf : f < nI 0 ∨ nI F - nI 1 < f)  : Sp X mX6_value (d + 2) (0, 0) [.ref 42, .int (f)] shF I L (some (.long (-9000000000000000000)), shF, (u2 I 42 0 (nI 0)), L) := by
  refine Sp.of okX6_value [.ref 42, .int (f)] 0 rfl (Nat.le_of_ble_eq_true rfl) ?_
  refine r_aload_n (pc := 0) dX6_value_0 rfl ?_
  refine r_iconst (pc := 1) (v := nI 0) dX6_value_1 rfl ?_
  refine r_put (pc := 2) .int dX6_value_2 fX6_93 rfl rfl nf6_0 rfl rfl ?_
  refine r_aload_n (pc := 5) dX6_value_5 rfl ?_
  refine r_iload_n (pc := 6) dX6_value_6 rfl ?_
  refine r_callV (pc := 7) (N := mX6_isFormula) (rest := []) (s_isFormula_f X _ (u2 I 42 0 (nI 0)) L F f (hF) hf) okX6_isFormula lkX6_243 rfl (by decide) rfl rfl rfl (Nat.le_of_ble_eq_true rfl) ⟨Nat.le_refl _, Nat.le_refl _⟩ dX6_value_7 ?_
  refine r_ifN_ne (pc := 10) (tgt := 17) dX6_value_10 (by decide) (by omega) (fun c1 => ?_) (fun c1 => ?_)
  · exact absurd c1 (by decide)
  · refine r_ldc2 (pc := 13) dX6_value_13 kX6_211 ?_
    exact r_lret dX6_value_16 rfl (rfl) rfl
theorem q_slope_f (X : Ctx) (d : Nat) (I : MI) (L : ML) (F : Nat) (f : Int32) (hF : I 42 8 = nI F) (hf : f < nI 0 ∨ nI F - nI 1 < f) (s : Int32) : Sp X mX6_slope (d + 2) (0, 0) [.ref 42, .int (f), .int (s)] shF I L (some (.long (-9000000000000000000)), shF, (u2 I 42 0 (nI 0)), L) := by
  refine Sp.of okX6_slope [.ref 42, .int (f), .int (s)] 0 rfl (Nat.le_of_ble_eq_true rfl) ?_
  refine r_aload_n (pc := 0) dX6_slope_0 rfl ?_
  refine r_iconst (pc := 1) (v := nI 0) dX6_slope_1 rfl ?_
  refine r_put (pc := 2) .int dX6_slope_2 fX6_93 rfl rfl nf6_0 rfl rfl ?_
  refine r_aload_n (pc := 5) dX6_slope_5 rfl ?_
  refine r_iload_n (pc := 6) dX6_slope_6 rfl ?_
  refine r_callV (pc := 7) (N := mX6_isFormula) (rest := []) (s_isFormula_f X _ (u2 I 42 0 (nI 0)) L F f (hF) hf) okX6_isFormula lkX6_243 rfl (by decide) rfl rfl rfl (Nat.le_of_ble_eq_true rfl) ⟨Nat.le_refl _, Nat.le_refl _⟩ dX6_slope_7 ?_
  refine r_ifN_eq (pc := 10) (tgt := 20) dX6_slope_10 (by decide) (by omega) (fun c1 => ?_) (fun c1 => ?_)
  · refine r_ldc2 (pc := 20) dX6_slope_20 kX6_211 ?_
    exact r_lret dX6_slope_23 rfl (rfl) rfl
  · exact absurd c1 (by decide)
theorem q_bend_f (X : Ctx) (d : Nat) (I : MI) (L : ML) (F : Nat) (f : Int32) (hF : I 42 8 = nI F) (hf : f < nI 0 ∨ nI F - nI 1 < f) (s t : Int32) : Sp X mX6_bend (d + 2) (0, 0) [.ref 42, .int (f), .int (s), .int (t)] shF I L (some (.long (-9000000000000000000)), shF, (u2 I 42 0 (nI 0)), L) := by
  refine Sp.of okX6_bend [.ref 42, .int (f), .int (s), .int (t)] 0 rfl (Nat.le_of_ble_eq_true rfl) ?_
  refine r_aload_n (pc := 0) dX6_bend_0 rfl ?_
  refine r_iconst (pc := 1) (v := nI 0) dX6_bend_1 rfl ?_
  refine r_put (pc := 2) .int dX6_bend_2 fX6_93 rfl rfl nf6_0 rfl rfl ?_
  refine r_aload_n (pc := 5) dX6_bend_5 rfl ?_
  refine r_iload_n (pc := 6) dX6_bend_6 rfl ?_
  refine r_callV (pc := 7) (N := mX6_isFormula) (rest := []) (s_isFormula_f X _ (u2 I 42 0 (nI 0)) L F f (hF) hf) okX6_isFormula lkX6_243 rfl (by decide) rfl rfl rfl (Nat.le_of_ble_eq_true rfl) ⟨Nat.le_refl _, Nat.le_refl _⟩ dX6_bend_7 ?_
  refine r_ifN_eq (pc := 10) (tgt := 27) dX6_bend_10 (by decide) (by omega) (fun c1 => ?_) (fun c1 => ?_)
  · refine r_ldc2 (pc := 27) dX6_bend_27 kX6_211 ?_
    exact r_lret dX6_bend_30 rfl (rfl) rfl
  · exact absurd c1 (by decide)
theorem q_whole_f (X : Ctx) (d : Nat) (I : MI) (L : ML) (F : Nat) (f : Int32) (hF : I 42 8 = nI F) (hf : f < nI 0 ∨ nI F - nI 1 < f)  : Sp X mX6_whole (d + 2) (0, 0) [.ref 42, .int (f)] shF I L (some (.long (-9000000000000000000)), shF, (u2 I 42 0 (nI 0)), L) := by
  refine Sp.of okX6_whole [.ref 42, .int (f)] 0 rfl (Nat.le_of_ble_eq_true rfl) ?_
  refine r_aload_n (pc := 0) dX6_whole_0 rfl ?_
  refine r_iconst (pc := 1) (v := nI 0) dX6_whole_1 rfl ?_
  refine r_put (pc := 2) .int dX6_whole_2 fX6_93 rfl rfl nf6_0 rfl rfl ?_
  refine r_aload_n (pc := 5) dX6_whole_5 rfl ?_
  refine r_iload_n (pc := 6) dX6_whole_6 rfl ?_
  refine r_callV (pc := 7) (N := mX6_isFormula) (rest := []) (s_isFormula_f X _ (u2 I 42 0 (nI 0)) L F f (hF) hf) okX6_isFormula lkX6_243 rfl (by decide) rfl rfl rfl (Nat.le_of_ble_eq_true rfl) ⟨Nat.le_refl _, Nat.le_refl _⟩ dX6_whole_7 ?_
  refine r_ifN_ne (pc := 10) (tgt := 17) dX6_whole_10 (by decide) (by omega) (fun c1 => ?_) (fun c1 => ?_)
  · exact absurd c1 (by decide)
  · refine r_ldc2 (pc := 13) dX6_whole_13 kX6_211 ?_
    exact r_lret dX6_whole_16 rfl (rfl) rfl
theorem q_together_f (X : Ctx) (d : Nat) (I : MI) (L : ML) (F : Nat) (f : Int32) (hF : I 42 8 = nI F) (hf : f < nI 0 ∨ nI F - nI 1 < f) (g : Int32) : Sp X mX6_together (d + 2) (0, 0) [.ref 42, .int (f), .int (g)] shF I L (some (.long (-9000000000000000000)), shF, (u2 I 42 0 (nI 0)), L) := by
  refine Sp.of okX6_together [.ref 42, .int (f), .int (g)] 0 rfl (Nat.le_of_ble_eq_true rfl) ?_
  refine r_aload_n (pc := 0) dX6_together_0 rfl ?_
  refine r_iconst (pc := 1) (v := nI 0) dX6_together_1 rfl ?_
  refine r_put (pc := 2) .int dX6_together_2 fX6_93 rfl rfl nf6_0 rfl rfl ?_
  refine r_aload_n (pc := 5) dX6_together_5 rfl ?_
  refine r_iload_n (pc := 6) dX6_together_6 rfl ?_
  refine r_callV (pc := 7) (N := mX6_isFormula) (rest := []) (s_isFormula_f X _ (u2 I 42 0 (nI 0)) L F f (hF) hf) okX6_isFormula lkX6_243 rfl (by decide) rfl rfl rfl (Nat.le_of_ble_eq_true rfl) ⟨Nat.le_refl _, Nat.le_refl _⟩ dX6_together_7 ?_
  refine r_ifN_eq (pc := 10) (tgt := 21) dX6_together_10 (by decide) (by omega) (fun c1 => ?_) (fun c1 => ?_)
  · refine r_ldc2 (pc := 21) dX6_together_21 kX6_211 ?_
    exact r_lret dX6_together_24 rfl (rfl) rfl
  · exact absurd c1 (by decide)
theorem q_share_f (X : Ctx) (d : Nat) (I : MI) (L : ML) (F : Nat) (f : Int32) (hF : I 42 8 = nI F) (hf : f < nI 0 ∨ nI F - nI 1 < f) (s : Int32) : Sp X mX6_share (d + 2) (0, 0) [.ref 42, .int (f), .int (s)] shF I L (some (.long (-9000000000000000000)), shF, (u2 I 42 0 (nI 0)), L) := by
  refine Sp.of okX6_share [.ref 42, .int (f), .int (s)] 0 rfl (Nat.le_of_ble_eq_true rfl) ?_
  refine r_aload_n (pc := 0) dX6_share_0 rfl ?_
  refine r_iconst (pc := 1) (v := nI 0) dX6_share_1 rfl ?_
  refine r_put (pc := 2) .int dX6_share_2 fX6_93 rfl rfl nf6_0 rfl rfl ?_
  refine r_aload_n (pc := 5) dX6_share_5 rfl ?_
  refine r_iload_n (pc := 6) dX6_share_6 rfl ?_
  refine r_callV (pc := 7) (N := mX6_isFormula) (rest := []) (s_isFormula_f X _ (u2 I 42 0 (nI 0)) L F f (hF) hf) okX6_isFormula lkX6_243 rfl (by decide) rfl rfl rfl (Nat.le_of_ble_eq_true rfl) ⟨Nat.le_refl _, Nat.le_refl _⟩ dX6_share_7 ?_
  refine r_ifN_eq (pc := 10) (tgt := 20) dX6_share_10 (by decide) (by omega) (fun c1 => ?_) (fun c1 => ?_)
  · refine r_ldc2 (pc := 20) dX6_share_20 kX6_211 ?_
    exact r_lret dX6_share_23 rfl (rfl) rfl
  · exact absurd c1 (by decide)
theorem q_left_f (X : Ctx) (d : Nat) (I : MI) (L : ML) (F : Nat) (f : Int32) (hF : I 42 8 = nI F) (hf : f < nI 0 ∨ nI F - nI 1 < f) (s : Int32) : Sp X mX6_left (d + 2) (0, 0) [.ref 42, .int (f), .int (s)] shF I L (some (.long (-9000000000000000000)), shF, (u2 I 42 0 (nI 0)), L) := by
  refine Sp.of okX6_left [.ref 42, .int (f), .int (s)] 0 rfl (Nat.le_of_ble_eq_true rfl) ?_
  refine r_aload_n (pc := 0) dX6_left_0 rfl ?_
  refine r_iconst (pc := 1) (v := nI 0) dX6_left_1 rfl ?_
  refine r_put (pc := 2) .int dX6_left_2 fX6_93 rfl rfl nf6_0 rfl rfl ?_
  refine r_aload_n (pc := 5) dX6_left_5 rfl ?_
  refine r_iload_n (pc := 6) dX6_left_6 rfl ?_
  refine r_callV (pc := 7) (N := mX6_isFormula) (rest := []) (s_isFormula_f X _ (u2 I 42 0 (nI 0)) L F f (hF) hf) okX6_isFormula lkX6_243 rfl (by decide) rfl rfl rfl (Nat.le_of_ble_eq_true rfl) ⟨Nat.le_refl _, Nat.le_refl _⟩ dX6_left_7 ?_
  refine r_ifN_eq (pc := 10) (tgt := 23) dX6_left_10 (by decide) (by omega) (fun c1 => ?_) (fun c1 => ?_)
  · refine r_ldc2 (pc := 23) dX6_left_23 kX6_211 ?_
    exact r_lret dX6_left_26 rfl (rfl) rfl
  · exact absurd c1 (by decide)
theorem q_takes__f (X : Ctx) (d : Nat) (I : MI) (L : ML) (F : Nat) (f : Int32) (hF : I 42 8 = nI F) (hf : f < nI 0 ∨ nI F - nI 1 < f) (s : Int32) : Sp X mX6_takes_ (d + 2) (0, 0) [.ref 42, .int (f), .int (s)] shF I L (some (.long (-9000000000000000000)), shF, (u2 I 42 0 (nI 0)), L) := by
  refine Sp.of okX6_takes_ [.ref 42, .int (f), .int (s)] 0 rfl (Nat.le_of_ble_eq_true rfl) ?_
  refine r_aload_n (pc := 0) dX6_takes__0 rfl ?_
  refine r_iconst (pc := 1) (v := nI 0) dX6_takes__1 rfl ?_
  refine r_put (pc := 2) .int dX6_takes__2 fX6_93 rfl rfl nf6_0 rfl rfl ?_
  refine r_aload_n (pc := 5) dX6_takes__5 rfl ?_
  refine r_iload_n (pc := 6) dX6_takes__6 rfl ?_
  refine r_callV (pc := 7) (N := mX6_isFormula) (rest := []) (s_isFormula_f X _ (u2 I 42 0 (nI 0)) L F f (hF) hf) okX6_isFormula lkX6_243 rfl (by decide) rfl rfl rfl (Nat.le_of_ble_eq_true rfl) ⟨Nat.le_refl _, Nat.le_refl _⟩ dX6_takes__7 ?_
  refine r_ifN_eq (pc := 10) (tgt := 20) dX6_takes__10 (by decide) (by omega) (fun c1 => ?_) (fun c1 => ?_)
  · refine r_ldc2 (pc := 20) dX6_takes__20 kX6_211 ?_
    exact r_lret dX6_takes__23 rfl (rfl) rfl
  · exact absurd c1 (by decide)
theorem q_first_f (X : Ctx) (d : Nat) (I : MI) (L : ML) (F : Nat) (f : Int32) (hF : I 42 8 = nI F) (hf : f < nI 0 ∨ nI F - nI 1 < f) (s : Int32) : Sp X mX6_first (d + 2) (0, 0) [.ref 42, .int (f), .int (s)] shF I L (some (.int (-1)), shF, (u2 I 42 0 (nI 0)), L) := by
  refine Sp.of okX6_first [.ref 42, .int (f), .int (s), .null, .null, .null, .null, .null, .null] 6 rfl (Nat.le_of_ble_eq_true rfl) ?_
  refine r_aload_n (pc := 0) dX6_first_0 rfl ?_
  refine r_iconst (pc := 1) (v := nI 0) dX6_first_1 rfl ?_
  refine r_put (pc := 2) .int dX6_first_2 fX6_93 rfl rfl nf6_0 rfl rfl ?_
  refine r_aload_n (pc := 5) dX6_first_5 rfl ?_
  refine r_iload_n (pc := 6) dX6_first_6 rfl ?_
  refine r_callV (pc := 7) (N := mX6_isFormula) (rest := []) (s_isFormula_f X _ (u2 I 42 0 (nI 0)) L F f (hF) hf) okX6_isFormula lkX6_243 rfl (by decide) rfl rfl rfl (Nat.le_of_ble_eq_true rfl) ⟨Nat.le_refl _, Nat.le_refl _⟩ dX6_first_7 ?_
  refine r_ifN_eq (pc := 10) (tgt := 22) dX6_first_10 (by decide) (by omega) (fun c1 => ?_) (fun c1 => ?_)
  · refine r_iconst (pc := 22) (v := -1) dX6_first_22 rfl ?_
    exact r_iret dX6_first_23 rfl (rfl) rfl
  · exact absurd c1 (by decide)
theorem q_off_f (X : Ctx) (d : Nat) (I : MI) (L : ML) (F : Nat) (f : Int32) (hF : I 42 8 = nI F) (hf : f < nI 0 ∨ nI F - nI 1 < f) (s t : Int32) : Sp X mX6_off (d + 2) (0, 0) [.ref 42, .int (f), .int (s), .int (t)] shF I L (some (.long (-9000000000000000000)), shF, (u2 I 42 0 (nI 0)), L) := by
  refine Sp.of okX6_off [.ref 42, .int (f), .int (s), .int (t), .null, .null] 2 rfl (Nat.le_of_ble_eq_true rfl) ?_
  refine r_aload_n (pc := 0) dX6_off_0 rfl ?_
  refine r_iconst (pc := 1) (v := nI 0) dX6_off_1 rfl ?_
  refine r_put (pc := 2) .int dX6_off_2 fX6_93 rfl rfl nf6_0 rfl rfl ?_
  refine r_aload_n (pc := 5) dX6_off_5 rfl ?_
  refine r_iload_n (pc := 6) dX6_off_6 rfl ?_
  refine r_callV (pc := 7) (N := mX6_isFormula) (rest := []) (s_isFormula_f X _ (u2 I 42 0 (nI 0)) L F f (hF) hf) okX6_isFormula lkX6_243 rfl (by decide) rfl rfl rfl (Nat.le_of_ble_eq_true rfl) ⟨Nat.le_refl _, Nat.le_refl _⟩ dX6_off_7 ?_
  refine r_ifN_eq (pc := 10) (tgt := 31) dX6_off_10 (by decide) (by omega) (fun c1 => ?_) (fun c1 => ?_)
  · refine r_ldc2 (pc := 31) dX6_off_31 kX6_211 ?_
    exact r_lret dX6_off_34 rfl (rfl) rfl
  · exact absurd c1 (by decide)
theorem q_formula_f (X : Ctx) (d : Nat) (I : MI) (L : ML) (F : Nat) (f : Int32) (hF : I 42 8 = nI F) (hf : f < nI 0 ∨ nI F - nI 1 < f) (w : Int32) : Sp X mX6_formula (d + 2) (0, 0) [.ref 42, .int (f), .int (w)] shF I L (some (.int (-1)), shF, (u2 I 42 0 (nI 0)), L) := by
  refine Sp.of okX6_formula [.ref 42, .int (f), .int (w), .null, .null] 2 rfl (Nat.le_of_ble_eq_true rfl) ?_
  refine r_aload_n (pc := 0) dX6_formula_0 rfl ?_
  refine r_iconst (pc := 1) (v := nI 0) dX6_formula_1 rfl ?_
  refine r_put (pc := 2) .int dX6_formula_2 fX6_93 rfl rfl nf6_0 rfl rfl ?_
  refine r_aload_n (pc := 5) dX6_formula_5 rfl ?_
  refine r_iload_n (pc := 6) dX6_formula_6 rfl ?_
  refine r_callV (pc := 7) (N := mX6_isFormula) (rest := []) (s_isFormula_f X _ (u2 I 42 0 (nI 0)) L F f (hF) hf) okX6_isFormula lkX6_243 rfl (by decide) rfl rfl rfl (Nat.le_of_ble_eq_true rfl) ⟨Nat.le_refl _, Nat.le_refl _⟩ dX6_formula_7 ?_
  refine r_ifN_eq (pc := 10) (tgt := 22) dX6_formula_10 (by decide) (by omega) (fun c1 => ?_) (fun c1 => ?_)
  · refine r_iconst (pc := 22) (v := -1) dX6_formula_22 rfl ?_
    exact r_iret dX6_formula_23 rfl (rfl) rfl
  · exact absurd c1 (by decide)
theorem q_fewest_f (X : Ctx) (d : Nat) (I : MI) (L : ML) (F : Nat) (f : Int32) (hF : I 42 8 = nI F) (hf : f < nI 0 ∨ nI F - nI 1 < f) (lim : Int64) : Sp X mX6_fewest (d + 2) (0, 0) [.ref 42, .int (f), .long (lim)] shF I L (some (.int (-1)), shF, (u2 I 42 0 (nI 0)), L) := by
  refine Sp.of okX6_fewest [.ref 42, .int (f), .long (lim), .null, .null, .null, .null] 3 rfl (Nat.le_of_ble_eq_true rfl) ?_
  refine r_aload_n (pc := 0) dX6_fewest_0 rfl ?_
  refine r_iconst (pc := 1) (v := nI 0) dX6_fewest_1 rfl ?_
  refine r_put (pc := 2) .int dX6_fewest_2 fX6_93 rfl rfl nf6_0 rfl rfl ?_
  refine r_aload_n (pc := 5) dX6_fewest_5 rfl ?_
  refine r_iload_n (pc := 6) dX6_fewest_6 rfl ?_
  refine r_callV (pc := 7) (N := mX6_isFormula) (rest := []) (s_isFormula_f X _ (u2 I 42 0 (nI 0)) L F f (hF) hf) okX6_isFormula lkX6_243 rfl (by decide) rfl rfl rfl (Nat.le_of_ble_eq_true rfl) ⟨Nat.le_refl _, Nat.le_refl _⟩ dX6_fewest_7 ?_
  refine r_ifN_ne (pc := 10) (tgt := 15) dX6_fewest_10 (by decide) (by omega) (fun c1 => ?_) (fun c1 => ?_)
  · exact absurd c1 (by decide)
  · refine r_iconst (pc := 13) (v := -1) dX6_fewest_13 rfl ?_
    exact r_iret dX6_fewest_14 rfl (rfl) rfl
theorem q_sees_f (X : Ctx) (d : Nat) (I : MI) (L : ML) (F : Nat) (f : Int32) (hF : I 42 8 = nI F) (hf : f < nI 0 ∨ nI F - nI 1 < f) (v : Int64) : Sp X mX6_sees (d + 2) (0, 0) [.ref 42, .int (f), .long (v)] shF I L (some (.int (-1)), shF, (u2 I 42 0 (nI 0)), L) := by
  refine Sp.of okX6_sees [.ref 42, .int (f), .long (v), .null] 0 rfl (Nat.le_of_ble_eq_true rfl) ?_
  refine r_aload_n (pc := 0) dX6_sees_0 rfl ?_
  refine r_iconst (pc := 1) (v := nI 0) dX6_sees_1 rfl ?_
  refine r_put (pc := 2) .int dX6_sees_2 fX6_93 rfl rfl nf6_0 rfl rfl ?_
  refine r_aload_n (pc := 5) dX6_sees_5 rfl ?_
  refine r_iload_n (pc := 6) dX6_sees_6 rfl ?_
  refine r_callV (pc := 7) (N := mX6_isFormula) (rest := []) (s_isFormula_f X _ (u2 I 42 0 (nI 0)) L F f (hF) hf) okX6_isFormula lkX6_243 rfl (by decide) rfl rfl rfl (Nat.le_of_ble_eq_true rfl) ⟨Nat.le_refl _, Nat.le_refl _⟩ dX6_sees_7 ?_
  refine r_ifN_ne (pc := 10) (tgt := 15) dX6_sees_10 (by decide) (by omega) (fun c1 => ?_) (fun c1 => ?_)
  · exact absurd c1 (by decide)
  · refine r_iconst (pc := 13) (v := -1) dX6_sees_13 rfl ?_
    exact r_iret dX6_sees_14 rfl (rfl) rfl
theorem q_slope_s (X : Ctx) (d : Nat) (I : MI) (L : ML) (F k : Nat) (hF : I 42 8 = nI F) (hk : k < F) (hF4 : F ≤ 4) (s : Int32) (hs : s < nI 0 ∨ nI 5 < s)  : Sp X mX6_slope (d + 2) (0, 0) [.ref 42, .int (nI k), .int (s)] shF I L (some (.long (-9000000000000000000)), shF, (u2 I 42 0 (nI 0)), L) := by
  refine Sp.of okX6_slope [.ref 42, .int (nI k), .int (s)] 0 rfl (Nat.le_of_ble_eq_true rfl) ?_
  refine r_aload_n (pc := 0) dX6_slope_0 rfl ?_
  refine r_iconst (pc := 1) (v := nI 0) dX6_slope_1 rfl ?_
  refine r_put (pc := 2) .int dX6_slope_2 fX6_93 rfl rfl nf6_0 rfl rfl ?_
  refine r_aload_n (pc := 5) dX6_slope_5 rfl ?_
  refine r_iload_n (pc := 6) dX6_slope_6 rfl ?_
  refine r_callV (pc := 7) (N := mX6_isFormula) (rest := []) (s_isFormula_t X _ (u2 I 42 0 (nI 0)) L F k (hF) (by omega) hF4) okX6_isFormula lkX6_243 rfl (by decide) rfl rfl rfl (Nat.le_of_ble_eq_true rfl) ⟨Nat.le_refl _, Nat.le_refl _⟩ dX6_slope_7 ?_
  refine r_ifN_eq (pc := 10) (tgt := 20) dX6_slope_10 (by decide) (by omega) (fun c1 => ?_) (fun c1 => ?_)
  · exact absurd c1 (by decide)
  · refine r_iload_n (pc := 13) dX6_slope_13 rfl ?_
    refine r_callS (pc := 14) (N := mX6_isSource) (rest := []) (s_misSource_f X _ (u2 I 42 0 (nI 0)) L s hs) okX6_isSource lkX6_208 rfl rfl (Nat.le_of_ble_eq_true rfl) ⟨Nat.le_refl _, Nat.le_refl _⟩ dX6_slope_14 ?_
    refine r_ifN_ne (pc := 17) (tgt := 24) dX6_slope_17 (by decide) (by omega) (fun c2 => ?_) (fun c2 => ?_)
    · exact absurd c2 (by decide)
    · refine r_ldc2 (pc := 20) dX6_slope_20 kX6_211 ?_
      exact r_lret dX6_slope_23 rfl (rfl) rfl
theorem q_bend_s (X : Ctx) (d : Nat) (I : MI) (L : ML) (F k : Nat) (hF : I 42 8 = nI F) (hk : k < F) (hF4 : F ≤ 4) (s : Int32) (hs : s < nI 0 ∨ nI 5 < s) (t : Int32) : Sp X mX6_bend (d + 2) (0, 0) [.ref 42, .int (nI k), .int (s), .int (t)] shF I L (some (.long (-9000000000000000000)), shF, (u2 I 42 0 (nI 0)), L) := by
  refine Sp.of okX6_bend [.ref 42, .int (nI k), .int (s), .int (t)] 0 rfl (Nat.le_of_ble_eq_true rfl) ?_
  refine r_aload_n (pc := 0) dX6_bend_0 rfl ?_
  refine r_iconst (pc := 1) (v := nI 0) dX6_bend_1 rfl ?_
  refine r_put (pc := 2) .int dX6_bend_2 fX6_93 rfl rfl nf6_0 rfl rfl ?_
  refine r_aload_n (pc := 5) dX6_bend_5 rfl ?_
  refine r_iload_n (pc := 6) dX6_bend_6 rfl ?_
  refine r_callV (pc := 7) (N := mX6_isFormula) (rest := []) (s_isFormula_t X _ (u2 I 42 0 (nI 0)) L F k (hF) (by omega) hF4) okX6_isFormula lkX6_243 rfl (by decide) rfl rfl rfl (Nat.le_of_ble_eq_true rfl) ⟨Nat.le_refl _, Nat.le_refl _⟩ dX6_bend_7 ?_
  refine r_ifN_eq (pc := 10) (tgt := 27) dX6_bend_10 (by decide) (by omega) (fun c1 => ?_) (fun c1 => ?_)
  · exact absurd c1 (by decide)
  · refine r_iload_n (pc := 13) dX6_bend_13 rfl ?_
    refine r_callS (pc := 14) (N := mX6_isSource) (rest := []) (s_misSource_f X _ (u2 I 42 0 (nI 0)) L s hs) okX6_isSource lkX6_208 rfl rfl (Nat.le_of_ble_eq_true rfl) ⟨Nat.le_refl _, Nat.le_refl _⟩ dX6_bend_14 ?_
    refine r_ifN_eq (pc := 17) (tgt := 27) dX6_bend_17 (by decide) (by omega) (fun c2 => ?_) (fun c2 => ?_)
    · refine r_ldc2 (pc := 27) dX6_bend_27 kX6_211 ?_
      exact r_lret dX6_bend_30 rfl (rfl) rfl
    · exact absurd c2 (by decide)
theorem q_share_s (X : Ctx) (d : Nat) (I : MI) (L : ML) (F k : Nat) (hF : I 42 8 = nI F) (hk : k < F) (hF4 : F ≤ 4) (s : Int32) (hs : s < nI 0 ∨ nI 5 < s)  : Sp X mX6_share (d + 2) (0, 0) [.ref 42, .int (nI k), .int (s)] shF I L (some (.long (-9000000000000000000)), shF, (u2 I 42 0 (nI 0)), L) := by
  refine Sp.of okX6_share [.ref 42, .int (nI k), .int (s)] 0 rfl (Nat.le_of_ble_eq_true rfl) ?_
  refine r_aload_n (pc := 0) dX6_share_0 rfl ?_
  refine r_iconst (pc := 1) (v := nI 0) dX6_share_1 rfl ?_
  refine r_put (pc := 2) .int dX6_share_2 fX6_93 rfl rfl nf6_0 rfl rfl ?_
  refine r_aload_n (pc := 5) dX6_share_5 rfl ?_
  refine r_iload_n (pc := 6) dX6_share_6 rfl ?_
  refine r_callV (pc := 7) (N := mX6_isFormula) (rest := []) (s_isFormula_t X _ (u2 I 42 0 (nI 0)) L F k (hF) (by omega) hF4) okX6_isFormula lkX6_243 rfl (by decide) rfl rfl rfl (Nat.le_of_ble_eq_true rfl) ⟨Nat.le_refl _, Nat.le_refl _⟩ dX6_share_7 ?_
  refine r_ifN_eq (pc := 10) (tgt := 20) dX6_share_10 (by decide) (by omega) (fun c1 => ?_) (fun c1 => ?_)
  · exact absurd c1 (by decide)
  · refine r_iload_n (pc := 13) dX6_share_13 rfl ?_
    refine r_callS (pc := 14) (N := mX6_isSource) (rest := []) (s_misSource_f X _ (u2 I 42 0 (nI 0)) L s hs) okX6_isSource lkX6_208 rfl rfl (Nat.le_of_ble_eq_true rfl) ⟨Nat.le_refl _, Nat.le_refl _⟩ dX6_share_14 ?_
    refine r_ifN_ne (pc := 17) (tgt := 24) dX6_share_17 (by decide) (by omega) (fun c2 => ?_) (fun c2 => ?_)
    · exact absurd c2 (by decide)
    · refine r_ldc2 (pc := 20) dX6_share_20 kX6_211 ?_
      exact r_lret dX6_share_23 rfl (rfl) rfl
theorem q_takes__s (X : Ctx) (d : Nat) (I : MI) (L : ML) (F k : Nat) (hF : I 42 8 = nI F) (hk : k < F) (hF4 : F ≤ 4) (s : Int32) (hs : s < nI 0 ∨ nI 5 < s)  : Sp X mX6_takes_ (d + 2) (0, 0) [.ref 42, .int (nI k), .int (s)] shF I L (some (.long (-9000000000000000000)), shF, (u2 I 42 0 (nI 0)), L) := by
  refine Sp.of okX6_takes_ [.ref 42, .int (nI k), .int (s)] 0 rfl (Nat.le_of_ble_eq_true rfl) ?_
  refine r_aload_n (pc := 0) dX6_takes__0 rfl ?_
  refine r_iconst (pc := 1) (v := nI 0) dX6_takes__1 rfl ?_
  refine r_put (pc := 2) .int dX6_takes__2 fX6_93 rfl rfl nf6_0 rfl rfl ?_
  refine r_aload_n (pc := 5) dX6_takes__5 rfl ?_
  refine r_iload_n (pc := 6) dX6_takes__6 rfl ?_
  refine r_callV (pc := 7) (N := mX6_isFormula) (rest := []) (s_isFormula_t X _ (u2 I 42 0 (nI 0)) L F k (hF) (by omega) hF4) okX6_isFormula lkX6_243 rfl (by decide) rfl rfl rfl (Nat.le_of_ble_eq_true rfl) ⟨Nat.le_refl _, Nat.le_refl _⟩ dX6_takes__7 ?_
  refine r_ifN_eq (pc := 10) (tgt := 20) dX6_takes__10 (by decide) (by omega) (fun c1 => ?_) (fun c1 => ?_)
  · exact absurd c1 (by decide)
  · refine r_iload_n (pc := 13) dX6_takes__13 rfl ?_
    refine r_callS (pc := 14) (N := mX6_isSource) (rest := []) (s_misSource_f X _ (u2 I 42 0 (nI 0)) L s hs) okX6_isSource lkX6_208 rfl rfl (Nat.le_of_ble_eq_true rfl) ⟨Nat.le_refl _, Nat.le_refl _⟩ dX6_takes__14 ?_
    refine r_ifN_ne (pc := 17) (tgt := 24) dX6_takes__17 (by decide) (by omega) (fun c2 => ?_) (fun c2 => ?_)
    · exact absurd c2 (by decide)
    · refine r_ldc2 (pc := 20) dX6_takes__20 kX6_211 ?_
      exact r_lret dX6_takes__23 rfl (rfl) rfl
theorem q_off_s (X : Ctx) (d : Nat) (I : MI) (L : ML) (F k : Nat) (hF : I 42 8 = nI F) (hk : k < F) (hF4 : F ≤ 4) (s : Int32) (hs : s < nI 0 ∨ nI 5 < s) (t : Int32) : Sp X mX6_off (d + 2) (0, 0) [.ref 42, .int (nI k), .int (s), .int (t)] shF I L (some (.long (-9000000000000000000)), shF, (u2 I 42 0 (nI 0)), L) := by
  refine Sp.of okX6_off [.ref 42, .int (nI k), .int (s), .int (t), .null, .null] 2 rfl (Nat.le_of_ble_eq_true rfl) ?_
  refine r_aload_n (pc := 0) dX6_off_0 rfl ?_
  refine r_iconst (pc := 1) (v := nI 0) dX6_off_1 rfl ?_
  refine r_put (pc := 2) .int dX6_off_2 fX6_93 rfl rfl nf6_0 rfl rfl ?_
  refine r_aload_n (pc := 5) dX6_off_5 rfl ?_
  refine r_iload_n (pc := 6) dX6_off_6 rfl ?_
  refine r_callV (pc := 7) (N := mX6_isFormula) (rest := []) (s_isFormula_t X _ (u2 I 42 0 (nI 0)) L F k (hF) (by omega) hF4) okX6_isFormula lkX6_243 rfl (by decide) rfl rfl rfl (Nat.le_of_ble_eq_true rfl) ⟨Nat.le_refl _, Nat.le_refl _⟩ dX6_off_7 ?_
  refine r_ifN_eq (pc := 10) (tgt := 31) dX6_off_10 (by decide) (by omega) (fun c1 => ?_) (fun c1 => ?_)
  · exact absurd c1 (by decide)
  · refine r_iload_n (pc := 13) dX6_off_13 rfl ?_
    refine r_callS (pc := 14) (N := mX6_isSource) (rest := []) (s_misSource_f X _ (u2 I 42 0 (nI 0)) L s hs) okX6_isSource lkX6_208 rfl rfl (Nat.le_of_ble_eq_true rfl) ⟨Nat.le_refl _, Nat.le_refl _⟩ dX6_off_14 ?_
    refine r_ifN_eq (pc := 17) (tgt := 31) dX6_off_17 (by decide) (by omega) (fun c2 => ?_) (fun c2 => ?_)
    · refine r_ldc2 (pc := 31) dX6_off_31 kX6_211 ?_
      exact r_lret dX6_off_34 rfl (rfl) rfl
    · exact absurd c2 (by decide)
theorem q_bend_t (X : Ctx) (d : Nat) (I : MI) (L : ML) (F k : Nat) (hF : I 42 8 = nI F) (hk : k < F) (hF4 : F ≤ 4) (j : Nat) (hj : j < 6) (s : Int32) (hs : s < nI 0 ∨ nI 5 < s) : Sp X mX6_bend (d + 2) (0, 0) [.ref 42, .int (nI k), .int (nI j), .int (s)] shF I L (some (.long (-9000000000000000000)), shF, (u2 I 42 0 (nI 0)), L) := by
  refine Sp.of okX6_bend [.ref 42, .int (nI k), .int (nI j), .int (s)] 0 rfl (Nat.le_of_ble_eq_true rfl) ?_
  refine r_aload_n (pc := 0) dX6_bend_0 rfl ?_
  refine r_iconst (pc := 1) (v := nI 0) dX6_bend_1 rfl ?_
  refine r_put (pc := 2) .int dX6_bend_2 fX6_93 rfl rfl nf6_0 rfl rfl ?_
  refine r_aload_n (pc := 5) dX6_bend_5 rfl ?_
  refine r_iload_n (pc := 6) dX6_bend_6 rfl ?_
  refine r_callV (pc := 7) (N := mX6_isFormula) (rest := []) (s_isFormula_t X _ (u2 I 42 0 (nI 0)) L F k (hF) (by omega) hF4) okX6_isFormula lkX6_243 rfl (by decide) rfl rfl rfl (Nat.le_of_ble_eq_true rfl) ⟨Nat.le_refl _, Nat.le_refl _⟩ dX6_bend_7 ?_
  refine r_ifN_eq (pc := 10) (tgt := 27) dX6_bend_10 (by decide) (by omega) (fun c1 => ?_) (fun c1 => ?_)
  · exact absurd c1 (by decide)
  · refine r_iload_n (pc := 13) dX6_bend_13 rfl ?_
    refine r_callS (pc := 14) (N := mX6_isSource) (rest := []) (s_misSource_t X _ (u2 I 42 0 (nI 0)) L j (by omega)) okX6_isSource lkX6_208 rfl rfl (Nat.le_of_ble_eq_true rfl) ⟨Nat.le_refl _, Nat.le_refl _⟩ dX6_bend_14 ?_
    refine r_ifN_eq (pc := 17) (tgt := 27) dX6_bend_17 (by decide) (by omega) (fun c2 => ?_) (fun c2 => ?_)
    · exact absurd c2 (by decide)
    · refine r_iload_n (pc := 20) dX6_bend_20 rfl ?_
      refine r_callS (pc := 21) (N := mX6_isSource) (rest := []) (s_misSource_f X _ (u2 I 42 0 (nI 0)) L s hs) okX6_isSource lkX6_208 rfl rfl (Nat.le_of_ble_eq_true rfl) ⟨Nat.le_refl _, Nat.le_refl _⟩ dX6_bend_21 ?_
      refine r_ifN_ne (pc := 24) (tgt := 31) dX6_bend_24 (by decide) (by omega) (fun c3 => ?_) (fun c3 => ?_)
      · exact absurd c3 (by decide)
      · refine r_ldc2 (pc := 27) dX6_bend_27 kX6_211 ?_
        exact r_lret dX6_bend_30 rfl (rfl) rfl
theorem q_off_d (X : Ctx) (d : Nat) (I : MI) (L : ML) (F k : Nat) (hF : I 42 8 = nI F) (hk : k < F) (hF4 : F ≤ 4) (j : Nat) (hj : j < 6) (x : Int32) (hm : x < -20 ∨ nI 20 < x) : Sp X mX6_off (d + 2) (0, 0) [.ref 42, .int (nI k), .int (nI j), .int (x)] shF I L (some (.long (-9000000000000000000)), shF, (u2 I 42 0 (nI 0)), L) := by
  refine Sp.of okX6_off [.ref 42, .int (nI k), .int (nI j), .int (x), .null, .null] 2 rfl (Nat.le_of_ble_eq_true rfl) ?_
  refine r_aload_n (pc := 0) dX6_off_0 rfl ?_
  refine r_iconst (pc := 1) (v := nI 0) dX6_off_1 rfl ?_
  refine r_put (pc := 2) .int dX6_off_2 fX6_93 rfl rfl nf6_0 rfl rfl ?_
  refine r_aload_n (pc := 5) dX6_off_5 rfl ?_
  refine r_iload_n (pc := 6) dX6_off_6 rfl ?_
  refine r_callV (pc := 7) (N := mX6_isFormula) (rest := []) (s_isFormula_t X _ (u2 I 42 0 (nI 0)) L F k (hF) (by omega) hF4) okX6_isFormula lkX6_243 rfl (by decide) rfl rfl rfl (Nat.le_of_ble_eq_true rfl) ⟨Nat.le_refl _, Nat.le_refl _⟩ dX6_off_7 ?_
  refine r_ifN_eq (pc := 10) (tgt := 31) dX6_off_10 (by decide) (by omega) (fun c1 => ?_) (fun c1 => ?_)
  · exact absurd c1 (by decide)
  · refine r_iload_n (pc := 13) dX6_off_13 rfl ?_
    refine r_callS (pc := 14) (N := mX6_isSource) (rest := []) (s_misSource_t X _ (u2 I 42 0 (nI 0)) L j (by omega)) okX6_isSource lkX6_208 rfl rfl (Nat.le_of_ble_eq_true rfl) ⟨Nat.le_refl _, Nat.le_refl _⟩ dX6_off_14 ?_
    refine r_ifN_eq (pc := 17) (tgt := 31) dX6_off_17 (by decide) (by omega) (fun c2 => ?_) (fun c2 => ?_)
    · exact absurd c2 (by decide)
    · refine r_iload_n (pc := 20) dX6_off_20 rfl ?_
      refine r_bipush (pc := 21) dX6_off_21 bp_m20 ?_
      refine r_bipush (pc := 23) dX6_off_23 bp_20 ?_
      refine r_callS (pc := 25) (N := mX6_in) (rest := []) (s_in_f X _ (u2 I 42 0 (nI 0)) L x (-20) (nI 20) hm) okX6_in lkX6_97 rfl rfl (Nat.le_of_ble_eq_true rfl) ⟨Nat.le_refl _, Nat.le_refl _⟩ dX6_off_25 ?_
      refine r_ifN_ne (pc := 28) (tgt := 35) dX6_off_28 (by decide) (by omega) (fun c3 => ?_) (fun c3 => ?_)
      · exact absurd c3 (by decide)
      · refine r_ldc2 (pc := 31) dX6_off_31 kX6_211 ?_
        exact r_lret dX6_off_34 rfl (rfl) rfl
theorem q_together_g (X : Ctx) (d : Nat) (I : MI) (L : ML) (F k : Nat) (hF : I 42 8 = nI F) (hk : k < F) (hF4 : F ≤ 4) (f : Int32) (hf : f < nI 0 ∨ nI F - nI 1 < f) : Sp X mX6_together (d + 2) (0, 0) [.ref 42, .int (nI k), .int (f)] shF I L (some (.long (-9000000000000000000)), shF, (u2 I 42 0 (nI 0)), L) := by
  refine Sp.of okX6_together [.ref 42, .int (nI k), .int (f)] 0 rfl (Nat.le_of_ble_eq_true rfl) ?_
  refine r_aload_n (pc := 0) dX6_together_0 rfl ?_
  refine r_iconst (pc := 1) (v := nI 0) dX6_together_1 rfl ?_
  refine r_put (pc := 2) .int dX6_together_2 fX6_93 rfl rfl nf6_0 rfl rfl ?_
  refine r_aload_n (pc := 5) dX6_together_5 rfl ?_
  refine r_iload_n (pc := 6) dX6_together_6 rfl ?_
  refine r_callV (pc := 7) (N := mX6_isFormula) (rest := []) (s_isFormula_t X _ (u2 I 42 0 (nI 0)) L F k (hF) (by omega) hF4) okX6_isFormula lkX6_243 rfl (by decide) rfl rfl rfl (Nat.le_of_ble_eq_true rfl) ⟨Nat.le_refl _, Nat.le_refl _⟩ dX6_together_7 ?_
  refine r_ifN_eq (pc := 10) (tgt := 21) dX6_together_10 (by decide) (by omega) (fun c1 => ?_) (fun c1 => ?_)
  · exact absurd c1 (by decide)
  · refine r_aload_n (pc := 13) dX6_together_13 rfl ?_
    refine r_iload_n (pc := 14) dX6_together_14 rfl ?_
    refine r_callV (pc := 15) (N := mX6_isFormula) (rest := []) (s_isFormula_f X _ (u2 I 42 0 (nI 0)) L F f (hF) hf) okX6_isFormula lkX6_243 rfl (by decide) rfl rfl rfl (Nat.le_of_ble_eq_true rfl) ⟨Nat.le_refl _, Nat.le_refl _⟩ dX6_together_15 ?_
    refine r_ifN_ne (pc := 18) (tgt := 25) dX6_together_18 (by decide) (by omega) (fun c2 => ?_) (fun c2 => ?_)
    · exact absurd c2 (by decide)
    · refine r_ldc2 (pc := 21) dX6_together_21 kX6_211 ?_
      exact r_lret dX6_together_24 rfl (rfl) rfl
theorem q_left_s (X : Ctx) (d : Nat) (I : MI) (L : ML) (F k : Nat) (hF : I 42 8 = nI F) (hk : k < F) (hF4 : F ≤ 4) (s : Int32) (hs : s < nI 0 ∨ nI 63 < s) : Sp X mX6_left (d + 2) (0, 0) [.ref 42, .int (nI k), .int (s)] shF I L (some (.long (-9000000000000000000)), shF, (u2 I 42 0 (nI 0)), L) := by
  refine Sp.of okX6_left [.ref 42, .int (nI k), .int (s)] 0 rfl (Nat.le_of_ble_eq_true rfl) ?_
  refine r_aload_n (pc := 0) dX6_left_0 rfl ?_
  refine r_iconst (pc := 1) (v := nI 0) dX6_left_1 rfl ?_
  refine r_put (pc := 2) .int dX6_left_2 fX6_93 rfl rfl nf6_0 rfl rfl ?_
  refine r_aload_n (pc := 5) dX6_left_5 rfl ?_
  refine r_iload_n (pc := 6) dX6_left_6 rfl ?_
  refine r_callV (pc := 7) (N := mX6_isFormula) (rest := []) (s_isFormula_t X _ (u2 I 42 0 (nI 0)) L F k (hF) (by omega) hF4) okX6_isFormula lkX6_243 rfl (by decide) rfl rfl rfl (Nat.le_of_ble_eq_true rfl) ⟨Nat.le_refl _, Nat.le_refl _⟩ dX6_left_7 ?_
  refine r_ifN_eq (pc := 10) (tgt := 23) dX6_left_10 (by decide) (by omega) (fun c1 => ?_) (fun c1 => ?_)
  · exact absurd c1 (by decide)
  · refine r_iload_n (pc := 13) dX6_left_13 rfl ?_
    refine r_iconst (pc := 14) (v := nI 0) dX6_left_14 rfl ?_
    refine r_bipush (pc := 15) dX6_left_15 bp_63 ?_
    refine r_callS (pc := 17) (N := mX6_in) (rest := []) (s_in_f X _ (u2 I 42 0 (nI 0)) L s (nI 0) (nI 63) hs) okX6_in lkX6_97 rfl rfl (Nat.le_of_ble_eq_true rfl) ⟨Nat.le_refl _, Nat.le_refl _⟩ dX6_left_17 ?_
    refine r_ifN_ne (pc := 20) (tgt := 27) dX6_left_20 (by decide) (by omega) (fun c2 => ?_) (fun c2 => ?_)
    · exact absurd c2 (by decide)
    · refine r_ldc2 (pc := 23) dX6_left_23 kX6_211 ?_
      exact r_lret dX6_left_26 rfl (rfl) rfl
theorem q_first_s (X : Ctx) (d : Nat) (I : MI) (L : ML) (F k : Nat) (hF : I 42 8 = nI F) (hk : k < F) (hF4 : F ≤ 4) (s : Int32) (hs : s < nI 0 ∨ nI 1 < s) : Sp X mX6_first (d + 2) (0, 0) [.ref 42, .int (nI k), .int (s)] shF I L (some (.int (-1)), shF, (u2 I 42 0 (nI 0)), L) := by
  refine Sp.of okX6_first [.ref 42, .int (nI k), .int (s), .null, .null, .null, .null, .null, .null] 6 rfl (Nat.le_of_ble_eq_true rfl) ?_
  refine r_aload_n (pc := 0) dX6_first_0 rfl ?_
  refine r_iconst (pc := 1) (v := nI 0) dX6_first_1 rfl ?_
  refine r_put (pc := 2) .int dX6_first_2 fX6_93 rfl rfl nf6_0 rfl rfl ?_
  refine r_aload_n (pc := 5) dX6_first_5 rfl ?_
  refine r_iload_n (pc := 6) dX6_first_6 rfl ?_
  refine r_callV (pc := 7) (N := mX6_isFormula) (rest := []) (s_isFormula_t X _ (u2 I 42 0 (nI 0)) L F k (hF) (by omega) hF4) okX6_isFormula lkX6_243 rfl (by decide) rfl rfl rfl (Nat.le_of_ble_eq_true rfl) ⟨Nat.le_refl _, Nat.le_refl _⟩ dX6_first_7 ?_
  refine r_ifN_eq (pc := 10) (tgt := 22) dX6_first_10 (by decide) (by omega) (fun c1 => ?_) (fun c1 => ?_)
  · exact absurd c1 (by decide)
  · refine r_iload_n (pc := 13) dX6_first_13 rfl ?_
    refine r_iconst (pc := 14) (v := nI 0) dX6_first_14 rfl ?_
    refine r_iconst (pc := 15) (v := nI 1) dX6_first_15 rfl ?_
    refine r_callS (pc := 16) (N := mX6_in) (rest := []) (s_in_f X _ (u2 I 42 0 (nI 0)) L s (nI 0) (nI 1) hs) okX6_in lkX6_97 rfl rfl (Nat.le_of_ble_eq_true rfl) ⟨Nat.le_refl _, Nat.le_refl _⟩ dX6_first_16 ?_
    refine r_ifN_ne (pc := 19) (tgt := 24) dX6_first_19 (by decide) (by omega) (fun c2 => ?_) (fun c2 => ?_)
    · exact absurd c2 (by decide)
    · refine r_iconst (pc := 22) (v := -1) dX6_first_22 rfl ?_
      exact r_iret dX6_first_23 rfl (rfl) rfl
theorem q_formula_w (X : Ctx) (d : Nat) (I : MI) (L : ML) (F k : Nat) (hF : I 42 8 = nI F) (hk : k < F) (hF4 : F ≤ 4) (s : Int32) (hs : s < nI 0 ∨ nI 2 < s) : Sp X mX6_formula (d + 2) (0, 0) [.ref 42, .int (nI k), .int (s)] shF I L (some (.int (-1)), shF, (u2 I 42 0 (nI 0)), L) := by
  refine Sp.of okX6_formula [.ref 42, .int (nI k), .int (s), .null, .null] 2 rfl (Nat.le_of_ble_eq_true rfl) ?_
  refine r_aload_n (pc := 0) dX6_formula_0 rfl ?_
  refine r_iconst (pc := 1) (v := nI 0) dX6_formula_1 rfl ?_
  refine r_put (pc := 2) .int dX6_formula_2 fX6_93 rfl rfl nf6_0 rfl rfl ?_
  refine r_aload_n (pc := 5) dX6_formula_5 rfl ?_
  refine r_iload_n (pc := 6) dX6_formula_6 rfl ?_
  refine r_callV (pc := 7) (N := mX6_isFormula) (rest := []) (s_isFormula_t X _ (u2 I 42 0 (nI 0)) L F k (hF) (by omega) hF4) okX6_isFormula lkX6_243 rfl (by decide) rfl rfl rfl (Nat.le_of_ble_eq_true rfl) ⟨Nat.le_refl _, Nat.le_refl _⟩ dX6_formula_7 ?_
  refine r_ifN_eq (pc := 10) (tgt := 22) dX6_formula_10 (by decide) (by omega) (fun c1 => ?_) (fun c1 => ?_)
  · exact absurd c1 (by decide)
  · refine r_iload_n (pc := 13) dX6_formula_13 rfl ?_
    refine r_iconst (pc := 14) (v := nI 0) dX6_formula_14 rfl ?_
    refine r_iconst (pc := 15) (v := nI 2) dX6_formula_15 rfl ?_
    refine r_callS (pc := 16) (N := mX6_in) (rest := []) (s_in_f X _ (u2 I 42 0 (nI 0)) L s (nI 0) (nI 2) hs) okX6_in lkX6_97 rfl rfl (Nat.le_of_ble_eq_true rfl) ⟨Nat.le_refl _, Nat.le_refl _⟩ dX6_formula_16 ?_
    refine r_ifN_ne (pc := 19) (tgt := 24) dX6_formula_19 (by decide) (by omega) (fun c2 => ?_) (fun c2 => ?_)
    · exact absurd c2 (by decide)
    · refine r_iconst (pc := 22) (v := -1) dX6_formula_22 rfl ?_
      exact r_iret dX6_formula_23 rfl (rfl) rfl
theorem q_unseen_f (X : Ctx) (d : Nat) (I : MI) (L : ML) (x : Int32) (hm : x < -20 ∨ nI 20 < x) : Sp X mX6_unseen (d + 1) (0, 0) [.ref 42, .int (x)] shF I L (some (.int (-1)), shF, (u2 I 42 0 (nI 0)), L) := by
  refine Sp.of okX6_unseen [.ref 42, .int (x), .null, .null, .null, .null] 4 rfl (Nat.le_of_ble_eq_true rfl) ?_
  refine r_aload_n (pc := 0) dX6_unseen_0 rfl ?_
  refine r_iconst (pc := 1) (v := nI 0) dX6_unseen_1 rfl ?_
  refine r_put (pc := 2) .int dX6_unseen_2 fX6_93 rfl rfl nf6_0 rfl rfl ?_
  refine r_iload_n (pc := 5) dX6_unseen_5 rfl ?_
  refine r_bipush (pc := 6) dX6_unseen_6 bp_m20 ?_
  refine r_bipush (pc := 8) dX6_unseen_8 bp_20 ?_
  refine r_callS (pc := 10) (N := mX6_in) (rest := []) (s_in_f X _ (u2 I 42 0 (nI 0)) L x (-20) (nI 20) hm) okX6_in lkX6_97 rfl rfl (Nat.le_of_ble_eq_true rfl) ⟨Nat.le_refl _, Nat.le_refl _⟩ dX6_unseen_10 ?_
  refine r_ifN_ne (pc := 13) (tgt := 18) dX6_unseen_13 (by decide) (by omega) (fun c1 => ?_) (fun c1 => ?_)
  · exact absurd c1 (by decide)
  · refine r_iconst (pc := 16) (v := -1) dX6_unseen_16 rfl ?_
    exact r_iret dX6_unseen_17 rfl (rfl) rfl
