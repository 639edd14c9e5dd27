/-- the reference's draft holds the formulas -/
def TPm (I : MI) (fs : List (List Q4)) : Prop := I 42 14 = nI fs.length ∧ fs.length ≤ 4 ∧ ∀ g, g < fs.length → 1 ≤ (fs.getD g []).length ∧ (fs.getD g []).length ≤ 20 ∧ I 49 g = nI (fs.getD g []).length ∧ ∀ (k : Nat) (q : Q4), (fs.getD g [])[k]? = some q → MDn I q (20 * g + k) ∧ NDok q g k
theorem TPm.fr {I J : MI} {fs : List (List Q4)} (h : TPm I fs) (h14 : J 42 14 = I 42 14) (hc : ∀ c j, 49 ≤ c → c ≤ 53 → J c j = I c j) : TPm J fs := ⟨h14.trans h.1, h.2.1, fun g hg => ⟨(h.2.2 g hg).1, (h.2.2 g hg).2.1, (hc 49 g (by decide) (by decide)).trans (h.2.2 g hg).2.2.1, fun k q hk => ⟨((h.2.2 g hg).2.2.2 k q hk).1.fr (fun c c1 c2 => hc c _ (by omega) c2), ((h.2.2 g hg).2.2.2 k q hk).2⟩⟩⟩
theorem TPm.more {I J : MI} {fs : List (List Q4)} {l : List Q4} {i c op : Nat} (h : TPm I fs) (h4 : fs.length < 4) (hF : FRq fs.length I J) (hS : SM J fs.length c l [i] [] op 1) : TPm (u2 J 42 14 (nI (fs.length + 1))) (fs ++ [l]) := by
  have hlen : (fs ++ [l]).length = fs.length + 1 := List.length_append
  obtain ⟨⟨a1, a2, a3, a4, a5, a6, a7, a8, a9⟩, i1, i2, i3, i4, i5, i6, i7, i8, i9, i10⟩ := hS
  have hl1 := i8 i (List.mem_cons_self ..)
  refine ⟨by rw [hlen]; rfl, by omega, fun g hg => ?_⟩
  by_cases hgF : g < fs.length
  · have e1 : (fs ++ [l]).getD g [] = fs.getD g [] := by rw [List.getD_eq_getElem?_getD, List.getD_eq_getElem?_getD, List.getElem?_append_left hgF]
    rw [e1]
    obtain ⟨f1, f2, f3, f4⟩ := h.2.2 g hgF
    refine ⟨f1, f2, (hF 49 g (by omega) (by omega) (by omega) (by decide) (by decide)).trans f3, fun k q hk => ⟨?_, (f4 k q hk).2⟩⟩
    have hkl := (List.getElem?_eq_some_iff.mp hk).1
    exact (f4 k q hk).1.fr (fun c c1 c2 => (u2_ne (by omega)).trans (hF c _ (by omega) (by omega) (by omega) (by omega) (by omega)))
  · have hge : g = fs.length := by omega
    subst hge
    have e1 : (fs ++ [l]).getD fs.length [] = l := by rw [List.getD_eq_getElem?_getD, List.getElem?_append_right (Nat.le_refl _), Nat.sub_self]; rfl
    rw [e1]
    exact ⟨by omega, by omega, a2, fun k q hk => ⟨(a7 k q hk).fr (fun c c1 c2 => u2_ne (by omega)), i9 k q hk⟩⟩
def cp4 (I : MI) (n : Nat) : MI := fun c => if 45 ≤ c ∧ c ≤ 48 then (fun j => if j < n then I (c + 5) j else I c j) else I c
theorem cp4_0 (I : MI) : cp4 I 0 = I := by
  funext c
  unfold cp4
  by_cases h : 45 ≤ c ∧ c ≤ 48
  · rw [if_pos h]; exact ite_lt0 _ _
  · rw [if_neg h]
theorem cp4_s (I : MI) (n : Nat) : u2 (u2 (u2 (u2 (cp4 I n) 45 n (I 50 n)) 46 n (I 51 n)) 47 n (I 52 n)) 48 n (I 53 n) = cp4 I (n + 1) := by
  funext c j
  by_cases h5 : c = 45
  · subst h5; exact ite_step (I 50) (I 45) n j
  by_cases h6 : c = 46
  · subst h6; exact ite_step (I 51) (I 46) n j
  by_cases h7 : c = 47
  · subst h7; exact ite_step (I 52) (I 47) n j
  by_cases h8 : c = 48
  · subst h8; exact ite_step (I 53) (I 48) n j
  · rw [u2_off h8, u2_off h7, u2_off h6, u2_off h5]
    unfold cp4
    rw [if_neg (by omega), if_neg (by omega)]
def szF (I : MI) (F n : Nat) : MI := fun c => if c = 44 then (fun j => if j < n then (if j < F then I 49 j else nI 0) else I 44 j) else I c
theorem szF_0 (I : MI) (F : Nat) : szF I F 0 = I := by
  funext c
  unfold szF
  by_cases h : c = 44
  · rw [if_pos h, h]; exact ite_lt0 (fun j => if j < F then I 49 j else nI 0) _
  · rw [if_neg h]
theorem szF_s (I : MI) (F n : Nat) {x : Int32} (hx : x = if n < F then I 49 n else nI 0) : u2 (szF I F n) 44 n x = szF I F (n + 1) := by
  subst hx
  funext c j
  by_cases h : c = 44
  · subst h; exact ite_step (fun j => if j < F then I 49 j else nI 0) (I 44) n j
  · rw [u2_off h]
    unfold szF
    rw [if_neg h, if_neg h]
theorem szF_st (I : MI) (F n : Nat) (h : n < F) : u2 (szF I F n) 44 n ((szF I F n) 49 n) = szF I F (n + 1) := szF_s I F n (if_pos h).symm
theorem szF_sf (I : MI) (F n : Nat) (h : ¬ n < F) : u2 (szF I F n) 44 n (nI 0) = szF I F (n + 1) := szF_s I F n (if_neg h).symm
theorem lp_begins (X : Ctx) (d : Nat) (I : MI) (L : ML)  : ∀ (n i : Nat), i + n = 48 → Ev X mX6_begins (d + 0) (0, 0) (0, 0) (none, shF, (u2 (flA I 54 48 (nI 0)) 42 14 (nI 0)), L) 2 [.ref 42, .int (nI i)] [] shF (flA I 54 i (nI 0)) L := by
  intro n
  induction n with
  | zero =>
    intro i hi
    have hi2 : i = 48 := by omega
    rw [hi2]
    refine r_iload_n (pc := 2) dX6_begins_2 rfl ?_
    refine r_bipush (pc := 3) dX6_begins_3 bp_48 ?_
    refine r_icmpN_ge (pc := 5) (tgt := 21) dX6_begins_5 (by decide) (by omega) (by omega) (fun c1 => ?_) (fun c1 => ?_)
    · refine r_aload_n (pc := 21) dX6_begins_21 rfl ?_
      refine r_iconst (pc := 22) (v := nI 0) dX6_begins_22 rfl ?_
      refine r_put (pc := 23) .int dX6_begins_23 fX6_145 rfl rfl nf6_14 rfl rfl ?_
      exact r_vret dX6_begins_26 rfl (rfl) rfl
    · exact absurd c1 (by decide)
  | succ n ih =>
    intro i hi
    refine r_iload_n (pc := 2) dX6_begins_2 rfl ?_
    refine r_bipush (pc := 3) dX6_begins_3 bp_48 ?_
    refine r_icmpN_ge (pc := 5) (tgt := 21) dX6_begins_5 (by decide) (by omega) (by omega) (fun c2 => ?_) (fun c2 => ?_)
    · exact absurd c2 (by omega)
    · refine r_aload_n (pc := 8) dX6_begins_8 rfl ?_
      refine r_getR (pc := 9) (b := 54) dX6_begins_9 fX6_43 rfl rfl ?_
      refine r_iload_n (pc := 12) dX6_begins_12 rfl ?_
      refine r_iconst (pc := 13) (v := nI 0) dX6_begins_13 rfl ?_
      refine r_iast (pc := 14) (j := i) dX6_begins_14 rfl rfl (by omega) (by decide) ?_
      refine r_iinc (pc := 15) (v := nI (i + 1)) (lo1 := [.ref 42, .int (nI (i + 1))]) dX6_begins_15 rfl rfl (ii1 _) (by decide) rfl ?_
      refine r_goto (pc := 18) (tgt := 2) dX6_begins_18 (by decide) ?_
      refine r_I (I' := (flA I 54 (i + 1) (nI 0))) (flA_s _ _ _ _) ?_
      exact ih (i + 1) (by omega)
theorem s_begins (X : Ctx) (d : Nat) (I : MI) (L : ML)  : Sp X mX6_begins (d + 0) (0, 0) [.ref 42] shF I L (none, shF, (u2 (flA I 54 48 (nI 0)) 42 14 (nI 0)), L) := by
  refine Sp.of okX6_begins [.ref 42, .null] 1 rfl (Nat.le_of_ble_eq_true rfl) ?_
  refine r_iconst (pc := 0) (v := nI 0) dX6_begins_0 rfl ?_
  refine r_istore_n (pc := 1) (lo1 := [.ref 42, .int (nI 0)]) dX6_begins_1 rfl (by decide) rfl ?_
  refine r_I (flA_0 _ 54 (nI 0)).symm ?_
  exact lp_begins X d I L 48 0 rfl
theorem lp_set_c (X : Ctx) (d : Nat) (I : MI) (L : ML) (F : Nat) (h14 : I 42 14 = nI F) (hF4 : F ≤ 4) : ∀ (n i : Nat), i + n = 48 → Ev X mX6_settles (d + 0) (0, 0) (0, 0) (none, shF, (u2 (u2 (u2 (u2 (u2 (cpA (cp4 (szF (u2 I 42 8 (nI F)) F 4) 80) 55 54 48) 42 2 (nI 0)) 42 28 (nI 0)) 42 23 (nI 0)) 58 0 (nI 0)) 58 1 (nI 0)), L) 109 [.ref 42, .int (nI i)] [] shF (cpA (cp4 (szF (u2 I 42 8 (nI F)) F 4) 80) 55 54 i) L := by
  intro n
  induction n with
  | zero =>
    intro i hi
    have hi2 : i = 48 := by omega
    rw [hi2]
    refine r_iload_n (pc := 109) dX6_settles_109 rfl ?_
    refine r_bipush (pc := 110) dX6_settles_110 bp_48 ?_
    refine r_icmpN_ge (pc := 112) (tgt := 133) dX6_settles_112 (by decide) (by omega) (by omega) (fun c1 => ?_) (fun c1 => ?_)
    · refine r_aload_n (pc := 133) dX6_settles_133 rfl ?_
      refine r_iconst (pc := 134) (v := nI 0) dX6_settles_134 rfl ?_
      refine r_put (pc := 135) .int dX6_settles_135 fX6_101 rfl rfl nf6_2 rfl rfl ?_
      refine r_aload_n (pc := 138) dX6_settles_138 rfl ?_
      refine r_iconst (pc := 139) (v := nI 0) dX6_settles_139 rfl ?_
      refine r_put (pc := 140) .int dX6_settles_140 fX6_202 rfl rfl nf6_28 rfl rfl ?_
      refine r_aload_n (pc := 143) dX6_settles_143 rfl ?_
      refine r_iconst (pc := 144) (v := nI 0) dX6_settles_144 rfl ?_
      refine r_put (pc := 145) .int dX6_settles_145 fX6_205 rfl rfl nf6_23 rfl rfl ?_
      refine r_aload_n (pc := 148) dX6_settles_148 rfl ?_
      refine r_getR (pc := 149) (b := 58) dX6_settles_149 fX6_55 rfl rfl ?_
      refine r_iconst (pc := 152) (v := nI 0) dX6_settles_152 rfl ?_
      refine r_iconst (pc := 153) (v := nI 0) dX6_settles_153 rfl ?_
      refine r_zast (pc := 154) (j := 0) dX6_settles_154 rfl rfl (by omega) (by decide) (by decide) ?_
      refine r_aload_n (pc := 155) dX6_settles_155 rfl ?_
      refine r_getR (pc := 156) (b := 58) dX6_settles_156 fX6_55 rfl rfl ?_
      refine r_iconst (pc := 159) (v := nI 1) dX6_settles_159 rfl ?_
      refine r_iconst (pc := 160) (v := nI 0) dX6_settles_160 rfl ?_
      refine r_zast (pc := 161) (j := 1) dX6_settles_161 rfl rfl (by omega) (by decide) (by decide) ?_
      exact r_vret dX6_settles_162 rfl (rfl) rfl
    · exact absurd c1 (by decide)
  | succ n ih =>
    intro i hi
    refine r_iload_n (pc := 109) dX6_settles_109 rfl ?_
    refine r_bipush (pc := 110) dX6_settles_110 bp_48 ?_
    refine r_icmpN_ge (pc := 112) (tgt := 133) dX6_settles_112 (by decide) (by omega) (by omega) (fun c2 => ?_) (fun c2 => ?_)
    · exact absurd c2 (by omega)
    · refine r_aload_n (pc := 115) dX6_settles_115 rfl ?_
      refine r_getR (pc := 116) (b := 55) dX6_settles_116 fX6_46 rfl rfl ?_
      refine r_iload_n (pc := 119) dX6_settles_119 rfl ?_
      refine r_aload_n (pc := 120) dX6_settles_120 rfl ?_
      refine r_getR (pc := 121) (b := 54) dX6_settles_121 fX6_43 rfl rfl ?_
      refine r_iload_n (pc := 124) dX6_settles_124 rfl ?_
      refine r_iald (pc := 125) (j := i) dX6_settles_125 rfl rfl (by omega) (by decide) ?_
      refine r_iast (pc := 126) (j := i) dX6_settles_126 rfl rfl (by omega) (by decide) ?_
      refine r_iinc (pc := 127) (v := nI (i + 1)) (lo1 := [.ref 42, .int (nI (i + 1))]) dX6_settles_127 rfl rfl (ii1 _) (by decide) rfl ?_
      refine r_goto (pc := 130) (tgt := 109) dX6_settles_130 (by decide) ?_
      refine r_I (I' := (cpA (cp4 (szF (u2 I 42 8 (nI F)) F 4) 80) 55 54 (i + 1))) (cpA_s _ _ (by decide)) ?_
      exact ih (i + 1) (by omega)
theorem lp_set_b (X : Ctx) (d : Nat) (I : MI) (L : ML) (F : Nat) (h14 : I 42 14 = nI F) (hF4 : F ≤ 4) : ∀ (n i : Nat), i + n = 80 → Ev X mX6_settles (d + 0) (0, 0) (0, 0) (none, shF, (u2 (u2 (u2 (u2 (u2 (cpA (cp4 (szF (u2 I 42 8 (nI F)) F 4) 80) 55 54 48) 42 2 (nI 0)) 42 28 (nI 0)) 42 23 (nI 0)) 58 0 (nI 0)) 58 1 (nI 0)), L) 47 [.ref 42, .int (nI i)] [] shF (cp4 (szF (u2 I 42 8 (nI F)) F 4) i) L := by
  intro n
  induction n with
  | zero =>
    intro i hi
    have hi2 : i = 80 := by omega
    rw [hi2]
    refine r_iload_n (pc := 47) dX6_settles_47 rfl ?_
    refine r_bipush (pc := 48) dX6_settles_48 bp_80 ?_
    refine r_icmpN_ge (pc := 50) (tgt := 107) dX6_settles_50 (by decide) (by omega) (by omega) (fun c3 => ?_) (fun c3 => ?_)
    · refine r_iconst (pc := 107) (v := nI 0) dX6_settles_107 rfl ?_
      refine r_istore_n (pc := 108) (lo1 := [.ref 42, .int (nI 0)]) dX6_settles_108 rfl (by decide) rfl ?_
      refine r_I (cpA_0 _ 55 54).symm ?_
      exact lp_set_c X d I L F h14 hF4 48 0 rfl
    · exact absurd c3 (by decide)
  | succ n ih =>
    intro i hi
    refine r_iload_n (pc := 47) dX6_settles_47 rfl ?_
    refine r_bipush (pc := 48) dX6_settles_48 bp_80 ?_
    refine r_icmpN_ge (pc := 50) (tgt := 107) dX6_settles_50 (by decide) (by omega) (by omega) (fun c4 => ?_) (fun c4 => ?_)
    · exact absurd c4 (by omega)
    · refine r_aload_n (pc := 53) dX6_settles_53 rfl ?_
      refine r_getR (pc := 54) (b := 45) dX6_settles_54 fX6_16 rfl rfl ?_
      refine r_iload_n (pc := 57) dX6_settles_57 rfl ?_
      refine r_aload_n (pc := 58) dX6_settles_58 rfl ?_
      refine r_getR (pc := 59) (b := 50) dX6_settles_59 fX6_31 rfl rfl ?_
      refine r_iload_n (pc := 62) dX6_settles_62 rfl ?_
      refine r_iald (pc := 63) (j := i) dX6_settles_63 rfl rfl (by omega) (by decide) ?_
      refine r_iast (pc := 64) (j := i) dX6_settles_64 rfl rfl (by omega) (by decide) ?_
      refine r_aload_n (pc := 65) dX6_settles_65 rfl ?_
      refine r_getR (pc := 66) (b := 46) dX6_settles_66 fX6_19 rfl rfl ?_
      refine r_iload_n (pc := 69) dX6_settles_69 rfl ?_
      refine r_aload_n (pc := 70) dX6_settles_70 rfl ?_
      refine r_getR (pc := 71) (b := 51) dX6_settles_71 fX6_34 rfl rfl ?_
      refine r_iload_n (pc := 74) dX6_settles_74 rfl ?_
      refine r_iald (pc := 75) (j := i) dX6_settles_75 rfl rfl (by omega) (by decide) ?_
      refine r_iast (pc := 76) (j := i) dX6_settles_76 rfl rfl (by omega) (by decide) ?_
      refine r_aload_n (pc := 77) dX6_settles_77 rfl ?_
      refine r_getR (pc := 78) (b := 47) dX6_settles_78 fX6_22 rfl rfl ?_
      refine r_iload_n (pc := 81) dX6_settles_81 rfl ?_
      refine r_aload_n (pc := 82) dX6_settles_82 rfl ?_
      refine r_getR (pc := 83) (b := 52) dX6_settles_83 fX6_37 rfl rfl ?_
      refine r_iload_n (pc := 86) dX6_settles_86 rfl ?_
      refine r_iald (pc := 87) (j := i) dX6_settles_87 rfl rfl (by omega) (by decide) ?_
      refine r_iast (pc := 88) (j := i) dX6_settles_88 rfl rfl (by omega) (by decide) ?_
      refine r_aload_n (pc := 89) dX6_settles_89 rfl ?_
      refine r_getR (pc := 90) (b := 48) dX6_settles_90 fX6_25 rfl rfl ?_
      refine r_iload_n (pc := 93) dX6_settles_93 rfl ?_
      refine r_aload_n (pc := 94) dX6_settles_94 rfl ?_
      refine r_getR (pc := 95) (b := 53) dX6_settles_95 fX6_40 rfl rfl ?_
      refine r_iload_n (pc := 98) dX6_settles_98 rfl ?_
      refine r_iald (pc := 99) (j := i) dX6_settles_99 rfl rfl (by omega) (by decide) ?_
      refine r_iast (pc := 100) (j := i) dX6_settles_100 rfl rfl (by omega) (by decide) ?_
      refine r_iinc (pc := 101) (v := nI (i + 1)) (lo1 := [.ref 42, .int (nI (i + 1))]) dX6_settles_101 rfl rfl (ii1 _) (by decide) rfl ?_
      refine r_goto (pc := 104) (tgt := 47) dX6_settles_104 (by decide) ?_
      refine r_I (I' := (cp4 (szF (u2 I 42 8 (nI F)) F 4) (i + 1))) (cp4_s _ _) ?_
      exact ih (i + 1) (by omega)
theorem lp_set_a (X : Ctx) (d : Nat) (I : MI) (L : ML) (F : Nat) (h14 : I 42 14 = nI F) (hF4 : F ≤ 4) : ∀ (n i : Nat), i + n = 4 → Ev X mX6_settles (d + 0) (0, 0) (0, 0) (none, shF, (u2 (u2 (u2 (u2 (u2 (cpA (cp4 (szF (u2 I 42 8 (nI F)) F 4) 80) 55 54 48) 42 2 (nI 0)) 42 28 (nI 0)) 42 23 (nI 0)) 58 0 (nI 0)) 58 1 (nI 0)), L) 10 [.ref 42, .int (nI i)] [] shF (szF (u2 I 42 8 (nI F)) F i) L := by
  intro n
  induction n with
  | zero =>
    intro i hi
    have hi2 : i = 4 := by omega
    rw [hi2]
    refine r_iload_n (pc := 10) dX6_settles_10 rfl ?_
    refine r_iconst (pc := 11) (v := nI 4) dX6_settles_11 rfl ?_
    refine r_icmpN_ge (pc := 12) (tgt := 45) dX6_settles_12 (by decide) (by omega) (by omega) (fun c5 => ?_) (fun c5 => ?_)
    · refine r_iconst (pc := 45) (v := nI 0) dX6_settles_45 rfl ?_
      refine r_istore_n (pc := 46) (lo1 := [.ref 42, .int (nI 0)]) dX6_settles_46 rfl (by decide) rfl ?_
      refine r_I (cp4_0 _).symm ?_
      exact lp_set_b X d I L F h14 hF4 80 0 rfl
    · exact absurd c5 (by decide)
  | succ n ih =>
    intro i hi
    refine r_iload_n (pc := 10) dX6_settles_10 rfl ?_
    refine r_iconst (pc := 11) (v := nI 4) dX6_settles_11 rfl ?_
    refine r_icmpN_ge (pc := 12) (tgt := 45) dX6_settles_12 (by decide) (by omega) (by omega) (fun c6 => ?_) (fun c6 => ?_)
    · exact absurd c6 (by omega)
    · refine r_aload_n (pc := 15) dX6_settles_15 rfl ?_
      refine r_getR (pc := 16) (b := 44) dX6_settles_16 fX6_13 rfl rfl ?_
      refine r_iload_n (pc := 19) dX6_settles_19 rfl ?_
      refine r_iload_n (pc := 20) dX6_settles_20 rfl ?_
      refine r_aload_n (pc := 21) dX6_settles_21 rfl ?_
      refine r_getV (pc := 22) (v := nI F) dX6_settles_22 fX6_199 rfl rfl (rfl) ?_
      refine r_icmpN_ge (pc := 25) (tgt := 37) dX6_settles_25 (by decide) (by omega) (by omega) (fun c7 => ?_) (fun c7 => ?_)
      · refine r_iconst (pc := 37) (v := nI 0) dX6_settles_37 rfl ?_
        refine r_iast (pc := 38) (j := i) dX6_settles_38 rfl rfl (by omega) (by decide) ?_
        refine r_iinc (pc := 39) (v := nI (i + 1)) (lo1 := [.ref 42, .int (nI (i + 1))]) dX6_settles_39 rfl rfl (ii1 _) (by decide) rfl ?_
        refine r_goto (pc := 42) (tgt := 10) dX6_settles_42 (by decide) ?_
        refine r_I (I' := (szF (u2 I 42 8 (nI F)) F (i + 1))) (by first | exact szF_st _ _ _ (by omega) | exact szF_sf _ _ _ (by omega)) ?_
        exact ih (i + 1) (by omega)
      · refine r_aload_n (pc := 28) dX6_settles_28 rfl ?_
        refine r_getR (pc := 29) (b := 49) dX6_settles_29 fX6_28 rfl rfl ?_
        refine r_iload_n (pc := 32) dX6_settles_32 rfl ?_
        refine r_iald (pc := 33) (j := i) dX6_settles_33 rfl rfl (by omega) (by decide) ?_
        refine r_goto (pc := 34) (tgt := 38) dX6_settles_34 (by decide) ?_
        refine r_iast (pc := 38) (j := i) dX6_settles_38 rfl rfl (by omega) (by decide) ?_
        refine r_iinc (pc := 39) (v := nI (i + 1)) (lo1 := [.ref 42, .int (nI (i + 1))]) dX6_settles_39 rfl rfl (ii1 _) (by decide) rfl ?_
        refine r_goto (pc := 42) (tgt := 10) dX6_settles_42 (by decide) ?_
        refine r_I (I' := (szF (u2 I 42 8 (nI F)) F (i + 1))) (by first | exact szF_st _ _ _ (by omega) | exact szF_sf _ _ _ (by omega)) ?_
        exact ih (i + 1) (by omega)
theorem s_settles (X : Ctx) (d : Nat) (I : MI) (L : ML) (F : Nat) (h14 : I 42 14 = nI F) (hF4 : F ≤ 4) : Sp X mX6_settles (d + 0) (0, 0) [.ref 42] shF I L (none, shF, (u2 (u2 (u2 (u2 (u2 (cpA (cp4 (szF (u2 I 42 8 (nI F)) F 4) 80) 55 54 48) 42 2 (nI 0)) 42 28 (nI 0)) 42 23 (nI 0)) 58 0 (nI 0)) 58 1 (nI 0)), L) := by
  refine Sp.of okX6_settles [.ref 42, .null] 1 rfl (Nat.le_of_ble_eq_true rfl) ?_
  refine r_aload_n (pc := 0) dX6_settles_0 rfl ?_
  refine r_aload_n (pc := 1) dX6_settles_1 rfl ?_
  refine r_getV (pc := 2) (v := nI F) dX6_settles_2 fX6_145 rfl rfl (h14) ?_
  refine r_put (pc := 5) .int dX6_settles_5 fX6_199 rfl rfl nf6_8 rfl rfl ?_
  refine r_iconst (pc := 8) (v := nI 0) dX6_settles_8 rfl ?_
  refine r_istore_n (pc := 9) (lo1 := [.ref 42, .int (nI 0)]) dX6_settles_9 rfl (by decide) rfl ?_
  refine r_I (szF_0 _ F).symm ?_
  exact lp_set_a X d I L F h14 hF4 4 0 rfl
abbrev setM (I : MI) (F : Nat) : MI := (u2 (u2 (u2 (u2 (u2 (cpA (cp4 (szF (u2 I 42 8 (nI F)) F 4) 80) 55 54 48) 42 2 (nI 0)) 42 28 (nI 0)) 42 23 (nI 0)) 58 0 (nI 0)) 58 1 (nI 0))
