def fmS (q : Nat × Nat × Nat × Nat) (g : Nat) (M : MI) : MI := u2 (u2 M 66 g (M 66 g + (if q.1 = 2 then M 66 q.2.1 else nI 0))) 67 g (M 67 g ||| (if q.1 = 2 then M 67 q.2.1 else if q.1 = 1 then nI 1 <<< (nI q.2.1 &&& 31) else nI 0))
theorem fmS_2 {q : Nat × Nat × Nat × Nat} {g : Nat} {M : MI} (h : q.1 = 2) : fmS q g M = u2 (u2 M 66 g (M 66 g + M 66 q.2.1)) 67 g (M 67 g ||| M 67 q.2.1) := by
  unfold fmS
  rw [if_pos h, if_pos h]
theorem fmS_1 {q : Nat × Nat × Nat × Nat} {g : Nat} {M : MI} (h : q.1 = 1) : fmS q g M = u2 (u2 M 66 g (M 66 g + nI 0)) 67 g (M 67 g ||| (nI 1 <<< (nI q.2.1 &&& 31))) := by
  unfold fmS
  rw [if_neg (by omega), if_neg (by omega), if_pos h]
theorem fmS_0 {q : Nat × Nat × Nat × Nat} {g : Nat} {M : MI} (h : ¬ q.1 = 1) (h2 : ¬ q.1 = 2) : fmS q g M = u2 (u2 M 66 g (M 66 g + nI 0)) 67 g (M 67 g ||| nI 0) := by
  unfold fmS
  rw [if_neg h2, if_neg h2, if_neg h]
def fmI (nd : Nat → Nat → Nat × Nat × Nat × Nat) (sz : Nat → Nat) (g : Nat) (M : MI) : Nat → MI
  | 0 => u2 (u2 M 66 g (nI (sz g))) 67 g (nI 0)
  | e + 1 => fmS (nd g e) g (fmI nd sz g M e)
def foI (nd : Nat → Nat → Nat × Nat × Nat × Nat) (sz : Nat → Nat) (M : MI) : Nat → MI
  | 0 => M
  | g + 1 => fmI nd sz g (foI nd sz M g) (sz g)
theorem u2_agree {I : MI} {c j c' : Nat} {x : Int32} (h : c' ≠ c) : u2 I c j x c' = I c' := u2_off h
theorem fmI_off (nd : Nat → Nat → Nat × Nat × Nat × Nat) (sz : Nat → Nat) (g : Nat) (M : MI) {c : Nat} (h : c ≠ 66) (h2 : c ≠ 67) : ∀ e, fmI nd sz g M e c = M c
  | 0 => by unfold fmI; rw [u2_off h2, u2_off h]
  | e + 1 => by unfold fmI fmS; rw [u2_off h2, u2_off h]; exact fmI_off nd sz g M h h2 e
theorem foI_off (nd : Nat → Nat → Nat × Nat × Nat × Nat) (sz : Nat → Nat) (M : MI) {c : Nat} (h : c ≠ 66) (h2 : c ≠ 67) : ∀ g, foI nd sz M g c = M c
  | 0 => rfl
  | g + 1 => by unfold foI; rw [fmI_off nd sz g _ h h2]; exact foI_off nd sz M h h2 g
theorem lp_formula_in (X : Ctx) (d : Nat) (M : MI) (L : ML) (F : Nat) (sz : Nat → Nat) (nd : Nat → Nat → Nat × Nat × Nat × Nat) (hR : MR M F sz nd) (f g : Nat) (w : Int32) (hg : g < F) (T : TR) (K : Ev X mX6_formula (d + 2) (0, 0) (0, 0) T 26 [.ref 42, .int (nI f), .int w, .int (nI (g + 1)), .null] [] shF (fmI nd sz g M (sz g)) L) : ∀ (z e : Nat), e + z = sz g → Ev X mX6_formula (d + 2) (0, 0) (0, 0) T 56 [.ref 42, .int (nI f), .int w, .int (nI g), .int (nI (20 * g + e))] [] shF (fmI nd sz g M e) L := by
  obtain ⟨hF, hF4, hall⟩ := hR
  obtain ⟨hs, hs1, hs20, hnd⟩ := hall g hg
  intro z
  induction z with
  | zero =>
    intro e he
    have he2 : e = sz g := by omega
    rw [he2]
    refine r_iload (pc := 56) dX6_formula_56 rfl ?_
    refine r_bipush (pc := 58) dX6_formula_58 bp_20 ?_
    refine r_iload_n (pc := 60) dX6_formula_60 rfl ?_
    refine r_imulN (pc := 61) dX6_formula_61 ?_
    refine r_aload_n (pc := 62) dX6_formula_62 rfl ?_
    refine r_getR (pc := 63) (b := 44) dX6_formula_63 fX6_13 rfl rfl ?_
    refine r_iload_n (pc := 66) dX6_formula_66 rfl ?_
    refine r_ialdV (pc := 67) (j := g) (v := nI (sz g)) dX6_formula_67 rfl rfl (by omega) (by decide) (((congrFun (fmI_off nd sz g M (c := 44) (by decide) (by decide) (sz g)) _).trans hs)) ?_
    refine r_iaddN (pc := 68) dX6_formula_68 ?_
    refine r_icmpN_ge (pc := 69) (tgt := 173) dX6_formula_69 (by decide) (by omega) (by omega) (fun c1 => ?_) (fun c1 => ?_)
    · refine r_iinc (pc := 173) (v := nI (g + 1)) (lo1 := [.ref 42, .int (nI f), .int (w), .int (nI (g + 1)), .int (nI (20 * g + sz g))]) dX6_formula_173 rfl rfl (ii1 _) (by decide) rfl ?_
      refine r_goto (pc := 176) (tgt := 26) dX6_formula_176 (by decide) ?_
      refine r_drop (lo1 := [.ref 42, .int (nI f), .int w, .int (nI (g + 1)), .null]) 4 rfl ?_
      exact K
    · exact absurd c1 (by omega)
  | succ z ih =>
    intro e he
    obtain ⟨hok, h45, h46, -⟩ := hnd e (by omega)
    have ha : (nd g e).1 = 2 → (nd g e).2.1 < g := by intro q; rcases hok with h | h | h | h | h | h <;> omega
    have hso : (nd g e).1 < 200 := by rcases hok with h | h | h | h | h | h <;> omega
    rcases (by omega : (nd g e).1 = 2 ∨ (nd g e).1 = 1 ∨ (¬ (nd g e).1 = 1 ∧ ¬ (nd g e).1 = 2)) with q | q | ⟨q, q2⟩
    · refine r_iload (pc := 56) dX6_formula_56 rfl ?_
      refine r_bipush (pc := 58) dX6_formula_58 bp_20 ?_
      refine r_iload_n (pc := 60) dX6_formula_60 rfl ?_
      refine r_imulN (pc := 61) dX6_formula_61 ?_
      refine r_aload_n (pc := 62) dX6_formula_62 rfl ?_
      refine r_getR (pc := 63) (b := 44) dX6_formula_63 fX6_13 rfl rfl ?_
      refine r_iload_n (pc := 66) dX6_formula_66 rfl ?_
      refine r_ialdV (pc := 67) (j := g) (v := nI (sz g)) dX6_formula_67 rfl rfl (by omega) (by decide) (((congrFun (fmI_off nd sz g M (c := 44) (by decide) (by decide) e) _).trans hs)) ?_
      refine r_iaddN (pc := 68) dX6_formula_68 ?_
      refine r_icmpN_ge (pc := 69) (tgt := 173) dX6_formula_69 (by decide) (by omega) (by omega) (fun c1 => ?_) (fun c1 => ?_)
      · exact absurd c1 (by omega)
      · refine r_aload_n (pc := 72) dX6_formula_72 rfl ?_
        refine r_getR (pc := 73) (b := 66) dX6_formula_73 fX6_81 rfl rfl ?_
        refine r_iload_n (pc := 76) dX6_formula_76 rfl ?_
        refine r_dup2 (pc := 77) dX6_formula_77 rfl rfl ?_
        refine r_iald (pc := 78) (j := g) dX6_formula_78 rfl rfl (by omega) (by decide) ?_
        refine r_aload_n (pc := 79) dX6_formula_79 rfl ?_
        refine r_getR (pc := 80) (b := 45) dX6_formula_80 fX6_16 rfl rfl ?_
        refine r_iload (pc := 83) dX6_formula_83 rfl ?_
        refine r_ialdV (pc := 85) (j := 20 * g + e) (v := nI ((nd g e).1)) dX6_formula_85 rfl rfl (by omega) (by decide) (((congrFun (fmI_off nd sz g M (c := 45) (by decide) (by decide) e) _).trans h45)) ?_
        refine r_iconst (pc := 86) (v := nI 2) dX6_formula_86 rfl ?_
        refine r_icmpN_ne (pc := 87) (tgt := 105) dX6_formula_87 (by decide) (by omega) (by omega) (fun c2 => ?_) (fun c2 => ?_)
        · exact absurd c2 (by omega)
        · refine r_aload_n (pc := 90) dX6_formula_90 rfl ?_
          refine r_getR (pc := 91) (b := 66) dX6_formula_91 fX6_81 rfl rfl ?_
          refine r_aload_n (pc := 94) dX6_formula_94 rfl ?_
          refine r_getR (pc := 95) (b := 46) dX6_formula_95 fX6_19 rfl rfl ?_
          refine r_iload (pc := 98) dX6_formula_98 rfl ?_
          refine r_ialdV (pc := 100) (j := 20 * g + e) (v := nI ((nd g e).2.1)) dX6_formula_100 rfl rfl (by omega) (by decide) (((congrFun (fmI_off nd sz g M (c := 46) (by decide) (by decide) e) _).trans h46)) ?_
          refine r_iald (pc := 101) (j := (nd g e).2.1) dX6_formula_101 rfl rfl (by omega) (by decide) ?_
          refine r_goto (pc := 102) (tgt := 106) dX6_formula_102 (by decide) ?_
          refine r_iadd (pc := 106) dX6_formula_106 ?_
          refine r_iast (pc := 107) (j := g) dX6_formula_107 rfl rfl (by omega) (by decide) ?_
          refine r_aload_n (pc := 108) dX6_formula_108 rfl ?_
          refine r_getR (pc := 109) (b := 67) dX6_formula_109 fX6_84 rfl rfl ?_
          refine r_iload_n (pc := 112) dX6_formula_112 rfl ?_
          refine r_dup2 (pc := 113) dX6_formula_113 rfl rfl ?_
          refine r_iald (pc := 114) (j := g) dX6_formula_114 rfl rfl (by omega) (by decide) ?_
          refine r_aload_n (pc := 115) dX6_formula_115 rfl ?_
          refine r_getR (pc := 116) (b := 45) dX6_formula_116 fX6_16 rfl rfl ?_
          refine r_iload (pc := 119) dX6_formula_119 rfl ?_
          refine r_ialdV (pc := 121) (j := 20 * g + e) (v := nI ((nd g e).1)) dX6_formula_121 rfl rfl (by omega) (by decide) (((congrFun (fmI_off nd sz g M (c := 45) (by decide) (by decide) e) _).trans h45)) ?_
          refine r_iconst (pc := 122) (v := nI 2) dX6_formula_122 rfl ?_
          refine r_icmpN_ne (pc := 123) (tgt := 141) dX6_formula_123 (by decide) (by omega) (by omega) (fun c3 => ?_) (fun c3 => ?_)
          · exact absurd c3 (by omega)
          · refine r_aload_n (pc := 126) dX6_formula_126 rfl ?_
            refine r_getR (pc := 127) (b := 67) dX6_formula_127 fX6_84 rfl rfl ?_
            refine r_aload_n (pc := 130) dX6_formula_130 rfl ?_
            refine r_getR (pc := 131) (b := 46) dX6_formula_131 fX6_19 rfl rfl ?_
            refine r_iload (pc := 134) dX6_formula_134 rfl ?_
            refine r_ialdV (pc := 136) (j := 20 * g + e) (v := nI ((nd g e).2.1)) dX6_formula_136 rfl rfl (by omega) (by decide) (((congrFun (fmI_off nd sz g M (c := 46) (by decide) (by decide) e) _).trans h46)) ?_
            refine r_iald (pc := 137) (j := (nd g e).2.1) dX6_formula_137 rfl rfl (by omega) (by decide) ?_
            refine r_goto (pc := 138) (tgt := 165) dX6_formula_138 (by decide) ?_
            refine r_ior (pc := 165) dX6_formula_165 ?_
            refine r_iast (pc := 166) (j := g) dX6_formula_166 rfl rfl (by omega) (by decide) ?_
            refine r_iinc (pc := 167) (v := nI ((20 * g + e) + 1)) (lo1 := [.ref 42, .int (nI f), .int (w), .int (nI g), .int (nI ((20 * g + e) + 1))]) dX6_formula_167 rfl rfl (ii1 _) (by decide) rfl ?_
            refine r_goto (pc := 170) (tgt := 56) dX6_formula_170 (by decide) ?_
            refine r_I (I' := (fmI nd sz g M (e + 1))) ((fmS_2 q).symm) ?_
            exact ih (e + 1) (by omega)
    · refine r_iload (pc := 56) dX6_formula_56 rfl ?_
      refine r_bipush (pc := 58) dX6_formula_58 bp_20 ?_
      refine r_iload_n (pc := 60) dX6_formula_60 rfl ?_
      refine r_imulN (pc := 61) dX6_formula_61 ?_
      refine r_aload_n (pc := 62) dX6_formula_62 rfl ?_
      refine r_getR (pc := 63) (b := 44) dX6_formula_63 fX6_13 rfl rfl ?_
      refine r_iload_n (pc := 66) dX6_formula_66 rfl ?_
      refine r_ialdV (pc := 67) (j := g) (v := nI (sz g)) dX6_formula_67 rfl rfl (by omega) (by decide) (((congrFun (fmI_off nd sz g M (c := 44) (by decide) (by decide) e) _).trans hs)) ?_
      refine r_iaddN (pc := 68) dX6_formula_68 ?_
      refine r_icmpN_ge (pc := 69) (tgt := 173) dX6_formula_69 (by decide) (by omega) (by omega) (fun c1 => ?_) (fun c1 => ?_)
      · exact absurd c1 (by omega)
      · refine r_aload_n (pc := 72) dX6_formula_72 rfl ?_
        refine r_getR (pc := 73) (b := 66) dX6_formula_73 fX6_81 rfl rfl ?_
        refine r_iload_n (pc := 76) dX6_formula_76 rfl ?_
        refine r_dup2 (pc := 77) dX6_formula_77 rfl rfl ?_
        refine r_iald (pc := 78) (j := g) dX6_formula_78 rfl rfl (by omega) (by decide) ?_
        refine r_aload_n (pc := 79) dX6_formula_79 rfl ?_
        refine r_getR (pc := 80) (b := 45) dX6_formula_80 fX6_16 rfl rfl ?_
        refine r_iload (pc := 83) dX6_formula_83 rfl ?_
        refine r_ialdV (pc := 85) (j := 20 * g + e) (v := nI ((nd g e).1)) dX6_formula_85 rfl rfl (by omega) (by decide) (((congrFun (fmI_off nd sz g M (c := 45) (by decide) (by decide) e) _).trans h45)) ?_
        refine r_iconst (pc := 86) (v := nI 2) dX6_formula_86 rfl ?_
        refine r_icmpN_ne (pc := 87) (tgt := 105) dX6_formula_87 (by decide) (by omega) (by omega) (fun c2 => ?_) (fun c2 => ?_)
        · refine r_iconst (pc := 105) (v := nI 0) dX6_formula_105 rfl ?_
          refine r_iadd (pc := 106) dX6_formula_106 ?_
          refine r_iast (pc := 107) (j := g) dX6_formula_107 rfl rfl (by omega) (by decide) ?_
          refine r_aload_n (pc := 108) dX6_formula_108 rfl ?_
          refine r_getR (pc := 109) (b := 67) dX6_formula_109 fX6_84 rfl rfl ?_
          refine r_iload_n (pc := 112) dX6_formula_112 rfl ?_
          refine r_dup2 (pc := 113) dX6_formula_113 rfl rfl ?_
          refine r_iald (pc := 114) (j := g) dX6_formula_114 rfl rfl (by omega) (by decide) ?_
          refine r_aload_n (pc := 115) dX6_formula_115 rfl ?_
          refine r_getR (pc := 116) (b := 45) dX6_formula_116 fX6_16 rfl rfl ?_
          refine r_iload (pc := 119) dX6_formula_119 rfl ?_
          refine r_ialdV (pc := 121) (j := 20 * g + e) (v := nI ((nd g e).1)) dX6_formula_121 rfl rfl (by omega) (by decide) (((congrFun (fmI_off nd sz g M (c := 45) (by decide) (by decide) e) _).trans h45)) ?_
          refine r_iconst (pc := 122) (v := nI 2) dX6_formula_122 rfl ?_
          refine r_icmpN_ne (pc := 123) (tgt := 141) dX6_formula_123 (by decide) (by omega) (by omega) (fun c3 => ?_) (fun c3 => ?_)
          · refine r_aload_n (pc := 141) dX6_formula_141 rfl ?_
            refine r_getR (pc := 142) (b := 45) dX6_formula_142 fX6_16 rfl rfl ?_
            refine r_iload (pc := 145) dX6_formula_145 rfl ?_
            refine r_ialdV (pc := 147) (j := 20 * g + e) (v := nI ((nd g e).1)) dX6_formula_147 rfl rfl (by omega) (by decide) (((congrFun (fmI_off nd sz g M (c := 45) (by decide) (by decide) e) _).trans h45)) ?_
            refine r_iconst (pc := 148) (v := nI 1) dX6_formula_148 rfl ?_
            refine r_icmpN_ne (pc := 149) (tgt := 164) dX6_formula_149 (by decide) (by omega) (by omega) (fun c4 => ?_) (fun c4 => ?_)
            · exact absurd c4 (by omega)
            · refine r_iconst (pc := 152) (v := nI 1) dX6_formula_152 rfl ?_
              refine r_aload_n (pc := 153) dX6_formula_153 rfl ?_
              refine r_getR (pc := 154) (b := 46) dX6_formula_154 fX6_19 rfl rfl ?_
              refine r_iload (pc := 157) dX6_formula_157 rfl ?_
              refine r_ialdV (pc := 159) (j := 20 * g + e) (v := nI ((nd g e).2.1)) dX6_formula_159 rfl rfl (by omega) (by decide) (((congrFun (fmI_off nd sz g M (c := 46) (by decide) (by decide) e) _).trans h46)) ?_
              refine r_ishl (pc := 160) dX6_formula_160 ?_
              refine r_goto (pc := 161) (tgt := 165) dX6_formula_161 (by decide) ?_
              refine r_ior (pc := 165) dX6_formula_165 ?_
              refine r_iast (pc := 166) (j := g) dX6_formula_166 rfl rfl (by omega) (by decide) ?_
              refine r_iinc (pc := 167) (v := nI ((20 * g + e) + 1)) (lo1 := [.ref 42, .int (nI f), .int (w), .int (nI g), .int (nI ((20 * g + e) + 1))]) dX6_formula_167 rfl rfl (ii1 _) (by decide) rfl ?_
              refine r_goto (pc := 170) (tgt := 56) dX6_formula_170 (by decide) ?_
              refine r_I (I' := (fmI nd sz g M (e + 1))) ((fmS_1 q).symm) ?_
              exact ih (e + 1) (by omega)
          · exact absurd c3 (by omega)
        · exact absurd c2 (by omega)
    · refine r_iload (pc := 56) dX6_formula_56 rfl ?_
      refine r_bipush (pc := 58) dX6_formula_58 bp_20 ?_
      refine r_iload_n (pc := 60) dX6_formula_60 rfl ?_
      refine r_imulN (pc := 61) dX6_formula_61 ?_
      refine r_aload_n (pc := 62) dX6_formula_62 rfl ?_
      refine r_getR (pc := 63) (b := 44) dX6_formula_63 fX6_13 rfl rfl ?_
      refine r_iload_n (pc := 66) dX6_formula_66 rfl ?_
      refine r_ialdV (pc := 67) (j := g) (v := nI (sz g)) dX6_formula_67 rfl rfl (by omega) (by decide) (((congrFun (fmI_off nd sz g M (c := 44) (by decide) (by decide) e) _).trans hs)) ?_
      refine r_iaddN (pc := 68) dX6_formula_68 ?_
      refine r_icmpN_ge (pc := 69) (tgt := 173) dX6_formula_69 (by decide) (by omega) (by omega) (fun c1 => ?_) (fun c1 => ?_)
      · exact absurd c1 (by omega)
      · refine r_aload_n (pc := 72) dX6_formula_72 rfl ?_
        refine r_getR (pc := 73) (b := 66) dX6_formula_73 fX6_81 rfl rfl ?_
        refine r_iload_n (pc := 76) dX6_formula_76 rfl ?_
        refine r_dup2 (pc := 77) dX6_formula_77 rfl rfl ?_
        refine r_iald (pc := 78) (j := g) dX6_formula_78 rfl rfl (by omega) (by decide) ?_
        refine r_aload_n (pc := 79) dX6_formula_79 rfl ?_
        refine r_getR (pc := 80) (b := 45) dX6_formula_80 fX6_16 rfl rfl ?_
        refine r_iload (pc := 83) dX6_formula_83 rfl ?_
        refine r_ialdV (pc := 85) (j := 20 * g + e) (v := nI ((nd g e).1)) dX6_formula_85 rfl rfl (by omega) (by decide) (((congrFun (fmI_off nd sz g M (c := 45) (by decide) (by decide) e) _).trans h45)) ?_
        refine r_iconst (pc := 86) (v := nI 2) dX6_formula_86 rfl ?_
        refine r_icmpN_ne (pc := 87) (tgt := 105) dX6_formula_87 (by decide) (by omega) (by omega) (fun c2 => ?_) (fun c2 => ?_)
        · refine r_iconst (pc := 105) (v := nI 0) dX6_formula_105 rfl ?_
          refine r_iadd (pc := 106) dX6_formula_106 ?_
          refine r_iast (pc := 107) (j := g) dX6_formula_107 rfl rfl (by omega) (by decide) ?_
          refine r_aload_n (pc := 108) dX6_formula_108 rfl ?_
          refine r_getR (pc := 109) (b := 67) dX6_formula_109 fX6_84 rfl rfl ?_
          refine r_iload_n (pc := 112) dX6_formula_112 rfl ?_
          refine r_dup2 (pc := 113) dX6_formula_113 rfl rfl ?_
          refine r_iald (pc := 114) (j := g) dX6_formula_114 rfl rfl (by omega) (by decide) ?_
          refine r_aload_n (pc := 115) dX6_formula_115 rfl ?_
          refine r_getR (pc := 116) (b := 45) dX6_formula_116 fX6_16 rfl rfl ?_
          refine r_iload (pc := 119) dX6_formula_119 rfl ?_
          refine r_ialdV (pc := 121) (j := 20 * g + e) (v := nI ((nd g e).1)) dX6_formula_121 rfl rfl (by omega) (by decide) (((congrFun (fmI_off nd sz g M (c := 45) (by decide) (by decide) e) _).trans h45)) ?_
          refine r_iconst (pc := 122) (v := nI 2) dX6_formula_122 rfl ?_
          refine r_icmpN_ne (pc := 123) (tgt := 141) dX6_formula_123 (by decide) (by omega) (by omega) (fun c3 => ?_) (fun c3 => ?_)
          · refine r_aload_n (pc := 141) dX6_formula_141 rfl ?_
            refine r_getR (pc := 142) (b := 45) dX6_formula_142 fX6_16 rfl rfl ?_
            refine r_iload (pc := 145) dX6_formula_145 rfl ?_
            refine r_ialdV (pc := 147) (j := 20 * g + e) (v := nI ((nd g e).1)) dX6_formula_147 rfl rfl (by omega) (by decide) (((congrFun (fmI_off nd sz g M (c := 45) (by decide) (by decide) e) _).trans h45)) ?_
            refine r_iconst (pc := 148) (v := nI 1) dX6_formula_148 rfl ?_
            refine r_icmpN_ne (pc := 149) (tgt := 164) dX6_formula_149 (by decide) (by omega) (by omega) (fun c4 => ?_) (fun c4 => ?_)
            · refine r_iconst (pc := 164) (v := nI 0) dX6_formula_164 rfl ?_
              refine r_ior (pc := 165) dX6_formula_165 ?_
              refine r_iast (pc := 166) (j := g) dX6_formula_166 rfl rfl (by omega) (by decide) ?_
              refine r_iinc (pc := 167) (v := nI ((20 * g + e) + 1)) (lo1 := [.ref 42, .int (nI f), .int (w), .int (nI g), .int (nI ((20 * g + e) + 1))]) dX6_formula_167 rfl rfl (ii1 _) (by decide) rfl ?_
              refine r_goto (pc := 170) (tgt := 56) dX6_formula_170 (by decide) ?_
              refine r_I (I' := (fmI nd sz g M (e + 1))) ((fmS_0 q q2).symm) ?_
              exact ih (e + 1) (by omega)
            · exact absurd c4 (by omega)
          · exact absurd c3 (by omega)
        · exact absurd c2 (by omega)
theorem lp_qformula_0 (X : Ctx) (d : Nat) (I : MI) (L : ML) (F : Nat) (sz : Nat → Nat) (nd : Nat → Nat → Nat × Nat × Nat × Nat) (hR : MR I F sz nd) (k : Nat) (hk : k < F) : ∀ (z g : Nat), g + z = k + 1 → Ev X mX6_formula (d + 2) (0, 0) (0, 0) (some (.int (nI (sz k))), shF, (foI nd sz (u2 I 42 0 (nI 0)) (k + 1)), L) 26 [.ref 42, .int (nI k), .int (nI 0), .int (nI g), .null] [] shF (foI nd sz (u2 I 42 0 (nI 0)) g) L := by
  intro z
  induction z with
  | zero =>
    intro g hi
    obtain ⟨hF, hF4, hall⟩ := id hR
    obtain ⟨hs, hs1, hs20, -⟩ := hall k hk
    have hi2 : g = k + 1 := by omega
    rw [hi2]
    refine r_iload_n (pc := 26) dX6_formula_26 rfl ?_
    refine r_iload_n (pc := 27) dX6_formula_27 rfl ?_
    refine r_icmpN_gt (pc := 28) (tgt := 179) dX6_formula_28 (by decide) (by omega) (by omega) (fun c1 => ?_) (fun c1 => ?_)
    · refine r_iload_n (pc := 179) dX6_formula_179 rfl ?_
      refine r_ifN_ne (pc := 180) (tgt := 192) dX6_formula_180 (by decide) (by omega) (fun c2 => ?_) (fun c2 => ?_)
      · exact absurd c2 (by decide)
      · refine r_aload_n (pc := 183) dX6_formula_183 rfl ?_
        refine r_getR (pc := 184) (b := 44) dX6_formula_184 fX6_13 rfl rfl ?_
        refine r_iload_n (pc := 187) dX6_formula_187 rfl ?_
        refine r_ialdV (pc := 188) (j := k) (v := nI (sz k)) dX6_formula_188 rfl rfl (by omega) (by decide) (((congrFun (foI_off nd sz _ (c := 44) (by decide) (by decide) (k + 1)) _).trans hs)) ?_
        refine r_goto (pc := 189) (tgt := 212) dX6_formula_189 (by decide) ?_
        exact r_iret dX6_formula_212 rfl (rfl) rfl
    · exact absurd c1 (by omega)
  | succ z ih =>
    intro g hi
    obtain ⟨hF, hF4, hall⟩ := id hR
    obtain ⟨hs, hs1, hs20, -⟩ := hall k hk
    refine r_iload_n (pc := 26) dX6_formula_26 rfl ?_
    refine r_iload_n (pc := 27) dX6_formula_27 rfl ?_
    refine r_icmpN_gt (pc := 28) (tgt := 179) dX6_formula_28 (by decide) (by omega) (by omega) (fun c3 => ?_) (fun c3 => ?_)
    · exact absurd c3 (by omega)
    · refine r_aload_n (pc := 31) dX6_formula_31 rfl ?_
      refine r_getR (pc := 32) (b := 66) dX6_formula_32 fX6_81 rfl rfl ?_
      refine r_iload_n (pc := 35) dX6_formula_35 rfl ?_
      refine r_aload_n (pc := 36) dX6_formula_36 rfl ?_
      refine r_getR (pc := 37) (b := 44) dX6_formula_37 fX6_13 rfl rfl ?_
      refine r_iload_n (pc := 40) dX6_formula_40 rfl ?_
      refine r_ialdV (pc := 41) (j := g) (v := nI (sz g)) dX6_formula_41 rfl rfl (by omega) (by decide) (((congrFun (foI_off nd sz _ (c := 44) (by decide) (by decide) g) _).trans (hall g (by omega)).1)) ?_
      refine r_iast (pc := 42) (j := g) dX6_formula_42 rfl rfl (by omega) (by decide) ?_
      refine r_aload_n (pc := 43) dX6_formula_43 rfl ?_
      refine r_getR (pc := 44) (b := 67) dX6_formula_44 fX6_84 rfl rfl ?_
      refine r_iload_n (pc := 47) dX6_formula_47 rfl ?_
      refine r_iconst (pc := 48) (v := nI 0) dX6_formula_48 rfl ?_
      refine r_iast (pc := 49) (j := g) dX6_formula_49 rfl rfl (by omega) (by decide) ?_
      refine r_bipush (pc := 50) dX6_formula_50 bp_20 ?_
      refine r_iload_n (pc := 52) dX6_formula_52 rfl ?_
      refine r_imulN (pc := 53) dX6_formula_53 ?_
      refine r_istore (pc := 54) (lo1 := [.ref 42, .int (nI k), .int (nI 0), .int (nI g), .int (nI (20 * g))]) dX6_formula_54 rfl (by decide) rfl ?_
      refine lp_formula_in X d (foI nd sz (u2 I 42 0 (nI 0)) g) L F sz nd (MR_of (MR_th hR) (by rw [foI_off nd sz _ (c := 42) (by decide) (by decide)]) (fun c h1 h2 => foI_off nd sz _ (by omega) (by omega) g)) k g (nI 0) (by omega) _ ?_ (sz g) 0 (by omega)
      exact ih (g + 1) (by omega)
theorem q_formula_0 (X : Ctx) (d : Nat) (I : MI) (L : ML) (F : Nat) (sz : Nat → Nat) (nd : Nat → Nat → Nat × Nat × Nat × Nat) (hR : MR I F sz nd) (k : Nat) (hk : k < F) : Sp X mX6_formula (d + 2) (0, 0) [.ref 42, .int (nI k), .int (nI 0)] shF I L (some (.int (nI (sz k))), shF, (foI nd sz (u2 I 42 0 (nI 0)) (k + 1)), L) := by
  obtain ⟨hF, hF4, hall⟩ := id hR
  obtain ⟨hs, hs1, hs20, -⟩ := hall k hk
  refine Sp.of okX6_formula [.ref 42, .int (nI k), .int (nI 0), .null, .null] 2 rfl (Nat.le_of_ble_eq_true rfl) ?_
  refine r_aload_n (pc := 0) dX6_formula_0 rfl ?_
  refine r_iconst (pc := 1) (v := nI 0) dX6_formula_1 rfl ?_
  refine r_put (pc := 2) .int dX6_formula_2 fX6_93 rfl rfl nf6_0 rfl rfl ?_
  refine r_aload_n (pc := 5) dX6_formula_5 rfl ?_
  refine r_iload_n (pc := 6) dX6_formula_6 rfl ?_
  refine r_callV (pc := 7) (N := mX6_isFormula) (rest := []) (s_isFormula_t X _ (u2 I 42 0 (nI 0)) L F k (hF) (by omega) hF4) okX6_isFormula lkX6_243 rfl (by decide) rfl rfl rfl (Nat.le_of_ble_eq_true rfl) ⟨Nat.le_refl _, Nat.le_refl _⟩ dX6_formula_7 ?_
  refine r_ifN_eq (pc := 10) (tgt := 22) dX6_formula_10 (by decide) (by omega) (fun c4 => ?_) (fun c4 => ?_)
  · exact absurd c4 (by decide)
  · refine r_iload_n (pc := 13) dX6_formula_13 rfl ?_
    refine r_iconst (pc := 14) (v := nI 0) dX6_formula_14 rfl ?_
    refine r_iconst (pc := 15) (v := nI 2) dX6_formula_15 rfl ?_
    refine r_callS (pc := 16) (N := mX6_in) (rest := []) (s_in_t X _ (u2 I 42 0 (nI 0)) L (nI 0) (nI 0) (nI 2) (nI_nlt (by omega) (by omega)) (nI_nlt (by omega) (by omega))) okX6_in lkX6_97 rfl rfl (Nat.le_of_ble_eq_true rfl) ⟨Nat.le_refl _, Nat.le_refl _⟩ dX6_formula_16 ?_
    refine r_ifN_ne (pc := 19) (tgt := 24) dX6_formula_19 (by decide) (by omega) (fun c5 => ?_) (fun c5 => ?_)
    · refine r_iconst (pc := 24) (v := nI 0) dX6_formula_24 rfl ?_
      refine r_istore_n (pc := 25) (lo1 := [.ref 42, .int (nI k), .int (nI 0), .int (nI 0), .null]) dX6_formula_25 rfl (by decide) rfl ?_
      exact lp_qformula_0 X d I L F sz nd hR k hk (k + 1) 0 (by omega)
    · exact absurd c5 (by decide)
theorem lp_qformula_1 (X : Ctx) (d : Nat) (I : MI) (L : ML) (F : Nat) (sz : Nat → Nat) (nd : Nat → Nat → Nat × Nat × Nat × Nat) (hR : MR I F sz nd) (k : Nat) (hk : k < F) : ∀ (z g : Nat), g + z = k + 1 → Ev X mX6_formula (d + 2) (0, 0) (0, 0) (some (.int ((foI nd sz (u2 I 42 0 (nI 0)) (k + 1)) 66 k)), shF, (foI nd sz (u2 I 42 0 (nI 0)) (k + 1)), L) 26 [.ref 42, .int (nI k), .int (nI 1), .int (nI g), .null] [] shF (foI nd sz (u2 I 42 0 (nI 0)) g) L := by
  intro z
  induction z with
  | zero =>
    intro g hi
    obtain ⟨hF, hF4, hall⟩ := id hR
    obtain ⟨hs, hs1, hs20, -⟩ := hall k hk
    have hi2 : g = k + 1 := by omega
    rw [hi2]
    refine r_iload_n (pc := 26) dX6_formula_26 rfl ?_
    refine r_iload_n (pc := 27) dX6_formula_27 rfl ?_
    refine r_icmpN_gt (pc := 28) (tgt := 179) dX6_formula_28 (by decide) (by omega) (by omega) (fun c1 => ?_) (fun c1 => ?_)
    · refine r_iload_n (pc := 179) dX6_formula_179 rfl ?_
      refine r_ifN_ne (pc := 180) (tgt := 192) dX6_formula_180 (by decide) (by omega) (fun c2 => ?_) (fun c2 => ?_)
      · refine r_iload_n (pc := 192) dX6_formula_192 rfl ?_
        refine r_iconst (pc := 193) (v := nI 1) dX6_formula_193 rfl ?_
        refine r_icmpN_ne (pc := 194) (tgt := 206) dX6_formula_194 (by decide) (by omega) (by omega) (fun c3 => ?_) (fun c3 => ?_)
        · exact absurd c3 (by decide)
        · refine r_aload_n (pc := 197) dX6_formula_197 rfl ?_
          refine r_getR (pc := 198) (b := 66) dX6_formula_198 fX6_81 rfl rfl ?_
          refine r_iload_n (pc := 201) dX6_formula_201 rfl ?_
          refine r_iald (pc := 202) (j := k) dX6_formula_202 rfl rfl (by omega) (by decide) ?_
          refine r_goto (pc := 203) (tgt := 212) dX6_formula_203 (by decide) ?_
          exact r_iret dX6_formula_212 rfl (rfl) rfl
      · exact absurd c2 (by decide)
    · exact absurd c1 (by omega)
  | succ z ih =>
    intro g hi
    obtain ⟨hF, hF4, hall⟩ := id hR
    obtain ⟨hs, hs1, hs20, -⟩ := hall k hk
    refine r_iload_n (pc := 26) dX6_formula_26 rfl ?_
    refine r_iload_n (pc := 27) dX6_formula_27 rfl ?_
    refine r_icmpN_gt (pc := 28) (tgt := 179) dX6_formula_28 (by decide) (by omega) (by omega) (fun c4 => ?_) (fun c4 => ?_)
    · exact absurd c4 (by omega)
    · refine r_aload_n (pc := 31) dX6_formula_31 rfl ?_
      refine r_getR (pc := 32) (b := 66) dX6_formula_32 fX6_81 rfl rfl ?_
      refine r_iload_n (pc := 35) dX6_formula_35 rfl ?_
      refine r_aload_n (pc := 36) dX6_formula_36 rfl ?_
      refine r_getR (pc := 37) (b := 44) dX6_formula_37 fX6_13 rfl rfl ?_
      refine r_iload_n (pc := 40) dX6_formula_40 rfl ?_
      refine r_ialdV (pc := 41) (j := g) (v := nI (sz g)) dX6_formula_41 rfl rfl (by omega) (by decide) (((congrFun (foI_off nd sz _ (c := 44) (by decide) (by decide) g) _).trans (hall g (by omega)).1)) ?_
      refine r_iast (pc := 42) (j := g) dX6_formula_42 rfl rfl (by omega) (by decide) ?_
      refine r_aload_n (pc := 43) dX6_formula_43 rfl ?_
      refine r_getR (pc := 44) (b := 67) dX6_formula_44 fX6_84 rfl rfl ?_
      refine r_iload_n (pc := 47) dX6_formula_47 rfl ?_
      refine r_iconst (pc := 48) (v := nI 0) dX6_formula_48 rfl ?_
      refine r_iast (pc := 49) (j := g) dX6_formula_49 rfl rfl (by omega) (by decide) ?_
      refine r_bipush (pc := 50) dX6_formula_50 bp_20 ?_
      refine r_iload_n (pc := 52) dX6_formula_52 rfl ?_
      refine r_imulN (pc := 53) dX6_formula_53 ?_
      refine r_istore (pc := 54) (lo1 := [.ref 42, .int (nI k), .int (nI 1), .int (nI g), .int (nI (20 * g))]) dX6_formula_54 rfl (by decide) rfl ?_
      refine lp_formula_in X d (foI nd sz (u2 I 42 0 (nI 0)) g) L F sz nd (MR_of (MR_th hR) (by rw [foI_off nd sz _ (c := 42) (by decide) (by decide)]) (fun c h1 h2 => foI_off nd sz _ (by omega) (by omega) g)) k g (nI 1) (by omega) _ ?_ (sz g) 0 (by omega)
      exact ih (g + 1) (by omega)
theorem q_formula_1 (X : Ctx) (d : Nat) (I : MI) (L : ML) (F : Nat) (sz : Nat → Nat) (nd : Nat → Nat → Nat × Nat × Nat × Nat) (hR : MR I F sz nd) (k : Nat) (hk : k < F) : Sp X mX6_formula (d + 2) (0, 0) [.ref 42, .int (nI k), .int (nI 1)] shF I L (some (.int ((foI nd sz (u2 I 42 0 (nI 0)) (k + 1)) 66 k)), shF, (foI nd sz (u2 I 42 0 (nI 0)) (k + 1)), L) := by
  obtain ⟨hF, hF4, hall⟩ := id hR
  obtain ⟨hs, hs1, hs20, -⟩ := hall k hk
  refine Sp.of okX6_formula [.ref 42, .int (nI k), .int (nI 1), .null, .null] 2 rfl (Nat.le_of_ble_eq_true rfl) ?_
  refine r_aload_n (pc := 0) dX6_formula_0 rfl ?_
  refine r_iconst (pc := 1) (v := nI 0) dX6_formula_1 rfl ?_
  refine r_put (pc := 2) .int dX6_formula_2 fX6_93 rfl rfl nf6_0 rfl rfl ?_
  refine r_aload_n (pc := 5) dX6_formula_5 rfl ?_
  refine r_iload_n (pc := 6) dX6_formula_6 rfl ?_
  refine r_callV (pc := 7) (N := mX6_isFormula) (rest := []) (s_isFormula_t X _ (u2 I 42 0 (nI 0)) L F k (hF) (by omega) hF4) okX6_isFormula lkX6_243 rfl (by decide) rfl rfl rfl (Nat.le_of_ble_eq_true rfl) ⟨Nat.le_refl _, Nat.le_refl _⟩ dX6_formula_7 ?_
  refine r_ifN_eq (pc := 10) (tgt := 22) dX6_formula_10 (by decide) (by omega) (fun c5 => ?_) (fun c5 => ?_)
  · exact absurd c5 (by decide)
  · refine r_iload_n (pc := 13) dX6_formula_13 rfl ?_
    refine r_iconst (pc := 14) (v := nI 0) dX6_formula_14 rfl ?_
    refine r_iconst (pc := 15) (v := nI 2) dX6_formula_15 rfl ?_
    refine r_callS (pc := 16) (N := mX6_in) (rest := []) (s_in_t X _ (u2 I 42 0 (nI 0)) L (nI 1) (nI 0) (nI 2) (nI_nlt (by omega) (by omega)) (nI_nlt (by omega) (by omega))) okX6_in lkX6_97 rfl rfl (Nat.le_of_ble_eq_true rfl) ⟨Nat.le_refl _, Nat.le_refl _⟩ dX6_formula_16 ?_
    refine r_ifN_ne (pc := 19) (tgt := 24) dX6_formula_19 (by decide) (by omega) (fun c6 => ?_) (fun c6 => ?_)
    · refine r_iconst (pc := 24) (v := nI 0) dX6_formula_24 rfl ?_
      refine r_istore_n (pc := 25) (lo1 := [.ref 42, .int (nI k), .int (nI 1), .int (nI 0), .null]) dX6_formula_25 rfl (by decide) rfl ?_
      exact lp_qformula_1 X d I L F sz nd hR k hk (k + 1) 0 (by omega)
    · exact absurd c6 (by decide)
theorem lp_qformula_2 (X : Ctx) (d : Nat) (I : MI) (L : ML) (F : Nat) (sz : Nat → Nat) (nd : Nat → Nat → Nat × Nat × Nat × Nat) (hR : MR I F sz nd) (k : Nat) (hk : k < F) : ∀ (z g : Nat), g + z = k + 1 → Ev X mX6_formula (d + 2) (0, 0) (0, 0) (some (.int ((foI nd sz (u2 I 42 0 (nI 0)) (k + 1)) 67 k)), shF, (foI nd sz (u2 I 42 0 (nI 0)) (k + 1)), L) 26 [.ref 42, .int (nI k), .int (nI 2), .int (nI g), .null] [] shF (foI nd sz (u2 I 42 0 (nI 0)) g) L := by
  intro z
  induction z with
  | zero =>
    intro g hi
    obtain ⟨hF, hF4, hall⟩ := id hR
    obtain ⟨hs, hs1, hs20, -⟩ := hall k hk
    have hi2 : g = k + 1 := by omega
    rw [hi2]
    refine r_iload_n (pc := 26) dX6_formula_26 rfl ?_
    refine r_iload_n (pc := 27) dX6_formula_27 rfl ?_
    refine r_icmpN_gt (pc := 28) (tgt := 179) dX6_formula_28 (by decide) (by omega) (by omega) (fun c1 => ?_) (fun c1 => ?_)
    · refine r_iload_n (pc := 179) dX6_formula_179 rfl ?_
      refine r_ifN_ne (pc := 180) (tgt := 192) dX6_formula_180 (by decide) (by omega) (fun c2 => ?_) (fun c2 => ?_)
      · refine r_iload_n (pc := 192) dX6_formula_192 rfl ?_
        refine r_iconst (pc := 193) (v := nI 1) dX6_formula_193 rfl ?_
        refine r_icmpN_ne (pc := 194) (tgt := 206) dX6_formula_194 (by decide) (by omega) (by omega) (fun c3 => ?_) (fun c3 => ?_)
        · refine r_aload_n (pc := 206) dX6_formula_206 rfl ?_
          refine r_getR (pc := 207) (b := 67) dX6_formula_207 fX6_84 rfl rfl ?_
          refine r_iload_n (pc := 210) dX6_formula_210 rfl ?_
          refine r_iald (pc := 211) (j := k) dX6_formula_211 rfl rfl (by omega) (by decide) ?_
          exact r_iret dX6_formula_212 rfl (rfl) rfl
        · exact absurd c3 (by decide)
      · exact absurd c2 (by decide)
    · exact absurd c1 (by omega)
  | succ z ih =>
    intro g hi
    obtain ⟨hF, hF4, hall⟩ := id hR
    obtain ⟨hs, hs1, hs20, -⟩ := hall k hk
    refine r_iload_n (pc := 26) dX6_formula_26 rfl ?_
    refine r_iload_n (pc := 27) dX6_formula_27 rfl ?_
    refine r_icmpN_gt (pc := 28) (tgt := 179) dX6_formula_28 (by decide) (by omega) (by omega) (fun c4 => ?_) (fun c4 => ?_)
    · exact absurd c4 (by omega)
    · refine r_aload_n (pc := 31) dX6_formula_31 rfl ?_
      refine r_getR (pc := 32) (b := 66) dX6_formula_32 fX6_81 rfl rfl ?_
      refine r_iload_n (pc := 35) dX6_formula_35 rfl ?_
      refine r_aload_n (pc := 36) dX6_formula_36 rfl ?_
      refine r_getR (pc := 37) (b := 44) dX6_formula_37 fX6_13 rfl rfl ?_
      refine r_iload_n (pc := 40) dX6_formula_40 rfl ?_
      refine r_ialdV (pc := 41) (j := g) (v := nI (sz g)) dX6_formula_41 rfl rfl (by omega) (by decide) (((congrFun (foI_off nd sz _ (c := 44) (by decide) (by decide) g) _).trans (hall g (by omega)).1)) ?_
      refine r_iast (pc := 42) (j := g) dX6_formula_42 rfl rfl (by omega) (by decide) ?_
      refine r_aload_n (pc := 43) dX6_formula_43 rfl ?_
      refine r_getR (pc := 44) (b := 67) dX6_formula_44 fX6_84 rfl rfl ?_
      refine r_iload_n (pc := 47) dX6_formula_47 rfl ?_
      refine r_iconst (pc := 48) (v := nI 0) dX6_formula_48 rfl ?_
      refine r_iast (pc := 49) (j := g) dX6_formula_49 rfl rfl (by omega) (by decide) ?_
      refine r_bipush (pc := 50) dX6_formula_50 bp_20 ?_
      refine r_iload_n (pc := 52) dX6_formula_52 rfl ?_
      refine r_imulN (pc := 53) dX6_formula_53 ?_
      refine r_istore (pc := 54) (lo1 := [.ref 42, .int (nI k), .int (nI 2), .int (nI g), .int (nI (20 * g))]) dX6_formula_54 rfl (by decide) rfl ?_
      refine lp_formula_in X d (foI nd sz (u2 I 42 0 (nI 0)) g) L F sz nd (MR_of (MR_th hR) (by rw [foI_off nd sz _ (c := 42) (by decide) (by decide)]) (fun c h1 h2 => foI_off nd sz _ (by omega) (by omega) g)) k g (nI 2) (by omega) _ ?_ (sz g) 0 (by omega)
      exact ih (g + 1) (by omega)
theorem q_formula_2 (X : Ctx) (d : Nat) (I : MI) (L : ML) (F : Nat) (sz : Nat → Nat) (nd : Nat → Nat → Nat × Nat × Nat × Nat) (hR : MR I F sz nd) (k : Nat) (hk : k < F) : Sp X mX6_formula (d + 2) (0, 0) [.ref 42, .int (nI k), .int (nI 2)] shF I L (some (.int ((foI nd sz (u2 I 42 0 (nI 0)) (k + 1)) 67 k)), shF, (foI nd sz (u2 I 42 0 (nI 0)) (k + 1)), L) := by
  obtain ⟨hF, hF4, hall⟩ := id hR
  obtain ⟨hs, hs1, hs20, -⟩ := hall k hk
  refine Sp.of okX6_formula [.ref 42, .int (nI k), .int (nI 2), .null, .null] 2 rfl (Nat.le_of_ble_eq_true rfl) ?_
  refine r_aload_n (pc := 0) dX6_formula_0 rfl ?_
  refine r_iconst (pc := 1) (v := nI 0) dX6_formula_1 rfl ?_
  refine r_put (pc := 2) .int dX6_formula_2 fX6_93 rfl rfl nf6_0 rfl rfl ?_
  refine r_aload_n (pc := 5) dX6_formula_5 rfl ?_
  refine r_iload_n (pc := 6) dX6_formula_6 rfl ?_
  refine r_callV (pc := 7) (N := mX6_isFormula) (rest := []) (s_isFormula_t X _ (u2 I 42 0 (nI 0)) L F k (hF) (by omega) hF4) okX6_isFormula lkX6_243 rfl (by decide) rfl rfl rfl (Nat.le_of_ble_eq_true rfl) ⟨Nat.le_refl _, Nat.le_refl _⟩ dX6_formula_7 ?_
  refine r_ifN_eq (pc := 10) (tgt := 22) dX6_formula_10 (by decide) (by omega) (fun c5 => ?_) (fun c5 => ?_)
  · exact absurd c5 (by decide)
  · refine r_iload_n (pc := 13) dX6_formula_13 rfl ?_
    refine r_iconst (pc := 14) (v := nI 0) dX6_formula_14 rfl ?_
    refine r_iconst (pc := 15) (v := nI 2) dX6_formula_15 rfl ?_
    refine r_callS (pc := 16) (N := mX6_in) (rest := []) (s_in_t X _ (u2 I 42 0 (nI 0)) L (nI 2) (nI 0) (nI 2) (nI_nlt (by omega) (by omega)) (nI_nlt (by omega) (by omega))) okX6_in lkX6_97 rfl rfl (Nat.le_of_ble_eq_true rfl) ⟨Nat.le_refl _, Nat.le_refl _⟩ dX6_formula_16 ?_
    refine r_ifN_ne (pc := 19) (tgt := 24) dX6_formula_19 (by decide) (by omega) (fun c6 => ?_) (fun c6 => ?_)
    · refine r_iconst (pc := 24) (v := nI 0) dX6_formula_24 rfl ?_
      refine r_istore_n (pc := 25) (lo1 := [.ref 42, .int (nI k), .int (nI 2), .int (nI 0), .null]) dX6_formula_25 rfl (by decide) rfl ?_
      exact lp_qformula_2 X d I L F sz nd hR k hk (k + 1) 0 (by omega)
    · exact absurd c6 (by decide)
