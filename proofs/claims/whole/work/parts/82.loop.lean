theorem rel_0 : REL (setM (u2 (flA zI 54 48 (nI 0)) 42 14 (nI 0)) 0) zL := by
  refine ⟨fun _ => 0, 0, fun _ => nI 0, [], 0, fun _ => 0, 0, fun _ _ => nI 0, ⟨⟨rfl, Nat.zero_le _, fun j hj => absurd hj (Nat.not_lt_zero j)⟩, ⟨rfl, Nat.zero_le _, fun j hj => absurd hj (Nat.not_lt_zero j)⟩⟩, ⟨⟨fun j hj => rfl, fun x hx y hy => ?_⟩, fun j hj => ?_, symD_0⟩, ⟨⟨rfl, Nat.zero_le _, rfl, fun g hg => absurd hg (Nat.not_lt_zero g)⟩, ⟨rfl, Nat.zero_le _, fun f hf => absurd hf (Nat.not_lt_zero f)⟩⟩, ⟨rfl, rfl, Nat.zero_le _, fun i hi => absurd hi (Nat.not_lt_zero i)⟩, ⟨rfl, rfl, Nat.zero_le _, fun k hk => absurd hk (Nat.not_lt_zero k), fun j hj => rfl, fun k hk => absurd hk (Nat.not_lt_zero k)⟩, ⟨⟨rfl, Or.inl rfl⟩, ⟨rfl, Or.inl rfl⟩⟩⟩
  · rw [ite_self]
    rfl
  · show (if j < 48 then (if j < 48 then nI 0 else 0) else 0) = nI 0
    rw [if_pos hj, if_pos hj]
section LAWLOOP
variable {X : Ctx} {p : Program} {e : Env} {s : State} {m : MethodId} {below : List Frame} {meth : Method} {c : Code} {b Ln : Nat} {xs : Nat → Int32} {Z : State → Prop} {pc : Nat} {st : List Value} {sh : List SH} {I : MI} {L : ML} {c0 s0 : Nat}
theorem l_iinc3 (hC : LC X p s m c b Ln xs) {a1 a2 : Nat} {n : Int} {x v : Int32} (hdg : decode code pc = .ok (.iinc 3 n, 3)) (hv : x + Int32.ofInt n = v) (k : LE X p e s m below meth c b Z (pc + 3) [.ref b, .ref a1, .ref a2, .int v] st sh I L c0 s0) : LE X p e s m below meth c b Z pc [.ref b, .ref a1, .ref a2, .int x] st sh I L c0 s0 :=
  fun H locs ls hW hS hl => lv_iinc (lv' := [(3, .int v), (0, .ref b), (1, .ref a1), (2, .ref a2)]) hC.1 hC.2.1 hdg hl (k := 3) rfl hv (by decide) rfl (fun ls1 h1 => k H locs ls1 hW hS ⟨h1.1, h1.2.1, fun q hq => h1.2.2 q (by
    have h : q = (0, .ref b) ∨ q = (1, .ref a1) ∨ q = (2, .ref a2) ∨ q = (3, .int v) := by simpa using hq
    rcases h with z | z | z | z <;> subst z <;> simp)⟩)
theorem l_ast1 (hC : LC X p s m c b Ln xs) {x : Nat} (hdg : decode code pc = .ok (.astore_n 1, 1)) (k : LE X p e s m below meth c b Z (pc + 1) [.ref b, .ref x] st sh I L c0 s0) : LE X p e s m below meth c b Z pc [.ref b] (.ref x :: st) sh I L c0 s0 :=
  fun H locs ls hW hS hl => lv_astore_n (lv' := [(1, .ref x), (0, .ref b)]) hC.1 hC.2.1 hdg rfl hl (by decide) rfl (fun ls1 h1 => k H locs ls1 hW hS ⟨h1.1, h1.2.1, fun q hq => h1.2.2 q (by
    have h : q = (0, .ref b) ∨ q = (1, .ref x) := by simpa using hq
    rcases h with z | z <;> subst z <;> simp)⟩)
theorem l_ast2 (hC : LC X p s m c b Ln xs) {a1 x : Nat} (hdg : decode code pc = .ok (.astore_n 2, 1)) (k : LE X p e s m below meth c b Z (pc + 1) [.ref b, .ref a1, .ref x] st sh I L c0 s0) : LE X p e s m below meth c b Z pc [.ref b, .ref a1] (.ref x :: st) sh I L c0 s0 :=
  fun H locs ls hW hS hl => lv_astore_n (lv' := [(2, .ref x), (0, .ref b), (1, .ref a1)]) hC.1 hC.2.1 hdg rfl hl (by decide) rfl (fun ls1 h1 => k H locs ls1 hW hS ⟨h1.1, h1.2.1, fun q hq => h1.2.2 q (by
    have h : q = (0, .ref b) ∨ q = (1, .ref a1) ∨ q = (2, .ref x) := by simpa using hq
    rcases h with z | z | z <;> subst z <;> simp)⟩)
theorem l_ist3 (hC : LC X p s m c b Ln xs) {a1 a2 : Nat} {x : Int32} (hdg : decode code pc = .ok (.istore_n 3, 1)) (k : LE X p e s m below meth c b Z (pc + 1) [.ref b, .ref a1, .ref a2, .int x] st sh I L c0 s0) : LE X p e s m below meth c b Z pc [.ref b, .ref a1, .ref a2] (.int x :: st) sh I L c0 s0 :=
  fun H locs ls hW hS hl => lv_istore_n (lv' := [(3, .int x), (0, .ref b), (1, .ref a1), (2, .ref a2)]) hC.1 hC.2.1 hdg rfl hl (by decide) rfl (fun ls1 h1 => k H locs ls1 hW hS ⟨h1.1, h1.2.1, fun q hq => h1.2.2 q (by
    have h : q = (0, .ref b) ∨ q = (1, .ref a1) ∨ q = (2, .ref a2) ∨ q = (3, .int x) := by simpa using hq
    rcases h with z | z | z | z <;> subst z <;> simp)⟩)
theorem sub4 {n i : Nat} (hn : n ≤ 2048) (hi : i ≤ 4000) (h : ¬ nI n - nI 4 < nI i) : i + 4 ≤ n := by
  rw [Int32.lt_iff_toInt_lt, nI_toInt (n := i) (by omega)] at h
  by_cases h4 : 4 ≤ n
  · have e : nI n - nI 4 = nI (n - 4) := pk_sub h4
    rw [e, nI_toInt (by omega)] at h
    omega
  · rcases (by omega : n = 0 ∨ n = 1 ∨ n = 2 ∨ n = 3) with z | z | z | z <;> subst z
    · have d : (nI 0 - nI 4).toInt = -4 := by decide
      omega
    · have d : (nI 1 - nI 4).toInt = -3 := by decide
      omega
    · have d : (nI 2 - nI 4).toInt = -2 := by decide
      omega
    · have d : (nI 3 - nI 4).toInt = -1 := by decide
      omega
theorem law_loop (hC : LC X p s m c b Ln xs) (hn : Ln ≤ 2048) (hZ : ∀ (pc : Nat) (H : Heap) (ls : Array Slot), decode code pc = .ok (.ireturn, 1) → W p X.1 e room_1 s m #[Value.ref b] below meth c H [] 600000 7302250 Z (F0 m pc ls [.int 1])) : ∀ (z i : Nat) (I : MI) (L : ML), Ln < i + 4 * z → i ≤ 3000 → REL I L → LE X p e s m below meth c b Z 18 [.ref b, .ref (X.2.1 + 0), .ref (X.2.1 + 42), .int (nI i)] [] shF I L 68 6589 := by
  intro z
  induction z with
  | zero =>
    intro i I L h1 h2 hR
    refine l_iload_n hC (pc := 18) dL_law_18 rfl ?_
    refine l_aload_n hC (pc := 19) dL_law_19 rfl ?_
    refine l_alen hC (pc := 20) dL_law_20 ?_
    refine l_iconst hC (pc := 21) (v := nI 4) dL_law_21 rfl ?_
    refine l_isub hC (pc := 22) dL_law_22 ?_
    refine l_icmp_gt hC (pc := 23) (tgt := 1004) dL_law_23 (by decide) (fun _ => ?_) (fun q => ?_)
    · refine l_iconst hC (pc := 1004) (v := nI 1) dL_law_1004 rfl ?_
      exact fun H locs ls hW hS hl => va_forget (fun q hq => by rw [← hC.2.2.2.2.2.2.2.2]; exact hS.2.2 q hq) (W.widen (k := 600000) (n := 7302250) (by decide) (by decide) (hZ 1005 H ls dL_law_1005))
    · exact absurd (sub4 hn (by omega) q) (by omega)
  | succ z ih =>
    intro i I L h1 h2 hR
    refine l_iload_n hC (pc := 18) dL_law_18 rfl ?_
    refine l_aload_n hC (pc := 19) dL_law_19 rfl ?_
    refine l_alen hC (pc := 20) dL_law_20 ?_
    refine l_iconst hC (pc := 21) (v := nI 4) dL_law_21 rfl ?_
    refine l_isub hC (pc := 22) dL_law_22 ?_
    refine l_icmp_gt hC (pc := 23) (tgt := 1004) dL_law_23 (by decide) (fun _ => ?_) (fun q => ?_)
    · refine l_iconst hC (pc := 1004) (v := nI 1) dL_law_1004 rfl ?_
      exact fun H locs ls hW hS hl => va_forget (fun q hq => by rw [← hC.2.2.2.2.2.2.2.2]; exact hS.2.2 q hq) (W.widen (k := 600000) (n := 7302250) (by decide) (by decide) (hZ 1005 H ls dL_law_1005))
    · have hi4 := sub4 hn (by omega) q
      have h998 : ∀ (I : MI) (L : ML), REL I L → LE X p e s m below meth c b Z 998 [.ref b, .ref (X.2.1 + 0), .ref (X.2.1 + 42), .int (nI i)] [] shF I L 68 6589 := fun I L hR => l_iinc3 hC (pc := 998) (v := nI (i + 4)) dL_law_998 (ii4 i) (l_goto hC (pc := 1001) (tgt := 18) dL_law_1001 (by decide) (ih (i + 4) I L (by omega) (by omega) hR))
      refine l_aload_n hC (pc := 26) dL_law_26 rfl ?_
      refine l_iload_n hC (pc := 27) dL_law_27 rfl ?_
      refine l_iald hC (pc := 28) (j := i) dL_law_28 rfl (by omega) (by omega) ?_
      refine l_bipush hC (pc := 29) dL_law_29 bp_31 ?_
      refine l_iand hC (pc := 31) dL_law_31 ?_
      generalize xs i &&& nI 31 = x
      by_cases hx : x.toInt < 0 ∨ 26 < x.toInt
      · exact l_swOut hC (pc := 32) (tgt := 998) dL_law_32 hx (by decide) (h998 I L hR)
      · obtain ⟨k, hk, rfl⟩ : ∃ k, k < 27 ∧ x = nI k := ⟨x.toInt.toNat, by omega, i_eq (by omega) (by omega)⟩
        rcases (by omega : k = 0 ∨ k = 1 ∨ k = 2 ∨ k = 3 ∨ k = 4 ∨ k = 5 ∨ k = 6 ∨ k = 7 ∨ k = 8 ∨ k = 9 ∨ k = 10 ∨ k = 11 ∨ k = 12 ∨ k = 13 ∨ k = 14 ∨ k = 15 ∨ k = 16 ∨ k = 17 ∨ k = 18 ∨ k = 19 ∨ k = 20 ∨ k = 21 ∨ k = 22 ∨ k = 23 ∨ k = 24 ∨ k = 25 ∨ k = 26) with rfl | rfl | rfl | rfl | rfl | rfl | rfl | rfl | rfl | rfl | rfl | rfl | rfl | rfl | rfl | rfl | rfl | rfl | rfl | rfl | rfl | rfl | rfl | rfl | rfl | rfl | rfl
        · refine l_swIn hC (pc := 32) (off := 124) (tgt := 156) dL_law_32 (by decide) (by decide) (by decide) (by decide) ?_
          refine l_aload_n hC (pc := 156) dL_law_156 rfl ?_
          refine l_aload_n hC (pc := 157) dL_law_157 rfl ?_
          refine l_iload_n hC (pc := 158) dL_law_158 rfl ?_
          refine l_iconst hC (pc := 159) (v := nI 1) dL_law_159 rfl ?_
          refine l_iadd hC (pc := 160) dL_law_160 ?_
          refine l_iald hC (pc := 161) (j := i + 1) dL_law_161 (nI_add i 1) (by omega) (by omega) ?_
          obtain ⟨v, I1, L1, I2, L2, S1, S2, R2⟩ := a_type X I L hR (xs (i + 1))
          refine l_callV hC (pc := 162) (N := mX5_type) (bb := 0) (av := [.int (xs (i + 1))]) (rest := []) S1 okX5_type lkL_13 rfl (by decide) rfl rfl rfl (Nat.le_of_ble_eq_true rfl) ⟨by decide, by decide⟩ ⟨by decide, by decide⟩ dL_law_162 ?_
          refine l_aload_n hC (pc := 165) dL_law_165 rfl ?_
          refine l_aload_n hC (pc := 166) dL_law_166 rfl ?_
          refine l_iload_n hC (pc := 167) dL_law_167 rfl ?_
          refine l_iconst hC (pc := 168) (v := nI 1) dL_law_168 rfl ?_
          refine l_iadd hC (pc := 169) dL_law_169 ?_
          refine l_iald hC (pc := 170) (j := i + 1) dL_law_170 (nI_add i 1) (by omega) (by omega) ?_
          refine l_callV hC (pc := 171) (N := mX6_type) (bb := 42) (av := [.int (xs (i + 1))]) (rest := [.int v]) S2 okX6_type lkL_17 rfl (by decide) rfl rfl rfl (Nat.le_of_ble_eq_true rfl) ⟨by decide, by decide⟩ ⟨by decide, by decide⟩ dL_law_171 ?_
          exact l_icmp_eq hC (pc := 174) (tgt := 998) dL_law_174 (by decide) (fun _ => h998 I2 L2 R2) (fun q => absurd rfl q)
        · refine l_swIn hC (pc := 32) (off := 147) (tgt := 179) dL_law_32 (by decide) (by decide) (by decide) (by decide) ?_
          refine l_aload_n hC (pc := 179) dL_law_179 rfl ?_
          obtain ⟨v, I1, L1, I2, L2, S1, S2, R2⟩ := a_clear X I L hR
          refine l_callV hC (pc := 180) (N := mX5_clear) (bb := 0) (av := []) (rest := []) S1 okX5_clear lkL_18 rfl (by decide) rfl rfl rfl (Nat.le_of_ble_eq_true rfl) ⟨by decide, by decide⟩ ⟨by decide, by decide⟩ dL_law_180 ?_
          refine l_aload_n hC (pc := 183) dL_law_183 rfl ?_
          refine l_callV hC (pc := 184) (N := mX6_clear) (bb := 42) (av := []) (rest := [.int v]) S2 okX6_clear lkL_22 rfl (by decide) rfl rfl rfl (Nat.le_of_ble_eq_true rfl) ⟨by decide, by decide⟩ ⟨by decide, by decide⟩ dL_law_184 ?_
          exact l_icmp_eq hC (pc := 187) (tgt := 998) dL_law_187 (by decide) (fun _ => h998 I2 L2 R2) (fun q => absurd rfl q)
        · refine l_swIn hC (pc := 32) (off := 160) (tgt := 192) dL_law_32 (by decide) (by decide) (by decide) (by decide) ?_
          refine l_aload_n hC (pc := 192) dL_law_192 rfl ?_
          obtain ⟨v, I1, L1, I2, L2, S1, S2, R2⟩ := a_desk X I L hR
          refine l_callV hC (pc := 193) (N := mX5_desk) (bb := 0) (av := []) (rest := []) S1 okX5_desk lkL_23 rfl (by decide) rfl rfl rfl (Nat.le_of_ble_eq_true rfl) ⟨by decide, by decide⟩ ⟨by decide, by decide⟩ dL_law_193 ?_
          refine l_aload_n hC (pc := 196) dL_law_196 rfl ?_
          refine l_callV hC (pc := 197) (N := mX6_desk) (bb := 42) (av := []) (rest := [.int v]) S2 okX6_desk lkL_26 rfl (by decide) rfl rfl rfl (Nat.le_of_ble_eq_true rfl) ⟨by decide, by decide⟩ ⟨by decide, by decide⟩ dL_law_197 ?_
          exact l_icmp_eq hC (pc := 200) (tgt := 998) dL_law_200 (by decide) (fun _ => h998 I2 L2 R2) (fun q => absurd rfl q)
        · refine l_swIn hC (pc := 32) (off := 173) (tgt := 205) dL_law_32 (by decide) (by decide) (by decide) (by decide) ?_
          refine l_aload_n hC (pc := 205) dL_law_205 rfl ?_
          refine l_aload_n hC (pc := 206) dL_law_206 rfl ?_
          refine l_iload_n hC (pc := 207) dL_law_207 rfl ?_
          refine l_iconst hC (pc := 208) (v := nI 1) dL_law_208 rfl ?_
          refine l_iadd hC (pc := 209) dL_law_209 ?_
          refine l_iald hC (pc := 210) (j := i + 1) dL_law_210 (nI_add i 1) (by omega) (by omega) ?_
          refine l_aload_n hC (pc := 211) dL_law_211 rfl ?_
          refine l_iload_n hC (pc := 212) dL_law_212 rfl ?_
          refine l_iconst hC (pc := 213) (v := nI 2) dL_law_213 rfl ?_
          refine l_iadd hC (pc := 214) dL_law_214 ?_
          refine l_iald hC (pc := 215) (j := i + 2) dL_law_215 (nI_add i 2) (by omega) (by omega) ?_
          obtain ⟨v, I1, L1, I2, L2, S1, S2, R2⟩ := a_source X I L hR (xs (i + 1)) (xs (i + 2))
          refine l_callV hC (pc := 216) (N := mX5_source) (bb := 0) (av := [.int (xs (i + 1)), .int (xs (i + 2))]) (rest := []) S1 okX5_source lkL_27 rfl (by decide) rfl rfl rfl (Nat.le_of_ble_eq_true rfl) ⟨by decide, by decide⟩ ⟨by decide, by decide⟩ dL_law_216 ?_
          refine l_aload_n hC (pc := 219) dL_law_219 rfl ?_
          refine l_aload_n hC (pc := 220) dL_law_220 rfl ?_
          refine l_iload_n hC (pc := 221) dL_law_221 rfl ?_
          refine l_iconst hC (pc := 222) (v := nI 1) dL_law_222 rfl ?_
          refine l_iadd hC (pc := 223) dL_law_223 ?_
          refine l_iald hC (pc := 224) (j := i + 1) dL_law_224 (nI_add i 1) (by omega) (by omega) ?_
          refine l_aload_n hC (pc := 225) dL_law_225 rfl ?_
          refine l_iload_n hC (pc := 226) dL_law_226 rfl ?_
          refine l_iconst hC (pc := 227) (v := nI 2) dL_law_227 rfl ?_
          refine l_iadd hC (pc := 228) dL_law_228 ?_
          refine l_iald hC (pc := 229) (j := i + 2) dL_law_229 (nI_add i 2) (by omega) (by omega) ?_
          refine l_callV hC (pc := 230) (N := mX6_source) (bb := 42) (av := [.int (xs (i + 1)), .int (xs (i + 2))]) (rest := [.long v]) S2 okX6_source lkL_31 rfl (by decide) rfl rfl rfl (Nat.le_of_ble_eq_true rfl) ⟨by decide, by decide⟩ ⟨by decide, by decide⟩ dL_law_230 ?_
          refine l_lcmp hC (pc := 233) dL_law_233 ?_
          exact l_if_eq hC (pc := 234) (tgt := 998) dL_law_234 (by decide) (fun _ => h998 I2 L2 R2) (fun q => absurd rfl (lg_ne0 q))
        · refine l_swIn hC (pc := 32) (off := 207) (tgt := 239) dL_law_32 (by decide) (by decide) (by decide) (by decide) ?_
          refine l_aload_n hC (pc := 239) dL_law_239 rfl ?_
          refine l_aload_n hC (pc := 240) dL_law_240 rfl ?_
          refine l_iload_n hC (pc := 241) dL_law_241 rfl ?_
          refine l_iconst hC (pc := 242) (v := nI 1) dL_law_242 rfl ?_
          refine l_iadd hC (pc := 243) dL_law_243 ?_
          refine l_iald hC (pc := 244) (j := i + 1) dL_law_244 (nI_add i 1) (by omega) (by omega) ?_
          refine l_aload_n hC (pc := 245) dL_law_245 rfl ?_
          refine l_iload_n hC (pc := 246) dL_law_246 rfl ?_
          refine l_iconst hC (pc := 247) (v := nI 2) dL_law_247 rfl ?_
          refine l_iadd hC (pc := 248) dL_law_248 ?_
          refine l_iald hC (pc := 249) (j := i + 2) dL_law_249 (nI_add i 2) (by omega) (by omega) ?_
          obtain ⟨v, I1, L1, I2, L2, S1, S2, R2⟩ := a_joint X I L hR (xs (i + 1)) (xs (i + 2))
          refine l_callV hC (pc := 250) (N := mX5_joint) (bb := 0) (av := [.int (xs (i + 1)), .int (xs (i + 2))]) (rest := []) S1 okX5_joint lkL_32 rfl (by decide) rfl rfl rfl (Nat.le_of_ble_eq_true rfl) ⟨by decide, by decide⟩ ⟨by decide, by decide⟩ dL_law_250 ?_
          refine l_aload_n hC (pc := 253) dL_law_253 rfl ?_
          refine l_aload_n hC (pc := 254) dL_law_254 rfl ?_
          refine l_iload_n hC (pc := 255) dL_law_255 rfl ?_
          refine l_iconst hC (pc := 256) (v := nI 1) dL_law_256 rfl ?_
          refine l_iadd hC (pc := 257) dL_law_257 ?_
          refine l_iald hC (pc := 258) (j := i + 1) dL_law_258 (nI_add i 1) (by omega) (by omega) ?_
          refine l_aload_n hC (pc := 259) dL_law_259 rfl ?_
          refine l_iload_n hC (pc := 260) dL_law_260 rfl ?_
          refine l_iconst hC (pc := 261) (v := nI 2) dL_law_261 rfl ?_
          refine l_iadd hC (pc := 262) dL_law_262 ?_
          refine l_iald hC (pc := 263) (j := i + 2) dL_law_263 (nI_add i 2) (by omega) (by omega) ?_
          refine l_callV hC (pc := 264) (N := mX6_joint) (bb := 42) (av := [.int (xs (i + 1)), .int (xs (i + 2))]) (rest := [.long v]) S2 okX6_joint lkL_35 rfl (by decide) rfl rfl rfl (Nat.le_of_ble_eq_true rfl) ⟨by decide, by decide⟩ ⟨by decide, by decide⟩ dL_law_264 ?_
          refine l_lcmp hC (pc := 267) dL_law_267 ?_
          exact l_if_eq hC (pc := 268) (tgt := 998) dL_law_268 (by decide) (fun _ => h998 I2 L2 R2) (fun q => absurd rfl (lg_ne0 q))
        · refine l_swIn hC (pc := 32) (off := 241) (tgt := 273) dL_law_32 (by decide) (by decide) (by decide) (by decide) ?_
          refine l_aload_n hC (pc := 273) dL_law_273 rfl ?_
          refine l_aload_n hC (pc := 274) dL_law_274 rfl ?_
          refine l_iload_n hC (pc := 275) dL_law_275 rfl ?_
          refine l_iconst hC (pc := 276) (v := nI 1) dL_law_276 rfl ?_
          refine l_iadd hC (pc := 277) dL_law_277 ?_
          refine l_iald hC (pc := 278) (j := i + 1) dL_law_278 (nI_add i 1) (by omega) (by omega) ?_
          refine l_aload_n hC (pc := 279) dL_law_279 rfl ?_
          refine l_iload_n hC (pc := 280) dL_law_280 rfl ?_
          refine l_iconst hC (pc := 281) (v := nI 2) dL_law_281 rfl ?_
          refine l_iadd hC (pc := 282) dL_law_282 ?_
          refine l_iald hC (pc := 283) (j := i + 2) dL_law_283 (nI_add i 2) (by omega) (by omega) ?_
          obtain ⟨v, I1, L1, I2, L2, S1, S2, R2⟩ := a_values X I L hR (xs (i + 1)) (xs (i + 2))
          refine l_callV hC (pc := 284) (N := mX5_values) (bb := 0) (av := [.int (xs (i + 1)), .int (xs (i + 2))]) (rest := []) S1 okX5_values lkL_36 rfl (by decide) rfl rfl rfl (Nat.le_of_ble_eq_true rfl) ⟨by decide, by decide⟩ ⟨by decide, by decide⟩ dL_law_284 ?_
          refine l_aload_n hC (pc := 287) dL_law_287 rfl ?_
          refine l_aload_n hC (pc := 288) dL_law_288 rfl ?_
          refine l_iload_n hC (pc := 289) dL_law_289 rfl ?_
          refine l_iconst hC (pc := 290) (v := nI 1) dL_law_290 rfl ?_
          refine l_iadd hC (pc := 291) dL_law_291 ?_
          refine l_iald hC (pc := 292) (j := i + 1) dL_law_292 (nI_add i 1) (by omega) (by omega) ?_
          refine l_aload_n hC (pc := 293) dL_law_293 rfl ?_
          refine l_iload_n hC (pc := 294) dL_law_294 rfl ?_
          refine l_iconst hC (pc := 295) (v := nI 2) dL_law_295 rfl ?_
          refine l_iadd hC (pc := 296) dL_law_296 ?_
          refine l_iald hC (pc := 297) (j := i + 2) dL_law_297 (nI_add i 2) (by omega) (by omega) ?_
          refine l_callV hC (pc := 298) (N := mX6_values) (bb := 42) (av := [.int (xs (i + 1)), .int (xs (i + 2))]) (rest := [.int v]) S2 okX6_values lkL_40 rfl (by decide) rfl rfl rfl (Nat.le_of_ble_eq_true rfl) ⟨by decide, by decide⟩ ⟨by decide, by decide⟩ dL_law_298 ?_
          exact l_icmp_eq hC (pc := 301) (tgt := 998) dL_law_301 (by decide) (fun _ => h998 I2 L2 R2) (fun q => absurd rfl q)
        · refine l_swIn hC (pc := 32) (off := 274) (tgt := 306) dL_law_32 (by decide) (by decide) (by decide) (by decide) ?_
          refine l_aload_n hC (pc := 306) dL_law_306 rfl ?_
          refine l_aload_n hC (pc := 307) dL_law_307 rfl ?_
          refine l_iload_n hC (pc := 308) dL_law_308 rfl ?_
          refine l_iconst hC (pc := 309) (v := nI 1) dL_law_309 rfl ?_
          refine l_iadd hC (pc := 310) dL_law_310 ?_
          refine l_iald hC (pc := 311) (j := i + 1) dL_law_311 (nI_add i 1) (by omega) (by omega) ?_
          refine l_aload_n hC (pc := 312) dL_law_312 rfl ?_
          refine l_iload_n hC (pc := 313) dL_law_313 rfl ?_
          refine l_iconst hC (pc := 314) (v := nI 2) dL_law_314 rfl ?_
          refine l_iadd hC (pc := 315) dL_law_315 ?_
          refine l_iald hC (pc := 316) (j := i + 2) dL_law_316 (nI_add i 2) (by omega) (by omega) ?_
          obtain ⟨v, I1, L1, I2, L2, S1, S2, R2⟩ := a_spreads X I L hR (xs (i + 1)) (xs (i + 2))
          refine l_callV hC (pc := 317) (N := mX5_spreads) (bb := 0) (av := [.int (xs (i + 1)), .int (xs (i + 2))]) (rest := []) S1 okX5_spreads lkL_41 rfl (by decide) rfl rfl rfl (Nat.le_of_ble_eq_true rfl) ⟨by decide, by decide⟩ ⟨by decide, by decide⟩ dL_law_317 ?_
          refine l_aload_n hC (pc := 320) dL_law_320 rfl ?_
          refine l_aload_n hC (pc := 321) dL_law_321 rfl ?_
          refine l_iload_n hC (pc := 322) dL_law_322 rfl ?_
          refine l_iconst hC (pc := 323) (v := nI 1) dL_law_323 rfl ?_
          refine l_iadd hC (pc := 324) dL_law_324 ?_
          refine l_iald hC (pc := 325) (j := i + 1) dL_law_325 (nI_add i 1) (by omega) (by omega) ?_
          refine l_aload_n hC (pc := 326) dL_law_326 rfl ?_
          refine l_iload_n hC (pc := 327) dL_law_327 rfl ?_
          refine l_iconst hC (pc := 328) (v := nI 2) dL_law_328 rfl ?_
          refine l_iadd hC (pc := 329) dL_law_329 ?_
          refine l_iald hC (pc := 330) (j := i + 2) dL_law_330 (nI_add i 2) (by omega) (by omega) ?_
          refine l_callV hC (pc := 331) (N := mX6_spreads) (bb := 42) (av := [.int (xs (i + 1)), .int (xs (i + 2))]) (rest := [.int v]) S2 okX6_spreads lkL_44 rfl (by decide) rfl rfl rfl (Nat.le_of_ble_eq_true rfl) ⟨by decide, by decide⟩ ⟨by decide, by decide⟩ dL_law_331 ?_
          exact l_icmp_eq hC (pc := 334) (tgt := 998) dL_law_334 (by decide) (fun _ => h998 I2 L2 R2) (fun q => absurd rfl q)
        · refine l_swIn hC (pc := 32) (off := 307) (tgt := 339) dL_law_32 (by decide) (by decide) (by decide) (by decide) ?_
          refine l_aload_n hC (pc := 339) dL_law_339 rfl ?_
          refine l_aload_n hC (pc := 340) dL_law_340 rfl ?_
          refine l_iload_n hC (pc := 341) dL_law_341 rfl ?_
          refine l_iconst hC (pc := 342) (v := nI 1) dL_law_342 rfl ?_
          refine l_iadd hC (pc := 343) dL_law_343 ?_
          refine l_iald hC (pc := 344) (j := i + 1) dL_law_344 (nI_add i 1) (by omega) (by omega) ?_
          refine l_aload_n hC (pc := 345) dL_law_345 rfl ?_
          refine l_iload_n hC (pc := 346) dL_law_346 rfl ?_
          refine l_iconst hC (pc := 347) (v := nI 2) dL_law_347 rfl ?_
          refine l_iadd hC (pc := 348) dL_law_348 ?_
          refine l_iald hC (pc := 349) (j := i + 2) dL_law_349 (nI_add i 2) (by omega) (by omega) ?_
          refine l_aload_n hC (pc := 350) dL_law_350 rfl ?_
          refine l_iload_n hC (pc := 351) dL_law_351 rfl ?_
          refine l_iconst hC (pc := 352) (v := nI 3) dL_law_352 rfl ?_
          refine l_iadd hC (pc := 353) dL_law_353 ?_
          refine l_iald hC (pc := 354) (j := i + 3) dL_law_354 (nI_add i 3) (by omega) (by omega) ?_
          obtain ⟨v, I1, L1, I2, L2, S1, S2, R2⟩ := a_joints X I L hR (xs (i + 1)) (xs (i + 2)) (xs (i + 3))
          refine l_callV hC (pc := 355) (N := mX5_joints) (bb := 0) (av := [.int (xs (i + 1)), .int (xs (i + 2)), .int (xs (i + 3))]) (rest := []) S1 okX5_joints lkL_45 rfl (by decide) rfl rfl rfl (Nat.le_of_ble_eq_true rfl) ⟨by decide, by decide⟩ ⟨by decide, by decide⟩ dL_law_355 ?_
          refine l_aload_n hC (pc := 358) dL_law_358 rfl ?_
          refine l_aload_n hC (pc := 359) dL_law_359 rfl ?_
          refine l_iload_n hC (pc := 360) dL_law_360 rfl ?_
          refine l_iconst hC (pc := 361) (v := nI 1) dL_law_361 rfl ?_
          refine l_iadd hC (pc := 362) dL_law_362 ?_
          refine l_iald hC (pc := 363) (j := i + 1) dL_law_363 (nI_add i 1) (by omega) (by omega) ?_
          refine l_aload_n hC (pc := 364) dL_law_364 rfl ?_
          refine l_iload_n hC (pc := 365) dL_law_365 rfl ?_
          refine l_iconst hC (pc := 366) (v := nI 2) dL_law_366 rfl ?_
          refine l_iadd hC (pc := 367) dL_law_367 ?_
          refine l_iald hC (pc := 368) (j := i + 2) dL_law_368 (nI_add i 2) (by omega) (by omega) ?_
          refine l_aload_n hC (pc := 369) dL_law_369 rfl ?_
          refine l_iload_n hC (pc := 370) dL_law_370 rfl ?_
          refine l_iconst hC (pc := 371) (v := nI 3) dL_law_371 rfl ?_
          refine l_iadd hC (pc := 372) dL_law_372 ?_
          refine l_iald hC (pc := 373) (j := i + 3) dL_law_373 (nI_add i 3) (by omega) (by omega) ?_
          refine l_callV hC (pc := 374) (N := mX6_joints) (bb := 42) (av := [.int (xs (i + 1)), .int (xs (i + 2)), .int (xs (i + 3))]) (rest := [.int v]) S2 okX6_joints lkL_49 rfl (by decide) rfl rfl rfl (Nat.le_of_ble_eq_true rfl) ⟨by decide, by decide⟩ ⟨by decide, by decide⟩ dL_law_374 ?_
          exact l_icmp_eq hC (pc := 377) (tgt := 998) dL_law_377 (by decide) (fun _ => h998 I2 L2 R2) (fun q => absurd rfl q)
        · refine l_swIn hC (pc := 32) (off := 350) (tgt := 382) dL_law_32 (by decide) (by decide) (by decide) (by decide) ?_
          refine l_aload_n hC (pc := 382) dL_law_382 rfl ?_
          obtain ⟨v, I1, L1, I2, L2, S1, S2, R2⟩ := a_undo X I L hR
          refine l_callV hC (pc := 383) (N := mX5_undo) (bb := 0) (av := []) (rest := []) S1 okX5_undo lkL_50 rfl (by decide) rfl rfl rfl (Nat.le_of_ble_eq_true rfl) ⟨by decide, by decide⟩ ⟨by decide, by decide⟩ dL_law_383 ?_
          refine l_aload_n hC (pc := 386) dL_law_386 rfl ?_
          refine l_callV hC (pc := 387) (N := mX6_undo) (bb := 42) (av := []) (rest := [.int v]) S2 okX6_undo lkL_53 rfl (by decide) rfl rfl rfl (Nat.le_of_ble_eq_true rfl) ⟨by decide, by decide⟩ ⟨by decide, by decide⟩ dL_law_387 ?_
          exact l_icmp_eq hC (pc := 390) (tgt := 998) dL_law_390 (by decide) (fun _ => h998 I2 L2 R2) (fun q => absurd rfl q)
        · refine l_swIn hC (pc := 32) (off := 363) (tgt := 395) dL_law_32 (by decide) (by decide) (by decide) (by decide) ?_
          refine l_aload_n hC (pc := 395) dL_law_395 rfl ?_
          refine l_aload_n hC (pc := 396) dL_law_396 rfl ?_
          refine l_iload_n hC (pc := 397) dL_law_397 rfl ?_
          refine l_iconst hC (pc := 398) (v := nI 1) dL_law_398 rfl ?_
          refine l_iadd hC (pc := 399) dL_law_399 ?_
          refine l_iald hC (pc := 400) (j := i + 1) dL_law_400 (nI_add i 1) (by omega) (by omega) ?_
          obtain ⟨v, I1, L1, I2, L2, S1, S2, R2⟩ := a_value X I L hR (xs (i + 1))
          refine l_callV hC (pc := 401) (N := mX5_value) (bb := 0) (av := [.int (xs (i + 1))]) (rest := []) S1 okX5_value lkL_54 rfl (by decide) rfl rfl rfl (Nat.le_of_ble_eq_true rfl) ⟨by decide, by decide⟩ ⟨by decide, by decide⟩ dL_law_401 ?_
          refine l_aload_n hC (pc := 404) dL_law_404 rfl ?_
          refine l_aload_n hC (pc := 405) dL_law_405 rfl ?_
          refine l_iload_n hC (pc := 406) dL_law_406 rfl ?_
          refine l_iconst hC (pc := 407) (v := nI 1) dL_law_407 rfl ?_
          refine l_iadd hC (pc := 408) dL_law_408 ?_
          refine l_iald hC (pc := 409) (j := i + 1) dL_law_409 (nI_add i 1) (by omega) (by omega) ?_
          refine l_callV hC (pc := 410) (N := mX6_value) (bb := 42) (av := [.int (xs (i + 1))]) (rest := [.long v]) S2 okX6_value lkL_58 rfl (by decide) rfl rfl rfl (Nat.le_of_ble_eq_true rfl) ⟨by decide, by decide⟩ ⟨by decide, by decide⟩ dL_law_410 ?_
          refine l_lcmp hC (pc := 413) dL_law_413 ?_
          exact l_if_eq hC (pc := 414) (tgt := 998) dL_law_414 (by decide) (fun _ => h998 I2 L2 R2) (fun q => absurd rfl (lg_ne0 q))
        · refine l_swIn hC (pc := 32) (off := 387) (tgt := 419) dL_law_32 (by decide) (by decide) (by decide) (by decide) ?_
          refine l_aload_n hC (pc := 419) dL_law_419 rfl ?_
          refine l_aload_n hC (pc := 420) dL_law_420 rfl ?_
          refine l_iload_n hC (pc := 421) dL_law_421 rfl ?_
          refine l_iconst hC (pc := 422) (v := nI 1) dL_law_422 rfl ?_
          refine l_iadd hC (pc := 423) dL_law_423 ?_
          refine l_iald hC (pc := 424) (j := i + 1) dL_law_424 (nI_add i 1) (by omega) (by omega) ?_
          refine l_aload_n hC (pc := 425) dL_law_425 rfl ?_
          refine l_iload_n hC (pc := 426) dL_law_426 rfl ?_
          refine l_iconst hC (pc := 427) (v := nI 2) dL_law_427 rfl ?_
          refine l_iadd hC (pc := 428) dL_law_428 ?_
          refine l_iald hC (pc := 429) (j := i + 2) dL_law_429 (nI_add i 2) (by omega) (by omega) ?_
          obtain ⟨v, I1, L1, I2, L2, S1, S2, R2⟩ := a_slope X I L hR (xs (i + 1)) (xs (i + 2))
          refine l_callV hC (pc := 430) (N := mX5_slope) (bb := 0) (av := [.int (xs (i + 1)), .int (xs (i + 2))]) (rest := []) S1 okX5_slope lkL_59 rfl (by decide) rfl rfl rfl (Nat.le_of_ble_eq_true rfl) ⟨by decide, by decide⟩ ⟨by decide, by decide⟩ dL_law_430 ?_
          refine l_aload_n hC (pc := 433) dL_law_433 rfl ?_
          refine l_aload_n hC (pc := 434) dL_law_434 rfl ?_
          refine l_iload_n hC (pc := 435) dL_law_435 rfl ?_
          refine l_iconst hC (pc := 436) (v := nI 1) dL_law_436 rfl ?_
          refine l_iadd hC (pc := 437) dL_law_437 ?_
          refine l_iald hC (pc := 438) (j := i + 1) dL_law_438 (nI_add i 1) (by omega) (by omega) ?_
          refine l_aload_n hC (pc := 439) dL_law_439 rfl ?_
          refine l_iload_n hC (pc := 440) dL_law_440 rfl ?_
          refine l_iconst hC (pc := 441) (v := nI 2) dL_law_441 rfl ?_
          refine l_iadd hC (pc := 442) dL_law_442 ?_
          refine l_iald hC (pc := 443) (j := i + 2) dL_law_443 (nI_add i 2) (by omega) (by omega) ?_
          refine l_callV hC (pc := 444) (N := mX6_slope) (bb := 42) (av := [.int (xs (i + 1)), .int (xs (i + 2))]) (rest := [.long v]) S2 okX6_slope lkL_62 rfl (by decide) rfl rfl rfl (Nat.le_of_ble_eq_true rfl) ⟨by decide, by decide⟩ ⟨by decide, by decide⟩ dL_law_444 ?_
          refine l_lcmp hC (pc := 447) dL_law_447 ?_
          exact l_if_eq hC (pc := 448) (tgt := 998) dL_law_448 (by decide) (fun _ => h998 I2 L2 R2) (fun q => absurd rfl (lg_ne0 q))
        · refine l_swIn hC (pc := 32) (off := 421) (tgt := 453) dL_law_32 (by decide) (by decide) (by decide) (by decide) ?_
          refine l_aload_n hC (pc := 453) dL_law_453 rfl ?_
          refine l_aload_n hC (pc := 454) dL_law_454 rfl ?_
          refine l_iload_n hC (pc := 455) dL_law_455 rfl ?_
          refine l_iconst hC (pc := 456) (v := nI 1) dL_law_456 rfl ?_
          refine l_iadd hC (pc := 457) dL_law_457 ?_
          refine l_iald hC (pc := 458) (j := i + 1) dL_law_458 (nI_add i 1) (by omega) (by omega) ?_
          refine l_aload_n hC (pc := 459) dL_law_459 rfl ?_
          refine l_iload_n hC (pc := 460) dL_law_460 rfl ?_
          refine l_iconst hC (pc := 461) (v := nI 2) dL_law_461 rfl ?_
          refine l_iadd hC (pc := 462) dL_law_462 ?_
          refine l_iald hC (pc := 463) (j := i + 2) dL_law_463 (nI_add i 2) (by omega) (by omega) ?_
          refine l_aload_n hC (pc := 464) dL_law_464 rfl ?_
          refine l_iload_n hC (pc := 465) dL_law_465 rfl ?_
          refine l_iconst hC (pc := 466) (v := nI 3) dL_law_466 rfl ?_
          refine l_iadd hC (pc := 467) dL_law_467 ?_
          refine l_iald hC (pc := 468) (j := i + 3) dL_law_468 (nI_add i 3) (by omega) (by omega) ?_
          obtain ⟨v, I1, L1, I2, L2, S1, S2, R2⟩ := a_bend X I L hR (xs (i + 1)) (xs (i + 2)) (xs (i + 3))
          refine l_callV hC (pc := 469) (N := mX5_bend) (bb := 0) (av := [.int (xs (i + 1)), .int (xs (i + 2)), .int (xs (i + 3))]) (rest := []) S1 okX5_bend lkL_63 rfl (by decide) rfl rfl rfl (Nat.le_of_ble_eq_true rfl) ⟨by decide, by decide⟩ ⟨by decide, by decide⟩ dL_law_469 ?_
          refine l_aload_n hC (pc := 472) dL_law_472 rfl ?_
          refine l_aload_n hC (pc := 473) dL_law_473 rfl ?_
          refine l_iload_n hC (pc := 474) dL_law_474 rfl ?_
          refine l_iconst hC (pc := 475) (v := nI 1) dL_law_475 rfl ?_
          refine l_iadd hC (pc := 476) dL_law_476 ?_
          refine l_iald hC (pc := 477) (j := i + 1) dL_law_477 (nI_add i 1) (by omega) (by omega) ?_
          refine l_aload_n hC (pc := 478) dL_law_478 rfl ?_
          refine l_iload_n hC (pc := 479) dL_law_479 rfl ?_
          refine l_iconst hC (pc := 480) (v := nI 2) dL_law_480 rfl ?_
          refine l_iadd hC (pc := 481) dL_law_481 ?_
          refine l_iald hC (pc := 482) (j := i + 2) dL_law_482 (nI_add i 2) (by omega) (by omega) ?_
          refine l_aload_n hC (pc := 483) dL_law_483 rfl ?_
          refine l_iload_n hC (pc := 484) dL_law_484 rfl ?_
          refine l_iconst hC (pc := 485) (v := nI 3) dL_law_485 rfl ?_
          refine l_iadd hC (pc := 486) dL_law_486 ?_
          refine l_iald hC (pc := 487) (j := i + 3) dL_law_487 (nI_add i 3) (by omega) (by omega) ?_
          refine l_callV hC (pc := 488) (N := mX6_bend) (bb := 42) (av := [.int (xs (i + 1)), .int (xs (i + 2)), .int (xs (i + 3))]) (rest := [.long v]) S2 okX6_bend lkL_67 rfl (by decide) rfl rfl rfl (Nat.le_of_ble_eq_true rfl) ⟨by decide, by decide⟩ ⟨by decide, by decide⟩ dL_law_488 ?_
          refine l_lcmp hC (pc := 491) dL_law_491 ?_
          exact l_if_eq hC (pc := 492) (tgt := 998) dL_law_492 (by decide) (fun _ => h998 I2 L2 R2) (fun q => absurd rfl (lg_ne0 q))
        · refine l_swIn hC (pc := 32) (off := 465) (tgt := 497) dL_law_32 (by decide) (by decide) (by decide) (by decide) ?_
          refine l_aload_n hC (pc := 497) dL_law_497 rfl ?_
          refine l_aload_n hC (pc := 498) dL_law_498 rfl ?_
          refine l_iload_n hC (pc := 499) dL_law_499 rfl ?_
          refine l_iconst hC (pc := 500) (v := nI 1) dL_law_500 rfl ?_
          refine l_iadd hC (pc := 501) dL_law_501 ?_
          refine l_iald hC (pc := 502) (j := i + 1) dL_law_502 (nI_add i 1) (by omega) (by omega) ?_
          obtain ⟨v, I1, L1, I2, L2, S1, S2, R2⟩ := a_whole X I L hR (xs (i + 1))
          refine l_callV hC (pc := 503) (N := mX5_whole) (bb := 0) (av := [.int (xs (i + 1))]) (rest := []) S1 okX5_whole lkL_68 rfl (by decide) rfl rfl rfl (Nat.le_of_ble_eq_true rfl) ⟨by decide, by decide⟩ ⟨by decide, by decide⟩ dL_law_503 ?_
          refine l_aload_n hC (pc := 506) dL_law_506 rfl ?_
          refine l_aload_n hC (pc := 507) dL_law_507 rfl ?_
          refine l_iload_n hC (pc := 508) dL_law_508 rfl ?_
          refine l_iconst hC (pc := 509) (v := nI 1) dL_law_509 rfl ?_
          refine l_iadd hC (pc := 510) dL_law_510 ?_
          refine l_iald hC (pc := 511) (j := i + 1) dL_law_511 (nI_add i 1) (by omega) (by omega) ?_
          refine l_callV hC (pc := 512) (N := mX6_whole) (bb := 42) (av := [.int (xs (i + 1))]) (rest := [.long v]) S2 okX6_whole lkL_71 rfl (by decide) rfl rfl rfl (Nat.le_of_ble_eq_true rfl) ⟨by decide, by decide⟩ ⟨by decide, by decide⟩ dL_law_512 ?_
          refine l_lcmp hC (pc := 515) dL_law_515 ?_
          exact l_if_eq hC (pc := 516) (tgt := 998) dL_law_516 (by decide) (fun _ => h998 I2 L2 R2) (fun q => absurd rfl (lg_ne0 q))
        · refine l_swIn hC (pc := 32) (off := 489) (tgt := 521) dL_law_32 (by decide) (by decide) (by decide) (by decide) ?_
          refine l_aload_n hC (pc := 521) dL_law_521 rfl ?_
          refine l_aload_n hC (pc := 522) dL_law_522 rfl ?_
          refine l_iload_n hC (pc := 523) dL_law_523 rfl ?_
          refine l_iconst hC (pc := 524) (v := nI 1) dL_law_524 rfl ?_
          refine l_iadd hC (pc := 525) dL_law_525 ?_
          refine l_iald hC (pc := 526) (j := i + 1) dL_law_526 (nI_add i 1) (by omega) (by omega) ?_
          refine l_aload_n hC (pc := 527) dL_law_527 rfl ?_
          refine l_iload_n hC (pc := 528) dL_law_528 rfl ?_
          refine l_iconst hC (pc := 529) (v := nI 2) dL_law_529 rfl ?_
          refine l_iadd hC (pc := 530) dL_law_530 ?_
          refine l_iald hC (pc := 531) (j := i + 2) dL_law_531 (nI_add i 2) (by omega) (by omega) ?_
          obtain ⟨v, I1, L1, I2, L2, S1, S2, R2⟩ := a_together X I L hR (xs (i + 1)) (xs (i + 2))
          refine l_callV hC (pc := 532) (N := mX5_together) (bb := 0) (av := [.int (xs (i + 1)), .int (xs (i + 2))]) (rest := []) S1 okX5_together lkL_72 rfl (by decide) rfl rfl rfl (Nat.le_of_ble_eq_true rfl) ⟨by decide, by decide⟩ ⟨by decide, by decide⟩ dL_law_532 ?_
          refine l_aload_n hC (pc := 535) dL_law_535 rfl ?_
          refine l_aload_n hC (pc := 536) dL_law_536 rfl ?_
          refine l_iload_n hC (pc := 537) dL_law_537 rfl ?_
          refine l_iconst hC (pc := 538) (v := nI 1) dL_law_538 rfl ?_
          refine l_iadd hC (pc := 539) dL_law_539 ?_
          refine l_iald hC (pc := 540) (j := i + 1) dL_law_540 (nI_add i 1) (by omega) (by omega) ?_
          refine l_aload_n hC (pc := 541) dL_law_541 rfl ?_
          refine l_iload_n hC (pc := 542) dL_law_542 rfl ?_
          refine l_iconst hC (pc := 543) (v := nI 2) dL_law_543 rfl ?_
          refine l_iadd hC (pc := 544) dL_law_544 ?_
          refine l_iald hC (pc := 545) (j := i + 2) dL_law_545 (nI_add i 2) (by omega) (by omega) ?_
          refine l_callV hC (pc := 546) (N := mX6_together) (bb := 42) (av := [.int (xs (i + 1)), .int (xs (i + 2))]) (rest := [.long v]) S2 okX6_together lkL_75 rfl (by decide) rfl rfl rfl (Nat.le_of_ble_eq_true rfl) ⟨by decide, by decide⟩ ⟨by decide, by decide⟩ dL_law_546 ?_
          refine l_lcmp hC (pc := 549) dL_law_549 ?_
          exact l_if_eq hC (pc := 550) (tgt := 998) dL_law_550 (by decide) (fun _ => h998 I2 L2 R2) (fun q => absurd rfl (lg_ne0 q))
        · refine l_swIn hC (pc := 32) (off := 523) (tgt := 555) dL_law_32 (by decide) (by decide) (by decide) (by decide) ?_
          refine l_aload_n hC (pc := 555) dL_law_555 rfl ?_
          refine l_aload_n hC (pc := 556) dL_law_556 rfl ?_
          refine l_iload_n hC (pc := 557) dL_law_557 rfl ?_
          refine l_iconst hC (pc := 558) (v := nI 1) dL_law_558 rfl ?_
          refine l_iadd hC (pc := 559) dL_law_559 ?_
          refine l_iald hC (pc := 560) (j := i + 1) dL_law_560 (nI_add i 1) (by omega) (by omega) ?_
          refine l_aload_n hC (pc := 561) dL_law_561 rfl ?_
          refine l_iload_n hC (pc := 562) dL_law_562 rfl ?_
          refine l_iconst hC (pc := 563) (v := nI 2) dL_law_563 rfl ?_
          refine l_iadd hC (pc := 564) dL_law_564 ?_
          refine l_iald hC (pc := 565) (j := i + 2) dL_law_565 (nI_add i 2) (by omega) (by omega) ?_
          obtain ⟨v, I1, L1, I2, L2, S1, S2, R2⟩ := a_share X I L hR (xs (i + 1)) (xs (i + 2))
          refine l_callV hC (pc := 566) (N := mX5_share) (bb := 0) (av := [.int (xs (i + 1)), .int (xs (i + 2))]) (rest := []) S1 okX5_share lkL_76 rfl (by decide) rfl rfl rfl (Nat.le_of_ble_eq_true rfl) ⟨by decide, by decide⟩ ⟨by decide, by decide⟩ dL_law_566 ?_
          refine l_aload_n hC (pc := 569) dL_law_569 rfl ?_
          refine l_aload_n hC (pc := 570) dL_law_570 rfl ?_
          refine l_iload_n hC (pc := 571) dL_law_571 rfl ?_
          refine l_iconst hC (pc := 572) (v := nI 1) dL_law_572 rfl ?_
          refine l_iadd hC (pc := 573) dL_law_573 ?_
          refine l_iald hC (pc := 574) (j := i + 1) dL_law_574 (nI_add i 1) (by omega) (by omega) ?_
          refine l_aload_n hC (pc := 575) dL_law_575 rfl ?_
          refine l_iload_n hC (pc := 576) dL_law_576 rfl ?_
          refine l_iconst hC (pc := 577) (v := nI 2) dL_law_577 rfl ?_
          refine l_iadd hC (pc := 578) dL_law_578 ?_
          refine l_iald hC (pc := 579) (j := i + 2) dL_law_579 (nI_add i 2) (by omega) (by omega) ?_
          refine l_callV hC (pc := 580) (N := mX6_share) (bb := 42) (av := [.int (xs (i + 1)), .int (xs (i + 2))]) (rest := [.long v]) S2 okX6_share lkL_79 rfl (by decide) rfl rfl rfl (Nat.le_of_ble_eq_true rfl) ⟨by decide, by decide⟩ ⟨by decide, by decide⟩ dL_law_580 ?_
          refine l_lcmp hC (pc := 583) dL_law_583 ?_
          exact l_if_eq hC (pc := 584) (tgt := 998) dL_law_584 (by decide) (fun _ => h998 I2 L2 R2) (fun q => absurd rfl (lg_ne0 q))
        · refine l_swIn hC (pc := 32) (off := 557) (tgt := 589) dL_law_32 (by decide) (by decide) (by decide) (by decide) ?_
          refine l_aload_n hC (pc := 589) dL_law_589 rfl ?_
          refine l_aload_n hC (pc := 590) dL_law_590 rfl ?_
          refine l_iload_n hC (pc := 591) dL_law_591 rfl ?_
          refine l_iconst hC (pc := 592) (v := nI 1) dL_law_592 rfl ?_
          refine l_iadd hC (pc := 593) dL_law_593 ?_
          refine l_iald hC (pc := 594) (j := i + 1) dL_law_594 (nI_add i 1) (by omega) (by omega) ?_
          refine l_aload_n hC (pc := 595) dL_law_595 rfl ?_
          refine l_iload_n hC (pc := 596) dL_law_596 rfl ?_
          refine l_iconst hC (pc := 597) (v := nI 2) dL_law_597 rfl ?_
          refine l_iadd hC (pc := 598) dL_law_598 ?_
          refine l_iald hC (pc := 599) (j := i + 2) dL_law_599 (nI_add i 2) (by omega) (by omega) ?_
          obtain ⟨v, I1, L1, I2, L2, S1, S2, R2⟩ := a_left X I L hR (xs (i + 1)) (xs (i + 2))
          refine l_callV hC (pc := 600) (N := mX5_left) (bb := 0) (av := [.int (xs (i + 1)), .int (xs (i + 2))]) (rest := []) S1 okX5_left lkL_80 rfl (by decide) rfl rfl rfl (Nat.le_of_ble_eq_true rfl) ⟨by decide, by decide⟩ ⟨by decide, by decide⟩ dL_law_600 ?_
          refine l_aload_n hC (pc := 603) dL_law_603 rfl ?_
          refine l_aload_n hC (pc := 604) dL_law_604 rfl ?_
          refine l_iload_n hC (pc := 605) dL_law_605 rfl ?_
          refine l_iconst hC (pc := 606) (v := nI 1) dL_law_606 rfl ?_
          refine l_iadd hC (pc := 607) dL_law_607 ?_
          refine l_iald hC (pc := 608) (j := i + 1) dL_law_608 (nI_add i 1) (by omega) (by omega) ?_
          refine l_aload_n hC (pc := 609) dL_law_609 rfl ?_
          refine l_iload_n hC (pc := 610) dL_law_610 rfl ?_
          refine l_iconst hC (pc := 611) (v := nI 2) dL_law_611 rfl ?_
          refine l_iadd hC (pc := 612) dL_law_612 ?_
          refine l_iald hC (pc := 613) (j := i + 2) dL_law_613 (nI_add i 2) (by omega) (by omega) ?_
          refine l_callV hC (pc := 614) (N := mX6_left) (bb := 42) (av := [.int (xs (i + 1)), .int (xs (i + 2))]) (rest := [.long v]) S2 okX6_left lkL_83 rfl (by decide) rfl rfl rfl (Nat.le_of_ble_eq_true rfl) ⟨by decide, by decide⟩ ⟨by decide, by decide⟩ dL_law_614 ?_
          refine l_lcmp hC (pc := 617) dL_law_617 ?_
          exact l_if_eq hC (pc := 618) (tgt := 998) dL_law_618 (by decide) (fun _ => h998 I2 L2 R2) (fun q => absurd rfl (lg_ne0 q))
        · refine l_swIn hC (pc := 32) (off := 591) (tgt := 623) dL_law_32 (by decide) (by decide) (by decide) (by decide) ?_
          refine l_aload_n hC (pc := 623) dL_law_623 rfl ?_
          refine l_aload_n hC (pc := 624) dL_law_624 rfl ?_
          refine l_iload_n hC (pc := 625) dL_law_625 rfl ?_
          refine l_iconst hC (pc := 626) (v := nI 1) dL_law_626 rfl ?_
          refine l_iadd hC (pc := 627) dL_law_627 ?_
          refine l_iald hC (pc := 628) (j := i + 1) dL_law_628 (nI_add i 1) (by omega) (by omega) ?_
          refine l_aload_n hC (pc := 629) dL_law_629 rfl ?_
          refine l_iload_n hC (pc := 630) dL_law_630 rfl ?_
          refine l_iconst hC (pc := 631) (v := nI 2) dL_law_631 rfl ?_
          refine l_iadd hC (pc := 632) dL_law_632 ?_
          refine l_iald hC (pc := 633) (j := i + 2) dL_law_633 (nI_add i 2) (by omega) (by omega) ?_
          refine l_i2l hC (pc := 634) dL_law_634 ?_
          refine l_bipush hC (pc := 635) dL_law_635 bp_32 ?_
          refine l_lshl hC (pc := 637) dL_law_637 ?_
          refine l_aload_n hC (pc := 638) dL_law_638 rfl ?_
          refine l_iload_n hC (pc := 639) dL_law_639 rfl ?_
          refine l_iconst hC (pc := 640) (v := nI 3) dL_law_640 rfl ?_
          refine l_iadd hC (pc := 641) dL_law_641 ?_
          refine l_iald hC (pc := 642) (j := i + 3) dL_law_642 (nI_add i 3) (by omega) (by omega) ?_
          refine l_i2l hC (pc := 643) dL_law_643 ?_
          refine l_ldc2 hC (pc := 644) dL_law_644 kL_84 ?_
          refine l_land hC (pc := 647) dL_law_647 ?_
          refine l_lor hC (pc := 648) dL_law_648 ?_
          obtain ⟨v, I1, L1, I2, L2, S1, S2, R2⟩ := a_fewest X I L hR (xs (i + 1)) ((((xs (i + 2)).toInt64 <<< ((nI 32).toInt64 &&& 63)) ||| ((xs (i + 3)).toInt64 &&& 4294967295)))
          refine l_callV hC (pc := 649) (N := mX5_fewest) (bb := 0) (av := [.int (xs (i + 1)), .long ((((xs (i + 2)).toInt64 <<< ((nI 32).toInt64 &&& 63)) ||| ((xs (i + 3)).toInt64 &&& 4294967295)))]) (rest := []) S1 okX5_fewest lkL_86 rfl (by decide) rfl rfl rfl (Nat.le_of_ble_eq_true rfl) ⟨by decide, by decide⟩ ⟨by decide, by decide⟩ dL_law_649 ?_
          refine l_aload_n hC (pc := 652) dL_law_652 rfl ?_
          refine l_aload_n hC (pc := 653) dL_law_653 rfl ?_
          refine l_iload_n hC (pc := 654) dL_law_654 rfl ?_
          refine l_iconst hC (pc := 655) (v := nI 1) dL_law_655 rfl ?_
          refine l_iadd hC (pc := 656) dL_law_656 ?_
          refine l_iald hC (pc := 657) (j := i + 1) dL_law_657 (nI_add i 1) (by omega) (by omega) ?_
          refine l_aload_n hC (pc := 658) dL_law_658 rfl ?_
          refine l_iload_n hC (pc := 659) dL_law_659 rfl ?_
          refine l_iconst hC (pc := 660) (v := nI 2) dL_law_660 rfl ?_
          refine l_iadd hC (pc := 661) dL_law_661 ?_
          refine l_iald hC (pc := 662) (j := i + 2) dL_law_662 (nI_add i 2) (by omega) (by omega) ?_
          refine l_i2l hC (pc := 663) dL_law_663 ?_
          refine l_bipush hC (pc := 664) dL_law_664 bp_32 ?_
          refine l_lshl hC (pc := 666) dL_law_666 ?_
          refine l_aload_n hC (pc := 667) dL_law_667 rfl ?_
          refine l_iload_n hC (pc := 668) dL_law_668 rfl ?_
          refine l_iconst hC (pc := 669) (v := nI 3) dL_law_669 rfl ?_
          refine l_iadd hC (pc := 670) dL_law_670 ?_
          refine l_iald hC (pc := 671) (j := i + 3) dL_law_671 (nI_add i 3) (by omega) (by omega) ?_
          refine l_i2l hC (pc := 672) dL_law_672 ?_
          refine l_ldc2 hC (pc := 673) dL_law_673 kL_84 ?_
          refine l_land hC (pc := 676) dL_law_676 ?_
          refine l_lor hC (pc := 677) dL_law_677 ?_
          refine l_callV hC (pc := 678) (N := mX6_fewest) (bb := 42) (av := [.int (xs (i + 1)), .long ((((xs (i + 2)).toInt64 <<< ((nI 32).toInt64 &&& 63)) ||| ((xs (i + 3)).toInt64 &&& 4294967295)))]) (rest := [.int v]) S2 okX6_fewest lkL_90 rfl (by decide) rfl rfl rfl (Nat.le_of_ble_eq_true rfl) ⟨by decide, by decide⟩ ⟨by decide, by decide⟩ dL_law_678 ?_
          exact l_icmp_eq hC (pc := 681) (tgt := 998) dL_law_681 (by decide) (fun _ => h998 I2 L2 R2) (fun q => absurd rfl q)
        · refine l_swIn hC (pc := 32) (off := 654) (tgt := 686) dL_law_32 (by decide) (by decide) (by decide) (by decide) ?_
          refine l_aload_n hC (pc := 686) dL_law_686 rfl ?_
          refine l_aload_n hC (pc := 687) dL_law_687 rfl ?_
          refine l_iload_n hC (pc := 688) dL_law_688 rfl ?_
          refine l_iconst hC (pc := 689) (v := nI 1) dL_law_689 rfl ?_
          refine l_iadd hC (pc := 690) dL_law_690 ?_
          refine l_iald hC (pc := 691) (j := i + 1) dL_law_691 (nI_add i 1) (by omega) (by omega) ?_
          refine l_aload_n hC (pc := 692) dL_law_692 rfl ?_
          refine l_iload_n hC (pc := 693) dL_law_693 rfl ?_
          refine l_iconst hC (pc := 694) (v := nI 2) dL_law_694 rfl ?_
          refine l_iadd hC (pc := 695) dL_law_695 ?_
          refine l_iald hC (pc := 696) (j := i + 2) dL_law_696 (nI_add i 2) (by omega) (by omega) ?_
          obtain ⟨v, I1, L1, I2, L2, S1, S2, R2⟩ := a_takes X I L hR (xs (i + 1)) (xs (i + 2))
          refine l_callV hC (pc := 697) (N := mX5_takes) (bb := 0) (av := [.int (xs (i + 1)), .int (xs (i + 2))]) (rest := []) S1 okX5_takes lkL_91 rfl (by decide) rfl rfl rfl (Nat.le_of_ble_eq_true rfl) ⟨by decide, by decide⟩ ⟨by decide, by decide⟩ dL_law_697 ?_
          refine l_aload_n hC (pc := 700) dL_law_700 rfl ?_
          refine l_aload_n hC (pc := 701) dL_law_701 rfl ?_
          refine l_iload_n hC (pc := 702) dL_law_702 rfl ?_
          refine l_iconst hC (pc := 703) (v := nI 1) dL_law_703 rfl ?_
          refine l_iadd hC (pc := 704) dL_law_704 ?_
          refine l_iald hC (pc := 705) (j := i + 1) dL_law_705 (nI_add i 1) (by omega) (by omega) ?_
          refine l_aload_n hC (pc := 706) dL_law_706 rfl ?_
          refine l_iload_n hC (pc := 707) dL_law_707 rfl ?_
          refine l_iconst hC (pc := 708) (v := nI 2) dL_law_708 rfl ?_
          refine l_iadd hC (pc := 709) dL_law_709 ?_
          refine l_iald hC (pc := 710) (j := i + 2) dL_law_710 (nI_add i 2) (by omega) (by omega) ?_
          refine l_callV hC (pc := 711) (N := mX6_takes_) (bb := 42) (av := [.int (xs (i + 1)), .int (xs (i + 2))]) (rest := [.long v]) S2 okX6_takes_ lkL_94 rfl (by decide) rfl rfl rfl (Nat.le_of_ble_eq_true rfl) ⟨by decide, by decide⟩ ⟨by decide, by decide⟩ dL_law_711 ?_
          refine l_lcmp hC (pc := 714) dL_law_714 ?_
          exact l_if_eq hC (pc := 715) (tgt := 998) dL_law_715 (by decide) (fun _ => h998 I2 L2 R2) (fun q => absurd rfl (lg_ne0 q))
        · refine l_swIn hC (pc := 32) (off := 688) (tgt := 720) dL_law_32 (by decide) (by decide) (by decide) (by decide) ?_
          refine l_aload_n hC (pc := 720) dL_law_720 rfl ?_
          refine l_aload_n hC (pc := 721) dL_law_721 rfl ?_
          refine l_iload_n hC (pc := 722) dL_law_722 rfl ?_
          refine l_iconst hC (pc := 723) (v := nI 1) dL_law_723 rfl ?_
          refine l_iadd hC (pc := 724) dL_law_724 ?_
          refine l_iald hC (pc := 725) (j := i + 1) dL_law_725 (nI_add i 1) (by omega) (by omega) ?_
          refine l_aload_n hC (pc := 726) dL_law_726 rfl ?_
          refine l_iload_n hC (pc := 727) dL_law_727 rfl ?_
          refine l_iconst hC (pc := 728) (v := nI 2) dL_law_728 rfl ?_
          refine l_iadd hC (pc := 729) dL_law_729 ?_
          refine l_iald hC (pc := 730) (j := i + 2) dL_law_730 (nI_add i 2) (by omega) (by omega) ?_
          obtain ⟨v, I1, L1, I2, L2, S1, S2, R2⟩ := a_first X I L hR (xs (i + 1)) (xs (i + 2))
          refine l_callV hC (pc := 731) (N := mX5_first) (bb := 0) (av := [.int (xs (i + 1)), .int (xs (i + 2))]) (rest := []) S1 okX5_first lkL_95 rfl (by decide) rfl rfl rfl (Nat.le_of_ble_eq_true rfl) ⟨by decide, by decide⟩ ⟨by decide, by decide⟩ dL_law_731 ?_
          refine l_aload_n hC (pc := 734) dL_law_734 rfl ?_
          refine l_aload_n hC (pc := 735) dL_law_735 rfl ?_
          refine l_iload_n hC (pc := 736) dL_law_736 rfl ?_
          refine l_iconst hC (pc := 737) (v := nI 1) dL_law_737 rfl ?_
          refine l_iadd hC (pc := 738) dL_law_738 ?_
          refine l_iald hC (pc := 739) (j := i + 1) dL_law_739 (nI_add i 1) (by omega) (by omega) ?_
          refine l_aload_n hC (pc := 740) dL_law_740 rfl ?_
          refine l_iload_n hC (pc := 741) dL_law_741 rfl ?_
          refine l_iconst hC (pc := 742) (v := nI 2) dL_law_742 rfl ?_
          refine l_iadd hC (pc := 743) dL_law_743 ?_
          refine l_iald hC (pc := 744) (j := i + 2) dL_law_744 (nI_add i 2) (by omega) (by omega) ?_
          refine l_callV hC (pc := 745) (N := mX6_first) (bb := 42) (av := [.int (xs (i + 1)), .int (xs (i + 2))]) (rest := [.int v]) S2 okX6_first lkL_98 rfl (by decide) rfl rfl rfl (Nat.le_of_ble_eq_true rfl) ⟨by decide, by decide⟩ ⟨by decide, by decide⟩ dL_law_745 ?_
          exact l_icmp_eq hC (pc := 748) (tgt := 998) dL_law_748 (by decide) (fun _ => h998 I2 L2 R2) (fun q => absurd rfl q)
        · refine l_swIn hC (pc := 32) (off := 721) (tgt := 753) dL_law_32 (by decide) (by decide) (by decide) (by decide) ?_
          refine l_aload_n hC (pc := 753) dL_law_753 rfl ?_
          refine l_aload_n hC (pc := 754) dL_law_754 rfl ?_
          refine l_iload_n hC (pc := 755) dL_law_755 rfl ?_
          refine l_iconst hC (pc := 756) (v := nI 1) dL_law_756 rfl ?_
          refine l_iadd hC (pc := 757) dL_law_757 ?_
          refine l_iald hC (pc := 758) (j := i + 1) dL_law_758 (nI_add i 1) (by omega) (by omega) ?_
          refine l_aload_n hC (pc := 759) dL_law_759 rfl ?_
          refine l_iload_n hC (pc := 760) dL_law_760 rfl ?_
          refine l_iconst hC (pc := 761) (v := nI 2) dL_law_761 rfl ?_
          refine l_iadd hC (pc := 762) dL_law_762 ?_
          refine l_iald hC (pc := 763) (j := i + 2) dL_law_763 (nI_add i 2) (by omega) (by omega) ?_
          refine l_aload_n hC (pc := 764) dL_law_764 rfl ?_
          refine l_iload_n hC (pc := 765) dL_law_765 rfl ?_
          refine l_iconst hC (pc := 766) (v := nI 3) dL_law_766 rfl ?_
          refine l_iadd hC (pc := 767) dL_law_767 ?_
          refine l_iald hC (pc := 768) (j := i + 3) dL_law_768 (nI_add i 3) (by omega) (by omega) ?_
          obtain ⟨v, I1, L1, I2, L2, S1, S2, R2⟩ := a_off X I L hR (xs (i + 1)) (xs (i + 2)) (xs (i + 3))
          refine l_callV hC (pc := 769) (N := mX5_off) (bb := 0) (av := [.int (xs (i + 1)), .int (xs (i + 2)), .int (xs (i + 3))]) (rest := []) S1 okX5_off lkL_99 rfl (by decide) rfl rfl rfl (Nat.le_of_ble_eq_true rfl) ⟨by decide, by decide⟩ ⟨by decide, by decide⟩ dL_law_769 ?_
          refine l_aload_n hC (pc := 772) dL_law_772 rfl ?_
          refine l_aload_n hC (pc := 773) dL_law_773 rfl ?_
          refine l_iload_n hC (pc := 774) dL_law_774 rfl ?_
          refine l_iconst hC (pc := 775) (v := nI 1) dL_law_775 rfl ?_
          refine l_iadd hC (pc := 776) dL_law_776 ?_
          refine l_iald hC (pc := 777) (j := i + 1) dL_law_777 (nI_add i 1) (by omega) (by omega) ?_
          refine l_aload_n hC (pc := 778) dL_law_778 rfl ?_
          refine l_iload_n hC (pc := 779) dL_law_779 rfl ?_
          refine l_iconst hC (pc := 780) (v := nI 2) dL_law_780 rfl ?_
          refine l_iadd hC (pc := 781) dL_law_781 ?_
          refine l_iald hC (pc := 782) (j := i + 2) dL_law_782 (nI_add i 2) (by omega) (by omega) ?_
          refine l_aload_n hC (pc := 783) dL_law_783 rfl ?_
          refine l_iload_n hC (pc := 784) dL_law_784 rfl ?_
          refine l_iconst hC (pc := 785) (v := nI 3) dL_law_785 rfl ?_
          refine l_iadd hC (pc := 786) dL_law_786 ?_
          refine l_iald hC (pc := 787) (j := i + 3) dL_law_787 (nI_add i 3) (by omega) (by omega) ?_
          refine l_callV hC (pc := 788) (N := mX6_off) (bb := 42) (av := [.int (xs (i + 1)), .int (xs (i + 2)), .int (xs (i + 3))]) (rest := [.long v]) S2 okX6_off lkL_102 rfl (by decide) rfl rfl rfl (Nat.le_of_ble_eq_true rfl) ⟨by decide, by decide⟩ ⟨by decide, by decide⟩ dL_law_788 ?_
          refine l_lcmp hC (pc := 791) dL_law_791 ?_
          exact l_if_eq hC (pc := 792) (tgt := 998) dL_law_792 (by decide) (fun _ => h998 I2 L2 R2) (fun q => absurd rfl (lg_ne0 q))
        · refine l_swIn hC (pc := 32) (off := 765) (tgt := 797) dL_law_32 (by decide) (by decide) (by decide) (by decide) ?_
          refine l_aload_n hC (pc := 797) dL_law_797 rfl ?_
          refine l_aload_n hC (pc := 798) dL_law_798 rfl ?_
          refine l_iload_n hC (pc := 799) dL_law_799 rfl ?_
          refine l_iconst hC (pc := 800) (v := nI 1) dL_law_800 rfl ?_
          refine l_iadd hC (pc := 801) dL_law_801 ?_
          refine l_iald hC (pc := 802) (j := i + 1) dL_law_802 (nI_add i 1) (by omega) (by omega) ?_
          refine l_aload_n hC (pc := 803) dL_law_803 rfl ?_
          refine l_iload_n hC (pc := 804) dL_law_804 rfl ?_
          refine l_iconst hC (pc := 805) (v := nI 2) dL_law_805 rfl ?_
          refine l_iadd hC (pc := 806) dL_law_806 ?_
          refine l_iald hC (pc := 807) (j := i + 2) dL_law_807 (nI_add i 2) (by omega) (by omega) ?_
          refine l_i2l hC (pc := 808) dL_law_808 ?_
          refine l_bipush hC (pc := 809) dL_law_809 bp_32 ?_
          refine l_lshl hC (pc := 811) dL_law_811 ?_
          refine l_aload_n hC (pc := 812) dL_law_812 rfl ?_
          refine l_iload_n hC (pc := 813) dL_law_813 rfl ?_
          refine l_iconst hC (pc := 814) (v := nI 3) dL_law_814 rfl ?_
          refine l_iadd hC (pc := 815) dL_law_815 ?_
          refine l_iald hC (pc := 816) (j := i + 3) dL_law_816 (nI_add i 3) (by omega) (by omega) ?_
          refine l_i2l hC (pc := 817) dL_law_817 ?_
          refine l_ldc2 hC (pc := 818) dL_law_818 kL_84 ?_
          refine l_land hC (pc := 821) dL_law_821 ?_
          refine l_lor hC (pc := 822) dL_law_822 ?_
          obtain ⟨v, I1, L1, I2, L2, S1, S2, R2⟩ := a_sees X I L hR (xs (i + 1)) ((((xs (i + 2)).toInt64 <<< ((nI 32).toInt64 &&& 63)) ||| ((xs (i + 3)).toInt64 &&& 4294967295)))
          refine l_callV hC (pc := 823) (N := mX5_sees) (bb := 0) (av := [.int (xs (i + 1)), .long ((((xs (i + 2)).toInt64 <<< ((nI 32).toInt64 &&& 63)) ||| ((xs (i + 3)).toInt64 &&& 4294967295)))]) (rest := []) S1 okX5_sees lkL_103 rfl (by decide) rfl rfl rfl (Nat.le_of_ble_eq_true rfl) ⟨by decide, by decide⟩ ⟨by decide, by decide⟩ dL_law_823 ?_
          refine l_aload_n hC (pc := 826) dL_law_826 rfl ?_
          refine l_aload_n hC (pc := 827) dL_law_827 rfl ?_
          refine l_iload_n hC (pc := 828) dL_law_828 rfl ?_
          refine l_iconst hC (pc := 829) (v := nI 1) dL_law_829 rfl ?_
          refine l_iadd hC (pc := 830) dL_law_830 ?_
          refine l_iald hC (pc := 831) (j := i + 1) dL_law_831 (nI_add i 1) (by omega) (by omega) ?_
          refine l_aload_n hC (pc := 832) dL_law_832 rfl ?_
          refine l_iload_n hC (pc := 833) dL_law_833 rfl ?_
          refine l_iconst hC (pc := 834) (v := nI 2) dL_law_834 rfl ?_
          refine l_iadd hC (pc := 835) dL_law_835 ?_
          refine l_iald hC (pc := 836) (j := i + 2) dL_law_836 (nI_add i 2) (by omega) (by omega) ?_
          refine l_i2l hC (pc := 837) dL_law_837 ?_
          refine l_bipush hC (pc := 838) dL_law_838 bp_32 ?_
          refine l_lshl hC (pc := 840) dL_law_840 ?_
          refine l_aload_n hC (pc := 841) dL_law_841 rfl ?_
          refine l_iload_n hC (pc := 842) dL_law_842 rfl ?_
          refine l_iconst hC (pc := 843) (v := nI 3) dL_law_843 rfl ?_
          refine l_iadd hC (pc := 844) dL_law_844 ?_
          refine l_iald hC (pc := 845) (j := i + 3) dL_law_845 (nI_add i 3) (by omega) (by omega) ?_
          refine l_i2l hC (pc := 846) dL_law_846 ?_
          refine l_ldc2 hC (pc := 847) dL_law_847 kL_84 ?_
          refine l_land hC (pc := 850) dL_law_850 ?_
          refine l_lor hC (pc := 851) dL_law_851 ?_
          refine l_callV hC (pc := 852) (N := mX6_sees) (bb := 42) (av := [.int (xs (i + 1)), .long ((((xs (i + 2)).toInt64 <<< ((nI 32).toInt64 &&& 63)) ||| ((xs (i + 3)).toInt64 &&& 4294967295)))]) (rest := [.int v]) S2 okX6_sees lkL_106 rfl (by decide) rfl rfl rfl (Nat.le_of_ble_eq_true rfl) ⟨by decide, by decide⟩ ⟨by decide, by decide⟩ dL_law_852 ?_
          exact l_icmp_eq hC (pc := 855) (tgt := 998) dL_law_855 (by decide) (fun _ => h998 I2 L2 R2) (fun q => absurd rfl q)
        · refine l_swIn hC (pc := 32) (off := 828) (tgt := 860) dL_law_32 (by decide) (by decide) (by decide) (by decide) ?_
          refine l_aload_n hC (pc := 860) dL_law_860 rfl ?_
          obtain ⟨v, I1, L1, I2, L2, S1, S2, R2⟩ := a_forget X I L hR
          refine l_callV hC (pc := 861) (N := mX5_forget) (bb := 0) (av := []) (rest := []) S1 okX5_forget lkL_107 rfl (by decide) rfl rfl rfl (Nat.le_of_ble_eq_true rfl) ⟨by decide, by decide⟩ ⟨by decide, by decide⟩ dL_law_861 ?_
          refine l_aload_n hC (pc := 864) dL_law_864 rfl ?_
          refine l_callV hC (pc := 865) (N := mX6_forget) (bb := 42) (av := []) (rest := [.int v]) S2 okX6_forget lkL_110 rfl (by decide) rfl rfl rfl (Nat.le_of_ble_eq_true rfl) ⟨by decide, by decide⟩ ⟨by decide, by decide⟩ dL_law_865 ?_
          exact l_icmp_eq hC (pc := 868) (tgt := 998) dL_law_868 (by decide) (fun _ => h998 I2 L2 R2) (fun q => absurd rfl q)
        · refine l_swIn hC (pc := 32) (off := 841) (tgt := 873) dL_law_32 (by decide) (by decide) (by decide) (by decide) ?_
          refine l_aload_n hC (pc := 873) dL_law_873 rfl ?_
          refine l_aload_n hC (pc := 874) dL_law_874 rfl ?_
          refine l_iload_n hC (pc := 875) dL_law_875 rfl ?_
          refine l_iconst hC (pc := 876) (v := nI 1) dL_law_876 rfl ?_
          refine l_iadd hC (pc := 877) dL_law_877 ?_
          refine l_iald hC (pc := 878) (j := i + 1) dL_law_878 (nI_add i 1) (by omega) (by omega) ?_
          obtain ⟨v, I1, L1, I2, L2, S1, S2, R2⟩ := a_unseen X I L hR (xs (i + 1))
          refine l_callV hC (pc := 879) (N := mX5_unseen) (bb := 0) (av := [.int (xs (i + 1))]) (rest := []) S1 okX5_unseen lkL_111 rfl (by decide) rfl rfl rfl (Nat.le_of_ble_eq_true rfl) ⟨by decide, by decide⟩ ⟨by decide, by decide⟩ dL_law_879 ?_
          refine l_aload_n hC (pc := 882) dL_law_882 rfl ?_
          refine l_aload_n hC (pc := 883) dL_law_883 rfl ?_
          refine l_iload_n hC (pc := 884) dL_law_884 rfl ?_
          refine l_iconst hC (pc := 885) (v := nI 1) dL_law_885 rfl ?_
          refine l_iadd hC (pc := 886) dL_law_886 ?_
          refine l_iald hC (pc := 887) (j := i + 1) dL_law_887 (nI_add i 1) (by omega) (by omega) ?_
          refine l_callV hC (pc := 888) (N := mX6_unseen) (bb := 42) (av := [.int (xs (i + 1))]) (rest := [.int v]) S2 okX6_unseen lkL_114 rfl (by decide) rfl rfl rfl (Nat.le_of_ble_eq_true rfl) ⟨by decide, by decide⟩ ⟨by decide, by decide⟩ dL_law_888 ?_
          exact l_icmp_eq hC (pc := 891) (tgt := 998) dL_law_891 (by decide) (fun _ => h998 I2 L2 R2) (fun q => absurd rfl q)
        · refine l_swIn hC (pc := 32) (off := 864) (tgt := 896) dL_law_32 (by decide) (by decide) (by decide) (by decide) ?_
          refine l_aload_n hC (pc := 896) dL_law_896 rfl ?_
          refine l_aload_n hC (pc := 897) dL_law_897 rfl ?_
          refine l_iload_n hC (pc := 898) dL_law_898 rfl ?_
          refine l_iconst hC (pc := 899) (v := nI 1) dL_law_899 rfl ?_
          refine l_iadd hC (pc := 900) dL_law_900 ?_
          refine l_iald hC (pc := 901) (j := i + 1) dL_law_901 (nI_add i 1) (by omega) (by omega) ?_
          obtain ⟨v, I1, L1, I2, L2, S1, S2, R2⟩ := a_keep X I L hR (xs (i + 1))
          refine l_callV hC (pc := 902) (N := mX5_keep) (bb := 0) (av := [.int (xs (i + 1))]) (rest := []) S1 okX5_keep lkL_115 rfl (by decide) rfl rfl rfl (Nat.le_of_ble_eq_true rfl) ⟨by decide, by decide⟩ ⟨by decide, by decide⟩ dL_law_902 ?_
          refine l_aload_n hC (pc := 905) dL_law_905 rfl ?_
          refine l_aload_n hC (pc := 906) dL_law_906 rfl ?_
          refine l_iload_n hC (pc := 907) dL_law_907 rfl ?_
          refine l_iconst hC (pc := 908) (v := nI 1) dL_law_908 rfl ?_
          refine l_iadd hC (pc := 909) dL_law_909 ?_
          refine l_iald hC (pc := 910) (j := i + 1) dL_law_910 (nI_add i 1) (by omega) (by omega) ?_
          refine l_callV hC (pc := 911) (N := mX6_keep) (bb := 42) (av := [.int (xs (i + 1))]) (rest := [.int v]) S2 okX6_keep lkL_118 rfl (by decide) rfl rfl rfl (Nat.le_of_ble_eq_true rfl) ⟨by decide, by decide⟩ ⟨by decide, by decide⟩ dL_law_911 ?_
          exact l_icmp_eq hC (pc := 914) (tgt := 998) dL_law_914 (by decide) (fun _ => h998 I2 L2 R2) (fun q => absurd rfl q)
        · refine l_swIn hC (pc := 32) (off := 887) (tgt := 919) dL_law_32 (by decide) (by decide) (by decide) (by decide) ?_
          refine l_aload_n hC (pc := 919) dL_law_919 rfl ?_
          refine l_aload_n hC (pc := 920) dL_law_920 rfl ?_
          refine l_iload_n hC (pc := 921) dL_law_921 rfl ?_
          refine l_iconst hC (pc := 922) (v := nI 1) dL_law_922 rfl ?_
          refine l_iadd hC (pc := 923) dL_law_923 ?_
          refine l_iald hC (pc := 924) (j := i + 1) dL_law_924 (nI_add i 1) (by omega) (by omega) ?_
          obtain ⟨v, I1, L1, I2, L2, S1, S2, R2⟩ := a_back X I L hR (xs (i + 1))
          refine l_callV hC (pc := 925) (N := mX5_back) (bb := 0) (av := [.int (xs (i + 1))]) (rest := []) S1 okX5_back lkL_119 rfl (by decide) rfl rfl rfl (Nat.le_of_ble_eq_true rfl) ⟨by decide, by decide⟩ ⟨by decide, by decide⟩ dL_law_925 ?_
          refine l_aload_n hC (pc := 928) dL_law_928 rfl ?_
          refine l_aload_n hC (pc := 929) dL_law_929 rfl ?_
          refine l_iload_n hC (pc := 930) dL_law_930 rfl ?_
          refine l_iconst hC (pc := 931) (v := nI 1) dL_law_931 rfl ?_
          refine l_iadd hC (pc := 932) dL_law_932 ?_
          refine l_iald hC (pc := 933) (j := i + 1) dL_law_933 (nI_add i 1) (by omega) (by omega) ?_
          refine l_callV hC (pc := 934) (N := mX6_back) (bb := 42) (av := [.int (xs (i + 1))]) (rest := [.int v]) S2 okX6_back lkL_122 rfl (by decide) rfl rfl rfl (Nat.le_of_ble_eq_true rfl) ⟨by decide, by decide⟩ ⟨by decide, by decide⟩ dL_law_934 ?_
          exact l_icmp_eq hC (pc := 937) (tgt := 998) dL_law_937 (by decide) (fun _ => h998 I2 L2 R2) (fun q => absurd rfl q)
        · refine l_swIn hC (pc := 32) (off := 910) (tgt := 942) dL_law_32 (by decide) (by decide) (by decide) (by decide) ?_
          refine l_aload_n hC (pc := 942) dL_law_942 rfl ?_
          refine l_aload_n hC (pc := 943) dL_law_943 rfl ?_
          refine l_iload_n hC (pc := 944) dL_law_944 rfl ?_
          refine l_iconst hC (pc := 945) (v := nI 1) dL_law_945 rfl ?_
          refine l_iadd hC (pc := 946) dL_law_946 ?_
          refine l_iald hC (pc := 947) (j := i + 1) dL_law_947 (nI_add i 1) (by omega) (by omega) ?_
          refine l_aload_n hC (pc := 948) dL_law_948 rfl ?_
          refine l_iload_n hC (pc := 949) dL_law_949 rfl ?_
          refine l_iconst hC (pc := 950) (v := nI 2) dL_law_950 rfl ?_
          refine l_iadd hC (pc := 951) dL_law_951 ?_
          refine l_iald hC (pc := 952) (j := i + 2) dL_law_952 (nI_add i 2) (by omega) (by omega) ?_
          obtain ⟨v, I1, L1, I2, L2, S1, S2, R2⟩ := a_formula X I L hR (xs (i + 1)) (xs (i + 2))
          refine l_callV hC (pc := 953) (N := mX5_formula) (bb := 0) (av := [.int (xs (i + 1)), .int (xs (i + 2))]) (rest := []) S1 okX5_formula lkL_123 rfl (by decide) rfl rfl rfl (Nat.le_of_ble_eq_true rfl) ⟨by decide, by decide⟩ ⟨by decide, by decide⟩ dL_law_953 ?_
          refine l_aload_n hC (pc := 956) dL_law_956 rfl ?_
          refine l_aload_n hC (pc := 957) dL_law_957 rfl ?_
          refine l_iload_n hC (pc := 958) dL_law_958 rfl ?_
          refine l_iconst hC (pc := 959) (v := nI 1) dL_law_959 rfl ?_
          refine l_iadd hC (pc := 960) dL_law_960 ?_
          refine l_iald hC (pc := 961) (j := i + 1) dL_law_961 (nI_add i 1) (by omega) (by omega) ?_
          refine l_aload_n hC (pc := 962) dL_law_962 rfl ?_
          refine l_iload_n hC (pc := 963) dL_law_963 rfl ?_
          refine l_iconst hC (pc := 964) (v := nI 2) dL_law_964 rfl ?_
          refine l_iadd hC (pc := 965) dL_law_965 ?_
          refine l_iald hC (pc := 966) (j := i + 2) dL_law_966 (nI_add i 2) (by omega) (by omega) ?_
          refine l_callV hC (pc := 967) (N := mX6_formula) (bb := 42) (av := [.int (xs (i + 1)), .int (xs (i + 2))]) (rest := [.int v]) S2 okX6_formula lkL_126 rfl (by decide) rfl rfl rfl (Nat.le_of_ble_eq_true rfl) ⟨by decide, by decide⟩ ⟨by decide, by decide⟩ dL_law_967 ?_
          exact l_icmp_eq hC (pc := 970) (tgt := 998) dL_law_970 (by decide) (fun _ => h998 I2 L2 R2) (fun q => absurd rfl q)
        · refine l_swIn hC (pc := 32) (off := 943) (tgt := 975) dL_law_32 (by decide) (by decide) (by decide) (by decide) ?_
          refine l_aload_n hC (pc := 975) dL_law_975 rfl ?_
          refine l_aload_n hC (pc := 976) dL_law_976 rfl ?_
          refine l_iload_n hC (pc := 977) dL_law_977 rfl ?_
          refine l_iconst hC (pc := 978) (v := nI 1) dL_law_978 rfl ?_
          refine l_iadd hC (pc := 979) dL_law_979 ?_
          refine l_iald hC (pc := 980) (j := i + 1) dL_law_980 (nI_add i 1) (by omega) (by omega) ?_
          obtain ⟨v, I1, L1, I2, L2, S1, S2, R2⟩ := a_count X I L hR (xs (i + 1))
          refine l_callV hC (pc := 981) (N := mX5_count) (bb := 0) (av := [.int (xs (i + 1))]) (rest := []) S1 okX5_count lkL_127 rfl (by decide) rfl rfl rfl (Nat.le_of_ble_eq_true rfl) ⟨by decide, by decide⟩ ⟨by decide, by decide⟩ dL_law_981 ?_
          refine l_aload_n hC (pc := 984) dL_law_984 rfl ?_
          refine l_aload_n hC (pc := 985) dL_law_985 rfl ?_
          refine l_iload_n hC (pc := 986) dL_law_986 rfl ?_
          refine l_iconst hC (pc := 987) (v := nI 1) dL_law_987 rfl ?_
          refine l_iadd hC (pc := 988) dL_law_988 ?_
          refine l_iald hC (pc := 989) (j := i + 1) dL_law_989 (nI_add i 1) (by omega) (by omega) ?_
          refine l_callV hC (pc := 990) (N := mX6_count) (bb := 42) (av := [.int (xs (i + 1))]) (rest := [.int v]) S2 okX6_count lkL_130 rfl (by decide) rfl rfl rfl (Nat.le_of_ble_eq_true rfl) ⟨by decide, by decide⟩ ⟨by decide, by decide⟩ dL_law_990 ?_
          exact l_icmp_eq hC (pc := 993) (tgt := 998) dL_law_993 (by decide) (fun _ => h998 I2 L2 R2) (fun q => absurd rfl q)
theorem law_start (hC : LC X p s m c b Ln xs) (hn : Ln ≤ 2048) (hZ : ∀ (pc : Nat) (H : Heap) (ls : Array Slot), decode code pc = .ok (.ireturn, 1) → W p X.1 e room_1 s m #[Value.ref b] below meth c H [] 600000 7302250 Z (F0 m pc ls [.int 1])) : LE X p e s m below meth c b Z 0 [.ref b] [] [] zI zL 0 0 := by
  refine l_new hC (pc := 0) (r := tm5) (sh1 := [(5, [1, 1, 1, 1, 1, 1, 1, 0, 0, 1, 1, 0, 1, 1])]) dL_law_0 clk5 (by decide) rfl clL_7 inst5 init5 rfl dv5 rfl (by decide) (by decide) rfl ?_
  refine l_dup hC (pc := 3) dL_law_3 rfl ?_
  refine l_callI hC (pc := 4) (av := []) (bb := 0) (rest := [.ref 0]) (i_desk X 0) okX5_init lkL_9 rfl rfl rfl (by decide) ⟨by decide, by decide⟩ ⟨by decide, by decide⟩ dL_law_4 ?_
  refine l_ast1 hC (pc := 7) (x := X.2.1 + 0) dL_law_7 ?_
  refine l_new hC (pc := 8) (r := tm6) (sh1 := [(5, [3, 6, 13, 25, 29, 34, 37, 0, 0, 40, 41, 0, 42, 43]), (0, [4, 5]), (100, [6]), (100, [36]), (4, [7, 8, 9, 10, 11, 12, 0, 0]), (100, [80]), (100, [80]), (100, [80]), (100, [80]), (100, [80]), (100, [4]), (2, [14, 17, 24, 0, 0, 0, 0, 0, 0]), (0, [15, 16]), (100, [6]), (100, [36]), (4, [18, 19, 20, 21, 22, 23, 0, 0]), (100, [80]), (100, [80]), (100, [80]), (100, [80]), (100, [80]), (100, [4]), (100, [100]), (1, [26, 27, 28, 0]), (100, [10]), (100, [10]), (100, [10]), (3, [6, 3, 30, 31, 32, 33]), (101, [80]), (101, [80]), (101, [80]), (101, [80]), (0, [35, 36]), (100, [6]), (100, [36]), (0, [38, 39]), (100, [6]), (100, [36]), (100, [6]), (101, [6]), (101, [6]), (101, [6]), (6, [0, 1, 0, 0, 0, 0, 0, 0, 0, 1, 1, 1, 1, 1, 0, 1, 1, 1, 1, 1, 1, 1, 1, 0, 1, 1, 1, 1, 0, 1, 0, 1, 0, 0, 0, 1, 1, 1, 1, 1])]) dL_law_8 clk6 (by decide) rfl clL_10 inst6 init6 rfl dv6 rfl (by decide) (by decide) rfl ?_
  refine l_dup hC (pc := 11) dL_law_11 rfl ?_
  refine l_callI hC (pc := 12) (av := []) (bb := 42) (rest := [.ref 42]) (i_model X 0) okX6_init lkL_12 rfl rfl rfl (by decide) ⟨by decide, by decide⟩ ⟨by decide, by decide⟩ dL_law_12 ?_
  refine l_ast2 hC (pc := 15) (x := X.2.1 + 42) dL_law_15 ?_
  refine l_iconst hC (pc := 16) (v := nI 0) dL_law_16 rfl ?_
  refine l_ist3 hC (pc := 17) dL_law_17 ?_
  exact law_loop hC hn hZ (Ln + 1) 0 _ _ (by omega) (by omega) rel_0
end LAWLOOP
