/-! the law's own frame -/
def LC (X : Ctx) (p : Program) (s : State) (m : MethodId) (c : Code) (b Ln : Nat) (xs : Nat → Int32) : Prop := p.tables.exec = Jvm.exec ∧ c.code = code ∧ c.maxLocals = 4 ∧ s.vm.findClass RL = some m.cls ∧ (∀ w ∈ gw, w.before #[Value.ref b] s = true) ∧ KX X s ∧ va_X b Ln xs s s.heap ∧ b < s.heap.size ∧ X.2.1 = s.heap.size
def LE (X : Ctx) (p : Program) (e : Env) (s : State) (m : MethodId) (below : List Frame) (meth : Method) (c : Code) (b : Nat) (Z : State → Prop) (pc : Nat) (lo st : List Value) (sh : List SH) (I : MI) (L : ML) (c0 s0 : Nat) : Prop :=
  ∀ (H : Heap) (locs : List Loc) (ls : Array Slot), WD X sh I L H → va_S (AX X) s.heap H locs → lv_has ls 4 (lo.mapIdx fun i v => (i, v)) → W p X.1 e room_1 s m #[Value.ref b] below meth c H locs c0 s0 Z (F0 m pc ls st)
section LAWROWS
variable {X : Ctx} {p : Program} {e : Env} {s : State} {m : MethodId} {below : List Frame} {meth : Method} {c : Code} {b Ln : Nat} {xs : Nat → Int32} {Z : State → Prop} {pc : Nat} {lo st rest : List Value} {sh : List SH} {I : MI} {L : ML} {c0 s0 : Nat}
theorem l_iconst (hC : LC X p s m c b Ln xs) {n : Int} {v : Int32} (hdg : decode code pc = .ok (.iconst n, 1)) (hv : Int32.ofInt n = v) (k : LE X p e s m below meth c b Z (pc + 1) lo (.int v :: st) sh I L c0 s0) : LE X p e s m below meth c b Z pc lo st sh I L c0 s0 :=
  fun H locs ls hW hS hl0 => lv_iconst hC.1 hC.2.1 hdg hv (k H locs ls hW hS hl0)
theorem l_bipush (hC : LC X p s m c b Ln xs) {n : Int} {v : Int32} (hdg : decode code pc = .ok (.bipush n, 2)) (hv : (Int8.ofInt n).toInt32 = v) (k : LE X p e s m below meth c b Z (pc + 2) lo (.int v :: st) sh I L c0 s0) : LE X p e s m below meth c b Z pc lo st sh I L c0 s0 :=
  fun H locs ls hW hS hl0 => lv_bipush hC.1 hC.2.1 hdg hv (k H locs ls hW hS hl0)
theorem l_iadd (hC : LC X p s m c b Ln xs) {x y : Int32} (hdg : decode code pc = .ok (.iadd, 1)) (k : LE X p e s m below meth c b Z (pc + 1) lo (.int (x + y) :: st) sh I L c0 s0) : LE X p e s m below meth c b Z pc lo (.int y :: .int x :: st) sh I L c0 s0 :=
  fun H locs ls hW hS hl0 => lv_iadd hC.1 hC.2.1 hdg (k H locs ls hW hS hl0)
theorem l_isub (hC : LC X p s m c b Ln xs) {x y : Int32} (hdg : decode code pc = .ok (.isub, 1)) (k : LE X p e s m below meth c b Z (pc + 1) lo (.int (x - y) :: st) sh I L c0 s0) : LE X p e s m below meth c b Z pc lo (.int y :: .int x :: st) sh I L c0 s0 :=
  fun H locs ls hW hS hl0 => lv_isub hC.1 hC.2.1 hdg (k H locs ls hW hS hl0)
theorem l_iand (hC : LC X p s m c b Ln xs) {x y : Int32} (hdg : decode code pc = .ok (.iand, 1)) (k : LE X p e s m below meth c b Z (pc + 1) lo (.int (x &&& y) :: st) sh I L c0 s0) : LE X p e s m below meth c b Z pc lo (.int y :: .int x :: st) sh I L c0 s0 :=
  fun H locs ls hW hS hl0 => lv_iand hC.1 hC.2.1 hdg (k H locs ls hW hS hl0)
theorem l_i2l (hC : LC X p s m c b Ln xs) {x : Int32} (hdg : decode code pc = .ok (.i2l, 1)) (k : LE X p e s m below meth c b Z (pc + 1) lo (.long x.toInt64 :: st) sh I L c0 s0) : LE X p e s m below meth c b Z pc lo (.int x :: st) sh I L c0 s0 :=
  fun H locs ls hW hS hl0 => lv_i2l hC.1 hC.2.1 hdg rfl (k H locs ls hW hS hl0)
theorem l_lshl (hC : LC X p s m c b Ln xs) {x : Int64} {y : Int32} (hdg : decode code pc = .ok (.lshl, 1)) (k : LE X p e s m below meth c b Z (pc + 1) lo (.long (x <<< (y.toInt64 &&& 63)) :: st) sh I L c0 s0) : LE X p e s m below meth c b Z pc lo (.int y :: .long x :: st) sh I L c0 s0 :=
  fun H locs ls hW hS hl0 => lv_lshl hC.1 hC.2.1 hdg rfl (k H locs ls hW hS hl0)
theorem l_land (hC : LC X p s m c b Ln xs) {x y : Int64} (hdg : decode code pc = .ok (.land, 1)) (k : LE X p e s m below meth c b Z (pc + 1) lo (.long (x &&& y) :: st) sh I L c0 s0) : LE X p e s m below meth c b Z pc lo (.long y :: .long x :: st) sh I L c0 s0 :=
  fun H locs ls hW hS hl0 => lv_land hC.1 hC.2.1 hdg (k H locs ls hW hS hl0)
theorem l_lor (hC : LC X p s m c b Ln xs) {x y : Int64} (hdg : decode code pc = .ok (.lor, 1)) (k : LE X p e s m below meth c b Z (pc + 1) lo (.long (x ||| y) :: st) sh I L c0 s0) : LE X p e s m below meth c b Z pc lo (.long y :: .long x :: st) sh I L c0 s0 :=
  fun H locs ls hW hS hl0 => lv_lor hC.1 hC.2.1 hdg (k H locs ls hW hS hl0)
theorem l_goto (hC : LC X p s m c b Ln xs) {off : Int} {tgt : Nat} (hdg : decode code pc = .ok (.goto off, 3)) (ht : (pc : Int) + off = (tgt : Int)) (k : LE X p e s m below meth c b Z tgt lo st sh I L c0 s0) : LE X p e s m below meth c b Z pc lo st sh I L c0 s0 :=
  fun H locs ls hW hS hl0 => lv_goto hC.1 hC.2.1 hdg ht (k H locs ls hW hS hl0)
theorem l_icmp_gt (hC : LC X p s m c b Ln xs) {x y : Int32} {off : Int} {tgt : Nat} (hdg : decode code pc = .ok (.if_icmp .gt off, 3)) (ht : (pc : Int) + off = (tgt : Int)) (kt : y < x → LE X p e s m below meth c b Z tgt lo st sh I L c0 s0) (kf : ¬ y < x → LE X p e s m below meth c b Z (pc + 3) lo st sh I L c0 s0) : LE X p e s m below meth c b Z pc lo (.int y :: .int x :: st) sh I L c0 s0 :=
  fun H locs ls hW hS hl => lv_icmp_gt hC.1 hC.2.1 hdg ht (fun q => kt q H locs ls hW hS hl) (fun q => kf q H locs ls hW hS hl)
theorem l_icmp_eq (hC : LC X p s m c b Ln xs) {x y : Int32} {off : Int} {tgt : Nat} (hdg : decode code pc = .ok (.if_icmp .eq off, 3)) (ht : (pc : Int) + off = (tgt : Int)) (kt : x = y → LE X p e s m below meth c b Z tgt lo st sh I L c0 s0) (kf : ¬ x = y → LE X p e s m below meth c b Z (pc + 3) lo st sh I L c0 s0) : LE X p e s m below meth c b Z pc lo (.int y :: .int x :: st) sh I L c0 s0 :=
  fun H locs ls hW hS hl => lv_icmp_eq hC.1 hC.2.1 hdg ht (fun q => kt q H locs ls hW hS hl) (fun q => kf q H locs ls hW hS hl)
theorem l_if_eq (hC : LC X p s m c b Ln xs) {x : Int32} {off : Int} {tgt : Nat} (hdg : decode code pc = .ok (.ifCond .eq off, 3)) (ht : (pc : Int) + off = (tgt : Int)) (kt : x = 0 → LE X p e s m below meth c b Z tgt lo st sh I L c0 s0) (kf : ¬ x = 0 → LE X p e s m below meth c b Z (pc + 3) lo st sh I L c0 s0) : LE X p e s m below meth c b Z pc lo (.int x :: st) sh I L c0 s0 :=
  fun H locs ls hW hS hl => lv_if_eq hC.1 hC.2.1 hdg ht (fun q => kt q H locs ls hW hS hl) (fun q => kf q H locs ls hW hS hl)
theorem l_lcmp (hC : LC X p s m c b Ln xs) {x y : Int64} (hdg : decode code pc = .ok (.lcmp, 1)) (k : LE X p e s m below meth c b Z (pc + 1) lo (.int (lg_cmp x y) :: st) sh I L c0 s0) : LE X p e s m below meth c b Z pc lo (.long y :: .long x :: st) sh I L c0 s0 :=
  fun H locs ls hW hS hl0 => W.lcmp hC.1 hC.2.1 hdg (k H locs ls hW hS hl0)
theorem l_swIn (hC : LC X p s m c b Ln xs) {dflt a9 b9 : Int} {offs : Array Int} {len : Nat} {x : Int32} {off : Int} {tgt : Nat} (hdg : decode code pc = .ok (.tableswitch dflt a9 b9 offs, len)) (h1 : ¬ x.toInt < a9) (h2 : ¬ b9 < x.toInt) (ho : offs[(x.toInt - a9).toNat]? = some off) (ht : (pc : Int) + off = (tgt : Int)) (k : LE X p e s m below meth c b Z tgt lo st sh I L c0 s0) : LE X p e s m below meth c b Z pc lo (.int x :: st) sh I L c0 s0 :=
  fun H locs ls hW hS hl0 => lv_tableIn hC.1 hC.2.1 hdg h1 h2 ho ht (k H locs ls hW hS hl0)
theorem l_swOut (hC : LC X p s m c b Ln xs) {dflt a9 b9 : Int} {offs : Array Int} {len : Nat} {x : Int32} {tgt : Nat} (hdg : decode code pc = .ok (.tableswitch dflt a9 b9 offs, len)) (h : x.toInt < a9 ∨ b9 < x.toInt) (ht : (pc : Int) + dflt = (tgt : Int)) (k : LE X p e s m below meth c b Z tgt lo st sh I L c0 s0) : LE X p e s m below meth c b Z pc lo (.int x :: st) sh I L c0 s0 :=
  fun H locs ls hW hS hl0 => lv_tableOut hC.1 hC.2.1 hdg h ht (k H locs ls hW hS hl0)
theorem l_ldc2 (hC : LC X p s m c b Ln xs) {idx : Nat} {v : Int64} (hdg : decode code pc = .ok (.ldc2_w idx, 3)) (hw : Cond.constantLong RL idx v ∈ gw) (k : LE X p e s m below meth c b Z (pc + 3) lo (.long v :: st) sh I L c0 s0) : LE X p e s m below meth c b Z pc lo st sh I L c0 s0 :=
  fun H locs ls hW hS hl0 => lv_ldc2 hC.1 hC.2.1 hC.2.2.2.1 (hC.2.2.2.2.1 _ hw) hdg (k H locs ls hW hS hl0)
theorem l_dup (hC : LC X p s m c b Ln xs) {v : Value} (hdg : decode code pc = .ok (.dup, 1)) (hv : v.category = 1) (k : LE X p e s m below meth c b Z (pc + 1) lo (v :: v :: st) sh I L c0 s0) : LE X p e s m below meth c b Z pc lo (v :: st) sh I L c0 s0 :=
  fun H locs ls hW hS hl => lv_dup hC.1 hC.2.1 hdg hv (k H locs ls hW hS hl)
theorem lo_at {ls : Array Slot} {i : Nat} {v : Value} (h : lv_has ls 4 (lo.mapIdx fun i v => (i, v))) (hv : lo[i]? = some v) : ls[i]? = some (.val v) := lv_at h i (by rw [List.getElem?_mapIdx, hv]; rfl)
theorem l_aload_n (hC : LC X p s m c b Ln xs) {j : Fin 4} {x : Nat} (hdg : decode code pc = .ok (.aload_n j, 1)) (hv : lo[(j : Nat)]? = some (.ref x)) (k : LE X p e s m below meth c b Z (pc + 1) lo (.ref x :: st) sh I L c0 s0) : LE X p e s m below meth c b Z pc lo st sh I L c0 s0 :=
  fun H locs ls hW hS hl => lv_aload_n hC.1 hC.2.1 hdg rfl (lo_at hl hv) (k H locs ls hW hS hl)
theorem l_iload_n (hC : LC X p s m c b Ln xs) {j : Fin 4} {x : Int32} (hdg : decode code pc = .ok (.iload_n j, 1)) (hv : lo[(j : Nat)]? = some (.int x)) (k : LE X p e s m below meth c b Z (pc + 1) lo (.int x :: st) sh I L c0 s0) : LE X p e s m below meth c b Z pc lo st sh I L c0 s0 :=
  fun H locs ls hW hS hl => lv_iload_n hC.1 hC.2.1 hdg rfl (lo_at hl hv) (k H locs ls hW hS hl)
/-- a letter of the script -/
theorem l_iald (hC : LC X p s m c b Ln xs) {i : Int32} {j : Nat} (hdg : decode code pc = .ok (.iaload, 1)) (hi : i = nI j) (hj : j < Ln) (hn : Ln < 2 ^ 31) (k : LE X p e s m below meth c b Z (pc + 1) lo (.int (xs j) :: st) sh I L c0 s0) : LE X p e s m below meth c b Z pc lo (.int i :: .ref b :: st) sh I L c0 s0 :=
  fun H locs ls hW hS hl => by
    subst hi
    have e1 : (nI j).toNatClampNeg = j := nI_clamp (by omega)
    have e2 : (nI j).toInt = j := nI_toInt (by omega)
    refine va_sld hC.1 hC.2.1 hC.2.2.2.2.2.2.1 hC.2.2.2.2.2.2.2.1 (fun z => ?_) hS (fun z => ?_) hdg ?_
    · have h1 : X.2.1 ≤ b := z
      have h2 := hC.2.2.2.2.2.2.2.1
      have h3 := hC.2.2.2.2.2.2.2.2
      omega
    · rcases z with z | z
      · have h4 := i_nn.mp z
        omega
      · omega
    · rw [e1]
      exact k H locs ls hW hS hl
theorem l_alen (hC : LC X p s m c b Ln xs) (hdg : decode code pc = .ok (.arraylength, 1)) (k : LE X p e s m below meth c b Z (pc + 1) lo (.int (nI Ln) :: st) sh I L c0 s0) : LE X p e s m below meth c b Z pc lo (.ref b :: st) sh I L c0 s0 :=
  fun H locs ls hW hS hl => va_slen hC.1 hC.2.1 hC.2.2.2.2.2.2.1 hC.2.2.2.2.2.2.2.1 (fun z => by
      have h1 : X.2.1 ≤ b := z
      have h2 := hC.2.2.2.2.2.2.2.1
      have h3 := hC.2.2.2.2.2.2.2.2
      omega) hS hdg (k H locs ls hW hS hl)
theorem l_callV (hC : LC X p s m c b Ln xs) {N : MD} {n d' bb idx ci : Nat} {r : List Nat} {av : List Value} {v : Value} {sh' : List SH} {I' : MI} {L' : ML} (hM : Sp X N d' (0, 0) (.ref bb :: av) sh I L (some v, sh', I', L')) (hok : OKM N n) (hl : VLK RL idx N.1) (hs : sh[bb]? = some (ci, r)) (h100 : ci < 100) (hcl : (cls8[ci]?).map (·.1) = some N.1.cls) (hn : av.length = n) (hst : st = (av.reverse ++ .ref bb :: rest).map (conc X)) (hroom : (rest.map fun v => v.category).sum ≤ 8)
    (hR : d' + 1 ≤ 2048 ∧ 40 * (d' + 1) ≤ 84000) (hf : c0 ≤ 600000 ∧ s0 ≤ 7302250) (hdg : decode code pc = .ok (.invokevirtual idx, 3)) (k : LE X p e s m below meth c b Z (pc + 3) lo ((v :: rest).map (conc X)) sh' I' L' c0 s0) : LE X p e s m below meth c b Z pc lo st sh I L c0 s0 :=
  fun H locs ls hW hS hl0 => by
    subst hst
    exact w_callV hC.1 hC.2.1 hC.2.2.1 hC.2.2.2.1 hC.2.2.2.2.1 hC.2.2.2.2.2.1 hok hl hs h100 hcl hM hn rfl hroom hR hf hl0.1 hdg hW hS (fun H1 locs1 h1 h2 => k H1 locs1 ls h1 h2 hl0)
theorem l_callI (hC : LC X p s m c b Ln xs) {N : MD} {n d' bb idx : Nat} {ct' : Nat × Nat} {av : List Value} {v : Option Value} {sh' : List SH} {I' : MI} {L' : ML} (hM : Sp X N d' ct' (.ref bb :: av) sh I L (v, sh', I', L')) (hok : OKM N n) (hl : ILK RL idx N.1) (hret : N.2.2.2 = none) (hn : av.length = n) (hst : st = (av.reverse ++ .ref bb :: rest).map (conc X)) (hroom : (rest.map fun v => v.category).sum ≤ 8)
    (hR : d' + 1 ≤ 2048 ∧ 40 * (d' + 1) ≤ 84000) (hf : c0 + ct'.1 ≤ 600000 ∧ s0 + ct'.2 ≤ 7302250) (hdg : decode code pc = .ok (.invokespecial idx, 3)) (k : LE X p e s m below meth c b Z (pc + 3) lo ((v.toList ++ rest).map (conc X)) sh' I' L' (c0 + ct'.1) (s0 + ct'.2)) : LE X p e s m below meth c b Z pc lo st sh I L c0 s0 :=
  fun H locs ls hW hS hl0 => by
    subst hst
    exact w_callI hC.1 hC.2.1 hC.2.2.1 hC.2.2.2.1 hC.2.2.2.2.1 hC.2.2.2.2.2.1 hok hl hret hM hn rfl hroom hR hf hl0.1 hdg hW hS (fun H1 locs1 h1 h2 => k H1 locs1 ls h1 h2 hl0)
theorem l_new (hC : LC X p s m c b Ln xs) {idx ci N : Nat} {C : String} {r : List Nat} {sh1 : List SH} (hdg : decode code pc = .ok (.new idx, 3)) (hc : CLK ci) (h100 : ci < 100) (hq : (cls8[ci]?).map (fun q => (q.1, q.2.2)) = some (C, N)) (h1 : Cond.classLink RL idx C ∈ gw) (h2 : Cond.instantiable C N ∈ gw) (h3 : Cond.initialized C ∈ gw)
    (hr : r.length = N) (hd : ∀ (q : vw_C), cls8[ci]? = some q → ∀ (k : Nat) (ty : FieldType), k < N → parseFieldDescriptor (q.2.1 k).2.2.1 = some ty → some (defaultValue ty) = (r[k]?).map (fun z => fieldV X z 0)) (hI : I sh.length = fun _ => 0) (hcc : c0 + 1 ≤ 600000) (hcs : s0 + N ≤ 7302250) (hsh : sh ++ [(ci, r)] = sh1)
    (k : LE X p e s m below meth c b Z (pc + 3) lo (.ref (X.2.1 + sh.length) :: st) sh1 I L (c0 + 1) (s0 + N)) : LE X p e s m below meth c b Z pc lo st sh I L c0 s0 :=
  fun H locs ls hW hS hl => by
    subst hsh
    obtain ⟨⟨C0, T0, N0⟩, tys, hq0, hin, hty, hnm⟩ := hc
    rw [hq0] at hq
    simp at hq
    obtain ⟨rfl, rfl⟩ := hq
    have hK := hC.2.2.2.2.2.1.1
    have hts := hC.2.2.2.2.1
    have hKn := hK.1 ci _ hq0
    refine W.newcK hC.1 hC.2.1 hC.2.2.2.1 (hts _ h1) (hts _ h2) (hts _ h3) rfl hdg hcc hcs hKn.2.1 hW.1 fun H1 kC hkC e1 z1 o1 => ?_
    have e0 := wsM_push (X := X) (sh := sh) (I := I) (L := L) (ci, r) (cellE X (ci, r) (I sh.length) (L sh.length)) (I' := I) (L' := L) (fun _ _ => rfl) (fun _ _ => rfl) rfl
    rw [cell_o h100] at e0
    refine k H1 _ ls ⟨by rw [z1]; simp; omega, e0 ▸ (hW.2.kept (fun kk x hx => o1 x.1 (by rw [← hW.1]; exact (hW.2 kk x hx).lt))).app (fun kk x hx => ?_)⟩ ⟨Nat.le_trans hS.1 (by rw [z1, hW.1]; exact Nat.le_succ _), fun x a1 a2 => (o1 x (by rw [← hW.1]; exact Nat.lt_of_lt_of_le a1 hS.1)).trans (hS.2.1 x a1 a2), hS.2.2⟩ hl
    have hz : kk < 1 := (List.getElem?_eq_some_iff.mp hx).1
    rw [show kk = 0 by omega] at hx
    cases hx
    refine ⟨_, hq0, (u_born tys hts hin hKn hkC e1 hty).to fun z hz => ?_⟩
    have h9 := hd _ hq0 z _ hz (hty z hz)
    cases hrz : r[z]? with
    | none => rw [hrz] at h9; cases h9
    | some w =>
      rw [hrz] at h9
      simp [vp_V, List.getD_eq_getElem?_getD, List.getElem?_mapIdx, hrz, hI]
      simpa using h9
end LAWROWS
theorem mem_gw {w : Cond} (h : w ∈ gw) : w ∈ lw_tbl := (List.mem_filter.mp h).1
theorem nest_in : ∀ w ∈ nestWs, w ∈ lw_tbl := by decide +kernel
theorem nest_on : ∀ w ∈ nestWs, w.onTables = true := by decide +kernel
theorem arr_of {s : State} {args : Array Value} {ty : FieldType} (h : (Cond.arrayClass ty).before args s = true) : ∃ cA, ArrOfT s cA ty ∧ s.vm.findClass ("[" ++ ty.toString) = some cA := by
  obtain ⟨cA, kA, comp, h1, h2, h3⟩ := Cond.arrayClass_spec h
  exact ⟨cA, fun n z => ⟨fun k h => (by cases h), kA, h2, comp, h3⟩, h1⟩
/-- the places of the classes, and what the tables say of them -/
theorem law_ctx (l : Launch) {s : State} {args : Array Value} (hts0 : ∀ w ∈ lw_tbl, w.before args s = true) : ∃ X : Ctx, X.1 = l ∧ X.2.1 = s.heap.size ∧ KX X s := by
  have hts : ∀ w ∈ gw, w.before args s = true := fun w hw => hts0 w (mem_gw hw)
  have kn : ∀ ci (q : vw_C), CLK ci → cls8[ci]? = some q → Cond.instantiable q.1 q.2.2 ∈ gw → ∃ (cC : ClassId) (iS : Nat → Nat), u_Kn s q.1 q.2.1 q.2.2 cC iS := fun ci q hc hq hi => by
    obtain ⟨q2, ty, h1, h2, h3, h4⟩ := hc
    rw [hq] at h1
    cases h1
    exact u_known hts h2 (hts _ hi)
  obtain ⟨c0, i0, k0⟩ := kn 0 _ clk0 rfl inst0
  obtain ⟨c1, i1, k1⟩ := kn 1 _ clk1 rfl inst1
  obtain ⟨c2, i2, k2⟩ := kn 2 _ clk2 rfl inst2
  obtain ⟨c3, i3, k3⟩ := kn 3 _ clk3 rfl inst3
  obtain ⟨c4, i4, k4⟩ := kn 4 _ clk4 rfl inst4
  obtain ⟨c5, i5, k5⟩ := kn 5 _ clk5 rfl inst5
  obtain ⟨c6, i6, k6⟩ := kn 6 _ clk6 rfl inst6
  obtain ⟨cI, aI, fI⟩ := arr_of (hts _ arrc_int)
  obtain ⟨cL, aL, fL⟩ := arr_of (hts _ arrc_long)
  obtain ⟨cZ, aZ, fZ⟩ := arr_of (hts _ arrc_boolean)
  refine ⟨(l, s.heap.size, fun k => match k with | 0 => c0 | 1 => c1 | 2 => c2 | 3 => c3 | 4 => c4 | 5 => c5 | _ => c6, fun k => match k with | 0 => i0 | 1 => i1 | 2 => i2 | 3 => i3 | 4 => i4 | 5 => i5 | _ => i6, cI, cL, cZ), rfl, rfl, ⟨fun k q hq => ?_, fun k q hq => ?_⟩, fun w hw => va_Nw.of (nest_on w hw) (hts0 w (nest_in w hw))⟩
  · match k, hq with
    | 0, hq => cases hq; exact k0
    | 1, hq => cases hq; exact k1
    | 2, hq => cases hq; exact k2
    | 3, hq => cases hq; exact k3
    | 4, hq => cases hq; exact k4
    | 5, hq => cases hq; exact k5
    | 6, hq => cases hq; exact k6
    | k + 7, hq => simp at hq
  · match k, hq with
    | 0, hq => cases hq; exact ⟨aI, fI⟩
    | 1, hq => cases hq; exact ⟨aL, fL⟩
    | 2, hq => cases hq; exact ⟨aZ, fZ⟩
    | k + 3, hq => simp [tysX] at hq
