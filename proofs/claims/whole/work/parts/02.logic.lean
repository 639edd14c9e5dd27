/-! THE ABSTRACT MACHINE: the heap from 'base' on is a list of cells (the shape 'sh': class and fields, or kind and length of an array) with contents I (ints), L (longs); a reference i stands for the address base + i -/
abbrev Ctx : Type := Launch × Nat × (Nat → ClassId) × (Nat → Nat → Nat) × ClassId × ClassId × ClassId
abbrev SH : Type := Nat × List Nat
abbrev MI : Type := Nat → Nat → Int32
abbrev ML : Type := Nat → Nat → Int64
abbrev MD : Type := MethodName × ByteArray × Nat × Option FieldType
abbrev TR : Type := Option Value × List SH × MI × ML
abbrev cls8 : List vw_C := [(RX0, TX0, 2), (RX1, TX1, 4), (RX2, TX2, 9), (RX3, TX3, 6), (RX4, TX4, 8), (RX5, TX5, 14), (RX6, TX6, 40)]
def tysX (X : Ctx) : List (ClassId × FieldType) := [(X.2.2.2.2.1, .int), (X.2.2.2.2.2.1, .long), (X.2.2.2.2.2.2, .boolean)]
def conc (X : Ctx) : Value → Value
  | .ref i => .ref (X.2.1 + i)
  | v => v
def isN : Value → Bool
  | .null => true
  | _ => false
def fieldV (X : Ctx) (r : Nat) (x : Int32) : Value := match r with
  | 0 => .int x
  | 1 => .null
  | n + 2 => .ref (X.2.1 + n)
def cellE (X : Ctx) (s : SH) (f : Nat → Int32) (g : Nat → Int64) : va_E :=
  if s.1 = 100 then .inl (X.2.2.2.2.1, s.2.headD 0, .inl f) else if s.1 = 101 then .inl (X.2.2.2.2.2.1, s.2.headD 0, .inr (.inl g)) else if s.1 = 102 then .inl (X.2.2.2.2.2.2, s.2.headD 0, .inl f)
  else .inr (s.1, s.2.mapIdx fun k r => fieldV X r (f k))
def wsM (X : Ctx) (sh : List SH) (I : MI) (L : ML) : va_W := sh.mapIdx fun i s => (X.2.1 + i, cellE X s (I i) (L i))
def WD (X : Ctx) (sh : List SH) (I : MI) (L : ML) (H : Heap) : Prop := H.size = X.2.1 + sh.length ∧ va_P (X.2.2.1, X.2.2.2.1) cls8 (wsM X sh I L) H
def AX (X : Ctx) : Nat → Prop := fun q => X.2.1 ≤ q
def nestWs : List Cond := [.fieldLinkNest "SpreadDesk$Sweep" 68 "SpreadDesk$Tape" "kind" "[I" "SpreadDesk", .fieldLinkNest "SpreadDesk$Sweep" 61 "SpreadDesk$Tape" "one" "[I" "SpreadDesk", .fieldLinkNest "SpreadDesk$Sweep" 65 "SpreadDesk$Tape" "other" "[I" "SpreadDesk", .fieldLinkNest "SpreadDesk" 80 "SpreadDesk$Reader" "figures" "LSpreadDesk$Figures;" "SpreadDesk", .fieldLinkNest "SpreadDesk" 85 "SpreadDesk$Reader" "tape" "LSpreadDesk$Tape;" "SpreadDesk", .methodLinkNest "SpreadDesk$Reader" 66 yX5_isSource "SpreadDesk", .methodLinkNest "SpreadDesk$Figures" 18 yX5_isSource "SpreadDesk"]
def KX (X : Ctx) (U : State) : Prop := va_K (X.2.2.1, X.2.2.2.1) cls8 (tysX X) U ∧ ∀ w ∈ nestWs, va_Nw w U
def gw : List Cond := lw_tbl.filter goodWord
theorem gw_of {w : Cond} (h : w ∈ lw_tbl) (hg : goodWord w = true) : w ∈ gw := List.mem_filter.mpr ⟨h, hg⟩
theorem KX.moved {X : Ctx} {u U : State} (hW : u.WarmedH U.vm) (h : KX X u) : KX X U := by
  refine ⟨va_K.moved hW.alike h.1, fun w hw => ?_⟩
  have h1 := h.2 w hw
  simp only [nestWs, List.mem_cons, List.not_mem_nil, or_false] at hw
  rcases hw with rfl | rfl | rfl | rfl | rfl | rfl | rfl
  · exact va_Nw.warmF hW h1
  · exact va_Nw.warmF hW h1
  · exact va_Nw.warmF hW h1
  · exact va_Nw.warmF hW h1
  · exact va_Nw.warmF hW h1
  · exact va_Nw.warmM hW h1
  · exact va_Nw.warmM hW h1
theorem KX.same {X : Ctx} {u U : State} (hvm : u.vm = U.vm) (h : KX X u) : KX X U := by
  refine ⟨va_K.moved (by rw [hvm]; exact Vm.Alike.refl U.vm) h.1, fun w hw => ?_⟩
  have h1 := h.2 w hw
  simp only [nestWs, List.mem_cons, List.not_mem_nil, or_false] at hw
  rcases hw with rfl | rfl | rfl | rfl | rfl | rfl | rfl <;> exact va_Nw.same rfl hvm h1
/-! the list of cells -/
theorem wsM_get {X : Ctx} {sh : List SH} {I : MI} {L : ML} {i : Nat} {s : SH} (h : sh[i]? = some s) : (wsM X sh I L)[i]? = some (X.2.1 + i, cellE X s (I i) (L i)) := by
  simp [wsM, List.getElem?_mapIdx, h]
theorem wsM_len (X : Ctx) (sh : List SH) (I : MI) (L : ML) : (wsM X sh I L).length = sh.length := by simp [wsM]
theorem wsM_D (X : Ctx) (sh : List SH) (I : MI) (L : ML) : va_D (AX X) (wsM X sh I L) := by
  refine ⟨fun i j p q hp hq h => ?_, fun k q hk => ?_⟩
  · simp only [wsM, List.getElem?_mapIdx, Option.map_eq_some_iff] at hp hq
    obtain ⟨a, -, rfl⟩ := hp
    obtain ⟨b, -, rfl⟩ := hq
    have h' : X.2.1 + i = X.2.1 + j := h
    omega
  · simp only [wsM, List.getElem?_mapIdx, Option.map_eq_some_iff] at hk
    obtain ⟨a, -, rfl⟩ := hk
    exact Nat.le_add_right _ _
/-- one cell of the list is changed -/
theorem wsM_set {X : Ctx} {sh sh' : List SH} {I I' : MI} {L L' : ML} {i : Nat} {s : SH} (c : va_E) (h : sh'[i]? = some s) (hl : sh'.length = sh.length) (hs : ∀ j, j ≠ i → sh'[j]? = sh[j]?) (hI : ∀ j, j ≠ i → I' j = I j) (hL : ∀ j, j ≠ i → L' j = L j) (hc : c = cellE X s (I' i) (L' i)) :
    (wsM X sh I L).set i (X.2.1 + i, c) = wsM X sh' I' L' := by
  apply List.ext_getElem?
  intro j
  rw [List.getElem?_set]
  by_cases hj : i = j
  · subst hj
    have hlt : i < sh'.length := (List.getElem?_eq_some_iff.mp h).1
    rw [if_pos rfl, if_pos (by rw [wsM_len]; omega), wsM_get h, hc]
  · rw [if_neg hj]
    have hj' : j ≠ i := fun q => hj q.symm
    simp only [wsM, List.getElem?_mapIdx]
    rw [hs j hj', hI j hj', hL j hj']
theorem wsM_push {X : Ctx} {sh : List SH} {I : MI} {L : ML} (s : SH) (c : va_E) {I' : MI} {L' : ML} (hI : ∀ j, j < sh.length → I' j = I j) (hL : ∀ j, j < sh.length → L' j = L j) (hc : c = cellE X s (I' sh.length) (L' sh.length)) :
    wsM X sh I L ++ [(X.2.1 + sh.length, c)] = wsM X (sh ++ [s]) I' L' := by
  apply List.ext_getElem?
  intro j
  by_cases hj : j < sh.length
  · rw [List.getElem?_append_left (by rw [wsM_len]; exact hj)]
    simp only [wsM, List.getElem?_mapIdx]
    rw [List.getElem?_append_left hj, hI j hj, hL j hj]
  · rw [List.getElem?_append_right (by rw [wsM_len]; omega), wsM_len]
    by_cases he : j = sh.length
    · subst he
      rw [Nat.sub_self]
      simp only [wsM, List.getElem?_mapIdx]
      simp [hc]
    · have h1 : ([(X.2.1 + sh.length, c)] : va_W)[j - sh.length]? = none := List.getElem?_eq_none_iff.mpr (by simp; omega)
      rw [h1]
      simp only [wsM, List.getElem?_mapIdx]
      rw [List.getElem?_eq_none_iff.mpr (by simp; omega)]
      rfl
theorem cell_i {X : Ctx} {n : Nat} {r : List Nat} {f : Nat → Int32} {g : Nat → Int64} : cellE X (100, n :: r) f g = .inl (X.2.2.2.2.1, n, .inl f) := rfl
theorem cell_l {X : Ctx} {n : Nat} {r : List Nat} {f : Nat → Int32} {g : Nat → Int64} : cellE X (101, n :: r) f g = .inl (X.2.2.2.2.2.1, n, .inr (.inl g)) := rfl
theorem cell_z {X : Ctx} {n : Nat} {r : List Nat} {f : Nat → Int32} {g : Nat → Int64} : cellE X (102, n :: r) f g = .inl (X.2.2.2.2.2.2, n, .inl f) := rfl
theorem cell_o {X : Ctx} {ci : Nat} {r : List Nat} {f : Nat → Int32} {g : Nat → Int64} (h : ci < 100) : cellE X (ci, r) f g = .inr (ci, r.mapIdx fun k r => fieldV X r (f k)) := by
  unfold cellE
  rw [if_neg (by show ¬ ci = 100; omega), if_neg (by show ¬ ci = 101; omega), if_neg (by show ¬ ci = 102; omega)]
/-! locals: by place; null where nothing is held -/
def asc (X : Ctx) (lo : List Value) : List (Nat × Value) := (lo.mapIdx fun i v => (i, conc X v)).filter (fun q => !isN q.2)
def LH (X : Ctx) (ls : Array Slot) (nL : Nat) (lo : List Value) : Prop := lv_has ls nL (asc X lo)
theorem isN_conc (X : Ctx) (v : Value) : isN (conc X v) = isN v := by cases v <;> rfl
theorem cat_conc (X : Ctx) (v : Value) : (conc X v).category = v.category := by cases v <;> rfl
theorem asc_mem {X : Ctx} {lo : List Value} {q : Nat × Value} : q ∈ asc X lo ↔ ∃ v, lo[q.1]? = some v ∧ isN v = false ∧ q.2 = conc X v := by
  unfold asc
  rw [List.mem_filter, List.mem_mapIdx]
  constructor
  · rintro ⟨⟨i, h, rfl⟩, h2⟩
    refine ⟨lo[i], ?_, ?_, rfl⟩
    · exact List.getElem?_eq_getElem h
    · simpa [isN_conc] using h2
  · rintro ⟨v, h1, h2, h3⟩
    obtain ⟨hlt, rfl⟩ := List.getElem?_eq_some_iff.mp h1
    refine ⟨⟨q.1, hlt, ?_⟩, ?_⟩
    · rw [← h3]
    · rw [h3]; simpa [isN_conc] using h2
theorem LH.get {X : Ctx} {ls : Array Slot} {nL : Nat} {lo : List Value} (h : LH X ls nL lo) {i : Nat} {v : Value} (hi : lo[i]? = some v) (hn : isN v = false) : ls[i]? = some (.val (conc X v)) :=
  h.2.2 (i, conc X v) (asc_mem.mpr ⟨v, hi, hn, rfl⟩)
/-- what stands ahead of place i is no long -/
def okS (lo : List Value) (i : Nat) : Bool := match i with
  | 0 => true
  | j + 1 => match lo[j]? with
    | some v => v.category != 2
    | none => true
theorem okS_at {lo : List Value} {i j : Nat} {v : Value} (h : okS lo i = true) (hj : j + 1 = i) (hv : lo[j]? = some v) : ¬ v.category = 2 := by
  subst hj
  simp only [okS, hv] at h
  simpa using h
theorem LH.put1 {X : Ctx} {ls : Array Slot} {nL : Nat} {lo : List Value} {i : Nat} {w : Value} (hk : okS lo i = true)
    (h : lv_has ls nL ((i, conc X w) :: (asc X lo).filter (fun q => !(q.1 == i) && !(q.1 + 1 == i && q.2.category == 2)))) : LH X ls nL (lo.set i w) := by
  refine ⟨h.1, h.2.1, fun q hq => h.2.2 q ?_⟩
  obtain ⟨v, h1, h2, h3⟩ := asc_mem.mp hq
  rw [List.getElem?_set] at h1
  by_cases hj : i = q.1
  · rw [if_pos hj] at h1
    split at h1
    · cases h1
      exact List.mem_cons.mpr (Or.inl (by rw [← h3, hj]))
    · cases h1
  · rw [if_neg hj] at h1
    refine List.mem_cons_of_mem _ (List.mem_filter.mpr ⟨asc_mem.mpr ⟨v, h1, h2, h3⟩, ?_⟩)
    have hne : (q.1 == i) = false := by simpa using fun e => hj e.symm
    by_cases he : q.1 + 1 = i
    · have hc := okS_at hk he h1
      rw [h3]
      simp [hne, cat_conc, hc]
    · simp [hne, he]
theorem LH.put2 {X : Ctx} {ls : Array Slot} {nL : Nat} {lo : List Value} {i : Nat} {w : Value} (hk : okS lo i = true)
    (h : lv_has ls nL ((i, conc X w) :: (asc X lo).filter (fun q => !(q.1 == i) && (!(q.1 == i + 1) && !(q.1 + 1 == i && q.2.category == 2))))) : LH X ls nL ((lo.set i w).set (i + 1) .null) := by
  refine ⟨h.1, h.2.1, fun q hq => h.2.2 q ?_⟩
  obtain ⟨v, h1, h2, h3⟩ := asc_mem.mp hq
  rw [List.getElem?_set] at h1
  by_cases hj1 : i + 1 = q.1
  · rw [if_pos hj1] at h1
    split at h1
    · cases h1; cases h2
    · cases h1
  rw [if_neg hj1, List.getElem?_set] at h1
  by_cases hj : i = q.1
  · rw [if_pos hj] at h1
    split at h1
    · cases h1
      exact List.mem_cons.mpr (Or.inl (by rw [← h3, hj]))
    · cases h1
  · rw [if_neg hj] at h1
    refine List.mem_cons_of_mem _ (List.mem_filter.mpr ⟨asc_mem.mpr ⟨v, h1, h2, h3⟩, ?_⟩)
    have hne : (q.1 == i) = false := by simpa using fun e => hj e.symm
    have hne1 : (q.1 == i + 1) = false := by simpa using fun e => hj1 e.symm
    by_cases he : q.1 + 1 = i
    · have hc := okS_at hk he h1
      rw [h3]
      simp [hne, hne1, cat_conc, hc]
    · simp [hne, hne1, he]
def loA : List Value → List Value
  | [] => []
  | v :: r => if v.category = 2 then v :: .null :: loA r else v :: loA r
theorem loA_args (X : Ctx) (n : Nat) (av : List Value) : ∀ (i : Nat) (q : Nat × Value) (v : Value), (loA av ++ List.replicate n Value.null)[q.1]? = some v → isN v = false → q.2 = conc X v → (i + q.1, q.2) ∈ lv_args i (av.map (conc X)) := by
  induction av with
  | nil =>
    intro i q v h1 h2 h3
    simp only [loA, List.nil_append] at h1
    have := List.eq_of_mem_replicate (List.mem_of_getElem? h1)
    subst this
    cases h2
  | cons a r ih =>
    intro i q v h1 h2 h3
    obtain ⟨k, w⟩ := q
    by_cases hc : a.category = 2
    · have hl : lv_args i ((a :: r).map (conc X)) = (i, conc X a) :: lv_args (i + 2) (r.map (conc X)) := by
        simp [lv_args, cat_conc, hc]
      rw [hl]
      simp only [loA, if_pos hc] at h1
      match k, h1 with
      | 0, h1 =>
        simp at h1
        subst h1
        exact List.mem_cons.mpr (Or.inl (by rw [show w = conc X a from h3]; rfl))
      | 1, h1 =>
        simp at h1
        subst h1
        cases h2
      | k + 2, h1 =>
        simp at h1
        have := ih (i + 2) (k, w) v (by simpa using h1) h2 h3
        refine List.mem_cons_of_mem _ ?_
        have e : i + (k + 2) = i + 2 + k := by omega
        rw [show ((i + (k + 2), w) : Nat × Value) = (i + 2 + k, w) by rw [e]]
        exact this
    · have hl : lv_args i ((a :: r).map (conc X)) = (i, conc X a) :: lv_args (i + 1) (r.map (conc X)) := by
        simp [lv_args, cat_conc, hc]
      rw [hl]
      simp only [loA, if_neg hc] at h1
      match k, h1 with
      | 0, h1 =>
        simp at h1
        subst h1
        exact List.mem_cons.mpr (Or.inl (by rw [show w = conc X a from h3]; rfl))
      | k + 1, h1 =>
        simp at h1
        have := ih (i + 1) (k, w) v (by simpa using h1) h2 h3
        refine List.mem_cons_of_mem _ ?_
        have e : i + (k + 1) = i + 1 + k := by omega
        rw [show ((i + (k + 1), w) : Nat × Value) = (i + 1 + k, w) by rw [e]]
        exact this
theorem LH.entry (X : Ctx) (av : List Value) {n : Nat} (hlen : (lg_sl (av.map (conc X))).length ≤ n) (k : Nat) : LH X ((lg_sl (av.map (conc X)) ++ List.replicate (n - (lg_sl (av.map (conc X))).length) Slot.unset).toArray) n (loA av ++ List.replicate k Value.null) := by
  have h := lv_entry (av.map (conc X)) hlen
  refine ⟨h.1, h.2.1, fun q hq => h.2.2 q ?_⟩
  obtain ⟨v, h1, h2, h3⟩ := asc_mem.mp hq
  have := loA_args X k av 0 q v h1 h2 h3
  simpa using this
/-! the judgement -/
def rmX (d : Nat) (ct : Nat × Nat) : Room := { frames := d, cells := ct.1, slots := ct.2, locals := 40 * d }
def QX (X : Ctx) (T : TR) : Array Value → State → Outcome → State → Prop := fun _ st oc t => oc = .returned (T.1.map (conc X)) ∧ WD X T.2.1 T.2.2.1 T.2.2.2 t.heap ∧ va_F (AX X) st t
def CX (X : Ctx) (M : MD) (p : Program) (s : State) (m : MethodId) (args : Array Value) (meth : Method) (c : Code) : Prop :=
  p.tables.exec = Jvm.exec ∧ c.code = M.2.1 ∧ c.maxLocals = M.2.2.1 ∧ s.vm.findClass M.1.cls = some m.cls ∧ meth.sig.returnType = M.2.2.2 ∧ meth.locks = false ∧ meth.name = M.1.name ∧ (∀ w ∈ gw, w.before args s = true) ∧ KX X s ∧ X.2.1 ≤ s.heap.size
def Ev (X : Ctx) (M : MD) (d : Nat) (ct cs : Nat × Nat) (T : TR) (pc : Nat) (lo st : List Value) (sh : List SH) (I : MI) (L : ML) : Prop :=
  ∀ (p : Program) (e : Env) (s : State) (m : MethodId) (args : Array Value) (below : List Frame) (meth : Method) (c : Code) (H : Heap) (locs : List Loc) (ls : Array Slot),
    CX X M p s m args meth c → WD X sh I L H → va_S (AX X) s.heap H locs → LH X ls M.2.2.1 lo →
    W p X.1 e (rmX d ct) s m args below meth c H locs cs.1 cs.2 (MQ below (QX X T) args s ct.1 ct.2 (AX X)) (F0 m pc ls (st.map (conc X)))
def Sp (X : Ctx) (M : MD) (d : Nat) (ct : Nat × Nat) (av : List Value) (sh : List SH) (I : MI) (L : ML) (T : TR) : Prop :=
  Met X.1 M.1 (.code M.1 M.2.1 M.2.2.1 M.2.2.2 :: gw) (rmX d ct) (va_Pc (av.map (conc X)) (fun U => WD X sh I L U.heap ∧ KX X U)) (QX X T) ct.1 ct.2 (AX X)
def OKM (M : MD) (n : Nat) : Prop := plainName M.1.cls = true ∧ Cond.code M.1 M.2.1 M.2.2.1 M.2.2.2 ∈ gw ∧ (M.1.cls ≠ "java/lang/invoke/MethodHandle" ∧ M.1.cls ≠ "java/lang/invoke/VarHandle") ∧ (parseMethodDescriptor M.1.desc).map (fun d => d.parameters.length) = some n ∧ Cond.initialized M.1.cls ∈ gw ∧ M.2.2.1 ≤ 20
theorem gw_good : ∀ w ∈ gw, (w.onTables && w.keeps) = true ∨ ∃ ty, w = .arrayClass ty := fun _ h => good_of_word (List.mem_filter.mp h).2
theorem gw_pay {s : State} {args : Array Value} (hts : ∀ w ∈ gw, w.before args s = true) {ws : List Cond} (hw : ∀ w ∈ ws, w ∈ gw) : GoodIn gw ws := fun w h => ⟨hw w h, gw_good w (hw w h)⟩
set_option maxHeartbeats 1000000 in
theorem Sp.of {X : Ctx} {M : MD} {d n : Nat} {ct : Nat × Nat} {av : List Value} {sh : List SH} {I : MI} {L : ML} {T : TR} (hok : OKM M n) (lo : List Value) (k : Nat) (hlo : loA av ++ List.replicate k Value.null = lo) (hlen : (lg_sl (av.map (conc X))).length ≤ M.2.2.1)
    (h : Ev X M d ct (0, 0) T 0 lo [] sh I L) : Sp X M d ct av sh I L T := by
  obtain ⟨y, cc, nL, ret⟩ := M
  subst hlo
  refine Met.ofW (cc := cc) (maxL := nL) (ret := ret) hok.1 rfl ?_
  intro p e s m args below meth c s₁ B hml hv
  obtain ⟨rfl, hW, hK⟩ := hv
  have hts := atoms_spec (ws := Cond.code y cc nL ret :: gw) B.pre
  rw [lg_entry_eq]
  exact h p e s m _ below meth c s.heap [] _ ⟨B.exec, B.bytes, hml, findClass_of_methodNamed B.named, B.returns, B.notSynchronized, (name_of_methodNamed B.named B.method).1, fun w hw => hts w (List.mem_cons_of_mem _ hw), hK, by rw [hW.1]; exact Nat.le_add_right _ _⟩ hW va_S.rf (LH.entry X av hlen k)
section ROWS
variable {X : Ctx} {M : MD} {d : Nat} {ct cs : Nat × Nat} {T : TR} {pc : Nat} {lo st rest : List Value} {sh : List SH} {I : MI} {L : ML}
theorem r_iconst {n : Int} {v : Int32} (hdg : decode M.2.1 pc = .ok (.iconst n, 1)) (hv : Int32.ofInt n = v) (k : Ev X M d ct cs T (pc + 1) lo (.int v :: st) sh I L) : Ev X M d ct cs T pc lo st sh I L :=
  fun p e s m args below meth c H locs ls hC hW hS hl0 => lv_iconst hC.1 hC.2.1 hdg hv (k p e s m args below meth c H locs ls hC hW hS hl0)
theorem r_bipush {n : Int} {v : Int32} (hdg : decode M.2.1 pc = .ok (.bipush n, 2)) (hv : (Int8.ofInt n).toInt32 = v) (k : Ev X M d ct cs T (pc + 2) lo (.int v :: st) sh I L) : Ev X M d ct cs T pc lo st sh I L :=
  fun p e s m args below meth c H locs ls hC hW hS hl0 => lv_bipush hC.1 hC.2.1 hdg hv (k p e s m args below meth c H locs ls hC hW hS hl0)
theorem r_sipush {n : Int} {v : Int32} (hdg : decode M.2.1 pc = .ok (.sipush n, 3)) (hv : (Int16.ofInt n).toInt32 = v) (k : Ev X M d ct cs T (pc + 3) lo (.int v :: st) sh I L) : Ev X M d ct cs T pc lo st sh I L :=
  fun p e s m args below meth c H locs ls hC hW hS hl0 => lv_sipush hC.1 hC.2.1 hdg hv (k p e s m args below meth c H locs ls hC hW hS hl0)
theorem r_lconst {n : Fin 2} {v : Int64} (hdg : decode M.2.1 pc = .ok (.lconst n, 1)) (hv : Int64.ofNat (n : Nat) = v) (k : Ev X M d ct cs T (pc + 1) lo (.long v :: st) sh I L) : Ev X M d ct cs T pc lo st sh I L :=
  fun p e s m args below meth c H locs ls hC hW hS hl0 => lv_lconst hC.1 hC.2.1 hdg hv (k p e s m args below meth c H locs ls hC hW hS hl0)
theorem r_iload_n {j : Fin 4} {x : Int32} (hdg : decode M.2.1 pc = .ok (.iload_n j, 1)) (hl : lo[(j : Nat)]? = some (.int x)) (k : Ev X M d ct cs T (pc + 1) lo (.int x :: st) sh I L) : Ev X M d ct cs T pc lo st sh I L :=
  fun p e s m args below meth c H locs ls hC hW hS hl0 => lv_iload_n hC.1 hC.2.1 hdg rfl (hl0.get hl rfl) (k p e s m args below meth c H locs ls hC hW hS hl0)
theorem r_iload {j : Nat} {x : Int32} (hdg : decode M.2.1 pc = .ok (.iload j, 2)) (hl : lo[j]? = some (.int x)) (k : Ev X M d ct cs T (pc + 2) lo (.int x :: st) sh I L) : Ev X M d ct cs T pc lo st sh I L :=
  fun p e s m args below meth c H locs ls hC hW hS hl0 => lv_iload hC.1 hC.2.1 hdg (hl0.get hl rfl) (k p e s m args below meth c H locs ls hC hW hS hl0)
theorem r_lload_n {j : Fin 4} {x : Int64} (hdg : decode M.2.1 pc = .ok (.lload_n j, 1)) (hl : lo[(j : Nat)]? = some (.long x)) (k : Ev X M d ct cs T (pc + 1) lo (.long x :: st) sh I L) : Ev X M d ct cs T pc lo st sh I L :=
  fun p e s m args below meth c H locs ls hC hW hS hl0 => lv_lload_n hC.1 hC.2.1 hdg rfl (hl0.get hl rfl) (k p e s m args below meth c H locs ls hC hW hS hl0)
theorem r_lload {j : Nat} {x : Int64} (hdg : decode M.2.1 pc = .ok (.lload j, 2)) (hl : lo[j]? = some (.long x)) (k : Ev X M d ct cs T (pc + 2) lo (.long x :: st) sh I L) : Ev X M d ct cs T pc lo st sh I L :=
  fun p e s m args below meth c H locs ls hC hW hS hl0 => lv_lload hC.1 hC.2.1 hdg (hl0.get hl rfl) (k p e s m args below meth c H locs ls hC hW hS hl0)
theorem r_aload_n {j : Fin 4} {x : Nat} (hdg : decode M.2.1 pc = .ok (.aload_n j, 1)) (hl : lo[(j : Nat)]? = some (.ref x)) (k : Ev X M d ct cs T (pc + 1) lo (.ref x :: st) sh I L) : Ev X M d ct cs T pc lo st sh I L :=
  fun p e s m args below meth c H locs ls hC hW hS hl0 => lv_aload_n hC.1 hC.2.1 hdg rfl (hl0.get hl rfl) (k p e s m args below meth c H locs ls hC hW hS hl0)
theorem r_aload {j : Nat} {x : Nat} (hdg : decode M.2.1 pc = .ok (.aload j, 2)) (hl : lo[j]? = some (.ref x)) (k : Ev X M d ct cs T (pc + 2) lo (.ref x :: st) sh I L) : Ev X M d ct cs T pc lo st sh I L :=
  fun p e s m args below meth c H locs ls hC hW hS hl0 => lv_aload hC.1 hC.2.1 hdg (hl0.get hl rfl) (k p e s m args below meth c H locs ls hC hW hS hl0)
theorem r_istore_n {j : Fin 4} {x : Int32} {lo1 : List Value} (hdg : decode M.2.1 pc = .ok (.istore_n j, 1)) (hk : okS lo j = true) (hn : (j : Nat) < M.2.2.1) (h1 : lo.set j (.int x) = lo1) (k : Ev X M d ct cs T (pc + 1) lo1 st sh I L) : Ev X M d ct cs T pc lo (.int x :: st) sh I L :=
  fun p e s m args below meth c H locs ls hC hW hS hl0 => by subst h1; exact lv_istore_n hC.1 hC.2.1 hdg rfl hl0 hn rfl (fun ls1 hl1 => k p e s m args below meth c H locs ls1 hC hW hS (LH.put1 hk hl1))
theorem r_istore {j : Nat} {x : Int32} {lo1 : List Value} (hdg : decode M.2.1 pc = .ok (.istore j, 2)) (hk : okS lo j = true) (hn : j < M.2.2.1) (h1 : lo.set j (.int x) = lo1) (k : Ev X M d ct cs T (pc + 2) lo1 st sh I L) : Ev X M d ct cs T pc lo (.int x :: st) sh I L :=
  fun p e s m args below meth c H locs ls hC hW hS hl0 => by subst h1; exact lv_istore hC.1 hC.2.1 hdg hl0 hn rfl (fun ls1 hl1 => k p e s m args below meth c H locs ls1 hC hW hS (LH.put1 hk hl1))
theorem r_astore_n {j : Fin 4} {x : Nat} {lo1 : List Value} (hdg : decode M.2.1 pc = .ok (.astore_n j, 1)) (hk : okS lo j = true) (hn : (j : Nat) < M.2.2.1) (h1 : lo.set j (.ref x) = lo1) (k : Ev X M d ct cs T (pc + 1) lo1 st sh I L) : Ev X M d ct cs T pc lo (.ref x :: st) sh I L :=
  fun p e s m args below meth c H locs ls hC hW hS hl0 => by subst h1; exact lv_astore_n hC.1 hC.2.1 hdg rfl hl0 hn rfl (fun ls1 hl1 => k p e s m args below meth c H locs ls1 hC hW hS (LH.put1 hk hl1))
theorem r_astore {j : Nat} {x : Nat} {lo1 : List Value} (hdg : decode M.2.1 pc = .ok (.astore j, 2)) (hk : okS lo j = true) (hn : j < M.2.2.1) (h1 : lo.set j (.ref x) = lo1) (k : Ev X M d ct cs T (pc + 2) lo1 st sh I L) : Ev X M d ct cs T pc lo (.ref x :: st) sh I L :=
  fun p e s m args below meth c H locs ls hC hW hS hl0 => by subst h1; exact lv_astore hC.1 hC.2.1 hdg hl0 hn rfl (fun ls1 hl1 => k p e s m args below meth c H locs ls1 hC hW hS (LH.put1 hk hl1))
theorem r_lstore_n {j : Fin 4} {x : Int64} {lo1 : List Value} (hdg : decode M.2.1 pc = .ok (.lstore_n j, 1)) (hk : okS lo j = true) (hn : (j : Nat) + 1 < M.2.2.1) (h1 : (lo.set j (.long x)).set (j + 1) .null = lo1) (k : Ev X M d ct cs T (pc + 1) lo1 st sh I L) : Ev X M d ct cs T pc lo (.long x :: st) sh I L :=
  fun p e s m args below meth c H locs ls hC hW hS hl0 => by subst h1; exact lv_lstore_n hC.1 hC.2.1 hdg rfl hl0 hn rfl (fun ls1 hl1 => k p e s m args below meth c H locs ls1 hC hW hS (LH.put2 hk hl1))
theorem r_lstore {j : Nat} {x : Int64} {lo1 : List Value} (hdg : decode M.2.1 pc = .ok (.lstore j, 2)) (hk : okS lo j = true) (hn : j + 1 < M.2.2.1) (h1 : (lo.set j (.long x)).set (j + 1) .null = lo1) (k : Ev X M d ct cs T (pc + 2) lo1 st sh I L) : Ev X M d ct cs T pc lo (.long x :: st) sh I L :=
  fun p e s m args below meth c H locs ls hC hW hS hl0 => by subst h1; exact lv_lstore hC.1 hC.2.1 hdg hl0 hn rfl (fun ls1 hl1 => k p e s m args below meth c H locs ls1 hC hW hS (LH.put2 hk hl1))
theorem asc_at {X : Ctx} {lo : List Value} {i : Nat} {v : Value} (h : lo[i]? = some v) (hn : isN v = false) : ∃ k : Nat, (asc X lo)[k]? = some (i, conc X v) := List.getElem?_of_mem (asc_mem.mpr ⟨v, h, hn, rfl⟩)
theorem r_iinc {j : Nat} {n : Int} {x v : Int32} {lo1 : List Value} (hdg : decode M.2.1 pc = .ok (.iinc j n, 3)) (hj : lo[j]? = some (.int x)) (hk : okS lo j = true) (hv : x + Int32.ofInt n = v) (hn : j < M.2.2.1) (h1 : lo.set j (.int v) = lo1) (k : Ev X M d ct cs T (pc + 3) lo1 st sh I L) : Ev X M d ct cs T pc lo st sh I L :=
  fun p e s m args below meth c H locs ls hC hW hS hl0 => by subst h1; obtain ⟨kk, hkk⟩ := asc_at (X := X) hj rfl; exact lv_iinc hC.1 hC.2.1 hdg hl0 hkk hv hn rfl (fun ls1 hl1 => k p e s m args below meth c H locs ls1 hC hW hS (LH.put1 hk hl1))
theorem r_iadd {x y : Int32} (hdg : decode M.2.1 pc = .ok (.iadd, 1)) (k : Ev X M d ct cs T (pc + 1) lo (.int (x + y) :: st) sh I L) : Ev X M d ct cs T pc lo (.int y :: .int x :: st) sh I L :=
  fun p e s m args below meth c H locs ls hC hW hS hl0 => lv_iadd hC.1 hC.2.1 hdg (k p e s m args below meth c H locs ls hC hW hS hl0)
theorem r_isub {x y : Int32} (hdg : decode M.2.1 pc = .ok (.isub, 1)) (k : Ev X M d ct cs T (pc + 1) lo (.int (x - y) :: st) sh I L) : Ev X M d ct cs T pc lo (.int y :: .int x :: st) sh I L :=
  fun p e s m args below meth c H locs ls hC hW hS hl0 => lv_isub hC.1 hC.2.1 hdg (k p e s m args below meth c H locs ls hC hW hS hl0)
theorem r_imul {x y : Int32} (hdg : decode M.2.1 pc = .ok (.imul, 1)) (k : Ev X M d ct cs T (pc + 1) lo (.int (x * y) :: st) sh I L) : Ev X M d ct cs T pc lo (.int y :: .int x :: st) sh I L :=
  fun p e s m args below meth c H locs ls hC hW hS hl0 => lv_imul hC.1 hC.2.1 hdg (k p e s m args below meth c H locs ls hC hW hS hl0)
theorem r_iand {x y : Int32} (hdg : decode M.2.1 pc = .ok (.iand, 1)) (k : Ev X M d ct cs T (pc + 1) lo (.int (x &&& y) :: st) sh I L) : Ev X M d ct cs T pc lo (.int y :: .int x :: st) sh I L :=
  fun p e s m args below meth c H locs ls hC hW hS hl0 => lv_iand hC.1 hC.2.1 hdg (k p e s m args below meth c H locs ls hC hW hS hl0)
theorem r_ior {x y : Int32} (hdg : decode M.2.1 pc = .ok (.ior, 1)) (k : Ev X M d ct cs T (pc + 1) lo (.int (x ||| y) :: st) sh I L) : Ev X M d ct cs T pc lo (.int y :: .int x :: st) sh I L :=
  fun p e s m args below meth c H locs ls hC hW hS hl0 => lv_ior hC.1 hC.2.1 hdg (k p e s m args below meth c H locs ls hC hW hS hl0)
theorem r_ishl {x y : Int32} (hdg : decode M.2.1 pc = .ok (.ishl, 1)) (k : Ev X M d ct cs T (pc + 1) lo (.int (x <<< (y &&& 31)) :: st) sh I L) : Ev X M d ct cs T pc lo (.int y :: .int x :: st) sh I L :=
  fun p e s m args below meth c H locs ls hC hW hS hl0 => lv_ishl hC.1 hC.2.1 hdg (k p e s m args below meth c H locs ls hC hW hS hl0)
theorem r_ishr {x y : Int32} (hdg : decode M.2.1 pc = .ok (.ishr, 1)) (k : Ev X M d ct cs T (pc + 1) lo (.int (x >>> (y &&& 31)) :: st) sh I L) : Ev X M d ct cs T pc lo (.int y :: .int x :: st) sh I L :=
  fun p e s m args below meth c H locs ls hC hW hS hl0 => lv_ishr hC.1 hC.2.1 hdg (k p e s m args below meth c H locs ls hC hW hS hl0)
theorem r_ladd {x y : Int64} (hdg : decode M.2.1 pc = .ok (.ladd, 1)) (k : Ev X M d ct cs T (pc + 1) lo (.long (x + y) :: st) sh I L) : Ev X M d ct cs T pc lo (.long y :: .long x :: st) sh I L :=
  fun p e s m args below meth c H locs ls hC hW hS hl0 => lv_ladd hC.1 hC.2.1 hdg (k p e s m args below meth c H locs ls hC hW hS hl0)
theorem r_lsub {x y : Int64} (hdg : decode M.2.1 pc = .ok (.lsub, 1)) (k : Ev X M d ct cs T (pc + 1) lo (.long (x - y) :: st) sh I L) : Ev X M d ct cs T pc lo (.long y :: .long x :: st) sh I L :=
  fun p e s m args below meth c H locs ls hC hW hS hl0 => lv_lsub hC.1 hC.2.1 hdg (k p e s m args below meth c H locs ls hC hW hS hl0)
theorem r_lmul {x y : Int64} (hdg : decode M.2.1 pc = .ok (.lmul, 1)) (k : Ev X M d ct cs T (pc + 1) lo (.long (x * y) :: st) sh I L) : Ev X M d ct cs T pc lo (.long y :: .long x :: st) sh I L :=
  fun p e s m args below meth c H locs ls hC hW hS hl0 => lv_lmul hC.1 hC.2.1 hdg (k p e s m args below meth c H locs ls hC hW hS hl0)
theorem r_land {x y : Int64} (hdg : decode M.2.1 pc = .ok (.land, 1)) (k : Ev X M d ct cs T (pc + 1) lo (.long (x &&& y) :: st) sh I L) : Ev X M d ct cs T pc lo (.long y :: .long x :: st) sh I L :=
  fun p e s m args below meth c H locs ls hC hW hS hl0 => lv_land hC.1 hC.2.1 hdg (k p e s m args below meth c H locs ls hC hW hS hl0)
theorem r_lor {x y : Int64} (hdg : decode M.2.1 pc = .ok (.lor, 1)) (k : Ev X M d ct cs T (pc + 1) lo (.long (x ||| y) :: st) sh I L) : Ev X M d ct cs T pc lo (.long y :: .long x :: st) sh I L :=
  fun p e s m args below meth c H locs ls hC hW hS hl0 => lv_lor hC.1 hC.2.1 hdg (k p e s m args below meth c H locs ls hC hW hS hl0)
theorem r_idiv {x y : Int32} (hdg : decode M.2.1 pc = .ok (.idiv, 1)) (hne : ¬ y = 0) (k : Ev X M d ct cs T (pc + 1) lo (.int (x / y) :: st) sh I L) : Ev X M d ct cs T pc lo (.int y :: .int x :: st) sh I L :=
  fun p e s m args below meth c H locs ls hC hW hS hl0 => lv_idiv hC.1 hC.2.1 hdg hne (k p e s m args below meth c H locs ls hC hW hS hl0)
theorem r_irem {x y : Int32} (hdg : decode M.2.1 pc = .ok (.irem, 1)) (hne : ¬ y = 0) (k : Ev X M d ct cs T (pc + 1) lo (.int (x - x / y * y) :: st) sh I L) : Ev X M d ct cs T pc lo (.int y :: .int x :: st) sh I L :=
  fun p e s m args below meth c H locs ls hC hW hS hl0 => lv_irem hC.1 hC.2.1 hdg hne (k p e s m args below meth c H locs ls hC hW hS hl0)
theorem r_ineg {x : Int32} (hdg : decode M.2.1 pc = .ok (.ineg, 1)) (k : Ev X M d ct cs T (pc + 1) lo (.int (-x) :: st) sh I L) : Ev X M d ct cs T pc lo (.int x :: st) sh I L :=
  fun p e s m args below meth c H locs ls hC hW hS hl0 => lv_ineg hC.1 hC.2.1 hdg (k p e s m args below meth c H locs ls hC hW hS hl0)
theorem r_lneg {x : Int64} (hdg : decode M.2.1 pc = .ok (.lneg, 1)) (k : Ev X M d ct cs T (pc + 1) lo (.long (-x) :: st) sh I L) : Ev X M d ct cs T pc lo (.long x :: st) sh I L :=
  fun p e s m args below meth c H locs ls hC hW hS hl0 => lv_lneg hC.1 hC.2.1 hdg (k p e s m args below meth c H locs ls hC hW hS hl0)
theorem r_i2l {x : Int32} (hdg : decode M.2.1 pc = .ok (.i2l, 1)) (k : Ev X M d ct cs T (pc + 1) lo (.long x.toInt64 :: st) sh I L) : Ev X M d ct cs T pc lo (.int x :: st) sh I L :=
  fun p e s m args below meth c H locs ls hC hW hS hl0 => lv_i2l hC.1 hC.2.1 hdg rfl (k p e s m args below meth c H locs ls hC hW hS hl0)
theorem r_iushr {x y : Int32} (hdg : decode M.2.1 pc = .ok (.iushr, 1)) (k : Ev X M d ct cs T (pc + 1) lo (.int (x.toUInt32 >>> (y.toUInt32 &&& Int32.toUInt32 31)).toInt32 :: st) sh I L) : Ev X M d ct cs T pc lo (.int y :: .int x :: st) sh I L :=
  fun p e s m args below meth c H locs ls hC hW hS hl0 => lv_iushr hC.1 hC.2.1 hdg rfl (k p e s m args below meth c H locs ls hC hW hS hl0)
theorem r_lshl {x : Int64} {y : Int32} (hdg : decode M.2.1 pc = .ok (.lshl, 1)) (k : Ev X M d ct cs T (pc + 1) lo (.long (x <<< (y.toInt64 &&& 63)) :: st) sh I L) : Ev X M d ct cs T pc lo (.int y :: .long x :: st) sh I L :=
  fun p e s m args below meth c H locs ls hC hW hS hl0 => lv_lshl hC.1 hC.2.1 hdg rfl (k p e s m args below meth c H locs ls hC hW hS hl0)
theorem r_lcmp {x y : Int64} (hdg : decode M.2.1 pc = .ok (.lcmp, 1)) (k : Ev X M d ct cs T (pc + 1) lo (.int (lg_cmp x y) :: st) sh I L) : Ev X M d ct cs T pc lo (.long y :: .long x :: st) sh I L :=
  fun p e s m args below meth c H locs ls hC hW hS hl0 => W.lcmp hC.1 hC.2.1 hdg (k p e s m args below meth c H locs ls hC hW hS hl0)
theorem r_dup {v : Value} (hdg : decode M.2.1 pc = .ok (.dup, 1)) (hv : v.category = 1) (k : Ev X M d ct cs T (pc + 1) lo (v :: v :: st) sh I L) : Ev X M d ct cs T pc lo (v :: st) sh I L :=
  fun p e s m args below meth c H locs ls hC hW hS hl0 => lv_dup hC.1 hC.2.1 hdg (by rw [cat_conc]; exact hv) (k p e s m args below meth c H locs ls hC hW hS hl0)
theorem r_pop {v : Value} (hdg : decode M.2.1 pc = .ok (.pop, 1)) (hv : v.category = 1) (k : Ev X M d ct cs T (pc + 1) lo st sh I L) : Ev X M d ct cs T pc lo (v :: st) sh I L :=
  fun p e s m args below meth c H locs ls hC hW hS hl0 => lv_pop hC.1 hC.2.1 hdg (by rw [cat_conc]; exact hv) (k p e s m args below meth c H locs ls hC hW hS hl0)
theorem r_dup2 {v w : Value} (hdg : decode M.2.1 pc = .ok (.dup2, 1)) (hv : v.category = 1) (hw : w.category = 1) (k : Ev X M d ct cs T (pc + 1) lo (v :: w :: v :: w :: st) sh I L) : Ev X M d ct cs T pc lo (v :: w :: st) sh I L :=
  fun p e s m args below meth c H locs ls hC hW hS hl0 => lv_dup2_11 hC.1 hC.2.1 hdg (by rw [cat_conc]; exact hv) (by rw [cat_conc]; exact hw) (k p e s m args below meth c H locs ls hC hW hS hl0)
theorem r_goto {off : Int} {tgt : Nat} (hdg : decode M.2.1 pc = .ok (.goto off, 3)) (ht : (pc : Int) + off = (tgt : Int)) (k : Ev X M d ct cs T tgt lo st sh I L) : Ev X M d ct cs T pc lo st sh I L :=
  fun p e s m args below meth c H locs ls hC hW hS hl0 => lv_goto hC.1 hC.2.1 hdg ht (k p e s m args below meth c H locs ls hC hW hS hl0)
theorem r_if_eq {x : Int32} {off : Int} {tgt : Nat} (hdg : decode M.2.1 pc = .ok (.ifCond .eq off, 3)) (ht : (pc : Int) + off = (tgt : Int)) (kt : x = 0 → Ev X M d ct cs T tgt lo st sh I L) (kf : ¬ x = 0 → Ev X M d ct cs T (pc + 3) lo st sh I L) : Ev X M d ct cs T pc lo (.int x :: st) sh I L :=
  fun p e s m args below meth c H locs ls hC hW hS hl => lv_if_eq hC.1 hC.2.1 hdg ht (fun q => kt q p e s m args below meth c H locs ls hC hW hS hl) (fun q => kf q p e s m args below meth c H locs ls hC hW hS hl)
theorem r_icmp_eq {x y : Int32} {off : Int} {tgt : Nat} (hdg : decode M.2.1 pc = .ok (.if_icmp .eq off, 3)) (ht : (pc : Int) + off = (tgt : Int)) (kt : x = y → Ev X M d ct cs T tgt lo st sh I L) (kf : ¬ x = y → Ev X M d ct cs T (pc + 3) lo st sh I L) : Ev X M d ct cs T pc lo (.int y :: .int x :: st) sh I L :=
  fun p e s m args below meth c H locs ls hC hW hS hl => lv_icmp_eq hC.1 hC.2.1 hdg ht (fun q => kt q p e s m args below meth c H locs ls hC hW hS hl) (fun q => kf q p e s m args below meth c H locs ls hC hW hS hl)
theorem r_if_ne {x : Int32} {off : Int} {tgt : Nat} (hdg : decode M.2.1 pc = .ok (.ifCond .ne off, 3)) (ht : (pc : Int) + off = (tgt : Int)) (kt : ¬ x = 0 → Ev X M d ct cs T tgt lo st sh I L) (kf : x = 0 → Ev X M d ct cs T (pc + 3) lo st sh I L) : Ev X M d ct cs T pc lo (.int x :: st) sh I L :=
  fun p e s m args below meth c H locs ls hC hW hS hl => lv_if_ne hC.1 hC.2.1 hdg ht (fun q => kt q p e s m args below meth c H locs ls hC hW hS hl) (fun q => kf q p e s m args below meth c H locs ls hC hW hS hl)
theorem r_icmp_ne {x y : Int32} {off : Int} {tgt : Nat} (hdg : decode M.2.1 pc = .ok (.if_icmp .ne off, 3)) (ht : (pc : Int) + off = (tgt : Int)) (kt : ¬ x = y → Ev X M d ct cs T tgt lo st sh I L) (kf : x = y → Ev X M d ct cs T (pc + 3) lo st sh I L) : Ev X M d ct cs T pc lo (.int y :: .int x :: st) sh I L :=
  fun p e s m args below meth c H locs ls hC hW hS hl => lv_icmp_ne hC.1 hC.2.1 hdg ht (fun q => kt q p e s m args below meth c H locs ls hC hW hS hl) (fun q => kf q p e s m args below meth c H locs ls hC hW hS hl)
theorem r_if_lt {x : Int32} {off : Int} {tgt : Nat} (hdg : decode M.2.1 pc = .ok (.ifCond .lt off, 3)) (ht : (pc : Int) + off = (tgt : Int)) (kt : x < 0 → Ev X M d ct cs T tgt lo st sh I L) (kf : ¬ x < 0 → Ev X M d ct cs T (pc + 3) lo st sh I L) : Ev X M d ct cs T pc lo (.int x :: st) sh I L :=
  fun p e s m args below meth c H locs ls hC hW hS hl => lv_if_lt hC.1 hC.2.1 hdg ht (fun q => kt q p e s m args below meth c H locs ls hC hW hS hl) (fun q => kf q p e s m args below meth c H locs ls hC hW hS hl)
theorem r_icmp_lt {x y : Int32} {off : Int} {tgt : Nat} (hdg : decode M.2.1 pc = .ok (.if_icmp .lt off, 3)) (ht : (pc : Int) + off = (tgt : Int)) (kt : x < y → Ev X M d ct cs T tgt lo st sh I L) (kf : ¬ x < y → Ev X M d ct cs T (pc + 3) lo st sh I L) : Ev X M d ct cs T pc lo (.int y :: .int x :: st) sh I L :=
  fun p e s m args below meth c H locs ls hC hW hS hl => lv_icmp_lt hC.1 hC.2.1 hdg ht (fun q => kt q p e s m args below meth c H locs ls hC hW hS hl) (fun q => kf q p e s m args below meth c H locs ls hC hW hS hl)
theorem r_if_ge {x : Int32} {off : Int} {tgt : Nat} (hdg : decode M.2.1 pc = .ok (.ifCond .ge off, 3)) (ht : (pc : Int) + off = (tgt : Int)) (kt : 0 ≤ x → Ev X M d ct cs T tgt lo st sh I L) (kf : ¬ 0 ≤ x → Ev X M d ct cs T (pc + 3) lo st sh I L) : Ev X M d ct cs T pc lo (.int x :: st) sh I L :=
  fun p e s m args below meth c H locs ls hC hW hS hl => lv_if_ge hC.1 hC.2.1 hdg ht (fun q => kt q p e s m args below meth c H locs ls hC hW hS hl) (fun q => kf q p e s m args below meth c H locs ls hC hW hS hl)
theorem r_icmp_ge {x y : Int32} {off : Int} {tgt : Nat} (hdg : decode M.2.1 pc = .ok (.if_icmp .ge off, 3)) (ht : (pc : Int) + off = (tgt : Int)) (kt : y ≤ x → Ev X M d ct cs T tgt lo st sh I L) (kf : ¬ y ≤ x → Ev X M d ct cs T (pc + 3) lo st sh I L) : Ev X M d ct cs T pc lo (.int y :: .int x :: st) sh I L :=
  fun p e s m args below meth c H locs ls hC hW hS hl => lv_icmp_ge hC.1 hC.2.1 hdg ht (fun q => kt q p e s m args below meth c H locs ls hC hW hS hl) (fun q => kf q p e s m args below meth c H locs ls hC hW hS hl)
theorem r_if_gt {x : Int32} {off : Int} {tgt : Nat} (hdg : decode M.2.1 pc = .ok (.ifCond .gt off, 3)) (ht : (pc : Int) + off = (tgt : Int)) (kt : 0 < x → Ev X M d ct cs T tgt lo st sh I L) (kf : ¬ 0 < x → Ev X M d ct cs T (pc + 3) lo st sh I L) : Ev X M d ct cs T pc lo (.int x :: st) sh I L :=
  fun p e s m args below meth c H locs ls hC hW hS hl => lv_if_gt hC.1 hC.2.1 hdg ht (fun q => kt q p e s m args below meth c H locs ls hC hW hS hl) (fun q => kf q p e s m args below meth c H locs ls hC hW hS hl)
theorem r_icmp_gt {x y : Int32} {off : Int} {tgt : Nat} (hdg : decode M.2.1 pc = .ok (.if_icmp .gt off, 3)) (ht : (pc : Int) + off = (tgt : Int)) (kt : y < x → Ev X M d ct cs T tgt lo st sh I L) (kf : ¬ y < x → Ev X M d ct cs T (pc + 3) lo st sh I L) : Ev X M d ct cs T pc lo (.int y :: .int x :: st) sh I L :=
  fun p e s m args below meth c H locs ls hC hW hS hl => lv_icmp_gt hC.1 hC.2.1 hdg ht (fun q => kt q p e s m args below meth c H locs ls hC hW hS hl) (fun q => kf q p e s m args below meth c H locs ls hC hW hS hl)
theorem r_if_le {x : Int32} {off : Int} {tgt : Nat} (hdg : decode M.2.1 pc = .ok (.ifCond .le off, 3)) (ht : (pc : Int) + off = (tgt : Int)) (kt : x ≤ 0 → Ev X M d ct cs T tgt lo st sh I L) (kf : ¬ x ≤ 0 → Ev X M d ct cs T (pc + 3) lo st sh I L) : Ev X M d ct cs T pc lo (.int x :: st) sh I L :=
  fun p e s m args below meth c H locs ls hC hW hS hl => lv_if_le hC.1 hC.2.1 hdg ht (fun q => kt q p e s m args below meth c H locs ls hC hW hS hl) (fun q => kf q p e s m args below meth c H locs ls hC hW hS hl)
theorem r_icmp_le {x y : Int32} {off : Int} {tgt : Nat} (hdg : decode M.2.1 pc = .ok (.if_icmp .le off, 3)) (ht : (pc : Int) + off = (tgt : Int)) (kt : x ≤ y → Ev X M d ct cs T tgt lo st sh I L) (kf : ¬ x ≤ y → Ev X M d ct cs T (pc + 3) lo st sh I L) : Ev X M d ct cs T pc lo (.int y :: .int x :: st) sh I L :=
  fun p e s m args below meth c H locs ls hC hW hS hl => lv_icmp_le hC.1 hC.2.1 hdg ht (fun q => kt q p e s m args below meth c H locs ls hC hW hS hl) (fun q => kf q p e s m args below meth c H locs ls hC hW hS hl)
theorem r_swOut {dflt a b : Int} {offs : Array Int} {len : Nat} {x : Int32} {tgt : Nat} (hdg : decode M.2.1 pc = .ok (.tableswitch dflt a b offs, len)) (h : x.toInt < a ∨ b < x.toInt) (ht : (pc : Int) + dflt = (tgt : Int)) (k : Ev X M d ct cs T tgt lo st sh I L) : Ev X M d ct cs T pc lo (.int x :: st) sh I L :=
  fun p e s m args below meth c H locs ls hC hW hS hl0 => lv_tableOut hC.1 hC.2.1 hdg h ht (k p e s m args below meth c H locs ls hC hW hS hl0)
theorem r_swIn {dflt a b : Int} {offs : Array Int} {len : Nat} {x : Int32} {off : Int} {tgt : Nat} (hdg : decode M.2.1 pc = .ok (.tableswitch dflt a b offs, len)) (h1 : ¬ x.toInt < a) (h2 : ¬ b < x.toInt) (ho : offs[(x.toInt - a).toNat]? = some off) (ht : (pc : Int) + off = (tgt : Int)) (k : Ev X M d ct cs T tgt lo st sh I L) : Ev X M d ct cs T pc lo (.int x :: st) sh I L :=
  fun p e s m args below meth c H locs ls hC hW hS hl0 => lv_tableIn hC.1 hC.2.1 hdg h1 h2 ho ht (k p e s m args below meth c H locs ls hC hW hS hl0)
theorem r_ldc2 {idx : Nat} {v : Int64} (hdg : decode M.2.1 pc = .ok (.ldc2_w idx, 3)) (hw : Cond.constantLong M.1.cls idx v ∈ gw) (k : Ev X M d ct cs T (pc + 3) lo (.long v :: st) sh I L) : Ev X M d ct cs T pc lo st sh I L :=
  fun p e s m args below meth c H locs ls hC hW hS hl0 => lv_ldc2 hC.1 hC.2.1 hC.2.2.2.1 (hC.2.2.2.2.2.2.2.1 _ hw) hdg (k p e s m args below meth c H locs ls hC hW hS hl0)
theorem r_ldcw {idx : Nat} {v : Int32} (hdg : decode M.2.1 pc = .ok (.ldc_w idx, 3)) (hw : Cond.constant M.1.cls idx v ∈ gw) (k : Ev X M d ct cs T (pc + 3) lo (.int v :: st) sh I L) : Ev X M d ct cs T pc lo st sh I L :=
  fun p e s m args below meth c H locs ls hC hW hS hl0 => lv_ldcw hC.1 hC.2.1 hC.2.2.2.1 (hC.2.2.2.2.2.2.2.1 _ hw) hdg (k p e s m args below meth c H locs ls hC hW hS hl0)
def u2 (I : MI) (c j : Nat) (x : Int32) : MI := fun c' => if c' = c then upd (I c) j x else I c'
def v2 (L : ML) (c j : Nat) (x : Int64) : ML := fun c' => if c' = c then vp_updL (L c) j x else L c'
theorem u2_off {I : MI} {c j c' : Nat} {x : Int32} (h : c' ≠ c) : u2 I c j x c' = I c' := if_neg h
theorem u2_on {I : MI} {c j : Nat} {x : Int32} : u2 I c j x c = upd (I c) j x := if_pos rfl
theorem v2_off {I : ML} {c j c' : Nat} {x : Int64} (h : c' ≠ c) : v2 I c j x c' = I c' := if_neg h
theorem v2_on {I : ML} {c j : Nat} {x : Int64} : v2 I c j x c = vp_updL (I c) j x := if_pos rfl
theorem WD.put {sh sh' : List SH} {I I' : MI} {L L' : ML} {H0 : Heap} {ws : va_W} (h : H0.size = X.2.1 + sh.length) (hP : va_P (X.2.2.1, X.2.2.2.1) cls8 ws H0) (hl : sh'.length = sh.length) (he : ws = wsM X sh' I' L') : WD X sh' I' L' H0 := by
  subst he
  exact ⟨by rw [h, hl], hP⟩
theorem r_iald {a n : Nat} {i : Int32} {j : Nat} (hdg : decode M.2.1 pc = .ok (.iaload, 1)) (hs : sh[a]? = some (100, [n])) (hi : i = nI j) (hj : j < n) (hn : n < 2 ^ 31) (k : Ev X M d ct cs T (pc + 1) lo (.int (I a j) :: st) sh I L) : Ev X M d ct cs T pc lo (.int i :: .ref a :: st) sh I L :=
  fun p e s m args below meth c H locs ls hC hW hS hl => by
    subst hi
    refine va_iald hC.1 hC.2.1 hC.2.2.2.2.2.2.2.2.1.1 hW.2 a 0 (wsM_get hs) rfl (vp_in_nI hj hn) hdg ?_
    rw [nI_clamp (by omega)]
    exact k p e s m args below meth c H locs ls hC hW hS hl
theorem r_lald {a n : Nat} {i : Int32} {j : Nat} (hdg : decode M.2.1 pc = .ok (.laload, 1)) (hs : sh[a]? = some (101, [n])) (hi : i = nI j) (hj : j < n) (hn : n < 2 ^ 31) (k : Ev X M d ct cs T (pc + 1) lo (.long (L a j) :: st) sh I L) : Ev X M d ct cs T pc lo (.int i :: .ref a :: st) sh I L :=
  fun p e s m args below meth c H locs ls hC hW hS hl => by
    subst hi
    refine va_lald hC.1 hC.2.1 hC.2.2.2.2.2.2.2.2.1.1 hW.2 a 1 (wsM_get hs) rfl (vp_in_nI hj hn) hdg ?_
    rw [nI_clamp (by omega)]
    exact k p e s m args below meth c H locs ls hC hW hS hl
theorem r_zald {a n : Nat} {i : Int32} {j : Nat} (hdg : decode M.2.1 pc = .ok (.baload, 1)) (hs : sh[a]? = some (102, [n])) (hi : i = nI j) (hj : j < n) (hn : n < 2 ^ 31) (k : Ev X M d ct cs T (pc + 1) lo (.int (I a j) :: st) sh I L) : Ev X M d ct cs T pc lo (.int i :: .ref a :: st) sh I L :=
  fun p e s m args below meth c H locs ls hC hW hS hl => by
    subst hi
    refine va_zald hC.1 hC.2.1 hC.2.2.2.2.2.2.2.2.1.1 hW.2 a 2 (wsM_get hs) rfl (vp_in_nI hj hn) hdg ?_
    rw [nI_clamp (by omega)]
    exact k p e s m args below meth c H locs ls hC hW hS hl
theorem r_alen {a t n : Nat} (hdg : decode M.2.1 pc = .ok (.arraylength, 1)) (hs : sh[a]? = some (t, [n])) (ht : t = 100 ∨ t = 101 ∨ t = 102) (k : Ev X M d ct cs T (pc + 1) lo (.int (nI n) :: st) sh I L) : Ev X M d ct cs T pc lo (.ref a :: st) sh I L :=
  fun p e s m args below meth c H locs ls hC hW hS hl => by
    rcases ht with rfl | rfl | rfl
    · exact va_alen hC.1 hC.2.1 hC.2.2.2.2.2.2.2.2.1.1 hW.2 a 0 (wsM_get hs) (ty := .int) rfl rfl hdg (k p e s m args below meth c H locs ls hC hW hS hl)
    · exact va_alen hC.1 hC.2.1 hC.2.2.2.2.2.2.2.2.1.1 hW.2 a 1 (wsM_get hs) (ty := .long) rfl rfl hdg (k p e s m args below meth c H locs ls hC hW hS hl)
    · exact va_alen hC.1 hC.2.1 hC.2.2.2.2.2.2.2.2.1.1 hW.2 a 2 (wsM_get hs) (ty := .boolean) rfl rfl hdg (k p e s m args below meth c H locs ls hC hW hS hl)
theorem upd_arr (f : Nat → Int32) (j : Nat) (x : Int32) : (fun q => Value.int (upd f j x q)) = updV (fun q => Value.int (f q)) j (.int x) := by
  funext q
  by_cases hq : q = j
  · subst hq; simp [updV, upd]
  · simp [updV, upd, hq]
theorem updL_arr (f : Nat → Int64) (j : Nat) (x : Int64) : (fun q => Value.long (vp_updL f j x q)) = updV (fun q => Value.long (f q)) j (.long x) := by
  funext q
  by_cases hq : q = j
  · subst hq; simp [updV, vp_updL]
  · simp [updV, vp_updL, hq]
theorem r_iast {a n : Nat} {i x : Int32} {j : Nat} (hdg : decode M.2.1 pc = .ok (.iastore, 1)) (hs : sh[a]? = some (100, [n])) (hi : i = nI j) (hj : j < n) (hn : n < 2 ^ 31) (k : Ev X M d ct cs T (pc + 1) lo st sh (u2 I a j x) L) : Ev X M d ct cs T pc lo (.int x :: .int i :: .ref a :: st) sh I L :=
  fun p e s m args below meth c H locs ls hC hW hS hl => by
    subst hi
    have hin := vp_in_nI hj hn
    have hg := wsM_get (X := X) (I := I) (L := L) hs
    refine W.iast hC.1 hC.2.1 (hW.2 a _ hg) ((hC.2.2.2.2.2.2.2.2.1.1.2 0 _ rfl).1 n (fun q => .int (I a q))) (fun q => by cases q) (by show ¬ (nI j < 0 ∨ (arrV _ _ _).slots.size ≤ _); rw [arrV_size]; exact hin) rfl rfl hdg fun H1 ec z oq => ?_
    have he : (wsM X sh I L).set a (X.2.1 + a, Sum.inl (X.2.2.2.2.1, n, Sum.inl (upd (I a) j x))) = wsM X sh (u2 I a j x) L := wsM_set (s := (100, [n])) _ hs rfl (fun _ _ => rfl) (fun _ h => u2_off h) (fun _ _ => rfl) (by rw [u2_on]; rfl)
    refine k p e s m args below meth c H1 _ ls hC ⟨by rw [z]; exact hW.1, he ▸ hW.2.set (wsM_D X sh I L) hg ?_ oq⟩ (hS.put z oq (Nat.le_add_right _ _)) hl
    show H1[X.2.1 + a]? = some (vp_cell _ _)
    rw [ec, nI_clamp (by omega)]
    show some ((arrV X.2.2.2.2.1 n (fun q => Value.int (I a q))).setSlot j (.int x)) = some (arrV X.2.2.2.2.1 n (fun q => Value.int (upd (I a) j x q)))
    rw [arrV_store, upd_arr]
theorem r_last {a n : Nat} {i : Int32} {x : Int64} {j : Nat} (hdg : decode M.2.1 pc = .ok (.lastore, 1)) (hs : sh[a]? = some (101, [n])) (hi : i = nI j) (hj : j < n) (hn : n < 2 ^ 31) (k : Ev X M d ct cs T (pc + 1) lo st sh I (v2 L a j x)) : Ev X M d ct cs T pc lo (.long x :: .int i :: .ref a :: st) sh I L :=
  fun p e s m args below meth c H locs ls hC hW hS hl => by
    subst hi
    have hin := vp_in_nI hj hn
    have hg := wsM_get (X := X) (I := I) (L := L) hs
    refine W.last hC.1 hC.2.1 (hW.2 a _ hg) ((hC.2.2.2.2.2.2.2.2.1.1.2 1 _ rfl).1 n (fun q => .long (L a q))) (fun q => by cases q) (by show ¬ (nI j < 0 ∨ (arrV _ _ _).slots.size ≤ _); rw [arrV_size]; exact hin) rfl rfl hdg fun H1 ec z oq => ?_
    have he : (wsM X sh I L).set a (X.2.1 + a, Sum.inl (X.2.2.2.2.2.1, n, Sum.inr (Sum.inl (vp_updL (L a) j x)))) = wsM X sh I (v2 L a j x) := wsM_set (s := (101, [n])) _ hs rfl (fun _ _ => rfl) (fun _ _ => rfl) (fun _ h => v2_off h) (by rw [v2_on]; rfl)
    refine k p e s m args below meth c H1 _ ls hC ⟨by rw [z]; exact hW.1, he ▸ hW.2.set (wsM_D X sh I L) hg ?_ oq⟩ (hS.put z oq (Nat.le_add_right _ _)) hl
    show H1[X.2.1 + a]? = some (vp_cell _ _)
    rw [ec, nI_clamp (by omega)]
    show some ((arrV X.2.2.2.2.2.1 n (fun q => Value.long (L a q))).setSlot j (.long x)) = some (arrV X.2.2.2.2.2.1 n (fun q => Value.long (vp_updL (L a) j x q)))
    rw [arrV_store, updL_arr]
theorem r_zast {a n : Nat} {i x : Int32} {j : Nat} (hdg : decode M.2.1 pc = .ok (.bastore, 1)) (hs : sh[a]? = some (102, [n])) (hi : i = nI j) (hj : j < n) (hn : n < 2 ^ 31) (hx : narrow .boolean (.int x) = .int x) (k : Ev X M d ct cs T (pc + 1) lo st sh (u2 I a j x) L) : Ev X M d ct cs T pc lo (.int x :: .int i :: .ref a :: st) sh I L :=
  fun p e s m args below meth c H locs ls hC hW hS hl => by
    subst hi
    have hin := vp_in_nI hj hn
    have hg := wsM_get (X := X) (I := I) (L := L) hs
    refine W.zast hC.1 hC.2.1 (hW.2 a _ hg) ((hC.2.2.2.2.2.2.2.2.1.1.2 2 _ rfl).1 n (fun q => .int (I a q))) (fun q => by cases q) (by show ¬ (nI j < 0 ∨ (arrV _ _ _).slots.size ≤ _); rw [arrV_size]; exact hin) rfl rfl hdg fun H1 ec z oq => ?_
    have he : (wsM X sh I L).set a (X.2.1 + a, Sum.inl (X.2.2.2.2.2.2, n, Sum.inl (upd (I a) j x))) = wsM X sh (u2 I a j x) L := wsM_set (s := (102, [n])) _ hs rfl (fun _ _ => rfl) (fun _ h => u2_off h) (fun _ _ => rfl) (by rw [u2_on]; rfl)
    refine k p e s m args below meth c H1 _ ls hC ⟨by rw [z]; exact hW.1, he ▸ hW.2.set (wsM_D X sh I L) hg ?_ oq⟩ (hS.put z oq (Nat.le_add_right _ _)) hl
    show H1[X.2.1 + a]? = some (vp_cell _ _)
    rw [ec, nI_clamp (by omega), hx]
    show some ((arrV X.2.2.2.2.2.2 n (fun q => Value.int (I a q))).setSlot j (.int x)) = some (arrV X.2.2.2.2.2.2 n (fun q => Value.int (upd (I a) j x q)))
    rw [arrV_store, upd_arr]
/-! fields -/
def CLK (ci : Nat) : Prop := ∃ (q : vw_C) (ty : Nat → FieldType), cls8[ci]? = some q ∧ (∀ w ∈ u_ws q.1 q.2.1 q.2.2, w ∈ gw) ∧ (∀ k, k < q.2.2 → parseFieldDescriptor (q.2.1 k).2.2.1 = some (ty k)) ∧ (∀ a, a < q.2.2 → ∀ b, b < q.2.2 → a ≠ b → (q.2.1 a).2.1 ≠ (q.2.1 b).2.1)
def FLK (own : String) (idx ci k : Nat) : Prop := CLK ci ∧ ci < 100 ∧ ∀ q : vw_C, cls8[ci]? = some q → k < q.2.2 ∧ (Cond.fieldLink own idx (q.2.1 k).1 (q.2.1 k).2.1 (q.2.1 k).2.2.1 ∈ gw ∨ ∃ host, Cond.fieldLinkNest own idx (q.2.1 k).1 (q.2.1 k).2.1 (q.2.1 k).2.2.1 host ∈ nestWs)
theorem get_core {a idx ci j : Nat} {r : List Nat} {v : Value} (hdg : decode M.2.1 pc = .ok (.getfield idx, 3)) (hf : FLK M.1.cls idx ci j) (hs : sh[a]? = some (ci, r)) (hv : (r.mapIdx fun k r => fieldV X r (I a k))[j]? = some (conc X v))
    (k : Ev X M d ct cs T (pc + 3) lo (v :: st) sh I L) : Ev X M d ct cs T pc lo (.ref a :: st) sh I L :=
  fun p e s m args below meth c H locs ls hC hW hS hl => by
    obtain ⟨⟨q, ty, hq, hin, hty, hnm⟩, h100, hf⟩ := hf
    obtain ⟨hk, hlk⟩ := hf q hq
    have hg := wsM_get (X := X) (I := I) (L := L) hs
    rw [cell_o h100] at hg
    rcases hlk with hlk | ⟨host, hlk⟩
    · exact va_get hC.1 hC.2.1 hC.2.2.2.2.2.2.2.1 hin hC.2.2.2.1 hC.2.2.2.2.2.2.2.2.1.1 hW.2 a hg hq j hk (hC.2.2.2.2.2.2.2.1 _ hlk) (fun _ h => h) hv hdg (k p e s m args below meth c H locs ls hC hW hS hl)
    · exact va_getN hC.1 hC.2.1 hC.2.2.2.2.2.2.2.1 hin hC.2.2.2.1 hC.2.2.2.2.2.2.2.2.1.1 hW.2 a hg hq j hk (va_Nw.use rfl (hC.2.2.2.2.2.2.2.2.1.2 _ hlk)) (fun _ h => h) hv hdg (k p e s m args below meth c H locs ls hC hW hS hl)
theorem r_get {a idx ci j : Nat} {r : List Nat} (hdg : decode M.2.1 pc = .ok (.getfield idx, 3)) (hf : FLK M.1.cls idx ci j) (hs : sh[a]? = some (ci, r)) (hr : r[j]? = some 0) (k : Ev X M d ct cs T (pc + 3) lo (.int (I a j) :: st) sh I L) : Ev X M d ct cs T pc lo (.ref a :: st) sh I L :=
  get_core (v := .int (I a j)) hdg hf hs (by simp [List.getElem?_mapIdx, hr, fieldV, conc]) k
theorem r_getR {a b idx ci j : Nat} {r : List Nat} (hdg : decode M.2.1 pc = .ok (.getfield idx, 3)) (hf : FLK M.1.cls idx ci j) (hs : sh[a]? = some (ci, r)) (hr : r[j]? = some (b + 2)) (k : Ev X M d ct cs T (pc + 3) lo (.ref b :: st) sh I L) : Ev X M d ct cs T pc lo (.ref a :: st) sh I L :=
  get_core (v := .ref b) hdg hf hs (by simp [List.getElem?_mapIdx, hr, fieldV, conc]) k
theorem r_put {a idx ci j : Nat} {x : Int32} {r : List Nat} (ty : FieldType) (hdg : decode M.2.1 pc = .ok (.putfield idx, 3)) (hf : FLK M.1.cls idx ci j) (hs : sh[a]? = some (ci, r)) (hr : r[j]? = some 0)
    (hcl : ∀ q : vw_C, cls8[ci]? = some q → (q.2.1 j).2.2.2 = false ∧ parseFieldDescriptor (q.2.1 j).2.2.1 = some ty) (hnr : narrow ty (.int x) = .int x) (hft : fits ty (.int x) = true) (k : Ev X M d ct cs T (pc + 3) lo st sh (u2 I a j x) L) : Ev X M d ct cs T pc lo (.int x :: .ref a :: st) sh I L :=
  fun p e s m args below meth c H locs ls hC hW hS hl => by
    obtain ⟨⟨q, tys, hq, hin, hty, hnm⟩, h100, hf⟩ := hf
    obtain ⟨hk, hlk⟩ := hf q hq
    obtain ⟨hfin, hd⟩ := hcl q hq
    obtain ⟨C0, T0, N0⟩ := q
    have hg := wsM_get (X := X) (I := I) (L := L) hs
    rw [cell_o h100] at hg
    have hK := hC.2.2.2.2.2.2.2.2.1.1
    have hts := hC.2.2.2.2.2.2.2.1
    have hown := hC.2.2.2.1
    have hap := va_apart (own := M.1.cls) hts hin tys hty hnm hK hq
    obtain ⟨rr, h1, cell, q1, q2, q3, q4⟩ := hW.2 a _ hg
    have hrr : rr = (C0, T0, N0) := Option.some.inj (h1.symm.trans hq)
    subst hrr
    obtain ⟨hSl, hfc, kC, hkC, hkind⟩ := hK.1 ci _ hq
    obtain ⟨cf, kf, fi, f, hi, hsl⟩ := hSl j hk
    have hlay := hts _ (hin _ (u_in_lay hk))
    unfold u_lay at hlay
    rw [if_neg (by rw [hfin]; decide)] at hlay
    have hst := (u_facts hfc hkC (u_lays hts hin hk) hi).1
    have h6 := u_store hfc hkC hkind hlay hi hd hnr hft
    have he : (wsM X sh I L).set a (X.2.1 + a, Sum.inr (ci, (r.mapIdx fun k r => fieldV X r (I a k)).set j (.int x))) = wsM X sh (u2 I a j x) L := by
      refine wsM_set (s := (ci, r)) _ hs rfl (fun _ _ => rfl) (fun _ h => u2_off h) (fun _ _ => rfl) ?_
      rw [cell_o h100, u2_on]
      congr 2
      apply List.ext_getElem?
      intro z
      rw [List.getElem?_set]
      by_cases hz : j = z
      · subst hz
        have hlt : j < r.length := (List.getElem?_eq_some_iff.mp hr).1
        rw [if_pos rfl, if_pos (by simpa using hlt)]
        simp only [List.getElem?_mapIdx, hr, Option.map_some, fieldV, upd, if_true]
      · rw [if_neg hz]
        simp only [List.getElem?_mapIdx, upd, if_neg (fun e : z = j => hz e.symm)]
    have hlt : j < (r.mapIdx fun k r => fieldV X r (I a k)).length := by simpa using (List.getElem?_eq_some_iff.mp hr).1
    have fin : ∀ H1 : Heap, H1[X.2.1 + a]? = some (cell.setSlot f.slot (.int x)) → H1.size = H.size → (∀ q : Nat, q ≠ X.2.1 + a → H1[q]? = H[q]?) → W p X.1 e (rmX d ct) s m args below meth c H1 (locs ++ [⟨X.2.1 + a, f.slot⟩]) cs.1 cs.2 (MQ below (QX X T) args s ct.1 ct.2 (AX X)) (F0 m (pc + 3) ls (st.map (conc X))) := by
      intro H1 e1 e2 e3
      rw [hsl] at e1
      exact k p e s m args below meth c H1 _ ls hC ⟨by rw [e2]; exact hW.1, he ▸ hW.2.set (wsM_D X sh I L) hg ⟨_, hq, t_OB.to (V := updV (vp_V (r.mapIdx fun k r => fieldV X r (I a k))) j (.int x)) ⟨_, e1, q2, q3, t_set q4 hap hk (.int x)⟩ (fun z _ => vp_updV_set hlt (.int x) z)⟩ e3⟩ (hS.put e2 e3 (Nat.le_add_right _ _)) hl
    rcases hlk with hlk | ⟨host, hlk⟩
    · exact W.putK hC.1 hC.2.1 (f := f) ⟨hown, hts _ hlk, ⟨_, _, _, hi⟩, hst⟩ (by rw [q2]; exact h6) q1 q3 (by rw [hsl]; exact k2_hasslot (q4 j hk)) rfl rfl hdg fin
    · exact va_WputK hC.1 hC.2.1 hown (va_Nw.use rfl (hC.2.2.2.2.2.2.2.2.1.2 _ hlk)) hi hst (by rw [q2]; exact h6) q1 q3 (by rw [hsl]; exact k2_hasslot (q4 j hk)) rfl rfl hdg fin
/-- a final field of a reference, in its constructor -/
theorem r_putR {a b idx ci j : Nat} {r : List Nat} (ty : FieldType) {sh1 : List SH} (hdg : decode M.2.1 pc = .ok (.putfield idx, 3)) (hf : FLK M.1.cls idx ci j) (hs : sh[a]? = some (ci, r)) (hr : j < r.length) (hnest : ∀ q : vw_C, cls8[ci]? = some q → Cond.fieldLink M.1.cls idx (q.2.1 j).1 (q.2.1 j).2.1 (q.2.1 j).2.2.1 ∈ gw)
    (hcl : ∀ q : vw_C, cls8[ci]? = some q → (q.2.1 j).2.2.2 = true ∧ (q.2.1 j).1 = M.1.cls ∧ parseFieldDescriptor (q.2.1 j).2.2.1 = some ty) (hini : M.1.name = "<init>") (hnr : ∀ z, narrow ty (.ref z) = .ref z) (hft : ∀ z, fits ty (.ref z) = true) (hsh : sh.set a (ci, r.set j (b + 2)) = sh1)
    (k : Ev X M d ct cs T (pc + 3) lo st sh1 I L) : Ev X M d ct cs T pc lo (.ref b :: .ref a :: st) sh I L :=
  fun p e s m args below meth c H locs ls hC hW hS hl => by
    subst hsh
    obtain ⟨⟨q, tys, hq, hin, hty, hnm⟩, h100, hf⟩ := hf
    obtain ⟨hk, -⟩ := hf q hq
    have hlk := hnest q hq
    obtain ⟨hfin, hdecl, hd⟩ := hcl q hq
    obtain ⟨C0, T0, N0⟩ := q
    have hg := wsM_get (X := X) (I := I) (L := L) hs
    rw [cell_o h100] at hg
    have hK := hC.2.2.2.2.2.2.2.2.1.1
    have hts := hC.2.2.2.2.2.2.2.1
    have hown := hC.2.2.2.1
    have hap := va_apart (own := M.1.cls) hts hin tys hty hnm hK hq
    obtain ⟨rr, h1, cell, q1, q2, q3, q4⟩ := hW.2 a _ hg
    have hrr : rr = (C0, T0, N0) := Option.some.inj (h1.symm.trans hq)
    subst hrr
    obtain ⟨hSl, hfc, kC, hkC, hkind⟩ := hK.1 ci _ hq
    obtain ⟨cf, kf, fi, f, hi, hsl⟩ := hSl j hk
    have hlay := hts _ (hin _ (u_in_lay hk))
    unfold u_lay at hlay
    rw [if_pos hfin] at hlay
    have hst := (u_facts hfc hkC (u_lays hts hin hk) hi).1
    have hcf : m.cls = cf := by
      obtain ⟨_, _, c', _, _, _, -, -, hf', -, -, -, hown2, -⟩ := Cond.laysFinal_spec hlay
      have e1 : c' = cf := by have := hi.symm.trans hf'; simp at this; exact this.1.symm
      rw [hdecl] at hown2
      rw [← e1]; exact Option.some.inj (hown.symm.trans hown2)
    have h6 := u_fits (v := .ref (X.2.1 + b)) hfc hkC hkind (Or.inr hlay) hi hd (hnr _) (hft _)
    have hlta : a < sh.length := (List.getElem?_eq_some_iff.mp hs).1
    have he : (wsM X sh I L).set a (X.2.1 + a, Sum.inr (ci, (r.mapIdx fun k r => fieldV X r (I a k)).set j (.ref (X.2.1 + b)))) = wsM X (sh.set a (ci, r.set j (b + 2))) I L := by
      refine wsM_set (s := (ci, r.set j (b + 2))) _ (by simp [hlta]) (by simp) (fun z hz => by rw [List.getElem?_set, if_neg (fun q => hz q.symm)]) (fun _ _ => rfl) (fun _ _ => rfl) ?_
      rw [cell_o h100]
      congr 2
      apply List.ext_getElem?
      intro z
      rw [List.getElem?_set]
      by_cases hz : j = z
      · subst hz
        simp [hr, List.getElem?_mapIdx, fieldV]
      · simp [hz, List.getElem?_mapIdx, List.getElem?_set]
    have hlt : j < (r.mapIdx fun k r => fieldV X r (I a k)).length := by simpa using hr
    refine W.putFinK hC.1 hC.2.1 hown (hts _ hlk) hi hst hcf (by rw [hC.2.2.2.2.2.2.1]; exact hini) (by rw [q2]; exact h6) q1 q3 (by rw [hsl]; exact k2_hasslot (q4 j hk)) rfl rfl hdg fun H1 e1 e2 e3 => ?_
    rw [hsl] at e1
    exact k p e s m args below meth c H1 _ ls hC ⟨by rw [e2, List.length_set]; exact hW.1, he ▸ hW.2.set (wsM_D X sh I L) hg ⟨_, hq, t_OB.to (V := updV (vp_V (r.mapIdx fun k r => fieldV X r (I a k))) j (.ref (X.2.1 + b))) ⟨_, e1, q2, q3, t_set q4 hap hk _⟩ (fun z _ => vp_updV_set hlt _ z)⟩ e3⟩ (hS.put e2 e3 (Nat.le_add_right _ _)) hl
/-! new objects and arrays: their contents are 0 already -/
theorem r_new {idx ci N : Nat} {C : String} {r : List Nat} {sh1 : List SH} (hdg : decode M.2.1 pc = .ok (.new idx, 3)) (hc : CLK ci) (h100 : ci < 100) (hq : (cls8[ci]?).map (fun q => (q.1, q.2.2)) = some (C, N)) (h1 : Cond.classLink M.1.cls idx C ∈ gw) (h2 : Cond.instantiable C N ∈ gw) (h3 : Cond.initialized C ∈ gw)
    (hr : r.length = N) (hd : ∀ (q : vw_C), cls8[ci]? = some q → ∀ (k : Nat) (ty : FieldType), k < N → parseFieldDescriptor (q.2.1 k).2.2.1 = some ty → some (defaultValue ty) = (r[k]?).map (fun z => fieldV X z 0)) (hI : I sh.length = fun _ => 0) (hcc : cs.1 + 1 ≤ ct.1) (hcs : cs.2 + N ≤ ct.2) (hsh : sh ++ [(ci, r)] = sh1)
    (k : Ev X M d ct (cs.1 + 1, cs.2 + N) T (pc + 3) lo (.ref sh.length :: st) sh1 I L) : Ev X M d ct cs T pc lo st sh I L :=
  fun p e s m args below meth c H locs ls hC hW hS hl => by
    subst hsh
    obtain ⟨⟨C0, T0, N0⟩, tys, hq0, hin, hty, hnm⟩ := hc
    rw [hq0] at hq
    simp at hq
    obtain ⟨rfl, rfl⟩ := hq
    have hK := hC.2.2.2.2.2.2.2.2.1.1
    have hts := hC.2.2.2.2.2.2.2.1
    have hKn := hK.1 ci _ hq0
    refine W.newcK hC.1 hC.2.1 hC.2.2.2.1 (hts _ h1) (hts _ h2) (hts _ h3) rfl hdg hcc hcs hKn.2.1 hW.1 fun H1 kC hkC e1 z1 o1 => ?_
    have e0 := wsM_push (X := X) (sh := sh) (I := I) (L := L) (ci, r) (cellE X (ci, r) (I sh.length) (L sh.length)) (I' := I) (L' := L) (fun _ _ => rfl) (fun _ _ => rfl) rfl
    rw [cell_o h100] at e0
    refine k p e s m args below meth c H1 _ ls hC ⟨by rw [z1]; simp; omega, e0 ▸ (hW.2.kept (fun kk x hx => o1 x.1 (by rw [← hW.1]; exact (hW.2 kk x hx).lt))).app (fun kk x hx => ?_)⟩ ⟨Nat.le_trans hS.1 (by rw [z1, hW.1]; exact Nat.le_succ _), fun x a1 a2 => (o1 x (by rw [← hW.1]; exact Nat.lt_of_lt_of_le a1 hS.1)).trans (hS.2.1 x a1 a2), hS.2.2⟩ hl
    have hz : kk < 1 := (List.getElem?_eq_some_iff.mp hx).1
    rw [show kk = 0 by omega] at hx
    cases hx
    refine ⟨_, hq0, (u_born tys hts hin hKn hkC e1 hty).to fun z hz => ?_⟩
    have h9 := hd _ hq0 z _ hz (hty z hz)
    cases hrz : r[z]? with
    | none => rw [hrz] at h9; cases h9
    | some w =>
      rw [hrz] at h9
      simp [vp_V, List.getD_eq_getElem?_getD, List.getElem?_mapIdx, hrz, hI]
      simpa using h9
theorem narr_core {at0 : ArrayType} {ty : FieldType} {x : Int32} {n t0 tag : Nat} {cA0 : ClassId} {sh1 : List SH} (hdg : decode M.2.1 pc = .ok (.newarray at0, 2)) (hty : newarray.typeOf at0 = ty) (harr : Cond.arrayClass ty ∈ gw) (ht0 : (tysX X)[t0]? = some (cA0, ty)) (hra : ∀ s : State, va_RA s cA0 ty → s.vm.findClass ("[" ++ ty.toString) = some cA0)
    (hcell : ∀ cA : ClassId, cA = cA0 → some (arrV cA n (fun _ => defaultValue ty)) = (match cellE X (tag, [n]) (fun _ => 0) (L sh.length) with | .inl a => some (vp_cell a.1 a.2) | .inr _ => none))
    (hx : x = nI n) (hn : n < 2 ^ 20) (hb : n * componentBytes ty ≤ 536870912) (hI : I sh.length = fun _ => 0) (hcc : cs.1 + 1 ≤ ct.1) (hcs : cs.2 + n ≤ ct.2) (hsh : sh ++ [(tag, [n])] = sh1)
    (k : Ev X M d ct (cs.1 + 1, cs.2 + n) T (pc + 2) lo (.ref sh.length :: st) sh1 I L) : Ev X M d ct cs T pc lo (.int x :: st) sh I L :=
  fun p e s m args below meth c H locs ls hC hW hS hl => by
    subst hsh; subst hty; subst hx
    have hK := hC.2.2.2.2.2.2.2.2.1.1
    have hts := hC.2.2.2.2.2.2.2.1
    refine va_newaK hC.1 hC.2.1 (hts _ harr) rfl hdg rfl (nI_pos (by omega)) (nI_clamp (by omega)) hb hcc hcs hW.1 fun H1 cA e1 z1 o1 hAr hNm => ?_
    have hcA : cA = cA0 := Option.some.inj (hNm.symm.trans (hra s (hK.2 t0 _ ht0).2))
    have e0 := wsM_push (X := X) (sh := sh) (I := I) (L := L) (tag, [n]) (cellE X (tag, [n]) (I sh.length) (L sh.length)) (I' := I) (L' := L) (fun _ _ => rfl) (fun _ _ => rfl) rfl
    have h9 := hcell cA hcA
    rw [hI] at e0
    refine k p e s m args below meth c H1 _ ls hC ⟨by rw [z1]; simp; omega, e0 ▸ (hW.2.kept (fun kk x hx => o1 x.1 (by rw [← hW.1]; exact (hW.2 kk x hx).lt))).app (fun kk x hx => ?_)⟩ ⟨Nat.le_trans hS.1 (by rw [z1, hW.1]; exact Nat.le_succ _), fun x a1 a2 => (o1 x (by rw [← hW.1]; exact Nat.lt_of_lt_of_le a1 hS.1)).trans (hS.2.1 x a1 a2), hS.2.2⟩ hl
    have hz : kk < 1 := (List.getElem?_eq_some_iff.mp hx).1
    rw [show kk = 0 by omega] at hx
    cases hx
    show va_at _ _ (X.2.1 + sh.length, cellE X (tag, [n]) (fun _ => 0) (L sh.length)) H1
    cases hce : cellE X (tag, [n]) (fun _ => 0) (L sh.length) with
    | inl a => rw [hce] at h9; exact e1.trans h9
    | inr a => rw [hce] at h9; cases h9
theorem r_newI {x : Int32} {n : Nat} {sh1 : List SH} (hdg : decode M.2.1 pc = .ok (.newarray .int, 2)) (harr : Cond.arrayClass .int ∈ gw) (hx : x = nI n) (hn : n < 2 ^ 20) (hI : I sh.length = fun _ => 0) (hcc : cs.1 + 1 ≤ ct.1) (hcs : cs.2 + n ≤ ct.2) (hsh : sh ++ [(100, [n])] = sh1)
    (k : Ev X M d ct (cs.1 + 1, cs.2 + n) T (pc + 2) lo (.ref sh.length :: st) sh1 I L) : Ev X M d ct cs T pc lo (.int x :: st) sh I L :=
  narr_core (ty := .int) (t0 := 0) hdg rfl harr rfl (fun _ h => h) (fun cA h => by subst h; rfl) hx hn (by show n * 4 ≤ 536870912; omega) hI hcc hcs hsh k
theorem r_newZ {x : Int32} {n : Nat} {sh1 : List SH} (hdg : decode M.2.1 pc = .ok (.newarray .boolean, 2)) (harr : Cond.arrayClass .boolean ∈ gw) (hx : x = nI n) (hn : n < 2 ^ 20) (hI : I sh.length = fun _ => 0) (hcc : cs.1 + 1 ≤ ct.1) (hcs : cs.2 + n ≤ ct.2) (hsh : sh ++ [(102, [n])] = sh1)
    (k : Ev X M d ct (cs.1 + 1, cs.2 + n) T (pc + 2) lo (.ref sh.length :: st) sh1 I L) : Ev X M d ct cs T pc lo (.int x :: st) sh I L :=
  narr_core (ty := .boolean) (t0 := 2) hdg rfl harr rfl (fun _ h => h) (fun cA h => by subst h; rfl) hx hn (by show n * 1 ≤ 536870912; omega) hI hcc hcs hsh k
theorem r_newL {x : Int32} {n : Nat} {sh1 : List SH} (hdg : decode M.2.1 pc = .ok (.newarray .long, 2)) (harr : Cond.arrayClass .long ∈ gw) (hx : x = nI n) (hn : n < 2 ^ 20) (hI : I sh.length = fun _ => 0) (hL : L sh.length = fun _ => 0) (hcc : cs.1 + 1 ≤ ct.1) (hcs : cs.2 + n ≤ ct.2) (hsh : sh ++ [(101, [n])] = sh1)
    (k : Ev X M d ct (cs.1 + 1, cs.2 + n) T (pc + 2) lo (.ref sh.length :: st) sh1 I L) : Ev X M d ct cs T pc lo (.int x :: st) sh I L :=
  narr_core (ty := .long) (t0 := 1) hdg rfl harr rfl (fun _ h => h) (fun cA h => by subst h; rw [hL]; rfl) hx hn (by show n * 8 ≤ 536870912; omega) hI hcc hcs hsh k
/-! calls -/
def wsOf (M : MD) : List Cond := .code M.1 M.2.1 M.2.2.1 M.2.2.2 :: gw
theorem call_good {N : MD} {n : Nat} (hok : OKM N n) : GoodIn gw (.code N.1 N.2.1 N.2.2.1 N.2.2.2 :: gw) := fun w h => by
  rcases List.mem_cons.mp h with rfl | h
  · exact ⟨hok.2.1, gw_good _ hok.2.1⟩
  · exact ⟨h, gw_good _ h⟩
theorem call_blind {av : List Value} : FrameBlind (va_Pc (av.map (conc X)) (fun U => WD X sh I L U.heap ∧ KX X U)) := fun a U g mk q => by
  obtain ⟨q0, q1, q2⟩ := q
  exact ⟨q0, q1, KX.same (u := U) (U := U.calling g mk a) rfl q2⟩
theorem run_call {p : Program} {e : Env} {R : Room} {s : State} {m : MethodId} {args a : Array Value} {below : List Frame} {meth : Method} {c : Code} {H : Heap} {locs : List Loc} {ls : Array Slot} {c0 s0 mc ms : Nat} {Q : State → Prop} {st0 : List Value} {v : Option Value} {sh' : List SH} {I' : MI} {L' : ML} {H0 : Heap}
    (hr : va_Run p X.1 e R s m args below meth c H locs c0 s0 mc ms (F0 m pc ls st0) (rest.map (conc X)) (QX X (v, sh', I', L') a) (AX X)) (hS : va_S (AX X) H0 H locs)
    (k : ∀ (H1 : Heap) (locs1 : List Loc), WD X sh' I' L' H1 → va_S (AX X) H0 H1 locs1 → W p X.1 e R s m args below meth c H1 locs1 (c0 + mc) (s0 + ms) Q (F0 m (pc + 3) ls ((v.toList ++ rest).map (conc X)))) : W p X.1 e R s m args below meth c H locs c0 s0 Q (F0 m pc ls st0) := by
  intro T0 hT XX
  obtain ⟨v0, st₀, t, T', L0, h0, X', hL, e1, e2, ⟨hv, hWD, hz, hk⟩, stp⟩ := hr T0 hT XX
  cases hv
  rw [h0] at hz hk
  obtain ⟨t2, a1, b1⟩ := k T'.heap (locs ++ L0) (by rw [e1]; exact hWD) ⟨Nat.le_trans hS.1 (by rw [e1]; exact hz), fun q h1 h2 => by rw [e1, hk q (Nat.lt_of_lt_of_le h1 hS.1) h2]; exact hS.2.1 q h1 h2, fun q hq => by
      rcases List.mem_append.mp hq with h | h
      · exact hS.2.2 q h
      · exact hL q h⟩ T' rfl X'
  refine ⟨t2, stp t2 ?_, b1⟩
  have e3 : ((v.toList ++ rest).map (conc X)) = (Option.map (conc X) v).toList ++ rest.map (conc X) := by cases v <;> simp
  rw [e3] at a1
  exact a1
def VLK (own : String) (idx : Nat) (y : MethodName) : Prop := Cond.methodLink own idx y ∈ gw ∧ Cond.instanceMethod y ∈ gw ∧ Cond.selects y.cls y y ∈ gw
def SLK (own : String) (idx : Nat) (y : MethodName) : Prop := Cond.methodLink own idx y ∈ gw ∧ Cond.static y ∈ gw
def SNK (own : String) (idx : Nat) (y : MethodName) : Prop := (∃ host, Cond.methodLinkNest own idx y host ∈ nestWs) ∧ Cond.static y ∈ gw
def ILK (own : String) (idx : Nat) (y : MethodName) : Prop := Cond.methodLink own idx y ∈ gw ∧ Cond.instanceMethod y ∈ gw ∧ y.name = "<init>"
theorem cat_sum (l : List Value) : ((l.map (conc X)).map fun v => v.category).sum = (l.map fun v => v.category).sum := by
  congr 1
  rw [List.map_map]
  exact List.map_congr_left fun v _ => cat_conc X v
/-- the callee's side of a call, at any caller -/
theorem callee_B {p : Program} {R : Room} {s : State} {m : MethodId} {args : Array Value} {N : MD} {n d' idx : Nat} {ct' : Nat × Nat} {own : String} (hts : ∀ w ∈ gw, w.before args s = true) (hok : OKM N n) (hl : Cond.methodLink own idx N.1 ∈ gw) (hR : d' + 1 ≤ R.frames ∧ 40 * (d' + 1) ≤ R.locals) :
    CallB R s args own idx N.1 N.2.1 N.2.2.1 N.2.2.2 (.code N.1 N.2.1 N.2.2.1 N.2.2.2 :: gw) (rmX d' ct') ct'.1 ct'.2 n :=
  callB_of n hts (call_good hok) rfl rfl rfl (hts _ hok.2.2.2.2.1) (hts _ hl) ⟨hok.2.2.1.1, hok.2.2.1.2, hok.2.2.2.1⟩ ⟨hR.1, by have := hok.2.2.2.2.2; show 8 + (N.2.2.1 + 11) + 40 * d' ≤ R.locals; omega⟩
theorem w_callV {p : Program} {e : Env} {R : Room} {s : State} {m : MethodId} {args : Array Value} {below : List Frame} {meth : Method} {c : Code} {H : Heap} {locs : List Loc} {ls : Array Slot} {c0 s0 nL : Nat} {Q : State → Prop} {N : MD} {n d' b idx ci : Nat} {r : List Nat} {ct' : Nat × Nat} {own : String} {cc : ByteArray} {av : List Value} {v : Option Value} {sh' : List SH} {I' : MI} {L' : ML} {H0 : Heap} {st0 : List Value}
    (hx : p.tables.exec = Jvm.exec) (hb : c.code = cc) (hml : c.maxLocals = nL) (hown : s.vm.findClass own = some m.cls) (hts : ∀ w ∈ gw, w.before args s = true) (hK : KX X s)
    (hok : OKM N n) (hl : VLK own idx N.1) (hs : sh[b]? = some (ci, r)) (h100 : ci < 100) (hcl : (cls8[ci]?).map (·.1) = some N.1.cls) (hM : Sp X N d' ct' (.ref b :: av) sh I L (v, sh', I', L')) (hn : av.length = n) (hst : st0 = av.reverse ++ .ref b :: rest) (hroom : (rest.map fun v => v.category).sum ≤ 8)
    (hR : d' + 1 ≤ R.frames ∧ 40 * (d' + 1) ≤ R.locals) (hf : c0 + ct'.1 ≤ R.cells ∧ s0 + ct'.2 ≤ R.slots) (hls : ls.size = nL) (hdg : decode cc pc = .ok (.invokevirtual idx, 3)) (hW : WD X sh I L H) (hS : va_S (AX X) H0 H locs)
    (k : ∀ (H1 : Heap) (locs1 : List Loc), WD X sh' I' L' H1 → va_S (AX X) H0 H1 locs1 → W p X.1 e R s m args below meth c H1 locs1 (c0 + ct'.1) (s0 + ct'.2) Q (F0 m (pc + 3) ls ((v.toList ++ rest).map (conc X)))) : W p X.1 e R s m args below meth c H locs c0 s0 Q (F0 m pc ls (st0.map (conc X))) := by
  subst hst
  have hg := wsM_get (X := X) (I := I) (L := L) hs
  rw [cell_o h100] at hg
  obtain ⟨q, hq, hq1⟩ := Option.map_eq_some_iff.mp hcl
  have hrec := va_recv hK.1 hW.2 hq hg
  rw [hq1] at hrec
  refine run_call (va_runV (b := X.2.1 + b) (As := av.map (conc X)) (n := n) (C := N.1.cls) (Ts := gw) (own := own) ⟨hx, hb, hml, hown, hts⟩ hM ⟨callee_B (p := p) (m := m) hts hok hl.1 hR, hts _ hl.2.1, hts _ hl.2.2⟩ ⟨call_blind, hrec, fun U hU hWm => ⟨rfl, by rw [hU]; exact hW, hK.moved hWm⟩⟩ rfl (by simpa using hn) hls (by simp [conc]) ?_ hdg hf) hS k
  have := lv_room (m := m) (pc := pc) (ls := ls) (rest := (av.reverse ++ .ref b :: rest).map (conc X)) (st := rest.map (conc X)) (by rw [cat_sum]; exact hroom)
  exact this
theorem w_callS {p : Program} {e : Env} {R : Room} {s : State} {m : MethodId} {args : Array Value} {below : List Frame} {meth : Method} {c : Code} {H : Heap} {locs : List Loc} {ls : Array Slot} {c0 s0 nL : Nat} {Q : State → Prop} {N : MD} {n d' idx : Nat} {ct' : Nat × Nat} {own : String} {cc : ByteArray} {av : List Value} {v : Option Value} {sh' : List SH} {I' : MI} {L' : ML} {H0 : Heap} {st0 : List Value}
    (hx : p.tables.exec = Jvm.exec) (hb : c.code = cc) (hml : c.maxLocals = nL) (hown : s.vm.findClass own = some m.cls) (hts : ∀ w ∈ gw, w.before args s = true) (hK : KX X s)
    (hok : OKM N n) (hl : SLK own idx N.1) (hM : Sp X N d' ct' av sh I L (v, sh', I', L')) (hn : av.length = n) (hst : st0 = av.reverse ++ rest) (hroom : (rest.map fun v => v.category).sum ≤ 8)
    (hR : d' + 1 ≤ R.frames ∧ 40 * (d' + 1) ≤ R.locals) (hf : c0 + ct'.1 ≤ R.cells ∧ s0 + ct'.2 ≤ R.slots) (hls : ls.size = nL) (hdg : decode cc pc = .ok (.invokestatic idx, 3)) (hW : WD X sh I L H) (hS : va_S (AX X) H0 H locs)
    (k : ∀ (H1 : Heap) (locs1 : List Loc), WD X sh' I' L' H1 → va_S (AX X) H0 H1 locs1 → W p X.1 e R s m args below meth c H1 locs1 (c0 + ct'.1) (s0 + ct'.2) Q (F0 m (pc + 3) ls ((v.toList ++ rest).map (conc X)))) : W p X.1 e R s m args below meth c H locs c0 s0 Q (F0 m pc ls (st0.map (conc X))) := by
  subst hst
  refine run_call (va_runS (As := av.map (conc X)) (n := n) (Ts := gw) (own := own) ⟨hx, hb, hml, hown, hts⟩ hM ⟨callee_B (p := p) (m := m) hts hok hl.1 hR, hts _ hl.2⟩ ⟨call_blind, fun U hU hWm => ⟨rfl, by rw [hU]; exact hW, hK.moved hWm⟩⟩ rfl (by simpa using hn) hls (by simp) ?_ hdg hf) hS k
  have := lv_room (m := m) (pc := pc) (ls := ls) (rest := (av.reverse ++ rest).map (conc X)) (st := rest.map (conc X)) (by rw [cat_sum]; exact hroom)
  exact this
theorem w_callSN {p : Program} {e : Env} {R : Room} {s : State} {m : MethodId} {args : Array Value} {below : List Frame} {meth : Method} {c : Code} {H : Heap} {locs : List Loc} {ls : Array Slot} {c0 s0 nL : Nat} {Q : State → Prop} {N : MD} {n d' idx : Nat} {ct' : Nat × Nat} {own : String} {cc : ByteArray} {av : List Value} {v : Option Value} {sh' : List SH} {I' : MI} {L' : ML} {H0 : Heap} {st0 : List Value}
    (hx : p.tables.exec = Jvm.exec) (hb : c.code = cc) (hml : c.maxLocals = nL) (hown : s.vm.findClass own = some m.cls) (hts : ∀ w ∈ gw, w.before args s = true) (hK : KX X s)
    (hok : OKM N n) (hl : SNK own idx N.1) (hM : Sp X N d' ct' av sh I L (v, sh', I', L')) (hn : av.length = n) (hst : st0 = av.reverse ++ rest) (hroom : (rest.map fun v => v.category).sum ≤ 8)
    (hR : d' + 1 ≤ R.frames ∧ 40 * (d' + 1) ≤ R.locals) (hf : c0 + ct'.1 ≤ R.cells ∧ s0 + ct'.2 ≤ R.slots) (hls : ls.size = nL) (hdg : decode cc pc = .ok (.invokestatic idx, 3)) (hW : WD X sh I L H) (hS : va_S (AX X) H0 H locs)
    (k : ∀ (H1 : Heap) (locs1 : List Loc), WD X sh' I' L' H1 → va_S (AX X) H0 H1 locs1 → W p X.1 e R s m args below meth c H1 locs1 (c0 + ct'.1) (s0 + ct'.2) Q (F0 m (pc + 3) ls ((v.toList ++ rest).map (conc X)))) : W p X.1 e R s m args below meth c H locs c0 s0 Q (F0 m pc ls (st0.map (conc X))) := by
  subst hst
  obtain ⟨⟨host, hl0⟩, hl1⟩ := hl
  refine run_call (va_runSN (As := av.map (conc X)) (n := n) (Ts := gw) (own := own) (host := host) ⟨hx, hb, hml, hown, hts⟩ hM ⟨va_cnB n hts (call_good hok) rfl rfl rfl (hK.2 _ hl0) (hts _ hok.2.2.2.2.1) ⟨hok.2.2.1.1, hok.2.2.1.2, hok.2.2.2.1⟩ ⟨hR.1, by have := hok.2.2.2.2.2; show 8 + (N.2.2.1 + 11) + 40 * d' ≤ R.locals; omega⟩, hts _ hl1, trivial⟩ ⟨call_blind, fun U hU hWm => ⟨rfl, by rw [hU]; exact hW, hK.moved hWm⟩⟩ rfl (by simpa using hn) hls (by simp) ?_ hdg hf) hS k
  have := lv_room (m := m) (pc := pc) (ls := ls) (rest := (av.reverse ++ rest).map (conc X)) (st := rest.map (conc X)) (by rw [cat_sum]; exact hroom)
  exact this
theorem w_callI {p : Program} {e : Env} {R : Room} {s : State} {m : MethodId} {args : Array Value} {below : List Frame} {meth : Method} {c : Code} {H : Heap} {locs : List Loc} {ls : Array Slot} {c0 s0 nL : Nat} {Q : State → Prop} {N : MD} {n d' b idx : Nat} {ct' : Nat × Nat} {own : String} {cc : ByteArray} {av : List Value} {v : Option Value} {sh' : List SH} {I' : MI} {L' : ML} {H0 : Heap} {st0 : List Value}
    (hx : p.tables.exec = Jvm.exec) (hb : c.code = cc) (hml : c.maxLocals = nL) (hown : s.vm.findClass own = some m.cls) (hts : ∀ w ∈ gw, w.before args s = true) (hK : KX X s)
    (hok : OKM N n) (hl : ILK own idx N.1) (hret : N.2.2.2 = none) (hM : Sp X N d' ct' (.ref b :: av) sh I L (v, sh', I', L')) (hn : av.length = n) (hst : st0 = av.reverse ++ .ref b :: rest) (hroom : (rest.map fun v => v.category).sum ≤ 8)
    (hR : d' + 1 ≤ R.frames ∧ 40 * (d' + 1) ≤ R.locals) (hf : c0 + ct'.1 ≤ R.cells ∧ s0 + ct'.2 ≤ R.slots) (hls : ls.size = nL) (hdg : decode cc pc = .ok (.invokespecial idx, 3)) (hW : WD X sh I L H) (hS : va_S (AX X) H0 H locs)
    (k : ∀ (H1 : Heap) (locs1 : List Loc), WD X sh' I' L' H1 → va_S (AX X) H0 H1 locs1 → W p X.1 e R s m args below meth c H1 locs1 (c0 + ct'.1) (s0 + ct'.2) Q (F0 m (pc + 3) ls ((v.toList ++ rest).map (conc X)))) : W p X.1 e R s m args below meth c H locs c0 s0 Q (F0 m pc ls (st0.map (conc X))) := by
  subst hst
  have hB := callee_B (p := p) (m := m) (ct' := ct') hts hok hl.1 hR
  rw [hret] at hB
  have hM' : Met X.1 N.1 (.code N.1 N.2.1 N.2.2.1 none :: gw) (rmX d' ct') (va_Pc ((.ref b :: av).map (conc X)) (fun U => WD X sh I L U.heap ∧ KX X U)) (QX X (v, sh', I', L')) ct'.1 ct'.2 (AX X) := by
    have h9 := hM
    unfold Sp at h9
    rw [hret] at h9
    exact h9
  refine run_call (va_runI (b := X.2.1 + b) (As := av.map (conc X)) (n := n) (Ts := gw) (own := own) ⟨hx, hb, hml, hown, hts⟩ hM' ⟨hB, hl.2.2, hts _ hl.2.1⟩ ⟨call_blind, fun U hU hWm => ⟨rfl, by rw [hU]; exact hW, hK.moved hWm⟩⟩ rfl (by simpa using hn) hls (by simp [conc]) ?_ hdg hf) hS k
  have := lv_room (m := m) (pc := pc) (ls := ls) (rest := (av.reverse ++ .ref b :: rest).map (conc X)) (st := rest.map (conc X)) (by rw [cat_sum]; exact hroom)
  exact this
section CALLROWS
variable {N : MD} {n b idx ci : Nat} {r : List Nat} {ct' : Nat × Nat} {av : List Value} {v : Option Value} {sh' : List SH} {I' : MI} {L' : ML}
theorem r_callV (hM : Sp X N d ct' (.ref b :: av) sh I L (v, sh', I', L')) (hok : OKM N n) (hl : VLK M.1.cls idx N.1) (hs : sh[b]? = some (ci, r)) (h100 : ci < 100) (hcl : (cls8[ci]?).map (·.1) = some N.1.cls) (hn : av.length = n) (hst : st = av.reverse ++ .ref b :: rest) (hroom : (rest.map fun v => v.category).sum ≤ 8)
    (hf : cs.1 + ct'.1 ≤ ct.1 ∧ cs.2 + ct'.2 ≤ ct.2) (hdg : decode M.2.1 pc = .ok (.invokevirtual idx, 3)) (k : Ev X M (d + 1) ct (cs.1 + ct'.1, cs.2 + ct'.2) T (pc + 3) lo (v.toList ++ rest) sh' I' L') : Ev X M (d + 1) ct cs T pc lo st sh I L :=
  fun p e s m args below meth c H locs ls hC hW hS hl0 => w_callV hC.1 hC.2.1 hC.2.2.1 hC.2.2.2.1 hC.2.2.2.2.2.2.2.1 hC.2.2.2.2.2.2.2.2.1 hok hl hs h100 hcl hM hn hst hroom ⟨Nat.le_refl _, Nat.le_refl _⟩ hf hl0.1 hdg hW hS fun H1 locs1 h1 h2 => k p e s m args below meth c H1 locs1 ls hC h1 h2 hl0
theorem r_callS (hM : Sp X N d ct' av sh I L (v, sh', I', L')) (hok : OKM N n) (hl : SLK M.1.cls idx N.1) (hn : av.length = n) (hst : st = av.reverse ++ rest) (hroom : (rest.map fun v => v.category).sum ≤ 8)
    (hf : cs.1 + ct'.1 ≤ ct.1 ∧ cs.2 + ct'.2 ≤ ct.2) (hdg : decode M.2.1 pc = .ok (.invokestatic idx, 3)) (k : Ev X M (d + 1) ct (cs.1 + ct'.1, cs.2 + ct'.2) T (pc + 3) lo (v.toList ++ rest) sh' I' L') : Ev X M (d + 1) ct cs T pc lo st sh I L :=
  fun p e s m args below meth c H locs ls hC hW hS hl0 => w_callS hC.1 hC.2.1 hC.2.2.1 hC.2.2.2.1 hC.2.2.2.2.2.2.2.1 hC.2.2.2.2.2.2.2.2.1 hok hl hM hn hst hroom ⟨Nat.le_refl _, Nat.le_refl _⟩ hf hl0.1 hdg hW hS fun H1 locs1 h1 h2 => k p e s m args below meth c H1 locs1 ls hC h1 h2 hl0
theorem r_callSN (hM : Sp X N d ct' av sh I L (v, sh', I', L')) (hok : OKM N n) (hl : SNK M.1.cls idx N.1) (hn : av.length = n) (hst : st = av.reverse ++ rest) (hroom : (rest.map fun v => v.category).sum ≤ 8)
    (hf : cs.1 + ct'.1 ≤ ct.1 ∧ cs.2 + ct'.2 ≤ ct.2) (hdg : decode M.2.1 pc = .ok (.invokestatic idx, 3)) (k : Ev X M (d + 1) ct (cs.1 + ct'.1, cs.2 + ct'.2) T (pc + 3) lo (v.toList ++ rest) sh' I' L') : Ev X M (d + 1) ct cs T pc lo st sh I L :=
  fun p e s m args below meth c H locs ls hC hW hS hl0 => w_callSN hC.1 hC.2.1 hC.2.2.1 hC.2.2.2.1 hC.2.2.2.2.2.2.2.1 hC.2.2.2.2.2.2.2.2.1 hok hl hM hn hst hroom ⟨Nat.le_refl _, Nat.le_refl _⟩ hf hl0.1 hdg hW hS fun H1 locs1 h1 h2 => k p e s m args below meth c H1 locs1 ls hC h1 h2 hl0
theorem r_callI (hM : Sp X N d ct' (.ref b :: av) sh I L (v, sh', I', L')) (hok : OKM N n) (hl : ILK M.1.cls idx N.1) (hret : N.2.2.2 = none) (hn : av.length = n) (hst : st = av.reverse ++ .ref b :: rest) (hroom : (rest.map fun v => v.category).sum ≤ 8)
    (hf : cs.1 + ct'.1 ≤ ct.1 ∧ cs.2 + ct'.2 ≤ ct.2) (hdg : decode M.2.1 pc = .ok (.invokespecial idx, 3)) (k : Ev X M (d + 1) ct (cs.1 + ct'.1, cs.2 + ct'.2) T (pc + 3) lo (v.toList ++ rest) sh' I' L') : Ev X M (d + 1) ct cs T pc lo st sh I L :=
  fun p e s m args below meth c H locs ls hC hW hS hl0 => w_callI hC.1 hC.2.1 hC.2.2.1 hC.2.2.2.1 hC.2.2.2.2.2.2.2.1 hC.2.2.2.2.2.2.2.2.1 hok hl hret hM hn hst hroom ⟨Nat.le_refl _, Nat.le_refl _⟩ hf hl0.1 hdg hW hS fun H1 locs1 h1 h2 => k p e s m args below meth c H1 locs1 ls hC h1 h2 hl0
end CALLROWS
theorem r_obj {a idx : Nat} (hdg : decode M.2.1 pc = .ok (.invokespecial idx, 3)) (h1 : Cond.methodLink M.1.cls idx objectInit ∈ gw) (h2 : Cond.instanceMethod objectInit ∈ gw) (h3 : Cond.code objectInit ⟨#[0xb1]⟩ 1 none ∈ gw) (hroom : (st.map fun v => v.category).sum ≤ 8)
    (k : Ev X M (d + 1) ct cs T (pc + 3) lo st sh I L) : Ev X M (d + 1) ct cs T pc lo (.ref a :: st) sh I L :=
  fun p e s m args below meth c H locs ls hC hW hS hl => W.objInit hC.1 hC.2.1 hC.2.2.2.1 (hC.2.2.2.2.2.2.2.1 _ h1) (hC.2.2.2.2.2.2.2.1 _ h2) (hC.2.2.2.2.2.2.2.1 _ h3) rfl (by rw [hC.2.2.1]; exact hl.1) rfl hdg (by show 1 ≤ d + 1; omega) (by
      have := lv_room (m := m) (pc := pc) (ls := ls) (rest := (Value.ref a :: st).map (conc X)) (st := st.map (conc X)) (by rw [cat_sum]; exact hroom)
      show _ + 12 ≤ 40 * (d + 1)
      have h9 : 2 * (F0 m pc ls ((Value.ref a :: st).map (conc X))).monitorRoom + ((st.map (conc X)).map fun v => v.category).sum ≤ 8 := this
      omega) (k p e s m args below meth c H locs ls hC hW hS hl)
/-! the end of a method -/
theorem r_iret {x : Int32} (hdg : decode M.2.1 pc = .ok (.ireturn, 1)) (hr : M.2.2.2 = some .int) (hT : T = (some (.int x), sh, I, L)) (hcs : cs = ct) : Ev X M d ct cs T pc lo [.int x] sh I L :=
  fun p e s m args below meth c H locs ls hC hW hS hl => by
    subst hT; subst hcs
    have hlocks := hC.2.2.2.2.2.1
    exact W.iret hC.1 hC.2.1 (by rw [hC.2.2.2.2.1]; exact hr) (fun t ht _ => ⟨rfl, by rw [ht]; exact hW, hS.F ht⟩) hS.2.2 hdg
theorem r_zret {x : Int32} (hdg : decode M.2.1 pc = .ok (.ireturn, 1)) (hr : M.2.2.2 = some .boolean) (hx : narrow .boolean (.int x) = .int x) (hT : T = (some (.int x), sh, I, L)) (hcs : cs = ct) : Ev X M d ct cs T pc lo [.int x] sh I L :=
  fun p e s m args below meth c H locs ls hC hW hS hl => by
    subst hT; subst hcs
    have hlocks := hC.2.2.2.2.2.1
    exact W.zret hC.1 hC.2.1 (by rw [hC.2.2.2.2.1]; exact hr) hx (fun t ht _ => ⟨rfl, by rw [ht]; exact hW, hS.F ht⟩) hS.2.2 hdg
theorem r_lret {x : Int64} (hdg : decode M.2.1 pc = .ok (.lreturn, 1)) (hr : M.2.2.2 = some .long) (hT : T = (some (.long x), sh, I, L)) (hcs : cs = ct) : Ev X M d ct cs T pc lo [.long x] sh I L :=
  fun p e s m args below meth c H locs ls hC hW hS hl => by
    subst hT; subst hcs
    have hlocks := hC.2.2.2.2.2.1
    exact W.lret hC.1 hC.2.1 (by rw [hC.2.2.2.2.1]; exact hr) (fun t ht _ => ⟨rfl, by rw [ht]; exact hW, hS.F ht⟩) hS.2.2 hdg
theorem r_vret (hdg : decode M.2.1 pc = .ok (.return_, 1)) (hr : M.2.2.2 = none) (hT : T = (none, sh, I, L)) (hcs : cs = ct) : Ev X M d ct cs T pc lo [] sh I L :=
  fun p e s m args below meth c H locs ls hC hW hS hl => by
    subst hT; subst hcs
    have hlocks := hC.2.2.2.2.2.1
    exact W.vret hC.1 hC.2.1 (by rw [hC.2.2.2.2.1]; exact hr) (fun t ht _ => ⟨rfl, by rw [ht]; exact hW, hS.F ht⟩) hS.2.2 hdg
/-- locals may be forgotten -/
theorem r_lo {lo lo1 : List Value} (h : ∀ (i : Nat) (v : Value), lo1[i]? = some v → isN v = false → lo[i]? = some v) (k : Ev X M d ct cs T pc lo1 st sh I L) : Ev X M d ct cs T pc lo st sh I L :=
  fun p e s m args below meth c H locs ls hC hW hS hl => k p e s m args below meth c H locs ls hC hW hS ⟨hl.1, hl.2.1, fun q hq => by
    obtain ⟨v, h1, h2, h3⟩ := asc_mem.mp hq
    exact hl.2.2 q (asc_mem.mpr ⟨v, h _ _ h1 h2, h2, h3⟩)⟩
end ROWS