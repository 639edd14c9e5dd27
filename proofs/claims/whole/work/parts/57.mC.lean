/-! the reference's stacks and draft while a formula is read -/
def stk (J : MI) (c : Nat) : List Nat → Prop
  | [] => True
  | i :: r => J c r.length = nI i ∧ stk J c r
theorem stk.fr {I J : MI} {c : Nat} : ∀ {r : List Nat}, stk I c r → (∀ j, j < r.length → J c j = I c j) → stk J c r
  | [], _, _ => trivial
  | i :: r, h, q => ⟨(q r.length (Nat.lt_succ_self r.length)).trans h.1, stk.fr h.2 (fun j hj => q j (Nat.lt_succ_of_lt hj))⟩
def MDn (J : MI) (q : Q4) (k : Nat) : Prop := J 50 k = nI q.1 ∧ J 51 k = nI q.2.1 ∧ (42 ≤ q.1 → J 52 k = nI q.2.2.1) ∧ (q.1 = 42 ∨ q.1 = 43 ∨ q.1 = 45 → J 53 k = nI q.2.2.2) ∧ (q.1 = 94 ∨ q.1 = 110 → J 53 k = -9)
theorem MDn.fr {I J : MI} {q : Q4} {k : Nat} (h : MDn I q k) (hc : ∀ c, 50 ≤ c → c ≤ 53 → J c k = I c k) : MDn J q k := ⟨(hc 50 (by decide) (by decide)).trans h.1, (hc 51 (by decide) (by decide)).trans h.2.1, fun z => (hc 52 (by decide) (by decide)).trans (h.2.2.1 z), fun z => (hc 53 (by decide) (by decide)).trans (h.2.2.2.1 z), fun z => (hc 53 (by decide) (by decide)).trans (h.2.2.2.2 z)⟩
def nz : List Nat → Nat
  | [] => 0
  | w :: r => nz r + (if w = 0 then 0 else 1)
def bn : List Nat → Nat
  | [] => 0
  | w :: r => bn r + (if w = 42 ∨ w = 43 ∨ w = 45 then 1 else 0)
theorem bn_nz : ∀ (ws : List Nat), bn ws ≤ nz ws
  | [] => Nat.le_refl 0
  | w :: r => by
    have h := bn_nz r
    unfold bn nz
    split <;> split <;> omega
def wOk (w : Nat) : Prop := w = 0 ∨ w = 42 ∨ w = 43 ∨ w = 45 ∨ w = 110
def SI (F c : Nat) (l : List Q4) (ps ws : List Nat) (op de : Nat) : Prop := F < 4 ∧ l.length + nz ws ≤ c ∧ c ≤ 20 ∧ ws.length = nz ws + op ∧ op ≤ 8 ∧ ps.length = bn ws + de ∧ de ≤ 1 ∧ (∀ i, i ∈ ps → i < l.length) ∧ (∀ (k : Nat) (q : Q4), l[k]? = some q → NDok q F k) ∧ (∀ w, w ∈ ws → wOk w)
def SM (J : MI) (F c : Nat) (l : List Q4) (ps ws : List Nat) (op de : Nat) : Prop := (J 42 14 = nI F ∧ J 49 F = nI l.length ∧ J 42 30 = nI ps.length ∧ J 42 32 = nI ws.length ∧ J 42 33 = nI op ∧ J 42 34 = nI c ∧ (∀ (k : Nat) (q : Q4), l[k]? = some q → MDn J q (20 * F + k)) ∧ stk J 61 ps ∧ stk J 62 ws) ∧ SI F c l ps ws op de
def FRk (F : Nat) (I J : MI) : Prop := ∀ c j, ¬ (c = 42 ∧ (j = 30 ∨ j = 32 ∨ j = 33 ∨ j = 34)) → ¬ (c = 49 ∧ j = F) → ¬ (50 ≤ c ∧ c ≤ 53 ∧ 20 * F ≤ j) → c ≠ 61 → c ≠ 62 → J c j = I c j
def FRq (F : Nat) (I J : MI) : Prop := ∀ c j, ¬ (c = 42 ∧ (3 ≤ j ∧ j ≤ 7 ∨ j = 30 ∨ j = 32 ∨ j = 33 ∨ j = 34)) → ¬ (c = 49 ∧ j = F) → ¬ (50 ≤ c ∧ c ≤ 53 ∧ 20 * F ≤ j) → c ≠ 61 → c ≠ 62 → J c j = I c j
theorem FRk.refl (F : Nat) (I : MI) : FRk F I I := fun _ _ _ _ _ _ _ => rfl
theorem FRk.trans {F : Nat} {I J H : MI} (h : FRk F I J) (h2 : FRk F J H) : FRk F I H := fun c j q1 q2 q3 q4 q5 => (h2 c j q1 q2 q3 q4 q5).trans (h c j q1 q2 q3 q4 q5)
theorem FRk.put {F : Nat} {I J : MI} (h : FRk F I J) (j : Nat) (x : Int32) (hj : j = 30 ∨ j = 32 ∨ j = 33 ∨ j = 34) : FRk F I (u2 J 42 j x) := fun c i q1 q2 q3 q4 q5 => (u2_ne (by omega)).trans (h c i q1 q2 q3 q4 q5)
theorem FRk.pt2 {F : Nat} {I J : MI} (h : FRk F I J) (c j : Nat) (x : Int32) (hj : c = 61 ∨ c = 62) : FRk F I (u2 J c j x) := fun a i q1 q2 q3 q4 q5 => (u2_ne (by omega)).trans (h a i q1 q2 q3 q4 q5)
theorem FRq.refl (F : Nat) (I : MI) : FRq F I I := fun _ _ _ _ _ _ _ => rfl
theorem FRq.trans {F : Nat} {I J H : MI} (h : FRq F I J) (h2 : FRq F J H) : FRq F I H := fun c j q1 q2 q3 q4 q5 => (h2 c j q1 q2 q3 q4 q5).trans (h c j q1 q2 q3 q4 q5)
theorem FRk.q {F : Nat} {I J : MI} (h : FRk F I J) : FRq F I J := fun c j q1 q2 q3 q4 q5 => h c j (by omega) q2 q3 q4 q5
theorem FRm.q {F : Nat} {I J : MI} (h : FRm I J) : FRq F I J := fun c j q1 q2 q3 q4 q5 => h c j (by omega)
theorem FRq.put {F : Nat} {I J : MI} (h : FRq F I J) (j : Nat) (x : Int32) (hj : 3 ≤ j ∧ j ≤ 7 ∨ j = 30 ∨ j = 32 ∨ j = 33 ∨ j = 34) : FRq F I (u2 J 42 j x) := fun c i q1 q2 q3 q4 q5 => (u2_ne (by omega)).trans (h c i q1 q2 q3 q4 q5)
theorem PM.frk {F : Nat} {I J : MI} {tx : Nat → Nat} {n t : Nat} (h : PM I tx n t) (hF : FRk F I J) : PM J tx n t := ⟨⟨(hF 42 2 (by decide) (by omega) (by omega) (by decide) (by decide)).trans h.1.1, h.1.2.1, fun j hj => ⟨(hF 43 j (by omega) (by omega) (by omega) (by decide) (by decide)).trans (h.1.2.2 j hj).1, (h.1.2.2 j hj).2⟩⟩, ⟨(hF 42 5 (by decide) (by omega) (by omega) (by decide) (by decide)).trans h.2.1.1, (hF 42 3 (by decide) (by omega) (by omega) (by decide) (by decide)).trans h.2.1.2.1, (hF 42 4 (by decide) (by omega) (by omega) (by decide) (by decide)).trans h.2.1.2.2.1, fun z => (hF 42 6 (by decide) (by omega) (by omega) (by decide) (by decide)).trans (h.2.1.2.2.2 z)⟩, (hF 42 7 (by decide) (by omega) (by omega) (by decide) (by decide)).trans h.2.2⟩
theorem SM.fr {I J : MI} {F c : Nat} {l : List Q4} {ps ws : List Nat} {op de : Nat} (h : SM I F c l ps ws op de) (h14 : J 42 14 = I 42 14) (h30 : J 42 30 = I 42 30) (h32 : J 42 32 = I 42 32) (h33 : J 42 33 = I 42 33) (h34 : J 42 34 = I 42 34) (h49 : J 49 F = I 49 F) (hn : ∀ c j, 50 ≤ c → c ≤ 53 → J c j = I c j) (h61 : ∀ j, J 61 j = I 61 j) (h62 : ∀ j, J 62 j = I 62 j) : SM J F c l ps ws op de := by
  obtain ⟨⟨a1, a2, a3, a4, a5, a6, a7, a8, a9⟩, hi⟩ := h
  exact ⟨⟨h14.trans a1, h49.trans a2, h30.trans a3, h32.trans a4, h33.trans a5, h34.trans a6, fun k q he => (a7 k q he).fr (fun c c1 c2 => hn c _ c1 c2), a8.fr (fun j _ => h61 j), a9.fr (fun j _ => h62 j)⟩, hi⟩
theorem SM.frm {I J : MI} {F c : Nat} {l : List Q4} {ps ws : List Nat} {op de : Nat} (h : SM I F c l ps ws op de) (hF : FRm I J) : SM J F c l ps ws op de := h.fr (hF 42 14 (by decide)) (hF 42 30 (by decide)) (hF 42 32 (by decide)) (hF 42 33 (by decide)) (hF 42 34 (by decide)) (hF 49 F (by omega)) (fun c j _ _ => hF c j (by omega)) (fun j => hF 61 j (by omega)) (fun j => hF 62 j (by omega))
theorem SM.counted {I : MI} {F c : Nat} {l : List Q4} {ps ws : List Nat} {op de : Nat} (h : SM I F c l ps ws op de) (hc : ¬ 20 ≤ c) : SM (u2 I 42 34 (nI (c + 1))) F (c + 1) l ps ws op de ∧ l.length + nz ws < c + 1 := by
  obtain ⟨⟨a1, a2, a3, a4, a5, a6, a7, a8, a9⟩, i1, i2, i3, i4⟩ := h
  refine ⟨⟨⟨a1, a2, a3, a4, a5, rfl, fun k q he => (a7 k q he).fr (fun c c1 c2 => u2_ne (by omega)), a8.fr (fun j _ => u2_ne (by omega)), a9.fr (fun j _ => u2_ne (by omega))⟩, i1, ?_, ?_, i4⟩, ?_⟩ <;> omega
theorem nz_110 (ws : List Nat) : nz (110 :: ws) = nz ws + 1 := rfl
theorem bn_110 (ws : List Nat) : bn (110 :: ws) = bn ws := rfl
theorem nz_b {w : Nat} (hw : w = 42 ∨ w = 43 ∨ w = 45) (ws : List Nat) : nz (w :: ws) = nz ws + 1 := by
  show nz ws + (if w = 0 then 0 else 1) = _
  rw [if_neg (by omega)]
theorem bn_b {w : Nat} (hw : w = 42 ∨ w = 43 ∨ w = 45) (ws : List Nat) : bn (w :: ws) = bn ws + 1 := by
  show bn ws + (if w = 42 ∨ w = 43 ∨ w = 45 then 1 else 0) = _
  rw [if_pos hw]
theorem mem_tl {a b : Nat} {l : List Nat} (h : a ∈ l) : a ∈ b :: l := List.mem_cons_of_mem b h
/-- a sign ahead is off the stacks -/
theorem SM.ahd {I : MI} {F c : Nat} {l : List Q4} {i : Nat} {ps ws : List Nat} {op : Nat} (h : SM I F c l (i :: ps) (110 :: ws) op 1) : SM (u2 (u2 I 42 32 (nI ws.length)) 42 30 (nI ps.length)) F c l ps ws op 0 ∧ l.length + nz ws < c ∧ i < l.length := by
  obtain ⟨⟨a1, a2, a3, a4, a5, a6, a7, a8, a9⟩, i1, i2, i3, i4, i5, i6, i7, i8, i9, i10⟩ := h
  rw [nz_110] at i2 i4
  rw [bn_110] at i6
  have e1 : (110 :: ws).length = ws.length + 1 := rfl
  have e2 : (i :: ps).length = ps.length + 1 := rfl
  refine ⟨⟨⟨a1, a2, rfl, rfl, a5, a6, fun k q he => (a7 k q he).fr (fun c c1 c2 => (u2_ne (by omega)).trans (u2_ne (by omega))), a8.2.fr (fun j _ => (u2_ne (by omega)).trans (u2_ne (by omega))), a9.2.fr (fun j _ => (u2_ne (by omega)).trans (u2_ne (by omega)))⟩, i1, by omega, i3, by omega, i5, by omega, Nat.zero_le 1, fun j hj => i8 j (mem_tl hj), i9, fun w hw => i10 w (mem_tl hw)⟩, by omega, i8 i (List.mem_cons_self ..)⟩
/-- a sign of two is off the stacks -/
theorem SM.bin {I : MI} {F c : Nat} {l : List Q4} {i j w : Nat} {ps ws : List Nat} {op : Nat} (h : SM I F c l (j :: i :: ps) (w :: ws) op 1) (hw : w = 42 ∨ w = 43 ∨ w = 45) : SM (u2 (u2 I 42 32 (nI ws.length)) 42 30 (nI ps.length)) F c l ps ws op 0 ∧ l.length + nz ws < c ∧ i < l.length ∧ j < l.length := by
  obtain ⟨⟨a1, a2, a3, a4, a5, a6, a7, a8, a9⟩, i1, i2, i3, i4, i5, i6, i7, i8, i9, i10⟩ := h
  rw [nz_b hw] at i2 i4
  rw [bn_b hw] at i6
  have e1 : (w :: ws).length = ws.length + 1 := rfl
  have e2 : (j :: i :: ps).length = ps.length + 2 := rfl
  refine ⟨⟨⟨a1, a2, rfl, rfl, a5, a6, fun k q he => (a7 k q he).fr (fun c c1 c2 => (u2_ne (by omega)).trans (u2_ne (by omega))), a8.2.2.fr (fun j _ => (u2_ne (by omega)).trans (u2_ne (by omega))), a9.2.fr (fun j _ => (u2_ne (by omega)).trans (u2_ne (by omega)))⟩, i1, by omega, i3, by omega, i5, by omega, Nat.zero_le 1, fun k hk => i8 k (mem_tl (mem_tl hk)), i9, fun k hk => i10 k (mem_tl hk)⟩, by omega, i8 i (mem_tl (List.mem_cons_self ..)), i8 j (List.mem_cons_self ..)⟩
/-- a part is off its stack -/
theorem SM.pop {I : MI} {F c : Nat} {l : List Q4} {i : Nat} {ps ws : List Nat} {op : Nat} (h : SM I F c l (i :: ps) ws op 1) : SM (u2 I 42 30 (nI ps.length)) F c l ps ws op 0 ∧ i < l.length := by
  obtain ⟨⟨a1, a2, a3, a4, a5, a6, a7, a8, a9⟩, i1, i2, i3, i4, i5, i6, i7, i8, i9, i10⟩ := h
  have e2 : (i :: ps).length = ps.length + 1 := rfl
  exact ⟨⟨⟨a1, a2, rfl, a4, a5, a6, fun k q he => (a7 k q he).fr (fun c c1 c2 => u2_ne (by omega)), a8.2.fr (fun j _ => u2_ne (by omega)), a9.fr (fun j _ => u2_ne (by omega))⟩, i1, i2, i3, i4, i5, by omega, Nat.zero_le 1, fun j hj => i8 j (mem_tl hj), i9, i10⟩, i8 i (List.mem_cons_self ..)⟩
/-- a sign waits -/
theorem SM.wait {I : MI} {F c : Nat} {l : List Q4} {w : Nat} {ps ws : List Nat} {op de : Nat} (h : SM I F c l ps ws op de) (hw : (w = 110 ∧ de = 0) ∨ ((w = 42 ∨ w = 43 ∨ w = 45) ∧ de = 1)) (hl : l.length + nz ws < c) : SM (u2 (u2 I 62 ws.length (nI w)) 42 32 (nI (ws.length + 1))) F c l ps (w :: ws) op 0 := by
  obtain ⟨⟨a1, a2, a3, a4, a5, a6, a7, a8, a9⟩, i1, i2, i3, i4, i5, i6, i7, i8, i9, i10⟩ := h
  have e1 : (w :: ws).length = ws.length + 1 := rfl
  have hz : nz (w :: ws) = nz ws + 1 := by
    show nz ws + (if w = 0 then 0 else 1) = _
    rw [if_neg (by omega)]
  have hb : ps.length = bn (w :: ws) + 0 := by
    unfold bn
    split <;> omega
  refine ⟨⟨a1, a2, a3, rfl, a5, a6, fun k q he => (a7 k q he).fr (fun c c1 c2 => (u2_ne (by omega)).trans (u2_ne (by omega))), a8.fr (fun j _ => (u2_ne (by omega)).trans (u2_ne (by omega))), ⟨(u2_ne (by omega)).trans (u2_at _ _ _ _), a9.fr (fun j hj => (u2_ne (by omega)).trans (u2_ne (by omega)))⟩⟩, i1, by omega, i3, by omega, i5, hb, Nat.zero_le 1, i8, i9, fun k hk => ?_⟩
  cases List.mem_cons.mp hk with
  | inl z => rw [z]; unfold wOk; omega
  | inr z => exact i10 k z
/-- a bracket is opened -/
theorem SM.opn {I : MI} {F c : Nat} {l : List Q4} {ps ws : List Nat} {op de : Nat} (h : SM I F c l ps ws op de) (ho : op < 8) : SM (u2 (u2 (u2 I 42 33 (nI (op + 1))) 62 ws.length (nI 0)) 42 32 (nI (ws.length + 1))) F c l ps (0 :: ws) (op + 1) de := by
  obtain ⟨⟨a1, a2, a3, a4, a5, a6, a7, a8, a9⟩, i1, i2, i3, i4, i5, i6, i7, i8, i9, i10⟩ := h
  have e1 : (0 :: ws).length = ws.length + 1 := rfl
  have hz : nz (0 :: ws) = nz ws := rfl
  have hb : bn (0 :: ws) = bn ws := rfl
  refine ⟨⟨a1, a2, a3, rfl, rfl, a6, fun k q he => (a7 k q he).fr (fun c c1 c2 => (u2_ne (by omega)).trans ((u2_ne (by omega)).trans (u2_ne (by omega)))), a8.fr (fun j _ => (u2_ne (by omega)).trans ((u2_ne (by omega)).trans (u2_ne (by omega)))), ⟨(u2_ne (by omega)).trans (u2_at _ _ _ _), a9.fr (fun j hj => (u2_ne (by omega)).trans ((u2_ne (by omega)).trans (u2_ne (by omega))))⟩⟩, i1, by omega, i3, by omega, by omega, by omega, i7, i8, i9, fun k hk => ?_⟩
  cases List.mem_cons.mp hk with
  | inl z => rw [z]; unfold wOk; omega
  | inr z => exact i10 k z
theorem nz_len : ∀ (ws : List Nat), nz ws ≤ ws.length
  | [] => Nat.le_refl 0
  | w :: r => by
    have h := nz_len r
    have e1 : (w :: r).length = r.length + 1 := rfl
    unfold nz
    split <;> omega
/-- a bracket is closed -/
theorem SM.cls {I : MI} {F c : Nat} {l : List Q4} {ps ws : List Nat} {op de : Nat} (h : SM I F c l ps (0 :: ws) op de) : SM (u2 (u2 I 42 33 (nI (op - 1))) 42 32 (nI ws.length)) F c l ps ws (op - 1) de ∧ 1 ≤ op := by
  obtain ⟨⟨a1, a2, a3, a4, a5, a6, a7, a8, a9⟩, i1, i2, i3, i4, i5, i6, i7, i8, i9, i10⟩ := h
  have e1 : (0 :: ws).length = ws.length + 1 := rfl
  have hz : nz (0 :: ws) = nz ws := rfl
  have hb : bn (0 :: ws) = bn ws := rfl
  have hle := nz_len ws
  exact ⟨⟨⟨a1, a2, a3, rfl, rfl, a6, fun k q he => (a7 k q he).fr (fun c c1 c2 => (u2_ne (by omega)).trans (u2_ne (by omega))), a8.fr (fun j _ => (u2_ne (by omega)).trans (u2_ne (by omega))), a9.2.fr (fun j hj => (u2_ne (by omega)).trans (u2_ne (by omega)))⟩, i1, by omega, i3, by omega, by omega, by omega, i7, i8, i9, fun k hk => i10 k (mem_tl hk)⟩, by omega⟩
def mkN (J : MI) (F k m : Nat) (so its lf rt : Int32) : MI := u2 (u2 (u2 (u2 (u2 (u2 (u2 J 50 (20 * F + k) so) 51 (20 * F + k) its) 52 (20 * F + k) lf) 53 (20 * F + k) rt) 61 m (nI k)) 42 30 (nI (m + 1))) 49 F (nI (k + 1))
theorem mkN_off {J : MI} {F k m : Nat} {so its lf rt : Int32} {c j : Nat} (h1 : ¬ (50 ≤ c ∧ c ≤ 53 ∧ j = 20 * F + k)) (h2 : ¬ (c = 61 ∧ j = m)) (h3 : ¬ (c = 42 ∧ j = 30)) (h4 : ¬ (c = 49 ∧ j = F)) : mkN J F k m so its lf rt c j = J c j := (u2_ne (by omega)).trans ((u2_ne (by omega)).trans ((u2_ne (by omega)).trans ((u2_ne (by omega)).trans ((u2_ne (by omega)).trans ((u2_ne (by omega)).trans (u2_ne (by omega)))))))
theorem FRk.mk {F : Nat} {I J : MI} (h : FRk F I J) (k m : Nat) (so its lf rt : Int32) : FRk F I (mkN J F k m so its lf rt) := fun c j q1 q2 q3 q4 q5 => (mkN_off (by omega) (by omega) (by omega) (by omega)).trans (h c j q1 q2 q3 q4 q5)
theorem mkN_50 {J : MI} {F k m : Nat} {so its lf rt : Int32} : mkN J F k m so its lf rt 50 (20 * F + k) = so := (u2_ne (by omega)).trans ((u2_ne (by omega)).trans ((u2_ne (by omega)).trans ((u2_ne (by omega)).trans ((u2_ne (by omega)).trans ((u2_ne (by omega)).trans (u2_at _ _ _ _))))))
theorem mkN_51 {J : MI} {F k m : Nat} {so its lf rt : Int32} : mkN J F k m so its lf rt 51 (20 * F + k) = its := (u2_ne (by omega)).trans ((u2_ne (by omega)).trans ((u2_ne (by omega)).trans ((u2_ne (by omega)).trans ((u2_ne (by omega)).trans (u2_at _ _ _ _)))))
theorem mkN_52 {J : MI} {F k m : Nat} {so its lf rt : Int32} : mkN J F k m so its lf rt 52 (20 * F + k) = lf := (u2_ne (by omega)).trans ((u2_ne (by omega)).trans ((u2_ne (by omega)).trans ((u2_ne (by omega)).trans (u2_at _ _ _ _))))
theorem mkN_53 {J : MI} {F k m : Nat} {so its lf rt : Int32} : mkN J F k m so its lf rt 53 (20 * F + k) = rt := (u2_ne (by omega)).trans ((u2_ne (by omega)).trans ((u2_ne (by omega)).trans (u2_at _ _ _ _)))
/-- a node is made -/
theorem SM.made {I : MI} {F c : Nat} {l : List Q4} {ps ws : List Nat} {op : Nat} (h : SM I F c l ps ws op 0) (hl : l.length + nz ws < c) (q : Q4) (hq : NDok q F l.length) {so its lf rt : Int32} (e1 : so = nI q.1) (e2 : its = nI q.2.1) (e3 : 42 ≤ q.1 → lf = nI q.2.2.1) (e4 : q.1 = 42 ∨ q.1 = 43 ∨ q.1 = 45 → rt = nI q.2.2.2) (e5 : q.1 = 94 ∨ q.1 = 110 → rt = -9) : SM (mkN I F l.length ps.length so its lf rt) F c (l ++ [q]) (l.length :: ps) ws op 1 := by
  obtain ⟨⟨a1, a2, a3, a4, a5, a6, a7, a8, a9⟩, i1, i2, i3, i4, i5, i6, i7, i8, i9, i10⟩ := h
  have g1 : (l ++ [q]).length = l.length + 1 := List.length_append
  have g2 : (l.length :: ps).length = ps.length + 1 := rfl
  refine ⟨⟨(mkN_off (by omega) (by omega) (by omega) (by omega)).trans a1, ?_, ?_, (mkN_off (by omega) (by omega) (by omega) (by omega)).trans a4, (mkN_off (by omega) (by omega) (by omega) (by omega)).trans a5, (mkN_off (by omega) (by omega) (by omega) (by omega)).trans a6, fun k z hz => ?_, ⟨(u2_ne (by omega)).trans ((u2_ne (by omega)).trans (u2_at _ _ _ _)), a8.fr (fun j hj => mkN_off (by omega) (by omega) (by omega) (by omega))⟩, a9.fr (fun j hj => mkN_off (by omega) (by omega) (by omega) (by omega))⟩, i1, by omega, i3, i4, i5, by omega, Nat.le_refl 1, fun k hk => ?_, fun k z hz => ?_, i10⟩
  · rw [g1]; exact u2_at _ _ _ _
  · rw [g2]; exact (u2_ne (by omega)).trans (u2_at _ _ _ _)
  · by_cases he : k < l.length
    · rw [List.getElem?_append_left he] at hz
      exact (a7 k z hz).fr (fun c c1 c2 => mkN_off (by omega) (by omega) (by omega) (by omega))
    · rw [List.getElem?_append_right (by omega)] at hz
      have h0 : k - l.length < 1 := (List.getElem?_eq_some_iff.mp hz).1
      have he2 : k = l.length := by omega
      subst he2
      rw [Nat.sub_self] at hz
      cases hz
      exact ⟨mkN_50.trans e1, mkN_51.trans e2, fun y => mkN_52.trans (e3 y), fun y => mkN_53.trans (e4 y), fun y => mkN_53.trans (e5 y)⟩
  · cases List.mem_cons.mp hk with
    | inl z => omega
    | inr z => have := i8 k z; omega
  · by_cases he : k < l.length
    · rw [List.getElem?_append_left he] at hz
      exact i9 k z hz
    · rw [List.getElem?_append_right (by omega)] at hz
      have h0 : k - l.length < 1 := (List.getElem?_eq_some_iff.mp hz).1
      have he2 : k = l.length := by omega
      subst he2
      rw [Nat.sub_self] at hz
      cases hz
      exact hq
