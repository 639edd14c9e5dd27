/-! second rows: by naturals, by booleans, with the value read given -/
def bI (b : Bool) : Int32 := if b then 1 else 0
theorem bI_nar (b : Bool) : narrow .boolean (.int (bI b)) = .int (bI b) := by cases b <;> rfl
theorem bI_0 {b : Bool} (h : b = false) : (0 : Int32) = bI b := by subst h; rfl
theorem bI_1 {b : Bool} (h : b = true) : (1 : Int32) = bI b := by subst h; rfl
theorem bI_eq0 {b : Bool} (h : bI b = 0) : b = false := by cases b with
  | false => rfl
  | true => exact absurd h (by decide)
theorem bI_ne0 {b : Bool} (h : ¬ bI b = 0) : b = true := by cases b with
  | false => exact absurd rfl h
  | true => rfl
theorem ii1 (a : Nat) : nI a + Int32.ofInt 1 = nI (a + 1) := (nI_succ a).symm
theorem ii4 (a : Nat) : nI a + Int32.ofInt 4 = nI (a + 4) := nI_add a 4
theorem lg_le {x y : Int64} (h : lg_cmp x y ≤ 0) : x ≤ y := by
  unfold lg_cmp at h
  split at h
  · exact absurd h (by decide)
  · rename_i h1
    rw [Int64.le_iff_toInt_le]
    have : ¬ y.toInt < x.toInt := fun q => h1 (Int64.lt_iff_toInt_lt.mpr q)
    omega
theorem lg_nle {x y : Int64} (h : ¬ lg_cmp x y ≤ 0) : y < x := by
  unfold lg_cmp at h
  split at h
  · assumption
  · split at h
    · exact absurd (by decide) h
    · exact absurd (by decide) h
theorem lg_eq0 {x y : Int64} (h : lg_cmp x y = 0) : x = y := by
  unfold lg_cmp at h
  split at h
  · exact absurd h (by decide)
  · split at h
    · assumption
    · exact absurd h (by decide)
theorem lg_ne0 {x y : Int64} (h : ¬ lg_cmp x y = 0) : ¬ x = y := fun q => h (by subst q; unfold lg_cmp; rw [if_neg (fun z => absurd (Int64.lt_iff_toInt_lt.mp z) (by omega)), if_pos rfl])
theorem lg_gt {x y : Int64} (h : 0 < lg_cmp x y) : y < x := by
  unfold lg_cmp at h
  split at h
  · assumption
  · split at h
    · exact absurd h (by decide)
    · exact absurd h (by decide)
theorem lg_ngt {x y : Int64} (h : ¬ 0 < lg_cmp x y) : x ≤ y := by
  unfold lg_cmp at h
  split at h
  · exact absurd (by decide) h
  · rename_i h1
    rw [Int64.le_iff_toInt_le]
    have : ¬ y.toInt < x.toInt := fun q => h1 (Int64.lt_iff_toInt_lt.mpr q)
    omega
/-- a whole array is put in a cell's place -/
def s2 (I : MI) (c : Nat) (f : Nat → Int32) : MI := fun c' => if c' = c then f else I c'
def t2 (L : ML) (c : Nat) (f : Nat → Int64) : ML := fun c' => if c' = c then f else L c'
section ROWS2
variable {X : Ctx} {M : MD} {d : Nat} {ct cs : Nat × Nat} {T : TR} {pc : Nat} {lo st rest : List Value} {sh : List SH} {I : MI} {L : ML}
theorem r_ifb_eq {b : Bool} {off : Int} {tgt : Nat} (hdg : decode M.2.1 pc = .ok (.ifCond .eq off, 3)) (ht : (pc : Int) + off = (tgt : Int)) (kt : b = false → Ev X M d ct cs T tgt lo st sh I L) (kf : b = true → Ev X M d ct cs T (pc + 3) lo st sh I L) : Ev X M d ct cs T pc lo (.int (bI b) :: st) sh I L :=
  r_if_eq hdg ht (fun q => kt (bI_eq0 q)) (fun q => kf (bI_ne0 q))
theorem r_ifb_ne {b : Bool} {off : Int} {tgt : Nat} (hdg : decode M.2.1 pc = .ok (.ifCond .ne off, 3)) (ht : (pc : Int) + off = (tgt : Int)) (kt : b = true → Ev X M d ct cs T tgt lo st sh I L) (kf : b = false → Ev X M d ct cs T (pc + 3) lo st sh I L) : Ev X M d ct cs T pc lo (.int (bI b) :: st) sh I L :=
  r_if_ne hdg ht (fun q => kt (bI_ne0 q)) (fun q => kf (bI_eq0 q))
theorem r_getV {a idx ci j : Nat} {r : List Nat} {v : Int32} (hdg : decode M.2.1 pc = .ok (.getfield idx, 3)) (hf : FLK M.1.cls idx ci j) (hs : sh[a]? = some (ci, r)) (hr : r[j]? = some 0) (hv : I a j = v) (k : Ev X M d ct cs T (pc + 3) lo (.int v :: st) sh I L) : Ev X M d ct cs T pc lo (.ref a :: st) sh I L := by
  subst hv; exact r_get hdg hf hs hr k
theorem r_ialdV {a n : Nat} {i v : Int32} {j : Nat} (hdg : decode M.2.1 pc = .ok (.iaload, 1)) (hs : sh[a]? = some (100, [n])) (hi : i = nI j) (hj : j < n) (hn : n < 2 ^ 31) (hv : I a j = v) (k : Ev X M d ct cs T (pc + 1) lo (.int v :: st) sh I L) : Ev X M d ct cs T pc lo (.int i :: .ref a :: st) sh I L := by
  subst hv; exact r_iald hdg hs hi hj hn k
theorem r_laldV {a n : Nat} {i : Int32} {v : Int64} {j : Nat} (hdg : decode M.2.1 pc = .ok (.laload, 1)) (hs : sh[a]? = some (101, [n])) (hi : i = nI j) (hj : j < n) (hn : n < 2 ^ 31) (hv : L a j = v) (k : Ev X M d ct cs T (pc + 1) lo (.long v :: st) sh I L) : Ev X M d ct cs T pc lo (.int i :: .ref a :: st) sh I L := by
  subst hv; exact r_lald hdg hs hi hj hn k
theorem r_zaldV {a n : Nat} {i v : Int32} {j : Nat} (hdg : decode M.2.1 pc = .ok (.baload, 1)) (hs : sh[a]? = some (102, [n])) (hi : i = nI j) (hj : j < n) (hn : n < 2 ^ 31) (hv : I a j = v) (k : Ev X M d ct cs T (pc + 1) lo (.int v :: st) sh I L) : Ev X M d ct cs T pc lo (.int i :: .ref a :: st) sh I L := by
  subst hv; exact r_zald hdg hs hi hj hn k
theorem r_iaddN {a b : Nat} (hdg : decode M.2.1 pc = .ok (.iadd, 1)) (k : Ev X M d ct cs T (pc + 1) lo (.int (nI (a + b)) :: st) sh I L) : Ev X M d ct cs T pc lo (.int (nI b) :: .int (nI a) :: st) sh I L := r_iadd hdg (by rw [nI_add]; exact k)
theorem r_imulN {a b : Nat} (hdg : decode M.2.1 pc = .ok (.imul, 1)) (k : Ev X M d ct cs T (pc + 1) lo (.int (nI (a * b)) :: st) sh I L) : Ev X M d ct cs T pc lo (.int (nI b) :: .int (nI a) :: st) sh I L := r_imul hdg (by rw [pk_mul]; exact k)
theorem r_isubN {a b : Nat} (hdg : decode M.2.1 pc = .ok (.isub, 1)) (h : b ≤ a) (k : Ev X M d ct cs T (pc + 1) lo (.int (nI (a - b)) :: st) sh I L) : Ev X M d ct cs T pc lo (.int (nI b) :: .int (nI a) :: st) sh I L := r_isub hdg (by rw [pk_sub h]; exact k)
/-- a value on the stack by another name -/
theorem r_top {v w : Value} (h : v = w) (k : Ev X M d ct cs T pc lo (w :: st) sh I L) : Ev X M d ct cs T pc lo (v :: st) sh I L := by subst h; exact k
theorem r_top2 {u v w : Value} (h : v = w) (k : Ev X M d ct cs T pc lo (u :: w :: st) sh I L) : Ev X M d ct cs T pc lo (u :: v :: st) sh I L := by subst h; exact k
theorem r_I {I' : MI} (h : I = I') (k : Ev X M d ct cs T pc lo st sh I' L) : Ev X M d ct cs T pc lo st sh I L := by subst h; exact k
theorem r_L {L' : ML} (h : L = L') (k : Ev X M d ct cs T pc lo st sh I L') : Ev X M d ct cs T pc lo st sh I L := by subst h; exact k
theorem r_ifN_lt {a : Nat} {off : Int} {tgt : Nat} (hdg : decode M.2.1 pc = .ok (.ifCond .lt off, 3)) (ht : (pc : Int) + off = (tgt : Int)) (ha : a < 2 ^ 31) (kt : a < 0 → Ev X M d ct cs T tgt lo st sh I L) (kf : ¬ a < 0 → Ev X M d ct cs T (pc + 3) lo st sh I L) : Ev X M d ct cs T pc lo (.int (nI a) :: st) sh I L := by
  have hb : 0 < 2 ^ 31 := (by decide); exact r_if_lt hdg ht (fun q => kt ((nI_ltI ha hb).mp q)) (fun q => kf (fun z => q ((nI_ltI ha hb).mpr z)))
theorem r_icmpN_lt {a b : Nat} {off : Int} {tgt : Nat} (hdg : decode M.2.1 pc = .ok (.if_icmp .lt off, 3)) (ht : (pc : Int) + off = (tgt : Int)) (ha : a < 2 ^ 31) (hb : b < 2 ^ 31) (kt : a < b → Ev X M d ct cs T tgt lo st sh I L) (kf : ¬ a < b → Ev X M d ct cs T (pc + 3) lo st sh I L) : Ev X M d ct cs T pc lo (.int (nI b) :: .int (nI a) :: st) sh I L := by
  exact r_icmp_lt hdg ht (fun q => kt ((nI_ltI ha hb).mp q)) (fun q => kf (fun z => q ((nI_ltI ha hb).mpr z)))
theorem r_ifN_ge {a : Nat} {off : Int} {tgt : Nat} (hdg : decode M.2.1 pc = .ok (.ifCond .ge off, 3)) (ht : (pc : Int) + off = (tgt : Int)) (ha : a < 2 ^ 31) (kt : 0 ≤ a → Ev X M d ct cs T tgt lo st sh I L) (kf : ¬ 0 ≤ a → Ev X M d ct cs T (pc + 3) lo st sh I L) : Ev X M d ct cs T pc lo (.int (nI a) :: st) sh I L := by
  have hb : 0 < 2 ^ 31 := (by decide); exact r_if_ge hdg ht (fun q => kt ((nI_leI hb ha).mp q)) (fun q => kf (fun z => q ((nI_leI hb ha).mpr z)))
theorem r_icmpN_ge {a b : Nat} {off : Int} {tgt : Nat} (hdg : decode M.2.1 pc = .ok (.if_icmp .ge off, 3)) (ht : (pc : Int) + off = (tgt : Int)) (ha : a < 2 ^ 31) (hb : b < 2 ^ 31) (kt : b ≤ a → Ev X M d ct cs T tgt lo st sh I L) (kf : ¬ b ≤ a → Ev X M d ct cs T (pc + 3) lo st sh I L) : Ev X M d ct cs T pc lo (.int (nI b) :: .int (nI a) :: st) sh I L := by
  exact r_icmp_ge hdg ht (fun q => kt ((nI_leI hb ha).mp q)) (fun q => kf (fun z => q ((nI_leI hb ha).mpr z)))
theorem r_ifN_gt {a : Nat} {off : Int} {tgt : Nat} (hdg : decode M.2.1 pc = .ok (.ifCond .gt off, 3)) (ht : (pc : Int) + off = (tgt : Int)) (ha : a < 2 ^ 31) (kt : 0 < a → Ev X M d ct cs T tgt lo st sh I L) (kf : ¬ 0 < a → Ev X M d ct cs T (pc + 3) lo st sh I L) : Ev X M d ct cs T pc lo (.int (nI a) :: st) sh I L := by
  have hb : 0 < 2 ^ 31 := (by decide); exact r_if_gt hdg ht (fun q => kt ((nI_ltI hb ha).mp q)) (fun q => kf (fun z => q ((nI_ltI hb ha).mpr z)))
theorem r_icmpN_gt {a b : Nat} {off : Int} {tgt : Nat} (hdg : decode M.2.1 pc = .ok (.if_icmp .gt off, 3)) (ht : (pc : Int) + off = (tgt : Int)) (ha : a < 2 ^ 31) (hb : b < 2 ^ 31) (kt : b < a → Ev X M d ct cs T tgt lo st sh I L) (kf : ¬ b < a → Ev X M d ct cs T (pc + 3) lo st sh I L) : Ev X M d ct cs T pc lo (.int (nI b) :: .int (nI a) :: st) sh I L := by
  exact r_icmp_gt hdg ht (fun q => kt ((nI_ltI hb ha).mp q)) (fun q => kf (fun z => q ((nI_ltI hb ha).mpr z)))
theorem r_ifN_le {a : Nat} {off : Int} {tgt : Nat} (hdg : decode M.2.1 pc = .ok (.ifCond .le off, 3)) (ht : (pc : Int) + off = (tgt : Int)) (ha : a < 2 ^ 31) (kt : a ≤ 0 → Ev X M d ct cs T tgt lo st sh I L) (kf : ¬ a ≤ 0 → Ev X M d ct cs T (pc + 3) lo st sh I L) : Ev X M d ct cs T pc lo (.int (nI a) :: st) sh I L := by
  have hb : 0 < 2 ^ 31 := (by decide); exact r_if_le hdg ht (fun q => kt ((nI_leI ha hb).mp q)) (fun q => kf (fun z => q ((nI_leI ha hb).mpr z)))
theorem r_icmpN_le {a b : Nat} {off : Int} {tgt : Nat} (hdg : decode M.2.1 pc = .ok (.if_icmp .le off, 3)) (ht : (pc : Int) + off = (tgt : Int)) (ha : a < 2 ^ 31) (hb : b < 2 ^ 31) (kt : a ≤ b → Ev X M d ct cs T tgt lo st sh I L) (kf : ¬ a ≤ b → Ev X M d ct cs T (pc + 3) lo st sh I L) : Ev X M d ct cs T pc lo (.int (nI b) :: .int (nI a) :: st) sh I L := by
  exact r_icmp_le hdg ht (fun q => kt ((nI_leI ha hb).mp q)) (fun q => kf (fun z => q ((nI_leI ha hb).mpr z)))
theorem r_ifN_eq {a : Nat} {off : Int} {tgt : Nat} (hdg : decode M.2.1 pc = .ok (.ifCond .eq off, 3)) (ht : (pc : Int) + off = (tgt : Int)) (ha : a < 2 ^ 31) (kt : a = 0 → Ev X M d ct cs T tgt lo st sh I L) (kf : ¬ a = 0 → Ev X M d ct cs T (pc + 3) lo st sh I L) : Ev X M d ct cs T pc lo (.int (nI a) :: st) sh I L := by
  have hb : 0 < 2 ^ 31 := (by decide); exact r_if_eq hdg ht (fun q => kt ((nI_eq ha hb).mp q)) (fun q => kf (fun z => q ((nI_eq ha hb).mpr z)))
theorem r_icmpN_eq {a b : Nat} {off : Int} {tgt : Nat} (hdg : decode M.2.1 pc = .ok (.if_icmp .eq off, 3)) (ht : (pc : Int) + off = (tgt : Int)) (ha : a < 2 ^ 31) (hb : b < 2 ^ 31) (kt : a = b → Ev X M d ct cs T tgt lo st sh I L) (kf : ¬ a = b → Ev X M d ct cs T (pc + 3) lo st sh I L) : Ev X M d ct cs T pc lo (.int (nI b) :: .int (nI a) :: st) sh I L := by
  exact r_icmp_eq hdg ht (fun q => kt ((nI_eq ha hb).mp q)) (fun q => kf (fun z => q ((nI_eq ha hb).mpr z)))
theorem r_ifN_ne {a : Nat} {off : Int} {tgt : Nat} (hdg : decode M.2.1 pc = .ok (.ifCond .ne off, 3)) (ht : (pc : Int) + off = (tgt : Int)) (ha : a < 2 ^ 31) (kt : a ≠ 0 → Ev X M d ct cs T tgt lo st sh I L) (kf : a = 0 → Ev X M d ct cs T (pc + 3) lo st sh I L) : Ev X M d ct cs T pc lo (.int (nI a) :: st) sh I L := by
  have hb : 0 < 2 ^ 31 := (by decide); exact r_if_ne hdg ht (fun q => kt (fun z => q ((nI_eq ha hb).mpr z))) (fun q => kf ((nI_eq ha hb).mp q))
theorem r_icmpN_ne {a b : Nat} {off : Int} {tgt : Nat} (hdg : decode M.2.1 pc = .ok (.if_icmp .ne off, 3)) (ht : (pc : Int) + off = (tgt : Int)) (ha : a < 2 ^ 31) (hb : b < 2 ^ 31) (kt : a ≠ b → Ev X M d ct cs T tgt lo st sh I L) (kf : a = b → Ev X M d ct cs T (pc + 3) lo st sh I L) : Ev X M d ct cs T pc lo (.int (nI b) :: .int (nI a) :: st) sh I L := by
  exact r_icmp_ne hdg ht (fun q => kt (fun z => q ((nI_eq ha hb).mpr z))) (fun q => kf ((nI_eq ha hb).mp q))
theorem r_lc_le {x y : Int64} {off : Int} {tgt : Nat} (hd0 : decode M.2.1 pc = .ok (.lcmp, 1)) (hdg : decode M.2.1 (pc + 1) = .ok (.ifCond .le off, 3)) (ht : ((pc + 1 : Nat) : Int) + off = (tgt : Int)) (kt : x ≤ y → Ev X M d ct cs T tgt lo st sh I L) (kf : y < x → Ev X M d ct cs T (pc + 4) lo st sh I L) : Ev X M d ct cs T pc lo (.long y :: .long x :: st) sh I L :=
  r_lcmp hd0 (r_if_le hdg ht (fun q => kt (lg_le q)) (fun q => kf (lg_nle q)))
theorem r_lc_gt {x y : Int64} {off : Int} {tgt : Nat} (hd0 : decode M.2.1 pc = .ok (.lcmp, 1)) (hdg : decode M.2.1 (pc + 1) = .ok (.ifCond .gt off, 3)) (ht : ((pc + 1 : Nat) : Int) + off = (tgt : Int)) (kt : y < x → Ev X M d ct cs T tgt lo st sh I L) (kf : x ≤ y → Ev X M d ct cs T (pc + 4) lo st sh I L) : Ev X M d ct cs T pc lo (.long y :: .long x :: st) sh I L :=
  r_lcmp hd0 (r_if_gt hdg ht (fun q => kt (lg_gt q)) (fun q => kf (lg_ngt q)))
theorem r_lc_eq {x y : Int64} {off : Int} {tgt : Nat} (hd0 : decode M.2.1 pc = .ok (.lcmp, 1)) (hdg : decode M.2.1 (pc + 1) = .ok (.ifCond .eq off, 3)) (ht : ((pc + 1 : Nat) : Int) + off = (tgt : Int)) (kt : x = y → Ev X M d ct cs T tgt lo st sh I L) (kf : ¬ x = y → Ev X M d ct cs T (pc + 4) lo st sh I L) : Ev X M d ct cs T pc lo (.long y :: .long x :: st) sh I L :=
  r_lcmp hd0 (r_if_eq hdg ht (fun q => kt (lg_eq0 q)) (fun q => kf (lg_ne0 q)))
theorem r_lc_ne {x y : Int64} {off : Int} {tgt : Nat} (hd0 : decode M.2.1 pc = .ok (.lcmp, 1)) (hdg : decode M.2.1 (pc + 1) = .ok (.ifCond .ne off, 3)) (ht : ((pc + 1 : Nat) : Int) + off = (tgt : Int)) (kt : ¬ x = y → Ev X M d ct cs T tgt lo st sh I L) (kf : x = y → Ev X M d ct cs T (pc + 4) lo st sh I L) : Ev X M d ct cs T pc lo (.long y :: .long x :: st) sh I L :=
  r_lcmp hd0 (r_if_ne hdg ht (fun q => kt (lg_ne0 q)) (fun q => kf (lg_eq0 q)))
end ROWS2
theorem bp_m99 : (Int8.ofInt (-99)).toInt32 = (-99 : Int32) := by decide +kernel
theorem bp_m20 : (Int8.ofInt (-20)).toInt32 = (-20 : Int32) := by decide +kernel
theorem bp_m10 : (Int8.ofInt (-10)).toInt32 = (-10 : Int32) := by decide +kernel
theorem bp_m9 : (Int8.ofInt (-9)).toInt32 = (-9 : Int32) := by decide +kernel
theorem bp_m3 : (Int8.ofInt (-3)).toInt32 = (-3 : Int32) := by decide +kernel
theorem bp_m2 : (Int8.ofInt (-2)).toInt32 = (-2 : Int32) := by decide +kernel
theorem bp_6 : (Int8.ofInt 6).toInt32 = nI 6 := by decide +kernel
theorem bp_7 : (Int8.ofInt 7).toInt32 = nI 7 := by decide +kernel
theorem bp_8 : (Int8.ofInt 8).toInt32 = nI 8 := by decide +kernel
theorem bp_9 : (Int8.ofInt 9).toInt32 = nI 9 := by decide +kernel
theorem bp_10 : (Int8.ofInt 10).toInt32 = nI 10 := by decide +kernel
theorem bp_12 : (Int8.ofInt 12).toInt32 = nI 12 := by decide +kernel
theorem bp_16 : (Int8.ofInt 16).toInt32 = nI 16 := by decide +kernel
theorem bp_20 : (Int8.ofInt 20).toInt32 = nI 20 := by decide +kernel
theorem bp_31 : (Int8.ofInt 31).toInt32 = nI 31 := by decide +kernel
theorem bp_32 : (Int8.ofInt 32).toInt32 = nI 32 := by decide +kernel
theorem bp_36 : (Int8.ofInt 36).toInt32 = nI 36 := by decide +kernel
theorem bp_40 : (Int8.ofInt 40).toInt32 = nI 40 := by decide +kernel
theorem bp_41 : (Int8.ofInt 41).toInt32 = nI 41 := by decide +kernel
theorem bp_42 : (Int8.ofInt 42).toInt32 = nI 42 := by decide +kernel
theorem bp_43 : (Int8.ofInt 43).toInt32 = nI 43 := by decide +kernel
theorem bp_45 : (Int8.ofInt 45).toInt32 = nI 45 := by decide +kernel
theorem bp_48 : (Int8.ofInt 48).toInt32 = nI 48 := by decide +kernel
theorem bp_57 : (Int8.ofInt 57).toInt32 = nI 57 := by decide +kernel
theorem bp_59 : (Int8.ofInt 59).toInt32 = nI 59 := by decide +kernel
theorem bp_63 : (Int8.ofInt 63).toInt32 = nI 63 := by decide +kernel
theorem bp_64 : (Int8.ofInt 64).toInt32 = nI 64 := by decide +kernel
theorem bp_67 : (Int8.ofInt 67).toInt32 = nI 67 := by decide +kernel
theorem bp_70 : (Int8.ofInt 70).toInt32 = nI 70 := by decide +kernel
theorem bp_80 : (Int8.ofInt 80).toInt32 = nI 80 := by decide +kernel
theorem bp_83 : (Int8.ofInt 83).toInt32 = nI 83 := by decide +kernel
theorem bp_94 : (Int8.ofInt 94).toInt32 = nI 94 := by decide +kernel
theorem bp_96 : (Int8.ofInt 96).toInt32 = nI 96 := by decide +kernel
theorem bp_97 : (Int8.ofInt 97).toInt32 = nI 97 := by decide +kernel
theorem bp_99 : (Int8.ofInt 99).toInt32 = nI 99 := by decide +kernel
theorem bp_100 : (Int8.ofInt 100).toInt32 = nI 100 := by decide +kernel
theorem bp_102 : (Int8.ofInt 102).toInt32 = nI 102 := by decide +kernel
theorem bp_110 : (Int8.ofInt 110).toInt32 = nI 110 := by decide +kernel
theorem sp_128 : (Int16.ofInt 128).toInt32 = nI 128 := by decide +kernel
theorem sp_255 : (Int16.ofInt 255).toInt32 = nI 255 := by decide +kernel
theorem sp_432 : (Int16.ofInt 432).toInt32 = nI 432 := by decide +kernel
theorem sp_480 : (Int16.ofInt 480).toInt32 = nI 480 := by decide +kernel
theorem sp_2880 : (Int16.ofInt 2880).toInt32 = nI 2880 := by decide +kernel
def shF : List SH := [(5, [3, 6, 13, 25, 29, 34, 37, 0, 0, 40, 41, 0, 42, 43]), (0, [4, 5]), (100, [6]), (100, [36]), (4, [7, 8, 9, 10, 11, 12, 0, 0]), (100, [80]), (100, [80]), (100, [80]), (100, [80]), (100, [80]), (100, [4]), (2, [14, 17, 24, 0, 0, 0, 0, 0, 0]), (0, [15, 16]), (100, [6]), (100, [36]), (4, [18, 19, 20, 21, 22, 23, 0, 0]), (100, [80]), (100, [80]), (100, [80]), (100, [80]), (100, [80]), (100, [4]), (100, [100]), (1, [26, 27, 28, 0]), (100, [10]), (100, [10]), (100, [10]), (3, [6, 3, 30, 31, 32, 33]), (101, [80]), (101, [80]), (101, [80]), (101, [80]), (0, [35, 36]), (100, [6]), (100, [36]), (0, [38, 39]), (100, [6]), (100, [36]), (100, [6]), (101, [6]), (101, [6]), (101, [6]), (6, [0, 45, 0, 0, 0, 0, 0, 0, 0, 46, 47, 48, 49, 50, 0, 51, 52, 53, 54, 55, 56, 57, 58, 0, 59, 60, 61, 62, 0, 63, 0, 64, 0, 0, 0, 65, 66, 67, 68, 69]), (100, [100]), (100, [4]), (100, [80]), (100, [80]), (100, [80]), (100, [80]), (100, [4]), (100, [80]), (100, [80]), (100, [80]), (100, [80]), (100, [48]), (100, [48]), (100, [480]), (100, [96]), (102, [2]), (100, [6]), (101, [6]), (100, [32]), (100, [128]), (101, [80]), (101, [480]), (101, [2880]), (100, [4]), (100, [4])]
