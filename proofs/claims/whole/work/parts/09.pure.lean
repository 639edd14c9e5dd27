/-! plain memory facts -/
theorem ite_step {α : Type} (f g : Nat → α) (i j : Nat) : (if j = i then f i else if j < i then f j else g j) = if j < i + 1 then f j else g j := by
  by_cases h : j = i
  · subst h; rw [if_pos rfl, if_pos (Nat.lt_succ_self j)]
  · rw [if_neg h]
    by_cases h2 : j < i
    · rw [if_pos h2, if_pos (by omega)]
    · rw [if_neg h2, if_neg (by omega)]
theorem ite_lt0 {α : Type} (f g : Nat → α) : (fun j => if j < 0 then f j else g j) = g := funext fun j => if_neg (Nat.not_lt_zero j)
/-- n places of the array e put into the array c -/
def cpA (I : MI) (c e n : Nat) : MI := fun c' => if c' = c then (fun j => if j < n then I e j else I c j) else I c'
theorem cpA_0 (I : MI) (c e : Nat) : cpA I c e 0 = I := by
  funext c'
  unfold cpA
  by_cases h : c' = c
  · subst h; rw [if_pos rfl]; exact ite_lt0 _ _
  · rw [if_neg h]
theorem cpA_s (I : MI) {c e : Nat} (n : Nat) (h : e ≠ c) : u2 (cpA I c e n) c n ((cpA I c e n) e n) = cpA I c e (n + 1) := by
  funext c'
  unfold u2
  by_cases hc : c' = c
  · subst hc
    rw [if_pos rfl]
    funext j
    unfold upd cpA
    rw [if_pos rfl, if_pos rfl, if_neg h]
    exact ite_step (I e) (I c') n j
  · rw [if_neg hc]
    unfold cpA
    rw [if_neg hc, if_neg hc]
def flA (I : MI) (c n : Nat) (v : Int32) : MI := fun c' => if c' = c then (fun j => if j < n then v else I c j) else I c'
theorem flA_0 (I : MI) (c : Nat) (v : Int32) : flA I c 0 v = I := by
  funext c'
  unfold flA
  by_cases h : c' = c
  · subst h; rw [if_pos rfl]; exact ite_lt0 (fun _ => v) _
  · rw [if_neg h]
theorem flA_s (I : MI) (c n : Nat) (v : Int32) : u2 (flA I c n v) c n v = flA I c (n + 1) v := by
  funext c'
  unfold u2
  by_cases hc : c' = c
  · subst hc
    rw [if_pos rfl]
    funext j
    unfold upd flA
    rw [if_pos rfl, if_pos rfl]
    exact ite_step (fun _ => v) (I c') n j
  · rw [if_neg hc]
    unfold flA
    rw [if_neg hc, if_neg hc]
/-- the three rows of the past, moved by one place -/
def pastM (I : MI) (n : Nat) : MI := fun c => if c = 24 ∨ c = 25 ∨ c = 26 then (fun j => if j < n then I c (j + 1) else I c j) else I c
theorem pastM_0 (I : MI) : pastM I 0 = I := by
  funext c
  unfold pastM
  by_cases h : c = 24 ∨ c = 25 ∨ c = 26
  · rw [if_pos h]; exact ite_lt0 _ _
  · rw [if_neg h]
theorem pastM_rd (I : MI) (n c : Nat) : pastM I n c (n + 1) = I c (n + 1) := by
  unfold pastM
  by_cases h : c = 24 ∨ c = 25 ∨ c = 26
  · rw [if_pos h, if_neg (by omega)]
  · rw [if_neg h]
theorem pastM_s (I : MI) (n : Nat) (a b c : Int32) (ha : a = I 24 (n + 1)) (hb : b = I 25 (n + 1)) (hc : c = I 26 (n + 1)) : u2 (u2 (u2 (pastM I n) 24 n a) 25 n b) 26 n c = pastM I (n + 1) := by
  subst ha; subst hb; subst hc
  funext c' j
  by_cases h4 : c' = 24
  · subst h4; exact ite_step (fun j => I 24 (j + 1)) (I 24) n j
  by_cases h5 : c' = 25
  · subst h5; exact ite_step (fun j => I 25 (j + 1)) (I 25) n j
  by_cases h6 : c' = 26
  · subst h6; exact ite_step (fun j => I 26 (j + 1)) (I 26) n j
  · rw [u2_off h6, u2_off h5, u2_off h4]
    unfold pastM
    rw [if_neg (by omega), if_neg (by omega)]
/-- the five rows of the tape (cells 16 .. 20) put into the desk's (5 .. 9) -/
def cp5 (I : MI) (n : Nat) : MI := fun c => if 5 ≤ c ∧ c ≤ 9 then (fun j => if j < n then I (c + 11) j else I c j) else I c
theorem cp5_0 (I : MI) : cp5 I 0 = I := by
  funext c
  unfold cp5
  by_cases h : 5 ≤ c ∧ c ≤ 9
  · rw [if_pos h]; exact ite_lt0 _ _
  · rw [if_neg h]
theorem cp5_s (I : MI) (n : Nat) : u2 (u2 (u2 (u2 (u2 (cp5 I n) 5 n (I 16 n)) 6 n (I 17 n)) 7 n (I 18 n)) 8 n (I 19 n)) 9 n (I 20 n) = cp5 I (n + 1) := by
  funext c j
  by_cases h5 : c = 5
  · subst h5; exact ite_step (I 16) (I 5) n j
  by_cases h6 : c = 6
  · subst h6; exact ite_step (I 17) (I 6) n j
  by_cases h7 : c = 7
  · subst h7; exact ite_step (I 18) (I 7) n j
  by_cases h8 : c = 8
  · subst h8; exact ite_step (I 19) (I 8) n j
  by_cases h9 : c = 9
  · subst h9; exact ite_step (I 20) (I 9) n j
  · rw [u2_off h9, u2_off h8, u2_off h7, u2_off h6, u2_off h5]
    unfold cp5
    rw [if_neg (by omega), if_neg (by omega)]
/-- powers -/
def pw (x : Int64) : Nat → Int64
  | 0 => 1
  | n + 1 => pw x n * x
