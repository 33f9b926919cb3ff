/-! THE STEP, as both sides have it: forces. c: cells, mo: moods, pl: pulls by how far. -/
def s_far (w x y : Int32) : Int32 := s_abs (s_col w y - s_col w x) + s_abs (s_row w y - s_row w x)
/-- how strongly the pair draws (0: not at all) -/
def s_str (w : Int32) (c mo pl : Nat → Int32) (p q : Nat) : Int32 := if mo p = 0 then 0 else if mo q = 0 then 0 else if s_far w (c p) (c q) ≤ 4 then (if mo p = mo q then -(pl (s_far w (c p) (c q)).toInt.toNat) else pl (s_far w (c p) (c q)).toInt.toNat) else 0
def s_pe (w : Int32) (c mo pl : Nat → Int32) (p q : Nat) : Int32 := s_str w c mo pl p q * s_cmp (s_col w (c q) - s_col w (c p)) 0
def s_ps (w : Int32) (c mo pl : Nat → Int32) (p q : Nat) : Int32 := s_str w c mo pl p q * s_cmp (s_row w (c q) - s_row w (c p)) 0
/-- what the pair (p, q) adds to j -/
def s_K (e : Nat → Nat → Int32) (p q j : Nat) : Int32 := if j = p then e p q else if j = q then -(e p q) else 0
/-- f q + f (q + 1) + .., k of them -/
def s_sf (f : Nat → Int32) : Nat → Nat → Int32
  | 0, _ => 0
  | k + 1, q => f q + s_sf f k (q + 1)
def s_acc (g : qM) (A B : Nat → Int32) : qM := fun a j => if a = 31 then g 31 j + A j else if a = 32 then g 32 j + B j else g a j
/-- columns and rows of the first i, their sums 0 -/
def s_W1 (w : Int32) (c : Nat → Int32) (i : Nat) (g : qM) : qM := fun a j => if a = 29 then (if j < i then s_col w (c j) else g 29 j) else if a = 30 then (if j < i then s_row w (c j) else g 30 j) else if a = 31 then (if j < i then 0 else g 31 j) else if a = 32 then (if j < i then 0 else g 32 j) else g a j
/-- ways of the first i -/
def s_W4 (f : Nat → Int32) (i : Nat) (g : qM) : qM := fun a j => if a = 33 then (if j < i then f j else g 33 j) else g a j
def s_way2 (s : Int32) : Int32 := if s = 0 then 4 else if s ≤ 0 then 0 else 2
def s_way (e s : Int32) : Int32 := if e = 0 then s_way2 s else if s_abs e < s_abs s then s_way2 s else if e ≤ 0 then 3 else 1
theorem s_acc_o {g : qM} {A B : Nat → Int32} {a j : Nat} (h1 : a ≠ 31) (h2 : a ≠ 32) : s_acc g A B a j = g a j := by
  unfold s_acc
  rw [if_neg h1, if_neg h2]
theorem s_acc_0 (g : qM) : s_acc g (fun _ => 0) (fun _ => 0) = g := by
  funext a j
  unfold s_acc
  split
  · rename_i h
    rw [h, Int32.add_zero]
  · split
    · rename_i h
      rw [h, Int32.add_zero]
    · rfl
theorem s_acc_acc (g : qM) (A B C D : Nat → Int32) : s_acc (s_acc g A B) C D = s_acc g (fun j => A j + C j) (fun j => B j + D j) := by
  funext a j
  unfold s_acc
  split
  · rw [if_pos rfl, Int32.add_assoc]
  · split
    · rw [if_neg (by decide), if_pos rfl, Int32.add_assoc]
    · rfl
theorem q_up_eq (g : qM) (a j : Nat) (x : Int32) (b i : Nat) : q_up g a j x b i = if b = a ∧ i = j then x else g b i := by
  unfold q_up
  by_cases h1 : b = a
  · by_cases h2 : i = j
    · rw [if_pos ⟨h1, h2⟩, h1, h2, Nat.beq_refl, Nat.beq_refl]
      rfl
    · rw [if_neg (fun q => h2 q.2)]
      cases e : Nat.beq i j with
      | true => exact absurd (Nat.eq_of_beq_eq_true e) h2
      | false => rw [Bool.and_false]
  · rw [if_neg (fun q => h1 q.1)]
    cases e : Nat.beq b a with
    | true => exact absurd (Nat.eq_of_beq_eq_true e) h1
    | false => rw [Bool.false_and]
theorem s_W1_s (w : Int32) (c : Nat → Int32) (i : Nat) (g : qM) : q_up (q_up (q_up (q_up (s_W1 w c i g) 29 i (s_col w (c i))) 30 i (s_row w (c i))) 31 i 0) 32 i 0 = s_W1 w c (i + 1) g := by
  funext a j
  simp only [q_up_eq, s_W1]
  by_cases e : j = i
  · subst e
    by_cases h1 : a = 32
    · simp [h1]
    · by_cases h2 : a = 31
      · simp [h2]
      · by_cases h3 : a = 30
        · simp [h3]
        · by_cases h4 : a = 29
          · simp [h4]
          · simp [h1, h2, h3, h4]
  · have q : (j < i + 1) = (j < i) := propext ⟨fun h => by omega, fun h => by omega⟩
    simp only [e, and_false, if_false, q]
theorem s_W1_0 (w : Int32) (c : Nat → Int32) (g : qM) : s_W1 w c 0 g = g := by
  funext a j
  simp only [s_W1, Nat.not_lt_zero, if_false]
  by_cases h1 : a = 32
  · simp [h1]
  · by_cases h2 : a = 31
    · simp [h2]
    · by_cases h3 : a = 30
      · simp [h3]
      · by_cases h4 : a = 29
        · simp [h4]
        · simp [h1, h2, h3, h4]
theorem s_W4_s (f : Nat → Int32) (i : Nat) (g : qM) : q_up (s_W4 f i g) 33 i (f i) = s_W4 f (i + 1) g := by
  funext a j
  simp only [q_up_eq, s_W4]
  by_cases h : a = 33
  · by_cases e : j = i
    · subst e
      simp [h]
    · have q : (j < i + 1) = (j < i) := propext ⟨fun h => by omega, fun h => by omega⟩
      simp only [h, e, and_false, if_false, q]
  · simp [h]
theorem s_W4_0 (f : Nat → Int32) (g : qM) : s_W4 f 0 g = g := by
  funext a j
  simp only [s_W4, Nat.not_lt_zero, if_false]
  split
  · rename_i h
    rw [h]
  · rfl
theorem s_pair (g : qM) (p q : Nat) (e f : Int32) (h : p ≠ q) : q_up (q_up (q_up (q_up g 31 p (g 31 p + e)) 31 q ((q_up g 31 p (g 31 p + e)) 31 q - e)) 32 p (g 32 p + f)) 32 q ((q_up (q_up (q_up g 31 p (g 31 p + e)) 31 q ((q_up g 31 p (g 31 p + e)) 31 q - e)) 32 p (g 32 p + f)) 32 q - f) = s_acc g (fun j => if j = p then e else if j = q then -e else 0) (fun j => if j = p then f else if j = q then -f else 0) := by
  have h' : ¬ q = p := fun x => h x.symm
  funext a j
  simp only [q_up_eq, s_acc]
  by_cases h1 : a = 31
  · by_cases h2 : j = p
    · simp [h1, h2, h]
    · by_cases h3 : j = q
      · simp [h1, h3, h', Int32.sub_eq_add_neg]
      · simp [h1, h2, h3]
  · by_cases h4 : a = 32
    · by_cases h2 : j = p
      · simp [h4, h2, h]
      · by_cases h3 : j = q
        · simp [h4, h3, h', Int32.sub_eq_add_neg]
        · simp [h4, h2, h3]
    · simp [h1, h4]
theorem s_acc_n (g : qM) (p q : Nat) : s_acc g (fun j => if j = p then (0 : Int32) else if j = q then -0 else 0) (fun j => if j = p then (0 : Int32) else if j = q then -0 else 0) = g := by
  have e : (fun j => if j = p then (0 : Int32) else if j = q then -0 else 0) = fun _ => 0 := by
    funext j
    split
    · rfl
    · split <;> rfl
  rw [e, s_acc_0]
