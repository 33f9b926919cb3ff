/-! THE REFERENCE's forces. -/
theorem s_cmpl {x y : Int64} : lg_cmp x y < 0 ↔ x < y := by
  unfold lg_cmp
  constructor
  · intro h
    split at h
    · exact absurd h (by decide)
    · split at h
      · exact absurd h (by decide)
      · rename_i h1 h2
        have h1 : ¬ y < x := h1
        rw [Int64.lt_iff_toInt_lt] at h1 ⊢
        have h3 : x.toInt ≠ y.toInt := fun z => h2 (Int64.toInt_inj.mp z)
        omega
  · intro h
    have h1 : ¬ x > y := fun z => by
      have z : y < x := z
      rw [Int64.lt_iff_toInt_lt] at h z
      omega
    have h2 : ¬ x = y := fun z => by
      rw [z, Int64.lt_iff_toInt_lt] at h
      omega
    rw [if_neg h1, if_neg h2]
    decide
theorem s_cmpg {x y : Int64} : 0 < lg_cmp x y ↔ y < x := by
  unfold lg_cmp
  constructor
  · intro h
    split at h
    · rename_i h1
      exact h1
    · split at h
      · exact absurd h (by decide)
      · exact absurd h (by decide)
  · intro h
    rw [if_pos (show x > y from h)]
    decide
theorem s_in_iff {v lo hi : Int64} : ¬ s_in v lo hi = 0 ↔ lo.toInt ≤ v.toInt ∧ v.toInt ≤ hi.toInt := by
  unfold s_in
  simp only [s_cmpl, s_cmpg, Int64.lt_iff_toInt_lt]
  constructor
  · intro h
    split at h
    · exact absurd rfl h
    · split at h
      · exact absurd rfl h
      · omega
  · intro h
    rw [if_neg (by omega), if_neg (by omega)]
    decide
theorem s_in_01 (v lo hi : Int64) : s_in v lo hi = 0 ∨ s_in v lo hi = 1 := by
  unfold s_in
  split
  · exact Or.inl rfl
  · split
    · exact Or.inl rfl
    · exact Or.inr rfl
theorem s_in_i {x : Int32} {lo hi : Int64} : ¬ s_in x.toInt64 lo hi = 0 ↔ lo.toInt ≤ x.toInt ∧ x.toInt ≤ hi.toInt := by
  rw [s_in_iff, Int32.toInt_toInt64]
theorem s_add {x y : Int32} (h1 : -2147483648 ≤ x.toInt + y.toInt) (h2 : x.toInt + y.toInt ≤ 2147483647) : (x + y).toInt = x.toInt + y.toInt := by
  rw [Int32.toInt_add]
  exact Int.bmod_eq_of_le (by omega) (by omega)
theorem s_sub {x y : Int32} (h1 : -2147483648 ≤ x.toInt - y.toInt) (h2 : x.toInt - y.toInt ≤ 2147483647) : (x - y).toInt = x.toInt - y.toInt := by
  rw [Int32.toInt_sub]
  exact Int.bmod_eq_of_le (by omega) (by omega)
theorem s_pli {d : Int32} (h1 : 1 ≤ d.toInt) (h2 : d.toInt ≤ 4) : ((21 : Int32) + d - 1).toInt = 20 + d.toInt := by
  have e1 : (21 : Int32).toInt = 21 := rfl
  have e2 : (1 : Int32).toInt = 1 := rfl
  have e3 : ((21 : Int32) + d).toInt = 21 + d.toInt := by rw [s_add (by omega) (by omega), e1]
  rw [s_sub (by omega) (by omega), e3, e2]
  omega
/-- what q adds to the force on p, as the reference has it; pl: the row of pulls, place 20 + how far -/
def s_rt (w : Int32) (c mo pl : Nat → Int32) (so : Int32) (p q : Nat) : Int32 := if q = p then 0 else if mo p = 0 then 0 else if mo q = 0 then 0 else if s_in (s_far w (c q) (c p)).toInt64 1 4 = 0 then 0 else pl ((21 : Int32) + s_far w (c q) (c p) - 1).toInt.toNat * (if mo q = mo p then -(if so = 0 then s_sgn (s_col w (c q) - s_col w (c p)) else s_sgn (s_row w (c q) - s_row w (c p))) else (if so = 0 then s_sgn (s_col w (c q) - s_col w (c p)) else s_sgn (s_row w (c q) - s_row w (c p))))
abbrev i_none : Int32 := Int8.toInt32 (Int8.ofInt (-4))
/-- the last of those in the cell x -/
def s_wl (c : Nat → Int32) (x : Int32) : Nat → Nat → Int32 → Int32
  | 0, _, f => f
  | k + 1, i, f => s_wl c x k (i + 1) (if c i = x then Int32.ofNat i else f)
def s_to (w h x way : Int32) : Int32 := if way = 0 then (if x < w then i_none else x - w) else if way = 1 then (if w ≤ s_col w x + 1 then i_none else x + 1) else if way = 2 then (if w * h ≤ x + w then i_none else x + w) else if way = 3 then (if s_col w x ≤ 0 then i_none else x - 1) else i_none
def s_op (wl x : Int32) : Int32 := if x = i_none then 0 else if s_bit wl x = 0 then 1 else 0
def s_fd (x : Int32) : Int32 := if x = 0 then 0 else x - x / 3 * 3 + 1
def s_rf (w : Int32) (c mo pl : Nat → Int32) (n : Nat) (so : Int32) (p : Nat) : Int32 := 0 + s_sf (s_rt w c mo pl so p) n 0
def s_rway2 (s : Int32) : Int32 := if s ≤ 0 then (if 0 ≤ s then 4 else 0) else 2
def s_rway (e s : Int32) : Int32 := if e = 0 then s_rway2 s else if s_abs e < s_abs s then s_rway2 s else if e ≤ 0 then 3 else 1
def s_rw (w : Int32) (c mo st pl : Nat → Int32) (n p : Nat) : Int32 := s_rway (if st p = 1 then 0 else s_rf w c mo pl n 0 p) (if st p = 1 then 0 else s_rf w c mo pl n 1 p)
theorem sg_rf_1 (big : Nat → List Value → qM → qW → qR) (n0 : Nat) (G : qM) (U : qW) (v0 : Int32) (v1 : Int32) : qm_run pm_m big m_185 (n0 + 3) 0 [(0, .ref 70), (1, .int v0), (2, .int v1)] [] G U = qm_run pm_m big m_185 n0 5 [(0, .ref 70), (1, .int v0), (2, .int v1)] [.int v0, .ref 75] G U := rfl
theorem sg_rf_2 (big : Nat → List Value → qM → qW → qR) (n0 : Nat) (G : qM) (U : qW) (v0 : Int32) (v1 : Int32) (v2 : Int32) : qm_run pm_m big m_185 (n0 + 2) 6 [(0, .ref 70), (1, .int v0), (2, .int v1)] [.int v2] G U = qm_run pm_m big m_185 n0 10 [(0, .ref 70), (1, .int v0), (2, .int v1)] [.int (G 70 2), .int v2] G U := rfl
theorem sg_rf_3 (big : Nat → List Value → qM → qW → qR) (n0 : Nat) (G : qM) (U : qW) (v0 : Int32) (v1 : Int32) (v2 : Int32) : qm_run pm_m big m_185 (n0 + 3) 11 [(0, .ref 70), (1, .int v0), (2, .int v1)] [.int v2] G U = qm_run pm_m big m_185 n0 16 [(0, .ref 70), (1, .int v0), (2, .int v1)] [.int v1, .ref 75, .int v2] G U := rfl
theorem sg_rf_4 (big : Nat → List Value → qM → qW → qR) (n0 : Nat) (G : qM) (U : qW) (v0 : Int32) (v1 : Int32) (v2 : Int32) (v3 : Int32) : qm_run pm_m big m_185 (n0 + 2) 17 [(0, .ref 70), (1, .int v0), (2, .int v1)] [.int v3, .int v2] G U = qm_run pm_m big m_185 n0 21 [(0, .ref 70), (1, .int v0), (2, .int v1)] [.int (G 70 2), .int v3, .int v2] G U := rfl
theorem sg_rf_5 (big : Nat → List Value → qM → qW → qR) (n0 : Nat) (G : qM) (U : qW) (v0 : Int32) (v1 : Int32) (v2 : Int32) (v3 : Int32) : qm_run pm_m big m_185 (n0 + 1) 22 [(0, .ref 70), (1, .int v0), (2, .int v1)] [.int v3, .int v2] G U = qm_run pm_m big m_185 n0 23 [(0, .ref 70), (1, .int v0), (2, .int v1)] [.int (v2 - v3)] G U := rfl
theorem sg_rf_6 (big : Nat → List Value → qM → qW → qR) (n0 : Nat) (G : qM) (U : qW) (v0 : Int32) (v1 : Int32) (v2 : Int32) : qm_run pm_m big m_185 (n0 + 3) 26 [(0, .ref 70), (1, .int v0), (2, .int v1)] [.int v2] G U = qm_run pm_m big m_185 n0 31 [(0, .ref 70), (1, .int v0), (2, .int v1)] [.int v0, .ref 75, .int v2] G U := rfl
theorem sg_rf_7 (big : Nat → List Value → qM → qW → qR) (n0 : Nat) (G : qM) (U : qW) (v0 : Int32) (v1 : Int32) (v2 : Int32) (v3 : Int32) : qm_run pm_m big m_185 (n0 + 2) 32 [(0, .ref 70), (1, .int v0), (2, .int v1)] [.int v3, .int v2] G U = qm_run pm_m big m_185 n0 36 [(0, .ref 70), (1, .int v0), (2, .int v1)] [.int (G 70 2), .int v3, .int v2] G U := rfl
theorem sg_rf_8 (big : Nat → List Value → qM → qW → qR) (n0 : Nat) (G : qM) (U : qW) (v0 : Int32) (v1 : Int32) (v2 : Int32) (v3 : Int32) : qm_run pm_m big m_185 (n0 + 3) 37 [(0, .ref 70), (1, .int v0), (2, .int v1)] [.int v3, .int v2] G U = qm_run pm_m big m_185 n0 42 [(0, .ref 70), (1, .int v0), (2, .int v1)] [.int v1, .ref 75, .int v3, .int v2] G U := rfl
theorem sg_rf_9 (big : Nat → List Value → qM → qW → qR) (n0 : Nat) (G : qM) (U : qW) (v0 : Int32) (v1 : Int32) (v2 : Int32) (v3 : Int32) (v4 : Int32) : qm_run pm_m big m_185 (n0 + 2) 43 [(0, .ref 70), (1, .int v0), (2, .int v1)] [.int v4, .int v3, .int v2] G U = qm_run pm_m big m_185 n0 47 [(0, .ref 70), (1, .int v0), (2, .int v1)] [.int (G 70 2), .int v4, .int v3, .int v2] G U := rfl
theorem sg_rf_10 (big : Nat → List Value → qM → qW → qR) (n0 : Nat) (G : qM) (U : qW) (v0 : Int32) (v1 : Int32) (v2 : Int32) (v3 : Int32) (v4 : Int32) : qm_run pm_m big m_185 (n0 + 1) 48 [(0, .ref 70), (1, .int v0), (2, .int v1)] [.int v4, .int v3, .int v2] G U = qm_run pm_m big m_185 n0 49 [(0, .ref 70), (1, .int v0), (2, .int v1)] [.int (v3 - v4), .int v2] G U := rfl
theorem sg_rf_11 (big : Nat → List Value → qM → qW → qR) (n0 : Nat) (G : qM) (U : qW) (v0 : Int32) (v1 : Int32) (v2 : Int32) : qm_run pm_m big m_173 (n0 + 3) 5 [(0, .ref 70), (1, .int v0), (2, .int v1), (3, .int v2)] [] G U = qm_run pm_m big m_173 n0 10 [(0, .ref 70), (1, .int v0), (2, .int v1), (3, .int v2)] [.int (G 70 27), .int v2] G U := rfl
theorem sg_rf_12 (big : Nat → List Value → qM → qW → qR) (n0 : Nat) (G : qM) (U : qW) (v0 : Int32) (v1 : Int32) (v2 : Int32) : qm_run pm_m big m_173 (n0 + 3) 13 [(0, .ref 70), (1, .int v0), (2, .int v1), (3, .int v2)] [] G U = qm_run pm_m big m_173 n0 18 [(0, .ref 70), (1, .int v0), (2, .int v1), (3, .int v2)] [.int v2, .ref 75] G U := rfl
theorem sg_rf_13 (big : Nat → List Value → qM → qW → qR) (n0 : Nat) (G : qM) (U : qW) (v0 : Int32) (v1 : Int32) (v2 : Int32) (v3 : Int32) : qm_run pm_m big m_173 (n0 + 1) 19 [(0, .ref 70), (1, .int v0), (2, .int v1), (3, .int v2)] [.int v3] G U = qm_run pm_m big m_173 n0 20 [(0, .ref 70), (1, .int v0), (2, .int v1), (3, .int v2)] [.int v0, .int v3] G U := rfl
theorem sg_rf_14 (big : Nat → List Value → qM → qW → qR) (n0 : Nat) (G : qM) (U : qW) (v0 : Int32) (v1 : Int32) (v2 : Int32) : qm_run pm_m big m_173 (n0 + 5) 23 [(0, .ref 70), (1, .int v0), (2, .int v1), (3, .int v2)] [] G U = qm_run pm_m big m_173 n0 5 [(0, .ref 70), (1, .int v0), (2, .int v2), (3, .int (v2 + (1 : Int32)))] [] G U := rfl
theorem sg_rf_15 (big : Nat → List Value → qM → qW → qR) (n0 : Nat) (G : qM) (U : qW) (v0 : Int32) (v1 : Int32) (v2 : Int32) : qm_run pm_m big m_173 (n0 + 4) 27 [(0, .ref 70), (1, .int v0), (2, .int v1), (3, .int v2)] [] G U = qm_run pm_m big m_173 n0 5 [(0, .ref 70), (1, .int v0), (2, .int v1), (3, .int (v2 + (1 : Int32)))] [] G U := rfl
theorem sg_rf_16 (big : Nat → List Value → qM → qW → qR) (n0 : Nat) (G : qM) (U : qW) (v0 : Int32) : qm_run pm_m big m_173 (n0 + 4) 0 [(0, .ref 70), (1, .int v0)] [] G U = qm_run pm_m big m_173 n0 5 [(0, .ref 70), (1, .int v0), (2, .int (Int8.toInt32 (Int8.ofInt (-4)))), (3, .int (0 : Int32))] [] G U := rfl
theorem sg_rf_17 (big : Nat → List Value → qM → qW → qR) (n0 : Nat) (G : qM) (U : qW) (v0 : Int32) : qm_run pm_m big m_192 (n0 + 5) 0 [(0, .ref 70), (1, .int v0), (2, .int (0 : Int32))] [] G U = qm_run pm_m big m_192 n0 37 [(0, .ref 70), (1, .int v0), (2, .int (0 : Int32))] [.int (G 70 2), .int v0] G U := rfl
theorem sg_rf_18 (big : Nat → List Value → qM → qW → qR) (n0 : Nat) (G : qM) (U : qW) (v0 : Int32) : qm_run pm_m big m_192 (n0 + 5) 0 [(0, .ref 70), (1, .int v0), (2, .int (1 : Int32))] [] G U = qm_run pm_m big m_192 n0 57 [(0, .ref 70), (1, .int v0), (2, .int (1 : Int32))] [.int (G 70 2), .int v0] G U := rfl
theorem sg_rf_19 (big : Nat → List Value → qM → qW → qR) (n0 : Nat) (G : qM) (U : qW) (v0 : Int32) (v1 : Int32) : qm_run pm_m big m_192 (n0 + 4) 58 [(0, .ref 70), (1, .int v0), (2, .int (1 : Int32))] [.int v1] G U = qm_run pm_m big m_192 n0 64 [(0, .ref 70), (1, .int v0), (2, .int (1 : Int32))] [.int (G 70 2), .int (v1 + (1 : Int32))] G U := rfl
theorem sg_rf_20 (big : Nat → List Value → qM → qW → qR) (n0 : Nat) (G : qM) (U : qW) (v0 : Int32) : qm_run pm_m big m_192 (n0 + 11) 0 [(0, .ref 70), (1, .int v0), (2, .int (2 : Int32))] [] G U = qm_run pm_m big m_192 n0 91 [(0, .ref 70), (1, .int v0), (2, .int (2 : Int32))] [.int ((G 70 2) * (G 70 3)), .int (v0 + (G 70 2))] G U := rfl
theorem sg_rf_21 (big : Nat → List Value → qM → qW → qR) (n0 : Nat) (G : qM) (U : qW) (v0 : Int32) : qm_run pm_m big m_192 (n0 + 5) 0 [(0, .ref 70), (1, .int v0), (2, .int (3 : Int32))] [] G U = qm_run pm_m big m_192 n0 111 [(0, .ref 70), (1, .int v0), (2, .int (3 : Int32))] [.int (G 70 2), .int v0] G U := rfl
theorem sg_rf_22 (big : Nat → List Value → qM → qW → qR) (n0 : Nat) (G : qM) (U : qW) (v0 : Int32) : qm_run pm_m big m_177 (n0 + 2) 0 [(0, .ref 70), (1, .int v0)] [] G U = qm_run pm_m big m_177 n0 3 [(0, .ref 70), (1, .int v0)] [.int (Int8.toInt32 (Int8.ofInt (-4))), .int v0] G U := rfl
theorem sg_rf_23 (big : Nat → List Value → qM → qW → qR) (n0 : Nat) (G : qM) (U : qW) (v0 : Int32) : qm_run pm_m big m_177 (n0 + 8) 6 [(0, .ref 70), (1, .int v0)] [] G U = qm_run pm_m big m_177 n0 17 [(0, .ref 70), (1, .int v0)] [.int (((G 71 20) >>> (v0 &&& 31)) &&& (1 : Int32))] G U := rfl
theorem sg_rf_24 (big : Nat → List Value → qM → qW → qR) (n0 : Nat) (G : qM) (U : qW) (v0 : Int32) : qm_run pm_m big m_194 (n0 + 1) 0 [(0, .int v0)] [] G U = qm_run pm_m big m_194 n0 1 [(0, .int v0)] [.int v0] G U := rfl
theorem sg_rf_25 (big : Nat → List Value → qM → qW → qR) (n0 : Nat) (G : qM) (U : qW) (v0 : Int32) (v1 : Int32) (v2 : Int32) : qm_run pm_m big m_184 (n0 + 3) 5 [(0, .ref 70), (1, .int v0), (2, .int (0 : Int32)), (3, .int v1), (4, .int v2)] [] G U = qm_run pm_m big m_184 n0 11 [(0, .ref 70), (1, .int v0), (2, .int (0 : Int32)), (3, .int v1), (4, .int v2)] [.int (G 70 27), .int v2] G U := rfl
theorem sg_rf_26 (big : Nat → List Value → qM → qW → qR) (n0 : Nat) (G : qM) (U : qW) (v0 : Int32) (v1 : Int32) (v2 : Int32) : qm_run pm_m big m_184 (n0 + 2) 14 [(0, .ref 70), (1, .int v0), (2, .int (0 : Int32)), (3, .int v1), (4, .int v2)] [] G U = qm_run pm_m big m_184 n0 17 [(0, .ref 70), (1, .int v0), (2, .int (0 : Int32)), (3, .int v1), (4, .int v2)] [.int v0, .int v2] G U := rfl
theorem sg_rf_27 (big : Nat → List Value → qM → qW → qR) (n0 : Nat) (G : qM) (U : qW) (v0 : Int32) (v1 : Int32) (v2 : Int32) : qm_run pm_m big m_184 (n0 + 7) 39 [(0, .ref 70), (1, .int v0), (2, .int (0 : Int32)), (3, .int v1), (4, .int v2)] [] G U = qm_run pm_m big m_184 n0 59 [(0, .ref 70), (1, .int v0), (2, .int (0 : Int32)), (3, .int v1), (4, .int v2), (5, .int (0 : Int32))] [.long (4 : Int64), .long (1 : Int64), .long (0 : Int64)] G U := rfl
theorem sg_rf_28 (big : Nat → List Value → qM → qW → qR) (n0 : Nat) (G : qM) (U : qW) (v0 : Int32) (v1 : Int32) (v2 : Int32) : qm_run pm_m big m_184 (n0 + 3) 62 [(0, .ref 70), (1, .int v0), (2, .int (0 : Int32)), (3, .int v1), (4, .int v2), (5, .int (0 : Int32))] [.int (0 : Int32)] G U = qm_run pm_m big m_184 n0 5 [(0, .ref 70), (1, .int v0), (2, .int (0 : Int32)), (3, .int v1), (4, .int (v2 + (1 : Int32))), (5, .int (0 : Int32))] [] G U := rfl
theorem sg_rf_29 (big : Nat → List Value → qM → qW → qR) (n0 : Nat) (G : qM) (U : qW) (v0 : Int32) (v1 : Int32) (v2 : Int32) : qm_run pm_m big m_184 (n0 + 3) 20 [(0, .ref 70), (1, .int v0), (2, .int (0 : Int32)), (3, .int v1), (4, .int v2)] [] G U = qm_run pm_m big m_184 n0 25 [(0, .ref 70), (1, .int v0), (2, .int (0 : Int32)), (3, .int v1), (4, .int v2)] [.int v0, .ref 76] G U := rfl
theorem sg_rf_30 (big : Nat → List Value → qM → qW → qR) (n0 : Nat) (G : qM) (U : qW) (v0 : Int32) (v1 : Int32) (v2 : Int32) : qm_run pm_m big m_184 (n0 + 3) 29 [(0, .ref 70), (1, .int v0), (2, .int (0 : Int32)), (3, .int v1), (4, .int v2)] [] G U = qm_run pm_m big m_184 n0 35 [(0, .ref 70), (1, .int v0), (2, .int (0 : Int32)), (3, .int v1), (4, .int v2)] [.int v2, .ref 76] G U := rfl
theorem sg_rf_31 (big : Nat → List Value → qM → qW → qR) (n0 : Nat) (G : qM) (U : qW) (v0 : Int32) (v1 : Int32) (v2 : Int32) : qm_run pm_m big m_184 (n0 + 3) 43 [(0, .ref 70), (1, .int v0), (2, .int (0 : Int32)), (3, .int v1), (4, .int v2)] [] G U = qm_run pm_m big m_184 n0 47 [(0, .ref 70), (1, .int v0), (2, .int (0 : Int32)), (3, .int v1), (4, .int v2)] [.int v2, .int v0, .ref 70] G U := rfl
theorem sg_rf_32 (big : Nat → List Value → qM → qW → qR) (n0 : Nat) (G : qM) (U : qW) (v0 : Int32) (v1 : Int32) (v2 : Int32) (v3 : Int32) : qm_run pm_m big m_184 (n0 + 5) 50 [(0, .ref 70), (1, .int v0), (2, .int (0 : Int32)), (3, .int v1), (4, .int v2)] [.int v3] G U = qm_run pm_m big m_184 n0 59 [(0, .ref 70), (1, .int v0), (2, .int (0 : Int32)), (3, .int v1), (4, .int v2), (5, .int v3)] [.long (4 : Int64), .long (1 : Int64), .long (Int32.toInt64 v3)] G U := rfl
theorem sg_rf_33 (big : Nat → List Value → qM → qW → qR) (n0 : Nat) (G : qM) (U : qW) (v0 : Int32) (v1 : Int32) (v2 : Int32) (v3 : Int32) : qm_run pm_m big m_184 (n0 + 2) 168 [(0, .ref 70), (1, .int v0), (2, .int (0 : Int32)), (3, .int v1), (4, .int v2), (5, .int v3)] [] G U = qm_run pm_m big m_184 n0 5 [(0, .ref 70), (1, .int v0), (2, .int (0 : Int32)), (3, .int v1), (4, .int (v2 + (1 : Int32))), (5, .int v3)] [] G U := rfl
theorem sg_rf_34 (big : Nat → List Value → qM → qW → qR) (n0 : Nat) (G : qM) (U : qW) (v0 : Int32) (v1 : Int32) (v2 : Int32) (v3 : Int32) : qm_run pm_m big m_184 (n0 + 5) 65 [(0, .ref 70), (1, .int v0), (2, .int (0 : Int32)), (3, .int v1), (4, .int v2), (5, .int v3)] [] G U = qm_run pm_m big m_184 n0 105 [(0, .ref 70), (1, .int v0), (2, .int (0 : Int32)), (3, .int v1), (4, .int v2), (5, .int v3)] [.int v2, .ref 75] G U := rfl
theorem sg_rf_35 (big : Nat → List Value → qM → qW → qR) (n0 : Nat) (G : qM) (U : qW) (v0 : Int32) (v1 : Int32) (v2 : Int32) (v3 : Int32) (v4 : Int32) : qm_run pm_m big m_184 (n0 + 2) 106 [(0, .ref 70), (1, .int v0), (2, .int (0 : Int32)), (3, .int v1), (4, .int v2), (5, .int v3)] [.int v4] G U = qm_run pm_m big m_184 n0 110 [(0, .ref 70), (1, .int v0), (2, .int (0 : Int32)), (3, .int v1), (4, .int v2), (5, .int v3)] [.int (G 70 2), .int v4] G U := rfl
theorem sg_rf_36 (big : Nat → List Value → qM → qW → qR) (n0 : Nat) (G : qM) (U : qW) (v0 : Int32) (v1 : Int32) (v2 : Int32) (v3 : Int32) (v4 : Int32) : qm_run pm_m big m_184 (n0 + 3) 111 [(0, .ref 70), (1, .int v0), (2, .int (0 : Int32)), (3, .int v1), (4, .int v2), (5, .int v3)] [.int v4] G U = qm_run pm_m big m_184 n0 116 [(0, .ref 70), (1, .int v0), (2, .int (0 : Int32)), (3, .int v1), (4, .int v2), (5, .int v3)] [.int v0, .ref 75, .int v4] G U := rfl
theorem sg_rf_37 (big : Nat → List Value → qM → qW → qR) (n0 : Nat) (G : qM) (U : qW) (v0 : Int32) (v1 : Int32) (v2 : Int32) (v3 : Int32) (v4 : Int32) (v5 : Int32) : qm_run pm_m big m_184 (n0 + 2) 117 [(0, .ref 70), (1, .int v0), (2, .int (0 : Int32)), (3, .int v1), (4, .int v2), (5, .int v3)] [.int v5, .int v4] G U = qm_run pm_m big m_184 n0 121 [(0, .ref 70), (1, .int v0), (2, .int (0 : Int32)), (3, .int v1), (4, .int v2), (5, .int v3)] [.int (G 70 2), .int v5, .int v4] G U := rfl
theorem sg_rf_38 (big : Nat → List Value → qM → qW → qR) (n0 : Nat) (G : qM) (U : qW) (v0 : Int32) (v1 : Int32) (v2 : Int32) (v3 : Int32) (v4 : Int32) (v5 : Int32) : qm_run pm_m big m_184 (n0 + 1) 122 [(0, .ref 70), (1, .int v0), (2, .int (0 : Int32)), (3, .int v1), (4, .int v2), (5, .int v3)] [.int v5, .int v4] G U = qm_run pm_m big m_184 n0 123 [(0, .ref 70), (1, .int v0), (2, .int (0 : Int32)), (3, .int v1), (4, .int v2), (5, .int v3)] [.int (v4 - v5)] G U := rfl
theorem sg_rf_39 (big : Nat → List Value → qM → qW → qR) (n0 : Nat) (G : qM) (U : qW) (v0 : Int32) (v1 : Int32) (v2 : Int32) (v3 : Int32) (v4 : Int32) : qm_run pm_m big m_184 (n0 + 9) 126 [(0, .ref 70), (1, .int v0), (2, .int (0 : Int32)), (3, .int v1), (4, .int v2), (5, .int v3)] [.int v4] G U = qm_run pm_m big m_184 n0 140 [(0, .ref 70), (1, .int v0), (2, .int (0 : Int32)), (3, .int v1), (4, .int v2), (5, .int v3), (6, .int v4)] [.int (((21 : Int32) + v3) - (1 : Int32)), .ref 71, .int v1] G U := rfl
theorem sg_rf_40 (big : Nat → List Value → qM → qW → qR) (n0 : Nat) (G : qM) (U : qW) (v0 : Int32) (v1 : Int32) (v2 : Int32) (v3 : Int32) (v4 : Int32) (v5 : Int32) (v6 : Int32) : qm_run pm_m big m_184 (n0 + 3) 141 [(0, .ref 70), (1, .int v0), (2, .int (0 : Int32)), (3, .int v1), (4, .int v2), (5, .int v3), (6, .int v4)] [.int v6, .int v5] G U = qm_run pm_m big m_184 n0 147 [(0, .ref 70), (1, .int v0), (2, .int (0 : Int32)), (3, .int v1), (4, .int v2), (5, .int v3), (6, .int v4)] [.int v2, .ref 76, .int v6, .int v5] G U := rfl
theorem sg_rf_41 (big : Nat → List Value → qM → qW → qR) (n0 : Nat) (G : qM) (U : qW) (v0 : Int32) (v1 : Int32) (v2 : Int32) (v3 : Int32) (v4 : Int32) (v5 : Int32) (v6 : Int32) (v7 : Int32) : qm_run pm_m big m_184 (n0 + 3) 148 [(0, .ref 70), (1, .int v0), (2, .int (0 : Int32)), (3, .int v1), (4, .int v2), (5, .int v3), (6, .int v4)] [.int v7, .int v6, .int v5] G U = qm_run pm_m big m_184 n0 153 [(0, .ref 70), (1, .int v0), (2, .int (0 : Int32)), (3, .int v1), (4, .int v2), (5, .int v3), (6, .int v4)] [.int v0, .ref 76, .int v7, .int v6, .int v5] G U := rfl
theorem sg_rf_42 (big : Nat → List Value → qM → qW → qR) (n0 : Nat) (G : qM) (U : qW) (v0 : Int32) (v1 : Int32) (v2 : Int32) (v3 : Int32) (v4 : Int32) (v5 : Int32) (v6 : Int32) : qm_run pm_m big m_184 (n0 + 8) 157 [(0, .ref 70), (1, .int v0), (2, .int (0 : Int32)), (3, .int v1), (4, .int v2), (5, .int v3), (6, .int v4)] [.int v6, .int v5] G U = qm_run pm_m big m_184 n0 5 [(0, .ref 70), (1, .int v0), (2, .int (0 : Int32)), (3, .int (v5 + (v6 * (-v4)))), (4, .int (v2 + (1 : Int32))), (5, .int v3), (6, .int v4)] [] G U := rfl
theorem sg_rf_43 (big : Nat → List Value → qM → qW → qR) (n0 : Nat) (G : qM) (U : qW) (v0 : Int32) (v1 : Int32) (v2 : Int32) (v3 : Int32) (v4 : Int32) (v5 : Int32) (v6 : Int32) : qm_run pm_m big m_184 (n0 + 6) 163 [(0, .ref 70), (1, .int v0), (2, .int (0 : Int32)), (3, .int v1), (4, .int v2), (5, .int v3), (6, .int v4)] [.int v6, .int v5] G U = qm_run pm_m big m_184 n0 5 [(0, .ref 70), (1, .int v0), (2, .int (0 : Int32)), (3, .int (v5 + (v6 * v4))), (4, .int (v2 + (1 : Int32))), (5, .int v3), (6, .int v4)] [] G U := rfl
theorem sg_rf_44 (big : Nat → List Value → qM → qW → qR) (n0 : Nat) (G : qM) (U : qW) (v0 : Int32) : qm_run pm_m big m_184 (n0 + 4) 0 [(0, .ref 70), (1, .int v0), (2, .int (0 : Int32))] [] G U = qm_run pm_m big m_184 n0 5 [(0, .ref 70), (1, .int v0), (2, .int (0 : Int32)), (3, .int (0 : Int32)), (4, .int (0 : Int32))] [] G U := rfl
theorem sg_rf_45 (big : Nat → List Value → qM → qW → qR) (n0 : Nat) (G : qM) (U : qW) (v0 : Int32) (v1 : Int32) (v2 : Int32) : qm_run pm_m big m_184 (n0 + 3) 5 [(0, .ref 70), (1, .int v0), (2, .int (1 : Int32)), (3, .int v1), (4, .int v2)] [] G U = qm_run pm_m big m_184 n0 11 [(0, .ref 70), (1, .int v0), (2, .int (1 : Int32)), (3, .int v1), (4, .int v2)] [.int (G 70 27), .int v2] G U := rfl
theorem sg_rf_46 (big : Nat → List Value → qM → qW → qR) (n0 : Nat) (G : qM) (U : qW) (v0 : Int32) (v1 : Int32) (v2 : Int32) : qm_run pm_m big m_184 (n0 + 2) 14 [(0, .ref 70), (1, .int v0), (2, .int (1 : Int32)), (3, .int v1), (4, .int v2)] [] G U = qm_run pm_m big m_184 n0 17 [(0, .ref 70), (1, .int v0), (2, .int (1 : Int32)), (3, .int v1), (4, .int v2)] [.int v0, .int v2] G U := rfl
theorem sg_rf_47 (big : Nat → List Value → qM → qW → qR) (n0 : Nat) (G : qM) (U : qW) (v0 : Int32) (v1 : Int32) (v2 : Int32) : qm_run pm_m big m_184 (n0 + 7) 39 [(0, .ref 70), (1, .int v0), (2, .int (1 : Int32)), (3, .int v1), (4, .int v2)] [] G U = qm_run pm_m big m_184 n0 59 [(0, .ref 70), (1, .int v0), (2, .int (1 : Int32)), (3, .int v1), (4, .int v2), (5, .int (0 : Int32))] [.long (4 : Int64), .long (1 : Int64), .long (0 : Int64)] G U := rfl
theorem sg_rf_48 (big : Nat → List Value → qM → qW → qR) (n0 : Nat) (G : qM) (U : qW) (v0 : Int32) (v1 : Int32) (v2 : Int32) : qm_run pm_m big m_184 (n0 + 3) 62 [(0, .ref 70), (1, .int v0), (2, .int (1 : Int32)), (3, .int v1), (4, .int v2), (5, .int (0 : Int32))] [.int (0 : Int32)] G U = qm_run pm_m big m_184 n0 5 [(0, .ref 70), (1, .int v0), (2, .int (1 : Int32)), (3, .int v1), (4, .int (v2 + (1 : Int32))), (5, .int (0 : Int32))] [] G U := rfl
theorem sg_rf_49 (big : Nat → List Value → qM → qW → qR) (n0 : Nat) (G : qM) (U : qW) (v0 : Int32) (v1 : Int32) (v2 : Int32) : qm_run pm_m big m_184 (n0 + 3) 20 [(0, .ref 70), (1, .int v0), (2, .int (1 : Int32)), (3, .int v1), (4, .int v2)] [] G U = qm_run pm_m big m_184 n0 25 [(0, .ref 70), (1, .int v0), (2, .int (1 : Int32)), (3, .int v1), (4, .int v2)] [.int v0, .ref 76] G U := rfl
theorem sg_rf_50 (big : Nat → List Value → qM → qW → qR) (n0 : Nat) (G : qM) (U : qW) (v0 : Int32) (v1 : Int32) (v2 : Int32) : qm_run pm_m big m_184 (n0 + 3) 29 [(0, .ref 70), (1, .int v0), (2, .int (1 : Int32)), (3, .int v1), (4, .int v2)] [] G U = qm_run pm_m big m_184 n0 35 [(0, .ref 70), (1, .int v0), (2, .int (1 : Int32)), (3, .int v1), (4, .int v2)] [.int v2, .ref 76] G U := rfl
theorem sg_rf_51 (big : Nat → List Value → qM → qW → qR) (n0 : Nat) (G : qM) (U : qW) (v0 : Int32) (v1 : Int32) (v2 : Int32) : qm_run pm_m big m_184 (n0 + 3) 43 [(0, .ref 70), (1, .int v0), (2, .int (1 : Int32)), (3, .int v1), (4, .int v2)] [] G U = qm_run pm_m big m_184 n0 47 [(0, .ref 70), (1, .int v0), (2, .int (1 : Int32)), (3, .int v1), (4, .int v2)] [.int v2, .int v0, .ref 70] G U := rfl
theorem sg_rf_52 (big : Nat → List Value → qM → qW → qR) (n0 : Nat) (G : qM) (U : qW) (v0 : Int32) (v1 : Int32) (v2 : Int32) (v3 : Int32) : qm_run pm_m big m_184 (n0 + 5) 50 [(0, .ref 70), (1, .int v0), (2, .int (1 : Int32)), (3, .int v1), (4, .int v2)] [.int v3] G U = qm_run pm_m big m_184 n0 59 [(0, .ref 70), (1, .int v0), (2, .int (1 : Int32)), (3, .int v1), (4, .int v2), (5, .int v3)] [.long (4 : Int64), .long (1 : Int64), .long (Int32.toInt64 v3)] G U := rfl
theorem sg_rf_53 (big : Nat → List Value → qM → qW → qR) (n0 : Nat) (G : qM) (U : qW) (v0 : Int32) (v1 : Int32) (v2 : Int32) (v3 : Int32) : qm_run pm_m big m_184 (n0 + 2) 168 [(0, .ref 70), (1, .int v0), (2, .int (1 : Int32)), (3, .int v1), (4, .int v2), (5, .int v3)] [] G U = qm_run pm_m big m_184 n0 5 [(0, .ref 70), (1, .int v0), (2, .int (1 : Int32)), (3, .int v1), (4, .int (v2 + (1 : Int32))), (5, .int v3)] [] G U := rfl
theorem sg_rf_54 (big : Nat → List Value → qM → qW → qR) (n0 : Nat) (G : qM) (U : qW) (v0 : Int32) (v1 : Int32) (v2 : Int32) (v3 : Int32) : qm_run pm_m big m_184 (n0 + 5) 65 [(0, .ref 70), (1, .int v0), (2, .int (1 : Int32)), (3, .int v1), (4, .int v2), (5, .int v3)] [] G U = qm_run pm_m big m_184 n0 75 [(0, .ref 70), (1, .int v0), (2, .int (1 : Int32)), (3, .int v1), (4, .int v2), (5, .int v3)] [.int v2, .ref 75] G U := rfl
theorem sg_rf_55 (big : Nat → List Value → qM → qW → qR) (n0 : Nat) (G : qM) (U : qW) (v0 : Int32) (v1 : Int32) (v2 : Int32) (v3 : Int32) (v4 : Int32) : qm_run pm_m big m_184 (n0 + 2) 76 [(0, .ref 70), (1, .int v0), (2, .int (1 : Int32)), (3, .int v1), (4, .int v2), (5, .int v3)] [.int v4] G U = qm_run pm_m big m_184 n0 80 [(0, .ref 70), (1, .int v0), (2, .int (1 : Int32)), (3, .int v1), (4, .int v2), (5, .int v3)] [.int (G 70 2), .int v4] G U := rfl
theorem sg_rf_56 (big : Nat → List Value → qM → qW → qR) (n0 : Nat) (G : qM) (U : qW) (v0 : Int32) (v1 : Int32) (v2 : Int32) (v3 : Int32) (v4 : Int32) : qm_run pm_m big m_184 (n0 + 3) 81 [(0, .ref 70), (1, .int v0), (2, .int (1 : Int32)), (3, .int v1), (4, .int v2), (5, .int v3)] [.int v4] G U = qm_run pm_m big m_184 n0 86 [(0, .ref 70), (1, .int v0), (2, .int (1 : Int32)), (3, .int v1), (4, .int v2), (5, .int v3)] [.int v0, .ref 75, .int v4] G U := rfl
theorem sg_rf_57 (big : Nat → List Value → qM → qW → qR) (n0 : Nat) (G : qM) (U : qW) (v0 : Int32) (v1 : Int32) (v2 : Int32) (v3 : Int32) (v4 : Int32) (v5 : Int32) : qm_run pm_m big m_184 (n0 + 2) 87 [(0, .ref 70), (1, .int v0), (2, .int (1 : Int32)), (3, .int v1), (4, .int v2), (5, .int v3)] [.int v5, .int v4] G U = qm_run pm_m big m_184 n0 91 [(0, .ref 70), (1, .int v0), (2, .int (1 : Int32)), (3, .int v1), (4, .int v2), (5, .int v3)] [.int (G 70 2), .int v5, .int v4] G U := rfl
theorem sg_rf_58 (big : Nat → List Value → qM → qW → qR) (n0 : Nat) (G : qM) (U : qW) (v0 : Int32) (v1 : Int32) (v2 : Int32) (v3 : Int32) (v4 : Int32) (v5 : Int32) : qm_run pm_m big m_184 (n0 + 1) 92 [(0, .ref 70), (1, .int v0), (2, .int (1 : Int32)), (3, .int v1), (4, .int v2), (5, .int v3)] [.int v5, .int v4] G U = qm_run pm_m big m_184 n0 93 [(0, .ref 70), (1, .int v0), (2, .int (1 : Int32)), (3, .int v1), (4, .int v2), (5, .int v3)] [.int (v4 - v5)] G U := rfl
theorem sg_rf_59 (big : Nat → List Value → qM → qW → qR) (n0 : Nat) (G : qM) (U : qW) (v0 : Int32) (v1 : Int32) (v2 : Int32) (v3 : Int32) (v4 : Int32) : qm_run pm_m big m_184 (n0 + 10) 96 [(0, .ref 70), (1, .int v0), (2, .int (1 : Int32)), (3, .int v1), (4, .int v2), (5, .int v3)] [.int v4] G U = qm_run pm_m big m_184 n0 140 [(0, .ref 70), (1, .int v0), (2, .int (1 : Int32)), (3, .int v1), (4, .int v2), (5, .int v3), (6, .int v4)] [.int (((21 : Int32) + v3) - (1 : Int32)), .ref 71, .int v1] G U := rfl
theorem sg_rf_60 (big : Nat → List Value → qM → qW → qR) (n0 : Nat) (G : qM) (U : qW) (v0 : Int32) (v1 : Int32) (v2 : Int32) (v3 : Int32) (v4 : Int32) (v5 : Int32) (v6 : Int32) : qm_run pm_m big m_184 (n0 + 3) 141 [(0, .ref 70), (1, .int v0), (2, .int (1 : Int32)), (3, .int v1), (4, .int v2), (5, .int v3), (6, .int v4)] [.int v6, .int v5] G U = qm_run pm_m big m_184 n0 147 [(0, .ref 70), (1, .int v0), (2, .int (1 : Int32)), (3, .int v1), (4, .int v2), (5, .int v3), (6, .int v4)] [.int v2, .ref 76, .int v6, .int v5] G U := rfl
theorem sg_rf_61 (big : Nat → List Value → qM → qW → qR) (n0 : Nat) (G : qM) (U : qW) (v0 : Int32) (v1 : Int32) (v2 : Int32) (v3 : Int32) (v4 : Int32) (v5 : Int32) (v6 : Int32) (v7 : Int32) : qm_run pm_m big m_184 (n0 + 3) 148 [(0, .ref 70), (1, .int v0), (2, .int (1 : Int32)), (3, .int v1), (4, .int v2), (5, .int v3), (6, .int v4)] [.int v7, .int v6, .int v5] G U = qm_run pm_m big m_184 n0 153 [(0, .ref 70), (1, .int v0), (2, .int (1 : Int32)), (3, .int v1), (4, .int v2), (5, .int v3), (6, .int v4)] [.int v0, .ref 76, .int v7, .int v6, .int v5] G U := rfl
theorem sg_rf_62 (big : Nat → List Value → qM → qW → qR) (n0 : Nat) (G : qM) (U : qW) (v0 : Int32) (v1 : Int32) (v2 : Int32) (v3 : Int32) (v4 : Int32) (v5 : Int32) (v6 : Int32) : qm_run pm_m big m_184 (n0 + 8) 157 [(0, .ref 70), (1, .int v0), (2, .int (1 : Int32)), (3, .int v1), (4, .int v2), (5, .int v3), (6, .int v4)] [.int v6, .int v5] G U = qm_run pm_m big m_184 n0 5 [(0, .ref 70), (1, .int v0), (2, .int (1 : Int32)), (3, .int (v5 + (v6 * (-v4)))), (4, .int (v2 + (1 : Int32))), (5, .int v3), (6, .int v4)] [] G U := rfl
theorem sg_rf_63 (big : Nat → List Value → qM → qW → qR) (n0 : Nat) (G : qM) (U : qW) (v0 : Int32) (v1 : Int32) (v2 : Int32) (v3 : Int32) (v4 : Int32) (v5 : Int32) (v6 : Int32) : qm_run pm_m big m_184 (n0 + 6) 163 [(0, .ref 70), (1, .int v0), (2, .int (1 : Int32)), (3, .int v1), (4, .int v2), (5, .int v3), (6, .int v4)] [.int v6, .int v5] G U = qm_run pm_m big m_184 n0 5 [(0, .ref 70), (1, .int v0), (2, .int (1 : Int32)), (3, .int (v5 + (v6 * v4))), (4, .int (v2 + (1 : Int32))), (5, .int v3), (6, .int v4)] [] G U := rfl
theorem sg_rf_64 (big : Nat → List Value → qM → qW → qR) (n0 : Nat) (G : qM) (U : qW) (v0 : Int32) : qm_run pm_m big m_184 (n0 + 4) 0 [(0, .ref 70), (1, .int v0), (2, .int (1 : Int32))] [] G U = qm_run pm_m big m_184 n0 5 [(0, .ref 70), (1, .int v0), (2, .int (1 : Int32)), (3, .int (0 : Int32)), (4, .int (0 : Int32))] [] G U := rfl
theorem sg_rf_65 (big : Nat → List Value → qM → qW → qR) (n0 : Nat) (G : qM) (U : qW) (v0 : Int32) : qm_run pm_m big m_189 (n0 + 3) 0 [(0, .ref 70), (1, .int v0)] [] G U = qm_run pm_m big m_189 n0 5 [(0, .ref 70), (1, .int v0)] [.int v0, .ref 77] G U := rfl
theorem sg_rf_66 (big : Nat → List Value → qM → qW → qR) (n0 : Nat) (G : qM) (U : qW) (v0 : Int32) (v1 : Int32) : qm_run pm_m big m_189 (n0 + 1) 6 [(0, .ref 70), (1, .int v0)] [.int v1] G U = qm_run pm_m big m_189 n0 7 [(0, .ref 70), (1, .int v0)] [.int (1 : Int32), .int v1] G U := rfl
theorem sg_rf_67 (big : Nat → List Value → qM → qW → qR) (n0 : Nat) (G : qM) (U : qW) (v0 : Int32) : qm_run pm_m big m_189 (n0 + 6) 10 [(0, .ref 70), (1, .int v0)] [] G U = qm_run pm_m big m_189 n0 26 [(0, .ref 70), (1, .int v0), (2, .int (0 : Int32))] [.int v0, .ref 77] G U := rfl
theorem sg_rf_68 (big : Nat → List Value → qM → qW → qR) (n0 : Nat) (G : qM) (U : qW) (v0 : Int32) (v1 : Int32) : qm_run pm_m big m_189 (n0 + 1) 27 [(0, .ref 70), (1, .int v0), (2, .int (0 : Int32))] [.int v1] G U = qm_run pm_m big m_189 n0 28 [(0, .ref 70), (1, .int v0), (2, .int (0 : Int32))] [.int (1 : Int32), .int v1] G U := rfl
theorem sg_rf_69 (big : Nat → List Value → qM → qW → qR) (n0 : Nat) (G : qM) (U : qW) (v0 : Int32) : qm_run pm_m big m_189 (n0 + 3) 14 [(0, .ref 70), (1, .int v0)] [] G U = qm_run pm_m big m_189 n0 17 [(0, .ref 70), (1, .int v0)] [.int (0 : Int32), .int v0, .ref 70] G U := rfl
theorem sg_rf_70 (big : Nat → List Value → qM → qW → qR) (n0 : Nat) (G : qM) (U : qW) (v0 : Int32) (v1 : Int32) : qm_run pm_m big m_189 (n0 + 4) 20 [(0, .ref 70), (1, .int v0)] [.int v1] G U = qm_run pm_m big m_189 n0 26 [(0, .ref 70), (1, .int v0), (2, .int v1)] [.int v0, .ref 77] G U := rfl
theorem sg_rf_71 (big : Nat → List Value → qM → qW → qR) (n0 : Nat) (G : qM) (U : qW) (v0 : Int32) (v1 : Int32) (v2 : Int32) : qm_run pm_m big m_189 (n0 + 1) 27 [(0, .ref 70), (1, .int v0), (2, .int v1)] [.int v2] G U = qm_run pm_m big m_189 n0 28 [(0, .ref 70), (1, .int v0), (2, .int v1)] [.int (1 : Int32), .int v2] G U := rfl
theorem sg_rf_72 (big : Nat → List Value → qM → qW → qR) (n0 : Nat) (G : qM) (U : qW) (v0 : Int32) (v1 : Int32) : qm_run pm_m big m_189 (n0 + 3) 35 [(0, .ref 70), (1, .int v0), (2, .int v1)] [] G U = qm_run pm_m big m_189 n0 38 [(0, .ref 70), (1, .int v0), (2, .int v1)] [.int (1 : Int32), .int v0, .ref 70] G U := rfl
theorem sg_rf_73 (big : Nat → List Value → qM → qW → qR) (n0 : Nat) (G : qM) (U : qW) (v0 : Int32) (v1 : Int32) (v2 : Int32) : qm_run pm_m big m_189 (n0 + 2) 41 [(0, .ref 70), (1, .int v0), (2, .int v1)] [.int v2] G U = qm_run pm_m big m_189 n0 43 [(0, .ref 70), (1, .int v0), (2, .int v1), (3, .int v2)] [.int v1] G U := rfl
theorem sg_rf_74 (big : Nat → List Value → qM → qW → qR) (n0 : Nat) (G : qM) (U : qW) (v0 : Int32) (v1 : Int32) (v2 : Int32) : qm_run pm_m big m_189 (n0 + 1) 67 [(0, .ref 70), (1, .int v0), (2, .int v1), (3, .int v2)] [] G U = qm_run pm_m big m_189 n0 68 [(0, .ref 70), (1, .int v0), (2, .int v1), (3, .int v2)] [.int v2] G U := rfl
theorem sg_rf_75 (big : Nat → List Value → qM → qW → qR) (n0 : Nat) (G : qM) (U : qW) (v0 : Int32) (v1 : Int32) (v2 : Int32) : qm_run pm_m big m_189 (n0 + 1) 75 [(0, .ref 70), (1, .int v0), (2, .int v1), (3, .int v2)] [] G U = qm_run pm_m big m_189 n0 76 [(0, .ref 70), (1, .int v0), (2, .int v1), (3, .int v2)] [.int v2] G U := rfl
theorem sg_rf_76 (big : Nat → List Value → qM → qW → qR) (n0 : Nat) (G : qM) (U : qW) (v0 : Int32) (v1 : Int32) (v2 : Int32) : qm_run pm_m big m_189 (n0 + 1) 46 [(0, .ref 70), (1, .int v0), (2, .int v1), (3, .int v2)] [] G U = qm_run pm_m big m_189 n0 47 [(0, .ref 70), (1, .int v0), (2, .int v1), (3, .int v2)] [.int v1] G U := rfl
theorem sg_rf_77 (big : Nat → List Value → qM → qW → qR) (n0 : Nat) (G : qM) (U : qW) (v0 : Int32) (v1 : Int32) (v2 : Int32) (v3 : Int32) : qm_run pm_m big m_189 (n0 + 1) 50 [(0, .ref 70), (1, .int v0), (2, .int v1), (3, .int v2)] [.int v3] G U = qm_run pm_m big m_189 n0 51 [(0, .ref 70), (1, .int v0), (2, .int v1), (3, .int v2)] [.int v2, .int v3] G U := rfl
theorem sg_rf_78 (big : Nat → List Value → qM → qW → qR) (n0 : Nat) (G : qM) (U : qW) (v0 : Int32) (v1 : Int32) (v2 : Int32) : qm_run pm_m big m_189 (n0 + 1) 57 [(0, .ref 70), (1, .int v0), (2, .int v1), (3, .int v2)] [] G U = qm_run pm_m big m_189 n0 58 [(0, .ref 70), (1, .int v0), (2, .int v1), (3, .int v2)] [.int v1] G U := rfl
theorem b_apart (g : qM) (u : qW) {p q : Nat} (hp : p < 6) (hq : q < 6) (hw : g 70 2 ≠ 0) : q_BS 185 [.ref 70, .int (Int32.ofNat p), .int (Int32.ofNat q)] g u (some (.int (s_far (g 70 2) (g 75 q) (g 75 p))), g, u) := by
  refine q_bx (mm := m_185) rfl (Nat.le_of_ble_eq_true rfl) rfl ?_
  refine q_step 3 5 [(0, .ref 70), (1, .int (Int32.ofNat p)), (2, .int (Int32.ofNat q))] [.int (Int32.ofNat p), .ref 75] g u (fun big n0 => sg_rf_1 big n0 g u (Int32.ofNat p) (Int32.ofNat q)) ?_
  refine q_iald (j := p) (q_ixn (by omega) (by omega)) rfl rfl ?_
  refine q_step 2 10 [(0, .ref 70), (1, .int (Int32.ofNat p)), (2, .int (Int32.ofNat q))] [.int (g 70 2), .int (g 75 p)] g u (fun big n0 => sg_rf_2 big n0 g u (Int32.ofNat p) (Int32.ofNat q) (g 75 p)) ?_
  refine q_irem (hw) rfl ?_
  refine q_step 3 16 [(0, .ref 70), (1, .int (Int32.ofNat p)), (2, .int (Int32.ofNat q))] [.int (Int32.ofNat q), .ref 75, .int ((g 75 p) - (g 75 p) / (g 70 2) * (g 70 2))] g u (fun big n0 => sg_rf_3 big n0 g u (Int32.ofNat p) (Int32.ofNat q) ((g 75 p) - (g 75 p) / (g 70 2) * (g 70 2))) ?_
  refine q_iald (j := q) (q_ixn (by omega) (by omega)) rfl rfl ?_
  refine q_step 2 21 [(0, .ref 70), (1, .int (Int32.ofNat p)), (2, .int (Int32.ofNat q))] [.int (g 70 2), .int (g 75 q), .int ((g 75 p) - (g 75 p) / (g 70 2) * (g 70 2))] g u (fun big n0 => sg_rf_4 big n0 g u (Int32.ofNat p) (Int32.ofNat q) ((g 75 p) - (g 75 p) / (g 70 2) * (g 70 2)) (g 75 q)) ?_
  refine q_irem (hw) rfl ?_
  refine q_step 1 23 [(0, .ref 70), (1, .int (Int32.ofNat p)), (2, .int (Int32.ofNat q))] [.int (((g 75 p) - (g 75 p) / (g 70 2) * (g 70 2)) - ((g 75 q) - (g 75 q) / (g 70 2) * (g 70 2)))] g u (fun big n0 => sg_rf_5 big n0 g u (Int32.ofNat p) (Int32.ofNat q) ((g 75 p) - (g 75 p) / (g 70 2) * (g 70 2)) ((g 75 q) - (g 75 q) / (g 70 2) * (g 70 2))) ?_
  refine q_call (M2 := 186) (rest := []) (b_rabs _ _ _) (fun _ _ => rfl) ?_
  refine q_step 3 31 [(0, .ref 70), (1, .int (Int32.ofNat p)), (2, .int (Int32.ofNat q))] [.int (Int32.ofNat p), .ref 75, .int (s_abs (((g 75 p) - (g 75 p) / (g 70 2) * (g 70 2)) - ((g 75 q) - (g 75 q) / (g 70 2) * (g 70 2))))] g u (fun big n0 => sg_rf_6 big n0 g u (Int32.ofNat p) (Int32.ofNat q) (s_abs (((g 75 p) - (g 75 p) / (g 70 2) * (g 70 2)) - ((g 75 q) - (g 75 q) / (g 70 2) * (g 70 2))))) ?_
  refine q_iald (j := p) (q_ixn (by omega) (by omega)) rfl rfl ?_
  refine q_step 2 36 [(0, .ref 70), (1, .int (Int32.ofNat p)), (2, .int (Int32.ofNat q))] [.int (g 70 2), .int (g 75 p), .int (s_abs (((g 75 p) - (g 75 p) / (g 70 2) * (g 70 2)) - ((g 75 q) - (g 75 q) / (g 70 2) * (g 70 2))))] g u (fun big n0 => sg_rf_7 big n0 g u (Int32.ofNat p) (Int32.ofNat q) (s_abs (((g 75 p) - (g 75 p) / (g 70 2) * (g 70 2)) - ((g 75 q) - (g 75 q) / (g 70 2) * (g 70 2)))) (g 75 p)) ?_
  refine q_idiv (hw) rfl ?_
  refine q_step 3 42 [(0, .ref 70), (1, .int (Int32.ofNat p)), (2, .int (Int32.ofNat q))] [.int (Int32.ofNat q), .ref 75, .int ((g 75 p) / (g 70 2)), .int (s_abs (((g 75 p) - (g 75 p) / (g 70 2) * (g 70 2)) - ((g 75 q) - (g 75 q) / (g 70 2) * (g 70 2))))] g u (fun big n0 => sg_rf_8 big n0 g u (Int32.ofNat p) (Int32.ofNat q) (s_abs (((g 75 p) - (g 75 p) / (g 70 2) * (g 70 2)) - ((g 75 q) - (g 75 q) / (g 70 2) * (g 70 2)))) ((g 75 p) / (g 70 2))) ?_
  refine q_iald (j := q) (q_ixn (by omega) (by omega)) rfl rfl ?_
  refine q_step 2 47 [(0, .ref 70), (1, .int (Int32.ofNat p)), (2, .int (Int32.ofNat q))] [.int (g 70 2), .int (g 75 q), .int ((g 75 p) / (g 70 2)), .int (s_abs (((g 75 p) - (g 75 p) / (g 70 2) * (g 70 2)) - ((g 75 q) - (g 75 q) / (g 70 2) * (g 70 2))))] g u (fun big n0 => sg_rf_9 big n0 g u (Int32.ofNat p) (Int32.ofNat q) (s_abs (((g 75 p) - (g 75 p) / (g 70 2) * (g 70 2)) - ((g 75 q) - (g 75 q) / (g 70 2) * (g 70 2)))) ((g 75 p) / (g 70 2)) (g 75 q)) ?_
  refine q_idiv (hw) rfl ?_
  refine q_step 1 49 [(0, .ref 70), (1, .int (Int32.ofNat p)), (2, .int (Int32.ofNat q))] [.int (((g 75 p) / (g 70 2)) - ((g 75 q) / (g 70 2))), .int (s_abs (((g 75 p) - (g 75 p) / (g 70 2) * (g 70 2)) - ((g 75 q) - (g 75 q) / (g 70 2) * (g 70 2))))] g u (fun big n0 => sg_rf_10 big n0 g u (Int32.ofNat p) (Int32.ofNat q) (s_abs (((g 75 p) - (g 75 p) / (g 70 2) * (g 70 2)) - ((g 75 q) - (g 75 q) / (g 70 2) * (g 70 2)))) ((g 75 p) / (g 70 2)) ((g 75 q) / (g 70 2))) ?_
  refine q_call (M2 := 186) (rest := [.int (s_abs (((g 75 p) - (g 75 p) / (g 70 2) * (g 70 2)) - ((g 75 q) - (g 75 q) / (g 70 2) * (g 70 2))))]) (b_rabs _ _ _) (fun _ _ => rfl) ?_
  refine q_ret 2 (some (.int ((s_abs (((g 75 p) - (g 75 p) / (g 70 2) * (g 70 2)) - ((g 75 q) - (g 75 q) / (g 70 2) * (g 70 2)))) + (s_abs (((g 75 p) / (g 70 2)) - ((g 75 q) / (g 70 2)))))), g, u) (fun _ _ => rfl) ?_
  rfl
theorem rw_l (g : qM) (u : qW) {n : Nat} (x : Int32) (hn : g 70 27 = Int32.ofNat n) (h6 : n ≤ 6) : ∀ k i f, i + k = n → q_EV m_173 5 [(0, .ref 70), (1, .int x), (2, .int f), (3, .int (Int32.ofNat i))] [] g u (fun R => R = (some (.int (s_wl (g 75) x k i f)), g, u)) := by
  intro k
  induction k with
  | zero =>
    intro i f hi
    refine q_step 3 10 [(0, .ref 70), (1, .int x), (2, .int f), (3, .int (Int32.ofNat i))] [.int (g 70 27), .int (Int32.ofNat i)] g u (fun big n0 => sg_rf_11 big n0 g u x f (Int32.ofNat i)) ?_
    refine q_ic_ge rfl (fun (hc0 : (g 70 27) ≤ (Int32.ofNat i)) => ?_) (fun hc0 => absurd (show (g 70 27) ≤ (Int32.ofNat i) from by rw [hn, q_le (by omega) (by omega)]; omega) hc0)
    refine q_ret 2 (some (.int f), g, u) (fun _ _ => rfl) ?_
    rfl
  | succ k ih =>
    intro i f hi
    refine q_step 3 10 [(0, .ref 70), (1, .int x), (2, .int f), (3, .int (Int32.ofNat i))] [.int (g 70 27), .int (Int32.ofNat i)] g u (fun big n0 => sg_rf_11 big n0 g u x f (Int32.ofNat i)) ?_
    refine q_ic_ge rfl (fun hc0 => absurd (show (g 70 27) ≤ (Int32.ofNat i) from hc0) (fun z => by rw [hn, q_le (by omega) (by omega)] at z; omega)) (fun (hc0 : ¬ ((g 70 27) ≤ (Int32.ofNat i))) => ?_)
    refine q_step 3 18 [(0, .ref 70), (1, .int x), (2, .int f), (3, .int (Int32.ofNat i))] [.int (Int32.ofNat i), .ref 75] g u (fun big n0 => sg_rf_12 big n0 g u x f (Int32.ofNat i)) ?_
    refine q_iald (j := i) (q_ixn (by omega) (by omega)) rfl rfl ?_
    refine q_step 1 20 [(0, .ref 70), (1, .int x), (2, .int f), (3, .int (Int32.ofNat i))] [.int x, .int (g 75 i)] g u (fun big n0 => sg_rf_13 big n0 g u x f (Int32.ofNat i) (g 75 i)) ?_
    refine q_ic_ne rfl (fun (hc1 : (g 75 i) = x) => ?_) (fun (hc1 : ¬ ((g 75 i) = x)) => ?_)
    · refine q_step 5 5 [(0, .ref 70), (1, .int x), (2, .int (Int32.ofNat i)), (3, .int ((Int32.ofNat i) + (1 : Int32)))] [] g u (fun big n0 => sg_rf_14 big n0 g u x f (Int32.ofNat i)) ?_
      rw [q_succ]
      unfold s_wl
      rw [if_pos hc1]
      exact ih (i + 1) _ (by omega)
    · refine q_step 4 5 [(0, .ref 70), (1, .int x), (2, .int f), (3, .int ((Int32.ofNat i) + (1 : Int32)))] [] g u (fun big n0 => sg_rf_15 big n0 g u x f (Int32.ofNat i)) ?_
      rw [q_succ]
      unfold s_wl
      rw [if_neg hc1]
      exact ih (i + 1) _ (by omega)
theorem b_rwho (g : qM) (u : qW) {n : Nat} (x : Int32) (hn : g 70 27 = Int32.ofNat n) (h6 : n ≤ 6) : q_BS 173 [.ref 70, .int x] g u (some (.int (s_wl (g 75) x n 0 i_none)), g, u) := by
  refine q_bx (mm := m_173) rfl (Nat.le_of_ble_eq_true rfl) rfl ?_
  refine q_step 4 5 [(0, .ref 70), (1, .int x), (2, .int (Int8.toInt32 (Int8.ofInt (-4)))), (3, .int (0 : Int32))] [] g u (fun big n0 => sg_rf_16 big n0 g u x) ?_
  exact rw_l g u x hn h6 n 0 _ (by omega)
theorem b_bes (g : qM) (u : qW) (x way : Int32) (hw : g 70 2 ≠ 0) (hy : way = 0 ∨ way = 1 ∨ way = 2 ∨ way = 3 ∨ way = 4) : q_BS 192 [.ref 70, .int x, .int way] g u (some (.int (s_to (g 70 2) (g 70 3) x way)), g, u) := by
  refine q_bx (mm := m_192) rfl (Nat.le_of_ble_eq_true rfl) rfl ?_
  rcases hy with rfl | rfl | rfl | rfl | rfl
  · refine q_step 5 37 [(0, .ref 70), (1, .int x), (2, .int (0 : Int32))] [.int (g 70 2), .int x] g u (fun big n0 => sg_rf_17 big n0 g u x) ?_
    refine q_ic_lt rfl (fun (hc0 : x < (g 70 2)) => ?_) (fun (hc0 : ¬ (x < (g 70 2))) => ?_)
    · refine q_ret 2 (some (.int (Int8.toInt32 (Int8.ofInt (-4)))), g, u) (fun _ _ => rfl) ?_
      unfold s_to
      rw [if_pos rfl, if_pos hc0]
    · refine q_ret 6 (some (.int (x - (g 70 2))), g, u) (fun _ _ => rfl) ?_
      unfold s_to
      rw [if_pos rfl, if_neg hc0]
  · refine q_step 5 57 [(0, .ref 70), (1, .int x), (2, .int (1 : Int32))] [.int (g 70 2), .int x] g u (fun big n0 => sg_rf_18 big n0 g u x) ?_
    refine q_irem (hw) rfl ?_
    refine q_step 4 64 [(0, .ref 70), (1, .int x), (2, .int (1 : Int32))] [.int (g 70 2), .int ((x - x / (g 70 2) * (g 70 2)) + (1 : Int32))] g u (fun big n0 => sg_rf_19 big n0 g u x (x - x / (g 70 2) * (g 70 2))) ?_
    refine q_ic_ge rfl (fun (hc0 : (g 70 2) ≤ ((x - x / (g 70 2) * (g 70 2)) + (1 : Int32))) => ?_) (fun (hc0 : ¬ ((g 70 2) ≤ ((x - x / (g 70 2) * (g 70 2)) + (1 : Int32)))) => ?_)
    · refine q_ret 2 (some (.int (Int8.toInt32 (Int8.ofInt (-4)))), g, u) (fun _ _ => rfl) ?_
      unfold s_to s_col
      rw [if_neg (by decide), if_pos rfl, if_pos hc0]
    · refine q_ret 5 (some (.int (x + (1 : Int32))), g, u) (fun _ _ => rfl) ?_
      unfold s_to s_col
      rw [if_neg (by decide), if_pos rfl, if_neg hc0]
  · refine q_step 11 91 [(0, .ref 70), (1, .int x), (2, .int (2 : Int32))] [.int ((g 70 2) * (g 70 3)), .int (x + (g 70 2))] g u (fun big n0 => sg_rf_20 big n0 g u x) ?_
    refine q_ic_ge rfl (fun (hc0 : ((g 70 2) * (g 70 3)) ≤ (x + (g 70 2))) => ?_) (fun (hc0 : ¬ (((g 70 2) * (g 70 3)) ≤ (x + (g 70 2)))) => ?_)
    · refine q_ret 2 (some (.int (Int8.toInt32 (Int8.ofInt (-4)))), g, u) (fun _ _ => rfl) ?_
      unfold s_to
      rw [if_neg (by decide), if_neg (by decide), if_pos rfl, if_pos hc0]
    · refine q_ret 6 (some (.int (x + (g 70 2))), g, u) (fun _ _ => rfl) ?_
      unfold s_to
      rw [if_neg (by decide), if_neg (by decide), if_pos rfl, if_neg hc0]
  · refine q_step 5 111 [(0, .ref 70), (1, .int x), (2, .int (3 : Int32))] [.int (g 70 2), .int x] g u (fun big n0 => sg_rf_21 big n0 g u x) ?_
    refine q_irem (hw) rfl ?_
    refine q_if_le rfl (fun (hc0 : (x - x / (g 70 2) * (g 70 2)) ≤ 0) => ?_) (fun (hc0 : ¬ ((x - x / (g 70 2) * (g 70 2)) ≤ 0)) => ?_)
    · refine q_ret 2 (some (.int (Int8.toInt32 (Int8.ofInt (-4)))), g, u) (fun _ _ => rfl) ?_
      unfold s_to s_col
      rw [if_neg (by decide), if_neg (by decide), if_neg (by decide), if_pos rfl, if_pos hc0]
    · refine q_ret 5 (some (.int (x - (1 : Int32))), g, u) (fun _ _ => rfl) ?_
      unfold s_to s_col
      rw [if_neg (by decide), if_neg (by decide), if_neg (by decide), if_pos rfl, if_neg hc0]
  · refine q_ret 4 (some (.int (Int8.toInt32 (Int8.ofInt (-4)))), g, u) (fun _ _ => rfl) ?_
    unfold s_to
    rw [if_neg (by decide), if_neg (by decide), if_neg (by decide), if_neg (by decide)]
theorem b_open (x : Int32) (g : qM) (u : qW) : q_BS 177 [.ref 70, .int x] g u (some (.int (s_op (g 71 20) x)), g, u) := by
  refine q_bx (mm := m_177) rfl (Nat.le_of_ble_eq_true rfl) rfl ?_
  refine q_step 2 3 [(0, .ref 70), (1, .int x)] [.int (Int8.toInt32 (Int8.ofInt (-4))), .int x] g u (fun big n0 => sg_rf_22 big n0 g u x) ?_
  refine q_ic_eq rfl (fun (hc0 : x = (Int8.toInt32 (Int8.ofInt (-4)))) => ?_) (fun (hc0 : ¬ (x = (Int8.toInt32 (Int8.ofInt (-4))))) => ?_)
  · refine q_ret 2 (some (.int (0 : Int32)), g, u) (fun _ _ => rfl) ?_
    unfold s_op s_bit
    rw [if_pos hc0]
  · refine q_step 8 17 [(0, .ref 70), (1, .int x)] [.int (((g 71 20) >>> (x &&& 31)) &&& (1 : Int32))] g u (fun big n0 => sg_rf_23 big n0 g u x) ?_
    refine q_if_ne rfl (fun (hc1 : (((g 71 20) >>> (x &&& 31)) &&& (1 : Int32)) = 0) => ?_) (fun (hc1 : ¬ ((((g 71 20) >>> (x &&& 31)) &&& (1 : Int32)) = 0)) => ?_)
    · refine q_ret 3 (some (.int (1 : Int32)), g, u) (fun _ _ => rfl) ?_
      unfold s_op s_bit
      rw [if_neg hc0, if_pos hc1]
    · refine q_ret 2 (some (.int (0 : Int32)), g, u) (fun _ _ => rfl) ?_
      unfold s_op s_bit
      rw [if_neg hc0, if_neg hc1]
theorem b_fd (x : Int32) (g : qM) (u : qW) : q_BS 194 [.int x] g u (some (.int (s_fd x)), g, u) := by
  refine q_bx (mm := m_194) rfl (Nat.le_of_ble_eq_true rfl) rfl ?_
  refine q_step 1 1 [(0, .int x)] [.int x] g u (fun big n0 => sg_rf_24 big n0 g u x) ?_
  refine q_if_ne rfl (fun (hc0 : x = 0) => ?_) (fun (hc0 : ¬ (x = 0)) => ?_)
  · refine q_ret 3 (some (.int (0 : Int32)), g, u) (fun _ _ => rfl) ?_
    unfold s_fd
    rw [if_pos hc0]
  · refine q_ret 6 (some (.int ((x - x / (3 : Int32) * (3 : Int32)) + (1 : Int32))), g, u) (fun _ _ => rfl) ?_
    unfold s_fd
    rw [if_neg hc0]
theorem b_flag0 (g : qM) (u : qW) : q_BS 164 [.int 0] g u (some (.int 0), g, u) := b_flag 0 g u
theorem b_flag1 (g : qM) (u : qW) : q_BS 164 [.int 1] g u (some (.int 1), g, u) := b_flag 1 g u
theorem rf_l0 (g : qM) (u : qW) {n p : Nat} (hn : g 70 27 = Int32.ofNat n) (h6 : n ≤ 6) (hp : p < n) (hw : g 70 2 ≠ 0) : ∀ k q s, q + k = n → q_EV m_184 5 [(0, .ref 70), (1, .int (Int32.ofNat p)), (2, .int (0 : Int32)), (3, .int s), (4, .int (Int32.ofNat q))] [] g u (fun R => R = (some (.int (s + s_sf (s_rt (g 70 2) (g 75) (g 76) (g 71) 0 p) k q)), g, u)) := by
  intro k
  induction k with
  | zero =>
    intro q s hq
    refine q_step 3 11 [(0, .ref 70), (1, .int (Int32.ofNat p)), (2, .int (0 : Int32)), (3, .int s), (4, .int (Int32.ofNat q))] [.int (g 70 27), .int (Int32.ofNat q)] g u (fun big n0 => sg_rf_25 big n0 g u (Int32.ofNat p) s (Int32.ofNat q)) ?_
    refine q_ic_ge rfl (fun (hc0 : (g 70 27) ≤ (Int32.ofNat q)) => ?_) (fun hc0 => absurd (show (g 70 27) ≤ (Int32.ofNat q) from by rw [hn, q_le (by omega) (by omega)]; omega) hc0)
    refine q_ret 2 (some (.int s), g, u) (fun _ _ => rfl) ?_
    show _ = _
    rw [s_sf, Int32.add_zero]
  | succ k ih =>
    intro q s hq
    refine q_step 3 11 [(0, .ref 70), (1, .int (Int32.ofNat p)), (2, .int (0 : Int32)), (3, .int s), (4, .int (Int32.ofNat q))] [.int (g 70 27), .int (Int32.ofNat q)] g u (fun big n0 => sg_rf_25 big n0 g u (Int32.ofNat p) s (Int32.ofNat q)) ?_
    refine q_ic_ge rfl (fun hc0 => absurd (show (g 70 27) ≤ (Int32.ofNat q) from hc0) (fun z => by rw [hn, q_le (by omega) (by omega)] at z; omega)) (fun (hc0 : ¬ ((g 70 27) ≤ (Int32.ofNat q))) => ?_)
    refine q_step 2 17 [(0, .ref 70), (1, .int (Int32.ofNat p)), (2, .int (0 : Int32)), (3, .int s), (4, .int (Int32.ofNat q))] [.int (Int32.ofNat p), .int (Int32.ofNat q)] g u (fun big n0 => sg_rf_26 big n0 g u (Int32.ofNat p) s (Int32.ofNat q)) ?_
    refine q_ic_eq rfl (fun (hc1 : (Int32.ofNat q) = (Int32.ofNat p)) => ?_) (fun (hc1 : ¬ ((Int32.ofNat q) = (Int32.ofNat p))) => ?_)
    · refine q_step 7 59 [(0, .ref 70), (1, .int (Int32.ofNat p)), (2, .int (0 : Int32)), (3, .int s), (4, .int (Int32.ofNat q)), (5, .int (0 : Int32))] [.long (4 : Int64), .long (1 : Int64), .long (0 : Int64)] g u (fun big n0 => sg_rf_27 big n0 g u (Int32.ofNat p) s (Int32.ofNat q)) ?_
      refine q_call (M2 := 149) (rest := []) ((show q_BS 149 [.long (0 : Int64), .long (1 : Int64), .long (4 : Int64)] g u (some (.int 0), g, u) from b_in 0 1 4 g u)) (fun _ _ => rfl) ?_
      refine q_step 3 5 [(0, .ref 70), (1, .int (Int32.ofNat p)), (2, .int (0 : Int32)), (3, .int s), (4, .int ((Int32.ofNat q) + (1 : Int32))), (5, .int (0 : Int32))] [] g u (fun big n0 => sg_rf_28 big n0 g u (Int32.ofNat p) s (Int32.ofNat q)) ?_
      refine q_weak [(0, .ref 70), (1, .int (Int32.ofNat p)), (2, .int (0 : Int32)), (3, .int s), (4, .int ((Int32.ofNat q) + (1 : Int32)))] (q_sub.cons rfl (q_sub.cons rfl (q_sub.cons rfl (q_sub.cons rfl (q_sub.cons rfl q_sub.nil))))) ?_
      rw [q_succ]
      have e : (s_rt (g 70 2) (g 75) (g 76) (g 71) 0 p) q = 0 := by
        unfold s_rt
        rw [if_pos ((q_eq (by omega) (by omega)).mp hc1)]
      rw [s_sf, e, Int32.zero_add]
      exact ih (q + 1) s (by omega)
    · refine q_step 3 25 [(0, .ref 70), (1, .int (Int32.ofNat p)), (2, .int (0 : Int32)), (3, .int s), (4, .int (Int32.ofNat q))] [.int (Int32.ofNat p), .ref 76] g u (fun big n0 => sg_rf_29 big n0 g u (Int32.ofNat p) s (Int32.ofNat q)) ?_
      refine q_iald (j := p) (q_ixn (by omega) (by omega)) rfl rfl ?_
      refine q_if_eq rfl (fun (hc2 : (g 76 p) = 0) => ?_) (fun (hc2 : ¬ ((g 76 p) = 0)) => ?_)
      · refine q_step 7 59 [(0, .ref 70), (1, .int (Int32.ofNat p)), (2, .int (0 : Int32)), (3, .int s), (4, .int (Int32.ofNat q)), (5, .int (0 : Int32))] [.long (4 : Int64), .long (1 : Int64), .long (0 : Int64)] g u (fun big n0 => sg_rf_27 big n0 g u (Int32.ofNat p) s (Int32.ofNat q)) ?_
        refine q_call (M2 := 149) (rest := []) ((show q_BS 149 [.long (0 : Int64), .long (1 : Int64), .long (4 : Int64)] g u (some (.int 0), g, u) from b_in 0 1 4 g u)) (fun _ _ => rfl) ?_
        refine q_step 3 5 [(0, .ref 70), (1, .int (Int32.ofNat p)), (2, .int (0 : Int32)), (3, .int s), (4, .int ((Int32.ofNat q) + (1 : Int32))), (5, .int (0 : Int32))] [] g u (fun big n0 => sg_rf_28 big n0 g u (Int32.ofNat p) s (Int32.ofNat q)) ?_
        refine q_weak [(0, .ref 70), (1, .int (Int32.ofNat p)), (2, .int (0 : Int32)), (3, .int s), (4, .int ((Int32.ofNat q) + (1 : Int32)))] (q_sub.cons rfl (q_sub.cons rfl (q_sub.cons rfl (q_sub.cons rfl (q_sub.cons rfl q_sub.nil))))) ?_
        rw [q_succ]
        have e : (s_rt (g 70 2) (g 75) (g 76) (g 71) 0 p) q = 0 := by
          unfold s_rt
          rw [if_neg (fun z => hc1 (by rw [z])), if_pos hc2]
        rw [s_sf, e, Int32.zero_add]
        exact ih (q + 1) s (by omega)
      · refine q_step 3 35 [(0, .ref 70), (1, .int (Int32.ofNat p)), (2, .int (0 : Int32)), (3, .int s), (4, .int (Int32.ofNat q))] [.int (Int32.ofNat q), .ref 76] g u (fun big n0 => sg_rf_30 big n0 g u (Int32.ofNat p) s (Int32.ofNat q)) ?_
        refine q_iald (j := q) (q_ixn (by omega) (by omega)) rfl rfl ?_
        refine q_if_ne rfl (fun (hc3 : (g 76 q) = 0) => ?_) (fun (hc3 : ¬ ((g 76 q) = 0)) => ?_)
        · refine q_step 7 59 [(0, .ref 70), (1, .int (Int32.ofNat p)), (2, .int (0 : Int32)), (3, .int s), (4, .int (Int32.ofNat q)), (5, .int (0 : Int32))] [.long (4 : Int64), .long (1 : Int64), .long (0 : Int64)] g u (fun big n0 => sg_rf_27 big n0 g u (Int32.ofNat p) s (Int32.ofNat q)) ?_
          refine q_call (M2 := 149) (rest := []) ((show q_BS 149 [.long (0 : Int64), .long (1 : Int64), .long (4 : Int64)] g u (some (.int 0), g, u) from b_in 0 1 4 g u)) (fun _ _ => rfl) ?_
          refine q_step 3 5 [(0, .ref 70), (1, .int (Int32.ofNat p)), (2, .int (0 : Int32)), (3, .int s), (4, .int ((Int32.ofNat q) + (1 : Int32))), (5, .int (0 : Int32))] [] g u (fun big n0 => sg_rf_28 big n0 g u (Int32.ofNat p) s (Int32.ofNat q)) ?_
          refine q_weak [(0, .ref 70), (1, .int (Int32.ofNat p)), (2, .int (0 : Int32)), (3, .int s), (4, .int ((Int32.ofNat q) + (1 : Int32)))] (q_sub.cons rfl (q_sub.cons rfl (q_sub.cons rfl (q_sub.cons rfl (q_sub.cons rfl q_sub.nil))))) ?_
          rw [q_succ]
          have e : (s_rt (g 70 2) (g 75) (g 76) (g 71) 0 p) q = 0 := by
            unfold s_rt
            rw [if_neg (fun z => hc1 (by rw [z])), if_neg hc2, if_pos hc3]
          rw [s_sf, e, Int32.zero_add]
          exact ih (q + 1) s (by omega)
        · refine q_step 3 47 [(0, .ref 70), (1, .int (Int32.ofNat p)), (2, .int (0 : Int32)), (3, .int s), (4, .int (Int32.ofNat q))] [.int (Int32.ofNat q), .int (Int32.ofNat p), .ref 70] g u (fun big n0 => sg_rf_31 big n0 g u (Int32.ofNat p) s (Int32.ofNat q)) ?_
          refine q_call (M2 := 185) (rest := []) (b_apart g u (by omega) (by omega) hw) (fun _ _ => rfl) ?_
          refine q_step 5 59 [(0, .ref 70), (1, .int (Int32.ofNat p)), (2, .int (0 : Int32)), (3, .int s), (4, .int (Int32.ofNat q)), (5, .int (s_far (g 70 2) (g 75 q) (g 75 p)))] [.long (4 : Int64), .long (1 : Int64), .long (Int32.toInt64 (s_far (g 70 2) (g 75 q) (g 75 p)))] g u (fun big n0 => sg_rf_32 big n0 g u (Int32.ofNat p) s (Int32.ofNat q) (s_far (g 70 2) (g 75 q) (g 75 p))) ?_
          refine q_call (M2 := 149) (rest := []) (b_in _ _ _ _ _) (fun _ _ => rfl) ?_
          refine q_if_eq rfl (fun (hc4 : (s_in (Int32.toInt64 (s_far (g 70 2) (g 75 q) (g 75 p))) (1 : Int64) (4 : Int64)) = 0) => ?_) (fun (hc4 : ¬ ((s_in (Int32.toInt64 (s_far (g 70 2) (g 75 q) (g 75 p))) (1 : Int64) (4 : Int64)) = 0)) => ?_)
          · refine q_step 2 5 [(0, .ref 70), (1, .int (Int32.ofNat p)), (2, .int (0 : Int32)), (3, .int s), (4, .int ((Int32.ofNat q) + (1 : Int32))), (5, .int (s_far (g 70 2) (g 75 q) (g 75 p)))] [] g u (fun big n0 => sg_rf_33 big n0 g u (Int32.ofNat p) s (Int32.ofNat q) (s_far (g 70 2) (g 75 q) (g 75 p))) ?_
            refine q_weak [(0, .ref 70), (1, .int (Int32.ofNat p)), (2, .int (0 : Int32)), (3, .int s), (4, .int ((Int32.ofNat q) + (1 : Int32)))] (q_sub.cons rfl (q_sub.cons rfl (q_sub.cons rfl (q_sub.cons rfl (q_sub.cons rfl q_sub.nil))))) ?_
            rw [q_succ]
            have e : (s_rt (g 70 2) (g 75) (g 76) (g 71) 0 p) q = 0 := by
              unfold s_rt
              rw [if_neg (fun z => hc1 (by rw [z])), if_neg hc2, if_neg hc3, if_pos hc4]
            rw [s_sf, e, Int32.zero_add]
            exact ih (q + 1) s (by omega)
          · refine q_step 5 105 [(0, .ref 70), (1, .int (Int32.ofNat p)), (2, .int (0 : Int32)), (3, .int s), (4, .int (Int32.ofNat q)), (5, .int (s_far (g 70 2) (g 75 q) (g 75 p)))] [.int (Int32.ofNat q), .ref 75] g u (fun big n0 => sg_rf_34 big n0 g u (Int32.ofNat p) s (Int32.ofNat q) (s_far (g 70 2) (g 75 q) (g 75 p))) ?_
            refine q_iald (j := q) (q_ixn (by omega) (by omega)) rfl rfl ?_
            refine q_step 2 110 [(0, .ref 70), (1, .int (Int32.ofNat p)), (2, .int (0 : Int32)), (3, .int s), (4, .int (Int32.ofNat q)), (5, .int (s_far (g 70 2) (g 75 q) (g 75 p)))] [.int (g 70 2), .int (g 75 q)] g u (fun big n0 => sg_rf_35 big n0 g u (Int32.ofNat p) s (Int32.ofNat q) (s_far (g 70 2) (g 75 q) (g 75 p)) (g 75 q)) ?_
            refine q_irem (hw) rfl ?_
            refine q_step 3 116 [(0, .ref 70), (1, .int (Int32.ofNat p)), (2, .int (0 : Int32)), (3, .int s), (4, .int (Int32.ofNat q)), (5, .int (s_far (g 70 2) (g 75 q) (g 75 p)))] [.int (Int32.ofNat p), .ref 75, .int ((g 75 q) - (g 75 q) / (g 70 2) * (g 70 2))] g u (fun big n0 => sg_rf_36 big n0 g u (Int32.ofNat p) s (Int32.ofNat q) (s_far (g 70 2) (g 75 q) (g 75 p)) ((g 75 q) - (g 75 q) / (g 70 2) * (g 70 2))) ?_
            refine q_iald (j := p) (q_ixn (by omega) (by omega)) rfl rfl ?_
            refine q_step 2 121 [(0, .ref 70), (1, .int (Int32.ofNat p)), (2, .int (0 : Int32)), (3, .int s), (4, .int (Int32.ofNat q)), (5, .int (s_far (g 70 2) (g 75 q) (g 75 p)))] [.int (g 70 2), .int (g 75 p), .int ((g 75 q) - (g 75 q) / (g 70 2) * (g 70 2))] g u (fun big n0 => sg_rf_37 big n0 g u (Int32.ofNat p) s (Int32.ofNat q) (s_far (g 70 2) (g 75 q) (g 75 p)) ((g 75 q) - (g 75 q) / (g 70 2) * (g 70 2)) (g 75 p)) ?_
            refine q_irem (hw) rfl ?_
            refine q_step 1 123 [(0, .ref 70), (1, .int (Int32.ofNat p)), (2, .int (0 : Int32)), (3, .int s), (4, .int (Int32.ofNat q)), (5, .int (s_far (g 70 2) (g 75 q) (g 75 p)))] [.int (((g 75 q) - (g 75 q) / (g 70 2) * (g 70 2)) - ((g 75 p) - (g 75 p) / (g 70 2) * (g 70 2)))] g u (fun big n0 => sg_rf_38 big n0 g u (Int32.ofNat p) s (Int32.ofNat q) (s_far (g 70 2) (g 75 q) (g 75 p)) ((g 75 q) - (g 75 q) / (g 70 2) * (g 70 2)) ((g 75 p) - (g 75 p) / (g 70 2) * (g 70 2))) ?_
            refine q_call (M2 := 187) (rest := []) (b_sgn _ _ _) (fun _ _ => rfl) ?_
            refine q_step 9 140 [(0, .ref 70), (1, .int (Int32.ofNat p)), (2, .int (0 : Int32)), (3, .int s), (4, .int (Int32.ofNat q)), (5, .int (s_far (g 70 2) (g 75 q) (g 75 p))), (6, .int (s_sgn (((g 75 q) - (g 75 q) / (g 70 2) * (g 70 2)) - ((g 75 p) - (g 75 p) / (g 70 2) * (g 70 2)))))] [.int (((21 : Int32) + (s_far (g 70 2) (g 75 q) (g 75 p))) - (1 : Int32)), .ref 71, .int s] g u (fun big n0 => sg_rf_39 big n0 g u (Int32.ofNat p) s (Int32.ofNat q) (s_far (g 70 2) (g 75 q) (g 75 p)) (s_sgn (((g 75 q) - (g 75 q) / (g 70 2) * (g 70 2)) - ((g 75 p) - (g 75 p) / (g 70 2) * (g 70 2))))) ?_
            refine q_iald (j := ((((21 : Int32) + (s_far (g 70 2) (g 75 q) (g 75 p))) - (1 : Int32))).toInt.toNat) (by have h0 := s_in_i.mp (by assumption); have z1 : (1 : Int64).toInt = 1 := rfl; have z4 : (4 : Int64).toInt = 4 := rfl; rw [z1, z4] at h0; have h1 := s_pli h0.1 h0.2; exact q_ixi (by omega) (by omega)) rfl rfl ?_
            refine q_step 3 147 [(0, .ref 70), (1, .int (Int32.ofNat p)), (2, .int (0 : Int32)), (3, .int s), (4, .int (Int32.ofNat q)), (5, .int (s_far (g 70 2) (g 75 q) (g 75 p))), (6, .int (s_sgn (((g 75 q) - (g 75 q) / (g 70 2) * (g 70 2)) - ((g 75 p) - (g 75 p) / (g 70 2) * (g 70 2)))))] [.int (Int32.ofNat q), .ref 76, .int (g 71 ((((21 : Int32) + (s_far (g 70 2) (g 75 q) (g 75 p))) - (1 : Int32))).toInt.toNat), .int s] g u (fun big n0 => sg_rf_40 big n0 g u (Int32.ofNat p) s (Int32.ofNat q) (s_far (g 70 2) (g 75 q) (g 75 p)) (s_sgn (((g 75 q) - (g 75 q) / (g 70 2) * (g 70 2)) - ((g 75 p) - (g 75 p) / (g 70 2) * (g 70 2)))) s (g 71 ((((21 : Int32) + (s_far (g 70 2) (g 75 q) (g 75 p))) - (1 : Int32))).toInt.toNat)) ?_
            refine q_iald (j := q) (q_ixn (by omega) (by omega)) rfl rfl ?_
            refine q_step 3 153 [(0, .ref 70), (1, .int (Int32.ofNat p)), (2, .int (0 : Int32)), (3, .int s), (4, .int (Int32.ofNat q)), (5, .int (s_far (g 70 2) (g 75 q) (g 75 p))), (6, .int (s_sgn (((g 75 q) - (g 75 q) / (g 70 2) * (g 70 2)) - ((g 75 p) - (g 75 p) / (g 70 2) * (g 70 2)))))] [.int (Int32.ofNat p), .ref 76, .int (g 76 q), .int (g 71 ((((21 : Int32) + (s_far (g 70 2) (g 75 q) (g 75 p))) - (1 : Int32))).toInt.toNat), .int s] g u (fun big n0 => sg_rf_41 big n0 g u (Int32.ofNat p) s (Int32.ofNat q) (s_far (g 70 2) (g 75 q) (g 75 p)) (s_sgn (((g 75 q) - (g 75 q) / (g 70 2) * (g 70 2)) - ((g 75 p) - (g 75 p) / (g 70 2) * (g 70 2)))) s (g 71 ((((21 : Int32) + (s_far (g 70 2) (g 75 q) (g 75 p))) - (1 : Int32))).toInt.toNat) (g 76 q)) ?_
            refine q_iald (j := p) (q_ixn (by omega) (by omega)) rfl rfl ?_
            refine q_ic_ne rfl (fun (hc5 : (g 76 q) = (g 76 p)) => ?_) (fun (hc5 : ¬ ((g 76 q) = (g 76 p))) => ?_)
            · refine q_step 8 5 [(0, .ref 70), (1, .int (Int32.ofNat p)), (2, .int (0 : Int32)), (3, .int (s + ((g 71 ((((21 : Int32) + (s_far (g 70 2) (g 75 q) (g 75 p))) - (1 : Int32))).toInt.toNat) * (-(s_sgn (((g 75 q) - (g 75 q) / (g 70 2) * (g 70 2)) - ((g 75 p) - (g 75 p) / (g 70 2) * (g 70 2)))))))), (4, .int ((Int32.ofNat q) + (1 : Int32))), (5, .int (s_far (g 70 2) (g 75 q) (g 75 p))), (6, .int (s_sgn (((g 75 q) - (g 75 q) / (g 70 2) * (g 70 2)) - ((g 75 p) - (g 75 p) / (g 70 2) * (g 70 2)))))] [] g u (fun big n0 => sg_rf_42 big n0 g u (Int32.ofNat p) s (Int32.ofNat q) (s_far (g 70 2) (g 75 q) (g 75 p)) (s_sgn (((g 75 q) - (g 75 q) / (g 70 2) * (g 70 2)) - ((g 75 p) - (g 75 p) / (g 70 2) * (g 70 2)))) s (g 71 ((((21 : Int32) + (s_far (g 70 2) (g 75 q) (g 75 p))) - (1 : Int32))).toInt.toNat)) ?_
              refine q_weak [(0, .ref 70), (1, .int (Int32.ofNat p)), (2, .int (0 : Int32)), (3, .int (s + ((g 71 ((((21 : Int32) + (s_far (g 70 2) (g 75 q) (g 75 p))) - (1 : Int32))).toInt.toNat) * (-(s_sgn (((g 75 q) - (g 75 q) / (g 70 2) * (g 70 2)) - ((g 75 p) - (g 75 p) / (g 70 2) * (g 70 2)))))))), (4, .int ((Int32.ofNat q) + (1 : Int32)))] (q_sub.cons rfl (q_sub.cons rfl (q_sub.cons rfl (q_sub.cons rfl (q_sub.cons rfl q_sub.nil))))) ?_
              rw [q_succ]
              have e : (s_rt (g 70 2) (g 75) (g 76) (g 71) 0 p) q = ((g 71 ((((21 : Int32) + (s_far (g 70 2) (g 75 q) (g 75 p))) - (1 : Int32))).toInt.toNat) * (-(s_sgn (((g 75 q) - (g 75 q) / (g 70 2) * (g 70 2)) - ((g 75 p) - (g 75 p) / (g 70 2) * (g 70 2)))))) := by
                unfold s_rt
                rw [if_neg (fun z => hc1 (by rw [z])), if_neg hc2, if_neg hc3, if_neg hc4, if_pos hc5]
                first
                  | rfl
                  | (simp only [if_pos, if_neg]; rfl)
              rw [s_sf, e, ← Int32.add_assoc]
              exact ih (q + 1) _ (by omega)
            · refine q_step 6 5 [(0, .ref 70), (1, .int (Int32.ofNat p)), (2, .int (0 : Int32)), (3, .int (s + ((g 71 ((((21 : Int32) + (s_far (g 70 2) (g 75 q) (g 75 p))) - (1 : Int32))).toInt.toNat) * (s_sgn (((g 75 q) - (g 75 q) / (g 70 2) * (g 70 2)) - ((g 75 p) - (g 75 p) / (g 70 2) * (g 70 2))))))), (4, .int ((Int32.ofNat q) + (1 : Int32))), (5, .int (s_far (g 70 2) (g 75 q) (g 75 p))), (6, .int (s_sgn (((g 75 q) - (g 75 q) / (g 70 2) * (g 70 2)) - ((g 75 p) - (g 75 p) / (g 70 2) * (g 70 2)))))] [] g u (fun big n0 => sg_rf_43 big n0 g u (Int32.ofNat p) s (Int32.ofNat q) (s_far (g 70 2) (g 75 q) (g 75 p)) (s_sgn (((g 75 q) - (g 75 q) / (g 70 2) * (g 70 2)) - ((g 75 p) - (g 75 p) / (g 70 2) * (g 70 2)))) s (g 71 ((((21 : Int32) + (s_far (g 70 2) (g 75 q) (g 75 p))) - (1 : Int32))).toInt.toNat)) ?_
              refine q_weak [(0, .ref 70), (1, .int (Int32.ofNat p)), (2, .int (0 : Int32)), (3, .int (s + ((g 71 ((((21 : Int32) + (s_far (g 70 2) (g 75 q) (g 75 p))) - (1 : Int32))).toInt.toNat) * (s_sgn (((g 75 q) - (g 75 q) / (g 70 2) * (g 70 2)) - ((g 75 p) - (g 75 p) / (g 70 2) * (g 70 2))))))), (4, .int ((Int32.ofNat q) + (1 : Int32)))] (q_sub.cons rfl (q_sub.cons rfl (q_sub.cons rfl (q_sub.cons rfl (q_sub.cons rfl q_sub.nil))))) ?_
              rw [q_succ]
              have e : (s_rt (g 70 2) (g 75) (g 76) (g 71) 0 p) q = ((g 71 ((((21 : Int32) + (s_far (g 70 2) (g 75 q) (g 75 p))) - (1 : Int32))).toInt.toNat) * (s_sgn (((g 75 q) - (g 75 q) / (g 70 2) * (g 70 2)) - ((g 75 p) - (g 75 p) / (g 70 2) * (g 70 2))))) := by
                unfold s_rt
                rw [if_neg (fun z => hc1 (by rw [z])), if_neg hc2, if_neg hc3, if_neg hc4, if_neg hc5]
                first
                  | rfl
                  | (simp only [if_pos, if_neg]; rfl)
              rw [s_sf, e, ← Int32.add_assoc]
              exact ih (q + 1) _ (by omega)
theorem b_rf0 (g : qM) (u : qW) {n p : Nat} (hn : g 70 27 = Int32.ofNat n) (h6 : n ≤ 6) (hp : p < n) (hw : g 70 2 ≠ 0) : q_BS 184 [.ref 70, .int (Int32.ofNat p), .int (0 : Int32)] g u (some (.int (s_rf (g 70 2) (g 75) (g 76) (g 71) n 0 p)), g, u) := by
  refine q_bx (mm := m_184) rfl (Nat.le_of_ble_eq_true rfl) rfl ?_
  refine q_step 4 5 [(0, .ref 70), (1, .int (Int32.ofNat p)), (2, .int (0 : Int32)), (3, .int (0 : Int32)), (4, .int (0 : Int32))] [] g u (fun big n0 => sg_rf_44 big n0 g u (Int32.ofNat p)) ?_
  exact rf_l0 g u hn h6 hp hw n 0 0 (by omega)
theorem rf_l1 (g : qM) (u : qW) {n p : Nat} (hn : g 70 27 = Int32.ofNat n) (h6 : n ≤ 6) (hp : p < n) (hw : g 70 2 ≠ 0) : ∀ k q s, q + k = n → q_EV m_184 5 [(0, .ref 70), (1, .int (Int32.ofNat p)), (2, .int (1 : Int32)), (3, .int s), (4, .int (Int32.ofNat q))] [] g u (fun R => R = (some (.int (s + s_sf (s_rt (g 70 2) (g 75) (g 76) (g 71) 1 p) k q)), g, u)) := by
  intro k
  induction k with
  | zero =>
    intro q s hq
    refine q_step 3 11 [(0, .ref 70), (1, .int (Int32.ofNat p)), (2, .int (1 : Int32)), (3, .int s), (4, .int (Int32.ofNat q))] [.int (g 70 27), .int (Int32.ofNat q)] g u (fun big n0 => sg_rf_45 big n0 g u (Int32.ofNat p) s (Int32.ofNat q)) ?_
    refine q_ic_ge rfl (fun (hc0 : (g 70 27) ≤ (Int32.ofNat q)) => ?_) (fun hc0 => absurd (show (g 70 27) ≤ (Int32.ofNat q) from by rw [hn, q_le (by omega) (by omega)]; omega) hc0)
    refine q_ret 2 (some (.int s), g, u) (fun _ _ => rfl) ?_
    show _ = _
    rw [s_sf, Int32.add_zero]
  | succ k ih =>
    intro q s hq
    refine q_step 3 11 [(0, .ref 70), (1, .int (Int32.ofNat p)), (2, .int (1 : Int32)), (3, .int s), (4, .int (Int32.ofNat q))] [.int (g 70 27), .int (Int32.ofNat q)] g u (fun big n0 => sg_rf_45 big n0 g u (Int32.ofNat p) s (Int32.ofNat q)) ?_
    refine q_ic_ge rfl (fun hc0 => absurd (show (g 70 27) ≤ (Int32.ofNat q) from hc0) (fun z => by rw [hn, q_le (by omega) (by omega)] at z; omega)) (fun (hc0 : ¬ ((g 70 27) ≤ (Int32.ofNat q))) => ?_)
    refine q_step 2 17 [(0, .ref 70), (1, .int (Int32.ofNat p)), (2, .int (1 : Int32)), (3, .int s), (4, .int (Int32.ofNat q))] [.int (Int32.ofNat p), .int (Int32.ofNat q)] g u (fun big n0 => sg_rf_46 big n0 g u (Int32.ofNat p) s (Int32.ofNat q)) ?_
    refine q_ic_eq rfl (fun (hc1 : (Int32.ofNat q) = (Int32.ofNat p)) => ?_) (fun (hc1 : ¬ ((Int32.ofNat q) = (Int32.ofNat p))) => ?_)
    · refine q_step 7 59 [(0, .ref 70), (1, .int (Int32.ofNat p)), (2, .int (1 : Int32)), (3, .int s), (4, .int (Int32.ofNat q)), (5, .int (0 : Int32))] [.long (4 : Int64), .long (1 : Int64), .long (0 : Int64)] g u (fun big n0 => sg_rf_47 big n0 g u (Int32.ofNat p) s (Int32.ofNat q)) ?_
      refine q_call (M2 := 149) (rest := []) ((show q_BS 149 [.long (0 : Int64), .long (1 : Int64), .long (4 : Int64)] g u (some (.int 0), g, u) from b_in 0 1 4 g u)) (fun _ _ => rfl) ?_
      refine q_step 3 5 [(0, .ref 70), (1, .int (Int32.ofNat p)), (2, .int (1 : Int32)), (3, .int s), (4, .int ((Int32.ofNat q) + (1 : Int32))), (5, .int (0 : Int32))] [] g u (fun big n0 => sg_rf_48 big n0 g u (Int32.ofNat p) s (Int32.ofNat q)) ?_
      refine q_weak [(0, .ref 70), (1, .int (Int32.ofNat p)), (2, .int (1 : Int32)), (3, .int s), (4, .int ((Int32.ofNat q) + (1 : Int32)))] (q_sub.cons rfl (q_sub.cons rfl (q_sub.cons rfl (q_sub.cons rfl (q_sub.cons rfl q_sub.nil))))) ?_
      rw [q_succ]
      have e : (s_rt (g 70 2) (g 75) (g 76) (g 71) 1 p) q = 0 := by
        unfold s_rt
        rw [if_pos ((q_eq (by omega) (by omega)).mp hc1)]
      rw [s_sf, e, Int32.zero_add]
      exact ih (q + 1) s (by omega)
    · refine q_step 3 25 [(0, .ref 70), (1, .int (Int32.ofNat p)), (2, .int (1 : Int32)), (3, .int s), (4, .int (Int32.ofNat q))] [.int (Int32.ofNat p), .ref 76] g u (fun big n0 => sg_rf_49 big n0 g u (Int32.ofNat p) s (Int32.ofNat q)) ?_
      refine q_iald (j := p) (q_ixn (by omega) (by omega)) rfl rfl ?_
      refine q_if_eq rfl (fun (hc2 : (g 76 p) = 0) => ?_) (fun (hc2 : ¬ ((g 76 p) = 0)) => ?_)
      · refine q_step 7 59 [(0, .ref 70), (1, .int (Int32.ofNat p)), (2, .int (1 : Int32)), (3, .int s), (4, .int (Int32.ofNat q)), (5, .int (0 : Int32))] [.long (4 : Int64), .long (1 : Int64), .long (0 : Int64)] g u (fun big n0 => sg_rf_47 big n0 g u (Int32.ofNat p) s (Int32.ofNat q)) ?_
        refine q_call (M2 := 149) (rest := []) ((show q_BS 149 [.long (0 : Int64), .long (1 : Int64), .long (4 : Int64)] g u (some (.int 0), g, u) from b_in 0 1 4 g u)) (fun _ _ => rfl) ?_
        refine q_step 3 5 [(0, .ref 70), (1, .int (Int32.ofNat p)), (2, .int (1 : Int32)), (3, .int s), (4, .int ((Int32.ofNat q) + (1 : Int32))), (5, .int (0 : Int32))] [] g u (fun big n0 => sg_rf_48 big n0 g u (Int32.ofNat p) s (Int32.ofNat q)) ?_
        refine q_weak [(0, .ref 70), (1, .int (Int32.ofNat p)), (2, .int (1 : Int32)), (3, .int s), (4, .int ((Int32.ofNat q) + (1 : Int32)))] (q_sub.cons rfl (q_sub.cons rfl (q_sub.cons rfl (q_sub.cons rfl (q_sub.cons rfl q_sub.nil))))) ?_
        rw [q_succ]
        have e : (s_rt (g 70 2) (g 75) (g 76) (g 71) 1 p) q = 0 := by
          unfold s_rt
          rw [if_neg (fun z => hc1 (by rw [z])), if_pos hc2]
        rw [s_sf, e, Int32.zero_add]
        exact ih (q + 1) s (by omega)
      · refine q_step 3 35 [(0, .ref 70), (1, .int (Int32.ofNat p)), (2, .int (1 : Int32)), (3, .int s), (4, .int (Int32.ofNat q))] [.int (Int32.ofNat q), .ref 76] g u (fun big n0 => sg_rf_50 big n0 g u (Int32.ofNat p) s (Int32.ofNat q)) ?_
        refine q_iald (j := q) (q_ixn (by omega) (by omega)) rfl rfl ?_
        refine q_if_ne rfl (fun (hc3 : (g 76 q) = 0) => ?_) (fun (hc3 : ¬ ((g 76 q) = 0)) => ?_)
        · refine q_step 7 59 [(0, .ref 70), (1, .int (Int32.ofNat p)), (2, .int (1 : Int32)), (3, .int s), (4, .int (Int32.ofNat q)), (5, .int (0 : Int32))] [.long (4 : Int64), .long (1 : Int64), .long (0 : Int64)] g u (fun big n0 => sg_rf_47 big n0 g u (Int32.ofNat p) s (Int32.ofNat q)) ?_
          refine q_call (M2 := 149) (rest := []) ((show q_BS 149 [.long (0 : Int64), .long (1 : Int64), .long (4 : Int64)] g u (some (.int 0), g, u) from b_in 0 1 4 g u)) (fun _ _ => rfl) ?_
          refine q_step 3 5 [(0, .ref 70), (1, .int (Int32.ofNat p)), (2, .int (1 : Int32)), (3, .int s), (4, .int ((Int32.ofNat q) + (1 : Int32))), (5, .int (0 : Int32))] [] g u (fun big n0 => sg_rf_48 big n0 g u (Int32.ofNat p) s (Int32.ofNat q)) ?_
          refine q_weak [(0, .ref 70), (1, .int (Int32.ofNat p)), (2, .int (1 : Int32)), (3, .int s), (4, .int ((Int32.ofNat q) + (1 : Int32)))] (q_sub.cons rfl (q_sub.cons rfl (q_sub.cons rfl (q_sub.cons rfl (q_sub.cons rfl q_sub.nil))))) ?_
          rw [q_succ]
          have e : (s_rt (g 70 2) (g 75) (g 76) (g 71) 1 p) q = 0 := by
            unfold s_rt
            rw [if_neg (fun z => hc1 (by rw [z])), if_neg hc2, if_pos hc3]
          rw [s_sf, e, Int32.zero_add]
          exact ih (q + 1) s (by omega)
        · refine q_step 3 47 [(0, .ref 70), (1, .int (Int32.ofNat p)), (2, .int (1 : Int32)), (3, .int s), (4, .int (Int32.ofNat q))] [.int (Int32.ofNat q), .int (Int32.ofNat p), .ref 70] g u (fun big n0 => sg_rf_51 big n0 g u (Int32.ofNat p) s (Int32.ofNat q)) ?_
          refine q_call (M2 := 185) (rest := []) (b_apart g u (by omega) (by omega) hw) (fun _ _ => rfl) ?_
          refine q_step 5 59 [(0, .ref 70), (1, .int (Int32.ofNat p)), (2, .int (1 : Int32)), (3, .int s), (4, .int (Int32.ofNat q)), (5, .int (s_far (g 70 2) (g 75 q) (g 75 p)))] [.long (4 : Int64), .long (1 : Int64), .long (Int32.toInt64 (s_far (g 70 2) (g 75 q) (g 75 p)))] g u (fun big n0 => sg_rf_52 big n0 g u (Int32.ofNat p) s (Int32.ofNat q) (s_far (g 70 2) (g 75 q) (g 75 p))) ?_
          refine q_call (M2 := 149) (rest := []) (b_in _ _ _ _ _) (fun _ _ => rfl) ?_
          refine q_if_eq rfl (fun (hc4 : (s_in (Int32.toInt64 (s_far (g 70 2) (g 75 q) (g 75 p))) (1 : Int64) (4 : Int64)) = 0) => ?_) (fun (hc4 : ¬ ((s_in (Int32.toInt64 (s_far (g 70 2) (g 75 q) (g 75 p))) (1 : Int64) (4 : Int64)) = 0)) => ?_)
          · refine q_step 2 5 [(0, .ref 70), (1, .int (Int32.ofNat p)), (2, .int (1 : Int32)), (3, .int s), (4, .int ((Int32.ofNat q) + (1 : Int32))), (5, .int (s_far (g 70 2) (g 75 q) (g 75 p)))] [] g u (fun big n0 => sg_rf_53 big n0 g u (Int32.ofNat p) s (Int32.ofNat q) (s_far (g 70 2) (g 75 q) (g 75 p))) ?_
            refine q_weak [(0, .ref 70), (1, .int (Int32.ofNat p)), (2, .int (1 : Int32)), (3, .int s), (4, .int ((Int32.ofNat q) + (1 : Int32)))] (q_sub.cons rfl (q_sub.cons rfl (q_sub.cons rfl (q_sub.cons rfl (q_sub.cons rfl q_sub.nil))))) ?_
            rw [q_succ]
            have e : (s_rt (g 70 2) (g 75) (g 76) (g 71) 1 p) q = 0 := by
              unfold s_rt
              rw [if_neg (fun z => hc1 (by rw [z])), if_neg hc2, if_neg hc3, if_pos hc4]
            rw [s_sf, e, Int32.zero_add]
            exact ih (q + 1) s (by omega)
          · refine q_step 5 75 [(0, .ref 70), (1, .int (Int32.ofNat p)), (2, .int (1 : Int32)), (3, .int s), (4, .int (Int32.ofNat q)), (5, .int (s_far (g 70 2) (g 75 q) (g 75 p)))] [.int (Int32.ofNat q), .ref 75] g u (fun big n0 => sg_rf_54 big n0 g u (Int32.ofNat p) s (Int32.ofNat q) (s_far (g 70 2) (g 75 q) (g 75 p))) ?_
            refine q_iald (j := q) (q_ixn (by omega) (by omega)) rfl rfl ?_
            refine q_step 2 80 [(0, .ref 70), (1, .int (Int32.ofNat p)), (2, .int (1 : Int32)), (3, .int s), (4, .int (Int32.ofNat q)), (5, .int (s_far (g 70 2) (g 75 q) (g 75 p)))] [.int (g 70 2), .int (g 75 q)] g u (fun big n0 => sg_rf_55 big n0 g u (Int32.ofNat p) s (Int32.ofNat q) (s_far (g 70 2) (g 75 q) (g 75 p)) (g 75 q)) ?_
            refine q_idiv (hw) rfl ?_
            refine q_step 3 86 [(0, .ref 70), (1, .int (Int32.ofNat p)), (2, .int (1 : Int32)), (3, .int s), (4, .int (Int32.ofNat q)), (5, .int (s_far (g 70 2) (g 75 q) (g 75 p)))] [.int (Int32.ofNat p), .ref 75, .int ((g 75 q) / (g 70 2))] g u (fun big n0 => sg_rf_56 big n0 g u (Int32.ofNat p) s (Int32.ofNat q) (s_far (g 70 2) (g 75 q) (g 75 p)) ((g 75 q) / (g 70 2))) ?_
            refine q_iald (j := p) (q_ixn (by omega) (by omega)) rfl rfl ?_
            refine q_step 2 91 [(0, .ref 70), (1, .int (Int32.ofNat p)), (2, .int (1 : Int32)), (3, .int s), (4, .int (Int32.ofNat q)), (5, .int (s_far (g 70 2) (g 75 q) (g 75 p)))] [.int (g 70 2), .int (g 75 p), .int ((g 75 q) / (g 70 2))] g u (fun big n0 => sg_rf_57 big n0 g u (Int32.ofNat p) s (Int32.ofNat q) (s_far (g 70 2) (g 75 q) (g 75 p)) ((g 75 q) / (g 70 2)) (g 75 p)) ?_
            refine q_idiv (hw) rfl ?_
            refine q_step 1 93 [(0, .ref 70), (1, .int (Int32.ofNat p)), (2, .int (1 : Int32)), (3, .int s), (4, .int (Int32.ofNat q)), (5, .int (s_far (g 70 2) (g 75 q) (g 75 p)))] [.int (((g 75 q) / (g 70 2)) - ((g 75 p) / (g 70 2)))] g u (fun big n0 => sg_rf_58 big n0 g u (Int32.ofNat p) s (Int32.ofNat q) (s_far (g 70 2) (g 75 q) (g 75 p)) ((g 75 q) / (g 70 2)) ((g 75 p) / (g 70 2))) ?_
            refine q_call (M2 := 187) (rest := []) (b_sgn _ _ _) (fun _ _ => rfl) ?_
            refine q_step 10 140 [(0, .ref 70), (1, .int (Int32.ofNat p)), (2, .int (1 : Int32)), (3, .int s), (4, .int (Int32.ofNat q)), (5, .int (s_far (g 70 2) (g 75 q) (g 75 p))), (6, .int (s_sgn (((g 75 q) / (g 70 2)) - ((g 75 p) / (g 70 2)))))] [.int (((21 : Int32) + (s_far (g 70 2) (g 75 q) (g 75 p))) - (1 : Int32)), .ref 71, .int s] g u (fun big n0 => sg_rf_59 big n0 g u (Int32.ofNat p) s (Int32.ofNat q) (s_far (g 70 2) (g 75 q) (g 75 p)) (s_sgn (((g 75 q) / (g 70 2)) - ((g 75 p) / (g 70 2))))) ?_
            refine q_iald (j := ((((21 : Int32) + (s_far (g 70 2) (g 75 q) (g 75 p))) - (1 : Int32))).toInt.toNat) (by have h0 := s_in_i.mp (by assumption); have z1 : (1 : Int64).toInt = 1 := rfl; have z4 : (4 : Int64).toInt = 4 := rfl; rw [z1, z4] at h0; have h1 := s_pli h0.1 h0.2; exact q_ixi (by omega) (by omega)) rfl rfl ?_
            refine q_step 3 147 [(0, .ref 70), (1, .int (Int32.ofNat p)), (2, .int (1 : Int32)), (3, .int s), (4, .int (Int32.ofNat q)), (5, .int (s_far (g 70 2) (g 75 q) (g 75 p))), (6, .int (s_sgn (((g 75 q) / (g 70 2)) - ((g 75 p) / (g 70 2)))))] [.int (Int32.ofNat q), .ref 76, .int (g 71 ((((21 : Int32) + (s_far (g 70 2) (g 75 q) (g 75 p))) - (1 : Int32))).toInt.toNat), .int s] g u (fun big n0 => sg_rf_60 big n0 g u (Int32.ofNat p) s (Int32.ofNat q) (s_far (g 70 2) (g 75 q) (g 75 p)) (s_sgn (((g 75 q) / (g 70 2)) - ((g 75 p) / (g 70 2)))) s (g 71 ((((21 : Int32) + (s_far (g 70 2) (g 75 q) (g 75 p))) - (1 : Int32))).toInt.toNat)) ?_
            refine q_iald (j := q) (q_ixn (by omega) (by omega)) rfl rfl ?_
            refine q_step 3 153 [(0, .ref 70), (1, .int (Int32.ofNat p)), (2, .int (1 : Int32)), (3, .int s), (4, .int (Int32.ofNat q)), (5, .int (s_far (g 70 2) (g 75 q) (g 75 p))), (6, .int (s_sgn (((g 75 q) / (g 70 2)) - ((g 75 p) / (g 70 2)))))] [.int (Int32.ofNat p), .ref 76, .int (g 76 q), .int (g 71 ((((21 : Int32) + (s_far (g 70 2) (g 75 q) (g 75 p))) - (1 : Int32))).toInt.toNat), .int s] g u (fun big n0 => sg_rf_61 big n0 g u (Int32.ofNat p) s (Int32.ofNat q) (s_far (g 70 2) (g 75 q) (g 75 p)) (s_sgn (((g 75 q) / (g 70 2)) - ((g 75 p) / (g 70 2)))) s (g 71 ((((21 : Int32) + (s_far (g 70 2) (g 75 q) (g 75 p))) - (1 : Int32))).toInt.toNat) (g 76 q)) ?_
            refine q_iald (j := p) (q_ixn (by omega) (by omega)) rfl rfl ?_
            refine q_ic_ne rfl (fun (hc5 : (g 76 q) = (g 76 p)) => ?_) (fun (hc5 : ¬ ((g 76 q) = (g 76 p))) => ?_)
            · refine q_step 8 5 [(0, .ref 70), (1, .int (Int32.ofNat p)), (2, .int (1 : Int32)), (3, .int (s + ((g 71 ((((21 : Int32) + (s_far (g 70 2) (g 75 q) (g 75 p))) - (1 : Int32))).toInt.toNat) * (-(s_sgn (((g 75 q) / (g 70 2)) - ((g 75 p) / (g 70 2)))))))), (4, .int ((Int32.ofNat q) + (1 : Int32))), (5, .int (s_far (g 70 2) (g 75 q) (g 75 p))), (6, .int (s_sgn (((g 75 q) / (g 70 2)) - ((g 75 p) / (g 70 2)))))] [] g u (fun big n0 => sg_rf_62 big n0 g u (Int32.ofNat p) s (Int32.ofNat q) (s_far (g 70 2) (g 75 q) (g 75 p)) (s_sgn (((g 75 q) / (g 70 2)) - ((g 75 p) / (g 70 2)))) s (g 71 ((((21 : Int32) + (s_far (g 70 2) (g 75 q) (g 75 p))) - (1 : Int32))).toInt.toNat)) ?_
              refine q_weak [(0, .ref 70), (1, .int (Int32.ofNat p)), (2, .int (1 : Int32)), (3, .int (s + ((g 71 ((((21 : Int32) + (s_far (g 70 2) (g 75 q) (g 75 p))) - (1 : Int32))).toInt.toNat) * (-(s_sgn (((g 75 q) / (g 70 2)) - ((g 75 p) / (g 70 2)))))))), (4, .int ((Int32.ofNat q) + (1 : Int32)))] (q_sub.cons rfl (q_sub.cons rfl (q_sub.cons rfl (q_sub.cons rfl (q_sub.cons rfl q_sub.nil))))) ?_
              rw [q_succ]
              have e : (s_rt (g 70 2) (g 75) (g 76) (g 71) 1 p) q = ((g 71 ((((21 : Int32) + (s_far (g 70 2) (g 75 q) (g 75 p))) - (1 : Int32))).toInt.toNat) * (-(s_sgn (((g 75 q) / (g 70 2)) - ((g 75 p) / (g 70 2)))))) := by
                unfold s_rt
                rw [if_neg (fun z => hc1 (by rw [z])), if_neg hc2, if_neg hc3, if_neg hc4, if_pos hc5]
                first
                  | rfl
                  | (simp only [if_pos, if_neg]; rfl)
              rw [s_sf, e, ← Int32.add_assoc]
              exact ih (q + 1) _ (by omega)
            · refine q_step 6 5 [(0, .ref 70), (1, .int (Int32.ofNat p)), (2, .int (1 : Int32)), (3, .int (s + ((g 71 ((((21 : Int32) + (s_far (g 70 2) (g 75 q) (g 75 p))) - (1 : Int32))).toInt.toNat) * (s_sgn (((g 75 q) / (g 70 2)) - ((g 75 p) / (g 70 2))))))), (4, .int ((Int32.ofNat q) + (1 : Int32))), (5, .int (s_far (g 70 2) (g 75 q) (g 75 p))), (6, .int (s_sgn (((g 75 q) / (g 70 2)) - ((g 75 p) / (g 70 2)))))] [] g u (fun big n0 => sg_rf_63 big n0 g u (Int32.ofNat p) s (Int32.ofNat q) (s_far (g 70 2) (g 75 q) (g 75 p)) (s_sgn (((g 75 q) / (g 70 2)) - ((g 75 p) / (g 70 2)))) s (g 71 ((((21 : Int32) + (s_far (g 70 2) (g 75 q) (g 75 p))) - (1 : Int32))).toInt.toNat)) ?_
              refine q_weak [(0, .ref 70), (1, .int (Int32.ofNat p)), (2, .int (1 : Int32)), (3, .int (s + ((g 71 ((((21 : Int32) + (s_far (g 70 2) (g 75 q) (g 75 p))) - (1 : Int32))).toInt.toNat) * (s_sgn (((g 75 q) / (g 70 2)) - ((g 75 p) / (g 70 2))))))), (4, .int ((Int32.ofNat q) + (1 : Int32)))] (q_sub.cons rfl (q_sub.cons rfl (q_sub.cons rfl (q_sub.cons rfl (q_sub.cons rfl q_sub.nil))))) ?_
              rw [q_succ]
              have e : (s_rt (g 70 2) (g 75) (g 76) (g 71) 1 p) q = ((g 71 ((((21 : Int32) + (s_far (g 70 2) (g 75 q) (g 75 p))) - (1 : Int32))).toInt.toNat) * (s_sgn (((g 75 q) / (g 70 2)) - ((g 75 p) / (g 70 2))))) := by
                unfold s_rt
                rw [if_neg (fun z => hc1 (by rw [z])), if_neg hc2, if_neg hc3, if_neg hc4, if_neg hc5]
                first
                  | rfl
                  | (simp only [if_pos, if_neg]; rfl)
              rw [s_sf, e, ← Int32.add_assoc]
              exact ih (q + 1) _ (by omega)
theorem b_rf1 (g : qM) (u : qW) {n p : Nat} (hn : g 70 27 = Int32.ofNat n) (h6 : n ≤ 6) (hp : p < n) (hw : g 70 2 ≠ 0) : q_BS 184 [.ref 70, .int (Int32.ofNat p), .int (1 : Int32)] g u (some (.int (s_rf (g 70 2) (g 75) (g 76) (g 71) n 1 p)), g, u) := by
  refine q_bx (mm := m_184) rfl (Nat.le_of_ble_eq_true rfl) rfl ?_
  refine q_step 4 5 [(0, .ref 70), (1, .int (Int32.ofNat p)), (2, .int (1 : Int32)), (3, .int (0 : Int32)), (4, .int (0 : Int32))] [] g u (fun big n0 => sg_rf_64 big n0 g u (Int32.ofNat p)) ?_
  exact rf_l1 g u hn h6 hp hw n 0 0 (by omega)
theorem b_rw (g : qM) (u : qW) {n p : Nat} (hn : g 70 27 = Int32.ofNat n) (h6 : n ≤ 6) (hp : p < n) (hw : g 70 2 ≠ 0) : q_BS 189 [.ref 70, .int (Int32.ofNat p)] g u (some (.int (s_rw (g 70 2) (g 75) (g 76) (g 77) (g 71) n p)), g, u) := by
  refine q_bx (mm := m_189) rfl (Nat.le_of_ble_eq_true rfl) rfl ?_
  refine q_step 3 5 [(0, .ref 70), (1, .int (Int32.ofNat p))] [.int (Int32.ofNat p), .ref 77] g u (fun big n0 => sg_rf_65 big n0 g u (Int32.ofNat p)) ?_
  refine q_iald (j := p) (q_ixn (by omega) (by omega)) rfl rfl ?_
  refine q_step 1 7 [(0, .ref 70), (1, .int (Int32.ofNat p))] [.int (1 : Int32), .int (g 77 p)] g u (fun big n0 => sg_rf_66 big n0 g u (Int32.ofNat p) (g 77 p)) ?_
  refine q_ic_ne rfl (fun (hc0 : (g 77 p) = (1 : Int32)) => ?_) (fun (hc0 : ¬ ((g 77 p) = (1 : Int32))) => ?_)
  · refine q_step 6 26 [(0, .ref 70), (1, .int (Int32.ofNat p)), (2, .int (0 : Int32))] [.int (Int32.ofNat p), .ref 77] g u (fun big n0 => sg_rf_67 big n0 g u (Int32.ofNat p)) ?_
    refine q_iald (j := p) (q_ixn (by omega) (by omega)) rfl rfl ?_
    refine q_step 1 28 [(0, .ref 70), (1, .int (Int32.ofNat p)), (2, .int (0 : Int32))] [.int (1 : Int32), .int (g 77 p)] g u (fun big n0 => sg_rf_68 big n0 g u (Int32.ofNat p) (g 77 p)) ?_
    refine q_ic_ne rfl (fun (hc1 : (g 77 p) = (1 : Int32)) => ?_) (fun hc1 => absurd (show (g 77 p) = (1 : Int32) from hc0) hc1)
    refine q_ret 11 (some (.int (4 : Int32)), g, u) (fun _ _ => rfl) ?_
    unfold s_rw s_rway s_rway2
    simp only [hc0, hc1, if_true, if_false]
    all_goals rfl
  · refine q_step 3 17 [(0, .ref 70), (1, .int (Int32.ofNat p))] [.int (0 : Int32), .int (Int32.ofNat p), .ref 70] g u (fun big n0 => sg_rf_69 big n0 g u (Int32.ofNat p)) ?_
    refine q_call (M2 := 184) (rest := []) (b_rf0 g u hn h6 hp hw) (fun _ _ => rfl) ?_
    refine q_step 4 26 [(0, .ref 70), (1, .int (Int32.ofNat p)), (2, .int (s_rf (g 70 2) (g 75) (g 76) (g 71) n 0 p))] [.int (Int32.ofNat p), .ref 77] g u (fun big n0 => sg_rf_70 big n0 g u (Int32.ofNat p) (s_rf (g 70 2) (g 75) (g 76) (g 71) n 0 p)) ?_
    refine q_iald (j := p) (q_ixn (by omega) (by omega)) rfl rfl ?_
    refine q_step 1 28 [(0, .ref 70), (1, .int (Int32.ofNat p)), (2, .int (s_rf (g 70 2) (g 75) (g 76) (g 71) n 0 p))] [.int (1 : Int32), .int (g 77 p)] g u (fun big n0 => sg_rf_71 big n0 g u (Int32.ofNat p) (s_rf (g 70 2) (g 75) (g 76) (g 71) n 0 p) (g 77 p)) ?_
    refine q_ic_ne rfl (fun hc1 => absurd (show (g 77 p) = (1 : Int32) from hc1) (hc0)) (fun (hc1 : ¬ ((g 77 p) = (1 : Int32))) => ?_)
    refine q_step 3 38 [(0, .ref 70), (1, .int (Int32.ofNat p)), (2, .int (s_rf (g 70 2) (g 75) (g 76) (g 71) n 0 p))] [.int (1 : Int32), .int (Int32.ofNat p), .ref 70] g u (fun big n0 => sg_rf_72 big n0 g u (Int32.ofNat p) (s_rf (g 70 2) (g 75) (g 76) (g 71) n 0 p)) ?_
    refine q_call (M2 := 184) (rest := []) (b_rf1 g u hn h6 hp hw) (fun _ _ => rfl) ?_
    refine q_step 2 43 [(0, .ref 70), (1, .int (Int32.ofNat p)), (2, .int (s_rf (g 70 2) (g 75) (g 76) (g 71) n 0 p)), (3, .int (s_rf (g 70 2) (g 75) (g 76) (g 71) n 1 p))] [.int (s_rf (g 70 2) (g 75) (g 76) (g 71) n 0 p)] g u (fun big n0 => sg_rf_73 big n0 g u (Int32.ofNat p) (s_rf (g 70 2) (g 75) (g 76) (g 71) n 0 p) (s_rf (g 70 2) (g 75) (g 76) (g 71) n 1 p)) ?_
    refine q_if_eq rfl (fun (hc2 : (s_rf (g 70 2) (g 75) (g 76) (g 71) n 0 p) = 0) => ?_) (fun (hc2 : ¬ ((s_rf (g 70 2) (g 75) (g 76) (g 71) n 0 p) = 0)) => ?_)
    · refine q_step 1 68 [(0, .ref 70), (1, .int (Int32.ofNat p)), (2, .int (s_rf (g 70 2) (g 75) (g 76) (g 71) n 0 p)), (3, .int (s_rf (g 70 2) (g 75) (g 76) (g 71) n 1 p))] [.int (s_rf (g 70 2) (g 75) (g 76) (g 71) n 1 p)] g u (fun big n0 => sg_rf_74 big n0 g u (Int32.ofNat p) (s_rf (g 70 2) (g 75) (g 76) (g 71) n 0 p) (s_rf (g 70 2) (g 75) (g 76) (g 71) n 1 p)) ?_
      refine q_if_le rfl (fun (hc3 : (s_rf (g 70 2) (g 75) (g 76) (g 71) n 1 p) ≤ 0) => ?_) (fun (hc3 : ¬ ((s_rf (g 70 2) (g 75) (g 76) (g 71) n 1 p) ≤ 0)) => ?_)
      · refine q_step 1 76 [(0, .ref 70), (1, .int (Int32.ofNat p)), (2, .int (s_rf (g 70 2) (g 75) (g 76) (g 71) n 0 p)), (3, .int (s_rf (g 70 2) (g 75) (g 76) (g 71) n 1 p))] [.int (s_rf (g 70 2) (g 75) (g 76) (g 71) n 1 p)] g u (fun big n0 => sg_rf_75 big n0 g u (Int32.ofNat p) (s_rf (g 70 2) (g 75) (g 76) (g 71) n 0 p) (s_rf (g 70 2) (g 75) (g 76) (g 71) n 1 p)) ?_
        refine q_if_ge rfl (fun (hc4 : 0 ≤ (s_rf (g 70 2) (g 75) (g 76) (g 71) n 1 p)) => ?_) (fun (hc4 : ¬ (0 ≤ (s_rf (g 70 2) (g 75) (g 76) (g 71) n 1 p))) => ?_)
        · refine q_ret 2 (some (.int (4 : Int32)), g, u) (fun _ _ => rfl) ?_
          unfold s_rw s_rway s_rway2
          simp only [hc0, hc1, hc2, hc3, hc4, if_true, if_false]
          all_goals rfl
        · refine q_ret 3 (some (.int (0 : Int32)), g, u) (fun _ _ => rfl) ?_
          unfold s_rw s_rway s_rway2
          simp only [hc0, hc1, hc2, hc3, hc4, if_true, if_false]
          all_goals rfl
      · refine q_ret 3 (some (.int (2 : Int32)), g, u) (fun _ _ => rfl) ?_
        unfold s_rw s_rway s_rway2
        simp only [hc0, hc1, hc2, hc3, if_true, if_false]
        all_goals rfl
    · refine q_step 1 47 [(0, .ref 70), (1, .int (Int32.ofNat p)), (2, .int (s_rf (g 70 2) (g 75) (g 76) (g 71) n 0 p)), (3, .int (s_rf (g 70 2) (g 75) (g 76) (g 71) n 1 p))] [.int (s_rf (g 70 2) (g 75) (g 76) (g 71) n 0 p)] g u (fun big n0 => sg_rf_76 big n0 g u (Int32.ofNat p) (s_rf (g 70 2) (g 75) (g 76) (g 71) n 0 p) (s_rf (g 70 2) (g 75) (g 76) (g 71) n 1 p)) ?_
      refine q_call (M2 := 186) (rest := []) (b_rabs _ _ _) (fun _ _ => rfl) ?_
      refine q_step 1 51 [(0, .ref 70), (1, .int (Int32.ofNat p)), (2, .int (s_rf (g 70 2) (g 75) (g 76) (g 71) n 0 p)), (3, .int (s_rf (g 70 2) (g 75) (g 76) (g 71) n 1 p))] [.int (s_rf (g 70 2) (g 75) (g 76) (g 71) n 1 p), .int (s_abs (s_rf (g 70 2) (g 75) (g 76) (g 71) n 0 p))] g u (fun big n0 => sg_rf_77 big n0 g u (Int32.ofNat p) (s_rf (g 70 2) (g 75) (g 76) (g 71) n 0 p) (s_rf (g 70 2) (g 75) (g 76) (g 71) n 1 p) (s_abs (s_rf (g 70 2) (g 75) (g 76) (g 71) n 0 p))) ?_
      refine q_call (M2 := 186) (rest := [.int (s_abs (s_rf (g 70 2) (g 75) (g 76) (g 71) n 0 p))]) (b_rabs _ _ _) (fun _ _ => rfl) ?_
      refine q_ic_lt rfl (fun (hc3 : (s_abs (s_rf (g 70 2) (g 75) (g 76) (g 71) n 0 p)) < (s_abs (s_rf (g 70 2) (g 75) (g 76) (g 71) n 1 p))) => ?_) (fun (hc3 : ¬ ((s_abs (s_rf (g 70 2) (g 75) (g 76) (g 71) n 0 p)) < (s_abs (s_rf (g 70 2) (g 75) (g 76) (g 71) n 1 p)))) => ?_)
      · refine q_step 1 68 [(0, .ref 70), (1, .int (Int32.ofNat p)), (2, .int (s_rf (g 70 2) (g 75) (g 76) (g 71) n 0 p)), (3, .int (s_rf (g 70 2) (g 75) (g 76) (g 71) n 1 p))] [.int (s_rf (g 70 2) (g 75) (g 76) (g 71) n 1 p)] g u (fun big n0 => sg_rf_74 big n0 g u (Int32.ofNat p) (s_rf (g 70 2) (g 75) (g 76) (g 71) n 0 p) (s_rf (g 70 2) (g 75) (g 76) (g 71) n 1 p)) ?_
        refine q_if_le rfl (fun (hc4 : (s_rf (g 70 2) (g 75) (g 76) (g 71) n 1 p) ≤ 0) => ?_) (fun (hc4 : ¬ ((s_rf (g 70 2) (g 75) (g 76) (g 71) n 1 p) ≤ 0)) => ?_)
        · refine q_step 1 76 [(0, .ref 70), (1, .int (Int32.ofNat p)), (2, .int (s_rf (g 70 2) (g 75) (g 76) (g 71) n 0 p)), (3, .int (s_rf (g 70 2) (g 75) (g 76) (g 71) n 1 p))] [.int (s_rf (g 70 2) (g 75) (g 76) (g 71) n 1 p)] g u (fun big n0 => sg_rf_75 big n0 g u (Int32.ofNat p) (s_rf (g 70 2) (g 75) (g 76) (g 71) n 0 p) (s_rf (g 70 2) (g 75) (g 76) (g 71) n 1 p)) ?_
          refine q_if_ge rfl (fun (hc5 : 0 ≤ (s_rf (g 70 2) (g 75) (g 76) (g 71) n 1 p)) => ?_) (fun (hc5 : ¬ (0 ≤ (s_rf (g 70 2) (g 75) (g 76) (g 71) n 1 p))) => ?_)
          · refine q_ret 2 (some (.int (4 : Int32)), g, u) (fun _ _ => rfl) ?_
            unfold s_rw s_rway s_rway2
            simp only [hc0, hc1, hc2, hc3, hc4, hc5, if_true, if_false]
            all_goals rfl
          · refine q_ret 3 (some (.int (0 : Int32)), g, u) (fun _ _ => rfl) ?_
            unfold s_rw s_rway s_rway2
            simp only [hc0, hc1, hc2, hc3, hc4, hc5, if_true, if_false]
            all_goals rfl
        · refine q_ret 3 (some (.int (2 : Int32)), g, u) (fun _ _ => rfl) ?_
          unfold s_rw s_rway s_rway2
          simp only [hc0, hc1, hc2, hc3, hc4, if_true, if_false]
          all_goals rfl
      · refine q_step 1 58 [(0, .ref 70), (1, .int (Int32.ofNat p)), (2, .int (s_rf (g 70 2) (g 75) (g 76) (g 71) n 0 p)), (3, .int (s_rf (g 70 2) (g 75) (g 76) (g 71) n 1 p))] [.int (s_rf (g 70 2) (g 75) (g 76) (g 71) n 0 p)] g u (fun big n0 => sg_rf_78 big n0 g u (Int32.ofNat p) (s_rf (g 70 2) (g 75) (g 76) (g 71) n 0 p) (s_rf (g 70 2) (g 75) (g 76) (g 71) n 1 p)) ?_
        refine q_if_le rfl (fun (hc4 : (s_rf (g 70 2) (g 75) (g 76) (g 71) n 0 p) ≤ 0) => ?_) (fun (hc4 : ¬ ((s_rf (g 70 2) (g 75) (g 76) (g 71) n 0 p) ≤ 0)) => ?_)
        · refine q_ret 2 (some (.int (3 : Int32)), g, u) (fun _ _ => rfl) ?_
          unfold s_rw s_rway s_rway2
          simp only [hc0, hc1, hc2, hc3, hc4, if_true, if_false]
          all_goals rfl
        · refine q_ret 3 (some (.int (1 : Int32)), g, u) (fun _ _ => rfl) ?_
          unfold s_rw s_rway s_rway2
          simp only [hc0, hc1, hc2, hc3, hc4, if_true, if_false]
          all_goals rfl
