/-! TOKENS of the reference. -/
def s_70 (p f k v e a : Int32) (g : qM) : qM := fun b j => if b = 70 then (if j = 14 then p else if j = 15 then f else if j = 16 then k else if j = 17 then v else if j = 18 then e else if j = 19 then a else g 70 j) else g b j
theorem s_70_0 {g : qM} : s_70 (g 70 14) (g 70 15) (g 70 16) (g 70 17) (g 70 18) (g 70 19) g = g := by
  funext b j
  unfold s_70
  by_cases h : b = 70
  · rw [if_pos h, h]
    by_cases h1 : j = 14
    · rw [if_pos h1, h1]
    · by_cases h2 : j = 15
      · rw [if_neg h1, if_pos h2, h2]
      · by_cases h3 : j = 16
        · rw [if_neg h1, if_neg h2, if_pos h3, h3]
        · by_cases h4 : j = 17
          · rw [if_neg h1, if_neg h2, if_neg h3, if_pos h4, h4]
          · by_cases h5 : j = 18
            · rw [if_neg h1, if_neg h2, if_neg h3, if_neg h4, if_pos h5, h5]
            · by_cases h6 : j = 19
              · rw [if_neg h1, if_neg h2, if_neg h3, if_neg h4, if_neg h5, if_pos h6, h6]
              · rw [if_neg h1, if_neg h2, if_neg h3, if_neg h4, if_neg h5, if_neg h6]
  · rw [if_neg h]
theorem s_70_o {p f k v e a : Int32} {g : qM} {b : Nat} (h : b ≠ 70) : s_70 p f k v e a g b = g b := by
  funext j
  unfold s_70
  rw [if_neg h]
/-- a byte, -1 behind all -/
def s_lk (b : Nat → Int32) (s p : Nat) : Int32 := if p < s then b p else Int32.ofInt (-1)
theorem t_in1 {c : Int32} : s_in (Int32.toInt64 c) 97 122 = 0 ↔ ¬ t_kd c = 1 := by
  have h := s_in_i (x := c) (lo := 97) (hi := 122)
  have e1 : (97 : Int64).toInt = 97 := rfl
  have e2 : (122 : Int64).toInt = 122 := rfl
  have c1 : (97 : Int32).toInt = 97 := rfl
  have c2 : (122 : Int32).toInt = 122 := rfl
  rw [e1, e2] at h
  have k : t_kd c = 1 ↔ ¬ c < 97 ∧ ¬ (122 : Int32) < c := by
    unfold t_kd
    by_cases a : c < 97
    · rw [if_pos a]
      refine ⟨fun z => ?_, fun z => absurd a z.1⟩
      repeat' split at z
      all_goals exact absurd z (by decide)
    · rw [if_neg a]
      by_cases b : (122 : Int32) < c
      · rw [if_pos b]
        refine ⟨fun z => ?_, fun z => absurd b z.2⟩
        repeat' split at z
        all_goals exact absurd z (by decide)
      · rw [if_neg b]
        exact ⟨fun _ => ⟨a, b⟩, fun _ => rfl⟩
  rw [k, Int32.lt_iff_toInt_lt, Int32.lt_iff_toInt_lt]
  constructor
  · intro z y
    exact (h.mpr (by omega)) z
  · intro z
    exact Classical.byContradiction (fun y => z (by have := h.mp y; omega))
theorem t_kd2 {c : Int32} : t_kd c = 2 ↔ ¬ c < 48 ∧ ¬ (57 : Int32) < c := by
  have c1 : (97 : Int32).toInt = 97 := rfl
  have c2 : (122 : Int32).toInt = 122 := rfl
  have c3 : (48 : Int32).toInt = 48 := rfl
  have c4 : (57 : Int32).toInt = 57 := rfl
  unfold t_kd
  by_cases d : c < 48
  · have a : c < 97 := by rw [Int32.lt_iff_toInt_lt] at d ⊢; omega
    rw [if_pos a, if_pos d]
    refine ⟨fun z => ?_, fun z => absurd d z.1⟩
    split at z <;> exact absurd z (by decide)
  · by_cases e : (57 : Int32) < c
    · refine ⟨fun z => ?_, fun z => absurd e z.2⟩
      rw [if_neg d, if_pos e] at z
      repeat' split at z
      all_goals exact absurd z (by decide)
    · have a : c < 97 := by
        rw [Int32.lt_iff_toInt_lt] at d e ⊢
        omega
      rw [if_pos a, if_neg d, if_neg e]
      exact ⟨fun _ => ⟨d, e⟩, fun _ => rfl⟩
theorem t_in2 {c : Int32} : s_in (Int32.toInt64 c) 48 57 = 0 ↔ ¬ t_kd c = 2 := by
  have h := s_in_i (x := c) (lo := 48) (hi := 57)
  have e1 : (48 : Int64).toInt = 48 := rfl
  have e2 : (57 : Int64).toInt = 57 := rfl
  have c1 : (48 : Int32).toInt = 48 := rfl
  have c2 : (57 : Int32).toInt = 57 := rfl
  rw [e1, e2] at h
  rw [t_kd2, Int32.lt_iff_toInt_lt, Int32.lt_iff_toInt_lt]
  constructor
  · intro z y
    exact (h.mpr (by omega)) z
  · intro z
    exact Classical.byContradiction (fun y => z (by have := h.mp y; omega))
theorem t_kd3 {c : Int32} (h1 : ¬ t_kd c = 1) (h2 : ¬ t_kd c = 2) : t_kd c = if c = 59 then 3 else 0 := by
  unfold t_kd at h1 h2 ⊢
  by_cases a : c < 97
  · rw [if_pos a] at h1 h2 ⊢
    by_cases b : c < 48
    · rw [if_pos b]
    · rw [if_neg b] at h1 h2 ⊢
      by_cases d : (57 : Int32) < c
      · rw [if_pos d]
      · rw [if_neg d] at h2
        exact absurd rfl h2
  · rw [if_neg a] at h1 h2 ⊢
    by_cases e : (122 : Int32) < c
    · rw [if_pos e] at h1 h2 ⊢
      by_cases b : c < 48
      · rw [if_pos b]
      · rw [if_neg b] at h1 h2 ⊢
        by_cases d : (57 : Int32) < c
        · rw [if_pos d]
        · rw [if_neg d] at h2
          exact absurd rfl h2
    · rw [if_neg e] at h1
      exact absurd rfl h1
/-- a number of two figures at most -/
def t_v2 (b : Nat → Int32) (f : Nat) : Nat → Nat → Int32 → Int32
  | 0, _, a => a
  | m + 1, i, a => t_v2 b f m (i + 1) (if i < f + 2 then 10 * a + b i - 48 else a)
theorem t_v2_vl {b : Nat → Int32} {f : Nat} : ∀ m i a, i + m ≤ f + 2 → t_v2 b f m i a = t_vl b m i a
  | 0, _, _, _ => rfl
  | m + 1, i, a, h => by
    rw [t_v2, t_vl, if_pos (by omega), Int32.mul_comm 10 a, t_v2_vl m (i + 1) _ (by omega)]
theorem t_kdm1 : t_kd (Int32.ofInt (-1)) = 0 := by decide
theorem sg_rt_1 (big : Nat → List Value → qM → qW → qR) (n0 : Nat) (G : qM) (U : qW) (v0 : Int32) : qm_run pm_m big m_153 (n0 + 3) 0 [(0, .ref 70), (1, .int v0)] [] G U = qm_run pm_m big m_153 n0 5 [(0, .ref 70), (1, .int v0)] [.int (G 70 13), .int v0] G U := rfl
theorem sg_rt_2 (big : Nat → List Value → qM → qW → qR) (n0 : Nat) (G : qM) (U : qW) (v0 : Int32) : qm_run pm_m big m_153 (n0 + 3) 8 [(0, .ref 70), (1, .int v0)] [] G U = qm_run pm_m big m_153 n0 13 [(0, .ref 70), (1, .int v0)] [.int v0, .ref 74] G U := rfl
theorem sg_rt_3 (big : Nat → List Value → qM → qW → qR) (n0 : Nat) (G : qM) (U : qW) (v0 : Int32) : qm_run pm_m big m_154 (n0 + 4) 0 [(0, .ref 70), (1, .int (0 : Int32)), (2, .int v0)] [] G U = qm_run pm_m big m_154 n0 8 [(0, .ref 70), (1, .int (0 : Int32)), (2, .int v0)] [.int (G 70 18)] G U := rfl
theorem sg_rt_4 (big : Nat → List Value → qM → qW → qR) (n0 : Nat) (G : qM) (U : qW) (v0 : Int32) (v1 : Int32) : qm_run pm_m big m_154 (n0 + 1) 0 [(0, .ref 70), (1, .int v0), (2, .int v1)] [] G U = qm_run pm_m big m_154 n0 1 [(0, .ref 70), (1, .int v0), (2, .int v1)] [.int v0] G U := rfl
theorem sg_rt_5 (big : Nat → List Value → qM → qW → qR) (n0 : Nat) (G : qM) (U : qW) (v0 : Int32) (v1 : Int32) : qm_run pm_m big m_154 (n0 + 2) 4 [(0, .ref 70), (1, .int v0), (2, .int v1)] [] G U = qm_run pm_m big m_154 n0 8 [(0, .ref 70), (1, .int v0), (2, .int v1)] [.int (G 70 18)] G U := rfl
theorem sg_rt_6 (big : Nat → List Value → qM → qW → qR) (n0 : Nat) (G : qM) (U : qW) : qm_run pm_m big m_152 (n0 + 3) 8 [(0, .ref 70)] [] G U = qm_run pm_m big m_152 n0 13 [(0, .ref 70)] [.int (G 70 14), .ref 70] G U := rfl
theorem sg_rt_7 (big : Nat → List Value → qM → qW → qR) (n0 : Nat) (G : qM) (U : qW) (v0 : Int32) : qm_run pm_m big m_152 (n0 + 1) 16 [(0, .ref 70)] [.int v0] G U = qm_run pm_m big m_152 n0 18 [(0, .ref 70)] [.int (32 : Int32), .int v0] G U := rfl
theorem sg_rt_8 (big : Nat → List Value → qM → qW → qR) (n0 : Nat) (G : qM) (U : qW) : qm_run pm_m big m_152 (n0 + 7) 21 [(0, .ref 70)] [] G U = qm_run pm_m big m_152 n0 8 [(0, .ref 70)] [] (q_up G 70 14 ((G 70 14) + (1 : Int32))) U := rfl
theorem sg_rt_9 (big : Nat → List Value → qM → qW → qR) (n0 : Nat) (G : qM) (U : qW) (v0 : Int32) : qm_run pm_m big m_152 (n0 + 3) 82 [(0, .ref 70), (1, .int v0)] [] G U = qm_run pm_m big m_152 n0 87 [(0, .ref 70), (1, .int v0)] [.int (G 70 14), .ref 70] G U := rfl
theorem sg_rt_10 (big : Nat → List Value → qM → qW → qR) (n0 : Nat) (G : qM) (U : qW) (v0 : Int32) (v1 : Int32) : qm_run pm_m big m_152 (n0 + 3) 90 [(0, .ref 70), (1, .int v0)] [.int v1] G U = qm_run pm_m big m_152 n0 97 [(0, .ref 70), (1, .int v0)] [.long (122 : Int64), .long (97 : Int64), .long (Int32.toInt64 v1)] G U := rfl
theorem sg_rt_11 (big : Nat → List Value → qM → qW → qR) (n0 : Nat) (G : qM) (U : qW) (v0 : Int32) : qm_run pm_m big m_152 (n0 + 7) 103 [(0, .ref 70), (1, .int v0)] [] G U = qm_run pm_m big m_152 n0 82 [(0, .ref 70), (1, .int v0)] [] (q_up G 70 14 ((G 70 14) + (1 : Int32))) U := rfl
theorem sg_rt_12 (big : Nat → List Value → qM → qW → qR) (n0 : Nat) (G : qM) (U : qW) (v0 : Int32) : qm_run pm_m big m_152 (n0 + 3) 140 [(0, .ref 70), (1, .int v0)] [] G U = qm_run pm_m big m_152 n0 145 [(0, .ref 70), (1, .int v0)] [.int (G 70 14), .ref 70] G U := rfl
theorem sg_rt_13 (big : Nat → List Value → qM → qW → qR) (n0 : Nat) (G : qM) (U : qW) (v0 : Int32) (v1 : Int32) : qm_run pm_m big m_152 (n0 + 3) 148 [(0, .ref 70), (1, .int v0)] [.int v1] G U = qm_run pm_m big m_152 n0 155 [(0, .ref 70), (1, .int v0)] [.long (57 : Int64), .long (48 : Int64), .long (Int32.toInt64 v1)] G U := rfl
theorem sg_rt_14 (big : Nat → List Value → qM → qW → qR) (n0 : Nat) (G : qM) (U : qW) (v0 : Int32) : qm_run pm_m big m_152 (n0 + 7) 161 [(0, .ref 70), (1, .int v0)] [] G U = qm_run pm_m big m_152 n0 172 [(0, .ref 70), (1, .int v0)] [.int (2 : Int32), .int ((G 70 14) - (G 70 15)), .ref 70] G U := rfl
theorem sg_rt_15 (big : Nat → List Value → qM → qW → qR) (n0 : Nat) (G : qM) (U : qW) (v0 : Int32) : qm_run pm_m big m_152 (n0 + 10) 197 [(0, .ref 70), (1, .int v0)] [.ref 70] G U = qm_run pm_m big m_152 n0 140 [(0, .ref 70), (1, .int v0)] [] (q_up (q_up G 70 17 (G 70 17)) 70 14 ((G 70 14) + (1 : Int32))) U := rfl
theorem sg_rt_16 (big : Nat → List Value → qM → qW → qR) (n0 : Nat) (G : qM) (U : qW) (v0 : Int32) : qm_run pm_m big m_152 (n0 + 7) 175 [(0, .ref 70), (1, .int v0)] [.ref 70] G U = qm_run pm_m big m_152 n0 187 [(0, .ref 70), (1, .int v0)] [.int (G 70 14), .ref 70, .int ((10 : Int32) * (G 70 17)), .ref 70] G U := rfl
theorem sg_rt_17 (big : Nat → List Value → qM → qW → qR) (n0 : Nat) (G : qM) (U : qW) (v0 : Int32) (v1 : Int32) (v2 : Int32) : qm_run pm_m big m_152 (n0 + 12) 190 [(0, .ref 70), (1, .int v0)] [.int v2, .int v1, .ref 70] G U = qm_run pm_m big m_152 n0 140 [(0, .ref 70), (1, .int v0)] [] (q_up (q_up G 70 17 ((v1 + v2) - (48 : Int32))) 70 14 ((G 70 14) + (1 : Int32))) U := rfl
theorem sg_rt_18 (big : Nat → List Value → qM → qW → qR) (n0 : Nat) (G : qM) (U : qW) : qm_run pm_m big m_152 (n0 + 2) 0 [(0, .ref 70)] [] G U = qm_run pm_m big m_152 n0 4 [(0, .ref 70)] [.int (G 70 18)] G U := rfl
theorem sg_rt_19 (big : Nat → List Value → qM → qW → qR) (n0 : Nat) (G : qM) (U : qW) : qm_run pm_m big m_152 (n0 + 7) 34 [(0, .ref 70)] [] G U = qm_run pm_m big m_152 n0 47 [(0, .ref 70)] [.int (G 70 14), .ref 70] (q_up G 70 15 (G 70 14)) U := rfl
theorem sg_rt_20 (big : Nat → List Value → qM → qW → qR) (n0 : Nat) (G : qM) (U : qW) (v0 : Int32) : qm_run pm_m big m_152 (n0 + 2) 50 [(0, .ref 70)] [.int v0] G U = qm_run pm_m big m_152 n0 52 [(0, .ref 70), (1, .int v0)] [.int v0] G U := rfl
theorem sg_rt_21 (big : Nat → List Value → qM → qW → qR) (n0 : Nat) (G : qM) (U : qW) (v0 : Int32) : qm_run pm_m big m_152 (n0 + 4) 63 [(0, .ref 70), (1, .int v0)] [] G U = qm_run pm_m big m_152 n0 71 [(0, .ref 70), (1, .int v0)] [.long (122 : Int64), .long (97 : Int64), .long (Int32.toInt64 v0)] G U := rfl
theorem sg_rt_22 (big : Nat → List Value → qM → qW → qR) (n0 : Nat) (G : qM) (U : qW) (v0 : Int32) : qm_run pm_m big m_152 (n0 + 4) 116 [(0, .ref 70), (1, .int v0)] [] G U = qm_run pm_m big m_152 n0 124 [(0, .ref 70), (1, .int v0)] [.long (57 : Int64), .long (48 : Int64), .long (Int32.toInt64 v0)] G U := rfl
theorem sg_rt_23 (big : Nat → List Value → qM → qW → qR) (n0 : Nat) (G : qM) (U : qW) (v0 : Int32) : qm_run pm_m big m_152 (n0 + 6) 243 [(0, .ref 70), (1, .int v0)] [] G U = qm_run pm_m big m_152 n0 252 [(0, .ref 70), (1, .int v0)] [.int (59 : Int32), .int v0, .ref 70] (q_up G 70 16 (3 : Int32)) U := rfl
theorem sg_rt_24 (big : Nat → List Value → qM → qW → qR) (n0 : Nat) (G : qM) (U : qW) (v0 : Int32) : qm_run pm_m big m_152 (n0 + 3) 255 [(0, .ref 70), (1, .int v0)] [.ref 70] G U = qm_run pm_m big m_152 n0 261 [(0, .ref 70), (1, .int v0)] [.int (1 : Int32), .int (1 : Int32), .ref 70] G U := rfl
theorem sg_rt_25 (big : Nat → List Value → qM → qW → qR) (n0 : Nat) (G : qM) (U : qW) (v0 : Int32) : qm_run pm_m big m_152 (n0 + 2) 259 [(0, .ref 70), (1, .int v0)] [.ref 70] G U = qm_run pm_m big m_152 n0 261 [(0, .ref 70), (1, .int v0)] [.int (1 : Int32), .int (0 : Int32), .ref 70] G U := rfl
theorem sg_rt_26 (big : Nat → List Value → qM → qW → qR) (n0 : Nat) (G : qM) (U : qW) (v0 : Int32) : qm_run pm_m big m_152 (n0 + 6) 130 [(0, .ref 70), (1, .int v0)] [] G U = qm_run pm_m big m_152 n0 140 [(0, .ref 70), (1, .int v0)] [] (q_up (q_up G 70 16 (2 : Int32)) 70 17 (0 : Int32)) U := rfl
theorem sg_rt_27 (big : Nat → List Value → qM → qW → qR) (n0 : Nat) (G : qM) (U : qW) (v0 : Int32) : qm_run pm_m big m_152 (n0 + 7) 217 [(0, .ref 70), (1, .int v0)] [] G U = qm_run pm_m big m_152 n0 228 [(0, .ref 70), (1, .int v0)] [.int (2 : Int32), .int ((G 70 14) - (G 70 15)), .ref 70] G U := rfl
theorem sg_rt_28 (big : Nat → List Value → qM → qW → qR) (n0 : Nat) (G : qM) (U : qW) (v0 : Int32) : qm_run pm_m big m_152 (n0 + 2) 235 [(0, .ref 70), (1, .int v0)] [.ref 70] G U = qm_run pm_m big m_152 n0 237 [(0, .ref 70), (1, .int v0)] [.int (1 : Int32), .int (0 : Int32), .ref 70] G U := rfl
theorem sg_rt_29 (big : Nat → List Value → qM → qW → qR) (n0 : Nat) (G : qM) (U : qW) (v0 : Int32) : qm_run pm_m big m_152 (n0 + 3) 231 [(0, .ref 70), (1, .int v0)] [.ref 70] G U = qm_run pm_m big m_152 n0 237 [(0, .ref 70), (1, .int v0)] [.int (1 : Int32), .int (1 : Int32), .ref 70] G U := rfl
theorem sg_rt_30 (big : Nat → List Value → qM → qW → qR) (n0 : Nat) (G : qM) (U : qW) (v0 : Int32) : qm_run pm_m big m_152 (n0 + 3) 77 [(0, .ref 70), (1, .int v0)] [] G U = qm_run pm_m big m_152 n0 82 [(0, .ref 70), (1, .int v0)] [] (q_up G 70 16 (1 : Int32)) U := rfl
theorem s_70_14 {p f k v e a x : Int32} {g : qM} : q_up (s_70 p f k v e a g) 70 14 x = s_70 x f k v e a g := by
  funext b i
  simp only [q_up_eq, s_70]
  by_cases h : b = 70
  · by_cases h2 : i = 14
    · simp [h, h2]
    · simp [h, h2]
  · simp [h]
theorem s_70_15 {p f k v e a x : Int32} {g : qM} : q_up (s_70 p f k v e a g) 70 15 x = s_70 p x k v e a g := by
  funext b i
  simp only [q_up_eq, s_70]
  by_cases h : b = 70
  · by_cases h2 : i = 15
    · simp [h, h2]
    · simp [h, h2]
  · simp [h]
theorem s_70_16 {p f k v e a x : Int32} {g : qM} : q_up (s_70 p f k v e a g) 70 16 x = s_70 p f x v e a g := by
  funext b i
  simp only [q_up_eq, s_70]
  by_cases h : b = 70
  · by_cases h2 : i = 16
    · simp [h, h2]
    · simp [h, h2]
  · simp [h]
theorem s_70_17 {p f k v e a x : Int32} {g : qM} : q_up (s_70 p f k v e a g) 70 17 x = s_70 p f k x e a g := by
  funext b i
  simp only [q_up_eq, s_70]
  by_cases h : b = 70
  · by_cases h2 : i = 17
    · simp [h, h2]
    · simp [h, h2]
  · simp [h]
theorem s_70_18 {p f k v e a x : Int32} {g : qM} : q_up (s_70 p f k v e a g) 70 18 x = s_70 p f k v x a g := by
  funext b i
  simp only [q_up_eq, s_70]
  by_cases h : b = 70
  · by_cases h2 : i = 18
    · simp [h, h2]
    · simp [h, h2]
  · simp [h]
theorem s_70_19 {p f k v e a x : Int32} {g : qM} : q_up (s_70 p f k v e a g) 70 19 x = s_70 p f k v e x g := by
  funext b i
  simp only [q_up_eq, s_70]
  by_cases h : b = 70
  · by_cases h2 : i = 19
    · simp [h, h2]
    · simp [h, h2]
  · simp [h]
theorem b_look (g : qM) (u : qW) {s : Nat} (hs : g 70 13 = Int32.ofNat s) (h160 : s ≤ 160) {p : Nat} (hp : p ≤ 200) : q_BS 153 [.ref 70, .int (Int32.ofNat p)] g u (some (.int (s_lk (g 74) s p)), g, u) := by
  refine q_bx (mm := m_153) rfl (Nat.le_of_ble_eq_true rfl) rfl ?_
  refine q_step 3 5 [(0, .ref 70), (1, .int (Int32.ofNat p))] [.int (g 70 13), .int (Int32.ofNat p)] g u (fun big n0 => sg_rt_1 big n0 g u (Int32.ofNat p)) ?_
  refine q_ic_ge rfl (fun (hc0 : (g 70 13) ≤ (Int32.ofNat p)) => ?_) (fun (hc0 : ¬ ((g 70 13) ≤ (Int32.ofNat p))) => ?_)
  · refine q_ret 2 (some (.int (Int32.ofInt (-1))), g, u) (fun _ _ => rfl) ?_
    have z := hc0
    rw [hs, q_le (by omega) (by omega)] at z
    unfold s_lk
    rw [if_neg (by omega)]
  · refine q_step 3 13 [(0, .ref 70), (1, .int (Int32.ofNat p))] [.int (Int32.ofNat p), .ref 74] g u (fun big n0 => sg_rt_2 big n0 g u (Int32.ofNat p)) ?_
    refine q_iald (j := p) (q_ixn (by have z : ¬ s ≤ p := fun q => hc0 (by rw [hs]; exact (q_le (by omega) (by omega)).mpr q); omega) (by omega)) rfl rfl ?_
    refine q_ret 2 (some (.int (g 74 p)), g, u) (fun _ _ => rfl) ?_
    have z := hc0
    rw [hs, q_le (by omega) (by omega)] at z
    unfold s_lk
    rw [if_pos (by omega)]
theorem b_needs1 (c : Int32) (g : qM) (u : qW) : q_BS 154 [.ref 70, .int (1 : Int32), .int c] g u (none, g, u) := by
  refine q_bx (mm := m_154) rfl (Nat.le_of_ble_eq_true rfl) rfl ?_
  refine q_ret 3 (none, g, u) (fun _ _ => rfl) ?_
  rfl
theorem b_needs0 (c : Int32) (g : qM) (u : qW) (hf : g 70 18 = 0) : q_BS 154 [.ref 70, .int (0 : Int32), .int c] g u (none, q_up (q_up g 70 18 c) 70 19 (g 70 15), u) := by
  refine q_bx (mm := m_154) rfl (Nat.le_of_ble_eq_true rfl) rfl ?_
  refine q_step 4 8 [(0, .ref 70), (1, .int (0 : Int32)), (2, .int c)] [.int (g 70 18)] g u (fun big n0 => sg_rt_3 big n0 g u c) ?_
  refine q_if_ne rfl (fun (hc0 : (g 70 18) = 0) => ?_) (fun hc0 => absurd (show (g 70 18) = 0 from hf) hc0)
  refine q_ret 8 (none, (q_up (q_up g 70 18 c) 70 19 (g 70 15)), u) (fun _ _ => rfl) ?_
  rfl
theorem b_needsf (b c : Int32) (g : qM) (u : qW) (hf : ¬ g 70 18 = 0) : q_BS 154 [.ref 70, .int b, .int c] g u (none, g, u) := by
  refine q_bx (mm := m_154) rfl (Nat.le_of_ble_eq_true rfl) rfl ?_
  refine q_step 1 1 [(0, .ref 70), (1, .int b), (2, .int c)] [.int b] g u (fun big n0 => sg_rt_4 big n0 g u b c) ?_
  refine q_if_ne rfl (fun (hc0 : b = 0) => ?_) (fun (hc0 : ¬ (b = 0)) => ?_)
  · refine q_step 2 8 [(0, .ref 70), (1, .int b), (2, .int c)] [.int (g 70 18)] g u (fun big n0 => sg_rt_5 big n0 g u b c) ?_
    refine q_if_ne rfl (fun hc1 => absurd (show (g 70 18) = 0 from hc1) (hf)) (fun (hc1 : ¬ ((g 70 18) = 0)) => ?_)
    refine q_ret 1 (none, g, u) (fun _ _ => rfl) ?_
    rfl
  · refine q_ret 1 (none, g, u) (fun _ _ => rfl) ?_
    rfl
theorem rn_sk (g : qM) (u : qW) {s : Nat} (hs : g 70 13 = Int32.ofNat s) (h160 : s ≤ 160) {f k v e a : Int32} {Q : Option Value × qM × qW → Prop} : ∀ m p, p + m = s → q_EV m_152 34 [(0, .ref 70)] [] (s_70 (Int32.ofNat (t_sk (g 74) m p)) f k v e a g) u Q → q_EV m_152 8 [(0, .ref 70)] [] (s_70 (Int32.ofNat p) f k v e a g) u Q := by
  intro m
  induction m with
  | zero =>
    intro p hp hk
    refine q_step 3 13 [(0, .ref 70)] [.int (Int32.ofNat p), .ref 70] (s_70 (Int32.ofNat p) f k v e a g) u (fun big n0 => sg_rt_6 big n0 (s_70 (Int32.ofNat p) f k v e a g) u) ?_
    have hlk := b_look (s_70 (Int32.ofNat p) f k v e a g) u (p := p) (s := s) hs h160 (by omega)
    refine q_call (M2 := 153) (rest := []) (hlk) (fun _ _ => rfl) ?_
    refine q_step 1 18 [(0, .ref 70)] [.int (32 : Int32), .int (s_lk (g 74) s p)] (s_70 (Int32.ofNat p) f k v e a g) u (fun big n0 => sg_rt_7 big n0 (s_70 (Int32.ofNat p) f k v e a g) u (s_lk (g 74) s p)) ?_
    refine q_ic_ne rfl (fun hc0 => absurd (show (s_lk (g 74) s p) = (32 : Int32) from hc0) (by unfold s_lk; rw [if_neg (by omega)]; decide)) (fun (hc0 : ¬ ((s_lk (g 74) s p) = (32 : Int32))) => ?_)
    exact hk
  | succ m ih =>
    intro p hp hk
    have elk : s_lk (g 74) s p = g 74 p := by unfold s_lk; rw [if_pos (by omega)]
    refine q_step 3 13 [(0, .ref 70)] [.int (Int32.ofNat p), .ref 70] (s_70 (Int32.ofNat p) f k v e a g) u (fun big n0 => sg_rt_6 big n0 (s_70 (Int32.ofNat p) f k v e a g) u) ?_
    have hlk := b_look (s_70 (Int32.ofNat p) f k v e a g) u (p := p) (s := s) hs h160 (by omega)
    refine q_call (M2 := 153) (rest := []) (hlk) (fun _ _ => rfl) ?_
    refine q_step 1 18 [(0, .ref 70)] [.int (32 : Int32), .int (s_lk (g 74) s p)] (s_70 (Int32.ofNat p) f k v e a g) u (fun big n0 => sg_rt_7 big n0 (s_70 (Int32.ofNat p) f k v e a g) u (s_lk (g 74) s p)) ?_
    refine q_ic_ne rfl (fun (hc0 : (s_lk (g 74) s p) = (32 : Int32)) => ?_) (fun (hc0 : ¬ ((s_lk (g 74) s p) = (32 : Int32))) => ?_)
    · refine q_step 7 8 [(0, .ref 70)] [] (q_up (s_70 (Int32.ofNat p) f k v e a g) 70 14 ((Int32.ofNat p) + (1 : Int32))) u (fun big n0 => sg_rt_8 big n0 (s_70 (Int32.ofNat p) f k v e a g) u) ?_
      rw [t_sk, if_pos (by rw [← elk]; exact hc0)] at hk
      rw [show (q_up (s_70 (Int32.ofNat p) f k v e a g) 70 14 ((Int32.ofNat p) + (1 : Int32))) = s_70 (Int32.ofNat (p + 1)) f k v e a g from by rw [s_70_14, q_succ]]
      exact ih (p + 1) (by omega) hk
    · rw [t_sk, if_neg (by rw [← elk]; exact hc0)] at hk
      exact hk
theorem rn_nm (g : qM) (u : qW) {s : Nat} (hs : g 70 13 = Int32.ofNat s) (h160 : s ≤ 160) {f k v e a : Int32} {Q : Option Value × qM × qW → Prop} {c : Int32} : ∀ m p, p + m = s → q_EV m_152 274 [(0, .ref 70), (1, .int c)] [] (s_70 (Int32.ofNat (t_ru (g 74) 1 m p)) f k v e a g) u Q → q_EV m_152 82 [(0, .ref 70), (1, .int c)] [] (s_70 (Int32.ofNat p) f k v e a g) u Q := by
  intro m
  induction m with
  | zero =>
    intro p hp hk
    refine q_step 3 87 [(0, .ref 70), (1, .int c)] [.int (Int32.ofNat p), .ref 70] (s_70 (Int32.ofNat p) f k v e a g) u (fun big n0 => sg_rt_9 big n0 (s_70 (Int32.ofNat p) f k v e a g) u c) ?_
    have hlk := b_look (s_70 (Int32.ofNat p) f k v e a g) u (p := p) (s := s) hs h160 (by omega)
    refine q_call (M2 := 153) (rest := []) (hlk) (fun _ _ => rfl) ?_
    refine q_step 3 97 [(0, .ref 70), (1, .int c)] [.long (122 : Int64), .long (97 : Int64), .long (Int32.toInt64 (s_lk (g 74) s p))] (s_70 (Int32.ofNat p) f k v e a g) u (fun big n0 => sg_rt_10 big n0 (s_70 (Int32.ofNat p) f k v e a g) u c (s_lk (g 74) s p)) ?_
    refine q_call (M2 := 149) (rest := []) (b_in _ _ _ _ _) (fun _ _ => rfl) ?_
    refine q_if_eq rfl (fun (hc0 : (s_in (Int32.toInt64 (s_lk (g 74) s p)) (97 : Int64) (122 : Int64)) = 0) => ?_) (fun hc0 => absurd (show (s_in (Int32.toInt64 (s_lk (g 74) s p)) (97 : Int64) (122 : Int64)) = 0 from t_in1.mpr (by unfold s_lk; rw [if_neg (by omega), t_kdm1]; decide)) hc0)
    exact hk
  | succ m ih =>
    intro p hp hk
    have elk : s_lk (g 74) s p = g 74 p := by unfold s_lk; rw [if_pos (by omega)]
    refine q_step 3 87 [(0, .ref 70), (1, .int c)] [.int (Int32.ofNat p), .ref 70] (s_70 (Int32.ofNat p) f k v e a g) u (fun big n0 => sg_rt_9 big n0 (s_70 (Int32.ofNat p) f k v e a g) u c) ?_
    have hlk := b_look (s_70 (Int32.ofNat p) f k v e a g) u (p := p) (s := s) hs h160 (by omega)
    refine q_call (M2 := 153) (rest := []) (hlk) (fun _ _ => rfl) ?_
    refine q_step 3 97 [(0, .ref 70), (1, .int c)] [.long (122 : Int64), .long (97 : Int64), .long (Int32.toInt64 (s_lk (g 74) s p))] (s_70 (Int32.ofNat p) f k v e a g) u (fun big n0 => sg_rt_10 big n0 (s_70 (Int32.ofNat p) f k v e a g) u c (s_lk (g 74) s p)) ?_
    refine q_call (M2 := 149) (rest := []) (b_in _ _ _ _ _) (fun _ _ => rfl) ?_
    refine q_if_eq rfl (fun (hc0 : (s_in (Int32.toInt64 (s_lk (g 74) s p)) (97 : Int64) (122 : Int64)) = 0) => ?_) (fun (hc0 : ¬ ((s_in (Int32.toInt64 (s_lk (g 74) s p)) (97 : Int64) (122 : Int64)) = 0)) => ?_)
    · rw [t_ru, if_neg (by rw [← elk]; exact t_in1.mp hc0)] at hk
      exact hk
    · refine q_step 7 82 [(0, .ref 70), (1, .int c)] [] (q_up (s_70 (Int32.ofNat p) f k v e a g) 70 14 ((Int32.ofNat p) + (1 : Int32))) u (fun big n0 => sg_rt_11 big n0 (s_70 (Int32.ofNat p) f k v e a g) u c) ?_
      rw [t_ru, if_pos (by rw [← elk]; exact Classical.byContradiction (fun z => hc0 (t_in1.mpr z)))] at hk
      rw [show (q_up (s_70 (Int32.ofNat p) f k v e a g) 70 14 ((Int32.ofNat p) + (1 : Int32))) = s_70 (Int32.ofNat (p + 1)) f k v e a g from by rw [s_70_14, q_succ]]
      exact ih (p + 1) (by omega) hk
theorem rn_nu (g : qM) (u : qW) {s : Nat} (hs : g 70 13 = Int32.ofNat s) (h160 : s ≤ 160) {f : Nat} {k e a : Int32} {Q : Option Value × qM × qW → Prop} {c : Int32} : ∀ m p v, p + m = s → f ≤ p → q_EV m_152 217 [(0, .ref 70), (1, .int c)] [] (s_70 (Int32.ofNat (t_ru (g 74) 2 m p)) (Int32.ofNat f) k (t_v2 (g 74) f (t_ru (g 74) 2 m p - p) p v) e a g) u Q → q_EV m_152 140 [(0, .ref 70), (1, .int c)] [] (s_70 (Int32.ofNat p) (Int32.ofNat f) k v e a g) u Q := by
  intro m
  induction m with
  | zero =>
    intro p v hp hf hk
    refine q_step 3 145 [(0, .ref 70), (1, .int c)] [.int (Int32.ofNat p), .ref 70] (s_70 (Int32.ofNat p) (Int32.ofNat f) k v e a g) u (fun big n0 => sg_rt_12 big n0 (s_70 (Int32.ofNat p) (Int32.ofNat f) k v e a g) u c) ?_
    have hlk := b_look (s_70 (Int32.ofNat p) (Int32.ofNat f) k v e a g) u (p := p) (s := s) hs h160 (by omega)
    refine q_call (M2 := 153) (rest := []) (hlk) (fun _ _ => rfl) ?_
    refine q_step 3 155 [(0, .ref 70), (1, .int c)] [.long (57 : Int64), .long (48 : Int64), .long (Int32.toInt64 (s_lk (g 74) s p))] (s_70 (Int32.ofNat p) (Int32.ofNat f) k v e a g) u (fun big n0 => sg_rt_13 big n0 (s_70 (Int32.ofNat p) (Int32.ofNat f) k v e a g) u c (s_lk (g 74) s p)) ?_
    refine q_call (M2 := 149) (rest := []) (b_in _ _ _ _ _) (fun _ _ => rfl) ?_
    refine q_if_eq rfl (fun (hc0 : (s_in (Int32.toInt64 (s_lk (g 74) s p)) (48 : Int64) (57 : Int64)) = 0) => ?_) (fun hc0 => absurd (show (s_in (Int32.toInt64 (s_lk (g 74) s p)) (48 : Int64) (57 : Int64)) = 0 from t_in2.mpr (by unfold s_lk; rw [if_neg (by omega), t_kdm1]; decide)) hc0)
    rw [t_ru, Nat.sub_self] at hk
    exact hk
  | succ m ih =>
    intro p v hp hf hk
    have elk : s_lk (g 74) s p = g 74 p := by unfold s_lk; rw [if_pos (by omega)]
    refine q_step 3 145 [(0, .ref 70), (1, .int c)] [.int (Int32.ofNat p), .ref 70] (s_70 (Int32.ofNat p) (Int32.ofNat f) k v e a g) u (fun big n0 => sg_rt_12 big n0 (s_70 (Int32.ofNat p) (Int32.ofNat f) k v e a g) u c) ?_
    have hlk := b_look (s_70 (Int32.ofNat p) (Int32.ofNat f) k v e a g) u (p := p) (s := s) hs h160 (by omega)
    refine q_call (M2 := 153) (rest := []) (hlk) (fun _ _ => rfl) ?_
    refine q_step 3 155 [(0, .ref 70), (1, .int c)] [.long (57 : Int64), .long (48 : Int64), .long (Int32.toInt64 (s_lk (g 74) s p))] (s_70 (Int32.ofNat p) (Int32.ofNat f) k v e a g) u (fun big n0 => sg_rt_13 big n0 (s_70 (Int32.ofNat p) (Int32.ofNat f) k v e a g) u c (s_lk (g 74) s p)) ?_
    refine q_call (M2 := 149) (rest := []) (b_in _ _ _ _ _) (fun _ _ => rfl) ?_
    refine q_if_eq rfl (fun (hc0 : (s_in (Int32.toInt64 (s_lk (g 74) s p)) (48 : Int64) (57 : Int64)) = 0) => ?_) (fun (hc0 : ¬ ((s_in (Int32.toInt64 (s_lk (g 74) s p)) (48 : Int64) (57 : Int64)) = 0)) => ?_)
    · rw [t_ru, if_neg (by rw [← elk]; exact t_in2.mp hc0), Nat.sub_self] at hk
      exact hk
    · refine q_step 7 172 [(0, .ref 70), (1, .int c)] [.int (2 : Int32), .int ((Int32.ofNat p) - (Int32.ofNat f)), .ref 70] (s_70 (Int32.ofNat p) (Int32.ofNat f) k v e a g) u (fun big n0 => sg_rt_14 big n0 (s_70 (Int32.ofNat p) (Int32.ofNat f) k v e a g) u c) ?_
      refine q_ic_ge rfl (fun (hc1 : (2 : Int32) ≤ ((Int32.ofNat p) - (Int32.ofNat f))) => ?_) (fun (hc1 : ¬ ((2 : Int32) ≤ ((Int32.ofNat p) - (Int32.ofNat f)))) => ?_)
      · refine q_step 10 140 [(0, .ref 70), (1, .int c)] [] (q_up (q_up (s_70 (Int32.ofNat p) (Int32.ofNat f) k v e a g) 70 17 v) 70 14 ((Int32.ofNat p) + (1 : Int32))) u (fun big n0 => sg_rt_15 big n0 (s_70 (Int32.ofNat p) (Int32.ofNat f) k v e a g) u c) ?_
        have er : t_ru (g 74) 2 (m + 1) p = t_ru (g 74) 2 m (p + 1) := by rw [t_ru, if_pos (by rw [← elk]; exact Classical.byContradiction (fun z => hc0 (t_in2.mpr z)))]
        have hb := t_ru_b (b := g 74) (kd := 2) m (p + 1)
        have hlt : ¬ p < f + 2 := by
          have z := hc1
          rw [q_sb (by omega) hf, show (2 : Int32) = Int32.ofNat 2 from rfl, q_le (by omega) (by omega)] at z
          omega
        rw [er, show t_ru (g 74) 2 m (p + 1) - p = (t_ru (g 74) 2 m (p + 1) - (p + 1)) + 1 by omega, t_v2, if_neg hlt] at hk
        rw [show (q_up (q_up (s_70 (Int32.ofNat p) (Int32.ofNat f) k v e a g) 70 17 v) 70 14 ((Int32.ofNat p) + (1 : Int32))) = s_70 (Int32.ofNat (p + 1)) (Int32.ofNat f) k (v) e a g from by rw [s_70_17, s_70_14, q_succ]]
        exact ih (p + 1) _ (by omega) (by omega) hk
      · refine q_step 7 187 [(0, .ref 70), (1, .int c)] [.int (Int32.ofNat p), .ref 70, .int ((10 : Int32) * v), .ref 70] (s_70 (Int32.ofNat p) (Int32.ofNat f) k v e a g) u (fun big n0 => sg_rt_16 big n0 (s_70 (Int32.ofNat p) (Int32.ofNat f) k v e a g) u c) ?_
        have hlk := b_look (s_70 (Int32.ofNat p) (Int32.ofNat f) k v e a g) u (p := p) (s := s) hs h160 (by omega)
        refine q_call (M2 := 153) (rest := [.int ((10 : Int32) * v), .ref 70]) (hlk) (fun _ _ => rfl) ?_
        refine q_step 12 140 [(0, .ref 70), (1, .int c)] [] (q_up (q_up (s_70 (Int32.ofNat p) (Int32.ofNat f) k v e a g) 70 17 ((((10 : Int32) * v) + (s_lk (g 74) s p)) - (48 : Int32))) 70 14 ((Int32.ofNat p) + (1 : Int32))) u (fun big n0 => sg_rt_17 big n0 (s_70 (Int32.ofNat p) (Int32.ofNat f) k v e a g) u c ((10 : Int32) * v) (s_lk (g 74) s p)) ?_
        have er : t_ru (g 74) 2 (m + 1) p = t_ru (g 74) 2 m (p + 1) := by rw [t_ru, if_pos (by rw [← elk]; exact Classical.byContradiction (fun z => hc0 (t_in2.mpr z)))]
        have hb := t_ru_b (b := g 74) (kd := 2) m (p + 1)
        have hlt : p < f + 2 := by
          have z := hc1
          rw [q_sb (by omega) hf, show (2 : Int32) = Int32.ofNat 2 from rfl, q_le (by omega) (by omega)] at z
          omega
        rw [er, show t_ru (g 74) 2 m (p + 1) - p = (t_ru (g 74) 2 m (p + 1) - (p + 1)) + 1 by omega, t_v2, if_pos hlt] at hk
        rw [show (q_up (q_up (s_70 (Int32.ofNat p) (Int32.ofNat f) k v e a g) 70 17 ((((10 : Int32) * v) + (s_lk (g 74) s p)) - (48 : Int32))) 70 14 ((Int32.ofNat p) + (1 : Int32))) = s_70 (Int32.ofNat (p + 1)) (Int32.ofNat f) k (10 * v + g 74 p - 48) e a g from by rw [s_70_17, s_70_14, q_succ, elk]]
        exact ih (p + 1) _ (by omega) (by omega) hk
theorem r_nextf (g : qM) (u : qW) (hf : 0 < g 70 18) : q_BS 152 [.ref 70] g u (none, g, u) := by
  refine q_bx (mm := m_152) rfl (Nat.le_of_ble_eq_true rfl) rfl ?_
  refine q_step 2 4 [(0, .ref 70)] [.int (g 70 18)] g u (fun big n0 => sg_rt_18 big n0 g u) ?_
  refine q_if_le rfl (fun hc0 => absurd (show (g 70 18) ≤ 0 from hc0) (Int32.not_le.mpr hf)) (fun (hc0 : ¬ ((g 70 18) ≤ 0)) => ?_)
  refine q_ret 1 (none, g, u) (fun _ _ => rfl) ?_
  rfl
theorem r_next {s p : Nat} (g : qM) (u : qW) (hs : g 70 13 = Int32.ofNat s) (h160 : s ≤ 160) (hp14 : g 70 14 = Int32.ofNat p) (hp : p ≤ s) (hf : g 70 18 = 0) (hb : ∀ j, j < s → 0 ≤ (g 74 j).toInt) : ∃ R, q_BS 152 [.ref 70] g u R ∧ ∃ k v e a, R = (none, s_70 (Int32.ofNat (t_pl (g 74) s p)) (Int32.ofNat (t_fi (g 74) s p)) k v e a g, u) ∧ (((t_ki (g 74) s p) = 0 ∧ e = 1 ∧ a = Int32.ofNat (t_fi (g 74) s p)) ∨ (¬ (t_ki (g 74) s p) = 0 ∧ e = 0 ∧ k = (if (t_ki (g 74) s p) = 4 then 0 else (t_ki (g 74) s p)) ∧ ((t_ki (g 74) s p) = 2 → v = t_va (g 74) s p))) := by
  refine q_bs (mm := m_152) rfl (Nat.le_of_ble_eq_true rfl) rfl ?_
  have hfb := t_fi_b (b := g 74) hp
  have hpb := t_pl_b (b := g 74) hp
  refine q_step 2 4 [(0, .ref 70)] [.int (g 70 18)] g u (fun big n0 => sg_rt_18 big n0 g u) ?_
  refine q_if_le rfl (fun (hc0 : (g 70 18) ≤ 0) => ?_) (fun hc0 => absurd (show (g 70 18) ≤ 0 from by rw [hf]; decide) hc0)
  rw [show q_EV m_152 8 [(0, .ref 70)] [] g u = q_EV m_152 8 [(0, .ref 70)] [] (s_70 (Int32.ofNat p) (g 70 15) (g 70 16) (g 70 17) 0 (g 70 19) g) u from by
    have e := s_70_0 (g := g)
    rw [hp14, hf] at e
    rw [e]]
  refine rn_sk g u hs h160 (s - p) p (by omega) ?_
  rw [show t_sk (g 74) (s - p) p = t_fi (g 74) s p from rfl]
  refine q_step 7 47 [(0, .ref 70)] [.int (Int32.ofNat (t_fi (g 74) s p)), .ref 70] (q_up (s_70 (Int32.ofNat (t_fi (g 74) s p)) (g 70 15) (g 70 16) (g 70 17) 0 (g 70 19) g) 70 15 (Int32.ofNat (t_fi (g 74) s p))) u (fun big n0 => sg_rt_19 big n0 (s_70 (Int32.ofNat (t_fi (g 74) s p)) (g 70 15) (g 70 16) (g 70 17) 0 (g 70 19) g) u) ?_
  have hlk := b_look (q_up (s_70 (Int32.ofNat (t_fi (g 74) s p)) (g 70 15) (g 70 16) (g 70 17) 0 (g 70 19) g) 70 15 (Int32.ofNat (t_fi (g 74) s p))) u (p := (t_fi (g 74) s p)) (s := s) hs h160 (by omega)
  refine q_call (M2 := 153) (rest := []) (hlk) (fun _ _ => rfl) ?_
  refine q_step 2 52 [(0, .ref 70), (1, .int (s_lk (g 74) s (t_fi (g 74) s p)))] [.int (s_lk (g 74) s (t_fi (g 74) s p))] (q_up (s_70 (Int32.ofNat (t_fi (g 74) s p)) (g 70 15) (g 70 16) (g 70 17) 0 (g 70 19) g) 70 15 (Int32.ofNat (t_fi (g 74) s p))) u (fun big n0 => sg_rt_20 big n0 (q_up (s_70 (Int32.ofNat (t_fi (g 74) s p)) (g 70 15) (g 70 16) (g 70 17) 0 (g 70 19) g) 70 15 (Int32.ofNat (t_fi (g 74) s p))) u (s_lk (g 74) s (t_fi (g 74) s p))) ?_
  refine q_if_ge rfl (fun (hc0 : 0 ≤ (s_lk (g 74) s (t_fi (g 74) s p))) => ?_) (fun (hc0 : ¬ (0 ≤ (s_lk (g 74) s (t_fi (g 74) s p)))) => ?_)
  · refine q_step 4 71 [(0, .ref 70), (1, .int (s_lk (g 74) s (t_fi (g 74) s p)))] [.long (122 : Int64), .long (97 : Int64), .long (Int32.toInt64 (s_lk (g 74) s (t_fi (g 74) s p)))] (q_up (s_70 (Int32.ofNat (t_fi (g 74) s p)) (g 70 15) (g 70 16) (g 70 17) 0 (g 70 19) g) 70 15 (Int32.ofNat (t_fi (g 74) s p))) u (fun big n0 => sg_rt_21 big n0 (q_up (s_70 (Int32.ofNat (t_fi (g 74) s p)) (g 70 15) (g 70 16) (g 70 17) 0 (g 70 19) g) 70 15 (Int32.ofNat (t_fi (g 74) s p))) u (s_lk (g 74) s (t_fi (g 74) s p))) ?_
    refine q_call (M2 := 149) (rest := []) (b_in _ _ _ _ _) (fun _ _ => rfl) ?_
    refine q_if_eq rfl (fun (hc1 : (s_in (Int32.toInt64 (s_lk (g 74) s (t_fi (g 74) s p))) (97 : Int64) (122 : Int64)) = 0) => ?_) (fun (hc1 : ¬ ((s_in (Int32.toInt64 (s_lk (g 74) s (t_fi (g 74) s p))) (97 : Int64) (122 : Int64)) = 0)) => ?_)
    · refine q_step 4 124 [(0, .ref 70), (1, .int (s_lk (g 74) s (t_fi (g 74) s p)))] [.long (57 : Int64), .long (48 : Int64), .long (Int32.toInt64 (s_lk (g 74) s (t_fi (g 74) s p)))] (q_up (s_70 (Int32.ofNat (t_fi (g 74) s p)) (g 70 15) (g 70 16) (g 70 17) 0 (g 70 19) g) 70 15 (Int32.ofNat (t_fi (g 74) s p))) u (fun big n0 => sg_rt_22 big n0 (q_up (s_70 (Int32.ofNat (t_fi (g 74) s p)) (g 70 15) (g 70 16) (g 70 17) 0 (g 70 19) g) 70 15 (Int32.ofNat (t_fi (g 74) s p))) u (s_lk (g 74) s (t_fi (g 74) s p))) ?_
      refine q_call (M2 := 149) (rest := []) (b_in _ _ _ _ _) (fun _ _ => rfl) ?_
      refine q_if_eq rfl (fun (hc2 : (s_in (Int32.toInt64 (s_lk (g 74) s (t_fi (g 74) s p))) (48 : Int64) (57 : Int64)) = 0) => ?_) (fun (hc2 : ¬ ((s_in (Int32.toInt64 (s_lk (g 74) s (t_fi (g 74) s p))) (48 : Int64) (57 : Int64)) = 0)) => ?_)
      · refine q_step 6 252 [(0, .ref 70), (1, .int (s_lk (g 74) s (t_fi (g 74) s p)))] [.int (59 : Int32), .int (s_lk (g 74) s (t_fi (g 74) s p)), .ref 70] (q_up (q_up (s_70 (Int32.ofNat (t_fi (g 74) s p)) (g 70 15) (g 70 16) (g 70 17) 0 (g 70 19) g) 70 15 (Int32.ofNat (t_fi (g 74) s p))) 70 16 (3 : Int32)) u (fun big n0 => sg_rt_23 big n0 (q_up (s_70 (Int32.ofNat (t_fi (g 74) s p)) (g 70 15) (g 70 16) (g 70 17) 0 (g 70 19) g) 70 15 (Int32.ofNat (t_fi (g 74) s p))) u (s_lk (g 74) s (t_fi (g 74) s p))) ?_
        refine q_ic_ne rfl (fun (hc3 : (s_lk (g 74) s (t_fi (g 74) s p)) = (59 : Int32)) => ?_) (fun (hc3 : ¬ ((s_lk (g 74) s (t_fi (g 74) s p)) = (59 : Int32))) => ?_)
        · refine q_step 3 261 [(0, .ref 70), (1, .int (s_lk (g 74) s (t_fi (g 74) s p)))] [.int (1 : Int32), .int (1 : Int32), .ref 70] (q_up (q_up (s_70 (Int32.ofNat (t_fi (g 74) s p)) (g 70 15) (g 70 16) (g 70 17) 0 (g 70 19) g) 70 15 (Int32.ofNat (t_fi (g 74) s p))) 70 16 (3 : Int32)) u (fun big n0 => sg_rt_24 big n0 (q_up (q_up (s_70 (Int32.ofNat (t_fi (g 74) s p)) (g 70 15) (g 70 16) (g 70 17) 0 (g 70 19) g) 70 15 (Int32.ofNat (t_fi (g 74) s p))) 70 16 (3 : Int32)) u (s_lk (g 74) s (t_fi (g 74) s p))) ?_
          refine q_call (M2 := 154) (rest := []) (b_needs1 _ _ _) (fun _ _ => rfl) ?_
          refine q_ret 7 (none, (q_up (q_up (q_up (s_70 (Int32.ofNat (t_fi (g 74) s p)) (g 70 15) (g 70 16) (g 70 17) 0 (g 70 19) g) 70 15 (Int32.ofNat (t_fi (g 74) s p))) 70 16 (3 : Int32)) 70 14 ((Int32.ofNat (t_fi (g 74) s p)) + (1 : Int32))), u) (fun _ _ => rfl) ?_
          have e : ¬ s ≤ (t_fi (g 74) s p) := fun z => by
            have q := hc0
            rw [show (s_lk (g 74) s (t_fi (g 74) s p)) = Int32.ofInt (-1) from by unfold s_lk; rw [if_neg (by omega)]] at q
            exact absurd q (by decide)
          have elk : (s_lk (g 74) s (t_fi (g 74) s p)) = g 74 (t_fi (g 74) s p) := by unfold s_lk; rw [if_pos (by omega)]
          have e1 : t_kd (g 74 (t_fi (g 74) s p)) = 3 := by
            rw [← elk, t_kd3 (t_in1.mp hc1) (t_in2.mp hc2), if_pos hc3]
          have e0 : (t_k0 (g 74) s p) = 3 := (if_neg e).trans e1
          have ek : (t_ki (g 74) s p) = 3 := by unfold t_ki; rw [e0, if_neg (by decide)]
          have ep : (t_pl (g 74) s p) = (t_fi (g 74) s p) + 1 := by unfold t_pl; rw [if_neg e, e0, if_neg (by decide), if_neg (by decide)]
          exact ⟨3, g 70 17, 0, g 70 19, by rw [s_70_15, s_70_16, s_70_14, ep, q_succ], Or.inr ⟨by rw [ek]; decide, rfl, by rw [ek]; rfl, fun z => absurd (ek.symm.trans z) (by decide)⟩⟩
        · refine q_step 2 261 [(0, .ref 70), (1, .int (s_lk (g 74) s (t_fi (g 74) s p)))] [.int (1 : Int32), .int (0 : Int32), .ref 70] (q_up (q_up (s_70 (Int32.ofNat (t_fi (g 74) s p)) (g 70 15) (g 70 16) (g 70 17) 0 (g 70 19) g) 70 15 (Int32.ofNat (t_fi (g 74) s p))) 70 16 (3 : Int32)) u (fun big n0 => sg_rt_25 big n0 (q_up (q_up (s_70 (Int32.ofNat (t_fi (g 74) s p)) (g 70 15) (g 70 16) (g 70 17) 0 (g 70 19) g) 70 15 (Int32.ofNat (t_fi (g 74) s p))) 70 16 (3 : Int32)) u (s_lk (g 74) s (t_fi (g 74) s p))) ?_
          refine q_call (M2 := 154) (rest := []) (b_needs0 _ _ _ rfl) (fun _ _ => rfl) ?_
          refine q_ret 7 (none, (q_up (q_up (q_up (q_up (q_up (s_70 (Int32.ofNat (t_fi (g 74) s p)) (g 70 15) (g 70 16) (g 70 17) 0 (g 70 19) g) 70 15 (Int32.ofNat (t_fi (g 74) s p))) 70 16 (3 : Int32)) 70 18 (1 : Int32)) 70 19 (Int32.ofNat (t_fi (g 74) s p))) 70 14 ((Int32.ofNat (t_fi (g 74) s p)) + (1 : Int32))), u) (fun _ _ => rfl) ?_
          have e : ¬ s ≤ (t_fi (g 74) s p) := fun z => by
            have q := hc0
            rw [show (s_lk (g 74) s (t_fi (g 74) s p)) = Int32.ofInt (-1) from by unfold s_lk; rw [if_neg (by omega)]] at q
            exact absurd q (by decide)
          have elk : (s_lk (g 74) s (t_fi (g 74) s p)) = g 74 (t_fi (g 74) s p) := by unfold s_lk; rw [if_pos (by omega)]
          have e1 : t_kd (g 74 (t_fi (g 74) s p)) = 0 := by
            rw [← elk, t_kd3 (t_in1.mp hc1) (t_in2.mp hc2), if_neg hc3]
          have e0 : (t_k0 (g 74) s p) = 0 := (if_neg e).trans e1
          have ek : (t_ki (g 74) s p) = 0 := by unfold t_ki; rw [e0, if_neg (by decide)]
          have ep : (t_pl (g 74) s p) = (t_fi (g 74) s p) + 1 := by unfold t_pl; rw [if_neg e, e0, if_neg (by decide), if_neg (by decide)]
          exact ⟨3, g 70 17, 1, (Int32.ofNat (t_fi (g 74) s p)), by rw [s_70_15, s_70_16, s_70_18, s_70_19, s_70_14, ep, q_succ], Or.inl ⟨ek, rfl, rfl⟩⟩
      · refine q_step 6 140 [(0, .ref 70), (1, .int (s_lk (g 74) s (t_fi (g 74) s p)))] [] (q_up (q_up (q_up (s_70 (Int32.ofNat (t_fi (g 74) s p)) (g 70 15) (g 70 16) (g 70 17) 0 (g 70 19) g) 70 15 (Int32.ofNat (t_fi (g 74) s p))) 70 16 (2 : Int32)) 70 17 (0 : Int32)) u (fun big n0 => sg_rt_26 big n0 (q_up (s_70 (Int32.ofNat (t_fi (g 74) s p)) (g 70 15) (g 70 16) (g 70 17) 0 (g 70 19) g) 70 15 (Int32.ofNat (t_fi (g 74) s p))) u (s_lk (g 74) s (t_fi (g 74) s p))) ?_
        have e : ¬ s ≤ (t_fi (g 74) s p) := fun z => by
          have q := hc0
          rw [show (s_lk (g 74) s (t_fi (g 74) s p)) = Int32.ofInt (-1) from by unfold s_lk; rw [if_neg (by omega)]] at q
          exact absurd q (by decide)
        have elk : (s_lk (g 74) s (t_fi (g 74) s p)) = g 74 (t_fi (g 74) s p) := by unfold s_lk; rw [if_pos (by omega)]
        have e1 : t_kd (g 74 (t_fi (g 74) s p)) = 2 := by rw [← elk]; exact Classical.byContradiction (fun z => hc2 (t_in2.mpr z))
        have e0 : (t_k0 (g 74) s p) = 2 := (if_neg e).trans e1
        have ep : (t_pl (g 74) s p) = t_ru (g 74) 2 (s - ((t_fi (g 74) s p) + 1)) ((t_fi (g 74) s p) + 1) := by unfold t_pl; rw [if_neg e, e0, if_neg (by decide), if_pos rfl]
        rw [show (q_up (q_up (q_up (s_70 (Int32.ofNat (t_fi (g 74) s p)) (g 70 15) (g 70 16) (g 70 17) 0 (g 70 19) g) 70 15 (Int32.ofNat (t_fi (g 74) s p))) 70 16 (2 : Int32)) 70 17 (0 : Int32)) = s_70 (Int32.ofNat (t_fi (g 74) s p)) (Int32.ofNat (t_fi (g 74) s p)) 2 0 0 (g 70 19) g from by rw [s_70_15, s_70_16, s_70_17]]
        have er : t_ru (g 74) 2 (s - (t_fi (g 74) s p)) (t_fi (g 74) s p) = (t_pl (g 74) s p) := by
          rw [show s - (t_fi (g 74) s p) = (s - ((t_fi (g 74) s p) + 1)) + 1 by omega, t_ru, if_pos e1, ep]
        refine rn_nu g u hs h160 (s - (t_fi (g 74) s p)) (t_fi (g 74) s p) 0 (by omega) (Nat.le_refl _) ?_
        rw [er]
        refine q_step 7 228 [(0, .ref 70), (1, .int (s_lk (g 74) s (t_fi (g 74) s p)))] [.int (2 : Int32), .int ((Int32.ofNat (t_pl (g 74) s p)) - (Int32.ofNat (t_fi (g 74) s p))), .ref 70] (s_70 (Int32.ofNat (t_pl (g 74) s p)) (Int32.ofNat (t_fi (g 74) s p)) 2 (t_v2 (g 74) (t_fi (g 74) s p) ((t_pl (g 74) s p) - (t_fi (g 74) s p)) (t_fi (g 74) s p) 0) 0 (g 70 19) g) u (fun big n0 => sg_rt_27 big n0 (s_70 (Int32.ofNat (t_pl (g 74) s p)) (Int32.ofNat (t_fi (g 74) s p)) 2 (t_v2 (g 74) (t_fi (g 74) s p) ((t_pl (g 74) s p) - (t_fi (g 74) s p)) (t_fi (g 74) s p) 0) 0 (g 70 19) g) u (s_lk (g 74) s (t_fi (g 74) s p))) ?_
        refine q_ic_gt rfl (fun (hc20 : (2 : Int32) < ((Int32.ofNat (t_pl (g 74) s p)) - (Int32.ofNat (t_fi (g 74) s p)))) => ?_) (fun (hc20 : ¬ ((2 : Int32) < ((Int32.ofNat (t_pl (g 74) s p)) - (Int32.ofNat (t_fi (g 74) s p))))) => ?_)
        · refine q_step 2 237 [(0, .ref 70), (1, .int (s_lk (g 74) s (t_fi (g 74) s p)))] [.int (1 : Int32), .int (0 : Int32), .ref 70] (s_70 (Int32.ofNat (t_pl (g 74) s p)) (Int32.ofNat (t_fi (g 74) s p)) 2 (t_v2 (g 74) (t_fi (g 74) s p) ((t_pl (g 74) s p) - (t_fi (g 74) s p)) (t_fi (g 74) s p) 0) 0 (g 70 19) g) u (fun big n0 => sg_rt_28 big n0 (s_70 (Int32.ofNat (t_pl (g 74) s p)) (Int32.ofNat (t_fi (g 74) s p)) 2 (t_v2 (g 74) (t_fi (g 74) s p) ((t_pl (g 74) s p) - (t_fi (g 74) s p)) (t_fi (g 74) s p) 0) 0 (g 70 19) g) u (s_lk (g 74) s (t_fi (g 74) s p))) ?_
          refine q_call (M2 := 154) (rest := []) (b_needs0 _ _ _ rfl) (fun _ _ => rfl) ?_
          refine q_ret 2 (none, (q_up (q_up (s_70 (Int32.ofNat (t_pl (g 74) s p)) (Int32.ofNat (t_fi (g 74) s p)) 2 (t_v2 (g 74) (t_fi (g 74) s p) ((t_pl (g 74) s p) - (t_fi (g 74) s p)) (t_fi (g 74) s p) 0) 0 (g 70 19) g) 70 18 (1 : Int32)) 70 19 (Int32.ofNat (t_fi (g 74) s p))), u) (fun _ _ => rfl) ?_
          have z := hc20
          rw [q_sb (by omega) (by omega), show (2 : Int32) = Int32.ofNat 2 from rfl, q_lt (by omega) (by omega)] at z
          have ek : (t_ki (g 74) s p) = 0 := by unfold t_ki; rw [e0, if_pos rfl, if_neg (by omega)]
          exact ⟨2, (t_v2 (g 74) (t_fi (g 74) s p) ((t_pl (g 74) s p) - (t_fi (g 74) s p)) (t_fi (g 74) s p) 0), 1, (Int32.ofNat (t_fi (g 74) s p)), by rw [s_70_18, s_70_19], Or.inl ⟨ek, rfl, rfl⟩⟩
        · refine q_step 3 237 [(0, .ref 70), (1, .int (s_lk (g 74) s (t_fi (g 74) s p)))] [.int (1 : Int32), .int (1 : Int32), .ref 70] (s_70 (Int32.ofNat (t_pl (g 74) s p)) (Int32.ofNat (t_fi (g 74) s p)) 2 (t_v2 (g 74) (t_fi (g 74) s p) ((t_pl (g 74) s p) - (t_fi (g 74) s p)) (t_fi (g 74) s p) 0) 0 (g 70 19) g) u (fun big n0 => sg_rt_29 big n0 (s_70 (Int32.ofNat (t_pl (g 74) s p)) (Int32.ofNat (t_fi (g 74) s p)) 2 (t_v2 (g 74) (t_fi (g 74) s p) ((t_pl (g 74) s p) - (t_fi (g 74) s p)) (t_fi (g 74) s p) 0) 0 (g 70 19) g) u (s_lk (g 74) s (t_fi (g 74) s p))) ?_
          refine q_call (M2 := 154) (rest := []) (b_needs1 _ _ _) (fun _ _ => rfl) ?_
          refine q_ret 2 (none, (s_70 (Int32.ofNat (t_pl (g 74) s p)) (Int32.ofNat (t_fi (g 74) s p)) 2 (t_v2 (g 74) (t_fi (g 74) s p) ((t_pl (g 74) s p) - (t_fi (g 74) s p)) (t_fi (g 74) s p) 0) 0 (g 70 19) g), u) (fun _ _ => rfl) ?_
          have z := hc20
          rw [q_sb (by omega) (by omega), show (2 : Int32) = Int32.ofNat 2 from rfl, q_lt (by omega) (by omega)] at z
          have ek : (t_ki (g 74) s p) = 2 := by unfold t_ki; rw [e0, if_pos rfl, if_pos (by omega)]
          exact ⟨2, (t_v2 (g 74) (t_fi (g 74) s p) ((t_pl (g 74) s p) - (t_fi (g 74) s p)) (t_fi (g 74) s p) 0), 0, g 70 19, rfl, Or.inr ⟨by rw [ek]; decide, rfl, by rw [ek]; rfl, fun _ => t_v2_vl _ _ _ (by omega)⟩⟩
    · refine q_step 3 82 [(0, .ref 70), (1, .int (s_lk (g 74) s (t_fi (g 74) s p)))] [] (q_up (q_up (s_70 (Int32.ofNat (t_fi (g 74) s p)) (g 70 15) (g 70 16) (g 70 17) 0 (g 70 19) g) 70 15 (Int32.ofNat (t_fi (g 74) s p))) 70 16 (1 : Int32)) u (fun big n0 => sg_rt_30 big n0 (q_up (s_70 (Int32.ofNat (t_fi (g 74) s p)) (g 70 15) (g 70 16) (g 70 17) 0 (g 70 19) g) 70 15 (Int32.ofNat (t_fi (g 74) s p))) u (s_lk (g 74) s (t_fi (g 74) s p))) ?_
      have e : ¬ s ≤ (t_fi (g 74) s p) := fun z => by
        have q := hc0
        rw [show (s_lk (g 74) s (t_fi (g 74) s p)) = Int32.ofInt (-1) from by unfold s_lk; rw [if_neg (by omega)]] at q
        exact absurd q (by decide)
      have elk : (s_lk (g 74) s (t_fi (g 74) s p)) = g 74 (t_fi (g 74) s p) := by unfold s_lk; rw [if_pos (by omega)]
      have e1 : t_kd (g 74 (t_fi (g 74) s p)) = 1 := by rw [← elk]; exact Classical.byContradiction (fun z => hc1 (t_in1.mpr z))
      have e0 : (t_k0 (g 74) s p) = 1 := (if_neg e).trans e1
      have ek : (t_ki (g 74) s p) = 1 := by unfold t_ki; rw [e0, if_neg (by decide)]
      have ep : (t_pl (g 74) s p) = t_ru (g 74) 1 (s - ((t_fi (g 74) s p) + 1)) ((t_fi (g 74) s p) + 1) := by unfold t_pl; rw [if_neg e, e0, if_pos rfl]
      rw [show (q_up (q_up (s_70 (Int32.ofNat (t_fi (g 74) s p)) (g 70 15) (g 70 16) (g 70 17) 0 (g 70 19) g) 70 15 (Int32.ofNat (t_fi (g 74) s p))) 70 16 (1 : Int32)) = s_70 (Int32.ofNat (t_fi (g 74) s p)) (Int32.ofNat (t_fi (g 74) s p)) 1 (g 70 17) 0 (g 70 19) g from by rw [s_70_15, s_70_16]]
      have er : t_ru (g 74) 1 (s - (t_fi (g 74) s p)) (t_fi (g 74) s p) = (t_pl (g 74) s p) := by
        rw [show s - (t_fi (g 74) s p) = (s - ((t_fi (g 74) s p) + 1)) + 1 by omega, t_ru, if_pos e1, ep]
      refine rn_nm g u hs h160 (s - (t_fi (g 74) s p)) (t_fi (g 74) s p) (by omega) ?_
      rw [er]
      refine q_ret 1 (none, (s_70 (Int32.ofNat (t_pl (g 74) s p)) (Int32.ofNat (t_fi (g 74) s p)) 1 (g 70 17) 0 (g 70 19) g), u) (fun _ _ => rfl) ?_
      exact ⟨1, g 70 17, 0, g 70 19, rfl, Or.inr ⟨by rw [ek]; decide, rfl, by rw [ek]; rfl, fun z => absurd (ek.symm.trans z) (by decide)⟩⟩
  · refine q_ret 5 (none, (q_up (q_up (s_70 (Int32.ofNat (t_fi (g 74) s p)) (g 70 15) (g 70 16) (g 70 17) 0 (g 70 19) g) 70 15 (Int32.ofNat (t_fi (g 74) s p))) 70 16 (0 : Int32)), u) (fun _ _ => rfl) ?_
    have e : s ≤ (t_fi (g 74) s p) := Classical.byContradiction (fun z => by
      have q := hc0
      have hq := hb (t_fi (g 74) s p) (by omega)
      rw [show (s_lk (g 74) s (t_fi (g 74) s p)) = g 74 (t_fi (g 74) s p) from by unfold s_lk; rw [if_pos (by omega)]] at q
      have z0 : (0 : Int32).toInt = 0 := rfl
      rw [Int32.le_iff_toInt_le] at q
      omega)
    have e0 : (t_k0 (g 74) s p) = 4 := if_pos e
    have ek : (t_ki (g 74) s p) = 4 := by unfold t_ki; rw [e0, if_neg (by decide)]
    have ep : (t_pl (g 74) s p) = (t_fi (g 74) s p) := if_pos e
    exact ⟨0, g 70 17, 0, g 70 19, by rw [s_70_15, s_70_16, ep], Or.inr ⟨by rw [ek]; decide, rfl, by rw [ek]; rfl, fun z => absurd (ek.symm.trans z) (by decide)⟩⟩
