section
/-! TOKENS. -/
def t_sk (b : Nat → Int32) : Nat → Nat → Nat
  | 0, p => p
  | k + 1, p => if b p = 32 then t_sk b k (p + 1) else p
def t_kd (c : Int32) : Int32 := if c < 97 then (if c < 48 then (if c = 59 then 3 else 0) else if (57 : Int32) < c then (if c = 59 then 3 else 0) else 2) else if (122 : Int32) < c then (if c < 48 then (if c = 59 then 3 else 0) else if (57 : Int32) < c then (if c = 59 then 3 else 0) else 2) else 1
def t_ru (b : Nat → Int32) (kd : Int32) : Nat → Nat → Nat
  | 0, p => p
  | k + 1, p => if t_kd (b p) = kd then t_ru b kd k (p + 1) else p
def t_vl (b : Nat → Int32) : Nat → Nat → Int32 → Int32
  | 0, _, a => a
  | k + 1, i, a => t_vl b k (i + 1) (a * 10 + b i - 48)
/-- first byte; kind; place behind -/
def t_fi (b : Nat → Int32) (s p : Nat) : Nat := t_sk b (s - p) p
def t_k0 (b : Nat → Int32) (s p : Nat) : Int32 := if s ≤ t_fi b s p then 4 else t_kd (b (t_fi b s p))
def t_pl (b : Nat → Int32) (s p : Nat) : Nat := if s ≤ t_fi b s p then t_fi b s p else if t_k0 b s p = 1 then t_ru b 1 (s - (t_fi b s p + 1)) (t_fi b s p + 1) else if t_k0 b s p = 2 then t_ru b 2 (s - (t_fi b s p + 1)) (t_fi b s p + 1) else t_fi b s p + 1
def t_ki (b : Nat → Int32) (s p : Nat) : Int32 := if t_k0 b s p = 2 then (if t_pl b s p ≤ t_fi b s p + 2 then 2 else 0) else t_k0 b s p
def t_va (b : Nat → Int32) (s p : Nat) : Int32 := t_vl b (t_pl b s p - t_fi b s p) (t_fi b s p) 0
theorem t_sk_b {b : Nat → Int32} : ∀ k p, p ≤ t_sk b k p ∧ t_sk b k p ≤ p + k
  | 0, p => ⟨Nat.le_refl _, Nat.le_refl _⟩
  | k + 1, p => by
    rw [t_sk]
    split
    · have := t_sk_b (b := b) k (p + 1)
      omega
    · omega
theorem t_ru_b {b : Nat → Int32} {kd : Int32} : ∀ k p, p ≤ t_ru b kd k p ∧ t_ru b kd k p ≤ p + k
  | 0, p => ⟨Nat.le_refl _, Nat.le_refl _⟩
  | k + 1, p => by
    rw [t_ru]
    split
    · have := t_ru_b (b := b) (kd := kd) k (p + 1)
      omega
    · omega
theorem t_kd_4 (c : Int32) : t_kd c = 0 ∨ t_kd c = 1 ∨ t_kd c = 2 ∨ t_kd c = 3 := by
  unfold t_kd
  repeat' split
  all_goals first
    | exact Or.inl rfl
    | exact Or.inr (Or.inl rfl)
    | exact Or.inr (Or.inr (Or.inl rfl))
    | exact Or.inr (Or.inr (Or.inr rfl))
theorem t_fi_b {b : Nat → Int32} {s p : Nat} (hp : p ≤ s) : p ≤ t_fi b s p ∧ t_fi b s p ≤ s := by
  have := t_sk_b (b := b) (s - p) p
  unfold t_fi
  omega
theorem t_pl_b {b : Nat → Int32} {s p : Nat} (hp : p ≤ s) : t_fi b s p ≤ t_pl b s p ∧ t_pl b s p ≤ s ∧ (¬ s ≤ t_fi b s p → t_fi b s p < t_pl b s p) := by
  have h := t_fi_b (b := b) hp
  unfold t_pl
  by_cases e : s ≤ t_fi b s p
  · rw [if_pos e]
    omega
  · rw [if_neg e]
    have r1 := t_ru_b (b := b) (kd := 1) (s - (t_fi b s p + 1)) (t_fi b s p + 1)
    have r2 := t_ru_b (b := b) (kd := 2) (s - (t_fi b s p + 1)) (t_fi b s p + 1)
    split
    · omega
    · split <;> omega
theorem q_up_up {g : qM} {a j : Nat} {x y : Int32} : q_up (q_up g a j x) a j y = q_up g a j y := by
  funext b i
  simp only [q_up_eq]
  by_cases h : b = a ∧ i = j
  · rw [if_pos h, if_pos h]
  · rw [if_neg h, if_neg h, if_neg h]
/-- object 9 with its token told: kind, first, value, place -/
def s_9 (k f v p : Int32) (g : qM) : qM := fun a j => if a = 9 then (if j = 2 then k else if j = 3 then f else if j = 4 then v else if j = 5 then p else g 9 j) else g a j
theorem s_9_0 {g : qM} : s_9 (g 9 2) (g 9 3) (g 9 4) (g 9 5) g = g := by
  funext a j
  unfold s_9
  by_cases h : a = 9
  · rw [if_pos h, h]
    by_cases h2 : j = 2
    · rw [if_pos h2, h2]
    · by_cases h3 : j = 3
      · rw [if_neg h2, if_pos h3, h3]
      · by_cases h4 : j = 4
        · rw [if_neg h2, if_neg h3, if_pos h4, h4]
        · by_cases h5 : j = 5
          · rw [if_neg h2, if_neg h3, if_neg h4, if_pos h5, h5]
          · rw [if_neg h2, if_neg h3, if_neg h4, if_neg h5]
  · rw [if_neg h]
theorem s_9_o {k f v p : Int32} {g : qM} {a : Nat} (h : a ≠ 9) : s_9 k f v p g a = g a := by
  funext j
  unfold s_9
  rw [if_neg h]
theorem s_9_2 {k f v p x : Int32} {g : qM} : q_up (s_9 k f v p g) 9 2 x = s_9 x f v p g := by
  funext a j
  simp only [q_up_eq, s_9]
  by_cases h : a = 9
  · by_cases e : j = 2
    · simp [h, e]
    · simp [h, e]
  · simp [h]
theorem s_9_3 {k f v p x : Int32} {g : qM} : q_up (s_9 k f v p g) 9 3 x = s_9 k x v p g := by
  funext a j
  simp only [q_up_eq, s_9]
  by_cases h : a = 9
  · by_cases e : j = 3
    · simp [h, e]
    · simp [h, e]
  · simp [h]
theorem s_9_4 {k f v p x : Int32} {g : qM} : q_up (s_9 k f v p g) 9 4 x = s_9 k f x p g := by
  funext a j
  simp only [q_up_eq, s_9]
  by_cases h : a = 9
  · by_cases e : j = 4
    · simp [h, e]
    · simp [h, e]
  · simp [h]
theorem s_9_5 {k f v p x : Int32} {g : qM} : q_up (s_9 k f v p g) 9 5 x = s_9 k f v x g := by
  funext a j
  simp only [q_up_eq, s_9]
  by_cases h : a = 9
  · by_cases e : j = 5
    · simp [h, e]
    · simp [h, e]
  · simp [h]
theorem sg_tk_1 (big : Nat → List Value → qM → qW → qR) (n0 : Nat) (G : qM) (U : qW) (v0 : Int32) : qm_run pm_m big m_17 (n0 + 2) 0 [(0, .int v0)] [] G U = qm_run pm_m big m_17 n0 3 [(0, .int v0)] [.int (97 : Int32), .int v0] G U := rfl
theorem sg_tk_2 (big : Nat → List Value → qM → qW → qR) (n0 : Nat) (G : qM) (U : qW) (v0 : Int32) : qm_run pm_m big m_17 (n0 + 2) 14 [(0, .int v0)] [] G U = qm_run pm_m big m_17 n0 17 [(0, .int v0)] [.int (48 : Int32), .int v0] G U := rfl
theorem sg_tk_3 (big : Nat → List Value → qM → qW → qR) (n0 : Nat) (G : qM) (U : qW) (v0 : Int32) : qm_run pm_m big m_17 (n0 + 2) 28 [(0, .int v0)] [] G U = qm_run pm_m big m_17 n0 31 [(0, .int v0)] [.int (59 : Int32), .int v0] G U := rfl
theorem sg_tk_4 (big : Nat → List Value → qM → qW → qR) (n0 : Nat) (G : qM) (U : qW) (v0 : Int32) : qm_run pm_m big m_17 (n0 + 2) 20 [(0, .int v0)] [] G U = qm_run pm_m big m_17 n0 23 [(0, .int v0)] [.int (57 : Int32), .int v0] G U := rfl
theorem sg_tk_5 (big : Nat → List Value → qM → qW → qR) (n0 : Nat) (G : qM) (U : qW) (v0 : Int32) : qm_run pm_m big m_17 (n0 + 2) 6 [(0, .int v0)] [] G U = qm_run pm_m big m_17 n0 9 [(0, .int v0)] [.int (122 : Int32), .int v0] G U := rfl
theorem sg_tk_6 (big : Nat → List Value → qM → qW → qR) (n0 : Nat) (G : qM) (U : qW) : qm_run pm_m big m_16 (n0 + 4) 0 [(0, .ref 9)] [] G U = qm_run pm_m big m_16 n0 8 [(0, .ref 9)] [.int (G 9 1), .int (G 9 5)] G U := rfl
theorem sg_tk_7 (big : Nat → List Value → qM → qW → qR) (n0 : Nat) (G : qM) (U : qW) : qm_run pm_m big m_16 (n0 + 4) 11 [(0, .ref 9)] [] G U = qm_run pm_m big m_16 n0 19 [(0, .ref 9)] [.int (G 9 5), .ref 10] G U := rfl
theorem sg_tk_8 (big : Nat → List Value → qM → qW → qR) (n0 : Nat) (G : qM) (U : qW) (v0 : Int32) : qm_run pm_m big m_16 (n0 + 1) 20 [(0, .ref 9)] [.int v0] G U = qm_run pm_m big m_16 n0 22 [(0, .ref 9)] [.int (32 : Int32), .int v0] G U := rfl
theorem sg_tk_9 (big : Nat → List Value → qM → qW → qR) (n0 : Nat) (G : qM) (U : qW) : qm_run pm_m big m_16 (n0 + 7) 25 [(0, .ref 9)] [] G U = qm_run pm_m big m_16 n0 0 [(0, .ref 9)] [] (q_up G 9 5 ((G 9 5) + (1 : Int32))) U := rfl
theorem sg_tk_10 (big : Nat → List Value → qM → qW → qR) (n0 : Nat) (G : qM) (U : qW) : qm_run pm_m big m_16 (n0 + 4) 88 [(0, .ref 9)] [] G U = qm_run pm_m big m_16 n0 96 [(0, .ref 9)] [.int (G 9 1), .int (G 9 5)] G U := rfl
theorem sg_tk_11 (big : Nat → List Value → qM → qW → qR) (n0 : Nat) (G : qM) (U : qW) : qm_run pm_m big m_16 (n0 + 3) 99 [(0, .ref 9)] [] G U = qm_run pm_m big m_16 n0 104 [(0, .ref 9)] [.int (1 : Int32), .int (G 9 2)] G U := rfl
theorem sg_tk_12 (big : Nat → List Value → qM → qW → qR) (n0 : Nat) (G : qM) (U : qW) : qm_run pm_m big m_16 (n0 + 4) 115 [(0, .ref 9)] [] G U = qm_run pm_m big m_16 n0 123 [(0, .ref 9)] [.int (G 9 5), .ref 10] G U := rfl
theorem sg_tk_13 (big : Nat → List Value → qM → qW → qR) (n0 : Nat) (G : qM) (U : qW) (v0 : Int32) : qm_run pm_m big m_16 (n0 + 2) 127 [(0, .ref 9)] [.int v0] G U = qm_run pm_m big m_16 n0 131 [(0, .ref 9)] [.int (G 9 2), .int v0] G U := rfl
theorem sg_tk_14 (big : Nat → List Value → qM → qW → qR) (n0 : Nat) (G : qM) (U : qW) : qm_run pm_m big m_16 (n0 + 7) 134 [(0, .ref 9)] [] G U = qm_run pm_m big m_16 n0 88 [(0, .ref 9)] [] (q_up G 9 5 ((G 9 5) + (1 : Int32))) U := rfl
theorem sg_tk_15 (big : Nat → List Value → qM → qW → qR) (n0 : Nat) (G : qM) (U : qW) : qm_run pm_m big m_16 (n0 + 3) 107 [(0, .ref 9)] [] G U = qm_run pm_m big m_16 n0 112 [(0, .ref 9)] [.int (2 : Int32), .int (G 9 2)] G U := rfl
theorem sg_tk_16 (big : Nat → List Value → qM → qW → qR) (n0 : Nat) (G : qM) (U : qW) (v0 : Int32) : qm_run pm_m big m_18 (n0 + 3) 10 [(0, .ref 9), (1, .int v0)] [] G U = qm_run pm_m big m_18 n0 15 [(0, .ref 9), (1, .int v0)] [.int (G 9 5), .int v0] G U := rfl
theorem sg_tk_17 (big : Nat → List Value → qM → qW → qR) (n0 : Nat) (G : qM) (U : qW) (v0 : Int32) : qm_run pm_m big m_18 (n0 + 6) 45 [(0, .ref 9), (1, .int v0)] [] G U = qm_run pm_m big m_18 n0 55 [(0, .ref 9), (1, .int v0)] [.int (2 : Int32), .int ((G 9 5) - (G 9 3))] G U := rfl
theorem sg_tk_18 (big : Nat → List Value → qM → qW → qR) (n0 : Nat) (G : qM) (U : qW) (v0 : Int32) : qm_run pm_m big m_18 (n0 + 8) 18 [(0, .ref 9), (1, .int v0)] [] G U = qm_run pm_m big m_18 n0 31 [(0, .ref 9), (1, .int v0)] [.int v0, .ref 10, .int ((G 9 4) * (10 : Int32)), .ref 9] G U := rfl
theorem sg_tk_19 (big : Nat → List Value → qM → qW → qR) (n0 : Nat) (G : qM) (U : qW) (v0 : Int32) (v1 : Int32) (v2 : Int32) : qm_run pm_m big m_18 (n0 + 6) 32 [(0, .ref 9), (1, .int v0)] [.int v2, .int v1, .ref 9] G U = qm_run pm_m big m_18 n0 10 [(0, .ref 9), (1, .int (v0 + (1 : Int32)))] [] (q_up G 9 4 ((v1 + v2) - (48 : Int32))) U := rfl
theorem sg_tk_20 (big : Nat → List Value → qM → qW → qR) (n0 : Nat) (G : qM) (U : qW) : qm_run pm_m big m_18 (n0 + 6) 0 [(0, .ref 9)] [] G U = qm_run pm_m big m_18 n0 10 [(0, .ref 9), (1, .int (G 9 3))] [] (q_up G 9 4 (0 : Int32)) U := rfl
theorem sg_tk_21 (big : Nat → List Value → qM → qW → qR) (n0 : Nat) (G : qM) (U : qW) : qm_run pm_m big m_16 (n0 + 11) 38 [(0, .ref 9)] [] G U = qm_run pm_m big m_16 n0 59 [(0, .ref 9)] [.int (G 9 1), .int (G 9 5)] (q_up (q_up G 9 3 (G 9 5)) 9 2 (4 : Int32)) U := rfl
theorem sg_tk_22 (big : Nat → List Value → qM → qW → qR) (n0 : Nat) (G : qM) (U : qW) : qm_run pm_m big m_16 (n0 + 3) 147 [(0, .ref 9)] [] G U = qm_run pm_m big m_16 n0 152 [(0, .ref 9)] [.int (2 : Int32), .int (G 9 2)] G U := rfl
theorem sg_tk_23 (big : Nat → List Value → qM → qW → qR) (n0 : Nat) (G : qM) (U : qW) : qm_run pm_m big m_16 (n0 + 5) 62 [(0, .ref 9)] [] G U = qm_run pm_m big m_16 n0 71 [(0, .ref 9)] [.int (G 9 5), .ref 10, .ref 9] G U := rfl
theorem sg_tk_24 (big : Nat → List Value → qM → qW → qR) (n0 : Nat) (G : qM) (U : qW) (v0 : Int32) : qm_run pm_m big m_16 (n0 + 7) 75 [(0, .ref 9)] [.int v0, .ref 9] G U = qm_run pm_m big m_16 n0 88 [(0, .ref 9)] [] (q_up (q_up G 9 2 v0) 9 5 ((G 9 5) + (1 : Int32))) U := rfl
theorem sg_tk_25 (big : Nat → List Value → qM → qW → qR) (n0 : Nat) (G : qM) (U : qW) : qm_run pm_m big m_16 (n0 + 1) 155 [(0, .ref 9)] [] G U = qm_run pm_m big m_16 n0 156 [(0, .ref 9)] [.ref 9] G U := rfl
theorem b_kind (x : Int32) (g : qM) (u : qW) : q_BS 17 [.int x] g u (some (.int (t_kd x)), g, u) := by
  refine q_bx (mm := m_17) rfl (Nat.le_of_ble_eq_true rfl) rfl ?_
  refine q_step 2 3 [(0, .int x)] [.int (97 : Int32), .int x] g u (fun big n0 => sg_tk_1 big n0 g u x) ?_
  refine q_ic_lt rfl (fun (hc0 : x < (97 : Int32)) => ?_) (fun (hc0 : ¬ (x < (97 : Int32))) => ?_)
  · refine q_step 2 17 [(0, .int x)] [.int (48 : Int32), .int x] g u (fun big n0 => sg_tk_2 big n0 g u x) ?_
    refine q_ic_lt rfl (fun (hc1 : x < (48 : Int32)) => ?_) (fun (hc1 : ¬ (x < (48 : Int32))) => ?_)
    · refine q_step 2 31 [(0, .int x)] [.int (59 : Int32), .int x] g u (fun big n0 => sg_tk_3 big n0 g u x) ?_
      refine q_ic_ne rfl (fun (hc2 : x = (59 : Int32)) => ?_) (fun (hc2 : ¬ (x = (59 : Int32))) => ?_)
      · refine q_ret 3 (some (.int (3 : Int32)), g, u) (fun _ _ => rfl) ?_
        unfold t_kd
        rw [if_pos hc0, if_pos hc1, if_pos hc2]
      · refine q_ret 2 (some (.int (0 : Int32)), g, u) (fun _ _ => rfl) ?_
        unfold t_kd
        rw [if_pos hc0, if_pos hc1, if_neg hc2]
    · refine q_step 2 23 [(0, .int x)] [.int (57 : Int32), .int x] g u (fun big n0 => sg_tk_4 big n0 g u x) ?_
      refine q_ic_gt rfl (fun (hc2 : (57 : Int32) < x) => ?_) (fun (hc2 : ¬ ((57 : Int32) < x)) => ?_)
      · refine q_step 2 31 [(0, .int x)] [.int (59 : Int32), .int x] g u (fun big n0 => sg_tk_3 big n0 g u x) ?_
        refine q_ic_ne rfl (fun (hc3 : x = (59 : Int32)) => ?_) (fun (hc3 : ¬ (x = (59 : Int32))) => ?_)
        · refine q_ret 3 (some (.int (3 : Int32)), g, u) (fun _ _ => rfl) ?_
          unfold t_kd
          rw [if_pos hc0, if_neg hc1, if_pos hc2, if_pos hc3]
        · refine q_ret 2 (some (.int (0 : Int32)), g, u) (fun _ _ => rfl) ?_
          unfold t_kd
          rw [if_pos hc0, if_neg hc1, if_pos hc2, if_neg hc3]
      · refine q_ret 2 (some (.int (2 : Int32)), g, u) (fun _ _ => rfl) ?_
        unfold t_kd
        rw [if_pos hc0, if_neg hc1, if_neg hc2]
  · refine q_step 2 9 [(0, .int x)] [.int (122 : Int32), .int x] g u (fun big n0 => sg_tk_5 big n0 g u x) ?_
    refine q_ic_gt rfl (fun (hc1 : (122 : Int32) < x) => ?_) (fun (hc1 : ¬ ((122 : Int32) < x)) => ?_)
    · refine q_step 2 17 [(0, .int x)] [.int (48 : Int32), .int x] g u (fun big n0 => sg_tk_2 big n0 g u x) ?_
      refine q_ic_lt rfl (fun (hc2 : x < (48 : Int32)) => ?_) (fun (hc2 : ¬ (x < (48 : Int32))) => ?_)
      · refine q_step 2 31 [(0, .int x)] [.int (59 : Int32), .int x] g u (fun big n0 => sg_tk_3 big n0 g u x) ?_
        refine q_ic_ne rfl (fun (hc3 : x = (59 : Int32)) => ?_) (fun (hc3 : ¬ (x = (59 : Int32))) => ?_)
        · refine q_ret 3 (some (.int (3 : Int32)), g, u) (fun _ _ => rfl) ?_
          unfold t_kd
          rw [if_neg hc0, if_pos hc1, if_pos hc2, if_pos hc3]
        · refine q_ret 2 (some (.int (0 : Int32)), g, u) (fun _ _ => rfl) ?_
          unfold t_kd
          rw [if_neg hc0, if_pos hc1, if_pos hc2, if_neg hc3]
      · refine q_step 2 23 [(0, .int x)] [.int (57 : Int32), .int x] g u (fun big n0 => sg_tk_4 big n0 g u x) ?_
        refine q_ic_gt rfl (fun (hc3 : (57 : Int32) < x) => ?_) (fun (hc3 : ¬ ((57 : Int32) < x)) => ?_)
        · refine q_step 2 31 [(0, .int x)] [.int (59 : Int32), .int x] g u (fun big n0 => sg_tk_3 big n0 g u x) ?_
          refine q_ic_ne rfl (fun (hc4 : x = (59 : Int32)) => ?_) (fun (hc4 : ¬ (x = (59 : Int32))) => ?_)
          · refine q_ret 3 (some (.int (3 : Int32)), g, u) (fun _ _ => rfl) ?_
            unfold t_kd
            rw [if_neg hc0, if_pos hc1, if_neg hc2, if_pos hc3, if_pos hc4]
          · refine q_ret 2 (some (.int (0 : Int32)), g, u) (fun _ _ => rfl) ?_
            unfold t_kd
            rw [if_neg hc0, if_pos hc1, if_neg hc2, if_pos hc3, if_neg hc4]
        · refine q_ret 2 (some (.int (2 : Int32)), g, u) (fun _ _ => rfl) ?_
          unfold t_kd
          rw [if_neg hc0, if_pos hc1, if_neg hc2, if_neg hc3]
    · refine q_ret 2 (some (.int (1 : Int32)), g, u) (fun _ _ => rfl) ?_
      unfold t_kd
      rw [if_neg hc0, if_neg hc1]
theorem nt_sk (g : qM) (u : qW) {s : Nat} (hs : g 9 1 = Int32.ofNat s) (h160 : s ≤ 160) {k f v : Int32} {Q : Option Value × qM × qW → Prop} : ∀ m p, p + m = s → q_EV m_16 38 [(0, .ref 9)] [] (s_9 k f v (Int32.ofNat (t_sk (g 10) m p)) g) u Q → q_EV m_16 0 [(0, .ref 9)] [] (s_9 k f v (Int32.ofNat p) g) u Q := by
  intro m
  induction m with
  | zero =>
    intro p hp hk
    refine q_step 4 8 [(0, .ref 9)] [.int (g 9 1), .int (Int32.ofNat p)] (s_9 k f v (Int32.ofNat p) g) u (fun big n0 => sg_tk_6 big n0 (s_9 k f v (Int32.ofNat p) g) u) ?_
    refine q_ic_ge rfl (fun (hc0 : (g 9 1) ≤ (Int32.ofNat p)) => ?_) (fun hc0 => absurd (show (g 9 1) ≤ (Int32.ofNat p) from by rw [hs]; exact (q_le (by omega) (by omega)).mpr (by omega)) hc0)
    exact hk
  | succ m ih =>
    intro p hp hk
    refine q_step 4 8 [(0, .ref 9)] [.int (g 9 1), .int (Int32.ofNat p)] (s_9 k f v (Int32.ofNat p) g) u (fun big n0 => sg_tk_6 big n0 (s_9 k f v (Int32.ofNat p) g) u) ?_
    refine q_ic_ge rfl (fun hc0 => absurd (show (g 9 1) ≤ (Int32.ofNat p) from hc0) (fun z => by rw [hs] at z; exact absurd ((q_le (by omega) (by omega)).mp z) (by omega))) (fun (hc0 : ¬ ((g 9 1) ≤ (Int32.ofNat p))) => ?_)
    refine q_step 4 19 [(0, .ref 9)] [.int (Int32.ofNat p), .ref 10] (s_9 k f v (Int32.ofNat p) g) u (fun big n0 => sg_tk_7 big n0 (s_9 k f v (Int32.ofNat p) g) u) ?_
    refine q_bald (j := p) (q_ixn (by omega) (by omega)) rfl (by decide) rfl ?_
    refine q_step 1 22 [(0, .ref 9)] [.int (32 : Int32), .int (g 10 p)] (s_9 k f v (Int32.ofNat p) g) u (fun big n0 => sg_tk_8 big n0 (s_9 k f v (Int32.ofNat p) g) u (g 10 p)) ?_
    refine q_ic_ne rfl (fun (hc1 : (g 10 p) = (32 : Int32)) => ?_) (fun (hc1 : ¬ ((g 10 p) = (32 : Int32))) => ?_)
    · refine q_step 7 0 [(0, .ref 9)] [] (q_up (s_9 k f v (Int32.ofNat p) g) 9 5 ((Int32.ofNat p) + (1 : Int32))) u (fun big n0 => sg_tk_9 big n0 (s_9 k f v (Int32.ofNat p) g) u) ?_
      rw [t_sk, if_pos hc1] at hk
      rw [show (q_up (s_9 k f v (Int32.ofNat p) g) 9 5 ((Int32.ofNat p) + (1 : Int32))) = s_9 k f v (Int32.ofNat (p + 1)) g from by rw [s_9_5, q_succ]]
      exact ih (p + 1) (by omega) hk
    · rw [t_sk, if_neg hc1] at hk
      exact hk
theorem nt_ru1 (g : qM) (u : qW) {s : Nat} (hs : g 9 1 = Int32.ofNat s) (h160 : s ≤ 160) {f v : Int32} {Q : Option Value × qM × qW → Prop} : ∀ m p, p + m = s → q_EV m_16 147 [(0, .ref 9)] [] (s_9 1 f v (Int32.ofNat (t_ru (g 10) 1 m p)) g) u Q → q_EV m_16 88 [(0, .ref 9)] [] (s_9 1 f v (Int32.ofNat p) g) u Q := by
  intro m
  induction m with
  | zero =>
    intro p hp hk
    refine q_step 4 96 [(0, .ref 9)] [.int (g 9 1), .int (Int32.ofNat p)] (s_9 (1 : Int32) f v (Int32.ofNat p) g) u (fun big n0 => sg_tk_10 big n0 (s_9 (1 : Int32) f v (Int32.ofNat p) g) u) ?_
    refine q_ic_ge rfl (fun (hc0 : (g 9 1) ≤ (Int32.ofNat p)) => ?_) (fun hc0 => absurd (show (g 9 1) ≤ (Int32.ofNat p) from by rw [hs]; exact (q_le (by omega) (by omega)).mpr (by omega)) hc0)
    exact hk
  | succ m ih =>
    intro p hp hk
    refine q_step 4 96 [(0, .ref 9)] [.int (g 9 1), .int (Int32.ofNat p)] (s_9 (1 : Int32) f v (Int32.ofNat p) g) u (fun big n0 => sg_tk_10 big n0 (s_9 (1 : Int32) f v (Int32.ofNat p) g) u) ?_
    refine q_ic_ge rfl (fun hc0 => absurd (show (g 9 1) ≤ (Int32.ofNat p) from hc0) (fun z => by rw [hs] at z; exact absurd ((q_le (by omega) (by omega)).mp z) (by omega))) (fun (hc0 : ¬ ((g 9 1) ≤ (Int32.ofNat p))) => ?_)
    refine q_step 3 104 [(0, .ref 9)] [.int (1 : Int32), .int (1 : Int32)] (s_9 (1 : Int32) f v (Int32.ofNat p) g) u (fun big n0 => sg_tk_11 big n0 (s_9 (1 : Int32) f v (Int32.ofNat p) g) u) ?_
    refine q_ic_eq rfl (fun (hc1 : (1 : Int32) = (1 : Int32)) => ?_) (fun hc1 => absurd (show (1 : Int32) = (1 : Int32) from rfl) hc1)
    refine q_step 4 123 [(0, .ref 9)] [.int (Int32.ofNat p), .ref 10] (s_9 (1 : Int32) f v (Int32.ofNat p) g) u (fun big n0 => sg_tk_12 big n0 (s_9 (1 : Int32) f v (Int32.ofNat p) g) u) ?_
    refine q_bald (j := p) (q_ixn (by omega) (by omega)) rfl (by decide) rfl ?_
    refine q_call (M2 := 17) (rest := []) (b_kind _ _ _) (fun _ _ => rfl) ?_
    refine q_step 2 131 [(0, .ref 9)] [.int (1 : Int32), .int (t_kd (g 10 p))] (s_9 (1 : Int32) f v (Int32.ofNat p) g) u (fun big n0 => sg_tk_13 big n0 (s_9 (1 : Int32) f v (Int32.ofNat p) g) u (t_kd (g 10 p))) ?_
    refine q_ic_ne rfl (fun (hc2 : (t_kd (g 10 p)) = (1 : Int32)) => ?_) (fun (hc2 : ¬ ((t_kd (g 10 p)) = (1 : Int32))) => ?_)
    · refine q_step 7 88 [(0, .ref 9)] [] (q_up (s_9 (1 : Int32) f v (Int32.ofNat p) g) 9 5 ((Int32.ofNat p) + (1 : Int32))) u (fun big n0 => sg_tk_14 big n0 (s_9 (1 : Int32) f v (Int32.ofNat p) g) u) ?_
      rw [t_ru, if_pos hc2] at hk
      rw [show (q_up (s_9 (1 : Int32) f v (Int32.ofNat p) g) 9 5 ((Int32.ofNat p) + (1 : Int32))) = s_9 1 f v (Int32.ofNat (p + 1)) g from by rw [s_9_5, q_succ]]
      exact ih (p + 1) (by omega) hk
    · rw [t_ru, if_neg hc2] at hk
      exact hk
theorem nt_ru2 (g : qM) (u : qW) {s : Nat} (hs : g 9 1 = Int32.ofNat s) (h160 : s ≤ 160) {f v : Int32} {Q : Option Value × qM × qW → Prop} : ∀ m p, p + m = s → q_EV m_16 147 [(0, .ref 9)] [] (s_9 2 f v (Int32.ofNat (t_ru (g 10) 2 m p)) g) u Q → q_EV m_16 88 [(0, .ref 9)] [] (s_9 2 f v (Int32.ofNat p) g) u Q := by
  intro m
  induction m with
  | zero =>
    intro p hp hk
    refine q_step 4 96 [(0, .ref 9)] [.int (g 9 1), .int (Int32.ofNat p)] (s_9 (2 : Int32) f v (Int32.ofNat p) g) u (fun big n0 => sg_tk_10 big n0 (s_9 (2 : Int32) f v (Int32.ofNat p) g) u) ?_
    refine q_ic_ge rfl (fun (hc0 : (g 9 1) ≤ (Int32.ofNat p)) => ?_) (fun hc0 => absurd (show (g 9 1) ≤ (Int32.ofNat p) from by rw [hs]; exact (q_le (by omega) (by omega)).mpr (by omega)) hc0)
    exact hk
  | succ m ih =>
    intro p hp hk
    refine q_step 4 96 [(0, .ref 9)] [.int (g 9 1), .int (Int32.ofNat p)] (s_9 (2 : Int32) f v (Int32.ofNat p) g) u (fun big n0 => sg_tk_10 big n0 (s_9 (2 : Int32) f v (Int32.ofNat p) g) u) ?_
    refine q_ic_ge rfl (fun hc0 => absurd (show (g 9 1) ≤ (Int32.ofNat p) from hc0) (fun z => by rw [hs] at z; exact absurd ((q_le (by omega) (by omega)).mp z) (by omega))) (fun (hc0 : ¬ ((g 9 1) ≤ (Int32.ofNat p))) => ?_)
    refine q_step 3 104 [(0, .ref 9)] [.int (1 : Int32), .int (2 : Int32)] (s_9 (2 : Int32) f v (Int32.ofNat p) g) u (fun big n0 => sg_tk_11 big n0 (s_9 (2 : Int32) f v (Int32.ofNat p) g) u) ?_
    refine q_ic_eq rfl (fun hc1 => absurd (show (2 : Int32) = (1 : Int32) from hc1) (by decide)) (fun (hc1 : ¬ ((2 : Int32) = (1 : Int32))) => ?_)
    refine q_step 3 112 [(0, .ref 9)] [.int (2 : Int32), .int (2 : Int32)] (s_9 (2 : Int32) f v (Int32.ofNat p) g) u (fun big n0 => sg_tk_15 big n0 (s_9 (2 : Int32) f v (Int32.ofNat p) g) u) ?_
    refine q_ic_ne rfl (fun (hc2 : (2 : Int32) = (2 : Int32)) => ?_) (fun hc2 => absurd (show (2 : Int32) = (2 : Int32) from rfl) hc2)
    refine q_step 4 123 [(0, .ref 9)] [.int (Int32.ofNat p), .ref 10] (s_9 (2 : Int32) f v (Int32.ofNat p) g) u (fun big n0 => sg_tk_12 big n0 (s_9 (2 : Int32) f v (Int32.ofNat p) g) u) ?_
    refine q_bald (j := p) (q_ixn (by omega) (by omega)) rfl (by decide) rfl ?_
    refine q_call (M2 := 17) (rest := []) (b_kind _ _ _) (fun _ _ => rfl) ?_
    refine q_step 2 131 [(0, .ref 9)] [.int (2 : Int32), .int (t_kd (g 10 p))] (s_9 (2 : Int32) f v (Int32.ofNat p) g) u (fun big n0 => sg_tk_13 big n0 (s_9 (2 : Int32) f v (Int32.ofNat p) g) u (t_kd (g 10 p))) ?_
    refine q_ic_ne rfl (fun (hc3 : (t_kd (g 10 p)) = (2 : Int32)) => ?_) (fun (hc3 : ¬ ((t_kd (g 10 p)) = (2 : Int32))) => ?_)
    · refine q_step 7 88 [(0, .ref 9)] [] (q_up (s_9 (2 : Int32) f v (Int32.ofNat p) g) 9 5 ((Int32.ofNat p) + (1 : Int32))) u (fun big n0 => sg_tk_14 big n0 (s_9 (2 : Int32) f v (Int32.ofNat p) g) u) ?_
      rw [t_ru, if_pos hc3] at hk
      rw [show (q_up (s_9 (2 : Int32) f v (Int32.ofNat p) g) 9 5 ((Int32.ofNat p) + (1 : Int32))) = s_9 2 f v (Int32.ofNat (p + 1)) g from by rw [s_9_5, q_succ]]
      exact ih (p + 1) (by omega) hk
    · rw [t_ru, if_neg hc3] at hk
      exact hk
theorem wf_l (g : qM) (u : qW) {e f : Nat} (he : e ≤ 160) : ∀ m i a, i + m = e → q_EV m_18 10 [(0, .ref 9), (1, .int (Int32.ofNat i))] [] (s_9 2 (Int32.ofNat f) a (Int32.ofNat e) g) u (fun R => R = (none, s_9 (if Int32.ofNat e - Int32.ofNat f ≤ 2 then 2 else 0) (Int32.ofNat f) (t_vl (g 10) m i a) (Int32.ofNat e) g, u)) := by
  intro m
  induction m with
  | zero =>
    intro i a hi
    refine q_step 3 15 [(0, .ref 9), (1, .int (Int32.ofNat i))] [.int (Int32.ofNat e), .int (Int32.ofNat i)] (s_9 2 (Int32.ofNat f) a (Int32.ofNat e) g) u (fun big n0 => sg_tk_16 big n0 (s_9 2 (Int32.ofNat f) a (Int32.ofNat e) g) u (Int32.ofNat i)) ?_
    refine q_ic_ge rfl (fun (hc0 : (Int32.ofNat e) ≤ (Int32.ofNat i)) => ?_) (fun hc0 => absurd (show (Int32.ofNat e) ≤ (Int32.ofNat i) from by exact (q_le (by omega) (by omega)).mpr (by omega)) hc0)
    refine q_step 6 55 [(0, .ref 9), (1, .int (Int32.ofNat i))] [.int (2 : Int32), .int ((Int32.ofNat e) - (Int32.ofNat f))] (s_9 2 (Int32.ofNat f) a (Int32.ofNat e) g) u (fun big n0 => sg_tk_17 big n0 (s_9 2 (Int32.ofNat f) a (Int32.ofNat e) g) u (Int32.ofNat i)) ?_
    refine q_ic_le rfl (fun (hc1 : ((Int32.ofNat e) - (Int32.ofNat f)) ≤ (2 : Int32)) => ?_) (fun (hc1 : ¬ (((Int32.ofNat e) - (Int32.ofNat f)) ≤ (2 : Int32))) => ?_)
    · refine q_ret 1 (none, (s_9 2 (Int32.ofNat f) a (Int32.ofNat e) g), u) (fun _ _ => rfl) ?_
      rw [if_pos hc1]
      rfl
    · refine q_ret 4 (none, (q_up (s_9 2 (Int32.ofNat f) a (Int32.ofNat e) g) 9 2 (0 : Int32)), u) (fun _ _ => rfl) ?_
      rw [if_neg hc1, s_9_2]
      rfl
  | succ m ih =>
    intro i a hi
    refine q_step 3 15 [(0, .ref 9), (1, .int (Int32.ofNat i))] [.int (Int32.ofNat e), .int (Int32.ofNat i)] (s_9 2 (Int32.ofNat f) a (Int32.ofNat e) g) u (fun big n0 => sg_tk_16 big n0 (s_9 2 (Int32.ofNat f) a (Int32.ofNat e) g) u (Int32.ofNat i)) ?_
    refine q_ic_ge rfl (fun hc0 => absurd (show (Int32.ofNat e) ≤ (Int32.ofNat i) from hc0) (fun z => by exact absurd ((q_le (by omega) (by omega)).mp z) (by omega))) (fun (hc0 : ¬ ((Int32.ofNat e) ≤ (Int32.ofNat i))) => ?_)
    refine q_step 8 31 [(0, .ref 9), (1, .int (Int32.ofNat i))] [.int (Int32.ofNat i), .ref 10, .int (a * (10 : Int32)), .ref 9] (s_9 2 (Int32.ofNat f) a (Int32.ofNat e) g) u (fun big n0 => sg_tk_18 big n0 (s_9 2 (Int32.ofNat f) a (Int32.ofNat e) g) u (Int32.ofNat i)) ?_
    refine q_bald (j := i) (q_ixn (by omega) (by omega)) rfl (by decide) rfl ?_
    refine q_step 6 10 [(0, .ref 9), (1, .int ((Int32.ofNat i) + (1 : Int32)))] [] (q_up (s_9 2 (Int32.ofNat f) a (Int32.ofNat e) g) 9 4 (((a * (10 : Int32)) + (g 10 i)) - (48 : Int32))) u (fun big n0 => sg_tk_19 big n0 (s_9 2 (Int32.ofNat f) a (Int32.ofNat e) g) u (Int32.ofNat i) (a * (10 : Int32)) (g 10 i)) ?_
    rw [q_succ, show (q_up (s_9 2 (Int32.ofNat f) a (Int32.ofNat e) g) 9 4 (((a * (10 : Int32)) + (g 10 i)) - (48 : Int32))) = s_9 2 (Int32.ofNat f) (a * 10 + g 10 i - 48) (Int32.ofNat e) g from s_9_4, t_vl]
    exact ih (i + 1) _ (by omega)
theorem b_wf (g : qM) (u : qW) {e f : Nat} {v : Int32} (hfe : f ≤ e) (he : e ≤ 160) : q_BS 18 [.ref 9] (s_9 2 (Int32.ofNat f) v (Int32.ofNat e) g) u (none, s_9 (if Int32.ofNat e - Int32.ofNat f ≤ 2 then 2 else 0) (Int32.ofNat f) (t_vl (g 10) (e - f) f 0) (Int32.ofNat e) g, u) := by
  refine q_bx (mm := m_18) rfl (Nat.le_of_ble_eq_true rfl) rfl ?_
  refine q_step 6 10 [(0, .ref 9), (1, .int (Int32.ofNat f))] [] (q_up (s_9 2 (Int32.ofNat f) v (Int32.ofNat e) g) 9 4 (0 : Int32)) u (fun big n0 => sg_tk_20 big n0 (s_9 2 (Int32.ofNat f) v (Int32.ofNat e) g) u) ?_
  rw [show (q_up (s_9 2 (Int32.ofNat f) v (Int32.ofNat e) g) 9 4 (0 : Int32)) = s_9 2 (Int32.ofNat f) 0 (Int32.ofNat e) g from s_9_4]
  exact wf_l g u he (e - f) f 0 (by omega)
theorem c_next {s p : Nat} (g : qM) (u : qW) (hs : g 9 1 = Int32.ofNat s) (h160 : s ≤ 160) (hp5 : g 9 5 = Int32.ofNat p) (hp : p ≤ s) : ∃ R, q_BS 16 [.ref 9] g u R ∧ ∃ k v, R = (none, s_9 k (Int32.ofNat (t_fi (g 10) s p)) v (Int32.ofNat (t_pl (g 10) s p)) g, u) ∧ k = t_ki (g 10) s p ∧ (t_ki (g 10) s p = 2 → v = t_va (g 10) s p) := by
  refine q_bs (mm := m_16) rfl (Nat.le_of_ble_eq_true rfl) rfl ?_
  rw [show q_EV m_16 0 (lv_args 0 [.ref 9]) [] g u = q_EV m_16 0 [(0, .ref 9)] [] (s_9 (g 9 2) (g 9 3) (g 9 4) (Int32.ofNat p) g) u from by rw [← hp5, s_9_0]; rfl]
  refine nt_sk g u hs h160 (s - p) p (by omega) ?_
  have hfb := t_fi_b (b := g 10) hp
  have hpb := t_pl_b (b := g 10) hp
  rw [show t_sk (g 10) (s - p) p = t_fi (g 10) s p from rfl]
  refine q_step 11 59 [(0, .ref 9)] [.int (g 9 1), .int (Int32.ofNat (t_fi (g 10) s p))] (q_up (q_up (s_9 (g 9 2) (g 9 3) (g 9 4) (Int32.ofNat (t_fi (g 10) s p)) g) 9 3 (Int32.ofNat (t_fi (g 10) s p))) 9 2 (4 : Int32)) u (fun big n0 => sg_tk_21 big n0 (s_9 (g 9 2) (g 9 3) (g 9 4) (Int32.ofNat (t_fi (g 10) s p)) g) u) ?_
  refine q_ic_ge rfl (fun (hc0 : (g 9 1) ≤ (Int32.ofNat (t_fi (g 10) s p))) => ?_) (fun (hc0 : ¬ ((g 9 1) ≤ (Int32.ofNat (t_fi (g 10) s p)))) => ?_)
  · rw [show (q_up (q_up (s_9 (g 9 2) (g 9 3) (g 9 4) (Int32.ofNat (t_fi (g 10) s p)) g) 9 3 (Int32.ofNat (t_fi (g 10) s p))) 9 2 (4 : Int32)) = s_9 4 (Int32.ofNat (t_fi (g 10) s p)) (g 9 4) (Int32.ofNat (t_fi (g 10) s p)) g from by rw [s_9_3, s_9_2]]
    refine q_step 4 96 [(0, .ref 9)] [.int (g 9 1), .int (Int32.ofNat (t_fi (g 10) s p))] (s_9 (4 : Int32) (Int32.ofNat (t_fi (g 10) s p)) (g 9 4) (Int32.ofNat (t_fi (g 10) s p)) g) u (fun big n0 => sg_tk_10 big n0 (s_9 (4 : Int32) (Int32.ofNat (t_fi (g 10) s p)) (g 9 4) (Int32.ofNat (t_fi (g 10) s p)) g) u) ?_
    refine q_ic_ge rfl (fun (hc10 : (g 9 1) ≤ (Int32.ofNat (t_fi (g 10) s p))) => ?_) (fun hc10 => absurd (show (g 9 1) ≤ (Int32.ofNat (t_fi (g 10) s p)) from hc0) hc10)
    refine q_step 3 152 [(0, .ref 9)] [.int (2 : Int32), .int (4 : Int32)] (s_9 (4 : Int32) (Int32.ofNat (t_fi (g 10) s p)) (g 9 4) (Int32.ofNat (t_fi (g 10) s p)) g) u (fun big n0 => sg_tk_22 big n0 (s_9 (4 : Int32) (Int32.ofNat (t_fi (g 10) s p)) (g 9 4) (Int32.ofNat (t_fi (g 10) s p)) g) u) ?_
    refine q_ic_ne rfl (fun hc11 => absurd (show (4 : Int32) = (2 : Int32) from hc11) (by decide)) (fun (hc11 : ¬ ((4 : Int32) = (2 : Int32))) => ?_)
    refine q_ret 1 (none, (s_9 (4 : Int32) (Int32.ofNat (t_fi (g 10) s p)) (g 9 4) (Int32.ofNat (t_fi (g 10) s p)) g), u) (fun _ _ => rfl) ?_
    have e : s ≤ (t_fi (g 10) s p) := (q_le (by omega) (by omega)).mp (by rw [← hs]; exact hc0)
    have e0 : (t_k0 (g 10) s p) = 4 := if_pos e
    have ek : t_ki (g 10) s p = 4 := by unfold t_ki; rw [e0, if_neg (by decide)]
    have ep : (t_pl (g 10) s p) = (t_fi (g 10) s p) := if_pos e
    exact ⟨4, g 9 4, by rw [ep], ek.symm, fun z => absurd (ek.symm.trans z) (by decide)⟩
  · refine q_step 5 71 [(0, .ref 9)] [.int (Int32.ofNat (t_fi (g 10) s p)), .ref 10, .ref 9] (q_up (q_up (s_9 (g 9 2) (g 9 3) (g 9 4) (Int32.ofNat (t_fi (g 10) s p)) g) 9 3 (Int32.ofNat (t_fi (g 10) s p))) 9 2 (4 : Int32)) u (fun big n0 => sg_tk_23 big n0 (q_up (q_up (s_9 (g 9 2) (g 9 3) (g 9 4) (Int32.ofNat (t_fi (g 10) s p)) g) 9 3 (Int32.ofNat (t_fi (g 10) s p))) 9 2 (4 : Int32)) u) ?_
    refine q_bald (j := (t_fi (g 10) s p)) (q_ixn (by have z : ¬ s ≤ (t_fi (g 10) s p) := fun q => hc0 (by rw [hs]; exact (q_le (by omega) (by omega)).mpr q); omega) (by omega)) rfl (by decide) rfl ?_
    refine q_call (M2 := 17) (rest := [.ref 9]) (b_kind _ _ _) (fun _ _ => rfl) ?_
    refine q_step 7 88 [(0, .ref 9)] [] (q_up (q_up (q_up (q_up (s_9 (g 9 2) (g 9 3) (g 9 4) (Int32.ofNat (t_fi (g 10) s p)) g) 9 3 (Int32.ofNat (t_fi (g 10) s p))) 9 2 (4 : Int32)) 9 2 (t_kd (g 10 (t_fi (g 10) s p)))) 9 5 ((Int32.ofNat (t_fi (g 10) s p)) + (1 : Int32))) u (fun big n0 => sg_tk_24 big n0 (q_up (q_up (s_9 (g 9 2) (g 9 3) (g 9 4) (Int32.ofNat (t_fi (g 10) s p)) g) 9 3 (Int32.ofNat (t_fi (g 10) s p))) 9 2 (4 : Int32)) u (t_kd (g 10 (t_fi (g 10) s p)))) ?_
    have e : ¬ s ≤ (t_fi (g 10) s p) := fun z => hc0 (by rw [hs]; exact (q_le (by omega) (by omega)).mpr z)
    have e0 : (t_k0 (g 10) s p) = t_kd (g 10 (t_fi (g 10) s p)) := if_neg e
    rw [show (q_up (q_up (q_up (q_up (s_9 (g 9 2) (g 9 3) (g 9 4) (Int32.ofNat (t_fi (g 10) s p)) g) 9 3 (Int32.ofNat (t_fi (g 10) s p))) 9 2 (4 : Int32)) 9 2 (t_kd (g 10 (t_fi (g 10) s p)))) 9 5 ((Int32.ofNat (t_fi (g 10) s p)) + (1 : Int32))) = s_9 (t_kd (g 10 (t_fi (g 10) s p))) (Int32.ofNat (t_fi (g 10) s p)) (g 9 4) (Int32.ofNat ((t_fi (g 10) s p) + 1)) g from by rw [s_9_3, s_9_2, s_9_2, s_9_5, q_succ]]
    rcases t_kd_4 (g 10 (t_fi (g 10) s p)) with e1 | e1 | e1 | e1
    · have ep : (t_pl (g 10) s p) = (t_fi (g 10) s p) + 1 := by unfold t_pl; rw [if_neg e, e0, e1, if_neg (by decide), if_neg (by decide)]
      have ek : t_ki (g 10) s p = 0 := by unfold t_ki; rw [e0, e1, if_neg (by decide)]
      rw [e1]
      refine q_step 4 96 [(0, .ref 9)] [.int (g 9 1), .int (Int32.ofNat ((t_fi (g 10) s p) + 1))] (s_9 (0 : Int32) (Int32.ofNat (t_fi (g 10) s p)) (g 9 4) (Int32.ofNat ((t_fi (g 10) s p) + 1)) g) u (fun big n0 => sg_tk_10 big n0 (s_9 (0 : Int32) (Int32.ofNat (t_fi (g 10) s p)) (g 9 4) (Int32.ofNat ((t_fi (g 10) s p) + 1)) g) u) ?_
      refine q_ic_ge rfl (fun (hc10 : (g 9 1) ≤ (Int32.ofNat ((t_fi (g 10) s p) + 1))) => ?_) (fun (hc10 : ¬ ((g 9 1) ≤ (Int32.ofNat ((t_fi (g 10) s p) + 1)))) => ?_)
      · refine q_step 3 152 [(0, .ref 9)] [.int (2 : Int32), .int (0 : Int32)] (s_9 (0 : Int32) (Int32.ofNat (t_fi (g 10) s p)) (g 9 4) (Int32.ofNat ((t_fi (g 10) s p) + 1)) g) u (fun big n0 => sg_tk_22 big n0 (s_9 (0 : Int32) (Int32.ofNat (t_fi (g 10) s p)) (g 9 4) (Int32.ofNat ((t_fi (g 10) s p) + 1)) g) u) ?_
        refine q_ic_ne rfl (fun hc11 => absurd (show (0 : Int32) = (2 : Int32) from hc11) (by decide)) (fun (hc11 : ¬ ((0 : Int32) = (2 : Int32))) => ?_)
        refine q_ret 1 (none, (s_9 (0 : Int32) (Int32.ofNat (t_fi (g 10) s p)) (g 9 4) (Int32.ofNat ((t_fi (g 10) s p) + 1)) g), u) (fun _ _ => rfl) ?_
        exact ⟨0, g 9 4, by rw [ep], ek.symm, fun z => absurd (ek.symm.trans z) (by decide)⟩
      · refine q_step 3 104 [(0, .ref 9)] [.int (1 : Int32), .int (0 : Int32)] (s_9 (0 : Int32) (Int32.ofNat (t_fi (g 10) s p)) (g 9 4) (Int32.ofNat ((t_fi (g 10) s p) + 1)) g) u (fun big n0 => sg_tk_11 big n0 (s_9 (0 : Int32) (Int32.ofNat (t_fi (g 10) s p)) (g 9 4) (Int32.ofNat ((t_fi (g 10) s p) + 1)) g) u) ?_
        refine q_ic_eq rfl (fun hc11 => absurd (show (0 : Int32) = (1 : Int32) from hc11) (by decide)) (fun (hc11 : ¬ ((0 : Int32) = (1 : Int32))) => ?_)
        refine q_step 3 112 [(0, .ref 9)] [.int (2 : Int32), .int (0 : Int32)] (s_9 (0 : Int32) (Int32.ofNat (t_fi (g 10) s p)) (g 9 4) (Int32.ofNat ((t_fi (g 10) s p) + 1)) g) u (fun big n0 => sg_tk_15 big n0 (s_9 (0 : Int32) (Int32.ofNat (t_fi (g 10) s p)) (g 9 4) (Int32.ofNat ((t_fi (g 10) s p) + 1)) g) u) ?_
        refine q_ic_ne rfl (fun hc12 => absurd (show (0 : Int32) = (2 : Int32) from hc12) (by decide)) (fun (hc12 : ¬ ((0 : Int32) = (2 : Int32))) => ?_)
        refine q_step 3 152 [(0, .ref 9)] [.int (2 : Int32), .int (0 : Int32)] (s_9 (0 : Int32) (Int32.ofNat (t_fi (g 10) s p)) (g 9 4) (Int32.ofNat ((t_fi (g 10) s p) + 1)) g) u (fun big n0 => sg_tk_22 big n0 (s_9 (0 : Int32) (Int32.ofNat (t_fi (g 10) s p)) (g 9 4) (Int32.ofNat ((t_fi (g 10) s p) + 1)) g) u) ?_
        refine q_ic_ne rfl (fun hc13 => absurd (show (0 : Int32) = (2 : Int32) from hc13) (by decide)) (fun (hc13 : ¬ ((0 : Int32) = (2 : Int32))) => ?_)
        refine q_ret 1 (none, (s_9 (0 : Int32) (Int32.ofNat (t_fi (g 10) s p)) (g 9 4) (Int32.ofNat ((t_fi (g 10) s p) + 1)) g), u) (fun _ _ => rfl) ?_
        exact ⟨0, g 9 4, by rw [ep], ek.symm, fun z => absurd (ek.symm.trans z) (by decide)⟩
    · have ep : (t_pl (g 10) s p) = t_ru (g 10) 1 (s - ((t_fi (g 10) s p) + 1)) ((t_fi (g 10) s p) + 1) := by unfold t_pl; rw [if_neg e, e0, e1, if_pos rfl]
      have ek : t_ki (g 10) s p = 1 := by unfold t_ki; rw [e0, e1, if_neg (by decide)]
      rw [e1]
      refine nt_ru1 g u hs h160 (s - ((t_fi (g 10) s p) + 1)) ((t_fi (g 10) s p) + 1) (by omega) ?_
      rw [← ep]
      refine q_step 3 152 [(0, .ref 9)] [.int (2 : Int32), .int (1 : Int32)] (s_9 (1 : Int32) (Int32.ofNat (t_fi (g 10) s p)) (g 9 4) (Int32.ofNat (t_pl (g 10) s p)) g) u (fun big n0 => sg_tk_22 big n0 (s_9 (1 : Int32) (Int32.ofNat (t_fi (g 10) s p)) (g 9 4) (Int32.ofNat (t_pl (g 10) s p)) g) u) ?_
      refine q_ic_ne rfl (fun hc10 => absurd (show (1 : Int32) = (2 : Int32) from hc10) (by decide)) (fun (hc10 : ¬ ((1 : Int32) = (2 : Int32))) => ?_)
      refine q_ret 1 (none, (s_9 (1 : Int32) (Int32.ofNat (t_fi (g 10) s p)) (g 9 4) (Int32.ofNat (t_pl (g 10) s p)) g), u) (fun _ _ => rfl) ?_
      exact ⟨1, g 9 4, rfl, ek.symm, fun z => absurd (ek.symm.trans z) (by decide)⟩
    · have ep : (t_pl (g 10) s p) = t_ru (g 10) 2 (s - ((t_fi (g 10) s p) + 1)) ((t_fi (g 10) s p) + 1) := by unfold t_pl; rw [if_neg e, e0, e1, if_neg (by decide), if_pos rfl]
      rw [e1]
      refine nt_ru2 g u hs h160 (s - ((t_fi (g 10) s p) + 1)) ((t_fi (g 10) s p) + 1) (by omega) ?_
      rw [← ep]
      refine q_step 3 152 [(0, .ref 9)] [.int (2 : Int32), .int (2 : Int32)] (s_9 (2 : Int32) (Int32.ofNat (t_fi (g 10) s p)) (g 9 4) (Int32.ofNat (t_pl (g 10) s p)) g) u (fun big n0 => sg_tk_22 big n0 (s_9 (2 : Int32) (Int32.ofNat (t_fi (g 10) s p)) (g 9 4) (Int32.ofNat (t_pl (g 10) s p)) g) u) ?_
      refine q_ic_ne rfl (fun (hc10 : (2 : Int32) = (2 : Int32)) => ?_) (fun hc10 => absurd (show (2 : Int32) = (2 : Int32) from rfl) hc10)
      refine q_step 1 156 [(0, .ref 9)] [.ref 9] (s_9 (2 : Int32) (Int32.ofNat (t_fi (g 10) s p)) (g 9 4) (Int32.ofNat (t_pl (g 10) s p)) g) u (fun big n0 => sg_tk_25 big n0 (s_9 (2 : Int32) (Int32.ofNat (t_fi (g 10) s p)) (g 9 4) (Int32.ofNat (t_pl (g 10) s p)) g) u) ?_
      refine q_call (M2 := 18) (rest := []) (b_wf g u (v := g 9 4) (f := (t_fi (g 10) s p)) (e := (t_pl (g 10) s p)) (by omega) (by omega)) (fun _ _ => rfl) ?_
      refine q_ret 1 (none, (s_9 (if Int32.ofNat (t_pl (g 10) s p) - Int32.ofNat (t_fi (g 10) s p) ≤ 2 then 2 else 0) (Int32.ofNat (t_fi (g 10) s p)) (t_va (g 10) s p) (Int32.ofNat (t_pl (g 10) s p)) g), u) (fun _ _ => rfl) ?_
      refine ⟨_, t_va (g 10) s p, rfl, ?_, fun _ => rfl⟩
      unfold t_ki
      rw [e0, e1, if_pos rfl, q_sb (by omega) (by omega)]
      by_cases l : (t_pl (g 10) s p) ≤ (t_fi (g 10) s p) + 2
      · rw [if_pos l, if_pos (show Int32.ofNat ((t_pl (g 10) s p) - (t_fi (g 10) s p)) ≤ (2 : Int32) from (q_le (i := (t_pl (g 10) s p) - (t_fi (g 10) s p)) (j := 2) (by omega) (by omega)).mpr (by omega))]
      · rw [if_neg l, if_neg (show ¬ Int32.ofNat ((t_pl (g 10) s p) - (t_fi (g 10) s p)) ≤ (2 : Int32) from fun z => l (by have z2 := (q_le (i := (t_pl (g 10) s p) - (t_fi (g 10) s p)) (j := 2) (by omega) (by omega)).mp z; omega))]
    · have ep : (t_pl (g 10) s p) = (t_fi (g 10) s p) + 1 := by unfold t_pl; rw [if_neg e, e0, e1, if_neg (by decide), if_neg (by decide)]
      have ek : t_ki (g 10) s p = 3 := by unfold t_ki; rw [e0, e1, if_neg (by decide)]
      rw [e1]
      refine q_step 4 96 [(0, .ref 9)] [.int (g 9 1), .int (Int32.ofNat ((t_fi (g 10) s p) + 1))] (s_9 (3 : Int32) (Int32.ofNat (t_fi (g 10) s p)) (g 9 4) (Int32.ofNat ((t_fi (g 10) s p) + 1)) g) u (fun big n0 => sg_tk_10 big n0 (s_9 (3 : Int32) (Int32.ofNat (t_fi (g 10) s p)) (g 9 4) (Int32.ofNat ((t_fi (g 10) s p) + 1)) g) u) ?_
      refine q_ic_ge rfl (fun (hc10 : (g 9 1) ≤ (Int32.ofNat ((t_fi (g 10) s p) + 1))) => ?_) (fun (hc10 : ¬ ((g 9 1) ≤ (Int32.ofNat ((t_fi (g 10) s p) + 1)))) => ?_)
      · refine q_step 3 152 [(0, .ref 9)] [.int (2 : Int32), .int (3 : Int32)] (s_9 (3 : Int32) (Int32.ofNat (t_fi (g 10) s p)) (g 9 4) (Int32.ofNat ((t_fi (g 10) s p) + 1)) g) u (fun big n0 => sg_tk_22 big n0 (s_9 (3 : Int32) (Int32.ofNat (t_fi (g 10) s p)) (g 9 4) (Int32.ofNat ((t_fi (g 10) s p) + 1)) g) u) ?_
        refine q_ic_ne rfl (fun hc11 => absurd (show (3 : Int32) = (2 : Int32) from hc11) (by decide)) (fun (hc11 : ¬ ((3 : Int32) = (2 : Int32))) => ?_)
        refine q_ret 1 (none, (s_9 (3 : Int32) (Int32.ofNat (t_fi (g 10) s p)) (g 9 4) (Int32.ofNat ((t_fi (g 10) s p) + 1)) g), u) (fun _ _ => rfl) ?_
        exact ⟨3, g 9 4, by rw [ep], ek.symm, fun z => absurd (ek.symm.trans z) (by decide)⟩
      · refine q_step 3 104 [(0, .ref 9)] [.int (1 : Int32), .int (3 : Int32)] (s_9 (3 : Int32) (Int32.ofNat (t_fi (g 10) s p)) (g 9 4) (Int32.ofNat ((t_fi (g 10) s p) + 1)) g) u (fun big n0 => sg_tk_11 big n0 (s_9 (3 : Int32) (Int32.ofNat (t_fi (g 10) s p)) (g 9 4) (Int32.ofNat ((t_fi (g 10) s p) + 1)) g) u) ?_
        refine q_ic_eq rfl (fun hc11 => absurd (show (3 : Int32) = (1 : Int32) from hc11) (by decide)) (fun (hc11 : ¬ ((3 : Int32) = (1 : Int32))) => ?_)
        refine q_step 3 112 [(0, .ref 9)] [.int (2 : Int32), .int (3 : Int32)] (s_9 (3 : Int32) (Int32.ofNat (t_fi (g 10) s p)) (g 9 4) (Int32.ofNat ((t_fi (g 10) s p) + 1)) g) u (fun big n0 => sg_tk_15 big n0 (s_9 (3 : Int32) (Int32.ofNat (t_fi (g 10) s p)) (g 9 4) (Int32.ofNat ((t_fi (g 10) s p) + 1)) g) u) ?_
        refine q_ic_ne rfl (fun hc12 => absurd (show (3 : Int32) = (2 : Int32) from hc12) (by decide)) (fun (hc12 : ¬ ((3 : Int32) = (2 : Int32))) => ?_)
        refine q_step 3 152 [(0, .ref 9)] [.int (2 : Int32), .int (3 : Int32)] (s_9 (3 : Int32) (Int32.ofNat (t_fi (g 10) s p)) (g 9 4) (Int32.ofNat ((t_fi (g 10) s p) + 1)) g) u (fun big n0 => sg_tk_22 big n0 (s_9 (3 : Int32) (Int32.ofNat (t_fi (g 10) s p)) (g 9 4) (Int32.ofNat ((t_fi (g 10) s p) + 1)) g) u) ?_
        refine q_ic_ne rfl (fun hc13 => absurd (show (3 : Int32) = (2 : Int32) from hc13) (by decide)) (fun (hc13 : ¬ ((3 : Int32) = (2 : Int32))) => ?_)
        refine q_ret 1 (none, (s_9 (3 : Int32) (Int32.ofNat (t_fi (g 10) s p)) (g 9 4) (Int32.ofNat ((t_fi (g 10) s p) + 1)) g), u) (fun _ _ => rfl) ?_
        exact ⟨3, g 9 4, by rw [ep], ek.symm, fun z => absurd (ek.symm.trans z) (by decide)⟩
end
section
/-! TOKENS of the reference. -/
def s_70 (p f k v e a : Int32) (g : qM) : qM := fun b j => if b = 70 then (if j = 14 then p else if j = 15 then f else if j = 16 then k else if j = 17 then v else if j = 18 then e else if j = 19 then a else g 70 j) else g b j
theorem s_70_0 {g : qM} : s_70 (g 70 14) (g 70 15) (g 70 16) (g 70 17) (g 70 18) (g 70 19) g = g := by
  funext b j
  unfold s_70
  by_cases h : b = 70
  · rw [if_pos h, h]
    by_cases h1 : j = 14
    · rw [if_pos h1, h1]
    · by_cases h2 : j = 15
      · rw [if_neg h1, if_pos h2, h2]
      · by_cases h3 : j = 16
        · rw [if_neg h1, if_neg h2, if_pos h3, h3]
        · by_cases h4 : j = 17
          · rw [if_neg h1, if_neg h2, if_neg h3, if_pos h4, h4]
          · by_cases h5 : j = 18
            · rw [if_neg h1, if_neg h2, if_neg h3, if_neg h4, if_pos h5, h5]
            · by_cases h6 : j = 19
              · rw [if_neg h1, if_neg h2, if_neg h3, if_neg h4, if_neg h5, if_pos h6, h6]
              · rw [if_neg h1, if_neg h2, if_neg h3, if_neg h4, if_neg h5, if_neg h6]
  · rw [if_neg h]
theorem s_70_o {p f k v e a : Int32} {g : qM} {b : Nat} (h : b ≠ 70) : s_70 p f k v e a g b = g b := by
  funext j
  unfold s_70
  rw [if_neg h]
/-- a byte, -1 behind all -/
def s_lk (b : Nat → Int32) (s p : Nat) : Int32 := if p < s then b p else Int32.ofInt (-1)
theorem t_in1 {c : Int32} : s_in (Int32.toInt64 c) 97 122 = 0 ↔ ¬ t_kd c = 1 := by
  have h := s_in_i (x := c) (lo := 97) (hi := 122)
  have e1 : (97 : Int64).toInt = 97 := rfl
  have e2 : (122 : Int64).toInt = 122 := rfl
  have c1 : (97 : Int32).toInt = 97 := rfl
  have c2 : (122 : Int32).toInt = 122 := rfl
  rw [e1, e2] at h
  have k : t_kd c = 1 ↔ ¬ c < 97 ∧ ¬ (122 : Int32) < c := by
    unfold t_kd
    by_cases a : c < 97
    · rw [if_pos a]
      refine ⟨fun z => ?_, fun z => absurd a z.1⟩
      repeat' split at z
      all_goals exact absurd z (by decide)
    · rw [if_neg a]
      by_cases b : (122 : Int32) < c
      · rw [if_pos b]
        refine ⟨fun z => ?_, fun z => absurd b z.2⟩
        repeat' split at z
        all_goals exact absurd z (by decide)
      · rw [if_neg b]
        exact ⟨fun _ => ⟨a, b⟩, fun _ => rfl⟩
  rw [k, Int32.lt_iff_toInt_lt, Int32.lt_iff_toInt_lt]
  constructor
  · intro z y
    exact (h.mpr (by omega)) z
  · intro z
    exact Classical.byContradiction (fun y => z (by have := h.mp y; omega))
theorem t_kd2 {c : Int32} : t_kd c = 2 ↔ ¬ c < 48 ∧ ¬ (57 : Int32) < c := by
  have c1 : (97 : Int32).toInt = 97 := rfl
  have c2 : (122 : Int32).toInt = 122 := rfl
  have c3 : (48 : Int32).toInt = 48 := rfl
  have c4 : (57 : Int32).toInt = 57 := rfl
  unfold t_kd
  by_cases d : c < 48
  · have a : c < 97 := by rw [Int32.lt_iff_toInt_lt] at d ⊢; omega
    rw [if_pos a, if_pos d]
    refine ⟨fun z => ?_, fun z => absurd d z.1⟩
    split at z <;> exact absurd z (by decide)
  · by_cases e : (57 : Int32) < c
    · refine ⟨fun z => ?_, fun z => absurd e z.2⟩
      rw [if_neg d, if_pos e] at z
      repeat' split at z
      all_goals exact absurd z (by decide)
    · have a : c < 97 := by
        rw [Int32.lt_iff_toInt_lt] at d e ⊢
        omega
      rw [if_pos a, if_neg d, if_neg e]
      exact ⟨fun _ => ⟨d, e⟩, fun _ => rfl⟩
theorem t_in2 {c : Int32} : s_in (Int32.toInt64 c) 48 57 = 0 ↔ ¬ t_kd c = 2 := by
  have h := s_in_i (x := c) (lo := 48) (hi := 57)
  have e1 : (48 : Int64).toInt = 48 := rfl
  have e2 : (57 : Int64).toInt = 57 := rfl
  have c1 : (48 : Int32).toInt = 48 := rfl
  have c2 : (57 : Int32).toInt = 57 := rfl
  rw [e1, e2] at h
  rw [t_kd2, Int32.lt_iff_toInt_lt, Int32.lt_iff_toInt_lt]
  constructor
  · intro z y
    exact (h.mpr (by omega)) z
  · intro z
    exact Classical.byContradiction (fun y => z (by have := h.mp y; omega))
theorem t_kd3 {c : Int32} (h1 : ¬ t_kd c = 1) (h2 : ¬ t_kd c = 2) : t_kd c = if c = 59 then 3 else 0 := by
  unfold t_kd at h1 h2 ⊢
  by_cases a : c < 97
  · rw [if_pos a] at h1 h2 ⊢
    by_cases b : c < 48
    · rw [if_pos b]
    · rw [if_neg b] at h1 h2 ⊢
      by_cases d : (57 : Int32) < c
      · rw [if_pos d]
      · rw [if_neg d] at h2
        exact absurd rfl h2
  · rw [if_neg a] at h1 h2 ⊢
    by_cases e : (122 : Int32) < c
    · rw [if_pos e] at h1 h2 ⊢
      by_cases b : c < 48
      · rw [if_pos b]
      · rw [if_neg b] at h1 h2 ⊢
        by_cases d : (57 : Int32) < c
        · rw [if_pos d]
        · rw [if_neg d] at h2
          exact absurd rfl h2
    · rw [if_neg e] at h1
      exact absurd rfl h1
/-- a number of two figures at most -/
def t_v2 (b : Nat → Int32) (f : Nat) : Nat → Nat → Int32 → Int32
  | 0, _, a => a
  | m + 1, i, a => t_v2 b f m (i + 1) (if i < f + 2 then 10 * a + b i - 48 else a)
theorem t_v2_vl {b : Nat → Int32} {f : Nat} : ∀ m i a, i + m ≤ f + 2 → t_v2 b f m i a = t_vl b m i a
  | 0, _, _, _ => rfl
  | m + 1, i, a, h => by
    rw [t_v2, t_vl, if_pos (by omega), Int32.mul_comm 10 a, t_v2_vl m (i + 1) _ (by omega)]
theorem t_kdm1 : t_kd (Int32.ofInt (-1)) = 0 := by decide
theorem sg_rt_1 (big : Nat → List Value → qM → qW → qR) (n0 : Nat) (G : qM) (U : qW) (v0 : Int32) : qm_run pm_m big m_153 (n0 + 3) 0 [(0, .ref 70), (1, .int v0)] [] G U = qm_run pm_m big m_153 n0 5 [(0, .ref 70), (1, .int v0)] [.int (G 70 13), .int v0] G U := rfl
theorem sg_rt_2 (big : Nat → List Value → qM → qW → qR) (n0 : Nat) (G : qM) (U : qW) (v0 : Int32) : qm_run pm_m big m_153 (n0 + 3) 8 [(0, .ref 70), (1, .int v0)] [] G U = qm_run pm_m big m_153 n0 13 [(0, .ref 70), (1, .int v0)] [.int v0, .ref 74] G U := rfl
theorem sg_rt_3 (big : Nat → List Value → qM → qW → qR) (n0 : Nat) (G : qM) (U : qW) (v0 : Int32) : qm_run pm_m big m_154 (n0 + 4) 0 [(0, .ref 70), (1, .int (0 : Int32)), (2, .int v0)] [] G U = qm_run pm_m big m_154 n0 8 [(0, .ref 70), (1, .int (0 : Int32)), (2, .int v0)] [.int (G 70 18)] G U := rfl
theorem sg_rt_4 (big : Nat → List Value → qM → qW → qR) (n0 : Nat) (G : qM) (U : qW) (v0 : Int32) (v1 : Int32) : qm_run pm_m big m_154 (n0 + 1) 0 [(0, .ref 70), (1, .int v0), (2, .int v1)] [] G U = qm_run pm_m big m_154 n0 1 [(0, .ref 70), (1, .int v0), (2, .int v1)] [.int v0] G U := rfl
theorem sg_rt_5 (big : Nat → List Value → qM → qW → qR) (n0 : Nat) (G : qM) (U : qW) (v0 : Int32) (v1 : Int32) : qm_run pm_m big m_154 (n0 + 2) 4 [(0, .ref 70), (1, .int v0), (2, .int v1)] [] G U = qm_run pm_m big m_154 n0 8 [(0, .ref 70), (1, .int v0), (2, .int v1)] [.int (G 70 18)] G U := rfl
theorem sg_rt_6 (big : Nat → List Value → qM → qW → qR) (n0 : Nat) (G : qM) (U : qW) : qm_run pm_m big m_152 (n0 + 3) 8 [(0, .ref 70)] [] G U = qm_run pm_m big m_152 n0 13 [(0, .ref 70)] [.int (G 70 14), .ref 70] G U := rfl
theorem sg_rt_7 (big : Nat → List Value → qM → qW → qR) (n0 : Nat) (G : qM) (U : qW) (v0 : Int32) : qm_run pm_m big m_152 (n0 + 1) 16 [(0, .ref 70)] [.int v0] G U = qm_run pm_m big m_152 n0 18 [(0, .ref 70)] [.int (32 : Int32), .int v0] G U := rfl
theorem sg_rt_8 (big : Nat → List Value → qM → qW → qR) (n0 : Nat) (G : qM) (U : qW) : qm_run pm_m big m_152 (n0 + 7) 21 [(0, .ref 70)] [] G U = qm_run pm_m big m_152 n0 8 [(0, .ref 70)] [] (q_up G 70 14 ((G 70 14) + (1 : Int32))) U := rfl
theorem sg_rt_9 (big : Nat → List Value → qM → qW → qR) (n0 : Nat) (G : qM) (U : qW) (v0 : Int32) : qm_run pm_m big m_152 (n0 + 3) 82 [(0, .ref 70), (1, .int v0)] [] G U = qm_run pm_m big m_152 n0 87 [(0, .ref 70), (1, .int v0)] [.int (G 70 14), .ref 70] G U := rfl
theorem sg_rt_10 (big : Nat → List Value → qM → qW → qR) (n0 : Nat) (G : qM) (U : qW) (v0 : Int32) (v1 : Int32) : qm_run pm_m big m_152 (n0 + 3) 90 [(0, .ref 70), (1, .int v0)] [.int v1] G U = qm_run pm_m big m_152 n0 97 [(0, .ref 70), (1, .int v0)] [.long (122 : Int64), .long (97 : Int64), .long (Int32.toInt64 v1)] G U := rfl
theorem sg_rt_11 (big : Nat → List Value → qM → qW → qR) (n0 : Nat) (G : qM) (U : qW) (v0 : Int32) : qm_run pm_m big m_152 (n0 + 7) 103 [(0, .ref 70), (1, .int v0)] [] G U = qm_run pm_m big m_152 n0 82 [(0, .ref 70), (1, .int v0)] [] (q_up G 70 14 ((G 70 14) + (1 : Int32))) U := rfl
theorem sg_rt_12 (big : Nat → List Value → qM → qW → qR) (n0 : Nat) (G : qM) (U : qW) (v0 : Int32) : qm_run pm_m big m_152 (n0 + 3) 140 [(0, .ref 70), (1, .int v0)] [] G U = qm_run pm_m big m_152 n0 145 [(0, .ref 70), (1, .int v0)] [.int (G 70 14), .ref 70] G U := rfl
theorem sg_rt_13 (big : Nat → List Value → qM → qW → qR) (n0 : Nat) (G : qM) (U : qW) (v0 : Int32) (v1 : Int32) : qm_run pm_m big m_152 (n0 + 3) 148 [(0, .ref 70), (1, .int v0)] [.int v1] G U = qm_run pm_m big m_152 n0 155 [(0, .ref 70), (1, .int v0)] [.long (57 : Int64), .long (48 : Int64), .long (Int32.toInt64 v1)] G U := rfl
theorem sg_rt_14 (big : Nat → List Value → qM → qW → qR) (n0 : Nat) (G : qM) (U : qW) (v0 : Int32) : qm_run pm_m big m_152 (n0 + 7) 161 [(0, .ref 70), (1, .int v0)] [] G U = qm_run pm_m big m_152 n0 172 [(0, .ref 70), (1, .int v0)] [.int (2 : Int32), .int ((G 70 14) - (G 70 15)), .ref 70] G U := rfl
theorem sg_rt_15 (big : Nat → List Value → qM → qW → qR) (n0 : Nat) (G : qM) (U : qW) (v0 : Int32) : qm_run pm_m big m_152 (n0 + 10) 197 [(0, .ref 70), (1, .int v0)] [.ref 70] G U = qm_run pm_m big m_152 n0 140 [(0, .ref 70), (1, .int v0)] [] (q_up (q_up G 70 17 (G 70 17)) 70 14 ((G 70 14) + (1 : Int32))) U := rfl
theorem sg_rt_16 (big : Nat → List Value → qM → qW → qR) (n0 : Nat) (G : qM) (U : qW) (v0 : Int32) : qm_run pm_m big m_152 (n0 + 7) 175 [(0, .ref 70), (1, .int v0)] [.ref 70] G U = qm_run pm_m big m_152 n0 187 [(0, .ref 70), (1, .int v0)] [.int (G 70 14), .ref 70, .int ((10 : Int32) * (G 70 17)), .ref 70] G U := rfl
theorem sg_rt_17 (big : Nat → List Value → qM → qW → qR) (n0 : Nat) (G : qM) (U : qW) (v0 : Int32) (v1 : Int32) (v2 : Int32) : qm_run pm_m big m_152 (n0 + 12) 190 [(0, .ref 70), (1, .int v0)] [.int v2, .int v1, .ref 70] G U = qm_run pm_m big m_152 n0 140 [(0, .ref 70), (1, .int v0)] [] (q_up (q_up G 70 17 ((v1 + v2) - (48 : Int32))) 70 14 ((G 70 14) + (1 : Int32))) U := rfl
theorem sg_rt_18 (big : Nat → List Value → qM → qW → qR) (n0 : Nat) (G : qM) (U : qW) : qm_run pm_m big m_152 (n0 + 2) 0 [(0, .ref 70)] [] G U = qm_run pm_m big m_152 n0 4 [(0, .ref 70)] [.int (G 70 18)] G U := rfl
theorem sg_rt_19 (big : Nat → List Value → qM → qW → qR) (n0 : Nat) (G : qM) (U : qW) : qm_run pm_m big m_152 (n0 + 7) 34 [(0, .ref 70)] [] G U = qm_run pm_m big m_152 n0 47 [(0, .ref 70)] [.int (G 70 14), .ref 70] (q_up G 70 15 (G 70 14)) U := rfl
theorem sg_rt_20 (big : Nat → List Value → qM → qW → qR) (n0 : Nat) (G : qM) (U : qW) (v0 : Int32) : qm_run pm_m big m_152 (n0 + 2) 50 [(0, .ref 70)] [.int v0] G U = qm_run pm_m big m_152 n0 52 [(0, .ref 70), (1, .int v0)] [.int v0] G U := rfl
theorem sg_rt_21 (big : Nat → List Value → qM → qW → qR) (n0 : Nat) (G : qM) (U : qW) (v0 : Int32) : qm_run pm_m big m_152 (n0 + 4) 63 [(0, .ref 70), (1, .int v0)] [] G U = qm_run pm_m big m_152 n0 71 [(0, .ref 70), (1, .int v0)] [.long (122 : Int64), .long (97 : Int64), .long (Int32.toInt64 v0)] G U := rfl
theorem sg_rt_22 (big : Nat → List Value → qM → qW → qR) (n0 : Nat) (G : qM) (U : qW) (v0 : Int32) : qm_run pm_m big m_152 (n0 + 4) 116 [(0, .ref 70), (1, .int v0)] [] G U = qm_run pm_m big m_152 n0 124 [(0, .ref 70), (1, .int v0)] [.long (57 : Int64), .long (48 : Int64), .long (Int32.toInt64 v0)] G U := rfl
theorem sg_rt_23 (big : Nat → List Value → qM → qW → qR) (n0 : Nat) (G : qM) (U : qW) (v0 : Int32) : qm_run pm_m big m_152 (n0 + 6) 243 [(0, .ref 70), (1, .int v0)] [] G U = qm_run pm_m big m_152 n0 252 [(0, .ref 70), (1, .int v0)] [.int (59 : Int32), .int v0, .ref 70] (q_up G 70 16 (3 : Int32)) U := rfl
theorem sg_rt_24 (big : Nat → List Value → qM → qW → qR) (n0 : Nat) (G : qM) (U : qW) (v0 : Int32) : qm_run pm_m big m_152 (n0 + 3) 255 [(0, .ref 70), (1, .int v0)] [.ref 70] G U = qm_run pm_m big m_152 n0 261 [(0, .ref 70), (1, .int v0)] [.int (1 : Int32), .int (1 : Int32), .ref 70] G U := rfl
theorem sg_rt_25 (big : Nat → List Value → qM → qW → qR) (n0 : Nat) (G : qM) (U : qW) (v0 : Int32) : qm_run pm_m big m_152 (n0 + 2) 259 [(0, .ref 70), (1, .int v0)] [.ref 70] G U = qm_run pm_m big m_152 n0 261 [(0, .ref 70), (1, .int v0)] [.int (1 : Int32), .int (0 : Int32), .ref 70] G U := rfl
theorem sg_rt_26 (big : Nat → List Value → qM → qW → qR) (n0 : Nat) (G : qM) (U : qW) (v0 : Int32) : qm_run pm_m big m_152 (n0 + 6) 130 [(0, .ref 70), (1, .int v0)] [] G U = qm_run pm_m big m_152 n0 140 [(0, .ref 70), (1, .int v0)] [] (q_up (q_up G 70 16 (2 : Int32)) 70 17 (0 : Int32)) U := rfl
theorem sg_rt_27 (big : Nat → List Value → qM → qW → qR) (n0 : Nat) (G : qM) (U : qW) (v0 : Int32) : qm_run pm_m big m_152 (n0 + 7) 217 [(0, .ref 70), (1, .int v0)] [] G U = qm_run pm_m big m_152 n0 228 [(0, .ref 70), (1, .int v0)] [.int (2 : Int32), .int ((G 70 14) - (G 70 15)), .ref 70] G U := rfl
theorem sg_rt_28 (big : Nat → List Value → qM → qW → qR) (n0 : Nat) (G : qM) (U : qW) (v0 : Int32) : qm_run pm_m big m_152 (n0 + 2) 235 [(0, .ref 70), (1, .int v0)] [.ref 70] G U = qm_run pm_m big m_152 n0 237 [(0, .ref 70), (1, .int v0)] [.int (1 : Int32), .int (0 : Int32), .ref 70] G U := rfl
theorem sg_rt_29 (big : Nat → List Value → qM → qW → qR) (n0 : Nat) (G : qM) (U : qW) (v0 : Int32) : qm_run pm_m big m_152 (n0 + 3) 231 [(0, .ref 70), (1, .int v0)] [.ref 70] G U = qm_run pm_m big m_152 n0 237 [(0, .ref 70), (1, .int v0)] [.int (1 : Int32), .int (1 : Int32), .ref 70] G U := rfl
theorem sg_rt_30 (big : Nat → List Value → qM → qW → qR) (n0 : Nat) (G : qM) (U : qW) (v0 : Int32) : qm_run pm_m big m_152 (n0 + 3) 77 [(0, .ref 70), (1, .int v0)] [] G U = qm_run pm_m big m_152 n0 82 [(0, .ref 70), (1, .int v0)] [] (q_up G 70 16 (1 : Int32)) U := rfl
theorem s_70_14 {p f k v e a x : Int32} {g : qM} : q_up (s_70 p f k v e a g) 70 14 x = s_70 x f k v e a g := by
  funext b i
  simp only [q_up_eq, s_70]
  by_cases h : b = 70
  · by_cases h2 : i = 14
    · simp [h, h2]
    · simp [h, h2]
  · simp [h]
theorem s_70_15 {p f k v e a x : Int32} {g : qM} : q_up (s_70 p f k v e a g) 70 15 x = s_70 p x k v e a g := by
  funext b i
  simp only [q_up_eq, s_70]
  by_cases h : b = 70
  · by_cases h2 : i = 15
    · simp [h, h2]
    · simp [h, h2]
  · simp [h]
theorem s_70_16 {p f k v e a x : Int32} {g : qM} : q_up (s_70 p f k v e a g) 70 16 x = s_70 p f x v e a g := by
  funext b i
  simp only [q_up_eq, s_70]
  by_cases h : b = 70
  · by_cases h2 : i = 16
    · simp [h, h2]
    · simp [h, h2]
  · simp [h]
theorem s_70_17 {p f k v e a x : Int32} {g : qM} : q_up (s_70 p f k v e a g) 70 17 x = s_70 p f k x e a g := by
  funext b i
  simp only [q_up_eq, s_70]
  by_cases h : b = 70
  · by_cases h2 : i = 17
    · simp [h, h2]
    · simp [h, h2]
  · simp [h]
theorem s_70_18 {p f k v e a x : Int32} {g : qM} : q_up (s_70 p f k v e a g) 70 18 x = s_70 p f k v x a g := by
  funext b i
  simp only [q_up_eq, s_70]
  by_cases h : b = 70
  · by_cases h2 : i = 18
    · simp [h, h2]
    · simp [h, h2]
  · simp [h]
theorem s_70_19 {p f k v e a x : Int32} {g : qM} : q_up (s_70 p f k v e a g) 70 19 x = s_70 p f k v e x g := by
  funext b i
  simp only [q_up_eq, s_70]
  by_cases h : b = 70
  · by_cases h2 : i = 19
    · simp [h, h2]
    · simp [h, h2]
  · simp [h]
theorem b_look (g : qM) (u : qW) {s : Nat} (hs : g 70 13 = Int32.ofNat s) (h160 : s ≤ 160) {p : Nat} (hp : p ≤ 200) : q_BS 153 [.ref 70, .int (Int32.ofNat p)] g u (some (.int (s_lk (g 74) s p)), g, u) := by
  refine q_bx (mm := m_153) rfl (Nat.le_of_ble_eq_true rfl) rfl ?_
  refine q_step 3 5 [(0, .ref 70), (1, .int (Int32.ofNat p))] [.int (g 70 13), .int (Int32.ofNat p)] g u (fun big n0 => sg_rt_1 big n0 g u (Int32.ofNat p)) ?_
  refine q_ic_ge rfl (fun (hc0 : (g 70 13) ≤ (Int32.ofNat p)) => ?_) (fun (hc0 : ¬ ((g 70 13) ≤ (Int32.ofNat p))) => ?_)
  · refine q_ret 2 (some (.int (Int32.ofInt (-1))), g, u) (fun _ _ => rfl) ?_
    have z := hc0
    rw [hs, q_le (by omega) (by omega)] at z
    unfold s_lk
    rw [if_neg (by omega)]
  · refine q_step 3 13 [(0, .ref 70), (1, .int (Int32.ofNat p))] [.int (Int32.ofNat p), .ref 74] g u (fun big n0 => sg_rt_2 big n0 g u (Int32.ofNat p)) ?_
    refine q_iald (j := p) (q_ixn (by have z : ¬ s ≤ p := fun q => hc0 (by rw [hs]; exact (q_le (by omega) (by omega)).mpr q); omega) (by omega)) rfl rfl ?_
    refine q_ret 2 (some (.int (g 74 p)), g, u) (fun _ _ => rfl) ?_
    have z := hc0
    rw [hs, q_le (by omega) (by omega)] at z
    unfold s_lk
    rw [if_pos (by omega)]
theorem b_needs1 (c : Int32) (g : qM) (u : qW) : q_BS 154 [.ref 70, .int (1 : Int32), .int c] g u (none, g, u) := by
  refine q_bx (mm := m_154) rfl (Nat.le_of_ble_eq_true rfl) rfl ?_
  refine q_ret 3 (none, g, u) (fun _ _ => rfl) ?_
  rfl
theorem b_needs0 (c : Int32) (g : qM) (u : qW) (hf : g 70 18 = 0) : q_BS 154 [.ref 70, .int (0 : Int32), .int c] g u (none, q_up (q_up g 70 18 c) 70 19 (g 70 15), u) := by
  refine q_bx (mm := m_154) rfl (Nat.le_of_ble_eq_true rfl) rfl ?_
  refine q_step 4 8 [(0, .ref 70), (1, .int (0 : Int32)), (2, .int c)] [.int (g 70 18)] g u (fun big n0 => sg_rt_3 big n0 g u c) ?_
  refine q_if_ne rfl (fun (hc0 : (g 70 18) = 0) => ?_) (fun hc0 => absurd (show (g 70 18) = 0 from hf) hc0)
  refine q_ret 8 (none, (q_up (q_up g 70 18 c) 70 19 (g 70 15)), u) (fun _ _ => rfl) ?_
  rfl
theorem b_needsf (b c : Int32) (g : qM) (u : qW) (hf : ¬ g 70 18 = 0) : q_BS 154 [.ref 70, .int b, .int c] g u (none, g, u) := by
  refine q_bx (mm := m_154) rfl (Nat.le_of_ble_eq_true rfl) rfl ?_
  refine q_step 1 1 [(0, .ref 70), (1, .int b), (2, .int c)] [.int b] g u (fun big n0 => sg_rt_4 big n0 g u b c) ?_
  refine q_if_ne rfl (fun (hc0 : b = 0) => ?_) (fun (hc0 : ¬ (b = 0)) => ?_)
  · refine q_step 2 8 [(0, .ref 70), (1, .int b), (2, .int c)] [.int (g 70 18)] g u (fun big n0 => sg_rt_5 big n0 g u b c) ?_
    refine q_if_ne rfl (fun hc1 => absurd (show (g 70 18) = 0 from hc1) (hf)) (fun (hc1 : ¬ ((g 70 18) = 0)) => ?_)
    refine q_ret 1 (none, g, u) (fun _ _ => rfl) ?_
    rfl
  · refine q_ret 1 (none, g, u) (fun _ _ => rfl) ?_
    rfl
theorem rn_sk (g : qM) (u : qW) {s : Nat} (hs : g 70 13 = Int32.ofNat s) (h160 : s ≤ 160) {f k v e a : Int32} {Q : Option Value × qM × qW → Prop} : ∀ m p, p + m = s → q_EV m_152 34 [(0, .ref 70)] [] (s_70 (Int32.ofNat (t_sk (g 74) m p)) f k v e a g) u Q → q_EV m_152 8 [(0, .ref 70)] [] (s_70 (Int32.ofNat p) f k v e a g) u Q := by
  intro m
  induction m with
  | zero =>
    intro p hp hk
    refine q_step 3 13 [(0, .ref 70)] [.int (Int32.ofNat p), .ref 70] (s_70 (Int32.ofNat p) f k v e a g) u (fun big n0 => sg_rt_6 big n0 (s_70 (Int32.ofNat p) f k v e a g) u) ?_
    have hlk := b_look (s_70 (Int32.ofNat p) f k v e a g) u (p := p) (s := s) hs h160 (by omega)
    refine q_call (M2 := 153) (rest := []) (hlk) (fun _ _ => rfl) ?_
    refine q_step 1 18 [(0, .ref 70)] [.int (32 : Int32), .int (s_lk (g 74) s p)] (s_70 (Int32.ofNat p) f k v e a g) u (fun big n0 => sg_rt_7 big n0 (s_70 (Int32.ofNat p) f k v e a g) u (s_lk (g 74) s p)) ?_
    refine q_ic_ne rfl (fun hc0 => absurd (show (s_lk (g 74) s p) = (32 : Int32) from hc0) (by unfold s_lk; rw [if_neg (by omega)]; decide)) (fun (hc0 : ¬ ((s_lk (g 74) s p) = (32 : Int32))) => ?_)
    exact hk
  | succ m ih =>
    intro p hp hk
    have elk : s_lk (g 74) s p = g 74 p := by unfold s_lk; rw [if_pos (by omega)]
    refine q_step 3 13 [(0, .ref 70)] [.int (Int32.ofNat p), .ref 70] (s_70 (Int32.ofNat p) f k v e a g) u (fun big n0 => sg_rt_6 big n0 (s_70 (Int32.ofNat p) f k v e a g) u) ?_
    have hlk := b_look (s_70 (Int32.ofNat p) f k v e a g) u (p := p) (s := s) hs h160 (by omega)
    refine q_call (M2 := 153) (rest := []) (hlk) (fun _ _ => rfl) ?_
    refine q_step 1 18 [(0, .ref 70)] [.int (32 : Int32), .int (s_lk (g 74) s p)] (s_70 (Int32.ofNat p) f k v e a g) u (fun big n0 => sg_rt_7 big n0 (s_70 (Int32.ofNat p) f k v e a g) u (s_lk (g 74) s p)) ?_
    refine q_ic_ne rfl (fun (hc0 : (s_lk (g 74) s p) = (32 : Int32)) => ?_) (fun (hc0 : ¬ ((s_lk (g 74) s p) = (32 : Int32))) => ?_)
    · refine q_step 7 8 [(0, .ref 70)] [] (q_up (s_70 (Int32.ofNat p) f k v e a g) 70 14 ((Int32.ofNat p) + (1 : Int32))) u (fun big n0 => sg_rt_8 big n0 (s_70 (Int32.ofNat p) f k v e a g) u) ?_
      rw [t_sk, if_pos (by rw [← elk]; exact hc0)] at hk
      rw [show (q_up (s_70 (Int32.ofNat p) f k v e a g) 70 14 ((Int32.ofNat p) + (1 : Int32))) = s_70 (Int32.ofNat (p + 1)) f k v e a g from by rw [s_70_14, q_succ]]
      exact ih (p + 1) (by omega) hk
    · rw [t_sk, if_neg (by rw [← elk]; exact hc0)] at hk
      exact hk
theorem rn_nm (g : qM) (u : qW) {s : Nat} (hs : g 70 13 = Int32.ofNat s) (h160 : s ≤ 160) {f k v e a : Int32} {Q : Option Value × qM × qW → Prop} {c : Int32} : ∀ m p, p + m = s → q_EV m_152 274 [(0, .ref 70), (1, .int c)] [] (s_70 (Int32.ofNat (t_ru (g 74) 1 m p)) f k v e a g) u Q → q_EV m_152 82 [(0, .ref 70), (1, .int c)] [] (s_70 (Int32.ofNat p) f k v e a g) u Q := by
  intro m
  induction m with
  | zero =>
    intro p hp hk
    refine q_step 3 87 [(0, .ref 70), (1, .int c)] [.int (Int32.ofNat p), .ref 70] (s_70 (Int32.ofNat p) f k v e a g) u (fun big n0 => sg_rt_9 big n0 (s_70 (Int32.ofNat p) f k v e a g) u c) ?_
    have hlk := b_look (s_70 (Int32.ofNat p) f k v e a g) u (p := p) (s := s) hs h160 (by omega)
    refine q_call (M2 := 153) (rest := []) (hlk) (fun _ _ => rfl) ?_
    refine q_step 3 97 [(0, .ref 70), (1, .int c)] [.long (122 : Int64), .long (97 : Int64), .long (Int32.toInt64 (s_lk (g 74) s p))] (s_70 (Int32.ofNat p) f k v e a g) u (fun big n0 => sg_rt_10 big n0 (s_70 (Int32.ofNat p) f k v e a g) u c (s_lk (g 74) s p)) ?_
    refine q_call (M2 := 149) (rest := []) (b_in _ _ _ _ _) (fun _ _ => rfl) ?_
    refine q_if_eq rfl (fun (hc0 : (s_in (Int32.toInt64 (s_lk (g 74) s p)) (97 : Int64) (122 : Int64)) = 0) => ?_) (fun hc0 => absurd (show (s_in (Int32.toInt64 (s_lk (g 74) s p)) (97 : Int64) (122 : Int64)) = 0 from t_in1.mpr (by unfold s_lk; rw [if_neg (by omega), t_kdm1]; decide)) hc0)
    exact hk
  | succ m ih =>
    intro p hp hk
    have elk : s_lk (g 74) s p = g 74 p := by unfold s_lk; rw [if_pos (by omega)]
    refine q_step 3 87 [(0, .ref 70), (1, .int c)] [.int (Int32.ofNat p), .ref 70] (s_70 (Int32.ofNat p) f k v e a g) u (fun big n0 => sg_rt_9 big n0 (s_70 (Int32.ofNat p) f k v e a g) u c) ?_
    have hlk := b_look (s_70 (Int32.ofNat p) f k v e a g) u (p := p) (s := s) hs h160 (by omega)
    refine q_call (M2 := 153) (rest := []) (hlk) (fun _ _ => rfl) ?_
    refine q_step 3 97 [(0, .ref 70), (1, .int c)] [.long (122 : Int64), .long (97 : Int64), .long (Int32.toInt64 (s_lk (g 74) s p))] (s_70 (Int32.ofNat p) f k v e a g) u (fun big n0 => sg_rt_10 big n0 (s_70 (Int32.ofNat p) f k v e a g) u c (s_lk (g 74) s p)) ?_
    refine q_call (M2 := 149) (rest := []) (b_in _ _ _ _ _) (fun _ _ => rfl) ?_
    refine q_if_eq rfl (fun (hc0 : (s_in (Int32.toInt64 (s_lk (g 74) s p)) (97 : Int64) (122 : Int64)) = 0) => ?_) (fun (hc0 : ¬ ((s_in (Int32.toInt64 (s_lk (g 74) s p)) (97 : Int64) (122 : Int64)) = 0)) => ?_)
    · rw [t_ru, if_neg (by rw [← elk]; exact t_in1.mp hc0)] at hk
      exact hk
    · refine q_step 7 82 [(0, .ref 70), (1, .int c)] [] (q_up (s_70 (Int32.ofNat p) f k v e a g) 70 14 ((Int32.ofNat p) + (1 : Int32))) u (fun big n0 => sg_rt_11 big n0 (s_70 (Int32.ofNat p) f k v e a g) u c) ?_
      rw [t_ru, if_pos (by rw [← elk]; exact Classical.byContradiction (fun z => hc0 (t_in1.mpr z)))] at hk
      rw [show (q_up (s_70 (Int32.ofNat p) f k v e a g) 70 14 ((Int32.ofNat p) + (1 : Int32))) = s_70 (Int32.ofNat (p + 1)) f k v e a g from by rw [s_70_14, q_succ]]
      exact ih (p + 1) (by omega) hk
theorem rn_nu (g : qM) (u : qW) {s : Nat} (hs : g 70 13 = Int32.ofNat s) (h160 : s ≤ 160) {f : Nat} {k e a : Int32} {Q : Option Value × qM × qW → Prop} {c : Int32} : ∀ m p v, p + m = s → f ≤ p → q_EV m_152 217 [(0, .ref 70), (1, .int c)] [] (s_70 (Int32.ofNat (t_ru (g 74) 2 m p)) (Int32.ofNat f) k (t_v2 (g 74) f (t_ru (g 74) 2 m p - p) p v) e a g) u Q → q_EV m_152 140 [(0, .ref 70), (1, .int c)] [] (s_70 (Int32.ofNat p) (Int32.ofNat f) k v e a g) u Q := by
  intro m
  induction m with
  | zero =>
    intro p v hp hf hk
    refine q_step 3 145 [(0, .ref 70), (1, .int c)] [.int (Int32.ofNat p), .ref 70] (s_70 (Int32.ofNat p) (Int32.ofNat f) k v e a g) u (fun big n0 => sg_rt_12 big n0 (s_70 (Int32.ofNat p) (Int32.ofNat f) k v e a g) u c) ?_
    have hlk := b_look (s_70 (Int32.ofNat p) (Int32.ofNat f) k v e a g) u (p := p) (s := s) hs h160 (by omega)
    refine q_call (M2 := 153) (rest := []) (hlk) (fun _ _ => rfl) ?_
    refine q_step 3 155 [(0, .ref 70), (1, .int c)] [.long (57 : Int64), .long (48 : Int64), .long (Int32.toInt64 (s_lk (g 74) s p))] (s_70 (Int32.ofNat p) (Int32.ofNat f) k v e a g) u (fun big n0 => sg_rt_13 big n0 (s_70 (Int32.ofNat p) (Int32.ofNat f) k v e a g) u c (s_lk (g 74) s p)) ?_
    refine q_call (M2 := 149) (rest := []) (b_in _ _ _ _ _) (fun _ _ => rfl) ?_
    refine q_if_eq rfl (fun (hc0 : (s_in (Int32.toInt64 (s_lk (g 74) s p)) (48 : Int64) (57 : Int64)) = 0) => ?_) (fun hc0 => absurd (show (s_in (Int32.toInt64 (s_lk (g 74) s p)) (48 : Int64) (57 : Int64)) = 0 from t_in2.mpr (by unfold s_lk; rw [if_neg (by omega), t_kdm1]; decide)) hc0)
    rw [t_ru, Nat.sub_self] at hk
    exact hk
  | succ m ih =>
    intro p v hp hf hk
    have elk : s_lk (g 74) s p = g 74 p := by unfold s_lk; rw [if_pos (by omega)]
    refine q_step 3 145 [(0, .ref 70), (1, .int c)] [.int (Int32.ofNat p), .ref 70] (s_70 (Int32.ofNat p) (Int32.ofNat f) k v e a g) u (fun big n0 => sg_rt_12 big n0 (s_70 (Int32.ofNat p) (Int32.ofNat f) k v e a g) u c) ?_
    have hlk := b_look (s_70 (Int32.ofNat p) (Int32.ofNat f) k v e a g) u (p := p) (s := s) hs h160 (by omega)
    refine q_call (M2 := 153) (rest := []) (hlk) (fun _ _ => rfl) ?_
    refine q_step 3 155 [(0, .ref 70), (1, .int c)] [.long (57 : Int64), .long (48 : Int64), .long (Int32.toInt64 (s_lk (g 74) s p))] (s_70 (Int32.ofNat p) (Int32.ofNat f) k v e a g) u (fun big n0 => sg_rt_13 big n0 (s_70 (Int32.ofNat p) (Int32.ofNat f) k v e a g) u c (s_lk (g 74) s p)) ?_
    refine q_call (M2 := 149) (rest := []) (b_in _ _ _ _ _) (fun _ _ => rfl) ?_
    refine q_if_eq rfl (fun (hc0 : (s_in (Int32.toInt64 (s_lk (g 74) s p)) (48 : Int64) (57 : Int64)) = 0) => ?_) (fun (hc0 : ¬ ((s_in (Int32.toInt64 (s_lk (g 74) s p)) (48 : Int64) (57 : Int64)) = 0)) => ?_)
    · rw [t_ru, if_neg (by rw [← elk]; exact t_in2.mp hc0), Nat.sub_self] at hk
      exact hk
    · refine q_step 7 172 [(0, .ref 70), (1, .int c)] [.int (2 : Int32), .int ((Int32.ofNat p) - (Int32.ofNat f)), .ref 70] (s_70 (Int32.ofNat p) (Int32.ofNat f) k v e a g) u (fun big n0 => sg_rt_14 big n0 (s_70 (Int32.ofNat p) (Int32.ofNat f) k v e a g) u c) ?_
      refine q_ic_ge rfl (fun (hc1 : (2 : Int32) ≤ ((Int32.ofNat p) - (Int32.ofNat f))) => ?_) (fun (hc1 : ¬ ((2 : Int32) ≤ ((Int32.ofNat p) - (Int32.ofNat f)))) => ?_)
      · refine q_step 10 140 [(0, .ref 70), (1, .int c)] [] (q_up (q_up (s_70 (Int32.ofNat p) (Int32.ofNat f) k v e a g) 70 17 v) 70 14 ((Int32.ofNat p) + (1 : Int32))) u (fun big n0 => sg_rt_15 big n0 (s_70 (Int32.ofNat p) (Int32.ofNat f) k v e a g) u c) ?_
        have er : t_ru (g 74) 2 (m + 1) p = t_ru (g 74) 2 m (p + 1) := by rw [t_ru, if_pos (by rw [← elk]; exact Classical.byContradiction (fun z => hc0 (t_in2.mpr z)))]
        have hb := t_ru_b (b := g 74) (kd := 2) m (p + 1)
        have hlt : ¬ p < f + 2 := by
          have z := hc1
          rw [q_sb (by omega) hf, show (2 : Int32) = Int32.ofNat 2 from rfl, q_le (by omega) (by omega)] at z
          omega
        rw [er, show t_ru (g 74) 2 m (p + 1) - p = (t_ru (g 74) 2 m (p + 1) - (p + 1)) + 1 by omega, t_v2, if_neg hlt] at hk
        rw [show (q_up (q_up (s_70 (Int32.ofNat p) (Int32.ofNat f) k v e a g) 70 17 v) 70 14 ((Int32.ofNat p) + (1 : Int32))) = s_70 (Int32.ofNat (p + 1)) (Int32.ofNat f) k (v) e a g from by rw [s_70_17, s_70_14, q_succ]]
        exact ih (p + 1) _ (by omega) (by omega) hk
      · refine q_step 7 187 [(0, .ref 70), (1, .int c)] [.int (Int32.ofNat p), .ref 70, .int ((10 : Int32) * v), .ref 70] (s_70 (Int32.ofNat p) (Int32.ofNat f) k v e a g) u (fun big n0 => sg_rt_16 big n0 (s_70 (Int32.ofNat p) (Int32.ofNat f) k v e a g) u c) ?_
        have hlk := b_look (s_70 (Int32.ofNat p) (Int32.ofNat f) k v e a g) u (p := p) (s := s) hs h160 (by omega)
        refine q_call (M2 := 153) (rest := [.int ((10 : Int32) * v), .ref 70]) (hlk) (fun _ _ => rfl) ?_
        refine q_step 12 140 [(0, .ref 70), (1, .int c)] [] (q_up (q_up (s_70 (Int32.ofNat p) (Int32.ofNat f) k v e a g) 70 17 ((((10 : Int32) * v) + (s_lk (g 74) s p)) - (48 : Int32))) 70 14 ((Int32.ofNat p) + (1 : Int32))) u (fun big n0 => sg_rt_17 big n0 (s_70 (Int32.ofNat p) (Int32.ofNat f) k v e a g) u c ((10 : Int32) * v) (s_lk (g 74) s p)) ?_
        have er : t_ru (g 74) 2 (m + 1) p = t_ru (g 74) 2 m (p + 1) := by rw [t_ru, if_pos (by rw [← elk]; exact Classical.byContradiction (fun z => hc0 (t_in2.mpr z)))]
        have hb := t_ru_b (b := g 74) (kd := 2) m (p + 1)
        have hlt : p < f + 2 := by
          have z := hc1
          rw [q_sb (by omega) hf, show (2 : Int32) = Int32.ofNat 2 from rfl, q_le (by omega) (by omega)] at z
          omega
        rw [er, show t_ru (g 74) 2 m (p + 1) - p = (t_ru (g 74) 2 m (p + 1) - (p + 1)) + 1 by omega, t_v2, if_pos hlt] at hk
        rw [show (q_up (q_up (s_70 (Int32.ofNat p) (Int32.ofNat f) k v e a g) 70 17 ((((10 : Int32) * v) + (s_lk (g 74) s p)) - (48 : Int32))) 70 14 ((Int32.ofNat p) + (1 : Int32))) = s_70 (Int32.ofNat (p + 1)) (Int32.ofNat f) k (10 * v + g 74 p - 48) e a g from by rw [s_70_17, s_70_14, q_succ, elk]]
        exact ih (p + 1) _ (by omega) (by omega) hk
theorem r_nextf (g : qM) (u : qW) (hf : 0 < g 70 18) : q_BS 152 [.ref 70] g u (none, g, u) := by
  refine q_bx (mm := m_152) rfl (Nat.le_of_ble_eq_true rfl) rfl ?_
  refine q_step 2 4 [(0, .ref 70)] [.int (g 70 18)] g u (fun big n0 => sg_rt_18 big n0 g u) ?_
  refine q_if_le rfl (fun hc0 => absurd (show (g 70 18) ≤ 0 from hc0) (Int32.not_le.mpr hf)) (fun (hc0 : ¬ ((g 70 18) ≤ 0)) => ?_)
  refine q_ret 1 (none, g, u) (fun _ _ => rfl) ?_
  rfl
theorem r_next {s p : Nat} (g : qM) (u : qW) (hs : g 70 13 = Int32.ofNat s) (h160 : s ≤ 160) (hp14 : g 70 14 = Int32.ofNat p) (hp : p ≤ s) (hf : g 70 18 = 0) (hb : ∀ j, j < s → 0 ≤ (g 74 j).toInt) : ∃ R, q_BS 152 [.ref 70] g u R ∧ ∃ k v e a, R = (none, s_70 (Int32.ofNat (t_pl (g 74) s p)) (Int32.ofNat (t_fi (g 74) s p)) k v e a g, u) ∧ (((t_ki (g 74) s p) = 0 ∧ e = 1 ∧ a = Int32.ofNat (t_fi (g 74) s p)) ∨ (¬ (t_ki (g 74) s p) = 0 ∧ e = 0 ∧ k = (if (t_ki (g 74) s p) = 4 then 0 else (t_ki (g 74) s p)) ∧ ((t_ki (g 74) s p) = 2 → v = t_va (g 74) s p))) := by
  refine q_bs (mm := m_152) rfl (Nat.le_of_ble_eq_true rfl) rfl ?_
  have hfb := t_fi_b (b := g 74) hp
  have hpb := t_pl_b (b := g 74) hp
  refine q_step 2 4 [(0, .ref 70)] [.int (g 70 18)] g u (fun big n0 => sg_rt_18 big n0 g u) ?_
  refine q_if_le rfl (fun (hc0 : (g 70 18) ≤ 0) => ?_) (fun hc0 => absurd (show (g 70 18) ≤ 0 from by rw [hf]; decide) hc0)
  rw [show q_EV m_152 8 [(0, .ref 70)] [] g u = q_EV m_152 8 [(0, .ref 70)] [] (s_70 (Int32.ofNat p) (g 70 15) (g 70 16) (g 70 17) 0 (g 70 19) g) u from by
    have e := s_70_0 (g := g)
    rw [hp14, hf] at e
    rw [e]]
  refine rn_sk g u hs h160 (s - p) p (by omega) ?_
  rw [show t_sk (g 74) (s - p) p = t_fi (g 74) s p from rfl]
  refine q_step 7 47 [(0, .ref 70)] [.int (Int32.ofNat (t_fi (g 74) s p)), .ref 70] (q_up (s_70 (Int32.ofNat (t_fi (g 74) s p)) (g 70 15) (g 70 16) (g 70 17) 0 (g 70 19) g) 70 15 (Int32.ofNat (t_fi (g 74) s p))) u (fun big n0 => sg_rt_19 big n0 (s_70 (Int32.ofNat (t_fi (g 74) s p)) (g 70 15) (g 70 16) (g 70 17) 0 (g 70 19) g) u) ?_
  have hlk := b_look (q_up (s_70 (Int32.ofNat (t_fi (g 74) s p)) (g 70 15) (g 70 16) (g 70 17) 0 (g 70 19) g) 70 15 (Int32.ofNat (t_fi (g 74) s p))) u (p := (t_fi (g 74) s p)) (s := s) hs h160 (by omega)
  refine q_call (M2 := 153) (rest := []) (hlk) (fun _ _ => rfl) ?_
  refine q_step 2 52 [(0, .ref 70), (1, .int (s_lk (g 74) s (t_fi (g 74) s p)))] [.int (s_lk (g 74) s (t_fi (g 74) s p))] (q_up (s_70 (Int32.ofNat (t_fi (g 74) s p)) (g 70 15) (g 70 16) (g 70 17) 0 (g 70 19) g) 70 15 (Int32.ofNat (t_fi (g 74) s p))) u (fun big n0 => sg_rt_20 big n0 (q_up (s_70 (Int32.ofNat (t_fi (g 74) s p)) (g 70 15) (g 70 16) (g 70 17) 0 (g 70 19) g) 70 15 (Int32.ofNat (t_fi (g 74) s p))) u (s_lk (g 74) s (t_fi (g 74) s p))) ?_
  refine q_if_ge rfl (fun (hc0 : 0 ≤ (s_lk (g 74) s (t_fi (g 74) s p))) => ?_) (fun (hc0 : ¬ (0 ≤ (s_lk (g 74) s (t_fi (g 74) s p)))) => ?_)
  · refine q_step 4 71 [(0, .ref 70), (1, .int (s_lk (g 74) s (t_fi (g 74) s p)))] [.long (122 : Int64), .long (97 : Int64), .long (Int32.toInt64 (s_lk (g 74) s (t_fi (g 74) s p)))] (q_up (s_70 (Int32.ofNat (t_fi (g 74) s p)) (g 70 15) (g 70 16) (g 70 17) 0 (g 70 19) g) 70 15 (Int32.ofNat (t_fi (g 74) s p))) u (fun big n0 => sg_rt_21 big n0 (q_up (s_70 (Int32.ofNat (t_fi (g 74) s p)) (g 70 15) (g 70 16) (g 70 17) 0 (g 70 19) g) 70 15 (Int32.ofNat (t_fi (g 74) s p))) u (s_lk (g 74) s (t_fi (g 74) s p))) ?_
    refine q_call (M2 := 149) (rest := []) (b_in _ _ _ _ _) (fun _ _ => rfl) ?_
    refine q_if_eq rfl (fun (hc1 : (s_in (Int32.toInt64 (s_lk (g 74) s (t_fi (g 74) s p))) (97 : Int64) (122 : Int64)) = 0) => ?_) (fun (hc1 : ¬ ((s_in (Int32.toInt64 (s_lk (g 74) s (t_fi (g 74) s p))) (97 : Int64) (122 : Int64)) = 0)) => ?_)
    · refine q_step 4 124 [(0, .ref 70), (1, .int (s_lk (g 74) s (t_fi (g 74) s p)))] [.long (57 : Int64), .long (48 : Int64), .long (Int32.toInt64 (s_lk (g 74) s (t_fi (g 74) s p)))] (q_up (s_70 (Int32.ofNat (t_fi (g 74) s p)) (g 70 15) (g 70 16) (g 70 17) 0 (g 70 19) g) 70 15 (Int32.ofNat (t_fi (g 74) s p))) u (fun big n0 => sg_rt_22 big n0 (q_up (s_70 (Int32.ofNat (t_fi (g 74) s p)) (g 70 15) (g 70 16) (g 70 17) 0 (g 70 19) g) 70 15 (Int32.ofNat (t_fi (g 74) s p))) u (s_lk (g 74) s (t_fi (g 74) s p))) ?_
      refine q_call (M2 := 149) (rest := []) (b_in _ _ _ _ _) (fun _ _ => rfl) ?_
      refine q_if_eq rfl (fun (hc2 : (s_in (Int32.toInt64 (s_lk (g 74) s (t_fi (g 74) s p))) (48 : Int64) (57 : Int64)) = 0) => ?_) (fun (hc2 : ¬ ((s_in (Int32.toInt64 (s_lk (g 74) s (t_fi (g 74) s p))) (48 : Int64) (57 : Int64)) = 0)) => ?_)
      · refine q_step 6 252 [(0, .ref 70), (1, .int (s_lk (g 74) s (t_fi (g 74) s p)))] [.int (59 : Int32), .int (s_lk (g 74) s (t_fi (g 74) s p)), .ref 70] (q_up (q_up (s_70 (Int32.ofNat (t_fi (g 74) s p)) (g 70 15) (g 70 16) (g 70 17) 0 (g 70 19) g) 70 15 (Int32.ofNat (t_fi (g 74) s p))) 70 16 (3 : Int32)) u (fun big n0 => sg_rt_23 big n0 (q_up (s_70 (Int32.ofNat (t_fi (g 74) s p)) (g 70 15) (g 70 16) (g 70 17) 0 (g 70 19) g) 70 15 (Int32.ofNat (t_fi (g 74) s p))) u (s_lk (g 74) s (t_fi (g 74) s p))) ?_
        refine q_ic_ne rfl (fun (hc3 : (s_lk (g 74) s (t_fi (g 74) s p)) = (59 : Int32)) => ?_) (fun (hc3 : ¬ ((s_lk (g 74) s (t_fi (g 74) s p)) = (59 : Int32))) => ?_)
        · refine q_step 3 261 [(0, .ref 70), (1, .int (s_lk (g 74) s (t_fi (g 74) s p)))] [.int (1 : Int32), .int (1 : Int32), .ref 70] (q_up (q_up (s_70 (Int32.ofNat (t_fi (g 74) s p)) (g 70 15) (g 70 16) (g 70 17) 0 (g 70 19) g) 70 15 (Int32.ofNat (t_fi (g 74) s p))) 70 16 (3 : Int32)) u (fun big n0 => sg_rt_24 big n0 (q_up (q_up (s_70 (Int32.ofNat (t_fi (g 74) s p)) (g 70 15) (g 70 16) (g 70 17) 0 (g 70 19) g) 70 15 (Int32.ofNat (t_fi (g 74) s p))) 70 16 (3 : Int32)) u (s_lk (g 74) s (t_fi (g 74) s p))) ?_
          refine q_call (M2 := 154) (rest := []) (b_needs1 _ _ _) (fun _ _ => rfl) ?_
          refine q_ret 7 (none, (q_up (q_up (q_up (s_70 (Int32.ofNat (t_fi (g 74) s p)) (g 70 15) (g 70 16) (g 70 17) 0 (g 70 19) g) 70 15 (Int32.ofNat (t_fi (g 74) s p))) 70 16 (3 : Int32)) 70 14 ((Int32.ofNat (t_fi (g 74) s p)) + (1 : Int32))), u) (fun _ _ => rfl) ?_
          have e : ¬ s ≤ (t_fi (g 74) s p) := fun z => by
            have q := hc0
            rw [show (s_lk (g 74) s (t_fi (g 74) s p)) = Int32.ofInt (-1) from by unfold s_lk; rw [if_neg (by omega)]] at q
            exact absurd q (by decide)
          have elk : (s_lk (g 74) s (t_fi (g 74) s p)) = g 74 (t_fi (g 74) s p) := by unfold s_lk; rw [if_pos (by omega)]
          have e1 : t_kd (g 74 (t_fi (g 74) s p)) = 3 := by
            rw [← elk, t_kd3 (t_in1.mp hc1) (t_in2.mp hc2), if_pos hc3]
          have e0 : (t_k0 (g 74) s p) = 3 := (if_neg e).trans e1
          have ek : (t_ki (g 74) s p) = 3 := by unfold t_ki; rw [e0, if_neg (by decide)]
          have ep : (t_pl (g 74) s p) = (t_fi (g 74) s p) + 1 := by unfold t_pl; rw [if_neg e, e0, if_neg (by decide), if_neg (by decide)]
          exact ⟨3, g 70 17, 0, g 70 19, by rw [s_70_15, s_70_16, s_70_14, ep, q_succ], Or.inr ⟨by rw [ek]; decide, rfl, by rw [ek]; rfl, fun z => absurd (ek.symm.trans z) (by decide)⟩⟩
        · refine q_step 2 261 [(0, .ref 70), (1, .int (s_lk (g 74) s (t_fi (g 74) s p)))] [.int (1 : Int32), .int (0 : Int32), .ref 70] (q_up (q_up (s_70 (Int32.ofNat (t_fi (g 74) s p)) (g 70 15) (g 70 16) (g 70 17) 0 (g 70 19) g) 70 15 (Int32.ofNat (t_fi (g 74) s p))) 70 16 (3 : Int32)) u (fun big n0 => sg_rt_25 big n0 (q_up (q_up (s_70 (Int32.ofNat (t_fi (g 74) s p)) (g 70 15) (g 70 16) (g 70 17) 0 (g 70 19) g) 70 15 (Int32.ofNat (t_fi (g 74) s p))) 70 16 (3 : Int32)) u (s_lk (g 74) s (t_fi (g 74) s p))) ?_
          refine q_call (M2 := 154) (rest := []) (b_needs0 _ _ _ rfl) (fun _ _ => rfl) ?_
          refine q_ret 7 (none, (q_up (q_up (q_up (q_up (q_up (s_70 (Int32.ofNat (t_fi (g 74) s p)) (g 70 15) (g 70 16) (g 70 17) 0 (g 70 19) g) 70 15 (Int32.ofNat (t_fi (g 74) s p))) 70 16 (3 : Int32)) 70 18 (1 : Int32)) 70 19 (Int32.ofNat (t_fi (g 74) s p))) 70 14 ((Int32.ofNat (t_fi (g 74) s p)) + (1 : Int32))), u) (fun _ _ => rfl) ?_
          have e : ¬ s ≤ (t_fi (g 74) s p) := fun z => by
            have q := hc0
            rw [show (s_lk (g 74) s (t_fi (g 74) s p)) = Int32.ofInt (-1) from by unfold s_lk; rw [if_neg (by omega)]] at q
            exact absurd q (by decide)
          have elk : (s_lk (g 74) s (t_fi (g 74) s p)) = g 74 (t_fi (g 74) s p) := by unfold s_lk; rw [if_pos (by omega)]
          have e1 : t_kd (g 74 (t_fi (g 74) s p)) = 0 := by
            rw [← elk, t_kd3 (t_in1.mp hc1) (t_in2.mp hc2), if_neg hc3]
          have e0 : (t_k0 (g 74) s p) = 0 := (if_neg e).trans e1
          have ek : (t_ki (g 74) s p) = 0 := by unfold t_ki; rw [e0, if_neg (by decide)]
          have ep : (t_pl (g 74) s p) = (t_fi (g 74) s p) + 1 := by unfold t_pl; rw [if_neg e, e0, if_neg (by decide), if_neg (by decide)]
          exact ⟨3, g 70 17, 1, (Int32.ofNat (t_fi (g 74) s p)), by rw [s_70_15, s_70_16, s_70_18, s_70_19, s_70_14, ep, q_succ], Or.inl ⟨ek, rfl, rfl⟩⟩
      · refine q_step 6 140 [(0, .ref 70), (1, .int (s_lk (g 74) s (t_fi (g 74) s p)))] [] (q_up (q_up (q_up (s_70 (Int32.ofNat (t_fi (g 74) s p)) (g 70 15) (g 70 16) (g 70 17) 0 (g 70 19) g) 70 15 (Int32.ofNat (t_fi (g 74) s p))) 70 16 (2 : Int32)) 70 17 (0 : Int32)) u (fun big n0 => sg_rt_26 big n0 (q_up (s_70 (Int32.ofNat (t_fi (g 74) s p)) (g 70 15) (g 70 16) (g 70 17) 0 (g 70 19) g) 70 15 (Int32.ofNat (t_fi (g 74) s p))) u (s_lk (g 74) s (t_fi (g 74) s p))) ?_
        have e : ¬ s ≤ (t_fi (g 74) s p) := fun z => by
          have q := hc0
          rw [show (s_lk (g 74) s (t_fi (g 74) s p)) = Int32.ofInt (-1) from by unfold s_lk; rw [if_neg (by omega)]] at q
          exact absurd q (by decide)
        have elk : (s_lk (g 74) s (t_fi (g 74) s p)) = g 74 (t_fi (g 74) s p) := by unfold s_lk; rw [if_pos (by omega)]
        have e1 : t_kd (g 74 (t_fi (g 74) s p)) = 2 := by rw [← elk]; exact Classical.byContradiction (fun z => hc2 (t_in2.mpr z))
        have e0 : (t_k0 (g 74) s p) = 2 := (if_neg e).trans e1
        have ep : (t_pl (g 74) s p) = t_ru (g 74) 2 (s - ((t_fi (g 74) s p) + 1)) ((t_fi (g 74) s p) + 1) := by unfold t_pl; rw [if_neg e, e0, if_neg (by decide), if_pos rfl]
        rw [show (q_up (q_up (q_up (s_70 (Int32.ofNat (t_fi (g 74) s p)) (g 70 15) (g 70 16) (g 70 17) 0 (g 70 19) g) 70 15 (Int32.ofNat (t_fi (g 74) s p))) 70 16 (2 : Int32)) 70 17 (0 : Int32)) = s_70 (Int32.ofNat (t_fi (g 74) s p)) (Int32.ofNat (t_fi (g 74) s p)) 2 0 0 (g 70 19) g from by rw [s_70_15, s_70_16, s_70_17]]
        have er : t_ru (g 74) 2 (s - (t_fi (g 74) s p)) (t_fi (g 74) s p) = (t_pl (g 74) s p) := by
          rw [show s - (t_fi (g 74) s p) = (s - ((t_fi (g 74) s p) + 1)) + 1 by omega, t_ru, if_pos e1, ep]
        refine rn_nu g u hs h160 (s - (t_fi (g 74) s p)) (t_fi (g 74) s p) 0 (by omega) (Nat.le_refl _) ?_
        rw [er]
        refine q_step 7 228 [(0, .ref 70), (1, .int (s_lk (g 74) s (t_fi (g 74) s p)))] [.int (2 : Int32), .int ((Int32.ofNat (t_pl (g 74) s p)) - (Int32.ofNat (t_fi (g 74) s p))), .ref 70] (s_70 (Int32.ofNat (t_pl (g 74) s p)) (Int32.ofNat (t_fi (g 74) s p)) 2 (t_v2 (g 74) (t_fi (g 74) s p) ((t_pl (g 74) s p) - (t_fi (g 74) s p)) (t_fi (g 74) s p) 0) 0 (g 70 19) g) u (fun big n0 => sg_rt_27 big n0 (s_70 (Int32.ofNat (t_pl (g 74) s p)) (Int32.ofNat (t_fi (g 74) s p)) 2 (t_v2 (g 74) (t_fi (g 74) s p) ((t_pl (g 74) s p) - (t_fi (g 74) s p)) (t_fi (g 74) s p) 0) 0 (g 70 19) g) u (s_lk (g 74) s (t_fi (g 74) s p))) ?_
        refine q_ic_gt rfl (fun (hc20 : (2 : Int32) < ((Int32.ofNat (t_pl (g 74) s p)) - (Int32.ofNat (t_fi (g 74) s p)))) => ?_) (fun (hc20 : ¬ ((2 : Int32) < ((Int32.ofNat (t_pl (g 74) s p)) - (Int32.ofNat (t_fi (g 74) s p))))) => ?_)
        · refine q_step 2 237 [(0, .ref 70), (1, .int (s_lk (g 74) s (t_fi (g 74) s p)))] [.int (1 : Int32), .int (0 : Int32), .ref 70] (s_70 (Int32.ofNat (t_pl (g 74) s p)) (Int32.ofNat (t_fi (g 74) s p)) 2 (t_v2 (g 74) (t_fi (g 74) s p) ((t_pl (g 74) s p) - (t_fi (g 74) s p)) (t_fi (g 74) s p) 0) 0 (g 70 19) g) u (fun big n0 => sg_rt_28 big n0 (s_70 (Int32.ofNat (t_pl (g 74) s p)) (Int32.ofNat (t_fi (g 74) s p)) 2 (t_v2 (g 74) (t_fi (g 74) s p) ((t_pl (g 74) s p) - (t_fi (g 74) s p)) (t_fi (g 74) s p) 0) 0 (g 70 19) g) u (s_lk (g 74) s (t_fi (g 74) s p))) ?_
          refine q_call (M2 := 154) (rest := []) (b_needs0 _ _ _ rfl) (fun _ _ => rfl) ?_
          refine q_ret 2 (none, (q_up (q_up (s_70 (Int32.ofNat (t_pl (g 74) s p)) (Int32.ofNat (t_fi (g 74) s p)) 2 (t_v2 (g 74) (t_fi (g 74) s p) ((t_pl (g 74) s p) - (t_fi (g 74) s p)) (t_fi (g 74) s p) 0) 0 (g 70 19) g) 70 18 (1 : Int32)) 70 19 (Int32.ofNat (t_fi (g 74) s p))), u) (fun _ _ => rfl) ?_
          have z := hc20
          rw [q_sb (by omega) (by omega), show (2 : Int32) = Int32.ofNat 2 from rfl, q_lt (by omega) (by omega)] at z
          have ek : (t_ki (g 74) s p) = 0 := by unfold t_ki; rw [e0, if_pos rfl, if_neg (by omega)]
          exact ⟨2, (t_v2 (g 74) (t_fi (g 74) s p) ((t_pl (g 74) s p) - (t_fi (g 74) s p)) (t_fi (g 74) s p) 0), 1, (Int32.ofNat (t_fi (g 74) s p)), by rw [s_70_18, s_70_19], Or.inl ⟨ek, rfl, rfl⟩⟩
        · refine q_step 3 237 [(0, .ref 70), (1, .int (s_lk (g 74) s (t_fi (g 74) s p)))] [.int (1 : Int32), .int (1 : Int32), .ref 70] (s_70 (Int32.ofNat (t_pl (g 74) s p)) (Int32.ofNat (t_fi (g 74) s p)) 2 (t_v2 (g 74) (t_fi (g 74) s p) ((t_pl (g 74) s p) - (t_fi (g 74) s p)) (t_fi (g 74) s p) 0) 0 (g 70 19) g) u (fun big n0 => sg_rt_29 big n0 (s_70 (Int32.ofNat (t_pl (g 74) s p)) (Int32.ofNat (t_fi (g 74) s p)) 2 (t_v2 (g 74) (t_fi (g 74) s p) ((t_pl (g 74) s p) - (t_fi (g 74) s p)) (t_fi (g 74) s p) 0) 0 (g 70 19) g) u (s_lk (g 74) s (t_fi (g 74) s p))) ?_
          refine q_call (M2 := 154) (rest := []) (b_needs1 _ _ _) (fun _ _ => rfl) ?_
          refine q_ret 2 (none, (s_70 (Int32.ofNat (t_pl (g 74) s p)) (Int32.ofNat (t_fi (g 74) s p)) 2 (t_v2 (g 74) (t_fi (g 74) s p) ((t_pl (g 74) s p) - (t_fi (g 74) s p)) (t_fi (g 74) s p) 0) 0 (g 70 19) g), u) (fun _ _ => rfl) ?_
          have z := hc20
          rw [q_sb (by omega) (by omega), show (2 : Int32) = Int32.ofNat 2 from rfl, q_lt (by omega) (by omega)] at z
          have ek : (t_ki (g 74) s p) = 2 := by unfold t_ki; rw [e0, if_pos rfl, if_pos (by omega)]
          exact ⟨2, (t_v2 (g 74) (t_fi (g 74) s p) ((t_pl (g 74) s p) - (t_fi (g 74) s p)) (t_fi (g 74) s p) 0), 0, g 70 19, rfl, Or.inr ⟨by rw [ek]; decide, rfl, by rw [ek]; rfl, fun _ => t_v2_vl _ _ _ (by omega)⟩⟩
    · refine q_step 3 82 [(0, .ref 70), (1, .int (s_lk (g 74) s (t_fi (g 74) s p)))] [] (q_up (q_up (s_70 (Int32.ofNat (t_fi (g 74) s p)) (g 70 15) (g 70 16) (g 70 17) 0 (g 70 19) g) 70 15 (Int32.ofNat (t_fi (g 74) s p))) 70 16 (1 : Int32)) u (fun big n0 => sg_rt_30 big n0 (q_up (s_70 (Int32.ofNat (t_fi (g 74) s p)) (g 70 15) (g 70 16) (g 70 17) 0 (g 70 19) g) 70 15 (Int32.ofNat (t_fi (g 74) s p))) u (s_lk (g 74) s (t_fi (g 74) s p))) ?_
      have e : ¬ s ≤ (t_fi (g 74) s p) := fun z => by
        have q := hc0
        rw [show (s_lk (g 74) s (t_fi (g 74) s p)) = Int32.ofInt (-1) from by unfold s_lk; rw [if_neg (by omega)]] at q
        exact absurd q (by decide)
      have elk : (s_lk (g 74) s (t_fi (g 74) s p)) = g 74 (t_fi (g 74) s p) := by unfold s_lk; rw [if_pos (by omega)]
      have e1 : t_kd (g 74 (t_fi (g 74) s p)) = 1 := by rw [← elk]; exact Classical.byContradiction (fun z => hc1 (t_in1.mpr z))
      have e0 : (t_k0 (g 74) s p) = 1 := (if_neg e).trans e1
      have ek : (t_ki (g 74) s p) = 1 := by unfold t_ki; rw [e0, if_neg (by decide)]
      have ep : (t_pl (g 74) s p) = t_ru (g 74) 1 (s - ((t_fi (g 74) s p) + 1)) ((t_fi (g 74) s p) + 1) := by unfold t_pl; rw [if_neg e, e0, if_pos rfl]
      rw [show (q_up (q_up (s_70 (Int32.ofNat (t_fi (g 74) s p)) (g 70 15) (g 70 16) (g 70 17) 0 (g 70 19) g) 70 15 (Int32.ofNat (t_fi (g 74) s p))) 70 16 (1 : Int32)) = s_70 (Int32.ofNat (t_fi (g 74) s p)) (Int32.ofNat (t_fi (g 74) s p)) 1 (g 70 17) 0 (g 70 19) g from by rw [s_70_15, s_70_16]]
      have er : t_ru (g 74) 1 (s - (t_fi (g 74) s p)) (t_fi (g 74) s p) = (t_pl (g 74) s p) := by
        rw [show s - (t_fi (g 74) s p) = (s - ((t_fi (g 74) s p) + 1)) + 1 by omega, t_ru, if_pos e1, ep]
      refine rn_nm g u hs h160 (s - (t_fi (g 74) s p)) (t_fi (g 74) s p) (by omega) ?_
      rw [er]
      refine q_ret 1 (none, (s_70 (Int32.ofNat (t_pl (g 74) s p)) (Int32.ofNat (t_fi (g 74) s p)) 1 (g 70 17) 0 (g 70 19) g), u) (fun _ _ => rfl) ?_
      exact ⟨1, g 70 17, 0, g 70 19, rfl, Or.inr ⟨by rw [ek]; decide, rfl, by rw [ek]; rfl, fun z => absurd (ek.symm.trans z) (by decide)⟩⟩
  · refine q_ret 5 (none, (q_up (q_up (s_70 (Int32.ofNat (t_fi (g 74) s p)) (g 70 15) (g 70 16) (g 70 17) 0 (g 70 19) g) 70 15 (Int32.ofNat (t_fi (g 74) s p))) 70 16 (0 : Int32)), u) (fun _ _ => rfl) ?_
    have e : s ≤ (t_fi (g 74) s p) := Classical.byContradiction (fun z => by
      have q := hc0
      have hq := hb (t_fi (g 74) s p) (by omega)
      rw [show (s_lk (g 74) s (t_fi (g 74) s p)) = g 74 (t_fi (g 74) s p) from by unfold s_lk; rw [if_pos (by omega)]] at q
      have z0 : (0 : Int32).toInt = 0 := rfl
      rw [Int32.le_iff_toInt_le] at q
      omega)
    have e0 : (t_k0 (g 74) s p) = 4 := if_pos e
    have ek : (t_ki (g 74) s p) = 4 := by unfold t_ki; rw [e0, if_neg (by decide)]
    have ep : (t_pl (g 74) s p) = (t_fi (g 74) s p) := if_pos e
    exact ⟨0, g 70 17, 0, g 70 19, by rw [s_70_15, s_70_16, ep], Or.inr ⟨by rw [ek]; decide, rfl, by rw [ek]; rfl, fun z => absurd (ek.symm.trans z) (by decide)⟩⟩
end
section
/-! NAMES of lines. -/
def t_eq (b : Nat → Int32) : Nat → List Int32 → Int32
  | _, [] => 1
  | f, c :: r => if b f = c then t_eq b (f + 1) r else 0
def t_is (b : Nat → Int32) (f l : Nat) (n : List Int32) : Int32 := if l = n.length then t_eq b f n else 0
def t_nm : Nat → List Int32
  | 0 => [116, 111, 119, 110]
  | 1 => [112, 117, 108, 108]
  | 2 => [112, 114, 101, 115, 115]
  | 3 => [119, 97, 108, 108]
  | 4 => [97, 116]
  | 5 => [115, 116, 105, 108, 108]
  | _ => [103, 111, 97, 108]
/-- the line's kind, -4 if its name is none's -/
def t_ln (b : Nat → Int32) (f l : Nat) : Int32 :=
  if t_is b f l (t_nm 0) = 1 then 0 else if t_is b f l (t_nm 1) = 1 then 1 else if t_is b f l (t_nm 2) = 1 then 2 else if t_is b f l (t_nm 3) = 1 then 3 else if t_is b f l (t_nm 4) = 1 then 4 else if t_is b f l (t_nm 5) = 1 then 5 else if t_is b f l (t_nm 6) = 1 then 6 else Int32.ofInt (-4)
theorem t_eq_01 {b : Nat → Int32} : ∀ n f, t_eq b f n = 0 ∨ t_eq b f n = 1
  | [], _ => Or.inr rfl
  | c :: r, f => by
    rw [t_eq]
    split
    · exact t_eq_01 r (f + 1)
    · exact Or.inl rfl
theorem t_eq_eq {b : Nat → Int32} : ∀ n m f, t_eq b f n = 1 → t_eq b f m = 1 → n.length = m.length → n = m
  | [], [], _, _, _, _ => rfl
  | [], _ :: _, _, _, _, h => by simp at h
  | _ :: _, [], _, _, _, h => by simp at h
  | c :: r, d :: q, f, h1, h2, h3 => by
    rw [t_eq] at h1 h2
    by_cases e : b f = c
    · rw [if_pos e] at h1
      by_cases e2 : b f = d
      · rw [if_pos e2] at h2
        rw [t_eq_eq r q (f + 1) h1 h2 (by simpa using h3), ← e, ← e2]
      · rw [if_neg e2] at h2
        exact absurd h2 (by decide)
    · rw [if_neg e] at h1
      exact absurd h1 (by decide)
theorem t_is_01 {b : Nat → Int32} {f l : Nat} (n : List Int32) : t_is b f l n = 0 ∨ t_is b f l n = 1 := by
  unfold t_is
  split
  · exact t_eq_01 n f
  · exact Or.inl rfl
theorem t_is_un {b : Nat → Int32} {f l : Nat} {n m : List Int32} (h1 : t_is b f l n = 1) (h2 : t_is b f l m = 1) : n = m := by
  unfold t_is at h1 h2
  by_cases e : l = n.length
  · rw [if_pos e] at h1
    by_cases e2 : l = m.length
    · rw [if_pos e2] at h2
      exact t_eq_eq n m f h1 h2 (e.symm.trans e2)
    · rw [if_neg e2] at h2
      exact absurd h2 (by decide)
  · rw [if_neg e] at h1
    exact absurd h1 (by decide)
theorem t_nm_inj {i j : Nat} (hi : i < 7) (hj : j < 7) (h : t_nm i = t_nm j) : i = j := by
  revert i j
  have z : (List.range 7).all (fun i => (List.range 7).all (fun j => decide (t_nm i = t_nm j → i = j))) = true := by decide +kernel
  intro i j hi hj h
  exact of_decide_eq_true (List.all_eq_true.mp (List.all_eq_true.mp z i (List.mem_range.mpr hi)) j (List.mem_range.mpr hj)) h
/-- a line of kind k is named so -/
theorem t_ln_of {b : Nat → Int32} {f l k : Nat} (hk : k < 7) (h : t_is b f l (t_nm k) = 1) : t_ln b f l = Int32.ofNat k := by
  have q : ∀ j, j < 7 → (t_is b f l (t_nm j) = 1 ↔ j = k) := fun j hj => ⟨fun z => t_nm_inj hj hk (t_is_un z h), fun z => z ▸ h⟩
  unfold t_ln
  by_cases e0 : k = 0
  · rw [if_pos ((q 0 (by omega)).mpr e0.symm), e0]; rfl
  rw [if_neg (fun z => e0 ((q 0 (by omega)).mp z).symm)]
  by_cases e1 : k = 1
  · rw [if_pos ((q 1 (by omega)).mpr e1.symm), e1]; rfl
  rw [if_neg (fun z => e1 ((q 1 (by omega)).mp z).symm)]
  by_cases e2 : k = 2
  · rw [if_pos ((q 2 (by omega)).mpr e2.symm), e2]; rfl
  rw [if_neg (fun z => e2 ((q 2 (by omega)).mp z).symm)]
  by_cases e3 : k = 3
  · rw [if_pos ((q 3 (by omega)).mpr e3.symm), e3]; rfl
  rw [if_neg (fun z => e3 ((q 3 (by omega)).mp z).symm)]
  by_cases e4 : k = 4
  · rw [if_pos ((q 4 (by omega)).mpr e4.symm), e4]; rfl
  rw [if_neg (fun z => e4 ((q 4 (by omega)).mp z).symm)]
  by_cases e5 : k = 5
  · rw [if_pos ((q 5 (by omega)).mpr e5.symm), e5]; rfl
  rw [if_neg (fun z => e5 ((q 5 (by omega)).mp z).symm)]
  rw [if_pos ((q 6 (by omega)).mpr (by omega)), show k = 6 by omega]; rfl
theorem t_ln_no {b : Nat → Int32} {f l : Nat} (h : ∀ k, k < 7 → ¬ t_is b f l (t_nm k) = 1) : t_ln b f l = Int32.ofInt (-4) := by
  unfold t_ln
  rw [if_neg (h 0 (by omega)), if_neg (h 1 (by omega)), if_neg (h 2 (by omega)), if_neg (h 3 (by omega)), if_neg (h 4 (by omega)), if_neg (h 5 (by omega)), if_neg (h 6 (by omega))]
def t_p1 (b : Nat → Int32) (s f l n : Nat) (a c : Int32) : Int32 := if l = n then (if s_lk b s f = a then (if s_lk b s (f + 1) = c then 1 else 0) else 0) else 0
def t_p2 (b : Nat → Int32) (s f : Nat) (a c d : Int32) : Int32 := if s_lk b s (f + 2) = a then (if s_lk b s (f + 3) = c then (if d = 0 then 1 else if s_lk b s (f + 4) = d then 1 else 0) else 0) else 0
theorem t_p1_0 {b : Nat → Int32} {s f l n : Nat} {a c : Int32} (h : f + l ≤ s) (hn : 2 ≤ n) : ¬ t_p1 b s f l n a c = 0 ↔ (l = n ∧ b f = a ∧ b (f + 1) = c) := by
  unfold t_p1
  by_cases e : l = n
  · rw [if_pos e, show s_lk b s f = b f from if_pos (by omega), show s_lk b s (f + 1) = b (f + 1) from if_pos (by omega)]
    by_cases e1 : b f = a
    · rw [if_pos e1]
      by_cases e2 : b (f + 1) = c
      · rw [if_pos e2]
        exact ⟨fun _ => ⟨e, e1, e2⟩, fun _ => by decide⟩
      · rw [if_neg e2]
        exact ⟨fun z => absurd rfl z, fun z => absurd z.2.2 e2⟩
    · rw [if_neg e1]
      exact ⟨fun z => absurd rfl z, fun z => absurd z.2.1 e1⟩
  · rw [if_neg e]
    exact ⟨fun z => absurd rfl z, fun z => absurd z.1 e⟩
theorem t_p2_0 {b : Nat → Int32} {s f : Nat} {a c d : Int32} (h : f + 4 ≤ s) (h5 : ¬ d = 0 → f + 5 ≤ s) : ¬ t_p2 b s f a c d = 0 ↔ (b (f + 2) = a ∧ b (f + 3) = c ∧ (d = 0 ∨ b (f + 4) = d)) := by
  unfold t_p2
  rw [show s_lk b s (f + 2) = b (f + 2) from if_pos (by omega), show s_lk b s (f + 3) = b (f + 3) from if_pos (by omega)]
  by_cases e1 : b (f + 2) = a
  · rw [if_pos e1]
    by_cases e2 : b (f + 3) = c
    · rw [if_pos e2]
      by_cases e3 : d = 0
      · rw [if_pos e3]
        exact ⟨fun _ => ⟨e1, e2, Or.inl e3⟩, fun _ => by decide⟩
      · rw [if_neg e3, show s_lk b s (f + 4) = b (f + 4) from if_pos (by have := h5 e3; omega)]
        by_cases e4 : b (f + 4) = d
        · rw [if_pos e4]
          exact ⟨fun _ => ⟨e1, e2, Or.inr e4⟩, fun _ => by decide⟩
        · rw [if_neg e4]
          exact ⟨fun z => absurd rfl z, fun z => z.2.2.elim (fun q => absurd q e3) (fun q => absurd q e4)⟩
    · rw [if_neg e2]
      exact ⟨fun z => absurd rfl z, fun z => absurd z.2.1 e2⟩
  · rw [if_neg e1]
    exact ⟨fun z => absurd rfl z, fun z => absurd z.1 e1⟩
theorem t_is_1 {b : Nat → Int32} {f l : Nat} {n : List Int32} : t_is b f l n = 1 ↔ (l = n.length ∧ t_eq b f n = 1) := by
  unfold t_is
  split
  · exact ⟨fun z => ⟨by assumption, z⟩, fun z => z.2⟩
  · exact ⟨fun z => absurd z (by decide), fun z => absurd z.1 (by assumption)⟩
theorem t_eq_1 {b : Nat → Int32} {f : Nat} {c : Int32} {r : List Int32} : t_eq b f (c :: r) = 1 ↔ (b f = c ∧ t_eq b (f + 1) r = 1) := by
  rw [t_eq]
  split
  · exact ⟨fun z => ⟨by assumption, z⟩, fun z => z.2⟩
  · exact ⟨fun z => absurd z (by decide), fun z => absurd z.1 (by assumption)⟩
theorem t_is_2 {b : Nat → Int32} {s f l : Nat} {c d : Int32} (h : f + l ≤ s) : t_is b f l [c, d] = 1 ↔ ¬ t_p1 b s f l 2 c d = 0 := by
  rw [t_p1_0 h (by omega), t_is_1, t_eq_1, t_eq_1]
  exact ⟨fun z => ⟨z.1, z.2.1, z.2.2.1⟩, fun z => ⟨z.1, z.2.1, z.2.2, rfl⟩⟩
theorem t_is_4 {b : Nat → Int32} {s f l : Nat} {c d i j : Int32} (h : f + l ≤ s) : t_is b f l [c, d, i, j] = 1 ↔ (¬ t_p1 b s f l 4 c d = 0 ∧ ¬ t_p2 b s f i j 0 = 0) := by
  rw [t_p1_0 h (by omega), t_is_1, t_eq_1, t_eq_1, t_eq_1, t_eq_1]
  constructor
  · intro z
    exact ⟨⟨z.1, z.2.1, z.2.2.1⟩, (t_p2_0 (by have : l = 4 := z.1; omega) (fun q => absurd rfl q)).mpr ⟨z.2.2.2.1, z.2.2.2.2.1, Or.inl rfl⟩⟩
  · intro z
    have q := (t_p2_0 (by have : l = 4 := z.1.1; omega) (fun q => absurd rfl q)).mp z.2
    exact ⟨z.1.1, z.1.2.1, z.1.2.2, q.1, q.2.1, rfl⟩
theorem t_is_5 {b : Nat → Int32} {s f l : Nat} {c d i j k : Int32} (h : f + l ≤ s) (hk : ¬ k = 0 := by decide) : t_is b f l [c, d, i, j, k] = 1 ↔ (¬ t_p1 b s f l 5 c d = 0 ∧ ¬ t_p2 b s f i j k = 0) := by
  rw [t_p1_0 h (by omega), t_is_1, t_eq_1, t_eq_1, t_eq_1, t_eq_1, t_eq_1]
  constructor
  · intro z
    exact ⟨⟨z.1, z.2.1, z.2.2.1⟩, (t_p2_0 (by have : l = 5 := z.1; omega) (fun _ => by have : l = 5 := z.1; omega)).mpr ⟨z.2.2.2.1, z.2.2.2.2.1, Or.inr z.2.2.2.2.2.1⟩⟩
  · intro z
    have q := (t_p2_0 (by have : l = 5 := z.1.1; omega) (fun _ => by have : l = 5 := z.1.1; omega)).mp z.2
    exact ⟨z.1.1, z.1.2.1, z.1.2.2, q.1, q.2.1, q.2.2.elim (fun x => absurd x hk) id, rfl⟩
theorem sg_nm_1 (big : Nat → List Value → qM → qW → qR) (n0 : Nat) (G : qM) (U : qW) : qm_run pm_m big m_21 (n0 + 3) 0 [(0, .ref 9), (1, .ref 1)] [] G U = qm_run pm_m big m_21 n0 5 [(0, .ref 9), (1, .ref 1)] [.int (1 : Int32), .int (G 9 2)] G U := rfl
theorem sg_nm_2 (big : Nat → List Value → qM → qW → qR) (n0 : Nat) (G : qM) (U : qW) : qm_run pm_m big m_21 (n0 + 7) 8 [(0, .ref 9), (1, .ref 1)] [] G U = qm_run pm_m big m_21 n0 21 [(0, .ref 9), (1, .ref 1)] [.int (4 : Int32), .int ((G 9 5) - (G 9 3))] G U := rfl
theorem sg_nm_3 (big : Nat → List Value → qM → qW → qR) (n0 : Nat) (G : qM) (U : qW) : qm_run pm_m big m_21 (n0 + 12) 26 [(0, .ref 9), (1, .ref 1)] [] G U = qm_run pm_m big m_21 n0 46 [(0, .ref 9), (1, .ref 1), (2, .int (0 : Int32))] [.int ((G 9 3) + (0 : Int32)), .ref 10] G U := rfl
theorem sg_nm_4 (big : Nat → List Value → qM → qW → qR) (n0 : Nat) (G : qM) (U : qW) (v0 : Int32) : qm_run pm_m big m_21 (n0 + 3) 47 [(0, .ref 9), (1, .ref 1), (2, .int (0 : Int32))] [.int v0] G U = qm_run pm_m big m_21 n0 52 [(0, .ref 9), (1, .ref 1), (2, .int (0 : Int32))] [.int (116 : Int32), .int v0] G U := rfl
theorem sg_nm_5 (big : Nat → List Value → qM → qW → qR) (n0 : Nat) (G : qM) (U : qW) : qm_run pm_m big m_21 (n0 + 12) 57 [(0, .ref 9), (1, .ref 1), (2, .int (0 : Int32))] [] G U = qm_run pm_m big m_21 n0 46 [(0, .ref 9), (1, .ref 1), (2, .int (1 : Int32))] [.int ((G 9 3) + (1 : Int32)), .ref 10] G U := rfl
theorem sg_nm_6 (big : Nat → List Value → qM → qW → qR) (n0 : Nat) (G : qM) (U : qW) (v0 : Int32) : qm_run pm_m big m_21 (n0 + 3) 47 [(0, .ref 9), (1, .ref 1), (2, .int (1 : Int32))] [.int v0] G U = qm_run pm_m big m_21 n0 52 [(0, .ref 9), (1, .ref 1), (2, .int (1 : Int32))] [.int (111 : Int32), .int v0] G U := rfl
theorem sg_nm_7 (big : Nat → List Value → qM → qW → qR) (n0 : Nat) (G : qM) (U : qW) : qm_run pm_m big m_21 (n0 + 12) 57 [(0, .ref 9), (1, .ref 1), (2, .int (1 : Int32))] [] G U = qm_run pm_m big m_21 n0 46 [(0, .ref 9), (1, .ref 1), (2, .int (2 : Int32))] [.int ((G 9 3) + (2 : Int32)), .ref 10] G U := rfl
theorem sg_nm_8 (big : Nat → List Value → qM → qW → qR) (n0 : Nat) (G : qM) (U : qW) (v0 : Int32) : qm_run pm_m big m_21 (n0 + 3) 47 [(0, .ref 9), (1, .ref 1), (2, .int (2 : Int32))] [.int v0] G U = qm_run pm_m big m_21 n0 52 [(0, .ref 9), (1, .ref 1), (2, .int (2 : Int32))] [.int (119 : Int32), .int v0] G U := rfl
theorem sg_nm_9 (big : Nat → List Value → qM → qW → qR) (n0 : Nat) (G : qM) (U : qW) : qm_run pm_m big m_21 (n0 + 12) 57 [(0, .ref 9), (1, .ref 1), (2, .int (2 : Int32))] [] G U = qm_run pm_m big m_21 n0 46 [(0, .ref 9), (1, .ref 1), (2, .int (3 : Int32))] [.int ((G 9 3) + (3 : Int32)), .ref 10] G U := rfl
theorem sg_nm_10 (big : Nat → List Value → qM → qW → qR) (n0 : Nat) (G : qM) (U : qW) (v0 : Int32) : qm_run pm_m big m_21 (n0 + 3) 47 [(0, .ref 9), (1, .ref 1), (2, .int (3 : Int32))] [.int v0] G U = qm_run pm_m big m_21 n0 52 [(0, .ref 9), (1, .ref 1), (2, .int (3 : Int32))] [.int (110 : Int32), .int v0] G U := rfl
theorem sg_nm_11 (big : Nat → List Value → qM → qW → qR) (n0 : Nat) (G : qM) (U : qW) : qm_run pm_m big m_21 (n0 + 3) 0 [(0, .ref 9), (1, .ref 2)] [] G U = qm_run pm_m big m_21 n0 5 [(0, .ref 9), (1, .ref 2)] [.int (1 : Int32), .int (G 9 2)] G U := rfl
theorem sg_nm_12 (big : Nat → List Value → qM → qW → qR) (n0 : Nat) (G : qM) (U : qW) : qm_run pm_m big m_21 (n0 + 7) 8 [(0, .ref 9), (1, .ref 2)] [] G U = qm_run pm_m big m_21 n0 21 [(0, .ref 9), (1, .ref 2)] [.int (4 : Int32), .int ((G 9 5) - (G 9 3))] G U := rfl
theorem sg_nm_13 (big : Nat → List Value → qM → qW → qR) (n0 : Nat) (G : qM) (U : qW) : qm_run pm_m big m_21 (n0 + 12) 26 [(0, .ref 9), (1, .ref 2)] [] G U = qm_run pm_m big m_21 n0 46 [(0, .ref 9), (1, .ref 2), (2, .int (0 : Int32))] [.int ((G 9 3) + (0 : Int32)), .ref 10] G U := rfl
theorem sg_nm_14 (big : Nat → List Value → qM → qW → qR) (n0 : Nat) (G : qM) (U : qW) (v0 : Int32) : qm_run pm_m big m_21 (n0 + 3) 47 [(0, .ref 9), (1, .ref 2), (2, .int (0 : Int32))] [.int v0] G U = qm_run pm_m big m_21 n0 52 [(0, .ref 9), (1, .ref 2), (2, .int (0 : Int32))] [.int (119 : Int32), .int v0] G U := rfl
theorem sg_nm_15 (big : Nat → List Value → qM → qW → qR) (n0 : Nat) (G : qM) (U : qW) : qm_run pm_m big m_21 (n0 + 12) 57 [(0, .ref 9), (1, .ref 2), (2, .int (0 : Int32))] [] G U = qm_run pm_m big m_21 n0 46 [(0, .ref 9), (1, .ref 2), (2, .int (1 : Int32))] [.int ((G 9 3) + (1 : Int32)), .ref 10] G U := rfl
theorem sg_nm_16 (big : Nat → List Value → qM → qW → qR) (n0 : Nat) (G : qM) (U : qW) (v0 : Int32) : qm_run pm_m big m_21 (n0 + 3) 47 [(0, .ref 9), (1, .ref 2), (2, .int (1 : Int32))] [.int v0] G U = qm_run pm_m big m_21 n0 52 [(0, .ref 9), (1, .ref 2), (2, .int (1 : Int32))] [.int (97 : Int32), .int v0] G U := rfl
theorem sg_nm_17 (big : Nat → List Value → qM → qW → qR) (n0 : Nat) (G : qM) (U : qW) : qm_run pm_m big m_21 (n0 + 12) 57 [(0, .ref 9), (1, .ref 2), (2, .int (1 : Int32))] [] G U = qm_run pm_m big m_21 n0 46 [(0, .ref 9), (1, .ref 2), (2, .int (2 : Int32))] [.int ((G 9 3) + (2 : Int32)), .ref 10] G U := rfl
theorem sg_nm_18 (big : Nat → List Value → qM → qW → qR) (n0 : Nat) (G : qM) (U : qW) (v0 : Int32) : qm_run pm_m big m_21 (n0 + 3) 47 [(0, .ref 9), (1, .ref 2), (2, .int (2 : Int32))] [.int v0] G U = qm_run pm_m big m_21 n0 52 [(0, .ref 9), (1, .ref 2), (2, .int (2 : Int32))] [.int (108 : Int32), .int v0] G U := rfl
theorem sg_nm_19 (big : Nat → List Value → qM → qW → qR) (n0 : Nat) (G : qM) (U : qW) : qm_run pm_m big m_21 (n0 + 12) 57 [(0, .ref 9), (1, .ref 2), (2, .int (2 : Int32))] [] G U = qm_run pm_m big m_21 n0 46 [(0, .ref 9), (1, .ref 2), (2, .int (3 : Int32))] [.int ((G 9 3) + (3 : Int32)), .ref 10] G U := rfl
theorem sg_nm_20 (big : Nat → List Value → qM → qW → qR) (n0 : Nat) (G : qM) (U : qW) (v0 : Int32) : qm_run pm_m big m_21 (n0 + 3) 47 [(0, .ref 9), (1, .ref 2), (2, .int (3 : Int32))] [.int v0] G U = qm_run pm_m big m_21 n0 52 [(0, .ref 9), (1, .ref 2), (2, .int (3 : Int32))] [.int (108 : Int32), .int v0] G U := rfl
theorem sg_nm_21 (big : Nat → List Value → qM → qW → qR) (n0 : Nat) (G : qM) (U : qW) : qm_run pm_m big m_21 (n0 + 3) 0 [(0, .ref 9), (1, .ref 3)] [] G U = qm_run pm_m big m_21 n0 5 [(0, .ref 9), (1, .ref 3)] [.int (1 : Int32), .int (G 9 2)] G U := rfl
theorem sg_nm_22 (big : Nat → List Value → qM → qW → qR) (n0 : Nat) (G : qM) (U : qW) : qm_run pm_m big m_21 (n0 + 7) 8 [(0, .ref 9), (1, .ref 3)] [] G U = qm_run pm_m big m_21 n0 21 [(0, .ref 9), (1, .ref 3)] [.int (2 : Int32), .int ((G 9 5) - (G 9 3))] G U := rfl
theorem sg_nm_23 (big : Nat → List Value → qM → qW → qR) (n0 : Nat) (G : qM) (U : qW) : qm_run pm_m big m_21 (n0 + 12) 26 [(0, .ref 9), (1, .ref 3)] [] G U = qm_run pm_m big m_21 n0 46 [(0, .ref 9), (1, .ref 3), (2, .int (0 : Int32))] [.int ((G 9 3) + (0 : Int32)), .ref 10] G U := rfl
theorem sg_nm_24 (big : Nat → List Value → qM → qW → qR) (n0 : Nat) (G : qM) (U : qW) (v0 : Int32) : qm_run pm_m big m_21 (n0 + 3) 47 [(0, .ref 9), (1, .ref 3), (2, .int (0 : Int32))] [.int v0] G U = qm_run pm_m big m_21 n0 52 [(0, .ref 9), (1, .ref 3), (2, .int (0 : Int32))] [.int (97 : Int32), .int v0] G U := rfl
theorem sg_nm_25 (big : Nat → List Value → qM → qW → qR) (n0 : Nat) (G : qM) (U : qW) : qm_run pm_m big m_21 (n0 + 12) 57 [(0, .ref 9), (1, .ref 3), (2, .int (0 : Int32))] [] G U = qm_run pm_m big m_21 n0 46 [(0, .ref 9), (1, .ref 3), (2, .int (1 : Int32))] [.int ((G 9 3) + (1 : Int32)), .ref 10] G U := rfl
theorem sg_nm_26 (big : Nat → List Value → qM → qW → qR) (n0 : Nat) (G : qM) (U : qW) (v0 : Int32) : qm_run pm_m big m_21 (n0 + 3) 47 [(0, .ref 9), (1, .ref 3), (2, .int (1 : Int32))] [.int v0] G U = qm_run pm_m big m_21 n0 52 [(0, .ref 9), (1, .ref 3), (2, .int (1 : Int32))] [.int (116 : Int32), .int v0] G U := rfl
theorem sg_nm_27 (big : Nat → List Value → qM → qW → qR) (n0 : Nat) (G : qM) (U : qW) : qm_run pm_m big m_21 (n0 + 3) 0 [(0, .ref 9), (1, .ref 4)] [] G U = qm_run pm_m big m_21 n0 5 [(0, .ref 9), (1, .ref 4)] [.int (1 : Int32), .int (G 9 2)] G U := rfl
theorem sg_nm_28 (big : Nat → List Value → qM → qW → qR) (n0 : Nat) (G : qM) (U : qW) : qm_run pm_m big m_21 (n0 + 7) 8 [(0, .ref 9), (1, .ref 4)] [] G U = qm_run pm_m big m_21 n0 21 [(0, .ref 9), (1, .ref 4)] [.int (5 : Int32), .int ((G 9 5) - (G 9 3))] G U := rfl
theorem sg_nm_29 (big : Nat → List Value → qM → qW → qR) (n0 : Nat) (G : qM) (U : qW) : qm_run pm_m big m_21 (n0 + 12) 26 [(0, .ref 9), (1, .ref 4)] [] G U = qm_run pm_m big m_21 n0 46 [(0, .ref 9), (1, .ref 4), (2, .int (0 : Int32))] [.int ((G 9 3) + (0 : Int32)), .ref 10] G U := rfl
theorem sg_nm_30 (big : Nat → List Value → qM → qW → qR) (n0 : Nat) (G : qM) (U : qW) (v0 : Int32) : qm_run pm_m big m_21 (n0 + 3) 47 [(0, .ref 9), (1, .ref 4), (2, .int (0 : Int32))] [.int v0] G U = qm_run pm_m big m_21 n0 52 [(0, .ref 9), (1, .ref 4), (2, .int (0 : Int32))] [.int (115 : Int32), .int v0] G U := rfl
theorem sg_nm_31 (big : Nat → List Value → qM → qW → qR) (n0 : Nat) (G : qM) (U : qW) : qm_run pm_m big m_21 (n0 + 12) 57 [(0, .ref 9), (1, .ref 4), (2, .int (0 : Int32))] [] G U = qm_run pm_m big m_21 n0 46 [(0, .ref 9), (1, .ref 4), (2, .int (1 : Int32))] [.int ((G 9 3) + (1 : Int32)), .ref 10] G U := rfl
theorem sg_nm_32 (big : Nat → List Value → qM → qW → qR) (n0 : Nat) (G : qM) (U : qW) (v0 : Int32) : qm_run pm_m big m_21 (n0 + 3) 47 [(0, .ref 9), (1, .ref 4), (2, .int (1 : Int32))] [.int v0] G U = qm_run pm_m big m_21 n0 52 [(0, .ref 9), (1, .ref 4), (2, .int (1 : Int32))] [.int (116 : Int32), .int v0] G U := rfl
theorem sg_nm_33 (big : Nat → List Value → qM → qW → qR) (n0 : Nat) (G : qM) (U : qW) : qm_run pm_m big m_21 (n0 + 12) 57 [(0, .ref 9), (1, .ref 4), (2, .int (1 : Int32))] [] G U = qm_run pm_m big m_21 n0 46 [(0, .ref 9), (1, .ref 4), (2, .int (2 : Int32))] [.int ((G 9 3) + (2 : Int32)), .ref 10] G U := rfl
theorem sg_nm_34 (big : Nat → List Value → qM → qW → qR) (n0 : Nat) (G : qM) (U : qW) (v0 : Int32) : qm_run pm_m big m_21 (n0 + 3) 47 [(0, .ref 9), (1, .ref 4), (2, .int (2 : Int32))] [.int v0] G U = qm_run pm_m big m_21 n0 52 [(0, .ref 9), (1, .ref 4), (2, .int (2 : Int32))] [.int (105 : Int32), .int v0] G U := rfl
theorem sg_nm_35 (big : Nat → List Value → qM → qW → qR) (n0 : Nat) (G : qM) (U : qW) : qm_run pm_m big m_21 (n0 + 12) 57 [(0, .ref 9), (1, .ref 4), (2, .int (2 : Int32))] [] G U = qm_run pm_m big m_21 n0 46 [(0, .ref 9), (1, .ref 4), (2, .int (3 : Int32))] [.int ((G 9 3) + (3 : Int32)), .ref 10] G U := rfl
theorem sg_nm_36 (big : Nat → List Value → qM → qW → qR) (n0 : Nat) (G : qM) (U : qW) (v0 : Int32) : qm_run pm_m big m_21 (n0 + 3) 47 [(0, .ref 9), (1, .ref 4), (2, .int (3 : Int32))] [.int v0] G U = qm_run pm_m big m_21 n0 52 [(0, .ref 9), (1, .ref 4), (2, .int (3 : Int32))] [.int (108 : Int32), .int v0] G U := rfl
theorem sg_nm_37 (big : Nat → List Value → qM → qW → qR) (n0 : Nat) (G : qM) (U : qW) : qm_run pm_m big m_21 (n0 + 12) 57 [(0, .ref 9), (1, .ref 4), (2, .int (3 : Int32))] [] G U = qm_run pm_m big m_21 n0 46 [(0, .ref 9), (1, .ref 4), (2, .int (4 : Int32))] [.int ((G 9 3) + (4 : Int32)), .ref 10] G U := rfl
theorem sg_nm_38 (big : Nat → List Value → qM → qW → qR) (n0 : Nat) (G : qM) (U : qW) (v0 : Int32) : qm_run pm_m big m_21 (n0 + 3) 47 [(0, .ref 9), (1, .ref 4), (2, .int (4 : Int32))] [.int v0] G U = qm_run pm_m big m_21 n0 52 [(0, .ref 9), (1, .ref 4), (2, .int (4 : Int32))] [.int (108 : Int32), .int v0] G U := rfl
theorem sg_nm_39 (big : Nat → List Value → qM → qW → qR) (n0 : Nat) (G : qM) (U : qW) : qm_run pm_m big m_21 (n0 + 3) 0 [(0, .ref 9), (1, .ref 5)] [] G U = qm_run pm_m big m_21 n0 5 [(0, .ref 9), (1, .ref 5)] [.int (1 : Int32), .int (G 9 2)] G U := rfl
theorem sg_nm_40 (big : Nat → List Value → qM → qW → qR) (n0 : Nat) (G : qM) (U : qW) : qm_run pm_m big m_21 (n0 + 7) 8 [(0, .ref 9), (1, .ref 5)] [] G U = qm_run pm_m big m_21 n0 21 [(0, .ref 9), (1, .ref 5)] [.int (4 : Int32), .int ((G 9 5) - (G 9 3))] G U := rfl
theorem sg_nm_41 (big : Nat → List Value → qM → qW → qR) (n0 : Nat) (G : qM) (U : qW) : qm_run pm_m big m_21 (n0 + 12) 26 [(0, .ref 9), (1, .ref 5)] [] G U = qm_run pm_m big m_21 n0 46 [(0, .ref 9), (1, .ref 5), (2, .int (0 : Int32))] [.int ((G 9 3) + (0 : Int32)), .ref 10] G U := rfl
theorem sg_nm_42 (big : Nat → List Value → qM → qW → qR) (n0 : Nat) (G : qM) (U : qW) (v0 : Int32) : qm_run pm_m big m_21 (n0 + 3) 47 [(0, .ref 9), (1, .ref 5), (2, .int (0 : Int32))] [.int v0] G U = qm_run pm_m big m_21 n0 52 [(0, .ref 9), (1, .ref 5), (2, .int (0 : Int32))] [.int (112 : Int32), .int v0] G U := rfl
theorem sg_nm_43 (big : Nat → List Value → qM → qW → qR) (n0 : Nat) (G : qM) (U : qW) : qm_run pm_m big m_21 (n0 + 12) 57 [(0, .ref 9), (1, .ref 5), (2, .int (0 : Int32))] [] G U = qm_run pm_m big m_21 n0 46 [(0, .ref 9), (1, .ref 5), (2, .int (1 : Int32))] [.int ((G 9 3) + (1 : Int32)), .ref 10] G U := rfl
theorem sg_nm_44 (big : Nat → List Value → qM → qW → qR) (n0 : Nat) (G : qM) (U : qW) (v0 : Int32) : qm_run pm_m big m_21 (n0 + 3) 47 [(0, .ref 9), (1, .ref 5), (2, .int (1 : Int32))] [.int v0] G U = qm_run pm_m big m_21 n0 52 [(0, .ref 9), (1, .ref 5), (2, .int (1 : Int32))] [.int (117 : Int32), .int v0] G U := rfl
theorem sg_nm_45 (big : Nat → List Value → qM → qW → qR) (n0 : Nat) (G : qM) (U : qW) : qm_run pm_m big m_21 (n0 + 12) 57 [(0, .ref 9), (1, .ref 5), (2, .int (1 : Int32))] [] G U = qm_run pm_m big m_21 n0 46 [(0, .ref 9), (1, .ref 5), (2, .int (2 : Int32))] [.int ((G 9 3) + (2 : Int32)), .ref 10] G U := rfl
theorem sg_nm_46 (big : Nat → List Value → qM → qW → qR) (n0 : Nat) (G : qM) (U : qW) (v0 : Int32) : qm_run pm_m big m_21 (n0 + 3) 47 [(0, .ref 9), (1, .ref 5), (2, .int (2 : Int32))] [.int v0] G U = qm_run pm_m big m_21 n0 52 [(0, .ref 9), (1, .ref 5), (2, .int (2 : Int32))] [.int (108 : Int32), .int v0] G U := rfl
theorem sg_nm_47 (big : Nat → List Value → qM → qW → qR) (n0 : Nat) (G : qM) (U : qW) : qm_run pm_m big m_21 (n0 + 12) 57 [(0, .ref 9), (1, .ref 5), (2, .int (2 : Int32))] [] G U = qm_run pm_m big m_21 n0 46 [(0, .ref 9), (1, .ref 5), (2, .int (3 : Int32))] [.int ((G 9 3) + (3 : Int32)), .ref 10] G U := rfl
theorem sg_nm_48 (big : Nat → List Value → qM → qW → qR) (n0 : Nat) (G : qM) (U : qW) (v0 : Int32) : qm_run pm_m big m_21 (n0 + 3) 47 [(0, .ref 9), (1, .ref 5), (2, .int (3 : Int32))] [.int v0] G U = qm_run pm_m big m_21 n0 52 [(0, .ref 9), (1, .ref 5), (2, .int (3 : Int32))] [.int (108 : Int32), .int v0] G U := rfl
theorem sg_nm_49 (big : Nat → List Value → qM → qW → qR) (n0 : Nat) (G : qM) (U : qW) : qm_run pm_m big m_21 (n0 + 3) 0 [(0, .ref 9), (1, .ref 6)] [] G U = qm_run pm_m big m_21 n0 5 [(0, .ref 9), (1, .ref 6)] [.int (1 : Int32), .int (G 9 2)] G U := rfl
theorem sg_nm_50 (big : Nat → List Value → qM → qW → qR) (n0 : Nat) (G : qM) (U : qW) : qm_run pm_m big m_21 (n0 + 7) 8 [(0, .ref 9), (1, .ref 6)] [] G U = qm_run pm_m big m_21 n0 21 [(0, .ref 9), (1, .ref 6)] [.int (5 : Int32), .int ((G 9 5) - (G 9 3))] G U := rfl
theorem sg_nm_51 (big : Nat → List Value → qM → qW → qR) (n0 : Nat) (G : qM) (U : qW) : qm_run pm_m big m_21 (n0 + 12) 26 [(0, .ref 9), (1, .ref 6)] [] G U = qm_run pm_m big m_21 n0 46 [(0, .ref 9), (1, .ref 6), (2, .int (0 : Int32))] [.int ((G 9 3) + (0 : Int32)), .ref 10] G U := rfl
theorem sg_nm_52 (big : Nat → List Value → qM → qW → qR) (n0 : Nat) (G : qM) (U : qW) (v0 : Int32) : qm_run pm_m big m_21 (n0 + 3) 47 [(0, .ref 9), (1, .ref 6), (2, .int (0 : Int32))] [.int v0] G U = qm_run pm_m big m_21 n0 52 [(0, .ref 9), (1, .ref 6), (2, .int (0 : Int32))] [.int (112 : Int32), .int v0] G U := rfl
theorem sg_nm_53 (big : Nat → List Value → qM → qW → qR) (n0 : Nat) (G : qM) (U : qW) : qm_run pm_m big m_21 (n0 + 12) 57 [(0, .ref 9), (1, .ref 6), (2, .int (0 : Int32))] [] G U = qm_run pm_m big m_21 n0 46 [(0, .ref 9), (1, .ref 6), (2, .int (1 : Int32))] [.int ((G 9 3) + (1 : Int32)), .ref 10] G U := rfl
theorem sg_nm_54 (big : Nat → List Value → qM → qW → qR) (n0 : Nat) (G : qM) (U : qW) (v0 : Int32) : qm_run pm_m big m_21 (n0 + 3) 47 [(0, .ref 9), (1, .ref 6), (2, .int (1 : Int32))] [.int v0] G U = qm_run pm_m big m_21 n0 52 [(0, .ref 9), (1, .ref 6), (2, .int (1 : Int32))] [.int (114 : Int32), .int v0] G U := rfl
theorem sg_nm_55 (big : Nat → List Value → qM → qW → qR) (n0 : Nat) (G : qM) (U : qW) : qm_run pm_m big m_21 (n0 + 12) 57 [(0, .ref 9), (1, .ref 6), (2, .int (1 : Int32))] [] G U = qm_run pm_m big m_21 n0 46 [(0, .ref 9), (1, .ref 6), (2, .int (2 : Int32))] [.int ((G 9 3) + (2 : Int32)), .ref 10] G U := rfl
theorem sg_nm_56 (big : Nat → List Value → qM → qW → qR) (n0 : Nat) (G : qM) (U : qW) (v0 : Int32) : qm_run pm_m big m_21 (n0 + 3) 47 [(0, .ref 9), (1, .ref 6), (2, .int (2 : Int32))] [.int v0] G U = qm_run pm_m big m_21 n0 52 [(0, .ref 9), (1, .ref 6), (2, .int (2 : Int32))] [.int (101 : Int32), .int v0] G U := rfl
theorem sg_nm_57 (big : Nat → List Value → qM → qW → qR) (n0 : Nat) (G : qM) (U : qW) : qm_run pm_m big m_21 (n0 + 12) 57 [(0, .ref 9), (1, .ref 6), (2, .int (2 : Int32))] [] G U = qm_run pm_m big m_21 n0 46 [(0, .ref 9), (1, .ref 6), (2, .int (3 : Int32))] [.int ((G 9 3) + (3 : Int32)), .ref 10] G U := rfl
theorem sg_nm_58 (big : Nat → List Value → qM → qW → qR) (n0 : Nat) (G : qM) (U : qW) (v0 : Int32) : qm_run pm_m big m_21 (n0 + 3) 47 [(0, .ref 9), (1, .ref 6), (2, .int (3 : Int32))] [.int v0] G U = qm_run pm_m big m_21 n0 52 [(0, .ref 9), (1, .ref 6), (2, .int (3 : Int32))] [.int (115 : Int32), .int v0] G U := rfl
theorem sg_nm_59 (big : Nat → List Value → qM → qW → qR) (n0 : Nat) (G : qM) (U : qW) : qm_run pm_m big m_21 (n0 + 12) 57 [(0, .ref 9), (1, .ref 6), (2, .int (3 : Int32))] [] G U = qm_run pm_m big m_21 n0 46 [(0, .ref 9), (1, .ref 6), (2, .int (4 : Int32))] [.int ((G 9 3) + (4 : Int32)), .ref 10] G U := rfl
theorem sg_nm_60 (big : Nat → List Value → qM → qW → qR) (n0 : Nat) (G : qM) (U : qW) (v0 : Int32) : qm_run pm_m big m_21 (n0 + 3) 47 [(0, .ref 9), (1, .ref 6), (2, .int (4 : Int32))] [.int v0] G U = qm_run pm_m big m_21 n0 52 [(0, .ref 9), (1, .ref 6), (2, .int (4 : Int32))] [.int (115 : Int32), .int v0] G U := rfl
theorem sg_nm_61 (big : Nat → List Value → qM → qW → qR) (n0 : Nat) (G : qM) (U : qW) : qm_run pm_m big m_21 (n0 + 3) 0 [(0, .ref 9), (1, .ref 7)] [] G U = qm_run pm_m big m_21 n0 5 [(0, .ref 9), (1, .ref 7)] [.int (1 : Int32), .int (G 9 2)] G U := rfl
theorem sg_nm_62 (big : Nat → List Value → qM → qW → qR) (n0 : Nat) (G : qM) (U : qW) : qm_run pm_m big m_21 (n0 + 7) 8 [(0, .ref 9), (1, .ref 7)] [] G U = qm_run pm_m big m_21 n0 21 [(0, .ref 9), (1, .ref 7)] [.int (4 : Int32), .int ((G 9 5) - (G 9 3))] G U := rfl
theorem sg_nm_63 (big : Nat → List Value → qM → qW → qR) (n0 : Nat) (G : qM) (U : qW) : qm_run pm_m big m_21 (n0 + 12) 26 [(0, .ref 9), (1, .ref 7)] [] G U = qm_run pm_m big m_21 n0 46 [(0, .ref 9), (1, .ref 7), (2, .int (0 : Int32))] [.int ((G 9 3) + (0 : Int32)), .ref 10] G U := rfl
theorem sg_nm_64 (big : Nat → List Value → qM → qW → qR) (n0 : Nat) (G : qM) (U : qW) (v0 : Int32) : qm_run pm_m big m_21 (n0 + 3) 47 [(0, .ref 9), (1, .ref 7), (2, .int (0 : Int32))] [.int v0] G U = qm_run pm_m big m_21 n0 52 [(0, .ref 9), (1, .ref 7), (2, .int (0 : Int32))] [.int (103 : Int32), .int v0] G U := rfl
theorem sg_nm_65 (big : Nat → List Value → qM → qW → qR) (n0 : Nat) (G : qM) (U : qW) : qm_run pm_m big m_21 (n0 + 12) 57 [(0, .ref 9), (1, .ref 7), (2, .int (0 : Int32))] [] G U = qm_run pm_m big m_21 n0 46 [(0, .ref 9), (1, .ref 7), (2, .int (1 : Int32))] [.int ((G 9 3) + (1 : Int32)), .ref 10] G U := rfl
theorem sg_nm_66 (big : Nat → List Value → qM → qW → qR) (n0 : Nat) (G : qM) (U : qW) (v0 : Int32) : qm_run pm_m big m_21 (n0 + 3) 47 [(0, .ref 9), (1, .ref 7), (2, .int (1 : Int32))] [.int v0] G U = qm_run pm_m big m_21 n0 52 [(0, .ref 9), (1, .ref 7), (2, .int (1 : Int32))] [.int (111 : Int32), .int v0] G U := rfl
theorem sg_nm_67 (big : Nat → List Value → qM → qW → qR) (n0 : Nat) (G : qM) (U : qW) : qm_run pm_m big m_21 (n0 + 12) 57 [(0, .ref 9), (1, .ref 7), (2, .int (1 : Int32))] [] G U = qm_run pm_m big m_21 n0 46 [(0, .ref 9), (1, .ref 7), (2, .int (2 : Int32))] [.int ((G 9 3) + (2 : Int32)), .ref 10] G U := rfl
theorem sg_nm_68 (big : Nat → List Value → qM → qW → qR) (n0 : Nat) (G : qM) (U : qW) (v0 : Int32) : qm_run pm_m big m_21 (n0 + 3) 47 [(0, .ref 9), (1, .ref 7), (2, .int (2 : Int32))] [.int v0] G U = qm_run pm_m big m_21 n0 52 [(0, .ref 9), (1, .ref 7), (2, .int (2 : Int32))] [.int (97 : Int32), .int v0] G U := rfl
theorem sg_nm_69 (big : Nat → List Value → qM → qW → qR) (n0 : Nat) (G : qM) (U : qW) : qm_run pm_m big m_21 (n0 + 12) 57 [(0, .ref 9), (1, .ref 7), (2, .int (2 : Int32))] [] G U = qm_run pm_m big m_21 n0 46 [(0, .ref 9), (1, .ref 7), (2, .int (3 : Int32))] [.int ((G 9 3) + (3 : Int32)), .ref 10] G U := rfl
theorem sg_nm_70 (big : Nat → List Value → qM → qW → qR) (n0 : Nat) (G : qM) (U : qW) (v0 : Int32) : qm_run pm_m big m_21 (n0 + 3) 47 [(0, .ref 9), (1, .ref 7), (2, .int (3 : Int32))] [.int v0] G U = qm_run pm_m big m_21 n0 52 [(0, .ref 9), (1, .ref 7), (2, .int (3 : Int32))] [.int (108 : Int32), .int v0] G U := rfl
theorem sg_nm_71 (big : Nat → List Value → qM → qW → qR) (n0 : Nat) (G : qM) (U : qW) (v0 : Int32) (v1 : Int32) (v2 : Int32) : qm_run pm_m big m_157 (n0 + 6) 0 [(0, .ref 70), (1, .int v0), (2, .int v1), (3, .int v2)] [] G U = qm_run pm_m big m_157 n0 10 [(0, .ref 70), (1, .int v0), (2, .int v1), (3, .int v2)] [.int v0, .int ((G 70 14) - (G 70 15))] G U := rfl
theorem sg_nm_72 (big : Nat → List Value → qM → qW → qR) (n0 : Nat) (G : qM) (U : qW) (v0 : Int32) (v1 : Int32) (v2 : Int32) : qm_run pm_m big m_157 (n0 + 3) 13 [(0, .ref 70), (1, .int v0), (2, .int v1), (3, .int v2)] [] G U = qm_run pm_m big m_157 n0 18 [(0, .ref 70), (1, .int v0), (2, .int v1), (3, .int v2)] [.int (G 70 15), .ref 70] G U := rfl
theorem sg_nm_73 (big : Nat → List Value → qM → qW → qR) (n0 : Nat) (G : qM) (U : qW) (v0 : Int32) (v1 : Int32) (v2 : Int32) (v3 : Int32) : qm_run pm_m big m_157 (n0 + 1) 21 [(0, .ref 70), (1, .int v0), (2, .int v1), (3, .int v2)] [.int v3] G U = qm_run pm_m big m_157 n0 22 [(0, .ref 70), (1, .int v0), (2, .int v1), (3, .int v2)] [.int v1, .int v3] G U := rfl
theorem sg_nm_74 (big : Nat → List Value → qM → qW → qR) (n0 : Nat) (G : qM) (U : qW) (v0 : Int32) (v1 : Int32) (v2 : Int32) : qm_run pm_m big m_157 (n0 + 5) 25 [(0, .ref 70), (1, .int v0), (2, .int v1), (3, .int v2)] [] G U = qm_run pm_m big m_157 n0 32 [(0, .ref 70), (1, .int v0), (2, .int v1), (3, .int v2)] [.int ((G 70 15) + (1 : Int32)), .ref 70] G U := rfl
theorem sg_nm_75 (big : Nat → List Value → qM → qW → qR) (n0 : Nat) (G : qM) (U : qW) (v0 : Int32) (v1 : Int32) (v2 : Int32) (v3 : Int32) : qm_run pm_m big m_157 (n0 + 1) 35 [(0, .ref 70), (1, .int v0), (2, .int v1), (3, .int v2)] [.int v3] G U = qm_run pm_m big m_157 n0 36 [(0, .ref 70), (1, .int v0), (2, .int v1), (3, .int v2)] [.int v2, .int v3] G U := rfl
theorem sg_nm_76 (big : Nat → List Value → qM → qW → qR) (n0 : Nat) (G : qM) (U : qW) (v0 : Int32) (v1 : Int32) (v2 : Int32) : qm_run pm_m big m_158 (n0 + 5) 0 [(0, .ref 70), (1, .int v0), (2, .int v1), (3, .int v2)] [] G U = qm_run pm_m big m_158 n0 7 [(0, .ref 70), (1, .int v0), (2, .int v1), (3, .int v2)] [.int ((G 70 15) + (2 : Int32)), .ref 70] G U := rfl
theorem sg_nm_77 (big : Nat → List Value → qM → qW → qR) (n0 : Nat) (G : qM) (U : qW) (v0 : Int32) (v1 : Int32) (v2 : Int32) (v3 : Int32) : qm_run pm_m big m_158 (n0 + 1) 10 [(0, .ref 70), (1, .int v0), (2, .int v1), (3, .int v2)] [.int v3] G U = qm_run pm_m big m_158 n0 11 [(0, .ref 70), (1, .int v0), (2, .int v1), (3, .int v2)] [.int v0, .int v3] G U := rfl
theorem sg_nm_78 (big : Nat → List Value → qM → qW → qR) (n0 : Nat) (G : qM) (U : qW) (v0 : Int32) (v1 : Int32) (v2 : Int32) : qm_run pm_m big m_158 (n0 + 5) 14 [(0, .ref 70), (1, .int v0), (2, .int v1), (3, .int v2)] [] G U = qm_run pm_m big m_158 n0 21 [(0, .ref 70), (1, .int v0), (2, .int v1), (3, .int v2)] [.int ((G 70 15) + (3 : Int32)), .ref 70] G U := rfl
theorem sg_nm_79 (big : Nat → List Value → qM → qW → qR) (n0 : Nat) (G : qM) (U : qW) (v0 : Int32) (v1 : Int32) (v2 : Int32) (v3 : Int32) : qm_run pm_m big m_158 (n0 + 1) 24 [(0, .ref 70), (1, .int v0), (2, .int v1), (3, .int v2)] [.int v3] G U = qm_run pm_m big m_158 n0 25 [(0, .ref 70), (1, .int v0), (2, .int v1), (3, .int v2)] [.int v1, .int v3] G U := rfl
theorem sg_nm_80 (big : Nat → List Value → qM → qW → qR) (n0 : Nat) (G : qM) (U : qW) (v0 : Int32) (v1 : Int32) (v2 : Int32) : qm_run pm_m big m_158 (n0 + 1) 28 [(0, .ref 70), (1, .int v0), (2, .int v1), (3, .int v2)] [] G U = qm_run pm_m big m_158 n0 29 [(0, .ref 70), (1, .int v0), (2, .int v1), (3, .int v2)] [.int v2] G U := rfl
theorem sg_nm_81 (big : Nat → List Value → qM → qW → qR) (n0 : Nat) (G : qM) (U : qW) (v0 : Int32) (v1 : Int32) (v2 : Int32) : qm_run pm_m big m_158 (n0 + 5) 32 [(0, .ref 70), (1, .int v0), (2, .int v1), (3, .int v2)] [] G U = qm_run pm_m big m_158 n0 39 [(0, .ref 70), (1, .int v0), (2, .int v1), (3, .int v2)] [.int ((G 70 15) + (4 : Int32)), .ref 70] G U := rfl
theorem sg_nm_82 (big : Nat → List Value → qM → qW → qR) (n0 : Nat) (G : qM) (U : qW) (v0 : Int32) (v1 : Int32) (v2 : Int32) (v3 : Int32) : qm_run pm_m big m_158 (n0 + 1) 42 [(0, .ref 70), (1, .int v0), (2, .int v1), (3, .int v2)] [.int v3] G U = qm_run pm_m big m_158 n0 43 [(0, .ref 70), (1, .int v0), (2, .int v1), (3, .int v2)] [.int v2, .int v3] G U := rfl
theorem sg_nm_83 (big : Nat → List Value → qM → qW → qR) (n0 : Nat) (G : qM) (U : qW) : qm_run pm_m big m_156 (n0 + 4) 0 [(0, .ref 70)] [] G U = qm_run pm_m big m_156 n0 6 [(0, .ref 70)] [.int (111 : Int32), .int (116 : Int32), .int (4 : Int32), .ref 70] G U := rfl
theorem sg_nm_84 (big : Nat → List Value → qM → qW → qR) (n0 : Nat) (G : qM) (U : qW) : qm_run pm_m big m_156 (n0 + 4) 26 [(0, .ref 70)] [] G U = qm_run pm_m big m_156 n0 32 [(0, .ref 70)] [.int (117 : Int32), .int (112 : Int32), .int (4 : Int32), .ref 70] G U := rfl
theorem sg_nm_85 (big : Nat → List Value → qM → qW → qR) (n0 : Nat) (G : qM) (U : qW) : qm_run pm_m big m_156 (n0 + 4) 52 [(0, .ref 70)] [] G U = qm_run pm_m big m_156 n0 58 [(0, .ref 70)] [.int (114 : Int32), .int (112 : Int32), .int (5 : Int32), .ref 70] G U := rfl
theorem sg_nm_86 (big : Nat → List Value → qM → qW → qR) (n0 : Nat) (G : qM) (U : qW) : qm_run pm_m big m_156 (n0 + 4) 79 [(0, .ref 70)] [] G U = qm_run pm_m big m_156 n0 85 [(0, .ref 70)] [.int (97 : Int32), .int (119 : Int32), .int (4 : Int32), .ref 70] G U := rfl
theorem sg_nm_87 (big : Nat → List Value → qM → qW → qR) (n0 : Nat) (G : qM) (U : qW) : qm_run pm_m big m_156 (n0 + 4) 105 [(0, .ref 70)] [] G U = qm_run pm_m big m_156 n0 111 [(0, .ref 70)] [.int (116 : Int32), .int (97 : Int32), .int (2 : Int32), .ref 70] G U := rfl
theorem sg_nm_88 (big : Nat → List Value → qM → qW → qR) (n0 : Nat) (G : qM) (U : qW) : qm_run pm_m big m_156 (n0 + 4) 119 [(0, .ref 70)] [] G U = qm_run pm_m big m_156 n0 125 [(0, .ref 70)] [.int (116 : Int32), .int (115 : Int32), .int (5 : Int32), .ref 70] G U := rfl
theorem sg_nm_89 (big : Nat → List Value → qM → qW → qR) (n0 : Nat) (G : qM) (U : qW) : qm_run pm_m big m_156 (n0 + 4) 148 [(0, .ref 70)] [] G U = qm_run pm_m big m_156 n0 154 [(0, .ref 70)] [.int (111 : Int32), .int (103 : Int32), .int (4 : Int32), .ref 70] G U := rfl
theorem sg_nm_90 (big : Nat → List Value → qM → qW → qR) (n0 : Nat) (G : qM) (U : qW) : qm_run pm_m big m_156 (n0 + 4) 160 [(0, .ref 70)] [] G U = qm_run pm_m big m_156 n0 166 [(0, .ref 70)] [.int (0 : Int32), .int (108 : Int32), .int (97 : Int32), .ref 70] G U := rfl
theorem sg_nm_91 (big : Nat → List Value → qM → qW → qR) (n0 : Nat) (G : qM) (U : qW) : qm_run pm_m big m_156 (n0 + 4) 131 [(0, .ref 70)] [] G U = qm_run pm_m big m_156 n0 138 [(0, .ref 70)] [.int (108 : Int32), .int (108 : Int32), .int (105 : Int32), .ref 70] G U := rfl
theorem sg_nm_92 (big : Nat → List Value → qM → qW → qR) (n0 : Nat) (G : qM) (U : qW) : qm_run pm_m big m_156 (n0 + 4) 91 [(0, .ref 70)] [] G U = qm_run pm_m big m_156 n0 97 [(0, .ref 70)] [.int (0 : Int32), .int (108 : Int32), .int (108 : Int32), .ref 70] G U := rfl
theorem sg_nm_93 (big : Nat → List Value → qM → qW → qR) (n0 : Nat) (G : qM) (U : qW) : qm_run pm_m big m_156 (n0 + 4) 64 [(0, .ref 70)] [] G U = qm_run pm_m big m_156 n0 71 [(0, .ref 70)] [.int (115 : Int32), .int (115 : Int32), .int (101 : Int32), .ref 70] G U := rfl
theorem sg_nm_94 (big : Nat → List Value → qM → qW → qR) (n0 : Nat) (G : qM) (U : qW) : qm_run pm_m big m_156 (n0 + 4) 38 [(0, .ref 70)] [] G U = qm_run pm_m big m_156 n0 44 [(0, .ref 70)] [.int (0 : Int32), .int (108 : Int32), .int (108 : Int32), .ref 70] G U := rfl
theorem sg_nm_95 (big : Nat → List Value → qM → qW → qR) (n0 : Nat) (G : qM) (U : qW) : qm_run pm_m big m_156 (n0 + 4) 12 [(0, .ref 70)] [] G U = qm_run pm_m big m_156 n0 18 [(0, .ref 70)] [.int (0 : Int32), .int (110 : Int32), .int (119 : Int32), .ref 70] G U := rfl
theorem c_isn0 {f e : Nat} (g : qM) (u : qW) (hf : g 9 3 = Int32.ofNat f) (hp : g 9 5 = Int32.ofNat e) (hle : f ≤ e) (he : e ≤ 160) : q_BS 21 [.ref 9, .ref 1] g u (some (.int (if g 9 2 = 1 then t_is (g 10) f (e - f) (t_nm 0) else 0)), g, u) := by
  refine q_bx (mm := m_21) rfl (Nat.le_of_ble_eq_true rfl) rfl ?_
  refine q_step 3 5 [(0, .ref 9), (1, .ref 1)] [.int (1 : Int32), .int (g 9 2)] g u (fun big n0 => sg_nm_1 big n0 g u) ?_
  refine q_ic_ne rfl (fun (hc0 : (g 9 2) = (1 : Int32)) => ?_) (fun (hc0 : ¬ ((g 9 2) = (1 : Int32))) => ?_)
  · refine q_step 7 21 [(0, .ref 9), (1, .ref 1)] [.int (4 : Int32), .int ((g 9 5) - (g 9 3))] g u (fun big n0 => sg_nm_2 big n0 g u) ?_
    refine q_ic_eq rfl (fun (hc1 : ((g 9 5) - (g 9 3)) = (4 : Int32)) => ?_) (fun (hc1 : ¬ (((g 9 5) - (g 9 3)) = (4 : Int32))) => ?_)
    · refine q_step 12 46 [(0, .ref 9), (1, .ref 1), (2, .int (0 : Int32))] [.int ((g 9 3) + (0 : Int32)), .ref 10] g u (fun big n0 => sg_nm_3 big n0 g u) ?_
      refine q_bald (j := (f + 0)) (by have z := hc1; rw [hp, hf, q_sb (by omega) hle, show (4 : Int32) = Int32.ofNat 4 from rfl, q_eq (by omega) (by omega)] at z; rw [hf, show (0 : Int32) = Int32.ofNat 0 from rfl, q_add]; exact q_ixn (by omega) (by omega)) rfl (by decide) rfl ?_
      refine q_step 3 52 [(0, .ref 9), (1, .ref 1), (2, .int (0 : Int32))] [.int (116 : Int32), .int (g 10 (f + 0))] g u (fun big n0 => sg_nm_4 big n0 g u (g 10 (f + 0))) ?_
      refine q_ic_eq rfl (fun (hc2 : (g 10 (f + 0)) = (116 : Int32)) => ?_) (fun (hc2 : ¬ ((g 10 (f + 0)) = (116 : Int32))) => ?_)
      · refine q_step 12 46 [(0, .ref 9), (1, .ref 1), (2, .int (1 : Int32))] [.int ((g 9 3) + (1 : Int32)), .ref 10] g u (fun big n0 => sg_nm_5 big n0 g u) ?_
        refine q_bald (j := (f + 1)) (by have z := hc1; rw [hp, hf, q_sb (by omega) hle, show (4 : Int32) = Int32.ofNat 4 from rfl, q_eq (by omega) (by omega)] at z; rw [hf, show (1 : Int32) = Int32.ofNat 1 from rfl, q_add]; exact q_ixn (by omega) (by omega)) rfl (by decide) rfl ?_
        refine q_step 3 52 [(0, .ref 9), (1, .ref 1), (2, .int (1 : Int32))] [.int (111 : Int32), .int (g 10 (f + 1))] g u (fun big n0 => sg_nm_6 big n0 g u (g 10 (f + 1))) ?_
        refine q_ic_eq rfl (fun (hc3 : (g 10 (f + 1)) = (111 : Int32)) => ?_) (fun (hc3 : ¬ ((g 10 (f + 1)) = (111 : Int32))) => ?_)
        · refine q_step 12 46 [(0, .ref 9), (1, .ref 1), (2, .int (2 : Int32))] [.int ((g 9 3) + (2 : Int32)), .ref 10] g u (fun big n0 => sg_nm_7 big n0 g u) ?_
          refine q_bald (j := (f + 2)) (by have z := hc1; rw [hp, hf, q_sb (by omega) hle, show (4 : Int32) = Int32.ofNat 4 from rfl, q_eq (by omega) (by omega)] at z; rw [hf, show (2 : Int32) = Int32.ofNat 2 from rfl, q_add]; exact q_ixn (by omega) (by omega)) rfl (by decide) rfl ?_
          refine q_step 3 52 [(0, .ref 9), (1, .ref 1), (2, .int (2 : Int32))] [.int (119 : Int32), .int (g 10 (f + 2))] g u (fun big n0 => sg_nm_8 big n0 g u (g 10 (f + 2))) ?_
          refine q_ic_eq rfl (fun (hc4 : (g 10 (f + 2)) = (119 : Int32)) => ?_) (fun (hc4 : ¬ ((g 10 (f + 2)) = (119 : Int32))) => ?_)
          · refine q_step 12 46 [(0, .ref 9), (1, .ref 1), (2, .int (3 : Int32))] [.int ((g 9 3) + (3 : Int32)), .ref 10] g u (fun big n0 => sg_nm_9 big n0 g u) ?_
            refine q_bald (j := (f + 3)) (by have z := hc1; rw [hp, hf, q_sb (by omega) hle, show (4 : Int32) = Int32.ofNat 4 from rfl, q_eq (by omega) (by omega)] at z; rw [hf, show (3 : Int32) = Int32.ofNat 3 from rfl, q_add]; exact q_ixn (by omega) (by omega)) rfl (by decide) rfl ?_
            refine q_step 3 52 [(0, .ref 9), (1, .ref 1), (2, .int (3 : Int32))] [.int (110 : Int32), .int (g 10 (f + 3))] g u (fun big n0 => sg_nm_10 big n0 g u (g 10 (f + 3))) ?_
            refine q_ic_eq rfl (fun (hc5 : (g 10 (f + 3)) = (110 : Int32)) => ?_) (fun (hc5 : ¬ ((g 10 (f + 3)) = (110 : Int32))) => ?_)
            · refine q_ret 8 (some (.int (1 : Int32)), g, u) (fun _ _ => rfl) ?_
              rw [if_pos hc0]
              have zl := hc1
              rw [hp, hf, q_sb (by omega) hle, show (4 : Int32) = Int32.ofNat 4 from rfl, q_eq (by omega) (by omega)] at zl
              unfold t_is
              rw [if_pos (show e - f = (t_nm 0).length from zl)]
              simp only [t_nm, t_eq, Nat.add_assoc, Nat.reduceAdd]
              rw [if_pos (show (g 10 f) = (116 : Int32) from hc2), if_pos (show (g 10 (f + 1)) = (111 : Int32) from hc3), if_pos (show (g 10 (f + 2)) = (119 : Int32) from hc4), if_pos (show (g 10 (f + 3)) = (110 : Int32) from hc5)]
            · refine q_ret 2 (some (.int (0 : Int32)), g, u) (fun _ _ => rfl) ?_
              rw [if_pos hc0]
              have zl := hc1
              rw [hp, hf, q_sb (by omega) hle, show (4 : Int32) = Int32.ofNat 4 from rfl, q_eq (by omega) (by omega)] at zl
              unfold t_is
              rw [if_pos (show e - f = (t_nm 0).length from zl)]
              simp only [t_nm, t_eq, Nat.add_assoc, Nat.reduceAdd]
              rw [if_pos (show (g 10 f) = (116 : Int32) from hc2), if_pos (show (g 10 (f + 1)) = (111 : Int32) from hc3), if_pos (show (g 10 (f + 2)) = (119 : Int32) from hc4), if_neg (show ¬ (g 10 (f + 3)) = (110 : Int32) from hc5)]
          · refine q_ret 2 (some (.int (0 : Int32)), g, u) (fun _ _ => rfl) ?_
            rw [if_pos hc0]
            have zl := hc1
            rw [hp, hf, q_sb (by omega) hle, show (4 : Int32) = Int32.ofNat 4 from rfl, q_eq (by omega) (by omega)] at zl
            unfold t_is
            rw [if_pos (show e - f = (t_nm 0).length from zl)]
            simp only [t_nm, t_eq, Nat.add_assoc, Nat.reduceAdd]
            rw [if_pos (show (g 10 f) = (116 : Int32) from hc2), if_pos (show (g 10 (f + 1)) = (111 : Int32) from hc3), if_neg (show ¬ (g 10 (f + 2)) = (119 : Int32) from hc4)]
        · refine q_ret 2 (some (.int (0 : Int32)), g, u) (fun _ _ => rfl) ?_
          rw [if_pos hc0]
          have zl := hc1
          rw [hp, hf, q_sb (by omega) hle, show (4 : Int32) = Int32.ofNat 4 from rfl, q_eq (by omega) (by omega)] at zl
          unfold t_is
          rw [if_pos (show e - f = (t_nm 0).length from zl)]
          simp only [t_nm, t_eq, Nat.add_assoc, Nat.reduceAdd]
          rw [if_pos (show (g 10 f) = (116 : Int32) from hc2), if_neg (show ¬ (g 10 (f + 1)) = (111 : Int32) from hc3)]
      · refine q_ret 2 (some (.int (0 : Int32)), g, u) (fun _ _ => rfl) ?_
        rw [if_pos hc0]
        have zl := hc1
        rw [hp, hf, q_sb (by omega) hle, show (4 : Int32) = Int32.ofNat 4 from rfl, q_eq (by omega) (by omega)] at zl
        unfold t_is
        rw [if_pos (show e - f = (t_nm 0).length from zl)]
        simp only [t_nm, t_eq, Nat.add_assoc, Nat.reduceAdd]
        rw [if_neg (show ¬ (g 10 f) = (116 : Int32) from hc2)]
    · refine q_ret 2 (some (.int (0 : Int32)), g, u) (fun _ _ => rfl) ?_
      rw [if_pos hc0]
      have zl := hc1
      rw [hp, hf, q_sb (by omega) hle, show (4 : Int32) = Int32.ofNat 4 from rfl, q_eq (by omega) (by omega)] at zl
      unfold t_is
      rw [if_neg (show ¬ e - f = (t_nm 0).length from zl)]
  · refine q_ret 2 (some (.int (0 : Int32)), g, u) (fun _ _ => rfl) ?_
    rw [if_neg hc0]
theorem c_isn3 {f e : Nat} (g : qM) (u : qW) (hf : g 9 3 = Int32.ofNat f) (hp : g 9 5 = Int32.ofNat e) (hle : f ≤ e) (he : e ≤ 160) : q_BS 21 [.ref 9, .ref 2] g u (some (.int (if g 9 2 = 1 then t_is (g 10) f (e - f) (t_nm 3) else 0)), g, u) := by
  refine q_bx (mm := m_21) rfl (Nat.le_of_ble_eq_true rfl) rfl ?_
  refine q_step 3 5 [(0, .ref 9), (1, .ref 2)] [.int (1 : Int32), .int (g 9 2)] g u (fun big n0 => sg_nm_11 big n0 g u) ?_
  refine q_ic_ne rfl (fun (hc0 : (g 9 2) = (1 : Int32)) => ?_) (fun (hc0 : ¬ ((g 9 2) = (1 : Int32))) => ?_)
  · refine q_step 7 21 [(0, .ref 9), (1, .ref 2)] [.int (4 : Int32), .int ((g 9 5) - (g 9 3))] g u (fun big n0 => sg_nm_12 big n0 g u) ?_
    refine q_ic_eq rfl (fun (hc1 : ((g 9 5) - (g 9 3)) = (4 : Int32)) => ?_) (fun (hc1 : ¬ (((g 9 5) - (g 9 3)) = (4 : Int32))) => ?_)
    · refine q_step 12 46 [(0, .ref 9), (1, .ref 2), (2, .int (0 : Int32))] [.int ((g 9 3) + (0 : Int32)), .ref 10] g u (fun big n0 => sg_nm_13 big n0 g u) ?_
      refine q_bald (j := (f + 0)) (by have z := hc1; rw [hp, hf, q_sb (by omega) hle, show (4 : Int32) = Int32.ofNat 4 from rfl, q_eq (by omega) (by omega)] at z; rw [hf, show (0 : Int32) = Int32.ofNat 0 from rfl, q_add]; exact q_ixn (by omega) (by omega)) rfl (by decide) rfl ?_
      refine q_step 3 52 [(0, .ref 9), (1, .ref 2), (2, .int (0 : Int32))] [.int (119 : Int32), .int (g 10 (f + 0))] g u (fun big n0 => sg_nm_14 big n0 g u (g 10 (f + 0))) ?_
      refine q_ic_eq rfl (fun (hc2 : (g 10 (f + 0)) = (119 : Int32)) => ?_) (fun (hc2 : ¬ ((g 10 (f + 0)) = (119 : Int32))) => ?_)
      · refine q_step 12 46 [(0, .ref 9), (1, .ref 2), (2, .int (1 : Int32))] [.int ((g 9 3) + (1 : Int32)), .ref 10] g u (fun big n0 => sg_nm_15 big n0 g u) ?_
        refine q_bald (j := (f + 1)) (by have z := hc1; rw [hp, hf, q_sb (by omega) hle, show (4 : Int32) = Int32.ofNat 4 from rfl, q_eq (by omega) (by omega)] at z; rw [hf, show (1 : Int32) = Int32.ofNat 1 from rfl, q_add]; exact q_ixn (by omega) (by omega)) rfl (by decide) rfl ?_
        refine q_step 3 52 [(0, .ref 9), (1, .ref 2), (2, .int (1 : Int32))] [.int (97 : Int32), .int (g 10 (f + 1))] g u (fun big n0 => sg_nm_16 big n0 g u (g 10 (f + 1))) ?_
        refine q_ic_eq rfl (fun (hc3 : (g 10 (f + 1)) = (97 : Int32)) => ?_) (fun (hc3 : ¬ ((g 10 (f + 1)) = (97 : Int32))) => ?_)
        · refine q_step 12 46 [(0, .ref 9), (1, .ref 2), (2, .int (2 : Int32))] [.int ((g 9 3) + (2 : Int32)), .ref 10] g u (fun big n0 => sg_nm_17 big n0 g u) ?_
          refine q_bald (j := (f + 2)) (by have z := hc1; rw [hp, hf, q_sb (by omega) hle, show (4 : Int32) = Int32.ofNat 4 from rfl, q_eq (by omega) (by omega)] at z; rw [hf, show (2 : Int32) = Int32.ofNat 2 from rfl, q_add]; exact q_ixn (by omega) (by omega)) rfl (by decide) rfl ?_
          refine q_step 3 52 [(0, .ref 9), (1, .ref 2), (2, .int (2 : Int32))] [.int (108 : Int32), .int (g 10 (f + 2))] g u (fun big n0 => sg_nm_18 big n0 g u (g 10 (f + 2))) ?_
          refine q_ic_eq rfl (fun (hc4 : (g 10 (f + 2)) = (108 : Int32)) => ?_) (fun (hc4 : ¬ ((g 10 (f + 2)) = (108 : Int32))) => ?_)
          · refine q_step 12 46 [(0, .ref 9), (1, .ref 2), (2, .int (3 : Int32))] [.int ((g 9 3) + (3 : Int32)), .ref 10] g u (fun big n0 => sg_nm_19 big n0 g u) ?_
            refine q_bald (j := (f + 3)) (by have z := hc1; rw [hp, hf, q_sb (by omega) hle, show (4 : Int32) = Int32.ofNat 4 from rfl, q_eq (by omega) (by omega)] at z; rw [hf, show (3 : Int32) = Int32.ofNat 3 from rfl, q_add]; exact q_ixn (by omega) (by omega)) rfl (by decide) rfl ?_
            refine q_step 3 52 [(0, .ref 9), (1, .ref 2), (2, .int (3 : Int32))] [.int (108 : Int32), .int (g 10 (f + 3))] g u (fun big n0 => sg_nm_20 big n0 g u (g 10 (f + 3))) ?_
            refine q_ic_eq rfl (fun (hc5 : (g 10 (f + 3)) = (108 : Int32)) => ?_) (fun (hc5 : ¬ ((g 10 (f + 3)) = (108 : Int32))) => ?_)
            · refine q_ret 8 (some (.int (1 : Int32)), g, u) (fun _ _ => rfl) ?_
              rw [if_pos hc0]
              have zl := hc1
              rw [hp, hf, q_sb (by omega) hle, show (4 : Int32) = Int32.ofNat 4 from rfl, q_eq (by omega) (by omega)] at zl
              unfold t_is
              rw [if_pos (show e - f = (t_nm 3).length from zl)]
              simp only [t_nm, t_eq, Nat.add_assoc, Nat.reduceAdd]
              rw [if_pos (show (g 10 f) = (119 : Int32) from hc2), if_pos (show (g 10 (f + 1)) = (97 : Int32) from hc3), if_pos (show (g 10 (f + 2)) = (108 : Int32) from hc4), if_pos (show (g 10 (f + 3)) = (108 : Int32) from hc5)]
            · refine q_ret 2 (some (.int (0 : Int32)), g, u) (fun _ _ => rfl) ?_
              rw [if_pos hc0]
              have zl := hc1
              rw [hp, hf, q_sb (by omega) hle, show (4 : Int32) = Int32.ofNat 4 from rfl, q_eq (by omega) (by omega)] at zl
              unfold t_is
              rw [if_pos (show e - f = (t_nm 3).length from zl)]
              simp only [t_nm, t_eq, Nat.add_assoc, Nat.reduceAdd]
              rw [if_pos (show (g 10 f) = (119 : Int32) from hc2), if_pos (show (g 10 (f + 1)) = (97 : Int32) from hc3), if_pos (show (g 10 (f + 2)) = (108 : Int32) from hc4), if_neg (show ¬ (g 10 (f + 3)) = (108 : Int32) from hc5)]
          · refine q_ret 2 (some (.int (0 : Int32)), g, u) (fun _ _ => rfl) ?_
            rw [if_pos hc0]
            have zl := hc1
            rw [hp, hf, q_sb (by omega) hle, show (4 : Int32) = Int32.ofNat 4 from rfl, q_eq (by omega) (by omega)] at zl
            unfold t_is
            rw [if_pos (show e - f = (t_nm 3).length from zl)]
            simp only [t_nm, t_eq, Nat.add_assoc, Nat.reduceAdd]
            rw [if_pos (show (g 10 f) = (119 : Int32) from hc2), if_pos (show (g 10 (f + 1)) = (97 : Int32) from hc3), if_neg (show ¬ (g 10 (f + 2)) = (108 : Int32) from hc4)]
        · refine q_ret 2 (some (.int (0 : Int32)), g, u) (fun _ _ => rfl) ?_
          rw [if_pos hc0]
          have zl := hc1
          rw [hp, hf, q_sb (by omega) hle, show (4 : Int32) = Int32.ofNat 4 from rfl, q_eq (by omega) (by omega)] at zl
          unfold t_is
          rw [if_pos (show e - f = (t_nm 3).length from zl)]
          simp only [t_nm, t_eq, Nat.add_assoc, Nat.reduceAdd]
          rw [if_pos (show (g 10 f) = (119 : Int32) from hc2), if_neg (show ¬ (g 10 (f + 1)) = (97 : Int32) from hc3)]
      · refine q_ret 2 (some (.int (0 : Int32)), g, u) (fun _ _ => rfl) ?_
        rw [if_pos hc0]
        have zl := hc1
        rw [hp, hf, q_sb (by omega) hle, show (4 : Int32) = Int32.ofNat 4 from rfl, q_eq (by omega) (by omega)] at zl
        unfold t_is
        rw [if_pos (show e - f = (t_nm 3).length from zl)]
        simp only [t_nm, t_eq, Nat.add_assoc, Nat.reduceAdd]
        rw [if_neg (show ¬ (g 10 f) = (119 : Int32) from hc2)]
    · refine q_ret 2 (some (.int (0 : Int32)), g, u) (fun _ _ => rfl) ?_
      rw [if_pos hc0]
      have zl := hc1
      rw [hp, hf, q_sb (by omega) hle, show (4 : Int32) = Int32.ofNat 4 from rfl, q_eq (by omega) (by omega)] at zl
      unfold t_is
      rw [if_neg (show ¬ e - f = (t_nm 3).length from zl)]
  · refine q_ret 2 (some (.int (0 : Int32)), g, u) (fun _ _ => rfl) ?_
    rw [if_neg hc0]
theorem c_isn4 {f e : Nat} (g : qM) (u : qW) (hf : g 9 3 = Int32.ofNat f) (hp : g 9 5 = Int32.ofNat e) (hle : f ≤ e) (he : e ≤ 160) : q_BS 21 [.ref 9, .ref 3] g u (some (.int (if g 9 2 = 1 then t_is (g 10) f (e - f) (t_nm 4) else 0)), g, u) := by
  refine q_bx (mm := m_21) rfl (Nat.le_of_ble_eq_true rfl) rfl ?_
  refine q_step 3 5 [(0, .ref 9), (1, .ref 3)] [.int (1 : Int32), .int (g 9 2)] g u (fun big n0 => sg_nm_21 big n0 g u) ?_
  refine q_ic_ne rfl (fun (hc0 : (g 9 2) = (1 : Int32)) => ?_) (fun (hc0 : ¬ ((g 9 2) = (1 : Int32))) => ?_)
  · refine q_step 7 21 [(0, .ref 9), (1, .ref 3)] [.int (2 : Int32), .int ((g 9 5) - (g 9 3))] g u (fun big n0 => sg_nm_22 big n0 g u) ?_
    refine q_ic_eq rfl (fun (hc1 : ((g 9 5) - (g 9 3)) = (2 : Int32)) => ?_) (fun (hc1 : ¬ (((g 9 5) - (g 9 3)) = (2 : Int32))) => ?_)
    · refine q_step 12 46 [(0, .ref 9), (1, .ref 3), (2, .int (0 : Int32))] [.int ((g 9 3) + (0 : Int32)), .ref 10] g u (fun big n0 => sg_nm_23 big n0 g u) ?_
      refine q_bald (j := (f + 0)) (by have z := hc1; rw [hp, hf, q_sb (by omega) hle, show (2 : Int32) = Int32.ofNat 2 from rfl, q_eq (by omega) (by omega)] at z; rw [hf, show (0 : Int32) = Int32.ofNat 0 from rfl, q_add]; exact q_ixn (by omega) (by omega)) rfl (by decide) rfl ?_
      refine q_step 3 52 [(0, .ref 9), (1, .ref 3), (2, .int (0 : Int32))] [.int (97 : Int32), .int (g 10 (f + 0))] g u (fun big n0 => sg_nm_24 big n0 g u (g 10 (f + 0))) ?_
      refine q_ic_eq rfl (fun (hc2 : (g 10 (f + 0)) = (97 : Int32)) => ?_) (fun (hc2 : ¬ ((g 10 (f + 0)) = (97 : Int32))) => ?_)
      · refine q_step 12 46 [(0, .ref 9), (1, .ref 3), (2, .int (1 : Int32))] [.int ((g 9 3) + (1 : Int32)), .ref 10] g u (fun big n0 => sg_nm_25 big n0 g u) ?_
        refine q_bald (j := (f + 1)) (by have z := hc1; rw [hp, hf, q_sb (by omega) hle, show (2 : Int32) = Int32.ofNat 2 from rfl, q_eq (by omega) (by omega)] at z; rw [hf, show (1 : Int32) = Int32.ofNat 1 from rfl, q_add]; exact q_ixn (by omega) (by omega)) rfl (by decide) rfl ?_
        refine q_step 3 52 [(0, .ref 9), (1, .ref 3), (2, .int (1 : Int32))] [.int (116 : Int32), .int (g 10 (f + 1))] g u (fun big n0 => sg_nm_26 big n0 g u (g 10 (f + 1))) ?_
        refine q_ic_eq rfl (fun (hc3 : (g 10 (f + 1)) = (116 : Int32)) => ?_) (fun (hc3 : ¬ ((g 10 (f + 1)) = (116 : Int32))) => ?_)
        · refine q_ret 8 (some (.int (1 : Int32)), g, u) (fun _ _ => rfl) ?_
          rw [if_pos hc0]
          have zl := hc1
          rw [hp, hf, q_sb (by omega) hle, show (2 : Int32) = Int32.ofNat 2 from rfl, q_eq (by omega) (by omega)] at zl
          unfold t_is
          rw [if_pos (show e - f = (t_nm 4).length from zl)]
          simp only [t_nm, t_eq, Nat.add_assoc, Nat.reduceAdd]
          rw [if_pos (show (g 10 f) = (97 : Int32) from hc2), if_pos (show (g 10 (f + 1)) = (116 : Int32) from hc3)]
        · refine q_ret 2 (some (.int (0 : Int32)), g, u) (fun _ _ => rfl) ?_
          rw [if_pos hc0]
          have zl := hc1
          rw [hp, hf, q_sb (by omega) hle, show (2 : Int32) = Int32.ofNat 2 from rfl, q_eq (by omega) (by omega)] at zl
          unfold t_is
          rw [if_pos (show e - f = (t_nm 4).length from zl)]
          simp only [t_nm, t_eq, Nat.add_assoc, Nat.reduceAdd]
          rw [if_pos (show (g 10 f) = (97 : Int32) from hc2), if_neg (show ¬ (g 10 (f + 1)) = (116 : Int32) from hc3)]
      · refine q_ret 2 (some (.int (0 : Int32)), g, u) (fun _ _ => rfl) ?_
        rw [if_pos hc0]
        have zl := hc1
        rw [hp, hf, q_sb (by omega) hle, show (2 : Int32) = Int32.ofNat 2 from rfl, q_eq (by omega) (by omega)] at zl
        unfold t_is
        rw [if_pos (show e - f = (t_nm 4).length from zl)]
        simp only [t_nm, t_eq, Nat.add_assoc, Nat.reduceAdd]
        rw [if_neg (show ¬ (g 10 f) = (97 : Int32) from hc2)]
    · refine q_ret 2 (some (.int (0 : Int32)), g, u) (fun _ _ => rfl) ?_
      rw [if_pos hc0]
      have zl := hc1
      rw [hp, hf, q_sb (by omega) hle, show (2 : Int32) = Int32.ofNat 2 from rfl, q_eq (by omega) (by omega)] at zl
      unfold t_is
      rw [if_neg (show ¬ e - f = (t_nm 4).length from zl)]
  · refine q_ret 2 (some (.int (0 : Int32)), g, u) (fun _ _ => rfl) ?_
    rw [if_neg hc0]
theorem c_isn5 {f e : Nat} (g : qM) (u : qW) (hf : g 9 3 = Int32.ofNat f) (hp : g 9 5 = Int32.ofNat e) (hle : f ≤ e) (he : e ≤ 160) : q_BS 21 [.ref 9, .ref 4] g u (some (.int (if g 9 2 = 1 then t_is (g 10) f (e - f) (t_nm 5) else 0)), g, u) := by
  refine q_bx (mm := m_21) rfl (Nat.le_of_ble_eq_true rfl) rfl ?_
  refine q_step 3 5 [(0, .ref 9), (1, .ref 4)] [.int (1 : Int32), .int (g 9 2)] g u (fun big n0 => sg_nm_27 big n0 g u) ?_
  refine q_ic_ne rfl (fun (hc0 : (g 9 2) = (1 : Int32)) => ?_) (fun (hc0 : ¬ ((g 9 2) = (1 : Int32))) => ?_)
  · refine q_step 7 21 [(0, .ref 9), (1, .ref 4)] [.int (5 : Int32), .int ((g 9 5) - (g 9 3))] g u (fun big n0 => sg_nm_28 big n0 g u) ?_
    refine q_ic_eq rfl (fun (hc1 : ((g 9 5) - (g 9 3)) = (5 : Int32)) => ?_) (fun (hc1 : ¬ (((g 9 5) - (g 9 3)) = (5 : Int32))) => ?_)
    · refine q_step 12 46 [(0, .ref 9), (1, .ref 4), (2, .int (0 : Int32))] [.int ((g 9 3) + (0 : Int32)), .ref 10] g u (fun big n0 => sg_nm_29 big n0 g u) ?_
      refine q_bald (j := (f + 0)) (by have z := hc1; rw [hp, hf, q_sb (by omega) hle, show (5 : Int32) = Int32.ofNat 5 from rfl, q_eq (by omega) (by omega)] at z; rw [hf, show (0 : Int32) = Int32.ofNat 0 from rfl, q_add]; exact q_ixn (by omega) (by omega)) rfl (by decide) rfl ?_
      refine q_step 3 52 [(0, .ref 9), (1, .ref 4), (2, .int (0 : Int32))] [.int (115 : Int32), .int (g 10 (f + 0))] g u (fun big n0 => sg_nm_30 big n0 g u (g 10 (f + 0))) ?_
      refine q_ic_eq rfl (fun (hc2 : (g 10 (f + 0)) = (115 : Int32)) => ?_) (fun (hc2 : ¬ ((g 10 (f + 0)) = (115 : Int32))) => ?_)
      · refine q_step 12 46 [(0, .ref 9), (1, .ref 4), (2, .int (1 : Int32))] [.int ((g 9 3) + (1 : Int32)), .ref 10] g u (fun big n0 => sg_nm_31 big n0 g u) ?_
        refine q_bald (j := (f + 1)) (by have z := hc1; rw [hp, hf, q_sb (by omega) hle, show (5 : Int32) = Int32.ofNat 5 from rfl, q_eq (by omega) (by omega)] at z; rw [hf, show (1 : Int32) = Int32.ofNat 1 from rfl, q_add]; exact q_ixn (by omega) (by omega)) rfl (by decide) rfl ?_
        refine q_step 3 52 [(0, .ref 9), (1, .ref 4), (2, .int (1 : Int32))] [.int (116 : Int32), .int (g 10 (f + 1))] g u (fun big n0 => sg_nm_32 big n0 g u (g 10 (f + 1))) ?_
        refine q_ic_eq rfl (fun (hc3 : (g 10 (f + 1)) = (116 : Int32)) => ?_) (fun (hc3 : ¬ ((g 10 (f + 1)) = (116 : Int32))) => ?_)
        · refine q_step 12 46 [(0, .ref 9), (1, .ref 4), (2, .int (2 : Int32))] [.int ((g 9 3) + (2 : Int32)), .ref 10] g u (fun big n0 => sg_nm_33 big n0 g u) ?_
          refine q_bald (j := (f + 2)) (by have z := hc1; rw [hp, hf, q_sb (by omega) hle, show (5 : Int32) = Int32.ofNat 5 from rfl, q_eq (by omega) (by omega)] at z; rw [hf, show (2 : Int32) = Int32.ofNat 2 from rfl, q_add]; exact q_ixn (by omega) (by omega)) rfl (by decide) rfl ?_
          refine q_step 3 52 [(0, .ref 9), (1, .ref 4), (2, .int (2 : Int32))] [.int (105 : Int32), .int (g 10 (f + 2))] g u (fun big n0 => sg_nm_34 big n0 g u (g 10 (f + 2))) ?_
          refine q_ic_eq rfl (fun (hc4 : (g 10 (f + 2)) = (105 : Int32)) => ?_) (fun (hc4 : ¬ ((g 10 (f + 2)) = (105 : Int32))) => ?_)
          · refine q_step 12 46 [(0, .ref 9), (1, .ref 4), (2, .int (3 : Int32))] [.int ((g 9 3) + (3 : Int32)), .ref 10] g u (fun big n0 => sg_nm_35 big n0 g u) ?_
            refine q_bald (j := (f + 3)) (by have z := hc1; rw [hp, hf, q_sb (by omega) hle, show (5 : Int32) = Int32.ofNat 5 from rfl, q_eq (by omega) (by omega)] at z; rw [hf, show (3 : Int32) = Int32.ofNat 3 from rfl, q_add]; exact q_ixn (by omega) (by omega)) rfl (by decide) rfl ?_
            refine q_step 3 52 [(0, .ref 9), (1, .ref 4), (2, .int (3 : Int32))] [.int (108 : Int32), .int (g 10 (f + 3))] g u (fun big n0 => sg_nm_36 big n0 g u (g 10 (f + 3))) ?_
            refine q_ic_eq rfl (fun (hc5 : (g 10 (f + 3)) = (108 : Int32)) => ?_) (fun (hc5 : ¬ ((g 10 (f + 3)) = (108 : Int32))) => ?_)
            · refine q_step 12 46 [(0, .ref 9), (1, .ref 4), (2, .int (4 : Int32))] [.int ((g 9 3) + (4 : Int32)), .ref 10] g u (fun big n0 => sg_nm_37 big n0 g u) ?_
              refine q_bald (j := (f + 4)) (by have z := hc1; rw [hp, hf, q_sb (by omega) hle, show (5 : Int32) = Int32.ofNat 5 from rfl, q_eq (by omega) (by omega)] at z; rw [hf, show (4 : Int32) = Int32.ofNat 4 from rfl, q_add]; exact q_ixn (by omega) (by omega)) rfl (by decide) rfl ?_
              refine q_step 3 52 [(0, .ref 9), (1, .ref 4), (2, .int (4 : Int32))] [.int (108 : Int32), .int (g 10 (f + 4))] g u (fun big n0 => sg_nm_38 big n0 g u (g 10 (f + 4))) ?_
              refine q_ic_eq rfl (fun (hc6 : (g 10 (f + 4)) = (108 : Int32)) => ?_) (fun (hc6 : ¬ ((g 10 (f + 4)) = (108 : Int32))) => ?_)
              · refine q_ret 8 (some (.int (1 : Int32)), g, u) (fun _ _ => rfl) ?_
                rw [if_pos hc0]
                have zl := hc1
                rw [hp, hf, q_sb (by omega) hle, show (5 : Int32) = Int32.ofNat 5 from rfl, q_eq (by omega) (by omega)] at zl
                unfold t_is
                rw [if_pos (show e - f = (t_nm 5).length from zl)]
                simp only [t_nm, t_eq, Nat.add_assoc, Nat.reduceAdd]
                rw [if_pos (show (g 10 f) = (115 : Int32) from hc2), if_pos (show (g 10 (f + 1)) = (116 : Int32) from hc3), if_pos (show (g 10 (f + 2)) = (105 : Int32) from hc4), if_pos (show (g 10 (f + 3)) = (108 : Int32) from hc5), if_pos (show (g 10 (f + 4)) = (108 : Int32) from hc6)]
              · refine q_ret 2 (some (.int (0 : Int32)), g, u) (fun _ _ => rfl) ?_
                rw [if_pos hc0]
                have zl := hc1
                rw [hp, hf, q_sb (by omega) hle, show (5 : Int32) = Int32.ofNat 5 from rfl, q_eq (by omega) (by omega)] at zl
                unfold t_is
                rw [if_pos (show e - f = (t_nm 5).length from zl)]
                simp only [t_nm, t_eq, Nat.add_assoc, Nat.reduceAdd]
                rw [if_pos (show (g 10 f) = (115 : Int32) from hc2), if_pos (show (g 10 (f + 1)) = (116 : Int32) from hc3), if_pos (show (g 10 (f + 2)) = (105 : Int32) from hc4), if_pos (show (g 10 (f + 3)) = (108 : Int32) from hc5), if_neg (show ¬ (g 10 (f + 4)) = (108 : Int32) from hc6)]
            · refine q_ret 2 (some (.int (0 : Int32)), g, u) (fun _ _ => rfl) ?_
              rw [if_pos hc0]
              have zl := hc1
              rw [hp, hf, q_sb (by omega) hle, show (5 : Int32) = Int32.ofNat 5 from rfl, q_eq (by omega) (by omega)] at zl
              unfold t_is
              rw [if_pos (show e - f = (t_nm 5).length from zl)]
              simp only [t_nm, t_eq, Nat.add_assoc, Nat.reduceAdd]
              rw [if_pos (show (g 10 f) = (115 : Int32) from hc2), if_pos (show (g 10 (f + 1)) = (116 : Int32) from hc3), if_pos (show (g 10 (f + 2)) = (105 : Int32) from hc4), if_neg (show ¬ (g 10 (f + 3)) = (108 : Int32) from hc5)]
          · refine q_ret 2 (some (.int (0 : Int32)), g, u) (fun _ _ => rfl) ?_
            rw [if_pos hc0]
            have zl := hc1
            rw [hp, hf, q_sb (by omega) hle, show (5 : Int32) = Int32.ofNat 5 from rfl, q_eq (by omega) (by omega)] at zl
            unfold t_is
            rw [if_pos (show e - f = (t_nm 5).length from zl)]
            simp only [t_nm, t_eq, Nat.add_assoc, Nat.reduceAdd]
            rw [if_pos (show (g 10 f) = (115 : Int32) from hc2), if_pos (show (g 10 (f + 1)) = (116 : Int32) from hc3), if_neg (show ¬ (g 10 (f + 2)) = (105 : Int32) from hc4)]
        · refine q_ret 2 (some (.int (0 : Int32)), g, u) (fun _ _ => rfl) ?_
          rw [if_pos hc0]
          have zl := hc1
          rw [hp, hf, q_sb (by omega) hle, show (5 : Int32) = Int32.ofNat 5 from rfl, q_eq (by omega) (by omega)] at zl
          unfold t_is
          rw [if_pos (show e - f = (t_nm 5).length from zl)]
          simp only [t_nm, t_eq, Nat.add_assoc, Nat.reduceAdd]
          rw [if_pos (show (g 10 f) = (115 : Int32) from hc2), if_neg (show ¬ (g 10 (f + 1)) = (116 : Int32) from hc3)]
      · refine q_ret 2 (some (.int (0 : Int32)), g, u) (fun _ _ => rfl) ?_
        rw [if_pos hc0]
        have zl := hc1
        rw [hp, hf, q_sb (by omega) hle, show (5 : Int32) = Int32.ofNat 5 from rfl, q_eq (by omega) (by omega)] at zl
        unfold t_is
        rw [if_pos (show e - f = (t_nm 5).length from zl)]
        simp only [t_nm, t_eq, Nat.add_assoc, Nat.reduceAdd]
        rw [if_neg (show ¬ (g 10 f) = (115 : Int32) from hc2)]
    · refine q_ret 2 (some (.int (0 : Int32)), g, u) (fun _ _ => rfl) ?_
      rw [if_pos hc0]
      have zl := hc1
      rw [hp, hf, q_sb (by omega) hle, show (5 : Int32) = Int32.ofNat 5 from rfl, q_eq (by omega) (by omega)] at zl
      unfold t_is
      rw [if_neg (show ¬ e - f = (t_nm 5).length from zl)]
  · refine q_ret 2 (some (.int (0 : Int32)), g, u) (fun _ _ => rfl) ?_
    rw [if_neg hc0]
theorem c_isn1 {f e : Nat} (g : qM) (u : qW) (hf : g 9 3 = Int32.ofNat f) (hp : g 9 5 = Int32.ofNat e) (hle : f ≤ e) (he : e ≤ 160) : q_BS 21 [.ref 9, .ref 5] g u (some (.int (if g 9 2 = 1 then t_is (g 10) f (e - f) (t_nm 1) else 0)), g, u) := by
  refine q_bx (mm := m_21) rfl (Nat.le_of_ble_eq_true rfl) rfl ?_
  refine q_step 3 5 [(0, .ref 9), (1, .ref 5)] [.int (1 : Int32), .int (g 9 2)] g u (fun big n0 => sg_nm_39 big n0 g u) ?_
  refine q_ic_ne rfl (fun (hc0 : (g 9 2) = (1 : Int32)) => ?_) (fun (hc0 : ¬ ((g 9 2) = (1 : Int32))) => ?_)
  · refine q_step 7 21 [(0, .ref 9), (1, .ref 5)] [.int (4 : Int32), .int ((g 9 5) - (g 9 3))] g u (fun big n0 => sg_nm_40 big n0 g u) ?_
    refine q_ic_eq rfl (fun (hc1 : ((g 9 5) - (g 9 3)) = (4 : Int32)) => ?_) (fun (hc1 : ¬ (((g 9 5) - (g 9 3)) = (4 : Int32))) => ?_)
    · refine q_step 12 46 [(0, .ref 9), (1, .ref 5), (2, .int (0 : Int32))] [.int ((g 9 3) + (0 : Int32)), .ref 10] g u (fun big n0 => sg_nm_41 big n0 g u) ?_
      refine q_bald (j := (f + 0)) (by have z := hc1; rw [hp, hf, q_sb (by omega) hle, show (4 : Int32) = Int32.ofNat 4 from rfl, q_eq (by omega) (by omega)] at z; rw [hf, show (0 : Int32) = Int32.ofNat 0 from rfl, q_add]; exact q_ixn (by omega) (by omega)) rfl (by decide) rfl ?_
      refine q_step 3 52 [(0, .ref 9), (1, .ref 5), (2, .int (0 : Int32))] [.int (112 : Int32), .int (g 10 (f + 0))] g u (fun big n0 => sg_nm_42 big n0 g u (g 10 (f + 0))) ?_
      refine q_ic_eq rfl (fun (hc2 : (g 10 (f + 0)) = (112 : Int32)) => ?_) (fun (hc2 : ¬ ((g 10 (f + 0)) = (112 : Int32))) => ?_)
      · refine q_step 12 46 [(0, .ref 9), (1, .ref 5), (2, .int (1 : Int32))] [.int ((g 9 3) + (1 : Int32)), .ref 10] g u (fun big n0 => sg_nm_43 big n0 g u) ?_
        refine q_bald (j := (f + 1)) (by have z := hc1; rw [hp, hf, q_sb (by omega) hle, show (4 : Int32) = Int32.ofNat 4 from rfl, q_eq (by omega) (by omega)] at z; rw [hf, show (1 : Int32) = Int32.ofNat 1 from rfl, q_add]; exact q_ixn (by omega) (by omega)) rfl (by decide) rfl ?_
        refine q_step 3 52 [(0, .ref 9), (1, .ref 5), (2, .int (1 : Int32))] [.int (117 : Int32), .int (g 10 (f + 1))] g u (fun big n0 => sg_nm_44 big n0 g u (g 10 (f + 1))) ?_
        refine q_ic_eq rfl (fun (hc3 : (g 10 (f + 1)) = (117 : Int32)) => ?_) (fun (hc3 : ¬ ((g 10 (f + 1)) = (117 : Int32))) => ?_)
        · refine q_step 12 46 [(0, .ref 9), (1, .ref 5), (2, .int (2 : Int32))] [.int ((g 9 3) + (2 : Int32)), .ref 10] g u (fun big n0 => sg_nm_45 big n0 g u) ?_
          refine q_bald (j := (f + 2)) (by have z := hc1; rw [hp, hf, q_sb (by omega) hle, show (4 : Int32) = Int32.ofNat 4 from rfl, q_eq (by omega) (by omega)] at z; rw [hf, show (2 : Int32) = Int32.ofNat 2 from rfl, q_add]; exact q_ixn (by omega) (by omega)) rfl (by decide) rfl ?_
          refine q_step 3 52 [(0, .ref 9), (1, .ref 5), (2, .int (2 : Int32))] [.int (108 : Int32), .int (g 10 (f + 2))] g u (fun big n0 => sg_nm_46 big n0 g u (g 10 (f + 2))) ?_
          refine q_ic_eq rfl (fun (hc4 : (g 10 (f + 2)) = (108 : Int32)) => ?_) (fun (hc4 : ¬ ((g 10 (f + 2)) = (108 : Int32))) => ?_)
          · refine q_step 12 46 [(0, .ref 9), (1, .ref 5), (2, .int (3 : Int32))] [.int ((g 9 3) + (3 : Int32)), .ref 10] g u (fun big n0 => sg_nm_47 big n0 g u) ?_
            refine q_bald (j := (f + 3)) (by have z := hc1; rw [hp, hf, q_sb (by omega) hle, show (4 : Int32) = Int32.ofNat 4 from rfl, q_eq (by omega) (by omega)] at z; rw [hf, show (3 : Int32) = Int32.ofNat 3 from rfl, q_add]; exact q_ixn (by omega) (by omega)) rfl (by decide) rfl ?_
            refine q_step 3 52 [(0, .ref 9), (1, .ref 5), (2, .int (3 : Int32))] [.int (108 : Int32), .int (g 10 (f + 3))] g u (fun big n0 => sg_nm_48 big n0 g u (g 10 (f + 3))) ?_
            refine q_ic_eq rfl (fun (hc5 : (g 10 (f + 3)) = (108 : Int32)) => ?_) (fun (hc5 : ¬ ((g 10 (f + 3)) = (108 : Int32))) => ?_)
            · refine q_ret 8 (some (.int (1 : Int32)), g, u) (fun _ _ => rfl) ?_
              rw [if_pos hc0]
              have zl := hc1
              rw [hp, hf, q_sb (by omega) hle, show (4 : Int32) = Int32.ofNat 4 from rfl, q_eq (by omega) (by omega)] at zl
              unfold t_is
              rw [if_pos (show e - f = (t_nm 1).length from zl)]
              simp only [t_nm, t_eq, Nat.add_assoc, Nat.reduceAdd]
              rw [if_pos (show (g 10 f) = (112 : Int32) from hc2), if_pos (show (g 10 (f + 1)) = (117 : Int32) from hc3), if_pos (show (g 10 (f + 2)) = (108 : Int32) from hc4), if_pos (show (g 10 (f + 3)) = (108 : Int32) from hc5)]
            · refine q_ret 2 (some (.int (0 : Int32)), g, u) (fun _ _ => rfl) ?_
              rw [if_pos hc0]
              have zl := hc1
              rw [hp, hf, q_sb (by omega) hle, show (4 : Int32) = Int32.ofNat 4 from rfl, q_eq (by omega) (by omega)] at zl
              unfold t_is
              rw [if_pos (show e - f = (t_nm 1).length from zl)]
              simp only [t_nm, t_eq, Nat.add_assoc, Nat.reduceAdd]
              rw [if_pos (show (g 10 f) = (112 : Int32) from hc2), if_pos (show (g 10 (f + 1)) = (117 : Int32) from hc3), if_pos (show (g 10 (f + 2)) = (108 : Int32) from hc4), if_neg (show ¬ (g 10 (f + 3)) = (108 : Int32) from hc5)]
          · refine q_ret 2 (some (.int (0 : Int32)), g, u) (fun _ _ => rfl) ?_
            rw [if_pos hc0]
            have zl := hc1
            rw [hp, hf, q_sb (by omega) hle, show (4 : Int32) = Int32.ofNat 4 from rfl, q_eq (by omega) (by omega)] at zl
            unfold t_is
            rw [if_pos (show e - f = (t_nm 1).length from zl)]
            simp only [t_nm, t_eq, Nat.add_assoc, Nat.reduceAdd]
            rw [if_pos (show (g 10 f) = (112 : Int32) from hc2), if_pos (show (g 10 (f + 1)) = (117 : Int32) from hc3), if_neg (show ¬ (g 10 (f + 2)) = (108 : Int32) from hc4)]
        · refine q_ret 2 (some (.int (0 : Int32)), g, u) (fun _ _ => rfl) ?_
          rw [if_pos hc0]
          have zl := hc1
          rw [hp, hf, q_sb (by omega) hle, show (4 : Int32) = Int32.ofNat 4 from rfl, q_eq (by omega) (by omega)] at zl
          unfold t_is
          rw [if_pos (show e - f = (t_nm 1).length from zl)]
          simp only [t_nm, t_eq, Nat.add_assoc, Nat.reduceAdd]
          rw [if_pos (show (g 10 f) = (112 : Int32) from hc2), if_neg (show ¬ (g 10 (f + 1)) = (117 : Int32) from hc3)]
      · refine q_ret 2 (some (.int (0 : Int32)), g, u) (fun _ _ => rfl) ?_
        rw [if_pos hc0]
        have zl := hc1
        rw [hp, hf, q_sb (by omega) hle, show (4 : Int32) = Int32.ofNat 4 from rfl, q_eq (by omega) (by omega)] at zl
        unfold t_is
        rw [if_pos (show e - f = (t_nm 1).length from zl)]
        simp only [t_nm, t_eq, Nat.add_assoc, Nat.reduceAdd]
        rw [if_neg (show ¬ (g 10 f) = (112 : Int32) from hc2)]
    · refine q_ret 2 (some (.int (0 : Int32)), g, u) (fun _ _ => rfl) ?_
      rw [if_pos hc0]
      have zl := hc1
      rw [hp, hf, q_sb (by omega) hle, show (4 : Int32) = Int32.ofNat 4 from rfl, q_eq (by omega) (by omega)] at zl
      unfold t_is
      rw [if_neg (show ¬ e - f = (t_nm 1).length from zl)]
  · refine q_ret 2 (some (.int (0 : Int32)), g, u) (fun _ _ => rfl) ?_
    rw [if_neg hc0]
theorem c_isn2 {f e : Nat} (g : qM) (u : qW) (hf : g 9 3 = Int32.ofNat f) (hp : g 9 5 = Int32.ofNat e) (hle : f ≤ e) (he : e ≤ 160) : q_BS 21 [.ref 9, .ref 6] g u (some (.int (if g 9 2 = 1 then t_is (g 10) f (e - f) (t_nm 2) else 0)), g, u) := by
  refine q_bx (mm := m_21) rfl (Nat.le_of_ble_eq_true rfl) rfl ?_
  refine q_step 3 5 [(0, .ref 9), (1, .ref 6)] [.int (1 : Int32), .int (g 9 2)] g u (fun big n0 => sg_nm_49 big n0 g u) ?_
  refine q_ic_ne rfl (fun (hc0 : (g 9 2) = (1 : Int32)) => ?_) (fun (hc0 : ¬ ((g 9 2) = (1 : Int32))) => ?_)
  · refine q_step 7 21 [(0, .ref 9), (1, .ref 6)] [.int (5 : Int32), .int ((g 9 5) - (g 9 3))] g u (fun big n0 => sg_nm_50 big n0 g u) ?_
    refine q_ic_eq rfl (fun (hc1 : ((g 9 5) - (g 9 3)) = (5 : Int32)) => ?_) (fun (hc1 : ¬ (((g 9 5) - (g 9 3)) = (5 : Int32))) => ?_)
    · refine q_step 12 46 [(0, .ref 9), (1, .ref 6), (2, .int (0 : Int32))] [.int ((g 9 3) + (0 : Int32)), .ref 10] g u (fun big n0 => sg_nm_51 big n0 g u) ?_
      refine q_bald (j := (f + 0)) (by have z := hc1; rw [hp, hf, q_sb (by omega) hle, show (5 : Int32) = Int32.ofNat 5 from rfl, q_eq (by omega) (by omega)] at z; rw [hf, show (0 : Int32) = Int32.ofNat 0 from rfl, q_add]; exact q_ixn (by omega) (by omega)) rfl (by decide) rfl ?_
      refine q_step 3 52 [(0, .ref 9), (1, .ref 6), (2, .int (0 : Int32))] [.int (112 : Int32), .int (g 10 (f + 0))] g u (fun big n0 => sg_nm_52 big n0 g u (g 10 (f + 0))) ?_
      refine q_ic_eq rfl (fun (hc2 : (g 10 (f + 0)) = (112 : Int32)) => ?_) (fun (hc2 : ¬ ((g 10 (f + 0)) = (112 : Int32))) => ?_)
      · refine q_step 12 46 [(0, .ref 9), (1, .ref 6), (2, .int (1 : Int32))] [.int ((g 9 3) + (1 : Int32)), .ref 10] g u (fun big n0 => sg_nm_53 big n0 g u) ?_
        refine q_bald (j := (f + 1)) (by have z := hc1; rw [hp, hf, q_sb (by omega) hle, show (5 : Int32) = Int32.ofNat 5 from rfl, q_eq (by omega) (by omega)] at z; rw [hf, show (1 : Int32) = Int32.ofNat 1 from rfl, q_add]; exact q_ixn (by omega) (by omega)) rfl (by decide) rfl ?_
        refine q_step 3 52 [(0, .ref 9), (1, .ref 6), (2, .int (1 : Int32))] [.int (114 : Int32), .int (g 10 (f + 1))] g u (fun big n0 => sg_nm_54 big n0 g u (g 10 (f + 1))) ?_
        refine q_ic_eq rfl (fun (hc3 : (g 10 (f + 1)) = (114 : Int32)) => ?_) (fun (hc3 : ¬ ((g 10 (f + 1)) = (114 : Int32))) => ?_)
        · refine q_step 12 46 [(0, .ref 9), (1, .ref 6), (2, .int (2 : Int32))] [.int ((g 9 3) + (2 : Int32)), .ref 10] g u (fun big n0 => sg_nm_55 big n0 g u) ?_
          refine q_bald (j := (f + 2)) (by have z := hc1; rw [hp, hf, q_sb (by omega) hle, show (5 : Int32) = Int32.ofNat 5 from rfl, q_eq (by omega) (by omega)] at z; rw [hf, show (2 : Int32) = Int32.ofNat 2 from rfl, q_add]; exact q_ixn (by omega) (by omega)) rfl (by decide) rfl ?_
          refine q_step 3 52 [(0, .ref 9), (1, .ref 6), (2, .int (2 : Int32))] [.int (101 : Int32), .int (g 10 (f + 2))] g u (fun big n0 => sg_nm_56 big n0 g u (g 10 (f + 2))) ?_
          refine q_ic_eq rfl (fun (hc4 : (g 10 (f + 2)) = (101 : Int32)) => ?_) (fun (hc4 : ¬ ((g 10 (f + 2)) = (101 : Int32))) => ?_)
          · refine q_step 12 46 [(0, .ref 9), (1, .ref 6), (2, .int (3 : Int32))] [.int ((g 9 3) + (3 : Int32)), .ref 10] g u (fun big n0 => sg_nm_57 big n0 g u) ?_
            refine q_bald (j := (f + 3)) (by have z := hc1; rw [hp, hf, q_sb (by omega) hle, show (5 : Int32) = Int32.ofNat 5 from rfl, q_eq (by omega) (by omega)] at z; rw [hf, show (3 : Int32) = Int32.ofNat 3 from rfl, q_add]; exact q_ixn (by omega) (by omega)) rfl (by decide) rfl ?_
            refine q_step 3 52 [(0, .ref 9), (1, .ref 6), (2, .int (3 : Int32))] [.int (115 : Int32), .int (g 10 (f + 3))] g u (fun big n0 => sg_nm_58 big n0 g u (g 10 (f + 3))) ?_
            refine q_ic_eq rfl (fun (hc5 : (g 10 (f + 3)) = (115 : Int32)) => ?_) (fun (hc5 : ¬ ((g 10 (f + 3)) = (115 : Int32))) => ?_)
            · refine q_step 12 46 [(0, .ref 9), (1, .ref 6), (2, .int (4 : Int32))] [.int ((g 9 3) + (4 : Int32)), .ref 10] g u (fun big n0 => sg_nm_59 big n0 g u) ?_
              refine q_bald (j := (f + 4)) (by have z := hc1; rw [hp, hf, q_sb (by omega) hle, show (5 : Int32) = Int32.ofNat 5 from rfl, q_eq (by omega) (by omega)] at z; rw [hf, show (4 : Int32) = Int32.ofNat 4 from rfl, q_add]; exact q_ixn (by omega) (by omega)) rfl (by decide) rfl ?_
              refine q_step 3 52 [(0, .ref 9), (1, .ref 6), (2, .int (4 : Int32))] [.int (115 : Int32), .int (g 10 (f + 4))] g u (fun big n0 => sg_nm_60 big n0 g u (g 10 (f + 4))) ?_
              refine q_ic_eq rfl (fun (hc6 : (g 10 (f + 4)) = (115 : Int32)) => ?_) (fun (hc6 : ¬ ((g 10 (f + 4)) = (115 : Int32))) => ?_)
              · refine q_ret 8 (some (.int (1 : Int32)), g, u) (fun _ _ => rfl) ?_
                rw [if_pos hc0]
                have zl := hc1
                rw [hp, hf, q_sb (by omega) hle, show (5 : Int32) = Int32.ofNat 5 from rfl, q_eq (by omega) (by omega)] at zl
                unfold t_is
                rw [if_pos (show e - f = (t_nm 2).length from zl)]
                simp only [t_nm, t_eq, Nat.add_assoc, Nat.reduceAdd]
                rw [if_pos (show (g 10 f) = (112 : Int32) from hc2), if_pos (show (g 10 (f + 1)) = (114 : Int32) from hc3), if_pos (show (g 10 (f + 2)) = (101 : Int32) from hc4), if_pos (show (g 10 (f + 3)) = (115 : Int32) from hc5), if_pos (show (g 10 (f + 4)) = (115 : Int32) from hc6)]
              · refine q_ret 2 (some (.int (0 : Int32)), g, u) (fun _ _ => rfl) ?_
                rw [if_pos hc0]
                have zl := hc1
                rw [hp, hf, q_sb (by omega) hle, show (5 : Int32) = Int32.ofNat 5 from rfl, q_eq (by omega) (by omega)] at zl
                unfold t_is
                rw [if_pos (show e - f = (t_nm 2).length from zl)]
                simp only [t_nm, t_eq, Nat.add_assoc, Nat.reduceAdd]
                rw [if_pos (show (g 10 f) = (112 : Int32) from hc2), if_pos (show (g 10 (f + 1)) = (114 : Int32) from hc3), if_pos (show (g 10 (f + 2)) = (101 : Int32) from hc4), if_pos (show (g 10 (f + 3)) = (115 : Int32) from hc5), if_neg (show ¬ (g 10 (f + 4)) = (115 : Int32) from hc6)]
            · refine q_ret 2 (some (.int (0 : Int32)), g, u) (fun _ _ => rfl) ?_
              rw [if_pos hc0]
              have zl := hc1
              rw [hp, hf, q_sb (by omega) hle, show (5 : Int32) = Int32.ofNat 5 from rfl, q_eq (by omega) (by omega)] at zl
              unfold t_is
              rw [if_pos (show e - f = (t_nm 2).length from zl)]
              simp only [t_nm, t_eq, Nat.add_assoc, Nat.reduceAdd]
              rw [if_pos (show (g 10 f) = (112 : Int32) from hc2), if_pos (show (g 10 (f + 1)) = (114 : Int32) from hc3), if_pos (show (g 10 (f + 2)) = (101 : Int32) from hc4), if_neg (show ¬ (g 10 (f + 3)) = (115 : Int32) from hc5)]
          · refine q_ret 2 (some (.int (0 : Int32)), g, u) (fun _ _ => rfl) ?_
            rw [if_pos hc0]
            have zl := hc1
            rw [hp, hf, q_sb (by omega) hle, show (5 : Int32) = Int32.ofNat 5 from rfl, q_eq (by omega) (by omega)] at zl
            unfold t_is
            rw [if_pos (show e - f = (t_nm 2).length from zl)]
            simp only [t_nm, t_eq, Nat.add_assoc, Nat.reduceAdd]
            rw [if_pos (show (g 10 f) = (112 : Int32) from hc2), if_pos (show (g 10 (f + 1)) = (114 : Int32) from hc3), if_neg (show ¬ (g 10 (f + 2)) = (101 : Int32) from hc4)]
        · refine q_ret 2 (some (.int (0 : Int32)), g, u) (fun _ _ => rfl) ?_
          rw [if_pos hc0]
          have zl := hc1
          rw [hp, hf, q_sb (by omega) hle, show (5 : Int32) = Int32.ofNat 5 from rfl, q_eq (by omega) (by omega)] at zl
          unfold t_is
          rw [if_pos (show e - f = (t_nm 2).length from zl)]
          simp only [t_nm, t_eq, Nat.add_assoc, Nat.reduceAdd]
          rw [if_pos (show (g 10 f) = (112 : Int32) from hc2), if_neg (show ¬ (g 10 (f + 1)) = (114 : Int32) from hc3)]
      · refine q_ret 2 (some (.int (0 : Int32)), g, u) (fun _ _ => rfl) ?_
        rw [if_pos hc0]
        have zl := hc1
        rw [hp, hf, q_sb (by omega) hle, show (5 : Int32) = Int32.ofNat 5 from rfl, q_eq (by omega) (by omega)] at zl
        unfold t_is
        rw [if_pos (show e - f = (t_nm 2).length from zl)]
        simp only [t_nm, t_eq, Nat.add_assoc, Nat.reduceAdd]
        rw [if_neg (show ¬ (g 10 f) = (112 : Int32) from hc2)]
    · refine q_ret 2 (some (.int (0 : Int32)), g, u) (fun _ _ => rfl) ?_
      rw [if_pos hc0]
      have zl := hc1
      rw [hp, hf, q_sb (by omega) hle, show (5 : Int32) = Int32.ofNat 5 from rfl, q_eq (by omega) (by omega)] at zl
      unfold t_is
      rw [if_neg (show ¬ e - f = (t_nm 2).length from zl)]
  · refine q_ret 2 (some (.int (0 : Int32)), g, u) (fun _ _ => rfl) ?_
    rw [if_neg hc0]
theorem c_isn6 {f e : Nat} (g : qM) (u : qW) (hf : g 9 3 = Int32.ofNat f) (hp : g 9 5 = Int32.ofNat e) (hle : f ≤ e) (he : e ≤ 160) : q_BS 21 [.ref 9, .ref 7] g u (some (.int (if g 9 2 = 1 then t_is (g 10) f (e - f) (t_nm 6) else 0)), g, u) := by
  refine q_bx (mm := m_21) rfl (Nat.le_of_ble_eq_true rfl) rfl ?_
  refine q_step 3 5 [(0, .ref 9), (1, .ref 7)] [.int (1 : Int32), .int (g 9 2)] g u (fun big n0 => sg_nm_61 big n0 g u) ?_
  refine q_ic_ne rfl (fun (hc0 : (g 9 2) = (1 : Int32)) => ?_) (fun (hc0 : ¬ ((g 9 2) = (1 : Int32))) => ?_)
  · refine q_step 7 21 [(0, .ref 9), (1, .ref 7)] [.int (4 : Int32), .int ((g 9 5) - (g 9 3))] g u (fun big n0 => sg_nm_62 big n0 g u) ?_
    refine q_ic_eq rfl (fun (hc1 : ((g 9 5) - (g 9 3)) = (4 : Int32)) => ?_) (fun (hc1 : ¬ (((g 9 5) - (g 9 3)) = (4 : Int32))) => ?_)
    · refine q_step 12 46 [(0, .ref 9), (1, .ref 7), (2, .int (0 : Int32))] [.int ((g 9 3) + (0 : Int32)), .ref 10] g u (fun big n0 => sg_nm_63 big n0 g u) ?_
      refine q_bald (j := (f + 0)) (by have z := hc1; rw [hp, hf, q_sb (by omega) hle, show (4 : Int32) = Int32.ofNat 4 from rfl, q_eq (by omega) (by omega)] at z; rw [hf, show (0 : Int32) = Int32.ofNat 0 from rfl, q_add]; exact q_ixn (by omega) (by omega)) rfl (by decide) rfl ?_
      refine q_step 3 52 [(0, .ref 9), (1, .ref 7), (2, .int (0 : Int32))] [.int (103 : Int32), .int (g 10 (f + 0))] g u (fun big n0 => sg_nm_64 big n0 g u (g 10 (f + 0))) ?_
      refine q_ic_eq rfl (fun (hc2 : (g 10 (f + 0)) = (103 : Int32)) => ?_) (fun (hc2 : ¬ ((g 10 (f + 0)) = (103 : Int32))) => ?_)
      · refine q_step 12 46 [(0, .ref 9), (1, .ref 7), (2, .int (1 : Int32))] [.int ((g 9 3) + (1 : Int32)), .ref 10] g u (fun big n0 => sg_nm_65 big n0 g u) ?_
        refine q_bald (j := (f + 1)) (by have z := hc1; rw [hp, hf, q_sb (by omega) hle, show (4 : Int32) = Int32.ofNat 4 from rfl, q_eq (by omega) (by omega)] at z; rw [hf, show (1 : Int32) = Int32.ofNat 1 from rfl, q_add]; exact q_ixn (by omega) (by omega)) rfl (by decide) rfl ?_
        refine q_step 3 52 [(0, .ref 9), (1, .ref 7), (2, .int (1 : Int32))] [.int (111 : Int32), .int (g 10 (f + 1))] g u (fun big n0 => sg_nm_66 big n0 g u (g 10 (f + 1))) ?_
        refine q_ic_eq rfl (fun (hc3 : (g 10 (f + 1)) = (111 : Int32)) => ?_) (fun (hc3 : ¬ ((g 10 (f + 1)) = (111 : Int32))) => ?_)
        · refine q_step 12 46 [(0, .ref 9), (1, .ref 7), (2, .int (2 : Int32))] [.int ((g 9 3) + (2 : Int32)), .ref 10] g u (fun big n0 => sg_nm_67 big n0 g u) ?_
          refine q_bald (j := (f + 2)) (by have z := hc1; rw [hp, hf, q_sb (by omega) hle, show (4 : Int32) = Int32.ofNat 4 from rfl, q_eq (by omega) (by omega)] at z; rw [hf, show (2 : Int32) = Int32.ofNat 2 from rfl, q_add]; exact q_ixn (by omega) (by omega)) rfl (by decide) rfl ?_
          refine q_step 3 52 [(0, .ref 9), (1, .ref 7), (2, .int (2 : Int32))] [.int (97 : Int32), .int (g 10 (f + 2))] g u (fun big n0 => sg_nm_68 big n0 g u (g 10 (f + 2))) ?_
          refine q_ic_eq rfl (fun (hc4 : (g 10 (f + 2)) = (97 : Int32)) => ?_) (fun (hc4 : ¬ ((g 10 (f + 2)) = (97 : Int32))) => ?_)
          · refine q_step 12 46 [(0, .ref 9), (1, .ref 7), (2, .int (3 : Int32))] [.int ((g 9 3) + (3 : Int32)), .ref 10] g u (fun big n0 => sg_nm_69 big n0 g u) ?_
            refine q_bald (j := (f + 3)) (by have z := hc1; rw [hp, hf, q_sb (by omega) hle, show (4 : Int32) = Int32.ofNat 4 from rfl, q_eq (by omega) (by omega)] at z; rw [hf, show (3 : Int32) = Int32.ofNat 3 from rfl, q_add]; exact q_ixn (by omega) (by omega)) rfl (by decide) rfl ?_
            refine q_step 3 52 [(0, .ref 9), (1, .ref 7), (2, .int (3 : Int32))] [.int (108 : Int32), .int (g 10 (f + 3))] g u (fun big n0 => sg_nm_70 big n0 g u (g 10 (f + 3))) ?_
            refine q_ic_eq rfl (fun (hc5 : (g 10 (f + 3)) = (108 : Int32)) => ?_) (fun (hc5 : ¬ ((g 10 (f + 3)) = (108 : Int32))) => ?_)
            · refine q_ret 8 (some (.int (1 : Int32)), g, u) (fun _ _ => rfl) ?_
              rw [if_pos hc0]
              have zl := hc1
              rw [hp, hf, q_sb (by omega) hle, show (4 : Int32) = Int32.ofNat 4 from rfl, q_eq (by omega) (by omega)] at zl
              unfold t_is
              rw [if_pos (show e - f = (t_nm 6).length from zl)]
              simp only [t_nm, t_eq, Nat.add_assoc, Nat.reduceAdd]
              rw [if_pos (show (g 10 f) = (103 : Int32) from hc2), if_pos (show (g 10 (f + 1)) = (111 : Int32) from hc3), if_pos (show (g 10 (f + 2)) = (97 : Int32) from hc4), if_pos (show (g 10 (f + 3)) = (108 : Int32) from hc5)]
            · refine q_ret 2 (some (.int (0 : Int32)), g, u) (fun _ _ => rfl) ?_
              rw [if_pos hc0]
              have zl := hc1
              rw [hp, hf, q_sb (by omega) hle, show (4 : Int32) = Int32.ofNat 4 from rfl, q_eq (by omega) (by omega)] at zl
              unfold t_is
              rw [if_pos (show e - f = (t_nm 6).length from zl)]
              simp only [t_nm, t_eq, Nat.add_assoc, Nat.reduceAdd]
              rw [if_pos (show (g 10 f) = (103 : Int32) from hc2), if_pos (show (g 10 (f + 1)) = (111 : Int32) from hc3), if_pos (show (g 10 (f + 2)) = (97 : Int32) from hc4), if_neg (show ¬ (g 10 (f + 3)) = (108 : Int32) from hc5)]
          · refine q_ret 2 (some (.int (0 : Int32)), g, u) (fun _ _ => rfl) ?_
            rw [if_pos hc0]
            have zl := hc1
            rw [hp, hf, q_sb (by omega) hle, show (4 : Int32) = Int32.ofNat 4 from rfl, q_eq (by omega) (by omega)] at zl
            unfold t_is
            rw [if_pos (show e - f = (t_nm 6).length from zl)]
            simp only [t_nm, t_eq, Nat.add_assoc, Nat.reduceAdd]
            rw [if_pos (show (g 10 f) = (103 : Int32) from hc2), if_pos (show (g 10 (f + 1)) = (111 : Int32) from hc3), if_neg (show ¬ (g 10 (f + 2)) = (97 : Int32) from hc4)]
        · refine q_ret 2 (some (.int (0 : Int32)), g, u) (fun _ _ => rfl) ?_
          rw [if_pos hc0]
          have zl := hc1
          rw [hp, hf, q_sb (by omega) hle, show (4 : Int32) = Int32.ofNat 4 from rfl, q_eq (by omega) (by omega)] at zl
          unfold t_is
          rw [if_pos (show e - f = (t_nm 6).length from zl)]
          simp only [t_nm, t_eq, Nat.add_assoc, Nat.reduceAdd]
          rw [if_pos (show (g 10 f) = (103 : Int32) from hc2), if_neg (show ¬ (g 10 (f + 1)) = (111 : Int32) from hc3)]
      · refine q_ret 2 (some (.int (0 : Int32)), g, u) (fun _ _ => rfl) ?_
        rw [if_pos hc0]
        have zl := hc1
        rw [hp, hf, q_sb (by omega) hle, show (4 : Int32) = Int32.ofNat 4 from rfl, q_eq (by omega) (by omega)] at zl
        unfold t_is
        rw [if_pos (show e - f = (t_nm 6).length from zl)]
        simp only [t_nm, t_eq, Nat.add_assoc, Nat.reduceAdd]
        rw [if_neg (show ¬ (g 10 f) = (103 : Int32) from hc2)]
    · refine q_ret 2 (some (.int (0 : Int32)), g, u) (fun _ _ => rfl) ?_
      rw [if_pos hc0]
      have zl := hc1
      rw [hp, hf, q_sb (by omega) hle, show (4 : Int32) = Int32.ofNat 4 from rfl, q_eq (by omega) (by omega)] at zl
      unfold t_is
      rw [if_neg (show ¬ e - f = (t_nm 6).length from zl)]
  · refine q_ret 2 (some (.int (0 : Int32)), g, u) (fun _ _ => rfl) ?_
    rw [if_neg hc0]
theorem r_is (g : qM) (u : qW) {s f e : Nat} (hs : g 70 13 = Int32.ofNat s) (h160 : s ≤ 160) (hf : g 70 15 = Int32.ofNat f) (he : g 70 14 = Int32.ofNat e) (hfe : f ≤ e) (hes : e ≤ s) (n : Nat) (hn : n ≤ 5) (a b : Int32) : q_BS 157 [.ref 70, .int (Int32.ofNat n), .int a, .int b] g u (some (.int (t_p1 (g 74) s f (e - f) n a b)), g, u) := by
  refine q_bx (mm := m_157) rfl (Nat.le_of_ble_eq_true rfl) rfl ?_
  refine q_step 6 10 [(0, .ref 70), (1, .int (Int32.ofNat n)), (2, .int a), (3, .int b)] [.int (Int32.ofNat n), .int ((g 70 14) - (g 70 15))] g u (fun big n0 => sg_nm_71 big n0 g u (Int32.ofNat n) a b) ?_
  refine q_ic_ne rfl (fun (hc0 : ((g 70 14) - (g 70 15)) = (Int32.ofNat n)) => ?_) (fun (hc0 : ¬ (((g 70 14) - (g 70 15)) = (Int32.ofNat n))) => ?_)
  · refine q_step 3 18 [(0, .ref 70), (1, .int (Int32.ofNat n)), (2, .int a), (3, .int b)] [.int (g 70 15), .ref 70] g u (fun big n0 => sg_nm_72 big n0 g u (Int32.ofNat n) a b) ?_
    refine q_call (M2 := 153) (rest := []) (by rw [hf]; exact b_look g u (p := f) (s := s) hs h160 (by omega)) (fun _ _ => rfl) ?_
    refine q_step 1 22 [(0, .ref 70), (1, .int (Int32.ofNat n)), (2, .int a), (3, .int b)] [.int a, .int (s_lk (g 74) s f)] g u (fun big n0 => sg_nm_73 big n0 g u (Int32.ofNat n) a b (s_lk (g 74) s f)) ?_
    refine q_ic_ne rfl (fun (hc1 : (s_lk (g 74) s f) = a) => ?_) (fun (hc1 : ¬ ((s_lk (g 74) s f) = a)) => ?_)
    · refine q_step 5 32 [(0, .ref 70), (1, .int (Int32.ofNat n)), (2, .int a), (3, .int b)] [.int ((g 70 15) + (1 : Int32)), .ref 70] g u (fun big n0 => sg_nm_74 big n0 g u (Int32.ofNat n) a b) ?_
      refine q_call (M2 := 153) (rest := []) (by rw [hf, show (1 : Int32) = Int32.ofNat 1 from rfl, q_add]; exact b_look g u (p := f + 1) (s := s) hs h160 (by omega)) (fun _ _ => rfl) ?_
      refine q_step 1 36 [(0, .ref 70), (1, .int (Int32.ofNat n)), (2, .int a), (3, .int b)] [.int b, .int (s_lk (g 74) s (f + 1))] g u (fun big n0 => sg_nm_75 big n0 g u (Int32.ofNat n) a b (s_lk (g 74) s (f + 1))) ?_
      refine q_ic_ne rfl (fun (hc2 : (s_lk (g 74) s (f + 1)) = b) => ?_) (fun (hc2 : ¬ ((s_lk (g 74) s (f + 1)) = b)) => ?_)
      · refine q_ret 3 (some (.int (1 : Int32)), g, u) (fun _ _ => rfl) ?_
        have z := hc0
        rw [he, hf, q_sb (by omega) hfe, q_eq (by omega) (by omega)] at z
        unfold t_p1
        rw [if_pos z, if_pos hc1, if_pos hc2]
      · refine q_ret 2 (some (.int (0 : Int32)), g, u) (fun _ _ => rfl) ?_
        have z := hc0
        rw [he, hf, q_sb (by omega) hfe, q_eq (by omega) (by omega)] at z
        unfold t_p1
        rw [if_pos z, if_pos hc1, if_neg hc2]
    · refine q_ret 2 (some (.int (0 : Int32)), g, u) (fun _ _ => rfl) ?_
      have z := hc0
      rw [he, hf, q_sb (by omega) hfe, q_eq (by omega) (by omega)] at z
      unfold t_p1
      rw [if_pos z, if_neg hc1]
  · refine q_ret 2 (some (.int (0 : Int32)), g, u) (fun _ _ => rfl) ?_
    have z := hc0
    rw [he, hf, q_sb (by omega) hfe, q_eq (by omega) (by omega)] at z
    unfold t_p1
    rw [if_neg z]
theorem r_ends (g : qM) (u : qW) {s f e : Nat} (hs : g 70 13 = Int32.ofNat s) (h160 : s ≤ 160) (hf : g 70 15 = Int32.ofNat f) (he : g 70 14 = Int32.ofNat e) (hfe : f ≤ e) (hes : e ≤ s) (a b c : Int32) : q_BS 158 [.ref 70, .int a, .int b, .int c] g u (some (.int (t_p2 (g 74) s f a b c)), g, u) := by
  refine q_bx (mm := m_158) rfl (Nat.le_of_ble_eq_true rfl) rfl ?_
  refine q_step 5 7 [(0, .ref 70), (1, .int a), (2, .int b), (3, .int c)] [.int ((g 70 15) + (2 : Int32)), .ref 70] g u (fun big n0 => sg_nm_76 big n0 g u a b c) ?_
  refine q_call (M2 := 153) (rest := []) (by rw [hf, show (2 : Int32) = Int32.ofNat 2 from rfl, q_add]; exact b_look g u (p := f + 2) (s := s) hs h160 (by omega)) (fun _ _ => rfl) ?_
  refine q_step 1 11 [(0, .ref 70), (1, .int a), (2, .int b), (3, .int c)] [.int a, .int (s_lk (g 74) s (f + 2))] g u (fun big n0 => sg_nm_77 big n0 g u a b c (s_lk (g 74) s (f + 2))) ?_
  refine q_ic_ne rfl (fun (hc0 : (s_lk (g 74) s (f + 2)) = a) => ?_) (fun (hc0 : ¬ ((s_lk (g 74) s (f + 2)) = a)) => ?_)
  · refine q_step 5 21 [(0, .ref 70), (1, .int a), (2, .int b), (3, .int c)] [.int ((g 70 15) + (3 : Int32)), .ref 70] g u (fun big n0 => sg_nm_78 big n0 g u a b c) ?_
    refine q_call (M2 := 153) (rest := []) (by rw [hf, show (3 : Int32) = Int32.ofNat 3 from rfl, q_add]; exact b_look g u (p := f + 3) (s := s) hs h160 (by omega)) (fun _ _ => rfl) ?_
    refine q_step 1 25 [(0, .ref 70), (1, .int a), (2, .int b), (3, .int c)] [.int b, .int (s_lk (g 74) s (f + 3))] g u (fun big n0 => sg_nm_79 big n0 g u a b c (s_lk (g 74) s (f + 3))) ?_
    refine q_ic_ne rfl (fun (hc1 : (s_lk (g 74) s (f + 3)) = b) => ?_) (fun (hc1 : ¬ ((s_lk (g 74) s (f + 3)) = b)) => ?_)
    · refine q_step 1 29 [(0, .ref 70), (1, .int a), (2, .int b), (3, .int c)] [.int c] g u (fun big n0 => sg_nm_80 big n0 g u a b c) ?_
      refine q_if_eq rfl (fun (hc2 : c = 0) => ?_) (fun (hc2 : ¬ (c = 0)) => ?_)
      · refine q_ret 3 (some (.int (1 : Int32)), g, u) (fun _ _ => rfl) ?_
        unfold t_p2
        rw [if_pos hc0, if_pos hc1, if_pos hc2]
      · refine q_step 5 39 [(0, .ref 70), (1, .int a), (2, .int b), (3, .int c)] [.int ((g 70 15) + (4 : Int32)), .ref 70] g u (fun big n0 => sg_nm_81 big n0 g u a b c) ?_
        refine q_call (M2 := 153) (rest := []) (by rw [hf, show (4 : Int32) = Int32.ofNat 4 from rfl, q_add]; exact b_look g u (p := f + 4) (s := s) hs h160 (by omega)) (fun _ _ => rfl) ?_
        refine q_step 1 43 [(0, .ref 70), (1, .int a), (2, .int b), (3, .int c)] [.int c, .int (s_lk (g 74) s (f + 4))] g u (fun big n0 => sg_nm_82 big n0 g u a b c (s_lk (g 74) s (f + 4))) ?_
        refine q_ic_ne rfl (fun (hc3 : (s_lk (g 74) s (f + 4)) = c) => ?_) (fun (hc3 : ¬ ((s_lk (g 74) s (f + 4)) = c)) => ?_)
        · refine q_ret 3 (some (.int (1 : Int32)), g, u) (fun _ _ => rfl) ?_
          unfold t_p2
          rw [if_pos hc0, if_pos hc1, if_neg hc2, if_pos hc3]
        · refine q_ret 2 (some (.int (0 : Int32)), g, u) (fun _ _ => rfl) ?_
          unfold t_p2
          rw [if_pos hc0, if_pos hc1, if_neg hc2, if_neg hc3]
    · refine q_ret 2 (some (.int (0 : Int32)), g, u) (fun _ _ => rfl) ?_
      unfold t_p2
      rw [if_pos hc0, if_neg hc1]
  · refine q_ret 2 (some (.int (0 : Int32)), g, u) (fun _ _ => rfl) ?_
    unfold t_p2
    rw [if_neg hc0]
theorem r_line (g : qM) (u : qW) {s f e : Nat} (hs : g 70 13 = Int32.ofNat s) (h160 : s ≤ 160) (hf : g 70 15 = Int32.ofNat f) (he : g 70 14 = Int32.ofNat e) (hfe : f ≤ e) (hes : e ≤ s) : q_BS 156 [.ref 70] g u (some (.int (t_ln (g 74) f (e - f))), g, u) := by
  refine q_bx (mm := m_156) rfl (Nat.le_of_ble_eq_true rfl) rfl ?_
  refine q_step 4 6 [(0, .ref 70)] [.int (111 : Int32), .int (116 : Int32), .int (4 : Int32), .ref 70] g u (fun big n0 => sg_nm_83 big n0 g u) ?_
  refine q_call (M2 := 157) (rest := []) (r_is g u hs h160 hf he hfe hes 4 (by omega) _ _) (fun _ _ => rfl) ?_
  refine q_if_eq rfl (fun (hc0 : (t_p1 (g 74) s f (e - f) 4 (116 : Int32) (111 : Int32)) = 0) => ?_) (fun (hc0 : ¬ ((t_p1 (g 74) s f (e - f) 4 (116 : Int32) (111 : Int32)) = 0)) => ?_)
  · refine q_step 4 32 [(0, .ref 70)] [.int (117 : Int32), .int (112 : Int32), .int (4 : Int32), .ref 70] g u (fun big n0 => sg_nm_84 big n0 g u) ?_
    refine q_call (M2 := 157) (rest := []) (r_is g u hs h160 hf he hfe hes 4 (by omega) _ _) (fun _ _ => rfl) ?_
    refine q_if_eq rfl (fun (hc1 : (t_p1 (g 74) s f (e - f) 4 (112 : Int32) (117 : Int32)) = 0) => ?_) (fun (hc1 : ¬ ((t_p1 (g 74) s f (e - f) 4 (112 : Int32) (117 : Int32)) = 0)) => ?_)
    · refine q_step 4 58 [(0, .ref 70)] [.int (114 : Int32), .int (112 : Int32), .int (5 : Int32), .ref 70] g u (fun big n0 => sg_nm_85 big n0 g u) ?_
      refine q_call (M2 := 157) (rest := []) (r_is g u hs h160 hf he hfe hes 5 (by omega) _ _) (fun _ _ => rfl) ?_
      refine q_if_eq rfl (fun (hc2 : (t_p1 (g 74) s f (e - f) 5 (112 : Int32) (114 : Int32)) = 0) => ?_) (fun (hc2 : ¬ ((t_p1 (g 74) s f (e - f) 5 (112 : Int32) (114 : Int32)) = 0)) => ?_)
      · refine q_step 4 85 [(0, .ref 70)] [.int (97 : Int32), .int (119 : Int32), .int (4 : Int32), .ref 70] g u (fun big n0 => sg_nm_86 big n0 g u) ?_
        refine q_call (M2 := 157) (rest := []) (r_is g u hs h160 hf he hfe hes 4 (by omega) _ _) (fun _ _ => rfl) ?_
        refine q_if_eq rfl (fun (hc3 : (t_p1 (g 74) s f (e - f) 4 (119 : Int32) (97 : Int32)) = 0) => ?_) (fun (hc3 : ¬ ((t_p1 (g 74) s f (e - f) 4 (119 : Int32) (97 : Int32)) = 0)) => ?_)
        · refine q_step 4 111 [(0, .ref 70)] [.int (116 : Int32), .int (97 : Int32), .int (2 : Int32), .ref 70] g u (fun big n0 => sg_nm_87 big n0 g u) ?_
          refine q_call (M2 := 157) (rest := []) (r_is g u hs h160 hf he hfe hes 2 (by omega) _ _) (fun _ _ => rfl) ?_
          refine q_if_eq rfl (fun (hc4 : (t_p1 (g 74) s f (e - f) 2 (97 : Int32) (116 : Int32)) = 0) => ?_) (fun (hc4 : ¬ ((t_p1 (g 74) s f (e - f) 2 (97 : Int32) (116 : Int32)) = 0)) => ?_)
          · refine q_step 4 125 [(0, .ref 70)] [.int (116 : Int32), .int (115 : Int32), .int (5 : Int32), .ref 70] g u (fun big n0 => sg_nm_88 big n0 g u) ?_
            refine q_call (M2 := 157) (rest := []) (r_is g u hs h160 hf he hfe hes 5 (by omega) _ _) (fun _ _ => rfl) ?_
            refine q_if_eq rfl (fun (hc5 : (t_p1 (g 74) s f (e - f) 5 (115 : Int32) (116 : Int32)) = 0) => ?_) (fun (hc5 : ¬ ((t_p1 (g 74) s f (e - f) 5 (115 : Int32) (116 : Int32)) = 0)) => ?_)
            · refine q_step 4 154 [(0, .ref 70)] [.int (111 : Int32), .int (103 : Int32), .int (4 : Int32), .ref 70] g u (fun big n0 => sg_nm_89 big n0 g u) ?_
              refine q_call (M2 := 157) (rest := []) (r_is g u hs h160 hf he hfe hes 4 (by omega) _ _) (fun _ _ => rfl) ?_
              refine q_if_eq rfl (fun (hc6 : (t_p1 (g 74) s f (e - f) 4 (103 : Int32) (111 : Int32)) = 0) => ?_) (fun (hc6 : ¬ ((t_p1 (g 74) s f (e - f) 4 (103 : Int32) (111 : Int32)) = 0)) => ?_)
              · refine q_ret 2 (some (.int (Int8.toInt32 (Int8.ofInt (-4)))), g, u) (fun _ _ => rfl) ?_
                have n0 : ¬ t_is (g 74) f (e - f) (t_nm 0) = 1 := fun z => ((t_is_4 (by omega)).mp z).1 hc0
                have n1 : ¬ t_is (g 74) f (e - f) (t_nm 1) = 1 := fun z => ((t_is_4 (by omega)).mp z).1 hc1
                have n2 : ¬ t_is (g 74) f (e - f) (t_nm 2) = 1 := fun z => ((t_is_5 (by omega)).mp z).1 hc2
                have n3 : ¬ t_is (g 74) f (e - f) (t_nm 3) = 1 := fun z => ((t_is_4 (by omega)).mp z).1 hc3
                have n4 : ¬ t_is (g 74) f (e - f) (t_nm 4) = 1 := fun z => ((t_is_2 (by omega)).mp z) hc4
                have n5 : ¬ t_is (g 74) f (e - f) (t_nm 5) = 1 := fun z => ((t_is_5 (by omega)).mp z).1 hc5
                have n6 : ¬ t_is (g 74) f (e - f) (t_nm 6) = 1 := fun z => ((t_is_4 (by omega)).mp z).1 hc6
                unfold t_ln
                rw [if_neg n0, if_neg n1, if_neg n2, if_neg n3, if_neg n4, if_neg n5, if_neg n6]
                rfl
              · refine q_step 4 166 [(0, .ref 70)] [.int (0 : Int32), .int (108 : Int32), .int (97 : Int32), .ref 70] g u (fun big n0 => sg_nm_90 big n0 g u) ?_
                refine q_call (M2 := 158) (rest := []) (r_ends g u hs h160 hf he hfe hes _ _ _) (fun _ _ => rfl) ?_
                refine q_if_eq rfl (fun (hc7 : (t_p2 (g 74) s f (97 : Int32) (108 : Int32) (0 : Int32)) = 0) => ?_) (fun (hc7 : ¬ ((t_p2 (g 74) s f (97 : Int32) (108 : Int32) (0 : Int32)) = 0)) => ?_)
                · refine q_ret 2 (some (.int (Int8.toInt32 (Int8.ofInt (-4)))), g, u) (fun _ _ => rfl) ?_
                  have n0 : ¬ t_is (g 74) f (e - f) (t_nm 0) = 1 := fun z => ((t_is_4 (by omega)).mp z).1 hc0
                  have n1 : ¬ t_is (g 74) f (e - f) (t_nm 1) = 1 := fun z => ((t_is_4 (by omega)).mp z).1 hc1
                  have n2 : ¬ t_is (g 74) f (e - f) (t_nm 2) = 1 := fun z => ((t_is_5 (by omega)).mp z).1 hc2
                  have n3 : ¬ t_is (g 74) f (e - f) (t_nm 3) = 1 := fun z => ((t_is_4 (by omega)).mp z).1 hc3
                  have n4 : ¬ t_is (g 74) f (e - f) (t_nm 4) = 1 := fun z => ((t_is_2 (by omega)).mp z) hc4
                  have n5 : ¬ t_is (g 74) f (e - f) (t_nm 5) = 1 := fun z => ((t_is_5 (by omega)).mp z).1 hc5
                  have n6 : ¬ t_is (g 74) f (e - f) (t_nm 6) = 1 := fun z => ((t_is_4 (by omega)).mp z).2 hc7
                  unfold t_ln
                  rw [if_neg n0, if_neg n1, if_neg n2, if_neg n3, if_neg n4, if_neg n5, if_neg n6]
                  rfl
                · refine q_ret 3 (some (.int (6 : Int32)), g, u) (fun _ _ => rfl) ?_
                  have n0 : ¬ t_is (g 74) f (e - f) (t_nm 0) = 1 := fun z => ((t_is_4 (by omega)).mp z).1 hc0
                  have n1 : ¬ t_is (g 74) f (e - f) (t_nm 1) = 1 := fun z => ((t_is_4 (by omega)).mp z).1 hc1
                  have n2 : ¬ t_is (g 74) f (e - f) (t_nm 2) = 1 := fun z => ((t_is_5 (by omega)).mp z).1 hc2
                  have n3 : ¬ t_is (g 74) f (e - f) (t_nm 3) = 1 := fun z => ((t_is_4 (by omega)).mp z).1 hc3
                  have n4 : ¬ t_is (g 74) f (e - f) (t_nm 4) = 1 := fun z => ((t_is_2 (by omega)).mp z) hc4
                  have n5 : ¬ t_is (g 74) f (e - f) (t_nm 5) = 1 := fun z => ((t_is_5 (by omega)).mp z).1 hc5
                  have y6 : t_is (g 74) f (e - f) (t_nm 6) = 1 := (t_is_4 (by omega)).mpr ⟨hc6, hc7⟩
                  unfold t_ln
                  rw [if_neg n0, if_neg n1, if_neg n2, if_neg n3, if_neg n4, if_neg n5, if_pos y6]
            · refine q_step 4 138 [(0, .ref 70)] [.int (108 : Int32), .int (108 : Int32), .int (105 : Int32), .ref 70] g u (fun big n0 => sg_nm_91 big n0 g u) ?_
              refine q_call (M2 := 158) (rest := []) (r_ends g u hs h160 hf he hfe hes _ _ _) (fun _ _ => rfl) ?_
              refine q_if_eq rfl (fun (hc6 : (t_p2 (g 74) s f (105 : Int32) (108 : Int32) (108 : Int32)) = 0) => ?_) (fun (hc6 : ¬ ((t_p2 (g 74) s f (105 : Int32) (108 : Int32) (108 : Int32)) = 0)) => ?_)
              · refine q_step 4 154 [(0, .ref 70)] [.int (111 : Int32), .int (103 : Int32), .int (4 : Int32), .ref 70] g u (fun big n0 => sg_nm_89 big n0 g u) ?_
                refine q_call (M2 := 157) (rest := []) (r_is g u hs h160 hf he hfe hes 4 (by omega) _ _) (fun _ _ => rfl) ?_
                refine q_if_eq rfl (fun (hc7 : (t_p1 (g 74) s f (e - f) 4 (103 : Int32) (111 : Int32)) = 0) => ?_) (fun (hc7 : ¬ ((t_p1 (g 74) s f (e - f) 4 (103 : Int32) (111 : Int32)) = 0)) => ?_)
                · refine q_ret 2 (some (.int (Int8.toInt32 (Int8.ofInt (-4)))), g, u) (fun _ _ => rfl) ?_
                  have n0 : ¬ t_is (g 74) f (e - f) (t_nm 0) = 1 := fun z => ((t_is_4 (by omega)).mp z).1 hc0
                  have n1 : ¬ t_is (g 74) f (e - f) (t_nm 1) = 1 := fun z => ((t_is_4 (by omega)).mp z).1 hc1
                  have n2 : ¬ t_is (g 74) f (e - f) (t_nm 2) = 1 := fun z => ((t_is_5 (by omega)).mp z).1 hc2
                  have n3 : ¬ t_is (g 74) f (e - f) (t_nm 3) = 1 := fun z => ((t_is_4 (by omega)).mp z).1 hc3
                  have n4 : ¬ t_is (g 74) f (e - f) (t_nm 4) = 1 := fun z => ((t_is_2 (by omega)).mp z) hc4
                  have n5 : ¬ t_is (g 74) f (e - f) (t_nm 5) = 1 := fun z => ((t_is_5 (by omega)).mp z).2 hc6
                  have n6 : ¬ t_is (g 74) f (e - f) (t_nm 6) = 1 := fun z => ((t_is_4 (by omega)).mp z).1 hc7
                  unfold t_ln
                  rw [if_neg n0, if_neg n1, if_neg n2, if_neg n3, if_neg n4, if_neg n5, if_neg n6]
                  rfl
                · refine q_step 4 166 [(0, .ref 70)] [.int (0 : Int32), .int (108 : Int32), .int (97 : Int32), .ref 70] g u (fun big n0 => sg_nm_90 big n0 g u) ?_
                  refine q_call (M2 := 158) (rest := []) (r_ends g u hs h160 hf he hfe hes _ _ _) (fun _ _ => rfl) ?_
                  refine q_if_eq rfl (fun (hc8 : (t_p2 (g 74) s f (97 : Int32) (108 : Int32) (0 : Int32)) = 0) => ?_) (fun (hc8 : ¬ ((t_p2 (g 74) s f (97 : Int32) (108 : Int32) (0 : Int32)) = 0)) => ?_)
                  · refine q_ret 2 (some (.int (Int8.toInt32 (Int8.ofInt (-4)))), g, u) (fun _ _ => rfl) ?_
                    have n0 : ¬ t_is (g 74) f (e - f) (t_nm 0) = 1 := fun z => ((t_is_4 (by omega)).mp z).1 hc0
                    have n1 : ¬ t_is (g 74) f (e - f) (t_nm 1) = 1 := fun z => ((t_is_4 (by omega)).mp z).1 hc1
                    have n2 : ¬ t_is (g 74) f (e - f) (t_nm 2) = 1 := fun z => ((t_is_5 (by omega)).mp z).1 hc2
                    have n3 : ¬ t_is (g 74) f (e - f) (t_nm 3) = 1 := fun z => ((t_is_4 (by omega)).mp z).1 hc3
                    have n4 : ¬ t_is (g 74) f (e - f) (t_nm 4) = 1 := fun z => ((t_is_2 (by omega)).mp z) hc4
                    have n5 : ¬ t_is (g 74) f (e - f) (t_nm 5) = 1 := fun z => ((t_is_5 (by omega)).mp z).2 hc6
                    have n6 : ¬ t_is (g 74) f (e - f) (t_nm 6) = 1 := fun z => ((t_is_4 (by omega)).mp z).2 hc8
                    unfold t_ln
                    rw [if_neg n0, if_neg n1, if_neg n2, if_neg n3, if_neg n4, if_neg n5, if_neg n6]
                    rfl
                  · refine q_ret 3 (some (.int (6 : Int32)), g, u) (fun _ _ => rfl) ?_
                    have n0 : ¬ t_is (g 74) f (e - f) (t_nm 0) = 1 := fun z => ((t_is_4 (by omega)).mp z).1 hc0
                    have n1 : ¬ t_is (g 74) f (e - f) (t_nm 1) = 1 := fun z => ((t_is_4 (by omega)).mp z).1 hc1
                    have n2 : ¬ t_is (g 74) f (e - f) (t_nm 2) = 1 := fun z => ((t_is_5 (by omega)).mp z).1 hc2
                    have n3 : ¬ t_is (g 74) f (e - f) (t_nm 3) = 1 := fun z => ((t_is_4 (by omega)).mp z).1 hc3
                    have n4 : ¬ t_is (g 74) f (e - f) (t_nm 4) = 1 := fun z => ((t_is_2 (by omega)).mp z) hc4
                    have n5 : ¬ t_is (g 74) f (e - f) (t_nm 5) = 1 := fun z => ((t_is_5 (by omega)).mp z).2 hc6
                    have y6 : t_is (g 74) f (e - f) (t_nm 6) = 1 := (t_is_4 (by omega)).mpr ⟨hc7, hc8⟩
                    unfold t_ln
                    rw [if_neg n0, if_neg n1, if_neg n2, if_neg n3, if_neg n4, if_neg n5, if_pos y6]
              · refine q_ret 3 (some (.int (5 : Int32)), g, u) (fun _ _ => rfl) ?_
                have n0 : ¬ t_is (g 74) f (e - f) (t_nm 0) = 1 := fun z => ((t_is_4 (by omega)).mp z).1 hc0
                have n1 : ¬ t_is (g 74) f (e - f) (t_nm 1) = 1 := fun z => ((t_is_4 (by omega)).mp z).1 hc1
                have n2 : ¬ t_is (g 74) f (e - f) (t_nm 2) = 1 := fun z => ((t_is_5 (by omega)).mp z).1 hc2
                have n3 : ¬ t_is (g 74) f (e - f) (t_nm 3) = 1 := fun z => ((t_is_4 (by omega)).mp z).1 hc3
                have n4 : ¬ t_is (g 74) f (e - f) (t_nm 4) = 1 := fun z => ((t_is_2 (by omega)).mp z) hc4
                have y5 : t_is (g 74) f (e - f) (t_nm 5) = 1 := (t_is_5 (by omega)).mpr ⟨hc5, hc6⟩
                unfold t_ln
                rw [if_neg n0, if_neg n1, if_neg n2, if_neg n3, if_neg n4, if_pos y5]
          · refine q_ret 2 (some (.int (4 : Int32)), g, u) (fun _ _ => rfl) ?_
            have n0 : ¬ t_is (g 74) f (e - f) (t_nm 0) = 1 := fun z => ((t_is_4 (by omega)).mp z).1 hc0
            have n1 : ¬ t_is (g 74) f (e - f) (t_nm 1) = 1 := fun z => ((t_is_4 (by omega)).mp z).1 hc1
            have n2 : ¬ t_is (g 74) f (e - f) (t_nm 2) = 1 := fun z => ((t_is_5 (by omega)).mp z).1 hc2
            have n3 : ¬ t_is (g 74) f (e - f) (t_nm 3) = 1 := fun z => ((t_is_4 (by omega)).mp z).1 hc3
            have y4 : t_is (g 74) f (e - f) (t_nm 4) = 1 := (t_is_2 (by omega)).mpr hc4
            unfold t_ln
            rw [if_neg n0, if_neg n1, if_neg n2, if_neg n3, if_pos y4]
        · refine q_step 4 97 [(0, .ref 70)] [.int (0 : Int32), .int (108 : Int32), .int (108 : Int32), .ref 70] g u (fun big n0 => sg_nm_92 big n0 g u) ?_
          refine q_call (M2 := 158) (rest := []) (r_ends g u hs h160 hf he hfe hes _ _ _) (fun _ _ => rfl) ?_
          refine q_if_eq rfl (fun (hc4 : (t_p2 (g 74) s f (108 : Int32) (108 : Int32) (0 : Int32)) = 0) => ?_) (fun (hc4 : ¬ ((t_p2 (g 74) s f (108 : Int32) (108 : Int32) (0 : Int32)) = 0)) => ?_)
          · refine q_step 4 111 [(0, .ref 70)] [.int (116 : Int32), .int (97 : Int32), .int (2 : Int32), .ref 70] g u (fun big n0 => sg_nm_87 big n0 g u) ?_
            refine q_call (M2 := 157) (rest := []) (r_is g u hs h160 hf he hfe hes 2 (by omega) _ _) (fun _ _ => rfl) ?_
            refine q_if_eq rfl (fun (hc5 : (t_p1 (g 74) s f (e - f) 2 (97 : Int32) (116 : Int32)) = 0) => ?_) (fun (hc5 : ¬ ((t_p1 (g 74) s f (e - f) 2 (97 : Int32) (116 : Int32)) = 0)) => ?_)
            · refine q_step 4 125 [(0, .ref 70)] [.int (116 : Int32), .int (115 : Int32), .int (5 : Int32), .ref 70] g u (fun big n0 => sg_nm_88 big n0 g u) ?_
              refine q_call (M2 := 157) (rest := []) (r_is g u hs h160 hf he hfe hes 5 (by omega) _ _) (fun _ _ => rfl) ?_
              refine q_if_eq rfl (fun (hc6 : (t_p1 (g 74) s f (e - f) 5 (115 : Int32) (116 : Int32)) = 0) => ?_) (fun (hc6 : ¬ ((t_p1 (g 74) s f (e - f) 5 (115 : Int32) (116 : Int32)) = 0)) => ?_)
              · refine q_step 4 154 [(0, .ref 70)] [.int (111 : Int32), .int (103 : Int32), .int (4 : Int32), .ref 70] g u (fun big n0 => sg_nm_89 big n0 g u) ?_
                refine q_call (M2 := 157) (rest := []) (r_is g u hs h160 hf he hfe hes 4 (by omega) _ _) (fun _ _ => rfl) ?_
                refine q_if_eq rfl (fun (hc7 : (t_p1 (g 74) s f (e - f) 4 (103 : Int32) (111 : Int32)) = 0) => ?_) (fun (hc7 : ¬ ((t_p1 (g 74) s f (e - f) 4 (103 : Int32) (111 : Int32)) = 0)) => ?_)
                · refine q_ret 2 (some (.int (Int8.toInt32 (Int8.ofInt (-4)))), g, u) (fun _ _ => rfl) ?_
                  have n0 : ¬ t_is (g 74) f (e - f) (t_nm 0) = 1 := fun z => ((t_is_4 (by omega)).mp z).1 hc0
                  have n1 : ¬ t_is (g 74) f (e - f) (t_nm 1) = 1 := fun z => ((t_is_4 (by omega)).mp z).1 hc1
                  have n2 : ¬ t_is (g 74) f (e - f) (t_nm 2) = 1 := fun z => ((t_is_5 (by omega)).mp z).1 hc2
                  have n3 : ¬ t_is (g 74) f (e - f) (t_nm 3) = 1 := fun z => ((t_is_4 (by omega)).mp z).2 hc4
                  have n4 : ¬ t_is (g 74) f (e - f) (t_nm 4) = 1 := fun z => ((t_is_2 (by omega)).mp z) hc5
                  have n5 : ¬ t_is (g 74) f (e - f) (t_nm 5) = 1 := fun z => ((t_is_5 (by omega)).mp z).1 hc6
                  have n6 : ¬ t_is (g 74) f (e - f) (t_nm 6) = 1 := fun z => ((t_is_4 (by omega)).mp z).1 hc7
                  unfold t_ln
                  rw [if_neg n0, if_neg n1, if_neg n2, if_neg n3, if_neg n4, if_neg n5, if_neg n6]
                  rfl
                · refine q_step 4 166 [(0, .ref 70)] [.int (0 : Int32), .int (108 : Int32), .int (97 : Int32), .ref 70] g u (fun big n0 => sg_nm_90 big n0 g u) ?_
                  refine q_call (M2 := 158) (rest := []) (r_ends g u hs h160 hf he hfe hes _ _ _) (fun _ _ => rfl) ?_
                  refine q_if_eq rfl (fun (hc8 : (t_p2 (g 74) s f (97 : Int32) (108 : Int32) (0 : Int32)) = 0) => ?_) (fun (hc8 : ¬ ((t_p2 (g 74) s f (97 : Int32) (108 : Int32) (0 : Int32)) = 0)) => ?_)
                  · refine q_ret 2 (some (.int (Int8.toInt32 (Int8.ofInt (-4)))), g, u) (fun _ _ => rfl) ?_
                    have n0 : ¬ t_is (g 74) f (e - f) (t_nm 0) = 1 := fun z => ((t_is_4 (by omega)).mp z).1 hc0
                    have n1 : ¬ t_is (g 74) f (e - f) (t_nm 1) = 1 := fun z => ((t_is_4 (by omega)).mp z).1 hc1
                    have n2 : ¬ t_is (g 74) f (e - f) (t_nm 2) = 1 := fun z => ((t_is_5 (by omega)).mp z).1 hc2
                    have n3 : ¬ t_is (g 74) f (e - f) (t_nm 3) = 1 := fun z => ((t_is_4 (by omega)).mp z).2 hc4
                    have n4 : ¬ t_is (g 74) f (e - f) (t_nm 4) = 1 := fun z => ((t_is_2 (by omega)).mp z) hc5
                    have n5 : ¬ t_is (g 74) f (e - f) (t_nm 5) = 1 := fun z => ((t_is_5 (by omega)).mp z).1 hc6
                    have n6 : ¬ t_is (g 74) f (e - f) (t_nm 6) = 1 := fun z => ((t_is_4 (by omega)).mp z).2 hc8
                    unfold t_ln
                    rw [if_neg n0, if_neg n1, if_neg n2, if_neg n3, if_neg n4, if_neg n5, if_neg n6]
                    rfl
                  · refine q_ret 3 (some (.int (6 : Int32)), g, u) (fun _ _ => rfl) ?_
                    have n0 : ¬ t_is (g 74) f (e - f) (t_nm 0) = 1 := fun z => ((t_is_4 (by omega)).mp z).1 hc0
                    have n1 : ¬ t_is (g 74) f (e - f) (t_nm 1) = 1 := fun z => ((t_is_4 (by omega)).mp z).1 hc1
                    have n2 : ¬ t_is (g 74) f (e - f) (t_nm 2) = 1 := fun z => ((t_is_5 (by omega)).mp z).1 hc2
                    have n3 : ¬ t_is (g 74) f (e - f) (t_nm 3) = 1 := fun z => ((t_is_4 (by omega)).mp z).2 hc4
                    have n4 : ¬ t_is (g 74) f (e - f) (t_nm 4) = 1 := fun z => ((t_is_2 (by omega)).mp z) hc5
                    have n5 : ¬ t_is (g 74) f (e - f) (t_nm 5) = 1 := fun z => ((t_is_5 (by omega)).mp z).1 hc6
                    have y6 : t_is (g 74) f (e - f) (t_nm 6) = 1 := (t_is_4 (by omega)).mpr ⟨hc7, hc8⟩
                    unfold t_ln
                    rw [if_neg n0, if_neg n1, if_neg n2, if_neg n3, if_neg n4, if_neg n5, if_pos y6]
              · refine q_step 4 138 [(0, .ref 70)] [.int (108 : Int32), .int (108 : Int32), .int (105 : Int32), .ref 70] g u (fun big n0 => sg_nm_91 big n0 g u) ?_
                refine q_call (M2 := 158) (rest := []) (r_ends g u hs h160 hf he hfe hes _ _ _) (fun _ _ => rfl) ?_
                refine q_if_eq rfl (fun (hc7 : (t_p2 (g 74) s f (105 : Int32) (108 : Int32) (108 : Int32)) = 0) => ?_) (fun (hc7 : ¬ ((t_p2 (g 74) s f (105 : Int32) (108 : Int32) (108 : Int32)) = 0)) => ?_)
                · refine q_step 4 154 [(0, .ref 70)] [.int (111 : Int32), .int (103 : Int32), .int (4 : Int32), .ref 70] g u (fun big n0 => sg_nm_89 big n0 g u) ?_
                  refine q_call (M2 := 157) (rest := []) (r_is g u hs h160 hf he hfe hes 4 (by omega) _ _) (fun _ _ => rfl) ?_
                  refine q_if_eq rfl (fun (hc8 : (t_p1 (g 74) s f (e - f) 4 (103 : Int32) (111 : Int32)) = 0) => ?_) (fun (hc8 : ¬ ((t_p1 (g 74) s f (e - f) 4 (103 : Int32) (111 : Int32)) = 0)) => ?_)
                  · refine q_ret 2 (some (.int (Int8.toInt32 (Int8.ofInt (-4)))), g, u) (fun _ _ => rfl) ?_
                    have n0 : ¬ t_is (g 74) f (e - f) (t_nm 0) = 1 := fun z => ((t_is_4 (by omega)).mp z).1 hc0
                    have n1 : ¬ t_is (g 74) f (e - f) (t_nm 1) = 1 := fun z => ((t_is_4 (by omega)).mp z).1 hc1
                    have n2 : ¬ t_is (g 74) f (e - f) (t_nm 2) = 1 := fun z => ((t_is_5 (by omega)).mp z).1 hc2
                    have n3 : ¬ t_is (g 74) f (e - f) (t_nm 3) = 1 := fun z => ((t_is_4 (by omega)).mp z).2 hc4
                    have n4 : ¬ t_is (g 74) f (e - f) (t_nm 4) = 1 := fun z => ((t_is_2 (by omega)).mp z) hc5
                    have n5 : ¬ t_is (g 74) f (e - f) (t_nm 5) = 1 := fun z => ((t_is_5 (by omega)).mp z).2 hc7
                    have n6 : ¬ t_is (g 74) f (e - f) (t_nm 6) = 1 := fun z => ((t_is_4 (by omega)).mp z).1 hc8
                    unfold t_ln
                    rw [if_neg n0, if_neg n1, if_neg n2, if_neg n3, if_neg n4, if_neg n5, if_neg n6]
                    rfl
                  · refine q_step 4 166 [(0, .ref 70)] [.int (0 : Int32), .int (108 : Int32), .int (97 : Int32), .ref 70] g u (fun big n0 => sg_nm_90 big n0 g u) ?_
                    refine q_call (M2 := 158) (rest := []) (r_ends g u hs h160 hf he hfe hes _ _ _) (fun _ _ => rfl) ?_
                    refine q_if_eq rfl (fun (hc9 : (t_p2 (g 74) s f (97 : Int32) (108 : Int32) (0 : Int32)) = 0) => ?_) (fun (hc9 : ¬ ((t_p2 (g 74) s f (97 : Int32) (108 : Int32) (0 : Int32)) = 0)) => ?_)
                    · refine q_ret 2 (some (.int (Int8.toInt32 (Int8.ofInt (-4)))), g, u) (fun _ _ => rfl) ?_
                      have n0 : ¬ t_is (g 74) f (e - f) (t_nm 0) = 1 := fun z => ((t_is_4 (by omega)).mp z).1 hc0
                      have n1 : ¬ t_is (g 74) f (e - f) (t_nm 1) = 1 := fun z => ((t_is_4 (by omega)).mp z).1 hc1
                      have n2 : ¬ t_is (g 74) f (e - f) (t_nm 2) = 1 := fun z => ((t_is_5 (by omega)).mp z).1 hc2
                      have n3 : ¬ t_is (g 74) f (e - f) (t_nm 3) = 1 := fun z => ((t_is_4 (by omega)).mp z).2 hc4
                      have n4 : ¬ t_is (g 74) f (e - f) (t_nm 4) = 1 := fun z => ((t_is_2 (by omega)).mp z) hc5
                      have n5 : ¬ t_is (g 74) f (e - f) (t_nm 5) = 1 := fun z => ((t_is_5 (by omega)).mp z).2 hc7
                      have n6 : ¬ t_is (g 74) f (e - f) (t_nm 6) = 1 := fun z => ((t_is_4 (by omega)).mp z).2 hc9
                      unfold t_ln
                      rw [if_neg n0, if_neg n1, if_neg n2, if_neg n3, if_neg n4, if_neg n5, if_neg n6]
                      rfl
                    · refine q_ret 3 (some (.int (6 : Int32)), g, u) (fun _ _ => rfl) ?_
                      have n0 : ¬ t_is (g 74) f (e - f) (t_nm 0) = 1 := fun z => ((t_is_4 (by omega)).mp z).1 hc0
                      have n1 : ¬ t_is (g 74) f (e - f) (t_nm 1) = 1 := fun z => ((t_is_4 (by omega)).mp z).1 hc1
                      have n2 : ¬ t_is (g 74) f (e - f) (t_nm 2) = 1 := fun z => ((t_is_5 (by omega)).mp z).1 hc2
                      have n3 : ¬ t_is (g 74) f (e - f) (t_nm 3) = 1 := fun z => ((t_is_4 (by omega)).mp z).2 hc4
                      have n4 : ¬ t_is (g 74) f (e - f) (t_nm 4) = 1 := fun z => ((t_is_2 (by omega)).mp z) hc5
                      have n5 : ¬ t_is (g 74) f (e - f) (t_nm 5) = 1 := fun z => ((t_is_5 (by omega)).mp z).2 hc7
                      have y6 : t_is (g 74) f (e - f) (t_nm 6) = 1 := (t_is_4 (by omega)).mpr ⟨hc8, hc9⟩
                      unfold t_ln
                      rw [if_neg n0, if_neg n1, if_neg n2, if_neg n3, if_neg n4, if_neg n5, if_pos y6]
                · refine q_ret 3 (some (.int (5 : Int32)), g, u) (fun _ _ => rfl) ?_
                  have n0 : ¬ t_is (g 74) f (e - f) (t_nm 0) = 1 := fun z => ((t_is_4 (by omega)).mp z).1 hc0
                  have n1 : ¬ t_is (g 74) f (e - f) (t_nm 1) = 1 := fun z => ((t_is_4 (by omega)).mp z).1 hc1
                  have n2 : ¬ t_is (g 74) f (e - f) (t_nm 2) = 1 := fun z => ((t_is_5 (by omega)).mp z).1 hc2
                  have n3 : ¬ t_is (g 74) f (e - f) (t_nm 3) = 1 := fun z => ((t_is_4 (by omega)).mp z).2 hc4
                  have n4 : ¬ t_is (g 74) f (e - f) (t_nm 4) = 1 := fun z => ((t_is_2 (by omega)).mp z) hc5
                  have y5 : t_is (g 74) f (e - f) (t_nm 5) = 1 := (t_is_5 (by omega)).mpr ⟨hc6, hc7⟩
                  unfold t_ln
                  rw [if_neg n0, if_neg n1, if_neg n2, if_neg n3, if_neg n4, if_pos y5]
            · refine q_ret 2 (some (.int (4 : Int32)), g, u) (fun _ _ => rfl) ?_
              have n0 : ¬ t_is (g 74) f (e - f) (t_nm 0) = 1 := fun z => ((t_is_4 (by omega)).mp z).1 hc0
              have n1 : ¬ t_is (g 74) f (e - f) (t_nm 1) = 1 := fun z => ((t_is_4 (by omega)).mp z).1 hc1
              have n2 : ¬ t_is (g 74) f (e - f) (t_nm 2) = 1 := fun z => ((t_is_5 (by omega)).mp z).1 hc2
              have n3 : ¬ t_is (g 74) f (e - f) (t_nm 3) = 1 := fun z => ((t_is_4 (by omega)).mp z).2 hc4
              have y4 : t_is (g 74) f (e - f) (t_nm 4) = 1 := (t_is_2 (by omega)).mpr hc5
              unfold t_ln
              rw [if_neg n0, if_neg n1, if_neg n2, if_neg n3, if_pos y4]
          · refine q_ret 2 (some (.int (3 : Int32)), g, u) (fun _ _ => rfl) ?_
            have n0 : ¬ t_is (g 74) f (e - f) (t_nm 0) = 1 := fun z => ((t_is_4 (by omega)).mp z).1 hc0
            have n1 : ¬ t_is (g 74) f (e - f) (t_nm 1) = 1 := fun z => ((t_is_4 (by omega)).mp z).1 hc1
            have n2 : ¬ t_is (g 74) f (e - f) (t_nm 2) = 1 := fun z => ((t_is_5 (by omega)).mp z).1 hc2
            have y3 : t_is (g 74) f (e - f) (t_nm 3) = 1 := (t_is_4 (by omega)).mpr ⟨hc3, hc4⟩
            unfold t_ln
            rw [if_neg n0, if_neg n1, if_neg n2, if_pos y3]
      · refine q_step 4 71 [(0, .ref 70)] [.int (115 : Int32), .int (115 : Int32), .int (101 : Int32), .ref 70] g u (fun big n0 => sg_nm_93 big n0 g u) ?_
        refine q_call (M2 := 158) (rest := []) (r_ends g u hs h160 hf he hfe hes _ _ _) (fun _ _ => rfl) ?_
        refine q_if_eq rfl (fun (hc3 : (t_p2 (g 74) s f (101 : Int32) (115 : Int32) (115 : Int32)) = 0) => ?_) (fun (hc3 : ¬ ((t_p2 (g 74) s f (101 : Int32) (115 : Int32) (115 : Int32)) = 0)) => ?_)
        · refine q_step 4 85 [(0, .ref 70)] [.int (97 : Int32), .int (119 : Int32), .int (4 : Int32), .ref 70] g u (fun big n0 => sg_nm_86 big n0 g u) ?_
          refine q_call (M2 := 157) (rest := []) (r_is g u hs h160 hf he hfe hes 4 (by omega) _ _) (fun _ _ => rfl) ?_
          refine q_if_eq rfl (fun (hc4 : (t_p1 (g 74) s f (e - f) 4 (119 : Int32) (97 : Int32)) = 0) => ?_) (fun (hc4 : ¬ ((t_p1 (g 74) s f (e - f) 4 (119 : Int32) (97 : Int32)) = 0)) => ?_)
          · refine q_step 4 111 [(0, .ref 70)] [.int (116 : Int32), .int (97 : Int32), .int (2 : Int32), .ref 70] g u (fun big n0 => sg_nm_87 big n0 g u) ?_
            refine q_call (M2 := 157) (rest := []) (r_is g u hs h160 hf he hfe hes 2 (by omega) _ _) (fun _ _ => rfl) ?_
            refine q_if_eq rfl (fun (hc5 : (t_p1 (g 74) s f (e - f) 2 (97 : Int32) (116 : Int32)) = 0) => ?_) (fun (hc5 : ¬ ((t_p1 (g 74) s f (e - f) 2 (97 : Int32) (116 : Int32)) = 0)) => ?_)
            · refine q_step 4 125 [(0, .ref 70)] [.int (116 : Int32), .int (115 : Int32), .int (5 : Int32), .ref 70] g u (fun big n0 => sg_nm_88 big n0 g u) ?_
              refine q_call (M2 := 157) (rest := []) (r_is g u hs h160 hf he hfe hes 5 (by omega) _ _) (fun _ _ => rfl) ?_
              refine q_if_eq rfl (fun (hc6 : (t_p1 (g 74) s f (e - f) 5 (115 : Int32) (116 : Int32)) = 0) => ?_) (fun (hc6 : ¬ ((t_p1 (g 74) s f (e - f) 5 (115 : Int32) (116 : Int32)) = 0)) => ?_)
              · refine q_step 4 154 [(0, .ref 70)] [.int (111 : Int32), .int (103 : Int32), .int (4 : Int32), .ref 70] g u (fun big n0 => sg_nm_89 big n0 g u) ?_
                refine q_call (M2 := 157) (rest := []) (r_is g u hs h160 hf he hfe hes 4 (by omega) _ _) (fun _ _ => rfl) ?_
                refine q_if_eq rfl (fun (hc7 : (t_p1 (g 74) s f (e - f) 4 (103 : Int32) (111 : Int32)) = 0) => ?_) (fun (hc7 : ¬ ((t_p1 (g 74) s f (e - f) 4 (103 : Int32) (111 : Int32)) = 0)) => ?_)
                · refine q_ret 2 (some (.int (Int8.toInt32 (Int8.ofInt (-4)))), g, u) (fun _ _ => rfl) ?_
                  have n0 : ¬ t_is (g 74) f (e - f) (t_nm 0) = 1 := fun z => ((t_is_4 (by omega)).mp z).1 hc0
                  have n1 : ¬ t_is (g 74) f (e - f) (t_nm 1) = 1 := fun z => ((t_is_4 (by omega)).mp z).1 hc1
                  have n2 : ¬ t_is (g 74) f (e - f) (t_nm 2) = 1 := fun z => ((t_is_5 (by omega)).mp z).2 hc3
                  have n3 : ¬ t_is (g 74) f (e - f) (t_nm 3) = 1 := fun z => ((t_is_4 (by omega)).mp z).1 hc4
                  have n4 : ¬ t_is (g 74) f (e - f) (t_nm 4) = 1 := fun z => ((t_is_2 (by omega)).mp z) hc5
                  have n5 : ¬ t_is (g 74) f (e - f) (t_nm 5) = 1 := fun z => ((t_is_5 (by omega)).mp z).1 hc6
                  have n6 : ¬ t_is (g 74) f (e - f) (t_nm 6) = 1 := fun z => ((t_is_4 (by omega)).mp z).1 hc7
                  unfold t_ln
                  rw [if_neg n0, if_neg n1, if_neg n2, if_neg n3, if_neg n4, if_neg n5, if_neg n6]
                  rfl
                · refine q_step 4 166 [(0, .ref 70)] [.int (0 : Int32), .int (108 : Int32), .int (97 : Int32), .ref 70] g u (fun big n0 => sg_nm_90 big n0 g u) ?_
                  refine q_call (M2 := 158) (rest := []) (r_ends g u hs h160 hf he hfe hes _ _ _) (fun _ _ => rfl) ?_
                  refine q_if_eq rfl (fun (hc8 : (t_p2 (g 74) s f (97 : Int32) (108 : Int32) (0 : Int32)) = 0) => ?_) (fun (hc8 : ¬ ((t_p2 (g 74) s f (97 : Int32) (108 : Int32) (0 : Int32)) = 0)) => ?_)
                  · refine q_ret 2 (some (.int (Int8.toInt32 (Int8.ofInt (-4)))), g, u) (fun _ _ => rfl) ?_
                    have n0 : ¬ t_is (g 74) f (e - f) (t_nm 0) = 1 := fun z => ((t_is_4 (by omega)).mp z).1 hc0
                    have n1 : ¬ t_is (g 74) f (e - f) (t_nm 1) = 1 := fun z => ((t_is_4 (by omega)).mp z).1 hc1
                    have n2 : ¬ t_is (g 74) f (e - f) (t_nm 2) = 1 := fun z => ((t_is_5 (by omega)).mp z).2 hc3
                    have n3 : ¬ t_is (g 74) f (e - f) (t_nm 3) = 1 := fun z => ((t_is_4 (by omega)).mp z).1 hc4
                    have n4 : ¬ t_is (g 74) f (e - f) (t_nm 4) = 1 := fun z => ((t_is_2 (by omega)).mp z) hc5
                    have n5 : ¬ t_is (g 74) f (e - f) (t_nm 5) = 1 := fun z => ((t_is_5 (by omega)).mp z).1 hc6
                    have n6 : ¬ t_is (g 74) f (e - f) (t_nm 6) = 1 := fun z => ((t_is_4 (by omega)).mp z).2 hc8
                    unfold t_ln
                    rw [if_neg n0, if_neg n1, if_neg n2, if_neg n3, if_neg n4, if_neg n5, if_neg n6]
                    rfl
                  · refine q_ret 3 (some (.int (6 : Int32)), g, u) (fun _ _ => rfl) ?_
                    have n0 : ¬ t_is (g 74) f (e - f) (t_nm 0) = 1 := fun z => ((t_is_4 (by omega)).mp z).1 hc0
                    have n1 : ¬ t_is (g 74) f (e - f) (t_nm 1) = 1 := fun z => ((t_is_4 (by omega)).mp z).1 hc1
                    have n2 : ¬ t_is (g 74) f (e - f) (t_nm 2) = 1 := fun z => ((t_is_5 (by omega)).mp z).2 hc3
                    have n3 : ¬ t_is (g 74) f (e - f) (t_nm 3) = 1 := fun z => ((t_is_4 (by omega)).mp z).1 hc4
                    have n4 : ¬ t_is (g 74) f (e - f) (t_nm 4) = 1 := fun z => ((t_is_2 (by omega)).mp z) hc5
                    have n5 : ¬ t_is (g 74) f (e - f) (t_nm 5) = 1 := fun z => ((t_is_5 (by omega)).mp z).1 hc6
                    have y6 : t_is (g 74) f (e - f) (t_nm 6) = 1 := (t_is_4 (by omega)).mpr ⟨hc7, hc8⟩
                    unfold t_ln
                    rw [if_neg n0, if_neg n1, if_neg n2, if_neg n3, if_neg n4, if_neg n5, if_pos y6]
              · refine q_step 4 138 [(0, .ref 70)] [.int (108 : Int32), .int (108 : Int32), .int (105 : Int32), .ref 70] g u (fun big n0 => sg_nm_91 big n0 g u) ?_
                refine q_call (M2 := 158) (rest := []) (r_ends g u hs h160 hf he hfe hes _ _ _) (fun _ _ => rfl) ?_
                refine q_if_eq rfl (fun (hc7 : (t_p2 (g 74) s f (105 : Int32) (108 : Int32) (108 : Int32)) = 0) => ?_) (fun (hc7 : ¬ ((t_p2 (g 74) s f (105 : Int32) (108 : Int32) (108 : Int32)) = 0)) => ?_)
                · refine q_step 4 154 [(0, .ref 70)] [.int (111 : Int32), .int (103 : Int32), .int (4 : Int32), .ref 70] g u (fun big n0 => sg_nm_89 big n0 g u) ?_
                  refine q_call (M2 := 157) (rest := []) (r_is g u hs h160 hf he hfe hes 4 (by omega) _ _) (fun _ _ => rfl) ?_
                  refine q_if_eq rfl (fun (hc8 : (t_p1 (g 74) s f (e - f) 4 (103 : Int32) (111 : Int32)) = 0) => ?_) (fun (hc8 : ¬ ((t_p1 (g 74) s f (e - f) 4 (103 : Int32) (111 : Int32)) = 0)) => ?_)
                  · refine q_ret 2 (some (.int (Int8.toInt32 (Int8.ofInt (-4)))), g, u) (fun _ _ => rfl) ?_
                    have n0 : ¬ t_is (g 74) f (e - f) (t_nm 0) = 1 := fun z => ((t_is_4 (by omega)).mp z).1 hc0
                    have n1 : ¬ t_is (g 74) f (e - f) (t_nm 1) = 1 := fun z => ((t_is_4 (by omega)).mp z).1 hc1
                    have n2 : ¬ t_is (g 74) f (e - f) (t_nm 2) = 1 := fun z => ((t_is_5 (by omega)).mp z).2 hc3
                    have n3 : ¬ t_is (g 74) f (e - f) (t_nm 3) = 1 := fun z => ((t_is_4 (by omega)).mp z).1 hc4
                    have n4 : ¬ t_is (g 74) f (e - f) (t_nm 4) = 1 := fun z => ((t_is_2 (by omega)).mp z) hc5
                    have n5 : ¬ t_is (g 74) f (e - f) (t_nm 5) = 1 := fun z => ((t_is_5 (by omega)).mp z).2 hc7
                    have n6 : ¬ t_is (g 74) f (e - f) (t_nm 6) = 1 := fun z => ((t_is_4 (by omega)).mp z).1 hc8
                    unfold t_ln
                    rw [if_neg n0, if_neg n1, if_neg n2, if_neg n3, if_neg n4, if_neg n5, if_neg n6]
                    rfl
                  · refine q_step 4 166 [(0, .ref 70)] [.int (0 : Int32), .int (108 : Int32), .int (97 : Int32), .ref 70] g u (fun big n0 => sg_nm_90 big n0 g u) ?_
                    refine q_call (M2 := 158) (rest := []) (r_ends g u hs h160 hf he hfe hes _ _ _) (fun _ _ => rfl) ?_
                    refine q_if_eq rfl (fun (hc9 : (t_p2 (g 74) s f (97 : Int32) (108 : Int32) (0 : Int32)) = 0) => ?_) (fun (hc9 : ¬ ((t_p2 (g 74) s f (97 : Int32) (108 : Int32) (0 : Int32)) = 0)) => ?_)
                    · refine q_ret 2 (some (.int (Int8.toInt32 (Int8.ofInt (-4)))), g, u) (fun _ _ => rfl) ?_
                      have n0 : ¬ t_is (g 74) f (e - f) (t_nm 0) = 1 := fun z => ((t_is_4 (by omega)).mp z).1 hc0
                      have n1 : ¬ t_is (g 74) f (e - f) (t_nm 1) = 1 := fun z => ((t_is_4 (by omega)).mp z).1 hc1
                      have n2 : ¬ t_is (g 74) f (e - f) (t_nm 2) = 1 := fun z => ((t_is_5 (by omega)).mp z).2 hc3
                      have n3 : ¬ t_is (g 74) f (e - f) (t_nm 3) = 1 := fun z => ((t_is_4 (by omega)).mp z).1 hc4
                      have n4 : ¬ t_is (g 74) f (e - f) (t_nm 4) = 1 := fun z => ((t_is_2 (by omega)).mp z) hc5
                      have n5 : ¬ t_is (g 74) f (e - f) (t_nm 5) = 1 := fun z => ((t_is_5 (by omega)).mp z).2 hc7
                      have n6 : ¬ t_is (g 74) f (e - f) (t_nm 6) = 1 := fun z => ((t_is_4 (by omega)).mp z).2 hc9
                      unfold t_ln
                      rw [if_neg n0, if_neg n1, if_neg n2, if_neg n3, if_neg n4, if_neg n5, if_neg n6]
                      rfl
                    · refine q_ret 3 (some (.int (6 : Int32)), g, u) (fun _ _ => rfl) ?_
                      have n0 : ¬ t_is (g 74) f (e - f) (t_nm 0) = 1 := fun z => ((t_is_4 (by omega)).mp z).1 hc0
                      have n1 : ¬ t_is (g 74) f (e - f) (t_nm 1) = 1 := fun z => ((t_is_4 (by omega)).mp z).1 hc1
                      have n2 : ¬ t_is (g 74) f (e - f) (t_nm 2) = 1 := fun z => ((t_is_5 (by omega)).mp z).2 hc3
                      have n3 : ¬ t_is (g 74) f (e - f) (t_nm 3) = 1 := fun z => ((t_is_4 (by omega)).mp z).1 hc4
                      have n4 : ¬ t_is (g 74) f (e - f) (t_nm 4) = 1 := fun z => ((t_is_2 (by omega)).mp z) hc5
                      have n5 : ¬ t_is (g 74) f (e - f) (t_nm 5) = 1 := fun z => ((t_is_5 (by omega)).mp z).2 hc7
                      have y6 : t_is (g 74) f (e - f) (t_nm 6) = 1 := (t_is_4 (by omega)).mpr ⟨hc8, hc9⟩
                      unfold t_ln
                      rw [if_neg n0, if_neg n1, if_neg n2, if_neg n3, if_neg n4, if_neg n5, if_pos y6]
                · refine q_ret 3 (some (.int (5 : Int32)), g, u) (fun _ _ => rfl) ?_
                  have n0 : ¬ t_is (g 74) f (e - f) (t_nm 0) = 1 := fun z => ((t_is_4 (by omega)).mp z).1 hc0
                  have n1 : ¬ t_is (g 74) f (e - f) (t_nm 1) = 1 := fun z => ((t_is_4 (by omega)).mp z).1 hc1
                  have n2 : ¬ t_is (g 74) f (e - f) (t_nm 2) = 1 := fun z => ((t_is_5 (by omega)).mp z).2 hc3
                  have n3 : ¬ t_is (g 74) f (e - f) (t_nm 3) = 1 := fun z => ((t_is_4 (by omega)).mp z).1 hc4
                  have n4 : ¬ t_is (g 74) f (e - f) (t_nm 4) = 1 := fun z => ((t_is_2 (by omega)).mp z) hc5
                  have y5 : t_is (g 74) f (e - f) (t_nm 5) = 1 := (t_is_5 (by omega)).mpr ⟨hc6, hc7⟩
                  unfold t_ln
                  rw [if_neg n0, if_neg n1, if_neg n2, if_neg n3, if_neg n4, if_pos y5]
            · refine q_ret 2 (some (.int (4 : Int32)), g, u) (fun _ _ => rfl) ?_
              have n0 : ¬ t_is (g 74) f (e - f) (t_nm 0) = 1 := fun z => ((t_is_4 (by omega)).mp z).1 hc0
              have n1 : ¬ t_is (g 74) f (e - f) (t_nm 1) = 1 := fun z => ((t_is_4 (by omega)).mp z).1 hc1
              have n2 : ¬ t_is (g 74) f (e - f) (t_nm 2) = 1 := fun z => ((t_is_5 (by omega)).mp z).2 hc3
              have n3 : ¬ t_is (g 74) f (e - f) (t_nm 3) = 1 := fun z => ((t_is_4 (by omega)).mp z).1 hc4
              have y4 : t_is (g 74) f (e - f) (t_nm 4) = 1 := (t_is_2 (by omega)).mpr hc5
              unfold t_ln
              rw [if_neg n0, if_neg n1, if_neg n2, if_neg n3, if_pos y4]
          · refine q_step 4 97 [(0, .ref 70)] [.int (0 : Int32), .int (108 : Int32), .int (108 : Int32), .ref 70] g u (fun big n0 => sg_nm_92 big n0 g u) ?_
            refine q_call (M2 := 158) (rest := []) (r_ends g u hs h160 hf he hfe hes _ _ _) (fun _ _ => rfl) ?_
            refine q_if_eq rfl (fun (hc5 : (t_p2 (g 74) s f (108 : Int32) (108 : Int32) (0 : Int32)) = 0) => ?_) (fun (hc5 : ¬ ((t_p2 (g 74) s f (108 : Int32) (108 : Int32) (0 : Int32)) = 0)) => ?_)
            · refine q_step 4 111 [(0, .ref 70)] [.int (116 : Int32), .int (97 : Int32), .int (2 : Int32), .ref 70] g u (fun big n0 => sg_nm_87 big n0 g u) ?_
              refine q_call (M2 := 157) (rest := []) (r_is g u hs h160 hf he hfe hes 2 (by omega) _ _) (fun _ _ => rfl) ?_
              refine q_if_eq rfl (fun (hc6 : (t_p1 (g 74) s f (e - f) 2 (97 : Int32) (116 : Int32)) = 0) => ?_) (fun (hc6 : ¬ ((t_p1 (g 74) s f (e - f) 2 (97 : Int32) (116 : Int32)) = 0)) => ?_)
              · refine q_step 4 125 [(0, .ref 70)] [.int (116 : Int32), .int (115 : Int32), .int (5 : Int32), .ref 70] g u (fun big n0 => sg_nm_88 big n0 g u) ?_
                refine q_call (M2 := 157) (rest := []) (r_is g u hs h160 hf he hfe hes 5 (by omega) _ _) (fun _ _ => rfl) ?_
                refine q_if_eq rfl (fun (hc7 : (t_p1 (g 74) s f (e - f) 5 (115 : Int32) (116 : Int32)) = 0) => ?_) (fun (hc7 : ¬ ((t_p1 (g 74) s f (e - f) 5 (115 : Int32) (116 : Int32)) = 0)) => ?_)
                · refine q_step 4 154 [(0, .ref 70)] [.int (111 : Int32), .int (103 : Int32), .int (4 : Int32), .ref 70] g u (fun big n0 => sg_nm_89 big n0 g u) ?_
                  refine q_call (M2 := 157) (rest := []) (r_is g u hs h160 hf he hfe hes 4 (by omega) _ _) (fun _ _ => rfl) ?_
                  refine q_if_eq rfl (fun (hc8 : (t_p1 (g 74) s f (e - f) 4 (103 : Int32) (111 : Int32)) = 0) => ?_) (fun (hc8 : ¬ ((t_p1 (g 74) s f (e - f) 4 (103 : Int32) (111 : Int32)) = 0)) => ?_)
                  · refine q_ret 2 (some (.int (Int8.toInt32 (Int8.ofInt (-4)))), g, u) (fun _ _ => rfl) ?_
                    have n0 : ¬ t_is (g 74) f (e - f) (t_nm 0) = 1 := fun z => ((t_is_4 (by omega)).mp z).1 hc0
                    have n1 : ¬ t_is (g 74) f (e - f) (t_nm 1) = 1 := fun z => ((t_is_4 (by omega)).mp z).1 hc1
                    have n2 : ¬ t_is (g 74) f (e - f) (t_nm 2) = 1 := fun z => ((t_is_5 (by omega)).mp z).2 hc3
                    have n3 : ¬ t_is (g 74) f (e - f) (t_nm 3) = 1 := fun z => ((t_is_4 (by omega)).mp z).2 hc5
                    have n4 : ¬ t_is (g 74) f (e - f) (t_nm 4) = 1 := fun z => ((t_is_2 (by omega)).mp z) hc6
                    have n5 : ¬ t_is (g 74) f (e - f) (t_nm 5) = 1 := fun z => ((t_is_5 (by omega)).mp z).1 hc7
                    have n6 : ¬ t_is (g 74) f (e - f) (t_nm 6) = 1 := fun z => ((t_is_4 (by omega)).mp z).1 hc8
                    unfold t_ln
                    rw [if_neg n0, if_neg n1, if_neg n2, if_neg n3, if_neg n4, if_neg n5, if_neg n6]
                    rfl
                  · refine q_step 4 166 [(0, .ref 70)] [.int (0 : Int32), .int (108 : Int32), .int (97 : Int32), .ref 70] g u (fun big n0 => sg_nm_90 big n0 g u) ?_
                    refine q_call (M2 := 158) (rest := []) (r_ends g u hs h160 hf he hfe hes _ _ _) (fun _ _ => rfl) ?_
                    refine q_if_eq rfl (fun (hc9 : (t_p2 (g 74) s f (97 : Int32) (108 : Int32) (0 : Int32)) = 0) => ?_) (fun (hc9 : ¬ ((t_p2 (g 74) s f (97 : Int32) (108 : Int32) (0 : Int32)) = 0)) => ?_)
                    · refine q_ret 2 (some (.int (Int8.toInt32 (Int8.ofInt (-4)))), g, u) (fun _ _ => rfl) ?_
                      have n0 : ¬ t_is (g 74) f (e - f) (t_nm 0) = 1 := fun z => ((t_is_4 (by omega)).mp z).1 hc0
                      have n1 : ¬ t_is (g 74) f (e - f) (t_nm 1) = 1 := fun z => ((t_is_4 (by omega)).mp z).1 hc1
                      have n2 : ¬ t_is (g 74) f (e - f) (t_nm 2) = 1 := fun z => ((t_is_5 (by omega)).mp z).2 hc3
                      have n3 : ¬ t_is (g 74) f (e - f) (t_nm 3) = 1 := fun z => ((t_is_4 (by omega)).mp z).2 hc5
                      have n4 : ¬ t_is (g 74) f (e - f) (t_nm 4) = 1 := fun z => ((t_is_2 (by omega)).mp z) hc6
                      have n5 : ¬ t_is (g 74) f (e - f) (t_nm 5) = 1 := fun z => ((t_is_5 (by omega)).mp z).1 hc7
                      have n6 : ¬ t_is (g 74) f (e - f) (t_nm 6) = 1 := fun z => ((t_is_4 (by omega)).mp z).2 hc9
                      unfold t_ln
                      rw [if_neg n0, if_neg n1, if_neg n2, if_neg n3, if_neg n4, if_neg n5, if_neg n6]
                      rfl
                    · refine q_ret 3 (some (.int (6 : Int32)), g, u) (fun _ _ => rfl) ?_
                      have n0 : ¬ t_is (g 74) f (e - f) (t_nm 0) = 1 := fun z => ((t_is_4 (by omega)).mp z).1 hc0
                      have n1 : ¬ t_is (g 74) f (e - f) (t_nm 1) = 1 := fun z => ((t_is_4 (by omega)).mp z).1 hc1
                      have n2 : ¬ t_is (g 74) f (e - f) (t_nm 2) = 1 := fun z => ((t_is_5 (by omega)).mp z).2 hc3
                      have n3 : ¬ t_is (g 74) f (e - f) (t_nm 3) = 1 := fun z => ((t_is_4 (by omega)).mp z).2 hc5
                      have n4 : ¬ t_is (g 74) f (e - f) (t_nm 4) = 1 := fun z => ((t_is_2 (by omega)).mp z) hc6
                      have n5 : ¬ t_is (g 74) f (e - f) (t_nm 5) = 1 := fun z => ((t_is_5 (by omega)).mp z).1 hc7
                      have y6 : t_is (g 74) f (e - f) (t_nm 6) = 1 := (t_is_4 (by omega)).mpr ⟨hc8, hc9⟩
                      unfold t_ln
                      rw [if_neg n0, if_neg n1, if_neg n2, if_neg n3, if_neg n4, if_neg n5, if_pos y6]
                · refine q_step 4 138 [(0, .ref 70)] [.int (108 : Int32), .int (108 : Int32), .int (105 : Int32), .ref 70] g u (fun big n0 => sg_nm_91 big n0 g u) ?_
                  refine q_call (M2 := 158) (rest := []) (r_ends g u hs h160 hf he hfe hes _ _ _) (fun _ _ => rfl) ?_
                  refine q_if_eq rfl (fun (hc8 : (t_p2 (g 74) s f (105 : Int32) (108 : Int32) (108 : Int32)) = 0) => ?_) (fun (hc8 : ¬ ((t_p2 (g 74) s f (105 : Int32) (108 : Int32) (108 : Int32)) = 0)) => ?_)
                  · refine q_step 4 154 [(0, .ref 70)] [.int (111 : Int32), .int (103 : Int32), .int (4 : Int32), .ref 70] g u (fun big n0 => sg_nm_89 big n0 g u) ?_
                    refine q_call (M2 := 157) (rest := []) (r_is g u hs h160 hf he hfe hes 4 (by omega) _ _) (fun _ _ => rfl) ?_
                    refine q_if_eq rfl (fun (hc9 : (t_p1 (g 74) s f (e - f) 4 (103 : Int32) (111 : Int32)) = 0) => ?_) (fun (hc9 : ¬ ((t_p1 (g 74) s f (e - f) 4 (103 : Int32) (111 : Int32)) = 0)) => ?_)
                    · refine q_ret 2 (some (.int (Int8.toInt32 (Int8.ofInt (-4)))), g, u) (fun _ _ => rfl) ?_
                      have n0 : ¬ t_is (g 74) f (e - f) (t_nm 0) = 1 := fun z => ((t_is_4 (by omega)).mp z).1 hc0
                      have n1 : ¬ t_is (g 74) f (e - f) (t_nm 1) = 1 := fun z => ((t_is_4 (by omega)).mp z).1 hc1
                      have n2 : ¬ t_is (g 74) f (e - f) (t_nm 2) = 1 := fun z => ((t_is_5 (by omega)).mp z).2 hc3
                      have n3 : ¬ t_is (g 74) f (e - f) (t_nm 3) = 1 := fun z => ((t_is_4 (by omega)).mp z).2 hc5
                      have n4 : ¬ t_is (g 74) f (e - f) (t_nm 4) = 1 := fun z => ((t_is_2 (by omega)).mp z) hc6
                      have n5 : ¬ t_is (g 74) f (e - f) (t_nm 5) = 1 := fun z => ((t_is_5 (by omega)).mp z).2 hc8
                      have n6 : ¬ t_is (g 74) f (e - f) (t_nm 6) = 1 := fun z => ((t_is_4 (by omega)).mp z).1 hc9
                      unfold t_ln
                      rw [if_neg n0, if_neg n1, if_neg n2, if_neg n3, if_neg n4, if_neg n5, if_neg n6]
                      rfl
                    · refine q_step 4 166 [(0, .ref 70)] [.int (0 : Int32), .int (108 : Int32), .int (97 : Int32), .ref 70] g u (fun big n0 => sg_nm_90 big n0 g u) ?_
                      refine q_call (M2 := 158) (rest := []) (r_ends g u hs h160 hf he hfe hes _ _ _) (fun _ _ => rfl) ?_
                      refine q_if_eq rfl (fun (hc10 : (t_p2 (g 74) s f (97 : Int32) (108 : Int32) (0 : Int32)) = 0) => ?_) (fun (hc10 : ¬ ((t_p2 (g 74) s f (97 : Int32) (108 : Int32) (0 : Int32)) = 0)) => ?_)
                      · refine q_ret 2 (some (.int (Int8.toInt32 (Int8.ofInt (-4)))), g, u) (fun _ _ => rfl) ?_
                        have n0 : ¬ t_is (g 74) f (e - f) (t_nm 0) = 1 := fun z => ((t_is_4 (by omega)).mp z).1 hc0
                        have n1 : ¬ t_is (g 74) f (e - f) (t_nm 1) = 1 := fun z => ((t_is_4 (by omega)).mp z).1 hc1
                        have n2 : ¬ t_is (g 74) f (e - f) (t_nm 2) = 1 := fun z => ((t_is_5 (by omega)).mp z).2 hc3
                        have n3 : ¬ t_is (g 74) f (e - f) (t_nm 3) = 1 := fun z => ((t_is_4 (by omega)).mp z).2 hc5
                        have n4 : ¬ t_is (g 74) f (e - f) (t_nm 4) = 1 := fun z => ((t_is_2 (by omega)).mp z) hc6
                        have n5 : ¬ t_is (g 74) f (e - f) (t_nm 5) = 1 := fun z => ((t_is_5 (by omega)).mp z).2 hc8
                        have n6 : ¬ t_is (g 74) f (e - f) (t_nm 6) = 1 := fun z => ((t_is_4 (by omega)).mp z).2 hc10
                        unfold t_ln
                        rw [if_neg n0, if_neg n1, if_neg n2, if_neg n3, if_neg n4, if_neg n5, if_neg n6]
                        rfl
                      · refine q_ret 3 (some (.int (6 : Int32)), g, u) (fun _ _ => rfl) ?_
                        have n0 : ¬ t_is (g 74) f (e - f) (t_nm 0) = 1 := fun z => ((t_is_4 (by omega)).mp z).1 hc0
                        have n1 : ¬ t_is (g 74) f (e - f) (t_nm 1) = 1 := fun z => ((t_is_4 (by omega)).mp z).1 hc1
                        have n2 : ¬ t_is (g 74) f (e - f) (t_nm 2) = 1 := fun z => ((t_is_5 (by omega)).mp z).2 hc3
                        have n3 : ¬ t_is (g 74) f (e - f) (t_nm 3) = 1 := fun z => ((t_is_4 (by omega)).mp z).2 hc5
                        have n4 : ¬ t_is (g 74) f (e - f) (t_nm 4) = 1 := fun z => ((t_is_2 (by omega)).mp z) hc6
                        have n5 : ¬ t_is (g 74) f (e - f) (t_nm 5) = 1 := fun z => ((t_is_5 (by omega)).mp z).2 hc8
                        have y6 : t_is (g 74) f (e - f) (t_nm 6) = 1 := (t_is_4 (by omega)).mpr ⟨hc9, hc10⟩
                        unfold t_ln
                        rw [if_neg n0, if_neg n1, if_neg n2, if_neg n3, if_neg n4, if_neg n5, if_pos y6]
                  · refine q_ret 3 (some (.int (5 : Int32)), g, u) (fun _ _ => rfl) ?_
                    have n0 : ¬ t_is (g 74) f (e - f) (t_nm 0) = 1 := fun z => ((t_is_4 (by omega)).mp z).1 hc0
                    have n1 : ¬ t_is (g 74) f (e - f) (t_nm 1) = 1 := fun z => ((t_is_4 (by omega)).mp z).1 hc1
                    have n2 : ¬ t_is (g 74) f (e - f) (t_nm 2) = 1 := fun z => ((t_is_5 (by omega)).mp z).2 hc3
                    have n3 : ¬ t_is (g 74) f (e - f) (t_nm 3) = 1 := fun z => ((t_is_4 (by omega)).mp z).2 hc5
                    have n4 : ¬ t_is (g 74) f (e - f) (t_nm 4) = 1 := fun z => ((t_is_2 (by omega)).mp z) hc6
                    have y5 : t_is (g 74) f (e - f) (t_nm 5) = 1 := (t_is_5 (by omega)).mpr ⟨hc7, hc8⟩
                    unfold t_ln
                    rw [if_neg n0, if_neg n1, if_neg n2, if_neg n3, if_neg n4, if_pos y5]
              · refine q_ret 2 (some (.int (4 : Int32)), g, u) (fun _ _ => rfl) ?_
                have n0 : ¬ t_is (g 74) f (e - f) (t_nm 0) = 1 := fun z => ((t_is_4 (by omega)).mp z).1 hc0
                have n1 : ¬ t_is (g 74) f (e - f) (t_nm 1) = 1 := fun z => ((t_is_4 (by omega)).mp z).1 hc1
                have n2 : ¬ t_is (g 74) f (e - f) (t_nm 2) = 1 := fun z => ((t_is_5 (by omega)).mp z).2 hc3
                have n3 : ¬ t_is (g 74) f (e - f) (t_nm 3) = 1 := fun z => ((t_is_4 (by omega)).mp z).2 hc5
                have y4 : t_is (g 74) f (e - f) (t_nm 4) = 1 := (t_is_2 (by omega)).mpr hc6
                unfold t_ln
                rw [if_neg n0, if_neg n1, if_neg n2, if_neg n3, if_pos y4]
            · refine q_ret 2 (some (.int (3 : Int32)), g, u) (fun _ _ => rfl) ?_
              have n0 : ¬ t_is (g 74) f (e - f) (t_nm 0) = 1 := fun z => ((t_is_4 (by omega)).mp z).1 hc0
              have n1 : ¬ t_is (g 74) f (e - f) (t_nm 1) = 1 := fun z => ((t_is_4 (by omega)).mp z).1 hc1
              have n2 : ¬ t_is (g 74) f (e - f) (t_nm 2) = 1 := fun z => ((t_is_5 (by omega)).mp z).2 hc3
              have y3 : t_is (g 74) f (e - f) (t_nm 3) = 1 := (t_is_4 (by omega)).mpr ⟨hc4, hc5⟩
              unfold t_ln
              rw [if_neg n0, if_neg n1, if_neg n2, if_pos y3]
        · refine q_ret 2 (some (.int (2 : Int32)), g, u) (fun _ _ => rfl) ?_
          have n0 : ¬ t_is (g 74) f (e - f) (t_nm 0) = 1 := fun z => ((t_is_4 (by omega)).mp z).1 hc0
          have n1 : ¬ t_is (g 74) f (e - f) (t_nm 1) = 1 := fun z => ((t_is_4 (by omega)).mp z).1 hc1
          have y2 : t_is (g 74) f (e - f) (t_nm 2) = 1 := (t_is_5 (by omega)).mpr ⟨hc2, hc3⟩
          unfold t_ln
          rw [if_neg n0, if_neg n1, if_pos y2]
    · refine q_step 4 44 [(0, .ref 70)] [.int (0 : Int32), .int (108 : Int32), .int (108 : Int32), .ref 70] g u (fun big n0 => sg_nm_94 big n0 g u) ?_
      refine q_call (M2 := 158) (rest := []) (r_ends g u hs h160 hf he hfe hes _ _ _) (fun _ _ => rfl) ?_
      refine q_if_eq rfl (fun (hc2 : (t_p2 (g 74) s f (108 : Int32) (108 : Int32) (0 : Int32)) = 0) => ?_) (fun (hc2 : ¬ ((t_p2 (g 74) s f (108 : Int32) (108 : Int32) (0 : Int32)) = 0)) => ?_)
      · refine q_step 4 58 [(0, .ref 70)] [.int (114 : Int32), .int (112 : Int32), .int (5 : Int32), .ref 70] g u (fun big n0 => sg_nm_85 big n0 g u) ?_
        refine q_call (M2 := 157) (rest := []) (r_is g u hs h160 hf he hfe hes 5 (by omega) _ _) (fun _ _ => rfl) ?_
        refine q_if_eq rfl (fun (hc3 : (t_p1 (g 74) s f (e - f) 5 (112 : Int32) (114 : Int32)) = 0) => ?_) (fun (hc3 : ¬ ((t_p1 (g 74) s f (e - f) 5 (112 : Int32) (114 : Int32)) = 0)) => ?_)
        · refine q_step 4 85 [(0, .ref 70)] [.int (97 : Int32), .int (119 : Int32), .int (4 : Int32), .ref 70] g u (fun big n0 => sg_nm_86 big n0 g u) ?_
          refine q_call (M2 := 157) (rest := []) (r_is g u hs h160 hf he hfe hes 4 (by omega) _ _) (fun _ _ => rfl) ?_
          refine q_if_eq rfl (fun (hc4 : (t_p1 (g 74) s f (e - f) 4 (119 : Int32) (97 : Int32)) = 0) => ?_) (fun (hc4 : ¬ ((t_p1 (g 74) s f (e - f) 4 (119 : Int32) (97 : Int32)) = 0)) => ?_)
          · refine q_step 4 111 [(0, .ref 70)] [.int (116 : Int32), .int (97 : Int32), .int (2 : Int32), .ref 70] g u (fun big n0 => sg_nm_87 big n0 g u) ?_
            refine q_call (M2 := 157) (rest := []) (r_is g u hs h160 hf he hfe hes 2 (by omega) _ _) (fun _ _ => rfl) ?_
            refine q_if_eq rfl (fun (hc5 : (t_p1 (g 74) s f (e - f) 2 (97 : Int32) (116 : Int32)) = 0) => ?_) (fun (hc5 : ¬ ((t_p1 (g 74) s f (e - f) 2 (97 : Int32) (116 : Int32)) = 0)) => ?_)
            · refine q_step 4 125 [(0, .ref 70)] [.int (116 : Int32), .int (115 : Int32), .int (5 : Int32), .ref 70] g u (fun big n0 => sg_nm_88 big n0 g u) ?_
              refine q_call (M2 := 157) (rest := []) (r_is g u hs h160 hf he hfe hes 5 (by omega) _ _) (fun _ _ => rfl) ?_
              refine q_if_eq rfl (fun (hc6 : (t_p1 (g 74) s f (e - f) 5 (115 : Int32) (116 : Int32)) = 0) => ?_) (fun (hc6 : ¬ ((t_p1 (g 74) s f (e - f) 5 (115 : Int32) (116 : Int32)) = 0)) => ?_)
              · refine q_step 4 154 [(0, .ref 70)] [.int (111 : Int32), .int (103 : Int32), .int (4 : Int32), .ref 70] g u (fun big n0 => sg_nm_89 big n0 g u) ?_
                refine q_call (M2 := 157) (rest := []) (r_is g u hs h160 hf he hfe hes 4 (by omega) _ _) (fun _ _ => rfl) ?_
                refine q_if_eq rfl (fun (hc7 : (t_p1 (g 74) s f (e - f) 4 (103 : Int32) (111 : Int32)) = 0) => ?_) (fun (hc7 : ¬ ((t_p1 (g 74) s f (e - f) 4 (103 : Int32) (111 : Int32)) = 0)) => ?_)
                · refine q_ret 2 (some (.int (Int8.toInt32 (Int8.ofInt (-4)))), g, u) (fun _ _ => rfl) ?_
                  have n0 : ¬ t_is (g 74) f (e - f) (t_nm 0) = 1 := fun z => ((t_is_4 (by omega)).mp z).1 hc0
                  have n1 : ¬ t_is (g 74) f (e - f) (t_nm 1) = 1 := fun z => ((t_is_4 (by omega)).mp z).2 hc2
                  have n2 : ¬ t_is (g 74) f (e - f) (t_nm 2) = 1 := fun z => ((t_is_5 (by omega)).mp z).1 hc3
                  have n3 : ¬ t_is (g 74) f (e - f) (t_nm 3) = 1 := fun z => ((t_is_4 (by omega)).mp z).1 hc4
                  have n4 : ¬ t_is (g 74) f (e - f) (t_nm 4) = 1 := fun z => ((t_is_2 (by omega)).mp z) hc5
                  have n5 : ¬ t_is (g 74) f (e - f) (t_nm 5) = 1 := fun z => ((t_is_5 (by omega)).mp z).1 hc6
                  have n6 : ¬ t_is (g 74) f (e - f) (t_nm 6) = 1 := fun z => ((t_is_4 (by omega)).mp z).1 hc7
                  unfold t_ln
                  rw [if_neg n0, if_neg n1, if_neg n2, if_neg n3, if_neg n4, if_neg n5, if_neg n6]
                  rfl
                · refine q_step 4 166 [(0, .ref 70)] [.int (0 : Int32), .int (108 : Int32), .int (97 : Int32), .ref 70] g u (fun big n0 => sg_nm_90 big n0 g u) ?_
                  refine q_call (M2 := 158) (rest := []) (r_ends g u hs h160 hf he hfe hes _ _ _) (fun _ _ => rfl) ?_
                  refine q_if_eq rfl (fun (hc8 : (t_p2 (g 74) s f (97 : Int32) (108 : Int32) (0 : Int32)) = 0) => ?_) (fun (hc8 : ¬ ((t_p2 (g 74) s f (97 : Int32) (108 : Int32) (0 : Int32)) = 0)) => ?_)
                  · refine q_ret 2 (some (.int (Int8.toInt32 (Int8.ofInt (-4)))), g, u) (fun _ _ => rfl) ?_
                    have n0 : ¬ t_is (g 74) f (e - f) (t_nm 0) = 1 := fun z => ((t_is_4 (by omega)).mp z).1 hc0
                    have n1 : ¬ t_is (g 74) f (e - f) (t_nm 1) = 1 := fun z => ((t_is_4 (by omega)).mp z).2 hc2
                    have n2 : ¬ t_is (g 74) f (e - f) (t_nm 2) = 1 := fun z => ((t_is_5 (by omega)).mp z).1 hc3
                    have n3 : ¬ t_is (g 74) f (e - f) (t_nm 3) = 1 := fun z => ((t_is_4 (by omega)).mp z).1 hc4
                    have n4 : ¬ t_is (g 74) f (e - f) (t_nm 4) = 1 := fun z => ((t_is_2 (by omega)).mp z) hc5
                    have n5 : ¬ t_is (g 74) f (e - f) (t_nm 5) = 1 := fun z => ((t_is_5 (by omega)).mp z).1 hc6
                    have n6 : ¬ t_is (g 74) f (e - f) (t_nm 6) = 1 := fun z => ((t_is_4 (by omega)).mp z).2 hc8
                    unfold t_ln
                    rw [if_neg n0, if_neg n1, if_neg n2, if_neg n3, if_neg n4, if_neg n5, if_neg n6]
                    rfl
                  · refine q_ret 3 (some (.int (6 : Int32)), g, u) (fun _ _ => rfl) ?_
                    have n0 : ¬ t_is (g 74) f (e - f) (t_nm 0) = 1 := fun z => ((t_is_4 (by omega)).mp z).1 hc0
                    have n1 : ¬ t_is (g 74) f (e - f) (t_nm 1) = 1 := fun z => ((t_is_4 (by omega)).mp z).2 hc2
                    have n2 : ¬ t_is (g 74) f (e - f) (t_nm 2) = 1 := fun z => ((t_is_5 (by omega)).mp z).1 hc3
                    have n3 : ¬ t_is (g 74) f (e - f) (t_nm 3) = 1 := fun z => ((t_is_4 (by omega)).mp z).1 hc4
                    have n4 : ¬ t_is (g 74) f (e - f) (t_nm 4) = 1 := fun z => ((t_is_2 (by omega)).mp z) hc5
                    have n5 : ¬ t_is (g 74) f (e - f) (t_nm 5) = 1 := fun z => ((t_is_5 (by omega)).mp z).1 hc6
                    have y6 : t_is (g 74) f (e - f) (t_nm 6) = 1 := (t_is_4 (by omega)).mpr ⟨hc7, hc8⟩
                    unfold t_ln
                    rw [if_neg n0, if_neg n1, if_neg n2, if_neg n3, if_neg n4, if_neg n5, if_pos y6]
              · refine q_step 4 138 [(0, .ref 70)] [.int (108 : Int32), .int (108 : Int32), .int (105 : Int32), .ref 70] g u (fun big n0 => sg_nm_91 big n0 g u) ?_
                refine q_call (M2 := 158) (rest := []) (r_ends g u hs h160 hf he hfe hes _ _ _) (fun _ _ => rfl) ?_
                refine q_if_eq rfl (fun (hc7 : (t_p2 (g 74) s f (105 : Int32) (108 : Int32) (108 : Int32)) = 0) => ?_) (fun (hc7 : ¬ ((t_p2 (g 74) s f (105 : Int32) (108 : Int32) (108 : Int32)) = 0)) => ?_)
                · refine q_step 4 154 [(0, .ref 70)] [.int (111 : Int32), .int (103 : Int32), .int (4 : Int32), .ref 70] g u (fun big n0 => sg_nm_89 big n0 g u) ?_
                  refine q_call (M2 := 157) (rest := []) (r_is g u hs h160 hf he hfe hes 4 (by omega) _ _) (fun _ _ => rfl) ?_
                  refine q_if_eq rfl (fun (hc8 : (t_p1 (g 74) s f (e - f) 4 (103 : Int32) (111 : Int32)) = 0) => ?_) (fun (hc8 : ¬ ((t_p1 (g 74) s f (e - f) 4 (103 : Int32) (111 : Int32)) = 0)) => ?_)
                  · refine q_ret 2 (some (.int (Int8.toInt32 (Int8.ofInt (-4)))), g, u) (fun _ _ => rfl) ?_
                    have n0 : ¬ t_is (g 74) f (e - f) (t_nm 0) = 1 := fun z => ((t_is_4 (by omega)).mp z).1 hc0
                    have n1 : ¬ t_is (g 74) f (e - f) (t_nm 1) = 1 := fun z => ((t_is_4 (by omega)).mp z).2 hc2
                    have n2 : ¬ t_is (g 74) f (e - f) (t_nm 2) = 1 := fun z => ((t_is_5 (by omega)).mp z).1 hc3
                    have n3 : ¬ t_is (g 74) f (e - f) (t_nm 3) = 1 := fun z => ((t_is_4 (by omega)).mp z).1 hc4
                    have n4 : ¬ t_is (g 74) f (e - f) (t_nm 4) = 1 := fun z => ((t_is_2 (by omega)).mp z) hc5
                    have n5 : ¬ t_is (g 74) f (e - f) (t_nm 5) = 1 := fun z => ((t_is_5 (by omega)).mp z).2 hc7
                    have n6 : ¬ t_is (g 74) f (e - f) (t_nm 6) = 1 := fun z => ((t_is_4 (by omega)).mp z).1 hc8
                    unfold t_ln
                    rw [if_neg n0, if_neg n1, if_neg n2, if_neg n3, if_neg n4, if_neg n5, if_neg n6]
                    rfl
                  · refine q_step 4 166 [(0, .ref 70)] [.int (0 : Int32), .int (108 : Int32), .int (97 : Int32), .ref 70] g u (fun big n0 => sg_nm_90 big n0 g u) ?_
                    refine q_call (M2 := 158) (rest := []) (r_ends g u hs h160 hf he hfe hes _ _ _) (fun _ _ => rfl) ?_
                    refine q_if_eq rfl (fun (hc9 : (t_p2 (g 74) s f (97 : Int32) (108 : Int32) (0 : Int32)) = 0) => ?_) (fun (hc9 : ¬ ((t_p2 (g 74) s f (97 : Int32) (108 : Int32) (0 : Int32)) = 0)) => ?_)
                    · refine q_ret 2 (some (.int (Int8.toInt32 (Int8.ofInt (-4)))), g, u) (fun _ _ => rfl) ?_
                      have n0 : ¬ t_is (g 74) f (e - f) (t_nm 0) = 1 := fun z => ((t_is_4 (by omega)).mp z).1 hc0
                      have n1 : ¬ t_is (g 74) f (e - f) (t_nm 1) = 1 := fun z => ((t_is_4 (by omega)).mp z).2 hc2
                      have n2 : ¬ t_is (g 74) f (e - f) (t_nm 2) = 1 := fun z => ((t_is_5 (by omega)).mp z).1 hc3
                      have n3 : ¬ t_is (g 74) f (e - f) (t_nm 3) = 1 := fun z => ((t_is_4 (by omega)).mp z).1 hc4
                      have n4 : ¬ t_is (g 74) f (e - f) (t_nm 4) = 1 := fun z => ((t_is_2 (by omega)).mp z) hc5
                      have n5 : ¬ t_is (g 74) f (e - f) (t_nm 5) = 1 := fun z => ((t_is_5 (by omega)).mp z).2 hc7
                      have n6 : ¬ t_is (g 74) f (e - f) (t_nm 6) = 1 := fun z => ((t_is_4 (by omega)).mp z).2 hc9
                      unfold t_ln
                      rw [if_neg n0, if_neg n1, if_neg n2, if_neg n3, if_neg n4, if_neg n5, if_neg n6]
                      rfl
                    · refine q_ret 3 (some (.int (6 : Int32)), g, u) (fun _ _ => rfl) ?_
                      have n0 : ¬ t_is (g 74) f (e - f) (t_nm 0) = 1 := fun z => ((t_is_4 (by omega)).mp z).1 hc0
                      have n1 : ¬ t_is (g 74) f (e - f) (t_nm 1) = 1 := fun z => ((t_is_4 (by omega)).mp z).2 hc2
                      have n2 : ¬ t_is (g 74) f (e - f) (t_nm 2) = 1 := fun z => ((t_is_5 (by omega)).mp z).1 hc3
                      have n3 : ¬ t_is (g 74) f (e - f) (t_nm 3) = 1 := fun z => ((t_is_4 (by omega)).mp z).1 hc4
                      have n4 : ¬ t_is (g 74) f (e - f) (t_nm 4) = 1 := fun z => ((t_is_2 (by omega)).mp z) hc5
                      have n5 : ¬ t_is (g 74) f (e - f) (t_nm 5) = 1 := fun z => ((t_is_5 (by omega)).mp z).2 hc7
                      have y6 : t_is (g 74) f (e - f) (t_nm 6) = 1 := (t_is_4 (by omega)).mpr ⟨hc8, hc9⟩
                      unfold t_ln
                      rw [if_neg n0, if_neg n1, if_neg n2, if_neg n3, if_neg n4, if_neg n5, if_pos y6]
                · refine q_ret 3 (some (.int (5 : Int32)), g, u) (fun _ _ => rfl) ?_
                  have n0 : ¬ t_is (g 74) f (e - f) (t_nm 0) = 1 := fun z => ((t_is_4 (by omega)).mp z).1 hc0
                  have n1 : ¬ t_is (g 74) f (e - f) (t_nm 1) = 1 := fun z => ((t_is_4 (by omega)).mp z).2 hc2
                  have n2 : ¬ t_is (g 74) f (e - f) (t_nm 2) = 1 := fun z => ((t_is_5 (by omega)).mp z).1 hc3
                  have n3 : ¬ t_is (g 74) f (e - f) (t_nm 3) = 1 := fun z => ((t_is_4 (by omega)).mp z).1 hc4
                  have n4 : ¬ t_is (g 74) f (e - f) (t_nm 4) = 1 := fun z => ((t_is_2 (by omega)).mp z) hc5
                  have y5 : t_is (g 74) f (e - f) (t_nm 5) = 1 := (t_is_5 (by omega)).mpr ⟨hc6, hc7⟩
                  unfold t_ln
                  rw [if_neg n0, if_neg n1, if_neg n2, if_neg n3, if_neg n4, if_pos y5]
            · refine q_ret 2 (some (.int (4 : Int32)), g, u) (fun _ _ => rfl) ?_
              have n0 : ¬ t_is (g 74) f (e - f) (t_nm 0) = 1 := fun z => ((t_is_4 (by omega)).mp z).1 hc0
              have n1 : ¬ t_is (g 74) f (e - f) (t_nm 1) = 1 := fun z => ((t_is_4 (by omega)).mp z).2 hc2
              have n2 : ¬ t_is (g 74) f (e - f) (t_nm 2) = 1 := fun z => ((t_is_5 (by omega)).mp z).1 hc3
              have n3 : ¬ t_is (g 74) f (e - f) (t_nm 3) = 1 := fun z => ((t_is_4 (by omega)).mp z).1 hc4
              have y4 : t_is (g 74) f (e - f) (t_nm 4) = 1 := (t_is_2 (by omega)).mpr hc5
              unfold t_ln
              rw [if_neg n0, if_neg n1, if_neg n2, if_neg n3, if_pos y4]
          · refine q_step 4 97 [(0, .ref 70)] [.int (0 : Int32), .int (108 : Int32), .int (108 : Int32), .ref 70] g u (fun big n0 => sg_nm_92 big n0 g u) ?_
            refine q_call (M2 := 158) (rest := []) (r_ends g u hs h160 hf he hfe hes _ _ _) (fun _ _ => rfl) ?_
            refine q_if_eq rfl (fun (hc5 : (t_p2 (g 74) s f (108 : Int32) (108 : Int32) (0 : Int32)) = 0) => ?_) (fun (hc5 : ¬ ((t_p2 (g 74) s f (108 : Int32) (108 : Int32) (0 : Int32)) = 0)) => ?_)
            · refine q_step 4 111 [(0, .ref 70)] [.int (116 : Int32), .int (97 : Int32), .int (2 : Int32), .ref 70] g u (fun big n0 => sg_nm_87 big n0 g u) ?_
              refine q_call (M2 := 157) (rest := []) (r_is g u hs h160 hf he hfe hes 2 (by omega) _ _) (fun _ _ => rfl) ?_
              refine q_if_eq rfl (fun (hc6 : (t_p1 (g 74) s f (e - f) 2 (97 : Int32) (116 : Int32)) = 0) => ?_) (fun (hc6 : ¬ ((t_p1 (g 74) s f (e - f) 2 (97 : Int32) (116 : Int32)) = 0)) => ?_)
              · refine q_step 4 125 [(0, .ref 70)] [.int (116 : Int32), .int (115 : Int32), .int (5 : Int32), .ref 70] g u (fun big n0 => sg_nm_88 big n0 g u) ?_
                refine q_call (M2 := 157) (rest := []) (r_is g u hs h160 hf he hfe hes 5 (by omega) _ _) (fun _ _ => rfl) ?_
                refine q_if_eq rfl (fun (hc7 : (t_p1 (g 74) s f (e - f) 5 (115 : Int32) (116 : Int32)) = 0) => ?_) (fun (hc7 : ¬ ((t_p1 (g 74) s f (e - f) 5 (115 : Int32) (116 : Int32)) = 0)) => ?_)
                · refine q_step 4 154 [(0, .ref 70)] [.int (111 : Int32), .int (103 : Int32), .int (4 : Int32), .ref 70] g u (fun big n0 => sg_nm_89 big n0 g u) ?_
                  refine q_call (M2 := 157) (rest := []) (r_is g u hs h160 hf he hfe hes 4 (by omega) _ _) (fun _ _ => rfl) ?_
                  refine q_if_eq rfl (fun (hc8 : (t_p1 (g 74) s f (e - f) 4 (103 : Int32) (111 : Int32)) = 0) => ?_) (fun (hc8 : ¬ ((t_p1 (g 74) s f (e - f) 4 (103 : Int32) (111 : Int32)) = 0)) => ?_)
                  · refine q_ret 2 (some (.int (Int8.toInt32 (Int8.ofInt (-4)))), g, u) (fun _ _ => rfl) ?_
                    have n0 : ¬ t_is (g 74) f (e - f) (t_nm 0) = 1 := fun z => ((t_is_4 (by omega)).mp z).1 hc0
                    have n1 : ¬ t_is (g 74) f (e - f) (t_nm 1) = 1 := fun z => ((t_is_4 (by omega)).mp z).2 hc2
                    have n2 : ¬ t_is (g 74) f (e - f) (t_nm 2) = 1 := fun z => ((t_is_5 (by omega)).mp z).1 hc3
                    have n3 : ¬ t_is (g 74) f (e - f) (t_nm 3) = 1 := fun z => ((t_is_4 (by omega)).mp z).2 hc5
                    have n4 : ¬ t_is (g 74) f (e - f) (t_nm 4) = 1 := fun z => ((t_is_2 (by omega)).mp z) hc6
                    have n5 : ¬ t_is (g 74) f (e - f) (t_nm 5) = 1 := fun z => ((t_is_5 (by omega)).mp z).1 hc7
                    have n6 : ¬ t_is (g 74) f (e - f) (t_nm 6) = 1 := fun z => ((t_is_4 (by omega)).mp z).1 hc8
                    unfold t_ln
                    rw [if_neg n0, if_neg n1, if_neg n2, if_neg n3, if_neg n4, if_neg n5, if_neg n6]
                    rfl
                  · refine q_step 4 166 [(0, .ref 70)] [.int (0 : Int32), .int (108 : Int32), .int (97 : Int32), .ref 70] g u (fun big n0 => sg_nm_90 big n0 g u) ?_
                    refine q_call (M2 := 158) (rest := []) (r_ends g u hs h160 hf he hfe hes _ _ _) (fun _ _ => rfl) ?_
                    refine q_if_eq rfl (fun (hc9 : (t_p2 (g 74) s f (97 : Int32) (108 : Int32) (0 : Int32)) = 0) => ?_) (fun (hc9 : ¬ ((t_p2 (g 74) s f (97 : Int32) (108 : Int32) (0 : Int32)) = 0)) => ?_)
                    · refine q_ret 2 (some (.int (Int8.toInt32 (Int8.ofInt (-4)))), g, u) (fun _ _ => rfl) ?_
                      have n0 : ¬ t_is (g 74) f (e - f) (t_nm 0) = 1 := fun z => ((t_is_4 (by omega)).mp z).1 hc0
                      have n1 : ¬ t_is (g 74) f (e - f) (t_nm 1) = 1 := fun z => ((t_is_4 (by omega)).mp z).2 hc2
                      have n2 : ¬ t_is (g 74) f (e - f) (t_nm 2) = 1 := fun z => ((t_is_5 (by omega)).mp z).1 hc3
                      have n3 : ¬ t_is (g 74) f (e - f) (t_nm 3) = 1 := fun z => ((t_is_4 (by omega)).mp z).2 hc5
                      have n4 : ¬ t_is (g 74) f (e - f) (t_nm 4) = 1 := fun z => ((t_is_2 (by omega)).mp z) hc6
                      have n5 : ¬ t_is (g 74) f (e - f) (t_nm 5) = 1 := fun z => ((t_is_5 (by omega)).mp z).1 hc7
                      have n6 : ¬ t_is (g 74) f (e - f) (t_nm 6) = 1 := fun z => ((t_is_4 (by omega)).mp z).2 hc9
                      unfold t_ln
                      rw [if_neg n0, if_neg n1, if_neg n2, if_neg n3, if_neg n4, if_neg n5, if_neg n6]
                      rfl
                    · refine q_ret 3 (some (.int (6 : Int32)), g, u) (fun _ _ => rfl) ?_
                      have n0 : ¬ t_is (g 74) f (e - f) (t_nm 0) = 1 := fun z => ((t_is_4 (by omega)).mp z).1 hc0
                      have n1 : ¬ t_is (g 74) f (e - f) (t_nm 1) = 1 := fun z => ((t_is_4 (by omega)).mp z).2 hc2
                      have n2 : ¬ t_is (g 74) f (e - f) (t_nm 2) = 1 := fun z => ((t_is_5 (by omega)).mp z).1 hc3
                      have n3 : ¬ t_is (g 74) f (e - f) (t_nm 3) = 1 := fun z => ((t_is_4 (by omega)).mp z).2 hc5
                      have n4 : ¬ t_is (g 74) f (e - f) (t_nm 4) = 1 := fun z => ((t_is_2 (by omega)).mp z) hc6
                      have n5 : ¬ t_is (g 74) f (e - f) (t_nm 5) = 1 := fun z => ((t_is_5 (by omega)).mp z).1 hc7
                      have y6 : t_is (g 74) f (e - f) (t_nm 6) = 1 := (t_is_4 (by omega)).mpr ⟨hc8, hc9⟩
                      unfold t_ln
                      rw [if_neg n0, if_neg n1, if_neg n2, if_neg n3, if_neg n4, if_neg n5, if_pos y6]
                · refine q_step 4 138 [(0, .ref 70)] [.int (108 : Int32), .int (108 : Int32), .int (105 : Int32), .ref 70] g u (fun big n0 => sg_nm_91 big n0 g u) ?_
                  refine q_call (M2 := 158) (rest := []) (r_ends g u hs h160 hf he hfe hes _ _ _) (fun _ _ => rfl) ?_
                  refine q_if_eq rfl (fun (hc8 : (t_p2 (g 74) s f (105 : Int32) (108 : Int32) (108 : Int32)) = 0) => ?_) (fun (hc8 : ¬ ((t_p2 (g 74) s f (105 : Int32) (108 : Int32) (108 : Int32)) = 0)) => ?_)
                  · refine q_step 4 154 [(0, .ref 70)] [.int (111 : Int32), .int (103 : Int32), .int (4 : Int32), .ref 70] g u (fun big n0 => sg_nm_89 big n0 g u) ?_
                    refine q_call (M2 := 157) (rest := []) (r_is g u hs h160 hf he hfe hes 4 (by omega) _ _) (fun _ _ => rfl) ?_
                    refine q_if_eq rfl (fun (hc9 : (t_p1 (g 74) s f (e - f) 4 (103 : Int32) (111 : Int32)) = 0) => ?_) (fun (hc9 : ¬ ((t_p1 (g 74) s f (e - f) 4 (103 : Int32) (111 : Int32)) = 0)) => ?_)
                    · refine q_ret 2 (some (.int (Int8.toInt32 (Int8.ofInt (-4)))), g, u) (fun _ _ => rfl) ?_
                      have n0 : ¬ t_is (g 74) f (e - f) (t_nm 0) = 1 := fun z => ((t_is_4 (by omega)).mp z).1 hc0
                      have n1 : ¬ t_is (g 74) f (e - f) (t_nm 1) = 1 := fun z => ((t_is_4 (by omega)).mp z).2 hc2
                      have n2 : ¬ t_is (g 74) f (e - f) (t_nm 2) = 1 := fun z => ((t_is_5 (by omega)).mp z).1 hc3
                      have n3 : ¬ t_is (g 74) f (e - f) (t_nm 3) = 1 := fun z => ((t_is_4 (by omega)).mp z).2 hc5
                      have n4 : ¬ t_is (g 74) f (e - f) (t_nm 4) = 1 := fun z => ((t_is_2 (by omega)).mp z) hc6
                      have n5 : ¬ t_is (g 74) f (e - f) (t_nm 5) = 1 := fun z => ((t_is_5 (by omega)).mp z).2 hc8
                      have n6 : ¬ t_is (g 74) f (e - f) (t_nm 6) = 1 := fun z => ((t_is_4 (by omega)).mp z).1 hc9
                      unfold t_ln
                      rw [if_neg n0, if_neg n1, if_neg n2, if_neg n3, if_neg n4, if_neg n5, if_neg n6]
                      rfl
                    · refine q_step 4 166 [(0, .ref 70)] [.int (0 : Int32), .int (108 : Int32), .int (97 : Int32), .ref 70] g u (fun big n0 => sg_nm_90 big n0 g u) ?_
                      refine q_call (M2 := 158) (rest := []) (r_ends g u hs h160 hf he hfe hes _ _ _) (fun _ _ => rfl) ?_
                      refine q_if_eq rfl (fun (hc10 : (t_p2 (g 74) s f (97 : Int32) (108 : Int32) (0 : Int32)) = 0) => ?_) (fun (hc10 : ¬ ((t_p2 (g 74) s f (97 : Int32) (108 : Int32) (0 : Int32)) = 0)) => ?_)
                      · refine q_ret 2 (some (.int (Int8.toInt32 (Int8.ofInt (-4)))), g, u) (fun _ _ => rfl) ?_
                        have n0 : ¬ t_is (g 74) f (e - f) (t_nm 0) = 1 := fun z => ((t_is_4 (by omega)).mp z).1 hc0
                        have n1 : ¬ t_is (g 74) f (e - f) (t_nm 1) = 1 := fun z => ((t_is_4 (by omega)).mp z).2 hc2
                        have n2 : ¬ t_is (g 74) f (e - f) (t_nm 2) = 1 := fun z => ((t_is_5 (by omega)).mp z).1 hc3
                        have n3 : ¬ t_is (g 74) f (e - f) (t_nm 3) = 1 := fun z => ((t_is_4 (by omega)).mp z).2 hc5
                        have n4 : ¬ t_is (g 74) f (e - f) (t_nm 4) = 1 := fun z => ((t_is_2 (by omega)).mp z) hc6
                        have n5 : ¬ t_is (g 74) f (e - f) (t_nm 5) = 1 := fun z => ((t_is_5 (by omega)).mp z).2 hc8
                        have n6 : ¬ t_is (g 74) f (e - f) (t_nm 6) = 1 := fun z => ((t_is_4 (by omega)).mp z).2 hc10
                        unfold t_ln
                        rw [if_neg n0, if_neg n1, if_neg n2, if_neg n3, if_neg n4, if_neg n5, if_neg n6]
                        rfl
                      · refine q_ret 3 (some (.int (6 : Int32)), g, u) (fun _ _ => rfl) ?_
                        have n0 : ¬ t_is (g 74) f (e - f) (t_nm 0) = 1 := fun z => ((t_is_4 (by omega)).mp z).1 hc0
                        have n1 : ¬ t_is (g 74) f (e - f) (t_nm 1) = 1 := fun z => ((t_is_4 (by omega)).mp z).2 hc2
                        have n2 : ¬ t_is (g 74) f (e - f) (t_nm 2) = 1 := fun z => ((t_is_5 (by omega)).mp z).1 hc3
                        have n3 : ¬ t_is (g 74) f (e - f) (t_nm 3) = 1 := fun z => ((t_is_4 (by omega)).mp z).2 hc5
                        have n4 : ¬ t_is (g 74) f (e - f) (t_nm 4) = 1 := fun z => ((t_is_2 (by omega)).mp z) hc6
                        have n5 : ¬ t_is (g 74) f (e - f) (t_nm 5) = 1 := fun z => ((t_is_5 (by omega)).mp z).2 hc8
                        have y6 : t_is (g 74) f (e - f) (t_nm 6) = 1 := (t_is_4 (by omega)).mpr ⟨hc9, hc10⟩
                        unfold t_ln
                        rw [if_neg n0, if_neg n1, if_neg n2, if_neg n3, if_neg n4, if_neg n5, if_pos y6]
                  · refine q_ret 3 (some (.int (5 : Int32)), g, u) (fun _ _ => rfl) ?_
                    have n0 : ¬ t_is (g 74) f (e - f) (t_nm 0) = 1 := fun z => ((t_is_4 (by omega)).mp z).1 hc0
                    have n1 : ¬ t_is (g 74) f (e - f) (t_nm 1) = 1 := fun z => ((t_is_4 (by omega)).mp z).2 hc2
                    have n2 : ¬ t_is (g 74) f (e - f) (t_nm 2) = 1 := fun z => ((t_is_5 (by omega)).mp z).1 hc3
                    have n3 : ¬ t_is (g 74) f (e - f) (t_nm 3) = 1 := fun z => ((t_is_4 (by omega)).mp z).2 hc5
                    have n4 : ¬ t_is (g 74) f (e - f) (t_nm 4) = 1 := fun z => ((t_is_2 (by omega)).mp z) hc6
                    have y5 : t_is (g 74) f (e - f) (t_nm 5) = 1 := (t_is_5 (by omega)).mpr ⟨hc7, hc8⟩
                    unfold t_ln
                    rw [if_neg n0, if_neg n1, if_neg n2, if_neg n3, if_neg n4, if_pos y5]
              · refine q_ret 2 (some (.int (4 : Int32)), g, u) (fun _ _ => rfl) ?_
                have n0 : ¬ t_is (g 74) f (e - f) (t_nm 0) = 1 := fun z => ((t_is_4 (by omega)).mp z).1 hc0
                have n1 : ¬ t_is (g 74) f (e - f) (t_nm 1) = 1 := fun z => ((t_is_4 (by omega)).mp z).2 hc2
                have n2 : ¬ t_is (g 74) f (e - f) (t_nm 2) = 1 := fun z => ((t_is_5 (by omega)).mp z).1 hc3
                have n3 : ¬ t_is (g 74) f (e - f) (t_nm 3) = 1 := fun z => ((t_is_4 (by omega)).mp z).2 hc5
                have y4 : t_is (g 74) f (e - f) (t_nm 4) = 1 := (t_is_2 (by omega)).mpr hc6
                unfold t_ln
                rw [if_neg n0, if_neg n1, if_neg n2, if_neg n3, if_pos y4]
            · refine q_ret 2 (some (.int (3 : Int32)), g, u) (fun _ _ => rfl) ?_
              have n0 : ¬ t_is (g 74) f (e - f) (t_nm 0) = 1 := fun z => ((t_is_4 (by omega)).mp z).1 hc0
              have n1 : ¬ t_is (g 74) f (e - f) (t_nm 1) = 1 := fun z => ((t_is_4 (by omega)).mp z).2 hc2
              have n2 : ¬ t_is (g 74) f (e - f) (t_nm 2) = 1 := fun z => ((t_is_5 (by omega)).mp z).1 hc3
              have y3 : t_is (g 74) f (e - f) (t_nm 3) = 1 := (t_is_4 (by omega)).mpr ⟨hc4, hc5⟩
              unfold t_ln
              rw [if_neg n0, if_neg n1, if_neg n2, if_pos y3]
        · refine q_step 4 71 [(0, .ref 70)] [.int (115 : Int32), .int (115 : Int32), .int (101 : Int32), .ref 70] g u (fun big n0 => sg_nm_93 big n0 g u) ?_
          refine q_call (M2 := 158) (rest := []) (r_ends g u hs h160 hf he hfe hes _ _ _) (fun _ _ => rfl) ?_
          refine q_if_eq rfl (fun (hc4 : (t_p2 (g 74) s f (101 : Int32) (115 : Int32) (115 : Int32)) = 0) => ?_) (fun (hc4 : ¬ ((t_p2 (g 74) s f (101 : Int32) (115 : Int32) (115 : Int32)) = 0)) => ?_)
          · refine q_step 4 85 [(0, .ref 70)] [.int (97 : Int32), .int (119 : Int32), .int (4 : Int32), .ref 70] g u (fun big n0 => sg_nm_86 big n0 g u) ?_
            refine q_call (M2 := 157) (rest := []) (r_is g u hs h160 hf he hfe hes 4 (by omega) _ _) (fun _ _ => rfl) ?_
            refine q_if_eq rfl (fun (hc5 : (t_p1 (g 74) s f (e - f) 4 (119 : Int32) (97 : Int32)) = 0) => ?_) (fun (hc5 : ¬ ((t_p1 (g 74) s f (e - f) 4 (119 : Int32) (97 : Int32)) = 0)) => ?_)
            · refine q_step 4 111 [(0, .ref 70)] [.int (116 : Int32), .int (97 : Int32), .int (2 : Int32), .ref 70] g u (fun big n0 => sg_nm_87 big n0 g u) ?_
              refine q_call (M2 := 157) (rest := []) (r_is g u hs h160 hf he hfe hes 2 (by omega) _ _) (fun _ _ => rfl) ?_
              refine q_if_eq rfl (fun (hc6 : (t_p1 (g 74) s f (e - f) 2 (97 : Int32) (116 : Int32)) = 0) => ?_) (fun (hc6 : ¬ ((t_p1 (g 74) s f (e - f) 2 (97 : Int32) (116 : Int32)) = 0)) => ?_)
              · refine q_step 4 125 [(0, .ref 70)] [.int (116 : Int32), .int (115 : Int32), .int (5 : Int32), .ref 70] g u (fun big n0 => sg_nm_88 big n0 g u) ?_
                refine q_call (M2 := 157) (rest := []) (r_is g u hs h160 hf he hfe hes 5 (by omega) _ _) (fun _ _ => rfl) ?_
                refine q_if_eq rfl (fun (hc7 : (t_p1 (g 74) s f (e - f) 5 (115 : Int32) (116 : Int32)) = 0) => ?_) (fun (hc7 : ¬ ((t_p1 (g 74) s f (e - f) 5 (115 : Int32) (116 : Int32)) = 0)) => ?_)
                · refine q_step 4 154 [(0, .ref 70)] [.int (111 : Int32), .int (103 : Int32), .int (4 : Int32), .ref 70] g u (fun big n0 => sg_nm_89 big n0 g u) ?_
                  refine q_call (M2 := 157) (rest := []) (r_is g u hs h160 hf he hfe hes 4 (by omega) _ _) (fun _ _ => rfl) ?_
                  refine q_if_eq rfl (fun (hc8 : (t_p1 (g 74) s f (e - f) 4 (103 : Int32) (111 : Int32)) = 0) => ?_) (fun (hc8 : ¬ ((t_p1 (g 74) s f (e - f) 4 (103 : Int32) (111 : Int32)) = 0)) => ?_)
                  · refine q_ret 2 (some (.int (Int8.toInt32 (Int8.ofInt (-4)))), g, u) (fun _ _ => rfl) ?_
                    have n0 : ¬ t_is (g 74) f (e - f) (t_nm 0) = 1 := fun z => ((t_is_4 (by omega)).mp z).1 hc0
                    have n1 : ¬ t_is (g 74) f (e - f) (t_nm 1) = 1 := fun z => ((t_is_4 (by omega)).mp z).2 hc2
                    have n2 : ¬ t_is (g 74) f (e - f) (t_nm 2) = 1 := fun z => ((t_is_5 (by omega)).mp z).2 hc4
                    have n3 : ¬ t_is (g 74) f (e - f) (t_nm 3) = 1 := fun z => ((t_is_4 (by omega)).mp z).1 hc5
                    have n4 : ¬ t_is (g 74) f (e - f) (t_nm 4) = 1 := fun z => ((t_is_2 (by omega)).mp z) hc6
                    have n5 : ¬ t_is (g 74) f (e - f) (t_nm 5) = 1 := fun z => ((t_is_5 (by omega)).mp z).1 hc7
                    have n6 : ¬ t_is (g 74) f (e - f) (t_nm 6) = 1 := fun z => ((t_is_4 (by omega)).mp z).1 hc8
                    unfold t_ln
                    rw [if_neg n0, if_neg n1, if_neg n2, if_neg n3, if_neg n4, if_neg n5, if_neg n6]
                    rfl
                  · refine q_step 4 166 [(0, .ref 70)] [.int (0 : Int32), .int (108 : Int32), .int (97 : Int32), .ref 70] g u (fun big n0 => sg_nm_90 big n0 g u) ?_
                    refine q_call (M2 := 158) (rest := []) (r_ends g u hs h160 hf he hfe hes _ _ _) (fun _ _ => rfl) ?_
                    refine q_if_eq rfl (fun (hc9 : (t_p2 (g 74) s f (97 : Int32) (108 : Int32) (0 : Int32)) = 0) => ?_) (fun (hc9 : ¬ ((t_p2 (g 74) s f (97 : Int32) (108 : Int32) (0 : Int32)) = 0)) => ?_)
                    · refine q_ret 2 (some (.int (Int8.toInt32 (Int8.ofInt (-4)))), g, u) (fun _ _ => rfl) ?_
                      have n0 : ¬ t_is (g 74) f (e - f) (t_nm 0) = 1 := fun z => ((t_is_4 (by omega)).mp z).1 hc0
                      have n1 : ¬ t_is (g 74) f (e - f) (t_nm 1) = 1 := fun z => ((t_is_4 (by omega)).mp z).2 hc2
                      have n2 : ¬ t_is (g 74) f (e - f) (t_nm 2) = 1 := fun z => ((t_is_5 (by omega)).mp z).2 hc4
                      have n3 : ¬ t_is (g 74) f (e - f) (t_nm 3) = 1 := fun z => ((t_is_4 (by omega)).mp z).1 hc5
                      have n4 : ¬ t_is (g 74) f (e - f) (t_nm 4) = 1 := fun z => ((t_is_2 (by omega)).mp z) hc6
                      have n5 : ¬ t_is (g 74) f (e - f) (t_nm 5) = 1 := fun z => ((t_is_5 (by omega)).mp z).1 hc7
                      have n6 : ¬ t_is (g 74) f (e - f) (t_nm 6) = 1 := fun z => ((t_is_4 (by omega)).mp z).2 hc9
                      unfold t_ln
                      rw [if_neg n0, if_neg n1, if_neg n2, if_neg n3, if_neg n4, if_neg n5, if_neg n6]
                      rfl
                    · refine q_ret 3 (some (.int (6 : Int32)), g, u) (fun _ _ => rfl) ?_
                      have n0 : ¬ t_is (g 74) f (e - f) (t_nm 0) = 1 := fun z => ((t_is_4 (by omega)).mp z).1 hc0
                      have n1 : ¬ t_is (g 74) f (e - f) (t_nm 1) = 1 := fun z => ((t_is_4 (by omega)).mp z).2 hc2
                      have n2 : ¬ t_is (g 74) f (e - f) (t_nm 2) = 1 := fun z => ((t_is_5 (by omega)).mp z).2 hc4
                      have n3 : ¬ t_is (g 74) f (e - f) (t_nm 3) = 1 := fun z => ((t_is_4 (by omega)).mp z).1 hc5
                      have n4 : ¬ t_is (g 74) f (e - f) (t_nm 4) = 1 := fun z => ((t_is_2 (by omega)).mp z) hc6
                      have n5 : ¬ t_is (g 74) f (e - f) (t_nm 5) = 1 := fun z => ((t_is_5 (by omega)).mp z).1 hc7
                      have y6 : t_is (g 74) f (e - f) (t_nm 6) = 1 := (t_is_4 (by omega)).mpr ⟨hc8, hc9⟩
                      unfold t_ln
                      rw [if_neg n0, if_neg n1, if_neg n2, if_neg n3, if_neg n4, if_neg n5, if_pos y6]
                · refine q_step 4 138 [(0, .ref 70)] [.int (108 : Int32), .int (108 : Int32), .int (105 : Int32), .ref 70] g u (fun big n0 => sg_nm_91 big n0 g u) ?_
                  refine q_call (M2 := 158) (rest := []) (r_ends g u hs h160 hf he hfe hes _ _ _) (fun _ _ => rfl) ?_
                  refine q_if_eq rfl (fun (hc8 : (t_p2 (g 74) s f (105 : Int32) (108 : Int32) (108 : Int32)) = 0) => ?_) (fun (hc8 : ¬ ((t_p2 (g 74) s f (105 : Int32) (108 : Int32) (108 : Int32)) = 0)) => ?_)
                  · refine q_step 4 154 [(0, .ref 70)] [.int (111 : Int32), .int (103 : Int32), .int (4 : Int32), .ref 70] g u (fun big n0 => sg_nm_89 big n0 g u) ?_
                    refine q_call (M2 := 157) (rest := []) (r_is g u hs h160 hf he hfe hes 4 (by omega) _ _) (fun _ _ => rfl) ?_
                    refine q_if_eq rfl (fun (hc9 : (t_p1 (g 74) s f (e - f) 4 (103 : Int32) (111 : Int32)) = 0) => ?_) (fun (hc9 : ¬ ((t_p1 (g 74) s f (e - f) 4 (103 : Int32) (111 : Int32)) = 0)) => ?_)
                    · refine q_ret 2 (some (.int (Int8.toInt32 (Int8.ofInt (-4)))), g, u) (fun _ _ => rfl) ?_
                      have n0 : ¬ t_is (g 74) f (e - f) (t_nm 0) = 1 := fun z => ((t_is_4 (by omega)).mp z).1 hc0
                      have n1 : ¬ t_is (g 74) f (e - f) (t_nm 1) = 1 := fun z => ((t_is_4 (by omega)).mp z).2 hc2
                      have n2 : ¬ t_is (g 74) f (e - f) (t_nm 2) = 1 := fun z => ((t_is_5 (by omega)).mp z).2 hc4
                      have n3 : ¬ t_is (g 74) f (e - f) (t_nm 3) = 1 := fun z => ((t_is_4 (by omega)).mp z).1 hc5
                      have n4 : ¬ t_is (g 74) f (e - f) (t_nm 4) = 1 := fun z => ((t_is_2 (by omega)).mp z) hc6
                      have n5 : ¬ t_is (g 74) f (e - f) (t_nm 5) = 1 := fun z => ((t_is_5 (by omega)).mp z).2 hc8
                      have n6 : ¬ t_is (g 74) f (e - f) (t_nm 6) = 1 := fun z => ((t_is_4 (by omega)).mp z).1 hc9
                      unfold t_ln
                      rw [if_neg n0, if_neg n1, if_neg n2, if_neg n3, if_neg n4, if_neg n5, if_neg n6]
                      rfl
                    · refine q_step 4 166 [(0, .ref 70)] [.int (0 : Int32), .int (108 : Int32), .int (97 : Int32), .ref 70] g u (fun big n0 => sg_nm_90 big n0 g u) ?_
                      refine q_call (M2 := 158) (rest := []) (r_ends g u hs h160 hf he hfe hes _ _ _) (fun _ _ => rfl) ?_
                      refine q_if_eq rfl (fun (hc10 : (t_p2 (g 74) s f (97 : Int32) (108 : Int32) (0 : Int32)) = 0) => ?_) (fun (hc10 : ¬ ((t_p2 (g 74) s f (97 : Int32) (108 : Int32) (0 : Int32)) = 0)) => ?_)
                      · refine q_ret 2 (some (.int (Int8.toInt32 (Int8.ofInt (-4)))), g, u) (fun _ _ => rfl) ?_
                        have n0 : ¬ t_is (g 74) f (e - f) (t_nm 0) = 1 := fun z => ((t_is_4 (by omega)).mp z).1 hc0
                        have n1 : ¬ t_is (g 74) f (e - f) (t_nm 1) = 1 := fun z => ((t_is_4 (by omega)).mp z).2 hc2
                        have n2 : ¬ t_is (g 74) f (e - f) (t_nm 2) = 1 := fun z => ((t_is_5 (by omega)).mp z).2 hc4
                        have n3 : ¬ t_is (g 74) f (e - f) (t_nm 3) = 1 := fun z => ((t_is_4 (by omega)).mp z).1 hc5
                        have n4 : ¬ t_is (g 74) f (e - f) (t_nm 4) = 1 := fun z => ((t_is_2 (by omega)).mp z) hc6
                        have n5 : ¬ t_is (g 74) f (e - f) (t_nm 5) = 1 := fun z => ((t_is_5 (by omega)).mp z).2 hc8
                        have n6 : ¬ t_is (g 74) f (e - f) (t_nm 6) = 1 := fun z => ((t_is_4 (by omega)).mp z).2 hc10
                        unfold t_ln
                        rw [if_neg n0, if_neg n1, if_neg n2, if_neg n3, if_neg n4, if_neg n5, if_neg n6]
                        rfl
                      · refine q_ret 3 (some (.int (6 : Int32)), g, u) (fun _ _ => rfl) ?_
                        have n0 : ¬ t_is (g 74) f (e - f) (t_nm 0) = 1 := fun z => ((t_is_4 (by omega)).mp z).1 hc0
                        have n1 : ¬ t_is (g 74) f (e - f) (t_nm 1) = 1 := fun z => ((t_is_4 (by omega)).mp z).2 hc2
                        have n2 : ¬ t_is (g 74) f (e - f) (t_nm 2) = 1 := fun z => ((t_is_5 (by omega)).mp z).2 hc4
                        have n3 : ¬ t_is (g 74) f (e - f) (t_nm 3) = 1 := fun z => ((t_is_4 (by omega)).mp z).1 hc5
                        have n4 : ¬ t_is (g 74) f (e - f) (t_nm 4) = 1 := fun z => ((t_is_2 (by omega)).mp z) hc6
                        have n5 : ¬ t_is (g 74) f (e - f) (t_nm 5) = 1 := fun z => ((t_is_5 (by omega)).mp z).2 hc8
                        have y6 : t_is (g 74) f (e - f) (t_nm 6) = 1 := (t_is_4 (by omega)).mpr ⟨hc9, hc10⟩
                        unfold t_ln
                        rw [if_neg n0, if_neg n1, if_neg n2, if_neg n3, if_neg n4, if_neg n5, if_pos y6]
                  · refine q_ret 3 (some (.int (5 : Int32)), g, u) (fun _ _ => rfl) ?_
                    have n0 : ¬ t_is (g 74) f (e - f) (t_nm 0) = 1 := fun z => ((t_is_4 (by omega)).mp z).1 hc0
                    have n1 : ¬ t_is (g 74) f (e - f) (t_nm 1) = 1 := fun z => ((t_is_4 (by omega)).mp z).2 hc2
                    have n2 : ¬ t_is (g 74) f (e - f) (t_nm 2) = 1 := fun z => ((t_is_5 (by omega)).mp z).2 hc4
                    have n3 : ¬ t_is (g 74) f (e - f) (t_nm 3) = 1 := fun z => ((t_is_4 (by omega)).mp z).1 hc5
                    have n4 : ¬ t_is (g 74) f (e - f) (t_nm 4) = 1 := fun z => ((t_is_2 (by omega)).mp z) hc6
                    have y5 : t_is (g 74) f (e - f) (t_nm 5) = 1 := (t_is_5 (by omega)).mpr ⟨hc7, hc8⟩
                    unfold t_ln
                    rw [if_neg n0, if_neg n1, if_neg n2, if_neg n3, if_neg n4, if_pos y5]
              · refine q_ret 2 (some (.int (4 : Int32)), g, u) (fun _ _ => rfl) ?_
                have n0 : ¬ t_is (g 74) f (e - f) (t_nm 0) = 1 := fun z => ((t_is_4 (by omega)).mp z).1 hc0
                have n1 : ¬ t_is (g 74) f (e - f) (t_nm 1) = 1 := fun z => ((t_is_4 (by omega)).mp z).2 hc2
                have n2 : ¬ t_is (g 74) f (e - f) (t_nm 2) = 1 := fun z => ((t_is_5 (by omega)).mp z).2 hc4
                have n3 : ¬ t_is (g 74) f (e - f) (t_nm 3) = 1 := fun z => ((t_is_4 (by omega)).mp z).1 hc5
                have y4 : t_is (g 74) f (e - f) (t_nm 4) = 1 := (t_is_2 (by omega)).mpr hc6
                unfold t_ln
                rw [if_neg n0, if_neg n1, if_neg n2, if_neg n3, if_pos y4]
            · refine q_step 4 97 [(0, .ref 70)] [.int (0 : Int32), .int (108 : Int32), .int (108 : Int32), .ref 70] g u (fun big n0 => sg_nm_92 big n0 g u) ?_
              refine q_call (M2 := 158) (rest := []) (r_ends g u hs h160 hf he hfe hes _ _ _) (fun _ _ => rfl) ?_
              refine q_if_eq rfl (fun (hc6 : (t_p2 (g 74) s f (108 : Int32) (108 : Int32) (0 : Int32)) = 0) => ?_) (fun (hc6 : ¬ ((t_p2 (g 74) s f (108 : Int32) (108 : Int32) (0 : Int32)) = 0)) => ?_)
              · refine q_step 4 111 [(0, .ref 70)] [.int (116 : Int32), .int (97 : Int32), .int (2 : Int32), .ref 70] g u (fun big n0 => sg_nm_87 big n0 g u) ?_
                refine q_call (M2 := 157) (rest := []) (r_is g u hs h160 hf he hfe hes 2 (by omega) _ _) (fun _ _ => rfl) ?_
                refine q_if_eq rfl (fun (hc7 : (t_p1 (g 74) s f (e - f) 2 (97 : Int32) (116 : Int32)) = 0) => ?_) (fun (hc7 : ¬ ((t_p1 (g 74) s f (e - f) 2 (97 : Int32) (116 : Int32)) = 0)) => ?_)
                · refine q_step 4 125 [(0, .ref 70)] [.int (116 : Int32), .int (115 : Int32), .int (5 : Int32), .ref 70] g u (fun big n0 => sg_nm_88 big n0 g u) ?_
                  refine q_call (M2 := 157) (rest := []) (r_is g u hs h160 hf he hfe hes 5 (by omega) _ _) (fun _ _ => rfl) ?_
                  refine q_if_eq rfl (fun (hc8 : (t_p1 (g 74) s f (e - f) 5 (115 : Int32) (116 : Int32)) = 0) => ?_) (fun (hc8 : ¬ ((t_p1 (g 74) s f (e - f) 5 (115 : Int32) (116 : Int32)) = 0)) => ?_)
                  · refine q_step 4 154 [(0, .ref 70)] [.int (111 : Int32), .int (103 : Int32), .int (4 : Int32), .ref 70] g u (fun big n0 => sg_nm_89 big n0 g u) ?_
                    refine q_call (M2 := 157) (rest := []) (r_is g u hs h160 hf he hfe hes 4 (by omega) _ _) (fun _ _ => rfl) ?_
                    refine q_if_eq rfl (fun (hc9 : (t_p1 (g 74) s f (e - f) 4 (103 : Int32) (111 : Int32)) = 0) => ?_) (fun (hc9 : ¬ ((t_p1 (g 74) s f (e - f) 4 (103 : Int32) (111 : Int32)) = 0)) => ?_)
                    · refine q_ret 2 (some (.int (Int8.toInt32 (Int8.ofInt (-4)))), g, u) (fun _ _ => rfl) ?_
                      have n0 : ¬ t_is (g 74) f (e - f) (t_nm 0) = 1 := fun z => ((t_is_4 (by omega)).mp z).1 hc0
                      have n1 : ¬ t_is (g 74) f (e - f) (t_nm 1) = 1 := fun z => ((t_is_4 (by omega)).mp z).2 hc2
                      have n2 : ¬ t_is (g 74) f (e - f) (t_nm 2) = 1 := fun z => ((t_is_5 (by omega)).mp z).2 hc4
                      have n3 : ¬ t_is (g 74) f (e - f) (t_nm 3) = 1 := fun z => ((t_is_4 (by omega)).mp z).2 hc6
                      have n4 : ¬ t_is (g 74) f (e - f) (t_nm 4) = 1 := fun z => ((t_is_2 (by omega)).mp z) hc7
                      have n5 : ¬ t_is (g 74) f (e - f) (t_nm 5) = 1 := fun z => ((t_is_5 (by omega)).mp z).1 hc8
                      have n6 : ¬ t_is (g 74) f (e - f) (t_nm 6) = 1 := fun z => ((t_is_4 (by omega)).mp z).1 hc9
                      unfold t_ln
                      rw [if_neg n0, if_neg n1, if_neg n2, if_neg n3, if_neg n4, if_neg n5, if_neg n6]
                      rfl
                    · refine q_step 4 166 [(0, .ref 70)] [.int (0 : Int32), .int (108 : Int32), .int (97 : Int32), .ref 70] g u (fun big n0 => sg_nm_90 big n0 g u) ?_
                      refine q_call (M2 := 158) (rest := []) (r_ends g u hs h160 hf he hfe hes _ _ _) (fun _ _ => rfl) ?_
                      refine q_if_eq rfl (fun (hc10 : (t_p2 (g 74) s f (97 : Int32) (108 : Int32) (0 : Int32)) = 0) => ?_) (fun (hc10 : ¬ ((t_p2 (g 74) s f (97 : Int32) (108 : Int32) (0 : Int32)) = 0)) => ?_)
                      · refine q_ret 2 (some (.int (Int8.toInt32 (Int8.ofInt (-4)))), g, u) (fun _ _ => rfl) ?_
                        have n0 : ¬ t_is (g 74) f (e - f) (t_nm 0) = 1 := fun z => ((t_is_4 (by omega)).mp z).1 hc0
                        have n1 : ¬ t_is (g 74) f (e - f) (t_nm 1) = 1 := fun z => ((t_is_4 (by omega)).mp z).2 hc2
                        have n2 : ¬ t_is (g 74) f (e - f) (t_nm 2) = 1 := fun z => ((t_is_5 (by omega)).mp z).2 hc4
                        have n3 : ¬ t_is (g 74) f (e - f) (t_nm 3) = 1 := fun z => ((t_is_4 (by omega)).mp z).2 hc6
                        have n4 : ¬ t_is (g 74) f (e - f) (t_nm 4) = 1 := fun z => ((t_is_2 (by omega)).mp z) hc7
                        have n5 : ¬ t_is (g 74) f (e - f) (t_nm 5) = 1 := fun z => ((t_is_5 (by omega)).mp z).1 hc8
                        have n6 : ¬ t_is (g 74) f (e - f) (t_nm 6) = 1 := fun z => ((t_is_4 (by omega)).mp z).2 hc10
                        unfold t_ln
                        rw [if_neg n0, if_neg n1, if_neg n2, if_neg n3, if_neg n4, if_neg n5, if_neg n6]
                        rfl
                      · refine q_ret 3 (some (.int (6 : Int32)), g, u) (fun _ _ => rfl) ?_
                        have n0 : ¬ t_is (g 74) f (e - f) (t_nm 0) = 1 := fun z => ((t_is_4 (by omega)).mp z).1 hc0
                        have n1 : ¬ t_is (g 74) f (e - f) (t_nm 1) = 1 := fun z => ((t_is_4 (by omega)).mp z).2 hc2
                        have n2 : ¬ t_is (g 74) f (e - f) (t_nm 2) = 1 := fun z => ((t_is_5 (by omega)).mp z).2 hc4
                        have n3 : ¬ t_is (g 74) f (e - f) (t_nm 3) = 1 := fun z => ((t_is_4 (by omega)).mp z).2 hc6
                        have n4 : ¬ t_is (g 74) f (e - f) (t_nm 4) = 1 := fun z => ((t_is_2 (by omega)).mp z) hc7
                        have n5 : ¬ t_is (g 74) f (e - f) (t_nm 5) = 1 := fun z => ((t_is_5 (by omega)).mp z).1 hc8
                        have y6 : t_is (g 74) f (e - f) (t_nm 6) = 1 := (t_is_4 (by omega)).mpr ⟨hc9, hc10⟩
                        unfold t_ln
                        rw [if_neg n0, if_neg n1, if_neg n2, if_neg n3, if_neg n4, if_neg n5, if_pos y6]
                  · refine q_step 4 138 [(0, .ref 70)] [.int (108 : Int32), .int (108 : Int32), .int (105 : Int32), .ref 70] g u (fun big n0 => sg_nm_91 big n0 g u) ?_
                    refine q_call (M2 := 158) (rest := []) (r_ends g u hs h160 hf he hfe hes _ _ _) (fun _ _ => rfl) ?_
                    refine q_if_eq rfl (fun (hc9 : (t_p2 (g 74) s f (105 : Int32) (108 : Int32) (108 : Int32)) = 0) => ?_) (fun (hc9 : ¬ ((t_p2 (g 74) s f (105 : Int32) (108 : Int32) (108 : Int32)) = 0)) => ?_)
                    · refine q_step 4 154 [(0, .ref 70)] [.int (111 : Int32), .int (103 : Int32), .int (4 : Int32), .ref 70] g u (fun big n0 => sg_nm_89 big n0 g u) ?_
                      refine q_call (M2 := 157) (rest := []) (r_is g u hs h160 hf he hfe hes 4 (by omega) _ _) (fun _ _ => rfl) ?_
                      refine q_if_eq rfl (fun (hc10 : (t_p1 (g 74) s f (e - f) 4 (103 : Int32) (111 : Int32)) = 0) => ?_) (fun (hc10 : ¬ ((t_p1 (g 74) s f (e - f) 4 (103 : Int32) (111 : Int32)) = 0)) => ?_)
                      · refine q_ret 2 (some (.int (Int8.toInt32 (Int8.ofInt (-4)))), g, u) (fun _ _ => rfl) ?_
                        have n0 : ¬ t_is (g 74) f (e - f) (t_nm 0) = 1 := fun z => ((t_is_4 (by omega)).mp z).1 hc0
                        have n1 : ¬ t_is (g 74) f (e - f) (t_nm 1) = 1 := fun z => ((t_is_4 (by omega)).mp z).2 hc2
                        have n2 : ¬ t_is (g 74) f (e - f) (t_nm 2) = 1 := fun z => ((t_is_5 (by omega)).mp z).2 hc4
                        have n3 : ¬ t_is (g 74) f (e - f) (t_nm 3) = 1 := fun z => ((t_is_4 (by omega)).mp z).2 hc6
                        have n4 : ¬ t_is (g 74) f (e - f) (t_nm 4) = 1 := fun z => ((t_is_2 (by omega)).mp z) hc7
                        have n5 : ¬ t_is (g 74) f (e - f) (t_nm 5) = 1 := fun z => ((t_is_5 (by omega)).mp z).2 hc9
                        have n6 : ¬ t_is (g 74) f (e - f) (t_nm 6) = 1 := fun z => ((t_is_4 (by omega)).mp z).1 hc10
                        unfold t_ln
                        rw [if_neg n0, if_neg n1, if_neg n2, if_neg n3, if_neg n4, if_neg n5, if_neg n6]
                        rfl
                      · refine q_step 4 166 [(0, .ref 70)] [.int (0 : Int32), .int (108 : Int32), .int (97 : Int32), .ref 70] g u (fun big n0 => sg_nm_90 big n0 g u) ?_
                        refine q_call (M2 := 158) (rest := []) (r_ends g u hs h160 hf he hfe hes _ _ _) (fun _ _ => rfl) ?_
                        refine q_if_eq rfl (fun (hc11 : (t_p2 (g 74) s f (97 : Int32) (108 : Int32) (0 : Int32)) = 0) => ?_) (fun (hc11 : ¬ ((t_p2 (g 74) s f (97 : Int32) (108 : Int32) (0 : Int32)) = 0)) => ?_)
                        · refine q_ret 2 (some (.int (Int8.toInt32 (Int8.ofInt (-4)))), g, u) (fun _ _ => rfl) ?_
                          have n0 : ¬ t_is (g 74) f (e - f) (t_nm 0) = 1 := fun z => ((t_is_4 (by omega)).mp z).1 hc0
                          have n1 : ¬ t_is (g 74) f (e - f) (t_nm 1) = 1 := fun z => ((t_is_4 (by omega)).mp z).2 hc2
                          have n2 : ¬ t_is (g 74) f (e - f) (t_nm 2) = 1 := fun z => ((t_is_5 (by omega)).mp z).2 hc4
                          have n3 : ¬ t_is (g 74) f (e - f) (t_nm 3) = 1 := fun z => ((t_is_4 (by omega)).mp z).2 hc6
                          have n4 : ¬ t_is (g 74) f (e - f) (t_nm 4) = 1 := fun z => ((t_is_2 (by omega)).mp z) hc7
                          have n5 : ¬ t_is (g 74) f (e - f) (t_nm 5) = 1 := fun z => ((t_is_5 (by omega)).mp z).2 hc9
                          have n6 : ¬ t_is (g 74) f (e - f) (t_nm 6) = 1 := fun z => ((t_is_4 (by omega)).mp z).2 hc11
                          unfold t_ln
                          rw [if_neg n0, if_neg n1, if_neg n2, if_neg n3, if_neg n4, if_neg n5, if_neg n6]
                          rfl
                        · refine q_ret 3 (some (.int (6 : Int32)), g, u) (fun _ _ => rfl) ?_
                          have n0 : ¬ t_is (g 74) f (e - f) (t_nm 0) = 1 := fun z => ((t_is_4 (by omega)).mp z).1 hc0
                          have n1 : ¬ t_is (g 74) f (e - f) (t_nm 1) = 1 := fun z => ((t_is_4 (by omega)).mp z).2 hc2
                          have n2 : ¬ t_is (g 74) f (e - f) (t_nm 2) = 1 := fun z => ((t_is_5 (by omega)).mp z).2 hc4
                          have n3 : ¬ t_is (g 74) f (e - f) (t_nm 3) = 1 := fun z => ((t_is_4 (by omega)).mp z).2 hc6
                          have n4 : ¬ t_is (g 74) f (e - f) (t_nm 4) = 1 := fun z => ((t_is_2 (by omega)).mp z) hc7
                          have n5 : ¬ t_is (g 74) f (e - f) (t_nm 5) = 1 := fun z => ((t_is_5 (by omega)).mp z).2 hc9
                          have y6 : t_is (g 74) f (e - f) (t_nm 6) = 1 := (t_is_4 (by omega)).mpr ⟨hc10, hc11⟩
                          unfold t_ln
                          rw [if_neg n0, if_neg n1, if_neg n2, if_neg n3, if_neg n4, if_neg n5, if_pos y6]
                    · refine q_ret 3 (some (.int (5 : Int32)), g, u) (fun _ _ => rfl) ?_
                      have n0 : ¬ t_is (g 74) f (e - f) (t_nm 0) = 1 := fun z => ((t_is_4 (by omega)).mp z).1 hc0
                      have n1 : ¬ t_is (g 74) f (e - f) (t_nm 1) = 1 := fun z => ((t_is_4 (by omega)).mp z).2 hc2
                      have n2 : ¬ t_is (g 74) f (e - f) (t_nm 2) = 1 := fun z => ((t_is_5 (by omega)).mp z).2 hc4
                      have n3 : ¬ t_is (g 74) f (e - f) (t_nm 3) = 1 := fun z => ((t_is_4 (by omega)).mp z).2 hc6
                      have n4 : ¬ t_is (g 74) f (e - f) (t_nm 4) = 1 := fun z => ((t_is_2 (by omega)).mp z) hc7
                      have y5 : t_is (g 74) f (e - f) (t_nm 5) = 1 := (t_is_5 (by omega)).mpr ⟨hc8, hc9⟩
                      unfold t_ln
                      rw [if_neg n0, if_neg n1, if_neg n2, if_neg n3, if_neg n4, if_pos y5]
                · refine q_ret 2 (some (.int (4 : Int32)), g, u) (fun _ _ => rfl) ?_
                  have n0 : ¬ t_is (g 74) f (e - f) (t_nm 0) = 1 := fun z => ((t_is_4 (by omega)).mp z).1 hc0
                  have n1 : ¬ t_is (g 74) f (e - f) (t_nm 1) = 1 := fun z => ((t_is_4 (by omega)).mp z).2 hc2
                  have n2 : ¬ t_is (g 74) f (e - f) (t_nm 2) = 1 := fun z => ((t_is_5 (by omega)).mp z).2 hc4
                  have n3 : ¬ t_is (g 74) f (e - f) (t_nm 3) = 1 := fun z => ((t_is_4 (by omega)).mp z).2 hc6
                  have y4 : t_is (g 74) f (e - f) (t_nm 4) = 1 := (t_is_2 (by omega)).mpr hc7
                  unfold t_ln
                  rw [if_neg n0, if_neg n1, if_neg n2, if_neg n3, if_pos y4]
              · refine q_ret 2 (some (.int (3 : Int32)), g, u) (fun _ _ => rfl) ?_
                have n0 : ¬ t_is (g 74) f (e - f) (t_nm 0) = 1 := fun z => ((t_is_4 (by omega)).mp z).1 hc0
                have n1 : ¬ t_is (g 74) f (e - f) (t_nm 1) = 1 := fun z => ((t_is_4 (by omega)).mp z).2 hc2
                have n2 : ¬ t_is (g 74) f (e - f) (t_nm 2) = 1 := fun z => ((t_is_5 (by omega)).mp z).2 hc4
                have y3 : t_is (g 74) f (e - f) (t_nm 3) = 1 := (t_is_4 (by omega)).mpr ⟨hc5, hc6⟩
                unfold t_ln
                rw [if_neg n0, if_neg n1, if_neg n2, if_pos y3]
          · refine q_ret 2 (some (.int (2 : Int32)), g, u) (fun _ _ => rfl) ?_
            have n0 : ¬ t_is (g 74) f (e - f) (t_nm 0) = 1 := fun z => ((t_is_4 (by omega)).mp z).1 hc0
            have n1 : ¬ t_is (g 74) f (e - f) (t_nm 1) = 1 := fun z => ((t_is_4 (by omega)).mp z).2 hc2
            have y2 : t_is (g 74) f (e - f) (t_nm 2) = 1 := (t_is_5 (by omega)).mpr ⟨hc3, hc4⟩
            unfold t_ln
            rw [if_neg n0, if_neg n1, if_pos y2]
      · refine q_ret 2 (some (.int (1 : Int32)), g, u) (fun _ _ => rfl) ?_
        have n0 : ¬ t_is (g 74) f (e - f) (t_nm 0) = 1 := fun z => ((t_is_4 (by omega)).mp z).1 hc0
        have y1 : t_is (g 74) f (e - f) (t_nm 1) = 1 := (t_is_4 (by omega)).mpr ⟨hc1, hc2⟩
        unfold t_ln
        rw [if_neg n0, if_pos y1]
  · refine q_step 4 18 [(0, .ref 70)] [.int (0 : Int32), .int (110 : Int32), .int (119 : Int32), .ref 70] g u (fun big n0 => sg_nm_95 big n0 g u) ?_
    refine q_call (M2 := 158) (rest := []) (r_ends g u hs h160 hf he hfe hes _ _ _) (fun _ _ => rfl) ?_
    refine q_if_eq rfl (fun (hc1 : (t_p2 (g 74) s f (119 : Int32) (110 : Int32) (0 : Int32)) = 0) => ?_) (fun (hc1 : ¬ ((t_p2 (g 74) s f (119 : Int32) (110 : Int32) (0 : Int32)) = 0)) => ?_)
    · refine q_step 4 32 [(0, .ref 70)] [.int (117 : Int32), .int (112 : Int32), .int (4 : Int32), .ref 70] g u (fun big n0 => sg_nm_84 big n0 g u) ?_
      refine q_call (M2 := 157) (rest := []) (r_is g u hs h160 hf he hfe hes 4 (by omega) _ _) (fun _ _ => rfl) ?_
      refine q_if_eq rfl (fun (hc2 : (t_p1 (g 74) s f (e - f) 4 (112 : Int32) (117 : Int32)) = 0) => ?_) (fun (hc2 : ¬ ((t_p1 (g 74) s f (e - f) 4 (112 : Int32) (117 : Int32)) = 0)) => ?_)
      · refine q_step 4 58 [(0, .ref 70)] [.int (114 : Int32), .int (112 : Int32), .int (5 : Int32), .ref 70] g u (fun big n0 => sg_nm_85 big n0 g u) ?_
        refine q_call (M2 := 157) (rest := []) (r_is g u hs h160 hf he hfe hes 5 (by omega) _ _) (fun _ _ => rfl) ?_
        refine q_if_eq rfl (fun (hc3 : (t_p1 (g 74) s f (e - f) 5 (112 : Int32) (114 : Int32)) = 0) => ?_) (fun (hc3 : ¬ ((t_p1 (g 74) s f (e - f) 5 (112 : Int32) (114 : Int32)) = 0)) => ?_)
        · refine q_step 4 85 [(0, .ref 70)] [.int (97 : Int32), .int (119 : Int32), .int (4 : Int32), .ref 70] g u (fun big n0 => sg_nm_86 big n0 g u) ?_
          refine q_call (M2 := 157) (rest := []) (r_is g u hs h160 hf he hfe hes 4 (by omega) _ _) (fun _ _ => rfl) ?_
          refine q_if_eq rfl (fun (hc4 : (t_p1 (g 74) s f (e - f) 4 (119 : Int32) (97 : Int32)) = 0) => ?_) (fun (hc4 : ¬ ((t_p1 (g 74) s f (e - f) 4 (119 : Int32) (97 : Int32)) = 0)) => ?_)
          · refine q_step 4 111 [(0, .ref 70)] [.int (116 : Int32), .int (97 : Int32), .int (2 : Int32), .ref 70] g u (fun big n0 => sg_nm_87 big n0 g u) ?_
            refine q_call (M2 := 157) (rest := []) (r_is g u hs h160 hf he hfe hes 2 (by omega) _ _) (fun _ _ => rfl) ?_
            refine q_if_eq rfl (fun (hc5 : (t_p1 (g 74) s f (e - f) 2 (97 : Int32) (116 : Int32)) = 0) => ?_) (fun (hc5 : ¬ ((t_p1 (g 74) s f (e - f) 2 (97 : Int32) (116 : Int32)) = 0)) => ?_)
            · refine q_step 4 125 [(0, .ref 70)] [.int (116 : Int32), .int (115 : Int32), .int (5 : Int32), .ref 70] g u (fun big n0 => sg_nm_88 big n0 g u) ?_
              refine q_call (M2 := 157) (rest := []) (r_is g u hs h160 hf he hfe hes 5 (by omega) _ _) (fun _ _ => rfl) ?_
              refine q_if_eq rfl (fun (hc6 : (t_p1 (g 74) s f (e - f) 5 (115 : Int32) (116 : Int32)) = 0) => ?_) (fun (hc6 : ¬ ((t_p1 (g 74) s f (e - f) 5 (115 : Int32) (116 : Int32)) = 0)) => ?_)
              · refine q_step 4 154 [(0, .ref 70)] [.int (111 : Int32), .int (103 : Int32), .int (4 : Int32), .ref 70] g u (fun big n0 => sg_nm_89 big n0 g u) ?_
                refine q_call (M2 := 157) (rest := []) (r_is g u hs h160 hf he hfe hes 4 (by omega) _ _) (fun _ _ => rfl) ?_
                refine q_if_eq rfl (fun (hc7 : (t_p1 (g 74) s f (e - f) 4 (103 : Int32) (111 : Int32)) = 0) => ?_) (fun (hc7 : ¬ ((t_p1 (g 74) s f (e - f) 4 (103 : Int32) (111 : Int32)) = 0)) => ?_)
                · refine q_ret 2 (some (.int (Int8.toInt32 (Int8.ofInt (-4)))), g, u) (fun _ _ => rfl) ?_
                  have n0 : ¬ t_is (g 74) f (e - f) (t_nm 0) = 1 := fun z => ((t_is_4 (by omega)).mp z).2 hc1
                  have n1 : ¬ t_is (g 74) f (e - f) (t_nm 1) = 1 := fun z => ((t_is_4 (by omega)).mp z).1 hc2
                  have n2 : ¬ t_is (g 74) f (e - f) (t_nm 2) = 1 := fun z => ((t_is_5 (by omega)).mp z).1 hc3
                  have n3 : ¬ t_is (g 74) f (e - f) (t_nm 3) = 1 := fun z => ((t_is_4 (by omega)).mp z).1 hc4
                  have n4 : ¬ t_is (g 74) f (e - f) (t_nm 4) = 1 := fun z => ((t_is_2 (by omega)).mp z) hc5
                  have n5 : ¬ t_is (g 74) f (e - f) (t_nm 5) = 1 := fun z => ((t_is_5 (by omega)).mp z).1 hc6
                  have n6 : ¬ t_is (g 74) f (e - f) (t_nm 6) = 1 := fun z => ((t_is_4 (by omega)).mp z).1 hc7
                  unfold t_ln
                  rw [if_neg n0, if_neg n1, if_neg n2, if_neg n3, if_neg n4, if_neg n5, if_neg n6]
                  rfl
                · refine q_step 4 166 [(0, .ref 70)] [.int (0 : Int32), .int (108 : Int32), .int (97 : Int32), .ref 70] g u (fun big n0 => sg_nm_90 big n0 g u) ?_
                  refine q_call (M2 := 158) (rest := []) (r_ends g u hs h160 hf he hfe hes _ _ _) (fun _ _ => rfl) ?_
                  refine q_if_eq rfl (fun (hc8 : (t_p2 (g 74) s f (97 : Int32) (108 : Int32) (0 : Int32)) = 0) => ?_) (fun (hc8 : ¬ ((t_p2 (g 74) s f (97 : Int32) (108 : Int32) (0 : Int32)) = 0)) => ?_)
                  · refine q_ret 2 (some (.int (Int8.toInt32 (Int8.ofInt (-4)))), g, u) (fun _ _ => rfl) ?_
                    have n0 : ¬ t_is (g 74) f (e - f) (t_nm 0) = 1 := fun z => ((t_is_4 (by omega)).mp z).2 hc1
                    have n1 : ¬ t_is (g 74) f (e - f) (t_nm 1) = 1 := fun z => ((t_is_4 (by omega)).mp z).1 hc2
                    have n2 : ¬ t_is (g 74) f (e - f) (t_nm 2) = 1 := fun z => ((t_is_5 (by omega)).mp z).1 hc3
                    have n3 : ¬ t_is (g 74) f (e - f) (t_nm 3) = 1 := fun z => ((t_is_4 (by omega)).mp z).1 hc4
                    have n4 : ¬ t_is (g 74) f (e - f) (t_nm 4) = 1 := fun z => ((t_is_2 (by omega)).mp z) hc5
                    have n5 : ¬ t_is (g 74) f (e - f) (t_nm 5) = 1 := fun z => ((t_is_5 (by omega)).mp z).1 hc6
                    have n6 : ¬ t_is (g 74) f (e - f) (t_nm 6) = 1 := fun z => ((t_is_4 (by omega)).mp z).2 hc8
                    unfold t_ln
                    rw [if_neg n0, if_neg n1, if_neg n2, if_neg n3, if_neg n4, if_neg n5, if_neg n6]
                    rfl
                  · refine q_ret 3 (some (.int (6 : Int32)), g, u) (fun _ _ => rfl) ?_
                    have n0 : ¬ t_is (g 74) f (e - f) (t_nm 0) = 1 := fun z => ((t_is_4 (by omega)).mp z).2 hc1
                    have n1 : ¬ t_is (g 74) f (e - f) (t_nm 1) = 1 := fun z => ((t_is_4 (by omega)).mp z).1 hc2
                    have n2 : ¬ t_is (g 74) f (e - f) (t_nm 2) = 1 := fun z => ((t_is_5 (by omega)).mp z).1 hc3
                    have n3 : ¬ t_is (g 74) f (e - f) (t_nm 3) = 1 := fun z => ((t_is_4 (by omega)).mp z).1 hc4
                    have n4 : ¬ t_is (g 74) f (e - f) (t_nm 4) = 1 := fun z => ((t_is_2 (by omega)).mp z) hc5
                    have n5 : ¬ t_is (g 74) f (e - f) (t_nm 5) = 1 := fun z => ((t_is_5 (by omega)).mp z).1 hc6
                    have y6 : t_is (g 74) f (e - f) (t_nm 6) = 1 := (t_is_4 (by omega)).mpr ⟨hc7, hc8⟩
                    unfold t_ln
                    rw [if_neg n0, if_neg n1, if_neg n2, if_neg n3, if_neg n4, if_neg n5, if_pos y6]
              · refine q_step 4 138 [(0, .ref 70)] [.int (108 : Int32), .int (108 : Int32), .int (105 : Int32), .ref 70] g u (fun big n0 => sg_nm_91 big n0 g u) ?_
                refine q_call (M2 := 158) (rest := []) (r_ends g u hs h160 hf he hfe hes _ _ _) (fun _ _ => rfl) ?_
                refine q_if_eq rfl (fun (hc7 : (t_p2 (g 74) s f (105 : Int32) (108 : Int32) (108 : Int32)) = 0) => ?_) (fun (hc7 : ¬ ((t_p2 (g 74) s f (105 : Int32) (108 : Int32) (108 : Int32)) = 0)) => ?_)
                · refine q_step 4 154 [(0, .ref 70)] [.int (111 : Int32), .int (103 : Int32), .int (4 : Int32), .ref 70] g u (fun big n0 => sg_nm_89 big n0 g u) ?_
                  refine q_call (M2 := 157) (rest := []) (r_is g u hs h160 hf he hfe hes 4 (by omega) _ _) (fun _ _ => rfl) ?_
                  refine q_if_eq rfl (fun (hc8 : (t_p1 (g 74) s f (e - f) 4 (103 : Int32) (111 : Int32)) = 0) => ?_) (fun (hc8 : ¬ ((t_p1 (g 74) s f (e - f) 4 (103 : Int32) (111 : Int32)) = 0)) => ?_)
                  · refine q_ret 2 (some (.int (Int8.toInt32 (Int8.ofInt (-4)))), g, u) (fun _ _ => rfl) ?_
                    have n0 : ¬ t_is (g 74) f (e - f) (t_nm 0) = 1 := fun z => ((t_is_4 (by omega)).mp z).2 hc1
                    have n1 : ¬ t_is (g 74) f (e - f) (t_nm 1) = 1 := fun z => ((t_is_4 (by omega)).mp z).1 hc2
                    have n2 : ¬ t_is (g 74) f (e - f) (t_nm 2) = 1 := fun z => ((t_is_5 (by omega)).mp z).1 hc3
                    have n3 : ¬ t_is (g 74) f (e - f) (t_nm 3) = 1 := fun z => ((t_is_4 (by omega)).mp z).1 hc4
                    have n4 : ¬ t_is (g 74) f (e - f) (t_nm 4) = 1 := fun z => ((t_is_2 (by omega)).mp z) hc5
                    have n5 : ¬ t_is (g 74) f (e - f) (t_nm 5) = 1 := fun z => ((t_is_5 (by omega)).mp z).2 hc7
                    have n6 : ¬ t_is (g 74) f (e - f) (t_nm 6) = 1 := fun z => ((t_is_4 (by omega)).mp z).1 hc8
                    unfold t_ln
                    rw [if_neg n0, if_neg n1, if_neg n2, if_neg n3, if_neg n4, if_neg n5, if_neg n6]
                    rfl
                  · refine q_step 4 166 [(0, .ref 70)] [.int (0 : Int32), .int (108 : Int32), .int (97 : Int32), .ref 70] g u (fun big n0 => sg_nm_90 big n0 g u) ?_
                    refine q_call (M2 := 158) (rest := []) (r_ends g u hs h160 hf he hfe hes _ _ _) (fun _ _ => rfl) ?_
                    refine q_if_eq rfl (fun (hc9 : (t_p2 (g 74) s f (97 : Int32) (108 : Int32) (0 : Int32)) = 0) => ?_) (fun (hc9 : ¬ ((t_p2 (g 74) s f (97 : Int32) (108 : Int32) (0 : Int32)) = 0)) => ?_)
                    · refine q_ret 2 (some (.int (Int8.toInt32 (Int8.ofInt (-4)))), g, u) (fun _ _ => rfl) ?_
                      have n0 : ¬ t_is (g 74) f (e - f) (t_nm 0) = 1 := fun z => ((t_is_4 (by omega)).mp z).2 hc1
                      have n1 : ¬ t_is (g 74) f (e - f) (t_nm 1) = 1 := fun z => ((t_is_4 (by omega)).mp z).1 hc2
                      have n2 : ¬ t_is (g 74) f (e - f) (t_nm 2) = 1 := fun z => ((t_is_5 (by omega)).mp z).1 hc3
                      have n3 : ¬ t_is (g 74) f (e - f) (t_nm 3) = 1 := fun z => ((t_is_4 (by omega)).mp z).1 hc4
                      have n4 : ¬ t_is (g 74) f (e - f) (t_nm 4) = 1 := fun z => ((t_is_2 (by omega)).mp z) hc5
                      have n5 : ¬ t_is (g 74) f (e - f) (t_nm 5) = 1 := fun z => ((t_is_5 (by omega)).mp z).2 hc7
                      have n6 : ¬ t_is (g 74) f (e - f) (t_nm 6) = 1 := fun z => ((t_is_4 (by omega)).mp z).2 hc9
                      unfold t_ln
                      rw [if_neg n0, if_neg n1, if_neg n2, if_neg n3, if_neg n4, if_neg n5, if_neg n6]
                      rfl
                    · refine q_ret 3 (some (.int (6 : Int32)), g, u) (fun _ _ => rfl) ?_
                      have n0 : ¬ t_is (g 74) f (e - f) (t_nm 0) = 1 := fun z => ((t_is_4 (by omega)).mp z).2 hc1
                      have n1 : ¬ t_is (g 74) f (e - f) (t_nm 1) = 1 := fun z => ((t_is_4 (by omega)).mp z).1 hc2
                      have n2 : ¬ t_is (g 74) f (e - f) (t_nm 2) = 1 := fun z => ((t_is_5 (by omega)).mp z).1 hc3
                      have n3 : ¬ t_is (g 74) f (e - f) (t_nm 3) = 1 := fun z => ((t_is_4 (by omega)).mp z).1 hc4
                      have n4 : ¬ t_is (g 74) f (e - f) (t_nm 4) = 1 := fun z => ((t_is_2 (by omega)).mp z) hc5
                      have n5 : ¬ t_is (g 74) f (e - f) (t_nm 5) = 1 := fun z => ((t_is_5 (by omega)).mp z).2 hc7
                      have y6 : t_is (g 74) f (e - f) (t_nm 6) = 1 := (t_is_4 (by omega)).mpr ⟨hc8, hc9⟩
                      unfold t_ln
                      rw [if_neg n0, if_neg n1, if_neg n2, if_neg n3, if_neg n4, if_neg n5, if_pos y6]
                · refine q_ret 3 (some (.int (5 : Int32)), g, u) (fun _ _ => rfl) ?_
                  have n0 : ¬ t_is (g 74) f (e - f) (t_nm 0) = 1 := fun z => ((t_is_4 (by omega)).mp z).2 hc1
                  have n1 : ¬ t_is (g 74) f (e - f) (t_nm 1) = 1 := fun z => ((t_is_4 (by omega)).mp z).1 hc2
                  have n2 : ¬ t_is (g 74) f (e - f) (t_nm 2) = 1 := fun z => ((t_is_5 (by omega)).mp z).1 hc3
                  have n3 : ¬ t_is (g 74) f (e - f) (t_nm 3) = 1 := fun z => ((t_is_4 (by omega)).mp z).1 hc4
                  have n4 : ¬ t_is (g 74) f (e - f) (t_nm 4) = 1 := fun z => ((t_is_2 (by omega)).mp z) hc5
                  have y5 : t_is (g 74) f (e - f) (t_nm 5) = 1 := (t_is_5 (by omega)).mpr ⟨hc6, hc7⟩
                  unfold t_ln
                  rw [if_neg n0, if_neg n1, if_neg n2, if_neg n3, if_neg n4, if_pos y5]
            · refine q_ret 2 (some (.int (4 : Int32)), g, u) (fun _ _ => rfl) ?_
              have n0 : ¬ t_is (g 74) f (e - f) (t_nm 0) = 1 := fun z => ((t_is_4 (by omega)).mp z).2 hc1
              have n1 : ¬ t_is (g 74) f (e - f) (t_nm 1) = 1 := fun z => ((t_is_4 (by omega)).mp z).1 hc2
              have n2 : ¬ t_is (g 74) f (e - f) (t_nm 2) = 1 := fun z => ((t_is_5 (by omega)).mp z).1 hc3
              have n3 : ¬ t_is (g 74) f (e - f) (t_nm 3) = 1 := fun z => ((t_is_4 (by omega)).mp z).1 hc4
              have y4 : t_is (g 74) f (e - f) (t_nm 4) = 1 := (t_is_2 (by omega)).mpr hc5
              unfold t_ln
              rw [if_neg n0, if_neg n1, if_neg n2, if_neg n3, if_pos y4]
          · refine q_step 4 97 [(0, .ref 70)] [.int (0 : Int32), .int (108 : Int32), .int (108 : Int32), .ref 70] g u (fun big n0 => sg_nm_92 big n0 g u) ?_
            refine q_call (M2 := 158) (rest := []) (r_ends g u hs h160 hf he hfe hes _ _ _) (fun _ _ => rfl) ?_
            refine q_if_eq rfl (fun (hc5 : (t_p2 (g 74) s f (108 : Int32) (108 : Int32) (0 : Int32)) = 0) => ?_) (fun (hc5 : ¬ ((t_p2 (g 74) s f (108 : Int32) (108 : Int32) (0 : Int32)) = 0)) => ?_)
            · refine q_step 4 111 [(0, .ref 70)] [.int (116 : Int32), .int (97 : Int32), .int (2 : Int32), .ref 70] g u (fun big n0 => sg_nm_87 big n0 g u) ?_
              refine q_call (M2 := 157) (rest := []) (r_is g u hs h160 hf he hfe hes 2 (by omega) _ _) (fun _ _ => rfl) ?_
              refine q_if_eq rfl (fun (hc6 : (t_p1 (g 74) s f (e - f) 2 (97 : Int32) (116 : Int32)) = 0) => ?_) (fun (hc6 : ¬ ((t_p1 (g 74) s f (e - f) 2 (97 : Int32) (116 : Int32)) = 0)) => ?_)
              · refine q_step 4 125 [(0, .ref 70)] [.int (116 : Int32), .int (115 : Int32), .int (5 : Int32), .ref 70] g u (fun big n0 => sg_nm_88 big n0 g u) ?_
                refine q_call (M2 := 157) (rest := []) (r_is g u hs h160 hf he hfe hes 5 (by omega) _ _) (fun _ _ => rfl) ?_
                refine q_if_eq rfl (fun (hc7 : (t_p1 (g 74) s f (e - f) 5 (115 : Int32) (116 : Int32)) = 0) => ?_) (fun (hc7 : ¬ ((t_p1 (g 74) s f (e - f) 5 (115 : Int32) (116 : Int32)) = 0)) => ?_)
                · refine q_step 4 154 [(0, .ref 70)] [.int (111 : Int32), .int (103 : Int32), .int (4 : Int32), .ref 70] g u (fun big n0 => sg_nm_89 big n0 g u) ?_
                  refine q_call (M2 := 157) (rest := []) (r_is g u hs h160 hf he hfe hes 4 (by omega) _ _) (fun _ _ => rfl) ?_
                  refine q_if_eq rfl (fun (hc8 : (t_p1 (g 74) s f (e - f) 4 (103 : Int32) (111 : Int32)) = 0) => ?_) (fun (hc8 : ¬ ((t_p1 (g 74) s f (e - f) 4 (103 : Int32) (111 : Int32)) = 0)) => ?_)
                  · refine q_ret 2 (some (.int (Int8.toInt32 (Int8.ofInt (-4)))), g, u) (fun _ _ => rfl) ?_
                    have n0 : ¬ t_is (g 74) f (e - f) (t_nm 0) = 1 := fun z => ((t_is_4 (by omega)).mp z).2 hc1
                    have n1 : ¬ t_is (g 74) f (e - f) (t_nm 1) = 1 := fun z => ((t_is_4 (by omega)).mp z).1 hc2
                    have n2 : ¬ t_is (g 74) f (e - f) (t_nm 2) = 1 := fun z => ((t_is_5 (by omega)).mp z).1 hc3
                    have n3 : ¬ t_is (g 74) f (e - f) (t_nm 3) = 1 := fun z => ((t_is_4 (by omega)).mp z).2 hc5
                    have n4 : ¬ t_is (g 74) f (e - f) (t_nm 4) = 1 := fun z => ((t_is_2 (by omega)).mp z) hc6
                    have n5 : ¬ t_is (g 74) f (e - f) (t_nm 5) = 1 := fun z => ((t_is_5 (by omega)).mp z).1 hc7
                    have n6 : ¬ t_is (g 74) f (e - f) (t_nm 6) = 1 := fun z => ((t_is_4 (by omega)).mp z).1 hc8
                    unfold t_ln
                    rw [if_neg n0, if_neg n1, if_neg n2, if_neg n3, if_neg n4, if_neg n5, if_neg n6]
                    rfl
                  · refine q_step 4 166 [(0, .ref 70)] [.int (0 : Int32), .int (108 : Int32), .int (97 : Int32), .ref 70] g u (fun big n0 => sg_nm_90 big n0 g u) ?_
                    refine q_call (M2 := 158) (rest := []) (r_ends g u hs h160 hf he hfe hes _ _ _) (fun _ _ => rfl) ?_
                    refine q_if_eq rfl (fun (hc9 : (t_p2 (g 74) s f (97 : Int32) (108 : Int32) (0 : Int32)) = 0) => ?_) (fun (hc9 : ¬ ((t_p2 (g 74) s f (97 : Int32) (108 : Int32) (0 : Int32)) = 0)) => ?_)
                    · refine q_ret 2 (some (.int (Int8.toInt32 (Int8.ofInt (-4)))), g, u) (fun _ _ => rfl) ?_
                      have n0 : ¬ t_is (g 74) f (e - f) (t_nm 0) = 1 := fun z => ((t_is_4 (by omega)).mp z).2 hc1
                      have n1 : ¬ t_is (g 74) f (e - f) (t_nm 1) = 1 := fun z => ((t_is_4 (by omega)).mp z).1 hc2
                      have n2 : ¬ t_is (g 74) f (e - f) (t_nm 2) = 1 := fun z => ((t_is_5 (by omega)).mp z).1 hc3
                      have n3 : ¬ t_is (g 74) f (e - f) (t_nm 3) = 1 := fun z => ((t_is_4 (by omega)).mp z).2 hc5
                      have n4 : ¬ t_is (g 74) f (e - f) (t_nm 4) = 1 := fun z => ((t_is_2 (by omega)).mp z) hc6
                      have n5 : ¬ t_is (g 74) f (e - f) (t_nm 5) = 1 := fun z => ((t_is_5 (by omega)).mp z).1 hc7
                      have n6 : ¬ t_is (g 74) f (e - f) (t_nm 6) = 1 := fun z => ((t_is_4 (by omega)).mp z).2 hc9
                      unfold t_ln
                      rw [if_neg n0, if_neg n1, if_neg n2, if_neg n3, if_neg n4, if_neg n5, if_neg n6]
                      rfl
                    · refine q_ret 3 (some (.int (6 : Int32)), g, u) (fun _ _ => rfl) ?_
                      have n0 : ¬ t_is (g 74) f (e - f) (t_nm 0) = 1 := fun z => ((t_is_4 (by omega)).mp z).2 hc1
                      have n1 : ¬ t_is (g 74) f (e - f) (t_nm 1) = 1 := fun z => ((t_is_4 (by omega)).mp z).1 hc2
                      have n2 : ¬ t_is (g 74) f (e - f) (t_nm 2) = 1 := fun z => ((t_is_5 (by omega)).mp z).1 hc3
                      have n3 : ¬ t_is (g 74) f (e - f) (t_nm 3) = 1 := fun z => ((t_is_4 (by omega)).mp z).2 hc5
                      have n4 : ¬ t_is (g 74) f (e - f) (t_nm 4) = 1 := fun z => ((t_is_2 (by omega)).mp z) hc6
                      have n5 : ¬ t_is (g 74) f (e - f) (t_nm 5) = 1 := fun z => ((t_is_5 (by omega)).mp z).1 hc7
                      have y6 : t_is (g 74) f (e - f) (t_nm 6) = 1 := (t_is_4 (by omega)).mpr ⟨hc8, hc9⟩
                      unfold t_ln
                      rw [if_neg n0, if_neg n1, if_neg n2, if_neg n3, if_neg n4, if_neg n5, if_pos y6]
                · refine q_step 4 138 [(0, .ref 70)] [.int (108 : Int32), .int (108 : Int32), .int (105 : Int32), .ref 70] g u (fun big n0 => sg_nm_91 big n0 g u) ?_
                  refine q_call (M2 := 158) (rest := []) (r_ends g u hs h160 hf he hfe hes _ _ _) (fun _ _ => rfl) ?_
                  refine q_if_eq rfl (fun (hc8 : (t_p2 (g 74) s f (105 : Int32) (108 : Int32) (108 : Int32)) = 0) => ?_) (fun (hc8 : ¬ ((t_p2 (g 74) s f (105 : Int32) (108 : Int32) (108 : Int32)) = 0)) => ?_)
                  · refine q_step 4 154 [(0, .ref 70)] [.int (111 : Int32), .int (103 : Int32), .int (4 : Int32), .ref 70] g u (fun big n0 => sg_nm_89 big n0 g u) ?_
                    refine q_call (M2 := 157) (rest := []) (r_is g u hs h160 hf he hfe hes 4 (by omega) _ _) (fun _ _ => rfl) ?_
                    refine q_if_eq rfl (fun (hc9 : (t_p1 (g 74) s f (e - f) 4 (103 : Int32) (111 : Int32)) = 0) => ?_) (fun (hc9 : ¬ ((t_p1 (g 74) s f (e - f) 4 (103 : Int32) (111 : Int32)) = 0)) => ?_)
                    · refine q_ret 2 (some (.int (Int8.toInt32 (Int8.ofInt (-4)))), g, u) (fun _ _ => rfl) ?_
                      have n0 : ¬ t_is (g 74) f (e - f) (t_nm 0) = 1 := fun z => ((t_is_4 (by omega)).mp z).2 hc1
                      have n1 : ¬ t_is (g 74) f (e - f) (t_nm 1) = 1 := fun z => ((t_is_4 (by omega)).mp z).1 hc2
                      have n2 : ¬ t_is (g 74) f (e - f) (t_nm 2) = 1 := fun z => ((t_is_5 (by omega)).mp z).1 hc3
                      have n3 : ¬ t_is (g 74) f (e - f) (t_nm 3) = 1 := fun z => ((t_is_4 (by omega)).mp z).2 hc5
                      have n4 : ¬ t_is (g 74) f (e - f) (t_nm 4) = 1 := fun z => ((t_is_2 (by omega)).mp z) hc6
                      have n5 : ¬ t_is (g 74) f (e - f) (t_nm 5) = 1 := fun z => ((t_is_5 (by omega)).mp z).2 hc8
                      have n6 : ¬ t_is (g 74) f (e - f) (t_nm 6) = 1 := fun z => ((t_is_4 (by omega)).mp z).1 hc9
                      unfold t_ln
                      rw [if_neg n0, if_neg n1, if_neg n2, if_neg n3, if_neg n4, if_neg n5, if_neg n6]
                      rfl
                    · refine q_step 4 166 [(0, .ref 70)] [.int (0 : Int32), .int (108 : Int32), .int (97 : Int32), .ref 70] g u (fun big n0 => sg_nm_90 big n0 g u) ?_
                      refine q_call (M2 := 158) (rest := []) (r_ends g u hs h160 hf he hfe hes _ _ _) (fun _ _ => rfl) ?_
                      refine q_if_eq rfl (fun (hc10 : (t_p2 (g 74) s f (97 : Int32) (108 : Int32) (0 : Int32)) = 0) => ?_) (fun (hc10 : ¬ ((t_p2 (g 74) s f (97 : Int32) (108 : Int32) (0 : Int32)) = 0)) => ?_)
                      · refine q_ret 2 (some (.int (Int8.toInt32 (Int8.ofInt (-4)))), g, u) (fun _ _ => rfl) ?_
                        have n0 : ¬ t_is (g 74) f (e - f) (t_nm 0) = 1 := fun z => ((t_is_4 (by omega)).mp z).2 hc1
                        have n1 : ¬ t_is (g 74) f (e - f) (t_nm 1) = 1 := fun z => ((t_is_4 (by omega)).mp z).1 hc2
                        have n2 : ¬ t_is (g 74) f (e - f) (t_nm 2) = 1 := fun z => ((t_is_5 (by omega)).mp z).1 hc3
                        have n3 : ¬ t_is (g 74) f (e - f) (t_nm 3) = 1 := fun z => ((t_is_4 (by omega)).mp z).2 hc5
                        have n4 : ¬ t_is (g 74) f (e - f) (t_nm 4) = 1 := fun z => ((t_is_2 (by omega)).mp z) hc6
                        have n5 : ¬ t_is (g 74) f (e - f) (t_nm 5) = 1 := fun z => ((t_is_5 (by omega)).mp z).2 hc8
                        have n6 : ¬ t_is (g 74) f (e - f) (t_nm 6) = 1 := fun z => ((t_is_4 (by omega)).mp z).2 hc10
                        unfold t_ln
                        rw [if_neg n0, if_neg n1, if_neg n2, if_neg n3, if_neg n4, if_neg n5, if_neg n6]
                        rfl
                      · refine q_ret 3 (some (.int (6 : Int32)), g, u) (fun _ _ => rfl) ?_
                        have n0 : ¬ t_is (g 74) f (e - f) (t_nm 0) = 1 := fun z => ((t_is_4 (by omega)).mp z).2 hc1
                        have n1 : ¬ t_is (g 74) f (e - f) (t_nm 1) = 1 := fun z => ((t_is_4 (by omega)).mp z).1 hc2
                        have n2 : ¬ t_is (g 74) f (e - f) (t_nm 2) = 1 := fun z => ((t_is_5 (by omega)).mp z).1 hc3
                        have n3 : ¬ t_is (g 74) f (e - f) (t_nm 3) = 1 := fun z => ((t_is_4 (by omega)).mp z).2 hc5
                        have n4 : ¬ t_is (g 74) f (e - f) (t_nm 4) = 1 := fun z => ((t_is_2 (by omega)).mp z) hc6
                        have n5 : ¬ t_is (g 74) f (e - f) (t_nm 5) = 1 := fun z => ((t_is_5 (by omega)).mp z).2 hc8
                        have y6 : t_is (g 74) f (e - f) (t_nm 6) = 1 := (t_is_4 (by omega)).mpr ⟨hc9, hc10⟩
                        unfold t_ln
                        rw [if_neg n0, if_neg n1, if_neg n2, if_neg n3, if_neg n4, if_neg n5, if_pos y6]
                  · refine q_ret 3 (some (.int (5 : Int32)), g, u) (fun _ _ => rfl) ?_
                    have n0 : ¬ t_is (g 74) f (e - f) (t_nm 0) = 1 := fun z => ((t_is_4 (by omega)).mp z).2 hc1
                    have n1 : ¬ t_is (g 74) f (e - f) (t_nm 1) = 1 := fun z => ((t_is_4 (by omega)).mp z).1 hc2
                    have n2 : ¬ t_is (g 74) f (e - f) (t_nm 2) = 1 := fun z => ((t_is_5 (by omega)).mp z).1 hc3
                    have n3 : ¬ t_is (g 74) f (e - f) (t_nm 3) = 1 := fun z => ((t_is_4 (by omega)).mp z).2 hc5
                    have n4 : ¬ t_is (g 74) f (e - f) (t_nm 4) = 1 := fun z => ((t_is_2 (by omega)).mp z) hc6
                    have y5 : t_is (g 74) f (e - f) (t_nm 5) = 1 := (t_is_5 (by omega)).mpr ⟨hc7, hc8⟩
                    unfold t_ln
                    rw [if_neg n0, if_neg n1, if_neg n2, if_neg n3, if_neg n4, if_pos y5]
              · refine q_ret 2 (some (.int (4 : Int32)), g, u) (fun _ _ => rfl) ?_
                have n0 : ¬ t_is (g 74) f (e - f) (t_nm 0) = 1 := fun z => ((t_is_4 (by omega)).mp z).2 hc1
                have n1 : ¬ t_is (g 74) f (e - f) (t_nm 1) = 1 := fun z => ((t_is_4 (by omega)).mp z).1 hc2
                have n2 : ¬ t_is (g 74) f (e - f) (t_nm 2) = 1 := fun z => ((t_is_5 (by omega)).mp z).1 hc3
                have n3 : ¬ t_is (g 74) f (e - f) (t_nm 3) = 1 := fun z => ((t_is_4 (by omega)).mp z).2 hc5
                have y4 : t_is (g 74) f (e - f) (t_nm 4) = 1 := (t_is_2 (by omega)).mpr hc6
                unfold t_ln
                rw [if_neg n0, if_neg n1, if_neg n2, if_neg n3, if_pos y4]
            · refine q_ret 2 (some (.int (3 : Int32)), g, u) (fun _ _ => rfl) ?_
              have n0 : ¬ t_is (g 74) f (e - f) (t_nm 0) = 1 := fun z => ((t_is_4 (by omega)).mp z).2 hc1
              have n1 : ¬ t_is (g 74) f (e - f) (t_nm 1) = 1 := fun z => ((t_is_4 (by omega)).mp z).1 hc2
              have n2 : ¬ t_is (g 74) f (e - f) (t_nm 2) = 1 := fun z => ((t_is_5 (by omega)).mp z).1 hc3
              have y3 : t_is (g 74) f (e - f) (t_nm 3) = 1 := (t_is_4 (by omega)).mpr ⟨hc4, hc5⟩
              unfold t_ln
              rw [if_neg n0, if_neg n1, if_neg n2, if_pos y3]
        · refine q_step 4 71 [(0, .ref 70)] [.int (115 : Int32), .int (115 : Int32), .int (101 : Int32), .ref 70] g u (fun big n0 => sg_nm_93 big n0 g u) ?_
          refine q_call (M2 := 158) (rest := []) (r_ends g u hs h160 hf he hfe hes _ _ _) (fun _ _ => rfl) ?_
          refine q_if_eq rfl (fun (hc4 : (t_p2 (g 74) s f (101 : Int32) (115 : Int32) (115 : Int32)) = 0) => ?_) (fun (hc4 : ¬ ((t_p2 (g 74) s f (101 : Int32) (115 : Int32) (115 : Int32)) = 0)) => ?_)
          · refine q_step 4 85 [(0, .ref 70)] [.int (97 : Int32), .int (119 : Int32), .int (4 : Int32), .ref 70] g u (fun big n0 => sg_nm_86 big n0 g u) ?_
            refine q_call (M2 := 157) (rest := []) (r_is g u hs h160 hf he hfe hes 4 (by omega) _ _) (fun _ _ => rfl) ?_
            refine q_if_eq rfl (fun (hc5 : (t_p1 (g 74) s f (e - f) 4 (119 : Int32) (97 : Int32)) = 0) => ?_) (fun (hc5 : ¬ ((t_p1 (g 74) s f (e - f) 4 (119 : Int32) (97 : Int32)) = 0)) => ?_)
            · refine q_step 4 111 [(0, .ref 70)] [.int (116 : Int32), .int (97 : Int32), .int (2 : Int32), .ref 70] g u (fun big n0 => sg_nm_87 big n0 g u) ?_
              refine q_call (M2 := 157) (rest := []) (r_is g u hs h160 hf he hfe hes 2 (by omega) _ _) (fun _ _ => rfl) ?_
              refine q_if_eq rfl (fun (hc6 : (t_p1 (g 74) s f (e - f) 2 (97 : Int32) (116 : Int32)) = 0) => ?_) (fun (hc6 : ¬ ((t_p1 (g 74) s f (e - f) 2 (97 : Int32) (116 : Int32)) = 0)) => ?_)
              · refine q_step 4 125 [(0, .ref 70)] [.int (116 : Int32), .int (115 : Int32), .int (5 : Int32), .ref 70] g u (fun big n0 => sg_nm_88 big n0 g u) ?_
                refine q_call (M2 := 157) (rest := []) (r_is g u hs h160 hf he hfe hes 5 (by omega) _ _) (fun _ _ => rfl) ?_
                refine q_if_eq rfl (fun (hc7 : (t_p1 (g 74) s f (e - f) 5 (115 : Int32) (116 : Int32)) = 0) => ?_) (fun (hc7 : ¬ ((t_p1 (g 74) s f (e - f) 5 (115 : Int32) (116 : Int32)) = 0)) => ?_)
                · refine q_step 4 154 [(0, .ref 70)] [.int (111 : Int32), .int (103 : Int32), .int (4 : Int32), .ref 70] g u (fun big n0 => sg_nm_89 big n0 g u) ?_
                  refine q_call (M2 := 157) (rest := []) (r_is g u hs h160 hf he hfe hes 4 (by omega) _ _) (fun _ _ => rfl) ?_
                  refine q_if_eq rfl (fun (hc8 : (t_p1 (g 74) s f (e - f) 4 (103 : Int32) (111 : Int32)) = 0) => ?_) (fun (hc8 : ¬ ((t_p1 (g 74) s f (e - f) 4 (103 : Int32) (111 : Int32)) = 0)) => ?_)
                  · refine q_ret 2 (some (.int (Int8.toInt32 (Int8.ofInt (-4)))), g, u) (fun _ _ => rfl) ?_
                    have n0 : ¬ t_is (g 74) f (e - f) (t_nm 0) = 1 := fun z => ((t_is_4 (by omega)).mp z).2 hc1
                    have n1 : ¬ t_is (g 74) f (e - f) (t_nm 1) = 1 := fun z => ((t_is_4 (by omega)).mp z).1 hc2
                    have n2 : ¬ t_is (g 74) f (e - f) (t_nm 2) = 1 := fun z => ((t_is_5 (by omega)).mp z).2 hc4
                    have n3 : ¬ t_is (g 74) f (e - f) (t_nm 3) = 1 := fun z => ((t_is_4 (by omega)).mp z).1 hc5
                    have n4 : ¬ t_is (g 74) f (e - f) (t_nm 4) = 1 := fun z => ((t_is_2 (by omega)).mp z) hc6
                    have n5 : ¬ t_is (g 74) f (e - f) (t_nm 5) = 1 := fun z => ((t_is_5 (by omega)).mp z).1 hc7
                    have n6 : ¬ t_is (g 74) f (e - f) (t_nm 6) = 1 := fun z => ((t_is_4 (by omega)).mp z).1 hc8
                    unfold t_ln
                    rw [if_neg n0, if_neg n1, if_neg n2, if_neg n3, if_neg n4, if_neg n5, if_neg n6]
                    rfl
                  · refine q_step 4 166 [(0, .ref 70)] [.int (0 : Int32), .int (108 : Int32), .int (97 : Int32), .ref 70] g u (fun big n0 => sg_nm_90 big n0 g u) ?_
                    refine q_call (M2 := 158) (rest := []) (r_ends g u hs h160 hf he hfe hes _ _ _) (fun _ _ => rfl) ?_
                    refine q_if_eq rfl (fun (hc9 : (t_p2 (g 74) s f (97 : Int32) (108 : Int32) (0 : Int32)) = 0) => ?_) (fun (hc9 : ¬ ((t_p2 (g 74) s f (97 : Int32) (108 : Int32) (0 : Int32)) = 0)) => ?_)
                    · refine q_ret 2 (some (.int (Int8.toInt32 (Int8.ofInt (-4)))), g, u) (fun _ _ => rfl) ?_
                      have n0 : ¬ t_is (g 74) f (e - f) (t_nm 0) = 1 := fun z => ((t_is_4 (by omega)).mp z).2 hc1
                      have n1 : ¬ t_is (g 74) f (e - f) (t_nm 1) = 1 := fun z => ((t_is_4 (by omega)).mp z).1 hc2
                      have n2 : ¬ t_is (g 74) f (e - f) (t_nm 2) = 1 := fun z => ((t_is_5 (by omega)).mp z).2 hc4
                      have n3 : ¬ t_is (g 74) f (e - f) (t_nm 3) = 1 := fun z => ((t_is_4 (by omega)).mp z).1 hc5
                      have n4 : ¬ t_is (g 74) f (e - f) (t_nm 4) = 1 := fun z => ((t_is_2 (by omega)).mp z) hc6
                      have n5 : ¬ t_is (g 74) f (e - f) (t_nm 5) = 1 := fun z => ((t_is_5 (by omega)).mp z).1 hc7
                      have n6 : ¬ t_is (g 74) f (e - f) (t_nm 6) = 1 := fun z => ((t_is_4 (by omega)).mp z).2 hc9
                      unfold t_ln
                      rw [if_neg n0, if_neg n1, if_neg n2, if_neg n3, if_neg n4, if_neg n5, if_neg n6]
                      rfl
                    · refine q_ret 3 (some (.int (6 : Int32)), g, u) (fun _ _ => rfl) ?_
                      have n0 : ¬ t_is (g 74) f (e - f) (t_nm 0) = 1 := fun z => ((t_is_4 (by omega)).mp z).2 hc1
                      have n1 : ¬ t_is (g 74) f (e - f) (t_nm 1) = 1 := fun z => ((t_is_4 (by omega)).mp z).1 hc2
                      have n2 : ¬ t_is (g 74) f (e - f) (t_nm 2) = 1 := fun z => ((t_is_5 (by omega)).mp z).2 hc4
                      have n3 : ¬ t_is (g 74) f (e - f) (t_nm 3) = 1 := fun z => ((t_is_4 (by omega)).mp z).1 hc5
                      have n4 : ¬ t_is (g 74) f (e - f) (t_nm 4) = 1 := fun z => ((t_is_2 (by omega)).mp z) hc6
                      have n5 : ¬ t_is (g 74) f (e - f) (t_nm 5) = 1 := fun z => ((t_is_5 (by omega)).mp z).1 hc7
                      have y6 : t_is (g 74) f (e - f) (t_nm 6) = 1 := (t_is_4 (by omega)).mpr ⟨hc8, hc9⟩
                      unfold t_ln
                      rw [if_neg n0, if_neg n1, if_neg n2, if_neg n3, if_neg n4, if_neg n5, if_pos y6]
                · refine q_step 4 138 [(0, .ref 70)] [.int (108 : Int32), .int (108 : Int32), .int (105 : Int32), .ref 70] g u (fun big n0 => sg_nm_91 big n0 g u) ?_
                  refine q_call (M2 := 158) (rest := []) (r_ends g u hs h160 hf he hfe hes _ _ _) (fun _ _ => rfl) ?_
                  refine q_if_eq rfl (fun (hc8 : (t_p2 (g 74) s f (105 : Int32) (108 : Int32) (108 : Int32)) = 0) => ?_) (fun (hc8 : ¬ ((t_p2 (g 74) s f (105 : Int32) (108 : Int32) (108 : Int32)) = 0)) => ?_)
                  · refine q_step 4 154 [(0, .ref 70)] [.int (111 : Int32), .int (103 : Int32), .int (4 : Int32), .ref 70] g u (fun big n0 => sg_nm_89 big n0 g u) ?_
                    refine q_call (M2 := 157) (rest := []) (r_is g u hs h160 hf he hfe hes 4 (by omega) _ _) (fun _ _ => rfl) ?_
                    refine q_if_eq rfl (fun (hc9 : (t_p1 (g 74) s f (e - f) 4 (103 : Int32) (111 : Int32)) = 0) => ?_) (fun (hc9 : ¬ ((t_p1 (g 74) s f (e - f) 4 (103 : Int32) (111 : Int32)) = 0)) => ?_)
                    · refine q_ret 2 (some (.int (Int8.toInt32 (Int8.ofInt (-4)))), g, u) (fun _ _ => rfl) ?_
                      have n0 : ¬ t_is (g 74) f (e - f) (t_nm 0) = 1 := fun z => ((t_is_4 (by omega)).mp z).2 hc1
                      have n1 : ¬ t_is (g 74) f (e - f) (t_nm 1) = 1 := fun z => ((t_is_4 (by omega)).mp z).1 hc2
                      have n2 : ¬ t_is (g 74) f (e - f) (t_nm 2) = 1 := fun z => ((t_is_5 (by omega)).mp z).2 hc4
                      have n3 : ¬ t_is (g 74) f (e - f) (t_nm 3) = 1 := fun z => ((t_is_4 (by omega)).mp z).1 hc5
                      have n4 : ¬ t_is (g 74) f (e - f) (t_nm 4) = 1 := fun z => ((t_is_2 (by omega)).mp z) hc6
                      have n5 : ¬ t_is (g 74) f (e - f) (t_nm 5) = 1 := fun z => ((t_is_5 (by omega)).mp z).2 hc8
                      have n6 : ¬ t_is (g 74) f (e - f) (t_nm 6) = 1 := fun z => ((t_is_4 (by omega)).mp z).1 hc9
                      unfold t_ln
                      rw [if_neg n0, if_neg n1, if_neg n2, if_neg n3, if_neg n4, if_neg n5, if_neg n6]
                      rfl
                    · refine q_step 4 166 [(0, .ref 70)] [.int (0 : Int32), .int (108 : Int32), .int (97 : Int32), .ref 70] g u (fun big n0 => sg_nm_90 big n0 g u) ?_
                      refine q_call (M2 := 158) (rest := []) (r_ends g u hs h160 hf he hfe hes _ _ _) (fun _ _ => rfl) ?_
                      refine q_if_eq rfl (fun (hc10 : (t_p2 (g 74) s f (97 : Int32) (108 : Int32) (0 : Int32)) = 0) => ?_) (fun (hc10 : ¬ ((t_p2 (g 74) s f (97 : Int32) (108 : Int32) (0 : Int32)) = 0)) => ?_)
                      · refine q_ret 2 (some (.int (Int8.toInt32 (Int8.ofInt (-4)))), g, u) (fun _ _ => rfl) ?_
                        have n0 : ¬ t_is (g 74) f (e - f) (t_nm 0) = 1 := fun z => ((t_is_4 (by omega)).mp z).2 hc1
                        have n1 : ¬ t_is (g 74) f (e - f) (t_nm 1) = 1 := fun z => ((t_is_4 (by omega)).mp z).1 hc2
                        have n2 : ¬ t_is (g 74) f (e - f) (t_nm 2) = 1 := fun z => ((t_is_5 (by omega)).mp z).2 hc4
                        have n3 : ¬ t_is (g 74) f (e - f) (t_nm 3) = 1 := fun z => ((t_is_4 (by omega)).mp z).1 hc5
                        have n4 : ¬ t_is (g 74) f (e - f) (t_nm 4) = 1 := fun z => ((t_is_2 (by omega)).mp z) hc6
                        have n5 : ¬ t_is (g 74) f (e - f) (t_nm 5) = 1 := fun z => ((t_is_5 (by omega)).mp z).2 hc8
                        have n6 : ¬ t_is (g 74) f (e - f) (t_nm 6) = 1 := fun z => ((t_is_4 (by omega)).mp z).2 hc10
                        unfold t_ln
                        rw [if_neg n0, if_neg n1, if_neg n2, if_neg n3, if_neg n4, if_neg n5, if_neg n6]
                        rfl
                      · refine q_ret 3 (some (.int (6 : Int32)), g, u) (fun _ _ => rfl) ?_
                        have n0 : ¬ t_is (g 74) f (e - f) (t_nm 0) = 1 := fun z => ((t_is_4 (by omega)).mp z).2 hc1
                        have n1 : ¬ t_is (g 74) f (e - f) (t_nm 1) = 1 := fun z => ((t_is_4 (by omega)).mp z).1 hc2
                        have n2 : ¬ t_is (g 74) f (e - f) (t_nm 2) = 1 := fun z => ((t_is_5 (by omega)).mp z).2 hc4
                        have n3 : ¬ t_is (g 74) f (e - f) (t_nm 3) = 1 := fun z => ((t_is_4 (by omega)).mp z).1 hc5
                        have n4 : ¬ t_is (g 74) f (e - f) (t_nm 4) = 1 := fun z => ((t_is_2 (by omega)).mp z) hc6
                        have n5 : ¬ t_is (g 74) f (e - f) (t_nm 5) = 1 := fun z => ((t_is_5 (by omega)).mp z).2 hc8
                        have y6 : t_is (g 74) f (e - f) (t_nm 6) = 1 := (t_is_4 (by omega)).mpr ⟨hc9, hc10⟩
                        unfold t_ln
                        rw [if_neg n0, if_neg n1, if_neg n2, if_neg n3, if_neg n4, if_neg n5, if_pos y6]
                  · refine q_ret 3 (some (.int (5 : Int32)), g, u) (fun _ _ => rfl) ?_
                    have n0 : ¬ t_is (g 74) f (e - f) (t_nm 0) = 1 := fun z => ((t_is_4 (by omega)).mp z).2 hc1
                    have n1 : ¬ t_is (g 74) f (e - f) (t_nm 1) = 1 := fun z => ((t_is_4 (by omega)).mp z).1 hc2
                    have n2 : ¬ t_is (g 74) f (e - f) (t_nm 2) = 1 := fun z => ((t_is_5 (by omega)).mp z).2 hc4
                    have n3 : ¬ t_is (g 74) f (e - f) (t_nm 3) = 1 := fun z => ((t_is_4 (by omega)).mp z).1 hc5
                    have n4 : ¬ t_is (g 74) f (e - f) (t_nm 4) = 1 := fun z => ((t_is_2 (by omega)).mp z) hc6
                    have y5 : t_is (g 74) f (e - f) (t_nm 5) = 1 := (t_is_5 (by omega)).mpr ⟨hc7, hc8⟩
                    unfold t_ln
                    rw [if_neg n0, if_neg n1, if_neg n2, if_neg n3, if_neg n4, if_pos y5]
              · refine q_ret 2 (some (.int (4 : Int32)), g, u) (fun _ _ => rfl) ?_
                have n0 : ¬ t_is (g 74) f (e - f) (t_nm 0) = 1 := fun z => ((t_is_4 (by omega)).mp z).2 hc1
                have n1 : ¬ t_is (g 74) f (e - f) (t_nm 1) = 1 := fun z => ((t_is_4 (by omega)).mp z).1 hc2
                have n2 : ¬ t_is (g 74) f (e - f) (t_nm 2) = 1 := fun z => ((t_is_5 (by omega)).mp z).2 hc4
                have n3 : ¬ t_is (g 74) f (e - f) (t_nm 3) = 1 := fun z => ((t_is_4 (by omega)).mp z).1 hc5
                have y4 : t_is (g 74) f (e - f) (t_nm 4) = 1 := (t_is_2 (by omega)).mpr hc6
                unfold t_ln
                rw [if_neg n0, if_neg n1, if_neg n2, if_neg n3, if_pos y4]
            · refine q_step 4 97 [(0, .ref 70)] [.int (0 : Int32), .int (108 : Int32), .int (108 : Int32), .ref 70] g u (fun big n0 => sg_nm_92 big n0 g u) ?_
              refine q_call (M2 := 158) (rest := []) (r_ends g u hs h160 hf he hfe hes _ _ _) (fun _ _ => rfl) ?_
              refine q_if_eq rfl (fun (hc6 : (t_p2 (g 74) s f (108 : Int32) (108 : Int32) (0 : Int32)) = 0) => ?_) (fun (hc6 : ¬ ((t_p2 (g 74) s f (108 : Int32) (108 : Int32) (0 : Int32)) = 0)) => ?_)
              · refine q_step 4 111 [(0, .ref 70)] [.int (116 : Int32), .int (97 : Int32), .int (2 : Int32), .ref 70] g u (fun big n0 => sg_nm_87 big n0 g u) ?_
                refine q_call (M2 := 157) (rest := []) (r_is g u hs h160 hf he hfe hes 2 (by omega) _ _) (fun _ _ => rfl) ?_
                refine q_if_eq rfl (fun (hc7 : (t_p1 (g 74) s f (e - f) 2 (97 : Int32) (116 : Int32)) = 0) => ?_) (fun (hc7 : ¬ ((t_p1 (g 74) s f (e - f) 2 (97 : Int32) (116 : Int32)) = 0)) => ?_)
                · refine q_step 4 125 [(0, .ref 70)] [.int (116 : Int32), .int (115 : Int32), .int (5 : Int32), .ref 70] g u (fun big n0 => sg_nm_88 big n0 g u) ?_
                  refine q_call (M2 := 157) (rest := []) (r_is g u hs h160 hf he hfe hes 5 (by omega) _ _) (fun _ _ => rfl) ?_
                  refine q_if_eq rfl (fun (hc8 : (t_p1 (g 74) s f (e - f) 5 (115 : Int32) (116 : Int32)) = 0) => ?_) (fun (hc8 : ¬ ((t_p1 (g 74) s f (e - f) 5 (115 : Int32) (116 : Int32)) = 0)) => ?_)
                  · refine q_step 4 154 [(0, .ref 70)] [.int (111 : Int32), .int (103 : Int32), .int (4 : Int32), .ref 70] g u (fun big n0 => sg_nm_89 big n0 g u) ?_
                    refine q_call (M2 := 157) (rest := []) (r_is g u hs h160 hf he hfe hes 4 (by omega) _ _) (fun _ _ => rfl) ?_
                    refine q_if_eq rfl (fun (hc9 : (t_p1 (g 74) s f (e - f) 4 (103 : Int32) (111 : Int32)) = 0) => ?_) (fun (hc9 : ¬ ((t_p1 (g 74) s f (e - f) 4 (103 : Int32) (111 : Int32)) = 0)) => ?_)
                    · refine q_ret 2 (some (.int (Int8.toInt32 (Int8.ofInt (-4)))), g, u) (fun _ _ => rfl) ?_
                      have n0 : ¬ t_is (g 74) f (e - f) (t_nm 0) = 1 := fun z => ((t_is_4 (by omega)).mp z).2 hc1
                      have n1 : ¬ t_is (g 74) f (e - f) (t_nm 1) = 1 := fun z => ((t_is_4 (by omega)).mp z).1 hc2
                      have n2 : ¬ t_is (g 74) f (e - f) (t_nm 2) = 1 := fun z => ((t_is_5 (by omega)).mp z).2 hc4
                      have n3 : ¬ t_is (g 74) f (e - f) (t_nm 3) = 1 := fun z => ((t_is_4 (by omega)).mp z).2 hc6
                      have n4 : ¬ t_is (g 74) f (e - f) (t_nm 4) = 1 := fun z => ((t_is_2 (by omega)).mp z) hc7
                      have n5 : ¬ t_is (g 74) f (e - f) (t_nm 5) = 1 := fun z => ((t_is_5 (by omega)).mp z).1 hc8
                      have n6 : ¬ t_is (g 74) f (e - f) (t_nm 6) = 1 := fun z => ((t_is_4 (by omega)).mp z).1 hc9
                      unfold t_ln
                      rw [if_neg n0, if_neg n1, if_neg n2, if_neg n3, if_neg n4, if_neg n5, if_neg n6]
                      rfl
                    · refine q_step 4 166 [(0, .ref 70)] [.int (0 : Int32), .int (108 : Int32), .int (97 : Int32), .ref 70] g u (fun big n0 => sg_nm_90 big n0 g u) ?_
                      refine q_call (M2 := 158) (rest := []) (r_ends g u hs h160 hf he hfe hes _ _ _) (fun _ _ => rfl) ?_
                      refine q_if_eq rfl (fun (hc10 : (t_p2 (g 74) s f (97 : Int32) (108 : Int32) (0 : Int32)) = 0) => ?_) (fun (hc10 : ¬ ((t_p2 (g 74) s f (97 : Int32) (108 : Int32) (0 : Int32)) = 0)) => ?_)
                      · refine q_ret 2 (some (.int (Int8.toInt32 (Int8.ofInt (-4)))), g, u) (fun _ _ => rfl) ?_
                        have n0 : ¬ t_is (g 74) f (e - f) (t_nm 0) = 1 := fun z => ((t_is_4 (by omega)).mp z).2 hc1
                        have n1 : ¬ t_is (g 74) f (e - f) (t_nm 1) = 1 := fun z => ((t_is_4 (by omega)).mp z).1 hc2
                        have n2 : ¬ t_is (g 74) f (e - f) (t_nm 2) = 1 := fun z => ((t_is_5 (by omega)).mp z).2 hc4
                        have n3 : ¬ t_is (g 74) f (e - f) (t_nm 3) = 1 := fun z => ((t_is_4 (by omega)).mp z).2 hc6
                        have n4 : ¬ t_is (g 74) f (e - f) (t_nm 4) = 1 := fun z => ((t_is_2 (by omega)).mp z) hc7
                        have n5 : ¬ t_is (g 74) f (e - f) (t_nm 5) = 1 := fun z => ((t_is_5 (by omega)).mp z).1 hc8
                        have n6 : ¬ t_is (g 74) f (e - f) (t_nm 6) = 1 := fun z => ((t_is_4 (by omega)).mp z).2 hc10
                        unfold t_ln
                        rw [if_neg n0, if_neg n1, if_neg n2, if_neg n3, if_neg n4, if_neg n5, if_neg n6]
                        rfl
                      · refine q_ret 3 (some (.int (6 : Int32)), g, u) (fun _ _ => rfl) ?_
                        have n0 : ¬ t_is (g 74) f (e - f) (t_nm 0) = 1 := fun z => ((t_is_4 (by omega)).mp z).2 hc1
                        have n1 : ¬ t_is (g 74) f (e - f) (t_nm 1) = 1 := fun z => ((t_is_4 (by omega)).mp z).1 hc2
                        have n2 : ¬ t_is (g 74) f (e - f) (t_nm 2) = 1 := fun z => ((t_is_5 (by omega)).mp z).2 hc4
                        have n3 : ¬ t_is (g 74) f (e - f) (t_nm 3) = 1 := fun z => ((t_is_4 (by omega)).mp z).2 hc6
                        have n4 : ¬ t_is (g 74) f (e - f) (t_nm 4) = 1 := fun z => ((t_is_2 (by omega)).mp z) hc7
                        have n5 : ¬ t_is (g 74) f (e - f) (t_nm 5) = 1 := fun z => ((t_is_5 (by omega)).mp z).1 hc8
                        have y6 : t_is (g 74) f (e - f) (t_nm 6) = 1 := (t_is_4 (by omega)).mpr ⟨hc9, hc10⟩
                        unfold t_ln
                        rw [if_neg n0, if_neg n1, if_neg n2, if_neg n3, if_neg n4, if_neg n5, if_pos y6]
                  · refine q_step 4 138 [(0, .ref 70)] [.int (108 : Int32), .int (108 : Int32), .int (105 : Int32), .ref 70] g u (fun big n0 => sg_nm_91 big n0 g u) ?_
                    refine q_call (M2 := 158) (rest := []) (r_ends g u hs h160 hf he hfe hes _ _ _) (fun _ _ => rfl) ?_
                    refine q_if_eq rfl (fun (hc9 : (t_p2 (g 74) s f (105 : Int32) (108 : Int32) (108 : Int32)) = 0) => ?_) (fun (hc9 : ¬ ((t_p2 (g 74) s f (105 : Int32) (108 : Int32) (108 : Int32)) = 0)) => ?_)
                    · refine q_step 4 154 [(0, .ref 70)] [.int (111 : Int32), .int (103 : Int32), .int (4 : Int32), .ref 70] g u (fun big n0 => sg_nm_89 big n0 g u) ?_
                      refine q_call (M2 := 157) (rest := []) (r_is g u hs h160 hf he hfe hes 4 (by omega) _ _) (fun _ _ => rfl) ?_
                      refine q_if_eq rfl (fun (hc10 : (t_p1 (g 74) s f (e - f) 4 (103 : Int32) (111 : Int32)) = 0) => ?_) (fun (hc10 : ¬ ((t_p1 (g 74) s f (e - f) 4 (103 : Int32) (111 : Int32)) = 0)) => ?_)
                      · refine q_ret 2 (some (.int (Int8.toInt32 (Int8.ofInt (-4)))), g, u) (fun _ _ => rfl) ?_
                        have n0 : ¬ t_is (g 74) f (e - f) (t_nm 0) = 1 := fun z => ((t_is_4 (by omega)).mp z).2 hc1
                        have n1 : ¬ t_is (g 74) f (e - f) (t_nm 1) = 1 := fun z => ((t_is_4 (by omega)).mp z).1 hc2
                        have n2 : ¬ t_is (g 74) f (e - f) (t_nm 2) = 1 := fun z => ((t_is_5 (by omega)).mp z).2 hc4
                        have n3 : ¬ t_is (g 74) f (e - f) (t_nm 3) = 1 := fun z => ((t_is_4 (by omega)).mp z).2 hc6
                        have n4 : ¬ t_is (g 74) f (e - f) (t_nm 4) = 1 := fun z => ((t_is_2 (by omega)).mp z) hc7
                        have n5 : ¬ t_is (g 74) f (e - f) (t_nm 5) = 1 := fun z => ((t_is_5 (by omega)).mp z).2 hc9
                        have n6 : ¬ t_is (g 74) f (e - f) (t_nm 6) = 1 := fun z => ((t_is_4 (by omega)).mp z).1 hc10
                        unfold t_ln
                        rw [if_neg n0, if_neg n1, if_neg n2, if_neg n3, if_neg n4, if_neg n5, if_neg n6]
                        rfl
                      · refine q_step 4 166 [(0, .ref 70)] [.int (0 : Int32), .int (108 : Int32), .int (97 : Int32), .ref 70] g u (fun big n0 => sg_nm_90 big n0 g u) ?_
                        refine q_call (M2 := 158) (rest := []) (r_ends g u hs h160 hf he hfe hes _ _ _) (fun _ _ => rfl) ?_
                        refine q_if_eq rfl (fun (hc11 : (t_p2 (g 74) s f (97 : Int32) (108 : Int32) (0 : Int32)) = 0) => ?_) (fun (hc11 : ¬ ((t_p2 (g 74) s f (97 : Int32) (108 : Int32) (0 : Int32)) = 0)) => ?_)
                        · refine q_ret 2 (some (.int (Int8.toInt32 (Int8.ofInt (-4)))), g, u) (fun _ _ => rfl) ?_
                          have n0 : ¬ t_is (g 74) f (e - f) (t_nm 0) = 1 := fun z => ((t_is_4 (by omega)).mp z).2 hc1
                          have n1 : ¬ t_is (g 74) f (e - f) (t_nm 1) = 1 := fun z => ((t_is_4 (by omega)).mp z).1 hc2
                          have n2 : ¬ t_is (g 74) f (e - f) (t_nm 2) = 1 := fun z => ((t_is_5 (by omega)).mp z).2 hc4
                          have n3 : ¬ t_is (g 74) f (e - f) (t_nm 3) = 1 := fun z => ((t_is_4 (by omega)).mp z).2 hc6
                          have n4 : ¬ t_is (g 74) f (e - f) (t_nm 4) = 1 := fun z => ((t_is_2 (by omega)).mp z) hc7
                          have n5 : ¬ t_is (g 74) f (e - f) (t_nm 5) = 1 := fun z => ((t_is_5 (by omega)).mp z).2 hc9
                          have n6 : ¬ t_is (g 74) f (e - f) (t_nm 6) = 1 := fun z => ((t_is_4 (by omega)).mp z).2 hc11
                          unfold t_ln
                          rw [if_neg n0, if_neg n1, if_neg n2, if_neg n3, if_neg n4, if_neg n5, if_neg n6]
                          rfl
                        · refine q_ret 3 (some (.int (6 : Int32)), g, u) (fun _ _ => rfl) ?_
                          have n0 : ¬ t_is (g 74) f (e - f) (t_nm 0) = 1 := fun z => ((t_is_4 (by omega)).mp z).2 hc1
                          have n1 : ¬ t_is (g 74) f (e - f) (t_nm 1) = 1 := fun z => ((t_is_4 (by omega)).mp z).1 hc2
                          have n2 : ¬ t_is (g 74) f (e - f) (t_nm 2) = 1 := fun z => ((t_is_5 (by omega)).mp z).2 hc4
                          have n3 : ¬ t_is (g 74) f (e - f) (t_nm 3) = 1 := fun z => ((t_is_4 (by omega)).mp z).2 hc6
                          have n4 : ¬ t_is (g 74) f (e - f) (t_nm 4) = 1 := fun z => ((t_is_2 (by omega)).mp z) hc7
                          have n5 : ¬ t_is (g 74) f (e - f) (t_nm 5) = 1 := fun z => ((t_is_5 (by omega)).mp z).2 hc9
                          have y6 : t_is (g 74) f (e - f) (t_nm 6) = 1 := (t_is_4 (by omega)).mpr ⟨hc10, hc11⟩
                          unfold t_ln
                          rw [if_neg n0, if_neg n1, if_neg n2, if_neg n3, if_neg n4, if_neg n5, if_pos y6]
                    · refine q_ret 3 (some (.int (5 : Int32)), g, u) (fun _ _ => rfl) ?_
                      have n0 : ¬ t_is (g 74) f (e - f) (t_nm 0) = 1 := fun z => ((t_is_4 (by omega)).mp z).2 hc1
                      have n1 : ¬ t_is (g 74) f (e - f) (t_nm 1) = 1 := fun z => ((t_is_4 (by omega)).mp z).1 hc2
                      have n2 : ¬ t_is (g 74) f (e - f) (t_nm 2) = 1 := fun z => ((t_is_5 (by omega)).mp z).2 hc4
                      have n3 : ¬ t_is (g 74) f (e - f) (t_nm 3) = 1 := fun z => ((t_is_4 (by omega)).mp z).2 hc6
                      have n4 : ¬ t_is (g 74) f (e - f) (t_nm 4) = 1 := fun z => ((t_is_2 (by omega)).mp z) hc7
                      have y5 : t_is (g 74) f (e - f) (t_nm 5) = 1 := (t_is_5 (by omega)).mpr ⟨hc8, hc9⟩
                      unfold t_ln
                      rw [if_neg n0, if_neg n1, if_neg n2, if_neg n3, if_neg n4, if_pos y5]
                · refine q_ret 2 (some (.int (4 : Int32)), g, u) (fun _ _ => rfl) ?_
                  have n0 : ¬ t_is (g 74) f (e - f) (t_nm 0) = 1 := fun z => ((t_is_4 (by omega)).mp z).2 hc1
                  have n1 : ¬ t_is (g 74) f (e - f) (t_nm 1) = 1 := fun z => ((t_is_4 (by omega)).mp z).1 hc2
                  have n2 : ¬ t_is (g 74) f (e - f) (t_nm 2) = 1 := fun z => ((t_is_5 (by omega)).mp z).2 hc4
                  have n3 : ¬ t_is (g 74) f (e - f) (t_nm 3) = 1 := fun z => ((t_is_4 (by omega)).mp z).2 hc6
                  have y4 : t_is (g 74) f (e - f) (t_nm 4) = 1 := (t_is_2 (by omega)).mpr hc7
                  unfold t_ln
                  rw [if_neg n0, if_neg n1, if_neg n2, if_neg n3, if_pos y4]
              · refine q_ret 2 (some (.int (3 : Int32)), g, u) (fun _ _ => rfl) ?_
                have n0 : ¬ t_is (g 74) f (e - f) (t_nm 0) = 1 := fun z => ((t_is_4 (by omega)).mp z).2 hc1
                have n1 : ¬ t_is (g 74) f (e - f) (t_nm 1) = 1 := fun z => ((t_is_4 (by omega)).mp z).1 hc2
                have n2 : ¬ t_is (g 74) f (e - f) (t_nm 2) = 1 := fun z => ((t_is_5 (by omega)).mp z).2 hc4
                have y3 : t_is (g 74) f (e - f) (t_nm 3) = 1 := (t_is_4 (by omega)).mpr ⟨hc5, hc6⟩
                unfold t_ln
                rw [if_neg n0, if_neg n1, if_neg n2, if_pos y3]
          · refine q_ret 2 (some (.int (2 : Int32)), g, u) (fun _ _ => rfl) ?_
            have n0 : ¬ t_is (g 74) f (e - f) (t_nm 0) = 1 := fun z => ((t_is_4 (by omega)).mp z).2 hc1
            have n1 : ¬ t_is (g 74) f (e - f) (t_nm 1) = 1 := fun z => ((t_is_4 (by omega)).mp z).1 hc2
            have y2 : t_is (g 74) f (e - f) (t_nm 2) = 1 := (t_is_5 (by omega)).mpr ⟨hc3, hc4⟩
            unfold t_ln
            rw [if_neg n0, if_neg n1, if_pos y2]
      · refine q_step 4 44 [(0, .ref 70)] [.int (0 : Int32), .int (108 : Int32), .int (108 : Int32), .ref 70] g u (fun big n0 => sg_nm_94 big n0 g u) ?_
        refine q_call (M2 := 158) (rest := []) (r_ends g u hs h160 hf he hfe hes _ _ _) (fun _ _ => rfl) ?_
        refine q_if_eq rfl (fun (hc3 : (t_p2 (g 74) s f (108 : Int32) (108 : Int32) (0 : Int32)) = 0) => ?_) (fun (hc3 : ¬ ((t_p2 (g 74) s f (108 : Int32) (108 : Int32) (0 : Int32)) = 0)) => ?_)
        · refine q_step 4 58 [(0, .ref 70)] [.int (114 : Int32), .int (112 : Int32), .int (5 : Int32), .ref 70] g u (fun big n0 => sg_nm_85 big n0 g u) ?_
          refine q_call (M2 := 157) (rest := []) (r_is g u hs h160 hf he hfe hes 5 (by omega) _ _) (fun _ _ => rfl) ?_
          refine q_if_eq rfl (fun (hc4 : (t_p1 (g 74) s f (e - f) 5 (112 : Int32) (114 : Int32)) = 0) => ?_) (fun (hc4 : ¬ ((t_p1 (g 74) s f (e - f) 5 (112 : Int32) (114 : Int32)) = 0)) => ?_)
          · refine q_step 4 85 [(0, .ref 70)] [.int (97 : Int32), .int (119 : Int32), .int (4 : Int32), .ref 70] g u (fun big n0 => sg_nm_86 big n0 g u) ?_
            refine q_call (M2 := 157) (rest := []) (r_is g u hs h160 hf he hfe hes 4 (by omega) _ _) (fun _ _ => rfl) ?_
            refine q_if_eq rfl (fun (hc5 : (t_p1 (g 74) s f (e - f) 4 (119 : Int32) (97 : Int32)) = 0) => ?_) (fun (hc5 : ¬ ((t_p1 (g 74) s f (e - f) 4 (119 : Int32) (97 : Int32)) = 0)) => ?_)
            · refine q_step 4 111 [(0, .ref 70)] [.int (116 : Int32), .int (97 : Int32), .int (2 : Int32), .ref 70] g u (fun big n0 => sg_nm_87 big n0 g u) ?_
              refine q_call (M2 := 157) (rest := []) (r_is g u hs h160 hf he hfe hes 2 (by omega) _ _) (fun _ _ => rfl) ?_
              refine q_if_eq rfl (fun (hc6 : (t_p1 (g 74) s f (e - f) 2 (97 : Int32) (116 : Int32)) = 0) => ?_) (fun (hc6 : ¬ ((t_p1 (g 74) s f (e - f) 2 (97 : Int32) (116 : Int32)) = 0)) => ?_)
              · refine q_step 4 125 [(0, .ref 70)] [.int (116 : Int32), .int (115 : Int32), .int (5 : Int32), .ref 70] g u (fun big n0 => sg_nm_88 big n0 g u) ?_
                refine q_call (M2 := 157) (rest := []) (r_is g u hs h160 hf he hfe hes 5 (by omega) _ _) (fun _ _ => rfl) ?_
                refine q_if_eq rfl (fun (hc7 : (t_p1 (g 74) s f (e - f) 5 (115 : Int32) (116 : Int32)) = 0) => ?_) (fun (hc7 : ¬ ((t_p1 (g 74) s f (e - f) 5 (115 : Int32) (116 : Int32)) = 0)) => ?_)
                · refine q_step 4 154 [(0, .ref 70)] [.int (111 : Int32), .int (103 : Int32), .int (4 : Int32), .ref 70] g u (fun big n0 => sg_nm_89 big n0 g u) ?_
                  refine q_call (M2 := 157) (rest := []) (r_is g u hs h160 hf he hfe hes 4 (by omega) _ _) (fun _ _ => rfl) ?_
                  refine q_if_eq rfl (fun (hc8 : (t_p1 (g 74) s f (e - f) 4 (103 : Int32) (111 : Int32)) = 0) => ?_) (fun (hc8 : ¬ ((t_p1 (g 74) s f (e - f) 4 (103 : Int32) (111 : Int32)) = 0)) => ?_)
                  · refine q_ret 2 (some (.int (Int8.toInt32 (Int8.ofInt (-4)))), g, u) (fun _ _ => rfl) ?_
                    have n0 : ¬ t_is (g 74) f (e - f) (t_nm 0) = 1 := fun z => ((t_is_4 (by omega)).mp z).2 hc1
                    have n1 : ¬ t_is (g 74) f (e - f) (t_nm 1) = 1 := fun z => ((t_is_4 (by omega)).mp z).2 hc3
                    have n2 : ¬ t_is (g 74) f (e - f) (t_nm 2) = 1 := fun z => ((t_is_5 (by omega)).mp z).1 hc4
                    have n3 : ¬ t_is (g 74) f (e - f) (t_nm 3) = 1 := fun z => ((t_is_4 (by omega)).mp z).1 hc5
                    have n4 : ¬ t_is (g 74) f (e - f) (t_nm 4) = 1 := fun z => ((t_is_2 (by omega)).mp z) hc6
                    have n5 : ¬ t_is (g 74) f (e - f) (t_nm 5) = 1 := fun z => ((t_is_5 (by omega)).mp z).1 hc7
                    have n6 : ¬ t_is (g 74) f (e - f) (t_nm 6) = 1 := fun z => ((t_is_4 (by omega)).mp z).1 hc8
                    unfold t_ln
                    rw [if_neg n0, if_neg n1, if_neg n2, if_neg n3, if_neg n4, if_neg n5, if_neg n6]
                    rfl
                  · refine q_step 4 166 [(0, .ref 70)] [.int (0 : Int32), .int (108 : Int32), .int (97 : Int32), .ref 70] g u (fun big n0 => sg_nm_90 big n0 g u) ?_
                    refine q_call (M2 := 158) (rest := []) (r_ends g u hs h160 hf he hfe hes _ _ _) (fun _ _ => rfl) ?_
                    refine q_if_eq rfl (fun (hc9 : (t_p2 (g 74) s f (97 : Int32) (108 : Int32) (0 : Int32)) = 0) => ?_) (fun (hc9 : ¬ ((t_p2 (g 74) s f (97 : Int32) (108 : Int32) (0 : Int32)) = 0)) => ?_)
                    · refine q_ret 2 (some (.int (Int8.toInt32 (Int8.ofInt (-4)))), g, u) (fun _ _ => rfl) ?_
                      have n0 : ¬ t_is (g 74) f (e - f) (t_nm 0) = 1 := fun z => ((t_is_4 (by omega)).mp z).2 hc1
                      have n1 : ¬ t_is (g 74) f (e - f) (t_nm 1) = 1 := fun z => ((t_is_4 (by omega)).mp z).2 hc3
                      have n2 : ¬ t_is (g 74) f (e - f) (t_nm 2) = 1 := fun z => ((t_is_5 (by omega)).mp z).1 hc4
                      have n3 : ¬ t_is (g 74) f (e - f) (t_nm 3) = 1 := fun z => ((t_is_4 (by omega)).mp z).1 hc5
                      have n4 : ¬ t_is (g 74) f (e - f) (t_nm 4) = 1 := fun z => ((t_is_2 (by omega)).mp z) hc6
                      have n5 : ¬ t_is (g 74) f (e - f) (t_nm 5) = 1 := fun z => ((t_is_5 (by omega)).mp z).1 hc7
                      have n6 : ¬ t_is (g 74) f (e - f) (t_nm 6) = 1 := fun z => ((t_is_4 (by omega)).mp z).2 hc9
                      unfold t_ln
                      rw [if_neg n0, if_neg n1, if_neg n2, if_neg n3, if_neg n4, if_neg n5, if_neg n6]
                      rfl
                    · refine q_ret 3 (some (.int (6 : Int32)), g, u) (fun _ _ => rfl) ?_
                      have n0 : ¬ t_is (g 74) f (e - f) (t_nm 0) = 1 := fun z => ((t_is_4 (by omega)).mp z).2 hc1
                      have n1 : ¬ t_is (g 74) f (e - f) (t_nm 1) = 1 := fun z => ((t_is_4 (by omega)).mp z).2 hc3
                      have n2 : ¬ t_is (g 74) f (e - f) (t_nm 2) = 1 := fun z => ((t_is_5 (by omega)).mp z).1 hc4
                      have n3 : ¬ t_is (g 74) f (e - f) (t_nm 3) = 1 := fun z => ((t_is_4 (by omega)).mp z).1 hc5
                      have n4 : ¬ t_is (g 74) f (e - f) (t_nm 4) = 1 := fun z => ((t_is_2 (by omega)).mp z) hc6
                      have n5 : ¬ t_is (g 74) f (e - f) (t_nm 5) = 1 := fun z => ((t_is_5 (by omega)).mp z).1 hc7
                      have y6 : t_is (g 74) f (e - f) (t_nm 6) = 1 := (t_is_4 (by omega)).mpr ⟨hc8, hc9⟩
                      unfold t_ln
                      rw [if_neg n0, if_neg n1, if_neg n2, if_neg n3, if_neg n4, if_neg n5, if_pos y6]
                · refine q_step 4 138 [(0, .ref 70)] [.int (108 : Int32), .int (108 : Int32), .int (105 : Int32), .ref 70] g u (fun big n0 => sg_nm_91 big n0 g u) ?_
                  refine q_call (M2 := 158) (rest := []) (r_ends g u hs h160 hf he hfe hes _ _ _) (fun _ _ => rfl) ?_
                  refine q_if_eq rfl (fun (hc8 : (t_p2 (g 74) s f (105 : Int32) (108 : Int32) (108 : Int32)) = 0) => ?_) (fun (hc8 : ¬ ((t_p2 (g 74) s f (105 : Int32) (108 : Int32) (108 : Int32)) = 0)) => ?_)
                  · refine q_step 4 154 [(0, .ref 70)] [.int (111 : Int32), .int (103 : Int32), .int (4 : Int32), .ref 70] g u (fun big n0 => sg_nm_89 big n0 g u) ?_
                    refine q_call (M2 := 157) (rest := []) (r_is g u hs h160 hf he hfe hes 4 (by omega) _ _) (fun _ _ => rfl) ?_
                    refine q_if_eq rfl (fun (hc9 : (t_p1 (g 74) s f (e - f) 4 (103 : Int32) (111 : Int32)) = 0) => ?_) (fun (hc9 : ¬ ((t_p1 (g 74) s f (e - f) 4 (103 : Int32) (111 : Int32)) = 0)) => ?_)
                    · refine q_ret 2 (some (.int (Int8.toInt32 (Int8.ofInt (-4)))), g, u) (fun _ _ => rfl) ?_
                      have n0 : ¬ t_is (g 74) f (e - f) (t_nm 0) = 1 := fun z => ((t_is_4 (by omega)).mp z).2 hc1
                      have n1 : ¬ t_is (g 74) f (e - f) (t_nm 1) = 1 := fun z => ((t_is_4 (by omega)).mp z).2 hc3
                      have n2 : ¬ t_is (g 74) f (e - f) (t_nm 2) = 1 := fun z => ((t_is_5 (by omega)).mp z).1 hc4
                      have n3 : ¬ t_is (g 74) f (e - f) (t_nm 3) = 1 := fun z => ((t_is_4 (by omega)).mp z).1 hc5
                      have n4 : ¬ t_is (g 74) f (e - f) (t_nm 4) = 1 := fun z => ((t_is_2 (by omega)).mp z) hc6
                      have n5 : ¬ t_is (g 74) f (e - f) (t_nm 5) = 1 := fun z => ((t_is_5 (by omega)).mp z).2 hc8
                      have n6 : ¬ t_is (g 74) f (e - f) (t_nm 6) = 1 := fun z => ((t_is_4 (by omega)).mp z).1 hc9
                      unfold t_ln
                      rw [if_neg n0, if_neg n1, if_neg n2, if_neg n3, if_neg n4, if_neg n5, if_neg n6]
                      rfl
                    · refine q_step 4 166 [(0, .ref 70)] [.int (0 : Int32), .int (108 : Int32), .int (97 : Int32), .ref 70] g u (fun big n0 => sg_nm_90 big n0 g u) ?_
                      refine q_call (M2 := 158) (rest := []) (r_ends g u hs h160 hf he hfe hes _ _ _) (fun _ _ => rfl) ?_
                      refine q_if_eq rfl (fun (hc10 : (t_p2 (g 74) s f (97 : Int32) (108 : Int32) (0 : Int32)) = 0) => ?_) (fun (hc10 : ¬ ((t_p2 (g 74) s f (97 : Int32) (108 : Int32) (0 : Int32)) = 0)) => ?_)
                      · refine q_ret 2 (some (.int (Int8.toInt32 (Int8.ofInt (-4)))), g, u) (fun _ _ => rfl) ?_
                        have n0 : ¬ t_is (g 74) f (e - f) (t_nm 0) = 1 := fun z => ((t_is_4 (by omega)).mp z).2 hc1
                        have n1 : ¬ t_is (g 74) f (e - f) (t_nm 1) = 1 := fun z => ((t_is_4 (by omega)).mp z).2 hc3
                        have n2 : ¬ t_is (g 74) f (e - f) (t_nm 2) = 1 := fun z => ((t_is_5 (by omega)).mp z).1 hc4
                        have n3 : ¬ t_is (g 74) f (e - f) (t_nm 3) = 1 := fun z => ((t_is_4 (by omega)).mp z).1 hc5
                        have n4 : ¬ t_is (g 74) f (e - f) (t_nm 4) = 1 := fun z => ((t_is_2 (by omega)).mp z) hc6
                        have n5 : ¬ t_is (g 74) f (e - f) (t_nm 5) = 1 := fun z => ((t_is_5 (by omega)).mp z).2 hc8
                        have n6 : ¬ t_is (g 74) f (e - f) (t_nm 6) = 1 := fun z => ((t_is_4 (by omega)).mp z).2 hc10
                        unfold t_ln
                        rw [if_neg n0, if_neg n1, if_neg n2, if_neg n3, if_neg n4, if_neg n5, if_neg n6]
                        rfl
                      · refine q_ret 3 (some (.int (6 : Int32)), g, u) (fun _ _ => rfl) ?_
                        have n0 : ¬ t_is (g 74) f (e - f) (t_nm 0) = 1 := fun z => ((t_is_4 (by omega)).mp z).2 hc1
                        have n1 : ¬ t_is (g 74) f (e - f) (t_nm 1) = 1 := fun z => ((t_is_4 (by omega)).mp z).2 hc3
                        have n2 : ¬ t_is (g 74) f (e - f) (t_nm 2) = 1 := fun z => ((t_is_5 (by omega)).mp z).1 hc4
                        have n3 : ¬ t_is (g 74) f (e - f) (t_nm 3) = 1 := fun z => ((t_is_4 (by omega)).mp z).1 hc5
                        have n4 : ¬ t_is (g 74) f (e - f) (t_nm 4) = 1 := fun z => ((t_is_2 (by omega)).mp z) hc6
                        have n5 : ¬ t_is (g 74) f (e - f) (t_nm 5) = 1 := fun z => ((t_is_5 (by omega)).mp z).2 hc8
                        have y6 : t_is (g 74) f (e - f) (t_nm 6) = 1 := (t_is_4 (by omega)).mpr ⟨hc9, hc10⟩
                        unfold t_ln
                        rw [if_neg n0, if_neg n1, if_neg n2, if_neg n3, if_neg n4, if_neg n5, if_pos y6]
                  · refine q_ret 3 (some (.int (5 : Int32)), g, u) (fun _ _ => rfl) ?_
                    have n0 : ¬ t_is (g 74) f (e - f) (t_nm 0) = 1 := fun z => ((t_is_4 (by omega)).mp z).2 hc1
                    have n1 : ¬ t_is (g 74) f (e - f) (t_nm 1) = 1 := fun z => ((t_is_4 (by omega)).mp z).2 hc3
                    have n2 : ¬ t_is (g 74) f (e - f) (t_nm 2) = 1 := fun z => ((t_is_5 (by omega)).mp z).1 hc4
                    have n3 : ¬ t_is (g 74) f (e - f) (t_nm 3) = 1 := fun z => ((t_is_4 (by omega)).mp z).1 hc5
                    have n4 : ¬ t_is (g 74) f (e - f) (t_nm 4) = 1 := fun z => ((t_is_2 (by omega)).mp z) hc6
                    have y5 : t_is (g 74) f (e - f) (t_nm 5) = 1 := (t_is_5 (by omega)).mpr ⟨hc7, hc8⟩
                    unfold t_ln
                    rw [if_neg n0, if_neg n1, if_neg n2, if_neg n3, if_neg n4, if_pos y5]
              · refine q_ret 2 (some (.int (4 : Int32)), g, u) (fun _ _ => rfl) ?_
                have n0 : ¬ t_is (g 74) f (e - f) (t_nm 0) = 1 := fun z => ((t_is_4 (by omega)).mp z).2 hc1
                have n1 : ¬ t_is (g 74) f (e - f) (t_nm 1) = 1 := fun z => ((t_is_4 (by omega)).mp z).2 hc3
                have n2 : ¬ t_is (g 74) f (e - f) (t_nm 2) = 1 := fun z => ((t_is_5 (by omega)).mp z).1 hc4
                have n3 : ¬ t_is (g 74) f (e - f) (t_nm 3) = 1 := fun z => ((t_is_4 (by omega)).mp z).1 hc5
                have y4 : t_is (g 74) f (e - f) (t_nm 4) = 1 := (t_is_2 (by omega)).mpr hc6
                unfold t_ln
                rw [if_neg n0, if_neg n1, if_neg n2, if_neg n3, if_pos y4]
            · refine q_step 4 97 [(0, .ref 70)] [.int (0 : Int32), .int (108 : Int32), .int (108 : Int32), .ref 70] g u (fun big n0 => sg_nm_92 big n0 g u) ?_
              refine q_call (M2 := 158) (rest := []) (r_ends g u hs h160 hf he hfe hes _ _ _) (fun _ _ => rfl) ?_
              refine q_if_eq rfl (fun (hc6 : (t_p2 (g 74) s f (108 : Int32) (108 : Int32) (0 : Int32)) = 0) => ?_) (fun (hc6 : ¬ ((t_p2 (g 74) s f (108 : Int32) (108 : Int32) (0 : Int32)) = 0)) => ?_)
              · refine q_step 4 111 [(0, .ref 70)] [.int (116 : Int32), .int (97 : Int32), .int (2 : Int32), .ref 70] g u (fun big n0 => sg_nm_87 big n0 g u) ?_
                refine q_call (M2 := 157) (rest := []) (r_is g u hs h160 hf he hfe hes 2 (by omega) _ _) (fun _ _ => rfl) ?_
                refine q_if_eq rfl (fun (hc7 : (t_p1 (g 74) s f (e - f) 2 (97 : Int32) (116 : Int32)) = 0) => ?_) (fun (hc7 : ¬ ((t_p1 (g 74) s f (e - f) 2 (97 : Int32) (116 : Int32)) = 0)) => ?_)
                · refine q_step 4 125 [(0, .ref 70)] [.int (116 : Int32), .int (115 : Int32), .int (5 : Int32), .ref 70] g u (fun big n0 => sg_nm_88 big n0 g u) ?_
                  refine q_call (M2 := 157) (rest := []) (r_is g u hs h160 hf he hfe hes 5 (by omega) _ _) (fun _ _ => rfl) ?_
                  refine q_if_eq rfl (fun (hc8 : (t_p1 (g 74) s f (e - f) 5 (115 : Int32) (116 : Int32)) = 0) => ?_) (fun (hc8 : ¬ ((t_p1 (g 74) s f (e - f) 5 (115 : Int32) (116 : Int32)) = 0)) => ?_)
                  · refine q_step 4 154 [(0, .ref 70)] [.int (111 : Int32), .int (103 : Int32), .int (4 : Int32), .ref 70] g u (fun big n0 => sg_nm_89 big n0 g u) ?_
                    refine q_call (M2 := 157) (rest := []) (r_is g u hs h160 hf he hfe hes 4 (by omega) _ _) (fun _ _ => rfl) ?_
                    refine q_if_eq rfl (fun (hc9 : (t_p1 (g 74) s f (e - f) 4 (103 : Int32) (111 : Int32)) = 0) => ?_) (fun (hc9 : ¬ ((t_p1 (g 74) s f (e - f) 4 (103 : Int32) (111 : Int32)) = 0)) => ?_)
                    · refine q_ret 2 (some (.int (Int8.toInt32 (Int8.ofInt (-4)))), g, u) (fun _ _ => rfl) ?_
                      have n0 : ¬ t_is (g 74) f (e - f) (t_nm 0) = 1 := fun z => ((t_is_4 (by omega)).mp z).2 hc1
                      have n1 : ¬ t_is (g 74) f (e - f) (t_nm 1) = 1 := fun z => ((t_is_4 (by omega)).mp z).2 hc3
                      have n2 : ¬ t_is (g 74) f (e - f) (t_nm 2) = 1 := fun z => ((t_is_5 (by omega)).mp z).1 hc4
                      have n3 : ¬ t_is (g 74) f (e - f) (t_nm 3) = 1 := fun z => ((t_is_4 (by omega)).mp z).2 hc6
                      have n4 : ¬ t_is (g 74) f (e - f) (t_nm 4) = 1 := fun z => ((t_is_2 (by omega)).mp z) hc7
                      have n5 : ¬ t_is (g 74) f (e - f) (t_nm 5) = 1 := fun z => ((t_is_5 (by omega)).mp z).1 hc8
                      have n6 : ¬ t_is (g 74) f (e - f) (t_nm 6) = 1 := fun z => ((t_is_4 (by omega)).mp z).1 hc9
                      unfold t_ln
                      rw [if_neg n0, if_neg n1, if_neg n2, if_neg n3, if_neg n4, if_neg n5, if_neg n6]
                      rfl
                    · refine q_step 4 166 [(0, .ref 70)] [.int (0 : Int32), .int (108 : Int32), .int (97 : Int32), .ref 70] g u (fun big n0 => sg_nm_90 big n0 g u) ?_
                      refine q_call (M2 := 158) (rest := []) (r_ends g u hs h160 hf he hfe hes _ _ _) (fun _ _ => rfl) ?_
                      refine q_if_eq rfl (fun (hc10 : (t_p2 (g 74) s f (97 : Int32) (108 : Int32) (0 : Int32)) = 0) => ?_) (fun (hc10 : ¬ ((t_p2 (g 74) s f (97 : Int32) (108 : Int32) (0 : Int32)) = 0)) => ?_)
                      · refine q_ret 2 (some (.int (Int8.toInt32 (Int8.ofInt (-4)))), g, u) (fun _ _ => rfl) ?_
                        have n0 : ¬ t_is (g 74) f (e - f) (t_nm 0) = 1 := fun z => ((t_is_4 (by omega)).mp z).2 hc1
                        have n1 : ¬ t_is (g 74) f (e - f) (t_nm 1) = 1 := fun z => ((t_is_4 (by omega)).mp z).2 hc3
                        have n2 : ¬ t_is (g 74) f (e - f) (t_nm 2) = 1 := fun z => ((t_is_5 (by omega)).mp z).1 hc4
                        have n3 : ¬ t_is (g 74) f (e - f) (t_nm 3) = 1 := fun z => ((t_is_4 (by omega)).mp z).2 hc6
                        have n4 : ¬ t_is (g 74) f (e - f) (t_nm 4) = 1 := fun z => ((t_is_2 (by omega)).mp z) hc7
                        have n5 : ¬ t_is (g 74) f (e - f) (t_nm 5) = 1 := fun z => ((t_is_5 (by omega)).mp z).1 hc8
                        have n6 : ¬ t_is (g 74) f (e - f) (t_nm 6) = 1 := fun z => ((t_is_4 (by omega)).mp z).2 hc10
                        unfold t_ln
                        rw [if_neg n0, if_neg n1, if_neg n2, if_neg n3, if_neg n4, if_neg n5, if_neg n6]
                        rfl
                      · refine q_ret 3 (some (.int (6 : Int32)), g, u) (fun _ _ => rfl) ?_
                        have n0 : ¬ t_is (g 74) f (e - f) (t_nm 0) = 1 := fun z => ((t_is_4 (by omega)).mp z).2 hc1
                        have n1 : ¬ t_is (g 74) f (e - f) (t_nm 1) = 1 := fun z => ((t_is_4 (by omega)).mp z).2 hc3
                        have n2 : ¬ t_is (g 74) f (e - f) (t_nm 2) = 1 := fun z => ((t_is_5 (by omega)).mp z).1 hc4
                        have n3 : ¬ t_is (g 74) f (e - f) (t_nm 3) = 1 := fun z => ((t_is_4 (by omega)).mp z).2 hc6
                        have n4 : ¬ t_is (g 74) f (e - f) (t_nm 4) = 1 := fun z => ((t_is_2 (by omega)).mp z) hc7
                        have n5 : ¬ t_is (g 74) f (e - f) (t_nm 5) = 1 := fun z => ((t_is_5 (by omega)).mp z).1 hc8
                        have y6 : t_is (g 74) f (e - f) (t_nm 6) = 1 := (t_is_4 (by omega)).mpr ⟨hc9, hc10⟩
                        unfold t_ln
                        rw [if_neg n0, if_neg n1, if_neg n2, if_neg n3, if_neg n4, if_neg n5, if_pos y6]
                  · refine q_step 4 138 [(0, .ref 70)] [.int (108 : Int32), .int (108 : Int32), .int (105 : Int32), .ref 70] g u (fun big n0 => sg_nm_91 big n0 g u) ?_
                    refine q_call (M2 := 158) (rest := []) (r_ends g u hs h160 hf he hfe hes _ _ _) (fun _ _ => rfl) ?_
                    refine q_if_eq rfl (fun (hc9 : (t_p2 (g 74) s f (105 : Int32) (108 : Int32) (108 : Int32)) = 0) => ?_) (fun (hc9 : ¬ ((t_p2 (g 74) s f (105 : Int32) (108 : Int32) (108 : Int32)) = 0)) => ?_)
                    · refine q_step 4 154 [(0, .ref 70)] [.int (111 : Int32), .int (103 : Int32), .int (4 : Int32), .ref 70] g u (fun big n0 => sg_nm_89 big n0 g u) ?_
                      refine q_call (M2 := 157) (rest := []) (r_is g u hs h160 hf he hfe hes 4 (by omega) _ _) (fun _ _ => rfl) ?_
                      refine q_if_eq rfl (fun (hc10 : (t_p1 (g 74) s f (e - f) 4 (103 : Int32) (111 : Int32)) = 0) => ?_) (fun (hc10 : ¬ ((t_p1 (g 74) s f (e - f) 4 (103 : Int32) (111 : Int32)) = 0)) => ?_)
                      · refine q_ret 2 (some (.int (Int8.toInt32 (Int8.ofInt (-4)))), g, u) (fun _ _ => rfl) ?_
                        have n0 : ¬ t_is (g 74) f (e - f) (t_nm 0) = 1 := fun z => ((t_is_4 (by omega)).mp z).2 hc1
                        have n1 : ¬ t_is (g 74) f (e - f) (t_nm 1) = 1 := fun z => ((t_is_4 (by omega)).mp z).2 hc3
                        have n2 : ¬ t_is (g 74) f (e - f) (t_nm 2) = 1 := fun z => ((t_is_5 (by omega)).mp z).1 hc4
                        have n3 : ¬ t_is (g 74) f (e - f) (t_nm 3) = 1 := fun z => ((t_is_4 (by omega)).mp z).2 hc6
                        have n4 : ¬ t_is (g 74) f (e - f) (t_nm 4) = 1 := fun z => ((t_is_2 (by omega)).mp z) hc7
                        have n5 : ¬ t_is (g 74) f (e - f) (t_nm 5) = 1 := fun z => ((t_is_5 (by omega)).mp z).2 hc9
                        have n6 : ¬ t_is (g 74) f (e - f) (t_nm 6) = 1 := fun z => ((t_is_4 (by omega)).mp z).1 hc10
                        unfold t_ln
                        rw [if_neg n0, if_neg n1, if_neg n2, if_neg n3, if_neg n4, if_neg n5, if_neg n6]
                        rfl
                      · refine q_step 4 166 [(0, .ref 70)] [.int (0 : Int32), .int (108 : Int32), .int (97 : Int32), .ref 70] g u (fun big n0 => sg_nm_90 big n0 g u) ?_
                        refine q_call (M2 := 158) (rest := []) (r_ends g u hs h160 hf he hfe hes _ _ _) (fun _ _ => rfl) ?_
                        refine q_if_eq rfl (fun (hc11 : (t_p2 (g 74) s f (97 : Int32) (108 : Int32) (0 : Int32)) = 0) => ?_) (fun (hc11 : ¬ ((t_p2 (g 74) s f (97 : Int32) (108 : Int32) (0 : Int32)) = 0)) => ?_)
                        · refine q_ret 2 (some (.int (Int8.toInt32 (Int8.ofInt (-4)))), g, u) (fun _ _ => rfl) ?_
                          have n0 : ¬ t_is (g 74) f (e - f) (t_nm 0) = 1 := fun z => ((t_is_4 (by omega)).mp z).2 hc1
                          have n1 : ¬ t_is (g 74) f (e - f) (t_nm 1) = 1 := fun z => ((t_is_4 (by omega)).mp z).2 hc3
                          have n2 : ¬ t_is (g 74) f (e - f) (t_nm 2) = 1 := fun z => ((t_is_5 (by omega)).mp z).1 hc4
                          have n3 : ¬ t_is (g 74) f (e - f) (t_nm 3) = 1 := fun z => ((t_is_4 (by omega)).mp z).2 hc6
                          have n4 : ¬ t_is (g 74) f (e - f) (t_nm 4) = 1 := fun z => ((t_is_2 (by omega)).mp z) hc7
                          have n5 : ¬ t_is (g 74) f (e - f) (t_nm 5) = 1 := fun z => ((t_is_5 (by omega)).mp z).2 hc9
                          have n6 : ¬ t_is (g 74) f (e - f) (t_nm 6) = 1 := fun z => ((t_is_4 (by omega)).mp z).2 hc11
                          unfold t_ln
                          rw [if_neg n0, if_neg n1, if_neg n2, if_neg n3, if_neg n4, if_neg n5, if_neg n6]
                          rfl
                        · refine q_ret 3 (some (.int (6 : Int32)), g, u) (fun _ _ => rfl) ?_
                          have n0 : ¬ t_is (g 74) f (e - f) (t_nm 0) = 1 := fun z => ((t_is_4 (by omega)).mp z).2 hc1
                          have n1 : ¬ t_is (g 74) f (e - f) (t_nm 1) = 1 := fun z => ((t_is_4 (by omega)).mp z).2 hc3
                          have n2 : ¬ t_is (g 74) f (e - f) (t_nm 2) = 1 := fun z => ((t_is_5 (by omega)).mp z).1 hc4
                          have n3 : ¬ t_is (g 74) f (e - f) (t_nm 3) = 1 := fun z => ((t_is_4 (by omega)).mp z).2 hc6
                          have n4 : ¬ t_is (g 74) f (e - f) (t_nm 4) = 1 := fun z => ((t_is_2 (by omega)).mp z) hc7
                          have n5 : ¬ t_is (g 74) f (e - f) (t_nm 5) = 1 := fun z => ((t_is_5 (by omega)).mp z).2 hc9
                          have y6 : t_is (g 74) f (e - f) (t_nm 6) = 1 := (t_is_4 (by omega)).mpr ⟨hc10, hc11⟩
                          unfold t_ln
                          rw [if_neg n0, if_neg n1, if_neg n2, if_neg n3, if_neg n4, if_neg n5, if_pos y6]
                    · refine q_ret 3 (some (.int (5 : Int32)), g, u) (fun _ _ => rfl) ?_
                      have n0 : ¬ t_is (g 74) f (e - f) (t_nm 0) = 1 := fun z => ((t_is_4 (by omega)).mp z).2 hc1
                      have n1 : ¬ t_is (g 74) f (e - f) (t_nm 1) = 1 := fun z => ((t_is_4 (by omega)).mp z).2 hc3
                      have n2 : ¬ t_is (g 74) f (e - f) (t_nm 2) = 1 := fun z => ((t_is_5 (by omega)).mp z).1 hc4
                      have n3 : ¬ t_is (g 74) f (e - f) (t_nm 3) = 1 := fun z => ((t_is_4 (by omega)).mp z).2 hc6
                      have n4 : ¬ t_is (g 74) f (e - f) (t_nm 4) = 1 := fun z => ((t_is_2 (by omega)).mp z) hc7
                      have y5 : t_is (g 74) f (e - f) (t_nm 5) = 1 := (t_is_5 (by omega)).mpr ⟨hc8, hc9⟩
                      unfold t_ln
                      rw [if_neg n0, if_neg n1, if_neg n2, if_neg n3, if_neg n4, if_pos y5]
                · refine q_ret 2 (some (.int (4 : Int32)), g, u) (fun _ _ => rfl) ?_
                  have n0 : ¬ t_is (g 74) f (e - f) (t_nm 0) = 1 := fun z => ((t_is_4 (by omega)).mp z).2 hc1
                  have n1 : ¬ t_is (g 74) f (e - f) (t_nm 1) = 1 := fun z => ((t_is_4 (by omega)).mp z).2 hc3
                  have n2 : ¬ t_is (g 74) f (e - f) (t_nm 2) = 1 := fun z => ((t_is_5 (by omega)).mp z).1 hc4
                  have n3 : ¬ t_is (g 74) f (e - f) (t_nm 3) = 1 := fun z => ((t_is_4 (by omega)).mp z).2 hc6
                  have y4 : t_is (g 74) f (e - f) (t_nm 4) = 1 := (t_is_2 (by omega)).mpr hc7
                  unfold t_ln
                  rw [if_neg n0, if_neg n1, if_neg n2, if_neg n3, if_pos y4]
              · refine q_ret 2 (some (.int (3 : Int32)), g, u) (fun _ _ => rfl) ?_
                have n0 : ¬ t_is (g 74) f (e - f) (t_nm 0) = 1 := fun z => ((t_is_4 (by omega)).mp z).2 hc1
                have n1 : ¬ t_is (g 74) f (e - f) (t_nm 1) = 1 := fun z => ((t_is_4 (by omega)).mp z).2 hc3
                have n2 : ¬ t_is (g 74) f (e - f) (t_nm 2) = 1 := fun z => ((t_is_5 (by omega)).mp z).1 hc4
                have y3 : t_is (g 74) f (e - f) (t_nm 3) = 1 := (t_is_4 (by omega)).mpr ⟨hc5, hc6⟩
                unfold t_ln
                rw [if_neg n0, if_neg n1, if_neg n2, if_pos y3]
          · refine q_step 4 71 [(0, .ref 70)] [.int (115 : Int32), .int (115 : Int32), .int (101 : Int32), .ref 70] g u (fun big n0 => sg_nm_93 big n0 g u) ?_
            refine q_call (M2 := 158) (rest := []) (r_ends g u hs h160 hf he hfe hes _ _ _) (fun _ _ => rfl) ?_
            refine q_if_eq rfl (fun (hc5 : (t_p2 (g 74) s f (101 : Int32) (115 : Int32) (115 : Int32)) = 0) => ?_) (fun (hc5 : ¬ ((t_p2 (g 74) s f (101 : Int32) (115 : Int32) (115 : Int32)) = 0)) => ?_)
            · refine q_step 4 85 [(0, .ref 70)] [.int (97 : Int32), .int (119 : Int32), .int (4 : Int32), .ref 70] g u (fun big n0 => sg_nm_86 big n0 g u) ?_
              refine q_call (M2 := 157) (rest := []) (r_is g u hs h160 hf he hfe hes 4 (by omega) _ _) (fun _ _ => rfl) ?_
              refine q_if_eq rfl (fun (hc6 : (t_p1 (g 74) s f (e - f) 4 (119 : Int32) (97 : Int32)) = 0) => ?_) (fun (hc6 : ¬ ((t_p1 (g 74) s f (e - f) 4 (119 : Int32) (97 : Int32)) = 0)) => ?_)
              · refine q_step 4 111 [(0, .ref 70)] [.int (116 : Int32), .int (97 : Int32), .int (2 : Int32), .ref 70] g u (fun big n0 => sg_nm_87 big n0 g u) ?_
                refine q_call (M2 := 157) (rest := []) (r_is g u hs h160 hf he hfe hes 2 (by omega) _ _) (fun _ _ => rfl) ?_
                refine q_if_eq rfl (fun (hc7 : (t_p1 (g 74) s f (e - f) 2 (97 : Int32) (116 : Int32)) = 0) => ?_) (fun (hc7 : ¬ ((t_p1 (g 74) s f (e - f) 2 (97 : Int32) (116 : Int32)) = 0)) => ?_)
                · refine q_step 4 125 [(0, .ref 70)] [.int (116 : Int32), .int (115 : Int32), .int (5 : Int32), .ref 70] g u (fun big n0 => sg_nm_88 big n0 g u) ?_
                  refine q_call (M2 := 157) (rest := []) (r_is g u hs h160 hf he hfe hes 5 (by omega) _ _) (fun _ _ => rfl) ?_
                  refine q_if_eq rfl (fun (hc8 : (t_p1 (g 74) s f (e - f) 5 (115 : Int32) (116 : Int32)) = 0) => ?_) (fun (hc8 : ¬ ((t_p1 (g 74) s f (e - f) 5 (115 : Int32) (116 : Int32)) = 0)) => ?_)
                  · refine q_step 4 154 [(0, .ref 70)] [.int (111 : Int32), .int (103 : Int32), .int (4 : Int32), .ref 70] g u (fun big n0 => sg_nm_89 big n0 g u) ?_
                    refine q_call (M2 := 157) (rest := []) (r_is g u hs h160 hf he hfe hes 4 (by omega) _ _) (fun _ _ => rfl) ?_
                    refine q_if_eq rfl (fun (hc9 : (t_p1 (g 74) s f (e - f) 4 (103 : Int32) (111 : Int32)) = 0) => ?_) (fun (hc9 : ¬ ((t_p1 (g 74) s f (e - f) 4 (103 : Int32) (111 : Int32)) = 0)) => ?_)
                    · refine q_ret 2 (some (.int (Int8.toInt32 (Int8.ofInt (-4)))), g, u) (fun _ _ => rfl) ?_
                      have n0 : ¬ t_is (g 74) f (e - f) (t_nm 0) = 1 := fun z => ((t_is_4 (by omega)).mp z).2 hc1
                      have n1 : ¬ t_is (g 74) f (e - f) (t_nm 1) = 1 := fun z => ((t_is_4 (by omega)).mp z).2 hc3
                      have n2 : ¬ t_is (g 74) f (e - f) (t_nm 2) = 1 := fun z => ((t_is_5 (by omega)).mp z).2 hc5
                      have n3 : ¬ t_is (g 74) f (e - f) (t_nm 3) = 1 := fun z => ((t_is_4 (by omega)).mp z).1 hc6
                      have n4 : ¬ t_is (g 74) f (e - f) (t_nm 4) = 1 := fun z => ((t_is_2 (by omega)).mp z) hc7
                      have n5 : ¬ t_is (g 74) f (e - f) (t_nm 5) = 1 := fun z => ((t_is_5 (by omega)).mp z).1 hc8
                      have n6 : ¬ t_is (g 74) f (e - f) (t_nm 6) = 1 := fun z => ((t_is_4 (by omega)).mp z).1 hc9
                      unfold t_ln
                      rw [if_neg n0, if_neg n1, if_neg n2, if_neg n3, if_neg n4, if_neg n5, if_neg n6]
                      rfl
                    · refine q_step 4 166 [(0, .ref 70)] [.int (0 : Int32), .int (108 : Int32), .int (97 : Int32), .ref 70] g u (fun big n0 => sg_nm_90 big n0 g u) ?_
                      refine q_call (M2 := 158) (rest := []) (r_ends g u hs h160 hf he hfe hes _ _ _) (fun _ _ => rfl) ?_
                      refine q_if_eq rfl (fun (hc10 : (t_p2 (g 74) s f (97 : Int32) (108 : Int32) (0 : Int32)) = 0) => ?_) (fun (hc10 : ¬ ((t_p2 (g 74) s f (97 : Int32) (108 : Int32) (0 : Int32)) = 0)) => ?_)
                      · refine q_ret 2 (some (.int (Int8.toInt32 (Int8.ofInt (-4)))), g, u) (fun _ _ => rfl) ?_
                        have n0 : ¬ t_is (g 74) f (e - f) (t_nm 0) = 1 := fun z => ((t_is_4 (by omega)).mp z).2 hc1
                        have n1 : ¬ t_is (g 74) f (e - f) (t_nm 1) = 1 := fun z => ((t_is_4 (by omega)).mp z).2 hc3
                        have n2 : ¬ t_is (g 74) f (e - f) (t_nm 2) = 1 := fun z => ((t_is_5 (by omega)).mp z).2 hc5
                        have n3 : ¬ t_is (g 74) f (e - f) (t_nm 3) = 1 := fun z => ((t_is_4 (by omega)).mp z).1 hc6
                        have n4 : ¬ t_is (g 74) f (e - f) (t_nm 4) = 1 := fun z => ((t_is_2 (by omega)).mp z) hc7
                        have n5 : ¬ t_is (g 74) f (e - f) (t_nm 5) = 1 := fun z => ((t_is_5 (by omega)).mp z).1 hc8
                        have n6 : ¬ t_is (g 74) f (e - f) (t_nm 6) = 1 := fun z => ((t_is_4 (by omega)).mp z).2 hc10
                        unfold t_ln
                        rw [if_neg n0, if_neg n1, if_neg n2, if_neg n3, if_neg n4, if_neg n5, if_neg n6]
                        rfl
                      · refine q_ret 3 (some (.int (6 : Int32)), g, u) (fun _ _ => rfl) ?_
                        have n0 : ¬ t_is (g 74) f (e - f) (t_nm 0) = 1 := fun z => ((t_is_4 (by omega)).mp z).2 hc1
                        have n1 : ¬ t_is (g 74) f (e - f) (t_nm 1) = 1 := fun z => ((t_is_4 (by omega)).mp z).2 hc3
                        have n2 : ¬ t_is (g 74) f (e - f) (t_nm 2) = 1 := fun z => ((t_is_5 (by omega)).mp z).2 hc5
                        have n3 : ¬ t_is (g 74) f (e - f) (t_nm 3) = 1 := fun z => ((t_is_4 (by omega)).mp z).1 hc6
                        have n4 : ¬ t_is (g 74) f (e - f) (t_nm 4) = 1 := fun z => ((t_is_2 (by omega)).mp z) hc7
                        have n5 : ¬ t_is (g 74) f (e - f) (t_nm 5) = 1 := fun z => ((t_is_5 (by omega)).mp z).1 hc8
                        have y6 : t_is (g 74) f (e - f) (t_nm 6) = 1 := (t_is_4 (by omega)).mpr ⟨hc9, hc10⟩
                        unfold t_ln
                        rw [if_neg n0, if_neg n1, if_neg n2, if_neg n3, if_neg n4, if_neg n5, if_pos y6]
                  · refine q_step 4 138 [(0, .ref 70)] [.int (108 : Int32), .int (108 : Int32), .int (105 : Int32), .ref 70] g u (fun big n0 => sg_nm_91 big n0 g u) ?_
                    refine q_call (M2 := 158) (rest := []) (r_ends g u hs h160 hf he hfe hes _ _ _) (fun _ _ => rfl) ?_
                    refine q_if_eq rfl (fun (hc9 : (t_p2 (g 74) s f (105 : Int32) (108 : Int32) (108 : Int32)) = 0) => ?_) (fun (hc9 : ¬ ((t_p2 (g 74) s f (105 : Int32) (108 : Int32) (108 : Int32)) = 0)) => ?_)
                    · refine q_step 4 154 [(0, .ref 70)] [.int (111 : Int32), .int (103 : Int32), .int (4 : Int32), .ref 70] g u (fun big n0 => sg_nm_89 big n0 g u) ?_
                      refine q_call (M2 := 157) (rest := []) (r_is g u hs h160 hf he hfe hes 4 (by omega) _ _) (fun _ _ => rfl) ?_
                      refine q_if_eq rfl (fun (hc10 : (t_p1 (g 74) s f (e - f) 4 (103 : Int32) (111 : Int32)) = 0) => ?_) (fun (hc10 : ¬ ((t_p1 (g 74) s f (e - f) 4 (103 : Int32) (111 : Int32)) = 0)) => ?_)
                      · refine q_ret 2 (some (.int (Int8.toInt32 (Int8.ofInt (-4)))), g, u) (fun _ _ => rfl) ?_
                        have n0 : ¬ t_is (g 74) f (e - f) (t_nm 0) = 1 := fun z => ((t_is_4 (by omega)).mp z).2 hc1
                        have n1 : ¬ t_is (g 74) f (e - f) (t_nm 1) = 1 := fun z => ((t_is_4 (by omega)).mp z).2 hc3
                        have n2 : ¬ t_is (g 74) f (e - f) (t_nm 2) = 1 := fun z => ((t_is_5 (by omega)).mp z).2 hc5
                        have n3 : ¬ t_is (g 74) f (e - f) (t_nm 3) = 1 := fun z => ((t_is_4 (by omega)).mp z).1 hc6
                        have n4 : ¬ t_is (g 74) f (e - f) (t_nm 4) = 1 := fun z => ((t_is_2 (by omega)).mp z) hc7
                        have n5 : ¬ t_is (g 74) f (e - f) (t_nm 5) = 1 := fun z => ((t_is_5 (by omega)).mp z).2 hc9
                        have n6 : ¬ t_is (g 74) f (e - f) (t_nm 6) = 1 := fun z => ((t_is_4 (by omega)).mp z).1 hc10
                        unfold t_ln
                        rw [if_neg n0, if_neg n1, if_neg n2, if_neg n3, if_neg n4, if_neg n5, if_neg n6]
                        rfl
                      · refine q_step 4 166 [(0, .ref 70)] [.int (0 : Int32), .int (108 : Int32), .int (97 : Int32), .ref 70] g u (fun big n0 => sg_nm_90 big n0 g u) ?_
                        refine q_call (M2 := 158) (rest := []) (r_ends g u hs h160 hf he hfe hes _ _ _) (fun _ _ => rfl) ?_
                        refine q_if_eq rfl (fun (hc11 : (t_p2 (g 74) s f (97 : Int32) (108 : Int32) (0 : Int32)) = 0) => ?_) (fun (hc11 : ¬ ((t_p2 (g 74) s f (97 : Int32) (108 : Int32) (0 : Int32)) = 0)) => ?_)
                        · refine q_ret 2 (some (.int (Int8.toInt32 (Int8.ofInt (-4)))), g, u) (fun _ _ => rfl) ?_
                          have n0 : ¬ t_is (g 74) f (e - f) (t_nm 0) = 1 := fun z => ((t_is_4 (by omega)).mp z).2 hc1
                          have n1 : ¬ t_is (g 74) f (e - f) (t_nm 1) = 1 := fun z => ((t_is_4 (by omega)).mp z).2 hc3
                          have n2 : ¬ t_is (g 74) f (e - f) (t_nm 2) = 1 := fun z => ((t_is_5 (by omega)).mp z).2 hc5
                          have n3 : ¬ t_is (g 74) f (e - f) (t_nm 3) = 1 := fun z => ((t_is_4 (by omega)).mp z).1 hc6
                          have n4 : ¬ t_is (g 74) f (e - f) (t_nm 4) = 1 := fun z => ((t_is_2 (by omega)).mp z) hc7
                          have n5 : ¬ t_is (g 74) f (e - f) (t_nm 5) = 1 := fun z => ((t_is_5 (by omega)).mp z).2 hc9
                          have n6 : ¬ t_is (g 74) f (e - f) (t_nm 6) = 1 := fun z => ((t_is_4 (by omega)).mp z).2 hc11
                          unfold t_ln
                          rw [if_neg n0, if_neg n1, if_neg n2, if_neg n3, if_neg n4, if_neg n5, if_neg n6]
                          rfl
                        · refine q_ret 3 (some (.int (6 : Int32)), g, u) (fun _ _ => rfl) ?_
                          have n0 : ¬ t_is (g 74) f (e - f) (t_nm 0) = 1 := fun z => ((t_is_4 (by omega)).mp z).2 hc1
                          have n1 : ¬ t_is (g 74) f (e - f) (t_nm 1) = 1 := fun z => ((t_is_4 (by omega)).mp z).2 hc3
                          have n2 : ¬ t_is (g 74) f (e - f) (t_nm 2) = 1 := fun z => ((t_is_5 (by omega)).mp z).2 hc5
                          have n3 : ¬ t_is (g 74) f (e - f) (t_nm 3) = 1 := fun z => ((t_is_4 (by omega)).mp z).1 hc6
                          have n4 : ¬ t_is (g 74) f (e - f) (t_nm 4) = 1 := fun z => ((t_is_2 (by omega)).mp z) hc7
                          have n5 : ¬ t_is (g 74) f (e - f) (t_nm 5) = 1 := fun z => ((t_is_5 (by omega)).mp z).2 hc9
                          have y6 : t_is (g 74) f (e - f) (t_nm 6) = 1 := (t_is_4 (by omega)).mpr ⟨hc10, hc11⟩
                          unfold t_ln
                          rw [if_neg n0, if_neg n1, if_neg n2, if_neg n3, if_neg n4, if_neg n5, if_pos y6]
                    · refine q_ret 3 (some (.int (5 : Int32)), g, u) (fun _ _ => rfl) ?_
                      have n0 : ¬ t_is (g 74) f (e - f) (t_nm 0) = 1 := fun z => ((t_is_4 (by omega)).mp z).2 hc1
                      have n1 : ¬ t_is (g 74) f (e - f) (t_nm 1) = 1 := fun z => ((t_is_4 (by omega)).mp z).2 hc3
                      have n2 : ¬ t_is (g 74) f (e - f) (t_nm 2) = 1 := fun z => ((t_is_5 (by omega)).mp z).2 hc5
                      have n3 : ¬ t_is (g 74) f (e - f) (t_nm 3) = 1 := fun z => ((t_is_4 (by omega)).mp z).1 hc6
                      have n4 : ¬ t_is (g 74) f (e - f) (t_nm 4) = 1 := fun z => ((t_is_2 (by omega)).mp z) hc7
                      have y5 : t_is (g 74) f (e - f) (t_nm 5) = 1 := (t_is_5 (by omega)).mpr ⟨hc8, hc9⟩
                      unfold t_ln
                      rw [if_neg n0, if_neg n1, if_neg n2, if_neg n3, if_neg n4, if_pos y5]
                · refine q_ret 2 (some (.int (4 : Int32)), g, u) (fun _ _ => rfl) ?_
                  have n0 : ¬ t_is (g 74) f (e - f) (t_nm 0) = 1 := fun z => ((t_is_4 (by omega)).mp z).2 hc1
                  have n1 : ¬ t_is (g 74) f (e - f) (t_nm 1) = 1 := fun z => ((t_is_4 (by omega)).mp z).2 hc3
                  have n2 : ¬ t_is (g 74) f (e - f) (t_nm 2) = 1 := fun z => ((t_is_5 (by omega)).mp z).2 hc5
                  have n3 : ¬ t_is (g 74) f (e - f) (t_nm 3) = 1 := fun z => ((t_is_4 (by omega)).mp z).1 hc6
                  have y4 : t_is (g 74) f (e - f) (t_nm 4) = 1 := (t_is_2 (by omega)).mpr hc7
                  unfold t_ln
                  rw [if_neg n0, if_neg n1, if_neg n2, if_neg n3, if_pos y4]
              · refine q_step 4 97 [(0, .ref 70)] [.int (0 : Int32), .int (108 : Int32), .int (108 : Int32), .ref 70] g u (fun big n0 => sg_nm_92 big n0 g u) ?_
                refine q_call (M2 := 158) (rest := []) (r_ends g u hs h160 hf he hfe hes _ _ _) (fun _ _ => rfl) ?_
                refine q_if_eq rfl (fun (hc7 : (t_p2 (g 74) s f (108 : Int32) (108 : Int32) (0 : Int32)) = 0) => ?_) (fun (hc7 : ¬ ((t_p2 (g 74) s f (108 : Int32) (108 : Int32) (0 : Int32)) = 0)) => ?_)
                · refine q_step 4 111 [(0, .ref 70)] [.int (116 : Int32), .int (97 : Int32), .int (2 : Int32), .ref 70] g u (fun big n0 => sg_nm_87 big n0 g u) ?_
                  refine q_call (M2 := 157) (rest := []) (r_is g u hs h160 hf he hfe hes 2 (by omega) _ _) (fun _ _ => rfl) ?_
                  refine q_if_eq rfl (fun (hc8 : (t_p1 (g 74) s f (e - f) 2 (97 : Int32) (116 : Int32)) = 0) => ?_) (fun (hc8 : ¬ ((t_p1 (g 74) s f (e - f) 2 (97 : Int32) (116 : Int32)) = 0)) => ?_)
                  · refine q_step 4 125 [(0, .ref 70)] [.int (116 : Int32), .int (115 : Int32), .int (5 : Int32), .ref 70] g u (fun big n0 => sg_nm_88 big n0 g u) ?_
                    refine q_call (M2 := 157) (rest := []) (r_is g u hs h160 hf he hfe hes 5 (by omega) _ _) (fun _ _ => rfl) ?_
                    refine q_if_eq rfl (fun (hc9 : (t_p1 (g 74) s f (e - f) 5 (115 : Int32) (116 : Int32)) = 0) => ?_) (fun (hc9 : ¬ ((t_p1 (g 74) s f (e - f) 5 (115 : Int32) (116 : Int32)) = 0)) => ?_)
                    · refine q_step 4 154 [(0, .ref 70)] [.int (111 : Int32), .int (103 : Int32), .int (4 : Int32), .ref 70] g u (fun big n0 => sg_nm_89 big n0 g u) ?_
                      refine q_call (M2 := 157) (rest := []) (r_is g u hs h160 hf he hfe hes 4 (by omega) _ _) (fun _ _ => rfl) ?_
                      refine q_if_eq rfl (fun (hc10 : (t_p1 (g 74) s f (e - f) 4 (103 : Int32) (111 : Int32)) = 0) => ?_) (fun (hc10 : ¬ ((t_p1 (g 74) s f (e - f) 4 (103 : Int32) (111 : Int32)) = 0)) => ?_)
                      · refine q_ret 2 (some (.int (Int8.toInt32 (Int8.ofInt (-4)))), g, u) (fun _ _ => rfl) ?_
                        have n0 : ¬ t_is (g 74) f (e - f) (t_nm 0) = 1 := fun z => ((t_is_4 (by omega)).mp z).2 hc1
                        have n1 : ¬ t_is (g 74) f (e - f) (t_nm 1) = 1 := fun z => ((t_is_4 (by omega)).mp z).2 hc3
                        have n2 : ¬ t_is (g 74) f (e - f) (t_nm 2) = 1 := fun z => ((t_is_5 (by omega)).mp z).2 hc5
                        have n3 : ¬ t_is (g 74) f (e - f) (t_nm 3) = 1 := fun z => ((t_is_4 (by omega)).mp z).2 hc7
                        have n4 : ¬ t_is (g 74) f (e - f) (t_nm 4) = 1 := fun z => ((t_is_2 (by omega)).mp z) hc8
                        have n5 : ¬ t_is (g 74) f (e - f) (t_nm 5) = 1 := fun z => ((t_is_5 (by omega)).mp z).1 hc9
                        have n6 : ¬ t_is (g 74) f (e - f) (t_nm 6) = 1 := fun z => ((t_is_4 (by omega)).mp z).1 hc10
                        unfold t_ln
                        rw [if_neg n0, if_neg n1, if_neg n2, if_neg n3, if_neg n4, if_neg n5, if_neg n6]
                        rfl
                      · refine q_step 4 166 [(0, .ref 70)] [.int (0 : Int32), .int (108 : Int32), .int (97 : Int32), .ref 70] g u (fun big n0 => sg_nm_90 big n0 g u) ?_
                        refine q_call (M2 := 158) (rest := []) (r_ends g u hs h160 hf he hfe hes _ _ _) (fun _ _ => rfl) ?_
                        refine q_if_eq rfl (fun (hc11 : (t_p2 (g 74) s f (97 : Int32) (108 : Int32) (0 : Int32)) = 0) => ?_) (fun (hc11 : ¬ ((t_p2 (g 74) s f (97 : Int32) (108 : Int32) (0 : Int32)) = 0)) => ?_)
                        · refine q_ret 2 (some (.int (Int8.toInt32 (Int8.ofInt (-4)))), g, u) (fun _ _ => rfl) ?_
                          have n0 : ¬ t_is (g 74) f (e - f) (t_nm 0) = 1 := fun z => ((t_is_4 (by omega)).mp z).2 hc1
                          have n1 : ¬ t_is (g 74) f (e - f) (t_nm 1) = 1 := fun z => ((t_is_4 (by omega)).mp z).2 hc3
                          have n2 : ¬ t_is (g 74) f (e - f) (t_nm 2) = 1 := fun z => ((t_is_5 (by omega)).mp z).2 hc5
                          have n3 : ¬ t_is (g 74) f (e - f) (t_nm 3) = 1 := fun z => ((t_is_4 (by omega)).mp z).2 hc7
                          have n4 : ¬ t_is (g 74) f (e - f) (t_nm 4) = 1 := fun z => ((t_is_2 (by omega)).mp z) hc8
                          have n5 : ¬ t_is (g 74) f (e - f) (t_nm 5) = 1 := fun z => ((t_is_5 (by omega)).mp z).1 hc9
                          have n6 : ¬ t_is (g 74) f (e - f) (t_nm 6) = 1 := fun z => ((t_is_4 (by omega)).mp z).2 hc11
                          unfold t_ln
                          rw [if_neg n0, if_neg n1, if_neg n2, if_neg n3, if_neg n4, if_neg n5, if_neg n6]
                          rfl
                        · refine q_ret 3 (some (.int (6 : Int32)), g, u) (fun _ _ => rfl) ?_
                          have n0 : ¬ t_is (g 74) f (e - f) (t_nm 0) = 1 := fun z => ((t_is_4 (by omega)).mp z).2 hc1
                          have n1 : ¬ t_is (g 74) f (e - f) (t_nm 1) = 1 := fun z => ((t_is_4 (by omega)).mp z).2 hc3
                          have n2 : ¬ t_is (g 74) f (e - f) (t_nm 2) = 1 := fun z => ((t_is_5 (by omega)).mp z).2 hc5
                          have n3 : ¬ t_is (g 74) f (e - f) (t_nm 3) = 1 := fun z => ((t_is_4 (by omega)).mp z).2 hc7
                          have n4 : ¬ t_is (g 74) f (e - f) (t_nm 4) = 1 := fun z => ((t_is_2 (by omega)).mp z) hc8
                          have n5 : ¬ t_is (g 74) f (e - f) (t_nm 5) = 1 := fun z => ((t_is_5 (by omega)).mp z).1 hc9
                          have y6 : t_is (g 74) f (e - f) (t_nm 6) = 1 := (t_is_4 (by omega)).mpr ⟨hc10, hc11⟩
                          unfold t_ln
                          rw [if_neg n0, if_neg n1, if_neg n2, if_neg n3, if_neg n4, if_neg n5, if_pos y6]
                    · refine q_step 4 138 [(0, .ref 70)] [.int (108 : Int32), .int (108 : Int32), .int (105 : Int32), .ref 70] g u (fun big n0 => sg_nm_91 big n0 g u) ?_
                      refine q_call (M2 := 158) (rest := []) (r_ends g u hs h160 hf he hfe hes _ _ _) (fun _ _ => rfl) ?_
                      refine q_if_eq rfl (fun (hc10 : (t_p2 (g 74) s f (105 : Int32) (108 : Int32) (108 : Int32)) = 0) => ?_) (fun (hc10 : ¬ ((t_p2 (g 74) s f (105 : Int32) (108 : Int32) (108 : Int32)) = 0)) => ?_)
                      · refine q_step 4 154 [(0, .ref 70)] [.int (111 : Int32), .int (103 : Int32), .int (4 : Int32), .ref 70] g u (fun big n0 => sg_nm_89 big n0 g u) ?_
                        refine q_call (M2 := 157) (rest := []) (r_is g u hs h160 hf he hfe hes 4 (by omega) _ _) (fun _ _ => rfl) ?_
                        refine q_if_eq rfl (fun (hc11 : (t_p1 (g 74) s f (e - f) 4 (103 : Int32) (111 : Int32)) = 0) => ?_) (fun (hc11 : ¬ ((t_p1 (g 74) s f (e - f) 4 (103 : Int32) (111 : Int32)) = 0)) => ?_)
                        · refine q_ret 2 (some (.int (Int8.toInt32 (Int8.ofInt (-4)))), g, u) (fun _ _ => rfl) ?_
                          have n0 : ¬ t_is (g 74) f (e - f) (t_nm 0) = 1 := fun z => ((t_is_4 (by omega)).mp z).2 hc1
                          have n1 : ¬ t_is (g 74) f (e - f) (t_nm 1) = 1 := fun z => ((t_is_4 (by omega)).mp z).2 hc3
                          have n2 : ¬ t_is (g 74) f (e - f) (t_nm 2) = 1 := fun z => ((t_is_5 (by omega)).mp z).2 hc5
                          have n3 : ¬ t_is (g 74) f (e - f) (t_nm 3) = 1 := fun z => ((t_is_4 (by omega)).mp z).2 hc7
                          have n4 : ¬ t_is (g 74) f (e - f) (t_nm 4) = 1 := fun z => ((t_is_2 (by omega)).mp z) hc8
                          have n5 : ¬ t_is (g 74) f (e - f) (t_nm 5) = 1 := fun z => ((t_is_5 (by omega)).mp z).2 hc10
                          have n6 : ¬ t_is (g 74) f (e - f) (t_nm 6) = 1 := fun z => ((t_is_4 (by omega)).mp z).1 hc11
                          unfold t_ln
                          rw [if_neg n0, if_neg n1, if_neg n2, if_neg n3, if_neg n4, if_neg n5, if_neg n6]
                          rfl
                        · refine q_step 4 166 [(0, .ref 70)] [.int (0 : Int32), .int (108 : Int32), .int (97 : Int32), .ref 70] g u (fun big n0 => sg_nm_90 big n0 g u) ?_
                          refine q_call (M2 := 158) (rest := []) (r_ends g u hs h160 hf he hfe hes _ _ _) (fun _ _ => rfl) ?_
                          refine q_if_eq rfl (fun (hc12 : (t_p2 (g 74) s f (97 : Int32) (108 : Int32) (0 : Int32)) = 0) => ?_) (fun (hc12 : ¬ ((t_p2 (g 74) s f (97 : Int32) (108 : Int32) (0 : Int32)) = 0)) => ?_)
                          · refine q_ret 2 (some (.int (Int8.toInt32 (Int8.ofInt (-4)))), g, u) (fun _ _ => rfl) ?_
                            have n0 : ¬ t_is (g 74) f (e - f) (t_nm 0) = 1 := fun z => ((t_is_4 (by omega)).mp z).2 hc1
                            have n1 : ¬ t_is (g 74) f (e - f) (t_nm 1) = 1 := fun z => ((t_is_4 (by omega)).mp z).2 hc3
                            have n2 : ¬ t_is (g 74) f (e - f) (t_nm 2) = 1 := fun z => ((t_is_5 (by omega)).mp z).2 hc5
                            have n3 : ¬ t_is (g 74) f (e - f) (t_nm 3) = 1 := fun z => ((t_is_4 (by omega)).mp z).2 hc7
                            have n4 : ¬ t_is (g 74) f (e - f) (t_nm 4) = 1 := fun z => ((t_is_2 (by omega)).mp z) hc8
                            have n5 : ¬ t_is (g 74) f (e - f) (t_nm 5) = 1 := fun z => ((t_is_5 (by omega)).mp z).2 hc10
                            have n6 : ¬ t_is (g 74) f (e - f) (t_nm 6) = 1 := fun z => ((t_is_4 (by omega)).mp z).2 hc12
                            unfold t_ln
                            rw [if_neg n0, if_neg n1, if_neg n2, if_neg n3, if_neg n4, if_neg n5, if_neg n6]
                            rfl
                          · refine q_ret 3 (some (.int (6 : Int32)), g, u) (fun _ _ => rfl) ?_
                            have n0 : ¬ t_is (g 74) f (e - f) (t_nm 0) = 1 := fun z => ((t_is_4 (by omega)).mp z).2 hc1
                            have n1 : ¬ t_is (g 74) f (e - f) (t_nm 1) = 1 := fun z => ((t_is_4 (by omega)).mp z).2 hc3
                            have n2 : ¬ t_is (g 74) f (e - f) (t_nm 2) = 1 := fun z => ((t_is_5 (by omega)).mp z).2 hc5
                            have n3 : ¬ t_is (g 74) f (e - f) (t_nm 3) = 1 := fun z => ((t_is_4 (by omega)).mp z).2 hc7
                            have n4 : ¬ t_is (g 74) f (e - f) (t_nm 4) = 1 := fun z => ((t_is_2 (by omega)).mp z) hc8
                            have n5 : ¬ t_is (g 74) f (e - f) (t_nm 5) = 1 := fun z => ((t_is_5 (by omega)).mp z).2 hc10
                            have y6 : t_is (g 74) f (e - f) (t_nm 6) = 1 := (t_is_4 (by omega)).mpr ⟨hc11, hc12⟩
                            unfold t_ln
                            rw [if_neg n0, if_neg n1, if_neg n2, if_neg n3, if_neg n4, if_neg n5, if_pos y6]
                      · refine q_ret 3 (some (.int (5 : Int32)), g, u) (fun _ _ => rfl) ?_
                        have n0 : ¬ t_is (g 74) f (e - f) (t_nm 0) = 1 := fun z => ((t_is_4 (by omega)).mp z).2 hc1
                        have n1 : ¬ t_is (g 74) f (e - f) (t_nm 1) = 1 := fun z => ((t_is_4 (by omega)).mp z).2 hc3
                        have n2 : ¬ t_is (g 74) f (e - f) (t_nm 2) = 1 := fun z => ((t_is_5 (by omega)).mp z).2 hc5
                        have n3 : ¬ t_is (g 74) f (e - f) (t_nm 3) = 1 := fun z => ((t_is_4 (by omega)).mp z).2 hc7
                        have n4 : ¬ t_is (g 74) f (e - f) (t_nm 4) = 1 := fun z => ((t_is_2 (by omega)).mp z) hc8
                        have y5 : t_is (g 74) f (e - f) (t_nm 5) = 1 := (t_is_5 (by omega)).mpr ⟨hc9, hc10⟩
                        unfold t_ln
                        rw [if_neg n0, if_neg n1, if_neg n2, if_neg n3, if_neg n4, if_pos y5]
                  · refine q_ret 2 (some (.int (4 : Int32)), g, u) (fun _ _ => rfl) ?_
                    have n0 : ¬ t_is (g 74) f (e - f) (t_nm 0) = 1 := fun z => ((t_is_4 (by omega)).mp z).2 hc1
                    have n1 : ¬ t_is (g 74) f (e - f) (t_nm 1) = 1 := fun z => ((t_is_4 (by omega)).mp z).2 hc3
                    have n2 : ¬ t_is (g 74) f (e - f) (t_nm 2) = 1 := fun z => ((t_is_5 (by omega)).mp z).2 hc5
                    have n3 : ¬ t_is (g 74) f (e - f) (t_nm 3) = 1 := fun z => ((t_is_4 (by omega)).mp z).2 hc7
                    have y4 : t_is (g 74) f (e - f) (t_nm 4) = 1 := (t_is_2 (by omega)).mpr hc8
                    unfold t_ln
                    rw [if_neg n0, if_neg n1, if_neg n2, if_neg n3, if_pos y4]
                · refine q_ret 2 (some (.int (3 : Int32)), g, u) (fun _ _ => rfl) ?_
                  have n0 : ¬ t_is (g 74) f (e - f) (t_nm 0) = 1 := fun z => ((t_is_4 (by omega)).mp z).2 hc1
                  have n1 : ¬ t_is (g 74) f (e - f) (t_nm 1) = 1 := fun z => ((t_is_4 (by omega)).mp z).2 hc3
                  have n2 : ¬ t_is (g 74) f (e - f) (t_nm 2) = 1 := fun z => ((t_is_5 (by omega)).mp z).2 hc5
                  have y3 : t_is (g 74) f (e - f) (t_nm 3) = 1 := (t_is_4 (by omega)).mpr ⟨hc6, hc7⟩
                  unfold t_ln
                  rw [if_neg n0, if_neg n1, if_neg n2, if_pos y3]
            · refine q_ret 2 (some (.int (2 : Int32)), g, u) (fun _ _ => rfl) ?_
              have n0 : ¬ t_is (g 74) f (e - f) (t_nm 0) = 1 := fun z => ((t_is_4 (by omega)).mp z).2 hc1
              have n1 : ¬ t_is (g 74) f (e - f) (t_nm 1) = 1 := fun z => ((t_is_4 (by omega)).mp z).2 hc3
              have y2 : t_is (g 74) f (e - f) (t_nm 2) = 1 := (t_is_5 (by omega)).mpr ⟨hc4, hc5⟩
              unfold t_ln
              rw [if_neg n0, if_neg n1, if_pos y2]
        · refine q_ret 2 (some (.int (1 : Int32)), g, u) (fun _ _ => rfl) ?_
          have n0 : ¬ t_is (g 74) f (e - f) (t_nm 0) = 1 := fun z => ((t_is_4 (by omega)).mp z).2 hc1
          have y1 : t_is (g 74) f (e - f) (t_nm 1) = 1 := (t_is_4 (by omega)).mpr ⟨hc2, hc3⟩
          unfold t_ln
          rw [if_neg n0, if_pos y1]
    · refine q_ret 2 (some (.int (0 : Int32)), g, u) (fun _ _ => rfl) ?_
      have y0 : t_is (g 74) f (e - f) (t_nm 0) = 1 := (t_is_4 (by omega)).mpr ⟨hc0, hc1⟩
      unfold t_ln
      rw [if_pos y0]
end
section
/-! NUMBERS of the text. The tokens depend on the bytes told alone. -/
theorem t_sk_c {b b' : Nat → Int32} {s : Nat} (h : ∀ j, j < s → b j = b' j) : ∀ k p, p + k ≤ s → t_sk b k p = t_sk b' k p
  | 0, _, _ => rfl
  | k + 1, p, hp => by rw [t_sk, t_sk, h p (by omega), t_sk_c h k (p + 1) (by omega)]
theorem t_ru_c {b b' : Nat → Int32} {s : Nat} {kd : Int32} (h : ∀ j, j < s → b j = b' j) : ∀ k p, p + k ≤ s → t_ru b kd k p = t_ru b' kd k p
  | 0, _, _ => rfl
  | k + 1, p, hp => by rw [t_ru, t_ru, h p (by omega), t_ru_c h k (p + 1) (by omega)]
theorem t_vl_c {b b' : Nat → Int32} {s : Nat} (h : ∀ j, j < s → b j = b' j) : ∀ k i a, i + k ≤ s → t_vl b k i a = t_vl b' k i a
  | 0, _, _, _ => rfl
  | k + 1, i, a, hp => by rw [t_vl, t_vl, h i (by omega), t_vl_c h k (i + 1) _ (by omega)]
theorem t_fi_c {b b' : Nat → Int32} {s p : Nat} (h : ∀ j, j < s → b j = b' j) (hp : p ≤ s) : t_fi b s p = t_fi b' s p := t_sk_c h (s - p) p (by omega)
theorem t_k0_c {b b' : Nat → Int32} {s p : Nat} (h : ∀ j, j < s → b j = b' j) (hp : p ≤ s) : t_k0 b s p = t_k0 b' s p := by
  unfold t_k0
  rw [t_fi_c h hp]
  by_cases e : s ≤ t_fi b' s p
  · rw [if_pos e, if_pos e]
  · rw [if_neg e, if_neg e, h _ (by omega)]
theorem t_pl_c {b b' : Nat → Int32} {s p : Nat} (h : ∀ j, j < s → b j = b' j) (hp : p ≤ s) : t_pl b s p = t_pl b' s p := by
  unfold t_pl
  rw [t_k0_c h hp, t_fi_c h hp]
  by_cases e : s ≤ t_fi b' s p
  · rw [if_pos e, if_pos e]
  · rw [if_neg e, if_neg e, t_ru_c h _ _ (by omega), t_ru_c h _ _ (by omega)]
theorem t_ki_c {b b' : Nat → Int32} {s p : Nat} (h : ∀ j, j < s → b j = b' j) (hp : p ≤ s) : t_ki b s p = t_ki b' s p := by
  unfold t_ki
  rw [t_k0_c h hp, t_pl_c h hp, t_fi_c h hp]
theorem t_va_c {b b' : Nat → Int32} {s p : Nat} (h : ∀ j, j < s → b j = b' j) (hp : p ≤ s) : t_va b s p = t_va b' s p := by
  unfold t_va
  rw [t_pl_c h hp, t_fi_c h hp]
  have := t_pl_b (b := b') hp
  exact t_vl_c h _ _ _ (by omega)
theorem t_eq_c {b b' : Nat → Int32} {s : Nat} (h : ∀ j, j < s → b j = b' j) : ∀ n f, f + n.length ≤ s → t_eq b f n = t_eq b' f n
  | [], _, _ => rfl
  | c :: r, f, hf => by
    have hf' : f + (r.length + 1) ≤ s := hf
    rw [t_eq, t_eq, h f (by omega), t_eq_c h r (f + 1) (by omega)]
theorem t_is_c {b b' : Nat → Int32} {s f l : Nat} {n : List Int32} (h : ∀ j, j < s → b j = b' j) (hf : f + l ≤ s) : t_is b f l n = t_is b' f l n := by
  unfold t_is
  by_cases e : l = n.length
  · rw [if_pos e, if_pos e]
    exact t_eq_c h n f (by omega)
  · rw [if_neg e, if_neg e]
theorem t_ln_c {b b' : Nat → Int32} {s f l : Nat} (h : ∀ j, j < s → b j = b' j) (hf : f + l ≤ s) : t_ln b f l = t_ln b' f l := by
  unfold t_ln
  simp only [fun n => t_is_c (n := n) h hf]
/-- the fault of a token that is not of kind k; of a number out of lo .. hi -/
def t_et (b : Nat → Int32) (s p : Nat) (k : Int32) : Int32 := if t_ki b s p = k then 0 else if t_ki b s p = 0 then 1 else 2
def t_er (b : Nat → Int32) (s p : Nat) (lo hi : Int32) : Int32 := if t_ki b s p = 2 then (if t_va b s p < lo then 3 else if hi < t_va b s p then 3 else 0) else if t_ki b s p = 0 then 1 else 2
theorem t_er_et {b : Nat → Int32} {s p : Nat} {lo hi : Int32} (h : ¬ t_et b s p 2 = 0) : t_er b s p lo hi = t_et b s p 2 := by
  unfold t_er t_et at *
  by_cases e : t_ki b s p = 2
  · rw [if_pos e] at h
    exact absurd rfl h
  · rw [if_neg e, if_neg e]
theorem t_et_0 {b : Nat → Int32} {s p : Nat} {k : Int32} : t_et b s p k = 0 ↔ t_ki b s p = k := by
  unfold t_et
  by_cases e : t_ki b s p = k
  · rw [if_pos e]
    exact ⟨fun _ => e, fun _ => rfl⟩
  · rw [if_neg e]
    refine ⟨fun z => ?_, fun z => absurd z e⟩
    split at z <;> exact absurd z (by decide)
/-- the place is on the tape -/
def k_pl (g : qM) : Prop := ∃ s p, g 9 1 = Int32.ofNat s ∧ s ≤ 160 ∧ g 9 5 = Int32.ofNat p ∧ p ≤ s
theorem k_pl.up {g : qM} (h : k_pl g) {a j : Nat} {x : Int32} (ha : 11 ≤ a) : k_pl (q_up g a j x) := by
  obtain ⟨s, p, h1, h2, h3, h4⟩ := h
  exact ⟨s, p, by rw [q_up_ne (by omega)]; exact h1, h2, by rw [q_up_ne (by omega)]; exact h3, h4⟩
/-- what taking tokens writes: the token, the fault -/
def k_f9 (g g' : qM) : Prop := (∀ a, a ≠ 9 → a ≠ 11 → g' a = g a) ∧ (∀ j, j < 2 → g' 9 j = g 9 j) ∧ (∀ j, j ≠ 2 → j ≠ 3 → g' 11 j = g 11 j) ∧ (k_pl g → k_pl g')
theorem k_f9_rfl (g : qM) : k_f9 g g := ⟨fun _ _ _ => rfl, fun _ _ => rfl, fun _ _ _ => rfl, id⟩
theorem k_f9.trans {a b c : qM} (h1 : k_f9 a b) (h2 : k_f9 b c) : k_f9 a c := ⟨fun x h h' => (h2.1 x h h').trans (h1.1 x h h'), fun x h => (h2.2.1 x h).trans (h1.2.1 x h), fun x h h' => (h2.2.2.1 x h h').trans (h1.2.2.1 x h h'), fun z => h2.2.2.2 (h1.2.2.2 z)⟩
theorem k_f9_9 (k f v p : Int32) (g : qM) (hp : k_pl g → k_pl (s_9 k f v p g)) : k_f9 g (s_9 k f v p g) := by
  refine ⟨fun a h _ => s_9_o h, fun j h => ?_, fun j _ _ => ?_, hp⟩
  · unfold s_9
    rw [if_pos rfl, if_neg (by omega), if_neg (by omega), if_neg (by omega), if_neg (by omega)]
  · rw [s_9_o (by decide)]
theorem k_f9.up {g g' : qM} (h : k_f9 g g') {j : Nat} {x : Int32} (hj : j = 2 ∨ j = 3) : k_f9 g (q_up g' 11 j x) := by
  refine ⟨fun a h1 h2 => ?_, fun i hi => ?_, fun i h2 h3 => ?_, fun z => (h.2.2.2 z).up (by omega)⟩
  · rw [q_up_ne h2]
    exact h.1 a h1 h2
  · rw [q_up_ne (by decide)]
    exact h.2.1 i hi
  · rw [q_up_eq, if_neg (by omega)]
    exact h.2.2.1 i h2 h3
theorem sg_nb_1 (big : Nat → List Value → qM → qW → qR) (n0 : Nat) (G : qM) (U : qW) (v0 : Int32) : qm_run pm_m big m_25 (n0 + 2) 0 [(0, .ref 11), (1, .int v0)] [] G U = qm_run pm_m big m_25 n0 4 [(0, .ref 11), (1, .int v0)] [.int (G 11 2)] G U := rfl
theorem sg_nb_2 (big : Nat → List Value → qM → qW → qR) (n0 : Nat) (G : qM) (U : qW) (v0 : Int32) : qm_run pm_m big m_25 (n0 + 2) 9 [(0, .ref 11), (1, .int v0)] [] G U = qm_run pm_m big m_25 n0 13 [(0, .ref 11), (1, .int v0)] [.ref 9] G U := rfl
theorem sg_nb_3 (big : Nat → List Value → qM → qW → qR) (n0 : Nat) (G : qM) (U : qW) (v0 : Int32) : qm_run pm_m big m_25 (n0 + 4) 16 [(0, .ref 11), (1, .int v0)] [] G U = qm_run pm_m big m_25 n0 24 [(0, .ref 11), (1, .int v0)] [.int v0, .int (G 9 2)] G U := rfl
theorem sg_nb_4 (big : Nat → List Value → qM → qW → qR) (n0 : Nat) (G : qM) (U : qW) (v0 : Int32) : qm_run pm_m big m_25 (n0 + 4) 29 [(0, .ref 11), (1, .int v0)] [] G U = qm_run pm_m big m_25 n0 37 [(0, .ref 11), (1, .int v0)] [.int (G 9 2), .ref 11] G U := rfl
theorem sg_nb_5 (big : Nat → List Value → qM → qW → qR) (n0 : Nat) (G : qM) (U : qW) (v0 : Int32) : qm_run pm_m big m_25 (n0 + 5) 40 [(0, .ref 11), (1, .int v0)] [.ref 11] G U = qm_run pm_m big m_25 n0 52 [(0, .ref 11), (1, .int v0)] [.int (G 9 3), .int (1 : Int32), .ref 11] G U := rfl
theorem sg_nb_6 (big : Nat → List Value → qM → qW → qR) (n0 : Nat) (G : qM) (U : qW) (v0 : Int32) : qm_run pm_m big m_25 (n0 + 4) 44 [(0, .ref 11), (1, .int v0)] [.ref 11] G U = qm_run pm_m big m_25 n0 52 [(0, .ref 11), (1, .int v0)] [.int (G 9 3), .int (2 : Int32), .ref 11] G U := rfl
theorem sg_nb_7 (big : Nat → List Value → qM → qW → qR) (n0 : Nat) (G : qM) (U : qW) (v0 : Int32) (v1 : Int32) : qm_run pm_m big m_24 (n0 + 2) 0 [(0, .ref 11), (1, .int v0), (2, .int v1)] [] G U = qm_run pm_m big m_24 n0 2 [(0, .ref 11), (1, .int v0), (2, .int v1)] [.int (2 : Int32), .ref 11] G U := rfl
theorem sg_nb_8 (big : Nat → List Value → qM → qW → qR) (n0 : Nat) (G : qM) (U : qW) (v0 : Int32) (v1 : Int32) : qm_run pm_m big m_24 (n0 + 4) 10 [(0, .ref 11), (1, .int v0), (2, .int v1)] [] G U = qm_run pm_m big m_24 n0 18 [(0, .ref 11), (1, .int v0), (2, .int v1)] [.int v0, .int (G 9 4)] G U := rfl
theorem sg_nb_9 (big : Nat → List Value → qM → qW → qR) (n0 : Nat) (G : qM) (U : qW) (v0 : Int32) (v1 : Int32) : qm_run pm_m big m_24 (n0 + 5) 32 [(0, .ref 11), (1, .int v0), (2, .int v1)] [] G U = qm_run pm_m big m_24 n0 41 [(0, .ref 11), (1, .int v0), (2, .int v1)] [.int (G 9 3), .int (3 : Int32), .ref 11] G U := rfl
theorem sg_nb_10 (big : Nat → List Value → qM → qW → qR) (n0 : Nat) (G : qM) (U : qW) (v0 : Int32) (v1 : Int32) : qm_run pm_m big m_24 (n0 + 4) 21 [(0, .ref 11), (1, .int v0), (2, .int v1)] [] G U = qm_run pm_m big m_24 n0 29 [(0, .ref 11), (1, .int v0), (2, .int v1)] [.int v1, .int (G 9 4)] G U := rfl
theorem b_refuse (w a : Int32) (g : qM) (u : qW) : q_BS 20 [.ref 11, .int w, .int a] g u (none, q_up (q_up g 11 2 w) 11 3 a, u) := by
  refine q_bx (mm := m_20) rfl (Nat.le_of_ble_eq_true rfl) rfl ?_
  refine q_ret 7 (none, (q_up (q_up g 11 2 w) 11 3 a), u) (fun _ _ => rfl) ?_
  rfl
theorem c_tok {s p : Nat} (g : qM) (u : qW) (hs : g 9 1 = Int32.ofNat s) (h160 : s ≤ 160) (hp5 : g 9 5 = Int32.ofNat p) (hp : p ≤ s) (h2 : g 11 2 = 0) (k : Int32) : ∃ R, q_BS 25 [.ref 11, .int k] g u R ∧ ∃ g', R = (some (.int (if (t_et (g 10) s p k) = 0 then 1 else 0)), g', u) ∧ k_f9 g g' ∧ g' 9 2 = (t_ki (g 10) s p) ∧ g' 9 3 = Int32.ofNat (t_fi (g 10) s p) ∧ g' 9 5 = Int32.ofNat (t_pl (g 10) s p) ∧ ((t_ki (g 10) s p) = 2 → g' 9 4 = t_va (g 10) s p) ∧ g' 11 2 = (t_et (g 10) s p k) ∧ (¬ (t_et (g 10) s p k) = 0 → g' 11 3 = Int32.ofNat (t_fi (g 10) s p)) := by
  refine q_bs (mm := m_25) rfl (Nat.le_of_ble_eq_true rfl) rfl ?_
  refine q_step 2 4 [(0, .ref 11), (1, .int k)] [.int (g 11 2)] g u (fun big n0 => sg_nb_1 big n0 g u k) ?_
  refine q_if_eq rfl (fun (hc0 : (g 11 2) = 0) => ?_) (fun hc0 => absurd (show (g 11 2) = 0 from h2) hc0)
  refine q_step 2 13 [(0, .ref 11), (1, .int k)] [.ref 9] g u (fun big n0 => sg_nb_2 big n0 g u k) ?_
  obtain ⟨_, hq, k1, v1, rfl, hk, hv⟩ := c_next g u hs h160 hp5 hp
  refine q_call (M2 := 16) (rest := []) (hq) (fun _ _ => rfl) ?_
  refine q_step 4 24 [(0, .ref 11), (1, .int k)] [.int k, .int k1] (s_9 k1 (Int32.ofNat (t_fi (g 10) s p)) v1 (Int32.ofNat (t_pl (g 10) s p)) g) u (fun big n0 => sg_nb_3 big n0 (s_9 k1 (Int32.ofNat (t_fi (g 10) s p)) v1 (Int32.ofNat (t_pl (g 10) s p)) g) u k) ?_
  refine q_ic_ne rfl (fun (hc1 : k1 = k) => ?_) (fun (hc1 : ¬ (k1 = k)) => ?_)
  · refine q_ret 2 (some (.int (1 : Int32)), (s_9 k1 (Int32.ofNat (t_fi (g 10) s p)) v1 (Int32.ofNat (t_pl (g 10) s p)) g), u) (fun _ _ => rfl) ?_
    have e0 : (t_et (g 10) s p k) = 0 := t_et_0.mpr (hk.symm.trans hc1)
    rw [if_pos e0]
    exact ⟨_, rfl, k_f9_9 _ _ _ _ g (fun _ => ⟨s, t_pl (g 10) s p, hs, h160, rfl, (t_pl_b hp).2.1⟩), hk, rfl, rfl, hv, h2.trans e0.symm, fun z => absurd e0 z⟩
  · refine q_step 4 37 [(0, .ref 11), (1, .int k)] [.int k1, .ref 11] (s_9 k1 (Int32.ofNat (t_fi (g 10) s p)) v1 (Int32.ofNat (t_pl (g 10) s p)) g) u (fun big n0 => sg_nb_4 big n0 (s_9 k1 (Int32.ofNat (t_fi (g 10) s p)) v1 (Int32.ofNat (t_pl (g 10) s p)) g) u k) ?_
    refine q_if_ne rfl (fun (hc2 : k1 = 0) => ?_) (fun (hc2 : ¬ (k1 = 0)) => ?_)
    · refine q_step 5 52 [(0, .ref 11), (1, .int k)] [.int (Int32.ofNat (t_fi (g 10) s p)), .int (1 : Int32), .ref 11] (s_9 k1 (Int32.ofNat (t_fi (g 10) s p)) v1 (Int32.ofNat (t_pl (g 10) s p)) g) u (fun big n0 => sg_nb_5 big n0 (s_9 k1 (Int32.ofNat (t_fi (g 10) s p)) v1 (Int32.ofNat (t_pl (g 10) s p)) g) u k) ?_
      refine q_call (M2 := 20) (rest := []) (b_refuse _ _ _ _) (fun _ _ => rfl) ?_
      refine q_ret 2 (some (.int (0 : Int32)), (q_up (q_up (s_9 k1 (Int32.ofNat (t_fi (g 10) s p)) v1 (Int32.ofNat (t_pl (g 10) s p)) g) 11 2 (1 : Int32)) 11 3 (Int32.ofNat (t_fi (g 10) s p))), u) (fun _ _ => rfl) ?_
      have e0 : ¬ (t_et (g 10) s p k) = 0 := fun z => hc1 (hk.trans (t_et_0.mp z))
      have e1 : (t_et (g 10) s p k) = 1 := by unfold t_et; rw [if_neg (fun z => hc1 (hk.trans z)), if_pos (hk ▸ hc2)]
      rw [if_neg e0]
      exact ⟨_, rfl, ((k_f9_9 _ _ _ _ g (fun _ => ⟨s, t_pl (g 10) s p, hs, h160, rfl, (t_pl_b hp).2.1⟩)).up (Or.inl rfl)).up (Or.inr rfl), hk, rfl, rfl, hv, e1.symm, fun _ => rfl⟩
    · refine q_step 4 52 [(0, .ref 11), (1, .int k)] [.int (Int32.ofNat (t_fi (g 10) s p)), .int (2 : Int32), .ref 11] (s_9 k1 (Int32.ofNat (t_fi (g 10) s p)) v1 (Int32.ofNat (t_pl (g 10) s p)) g) u (fun big n0 => sg_nb_6 big n0 (s_9 k1 (Int32.ofNat (t_fi (g 10) s p)) v1 (Int32.ofNat (t_pl (g 10) s p)) g) u k) ?_
      refine q_call (M2 := 20) (rest := []) (b_refuse _ _ _ _) (fun _ _ => rfl) ?_
      refine q_ret 2 (some (.int (0 : Int32)), (q_up (q_up (s_9 k1 (Int32.ofNat (t_fi (g 10) s p)) v1 (Int32.ofNat (t_pl (g 10) s p)) g) 11 2 (2 : Int32)) 11 3 (Int32.ofNat (t_fi (g 10) s p))), u) (fun _ _ => rfl) ?_
      have e0 : ¬ (t_et (g 10) s p k) = 0 := fun z => hc1 (hk.trans (t_et_0.mp z))
      have e1 : (t_et (g 10) s p k) = 2 := by unfold t_et; rw [if_neg (fun z => hc1 (hk.trans z)), if_neg (hk ▸ hc2)]
      rw [if_neg e0]
      exact ⟨_, rfl, ((k_f9_9 _ _ _ _ g (fun _ => ⟨s, t_pl (g 10) s p, hs, h160, rfl, (t_pl_b hp).2.1⟩)).up (Or.inl rfl)).up (Or.inr rfl), hk, rfl, rfl, hv, e1.symm, fun _ => rfl⟩
theorem c_tokf (k : Int32) (g : qM) (u : qW) (h2 : ¬ g 11 2 = 0) : q_BS 25 [.ref 11, .int k] g u (some (.int 0), g, u) := by
  refine q_bx (mm := m_25) rfl (Nat.le_of_ble_eq_true rfl) rfl ?_
  refine q_step 2 4 [(0, .ref 11), (1, .int k)] [.int (g 11 2)] g u (fun big n0 => sg_nb_1 big n0 g u k) ?_
  refine q_if_eq rfl (fun hc0 => absurd (show (g 11 2) = 0 from hc0) (h2)) (fun (hc0 : ¬ ((g 11 2) = 0)) => ?_)
  refine q_ret 2 (some (.int (0 : Int32)), g, u) (fun _ _ => rfl) ?_
  rfl
theorem c_num {s p : Nat} (g : qM) (u : qW) (hs : g 9 1 = Int32.ofNat s) (h160 : s ≤ 160) (hp5 : g 9 5 = Int32.ofNat p) (hp : p ≤ s) (h2 : g 11 2 = 0) (lo hi : Int32) : ∃ R, q_BS 24 [.ref 11, .int lo, .int hi] g u R ∧ ∃ g', R = (some (.int (if (t_er (g 10) s p lo hi) = 0 then t_va (g 10) s p else 0)), g', u) ∧ k_f9 g g' ∧ g' 9 3 = Int32.ofNat (t_fi (g 10) s p) ∧ g' 9 5 = Int32.ofNat (t_pl (g 10) s p) ∧ g' 11 2 = (t_er (g 10) s p lo hi) ∧ (¬ (t_er (g 10) s p lo hi) = 0 → g' 11 3 = Int32.ofNat (t_fi (g 10) s p)) := by
  refine q_bs (mm := m_24) rfl (Nat.le_of_ble_eq_true rfl) rfl ?_
  refine q_step 2 2 [(0, .ref 11), (1, .int lo), (2, .int hi)] [.int (2 : Int32), .ref 11] g u (fun big n0 => sg_nb_7 big n0 g u lo hi) ?_
  obtain ⟨_, hq, g1, rfl, hf9, h92, h93, h95, h94, h112, h113⟩ := c_tok g u hs h160 hp5 hp h2 2
  refine q_call (M2 := 25) (rest := []) (hq) (fun _ _ => rfl) ?_
  refine q_if_ne rfl (fun (hc0 : (if t_et (g 10) s p 2 = 0 then 1 else 0) = 0) => ?_) (fun (hc0 : ¬ ((if t_et (g 10) s p 2 = 0 then 1 else 0) = 0)) => ?_)
  · refine q_ret 2 (some (.int (0 : Int32)), g1, u) (fun _ _ => rfl) ?_
    have e : ¬ t_et (g 10) s p 2 = 0 := fun z => absurd ((if_pos z).symm.trans hc0) (by decide)
    rw [t_er_et e, if_neg e]
    exact ⟨_, rfl, hf9, h93, h95, h112, h113⟩
  · refine q_step 4 18 [(0, .ref 11), (1, .int lo), (2, .int hi)] [.int lo, .int (g1 9 4)] g1 u (fun big n0 => sg_nb_8 big n0 g1 u lo hi) ?_
    refine q_ic_lt rfl (fun (hc1 : (g1 9 4) < lo) => ?_) (fun (hc1 : ¬ ((g1 9 4) < lo)) => ?_)
    · refine q_step 5 41 [(0, .ref 11), (1, .int lo), (2, .int hi)] [.int (g1 9 3), .int (3 : Int32), .ref 11] g1 u (fun big n0 => sg_nb_9 big n0 g1 u lo hi) ?_
      refine q_call (M2 := 20) (rest := []) (b_refuse _ _ _ _) (fun _ _ => rfl) ?_
      refine q_ret 2 (some (.int (0 : Int32)), (q_up (q_up g1 11 2 (3 : Int32)) 11 3 (g1 9 3)), u) (fun _ _ => rfl) ?_
      have e : t_et (g 10) s p 2 = 0 := Classical.byContradiction (fun z => hc0 (if_neg z))
      have ek := t_et_0.mp e
      have e4 := h94 ek
      have er : (t_er (g 10) s p lo hi) = 3 := by unfold t_er; rw [if_pos ek, if_pos (e4 ▸ hc1)]
      rw [er, if_neg (by decide)]
      exact ⟨_, rfl, (hf9.up (Or.inl rfl)).up (Or.inr rfl), h93, h95, rfl, fun _ => h93⟩
    · refine q_step 4 29 [(0, .ref 11), (1, .int lo), (2, .int hi)] [.int hi, .int (g1 9 4)] g1 u (fun big n0 => sg_nb_10 big n0 g1 u lo hi) ?_
      refine q_ic_le rfl (fun (hc2 : (g1 9 4) ≤ hi) => ?_) (fun (hc2 : ¬ ((g1 9 4) ≤ hi)) => ?_)
      · refine q_ret 4 (some (.int (g1 9 4)), g1, u) (fun _ _ => rfl) ?_
        have e : t_et (g 10) s p 2 = 0 := Classical.byContradiction (fun z => hc0 (if_neg z))
        have ek := t_et_0.mp e
        have e4 := h94 ek
        have er : (t_er (g 10) s p lo hi) = 0 := by
          unfold t_er
          rw [if_pos ek, if_neg (e4 ▸ hc1), if_neg (fun z => absurd (e4 ▸ hc2) (Int32.not_le.mpr z))]
        rw [er, if_pos rfl, e4]
        exact ⟨_, rfl, hf9, h93, h95, h112.trans e, fun z => absurd rfl z⟩
      · refine q_step 5 41 [(0, .ref 11), (1, .int lo), (2, .int hi)] [.int (g1 9 3), .int (3 : Int32), .ref 11] g1 u (fun big n0 => sg_nb_9 big n0 g1 u lo hi) ?_
        refine q_call (M2 := 20) (rest := []) (b_refuse _ _ _ _) (fun _ _ => rfl) ?_
        refine q_ret 2 (some (.int (0 : Int32)), (q_up (q_up g1 11 2 (3 : Int32)) 11 3 (g1 9 3)), u) (fun _ _ => rfl) ?_
        have e : t_et (g 10) s p 2 = 0 := Classical.byContradiction (fun z => hc0 (if_neg z))
        have ek := t_et_0.mp e
        have e4 := h94 ek
        have er : (t_er (g 10) s p lo hi) = 3 := by
          unfold t_er
          rw [if_pos ek, if_neg (e4 ▸ hc1), if_pos (Int32.not_le.mp (e4 ▸ hc2))]
        rw [er, if_neg (by decide)]
        exact ⟨_, rfl, (hf9.up (Or.inl rfl)).up (Or.inr rfl), h93, h95, rfl, fun _ => h93⟩
theorem c_numf (lo hi : Int32) (g : qM) (u : qW) (h2 : ¬ g 11 2 = 0) : q_BS 24 [.ref 11, .int lo, .int hi] g u (some (.int 0), g, u) := by
  refine q_bx (mm := m_24) rfl (Nat.le_of_ble_eq_true rfl) rfl ?_
  refine q_step 2 2 [(0, .ref 11), (1, .int lo), (2, .int hi)] [.int (2 : Int32), .ref 11] g u (fun big n0 => sg_nb_7 big n0 g u lo hi) ?_
  refine q_call (M2 := 25) (rest := []) (c_tokf _ _ _ h2) (fun _ _ => rfl) ?_
  refine q_ret 3 (some (.int (0 : Int32)), g, u) (fun _ _ => rfl) ?_
  rfl
end
section
/-! NUMBERS of the text, the reference. -/
def k_f70 (h h' : qM) : Prop := (∀ a, a ≠ 70 → h' a = h a) ∧ (∀ j, j < 14 ∨ 19 < j → h' 70 j = h 70 j)
theorem k_f70_rfl (h : qM) : k_f70 h h := ⟨fun _ _ => rfl, fun _ _ => rfl⟩
theorem k_f70.trans {a b c : qM} (h1 : k_f70 a b) (h2 : k_f70 b c) : k_f70 a c := ⟨fun x h => (h2.1 x h).trans (h1.1 x h), fun x h => (h2.2 x h).trans (h1.2 x h)⟩
theorem k_f70.up {g g' : qM} (h : k_f70 g g') {j : Nat} {x : Int32} (hj : 14 ≤ j ∧ j ≤ 19) : k_f70 g (q_up g' 70 j x) := by
  refine ⟨fun a h1 => ?_, fun i hi => ?_⟩
  · rw [q_up_ne h1]
    exact h.1 a h1
  · rw [q_up_eq, if_neg (by omega)]
    exact h.2 i hi
theorem k_f70_70 (p f k v e a : Int32) (g : qM) : k_f70 g (s_70 p f k v e a g) := by
  refine ⟨fun b h => s_70_o h, fun j h => ?_⟩
  unfold s_70
  rw [if_pos rfl, if_neg (by omega), if_neg (by omega), if_neg (by omega), if_neg (by omega), if_neg (by omega), if_neg (by omega)]
/-- the bytes -/
def k_b (b : Nat → Int32) (s : Nat) (h : qM) : Prop := h 70 13 = Int32.ofNat s ∧ s ≤ 160 ∧ ∀ j, j < s → h 74 j = b j ∧ 0 ≤ (b j).toInt
theorem k_b.fr {b : Nat → Int32} {s : Nat} {h h' : qM} (hb : k_b b s h) (hf : k_f70 h h') : k_b b s h' := ⟨(hf.2 13 (by omega)).trans hb.1, hb.2.1, fun j hj => by rw [hf.1 74 (by decide)]; exact hb.2.2 j hj⟩
/-- the token from p on is looked at -/
def k_la (b : Nat → Int32) (s p : Nat) (h : qM) : Prop := (t_ki b s p = 0 ∧ h 70 18 = 1 ∧ h 70 19 = Int32.ofNat (t_fi b s p)) ∨ (¬ t_ki b s p = 0 ∧ h 70 18 = 0 ∧ h 70 14 = Int32.ofNat (t_pl b s p) ∧ h 70 15 = Int32.ofNat (t_fi b s p) ∧ h 70 16 = (if t_ki b s p = 4 then 0 else t_ki b s p) ∧ (t_ki b s p = 2 → h 70 17 = t_va b s p))
theorem r_nextb {b : Nat → Int32} {s p : Nat} (h : qM) (u : qW) (hb : k_b b s h) (hp14 : h 70 14 = Int32.ofNat p) (hp : p ≤ s) (hf : h 70 18 = 0) : ∃ h', q_BS 152 [.ref 70] h u (none, h', u) ∧ k_f70 h h' ∧ k_la b s p h' := by
  have hc : ∀ j, j < s → h 74 j = b j := fun j hj => (hb.2.2 j hj).1
  obtain ⟨_, hq, k, v, e, a, rfl, hh⟩ := r_next h u hb.1 hb.2.1 hp14 hp hf (fun j hj => by rw [hc j hj]; exact (hb.2.2 j hj).2)
  refine ⟨_, hq, k_f70_70 _ _ _ _ _ _ h, ?_⟩
  rw [t_ki_c hc hp, t_fi_c hc hp, t_va_c hc hp] at hh
  unfold k_la
  rw [t_pl_c hc hp, t_fi_c hc hp]
  rcases hh with hh | hh
  · exact Or.inl ⟨hh.1, hh.2.1, hh.2.2⟩
  · exact Or.inr ⟨hh.1, hh.2.1, rfl, rfl, hh.2.2.1, hh.2.2.2⟩
theorem t_er_pos {b : Nat → Int32} {s p : Nat} {lo hi : Int32} (h : ¬ t_er b s p lo hi = 0) : 0 < t_er b s p lo hi := by
  revert h
  unfold t_er
  repeat' split
  all_goals first
    | exact fun z => absurd rfl z
    | exact fun _ => by decide
theorem s_in_32 {x lo hi : Int32} : ¬ s_in x.toInt64 lo.toInt64 hi.toInt64 = 0 ↔ ¬ x < lo ∧ ¬ hi < x := by
  rw [s_in_iff, Int32.toInt_toInt64, Int32.toInt_toInt64, Int32.toInt_toInt64, Int32.lt_iff_toInt_lt, Int32.lt_iff_toInt_lt]
  omega
theorem sg_rn_1 (big : Nat → List Value → qM → qW → qR) (n0 : Nat) (G : qM) (U : qW) (v0 : Int32) (v1 : Int32) : qm_run pm_m big m_161 (n0 + 2) 0 [(0, .ref 70), (1, .int v0), (2, .int v1)] [] G U = qm_run pm_m big m_161 n0 4 [(0, .ref 70), (1, .int v0), (2, .int v1)] [.int (G 70 18)] G U := rfl
theorem sg_rn_2 (big : Nat → List Value → qM → qW → qR) (n0 : Nat) (G : qM) (U : qW) (v0 : Int32) (v1 : Int32) : qm_run pm_m big m_161 (n0 + 2) 25 [(0, .ref 70), (1, .int v0), (2, .int v1)] [] G U = qm_run pm_m big m_161 n0 29 [(0, .ref 70), (1, .int v0), (2, .int v1)] [.int (G 70 18)] G U := rfl
theorem sg_rn_3 (big : Nat → List Value → qM → qW → qR) (n0 : Nat) (G : qM) (U : qW) (v0 : Int32) (v1 : Int32) : qm_run pm_m big m_161 (n0 + 2) 49 [(0, .ref 70), (1, .int v0), (2, .int v1)] [] G U = qm_run pm_m big m_161 n0 53 [(0, .ref 70), (1, .int v0), (2, .int v1)] [.int (G 70 18)] G U := rfl
theorem sg_rn_4 (big : Nat → List Value → qM → qW → qR) (n0 : Nat) (G : qM) (U : qW) (v0 : Int32) (v1 : Int32) : qm_run pm_m big m_161 (n0 + 4) 7 [(0, .ref 70), (1, .int v0), (2, .int v1)] [] G U = qm_run pm_m big m_161 n0 13 [(0, .ref 70), (1, .int v0), (2, .int v1)] [.int (2 : Int32), .int (G 70 16), .ref 70] G U := rfl
theorem sg_rn_5 (big : Nat → List Value → qM → qW → qR) (n0 : Nat) (G : qM) (U : qW) (v0 : Int32) (v1 : Int32) : qm_run pm_m big m_161 (n0 + 3) 16 [(0, .ref 70), (1, .int v0), (2, .int v1)] [.ref 70] G U = qm_run pm_m big m_161 n0 22 [(0, .ref 70), (1, .int v0), (2, .int v1)] [.int (2 : Int32), .int (1 : Int32), .ref 70] G U := rfl
theorem sg_rn_6 (big : Nat → List Value → qM → qW → qR) (n0 : Nat) (G : qM) (U : qW) (v0 : Int32) (v1 : Int32) : qm_run pm_m big m_161 (n0 + 8) 32 [(0, .ref 70), (1, .int v0), (2, .int v1)] [] G U = qm_run pm_m big m_161 n0 42 [(0, .ref 70), (1, .int v0), (2, .int v1)] [.long (Int32.toInt64 v1), .long (Int32.toInt64 v0), .long (Int32.toInt64 (G 70 17)), .ref 70] G U := rfl
theorem sg_rn_7 (big : Nat → List Value → qM → qW → qR) (n0 : Nat) (G : qM) (U : qW) (v0 : Int32) (v1 : Int32) (v2 : Int32) : qm_run pm_m big m_161 (n0 + 1) 45 [(0, .ref 70), (1, .int v0), (2, .int v1)] [.int v2, .ref 70] G U = qm_run pm_m big m_161 n0 46 [(0, .ref 70), (1, .int v0), (2, .int v1)] [.int (3 : Int32), .int v2, .ref 70] G U := rfl
theorem sg_rn_8 (big : Nat → List Value → qM → qW → qR) (n0 : Nat) (G : qM) (U : qW) (v0 : Int32) (v1 : Int32) : qm_run pm_m big m_161 (n0 + 2) 20 [(0, .ref 70), (1, .int v0), (2, .int v1)] [.ref 70] G U = qm_run pm_m big m_161 n0 22 [(0, .ref 70), (1, .int v0), (2, .int v1)] [.int (2 : Int32), .int (0 : Int32), .ref 70] G U := rfl
theorem sg_rn_9 (big : Nat → List Value → qM → qW → qR) (n0 : Nat) (G : qM) (U : qW) (v0 : Int32) (v1 : Int32) : qm_run pm_m big m_160 (n0 + 3) 0 [(0, .ref 70), (1, .int v0), (2, .int v1)] [] G U = qm_run pm_m big m_160 n0 3 [(0, .ref 70), (1, .int v0), (2, .int v1)] [.int v1, .int v0, .ref 70] G U := rfl
theorem sg_rn_10 (big : Nat → List Value → qM → qW → qR) (n0 : Nat) (G : qM) (U : qW) (v0 : Int32) (v1 : Int32) (v2 : Int32) : qm_run pm_m big m_160 (n0 + 2) 6 [(0, .ref 70), (1, .int v0), (2, .int v1)] [.int v2] G U = qm_run pm_m big m_160 n0 8 [(0, .ref 70), (1, .int v0), (2, .int v1), (3, .int v2)] [.ref 70] G U := rfl
theorem sg_rn_11 (big : Nat → List Value → qM → qW → qR) (n0 : Nat) (G : qM) (U : qW) (v0 : Int32) (v1 : Int32) : qm_run pm_m big m_160 (n0 + 2) 6 [(0, .ref 70), (1, .int v0), (2, .int v1)] [.int (0 : Int32)] G U = qm_run pm_m big m_160 n0 8 [(0, .ref 70), (1, .int v0), (2, .int v1), (3, .int (0 : Int32))] [.ref 70] G U := rfl
theorem r_lookedf (lo hi : Int32) (g : qM) (u : qW) (hf : ¬ g 70 18 = 0) : q_BS 161 [.ref 70, .int lo, .int hi] g u (some (.int 0), g, u) := by
  refine q_bx (mm := m_161) rfl (Nat.le_of_ble_eq_true rfl) rfl ?_
  refine q_step 2 4 [(0, .ref 70), (1, .int lo), (2, .int hi)] [.int (g 70 18)] g u (fun big n0 => sg_rn_1 big n0 g u lo hi) ?_
  refine q_if_ne rfl (fun hc0 => absurd (show (g 70 18) = 0 from hc0) (hf)) (fun (hc0 : ¬ ((g 70 18) = 0)) => ?_)
  refine q_step 2 29 [(0, .ref 70), (1, .int lo), (2, .int hi)] [.int (g 70 18)] g u (fun big n0 => sg_rn_2 big n0 g u lo hi) ?_
  refine q_if_ne rfl (fun hc1 => absurd (show (g 70 18) = 0 from hc1) (hf)) (fun (hc1 : ¬ ((g 70 18) = 0)) => ?_)
  refine q_step 2 53 [(0, .ref 70), (1, .int lo), (2, .int hi)] [.int (g 70 18)] g u (fun big n0 => sg_rn_3 big n0 g u lo hi) ?_
  refine q_if_ne rfl (fun hc2 => absurd (show (g 70 18) = 0 from hc2) (hf)) (fun (hc2 : ¬ ((g 70 18) = 0)) => ?_)
  refine q_ret 2 (some (.int (0 : Int32)), g, u) (fun _ _ => rfl) ?_
  rfl
theorem r_looked {b : Nat → Int32} {s p : Nat} (g : qM) (u : qW) (hb : k_b b s g) (hp : p ≤ s) (hl : k_la b s p g) (lo hi : Int32) : ∃ R, q_BS 161 [.ref 70, .int lo, .int hi] g u R ∧ ∃ g', R = (some (.int (if (t_er b s p lo hi) = 0 then (t_va b s p) else 0)), g', u) ∧ k_f70 g g' ∧ ((t_er b s p lo hi) = 0 → g' = g) ∧ (¬ (t_er b s p lo hi) = 0 → g' 70 18 = (t_er b s p lo hi) ∧ g' 70 19 = Int32.ofNat (t_fi b s p)) := by
  rcases hl with ⟨k0, h18, h19⟩ | ⟨k0, h18, h14, h15, h16, h17⟩
  · have er : (t_er b s p lo hi) = 1 := by unfold t_er; rw [if_neg (by rw [k0]; decide), if_pos k0]
    refine ⟨_, r_lookedf lo hi g u (by rw [h18]; decide), g, ?_, k_f70_rfl g, fun _ => rfl, fun _ => ⟨h18.trans er.symm, h19⟩⟩
    rw [er, if_neg (by decide)]
  refine q_bs (mm := m_161) rfl (Nat.le_of_ble_eq_true rfl) rfl ?_
  refine q_step 2 4 [(0, .ref 70), (1, .int lo), (2, .int hi)] [.int (g 70 18)] g u (fun big n0 => sg_rn_1 big n0 g u lo hi) ?_
  refine q_if_ne rfl (fun (hc0 : (g 70 18) = 0) => ?_) (fun hc0 => absurd (show (g 70 18) = 0 from h18) hc0)
  refine q_step 4 13 [(0, .ref 70), (1, .int lo), (2, .int hi)] [.int (2 : Int32), .int (g 70 16), .ref 70] g u (fun big n0 => sg_rn_4 big n0 g u lo hi) ?_
  refine q_ic_ne rfl (fun (hc1 : (g 70 16) = (2 : Int32)) => ?_) (fun (hc1 : ¬ ((g 70 16) = (2 : Int32))) => ?_)
  · refine q_step 3 22 [(0, .ref 70), (1, .int lo), (2, .int hi)] [.int (2 : Int32), .int (1 : Int32), .ref 70] g u (fun big n0 => sg_rn_5 big n0 g u lo hi) ?_
    refine q_call (M2 := 154) (rest := []) (b_needs1 _ _ _) (fun _ _ => rfl) ?_
    refine q_step 2 29 [(0, .ref 70), (1, .int lo), (2, .int hi)] [.int (g 70 18)] g u (fun big n0 => sg_rn_2 big n0 g u lo hi) ?_
    refine q_if_ne rfl (fun (hc2 : (g 70 18) = 0) => ?_) (fun hc2 => absurd (show (g 70 18) = 0 from h18) hc2)
    refine q_step 8 42 [(0, .ref 70), (1, .int lo), (2, .int hi)] [.long (Int32.toInt64 hi), .long (Int32.toInt64 lo), .long (Int32.toInt64 (g 70 17)), .ref 70] g u (fun big n0 => sg_rn_6 big n0 g u lo hi) ?_
    refine q_call (M2 := 149) (rest := [.ref 70]) (b_in _ _ _ _ _) (fun _ _ => rfl) ?_
    refine q_step 1 46 [(0, .ref 70), (1, .int lo), (2, .int hi)] [.int (3 : Int32), .int (s_in (Int32.toInt64 (g 70 17)) (Int32.toInt64 lo) (Int32.toInt64 hi)), .ref 70] g u (fun big n0 => sg_rn_7 big n0 g u lo hi (s_in (Int32.toInt64 (g 70 17)) (Int32.toInt64 lo) (Int32.toInt64 hi))) ?_
    by_cases hc3 : (s_in (Int32.toInt64 (g 70 17)) (Int32.toInt64 lo) (Int32.toInt64 hi)) = 0
    · refine q_call (M2 := 154) (rest := []) (by rw [hc3]; exact b_needs0 _ _ _ h18) (fun _ _ => rfl) ?_
      refine q_step 2 53 [(0, .ref 70), (1, .int lo), (2, .int hi)] [.int (3 : Int32)] (q_up (q_up g 70 18 (3 : Int32)) 70 19 (g 70 15)) u (fun big n0 => sg_rn_3 big n0 (q_up (q_up g 70 18 (3 : Int32)) 70 19 (g 70 15)) u lo hi) ?_
      refine q_if_ne rfl (fun hc4 => absurd (show (3 : Int32) = 0 from hc4) (by decide)) (fun (hc4 : ¬ ((3 : Int32) = 0)) => ?_)
      refine q_ret 2 (some (.int (0 : Int32)), (q_up (q_up g 70 18 (3 : Int32)) 70 19 (g 70 15)), u) (fun _ _ => rfl) ?_
      have e2 : (t_ki b s p) = 2 := by
        have z := h16.symm.trans hc1
        by_cases e4 : (t_ki b s p) = 4
        · rw [if_pos e4] at z
          exact absurd z (by decide)
        · rw [if_neg e4] at z
          exact z
      have er : (t_er b s p lo hi) = 3 := by
        unfold t_er
        rw [if_pos e2]
        by_cases x1 : (t_va b s p) < lo
        · rw [if_pos x1]
        · rw [if_neg x1]
          by_cases x2 : hi < (t_va b s p)
          · rw [if_pos x2]
          · exact absurd hc3 (s_in_32.mpr (by rw [h17 e2]; exact ⟨x1, x2⟩))
      rw [er, if_neg (by decide)]
      exact ⟨_, rfl, ((k_f70_rfl g).up (by omega)).up (by omega), fun z => absurd z (by decide), fun _ => ⟨rfl, h15⟩⟩
    · refine q_call (M2 := 154) (rest := []) (by rw [(s_in_01 _ _ _).resolve_left hc3]; exact b_needs1 _ _ _) (fun _ _ => rfl) ?_
      refine q_step 2 53 [(0, .ref 70), (1, .int lo), (2, .int hi)] [.int (g 70 18)] g u (fun big n0 => sg_rn_3 big n0 g u lo hi) ?_
      refine q_if_ne rfl (fun (hc4 : (g 70 18) = 0) => ?_) (fun hc4 => absurd (show (g 70 18) = 0 from h18) hc4)
      refine q_ret 4 (some (.int (g 70 17)), g, u) (fun _ _ => rfl) ?_
      have e2 : (t_ki b s p) = 2 := by
        have z := h16.symm.trans hc1
        by_cases e4 : (t_ki b s p) = 4
        · rw [if_pos e4] at z
          exact absurd z (by decide)
        · rw [if_neg e4] at z
          exact z
      have er : (t_er b s p lo hi) = 0 := by
        have z := s_in_32.mp hc3
        rw [h17 e2] at z
        unfold t_er
        rw [if_pos e2, if_neg z.1, if_neg z.2]
      rw [er, if_pos rfl, h17 e2]
      exact ⟨_, rfl, k_f70_rfl g, fun _ => rfl, fun z => absurd rfl z⟩
  · refine q_step 2 22 [(0, .ref 70), (1, .int lo), (2, .int hi)] [.int (2 : Int32), .int (0 : Int32), .ref 70] g u (fun big n0 => sg_rn_8 big n0 g u lo hi) ?_
    refine q_call (M2 := 154) (rest := []) (b_needs0 _ _ _ h18) (fun _ _ => rfl) ?_
    refine q_step 2 29 [(0, .ref 70), (1, .int lo), (2, .int hi)] [.int (2 : Int32)] (q_up (q_up g 70 18 (2 : Int32)) 70 19 (g 70 15)) u (fun big n0 => sg_rn_2 big n0 (q_up (q_up g 70 18 (2 : Int32)) 70 19 (g 70 15)) u lo hi) ?_
    refine q_if_ne rfl (fun hc2 => absurd (show (2 : Int32) = 0 from hc2) (by decide)) (fun (hc2 : ¬ ((2 : Int32) = 0)) => ?_)
    refine q_step 2 53 [(0, .ref 70), (1, .int lo), (2, .int hi)] [.int (2 : Int32)] (q_up (q_up g 70 18 (2 : Int32)) 70 19 (g 70 15)) u (fun big n0 => sg_rn_3 big n0 (q_up (q_up g 70 18 (2 : Int32)) 70 19 (g 70 15)) u lo hi) ?_
    refine q_if_ne rfl (fun hc3 => absurd (show (2 : Int32) = 0 from hc3) (by decide)) (fun (hc3 : ¬ ((2 : Int32) = 0)) => ?_)
    refine q_ret 2 (some (.int (0 : Int32)), (q_up (q_up g 70 18 (2 : Int32)) 70 19 (g 70 15)), u) (fun _ _ => rfl) ?_
    have e2 : ¬ (t_ki b s p) = 2 := fun z => hc1 (h16.trans (by rw [z]; rfl))
    have er : (t_er b s p lo hi) = 2 := by unfold t_er; rw [if_neg e2, if_neg k0]
    rw [er, if_neg (by decide)]
    exact ⟨_, rfl, ((k_f70_rfl g).up (by omega)).up (by omega), fun z => absurd z (by decide), fun _ => ⟨rfl, h15⟩⟩
theorem r_num {b : Nat → Int32} {s p : Nat} (g : qM) (u : qW) (hb : k_b b s g) (hp : p ≤ s) (hl : k_la b s p g) (lo hi : Int32) : ∃ R, q_BS 160 [.ref 70, .int lo, .int hi] g u R ∧ ∃ g', R = (some (.int (if (t_er b s p lo hi) = 0 then (t_va b s p) else 0)), g', u) ∧ k_f70 g g' ∧ ((t_er b s p lo hi) = 0 → k_la b s (t_pl b s p) g') ∧ (¬ (t_er b s p lo hi) = 0 → g' 70 18 = (t_er b s p lo hi) ∧ g' 70 19 = Int32.ofNat (t_fi b s p)) := by
  refine q_bs (mm := m_160) rfl (Nat.le_of_ble_eq_true rfl) rfl ?_
  refine q_step 3 3 [(0, .ref 70), (1, .int lo), (2, .int hi)] [.int hi, .int lo, .ref 70] g u (fun big n0 => sg_rn_9 big n0 g u lo hi) ?_
  obtain ⟨_, hq, g1, rfl, hf1, h0, h1⟩ := r_looked g u hb hp hl lo hi
  refine q_call (M2 := 161) (rest := []) (hq) (fun _ _ => rfl) ?_
  refine q_step 2 8 [(0, .ref 70), (1, .int lo), (2, .int hi), (3, .int (if (t_er b s p lo hi) = 0 then (t_va b s p) else 0))] [.ref 70] g1 u (fun big n0 => sg_rn_10 big n0 g1 u lo hi (if (t_er b s p lo hi) = 0 then (t_va b s p) else 0)) ?_
  by_cases hc0 : (t_er b s p lo hi) = 0
  · have e1 := h0 hc0
    subst e1
    have hr : ¬ t_ki b s p = 0 ∧ g1 70 18 = 0 ∧ g1 70 14 = Int32.ofNat (t_pl b s p) := by
      rcases hl with z | z
      · exfalso
        unfold t_er at hc0
        rw [if_neg (by rw [z.1]; decide), if_pos z.1] at hc0
        exact absurd hc0 (by decide)
      · exact ⟨z.1, z.2.1, z.2.2.1⟩
    obtain ⟨g2, hq2, hf2, hl2⟩ := r_nextb g1 u hb hr.2.2 (t_pl_b hp).2.1 hr.2.1
    refine q_call (M2 := 152) (rest := []) (hq2) (fun _ _ => rfl) ?_
    refine q_ret 2 (some (.int (if (t_er b s p lo hi) = 0 then (t_va b s p) else 0)), g2, u) (fun _ _ => rfl) ?_
    exact ⟨_, rfl, hf2, fun _ => hl2, fun z => absurd hc0 z⟩
  · refine q_call (M2 := 152) (rest := []) (r_nextf g1 u (by rw [(h1 hc0).1]; exact t_er_pos hc0)) (fun _ _ => rfl) ?_
    refine q_ret 2 (some (.int (if (t_er b s p lo hi) = 0 then (t_va b s p) else 0)), g1, u) (fun _ _ => rfl) ?_
    exact ⟨_, rfl, hf1, fun z => absurd z hc0, h1⟩
theorem r_numf (lo hi : Int32) (g : qM) (u : qW) (hf : 0 < g 70 18) : q_BS 160 [.ref 70, .int lo, .int hi] g u (some (.int 0), g, u) := by
  refine q_bx (mm := m_160) rfl (Nat.le_of_ble_eq_true rfl) rfl ?_
  refine q_step 3 3 [(0, .ref 70), (1, .int lo), (2, .int hi)] [.int hi, .int lo, .ref 70] g u (fun big n0 => sg_rn_9 big n0 g u lo hi) ?_
  refine q_call (M2 := 161) (rest := []) (r_lookedf _ _ _ _ (fun z => absurd (z ▸ hf) (by decide))) (fun _ _ => rfl) ?_
  refine q_step 2 8 [(0, .ref 70), (1, .int lo), (2, .int hi), (3, .int (0 : Int32))] [.ref 70] g u (fun big n0 => sg_rn_11 big n0 g u lo hi) ?_
  refine q_call (M2 := 152) (rest := []) (r_nextf _ _ hf) (fun _ _ => rfl) ?_
  refine q_ret 2 (some (.int (0 : Int32)), g, u) (fun _ _ => rfl) ?_
  rfl
end
