/-! TOKENS. -/
def t_sk (b : Nat → Int32) : Nat → Nat → Nat
  | 0, p => p
  | k + 1, p => if b p = 32 then t_sk b k (p + 1) else p
def t_kd (c : Int32) : Int32 := if c < 97 then (if c < 48 then (if c = 59 then 3 else 0) else if (57 : Int32) < c then (if c = 59 then 3 else 0) else 2) else if (122 : Int32) < c then (if c < 48 then (if c = 59 then 3 else 0) else if (57 : Int32) < c then (if c = 59 then 3 else 0) else 2) else 1
def t_ru (b : Nat → Int32) (kd : Int32) : Nat → Nat → Nat
  | 0, p => p
  | k + 1, p => if t_kd (b p) = kd then t_ru b kd k (p + 1) else p
def t_vl (b : Nat → Int32) : Nat → Nat → Int32 → Int32
  | 0, _, a => a
  | k + 1, i, a => t_vl b k (i + 1) (a * 10 + b i - 48)
/-- first byte; kind; place behind -/
def t_fi (b : Nat → Int32) (s p : Nat) : Nat := t_sk b (s - p) p
def t_k0 (b : Nat → Int32) (s p : Nat) : Int32 := if s ≤ t_fi b s p then 4 else t_kd (b (t_fi b s p))
def t_pl (b : Nat → Int32) (s p : Nat) : Nat := if s ≤ t_fi b s p then t_fi b s p else if t_k0 b s p = 1 then t_ru b 1 (s - (t_fi b s p + 1)) (t_fi b s p + 1) else if t_k0 b s p = 2 then t_ru b 2 (s - (t_fi b s p + 1)) (t_fi b s p + 1) else t_fi b s p + 1
def t_ki (b : Nat → Int32) (s p : Nat) : Int32 := if t_k0 b s p = 2 then (if t_pl b s p ≤ t_fi b s p + 2 then 2 else 0) else t_k0 b s p
def t_va (b : Nat → Int32) (s p : Nat) : Int32 := t_vl b (t_pl b s p - t_fi b s p) (t_fi b s p) 0
theorem t_sk_b {b : Nat → Int32} : ∀ k p, p ≤ t_sk b k p ∧ t_sk b k p ≤ p + k
  | 0, p => ⟨Nat.le_refl _, Nat.le_refl _⟩
  | k + 1, p => by
    rw [t_sk]
    split
    · have := t_sk_b (b := b) k (p + 1)
      omega
    · omega
theorem t_ru_b {b : Nat → Int32} {kd : Int32} : ∀ k p, p ≤ t_ru b kd k p ∧ t_ru b kd k p ≤ p + k
  | 0, p => ⟨Nat.le_refl _, Nat.le_refl _⟩
  | k + 1, p => by
    rw [t_ru]
    split
    · have := t_ru_b (b := b) (kd := kd) k (p + 1)
      omega
    · omega
theorem t_kd_4 (c : Int32) : t_kd c = 0 ∨ t_kd c = 1 ∨ t_kd c = 2 ∨ t_kd c = 3 := by
  unfold t_kd
  repeat' split
  all_goals first
    | exact Or.inl rfl
    | exact Or.inr (Or.inl rfl)
    | exact Or.inr (Or.inr (Or.inl rfl))
    | exact Or.inr (Or.inr (Or.inr rfl))
theorem t_fi_b {b : Nat → Int32} {s p : Nat} (hp : p ≤ s) : p ≤ t_fi b s p ∧ t_fi b s p ≤ s := by
  have := t_sk_b (b := b) (s - p) p
  unfold t_fi
  omega
theorem t_pl_b {b : Nat → Int32} {s p : Nat} (hp : p ≤ s) : t_fi b s p ≤ t_pl b s p ∧ t_pl b s p ≤ s ∧ (¬ s ≤ t_fi b s p → t_fi b s p < t_pl b s p) := by
  have h := t_fi_b (b := b) hp
  unfold t_pl
  by_cases e : s ≤ t_fi b s p
  · rw [if_pos e]
    omega
  · rw [if_neg e]
    have r1 := t_ru_b (b := b) (kd := 1) (s - (t_fi b s p + 1)) (t_fi b s p + 1)
    have r2 := t_ru_b (b := b) (kd := 2) (s - (t_fi b s p + 1)) (t_fi b s p + 1)
    split
    · omega
    · split <;> omega
theorem q_up_up {g : qM} {a j : Nat} {x y : Int32} : q_up (q_up g a j x) a j y = q_up g a j y := by
  funext b i
  simp only [q_up_eq]
  by_cases h : b = a ∧ i = j
  · rw [if_pos h, if_pos h]
  · rw [if_neg h, if_neg h, if_neg h]
/-- object 9 with its token told: kind, first, value, place -/
def s_9 (k f v p : Int32) (g : qM) : qM := fun a j => if a = 9 then (if j = 2 then k else if j = 3 then f else if j = 4 then v else if j = 5 then p else g 9 j) else g a j
theorem s_9_0 {g : qM} : s_9 (g 9 2) (g 9 3) (g 9 4) (g 9 5) g = g := by
  funext a j
  unfold s_9
  by_cases h : a = 9
  · rw [if_pos h, h]
    by_cases h2 : j = 2
    · rw [if_pos h2, h2]
    · by_cases h3 : j = 3
      · rw [if_neg h2, if_pos h3, h3]
      · by_cases h4 : j = 4
        · rw [if_neg h2, if_neg h3, if_pos h4, h4]
        · by_cases h5 : j = 5
          · rw [if_neg h2, if_neg h3, if_neg h4, if_pos h5, h5]
          · rw [if_neg h2, if_neg h3, if_neg h4, if_neg h5]
  · rw [if_neg h]
theorem s_9_o {k f v p : Int32} {g : qM} {a : Nat} (h : a ≠ 9) : s_9 k f v p g a = g a := by
  funext j
  unfold s_9
  rw [if_neg h]
theorem s_9_2 {k f v p x : Int32} {g : qM} : q_up (s_9 k f v p g) 9 2 x = s_9 x f v p g := by
  funext a j
  simp only [q_up_eq, s_9]
  by_cases h : a = 9
  · by_cases e : j = 2
    · simp [h, e]
    · simp [h, e]
  · simp [h]
theorem s_9_3 {k f v p x : Int32} {g : qM} : q_up (s_9 k f v p g) 9 3 x = s_9 k x v p g := by
  funext a j
  simp only [q_up_eq, s_9]
  by_cases h : a = 9
  · by_cases e : j = 3
    · simp [h, e]
    · simp [h, e]
  · simp [h]
theorem s_9_4 {k f v p x : Int32} {g : qM} : q_up (s_9 k f v p g) 9 4 x = s_9 k f x p g := by
  funext a j
  simp only [q_up_eq, s_9]
  by_cases h : a = 9
  · by_cases e : j = 4
    · simp [h, e]
    · simp [h, e]
  · simp [h]
theorem s_9_5 {k f v p x : Int32} {g : qM} : q_up (s_9 k f v p g) 9 5 x = s_9 k f v x g := by
  funext a j
  simp only [q_up_eq, s_9]
  by_cases h : a = 9
  · by_cases e : j = 5
    · simp [h, e]
    · simp [h, e]
  · simp [h]
theorem sg_tk_1 (big : Nat → List Value → qM → qW → qR) (n0 : Nat) (G : qM) (U : qW) (v0 : Int32) : qm_run pm_m big m_17 (n0 + 2) 0 [(0, .int v0)] [] G U = qm_run pm_m big m_17 n0 3 [(0, .int v0)] [.int (97 : Int32), .int v0] G U := rfl
theorem sg_tk_2 (big : Nat → List Value → qM → qW → qR) (n0 : Nat) (G : qM) (U : qW) (v0 : Int32) : qm_run pm_m big m_17 (n0 + 2) 14 [(0, .int v0)] [] G U = qm_run pm_m big m_17 n0 17 [(0, .int v0)] [.int (48 : Int32), .int v0] G U := rfl
theorem sg_tk_3 (big : Nat → List Value → qM → qW → qR) (n0 : Nat) (G : qM) (U : qW) (v0 : Int32) : qm_run pm_m big m_17 (n0 + 2) 28 [(0, .int v0)] [] G U = qm_run pm_m big m_17 n0 31 [(0, .int v0)] [.int (59 : Int32), .int v0] G U := rfl
theorem sg_tk_4 (big : Nat → List Value → qM → qW → qR) (n0 : Nat) (G : qM) (U : qW) (v0 : Int32) : qm_run pm_m big m_17 (n0 + 2) 20 [(0, .int v0)] [] G U = qm_run pm_m big m_17 n0 23 [(0, .int v0)] [.int (57 : Int32), .int v0] G U := rfl
theorem sg_tk_5 (big : Nat → List Value → qM → qW → qR) (n0 : Nat) (G : qM) (U : qW) (v0 : Int32) : qm_run pm_m big m_17 (n0 + 2) 6 [(0, .int v0)] [] G U = qm_run pm_m big m_17 n0 9 [(0, .int v0)] [.int (122 : Int32), .int v0] G U := rfl
theorem sg_tk_6 (big : Nat → List Value → qM → qW → qR) (n0 : Nat) (G : qM) (U : qW) : qm_run pm_m big m_16 (n0 + 4) 0 [(0, .ref 9)] [] G U = qm_run pm_m big m_16 n0 8 [(0, .ref 9)] [.int (G 9 1), .int (G 9 5)] G U := rfl
theorem sg_tk_7 (big : Nat → List Value → qM → qW → qR) (n0 : Nat) (G : qM) (U : qW) : qm_run pm_m big m_16 (n0 + 4) 11 [(0, .ref 9)] [] G U = qm_run pm_m big m_16 n0 19 [(0, .ref 9)] [.int (G 9 5), .ref 10] G U := rfl
theorem sg_tk_8 (big : Nat → List Value → qM → qW → qR) (n0 : Nat) (G : qM) (U : qW) (v0 : Int32) : qm_run pm_m big m_16 (n0 + 1) 20 [(0, .ref 9)] [.int v0] G U = qm_run pm_m big m_16 n0 22 [(0, .ref 9)] [.int (32 : Int32), .int v0] G U := rfl
theorem sg_tk_9 (big : Nat → List Value → qM → qW → qR) (n0 : Nat) (G : qM) (U : qW) : qm_run pm_m big m_16 (n0 + 7) 25 [(0, .ref 9)] [] G U = qm_run pm_m big m_16 n0 0 [(0, .ref 9)] [] (q_up G 9 5 ((G 9 5) + (1 : Int32))) U := rfl
theorem sg_tk_10 (big : Nat → List Value → qM → qW → qR) (n0 : Nat) (G : qM) (U : qW) : qm_run pm_m big m_16 (n0 + 4) 88 [(0, .ref 9)] [] G U = qm_run pm_m big m_16 n0 96 [(0, .ref 9)] [.int (G 9 1), .int (G 9 5)] G U := rfl
theorem sg_tk_11 (big : Nat → List Value → qM → qW → qR) (n0 : Nat) (G : qM) (U : qW) : qm_run pm_m big m_16 (n0 + 3) 99 [(0, .ref 9)] [] G U = qm_run pm_m big m_16 n0 104 [(0, .ref 9)] [.int (1 : Int32), .int (G 9 2)] G U := rfl
theorem sg_tk_12 (big : Nat → List Value → qM → qW → qR) (n0 : Nat) (G : qM) (U : qW) : qm_run pm_m big m_16 (n0 + 4) 115 [(0, .ref 9)] [] G U = qm_run pm_m big m_16 n0 123 [(0, .ref 9)] [.int (G 9 5), .ref 10] G U := rfl
theorem sg_tk_13 (big : Nat → List Value → qM → qW → qR) (n0 : Nat) (G : qM) (U : qW) (v0 : Int32) : qm_run pm_m big m_16 (n0 + 2) 127 [(0, .ref 9)] [.int v0] G U = qm_run pm_m big m_16 n0 131 [(0, .ref 9)] [.int (G 9 2), .int v0] G U := rfl
theorem sg_tk_14 (big : Nat → List Value → qM → qW → qR) (n0 : Nat) (G : qM) (U : qW) : qm_run pm_m big m_16 (n0 + 7) 134 [(0, .ref 9)] [] G U = qm_run pm_m big m_16 n0 88 [(0, .ref 9)] [] (q_up G 9 5 ((G 9 5) + (1 : Int32))) U := rfl
theorem sg_tk_15 (big : Nat → List Value → qM → qW → qR) (n0 : Nat) (G : qM) (U : qW) : qm_run pm_m big m_16 (n0 + 3) 107 [(0, .ref 9)] [] G U = qm_run pm_m big m_16 n0 112 [(0, .ref 9)] [.int (2 : Int32), .int (G 9 2)] G U := rfl
theorem sg_tk_16 (big : Nat → List Value → qM → qW → qR) (n0 : Nat) (G : qM) (U : qW) (v0 : Int32) : qm_run pm_m big m_18 (n0 + 3) 10 [(0, .ref 9), (1, .int v0)] [] G U = qm_run pm_m big m_18 n0 15 [(0, .ref 9), (1, .int v0)] [.int (G 9 5), .int v0] G U := rfl
theorem sg_tk_17 (big : Nat → List Value → qM → qW → qR) (n0 : Nat) (G : qM) (U : qW) (v0 : Int32) : qm_run pm_m big m_18 (n0 + 6) 45 [(0, .ref 9), (1, .int v0)] [] G U = qm_run pm_m big m_18 n0 55 [(0, .ref 9), (1, .int v0)] [.int (2 : Int32), .int ((G 9 5) - (G 9 3))] G U := rfl
theorem sg_tk_18 (big : Nat → List Value → qM → qW → qR) (n0 : Nat) (G : qM) (U : qW) (v0 : Int32) : qm_run pm_m big m_18 (n0 + 8) 18 [(0, .ref 9), (1, .int v0)] [] G U = qm_run pm_m big m_18 n0 31 [(0, .ref 9), (1, .int v0)] [.int v0, .ref 10, .int ((G 9 4) * (10 : Int32)), .ref 9] G U := rfl
theorem sg_tk_19 (big : Nat → List Value → qM → qW → qR) (n0 : Nat) (G : qM) (U : qW) (v0 : Int32) (v1 : Int32) (v2 : Int32) : qm_run pm_m big m_18 (n0 + 6) 32 [(0, .ref 9), (1, .int v0)] [.int v2, .int v1, .ref 9] G U = qm_run pm_m big m_18 n0 10 [(0, .ref 9), (1, .int (v0 + (1 : Int32)))] [] (q_up G 9 4 ((v1 + v2) - (48 : Int32))) U := rfl
theorem sg_tk_20 (big : Nat → List Value → qM → qW → qR) (n0 : Nat) (G : qM) (U : qW) : qm_run pm_m big m_18 (n0 + 6) 0 [(0, .ref 9)] [] G U = qm_run pm_m big m_18 n0 10 [(0, .ref 9), (1, .int (G 9 3))] [] (q_up G 9 4 (0 : Int32)) U := rfl
theorem sg_tk_21 (big : Nat → List Value → qM → qW → qR) (n0 : Nat) (G : qM) (U : qW) : qm_run pm_m big m_16 (n0 + 11) 38 [(0, .ref 9)] [] G U = qm_run pm_m big m_16 n0 59 [(0, .ref 9)] [.int (G 9 1), .int (G 9 5)] (q_up (q_up G 9 3 (G 9 5)) 9 2 (4 : Int32)) U := rfl
theorem sg_tk_22 (big : Nat → List Value → qM → qW → qR) (n0 : Nat) (G : qM) (U : qW) : qm_run pm_m big m_16 (n0 + 3) 147 [(0, .ref 9)] [] G U = qm_run pm_m big m_16 n0 152 [(0, .ref 9)] [.int (2 : Int32), .int (G 9 2)] G U := rfl
theorem sg_tk_23 (big : Nat → List Value → qM → qW → qR) (n0 : Nat) (G : qM) (U : qW) : qm_run pm_m big m_16 (n0 + 5) 62 [(0, .ref 9)] [] G U = qm_run pm_m big m_16 n0 71 [(0, .ref 9)] [.int (G 9 5), .ref 10, .ref 9] G U := rfl
theorem sg_tk_24 (big : Nat → List Value → qM → qW → qR) (n0 : Nat) (G : qM) (U : qW) (v0 : Int32) : qm_run pm_m big m_16 (n0 + 7) 75 [(0, .ref 9)] [.int v0, .ref 9] G U = qm_run pm_m big m_16 n0 88 [(0, .ref 9)] [] (q_up (q_up G 9 2 v0) 9 5 ((G 9 5) + (1 : Int32))) U := rfl
theorem sg_tk_25 (big : Nat → List Value → qM → qW → qR) (n0 : Nat) (G : qM) (U : qW) : qm_run pm_m big m_16 (n0 + 1) 155 [(0, .ref 9)] [] G U = qm_run pm_m big m_16 n0 156 [(0, .ref 9)] [.ref 9] G U := rfl
theorem b_kind (x : Int32) (g : qM) (u : qW) : q_BS 17 [.int x] g u (some (.int (t_kd x)), g, u) := by
  refine q_bx (mm := m_17) rfl (Nat.le_of_ble_eq_true rfl) rfl ?_
  refine q_step 2 3 [(0, .int x)] [.int (97 : Int32), .int x] g u (fun big n0 => sg_tk_1 big n0 g u x) ?_
  refine q_ic_lt rfl (fun (hc0 : x < (97 : Int32)) => ?_) (fun (hc0 : ¬ (x < (97 : Int32))) => ?_)
  · refine q_step 2 17 [(0, .int x)] [.int (48 : Int32), .int x] g u (fun big n0 => sg_tk_2 big n0 g u x) ?_
    refine q_ic_lt rfl (fun (hc1 : x < (48 : Int32)) => ?_) (fun (hc1 : ¬ (x < (48 : Int32))) => ?_)
    · refine q_step 2 31 [(0, .int x)] [.int (59 : Int32), .int x] g u (fun big n0 => sg_tk_3 big n0 g u x) ?_
      refine q_ic_ne rfl (fun (hc2 : x = (59 : Int32)) => ?_) (fun (hc2 : ¬ (x = (59 : Int32))) => ?_)
      · refine q_ret 3 (some (.int (3 : Int32)), g, u) (fun _ _ => rfl) ?_
        unfold t_kd
        rw [if_pos hc0, if_pos hc1, if_pos hc2]
      · refine q_ret 2 (some (.int (0 : Int32)), g, u) (fun _ _ => rfl) ?_
        unfold t_kd
        rw [if_pos hc0, if_pos hc1, if_neg hc2]
    · refine q_step 2 23 [(0, .int x)] [.int (57 : Int32), .int x] g u (fun big n0 => sg_tk_4 big n0 g u x) ?_
      refine q_ic_gt rfl (fun (hc2 : (57 : Int32) < x) => ?_) (fun (hc2 : ¬ ((57 : Int32) < x)) => ?_)
      · refine q_step 2 31 [(0, .int x)] [.int (59 : Int32), .int x] g u (fun big n0 => sg_tk_3 big n0 g u x) ?_
        refine q_ic_ne rfl (fun (hc3 : x = (59 : Int32)) => ?_) (fun (hc3 : ¬ (x = (59 : Int32))) => ?_)
        · refine q_ret 3 (some (.int (3 : Int32)), g, u) (fun _ _ => rfl) ?_
          unfold t_kd
          rw [if_pos hc0, if_neg hc1, if_pos hc2, if_pos hc3]
        · refine q_ret 2 (some (.int (0 : Int32)), g, u) (fun _ _ => rfl) ?_
          unfold t_kd
          rw [if_pos hc0, if_neg hc1, if_pos hc2, if_neg hc3]
      · refine q_ret 2 (some (.int (2 : Int32)), g, u) (fun _ _ => rfl) ?_
        unfold t_kd
        rw [if_pos hc0, if_neg hc1, if_neg hc2]
  · refine q_step 2 9 [(0, .int x)] [.int (122 : Int32), .int x] g u (fun big n0 => sg_tk_5 big n0 g u x) ?_
    refine q_ic_gt rfl (fun (hc1 : (122 : Int32) < x) => ?_) (fun (hc1 : ¬ ((122 : Int32) < x)) => ?_)
    · refine q_step 2 17 [(0, .int x)] [.int (48 : Int32), .int x] g u (fun big n0 => sg_tk_2 big n0 g u x) ?_
      refine q_ic_lt rfl (fun (hc2 : x < (48 : Int32)) => ?_) (fun (hc2 : ¬ (x < (48 : Int32))) => ?_)
      · refine q_step 2 31 [(0, .int x)] [.int (59 : Int32), .int x] g u (fun big n0 => sg_tk_3 big n0 g u x) ?_
        refine q_ic_ne rfl (fun (hc3 : x = (59 : Int32)) => ?_) (fun (hc3 : ¬ (x = (59 : Int32))) => ?_)
        · refine q_ret 3 (some (.int (3 : Int32)), g, u) (fun _ _ => rfl) ?_
          unfold t_kd
          rw [if_neg hc0, if_pos hc1, if_pos hc2, if_pos hc3]
        · refine q_ret 2 (some (.int (0 : Int32)), g, u) (fun _ _ => rfl) ?_
          unfold t_kd
          rw [if_neg hc0, if_pos hc1, if_pos hc2, if_neg hc3]
      · refine q_step 2 23 [(0, .int x)] [.int (57 : Int32), .int x] g u (fun big n0 => sg_tk_4 big n0 g u x) ?_
        refine q_ic_gt rfl (fun (hc3 : (57 : Int32) < x) => ?_) (fun (hc3 : ¬ ((57 : Int32) < x)) => ?_)
        · refine q_step 2 31 [(0, .int x)] [.int (59 : Int32), .int x] g u (fun big n0 => sg_tk_3 big n0 g u x) ?_
          refine q_ic_ne rfl (fun (hc4 : x = (59 : Int32)) => ?_) (fun (hc4 : ¬ (x = (59 : Int32))) => ?_)
          · refine q_ret 3 (some (.int (3 : Int32)), g, u) (fun _ _ => rfl) ?_
            unfold t_kd
            rw [if_neg hc0, if_pos hc1, if_neg hc2, if_pos hc3, if_pos hc4]
          · refine q_ret 2 (some (.int (0 : Int32)), g, u) (fun _ _ => rfl) ?_
            unfold t_kd
            rw [if_neg hc0, if_pos hc1, if_neg hc2, if_pos hc3, if_neg hc4]
        · refine q_ret 2 (some (.int (2 : Int32)), g, u) (fun _ _ => rfl) ?_
          unfold t_kd
          rw [if_neg hc0, if_pos hc1, if_neg hc2, if_neg hc3]
    · refine q_ret 2 (some (.int (1 : Int32)), g, u) (fun _ _ => rfl) ?_
      unfold t_kd
      rw [if_neg hc0, if_neg hc1]
theorem nt_sk (g : qM) (u : qW) {s : Nat} (hs : g 9 1 = Int32.ofNat s) (h160 : s ≤ 160) {k f v : Int32} {Q : Option Value × qM × qW → Prop} : ∀ m p, p + m = s → q_EV m_16 38 [(0, .ref 9)] [] (s_9 k f v (Int32.ofNat (t_sk (g 10) m p)) g) u Q → q_EV m_16 0 [(0, .ref 9)] [] (s_9 k f v (Int32.ofNat p) g) u Q := by
  intro m
  induction m with
  | zero =>
    intro p hp hk
    refine q_step 4 8 [(0, .ref 9)] [.int (g 9 1), .int (Int32.ofNat p)] (s_9 k f v (Int32.ofNat p) g) u (fun big n0 => sg_tk_6 big n0 (s_9 k f v (Int32.ofNat p) g) u) ?_
    refine q_ic_ge rfl (fun (hc0 : (g 9 1) ≤ (Int32.ofNat p)) => ?_) (fun hc0 => absurd (show (g 9 1) ≤ (Int32.ofNat p) from by rw [hs]; exact (q_le (by omega) (by omega)).mpr (by omega)) hc0)
    exact hk
  | succ m ih =>
    intro p hp hk
    refine q_step 4 8 [(0, .ref 9)] [.int (g 9 1), .int (Int32.ofNat p)] (s_9 k f v (Int32.ofNat p) g) u (fun big n0 => sg_tk_6 big n0 (s_9 k f v (Int32.ofNat p) g) u) ?_
    refine q_ic_ge rfl (fun hc0 => absurd (show (g 9 1) ≤ (Int32.ofNat p) from hc0) (fun z => by rw [hs] at z; exact absurd ((q_le (by omega) (by omega)).mp z) (by omega))) (fun (hc0 : ¬ ((g 9 1) ≤ (Int32.ofNat p))) => ?_)
    refine q_step 4 19 [(0, .ref 9)] [.int (Int32.ofNat p), .ref 10] (s_9 k f v (Int32.ofNat p) g) u (fun big n0 => sg_tk_7 big n0 (s_9 k f v (Int32.ofNat p) g) u) ?_
    refine q_bald (j := p) (q_ixn (by omega) (by omega)) rfl (by decide) rfl ?_
    refine q_step 1 22 [(0, .ref 9)] [.int (32 : Int32), .int (g 10 p)] (s_9 k f v (Int32.ofNat p) g) u (fun big n0 => sg_tk_8 big n0 (s_9 k f v (Int32.ofNat p) g) u (g 10 p)) ?_
    refine q_ic_ne rfl (fun (hc1 : (g 10 p) = (32 : Int32)) => ?_) (fun (hc1 : ¬ ((g 10 p) = (32 : Int32))) => ?_)
    · refine q_step 7 0 [(0, .ref 9)] [] (q_up (s_9 k f v (Int32.ofNat p) g) 9 5 ((Int32.ofNat p) + (1 : Int32))) u (fun big n0 => sg_tk_9 big n0 (s_9 k f v (Int32.ofNat p) g) u) ?_
      rw [t_sk, if_pos hc1] at hk
      rw [show (q_up (s_9 k f v (Int32.ofNat p) g) 9 5 ((Int32.ofNat p) + (1 : Int32))) = s_9 k f v (Int32.ofNat (p + 1)) g from by rw [s_9_5, q_succ]]
      exact ih (p + 1) (by omega) hk
    · rw [t_sk, if_neg hc1] at hk
      exact hk
theorem nt_ru1 (g : qM) (u : qW) {s : Nat} (hs : g 9 1 = Int32.ofNat s) (h160 : s ≤ 160) {f v : Int32} {Q : Option Value × qM × qW → Prop} : ∀ m p, p + m = s → q_EV m_16 147 [(0, .ref 9)] [] (s_9 1 f v (Int32.ofNat (t_ru (g 10) 1 m p)) g) u Q → q_EV m_16 88 [(0, .ref 9)] [] (s_9 1 f v (Int32.ofNat p) g) u Q := by
  intro m
  induction m with
  | zero =>
    intro p hp hk
    refine q_step 4 96 [(0, .ref 9)] [.int (g 9 1), .int (Int32.ofNat p)] (s_9 (1 : Int32) f v (Int32.ofNat p) g) u (fun big n0 => sg_tk_10 big n0 (s_9 (1 : Int32) f v (Int32.ofNat p) g) u) ?_
    refine q_ic_ge rfl (fun (hc0 : (g 9 1) ≤ (Int32.ofNat p)) => ?_) (fun hc0 => absurd (show (g 9 1) ≤ (Int32.ofNat p) from by rw [hs]; exact (q_le (by omega) (by omega)).mpr (by omega)) hc0)
    exact hk
  | succ m ih =>
    intro p hp hk
    refine q_step 4 96 [(0, .ref 9)] [.int (g 9 1), .int (Int32.ofNat p)] (s_9 (1 : Int32) f v (Int32.ofNat p) g) u (fun big n0 => sg_tk_10 big n0 (s_9 (1 : Int32) f v (Int32.ofNat p) g) u) ?_
    refine q_ic_ge rfl (fun hc0 => absurd (show (g 9 1) ≤ (Int32.ofNat p) from hc0) (fun z => by rw [hs] at z; exact absurd ((q_le (by omega) (by omega)).mp z) (by omega))) (fun (hc0 : ¬ ((g 9 1) ≤ (Int32.ofNat p))) => ?_)
    refine q_step 3 104 [(0, .ref 9)] [.int (1 : Int32), .int (1 : Int32)] (s_9 (1 : Int32) f v (Int32.ofNat p) g) u (fun big n0 => sg_tk_11 big n0 (s_9 (1 : Int32) f v (Int32.ofNat p) g) u) ?_
    refine q_ic_eq rfl (fun (hc1 : (1 : Int32) = (1 : Int32)) => ?_) (fun hc1 => absurd (show (1 : Int32) = (1 : Int32) from rfl) hc1)
    refine q_step 4 123 [(0, .ref 9)] [.int (Int32.ofNat p), .ref 10] (s_9 (1 : Int32) f v (Int32.ofNat p) g) u (fun big n0 => sg_tk_12 big n0 (s_9 (1 : Int32) f v (Int32.ofNat p) g) u) ?_
    refine q_bald (j := p) (q_ixn (by omega) (by omega)) rfl (by decide) rfl ?_
    refine q_call (M2 := 17) (rest := []) (b_kind _ _ _) (fun _ _ => rfl) ?_
    refine q_step 2 131 [(0, .ref 9)] [.int (1 : Int32), .int (t_kd (g 10 p))] (s_9 (1 : Int32) f v (Int32.ofNat p) g) u (fun big n0 => sg_tk_13 big n0 (s_9 (1 : Int32) f v (Int32.ofNat p) g) u (t_kd (g 10 p))) ?_
    refine q_ic_ne rfl (fun (hc2 : (t_kd (g 10 p)) = (1 : Int32)) => ?_) (fun (hc2 : ¬ ((t_kd (g 10 p)) = (1 : Int32))) => ?_)
    · refine q_step 7 88 [(0, .ref 9)] [] (q_up (s_9 (1 : Int32) f v (Int32.ofNat p) g) 9 5 ((Int32.ofNat p) + (1 : Int32))) u (fun big n0 => sg_tk_14 big n0 (s_9 (1 : Int32) f v (Int32.ofNat p) g) u) ?_
      rw [t_ru, if_pos hc2] at hk
      rw [show (q_up (s_9 (1 : Int32) f v (Int32.ofNat p) g) 9 5 ((Int32.ofNat p) + (1 : Int32))) = s_9 1 f v (Int32.ofNat (p + 1)) g from by rw [s_9_5, q_succ]]
      exact ih (p + 1) (by omega) hk
    · rw [t_ru, if_neg hc2] at hk
      exact hk
theorem nt_ru2 (g : qM) (u : qW) {s : Nat} (hs : g 9 1 = Int32.ofNat s) (h160 : s ≤ 160) {f v : Int32} {Q : Option Value × qM × qW → Prop} : ∀ m p, p + m = s → q_EV m_16 147 [(0, .ref 9)] [] (s_9 2 f v (Int32.ofNat (t_ru (g 10) 2 m p)) g) u Q → q_EV m_16 88 [(0, .ref 9)] [] (s_9 2 f v (Int32.ofNat p) g) u Q := by
  intro m
  induction m with
  | zero =>
    intro p hp hk
    refine q_step 4 96 [(0, .ref 9)] [.int (g 9 1), .int (Int32.ofNat p)] (s_9 (2 : Int32) f v (Int32.ofNat p) g) u (fun big n0 => sg_tk_10 big n0 (s_9 (2 : Int32) f v (Int32.ofNat p) g) u) ?_
    refine q_ic_ge rfl (fun (hc0 : (g 9 1) ≤ (Int32.ofNat p)) => ?_) (fun hc0 => absurd (show (g 9 1) ≤ (Int32.ofNat p) from by rw [hs]; exact (q_le (by omega) (by omega)).mpr (by omega)) hc0)
    exact hk
  | succ m ih =>
    intro p hp hk
    refine q_step 4 96 [(0, .ref 9)] [.int (g 9 1), .int (Int32.ofNat p)] (s_9 (2 : Int32) f v (Int32.ofNat p) g) u (fun big n0 => sg_tk_10 big n0 (s_9 (2 : Int32) f v (Int32.ofNat p) g) u) ?_
    refine q_ic_ge rfl (fun hc0 => absurd (show (g 9 1) ≤ (Int32.ofNat p) from hc0) (fun z => by rw [hs] at z; exact absurd ((q_le (by omega) (by omega)).mp z) (by omega))) (fun (hc0 : ¬ ((g 9 1) ≤ (Int32.ofNat p))) => ?_)
    refine q_step 3 104 [(0, .ref 9)] [.int (1 : Int32), .int (2 : Int32)] (s_9 (2 : Int32) f v (Int32.ofNat p) g) u (fun big n0 => sg_tk_11 big n0 (s_9 (2 : Int32) f v (Int32.ofNat p) g) u) ?_
    refine q_ic_eq rfl (fun hc1 => absurd (show (2 : Int32) = (1 : Int32) from hc1) (by decide)) (fun (hc1 : ¬ ((2 : Int32) = (1 : Int32))) => ?_)
    refine q_step 3 112 [(0, .ref 9)] [.int (2 : Int32), .int (2 : Int32)] (s_9 (2 : Int32) f v (Int32.ofNat p) g) u (fun big n0 => sg_tk_15 big n0 (s_9 (2 : Int32) f v (Int32.ofNat p) g) u) ?_
    refine q_ic_ne rfl (fun (hc2 : (2 : Int32) = (2 : Int32)) => ?_) (fun hc2 => absurd (show (2 : Int32) = (2 : Int32) from rfl) hc2)
    refine q_step 4 123 [(0, .ref 9)] [.int (Int32.ofNat p), .ref 10] (s_9 (2 : Int32) f v (Int32.ofNat p) g) u (fun big n0 => sg_tk_12 big n0 (s_9 (2 : Int32) f v (Int32.ofNat p) g) u) ?_
    refine q_bald (j := p) (q_ixn (by omega) (by omega)) rfl (by decide) rfl ?_
    refine q_call (M2 := 17) (rest := []) (b_kind _ _ _) (fun _ _ => rfl) ?_
    refine q_step 2 131 [(0, .ref 9)] [.int (2 : Int32), .int (t_kd (g 10 p))] (s_9 (2 : Int32) f v (Int32.ofNat p) g) u (fun big n0 => sg_tk_13 big n0 (s_9 (2 : Int32) f v (Int32.ofNat p) g) u (t_kd (g 10 p))) ?_
    refine q_ic_ne rfl (fun (hc3 : (t_kd (g 10 p)) = (2 : Int32)) => ?_) (fun (hc3 : ¬ ((t_kd (g 10 p)) = (2 : Int32))) => ?_)
    · refine q_step 7 88 [(0, .ref 9)] [] (q_up (s_9 (2 : Int32) f v (Int32.ofNat p) g) 9 5 ((Int32.ofNat p) + (1 : Int32))) u (fun big n0 => sg_tk_14 big n0 (s_9 (2 : Int32) f v (Int32.ofNat p) g) u) ?_
      rw [t_ru, if_pos hc3] at hk
      rw [show (q_up (s_9 (2 : Int32) f v (Int32.ofNat p) g) 9 5 ((Int32.ofNat p) + (1 : Int32))) = s_9 2 f v (Int32.ofNat (p + 1)) g from by rw [s_9_5, q_succ]]
      exact ih (p + 1) (by omega) hk
    · rw [t_ru, if_neg hc3] at hk
      exact hk
theorem wf_l (g : qM) (u : qW) {e f : Nat} (he : e ≤ 160) : ∀ m i a, i + m = e → q_EV m_18 10 [(0, .ref 9), (1, .int (Int32.ofNat i))] [] (s_9 2 (Int32.ofNat f) a (Int32.ofNat e) g) u (fun R => R = (none, s_9 (if Int32.ofNat e - Int32.ofNat f ≤ 2 then 2 else 0) (Int32.ofNat f) (t_vl (g 10) m i a) (Int32.ofNat e) g, u)) := by
  intro m
  induction m with
  | zero =>
    intro i a hi
    refine q_step 3 15 [(0, .ref 9), (1, .int (Int32.ofNat i))] [.int (Int32.ofNat e), .int (Int32.ofNat i)] (s_9 2 (Int32.ofNat f) a (Int32.ofNat e) g) u (fun big n0 => sg_tk_16 big n0 (s_9 2 (Int32.ofNat f) a (Int32.ofNat e) g) u (Int32.ofNat i)) ?_
    refine q_ic_ge rfl (fun (hc0 : (Int32.ofNat e) ≤ (Int32.ofNat i)) => ?_) (fun hc0 => absurd (show (Int32.ofNat e) ≤ (Int32.ofNat i) from by exact (q_le (by omega) (by omega)).mpr (by omega)) hc0)
    refine q_step 6 55 [(0, .ref 9), (1, .int (Int32.ofNat i))] [.int (2 : Int32), .int ((Int32.ofNat e) - (Int32.ofNat f))] (s_9 2 (Int32.ofNat f) a (Int32.ofNat e) g) u (fun big n0 => sg_tk_17 big n0 (s_9 2 (Int32.ofNat f) a (Int32.ofNat e) g) u (Int32.ofNat i)) ?_
    refine q_ic_le rfl (fun (hc1 : ((Int32.ofNat e) - (Int32.ofNat f)) ≤ (2 : Int32)) => ?_) (fun (hc1 : ¬ (((Int32.ofNat e) - (Int32.ofNat f)) ≤ (2 : Int32))) => ?_)
    · refine q_ret 1 (none, (s_9 2 (Int32.ofNat f) a (Int32.ofNat e) g), u) (fun _ _ => rfl) ?_
      rw [if_pos hc1]
      rfl
    · refine q_ret 4 (none, (q_up (s_9 2 (Int32.ofNat f) a (Int32.ofNat e) g) 9 2 (0 : Int32)), u) (fun _ _ => rfl) ?_
      rw [if_neg hc1, s_9_2]
      rfl
  | succ m ih =>
    intro i a hi
    refine q_step 3 15 [(0, .ref 9), (1, .int (Int32.ofNat i))] [.int (Int32.ofNat e), .int (Int32.ofNat i)] (s_9 2 (Int32.ofNat f) a (Int32.ofNat e) g) u (fun big n0 => sg_tk_16 big n0 (s_9 2 (Int32.ofNat f) a (Int32.ofNat e) g) u (Int32.ofNat i)) ?_
    refine q_ic_ge rfl (fun hc0 => absurd (show (Int32.ofNat e) ≤ (Int32.ofNat i) from hc0) (fun z => by exact absurd ((q_le (by omega) (by omega)).mp z) (by omega))) (fun (hc0 : ¬ ((Int32.ofNat e) ≤ (Int32.ofNat i))) => ?_)
    refine q_step 8 31 [(0, .ref 9), (1, .int (Int32.ofNat i))] [.int (Int32.ofNat i), .ref 10, .int (a * (10 : Int32)), .ref 9] (s_9 2 (Int32.ofNat f) a (Int32.ofNat e) g) u (fun big n0 => sg_tk_18 big n0 (s_9 2 (Int32.ofNat f) a (Int32.ofNat e) g) u (Int32.ofNat i)) ?_
    refine q_bald (j := i) (q_ixn (by omega) (by omega)) rfl (by decide) rfl ?_
    refine q_step 6 10 [(0, .ref 9), (1, .int ((Int32.ofNat i) + (1 : Int32)))] [] (q_up (s_9 2 (Int32.ofNat f) a (Int32.ofNat e) g) 9 4 (((a * (10 : Int32)) + (g 10 i)) - (48 : Int32))) u (fun big n0 => sg_tk_19 big n0 (s_9 2 (Int32.ofNat f) a (Int32.ofNat e) g) u (Int32.ofNat i) (a * (10 : Int32)) (g 10 i)) ?_
    rw [q_succ, show (q_up (s_9 2 (Int32.ofNat f) a (Int32.ofNat e) g) 9 4 (((a * (10 : Int32)) + (g 10 i)) - (48 : Int32))) = s_9 2 (Int32.ofNat f) (a * 10 + g 10 i - 48) (Int32.ofNat e) g from s_9_4, t_vl]
    exact ih (i + 1) _ (by omega)
theorem b_wf (g : qM) (u : qW) {e f : Nat} {v : Int32} (hfe : f ≤ e) (he : e ≤ 160) : q_BS 18 [.ref 9] (s_9 2 (Int32.ofNat f) v (Int32.ofNat e) g) u (none, s_9 (if Int32.ofNat e - Int32.ofNat f ≤ 2 then 2 else 0) (Int32.ofNat f) (t_vl (g 10) (e - f) f 0) (Int32.ofNat e) g, u) := by
  refine q_bx (mm := m_18) rfl (Nat.le_of_ble_eq_true rfl) rfl ?_
  refine q_step 6 10 [(0, .ref 9), (1, .int (Int32.ofNat f))] [] (q_up (s_9 2 (Int32.ofNat f) v (Int32.ofNat e) g) 9 4 (0 : Int32)) u (fun big n0 => sg_tk_20 big n0 (s_9 2 (Int32.ofNat f) v (Int32.ofNat e) g) u) ?_
  rw [show (q_up (s_9 2 (Int32.ofNat f) v (Int32.ofNat e) g) 9 4 (0 : Int32)) = s_9 2 (Int32.ofNat f) 0 (Int32.ofNat e) g from s_9_4]
  exact wf_l g u he (e - f) f 0 (by omega)
theorem c_next {s p : Nat} (g : qM) (u : qW) (hs : g 9 1 = Int32.ofNat s) (h160 : s ≤ 160) (hp5 : g 9 5 = Int32.ofNat p) (hp : p ≤ s) : ∃ R, q_BS 16 [.ref 9] g u R ∧ ∃ k v, R = (none, s_9 k (Int32.ofNat (t_fi (g 10) s p)) v (Int32.ofNat (t_pl (g 10) s p)) g, u) ∧ k = t_ki (g 10) s p ∧ (t_ki (g 10) s p = 2 → v = t_va (g 10) s p) := by
  refine q_bs (mm := m_16) rfl (Nat.le_of_ble_eq_true rfl) rfl ?_
  rw [show q_EV m_16 0 (lv_args 0 [.ref 9]) [] g u = q_EV m_16 0 [(0, .ref 9)] [] (s_9 (g 9 2) (g 9 3) (g 9 4) (Int32.ofNat p) g) u from by rw [← hp5, s_9_0]; rfl]
  refine nt_sk g u hs h160 (s - p) p (by omega) ?_
  have hfb := t_fi_b (b := g 10) hp
  have hpb := t_pl_b (b := g 10) hp
  rw [show t_sk (g 10) (s - p) p = t_fi (g 10) s p from rfl]
  refine q_step 11 59 [(0, .ref 9)] [.int (g 9 1), .int (Int32.ofNat (t_fi (g 10) s p))] (q_up (q_up (s_9 (g 9 2) (g 9 3) (g 9 4) (Int32.ofNat (t_fi (g 10) s p)) g) 9 3 (Int32.ofNat (t_fi (g 10) s p))) 9 2 (4 : Int32)) u (fun big n0 => sg_tk_21 big n0 (s_9 (g 9 2) (g 9 3) (g 9 4) (Int32.ofNat (t_fi (g 10) s p)) g) u) ?_
  refine q_ic_ge rfl (fun (hc0 : (g 9 1) ≤ (Int32.ofNat (t_fi (g 10) s p))) => ?_) (fun (hc0 : ¬ ((g 9 1) ≤ (Int32.ofNat (t_fi (g 10) s p)))) => ?_)
  · rw [show (q_up (q_up (s_9 (g 9 2) (g 9 3) (g 9 4) (Int32.ofNat (t_fi (g 10) s p)) g) 9 3 (Int32.ofNat (t_fi (g 10) s p))) 9 2 (4 : Int32)) = s_9 4 (Int32.ofNat (t_fi (g 10) s p)) (g 9 4) (Int32.ofNat (t_fi (g 10) s p)) g from by rw [s_9_3, s_9_2]]
    refine q_step 4 96 [(0, .ref 9)] [.int (g 9 1), .int (Int32.ofNat (t_fi (g 10) s p))] (s_9 (4 : Int32) (Int32.ofNat (t_fi (g 10) s p)) (g 9 4) (Int32.ofNat (t_fi (g 10) s p)) g) u (fun big n0 => sg_tk_10 big n0 (s_9 (4 : Int32) (Int32.ofNat (t_fi (g 10) s p)) (g 9 4) (Int32.ofNat (t_fi (g 10) s p)) g) u) ?_
    refine q_ic_ge rfl (fun (hc10 : (g 9 1) ≤ (Int32.ofNat (t_fi (g 10) s p))) => ?_) (fun hc10 => absurd (show (g 9 1) ≤ (Int32.ofNat (t_fi (g 10) s p)) from hc0) hc10)
    refine q_step 3 152 [(0, .ref 9)] [.int (2 : Int32), .int (4 : Int32)] (s_9 (4 : Int32) (Int32.ofNat (t_fi (g 10) s p)) (g 9 4) (Int32.ofNat (t_fi (g 10) s p)) g) u (fun big n0 => sg_tk_22 big n0 (s_9 (4 : Int32) (Int32.ofNat (t_fi (g 10) s p)) (g 9 4) (Int32.ofNat (t_fi (g 10) s p)) g) u) ?_
    refine q_ic_ne rfl (fun hc11 => absurd (show (4 : Int32) = (2 : Int32) from hc11) (by decide)) (fun (hc11 : ¬ ((4 : Int32) = (2 : Int32))) => ?_)
    refine q_ret 1 (none, (s_9 (4 : Int32) (Int32.ofNat (t_fi (g 10) s p)) (g 9 4) (Int32.ofNat (t_fi (g 10) s p)) g), u) (fun _ _ => rfl) ?_
    have e : s ≤ (t_fi (g 10) s p) := (q_le (by omega) (by omega)).mp (by rw [← hs]; exact hc0)
    have e0 : (t_k0 (g 10) s p) = 4 := if_pos e
    have ek : t_ki (g 10) s p = 4 := by unfold t_ki; rw [e0, if_neg (by decide)]
    have ep : (t_pl (g 10) s p) = (t_fi (g 10) s p) := if_pos e
    exact ⟨4, g 9 4, by rw [ep], ek.symm, fun z => absurd (ek.symm.trans z) (by decide)⟩
  · refine q_step 5 71 [(0, .ref 9)] [.int (Int32.ofNat (t_fi (g 10) s p)), .ref 10, .ref 9] (q_up (q_up (s_9 (g 9 2) (g 9 3) (g 9 4) (Int32.ofNat (t_fi (g 10) s p)) g) 9 3 (Int32.ofNat (t_fi (g 10) s p))) 9 2 (4 : Int32)) u (fun big n0 => sg_tk_23 big n0 (q_up (q_up (s_9 (g 9 2) (g 9 3) (g 9 4) (Int32.ofNat (t_fi (g 10) s p)) g) 9 3 (Int32.ofNat (t_fi (g 10) s p))) 9 2 (4 : Int32)) u) ?_
    refine q_bald (j := (t_fi (g 10) s p)) (q_ixn (by have z : ¬ s ≤ (t_fi (g 10) s p) := fun q => hc0 (by rw [hs]; exact (q_le (by omega) (by omega)).mpr q); omega) (by omega)) rfl (by decide) rfl ?_
    refine q_call (M2 := 17) (rest := [.ref 9]) (b_kind _ _ _) (fun _ _ => rfl) ?_
    refine q_step 7 88 [(0, .ref 9)] [] (q_up (q_up (q_up (q_up (s_9 (g 9 2) (g 9 3) (g 9 4) (Int32.ofNat (t_fi (g 10) s p)) g) 9 3 (Int32.ofNat (t_fi (g 10) s p))) 9 2 (4 : Int32)) 9 2 (t_kd (g 10 (t_fi (g 10) s p)))) 9 5 ((Int32.ofNat (t_fi (g 10) s p)) + (1 : Int32))) u (fun big n0 => sg_tk_24 big n0 (q_up (q_up (s_9 (g 9 2) (g 9 3) (g 9 4) (Int32.ofNat (t_fi (g 10) s p)) g) 9 3 (Int32.ofNat (t_fi (g 10) s p))) 9 2 (4 : Int32)) u (t_kd (g 10 (t_fi (g 10) s p)))) ?_
    have e : ¬ s ≤ (t_fi (g 10) s p) := fun z => hc0 (by rw [hs]; exact (q_le (by omega) (by omega)).mpr z)
    have e0 : (t_k0 (g 10) s p) = t_kd (g 10 (t_fi (g 10) s p)) := if_neg e
    rw [show (q_up (q_up (q_up (q_up (s_9 (g 9 2) (g 9 3) (g 9 4) (Int32.ofNat (t_fi (g 10) s p)) g) 9 3 (Int32.ofNat (t_fi (g 10) s p))) 9 2 (4 : Int32)) 9 2 (t_kd (g 10 (t_fi (g 10) s p)))) 9 5 ((Int32.ofNat (t_fi (g 10) s p)) + (1 : Int32))) = s_9 (t_kd (g 10 (t_fi (g 10) s p))) (Int32.ofNat (t_fi (g 10) s p)) (g 9 4) (Int32.ofNat ((t_fi (g 10) s p) + 1)) g from by rw [s_9_3, s_9_2, s_9_2, s_9_5, q_succ]]
    rcases t_kd_4 (g 10 (t_fi (g 10) s p)) with e1 | e1 | e1 | e1
    · have ep : (t_pl (g 10) s p) = (t_fi (g 10) s p) + 1 := by unfold t_pl; rw [if_neg e, e0, e1, if_neg (by decide), if_neg (by decide)]
      have ek : t_ki (g 10) s p = 0 := by unfold t_ki; rw [e0, e1, if_neg (by decide)]
      rw [e1]
      refine q_step 4 96 [(0, .ref 9)] [.int (g 9 1), .int (Int32.ofNat ((t_fi (g 10) s p) + 1))] (s_9 (0 : Int32) (Int32.ofNat (t_fi (g 10) s p)) (g 9 4) (Int32.ofNat ((t_fi (g 10) s p) + 1)) g) u (fun big n0 => sg_tk_10 big n0 (s_9 (0 : Int32) (Int32.ofNat (t_fi (g 10) s p)) (g 9 4) (Int32.ofNat ((t_fi (g 10) s p) + 1)) g) u) ?_
      refine q_ic_ge rfl (fun (hc10 : (g 9 1) ≤ (Int32.ofNat ((t_fi (g 10) s p) + 1))) => ?_) (fun (hc10 : ¬ ((g 9 1) ≤ (Int32.ofNat ((t_fi (g 10) s p) + 1)))) => ?_)
      · refine q_step 3 152 [(0, .ref 9)] [.int (2 : Int32), .int (0 : Int32)] (s_9 (0 : Int32) (Int32.ofNat (t_fi (g 10) s p)) (g 9 4) (Int32.ofNat ((t_fi (g 10) s p) + 1)) g) u (fun big n0 => sg_tk_22 big n0 (s_9 (0 : Int32) (Int32.ofNat (t_fi (g 10) s p)) (g 9 4) (Int32.ofNat ((t_fi (g 10) s p) + 1)) g) u) ?_
        refine q_ic_ne rfl (fun hc11 => absurd (show (0 : Int32) = (2 : Int32) from hc11) (by decide)) (fun (hc11 : ¬ ((0 : Int32) = (2 : Int32))) => ?_)
        refine q_ret 1 (none, (s_9 (0 : Int32) (Int32.ofNat (t_fi (g 10) s p)) (g 9 4) (Int32.ofNat ((t_fi (g 10) s p) + 1)) g), u) (fun _ _ => rfl) ?_
        exact ⟨0, g 9 4, by rw [ep], ek.symm, fun z => absurd (ek.symm.trans z) (by decide)⟩
      · refine q_step 3 104 [(0, .ref 9)] [.int (1 : Int32), .int (0 : Int32)] (s_9 (0 : Int32) (Int32.ofNat (t_fi (g 10) s p)) (g 9 4) (Int32.ofNat ((t_fi (g 10) s p) + 1)) g) u (fun big n0 => sg_tk_11 big n0 (s_9 (0 : Int32) (Int32.ofNat (t_fi (g 10) s p)) (g 9 4) (Int32.ofNat ((t_fi (g 10) s p) + 1)) g) u) ?_
        refine q_ic_eq rfl (fun hc11 => absurd (show (0 : Int32) = (1 : Int32) from hc11) (by decide)) (fun (hc11 : ¬ ((0 : Int32) = (1 : Int32))) => ?_)
        refine q_step 3 112 [(0, .ref 9)] [.int (2 : Int32), .int (0 : Int32)] (s_9 (0 : Int32) (Int32.ofNat (t_fi (g 10) s p)) (g 9 4) (Int32.ofNat ((t_fi (g 10) s p) + 1)) g) u (fun big n0 => sg_tk_15 big n0 (s_9 (0 : Int32) (Int32.ofNat (t_fi (g 10) s p)) (g 9 4) (Int32.ofNat ((t_fi (g 10) s p) + 1)) g) u) ?_
        refine q_ic_ne rfl (fun hc12 => absurd (show (0 : Int32) = (2 : Int32) from hc12) (by decide)) (fun (hc12 : ¬ ((0 : Int32) = (2 : Int32))) => ?_)
        refine q_step 3 152 [(0, .ref 9)] [.int (2 : Int32), .int (0 : Int32)] (s_9 (0 : Int32) (Int32.ofNat (t_fi (g 10) s p)) (g 9 4) (Int32.ofNat ((t_fi (g 10) s p) + 1)) g) u (fun big n0 => sg_tk_22 big n0 (s_9 (0 : Int32) (Int32.ofNat (t_fi (g 10) s p)) (g 9 4) (Int32.ofNat ((t_fi (g 10) s p) + 1)) g) u) ?_
        refine q_ic_ne rfl (fun hc13 => absurd (show (0 : Int32) = (2 : Int32) from hc13) (by decide)) (fun (hc13 : ¬ ((0 : Int32) = (2 : Int32))) => ?_)
        refine q_ret 1 (none, (s_9 (0 : Int32) (Int32.ofNat (t_fi (g 10) s p)) (g 9 4) (Int32.ofNat ((t_fi (g 10) s p) + 1)) g), u) (fun _ _ => rfl) ?_
        exact ⟨0, g 9 4, by rw [ep], ek.symm, fun z => absurd (ek.symm.trans z) (by decide)⟩
    · have ep : (t_pl (g 10) s p) = t_ru (g 10) 1 (s - ((t_fi (g 10) s p) + 1)) ((t_fi (g 10) s p) + 1) := by unfold t_pl; rw [if_neg e, e0, e1, if_pos rfl]
      have ek : t_ki (g 10) s p = 1 := by unfold t_ki; rw [e0, e1, if_neg (by decide)]
      rw [e1]
      refine nt_ru1 g u hs h160 (s - ((t_fi (g 10) s p) + 1)) ((t_fi (g 10) s p) + 1) (by omega) ?_
      rw [← ep]
      refine q_step 3 152 [(0, .ref 9)] [.int (2 : Int32), .int (1 : Int32)] (s_9 (1 : Int32) (Int32.ofNat (t_fi (g 10) s p)) (g 9 4) (Int32.ofNat (t_pl (g 10) s p)) g) u (fun big n0 => sg_tk_22 big n0 (s_9 (1 : Int32) (Int32.ofNat (t_fi (g 10) s p)) (g 9 4) (Int32.ofNat (t_pl (g 10) s p)) g) u) ?_
      refine q_ic_ne rfl (fun hc10 => absurd (show (1 : Int32) = (2 : Int32) from hc10) (by decide)) (fun (hc10 : ¬ ((1 : Int32) = (2 : Int32))) => ?_)
      refine q_ret 1 (none, (s_9 (1 : Int32) (Int32.ofNat (t_fi (g 10) s p)) (g 9 4) (Int32.ofNat (t_pl (g 10) s p)) g), u) (fun _ _ => rfl) ?_
      exact ⟨1, g 9 4, rfl, ek.symm, fun z => absurd (ek.symm.trans z) (by decide)⟩
    · have ep : (t_pl (g 10) s p) = t_ru (g 10) 2 (s - ((t_fi (g 10) s p) + 1)) ((t_fi (g 10) s p) + 1) := by unfold t_pl; rw [if_neg e, e0, e1, if_neg (by decide), if_pos rfl]
      rw [e1]
      refine nt_ru2 g u hs h160 (s - ((t_fi (g 10) s p) + 1)) ((t_fi (g 10) s p) + 1) (by omega) ?_
      rw [← ep]
      refine q_step 3 152 [(0, .ref 9)] [.int (2 : Int32), .int (2 : Int32)] (s_9 (2 : Int32) (Int32.ofNat (t_fi (g 10) s p)) (g 9 4) (Int32.ofNat (t_pl (g 10) s p)) g) u (fun big n0 => sg_tk_22 big n0 (s_9 (2 : Int32) (Int32.ofNat (t_fi (g 10) s p)) (g 9 4) (Int32.ofNat (t_pl (g 10) s p)) g) u) ?_
      refine q_ic_ne rfl (fun (hc10 : (2 : Int32) = (2 : Int32)) => ?_) (fun hc10 => absurd (show (2 : Int32) = (2 : Int32) from rfl) hc10)
      refine q_step 1 156 [(0, .ref 9)] [.ref 9] (s_9 (2 : Int32) (Int32.ofNat (t_fi (g 10) s p)) (g 9 4) (Int32.ofNat (t_pl (g 10) s p)) g) u (fun big n0 => sg_tk_25 big n0 (s_9 (2 : Int32) (Int32.ofNat (t_fi (g 10) s p)) (g 9 4) (Int32.ofNat (t_pl (g 10) s p)) g) u) ?_
      refine q_call (M2 := 18) (rest := []) (b_wf g u (v := g 9 4) (f := (t_fi (g 10) s p)) (e := (t_pl (g 10) s p)) (by omega) (by omega)) (fun _ _ => rfl) ?_
      refine q_ret 1 (none, (s_9 (if Int32.ofNat (t_pl (g 10) s p) - Int32.ofNat (t_fi (g 10) s p) ≤ 2 then 2 else 0) (Int32.ofNat (t_fi (g 10) s p)) (t_va (g 10) s p) (Int32.ofNat (t_pl (g 10) s p)) g), u) (fun _ _ => rfl) ?_
      refine ⟨_, t_va (g 10) s p, rfl, ?_, fun _ => rfl⟩
      unfold t_ki
      rw [e0, e1, if_pos rfl, q_sb (by omega) (by omega)]
      by_cases l : (t_pl (g 10) s p) ≤ (t_fi (g 10) s p) + 2
      · rw [if_pos l, if_pos (show Int32.ofNat ((t_pl (g 10) s p) - (t_fi (g 10) s p)) ≤ (2 : Int32) from (q_le (i := (t_pl (g 10) s p) - (t_fi (g 10) s p)) (j := 2) (by omega) (by omega)).mpr (by omega))]
      · rw [if_neg l, if_neg (show ¬ Int32.ofNat ((t_pl (g 10) s p) - (t_fi (g 10) s p)) ≤ (2 : Int32) from fun z => l (by have z2 := (q_le (i := (t_pl (g 10) s p) - (t_fi (g 10) s p)) (j := 2) (by omega) (by omega)).mp z; omega))]
    · have ep : (t_pl (g 10) s p) = (t_fi (g 10) s p) + 1 := by unfold t_pl; rw [if_neg e, e0, e1, if_neg (by decide), if_neg (by decide)]
      have ek : t_ki (g 10) s p = 3 := by unfold t_ki; rw [e0, e1, if_neg (by decide)]
      rw [e1]
      refine q_step 4 96 [(0, .ref 9)] [.int (g 9 1), .int (Int32.ofNat ((t_fi (g 10) s p) + 1))] (s_9 (3 : Int32) (Int32.ofNat (t_fi (g 10) s p)) (g 9 4) (Int32.ofNat ((t_fi (g 10) s p) + 1)) g) u (fun big n0 => sg_tk_10 big n0 (s_9 (3 : Int32) (Int32.ofNat (t_fi (g 10) s p)) (g 9 4) (Int32.ofNat ((t_fi (g 10) s p) + 1)) g) u) ?_
      refine q_ic_ge rfl (fun (hc10 : (g 9 1) ≤ (Int32.ofNat ((t_fi (g 10) s p) + 1))) => ?_) (fun (hc10 : ¬ ((g 9 1) ≤ (Int32.ofNat ((t_fi (g 10) s p) + 1)))) => ?_)
      · refine q_step 3 152 [(0, .ref 9)] [.int (2 : Int32), .int (3 : Int32)] (s_9 (3 : Int32) (Int32.ofNat (t_fi (g 10) s p)) (g 9 4) (Int32.ofNat ((t_fi (g 10) s p) + 1)) g) u (fun big n0 => sg_tk_22 big n0 (s_9 (3 : Int32) (Int32.ofNat (t_fi (g 10) s p)) (g 9 4) (Int32.ofNat ((t_fi (g 10) s p) + 1)) g) u) ?_
        refine q_ic_ne rfl (fun hc11 => absurd (show (3 : Int32) = (2 : Int32) from hc11) (by decide)) (fun (hc11 : ¬ ((3 : Int32) = (2 : Int32))) => ?_)
        refine q_ret 1 (none, (s_9 (3 : Int32) (Int32.ofNat (t_fi (g 10) s p)) (g 9 4) (Int32.ofNat ((t_fi (g 10) s p) + 1)) g), u) (fun _ _ => rfl) ?_
        exact ⟨3, g 9 4, by rw [ep], ek.symm, fun z => absurd (ek.symm.trans z) (by decide)⟩
      · refine q_step 3 104 [(0, .ref 9)] [.int (1 : Int32), .int (3 : Int32)] (s_9 (3 : Int32) (Int32.ofNat (t_fi (g 10) s p)) (g 9 4) (Int32.ofNat ((t_fi (g 10) s p) + 1)) g) u (fun big n0 => sg_tk_11 big n0 (s_9 (3 : Int32) (Int32.ofNat (t_fi (g 10) s p)) (g 9 4) (Int32.ofNat ((t_fi (g 10) s p) + 1)) g) u) ?_
        refine q_ic_eq rfl (fun hc11 => absurd (show (3 : Int32) = (1 : Int32) from hc11) (by decide)) (fun (hc11 : ¬ ((3 : Int32) = (1 : Int32))) => ?_)
        refine q_step 3 112 [(0, .ref 9)] [.int (2 : Int32), .int (3 : Int32)] (s_9 (3 : Int32) (Int32.ofNat (t_fi (g 10) s p)) (g 9 4) (Int32.ofNat ((t_fi (g 10) s p) + 1)) g) u (fun big n0 => sg_tk_15 big n0 (s_9 (3 : Int32) (Int32.ofNat (t_fi (g 10) s p)) (g 9 4) (Int32.ofNat ((t_fi (g 10) s p) + 1)) g) u) ?_
        refine q_ic_ne rfl (fun hc12 => absurd (show (3 : Int32) = (2 : Int32) from hc12) (by decide)) (fun (hc12 : ¬ ((3 : Int32) = (2 : Int32))) => ?_)
        refine q_step 3 152 [(0, .ref 9)] [.int (2 : Int32), .int (3 : Int32)] (s_9 (3 : Int32) (Int32.ofNat (t_fi (g 10) s p)) (g 9 4) (Int32.ofNat ((t_fi (g 10) s p) + 1)) g) u (fun big n0 => sg_tk_22 big n0 (s_9 (3 : Int32) (Int32.ofNat (t_fi (g 10) s p)) (g 9 4) (Int32.ofNat ((t_fi (g 10) s p) + 1)) g) u) ?_
        refine q_ic_ne rfl (fun hc13 => absurd (show (3 : Int32) = (2 : Int32) from hc13) (by decide)) (fun (hc13 : ¬ ((3 : Int32) = (2 : Int32))) => ?_)
        refine q_ret 1 (none, (s_9 (3 : Int32) (Int32.ofNat (t_fi (g 10) s p)) (g 9 4) (Int32.ofNat ((t_fi (g 10) s p) + 1)) g), u) (fun _ _ => rfl) ?_
        exact ⟨3, g 9 4, by rw [ep], ek.symm, fun z => absurd (ek.symm.trans z) (by decide)⟩
