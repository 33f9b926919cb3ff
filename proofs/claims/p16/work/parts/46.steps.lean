/-! STEPS of the class, one behind another (it ends early where a STEP changes nothing). -/
def s_tw (T n W H : Nat) (g : qM) : Prop := g T 3 = Int32.ofNat n ∧ g T 0 = Int32.ofNat W ∧ g T 1 = Int32.ofNat H ∧ s_iv T n W H g
/-- a reference's cells that tell of the town T -/
def s_mk (T : Nat) (g : qM) : qM := fun a j => if a = 70 then (if j = 27 then g T 3 else if j = 2 then g T 0 else if j = 3 then g T 1 else 0) else if a = 71 then (if j = 20 then g T 2 else if j = 25 then g T 4 else g (T + 5) (j - 20)) else if a = 75 then g (T + 1) j else if a = 76 then g (T + 2) j else if a = 77 then g (T + 3) j else 0
theorem s_mk_vw {T n W H : Nat} {g : qM} (h : s_tw T n W H g) : s_vw T n W H g (s_mk T g) := by
  obtain ⟨h1, h2, h3, _⟩ := h
  refine ⟨h1, h1, h2, h3, h2, h3, rfl, rfl, fun d h4 h5 => ?_, fun p _ => rfl, fun p _ => rfl, fun p _ => rfl⟩
  show (if 20 + d = 20 then g T 2 else if 20 + d = 25 then g T 4 else g (T + 5) (20 + d - 20)) = g (T + 5) d
  rw [if_neg (by omega), if_neg (by omega), show 20 + d - 20 = d by omega]
theorem s_tw_far {T n W H : Nat} {g : qM} (hW : 2 ≤ W) (hW5 : W ≤ 5) (hH5 : H ≤ 5) (h : s_tw T n W H g) : (¬ g T 0 ≤ 0) ∧ ∀ p q, p < n → q < n → 0 ≤ (s_far (g T 0) (g (T + 1) p) (g (T + 1) q)).toInt := by
  obtain ⟨_, h2, _, h4⟩ := h
  have hWH : W * H ≤ 25 := Nat.le_trans (Nat.mul_le_mul hW5 hH5) (Nat.le_refl 25)
  rw [h2]
  refine ⟨fun z => ?_, fun p q hp hq => ?_⟩
  · have := s_le0.mp z
    rw [q_nat (by omega)] at this
    omega
  · obtain ⟨C, hC, ec⟩ := h4.1 p hp
    obtain ⟨D, hD, ed⟩ := h4.1 q hq
    rw [ec, ed]
    exact (s_far_b (s_rgw hW hW5) (s_rgc hC hWH) (s_rgc hD hWH)).2.1
/-- the cells behind k STEPS at most, the town's count of STEPS aside -/
def s_tss (T n : Nat) : Nat → qM → qM
  | 0, g => g
  | k + 1, g => if s_step T n g 28 5 = 0 ∧ s_step T n g 28 6 = 0 then s_step T n g else s_tss T n k (s_step T n g)
theorem sg_tss_1 (big : Nat → List Value → qM → qW → qR) (n0 : Nat) (G : qM) (U : qW) (v0 : Int32) (v1 : Int32) (v2 : Int32) : qm_run pm_m big m_76 (n0 + 2) 10 [(0, .ref 28), (1, .ref 20), (2, .int v0), (3, .int v1), (4, .int v2)] [] G U = qm_run pm_m big m_76 n0 13 [(0, .ref 28), (1, .ref 20), (2, .int v0), (3, .int v1), (4, .int v2)] [.int v0, .int v2] G U := rfl
theorem sg_tss_2 (big : Nat → List Value → qM → qW → qR) (n0 : Nat) (G : qM) (U : qW) (v0 : Int32) (v1 : Int32) (v2 : Int32) : qm_run pm_m big m_76 (n0 + 2) 16 [(0, .ref 28), (1, .ref 20), (2, .int v0), (3, .int v1), (4, .int v2)] [] G U = qm_run pm_m big m_76 n0 18 [(0, .ref 28), (1, .ref 20), (2, .int v0), (3, .int v1), (4, .int v2)] [.ref 20, .ref 28] G U := rfl
theorem sg_tss_3 (big : Nat → List Value → qM → qW → qR) (n0 : Nat) (G : qM) (U : qW) (v0 : Int32) (v1 : Int32) (v2 : Int32) : qm_run pm_m big m_76 (n0 + 1) 21 [(0, .ref 28), (1, .ref 20), (2, .int v0), (3, .int v1), (4, .int v2)] [] G U = qm_run pm_m big m_76 n0 22 [(0, .ref 28), (1, .ref 20), (2, .int v0), (3, .int v1), (4, .int v2)] [.ref 28] G U := rfl
theorem sg_tss_4 (big : Nat → List Value → qM → qW → qR) (n0 : Nat) (G : qM) (U : qW) (v0 : Int32) (v1 : Int32) (v2 : Int32) : qm_run pm_m big m_76 (n0 + 2) 31 [(0, .ref 28), (1, .ref 20), (2, .int v0), (3, .int v1), (4, .int v2)] [] G U = qm_run pm_m big m_76 n0 10 [(0, .ref 28), (1, .ref 20), (2, .int v0), (3, .int v1), (4, .int (v2 + (1 : Int32)))] [] G U := rfl
theorem sg_tss_5 (big : Nat → List Value → qM → qW → qR) (n0 : Nat) (G : qM) (U : qW) (v0 : Int32) : qm_run pm_m big m_76 (n0 + 7) 0 [(0, .ref 28), (1, .ref 20), (2, .int v0)] [] G U = qm_run pm_m big m_76 n0 10 [(0, .ref 28), (1, .ref 20), (2, .int v0), (3, .int ((G 20 5) + v0)), (4, .int (0 : Int32))] [] G U := rfl
theorem sg_tss_6 (big : Nat → List Value → qM → qW → qR) (n0 : Nat) (G : qM) (U : qW) (v0 : Int32) (v1 : Int32) (v2 : Int32) : qm_run pm_m big m_76 (n0 + 2) 10 [(0, .ref 28), (1, .ref 35), (2, .int v0), (3, .int v1), (4, .int v2)] [] G U = qm_run pm_m big m_76 n0 13 [(0, .ref 28), (1, .ref 35), (2, .int v0), (3, .int v1), (4, .int v2)] [.int v0, .int v2] G U := rfl
theorem sg_tss_7 (big : Nat → List Value → qM → qW → qR) (n0 : Nat) (G : qM) (U : qW) (v0 : Int32) (v1 : Int32) (v2 : Int32) : qm_run pm_m big m_76 (n0 + 2) 16 [(0, .ref 28), (1, .ref 35), (2, .int v0), (3, .int v1), (4, .int v2)] [] G U = qm_run pm_m big m_76 n0 18 [(0, .ref 28), (1, .ref 35), (2, .int v0), (3, .int v1), (4, .int v2)] [.ref 35, .ref 28] G U := rfl
theorem sg_tss_8 (big : Nat → List Value → qM → qW → qR) (n0 : Nat) (G : qM) (U : qW) (v0 : Int32) (v1 : Int32) (v2 : Int32) : qm_run pm_m big m_76 (n0 + 1) 21 [(0, .ref 28), (1, .ref 35), (2, .int v0), (3, .int v1), (4, .int v2)] [] G U = qm_run pm_m big m_76 n0 22 [(0, .ref 28), (1, .ref 35), (2, .int v0), (3, .int v1), (4, .int v2)] [.ref 28] G U := rfl
theorem sg_tss_9 (big : Nat → List Value → qM → qW → qR) (n0 : Nat) (G : qM) (U : qW) (v0 : Int32) (v1 : Int32) (v2 : Int32) : qm_run pm_m big m_76 (n0 + 2) 31 [(0, .ref 28), (1, .ref 35), (2, .int v0), (3, .int v1), (4, .int v2)] [] G U = qm_run pm_m big m_76 n0 10 [(0, .ref 28), (1, .ref 35), (2, .int v0), (3, .int v1), (4, .int (v2 + (1 : Int32)))] [] G U := rfl
theorem sg_tss_10 (big : Nat → List Value → qM → qW → qR) (n0 : Nat) (G : qM) (U : qW) (v0 : Int32) : qm_run pm_m big m_76 (n0 + 7) 0 [(0, .ref 28), (1, .ref 35), (2, .int v0)] [] G U = qm_run pm_m big m_76 n0 10 [(0, .ref 28), (1, .ref 35), (2, .int v0), (3, .int ((G 35 5) + v0)), (4, .int (0 : Int32))] [] G U := rfl
theorem s_tw_step20 {n W H : Nat} {g : qM} (hW : 2 ≤ W) (hW5 : W ≤ 5) (hH : 2 ≤ H) (hH5 : H ≤ 5) (h6 : n ≤ 6) (h : s_tw 20 n W H g) : s_tw 20 n W H (s_step 20 n g) := by
  obtain ⟨a, b, _⟩ := s_same_20 hW hW5 hH hH5 h6 (s_mk_vw h) h.2.2.2
  exact ⟨a.1, a.2.2.1, a.2.2.2.1, b⟩
theorem b_st20 (u : qW) {n W H : Nat} {g : qM} (hW : 2 ≤ W) (hW5 : W ≤ 5) (hH : 2 ≤ H) (hH5 : H ≤ 5) (h6 : n ≤ 6) (h : s_tw 20 n W H g) : q_BS 68 [.ref 28, .ref 20] g u (none, s_step 20 n g, u) := b_step20 g u h.1 h6 (s_tw_far hW hW5 hH5 h).1 (s_tw_far hW hW5 hH5 h).2
theorem ts_20 (u : qW) {n W H m : Nat} {la : Int32} (hW : 2 ≤ W) (hW5 : W ≤ 5) (hH : 2 ≤ H) (hH5 : H ≤ 5) (h6 : n ≤ 6) (hm : m ≤ 60) : ∀ k i g, i + k = m → s_tw 20 n W H g → q_EV m_76 10 [(0, .ref 28), (1, .ref 20), (2, .int (Int32.ofNat m)), (3, .int la), (4, .int (Int32.ofNat i))] [] g u (fun R => R = (none, q_up (s_tss 20 n k g) 20 5 la, u)) := by
  intro k
  induction k with
  | zero =>
    intro i g hi hg
    refine q_step 2 13 [(0, .ref 28), (1, .ref 20), (2, .int (Int32.ofNat m)), (3, .int la), (4, .int (Int32.ofNat i))] [.int (Int32.ofNat m), .int (Int32.ofNat i)] g u (fun big n0 => sg_tss_1 big n0 g u (Int32.ofNat m) la (Int32.ofNat i)) ?_
    refine q_ic_ge rfl (fun (hc0 : (Int32.ofNat m) ≤ (Int32.ofNat i)) => ?_) (fun hc0 => absurd (show (Int32.ofNat m) ≤ (Int32.ofNat i) from by rw [q_le (by omega) (by omega)]; omega) hc0)
    refine q_ret 4 (none, (q_up g 20 5 la), u) (fun _ _ => rfl) ?_
    rfl
  | succ k ih =>
    intro i g hi hg
    refine q_step 2 13 [(0, .ref 28), (1, .ref 20), (2, .int (Int32.ofNat m)), (3, .int la), (4, .int (Int32.ofNat i))] [.int (Int32.ofNat m), .int (Int32.ofNat i)] g u (fun big n0 => sg_tss_1 big n0 g u (Int32.ofNat m) la (Int32.ofNat i)) ?_
    refine q_ic_ge rfl (fun hc0 => absurd (show (Int32.ofNat m) ≤ (Int32.ofNat i) from hc0) (fun z => by rw [q_le (by omega) (by omega)] at z; omega)) (fun (hc0 : ¬ ((Int32.ofNat m) ≤ (Int32.ofNat i))) => ?_)
    refine q_step 2 18 [(0, .ref 28), (1, .ref 20), (2, .int (Int32.ofNat m)), (3, .int la), (4, .int (Int32.ofNat i))] [.ref 20, .ref 28] g u (fun big n0 => sg_tss_2 big n0 g u (Int32.ofNat m) la (Int32.ofNat i)) ?_
    refine q_call (M2 := 68) (rest := []) (b_st20 u hW hW5 hH hH5 h6 hg) (fun _ _ => rfl) ?_
    refine q_step 1 22 [(0, .ref 28), (1, .ref 20), (2, .int (Int32.ofNat m)), (3, .int la), (4, .int (Int32.ofNat i))] [.ref 28] (s_step 20 n g) u (fun big n0 => sg_tss_3 big n0 (s_step 20 n g) u (Int32.ofNat m) la (Int32.ofNat i)) ?_
    refine q_call (M2 := 77) (rest := []) (b_changed (s_step 20 n g) u) (fun _ _ => rfl) ?_
    refine q_if_eq rfl (fun (hc1 : (if (s_step 20 n g) 28 5 = 0 then (if (s_step 20 n g) 28 6 = 0 then (1 : Int32) else 0) else 0) = 0) => ?_) (fun (hc1 : ¬ ((if (s_step 20 n g) 28 5 = 0 then (if (s_step 20 n g) 28 6 = 0 then (1 : Int32) else 0) else 0) = 0)) => ?_)
    · refine q_step 2 10 [(0, .ref 28), (1, .ref 20), (2, .int (Int32.ofNat m)), (3, .int la), (4, .int ((Int32.ofNat i) + (1 : Int32)))] [] (s_step 20 n g) u (fun big n0 => sg_tss_4 big n0 (s_step 20 n g) u (Int32.ofNat m) la (Int32.ofNat i)) ?_
      have e : ¬ ((s_step 20 n g) 28 5 = 0 ∧ (s_step 20 n g) 28 6 = 0) := fun z => by
        have q := hc1
        rw [if_pos z.1, if_pos z.2] at q
        exact absurd q (by decide)
      unfold s_tss
      rw [if_neg e, q_succ]
      exact ih (i + 1) (s_step 20 n g) (by omega) (s_tw_step20 hW hW5 hH hH5 h6 hg)
    · refine q_ret 5 (none, (q_up (s_step 20 n g) 20 5 la), u) (fun _ _ => rfl) ?_
      have e : (s_step 20 n g) 28 5 = 0 ∧ (s_step 20 n g) 28 6 = 0 := by
        by_cases a : (s_step 20 n g) 28 5 = 0
        · by_cases b : (s_step 20 n g) 28 6 = 0
          · exact ⟨a, b⟩
          · exact absurd (by rw [if_pos a, if_neg b]) hc1
        · exact absurd (by rw [if_neg a]) hc1
      unfold s_tss
      rw [if_pos e]
theorem b_tss20 (u : qW) {n W H m : Nat} {g : qM} (hW : 2 ≤ W) (hW5 : W ≤ 5) (hH : 2 ≤ H) (hH5 : H ≤ 5) (h6 : n ≤ 6) (hm : m ≤ 60) (h : s_tw 20 n W H g) : q_BS 76 [.ref 28, .ref 20, .int (Int32.ofNat m)] g u (none, q_up (s_tss 20 n m g) 20 5 (g 20 5 + Int32.ofNat m), u) := by
  refine q_bx (mm := m_76) rfl (Nat.le_of_ble_eq_true rfl) rfl ?_
  refine q_step 7 10 [(0, .ref 28), (1, .ref 20), (2, .int (Int32.ofNat m)), (3, .int ((g 20 5) + (Int32.ofNat m))), (4, .int (0 : Int32))] [] g u (fun big n0 => sg_tss_5 big n0 g u (Int32.ofNat m)) ?_
  exact ts_20 u hW hW5 hH hH5 h6 hm m 0 g (by omega) h
theorem s_tw_step35 {n W H : Nat} {g : qM} (hW : 2 ≤ W) (hW5 : W ≤ 5) (hH : 2 ≤ H) (hH5 : H ≤ 5) (h6 : n ≤ 6) (h : s_tw 35 n W H g) : s_tw 35 n W H (s_step 35 n g) := by
  obtain ⟨a, b, _⟩ := s_same_35 hW hW5 hH hH5 h6 (s_mk_vw h) h.2.2.2
  exact ⟨a.1, a.2.2.1, a.2.2.2.1, b⟩
theorem b_st35 (u : qW) {n W H : Nat} {g : qM} (hW : 2 ≤ W) (hW5 : W ≤ 5) (hH : 2 ≤ H) (hH5 : H ≤ 5) (h6 : n ≤ 6) (h : s_tw 35 n W H g) : q_BS 68 [.ref 28, .ref 35] g u (none, s_step 35 n g, u) := b_step35 g u h.1 h6 (s_tw_far hW hW5 hH5 h).1 (s_tw_far hW hW5 hH5 h).2
theorem ts_35 (u : qW) {n W H m : Nat} {la : Int32} (hW : 2 ≤ W) (hW5 : W ≤ 5) (hH : 2 ≤ H) (hH5 : H ≤ 5) (h6 : n ≤ 6) (hm : m ≤ 60) : ∀ k i g, i + k = m → s_tw 35 n W H g → q_EV m_76 10 [(0, .ref 28), (1, .ref 35), (2, .int (Int32.ofNat m)), (3, .int la), (4, .int (Int32.ofNat i))] [] g u (fun R => R = (none, q_up (s_tss 35 n k g) 35 5 la, u)) := by
  intro k
  induction k with
  | zero =>
    intro i g hi hg
    refine q_step 2 13 [(0, .ref 28), (1, .ref 35), (2, .int (Int32.ofNat m)), (3, .int la), (4, .int (Int32.ofNat i))] [.int (Int32.ofNat m), .int (Int32.ofNat i)] g u (fun big n0 => sg_tss_6 big n0 g u (Int32.ofNat m) la (Int32.ofNat i)) ?_
    refine q_ic_ge rfl (fun (hc0 : (Int32.ofNat m) ≤ (Int32.ofNat i)) => ?_) (fun hc0 => absurd (show (Int32.ofNat m) ≤ (Int32.ofNat i) from by rw [q_le (by omega) (by omega)]; omega) hc0)
    refine q_ret 4 (none, (q_up g 35 5 la), u) (fun _ _ => rfl) ?_
    rfl
  | succ k ih =>
    intro i g hi hg
    refine q_step 2 13 [(0, .ref 28), (1, .ref 35), (2, .int (Int32.ofNat m)), (3, .int la), (4, .int (Int32.ofNat i))] [.int (Int32.ofNat m), .int (Int32.ofNat i)] g u (fun big n0 => sg_tss_6 big n0 g u (Int32.ofNat m) la (Int32.ofNat i)) ?_
    refine q_ic_ge rfl (fun hc0 => absurd (show (Int32.ofNat m) ≤ (Int32.ofNat i) from hc0) (fun z => by rw [q_le (by omega) (by omega)] at z; omega)) (fun (hc0 : ¬ ((Int32.ofNat m) ≤ (Int32.ofNat i))) => ?_)
    refine q_step 2 18 [(0, .ref 28), (1, .ref 35), (2, .int (Int32.ofNat m)), (3, .int la), (4, .int (Int32.ofNat i))] [.ref 35, .ref 28] g u (fun big n0 => sg_tss_7 big n0 g u (Int32.ofNat m) la (Int32.ofNat i)) ?_
    refine q_call (M2 := 68) (rest := []) (b_st35 u hW hW5 hH hH5 h6 hg) (fun _ _ => rfl) ?_
    refine q_step 1 22 [(0, .ref 28), (1, .ref 35), (2, .int (Int32.ofNat m)), (3, .int la), (4, .int (Int32.ofNat i))] [.ref 28] (s_step 35 n g) u (fun big n0 => sg_tss_8 big n0 (s_step 35 n g) u (Int32.ofNat m) la (Int32.ofNat i)) ?_
    refine q_call (M2 := 77) (rest := []) (b_changed (s_step 35 n g) u) (fun _ _ => rfl) ?_
    refine q_if_eq rfl (fun (hc1 : (if (s_step 35 n g) 28 5 = 0 then (if (s_step 35 n g) 28 6 = 0 then (1 : Int32) else 0) else 0) = 0) => ?_) (fun (hc1 : ¬ ((if (s_step 35 n g) 28 5 = 0 then (if (s_step 35 n g) 28 6 = 0 then (1 : Int32) else 0) else 0) = 0)) => ?_)
    · refine q_step 2 10 [(0, .ref 28), (1, .ref 35), (2, .int (Int32.ofNat m)), (3, .int la), (4, .int ((Int32.ofNat i) + (1 : Int32)))] [] (s_step 35 n g) u (fun big n0 => sg_tss_9 big n0 (s_step 35 n g) u (Int32.ofNat m) la (Int32.ofNat i)) ?_
      have e : ¬ ((s_step 35 n g) 28 5 = 0 ∧ (s_step 35 n g) 28 6 = 0) := fun z => by
        have q := hc1
        rw [if_pos z.1, if_pos z.2] at q
        exact absurd q (by decide)
      unfold s_tss
      rw [if_neg e, q_succ]
      exact ih (i + 1) (s_step 35 n g) (by omega) (s_tw_step35 hW hW5 hH hH5 h6 hg)
    · refine q_ret 5 (none, (q_up (s_step 35 n g) 35 5 la), u) (fun _ _ => rfl) ?_
      have e : (s_step 35 n g) 28 5 = 0 ∧ (s_step 35 n g) 28 6 = 0 := by
        by_cases a : (s_step 35 n g) 28 5 = 0
        · by_cases b : (s_step 35 n g) 28 6 = 0
          · exact ⟨a, b⟩
          · exact absurd (by rw [if_pos a, if_neg b]) hc1
        · exact absurd (by rw [if_neg a]) hc1
      unfold s_tss
      rw [if_pos e]
theorem b_tss35 (u : qW) {n W H m : Nat} {g : qM} (hW : 2 ≤ W) (hW5 : W ≤ 5) (hH : 2 ≤ H) (hH5 : H ≤ 5) (h6 : n ≤ 6) (hm : m ≤ 60) (h : s_tw 35 n W H g) : q_BS 76 [.ref 28, .ref 35, .int (Int32.ofNat m)] g u (none, q_up (s_tss 35 n m g) 35 5 (g 35 5 + Int32.ofNat m), u) := by
  refine q_bx (mm := m_76) rfl (Nat.le_of_ble_eq_true rfl) rfl ?_
  refine q_step 7 10 [(0, .ref 28), (1, .ref 35), (2, .int (Int32.ofNat m)), (3, .int ((g 35 5) + (Int32.ofNat m))), (4, .int (0 : Int32))] [] g u (fun big n0 => sg_tss_10 big n0 g u (Int32.ofNat m)) ?_
  exact ts_35 u hW hW5 hH hH5 h6 hm m 0 g (by omega) h
