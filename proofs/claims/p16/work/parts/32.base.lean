/-! SMALL METHODS: what they answer. -/
def s_abs (x : Int32) : Int32 := if 0 ≤ x then x else -x
def s_cmp (x y : Int32) : Int32 := if y ≤ x then (if x = y then 0 else 1) else Int32.ofInt (-1)
def s_sgn (x : Int32) : Int32 := if x ≤ 0 then (if 0 ≤ x then 0 else Int32.ofInt (-1)) else 1
def s_in (v lo hi : Int64) : Int32 := if lg_cmp v lo < 0 then 0 else if 0 < lg_cmp v hi then 0 else 1
def s_col (w x : Int32) : Int32 := x - x / w * w
def s_row (w x : Int32) : Int32 := x / w
theorem b_abs (x : Int32) (g : qM) (u : qW) : q_BS 62 [.int x] g u (some (.int (s_abs x)), g, u) := by
  refine q_bx (mm := m_62) rfl (Nat.le_of_ble_eq_true rfl) rfl ?_
  refine q_step 1 1 [(0, .int x)] [.int x] g u (fun _ _ => rfl) ?_
  refine q_if_ge rfl (fun (hc0 : 0 ≤ x) => ?_) (fun (hc0 : ¬ (0 ≤ x)) => ?_)
  · refine q_ret 2 (some (.int x), g, u) (fun _ _ => rfl) ?_
    simp [s_abs, hc0]
  · refine q_ret 4 (some (.int (-x)), g, u) (fun _ _ => rfl) ?_
    simp [s_abs, hc0]
theorem b_cmp (x y : Int32) (g : qM) (u : qW) : q_BS 63 [.int x, .int y] g u (some (.int (s_cmp x y)), g, u) := by
  refine q_bx (mm := m_63) rfl (Nat.le_of_ble_eq_true rfl) rfl ?_
  refine q_step 2 2 [(0, .int x), (1, .int y)] [.int y, .int x] g u (fun _ _ => rfl) ?_
  refine q_ic_ge rfl (fun (hc0 : y ≤ x) => ?_) (fun (hc0 : ¬ (y ≤ x)) => ?_)
  · refine q_step 2 11 [(0, .int x), (1, .int y)] [.int y, .int x] g u (fun _ _ => rfl) ?_
    refine q_ic_ne rfl (fun (hc1 : x = y) => ?_) (fun (hc1 : ¬ (x = y)) => ?_)
    · refine q_ret 3 (some (.int (0 : Int32)), g, u) (fun _ _ => rfl) ?_
      unfold s_cmp
      rw [if_pos hc0, if_pos hc1]
    · refine q_ret 2 (some (.int (1 : Int32)), g, u) (fun _ _ => rfl) ?_
      unfold s_cmp
      rw [if_pos hc0, if_neg hc1]
  · refine q_ret 3 (some (.int (Int32.ofInt (-1))), g, u) (fun _ _ => rfl) ?_
    unfold s_cmp
    rw [if_neg hc0]
theorem b_rabs (x : Int32) (g : qM) (u : qW) : q_BS 186 [.int x] g u (some (.int (s_abs x)), g, u) := by
  refine q_bx (mm := m_186) rfl (Nat.le_of_ble_eq_true rfl) rfl ?_
  refine q_step 1 1 [(0, .int x)] [.int x] g u (fun _ _ => rfl) ?_
  refine q_if_ge rfl (fun (hc0 : 0 ≤ x) => ?_) (fun (hc0 : ¬ (0 ≤ x)) => ?_)
  · refine q_ret 2 (some (.int x), g, u) (fun _ _ => rfl) ?_
    simp [s_abs, hc0]
  · refine q_ret 4 (some (.int (-x)), g, u) (fun _ _ => rfl) ?_
    simp [s_abs, hc0]
theorem b_sgn (x : Int32) (g : qM) (u : qW) : q_BS 187 [.int x] g u (some (.int (s_sgn x)), g, u) := by
  refine q_bx (mm := m_187) rfl (Nat.le_of_ble_eq_true rfl) rfl ?_
  refine q_step 1 1 [(0, .int x)] [.int x] g u (fun _ _ => rfl) ?_
  refine q_if_le rfl (fun (hc0 : x ≤ 0) => ?_) (fun (hc0 : ¬ (x ≤ 0)) => ?_)
  · refine q_step 1 9 [(0, .int x)] [.int x] g u (fun _ _ => rfl) ?_
    refine q_if_ge rfl (fun (hc1 : 0 ≤ x) => ?_) (fun (hc1 : ¬ (0 ≤ x)) => ?_)
    · refine q_ret 2 (some (.int (0 : Int32)), g, u) (fun _ _ => rfl) ?_
      unfold s_sgn
      rw [if_pos hc0, if_pos hc1]
    · refine q_ret 3 (some (.int (Int32.ofInt (-1))), g, u) (fun _ _ => rfl) ?_
      unfold s_sgn
      rw [if_pos hc0, if_neg hc1]
  · refine q_ret 3 (some (.int (1 : Int32)), g, u) (fun _ _ => rfl) ?_
    unfold s_sgn
    rw [if_neg hc0]
theorem b_in (v lo hi : Int64) (g : qM) (u : qW) : q_BS 149 [.long v, .long lo, .long hi] g u (some (.int (s_in v lo hi)), g, u) := by
  refine q_bx (mm := m_149) rfl (Nat.le_of_ble_eq_true rfl) rfl ?_
  refine q_step 3 3 [(0, .long v), (2, .long lo), (4, .long hi)] [.int (lg_cmp v lo)] g u (fun _ _ => rfl) ?_
  refine q_if_lt rfl (fun (hc0 : (lg_cmp v lo) < 0) => ?_) (fun (hc0 : ¬ ((lg_cmp v lo) < 0)) => ?_)
  · refine q_ret 2 (some (.int (0 : Int32)), g, u) (fun _ _ => rfl) ?_
    simp [s_in, hc0]
  · refine q_step 3 10 [(0, .long v), (2, .long lo), (4, .long hi)] [.int (lg_cmp v hi)] g u (fun _ _ => rfl) ?_
    refine q_if_gt rfl (fun (hc1 : 0 < (lg_cmp v hi)) => ?_) (fun (hc1 : ¬ (0 < (lg_cmp v hi))) => ?_)
    · refine q_ret 2 (some (.int (0 : Int32)), g, u) (fun _ _ => rfl) ?_
      simp [s_in, hc0, hc1]
    · refine q_ret 3 (some (.int (1 : Int32)), g, u) (fun _ _ => rfl) ?_
      simp [s_in, hc0, hc1]
theorem b_flag (x : Int32) (g : qM) (u : qW) : q_BS 164 [.int x] g u (some (.int (if x = 0 then 0 else 1)), g, u) := by
  refine q_bx (mm := m_164) rfl (Nat.le_of_ble_eq_true rfl) rfl ?_
  refine q_step 1 1 [(0, .int x)] [.int x] g u (fun _ _ => rfl) ?_
  refine q_if_eq rfl (fun (hc0 : x = 0) => ?_) (fun (hc0 : ¬ (x = 0)) => ?_)
  · refine q_ret 2 (some (.int (0 : Int32)), g, u) (fun _ _ => rfl) ?_
    simp [hc0]
  · refine q_ret 3 (some (.int (1 : Int32)), g, u) (fun _ _ => rfl) ?_
    simp [hc0]
theorem b_col20 (x : Int32) (g : qM) (u : qW) (hw : ¬ g 20 0 ≤ 0) : q_BS 59 [.ref 20, .int x] g u (some (.int (s_col (g 20 0) x)), g, u) := by
  refine q_bx (mm := m_59) rfl (Nat.le_of_ble_eq_true rfl) rfl ?_
  refine q_step 2 4 [(0, .ref 20), (1, .int x)] [.int (g 20 0)] g u (fun _ _ => rfl) ?_
  refine q_if_le rfl (fun (hc0 : (g 20 0) ≤ 0) => ?_) (fun (hc0 : ¬ ((g 20 0) ≤ 0)) => ?_)
  · refine q_ret 2 (some (.int (0 : Int32)), g, u) (fun _ _ => rfl) ?_
    exact absurd hc0 hw
  · refine q_step 3 12 [(0, .ref 20), (1, .int x)] [.int (g 20 0), .int x] g u (fun _ _ => rfl) ?_
    refine q_irem (fun q => hw (by rw [q]; decide)) rfl ?_
    refine q_ret 2 (some (.int (x - x / (g 20 0) * (g 20 0))), g, u) (fun _ _ => rfl) ?_
    rfl
theorem b_row20 (x : Int32) (g : qM) (u : qW) (hw : ¬ g 20 0 ≤ 0) : q_BS 60 [.ref 20, .int x] g u (some (.int (s_row (g 20 0) x)), g, u) := by
  refine q_bx (mm := m_60) rfl (Nat.le_of_ble_eq_true rfl) rfl ?_
  refine q_step 2 4 [(0, .ref 20), (1, .int x)] [.int (g 20 0)] g u (fun _ _ => rfl) ?_
  refine q_if_le rfl (fun (hc0 : (g 20 0) ≤ 0) => ?_) (fun (hc0 : ¬ ((g 20 0) ≤ 0)) => ?_)
  · refine q_ret 2 (some (.int (0 : Int32)), g, u) (fun _ _ => rfl) ?_
    exact absurd hc0 hw
  · refine q_step 3 12 [(0, .ref 20), (1, .int x)] [.int (g 20 0), .int x] g u (fun _ _ => rfl) ?_
    refine q_idiv (fun q => hw (by rw [q]; decide)) rfl ?_
    refine q_ret 2 (some (.int (x / (g 20 0))), g, u) (fun _ _ => rfl) ?_
    rfl
theorem b_col35 (x : Int32) (g : qM) (u : qW) (hw : ¬ g 35 0 ≤ 0) : q_BS 59 [.ref 35, .int x] g u (some (.int (s_col (g 35 0) x)), g, u) := by
  refine q_bx (mm := m_59) rfl (Nat.le_of_ble_eq_true rfl) rfl ?_
  refine q_step 2 4 [(0, .ref 35), (1, .int x)] [.int (g 35 0)] g u (fun _ _ => rfl) ?_
  refine q_if_le rfl (fun (hc0 : (g 35 0) ≤ 0) => ?_) (fun (hc0 : ¬ ((g 35 0) ≤ 0)) => ?_)
  · refine q_ret 2 (some (.int (0 : Int32)), g, u) (fun _ _ => rfl) ?_
    exact absurd hc0 hw
  · refine q_step 3 12 [(0, .ref 35), (1, .int x)] [.int (g 35 0), .int x] g u (fun _ _ => rfl) ?_
    refine q_irem (fun q => hw (by rw [q]; decide)) rfl ?_
    refine q_ret 2 (some (.int (x - x / (g 35 0) * (g 35 0))), g, u) (fun _ _ => rfl) ?_
    rfl
theorem b_row35 (x : Int32) (g : qM) (u : qW) (hw : ¬ g 35 0 ≤ 0) : q_BS 60 [.ref 35, .int x] g u (some (.int (s_row (g 35 0) x)), g, u) := by
  refine q_bx (mm := m_60) rfl (Nat.le_of_ble_eq_true rfl) rfl ?_
  refine q_step 2 4 [(0, .ref 35), (1, .int x)] [.int (g 35 0)] g u (fun _ _ => rfl) ?_
  refine q_if_le rfl (fun (hc0 : (g 35 0) ≤ 0) => ?_) (fun (hc0 : ¬ ((g 35 0) ≤ 0)) => ?_)
  · refine q_ret 2 (some (.int (0 : Int32)), g, u) (fun _ _ => rfl) ?_
    exact absurd hc0 hw
  · refine q_step 3 12 [(0, .ref 35), (1, .int x)] [.int (g 35 0), .int x] g u (fun _ _ => rfl) ?_
    refine q_idiv (fun q => hw (by rw [q]; decide)) rfl ?_
    refine q_ret 2 (some (.int (x / (g 35 0))), g, u) (fun _ _ => rfl) ?_
    rfl
