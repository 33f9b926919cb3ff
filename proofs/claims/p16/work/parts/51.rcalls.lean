theorem sg_rc_1 (big : Nat → List Value → qM → qW → qR) (n0 : Nat) (G : qM) (U : qW) (v0 : Int32) : qm_run pm_m big m_169 (n0 + 8) 0 [(0, .ref 70), (1, .int v0)] [] G U = qm_run pm_m big m_169 n0 10 [(0, .ref 70), (1, .int v0)] [.long (Int32.toInt64 ((G 70 4) - (1 : Int32))), .long (0 : Int64), .long (Int32.toInt64 v0)] G U := rfl
theorem sg_rc_2 (big : Nat → List Value → qM → qW → qR) (n0 : Nat) (G : qM) (U : qW) (v0 : Int32) : qm_run pm_m big m_171 (n0 + 11) 0 [(0, .ref 70), (1, .int v0)] [] G U = qm_run pm_m big m_171 n0 15 [(0, .ref 70), (1, .int v0)] [.long (Int32.toInt64 (((G 70 2) * (G 70 3)) - (1 : Int32))), .long (0 : Int64), .long (Int32.toInt64 v0)] G U := rfl
theorem sg_rc_3 (big : Nat → List Value → qM → qW → qR) (n0 : Nat) (G : qM) (U : qW) (v0 : Int32) (v1 : Int32) : qm_run pm_m big m_175 (n0 + 3) 0 [(0, .ref 70), (1, .int v0), (2, .int v1)] [] G U = qm_run pm_m big m_175 n0 5 [(0, .ref 70), (1, .int v0), (2, .int v1)] [.int v0, .ref 71] G U := rfl
theorem sg_rc_4 (big : Nat → List Value → qM → qW → qR) (n0 : Nat) (G : qM) (U : qW) (v0 : Int32) (v1 : Int32) (v2 : Int32) : qm_run pm_m big m_175 (n0 + 5) 6 [(0, .ref 70), (1, .int v0), (2, .int v1)] [.int v2] G U = qm_run pm_m big m_175 n0 13 [(0, .ref 70), (1, .int v0), (2, .int v1), (3, .int v2)] [.int v1, .int v0, .ref 71] G U := rfl
theorem sg_rc_5 (big : Nat → List Value → qM → qW → qR) (n0 : Nat) (G : qM) (U : qW) (v0 : Int32) (v1 : Int32) : qm_run pm_m big m_178 (n0 + 2) 0 [(0, .ref 70), (1, .int v0), (2, .int v1)] [] G U = qm_run pm_m big m_178 n0 2 [(0, .ref 70), (1, .int v0), (2, .int v1)] [.int v0, .ref 70] G U := rfl
theorem sg_rc_6 (big : Nat → List Value → qM → qW → qR) (n0 : Nat) (G : qM) (U : qW) (v0 : Int32) (v1 : Int32) : qm_run pm_m big m_178 (n0 + 5) 8 [(0, .ref 70), (1, .int v0), (2, .int v1)] [] G U = qm_run pm_m big m_178 n0 14 [(0, .ref 70), (1, .int v0), (2, .int v1)] [.int v1, .int ((10 : Int32) + v0), .ref 70] G U := rfl
theorem sg_rc_7 (big : Nat → List Value → qM → qW → qR) (n0 : Nat) (G : qM) (U : qW) (v0 : Int32) (v1 : Int32) : qm_run pm_m big m_174 (n0 + 2) 0 [(0, .ref 70), (1, .int v0), (2, .int v1)] [] G U = qm_run pm_m big m_174 n0 2 [(0, .ref 70), (1, .int v0), (2, .int v1)] [.int v0, .ref 70] G U := rfl
theorem sg_rc_8 (big : Nat → List Value → qM → qW → qR) (n0 : Nat) (G : qM) (U : qW) (v0 : Int32) (v1 : Int32) : qm_run pm_m big m_174 (n0 + 4) 8 [(0, .ref 70), (1, .int v0), (2, .int v1)] [] G U = qm_run pm_m big m_174 n0 14 [(0, .ref 70), (1, .int v0), (2, .int v1)] [.long (3 : Int64), .long (0 : Int64), .long (Int32.toInt64 v1)] G U := rfl
theorem sg_rc_9 (big : Nat → List Value → qM → qW → qR) (n0 : Nat) (G : qM) (U : qW) (v0 : Int32) (v1 : Int32) : qm_run pm_m big m_174 (n0 + 5) 20 [(0, .ref 70), (1, .int v0), (2, .int v1)] [] G U = qm_run pm_m big m_174 n0 25 [(0, .ref 70), (1, .int v0), (2, .int v1)] [.int v1, .int ((5 : Int32) + v0), .ref 70] G U := rfl
theorem sg_rc_10 (big : Nat → List Value → qM → qW → qR) (n0 : Nat) (G : qM) (U : qW) (v0 : Int32) (v1 : Int32) : qm_run pm_m big m_179 (n0 + 2) 0 [(0, .ref 70), (1, .int v0), (2, .int v1)] [] G U = qm_run pm_m big m_179 n0 2 [(0, .ref 70), (1, .int v0), (2, .int v1)] [.int v0, .ref 70] G U := rfl
theorem sg_rc_11 (big : Nat → List Value → qM → qW → qR) (n0 : Nat) (G : qM) (U : qW) (v0 : Int32) (v1 : Int32) : qm_run pm_m big m_179 (n0 + 2) 8 [(0, .ref 70), (1, .int v0), (2, .int v1)] [] G U = qm_run pm_m big m_179 n0 11 [(0, .ref 70), (1, .int v0), (2, .int v1)] [.int (Int8.toInt32 (Int8.ofInt (-4))), .int v1] G U := rfl
theorem sg_rc_12 (big : Nat → List Value → qM → qW → qR) (n0 : Nat) (G : qM) (U : qW) (v0 : Int32) (v1 : Int32) : qm_run pm_m big m_179 (n0 + 5) 22 [(0, .ref 70), (1, .int v0), (2, .int v1)] [] G U = qm_run pm_m big m_179 n0 28 [(0, .ref 70), (1, .int v0), (2, .int v1)] [.int v1, .int ((15 : Int32) + v0), .ref 70] G U := rfl
theorem sg_rc_13 (big : Nat → List Value → qM → qW → qR) (n0 : Nat) (G : qM) (U : qW) (v0 : Int32) (v1 : Int32) : qm_run pm_m big m_179 (n0 + 2) 14 [(0, .ref 70), (1, .int v0), (2, .int v1)] [] G U = qm_run pm_m big m_179 n0 16 [(0, .ref 70), (1, .int v0), (2, .int v1)] [.int v1, .ref 70] G U := rfl
theorem sg_rc_14 (big : Nat → List Value → qM → qW → qR) (n0 : Nat) (G : qM) (U : qW) (v0 : Int32) : qm_run pm_m big m_182 (n0 + 4) 0 [(0, .ref 70), (1, .int v0)] [] G U = qm_run pm_m big m_182 n0 6 [(0, .ref 70), (1, .int v0)] [.long (4 : Int64), .long (0 : Int64), .long (Int32.toInt64 v0)] G U := rfl
theorem sg_rc_15 (big : Nat → List Value → qM → qW → qR) (n0 : Nat) (G : qM) (U : qW) (v0 : Int32) : qm_run pm_m big m_182 (n0 + 3) 12 [(0, .ref 70), (1, .int v0)] [] G U = qm_run pm_m big m_182 n0 16 [(0, .ref 70), (1, .int v0)] [.int v0, .int (25 : Int32), .ref 70] G U := rfl
theorem sg_rc_16 (big : Nat → List Value → qM → qW → qR) (n0 : Nat) (G : qM) (U : qW) (v0 : Int32) : qm_run pm_m big m_213 (n0 + 8) 0 [(0, .ref 70), (1, .int v0)] [] G U = qm_run pm_m big m_213 n0 11 [(0, .ref 70), (1, .int v0)] [.long (Int32.toInt64 (G 71 27)), .long (0 : Int64), .long (Int32.toInt64 v0)] G U := rfl
theorem sg_rc_17 (big : Nat → List Value → qM → qW → qR) (n0 : Nat) (G : qM) (U : qW) (v0 : Int32) : qm_run pm_m big m_213 (n0 + 3) 17 [(0, .ref 70), (1, .int v0)] [] G U = qm_run pm_m big m_213 n0 21 [(0, .ref 70), (1, .int v0)] [.int v0, .int (27 : Int32), .ref 70] G U := rfl
def d_risOne (p : Int32) (g : qM) : Int32 := (s_in (Int32.toInt64 p) (0 : Int64) (Int32.toInt64 ((g 70 4) - (1 : Int32))))
theorem b_risOne (p : Int32) (g : qM) (u : qW) : q_BS 169 [.ref 70, .int p] g u (some (.int (d_risOne p g)), g, u) := by
  refine q_bx (mm := m_169) rfl (Nat.le_of_ble_eq_true rfl) rfl ?_
  refine q_step 8 10 [(0, .ref 70), (1, .int p)] [.long (Int32.toInt64 ((g 70 4) - (1 : Int32))), .long (0 : Int64), .long (Int32.toInt64 p)] g u (fun big n0 => sg_rc_1 big n0 g u p) ?_
  refine q_call (M2 := 149) (rest := []) (b_in _ _ _ _ _) (fun _ _ => rfl) ?_
  refine q_retb (s_in_01 _ _ _) rfl rfl ?_
  unfold d_risOne
  rfl
def d_risCell (x : Int32) (g : qM) : Int32 := (s_in (Int32.toInt64 x) (0 : Int64) (Int32.toInt64 (((g 70 2) * (g 70 3)) - (1 : Int32))))
theorem b_risCell (x : Int32) (g : qM) (u : qW) : q_BS 171 [.ref 70, .int x] g u (some (.int (d_risCell x g)), g, u) := by
  refine q_bx (mm := m_171) rfl (Nat.le_of_ble_eq_true rfl) rfl ?_
  refine q_step 11 15 [(0, .ref 70), (1, .int x)] [.long (Int32.toInt64 (((g 70 2) * (g 70 3)) - (1 : Int32))), .long (0 : Int64), .long (Int32.toInt64 x)] g u (fun big n0 => sg_rc_2 big n0 g u x) ?_
  refine q_call (M2 := 149) (rest := []) (b_in _ _ _ _ _) (fun _ _ => rfl) ?_
  refine q_retb (s_in_01 _ _ _) rfl rfl ?_
  unfold d_risCell
  rfl
def d_rbec (k : Int32) (v : Int32) (j : Nat) (g : qM) (u : qW) : Option Value × qM × qW := (some (.int (g 71 j)), (q_up g 71 j v), u)
theorem b_rbec (k : Int32) (v : Int32) (j : Nat) (g : qM) (u : qW) (hk : q_ix k j 132) : q_BS 175 [.ref 70, .int k, .int v] g u (d_rbec k v j g u) := by
  refine q_bx (mm := m_175) rfl (Nat.le_of_ble_eq_true rfl) rfl ?_
  refine q_step 3 5 [(0, .ref 70), (1, .int k), (2, .int v)] [.int k, .ref 71] g u (fun big n0 => sg_rc_3 big n0 g u k v) ?_
  refine q_iald (j := j) (hk) rfl rfl ?_
  refine q_step 5 13 [(0, .ref 70), (1, .int k), (2, .int v), (3, .int (g 71 j))] [.int v, .int k, .ref 71] g u (fun big n0 => sg_rc_4 big n0 g u k v (g 71 j)) ?_
  refine q_iast (j := j) (hk) rfl rfl ?_
  refine q_ret 2 (some (.int (g 71 j)), (q_up g 71 j v), u) (fun _ _ => rfl) ?_
  unfold d_rbec
  rfl
theorem s_risOne {p : Int32} {g : qM} {n : Nat} (hn : g 70 4 = Int32.ofNat n) (h6 : n ≤ 6) (h : ¬ d_risOne p g = 0) : 0 ≤ p.toInt ∧ p.toInt < (n : Int) := by
  unfold d_risOne at h
  have h1 := s_in_i.mp h
  rw [Int32.toInt_toInt64, hn] at h1
  have e : (Int32.ofNat n - 1).toInt = (n : Int) - 1 := by
    have z : (1 : Int32).toInt = 1 := rfl
    rw [s_sub (by rw [q_nat (by omega), z]; omega) (by rw [q_nat (by omega), z]; omega), q_nat (by omega), z]
  have z0 : (0 : Int64).toInt = 0 := rfl
  omega
theorem s_rix {p : Int32} {K : Nat} (hK : K ≤ 100) (h1 : 0 ≤ p.toInt) (h2 : p.toInt ≤ 20) : q_ix (Int32.ofNat K + p) (K + p.toInt.toNat) 132 := by
  have e : (Int32.ofNat K + p).toInt = (K : Int) + p.toInt := by
    rw [s_add (by rw [q_nat (by omega)]; omega) (by rw [q_nat (by omega)]; omega), q_nat (by omega)]
  refine ⟨fun z => ?_, ?_, by omega⟩
  · have := Int32.lt_iff_toInt_lt.mp z
    have z0 : (0 : Int32).toInt = 0 := rfl
    omega
  · show (Int32.ofNat K + p).toInt.toNat = _
    rw [e]
    omega
def d_rhold (p : Int32) (y : Int32) (g : qM) (u : qW) : Option Value × qM × qW := (if (d_risOne p g) = 0 then (some (.int (Int32.ofInt (-1))), g, u) else (some (.int (g 71 (10 + p.toInt.toNat))), (q_up g 71 (10 + p.toInt.toNat) (if y = 0 then (0 : Int32) else 1)), u))
theorem b_rhold (p : Int32) (y : Int32) (g : qM) (u : qW) {n : Nat} (hn : g 70 4 = Int32.ofNat n) (h6 : n ≤ 6) : q_BS 178 [.ref 70, .int p, .int y] g u (d_rhold p y g u) := by
  refine q_bx (mm := m_178) rfl (Nat.le_of_ble_eq_true rfl) rfl ?_
  refine q_step 2 2 [(0, .ref 70), (1, .int p), (2, .int y)] [.int p, .ref 70] g u (fun big n0 => sg_rc_5 big n0 g u p y) ?_
  refine q_call (M2 := 169) (rest := []) (b_risOne _ _ _) (fun _ _ => rfl) ?_
  refine q_if_eq rfl (fun (hc0 : (d_risOne p g) = 0) => ?_) (fun (hc0 : ¬ ((d_risOne p g) = 0)) => ?_)
  · refine q_ret 2 (some (.int (Int32.ofInt (-1))), g, u) (fun _ _ => rfl) ?_
    unfold d_rhold
    rw [if_pos hc0]
  · refine q_step 5 14 [(0, .ref 70), (1, .int p), (2, .int y)] [.int y, .int ((10 : Int32) + p), .ref 70] g u (fun big n0 => sg_rc_6 big n0 g u p y) ?_
    refine q_call (M2 := 164) (rest := [.int ((10 : Int32) + p), .ref 70]) (b_flag _ _ _) (fun _ _ => rfl) ?_
    have hix : q_ix ((10 : Int32) + p) (10 + p.toInt.toNat) 132 := by
      have hz := s_risOne hn h6 hc0
      exact s_rix (K := 10) (by omega) hz.1 (by omega)
    refine q_call (M2 := 175) (rest := []) (b_rbec ((10 : Int32) + p) (if y = 0 then (0 : Int32) else 1) (10 + p.toInt.toNat) g u hix) (fun _ _ => rfl) ?_
    refine q_ret 2 (some (.int (g 71 (10 + p.toInt.toNat))), (q_up g 71 (10 + p.toInt.toNat) (if y = 0 then (0 : Int32) else 1)), u) (fun _ _ => rfl) ?_
    unfold d_rhold
    rw [if_neg hc0]
def d_rmood (p : Int32) (y : Int32) (g : qM) (u : qW) : Option Value × qM × qW := (if (d_risOne p g) = 0 then (some (.int (Int32.ofInt (-1))), g, u) else (if (s_in (Int32.toInt64 y) (0 : Int64) (3 : Int64)) = 0 then (some (.int (Int32.ofInt (-1))), g, u) else (some (.int (g 71 (5 + p.toInt.toNat))), (q_up g 71 (5 + p.toInt.toNat) y), u)))
theorem b_rmood (p : Int32) (y : Int32) (g : qM) (u : qW) {n : Nat} (hn : g 70 4 = Int32.ofNat n) (h6 : n ≤ 6) : q_BS 174 [.ref 70, .int p, .int y] g u (d_rmood p y g u) := by
  refine q_bx (mm := m_174) rfl (Nat.le_of_ble_eq_true rfl) rfl ?_
  refine q_step 2 2 [(0, .ref 70), (1, .int p), (2, .int y)] [.int p, .ref 70] g u (fun big n0 => sg_rc_7 big n0 g u p y) ?_
  refine q_call (M2 := 169) (rest := []) (b_risOne _ _ _) (fun _ _ => rfl) ?_
  refine q_if_eq rfl (fun (hc0 : (d_risOne p g) = 0) => ?_) (fun (hc0 : ¬ ((d_risOne p g) = 0)) => ?_)
  · refine q_ret 2 (some (.int (Int32.ofInt (-1))), g, u) (fun _ _ => rfl) ?_
    unfold d_rmood
    rw [if_pos hc0]
  · refine q_step 4 14 [(0, .ref 70), (1, .int p), (2, .int y)] [.long (3 : Int64), .long (0 : Int64), .long (Int32.toInt64 y)] g u (fun big n0 => sg_rc_8 big n0 g u p y) ?_
    refine q_call (M2 := 149) (rest := []) (b_in _ _ _ _ _) (fun _ _ => rfl) ?_
    refine q_if_eq rfl (fun (hc1 : (s_in (Int32.toInt64 y) (0 : Int64) (3 : Int64)) = 0) => ?_) (fun (hc1 : ¬ ((s_in (Int32.toInt64 y) (0 : Int64) (3 : Int64)) = 0)) => ?_)
    · refine q_ret 2 (some (.int (Int32.ofInt (-1))), g, u) (fun _ _ => rfl) ?_
      unfold d_rmood
      rw [if_neg hc0, if_pos hc1]
    · refine q_step 5 25 [(0, .ref 70), (1, .int p), (2, .int y)] [.int y, .int ((5 : Int32) + p), .ref 70] g u (fun big n0 => sg_rc_9 big n0 g u p y) ?_
      have hix : q_ix ((5 : Int32) + p) (5 + p.toInt.toNat) 132 := by
        have hz := s_risOne hn h6 hc0
        exact s_rix (K := 5) (by omega) hz.1 (by omega)
      refine q_call (M2 := 175) (rest := []) (b_rbec ((5 : Int32) + p) y (5 + p.toInt.toNat) g u hix) (fun _ _ => rfl) ?_
      refine q_ret 2 (some (.int (g 71 (5 + p.toInt.toNat))), (q_up g 71 (5 + p.toInt.toNat) y), u) (fun _ _ => rfl) ?_
      unfold d_rmood
      rw [if_neg hc0, if_neg hc1]
def d_rgoal (p : Int32) (y : Int32) (g : qM) (u : qW) : Option Value × qM × qW := (if (d_risOne p g) = 0 then (some (.int (Int32.ofInt (-1))), g, u) else (if y = (Int8.toInt32 (Int8.ofInt (-4))) then (some (.int (g 71 (15 + p.toInt.toNat))), (q_up g 71 (15 + p.toInt.toNat) y), u) else (if (d_risCell y g) = 0 then (some (.int (Int32.ofInt (-1))), g, u) else (some (.int (g 71 (15 + p.toInt.toNat))), (q_up g 71 (15 + p.toInt.toNat) y), u))))
theorem b_rgoal (p : Int32) (y : Int32) (g : qM) (u : qW) {n : Nat} (hn : g 70 4 = Int32.ofNat n) (h6 : n ≤ 6) : q_BS 179 [.ref 70, .int p, .int y] g u (d_rgoal p y g u) := by
  refine q_bx (mm := m_179) rfl (Nat.le_of_ble_eq_true rfl) rfl ?_
  refine q_step 2 2 [(0, .ref 70), (1, .int p), (2, .int y)] [.int p, .ref 70] g u (fun big n0 => sg_rc_10 big n0 g u p y) ?_
  refine q_call (M2 := 169) (rest := []) (b_risOne _ _ _) (fun _ _ => rfl) ?_
  refine q_if_eq rfl (fun (hc0 : (d_risOne p g) = 0) => ?_) (fun (hc0 : ¬ ((d_risOne p g) = 0)) => ?_)
  · refine q_ret 2 (some (.int (Int32.ofInt (-1))), g, u) (fun _ _ => rfl) ?_
    unfold d_rgoal
    rw [if_pos hc0]
  · refine q_step 2 11 [(0, .ref 70), (1, .int p), (2, .int y)] [.int (Int8.toInt32 (Int8.ofInt (-4))), .int y] g u (fun big n0 => sg_rc_11 big n0 g u p y) ?_
    refine q_ic_eq rfl (fun (hc1 : y = (Int8.toInt32 (Int8.ofInt (-4)))) => ?_) (fun (hc1 : ¬ (y = (Int8.toInt32 (Int8.ofInt (-4))))) => ?_)
    · refine q_step 5 28 [(0, .ref 70), (1, .int p), (2, .int y)] [.int y, .int ((15 : Int32) + p), .ref 70] g u (fun big n0 => sg_rc_12 big n0 g u p y) ?_
      have hix : q_ix ((15 : Int32) + p) (15 + p.toInt.toNat) 132 := by
        have hz := s_risOne hn h6 hc0
        exact s_rix (K := 15) (by omega) hz.1 (by omega)
      refine q_call (M2 := 175) (rest := []) (b_rbec ((15 : Int32) + p) y (15 + p.toInt.toNat) g u hix) (fun _ _ => rfl) ?_
      refine q_ret 2 (some (.int (g 71 (15 + p.toInt.toNat))), (q_up g 71 (15 + p.toInt.toNat) y), u) (fun _ _ => rfl) ?_
      unfold d_rgoal
      rw [if_neg hc0, if_pos hc1]
    · refine q_step 2 16 [(0, .ref 70), (1, .int p), (2, .int y)] [.int y, .ref 70] g u (fun big n0 => sg_rc_13 big n0 g u p y) ?_
      refine q_call (M2 := 171) (rest := []) (b_risCell _ _ _) (fun _ _ => rfl) ?_
      refine q_if_eq rfl (fun (hc2 : (d_risCell y g) = 0) => ?_) (fun (hc2 : ¬ ((d_risCell y g) = 0)) => ?_)
      · refine q_ret 2 (some (.int (Int32.ofInt (-1))), g, u) (fun _ _ => rfl) ?_
        unfold d_rgoal
        rw [if_neg hc0, if_neg hc1, if_pos hc2]
      · refine q_step 5 28 [(0, .ref 70), (1, .int p), (2, .int y)] [.int y, .int ((15 : Int32) + p), .ref 70] g u (fun big n0 => sg_rc_12 big n0 g u p y) ?_
        have hix : q_ix ((15 : Int32) + p) (15 + p.toInt.toNat) 132 := by
          have hz := s_risOne hn h6 hc0
          exact s_rix (K := 15) (by omega) hz.1 (by omega)
        refine q_call (M2 := 175) (rest := []) (b_rbec ((15 : Int32) + p) y (15 + p.toInt.toNat) g u hix) (fun _ _ => rfl) ?_
        refine q_ret 2 (some (.int (g 71 (15 + p.toInt.toNat))), (q_up g 71 (15 + p.toInt.toNat) y), u) (fun _ _ => rfl) ?_
        unfold d_rgoal
        rw [if_neg hc0, if_neg hc1, if_neg hc2]
def d_rpress (y : Int32) (g : qM) (u : qW) : Option Value × qM × qW := (if (s_in (Int32.toInt64 y) (0 : Int64) (4 : Int64)) = 0 then (some (.int (Int32.ofInt (-1))), g, u) else (some (.int (g 71 25)), (q_up g 71 25 y), u))
theorem b_rpress (y : Int32) (g : qM) (u : qW) : q_BS 182 [.ref 70, .int y] g u (d_rpress y g u) := by
  refine q_bx (mm := m_182) rfl (Nat.le_of_ble_eq_true rfl) rfl ?_
  refine q_step 4 6 [(0, .ref 70), (1, .int y)] [.long (4 : Int64), .long (0 : Int64), .long (Int32.toInt64 y)] g u (fun big n0 => sg_rc_14 big n0 g u y) ?_
  refine q_call (M2 := 149) (rest := []) (b_in _ _ _ _ _) (fun _ _ => rfl) ?_
  refine q_if_eq rfl (fun (hc0 : (s_in (Int32.toInt64 y) (0 : Int64) (4 : Int64)) = 0) => ?_) (fun (hc0 : ¬ ((s_in (Int32.toInt64 y) (0 : Int64) (4 : Int64)) = 0)) => ?_)
  · refine q_ret 2 (some (.int (Int32.ofInt (-1))), g, u) (fun _ _ => rfl) ?_
    unfold d_rpress
    rw [if_pos hc0]
  · refine q_step 3 16 [(0, .ref 70), (1, .int y)] [.int y, .int (25 : Int32), .ref 70] g u (fun big n0 => sg_rc_15 big n0 g u y) ?_
    refine q_call (M2 := 175) (rest := []) (b_rbec (25 : Int32) y 25 g u (q_ixn (j := 25) (n := 132) (by decide) (by decide))) (fun _ _ => rfl) ?_
    refine q_ret 2 (some (.int (g 71 25)), (q_up g 71 25 y), u) (fun _ _ => rfl) ?_
    unfold d_rpress
    rw [if_neg hc0]
def d_rforget (y : Int32) (g : qM) (u : qW) : Option Value × qM × qW := (if (s_in (Int32.toInt64 y) (0 : Int64) (Int32.toInt64 (g 71 27))) = 0 then (some (.int (Int32.ofInt (-1))), g, u) else (some (.int (g 71 27)), (q_up g 71 27 y), u))
theorem b_rforget (y : Int32) (g : qM) (u : qW) : q_BS 213 [.ref 70, .int y] g u (d_rforget y g u) := by
  refine q_bx (mm := m_213) rfl (Nat.le_of_ble_eq_true rfl) rfl ?_
  refine q_step 8 11 [(0, .ref 70), (1, .int y)] [.long (Int32.toInt64 (g 71 27)), .long (0 : Int64), .long (Int32.toInt64 y)] g u (fun big n0 => sg_rc_16 big n0 g u y) ?_
  refine q_call (M2 := 149) (rest := []) (b_in _ _ _ _ _) (fun _ _ => rfl) ?_
  refine q_if_eq rfl (fun (hc0 : (s_in (Int32.toInt64 y) (0 : Int64) (Int32.toInt64 (g 71 27))) = 0) => ?_) (fun (hc0 : ¬ ((s_in (Int32.toInt64 y) (0 : Int64) (Int32.toInt64 (g 71 27))) = 0)) => ?_)
  · refine q_ret 2 (some (.int (Int32.ofInt (-1))), g, u) (fun _ _ => rfl) ?_
    unfold d_rforget
    rw [if_pos hc0]
  · refine q_step 3 21 [(0, .ref 70), (1, .int y)] [.int y, .int (27 : Int32), .ref 70] g u (fun big n0 => sg_rc_17 big n0 g u y) ?_
    refine q_call (M2 := 175) (rest := []) (b_rbec (27 : Int32) y 27 g u (q_ixn (j := 27) (n := 132) (by decide) (by decide))) (fun _ _ => rfl) ?_
    refine q_ret 2 (some (.int (g 71 27)), (q_up g 71 27 y), u) (fun _ _ => rfl) ?_
    unfold d_rforget
    rw [if_neg hc0]
