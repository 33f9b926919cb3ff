theorem sg_ca_1 (big : Nat → List Value → qM → qW → qR) (n0 : Nat) (G : qM) (U : qW) (v0 : Int32) : qm_run pm_m big m_40 (n0 + 1) 0 [(0, .ref 20), (1, .int v0)] [] G U = qm_run pm_m big m_40 n0 1 [(0, .ref 20), (1, .int v0)] [.int v0] G U := rfl
theorem sg_ca_2 (big : Nat → List Value → qM → qW → qR) (n0 : Nat) (G : qM) (U : qW) (v0 : Int32) : qm_run pm_m big m_40 (n0 + 3) 4 [(0, .ref 20), (1, .int v0)] [] G U = qm_run pm_m big m_40 n0 9 [(0, .ref 20), (1, .int v0)] [.int (G 20 3), .int v0] G U := rfl
theorem sg_ca_3 (big : Nat → List Value → qM → qW → qR) (n0 : Nat) (G : qM) (U : qW) (v0 : Int32) : qm_run pm_m big m_38 (n0 + 1) 0 [(0, .ref 20), (1, .int v0)] [] G U = qm_run pm_m big m_38 n0 1 [(0, .ref 20), (1, .int v0)] [.int v0] G U := rfl
theorem sg_ca_4 (big : Nat → List Value → qM → qW → qR) (n0 : Nat) (G : qM) (U : qW) (v0 : Int32) : qm_run pm_m big m_38 (n0 + 2) 4 [(0, .ref 20), (1, .int v0)] [] G U = qm_run pm_m big m_38 n0 6 [(0, .ref 20), (1, .int v0)] [.ref 20, .int v0] G U := rfl
theorem sg_ca_5 (big : Nat → List Value → qM → qW → qR) (n0 : Nat) (G : qM) (U : qW) (v0 : Int32) : qm_run pm_m big m_29 (n0 + 6) 0 [(0, .ref 20), (1, .int v0)] [] G U = qm_run pm_m big m_29 n0 8 [(0, .ref 20), (1, .int v0)] [.int (((G 20 2) >>> (v0 &&& 31)) &&& (1 : Int32))] G U := rfl
theorem sg_ca_6 (big : Nat → List Value → qM → qW → qR) (n0 : Nat) (G : qM) (U : qW) (v0 : Int32) : qm_run pm_m big m_48 (n0 + 1) 0 [(0, .int v0)] [] G U = qm_run pm_m big m_48 n0 1 [(0, .int v0)] [.int v0] G U := rfl
theorem sg_ca_7 (big : Nat → List Value → qM → qW → qR) (n0 : Nat) (G : qM) (U : qW) (v0 : Int32) : qm_run pm_m big m_48 (n0 + 2) 4 [(0, .int v0)] [] G U = qm_run pm_m big m_48 n0 6 [(0, .int v0)] [.int (3 : Int32), .int v0] G U := rfl
theorem sg_ca_8 (big : Nat → List Value → qM → qW → qR) (n0 : Nat) (G : qM) (U : qW) (v0 : Int32) : qm_run pm_m big m_57 (n0 + 1) 0 [(0, .int v0)] [] G U = qm_run pm_m big m_57 n0 1 [(0, .int v0)] [.int v0] G U := rfl
theorem sg_ca_9 (big : Nat → List Value → qM → qW → qR) (n0 : Nat) (G : qM) (U : qW) (v0 : Int32) : qm_run pm_m big m_57 (n0 + 2) 4 [(0, .int v0)] [] G U = qm_run pm_m big m_57 n0 6 [(0, .int v0)] [.int (1 : Int32), .int v0] G U := rfl
theorem sg_ca_10 (big : Nat → List Value → qM → qW → qR) (n0 : Nat) (G : qM) (U : qW) (v0 : Int32) : qm_run pm_m big m_90 (n0 + 1) 0 [(0, .int v0)] [] G U = qm_run pm_m big m_90 n0 1 [(0, .int v0)] [.int v0] G U := rfl
theorem sg_ca_11 (big : Nat → List Value → qM → qW → qR) (n0 : Nat) (G : qM) (U : qW) (v0 : Int32) : qm_run pm_m big m_90 (n0 + 2) 4 [(0, .int v0)] [] G U = qm_run pm_m big m_90 n0 7 [(0, .int v0)] [.int (12 : Int32), .int v0] G U := rfl
theorem sg_ca_12 (big : Nat → List Value → qM → qW → qR) (n0 : Nat) (G : qM) (U : qW) (v0 : Int32) : qm_run pm_m big m_131 (n0 + 1) 0 [(0, .int v0)] [] G U = qm_run pm_m big m_131 n0 1 [(0, .int v0)] [.int v0] G U := rfl
theorem sg_ca_13 (big : Nat → List Value → qM → qW → qR) (n0 : Nat) (G : qM) (U : qW) (v0 : Int32) : qm_run pm_m big m_131 (n0 + 2) 4 [(0, .int v0)] [] G U = qm_run pm_m big m_131 n0 6 [(0, .int v0)] [.int (4 : Int32), .int v0] G U := rfl
theorem sg_ca_14 (big : Nat → List Value → qM → qW → qR) (n0 : Nat) (G : qM) (U : qW) (v0 : Int32) : qm_run pm_m big m_132 (n0 + 1) 0 [(0, .int v0)] [] G U = qm_run pm_m big m_132 n0 1 [(0, .int v0)] [.int v0] G U := rfl
theorem sg_ca_15 (big : Nat → List Value → qM → qW → qR) (n0 : Nat) (G : qM) (U : qW) (v0 : Int32) : qm_run pm_m big m_132 (n0 + 2) 4 [(0, .int v0)] [] G U = qm_run pm_m big m_132 n0 6 [(0, .int v0)] [.int (2 : Int32), .int v0] G U := rfl
theorem sg_ca_16 (big : Nat → List Value → qM → qW → qR) (n0 : Nat) (G : qM) (U : qW) (v0 : Int32) : qm_run pm_m big m_55 (n0 + 1) 0 [(0, .ref 8), (1, .int v0)] [] G U = qm_run pm_m big m_55 n0 1 [(0, .ref 8), (1, .int v0)] [.int v0] G U := rfl
theorem sg_ca_17 (big : Nat → List Value → qM → qW → qR) (n0 : Nat) (G : qM) (U : qW) (v0 : Int32) : qm_run pm_m big m_55 (n0 + 2) 4 [(0, .ref 8), (1, .int v0)] [] G U = qm_run pm_m big m_55 n0 6 [(0, .ref 8), (1, .int v0)] [.int (4 : Int32), .int v0] G U := rfl
theorem sg_ca_18 (big : Nat → List Value → qM → qW → qR) (n0 : Nat) (G : qM) (U : qW) (v0 : Int32) (v1 : Int32) : qm_run pm_m big m_51 (n0 + 3) 0 [(0, .ref 8), (1, .int v0), (2, .int v1)] [] G U = qm_run pm_m big m_51 n0 5 [(0, .ref 8), (1, .int v0), (2, .int v1)] [.int v0, .ref 20] G U := rfl
theorem sg_ca_19 (big : Nat → List Value → qM → qW → qR) (n0 : Nat) (G : qM) (U : qW) (v0 : Int32) (v1 : Int32) : qm_run pm_m big m_51 (n0 + 4) 13 [(0, .ref 8), (1, .int v0), (2, .int v1)] [] G U = qm_run pm_m big m_51 n0 21 [(0, .ref 8), (1, .int v0), (2, .int v1)] [.int v0, .ref 23] G U := rfl
theorem sg_ca_20 (big : Nat → List Value → qM → qW → qR) (n0 : Nat) (G : qM) (U : qW) (v0 : Int32) (v1 : Int32) (v2 : Int32) : qm_run pm_m big m_51 (n0 + 6) 22 [(0, .ref 8), (1, .int v0), (2, .int v1)] [.int v2] G U = qm_run pm_m big m_51 n0 32 [(0, .ref 8), (1, .int v0), (2, .int v1), (3, .int v2)] [.int v1, .int v0, .ref 23] G U := rfl
theorem sg_ca_21 (big : Nat → List Value → qM → qW → qR) (n0 : Nat) (G : qM) (U : qW) (v0 : Int32) (v1 : Int32) (v2 : Int32) (v3 : Int32) : qm_run pm_m big m_51 (n0 + 1) 39 [(0, .ref 8), (1, .int v0), (2, .int v1), (3, .int v2)] [.int v3, .ref 23] G U = qm_run pm_m big m_51 n0 40 [(0, .ref 8), (1, .int v0), (2, .int v1), (3, .int v2)] [.int (0 : Int32), .int v3, .ref 23] G U := rfl
theorem sg_ca_22 (big : Nat → List Value → qM → qW → qR) (n0 : Nat) (G : qM) (U : qW) (v0 : Int32) (v1 : Int32) (v2 : Int32) (v3 : Int32) : qm_run pm_m big m_51 (n0 + 2) 35 [(0, .ref 8), (1, .int v0), (2, .int v1), (3, .int v2)] [.int v3, .ref 23] G U = qm_run pm_m big m_51 n0 40 [(0, .ref 8), (1, .int v0), (2, .int v1), (3, .int v2)] [.int (1 : Int32), .int v3, .ref 23] G U := rfl
theorem sg_ca_23 (big : Nat → List Value → qM → qW → qR) (n0 : Nat) (G : qM) (U : qW) (v0 : Int32) (v1 : Int32) : qm_run pm_m big m_47 (n0 + 3) 0 [(0, .ref 8), (1, .int v0), (2, .int v1)] [] G U = qm_run pm_m big m_47 n0 5 [(0, .ref 8), (1, .int v0), (2, .int v1)] [.int v0, .ref 20] G U := rfl
theorem sg_ca_24 (big : Nat → List Value → qM → qW → qR) (n0 : Nat) (G : qM) (U : qW) (v0 : Int32) (v1 : Int32) : qm_run pm_m big m_47 (n0 + 1) 11 [(0, .ref 8), (1, .int v0), (2, .int v1)] [] G U = qm_run pm_m big m_47 n0 12 [(0, .ref 8), (1, .int v0), (2, .int v1)] [.int v1] G U := rfl
theorem sg_ca_25 (big : Nat → List Value → qM → qW → qR) (n0 : Nat) (G : qM) (U : qW) (v0 : Int32) (v1 : Int32) : qm_run pm_m big m_47 (n0 + 4) 20 [(0, .ref 8), (1, .int v0), (2, .int v1)] [] G U = qm_run pm_m big m_47 n0 28 [(0, .ref 8), (1, .int v0), (2, .int v1)] [.int v0, .ref 22] G U := rfl
theorem sg_ca_26 (big : Nat → List Value → qM → qW → qR) (n0 : Nat) (G : qM) (U : qW) (v0 : Int32) (v1 : Int32) (v2 : Int32) : qm_run pm_m big m_47 (n0 + 6) 29 [(0, .ref 8), (1, .int v0), (2, .int v1)] [.int v2] G U = qm_run pm_m big m_47 n0 39 [(0, .ref 8), (1, .int v0), (2, .int v1), (3, .int v2)] [.int v1, .int v0, .ref 22] G U := rfl
theorem sg_ca_27 (big : Nat → List Value → qM → qW → qR) (n0 : Nat) (G : qM) (U : qW) (v0 : Int32) (v1 : Int32) : qm_run pm_m big m_52 (n0 + 3) 0 [(0, .ref 8), (1, .int v0), (2, .int v1)] [] G U = qm_run pm_m big m_52 n0 5 [(0, .ref 8), (1, .int v0), (2, .int v1)] [.int v0, .ref 20] G U := rfl
theorem sg_ca_28 (big : Nat → List Value → qM → qW → qR) (n0 : Nat) (G : qM) (U : qW) (v0 : Int32) (v1 : Int32) : qm_run pm_m big m_52 (n0 + 2) 11 [(0, .ref 8), (1, .int v0), (2, .int v1)] [] G U = qm_run pm_m big m_52 n0 14 [(0, .ref 8), (1, .int v0), (2, .int v1)] [.int (Int8.toInt32 (Int8.ofInt (-4))), .int v1] G U := rfl
theorem sg_ca_29 (big : Nat → List Value → qM → qW → qR) (n0 : Nat) (G : qM) (U : qW) (v0 : Int32) (v1 : Int32) : qm_run pm_m big m_52 (n0 + 4) 30 [(0, .ref 8), (1, .int v0), (2, .int v1)] [] G U = qm_run pm_m big m_52 n0 38 [(0, .ref 8), (1, .int v0), (2, .int v1)] [.int v0, .ref 24] G U := rfl
theorem sg_ca_30 (big : Nat → List Value → qM → qW → qR) (n0 : Nat) (G : qM) (U : qW) (v0 : Int32) (v1 : Int32) (v2 : Int32) : qm_run pm_m big m_52 (n0 + 6) 39 [(0, .ref 8), (1, .int v0), (2, .int v1)] [.int v2] G U = qm_run pm_m big m_52 n0 49 [(0, .ref 8), (1, .int v0), (2, .int v1), (3, .int v2)] [.int v1, .int v0, .ref 24] G U := rfl
theorem sg_ca_31 (big : Nat → List Value → qM → qW → qR) (n0 : Nat) (G : qM) (U : qW) (v0 : Int32) (v1 : Int32) : qm_run pm_m big m_52 (n0 + 3) 17 [(0, .ref 8), (1, .int v0), (2, .int v1)] [] G U = qm_run pm_m big m_52 n0 22 [(0, .ref 8), (1, .int v0), (2, .int v1)] [.int v1, .ref 20] G U := rfl
theorem sg_ca_32 (big : Nat → List Value → qM → qW → qR) (n0 : Nat) (G : qM) (U : qW) (v0 : Int32) (v1 : Int32) : qm_run pm_m big m_54 (n0 + 2) 0 [(0, .ref 8), (1, .int v0), (2, .int v1)] [] G U = qm_run pm_m big m_54 n0 2 [(0, .ref 8), (1, .int v0), (2, .int v1)] [.int (1 : Int32), .int v0] G U := rfl
theorem sg_ca_33 (big : Nat → List Value → qM → qW → qR) (n0 : Nat) (G : qM) (U : qW) (v0 : Int32) (v1 : Int32) : qm_run pm_m big m_54 (n0 + 2) 5 [(0, .ref 8), (1, .int v0), (2, .int v1)] [] G U = qm_run pm_m big m_54 n0 7 [(0, .ref 8), (1, .int v0), (2, .int v1)] [.int (4 : Int32), .int v0] G U := rfl
theorem sg_ca_34 (big : Nat → List Value → qM → qW → qR) (n0 : Nat) (G : qM) (U : qW) (v0 : Int32) (v1 : Int32) : qm_run pm_m big m_54 (n0 + 1) 10 [(0, .ref 8), (1, .int v0), (2, .int v1)] [] G U = qm_run pm_m big m_54 n0 11 [(0, .ref 8), (1, .int v0), (2, .int v1)] [.int v1] G U := rfl
theorem sg_ca_35 (big : Nat → List Value → qM → qW → qR) (n0 : Nat) (G : qM) (U : qW) (v0 : Int32) (v1 : Int32) : qm_run pm_m big m_54 (n0 + 2) 14 [(0, .ref 8), (1, .int v0), (2, .int v1)] [] G U = qm_run pm_m big m_54 n0 17 [(0, .ref 8), (1, .int v0), (2, .int v1)] [.int (9 : Int32), .int v1] G U := rfl
theorem sg_ca_36 (big : Nat → List Value → qM → qW → qR) (n0 : Nat) (G : qM) (U : qW) (v0 : Int32) (v1 : Int32) : qm_run pm_m big m_54 (n0 + 4) 22 [(0, .ref 8), (1, .int v0), (2, .int v1)] [] G U = qm_run pm_m big m_54 n0 30 [(0, .ref 8), (1, .int v0), (2, .int v1)] [.int v0, .ref 25] G U := rfl
theorem sg_ca_37 (big : Nat → List Value → qM → qW → qR) (n0 : Nat) (G : qM) (U : qW) (v0 : Int32) (v1 : Int32) (v2 : Int32) : qm_run pm_m big m_54 (n0 + 6) 31 [(0, .ref 8), (1, .int v0), (2, .int v1)] [.int v2] G U = qm_run pm_m big m_54 n0 41 [(0, .ref 8), (1, .int v0), (2, .int v1), (3, .int v2)] [.int v1, .int v0, .ref 25] G U := rfl
theorem sg_ca_38 (big : Nat → List Value → qM → qW → qR) (n0 : Nat) (G : qM) (U : qW) (v0 : Int32) : qm_run pm_m big m_119 (n0 + 5) 0 [(0, .ref 8), (1, .int v0)] [] G U = qm_run pm_m big m_119 n0 9 [(0, .ref 8), (1, .int v0), (2, .int (G 20 6))] [.int v0] G U := rfl
theorem sg_ca_39 (big : Nat → List Value → qM → qW → qR) (n0 : Nat) (G : qM) (U : qW) (v0 : Int32) (v1 : Int32) : qm_run pm_m big m_119 (n0 + 2) 12 [(0, .ref 8), (1, .int v0), (2, .int v1)] [] G U = qm_run pm_m big m_119 n0 14 [(0, .ref 8), (1, .int v0), (2, .int v1)] [.int v1, .int v0] G U := rfl
def d_hasOne (p : Int32) (g : qM) : Int32 := (if p < 0 then (0 : Int32) else (if (g 20 3) ≤ p then (0 : Int32) else (1 : Int32)))
theorem b_hasOne (p : Int32) (g : qM) (u : qW) : q_BS 40 [.ref 20, .int p] g u (some (.int (d_hasOne p g)), g, u) := by
  refine q_bx (mm := m_40) rfl (Nat.le_of_ble_eq_true rfl) rfl ?_
  refine q_step 1 1 [(0, .ref 20), (1, .int p)] [.int p] g u (fun big n0 => sg_ca_1 big n0 g u p) ?_
  refine q_if_lt rfl (fun (hc0 : p < 0) => ?_) (fun (hc0 : ¬ (p < 0)) => ?_)
  · refine q_ret 2 (some (.int (0 : Int32)), g, u) (fun _ _ => rfl) ?_
    unfold d_hasOne
    rw [if_pos hc0]
  · refine q_step 3 9 [(0, .ref 20), (1, .int p)] [.int (g 20 3), .int p] g u (fun big n0 => sg_ca_2 big n0 g u p) ?_
    refine q_ic_ge rfl (fun (hc1 : (g 20 3) ≤ p) => ?_) (fun (hc1 : ¬ ((g 20 3) ≤ p)) => ?_)
    · refine q_ret 2 (some (.int (0 : Int32)), g, u) (fun _ _ => rfl) ?_
      unfold d_hasOne
      rw [if_neg hc0, if_pos hc1]
    · refine q_ret 3 (some (.int (1 : Int32)), g, u) (fun _ _ => rfl) ?_
      unfold d_hasOne
      rw [if_neg hc0, if_neg hc1]
def d_size (g : qM) : Int32 := ((g 20 0) * (g 20 1))
theorem b_size (g : qM) (u : qW) : q_BS 39 [.ref 20] g u (some (.int (d_size g)), g, u) := by
  refine q_bx (mm := m_39) rfl (Nat.le_of_ble_eq_true rfl) rfl ?_
  refine q_ret 6 (some (.int ((g 20 0) * (g 20 1))), g, u) (fun _ _ => rfl) ?_
  unfold d_size
  rfl
def d_hasCell (x : Int32) (g : qM) : Int32 := (if x < 0 then (0 : Int32) else (if (d_size g) ≤ x then (0 : Int32) else (1 : Int32)))
theorem b_hasCell (x : Int32) (g : qM) (u : qW) : q_BS 38 [.ref 20, .int x] g u (some (.int (d_hasCell x g)), g, u) := by
  refine q_bx (mm := m_38) rfl (Nat.le_of_ble_eq_true rfl) rfl ?_
  refine q_step 1 1 [(0, .ref 20), (1, .int x)] [.int x] g u (fun big n0 => sg_ca_3 big n0 g u x) ?_
  refine q_if_lt rfl (fun (hc0 : x < 0) => ?_) (fun (hc0 : ¬ (x < 0)) => ?_)
  · refine q_ret 2 (some (.int (0 : Int32)), g, u) (fun _ _ => rfl) ?_
    unfold d_hasCell
    rw [if_pos hc0]
  · refine q_step 2 6 [(0, .ref 20), (1, .int x)] [.ref 20, .int x] g u (fun big n0 => sg_ca_4 big n0 g u x) ?_
    refine q_call (M2 := 39) (rest := [.int x]) (b_size _ _) (fun _ _ => rfl) ?_
    refine q_ic_ge rfl (fun (hc1 : (d_size g) ≤ x) => ?_) (fun (hc1 : ¬ ((d_size g) ≤ x)) => ?_)
    · refine q_ret 2 (some (.int (0 : Int32)), g, u) (fun _ _ => rfl) ?_
      unfold d_hasCell
      rw [if_neg hc0, if_pos hc1]
    · refine q_ret 3 (some (.int (1 : Int32)), g, u) (fun _ _ => rfl) ?_
      unfold d_hasCell
      rw [if_neg hc0, if_neg hc1]
def d_hasWall (x : Int32) (g : qM) : Int32 := (if (((g 20 2) >>> (x &&& 31)) &&& (1 : Int32)) = 0 then (0 : Int32) else (1 : Int32))
theorem b_hasWall (x : Int32) (g : qM) (u : qW) : q_BS 29 [.ref 20, .int x] g u (some (.int (d_hasWall x g)), g, u) := by
  refine q_bx (mm := m_29) rfl (Nat.le_of_ble_eq_true rfl) rfl ?_
  refine q_step 6 8 [(0, .ref 20), (1, .int x)] [.int (((g 20 2) >>> (x &&& 31)) &&& (1 : Int32))] g u (fun big n0 => sg_ca_5 big n0 g u x) ?_
  refine q_if_eq rfl (fun (hc0 : (((g 20 2) >>> (x &&& 31)) &&& (1 : Int32)) = 0) => ?_) (fun (hc0 : ¬ ((((g 20 2) >>> (x &&& 31)) &&& (1 : Int32)) = 0)) => ?_)
  · refine q_ret 2 (some (.int (0 : Int32)), g, u) (fun _ _ => rfl) ?_
    unfold d_hasWall
    rw [if_pos hc0]
  · refine q_ret 3 (some (.int (1 : Int32)), g, u) (fun _ _ => rfl) ?_
    unfold d_hasWall
    rw [if_neg hc0]
def d_isMood (x : Int32) (g : qM) : Int32 := (if x < 0 then (0 : Int32) else (if (3 : Int32) < x then (0 : Int32) else (1 : Int32)))
theorem b_isMood (x : Int32) (g : qM) (u : qW) : q_BS 48 [.int x] g u (some (.int (d_isMood x g)), g, u) := by
  refine q_bx (mm := m_48) rfl (Nat.le_of_ble_eq_true rfl) rfl ?_
  refine q_step 1 1 [(0, .int x)] [.int x] g u (fun big n0 => sg_ca_6 big n0 g u x) ?_
  refine q_if_lt rfl (fun (hc0 : x < 0) => ?_) (fun (hc0 : ¬ (x < 0)) => ?_)
  · refine q_ret 2 (some (.int (0 : Int32)), g, u) (fun _ _ => rfl) ?_
    unfold d_isMood
    rw [if_pos hc0]
  · refine q_step 2 6 [(0, .int x)] [.int (3 : Int32), .int x] g u (fun big n0 => sg_ca_7 big n0 g u x) ?_
    refine q_ic_gt rfl (fun (hc1 : (3 : Int32) < x) => ?_) (fun (hc1 : ¬ ((3 : Int32) < x)) => ?_)
    · refine q_ret 2 (some (.int (0 : Int32)), g, u) (fun _ _ => rfl) ?_
      unfold d_isMood
      rw [if_neg hc0, if_pos hc1]
    · refine q_ret 3 (some (.int (1 : Int32)), g, u) (fun _ _ => rfl) ?_
      unfold d_isMood
      rw [if_neg hc0, if_neg hc1]
def d_isHalf (x : Int32) (g : qM) : Int32 := (if x = 0 then (1 : Int32) else (if x = (1 : Int32) then (1 : Int32) else (0 : Int32)))
theorem b_isHalf (x : Int32) (g : qM) (u : qW) : q_BS 57 [.int x] g u (some (.int (d_isHalf x g)), g, u) := by
  refine q_bx (mm := m_57) rfl (Nat.le_of_ble_eq_true rfl) rfl ?_
  refine q_step 1 1 [(0, .int x)] [.int x] g u (fun big n0 => sg_ca_8 big n0 g u x) ?_
  refine q_if_eq rfl (fun (hc0 : x = 0) => ?_) (fun (hc0 : ¬ (x = 0)) => ?_)
  · refine q_ret 3 (some (.int (1 : Int32)), g, u) (fun _ _ => rfl) ?_
    unfold d_isHalf
    rw [if_pos hc0]
  · refine q_step 2 6 [(0, .int x)] [.int (1 : Int32), .int x] g u (fun big n0 => sg_ca_9 big n0 g u x) ?_
    refine q_ic_ne rfl (fun (hc1 : x = (1 : Int32)) => ?_) (fun (hc1 : ¬ (x = (1 : Int32))) => ?_)
    · refine q_ret 3 (some (.int (1 : Int32)), g, u) (fun _ _ => rfl) ?_
      unfold d_isHalf
      rw [if_neg hc0, if_pos hc1]
    · refine q_ret 2 (some (.int (0 : Int32)), g, u) (fun _ _ => rfl) ?_
      unfold d_isHalf
      rw [if_neg hc0, if_neg hc1]
def d_isSearched (x : Int32) (g : qM) : Int32 := (if x < 0 then (0 : Int32) else (if (12 : Int32) < x then (0 : Int32) else (1 : Int32)))
theorem b_isSearched (x : Int32) (g : qM) (u : qW) : q_BS 90 [.int x] g u (some (.int (d_isSearched x g)), g, u) := by
  refine q_bx (mm := m_90) rfl (Nat.le_of_ble_eq_true rfl) rfl ?_
  refine q_step 1 1 [(0, .int x)] [.int x] g u (fun big n0 => sg_ca_10 big n0 g u x) ?_
  refine q_if_lt rfl (fun (hc0 : x < 0) => ?_) (fun (hc0 : ¬ (x < 0)) => ?_)
  · refine q_ret 2 (some (.int (0 : Int32)), g, u) (fun _ _ => rfl) ?_
    unfold d_isSearched
    rw [if_pos hc0]
  · refine q_step 2 7 [(0, .int x)] [.int (12 : Int32), .int x] g u (fun big n0 => sg_ca_11 big n0 g u x) ?_
    refine q_ic_gt rfl (fun (hc1 : (12 : Int32) < x) => ?_) (fun (hc1 : ¬ ((12 : Int32) < x)) => ?_)
    · refine q_ret 2 (some (.int (0 : Int32)), g, u) (fun _ _ => rfl) ?_
      unfold d_isSearched
      rw [if_neg hc0, if_pos hc1]
    · refine q_ret 3 (some (.int (1 : Int32)), g, u) (fun _ _ => rfl) ?_
      unfold d_isSearched
      rw [if_neg hc0, if_neg hc1]
def d_isSheet (x : Int32) (g : qM) : Int32 := (if x < 0 then (0 : Int32) else (if (4 : Int32) ≤ x then (0 : Int32) else (1 : Int32)))
theorem b_isSheet (x : Int32) (g : qM) (u : qW) : q_BS 131 [.int x] g u (some (.int (d_isSheet x g)), g, u) := by
  refine q_bx (mm := m_131) rfl (Nat.le_of_ble_eq_true rfl) rfl ?_
  refine q_step 1 1 [(0, .int x)] [.int x] g u (fun big n0 => sg_ca_12 big n0 g u x) ?_
  refine q_if_lt rfl (fun (hc0 : x < 0) => ?_) (fun (hc0 : ¬ (x < 0)) => ?_)
  · refine q_ret 2 (some (.int (0 : Int32)), g, u) (fun _ _ => rfl) ?_
    unfold d_isSheet
    rw [if_pos hc0]
  · refine q_step 2 6 [(0, .int x)] [.int (4 : Int32), .int x] g u (fun big n0 => sg_ca_13 big n0 g u x) ?_
    refine q_ic_ge rfl (fun (hc1 : (4 : Int32) ≤ x) => ?_) (fun (hc1 : ¬ ((4 : Int32) ≤ x)) => ?_)
    · refine q_ret 2 (some (.int (0 : Int32)), g, u) (fun _ _ => rfl) ?_
      unfold d_isSheet
      rw [if_neg hc0, if_pos hc1]
    · refine q_ret 3 (some (.int (1 : Int32)), g, u) (fun _ _ => rfl) ?_
      unfold d_isSheet
      rw [if_neg hc0, if_neg hc1]
def d_isLane (x : Int32) (g : qM) : Int32 := (if x < 0 then (0 : Int32) else (if (2 : Int32) < x then (0 : Int32) else (1 : Int32)))
theorem b_isLane (x : Int32) (g : qM) (u : qW) : q_BS 132 [.int x] g u (some (.int (d_isLane x g)), g, u) := by
  refine q_bx (mm := m_132) rfl (Nat.le_of_ble_eq_true rfl) rfl ?_
  refine q_step 1 1 [(0, .int x)] [.int x] g u (fun big n0 => sg_ca_14 big n0 g u x) ?_
  refine q_if_lt rfl (fun (hc0 : x < 0) => ?_) (fun (hc0 : ¬ (x < 0)) => ?_)
  · refine q_ret 2 (some (.int (0 : Int32)), g, u) (fun _ _ => rfl) ?_
    unfold d_isLane
    rw [if_pos hc0]
  · refine q_step 2 6 [(0, .int x)] [.int (2 : Int32), .int x] g u (fun big n0 => sg_ca_15 big n0 g u x) ?_
    refine q_ic_gt rfl (fun (hc1 : (2 : Int32) < x) => ?_) (fun (hc1 : ¬ ((2 : Int32) < x)) => ?_)
    · refine q_ret 2 (some (.int (0 : Int32)), g, u) (fun _ _ => rfl) ?_
      unfold d_isLane
      rw [if_neg hc0, if_pos hc1]
    · refine q_ret 3 (some (.int (1 : Int32)), g, u) (fun _ _ => rfl) ?_
      unfold d_isLane
      rw [if_neg hc0, if_neg hc1]
def d_fault (g : qM) : Int32 := (g 11 2)
theorem b_fault (g : qM) (u : qW) : q_BS 43 [.ref 8] g u (some (.int (d_fault g)), g, u) := by
  refine q_bx (mm := m_43) rfl (Nat.le_of_ble_eq_true rfl) rfl ?_
  refine q_ret 4 (some (.int (g 11 2)), g, u) (fun _ _ => rfl) ?_
  unfold d_fault
  rfl
def d_torn (g : qM) : Int32 := (g 8 8)
theorem b_torn (g : qM) (u : qW) : q_BS 142 [.ref 8] g u (some (.int (d_torn g)), g, u) := by
  refine q_bx (mm := m_142) rfl (Nat.le_of_ble_eq_true rfl) rfl ?_
  refine q_ret 3 (some (.int (g 8 8)), g, u) (fun _ _ => rfl) ?_
  unfold d_torn
  rfl
def d_press (x : Int32) (g : qM) (u : qW) : Option Value × qM × qW := (if x < 0 then (some (.int (Int32.ofInt (-1))), g, u) else (if x ≤ (4 : Int32) then (some (.int (g 20 4)), (q_up g 20 4 x), u) else (some (.int (Int32.ofInt (-1))), g, u)))
theorem b_press (x : Int32) (g : qM) (u : qW) : q_BS 55 [.ref 8, .int x] g u (d_press x g u) := by
  refine q_bx (mm := m_55) rfl (Nat.le_of_ble_eq_true rfl) rfl ?_
  refine q_step 1 1 [(0, .ref 8), (1, .int x)] [.int x] g u (fun big n0 => sg_ca_16 big n0 g u x) ?_
  refine q_if_lt rfl (fun (hc0 : x < 0) => ?_) (fun (hc0 : ¬ (x < 0)) => ?_)
  · refine q_ret 2 (some (.int (Int32.ofInt (-1))), g, u) (fun _ _ => rfl) ?_
    unfold d_press
    rw [if_pos hc0]
  · refine q_step 2 6 [(0, .ref 8), (1, .int x)] [.int (4 : Int32), .int x] g u (fun big n0 => sg_ca_17 big n0 g u x) ?_
    refine q_ic_le rfl (fun (hc1 : x ≤ (4 : Int32)) => ?_) (fun (hc1 : ¬ (x ≤ (4 : Int32))) => ?_)
    · refine q_ret 10 (some (.int (g 20 4)), (q_up g 20 4 x), u) (fun _ _ => rfl) ?_
      unfold d_press
      rw [if_neg hc0, if_pos hc1]
    · refine q_ret 2 (some (.int (Int32.ofInt (-1))), g, u) (fun _ _ => rfl) ?_
      unfold d_press
      rw [if_neg hc0, if_neg hc1]
def d_rfault (g : qM) : Int32 := (g 70 18)
theorem b_rfault (g : qM) (u : qW) : q_BS 166 [.ref 70] g u (some (.int (d_rfault g)), g, u) := by
  refine q_bx (mm := m_166) rfl (Nat.le_of_ble_eq_true rfl) rfl ?_
  refine q_ret 3 (some (.int (g 70 18)), g, u) (fun _ _ => rfl) ?_
  unfold d_rfault
  rfl
def d_rtorn (g : qM) : Int32 := (g 70 33)
theorem b_rtorn (g : qM) (u : qW) : q_BS 223 [.ref 70] g u (some (.int (d_rtorn g)), g, u) := by
  refine q_bx (mm := m_223) rfl (Nat.le_of_ble_eq_true rfl) rfl ?_
  refine q_ret 3 (some (.int (g 70 33)), g, u) (fun _ _ => rfl) ?_
  unfold d_rtorn
  rfl
theorem s_hasOne {p : Int32} {g : qM} (h : ¬ d_hasOne p g = 0) : 0 ≤ p.toInt ∧ p.toInt < (g 20 3).toInt := by
  unfold d_hasOne at h
  by_cases h1 : p < 0
  · rw [if_pos h1] at h
    exact absurd rfl h
  · rw [if_neg h1] at h
    have e : (0 : Int32).toInt = 0 := rfl
    have h2 : ¬ p.toInt < 0 := fun z => h1 (Int32.lt_iff_toInt_lt.mpr (by omega))
    by_cases h3 : g 20 3 ≤ p
    · rw [if_pos h3] at h
      exact absurd rfl h
    · have h4 : ¬ (g 20 3).toInt ≤ p.toInt := fun z => h3 (Int32.le_iff_toInt_le.mpr z)
      omega
theorem s_onei {p : Int32} {g : qM} {n : Nat} (hn : g 20 3 = Int32.ofNat n) (h6 : n ≤ 6) (h : ¬ d_hasOne p g = 0) : q_ix p p.toInt.toNat 6 := by
  obtain ⟨h1, h2⟩ := s_hasOne h
  rw [hn, q_nat (by omega)] at h2
  exact q_ixi h1 (by omega)
theorem s_pulli {x : Int32} (h1 : ¬ x < 1) (h2 : ¬ 4 < x) : q_ix x x.toInt.toNat 5 := by
  have e1 : (1 : Int32).toInt = 1 := rfl
  have e4 : (4 : Int32).toInt = 4 := rfl
  have a : ¬ x.toInt < 1 := fun z => h1 (Int32.lt_iff_toInt_lt.mpr (by omega))
  have b : ¬ 4 < x.toInt := fun z => h2 (Int32.lt_iff_toInt_lt.mpr (by omega))
  exact q_ixi (by omega) (by omega)
def d_hold (p : Int32) (y : Int32) (g : qM) (u : qW) : Option Value × qM × qW := (if (d_hasOne p g) = 0 then (some (.int (Int32.ofInt (-1))), g, u) else (if y = 0 then (some (.int (g 23 p.toInt.toNat)), (q_up g 23 p.toInt.toNat (0 : Int32)), u) else (some (.int (g 23 p.toInt.toNat)), (q_up g 23 p.toInt.toNat (1 : Int32)), u)))
theorem b_hold (p : Int32) (y : Int32) (g : qM) (u : qW) {n : Nat} (hn : g 20 3 = Int32.ofNat n) (h6 : n ≤ 6) : q_BS 51 [.ref 8, .int p, .int y] g u (d_hold p y g u) := by
  refine q_bx (mm := m_51) rfl (Nat.le_of_ble_eq_true rfl) rfl ?_
  refine q_step 3 5 [(0, .ref 8), (1, .int p), (2, .int y)] [.int p, .ref 20] g u (fun big n0 => sg_ca_18 big n0 g u p y) ?_
  refine q_call (M2 := 40) (rest := []) (b_hasOne _ _ _) (fun _ _ => rfl) ?_
  refine q_if_ne rfl (fun (hc0 : (d_hasOne p g) = 0) => ?_) (fun (hc0 : ¬ ((d_hasOne p g) = 0)) => ?_)
  · refine q_ret 2 (some (.int (Int32.ofInt (-1))), g, u) (fun _ _ => rfl) ?_
    unfold d_hold
    rw [if_pos hc0]
  · refine q_step 4 21 [(0, .ref 8), (1, .int p), (2, .int y)] [.int p, .ref 23] g u (fun big n0 => sg_ca_19 big n0 g u p y) ?_
    refine q_iald (j := p.toInt.toNat) (s_onei hn h6 (by assumption)) rfl rfl ?_
    refine q_step 6 32 [(0, .ref 8), (1, .int p), (2, .int y), (3, .int (g 23 p.toInt.toNat))] [.int y, .int p, .ref 23] g u (fun big n0 => sg_ca_20 big n0 g u p y (g 23 p.toInt.toNat)) ?_
    refine q_if_eq rfl (fun (hc1 : y = 0) => ?_) (fun (hc1 : ¬ (y = 0)) => ?_)
    · refine q_step 1 40 [(0, .ref 8), (1, .int p), (2, .int y), (3, .int (g 23 p.toInt.toNat))] [.int (0 : Int32), .int p, .ref 23] g u (fun big n0 => sg_ca_21 big n0 g u p y (g 23 p.toInt.toNat) p) ?_
      refine q_iast (j := p.toInt.toNat) (s_onei hn h6 (by assumption)) rfl rfl ?_
      refine q_ret 2 (some (.int (g 23 p.toInt.toNat)), (q_up g 23 p.toInt.toNat (0 : Int32)), u) (fun _ _ => rfl) ?_
      unfold d_hold
      rw [if_neg hc0, if_pos hc1]
    · refine q_step 2 40 [(0, .ref 8), (1, .int p), (2, .int y), (3, .int (g 23 p.toInt.toNat))] [.int (1 : Int32), .int p, .ref 23] g u (fun big n0 => sg_ca_22 big n0 g u p y (g 23 p.toInt.toNat) p) ?_
      refine q_iast (j := p.toInt.toNat) (s_onei hn h6 (by assumption)) rfl rfl ?_
      refine q_ret 2 (some (.int (g 23 p.toInt.toNat)), (q_up g 23 p.toInt.toNat (1 : Int32)), u) (fun _ _ => rfl) ?_
      unfold d_hold
      rw [if_neg hc0, if_neg hc1]
def d_mood (p : Int32) (y : Int32) (g : qM) (u : qW) : Option Value × qM × qW := (if (d_hasOne p g) = 0 then (some (.int (Int32.ofInt (-1))), g, u) else (if (d_isMood y g) = 0 then (some (.int (Int32.ofInt (-1))), g, u) else (some (.int (g 22 p.toInt.toNat)), (q_up g 22 p.toInt.toNat y), u)))
theorem b_mood (p : Int32) (y : Int32) (g : qM) (u : qW) {n : Nat} (hn : g 20 3 = Int32.ofNat n) (h6 : n ≤ 6) : q_BS 47 [.ref 8, .int p, .int y] g u (d_mood p y g u) := by
  refine q_bx (mm := m_47) rfl (Nat.le_of_ble_eq_true rfl) rfl ?_
  refine q_step 3 5 [(0, .ref 8), (1, .int p), (2, .int y)] [.int p, .ref 20] g u (fun big n0 => sg_ca_23 big n0 g u p y) ?_
  refine q_call (M2 := 40) (rest := []) (b_hasOne _ _ _) (fun _ _ => rfl) ?_
  refine q_if_eq rfl (fun (hc0 : (d_hasOne p g) = 0) => ?_) (fun (hc0 : ¬ ((d_hasOne p g) = 0)) => ?_)
  · refine q_ret 2 (some (.int (Int32.ofInt (-1))), g, u) (fun _ _ => rfl) ?_
    unfold d_mood
    rw [if_pos hc0]
  · refine q_step 1 12 [(0, .ref 8), (1, .int p), (2, .int y)] [.int y] g u (fun big n0 => sg_ca_24 big n0 g u p y) ?_
    refine q_call (M2 := 48) (rest := []) (b_isMood _ _ _) (fun _ _ => rfl) ?_
    refine q_if_ne rfl (fun (hc1 : (d_isMood y g) = 0) => ?_) (fun (hc1 : ¬ ((d_isMood y g) = 0)) => ?_)
    · refine q_ret 2 (some (.int (Int32.ofInt (-1))), g, u) (fun _ _ => rfl) ?_
      unfold d_mood
      rw [if_neg hc0, if_pos hc1]
    · refine q_step 4 28 [(0, .ref 8), (1, .int p), (2, .int y)] [.int p, .ref 22] g u (fun big n0 => sg_ca_25 big n0 g u p y) ?_
      refine q_iald (j := p.toInt.toNat) (s_onei hn h6 (by assumption)) rfl rfl ?_
      refine q_step 6 39 [(0, .ref 8), (1, .int p), (2, .int y), (3, .int (g 22 p.toInt.toNat))] [.int y, .int p, .ref 22] g u (fun big n0 => sg_ca_26 big n0 g u p y (g 22 p.toInt.toNat)) ?_
      refine q_iast (j := p.toInt.toNat) (s_onei hn h6 (by assumption)) rfl rfl ?_
      refine q_ret 2 (some (.int (g 22 p.toInt.toNat)), (q_up g 22 p.toInt.toNat y), u) (fun _ _ => rfl) ?_
      unfold d_mood
      rw [if_neg hc0, if_neg hc1]
def d_goal (p : Int32) (y : Int32) (g : qM) (u : qW) : Option Value × qM × qW := (if (d_hasOne p g) = 0 then (some (.int (Int32.ofInt (-1))), g, u) else (if y = (Int8.toInt32 (Int8.ofInt (-4))) then (some (.int (g 24 p.toInt.toNat)), (q_up g 24 p.toInt.toNat y), u) else (if (d_hasCell y g) = 0 then (some (.int (Int32.ofInt (-1))), g, u) else (some (.int (g 24 p.toInt.toNat)), (q_up g 24 p.toInt.toNat y), u))))
theorem b_goal (p : Int32) (y : Int32) (g : qM) (u : qW) {n : Nat} (hn : g 20 3 = Int32.ofNat n) (h6 : n ≤ 6) : q_BS 52 [.ref 8, .int p, .int y] g u (d_goal p y g u) := by
  refine q_bx (mm := m_52) rfl (Nat.le_of_ble_eq_true rfl) rfl ?_
  refine q_step 3 5 [(0, .ref 8), (1, .int p), (2, .int y)] [.int p, .ref 20] g u (fun big n0 => sg_ca_27 big n0 g u p y) ?_
  refine q_call (M2 := 40) (rest := []) (b_hasOne _ _ _) (fun _ _ => rfl) ?_
  refine q_if_eq rfl (fun (hc0 : (d_hasOne p g) = 0) => ?_) (fun (hc0 : ¬ ((d_hasOne p g) = 0)) => ?_)
  · refine q_ret 2 (some (.int (Int32.ofInt (-1))), g, u) (fun _ _ => rfl) ?_
    unfold d_goal
    rw [if_pos hc0]
  · refine q_step 2 14 [(0, .ref 8), (1, .int p), (2, .int y)] [.int (Int8.toInt32 (Int8.ofInt (-4))), .int y] g u (fun big n0 => sg_ca_28 big n0 g u p y) ?_
    refine q_ic_eq rfl (fun (hc1 : y = (Int8.toInt32 (Int8.ofInt (-4)))) => ?_) (fun (hc1 : ¬ (y = (Int8.toInt32 (Int8.ofInt (-4))))) => ?_)
    · refine q_step 4 38 [(0, .ref 8), (1, .int p), (2, .int y)] [.int p, .ref 24] g u (fun big n0 => sg_ca_29 big n0 g u p y) ?_
      refine q_iald (j := p.toInt.toNat) (s_onei hn h6 (by assumption)) rfl rfl ?_
      refine q_step 6 49 [(0, .ref 8), (1, .int p), (2, .int y), (3, .int (g 24 p.toInt.toNat))] [.int y, .int p, .ref 24] g u (fun big n0 => sg_ca_30 big n0 g u p y (g 24 p.toInt.toNat)) ?_
      refine q_iast (j := p.toInt.toNat) (s_onei hn h6 (by assumption)) rfl rfl ?_
      refine q_ret 2 (some (.int (g 24 p.toInt.toNat)), (q_up g 24 p.toInt.toNat y), u) (fun _ _ => rfl) ?_
      unfold d_goal
      rw [if_neg hc0, if_pos hc1]
    · refine q_step 3 22 [(0, .ref 8), (1, .int p), (2, .int y)] [.int y, .ref 20] g u (fun big n0 => sg_ca_31 big n0 g u p y) ?_
      refine q_call (M2 := 38) (rest := []) (b_hasCell _ _ _) (fun _ _ => rfl) ?_
      refine q_if_ne rfl (fun (hc2 : (d_hasCell y g) = 0) => ?_) (fun (hc2 : ¬ ((d_hasCell y g) = 0)) => ?_)
      · refine q_ret 2 (some (.int (Int32.ofInt (-1))), g, u) (fun _ _ => rfl) ?_
        unfold d_goal
        rw [if_neg hc0, if_neg hc1, if_pos hc2]
      · refine q_step 4 38 [(0, .ref 8), (1, .int p), (2, .int y)] [.int p, .ref 24] g u (fun big n0 => sg_ca_29 big n0 g u p y) ?_
        refine q_iald (j := p.toInt.toNat) (s_onei hn h6 (by assumption)) rfl rfl ?_
        refine q_step 6 49 [(0, .ref 8), (1, .int p), (2, .int y), (3, .int (g 24 p.toInt.toNat))] [.int y, .int p, .ref 24] g u (fun big n0 => sg_ca_30 big n0 g u p y (g 24 p.toInt.toNat)) ?_
        refine q_iast (j := p.toInt.toNat) (s_onei hn h6 (by assumption)) rfl rfl ?_
        refine q_ret 2 (some (.int (g 24 p.toInt.toNat)), (q_up g 24 p.toInt.toNat y), u) (fun _ _ => rfl) ?_
        unfold d_goal
        rw [if_neg hc0, if_neg hc1, if_neg hc2]
def d_pull (x : Int32) (y : Int32) (g : qM) (u : qW) : Option Value × qM × qW := (if x < (1 : Int32) then (some (.int (Int32.ofInt (-1))), g, u) else (if (4 : Int32) < x then (some (.int (Int32.ofInt (-1))), g, u) else (if y < 0 then (some (.int (Int32.ofInt (-1))), g, u) else (if y ≤ (9 : Int32) then (some (.int (g 25 x.toInt.toNat)), (q_up g 25 x.toInt.toNat y), u) else (some (.int (Int32.ofInt (-1))), g, u)))))
theorem b_pull (x : Int32) (y : Int32) (g : qM) (u : qW) : q_BS 54 [.ref 8, .int x, .int y] g u (d_pull x y g u) := by
  refine q_bx (mm := m_54) rfl (Nat.le_of_ble_eq_true rfl) rfl ?_
  refine q_step 2 2 [(0, .ref 8), (1, .int x), (2, .int y)] [.int (1 : Int32), .int x] g u (fun big n0 => sg_ca_32 big n0 g u x y) ?_
  refine q_ic_lt rfl (fun (hc0 : x < (1 : Int32)) => ?_) (fun (hc0 : ¬ (x < (1 : Int32))) => ?_)
  · refine q_ret 2 (some (.int (Int32.ofInt (-1))), g, u) (fun _ _ => rfl) ?_
    unfold d_pull
    rw [if_pos hc0]
  · refine q_step 2 7 [(0, .ref 8), (1, .int x), (2, .int y)] [.int (4 : Int32), .int x] g u (fun big n0 => sg_ca_33 big n0 g u x y) ?_
    refine q_ic_gt rfl (fun (hc1 : (4 : Int32) < x) => ?_) (fun (hc1 : ¬ ((4 : Int32) < x)) => ?_)
    · refine q_ret 2 (some (.int (Int32.ofInt (-1))), g, u) (fun _ _ => rfl) ?_
      unfold d_pull
      rw [if_neg hc0, if_pos hc1]
    · refine q_step 1 11 [(0, .ref 8), (1, .int x), (2, .int y)] [.int y] g u (fun big n0 => sg_ca_34 big n0 g u x y) ?_
      refine q_if_lt rfl (fun (hc2 : y < 0) => ?_) (fun (hc2 : ¬ (y < 0)) => ?_)
      · refine q_ret 2 (some (.int (Int32.ofInt (-1))), g, u) (fun _ _ => rfl) ?_
        unfold d_pull
        rw [if_neg hc0, if_neg hc1, if_pos hc2]
      · refine q_step 2 17 [(0, .ref 8), (1, .int x), (2, .int y)] [.int (9 : Int32), .int y] g u (fun big n0 => sg_ca_35 big n0 g u x y) ?_
        refine q_ic_le rfl (fun (hc3 : y ≤ (9 : Int32)) => ?_) (fun (hc3 : ¬ (y ≤ (9 : Int32))) => ?_)
        · refine q_step 4 30 [(0, .ref 8), (1, .int x), (2, .int y)] [.int x, .ref 25] g u (fun big n0 => sg_ca_36 big n0 g u x y) ?_
          refine q_iald (j := x.toInt.toNat) (s_pulli (by assumption) (by assumption)) rfl rfl ?_
          refine q_step 6 41 [(0, .ref 8), (1, .int x), (2, .int y), (3, .int (g 25 x.toInt.toNat))] [.int y, .int x, .ref 25] g u (fun big n0 => sg_ca_37 big n0 g u x y (g 25 x.toInt.toNat)) ?_
          refine q_iast (j := x.toInt.toNat) (s_pulli (by assumption) (by assumption)) rfl rfl ?_
          refine q_ret 2 (some (.int (g 25 x.toInt.toNat)), (q_up g 25 x.toInt.toNat y), u) (fun _ _ => rfl) ?_
          unfold d_pull
          rw [if_neg hc0, if_neg hc1, if_neg hc2, if_pos hc3]
        · refine q_ret 2 (some (.int (Int32.ofInt (-1))), g, u) (fun _ _ => rfl) ?_
          unfold d_pull
          rw [if_neg hc0, if_neg hc1, if_neg hc2, if_neg hc3]
def d_forget (x : Int32) (g : qM) (u : qW) : Option Value × qM × qW := (if x < 0 then (some (.int (Int32.ofInt (-1))), g, u) else (if x ≤ (g 20 6) then (some (.int (g 20 6)), (q_up g 20 6 x), u) else (some (.int (Int32.ofInt (-1))), g, u)))
theorem b_forget (x : Int32) (g : qM) (u : qW) : q_BS 119 [.ref 8, .int x] g u (d_forget x g u) := by
  refine q_bx (mm := m_119) rfl (Nat.le_of_ble_eq_true rfl) rfl ?_
  refine q_step 5 9 [(0, .ref 8), (1, .int x), (2, .int (g 20 6))] [.int x] g u (fun big n0 => sg_ca_38 big n0 g u x) ?_
  refine q_if_lt rfl (fun (hc0 : x < 0) => ?_) (fun (hc0 : ¬ (x < 0)) => ?_)
  · refine q_ret 2 (some (.int (Int32.ofInt (-1))), g, u) (fun _ _ => rfl) ?_
    unfold d_forget
    rw [if_pos hc0]
  · refine q_step 2 14 [(0, .ref 8), (1, .int x), (2, .int (g 20 6))] [.int (g 20 6), .int x] g u (fun big n0 => sg_ca_39 big n0 g u x (g 20 6)) ?_
    refine q_ic_le rfl (fun (hc1 : x ≤ (g 20 6)) => ?_) (fun (hc1 : ¬ (x ≤ (g 20 6))) => ?_)
    · refine q_ret 6 (some (.int (g 20 6)), (q_up g 20 6 x), u) (fun _ _ => rfl) ?_
      unfold d_forget
      rw [if_neg hc0, if_pos hc1]
    · refine q_ret 2 (some (.int (Int32.ofInt (-1))), g, u) (fun _ _ => rfl) ?_
      unfold d_forget
      rw [if_neg hc0, if_neg hc1]
