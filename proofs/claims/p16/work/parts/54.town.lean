/-! COUNTS over all ones, and who is in a cell. -/
/-- the first of those in the cell x -/
def s_w1 (c : Nat → Int32) (x : Int32) : Nat → Nat → Int32
  | 0, _ => i_none
  | k + 1, i => if c i = x then Int32.ofNat i else s_w1 c x k (i + 1)
/-- how many of k from i on -/
def s_ct (P : Nat → Int32) : Nat → Nat → Int32 → Int32
  | 0, _, a => a
  | k + 1, i, a => s_ct P k (i + 1) (a + P i)
theorem sg_tn_1 (big : Nat → List Value → qM → qW → qR) (n0 : Nat) (G : qM) (U : qW) (v0 : Int32) (v1 : Int32) : qm_run pm_m big m_30 (n0 + 3) 2 [(0, .ref 20), (1, .int v0), (2, .int v1)] [] G U = qm_run pm_m big m_30 n0 7 [(0, .ref 20), (1, .int v0), (2, .int v1)] [.int (G 20 3), .int v1] G U := rfl
theorem sg_tn_2 (big : Nat → List Value → qM → qW → qR) (n0 : Nat) (G : qM) (U : qW) (v0 : Int32) (v1 : Int32) : qm_run pm_m big m_30 (n0 + 3) 10 [(0, .ref 20), (1, .int v0), (2, .int v1)] [] G U = qm_run pm_m big m_30 n0 15 [(0, .ref 20), (1, .int v0), (2, .int v1)] [.int v1, .ref 21] G U := rfl
theorem sg_tn_3 (big : Nat → List Value → qM → qW → qR) (n0 : Nat) (G : qM) (U : qW) (v0 : Int32) (v1 : Int32) (v2 : Int32) : qm_run pm_m big m_30 (n0 + 1) 16 [(0, .ref 20), (1, .int v0), (2, .int v1)] [.int v2] G U = qm_run pm_m big m_30 n0 17 [(0, .ref 20), (1, .int v0), (2, .int v1)] [.int v0, .int v2] G U := rfl
theorem sg_tn_4 (big : Nat → List Value → qM → qW → qR) (n0 : Nat) (G : qM) (U : qW) (v0 : Int32) (v1 : Int32) : qm_run pm_m big m_30 (n0 + 2) 22 [(0, .ref 20), (1, .int v0), (2, .int v1)] [] G U = qm_run pm_m big m_30 n0 2 [(0, .ref 20), (1, .int v0), (2, .int (v1 + (1 : Int32)))] [] G U := rfl
theorem sg_tn_5 (big : Nat → List Value → qM → qW → qR) (n0 : Nat) (G : qM) (U : qW) (v0 : Int32) : qm_run pm_m big m_30 (n0 + 2) 0 [(0, .ref 20), (1, .int v0)] [] G U = qm_run pm_m big m_30 n0 2 [(0, .ref 20), (1, .int v0), (2, .int (0 : Int32))] [] G U := rfl
theorem sg_tn_6 (big : Nat → List Value → qM → qW → qR) (n0 : Nat) (G : qM) (U : qW) (v0 : Int32) (v1 : Int32) : qm_run pm_m big m_78 (n0 + 3) 4 [(0, .ref 20), (1, .int v0), (2, .int v1)] [] G U = qm_run pm_m big m_78 n0 9 [(0, .ref 20), (1, .int v0), (2, .int v1)] [.int (G 20 3), .int v1] G U := rfl
theorem sg_tn_7 (big : Nat → List Value → qM → qW → qR) (n0 : Nat) (G : qM) (U : qW) (v0 : Int32) (v1 : Int32) : qm_run pm_m big m_78 (n0 + 4) 12 [(0, .ref 20), (1, .int v0), (2, .int v1)] [] G U = qm_run pm_m big m_78 n0 18 [(0, .ref 20), (1, .int v0), (2, .int v1)] [.int v1, .ref 21, .int v0] G U := rfl
theorem sg_tn_8 (big : Nat → List Value → qM → qW → qR) (n0 : Nat) (G : qM) (U : qW) (v0 : Int32) (v1 : Int32) (v2 : Int32) (v3 : Int32) : qm_run pm_m big m_78 (n0 + 3) 19 [(0, .ref 20), (1, .int v0), (2, .int v1)] [.int v3, .int v2] G U = qm_run pm_m big m_78 n0 24 [(0, .ref 20), (1, .int v0), (2, .int v1)] [.int v1, .ref 24, .int v3, .int v2] G U := rfl
theorem sg_tn_9 (big : Nat → List Value → qM → qW → qR) (n0 : Nat) (G : qM) (U : qW) (v0 : Int32) (v1 : Int32) (v2 : Int32) : qm_run pm_m big m_78 (n0 + 6) 28 [(0, .ref 20), (1, .int v0), (2, .int v1)] [.int v2] G U = qm_run pm_m big m_78 n0 4 [(0, .ref 20), (1, .int (v2 + (1 : Int32))), (2, .int (v1 + (1 : Int32)))] [] G U := rfl
theorem sg_tn_10 (big : Nat → List Value → qM → qW → qR) (n0 : Nat) (G : qM) (U : qW) (v0 : Int32) (v1 : Int32) (v2 : Int32) : qm_run pm_m big m_78 (n0 + 5) 32 [(0, .ref 20), (1, .int v0), (2, .int v1)] [.int v2] G U = qm_run pm_m big m_78 n0 4 [(0, .ref 20), (1, .int (v2 + (0 : Int32))), (2, .int (v1 + (1 : Int32)))] [] G U := rfl
theorem sg_tn_11 (big : Nat → List Value → qM → qW → qR) (n0 : Nat) (G : qM) (U : qW) : qm_run pm_m big m_78 (n0 + 4) 0 [(0, .ref 20)] [] G U = qm_run pm_m big m_78 n0 4 [(0, .ref 20), (1, .int (0 : Int32)), (2, .int (0 : Int32))] [] G U := rfl
theorem sg_tn_12 (big : Nat → List Value → qM → qW → qR) (n0 : Nat) (G : qM) (U : qW) (v0 : Int32) (v1 : Int32) : qm_run pm_m big m_100 (n0 + 3) 4 [(0, .ref 20), (1, .int v0), (2, .int v1)] [] G U = qm_run pm_m big m_100 n0 9 [(0, .ref 20), (1, .int v0), (2, .int v1)] [.int (G 20 3), .int v1] G U := rfl
theorem sg_tn_13 (big : Nat → List Value → qM → qW → qR) (n0 : Nat) (G : qM) (U : qW) (v0 : Int32) (v1 : Int32) : qm_run pm_m big m_100 (n0 + 4) 12 [(0, .ref 20), (1, .int v0), (2, .int v1)] [] G U = qm_run pm_m big m_100 n0 18 [(0, .ref 20), (1, .int v0), (2, .int v1)] [.int v1, .ref 24, .int v0] G U := rfl
theorem sg_tn_14 (big : Nat → List Value → qM → qW → qR) (n0 : Nat) (G : qM) (U : qW) (v0 : Int32) (v1 : Int32) (v2 : Int32) (v3 : Int32) : qm_run pm_m big m_100 (n0 + 1) 19 [(0, .ref 20), (1, .int v0), (2, .int v1)] [.int v3, .int v2] G U = qm_run pm_m big m_100 n0 21 [(0, .ref 20), (1, .int v0), (2, .int v1)] [.int (Int8.toInt32 (Int8.ofInt (-4))), .int v3, .int v2] G U := rfl
theorem sg_tn_15 (big : Nat → List Value → qM → qW → qR) (n0 : Nat) (G : qM) (U : qW) (v0 : Int32) (v1 : Int32) (v2 : Int32) : qm_run pm_m big m_100 (n0 + 5) 28 [(0, .ref 20), (1, .int v0), (2, .int v1)] [.int v2] G U = qm_run pm_m big m_100 n0 4 [(0, .ref 20), (1, .int (v2 + (0 : Int32))), (2, .int (v1 + (1 : Int32)))] [] G U := rfl
theorem sg_tn_16 (big : Nat → List Value → qM → qW → qR) (n0 : Nat) (G : qM) (U : qW) (v0 : Int32) (v1 : Int32) (v2 : Int32) : qm_run pm_m big m_100 (n0 + 6) 24 [(0, .ref 20), (1, .int v0), (2, .int v1)] [.int v2] G U = qm_run pm_m big m_100 n0 4 [(0, .ref 20), (1, .int (v2 + (1 : Int32))), (2, .int (v1 + (1 : Int32)))] [] G U := rfl
theorem sg_tn_17 (big : Nat → List Value → qM → qW → qR) (n0 : Nat) (G : qM) (U : qW) : qm_run pm_m big m_100 (n0 + 4) 0 [(0, .ref 20)] [] G U = qm_run pm_m big m_100 n0 4 [(0, .ref 20), (1, .int (0 : Int32)), (2, .int (0 : Int32))] [] G U := rfl
theorem sg_tn_18 (big : Nat → List Value → qM → qW → qR) (n0 : Nat) (G : qM) (U : qW) (v0 : Int32) (v1 : Int32) : qm_run pm_m big m_144 (n0 + 3) 4 [(0, .ref 20), (1, .int v0), (2, .int v1)] [] G U = qm_run pm_m big m_144 n0 9 [(0, .ref 20), (1, .int v0), (2, .int v1)] [.int (G 20 3), .int v1] G U := rfl
theorem sg_tn_19 (big : Nat → List Value → qM → qW → qR) (n0 : Nat) (G : qM) (U : qW) (v0 : Int32) (v1 : Int32) : qm_run pm_m big m_144 (n0 + 4) 12 [(0, .ref 20), (1, .int v0), (2, .int v1)] [] G U = qm_run pm_m big m_144 n0 18 [(0, .ref 20), (1, .int v0), (2, .int v1)] [.int v1, .ref 22, .int v0] G U := rfl
theorem sg_tn_20 (big : Nat → List Value → qM → qW → qR) (n0 : Nat) (G : qM) (U : qW) (v0 : Int32) (v1 : Int32) (v2 : Int32) : qm_run pm_m big m_144 (n0 + 6) 22 [(0, .ref 20), (1, .int v0), (2, .int v1)] [.int v2] G U = qm_run pm_m big m_144 n0 4 [(0, .ref 20), (1, .int (v2 + (1 : Int32))), (2, .int (v1 + (1 : Int32)))] [] G U := rfl
theorem sg_tn_21 (big : Nat → List Value → qM → qW → qR) (n0 : Nat) (G : qM) (U : qW) (v0 : Int32) (v1 : Int32) (v2 : Int32) : qm_run pm_m big m_144 (n0 + 5) 26 [(0, .ref 20), (1, .int v0), (2, .int v1)] [.int v2] G U = qm_run pm_m big m_144 n0 4 [(0, .ref 20), (1, .int (v2 + (0 : Int32))), (2, .int (v1 + (1 : Int32)))] [] G U := rfl
theorem sg_tn_22 (big : Nat → List Value → qM → qW → qR) (n0 : Nat) (G : qM) (U : qW) : qm_run pm_m big m_144 (n0 + 4) 0 [(0, .ref 20)] [] G U = qm_run pm_m big m_144 n0 4 [(0, .ref 20), (1, .int (0 : Int32)), (2, .int (0 : Int32))] [] G U := rfl
theorem sg_tn_23 (big : Nat → List Value → qM → qW → qR) (n0 : Nat) (G : qM) (U : qW) (v0 : Int32) (v1 : Int32) : qm_run pm_m big m_30 (n0 + 3) 2 [(0, .ref 35), (1, .int v0), (2, .int v1)] [] G U = qm_run pm_m big m_30 n0 7 [(0, .ref 35), (1, .int v0), (2, .int v1)] [.int (G 35 3), .int v1] G U := rfl
theorem sg_tn_24 (big : Nat → List Value → qM → qW → qR) (n0 : Nat) (G : qM) (U : qW) (v0 : Int32) (v1 : Int32) : qm_run pm_m big m_30 (n0 + 3) 10 [(0, .ref 35), (1, .int v0), (2, .int v1)] [] G U = qm_run pm_m big m_30 n0 15 [(0, .ref 35), (1, .int v0), (2, .int v1)] [.int v1, .ref 36] G U := rfl
theorem sg_tn_25 (big : Nat → List Value → qM → qW → qR) (n0 : Nat) (G : qM) (U : qW) (v0 : Int32) (v1 : Int32) (v2 : Int32) : qm_run pm_m big m_30 (n0 + 1) 16 [(0, .ref 35), (1, .int v0), (2, .int v1)] [.int v2] G U = qm_run pm_m big m_30 n0 17 [(0, .ref 35), (1, .int v0), (2, .int v1)] [.int v0, .int v2] G U := rfl
theorem sg_tn_26 (big : Nat → List Value → qM → qW → qR) (n0 : Nat) (G : qM) (U : qW) (v0 : Int32) (v1 : Int32) : qm_run pm_m big m_30 (n0 + 2) 22 [(0, .ref 35), (1, .int v0), (2, .int v1)] [] G U = qm_run pm_m big m_30 n0 2 [(0, .ref 35), (1, .int v0), (2, .int (v1 + (1 : Int32)))] [] G U := rfl
theorem sg_tn_27 (big : Nat → List Value → qM → qW → qR) (n0 : Nat) (G : qM) (U : qW) (v0 : Int32) : qm_run pm_m big m_30 (n0 + 2) 0 [(0, .ref 35), (1, .int v0)] [] G U = qm_run pm_m big m_30 n0 2 [(0, .ref 35), (1, .int v0), (2, .int (0 : Int32))] [] G U := rfl
theorem sg_tn_28 (big : Nat → List Value → qM → qW → qR) (n0 : Nat) (G : qM) (U : qW) (v0 : Int32) (v1 : Int32) : qm_run pm_m big m_78 (n0 + 3) 4 [(0, .ref 35), (1, .int v0), (2, .int v1)] [] G U = qm_run pm_m big m_78 n0 9 [(0, .ref 35), (1, .int v0), (2, .int v1)] [.int (G 35 3), .int v1] G U := rfl
theorem sg_tn_29 (big : Nat → List Value → qM → qW → qR) (n0 : Nat) (G : qM) (U : qW) (v0 : Int32) (v1 : Int32) : qm_run pm_m big m_78 (n0 + 4) 12 [(0, .ref 35), (1, .int v0), (2, .int v1)] [] G U = qm_run pm_m big m_78 n0 18 [(0, .ref 35), (1, .int v0), (2, .int v1)] [.int v1, .ref 36, .int v0] G U := rfl
theorem sg_tn_30 (big : Nat → List Value → qM → qW → qR) (n0 : Nat) (G : qM) (U : qW) (v0 : Int32) (v1 : Int32) (v2 : Int32) (v3 : Int32) : qm_run pm_m big m_78 (n0 + 3) 19 [(0, .ref 35), (1, .int v0), (2, .int v1)] [.int v3, .int v2] G U = qm_run pm_m big m_78 n0 24 [(0, .ref 35), (1, .int v0), (2, .int v1)] [.int v1, .ref 39, .int v3, .int v2] G U := rfl
theorem sg_tn_31 (big : Nat → List Value → qM → qW → qR) (n0 : Nat) (G : qM) (U : qW) (v0 : Int32) (v1 : Int32) (v2 : Int32) : qm_run pm_m big m_78 (n0 + 6) 28 [(0, .ref 35), (1, .int v0), (2, .int v1)] [.int v2] G U = qm_run pm_m big m_78 n0 4 [(0, .ref 35), (1, .int (v2 + (1 : Int32))), (2, .int (v1 + (1 : Int32)))] [] G U := rfl
theorem sg_tn_32 (big : Nat → List Value → qM → qW → qR) (n0 : Nat) (G : qM) (U : qW) (v0 : Int32) (v1 : Int32) (v2 : Int32) : qm_run pm_m big m_78 (n0 + 5) 32 [(0, .ref 35), (1, .int v0), (2, .int v1)] [.int v2] G U = qm_run pm_m big m_78 n0 4 [(0, .ref 35), (1, .int (v2 + (0 : Int32))), (2, .int (v1 + (1 : Int32)))] [] G U := rfl
theorem sg_tn_33 (big : Nat → List Value → qM → qW → qR) (n0 : Nat) (G : qM) (U : qW) : qm_run pm_m big m_78 (n0 + 4) 0 [(0, .ref 35)] [] G U = qm_run pm_m big m_78 n0 4 [(0, .ref 35), (1, .int (0 : Int32)), (2, .int (0 : Int32))] [] G U := rfl
theorem sg_tn_34 (big : Nat → List Value → qM → qW → qR) (n0 : Nat) (G : qM) (U : qW) (v0 : Int32) (v1 : Int32) : qm_run pm_m big m_100 (n0 + 3) 4 [(0, .ref 35), (1, .int v0), (2, .int v1)] [] G U = qm_run pm_m big m_100 n0 9 [(0, .ref 35), (1, .int v0), (2, .int v1)] [.int (G 35 3), .int v1] G U := rfl
theorem sg_tn_35 (big : Nat → List Value → qM → qW → qR) (n0 : Nat) (G : qM) (U : qW) (v0 : Int32) (v1 : Int32) : qm_run pm_m big m_100 (n0 + 4) 12 [(0, .ref 35), (1, .int v0), (2, .int v1)] [] G U = qm_run pm_m big m_100 n0 18 [(0, .ref 35), (1, .int v0), (2, .int v1)] [.int v1, .ref 39, .int v0] G U := rfl
theorem sg_tn_36 (big : Nat → List Value → qM → qW → qR) (n0 : Nat) (G : qM) (U : qW) (v0 : Int32) (v1 : Int32) (v2 : Int32) (v3 : Int32) : qm_run pm_m big m_100 (n0 + 1) 19 [(0, .ref 35), (1, .int v0), (2, .int v1)] [.int v3, .int v2] G U = qm_run pm_m big m_100 n0 21 [(0, .ref 35), (1, .int v0), (2, .int v1)] [.int (Int8.toInt32 (Int8.ofInt (-4))), .int v3, .int v2] G U := rfl
theorem sg_tn_37 (big : Nat → List Value → qM → qW → qR) (n0 : Nat) (G : qM) (U : qW) (v0 : Int32) (v1 : Int32) (v2 : Int32) : qm_run pm_m big m_100 (n0 + 5) 28 [(0, .ref 35), (1, .int v0), (2, .int v1)] [.int v2] G U = qm_run pm_m big m_100 n0 4 [(0, .ref 35), (1, .int (v2 + (0 : Int32))), (2, .int (v1 + (1 : Int32)))] [] G U := rfl
theorem sg_tn_38 (big : Nat → List Value → qM → qW → qR) (n0 : Nat) (G : qM) (U : qW) (v0 : Int32) (v1 : Int32) (v2 : Int32) : qm_run pm_m big m_100 (n0 + 6) 24 [(0, .ref 35), (1, .int v0), (2, .int v1)] [.int v2] G U = qm_run pm_m big m_100 n0 4 [(0, .ref 35), (1, .int (v2 + (1 : Int32))), (2, .int (v1 + (1 : Int32)))] [] G U := rfl
theorem sg_tn_39 (big : Nat → List Value → qM → qW → qR) (n0 : Nat) (G : qM) (U : qW) : qm_run pm_m big m_100 (n0 + 4) 0 [(0, .ref 35)] [] G U = qm_run pm_m big m_100 n0 4 [(0, .ref 35), (1, .int (0 : Int32)), (2, .int (0 : Int32))] [] G U := rfl
theorem sg_tn_40 (big : Nat → List Value → qM → qW → qR) (n0 : Nat) (G : qM) (U : qW) (v0 : Int32) (v1 : Int32) : qm_run pm_m big m_144 (n0 + 3) 4 [(0, .ref 35), (1, .int v0), (2, .int v1)] [] G U = qm_run pm_m big m_144 n0 9 [(0, .ref 35), (1, .int v0), (2, .int v1)] [.int (G 35 3), .int v1] G U := rfl
theorem sg_tn_41 (big : Nat → List Value → qM → qW → qR) (n0 : Nat) (G : qM) (U : qW) (v0 : Int32) (v1 : Int32) : qm_run pm_m big m_144 (n0 + 4) 12 [(0, .ref 35), (1, .int v0), (2, .int v1)] [] G U = qm_run pm_m big m_144 n0 18 [(0, .ref 35), (1, .int v0), (2, .int v1)] [.int v1, .ref 37, .int v0] G U := rfl
theorem sg_tn_42 (big : Nat → List Value → qM → qW → qR) (n0 : Nat) (G : qM) (U : qW) (v0 : Int32) (v1 : Int32) (v2 : Int32) : qm_run pm_m big m_144 (n0 + 6) 22 [(0, .ref 35), (1, .int v0), (2, .int v1)] [.int v2] G U = qm_run pm_m big m_144 n0 4 [(0, .ref 35), (1, .int (v2 + (1 : Int32))), (2, .int (v1 + (1 : Int32)))] [] G U := rfl
theorem sg_tn_43 (big : Nat → List Value → qM → qW → qR) (n0 : Nat) (G : qM) (U : qW) (v0 : Int32) (v1 : Int32) (v2 : Int32) : qm_run pm_m big m_144 (n0 + 5) 26 [(0, .ref 35), (1, .int v0), (2, .int v1)] [.int v2] G U = qm_run pm_m big m_144 n0 4 [(0, .ref 35), (1, .int (v2 + (0 : Int32))), (2, .int (v1 + (1 : Int32)))] [] G U := rfl
theorem sg_tn_44 (big : Nat → List Value → qM → qW → qR) (n0 : Nat) (G : qM) (U : qW) : qm_run pm_m big m_144 (n0 + 4) 0 [(0, .ref 35)] [] G U = qm_run pm_m big m_144 n0 4 [(0, .ref 35), (1, .int (0 : Int32)), (2, .int (0 : Int32))] [] G U := rfl
theorem sg_tn_45 (big : Nat → List Value → qM → qW → qR) (n0 : Nat) (G : qM) (U : qW) (v0 : Int32) (v1 : Int32) : qm_run pm_m big m_197 (n0 + 3) 4 [(0, .ref 70), (1, .int v0), (2, .int v1)] [] G U = qm_run pm_m big m_197 n0 9 [(0, .ref 70), (1, .int v0), (2, .int v1)] [.int (G 70 27), .int v1] G U := rfl
theorem sg_tn_46 (big : Nat → List Value → qM → qW → qR) (n0 : Nat) (G : qM) (U : qW) (v0 : Int32) (v1 : Int32) : qm_run pm_m big m_197 (n0 + 4) 12 [(0, .ref 70), (1, .int v0), (2, .int v1)] [] G U = qm_run pm_m big m_197 n0 18 [(0, .ref 70), (1, .int v0), (2, .int v1)] [.int v1, .ref 78, .int v0] G U := rfl
theorem sg_tn_47 (big : Nat → List Value → qM → qW → qR) (n0 : Nat) (G : qM) (U : qW) (v0 : Int32) (v1 : Int32) (v2 : Int32) (v3 : Int32) : qm_run pm_m big m_197 (n0 + 1) 19 [(0, .ref 70), (1, .int v0), (2, .int v1)] [.int v3, .int v2] G U = qm_run pm_m big m_197 n0 21 [(0, .ref 70), (1, .int v0), (2, .int v1)] [.int (Int8.toInt32 (Int8.ofInt (-4))), .int v3, .int v2] G U := rfl
theorem sg_tn_48 (big : Nat → List Value → qM → qW → qR) (n0 : Nat) (G : qM) (U : qW) (v0 : Int32) (v1 : Int32) (v2 : Int32) : qm_run pm_m big m_197 (n0 + 1) 43 [(0, .ref 70), (1, .int v0), (2, .int v1)] [.int v2] G U = qm_run pm_m big m_197 n0 44 [(0, .ref 70), (1, .int v0), (2, .int v1)] [.int (0 : Int32), .int v2] G U := rfl
theorem sg_tn_49 (big : Nat → List Value → qM → qW → qR) (n0 : Nat) (G : qM) (U : qW) (v0 : Int32) (v1 : Int32) (v2 : Int32) : qm_run pm_m big m_197 (n0 + 4) 47 [(0, .ref 70), (1, .int v0), (2, .int v1)] [.int (0 : Int32), .int v2] G U = qm_run pm_m big m_197 n0 4 [(0, .ref 70), (1, .int (v2 + (0 : Int32))), (2, .int (v1 + (1 : Int32)))] [] G U := rfl
theorem sg_tn_50 (big : Nat → List Value → qM → qW → qR) (n0 : Nat) (G : qM) (U : qW) (v0 : Int32) (v1 : Int32) (v2 : Int32) : qm_run pm_m big m_197 (n0 + 3) 24 [(0, .ref 70), (1, .int v0), (2, .int v1)] [.int v2] G U = qm_run pm_m big m_197 n0 29 [(0, .ref 70), (1, .int v0), (2, .int v1)] [.int v1, .ref 75, .int v2] G U := rfl
theorem sg_tn_51 (big : Nat → List Value → qM → qW → qR) (n0 : Nat) (G : qM) (U : qW) (v0 : Int32) (v1 : Int32) (v2 : Int32) (v3 : Int32) : qm_run pm_m big m_197 (n0 + 3) 30 [(0, .ref 70), (1, .int v0), (2, .int v1)] [.int v3, .int v2] G U = qm_run pm_m big m_197 n0 35 [(0, .ref 70), (1, .int v0), (2, .int v1)] [.int v1, .ref 78, .int v3, .int v2] G U := rfl
theorem sg_tn_52 (big : Nat → List Value → qM → qW → qR) (n0 : Nat) (G : qM) (U : qW) (v0 : Int32) (v1 : Int32) (v2 : Int32) : qm_run pm_m big m_197 (n0 + 2) 39 [(0, .ref 70), (1, .int v0), (2, .int v1)] [.int v2] G U = qm_run pm_m big m_197 n0 44 [(0, .ref 70), (1, .int v0), (2, .int v1)] [.int (1 : Int32), .int v2] G U := rfl
theorem sg_tn_53 (big : Nat → List Value → qM → qW → qR) (n0 : Nat) (G : qM) (U : qW) (v0 : Int32) (v1 : Int32) (v2 : Int32) : qm_run pm_m big m_197 (n0 + 4) 47 [(0, .ref 70), (1, .int v0), (2, .int v1)] [.int (1 : Int32), .int v2] G U = qm_run pm_m big m_197 n0 4 [(0, .ref 70), (1, .int (v2 + (1 : Int32))), (2, .int (v1 + (1 : Int32)))] [] G U := rfl
theorem sg_tn_54 (big : Nat → List Value → qM → qW → qR) (n0 : Nat) (G : qM) (U : qW) : qm_run pm_m big m_197 (n0 + 4) 0 [(0, .ref 70)] [] G U = qm_run pm_m big m_197 n0 4 [(0, .ref 70), (1, .int (0 : Int32)), (2, .int (0 : Int32))] [] G U := rfl
theorem wi_20 (g : qM) (u : qW) {n : Nat} (x : Int32) (hn : g 20 3 = Int32.ofNat n) (h6 : n ≤ 6) : ∀ k i, i + k = n → q_EV m_30 2 [(0, .ref 20), (1, .int x), (2, .int (Int32.ofNat i))] [] g u (fun R => R = (some (.int (s_w1 (g 21) x k i)), g, u)) := by
  intro k
  induction k with
  | zero =>
    intro i hi
    refine q_step 3 7 [(0, .ref 20), (1, .int x), (2, .int (Int32.ofNat i))] [.int (g 20 3), .int (Int32.ofNat i)] g u (fun big n0 => sg_tn_1 big n0 g u x (Int32.ofNat i)) ?_
    refine q_ic_ge rfl (fun (hc0 : (g 20 3) ≤ (Int32.ofNat i)) => ?_) (fun hc0 => absurd (show (g 20 3) ≤ (Int32.ofNat i) from by rw [hn, q_le (by omega) (by omega)]; omega) hc0)
    refine q_ret 2 (some (.int (Int8.toInt32 (Int8.ofInt (-4)))), g, u) (fun _ _ => rfl) ?_
    rfl
  | succ k ih =>
    intro i hi
    refine q_step 3 7 [(0, .ref 20), (1, .int x), (2, .int (Int32.ofNat i))] [.int (g 20 3), .int (Int32.ofNat i)] g u (fun big n0 => sg_tn_1 big n0 g u x (Int32.ofNat i)) ?_
    refine q_ic_ge rfl (fun hc0 => absurd (show (g 20 3) ≤ (Int32.ofNat i) from hc0) (fun z => by rw [hn, q_le (by omega) (by omega)] at z; omega)) (fun (hc0 : ¬ ((g 20 3) ≤ (Int32.ofNat i))) => ?_)
    refine q_step 3 15 [(0, .ref 20), (1, .int x), (2, .int (Int32.ofNat i))] [.int (Int32.ofNat i), .ref 21] g u (fun big n0 => sg_tn_2 big n0 g u x (Int32.ofNat i)) ?_
    refine q_iald (j := i) (q_ixn (by omega) (by omega)) rfl rfl ?_
    refine q_step 1 17 [(0, .ref 20), (1, .int x), (2, .int (Int32.ofNat i))] [.int x, .int (g 21 i)] g u (fun big n0 => sg_tn_3 big n0 g u x (Int32.ofNat i) (g 21 i)) ?_
    refine q_ic_ne rfl (fun (hc1 : (g 21 i) = x) => ?_) (fun (hc1 : ¬ ((g 21 i) = x)) => ?_)
    · refine q_ret 2 (some (.int (Int32.ofNat i)), g, u) (fun _ _ => rfl) ?_
      unfold s_w1
      rw [if_pos hc1]
    · refine q_step 2 2 [(0, .ref 20), (1, .int x), (2, .int ((Int32.ofNat i) + (1 : Int32)))] [] g u (fun big n0 => sg_tn_4 big n0 g u x (Int32.ofNat i)) ?_
      rw [q_succ]
      unfold s_w1
      rw [if_neg hc1]
      exact ih (i + 1) (by omega)
theorem b_who20 (x : Int32) (g : qM) (u : qW) {n : Nat} (hn : g 20 3 = Int32.ofNat n) (h6 : n ≤ 6) : q_BS 30 [.ref 20, .int x] g u (some (.int (s_w1 (g 21) x n 0)), g, u) := by
  refine q_bx (mm := m_30) rfl (Nat.le_of_ble_eq_true rfl) rfl ?_
  refine q_step 2 2 [(0, .ref 20), (1, .int x), (2, .int (0 : Int32))] [] g u (fun big n0 => sg_tn_5 big n0 g u x) ?_
  exact wi_20 g u x hn h6 n 0 (by omega)
theorem atg20_l (g : qM) (u : qW) {n : Nat} (hn : g 20 3 = Int32.ofNat n) (h6 : n ≤ 6) : ∀ k i a, i + k = n → q_EV m_78 4 [(0, .ref 20), (1, .int a), (2, .int (Int32.ofNat i))] [] g u (fun R => R = (some (.int (s_ct (fun p => if g 21 p = g 24 p then (1 : Int32) else 0) k i a)), g, u)) := by
  intro k
  induction k with
  | zero =>
    intro i a hi
    refine q_step 3 9 [(0, .ref 20), (1, .int a), (2, .int (Int32.ofNat i))] [.int (g 20 3), .int (Int32.ofNat i)] g u (fun big n0 => sg_tn_6 big n0 g u a (Int32.ofNat i)) ?_
    refine q_ic_ge rfl (fun (hc0 : (g 20 3) ≤ (Int32.ofNat i)) => ?_) (fun hc0 => absurd (show (g 20 3) ≤ (Int32.ofNat i) from by rw [hn, q_le (by omega) (by omega)]; omega) hc0)
    refine q_ret 2 (some (.int a), g, u) (fun _ _ => rfl) ?_
    rfl
  | succ k ih =>
    intro i a hi
    refine q_step 3 9 [(0, .ref 20), (1, .int a), (2, .int (Int32.ofNat i))] [.int (g 20 3), .int (Int32.ofNat i)] g u (fun big n0 => sg_tn_6 big n0 g u a (Int32.ofNat i)) ?_
    refine q_ic_ge rfl (fun hc0 => absurd (show (g 20 3) ≤ (Int32.ofNat i) from hc0) (fun z => by rw [hn, q_le (by omega) (by omega)] at z; omega)) (fun (hc0 : ¬ ((g 20 3) ≤ (Int32.ofNat i))) => ?_)
    refine q_step 4 18 [(0, .ref 20), (1, .int a), (2, .int (Int32.ofNat i))] [.int (Int32.ofNat i), .ref 21, .int a] g u (fun big n0 => sg_tn_7 big n0 g u a (Int32.ofNat i)) ?_
    refine q_iald (j := i) (q_ixn (by omega) (by omega)) rfl rfl ?_
    refine q_step 3 24 [(0, .ref 20), (1, .int a), (2, .int (Int32.ofNat i))] [.int (Int32.ofNat i), .ref 24, .int (g 21 i), .int a] g u (fun big n0 => sg_tn_8 big n0 g u a (Int32.ofNat i) a (g 21 i)) ?_
    refine q_iald (j := i) (q_ixn (by omega) (by omega)) rfl rfl ?_
    refine q_ic_ne rfl (fun (hc1 : (g 21 i) = (g 24 i)) => ?_) (fun (hc1 : ¬ ((g 21 i) = (g 24 i))) => ?_)
    · refine q_step 6 4 [(0, .ref 20), (1, .int (a + (1 : Int32))), (2, .int ((Int32.ofNat i) + (1 : Int32)))] [] g u (fun big n0 => sg_tn_9 big n0 g u a (Int32.ofNat i) a) ?_
      unfold s_ct
      rw [q_succ, if_pos hc1]
      exact ih (i + 1) _ (by omega)
    · refine q_step 5 4 [(0, .ref 20), (1, .int (a + (0 : Int32))), (2, .int ((Int32.ofNat i) + (1 : Int32)))] [] g u (fun big n0 => sg_tn_10 big n0 g u a (Int32.ofNat i) a) ?_
      unfold s_ct
      rw [q_succ, if_neg hc1]
      exact ih (i + 1) _ (by omega)
theorem b_atg20 (g : qM) (u : qW) {n : Nat} (hn : g 20 3 = Int32.ofNat n) (h6 : n ≤ 6) : q_BS 78 [.ref 20] g u (some (.int (s_ct (fun p => if g 21 p = g 24 p then (1 : Int32) else 0) n 0 0)), g, u) := by
  refine q_bx (mm := m_78) rfl (Nat.le_of_ble_eq_true rfl) rfl ?_
  refine q_step 4 4 [(0, .ref 20), (1, .int (0 : Int32)), (2, .int (0 : Int32))] [] g u (fun big n0 => sg_tn_11 big n0 g u) ?_
  exact atg20_l g u hn h6 n 0 0 (by omega)
theorem wig20_l (g : qM) (u : qW) {n : Nat} (hn : g 20 3 = Int32.ofNat n) (h6 : n ≤ 6) : ∀ k i a, i + k = n → q_EV m_100 4 [(0, .ref 20), (1, .int a), (2, .int (Int32.ofNat i))] [] g u (fun R => R = (some (.int (s_ct (fun p => if g 24 p = i_none then (0 : Int32) else 1) k i a)), g, u)) := by
  intro k
  induction k with
  | zero =>
    intro i a hi
    refine q_step 3 9 [(0, .ref 20), (1, .int a), (2, .int (Int32.ofNat i))] [.int (g 20 3), .int (Int32.ofNat i)] g u (fun big n0 => sg_tn_12 big n0 g u a (Int32.ofNat i)) ?_
    refine q_ic_ge rfl (fun (hc0 : (g 20 3) ≤ (Int32.ofNat i)) => ?_) (fun hc0 => absurd (show (g 20 3) ≤ (Int32.ofNat i) from by rw [hn, q_le (by omega) (by omega)]; omega) hc0)
    refine q_ret 2 (some (.int a), g, u) (fun _ _ => rfl) ?_
    rfl
  | succ k ih =>
    intro i a hi
    refine q_step 3 9 [(0, .ref 20), (1, .int a), (2, .int (Int32.ofNat i))] [.int (g 20 3), .int (Int32.ofNat i)] g u (fun big n0 => sg_tn_12 big n0 g u a (Int32.ofNat i)) ?_
    refine q_ic_ge rfl (fun hc0 => absurd (show (g 20 3) ≤ (Int32.ofNat i) from hc0) (fun z => by rw [hn, q_le (by omega) (by omega)] at z; omega)) (fun (hc0 : ¬ ((g 20 3) ≤ (Int32.ofNat i))) => ?_)
    refine q_step 4 18 [(0, .ref 20), (1, .int a), (2, .int (Int32.ofNat i))] [.int (Int32.ofNat i), .ref 24, .int a] g u (fun big n0 => sg_tn_13 big n0 g u a (Int32.ofNat i)) ?_
    refine q_iald (j := i) (q_ixn (by omega) (by omega)) rfl rfl ?_
    refine q_step 1 21 [(0, .ref 20), (1, .int a), (2, .int (Int32.ofNat i))] [.int (Int8.toInt32 (Int8.ofInt (-4))), .int (g 24 i), .int a] g u (fun big n0 => sg_tn_14 big n0 g u a (Int32.ofNat i) a (g 24 i)) ?_
    refine q_ic_eq rfl (fun (hc1 : (g 24 i) = (Int8.toInt32 (Int8.ofInt (-4)))) => ?_) (fun (hc1 : ¬ ((g 24 i) = (Int8.toInt32 (Int8.ofInt (-4))))) => ?_)
    · refine q_step 5 4 [(0, .ref 20), (1, .int (a + (0 : Int32))), (2, .int ((Int32.ofNat i) + (1 : Int32)))] [] g u (fun big n0 => sg_tn_15 big n0 g u a (Int32.ofNat i) a) ?_
      unfold s_ct
      rw [q_succ, if_pos hc1]
      exact ih (i + 1) _ (by omega)
    · refine q_step 6 4 [(0, .ref 20), (1, .int (a + (1 : Int32))), (2, .int ((Int32.ofNat i) + (1 : Int32)))] [] g u (fun big n0 => sg_tn_16 big n0 g u a (Int32.ofNat i) a) ?_
      unfold s_ct
      rw [q_succ, if_neg hc1]
      exact ih (i + 1) _ (by omega)
theorem b_wig20 (g : qM) (u : qW) {n : Nat} (hn : g 20 3 = Int32.ofNat n) (h6 : n ≤ 6) : q_BS 100 [.ref 20] g u (some (.int (s_ct (fun p => if g 24 p = i_none then (0 : Int32) else 1) n 0 0)), g, u) := by
  refine q_bx (mm := m_100) rfl (Nat.le_of_ble_eq_true rfl) rfl ?_
  refine q_step 4 4 [(0, .ref 20), (1, .int (0 : Int32)), (2, .int (0 : Int32))] [] g u (fun big n0 => sg_tn_17 big n0 g u) ?_
  exact wig20_l g u hn h6 n 0 0 (by omega)
theorem wim20_l (g : qM) (u : qW) {n : Nat} (hn : g 20 3 = Int32.ofNat n) (h6 : n ≤ 6) : ∀ k i a, i + k = n → q_EV m_144 4 [(0, .ref 20), (1, .int a), (2, .int (Int32.ofNat i))] [] g u (fun R => R = (some (.int (s_ct (fun p => if g 22 p = 0 then (1 : Int32) else 0) k i a)), g, u)) := by
  intro k
  induction k with
  | zero =>
    intro i a hi
    refine q_step 3 9 [(0, .ref 20), (1, .int a), (2, .int (Int32.ofNat i))] [.int (g 20 3), .int (Int32.ofNat i)] g u (fun big n0 => sg_tn_18 big n0 g u a (Int32.ofNat i)) ?_
    refine q_ic_ge rfl (fun (hc0 : (g 20 3) ≤ (Int32.ofNat i)) => ?_) (fun hc0 => absurd (show (g 20 3) ≤ (Int32.ofNat i) from by rw [hn, q_le (by omega) (by omega)]; omega) hc0)
    refine q_ret 2 (some (.int a), g, u) (fun _ _ => rfl) ?_
    rfl
  | succ k ih =>
    intro i a hi
    refine q_step 3 9 [(0, .ref 20), (1, .int a), (2, .int (Int32.ofNat i))] [.int (g 20 3), .int (Int32.ofNat i)] g u (fun big n0 => sg_tn_18 big n0 g u a (Int32.ofNat i)) ?_
    refine q_ic_ge rfl (fun hc0 => absurd (show (g 20 3) ≤ (Int32.ofNat i) from hc0) (fun z => by rw [hn, q_le (by omega) (by omega)] at z; omega)) (fun (hc0 : ¬ ((g 20 3) ≤ (Int32.ofNat i))) => ?_)
    refine q_step 4 18 [(0, .ref 20), (1, .int a), (2, .int (Int32.ofNat i))] [.int (Int32.ofNat i), .ref 22, .int a] g u (fun big n0 => sg_tn_19 big n0 g u a (Int32.ofNat i)) ?_
    refine q_iald (j := i) (q_ixn (by omega) (by omega)) rfl rfl ?_
    refine q_if_ne rfl (fun (hc1 : (g 22 i) = 0) => ?_) (fun (hc1 : ¬ ((g 22 i) = 0)) => ?_)
    · refine q_step 6 4 [(0, .ref 20), (1, .int (a + (1 : Int32))), (2, .int ((Int32.ofNat i) + (1 : Int32)))] [] g u (fun big n0 => sg_tn_20 big n0 g u a (Int32.ofNat i) a) ?_
      unfold s_ct
      rw [q_succ, if_pos hc1]
      exact ih (i + 1) _ (by omega)
    · refine q_step 5 4 [(0, .ref 20), (1, .int (a + (0 : Int32))), (2, .int ((Int32.ofNat i) + (1 : Int32)))] [] g u (fun big n0 => sg_tn_21 big n0 g u a (Int32.ofNat i) a) ?_
      unfold s_ct
      rw [q_succ, if_neg hc1]
      exact ih (i + 1) _ (by omega)
theorem b_wim20 (g : qM) (u : qW) {n : Nat} (hn : g 20 3 = Int32.ofNat n) (h6 : n ≤ 6) : q_BS 144 [.ref 20] g u (some (.int (s_ct (fun p => if g 22 p = 0 then (1 : Int32) else 0) n 0 0)), g, u) := by
  refine q_bx (mm := m_144) rfl (Nat.le_of_ble_eq_true rfl) rfl ?_
  refine q_step 4 4 [(0, .ref 20), (1, .int (0 : Int32)), (2, .int (0 : Int32))] [] g u (fun big n0 => sg_tn_22 big n0 g u) ?_
  exact wim20_l g u hn h6 n 0 0 (by omega)
theorem wi_35 (g : qM) (u : qW) {n : Nat} (x : Int32) (hn : g 35 3 = Int32.ofNat n) (h6 : n ≤ 6) : ∀ k i, i + k = n → q_EV m_30 2 [(0, .ref 35), (1, .int x), (2, .int (Int32.ofNat i))] [] g u (fun R => R = (some (.int (s_w1 (g 36) x k i)), g, u)) := by
  intro k
  induction k with
  | zero =>
    intro i hi
    refine q_step 3 7 [(0, .ref 35), (1, .int x), (2, .int (Int32.ofNat i))] [.int (g 35 3), .int (Int32.ofNat i)] g u (fun big n0 => sg_tn_23 big n0 g u x (Int32.ofNat i)) ?_
    refine q_ic_ge rfl (fun (hc0 : (g 35 3) ≤ (Int32.ofNat i)) => ?_) (fun hc0 => absurd (show (g 35 3) ≤ (Int32.ofNat i) from by rw [hn, q_le (by omega) (by omega)]; omega) hc0)
    refine q_ret 2 (some (.int (Int8.toInt32 (Int8.ofInt (-4)))), g, u) (fun _ _ => rfl) ?_
    rfl
  | succ k ih =>
    intro i hi
    refine q_step 3 7 [(0, .ref 35), (1, .int x), (2, .int (Int32.ofNat i))] [.int (g 35 3), .int (Int32.ofNat i)] g u (fun big n0 => sg_tn_23 big n0 g u x (Int32.ofNat i)) ?_
    refine q_ic_ge rfl (fun hc0 => absurd (show (g 35 3) ≤ (Int32.ofNat i) from hc0) (fun z => by rw [hn, q_le (by omega) (by omega)] at z; omega)) (fun (hc0 : ¬ ((g 35 3) ≤ (Int32.ofNat i))) => ?_)
    refine q_step 3 15 [(0, .ref 35), (1, .int x), (2, .int (Int32.ofNat i))] [.int (Int32.ofNat i), .ref 36] g u (fun big n0 => sg_tn_24 big n0 g u x (Int32.ofNat i)) ?_
    refine q_iald (j := i) (q_ixn (by omega) (by omega)) rfl rfl ?_
    refine q_step 1 17 [(0, .ref 35), (1, .int x), (2, .int (Int32.ofNat i))] [.int x, .int (g 36 i)] g u (fun big n0 => sg_tn_25 big n0 g u x (Int32.ofNat i) (g 36 i)) ?_
    refine q_ic_ne rfl (fun (hc1 : (g 36 i) = x) => ?_) (fun (hc1 : ¬ ((g 36 i) = x)) => ?_)
    · refine q_ret 2 (some (.int (Int32.ofNat i)), g, u) (fun _ _ => rfl) ?_
      unfold s_w1
      rw [if_pos hc1]
    · refine q_step 2 2 [(0, .ref 35), (1, .int x), (2, .int ((Int32.ofNat i) + (1 : Int32)))] [] g u (fun big n0 => sg_tn_26 big n0 g u x (Int32.ofNat i)) ?_
      rw [q_succ]
      unfold s_w1
      rw [if_neg hc1]
      exact ih (i + 1) (by omega)
theorem b_who35 (x : Int32) (g : qM) (u : qW) {n : Nat} (hn : g 35 3 = Int32.ofNat n) (h6 : n ≤ 6) : q_BS 30 [.ref 35, .int x] g u (some (.int (s_w1 (g 36) x n 0)), g, u) := by
  refine q_bx (mm := m_30) rfl (Nat.le_of_ble_eq_true rfl) rfl ?_
  refine q_step 2 2 [(0, .ref 35), (1, .int x), (2, .int (0 : Int32))] [] g u (fun big n0 => sg_tn_27 big n0 g u x) ?_
  exact wi_35 g u x hn h6 n 0 (by omega)
theorem atg35_l (g : qM) (u : qW) {n : Nat} (hn : g 35 3 = Int32.ofNat n) (h6 : n ≤ 6) : ∀ k i a, i + k = n → q_EV m_78 4 [(0, .ref 35), (1, .int a), (2, .int (Int32.ofNat i))] [] g u (fun R => R = (some (.int (s_ct (fun p => if g 36 p = g 39 p then (1 : Int32) else 0) k i a)), g, u)) := by
  intro k
  induction k with
  | zero =>
    intro i a hi
    refine q_step 3 9 [(0, .ref 35), (1, .int a), (2, .int (Int32.ofNat i))] [.int (g 35 3), .int (Int32.ofNat i)] g u (fun big n0 => sg_tn_28 big n0 g u a (Int32.ofNat i)) ?_
    refine q_ic_ge rfl (fun (hc0 : (g 35 3) ≤ (Int32.ofNat i)) => ?_) (fun hc0 => absurd (show (g 35 3) ≤ (Int32.ofNat i) from by rw [hn, q_le (by omega) (by omega)]; omega) hc0)
    refine q_ret 2 (some (.int a), g, u) (fun _ _ => rfl) ?_
    rfl
  | succ k ih =>
    intro i a hi
    refine q_step 3 9 [(0, .ref 35), (1, .int a), (2, .int (Int32.ofNat i))] [.int (g 35 3), .int (Int32.ofNat i)] g u (fun big n0 => sg_tn_28 big n0 g u a (Int32.ofNat i)) ?_
    refine q_ic_ge rfl (fun hc0 => absurd (show (g 35 3) ≤ (Int32.ofNat i) from hc0) (fun z => by rw [hn, q_le (by omega) (by omega)] at z; omega)) (fun (hc0 : ¬ ((g 35 3) ≤ (Int32.ofNat i))) => ?_)
    refine q_step 4 18 [(0, .ref 35), (1, .int a), (2, .int (Int32.ofNat i))] [.int (Int32.ofNat i), .ref 36, .int a] g u (fun big n0 => sg_tn_29 big n0 g u a (Int32.ofNat i)) ?_
    refine q_iald (j := i) (q_ixn (by omega) (by omega)) rfl rfl ?_
    refine q_step 3 24 [(0, .ref 35), (1, .int a), (2, .int (Int32.ofNat i))] [.int (Int32.ofNat i), .ref 39, .int (g 36 i), .int a] g u (fun big n0 => sg_tn_30 big n0 g u a (Int32.ofNat i) a (g 36 i)) ?_
    refine q_iald (j := i) (q_ixn (by omega) (by omega)) rfl rfl ?_
    refine q_ic_ne rfl (fun (hc1 : (g 36 i) = (g 39 i)) => ?_) (fun (hc1 : ¬ ((g 36 i) = (g 39 i))) => ?_)
    · refine q_step 6 4 [(0, .ref 35), (1, .int (a + (1 : Int32))), (2, .int ((Int32.ofNat i) + (1 : Int32)))] [] g u (fun big n0 => sg_tn_31 big n0 g u a (Int32.ofNat i) a) ?_
      unfold s_ct
      rw [q_succ, if_pos hc1]
      exact ih (i + 1) _ (by omega)
    · refine q_step 5 4 [(0, .ref 35), (1, .int (a + (0 : Int32))), (2, .int ((Int32.ofNat i) + (1 : Int32)))] [] g u (fun big n0 => sg_tn_32 big n0 g u a (Int32.ofNat i) a) ?_
      unfold s_ct
      rw [q_succ, if_neg hc1]
      exact ih (i + 1) _ (by omega)
theorem b_atg35 (g : qM) (u : qW) {n : Nat} (hn : g 35 3 = Int32.ofNat n) (h6 : n ≤ 6) : q_BS 78 [.ref 35] g u (some (.int (s_ct (fun p => if g 36 p = g 39 p then (1 : Int32) else 0) n 0 0)), g, u) := by
  refine q_bx (mm := m_78) rfl (Nat.le_of_ble_eq_true rfl) rfl ?_
  refine q_step 4 4 [(0, .ref 35), (1, .int (0 : Int32)), (2, .int (0 : Int32))] [] g u (fun big n0 => sg_tn_33 big n0 g u) ?_
  exact atg35_l g u hn h6 n 0 0 (by omega)
theorem wig35_l (g : qM) (u : qW) {n : Nat} (hn : g 35 3 = Int32.ofNat n) (h6 : n ≤ 6) : ∀ k i a, i + k = n → q_EV m_100 4 [(0, .ref 35), (1, .int a), (2, .int (Int32.ofNat i))] [] g u (fun R => R = (some (.int (s_ct (fun p => if g 39 p = i_none then (0 : Int32) else 1) k i a)), g, u)) := by
  intro k
  induction k with
  | zero =>
    intro i a hi
    refine q_step 3 9 [(0, .ref 35), (1, .int a), (2, .int (Int32.ofNat i))] [.int (g 35 3), .int (Int32.ofNat i)] g u (fun big n0 => sg_tn_34 big n0 g u a (Int32.ofNat i)) ?_
    refine q_ic_ge rfl (fun (hc0 : (g 35 3) ≤ (Int32.ofNat i)) => ?_) (fun hc0 => absurd (show (g 35 3) ≤ (Int32.ofNat i) from by rw [hn, q_le (by omega) (by omega)]; omega) hc0)
    refine q_ret 2 (some (.int a), g, u) (fun _ _ => rfl) ?_
    rfl
  | succ k ih =>
    intro i a hi
    refine q_step 3 9 [(0, .ref 35), (1, .int a), (2, .int (Int32.ofNat i))] [.int (g 35 3), .int (Int32.ofNat i)] g u (fun big n0 => sg_tn_34 big n0 g u a (Int32.ofNat i)) ?_
    refine q_ic_ge rfl (fun hc0 => absurd (show (g 35 3) ≤ (Int32.ofNat i) from hc0) (fun z => by rw [hn, q_le (by omega) (by omega)] at z; omega)) (fun (hc0 : ¬ ((g 35 3) ≤ (Int32.ofNat i))) => ?_)
    refine q_step 4 18 [(0, .ref 35), (1, .int a), (2, .int (Int32.ofNat i))] [.int (Int32.ofNat i), .ref 39, .int a] g u (fun big n0 => sg_tn_35 big n0 g u a (Int32.ofNat i)) ?_
    refine q_iald (j := i) (q_ixn (by omega) (by omega)) rfl rfl ?_
    refine q_step 1 21 [(0, .ref 35), (1, .int a), (2, .int (Int32.ofNat i))] [.int (Int8.toInt32 (Int8.ofInt (-4))), .int (g 39 i), .int a] g u (fun big n0 => sg_tn_36 big n0 g u a (Int32.ofNat i) a (g 39 i)) ?_
    refine q_ic_eq rfl (fun (hc1 : (g 39 i) = (Int8.toInt32 (Int8.ofInt (-4)))) => ?_) (fun (hc1 : ¬ ((g 39 i) = (Int8.toInt32 (Int8.ofInt (-4))))) => ?_)
    · refine q_step 5 4 [(0, .ref 35), (1, .int (a + (0 : Int32))), (2, .int ((Int32.ofNat i) + (1 : Int32)))] [] g u (fun big n0 => sg_tn_37 big n0 g u a (Int32.ofNat i) a) ?_
      unfold s_ct
      rw [q_succ, if_pos hc1]
      exact ih (i + 1) _ (by omega)
    · refine q_step 6 4 [(0, .ref 35), (1, .int (a + (1 : Int32))), (2, .int ((Int32.ofNat i) + (1 : Int32)))] [] g u (fun big n0 => sg_tn_38 big n0 g u a (Int32.ofNat i) a) ?_
      unfold s_ct
      rw [q_succ, if_neg hc1]
      exact ih (i + 1) _ (by omega)
theorem b_wig35 (g : qM) (u : qW) {n : Nat} (hn : g 35 3 = Int32.ofNat n) (h6 : n ≤ 6) : q_BS 100 [.ref 35] g u (some (.int (s_ct (fun p => if g 39 p = i_none then (0 : Int32) else 1) n 0 0)), g, u) := by
  refine q_bx (mm := m_100) rfl (Nat.le_of_ble_eq_true rfl) rfl ?_
  refine q_step 4 4 [(0, .ref 35), (1, .int (0 : Int32)), (2, .int (0 : Int32))] [] g u (fun big n0 => sg_tn_39 big n0 g u) ?_
  exact wig35_l g u hn h6 n 0 0 (by omega)
theorem wim35_l (g : qM) (u : qW) {n : Nat} (hn : g 35 3 = Int32.ofNat n) (h6 : n ≤ 6) : ∀ k i a, i + k = n → q_EV m_144 4 [(0, .ref 35), (1, .int a), (2, .int (Int32.ofNat i))] [] g u (fun R => R = (some (.int (s_ct (fun p => if g 37 p = 0 then (1 : Int32) else 0) k i a)), g, u)) := by
  intro k
  induction k with
  | zero =>
    intro i a hi
    refine q_step 3 9 [(0, .ref 35), (1, .int a), (2, .int (Int32.ofNat i))] [.int (g 35 3), .int (Int32.ofNat i)] g u (fun big n0 => sg_tn_40 big n0 g u a (Int32.ofNat i)) ?_
    refine q_ic_ge rfl (fun (hc0 : (g 35 3) ≤ (Int32.ofNat i)) => ?_) (fun hc0 => absurd (show (g 35 3) ≤ (Int32.ofNat i) from by rw [hn, q_le (by omega) (by omega)]; omega) hc0)
    refine q_ret 2 (some (.int a), g, u) (fun _ _ => rfl) ?_
    rfl
  | succ k ih =>
    intro i a hi
    refine q_step 3 9 [(0, .ref 35), (1, .int a), (2, .int (Int32.ofNat i))] [.int (g 35 3), .int (Int32.ofNat i)] g u (fun big n0 => sg_tn_40 big n0 g u a (Int32.ofNat i)) ?_
    refine q_ic_ge rfl (fun hc0 => absurd (show (g 35 3) ≤ (Int32.ofNat i) from hc0) (fun z => by rw [hn, q_le (by omega) (by omega)] at z; omega)) (fun (hc0 : ¬ ((g 35 3) ≤ (Int32.ofNat i))) => ?_)
    refine q_step 4 18 [(0, .ref 35), (1, .int a), (2, .int (Int32.ofNat i))] [.int (Int32.ofNat i), .ref 37, .int a] g u (fun big n0 => sg_tn_41 big n0 g u a (Int32.ofNat i)) ?_
    refine q_iald (j := i) (q_ixn (by omega) (by omega)) rfl rfl ?_
    refine q_if_ne rfl (fun (hc1 : (g 37 i) = 0) => ?_) (fun (hc1 : ¬ ((g 37 i) = 0)) => ?_)
    · refine q_step 6 4 [(0, .ref 35), (1, .int (a + (1 : Int32))), (2, .int ((Int32.ofNat i) + (1 : Int32)))] [] g u (fun big n0 => sg_tn_42 big n0 g u a (Int32.ofNat i) a) ?_
      unfold s_ct
      rw [q_succ, if_pos hc1]
      exact ih (i + 1) _ (by omega)
    · refine q_step 5 4 [(0, .ref 35), (1, .int (a + (0 : Int32))), (2, .int ((Int32.ofNat i) + (1 : Int32)))] [] g u (fun big n0 => sg_tn_43 big n0 g u a (Int32.ofNat i) a) ?_
      unfold s_ct
      rw [q_succ, if_neg hc1]
      exact ih (i + 1) _ (by omega)
theorem b_wim35 (g : qM) (u : qW) {n : Nat} (hn : g 35 3 = Int32.ofNat n) (h6 : n ≤ 6) : q_BS 144 [.ref 35] g u (some (.int (s_ct (fun p => if g 37 p = 0 then (1 : Int32) else 0) n 0 0)), g, u) := by
  refine q_bx (mm := m_144) rfl (Nat.le_of_ble_eq_true rfl) rfl ?_
  refine q_step 4 4 [(0, .ref 35), (1, .int (0 : Int32)), (2, .int (0 : Int32))] [] g u (fun big n0 => sg_tn_44 big n0 g u) ?_
  exact wim35_l g u hn h6 n 0 0 (by omega)
theorem ratg_l (g : qM) (u : qW) {n : Nat} (hn : g 70 27 = Int32.ofNat n) (h6 : n ≤ 6) : ∀ k i a, i + k = n → q_EV m_197 4 [(0, .ref 70), (1, .int a), (2, .int (Int32.ofNat i))] [] g u (fun R => R = (some (.int (s_ct (fun p => if g 78 p = i_none then (0 : Int32) else if g 75 p = g 78 p then 1 else 0) k i a)), g, u)) := by
  intro k
  induction k with
  | zero =>
    intro i a hi
    refine q_step 3 9 [(0, .ref 70), (1, .int a), (2, .int (Int32.ofNat i))] [.int (g 70 27), .int (Int32.ofNat i)] g u (fun big n0 => sg_tn_45 big n0 g u a (Int32.ofNat i)) ?_
    refine q_ic_ge rfl (fun (hc0 : (g 70 27) ≤ (Int32.ofNat i)) => ?_) (fun hc0 => absurd (show (g 70 27) ≤ (Int32.ofNat i) from by rw [hn, q_le (by omega) (by omega)]; omega) hc0)
    refine q_ret 2 (some (.int a), g, u) (fun _ _ => rfl) ?_
    rfl
  | succ k ih =>
    intro i a hi
    refine q_step 3 9 [(0, .ref 70), (1, .int a), (2, .int (Int32.ofNat i))] [.int (g 70 27), .int (Int32.ofNat i)] g u (fun big n0 => sg_tn_45 big n0 g u a (Int32.ofNat i)) ?_
    refine q_ic_ge rfl (fun hc0 => absurd (show (g 70 27) ≤ (Int32.ofNat i) from hc0) (fun z => by rw [hn, q_le (by omega) (by omega)] at z; omega)) (fun (hc0 : ¬ ((g 70 27) ≤ (Int32.ofNat i))) => ?_)
    refine q_step 4 18 [(0, .ref 70), (1, .int a), (2, .int (Int32.ofNat i))] [.int (Int32.ofNat i), .ref 78, .int a] g u (fun big n0 => sg_tn_46 big n0 g u a (Int32.ofNat i)) ?_
    refine q_iald (j := i) (q_ixn (by omega) (by omega)) rfl rfl ?_
    refine q_step 1 21 [(0, .ref 70), (1, .int a), (2, .int (Int32.ofNat i))] [.int (Int8.toInt32 (Int8.ofInt (-4))), .int (g 78 i), .int a] g u (fun big n0 => sg_tn_47 big n0 g u a (Int32.ofNat i) a (g 78 i)) ?_
    refine q_ic_eq rfl (fun (hc1 : (g 78 i) = (Int8.toInt32 (Int8.ofInt (-4)))) => ?_) (fun (hc1 : ¬ ((g 78 i) = (Int8.toInt32 (Int8.ofInt (-4))))) => ?_)
    · refine q_step 1 44 [(0, .ref 70), (1, .int a), (2, .int (Int32.ofNat i))] [.int (0 : Int32), .int a] g u (fun big n0 => sg_tn_48 big n0 g u a (Int32.ofNat i) a) ?_
      refine q_call (M2 := 164) (rest := [.int a]) (b_flag0 _ _) (fun _ _ => rfl) ?_
      refine q_step 4 4 [(0, .ref 70), (1, .int (a + (0 : Int32))), (2, .int ((Int32.ofNat i) + (1 : Int32)))] [] g u (fun big n0 => sg_tn_49 big n0 g u a (Int32.ofNat i) a) ?_
      unfold s_ct
      rw [q_succ, if_pos hc1]
      exact ih (i + 1) _ (by omega)
    · refine q_step 3 29 [(0, .ref 70), (1, .int a), (2, .int (Int32.ofNat i))] [.int (Int32.ofNat i), .ref 75, .int a] g u (fun big n0 => sg_tn_50 big n0 g u a (Int32.ofNat i) a) ?_
      refine q_iald (j := i) (q_ixn (by omega) (by omega)) rfl rfl ?_
      refine q_step 3 35 [(0, .ref 70), (1, .int a), (2, .int (Int32.ofNat i))] [.int (Int32.ofNat i), .ref 78, .int (g 75 i), .int a] g u (fun big n0 => sg_tn_51 big n0 g u a (Int32.ofNat i) a (g 75 i)) ?_
      refine q_iald (j := i) (q_ixn (by omega) (by omega)) rfl rfl ?_
      refine q_ic_ne rfl (fun (hc2 : (g 75 i) = (g 78 i)) => ?_) (fun (hc2 : ¬ ((g 75 i) = (g 78 i))) => ?_)
      · refine q_step 2 44 [(0, .ref 70), (1, .int a), (2, .int (Int32.ofNat i))] [.int (1 : Int32), .int a] g u (fun big n0 => sg_tn_52 big n0 g u a (Int32.ofNat i) a) ?_
        refine q_call (M2 := 164) (rest := [.int a]) (b_flag1 _ _) (fun _ _ => rfl) ?_
        refine q_step 4 4 [(0, .ref 70), (1, .int (a + (1 : Int32))), (2, .int ((Int32.ofNat i) + (1 : Int32)))] [] g u (fun big n0 => sg_tn_53 big n0 g u a (Int32.ofNat i) a) ?_
        unfold s_ct
        rw [q_succ, if_neg hc1, if_pos hc2]
        exact ih (i + 1) _ (by omega)
      · refine q_step 1 44 [(0, .ref 70), (1, .int a), (2, .int (Int32.ofNat i))] [.int (0 : Int32), .int a] g u (fun big n0 => sg_tn_48 big n0 g u a (Int32.ofNat i) a) ?_
        refine q_call (M2 := 164) (rest := [.int a]) (b_flag0 _ _) (fun _ _ => rfl) ?_
        refine q_step 4 4 [(0, .ref 70), (1, .int (a + (0 : Int32))), (2, .int ((Int32.ofNat i) + (1 : Int32)))] [] g u (fun big n0 => sg_tn_49 big n0 g u a (Int32.ofNat i) a) ?_
        unfold s_ct
        rw [q_succ, if_neg hc1, if_neg hc2]
        exact ih (i + 1) _ (by omega)
theorem b_ratg (g : qM) (u : qW) {n : Nat} (hn : g 70 27 = Int32.ofNat n) (h6 : n ≤ 6) : q_BS 197 [.ref 70] g u (some (.int (s_ct (fun p => if g 78 p = i_none then (0 : Int32) else if g 75 p = g 78 p then 1 else 0) n 0 0)), g, u) := by
  refine q_bx (mm := m_197) rfl (Nat.le_of_ble_eq_true rfl) rfl ?_
  refine q_step 4 4 [(0, .ref 70), (1, .int (0 : Int32)), (2, .int (0 : Int32))] [] g u (fun big n0 => sg_tn_54 big n0 g u) ?_
  exact ratg_l g u hn h6 n 0 0 (by omega)
