theorem sg_sh_1 (big : Nat → List Value → qM → qW → qR) (n0 : Nat) (G : qM) (U : qW) (v0 : Int32) (v1 : Int32) : qm_run pm_m big m_6 (n0 + 2) 5 [(0, .ref 63), (1, .int v0), (2, .int v1), (3, .int (40 : Int32))] [] G U = qm_run pm_m big m_6 n0 7 [(0, .ref 63), (1, .int v0), (2, .int v1), (3, .int (40 : Int32))] [.int (40 : Int32), .int v1] G U := rfl
theorem sg_sh_2 (big : Nat → List Value → qM → qW → qR) (n0 : Nat) (G : qM) (U : qW) (v0 : Int32) (v1 : Int32) : qm_run pm_m big m_6 (n0 + 3) 10 [(0, .ref 63), (1, .int v0), (2, .int v1), (3, .int (40 : Int32))] [] G U = qm_run pm_m big m_6 n0 13 [(0, .ref 63), (1, .int v0), (2, .int v1), (3, .int (40 : Int32))] [.int v0, .int v1, .ref 63] G U := rfl
theorem sg_sh_3 (big : Nat → List Value → qM → qW → qR) (n0 : Nat) (G : qM) (U : qW) (v0 : Int32) (v1 : Int32) : qm_run pm_m big m_6 (n0 + 2) 14 [(0, .ref 63), (1, .int v0), (2, .int v1), (3, .int (40 : Int32))] [] G U = qm_run pm_m big m_6 n0 5 [(0, .ref 63), (1, .int v0), (2, .int (v1 + (1 : Int32))), (3, .int (40 : Int32))] [] G U := rfl
theorem sg_sh_4 (big : Nat → List Value → qM → qW → qR) (n0 : Nat) (G : qM) (U : qW) (v0 : Int32) : qm_run pm_m big m_6 (n0 + 5) 0 [(0, .ref 63), (1, .int v0)] [] G U = qm_run pm_m big m_6 n0 5 [(0, .ref 63), (1, .int v0), (2, .int (0 : Int32)), (3, .int (40 : Int32))] [] G U := rfl
theorem sg_sh_5 (big : Nat → List Value → qM → qW → qR) (n0 : Nat) (G : qM) (U : qW) (v0 : Int32) (v1 : Int32) : qm_run pm_m big m_6 (n0 + 2) 5 [(0, .ref 65), (1, .int v0), (2, .int v1), (3, .int (40 : Int32))] [] G U = qm_run pm_m big m_6 n0 7 [(0, .ref 65), (1, .int v0), (2, .int v1), (3, .int (40 : Int32))] [.int (40 : Int32), .int v1] G U := rfl
theorem sg_sh_6 (big : Nat → List Value → qM → qW → qR) (n0 : Nat) (G : qM) (U : qW) (v0 : Int32) (v1 : Int32) : qm_run pm_m big m_6 (n0 + 3) 10 [(0, .ref 65), (1, .int v0), (2, .int v1), (3, .int (40 : Int32))] [] G U = qm_run pm_m big m_6 n0 13 [(0, .ref 65), (1, .int v0), (2, .int v1), (3, .int (40 : Int32))] [.int v0, .int v1, .ref 65] G U := rfl
theorem sg_sh_7 (big : Nat → List Value → qM → qW → qR) (n0 : Nat) (G : qM) (U : qW) (v0 : Int32) (v1 : Int32) : qm_run pm_m big m_6 (n0 + 2) 14 [(0, .ref 65), (1, .int v0), (2, .int v1), (3, .int (40 : Int32))] [] G U = qm_run pm_m big m_6 n0 5 [(0, .ref 65), (1, .int v0), (2, .int (v1 + (1 : Int32))), (3, .int (40 : Int32))] [] G U := rfl
theorem sg_sh_8 (big : Nat → List Value → qM → qW → qR) (n0 : Nat) (G : qM) (U : qW) (v0 : Int32) : qm_run pm_m big m_6 (n0 + 5) 0 [(0, .ref 65), (1, .int v0)] [] G U = qm_run pm_m big m_6 n0 5 [(0, .ref 65), (1, .int v0), (2, .int (0 : Int32)), (3, .int (40 : Int32))] [] G U := rfl
theorem sg_sh_9 (big : Nat → List Value → qM → qW → qR) (n0 : Nat) (G : qM) (U : qW) (v0 : Int32) (v1 : Int32) : qm_run pm_m big m_6 (n0 + 2) 5 [(0, .ref 67), (1, .int v0), (2, .int v1), (3, .int (40 : Int32))] [] G U = qm_run pm_m big m_6 n0 7 [(0, .ref 67), (1, .int v0), (2, .int v1), (3, .int (40 : Int32))] [.int (40 : Int32), .int v1] G U := rfl
theorem sg_sh_10 (big : Nat → List Value → qM → qW → qR) (n0 : Nat) (G : qM) (U : qW) (v0 : Int32) (v1 : Int32) : qm_run pm_m big m_6 (n0 + 3) 10 [(0, .ref 67), (1, .int v0), (2, .int v1), (3, .int (40 : Int32))] [] G U = qm_run pm_m big m_6 n0 13 [(0, .ref 67), (1, .int v0), (2, .int v1), (3, .int (40 : Int32))] [.int v0, .int v1, .ref 67] G U := rfl
theorem sg_sh_11 (big : Nat → List Value → qM → qW → qR) (n0 : Nat) (G : qM) (U : qW) (v0 : Int32) (v1 : Int32) : qm_run pm_m big m_6 (n0 + 2) 14 [(0, .ref 67), (1, .int v0), (2, .int v1), (3, .int (40 : Int32))] [] G U = qm_run pm_m big m_6 n0 5 [(0, .ref 67), (1, .int v0), (2, .int (v1 + (1 : Int32))), (3, .int (40 : Int32))] [] G U := rfl
theorem sg_sh_12 (big : Nat → List Value → qM → qW → qR) (n0 : Nat) (G : qM) (U : qW) (v0 : Int32) : qm_run pm_m big m_6 (n0 + 5) 0 [(0, .ref 67), (1, .int v0)] [] G U = qm_run pm_m big m_6 n0 5 [(0, .ref 67), (1, .int v0), (2, .int (0 : Int32)), (3, .int (40 : Int32))] [] G U := rfl
theorem sg_sh_13 (big : Nat → List Value → qM → qW → qR) (n0 : Nat) (G : qM) (U : qW) (v0 : Int32) (v1 : Int32) : qm_run pm_m big m_6 (n0 + 2) 5 [(0, .ref 69), (1, .int v0), (2, .int v1), (3, .int (40 : Int32))] [] G U = qm_run pm_m big m_6 n0 7 [(0, .ref 69), (1, .int v0), (2, .int v1), (3, .int (40 : Int32))] [.int (40 : Int32), .int v1] G U := rfl
theorem sg_sh_14 (big : Nat → List Value → qM → qW → qR) (n0 : Nat) (G : qM) (U : qW) (v0 : Int32) (v1 : Int32) : qm_run pm_m big m_6 (n0 + 3) 10 [(0, .ref 69), (1, .int v0), (2, .int v1), (3, .int (40 : Int32))] [] G U = qm_run pm_m big m_6 n0 13 [(0, .ref 69), (1, .int v0), (2, .int v1), (3, .int (40 : Int32))] [.int v0, .int v1, .ref 69] G U := rfl
theorem sg_sh_15 (big : Nat → List Value → qM → qW → qR) (n0 : Nat) (G : qM) (U : qW) (v0 : Int32) (v1 : Int32) : qm_run pm_m big m_6 (n0 + 2) 14 [(0, .ref 69), (1, .int v0), (2, .int v1), (3, .int (40 : Int32))] [] G U = qm_run pm_m big m_6 n0 5 [(0, .ref 69), (1, .int v0), (2, .int (v1 + (1 : Int32))), (3, .int (40 : Int32))] [] G U := rfl
theorem sg_sh_16 (big : Nat → List Value → qM → qW → qR) (n0 : Nat) (G : qM) (U : qW) (v0 : Int32) : qm_run pm_m big m_6 (n0 + 5) 0 [(0, .ref 69), (1, .int v0)] [] G U = qm_run pm_m big m_6 n0 5 [(0, .ref 69), (1, .int v0), (2, .int (0 : Int32)), (3, .int (40 : Int32))] [] G U := rfl
theorem sg_sh_17 (big : Nat → List Value → qM → qW → qR) (n0 : Nat) (G : qM) (U : qW) (v0 : Int32) (v1 : Int32) : qm_run pm_m big m_6 (n0 + 2) 5 [(0, .ref 16), (1, .int v0), (2, .int v1), (3, .int (6 : Int32))] [] G U = qm_run pm_m big m_6 n0 7 [(0, .ref 16), (1, .int v0), (2, .int v1), (3, .int (6 : Int32))] [.int (6 : Int32), .int v1] G U := rfl
theorem sg_sh_18 (big : Nat → List Value → qM → qW → qR) (n0 : Nat) (G : qM) (U : qW) (v0 : Int32) (v1 : Int32) : qm_run pm_m big m_6 (n0 + 3) 10 [(0, .ref 16), (1, .int v0), (2, .int v1), (3, .int (6 : Int32))] [] G U = qm_run pm_m big m_6 n0 13 [(0, .ref 16), (1, .int v0), (2, .int v1), (3, .int (6 : Int32))] [.int v0, .int v1, .ref 16] G U := rfl
theorem sg_sh_19 (big : Nat → List Value → qM → qW → qR) (n0 : Nat) (G : qM) (U : qW) (v0 : Int32) (v1 : Int32) : qm_run pm_m big m_6 (n0 + 2) 14 [(0, .ref 16), (1, .int v0), (2, .int v1), (3, .int (6 : Int32))] [] G U = qm_run pm_m big m_6 n0 5 [(0, .ref 16), (1, .int v0), (2, .int (v1 + (1 : Int32))), (3, .int (6 : Int32))] [] G U := rfl
theorem sg_sh_20 (big : Nat → List Value → qM → qW → qR) (n0 : Nat) (G : qM) (U : qW) (v0 : Int32) : qm_run pm_m big m_6 (n0 + 5) 0 [(0, .ref 16), (1, .int v0)] [] G U = qm_run pm_m big m_6 n0 5 [(0, .ref 16), (1, .int v0), (2, .int (0 : Int32)), (3, .int (6 : Int32))] [] G U := rfl
theorem sg_sh_21 (big : Nat → List Value → qM → qW → qR) (n0 : Nat) (G : qM) (U : qW) (v0 : Int32) (v1 : Int32) : qm_run pm_m big m_133 (n0 + 9) 0 [(0, .ref 62), (1, .int v0), (2, .int v1)] [] G U = qm_run pm_m big m_133 n0 15 [(0, .ref 62), (1, .int v0), (2, .int v1)] [.int (0 : Int32), .ref 63] (q_up (q_up G 62 2 v0) 62 1 v1) U := rfl
theorem sg_sh_22 (big : Nat → List Value → qM → qW → qR) (n0 : Nat) (G : qM) (U : qW) : qm_run pm_m big m_136 (n0 + 3) 0 [(0, .ref 62)] [] G U = qm_run pm_m big m_136 n0 5 [(0, .ref 62)] [.int (Int32.ofInt (-1)), .int (G 62 1)] G U := rfl
theorem sg_sh_23 (big : Nat → List Value → qM → qW → qR) (n0 : Nat) (G : qM) (U : qW) (v0 : Int32) : qm_run pm_m big m_135 (n0 + 1) 0 [(0, .ref 62), (1, .int v0)] [] G U = qm_run pm_m big m_135 n0 1 [(0, .ref 62), (1, .int v0)] [.ref 62] G U := rfl
theorem sg_sh_24 (big : Nat → List Value → qM → qW → qR) (n0 : Nat) (G : qM) (U : qW) (v0 : Int32) : qm_run pm_m big m_135 (n0 + 1) 9 [(0, .ref 62), (1, .int v0)] [] G U = qm_run pm_m big m_135 n0 10 [(0, .ref 62), (1, .int v0)] [.int v0] G U := rfl
theorem sg_sh_25 (big : Nat → List Value → qM → qW → qR) (n0 : Nat) (G : qM) (U : qW) (v0 : Int32) : qm_run pm_m big m_135 (n0 + 3) 13 [(0, .ref 62), (1, .int v0)] [] G U = qm_run pm_m big m_135 n0 18 [(0, .ref 62), (1, .int v0)] [.int (G 62 1), .int v0] G U := rfl
theorem sg_sh_26 (big : Nat → List Value → qM → qW → qR) (n0 : Nat) (G : qM) (U : qW) (v0 : Int32) : qm_run pm_m big m_139 (n0 + 1) 0 [(0, .ref 62), (1, .int v0)] [] G U = qm_run pm_m big m_139 n0 1 [(0, .ref 62), (1, .int v0)] [.ref 62] G U := rfl
theorem sg_sh_27 (big : Nat → List Value → qM → qW → qR) (n0 : Nat) (G : qM) (U : qW) (v0 : Int32) : qm_run pm_m big m_139 (n0 + 3) 7 [(0, .ref 62), (1, .int v0)] [] G U = qm_run pm_m big m_139 n0 12 [(0, .ref 62), (1, .int v0)] [.int v0, .int (G 62 2)] G U := rfl
theorem sg_sh_28 (big : Nat → List Value → qM → qW → qR) (n0 : Nat) (G : qM) (U : qW) (v0 : Int32) (v1 : Int32) : qm_run pm_m big m_130 (n0 + 1) 0 [(0, .ref 8), (1, .int (0 : Int32)), (2, .int v0), (3, .int v1)] [] G U = qm_run pm_m big m_130 n0 1 [(0, .ref 8), (1, .int (0 : Int32)), (2, .int v0), (3, .int v1)] [.int (0 : Int32)] G U := rfl
theorem sg_sh_29 (big : Nat → List Value → qM → qW → qR) (n0 : Nat) (G : qM) (U : qW) (v0 : Int32) (v1 : Int32) : qm_run pm_m big m_130 (n0 + 2) 4 [(0, .ref 8), (1, .int (0 : Int32)), (2, .int v0), (3, .int v1)] [.int (1 : Int32)] G U = qm_run pm_m big m_130 n0 8 [(0, .ref 8), (1, .int (0 : Int32)), (2, .int v0), (3, .int v1)] [.int v0] G U := rfl
theorem sg_sh_30 (big : Nat → List Value → qM → qW → qR) (n0 : Nat) (G : qM) (U : qW) (v0 : Int32) (v1 : Int32) : qm_run pm_m big m_130 (n0 + 2) 14 [(0, .ref 8), (1, .int (0 : Int32)), (2, .int v0), (3, .int v1)] [] G U = qm_run pm_m big m_130 n0 17 [(0, .ref 8), (1, .int (0 : Int32)), (2, .int v0), (3, .int v1)] [.int (40 : Int32), .int v1] G U := rfl
theorem sg_sh_31 (big : Nat → List Value → qM → qW → qR) (n0 : Nat) (G : qM) (U : qW) (v0 : Int32) (v1 : Int32) : qm_run pm_m big m_130 (n0 + 1) 22 [(0, .ref 8), (1, .int (0 : Int32)), (2, .int v0), (3, .int v1)] [] G U = qm_run pm_m big m_130 n0 23 [(0, .ref 8), (1, .int (0 : Int32)), (2, .int v0), (3, .int v1)] [.int v1] G U := rfl
theorem sg_sh_32 (big : Nat → List Value → qM → qW → qR) (n0 : Nat) (G : qM) (U : qW) (v0 : Int32) (v1 : Int32) : qm_run pm_m big m_130 (n0 + 6) 29 [(0, .ref 8), (1, .int (0 : Int32)), (2, .int v0), (3, .int v1)] [] G U = qm_run pm_m big m_130 n0 37 [(0, .ref 8), (1, .int (0 : Int32)), (2, .int v0), (3, .int v1)] [.int v1, .int v0, .ref 62] G U := rfl
theorem sg_sh_33 (big : Nat → List Value → qM → qW → qR) (n0 : Nat) (G : qM) (U : qW) (v0 : Int32) (v1 : Int32) : qm_run pm_m big m_133 (n0 + 9) 0 [(0, .ref 64), (1, .int v0), (2, .int v1)] [] G U = qm_run pm_m big m_133 n0 15 [(0, .ref 64), (1, .int v0), (2, .int v1)] [.int (0 : Int32), .ref 65] (q_up (q_up G 64 2 v0) 64 1 v1) U := rfl
theorem sg_sh_34 (big : Nat → List Value → qM → qW → qR) (n0 : Nat) (G : qM) (U : qW) : qm_run pm_m big m_136 (n0 + 3) 0 [(0, .ref 64)] [] G U = qm_run pm_m big m_136 n0 5 [(0, .ref 64)] [.int (Int32.ofInt (-1)), .int (G 64 1)] G U := rfl
theorem sg_sh_35 (big : Nat → List Value → qM → qW → qR) (n0 : Nat) (G : qM) (U : qW) (v0 : Int32) : qm_run pm_m big m_135 (n0 + 1) 0 [(0, .ref 64), (1, .int v0)] [] G U = qm_run pm_m big m_135 n0 1 [(0, .ref 64), (1, .int v0)] [.ref 64] G U := rfl
theorem sg_sh_36 (big : Nat → List Value → qM → qW → qR) (n0 : Nat) (G : qM) (U : qW) (v0 : Int32) : qm_run pm_m big m_135 (n0 + 1) 9 [(0, .ref 64), (1, .int v0)] [] G U = qm_run pm_m big m_135 n0 10 [(0, .ref 64), (1, .int v0)] [.int v0] G U := rfl
theorem sg_sh_37 (big : Nat → List Value → qM → qW → qR) (n0 : Nat) (G : qM) (U : qW) (v0 : Int32) : qm_run pm_m big m_135 (n0 + 3) 13 [(0, .ref 64), (1, .int v0)] [] G U = qm_run pm_m big m_135 n0 18 [(0, .ref 64), (1, .int v0)] [.int (G 64 1), .int v0] G U := rfl
theorem sg_sh_38 (big : Nat → List Value → qM → qW → qR) (n0 : Nat) (G : qM) (U : qW) (v0 : Int32) : qm_run pm_m big m_139 (n0 + 1) 0 [(0, .ref 64), (1, .int v0)] [] G U = qm_run pm_m big m_139 n0 1 [(0, .ref 64), (1, .int v0)] [.ref 64] G U := rfl
theorem sg_sh_39 (big : Nat → List Value → qM → qW → qR) (n0 : Nat) (G : qM) (U : qW) (v0 : Int32) : qm_run pm_m big m_139 (n0 + 3) 7 [(0, .ref 64), (1, .int v0)] [] G U = qm_run pm_m big m_139 n0 12 [(0, .ref 64), (1, .int v0)] [.int v0, .int (G 64 2)] G U := rfl
theorem sg_sh_40 (big : Nat → List Value → qM → qW → qR) (n0 : Nat) (G : qM) (U : qW) (v0 : Int32) (v1 : Int32) : qm_run pm_m big m_130 (n0 + 1) 0 [(0, .ref 8), (1, .int (1 : Int32)), (2, .int v0), (3, .int v1)] [] G U = qm_run pm_m big m_130 n0 1 [(0, .ref 8), (1, .int (1 : Int32)), (2, .int v0), (3, .int v1)] [.int (1 : Int32)] G U := rfl
theorem sg_sh_41 (big : Nat → List Value → qM → qW → qR) (n0 : Nat) (G : qM) (U : qW) (v0 : Int32) (v1 : Int32) : qm_run pm_m big m_130 (n0 + 2) 4 [(0, .ref 8), (1, .int (1 : Int32)), (2, .int v0), (3, .int v1)] [.int (1 : Int32)] G U = qm_run pm_m big m_130 n0 8 [(0, .ref 8), (1, .int (1 : Int32)), (2, .int v0), (3, .int v1)] [.int v0] G U := rfl
theorem sg_sh_42 (big : Nat → List Value → qM → qW → qR) (n0 : Nat) (G : qM) (U : qW) (v0 : Int32) (v1 : Int32) : qm_run pm_m big m_130 (n0 + 2) 14 [(0, .ref 8), (1, .int (1 : Int32)), (2, .int v0), (3, .int v1)] [] G U = qm_run pm_m big m_130 n0 17 [(0, .ref 8), (1, .int (1 : Int32)), (2, .int v0), (3, .int v1)] [.int (40 : Int32), .int v1] G U := rfl
theorem sg_sh_43 (big : Nat → List Value → qM → qW → qR) (n0 : Nat) (G : qM) (U : qW) (v0 : Int32) (v1 : Int32) : qm_run pm_m big m_130 (n0 + 1) 22 [(0, .ref 8), (1, .int (1 : Int32)), (2, .int v0), (3, .int v1)] [] G U = qm_run pm_m big m_130 n0 23 [(0, .ref 8), (1, .int (1 : Int32)), (2, .int v0), (3, .int v1)] [.int v1] G U := rfl
theorem sg_sh_44 (big : Nat → List Value → qM → qW → qR) (n0 : Nat) (G : qM) (U : qW) (v0 : Int32) (v1 : Int32) : qm_run pm_m big m_130 (n0 + 6) 29 [(0, .ref 8), (1, .int (1 : Int32)), (2, .int v0), (3, .int v1)] [] G U = qm_run pm_m big m_130 n0 37 [(0, .ref 8), (1, .int (1 : Int32)), (2, .int v0), (3, .int v1)] [.int v1, .int v0, .ref 64] G U := rfl
theorem sg_sh_45 (big : Nat → List Value → qM → qW → qR) (n0 : Nat) (G : qM) (U : qW) (v0 : Int32) (v1 : Int32) : qm_run pm_m big m_133 (n0 + 9) 0 [(0, .ref 66), (1, .int v0), (2, .int v1)] [] G U = qm_run pm_m big m_133 n0 15 [(0, .ref 66), (1, .int v0), (2, .int v1)] [.int (0 : Int32), .ref 67] (q_up (q_up G 66 2 v0) 66 1 v1) U := rfl
theorem sg_sh_46 (big : Nat → List Value → qM → qW → qR) (n0 : Nat) (G : qM) (U : qW) : qm_run pm_m big m_136 (n0 + 3) 0 [(0, .ref 66)] [] G U = qm_run pm_m big m_136 n0 5 [(0, .ref 66)] [.int (Int32.ofInt (-1)), .int (G 66 1)] G U := rfl
theorem sg_sh_47 (big : Nat → List Value → qM → qW → qR) (n0 : Nat) (G : qM) (U : qW) (v0 : Int32) : qm_run pm_m big m_135 (n0 + 1) 0 [(0, .ref 66), (1, .int v0)] [] G U = qm_run pm_m big m_135 n0 1 [(0, .ref 66), (1, .int v0)] [.ref 66] G U := rfl
theorem sg_sh_48 (big : Nat → List Value → qM → qW → qR) (n0 : Nat) (G : qM) (U : qW) (v0 : Int32) : qm_run pm_m big m_135 (n0 + 1) 9 [(0, .ref 66), (1, .int v0)] [] G U = qm_run pm_m big m_135 n0 10 [(0, .ref 66), (1, .int v0)] [.int v0] G U := rfl
theorem sg_sh_49 (big : Nat → List Value → qM → qW → qR) (n0 : Nat) (G : qM) (U : qW) (v0 : Int32) : qm_run pm_m big m_135 (n0 + 3) 13 [(0, .ref 66), (1, .int v0)] [] G U = qm_run pm_m big m_135 n0 18 [(0, .ref 66), (1, .int v0)] [.int (G 66 1), .int v0] G U := rfl
theorem sg_sh_50 (big : Nat → List Value → qM → qW → qR) (n0 : Nat) (G : qM) (U : qW) (v0 : Int32) : qm_run pm_m big m_139 (n0 + 1) 0 [(0, .ref 66), (1, .int v0)] [] G U = qm_run pm_m big m_139 n0 1 [(0, .ref 66), (1, .int v0)] [.ref 66] G U := rfl
theorem sg_sh_51 (big : Nat → List Value → qM → qW → qR) (n0 : Nat) (G : qM) (U : qW) (v0 : Int32) : qm_run pm_m big m_139 (n0 + 3) 7 [(0, .ref 66), (1, .int v0)] [] G U = qm_run pm_m big m_139 n0 12 [(0, .ref 66), (1, .int v0)] [.int v0, .int (G 66 2)] G U := rfl
theorem sg_sh_52 (big : Nat → List Value → qM → qW → qR) (n0 : Nat) (G : qM) (U : qW) (v0 : Int32) (v1 : Int32) : qm_run pm_m big m_130 (n0 + 1) 0 [(0, .ref 8), (1, .int (2 : Int32)), (2, .int v0), (3, .int v1)] [] G U = qm_run pm_m big m_130 n0 1 [(0, .ref 8), (1, .int (2 : Int32)), (2, .int v0), (3, .int v1)] [.int (2 : Int32)] G U := rfl
theorem sg_sh_53 (big : Nat → List Value → qM → qW → qR) (n0 : Nat) (G : qM) (U : qW) (v0 : Int32) (v1 : Int32) : qm_run pm_m big m_130 (n0 + 2) 4 [(0, .ref 8), (1, .int (2 : Int32)), (2, .int v0), (3, .int v1)] [.int (1 : Int32)] G U = qm_run pm_m big m_130 n0 8 [(0, .ref 8), (1, .int (2 : Int32)), (2, .int v0), (3, .int v1)] [.int v0] G U := rfl
theorem sg_sh_54 (big : Nat → List Value → qM → qW → qR) (n0 : Nat) (G : qM) (U : qW) (v0 : Int32) (v1 : Int32) : qm_run pm_m big m_130 (n0 + 2) 14 [(0, .ref 8), (1, .int (2 : Int32)), (2, .int v0), (3, .int v1)] [] G U = qm_run pm_m big m_130 n0 17 [(0, .ref 8), (1, .int (2 : Int32)), (2, .int v0), (3, .int v1)] [.int (40 : Int32), .int v1] G U := rfl
theorem sg_sh_55 (big : Nat → List Value → qM → qW → qR) (n0 : Nat) (G : qM) (U : qW) (v0 : Int32) (v1 : Int32) : qm_run pm_m big m_130 (n0 + 1) 22 [(0, .ref 8), (1, .int (2 : Int32)), (2, .int v0), (3, .int v1)] [] G U = qm_run pm_m big m_130 n0 23 [(0, .ref 8), (1, .int (2 : Int32)), (2, .int v0), (3, .int v1)] [.int v1] G U := rfl
theorem sg_sh_56 (big : Nat → List Value → qM → qW → qR) (n0 : Nat) (G : qM) (U : qW) (v0 : Int32) (v1 : Int32) : qm_run pm_m big m_130 (n0 + 6) 29 [(0, .ref 8), (1, .int (2 : Int32)), (2, .int v0), (3, .int v1)] [] G U = qm_run pm_m big m_130 n0 37 [(0, .ref 8), (1, .int (2 : Int32)), (2, .int v0), (3, .int v1)] [.int v1, .int v0, .ref 66] G U := rfl
theorem sg_sh_57 (big : Nat → List Value → qM → qW → qR) (n0 : Nat) (G : qM) (U : qW) (v0 : Int32) (v1 : Int32) : qm_run pm_m big m_133 (n0 + 9) 0 [(0, .ref 68), (1, .int v0), (2, .int v1)] [] G U = qm_run pm_m big m_133 n0 15 [(0, .ref 68), (1, .int v0), (2, .int v1)] [.int (0 : Int32), .ref 69] (q_up (q_up G 68 2 v0) 68 1 v1) U := rfl
theorem sg_sh_58 (big : Nat → List Value → qM → qW → qR) (n0 : Nat) (G : qM) (U : qW) : qm_run pm_m big m_136 (n0 + 3) 0 [(0, .ref 68)] [] G U = qm_run pm_m big m_136 n0 5 [(0, .ref 68)] [.int (Int32.ofInt (-1)), .int (G 68 1)] G U := rfl
theorem sg_sh_59 (big : Nat → List Value → qM → qW → qR) (n0 : Nat) (G : qM) (U : qW) (v0 : Int32) : qm_run pm_m big m_135 (n0 + 1) 0 [(0, .ref 68), (1, .int v0)] [] G U = qm_run pm_m big m_135 n0 1 [(0, .ref 68), (1, .int v0)] [.ref 68] G U := rfl
theorem sg_sh_60 (big : Nat → List Value → qM → qW → qR) (n0 : Nat) (G : qM) (U : qW) (v0 : Int32) : qm_run pm_m big m_135 (n0 + 1) 9 [(0, .ref 68), (1, .int v0)] [] G U = qm_run pm_m big m_135 n0 10 [(0, .ref 68), (1, .int v0)] [.int v0] G U := rfl
theorem sg_sh_61 (big : Nat → List Value → qM → qW → qR) (n0 : Nat) (G : qM) (U : qW) (v0 : Int32) : qm_run pm_m big m_135 (n0 + 3) 13 [(0, .ref 68), (1, .int v0)] [] G U = qm_run pm_m big m_135 n0 18 [(0, .ref 68), (1, .int v0)] [.int (G 68 1), .int v0] G U := rfl
theorem sg_sh_62 (big : Nat → List Value → qM → qW → qR) (n0 : Nat) (G : qM) (U : qW) (v0 : Int32) : qm_run pm_m big m_139 (n0 + 1) 0 [(0, .ref 68), (1, .int v0)] [] G U = qm_run pm_m big m_139 n0 1 [(0, .ref 68), (1, .int v0)] [.ref 68] G U := rfl
theorem sg_sh_63 (big : Nat → List Value → qM → qW → qR) (n0 : Nat) (G : qM) (U : qW) (v0 : Int32) : qm_run pm_m big m_139 (n0 + 3) 7 [(0, .ref 68), (1, .int v0)] [] G U = qm_run pm_m big m_139 n0 12 [(0, .ref 68), (1, .int v0)] [.int v0, .int (G 68 2)] G U := rfl
theorem sg_sh_64 (big : Nat → List Value → qM → qW → qR) (n0 : Nat) (G : qM) (U : qW) (v0 : Int32) (v1 : Int32) : qm_run pm_m big m_130 (n0 + 1) 0 [(0, .ref 8), (1, .int (3 : Int32)), (2, .int v0), (3, .int v1)] [] G U = qm_run pm_m big m_130 n0 1 [(0, .ref 8), (1, .int (3 : Int32)), (2, .int v0), (3, .int v1)] [.int (3 : Int32)] G U := rfl
theorem sg_sh_65 (big : Nat → List Value → qM → qW → qR) (n0 : Nat) (G : qM) (U : qW) (v0 : Int32) (v1 : Int32) : qm_run pm_m big m_130 (n0 + 2) 4 [(0, .ref 8), (1, .int (3 : Int32)), (2, .int v0), (3, .int v1)] [.int (1 : Int32)] G U = qm_run pm_m big m_130 n0 8 [(0, .ref 8), (1, .int (3 : Int32)), (2, .int v0), (3, .int v1)] [.int v0] G U := rfl
theorem sg_sh_66 (big : Nat → List Value → qM → qW → qR) (n0 : Nat) (G : qM) (U : qW) (v0 : Int32) (v1 : Int32) : qm_run pm_m big m_130 (n0 + 2) 14 [(0, .ref 8), (1, .int (3 : Int32)), (2, .int v0), (3, .int v1)] [] G U = qm_run pm_m big m_130 n0 17 [(0, .ref 8), (1, .int (3 : Int32)), (2, .int v0), (3, .int v1)] [.int (40 : Int32), .int v1] G U := rfl
theorem sg_sh_67 (big : Nat → List Value → qM → qW → qR) (n0 : Nat) (G : qM) (U : qW) (v0 : Int32) (v1 : Int32) : qm_run pm_m big m_130 (n0 + 1) 22 [(0, .ref 8), (1, .int (3 : Int32)), (2, .int v0), (3, .int v1)] [] G U = qm_run pm_m big m_130 n0 23 [(0, .ref 8), (1, .int (3 : Int32)), (2, .int v0), (3, .int v1)] [.int v1] G U := rfl
theorem sg_sh_68 (big : Nat → List Value → qM → qW → qR) (n0 : Nat) (G : qM) (U : qW) (v0 : Int32) (v1 : Int32) : qm_run pm_m big m_130 (n0 + 6) 29 [(0, .ref 8), (1, .int (3 : Int32)), (2, .int v0), (3, .int v1)] [] G U = qm_run pm_m big m_130 n0 37 [(0, .ref 8), (1, .int (3 : Int32)), (2, .int v0), (3, .int v1)] [.int v1, .int v0, .ref 68] G U := rfl
theorem fi_63 (u : qW) (v : Int32) (g : qM) : ∀ k i, i + k = 40 → q_EV m_6 5 [(0, .ref 63), (1, .int v), (2, .int (Int32.ofNat i)), (3, .int (40 : Int32))] [] (s_row_ 63 (fun _ => v) i g) u (fun R => R = (none, s_row_ 63 (fun _ => v) 40 g, u)) := by
  intro k
  induction k with
  | zero =>
    intro i hi
    have hi : i = 40 := hi
    refine q_step 2 7 [(0, .ref 63), (1, .int v), (2, .int (Int32.ofNat i)), (3, .int (40 : Int32))] [.int (40 : Int32), .int (Int32.ofNat i)] (s_row_ 63 (fun _ => v) i g) u (fun big n0 => sg_sh_1 big n0 (s_row_ 63 (fun _ => v) i g) u v (Int32.ofNat i)) ?_
    refine q_ic_ge rfl (fun (hc0 : (40 : Int32) ≤ (Int32.ofNat i)) => ?_) (fun hc0 => absurd (show (40 : Int32) ≤ (Int32.ofNat i) from (q_le (i := 40) (j := i) (by omega) (by omega)).mpr (by omega)) hc0)
    refine q_ret 1 (none, (s_row_ 63 (fun _ => v) i g), u) (fun _ _ => rfl) ?_
    have e : i = 40 := by omega
    subst e
    rfl
  | succ k ih =>
    intro i hi
    refine q_step 2 7 [(0, .ref 63), (1, .int v), (2, .int (Int32.ofNat i)), (3, .int (40 : Int32))] [.int (40 : Int32), .int (Int32.ofNat i)] (s_row_ 63 (fun _ => v) i g) u (fun big n0 => sg_sh_1 big n0 (s_row_ 63 (fun _ => v) i g) u v (Int32.ofNat i)) ?_
    refine q_ic_ge rfl (fun hc0 => absurd (show (40 : Int32) ≤ (Int32.ofNat i) from hc0) (fun z => by have z2 := (q_le (i := 40) (j := i) (by omega) (by omega)).mp z; omega)) (fun (hc0 : ¬ ((40 : Int32) ≤ (Int32.ofNat i))) => ?_)
    refine q_step 3 13 [(0, .ref 63), (1, .int v), (2, .int (Int32.ofNat i)), (3, .int (40 : Int32))] [.int v, .int (Int32.ofNat i), .ref 63] (s_row_ 63 (fun _ => v) i g) u (fun big n0 => sg_sh_2 big n0 (s_row_ 63 (fun _ => v) i g) u v (Int32.ofNat i)) ?_
    refine q_iast (j := i) (q_ixn (by omega) (by omega)) rfl rfl ?_
    refine q_step 2 5 [(0, .ref 63), (1, .int v), (2, .int ((Int32.ofNat i) + (1 : Int32))), (3, .int (40 : Int32))] [] (q_up (s_row_ 63 (fun _ => v) i g) 63 i v) u (fun big n0 => sg_sh_3 big n0 (q_up (s_row_ 63 (fun _ => v) i g) 63 i v) u v (Int32.ofNat i)) ?_
    rw [q_succ, show q_up (s_row_ 63 (fun _ => v) i g) 63 i v = s_row_ 63 (fun _ => v) (i + 1) g from s_row_s]
    exact ih (i + 1) (by omega)
theorem b_fill63 (v : Int32) (g : qM) (u : qW) : q_BS 6 [.ref 63, .int v] g u (none, s_row_ 63 (fun _ => v) 40 g, u) := by
  refine q_bx (mm := m_6) rfl (Nat.le_of_ble_eq_true rfl) rfl ?_
  refine q_step 5 5 [(0, .ref 63), (1, .int v), (2, .int (0 : Int32)), (3, .int (40 : Int32))] [] g u (fun big n0 => sg_sh_4 big n0 g u v) ?_
  have e := fi_63 u v g 40 0 (by omega)
  rw [s_row_0] at e
  exact e
theorem fi_65 (u : qW) (v : Int32) (g : qM) : ∀ k i, i + k = 40 → q_EV m_6 5 [(0, .ref 65), (1, .int v), (2, .int (Int32.ofNat i)), (3, .int (40 : Int32))] [] (s_row_ 65 (fun _ => v) i g) u (fun R => R = (none, s_row_ 65 (fun _ => v) 40 g, u)) := by
  intro k
  induction k with
  | zero =>
    intro i hi
    have hi : i = 40 := hi
    refine q_step 2 7 [(0, .ref 65), (1, .int v), (2, .int (Int32.ofNat i)), (3, .int (40 : Int32))] [.int (40 : Int32), .int (Int32.ofNat i)] (s_row_ 65 (fun _ => v) i g) u (fun big n0 => sg_sh_5 big n0 (s_row_ 65 (fun _ => v) i g) u v (Int32.ofNat i)) ?_
    refine q_ic_ge rfl (fun (hc0 : (40 : Int32) ≤ (Int32.ofNat i)) => ?_) (fun hc0 => absurd (show (40 : Int32) ≤ (Int32.ofNat i) from (q_le (i := 40) (j := i) (by omega) (by omega)).mpr (by omega)) hc0)
    refine q_ret 1 (none, (s_row_ 65 (fun _ => v) i g), u) (fun _ _ => rfl) ?_
    have e : i = 40 := by omega
    subst e
    rfl
  | succ k ih =>
    intro i hi
    refine q_step 2 7 [(0, .ref 65), (1, .int v), (2, .int (Int32.ofNat i)), (3, .int (40 : Int32))] [.int (40 : Int32), .int (Int32.ofNat i)] (s_row_ 65 (fun _ => v) i g) u (fun big n0 => sg_sh_5 big n0 (s_row_ 65 (fun _ => v) i g) u v (Int32.ofNat i)) ?_
    refine q_ic_ge rfl (fun hc0 => absurd (show (40 : Int32) ≤ (Int32.ofNat i) from hc0) (fun z => by have z2 := (q_le (i := 40) (j := i) (by omega) (by omega)).mp z; omega)) (fun (hc0 : ¬ ((40 : Int32) ≤ (Int32.ofNat i))) => ?_)
    refine q_step 3 13 [(0, .ref 65), (1, .int v), (2, .int (Int32.ofNat i)), (3, .int (40 : Int32))] [.int v, .int (Int32.ofNat i), .ref 65] (s_row_ 65 (fun _ => v) i g) u (fun big n0 => sg_sh_6 big n0 (s_row_ 65 (fun _ => v) i g) u v (Int32.ofNat i)) ?_
    refine q_iast (j := i) (q_ixn (by omega) (by omega)) rfl rfl ?_
    refine q_step 2 5 [(0, .ref 65), (1, .int v), (2, .int ((Int32.ofNat i) + (1 : Int32))), (3, .int (40 : Int32))] [] (q_up (s_row_ 65 (fun _ => v) i g) 65 i v) u (fun big n0 => sg_sh_7 big n0 (q_up (s_row_ 65 (fun _ => v) i g) 65 i v) u v (Int32.ofNat i)) ?_
    rw [q_succ, show q_up (s_row_ 65 (fun _ => v) i g) 65 i v = s_row_ 65 (fun _ => v) (i + 1) g from s_row_s]
    exact ih (i + 1) (by omega)
theorem b_fill65 (v : Int32) (g : qM) (u : qW) : q_BS 6 [.ref 65, .int v] g u (none, s_row_ 65 (fun _ => v) 40 g, u) := by
  refine q_bx (mm := m_6) rfl (Nat.le_of_ble_eq_true rfl) rfl ?_
  refine q_step 5 5 [(0, .ref 65), (1, .int v), (2, .int (0 : Int32)), (3, .int (40 : Int32))] [] g u (fun big n0 => sg_sh_8 big n0 g u v) ?_
  have e := fi_65 u v g 40 0 (by omega)
  rw [s_row_0] at e
  exact e
theorem fi_67 (u : qW) (v : Int32) (g : qM) : ∀ k i, i + k = 40 → q_EV m_6 5 [(0, .ref 67), (1, .int v), (2, .int (Int32.ofNat i)), (3, .int (40 : Int32))] [] (s_row_ 67 (fun _ => v) i g) u (fun R => R = (none, s_row_ 67 (fun _ => v) 40 g, u)) := by
  intro k
  induction k with
  | zero =>
    intro i hi
    have hi : i = 40 := hi
    refine q_step 2 7 [(0, .ref 67), (1, .int v), (2, .int (Int32.ofNat i)), (3, .int (40 : Int32))] [.int (40 : Int32), .int (Int32.ofNat i)] (s_row_ 67 (fun _ => v) i g) u (fun big n0 => sg_sh_9 big n0 (s_row_ 67 (fun _ => v) i g) u v (Int32.ofNat i)) ?_
    refine q_ic_ge rfl (fun (hc0 : (40 : Int32) ≤ (Int32.ofNat i)) => ?_) (fun hc0 => absurd (show (40 : Int32) ≤ (Int32.ofNat i) from (q_le (i := 40) (j := i) (by omega) (by omega)).mpr (by omega)) hc0)
    refine q_ret 1 (none, (s_row_ 67 (fun _ => v) i g), u) (fun _ _ => rfl) ?_
    have e : i = 40 := by omega
    subst e
    rfl
  | succ k ih =>
    intro i hi
    refine q_step 2 7 [(0, .ref 67), (1, .int v), (2, .int (Int32.ofNat i)), (3, .int (40 : Int32))] [.int (40 : Int32), .int (Int32.ofNat i)] (s_row_ 67 (fun _ => v) i g) u (fun big n0 => sg_sh_9 big n0 (s_row_ 67 (fun _ => v) i g) u v (Int32.ofNat i)) ?_
    refine q_ic_ge rfl (fun hc0 => absurd (show (40 : Int32) ≤ (Int32.ofNat i) from hc0) (fun z => by have z2 := (q_le (i := 40) (j := i) (by omega) (by omega)).mp z; omega)) (fun (hc0 : ¬ ((40 : Int32) ≤ (Int32.ofNat i))) => ?_)
    refine q_step 3 13 [(0, .ref 67), (1, .int v), (2, .int (Int32.ofNat i)), (3, .int (40 : Int32))] [.int v, .int (Int32.ofNat i), .ref 67] (s_row_ 67 (fun _ => v) i g) u (fun big n0 => sg_sh_10 big n0 (s_row_ 67 (fun _ => v) i g) u v (Int32.ofNat i)) ?_
    refine q_iast (j := i) (q_ixn (by omega) (by omega)) rfl rfl ?_
    refine q_step 2 5 [(0, .ref 67), (1, .int v), (2, .int ((Int32.ofNat i) + (1 : Int32))), (3, .int (40 : Int32))] [] (q_up (s_row_ 67 (fun _ => v) i g) 67 i v) u (fun big n0 => sg_sh_11 big n0 (q_up (s_row_ 67 (fun _ => v) i g) 67 i v) u v (Int32.ofNat i)) ?_
    rw [q_succ, show q_up (s_row_ 67 (fun _ => v) i g) 67 i v = s_row_ 67 (fun _ => v) (i + 1) g from s_row_s]
    exact ih (i + 1) (by omega)
theorem b_fill67 (v : Int32) (g : qM) (u : qW) : q_BS 6 [.ref 67, .int v] g u (none, s_row_ 67 (fun _ => v) 40 g, u) := by
  refine q_bx (mm := m_6) rfl (Nat.le_of_ble_eq_true rfl) rfl ?_
  refine q_step 5 5 [(0, .ref 67), (1, .int v), (2, .int (0 : Int32)), (3, .int (40 : Int32))] [] g u (fun big n0 => sg_sh_12 big n0 g u v) ?_
  have e := fi_67 u v g 40 0 (by omega)
  rw [s_row_0] at e
  exact e
theorem fi_69 (u : qW) (v : Int32) (g : qM) : ∀ k i, i + k = 40 → q_EV m_6 5 [(0, .ref 69), (1, .int v), (2, .int (Int32.ofNat i)), (3, .int (40 : Int32))] [] (s_row_ 69 (fun _ => v) i g) u (fun R => R = (none, s_row_ 69 (fun _ => v) 40 g, u)) := by
  intro k
  induction k with
  | zero =>
    intro i hi
    have hi : i = 40 := hi
    refine q_step 2 7 [(0, .ref 69), (1, .int v), (2, .int (Int32.ofNat i)), (3, .int (40 : Int32))] [.int (40 : Int32), .int (Int32.ofNat i)] (s_row_ 69 (fun _ => v) i g) u (fun big n0 => sg_sh_13 big n0 (s_row_ 69 (fun _ => v) i g) u v (Int32.ofNat i)) ?_
    refine q_ic_ge rfl (fun (hc0 : (40 : Int32) ≤ (Int32.ofNat i)) => ?_) (fun hc0 => absurd (show (40 : Int32) ≤ (Int32.ofNat i) from (q_le (i := 40) (j := i) (by omega) (by omega)).mpr (by omega)) hc0)
    refine q_ret 1 (none, (s_row_ 69 (fun _ => v) i g), u) (fun _ _ => rfl) ?_
    have e : i = 40 := by omega
    subst e
    rfl
  | succ k ih =>
    intro i hi
    refine q_step 2 7 [(0, .ref 69), (1, .int v), (2, .int (Int32.ofNat i)), (3, .int (40 : Int32))] [.int (40 : Int32), .int (Int32.ofNat i)] (s_row_ 69 (fun _ => v) i g) u (fun big n0 => sg_sh_13 big n0 (s_row_ 69 (fun _ => v) i g) u v (Int32.ofNat i)) ?_
    refine q_ic_ge rfl (fun hc0 => absurd (show (40 : Int32) ≤ (Int32.ofNat i) from hc0) (fun z => by have z2 := (q_le (i := 40) (j := i) (by omega) (by omega)).mp z; omega)) (fun (hc0 : ¬ ((40 : Int32) ≤ (Int32.ofNat i))) => ?_)
    refine q_step 3 13 [(0, .ref 69), (1, .int v), (2, .int (Int32.ofNat i)), (3, .int (40 : Int32))] [.int v, .int (Int32.ofNat i), .ref 69] (s_row_ 69 (fun _ => v) i g) u (fun big n0 => sg_sh_14 big n0 (s_row_ 69 (fun _ => v) i g) u v (Int32.ofNat i)) ?_
    refine q_iast (j := i) (q_ixn (by omega) (by omega)) rfl rfl ?_
    refine q_step 2 5 [(0, .ref 69), (1, .int v), (2, .int ((Int32.ofNat i) + (1 : Int32))), (3, .int (40 : Int32))] [] (q_up (s_row_ 69 (fun _ => v) i g) 69 i v) u (fun big n0 => sg_sh_15 big n0 (q_up (s_row_ 69 (fun _ => v) i g) 69 i v) u v (Int32.ofNat i)) ?_
    rw [q_succ, show q_up (s_row_ 69 (fun _ => v) i g) 69 i v = s_row_ 69 (fun _ => v) (i + 1) g from s_row_s]
    exact ih (i + 1) (by omega)
theorem b_fill69 (v : Int32) (g : qM) (u : qW) : q_BS 6 [.ref 69, .int v] g u (none, s_row_ 69 (fun _ => v) 40 g, u) := by
  refine q_bx (mm := m_6) rfl (Nat.le_of_ble_eq_true rfl) rfl ?_
  refine q_step 5 5 [(0, .ref 69), (1, .int v), (2, .int (0 : Int32)), (3, .int (40 : Int32))] [] g u (fun big n0 => sg_sh_16 big n0 g u v) ?_
  have e := fi_69 u v g 40 0 (by omega)
  rw [s_row_0] at e
  exact e
theorem fi_16 (u : qW) (v : Int32) (g : qM) : ∀ k i, i + k = 6 → q_EV m_6 5 [(0, .ref 16), (1, .int v), (2, .int (Int32.ofNat i)), (3, .int (6 : Int32))] [] (s_row_ 16 (fun _ => v) i g) u (fun R => R = (none, s_row_ 16 (fun _ => v) 6 g, u)) := by
  intro k
  induction k with
  | zero =>
    intro i hi
    have hi : i = 6 := hi
    refine q_step 2 7 [(0, .ref 16), (1, .int v), (2, .int (Int32.ofNat i)), (3, .int (6 : Int32))] [.int (6 : Int32), .int (Int32.ofNat i)] (s_row_ 16 (fun _ => v) i g) u (fun big n0 => sg_sh_17 big n0 (s_row_ 16 (fun _ => v) i g) u v (Int32.ofNat i)) ?_
    refine q_ic_ge rfl (fun (hc0 : (6 : Int32) ≤ (Int32.ofNat i)) => ?_) (fun hc0 => absurd (show (6 : Int32) ≤ (Int32.ofNat i) from (q_le (i := 6) (j := i) (by omega) (by omega)).mpr (by omega)) hc0)
    refine q_ret 1 (none, (s_row_ 16 (fun _ => v) i g), u) (fun _ _ => rfl) ?_
    have e : i = 6 := by omega
    subst e
    rfl
  | succ k ih =>
    intro i hi
    refine q_step 2 7 [(0, .ref 16), (1, .int v), (2, .int (Int32.ofNat i)), (3, .int (6 : Int32))] [.int (6 : Int32), .int (Int32.ofNat i)] (s_row_ 16 (fun _ => v) i g) u (fun big n0 => sg_sh_17 big n0 (s_row_ 16 (fun _ => v) i g) u v (Int32.ofNat i)) ?_
    refine q_ic_ge rfl (fun hc0 => absurd (show (6 : Int32) ≤ (Int32.ofNat i) from hc0) (fun z => by have z2 := (q_le (i := 6) (j := i) (by omega) (by omega)).mp z; omega)) (fun (hc0 : ¬ ((6 : Int32) ≤ (Int32.ofNat i))) => ?_)
    refine q_step 3 13 [(0, .ref 16), (1, .int v), (2, .int (Int32.ofNat i)), (3, .int (6 : Int32))] [.int v, .int (Int32.ofNat i), .ref 16] (s_row_ 16 (fun _ => v) i g) u (fun big n0 => sg_sh_18 big n0 (s_row_ 16 (fun _ => v) i g) u v (Int32.ofNat i)) ?_
    refine q_iast (j := i) (q_ixn (by omega) (by omega)) rfl rfl ?_
    refine q_step 2 5 [(0, .ref 16), (1, .int v), (2, .int ((Int32.ofNat i) + (1 : Int32))), (3, .int (6 : Int32))] [] (q_up (s_row_ 16 (fun _ => v) i g) 16 i v) u (fun big n0 => sg_sh_19 big n0 (q_up (s_row_ 16 (fun _ => v) i g) 16 i v) u v (Int32.ofNat i)) ?_
    rw [q_succ, show q_up (s_row_ 16 (fun _ => v) i g) 16 i v = s_row_ 16 (fun _ => v) (i + 1) g from s_row_s]
    exact ih (i + 1) (by omega)
theorem b_fill16 (v : Int32) (g : qM) (u : qW) : q_BS 6 [.ref 16, .int v] g u (none, s_row_ 16 (fun _ => v) 6 g, u) := by
  refine q_bx (mm := m_6) rfl (Nat.le_of_ble_eq_true rfl) rfl ?_
  refine q_step 5 5 [(0, .ref 16), (1, .int v), (2, .int (0 : Int32)), (3, .int (6 : Int32))] [] g u (fun big n0 => sg_sh_20 big n0 g u v) ?_
  have e := fi_16 u v g 6 0 (by omega)
  rw [s_row_0] at e
  exact e
def d_renew0 (x : Int32) (y : Int32) (g : qM) (u : qW) : Option Value × qM × qW := (none, (s_row_ 63 (fun _ => (0 : Int32)) 40 (q_up (q_up g 62 2 x) 62 1 y)), u)
theorem b_renew0 (x : Int32) (y : Int32) (g : qM) (u : qW) : q_BS 133 [.ref 62, .int x, .int y] g u (d_renew0 x y g u) := by
  refine q_bx (mm := m_133) rfl (Nat.le_of_ble_eq_true rfl) rfl ?_
  refine q_step 9 15 [(0, .ref 62), (1, .int x), (2, .int y)] [.int (0 : Int32), .ref 63] (q_up (q_up g 62 2 x) 62 1 y) u (fun big n0 => sg_sh_21 big n0 g u x y) ?_
  refine q_call (M2 := 6) (rest := []) (b_fill63 _ _ _) (fun _ _ => rfl) ?_
  refine q_ret 1 (none, (s_row_ 63 (fun _ => (0 : Int32)) 40 (q_up (q_up g 62 2 x) 62 1 y)), u) (fun _ _ => rfl) ?_
  unfold d_renew0
  rfl
def d_isNothing0 (g : qM) : Int32 := (if (g 62 1) = (Int32.ofInt (-1)) then (1 : Int32) else (0 : Int32))
theorem b_isNothing0 (g : qM) (u : qW) : q_BS 136 [.ref 62] g u (some (.int (d_isNothing0 g)), g, u) := by
  refine q_bx (mm := m_136) rfl (Nat.le_of_ble_eq_true rfl) rfl ?_
  refine q_step 3 5 [(0, .ref 62)] [.int (Int32.ofInt (-1)), .int (g 62 1)] g u (fun big n0 => sg_sh_22 big n0 g u) ?_
  refine q_ic_ne rfl (fun (hc0 : (g 62 1) = (Int32.ofInt (-1))) => ?_) (fun (hc0 : ¬ ((g 62 1) = (Int32.ofInt (-1)))) => ?_)
  · refine q_ret 3 (some (.int (1 : Int32)), g, u) (fun _ _ => rfl) ?_
    unfold d_isNothing0
    rw [if_pos hc0]
  · refine q_ret 2 (some (.int (0 : Int32)), g, u) (fun _ _ => rfl) ?_
    unfold d_isNothing0
    rw [if_neg hc0]
def d_faultAt0 (x : Int32) (g : qM) : Int32 := (if (d_isNothing0 g) = 0 then (if x < 0 then (2 : Int32) else (if x < (g 62 1) then (0 : Int32) else (2 : Int32))) else (1 : Int32))
theorem b_faultAt0 (x : Int32) (g : qM) (u : qW) : q_BS 135 [.ref 62, .int x] g u (some (.int (d_faultAt0 x g)), g, u) := by
  refine q_bx (mm := m_135) rfl (Nat.le_of_ble_eq_true rfl) rfl ?_
  refine q_step 1 1 [(0, .ref 62), (1, .int x)] [.ref 62] g u (fun big n0 => sg_sh_23 big n0 g u x) ?_
  refine q_call (M2 := 136) (rest := []) (b_isNothing0 _ _) (fun _ _ => rfl) ?_
  refine q_if_eq rfl (fun (hc0 : (d_isNothing0 g) = 0) => ?_) (fun (hc0 : ¬ ((d_isNothing0 g) = 0)) => ?_)
  · refine q_step 1 10 [(0, .ref 62), (1, .int x)] [.int x] g u (fun big n0 => sg_sh_24 big n0 g u x) ?_
    refine q_if_lt rfl (fun (hc1 : x < 0) => ?_) (fun (hc1 : ¬ (x < 0)) => ?_)
    · refine q_ret 3 (some (.int (2 : Int32)), g, u) (fun _ _ => rfl) ?_
      unfold d_faultAt0
      rw [if_pos hc0, if_pos hc1]
    · refine q_step 3 18 [(0, .ref 62), (1, .int x)] [.int (g 62 1), .int x] g u (fun big n0 => sg_sh_25 big n0 g u x) ?_
      refine q_ic_lt rfl (fun (hc2 : x < (g 62 1)) => ?_) (fun (hc2 : ¬ (x < (g 62 1))) => ?_)
      · refine q_ret 2 (some (.int (0 : Int32)), g, u) (fun _ _ => rfl) ?_
        unfold d_faultAt0
        rw [if_pos hc0, if_neg hc1, if_pos hc2]
      · refine q_ret 3 (some (.int (2 : Int32)), g, u) (fun _ _ => rfl) ?_
        unfold d_faultAt0
        rw [if_pos hc0, if_neg hc1, if_neg hc2]
  · refine q_ret 2 (some (.int (1 : Int32)), g, u) (fun _ _ => rfl) ?_
    unfold d_faultAt0
    rw [if_neg hc0]
def d_faultAs0 (x : Int32) (g : qM) : Int32 := (if (d_isNothing0 g) = 0 then (if (g 62 2) = x then (0 : Int32) else (3 : Int32)) else (0 : Int32))
theorem b_faultAs0 (x : Int32) (g : qM) (u : qW) : q_BS 139 [.ref 62, .int x] g u (some (.int (d_faultAs0 x g)), g, u) := by
  refine q_bx (mm := m_139) rfl (Nat.le_of_ble_eq_true rfl) rfl ?_
  refine q_step 1 1 [(0, .ref 62), (1, .int x)] [.ref 62] g u (fun big n0 => sg_sh_26 big n0 g u x) ?_
  refine q_call (M2 := 136) (rest := []) (b_isNothing0 _ _) (fun _ _ => rfl) ?_
  refine q_if_ne rfl (fun (hc0 : (d_isNothing0 g) = 0) => ?_) (fun (hc0 : ¬ ((d_isNothing0 g) = 0)) => ?_)
  · refine q_step 3 12 [(0, .ref 62), (1, .int x)] [.int x, .int (g 62 2)] g u (fun big n0 => sg_sh_27 big n0 g u x) ?_
    refine q_ic_eq rfl (fun (hc1 : (g 62 2) = x) => ?_) (fun (hc1 : ¬ ((g 62 2) = x)) => ?_)
    · refine q_ret 2 (some (.int (0 : Int32)), g, u) (fun _ _ => rfl) ?_
      unfold d_faultAs0
      rw [if_pos hc0, if_pos hc1]
    · refine q_ret 3 (some (.int (3 : Int32)), g, u) (fun _ _ => rfl) ?_
      unfold d_faultAs0
      rw [if_pos hc0, if_neg hc1]
  · refine q_ret 2 (some (.int (0 : Int32)), g, u) (fun _ _ => rfl) ?_
    unfold d_faultAs0
    rw [if_neg hc0]
def d_sheet0 (x : Int32) (y : Int32) (g : qM) (u : qW) : Option Value × qM × qW := (if (d_isLane x g) = 0 then (some (.int (Int32.ofInt (-1))), g, u) else (if y ≤ (40 : Int32) then (if 0 ≤ y then (some (.int (1 : Int32)), (s_row_ 63 (fun _ => (0 : Int32)) 40 (q_up (q_up g 62 2 x) 62 1 y)), u) else (some (.int (Int8.toInt32 (Int8.ofInt (-14)))), g, u)) else (some (.int (Int32.ofInt (-1))), g, u)))
theorem b_sheet0 (x : Int32) (y : Int32) (g : qM) (u : qW) : q_BS 130 [.ref 8, .int (0 : Int32), .int x, .int y] g u (d_sheet0 x y g u) := by
  refine q_bx (mm := m_130) rfl (Nat.le_of_ble_eq_true rfl) rfl ?_
  refine q_step 1 1 [(0, .ref 8), (1, .int (0 : Int32)), (2, .int x), (3, .int y)] [.int (0 : Int32)] g u (fun big n0 => sg_sh_28 big n0 g u x y) ?_
  refine q_call (M2 := 131) (rest := []) (show q_BS 131 [.int (0 : Int32)] g u (some (.int 1), g, u) from b_isSheet _ g u) (fun _ _ => rfl) ?_
  refine q_step 2 8 [(0, .ref 8), (1, .int (0 : Int32)), (2, .int x), (3, .int y)] [.int x] g u (fun big n0 => sg_sh_29 big n0 g u x y) ?_
  refine q_call (M2 := 132) (rest := []) (b_isLane _ _ _) (fun _ _ => rfl) ?_
  refine q_if_eq rfl (fun (hc0 : (d_isLane x g) = 0) => ?_) (fun (hc0 : ¬ ((d_isLane x g) = 0)) => ?_)
  · refine q_ret 2 (some (.int (Int32.ofInt (-1))), g, u) (fun _ _ => rfl) ?_
    unfold d_sheet0
    rw [if_pos hc0]
  · refine q_step 2 17 [(0, .ref 8), (1, .int (0 : Int32)), (2, .int x), (3, .int y)] [.int (40 : Int32), .int y] g u (fun big n0 => sg_sh_30 big n0 g u x y) ?_
    refine q_ic_le rfl (fun (hc1 : y ≤ (40 : Int32)) => ?_) (fun (hc1 : ¬ (y ≤ (40 : Int32))) => ?_)
    · refine q_step 1 23 [(0, .ref 8), (1, .int (0 : Int32)), (2, .int x), (3, .int y)] [.int y] g u (fun big n0 => sg_sh_31 big n0 g u x y) ?_
      refine q_if_ge rfl (fun (hc2 : 0 ≤ y) => ?_) (fun (hc2 : ¬ (0 ≤ y)) => ?_)
      · refine q_step 6 37 [(0, .ref 8), (1, .int (0 : Int32)), (2, .int x), (3, .int y)] [.int y, .int x, .ref 62] g u (fun big n0 => sg_sh_32 big n0 g u x y) ?_
        refine q_call (M2 := 133) (rest := []) (b_renew0 x y g u) (fun _ _ => rfl) ?_
        refine q_ret 2 (some (.int (1 : Int32)), (s_row_ 63 (fun _ => (0 : Int32)) 40 (q_up (q_up g 62 2 x) 62 1 y)), u) (fun _ _ => rfl) ?_
        unfold d_sheet0
        rw [if_neg hc0, if_pos hc1, if_pos hc2]
      · refine q_ret 2 (some (.int (Int8.toInt32 (Int8.ofInt (-14)))), g, u) (fun _ _ => rfl) ?_
        unfold d_sheet0
        rw [if_neg hc0, if_pos hc1, if_neg hc2]
    · refine q_ret 2 (some (.int (Int32.ofInt (-1))), g, u) (fun _ _ => rfl) ?_
      unfold d_sheet0
      rw [if_neg hc0, if_neg hc1]
def d_renew1 (x : Int32) (y : Int32) (g : qM) (u : qW) : Option Value × qM × qW := (none, (s_row_ 65 (fun _ => (0 : Int32)) 40 (q_up (q_up g 64 2 x) 64 1 y)), u)
theorem b_renew1 (x : Int32) (y : Int32) (g : qM) (u : qW) : q_BS 133 [.ref 64, .int x, .int y] g u (d_renew1 x y g u) := by
  refine q_bx (mm := m_133) rfl (Nat.le_of_ble_eq_true rfl) rfl ?_
  refine q_step 9 15 [(0, .ref 64), (1, .int x), (2, .int y)] [.int (0 : Int32), .ref 65] (q_up (q_up g 64 2 x) 64 1 y) u (fun big n0 => sg_sh_33 big n0 g u x y) ?_
  refine q_call (M2 := 6) (rest := []) (b_fill65 _ _ _) (fun _ _ => rfl) ?_
  refine q_ret 1 (none, (s_row_ 65 (fun _ => (0 : Int32)) 40 (q_up (q_up g 64 2 x) 64 1 y)), u) (fun _ _ => rfl) ?_
  unfold d_renew1
  rfl
def d_isNothing1 (g : qM) : Int32 := (if (g 64 1) = (Int32.ofInt (-1)) then (1 : Int32) else (0 : Int32))
theorem b_isNothing1 (g : qM) (u : qW) : q_BS 136 [.ref 64] g u (some (.int (d_isNothing1 g)), g, u) := by
  refine q_bx (mm := m_136) rfl (Nat.le_of_ble_eq_true rfl) rfl ?_
  refine q_step 3 5 [(0, .ref 64)] [.int (Int32.ofInt (-1)), .int (g 64 1)] g u (fun big n0 => sg_sh_34 big n0 g u) ?_
  refine q_ic_ne rfl (fun (hc0 : (g 64 1) = (Int32.ofInt (-1))) => ?_) (fun (hc0 : ¬ ((g 64 1) = (Int32.ofInt (-1)))) => ?_)
  · refine q_ret 3 (some (.int (1 : Int32)), g, u) (fun _ _ => rfl) ?_
    unfold d_isNothing1
    rw [if_pos hc0]
  · refine q_ret 2 (some (.int (0 : Int32)), g, u) (fun _ _ => rfl) ?_
    unfold d_isNothing1
    rw [if_neg hc0]
def d_faultAt1 (x : Int32) (g : qM) : Int32 := (if (d_isNothing1 g) = 0 then (if x < 0 then (2 : Int32) else (if x < (g 64 1) then (0 : Int32) else (2 : Int32))) else (1 : Int32))
theorem b_faultAt1 (x : Int32) (g : qM) (u : qW) : q_BS 135 [.ref 64, .int x] g u (some (.int (d_faultAt1 x g)), g, u) := by
  refine q_bx (mm := m_135) rfl (Nat.le_of_ble_eq_true rfl) rfl ?_
  refine q_step 1 1 [(0, .ref 64), (1, .int x)] [.ref 64] g u (fun big n0 => sg_sh_35 big n0 g u x) ?_
  refine q_call (M2 := 136) (rest := []) (b_isNothing1 _ _) (fun _ _ => rfl) ?_
  refine q_if_eq rfl (fun (hc0 : (d_isNothing1 g) = 0) => ?_) (fun (hc0 : ¬ ((d_isNothing1 g) = 0)) => ?_)
  · refine q_step 1 10 [(0, .ref 64), (1, .int x)] [.int x] g u (fun big n0 => sg_sh_36 big n0 g u x) ?_
    refine q_if_lt rfl (fun (hc1 : x < 0) => ?_) (fun (hc1 : ¬ (x < 0)) => ?_)
    · refine q_ret 3 (some (.int (2 : Int32)), g, u) (fun _ _ => rfl) ?_
      unfold d_faultAt1
      rw [if_pos hc0, if_pos hc1]
    · refine q_step 3 18 [(0, .ref 64), (1, .int x)] [.int (g 64 1), .int x] g u (fun big n0 => sg_sh_37 big n0 g u x) ?_
      refine q_ic_lt rfl (fun (hc2 : x < (g 64 1)) => ?_) (fun (hc2 : ¬ (x < (g 64 1))) => ?_)
      · refine q_ret 2 (some (.int (0 : Int32)), g, u) (fun _ _ => rfl) ?_
        unfold d_faultAt1
        rw [if_pos hc0, if_neg hc1, if_pos hc2]
      · refine q_ret 3 (some (.int (2 : Int32)), g, u) (fun _ _ => rfl) ?_
        unfold d_faultAt1
        rw [if_pos hc0, if_neg hc1, if_neg hc2]
  · refine q_ret 2 (some (.int (1 : Int32)), g, u) (fun _ _ => rfl) ?_
    unfold d_faultAt1
    rw [if_neg hc0]
def d_faultAs1 (x : Int32) (g : qM) : Int32 := (if (d_isNothing1 g) = 0 then (if (g 64 2) = x then (0 : Int32) else (3 : Int32)) else (0 : Int32))
theorem b_faultAs1 (x : Int32) (g : qM) (u : qW) : q_BS 139 [.ref 64, .int x] g u (some (.int (d_faultAs1 x g)), g, u) := by
  refine q_bx (mm := m_139) rfl (Nat.le_of_ble_eq_true rfl) rfl ?_
  refine q_step 1 1 [(0, .ref 64), (1, .int x)] [.ref 64] g u (fun big n0 => sg_sh_38 big n0 g u x) ?_
  refine q_call (M2 := 136) (rest := []) (b_isNothing1 _ _) (fun _ _ => rfl) ?_
  refine q_if_ne rfl (fun (hc0 : (d_isNothing1 g) = 0) => ?_) (fun (hc0 : ¬ ((d_isNothing1 g) = 0)) => ?_)
  · refine q_step 3 12 [(0, .ref 64), (1, .int x)] [.int x, .int (g 64 2)] g u (fun big n0 => sg_sh_39 big n0 g u x) ?_
    refine q_ic_eq rfl (fun (hc1 : (g 64 2) = x) => ?_) (fun (hc1 : ¬ ((g 64 2) = x)) => ?_)
    · refine q_ret 2 (some (.int (0 : Int32)), g, u) (fun _ _ => rfl) ?_
      unfold d_faultAs1
      rw [if_pos hc0, if_pos hc1]
    · refine q_ret 3 (some (.int (3 : Int32)), g, u) (fun _ _ => rfl) ?_
      unfold d_faultAs1
      rw [if_pos hc0, if_neg hc1]
  · refine q_ret 2 (some (.int (0 : Int32)), g, u) (fun _ _ => rfl) ?_
    unfold d_faultAs1
    rw [if_neg hc0]
def d_sheet1 (x : Int32) (y : Int32) (g : qM) (u : qW) : Option Value × qM × qW := (if (d_isLane x g) = 0 then (some (.int (Int32.ofInt (-1))), g, u) else (if y ≤ (40 : Int32) then (if 0 ≤ y then (some (.int (1 : Int32)), (s_row_ 65 (fun _ => (0 : Int32)) 40 (q_up (q_up g 64 2 x) 64 1 y)), u) else (some (.int (Int8.toInt32 (Int8.ofInt (-14)))), g, u)) else (some (.int (Int32.ofInt (-1))), g, u)))
theorem b_sheet1 (x : Int32) (y : Int32) (g : qM) (u : qW) : q_BS 130 [.ref 8, .int (1 : Int32), .int x, .int y] g u (d_sheet1 x y g u) := by
  refine q_bx (mm := m_130) rfl (Nat.le_of_ble_eq_true rfl) rfl ?_
  refine q_step 1 1 [(0, .ref 8), (1, .int (1 : Int32)), (2, .int x), (3, .int y)] [.int (1 : Int32)] g u (fun big n0 => sg_sh_40 big n0 g u x y) ?_
  refine q_call (M2 := 131) (rest := []) (show q_BS 131 [.int (1 : Int32)] g u (some (.int 1), g, u) from b_isSheet _ g u) (fun _ _ => rfl) ?_
  refine q_step 2 8 [(0, .ref 8), (1, .int (1 : Int32)), (2, .int x), (3, .int y)] [.int x] g u (fun big n0 => sg_sh_41 big n0 g u x y) ?_
  refine q_call (M2 := 132) (rest := []) (b_isLane _ _ _) (fun _ _ => rfl) ?_
  refine q_if_eq rfl (fun (hc0 : (d_isLane x g) = 0) => ?_) (fun (hc0 : ¬ ((d_isLane x g) = 0)) => ?_)
  · refine q_ret 2 (some (.int (Int32.ofInt (-1))), g, u) (fun _ _ => rfl) ?_
    unfold d_sheet1
    rw [if_pos hc0]
  · refine q_step 2 17 [(0, .ref 8), (1, .int (1 : Int32)), (2, .int x), (3, .int y)] [.int (40 : Int32), .int y] g u (fun big n0 => sg_sh_42 big n0 g u x y) ?_
    refine q_ic_le rfl (fun (hc1 : y ≤ (40 : Int32)) => ?_) (fun (hc1 : ¬ (y ≤ (40 : Int32))) => ?_)
    · refine q_step 1 23 [(0, .ref 8), (1, .int (1 : Int32)), (2, .int x), (3, .int y)] [.int y] g u (fun big n0 => sg_sh_43 big n0 g u x y) ?_
      refine q_if_ge rfl (fun (hc2 : 0 ≤ y) => ?_) (fun (hc2 : ¬ (0 ≤ y)) => ?_)
      · refine q_step 6 37 [(0, .ref 8), (1, .int (1 : Int32)), (2, .int x), (3, .int y)] [.int y, .int x, .ref 64] g u (fun big n0 => sg_sh_44 big n0 g u x y) ?_
        refine q_call (M2 := 133) (rest := []) (b_renew1 x y g u) (fun _ _ => rfl) ?_
        refine q_ret 2 (some (.int (1 : Int32)), (s_row_ 65 (fun _ => (0 : Int32)) 40 (q_up (q_up g 64 2 x) 64 1 y)), u) (fun _ _ => rfl) ?_
        unfold d_sheet1
        rw [if_neg hc0, if_pos hc1, if_pos hc2]
      · refine q_ret 2 (some (.int (Int8.toInt32 (Int8.ofInt (-14)))), g, u) (fun _ _ => rfl) ?_
        unfold d_sheet1
        rw [if_neg hc0, if_pos hc1, if_neg hc2]
    · refine q_ret 2 (some (.int (Int32.ofInt (-1))), g, u) (fun _ _ => rfl) ?_
      unfold d_sheet1
      rw [if_neg hc0, if_neg hc1]
def d_renew2 (x : Int32) (y : Int32) (g : qM) (u : qW) : Option Value × qM × qW := (none, (s_row_ 67 (fun _ => (0 : Int32)) 40 (q_up (q_up g 66 2 x) 66 1 y)), u)
theorem b_renew2 (x : Int32) (y : Int32) (g : qM) (u : qW) : q_BS 133 [.ref 66, .int x, .int y] g u (d_renew2 x y g u) := by
  refine q_bx (mm := m_133) rfl (Nat.le_of_ble_eq_true rfl) rfl ?_
  refine q_step 9 15 [(0, .ref 66), (1, .int x), (2, .int y)] [.int (0 : Int32), .ref 67] (q_up (q_up g 66 2 x) 66 1 y) u (fun big n0 => sg_sh_45 big n0 g u x y) ?_
  refine q_call (M2 := 6) (rest := []) (b_fill67 _ _ _) (fun _ _ => rfl) ?_
  refine q_ret 1 (none, (s_row_ 67 (fun _ => (0 : Int32)) 40 (q_up (q_up g 66 2 x) 66 1 y)), u) (fun _ _ => rfl) ?_
  unfold d_renew2
  rfl
def d_isNothing2 (g : qM) : Int32 := (if (g 66 1) = (Int32.ofInt (-1)) then (1 : Int32) else (0 : Int32))
theorem b_isNothing2 (g : qM) (u : qW) : q_BS 136 [.ref 66] g u (some (.int (d_isNothing2 g)), g, u) := by
  refine q_bx (mm := m_136) rfl (Nat.le_of_ble_eq_true rfl) rfl ?_
  refine q_step 3 5 [(0, .ref 66)] [.int (Int32.ofInt (-1)), .int (g 66 1)] g u (fun big n0 => sg_sh_46 big n0 g u) ?_
  refine q_ic_ne rfl (fun (hc0 : (g 66 1) = (Int32.ofInt (-1))) => ?_) (fun (hc0 : ¬ ((g 66 1) = (Int32.ofInt (-1)))) => ?_)
  · refine q_ret 3 (some (.int (1 : Int32)), g, u) (fun _ _ => rfl) ?_
    unfold d_isNothing2
    rw [if_pos hc0]
  · refine q_ret 2 (some (.int (0 : Int32)), g, u) (fun _ _ => rfl) ?_
    unfold d_isNothing2
    rw [if_neg hc0]
def d_faultAt2 (x : Int32) (g : qM) : Int32 := (if (d_isNothing2 g) = 0 then (if x < 0 then (2 : Int32) else (if x < (g 66 1) then (0 : Int32) else (2 : Int32))) else (1 : Int32))
theorem b_faultAt2 (x : Int32) (g : qM) (u : qW) : q_BS 135 [.ref 66, .int x] g u (some (.int (d_faultAt2 x g)), g, u) := by
  refine q_bx (mm := m_135) rfl (Nat.le_of_ble_eq_true rfl) rfl ?_
  refine q_step 1 1 [(0, .ref 66), (1, .int x)] [.ref 66] g u (fun big n0 => sg_sh_47 big n0 g u x) ?_
  refine q_call (M2 := 136) (rest := []) (b_isNothing2 _ _) (fun _ _ => rfl) ?_
  refine q_if_eq rfl (fun (hc0 : (d_isNothing2 g) = 0) => ?_) (fun (hc0 : ¬ ((d_isNothing2 g) = 0)) => ?_)
  · refine q_step 1 10 [(0, .ref 66), (1, .int x)] [.int x] g u (fun big n0 => sg_sh_48 big n0 g u x) ?_
    refine q_if_lt rfl (fun (hc1 : x < 0) => ?_) (fun (hc1 : ¬ (x < 0)) => ?_)
    · refine q_ret 3 (some (.int (2 : Int32)), g, u) (fun _ _ => rfl) ?_
      unfold d_faultAt2
      rw [if_pos hc0, if_pos hc1]
    · refine q_step 3 18 [(0, .ref 66), (1, .int x)] [.int (g 66 1), .int x] g u (fun big n0 => sg_sh_49 big n0 g u x) ?_
      refine q_ic_lt rfl (fun (hc2 : x < (g 66 1)) => ?_) (fun (hc2 : ¬ (x < (g 66 1))) => ?_)
      · refine q_ret 2 (some (.int (0 : Int32)), g, u) (fun _ _ => rfl) ?_
        unfold d_faultAt2
        rw [if_pos hc0, if_neg hc1, if_pos hc2]
      · refine q_ret 3 (some (.int (2 : Int32)), g, u) (fun _ _ => rfl) ?_
        unfold d_faultAt2
        rw [if_pos hc0, if_neg hc1, if_neg hc2]
  · refine q_ret 2 (some (.int (1 : Int32)), g, u) (fun _ _ => rfl) ?_
    unfold d_faultAt2
    rw [if_neg hc0]
def d_faultAs2 (x : Int32) (g : qM) : Int32 := (if (d_isNothing2 g) = 0 then (if (g 66 2) = x then (0 : Int32) else (3 : Int32)) else (0 : Int32))
theorem b_faultAs2 (x : Int32) (g : qM) (u : qW) : q_BS 139 [.ref 66, .int x] g u (some (.int (d_faultAs2 x g)), g, u) := by
  refine q_bx (mm := m_139) rfl (Nat.le_of_ble_eq_true rfl) rfl ?_
  refine q_step 1 1 [(0, .ref 66), (1, .int x)] [.ref 66] g u (fun big n0 => sg_sh_50 big n0 g u x) ?_
  refine q_call (M2 := 136) (rest := []) (b_isNothing2 _ _) (fun _ _ => rfl) ?_
  refine q_if_ne rfl (fun (hc0 : (d_isNothing2 g) = 0) => ?_) (fun (hc0 : ¬ ((d_isNothing2 g) = 0)) => ?_)
  · refine q_step 3 12 [(0, .ref 66), (1, .int x)] [.int x, .int (g 66 2)] g u (fun big n0 => sg_sh_51 big n0 g u x) ?_
    refine q_ic_eq rfl (fun (hc1 : (g 66 2) = x) => ?_) (fun (hc1 : ¬ ((g 66 2) = x)) => ?_)
    · refine q_ret 2 (some (.int (0 : Int32)), g, u) (fun _ _ => rfl) ?_
      unfold d_faultAs2
      rw [if_pos hc0, if_pos hc1]
    · refine q_ret 3 (some (.int (3 : Int32)), g, u) (fun _ _ => rfl) ?_
      unfold d_faultAs2
      rw [if_pos hc0, if_neg hc1]
  · refine q_ret 2 (some (.int (0 : Int32)), g, u) (fun _ _ => rfl) ?_
    unfold d_faultAs2
    rw [if_neg hc0]
def d_sheet2 (x : Int32) (y : Int32) (g : qM) (u : qW) : Option Value × qM × qW := (if (d_isLane x g) = 0 then (some (.int (Int32.ofInt (-1))), g, u) else (if y ≤ (40 : Int32) then (if 0 ≤ y then (some (.int (1 : Int32)), (s_row_ 67 (fun _ => (0 : Int32)) 40 (q_up (q_up g 66 2 x) 66 1 y)), u) else (some (.int (Int8.toInt32 (Int8.ofInt (-14)))), g, u)) else (some (.int (Int32.ofInt (-1))), g, u)))
theorem b_sheet2 (x : Int32) (y : Int32) (g : qM) (u : qW) : q_BS 130 [.ref 8, .int (2 : Int32), .int x, .int y] g u (d_sheet2 x y g u) := by
  refine q_bx (mm := m_130) rfl (Nat.le_of_ble_eq_true rfl) rfl ?_
  refine q_step 1 1 [(0, .ref 8), (1, .int (2 : Int32)), (2, .int x), (3, .int y)] [.int (2 : Int32)] g u (fun big n0 => sg_sh_52 big n0 g u x y) ?_
  refine q_call (M2 := 131) (rest := []) (show q_BS 131 [.int (2 : Int32)] g u (some (.int 1), g, u) from b_isSheet _ g u) (fun _ _ => rfl) ?_
  refine q_step 2 8 [(0, .ref 8), (1, .int (2 : Int32)), (2, .int x), (3, .int y)] [.int x] g u (fun big n0 => sg_sh_53 big n0 g u x y) ?_
  refine q_call (M2 := 132) (rest := []) (b_isLane _ _ _) (fun _ _ => rfl) ?_
  refine q_if_eq rfl (fun (hc0 : (d_isLane x g) = 0) => ?_) (fun (hc0 : ¬ ((d_isLane x g) = 0)) => ?_)
  · refine q_ret 2 (some (.int (Int32.ofInt (-1))), g, u) (fun _ _ => rfl) ?_
    unfold d_sheet2
    rw [if_pos hc0]
  · refine q_step 2 17 [(0, .ref 8), (1, .int (2 : Int32)), (2, .int x), (3, .int y)] [.int (40 : Int32), .int y] g u (fun big n0 => sg_sh_54 big n0 g u x y) ?_
    refine q_ic_le rfl (fun (hc1 : y ≤ (40 : Int32)) => ?_) (fun (hc1 : ¬ (y ≤ (40 : Int32))) => ?_)
    · refine q_step 1 23 [(0, .ref 8), (1, .int (2 : Int32)), (2, .int x), (3, .int y)] [.int y] g u (fun big n0 => sg_sh_55 big n0 g u x y) ?_
      refine q_if_ge rfl (fun (hc2 : 0 ≤ y) => ?_) (fun (hc2 : ¬ (0 ≤ y)) => ?_)
      · refine q_step 6 37 [(0, .ref 8), (1, .int (2 : Int32)), (2, .int x), (3, .int y)] [.int y, .int x, .ref 66] g u (fun big n0 => sg_sh_56 big n0 g u x y) ?_
        refine q_call (M2 := 133) (rest := []) (b_renew2 x y g u) (fun _ _ => rfl) ?_
        refine q_ret 2 (some (.int (1 : Int32)), (s_row_ 67 (fun _ => (0 : Int32)) 40 (q_up (q_up g 66 2 x) 66 1 y)), u) (fun _ _ => rfl) ?_
        unfold d_sheet2
        rw [if_neg hc0, if_pos hc1, if_pos hc2]
      · refine q_ret 2 (some (.int (Int8.toInt32 (Int8.ofInt (-14)))), g, u) (fun _ _ => rfl) ?_
        unfold d_sheet2
        rw [if_neg hc0, if_pos hc1, if_neg hc2]
    · refine q_ret 2 (some (.int (Int32.ofInt (-1))), g, u) (fun _ _ => rfl) ?_
      unfold d_sheet2
      rw [if_neg hc0, if_neg hc1]
def d_renew3 (x : Int32) (y : Int32) (g : qM) (u : qW) : Option Value × qM × qW := (none, (s_row_ 69 (fun _ => (0 : Int32)) 40 (q_up (q_up g 68 2 x) 68 1 y)), u)
theorem b_renew3 (x : Int32) (y : Int32) (g : qM) (u : qW) : q_BS 133 [.ref 68, .int x, .int y] g u (d_renew3 x y g u) := by
  refine q_bx (mm := m_133) rfl (Nat.le_of_ble_eq_true rfl) rfl ?_
  refine q_step 9 15 [(0, .ref 68), (1, .int x), (2, .int y)] [.int (0 : Int32), .ref 69] (q_up (q_up g 68 2 x) 68 1 y) u (fun big n0 => sg_sh_57 big n0 g u x y) ?_
  refine q_call (M2 := 6) (rest := []) (b_fill69 _ _ _) (fun _ _ => rfl) ?_
  refine q_ret 1 (none, (s_row_ 69 (fun _ => (0 : Int32)) 40 (q_up (q_up g 68 2 x) 68 1 y)), u) (fun _ _ => rfl) ?_
  unfold d_renew3
  rfl
def d_isNothing3 (g : qM) : Int32 := (if (g 68 1) = (Int32.ofInt (-1)) then (1 : Int32) else (0 : Int32))
theorem b_isNothing3 (g : qM) (u : qW) : q_BS 136 [.ref 68] g u (some (.int (d_isNothing3 g)), g, u) := by
  refine q_bx (mm := m_136) rfl (Nat.le_of_ble_eq_true rfl) rfl ?_
  refine q_step 3 5 [(0, .ref 68)] [.int (Int32.ofInt (-1)), .int (g 68 1)] g u (fun big n0 => sg_sh_58 big n0 g u) ?_
  refine q_ic_ne rfl (fun (hc0 : (g 68 1) = (Int32.ofInt (-1))) => ?_) (fun (hc0 : ¬ ((g 68 1) = (Int32.ofInt (-1)))) => ?_)
  · refine q_ret 3 (some (.int (1 : Int32)), g, u) (fun _ _ => rfl) ?_
    unfold d_isNothing3
    rw [if_pos hc0]
  · refine q_ret 2 (some (.int (0 : Int32)), g, u) (fun _ _ => rfl) ?_
    unfold d_isNothing3
    rw [if_neg hc0]
def d_faultAt3 (x : Int32) (g : qM) : Int32 := (if (d_isNothing3 g) = 0 then (if x < 0 then (2 : Int32) else (if x < (g 68 1) then (0 : Int32) else (2 : Int32))) else (1 : Int32))
theorem b_faultAt3 (x : Int32) (g : qM) (u : qW) : q_BS 135 [.ref 68, .int x] g u (some (.int (d_faultAt3 x g)), g, u) := by
  refine q_bx (mm := m_135) rfl (Nat.le_of_ble_eq_true rfl) rfl ?_
  refine q_step 1 1 [(0, .ref 68), (1, .int x)] [.ref 68] g u (fun big n0 => sg_sh_59 big n0 g u x) ?_
  refine q_call (M2 := 136) (rest := []) (b_isNothing3 _ _) (fun _ _ => rfl) ?_
  refine q_if_eq rfl (fun (hc0 : (d_isNothing3 g) = 0) => ?_) (fun (hc0 : ¬ ((d_isNothing3 g) = 0)) => ?_)
  · refine q_step 1 10 [(0, .ref 68), (1, .int x)] [.int x] g u (fun big n0 => sg_sh_60 big n0 g u x) ?_
    refine q_if_lt rfl (fun (hc1 : x < 0) => ?_) (fun (hc1 : ¬ (x < 0)) => ?_)
    · refine q_ret 3 (some (.int (2 : Int32)), g, u) (fun _ _ => rfl) ?_
      unfold d_faultAt3
      rw [if_pos hc0, if_pos hc1]
    · refine q_step 3 18 [(0, .ref 68), (1, .int x)] [.int (g 68 1), .int x] g u (fun big n0 => sg_sh_61 big n0 g u x) ?_
      refine q_ic_lt rfl (fun (hc2 : x < (g 68 1)) => ?_) (fun (hc2 : ¬ (x < (g 68 1))) => ?_)
      · refine q_ret 2 (some (.int (0 : Int32)), g, u) (fun _ _ => rfl) ?_
        unfold d_faultAt3
        rw [if_pos hc0, if_neg hc1, if_pos hc2]
      · refine q_ret 3 (some (.int (2 : Int32)), g, u) (fun _ _ => rfl) ?_
        unfold d_faultAt3
        rw [if_pos hc0, if_neg hc1, if_neg hc2]
  · refine q_ret 2 (some (.int (1 : Int32)), g, u) (fun _ _ => rfl) ?_
    unfold d_faultAt3
    rw [if_neg hc0]
def d_faultAs3 (x : Int32) (g : qM) : Int32 := (if (d_isNothing3 g) = 0 then (if (g 68 2) = x then (0 : Int32) else (3 : Int32)) else (0 : Int32))
theorem b_faultAs3 (x : Int32) (g : qM) (u : qW) : q_BS 139 [.ref 68, .int x] g u (some (.int (d_faultAs3 x g)), g, u) := by
  refine q_bx (mm := m_139) rfl (Nat.le_of_ble_eq_true rfl) rfl ?_
  refine q_step 1 1 [(0, .ref 68), (1, .int x)] [.ref 68] g u (fun big n0 => sg_sh_62 big n0 g u x) ?_
  refine q_call (M2 := 136) (rest := []) (b_isNothing3 _ _) (fun _ _ => rfl) ?_
  refine q_if_ne rfl (fun (hc0 : (d_isNothing3 g) = 0) => ?_) (fun (hc0 : ¬ ((d_isNothing3 g) = 0)) => ?_)
  · refine q_step 3 12 [(0, .ref 68), (1, .int x)] [.int x, .int (g 68 2)] g u (fun big n0 => sg_sh_63 big n0 g u x) ?_
    refine q_ic_eq rfl (fun (hc1 : (g 68 2) = x) => ?_) (fun (hc1 : ¬ ((g 68 2) = x)) => ?_)
    · refine q_ret 2 (some (.int (0 : Int32)), g, u) (fun _ _ => rfl) ?_
      unfold d_faultAs3
      rw [if_pos hc0, if_pos hc1]
    · refine q_ret 3 (some (.int (3 : Int32)), g, u) (fun _ _ => rfl) ?_
      unfold d_faultAs3
      rw [if_pos hc0, if_neg hc1]
  · refine q_ret 2 (some (.int (0 : Int32)), g, u) (fun _ _ => rfl) ?_
    unfold d_faultAs3
    rw [if_neg hc0]
def d_sheet3 (x : Int32) (y : Int32) (g : qM) (u : qW) : Option Value × qM × qW := (if (d_isLane x g) = 0 then (some (.int (Int32.ofInt (-1))), g, u) else (if y ≤ (40 : Int32) then (if 0 ≤ y then (some (.int (1 : Int32)), (s_row_ 69 (fun _ => (0 : Int32)) 40 (q_up (q_up g 68 2 x) 68 1 y)), u) else (some (.int (Int8.toInt32 (Int8.ofInt (-14)))), g, u)) else (some (.int (Int32.ofInt (-1))), g, u)))
theorem b_sheet3 (x : Int32) (y : Int32) (g : qM) (u : qW) : q_BS 130 [.ref 8, .int (3 : Int32), .int x, .int y] g u (d_sheet3 x y g u) := by
  refine q_bx (mm := m_130) rfl (Nat.le_of_ble_eq_true rfl) rfl ?_
  refine q_step 1 1 [(0, .ref 8), (1, .int (3 : Int32)), (2, .int x), (3, .int y)] [.int (3 : Int32)] g u (fun big n0 => sg_sh_64 big n0 g u x y) ?_
  refine q_call (M2 := 131) (rest := []) (show q_BS 131 [.int (3 : Int32)] g u (some (.int 1), g, u) from b_isSheet _ g u) (fun _ _ => rfl) ?_
  refine q_step 2 8 [(0, .ref 8), (1, .int (3 : Int32)), (2, .int x), (3, .int y)] [.int x] g u (fun big n0 => sg_sh_65 big n0 g u x y) ?_
  refine q_call (M2 := 132) (rest := []) (b_isLane _ _ _) (fun _ _ => rfl) ?_
  refine q_if_eq rfl (fun (hc0 : (d_isLane x g) = 0) => ?_) (fun (hc0 : ¬ ((d_isLane x g) = 0)) => ?_)
  · refine q_ret 2 (some (.int (Int32.ofInt (-1))), g, u) (fun _ _ => rfl) ?_
    unfold d_sheet3
    rw [if_pos hc0]
  · refine q_step 2 17 [(0, .ref 8), (1, .int (3 : Int32)), (2, .int x), (3, .int y)] [.int (40 : Int32), .int y] g u (fun big n0 => sg_sh_66 big n0 g u x y) ?_
    refine q_ic_le rfl (fun (hc1 : y ≤ (40 : Int32)) => ?_) (fun (hc1 : ¬ (y ≤ (40 : Int32))) => ?_)
    · refine q_step 1 23 [(0, .ref 8), (1, .int (3 : Int32)), (2, .int x), (3, .int y)] [.int y] g u (fun big n0 => sg_sh_67 big n0 g u x y) ?_
      refine q_if_ge rfl (fun (hc2 : 0 ≤ y) => ?_) (fun (hc2 : ¬ (0 ≤ y)) => ?_)
      · refine q_step 6 37 [(0, .ref 8), (1, .int (3 : Int32)), (2, .int x), (3, .int y)] [.int y, .int x, .ref 68] g u (fun big n0 => sg_sh_68 big n0 g u x y) ?_
        refine q_call (M2 := 133) (rest := []) (b_renew3 x y g u) (fun _ _ => rfl) ?_
        refine q_ret 2 (some (.int (1 : Int32)), (s_row_ 69 (fun _ => (0 : Int32)) 40 (q_up (q_up g 68 2 x) 68 1 y)), u) (fun _ _ => rfl) ?_
        unfold d_sheet3
        rw [if_neg hc0, if_pos hc1, if_pos hc2]
      · refine q_ret 2 (some (.int (Int8.toInt32 (Int8.ofInt (-14)))), g, u) (fun _ _ => rfl) ?_
        unfold d_sheet3
        rw [if_neg hc0, if_pos hc1, if_neg hc2]
    · refine q_ret 2 (some (.int (Int32.ofInt (-1))), g, u) (fun _ _ => rfl) ?_
      unfold d_sheet3
      rw [if_neg hc0, if_neg hc1]
