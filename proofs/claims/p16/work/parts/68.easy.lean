/-! CALLS THAT CHANGE OR TELL, numbers as told. -/
theorem b_hasCell1 {c N : Nat} (g : qM) (u : qW) (hN : g 20 0 * g 20 1 = Int32.ofNat N) (h25 : N ≤ 25) (hc : c < N) : q_BS 38 [.ref 20, .int (Int32.ofNat c)] g u (some (.int 1), g, u) := by
  have e : d_hasCell (Int32.ofNat c) g = 1 := by
    unfold d_hasCell d_size
    rw [hN, if_neg (fun z => by
      have z := Int32.lt_iff_toInt_lt.mp z
      rw [q_nat (by omega)] at z
      have e : (0 : Int32).toInt = 0 := rfl
      omega), if_neg (fun z => absurd ((q_le (by omega) (by omega)).mp z) (by omega))]
  have h := b_hasCell (Int32.ofNat c) g u
  rw [e] at h
  exact h
theorem b_risCell1 {c N : Nat} (g : qM) (u : qW) (hN : g 70 2 * g 70 3 = Int32.ofNat N) (h25 : N ≤ 25) (hc : c < N) : q_BS 171 [.ref 70, .int (Int32.ofNat c)] g u (some (.int 1), g, u) := by
  have e : d_risCell (Int32.ofNat c) g = 1 := by
    unfold d_risCell
    rcases s_in_01 (Int32.toInt64 (Int32.ofNat c)) 0 (Int32.toInt64 (((g 70 2) * (g 70 3)) - (1 : Int32))) with z | z
    · refine absurd z (s_in_i.mpr ?_)
      have e1 : (1 : Int32).toInt = 1 := rfl
      have e0 : (0 : Int64).toInt = 0 := rfl
      rw [Int32.toInt_toInt64, hN, s_sub (by rw [q_nat (by omega), e1]; omega) (by rw [q_nat (by omega), e1]; omega), q_nat (by omega), q_nat (by omega), e1, e0]
      omega
    · exact z
  have k := b_risCell (Int32.ofNat c) g u
  rw [e] at k
  exact k
theorem b_isMood1 {m : Nat} (g : qM) (u : qW) (hm : m ≤ 3) : q_BS 48 [.int (Int32.ofNat m)] g u (some (.int 1), g, u) := by
  have e : d_isMood (Int32.ofNat m) g = 1 := by
    unfold d_isMood
    rw [if_neg (fun z => by
      have z := Int32.lt_iff_toInt_lt.mp z
      rw [q_nat (by omega)] at z
      have e : (0 : Int32).toInt = 0 := rfl
      omega), if_neg (show ¬ (3 : Int32) < Int32.ofNat m from fun z => absurd ((q_lt (i := 3) (j := m) (by omega) (by omega)).mp z) (by omega))]
  have h := b_isMood (Int32.ofNat m) g u
  rw [e] at h
  exact h
theorem sg_ez_1 (big : Nat → List Value → qM → qW → qR) (n0 : Nat) (G : qM) (U : qW) (v0 : Int32) (v1 : Int32) : qm_run pm_m big m_47 (n0 + 3) 0 [(0, .ref 8), (1, .int v0), (2, .int v1)] [] G U = qm_run pm_m big m_47 n0 5 [(0, .ref 8), (1, .int v0), (2, .int v1)] [.int v0, .ref 20] G U := rfl
theorem sg_ez_2 (big : Nat → List Value → qM → qW → qR) (n0 : Nat) (G : qM) (U : qW) (v0 : Int32) (v1 : Int32) : qm_run pm_m big m_47 (n0 + 2) 8 [(0, .ref 8), (1, .int v0), (2, .int v1)] [.int (1 : Int32)] G U = qm_run pm_m big m_47 n0 12 [(0, .ref 8), (1, .int v0), (2, .int v1)] [.int v1] G U := rfl
theorem sg_ez_3 (big : Nat → List Value → qM → qW → qR) (n0 : Nat) (G : qM) (U : qW) (v0 : Int32) (v1 : Int32) : qm_run pm_m big m_47 (n0 + 5) 15 [(0, .ref 8), (1, .int v0), (2, .int v1)] [.int (1 : Int32)] G U = qm_run pm_m big m_47 n0 28 [(0, .ref 8), (1, .int v0), (2, .int v1)] [.int v0, .ref 22] G U := rfl
theorem sg_ez_4 (big : Nat → List Value → qM → qW → qR) (n0 : Nat) (G : qM) (U : qW) (v0 : Int32) (v1 : Int32) (v2 : Int32) : qm_run pm_m big m_47 (n0 + 6) 29 [(0, .ref 8), (1, .int v0), (2, .int v1)] [.int v2] G U = qm_run pm_m big m_47 n0 39 [(0, .ref 8), (1, .int v0), (2, .int v1), (3, .int v2)] [.int v1, .int v0, .ref 22] G U := rfl
theorem sg_ez_5 (big : Nat → List Value → qM → qW → qR) (n0 : Nat) (G : qM) (U : qW) (v0 : Int32) (v1 : Int32) : qm_run pm_m big m_174 (n0 + 2) 0 [(0, .ref 70), (1, .int v0), (2, .int v1)] [] G U = qm_run pm_m big m_174 n0 2 [(0, .ref 70), (1, .int v0), (2, .int v1)] [.int v0, .ref 70] G U := rfl
theorem sg_ez_6 (big : Nat → List Value → qM → qW → qR) (n0 : Nat) (G : qM) (U : qW) (v0 : Int32) (v1 : Int32) : qm_run pm_m big m_174 (n0 + 5) 5 [(0, .ref 70), (1, .int v0), (2, .int v1)] [.int (1 : Int32)] G U = qm_run pm_m big m_174 n0 14 [(0, .ref 70), (1, .int v0), (2, .int v1)] [.long (3 : Int64), .long (0 : Int64), .long (Int32.toInt64 v1)] G U := rfl
theorem sg_ez_7 (big : Nat → List Value → qM → qW → qR) (n0 : Nat) (G : qM) (U : qW) (v0 : Int32) (v1 : Int32) : qm_run pm_m big m_174 (n0 + 6) 17 [(0, .ref 70), (1, .int v0), (2, .int v1)] [.int (1 : Int32)] G U = qm_run pm_m big m_174 n0 25 [(0, .ref 70), (1, .int v0), (2, .int v1)] [.int v1, .int ((5 : Int32) + v0), .ref 70] G U := rfl
theorem sg_ez_8 (big : Nat → List Value → qM → qW → qR) (n0 : Nat) (G : qM) (U : qW) (v0 : Int32) : qm_run pm_m big m_51 (n0 + 3) 0 [(0, .ref 8), (1, .int v0), (2, .int (0 : Int32))] [] G U = qm_run pm_m big m_51 n0 5 [(0, .ref 8), (1, .int v0), (2, .int (0 : Int32))] [.int v0, .ref 20] G U := rfl
theorem sg_ez_9 (big : Nat → List Value → qM → qW → qR) (n0 : Nat) (G : qM) (U : qW) (v0 : Int32) : qm_run pm_m big m_51 (n0 + 5) 8 [(0, .ref 8), (1, .int v0), (2, .int (0 : Int32))] [.int (1 : Int32)] G U = qm_run pm_m big m_51 n0 21 [(0, .ref 8), (1, .int v0), (2, .int (0 : Int32))] [.int v0, .ref 23] G U := rfl
theorem sg_ez_10 (big : Nat → List Value → qM → qW → qR) (n0 : Nat) (G : qM) (U : qW) (v0 : Int32) (v1 : Int32) : qm_run pm_m big m_51 (n0 + 8) 22 [(0, .ref 8), (1, .int v0), (2, .int (0 : Int32))] [.int v1] G U = qm_run pm_m big m_51 n0 40 [(0, .ref 8), (1, .int v0), (2, .int (0 : Int32)), (3, .int v1)] [.int (0 : Int32), .int v0, .ref 23] G U := rfl
theorem sg_ez_11 (big : Nat → List Value → qM → qW → qR) (n0 : Nat) (G : qM) (U : qW) (v0 : Int32) : qm_run pm_m big m_178 (n0 + 2) 0 [(0, .ref 70), (1, .int v0), (2, .int (0 : Int32))] [] G U = qm_run pm_m big m_178 n0 2 [(0, .ref 70), (1, .int v0), (2, .int (0 : Int32))] [.int v0, .ref 70] G U := rfl
theorem sg_ez_12 (big : Nat → List Value → qM → qW → qR) (n0 : Nat) (G : qM) (U : qW) (v0 : Int32) : qm_run pm_m big m_178 (n0 + 6) 5 [(0, .ref 70), (1, .int v0), (2, .int (0 : Int32))] [.int (1 : Int32)] G U = qm_run pm_m big m_178 n0 14 [(0, .ref 70), (1, .int v0), (2, .int (0 : Int32))] [.int (0 : Int32), .int ((10 : Int32) + v0), .ref 70] G U := rfl
theorem sg_ez_13 (big : Nat → List Value → qM → qW → qR) (n0 : Nat) (G : qM) (U : qW) (v0 : Int32) : qm_run pm_m big m_51 (n0 + 3) 0 [(0, .ref 8), (1, .int v0), (2, .int (1 : Int32))] [] G U = qm_run pm_m big m_51 n0 5 [(0, .ref 8), (1, .int v0), (2, .int (1 : Int32))] [.int v0, .ref 20] G U := rfl
theorem sg_ez_14 (big : Nat → List Value → qM → qW → qR) (n0 : Nat) (G : qM) (U : qW) (v0 : Int32) : qm_run pm_m big m_51 (n0 + 5) 8 [(0, .ref 8), (1, .int v0), (2, .int (1 : Int32))] [.int (1 : Int32)] G U = qm_run pm_m big m_51 n0 21 [(0, .ref 8), (1, .int v0), (2, .int (1 : Int32))] [.int v0, .ref 23] G U := rfl
theorem sg_ez_15 (big : Nat → List Value → qM → qW → qR) (n0 : Nat) (G : qM) (U : qW) (v0 : Int32) (v1 : Int32) : qm_run pm_m big m_51 (n0 + 9) 22 [(0, .ref 8), (1, .int v0), (2, .int (1 : Int32))] [.int v1] G U = qm_run pm_m big m_51 n0 40 [(0, .ref 8), (1, .int v0), (2, .int (1 : Int32)), (3, .int v1)] [.int (1 : Int32), .int v0, .ref 23] G U := rfl
theorem sg_ez_16 (big : Nat → List Value → qM → qW → qR) (n0 : Nat) (G : qM) (U : qW) (v0 : Int32) : qm_run pm_m big m_178 (n0 + 2) 0 [(0, .ref 70), (1, .int v0), (2, .int (1 : Int32))] [] G U = qm_run pm_m big m_178 n0 2 [(0, .ref 70), (1, .int v0), (2, .int (1 : Int32))] [.int v0, .ref 70] G U := rfl
theorem sg_ez_17 (big : Nat → List Value → qM → qW → qR) (n0 : Nat) (G : qM) (U : qW) (v0 : Int32) : qm_run pm_m big m_178 (n0 + 6) 5 [(0, .ref 70), (1, .int v0), (2, .int (1 : Int32))] [.int (1 : Int32)] G U = qm_run pm_m big m_178 n0 14 [(0, .ref 70), (1, .int v0), (2, .int (1 : Int32))] [.int (1 : Int32), .int ((10 : Int32) + v0), .ref 70] G U := rfl
theorem sg_ez_18 (big : Nat → List Value → qM → qW → qR) (n0 : Nat) (G : qM) (U : qW) (v0 : Int32) : qm_run pm_m big m_52 (n0 + 3) 0 [(0, .ref 8), (1, .int v0), (2, .int (Int8.toInt32 (Int8.ofInt (-4))))] [] G U = qm_run pm_m big m_52 n0 5 [(0, .ref 8), (1, .int v0), (2, .int (Int8.toInt32 (Int8.ofInt (-4))))] [.int v0, .ref 20] G U := rfl
theorem sg_ez_19 (big : Nat → List Value → qM → qW → qR) (n0 : Nat) (G : qM) (U : qW) (v0 : Int32) : qm_run pm_m big m_52 (n0 + 8) 8 [(0, .ref 8), (1, .int v0), (2, .int (Int8.toInt32 (Int8.ofInt (-4))))] [.int (1 : Int32)] G U = qm_run pm_m big m_52 n0 38 [(0, .ref 8), (1, .int v0), (2, .int (Int8.toInt32 (Int8.ofInt (-4))))] [.int v0, .ref 24] G U := rfl
theorem sg_ez_20 (big : Nat → List Value → qM → qW → qR) (n0 : Nat) (G : qM) (U : qW) (v0 : Int32) (v1 : Int32) : qm_run pm_m big m_52 (n0 + 6) 39 [(0, .ref 8), (1, .int v0), (2, .int (Int8.toInt32 (Int8.ofInt (-4))))] [.int v1] G U = qm_run pm_m big m_52 n0 49 [(0, .ref 8), (1, .int v0), (2, .int (Int8.toInt32 (Int8.ofInt (-4)))), (3, .int v1)] [.int (Int8.toInt32 (Int8.ofInt (-4))), .int v0, .ref 24] G U := rfl
theorem sg_ez_21 (big : Nat → List Value → qM → qW → qR) (n0 : Nat) (G : qM) (U : qW) (v0 : Int32) : qm_run pm_m big m_179 (n0 + 2) 0 [(0, .ref 70), (1, .int v0), (2, .int (Int8.toInt32 (Int8.ofInt (-4))))] [] G U = qm_run pm_m big m_179 n0 2 [(0, .ref 70), (1, .int v0), (2, .int (Int8.toInt32 (Int8.ofInt (-4))))] [.int v0, .ref 70] G U := rfl
theorem sg_ez_22 (big : Nat → List Value → qM → qW → qR) (n0 : Nat) (G : qM) (U : qW) (v0 : Int32) : qm_run pm_m big m_179 (n0 + 9) 5 [(0, .ref 70), (1, .int v0), (2, .int (Int8.toInt32 (Int8.ofInt (-4))))] [.int (1 : Int32)] G U = qm_run pm_m big m_179 n0 28 [(0, .ref 70), (1, .int v0), (2, .int (Int8.toInt32 (Int8.ofInt (-4))))] [.int (Int8.toInt32 (Int8.ofInt (-4))), .int ((15 : Int32) + v0), .ref 70] G U := rfl
theorem sg_ez_23 (big : Nat → List Value → qM → qW → qR) (n0 : Nat) (G : qM) (U : qW) (v0 : Int32) (v1 : Int32) : qm_run pm_m big m_52 (n0 + 3) 0 [(0, .ref 8), (1, .int v0), (2, .int v1)] [] G U = qm_run pm_m big m_52 n0 5 [(0, .ref 8), (1, .int v0), (2, .int v1)] [.int v0, .ref 20] G U := rfl
theorem sg_ez_24 (big : Nat → List Value → qM → qW → qR) (n0 : Nat) (G : qM) (U : qW) (v0 : Int32) (v1 : Int32) : qm_run pm_m big m_52 (n0 + 3) 8 [(0, .ref 8), (1, .int v0), (2, .int v1)] [.int (1 : Int32)] G U = qm_run pm_m big m_52 n0 14 [(0, .ref 8), (1, .int v0), (2, .int v1)] [.int (Int8.toInt32 (Int8.ofInt (-4))), .int v1] G U := rfl
theorem sg_ez_25 (big : Nat → List Value → qM → qW → qR) (n0 : Nat) (G : qM) (U : qW) (v0 : Int32) (v1 : Int32) : qm_run pm_m big m_52 (n0 + 3) 17 [(0, .ref 8), (1, .int v0), (2, .int v1)] [] G U = qm_run pm_m big m_52 n0 22 [(0, .ref 8), (1, .int v0), (2, .int v1)] [.int v1, .ref 20] G U := rfl
theorem sg_ez_26 (big : Nat → List Value → qM → qW → qR) (n0 : Nat) (G : qM) (U : qW) (v0 : Int32) (v1 : Int32) : qm_run pm_m big m_52 (n0 + 5) 25 [(0, .ref 8), (1, .int v0), (2, .int v1)] [.int (1 : Int32)] G U = qm_run pm_m big m_52 n0 38 [(0, .ref 8), (1, .int v0), (2, .int v1)] [.int v0, .ref 24] G U := rfl
theorem sg_ez_27 (big : Nat → List Value → qM → qW → qR) (n0 : Nat) (G : qM) (U : qW) (v0 : Int32) (v1 : Int32) (v2 : Int32) : qm_run pm_m big m_52 (n0 + 6) 39 [(0, .ref 8), (1, .int v0), (2, .int v1)] [.int v2] G U = qm_run pm_m big m_52 n0 49 [(0, .ref 8), (1, .int v0), (2, .int v1), (3, .int v2)] [.int v1, .int v0, .ref 24] G U := rfl
theorem sg_ez_28 (big : Nat → List Value → qM → qW → qR) (n0 : Nat) (G : qM) (U : qW) (v0 : Int32) (v1 : Int32) : qm_run pm_m big m_179 (n0 + 2) 0 [(0, .ref 70), (1, .int v0), (2, .int v1)] [] G U = qm_run pm_m big m_179 n0 2 [(0, .ref 70), (1, .int v0), (2, .int v1)] [.int v0, .ref 70] G U := rfl
theorem sg_ez_29 (big : Nat → List Value → qM → qW → qR) (n0 : Nat) (G : qM) (U : qW) (v0 : Int32) (v1 : Int32) : qm_run pm_m big m_179 (n0 + 3) 5 [(0, .ref 70), (1, .int v0), (2, .int v1)] [.int (1 : Int32)] G U = qm_run pm_m big m_179 n0 11 [(0, .ref 70), (1, .int v0), (2, .int v1)] [.int (Int8.toInt32 (Int8.ofInt (-4))), .int v1] G U := rfl
theorem sg_ez_30 (big : Nat → List Value → qM → qW → qR) (n0 : Nat) (G : qM) (U : qW) (v0 : Int32) (v1 : Int32) : qm_run pm_m big m_179 (n0 + 2) 14 [(0, .ref 70), (1, .int v0), (2, .int v1)] [] G U = qm_run pm_m big m_179 n0 16 [(0, .ref 70), (1, .int v0), (2, .int v1)] [.int v1, .ref 70] G U := rfl
theorem sg_ez_31 (big : Nat → List Value → qM → qW → qR) (n0 : Nat) (G : qM) (U : qW) (v0 : Int32) (v1 : Int32) : qm_run pm_m big m_179 (n0 + 6) 19 [(0, .ref 70), (1, .int v0), (2, .int v1)] [.int (1 : Int32)] G U = qm_run pm_m big m_179 n0 28 [(0, .ref 70), (1, .int v0), (2, .int v1)] [.int v1, .int ((15 : Int32) + v0), .ref 70] G U := rfl
theorem sg_ez_32 (big : Nat → List Value → qM → qW → qR) (n0 : Nat) (G : qM) (U : qW) (v0 : Int32) (v1 : Int32) : qm_run pm_m big m_54 (n0 + 2) 0 [(0, .ref 8), (1, .int v0), (2, .int v1)] [] G U = qm_run pm_m big m_54 n0 2 [(0, .ref 8), (1, .int v0), (2, .int v1)] [.int (1 : Int32), .int v0] G U := rfl
theorem sg_ez_33 (big : Nat → List Value → qM → qW → qR) (n0 : Nat) (G : qM) (U : qW) (v0 : Int32) (v1 : Int32) : qm_run pm_m big m_54 (n0 + 2) 5 [(0, .ref 8), (1, .int v0), (2, .int v1)] [] G U = qm_run pm_m big m_54 n0 7 [(0, .ref 8), (1, .int v0), (2, .int v1)] [.int (4 : Int32), .int v0] G U := rfl
theorem sg_ez_34 (big : Nat → List Value → qM → qW → qR) (n0 : Nat) (G : qM) (U : qW) (v0 : Int32) (v1 : Int32) : qm_run pm_m big m_54 (n0 + 1) 10 [(0, .ref 8), (1, .int v0), (2, .int v1)] [] G U = qm_run pm_m big m_54 n0 11 [(0, .ref 8), (1, .int v0), (2, .int v1)] [.int v1] G U := rfl
theorem sg_ez_35 (big : Nat → List Value → qM → qW → qR) (n0 : Nat) (G : qM) (U : qW) (v0 : Int32) (v1 : Int32) : qm_run pm_m big m_54 (n0 + 2) 14 [(0, .ref 8), (1, .int v0), (2, .int v1)] [] G U = qm_run pm_m big m_54 n0 17 [(0, .ref 8), (1, .int v0), (2, .int v1)] [.int (9 : Int32), .int v1] G U := rfl
theorem sg_ez_36 (big : Nat → List Value → qM → qW → qR) (n0 : Nat) (G : qM) (U : qW) (v0 : Int32) (v1 : Int32) : qm_run pm_m big m_54 (n0 + 4) 22 [(0, .ref 8), (1, .int v0), (2, .int v1)] [] G U = qm_run pm_m big m_54 n0 30 [(0, .ref 8), (1, .int v0), (2, .int v1)] [.int v0, .ref 25] G U := rfl
theorem sg_ez_37 (big : Nat → List Value → qM → qW → qR) (n0 : Nat) (G : qM) (U : qW) (v0 : Int32) (v1 : Int32) (v2 : Int32) : qm_run pm_m big m_54 (n0 + 6) 31 [(0, .ref 8), (1, .int v0), (2, .int v1)] [.int v2] G U = qm_run pm_m big m_54 n0 41 [(0, .ref 8), (1, .int v0), (2, .int v1), (3, .int v2)] [.int v1, .int v0, .ref 25] G U := rfl
theorem sg_ez_38 (big : Nat → List Value → qM → qW → qR) (n0 : Nat) (G : qM) (U : qW) (v0 : Int32) (v1 : Int32) : qm_run pm_m big m_181 (n0 + 4) 0 [(0, .ref 70), (1, .int v0), (2, .int v1)] [] G U = qm_run pm_m big m_181 n0 6 [(0, .ref 70), (1, .int v0), (2, .int v1)] [.long (4 : Int64), .long (1 : Int64), .long (Int32.toInt64 v0)] G U := rfl
theorem sg_ez_39 (big : Nat → List Value → qM → qW → qR) (n0 : Nat) (G : qM) (U : qW) (v0 : Int32) (v1 : Int32) : qm_run pm_m big m_181 (n0 + 5) 9 [(0, .ref 70), (1, .int v0), (2, .int v1)] [.int (1 : Int32)] G U = qm_run pm_m big m_181 n0 18 [(0, .ref 70), (1, .int v0), (2, .int v1)] [.long (9 : Int64), .long (0 : Int64), .long (Int32.toInt64 v1)] G U := rfl
theorem sg_ez_40 (big : Nat → List Value → qM → qW → qR) (n0 : Nat) (G : qM) (U : qW) (v0 : Int32) (v1 : Int32) : qm_run pm_m big m_181 (n0 + 8) 21 [(0, .ref 70), (1, .int v0), (2, .int v1)] [.int (1 : Int32)] G U = qm_run pm_m big m_181 n0 32 [(0, .ref 70), (1, .int v0), (2, .int v1)] [.int v1, .int (((21 : Int32) + v0) - (1 : Int32)), .ref 70] G U := rfl
theorem sg_ez_41 (big : Nat → List Value → qM → qW → qR) (n0 : Nat) (G : qM) (U : qW) (v0 : Int32) : qm_run pm_m big m_55 (n0 + 1) 0 [(0, .ref 8), (1, .int v0)] [] G U = qm_run pm_m big m_55 n0 1 [(0, .ref 8), (1, .int v0)] [.int v0] G U := rfl
theorem sg_ez_42 (big : Nat → List Value → qM → qW → qR) (n0 : Nat) (G : qM) (U : qW) (v0 : Int32) : qm_run pm_m big m_55 (n0 + 2) 4 [(0, .ref 8), (1, .int v0)] [] G U = qm_run pm_m big m_55 n0 6 [(0, .ref 8), (1, .int v0)] [.int (4 : Int32), .int v0] G U := rfl
theorem sg_ez_43 (big : Nat → List Value → qM → qW → qR) (n0 : Nat) (G : qM) (U : qW) (v0 : Int32) : qm_run pm_m big m_182 (n0 + 4) 0 [(0, .ref 70), (1, .int v0)] [] G U = qm_run pm_m big m_182 n0 6 [(0, .ref 70), (1, .int v0)] [.long (4 : Int64), .long (0 : Int64), .long (Int32.toInt64 v0)] G U := rfl
theorem sg_ez_44 (big : Nat → List Value → qM → qW → qR) (n0 : Nat) (G : qM) (U : qW) (v0 : Int32) : qm_run pm_m big m_182 (n0 + 4) 9 [(0, .ref 70), (1, .int v0)] [.int (1 : Int32)] G U = qm_run pm_m big m_182 n0 16 [(0, .ref 70), (1, .int v0)] [.int v0, .int (25 : Int32), .ref 70] G U := rfl
theorem sg_ez_45 (big : Nat → List Value → qM → qW → qR) (n0 : Nat) (G : qM) (U : qW) (v0 : Int32) : qm_run pm_m big m_46 (n0 + 3) 0 [(0, .ref 8), (1, .int v0)] [] G U = qm_run pm_m big m_46 n0 5 [(0, .ref 8), (1, .int v0)] [.int v0, .ref 20] G U := rfl
theorem sg_ez_46 (big : Nat → List Value → qM → qW → qR) (n0 : Nat) (G : qM) (U : qW) (v0 : Int32) : qm_run pm_m big m_46 (n0 + 4) 8 [(0, .ref 8), (1, .int v0)] [.int (1 : Int32)] G U = qm_run pm_m big m_46 n0 16 [(0, .ref 8), (1, .int v0)] [.int v0, .ref 20] G U := rfl
theorem sg_ez_47 (big : Nat → List Value → qM → qW → qR) (n0 : Nat) (G : qM) (U : qW) (v0 : Int32) : qm_run pm_m big m_170 (n0 + 2) 0 [(0, .ref 70), (1, .int v0)] [] G U = qm_run pm_m big m_170 n0 2 [(0, .ref 70), (1, .int v0)] [.int v0, .ref 70] G U := rfl
theorem sg_ez_48 (big : Nat → List Value → qM → qW → qR) (n0 : Nat) (G : qM) (U : qW) (v0 : Int32) : qm_run pm_m big m_170 (n0 + 2) 5 [(0, .ref 70), (1, .int v0)] [.int (1 : Int32)] G U = qm_run pm_m big m_170 n0 11 [(0, .ref 70), (1, .int v0)] [.ref 70] G U := rfl
theorem sg_ez_49 (big : Nat → List Value → qM → qW → qR) (n0 : Nat) (G : qM) (U : qW) (v0 : Int32) : qm_run pm_m big m_170 (n0 + 2) 14 [(0, .ref 70), (1, .int v0)] [] G U = qm_run pm_m big m_170 n0 16 [(0, .ref 70), (1, .int v0)] [.int v0, .ref 70] G U := rfl
theorem sg_ez_50 (big : Nat → List Value → qM → qW → qR) (n0 : Nat) (G : qM) (U : qW) (v0 : Int32) (v1 : Int32) : qm_run pm_m big m_49 (n0 + 3) 0 [(0, .ref 8), (1, .int v0), (2, .int v1)] [] G U = qm_run pm_m big m_49 n0 5 [(0, .ref 8), (1, .int v0), (2, .int v1)] [.int v0, .ref 20] G U := rfl
theorem sg_ez_51 (big : Nat → List Value → qM → qW → qR) (n0 : Nat) (G : qM) (U : qW) (v0 : Int32) (v1 : Int32) : qm_run pm_m big m_49 (n0 + 4) 8 [(0, .ref 8), (1, .int v0), (2, .int v1)] [.int (1 : Int32)] G U = qm_run pm_m big m_49 n0 16 [(0, .ref 8), (1, .int v0), (2, .int v1)] [.int v1, .ref 20] G U := rfl
theorem sg_ez_52 (big : Nat → List Value → qM → qW → qR) (n0 : Nat) (G : qM) (U : qW) (v0 : Int32) (v1 : Int32) : qm_run pm_m big m_49 (n0 + 5) 19 [(0, .ref 8), (1, .int v0), (2, .int v1)] [.int (1 : Int32)] G U = qm_run pm_m big m_49 n0 28 [(0, .ref 8), (1, .int v0), (2, .int v1)] [.int v1, .int v0, .ref 20] G U := rfl
theorem sg_ez_53 (big : Nat → List Value → qM → qW → qR) (n0 : Nat) (G : qM) (U : qW) (v0 : Int32) (v1 : Int32) : qm_run pm_m big m_49 (n0 + 5) 31 [(0, .ref 8), (1, .int v0), (2, .int v1)] [.int (1 : Int32)] G U = qm_run pm_m big m_49 n0 44 [(0, .ref 8), (1, .int v0), (2, .int v1)] [.int v0, .ref 21] G U := rfl
theorem sg_ez_54 (big : Nat → List Value → qM → qW → qR) (n0 : Nat) (G : qM) (U : qW) (v0 : Int32) (v1 : Int32) (v2 : Int32) : qm_run pm_m big m_49 (n0 + 6) 45 [(0, .ref 8), (1, .int v0), (2, .int v1)] [.int v2] G U = qm_run pm_m big m_49 n0 55 [(0, .ref 8), (1, .int v0), (2, .int v1), (3, .int v2)] [.int v1, .int v0, .ref 21] G U := rfl
theorem sg_ez_55 (big : Nat → List Value → qM → qW → qR) (n0 : Nat) (G : qM) (U : qW) (v0 : Int32) (v1 : Int32) : qm_run pm_m big m_176 (n0 + 2) 0 [(0, .ref 70), (1, .int v0), (2, .int v1)] [] G U = qm_run pm_m big m_176 n0 2 [(0, .ref 70), (1, .int v0), (2, .int v1)] [.int v0, .ref 70] G U := rfl
theorem sg_ez_56 (big : Nat → List Value → qM → qW → qR) (n0 : Nat) (G : qM) (U : qW) (v0 : Int32) (v1 : Int32) : qm_run pm_m big m_176 (n0 + 3) 5 [(0, .ref 70), (1, .int v0), (2, .int v1)] [.int (1 : Int32)] G U = qm_run pm_m big m_176 n0 10 [(0, .ref 70), (1, .int v0), (2, .int v1)] [.int v1, .ref 70] G U := rfl
theorem sg_ez_57 (big : Nat → List Value → qM → qW → qR) (n0 : Nat) (G : qM) (U : qW) (v0 : Int32) (v1 : Int32) : qm_run pm_m big m_176 (n0 + 2) 13 [(0, .ref 70), (1, .int v0), (2, .int v1)] [.int (1 : Int32)] G U = qm_run pm_m big m_176 n0 19 [(0, .ref 70), (1, .int v0), (2, .int v1)] [.ref 70] G U := rfl
theorem sg_ez_58 (big : Nat → List Value → qM → qW → qR) (n0 : Nat) (G : qM) (U : qW) (v0 : Int32) (v1 : Int32) : qm_run pm_m big m_176 (n0 + 2) 22 [(0, .ref 70), (1, .int v0), (2, .int v1)] [] G U = qm_run pm_m big m_176 n0 24 [(0, .ref 70), (1, .int v0), (2, .int v1)] [.int v1, .ref 70] G U := rfl
theorem sg_ez_59 (big : Nat → List Value → qM → qW → qR) (n0 : Nat) (G : qM) (U : qW) (v0 : Int32) (v1 : Int32) (v2 : Int32) : qm_run pm_m big m_176 (n0 + 3) 27 [(0, .ref 70), (1, .int v0), (2, .int v1)] [.int v2] G U = qm_run pm_m big m_176 n0 30 [(0, .ref 70), (1, .int v0), (2, .int v1), (3, .int v2)] [.int v1, .ref 70] G U := rfl
theorem sg_ez_60 (big : Nat → List Value → qM → qW → qR) (n0 : Nat) (G : qM) (U : qW) (v0 : Int32) (v1 : Int32) (v2 : Int32) : qm_run pm_m big m_176 (n0 + 2) 36 [(0, .ref 70), (1, .int v0), (2, .int v1), (3, .int v2)] [] G U = qm_run pm_m big m_176 n0 39 [(0, .ref 70), (1, .int v0), (2, .int v1), (3, .int v2)] [.int (Int8.toInt32 (Int8.ofInt (-4))), .int v2] G U := rfl
theorem sg_ez_61 (big : Nat → List Value → qM → qW → qR) (n0 : Nat) (G : qM) (U : qW) (v0 : Int32) (v1 : Int32) (v2 : Int32) : qm_run pm_m big m_176 (n0 + 5) 47 [(0, .ref 70), (1, .int v0), (2, .int v1), (3, .int v2)] [] G U = qm_run pm_m big m_176 n0 52 [(0, .ref 70), (1, .int v0), (2, .int v1), (3, .int v2)] [.int v1, .int ((0 : Int32) + v0), .ref 70] G U := rfl
theorem sg_ez_62 (big : Nat → List Value → qM → qW → qR) (n0 : Nat) (G : qM) (U : qW) (v0 : Int32) (v1 : Int32) (v2 : Int32) : qm_run pm_m big m_176 (n0 + 2) 42 [(0, .ref 70), (1, .int v0), (2, .int v1), (3, .int v2)] [] G U = qm_run pm_m big m_176 n0 44 [(0, .ref 70), (1, .int v0), (2, .int v1), (3, .int v2)] [.int v0, .int v2] G U := rfl
theorem sg_ez_63 (big : Nat → List Value → qM → qW → qR) (n0 : Nat) (G : qM) (U : qW) (v0 : Int32) : qm_run pm_m big m_53 (n0 + 3) 0 [(0, .ref 8), (1, .int v0), (2, .int (0 : Int32))] [] G U = qm_run pm_m big m_53 n0 5 [(0, .ref 8), (1, .int v0), (2, .int (0 : Int32))] [.int v0, .ref 20] G U := rfl
theorem sg_ez_64 (big : Nat → List Value → qM → qW → qR) (n0 : Nat) (G : qM) (U : qW) (v0 : Int32) : qm_run pm_m big m_53 (n0 + 4) 8 [(0, .ref 8), (1, .int v0), (2, .int (0 : Int32))] [.int (1 : Int32)] G U = qm_run pm_m big m_53 n0 16 [(0, .ref 8), (1, .int v0), (2, .int (0 : Int32))] [.int v0, .ref 20] G U := rfl
theorem sg_ez_65 (big : Nat → List Value → qM → qW → qR) (n0 : Nat) (G : qM) (U : qW) (v0 : Int32) (v1 : Int32) : qm_run pm_m big m_53 (n0 + 1) 19 [(0, .ref 8), (1, .int v0), (2, .int (0 : Int32))] [.int v1] G U = qm_run pm_m big m_53 n0 21 [(0, .ref 8), (1, .int v0), (2, .int (0 : Int32))] [.int (Int8.toInt32 (Int8.ofInt (-4))), .int v1] G U := rfl
theorem sg_ez_66 (big : Nat → List Value → qM → qW → qR) (n0 : Nat) (G : qM) (U : qW) (v0 : Int32) : qm_run pm_m big m_180 (n0 + 2) 0 [(0, .ref 70), (1, .int v0), (2, .int (0 : Int32))] [] G U = qm_run pm_m big m_180 n0 2 [(0, .ref 70), (1, .int v0), (2, .int (0 : Int32))] [.int v0, .ref 70] G U := rfl
theorem sg_ez_67 (big : Nat → List Value → qM → qW → qR) (n0 : Nat) (G : qM) (U : qW) (v0 : Int32) : qm_run pm_m big m_180 (n0 + 2) 5 [(0, .ref 70), (1, .int v0), (2, .int (0 : Int32))] [.int (1 : Int32)] G U = qm_run pm_m big m_180 n0 11 [(0, .ref 70), (1, .int v0), (2, .int (0 : Int32))] [.ref 70] G U := rfl
theorem sg_ez_68 (big : Nat → List Value → qM → qW → qR) (n0 : Nat) (G : qM) (U : qW) (v0 : Int32) : qm_run pm_m big m_180 (n0 + 2) 14 [(0, .ref 70), (1, .int v0), (2, .int (0 : Int32))] [] G U = qm_run pm_m big m_180 n0 16 [(0, .ref 70), (1, .int v0), (2, .int (0 : Int32))] [.int v0, .ref 70] G U := rfl
theorem sg_ez_69 (big : Nat → List Value → qM → qW → qR) (n0 : Nat) (G : qM) (U : qW) (v0 : Int32) (v1 : Int32) : qm_run pm_m big m_180 (n0 + 1) 19 [(0, .ref 70), (1, .int v0), (2, .int (0 : Int32))] [.int v1] G U = qm_run pm_m big m_180 n0 21 [(0, .ref 70), (1, .int v0), (2, .int (0 : Int32))] [.int (Int8.toInt32 (Int8.ofInt (-4))), .int v1] G U := rfl
theorem sg_ez_70 (big : Nat → List Value → qM → qW → qR) (n0 : Nat) (G : qM) (U : qW) (v0 : Int32) : qm_run pm_m big m_53 (n0 + 3) 26 [(0, .ref 8), (1, .int v0), (2, .int (0 : Int32))] [] G U = qm_run pm_m big m_53 n0 31 [(0, .ref 8), (1, .int v0), (2, .int (0 : Int32))] [.int v0, .ref 20] G U := rfl
theorem sg_ez_71 (big : Nat → List Value → qM → qW → qR) (n0 : Nat) (G : qM) (U : qW) (v0 : Int32) : qm_run pm_m big m_53 (n0 + 3) 0 [(0, .ref 8), (1, .int v0), (2, .int (1 : Int32))] [] G U = qm_run pm_m big m_53 n0 5 [(0, .ref 8), (1, .int v0), (2, .int (1 : Int32))] [.int v0, .ref 20] G U := rfl
theorem sg_ez_72 (big : Nat → List Value → qM → qW → qR) (n0 : Nat) (G : qM) (U : qW) (v0 : Int32) : qm_run pm_m big m_53 (n0 + 4) 8 [(0, .ref 8), (1, .int v0), (2, .int (1 : Int32))] [.int (1 : Int32)] G U = qm_run pm_m big m_53 n0 16 [(0, .ref 8), (1, .int v0), (2, .int (1 : Int32))] [.int v0, .ref 20] G U := rfl
theorem sg_ez_73 (big : Nat → List Value → qM → qW → qR) (n0 : Nat) (G : qM) (U : qW) (v0 : Int32) (v1 : Int32) : qm_run pm_m big m_53 (n0 + 1) 19 [(0, .ref 8), (1, .int v0), (2, .int (1 : Int32))] [.int v1] G U = qm_run pm_m big m_53 n0 21 [(0, .ref 8), (1, .int v0), (2, .int (1 : Int32))] [.int (Int8.toInt32 (Int8.ofInt (-4))), .int v1] G U := rfl
theorem sg_ez_74 (big : Nat → List Value → qM → qW → qR) (n0 : Nat) (G : qM) (U : qW) (v0 : Int32) : qm_run pm_m big m_180 (n0 + 2) 0 [(0, .ref 70), (1, .int v0), (2, .int (1 : Int32))] [] G U = qm_run pm_m big m_180 n0 2 [(0, .ref 70), (1, .int v0), (2, .int (1 : Int32))] [.int v0, .ref 70] G U := rfl
theorem sg_ez_75 (big : Nat → List Value → qM → qW → qR) (n0 : Nat) (G : qM) (U : qW) (v0 : Int32) : qm_run pm_m big m_180 (n0 + 2) 5 [(0, .ref 70), (1, .int v0), (2, .int (1 : Int32))] [.int (1 : Int32)] G U = qm_run pm_m big m_180 n0 11 [(0, .ref 70), (1, .int v0), (2, .int (1 : Int32))] [.ref 70] G U := rfl
theorem sg_ez_76 (big : Nat → List Value → qM → qW → qR) (n0 : Nat) (G : qM) (U : qW) (v0 : Int32) : qm_run pm_m big m_180 (n0 + 2) 14 [(0, .ref 70), (1, .int v0), (2, .int (1 : Int32))] [] G U = qm_run pm_m big m_180 n0 16 [(0, .ref 70), (1, .int v0), (2, .int (1 : Int32))] [.int v0, .ref 70] G U := rfl
theorem sg_ez_77 (big : Nat → List Value → qM → qW → qR) (n0 : Nat) (G : qM) (U : qW) (v0 : Int32) (v1 : Int32) : qm_run pm_m big m_180 (n0 + 1) 19 [(0, .ref 70), (1, .int v0), (2, .int (1 : Int32))] [.int v1] G U = qm_run pm_m big m_180 n0 21 [(0, .ref 70), (1, .int v0), (2, .int (1 : Int32))] [.int (Int8.toInt32 (Int8.ofInt (-4))), .int v1] G U := rfl
theorem sg_ez_78 (big : Nat → List Value → qM → qW → qR) (n0 : Nat) (G : qM) (U : qW) (v0 : Int32) : qm_run pm_m big m_53 (n0 + 3) 26 [(0, .ref 8), (1, .int v0), (2, .int (1 : Int32))] [] G U = qm_run pm_m big m_53 n0 31 [(0, .ref 8), (1, .int v0), (2, .int (1 : Int32))] [.int v0, .ref 20] G U := rfl
theorem sg_ez_79 (big : Nat → List Value → qM → qW → qR) (n0 : Nat) (G : qM) (U : qW) (v0 : Int32) (v1 : Int32) : qm_run pm_m big m_118 (n0 + 3) 0 [(0, .ref 8), (1, .int v0), (2, .int v1)] [] G U = qm_run pm_m big m_118 n0 5 [(0, .ref 8), (1, .int v0), (2, .int v1)] [.int v0, .ref 20] G U := rfl
theorem sg_ez_80 (big : Nat → List Value → qM → qW → qR) (n0 : Nat) (G : qM) (U : qW) (v0 : Int32) (v1 : Int32) : qm_run pm_m big m_118 (n0 + 2) 8 [(0, .ref 8), (1, .int v0), (2, .int v1)] [.int (1 : Int32)] G U = qm_run pm_m big m_118 n0 12 [(0, .ref 8), (1, .int v0), (2, .int v1)] [.int v1] G U := rfl
theorem sg_ez_81 (big : Nat → List Value → qM → qW → qR) (n0 : Nat) (G : qM) (U : qW) (v0 : Int32) (v1 : Int32) : qm_run pm_m big m_118 (n0 + 2) 15 [(0, .ref 8), (1, .int v0), (2, .int v1)] [] G U = qm_run pm_m big m_118 n0 17 [(0, .ref 8), (1, .int v0), (2, .int v1)] [.int (4 : Int32), .int v1] G U := rfl
theorem sg_ez_82 (big : Nat → List Value → qM → qW → qR) (n0 : Nat) (G : qM) (U : qW) (v0 : Int32) (v1 : Int32) : qm_run pm_m big m_118 (n0 + 4) 22 [(0, .ref 8), (1, .int v0), (2, .int v1)] [] G U = qm_run pm_m big m_118 n0 31 [(0, .ref 8), (1, .int v0), (2, .int v1)] [.int (8 : Int32), .int (G 20 6)] G U := rfl
theorem sg_ez_83 (big : Nat → List Value → qM → qW → qR) (n0 : Nat) (G : qM) (U : qW) (v0 : Int32) (v1 : Int32) : qm_run pm_m big m_118 (n0 + 7) 37 [(0, .ref 8), (1, .int v0), (2, .int v1)] [] G U = qm_run pm_m big m_118 n0 52 [(0, .ref 8), (1, .int v0), (2, .int v1)] [.int v0, .int (G 20 6), .ref 26] G U := rfl
theorem sg_ez_84 (big : Nat → List Value → qM → qW → qR) (n0 : Nat) (G : qM) (U : qW) (v0 : Int32) (v1 : Int32) : qm_run pm_m big m_118 (n0 + 7) 53 [(0, .ref 8), (1, .int v0), (2, .int v1)] [] G U = qm_run pm_m big m_118 n0 68 [(0, .ref 8), (1, .int v0), (2, .int v1)] [.int v1, .int (G 20 6), .ref 27] G U := rfl
theorem sg_ez_85 (big : Nat → List Value → qM → qW → qR) (n0 : Nat) (G : qM) (U : qW) (v0 : Int32) (v1 : Int32) : qm_run pm_m big m_212 (n0 + 2) 0 [(0, .ref 70), (1, .int v0), (2, .int v1)] [] G U = qm_run pm_m big m_212 n0 2 [(0, .ref 70), (1, .int v0), (2, .int v1)] [.int v0, .ref 70] G U := rfl
theorem sg_ez_86 (big : Nat → List Value → qM → qW → qR) (n0 : Nat) (G : qM) (U : qW) (v0 : Int32) (v1 : Int32) : qm_run pm_m big m_212 (n0 + 5) 5 [(0, .ref 70), (1, .int v0), (2, .int v1)] [.int (1 : Int32)] G U = qm_run pm_m big m_212 n0 14 [(0, .ref 70), (1, .int v0), (2, .int v1)] [.long (4 : Int64), .long (0 : Int64), .long (Int32.toInt64 v1)] G U := rfl
theorem sg_ez_87 (big : Nat → List Value → qM → qW → qR) (n0 : Nat) (G : qM) (U : qW) (v0 : Int32) (v1 : Int32) : qm_run pm_m big m_212 (n0 + 6) 17 [(0, .ref 70), (1, .int v0), (2, .int v1)] [.int (1 : Int32)] G U = qm_run pm_m big m_212 n0 31 [(0, .ref 70), (1, .int v0), (2, .int v1)] [.int (8 : Int32), .int (G 71 27)] G U := rfl
theorem sg_ez_88 (big : Nat → List Value → qM → qW → qR) (n0 : Nat) (G : qM) (U : qW) (v0 : Int32) (v1 : Int32) : qm_run pm_m big m_212 (n0 + 11) 37 [(0, .ref 70), (1, .int v0), (2, .int v1)] [] G U = qm_run pm_m big m_212 n0 54 [(0, .ref 70), (1, .int v0), (2, .int v1)] [.int v0, .int ((28 : Int32) + ((2 : Int32) * (G 71 27))), .ref 71] G U := rfl
theorem sg_ez_89 (big : Nat → List Value → qM → qW → qR) (n0 : Nat) (G : qM) (U : qW) (v0 : Int32) (v1 : Int32) : qm_run pm_m big m_212 (n0 + 13) 55 [(0, .ref 70), (1, .int v0), (2, .int v1)] [] G U = qm_run pm_m big m_212 n0 74 [(0, .ref 70), (1, .int v0), (2, .int v1)] [.int v1, .int (((28 : Int32) + ((2 : Int32) * (G 71 27))) + (1 : Int32)), .ref 71] G U := rfl
theorem sg_ez_90 (big : Nat → List Value → qM → qW → qR) (n0 : Nat) (G : qM) (U : qW) : qm_run pm_m big m_167 (n0 + 8) 0 [(0, .ref 70), (1, .int (11 : Int32))] [] G U = qm_run pm_m big m_167 n0 88 [(0, .ref 70), (1, .int (11 : Int32))] [.long (4 : Int64), .long (1 : Int64), .long (1 : Int64)] G U := rfl
theorem sg_ez_91 (big : Nat → List Value → qM → qW → qR) (n0 : Nat) (G : qM) (U : qW) : qm_run pm_m big m_167 (n0 + 8) 0 [(0, .ref 70), (1, .int (12 : Int32))] [] G U = qm_run pm_m big m_167 n0 88 [(0, .ref 70), (1, .int (12 : Int32))] [.long (4 : Int64), .long (1 : Int64), .long (2 : Int64)] G U := rfl
theorem sg_ez_92 (big : Nat → List Value → qM → qW → qR) (n0 : Nat) (G : qM) (U : qW) : qm_run pm_m big m_167 (n0 + 8) 0 [(0, .ref 70), (1, .int (13 : Int32))] [] G U = qm_run pm_m big m_167 n0 88 [(0, .ref 70), (1, .int (13 : Int32))] [.long (4 : Int64), .long (1 : Int64), .long (3 : Int64)] G U := rfl
theorem sg_ez_93 (big : Nat → List Value → qM → qW → qR) (n0 : Nat) (G : qM) (U : qW) : qm_run pm_m big m_167 (n0 + 8) 0 [(0, .ref 70), (1, .int (14 : Int32))] [] G U = qm_run pm_m big m_167 n0 88 [(0, .ref 70), (1, .int (14 : Int32))] [.long (4 : Int64), .long (1 : Int64), .long (4 : Int64)] G U := rfl
theorem sg_ez_94 (big : Nat → List Value → qM → qW → qR) (n0 : Nat) (G : qM) (U : qW) (v0 : Int32) : qm_run pm_m big m_45 (n0 + 3) 0 [(0, .ref 8), (1, .int v0), (2, .int (0 : Int32))] [] G U = qm_run pm_m big m_45 n0 5 [(0, .ref 8), (1, .int v0), (2, .int (0 : Int32))] [.int v0, .ref 20] G U := rfl
theorem sg_ez_95 (big : Nat → List Value → qM → qW → qR) (n0 : Nat) (G : qM) (U : qW) (v0 : Int32) : qm_run pm_m big m_45 (n0 + 7) 8 [(0, .ref 8), (1, .int v0), (2, .int (0 : Int32))] [.int (1 : Int32)] G U = qm_run pm_m big m_45 n0 52 [(0, .ref 8), (1, .int v0), (2, .int (0 : Int32))] [.int v0, .ref 21] G U := rfl
theorem sg_ez_96 (big : Nat → List Value → qM → qW → qR) (n0 : Nat) (G : qM) (U : qW) (v0 : Int32) : qm_run pm_m big m_168 (n0 + 2) 0 [(0, .ref 70), (1, .int v0), (2, .int (0 : Int32))] [] G U = qm_run pm_m big m_168 n0 2 [(0, .ref 70), (1, .int v0), (2, .int (0 : Int32))] [.int v0, .ref 70] G U := rfl
theorem sg_ez_97 (big : Nat → List Value → qM → qW → qR) (n0 : Nat) (G : qM) (U : qW) (v0 : Int32) : qm_run pm_m big m_168 (n0 + 5) 5 [(0, .ref 70), (1, .int v0), (2, .int (0 : Int32))] [.int (1 : Int32)] G U = qm_run pm_m big m_168 n0 14 [(0, .ref 70), (1, .int v0), (2, .int (0 : Int32))] [.long (3 : Int64), .long (0 : Int64), .long (0 : Int64)] G U := rfl
theorem sg_ez_98 (big : Nat → List Value → qM → qW → qR) (n0 : Nat) (G : qM) (U : qW) (v0 : Int32) : qm_run pm_m big m_168 (n0 + 8) 17 [(0, .ref 70), (1, .int v0), (2, .int (0 : Int32))] [.int (1 : Int32)] G U = qm_run pm_m big m_168 n0 29 [(0, .ref 70), (1, .int v0), (2, .int (0 : Int32))] [.int ((0 : Int32) + v0), .ref 71] G U := rfl
theorem sg_ez_99 (big : Nat → List Value → qM → qW → qR) (n0 : Nat) (G : qM) (U : qW) (v0 : Int32) : qm_run pm_m big m_45 (n0 + 3) 0 [(0, .ref 8), (1, .int v0), (2, .int (1 : Int32))] [] G U = qm_run pm_m big m_45 n0 5 [(0, .ref 8), (1, .int v0), (2, .int (1 : Int32))] [.int v0, .ref 20] G U := rfl
theorem sg_ez_100 (big : Nat → List Value → qM → qW → qR) (n0 : Nat) (G : qM) (U : qW) (v0 : Int32) : qm_run pm_m big m_45 (n0 + 7) 8 [(0, .ref 8), (1, .int v0), (2, .int (1 : Int32))] [.int (1 : Int32)] G U = qm_run pm_m big m_45 n0 62 [(0, .ref 8), (1, .int v0), (2, .int (1 : Int32))] [.int v0, .ref 22] G U := rfl
theorem sg_ez_101 (big : Nat → List Value → qM → qW → qR) (n0 : Nat) (G : qM) (U : qW) (v0 : Int32) : qm_run pm_m big m_168 (n0 + 2) 0 [(0, .ref 70), (1, .int v0), (2, .int (1 : Int32))] [] G U = qm_run pm_m big m_168 n0 2 [(0, .ref 70), (1, .int v0), (2, .int (1 : Int32))] [.int v0, .ref 70] G U := rfl
theorem sg_ez_102 (big : Nat → List Value → qM → qW → qR) (n0 : Nat) (G : qM) (U : qW) (v0 : Int32) : qm_run pm_m big m_168 (n0 + 5) 5 [(0, .ref 70), (1, .int v0), (2, .int (1 : Int32))] [.int (1 : Int32)] G U = qm_run pm_m big m_168 n0 14 [(0, .ref 70), (1, .int v0), (2, .int (1 : Int32))] [.long (3 : Int64), .long (0 : Int64), .long (1 : Int64)] G U := rfl
theorem sg_ez_103 (big : Nat → List Value → qM → qW → qR) (n0 : Nat) (G : qM) (U : qW) (v0 : Int32) : qm_run pm_m big m_168 (n0 + 8) 17 [(0, .ref 70), (1, .int v0), (2, .int (1 : Int32))] [.int (1 : Int32)] G U = qm_run pm_m big m_168 n0 29 [(0, .ref 70), (1, .int v0), (2, .int (1 : Int32))] [.int ((5 : Int32) + v0), .ref 71] G U := rfl
theorem sg_ez_104 (big : Nat → List Value → qM → qW → qR) (n0 : Nat) (G : qM) (U : qW) (v0 : Int32) : qm_run pm_m big m_45 (n0 + 3) 0 [(0, .ref 8), (1, .int v0), (2, .int (2 : Int32))] [] G U = qm_run pm_m big m_45 n0 5 [(0, .ref 8), (1, .int v0), (2, .int (2 : Int32))] [.int v0, .ref 20] G U := rfl
theorem sg_ez_105 (big : Nat → List Value → qM → qW → qR) (n0 : Nat) (G : qM) (U : qW) (v0 : Int32) : qm_run pm_m big m_45 (n0 + 7) 8 [(0, .ref 8), (1, .int v0), (2, .int (2 : Int32))] [.int (1 : Int32)] G U = qm_run pm_m big m_45 n0 72 [(0, .ref 8), (1, .int v0), (2, .int (2 : Int32))] [.int v0, .ref 23] G U := rfl
theorem sg_ez_106 (big : Nat → List Value → qM → qW → qR) (n0 : Nat) (G : qM) (U : qW) (v0 : Int32) : qm_run pm_m big m_168 (n0 + 2) 0 [(0, .ref 70), (1, .int v0), (2, .int (2 : Int32))] [] G U = qm_run pm_m big m_168 n0 2 [(0, .ref 70), (1, .int v0), (2, .int (2 : Int32))] [.int v0, .ref 70] G U := rfl
theorem sg_ez_107 (big : Nat → List Value → qM → qW → qR) (n0 : Nat) (G : qM) (U : qW) (v0 : Int32) : qm_run pm_m big m_168 (n0 + 5) 5 [(0, .ref 70), (1, .int v0), (2, .int (2 : Int32))] [.int (1 : Int32)] G U = qm_run pm_m big m_168 n0 14 [(0, .ref 70), (1, .int v0), (2, .int (2 : Int32))] [.long (3 : Int64), .long (0 : Int64), .long (2 : Int64)] G U := rfl
theorem sg_ez_108 (big : Nat → List Value → qM → qW → qR) (n0 : Nat) (G : qM) (U : qW) (v0 : Int32) : qm_run pm_m big m_168 (n0 + 8) 17 [(0, .ref 70), (1, .int v0), (2, .int (2 : Int32))] [.int (1 : Int32)] G U = qm_run pm_m big m_168 n0 29 [(0, .ref 70), (1, .int v0), (2, .int (2 : Int32))] [.int ((10 : Int32) + v0), .ref 71] G U := rfl
theorem sg_ez_109 (big : Nat → List Value → qM → qW → qR) (n0 : Nat) (G : qM) (U : qW) (v0 : Int32) : qm_run pm_m big m_45 (n0 + 3) 0 [(0, .ref 8), (1, .int v0), (2, .int (3 : Int32))] [] G U = qm_run pm_m big m_45 n0 5 [(0, .ref 8), (1, .int v0), (2, .int (3 : Int32))] [.int v0, .ref 20] G U := rfl
theorem sg_ez_110 (big : Nat → List Value → qM → qW → qR) (n0 : Nat) (G : qM) (U : qW) (v0 : Int32) : qm_run pm_m big m_45 (n0 + 7) 8 [(0, .ref 8), (1, .int v0), (2, .int (3 : Int32))] [.int (1 : Int32)] G U = qm_run pm_m big m_45 n0 82 [(0, .ref 8), (1, .int v0), (2, .int (3 : Int32))] [.int v0, .ref 24] G U := rfl
theorem sg_ez_111 (big : Nat → List Value → qM → qW → qR) (n0 : Nat) (G : qM) (U : qW) (v0 : Int32) : qm_run pm_m big m_168 (n0 + 2) 0 [(0, .ref 70), (1, .int v0), (2, .int (3 : Int32))] [] G U = qm_run pm_m big m_168 n0 2 [(0, .ref 70), (1, .int v0), (2, .int (3 : Int32))] [.int v0, .ref 70] G U := rfl
theorem sg_ez_112 (big : Nat → List Value → qM → qW → qR) (n0 : Nat) (G : qM) (U : qW) (v0 : Int32) : qm_run pm_m big m_168 (n0 + 5) 5 [(0, .ref 70), (1, .int v0), (2, .int (3 : Int32))] [.int (1 : Int32)] G U = qm_run pm_m big m_168 n0 14 [(0, .ref 70), (1, .int v0), (2, .int (3 : Int32))] [.long (3 : Int64), .long (0 : Int64), .long (3 : Int64)] G U := rfl
theorem sg_ez_113 (big : Nat → List Value → qM → qW → qR) (n0 : Nat) (G : qM) (U : qW) (v0 : Int32) : qm_run pm_m big m_168 (n0 + 8) 17 [(0, .ref 70), (1, .int v0), (2, .int (3 : Int32))] [.int (1 : Int32)] G U = qm_run pm_m big m_168 n0 29 [(0, .ref 70), (1, .int v0), (2, .int (3 : Int32))] [.int ((15 : Int32) + v0), .ref 71] G U := rfl
theorem sg_ez_114 (big : Nat → List Value → qM → qW → qR) (n0 : Nat) (G : qM) (U : qW) : qm_run pm_m big m_128 (n0 + 18) 0 [(0, .ref 8), (1, .int (0 : Int32))] [] G U = qm_run pm_m big m_128 n0 30 [(0, .ref 8), (1, .int (0 : Int32)), (2, .int (((G 8 7) >>> ((0 : Int32) &&& 31)) &&& (1 : Int32)))] [.ref 20, .ref 45] G U := rfl
theorem sg_ez_115 (big : Nat → List Value → qM → qW → qR) (n0 : Nat) (G : qM) (U : qW) : qm_run pm_m big m_129 (n0 + 11) 0 [(0, .ref 8), (1, .int (0 : Int32))] [] G U = qm_run pm_m big m_129 n0 19 [(0, .ref 8), (1, .int (0 : Int32))] [.int (((G 8 7) >>> ((0 : Int32) &&& 31)) &&& (1 : Int32))] G U := rfl
theorem sg_ez_116 (big : Nat → List Value → qM → qW → qR) (n0 : Nat) (G : qM) (U : qW) : qm_run pm_m big m_129 (n0 + 6) 25 [(0, .ref 8), (1, .int (0 : Int32))] [] G U = qm_run pm_m big m_129 n0 35 [(0, .ref 8), (1, .int (0 : Int32))] [.ref 45, .ref 20] G U := rfl
theorem sg_ez_117 (big : Nat → List Value → qM → qW → qR) (n0 : Nat) (G : qM) (U : qW) : qm_run pm_m big m_128 (n0 + 18) 0 [(0, .ref 8), (1, .int (1 : Int32))] [] G U = qm_run pm_m big m_128 n0 30 [(0, .ref 8), (1, .int (1 : Int32)), (2, .int (((G 8 7) >>> ((1 : Int32) &&& 31)) &&& (1 : Int32)))] [.ref 20, .ref 53] G U := rfl
theorem sg_ez_118 (big : Nat → List Value → qM → qW → qR) (n0 : Nat) (G : qM) (U : qW) : qm_run pm_m big m_129 (n0 + 11) 0 [(0, .ref 8), (1, .int (1 : Int32))] [] G U = qm_run pm_m big m_129 n0 19 [(0, .ref 8), (1, .int (1 : Int32))] [.int (((G 8 7) >>> ((1 : Int32) &&& 31)) &&& (1 : Int32))] G U := rfl
theorem sg_ez_119 (big : Nat → List Value → qM → qW → qR) (n0 : Nat) (G : qM) (U : qW) : qm_run pm_m big m_129 (n0 + 6) 25 [(0, .ref 8), (1, .int (1 : Int32))] [] G U = qm_run pm_m big m_129 n0 35 [(0, .ref 8), (1, .int (1 : Int32))] [.ref 53, .ref 20] G U := rfl
theorem cg_mood {n : Nat} (g : qM) (u : qW) (hn : g 20 3 = Int32.ofNat n) (h6 : n ≤ 6) {p : Nat} (hp : p < n) {m : Nat} (hm : m ≤ 3) : q_BS 47 [.ref 8, .int (Int32.ofNat p), .int (Int32.ofNat m)] g u (some (.int (g 22 p)), q_up g 22 p (Int32.ofNat m), u) := by
  refine q_bx (mm := m_47) rfl (Nat.le_of_ble_eq_true rfl) rfl ?_
  refine q_step 3 5 [(0, .ref 8), (1, .int (Int32.ofNat p)), (2, .int (Int32.ofNat m))] [.int (Int32.ofNat p), .ref 20] g u (fun big n0 => sg_ez_1 big n0 g u (Int32.ofNat p) (Int32.ofNat m)) ?_
  refine q_call (M2 := 40) (rest := []) (b_hasOne1 g u hn h6 hp) (fun _ _ => rfl) ?_
  refine q_step 2 12 [(0, .ref 8), (1, .int (Int32.ofNat p)), (2, .int (Int32.ofNat m))] [.int (Int32.ofNat m)] g u (fun big n0 => sg_ez_2 big n0 g u (Int32.ofNat p) (Int32.ofNat m)) ?_
  refine q_call (M2 := 48) (rest := []) (b_isMood1 g u hm) (fun _ _ => rfl) ?_
  refine q_step 5 28 [(0, .ref 8), (1, .int (Int32.ofNat p)), (2, .int (Int32.ofNat m))] [.int (Int32.ofNat p), .ref 22] g u (fun big n0 => sg_ez_3 big n0 g u (Int32.ofNat p) (Int32.ofNat m)) ?_
  refine q_iald (j := p) (q_ixn (by omega) (by omega)) rfl rfl ?_
  refine q_step 6 39 [(0, .ref 8), (1, .int (Int32.ofNat p)), (2, .int (Int32.ofNat m)), (3, .int (g 22 p))] [.int (Int32.ofNat m), .int (Int32.ofNat p), .ref 22] g u (fun big n0 => sg_ez_4 big n0 g u (Int32.ofNat p) (Int32.ofNat m) (g 22 p)) ?_
  refine q_iast (j := p) (q_ixn (by omega) (by omega)) rfl rfl ?_
  refine q_ret 2 (some (.int (g 22 p)), (q_up g 22 p (Int32.ofNat m)), u) (fun _ _ => rfl) ?_
  rfl
theorem rg_mood {n : Nat} (g : qM) (u : qW) (hn : g 70 4 = Int32.ofNat n) (h6 : n ≤ 5) {p : Nat} (hp : p < n) {m : Nat} (hm : m ≤ 3) : q_BS 174 [.ref 70, .int (Int32.ofNat p), .int (Int32.ofNat m)] g u (some (.int (g 71 (5 + p))), q_up g 71 (5 + p) (Int32.ofNat m), u) := by
  refine q_bx (mm := m_174) rfl (Nat.le_of_ble_eq_true rfl) rfl ?_
  refine q_step 2 2 [(0, .ref 70), (1, .int (Int32.ofNat p)), (2, .int (Int32.ofNat m))] [.int (Int32.ofNat p), .ref 70] g u (fun big n0 => sg_ez_5 big n0 g u (Int32.ofNat p) (Int32.ofNat m)) ?_
  refine q_call (M2 := 169) (rest := []) (b_risOne1 g u hn (by omega) hp) (fun _ _ => rfl) ?_
  refine q_step 5 14 [(0, .ref 70), (1, .int (Int32.ofNat p)), (2, .int (Int32.ofNat m))] [.long (3 : Int64), .long (0 : Int64), .long (Int32.toInt64 (Int32.ofNat m))] g u (fun big n0 => sg_ez_6 big n0 g u (Int32.ofNat p) (Int32.ofNat m)) ?_
  refine q_call (M2 := 149) (rest := []) (b_in1 (m := m) (lo := 0) (hi := 3) g u (by omega) (by omega) (by omega)) (fun _ _ => rfl) ?_
  refine q_step 6 25 [(0, .ref 70), (1, .int (Int32.ofNat p)), (2, .int (Int32.ofNat m))] [.int (Int32.ofNat m), .int ((5 : Int32) + (Int32.ofNat p)), .ref 70] g u (fun big n0 => sg_ez_7 big n0 g u (Int32.ofNat p) (Int32.ofNat m)) ?_
  refine q_call (M2 := 175) (rest := []) (b_rbec ((5 : Int32) + (Int32.ofNat p)) (Int32.ofNat m) (5 + p) g u (s_rixn (K := 5) (i := p) (by omega))) (fun _ _ => rfl) ?_
  refine q_ret 2 (some (.int (g 71 (5 + p))), (q_up g 71 (5 + p) (Int32.ofNat m)), u) (fun _ _ => rfl) ?_
  rfl
theorem cg_hold0 {n : Nat} (g : qM) (u : qW) (hn : g 20 3 = Int32.ofNat n) (h6 : n ≤ 6) {p : Nat} (hp : p < n) : q_BS 51 [.ref 8, .int (Int32.ofNat p), .int (0 : Int32)] g u (some (.int (g 23 p)), q_up g 23 p 0, u) := by
  refine q_bx (mm := m_51) rfl (Nat.le_of_ble_eq_true rfl) rfl ?_
  refine q_step 3 5 [(0, .ref 8), (1, .int (Int32.ofNat p)), (2, .int (0 : Int32))] [.int (Int32.ofNat p), .ref 20] g u (fun big n0 => sg_ez_8 big n0 g u (Int32.ofNat p)) ?_
  refine q_call (M2 := 40) (rest := []) (b_hasOne1 g u hn h6 hp) (fun _ _ => rfl) ?_
  refine q_step 5 21 [(0, .ref 8), (1, .int (Int32.ofNat p)), (2, .int (0 : Int32))] [.int (Int32.ofNat p), .ref 23] g u (fun big n0 => sg_ez_9 big n0 g u (Int32.ofNat p)) ?_
  refine q_iald (j := p) (q_ixn (by omega) (by omega)) rfl rfl ?_
  refine q_step 8 40 [(0, .ref 8), (1, .int (Int32.ofNat p)), (2, .int (0 : Int32)), (3, .int (g 23 p))] [.int (0 : Int32), .int (Int32.ofNat p), .ref 23] g u (fun big n0 => sg_ez_10 big n0 g u (Int32.ofNat p) (g 23 p)) ?_
  refine q_iast (j := p) (q_ixn (by omega) (by omega)) rfl rfl ?_
  refine q_ret 2 (some (.int (g 23 p)), (q_up g 23 p (0 : Int32)), u) (fun _ _ => rfl) ?_
  rfl
theorem rg_hold0 {n : Nat} (g : qM) (u : qW) (hn : g 70 4 = Int32.ofNat n) (h6 : n ≤ 5) {p : Nat} (hp : p < n) : q_BS 178 [.ref 70, .int (Int32.ofNat p), .int (0 : Int32)] g u (some (.int (g 71 (10 + p))), q_up g 71 (10 + p) 0, u) := by
  refine q_bx (mm := m_178) rfl (Nat.le_of_ble_eq_true rfl) rfl ?_
  refine q_step 2 2 [(0, .ref 70), (1, .int (Int32.ofNat p)), (2, .int (0 : Int32))] [.int (Int32.ofNat p), .ref 70] g u (fun big n0 => sg_ez_11 big n0 g u (Int32.ofNat p)) ?_
  refine q_call (M2 := 169) (rest := []) (b_risOne1 g u hn (by omega) hp) (fun _ _ => rfl) ?_
  refine q_step 6 14 [(0, .ref 70), (1, .int (Int32.ofNat p)), (2, .int (0 : Int32))] [.int (0 : Int32), .int ((10 : Int32) + (Int32.ofNat p)), .ref 70] g u (fun big n0 => sg_ez_12 big n0 g u (Int32.ofNat p)) ?_
  refine q_call (M2 := 164) (rest := [.int ((10 : Int32) + (Int32.ofNat p)), .ref 70]) (b_flag0 _ _) (fun _ _ => rfl) ?_
  refine q_call (M2 := 175) (rest := []) (b_rbec ((10 : Int32) + (Int32.ofNat p)) (0 : Int32) (10 + p) g u (s_rixn (K := 10) (i := p) (by omega))) (fun _ _ => rfl) ?_
  refine q_ret 2 (some (.int (g 71 (10 + p))), (q_up g 71 (10 + p) (0 : Int32)), u) (fun _ _ => rfl) ?_
  rfl
theorem cg_hold1 {n : Nat} (g : qM) (u : qW) (hn : g 20 3 = Int32.ofNat n) (h6 : n ≤ 6) {p : Nat} (hp : p < n) : q_BS 51 [.ref 8, .int (Int32.ofNat p), .int (1 : Int32)] g u (some (.int (g 23 p)), q_up g 23 p 1, u) := by
  refine q_bx (mm := m_51) rfl (Nat.le_of_ble_eq_true rfl) rfl ?_
  refine q_step 3 5 [(0, .ref 8), (1, .int (Int32.ofNat p)), (2, .int (1 : Int32))] [.int (Int32.ofNat p), .ref 20] g u (fun big n0 => sg_ez_13 big n0 g u (Int32.ofNat p)) ?_
  refine q_call (M2 := 40) (rest := []) (b_hasOne1 g u hn h6 hp) (fun _ _ => rfl) ?_
  refine q_step 5 21 [(0, .ref 8), (1, .int (Int32.ofNat p)), (2, .int (1 : Int32))] [.int (Int32.ofNat p), .ref 23] g u (fun big n0 => sg_ez_14 big n0 g u (Int32.ofNat p)) ?_
  refine q_iald (j := p) (q_ixn (by omega) (by omega)) rfl rfl ?_
  refine q_step 9 40 [(0, .ref 8), (1, .int (Int32.ofNat p)), (2, .int (1 : Int32)), (3, .int (g 23 p))] [.int (1 : Int32), .int (Int32.ofNat p), .ref 23] g u (fun big n0 => sg_ez_15 big n0 g u (Int32.ofNat p) (g 23 p)) ?_
  refine q_iast (j := p) (q_ixn (by omega) (by omega)) rfl rfl ?_
  refine q_ret 2 (some (.int (g 23 p)), (q_up g 23 p (1 : Int32)), u) (fun _ _ => rfl) ?_
  rfl
theorem rg_hold1 {n : Nat} (g : qM) (u : qW) (hn : g 70 4 = Int32.ofNat n) (h6 : n ≤ 5) {p : Nat} (hp : p < n) : q_BS 178 [.ref 70, .int (Int32.ofNat p), .int (1 : Int32)] g u (some (.int (g 71 (10 + p))), q_up g 71 (10 + p) 1, u) := by
  refine q_bx (mm := m_178) rfl (Nat.le_of_ble_eq_true rfl) rfl ?_
  refine q_step 2 2 [(0, .ref 70), (1, .int (Int32.ofNat p)), (2, .int (1 : Int32))] [.int (Int32.ofNat p), .ref 70] g u (fun big n0 => sg_ez_16 big n0 g u (Int32.ofNat p)) ?_
  refine q_call (M2 := 169) (rest := []) (b_risOne1 g u hn (by omega) hp) (fun _ _ => rfl) ?_
  refine q_step 6 14 [(0, .ref 70), (1, .int (Int32.ofNat p)), (2, .int (1 : Int32))] [.int (1 : Int32), .int ((10 : Int32) + (Int32.ofNat p)), .ref 70] g u (fun big n0 => sg_ez_17 big n0 g u (Int32.ofNat p)) ?_
  refine q_call (M2 := 164) (rest := [.int ((10 : Int32) + (Int32.ofNat p)), .ref 70]) (b_flag1 _ _) (fun _ _ => rfl) ?_
  refine q_call (M2 := 175) (rest := []) (b_rbec ((10 : Int32) + (Int32.ofNat p)) (1 : Int32) (10 + p) g u (s_rixn (K := 10) (i := p) (by omega))) (fun _ _ => rfl) ?_
  refine q_ret 2 (some (.int (g 71 (10 + p))), (q_up g 71 (10 + p) (1 : Int32)), u) (fun _ _ => rfl) ?_
  rfl
theorem cg_goaln {n : Nat} (g : qM) (u : qW) (hn : g 20 3 = Int32.ofNat n) (h6 : n ≤ 6) {p : Nat} (hp : p < n) : q_BS 52 [.ref 8, .int (Int32.ofNat p), .int (Int8.toInt32 (Int8.ofInt (-4)))] g u (some (.int (g 24 p)), q_up g 24 p (Int8.toInt32 (Int8.ofInt (-4))), u) := by
  refine q_bx (mm := m_52) rfl (Nat.le_of_ble_eq_true rfl) rfl ?_
  refine q_step 3 5 [(0, .ref 8), (1, .int (Int32.ofNat p)), (2, .int (Int8.toInt32 (Int8.ofInt (-4))))] [.int (Int32.ofNat p), .ref 20] g u (fun big n0 => sg_ez_18 big n0 g u (Int32.ofNat p)) ?_
  refine q_call (M2 := 40) (rest := []) (b_hasOne1 g u hn h6 hp) (fun _ _ => rfl) ?_
  refine q_step 8 38 [(0, .ref 8), (1, .int (Int32.ofNat p)), (2, .int (Int8.toInt32 (Int8.ofInt (-4))))] [.int (Int32.ofNat p), .ref 24] g u (fun big n0 => sg_ez_19 big n0 g u (Int32.ofNat p)) ?_
  refine q_iald (j := p) (q_ixn (by omega) (by omega)) rfl rfl ?_
  refine q_step 6 49 [(0, .ref 8), (1, .int (Int32.ofNat p)), (2, .int (Int8.toInt32 (Int8.ofInt (-4)))), (3, .int (g 24 p))] [.int (Int8.toInt32 (Int8.ofInt (-4))), .int (Int32.ofNat p), .ref 24] g u (fun big n0 => sg_ez_20 big n0 g u (Int32.ofNat p) (g 24 p)) ?_
  refine q_iast (j := p) (q_ixn (by omega) (by omega)) rfl rfl ?_
  refine q_ret 2 (some (.int (g 24 p)), (q_up g 24 p (Int8.toInt32 (Int8.ofInt (-4)))), u) (fun _ _ => rfl) ?_
  rfl
theorem rg_goaln {n : Nat} (g : qM) (u : qW) (hn : g 70 4 = Int32.ofNat n) (h6 : n ≤ 5) {p : Nat} (hp : p < n) : q_BS 179 [.ref 70, .int (Int32.ofNat p), .int (Int8.toInt32 (Int8.ofInt (-4)))] g u (some (.int (g 71 (15 + p))), q_up g 71 (15 + p) (Int8.toInt32 (Int8.ofInt (-4))), u) := by
  refine q_bx (mm := m_179) rfl (Nat.le_of_ble_eq_true rfl) rfl ?_
  refine q_step 2 2 [(0, .ref 70), (1, .int (Int32.ofNat p)), (2, .int (Int8.toInt32 (Int8.ofInt (-4))))] [.int (Int32.ofNat p), .ref 70] g u (fun big n0 => sg_ez_21 big n0 g u (Int32.ofNat p)) ?_
  refine q_call (M2 := 169) (rest := []) (b_risOne1 g u hn (by omega) hp) (fun _ _ => rfl) ?_
  refine q_step 9 28 [(0, .ref 70), (1, .int (Int32.ofNat p)), (2, .int (Int8.toInt32 (Int8.ofInt (-4))))] [.int (Int8.toInt32 (Int8.ofInt (-4))), .int ((15 : Int32) + (Int32.ofNat p)), .ref 70] g u (fun big n0 => sg_ez_22 big n0 g u (Int32.ofNat p)) ?_
  refine q_call (M2 := 175) (rest := []) (b_rbec ((15 : Int32) + (Int32.ofNat p)) (Int8.toInt32 (Int8.ofInt (-4))) (15 + p) g u (s_rixn (K := 15) (i := p) (by omega))) (fun _ _ => rfl) ?_
  refine q_ret 2 (some (.int (g 71 (15 + p))), (q_up g 71 (15 + p) (Int8.toInt32 (Int8.ofInt (-4)))), u) (fun _ _ => rfl) ?_
  rfl
theorem cg_goalc {n : Nat} (g : qM) (u : qW) (hn : g 20 3 = Int32.ofNat n) (h6 : n ≤ 6) {p : Nat} (hp : p < n) {c N : Nat} (hN : g 20 0 * g 20 1 = Int32.ofNat N) (h25 : N ≤ 25) (hc : c < N) : q_BS 52 [.ref 8, .int (Int32.ofNat p), .int (Int32.ofNat c)] g u (some (.int (g 24 p)), q_up g 24 p (Int32.ofNat c), u) := by
  refine q_bx (mm := m_52) rfl (Nat.le_of_ble_eq_true rfl) rfl ?_
  refine q_step 3 5 [(0, .ref 8), (1, .int (Int32.ofNat p)), (2, .int (Int32.ofNat c))] [.int (Int32.ofNat p), .ref 20] g u (fun big n0 => sg_ez_23 big n0 g u (Int32.ofNat p) (Int32.ofNat c)) ?_
  refine q_call (M2 := 40) (rest := []) (b_hasOne1 g u hn h6 hp) (fun _ _ => rfl) ?_
  refine q_step 3 14 [(0, .ref 8), (1, .int (Int32.ofNat p)), (2, .int (Int32.ofNat c))] [.int (Int8.toInt32 (Int8.ofInt (-4))), .int (Int32.ofNat c)] g u (fun big n0 => sg_ez_24 big n0 g u (Int32.ofNat p) (Int32.ofNat c)) ?_
  refine q_ic_eq rfl (fun hc0 => absurd (show (Int32.ofNat c) = (Int8.toInt32 (Int8.ofInt (-4))) from hc0) (q_none_ne (by omega))) (fun (hc0 : ¬ ((Int32.ofNat c) = (Int8.toInt32 (Int8.ofInt (-4))))) => ?_)
  refine q_step 3 22 [(0, .ref 8), (1, .int (Int32.ofNat p)), (2, .int (Int32.ofNat c))] [.int (Int32.ofNat c), .ref 20] g u (fun big n0 => sg_ez_25 big n0 g u (Int32.ofNat p) (Int32.ofNat c)) ?_
  refine q_call (M2 := 38) (rest := []) (b_hasCell1 g u hN h25 hc) (fun _ _ => rfl) ?_
  refine q_step 5 38 [(0, .ref 8), (1, .int (Int32.ofNat p)), (2, .int (Int32.ofNat c))] [.int (Int32.ofNat p), .ref 24] g u (fun big n0 => sg_ez_26 big n0 g u (Int32.ofNat p) (Int32.ofNat c)) ?_
  refine q_iald (j := p) (q_ixn (by omega) (by omega)) rfl rfl ?_
  refine q_step 6 49 [(0, .ref 8), (1, .int (Int32.ofNat p)), (2, .int (Int32.ofNat c)), (3, .int (g 24 p))] [.int (Int32.ofNat c), .int (Int32.ofNat p), .ref 24] g u (fun big n0 => sg_ez_27 big n0 g u (Int32.ofNat p) (Int32.ofNat c) (g 24 p)) ?_
  refine q_iast (j := p) (q_ixn (by omega) (by omega)) rfl rfl ?_
  refine q_ret 2 (some (.int (g 24 p)), (q_up g 24 p (Int32.ofNat c)), u) (fun _ _ => rfl) ?_
  rfl
theorem rg_goalc {n : Nat} (g : qM) (u : qW) (hn : g 70 4 = Int32.ofNat n) (h6 : n ≤ 5) {p : Nat} (hp : p < n) {c N : Nat} (hN : g 70 2 * g 70 3 = Int32.ofNat N) (h25 : N ≤ 25) (hc : c < N) : q_BS 179 [.ref 70, .int (Int32.ofNat p), .int (Int32.ofNat c)] g u (some (.int (g 71 (15 + p))), q_up g 71 (15 + p) (Int32.ofNat c), u) := by
  refine q_bx (mm := m_179) rfl (Nat.le_of_ble_eq_true rfl) rfl ?_
  refine q_step 2 2 [(0, .ref 70), (1, .int (Int32.ofNat p)), (2, .int (Int32.ofNat c))] [.int (Int32.ofNat p), .ref 70] g u (fun big n0 => sg_ez_28 big n0 g u (Int32.ofNat p) (Int32.ofNat c)) ?_
  refine q_call (M2 := 169) (rest := []) (b_risOne1 g u hn (by omega) hp) (fun _ _ => rfl) ?_
  refine q_step 3 11 [(0, .ref 70), (1, .int (Int32.ofNat p)), (2, .int (Int32.ofNat c))] [.int (Int8.toInt32 (Int8.ofInt (-4))), .int (Int32.ofNat c)] g u (fun big n0 => sg_ez_29 big n0 g u (Int32.ofNat p) (Int32.ofNat c)) ?_
  refine q_ic_eq rfl (fun hc0 => absurd (show (Int32.ofNat c) = (Int8.toInt32 (Int8.ofInt (-4))) from hc0) (q_none_ne (by omega))) (fun (hc0 : ¬ ((Int32.ofNat c) = (Int8.toInt32 (Int8.ofInt (-4))))) => ?_)
  refine q_step 2 16 [(0, .ref 70), (1, .int (Int32.ofNat p)), (2, .int (Int32.ofNat c))] [.int (Int32.ofNat c), .ref 70] g u (fun big n0 => sg_ez_30 big n0 g u (Int32.ofNat p) (Int32.ofNat c)) ?_
  refine q_call (M2 := 171) (rest := []) (b_risCell1 g u hN h25 hc) (fun _ _ => rfl) ?_
  refine q_step 6 28 [(0, .ref 70), (1, .int (Int32.ofNat p)), (2, .int (Int32.ofNat c))] [.int (Int32.ofNat c), .int ((15 : Int32) + (Int32.ofNat p)), .ref 70] g u (fun big n0 => sg_ez_31 big n0 g u (Int32.ofNat p) (Int32.ofNat c)) ?_
  refine q_call (M2 := 175) (rest := []) (b_rbec ((15 : Int32) + (Int32.ofNat p)) (Int32.ofNat c) (15 + p) g u (s_rixn (K := 15) (i := p) (by omega))) (fun _ _ => rfl) ?_
  refine q_ret 2 (some (.int (g 71 (15 + p))), (q_up g 71 (15 + p) (Int32.ofNat c)), u) (fun _ _ => rfl) ?_
  rfl
theorem cg_pull (g : qM) (u : qW) {d v : Nat} (hd : 1 ≤ d ∧ d ≤ 4) (hv : v ≤ 9) : q_BS 54 [.ref 8, .int (Int32.ofNat d), .int (Int32.ofNat v)] g u (some (.int (g 25 d)), q_up g 25 d (Int32.ofNat v), u) := by
  refine q_bx (mm := m_54) rfl (Nat.le_of_ble_eq_true rfl) rfl ?_
  refine q_step 2 2 [(0, .ref 8), (1, .int (Int32.ofNat d)), (2, .int (Int32.ofNat v))] [.int (1 : Int32), .int (Int32.ofNat d)] g u (fun big n0 => sg_ez_32 big n0 g u (Int32.ofNat d) (Int32.ofNat v)) ?_
  refine q_ic_lt rfl (fun hc0 => absurd (show (Int32.ofNat d) < (1 : Int32) from hc0) (fun z => absurd ((q_lt (i := d) (j := 1) (by omega) (by omega)).mp z) (by omega))) (fun (hc0 : ¬ ((Int32.ofNat d) < (1 : Int32))) => ?_)
  refine q_step 2 7 [(0, .ref 8), (1, .int (Int32.ofNat d)), (2, .int (Int32.ofNat v))] [.int (4 : Int32), .int (Int32.ofNat d)] g u (fun big n0 => sg_ez_33 big n0 g u (Int32.ofNat d) (Int32.ofNat v)) ?_
  refine q_ic_gt rfl (fun hc1 => absurd (show (4 : Int32) < (Int32.ofNat d) from hc1) (fun z => absurd ((q_lt (i := 4) (j := d) (by omega) (by omega)).mp z) (by omega))) (fun (hc1 : ¬ ((4 : Int32) < (Int32.ofNat d))) => ?_)
  refine q_step 1 11 [(0, .ref 8), (1, .int (Int32.ofNat d)), (2, .int (Int32.ofNat v))] [.int (Int32.ofNat v)] g u (fun big n0 => sg_ez_34 big n0 g u (Int32.ofNat d) (Int32.ofNat v)) ?_
  refine q_if_lt rfl (fun hc2 => absurd (show (Int32.ofNat v) < 0 from hc2) (fun z => absurd ((q_lt (i := v) (j := 0) (by omega) (by omega)).mp z) (by omega))) (fun (hc2 : ¬ ((Int32.ofNat v) < 0)) => ?_)
  refine q_step 2 17 [(0, .ref 8), (1, .int (Int32.ofNat d)), (2, .int (Int32.ofNat v))] [.int (9 : Int32), .int (Int32.ofNat v)] g u (fun big n0 => sg_ez_35 big n0 g u (Int32.ofNat d) (Int32.ofNat v)) ?_
  refine q_ic_le rfl (fun (hc3 : (Int32.ofNat v) ≤ (9 : Int32)) => ?_) (fun hc3 => absurd (show (Int32.ofNat v) ≤ (9 : Int32) from (q_le (i := v) (j := 9) (by omega) (by omega)).mpr (by omega)) hc3)
  refine q_step 4 30 [(0, .ref 8), (1, .int (Int32.ofNat d)), (2, .int (Int32.ofNat v))] [.int (Int32.ofNat d), .ref 25] g u (fun big n0 => sg_ez_36 big n0 g u (Int32.ofNat d) (Int32.ofNat v)) ?_
  refine q_iald (j := d) (q_ixn (by omega) (by omega)) rfl rfl ?_
  refine q_step 6 41 [(0, .ref 8), (1, .int (Int32.ofNat d)), (2, .int (Int32.ofNat v)), (3, .int (g 25 d))] [.int (Int32.ofNat v), .int (Int32.ofNat d), .ref 25] g u (fun big n0 => sg_ez_37 big n0 g u (Int32.ofNat d) (Int32.ofNat v) (g 25 d)) ?_
  refine q_iast (j := d) (q_ixn (by omega) (by omega)) rfl rfl ?_
  refine q_ret 2 (some (.int (g 25 d)), (q_up g 25 d (Int32.ofNat v)), u) (fun _ _ => rfl) ?_
  rfl
theorem rg_pull (g : qM) (u : qW) {d v : Nat} (hd : 1 ≤ d ∧ d ≤ 4) (hv : v ≤ 9) : q_BS 181 [.ref 70, .int (Int32.ofNat d), .int (Int32.ofNat v)] g u (some (.int (g 71 (20 + d))), q_up g 71 (20 + d) (Int32.ofNat v), u) := by
  refine q_bx (mm := m_181) rfl (Nat.le_of_ble_eq_true rfl) rfl ?_
  have hix : q_ix (((21 : Int32) + Int32.ofNat d) - (1 : Int32)) (20 + d) 132 := by
    rw [show (21 : Int32) = Int32.ofNat 21 from rfl, show (1 : Int32) = Int32.ofNat 1 from rfl, q_add, q_sb (by omega) (by omega), show 21 + d - 1 = 20 + d by omega]
    exact q_ixn (by omega) (by omega)
  refine q_step 4 6 [(0, .ref 70), (1, .int (Int32.ofNat d)), (2, .int (Int32.ofNat v))] [.long (4 : Int64), .long (1 : Int64), .long (Int32.toInt64 (Int32.ofNat d))] g u (fun big n0 => sg_ez_38 big n0 g u (Int32.ofNat d) (Int32.ofNat v)) ?_
  refine q_call (M2 := 149) (rest := []) (b_in1 (m := d) (lo := 1) (hi := 4) g u (by omega) (by omega) (by omega)) (fun _ _ => rfl) ?_
  refine q_step 5 18 [(0, .ref 70), (1, .int (Int32.ofNat d)), (2, .int (Int32.ofNat v))] [.long (9 : Int64), .long (0 : Int64), .long (Int32.toInt64 (Int32.ofNat v))] g u (fun big n0 => sg_ez_39 big n0 g u (Int32.ofNat d) (Int32.ofNat v)) ?_
  refine q_call (M2 := 149) (rest := []) (b_in1 (m := v) (lo := 0) (hi := 9) g u (by omega) (by omega) (by omega)) (fun _ _ => rfl) ?_
  refine q_step 8 32 [(0, .ref 70), (1, .int (Int32.ofNat d)), (2, .int (Int32.ofNat v))] [.int (Int32.ofNat v), .int (((21 : Int32) + (Int32.ofNat d)) - (1 : Int32)), .ref 70] g u (fun big n0 => sg_ez_40 big n0 g u (Int32.ofNat d) (Int32.ofNat v)) ?_
  refine q_call (M2 := 175) (rest := []) (b_rbec (((21 : Int32) + (Int32.ofNat d)) - (1 : Int32)) (Int32.ofNat v) (20 + d) g u hix) (fun _ _ => rfl) ?_
  refine q_ret 2 (some (.int (g 71 (20 + d))), (q_up g 71 (20 + d) (Int32.ofNat v)), u) (fun _ _ => rfl) ?_
  rfl
theorem cg_press (g : qM) (u : qW) {v : Nat} (hv : v ≤ 4) : q_BS 55 [.ref 8, .int (Int32.ofNat v)] g u (some (.int (g 20 4)), q_up g 20 4 (Int32.ofNat v), u) := by
  refine q_bx (mm := m_55) rfl (Nat.le_of_ble_eq_true rfl) rfl ?_
  refine q_step 1 1 [(0, .ref 8), (1, .int (Int32.ofNat v))] [.int (Int32.ofNat v)] g u (fun big n0 => sg_ez_41 big n0 g u (Int32.ofNat v)) ?_
  refine q_if_lt rfl (fun hc0 => absurd (show (Int32.ofNat v) < 0 from hc0) (fun z => absurd ((q_lt (i := v) (j := 0) (by omega) (by omega)).mp z) (by omega))) (fun (hc0 : ¬ ((Int32.ofNat v) < 0)) => ?_)
  refine q_step 2 6 [(0, .ref 8), (1, .int (Int32.ofNat v))] [.int (4 : Int32), .int (Int32.ofNat v)] g u (fun big n0 => sg_ez_42 big n0 g u (Int32.ofNat v)) ?_
  refine q_ic_le rfl (fun (hc1 : (Int32.ofNat v) ≤ (4 : Int32)) => ?_) (fun hc1 => absurd (show (Int32.ofNat v) ≤ (4 : Int32) from (q_le (i := v) (j := 4) (by omega) (by omega)).mpr (by omega)) hc1)
  refine q_ret 10 (some (.int (g 20 4)), (q_up g 20 4 (Int32.ofNat v)), u) (fun _ _ => rfl) ?_
  rfl
theorem rg_press (g : qM) (u : qW) {v : Nat} (hv : v ≤ 4) : q_BS 182 [.ref 70, .int (Int32.ofNat v)] g u (some (.int (g 71 25)), q_up g 71 25 (Int32.ofNat v), u) := by
  refine q_bx (mm := m_182) rfl (Nat.le_of_ble_eq_true rfl) rfl ?_
  refine q_step 4 6 [(0, .ref 70), (1, .int (Int32.ofNat v))] [.long (4 : Int64), .long (0 : Int64), .long (Int32.toInt64 (Int32.ofNat v))] g u (fun big n0 => sg_ez_43 big n0 g u (Int32.ofNat v)) ?_
  refine q_call (M2 := 149) (rest := []) (b_in1 (m := v) (lo := 0) (hi := 4) g u (by omega) (by omega) (by omega)) (fun _ _ => rfl) ?_
  refine q_step 4 16 [(0, .ref 70), (1, .int (Int32.ofNat v))] [.int (Int32.ofNat v), .int (25 : Int32), .ref 70] g u (fun big n0 => sg_ez_44 big n0 g u (Int32.ofNat v)) ?_
  refine q_call (M2 := 175) (rest := []) (b_rbec (25 : Int32) (Int32.ofNat v) 25 g u (q_ixn (j := 25) (n := 132) (by decide) (by decide))) (fun _ _ => rfl) ?_
  refine q_ret 2 (some (.int (g 71 25)), (q_up g 71 25 (Int32.ofNat v)), u) (fun _ _ => rfl) ?_
  rfl
theorem cg_cell {n : Nat} (g : qM) (u : qW) (hn : g 20 3 = Int32.ofNat n) (h6 : n ≤ 6) {c N : Nat} (hN : g 20 0 * g 20 1 = Int32.ofNat N) (h25 : N ≤ 25) (hc : c < N) : q_BS 46 [.ref 8, .int (Int32.ofNat c)] g u (some (.int (s_w1 (g 21) (Int32.ofNat c) n 0)), g, u) := by
  refine q_bx (mm := m_46) rfl (Nat.le_of_ble_eq_true rfl) rfl ?_
  refine q_step 3 5 [(0, .ref 8), (1, .int (Int32.ofNat c))] [.int (Int32.ofNat c), .ref 20] g u (fun big n0 => sg_ez_45 big n0 g u (Int32.ofNat c)) ?_
  refine q_call (M2 := 38) (rest := []) (b_hasCell1 g u hN h25 hc) (fun _ _ => rfl) ?_
  refine q_step 4 16 [(0, .ref 8), (1, .int (Int32.ofNat c))] [.int (Int32.ofNat c), .ref 20] g u (fun big n0 => sg_ez_46 big n0 g u (Int32.ofNat c)) ?_
  refine q_call (M2 := 30) (rest := []) (b_who20 (Int32.ofNat c) g u hn h6) (fun _ _ => rfl) ?_
  refine q_ret 2 (some (.int (s_w1 (g 21) (Int32.ofNat c) n 0)), g, u) (fun _ _ => rfl) ?_
  rfl
theorem rg_cell {n W H : Nat} {g r : qM} (u : qW) (h : w_ok n W H r) (hs : w_sm n (s_start g) r) (hn : g 70 4 = Int32.ofNat n) (h6 : n ≤ 5) {c N : Nat} (hN : g 70 2 * g 70 3 = Int32.ofNat N) (h25 : N ≤ 25) (hc : c < N) : q_BS 170 [.ref 70, .int (Int32.ofNat c)] g u (some (.int (f_who n r (Int32.ofNat c))), s_start g, u) := by
  refine q_bx (mm := m_170) rfl (Nat.le_of_ble_eq_true rfl) rfl ?_
  refine q_step 2 2 [(0, .ref 70), (1, .int (Int32.ofNat c))] [.int (Int32.ofNat c), .ref 70] g u (fun big n0 => sg_ez_47 big n0 g u (Int32.ofNat c)) ?_
  refine q_call (M2 := 171) (rest := []) (b_risCell1 g u hN h25 hc) (fun _ _ => rfl) ?_
  refine q_step 2 11 [(0, .ref 70), (1, .int (Int32.ofNat c))] [.ref 70] g u (fun big n0 => sg_ez_48 big n0 g u (Int32.ofNat c)) ?_
  refine q_call (M2 := 172) (rest := []) (b_starts g u) (fun _ _ => rfl) ?_
  refine q_step 2 16 [(0, .ref 70), (1, .int (Int32.ofNat c))] [.int (Int32.ofNat c), .ref 70] (s_start g) u (fun big n0 => sg_ez_49 big n0 (s_start g) u (Int32.ofNat c)) ?_
  have hwho := b_rwho (s_start g) u (Int32.ofNat c) (w_w0 h hs).1 (w_w0 h hs).2.1
  rw [w_who_r h hs] at hwho
  refine q_call (M2 := 173) (rest := []) (hwho) (fun _ _ => rfl) ?_
  refine q_ret 1 (some (.int (f_who n r (Int32.ofNat c))), (s_start g), u) (fun _ _ => rfl) ?_
  rfl
theorem cg_put0 {n W H : Nat} {g r : qM} (u : qW) (h : w_ok n W H r) (hcs : w_cs 20 n g r) (hn : g 20 3 = Int32.ofNat n) (h6 : n ≤ 6) {c N : Nat} (hN : g 20 0 * g 20 1 = Int32.ofNat N) (h25 : N ≤ 25) (hc : c < N) {p : Nat} (hp : p < n) (hcan : p_can n r p c = 0) : q_BS 49 [.ref 8, .int (Int32.ofNat p), .int (Int32.ofNat c)] g u (some (.int (Int32.ofInt (-1))), g, u) := by
  refine q_bx (mm := m_49) rfl (Nat.le_of_ble_eq_true rfl) rfl ?_
  refine q_step 3 5 [(0, .ref 8), (1, .int (Int32.ofNat p)), (2, .int (Int32.ofNat c))] [.int (Int32.ofNat p), .ref 20] g u (fun big n0 => sg_ez_50 big n0 g u (Int32.ofNat p) (Int32.ofNat c)) ?_
  refine q_call (M2 := 40) (rest := []) (b_hasOne1 g u hn h6 hp) (fun _ _ => rfl) ?_
  refine q_step 4 16 [(0, .ref 8), (1, .int (Int32.ofNat p)), (2, .int (Int32.ofNat c))] [.int (Int32.ofNat c), .ref 20] g u (fun big n0 => sg_ez_51 big n0 g u (Int32.ofNat p) (Int32.ofNat c)) ?_
  refine q_call (M2 := 38) (rest := []) (b_hasCell1 g u hN h25 hc) (fun _ _ => rfl) ?_
  refine q_step 5 28 [(0, .ref 8), (1, .int (Int32.ofNat p)), (2, .int (Int32.ofNat c))] [.int (Int32.ofNat c), .int (Int32.ofNat p), .ref 20] g u (fun big n0 => sg_ez_52 big n0 g u (Int32.ofNat p) (Int32.ofNat c)) ?_
  have hch := b_canHold p (Int32.ofNat c) n g u hn h6 (by omega)
  rw [w_canc hcs hp, hcan] at hch
  refine q_call (M2 := 50) (rest := []) (hch) (fun _ _ => rfl) ?_
  refine q_ret 3 (some (.int (Int32.ofInt (-1))), g, u) (fun _ _ => rfl) ?_
  rfl
theorem cg_put1 {n W H : Nat} {g r : qM} (u : qW) (h : w_ok n W H r) (hcs : w_cs 20 n g r) (hn : g 20 3 = Int32.ofNat n) (h6 : n ≤ 6) {c N : Nat} (hN : g 20 0 * g 20 1 = Int32.ofNat N) (h25 : N ≤ 25) (hc : c < N) {p : Nat} (hp : p < n) (hcan : p_can n r p c = 1) : q_BS 49 [.ref 8, .int (Int32.ofNat p), .int (Int32.ofNat c)] g u (some (.int (g 21 p)), q_up g 21 p (Int32.ofNat c), u) := by
  refine q_bx (mm := m_49) rfl (Nat.le_of_ble_eq_true rfl) rfl ?_
  refine q_step 3 5 [(0, .ref 8), (1, .int (Int32.ofNat p)), (2, .int (Int32.ofNat c))] [.int (Int32.ofNat p), .ref 20] g u (fun big n0 => sg_ez_50 big n0 g u (Int32.ofNat p) (Int32.ofNat c)) ?_
  refine q_call (M2 := 40) (rest := []) (b_hasOne1 g u hn h6 hp) (fun _ _ => rfl) ?_
  refine q_step 4 16 [(0, .ref 8), (1, .int (Int32.ofNat p)), (2, .int (Int32.ofNat c))] [.int (Int32.ofNat c), .ref 20] g u (fun big n0 => sg_ez_51 big n0 g u (Int32.ofNat p) (Int32.ofNat c)) ?_
  refine q_call (M2 := 38) (rest := []) (b_hasCell1 g u hN h25 hc) (fun _ _ => rfl) ?_
  refine q_step 5 28 [(0, .ref 8), (1, .int (Int32.ofNat p)), (2, .int (Int32.ofNat c))] [.int (Int32.ofNat c), .int (Int32.ofNat p), .ref 20] g u (fun big n0 => sg_ez_52 big n0 g u (Int32.ofNat p) (Int32.ofNat c)) ?_
  have hch := b_canHold p (Int32.ofNat c) n g u hn h6 (by omega)
  rw [w_canc hcs hp, hcan] at hch
  refine q_call (M2 := 50) (rest := []) (hch) (fun _ _ => rfl) ?_
  refine q_step 5 44 [(0, .ref 8), (1, .int (Int32.ofNat p)), (2, .int (Int32.ofNat c))] [.int (Int32.ofNat p), .ref 21] g u (fun big n0 => sg_ez_53 big n0 g u (Int32.ofNat p) (Int32.ofNat c)) ?_
  refine q_iald (j := p) (q_ixn (by omega) (by omega)) rfl rfl ?_
  refine q_step 6 55 [(0, .ref 8), (1, .int (Int32.ofNat p)), (2, .int (Int32.ofNat c)), (3, .int (g 21 p))] [.int (Int32.ofNat c), .int (Int32.ofNat p), .ref 21] g u (fun big n0 => sg_ez_54 big n0 g u (Int32.ofNat p) (Int32.ofNat c) (g 21 p)) ?_
  refine q_iast (j := p) (q_ixn (by omega) (by omega)) rfl rfl ?_
  refine q_ret 2 (some (.int (g 21 p)), (q_up g 21 p (Int32.ofNat c)), u) (fun _ _ => rfl) ?_
  rfl
theorem rg_put0 {n W H : Nat} {g r : qM} (u : qW) (h : w_ok n W H r) (hs : w_sm n (s_start g) r) (hn : g 70 4 = Int32.ofNat n) (h6 : n ≤ 5) {c N : Nat} (hN : g 70 2 * g 70 3 = Int32.ofNat N) (h25 : N ≤ 25) (hc : c < N) {p : Nat} (hp : p < n) (hcw : c < W * H) (hcan : p_can n r p c = 0) : q_BS 176 [.ref 70, .int (Int32.ofNat p), .int (Int32.ofNat c)] g u (some (.int (Int32.ofInt (-1))), s_start g, u) := by
  refine q_bx (mm := m_176) rfl (Nat.le_of_ble_eq_true rfl) rfl ?_
  refine q_step 2 2 [(0, .ref 70), (1, .int (Int32.ofNat p)), (2, .int (Int32.ofNat c))] [.int (Int32.ofNat p), .ref 70] g u (fun big n0 => sg_ez_55 big n0 g u (Int32.ofNat p) (Int32.ofNat c)) ?_
  refine q_call (M2 := 169) (rest := []) (b_risOne1 g u hn (by omega) hp) (fun _ _ => rfl) ?_
  refine q_step 3 10 [(0, .ref 70), (1, .int (Int32.ofNat p)), (2, .int (Int32.ofNat c))] [.int (Int32.ofNat c), .ref 70] g u (fun big n0 => sg_ez_56 big n0 g u (Int32.ofNat p) (Int32.ofNat c)) ?_
  refine q_call (M2 := 171) (rest := []) (b_risCell1 g u hN h25 hc) (fun _ _ => rfl) ?_
  refine q_step 2 19 [(0, .ref 70), (1, .int (Int32.ofNat p)), (2, .int (Int32.ofNat c))] [.ref 70] g u (fun big n0 => sg_ez_57 big n0 g u (Int32.ofNat p) (Int32.ofNat c)) ?_
  refine q_call (M2 := 172) (rest := []) (b_starts g u) (fun _ _ => rfl) ?_
  refine q_step 2 24 [(0, .ref 70), (1, .int (Int32.ofNat p)), (2, .int (Int32.ofNat c))] [.int (Int32.ofNat c), .ref 70] (s_start g) u (fun big n0 => sg_ez_58 big n0 (s_start g) u (Int32.ofNat p) (Int32.ofNat c)) ?_
  have hwho := b_rwho (s_start g) u (Int32.ofNat c) (w_w0 h hs).1 (w_w0 h hs).2.1
  rw [w_who_r h hs] at hwho
  refine q_call (M2 := 173) (rest := []) (hwho) (fun _ _ => rfl) ?_
  refine q_step 3 30 [(0, .ref 70), (1, .int (Int32.ofNat p)), (2, .int (Int32.ofNat c)), (3, .int (f_who n r (Int32.ofNat c)))] [.int (Int32.ofNat c), .ref 70] (s_start g) u (fun big n0 => sg_ez_59 big n0 (s_start g) u (Int32.ofNat p) (Int32.ofNat c) (f_who n r (Int32.ofNat c))) ?_
  refine q_call (M2 := 177) (rest := []) (b_open (Int32.ofNat c) (s_start g) u) (fun _ _ => rfl) ?_
  refine q_if_eq rfl (fun (hc0 : (s_op ((s_start g) 71 20) (Int32.ofNat c)) = 0) => ?_) (fun (hc0 : ¬ ((s_op ((s_start g) 71 20) (Int32.ofNat c)) = 0)) => ?_)
  · refine q_ret 2 (some (.int (Int32.ofInt (-1))), (s_start g), u) (fun _ _ => rfl) ?_
    rfl
  · refine q_step 2 39 [(0, .ref 70), (1, .int (Int32.ofNat p)), (2, .int (Int32.ofNat c)), (3, .int (f_who n r (Int32.ofNat c)))] [.int (Int8.toInt32 (Int8.ofInt (-4))), .int (f_who n r (Int32.ofNat c))] (s_start g) u (fun big n0 => sg_ez_60 big n0 (s_start g) u (Int32.ofNat p) (Int32.ofNat c) (f_who n r (Int32.ofNat c))) ?_
    refine q_ic_eq rfl (fun (hc1 : (f_who n r (Int32.ofNat c)) = (Int8.toInt32 (Int8.ofInt (-4)))) => ?_) (fun (hc1 : ¬ ((f_who n r (Int32.ofNat c)) = (Int8.toInt32 (Int8.ofInt (-4))))) => ?_)
    · refine q_step 5 52 [(0, .ref 70), (1, .int (Int32.ofNat p)), (2, .int (Int32.ofNat c)), (3, .int (f_who n r (Int32.ofNat c)))] [.int (Int32.ofNat c), .int ((0 : Int32) + (Int32.ofNat p)), .ref 70] (s_start g) u (fun big n0 => sg_ez_61 big n0 (s_start g) u (Int32.ofNat p) (Int32.ofNat c) (f_who n r (Int32.ofNat c))) ?_
      refine q_call (M2 := 175) (rest := []) (b_rbec ((0 : Int32) + (Int32.ofNat p)) (Int32.ofNat c) (0 + p) (s_start g) u (s_rixn (K := 0) (i := p) (by omega))) (fun _ _ => rfl) ?_
      refine q_ret 2 (some (.int ((s_start g) 71 (0 + p))), (q_up (s_start g) 71 (0 + p) (Int32.ofNat c)), u) (fun _ _ => rfl) ?_
      exfalso
      have z := w_can h hp (c := c) hcw
      rw [show s_op (r 71 20) (Int32.ofNat c) = s_op ((s_start g) 71 20) (Int32.ofNat c) from by rw [hs.1.2.2.2.1], if_neg hc0, if_pos hc1, hcan] at z
      exact absurd z (by decide)
    · refine q_step 2 44 [(0, .ref 70), (1, .int (Int32.ofNat p)), (2, .int (Int32.ofNat c)), (3, .int (f_who n r (Int32.ofNat c)))] [.int (Int32.ofNat p), .int (f_who n r (Int32.ofNat c))] (s_start g) u (fun big n0 => sg_ez_62 big n0 (s_start g) u (Int32.ofNat p) (Int32.ofNat c) (f_who n r (Int32.ofNat c))) ?_
      refine q_ic_ne rfl (fun (hc2 : (f_who n r (Int32.ofNat c)) = (Int32.ofNat p)) => ?_) (fun (hc2 : ¬ ((f_who n r (Int32.ofNat c)) = (Int32.ofNat p))) => ?_)
      · refine q_step 5 52 [(0, .ref 70), (1, .int (Int32.ofNat p)), (2, .int (Int32.ofNat c)), (3, .int (f_who n r (Int32.ofNat c)))] [.int (Int32.ofNat c), .int ((0 : Int32) + (Int32.ofNat p)), .ref 70] (s_start g) u (fun big n0 => sg_ez_61 big n0 (s_start g) u (Int32.ofNat p) (Int32.ofNat c) (f_who n r (Int32.ofNat c))) ?_
        refine q_call (M2 := 175) (rest := []) (b_rbec ((0 : Int32) + (Int32.ofNat p)) (Int32.ofNat c) (0 + p) (s_start g) u (s_rixn (K := 0) (i := p) (by omega))) (fun _ _ => rfl) ?_
        refine q_ret 2 (some (.int ((s_start g) 71 (0 + p))), (q_up (s_start g) 71 (0 + p) (Int32.ofNat c)), u) (fun _ _ => rfl) ?_
        exfalso
        have z := w_can h hp (c := c) hcw
        rw [show s_op (r 71 20) (Int32.ofNat c) = s_op ((s_start g) 71 20) (Int32.ofNat c) from by rw [hs.1.2.2.2.1], if_neg hc0, if_neg hc1, if_pos hc2, hcan] at z
        exact absurd z (by decide)
      · refine q_ret 2 (some (.int (Int32.ofInt (-1))), (s_start g), u) (fun _ _ => rfl) ?_
        rfl
theorem rg_put1 {n W H : Nat} {g r : qM} (u : qW) (h : w_ok n W H r) (hs : w_sm n (s_start g) r) (hn : g 70 4 = Int32.ofNat n) (h6 : n ≤ 5) {c N : Nat} (hN : g 70 2 * g 70 3 = Int32.ofNat N) (h25 : N ≤ 25) (hc : c < N) {p : Nat} (hp : p < n) (hcw : c < W * H) (hcan : p_can n r p c = 1) : q_BS 176 [.ref 70, .int (Int32.ofNat p), .int (Int32.ofNat c)] g u (some (.int (g 71 p)), q_up (s_start g) 71 p (Int32.ofNat c), u) := by
  refine q_bx (mm := m_176) rfl (Nat.le_of_ble_eq_true rfl) rfl ?_
  refine q_step 2 2 [(0, .ref 70), (1, .int (Int32.ofNat p)), (2, .int (Int32.ofNat c))] [.int (Int32.ofNat p), .ref 70] g u (fun big n0 => sg_ez_55 big n0 g u (Int32.ofNat p) (Int32.ofNat c)) ?_
  refine q_call (M2 := 169) (rest := []) (b_risOne1 g u hn (by omega) hp) (fun _ _ => rfl) ?_
  refine q_step 3 10 [(0, .ref 70), (1, .int (Int32.ofNat p)), (2, .int (Int32.ofNat c))] [.int (Int32.ofNat c), .ref 70] g u (fun big n0 => sg_ez_56 big n0 g u (Int32.ofNat p) (Int32.ofNat c)) ?_
  refine q_call (M2 := 171) (rest := []) (b_risCell1 g u hN h25 hc) (fun _ _ => rfl) ?_
  refine q_step 2 19 [(0, .ref 70), (1, .int (Int32.ofNat p)), (2, .int (Int32.ofNat c))] [.ref 70] g u (fun big n0 => sg_ez_57 big n0 g u (Int32.ofNat p) (Int32.ofNat c)) ?_
  refine q_call (M2 := 172) (rest := []) (b_starts g u) (fun _ _ => rfl) ?_
  refine q_step 2 24 [(0, .ref 70), (1, .int (Int32.ofNat p)), (2, .int (Int32.ofNat c))] [.int (Int32.ofNat c), .ref 70] (s_start g) u (fun big n0 => sg_ez_58 big n0 (s_start g) u (Int32.ofNat p) (Int32.ofNat c)) ?_
  have hwho := b_rwho (s_start g) u (Int32.ofNat c) (w_w0 h hs).1 (w_w0 h hs).2.1
  rw [w_who_r h hs] at hwho
  refine q_call (M2 := 173) (rest := []) (hwho) (fun _ _ => rfl) ?_
  refine q_step 3 30 [(0, .ref 70), (1, .int (Int32.ofNat p)), (2, .int (Int32.ofNat c)), (3, .int (f_who n r (Int32.ofNat c)))] [.int (Int32.ofNat c), .ref 70] (s_start g) u (fun big n0 => sg_ez_59 big n0 (s_start g) u (Int32.ofNat p) (Int32.ofNat c) (f_who n r (Int32.ofNat c))) ?_
  refine q_call (M2 := 177) (rest := []) (b_open (Int32.ofNat c) (s_start g) u) (fun _ _ => rfl) ?_
  refine q_if_eq rfl (fun (hc0 : (s_op ((s_start g) 71 20) (Int32.ofNat c)) = 0) => ?_) (fun (hc0 : ¬ ((s_op ((s_start g) 71 20) (Int32.ofNat c)) = 0)) => ?_)
  · refine q_ret 2 (some (.int (Int32.ofInt (-1))), (s_start g), u) (fun _ _ => rfl) ?_
    exfalso
    have z := w_can h hp (c := c) hcw
    rw [show s_op (r 71 20) (Int32.ofNat c) = s_op ((s_start g) 71 20) (Int32.ofNat c) from by rw [hs.1.2.2.2.1], if_pos hc0, hcan] at z
    exact absurd z (by decide)
  · refine q_step 2 39 [(0, .ref 70), (1, .int (Int32.ofNat p)), (2, .int (Int32.ofNat c)), (3, .int (f_who n r (Int32.ofNat c)))] [.int (Int8.toInt32 (Int8.ofInt (-4))), .int (f_who n r (Int32.ofNat c))] (s_start g) u (fun big n0 => sg_ez_60 big n0 (s_start g) u (Int32.ofNat p) (Int32.ofNat c) (f_who n r (Int32.ofNat c))) ?_
    refine q_ic_eq rfl (fun (hc1 : (f_who n r (Int32.ofNat c)) = (Int8.toInt32 (Int8.ofInt (-4)))) => ?_) (fun (hc1 : ¬ ((f_who n r (Int32.ofNat c)) = (Int8.toInt32 (Int8.ofInt (-4))))) => ?_)
    · refine q_step 5 52 [(0, .ref 70), (1, .int (Int32.ofNat p)), (2, .int (Int32.ofNat c)), (3, .int (f_who n r (Int32.ofNat c)))] [.int (Int32.ofNat c), .int ((0 : Int32) + (Int32.ofNat p)), .ref 70] (s_start g) u (fun big n0 => sg_ez_61 big n0 (s_start g) u (Int32.ofNat p) (Int32.ofNat c) (f_who n r (Int32.ofNat c))) ?_
      refine q_call (M2 := 175) (rest := []) (b_rbec ((0 : Int32) + (Int32.ofNat p)) (Int32.ofNat c) (0 + p) (s_start g) u (s_rixn (K := 0) (i := p) (by omega))) (fun _ _ => rfl) ?_
      refine q_ret 2 (some (.int ((s_start g) 71 (0 + p))), (q_up (s_start g) 71 (0 + p) (Int32.ofNat c)), u) (fun _ _ => rfl) ?_
      exact congrArg (fun j => (some (Value.int (g 71 j)), q_up (s_start g) 71 j (Int32.ofNat c), u)) (Nat.zero_add p)
    · refine q_step 2 44 [(0, .ref 70), (1, .int (Int32.ofNat p)), (2, .int (Int32.ofNat c)), (3, .int (f_who n r (Int32.ofNat c)))] [.int (Int32.ofNat p), .int (f_who n r (Int32.ofNat c))] (s_start g) u (fun big n0 => sg_ez_62 big n0 (s_start g) u (Int32.ofNat p) (Int32.ofNat c) (f_who n r (Int32.ofNat c))) ?_
      refine q_ic_ne rfl (fun (hc2 : (f_who n r (Int32.ofNat c)) = (Int32.ofNat p)) => ?_) (fun (hc2 : ¬ ((f_who n r (Int32.ofNat c)) = (Int32.ofNat p))) => ?_)
      · refine q_step 5 52 [(0, .ref 70), (1, .int (Int32.ofNat p)), (2, .int (Int32.ofNat c)), (3, .int (f_who n r (Int32.ofNat c)))] [.int (Int32.ofNat c), .int ((0 : Int32) + (Int32.ofNat p)), .ref 70] (s_start g) u (fun big n0 => sg_ez_61 big n0 (s_start g) u (Int32.ofNat p) (Int32.ofNat c) (f_who n r (Int32.ofNat c))) ?_
        refine q_call (M2 := 175) (rest := []) (b_rbec ((0 : Int32) + (Int32.ofNat p)) (Int32.ofNat c) (0 + p) (s_start g) u (s_rixn (K := 0) (i := p) (by omega))) (fun _ _ => rfl) ?_
        refine q_ret 2 (some (.int ((s_start g) 71 (0 + p))), (q_up (s_start g) 71 (0 + p) (Int32.ofNat c)), u) (fun _ _ => rfl) ?_
        exact congrArg (fun j => (some (Value.int (g 71 j)), q_up (s_start g) 71 j (Int32.ofNat c), u)) (Nat.zero_add p)
      · refine q_ret 2 (some (.int (Int32.ofInt (-1))), (s_start g), u) (fun _ _ => rfl) ?_
        exfalso
        have z := w_can h hp (c := c) hcw
        rw [show s_op (r 71 20) (Int32.ofNat c) = s_op ((s_start g) 71 20) (Int32.ofNat c) from by rw [hs.1.2.2.2.1], if_neg hc0, if_neg hc1, if_neg hc2, hcan] at z
        exact absurd z (by decide)
theorem cg_wall00 {n : Nat} (g : qM) (u : qW) (hn : g 20 3 = Int32.ofNat n) (h6 : n ≤ 6) {c N : Nat} (hN : g 20 0 * g 20 1 = Int32.ofNat N) (h25 : N ≤ 25) (hc : c < N) (hw : ¬ s_w1 (g 21) (Int32.ofNat c) n 0 = i_none) : q_BS 53 [.ref 8, .int (Int32.ofNat c), .int (0 : Int32)] g u (some (.int (Int32.ofInt (-1))), g, u) := by
  refine q_bx (mm := m_53) rfl (Nat.le_of_ble_eq_true rfl) rfl ?_
  refine q_step 3 5 [(0, .ref 8), (1, .int (Int32.ofNat c)), (2, .int (0 : Int32))] [.int (Int32.ofNat c), .ref 20] g u (fun big n0 => sg_ez_63 big n0 g u (Int32.ofNat c)) ?_
  refine q_call (M2 := 38) (rest := []) (b_hasCell1 g u hN h25 hc) (fun _ _ => rfl) ?_
  refine q_step 4 16 [(0, .ref 8), (1, .int (Int32.ofNat c)), (2, .int (0 : Int32))] [.int (Int32.ofNat c), .ref 20] g u (fun big n0 => sg_ez_64 big n0 g u (Int32.ofNat c)) ?_
  refine q_call (M2 := 30) (rest := []) (b_who20 (Int32.ofNat c) g u hn h6) (fun _ _ => rfl) ?_
  refine q_step 1 21 [(0, .ref 8), (1, .int (Int32.ofNat c)), (2, .int (0 : Int32))] [.int (Int8.toInt32 (Int8.ofInt (-4))), .int (s_w1 (g 21) (Int32.ofNat c) n 0)] g u (fun big n0 => sg_ez_65 big n0 g u (Int32.ofNat c) (s_w1 (g 21) (Int32.ofNat c) n 0)) ?_
  refine q_ic_eq rfl (fun hc0 => absurd (show (s_w1 (g 21) (Int32.ofNat c) n 0) = (Int8.toInt32 (Int8.ofInt (-4))) from hc0) (hw)) (fun (hc0 : ¬ ((s_w1 (g 21) (Int32.ofNat c) n 0) = (Int8.toInt32 (Int8.ofInt (-4))))) => ?_)
  refine q_ret 2 (some (.int (Int32.ofInt (-1))), g, u) (fun _ _ => rfl) ?_
  rfl
theorem rg_wall00 {n W H : Nat} {g r : qM} (u : qW) (h : w_ok n W H r) (hs : w_sm n (s_start g) r) (hn : g 70 4 = Int32.ofNat n) (h6 : n ≤ 5) {c N : Nat} (hN : g 70 2 * g 70 3 = Int32.ofNat N) (h25 : N ≤ 25) (hc : c < N) (hw : ¬ (f_who n r (Int32.ofNat c)) = i_none) : q_BS 180 [.ref 70, .int (Int32.ofNat c), .int (0 : Int32)] g u (some (.int (Int32.ofInt (-1))), s_start g, u) := by
  refine q_bx (mm := m_180) rfl (Nat.le_of_ble_eq_true rfl) rfl ?_
  refine q_step 2 2 [(0, .ref 70), (1, .int (Int32.ofNat c)), (2, .int (0 : Int32))] [.int (Int32.ofNat c), .ref 70] g u (fun big n0 => sg_ez_66 big n0 g u (Int32.ofNat c)) ?_
  refine q_call (M2 := 171) (rest := []) (b_risCell1 g u hN h25 hc) (fun _ _ => rfl) ?_
  refine q_step 2 11 [(0, .ref 70), (1, .int (Int32.ofNat c)), (2, .int (0 : Int32))] [.ref 70] g u (fun big n0 => sg_ez_67 big n0 g u (Int32.ofNat c)) ?_
  refine q_call (M2 := 172) (rest := []) (b_starts g u) (fun _ _ => rfl) ?_
  refine q_step 2 16 [(0, .ref 70), (1, .int (Int32.ofNat c)), (2, .int (0 : Int32))] [.int (Int32.ofNat c), .ref 70] (s_start g) u (fun big n0 => sg_ez_68 big n0 (s_start g) u (Int32.ofNat c)) ?_
  have hwho := b_rwho (s_start g) u (Int32.ofNat c) (w_w0 h hs).1 (w_w0 h hs).2.1
  rw [w_who_r h hs] at hwho
  refine q_call (M2 := 173) (rest := []) (hwho) (fun _ _ => rfl) ?_
  refine q_step 1 21 [(0, .ref 70), (1, .int (Int32.ofNat c)), (2, .int (0 : Int32))] [.int (Int8.toInt32 (Int8.ofInt (-4))), .int (f_who n r (Int32.ofNat c))] (s_start g) u (fun big n0 => sg_ez_69 big n0 (s_start g) u (Int32.ofNat c) (f_who n r (Int32.ofNat c))) ?_
  refine q_ic_eq rfl (fun hc0 => absurd (show (f_who n r (Int32.ofNat c)) = (Int8.toInt32 (Int8.ofInt (-4))) from hc0) (hw)) (fun (hc0 : ¬ ((f_who n r (Int32.ofNat c)) = (Int8.toInt32 (Int8.ofInt (-4))))) => ?_)
  refine q_ret 2 (some (.int (Int32.ofInt (-1))), (s_start g), u) (fun _ _ => rfl) ?_
  rfl
theorem cg_wall01 {n : Nat} (g : qM) (u : qW) (hn : g 20 3 = Int32.ofNat n) (h6 : n ≤ 6) {c N : Nat} (hN : g 20 0 * g 20 1 = Int32.ofNat N) (h25 : N ≤ 25) (hc : c < N) (hw : s_w1 (g 21) (Int32.ofNat c) n 0 = i_none) : q_BS 53 [.ref 8, .int (Int32.ofNat c), .int (0 : Int32)] g u (some (.int (if d_hasWall (Int32.ofNat c) g = 0 then (0 : Int32) else 1)), q_up g 20 2 ((g 20 2) &&& (((1 : Int32) <<< ((Int32.ofNat c) &&& 31)) ^^^ (Int32.ofInt (-1)))), u) := by
  refine q_bx (mm := m_53) rfl (Nat.le_of_ble_eq_true rfl) rfl ?_
  refine q_step 3 5 [(0, .ref 8), (1, .int (Int32.ofNat c)), (2, .int (0 : Int32))] [.int (Int32.ofNat c), .ref 20] g u (fun big n0 => sg_ez_63 big n0 g u (Int32.ofNat c)) ?_
  refine q_call (M2 := 38) (rest := []) (b_hasCell1 g u hN h25 hc) (fun _ _ => rfl) ?_
  refine q_step 4 16 [(0, .ref 8), (1, .int (Int32.ofNat c)), (2, .int (0 : Int32))] [.int (Int32.ofNat c), .ref 20] g u (fun big n0 => sg_ez_64 big n0 g u (Int32.ofNat c)) ?_
  refine q_call (M2 := 30) (rest := []) (b_who20 (Int32.ofNat c) g u hn h6) (fun _ _ => rfl) ?_
  refine q_step 1 21 [(0, .ref 8), (1, .int (Int32.ofNat c)), (2, .int (0 : Int32))] [.int (Int8.toInt32 (Int8.ofInt (-4))), .int (s_w1 (g 21) (Int32.ofNat c) n 0)] g u (fun big n0 => sg_ez_65 big n0 g u (Int32.ofNat c) (s_w1 (g 21) (Int32.ofNat c) n 0)) ?_
  refine q_ic_eq rfl (fun (hc0 : (s_w1 (g 21) (Int32.ofNat c) n 0) = (Int8.toInt32 (Int8.ofInt (-4)))) => ?_) (fun hc0 => absurd (show (s_w1 (g 21) (Int32.ofNat c) n 0) = (Int8.toInt32 (Int8.ofInt (-4))) from hw) hc0)
  refine q_step 3 31 [(0, .ref 8), (1, .int (Int32.ofNat c)), (2, .int (0 : Int32))] [.int (Int32.ofNat c), .ref 20] g u (fun big n0 => sg_ez_70 big n0 g u (Int32.ofNat c)) ?_
  refine q_call (M2 := 29) (rest := []) (b_hasWall _ _ _) (fun _ _ => rfl) ?_
  refine q_if_eq rfl (fun (hc1 : (d_hasWall (Int32.ofNat c) g) = 0) => ?_) (fun (hc1 : ¬ ((d_hasWall (Int32.ofNat c) g) = 0)) => ?_)
  · refine q_ret 18 (some (.int (0 : Int32)), (q_up g 20 2 ((g 20 2) &&& (((1 : Int32) <<< ((Int32.ofNat c) &&& 31)) ^^^ (Int32.ofInt (-1))))), u) (fun _ _ => rfl) ?_
    rw [if_pos hc1]
  · refine q_ret 19 (some (.int (1 : Int32)), (q_up g 20 2 ((g 20 2) &&& (((1 : Int32) <<< ((Int32.ofNat c) &&& 31)) ^^^ (Int32.ofInt (-1))))), u) (fun _ _ => rfl) ?_
    rw [if_neg hc1]
theorem rg_wall01 {n W H : Nat} {g r : qM} (u : qW) (h : w_ok n W H r) (hs : w_sm n (s_start g) r) (hn : g 70 4 = Int32.ofNat n) (h6 : n ≤ 5) {c N : Nat} (hN : g 70 2 * g 70 3 = Int32.ofNat N) (h25 : N ≤ 25) (hc : c < N) (hw : (f_who n r (Int32.ofNat c)) = i_none) : q_BS 180 [.ref 70, .int (Int32.ofNat c), .int (0 : Int32)] g u (some (.int (s_bit (g 71 20) (Int32.ofNat c))), q_up (s_start g) 71 20 ((g 71 20) &&& (((1 : Int32) <<< ((Int32.ofNat c) &&& 31)) ^^^ (Int32.ofInt (-1)))), u) := by
  refine q_bx (mm := m_180) rfl (Nat.le_of_ble_eq_true rfl) rfl ?_
  refine q_step 2 2 [(0, .ref 70), (1, .int (Int32.ofNat c)), (2, .int (0 : Int32))] [.int (Int32.ofNat c), .ref 70] g u (fun big n0 => sg_ez_66 big n0 g u (Int32.ofNat c)) ?_
  refine q_call (M2 := 171) (rest := []) (b_risCell1 g u hN h25 hc) (fun _ _ => rfl) ?_
  refine q_step 2 11 [(0, .ref 70), (1, .int (Int32.ofNat c)), (2, .int (0 : Int32))] [.ref 70] g u (fun big n0 => sg_ez_67 big n0 g u (Int32.ofNat c)) ?_
  refine q_call (M2 := 172) (rest := []) (b_starts g u) (fun _ _ => rfl) ?_
  refine q_step 2 16 [(0, .ref 70), (1, .int (Int32.ofNat c)), (2, .int (0 : Int32))] [.int (Int32.ofNat c), .ref 70] (s_start g) u (fun big n0 => sg_ez_68 big n0 (s_start g) u (Int32.ofNat c)) ?_
  have hwho := b_rwho (s_start g) u (Int32.ofNat c) (w_w0 h hs).1 (w_w0 h hs).2.1
  rw [w_who_r h hs] at hwho
  refine q_call (M2 := 173) (rest := []) (hwho) (fun _ _ => rfl) ?_
  refine q_step 1 21 [(0, .ref 70), (1, .int (Int32.ofNat c)), (2, .int (0 : Int32))] [.int (Int8.toInt32 (Int8.ofInt (-4))), .int (f_who n r (Int32.ofNat c))] (s_start g) u (fun big n0 => sg_ez_69 big n0 (s_start g) u (Int32.ofNat c) (f_who n r (Int32.ofNat c))) ?_
  refine q_ic_eq rfl (fun (hc0 : (f_who n r (Int32.ofNat c)) = (Int8.toInt32 (Int8.ofInt (-4)))) => ?_) (fun hc0 => absurd (show (f_who n r (Int32.ofNat c)) = (Int8.toInt32 (Int8.ofInt (-4))) from hw) hc0)
  refine q_ret 27 (some (.int ((((s_start g) 71 20) >>> ((Int32.ofNat c) &&& 31)) &&& (1 : Int32))), (q_up (s_start g) 71 20 (((s_start g) 71 20) &&& (((1 : Int32) <<< ((Int32.ofNat c) &&& 31)) ^^^ (Int32.ofInt (-1))))), u) (fun _ _ => rfl) ?_
  rfl
theorem cg_wall10 {n : Nat} (g : qM) (u : qW) (hn : g 20 3 = Int32.ofNat n) (h6 : n ≤ 6) {c N : Nat} (hN : g 20 0 * g 20 1 = Int32.ofNat N) (h25 : N ≤ 25) (hc : c < N) (hw : ¬ s_w1 (g 21) (Int32.ofNat c) n 0 = i_none) : q_BS 53 [.ref 8, .int (Int32.ofNat c), .int (1 : Int32)] g u (some (.int (Int32.ofInt (-1))), g, u) := by
  refine q_bx (mm := m_53) rfl (Nat.le_of_ble_eq_true rfl) rfl ?_
  refine q_step 3 5 [(0, .ref 8), (1, .int (Int32.ofNat c)), (2, .int (1 : Int32))] [.int (Int32.ofNat c), .ref 20] g u (fun big n0 => sg_ez_71 big n0 g u (Int32.ofNat c)) ?_
  refine q_call (M2 := 38) (rest := []) (b_hasCell1 g u hN h25 hc) (fun _ _ => rfl) ?_
  refine q_step 4 16 [(0, .ref 8), (1, .int (Int32.ofNat c)), (2, .int (1 : Int32))] [.int (Int32.ofNat c), .ref 20] g u (fun big n0 => sg_ez_72 big n0 g u (Int32.ofNat c)) ?_
  refine q_call (M2 := 30) (rest := []) (b_who20 (Int32.ofNat c) g u hn h6) (fun _ _ => rfl) ?_
  refine q_step 1 21 [(0, .ref 8), (1, .int (Int32.ofNat c)), (2, .int (1 : Int32))] [.int (Int8.toInt32 (Int8.ofInt (-4))), .int (s_w1 (g 21) (Int32.ofNat c) n 0)] g u (fun big n0 => sg_ez_73 big n0 g u (Int32.ofNat c) (s_w1 (g 21) (Int32.ofNat c) n 0)) ?_
  refine q_ic_eq rfl (fun hc0 => absurd (show (s_w1 (g 21) (Int32.ofNat c) n 0) = (Int8.toInt32 (Int8.ofInt (-4))) from hc0) (hw)) (fun (hc0 : ¬ ((s_w1 (g 21) (Int32.ofNat c) n 0) = (Int8.toInt32 (Int8.ofInt (-4))))) => ?_)
  refine q_ret 2 (some (.int (Int32.ofInt (-1))), g, u) (fun _ _ => rfl) ?_
  rfl
theorem rg_wall10 {n W H : Nat} {g r : qM} (u : qW) (h : w_ok n W H r) (hs : w_sm n (s_start g) r) (hn : g 70 4 = Int32.ofNat n) (h6 : n ≤ 5) {c N : Nat} (hN : g 70 2 * g 70 3 = Int32.ofNat N) (h25 : N ≤ 25) (hc : c < N) (hw : ¬ (f_who n r (Int32.ofNat c)) = i_none) : q_BS 180 [.ref 70, .int (Int32.ofNat c), .int (1 : Int32)] g u (some (.int (Int32.ofInt (-1))), s_start g, u) := by
  refine q_bx (mm := m_180) rfl (Nat.le_of_ble_eq_true rfl) rfl ?_
  refine q_step 2 2 [(0, .ref 70), (1, .int (Int32.ofNat c)), (2, .int (1 : Int32))] [.int (Int32.ofNat c), .ref 70] g u (fun big n0 => sg_ez_74 big n0 g u (Int32.ofNat c)) ?_
  refine q_call (M2 := 171) (rest := []) (b_risCell1 g u hN h25 hc) (fun _ _ => rfl) ?_
  refine q_step 2 11 [(0, .ref 70), (1, .int (Int32.ofNat c)), (2, .int (1 : Int32))] [.ref 70] g u (fun big n0 => sg_ez_75 big n0 g u (Int32.ofNat c)) ?_
  refine q_call (M2 := 172) (rest := []) (b_starts g u) (fun _ _ => rfl) ?_
  refine q_step 2 16 [(0, .ref 70), (1, .int (Int32.ofNat c)), (2, .int (1 : Int32))] [.int (Int32.ofNat c), .ref 70] (s_start g) u (fun big n0 => sg_ez_76 big n0 (s_start g) u (Int32.ofNat c)) ?_
  have hwho := b_rwho (s_start g) u (Int32.ofNat c) (w_w0 h hs).1 (w_w0 h hs).2.1
  rw [w_who_r h hs] at hwho
  refine q_call (M2 := 173) (rest := []) (hwho) (fun _ _ => rfl) ?_
  refine q_step 1 21 [(0, .ref 70), (1, .int (Int32.ofNat c)), (2, .int (1 : Int32))] [.int (Int8.toInt32 (Int8.ofInt (-4))), .int (f_who n r (Int32.ofNat c))] (s_start g) u (fun big n0 => sg_ez_77 big n0 (s_start g) u (Int32.ofNat c) (f_who n r (Int32.ofNat c))) ?_
  refine q_ic_eq rfl (fun hc0 => absurd (show (f_who n r (Int32.ofNat c)) = (Int8.toInt32 (Int8.ofInt (-4))) from hc0) (hw)) (fun (hc0 : ¬ ((f_who n r (Int32.ofNat c)) = (Int8.toInt32 (Int8.ofInt (-4))))) => ?_)
  refine q_ret 2 (some (.int (Int32.ofInt (-1))), (s_start g), u) (fun _ _ => rfl) ?_
  rfl
theorem cg_wall11 {n : Nat} (g : qM) (u : qW) (hn : g 20 3 = Int32.ofNat n) (h6 : n ≤ 6) {c N : Nat} (hN : g 20 0 * g 20 1 = Int32.ofNat N) (h25 : N ≤ 25) (hc : c < N) (hw : s_w1 (g 21) (Int32.ofNat c) n 0 = i_none) : q_BS 53 [.ref 8, .int (Int32.ofNat c), .int (1 : Int32)] g u (some (.int (if d_hasWall (Int32.ofNat c) g = 0 then (0 : Int32) else 1)), q_up g 20 2 ((g 20 2) ||| ((1 : Int32) <<< ((Int32.ofNat c) &&& 31))), u) := by
  refine q_bx (mm := m_53) rfl (Nat.le_of_ble_eq_true rfl) rfl ?_
  refine q_step 3 5 [(0, .ref 8), (1, .int (Int32.ofNat c)), (2, .int (1 : Int32))] [.int (Int32.ofNat c), .ref 20] g u (fun big n0 => sg_ez_71 big n0 g u (Int32.ofNat c)) ?_
  refine q_call (M2 := 38) (rest := []) (b_hasCell1 g u hN h25 hc) (fun _ _ => rfl) ?_
  refine q_step 4 16 [(0, .ref 8), (1, .int (Int32.ofNat c)), (2, .int (1 : Int32))] [.int (Int32.ofNat c), .ref 20] g u (fun big n0 => sg_ez_72 big n0 g u (Int32.ofNat c)) ?_
  refine q_call (M2 := 30) (rest := []) (b_who20 (Int32.ofNat c) g u hn h6) (fun _ _ => rfl) ?_
  refine q_step 1 21 [(0, .ref 8), (1, .int (Int32.ofNat c)), (2, .int (1 : Int32))] [.int (Int8.toInt32 (Int8.ofInt (-4))), .int (s_w1 (g 21) (Int32.ofNat c) n 0)] g u (fun big n0 => sg_ez_73 big n0 g u (Int32.ofNat c) (s_w1 (g 21) (Int32.ofNat c) n 0)) ?_
  refine q_ic_eq rfl (fun (hc0 : (s_w1 (g 21) (Int32.ofNat c) n 0) = (Int8.toInt32 (Int8.ofInt (-4)))) => ?_) (fun hc0 => absurd (show (s_w1 (g 21) (Int32.ofNat c) n 0) = (Int8.toInt32 (Int8.ofInt (-4))) from hw) hc0)
  refine q_step 3 31 [(0, .ref 8), (1, .int (Int32.ofNat c)), (2, .int (1 : Int32))] [.int (Int32.ofNat c), .ref 20] g u (fun big n0 => sg_ez_78 big n0 g u (Int32.ofNat c)) ?_
  refine q_call (M2 := 29) (rest := []) (b_hasWall _ _ _) (fun _ _ => rfl) ?_
  refine q_if_eq rfl (fun (hc1 : (d_hasWall (Int32.ofNat c) g) = 0) => ?_) (fun (hc1 : ¬ ((d_hasWall (Int32.ofNat c) g) = 0)) => ?_)
  · refine q_ret 17 (some (.int (0 : Int32)), (q_up g 20 2 ((g 20 2) ||| ((1 : Int32) <<< ((Int32.ofNat c) &&& 31)))), u) (fun _ _ => rfl) ?_
    rw [if_pos hc1]
  · refine q_ret 18 (some (.int (1 : Int32)), (q_up g 20 2 ((g 20 2) ||| ((1 : Int32) <<< ((Int32.ofNat c) &&& 31)))), u) (fun _ _ => rfl) ?_
    rw [if_neg hc1]
theorem rg_wall11 {n W H : Nat} {g r : qM} (u : qW) (h : w_ok n W H r) (hs : w_sm n (s_start g) r) (hn : g 70 4 = Int32.ofNat n) (h6 : n ≤ 5) {c N : Nat} (hN : g 70 2 * g 70 3 = Int32.ofNat N) (h25 : N ≤ 25) (hc : c < N) (hw : (f_who n r (Int32.ofNat c)) = i_none) : q_BS 180 [.ref 70, .int (Int32.ofNat c), .int (1 : Int32)] g u (some (.int (s_bit (g 71 20) (Int32.ofNat c))), q_up (s_start g) 71 20 ((g 71 20) ||| ((1 : Int32) <<< ((Int32.ofNat c) &&& 31))), u) := by
  refine q_bx (mm := m_180) rfl (Nat.le_of_ble_eq_true rfl) rfl ?_
  refine q_step 2 2 [(0, .ref 70), (1, .int (Int32.ofNat c)), (2, .int (1 : Int32))] [.int (Int32.ofNat c), .ref 70] g u (fun big n0 => sg_ez_74 big n0 g u (Int32.ofNat c)) ?_
  refine q_call (M2 := 171) (rest := []) (b_risCell1 g u hN h25 hc) (fun _ _ => rfl) ?_
  refine q_step 2 11 [(0, .ref 70), (1, .int (Int32.ofNat c)), (2, .int (1 : Int32))] [.ref 70] g u (fun big n0 => sg_ez_75 big n0 g u (Int32.ofNat c)) ?_
  refine q_call (M2 := 172) (rest := []) (b_starts g u) (fun _ _ => rfl) ?_
  refine q_step 2 16 [(0, .ref 70), (1, .int (Int32.ofNat c)), (2, .int (1 : Int32))] [.int (Int32.ofNat c), .ref 70] (s_start g) u (fun big n0 => sg_ez_76 big n0 (s_start g) u (Int32.ofNat c)) ?_
  have hwho := b_rwho (s_start g) u (Int32.ofNat c) (w_w0 h hs).1 (w_w0 h hs).2.1
  rw [w_who_r h hs] at hwho
  refine q_call (M2 := 173) (rest := []) (hwho) (fun _ _ => rfl) ?_
  refine q_step 1 21 [(0, .ref 70), (1, .int (Int32.ofNat c)), (2, .int (1 : Int32))] [.int (Int8.toInt32 (Int8.ofInt (-4))), .int (f_who n r (Int32.ofNat c))] (s_start g) u (fun big n0 => sg_ez_77 big n0 (s_start g) u (Int32.ofNat c) (f_who n r (Int32.ofNat c))) ?_
  refine q_ic_eq rfl (fun (hc0 : (f_who n r (Int32.ofNat c)) = (Int8.toInt32 (Int8.ofInt (-4)))) => ?_) (fun hc0 => absurd (show (f_who n r (Int32.ofNat c)) = (Int8.toInt32 (Int8.ofInt (-4))) from hw) hc0)
  refine q_ret 26 (some (.int ((((s_start g) 71 20) >>> ((Int32.ofNat c) &&& 31)) &&& (1 : Int32))), (q_up (s_start g) 71 20 (((s_start g) 71 20) ||| ((1 : Int32) <<< ((Int32.ofNat c) &&& 31)))), u) (fun _ _ => rfl) ?_
  rfl
theorem cg_see {n : Nat} (g : qM) (u : qW) (hn : g 20 3 = Int32.ofNat n) (h6 : n ≤ 6) {p : Nat} (hp : p < n) {y : Nat} (hy : y ≤ 4) {z : Nat} (hz8 : z ≤ 8) (hsn : g 20 6 = Int32.ofNat z) (hz : z < 8) : q_BS 118 [.ref 8, .int (Int32.ofNat p), .int (Int32.ofNat y)] g u (some (.int (g 20 6 + 1)), q_up (q_up (q_up g 26 z (Int32.ofNat p)) 27 z (Int32.ofNat y)) 20 6 (g 20 6 + 1), u) := by
  refine q_bx (mm := m_118) rfl (Nat.le_of_ble_eq_true rfl) rfl ?_
  refine q_step 3 5 [(0, .ref 8), (1, .int (Int32.ofNat p)), (2, .int (Int32.ofNat y))] [.int (Int32.ofNat p), .ref 20] g u (fun big n0 => sg_ez_79 big n0 g u (Int32.ofNat p) (Int32.ofNat y)) ?_
  refine q_call (M2 := 40) (rest := []) (b_hasOne1 g u hn h6 hp) (fun _ _ => rfl) ?_
  refine q_step 2 12 [(0, .ref 8), (1, .int (Int32.ofNat p)), (2, .int (Int32.ofNat y))] [.int (Int32.ofNat y)] g u (fun big n0 => sg_ez_80 big n0 g u (Int32.ofNat p) (Int32.ofNat y)) ?_
  refine q_if_lt rfl (fun hc0 => absurd (show (Int32.ofNat y) < 0 from hc0) (fun z => absurd ((q_lt (i := y) (j := 0) (by omega) (by omega)).mp z) (by omega))) (fun (hc0 : ¬ ((Int32.ofNat y) < 0)) => ?_)
  refine q_step 2 17 [(0, .ref 8), (1, .int (Int32.ofNat p)), (2, .int (Int32.ofNat y))] [.int (4 : Int32), .int (Int32.ofNat y)] g u (fun big n0 => sg_ez_81 big n0 g u (Int32.ofNat p) (Int32.ofNat y)) ?_
  refine q_ic_le rfl (fun (hc1 : (Int32.ofNat y) ≤ (4 : Int32)) => ?_) (fun hc1 => absurd (show (Int32.ofNat y) ≤ (4 : Int32) from (q_le (i := y) (j := 4) (by omega) (by omega)).mpr (by omega)) hc1)
  refine q_step 4 31 [(0, .ref 8), (1, .int (Int32.ofNat p)), (2, .int (Int32.ofNat y))] [.int (8 : Int32), .int (g 20 6)] g u (fun big n0 => sg_ez_82 big n0 g u (Int32.ofNat p) (Int32.ofNat y)) ?_
  refine q_ic_lt rfl (fun (hc2 : (g 20 6) < (8 : Int32)) => ?_) (fun hc2 => absurd (show (g 20 6) < (8 : Int32) from by rw [hsn]; exact (q_lt (i := z) (j := 8) (by omega) (by omega)).mpr hz) hc2)
  refine q_step 7 52 [(0, .ref 8), (1, .int (Int32.ofNat p)), (2, .int (Int32.ofNat y))] [.int (Int32.ofNat p), .int (g 20 6), .ref 26] g u (fun big n0 => sg_ez_83 big n0 g u (Int32.ofNat p) (Int32.ofNat y)) ?_
  refine q_iast (j := z) (by rw [hsn]; exact q_ixn (by omega) (by omega)) rfl rfl ?_
  refine q_step 7 68 [(0, .ref 8), (1, .int (Int32.ofNat p)), (2, .int (Int32.ofNat y))] [.int (Int32.ofNat y), .int (g 20 6), .ref 27] (q_up g 26 z (Int32.ofNat p)) u (fun big n0 => sg_ez_84 big n0 (q_up g 26 z (Int32.ofNat p)) u (Int32.ofNat p) (Int32.ofNat y)) ?_
  refine q_iast (j := z) (by rw [hsn]; exact q_ixn (by omega) (by omega)) rfl rfl ?_
  refine q_ret 11 (some (.int ((g 20 6) + (1 : Int32))), (q_up (q_up (q_up g 26 z (Int32.ofNat p)) 27 z (Int32.ofNat y)) 20 6 ((g 20 6) + (1 : Int32))), u) (fun _ _ => rfl) ?_
  rfl
theorem cg_see8 {n : Nat} (g : qM) (u : qW) (hn : g 20 3 = Int32.ofNat n) (h6 : n ≤ 6) {p : Nat} (hp : p < n) {y : Nat} (hy : y ≤ 4) (hsn : g 20 6 = Int32.ofNat 8) : q_BS 118 [.ref 8, .int (Int32.ofNat p), .int (Int32.ofNat y)] g u (some (.int (Int8.toInt32 (Int8.ofInt (-3)))), g, u) := by
  refine q_bx (mm := m_118) rfl (Nat.le_of_ble_eq_true rfl) rfl ?_
  refine q_step 3 5 [(0, .ref 8), (1, .int (Int32.ofNat p)), (2, .int (Int32.ofNat y))] [.int (Int32.ofNat p), .ref 20] g u (fun big n0 => sg_ez_79 big n0 g u (Int32.ofNat p) (Int32.ofNat y)) ?_
  refine q_call (M2 := 40) (rest := []) (b_hasOne1 g u hn h6 hp) (fun _ _ => rfl) ?_
  refine q_step 2 12 [(0, .ref 8), (1, .int (Int32.ofNat p)), (2, .int (Int32.ofNat y))] [.int (Int32.ofNat y)] g u (fun big n0 => sg_ez_80 big n0 g u (Int32.ofNat p) (Int32.ofNat y)) ?_
  refine q_if_lt rfl (fun hc0 => absurd (show (Int32.ofNat y) < 0 from hc0) (fun z => absurd ((q_lt (i := y) (j := 0) (by omega) (by omega)).mp z) (by omega))) (fun (hc0 : ¬ ((Int32.ofNat y) < 0)) => ?_)
  refine q_step 2 17 [(0, .ref 8), (1, .int (Int32.ofNat p)), (2, .int (Int32.ofNat y))] [.int (4 : Int32), .int (Int32.ofNat y)] g u (fun big n0 => sg_ez_81 big n0 g u (Int32.ofNat p) (Int32.ofNat y)) ?_
  refine q_ic_le rfl (fun (hc1 : (Int32.ofNat y) ≤ (4 : Int32)) => ?_) (fun hc1 => absurd (show (Int32.ofNat y) ≤ (4 : Int32) from (q_le (i := y) (j := 4) (by omega) (by omega)).mpr (by omega)) hc1)
  refine q_step 4 31 [(0, .ref 8), (1, .int (Int32.ofNat p)), (2, .int (Int32.ofNat y))] [.int (8 : Int32), .int (g 20 6)] g u (fun big n0 => sg_ez_82 big n0 g u (Int32.ofNat p) (Int32.ofNat y)) ?_
  refine q_ic_lt rfl (fun hc2 => absurd (show (g 20 6) < (8 : Int32) from hc2) (by rw [hsn]; decide)) (fun (hc2 : ¬ ((g 20 6) < (8 : Int32))) => ?_)
  refine q_ret 2 (some (.int (Int8.toInt32 (Int8.ofInt (-3)))), g, u) (fun _ _ => rfl) ?_
  rfl
theorem rg_see {n : Nat} (g : qM) (u : qW) (hn : g 70 4 = Int32.ofNat n) (h6 : n ≤ 5) {p : Nat} (hp : p < n) {y : Nat} (hy : y ≤ 4) {z : Nat} (hz8 : z ≤ 8) (hsn : g 71 27 = Int32.ofNat z) (hz : z < 8) : q_BS 212 [.ref 70, .int (Int32.ofNat p), .int (Int32.ofNat y)] g u (some (.int (g 71 27 + 1)), q_up (q_up (q_up g 71 (28 + 2 * z) (Int32.ofNat p)) 71 (29 + 2 * z) (Int32.ofNat y)) 71 27 (g 71 27 + 1), u) := by
  refine q_bx (mm := m_212) rfl (Nat.le_of_ble_eq_true rfl) rfl ?_
  have hx1 : (28 : Int32) + (2 : Int32) * g 71 27 = Int32.ofNat (28 + 2 * z) := by
    rw [hsn, show (28 : Int32) = Int32.ofNat 28 from rfl, show (2 : Int32) = Int32.ofNat 2 from rfl, q_mul, q_add]
  have hx2 : ∀ x, q_up g 71 (28 + 2 * z) x 71 27 = g 71 27 := fun x => by
    rw [q_up_at, if_neg (by omega)]
  have hx3 : ∀ x y, q_up (q_up g 71 (28 + 2 * z) x) 71 (29 + 2 * z) y 71 27 = g 71 27 := fun x y => by
    rw [q_up_at, if_neg (by omega), hx2]
  refine q_step 2 2 [(0, .ref 70), (1, .int (Int32.ofNat p)), (2, .int (Int32.ofNat y))] [.int (Int32.ofNat p), .ref 70] g u (fun big n0 => sg_ez_85 big n0 g u (Int32.ofNat p) (Int32.ofNat y)) ?_
  refine q_call (M2 := 169) (rest := []) (b_risOne1 g u hn (by omega) hp) (fun _ _ => rfl) ?_
  refine q_step 5 14 [(0, .ref 70), (1, .int (Int32.ofNat p)), (2, .int (Int32.ofNat y))] [.long (4 : Int64), .long (0 : Int64), .long (Int32.toInt64 (Int32.ofNat y))] g u (fun big n0 => sg_ez_86 big n0 g u (Int32.ofNat p) (Int32.ofNat y)) ?_
  refine q_call (M2 := 149) (rest := []) (b_in1 (m := y) (lo := 0) (hi := 4) g u (by omega) (by omega) (by omega)) (fun _ _ => rfl) ?_
  refine q_step 6 31 [(0, .ref 70), (1, .int (Int32.ofNat p)), (2, .int (Int32.ofNat y))] [.int (8 : Int32), .int (g 71 27)] g u (fun big n0 => sg_ez_87 big n0 g u (Int32.ofNat p) (Int32.ofNat y)) ?_
  refine q_ic_ne rfl (fun hc0 => absurd (show (g 71 27) = (8 : Int32) from hc0) (by rw [hsn]; exact fun q => absurd ((q_eq (i := z) (j := 8) (by omega) (by omega)).mp q) (by omega))) (fun (hc0 : ¬ ((g 71 27) = (8 : Int32))) => ?_)
  refine q_step 11 54 [(0, .ref 70), (1, .int (Int32.ofNat p)), (2, .int (Int32.ofNat y))] [.int (Int32.ofNat p), .int ((28 : Int32) + ((2 : Int32) * (g 71 27))), .ref 71] g u (fun big n0 => sg_ez_88 big n0 g u (Int32.ofNat p) (Int32.ofNat y)) ?_
  refine q_iast (j := (28 + 2 * z)) (by rw [hx1]; exact q_ixn (by omega) (by omega)) rfl rfl ?_
  refine q_step 13 74 [(0, .ref 70), (1, .int (Int32.ofNat p)), (2, .int (Int32.ofNat y))] [.int (Int32.ofNat y), .int (((28 : Int32) + ((2 : Int32) * ((q_up g 71 (28 + 2 * z) (Int32.ofNat p)) 71 27))) + (1 : Int32)), .ref 71] (q_up g 71 (28 + 2 * z) (Int32.ofNat p)) u (fun big n0 => sg_ez_89 big n0 (q_up g 71 (28 + 2 * z) (Int32.ofNat p)) u (Int32.ofNat p) (Int32.ofNat y)) ?_
  refine q_iast (j := (29 + 2 * z)) (by rw [hx2, hx1, q_succ, show 28 + 2 * z + 1 = 29 + 2 * z by omega]; exact q_ixn (by omega) (by omega)) rfl rfl ?_
  refine q_ret 13 (some (.int (((q_up (q_up g 71 (28 + 2 * z) (Int32.ofNat p)) 71 (29 + 2 * z) (Int32.ofNat y)) 71 27) + (1 : Int32))), (q_up (q_up (q_up g 71 (28 + 2 * z) (Int32.ofNat p)) 71 (29 + 2 * z) (Int32.ofNat y)) 71 27 (((q_up (q_up g 71 (28 + 2 * z) (Int32.ofNat p)) 71 (29 + 2 * z) (Int32.ofNat y)) 71 27) + (1 : Int32))), u) (fun _ _ => rfl) ?_
  rw [hx3]
theorem rg_see8 {n : Nat} (g : qM) (u : qW) (hn : g 70 4 = Int32.ofNat n) (h6 : n ≤ 5) {p : Nat} (hp : p < n) {y : Nat} (hy : y ≤ 4) (hsn : g 71 27 = Int32.ofNat 8) : q_BS 212 [.ref 70, .int (Int32.ofNat p), .int (Int32.ofNat y)] g u (some (.int (Int8.toInt32 (Int8.ofInt (-3)))), g, u) := by
  refine q_bx (mm := m_212) rfl (Nat.le_of_ble_eq_true rfl) rfl ?_
  refine q_step 2 2 [(0, .ref 70), (1, .int (Int32.ofNat p)), (2, .int (Int32.ofNat y))] [.int (Int32.ofNat p), .ref 70] g u (fun big n0 => sg_ez_85 big n0 g u (Int32.ofNat p) (Int32.ofNat y)) ?_
  refine q_call (M2 := 169) (rest := []) (b_risOne1 g u hn (by omega) hp) (fun _ _ => rfl) ?_
  refine q_step 5 14 [(0, .ref 70), (1, .int (Int32.ofNat p)), (2, .int (Int32.ofNat y))] [.long (4 : Int64), .long (0 : Int64), .long (Int32.toInt64 (Int32.ofNat y))] g u (fun big n0 => sg_ez_86 big n0 g u (Int32.ofNat p) (Int32.ofNat y)) ?_
  refine q_call (M2 := 149) (rest := []) (b_in1 (m := y) (lo := 0) (hi := 4) g u (by omega) (by omega) (by omega)) (fun _ _ => rfl) ?_
  refine q_step 6 31 [(0, .ref 70), (1, .int (Int32.ofNat p)), (2, .int (Int32.ofNat y))] [.int (8 : Int32), .int (g 71 27)] g u (fun big n0 => sg_ez_87 big n0 g u (Int32.ofNat p) (Int32.ofNat y)) ?_
  refine q_ic_ne rfl (fun (hc0 : (g 71 27) = (8 : Int32)) => ?_) (fun hc0 => absurd (show (g 71 27) = (8 : Int32) from by rw [hsn]; rfl) hc0)
  refine q_ret 2 (some (.int (Int8.toInt32 (Int8.ofInt (-3)))), g, u) (fun _ _ => rfl) ?_
  rfl
theorem cg_rule0 (g : qM) (u : qW) : q_BS 44 [.ref 8, .int (0 : Int32)] g u (some (.int (g 20 0)), g, u) := by
  refine q_bx (mm := m_44) rfl (Nat.le_of_ble_eq_true rfl) rfl ?_
  refine q_ret 6 (some (.int (g 20 0)), g, u) (fun _ _ => rfl) ?_
  rfl
theorem rg_rule0 (g : qM) (u : qW) : q_BS 167 [.ref 70, .int (0 : Int32)] g u (some (.int (g 70 2)), g, u) := by
  refine q_bx (mm := m_167) rfl (Nat.le_of_ble_eq_true rfl) rfl ?_
  refine q_ret 5 (some (.int (g 70 2)), g, u) (fun _ _ => rfl) ?_
  rfl
theorem cg_rule1 (g : qM) (u : qW) : q_BS 44 [.ref 8, .int (1 : Int32)] g u (some (.int (g 20 1)), g, u) := by
  refine q_bx (mm := m_44) rfl (Nat.le_of_ble_eq_true rfl) rfl ?_
  refine q_ret 6 (some (.int (g 20 1)), g, u) (fun _ _ => rfl) ?_
  rfl
theorem rg_rule1 (g : qM) (u : qW) : q_BS 167 [.ref 70, .int (1 : Int32)] g u (some (.int (g 70 3)), g, u) := by
  refine q_bx (mm := m_167) rfl (Nat.le_of_ble_eq_true rfl) rfl ?_
  refine q_ret 5 (some (.int (g 70 3)), g, u) (fun _ _ => rfl) ?_
  rfl
theorem cg_rule2 (g : qM) (u : qW) : q_BS 44 [.ref 8, .int (2 : Int32)] g u (some (.int (g 20 2)), g, u) := by
  refine q_bx (mm := m_44) rfl (Nat.le_of_ble_eq_true rfl) rfl ?_
  refine q_ret 6 (some (.int (g 20 2)), g, u) (fun _ _ => rfl) ?_
  rfl
theorem rg_rule2 (g : qM) (u : qW) : q_BS 167 [.ref 70, .int (2 : Int32)] g u (some (.int (g 71 20)), g, u) := by
  refine q_bx (mm := m_167) rfl (Nat.le_of_ble_eq_true rfl) rfl ?_
  refine q_ret 7 (some (.int (g 71 20)), g, u) (fun _ _ => rfl) ?_
  rfl
theorem cg_rule3 (g : qM) (u : qW) : q_BS 44 [.ref 8, .int (3 : Int32)] g u (some (.int (g 20 3)), g, u) := by
  refine q_bx (mm := m_44) rfl (Nat.le_of_ble_eq_true rfl) rfl ?_
  refine q_ret 6 (some (.int (g 20 3)), g, u) (fun _ _ => rfl) ?_
  rfl
theorem rg_rule3 (g : qM) (u : qW) : q_BS 167 [.ref 70, .int (3 : Int32)] g u (some (.int (g 70 4)), g, u) := by
  refine q_bx (mm := m_167) rfl (Nat.le_of_ble_eq_true rfl) rfl ?_
  refine q_ret 5 (some (.int (g 70 4)), g, u) (fun _ _ => rfl) ?_
  rfl
theorem cg_rule4 (g : qM) (u : qW) : q_BS 44 [.ref 8, .int (4 : Int32)] g u (some (.int (g 20 4)), g, u) := by
  refine q_bx (mm := m_44) rfl (Nat.le_of_ble_eq_true rfl) rfl ?_
  refine q_ret 6 (some (.int (g 20 4)), g, u) (fun _ _ => rfl) ?_
  rfl
theorem rg_rule4 (g : qM) (u : qW) : q_BS 167 [.ref 70, .int (4 : Int32)] g u (some (.int (g 71 25)), g, u) := by
  refine q_bx (mm := m_167) rfl (Nat.le_of_ble_eq_true rfl) rfl ?_
  refine q_ret 7 (some (.int (g 71 25)), g, u) (fun _ _ => rfl) ?_
  rfl
theorem cg_rule5 (g : qM) (u : qW) : q_BS 44 [.ref 8, .int (5 : Int32)] g u (some (.int (g 20 5)), g, u) := by
  refine q_bx (mm := m_44) rfl (Nat.le_of_ble_eq_true rfl) rfl ?_
  refine q_ret 6 (some (.int (g 20 5)), g, u) (fun _ _ => rfl) ?_
  rfl
theorem rg_rule5 (g : qM) (u : qW) : q_BS 167 [.ref 70, .int (5 : Int32)] g u (some (.int (g 71 26)), g, u) := by
  refine q_bx (mm := m_167) rfl (Nat.le_of_ble_eq_true rfl) rfl ?_
  refine q_ret 7 (some (.int (g 71 26)), g, u) (fun _ _ => rfl) ?_
  rfl
theorem cg_rule11 (g : qM) (u : qW) : q_BS 44 [.ref 8, .int (11 : Int32)] g u (some (.int (g 25 1)), g, u) := by
  refine q_bx (mm := m_44) rfl (Nat.le_of_ble_eq_true rfl) rfl ?_
  refine q_ret 19 (some (.int (g 25 1)), g, u) (fun _ _ => rfl) ?_
  rfl
theorem rg_rule11 (g : qM) (u : qW) : q_BS 167 [.ref 70, .int (11 : Int32)] g u (some (.int (g 71 21)), g, u) := by
  refine q_bx (mm := m_167) rfl (Nat.le_of_ble_eq_true rfl) rfl ?_
  refine q_step 8 88 [(0, .ref 70), (1, .int (11 : Int32))] [.long (4 : Int64), .long (1 : Int64), .long (1 : Int64)] g u (fun big n0 => sg_ez_90 big n0 g u) ?_
  refine q_call (M2 := 149) (rest := []) (show q_BS 149 [.long (1 : Int64), .long (1 : Int64), .long (4 : Int64)] g u (some (.int 1), g, u) from b_in _ _ _ _ _) (fun _ _ => rfl) ?_
  refine q_ret 11 (some (.int (g 71 21)), g, u) (fun _ _ => rfl) ?_
  rfl
theorem cg_rule12 (g : qM) (u : qW) : q_BS 44 [.ref 8, .int (12 : Int32)] g u (some (.int (g 25 2)), g, u) := by
  refine q_bx (mm := m_44) rfl (Nat.le_of_ble_eq_true rfl) rfl ?_
  refine q_ret 19 (some (.int (g 25 2)), g, u) (fun _ _ => rfl) ?_
  rfl
theorem rg_rule12 (g : qM) (u : qW) : q_BS 167 [.ref 70, .int (12 : Int32)] g u (some (.int (g 71 22)), g, u) := by
  refine q_bx (mm := m_167) rfl (Nat.le_of_ble_eq_true rfl) rfl ?_
  refine q_step 8 88 [(0, .ref 70), (1, .int (12 : Int32))] [.long (4 : Int64), .long (1 : Int64), .long (2 : Int64)] g u (fun big n0 => sg_ez_91 big n0 g u) ?_
  refine q_call (M2 := 149) (rest := []) (show q_BS 149 [.long (2 : Int64), .long (1 : Int64), .long (4 : Int64)] g u (some (.int 1), g, u) from b_in _ _ _ _ _) (fun _ _ => rfl) ?_
  refine q_ret 11 (some (.int (g 71 22)), g, u) (fun _ _ => rfl) ?_
  rfl
theorem cg_rule13 (g : qM) (u : qW) : q_BS 44 [.ref 8, .int (13 : Int32)] g u (some (.int (g 25 3)), g, u) := by
  refine q_bx (mm := m_44) rfl (Nat.le_of_ble_eq_true rfl) rfl ?_
  refine q_ret 19 (some (.int (g 25 3)), g, u) (fun _ _ => rfl) ?_
  rfl
theorem rg_rule13 (g : qM) (u : qW) : q_BS 167 [.ref 70, .int (13 : Int32)] g u (some (.int (g 71 23)), g, u) := by
  refine q_bx (mm := m_167) rfl (Nat.le_of_ble_eq_true rfl) rfl ?_
  refine q_step 8 88 [(0, .ref 70), (1, .int (13 : Int32))] [.long (4 : Int64), .long (1 : Int64), .long (3 : Int64)] g u (fun big n0 => sg_ez_92 big n0 g u) ?_
  refine q_call (M2 := 149) (rest := []) (show q_BS 149 [.long (3 : Int64), .long (1 : Int64), .long (4 : Int64)] g u (some (.int 1), g, u) from b_in _ _ _ _ _) (fun _ _ => rfl) ?_
  refine q_ret 11 (some (.int (g 71 23)), g, u) (fun _ _ => rfl) ?_
  rfl
theorem cg_rule14 (g : qM) (u : qW) : q_BS 44 [.ref 8, .int (14 : Int32)] g u (some (.int (g 25 4)), g, u) := by
  refine q_bx (mm := m_44) rfl (Nat.le_of_ble_eq_true rfl) rfl ?_
  refine q_ret 19 (some (.int (g 25 4)), g, u) (fun _ _ => rfl) ?_
  rfl
theorem rg_rule14 (g : qM) (u : qW) : q_BS 167 [.ref 70, .int (14 : Int32)] g u (some (.int (g 71 24)), g, u) := by
  refine q_bx (mm := m_167) rfl (Nat.le_of_ble_eq_true rfl) rfl ?_
  refine q_step 8 88 [(0, .ref 70), (1, .int (14 : Int32))] [.long (4 : Int64), .long (1 : Int64), .long (4 : Int64)] g u (fun big n0 => sg_ez_93 big n0 g u) ?_
  refine q_call (M2 := 149) (rest := []) (show q_BS 149 [.long (4 : Int64), .long (1 : Int64), .long (4 : Int64)] g u (some (.int 1), g, u) from b_in _ _ _ _ _) (fun _ _ => rfl) ?_
  refine q_ret 11 (some (.int (g 71 24)), g, u) (fun _ _ => rfl) ?_
  rfl
theorem cg_one0 {n : Nat} (g : qM) (u : qW) (hn : g 20 3 = Int32.ofNat n) (h6 : n ≤ 6) {p : Nat} (hp : p < n) : q_BS 45 [.ref 8, .int (Int32.ofNat p), .int (0 : Int32)] g u (some (.int (g 21 p)), g, u) := by
  refine q_bx (mm := m_45) rfl (Nat.le_of_ble_eq_true rfl) rfl ?_
  refine q_step 3 5 [(0, .ref 8), (1, .int (Int32.ofNat p)), (2, .int (0 : Int32))] [.int (Int32.ofNat p), .ref 20] g u (fun big n0 => sg_ez_94 big n0 g u (Int32.ofNat p)) ?_
  refine q_call (M2 := 40) (rest := []) (b_hasOne1 g u hn h6 hp) (fun _ _ => rfl) ?_
  refine q_step 7 52 [(0, .ref 8), (1, .int (Int32.ofNat p)), (2, .int (0 : Int32))] [.int (Int32.ofNat p), .ref 21] g u (fun big n0 => sg_ez_95 big n0 g u (Int32.ofNat p)) ?_
  refine q_iald (j := p) (q_ixn (by omega) (by omega)) rfl rfl ?_
  refine q_ret 1 (some (.int (g 21 p)), g, u) (fun _ _ => rfl) ?_
  rfl
theorem rg_one0 {n : Nat} (g : qM) (u : qW) (hn : g 70 4 = Int32.ofNat n) (h6 : n ≤ 5) {p : Nat} (hp : p < n) : q_BS 168 [.ref 70, .int (Int32.ofNat p), .int (0 : Int32)] g u (some (.int (g 71 (0 + p))), g, u) := by
  refine q_bx (mm := m_168) rfl (Nat.le_of_ble_eq_true rfl) rfl ?_
  refine q_step 2 2 [(0, .ref 70), (1, .int (Int32.ofNat p)), (2, .int (0 : Int32))] [.int (Int32.ofNat p), .ref 70] g u (fun big n0 => sg_ez_96 big n0 g u (Int32.ofNat p)) ?_
  refine q_call (M2 := 169) (rest := []) (b_risOne1 g u hn (by omega) hp) (fun _ _ => rfl) ?_
  refine q_step 5 14 [(0, .ref 70), (1, .int (Int32.ofNat p)), (2, .int (0 : Int32))] [.long (3 : Int64), .long (0 : Int64), .long (0 : Int64)] g u (fun big n0 => sg_ez_97 big n0 g u (Int32.ofNat p)) ?_
  refine q_call (M2 := 149) (rest := []) (show q_BS 149 [.long (0 : Int64), .long (0 : Int64), .long (3 : Int64)] g u (some (.int 1), g, u) from b_in _ _ _ _ _) (fun _ _ => rfl) ?_
  refine q_step 8 29 [(0, .ref 70), (1, .int (Int32.ofNat p)), (2, .int (0 : Int32))] [.int ((0 : Int32) + (Int32.ofNat p)), .ref 71] g u (fun big n0 => sg_ez_98 big n0 g u (Int32.ofNat p)) ?_
  refine q_iald (j := (0 + p)) (s_rixn (K := 0) (i := p) (by omega)) rfl rfl ?_
  refine q_ret 2 (some (.int (g 71 (0 + p))), g, u) (fun _ _ => rfl) ?_
  rfl
theorem cg_one1 {n : Nat} (g : qM) (u : qW) (hn : g 20 3 = Int32.ofNat n) (h6 : n ≤ 6) {p : Nat} (hp : p < n) : q_BS 45 [.ref 8, .int (Int32.ofNat p), .int (1 : Int32)] g u (some (.int (g 22 p)), g, u) := by
  refine q_bx (mm := m_45) rfl (Nat.le_of_ble_eq_true rfl) rfl ?_
  refine q_step 3 5 [(0, .ref 8), (1, .int (Int32.ofNat p)), (2, .int (1 : Int32))] [.int (Int32.ofNat p), .ref 20] g u (fun big n0 => sg_ez_99 big n0 g u (Int32.ofNat p)) ?_
  refine q_call (M2 := 40) (rest := []) (b_hasOne1 g u hn h6 hp) (fun _ _ => rfl) ?_
  refine q_step 7 62 [(0, .ref 8), (1, .int (Int32.ofNat p)), (2, .int (1 : Int32))] [.int (Int32.ofNat p), .ref 22] g u (fun big n0 => sg_ez_100 big n0 g u (Int32.ofNat p)) ?_
  refine q_iald (j := p) (q_ixn (by omega) (by omega)) rfl rfl ?_
  refine q_ret 1 (some (.int (g 22 p)), g, u) (fun _ _ => rfl) ?_
  rfl
theorem rg_one1 {n : Nat} (g : qM) (u : qW) (hn : g 70 4 = Int32.ofNat n) (h6 : n ≤ 5) {p : Nat} (hp : p < n) : q_BS 168 [.ref 70, .int (Int32.ofNat p), .int (1 : Int32)] g u (some (.int (g 71 (5 + p))), g, u) := by
  refine q_bx (mm := m_168) rfl (Nat.le_of_ble_eq_true rfl) rfl ?_
  refine q_step 2 2 [(0, .ref 70), (1, .int (Int32.ofNat p)), (2, .int (1 : Int32))] [.int (Int32.ofNat p), .ref 70] g u (fun big n0 => sg_ez_101 big n0 g u (Int32.ofNat p)) ?_
  refine q_call (M2 := 169) (rest := []) (b_risOne1 g u hn (by omega) hp) (fun _ _ => rfl) ?_
  refine q_step 5 14 [(0, .ref 70), (1, .int (Int32.ofNat p)), (2, .int (1 : Int32))] [.long (3 : Int64), .long (0 : Int64), .long (1 : Int64)] g u (fun big n0 => sg_ez_102 big n0 g u (Int32.ofNat p)) ?_
  refine q_call (M2 := 149) (rest := []) (show q_BS 149 [.long (1 : Int64), .long (0 : Int64), .long (3 : Int64)] g u (some (.int 1), g, u) from b_in _ _ _ _ _) (fun _ _ => rfl) ?_
  refine q_step 8 29 [(0, .ref 70), (1, .int (Int32.ofNat p)), (2, .int (1 : Int32))] [.int ((5 : Int32) + (Int32.ofNat p)), .ref 71] g u (fun big n0 => sg_ez_103 big n0 g u (Int32.ofNat p)) ?_
  refine q_iald (j := (5 + p)) (s_rixn (K := 5) (i := p) (by omega)) rfl rfl ?_
  refine q_ret 2 (some (.int (g 71 (5 + p))), g, u) (fun _ _ => rfl) ?_
  rfl
theorem cg_one2 {n : Nat} (g : qM) (u : qW) (hn : g 20 3 = Int32.ofNat n) (h6 : n ≤ 6) {p : Nat} (hp : p < n) : q_BS 45 [.ref 8, .int (Int32.ofNat p), .int (2 : Int32)] g u (some (.int (g 23 p)), g, u) := by
  refine q_bx (mm := m_45) rfl (Nat.le_of_ble_eq_true rfl) rfl ?_
  refine q_step 3 5 [(0, .ref 8), (1, .int (Int32.ofNat p)), (2, .int (2 : Int32))] [.int (Int32.ofNat p), .ref 20] g u (fun big n0 => sg_ez_104 big n0 g u (Int32.ofNat p)) ?_
  refine q_call (M2 := 40) (rest := []) (b_hasOne1 g u hn h6 hp) (fun _ _ => rfl) ?_
  refine q_step 7 72 [(0, .ref 8), (1, .int (Int32.ofNat p)), (2, .int (2 : Int32))] [.int (Int32.ofNat p), .ref 23] g u (fun big n0 => sg_ez_105 big n0 g u (Int32.ofNat p)) ?_
  refine q_iald (j := p) (q_ixn (by omega) (by omega)) rfl rfl ?_
  refine q_ret 1 (some (.int (g 23 p)), g, u) (fun _ _ => rfl) ?_
  rfl
theorem rg_one2 {n : Nat} (g : qM) (u : qW) (hn : g 70 4 = Int32.ofNat n) (h6 : n ≤ 5) {p : Nat} (hp : p < n) : q_BS 168 [.ref 70, .int (Int32.ofNat p), .int (2 : Int32)] g u (some (.int (g 71 (10 + p))), g, u) := by
  refine q_bx (mm := m_168) rfl (Nat.le_of_ble_eq_true rfl) rfl ?_
  refine q_step 2 2 [(0, .ref 70), (1, .int (Int32.ofNat p)), (2, .int (2 : Int32))] [.int (Int32.ofNat p), .ref 70] g u (fun big n0 => sg_ez_106 big n0 g u (Int32.ofNat p)) ?_
  refine q_call (M2 := 169) (rest := []) (b_risOne1 g u hn (by omega) hp) (fun _ _ => rfl) ?_
  refine q_step 5 14 [(0, .ref 70), (1, .int (Int32.ofNat p)), (2, .int (2 : Int32))] [.long (3 : Int64), .long (0 : Int64), .long (2 : Int64)] g u (fun big n0 => sg_ez_107 big n0 g u (Int32.ofNat p)) ?_
  refine q_call (M2 := 149) (rest := []) (show q_BS 149 [.long (2 : Int64), .long (0 : Int64), .long (3 : Int64)] g u (some (.int 1), g, u) from b_in _ _ _ _ _) (fun _ _ => rfl) ?_
  refine q_step 8 29 [(0, .ref 70), (1, .int (Int32.ofNat p)), (2, .int (2 : Int32))] [.int ((10 : Int32) + (Int32.ofNat p)), .ref 71] g u (fun big n0 => sg_ez_108 big n0 g u (Int32.ofNat p)) ?_
  refine q_iald (j := (10 + p)) (s_rixn (K := 10) (i := p) (by omega)) rfl rfl ?_
  refine q_ret 2 (some (.int (g 71 (10 + p))), g, u) (fun _ _ => rfl) ?_
  rfl
theorem cg_one3 {n : Nat} (g : qM) (u : qW) (hn : g 20 3 = Int32.ofNat n) (h6 : n ≤ 6) {p : Nat} (hp : p < n) : q_BS 45 [.ref 8, .int (Int32.ofNat p), .int (3 : Int32)] g u (some (.int (g 24 p)), g, u) := by
  refine q_bx (mm := m_45) rfl (Nat.le_of_ble_eq_true rfl) rfl ?_
  refine q_step 3 5 [(0, .ref 8), (1, .int (Int32.ofNat p)), (2, .int (3 : Int32))] [.int (Int32.ofNat p), .ref 20] g u (fun big n0 => sg_ez_109 big n0 g u (Int32.ofNat p)) ?_
  refine q_call (M2 := 40) (rest := []) (b_hasOne1 g u hn h6 hp) (fun _ _ => rfl) ?_
  refine q_step 7 82 [(0, .ref 8), (1, .int (Int32.ofNat p)), (2, .int (3 : Int32))] [.int (Int32.ofNat p), .ref 24] g u (fun big n0 => sg_ez_110 big n0 g u (Int32.ofNat p)) ?_
  refine q_iald (j := p) (q_ixn (by omega) (by omega)) rfl rfl ?_
  refine q_ret 1 (some (.int (g 24 p)), g, u) (fun _ _ => rfl) ?_
  rfl
theorem rg_one3 {n : Nat} (g : qM) (u : qW) (hn : g 70 4 = Int32.ofNat n) (h6 : n ≤ 5) {p : Nat} (hp : p < n) : q_BS 168 [.ref 70, .int (Int32.ofNat p), .int (3 : Int32)] g u (some (.int (g 71 (15 + p))), g, u) := by
  refine q_bx (mm := m_168) rfl (Nat.le_of_ble_eq_true rfl) rfl ?_
  refine q_step 2 2 [(0, .ref 70), (1, .int (Int32.ofNat p)), (2, .int (3 : Int32))] [.int (Int32.ofNat p), .ref 70] g u (fun big n0 => sg_ez_111 big n0 g u (Int32.ofNat p)) ?_
  refine q_call (M2 := 169) (rest := []) (b_risOne1 g u hn (by omega) hp) (fun _ _ => rfl) ?_
  refine q_step 5 14 [(0, .ref 70), (1, .int (Int32.ofNat p)), (2, .int (3 : Int32))] [.long (3 : Int64), .long (0 : Int64), .long (3 : Int64)] g u (fun big n0 => sg_ez_112 big n0 g u (Int32.ofNat p)) ?_
  refine q_call (M2 := 149) (rest := []) (show q_BS 149 [.long (3 : Int64), .long (0 : Int64), .long (3 : Int64)] g u (some (.int 1), g, u) from b_in _ _ _ _ _) (fun _ _ => rfl) ?_
  refine q_step 8 29 [(0, .ref 70), (1, .int (Int32.ofNat p)), (2, .int (3 : Int32))] [.int ((15 : Int32) + (Int32.ofNat p)), .ref 71] g u (fun big n0 => sg_ez_113 big n0 g u (Int32.ofNat p)) ?_
  refine q_iald (j := (15 + p)) (s_rixn (K := 15) (i := p) (by omega)) rfl rfl ?_
  refine q_ret 2 (some (.int (g 71 (15 + p))), g, u) (fun _ _ => rfl) ?_
  rfl
theorem cg_keep0 (g : qM) (u : qW) : q_BS 128 [.ref 8, .int (0 : Int32)] g u (some (.int (s_bit (g 8 7) 0)), q_up (s_cpy 45 20 g) 8 7 (g 8 7 ||| ((1 : Int32) <<< ((0 : Int32) &&& 31))), u) := by
  refine q_bx (mm := m_128) rfl (Nat.le_of_ble_eq_true rfl) rfl ?_
  refine q_step 18 30 [(0, .ref 8), (1, .int (0 : Int32)), (2, .int (((g 8 7) >>> ((0 : Int32) &&& 31)) &&& (1 : Int32)))] [.ref 20, .ref 45] g u (fun big n0 => sg_ez_114 big n0 g u) ?_
  refine q_call (M2 := 41) (rest := []) (b_cpy45_20 _ _) (fun _ _ => rfl) ?_
  refine q_ret 10 (some (.int (((g 8 7) >>> ((0 : Int32) &&& 31)) &&& (1 : Int32))), (q_up (s_cpy 45 20 g) 8 7 (((s_cpy 45 20 g) 8 7) ||| ((1 : Int32) <<< ((0 : Int32) &&& 31)))), u) (fun _ _ => rfl) ?_
  rfl
theorem cg_back0 (g : qM) (u : qW) (hk : ¬ s_bit (g 8 7) 0 = 0) : q_BS 129 [.ref 8, .int (0 : Int32)] g u (some (.int ((s_cpy 20 45 g) 20 5)), s_cpy 20 45 g, u) := by
  refine q_bx (mm := m_129) rfl (Nat.le_of_ble_eq_true rfl) rfl ?_
  refine q_step 11 19 [(0, .ref 8), (1, .int (0 : Int32))] [.int (((g 8 7) >>> ((0 : Int32) &&& 31)) &&& (1 : Int32))] g u (fun big n0 => sg_ez_115 big n0 g u) ?_
  refine q_if_ne rfl (fun hc0 => absurd (show (((g 8 7) >>> ((0 : Int32) &&& 31)) &&& (1 : Int32)) = 0 from hc0) (hk)) (fun (hc0 : ¬ ((((g 8 7) >>> ((0 : Int32) &&& 31)) &&& (1 : Int32)) = 0)) => ?_)
  refine q_step 6 35 [(0, .ref 8), (1, .int (0 : Int32))] [.ref 45, .ref 20] g u (fun big n0 => sg_ez_116 big n0 g u) ?_
  refine q_call (M2 := 41) (rest := []) (b_cpy20_45 _ _) (fun _ _ => rfl) ?_
  refine q_ret 4 (some (.int ((s_cpy 20 45 g) 20 5)), (s_cpy 20 45 g), u) (fun _ _ => rfl) ?_
  rfl
theorem cg_back0n (g : qM) (u : qW) (hk : s_bit (g 8 7) 0 = 0) : q_BS 129 [.ref 8, .int (0 : Int32)] g u (some (.int (Int32.ofInt (-2))), g, u) := by
  refine q_bx (mm := m_129) rfl (Nat.le_of_ble_eq_true rfl) rfl ?_
  refine q_step 11 19 [(0, .ref 8), (1, .int (0 : Int32))] [.int (((g 8 7) >>> ((0 : Int32) &&& 31)) &&& (1 : Int32))] g u (fun big n0 => sg_ez_115 big n0 g u) ?_
  refine q_if_ne rfl (fun (hc0 : (((g 8 7) >>> ((0 : Int32) &&& 31)) &&& (1 : Int32)) = 0) => ?_) (fun hc0 => absurd (show (((g 8 7) >>> ((0 : Int32) &&& 31)) &&& (1 : Int32)) = 0 from hk) hc0)
  refine q_ret 2 (some (.int (Int8.toInt32 (Int8.ofInt (-2)))), g, u) (fun _ _ => rfl) ?_
  rfl
theorem cg_keep1 (g : qM) (u : qW) : q_BS 128 [.ref 8, .int (1 : Int32)] g u (some (.int (s_bit (g 8 7) 1)), q_up (s_cpy 53 20 g) 8 7 (g 8 7 ||| ((1 : Int32) <<< ((1 : Int32) &&& 31))), u) := by
  refine q_bx (mm := m_128) rfl (Nat.le_of_ble_eq_true rfl) rfl ?_
  refine q_step 18 30 [(0, .ref 8), (1, .int (1 : Int32)), (2, .int (((g 8 7) >>> ((1 : Int32) &&& 31)) &&& (1 : Int32)))] [.ref 20, .ref 53] g u (fun big n0 => sg_ez_117 big n0 g u) ?_
  refine q_call (M2 := 41) (rest := []) (b_cpy53_20 _ _) (fun _ _ => rfl) ?_
  refine q_ret 10 (some (.int (((g 8 7) >>> ((1 : Int32) &&& 31)) &&& (1 : Int32))), (q_up (s_cpy 53 20 g) 8 7 (((s_cpy 53 20 g) 8 7) ||| ((1 : Int32) <<< ((1 : Int32) &&& 31)))), u) (fun _ _ => rfl) ?_
  rfl
theorem cg_back1 (g : qM) (u : qW) (hk : ¬ s_bit (g 8 7) 1 = 0) : q_BS 129 [.ref 8, .int (1 : Int32)] g u (some (.int ((s_cpy 20 53 g) 20 5)), s_cpy 20 53 g, u) := by
  refine q_bx (mm := m_129) rfl (Nat.le_of_ble_eq_true rfl) rfl ?_
  refine q_step 11 19 [(0, .ref 8), (1, .int (1 : Int32))] [.int (((g 8 7) >>> ((1 : Int32) &&& 31)) &&& (1 : Int32))] g u (fun big n0 => sg_ez_118 big n0 g u) ?_
  refine q_if_ne rfl (fun hc0 => absurd (show (((g 8 7) >>> ((1 : Int32) &&& 31)) &&& (1 : Int32)) = 0 from hc0) (hk)) (fun (hc0 : ¬ ((((g 8 7) >>> ((1 : Int32) &&& 31)) &&& (1 : Int32)) = 0)) => ?_)
  refine q_step 6 35 [(0, .ref 8), (1, .int (1 : Int32))] [.ref 53, .ref 20] g u (fun big n0 => sg_ez_119 big n0 g u) ?_
  refine q_call (M2 := 41) (rest := []) (b_cpy20_53 _ _) (fun _ _ => rfl) ?_
  refine q_ret 4 (some (.int ((s_cpy 20 53 g) 20 5)), (s_cpy 20 53 g), u) (fun _ _ => rfl) ?_
  rfl
theorem cg_back1n (g : qM) (u : qW) (hk : s_bit (g 8 7) 1 = 0) : q_BS 129 [.ref 8, .int (1 : Int32)] g u (some (.int (Int32.ofInt (-2))), g, u) := by
  refine q_bx (mm := m_129) rfl (Nat.le_of_ble_eq_true rfl) rfl ?_
  refine q_step 11 19 [(0, .ref 8), (1, .int (1 : Int32))] [.int (((g 8 7) >>> ((1 : Int32) &&& 31)) &&& (1 : Int32))] g u (fun big n0 => sg_ez_118 big n0 g u) ?_
  refine q_if_ne rfl (fun (hc0 : (((g 8 7) >>> ((1 : Int32) &&& 31)) &&& (1 : Int32)) = 0) => ?_) (fun hc0 => absurd (show (((g 8 7) >>> ((1 : Int32) &&& 31)) &&& (1 : Int32)) = 0 from hk) hc0)
  refine q_ret 2 (some (.int (Int8.toInt32 (Int8.ofInt (-2)))), g, u) (fun _ _ => rfl) ?_
  rfl
