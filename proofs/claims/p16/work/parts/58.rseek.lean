/-! SEARCHES of the reference. -/
theorem s_or0 (a x : Int32) : a ||| ((0 : Int32) <<< x) = a := by
  apply Int32.toBitVec_inj.mp
  simp
theorem s_rixn {K i : Nat} (h : K + i < 132) : q_ix (Int32.ofNat K + Int32.ofNat i) (K + i) 132 := by
  rw [← Int32.ofNat_add]
  exact q_ixn h (by omega)
def p_stk2 (g : qM) (p : Nat) : Int32 := if g 79 p = 4 then 0 else if g 80 p = 4 then 1 else 0
def p_hvs (g : qM) (p : Nat) : Int32 := if g 71 (15 + p) = i_none then 0 else 1
theorem w_st_sm {n : Nat} {g g1 r : qM} (hf : w_fr g g1) (h5 : n ≤ 5) (hs : w_sm n (s_start g) r) : w_sm n (s_start g1) r := by
  have e1 : g1 71 = g 71 := hf.1 71 (by omega)
  have e2 : ∀ j, j ≠ 27 → g1 70 j = g 70 j := hf.2
  obtain ⟨⟨a1, a2, a3, a4, a5⟩, b, c⟩ := hs
  refine ⟨⟨?_, ?_, ?_, ?_, ?_⟩, fun d x y => ?_, fun p hp => ⟨?_, ?_, ?_⟩⟩
  · show g1 70 4 = _
    rw [e2 4 (by omega)]
    exact a1
  · show g1 70 2 = _
    rw [e2 2 (by omega)]
    exact a2
  · show g1 70 3 = _
    rw [e2 3 (by omega)]
    exact a3
  · show g1 71 20 = _
    rw [e1]
    exact a4
  · show g1 71 25 = _
    rw [e1]
    exact a5
  · show g1 71 (20 + d) = _
    rw [e1]
    exact b d x y
  · have z := (c p hp).1
    have hp5 : p < 5 := by omega
    show (if p < 5 then g1 71 p else g1 75 p) = _
    rw [if_pos hp5, e1, ← z]
    show _ = (if p < 5 then g 71 p else g 75 p)
    rw [if_pos hp5]
  · have z := (c p hp).2.1
    have hp5 : p < 5 := by omega
    show (if p < 5 then g1 71 (5 + p) else g1 76 p) = _
    rw [if_pos hp5, e1, ← z]
    show _ = (if p < 5 then g 71 (5 + p) else g 76 p)
    rw [if_pos hp5]
  · have z := (c p hp).2.2
    have hp5 : p < 5 := by omega
    show (if p < 5 then g1 71 (10 + p) else g1 77 p) = _
    rw [if_pos hp5, e1, ← z]
    show _ = (if p < 5 then g 71 (10 + p) else g 77 p)
    rw [if_pos hp5]
theorem w_pl {n W H : Nat} {g r : qM} (h : w_ok n W H r) (hs : w_sm n (s_start g) r) : g 70 4 = Int32.ofNat n := by
  have e := hs.1.1
  rw [h.2.1] at e
  exact e
theorem w_st78 {n p : Nat} {g : qM} (h5 : n ≤ 5) (hp : p < n) : s_start g 78 p = g 71 (15 + p) := by
  show (if p < 5 then g 71 (15 + p) else g 78 p) = _
  rw [if_pos (by omega)]
theorem w_stk2 {n W H : Nat} {g r : qM} (h : w_ok n W H r) (hs : w_sm n g r) : s_bs (p_stk2 (s_rst n g)) n 0 0 = f_stk n r := s_bs_cg n 0 0 (fun p _ hp => by
  have w := (w_sm_rst h hs).2.1 p (by omega)
  unfold p_stk2 p_stkr
  rw [w.1, w.2])
theorem w_hvs {n : Nat} {g r : qM} (hst : ∀ p, p < n → g 71 (15 + p) = r 78 p) : s_ct (p_hvs g) n 0 0 = f_hav n r := s_ct_cg n 0 0 (fun p _ hp => by
  unfold p_hvs p_hav
  rw [hst p (by omega)])
/-- go of the reference: rows kept -/
def s_rgo (n m : Nat) (g : qM) : qM := fun a j => if a = 71 then (if j < 5 then s_rit n m (s_start g) 75 j else if j < 10 then s_rit n m (s_start g) 76 (j - 5) else if j = 26 then g 71 26 + Int32.ofNat m else g 71 j) else s_rit n m (s_start g) a j
theorem sg_rk_1 (big : Nat → List Value → qM → qW → qR) (n0 : Nat) (G : qM) (U : qW) (v0 : Int32) (v1 : Int32) : qm_run pm_m big m_190 (n0 + 3) 13 [(0, .ref 70), (1, .int v0), (2, .int v1)] [] G U = qm_run pm_m big m_190 n0 18 [(0, .ref 70), (1, .int v0), (2, .int v1)] [.int (G 70 27), .int v1] G U := rfl
theorem sg_rk_2 (big : Nat → List Value → qM → qW → qR) (n0 : Nat) (G : qM) (U : qW) (v0 : Int32) (v1 : Int32) : qm_run pm_m big m_190 (n0 + 4) 21 [(0, .ref 70), (1, .int v0), (2, .int v1)] [] G U = qm_run pm_m big m_190 n0 27 [(0, .ref 70), (1, .int v0), (2, .int v1)] [.int v1, .ref 79, .int v0] G U := rfl
theorem sg_rk_3 (big : Nat → List Value → qM → qW → qR) (n0 : Nat) (G : qM) (U : qW) (v0 : Int32) (v1 : Int32) (v2 : Int32) (v3 : Int32) : qm_run pm_m big m_190 (n0 + 1) 28 [(0, .ref 70), (1, .int v0), (2, .int v1)] [.int v3, .int v2] G U = qm_run pm_m big m_190 n0 29 [(0, .ref 70), (1, .int v0), (2, .int v1)] [.int (4 : Int32), .int v3, .int v2] G U := rfl
theorem sg_rk_4 (big : Nat → List Value → qM → qW → qR) (n0 : Nat) (G : qM) (U : qW) (v0 : Int32) (v1 : Int32) (v2 : Int32) : qm_run pm_m big m_190 (n0 + 1) 46 [(0, .ref 70), (1, .int v0), (2, .int v1)] [.int v2] G U = qm_run pm_m big m_190 n0 47 [(0, .ref 70), (1, .int v0), (2, .int v1)] [.int (0 : Int32), .int v2] G U := rfl
theorem sg_rk_5 (big : Nat → List Value → qM → qW → qR) (n0 : Nat) (G : qM) (U : qW) (v0 : Int32) (v1 : Int32) (v2 : Int32) : qm_run pm_m big m_190 (n0 + 6) 50 [(0, .ref 70), (1, .int v0), (2, .int v1)] [.int (0 : Int32), .int v2] G U = qm_run pm_m big m_190 n0 13 [(0, .ref 70), (1, .int (v2 ||| ((0 : Int32) <<< (v1 &&& 31)))), (2, .int (v1 + (1 : Int32)))] [] G U := rfl
theorem sg_rk_6 (big : Nat → List Value → qM → qW → qR) (n0 : Nat) (G : qM) (U : qW) (v0 : Int32) (v1 : Int32) (v2 : Int32) : qm_run pm_m big m_190 (n0 + 3) 32 [(0, .ref 70), (1, .int v0), (2, .int v1)] [.int v2] G U = qm_run pm_m big m_190 n0 37 [(0, .ref 70), (1, .int v0), (2, .int v1)] [.int v1, .ref 80, .int v2] G U := rfl
theorem sg_rk_7 (big : Nat → List Value → qM → qW → qR) (n0 : Nat) (G : qM) (U : qW) (v0 : Int32) (v1 : Int32) (v2 : Int32) (v3 : Int32) : qm_run pm_m big m_190 (n0 + 1) 38 [(0, .ref 70), (1, .int v0), (2, .int v1)] [.int v3, .int v2] G U = qm_run pm_m big m_190 n0 39 [(0, .ref 70), (1, .int v0), (2, .int v1)] [.int (4 : Int32), .int v3, .int v2] G U := rfl
theorem sg_rk_8 (big : Nat → List Value → qM → qW → qR) (n0 : Nat) (G : qM) (U : qW) (v0 : Int32) (v1 : Int32) (v2 : Int32) : qm_run pm_m big m_190 (n0 + 2) 42 [(0, .ref 70), (1, .int v0), (2, .int v1)] [.int v2] G U = qm_run pm_m big m_190 n0 47 [(0, .ref 70), (1, .int v0), (2, .int v1)] [.int (1 : Int32), .int v2] G U := rfl
theorem sg_rk_9 (big : Nat → List Value → qM → qW → qR) (n0 : Nat) (G : qM) (U : qW) (v0 : Int32) (v1 : Int32) (v2 : Int32) : qm_run pm_m big m_190 (n0 + 6) 50 [(0, .ref 70), (1, .int v0), (2, .int v1)] [.int (1 : Int32), .int v2] G U = qm_run pm_m big m_190 n0 13 [(0, .ref 70), (1, .int (v2 ||| ((1 : Int32) <<< (v1 &&& 31)))), (2, .int (v1 + (1 : Int32)))] [] G U := rfl
theorem sg_rk_10 (big : Nat → List Value → qM → qW → qR) (n0 : Nat) (G : qM) (U : qW) : qm_run pm_m big m_190 (n0 + 1) 0 [(0, .ref 70)] [] G U = qm_run pm_m big m_190 n0 1 [(0, .ref 70)] [.ref 70] G U := rfl
theorem sg_rk_11 (big : Nat → List Value → qM → qW → qR) (n0 : Nat) (G : qM) (U : qW) : qm_run pm_m big m_190 (n0 + 1) 4 [(0, .ref 70)] [] G U = qm_run pm_m big m_190 n0 5 [(0, .ref 70)] [.ref 70] G U := rfl
theorem sg_rk_12 (big : Nat → List Value → qM → qW → qR) (n0 : Nat) (G : qM) (U : qW) (v0 : Int32) : qm_run pm_m big m_190 (n0 + 5) 8 [(0, .ref 70)] [.int v0] G U = qm_run pm_m big m_190 n0 13 [(0, .ref 70), (1, .int (0 : Int32)), (2, .int (0 : Int32))] [] G U := rfl
theorem sg_rk_13 (big : Nat → List Value → qM → qW → qR) (n0 : Nat) (G : qM) (U : qW) (v0 : Int32) : qm_run pm_m big m_199 (n0 + 2) 6 [(0, .ref 70), (1, .int v0)] [] G U = qm_run pm_m big m_199 n0 9 [(0, .ref 70), (1, .int v0)] [.int (60 : Int32), .int v0] G U := rfl
theorem sg_rk_14 (big : Nat → List Value → qM → qW → qR) (n0 : Nat) (G : qM) (U : qW) (v0 : Int32) : qm_run pm_m big m_199 (n0 + 1) 12 [(0, .ref 70), (1, .int v0)] [] G U = qm_run pm_m big m_199 n0 13 [(0, .ref 70), (1, .int v0)] [.ref 70] G U := rfl
theorem sg_rk_15 (big : Nat → List Value → qM → qW → qR) (n0 : Nat) (G : qM) (U : qW) (v0 : Int32) : qm_run pm_m big m_199 (n0 + 2) 21 [(0, .ref 70), (1, .int v0)] [] G U = qm_run pm_m big m_199 n0 6 [(0, .ref 70), (1, .int (v0 + (1 : Int32)))] [] G U := rfl
theorem sg_rk_16 (big : Nat → List Value → qM → qW → qR) (n0 : Nat) (G : qM) (U : qW) : qm_run pm_m big m_199 (n0 + 1) 0 [(0, .ref 70)] [] G U = qm_run pm_m big m_199 n0 1 [(0, .ref 70)] [.ref 70] G U := rfl
theorem sg_rk_17 (big : Nat → List Value → qM → qW → qR) (n0 : Nat) (G : qM) (U : qW) : qm_run pm_m big m_199 (n0 + 2) 4 [(0, .ref 70)] [] G U = qm_run pm_m big m_199 n0 6 [(0, .ref 70), (1, .int (0 : Int32))] [] G U := rfl
theorem sg_rk_18 (big : Nat → List Value → qM → qW → qR) (n0 : Nat) (G : qM) (U : qW) (v0 : Int32) (v1 : Int32) (v2 : Int32) : qm_run pm_m big m_198 (n0 + 2) 39 [(0, .ref 70), (1, .int v0), (2, .int v1), (3, .int (0 : Int32)), (4, .int v2)] [] G U = qm_run pm_m big m_198 n0 42 [(0, .ref 70), (1, .int v0), (2, .int v1), (3, .int (0 : Int32)), (4, .int v2)] [.int v1, .int v2] G U := rfl
theorem sg_rk_19 (big : Nat → List Value → qM → qW → qR) (n0 : Nat) (G : qM) (U : qW) (v0 : Int32) (v1 : Int32) (v2 : Int32) : qm_run pm_m big m_198 (n0 + 1) 45 [(0, .ref 70), (1, .int v0), (2, .int v1), (3, .int (0 : Int32)), (4, .int v2)] [] G U = qm_run pm_m big m_198 n0 46 [(0, .ref 70), (1, .int v0), (2, .int v1), (3, .int (0 : Int32)), (4, .int v2)] [.ref 70] G U := rfl
theorem sg_rk_20 (big : Nat → List Value → qM → qW → qR) (n0 : Nat) (G : qM) (U : qW) (v0 : Int32) (v1 : Int32) (v2 : Int32) (v3 : Int32) : qm_run pm_m big m_198 (n0 + 3) 49 [(0, .ref 70), (1, .int v0), (2, .int v1), (3, .int (0 : Int32)), (4, .int v2)] [.int v3] G U = qm_run pm_m big m_198 n0 39 [(0, .ref 70), (1, .int v0), (2, .int v1), (3, .int (0 : Int32)), (4, .int (v2 + (1 : Int32)))] [] G U := rfl
theorem sg_rk_21 (big : Nat → List Value → qM → qW → qR) (n0 : Nat) (G : qM) (U : qW) (v0 : Int32) (v1 : Int32) : qm_run pm_m big m_198 (n0 + 2) 0 [(0, .ref 70), (1, .int v0), (2, .int v1), (3, .int (0 : Int32))] [] G U = qm_run pm_m big m_198 n0 2 [(0, .ref 70), (1, .int v0), (2, .int v1), (3, .int (0 : Int32))] [.int v0, .ref 70] G U := rfl
theorem sg_rk_22 (big : Nat → List Value → qM → qW → qR) (n0 : Nat) (G : qM) (U : qW) (v0 : Int32) (v1 : Int32) : qm_run pm_m big m_198 (n0 + 5) 5 [(0, .ref 70), (1, .int v0), (2, .int v1), (3, .int (0 : Int32))] [.int (1 : Int32)] G U = qm_run pm_m big m_198 n0 14 [(0, .ref 70), (1, .int v0), (2, .int v1), (3, .int (0 : Int32))] [.long (60 : Int64), .long (0 : Int64), .long (Int32.toInt64 v1)] G U := rfl
theorem sg_rk_23 (big : Nat → List Value → qM → qW → qR) (n0 : Nat) (G : qM) (U : qW) (v0 : Int32) (v1 : Int32) : qm_run pm_m big m_198 (n0 + 5) 17 [(0, .ref 70), (1, .int v0), (2, .int v1), (3, .int (0 : Int32))] [.int (1 : Int32)] G U = qm_run pm_m big m_198 n0 24 [(0, .ref 70), (1, .int v0), (2, .int v1), (3, .int (0 : Int32))] [.long (1 : Int64), .long (0 : Int64), .long (0 : Int64)] G U := rfl
theorem sg_rk_24 (big : Nat → List Value → qM → qW → qR) (n0 : Nat) (G : qM) (U : qW) (v0 : Int32) (v1 : Int32) : qm_run pm_m big m_198 (n0 + 2) 27 [(0, .ref 70), (1, .int v0), (2, .int v1), (3, .int (0 : Int32))] [.int (1 : Int32)] G U = qm_run pm_m big m_198 n0 33 [(0, .ref 70), (1, .int v0), (2, .int v1), (3, .int (0 : Int32))] [.ref 70] G U := rfl
theorem sg_rk_25 (big : Nat → List Value → qM → qW → qR) (n0 : Nat) (G : qM) (U : qW) (v0 : Int32) (v1 : Int32) : qm_run pm_m big m_198 (n0 + 2) 36 [(0, .ref 70), (1, .int v0), (2, .int v1), (3, .int (0 : Int32))] [] G U = qm_run pm_m big m_198 n0 39 [(0, .ref 70), (1, .int v0), (2, .int v1), (3, .int (0 : Int32)), (4, .int (0 : Int32))] [] G U := rfl
theorem sg_rk_26 (big : Nat → List Value → qM → qW → qR) (n0 : Nat) (G : qM) (U : qW) (v0 : Int32) (v1 : Int32) (v2 : Int32) : qm_run pm_m big m_198 (n0 + 5) 56 [(0, .ref 70), (1, .int v0), (2, .int v1), (3, .int (0 : Int32)), (4, .int v2)] [] G U = qm_run pm_m big m_198 n0 65 [(0, .ref 70), (1, .int v0), (2, .int v1), (3, .int (0 : Int32)), (4, .int v2)] [.int v0, .ref 75] G U := rfl
theorem sg_rk_27 (big : Nat → List Value → qM → qW → qR) (n0 : Nat) (G : qM) (U : qW) (v0 : Int32) (v1 : Int32) (v2 : Int32) : qm_run pm_m big m_198 (n0 + 2) 39 [(0, .ref 70), (1, .int v0), (2, .int v1), (3, .int (1 : Int32)), (4, .int v2)] [] G U = qm_run pm_m big m_198 n0 42 [(0, .ref 70), (1, .int v0), (2, .int v1), (3, .int (1 : Int32)), (4, .int v2)] [.int v1, .int v2] G U := rfl
theorem sg_rk_28 (big : Nat → List Value → qM → qW → qR) (n0 : Nat) (G : qM) (U : qW) (v0 : Int32) (v1 : Int32) (v2 : Int32) : qm_run pm_m big m_198 (n0 + 1) 45 [(0, .ref 70), (1, .int v0), (2, .int v1), (3, .int (1 : Int32)), (4, .int v2)] [] G U = qm_run pm_m big m_198 n0 46 [(0, .ref 70), (1, .int v0), (2, .int v1), (3, .int (1 : Int32)), (4, .int v2)] [.ref 70] G U := rfl
theorem sg_rk_29 (big : Nat → List Value → qM → qW → qR) (n0 : Nat) (G : qM) (U : qW) (v0 : Int32) (v1 : Int32) (v2 : Int32) (v3 : Int32) : qm_run pm_m big m_198 (n0 + 3) 49 [(0, .ref 70), (1, .int v0), (2, .int v1), (3, .int (1 : Int32)), (4, .int v2)] [.int v3] G U = qm_run pm_m big m_198 n0 39 [(0, .ref 70), (1, .int v0), (2, .int v1), (3, .int (1 : Int32)), (4, .int (v2 + (1 : Int32)))] [] G U := rfl
theorem sg_rk_30 (big : Nat → List Value → qM → qW → qR) (n0 : Nat) (G : qM) (U : qW) (v0 : Int32) (v1 : Int32) : qm_run pm_m big m_198 (n0 + 2) 0 [(0, .ref 70), (1, .int v0), (2, .int v1), (3, .int (1 : Int32))] [] G U = qm_run pm_m big m_198 n0 2 [(0, .ref 70), (1, .int v0), (2, .int v1), (3, .int (1 : Int32))] [.int v0, .ref 70] G U := rfl
theorem sg_rk_31 (big : Nat → List Value → qM → qW → qR) (n0 : Nat) (G : qM) (U : qW) (v0 : Int32) (v1 : Int32) : qm_run pm_m big m_198 (n0 + 5) 5 [(0, .ref 70), (1, .int v0), (2, .int v1), (3, .int (1 : Int32))] [.int (1 : Int32)] G U = qm_run pm_m big m_198 n0 14 [(0, .ref 70), (1, .int v0), (2, .int v1), (3, .int (1 : Int32))] [.long (60 : Int64), .long (0 : Int64), .long (Int32.toInt64 v1)] G U := rfl
theorem sg_rk_32 (big : Nat → List Value → qM → qW → qR) (n0 : Nat) (G : qM) (U : qW) (v0 : Int32) (v1 : Int32) : qm_run pm_m big m_198 (n0 + 5) 17 [(0, .ref 70), (1, .int v0), (2, .int v1), (3, .int (1 : Int32))] [.int (1 : Int32)] G U = qm_run pm_m big m_198 n0 24 [(0, .ref 70), (1, .int v0), (2, .int v1), (3, .int (1 : Int32))] [.long (1 : Int64), .long (0 : Int64), .long (1 : Int64)] G U := rfl
theorem sg_rk_33 (big : Nat → List Value → qM → qW → qR) (n0 : Nat) (G : qM) (U : qW) (v0 : Int32) (v1 : Int32) : qm_run pm_m big m_198 (n0 + 2) 27 [(0, .ref 70), (1, .int v0), (2, .int v1), (3, .int (1 : Int32))] [.int (1 : Int32)] G U = qm_run pm_m big m_198 n0 33 [(0, .ref 70), (1, .int v0), (2, .int v1), (3, .int (1 : Int32))] [.ref 70] G U := rfl
theorem sg_rk_34 (big : Nat → List Value → qM → qW → qR) (n0 : Nat) (G : qM) (U : qW) (v0 : Int32) (v1 : Int32) : qm_run pm_m big m_198 (n0 + 2) 36 [(0, .ref 70), (1, .int v0), (2, .int v1), (3, .int (1 : Int32))] [] G U = qm_run pm_m big m_198 n0 39 [(0, .ref 70), (1, .int v0), (2, .int v1), (3, .int (1 : Int32)), (4, .int (0 : Int32))] [] G U := rfl
theorem sg_rk_35 (big : Nat → List Value → qM → qW → qR) (n0 : Nat) (G : qM) (U : qW) (v0 : Int32) (v1 : Int32) (v2 : Int32) : qm_run pm_m big m_198 (n0 + 5) 56 [(0, .ref 70), (1, .int v0), (2, .int v1), (3, .int (1 : Int32)), (4, .int v2)] [] G U = qm_run pm_m big m_198 n0 74 [(0, .ref 70), (1, .int v0), (2, .int v1), (3, .int (1 : Int32)), (4, .int v2)] [.int v0, .ref 76] G U := rfl
theorem sg_rk_36 (big : Nat → List Value → qM → qW → qR) (n0 : Nat) (G : qM) (U : qW) (v0 : Int32) : qm_run pm_m big m_183 (n0 + 2) 0 [(0, .ref 70), (1, .int v0), (2, .int (0 : Int32))] [] G U = qm_run pm_m big m_183 n0 2 [(0, .ref 70), (1, .int v0), (2, .int (0 : Int32))] [.int v0, .ref 70] G U := rfl
theorem sg_rk_37 (big : Nat → List Value → qM → qW → qR) (n0 : Nat) (G : qM) (U : qW) (v0 : Int32) : qm_run pm_m big m_183 (n0 + 5) 5 [(0, .ref 70), (1, .int v0), (2, .int (0 : Int32))] [.int (1 : Int32)] G U = qm_run pm_m big m_183 n0 12 [(0, .ref 70), (1, .int v0), (2, .int (0 : Int32))] [.long (1 : Int64), .long (0 : Int64), .long (0 : Int64)] G U := rfl
theorem sg_rk_38 (big : Nat → List Value → qM → qW → qR) (n0 : Nat) (G : qM) (U : qW) (v0 : Int32) : qm_run pm_m big m_183 (n0 + 2) 15 [(0, .ref 70), (1, .int v0), (2, .int (0 : Int32))] [.int (1 : Int32)] G U = qm_run pm_m big m_183 n0 21 [(0, .ref 70), (1, .int v0), (2, .int (0 : Int32))] [.ref 70] G U := rfl
theorem sg_rk_39 (big : Nat → List Value → qM → qW → qR) (n0 : Nat) (G : qM) (U : qW) (v0 : Int32) : qm_run pm_m big m_183 (n0 + 7) 24 [(0, .ref 70), (1, .int v0), (2, .int (0 : Int32))] [] G U = qm_run pm_m big m_183 n0 38 [(0, .ref 70), (1, .int v0), (2, .int (0 : Int32))] [.int (0 : Int32), .int v0, .ref 70, .int (100 : Int32)] G U := rfl
theorem sg_rk_40 (big : Nat → List Value → qM → qW → qR) (n0 : Nat) (G : qM) (U : qW) (v0 : Int32) : qm_run pm_m big m_183 (n0 + 2) 0 [(0, .ref 70), (1, .int v0), (2, .int (1 : Int32))] [] G U = qm_run pm_m big m_183 n0 2 [(0, .ref 70), (1, .int v0), (2, .int (1 : Int32))] [.int v0, .ref 70] G U := rfl
theorem sg_rk_41 (big : Nat → List Value → qM → qW → qR) (n0 : Nat) (G : qM) (U : qW) (v0 : Int32) : qm_run pm_m big m_183 (n0 + 5) 5 [(0, .ref 70), (1, .int v0), (2, .int (1 : Int32))] [.int (1 : Int32)] G U = qm_run pm_m big m_183 n0 12 [(0, .ref 70), (1, .int v0), (2, .int (1 : Int32))] [.long (1 : Int64), .long (0 : Int64), .long (1 : Int64)] G U := rfl
theorem sg_rk_42 (big : Nat → List Value → qM → qW → qR) (n0 : Nat) (G : qM) (U : qW) (v0 : Int32) : qm_run pm_m big m_183 (n0 + 2) 15 [(0, .ref 70), (1, .int v0), (2, .int (1 : Int32))] [.int (1 : Int32)] G U = qm_run pm_m big m_183 n0 21 [(0, .ref 70), (1, .int v0), (2, .int (1 : Int32))] [.ref 70] G U := rfl
theorem sg_rk_43 (big : Nat → List Value → qM → qW → qR) (n0 : Nat) (G : qM) (U : qW) (v0 : Int32) : qm_run pm_m big m_183 (n0 + 8) 24 [(0, .ref 70), (1, .int v0), (2, .int (1 : Int32))] [] G U = qm_run pm_m big m_183 n0 38 [(0, .ref 70), (1, .int v0), (2, .int (1 : Int32))] [.int (1 : Int32), .int v0, .ref 70, .int (100 : Int32)] G U := rfl
theorem sg_rk_44 (big : Nat → List Value → qM → qW → qR) (n0 : Nat) (G : qM) (U : qW) (v0 : Int32) : qm_run pm_m big m_188 (n0 + 2) 0 [(0, .ref 70), (1, .int v0)] [] G U = qm_run pm_m big m_188 n0 2 [(0, .ref 70), (1, .int v0)] [.int v0, .ref 70] G U := rfl
theorem sg_rk_45 (big : Nat → List Value → qM → qW → qR) (n0 : Nat) (G : qM) (U : qW) (v0 : Int32) : qm_run pm_m big m_188 (n0 + 2) 5 [(0, .ref 70), (1, .int v0)] [.int (1 : Int32)] G U = qm_run pm_m big m_188 n0 11 [(0, .ref 70), (1, .int v0)] [.ref 70] G U := rfl
theorem sg_rk_46 (big : Nat → List Value → qM → qW → qR) (n0 : Nat) (G : qM) (U : qW) (v0 : Int32) : qm_run pm_m big m_188 (n0 + 2) 14 [(0, .ref 70), (1, .int v0)] [] G U = qm_run pm_m big m_188 n0 16 [(0, .ref 70), (1, .int v0)] [.int v0, .ref 70] G U := rfl
theorem sg_rk_47 (big : Nat → List Value → qM → qW → qR) (n0 : Nat) (G : qM) (U : qW) (v0 : Int32) (v1 : Int32) : qm_run pm_m big m_195 (n0 + 3) 8 [(0, .ref 70), (1, .int v0), (2, .int v1)] [] G U = qm_run pm_m big m_195 n0 13 [(0, .ref 70), (1, .int v0), (2, .int v1)] [.int (G 70 27), .int v1] G U := rfl
theorem sg_rk_48 (big : Nat → List Value → qM → qW → qR) (n0 : Nat) (G : qM) (U : qW) (v0 : Int32) (v1 : Int32) : qm_run pm_m big m_195 (n0 + 4) 16 [(0, .ref 70), (1, .int v0), (2, .int v1)] [] G U = qm_run pm_m big m_195 n0 20 [(0, .ref 70), (1, .int v0), (2, .int v1)] [.int (0 : Int32), .int v1, .ref 70, .int v0] G U := rfl
theorem sg_rk_49 (big : Nat → List Value → qM → qW → qR) (n0 : Nat) (G : qM) (U : qW) (v0 : Int32) (v1 : Int32) (v2 : Int32) (v3 : Int32) : qm_run pm_m big m_195 (n0 + 3) 26 [(0, .ref 70), (1, .int v0), (2, .int v1)] [.int v3, .int v2] G U = qm_run pm_m big m_195 n0 29 [(0, .ref 70), (1, .int v0), (2, .int v1)] [.int (1 : Int32), .int v1, .ref 70, .int v3, .int v2] G U := rfl
theorem sg_rk_50 (big : Nat → List Value → qM → qW → qR) (n0 : Nat) (G : qM) (U : qW) (v0 : Int32) (v1 : Int32) (v2 : Int32) (v3 : Int32) (v4 : Int32) : qm_run pm_m big m_195 (n0 + 5) 35 [(0, .ref 70), (1, .int v0), (2, .int v1)] [.int v4, .int v3, .int v2] G U = qm_run pm_m big m_195 n0 8 [(0, .ref 70), (1, .int (v2 + (v3 + v4))), (2, .int (v1 + (1 : Int32)))] [] G U := rfl
theorem sg_rk_51 (big : Nat → List Value → qM → qW → qR) (n0 : Nat) (G : qM) (U : qW) : qm_run pm_m big m_195 (n0 + 1) 0 [(0, .ref 70)] [] G U = qm_run pm_m big m_195 n0 1 [(0, .ref 70)] [.ref 70] G U := rfl
theorem sg_rk_52 (big : Nat → List Value → qM → qW → qR) (n0 : Nat) (G : qM) (U : qW) : qm_run pm_m big m_195 (n0 + 4) 4 [(0, .ref 70)] [] G U = qm_run pm_m big m_195 n0 8 [(0, .ref 70), (1, .int (0 : Int32)), (2, .int (0 : Int32))] [] G U := rfl
theorem sg_rk_53 (big : Nat → List Value → qM → qW → qR) (n0 : Nat) (G : qM) (U : qW) (v0 : Int32) (v1 : Int32) : qm_run pm_m big m_205 (n0 + 3) 4 [(0, .ref 70), (1, .int v0), (2, .int v1)] [] G U = qm_run pm_m big m_205 n0 9 [(0, .ref 70), (1, .int v0), (2, .int v1)] [.int (G 70 4), .int v1] G U := rfl
theorem sg_rk_54 (big : Nat → List Value → qM → qW → qR) (n0 : Nat) (G : qM) (U : qW) (v0 : Int32) (v1 : Int32) : qm_run pm_m big m_205 (n0 + 6) 12 [(0, .ref 70), (1, .int v0), (2, .int v1)] [] G U = qm_run pm_m big m_205 n0 21 [(0, .ref 70), (1, .int v0), (2, .int v1)] [.int ((15 : Int32) + v1), .ref 71, .int v0] G U := rfl
theorem sg_rk_55 (big : Nat → List Value → qM → qW → qR) (n0 : Nat) (G : qM) (U : qW) (v0 : Int32) (v1 : Int32) (v2 : Int32) (v3 : Int32) : qm_run pm_m big m_205 (n0 + 1) 22 [(0, .ref 70), (1, .int v0), (2, .int v1)] [.int v3, .int v2] G U = qm_run pm_m big m_205 n0 24 [(0, .ref 70), (1, .int v0), (2, .int v1)] [.int (Int8.toInt32 (Int8.ofInt (-4))), .int v3, .int v2] G U := rfl
theorem sg_rk_56 (big : Nat → List Value → qM → qW → qR) (n0 : Nat) (G : qM) (U : qW) (v0 : Int32) (v1 : Int32) (v2 : Int32) : qm_run pm_m big m_205 (n0 + 1) 31 [(0, .ref 70), (1, .int v0), (2, .int v1)] [.int v2] G U = qm_run pm_m big m_205 n0 32 [(0, .ref 70), (1, .int v0), (2, .int v1)] [.int (0 : Int32), .int v2] G U := rfl
theorem sg_rk_57 (big : Nat → List Value → qM → qW → qR) (n0 : Nat) (G : qM) (U : qW) (v0 : Int32) (v1 : Int32) (v2 : Int32) : qm_run pm_m big m_205 (n0 + 4) 35 [(0, .ref 70), (1, .int v0), (2, .int v1)] [.int (0 : Int32), .int v2] G U = qm_run pm_m big m_205 n0 4 [(0, .ref 70), (1, .int (v2 + (0 : Int32))), (2, .int (v1 + (1 : Int32)))] [] G U := rfl
theorem sg_rk_58 (big : Nat → List Value → qM → qW → qR) (n0 : Nat) (G : qM) (U : qW) (v0 : Int32) (v1 : Int32) (v2 : Int32) : qm_run pm_m big m_205 (n0 + 2) 27 [(0, .ref 70), (1, .int v0), (2, .int v1)] [.int v2] G U = qm_run pm_m big m_205 n0 32 [(0, .ref 70), (1, .int v0), (2, .int v1)] [.int (1 : Int32), .int v2] G U := rfl
theorem sg_rk_59 (big : Nat → List Value → qM → qW → qR) (n0 : Nat) (G : qM) (U : qW) (v0 : Int32) (v1 : Int32) (v2 : Int32) : qm_run pm_m big m_205 (n0 + 4) 35 [(0, .ref 70), (1, .int v0), (2, .int v1)] [.int (1 : Int32), .int v2] G U = qm_run pm_m big m_205 n0 4 [(0, .ref 70), (1, .int (v2 + (1 : Int32))), (2, .int (v1 + (1 : Int32)))] [] G U := rfl
theorem sg_rk_60 (big : Nat → List Value → qM → qW → qR) (n0 : Nat) (G : qM) (U : qW) : qm_run pm_m big m_205 (n0 + 4) 0 [(0, .ref 70)] [] G U = qm_run pm_m big m_205 n0 4 [(0, .ref 70), (1, .int (0 : Int32)), (2, .int (0 : Int32))] [] G U := rfl
theorem sg_rk_61 (big : Nat → List Value → qM → qW → qR) (n0 : Nat) (G : qM) (U : qW) (v0 : Int32) (v1 : Int32) : qm_run pm_m big m_204 (n0 + 2) 2 [(0, .ref 70), (1, .int v0), (2, .int v1)] [] G U = qm_run pm_m big m_204 n0 4 [(0, .ref 70), (1, .int v0), (2, .int v1)] [.int v0, .int v1] G U := rfl
theorem sg_rk_62 (big : Nat → List Value → qM → qW → qR) (n0 : Nat) (G : qM) (U : qW) (v0 : Int32) (v1 : Int32) : qm_run pm_m big m_204 (n0 + 1) 7 [(0, .ref 70), (1, .int v0), (2, .int v1)] [] G U = qm_run pm_m big m_204 n0 8 [(0, .ref 70), (1, .int v0), (2, .int v1)] [.ref 70] G U := rfl
theorem sg_rk_63 (big : Nat → List Value → qM → qW → qR) (n0 : Nat) (G : qM) (U : qW) (v0 : Int32) (v1 : Int32) (v2 : Int32) : qm_run pm_m big m_204 (n0 + 3) 11 [(0, .ref 70), (1, .int v0), (2, .int v1)] [.int v2] G U = qm_run pm_m big m_204 n0 2 [(0, .ref 70), (1, .int v0), (2, .int (v1 + (1 : Int32)))] [] G U := rfl
theorem sg_rk_64 (big : Nat → List Value → qM → qW → qR) (n0 : Nat) (G : qM) (U : qW) (v0 : Int32) : qm_run pm_m big m_204 (n0 + 2) 0 [(0, .ref 70), (1, .int v0)] [] G U = qm_run pm_m big m_204 n0 2 [(0, .ref 70), (1, .int v0), (2, .int (0 : Int32))] [] G U := rfl
theorem sg_rk_65 (big : Nat → List Value → qM → qW → qR) (n0 : Nat) (G : qM) (U : qW) (v0 : Int32) (v1 : Int32) : qm_run pm_m big m_204 (n0 + 1) 18 [(0, .ref 70), (1, .int v0), (2, .int v1)] [] G U = qm_run pm_m big m_204 n0 19 [(0, .ref 70), (1, .int v0), (2, .int v1)] [.ref 70] G U := rfl
theorem sg_rk_66 (big : Nat → List Value → qM → qW → qR) (n0 : Nat) (G : qM) (U : qW) (v0 : Int32) (v1 : Int32) (v2 : Int32) : qm_run pm_m big m_204 (n0 + 1) 22 [(0, .ref 70), (1, .int v0), (2, .int v1)] [.int v2] G U = qm_run pm_m big m_204 n0 23 [(0, .ref 70), (1, .int v0), (2, .int v1)] [.ref 70, .int v2] G U := rfl
theorem sg_rk_67 (big : Nat → List Value → qM → qW → qR) (n0 : Nat) (G : qM) (U : qW) (v0 : Int32) (v1 : Int32) : qm_run pm_m big m_196 (n0 + 2) 38 [(0, .ref 70), (1, .int v0), (2, .int v1)] [] G U = qm_run pm_m big m_196 n0 40 [(0, .ref 70), (1, .int v0), (2, .int v1)] [.int v0, .int v1] G U := rfl
theorem sg_rk_68 (big : Nat → List Value → qM → qW → qR) (n0 : Nat) (G : qM) (U : qW) (v0 : Int32) (v1 : Int32) : qm_run pm_m big m_196 (n0 + 1) 43 [(0, .ref 70), (1, .int v0), (2, .int v1)] [] G U = qm_run pm_m big m_196 n0 44 [(0, .ref 70), (1, .int v0), (2, .int v1)] [.ref 70] G U := rfl
theorem sg_rk_69 (big : Nat → List Value → qM → qW → qR) (n0 : Nat) (G : qM) (U : qW) (v0 : Int32) (v1 : Int32) (v2 : Int32) : qm_run pm_m big m_196 (n0 + 3) 47 [(0, .ref 70), (1, .int v0), (2, .int v1)] [.int v2] G U = qm_run pm_m big m_196 n0 38 [(0, .ref 70), (1, .int v0), (2, .int (v1 + (1 : Int32)))] [] G U := rfl
theorem sg_rk_70 (big : Nat → List Value → qM → qW → qR) (n0 : Nat) (G : qM) (U : qW) (v0 : Int32) : qm_run pm_m big m_196 (n0 + 4) 0 [(0, .ref 70), (1, .int v0)] [] G U = qm_run pm_m big m_196 n0 6 [(0, .ref 70), (1, .int v0)] [.long (60 : Int64), .long (0 : Int64), .long (Int32.toInt64 v0)] G U := rfl
theorem sg_rk_71 (big : Nat → List Value → qM → qW → qR) (n0 : Nat) (G : qM) (U : qW) (v0 : Int32) : qm_run pm_m big m_196 (n0 + 8) 9 [(0, .ref 70), (1, .int v0)] [.int (1 : Int32)] G U = qm_run pm_m big m_196 n0 26 [(0, .ref 70), (1, .int v0)] [.int (999 : Int32), .int ((G 71 26) + v0)] G U := rfl
theorem sg_rk_72 (big : Nat → List Value → qM → qW → qR) (n0 : Nat) (G : qM) (U : qW) (v0 : Int32) : qm_run pm_m big m_196 (n0 + 1) 32 [(0, .ref 70), (1, .int v0)] [] G U = qm_run pm_m big m_196 n0 33 [(0, .ref 70), (1, .int v0)] [.ref 70] G U := rfl
theorem sg_rk_73 (big : Nat → List Value → qM → qW → qR) (n0 : Nat) (G : qM) (U : qW) (v0 : Int32) : qm_run pm_m big m_196 (n0 + 2) 36 [(0, .ref 70), (1, .int v0)] [] G U = qm_run pm_m big m_196 n0 38 [(0, .ref 70), (1, .int v0), (2, .int (0 : Int32))] [] G U := rfl
theorem sg_rk_74 (big : Nat → List Value → qM → qW → qR) (n0 : Nat) (G : qM) (U : qW) (v0 : Int32) (v1 : Int32) : qm_run pm_m big m_196 (n0 + 40) 54 [(0, .ref 70), (1, .int v0), (2, .int v1)] [] G U = qm_run pm_m big m_196 n0 75 [(0, .ref 70), (1, .int v0), (2, .int (1 : Int32))] [] (q_up (q_up (q_up G 71 0 (G 75 0)) 71 5 (G 76 0)) 71 1 (G 75 1)) U := rfl
theorem sg_rk_75 (big : Nat → List Value → qM → qW → qR) (n0 : Nat) (G : qM) (U : qW) (v0 : Int32) : qm_run pm_m big m_196 (n0 + 40) 75 [(0, .ref 70), (1, .int v0), (2, .int (1 : Int32))] [] G U = qm_run pm_m big m_196 n0 61 [(0, .ref 70), (1, .int v0), (2, .int (3 : Int32))] [] (q_up (q_up (q_up G 71 6 (G 76 1)) 71 2 (G 75 2)) 71 7 (G 76 2)) U := rfl
theorem sg_rk_76 (big : Nat → List Value → qM → qW → qR) (n0 : Nat) (G : qM) (U : qW) (v0 : Int32) : qm_run pm_m big m_196 (n0 + 40) 61 [(0, .ref 70), (1, .int v0), (2, .int (3 : Int32))] [] G U = qm_run pm_m big m_196 n0 82 [(0, .ref 70), (1, .int v0), (2, .int (4 : Int32))] [.int (9 : Int32), .ref 71] (q_up (q_up (q_up G 71 3 (G 75 3)) 71 8 (G 76 3)) 71 4 (G 75 4)) U := rfl
theorem sg_rk_77 (big : Nat → List Value → qM → qW → qR) (n0 : Nat) (G : qM) (U : qW) (v0 : Int32) : qm_run pm_m big m_196 (n0 + 19) 82 [(0, .ref 70), (1, .int v0), (2, .int (4 : Int32))] [.int (9 : Int32), .ref 71] G U = qm_run pm_m big m_196 n0 107 [(0, .ref 70), (1, .int v0), (2, .int (5 : Int32))] [.ref 70] (q_up (q_up G 71 9 (G 76 4)) 71 26 ((G 71 26) + v0)) U := rfl
theorem w_rit_fr {n : Nat} : ∀ k g, w_fr g (s_rit n k g)
  | 0, g => w_fr_rfl g
  | k + 1, g => w_fr.trans s_rst_fr (w_rit_fr k (s_rst n g))
theorem b_in1 {m lo hi : Nat} (g : qM) (u : qW) (h1 : lo ≤ m) (h2 : m ≤ hi) (hh : hi < 1000) : q_BS 149 [.long (Int32.toInt64 (Int32.ofNat m)), .long (Int64.ofNat lo), .long (Int64.ofNat hi)] g u (some (.int 1), g, u) := by
  have e : s_in (Int32.toInt64 (Int32.ofNat m)) (Int64.ofNat lo) (Int64.ofNat hi) = 1 := by
    rcases s_in_01 (Int32.toInt64 (Int32.ofNat m)) (Int64.ofNat lo) (Int64.ofNat hi) with z | z
    · refine absurd z (s_in_i.mpr ?_)
      rw [q_nat (by omega), Int64.toInt_ofNat_of_lt (by omega), Int64.toInt_ofNat_of_lt (by omega)]
      omega
    · exact z
  have k := b_in (Int32.toInt64 (Int32.ofNat m)) (Int64.ofNat lo) (Int64.ofNat hi) g u
  rw [e] at k
  exact k
theorem b_risOne1 {n p : Nat} (g : qM) (u : qW) (hn : g 70 4 = Int32.ofNat n) (h6 : n ≤ 6) (hp : p < n) : q_BS 169 [.ref 70, .int (Int32.ofNat p)] g u (some (.int 1), g, u) := by
  have e : d_risOne (Int32.ofNat p) g = 1 := by
    unfold d_risOne
    rcases s_in_01 (Int32.toInt64 (Int32.ofNat p)) 0 (Int32.toInt64 ((g 70 4) - (1 : Int32))) with z | z
    · refine absurd z (s_in_i.mpr ?_)
      have e1 : (1 : Int32).toInt = 1 := rfl
      have e0 : (0 : Int64).toInt = 0 := rfl
      rw [Int32.toInt_toInt64, hn, s_sub (by rw [q_nat (by omega), e1]; omega) (by rw [q_nat (by omega), e1]; omega), q_nat (by omega), q_nat (by omega), e1, e0]
      omega
    · exact z
  have k := b_risOne (Int32.ofNat p) g u
  rw [e] at k
  exact k
theorem rst_l (g : qM) (u : qW) {n : Nat} (hn : g 70 27 = Int32.ofNat n) (h6 : n ≤ 6) : ∀ k i a, i + k = n → q_EV m_190 13 [(0, .ref 70), (1, .int a), (2, .int (Int32.ofNat i))] [] g u (fun R => R = (some (.int (s_bs (p_stk2 g) k i a)), g, u)) := by
  intro k
  induction k with
  | zero =>
    intro i a hi
    refine q_step 3 18 [(0, .ref 70), (1, .int a), (2, .int (Int32.ofNat i))] [.int (g 70 27), .int (Int32.ofNat i)] g u (fun big n0 => sg_rk_1 big n0 g u a (Int32.ofNat i)) ?_
    refine q_ic_ge rfl (fun (hc0 : (g 70 27) ≤ (Int32.ofNat i)) => ?_) (fun hc0 => absurd (show (g 70 27) ≤ (Int32.ofNat i) from by rw [hn]; exact (q_le (by omega) (by omega)).mpr (by omega)) hc0)
    refine q_ret 2 (some (.int a), g, u) (fun _ _ => rfl) ?_
    rfl
  | succ k ih =>
    intro i a hi
    refine q_step 3 18 [(0, .ref 70), (1, .int a), (2, .int (Int32.ofNat i))] [.int (g 70 27), .int (Int32.ofNat i)] g u (fun big n0 => sg_rk_1 big n0 g u a (Int32.ofNat i)) ?_
    refine q_ic_ge rfl (fun hc0 => absurd (show (g 70 27) ≤ (Int32.ofNat i) from hc0) (fun z => by rw [hn] at z; exact absurd ((q_le (by omega) (by omega)).mp z) (by omega))) (fun (hc0 : ¬ ((g 70 27) ≤ (Int32.ofNat i))) => ?_)
    refine q_step 4 27 [(0, .ref 70), (1, .int a), (2, .int (Int32.ofNat i))] [.int (Int32.ofNat i), .ref 79, .int a] g u (fun big n0 => sg_rk_2 big n0 g u a (Int32.ofNat i)) ?_
    refine q_iald (j := i) (q_ixn (by omega) (by omega)) rfl rfl ?_
    refine q_step 1 29 [(0, .ref 70), (1, .int a), (2, .int (Int32.ofNat i))] [.int (4 : Int32), .int (g 79 i), .int a] g u (fun big n0 => sg_rk_3 big n0 g u a (Int32.ofNat i) a (g 79 i)) ?_
    refine q_ic_eq rfl (fun (hc1 : (g 79 i) = (4 : Int32)) => ?_) (fun (hc1 : ¬ ((g 79 i) = (4 : Int32))) => ?_)
    · refine q_step 1 47 [(0, .ref 70), (1, .int a), (2, .int (Int32.ofNat i))] [.int (0 : Int32), .int a] g u (fun big n0 => sg_rk_4 big n0 g u a (Int32.ofNat i) a) ?_
      refine q_call (M2 := 164) (rest := [.int a]) (b_flag0 _ _) (fun _ _ => rfl) ?_
      refine q_step 6 13 [(0, .ref 70), (1, .int (a ||| ((0 : Int32) <<< ((Int32.ofNat i) &&& 31)))), (2, .int ((Int32.ofNat i) + (1 : Int32)))] [] g u (fun big n0 => sg_rk_5 big n0 g u a (Int32.ofNat i) a) ?_
      have e : p_stk2 g i = 0 := by
        unfold p_stk2
        rw [if_pos hc1]
      rw [s_bs_0 e, q_succ, s_or0]
      exact ih (i + 1) _ (by omega)
    · refine q_step 3 37 [(0, .ref 70), (1, .int a), (2, .int (Int32.ofNat i))] [.int (Int32.ofNat i), .ref 80, .int a] g u (fun big n0 => sg_rk_6 big n0 g u a (Int32.ofNat i) a) ?_
      refine q_iald (j := i) (q_ixn (by omega) (by omega)) rfl rfl ?_
      refine q_step 1 39 [(0, .ref 70), (1, .int a), (2, .int (Int32.ofNat i))] [.int (4 : Int32), .int (g 80 i), .int a] g u (fun big n0 => sg_rk_7 big n0 g u a (Int32.ofNat i) a (g 80 i)) ?_
      refine q_ic_ne rfl (fun (hc2 : (g 80 i) = (4 : Int32)) => ?_) (fun (hc2 : ¬ ((g 80 i) = (4 : Int32))) => ?_)
      · refine q_step 2 47 [(0, .ref 70), (1, .int a), (2, .int (Int32.ofNat i))] [.int (1 : Int32), .int a] g u (fun big n0 => sg_rk_8 big n0 g u a (Int32.ofNat i) a) ?_
        refine q_call (M2 := 164) (rest := [.int a]) (b_flag1 _ _) (fun _ _ => rfl) ?_
        refine q_step 6 13 [(0, .ref 70), (1, .int (a ||| ((1 : Int32) <<< ((Int32.ofNat i) &&& 31)))), (2, .int ((Int32.ofNat i) + (1 : Int32)))] [] g u (fun big n0 => sg_rk_9 big n0 g u a (Int32.ofNat i) a) ?_
        have e : p_stk2 g i = 1 := by
          unfold p_stk2
          rw [if_neg hc1, if_pos hc2]
        rw [s_bs_1 e, q_succ]
        exact ih (i + 1) _ (by omega)
      · refine q_step 1 47 [(0, .ref 70), (1, .int a), (2, .int (Int32.ofNat i))] [.int (0 : Int32), .int a] g u (fun big n0 => sg_rk_4 big n0 g u a (Int32.ofNat i) a) ?_
        refine q_call (M2 := 164) (rest := [.int a]) (b_flag0 _ _) (fun _ _ => rfl) ?_
        refine q_step 6 13 [(0, .ref 70), (1, .int (a ||| ((0 : Int32) <<< ((Int32.ofNat i) &&& 31)))), (2, .int ((Int32.ofNat i) + (1 : Int32)))] [] g u (fun big n0 => sg_rk_5 big n0 g u a (Int32.ofNat i) a) ?_
        have e : p_stk2 g i = 0 := by
          unfold p_stk2
          rw [if_neg hc1, if_neg hc2]
        rw [s_bs_0 e, q_succ, s_or0]
        exact ih (i + 1) _ (by omega)
theorem r_stuck {n W H : Nat} {g r : qM} (u : qW) (h : w_ok n W H r) (hs : w_sm n (s_start g) r) (h5 : n ≤ 5) : w_BS w_fr 190 [.ref 70] g u (.int (f_stk n r)) := by
  refine w_bs (mm := m_190) rfl (Nat.le_of_ble_eq_true rfl) rfl ?_
  refine q_step 1 1 [(0, .ref 70)] [.ref 70] g u (fun big n0 => sg_rk_10 big n0 g u) ?_
  refine q_call (M2 := 172) (rest := []) (b_starts g u) (fun _ _ => rfl) ?_
  refine q_step 1 5 [(0, .ref 70)] [.ref 70] (s_start g) u (fun big n0 => sg_rk_11 big n0 (s_start g) u) ?_
  refine q_call (M2 := 191) (rest := []) (c_rst u h hs) (fun _ _ => rfl) ?_
  refine q_step 5 13 [(0, .ref 70), (1, .int (0 : Int32)), (2, .int (0 : Int32))] [] (s_rst n (s_start g)) u (fun big n0 => sg_rk_12 big n0 (s_rst n (s_start g)) u (s_ran n (s_start g))) ?_
  refine q_EV.imp (rst_l (s_rst n (s_start g)) u (by rw [s_rst_g (by omega)]; exact w_pl h hs) (by omega) n 0 0 (by omega)) (fun R e => ⟨s_rst n (s_start g), u, ?_, w_fr.trans s_start_fr s_rst_fr⟩)
  rw [e, w_stk2 h hs]
theorem rr_l (u : qW) {n W H : Nat} : ∀ k i g r, i + k = 61 → w_ok n W H r → w_sm n g r → q_EV m_199 6 [(0, .ref 70), (1, .int (Int32.ofNat i))] [] g u (w_po w_fr g (.int (f_rest n k i r))) := by
  intro k
  induction k with
  | zero =>
    intro i g r hi h hs
    refine q_step 2 9 [(0, .ref 70), (1, .int (Int32.ofNat i))] [.int (60 : Int32), .int (Int32.ofNat i)] g u (fun big n0 => sg_rk_13 big n0 g u (Int32.ofNat i)) ?_
    refine q_ic_gt rfl (fun (hc0 : (60 : Int32) < (Int32.ofNat i)) => ?_) (fun hc0 => absurd (show (60 : Int32) < (Int32.ofNat i) from by rw [show i = 61 by omega]; decide) hc0)
    refine q_ret 2 (some (.int (Int8.toInt32 (Int8.ofInt (-4)))), g, u) (fun _ _ => rfl) ?_
    exact ⟨g, u, rfl, w_fr_rfl g⟩
  | succ k ih =>
    intro i g r hi h hs
    refine q_step 2 9 [(0, .ref 70), (1, .int (Int32.ofNat i))] [.int (60 : Int32), .int (Int32.ofNat i)] g u (fun big n0 => sg_rk_13 big n0 g u (Int32.ofNat i)) ?_
    refine q_ic_gt rfl (fun hc0 => absurd (show (60 : Int32) < (Int32.ofNat i) from hc0) (fun z => by have z1 := (q_lt (i := 60) (j := i) (by omega) (by omega)).mp z; omega)) (fun (hc0 : ¬ ((60 : Int32) < (Int32.ofNat i))) => ?_)
    refine q_step 1 13 [(0, .ref 70), (1, .int (Int32.ofNat i))] [.ref 70] g u (fun big n0 => sg_rk_14 big n0 g u (Int32.ofNat i)) ?_
    refine q_call (M2 := 191) (rest := []) (c_rst u h hs) (fun _ _ => rfl) ?_
    refine q_if_ne rfl (fun (hc1 : (s_ran n g) = 0) => ?_) (fun (hc1 : ¬ ((s_ran n g) = 0)) => ?_)
    · refine q_ret 2 (some (.int (Int32.ofNat i)), (s_rst n g), u) (fun _ _ => rfl) ?_
      exact ⟨s_rst n g, u, by rw [f_rest, if_pos ((w_sm_rst h hs).2.2.mp hc1)], s_rst_fr⟩
    · refine q_step 2 6 [(0, .ref 70), (1, .int ((Int32.ofNat i) + (1 : Int32)))] [] (s_rst n g) u (fun big n0 => sg_rk_15 big n0 (s_rst n g) u (Int32.ofNat i)) ?_
      rw [q_succ]
      exact q_EV.imp (ih (i + 1) (s_rst n g) (s_rst n r) (by omega) (w_ok_rst h) (w_sm_rst h hs).1) (fun R z => w_po_r s_rst_fr (by rw [f_rest, if_neg (fun y => hc1 ((w_sm_rst h hs).2.2.mpr y))]) z)
theorem r_rest {n W H : Nat} {g r : qM} (u : qW) (h : w_ok n W H r) (hs : w_sm n (s_start g) r) (h5 : n ≤ 5) : w_BS w_fr 199 [.ref 70] g u (.int (f_rest n 61 0 r)) := by
  refine w_bs (mm := m_199) rfl (Nat.le_of_ble_eq_true rfl) rfl ?_
  refine q_step 1 1 [(0, .ref 70)] [.ref 70] g u (fun big n0 => sg_rk_16 big n0 g u) ?_
  refine q_call (M2 := 172) (rest := []) (b_starts g u) (fun _ _ => rfl) ?_
  refine q_step 2 6 [(0, .ref 70), (1, .int (0 : Int32))] [] (s_start g) u (fun big n0 => sg_rk_17 big n0 (s_start g) u) ?_
  exact q_EV.imp (rr_l u 61 0 (s_start g) r (by omega) h hs) (fun R z => w_po_r s_start_fr rfl z)
theorem rah_0 (u : qW) {n m : Nat} (h6 : n ≤ 6) (hm : m ≤ 60) {p : Nat} {Q : Option Value × qM × qW → Prop} : ∀ k i g, i + k = m → g 70 27 = Int32.ofNat n → g 70 2 ≠ 0 → q_EV m_198 56 [(0, .ref 70), (1, .int (Int32.ofNat p)), (2, .int (Int32.ofNat m)), (3, .int (0 : Int32)), (4, .int (Int32.ofNat m))] [] (s_rit n k g) u Q → q_EV m_198 39 [(0, .ref 70), (1, .int (Int32.ofNat p)), (2, .int (Int32.ofNat m)), (3, .int (0 : Int32)), (4, .int (Int32.ofNat i))] [] g u Q := by
  intro k
  induction k with
  | zero =>
    intro i g hi hn hw hk
    have e : i = m := by omega
    subst e
    refine q_step 2 42 [(0, .ref 70), (1, .int (Int32.ofNat p)), (2, .int (Int32.ofNat i)), (3, .int (0 : Int32)), (4, .int (Int32.ofNat i))] [.int (Int32.ofNat i), .int (Int32.ofNat i)] g u (fun big n0 => sg_rk_18 big n0 g u (Int32.ofNat p) (Int32.ofNat i) (Int32.ofNat i)) ?_
    refine q_ic_ge rfl (fun (hc0 : (Int32.ofNat i) ≤ (Int32.ofNat i)) => ?_) (fun hc0 => absurd (show (Int32.ofNat i) ≤ (Int32.ofNat i) from (q_le (by omega) (by omega)).mpr (by omega)) hc0)
    exact hk
  | succ k ih =>
    intro i g hi hn hw hk
    refine q_step 2 42 [(0, .ref 70), (1, .int (Int32.ofNat p)), (2, .int (Int32.ofNat m)), (3, .int (0 : Int32)), (4, .int (Int32.ofNat i))] [.int (Int32.ofNat m), .int (Int32.ofNat i)] g u (fun big n0 => sg_rk_18 big n0 g u (Int32.ofNat p) (Int32.ofNat m) (Int32.ofNat i)) ?_
    refine q_ic_ge rfl (fun hc0 => absurd (show (Int32.ofNat m) ≤ (Int32.ofNat i) from hc0) (fun z => absurd ((q_le (by omega) (by omega)).mp z) (by omega))) (fun (hc0 : ¬ ((Int32.ofNat m) ≤ (Int32.ofNat i))) => ?_)
    refine q_step 1 46 [(0, .ref 70), (1, .int (Int32.ofNat p)), (2, .int (Int32.ofNat m)), (3, .int (0 : Int32)), (4, .int (Int32.ofNat i))] [.ref 70] g u (fun big n0 => sg_rk_19 big n0 g u (Int32.ofNat p) (Int32.ofNat m) (Int32.ofNat i)) ?_
    refine q_call (M2 := 191) (rest := []) (b_rsteps g u hn h6 hw) (fun _ _ => rfl) ?_
    refine q_step 3 39 [(0, .ref 70), (1, .int (Int32.ofNat p)), (2, .int (Int32.ofNat m)), (3, .int (0 : Int32)), (4, .int ((Int32.ofNat i) + (1 : Int32)))] [] (s_rst n g) u (fun big n0 => sg_rk_20 big n0 (s_rst n g) u (Int32.ofNat p) (Int32.ofNat m) (Int32.ofNat i) (s_ran n g)) ?_
    rw [q_succ]
    exact ih (i + 1) (s_rst n g) (by omega) (by rw [s_rst_g (by omega)]; exact hn) (by rw [s_rst_g (by omega)]; exact hw) hk
theorem r_ahead0 {n W H : Nat} {g r : qM} (u : qW) (h : w_ok n W H r) (hs : w_sm n (s_start g) r) (h5 : n ≤ 5) {m : Nat} (hm : m ≤ 60) {p : Nat} (hp : p < n) : w_BS w_fr 198 [.ref 70, .int (Int32.ofNat p), .int (Int32.ofNat m), .int (0 : Int32)] g u (.int (s_rit n m r 75 p)) := by
  refine w_bs (mm := m_198) rfl (Nat.le_of_ble_eq_true rfl) rfl ?_
  refine q_step 2 2 [(0, .ref 70), (1, .int (Int32.ofNat p)), (2, .int (Int32.ofNat m)), (3, .int (0 : Int32))] [.int (Int32.ofNat p), .ref 70] g u (fun big n0 => sg_rk_21 big n0 g u (Int32.ofNat p) (Int32.ofNat m)) ?_
  refine q_call (M2 := 169) (rest := []) (b_risOne1 g u (w_pl h hs) (by omega) hp) (fun _ _ => rfl) ?_
  refine q_step 5 14 [(0, .ref 70), (1, .int (Int32.ofNat p)), (2, .int (Int32.ofNat m)), (3, .int (0 : Int32))] [.long (60 : Int64), .long (0 : Int64), .long (Int32.toInt64 (Int32.ofNat m))] g u (fun big n0 => sg_rk_22 big n0 g u (Int32.ofNat p) (Int32.ofNat m)) ?_
  refine q_call (M2 := 149) (rest := []) (b_in1 (m := m) (lo := 0) (hi := 60) g u (by omega) (by omega) (by omega)) (fun _ _ => rfl) ?_
  refine q_step 5 24 [(0, .ref 70), (1, .int (Int32.ofNat p)), (2, .int (Int32.ofNat m)), (3, .int (0 : Int32))] [.long (1 : Int64), .long (0 : Int64), .long (0 : Int64)] g u (fun big n0 => sg_rk_23 big n0 g u (Int32.ofNat p) (Int32.ofNat m)) ?_
  refine q_call (M2 := 149) (rest := []) (show q_BS 149 [.long (0 : Int64), .long (0 : Int64), .long (1 : Int64)] g u (some (.int 1), g, u) from b_in _ _ _ _ _) (fun _ _ => rfl) ?_
  refine q_step 2 33 [(0, .ref 70), (1, .int (Int32.ofNat p)), (2, .int (Int32.ofNat m)), (3, .int (0 : Int32))] [.ref 70] g u (fun big n0 => sg_rk_24 big n0 g u (Int32.ofNat p) (Int32.ofNat m)) ?_
  refine q_call (M2 := 172) (rest := []) (b_starts g u) (fun _ _ => rfl) ?_
  refine q_step 2 39 [(0, .ref 70), (1, .int (Int32.ofNat p)), (2, .int (Int32.ofNat m)), (3, .int (0 : Int32)), (4, .int (0 : Int32))] [] (s_start g) u (fun big n0 => sg_rk_25 big n0 (s_start g) u (Int32.ofNat p) (Int32.ofNat m)) ?_
  refine rah_0 u (by omega) hm m 0 (s_start g) (by omega) (w_w0 h hs).1 (w_w0 h hs).2.2 ?_
  refine q_step 5 65 [(0, .ref 70), (1, .int (Int32.ofNat p)), (2, .int (Int32.ofNat m)), (3, .int (0 : Int32)), (4, .int (Int32.ofNat m))] [.int (Int32.ofNat p), .ref 75] (s_rit n m (s_start g)) u (fun big n0 => sg_rk_26 big n0 (s_rit n m (s_start g)) u (Int32.ofNat p) (Int32.ofNat m) (Int32.ofNat m)) ?_
  refine q_iald (j := p) (q_ixn (by omega) (by omega)) rfl rfl ?_
  refine q_ret 2 (some (.int ((s_rit n m (s_start g)) 75 p)), (s_rit n m (s_start g)), u) (fun _ _ => rfl) ?_
  refine ⟨_, u, by rw [((w_sm_rit m _ _ h hs).2.2 p hp).1], w_fr.trans s_start_fr (w_rit_fr m _)⟩
theorem rah_1 (u : qW) {n m : Nat} (h6 : n ≤ 6) (hm : m ≤ 60) {p : Nat} {Q : Option Value × qM × qW → Prop} : ∀ k i g, i + k = m → g 70 27 = Int32.ofNat n → g 70 2 ≠ 0 → q_EV m_198 56 [(0, .ref 70), (1, .int (Int32.ofNat p)), (2, .int (Int32.ofNat m)), (3, .int (1 : Int32)), (4, .int (Int32.ofNat m))] [] (s_rit n k g) u Q → q_EV m_198 39 [(0, .ref 70), (1, .int (Int32.ofNat p)), (2, .int (Int32.ofNat m)), (3, .int (1 : Int32)), (4, .int (Int32.ofNat i))] [] g u Q := by
  intro k
  induction k with
  | zero =>
    intro i g hi hn hw hk
    have e : i = m := by omega
    subst e
    refine q_step 2 42 [(0, .ref 70), (1, .int (Int32.ofNat p)), (2, .int (Int32.ofNat i)), (3, .int (1 : Int32)), (4, .int (Int32.ofNat i))] [.int (Int32.ofNat i), .int (Int32.ofNat i)] g u (fun big n0 => sg_rk_27 big n0 g u (Int32.ofNat p) (Int32.ofNat i) (Int32.ofNat i)) ?_
    refine q_ic_ge rfl (fun (hc0 : (Int32.ofNat i) ≤ (Int32.ofNat i)) => ?_) (fun hc0 => absurd (show (Int32.ofNat i) ≤ (Int32.ofNat i) from (q_le (by omega) (by omega)).mpr (by omega)) hc0)
    exact hk
  | succ k ih =>
    intro i g hi hn hw hk
    refine q_step 2 42 [(0, .ref 70), (1, .int (Int32.ofNat p)), (2, .int (Int32.ofNat m)), (3, .int (1 : Int32)), (4, .int (Int32.ofNat i))] [.int (Int32.ofNat m), .int (Int32.ofNat i)] g u (fun big n0 => sg_rk_27 big n0 g u (Int32.ofNat p) (Int32.ofNat m) (Int32.ofNat i)) ?_
    refine q_ic_ge rfl (fun hc0 => absurd (show (Int32.ofNat m) ≤ (Int32.ofNat i) from hc0) (fun z => absurd ((q_le (by omega) (by omega)).mp z) (by omega))) (fun (hc0 : ¬ ((Int32.ofNat m) ≤ (Int32.ofNat i))) => ?_)
    refine q_step 1 46 [(0, .ref 70), (1, .int (Int32.ofNat p)), (2, .int (Int32.ofNat m)), (3, .int (1 : Int32)), (4, .int (Int32.ofNat i))] [.ref 70] g u (fun big n0 => sg_rk_28 big n0 g u (Int32.ofNat p) (Int32.ofNat m) (Int32.ofNat i)) ?_
    refine q_call (M2 := 191) (rest := []) (b_rsteps g u hn h6 hw) (fun _ _ => rfl) ?_
    refine q_step 3 39 [(0, .ref 70), (1, .int (Int32.ofNat p)), (2, .int (Int32.ofNat m)), (3, .int (1 : Int32)), (4, .int ((Int32.ofNat i) + (1 : Int32)))] [] (s_rst n g) u (fun big n0 => sg_rk_29 big n0 (s_rst n g) u (Int32.ofNat p) (Int32.ofNat m) (Int32.ofNat i) (s_ran n g)) ?_
    rw [q_succ]
    exact ih (i + 1) (s_rst n g) (by omega) (by rw [s_rst_g (by omega)]; exact hn) (by rw [s_rst_g (by omega)]; exact hw) hk
theorem r_ahead1 {n W H : Nat} {g r : qM} (u : qW) (h : w_ok n W H r) (hs : w_sm n (s_start g) r) (h5 : n ≤ 5) {m : Nat} (hm : m ≤ 60) {p : Nat} (hp : p < n) : w_BS w_fr 198 [.ref 70, .int (Int32.ofNat p), .int (Int32.ofNat m), .int (1 : Int32)] g u (.int (s_rit n m r 76 p)) := by
  refine w_bs (mm := m_198) rfl (Nat.le_of_ble_eq_true rfl) rfl ?_
  refine q_step 2 2 [(0, .ref 70), (1, .int (Int32.ofNat p)), (2, .int (Int32.ofNat m)), (3, .int (1 : Int32))] [.int (Int32.ofNat p), .ref 70] g u (fun big n0 => sg_rk_30 big n0 g u (Int32.ofNat p) (Int32.ofNat m)) ?_
  refine q_call (M2 := 169) (rest := []) (b_risOne1 g u (w_pl h hs) (by omega) hp) (fun _ _ => rfl) ?_
  refine q_step 5 14 [(0, .ref 70), (1, .int (Int32.ofNat p)), (2, .int (Int32.ofNat m)), (3, .int (1 : Int32))] [.long (60 : Int64), .long (0 : Int64), .long (Int32.toInt64 (Int32.ofNat m))] g u (fun big n0 => sg_rk_31 big n0 g u (Int32.ofNat p) (Int32.ofNat m)) ?_
  refine q_call (M2 := 149) (rest := []) (b_in1 (m := m) (lo := 0) (hi := 60) g u (by omega) (by omega) (by omega)) (fun _ _ => rfl) ?_
  refine q_step 5 24 [(0, .ref 70), (1, .int (Int32.ofNat p)), (2, .int (Int32.ofNat m)), (3, .int (1 : Int32))] [.long (1 : Int64), .long (0 : Int64), .long (1 : Int64)] g u (fun big n0 => sg_rk_32 big n0 g u (Int32.ofNat p) (Int32.ofNat m)) ?_
  refine q_call (M2 := 149) (rest := []) (show q_BS 149 [.long (1 : Int64), .long (0 : Int64), .long (1 : Int64)] g u (some (.int 1), g, u) from b_in _ _ _ _ _) (fun _ _ => rfl) ?_
  refine q_step 2 33 [(0, .ref 70), (1, .int (Int32.ofNat p)), (2, .int (Int32.ofNat m)), (3, .int (1 : Int32))] [.ref 70] g u (fun big n0 => sg_rk_33 big n0 g u (Int32.ofNat p) (Int32.ofNat m)) ?_
  refine q_call (M2 := 172) (rest := []) (b_starts g u) (fun _ _ => rfl) ?_
  refine q_step 2 39 [(0, .ref 70), (1, .int (Int32.ofNat p)), (2, .int (Int32.ofNat m)), (3, .int (1 : Int32)), (4, .int (0 : Int32))] [] (s_start g) u (fun big n0 => sg_rk_34 big n0 (s_start g) u (Int32.ofNat p) (Int32.ofNat m)) ?_
  refine rah_1 u (by omega) hm m 0 (s_start g) (by omega) (w_w0 h hs).1 (w_w0 h hs).2.2 ?_
  refine q_step 5 74 [(0, .ref 70), (1, .int (Int32.ofNat p)), (2, .int (Int32.ofNat m)), (3, .int (1 : Int32)), (4, .int (Int32.ofNat m))] [.int (Int32.ofNat p), .ref 76] (s_rit n m (s_start g)) u (fun big n0 => sg_rk_35 big n0 (s_rit n m (s_start g)) u (Int32.ofNat p) (Int32.ofNat m) (Int32.ofNat m)) ?_
  refine q_iald (j := p) (q_ixn (by omega) (by omega)) rfl rfl ?_
  refine q_ret 1 (some (.int ((s_rit n m (s_start g)) 76 p)), (s_rit n m (s_start g)), u) (fun _ _ => rfl) ?_
  refine ⟨_, u, by rw [((w_sm_rit m _ _ h hs).2.2 p hp).2.1], w_fr.trans s_start_fr (w_rit_fr m _)⟩
theorem r_force0 {n W H : Nat} {g r : qM} (u : qW) (h : w_ok n W H r) (hs : w_sm n (s_start g) r) (h5 : n ≤ 5) {p : Nat} (hp : p < n) : w_BS w_fr 183 [.ref 70, .int (Int32.ofNat p), .int (0 : Int32)] g u (.int (100 + f_fo n r 0 p)) := by
  refine w_bs (mm := m_183) rfl (Nat.le_of_ble_eq_true rfl) rfl ?_
  refine q_step 2 2 [(0, .ref 70), (1, .int (Int32.ofNat p)), (2, .int (0 : Int32))] [.int (Int32.ofNat p), .ref 70] g u (fun big n0 => sg_rk_36 big n0 g u (Int32.ofNat p)) ?_
  refine q_call (M2 := 169) (rest := []) (b_risOne1 g u (w_pl h hs) (by omega) hp) (fun _ _ => rfl) ?_
  refine q_step 5 12 [(0, .ref 70), (1, .int (Int32.ofNat p)), (2, .int (0 : Int32))] [.long (1 : Int64), .long (0 : Int64), .long (0 : Int64)] g u (fun big n0 => sg_rk_37 big n0 g u (Int32.ofNat p)) ?_
  refine q_call (M2 := 149) (rest := []) (show q_BS 149 [.long (0 : Int64), .long (0 : Int64), .long (1 : Int64)] g u (some (.int 1), g, u) from b_in _ _ _ _ _) (fun _ _ => rfl) ?_
  refine q_step 2 21 [(0, .ref 70), (1, .int (Int32.ofNat p)), (2, .int (0 : Int32))] [.ref 70] g u (fun big n0 => sg_rk_38 big n0 g u (Int32.ofNat p)) ?_
  refine q_call (M2 := 172) (rest := []) (b_starts g u) (fun _ _ => rfl) ?_
  refine q_step 7 38 [(0, .ref 70), (1, .int (Int32.ofNat p)), (2, .int (0 : Int32))] [.int (0 : Int32), .int (Int32.ofNat p), .ref 70, .int (100 : Int32)] (s_start g) u (fun big n0 => sg_rk_39 big n0 (s_start g) u (Int32.ofNat p)) ?_
  refine q_call (M2 := 184) (rest := [.int (100 : Int32)]) (b_rf0 (s_start g) u (w_w0 h hs).1 (by omega) hp (w_w0 h hs).2.2) (fun _ _ => rfl) ?_
  refine q_ret 2 (some (.int ((100 : Int32) + (s_rf ((s_start g) 70 2) ((s_start g) 75) ((s_start g) 76) ((s_start g) 71) n 0 p))), (s_start g), u) (fun _ _ => rfl) ?_
  exact ⟨_, u, by rw [w_fo_r h hs hp 0 (by decide)], s_start_fr⟩
theorem r_force1 {n W H : Nat} {g r : qM} (u : qW) (h : w_ok n W H r) (hs : w_sm n (s_start g) r) (h5 : n ≤ 5) {p : Nat} (hp : p < n) : w_BS w_fr 183 [.ref 70, .int (Int32.ofNat p), .int (1 : Int32)] g u (.int (100 + f_fo n r 1 p)) := by
  refine w_bs (mm := m_183) rfl (Nat.le_of_ble_eq_true rfl) rfl ?_
  refine q_step 2 2 [(0, .ref 70), (1, .int (Int32.ofNat p)), (2, .int (1 : Int32))] [.int (Int32.ofNat p), .ref 70] g u (fun big n0 => sg_rk_40 big n0 g u (Int32.ofNat p)) ?_
  refine q_call (M2 := 169) (rest := []) (b_risOne1 g u (w_pl h hs) (by omega) hp) (fun _ _ => rfl) ?_
  refine q_step 5 12 [(0, .ref 70), (1, .int (Int32.ofNat p)), (2, .int (1 : Int32))] [.long (1 : Int64), .long (0 : Int64), .long (1 : Int64)] g u (fun big n0 => sg_rk_41 big n0 g u (Int32.ofNat p)) ?_
  refine q_call (M2 := 149) (rest := []) (show q_BS 149 [.long (1 : Int64), .long (0 : Int64), .long (1 : Int64)] g u (some (.int 1), g, u) from b_in _ _ _ _ _) (fun _ _ => rfl) ?_
  refine q_step 2 21 [(0, .ref 70), (1, .int (Int32.ofNat p)), (2, .int (1 : Int32))] [.ref 70] g u (fun big n0 => sg_rk_42 big n0 g u (Int32.ofNat p)) ?_
  refine q_call (M2 := 172) (rest := []) (b_starts g u) (fun _ _ => rfl) ?_
  refine q_step 8 38 [(0, .ref 70), (1, .int (Int32.ofNat p)), (2, .int (1 : Int32))] [.int (1 : Int32), .int (Int32.ofNat p), .ref 70, .int (100 : Int32)] (s_start g) u (fun big n0 => sg_rk_43 big n0 (s_start g) u (Int32.ofNat p)) ?_
  refine q_call (M2 := 184) (rest := [.int (100 : Int32)]) (b_rf1 (s_start g) u (w_w0 h hs).1 (by omega) hp (w_w0 h hs).2.2) (fun _ _ => rfl) ?_
  refine q_ret 2 (some (.int ((100 : Int32) + (s_rf ((s_start g) 70 2) ((s_start g) 75) ((s_start g) 76) ((s_start g) 71) n 1 p))), (s_start g), u) (fun _ _ => rfl) ?_
  exact ⟨_, u, by rw [w_fo_r h hs hp 1 (by decide)], s_start_fr⟩
theorem r_wish {n W H : Nat} {g r : qM} (u : qW) (h : w_ok n W H r) (hs : w_sm n (s_start g) r) (h5 : n ≤ 5) {p : Nat} (hp : p < n) : w_BS w_fr 188 [.ref 70, .int (Int32.ofNat p)] g u (.int (f_wi n r p)) := by
  refine w_bs (mm := m_188) rfl (Nat.le_of_ble_eq_true rfl) rfl ?_
  refine q_step 2 2 [(0, .ref 70), (1, .int (Int32.ofNat p))] [.int (Int32.ofNat p), .ref 70] g u (fun big n0 => sg_rk_44 big n0 g u (Int32.ofNat p)) ?_
  refine q_call (M2 := 169) (rest := []) (b_risOne1 g u (w_pl h hs) (by omega) hp) (fun _ _ => rfl) ?_
  refine q_step 2 11 [(0, .ref 70), (1, .int (Int32.ofNat p))] [.ref 70] g u (fun big n0 => sg_rk_45 big n0 g u (Int32.ofNat p)) ?_
  refine q_call (M2 := 172) (rest := []) (b_starts g u) (fun _ _ => rfl) ?_
  refine q_step 2 16 [(0, .ref 70), (1, .int (Int32.ofNat p))] [.int (Int32.ofNat p), .ref 70] (s_start g) u (fun big n0 => sg_rk_46 big n0 (s_start g) u (Int32.ofNat p)) ?_
  refine q_call (M2 := 189) (rest := []) (b_rw (s_start g) u (w_w0 h hs).1 (by omega) hp (w_w0 h hs).2.2) (fun _ _ => rfl) ?_
  refine q_ret 1 (some (.int (s_rw ((s_start g) 70 2) ((s_start g) 75) ((s_start g) 76) ((s_start g) 77) ((s_start g) 71) n p)), (s_start g), u) (fun _ _ => rfl) ?_
  exact ⟨_, u, by rw [w_wi_r h hs hp], s_start_fr⟩
theorem rs_l (g : qM) (u : qW) {n : Nat} (hn : g 70 27 = Int32.ofNat n) (h6 : n ≤ 6) (hw : g 70 2 ≠ 0) : ∀ k i a, i + k = n → q_EV m_195 8 [(0, .ref 70), (1, .int a), (2, .int (Int32.ofNat i))] [] g u (fun R => R = (some (.int (s_ct (p_str (s_rf (g 70 2) (g 75) (g 76) (g 71) n 0) (s_rf (g 70 2) (g 75) (g 76) (g 71) n 1)) k i a)), g, u)) := by
  intro k
  induction k with
  | zero =>
    intro i a hi
    refine q_step 3 13 [(0, .ref 70), (1, .int a), (2, .int (Int32.ofNat i))] [.int (g 70 27), .int (Int32.ofNat i)] g u (fun big n0 => sg_rk_47 big n0 g u a (Int32.ofNat i)) ?_
    refine q_ic_ge rfl (fun (hc0 : (g 70 27) ≤ (Int32.ofNat i)) => ?_) (fun hc0 => absurd (show (g 70 27) ≤ (Int32.ofNat i) from by rw [hn]; exact (q_le (by omega) (by omega)).mpr (by omega)) hc0)
    refine q_ret 2 (some (.int a), g, u) (fun _ _ => rfl) ?_
    rfl
  | succ k ih =>
    intro i a hi
    refine q_step 3 13 [(0, .ref 70), (1, .int a), (2, .int (Int32.ofNat i))] [.int (g 70 27), .int (Int32.ofNat i)] g u (fun big n0 => sg_rk_47 big n0 g u a (Int32.ofNat i)) ?_
    refine q_ic_ge rfl (fun hc0 => absurd (show (g 70 27) ≤ (Int32.ofNat i) from hc0) (fun z => by rw [hn] at z; exact absurd ((q_le (by omega) (by omega)).mp z) (by omega))) (fun (hc0 : ¬ ((g 70 27) ≤ (Int32.ofNat i))) => ?_)
    refine q_step 4 20 [(0, .ref 70), (1, .int a), (2, .int (Int32.ofNat i))] [.int (0 : Int32), .int (Int32.ofNat i), .ref 70, .int a] g u (fun big n0 => sg_rk_48 big n0 g u a (Int32.ofNat i)) ?_
    refine q_call (M2 := 184) (rest := [.int a]) (b_rf0 g u hn h6 (by omega) hw) (fun _ _ => rfl) ?_
    refine q_call (M2 := 186) (rest := [.int a]) (b_rabs _ _ _) (fun _ _ => rfl) ?_
    refine q_step 3 29 [(0, .ref 70), (1, .int a), (2, .int (Int32.ofNat i))] [.int (1 : Int32), .int (Int32.ofNat i), .ref 70, .int (s_abs (s_rf (g 70 2) (g 75) (g 76) (g 71) n 0 i)), .int a] g u (fun big n0 => sg_rk_49 big n0 g u a (Int32.ofNat i) a (s_abs (s_rf (g 70 2) (g 75) (g 76) (g 71) n 0 i))) ?_
    refine q_call (M2 := 184) (rest := [.int (s_abs (s_rf (g 70 2) (g 75) (g 76) (g 71) n 0 i)), .int a]) (b_rf1 g u hn h6 (by omega) hw) (fun _ _ => rfl) ?_
    refine q_call (M2 := 186) (rest := [.int (s_abs (s_rf (g 70 2) (g 75) (g 76) (g 71) n 0 i)), .int a]) (b_rabs _ _ _) (fun _ _ => rfl) ?_
    refine q_step 5 8 [(0, .ref 70), (1, .int (a + ((s_abs (s_rf (g 70 2) (g 75) (g 76) (g 71) n 0 i)) + (s_abs (s_rf (g 70 2) (g 75) (g 76) (g 71) n 1 i))))), (2, .int ((Int32.ofNat i) + (1 : Int32)))] [] g u (fun big n0 => sg_rk_50 big n0 g u a (Int32.ofNat i) a (s_abs (s_rf (g 70 2) (g 75) (g 76) (g 71) n 0 i)) (s_abs (s_rf (g 70 2) (g 75) (g 76) (g 71) n 1 i))) ?_
    rw [s_ct_s (P := p_str (s_rf (g 70 2) (g 75) (g 76) (g 71) n 0) (s_rf (g 70 2) (g 75) (g 76) (g 71) n 1)) (i := i) (v := s_abs ((s_rf (g 70 2) (g 75) (g 76) (g 71) n 0) i) + s_abs ((s_rf (g 70 2) (g 75) (g 76) (g 71) n 1) i)) rfl, q_succ]
    exact ih (i + 1) _ (by omega)
theorem r_strain {n W H : Nat} {g r : qM} (u : qW) (h : w_ok n W H r) (hs : w_sm n (s_start g) r) (h5 : n ≤ 5) : w_BS w_fr 195 [.ref 70] g u (.int (f_str n r)) := by
  refine w_bs (mm := m_195) rfl (Nat.le_of_ble_eq_true rfl) rfl ?_
  refine q_step 1 1 [(0, .ref 70)] [.ref 70] g u (fun big n0 => sg_rk_51 big n0 g u) ?_
  refine q_call (M2 := 172) (rest := []) (b_starts g u) (fun _ _ => rfl) ?_
  refine q_step 4 8 [(0, .ref 70), (1, .int (0 : Int32)), (2, .int (0 : Int32))] [] (s_start g) u (fun big n0 => sg_rk_52 big n0 (s_start g) u) ?_
  refine q_EV.imp (rs_l (s_start g) u (w_w0 h hs).1 (by omega) (w_w0 h hs).2.2 n 0 0 (by omega)) (fun R e => ⟨s_start g, u, ?_, s_start_fr⟩)
  rw [e]
  refine congrArg (fun v => (some (Value.int v), s_start g, u)) (s_ct_cg n 0 0 (fun p _ hp => ?_))
  have hp : p < n := by omega
  unfold p_str
  rw [w_fo_r h hs hp 0 (by decide), w_fo_r h hs hp 1 (by decide)]
theorem hg_l (g : qM) (u : qW) {n : Nat} (hn : g 70 4 = Int32.ofNat n) (h6 : n ≤ 6) : ∀ k i a, i + k = n → q_EV m_205 4 [(0, .ref 70), (1, .int a), (2, .int (Int32.ofNat i))] [] g u (fun R => R = (some (.int (s_ct (p_hvs g) k i a)), g, u)) := by
  intro k
  induction k with
  | zero =>
    intro i a hi
    refine q_step 3 9 [(0, .ref 70), (1, .int a), (2, .int (Int32.ofNat i))] [.int (g 70 4), .int (Int32.ofNat i)] g u (fun big n0 => sg_rk_53 big n0 g u a (Int32.ofNat i)) ?_
    refine q_ic_ge rfl (fun (hc0 : (g 70 4) ≤ (Int32.ofNat i)) => ?_) (fun hc0 => absurd (show (g 70 4) ≤ (Int32.ofNat i) from by rw [hn]; exact (q_le (by omega) (by omega)).mpr (by omega)) hc0)
    refine q_ret 2 (some (.int a), g, u) (fun _ _ => rfl) ?_
    rfl
  | succ k ih =>
    intro i a hi
    refine q_step 3 9 [(0, .ref 70), (1, .int a), (2, .int (Int32.ofNat i))] [.int (g 70 4), .int (Int32.ofNat i)] g u (fun big n0 => sg_rk_53 big n0 g u a (Int32.ofNat i)) ?_
    refine q_ic_ge rfl (fun hc0 => absurd (show (g 70 4) ≤ (Int32.ofNat i) from hc0) (fun z => by rw [hn] at z; exact absurd ((q_le (by omega) (by omega)).mp z) (by omega))) (fun (hc0 : ¬ ((g 70 4) ≤ (Int32.ofNat i))) => ?_)
    refine q_step 6 21 [(0, .ref 70), (1, .int a), (2, .int (Int32.ofNat i))] [.int ((15 : Int32) + (Int32.ofNat i)), .ref 71, .int a] g u (fun big n0 => sg_rk_54 big n0 g u a (Int32.ofNat i)) ?_
    refine q_iald (j := (15 + i)) (s_rixn (K := 15) (i := i) (by omega)) rfl rfl ?_
    refine q_step 1 24 [(0, .ref 70), (1, .int a), (2, .int (Int32.ofNat i))] [.int (Int8.toInt32 (Int8.ofInt (-4))), .int (g 71 (15 + i)), .int a] g u (fun big n0 => sg_rk_55 big n0 g u a (Int32.ofNat i) a (g 71 (15 + i))) ?_
    refine q_ic_eq rfl (fun (hc1 : (g 71 (15 + i)) = (Int8.toInt32 (Int8.ofInt (-4)))) => ?_) (fun (hc1 : ¬ ((g 71 (15 + i)) = (Int8.toInt32 (Int8.ofInt (-4))))) => ?_)
    · refine q_step 1 32 [(0, .ref 70), (1, .int a), (2, .int (Int32.ofNat i))] [.int (0 : Int32), .int a] g u (fun big n0 => sg_rk_56 big n0 g u a (Int32.ofNat i) a) ?_
      refine q_call (M2 := 164) (rest := [.int a]) (b_flag0 _ _) (fun _ _ => rfl) ?_
      refine q_step 4 4 [(0, .ref 70), (1, .int (a + (0 : Int32))), (2, .int ((Int32.ofNat i) + (1 : Int32)))] [] g u (fun big n0 => sg_rk_57 big n0 g u a (Int32.ofNat i) a) ?_
      rw [s_ct_s (P := p_hvs g) (i := i) (by unfold p_hvs; exact if_pos hc1), q_succ]
      exact ih (i + 1) _ (by omega)
    · refine q_step 2 32 [(0, .ref 70), (1, .int a), (2, .int (Int32.ofNat i))] [.int (1 : Int32), .int a] g u (fun big n0 => sg_rk_58 big n0 g u a (Int32.ofNat i) a) ?_
      refine q_call (M2 := 164) (rest := [.int a]) (b_flag1 _ _) (fun _ _ => rfl) ?_
      refine q_step 4 4 [(0, .ref 70), (1, .int (a + (1 : Int32))), (2, .int ((Int32.ofNat i) + (1 : Int32)))] [] g u (fun big n0 => sg_rk_59 big n0 g u a (Int32.ofNat i) a) ?_
      rw [s_ct_s (P := p_hvs g) (i := i) (by unfold p_hvs; exact if_neg hc1), q_succ]
      exact ih (i + 1) _ (by omega)
theorem b_hvs (g : qM) (u : qW) {n : Nat} (hn : g 70 4 = Int32.ofNat n) (h6 : n ≤ 6) : q_BS 205 [.ref 70] g u (some (.int (s_ct (p_hvs g) n 0 0)), g, u) := by
  refine q_bx (mm := m_205) rfl (Nat.le_of_ble_eq_true rfl) rfl ?_
  refine q_step 4 4 [(0, .ref 70), (1, .int (0 : Int32)), (2, .int (0 : Int32))] [] g u (fun big n0 => sg_rk_60 big n0 g u) ?_
  exact hg_l g u hn h6 n 0 0 (by omega)
theorem raa (u : qW) {n m : Nat} (h6 : n ≤ 6) (hm : m ≤ 60)  {Q : Option Value × qM × qW → Prop} : ∀ k i g, i + k = m → g 70 27 = Int32.ofNat n → g 70 2 ≠ 0 → q_EV m_204 18 [(0, .ref 70), (1, .int (Int32.ofNat m)), (2, .int (Int32.ofNat m))] [] (s_rit n k g) u Q → q_EV m_204 2 [(0, .ref 70), (1, .int (Int32.ofNat m)), (2, .int (Int32.ofNat i))] [] g u Q := by
  intro k
  induction k with
  | zero =>
    intro i g hi hn hw hk
    have e : i = m := by omega
    subst e
    refine q_step 2 4 [(0, .ref 70), (1, .int (Int32.ofNat i)), (2, .int (Int32.ofNat i))] [.int (Int32.ofNat i), .int (Int32.ofNat i)] g u (fun big n0 => sg_rk_61 big n0 g u (Int32.ofNat i) (Int32.ofNat i)) ?_
    refine q_ic_ge rfl (fun (hc0 : (Int32.ofNat i) ≤ (Int32.ofNat i)) => ?_) (fun hc0 => absurd (show (Int32.ofNat i) ≤ (Int32.ofNat i) from (q_le (by omega) (by omega)).mpr (by omega)) hc0)
    exact hk
  | succ k ih =>
    intro i g hi hn hw hk
    refine q_step 2 4 [(0, .ref 70), (1, .int (Int32.ofNat m)), (2, .int (Int32.ofNat i))] [.int (Int32.ofNat m), .int (Int32.ofNat i)] g u (fun big n0 => sg_rk_61 big n0 g u (Int32.ofNat m) (Int32.ofNat i)) ?_
    refine q_ic_ge rfl (fun hc0 => absurd (show (Int32.ofNat m) ≤ (Int32.ofNat i) from hc0) (fun z => absurd ((q_le (by omega) (by omega)).mp z) (by omega))) (fun (hc0 : ¬ ((Int32.ofNat m) ≤ (Int32.ofNat i))) => ?_)
    refine q_step 1 8 [(0, .ref 70), (1, .int (Int32.ofNat m)), (2, .int (Int32.ofNat i))] [.ref 70] g u (fun big n0 => sg_rk_62 big n0 g u (Int32.ofNat m) (Int32.ofNat i)) ?_
    refine q_call (M2 := 191) (rest := []) (b_rsteps g u hn h6 hw) (fun _ _ => rfl) ?_
    refine q_step 3 2 [(0, .ref 70), (1, .int (Int32.ofNat m)), (2, .int ((Int32.ofNat i) + (1 : Int32)))] [] (s_rst n g) u (fun big n0 => sg_rk_63 big n0 (s_rst n g) u (Int32.ofNat m) (Int32.ofNat i) (s_ran n g)) ?_
    rw [q_succ]
    exact ih (i + 1) (s_rst n g) (by omega) (by rw [s_rst_g (by omega)]; exact hn) (by rw [s_rst_g (by omega)]; exact hw) hk
theorem r_aat {n W H : Nat} {g r : qM} (u : qW) (h : w_ok n W H r) (hs : w_sm n g r) {m : Nat} (hm : m ≤ 60) (hg : ∀ p, p < n → g 78 p = r 78 p) (hp4 : g 70 4 = Int32.ofNat n) (hst : ∀ p, p < n → g 71 (15 + p) = r 78 p) : q_BS 204 [.ref 70, .int (Int32.ofNat m)] g u (some (.int (if f_at n (s_rit n m r) = f_hav n r then 1 else 0)), s_rit n m g, u) := by
  refine q_bx (mm := m_204) rfl (Nat.le_of_ble_eq_true rfl) rfl ?_
  refine q_step 2 2 [(0, .ref 70), (1, .int (Int32.ofNat m)), (2, .int (0 : Int32))] [] g u (fun big n0 => sg_rk_64 big n0 g u (Int32.ofNat m)) ?_
  refine raa u h.1.2.2.2.2 hm m 0 g (by omega) (w_w0 h hs).1 (w_w0 h hs).2.2 ?_
  refine q_step 1 19 [(0, .ref 70), (1, .int (Int32.ofNat m)), (2, .int (Int32.ofNat m))] [.ref 70] (s_rit n m g) u (fun big n0 => sg_rk_65 big n0 (s_rit n m g) u (Int32.ofNat m) (Int32.ofNat m)) ?_
  have hag := b_ratg (s_rit n m g) u (by rw [s_rit_g (by omega)]; exact (w_w0 h hs).1) h.1.2.2.2.2
  rw [show s_ct (fun p => if (s_rit n m g) 78 p = i_none then (0 : Int32) else if (s_rit n m g) 75 p = (s_rit n m g) 78 p then 1 else 0) n 0 0 = f_at n (s_rit n m r) from w_at_r (w_sm_rit m g r h hs) (fun p hp => by rw [s_rit_g (by omega), s_rit_g (by omega)]; exact hg p hp)] at hag
  refine q_call (M2 := 197) (rest := []) (hag) (fun _ _ => rfl) ?_
  refine q_step 1 23 [(0, .ref 70), (1, .int (Int32.ofNat m)), (2, .int (Int32.ofNat m))] [.ref 70, .int (f_at n (s_rit n m r))] (s_rit n m g) u (fun big n0 => sg_rk_66 big n0 (s_rit n m g) u (Int32.ofNat m) (Int32.ofNat m) (f_at n (s_rit n m r))) ?_
  have hav := b_hvs (s_rit n m g) u (by rw [s_rit_g (by omega)]; exact hp4) h.1.2.2.2.2
  rw [w_hvs (g := (s_rit n m g)) (r := r) (fun p hp => by rw [s_rit_g (by omega)]; exact hst p hp)] at hav
  refine q_call (M2 := 205) (rest := [.int (f_at n (s_rit n m r))]) (hav) (fun _ _ => rfl) ?_
  refine q_ic_ne rfl (fun (hc0 : (f_at n (s_rit n m r)) = (f_hav n r)) => ?_) (fun (hc0 : ¬ ((f_at n (s_rit n m r)) = (f_hav n r))) => ?_)
  · refine q_ret 3 (some (.int (1 : Int32)), (s_rit n m g), u) (fun _ _ => rfl) ?_
    rw [if_pos hc0]
  · refine q_ret 2 (some (.int (0 : Int32)), (s_rit n m g), u) (fun _ _ => rfl) ?_
    rw [if_neg hc0]
theorem rgo (u : qW) {n m : Nat} (h6 : n ≤ 6) (hm : m ≤ 60)  {Q : Option Value × qM × qW → Prop} : ∀ k i g, i + k = m → g 70 27 = Int32.ofNat n → g 70 2 ≠ 0 → q_EV m_196 54 [(0, .ref 70), (1, .int (Int32.ofNat m)), (2, .int (Int32.ofNat m))] [] (s_rit n k g) u Q → q_EV m_196 38 [(0, .ref 70), (1, .int (Int32.ofNat m)), (2, .int (Int32.ofNat i))] [] g u Q := by
  intro k
  induction k with
  | zero =>
    intro i g hi hn hw hk
    have e : i = m := by omega
    subst e
    refine q_step 2 40 [(0, .ref 70), (1, .int (Int32.ofNat i)), (2, .int (Int32.ofNat i))] [.int (Int32.ofNat i), .int (Int32.ofNat i)] g u (fun big n0 => sg_rk_67 big n0 g u (Int32.ofNat i) (Int32.ofNat i)) ?_
    refine q_ic_ge rfl (fun (hc0 : (Int32.ofNat i) ≤ (Int32.ofNat i)) => ?_) (fun hc0 => absurd (show (Int32.ofNat i) ≤ (Int32.ofNat i) from (q_le (by omega) (by omega)).mpr (by omega)) hc0)
    exact hk
  | succ k ih =>
    intro i g hi hn hw hk
    refine q_step 2 40 [(0, .ref 70), (1, .int (Int32.ofNat m)), (2, .int (Int32.ofNat i))] [.int (Int32.ofNat m), .int (Int32.ofNat i)] g u (fun big n0 => sg_rk_67 big n0 g u (Int32.ofNat m) (Int32.ofNat i)) ?_
    refine q_ic_ge rfl (fun hc0 => absurd (show (Int32.ofNat m) ≤ (Int32.ofNat i) from hc0) (fun z => absurd ((q_le (by omega) (by omega)).mp z) (by omega))) (fun (hc0 : ¬ ((Int32.ofNat m) ≤ (Int32.ofNat i))) => ?_)
    refine q_step 1 44 [(0, .ref 70), (1, .int (Int32.ofNat m)), (2, .int (Int32.ofNat i))] [.ref 70] g u (fun big n0 => sg_rk_68 big n0 g u (Int32.ofNat m) (Int32.ofNat i)) ?_
    refine q_call (M2 := 191) (rest := []) (b_rsteps g u hn h6 hw) (fun _ _ => rfl) ?_
    refine q_step 3 38 [(0, .ref 70), (1, .int (Int32.ofNat m)), (2, .int ((Int32.ofNat i) + (1 : Int32)))] [] (s_rst n g) u (fun big n0 => sg_rk_69 big n0 (s_rst n g) u (Int32.ofNat m) (Int32.ofNat i) (s_ran n g)) ?_
    rw [q_succ]
    exact ih (i + 1) (s_rst n g) (by omega) (by rw [s_rst_g (by omega)]; exact hn) (by rw [s_rst_g (by omega)]; exact hw) hk
theorem s_rgo_eq (n m : Nat) (g : qM) : (q_up (q_up (q_up (q_up (q_up (q_up (q_up (q_up (q_up (q_up (q_up (s_rit n m (s_start g)) 71 0 ((s_rit n m (s_start g)) 75 0)) 71 5 ((s_rit n m (s_start g)) 76 0)) 71 1 ((s_rit n m (s_start g)) 75 1)) 71 6 ((s_rit n m (s_start g)) 76 1)) 71 2 ((s_rit n m (s_start g)) 75 2)) 71 7 ((s_rit n m (s_start g)) 76 2)) 71 3 ((s_rit n m (s_start g)) 75 3)) 71 8 ((s_rit n m (s_start g)) 76 3)) 71 4 ((s_rit n m (s_start g)) 75 4)) 71 9 ((s_rit n m (s_start g)) 76 4)) 71 26 (((s_rit n m (s_start g)) 71 26) + (Int32.ofNat m))) = s_rgo n m g := by
  funext a j
  have e71 : s_rit n m (s_start g) 71 = g 71 := s_rit_g (by omega) m (s_start g)
  by_cases ha : a = 71
  · subst ha
    simp only [q_up_eq, s_rgo, if_true, true_and]
    rcases (show j = 0 ∨ j = 1 ∨ j = 2 ∨ j = 3 ∨ j = 4 ∨ j = 5 ∨ j = 6 ∨ j = 7 ∨ j = 8 ∨ j = 9 ∨ j = 26 ∨ (10 ≤ j ∧ j ≠ 26) by omega) with e | e | e | e | e | e | e | e | e | e | e | e
    all_goals first
      | (subst e; simp [e71]; done)
      | (simp [e71, show ¬ j < 5 by omega, show ¬ j < 10 by omega, show ¬ j = 26 by omega, show ¬ j = 0 by omega, show ¬ j = 1 by omega, show ¬ j = 2 by omega, show ¬ j = 3 by omega, show ¬ j = 4 by omega, show ¬ j = 5 by omega, show ¬ j = 6 by omega, show ¬ j = 7 by omega, show ¬ j = 8 by omega, show ¬ j = 9 by omega]; done)
  · simp only [q_up_eq, s_rgo, if_neg ha]
    simp [ha]
theorem r_go {n W H : Nat} {g r : qM} (u : qW) (h : w_ok n W H r) (hs : w_sm n (s_start g) r) (h5 : n ≤ 5) {m : Nat} (hm : m ≤ 60) (hg : ∀ p, p < n → g 71 (15 + p) = r 78 p) (hq : ¬ 999 < g 71 26 + Int32.ofNat m) : q_BS 196 [.ref 70, .int (Int32.ofNat m)] g u (some (.int (f_at n (s_rit n m r))), s_rgo n m g, u) := by
  refine q_bx (mm := m_196) rfl (Nat.le_of_ble_eq_true rfl) rfl ?_
  refine q_step 4 6 [(0, .ref 70), (1, .int (Int32.ofNat m))] [.long (60 : Int64), .long (0 : Int64), .long (Int32.toInt64 (Int32.ofNat m))] g u (fun big n0 => sg_rk_70 big n0 g u (Int32.ofNat m)) ?_
  refine q_call (M2 := 149) (rest := []) (b_in1 (m := m) (lo := 0) (hi := 60) g u (by omega) (by omega) (by omega)) (fun _ _ => rfl) ?_
  refine q_step 8 26 [(0, .ref 70), (1, .int (Int32.ofNat m))] [.int (999 : Int32), .int ((g 71 26) + (Int32.ofNat m))] g u (fun big n0 => sg_rk_71 big n0 g u (Int32.ofNat m)) ?_
  refine q_ic_le rfl (fun (hc0 : ((g 71 26) + (Int32.ofNat m)) ≤ (999 : Int32)) => ?_) (fun hc0 => absurd (show ((g 71 26) + (Int32.ofNat m)) ≤ (999 : Int32) from Int32.not_lt.mp hq) hc0)
  refine q_step 1 33 [(0, .ref 70), (1, .int (Int32.ofNat m))] [.ref 70] g u (fun big n0 => sg_rk_72 big n0 g u (Int32.ofNat m)) ?_
  refine q_call (M2 := 172) (rest := []) (b_starts g u) (fun _ _ => rfl) ?_
  refine q_step 2 38 [(0, .ref 70), (1, .int (Int32.ofNat m)), (2, .int (0 : Int32))] [] (s_start g) u (fun big n0 => sg_rk_73 big n0 (s_start g) u (Int32.ofNat m)) ?_
  refine rgo u (by omega) hm m 0 (s_start g) (by omega) (w_w0 h hs).1 (w_w0 h hs).2.2 ?_
  refine q_step 40 75 [(0, .ref 70), (1, .int (Int32.ofNat m)), (2, .int (1 : Int32))] [] (q_up (q_up (q_up (s_rit n m (s_start g)) 71 0 ((s_rit n m (s_start g)) 75 0)) 71 5 ((s_rit n m (s_start g)) 76 0)) 71 1 ((s_rit n m (s_start g)) 75 1)) u (fun big n0 => sg_rk_74 big n0 (s_rit n m (s_start g)) u (Int32.ofNat m) (Int32.ofNat m)) ?_
  refine q_step 40 61 [(0, .ref 70), (1, .int (Int32.ofNat m)), (2, .int (3 : Int32))] [] (q_up (q_up (q_up (q_up (q_up (q_up (s_rit n m (s_start g)) 71 0 ((s_rit n m (s_start g)) 75 0)) 71 5 ((s_rit n m (s_start g)) 76 0)) 71 1 ((s_rit n m (s_start g)) 75 1)) 71 6 ((s_rit n m (s_start g)) 76 1)) 71 2 ((s_rit n m (s_start g)) 75 2)) 71 7 ((s_rit n m (s_start g)) 76 2)) u (fun big n0 => sg_rk_75 big n0 (q_up (q_up (q_up (s_rit n m (s_start g)) 71 0 ((s_rit n m (s_start g)) 75 0)) 71 5 ((s_rit n m (s_start g)) 76 0)) 71 1 ((s_rit n m (s_start g)) 75 1)) u (Int32.ofNat m)) ?_
  refine q_step 40 82 [(0, .ref 70), (1, .int (Int32.ofNat m)), (2, .int (4 : Int32))] [.int (9 : Int32), .ref 71] (q_up (q_up (q_up (q_up (q_up (q_up (q_up (q_up (q_up (s_rit n m (s_start g)) 71 0 ((s_rit n m (s_start g)) 75 0)) 71 5 ((s_rit n m (s_start g)) 76 0)) 71 1 ((s_rit n m (s_start g)) 75 1)) 71 6 ((s_rit n m (s_start g)) 76 1)) 71 2 ((s_rit n m (s_start g)) 75 2)) 71 7 ((s_rit n m (s_start g)) 76 2)) 71 3 ((s_rit n m (s_start g)) 75 3)) 71 8 ((s_rit n m (s_start g)) 76 3)) 71 4 ((s_rit n m (s_start g)) 75 4)) u (fun big n0 => sg_rk_76 big n0 (q_up (q_up (q_up (q_up (q_up (q_up (s_rit n m (s_start g)) 71 0 ((s_rit n m (s_start g)) 75 0)) 71 5 ((s_rit n m (s_start g)) 76 0)) 71 1 ((s_rit n m (s_start g)) 75 1)) 71 6 ((s_rit n m (s_start g)) 76 1)) 71 2 ((s_rit n m (s_start g)) 75 2)) 71 7 ((s_rit n m (s_start g)) 76 2)) u (Int32.ofNat m)) ?_
  refine q_step 19 107 [(0, .ref 70), (1, .int (Int32.ofNat m)), (2, .int (5 : Int32))] [.ref 70] (q_up (q_up (q_up (q_up (q_up (q_up (q_up (q_up (q_up (q_up (q_up (s_rit n m (s_start g)) 71 0 ((s_rit n m (s_start g)) 75 0)) 71 5 ((s_rit n m (s_start g)) 76 0)) 71 1 ((s_rit n m (s_start g)) 75 1)) 71 6 ((s_rit n m (s_start g)) 76 1)) 71 2 ((s_rit n m (s_start g)) 75 2)) 71 7 ((s_rit n m (s_start g)) 76 2)) 71 3 ((s_rit n m (s_start g)) 75 3)) 71 8 ((s_rit n m (s_start g)) 76 3)) 71 4 ((s_rit n m (s_start g)) 75 4)) 71 9 ((s_rit n m (s_start g)) 76 4)) 71 26 (((s_rit n m (s_start g)) 71 26) + (Int32.ofNat m))) u (fun big n0 => sg_rk_77 big n0 (q_up (q_up (q_up (q_up (q_up (q_up (q_up (q_up (q_up (s_rit n m (s_start g)) 71 0 ((s_rit n m (s_start g)) 75 0)) 71 5 ((s_rit n m (s_start g)) 76 0)) 71 1 ((s_rit n m (s_start g)) 75 1)) 71 6 ((s_rit n m (s_start g)) 76 1)) 71 2 ((s_rit n m (s_start g)) 75 2)) 71 7 ((s_rit n m (s_start g)) 76 2)) 71 3 ((s_rit n m (s_start g)) 75 3)) 71 8 ((s_rit n m (s_start g)) 76 3)) 71 4 ((s_rit n m (s_start g)) 75 4)) u (Int32.ofNat m)) ?_
  rw [show (q_up (q_up (q_up (q_up (q_up (q_up (q_up (q_up (q_up (q_up (q_up (s_rit n m (s_start g)) 71 0 ((s_rit n m (s_start g)) 75 0)) 71 5 ((s_rit n m (s_start g)) 76 0)) 71 1 ((s_rit n m (s_start g)) 75 1)) 71 6 ((s_rit n m (s_start g)) 76 1)) 71 2 ((s_rit n m (s_start g)) 75 2)) 71 7 ((s_rit n m (s_start g)) 76 2)) 71 3 ((s_rit n m (s_start g)) 75 3)) 71 8 ((s_rit n m (s_start g)) 76 3)) 71 4 ((s_rit n m (s_start g)) 75 4)) 71 9 ((s_rit n m (s_start g)) 76 4)) 71 26 (((s_rit n m (s_start g)) 71 26) + (Int32.ofNat m))) = s_rgo n m g from s_rgo_eq n m g]
  have hag := b_ratg (s_rgo n m g) u (by show (s_rit n m (s_start g)) 70 27 = _; rw [s_rit_g (by omega)]; exact (w_w0 h hs).1) (by omega)
  rw [show s_ct (fun p => if (s_rgo n m g) 78 p = i_none then (0 : Int32) else if (s_rgo n m g) 75 p = (s_rgo n m g) 78 p then 1 else 0) n 0 0 = f_at n (s_rit n m r) from w_at_r (g := (s_rit n m (s_start g))) (w_sm_rit m _ r h hs) (fun p hp => by rw [s_rit_g (by omega), s_rit_g (by omega), w_st78 h5 hp]; exact hg p hp)] at hag
  refine q_call (M2 := 197) (rest := []) (hag) (fun _ _ => rfl) ?_
  refine q_ret 1 (some (.int (f_at n (s_rit n m r))), (s_rgo n m g), u) (fun _ _ => rfl) ?_
  rfl
