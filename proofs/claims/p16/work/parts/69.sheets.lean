/-! SHEETS, IMAGES, COUNTS. -/
/-- st copied, i places of it, from o on to t on -/
def s_cps (t o i : Nat) (g : qM) : qM := fun a j => if a = 71 then (if t ≤ j ∧ j < t + i then g 71 (j - t + o) else g 71 j) else g a j
theorem s_cps_0 {t o : Nat} {g : qM} : s_cps t o 0 g = g := by
  funext a j
  unfold s_cps
  by_cases h : a = 71
  · rw [if_pos h, if_neg (by omega), h]
  · rw [if_neg h]
theorem s_cps_r {t o i : Nat} {g : qM} (h : o + i < t ∨ t + i ≤ o + i) (h2 : ¬ (t ≤ o + i ∧ o + i < t + i)) : s_cps t o i g 71 (o + i) = g 71 (o + i) := by
  unfold s_cps
  rw [if_pos rfl, if_neg h2]
theorem s_cps_s {t o i : Nat} {g : qM} : q_up (s_cps t o i g) 71 (t + i) (g 71 (o + i)) = s_cps t o (i + 1) g := by
  funext a j
  unfold s_cps
  simp only [q_up_eq]
  by_cases h : a = 71
  · subst h
    by_cases e : j = t + i
    · subst e
      rw [if_pos ⟨rfl, rfl⟩, if_pos rfl, if_pos (by omega), show t + i - t + o = o + i by omega]
    · rw [if_neg (fun z => e z.2), if_pos rfl, if_pos rfl]
      by_cases l : t ≤ j ∧ j < t + i
      · rw [if_pos l, if_pos (by omega)]
      · rw [if_neg l, if_neg (by omega)]
  · rw [if_neg (fun z => h z.1), if_neg h, if_neg h]
/-- places of 86 made 0 -/
def s_zr (K i : Nat) (g : qM) : qM := fun a j => if a = 86 then (if K ≤ j ∧ j < K + i then 0 else g 86 j) else g a j
theorem s_zr_0 {K : Nat} {g : qM} : s_zr K 0 g = g := by
  funext a j
  unfold s_zr
  by_cases h : a = 86
  · rw [if_pos h, if_neg (by omega), h]
  · rw [if_neg h]
theorem s_zr_s {K i : Nat} {g : qM} : q_up (s_zr K i g) 86 (K + i) 0 = s_zr K (i + 1) g := by
  funext a j
  unfold s_zr
  simp only [q_up_eq]
  by_cases h : a = 86
  · subst h
    by_cases e : j = K + i
    · subst e
      rw [if_pos ⟨rfl, rfl⟩, if_pos rfl, if_pos (by omega)]
    · rw [if_neg (fun z => e z.2), if_pos rfl, if_pos rfl]
      by_cases l : K ≤ j ∧ j < K + i
      · rw [if_pos l, if_pos (by omega)]
      · rw [if_neg l, if_neg (by omega)]
  · rw [if_neg (fun z => h z.1), if_neg h, if_neg h]
theorem s_rixk {K i : Nat} (h : K + i < 160) : q_ix (Int32.ofNat K + Int32.ofNat i) (K + i) 160 := by
  rw [← Int32.ofNat_add]
  exact q_ixn h (by omega)
/-- what a lane keeps of a number -/
def s_ln (lane v : Int32) : Int32 := if lane = 0 then Int8.toInt32 (Int32.toInt8 v) else if lane = 1 then Int16.toInt32 (Int32.toInt16 v) else v
def p_nom (g : qM) (p : Nat) : Int32 := if g 71 (5 + p) = 0 then 1 else 0
theorem sg_sx_1 (big : Nat → List Value → qM → qW → qR) (n0 : Nat) (G : qM) (U : qW) (v0 : Int32) : qm_run pm_m big m_217 (n0 + 2) 2 [(0, .ref 70), (1, .int (44 : Int32)), (2, .int (0 : Int32)), (3, .int v0)] [] G U = qm_run pm_m big m_217 n0 5 [(0, .ref 70), (1, .int (44 : Int32)), (2, .int (0 : Int32)), (3, .int v0)] [.int (44 : Int32), .int v0] G U := rfl
theorem sg_sx_2 (big : Nat → List Value → qM → qW → qR) (n0 : Nat) (G : qM) (U : qW) (v0 : Int32) : qm_run pm_m big m_217 (n0 + 10) 8 [(0, .ref 70), (1, .int (44 : Int32)), (2, .int (0 : Int32)), (3, .int v0)] [] G U = qm_run pm_m big m_217 n0 22 [(0, .ref 70), (1, .int (44 : Int32)), (2, .int (0 : Int32)), (3, .int v0)] [.int ((0 : Int32) + v0), .ref 71, .int ((44 : Int32) + v0), .ref 71] G U := rfl
theorem sg_sx_3 (big : Nat → List Value → qM → qW → qR) (n0 : Nat) (G : qM) (U : qW) (v0 : Int32) : qm_run pm_m big m_217 (n0 + 2) 24 [(0, .ref 70), (1, .int (44 : Int32)), (2, .int (0 : Int32)), (3, .int v0)] [] G U = qm_run pm_m big m_217 n0 2 [(0, .ref 70), (1, .int (44 : Int32)), (2, .int (0 : Int32)), (3, .int (v0 + (1 : Int32)))] [] G U := rfl
theorem sg_sx_4 (big : Nat → List Value → qM → qW → qR) (n0 : Nat) (G : qM) (U : qW) : qm_run pm_m big m_217 (n0 + 2) 0 [(0, .ref 70), (1, .int (44 : Int32)), (2, .int (0 : Int32))] [] G U = qm_run pm_m big m_217 n0 2 [(0, .ref 70), (1, .int (44 : Int32)), (2, .int (0 : Int32)), (3, .int (0 : Int32))] [] G U := rfl
theorem sg_sx_5 (big : Nat → List Value → qM → qW → qR) (n0 : Nat) (G : qM) (U : qW) (v0 : Int32) : qm_run pm_m big m_217 (n0 + 2) 2 [(0, .ref 70), (1, .int (88 : Int32)), (2, .int (0 : Int32)), (3, .int v0)] [] G U = qm_run pm_m big m_217 n0 5 [(0, .ref 70), (1, .int (88 : Int32)), (2, .int (0 : Int32)), (3, .int v0)] [.int (44 : Int32), .int v0] G U := rfl
theorem sg_sx_6 (big : Nat → List Value → qM → qW → qR) (n0 : Nat) (G : qM) (U : qW) (v0 : Int32) : qm_run pm_m big m_217 (n0 + 10) 8 [(0, .ref 70), (1, .int (88 : Int32)), (2, .int (0 : Int32)), (3, .int v0)] [] G U = qm_run pm_m big m_217 n0 22 [(0, .ref 70), (1, .int (88 : Int32)), (2, .int (0 : Int32)), (3, .int v0)] [.int ((0 : Int32) + v0), .ref 71, .int ((88 : Int32) + v0), .ref 71] G U := rfl
theorem sg_sx_7 (big : Nat → List Value → qM → qW → qR) (n0 : Nat) (G : qM) (U : qW) (v0 : Int32) : qm_run pm_m big m_217 (n0 + 2) 24 [(0, .ref 70), (1, .int (88 : Int32)), (2, .int (0 : Int32)), (3, .int v0)] [] G U = qm_run pm_m big m_217 n0 2 [(0, .ref 70), (1, .int (88 : Int32)), (2, .int (0 : Int32)), (3, .int (v0 + (1 : Int32)))] [] G U := rfl
theorem sg_sx_8 (big : Nat → List Value → qM → qW → qR) (n0 : Nat) (G : qM) (U : qW) : qm_run pm_m big m_217 (n0 + 2) 0 [(0, .ref 70), (1, .int (88 : Int32)), (2, .int (0 : Int32))] [] G U = qm_run pm_m big m_217 n0 2 [(0, .ref 70), (1, .int (88 : Int32)), (2, .int (0 : Int32)), (3, .int (0 : Int32))] [] G U := rfl
theorem sg_sx_9 (big : Nat → List Value → qM → qW → qR) (n0 : Nat) (G : qM) (U : qW) (v0 : Int32) : qm_run pm_m big m_217 (n0 + 2) 2 [(0, .ref 70), (1, .int (0 : Int32)), (2, .int (44 : Int32)), (3, .int v0)] [] G U = qm_run pm_m big m_217 n0 5 [(0, .ref 70), (1, .int (0 : Int32)), (2, .int (44 : Int32)), (3, .int v0)] [.int (44 : Int32), .int v0] G U := rfl
theorem sg_sx_10 (big : Nat → List Value → qM → qW → qR) (n0 : Nat) (G : qM) (U : qW) (v0 : Int32) : qm_run pm_m big m_217 (n0 + 10) 8 [(0, .ref 70), (1, .int (0 : Int32)), (2, .int (44 : Int32)), (3, .int v0)] [] G U = qm_run pm_m big m_217 n0 22 [(0, .ref 70), (1, .int (0 : Int32)), (2, .int (44 : Int32)), (3, .int v0)] [.int ((44 : Int32) + v0), .ref 71, .int ((0 : Int32) + v0), .ref 71] G U := rfl
theorem sg_sx_11 (big : Nat → List Value → qM → qW → qR) (n0 : Nat) (G : qM) (U : qW) (v0 : Int32) : qm_run pm_m big m_217 (n0 + 2) 24 [(0, .ref 70), (1, .int (0 : Int32)), (2, .int (44 : Int32)), (3, .int v0)] [] G U = qm_run pm_m big m_217 n0 2 [(0, .ref 70), (1, .int (0 : Int32)), (2, .int (44 : Int32)), (3, .int (v0 + (1 : Int32)))] [] G U := rfl
theorem sg_sx_12 (big : Nat → List Value → qM → qW → qR) (n0 : Nat) (G : qM) (U : qW) : qm_run pm_m big m_217 (n0 + 2) 0 [(0, .ref 70), (1, .int (0 : Int32)), (2, .int (44 : Int32))] [] G U = qm_run pm_m big m_217 n0 2 [(0, .ref 70), (1, .int (0 : Int32)), (2, .int (44 : Int32)), (3, .int (0 : Int32))] [] G U := rfl
theorem sg_sx_13 (big : Nat → List Value → qM → qW → qR) (n0 : Nat) (G : qM) (U : qW) (v0 : Int32) : qm_run pm_m big m_217 (n0 + 2) 2 [(0, .ref 70), (1, .int (0 : Int32)), (2, .int (88 : Int32)), (3, .int v0)] [] G U = qm_run pm_m big m_217 n0 5 [(0, .ref 70), (1, .int (0 : Int32)), (2, .int (88 : Int32)), (3, .int v0)] [.int (44 : Int32), .int v0] G U := rfl
theorem sg_sx_14 (big : Nat → List Value → qM → qW → qR) (n0 : Nat) (G : qM) (U : qW) (v0 : Int32) : qm_run pm_m big m_217 (n0 + 10) 8 [(0, .ref 70), (1, .int (0 : Int32)), (2, .int (88 : Int32)), (3, .int v0)] [] G U = qm_run pm_m big m_217 n0 22 [(0, .ref 70), (1, .int (0 : Int32)), (2, .int (88 : Int32)), (3, .int v0)] [.int ((88 : Int32) + v0), .ref 71, .int ((0 : Int32) + v0), .ref 71] G U := rfl
theorem sg_sx_15 (big : Nat → List Value → qM → qW → qR) (n0 : Nat) (G : qM) (U : qW) (v0 : Int32) : qm_run pm_m big m_217 (n0 + 2) 24 [(0, .ref 70), (1, .int (0 : Int32)), (2, .int (88 : Int32)), (3, .int v0)] [] G U = qm_run pm_m big m_217 n0 2 [(0, .ref 70), (1, .int (0 : Int32)), (2, .int (88 : Int32)), (3, .int (v0 + (1 : Int32)))] [] G U := rfl
theorem sg_sx_16 (big : Nat → List Value → qM → qW → qR) (n0 : Nat) (G : qM) (U : qW) : qm_run pm_m big m_217 (n0 + 2) 0 [(0, .ref 70), (1, .int (0 : Int32)), (2, .int (88 : Int32))] [] G U = qm_run pm_m big m_217 n0 2 [(0, .ref 70), (1, .int (0 : Int32)), (2, .int (88 : Int32)), (3, .int (0 : Int32))] [] G U := rfl
theorem sg_sx_17 (big : Nat → List Value → qM → qW → qR) (n0 : Nat) (G : qM) (U : qW) : qm_run pm_m big m_216 (n0 + 4) 0 [(0, .ref 70), (1, .int (0 : Int32))] [] G U = qm_run pm_m big m_216 n0 4 [(0, .ref 70), (1, .int (0 : Int32))] [.long (1 : Int64), .long (0 : Int64), .long (0 : Int64)] G U := rfl
theorem sg_sx_18 (big : Nat → List Value → qM → qW → qR) (n0 : Nat) (G : qM) (U : qW) : qm_run pm_m big m_216 (n0 + 5) 7 [(0, .ref 70), (1, .int (0 : Int32))] [.int (1 : Int32)] G U = qm_run pm_m big m_216 n0 18 [(0, .ref 70), (1, .int (0 : Int32))] [.int (G 72 0)] G U := rfl
theorem sg_sx_19 (big : Nat → List Value → qM → qW → qR) (n0 : Nat) (G : qM) (U : qW) (v0 : Int32) : qm_run pm_m big m_216 (n0 + 13) 21 [(0, .ref 70), (1, .int (0 : Int32))] [.int v0] G U = qm_run pm_m big m_216 n0 37 [(0, .ref 70), (1, .int (0 : Int32)), (2, .int v0)] [.int (0 : Int32), .int (44 : Int32), .ref 70] (q_up G 72 0 ((1 : Int32) &&& 1)) U := rfl
theorem sg_sx_20 (big : Nat → List Value → qM → qW → qR) (n0 : Nat) (G : qM) (U : qW) : qm_run pm_m big m_218 (n0 + 4) 0 [(0, .ref 70), (1, .int (0 : Int32))] [] G U = qm_run pm_m big m_218 n0 4 [(0, .ref 70), (1, .int (0 : Int32))] [.long (1 : Int64), .long (0 : Int64), .long (0 : Int64)] G U := rfl
theorem sg_sx_21 (big : Nat → List Value → qM → qW → qR) (n0 : Nat) (G : qM) (U : qW) : qm_run pm_m big m_218 (n0 + 5) 7 [(0, .ref 70), (1, .int (0 : Int32))] [.int (1 : Int32)] G U = qm_run pm_m big m_218 n0 18 [(0, .ref 70), (1, .int (0 : Int32))] [.int (G 72 0)] G U := rfl
theorem sg_sx_22 (big : Nat → List Value → qM → qW → qR) (n0 : Nat) (G : qM) (U : qW) : qm_run pm_m big m_218 (n0 + 7) 24 [(0, .ref 70), (1, .int (0 : Int32))] [] G U = qm_run pm_m big m_218 n0 32 [(0, .ref 70), (1, .int (0 : Int32))] [.int (44 : Int32), .int (0 : Int32), .ref 70] G U := rfl
theorem sg_sx_23 (big : Nat → List Value → qM → qW → qR) (n0 : Nat) (G : qM) (U : qW) : qm_run pm_m big m_216 (n0 + 4) 0 [(0, .ref 70), (1, .int (1 : Int32))] [] G U = qm_run pm_m big m_216 n0 4 [(0, .ref 70), (1, .int (1 : Int32))] [.long (1 : Int64), .long (0 : Int64), .long (1 : Int64)] G U := rfl
theorem sg_sx_24 (big : Nat → List Value → qM → qW → qR) (n0 : Nat) (G : qM) (U : qW) : qm_run pm_m big m_216 (n0 + 5) 7 [(0, .ref 70), (1, .int (1 : Int32))] [.int (1 : Int32)] G U = qm_run pm_m big m_216 n0 18 [(0, .ref 70), (1, .int (1 : Int32))] [.int (G 72 1)] G U := rfl
theorem sg_sx_25 (big : Nat → List Value → qM → qW → qR) (n0 : Nat) (G : qM) (U : qW) (v0 : Int32) : qm_run pm_m big m_216 (n0 + 13) 21 [(0, .ref 70), (1, .int (1 : Int32))] [.int v0] G U = qm_run pm_m big m_216 n0 37 [(0, .ref 70), (1, .int (1 : Int32)), (2, .int v0)] [.int (0 : Int32), .int (88 : Int32), .ref 70] (q_up G 72 1 ((1 : Int32) &&& 1)) U := rfl
theorem sg_sx_26 (big : Nat → List Value → qM → qW → qR) (n0 : Nat) (G : qM) (U : qW) : qm_run pm_m big m_218 (n0 + 4) 0 [(0, .ref 70), (1, .int (1 : Int32))] [] G U = qm_run pm_m big m_218 n0 4 [(0, .ref 70), (1, .int (1 : Int32))] [.long (1 : Int64), .long (0 : Int64), .long (1 : Int64)] G U := rfl
theorem sg_sx_27 (big : Nat → List Value → qM → qW → qR) (n0 : Nat) (G : qM) (U : qW) : qm_run pm_m big m_218 (n0 + 5) 7 [(0, .ref 70), (1, .int (1 : Int32))] [.int (1 : Int32)] G U = qm_run pm_m big m_218 n0 18 [(0, .ref 70), (1, .int (1 : Int32))] [.int (G 72 1)] G U := rfl
theorem sg_sx_28 (big : Nat → List Value → qM → qW → qR) (n0 : Nat) (G : qM) (U : qW) : qm_run pm_m big m_218 (n0 + 7) 24 [(0, .ref 70), (1, .int (1 : Int32))] [] G U = qm_run pm_m big m_218 n0 32 [(0, .ref 70), (1, .int (1 : Int32))] [.int (88 : Int32), .int (0 : Int32), .ref 70] G U := rfl
theorem sg_sx_29 (big : Nat → List Value → qM → qW → qR) (n0 : Nat) (G : qM) (U : qW) (v0 : Int32) : qm_run pm_m big m_220 (n0 + 4) 0 [(0, .int (0 : Int32)), (1, .int v0)] [] G U = qm_run pm_m big m_220 n0 6 [(0, .int (0 : Int32)), (1, .int v0)] [.long (3 : Int64), .long (0 : Int64), .long (0 : Int64)] G U := rfl
theorem sg_sx_30 (big : Nat → List Value → qM → qW → qR) (n0 : Nat) (G : qM) (U : qW) (v0 : Int32) : qm_run pm_m big m_220 (n0 + 5) 9 [(0, .int (0 : Int32)), (1, .int v0)] [.int (1 : Int32)] G U = qm_run pm_m big m_220 n0 18 [(0, .int (0 : Int32)), (1, .int v0)] [.long (2 : Int64), .long (0 : Int64), .long (Int32.toInt64 v0)] G U := rfl
theorem sg_sx_31 (big : Nat → List Value → qM → qW → qR) (n0 : Nat) (G : qM) (U : qW) (v0 : Int32) (v1 : Int32) (v2 : Int32) : qm_run pm_m big m_219 (n0 + 2) 40 [(0, .ref 70), (1, .int (0 : Int32)), (2, .int v0), (3, .int v1), (4, .int v2)] [] G U = qm_run pm_m big m_219 n0 44 [(0, .ref 70), (1, .int (0 : Int32)), (2, .int v0), (3, .int v1), (4, .int v2)] [.int (40 : Int32), .int v2] G U := rfl
theorem sg_sx_32 (big : Nat → List Value → qM → qW → qR) (n0 : Nat) (G : qM) (U : qW) (v0 : Int32) (v1 : Int32) (v2 : Int32) : qm_run pm_m big m_219 (n0 + 8) 47 [(0, .ref 70), (1, .int (0 : Int32)), (2, .int v0), (3, .int v1), (4, .int v2)] [] G U = qm_run pm_m big m_219 n0 59 [(0, .ref 70), (1, .int (0 : Int32)), (2, .int v0), (3, .int v1), (4, .int v2)] [.int (0 : Int32), .int ((0 : Int32) + v2), .ref 86] G U := rfl
theorem sg_sx_33 (big : Nat → List Value → qM → qW → qR) (n0 : Nat) (G : qM) (U : qW) (v0 : Int32) (v1 : Int32) (v2 : Int32) : qm_run pm_m big m_219 (n0 + 2) 60 [(0, .ref 70), (1, .int (0 : Int32)), (2, .int v0), (3, .int v1), (4, .int v2)] [] G U = qm_run pm_m big m_219 n0 40 [(0, .ref 70), (1, .int (0 : Int32)), (2, .int v0), (3, .int v1), (4, .int (v2 + (1 : Int32)))] [] G U := rfl
theorem sg_sx_34 (big : Nat → List Value → qM → qW → qR) (n0 : Nat) (G : qM) (U : qW) (v0 : Int32) (v1 : Int32) : qm_run pm_m big m_219 (n0 + 2) 0 [(0, .ref 70), (1, .int (0 : Int32)), (2, .int v0), (3, .int v1)] [] G U = qm_run pm_m big m_219 n0 2 [(0, .ref 70), (1, .int (0 : Int32)), (2, .int v0), (3, .int v1)] [.int v0, .int (0 : Int32)] G U := rfl
theorem sg_sx_35 (big : Nat → List Value → qM → qW → qR) (n0 : Nat) (G : qM) (U : qW) (v0 : Int32) (v1 : Int32) : qm_run pm_m big m_219 (n0 + 3) 5 [(0, .ref 70), (1, .int (0 : Int32)), (2, .int v0), (3, .int v1)] [.int (1 : Int32)] G U = qm_run pm_m big m_219 n0 11 [(0, .ref 70), (1, .int (0 : Int32)), (2, .int v0), (3, .int v1)] [.int (40 : Int32), .int v1] G U := rfl
theorem sg_sx_36 (big : Nat → List Value → qM → qW → qR) (n0 : Nat) (G : qM) (U : qW) (v0 : Int32) (v1 : Int32) : qm_run pm_m big m_219 (n0 + 1) 16 [(0, .ref 70), (1, .int (0 : Int32)), (2, .int v0), (3, .int v1)] [] G U = qm_run pm_m big m_219 n0 17 [(0, .ref 70), (1, .int (0 : Int32)), (2, .int v0), (3, .int v1)] [.int v1] G U := rfl
theorem sg_sx_37 (big : Nat → List Value → qM → qW → qR) (n0 : Nat) (G : qM) (U : qW) (v0 : Int32) (v1 : Int32) : qm_run pm_m big m_219 (n0 + 12) 23 [(0, .ref 70), (1, .int (0 : Int32)), (2, .int v0), (3, .int v1)] [] G U = qm_run pm_m big m_219 n0 40 [(0, .ref 70), (1, .int (0 : Int32)), (2, .int v0), (3, .int v1), (4, .int (0 : Int32))] [] (q_up (q_up G 84 0 v0) 85 0 v1) U := rfl
theorem sg_sx_38 (big : Nat → List Value → qM → qW → qR) (n0 : Nat) (G : qM) (U : qW) (v0 : Int32) (v1 : Int32) : qm_run pm_m big m_137 (n0 + 1) 0 [(0, .ref 62), (1, .int v0), (2, .int v1)] [] G U = qm_run pm_m big m_137 n0 1 [(0, .ref 62), (1, .int v0), (2, .int v1)] [.int v0] G U := rfl
theorem sg_sx_39 (big : Nat → List Value → qM → qW → qR) (n0 : Nat) (G : qM) (U : qW) (v0 : Int32) (v1 : Int32) : qm_run pm_m big m_137 (n0 + 3) 4 [(0, .ref 62), (1, .int v0), (2, .int v1)] [] G U = qm_run pm_m big m_137 n0 9 [(0, .ref 62), (1, .int v0), (2, .int v1)] [.int (G 62 1), .int v0] G U := rfl
theorem sg_sx_40 (big : Nat → List Value → qM → qW → qR) (n0 : Nat) (G : qM) (U : qW) (v0 : Int32) (v1 : Int32) : qm_run pm_m big m_137 (n0 + 5) 12 [(0, .ref 62), (1, .int v0), (2, .int v1)] [] G U = qm_run pm_m big m_137 n0 21 [(0, .ref 62), (1, .int v0), (2, .int v1)] [.int (G 62 2), .int v0, .ref 63] G U := rfl
theorem sg_sx_41 (big : Nat → List Value → qM → qW → qR) (n0 : Nat) (G : qM) (U : qW) (v0 : Int32) (v1 : Int32) (v2 : Int32) : qm_run pm_m big m_137 (n0 + 3) 24 [(0, .ref 62), (1, .int v0), (2, .int v1)] [.int v2, .ref 63] G U = qm_run pm_m big m_137 n0 43 [(0, .ref 62), (1, .int v0), (2, .int v1)] [.int (Int8.toInt32 (Int32.toInt8 v1)), .int v2, .ref 63] G U := rfl
theorem sg_sx_42 (big : Nat → List Value → qM → qW → qR) (n0 : Nat) (G : qM) (U : qW) (v0 : Int32) (v1 : Int32) (v2 : Int32) : qm_run pm_m big m_137 (n0 + 3) 29 [(0, .ref 62), (1, .int v0), (2, .int v1)] [.int v2, .ref 63] G U = qm_run pm_m big m_137 n0 34 [(0, .ref 62), (1, .int v0), (2, .int v1)] [.int (1 : Int32), .int (G 62 2), .int v2, .ref 63] G U := rfl
theorem sg_sx_43 (big : Nat → List Value → qM → qW → qR) (n0 : Nat) (G : qM) (U : qW) (v0 : Int32) (v1 : Int32) (v2 : Int32) : qm_run pm_m big m_137 (n0 + 3) 37 [(0, .ref 62), (1, .int v0), (2, .int v1)] [.int v2, .ref 63] G U = qm_run pm_m big m_137 n0 43 [(0, .ref 62), (1, .int v0), (2, .int v1)] [.int (Int16.toInt32 (Int32.toInt16 v1)), .int v2, .ref 63] G U := rfl
theorem sg_sx_44 (big : Nat → List Value → qM → qW → qR) (n0 : Nat) (G : qM) (U : qW) (v0 : Int32) (v1 : Int32) (v2 : Int32) : qm_run pm_m big m_137 (n0 + 1) 42 [(0, .ref 62), (1, .int v0), (2, .int v1)] [.int v2, .ref 63] G U = qm_run pm_m big m_137 n0 43 [(0, .ref 62), (1, .int v0), (2, .int v1)] [.int v1, .int v2, .ref 63] G U := rfl
theorem sg_sx_45 (big : Nat → List Value → qM → qW → qR) (n0 : Nat) (G : qM) (U : qW) (v0 : Int32) (v1 : Int32) : qm_run pm_m big m_134 (n0 + 1) 0 [(0, .ref 8), (1, .int (0 : Int32)), (2, .int v0), (3, .int v1)] [] G U = qm_run pm_m big m_134 n0 1 [(0, .ref 8), (1, .int (0 : Int32)), (2, .int v0), (3, .int v1)] [.int (0 : Int32)] G U := rfl
theorem sg_sx_46 (big : Nat → List Value → qM → qW → qR) (n0 : Nat) (G : qM) (U : qW) (v0 : Int32) (v1 : Int32) : qm_run pm_m big m_134 (n0 + 6) 4 [(0, .ref 8), (1, .int (0 : Int32)), (2, .int v0), (3, .int v1)] [.int (1 : Int32)] G U = qm_run pm_m big m_134 n0 16 [(0, .ref 8), (1, .int (0 : Int32)), (2, .int v0), (3, .int v1)] [.int v0, .ref 62] G U := rfl
theorem sg_sx_47 (big : Nat → List Value → qM → qW → qR) (n0 : Nat) (G : qM) (U : qW) (v0 : Int32) (v1 : Int32) : qm_run pm_m big m_134 (n0 + 9) 19 [(0, .ref 8), (1, .int (0 : Int32)), (2, .int v0), (3, .int v1)] [.int (0 : Int32)] G U = qm_run pm_m big m_134 n0 40 [(0, .ref 8), (1, .int (0 : Int32)), (2, .int v0), (3, .int v1), (4, .int (0 : Int32))] [.int v1, .int v0, .ref 62] G U := rfl
theorem sg_sx_48 (big : Nat → List Value → qM → qW → qR) (n0 : Nat) (G : qM) (U : qW) (v0 : Int32) (v1 : Int32) : qm_run pm_m big m_221 (n0 + 2) 0 [(0, .ref 70), (1, .int (0 : Int32)), (2, .int v0), (3, .int v1)] [] G U = qm_run pm_m big m_221 n0 2 [(0, .ref 70), (1, .int (0 : Int32)), (2, .int v0), (3, .int v1)] [.int (0 : Int32), .int (0 : Int32)] G U := rfl
theorem sg_sx_49 (big : Nat → List Value → qM → qW → qR) (n0 : Nat) (G : qM) (U : qW) (v0 : Int32) (v1 : Int32) : qm_run pm_m big m_221 (n0 + 6) 5 [(0, .ref 70), (1, .int (0 : Int32)), (2, .int v0), (3, .int v1)] [.int (1 : Int32)] G U = qm_run pm_m big m_221 n0 18 [(0, .ref 70), (1, .int (0 : Int32)), (2, .int v0), (3, .int v1)] [.int (Int8.toInt32 (Int8.ofInt (-4))), .int (G 84 0)] G U := rfl
theorem sg_sx_50 (big : Nat → List Value → qM → qW → qR) (n0 : Nat) (G : qM) (U : qW) (v0 : Int32) (v1 : Int32) : qm_run pm_m big m_221 (n0 + 10) 24 [(0, .ref 70), (1, .int (0 : Int32)), (2, .int v0), (3, .int v1)] [] G U = qm_run pm_m big m_221 n0 36 [(0, .ref 70), (1, .int (0 : Int32)), (2, .int v0), (3, .int v1)] [.long (Int32.toInt64 ((G 85 0) - (1 : Int32))), .long (0 : Int64), .long (Int32.toInt64 v0)] G U := rfl
theorem sg_sx_51 (big : Nat → List Value → qM → qW → qR) (n0 : Nat) (G : qM) (U : qW) (v0 : Int32) (v1 : Int32) : qm_run pm_m big m_221 (n0 + 12) 39 [(0, .ref 70), (1, .int (0 : Int32)), (2, .int v0), (3, .int v1)] [.int (1 : Int32)] G U = qm_run pm_m big m_221 n0 61 [(0, .ref 70), (1, .int (0 : Int32)), (2, .int v0), (3, .int v1)] [.int (G 84 0), .int ((0 : Int32) + v0), .ref 86] G U := rfl
theorem sg_sx_52 (big : Nat → List Value → qM → qW → qR) (n0 : Nat) (G : qM) (U : qW) (v0 : Int32) (v1 : Int32) (v2 : Int32) : qm_run pm_m big m_221 (n0 + 3) 64 [(0, .ref 70), (1, .int (0 : Int32)), (2, .int v0), (3, .int v1)] [.int v2, .ref 86] G U = qm_run pm_m big m_221 n0 85 [(0, .ref 70), (1, .int (0 : Int32)), (2, .int v0), (3, .int v1)] [.int (Int8.toInt32 (Int32.toInt8 v1)), .int v2, .ref 86] G U := rfl
theorem sg_sx_53 (big : Nat → List Value → qM → qW → qR) (n0 : Nat) (G : qM) (U : qW) (v0 : Int32) (v1 : Int32) (v2 : Int32) : qm_run pm_m big m_221 (n0 + 5) 69 [(0, .ref 70), (1, .int (0 : Int32)), (2, .int v0), (3, .int v1)] [.int v2, .ref 86] G U = qm_run pm_m big m_221 n0 76 [(0, .ref 70), (1, .int (0 : Int32)), (2, .int v0), (3, .int v1)] [.int (1 : Int32), .int (G 84 0), .int v2, .ref 86] G U := rfl
theorem sg_sx_54 (big : Nat → List Value → qM → qW → qR) (n0 : Nat) (G : qM) (U : qW) (v0 : Int32) (v1 : Int32) (v2 : Int32) : qm_run pm_m big m_221 (n0 + 3) 79 [(0, .ref 70), (1, .int (0 : Int32)), (2, .int v0), (3, .int v1)] [.int v2, .ref 86] G U = qm_run pm_m big m_221 n0 85 [(0, .ref 70), (1, .int (0 : Int32)), (2, .int v0), (3, .int v1)] [.int (Int16.toInt32 (Int32.toInt16 v1)), .int v2, .ref 86] G U := rfl
theorem sg_sx_55 (big : Nat → List Value → qM → qW → qR) (n0 : Nat) (G : qM) (U : qW) (v0 : Int32) (v1 : Int32) (v2 : Int32) : qm_run pm_m big m_221 (n0 + 1) 84 [(0, .ref 70), (1, .int (0 : Int32)), (2, .int v0), (3, .int v1)] [.int v2, .ref 86] G U = qm_run pm_m big m_221 n0 85 [(0, .ref 70), (1, .int (0 : Int32)), (2, .int v0), (3, .int v1)] [.int v1, .int v2, .ref 86] G U := rfl
theorem sg_sx_56 (big : Nat → List Value → qM → qW → qR) (n0 : Nat) (G : qM) (U : qW) (v0 : Int32) : qm_run pm_m big m_220 (n0 + 4) 0 [(0, .int (1 : Int32)), (1, .int v0)] [] G U = qm_run pm_m big m_220 n0 6 [(0, .int (1 : Int32)), (1, .int v0)] [.long (3 : Int64), .long (0 : Int64), .long (1 : Int64)] G U := rfl
theorem sg_sx_57 (big : Nat → List Value → qM → qW → qR) (n0 : Nat) (G : qM) (U : qW) (v0 : Int32) : qm_run pm_m big m_220 (n0 + 5) 9 [(0, .int (1 : Int32)), (1, .int v0)] [.int (1 : Int32)] G U = qm_run pm_m big m_220 n0 18 [(0, .int (1 : Int32)), (1, .int v0)] [.long (2 : Int64), .long (0 : Int64), .long (Int32.toInt64 v0)] G U := rfl
theorem sg_sx_58 (big : Nat → List Value → qM → qW → qR) (n0 : Nat) (G : qM) (U : qW) (v0 : Int32) (v1 : Int32) (v2 : Int32) : qm_run pm_m big m_219 (n0 + 2) 40 [(0, .ref 70), (1, .int (1 : Int32)), (2, .int v0), (3, .int v1), (4, .int v2)] [] G U = qm_run pm_m big m_219 n0 44 [(0, .ref 70), (1, .int (1 : Int32)), (2, .int v0), (3, .int v1), (4, .int v2)] [.int (40 : Int32), .int v2] G U := rfl
theorem sg_sx_59 (big : Nat → List Value → qM → qW → qR) (n0 : Nat) (G : qM) (U : qW) (v0 : Int32) (v1 : Int32) (v2 : Int32) : qm_run pm_m big m_219 (n0 + 8) 47 [(0, .ref 70), (1, .int (1 : Int32)), (2, .int v0), (3, .int v1), (4, .int v2)] [] G U = qm_run pm_m big m_219 n0 59 [(0, .ref 70), (1, .int (1 : Int32)), (2, .int v0), (3, .int v1), (4, .int v2)] [.int (0 : Int32), .int ((40 : Int32) + v2), .ref 86] G U := rfl
theorem sg_sx_60 (big : Nat → List Value → qM → qW → qR) (n0 : Nat) (G : qM) (U : qW) (v0 : Int32) (v1 : Int32) (v2 : Int32) : qm_run pm_m big m_219 (n0 + 2) 60 [(0, .ref 70), (1, .int (1 : Int32)), (2, .int v0), (3, .int v1), (4, .int v2)] [] G U = qm_run pm_m big m_219 n0 40 [(0, .ref 70), (1, .int (1 : Int32)), (2, .int v0), (3, .int v1), (4, .int (v2 + (1 : Int32)))] [] G U := rfl
theorem sg_sx_61 (big : Nat → List Value → qM → qW → qR) (n0 : Nat) (G : qM) (U : qW) (v0 : Int32) (v1 : Int32) : qm_run pm_m big m_219 (n0 + 2) 0 [(0, .ref 70), (1, .int (1 : Int32)), (2, .int v0), (3, .int v1)] [] G U = qm_run pm_m big m_219 n0 2 [(0, .ref 70), (1, .int (1 : Int32)), (2, .int v0), (3, .int v1)] [.int v0, .int (1 : Int32)] G U := rfl
theorem sg_sx_62 (big : Nat → List Value → qM → qW → qR) (n0 : Nat) (G : qM) (U : qW) (v0 : Int32) (v1 : Int32) : qm_run pm_m big m_219 (n0 + 3) 5 [(0, .ref 70), (1, .int (1 : Int32)), (2, .int v0), (3, .int v1)] [.int (1 : Int32)] G U = qm_run pm_m big m_219 n0 11 [(0, .ref 70), (1, .int (1 : Int32)), (2, .int v0), (3, .int v1)] [.int (40 : Int32), .int v1] G U := rfl
theorem sg_sx_63 (big : Nat → List Value → qM → qW → qR) (n0 : Nat) (G : qM) (U : qW) (v0 : Int32) (v1 : Int32) : qm_run pm_m big m_219 (n0 + 1) 16 [(0, .ref 70), (1, .int (1 : Int32)), (2, .int v0), (3, .int v1)] [] G U = qm_run pm_m big m_219 n0 17 [(0, .ref 70), (1, .int (1 : Int32)), (2, .int v0), (3, .int v1)] [.int v1] G U := rfl
theorem sg_sx_64 (big : Nat → List Value → qM → qW → qR) (n0 : Nat) (G : qM) (U : qW) (v0 : Int32) (v1 : Int32) : qm_run pm_m big m_219 (n0 + 12) 23 [(0, .ref 70), (1, .int (1 : Int32)), (2, .int v0), (3, .int v1)] [] G U = qm_run pm_m big m_219 n0 40 [(0, .ref 70), (1, .int (1 : Int32)), (2, .int v0), (3, .int v1), (4, .int (0 : Int32))] [] (q_up (q_up G 84 1 v0) 85 1 v1) U := rfl
theorem sg_sx_65 (big : Nat → List Value → qM → qW → qR) (n0 : Nat) (G : qM) (U : qW) (v0 : Int32) (v1 : Int32) : qm_run pm_m big m_137 (n0 + 1) 0 [(0, .ref 64), (1, .int v0), (2, .int v1)] [] G U = qm_run pm_m big m_137 n0 1 [(0, .ref 64), (1, .int v0), (2, .int v1)] [.int v0] G U := rfl
theorem sg_sx_66 (big : Nat → List Value → qM → qW → qR) (n0 : Nat) (G : qM) (U : qW) (v0 : Int32) (v1 : Int32) : qm_run pm_m big m_137 (n0 + 3) 4 [(0, .ref 64), (1, .int v0), (2, .int v1)] [] G U = qm_run pm_m big m_137 n0 9 [(0, .ref 64), (1, .int v0), (2, .int v1)] [.int (G 64 1), .int v0] G U := rfl
theorem sg_sx_67 (big : Nat → List Value → qM → qW → qR) (n0 : Nat) (G : qM) (U : qW) (v0 : Int32) (v1 : Int32) : qm_run pm_m big m_137 (n0 + 5) 12 [(0, .ref 64), (1, .int v0), (2, .int v1)] [] G U = qm_run pm_m big m_137 n0 21 [(0, .ref 64), (1, .int v0), (2, .int v1)] [.int (G 64 2), .int v0, .ref 65] G U := rfl
theorem sg_sx_68 (big : Nat → List Value → qM → qW → qR) (n0 : Nat) (G : qM) (U : qW) (v0 : Int32) (v1 : Int32) (v2 : Int32) : qm_run pm_m big m_137 (n0 + 3) 24 [(0, .ref 64), (1, .int v0), (2, .int v1)] [.int v2, .ref 65] G U = qm_run pm_m big m_137 n0 43 [(0, .ref 64), (1, .int v0), (2, .int v1)] [.int (Int8.toInt32 (Int32.toInt8 v1)), .int v2, .ref 65] G U := rfl
theorem sg_sx_69 (big : Nat → List Value → qM → qW → qR) (n0 : Nat) (G : qM) (U : qW) (v0 : Int32) (v1 : Int32) (v2 : Int32) : qm_run pm_m big m_137 (n0 + 3) 29 [(0, .ref 64), (1, .int v0), (2, .int v1)] [.int v2, .ref 65] G U = qm_run pm_m big m_137 n0 34 [(0, .ref 64), (1, .int v0), (2, .int v1)] [.int (1 : Int32), .int (G 64 2), .int v2, .ref 65] G U := rfl
theorem sg_sx_70 (big : Nat → List Value → qM → qW → qR) (n0 : Nat) (G : qM) (U : qW) (v0 : Int32) (v1 : Int32) (v2 : Int32) : qm_run pm_m big m_137 (n0 + 3) 37 [(0, .ref 64), (1, .int v0), (2, .int v1)] [.int v2, .ref 65] G U = qm_run pm_m big m_137 n0 43 [(0, .ref 64), (1, .int v0), (2, .int v1)] [.int (Int16.toInt32 (Int32.toInt16 v1)), .int v2, .ref 65] G U := rfl
theorem sg_sx_71 (big : Nat → List Value → qM → qW → qR) (n0 : Nat) (G : qM) (U : qW) (v0 : Int32) (v1 : Int32) (v2 : Int32) : qm_run pm_m big m_137 (n0 + 1) 42 [(0, .ref 64), (1, .int v0), (2, .int v1)] [.int v2, .ref 65] G U = qm_run pm_m big m_137 n0 43 [(0, .ref 64), (1, .int v0), (2, .int v1)] [.int v1, .int v2, .ref 65] G U := rfl
theorem sg_sx_72 (big : Nat → List Value → qM → qW → qR) (n0 : Nat) (G : qM) (U : qW) (v0 : Int32) (v1 : Int32) : qm_run pm_m big m_134 (n0 + 1) 0 [(0, .ref 8), (1, .int (1 : Int32)), (2, .int v0), (3, .int v1)] [] G U = qm_run pm_m big m_134 n0 1 [(0, .ref 8), (1, .int (1 : Int32)), (2, .int v0), (3, .int v1)] [.int (1 : Int32)] G U := rfl
theorem sg_sx_73 (big : Nat → List Value → qM → qW → qR) (n0 : Nat) (G : qM) (U : qW) (v0 : Int32) (v1 : Int32) : qm_run pm_m big m_134 (n0 + 6) 4 [(0, .ref 8), (1, .int (1 : Int32)), (2, .int v0), (3, .int v1)] [.int (1 : Int32)] G U = qm_run pm_m big m_134 n0 16 [(0, .ref 8), (1, .int (1 : Int32)), (2, .int v0), (3, .int v1)] [.int v0, .ref 64] G U := rfl
theorem sg_sx_74 (big : Nat → List Value → qM → qW → qR) (n0 : Nat) (G : qM) (U : qW) (v0 : Int32) (v1 : Int32) : qm_run pm_m big m_134 (n0 + 9) 19 [(0, .ref 8), (1, .int (1 : Int32)), (2, .int v0), (3, .int v1)] [.int (0 : Int32)] G U = qm_run pm_m big m_134 n0 40 [(0, .ref 8), (1, .int (1 : Int32)), (2, .int v0), (3, .int v1), (4, .int (0 : Int32))] [.int v1, .int v0, .ref 64] G U := rfl
theorem sg_sx_75 (big : Nat → List Value → qM → qW → qR) (n0 : Nat) (G : qM) (U : qW) (v0 : Int32) (v1 : Int32) : qm_run pm_m big m_221 (n0 + 2) 0 [(0, .ref 70), (1, .int (1 : Int32)), (2, .int v0), (3, .int v1)] [] G U = qm_run pm_m big m_221 n0 2 [(0, .ref 70), (1, .int (1 : Int32)), (2, .int v0), (3, .int v1)] [.int (0 : Int32), .int (1 : Int32)] G U := rfl
theorem sg_sx_76 (big : Nat → List Value → qM → qW → qR) (n0 : Nat) (G : qM) (U : qW) (v0 : Int32) (v1 : Int32) : qm_run pm_m big m_221 (n0 + 6) 5 [(0, .ref 70), (1, .int (1 : Int32)), (2, .int v0), (3, .int v1)] [.int (1 : Int32)] G U = qm_run pm_m big m_221 n0 18 [(0, .ref 70), (1, .int (1 : Int32)), (2, .int v0), (3, .int v1)] [.int (Int8.toInt32 (Int8.ofInt (-4))), .int (G 84 1)] G U := rfl
theorem sg_sx_77 (big : Nat → List Value → qM → qW → qR) (n0 : Nat) (G : qM) (U : qW) (v0 : Int32) (v1 : Int32) : qm_run pm_m big m_221 (n0 + 10) 24 [(0, .ref 70), (1, .int (1 : Int32)), (2, .int v0), (3, .int v1)] [] G U = qm_run pm_m big m_221 n0 36 [(0, .ref 70), (1, .int (1 : Int32)), (2, .int v0), (3, .int v1)] [.long (Int32.toInt64 ((G 85 1) - (1 : Int32))), .long (0 : Int64), .long (Int32.toInt64 v0)] G U := rfl
theorem sg_sx_78 (big : Nat → List Value → qM → qW → qR) (n0 : Nat) (G : qM) (U : qW) (v0 : Int32) (v1 : Int32) : qm_run pm_m big m_221 (n0 + 12) 39 [(0, .ref 70), (1, .int (1 : Int32)), (2, .int v0), (3, .int v1)] [.int (1 : Int32)] G U = qm_run pm_m big m_221 n0 61 [(0, .ref 70), (1, .int (1 : Int32)), (2, .int v0), (3, .int v1)] [.int (G 84 1), .int ((40 : Int32) + v0), .ref 86] G U := rfl
theorem sg_sx_79 (big : Nat → List Value → qM → qW → qR) (n0 : Nat) (G : qM) (U : qW) (v0 : Int32) (v1 : Int32) (v2 : Int32) : qm_run pm_m big m_221 (n0 + 3) 64 [(0, .ref 70), (1, .int (1 : Int32)), (2, .int v0), (3, .int v1)] [.int v2, .ref 86] G U = qm_run pm_m big m_221 n0 85 [(0, .ref 70), (1, .int (1 : Int32)), (2, .int v0), (3, .int v1)] [.int (Int8.toInt32 (Int32.toInt8 v1)), .int v2, .ref 86] G U := rfl
theorem sg_sx_80 (big : Nat → List Value → qM → qW → qR) (n0 : Nat) (G : qM) (U : qW) (v0 : Int32) (v1 : Int32) (v2 : Int32) : qm_run pm_m big m_221 (n0 + 5) 69 [(0, .ref 70), (1, .int (1 : Int32)), (2, .int v0), (3, .int v1)] [.int v2, .ref 86] G U = qm_run pm_m big m_221 n0 76 [(0, .ref 70), (1, .int (1 : Int32)), (2, .int v0), (3, .int v1)] [.int (1 : Int32), .int (G 84 1), .int v2, .ref 86] G U := rfl
theorem sg_sx_81 (big : Nat → List Value → qM → qW → qR) (n0 : Nat) (G : qM) (U : qW) (v0 : Int32) (v1 : Int32) (v2 : Int32) : qm_run pm_m big m_221 (n0 + 3) 79 [(0, .ref 70), (1, .int (1 : Int32)), (2, .int v0), (3, .int v1)] [.int v2, .ref 86] G U = qm_run pm_m big m_221 n0 85 [(0, .ref 70), (1, .int (1 : Int32)), (2, .int v0), (3, .int v1)] [.int (Int16.toInt32 (Int32.toInt16 v1)), .int v2, .ref 86] G U := rfl
theorem sg_sx_82 (big : Nat → List Value → qM → qW → qR) (n0 : Nat) (G : qM) (U : qW) (v0 : Int32) (v1 : Int32) (v2 : Int32) : qm_run pm_m big m_221 (n0 + 1) 84 [(0, .ref 70), (1, .int (1 : Int32)), (2, .int v0), (3, .int v1)] [.int v2, .ref 86] G U = qm_run pm_m big m_221 n0 85 [(0, .ref 70), (1, .int (1 : Int32)), (2, .int v0), (3, .int v1)] [.int v1, .int v2, .ref 86] G U := rfl
theorem sg_sx_83 (big : Nat → List Value → qM → qW → qR) (n0 : Nat) (G : qM) (U : qW) (v0 : Int32) : qm_run pm_m big m_220 (n0 + 4) 0 [(0, .int (2 : Int32)), (1, .int v0)] [] G U = qm_run pm_m big m_220 n0 6 [(0, .int (2 : Int32)), (1, .int v0)] [.long (3 : Int64), .long (0 : Int64), .long (2 : Int64)] G U := rfl
theorem sg_sx_84 (big : Nat → List Value → qM → qW → qR) (n0 : Nat) (G : qM) (U : qW) (v0 : Int32) : qm_run pm_m big m_220 (n0 + 5) 9 [(0, .int (2 : Int32)), (1, .int v0)] [.int (1 : Int32)] G U = qm_run pm_m big m_220 n0 18 [(0, .int (2 : Int32)), (1, .int v0)] [.long (2 : Int64), .long (0 : Int64), .long (Int32.toInt64 v0)] G U := rfl
theorem sg_sx_85 (big : Nat → List Value → qM → qW → qR) (n0 : Nat) (G : qM) (U : qW) (v0 : Int32) (v1 : Int32) (v2 : Int32) : qm_run pm_m big m_219 (n0 + 2) 40 [(0, .ref 70), (1, .int (2 : Int32)), (2, .int v0), (3, .int v1), (4, .int v2)] [] G U = qm_run pm_m big m_219 n0 44 [(0, .ref 70), (1, .int (2 : Int32)), (2, .int v0), (3, .int v1), (4, .int v2)] [.int (40 : Int32), .int v2] G U := rfl
theorem sg_sx_86 (big : Nat → List Value → qM → qW → qR) (n0 : Nat) (G : qM) (U : qW) (v0 : Int32) (v1 : Int32) (v2 : Int32) : qm_run pm_m big m_219 (n0 + 8) 47 [(0, .ref 70), (1, .int (2 : Int32)), (2, .int v0), (3, .int v1), (4, .int v2)] [] G U = qm_run pm_m big m_219 n0 59 [(0, .ref 70), (1, .int (2 : Int32)), (2, .int v0), (3, .int v1), (4, .int v2)] [.int (0 : Int32), .int ((80 : Int32) + v2), .ref 86] G U := rfl
theorem sg_sx_87 (big : Nat → List Value → qM → qW → qR) (n0 : Nat) (G : qM) (U : qW) (v0 : Int32) (v1 : Int32) (v2 : Int32) : qm_run pm_m big m_219 (n0 + 2) 60 [(0, .ref 70), (1, .int (2 : Int32)), (2, .int v0), (3, .int v1), (4, .int v2)] [] G U = qm_run pm_m big m_219 n0 40 [(0, .ref 70), (1, .int (2 : Int32)), (2, .int v0), (3, .int v1), (4, .int (v2 + (1 : Int32)))] [] G U := rfl
theorem sg_sx_88 (big : Nat → List Value → qM → qW → qR) (n0 : Nat) (G : qM) (U : qW) (v0 : Int32) (v1 : Int32) : qm_run pm_m big m_219 (n0 + 2) 0 [(0, .ref 70), (1, .int (2 : Int32)), (2, .int v0), (3, .int v1)] [] G U = qm_run pm_m big m_219 n0 2 [(0, .ref 70), (1, .int (2 : Int32)), (2, .int v0), (3, .int v1)] [.int v0, .int (2 : Int32)] G U := rfl
theorem sg_sx_89 (big : Nat → List Value → qM → qW → qR) (n0 : Nat) (G : qM) (U : qW) (v0 : Int32) (v1 : Int32) : qm_run pm_m big m_219 (n0 + 3) 5 [(0, .ref 70), (1, .int (2 : Int32)), (2, .int v0), (3, .int v1)] [.int (1 : Int32)] G U = qm_run pm_m big m_219 n0 11 [(0, .ref 70), (1, .int (2 : Int32)), (2, .int v0), (3, .int v1)] [.int (40 : Int32), .int v1] G U := rfl
theorem sg_sx_90 (big : Nat → List Value → qM → qW → qR) (n0 : Nat) (G : qM) (U : qW) (v0 : Int32) (v1 : Int32) : qm_run pm_m big m_219 (n0 + 1) 16 [(0, .ref 70), (1, .int (2 : Int32)), (2, .int v0), (3, .int v1)] [] G U = qm_run pm_m big m_219 n0 17 [(0, .ref 70), (1, .int (2 : Int32)), (2, .int v0), (3, .int v1)] [.int v1] G U := rfl
theorem sg_sx_91 (big : Nat → List Value → qM → qW → qR) (n0 : Nat) (G : qM) (U : qW) (v0 : Int32) (v1 : Int32) : qm_run pm_m big m_219 (n0 + 12) 23 [(0, .ref 70), (1, .int (2 : Int32)), (2, .int v0), (3, .int v1)] [] G U = qm_run pm_m big m_219 n0 40 [(0, .ref 70), (1, .int (2 : Int32)), (2, .int v0), (3, .int v1), (4, .int (0 : Int32))] [] (q_up (q_up G 84 2 v0) 85 2 v1) U := rfl
theorem sg_sx_92 (big : Nat → List Value → qM → qW → qR) (n0 : Nat) (G : qM) (U : qW) (v0 : Int32) (v1 : Int32) : qm_run pm_m big m_137 (n0 + 1) 0 [(0, .ref 66), (1, .int v0), (2, .int v1)] [] G U = qm_run pm_m big m_137 n0 1 [(0, .ref 66), (1, .int v0), (2, .int v1)] [.int v0] G U := rfl
theorem sg_sx_93 (big : Nat → List Value → qM → qW → qR) (n0 : Nat) (G : qM) (U : qW) (v0 : Int32) (v1 : Int32) : qm_run pm_m big m_137 (n0 + 3) 4 [(0, .ref 66), (1, .int v0), (2, .int v1)] [] G U = qm_run pm_m big m_137 n0 9 [(0, .ref 66), (1, .int v0), (2, .int v1)] [.int (G 66 1), .int v0] G U := rfl
theorem sg_sx_94 (big : Nat → List Value → qM → qW → qR) (n0 : Nat) (G : qM) (U : qW) (v0 : Int32) (v1 : Int32) : qm_run pm_m big m_137 (n0 + 5) 12 [(0, .ref 66), (1, .int v0), (2, .int v1)] [] G U = qm_run pm_m big m_137 n0 21 [(0, .ref 66), (1, .int v0), (2, .int v1)] [.int (G 66 2), .int v0, .ref 67] G U := rfl
theorem sg_sx_95 (big : Nat → List Value → qM → qW → qR) (n0 : Nat) (G : qM) (U : qW) (v0 : Int32) (v1 : Int32) (v2 : Int32) : qm_run pm_m big m_137 (n0 + 3) 24 [(0, .ref 66), (1, .int v0), (2, .int v1)] [.int v2, .ref 67] G U = qm_run pm_m big m_137 n0 43 [(0, .ref 66), (1, .int v0), (2, .int v1)] [.int (Int8.toInt32 (Int32.toInt8 v1)), .int v2, .ref 67] G U := rfl
theorem sg_sx_96 (big : Nat → List Value → qM → qW → qR) (n0 : Nat) (G : qM) (U : qW) (v0 : Int32) (v1 : Int32) (v2 : Int32) : qm_run pm_m big m_137 (n0 + 3) 29 [(0, .ref 66), (1, .int v0), (2, .int v1)] [.int v2, .ref 67] G U = qm_run pm_m big m_137 n0 34 [(0, .ref 66), (1, .int v0), (2, .int v1)] [.int (1 : Int32), .int (G 66 2), .int v2, .ref 67] G U := rfl
theorem sg_sx_97 (big : Nat → List Value → qM → qW → qR) (n0 : Nat) (G : qM) (U : qW) (v0 : Int32) (v1 : Int32) (v2 : Int32) : qm_run pm_m big m_137 (n0 + 3) 37 [(0, .ref 66), (1, .int v0), (2, .int v1)] [.int v2, .ref 67] G U = qm_run pm_m big m_137 n0 43 [(0, .ref 66), (1, .int v0), (2, .int v1)] [.int (Int16.toInt32 (Int32.toInt16 v1)), .int v2, .ref 67] G U := rfl
theorem sg_sx_98 (big : Nat → List Value → qM → qW → qR) (n0 : Nat) (G : qM) (U : qW) (v0 : Int32) (v1 : Int32) (v2 : Int32) : qm_run pm_m big m_137 (n0 + 1) 42 [(0, .ref 66), (1, .int v0), (2, .int v1)] [.int v2, .ref 67] G U = qm_run pm_m big m_137 n0 43 [(0, .ref 66), (1, .int v0), (2, .int v1)] [.int v1, .int v2, .ref 67] G U := rfl
theorem sg_sx_99 (big : Nat → List Value → qM → qW → qR) (n0 : Nat) (G : qM) (U : qW) (v0 : Int32) (v1 : Int32) : qm_run pm_m big m_134 (n0 + 1) 0 [(0, .ref 8), (1, .int (2 : Int32)), (2, .int v0), (3, .int v1)] [] G U = qm_run pm_m big m_134 n0 1 [(0, .ref 8), (1, .int (2 : Int32)), (2, .int v0), (3, .int v1)] [.int (2 : Int32)] G U := rfl
theorem sg_sx_100 (big : Nat → List Value → qM → qW → qR) (n0 : Nat) (G : qM) (U : qW) (v0 : Int32) (v1 : Int32) : qm_run pm_m big m_134 (n0 + 6) 4 [(0, .ref 8), (1, .int (2 : Int32)), (2, .int v0), (3, .int v1)] [.int (1 : Int32)] G U = qm_run pm_m big m_134 n0 16 [(0, .ref 8), (1, .int (2 : Int32)), (2, .int v0), (3, .int v1)] [.int v0, .ref 66] G U := rfl
theorem sg_sx_101 (big : Nat → List Value → qM → qW → qR) (n0 : Nat) (G : qM) (U : qW) (v0 : Int32) (v1 : Int32) : qm_run pm_m big m_134 (n0 + 9) 19 [(0, .ref 8), (1, .int (2 : Int32)), (2, .int v0), (3, .int v1)] [.int (0 : Int32)] G U = qm_run pm_m big m_134 n0 40 [(0, .ref 8), (1, .int (2 : Int32)), (2, .int v0), (3, .int v1), (4, .int (0 : Int32))] [.int v1, .int v0, .ref 66] G U := rfl
theorem sg_sx_102 (big : Nat → List Value → qM → qW → qR) (n0 : Nat) (G : qM) (U : qW) (v0 : Int32) (v1 : Int32) : qm_run pm_m big m_221 (n0 + 2) 0 [(0, .ref 70), (1, .int (2 : Int32)), (2, .int v0), (3, .int v1)] [] G U = qm_run pm_m big m_221 n0 2 [(0, .ref 70), (1, .int (2 : Int32)), (2, .int v0), (3, .int v1)] [.int (0 : Int32), .int (2 : Int32)] G U := rfl
theorem sg_sx_103 (big : Nat → List Value → qM → qW → qR) (n0 : Nat) (G : qM) (U : qW) (v0 : Int32) (v1 : Int32) : qm_run pm_m big m_221 (n0 + 6) 5 [(0, .ref 70), (1, .int (2 : Int32)), (2, .int v0), (3, .int v1)] [.int (1 : Int32)] G U = qm_run pm_m big m_221 n0 18 [(0, .ref 70), (1, .int (2 : Int32)), (2, .int v0), (3, .int v1)] [.int (Int8.toInt32 (Int8.ofInt (-4))), .int (G 84 2)] G U := rfl
theorem sg_sx_104 (big : Nat → List Value → qM → qW → qR) (n0 : Nat) (G : qM) (U : qW) (v0 : Int32) (v1 : Int32) : qm_run pm_m big m_221 (n0 + 10) 24 [(0, .ref 70), (1, .int (2 : Int32)), (2, .int v0), (3, .int v1)] [] G U = qm_run pm_m big m_221 n0 36 [(0, .ref 70), (1, .int (2 : Int32)), (2, .int v0), (3, .int v1)] [.long (Int32.toInt64 ((G 85 2) - (1 : Int32))), .long (0 : Int64), .long (Int32.toInt64 v0)] G U := rfl
theorem sg_sx_105 (big : Nat → List Value → qM → qW → qR) (n0 : Nat) (G : qM) (U : qW) (v0 : Int32) (v1 : Int32) : qm_run pm_m big m_221 (n0 + 12) 39 [(0, .ref 70), (1, .int (2 : Int32)), (2, .int v0), (3, .int v1)] [.int (1 : Int32)] G U = qm_run pm_m big m_221 n0 61 [(0, .ref 70), (1, .int (2 : Int32)), (2, .int v0), (3, .int v1)] [.int (G 84 2), .int ((80 : Int32) + v0), .ref 86] G U := rfl
theorem sg_sx_106 (big : Nat → List Value → qM → qW → qR) (n0 : Nat) (G : qM) (U : qW) (v0 : Int32) (v1 : Int32) (v2 : Int32) : qm_run pm_m big m_221 (n0 + 3) 64 [(0, .ref 70), (1, .int (2 : Int32)), (2, .int v0), (3, .int v1)] [.int v2, .ref 86] G U = qm_run pm_m big m_221 n0 85 [(0, .ref 70), (1, .int (2 : Int32)), (2, .int v0), (3, .int v1)] [.int (Int8.toInt32 (Int32.toInt8 v1)), .int v2, .ref 86] G U := rfl
theorem sg_sx_107 (big : Nat → List Value → qM → qW → qR) (n0 : Nat) (G : qM) (U : qW) (v0 : Int32) (v1 : Int32) (v2 : Int32) : qm_run pm_m big m_221 (n0 + 5) 69 [(0, .ref 70), (1, .int (2 : Int32)), (2, .int v0), (3, .int v1)] [.int v2, .ref 86] G U = qm_run pm_m big m_221 n0 76 [(0, .ref 70), (1, .int (2 : Int32)), (2, .int v0), (3, .int v1)] [.int (1 : Int32), .int (G 84 2), .int v2, .ref 86] G U := rfl
theorem sg_sx_108 (big : Nat → List Value → qM → qW → qR) (n0 : Nat) (G : qM) (U : qW) (v0 : Int32) (v1 : Int32) (v2 : Int32) : qm_run pm_m big m_221 (n0 + 3) 79 [(0, .ref 70), (1, .int (2 : Int32)), (2, .int v0), (3, .int v1)] [.int v2, .ref 86] G U = qm_run pm_m big m_221 n0 85 [(0, .ref 70), (1, .int (2 : Int32)), (2, .int v0), (3, .int v1)] [.int (Int16.toInt32 (Int32.toInt16 v1)), .int v2, .ref 86] G U := rfl
theorem sg_sx_109 (big : Nat → List Value → qM → qW → qR) (n0 : Nat) (G : qM) (U : qW) (v0 : Int32) (v1 : Int32) (v2 : Int32) : qm_run pm_m big m_221 (n0 + 1) 84 [(0, .ref 70), (1, .int (2 : Int32)), (2, .int v0), (3, .int v1)] [.int v2, .ref 86] G U = qm_run pm_m big m_221 n0 85 [(0, .ref 70), (1, .int (2 : Int32)), (2, .int v0), (3, .int v1)] [.int v1, .int v2, .ref 86] G U := rfl
theorem sg_sx_110 (big : Nat → List Value → qM → qW → qR) (n0 : Nat) (G : qM) (U : qW) (v0 : Int32) : qm_run pm_m big m_220 (n0 + 4) 0 [(0, .int (3 : Int32)), (1, .int v0)] [] G U = qm_run pm_m big m_220 n0 6 [(0, .int (3 : Int32)), (1, .int v0)] [.long (3 : Int64), .long (0 : Int64), .long (3 : Int64)] G U := rfl
theorem sg_sx_111 (big : Nat → List Value → qM → qW → qR) (n0 : Nat) (G : qM) (U : qW) (v0 : Int32) : qm_run pm_m big m_220 (n0 + 5) 9 [(0, .int (3 : Int32)), (1, .int v0)] [.int (1 : Int32)] G U = qm_run pm_m big m_220 n0 18 [(0, .int (3 : Int32)), (1, .int v0)] [.long (2 : Int64), .long (0 : Int64), .long (Int32.toInt64 v0)] G U := rfl
theorem sg_sx_112 (big : Nat → List Value → qM → qW → qR) (n0 : Nat) (G : qM) (U : qW) (v0 : Int32) (v1 : Int32) (v2 : Int32) : qm_run pm_m big m_219 (n0 + 2) 40 [(0, .ref 70), (1, .int (3 : Int32)), (2, .int v0), (3, .int v1), (4, .int v2)] [] G U = qm_run pm_m big m_219 n0 44 [(0, .ref 70), (1, .int (3 : Int32)), (2, .int v0), (3, .int v1), (4, .int v2)] [.int (40 : Int32), .int v2] G U := rfl
theorem sg_sx_113 (big : Nat → List Value → qM → qW → qR) (n0 : Nat) (G : qM) (U : qW) (v0 : Int32) (v1 : Int32) (v2 : Int32) : qm_run pm_m big m_219 (n0 + 8) 47 [(0, .ref 70), (1, .int (3 : Int32)), (2, .int v0), (3, .int v1), (4, .int v2)] [] G U = qm_run pm_m big m_219 n0 59 [(0, .ref 70), (1, .int (3 : Int32)), (2, .int v0), (3, .int v1), (4, .int v2)] [.int (0 : Int32), .int ((120 : Int32) + v2), .ref 86] G U := rfl
theorem sg_sx_114 (big : Nat → List Value → qM → qW → qR) (n0 : Nat) (G : qM) (U : qW) (v0 : Int32) (v1 : Int32) (v2 : Int32) : qm_run pm_m big m_219 (n0 + 2) 60 [(0, .ref 70), (1, .int (3 : Int32)), (2, .int v0), (3, .int v1), (4, .int v2)] [] G U = qm_run pm_m big m_219 n0 40 [(0, .ref 70), (1, .int (3 : Int32)), (2, .int v0), (3, .int v1), (4, .int (v2 + (1 : Int32)))] [] G U := rfl
theorem sg_sx_115 (big : Nat → List Value → qM → qW → qR) (n0 : Nat) (G : qM) (U : qW) (v0 : Int32) (v1 : Int32) : qm_run pm_m big m_219 (n0 + 2) 0 [(0, .ref 70), (1, .int (3 : Int32)), (2, .int v0), (3, .int v1)] [] G U = qm_run pm_m big m_219 n0 2 [(0, .ref 70), (1, .int (3 : Int32)), (2, .int v0), (3, .int v1)] [.int v0, .int (3 : Int32)] G U := rfl
theorem sg_sx_116 (big : Nat → List Value → qM → qW → qR) (n0 : Nat) (G : qM) (U : qW) (v0 : Int32) (v1 : Int32) : qm_run pm_m big m_219 (n0 + 3) 5 [(0, .ref 70), (1, .int (3 : Int32)), (2, .int v0), (3, .int v1)] [.int (1 : Int32)] G U = qm_run pm_m big m_219 n0 11 [(0, .ref 70), (1, .int (3 : Int32)), (2, .int v0), (3, .int v1)] [.int (40 : Int32), .int v1] G U := rfl
theorem sg_sx_117 (big : Nat → List Value → qM → qW → qR) (n0 : Nat) (G : qM) (U : qW) (v0 : Int32) (v1 : Int32) : qm_run pm_m big m_219 (n0 + 1) 16 [(0, .ref 70), (1, .int (3 : Int32)), (2, .int v0), (3, .int v1)] [] G U = qm_run pm_m big m_219 n0 17 [(0, .ref 70), (1, .int (3 : Int32)), (2, .int v0), (3, .int v1)] [.int v1] G U := rfl
theorem sg_sx_118 (big : Nat → List Value → qM → qW → qR) (n0 : Nat) (G : qM) (U : qW) (v0 : Int32) (v1 : Int32) : qm_run pm_m big m_219 (n0 + 12) 23 [(0, .ref 70), (1, .int (3 : Int32)), (2, .int v0), (3, .int v1)] [] G U = qm_run pm_m big m_219 n0 40 [(0, .ref 70), (1, .int (3 : Int32)), (2, .int v0), (3, .int v1), (4, .int (0 : Int32))] [] (q_up (q_up G 84 3 v0) 85 3 v1) U := rfl
theorem sg_sx_119 (big : Nat → List Value → qM → qW → qR) (n0 : Nat) (G : qM) (U : qW) (v0 : Int32) (v1 : Int32) : qm_run pm_m big m_137 (n0 + 1) 0 [(0, .ref 68), (1, .int v0), (2, .int v1)] [] G U = qm_run pm_m big m_137 n0 1 [(0, .ref 68), (1, .int v0), (2, .int v1)] [.int v0] G U := rfl
theorem sg_sx_120 (big : Nat → List Value → qM → qW → qR) (n0 : Nat) (G : qM) (U : qW) (v0 : Int32) (v1 : Int32) : qm_run pm_m big m_137 (n0 + 3) 4 [(0, .ref 68), (1, .int v0), (2, .int v1)] [] G U = qm_run pm_m big m_137 n0 9 [(0, .ref 68), (1, .int v0), (2, .int v1)] [.int (G 68 1), .int v0] G U := rfl
theorem sg_sx_121 (big : Nat → List Value → qM → qW → qR) (n0 : Nat) (G : qM) (U : qW) (v0 : Int32) (v1 : Int32) : qm_run pm_m big m_137 (n0 + 5) 12 [(0, .ref 68), (1, .int v0), (2, .int v1)] [] G U = qm_run pm_m big m_137 n0 21 [(0, .ref 68), (1, .int v0), (2, .int v1)] [.int (G 68 2), .int v0, .ref 69] G U := rfl
theorem sg_sx_122 (big : Nat → List Value → qM → qW → qR) (n0 : Nat) (G : qM) (U : qW) (v0 : Int32) (v1 : Int32) (v2 : Int32) : qm_run pm_m big m_137 (n0 + 3) 24 [(0, .ref 68), (1, .int v0), (2, .int v1)] [.int v2, .ref 69] G U = qm_run pm_m big m_137 n0 43 [(0, .ref 68), (1, .int v0), (2, .int v1)] [.int (Int8.toInt32 (Int32.toInt8 v1)), .int v2, .ref 69] G U := rfl
theorem sg_sx_123 (big : Nat → List Value → qM → qW → qR) (n0 : Nat) (G : qM) (U : qW) (v0 : Int32) (v1 : Int32) (v2 : Int32) : qm_run pm_m big m_137 (n0 + 3) 29 [(0, .ref 68), (1, .int v0), (2, .int v1)] [.int v2, .ref 69] G U = qm_run pm_m big m_137 n0 34 [(0, .ref 68), (1, .int v0), (2, .int v1)] [.int (1 : Int32), .int (G 68 2), .int v2, .ref 69] G U := rfl
theorem sg_sx_124 (big : Nat → List Value → qM → qW → qR) (n0 : Nat) (G : qM) (U : qW) (v0 : Int32) (v1 : Int32) (v2 : Int32) : qm_run pm_m big m_137 (n0 + 3) 37 [(0, .ref 68), (1, .int v0), (2, .int v1)] [.int v2, .ref 69] G U = qm_run pm_m big m_137 n0 43 [(0, .ref 68), (1, .int v0), (2, .int v1)] [.int (Int16.toInt32 (Int32.toInt16 v1)), .int v2, .ref 69] G U := rfl
theorem sg_sx_125 (big : Nat → List Value → qM → qW → qR) (n0 : Nat) (G : qM) (U : qW) (v0 : Int32) (v1 : Int32) (v2 : Int32) : qm_run pm_m big m_137 (n0 + 1) 42 [(0, .ref 68), (1, .int v0), (2, .int v1)] [.int v2, .ref 69] G U = qm_run pm_m big m_137 n0 43 [(0, .ref 68), (1, .int v0), (2, .int v1)] [.int v1, .int v2, .ref 69] G U := rfl
theorem sg_sx_126 (big : Nat → List Value → qM → qW → qR) (n0 : Nat) (G : qM) (U : qW) (v0 : Int32) (v1 : Int32) : qm_run pm_m big m_134 (n0 + 1) 0 [(0, .ref 8), (1, .int (3 : Int32)), (2, .int v0), (3, .int v1)] [] G U = qm_run pm_m big m_134 n0 1 [(0, .ref 8), (1, .int (3 : Int32)), (2, .int v0), (3, .int v1)] [.int (3 : Int32)] G U := rfl
theorem sg_sx_127 (big : Nat → List Value → qM → qW → qR) (n0 : Nat) (G : qM) (U : qW) (v0 : Int32) (v1 : Int32) : qm_run pm_m big m_134 (n0 + 6) 4 [(0, .ref 8), (1, .int (3 : Int32)), (2, .int v0), (3, .int v1)] [.int (1 : Int32)] G U = qm_run pm_m big m_134 n0 16 [(0, .ref 8), (1, .int (3 : Int32)), (2, .int v0), (3, .int v1)] [.int v0, .ref 68] G U := rfl
theorem sg_sx_128 (big : Nat → List Value → qM → qW → qR) (n0 : Nat) (G : qM) (U : qW) (v0 : Int32) (v1 : Int32) : qm_run pm_m big m_134 (n0 + 9) 19 [(0, .ref 8), (1, .int (3 : Int32)), (2, .int v0), (3, .int v1)] [.int (0 : Int32)] G U = qm_run pm_m big m_134 n0 40 [(0, .ref 8), (1, .int (3 : Int32)), (2, .int v0), (3, .int v1), (4, .int (0 : Int32))] [.int v1, .int v0, .ref 68] G U := rfl
theorem sg_sx_129 (big : Nat → List Value → qM → qW → qR) (n0 : Nat) (G : qM) (U : qW) (v0 : Int32) (v1 : Int32) : qm_run pm_m big m_221 (n0 + 2) 0 [(0, .ref 70), (1, .int (3 : Int32)), (2, .int v0), (3, .int v1)] [] G U = qm_run pm_m big m_221 n0 2 [(0, .ref 70), (1, .int (3 : Int32)), (2, .int v0), (3, .int v1)] [.int (0 : Int32), .int (3 : Int32)] G U := rfl
theorem sg_sx_130 (big : Nat → List Value → qM → qW → qR) (n0 : Nat) (G : qM) (U : qW) (v0 : Int32) (v1 : Int32) : qm_run pm_m big m_221 (n0 + 6) 5 [(0, .ref 70), (1, .int (3 : Int32)), (2, .int v0), (3, .int v1)] [.int (1 : Int32)] G U = qm_run pm_m big m_221 n0 18 [(0, .ref 70), (1, .int (3 : Int32)), (2, .int v0), (3, .int v1)] [.int (Int8.toInt32 (Int8.ofInt (-4))), .int (G 84 3)] G U := rfl
theorem sg_sx_131 (big : Nat → List Value → qM → qW → qR) (n0 : Nat) (G : qM) (U : qW) (v0 : Int32) (v1 : Int32) : qm_run pm_m big m_221 (n0 + 10) 24 [(0, .ref 70), (1, .int (3 : Int32)), (2, .int v0), (3, .int v1)] [] G U = qm_run pm_m big m_221 n0 36 [(0, .ref 70), (1, .int (3 : Int32)), (2, .int v0), (3, .int v1)] [.long (Int32.toInt64 ((G 85 3) - (1 : Int32))), .long (0 : Int64), .long (Int32.toInt64 v0)] G U := rfl
theorem sg_sx_132 (big : Nat → List Value → qM → qW → qR) (n0 : Nat) (G : qM) (U : qW) (v0 : Int32) (v1 : Int32) : qm_run pm_m big m_221 (n0 + 12) 39 [(0, .ref 70), (1, .int (3 : Int32)), (2, .int v0), (3, .int v1)] [.int (1 : Int32)] G U = qm_run pm_m big m_221 n0 61 [(0, .ref 70), (1, .int (3 : Int32)), (2, .int v0), (3, .int v1)] [.int (G 84 3), .int ((120 : Int32) + v0), .ref 86] G U := rfl
theorem sg_sx_133 (big : Nat → List Value → qM → qW → qR) (n0 : Nat) (G : qM) (U : qW) (v0 : Int32) (v1 : Int32) (v2 : Int32) : qm_run pm_m big m_221 (n0 + 3) 64 [(0, .ref 70), (1, .int (3 : Int32)), (2, .int v0), (3, .int v1)] [.int v2, .ref 86] G U = qm_run pm_m big m_221 n0 85 [(0, .ref 70), (1, .int (3 : Int32)), (2, .int v0), (3, .int v1)] [.int (Int8.toInt32 (Int32.toInt8 v1)), .int v2, .ref 86] G U := rfl
theorem sg_sx_134 (big : Nat → List Value → qM → qW → qR) (n0 : Nat) (G : qM) (U : qW) (v0 : Int32) (v1 : Int32) (v2 : Int32) : qm_run pm_m big m_221 (n0 + 5) 69 [(0, .ref 70), (1, .int (3 : Int32)), (2, .int v0), (3, .int v1)] [.int v2, .ref 86] G U = qm_run pm_m big m_221 n0 76 [(0, .ref 70), (1, .int (3 : Int32)), (2, .int v0), (3, .int v1)] [.int (1 : Int32), .int (G 84 3), .int v2, .ref 86] G U := rfl
theorem sg_sx_135 (big : Nat → List Value → qM → qW → qR) (n0 : Nat) (G : qM) (U : qW) (v0 : Int32) (v1 : Int32) (v2 : Int32) : qm_run pm_m big m_221 (n0 + 3) 79 [(0, .ref 70), (1, .int (3 : Int32)), (2, .int v0), (3, .int v1)] [.int v2, .ref 86] G U = qm_run pm_m big m_221 n0 85 [(0, .ref 70), (1, .int (3 : Int32)), (2, .int v0), (3, .int v1)] [.int (Int16.toInt32 (Int32.toInt16 v1)), .int v2, .ref 86] G U := rfl
theorem sg_sx_136 (big : Nat → List Value → qM → qW → qR) (n0 : Nat) (G : qM) (U : qW) (v0 : Int32) (v1 : Int32) (v2 : Int32) : qm_run pm_m big m_221 (n0 + 1) 84 [(0, .ref 70), (1, .int (3 : Int32)), (2, .int v0), (3, .int v1)] [.int v2, .ref 86] G U = qm_run pm_m big m_221 n0 85 [(0, .ref 70), (1, .int (3 : Int32)), (2, .int v0), (3, .int v1)] [.int v1, .int v2, .ref 86] G U := rfl
theorem sg_sx_137 (big : Nat → List Value → qM → qW → qR) (n0 : Nat) (G : qM) (U : qW) : qm_run pm_m big m_143 (n0 + 4) 0 [(0, .ref 8), (1, .int (0 : Int32))] [] G U = qm_run pm_m big m_143 n0 48 [(0, .ref 8), (1, .int (0 : Int32))] [.ref 20] G U := rfl
theorem sg_sx_138 (big : Nat → List Value → qM → qW → qR) (n0 : Nat) (G : qM) (U : qW) : qm_run pm_m big m_143 (n0 + 4) 0 [(0, .ref 8), (1, .int (1 : Int32))] [] G U = qm_run pm_m big m_143 n0 56 [(0, .ref 8), (1, .int (1 : Int32))] [.ref 20] G U := rfl
theorem sg_sx_139 (big : Nat → List Value → qM → qW → qR) (n0 : Nat) (G : qM) (U : qW) : qm_run pm_m big m_143 (n0 + 4) 0 [(0, .ref 8), (1, .int (3 : Int32))] [] G U = qm_run pm_m big m_143 n0 72 [(0, .ref 8), (1, .int (3 : Int32))] [.int (G 8 7)] G U := rfl
theorem sg_sx_140 (big : Nat → List Value → qM → qW → qR) (n0 : Nat) (G : qM) (U : qW) : qm_run pm_m big m_143 (n0 + 6) 0 [(0, .ref 8), (1, .int (5 : Int32))] [] G U = qm_run pm_m big m_143 n0 90 [(0, .ref 8), (1, .int (5 : Int32))] [.ref 62] G U := rfl
theorem sg_sx_141 (big : Nat → List Value → qM → qW → qR) (n0 : Nat) (G : qM) (U : qW) : qm_run pm_m big m_143 (n0 + 4) 0 [(0, .ref 8), (1, .int (6 : Int32))] [] G U = qm_run pm_m big m_143 n0 115 [(0, .ref 8), (1, .int (6 : Int32))] [.ref 20] G U := rfl
theorem sg_sx_142 (big : Nat → List Value → qM → qW → qR) (n0 : Nat) (G : qM) (U : qW) (v0 : Int32) : qm_run pm_m big m_143 (n0 + 1) 0 [(0, .ref 8), (1, .int v0)] [] G U = qm_run pm_m big m_143 n0 1 [(0, .ref 8), (1, .int v0)] [.int v0] G U := rfl
theorem sg_sx_143 (big : Nat → List Value → qM → qW → qR) (n0 : Nat) (G : qM) (U : qW) (v0 : Int32) (v1 : Int32) (v2 : Int32) : qm_run pm_m big m_224 (n0 + 3) 8 [(0, .ref 70), (1, .int v0), (2, .int v1), (3, .int v2)] [] G U = qm_run pm_m big m_224 n0 13 [(0, .ref 70), (1, .int v0), (2, .int v1), (3, .int v2)] [.int (G 70 4), .int v2] G U := rfl
theorem sg_sx_144 (big : Nat → List Value → qM → qW → qR) (n0 : Nat) (G : qM) (U : qW) (v0 : Int32) (v1 : Int32) (v2 : Int32) : qm_run pm_m big m_224 (n0 + 6) 16 [(0, .ref 70), (1, .int v0), (2, .int v1), (3, .int v2)] [] G U = qm_run pm_m big m_224 n0 24 [(0, .ref 70), (1, .int v0), (2, .int v1), (3, .int v2)] [.int ((5 : Int32) + v2), .ref 71, .int v1] G U := rfl
theorem sg_sx_145 (big : Nat → List Value → qM → qW → qR) (n0 : Nat) (G : qM) (U : qW) (v0 : Int32) (v1 : Int32) (v2 : Int32) (v3 : Int32) : qm_run pm_m big m_224 (n0 + 2) 28 [(0, .ref 70), (1, .int v0), (2, .int v1), (3, .int v2)] [.int v3] G U = qm_run pm_m big m_224 n0 33 [(0, .ref 70), (1, .int v0), (2, .int v1), (3, .int v2)] [.int (1 : Int32), .int v3] G U := rfl
theorem sg_sx_146 (big : Nat → List Value → qM → qW → qR) (n0 : Nat) (G : qM) (U : qW) (v0 : Int32) (v1 : Int32) (v2 : Int32) (v3 : Int32) : qm_run pm_m big m_224 (n0 + 4) 36 [(0, .ref 70), (1, .int v0), (2, .int v1), (3, .int v2)] [.int (1 : Int32), .int v3] G U = qm_run pm_m big m_224 n0 8 [(0, .ref 70), (1, .int v0), (2, .int (v3 + (1 : Int32))), (3, .int (v2 + (1 : Int32)))] [] G U := rfl
theorem sg_sx_147 (big : Nat → List Value → qM → qW → qR) (n0 : Nat) (G : qM) (U : qW) (v0 : Int32) (v1 : Int32) (v2 : Int32) (v3 : Int32) : qm_run pm_m big m_224 (n0 + 1) 32 [(0, .ref 70), (1, .int v0), (2, .int v1), (3, .int v2)] [.int v3] G U = qm_run pm_m big m_224 n0 33 [(0, .ref 70), (1, .int v0), (2, .int v1), (3, .int v2)] [.int (0 : Int32), .int v3] G U := rfl
theorem sg_sx_148 (big : Nat → List Value → qM → qW → qR) (n0 : Nat) (G : qM) (U : qW) (v0 : Int32) (v1 : Int32) (v2 : Int32) (v3 : Int32) : qm_run pm_m big m_224 (n0 + 4) 36 [(0, .ref 70), (1, .int v0), (2, .int v1), (3, .int v2)] [.int (0 : Int32), .int v3] G U = qm_run pm_m big m_224 n0 8 [(0, .ref 70), (1, .int v0), (2, .int (v3 + (0 : Int32))), (3, .int (v2 + (1 : Int32)))] [] G U := rfl
theorem sg_sx_149 (big : Nat → List Value → qM → qW → qR) (n0 : Nat) (G : qM) (U : qW) : qm_run pm_m big m_224 (n0 + 1) 0 [(0, .ref 70), (1, .int (0 : Int32))] [] G U = qm_run pm_m big m_224 n0 1 [(0, .ref 70), (1, .int (0 : Int32))] [.ref 70] G U := rfl
theorem sg_sx_150 (big : Nat → List Value → qM → qW → qR) (n0 : Nat) (G : qM) (U : qW) : qm_run pm_m big m_224 (n0 + 4) 4 [(0, .ref 70), (1, .int (0 : Int32))] [] G U = qm_run pm_m big m_224 n0 8 [(0, .ref 70), (1, .int (0 : Int32)), (2, .int (0 : Int32)), (3, .int (0 : Int32))] [] G U := rfl
theorem sg_sx_151 (big : Nat → List Value → qM → qW → qR) (n0 : Nat) (G : qM) (U : qW) (v0 : Int32) (v1 : Int32) : qm_run pm_m big m_224 (n0 + 3) 44 [(0, .ref 70), (1, .int (0 : Int32)), (2, .int v0), (3, .int v1)] [] G U = qm_run pm_m big m_224 n0 89 [(0, .ref 70), (1, .int (0 : Int32)), (2, .int v0), (3, .int v1)] [.ref 70] G U := rfl
theorem sg_sx_152 (big : Nat → List Value → qM → qW → qR) (n0 : Nat) (G : qM) (U : qW) : qm_run pm_m big m_224 (n0 + 1) 0 [(0, .ref 70), (1, .int (1 : Int32))] [] G U = qm_run pm_m big m_224 n0 1 [(0, .ref 70), (1, .int (1 : Int32))] [.ref 70] G U := rfl
theorem sg_sx_153 (big : Nat → List Value → qM → qW → qR) (n0 : Nat) (G : qM) (U : qW) : qm_run pm_m big m_224 (n0 + 4) 4 [(0, .ref 70), (1, .int (1 : Int32))] [] G U = qm_run pm_m big m_224 n0 8 [(0, .ref 70), (1, .int (1 : Int32)), (2, .int (0 : Int32)), (3, .int (0 : Int32))] [] G U := rfl
theorem sg_sx_154 (big : Nat → List Value → qM → qW → qR) (n0 : Nat) (G : qM) (U : qW) (v0 : Int32) (v1 : Int32) : qm_run pm_m big m_224 (n0 + 3) 44 [(0, .ref 70), (1, .int (1 : Int32)), (2, .int v0), (3, .int v1)] [] G U = qm_run pm_m big m_224 n0 94 [(0, .ref 70), (1, .int (1 : Int32)), (2, .int v0), (3, .int v1)] [.ref 70] G U := rfl
theorem sg_sx_155 (big : Nat → List Value → qM → qW → qR) (n0 : Nat) (G : qM) (U : qW) : qm_run pm_m big m_224 (n0 + 1) 0 [(0, .ref 70), (1, .int (2 : Int32))] [] G U = qm_run pm_m big m_224 n0 1 [(0, .ref 70), (1, .int (2 : Int32))] [.ref 70] G U := rfl
theorem sg_sx_156 (big : Nat → List Value → qM → qW → qR) (n0 : Nat) (G : qM) (U : qW) : qm_run pm_m big m_224 (n0 + 4) 4 [(0, .ref 70), (1, .int (2 : Int32))] [] G U = qm_run pm_m big m_224 n0 8 [(0, .ref 70), (1, .int (2 : Int32)), (2, .int (0 : Int32)), (3, .int (0 : Int32))] [] G U := rfl
theorem sg_sx_157 (big : Nat → List Value → qM → qW → qR) (n0 : Nat) (G : qM) (U : qW) : qm_run pm_m big m_224 (n0 + 1) 0 [(0, .ref 70), (1, .int (3 : Int32))] [] G U = qm_run pm_m big m_224 n0 1 [(0, .ref 70), (1, .int (3 : Int32))] [.ref 70] G U := rfl
theorem sg_sx_158 (big : Nat → List Value → qM → qW → qR) (n0 : Nat) (G : qM) (U : qW) : qm_run pm_m big m_224 (n0 + 4) 4 [(0, .ref 70), (1, .int (3 : Int32))] [] G U = qm_run pm_m big m_224 n0 8 [(0, .ref 70), (1, .int (3 : Int32)), (2, .int (0 : Int32)), (3, .int (0 : Int32))] [] G U := rfl
theorem sg_sx_159 (big : Nat → List Value → qM → qW → qR) (n0 : Nat) (G : qM) (U : qW) (v0 : Int32) (v1 : Int32) : qm_run pm_m big m_224 (n0 + 6) 44 [(0, .ref 70), (1, .int (3 : Int32)), (2, .int v0), (3, .int v1)] [] G U = qm_run pm_m big m_224 n0 112 [(0, .ref 70), (1, .int (3 : Int32)), (2, .int v0), (3, .int v1)] [.int (G 72 0)] G U := rfl
theorem sg_sx_160 (big : Nat → List Value → qM → qW → qR) (n0 : Nat) (G : qM) (U : qW) (v0 : Int32) (v1 : Int32) (v2 : Int32) : qm_run pm_m big m_224 (n0 + 4) 115 [(0, .ref 70), (1, .int (3 : Int32)), (2, .int v0), (3, .int v1)] [.int v2] G U = qm_run pm_m big m_224 n0 121 [(0, .ref 70), (1, .int (3 : Int32)), (2, .int v0), (3, .int v1)] [.int (G 72 1), .int v2] G U := rfl
theorem sg_sx_161 (big : Nat → List Value → qM → qW → qR) (n0 : Nat) (G : qM) (U : qW) : qm_run pm_m big m_224 (n0 + 1) 0 [(0, .ref 70), (1, .int (4 : Int32))] [] G U = qm_run pm_m big m_224 n0 1 [(0, .ref 70), (1, .int (4 : Int32))] [.ref 70] G U := rfl
theorem sg_sx_162 (big : Nat → List Value → qM → qW → qR) (n0 : Nat) (G : qM) (U : qW) : qm_run pm_m big m_224 (n0 + 4) 4 [(0, .ref 70), (1, .int (4 : Int32))] [] G U = qm_run pm_m big m_224 n0 8 [(0, .ref 70), (1, .int (4 : Int32)), (2, .int (0 : Int32)), (3, .int (0 : Int32))] [] G U := rfl
theorem sg_sx_163 (big : Nat → List Value → qM → qW → qR) (n0 : Nat) (G : qM) (U : qW) : qm_run pm_m big m_224 (n0 + 1) 0 [(0, .ref 70), (1, .int (5 : Int32))] [] G U = qm_run pm_m big m_224 n0 1 [(0, .ref 70), (1, .int (5 : Int32))] [.ref 70] G U := rfl
theorem sg_sx_164 (big : Nat → List Value → qM → qW → qR) (n0 : Nat) (G : qM) (U : qW) : qm_run pm_m big m_224 (n0 + 4) 4 [(0, .ref 70), (1, .int (5 : Int32))] [] G U = qm_run pm_m big m_224 n0 8 [(0, .ref 70), (1, .int (5 : Int32)), (2, .int (0 : Int32)), (3, .int (0 : Int32))] [] G U := rfl
theorem sg_sx_165 (big : Nat → List Value → qM → qW → qR) (n0 : Nat) (G : qM) (U : qW) (v0 : Int32) (v1 : Int32) : qm_run pm_m big m_224 (n0 + 7) 44 [(0, .ref 70), (1, .int (5 : Int32)), (2, .int v0), (3, .int v1)] [] G U = qm_run pm_m big m_224 n0 139 [(0, .ref 70), (1, .int (5 : Int32)), (2, .int v0), (3, .int v1)] [.int (Int8.toInt32 (Int8.ofInt (-4))), .int (G 84 0)] G U := rfl
theorem sg_sx_166 (big : Nat → List Value → qM → qW → qR) (n0 : Nat) (G : qM) (U : qW) : qm_run pm_m big m_224 (n0 + 1) 0 [(0, .ref 70), (1, .int (6 : Int32))] [] G U = qm_run pm_m big m_224 n0 1 [(0, .ref 70), (1, .int (6 : Int32))] [.ref 70] G U := rfl
theorem sg_sx_167 (big : Nat → List Value → qM → qW → qR) (n0 : Nat) (G : qM) (U : qW) : qm_run pm_m big m_224 (n0 + 4) 4 [(0, .ref 70), (1, .int (6 : Int32))] [] G U = qm_run pm_m big m_224 n0 8 [(0, .ref 70), (1, .int (6 : Int32)), (2, .int (0 : Int32)), (3, .int (0 : Int32))] [] G U := rfl
theorem sg_sx_168 (big : Nat → List Value → qM → qW → qR) (n0 : Nat) (G : qM) (U : qW) (v0 : Int32) : qm_run pm_m big m_224 (n0 + 1) 0 [(0, .ref 70), (1, .int v0)] [] G U = qm_run pm_m big m_224 n0 1 [(0, .ref 70), (1, .int v0)] [.ref 70] G U := rfl
theorem sg_sx_169 (big : Nat → List Value → qM → qW → qR) (n0 : Nat) (G : qM) (U : qW) (v0 : Int32) : qm_run pm_m big m_224 (n0 + 4) 4 [(0, .ref 70), (1, .int v0)] [] G U = qm_run pm_m big m_224 n0 8 [(0, .ref 70), (1, .int v0), (2, .int (0 : Int32)), (3, .int (0 : Int32))] [] G U := rfl
theorem sg_sx_170 (big : Nat → List Value → qM → qW → qR) (n0 : Nat) (G : qM) (U : qW) (v0 : Int32) (v1 : Int32) (v2 : Int32) : qm_run pm_m big m_224 (n0 + 1) 44 [(0, .ref 70), (1, .int v0), (2, .int v1), (3, .int v2)] [] G U = qm_run pm_m big m_224 n0 45 [(0, .ref 70), (1, .int v0), (2, .int v1), (3, .int v2)] [.int v0] G U := rfl
theorem cs_44_0 (g : qM) (u : qW) : ∀ k i, i + k = 44 → q_EV m_217 2 [(0, .ref 70), (1, .int (44 : Int32)), (2, .int (0 : Int32)), (3, .int (Int32.ofNat i))] [] (s_cps 44 0 i g) u (fun R => R = (none, s_cps 44 0 44 g, u)) := by
  intro k
  induction k with
  | zero =>
    intro i hi
    refine q_step 2 5 [(0, .ref 70), (1, .int (44 : Int32)), (2, .int (0 : Int32)), (3, .int (Int32.ofNat i))] [.int (44 : Int32), .int (Int32.ofNat i)] (s_cps 44 0 i g) u (fun big n0 => sg_sx_1 big n0 (s_cps 44 0 i g) u (Int32.ofNat i)) ?_
    refine q_ic_ge rfl (fun (hc0 : (44 : Int32) ≤ (Int32.ofNat i)) => ?_) (fun hc0 => absurd (show (44 : Int32) ≤ (Int32.ofNat i) from by have z : i = 44 := hi; exact (q_le (i := 44) (j := i) (by omega) (by omega)).mpr (by omega)) hc0)
    refine q_ret 1 (none, (s_cps 44 0 i g), u) (fun _ _ => rfl) ?_
    rw [show i = 44 from hi]
  | succ k ih =>
    intro i hi
    refine q_step 2 5 [(0, .ref 70), (1, .int (44 : Int32)), (2, .int (0 : Int32)), (3, .int (Int32.ofNat i))] [.int (44 : Int32), .int (Int32.ofNat i)] (s_cps 44 0 i g) u (fun big n0 => sg_sx_1 big n0 (s_cps 44 0 i g) u (Int32.ofNat i)) ?_
    refine q_ic_ge rfl (fun hc0 => absurd (show (44 : Int32) ≤ (Int32.ofNat i) from hc0) (fun z => absurd ((q_le (i := 44) (j := i) (by omega) (by omega)).mp z) (by omega))) (fun (hc0 : ¬ ((44 : Int32) ≤ (Int32.ofNat i))) => ?_)
    refine q_step 10 22 [(0, .ref 70), (1, .int (44 : Int32)), (2, .int (0 : Int32)), (3, .int (Int32.ofNat i))] [.int ((0 : Int32) + (Int32.ofNat i)), .ref 71, .int ((44 : Int32) + (Int32.ofNat i)), .ref 71] (s_cps 44 0 i g) u (fun big n0 => sg_sx_2 big n0 (s_cps 44 0 i g) u (Int32.ofNat i)) ?_
    refine q_iald (j := (0 + i)) (s_rixn (K := 0) (i := i) (by omega)) rfl rfl ?_
    refine q_iast (j := (44 + i)) (s_rixn (K := 44) (i := i) (by omega)) rfl rfl ?_
    refine q_step 2 2 [(0, .ref 70), (1, .int (44 : Int32)), (2, .int (0 : Int32)), (3, .int ((Int32.ofNat i) + (1 : Int32)))] [] (q_up (s_cps 44 0 i g) 71 (44 + i) ((s_cps 44 0 i g) 71 (0 + i))) u (fun big n0 => sg_sx_3 big n0 (q_up (s_cps 44 0 i g) 71 (44 + i) ((s_cps 44 0 i g) 71 (0 + i))) u (Int32.ofNat i)) ?_
    rw [q_succ, show (q_up (s_cps 44 0 i g) 71 (44 + i) ((s_cps 44 0 i g) 71 (0 + i))) = s_cps 44 0 (i + 1) g from by
      rw [s_cps_r (by omega) (by omega)]
      exact s_cps_s]
    exact ih (i + 1) (by omega)
theorem b_cps44_0 (g : qM) (u : qW) : q_BS 217 [.ref 70, .int (44 : Int32), .int (0 : Int32)] g u (none, s_cps 44 0 44 g, u) := by
  refine q_bx (mm := m_217) rfl (Nat.le_of_ble_eq_true rfl) rfl ?_
  refine q_step 2 2 [(0, .ref 70), (1, .int (44 : Int32)), (2, .int (0 : Int32)), (3, .int (0 : Int32))] [] g u (fun big n0 => sg_sx_4 big n0 g u) ?_
  have e := cs_44_0 g u 44 0 (by omega)
  rw [s_cps_0] at e
  exact e
theorem cs_88_0 (g : qM) (u : qW) : ∀ k i, i + k = 44 → q_EV m_217 2 [(0, .ref 70), (1, .int (88 : Int32)), (2, .int (0 : Int32)), (3, .int (Int32.ofNat i))] [] (s_cps 88 0 i g) u (fun R => R = (none, s_cps 88 0 44 g, u)) := by
  intro k
  induction k with
  | zero =>
    intro i hi
    refine q_step 2 5 [(0, .ref 70), (1, .int (88 : Int32)), (2, .int (0 : Int32)), (3, .int (Int32.ofNat i))] [.int (44 : Int32), .int (Int32.ofNat i)] (s_cps 88 0 i g) u (fun big n0 => sg_sx_5 big n0 (s_cps 88 0 i g) u (Int32.ofNat i)) ?_
    refine q_ic_ge rfl (fun (hc0 : (44 : Int32) ≤ (Int32.ofNat i)) => ?_) (fun hc0 => absurd (show (44 : Int32) ≤ (Int32.ofNat i) from by have z : i = 44 := hi; exact (q_le (i := 44) (j := i) (by omega) (by omega)).mpr (by omega)) hc0)
    refine q_ret 1 (none, (s_cps 88 0 i g), u) (fun _ _ => rfl) ?_
    rw [show i = 44 from hi]
  | succ k ih =>
    intro i hi
    refine q_step 2 5 [(0, .ref 70), (1, .int (88 : Int32)), (2, .int (0 : Int32)), (3, .int (Int32.ofNat i))] [.int (44 : Int32), .int (Int32.ofNat i)] (s_cps 88 0 i g) u (fun big n0 => sg_sx_5 big n0 (s_cps 88 0 i g) u (Int32.ofNat i)) ?_
    refine q_ic_ge rfl (fun hc0 => absurd (show (44 : Int32) ≤ (Int32.ofNat i) from hc0) (fun z => absurd ((q_le (i := 44) (j := i) (by omega) (by omega)).mp z) (by omega))) (fun (hc0 : ¬ ((44 : Int32) ≤ (Int32.ofNat i))) => ?_)
    refine q_step 10 22 [(0, .ref 70), (1, .int (88 : Int32)), (2, .int (0 : Int32)), (3, .int (Int32.ofNat i))] [.int ((0 : Int32) + (Int32.ofNat i)), .ref 71, .int ((88 : Int32) + (Int32.ofNat i)), .ref 71] (s_cps 88 0 i g) u (fun big n0 => sg_sx_6 big n0 (s_cps 88 0 i g) u (Int32.ofNat i)) ?_
    refine q_iald (j := (0 + i)) (s_rixn (K := 0) (i := i) (by omega)) rfl rfl ?_
    refine q_iast (j := (88 + i)) (s_rixn (K := 88) (i := i) (by omega)) rfl rfl ?_
    refine q_step 2 2 [(0, .ref 70), (1, .int (88 : Int32)), (2, .int (0 : Int32)), (3, .int ((Int32.ofNat i) + (1 : Int32)))] [] (q_up (s_cps 88 0 i g) 71 (88 + i) ((s_cps 88 0 i g) 71 (0 + i))) u (fun big n0 => sg_sx_7 big n0 (q_up (s_cps 88 0 i g) 71 (88 + i) ((s_cps 88 0 i g) 71 (0 + i))) u (Int32.ofNat i)) ?_
    rw [q_succ, show (q_up (s_cps 88 0 i g) 71 (88 + i) ((s_cps 88 0 i g) 71 (0 + i))) = s_cps 88 0 (i + 1) g from by
      rw [s_cps_r (by omega) (by omega)]
      exact s_cps_s]
    exact ih (i + 1) (by omega)
theorem b_cps88_0 (g : qM) (u : qW) : q_BS 217 [.ref 70, .int (88 : Int32), .int (0 : Int32)] g u (none, s_cps 88 0 44 g, u) := by
  refine q_bx (mm := m_217) rfl (Nat.le_of_ble_eq_true rfl) rfl ?_
  refine q_step 2 2 [(0, .ref 70), (1, .int (88 : Int32)), (2, .int (0 : Int32)), (3, .int (0 : Int32))] [] g u (fun big n0 => sg_sx_8 big n0 g u) ?_
  have e := cs_88_0 g u 44 0 (by omega)
  rw [s_cps_0] at e
  exact e
theorem cs_0_44 (g : qM) (u : qW) : ∀ k i, i + k = 44 → q_EV m_217 2 [(0, .ref 70), (1, .int (0 : Int32)), (2, .int (44 : Int32)), (3, .int (Int32.ofNat i))] [] (s_cps 0 44 i g) u (fun R => R = (none, s_cps 0 44 44 g, u)) := by
  intro k
  induction k with
  | zero =>
    intro i hi
    refine q_step 2 5 [(0, .ref 70), (1, .int (0 : Int32)), (2, .int (44 : Int32)), (3, .int (Int32.ofNat i))] [.int (44 : Int32), .int (Int32.ofNat i)] (s_cps 0 44 i g) u (fun big n0 => sg_sx_9 big n0 (s_cps 0 44 i g) u (Int32.ofNat i)) ?_
    refine q_ic_ge rfl (fun (hc0 : (44 : Int32) ≤ (Int32.ofNat i)) => ?_) (fun hc0 => absurd (show (44 : Int32) ≤ (Int32.ofNat i) from by have z : i = 44 := hi; exact (q_le (i := 44) (j := i) (by omega) (by omega)).mpr (by omega)) hc0)
    refine q_ret 1 (none, (s_cps 0 44 i g), u) (fun _ _ => rfl) ?_
    rw [show i = 44 from hi]
  | succ k ih =>
    intro i hi
    refine q_step 2 5 [(0, .ref 70), (1, .int (0 : Int32)), (2, .int (44 : Int32)), (3, .int (Int32.ofNat i))] [.int (44 : Int32), .int (Int32.ofNat i)] (s_cps 0 44 i g) u (fun big n0 => sg_sx_9 big n0 (s_cps 0 44 i g) u (Int32.ofNat i)) ?_
    refine q_ic_ge rfl (fun hc0 => absurd (show (44 : Int32) ≤ (Int32.ofNat i) from hc0) (fun z => absurd ((q_le (i := 44) (j := i) (by omega) (by omega)).mp z) (by omega))) (fun (hc0 : ¬ ((44 : Int32) ≤ (Int32.ofNat i))) => ?_)
    refine q_step 10 22 [(0, .ref 70), (1, .int (0 : Int32)), (2, .int (44 : Int32)), (3, .int (Int32.ofNat i))] [.int ((44 : Int32) + (Int32.ofNat i)), .ref 71, .int ((0 : Int32) + (Int32.ofNat i)), .ref 71] (s_cps 0 44 i g) u (fun big n0 => sg_sx_10 big n0 (s_cps 0 44 i g) u (Int32.ofNat i)) ?_
    refine q_iald (j := (44 + i)) (s_rixn (K := 44) (i := i) (by omega)) rfl rfl ?_
    refine q_iast (j := (0 + i)) (s_rixn (K := 0) (i := i) (by omega)) rfl rfl ?_
    refine q_step 2 2 [(0, .ref 70), (1, .int (0 : Int32)), (2, .int (44 : Int32)), (3, .int ((Int32.ofNat i) + (1 : Int32)))] [] (q_up (s_cps 0 44 i g) 71 (0 + i) ((s_cps 0 44 i g) 71 (44 + i))) u (fun big n0 => sg_sx_11 big n0 (q_up (s_cps 0 44 i g) 71 (0 + i) ((s_cps 0 44 i g) 71 (44 + i))) u (Int32.ofNat i)) ?_
    rw [q_succ, show (q_up (s_cps 0 44 i g) 71 (0 + i) ((s_cps 0 44 i g) 71 (44 + i))) = s_cps 0 44 (i + 1) g from by
      rw [s_cps_r (by omega) (by omega)]
      exact s_cps_s]
    exact ih (i + 1) (by omega)
theorem b_cps0_44 (g : qM) (u : qW) : q_BS 217 [.ref 70, .int (0 : Int32), .int (44 : Int32)] g u (none, s_cps 0 44 44 g, u) := by
  refine q_bx (mm := m_217) rfl (Nat.le_of_ble_eq_true rfl) rfl ?_
  refine q_step 2 2 [(0, .ref 70), (1, .int (0 : Int32)), (2, .int (44 : Int32)), (3, .int (0 : Int32))] [] g u (fun big n0 => sg_sx_12 big n0 g u) ?_
  have e := cs_0_44 g u 44 0 (by omega)
  rw [s_cps_0] at e
  exact e
theorem cs_0_88 (g : qM) (u : qW) : ∀ k i, i + k = 44 → q_EV m_217 2 [(0, .ref 70), (1, .int (0 : Int32)), (2, .int (88 : Int32)), (3, .int (Int32.ofNat i))] [] (s_cps 0 88 i g) u (fun R => R = (none, s_cps 0 88 44 g, u)) := by
  intro k
  induction k with
  | zero =>
    intro i hi
    refine q_step 2 5 [(0, .ref 70), (1, .int (0 : Int32)), (2, .int (88 : Int32)), (3, .int (Int32.ofNat i))] [.int (44 : Int32), .int (Int32.ofNat i)] (s_cps 0 88 i g) u (fun big n0 => sg_sx_13 big n0 (s_cps 0 88 i g) u (Int32.ofNat i)) ?_
    refine q_ic_ge rfl (fun (hc0 : (44 : Int32) ≤ (Int32.ofNat i)) => ?_) (fun hc0 => absurd (show (44 : Int32) ≤ (Int32.ofNat i) from by have z : i = 44 := hi; exact (q_le (i := 44) (j := i) (by omega) (by omega)).mpr (by omega)) hc0)
    refine q_ret 1 (none, (s_cps 0 88 i g), u) (fun _ _ => rfl) ?_
    rw [show i = 44 from hi]
  | succ k ih =>
    intro i hi
    refine q_step 2 5 [(0, .ref 70), (1, .int (0 : Int32)), (2, .int (88 : Int32)), (3, .int (Int32.ofNat i))] [.int (44 : Int32), .int (Int32.ofNat i)] (s_cps 0 88 i g) u (fun big n0 => sg_sx_13 big n0 (s_cps 0 88 i g) u (Int32.ofNat i)) ?_
    refine q_ic_ge rfl (fun hc0 => absurd (show (44 : Int32) ≤ (Int32.ofNat i) from hc0) (fun z => absurd ((q_le (i := 44) (j := i) (by omega) (by omega)).mp z) (by omega))) (fun (hc0 : ¬ ((44 : Int32) ≤ (Int32.ofNat i))) => ?_)
    refine q_step 10 22 [(0, .ref 70), (1, .int (0 : Int32)), (2, .int (88 : Int32)), (3, .int (Int32.ofNat i))] [.int ((88 : Int32) + (Int32.ofNat i)), .ref 71, .int ((0 : Int32) + (Int32.ofNat i)), .ref 71] (s_cps 0 88 i g) u (fun big n0 => sg_sx_14 big n0 (s_cps 0 88 i g) u (Int32.ofNat i)) ?_
    refine q_iald (j := (88 + i)) (s_rixn (K := 88) (i := i) (by omega)) rfl rfl ?_
    refine q_iast (j := (0 + i)) (s_rixn (K := 0) (i := i) (by omega)) rfl rfl ?_
    refine q_step 2 2 [(0, .ref 70), (1, .int (0 : Int32)), (2, .int (88 : Int32)), (3, .int ((Int32.ofNat i) + (1 : Int32)))] [] (q_up (s_cps 0 88 i g) 71 (0 + i) ((s_cps 0 88 i g) 71 (88 + i))) u (fun big n0 => sg_sx_15 big n0 (q_up (s_cps 0 88 i g) 71 (0 + i) ((s_cps 0 88 i g) 71 (88 + i))) u (Int32.ofNat i)) ?_
    rw [q_succ, show (q_up (s_cps 0 88 i g) 71 (0 + i) ((s_cps 0 88 i g) 71 (88 + i))) = s_cps 0 88 (i + 1) g from by
      rw [s_cps_r (by omega) (by omega)]
      exact s_cps_s]
    exact ih (i + 1) (by omega)
theorem b_cps0_88 (g : qM) (u : qW) : q_BS 217 [.ref 70, .int (0 : Int32), .int (88 : Int32)] g u (none, s_cps 0 88 44 g, u) := by
  refine q_bx (mm := m_217) rfl (Nat.le_of_ble_eq_true rfl) rfl ?_
  refine q_step 2 2 [(0, .ref 70), (1, .int (0 : Int32)), (2, .int (88 : Int32)), (3, .int (0 : Int32))] [] g u (fun big n0 => sg_sx_16 big n0 g u) ?_
  have e := cs_0_88 g u 44 0 (by omega)
  rw [s_cps_0] at e
  exact e
theorem rg_keep0 (g : qM) (u : qW) : q_BS 216 [.ref 70, .int (0 : Int32)] g u (some (.int (if g 72 0 = 0 then (0 : Int32) else 1)), s_cps 44 0 44 (q_up g 72 0 1), u) := by
  refine q_bx (mm := m_216) rfl (Nat.le_of_ble_eq_true rfl) rfl ?_
  refine q_step 4 4 [(0, .ref 70), (1, .int (0 : Int32))] [.long (1 : Int64), .long (0 : Int64), .long (0 : Int64)] g u (fun big n0 => sg_sx_17 big n0 g u) ?_
  refine q_call (M2 := 149) (rest := []) (show q_BS 149 [.long (0 : Int64), .long (0 : Int64), .long (1 : Int64)] g u (some (.int 1), g, u) from b_in _ _ _ _ _) (fun _ _ => rfl) ?_
  refine q_step 5 18 [(0, .ref 70), (1, .int (0 : Int32))] [.int (g 72 0)] g u (fun big n0 => sg_sx_18 big n0 g u) ?_
  refine q_call (M2 := 164) (rest := []) (b_flag _ _ _) (fun _ _ => rfl) ?_
  refine q_step 13 37 [(0, .ref 70), (1, .int (0 : Int32)), (2, .int (if (g 72 0) = 0 then (0 : Int32) else 1))] [.int (0 : Int32), .int (44 : Int32), .ref 70] (q_up g 72 0 ((1 : Int32) &&& 1)) u (fun big n0 => sg_sx_19 big n0 g u (if (g 72 0) = 0 then (0 : Int32) else 1)) ?_
  refine q_call (M2 := 217) (rest := []) (b_cps44_0 (q_up g 72 0 ((1 : Int32) &&& 1)) u) (fun _ _ => rfl) ?_
  refine q_ret 2 (some (.int (if (g 72 0) = 0 then (0 : Int32) else 1)), (s_cps 44 0 44 (q_up g 72 0 ((1 : Int32) &&& 1))), u) (fun _ _ => rfl) ?_
  rfl
theorem rg_back0 (g : qM) (u : qW) (hk : ¬ g 72 0 = 0) : q_BS 218 [.ref 70, .int (0 : Int32)] g u (some (.int ((s_cps 0 44 44 g) 71 26)), s_cps 0 44 44 g, u) := by
  refine q_bx (mm := m_218) rfl (Nat.le_of_ble_eq_true rfl) rfl ?_
  refine q_step 4 4 [(0, .ref 70), (1, .int (0 : Int32))] [.long (1 : Int64), .long (0 : Int64), .long (0 : Int64)] g u (fun big n0 => sg_sx_20 big n0 g u) ?_
  refine q_call (M2 := 149) (rest := []) (show q_BS 149 [.long (0 : Int64), .long (0 : Int64), .long (1 : Int64)] g u (some (.int 1), g, u) from b_in _ _ _ _ _) (fun _ _ => rfl) ?_
  refine q_step 5 18 [(0, .ref 70), (1, .int (0 : Int32))] [.int (g 72 0)] g u (fun big n0 => sg_sx_21 big n0 g u) ?_
  refine q_if_ne rfl (fun hc0 => absurd (show (g 72 0) = 0 from hc0) (hk)) (fun (hc0 : ¬ ((g 72 0) = 0)) => ?_)
  refine q_step 7 32 [(0, .ref 70), (1, .int (0 : Int32))] [.int (44 : Int32), .int (0 : Int32), .ref 70] g u (fun big n0 => sg_sx_22 big n0 g u) ?_
  refine q_call (M2 := 217) (rest := []) (b_cps0_44 g u) (fun _ _ => rfl) ?_
  refine q_ret 5 (some (.int ((s_cps 0 44 44 g) 71 26)), (s_cps 0 44 44 g), u) (fun _ _ => rfl) ?_
  rfl
theorem rg_back0n (g : qM) (u : qW) (hk : g 72 0 = 0) : q_BS 218 [.ref 70, .int (0 : Int32)] g u (some (.int (Int32.ofInt (-2))), g, u) := by
  refine q_bx (mm := m_218) rfl (Nat.le_of_ble_eq_true rfl) rfl ?_
  refine q_step 4 4 [(0, .ref 70), (1, .int (0 : Int32))] [.long (1 : Int64), .long (0 : Int64), .long (0 : Int64)] g u (fun big n0 => sg_sx_20 big n0 g u) ?_
  refine q_call (M2 := 149) (rest := []) (show q_BS 149 [.long (0 : Int64), .long (0 : Int64), .long (1 : Int64)] g u (some (.int 1), g, u) from b_in _ _ _ _ _) (fun _ _ => rfl) ?_
  refine q_step 5 18 [(0, .ref 70), (1, .int (0 : Int32))] [.int (g 72 0)] g u (fun big n0 => sg_sx_21 big n0 g u) ?_
  refine q_if_ne rfl (fun (hc0 : (g 72 0) = 0) => ?_) (fun hc0 => absurd (show (g 72 0) = 0 from hk) hc0)
  refine q_ret 2 (some (.int (Int8.toInt32 (Int8.ofInt (-2)))), g, u) (fun _ _ => rfl) ?_
  rfl
theorem rg_keep1 (g : qM) (u : qW) : q_BS 216 [.ref 70, .int (1 : Int32)] g u (some (.int (if g 72 1 = 0 then (0 : Int32) else 1)), s_cps 88 0 44 (q_up g 72 1 1), u) := by
  refine q_bx (mm := m_216) rfl (Nat.le_of_ble_eq_true rfl) rfl ?_
  refine q_step 4 4 [(0, .ref 70), (1, .int (1 : Int32))] [.long (1 : Int64), .long (0 : Int64), .long (1 : Int64)] g u (fun big n0 => sg_sx_23 big n0 g u) ?_
  refine q_call (M2 := 149) (rest := []) (show q_BS 149 [.long (1 : Int64), .long (0 : Int64), .long (1 : Int64)] g u (some (.int 1), g, u) from b_in _ _ _ _ _) (fun _ _ => rfl) ?_
  refine q_step 5 18 [(0, .ref 70), (1, .int (1 : Int32))] [.int (g 72 1)] g u (fun big n0 => sg_sx_24 big n0 g u) ?_
  refine q_call (M2 := 164) (rest := []) (b_flag _ _ _) (fun _ _ => rfl) ?_
  refine q_step 13 37 [(0, .ref 70), (1, .int (1 : Int32)), (2, .int (if (g 72 1) = 0 then (0 : Int32) else 1))] [.int (0 : Int32), .int (88 : Int32), .ref 70] (q_up g 72 1 ((1 : Int32) &&& 1)) u (fun big n0 => sg_sx_25 big n0 g u (if (g 72 1) = 0 then (0 : Int32) else 1)) ?_
  refine q_call (M2 := 217) (rest := []) (b_cps88_0 (q_up g 72 1 ((1 : Int32) &&& 1)) u) (fun _ _ => rfl) ?_
  refine q_ret 2 (some (.int (if (g 72 1) = 0 then (0 : Int32) else 1)), (s_cps 88 0 44 (q_up g 72 1 ((1 : Int32) &&& 1))), u) (fun _ _ => rfl) ?_
  rfl
theorem rg_back1 (g : qM) (u : qW) (hk : ¬ g 72 1 = 0) : q_BS 218 [.ref 70, .int (1 : Int32)] g u (some (.int ((s_cps 0 88 44 g) 71 26)), s_cps 0 88 44 g, u) := by
  refine q_bx (mm := m_218) rfl (Nat.le_of_ble_eq_true rfl) rfl ?_
  refine q_step 4 4 [(0, .ref 70), (1, .int (1 : Int32))] [.long (1 : Int64), .long (0 : Int64), .long (1 : Int64)] g u (fun big n0 => sg_sx_26 big n0 g u) ?_
  refine q_call (M2 := 149) (rest := []) (show q_BS 149 [.long (1 : Int64), .long (0 : Int64), .long (1 : Int64)] g u (some (.int 1), g, u) from b_in _ _ _ _ _) (fun _ _ => rfl) ?_
  refine q_step 5 18 [(0, .ref 70), (1, .int (1 : Int32))] [.int (g 72 1)] g u (fun big n0 => sg_sx_27 big n0 g u) ?_
  refine q_if_ne rfl (fun hc0 => absurd (show (g 72 1) = 0 from hc0) (hk)) (fun (hc0 : ¬ ((g 72 1) = 0)) => ?_)
  refine q_step 7 32 [(0, .ref 70), (1, .int (1 : Int32))] [.int (88 : Int32), .int (0 : Int32), .ref 70] g u (fun big n0 => sg_sx_28 big n0 g u) ?_
  refine q_call (M2 := 217) (rest := []) (b_cps0_88 g u) (fun _ _ => rfl) ?_
  refine q_ret 5 (some (.int ((s_cps 0 88 44 g) 71 26)), (s_cps 0 88 44 g), u) (fun _ _ => rfl) ?_
  rfl
theorem rg_back1n (g : qM) (u : qW) (hk : g 72 1 = 0) : q_BS 218 [.ref 70, .int (1 : Int32)] g u (some (.int (Int32.ofInt (-2))), g, u) := by
  refine q_bx (mm := m_218) rfl (Nat.le_of_ble_eq_true rfl) rfl ?_
  refine q_step 4 4 [(0, .ref 70), (1, .int (1 : Int32))] [.long (1 : Int64), .long (0 : Int64), .long (1 : Int64)] g u (fun big n0 => sg_sx_26 big n0 g u) ?_
  refine q_call (M2 := 149) (rest := []) (show q_BS 149 [.long (1 : Int64), .long (0 : Int64), .long (1 : Int64)] g u (some (.int 1), g, u) from b_in _ _ _ _ _) (fun _ _ => rfl) ?_
  refine q_step 5 18 [(0, .ref 70), (1, .int (1 : Int32))] [.int (g 72 1)] g u (fun big n0 => sg_sx_27 big n0 g u) ?_
  refine q_if_ne rfl (fun (hc0 : (g 72 1) = 0) => ?_) (fun hc0 => absurd (show (g 72 1) = 0 from hk) hc0)
  refine q_ret 2 (some (.int (Int8.toInt32 (Int8.ofInt (-2)))), g, u) (fun _ _ => rfl) ?_
  rfl
theorem b_ris0 (g : qM) (u : qW) {l : Nat} (hl : l ≤ 2) : q_BS 220 [.int (0 : Int32), .int (Int32.ofNat l)] g u (some (.int 1), g, u) := by
  refine q_bx (mm := m_220) rfl (Nat.le_of_ble_eq_true rfl) rfl ?_
  refine q_step 4 6 [(0, .int (0 : Int32)), (1, .int (Int32.ofNat l))] [.long (3 : Int64), .long (0 : Int64), .long (0 : Int64)] g u (fun big n0 => sg_sx_29 big n0 g u (Int32.ofNat l)) ?_
  refine q_call (M2 := 149) (rest := []) (show q_BS 149 [.long (0 : Int64), .long (0 : Int64), .long (3 : Int64)] g u (some (.int 1), g, u) from b_in _ _ _ _ _) (fun _ _ => rfl) ?_
  refine q_step 5 18 [(0, .int (0 : Int32)), (1, .int (Int32.ofNat l))] [.long (2 : Int64), .long (0 : Int64), .long (Int32.toInt64 (Int32.ofNat l))] g u (fun big n0 => sg_sx_30 big n0 g u (Int32.ofNat l)) ?_
  refine q_call (M2 := 149) (rest := []) (b_in1 (m := l) (lo := 0) (hi := 2) g u (by omega) (by omega) (by omega)) (fun _ _ => rfl) ?_
  refine q_ret 4 (some (.int (1 : Int32)), g, u) (fun _ _ => rfl) ?_
  rfl
theorem zr_0 (g : qM) (u : qW) {l z : Nat} : ∀ k i, i + k = 40 → q_EV m_219 40 [(0, .ref 70), (1, .int (0 : Int32)), (2, .int (Int32.ofNat l)), (3, .int (Int32.ofNat z)), (4, .int (Int32.ofNat i))] [] (s_zr 0 i g) u (fun R => R = (some (.int 1), s_zr 0 40 g, u)) := by
  intro k
  induction k with
  | zero =>
    intro i hi
    refine q_step 2 44 [(0, .ref 70), (1, .int (0 : Int32)), (2, .int (Int32.ofNat l)), (3, .int (Int32.ofNat z)), (4, .int (Int32.ofNat i))] [.int (40 : Int32), .int (Int32.ofNat i)] (s_zr 0 i g) u (fun big n0 => sg_sx_31 big n0 (s_zr 0 i g) u (Int32.ofNat l) (Int32.ofNat z) (Int32.ofNat i)) ?_
    refine q_ic_ge rfl (fun (hc0 : (40 : Int32) ≤ (Int32.ofNat i)) => ?_) (fun hc0 => absurd (show (40 : Int32) ≤ (Int32.ofNat i) from by have z : i = 40 := hi; exact (q_le (i := 40) (j := i) (by omega) (by omega)).mpr (by omega)) hc0)
    refine q_ret 2 (some (.int (1 : Int32)), (s_zr 0 i g), u) (fun _ _ => rfl) ?_
    rw [show i = 40 from hi]
  | succ k ih =>
    intro i hi
    refine q_step 2 44 [(0, .ref 70), (1, .int (0 : Int32)), (2, .int (Int32.ofNat l)), (3, .int (Int32.ofNat z)), (4, .int (Int32.ofNat i))] [.int (40 : Int32), .int (Int32.ofNat i)] (s_zr 0 i g) u (fun big n0 => sg_sx_31 big n0 (s_zr 0 i g) u (Int32.ofNat l) (Int32.ofNat z) (Int32.ofNat i)) ?_
    refine q_ic_ge rfl (fun hc0 => absurd (show (40 : Int32) ≤ (Int32.ofNat i) from hc0) (fun z => absurd ((q_le (i := 40) (j := i) (by omega) (by omega)).mp z) (by omega))) (fun (hc0 : ¬ ((40 : Int32) ≤ (Int32.ofNat i))) => ?_)
    refine q_step 8 59 [(0, .ref 70), (1, .int (0 : Int32)), (2, .int (Int32.ofNat l)), (3, .int (Int32.ofNat z)), (4, .int (Int32.ofNat i))] [.int (0 : Int32), .int ((0 : Int32) + (Int32.ofNat i)), .ref 86] (s_zr 0 i g) u (fun big n0 => sg_sx_32 big n0 (s_zr 0 i g) u (Int32.ofNat l) (Int32.ofNat z) (Int32.ofNat i)) ?_
    refine q_iast (j := (0 + i)) (s_rixk (K := 0) (i := i) (by omega)) rfl rfl ?_
    refine q_step 2 40 [(0, .ref 70), (1, .int (0 : Int32)), (2, .int (Int32.ofNat l)), (3, .int (Int32.ofNat z)), (4, .int ((Int32.ofNat i) + (1 : Int32)))] [] (q_up (s_zr 0 i g) 86 (0 + i) (0 : Int32)) u (fun big n0 => sg_sx_33 big n0 (q_up (s_zr 0 i g) 86 (0 + i) (0 : Int32)) u (Int32.ofNat l) (Int32.ofNat z) (Int32.ofNat i)) ?_
    rw [q_succ, show (q_up (s_zr 0 i g) 86 (0 + i) (0 : Int32)) = s_zr 0 (i + 1) g from s_zr_s]
    exact ih (i + 1) (by omega)
theorem rg_sheet0 (g : qM) (u : qW) {l z : Nat} (hl : l ≤ 2) (hz : z ≤ 40) : q_BS 219 [.ref 70, .int (0 : Int32), .int (Int32.ofNat l), .int (Int32.ofNat z)] g u (some (.int 1), s_zr 0 40 (q_up (q_up g 84 0 (Int32.ofNat l)) 85 0 (Int32.ofNat z)), u) := by
  refine q_bx (mm := m_219) rfl (Nat.le_of_ble_eq_true rfl) rfl ?_
  refine q_step 2 2 [(0, .ref 70), (1, .int (0 : Int32)), (2, .int (Int32.ofNat l)), (3, .int (Int32.ofNat z))] [.int (Int32.ofNat l), .int (0 : Int32)] g u (fun big n0 => sg_sx_34 big n0 g u (Int32.ofNat l) (Int32.ofNat z)) ?_
  refine q_call (M2 := 220) (rest := []) (b_ris0 g u hl) (fun _ _ => rfl) ?_
  refine q_step 3 11 [(0, .ref 70), (1, .int (0 : Int32)), (2, .int (Int32.ofNat l)), (3, .int (Int32.ofNat z))] [.int (40 : Int32), .int (Int32.ofNat z)] g u (fun big n0 => sg_sx_35 big n0 g u (Int32.ofNat l) (Int32.ofNat z)) ?_
  refine q_ic_le rfl (fun (hc0 : (Int32.ofNat z) ≤ (40 : Int32)) => ?_) (fun hc0 => absurd (show (Int32.ofNat z) ≤ (40 : Int32) from (q_le (i := z) (j := 40) (by omega) (by omega)).mpr (by omega)) hc0)
  refine q_step 1 17 [(0, .ref 70), (1, .int (0 : Int32)), (2, .int (Int32.ofNat l)), (3, .int (Int32.ofNat z))] [.int (Int32.ofNat z)] g u (fun big n0 => sg_sx_36 big n0 g u (Int32.ofNat l) (Int32.ofNat z)) ?_
  refine q_if_ge rfl (fun (hc1 : 0 ≤ (Int32.ofNat z)) => ?_) (fun hc1 => absurd (show 0 ≤ (Int32.ofNat z) from by rw [Int32.le_iff_toInt_le, q_nat (by omega)]; exact Int.natCast_nonneg z) hc1)
  refine q_step 12 40 [(0, .ref 70), (1, .int (0 : Int32)), (2, .int (Int32.ofNat l)), (3, .int (Int32.ofNat z)), (4, .int (0 : Int32))] [] (q_up (q_up g 84 0 (Int32.ofNat l)) 85 0 (Int32.ofNat z)) u (fun big n0 => sg_sx_37 big n0 g u (Int32.ofNat l) (Int32.ofNat z)) ?_
  have e := zr_0 (q_up (q_up g 84 0 (Int32.ofNat l)) 85 0 (Int32.ofNat z)) u (l := l) (z := z) 40 0 (by omega)
  rw [s_zr_0] at e
  exact e
theorem rg_sheetn0 (g : qM) (u : qW) {l : Nat} {y : Int32} (hl : l ≤ 2) (hy : y < 0) : q_BS 219 [.ref 70, .int (0 : Int32), .int (Int32.ofNat l), .int y] g u (some (.int (Int8.toInt32 (Int8.ofInt (-14)))), g, u) := by
  refine q_bx (mm := m_219) rfl (Nat.le_of_ble_eq_true rfl) rfl ?_
  refine q_step 2 2 [(0, .ref 70), (1, .int (0 : Int32)), (2, .int (Int32.ofNat l)), (3, .int y)] [.int (Int32.ofNat l), .int (0 : Int32)] g u (fun big n0 => sg_sx_34 big n0 g u (Int32.ofNat l) y) ?_
  refine q_call (M2 := 220) (rest := []) (b_ris0 g u hl) (fun _ _ => rfl) ?_
  refine q_step 3 11 [(0, .ref 70), (1, .int (0 : Int32)), (2, .int (Int32.ofNat l)), (3, .int y)] [.int (40 : Int32), .int y] g u (fun big n0 => sg_sx_35 big n0 g u (Int32.ofNat l) y) ?_
  refine q_ic_le rfl (fun (hc0 : y ≤ (40 : Int32)) => ?_) (fun hc0 => absurd (show y ≤ (40 : Int32) from by have z := Int32.lt_iff_toInt_lt.mp hy; rw [Int32.le_iff_toInt_le]; have z0 : (0 : Int32).toInt = 0 := rfl; have z4 : (40 : Int32).toInt = 40 := rfl; omega) hc0)
  refine q_step 1 17 [(0, .ref 70), (1, .int (0 : Int32)), (2, .int (Int32.ofNat l)), (3, .int y)] [.int y] g u (fun big n0 => sg_sx_36 big n0 g u (Int32.ofNat l) y) ?_
  refine q_if_ge rfl (fun hc1 => absurd (show 0 ≤ y from hc1) (Int32.not_le.mpr hy)) (fun (hc1 : ¬ (0 ≤ y)) => ?_)
  refine q_ret 2 (some (.int (Int8.toInt32 (Int8.ofInt (-14)))), g, u) (fun _ _ => rfl) ?_
  rfl
theorem cw_write0 (g : qM) (u : qW) {i z : Nat} {v : Int32} (hz : z ≤ 40) (hsz : g 62 1 = Int32.ofNat z) (hi : i < z) : q_BS 137 [.ref 62, .int (Int32.ofNat i), .int v] g u (none, q_up g 63 i (s_ln (g 62 2) v), u) := by
  refine q_bx (mm := m_137) rfl (Nat.le_of_ble_eq_true rfl) rfl ?_
  refine q_step 1 1 [(0, .ref 62), (1, .int (Int32.ofNat i)), (2, .int v)] [.int (Int32.ofNat i)] g u (fun big n0 => sg_sx_38 big n0 g u (Int32.ofNat i) v) ?_
  refine q_if_lt rfl (fun hc0 => absurd (show (Int32.ofNat i) < 0 from hc0) (fun z => absurd ((q_lt (i := i) (j := 0) (by omega) (by omega)).mp z) (by omega))) (fun (hc0 : ¬ ((Int32.ofNat i) < 0)) => ?_)
  refine q_step 3 9 [(0, .ref 62), (1, .int (Int32.ofNat i)), (2, .int v)] [.int (g 62 1), .int (Int32.ofNat i)] g u (fun big n0 => sg_sx_39 big n0 g u (Int32.ofNat i) v) ?_
  refine q_ic_ge rfl (fun hc1 => absurd (show (g 62 1) ≤ (Int32.ofNat i) from hc1) (by rw [hsz]; exact fun q => absurd ((q_le (i := z) (j := i) (by omega) (by omega)).mp q) (by omega))) (fun (hc1 : ¬ ((g 62 1) ≤ (Int32.ofNat i))) => ?_)
  refine q_step 5 21 [(0, .ref 62), (1, .int (Int32.ofNat i)), (2, .int v)] [.int (g 62 2), .int (Int32.ofNat i), .ref 63] g u (fun big n0 => sg_sx_40 big n0 g u (Int32.ofNat i) v) ?_
  refine q_if_ne rfl (fun (hc2 : (g 62 2) = 0) => ?_) (fun (hc2 : ¬ ((g 62 2) = 0)) => ?_)
  · refine q_step 3 43 [(0, .ref 62), (1, .int (Int32.ofNat i)), (2, .int v)] [.int (Int8.toInt32 (Int32.toInt8 v)), .int (Int32.ofNat i), .ref 63] g u (fun big n0 => sg_sx_41 big n0 g u (Int32.ofNat i) v (Int32.ofNat i)) ?_
    refine q_iast (j := i) (q_ixn (by omega) (by omega)) rfl rfl ?_
    refine q_ret 1 (none, (q_up g 63 i (Int8.toInt32 (Int32.toInt8 v))), u) (fun _ _ => rfl) ?_
    unfold s_ln
    rw [if_pos hc2]
  · refine q_step 3 34 [(0, .ref 62), (1, .int (Int32.ofNat i)), (2, .int v)] [.int (1 : Int32), .int (g 62 2), .int (Int32.ofNat i), .ref 63] g u (fun big n0 => sg_sx_42 big n0 g u (Int32.ofNat i) v (Int32.ofNat i)) ?_
    refine q_ic_ne rfl (fun (hc3 : (g 62 2) = (1 : Int32)) => ?_) (fun (hc3 : ¬ ((g 62 2) = (1 : Int32))) => ?_)
    · refine q_step 3 43 [(0, .ref 62), (1, .int (Int32.ofNat i)), (2, .int v)] [.int (Int16.toInt32 (Int32.toInt16 v)), .int (Int32.ofNat i), .ref 63] g u (fun big n0 => sg_sx_43 big n0 g u (Int32.ofNat i) v (Int32.ofNat i)) ?_
      refine q_iast (j := i) (q_ixn (by omega) (by omega)) rfl rfl ?_
      refine q_ret 1 (none, (q_up g 63 i (Int16.toInt32 (Int32.toInt16 v))), u) (fun _ _ => rfl) ?_
      unfold s_ln
      rw [if_neg hc2, if_pos hc3]
    · refine q_step 1 43 [(0, .ref 62), (1, .int (Int32.ofNat i)), (2, .int v)] [.int v, .int (Int32.ofNat i), .ref 63] g u (fun big n0 => sg_sx_44 big n0 g u (Int32.ofNat i) v (Int32.ofNat i)) ?_
      refine q_iast (j := i) (q_ixn (by omega) (by omega)) rfl rfl ?_
      refine q_ret 1 (none, (q_up g 63 i v), u) (fun _ _ => rfl) ?_
      unfold s_ln
      rw [if_neg hc2, if_neg hc3]
theorem cg_lay0 (g : qM) (u : qW) {i z : Nat} {v : Int32} (hz : z ≤ 40) (hsz : g 62 1 = Int32.ofNat z) (hi : i < z) (hf : d_faultAt0 (Int32.ofNat i) g = 0) : q_BS 134 [.ref 8, .int (0 : Int32), .int (Int32.ofNat i), .int v] g u (some (.int 1), q_up g 63 i (s_ln (g 62 2) v), u) := by
  refine q_bx (mm := m_134) rfl (Nat.le_of_ble_eq_true rfl) rfl ?_
  refine q_step 1 1 [(0, .ref 8), (1, .int (0 : Int32)), (2, .int (Int32.ofNat i)), (3, .int v)] [.int (0 : Int32)] g u (fun big n0 => sg_sx_45 big n0 g u (Int32.ofNat i) v) ?_
  refine q_call (M2 := 131) (rest := []) (show q_BS 131 [.int (0 : Int32)] g u (some (.int 1), g, u) from b_isSheet _ g u) (fun _ _ => rfl) ?_
  refine q_step 6 16 [(0, .ref 8), (1, .int (0 : Int32)), (2, .int (Int32.ofNat i)), (3, .int v)] [.int (Int32.ofNat i), .ref 62] g u (fun big n0 => sg_sx_46 big n0 g u (Int32.ofNat i) v) ?_
  have hfa := b_faultAt0 ((Int32.ofNat i)) g u
  rw [hf] at hfa
  refine q_call (M2 := 135) (rest := []) (hfa) (fun _ _ => rfl) ?_
  refine q_step 9 40 [(0, .ref 8), (1, .int (0 : Int32)), (2, .int (Int32.ofNat i)), (3, .int v), (4, .int (0 : Int32))] [.int v, .int (Int32.ofNat i), .ref 62] g u (fun big n0 => sg_sx_47 big n0 g u (Int32.ofNat i) v) ?_
  refine q_call (M2 := 137) (rest := []) (cw_write0 g u hz hsz hi) (fun _ _ => rfl) ?_
  refine q_ret 2 (some (.int (1 : Int32)), (q_up g 63 i (s_ln (g 62 2) v)), u) (fun _ _ => rfl) ?_
  rfl
theorem cg_lay0f1 (g : qM) (u : qW) {x v : Int32} (hf : d_faultAt0 x g = 1) : q_BS 134 [.ref 8, .int (0 : Int32), .int x, .int v] g u (some (.int (Int8.toInt32 (Int8.ofInt (-11)))), g, u) := by
  refine q_bx (mm := m_134) rfl (Nat.le_of_ble_eq_true rfl) rfl ?_
  refine q_step 1 1 [(0, .ref 8), (1, .int (0 : Int32)), (2, .int x), (3, .int v)] [.int (0 : Int32)] g u (fun big n0 => sg_sx_45 big n0 g u x v) ?_
  refine q_call (M2 := 131) (rest := []) (show q_BS 131 [.int (0 : Int32)] g u (some (.int 1), g, u) from b_isSheet _ g u) (fun _ _ => rfl) ?_
  refine q_step 6 16 [(0, .ref 8), (1, .int (0 : Int32)), (2, .int x), (3, .int v)] [.int x, .ref 62] g u (fun big n0 => sg_sx_46 big n0 g u x v) ?_
  have hfa := b_faultAt0 (x) g u
  rw [hf] at hfa
  refine q_call (M2 := 135) (rest := []) (hfa) (fun _ _ => rfl) ?_
  refine q_ret 7 (some (.int ((Int8.toInt32 (Int8.ofInt (-10))) - (1 : Int32))), g, u) (fun _ _ => rfl) ?_
  rfl
theorem cg_lay0f2 (g : qM) (u : qW) {x v : Int32} (hf : d_faultAt0 x g = 2) : q_BS 134 [.ref 8, .int (0 : Int32), .int x, .int v] g u (some (.int (Int8.toInt32 (Int8.ofInt (-12)))), g, u) := by
  refine q_bx (mm := m_134) rfl (Nat.le_of_ble_eq_true rfl) rfl ?_
  refine q_step 1 1 [(0, .ref 8), (1, .int (0 : Int32)), (2, .int x), (3, .int v)] [.int (0 : Int32)] g u (fun big n0 => sg_sx_45 big n0 g u x v) ?_
  refine q_call (M2 := 131) (rest := []) (show q_BS 131 [.int (0 : Int32)] g u (some (.int 1), g, u) from b_isSheet _ g u) (fun _ _ => rfl) ?_
  refine q_step 6 16 [(0, .ref 8), (1, .int (0 : Int32)), (2, .int x), (3, .int v)] [.int x, .ref 62] g u (fun big n0 => sg_sx_46 big n0 g u x v) ?_
  have hfa := b_faultAt0 (x) g u
  rw [hf] at hfa
  refine q_call (M2 := 135) (rest := []) (hfa) (fun _ _ => rfl) ?_
  refine q_ret 7 (some (.int ((Int8.toInt32 (Int8.ofInt (-10))) - (2 : Int32))), g, u) (fun _ _ => rfl) ?_
  rfl
theorem rg_lay0 (g : qM) (u : qW) {i z l : Nat} {v : Int32} (hz : z ≤ 40) (hl : l ≤ 2) (hsz : g 85 0 = Int32.ofNat z) (hla : g 84 0 = Int32.ofNat l) (hi : i < z) : q_BS 221 [.ref 70, .int (0 : Int32), .int (Int32.ofNat i), .int v] g u (some (.int 1), q_up g 86 (0 + i) (s_ln (g 84 0) v), u) := by
  refine q_bx (mm := m_221) rfl (Nat.le_of_ble_eq_true rfl) rfl ?_
  refine q_step 2 2 [(0, .ref 70), (1, .int (0 : Int32)), (2, .int (Int32.ofNat i)), (3, .int v)] [.int (0 : Int32), .int (0 : Int32)] g u (fun big n0 => sg_sx_48 big n0 g u (Int32.ofNat i) v) ?_
  refine q_call (M2 := 220) (rest := []) (b_ris0 (l := 0) g u (by omega)) (fun _ _ => rfl) ?_
  refine q_step 6 18 [(0, .ref 70), (1, .int (0 : Int32)), (2, .int (Int32.ofNat i)), (3, .int v)] [.int (Int8.toInt32 (Int8.ofInt (-4))), .int (g 84 0)] g u (fun big n0 => sg_sx_49 big n0 g u (Int32.ofNat i) v) ?_
  refine q_ic_ne rfl (fun hc0 => absurd (show (g 84 0) = (Int8.toInt32 (Int8.ofInt (-4))) from hc0) (by rw [hla]; exact q_none_ne (by omega))) (fun (hc0 : ¬ ((g 84 0) = (Int8.toInt32 (Int8.ofInt (-4))))) => ?_)
  refine q_step 10 36 [(0, .ref 70), (1, .int (0 : Int32)), (2, .int (Int32.ofNat i)), (3, .int v)] [.long (Int32.toInt64 ((g 85 0) - (1 : Int32))), .long (0 : Int64), .long (Int32.toInt64 (Int32.ofNat i))] g u (fun big n0 => sg_sx_50 big n0 g u (Int32.ofNat i) v) ?_
  have hin : s_in (Int32.toInt64 (Int32.ofNat i)) (0 : Int64) (Int32.toInt64 ((g 85 0) - (1 : Int32))) = 1 := by
    rcases s_in_01 (Int32.toInt64 (Int32.ofNat i)) (0 : Int64) (Int32.toInt64 ((g 85 0) - (1 : Int32))) with q | q
    · refine absurd q (s_in_i.mpr ?_)
      have e1 : (1 : Int32).toInt = 1 := rfl
      have e0 : (0 : Int64).toInt = 0 := rfl
      rw [Int32.toInt_toInt64, hsz, s_sub (by rw [q_nat (by omega), e1]; omega) (by rw [q_nat (by omega), e1]; omega), q_nat (by omega), q_nat (by omega), e1, e0]
      omega
    · exact q
  refine q_call (M2 := 149) (rest := []) (by have e := b_in (Int32.toInt64 (Int32.ofNat i)) (0 : Int64) (Int32.toInt64 ((g 85 0) - (1 : Int32))) g u; rw [hin] at e; exact e) (fun _ _ => rfl) ?_
  refine q_step 12 61 [(0, .ref 70), (1, .int (0 : Int32)), (2, .int (Int32.ofNat i)), (3, .int v)] [.int (g 84 0), .int ((0 : Int32) + (Int32.ofNat i)), .ref 86] g u (fun big n0 => sg_sx_51 big n0 g u (Int32.ofNat i) v) ?_
  refine q_if_ne rfl (fun (hc1 : (g 84 0) = 0) => ?_) (fun (hc1 : ¬ ((g 84 0) = 0)) => ?_)
  · refine q_step 3 85 [(0, .ref 70), (1, .int (0 : Int32)), (2, .int (Int32.ofNat i)), (3, .int v)] [.int (Int8.toInt32 (Int32.toInt8 v)), .int ((0 : Int32) + (Int32.ofNat i)), .ref 86] g u (fun big n0 => sg_sx_52 big n0 g u (Int32.ofNat i) v ((0 : Int32) + (Int32.ofNat i))) ?_
    refine q_iast (j := (0 + i)) (s_rixk (K := 0) (i := i) (by omega)) rfl rfl ?_
    refine q_ret 2 (some (.int (1 : Int32)), (q_up g 86 (0 + i) (Int8.toInt32 (Int32.toInt8 v))), u) (fun _ _ => rfl) ?_
    unfold s_ln
    rw [if_pos hc1]
  · refine q_step 5 76 [(0, .ref 70), (1, .int (0 : Int32)), (2, .int (Int32.ofNat i)), (3, .int v)] [.int (1 : Int32), .int (g 84 0), .int ((0 : Int32) + (Int32.ofNat i)), .ref 86] g u (fun big n0 => sg_sx_53 big n0 g u (Int32.ofNat i) v ((0 : Int32) + (Int32.ofNat i))) ?_
    refine q_ic_ne rfl (fun (hc2 : (g 84 0) = (1 : Int32)) => ?_) (fun (hc2 : ¬ ((g 84 0) = (1 : Int32))) => ?_)
    · refine q_step 3 85 [(0, .ref 70), (1, .int (0 : Int32)), (2, .int (Int32.ofNat i)), (3, .int v)] [.int (Int16.toInt32 (Int32.toInt16 v)), .int ((0 : Int32) + (Int32.ofNat i)), .ref 86] g u (fun big n0 => sg_sx_54 big n0 g u (Int32.ofNat i) v ((0 : Int32) + (Int32.ofNat i))) ?_
      refine q_iast (j := (0 + i)) (s_rixk (K := 0) (i := i) (by omega)) rfl rfl ?_
      refine q_ret 2 (some (.int (1 : Int32)), (q_up g 86 (0 + i) (Int16.toInt32 (Int32.toInt16 v))), u) (fun _ _ => rfl) ?_
      unfold s_ln
      rw [if_neg hc1, if_pos hc2]
    · refine q_step 1 85 [(0, .ref 70), (1, .int (0 : Int32)), (2, .int (Int32.ofNat i)), (3, .int v)] [.int v, .int ((0 : Int32) + (Int32.ofNat i)), .ref 86] g u (fun big n0 => sg_sx_55 big n0 g u (Int32.ofNat i) v ((0 : Int32) + (Int32.ofNat i))) ?_
      refine q_iast (j := (0 + i)) (s_rixk (K := 0) (i := i) (by omega)) rfl rfl ?_
      refine q_ret 2 (some (.int (1 : Int32)), (q_up g 86 (0 + i) v), u) (fun _ _ => rfl) ?_
      unfold s_ln
      rw [if_neg hc1, if_neg hc2]
theorem rg_lay0f1 (g : qM) (u : qW) {x v : Int32} (hla : g 84 0 = i_none) : q_BS 221 [.ref 70, .int (0 : Int32), .int x, .int v] g u (some (.int (Int8.toInt32 (Int8.ofInt (-11)))), g, u) := by
  refine q_bx (mm := m_221) rfl (Nat.le_of_ble_eq_true rfl) rfl ?_
  refine q_step 2 2 [(0, .ref 70), (1, .int (0 : Int32)), (2, .int x), (3, .int v)] [.int (0 : Int32), .int (0 : Int32)] g u (fun big n0 => sg_sx_48 big n0 g u x v) ?_
  refine q_call (M2 := 220) (rest := []) (b_ris0 (l := 0) g u (by omega)) (fun _ _ => rfl) ?_
  refine q_step 6 18 [(0, .ref 70), (1, .int (0 : Int32)), (2, .int x), (3, .int v)] [.int (Int8.toInt32 (Int8.ofInt (-4))), .int (g 84 0)] g u (fun big n0 => sg_sx_49 big n0 g u x v) ?_
  refine q_ic_ne rfl (fun (hc0 : (g 84 0) = (Int8.toInt32 (Int8.ofInt (-4)))) => ?_) (fun hc0 => absurd (show (g 84 0) = (Int8.toInt32 (Int8.ofInt (-4))) from hla) hc0)
  refine q_ret 2 (some (.int (Int8.toInt32 (Int8.ofInt (-11)))), g, u) (fun _ _ => rfl) ?_
  rfl
theorem rg_lay0f2 (g : qM) (u : qW) {x v : Int32} (hla : ¬ g 84 0 = i_none) (hin : s_in (Int32.toInt64 x) (0 : Int64) (Int32.toInt64 ((g 85 0) - (1 : Int32))) = 0) : q_BS 221 [.ref 70, .int (0 : Int32), .int x, .int v] g u (some (.int (Int8.toInt32 (Int8.ofInt (-12)))), g, u) := by
  refine q_bx (mm := m_221) rfl (Nat.le_of_ble_eq_true rfl) rfl ?_
  refine q_step 2 2 [(0, .ref 70), (1, .int (0 : Int32)), (2, .int x), (3, .int v)] [.int (0 : Int32), .int (0 : Int32)] g u (fun big n0 => sg_sx_48 big n0 g u x v) ?_
  refine q_call (M2 := 220) (rest := []) (b_ris0 (l := 0) g u (by omega)) (fun _ _ => rfl) ?_
  refine q_step 6 18 [(0, .ref 70), (1, .int (0 : Int32)), (2, .int x), (3, .int v)] [.int (Int8.toInt32 (Int8.ofInt (-4))), .int (g 84 0)] g u (fun big n0 => sg_sx_49 big n0 g u x v) ?_
  refine q_ic_ne rfl (fun hc0 => absurd (show (g 84 0) = (Int8.toInt32 (Int8.ofInt (-4))) from hc0) (hla)) (fun (hc0 : ¬ ((g 84 0) = (Int8.toInt32 (Int8.ofInt (-4))))) => ?_)
  refine q_step 10 36 [(0, .ref 70), (1, .int (0 : Int32)), (2, .int x), (3, .int v)] [.long (Int32.toInt64 ((g 85 0) - (1 : Int32))), .long (0 : Int64), .long (Int32.toInt64 x)] g u (fun big n0 => sg_sx_50 big n0 g u x v) ?_
  refine q_call (M2 := 149) (rest := []) (by have e := b_in (Int32.toInt64 x) (0 : Int64) (Int32.toInt64 ((g 85 0) - (1 : Int32))) g u; rw [hin] at e; exact e) (fun _ _ => rfl) ?_
  refine q_ret 3 (some (.int (Int8.toInt32 (Int8.ofInt (-12)))), g, u) (fun _ _ => rfl) ?_
  rfl
theorem b_ris1 (g : qM) (u : qW) {l : Nat} (hl : l ≤ 2) : q_BS 220 [.int (1 : Int32), .int (Int32.ofNat l)] g u (some (.int 1), g, u) := by
  refine q_bx (mm := m_220) rfl (Nat.le_of_ble_eq_true rfl) rfl ?_
  refine q_step 4 6 [(0, .int (1 : Int32)), (1, .int (Int32.ofNat l))] [.long (3 : Int64), .long (0 : Int64), .long (1 : Int64)] g u (fun big n0 => sg_sx_56 big n0 g u (Int32.ofNat l)) ?_
  refine q_call (M2 := 149) (rest := []) (show q_BS 149 [.long (1 : Int64), .long (0 : Int64), .long (3 : Int64)] g u (some (.int 1), g, u) from b_in _ _ _ _ _) (fun _ _ => rfl) ?_
  refine q_step 5 18 [(0, .int (1 : Int32)), (1, .int (Int32.ofNat l))] [.long (2 : Int64), .long (0 : Int64), .long (Int32.toInt64 (Int32.ofNat l))] g u (fun big n0 => sg_sx_57 big n0 g u (Int32.ofNat l)) ?_
  refine q_call (M2 := 149) (rest := []) (b_in1 (m := l) (lo := 0) (hi := 2) g u (by omega) (by omega) (by omega)) (fun _ _ => rfl) ?_
  refine q_ret 4 (some (.int (1 : Int32)), g, u) (fun _ _ => rfl) ?_
  rfl
theorem zr_1 (g : qM) (u : qW) {l z : Nat} : ∀ k i, i + k = 40 → q_EV m_219 40 [(0, .ref 70), (1, .int (1 : Int32)), (2, .int (Int32.ofNat l)), (3, .int (Int32.ofNat z)), (4, .int (Int32.ofNat i))] [] (s_zr 40 i g) u (fun R => R = (some (.int 1), s_zr 40 40 g, u)) := by
  intro k
  induction k with
  | zero =>
    intro i hi
    refine q_step 2 44 [(0, .ref 70), (1, .int (1 : Int32)), (2, .int (Int32.ofNat l)), (3, .int (Int32.ofNat z)), (4, .int (Int32.ofNat i))] [.int (40 : Int32), .int (Int32.ofNat i)] (s_zr 40 i g) u (fun big n0 => sg_sx_58 big n0 (s_zr 40 i g) u (Int32.ofNat l) (Int32.ofNat z) (Int32.ofNat i)) ?_
    refine q_ic_ge rfl (fun (hc0 : (40 : Int32) ≤ (Int32.ofNat i)) => ?_) (fun hc0 => absurd (show (40 : Int32) ≤ (Int32.ofNat i) from by have z : i = 40 := hi; exact (q_le (i := 40) (j := i) (by omega) (by omega)).mpr (by omega)) hc0)
    refine q_ret 2 (some (.int (1 : Int32)), (s_zr 40 i g), u) (fun _ _ => rfl) ?_
    rw [show i = 40 from hi]
  | succ k ih =>
    intro i hi
    refine q_step 2 44 [(0, .ref 70), (1, .int (1 : Int32)), (2, .int (Int32.ofNat l)), (3, .int (Int32.ofNat z)), (4, .int (Int32.ofNat i))] [.int (40 : Int32), .int (Int32.ofNat i)] (s_zr 40 i g) u (fun big n0 => sg_sx_58 big n0 (s_zr 40 i g) u (Int32.ofNat l) (Int32.ofNat z) (Int32.ofNat i)) ?_
    refine q_ic_ge rfl (fun hc0 => absurd (show (40 : Int32) ≤ (Int32.ofNat i) from hc0) (fun z => absurd ((q_le (i := 40) (j := i) (by omega) (by omega)).mp z) (by omega))) (fun (hc0 : ¬ ((40 : Int32) ≤ (Int32.ofNat i))) => ?_)
    refine q_step 8 59 [(0, .ref 70), (1, .int (1 : Int32)), (2, .int (Int32.ofNat l)), (3, .int (Int32.ofNat z)), (4, .int (Int32.ofNat i))] [.int (0 : Int32), .int ((40 : Int32) + (Int32.ofNat i)), .ref 86] (s_zr 40 i g) u (fun big n0 => sg_sx_59 big n0 (s_zr 40 i g) u (Int32.ofNat l) (Int32.ofNat z) (Int32.ofNat i)) ?_
    refine q_iast (j := (40 + i)) (s_rixk (K := 40) (i := i) (by omega)) rfl rfl ?_
    refine q_step 2 40 [(0, .ref 70), (1, .int (1 : Int32)), (2, .int (Int32.ofNat l)), (3, .int (Int32.ofNat z)), (4, .int ((Int32.ofNat i) + (1 : Int32)))] [] (q_up (s_zr 40 i g) 86 (40 + i) (0 : Int32)) u (fun big n0 => sg_sx_60 big n0 (q_up (s_zr 40 i g) 86 (40 + i) (0 : Int32)) u (Int32.ofNat l) (Int32.ofNat z) (Int32.ofNat i)) ?_
    rw [q_succ, show (q_up (s_zr 40 i g) 86 (40 + i) (0 : Int32)) = s_zr 40 (i + 1) g from s_zr_s]
    exact ih (i + 1) (by omega)
theorem rg_sheet1 (g : qM) (u : qW) {l z : Nat} (hl : l ≤ 2) (hz : z ≤ 40) : q_BS 219 [.ref 70, .int (1 : Int32), .int (Int32.ofNat l), .int (Int32.ofNat z)] g u (some (.int 1), s_zr 40 40 (q_up (q_up g 84 1 (Int32.ofNat l)) 85 1 (Int32.ofNat z)), u) := by
  refine q_bx (mm := m_219) rfl (Nat.le_of_ble_eq_true rfl) rfl ?_
  refine q_step 2 2 [(0, .ref 70), (1, .int (1 : Int32)), (2, .int (Int32.ofNat l)), (3, .int (Int32.ofNat z))] [.int (Int32.ofNat l), .int (1 : Int32)] g u (fun big n0 => sg_sx_61 big n0 g u (Int32.ofNat l) (Int32.ofNat z)) ?_
  refine q_call (M2 := 220) (rest := []) (b_ris1 g u hl) (fun _ _ => rfl) ?_
  refine q_step 3 11 [(0, .ref 70), (1, .int (1 : Int32)), (2, .int (Int32.ofNat l)), (3, .int (Int32.ofNat z))] [.int (40 : Int32), .int (Int32.ofNat z)] g u (fun big n0 => sg_sx_62 big n0 g u (Int32.ofNat l) (Int32.ofNat z)) ?_
  refine q_ic_le rfl (fun (hc0 : (Int32.ofNat z) ≤ (40 : Int32)) => ?_) (fun hc0 => absurd (show (Int32.ofNat z) ≤ (40 : Int32) from (q_le (i := z) (j := 40) (by omega) (by omega)).mpr (by omega)) hc0)
  refine q_step 1 17 [(0, .ref 70), (1, .int (1 : Int32)), (2, .int (Int32.ofNat l)), (3, .int (Int32.ofNat z))] [.int (Int32.ofNat z)] g u (fun big n0 => sg_sx_63 big n0 g u (Int32.ofNat l) (Int32.ofNat z)) ?_
  refine q_if_ge rfl (fun (hc1 : 0 ≤ (Int32.ofNat z)) => ?_) (fun hc1 => absurd (show 0 ≤ (Int32.ofNat z) from by rw [Int32.le_iff_toInt_le, q_nat (by omega)]; exact Int.natCast_nonneg z) hc1)
  refine q_step 12 40 [(0, .ref 70), (1, .int (1 : Int32)), (2, .int (Int32.ofNat l)), (3, .int (Int32.ofNat z)), (4, .int (0 : Int32))] [] (q_up (q_up g 84 1 (Int32.ofNat l)) 85 1 (Int32.ofNat z)) u (fun big n0 => sg_sx_64 big n0 g u (Int32.ofNat l) (Int32.ofNat z)) ?_
  have e := zr_1 (q_up (q_up g 84 1 (Int32.ofNat l)) 85 1 (Int32.ofNat z)) u (l := l) (z := z) 40 0 (by omega)
  rw [s_zr_0] at e
  exact e
theorem rg_sheetn1 (g : qM) (u : qW) {l : Nat} {y : Int32} (hl : l ≤ 2) (hy : y < 0) : q_BS 219 [.ref 70, .int (1 : Int32), .int (Int32.ofNat l), .int y] g u (some (.int (Int8.toInt32 (Int8.ofInt (-14)))), g, u) := by
  refine q_bx (mm := m_219) rfl (Nat.le_of_ble_eq_true rfl) rfl ?_
  refine q_step 2 2 [(0, .ref 70), (1, .int (1 : Int32)), (2, .int (Int32.ofNat l)), (3, .int y)] [.int (Int32.ofNat l), .int (1 : Int32)] g u (fun big n0 => sg_sx_61 big n0 g u (Int32.ofNat l) y) ?_
  refine q_call (M2 := 220) (rest := []) (b_ris1 g u hl) (fun _ _ => rfl) ?_
  refine q_step 3 11 [(0, .ref 70), (1, .int (1 : Int32)), (2, .int (Int32.ofNat l)), (3, .int y)] [.int (40 : Int32), .int y] g u (fun big n0 => sg_sx_62 big n0 g u (Int32.ofNat l) y) ?_
  refine q_ic_le rfl (fun (hc0 : y ≤ (40 : Int32)) => ?_) (fun hc0 => absurd (show y ≤ (40 : Int32) from by have z := Int32.lt_iff_toInt_lt.mp hy; rw [Int32.le_iff_toInt_le]; have z0 : (0 : Int32).toInt = 0 := rfl; have z4 : (40 : Int32).toInt = 40 := rfl; omega) hc0)
  refine q_step 1 17 [(0, .ref 70), (1, .int (1 : Int32)), (2, .int (Int32.ofNat l)), (3, .int y)] [.int y] g u (fun big n0 => sg_sx_63 big n0 g u (Int32.ofNat l) y) ?_
  refine q_if_ge rfl (fun hc1 => absurd (show 0 ≤ y from hc1) (Int32.not_le.mpr hy)) (fun (hc1 : ¬ (0 ≤ y)) => ?_)
  refine q_ret 2 (some (.int (Int8.toInt32 (Int8.ofInt (-14)))), g, u) (fun _ _ => rfl) ?_
  rfl
theorem cw_write1 (g : qM) (u : qW) {i z : Nat} {v : Int32} (hz : z ≤ 40) (hsz : g 64 1 = Int32.ofNat z) (hi : i < z) : q_BS 137 [.ref 64, .int (Int32.ofNat i), .int v] g u (none, q_up g 65 i (s_ln (g 64 2) v), u) := by
  refine q_bx (mm := m_137) rfl (Nat.le_of_ble_eq_true rfl) rfl ?_
  refine q_step 1 1 [(0, .ref 64), (1, .int (Int32.ofNat i)), (2, .int v)] [.int (Int32.ofNat i)] g u (fun big n0 => sg_sx_65 big n0 g u (Int32.ofNat i) v) ?_
  refine q_if_lt rfl (fun hc0 => absurd (show (Int32.ofNat i) < 0 from hc0) (fun z => absurd ((q_lt (i := i) (j := 0) (by omega) (by omega)).mp z) (by omega))) (fun (hc0 : ¬ ((Int32.ofNat i) < 0)) => ?_)
  refine q_step 3 9 [(0, .ref 64), (1, .int (Int32.ofNat i)), (2, .int v)] [.int (g 64 1), .int (Int32.ofNat i)] g u (fun big n0 => sg_sx_66 big n0 g u (Int32.ofNat i) v) ?_
  refine q_ic_ge rfl (fun hc1 => absurd (show (g 64 1) ≤ (Int32.ofNat i) from hc1) (by rw [hsz]; exact fun q => absurd ((q_le (i := z) (j := i) (by omega) (by omega)).mp q) (by omega))) (fun (hc1 : ¬ ((g 64 1) ≤ (Int32.ofNat i))) => ?_)
  refine q_step 5 21 [(0, .ref 64), (1, .int (Int32.ofNat i)), (2, .int v)] [.int (g 64 2), .int (Int32.ofNat i), .ref 65] g u (fun big n0 => sg_sx_67 big n0 g u (Int32.ofNat i) v) ?_
  refine q_if_ne rfl (fun (hc2 : (g 64 2) = 0) => ?_) (fun (hc2 : ¬ ((g 64 2) = 0)) => ?_)
  · refine q_step 3 43 [(0, .ref 64), (1, .int (Int32.ofNat i)), (2, .int v)] [.int (Int8.toInt32 (Int32.toInt8 v)), .int (Int32.ofNat i), .ref 65] g u (fun big n0 => sg_sx_68 big n0 g u (Int32.ofNat i) v (Int32.ofNat i)) ?_
    refine q_iast (j := i) (q_ixn (by omega) (by omega)) rfl rfl ?_
    refine q_ret 1 (none, (q_up g 65 i (Int8.toInt32 (Int32.toInt8 v))), u) (fun _ _ => rfl) ?_
    unfold s_ln
    rw [if_pos hc2]
  · refine q_step 3 34 [(0, .ref 64), (1, .int (Int32.ofNat i)), (2, .int v)] [.int (1 : Int32), .int (g 64 2), .int (Int32.ofNat i), .ref 65] g u (fun big n0 => sg_sx_69 big n0 g u (Int32.ofNat i) v (Int32.ofNat i)) ?_
    refine q_ic_ne rfl (fun (hc3 : (g 64 2) = (1 : Int32)) => ?_) (fun (hc3 : ¬ ((g 64 2) = (1 : Int32))) => ?_)
    · refine q_step 3 43 [(0, .ref 64), (1, .int (Int32.ofNat i)), (2, .int v)] [.int (Int16.toInt32 (Int32.toInt16 v)), .int (Int32.ofNat i), .ref 65] g u (fun big n0 => sg_sx_70 big n0 g u (Int32.ofNat i) v (Int32.ofNat i)) ?_
      refine q_iast (j := i) (q_ixn (by omega) (by omega)) rfl rfl ?_
      refine q_ret 1 (none, (q_up g 65 i (Int16.toInt32 (Int32.toInt16 v))), u) (fun _ _ => rfl) ?_
      unfold s_ln
      rw [if_neg hc2, if_pos hc3]
    · refine q_step 1 43 [(0, .ref 64), (1, .int (Int32.ofNat i)), (2, .int v)] [.int v, .int (Int32.ofNat i), .ref 65] g u (fun big n0 => sg_sx_71 big n0 g u (Int32.ofNat i) v (Int32.ofNat i)) ?_
      refine q_iast (j := i) (q_ixn (by omega) (by omega)) rfl rfl ?_
      refine q_ret 1 (none, (q_up g 65 i v), u) (fun _ _ => rfl) ?_
      unfold s_ln
      rw [if_neg hc2, if_neg hc3]
theorem cg_lay1 (g : qM) (u : qW) {i z : Nat} {v : Int32} (hz : z ≤ 40) (hsz : g 64 1 = Int32.ofNat z) (hi : i < z) (hf : d_faultAt1 (Int32.ofNat i) g = 0) : q_BS 134 [.ref 8, .int (1 : Int32), .int (Int32.ofNat i), .int v] g u (some (.int 1), q_up g 65 i (s_ln (g 64 2) v), u) := by
  refine q_bx (mm := m_134) rfl (Nat.le_of_ble_eq_true rfl) rfl ?_
  refine q_step 1 1 [(0, .ref 8), (1, .int (1 : Int32)), (2, .int (Int32.ofNat i)), (3, .int v)] [.int (1 : Int32)] g u (fun big n0 => sg_sx_72 big n0 g u (Int32.ofNat i) v) ?_
  refine q_call (M2 := 131) (rest := []) (show q_BS 131 [.int (1 : Int32)] g u (some (.int 1), g, u) from b_isSheet _ g u) (fun _ _ => rfl) ?_
  refine q_step 6 16 [(0, .ref 8), (1, .int (1 : Int32)), (2, .int (Int32.ofNat i)), (3, .int v)] [.int (Int32.ofNat i), .ref 64] g u (fun big n0 => sg_sx_73 big n0 g u (Int32.ofNat i) v) ?_
  have hfa := b_faultAt1 ((Int32.ofNat i)) g u
  rw [hf] at hfa
  refine q_call (M2 := 135) (rest := []) (hfa) (fun _ _ => rfl) ?_
  refine q_step 9 40 [(0, .ref 8), (1, .int (1 : Int32)), (2, .int (Int32.ofNat i)), (3, .int v), (4, .int (0 : Int32))] [.int v, .int (Int32.ofNat i), .ref 64] g u (fun big n0 => sg_sx_74 big n0 g u (Int32.ofNat i) v) ?_
  refine q_call (M2 := 137) (rest := []) (cw_write1 g u hz hsz hi) (fun _ _ => rfl) ?_
  refine q_ret 2 (some (.int (1 : Int32)), (q_up g 65 i (s_ln (g 64 2) v)), u) (fun _ _ => rfl) ?_
  rfl
theorem cg_lay1f1 (g : qM) (u : qW) {x v : Int32} (hf : d_faultAt1 x g = 1) : q_BS 134 [.ref 8, .int (1 : Int32), .int x, .int v] g u (some (.int (Int8.toInt32 (Int8.ofInt (-11)))), g, u) := by
  refine q_bx (mm := m_134) rfl (Nat.le_of_ble_eq_true rfl) rfl ?_
  refine q_step 1 1 [(0, .ref 8), (1, .int (1 : Int32)), (2, .int x), (3, .int v)] [.int (1 : Int32)] g u (fun big n0 => sg_sx_72 big n0 g u x v) ?_
  refine q_call (M2 := 131) (rest := []) (show q_BS 131 [.int (1 : Int32)] g u (some (.int 1), g, u) from b_isSheet _ g u) (fun _ _ => rfl) ?_
  refine q_step 6 16 [(0, .ref 8), (1, .int (1 : Int32)), (2, .int x), (3, .int v)] [.int x, .ref 64] g u (fun big n0 => sg_sx_73 big n0 g u x v) ?_
  have hfa := b_faultAt1 (x) g u
  rw [hf] at hfa
  refine q_call (M2 := 135) (rest := []) (hfa) (fun _ _ => rfl) ?_
  refine q_ret 7 (some (.int ((Int8.toInt32 (Int8.ofInt (-10))) - (1 : Int32))), g, u) (fun _ _ => rfl) ?_
  rfl
theorem cg_lay1f2 (g : qM) (u : qW) {x v : Int32} (hf : d_faultAt1 x g = 2) : q_BS 134 [.ref 8, .int (1 : Int32), .int x, .int v] g u (some (.int (Int8.toInt32 (Int8.ofInt (-12)))), g, u) := by
  refine q_bx (mm := m_134) rfl (Nat.le_of_ble_eq_true rfl) rfl ?_
  refine q_step 1 1 [(0, .ref 8), (1, .int (1 : Int32)), (2, .int x), (3, .int v)] [.int (1 : Int32)] g u (fun big n0 => sg_sx_72 big n0 g u x v) ?_
  refine q_call (M2 := 131) (rest := []) (show q_BS 131 [.int (1 : Int32)] g u (some (.int 1), g, u) from b_isSheet _ g u) (fun _ _ => rfl) ?_
  refine q_step 6 16 [(0, .ref 8), (1, .int (1 : Int32)), (2, .int x), (3, .int v)] [.int x, .ref 64] g u (fun big n0 => sg_sx_73 big n0 g u x v) ?_
  have hfa := b_faultAt1 (x) g u
  rw [hf] at hfa
  refine q_call (M2 := 135) (rest := []) (hfa) (fun _ _ => rfl) ?_
  refine q_ret 7 (some (.int ((Int8.toInt32 (Int8.ofInt (-10))) - (2 : Int32))), g, u) (fun _ _ => rfl) ?_
  rfl
theorem rg_lay1 (g : qM) (u : qW) {i z l : Nat} {v : Int32} (hz : z ≤ 40) (hl : l ≤ 2) (hsz : g 85 1 = Int32.ofNat z) (hla : g 84 1 = Int32.ofNat l) (hi : i < z) : q_BS 221 [.ref 70, .int (1 : Int32), .int (Int32.ofNat i), .int v] g u (some (.int 1), q_up g 86 (40 + i) (s_ln (g 84 1) v), u) := by
  refine q_bx (mm := m_221) rfl (Nat.le_of_ble_eq_true rfl) rfl ?_
  refine q_step 2 2 [(0, .ref 70), (1, .int (1 : Int32)), (2, .int (Int32.ofNat i)), (3, .int v)] [.int (0 : Int32), .int (1 : Int32)] g u (fun big n0 => sg_sx_75 big n0 g u (Int32.ofNat i) v) ?_
  refine q_call (M2 := 220) (rest := []) (b_ris1 (l := 0) g u (by omega)) (fun _ _ => rfl) ?_
  refine q_step 6 18 [(0, .ref 70), (1, .int (1 : Int32)), (2, .int (Int32.ofNat i)), (3, .int v)] [.int (Int8.toInt32 (Int8.ofInt (-4))), .int (g 84 1)] g u (fun big n0 => sg_sx_76 big n0 g u (Int32.ofNat i) v) ?_
  refine q_ic_ne rfl (fun hc0 => absurd (show (g 84 1) = (Int8.toInt32 (Int8.ofInt (-4))) from hc0) (by rw [hla]; exact q_none_ne (by omega))) (fun (hc0 : ¬ ((g 84 1) = (Int8.toInt32 (Int8.ofInt (-4))))) => ?_)
  refine q_step 10 36 [(0, .ref 70), (1, .int (1 : Int32)), (2, .int (Int32.ofNat i)), (3, .int v)] [.long (Int32.toInt64 ((g 85 1) - (1 : Int32))), .long (0 : Int64), .long (Int32.toInt64 (Int32.ofNat i))] g u (fun big n0 => sg_sx_77 big n0 g u (Int32.ofNat i) v) ?_
  have hin : s_in (Int32.toInt64 (Int32.ofNat i)) (0 : Int64) (Int32.toInt64 ((g 85 1) - (1 : Int32))) = 1 := by
    rcases s_in_01 (Int32.toInt64 (Int32.ofNat i)) (0 : Int64) (Int32.toInt64 ((g 85 1) - (1 : Int32))) with q | q
    · refine absurd q (s_in_i.mpr ?_)
      have e1 : (1 : Int32).toInt = 1 := rfl
      have e0 : (0 : Int64).toInt = 0 := rfl
      rw [Int32.toInt_toInt64, hsz, s_sub (by rw [q_nat (by omega), e1]; omega) (by rw [q_nat (by omega), e1]; omega), q_nat (by omega), q_nat (by omega), e1, e0]
      omega
    · exact q
  refine q_call (M2 := 149) (rest := []) (by have e := b_in (Int32.toInt64 (Int32.ofNat i)) (0 : Int64) (Int32.toInt64 ((g 85 1) - (1 : Int32))) g u; rw [hin] at e; exact e) (fun _ _ => rfl) ?_
  refine q_step 12 61 [(0, .ref 70), (1, .int (1 : Int32)), (2, .int (Int32.ofNat i)), (3, .int v)] [.int (g 84 1), .int ((40 : Int32) + (Int32.ofNat i)), .ref 86] g u (fun big n0 => sg_sx_78 big n0 g u (Int32.ofNat i) v) ?_
  refine q_if_ne rfl (fun (hc1 : (g 84 1) = 0) => ?_) (fun (hc1 : ¬ ((g 84 1) = 0)) => ?_)
  · refine q_step 3 85 [(0, .ref 70), (1, .int (1 : Int32)), (2, .int (Int32.ofNat i)), (3, .int v)] [.int (Int8.toInt32 (Int32.toInt8 v)), .int ((40 : Int32) + (Int32.ofNat i)), .ref 86] g u (fun big n0 => sg_sx_79 big n0 g u (Int32.ofNat i) v ((40 : Int32) + (Int32.ofNat i))) ?_
    refine q_iast (j := (40 + i)) (s_rixk (K := 40) (i := i) (by omega)) rfl rfl ?_
    refine q_ret 2 (some (.int (1 : Int32)), (q_up g 86 (40 + i) (Int8.toInt32 (Int32.toInt8 v))), u) (fun _ _ => rfl) ?_
    unfold s_ln
    rw [if_pos hc1]
  · refine q_step 5 76 [(0, .ref 70), (1, .int (1 : Int32)), (2, .int (Int32.ofNat i)), (3, .int v)] [.int (1 : Int32), .int (g 84 1), .int ((40 : Int32) + (Int32.ofNat i)), .ref 86] g u (fun big n0 => sg_sx_80 big n0 g u (Int32.ofNat i) v ((40 : Int32) + (Int32.ofNat i))) ?_
    refine q_ic_ne rfl (fun (hc2 : (g 84 1) = (1 : Int32)) => ?_) (fun (hc2 : ¬ ((g 84 1) = (1 : Int32))) => ?_)
    · refine q_step 3 85 [(0, .ref 70), (1, .int (1 : Int32)), (2, .int (Int32.ofNat i)), (3, .int v)] [.int (Int16.toInt32 (Int32.toInt16 v)), .int ((40 : Int32) + (Int32.ofNat i)), .ref 86] g u (fun big n0 => sg_sx_81 big n0 g u (Int32.ofNat i) v ((40 : Int32) + (Int32.ofNat i))) ?_
      refine q_iast (j := (40 + i)) (s_rixk (K := 40) (i := i) (by omega)) rfl rfl ?_
      refine q_ret 2 (some (.int (1 : Int32)), (q_up g 86 (40 + i) (Int16.toInt32 (Int32.toInt16 v))), u) (fun _ _ => rfl) ?_
      unfold s_ln
      rw [if_neg hc1, if_pos hc2]
    · refine q_step 1 85 [(0, .ref 70), (1, .int (1 : Int32)), (2, .int (Int32.ofNat i)), (3, .int v)] [.int v, .int ((40 : Int32) + (Int32.ofNat i)), .ref 86] g u (fun big n0 => sg_sx_82 big n0 g u (Int32.ofNat i) v ((40 : Int32) + (Int32.ofNat i))) ?_
      refine q_iast (j := (40 + i)) (s_rixk (K := 40) (i := i) (by omega)) rfl rfl ?_
      refine q_ret 2 (some (.int (1 : Int32)), (q_up g 86 (40 + i) v), u) (fun _ _ => rfl) ?_
      unfold s_ln
      rw [if_neg hc1, if_neg hc2]
theorem rg_lay1f1 (g : qM) (u : qW) {x v : Int32} (hla : g 84 1 = i_none) : q_BS 221 [.ref 70, .int (1 : Int32), .int x, .int v] g u (some (.int (Int8.toInt32 (Int8.ofInt (-11)))), g, u) := by
  refine q_bx (mm := m_221) rfl (Nat.le_of_ble_eq_true rfl) rfl ?_
  refine q_step 2 2 [(0, .ref 70), (1, .int (1 : Int32)), (2, .int x), (3, .int v)] [.int (0 : Int32), .int (1 : Int32)] g u (fun big n0 => sg_sx_75 big n0 g u x v) ?_
  refine q_call (M2 := 220) (rest := []) (b_ris1 (l := 0) g u (by omega)) (fun _ _ => rfl) ?_
  refine q_step 6 18 [(0, .ref 70), (1, .int (1 : Int32)), (2, .int x), (3, .int v)] [.int (Int8.toInt32 (Int8.ofInt (-4))), .int (g 84 1)] g u (fun big n0 => sg_sx_76 big n0 g u x v) ?_
  refine q_ic_ne rfl (fun (hc0 : (g 84 1) = (Int8.toInt32 (Int8.ofInt (-4)))) => ?_) (fun hc0 => absurd (show (g 84 1) = (Int8.toInt32 (Int8.ofInt (-4))) from hla) hc0)
  refine q_ret 2 (some (.int (Int8.toInt32 (Int8.ofInt (-11)))), g, u) (fun _ _ => rfl) ?_
  rfl
theorem rg_lay1f2 (g : qM) (u : qW) {x v : Int32} (hla : ¬ g 84 1 = i_none) (hin : s_in (Int32.toInt64 x) (0 : Int64) (Int32.toInt64 ((g 85 1) - (1 : Int32))) = 0) : q_BS 221 [.ref 70, .int (1 : Int32), .int x, .int v] g u (some (.int (Int8.toInt32 (Int8.ofInt (-12)))), g, u) := by
  refine q_bx (mm := m_221) rfl (Nat.le_of_ble_eq_true rfl) rfl ?_
  refine q_step 2 2 [(0, .ref 70), (1, .int (1 : Int32)), (2, .int x), (3, .int v)] [.int (0 : Int32), .int (1 : Int32)] g u (fun big n0 => sg_sx_75 big n0 g u x v) ?_
  refine q_call (M2 := 220) (rest := []) (b_ris1 (l := 0) g u (by omega)) (fun _ _ => rfl) ?_
  refine q_step 6 18 [(0, .ref 70), (1, .int (1 : Int32)), (2, .int x), (3, .int v)] [.int (Int8.toInt32 (Int8.ofInt (-4))), .int (g 84 1)] g u (fun big n0 => sg_sx_76 big n0 g u x v) ?_
  refine q_ic_ne rfl (fun hc0 => absurd (show (g 84 1) = (Int8.toInt32 (Int8.ofInt (-4))) from hc0) (hla)) (fun (hc0 : ¬ ((g 84 1) = (Int8.toInt32 (Int8.ofInt (-4))))) => ?_)
  refine q_step 10 36 [(0, .ref 70), (1, .int (1 : Int32)), (2, .int x), (3, .int v)] [.long (Int32.toInt64 ((g 85 1) - (1 : Int32))), .long (0 : Int64), .long (Int32.toInt64 x)] g u (fun big n0 => sg_sx_77 big n0 g u x v) ?_
  refine q_call (M2 := 149) (rest := []) (by have e := b_in (Int32.toInt64 x) (0 : Int64) (Int32.toInt64 ((g 85 1) - (1 : Int32))) g u; rw [hin] at e; exact e) (fun _ _ => rfl) ?_
  refine q_ret 3 (some (.int (Int8.toInt32 (Int8.ofInt (-12)))), g, u) (fun _ _ => rfl) ?_
  rfl
theorem b_ris2 (g : qM) (u : qW) {l : Nat} (hl : l ≤ 2) : q_BS 220 [.int (2 : Int32), .int (Int32.ofNat l)] g u (some (.int 1), g, u) := by
  refine q_bx (mm := m_220) rfl (Nat.le_of_ble_eq_true rfl) rfl ?_
  refine q_step 4 6 [(0, .int (2 : Int32)), (1, .int (Int32.ofNat l))] [.long (3 : Int64), .long (0 : Int64), .long (2 : Int64)] g u (fun big n0 => sg_sx_83 big n0 g u (Int32.ofNat l)) ?_
  refine q_call (M2 := 149) (rest := []) (show q_BS 149 [.long (2 : Int64), .long (0 : Int64), .long (3 : Int64)] g u (some (.int 1), g, u) from b_in _ _ _ _ _) (fun _ _ => rfl) ?_
  refine q_step 5 18 [(0, .int (2 : Int32)), (1, .int (Int32.ofNat l))] [.long (2 : Int64), .long (0 : Int64), .long (Int32.toInt64 (Int32.ofNat l))] g u (fun big n0 => sg_sx_84 big n0 g u (Int32.ofNat l)) ?_
  refine q_call (M2 := 149) (rest := []) (b_in1 (m := l) (lo := 0) (hi := 2) g u (by omega) (by omega) (by omega)) (fun _ _ => rfl) ?_
  refine q_ret 4 (some (.int (1 : Int32)), g, u) (fun _ _ => rfl) ?_
  rfl
theorem zr_2 (g : qM) (u : qW) {l z : Nat} : ∀ k i, i + k = 40 → q_EV m_219 40 [(0, .ref 70), (1, .int (2 : Int32)), (2, .int (Int32.ofNat l)), (3, .int (Int32.ofNat z)), (4, .int (Int32.ofNat i))] [] (s_zr 80 i g) u (fun R => R = (some (.int 1), s_zr 80 40 g, u)) := by
  intro k
  induction k with
  | zero =>
    intro i hi
    refine q_step 2 44 [(0, .ref 70), (1, .int (2 : Int32)), (2, .int (Int32.ofNat l)), (3, .int (Int32.ofNat z)), (4, .int (Int32.ofNat i))] [.int (40 : Int32), .int (Int32.ofNat i)] (s_zr 80 i g) u (fun big n0 => sg_sx_85 big n0 (s_zr 80 i g) u (Int32.ofNat l) (Int32.ofNat z) (Int32.ofNat i)) ?_
    refine q_ic_ge rfl (fun (hc0 : (40 : Int32) ≤ (Int32.ofNat i)) => ?_) (fun hc0 => absurd (show (40 : Int32) ≤ (Int32.ofNat i) from by have z : i = 40 := hi; exact (q_le (i := 40) (j := i) (by omega) (by omega)).mpr (by omega)) hc0)
    refine q_ret 2 (some (.int (1 : Int32)), (s_zr 80 i g), u) (fun _ _ => rfl) ?_
    rw [show i = 40 from hi]
  | succ k ih =>
    intro i hi
    refine q_step 2 44 [(0, .ref 70), (1, .int (2 : Int32)), (2, .int (Int32.ofNat l)), (3, .int (Int32.ofNat z)), (4, .int (Int32.ofNat i))] [.int (40 : Int32), .int (Int32.ofNat i)] (s_zr 80 i g) u (fun big n0 => sg_sx_85 big n0 (s_zr 80 i g) u (Int32.ofNat l) (Int32.ofNat z) (Int32.ofNat i)) ?_
    refine q_ic_ge rfl (fun hc0 => absurd (show (40 : Int32) ≤ (Int32.ofNat i) from hc0) (fun z => absurd ((q_le (i := 40) (j := i) (by omega) (by omega)).mp z) (by omega))) (fun (hc0 : ¬ ((40 : Int32) ≤ (Int32.ofNat i))) => ?_)
    refine q_step 8 59 [(0, .ref 70), (1, .int (2 : Int32)), (2, .int (Int32.ofNat l)), (3, .int (Int32.ofNat z)), (4, .int (Int32.ofNat i))] [.int (0 : Int32), .int ((80 : Int32) + (Int32.ofNat i)), .ref 86] (s_zr 80 i g) u (fun big n0 => sg_sx_86 big n0 (s_zr 80 i g) u (Int32.ofNat l) (Int32.ofNat z) (Int32.ofNat i)) ?_
    refine q_iast (j := (80 + i)) (s_rixk (K := 80) (i := i) (by omega)) rfl rfl ?_
    refine q_step 2 40 [(0, .ref 70), (1, .int (2 : Int32)), (2, .int (Int32.ofNat l)), (3, .int (Int32.ofNat z)), (4, .int ((Int32.ofNat i) + (1 : Int32)))] [] (q_up (s_zr 80 i g) 86 (80 + i) (0 : Int32)) u (fun big n0 => sg_sx_87 big n0 (q_up (s_zr 80 i g) 86 (80 + i) (0 : Int32)) u (Int32.ofNat l) (Int32.ofNat z) (Int32.ofNat i)) ?_
    rw [q_succ, show (q_up (s_zr 80 i g) 86 (80 + i) (0 : Int32)) = s_zr 80 (i + 1) g from s_zr_s]
    exact ih (i + 1) (by omega)
theorem rg_sheet2 (g : qM) (u : qW) {l z : Nat} (hl : l ≤ 2) (hz : z ≤ 40) : q_BS 219 [.ref 70, .int (2 : Int32), .int (Int32.ofNat l), .int (Int32.ofNat z)] g u (some (.int 1), s_zr 80 40 (q_up (q_up g 84 2 (Int32.ofNat l)) 85 2 (Int32.ofNat z)), u) := by
  refine q_bx (mm := m_219) rfl (Nat.le_of_ble_eq_true rfl) rfl ?_
  refine q_step 2 2 [(0, .ref 70), (1, .int (2 : Int32)), (2, .int (Int32.ofNat l)), (3, .int (Int32.ofNat z))] [.int (Int32.ofNat l), .int (2 : Int32)] g u (fun big n0 => sg_sx_88 big n0 g u (Int32.ofNat l) (Int32.ofNat z)) ?_
  refine q_call (M2 := 220) (rest := []) (b_ris2 g u hl) (fun _ _ => rfl) ?_
  refine q_step 3 11 [(0, .ref 70), (1, .int (2 : Int32)), (2, .int (Int32.ofNat l)), (3, .int (Int32.ofNat z))] [.int (40 : Int32), .int (Int32.ofNat z)] g u (fun big n0 => sg_sx_89 big n0 g u (Int32.ofNat l) (Int32.ofNat z)) ?_
  refine q_ic_le rfl (fun (hc0 : (Int32.ofNat z) ≤ (40 : Int32)) => ?_) (fun hc0 => absurd (show (Int32.ofNat z) ≤ (40 : Int32) from (q_le (i := z) (j := 40) (by omega) (by omega)).mpr (by omega)) hc0)
  refine q_step 1 17 [(0, .ref 70), (1, .int (2 : Int32)), (2, .int (Int32.ofNat l)), (3, .int (Int32.ofNat z))] [.int (Int32.ofNat z)] g u (fun big n0 => sg_sx_90 big n0 g u (Int32.ofNat l) (Int32.ofNat z)) ?_
  refine q_if_ge rfl (fun (hc1 : 0 ≤ (Int32.ofNat z)) => ?_) (fun hc1 => absurd (show 0 ≤ (Int32.ofNat z) from by rw [Int32.le_iff_toInt_le, q_nat (by omega)]; exact Int.natCast_nonneg z) hc1)
  refine q_step 12 40 [(0, .ref 70), (1, .int (2 : Int32)), (2, .int (Int32.ofNat l)), (3, .int (Int32.ofNat z)), (4, .int (0 : Int32))] [] (q_up (q_up g 84 2 (Int32.ofNat l)) 85 2 (Int32.ofNat z)) u (fun big n0 => sg_sx_91 big n0 g u (Int32.ofNat l) (Int32.ofNat z)) ?_
  have e := zr_2 (q_up (q_up g 84 2 (Int32.ofNat l)) 85 2 (Int32.ofNat z)) u (l := l) (z := z) 40 0 (by omega)
  rw [s_zr_0] at e
  exact e
theorem rg_sheetn2 (g : qM) (u : qW) {l : Nat} {y : Int32} (hl : l ≤ 2) (hy : y < 0) : q_BS 219 [.ref 70, .int (2 : Int32), .int (Int32.ofNat l), .int y] g u (some (.int (Int8.toInt32 (Int8.ofInt (-14)))), g, u) := by
  refine q_bx (mm := m_219) rfl (Nat.le_of_ble_eq_true rfl) rfl ?_
  refine q_step 2 2 [(0, .ref 70), (1, .int (2 : Int32)), (2, .int (Int32.ofNat l)), (3, .int y)] [.int (Int32.ofNat l), .int (2 : Int32)] g u (fun big n0 => sg_sx_88 big n0 g u (Int32.ofNat l) y) ?_
  refine q_call (M2 := 220) (rest := []) (b_ris2 g u hl) (fun _ _ => rfl) ?_
  refine q_step 3 11 [(0, .ref 70), (1, .int (2 : Int32)), (2, .int (Int32.ofNat l)), (3, .int y)] [.int (40 : Int32), .int y] g u (fun big n0 => sg_sx_89 big n0 g u (Int32.ofNat l) y) ?_
  refine q_ic_le rfl (fun (hc0 : y ≤ (40 : Int32)) => ?_) (fun hc0 => absurd (show y ≤ (40 : Int32) from by have z := Int32.lt_iff_toInt_lt.mp hy; rw [Int32.le_iff_toInt_le]; have z0 : (0 : Int32).toInt = 0 := rfl; have z4 : (40 : Int32).toInt = 40 := rfl; omega) hc0)
  refine q_step 1 17 [(0, .ref 70), (1, .int (2 : Int32)), (2, .int (Int32.ofNat l)), (3, .int y)] [.int y] g u (fun big n0 => sg_sx_90 big n0 g u (Int32.ofNat l) y) ?_
  refine q_if_ge rfl (fun hc1 => absurd (show 0 ≤ y from hc1) (Int32.not_le.mpr hy)) (fun (hc1 : ¬ (0 ≤ y)) => ?_)
  refine q_ret 2 (some (.int (Int8.toInt32 (Int8.ofInt (-14)))), g, u) (fun _ _ => rfl) ?_
  rfl
theorem cw_write2 (g : qM) (u : qW) {i z : Nat} {v : Int32} (hz : z ≤ 40) (hsz : g 66 1 = Int32.ofNat z) (hi : i < z) : q_BS 137 [.ref 66, .int (Int32.ofNat i), .int v] g u (none, q_up g 67 i (s_ln (g 66 2) v), u) := by
  refine q_bx (mm := m_137) rfl (Nat.le_of_ble_eq_true rfl) rfl ?_
  refine q_step 1 1 [(0, .ref 66), (1, .int (Int32.ofNat i)), (2, .int v)] [.int (Int32.ofNat i)] g u (fun big n0 => sg_sx_92 big n0 g u (Int32.ofNat i) v) ?_
  refine q_if_lt rfl (fun hc0 => absurd (show (Int32.ofNat i) < 0 from hc0) (fun z => absurd ((q_lt (i := i) (j := 0) (by omega) (by omega)).mp z) (by omega))) (fun (hc0 : ¬ ((Int32.ofNat i) < 0)) => ?_)
  refine q_step 3 9 [(0, .ref 66), (1, .int (Int32.ofNat i)), (2, .int v)] [.int (g 66 1), .int (Int32.ofNat i)] g u (fun big n0 => sg_sx_93 big n0 g u (Int32.ofNat i) v) ?_
  refine q_ic_ge rfl (fun hc1 => absurd (show (g 66 1) ≤ (Int32.ofNat i) from hc1) (by rw [hsz]; exact fun q => absurd ((q_le (i := z) (j := i) (by omega) (by omega)).mp q) (by omega))) (fun (hc1 : ¬ ((g 66 1) ≤ (Int32.ofNat i))) => ?_)
  refine q_step 5 21 [(0, .ref 66), (1, .int (Int32.ofNat i)), (2, .int v)] [.int (g 66 2), .int (Int32.ofNat i), .ref 67] g u (fun big n0 => sg_sx_94 big n0 g u (Int32.ofNat i) v) ?_
  refine q_if_ne rfl (fun (hc2 : (g 66 2) = 0) => ?_) (fun (hc2 : ¬ ((g 66 2) = 0)) => ?_)
  · refine q_step 3 43 [(0, .ref 66), (1, .int (Int32.ofNat i)), (2, .int v)] [.int (Int8.toInt32 (Int32.toInt8 v)), .int (Int32.ofNat i), .ref 67] g u (fun big n0 => sg_sx_95 big n0 g u (Int32.ofNat i) v (Int32.ofNat i)) ?_
    refine q_iast (j := i) (q_ixn (by omega) (by omega)) rfl rfl ?_
    refine q_ret 1 (none, (q_up g 67 i (Int8.toInt32 (Int32.toInt8 v))), u) (fun _ _ => rfl) ?_
    unfold s_ln
    rw [if_pos hc2]
  · refine q_step 3 34 [(0, .ref 66), (1, .int (Int32.ofNat i)), (2, .int v)] [.int (1 : Int32), .int (g 66 2), .int (Int32.ofNat i), .ref 67] g u (fun big n0 => sg_sx_96 big n0 g u (Int32.ofNat i) v (Int32.ofNat i)) ?_
    refine q_ic_ne rfl (fun (hc3 : (g 66 2) = (1 : Int32)) => ?_) (fun (hc3 : ¬ ((g 66 2) = (1 : Int32))) => ?_)
    · refine q_step 3 43 [(0, .ref 66), (1, .int (Int32.ofNat i)), (2, .int v)] [.int (Int16.toInt32 (Int32.toInt16 v)), .int (Int32.ofNat i), .ref 67] g u (fun big n0 => sg_sx_97 big n0 g u (Int32.ofNat i) v (Int32.ofNat i)) ?_
      refine q_iast (j := i) (q_ixn (by omega) (by omega)) rfl rfl ?_
      refine q_ret 1 (none, (q_up g 67 i (Int16.toInt32 (Int32.toInt16 v))), u) (fun _ _ => rfl) ?_
      unfold s_ln
      rw [if_neg hc2, if_pos hc3]
    · refine q_step 1 43 [(0, .ref 66), (1, .int (Int32.ofNat i)), (2, .int v)] [.int v, .int (Int32.ofNat i), .ref 67] g u (fun big n0 => sg_sx_98 big n0 g u (Int32.ofNat i) v (Int32.ofNat i)) ?_
      refine q_iast (j := i) (q_ixn (by omega) (by omega)) rfl rfl ?_
      refine q_ret 1 (none, (q_up g 67 i v), u) (fun _ _ => rfl) ?_
      unfold s_ln
      rw [if_neg hc2, if_neg hc3]
theorem cg_lay2 (g : qM) (u : qW) {i z : Nat} {v : Int32} (hz : z ≤ 40) (hsz : g 66 1 = Int32.ofNat z) (hi : i < z) (hf : d_faultAt2 (Int32.ofNat i) g = 0) : q_BS 134 [.ref 8, .int (2 : Int32), .int (Int32.ofNat i), .int v] g u (some (.int 1), q_up g 67 i (s_ln (g 66 2) v), u) := by
  refine q_bx (mm := m_134) rfl (Nat.le_of_ble_eq_true rfl) rfl ?_
  refine q_step 1 1 [(0, .ref 8), (1, .int (2 : Int32)), (2, .int (Int32.ofNat i)), (3, .int v)] [.int (2 : Int32)] g u (fun big n0 => sg_sx_99 big n0 g u (Int32.ofNat i) v) ?_
  refine q_call (M2 := 131) (rest := []) (show q_BS 131 [.int (2 : Int32)] g u (some (.int 1), g, u) from b_isSheet _ g u) (fun _ _ => rfl) ?_
  refine q_step 6 16 [(0, .ref 8), (1, .int (2 : Int32)), (2, .int (Int32.ofNat i)), (3, .int v)] [.int (Int32.ofNat i), .ref 66] g u (fun big n0 => sg_sx_100 big n0 g u (Int32.ofNat i) v) ?_
  have hfa := b_faultAt2 ((Int32.ofNat i)) g u
  rw [hf] at hfa
  refine q_call (M2 := 135) (rest := []) (hfa) (fun _ _ => rfl) ?_
  refine q_step 9 40 [(0, .ref 8), (1, .int (2 : Int32)), (2, .int (Int32.ofNat i)), (3, .int v), (4, .int (0 : Int32))] [.int v, .int (Int32.ofNat i), .ref 66] g u (fun big n0 => sg_sx_101 big n0 g u (Int32.ofNat i) v) ?_
  refine q_call (M2 := 137) (rest := []) (cw_write2 g u hz hsz hi) (fun _ _ => rfl) ?_
  refine q_ret 2 (some (.int (1 : Int32)), (q_up g 67 i (s_ln (g 66 2) v)), u) (fun _ _ => rfl) ?_
  rfl
theorem cg_lay2f1 (g : qM) (u : qW) {x v : Int32} (hf : d_faultAt2 x g = 1) : q_BS 134 [.ref 8, .int (2 : Int32), .int x, .int v] g u (some (.int (Int8.toInt32 (Int8.ofInt (-11)))), g, u) := by
  refine q_bx (mm := m_134) rfl (Nat.le_of_ble_eq_true rfl) rfl ?_
  refine q_step 1 1 [(0, .ref 8), (1, .int (2 : Int32)), (2, .int x), (3, .int v)] [.int (2 : Int32)] g u (fun big n0 => sg_sx_99 big n0 g u x v) ?_
  refine q_call (M2 := 131) (rest := []) (show q_BS 131 [.int (2 : Int32)] g u (some (.int 1), g, u) from b_isSheet _ g u) (fun _ _ => rfl) ?_
  refine q_step 6 16 [(0, .ref 8), (1, .int (2 : Int32)), (2, .int x), (3, .int v)] [.int x, .ref 66] g u (fun big n0 => sg_sx_100 big n0 g u x v) ?_
  have hfa := b_faultAt2 (x) g u
  rw [hf] at hfa
  refine q_call (M2 := 135) (rest := []) (hfa) (fun _ _ => rfl) ?_
  refine q_ret 7 (some (.int ((Int8.toInt32 (Int8.ofInt (-10))) - (1 : Int32))), g, u) (fun _ _ => rfl) ?_
  rfl
theorem cg_lay2f2 (g : qM) (u : qW) {x v : Int32} (hf : d_faultAt2 x g = 2) : q_BS 134 [.ref 8, .int (2 : Int32), .int x, .int v] g u (some (.int (Int8.toInt32 (Int8.ofInt (-12)))), g, u) := by
  refine q_bx (mm := m_134) rfl (Nat.le_of_ble_eq_true rfl) rfl ?_
  refine q_step 1 1 [(0, .ref 8), (1, .int (2 : Int32)), (2, .int x), (3, .int v)] [.int (2 : Int32)] g u (fun big n0 => sg_sx_99 big n0 g u x v) ?_
  refine q_call (M2 := 131) (rest := []) (show q_BS 131 [.int (2 : Int32)] g u (some (.int 1), g, u) from b_isSheet _ g u) (fun _ _ => rfl) ?_
  refine q_step 6 16 [(0, .ref 8), (1, .int (2 : Int32)), (2, .int x), (3, .int v)] [.int x, .ref 66] g u (fun big n0 => sg_sx_100 big n0 g u x v) ?_
  have hfa := b_faultAt2 (x) g u
  rw [hf] at hfa
  refine q_call (M2 := 135) (rest := []) (hfa) (fun _ _ => rfl) ?_
  refine q_ret 7 (some (.int ((Int8.toInt32 (Int8.ofInt (-10))) - (2 : Int32))), g, u) (fun _ _ => rfl) ?_
  rfl
theorem rg_lay2 (g : qM) (u : qW) {i z l : Nat} {v : Int32} (hz : z ≤ 40) (hl : l ≤ 2) (hsz : g 85 2 = Int32.ofNat z) (hla : g 84 2 = Int32.ofNat l) (hi : i < z) : q_BS 221 [.ref 70, .int (2 : Int32), .int (Int32.ofNat i), .int v] g u (some (.int 1), q_up g 86 (80 + i) (s_ln (g 84 2) v), u) := by
  refine q_bx (mm := m_221) rfl (Nat.le_of_ble_eq_true rfl) rfl ?_
  refine q_step 2 2 [(0, .ref 70), (1, .int (2 : Int32)), (2, .int (Int32.ofNat i)), (3, .int v)] [.int (0 : Int32), .int (2 : Int32)] g u (fun big n0 => sg_sx_102 big n0 g u (Int32.ofNat i) v) ?_
  refine q_call (M2 := 220) (rest := []) (b_ris2 (l := 0) g u (by omega)) (fun _ _ => rfl) ?_
  refine q_step 6 18 [(0, .ref 70), (1, .int (2 : Int32)), (2, .int (Int32.ofNat i)), (3, .int v)] [.int (Int8.toInt32 (Int8.ofInt (-4))), .int (g 84 2)] g u (fun big n0 => sg_sx_103 big n0 g u (Int32.ofNat i) v) ?_
  refine q_ic_ne rfl (fun hc0 => absurd (show (g 84 2) = (Int8.toInt32 (Int8.ofInt (-4))) from hc0) (by rw [hla]; exact q_none_ne (by omega))) (fun (hc0 : ¬ ((g 84 2) = (Int8.toInt32 (Int8.ofInt (-4))))) => ?_)
  refine q_step 10 36 [(0, .ref 70), (1, .int (2 : Int32)), (2, .int (Int32.ofNat i)), (3, .int v)] [.long (Int32.toInt64 ((g 85 2) - (1 : Int32))), .long (0 : Int64), .long (Int32.toInt64 (Int32.ofNat i))] g u (fun big n0 => sg_sx_104 big n0 g u (Int32.ofNat i) v) ?_
  have hin : s_in (Int32.toInt64 (Int32.ofNat i)) (0 : Int64) (Int32.toInt64 ((g 85 2) - (1 : Int32))) = 1 := by
    rcases s_in_01 (Int32.toInt64 (Int32.ofNat i)) (0 : Int64) (Int32.toInt64 ((g 85 2) - (1 : Int32))) with q | q
    · refine absurd q (s_in_i.mpr ?_)
      have e1 : (1 : Int32).toInt = 1 := rfl
      have e0 : (0 : Int64).toInt = 0 := rfl
      rw [Int32.toInt_toInt64, hsz, s_sub (by rw [q_nat (by omega), e1]; omega) (by rw [q_nat (by omega), e1]; omega), q_nat (by omega), q_nat (by omega), e1, e0]
      omega
    · exact q
  refine q_call (M2 := 149) (rest := []) (by have e := b_in (Int32.toInt64 (Int32.ofNat i)) (0 : Int64) (Int32.toInt64 ((g 85 2) - (1 : Int32))) g u; rw [hin] at e; exact e) (fun _ _ => rfl) ?_
  refine q_step 12 61 [(0, .ref 70), (1, .int (2 : Int32)), (2, .int (Int32.ofNat i)), (3, .int v)] [.int (g 84 2), .int ((80 : Int32) + (Int32.ofNat i)), .ref 86] g u (fun big n0 => sg_sx_105 big n0 g u (Int32.ofNat i) v) ?_
  refine q_if_ne rfl (fun (hc1 : (g 84 2) = 0) => ?_) (fun (hc1 : ¬ ((g 84 2) = 0)) => ?_)
  · refine q_step 3 85 [(0, .ref 70), (1, .int (2 : Int32)), (2, .int (Int32.ofNat i)), (3, .int v)] [.int (Int8.toInt32 (Int32.toInt8 v)), .int ((80 : Int32) + (Int32.ofNat i)), .ref 86] g u (fun big n0 => sg_sx_106 big n0 g u (Int32.ofNat i) v ((80 : Int32) + (Int32.ofNat i))) ?_
    refine q_iast (j := (80 + i)) (s_rixk (K := 80) (i := i) (by omega)) rfl rfl ?_
    refine q_ret 2 (some (.int (1 : Int32)), (q_up g 86 (80 + i) (Int8.toInt32 (Int32.toInt8 v))), u) (fun _ _ => rfl) ?_
    unfold s_ln
    rw [if_pos hc1]
  · refine q_step 5 76 [(0, .ref 70), (1, .int (2 : Int32)), (2, .int (Int32.ofNat i)), (3, .int v)] [.int (1 : Int32), .int (g 84 2), .int ((80 : Int32) + (Int32.ofNat i)), .ref 86] g u (fun big n0 => sg_sx_107 big n0 g u (Int32.ofNat i) v ((80 : Int32) + (Int32.ofNat i))) ?_
    refine q_ic_ne rfl (fun (hc2 : (g 84 2) = (1 : Int32)) => ?_) (fun (hc2 : ¬ ((g 84 2) = (1 : Int32))) => ?_)
    · refine q_step 3 85 [(0, .ref 70), (1, .int (2 : Int32)), (2, .int (Int32.ofNat i)), (3, .int v)] [.int (Int16.toInt32 (Int32.toInt16 v)), .int ((80 : Int32) + (Int32.ofNat i)), .ref 86] g u (fun big n0 => sg_sx_108 big n0 g u (Int32.ofNat i) v ((80 : Int32) + (Int32.ofNat i))) ?_
      refine q_iast (j := (80 + i)) (s_rixk (K := 80) (i := i) (by omega)) rfl rfl ?_
      refine q_ret 2 (some (.int (1 : Int32)), (q_up g 86 (80 + i) (Int16.toInt32 (Int32.toInt16 v))), u) (fun _ _ => rfl) ?_
      unfold s_ln
      rw [if_neg hc1, if_pos hc2]
    · refine q_step 1 85 [(0, .ref 70), (1, .int (2 : Int32)), (2, .int (Int32.ofNat i)), (3, .int v)] [.int v, .int ((80 : Int32) + (Int32.ofNat i)), .ref 86] g u (fun big n0 => sg_sx_109 big n0 g u (Int32.ofNat i) v ((80 : Int32) + (Int32.ofNat i))) ?_
      refine q_iast (j := (80 + i)) (s_rixk (K := 80) (i := i) (by omega)) rfl rfl ?_
      refine q_ret 2 (some (.int (1 : Int32)), (q_up g 86 (80 + i) v), u) (fun _ _ => rfl) ?_
      unfold s_ln
      rw [if_neg hc1, if_neg hc2]
theorem rg_lay2f1 (g : qM) (u : qW) {x v : Int32} (hla : g 84 2 = i_none) : q_BS 221 [.ref 70, .int (2 : Int32), .int x, .int v] g u (some (.int (Int8.toInt32 (Int8.ofInt (-11)))), g, u) := by
  refine q_bx (mm := m_221) rfl (Nat.le_of_ble_eq_true rfl) rfl ?_
  refine q_step 2 2 [(0, .ref 70), (1, .int (2 : Int32)), (2, .int x), (3, .int v)] [.int (0 : Int32), .int (2 : Int32)] g u (fun big n0 => sg_sx_102 big n0 g u x v) ?_
  refine q_call (M2 := 220) (rest := []) (b_ris2 (l := 0) g u (by omega)) (fun _ _ => rfl) ?_
  refine q_step 6 18 [(0, .ref 70), (1, .int (2 : Int32)), (2, .int x), (3, .int v)] [.int (Int8.toInt32 (Int8.ofInt (-4))), .int (g 84 2)] g u (fun big n0 => sg_sx_103 big n0 g u x v) ?_
  refine q_ic_ne rfl (fun (hc0 : (g 84 2) = (Int8.toInt32 (Int8.ofInt (-4)))) => ?_) (fun hc0 => absurd (show (g 84 2) = (Int8.toInt32 (Int8.ofInt (-4))) from hla) hc0)
  refine q_ret 2 (some (.int (Int8.toInt32 (Int8.ofInt (-11)))), g, u) (fun _ _ => rfl) ?_
  rfl
theorem rg_lay2f2 (g : qM) (u : qW) {x v : Int32} (hla : ¬ g 84 2 = i_none) (hin : s_in (Int32.toInt64 x) (0 : Int64) (Int32.toInt64 ((g 85 2) - (1 : Int32))) = 0) : q_BS 221 [.ref 70, .int (2 : Int32), .int x, .int v] g u (some (.int (Int8.toInt32 (Int8.ofInt (-12)))), g, u) := by
  refine q_bx (mm := m_221) rfl (Nat.le_of_ble_eq_true rfl) rfl ?_
  refine q_step 2 2 [(0, .ref 70), (1, .int (2 : Int32)), (2, .int x), (3, .int v)] [.int (0 : Int32), .int (2 : Int32)] g u (fun big n0 => sg_sx_102 big n0 g u x v) ?_
  refine q_call (M2 := 220) (rest := []) (b_ris2 (l := 0) g u (by omega)) (fun _ _ => rfl) ?_
  refine q_step 6 18 [(0, .ref 70), (1, .int (2 : Int32)), (2, .int x), (3, .int v)] [.int (Int8.toInt32 (Int8.ofInt (-4))), .int (g 84 2)] g u (fun big n0 => sg_sx_103 big n0 g u x v) ?_
  refine q_ic_ne rfl (fun hc0 => absurd (show (g 84 2) = (Int8.toInt32 (Int8.ofInt (-4))) from hc0) (hla)) (fun (hc0 : ¬ ((g 84 2) = (Int8.toInt32 (Int8.ofInt (-4))))) => ?_)
  refine q_step 10 36 [(0, .ref 70), (1, .int (2 : Int32)), (2, .int x), (3, .int v)] [.long (Int32.toInt64 ((g 85 2) - (1 : Int32))), .long (0 : Int64), .long (Int32.toInt64 x)] g u (fun big n0 => sg_sx_104 big n0 g u x v) ?_
  refine q_call (M2 := 149) (rest := []) (by have e := b_in (Int32.toInt64 x) (0 : Int64) (Int32.toInt64 ((g 85 2) - (1 : Int32))) g u; rw [hin] at e; exact e) (fun _ _ => rfl) ?_
  refine q_ret 3 (some (.int (Int8.toInt32 (Int8.ofInt (-12)))), g, u) (fun _ _ => rfl) ?_
  rfl
theorem b_ris3 (g : qM) (u : qW) {l : Nat} (hl : l ≤ 2) : q_BS 220 [.int (3 : Int32), .int (Int32.ofNat l)] g u (some (.int 1), g, u) := by
  refine q_bx (mm := m_220) rfl (Nat.le_of_ble_eq_true rfl) rfl ?_
  refine q_step 4 6 [(0, .int (3 : Int32)), (1, .int (Int32.ofNat l))] [.long (3 : Int64), .long (0 : Int64), .long (3 : Int64)] g u (fun big n0 => sg_sx_110 big n0 g u (Int32.ofNat l)) ?_
  refine q_call (M2 := 149) (rest := []) (show q_BS 149 [.long (3 : Int64), .long (0 : Int64), .long (3 : Int64)] g u (some (.int 1), g, u) from b_in _ _ _ _ _) (fun _ _ => rfl) ?_
  refine q_step 5 18 [(0, .int (3 : Int32)), (1, .int (Int32.ofNat l))] [.long (2 : Int64), .long (0 : Int64), .long (Int32.toInt64 (Int32.ofNat l))] g u (fun big n0 => sg_sx_111 big n0 g u (Int32.ofNat l)) ?_
  refine q_call (M2 := 149) (rest := []) (b_in1 (m := l) (lo := 0) (hi := 2) g u (by omega) (by omega) (by omega)) (fun _ _ => rfl) ?_
  refine q_ret 4 (some (.int (1 : Int32)), g, u) (fun _ _ => rfl) ?_
  rfl
theorem zr_3 (g : qM) (u : qW) {l z : Nat} : ∀ k i, i + k = 40 → q_EV m_219 40 [(0, .ref 70), (1, .int (3 : Int32)), (2, .int (Int32.ofNat l)), (3, .int (Int32.ofNat z)), (4, .int (Int32.ofNat i))] [] (s_zr 120 i g) u (fun R => R = (some (.int 1), s_zr 120 40 g, u)) := by
  intro k
  induction k with
  | zero =>
    intro i hi
    refine q_step 2 44 [(0, .ref 70), (1, .int (3 : Int32)), (2, .int (Int32.ofNat l)), (3, .int (Int32.ofNat z)), (4, .int (Int32.ofNat i))] [.int (40 : Int32), .int (Int32.ofNat i)] (s_zr 120 i g) u (fun big n0 => sg_sx_112 big n0 (s_zr 120 i g) u (Int32.ofNat l) (Int32.ofNat z) (Int32.ofNat i)) ?_
    refine q_ic_ge rfl (fun (hc0 : (40 : Int32) ≤ (Int32.ofNat i)) => ?_) (fun hc0 => absurd (show (40 : Int32) ≤ (Int32.ofNat i) from by have z : i = 40 := hi; exact (q_le (i := 40) (j := i) (by omega) (by omega)).mpr (by omega)) hc0)
    refine q_ret 2 (some (.int (1 : Int32)), (s_zr 120 i g), u) (fun _ _ => rfl) ?_
    rw [show i = 40 from hi]
  | succ k ih =>
    intro i hi
    refine q_step 2 44 [(0, .ref 70), (1, .int (3 : Int32)), (2, .int (Int32.ofNat l)), (3, .int (Int32.ofNat z)), (4, .int (Int32.ofNat i))] [.int (40 : Int32), .int (Int32.ofNat i)] (s_zr 120 i g) u (fun big n0 => sg_sx_112 big n0 (s_zr 120 i g) u (Int32.ofNat l) (Int32.ofNat z) (Int32.ofNat i)) ?_
    refine q_ic_ge rfl (fun hc0 => absurd (show (40 : Int32) ≤ (Int32.ofNat i) from hc0) (fun z => absurd ((q_le (i := 40) (j := i) (by omega) (by omega)).mp z) (by omega))) (fun (hc0 : ¬ ((40 : Int32) ≤ (Int32.ofNat i))) => ?_)
    refine q_step 8 59 [(0, .ref 70), (1, .int (3 : Int32)), (2, .int (Int32.ofNat l)), (3, .int (Int32.ofNat z)), (4, .int (Int32.ofNat i))] [.int (0 : Int32), .int ((120 : Int32) + (Int32.ofNat i)), .ref 86] (s_zr 120 i g) u (fun big n0 => sg_sx_113 big n0 (s_zr 120 i g) u (Int32.ofNat l) (Int32.ofNat z) (Int32.ofNat i)) ?_
    refine q_iast (j := (120 + i)) (s_rixk (K := 120) (i := i) (by omega)) rfl rfl ?_
    refine q_step 2 40 [(0, .ref 70), (1, .int (3 : Int32)), (2, .int (Int32.ofNat l)), (3, .int (Int32.ofNat z)), (4, .int ((Int32.ofNat i) + (1 : Int32)))] [] (q_up (s_zr 120 i g) 86 (120 + i) (0 : Int32)) u (fun big n0 => sg_sx_114 big n0 (q_up (s_zr 120 i g) 86 (120 + i) (0 : Int32)) u (Int32.ofNat l) (Int32.ofNat z) (Int32.ofNat i)) ?_
    rw [q_succ, show (q_up (s_zr 120 i g) 86 (120 + i) (0 : Int32)) = s_zr 120 (i + 1) g from s_zr_s]
    exact ih (i + 1) (by omega)
theorem rg_sheet3 (g : qM) (u : qW) {l z : Nat} (hl : l ≤ 2) (hz : z ≤ 40) : q_BS 219 [.ref 70, .int (3 : Int32), .int (Int32.ofNat l), .int (Int32.ofNat z)] g u (some (.int 1), s_zr 120 40 (q_up (q_up g 84 3 (Int32.ofNat l)) 85 3 (Int32.ofNat z)), u) := by
  refine q_bx (mm := m_219) rfl (Nat.le_of_ble_eq_true rfl) rfl ?_
  refine q_step 2 2 [(0, .ref 70), (1, .int (3 : Int32)), (2, .int (Int32.ofNat l)), (3, .int (Int32.ofNat z))] [.int (Int32.ofNat l), .int (3 : Int32)] g u (fun big n0 => sg_sx_115 big n0 g u (Int32.ofNat l) (Int32.ofNat z)) ?_
  refine q_call (M2 := 220) (rest := []) (b_ris3 g u hl) (fun _ _ => rfl) ?_
  refine q_step 3 11 [(0, .ref 70), (1, .int (3 : Int32)), (2, .int (Int32.ofNat l)), (3, .int (Int32.ofNat z))] [.int (40 : Int32), .int (Int32.ofNat z)] g u (fun big n0 => sg_sx_116 big n0 g u (Int32.ofNat l) (Int32.ofNat z)) ?_
  refine q_ic_le rfl (fun (hc0 : (Int32.ofNat z) ≤ (40 : Int32)) => ?_) (fun hc0 => absurd (show (Int32.ofNat z) ≤ (40 : Int32) from (q_le (i := z) (j := 40) (by omega) (by omega)).mpr (by omega)) hc0)
  refine q_step 1 17 [(0, .ref 70), (1, .int (3 : Int32)), (2, .int (Int32.ofNat l)), (3, .int (Int32.ofNat z))] [.int (Int32.ofNat z)] g u (fun big n0 => sg_sx_117 big n0 g u (Int32.ofNat l) (Int32.ofNat z)) ?_
  refine q_if_ge rfl (fun (hc1 : 0 ≤ (Int32.ofNat z)) => ?_) (fun hc1 => absurd (show 0 ≤ (Int32.ofNat z) from by rw [Int32.le_iff_toInt_le, q_nat (by omega)]; exact Int.natCast_nonneg z) hc1)
  refine q_step 12 40 [(0, .ref 70), (1, .int (3 : Int32)), (2, .int (Int32.ofNat l)), (3, .int (Int32.ofNat z)), (4, .int (0 : Int32))] [] (q_up (q_up g 84 3 (Int32.ofNat l)) 85 3 (Int32.ofNat z)) u (fun big n0 => sg_sx_118 big n0 g u (Int32.ofNat l) (Int32.ofNat z)) ?_
  have e := zr_3 (q_up (q_up g 84 3 (Int32.ofNat l)) 85 3 (Int32.ofNat z)) u (l := l) (z := z) 40 0 (by omega)
  rw [s_zr_0] at e
  exact e
theorem rg_sheetn3 (g : qM) (u : qW) {l : Nat} {y : Int32} (hl : l ≤ 2) (hy : y < 0) : q_BS 219 [.ref 70, .int (3 : Int32), .int (Int32.ofNat l), .int y] g u (some (.int (Int8.toInt32 (Int8.ofInt (-14)))), g, u) := by
  refine q_bx (mm := m_219) rfl (Nat.le_of_ble_eq_true rfl) rfl ?_
  refine q_step 2 2 [(0, .ref 70), (1, .int (3 : Int32)), (2, .int (Int32.ofNat l)), (3, .int y)] [.int (Int32.ofNat l), .int (3 : Int32)] g u (fun big n0 => sg_sx_115 big n0 g u (Int32.ofNat l) y) ?_
  refine q_call (M2 := 220) (rest := []) (b_ris3 g u hl) (fun _ _ => rfl) ?_
  refine q_step 3 11 [(0, .ref 70), (1, .int (3 : Int32)), (2, .int (Int32.ofNat l)), (3, .int y)] [.int (40 : Int32), .int y] g u (fun big n0 => sg_sx_116 big n0 g u (Int32.ofNat l) y) ?_
  refine q_ic_le rfl (fun (hc0 : y ≤ (40 : Int32)) => ?_) (fun hc0 => absurd (show y ≤ (40 : Int32) from by have z := Int32.lt_iff_toInt_lt.mp hy; rw [Int32.le_iff_toInt_le]; have z0 : (0 : Int32).toInt = 0 := rfl; have z4 : (40 : Int32).toInt = 40 := rfl; omega) hc0)
  refine q_step 1 17 [(0, .ref 70), (1, .int (3 : Int32)), (2, .int (Int32.ofNat l)), (3, .int y)] [.int y] g u (fun big n0 => sg_sx_117 big n0 g u (Int32.ofNat l) y) ?_
  refine q_if_ge rfl (fun hc1 => absurd (show 0 ≤ y from hc1) (Int32.not_le.mpr hy)) (fun (hc1 : ¬ (0 ≤ y)) => ?_)
  refine q_ret 2 (some (.int (Int8.toInt32 (Int8.ofInt (-14)))), g, u) (fun _ _ => rfl) ?_
  rfl
theorem cw_write3 (g : qM) (u : qW) {i z : Nat} {v : Int32} (hz : z ≤ 40) (hsz : g 68 1 = Int32.ofNat z) (hi : i < z) : q_BS 137 [.ref 68, .int (Int32.ofNat i), .int v] g u (none, q_up g 69 i (s_ln (g 68 2) v), u) := by
  refine q_bx (mm := m_137) rfl (Nat.le_of_ble_eq_true rfl) rfl ?_
  refine q_step 1 1 [(0, .ref 68), (1, .int (Int32.ofNat i)), (2, .int v)] [.int (Int32.ofNat i)] g u (fun big n0 => sg_sx_119 big n0 g u (Int32.ofNat i) v) ?_
  refine q_if_lt rfl (fun hc0 => absurd (show (Int32.ofNat i) < 0 from hc0) (fun z => absurd ((q_lt (i := i) (j := 0) (by omega) (by omega)).mp z) (by omega))) (fun (hc0 : ¬ ((Int32.ofNat i) < 0)) => ?_)
  refine q_step 3 9 [(0, .ref 68), (1, .int (Int32.ofNat i)), (2, .int v)] [.int (g 68 1), .int (Int32.ofNat i)] g u (fun big n0 => sg_sx_120 big n0 g u (Int32.ofNat i) v) ?_
  refine q_ic_ge rfl (fun hc1 => absurd (show (g 68 1) ≤ (Int32.ofNat i) from hc1) (by rw [hsz]; exact fun q => absurd ((q_le (i := z) (j := i) (by omega) (by omega)).mp q) (by omega))) (fun (hc1 : ¬ ((g 68 1) ≤ (Int32.ofNat i))) => ?_)
  refine q_step 5 21 [(0, .ref 68), (1, .int (Int32.ofNat i)), (2, .int v)] [.int (g 68 2), .int (Int32.ofNat i), .ref 69] g u (fun big n0 => sg_sx_121 big n0 g u (Int32.ofNat i) v) ?_
  refine q_if_ne rfl (fun (hc2 : (g 68 2) = 0) => ?_) (fun (hc2 : ¬ ((g 68 2) = 0)) => ?_)
  · refine q_step 3 43 [(0, .ref 68), (1, .int (Int32.ofNat i)), (2, .int v)] [.int (Int8.toInt32 (Int32.toInt8 v)), .int (Int32.ofNat i), .ref 69] g u (fun big n0 => sg_sx_122 big n0 g u (Int32.ofNat i) v (Int32.ofNat i)) ?_
    refine q_iast (j := i) (q_ixn (by omega) (by omega)) rfl rfl ?_
    refine q_ret 1 (none, (q_up g 69 i (Int8.toInt32 (Int32.toInt8 v))), u) (fun _ _ => rfl) ?_
    unfold s_ln
    rw [if_pos hc2]
  · refine q_step 3 34 [(0, .ref 68), (1, .int (Int32.ofNat i)), (2, .int v)] [.int (1 : Int32), .int (g 68 2), .int (Int32.ofNat i), .ref 69] g u (fun big n0 => sg_sx_123 big n0 g u (Int32.ofNat i) v (Int32.ofNat i)) ?_
    refine q_ic_ne rfl (fun (hc3 : (g 68 2) = (1 : Int32)) => ?_) (fun (hc3 : ¬ ((g 68 2) = (1 : Int32))) => ?_)
    · refine q_step 3 43 [(0, .ref 68), (1, .int (Int32.ofNat i)), (2, .int v)] [.int (Int16.toInt32 (Int32.toInt16 v)), .int (Int32.ofNat i), .ref 69] g u (fun big n0 => sg_sx_124 big n0 g u (Int32.ofNat i) v (Int32.ofNat i)) ?_
      refine q_iast (j := i) (q_ixn (by omega) (by omega)) rfl rfl ?_
      refine q_ret 1 (none, (q_up g 69 i (Int16.toInt32 (Int32.toInt16 v))), u) (fun _ _ => rfl) ?_
      unfold s_ln
      rw [if_neg hc2, if_pos hc3]
    · refine q_step 1 43 [(0, .ref 68), (1, .int (Int32.ofNat i)), (2, .int v)] [.int v, .int (Int32.ofNat i), .ref 69] g u (fun big n0 => sg_sx_125 big n0 g u (Int32.ofNat i) v (Int32.ofNat i)) ?_
      refine q_iast (j := i) (q_ixn (by omega) (by omega)) rfl rfl ?_
      refine q_ret 1 (none, (q_up g 69 i v), u) (fun _ _ => rfl) ?_
      unfold s_ln
      rw [if_neg hc2, if_neg hc3]
theorem cg_lay3 (g : qM) (u : qW) {i z : Nat} {v : Int32} (hz : z ≤ 40) (hsz : g 68 1 = Int32.ofNat z) (hi : i < z) (hf : d_faultAt3 (Int32.ofNat i) g = 0) : q_BS 134 [.ref 8, .int (3 : Int32), .int (Int32.ofNat i), .int v] g u (some (.int 1), q_up g 69 i (s_ln (g 68 2) v), u) := by
  refine q_bx (mm := m_134) rfl (Nat.le_of_ble_eq_true rfl) rfl ?_
  refine q_step 1 1 [(0, .ref 8), (1, .int (3 : Int32)), (2, .int (Int32.ofNat i)), (3, .int v)] [.int (3 : Int32)] g u (fun big n0 => sg_sx_126 big n0 g u (Int32.ofNat i) v) ?_
  refine q_call (M2 := 131) (rest := []) (show q_BS 131 [.int (3 : Int32)] g u (some (.int 1), g, u) from b_isSheet _ g u) (fun _ _ => rfl) ?_
  refine q_step 6 16 [(0, .ref 8), (1, .int (3 : Int32)), (2, .int (Int32.ofNat i)), (3, .int v)] [.int (Int32.ofNat i), .ref 68] g u (fun big n0 => sg_sx_127 big n0 g u (Int32.ofNat i) v) ?_
  have hfa := b_faultAt3 ((Int32.ofNat i)) g u
  rw [hf] at hfa
  refine q_call (M2 := 135) (rest := []) (hfa) (fun _ _ => rfl) ?_
  refine q_step 9 40 [(0, .ref 8), (1, .int (3 : Int32)), (2, .int (Int32.ofNat i)), (3, .int v), (4, .int (0 : Int32))] [.int v, .int (Int32.ofNat i), .ref 68] g u (fun big n0 => sg_sx_128 big n0 g u (Int32.ofNat i) v) ?_
  refine q_call (M2 := 137) (rest := []) (cw_write3 g u hz hsz hi) (fun _ _ => rfl) ?_
  refine q_ret 2 (some (.int (1 : Int32)), (q_up g 69 i (s_ln (g 68 2) v)), u) (fun _ _ => rfl) ?_
  rfl
theorem cg_lay3f1 (g : qM) (u : qW) {x v : Int32} (hf : d_faultAt3 x g = 1) : q_BS 134 [.ref 8, .int (3 : Int32), .int x, .int v] g u (some (.int (Int8.toInt32 (Int8.ofInt (-11)))), g, u) := by
  refine q_bx (mm := m_134) rfl (Nat.le_of_ble_eq_true rfl) rfl ?_
  refine q_step 1 1 [(0, .ref 8), (1, .int (3 : Int32)), (2, .int x), (3, .int v)] [.int (3 : Int32)] g u (fun big n0 => sg_sx_126 big n0 g u x v) ?_
  refine q_call (M2 := 131) (rest := []) (show q_BS 131 [.int (3 : Int32)] g u (some (.int 1), g, u) from b_isSheet _ g u) (fun _ _ => rfl) ?_
  refine q_step 6 16 [(0, .ref 8), (1, .int (3 : Int32)), (2, .int x), (3, .int v)] [.int x, .ref 68] g u (fun big n0 => sg_sx_127 big n0 g u x v) ?_
  have hfa := b_faultAt3 (x) g u
  rw [hf] at hfa
  refine q_call (M2 := 135) (rest := []) (hfa) (fun _ _ => rfl) ?_
  refine q_ret 7 (some (.int ((Int8.toInt32 (Int8.ofInt (-10))) - (1 : Int32))), g, u) (fun _ _ => rfl) ?_
  rfl
theorem cg_lay3f2 (g : qM) (u : qW) {x v : Int32} (hf : d_faultAt3 x g = 2) : q_BS 134 [.ref 8, .int (3 : Int32), .int x, .int v] g u (some (.int (Int8.toInt32 (Int8.ofInt (-12)))), g, u) := by
  refine q_bx (mm := m_134) rfl (Nat.le_of_ble_eq_true rfl) rfl ?_
  refine q_step 1 1 [(0, .ref 8), (1, .int (3 : Int32)), (2, .int x), (3, .int v)] [.int (3 : Int32)] g u (fun big n0 => sg_sx_126 big n0 g u x v) ?_
  refine q_call (M2 := 131) (rest := []) (show q_BS 131 [.int (3 : Int32)] g u (some (.int 1), g, u) from b_isSheet _ g u) (fun _ _ => rfl) ?_
  refine q_step 6 16 [(0, .ref 8), (1, .int (3 : Int32)), (2, .int x), (3, .int v)] [.int x, .ref 68] g u (fun big n0 => sg_sx_127 big n0 g u x v) ?_
  have hfa := b_faultAt3 (x) g u
  rw [hf] at hfa
  refine q_call (M2 := 135) (rest := []) (hfa) (fun _ _ => rfl) ?_
  refine q_ret 7 (some (.int ((Int8.toInt32 (Int8.ofInt (-10))) - (2 : Int32))), g, u) (fun _ _ => rfl) ?_
  rfl
theorem rg_lay3 (g : qM) (u : qW) {i z l : Nat} {v : Int32} (hz : z ≤ 40) (hl : l ≤ 2) (hsz : g 85 3 = Int32.ofNat z) (hla : g 84 3 = Int32.ofNat l) (hi : i < z) : q_BS 221 [.ref 70, .int (3 : Int32), .int (Int32.ofNat i), .int v] g u (some (.int 1), q_up g 86 (120 + i) (s_ln (g 84 3) v), u) := by
  refine q_bx (mm := m_221) rfl (Nat.le_of_ble_eq_true rfl) rfl ?_
  refine q_step 2 2 [(0, .ref 70), (1, .int (3 : Int32)), (2, .int (Int32.ofNat i)), (3, .int v)] [.int (0 : Int32), .int (3 : Int32)] g u (fun big n0 => sg_sx_129 big n0 g u (Int32.ofNat i) v) ?_
  refine q_call (M2 := 220) (rest := []) (b_ris3 (l := 0) g u (by omega)) (fun _ _ => rfl) ?_
  refine q_step 6 18 [(0, .ref 70), (1, .int (3 : Int32)), (2, .int (Int32.ofNat i)), (3, .int v)] [.int (Int8.toInt32 (Int8.ofInt (-4))), .int (g 84 3)] g u (fun big n0 => sg_sx_130 big n0 g u (Int32.ofNat i) v) ?_
  refine q_ic_ne rfl (fun hc0 => absurd (show (g 84 3) = (Int8.toInt32 (Int8.ofInt (-4))) from hc0) (by rw [hla]; exact q_none_ne (by omega))) (fun (hc0 : ¬ ((g 84 3) = (Int8.toInt32 (Int8.ofInt (-4))))) => ?_)
  refine q_step 10 36 [(0, .ref 70), (1, .int (3 : Int32)), (2, .int (Int32.ofNat i)), (3, .int v)] [.long (Int32.toInt64 ((g 85 3) - (1 : Int32))), .long (0 : Int64), .long (Int32.toInt64 (Int32.ofNat i))] g u (fun big n0 => sg_sx_131 big n0 g u (Int32.ofNat i) v) ?_
  have hin : s_in (Int32.toInt64 (Int32.ofNat i)) (0 : Int64) (Int32.toInt64 ((g 85 3) - (1 : Int32))) = 1 := by
    rcases s_in_01 (Int32.toInt64 (Int32.ofNat i)) (0 : Int64) (Int32.toInt64 ((g 85 3) - (1 : Int32))) with q | q
    · refine absurd q (s_in_i.mpr ?_)
      have e1 : (1 : Int32).toInt = 1 := rfl
      have e0 : (0 : Int64).toInt = 0 := rfl
      rw [Int32.toInt_toInt64, hsz, s_sub (by rw [q_nat (by omega), e1]; omega) (by rw [q_nat (by omega), e1]; omega), q_nat (by omega), q_nat (by omega), e1, e0]
      omega
    · exact q
  refine q_call (M2 := 149) (rest := []) (by have e := b_in (Int32.toInt64 (Int32.ofNat i)) (0 : Int64) (Int32.toInt64 ((g 85 3) - (1 : Int32))) g u; rw [hin] at e; exact e) (fun _ _ => rfl) ?_
  refine q_step 12 61 [(0, .ref 70), (1, .int (3 : Int32)), (2, .int (Int32.ofNat i)), (3, .int v)] [.int (g 84 3), .int ((120 : Int32) + (Int32.ofNat i)), .ref 86] g u (fun big n0 => sg_sx_132 big n0 g u (Int32.ofNat i) v) ?_
  refine q_if_ne rfl (fun (hc1 : (g 84 3) = 0) => ?_) (fun (hc1 : ¬ ((g 84 3) = 0)) => ?_)
  · refine q_step 3 85 [(0, .ref 70), (1, .int (3 : Int32)), (2, .int (Int32.ofNat i)), (3, .int v)] [.int (Int8.toInt32 (Int32.toInt8 v)), .int ((120 : Int32) + (Int32.ofNat i)), .ref 86] g u (fun big n0 => sg_sx_133 big n0 g u (Int32.ofNat i) v ((120 : Int32) + (Int32.ofNat i))) ?_
    refine q_iast (j := (120 + i)) (s_rixk (K := 120) (i := i) (by omega)) rfl rfl ?_
    refine q_ret 2 (some (.int (1 : Int32)), (q_up g 86 (120 + i) (Int8.toInt32 (Int32.toInt8 v))), u) (fun _ _ => rfl) ?_
    unfold s_ln
    rw [if_pos hc1]
  · refine q_step 5 76 [(0, .ref 70), (1, .int (3 : Int32)), (2, .int (Int32.ofNat i)), (3, .int v)] [.int (1 : Int32), .int (g 84 3), .int ((120 : Int32) + (Int32.ofNat i)), .ref 86] g u (fun big n0 => sg_sx_134 big n0 g u (Int32.ofNat i) v ((120 : Int32) + (Int32.ofNat i))) ?_
    refine q_ic_ne rfl (fun (hc2 : (g 84 3) = (1 : Int32)) => ?_) (fun (hc2 : ¬ ((g 84 3) = (1 : Int32))) => ?_)
    · refine q_step 3 85 [(0, .ref 70), (1, .int (3 : Int32)), (2, .int (Int32.ofNat i)), (3, .int v)] [.int (Int16.toInt32 (Int32.toInt16 v)), .int ((120 : Int32) + (Int32.ofNat i)), .ref 86] g u (fun big n0 => sg_sx_135 big n0 g u (Int32.ofNat i) v ((120 : Int32) + (Int32.ofNat i))) ?_
      refine q_iast (j := (120 + i)) (s_rixk (K := 120) (i := i) (by omega)) rfl rfl ?_
      refine q_ret 2 (some (.int (1 : Int32)), (q_up g 86 (120 + i) (Int16.toInt32 (Int32.toInt16 v))), u) (fun _ _ => rfl) ?_
      unfold s_ln
      rw [if_neg hc1, if_pos hc2]
    · refine q_step 1 85 [(0, .ref 70), (1, .int (3 : Int32)), (2, .int (Int32.ofNat i)), (3, .int v)] [.int v, .int ((120 : Int32) + (Int32.ofNat i)), .ref 86] g u (fun big n0 => sg_sx_136 big n0 g u (Int32.ofNat i) v ((120 : Int32) + (Int32.ofNat i))) ?_
      refine q_iast (j := (120 + i)) (s_rixk (K := 120) (i := i) (by omega)) rfl rfl ?_
      refine q_ret 2 (some (.int (1 : Int32)), (q_up g 86 (120 + i) v), u) (fun _ _ => rfl) ?_
      unfold s_ln
      rw [if_neg hc1, if_neg hc2]
theorem rg_lay3f1 (g : qM) (u : qW) {x v : Int32} (hla : g 84 3 = i_none) : q_BS 221 [.ref 70, .int (3 : Int32), .int x, .int v] g u (some (.int (Int8.toInt32 (Int8.ofInt (-11)))), g, u) := by
  refine q_bx (mm := m_221) rfl (Nat.le_of_ble_eq_true rfl) rfl ?_
  refine q_step 2 2 [(0, .ref 70), (1, .int (3 : Int32)), (2, .int x), (3, .int v)] [.int (0 : Int32), .int (3 : Int32)] g u (fun big n0 => sg_sx_129 big n0 g u x v) ?_
  refine q_call (M2 := 220) (rest := []) (b_ris3 (l := 0) g u (by omega)) (fun _ _ => rfl) ?_
  refine q_step 6 18 [(0, .ref 70), (1, .int (3 : Int32)), (2, .int x), (3, .int v)] [.int (Int8.toInt32 (Int8.ofInt (-4))), .int (g 84 3)] g u (fun big n0 => sg_sx_130 big n0 g u x v) ?_
  refine q_ic_ne rfl (fun (hc0 : (g 84 3) = (Int8.toInt32 (Int8.ofInt (-4)))) => ?_) (fun hc0 => absurd (show (g 84 3) = (Int8.toInt32 (Int8.ofInt (-4))) from hla) hc0)
  refine q_ret 2 (some (.int (Int8.toInt32 (Int8.ofInt (-11)))), g, u) (fun _ _ => rfl) ?_
  rfl
theorem rg_lay3f2 (g : qM) (u : qW) {x v : Int32} (hla : ¬ g 84 3 = i_none) (hin : s_in (Int32.toInt64 x) (0 : Int64) (Int32.toInt64 ((g 85 3) - (1 : Int32))) = 0) : q_BS 221 [.ref 70, .int (3 : Int32), .int x, .int v] g u (some (.int (Int8.toInt32 (Int8.ofInt (-12)))), g, u) := by
  refine q_bx (mm := m_221) rfl (Nat.le_of_ble_eq_true rfl) rfl ?_
  refine q_step 2 2 [(0, .ref 70), (1, .int (3 : Int32)), (2, .int x), (3, .int v)] [.int (0 : Int32), .int (3 : Int32)] g u (fun big n0 => sg_sx_129 big n0 g u x v) ?_
  refine q_call (M2 := 220) (rest := []) (b_ris3 (l := 0) g u (by omega)) (fun _ _ => rfl) ?_
  refine q_step 6 18 [(0, .ref 70), (1, .int (3 : Int32)), (2, .int x), (3, .int v)] [.int (Int8.toInt32 (Int8.ofInt (-4))), .int (g 84 3)] g u (fun big n0 => sg_sx_130 big n0 g u x v) ?_
  refine q_ic_ne rfl (fun hc0 => absurd (show (g 84 3) = (Int8.toInt32 (Int8.ofInt (-4))) from hc0) (hla)) (fun (hc0 : ¬ ((g 84 3) = (Int8.toInt32 (Int8.ofInt (-4))))) => ?_)
  refine q_step 10 36 [(0, .ref 70), (1, .int (3 : Int32)), (2, .int x), (3, .int v)] [.long (Int32.toInt64 ((g 85 3) - (1 : Int32))), .long (0 : Int64), .long (Int32.toInt64 x)] g u (fun big n0 => sg_sx_131 big n0 g u x v) ?_
  refine q_call (M2 := 149) (rest := []) (by have e := b_in (Int32.toInt64 x) (0 : Int64) (Int32.toInt64 ((g 85 3) - (1 : Int32))) g u; rw [hin] at e; exact e) (fun _ _ => rfl) ?_
  refine q_ret 3 (some (.int (Int8.toInt32 (Int8.ofInt (-12)))), g, u) (fun _ _ => rfl) ?_
  rfl
theorem cg_count0 {n : Nat} (g : qM) (u : qW) (hn : g 20 3 = Int32.ofNat n) (h6 : n ≤ 6) : q_BS 143 [.ref 8, .int (0 : Int32)] g u (some (.int (s_ct (fun p => if g 21 p = g 24 p then (1 : Int32) else 0) n 0 0)), g, u) := by
  refine q_bx (mm := m_143) rfl (Nat.le_of_ble_eq_true rfl) rfl ?_
  refine q_step 4 48 [(0, .ref 8), (1, .int (0 : Int32))] [.ref 20] g u (fun big n0 => sg_sx_137 big n0 g u) ?_
  refine q_call (M2 := 78) (rest := []) (b_atg20 g u hn h6) (fun _ _ => rfl) ?_
  refine q_ret 1 (some (.int (s_ct (fun p => if g 21 p = g 24 p then (1 : Int32) else 0) n 0 0)), g, u) (fun _ _ => rfl) ?_
  rfl
theorem cg_count1 {n : Nat} (g : qM) (u : qW) (hn : g 20 3 = Int32.ofNat n) (h6 : n ≤ 6) : q_BS 143 [.ref 8, .int (1 : Int32)] g u (some (.int (s_ct (fun p => if g 24 p = i_none then (0 : Int32) else 1) n 0 0)), g, u) := by
  refine q_bx (mm := m_143) rfl (Nat.le_of_ble_eq_true rfl) rfl ?_
  refine q_step 4 56 [(0, .ref 8), (1, .int (1 : Int32))] [.ref 20] g u (fun big n0 => sg_sx_138 big n0 g u) ?_
  refine q_call (M2 := 100) (rest := []) (b_wig20 g u hn h6) (fun _ _ => rfl) ?_
  refine q_ret 1 (some (.int (s_ct (fun p => if g 24 p = i_none then (0 : Int32) else 1) n 0 0)), g, u) (fun _ _ => rfl) ?_
  rfl
theorem cg_count2 {n : Nat} (g : qM) (u : qW) (hn : g 20 3 = Int32.ofNat n) (h6 : n ≤ 6) : q_BS 143 [.ref 8, .int (2 : Int32)] g u (some (.int (g 20 6)), g, u) := by
  refine q_bx (mm := m_143) rfl (Nat.le_of_ble_eq_true rfl) rfl ?_
  refine q_ret 6 (some (.int (g 20 6)), g, u) (fun _ _ => rfl) ?_
  rfl
theorem cg_count3 {n : Nat} (g : qM) (u : qW) (hn : g 20 3 = Int32.ofNat n) (h6 : n ≤ 6) : q_BS 143 [.ref 8, .int (3 : Int32)] g u (some (.int (d_bc (g 8 7) g)), g, u) := by
  refine q_bx (mm := m_143) rfl (Nat.le_of_ble_eq_true rfl) rfl ?_
  refine q_step 4 72 [(0, .ref 8), (1, .int (3 : Int32))] [.int (g 8 7)] g u (fun big n0 => sg_sx_139 big n0 g u) ?_
  refine q_call (M2 := 127) (rest := []) (b_bc _ g u) (fun _ _ => rfl) ?_
  refine q_ret 1 (some (.int (d_bc (g 8 7) g)), g, u) (fun _ _ => rfl) ?_
  rfl
theorem cg_count4 {n : Nat} (g : qM) (u : qW) (hn : g 20 3 = Int32.ofNat n) (h6 : n ≤ 6) : q_BS 143 [.ref 8, .int (4 : Int32)] g u (some (.int (g 9 1)), g, u) := by
  refine q_bx (mm := m_143) rfl (Nat.le_of_ble_eq_true rfl) rfl ?_
  refine q_ret 6 (some (.int (g 9 1)), g, u) (fun _ _ => rfl) ?_
  rfl
theorem cg_count5 {n : Nat} (g : qM) (u : qW) (hn : g 20 3 = Int32.ofNat n) (h6 : n ≤ 6) : q_BS 143 [.ref 8, .int (5 : Int32)] g u (some (.int (if d_isNothing0 g = 0 then g 62 1 else i_none)), g, u) := by
  refine q_bx (mm := m_143) rfl (Nat.le_of_ble_eq_true rfl) rfl ?_
  refine q_step 6 90 [(0, .ref 8), (1, .int (5 : Int32))] [.ref 62] g u (fun big n0 => sg_sx_140 big n0 g u) ?_
  refine q_call (M2 := 136) (rest := []) (b_isNothing0 g u) (fun _ _ => rfl) ?_
  refine q_if_eq rfl (fun (hc0 : (d_isNothing0 g) = 0) => ?_) (fun (hc0 : ¬ ((d_isNothing0 g) = 0)) => ?_)
  · refine q_ret 6 (some (.int (g 62 1)), g, u) (fun _ _ => rfl) ?_
    rw [if_pos hc0]
  · refine q_ret 3 (some (.int (Int8.toInt32 (Int8.ofInt (-4)))), g, u) (fun _ _ => rfl) ?_
    rw [if_neg hc0]
theorem cg_count6 {n : Nat} (g : qM) (u : qW) (hn : g 20 3 = Int32.ofNat n) (h6 : n ≤ 6) : q_BS 143 [.ref 8, .int (6 : Int32)] g u (some (.int (s_ct (fun p => if g 22 p = 0 then (1 : Int32) else 0) n 0 0)), g, u) := by
  refine q_bx (mm := m_143) rfl (Nat.le_of_ble_eq_true rfl) rfl ?_
  refine q_step 4 115 [(0, .ref 8), (1, .int (6 : Int32))] [.ref 20] g u (fun big n0 => sg_sx_141 big n0 g u) ?_
  refine q_call (M2 := 144) (rest := []) (b_wim20 g u hn h6) (fun _ _ => rfl) ?_
  refine q_ret 1 (some (.int (s_ct (fun p => if g 22 p = 0 then (1 : Int32) else 0) n 0 0)), g, u) (fun _ _ => rfl) ?_
  rfl
theorem cb_count (g : qM) (u : qW) {x : Int32} (hx : x.toInt < 0 ∨ 6 < x.toInt) : q_BS 143 [.ref 8, .int x] g u (some (.int (Int32.ofInt (-1))), g, u) := by
  refine q_bx (mm := m_143) rfl (Nat.le_of_ble_eq_true rfl) rfl ?_
  refine q_step 1 1 [(0, .ref 8), (1, .int x)] [.int x] g u (fun big n0 => sg_sx_142 big n0 g u x) ?_
  refine q_tswd (tgt := 119) rfl (hx) (by decide) ?_
  refine q_ret 2 (some (.int (Int32.ofInt (-1))), g, u) (fun _ _ => rfl) ?_
  rfl
theorem rct (g : qM) (u : qW) {n : Nat} {wh : Int32} (hn : g 70 4 = Int32.ofNat n) (h6 : n ≤ 6) {Q : Option Value × qM × qW → Prop} : ∀ k i a, i + k = n → q_EV m_224 44 [(0, .ref 70), (1, .int wh), (2, .int (s_ct (p_nom g) k i a)), (3, .int (Int32.ofNat n))] [] g u Q → q_EV m_224 8 [(0, .ref 70), (1, .int wh), (2, .int a), (3, .int (Int32.ofNat i))] [] g u Q := by
  intro k
  induction k with
  | zero =>
    intro i a hi hk
    refine q_step 3 13 [(0, .ref 70), (1, .int wh), (2, .int a), (3, .int (Int32.ofNat i))] [.int (g 70 4), .int (Int32.ofNat i)] g u (fun big n0 => sg_sx_143 big n0 g u wh a (Int32.ofNat i)) ?_
    refine q_ic_ge rfl (fun (hc0 : (g 70 4) ≤ (Int32.ofNat i)) => ?_) (fun hc0 => absurd (show (g 70 4) ≤ (Int32.ofNat i) from by rw [hn]; exact (q_le (by omega) (by omega)).mpr (by omega)) hc0)
    have e : i = n := by omega
    rw [e]
    rw [e] at hk
    exact hk
  | succ k ih =>
    intro i a hi hk
    refine q_step 3 13 [(0, .ref 70), (1, .int wh), (2, .int a), (3, .int (Int32.ofNat i))] [.int (g 70 4), .int (Int32.ofNat i)] g u (fun big n0 => sg_sx_143 big n0 g u wh a (Int32.ofNat i)) ?_
    refine q_ic_ge rfl (fun hc0 => absurd (show (g 70 4) ≤ (Int32.ofNat i) from hc0) (fun z => by rw [hn] at z; exact absurd ((q_le (by omega) (by omega)).mp z) (by omega))) (fun (hc0 : ¬ ((g 70 4) ≤ (Int32.ofNat i))) => ?_)
    refine q_step 6 24 [(0, .ref 70), (1, .int wh), (2, .int a), (3, .int (Int32.ofNat i))] [.int ((5 : Int32) + (Int32.ofNat i)), .ref 71, .int a] g u (fun big n0 => sg_sx_144 big n0 g u wh a (Int32.ofNat i)) ?_
    refine q_iald (j := (5 + i)) (s_rixn (K := 5) (i := i) (by omega)) rfl rfl ?_
    refine q_if_ne rfl (fun (hc1 : (g 71 (5 + i)) = 0) => ?_) (fun (hc1 : ¬ ((g 71 (5 + i)) = 0)) => ?_)
    · refine q_step 2 33 [(0, .ref 70), (1, .int wh), (2, .int a), (3, .int (Int32.ofNat i))] [.int (1 : Int32), .int a] g u (fun big n0 => sg_sx_145 big n0 g u wh a (Int32.ofNat i) a) ?_
      refine q_call (M2 := 164) (rest := [.int a]) (b_flag1 _ _) (fun _ _ => rfl) ?_
      refine q_step 4 8 [(0, .ref 70), (1, .int wh), (2, .int (a + (1 : Int32))), (3, .int ((Int32.ofNat i) + (1 : Int32)))] [] g u (fun big n0 => sg_sx_146 big n0 g u wh a (Int32.ofNat i) a) ?_
      rw [s_ct_s (P := p_nom g) (i := i) (by unfold p_nom; exact if_pos hc1)] at hk
      rw [q_succ]
      exact ih (i + 1) _ (by omega) hk
    · refine q_step 1 33 [(0, .ref 70), (1, .int wh), (2, .int a), (3, .int (Int32.ofNat i))] [.int (0 : Int32), .int a] g u (fun big n0 => sg_sx_147 big n0 g u wh a (Int32.ofNat i) a) ?_
      refine q_call (M2 := 164) (rest := [.int a]) (b_flag0 _ _) (fun _ _ => rfl) ?_
      refine q_step 4 8 [(0, .ref 70), (1, .int wh), (2, .int (a + (0 : Int32))), (3, .int ((Int32.ofNat i) + (1 : Int32)))] [] g u (fun big n0 => sg_sx_148 big n0 g u wh a (Int32.ofNat i) a) ?_
      rw [s_ct_s (P := p_nom g) (i := i) (by unfold p_nom; exact if_neg hc1)] at hk
      rw [q_succ]
      exact ih (i + 1) _ (by omega) hk
theorem rg_count0 {n W H : Nat} {g r : qM} (u : qW) (h : w_ok n W H r) (hs : w_sm n (s_start g) r) (hn : g 70 4 = Int32.ofNat n) (h6 : n ≤ 5) : q_BS 224 [.ref 70, .int (0 : Int32)] g u (some (.int (f_at n (s_start g))), s_start g, u) := by
  refine q_bx (mm := m_224) rfl (Nat.le_of_ble_eq_true rfl) rfl ?_
  refine q_step 1 1 [(0, .ref 70), (1, .int (0 : Int32))] [.ref 70] g u (fun big n0 => sg_sx_149 big n0 g u) ?_
  refine q_call (M2 := 172) (rest := []) (b_starts g u) (fun _ _ => rfl) ?_
  refine q_step 4 8 [(0, .ref 70), (1, .int (0 : Int32)), (2, .int (0 : Int32)), (3, .int (0 : Int32))] [] (s_start g) u (fun big n0 => sg_sx_150 big n0 (s_start g) u) ?_
  refine rct (s_start g) u (n := n) hn (by omega) n 0 0 (by omega) ?_
  refine q_step 3 89 [(0, .ref 70), (1, .int (0 : Int32)), (2, .int (s_ct (p_nom (s_start g)) n 0 0)), (3, .int (Int32.ofNat n))] [.ref 70] (s_start g) u (fun big n0 => sg_sx_151 big n0 (s_start g) u (s_ct (p_nom (s_start g)) n 0 0) (Int32.ofNat n)) ?_
  refine q_call (M2 := 197) (rest := []) (b_ratg (s_start g) u (w_w0 h hs).1 (by omega)) (fun _ _ => rfl) ?_
  refine q_ret 1 (some (.int (f_at n (s_start g))), (s_start g), u) (fun _ _ => rfl) ?_
  rfl
theorem rg_count1 {n W H : Nat} {g r : qM} (u : qW) (h : w_ok n W H r) (hs : w_sm n (s_start g) r) (hn : g 70 4 = Int32.ofNat n) (h6 : n ≤ 5) : q_BS 224 [.ref 70, .int (1 : Int32)] g u (some (.int (s_ct (p_hvs (s_start g)) n 0 0)), s_start g, u) := by
  refine q_bx (mm := m_224) rfl (Nat.le_of_ble_eq_true rfl) rfl ?_
  refine q_step 1 1 [(0, .ref 70), (1, .int (1 : Int32))] [.ref 70] g u (fun big n0 => sg_sx_152 big n0 g u) ?_
  refine q_call (M2 := 172) (rest := []) (b_starts g u) (fun _ _ => rfl) ?_
  refine q_step 4 8 [(0, .ref 70), (1, .int (1 : Int32)), (2, .int (0 : Int32)), (3, .int (0 : Int32))] [] (s_start g) u (fun big n0 => sg_sx_153 big n0 (s_start g) u) ?_
  refine rct (s_start g) u (n := n) hn (by omega) n 0 0 (by omega) ?_
  refine q_step 3 94 [(0, .ref 70), (1, .int (1 : Int32)), (2, .int (s_ct (p_nom (s_start g)) n 0 0)), (3, .int (Int32.ofNat n))] [.ref 70] (s_start g) u (fun big n0 => sg_sx_154 big n0 (s_start g) u (s_ct (p_nom (s_start g)) n 0 0) (Int32.ofNat n)) ?_
  refine q_call (M2 := 205) (rest := []) (b_hvs (s_start g) u hn (by omega)) (fun _ _ => rfl) ?_
  refine q_ret 1 (some (.int (s_ct (p_hvs (s_start g)) n 0 0)), (s_start g), u) (fun _ _ => rfl) ?_
  rfl
theorem rg_count2 {n W H : Nat} {g r : qM} (u : qW) (h : w_ok n W H r) (hs : w_sm n (s_start g) r) (hn : g 70 4 = Int32.ofNat n) (h6 : n ≤ 5) : q_BS 224 [.ref 70, .int (2 : Int32)] g u (some (.int (g 71 27)), s_start g, u) := by
  refine q_bx (mm := m_224) rfl (Nat.le_of_ble_eq_true rfl) rfl ?_
  refine q_step 1 1 [(0, .ref 70), (1, .int (2 : Int32))] [.ref 70] g u (fun big n0 => sg_sx_155 big n0 g u) ?_
  refine q_call (M2 := 172) (rest := []) (b_starts g u) (fun _ _ => rfl) ?_
  refine q_step 4 8 [(0, .ref 70), (1, .int (2 : Int32)), (2, .int (0 : Int32)), (3, .int (0 : Int32))] [] (s_start g) u (fun big n0 => sg_sx_156 big n0 (s_start g) u) ?_
  refine rct (s_start g) u (n := n) hn (by omega) n 0 0 (by omega) ?_
  refine q_ret 7 (some (.int ((s_start g) 71 27)), (s_start g), u) (fun _ _ => rfl) ?_
  rfl
theorem rg_count3 {n W H : Nat} {g r : qM} (u : qW) (h : w_ok n W H r) (hs : w_sm n (s_start g) r) (hn : g 70 4 = Int32.ofNat n) (h6 : n ≤ 5) : q_BS 224 [.ref 70, .int (3 : Int32)] g u (some (.int ((if g 72 0 = 0 then (0 : Int32) else 1) + (if g 72 1 = 0 then (0 : Int32) else 1))), s_start g, u) := by
  refine q_bx (mm := m_224) rfl (Nat.le_of_ble_eq_true rfl) rfl ?_
  refine q_step 1 1 [(0, .ref 70), (1, .int (3 : Int32))] [.ref 70] g u (fun big n0 => sg_sx_157 big n0 g u) ?_
  refine q_call (M2 := 172) (rest := []) (b_starts g u) (fun _ _ => rfl) ?_
  refine q_step 4 8 [(0, .ref 70), (1, .int (3 : Int32)), (2, .int (0 : Int32)), (3, .int (0 : Int32))] [] (s_start g) u (fun big n0 => sg_sx_158 big n0 (s_start g) u) ?_
  refine rct (s_start g) u (n := n) hn (by omega) n 0 0 (by omega) ?_
  refine q_step 6 112 [(0, .ref 70), (1, .int (3 : Int32)), (2, .int (s_ct (p_nom (s_start g)) n 0 0)), (3, .int (Int32.ofNat n))] [.int ((s_start g) 72 0)] (s_start g) u (fun big n0 => sg_sx_159 big n0 (s_start g) u (s_ct (p_nom (s_start g)) n 0 0) (Int32.ofNat n)) ?_
  refine q_call (M2 := 164) (rest := []) (b_flag _ _ _) (fun _ _ => rfl) ?_
  refine q_step 4 121 [(0, .ref 70), (1, .int (3 : Int32)), (2, .int (s_ct (p_nom (s_start g)) n 0 0)), (3, .int (Int32.ofNat n))] [.int ((s_start g) 72 1), .int (if ((s_start g) 72 0) = 0 then (0 : Int32) else 1)] (s_start g) u (fun big n0 => sg_sx_160 big n0 (s_start g) u (s_ct (p_nom (s_start g)) n 0 0) (Int32.ofNat n) (if ((s_start g) 72 0) = 0 then (0 : Int32) else 1)) ?_
  refine q_call (M2 := 164) (rest := [.int (if ((s_start g) 72 0) = 0 then (0 : Int32) else 1)]) (b_flag _ _ _) (fun _ _ => rfl) ?_
  refine q_ret 2 (some (.int ((if ((s_start g) 72 0) = 0 then (0 : Int32) else 1) + (if ((s_start g) 72 1) = 0 then (0 : Int32) else 1))), (s_start g), u) (fun _ _ => rfl) ?_
  rfl
theorem rg_count4 {n W H : Nat} {g r : qM} (u : qW) (h : w_ok n W H r) (hs : w_sm n (s_start g) r) (hn : g 70 4 = Int32.ofNat n) (h6 : n ≤ 5) : q_BS 224 [.ref 70, .int (4 : Int32)] g u (some (.int (g 70 13)), s_start g, u) := by
  refine q_bx (mm := m_224) rfl (Nat.le_of_ble_eq_true rfl) rfl ?_
  refine q_step 1 1 [(0, .ref 70), (1, .int (4 : Int32))] [.ref 70] g u (fun big n0 => sg_sx_161 big n0 g u) ?_
  refine q_call (M2 := 172) (rest := []) (b_starts g u) (fun _ _ => rfl) ?_
  refine q_step 4 8 [(0, .ref 70), (1, .int (4 : Int32)), (2, .int (0 : Int32)), (3, .int (0 : Int32))] [] (s_start g) u (fun big n0 => sg_sx_162 big n0 (s_start g) u) ?_
  refine rct (s_start g) u (n := n) hn (by omega) n 0 0 (by omega) ?_
  refine q_ret 5 (some (.int ((s_start g) 70 13)), (s_start g), u) (fun _ _ => rfl) ?_
  rfl
theorem rg_count5 {n W H : Nat} {g r : qM} (u : qW) (h : w_ok n W H r) (hs : w_sm n (s_start g) r) (hn : g 70 4 = Int32.ofNat n) (h6 : n ≤ 5) : q_BS 224 [.ref 70, .int (5 : Int32)] g u (some (.int (if g 84 0 = i_none then i_none else g 85 0)), s_start g, u) := by
  refine q_bx (mm := m_224) rfl (Nat.le_of_ble_eq_true rfl) rfl ?_
  refine q_step 1 1 [(0, .ref 70), (1, .int (5 : Int32))] [.ref 70] g u (fun big n0 => sg_sx_163 big n0 g u) ?_
  refine q_call (M2 := 172) (rest := []) (b_starts g u) (fun _ _ => rfl) ?_
  refine q_step 4 8 [(0, .ref 70), (1, .int (5 : Int32)), (2, .int (0 : Int32)), (3, .int (0 : Int32))] [] (s_start g) u (fun big n0 => sg_sx_164 big n0 (s_start g) u) ?_
  refine rct (s_start g) u (n := n) hn (by omega) n 0 0 (by omega) ?_
  refine q_step 7 139 [(0, .ref 70), (1, .int (5 : Int32)), (2, .int (s_ct (p_nom (s_start g)) n 0 0)), (3, .int (Int32.ofNat n))] [.int (Int8.toInt32 (Int8.ofInt (-4))), .int ((s_start g) 84 0)] (s_start g) u (fun big n0 => sg_sx_165 big n0 (s_start g) u (s_ct (p_nom (s_start g)) n 0 0) (Int32.ofNat n)) ?_
  refine q_ic_ne rfl (fun (hc0 : ((s_start g) 84 0) = (Int8.toInt32 (Int8.ofInt (-4)))) => ?_) (fun (hc0 : ¬ (((s_start g) 84 0) = (Int8.toInt32 (Int8.ofInt (-4))))) => ?_)
  · refine q_ret 3 (some (.int (Int8.toInt32 (Int8.ofInt (-4)))), (s_start g), u) (fun _ _ => rfl) ?_
    exact congrArg (fun v => (some (Value.int v), s_start g, u)) (if_pos hc0).symm
  · refine q_ret 5 (some (.int ((s_start g) 85 0)), (s_start g), u) (fun _ _ => rfl) ?_
    exact congrArg (fun v => (some (Value.int v), s_start g, u)) (if_neg hc0).symm
theorem rg_count6 {n W H : Nat} {g r : qM} (u : qW) (h : w_ok n W H r) (hs : w_sm n (s_start g) r) (hn : g 70 4 = Int32.ofNat n) (h6 : n ≤ 5) : q_BS 224 [.ref 70, .int (6 : Int32)] g u (some (.int (s_ct (p_nom (s_start g)) n 0 0)), s_start g, u) := by
  refine q_bx (mm := m_224) rfl (Nat.le_of_ble_eq_true rfl) rfl ?_
  refine q_step 1 1 [(0, .ref 70), (1, .int (6 : Int32))] [.ref 70] g u (fun big n0 => sg_sx_166 big n0 g u) ?_
  refine q_call (M2 := 172) (rest := []) (b_starts g u) (fun _ _ => rfl) ?_
  refine q_step 4 8 [(0, .ref 70), (1, .int (6 : Int32)), (2, .int (0 : Int32)), (3, .int (0 : Int32))] [] (s_start g) u (fun big n0 => sg_sx_167 big n0 (s_start g) u) ?_
  refine rct (s_start g) u (n := n) hn (by omega) n 0 0 (by omega) ?_
  refine q_ret 4 (some (.int (s_ct (p_nom (s_start g)) n 0 0)), (s_start g), u) (fun _ _ => rfl) ?_
  rfl
theorem rg_countb {n W H : Nat} {g r : qM} (u : qW) (h : w_ok n W H r) (hs : w_sm n (s_start g) r) (hn : g 70 4 = Int32.ofNat n) (h6 : n ≤ 5) {x : Int32} (hx : x.toInt < 0 ∨ 6 < x.toInt) : q_BS 224 [.ref 70, .int x] g u (some (.int (Int32.ofInt (-1))), s_start g, u) := by
  refine q_bx (mm := m_224) rfl (Nat.le_of_ble_eq_true rfl) rfl ?_
  refine q_step 1 1 [(0, .ref 70), (1, .int x)] [.ref 70] g u (fun big n0 => sg_sx_168 big n0 g u x) ?_
  refine q_call (M2 := 172) (rest := []) (b_starts g u) (fun _ _ => rfl) ?_
  refine q_step 4 8 [(0, .ref 70), (1, .int x), (2, .int (0 : Int32)), (3, .int (0 : Int32))] [] (s_start g) u (fun big n0 => sg_sx_169 big n0 (s_start g) u x) ?_
  refine rct (s_start g) u (n := n) hn (by omega) n 0 0 (by omega) ?_
  refine q_step 1 45 [(0, .ref 70), (1, .int x), (2, .int (s_ct (p_nom (s_start g)) n 0 0)), (3, .int (Int32.ofNat n))] [.int x] (s_start g) u (fun big n0 => sg_sx_170 big n0 (s_start g) u x (s_ct (p_nom (s_start g)) n 0 0) (Int32.ofNat n)) ?_
  refine q_tswd (tgt := 156) rfl (hx) (by decide) ?_
  refine q_ret 2 (some (.int (Int32.ofInt (-1))), (s_start g), u) (fun _ _ => rfl) ?_
  rfl
