section
/-! SHEETS, IMAGES, COUNTS. -/
/-- st copied, i places of it, from o on to t on -/
def s_cps (t o i : Nat) (g : qM) : qM := fun a j => if a = 71 then (if t ≤ j ∧ j < t + i then g 71 (j - t + o) else g 71 j) else g a j
theorem s_cps_0 {t o : Nat} {g : qM} : s_cps t o 0 g = g := by
  funext a j
  unfold s_cps
  by_cases h : a = 71
  · rw [if_pos h, if_neg (by omega), h]
  · rw [if_neg h]
theorem s_cps_r {t o i : Nat} {g : qM} (h : o + i < t ∨ t + i ≤ o + i) (h2 : ¬ (t ≤ o + i ∧ o + i < t + i)) : s_cps t o i g 71 (o + i) = g 71 (o + i) := by
  unfold s_cps
  rw [if_pos rfl, if_neg h2]
theorem s_cps_s {t o i : Nat} {g : qM} : q_up (s_cps t o i g) 71 (t + i) (g 71 (o + i)) = s_cps t o (i + 1) g := by
  funext a j
  unfold s_cps
  simp only [q_up_eq]
  by_cases h : a = 71
  · subst h
    by_cases e : j = t + i
    · subst e
      rw [if_pos ⟨rfl, rfl⟩, if_pos rfl, if_pos (by omega), show t + i - t + o = o + i by omega]
    · rw [if_neg (fun z => e z.2), if_pos rfl, if_pos rfl]
      by_cases l : t ≤ j ∧ j < t + i
      · rw [if_pos l, if_pos (by omega)]
      · rw [if_neg l, if_neg (by omega)]
  · rw [if_neg (fun z => h z.1), if_neg h, if_neg h]
/-- places of 86 made 0 -/
def s_zr (K i : Nat) (g : qM) : qM := fun a j => if a = 86 then (if K ≤ j ∧ j < K + i then 0 else g 86 j) else g a j
theorem s_zr_0 {K : Nat} {g : qM} : s_zr K 0 g = g := by
  funext a j
  unfold s_zr
  by_cases h : a = 86
  · rw [if_pos h, if_neg (by omega), h]
  · rw [if_neg h]
theorem s_zr_s {K i : Nat} {g : qM} : q_up (s_zr K i g) 86 (K + i) 0 = s_zr K (i + 1) g := by
  funext a j
  unfold s_zr
  simp only [q_up_eq]
  by_cases h : a = 86
  · subst h
    by_cases e : j = K + i
    · subst e
      rw [if_pos ⟨rfl, rfl⟩, if_pos rfl, if_pos (by omega)]
    · rw [if_neg (fun z => e z.2), if_pos rfl, if_pos rfl]
      by_cases l : K ≤ j ∧ j < K + i
      · rw [if_pos l, if_pos (by omega)]
      · rw [if_neg l, if_neg (by omega)]
  · rw [if_neg (fun z => h z.1), if_neg h, if_neg h]
theorem s_rixk {K i : Nat} (h : K + i < 160) : q_ix (Int32.ofNat K + Int32.ofNat i) (K + i) 160 := by
  rw [← Int32.ofNat_add]
  exact q_ixn h (by omega)
/-- what a lane keeps of a number -/
def s_ln (lane v : Int32) : Int32 := if lane = 0 then Int8.toInt32 (Int32.toInt8 v) else if lane = 1 then Int16.toInt32 (Int32.toInt16 v) else v
def p_nom (g : qM) (p : Nat) : Int32 := if g 71 (5 + p) = 0 then 1 else 0
theorem sg_sx_1 (big : Nat → List Value → qM → qW → qR) (n0 : Nat) (G : qM) (U : qW) (v0 : Int32) : qm_run pm_m big m_217 (n0 + 2) 2 [(0, .ref 70), (1, .int (44 : Int32)), (2, .int (0 : Int32)), (3, .int v0)] [] G U = qm_run pm_m big m_217 n0 5 [(0, .ref 70), (1, .int (44 : Int32)), (2, .int (0 : Int32)), (3, .int v0)] [.int (44 : Int32), .int v0] G U := rfl
theorem sg_sx_2 (big : Nat → List Value → qM → qW → qR) (n0 : Nat) (G : qM) (U : qW) (v0 : Int32) : qm_run pm_m big m_217 (n0 + 10) 8 [(0, .ref 70), (1, .int (44 : Int32)), (2, .int (0 : Int32)), (3, .int v0)] [] G U = qm_run pm_m big m_217 n0 22 [(0, .ref 70), (1, .int (44 : Int32)), (2, .int (0 : Int32)), (3, .int v0)] [.int ((0 : Int32) + v0), .ref 71, .int ((44 : Int32) + v0), .ref 71] G U := rfl
theorem sg_sx_3 (big : Nat → List Value → qM → qW → qR) (n0 : Nat) (G : qM) (U : qW) (v0 : Int32) : qm_run pm_m big m_217 (n0 + 2) 24 [(0, .ref 70), (1, .int (44 : Int32)), (2, .int (0 : Int32)), (3, .int v0)] [] G U = qm_run pm_m big m_217 n0 2 [(0, .ref 70), (1, .int (44 : Int32)), (2, .int (0 : Int32)), (3, .int (v0 + (1 : Int32)))] [] G U := rfl
theorem sg_sx_4 (big : Nat → List Value → qM → qW → qR) (n0 : Nat) (G : qM) (U : qW) : qm_run pm_m big m_217 (n0 + 2) 0 [(0, .ref 70), (1, .int (44 : Int32)), (2, .int (0 : Int32))] [] G U = qm_run pm_m big m_217 n0 2 [(0, .ref 70), (1, .int (44 : Int32)), (2, .int (0 : Int32)), (3, .int (0 : Int32))] [] G U := rfl
theorem sg_sx_5 (big : Nat → List Value → qM → qW → qR) (n0 : Nat) (G : qM) (U : qW) (v0 : Int32) : qm_run pm_m big m_217 (n0 + 2) 2 [(0, .ref 70), (1, .int (88 : Int32)), (2, .int (0 : Int32)), (3, .int v0)] [] G U = qm_run pm_m big m_217 n0 5 [(0, .ref 70), (1, .int (88 : Int32)), (2, .int (0 : Int32)), (3, .int v0)] [.int (44 : Int32), .int v0] G U := rfl
theorem sg_sx_6 (big : Nat → List Value → qM → qW → qR) (n0 : Nat) (G : qM) (U : qW) (v0 : Int32) : qm_run pm_m big m_217 (n0 + 10) 8 [(0, .ref 70), (1, .int (88 : Int32)), (2, .int (0 : Int32)), (3, .int v0)] [] G U = qm_run pm_m big m_217 n0 22 [(0, .ref 70), (1, .int (88 : Int32)), (2, .int (0 : Int32)), (3, .int v0)] [.int ((0 : Int32) + v0), .ref 71, .int ((88 : Int32) + v0), .ref 71] G U := rfl
theorem sg_sx_7 (big : Nat → List Value → qM → qW → qR) (n0 : Nat) (G : qM) (U : qW) (v0 : Int32) : qm_run pm_m big m_217 (n0 + 2) 24 [(0, .ref 70), (1, .int (88 : Int32)), (2, .int (0 : Int32)), (3, .int v0)] [] G U = qm_run pm_m big m_217 n0 2 [(0, .ref 70), (1, .int (88 : Int32)), (2, .int (0 : Int32)), (3, .int (v0 + (1 : Int32)))] [] G U := rfl
theorem sg_sx_8 (big : Nat → List Value → qM → qW → qR) (n0 : Nat) (G : qM) (U : qW) : qm_run pm_m big m_217 (n0 + 2) 0 [(0, .ref 70), (1, .int (88 : Int32)), (2, .int (0 : Int32))] [] G U = qm_run pm_m big m_217 n0 2 [(0, .ref 70), (1, .int (88 : Int32)), (2, .int (0 : Int32)), (3, .int (0 : Int32))] [] G U := rfl
theorem sg_sx_9 (big : Nat → List Value → qM → qW → qR) (n0 : Nat) (G : qM) (U : qW) (v0 : Int32) : qm_run pm_m big m_217 (n0 + 2) 2 [(0, .ref 70), (1, .int (0 : Int32)), (2, .int (44 : Int32)), (3, .int v0)] [] G U = qm_run pm_m big m_217 n0 5 [(0, .ref 70), (1, .int (0 : Int32)), (2, .int (44 : Int32)), (3, .int v0)] [.int (44 : Int32), .int v0] G U := rfl
theorem sg_sx_10 (big : Nat → List Value → qM → qW → qR) (n0 : Nat) (G : qM) (U : qW) (v0 : Int32) : qm_run pm_m big m_217 (n0 + 10) 8 [(0, .ref 70), (1, .int (0 : Int32)), (2, .int (44 : Int32)), (3, .int v0)] [] G U = qm_run pm_m big m_217 n0 22 [(0, .ref 70), (1, .int (0 : Int32)), (2, .int (44 : Int32)), (3, .int v0)] [.int ((44 : Int32) + v0), .ref 71, .int ((0 : Int32) + v0), .ref 71] G U := rfl
theorem sg_sx_11 (big : Nat → List Value → qM → qW → qR) (n0 : Nat) (G : qM) (U : qW) (v0 : Int32) : qm_run pm_m big m_217 (n0 + 2) 24 [(0, .ref 70), (1, .int (0 : Int32)), (2, .int (44 : Int32)), (3, .int v0)] [] G U = qm_run pm_m big m_217 n0 2 [(0, .ref 70), (1, .int (0 : Int32)), (2, .int (44 : Int32)), (3, .int (v0 + (1 : Int32)))] [] G U := rfl
theorem sg_sx_12 (big : Nat → List Value → qM → qW → qR) (n0 : Nat) (G : qM) (U : qW) : qm_run pm_m big m_217 (n0 + 2) 0 [(0, .ref 70), (1, .int (0 : Int32)), (2, .int (44 : Int32))] [] G U = qm_run pm_m big m_217 n0 2 [(0, .ref 70), (1, .int (0 : Int32)), (2, .int (44 : Int32)), (3, .int (0 : Int32))] [] G U := rfl
theorem sg_sx_13 (big : Nat → List Value → qM → qW → qR) (n0 : Nat) (G : qM) (U : qW) (v0 : Int32) : qm_run pm_m big m_217 (n0 + 2) 2 [(0, .ref 70), (1, .int (0 : Int32)), (2, .int (88 : Int32)), (3, .int v0)] [] G U = qm_run pm_m big m_217 n0 5 [(0, .ref 70), (1, .int (0 : Int32)), (2, .int (88 : Int32)), (3, .int v0)] [.int (44 : Int32), .int v0] G U := rfl
theorem sg_sx_14 (big : Nat → List Value → qM → qW → qR) (n0 : Nat) (G : qM) (U : qW) (v0 : Int32) : qm_run pm_m big m_217 (n0 + 10) 8 [(0, .ref 70), (1, .int (0 : Int32)), (2, .int (88 : Int32)), (3, .int v0)] [] G U = qm_run pm_m big m_217 n0 22 [(0, .ref 70), (1, .int (0 : Int32)), (2, .int (88 : Int32)), (3, .int v0)] [.int ((88 : Int32) + v0), .ref 71, .int ((0 : Int32) + v0), .ref 71] G U := rfl
theorem sg_sx_15 (big : Nat → List Value → qM → qW → qR) (n0 : Nat) (G : qM) (U : qW) (v0 : Int32) : qm_run pm_m big m_217 (n0 + 2) 24 [(0, .ref 70), (1, .int (0 : Int32)), (2, .int (88 : Int32)), (3, .int v0)] [] G U = qm_run pm_m big m_217 n0 2 [(0, .ref 70), (1, .int (0 : Int32)), (2, .int (88 : Int32)), (3, .int (v0 + (1 : Int32)))] [] G U := rfl
theorem sg_sx_16 (big : Nat → List Value → qM → qW → qR) (n0 : Nat) (G : qM) (U : qW) : qm_run pm_m big m_217 (n0 + 2) 0 [(0, .ref 70), (1, .int (0 : Int32)), (2, .int (88 : Int32))] [] G U = qm_run pm_m big m_217 n0 2 [(0, .ref 70), (1, .int (0 : Int32)), (2, .int (88 : Int32)), (3, .int (0 : Int32))] [] G U := rfl
theorem sg_sx_17 (big : Nat → List Value → qM → qW → qR) (n0 : Nat) (G : qM) (U : qW) : qm_run pm_m big m_216 (n0 + 4) 0 [(0, .ref 70), (1, .int (0 : Int32))] [] G U = qm_run pm_m big m_216 n0 4 [(0, .ref 70), (1, .int (0 : Int32))] [.long (1 : Int64), .long (0 : Int64), .long (0 : Int64)] G U := rfl
theorem sg_sx_18 (big : Nat → List Value → qM → qW → qR) (n0 : Nat) (G : qM) (U : qW) : qm_run pm_m big m_216 (n0 + 5) 7 [(0, .ref 70), (1, .int (0 : Int32))] [.int (1 : Int32)] G U = qm_run pm_m big m_216 n0 18 [(0, .ref 70), (1, .int (0 : Int32))] [.int (G 72 0)] G U := rfl
theorem sg_sx_19 (big : Nat → List Value → qM → qW → qR) (n0 : Nat) (G : qM) (U : qW) (v0 : Int32) : qm_run pm_m big m_216 (n0 + 13) 21 [(0, .ref 70), (1, .int (0 : Int32))] [.int v0] G U = qm_run pm_m big m_216 n0 37 [(0, .ref 70), (1, .int (0 : Int32)), (2, .int v0)] [.int (0 : Int32), .int (44 : Int32), .ref 70] (q_up G 72 0 ((1 : Int32) &&& 1)) U := rfl
theorem sg_sx_20 (big : Nat → List Value → qM → qW → qR) (n0 : Nat) (G : qM) (U : qW) : qm_run pm_m big m_218 (n0 + 4) 0 [(0, .ref 70), (1, .int (0 : Int32))] [] G U = qm_run pm_m big m_218 n0 4 [(0, .ref 70), (1, .int (0 : Int32))] [.long (1 : Int64), .long (0 : Int64), .long (0 : Int64)] G U := rfl
theorem sg_sx_21 (big : Nat → List Value → qM → qW → qR) (n0 : Nat) (G : qM) (U : qW) : qm_run pm_m big m_218 (n0 + 5) 7 [(0, .ref 70), (1, .int (0 : Int32))] [.int (1 : Int32)] G U = qm_run pm_m big m_218 n0 18 [(0, .ref 70), (1, .int (0 : Int32))] [.int (G 72 0)] G U := rfl
theorem sg_sx_22 (big : Nat → List Value → qM → qW → qR) (n0 : Nat) (G : qM) (U : qW) : qm_run pm_m big m_218 (n0 + 7) 24 [(0, .ref 70), (1, .int (0 : Int32))] [] G U = qm_run pm_m big m_218 n0 32 [(0, .ref 70), (1, .int (0 : Int32))] [.int (44 : Int32), .int (0 : Int32), .ref 70] G U := rfl
theorem sg_sx_23 (big : Nat → List Value → qM → qW → qR) (n0 : Nat) (G : qM) (U : qW) : qm_run pm_m big m_216 (n0 + 4) 0 [(0, .ref 70), (1, .int (1 : Int32))] [] G U = qm_run pm_m big m_216 n0 4 [(0, .ref 70), (1, .int (1 : Int32))] [.long (1 : Int64), .long (0 : Int64), .long (1 : Int64)] G U := rfl
theorem sg_sx_24 (big : Nat → List Value → qM → qW → qR) (n0 : Nat) (G : qM) (U : qW) : qm_run pm_m big m_216 (n0 + 5) 7 [(0, .ref 70), (1, .int (1 : Int32))] [.int (1 : Int32)] G U = qm_run pm_m big m_216 n0 18 [(0, .ref 70), (1, .int (1 : Int32))] [.int (G 72 1)] G U := rfl
theorem sg_sx_25 (big : Nat → List Value → qM → qW → qR) (n0 : Nat) (G : qM) (U : qW) (v0 : Int32) : qm_run pm_m big m_216 (n0 + 13) 21 [(0, .ref 70), (1, .int (1 : Int32))] [.int v0] G U = qm_run pm_m big m_216 n0 37 [(0, .ref 70), (1, .int (1 : Int32)), (2, .int v0)] [.int (0 : Int32), .int (88 : Int32), .ref 70] (q_up G 72 1 ((1 : Int32) &&& 1)) U := rfl
theorem sg_sx_26 (big : Nat → List Value → qM → qW → qR) (n0 : Nat) (G : qM) (U : qW) : qm_run pm_m big m_218 (n0 + 4) 0 [(0, .ref 70), (1, .int (1 : Int32))] [] G U = qm_run pm_m big m_218 n0 4 [(0, .ref 70), (1, .int (1 : Int32))] [.long (1 : Int64), .long (0 : Int64), .long (1 : Int64)] G U := rfl
theorem sg_sx_27 (big : Nat → List Value → qM → qW → qR) (n0 : Nat) (G : qM) (U : qW) : qm_run pm_m big m_218 (n0 + 5) 7 [(0, .ref 70), (1, .int (1 : Int32))] [.int (1 : Int32)] G U = qm_run pm_m big m_218 n0 18 [(0, .ref 70), (1, .int (1 : Int32))] [.int (G 72 1)] G U := rfl
theorem sg_sx_28 (big : Nat → List Value → qM → qW → qR) (n0 : Nat) (G : qM) (U : qW) : qm_run pm_m big m_218 (n0 + 7) 24 [(0, .ref 70), (1, .int (1 : Int32))] [] G U = qm_run pm_m big m_218 n0 32 [(0, .ref 70), (1, .int (1 : Int32))] [.int (88 : Int32), .int (0 : Int32), .ref 70] G U := rfl
theorem sg_sx_29 (big : Nat → List Value → qM → qW → qR) (n0 : Nat) (G : qM) (U : qW) (v0 : Int32) : qm_run pm_m big m_220 (n0 + 4) 0 [(0, .int (0 : Int32)), (1, .int v0)] [] G U = qm_run pm_m big m_220 n0 6 [(0, .int (0 : Int32)), (1, .int v0)] [.long (3 : Int64), .long (0 : Int64), .long (0 : Int64)] G U := rfl
theorem sg_sx_30 (big : Nat → List Value → qM → qW → qR) (n0 : Nat) (G : qM) (U : qW) (v0 : Int32) : qm_run pm_m big m_220 (n0 + 5) 9 [(0, .int (0 : Int32)), (1, .int v0)] [.int (1 : Int32)] G U = qm_run pm_m big m_220 n0 18 [(0, .int (0 : Int32)), (1, .int v0)] [.long (2 : Int64), .long (0 : Int64), .long (Int32.toInt64 v0)] G U := rfl
theorem sg_sx_31 (big : Nat → List Value → qM → qW → qR) (n0 : Nat) (G : qM) (U : qW) (v0 : Int32) (v1 : Int32) (v2 : Int32) : qm_run pm_m big m_219 (n0 + 2) 40 [(0, .ref 70), (1, .int (0 : Int32)), (2, .int v0), (3, .int v1), (4, .int v2)] [] G U = qm_run pm_m big m_219 n0 44 [(0, .ref 70), (1, .int (0 : Int32)), (2, .int v0), (3, .int v1), (4, .int v2)] [.int (40 : Int32), .int v2] G U := rfl
theorem sg_sx_32 (big : Nat → List Value → qM → qW → qR) (n0 : Nat) (G : qM) (U : qW) (v0 : Int32) (v1 : Int32) (v2 : Int32) : qm_run pm_m big m_219 (n0 + 8) 47 [(0, .ref 70), (1, .int (0 : Int32)), (2, .int v0), (3, .int v1), (4, .int v2)] [] G U = qm_run pm_m big m_219 n0 59 [(0, .ref 70), (1, .int (0 : Int32)), (2, .int v0), (3, .int v1), (4, .int v2)] [.int (0 : Int32), .int ((0 : Int32) + v2), .ref 86] G U := rfl
theorem sg_sx_33 (big : Nat → List Value → qM → qW → qR) (n0 : Nat) (G : qM) (U : qW) (v0 : Int32) (v1 : Int32) (v2 : Int32) : qm_run pm_m big m_219 (n0 + 2) 60 [(0, .ref 70), (1, .int (0 : Int32)), (2, .int v0), (3, .int v1), (4, .int v2)] [] G U = qm_run pm_m big m_219 n0 40 [(0, .ref 70), (1, .int (0 : Int32)), (2, .int v0), (3, .int v1), (4, .int (v2 + (1 : Int32)))] [] G U := rfl
theorem sg_sx_34 (big : Nat → List Value → qM → qW → qR) (n0 : Nat) (G : qM) (U : qW) (v0 : Int32) (v1 : Int32) : qm_run pm_m big m_219 (n0 + 2) 0 [(0, .ref 70), (1, .int (0 : Int32)), (2, .int v0), (3, .int v1)] [] G U = qm_run pm_m big m_219 n0 2 [(0, .ref 70), (1, .int (0 : Int32)), (2, .int v0), (3, .int v1)] [.int v0, .int (0 : Int32)] G U := rfl
theorem sg_sx_35 (big : Nat → List Value → qM → qW → qR) (n0 : Nat) (G : qM) (U : qW) (v0 : Int32) (v1 : Int32) : qm_run pm_m big m_219 (n0 + 3) 5 [(0, .ref 70), (1, .int (0 : Int32)), (2, .int v0), (3, .int v1)] [.int (1 : Int32)] G U = qm_run pm_m big m_219 n0 11 [(0, .ref 70), (1, .int (0 : Int32)), (2, .int v0), (3, .int v1)] [.int (40 : Int32), .int v1] G U := rfl
theorem sg_sx_36 (big : Nat → List Value → qM → qW → qR) (n0 : Nat) (G : qM) (U : qW) (v0 : Int32) (v1 : Int32) : qm_run pm_m big m_219 (n0 + 1) 16 [(0, .ref 70), (1, .int (0 : Int32)), (2, .int v0), (3, .int v1)] [] G U = qm_run pm_m big m_219 n0 17 [(0, .ref 70), (1, .int (0 : Int32)), (2, .int v0), (3, .int v1)] [.int v1] G U := rfl
theorem sg_sx_37 (big : Nat → List Value → qM → qW → qR) (n0 : Nat) (G : qM) (U : qW) (v0 : Int32) (v1 : Int32) : qm_run pm_m big m_219 (n0 + 12) 23 [(0, .ref 70), (1, .int (0 : Int32)), (2, .int v0), (3, .int v1)] [] G U = qm_run pm_m big m_219 n0 40 [(0, .ref 70), (1, .int (0 : Int32)), (2, .int v0), (3, .int v1), (4, .int (0 : Int32))] [] (q_up (q_up G 84 0 v0) 85 0 v1) U := rfl
theorem sg_sx_38 (big : Nat → List Value → qM → qW → qR) (n0 : Nat) (G : qM) (U : qW) (v0 : Int32) (v1 : Int32) : qm_run pm_m big m_137 (n0 + 1) 0 [(0, .ref 62), (1, .int v0), (2, .int v1)] [] G U = qm_run pm_m big m_137 n0 1 [(0, .ref 62), (1, .int v0), (2, .int v1)] [.int v0] G U := rfl
theorem sg_sx_39 (big : Nat → List Value → qM → qW → qR) (n0 : Nat) (G : qM) (U : qW) (v0 : Int32) (v1 : Int32) : qm_run pm_m big m_137 (n0 + 3) 4 [(0, .ref 62), (1, .int v0), (2, .int v1)] [] G U = qm_run pm_m big m_137 n0 9 [(0, .ref 62), (1, .int v0), (2, .int v1)] [.int (G 62 1), .int v0] G U := rfl
theorem sg_sx_40 (big : Nat → List Value → qM → qW → qR) (n0 : Nat) (G : qM) (U : qW) (v0 : Int32) (v1 : Int32) : qm_run pm_m big m_137 (n0 + 5) 12 [(0, .ref 62), (1, .int v0), (2, .int v1)] [] G U = qm_run pm_m big m_137 n0 21 [(0, .ref 62), (1, .int v0), (2, .int v1)] [.int (G 62 2), .int v0, .ref 63] G U := rfl
theorem sg_sx_41 (big : Nat → List Value → qM → qW → qR) (n0 : Nat) (G : qM) (U : qW) (v0 : Int32) (v1 : Int32) (v2 : Int32) : qm_run pm_m big m_137 (n0 + 3) 24 [(0, .ref 62), (1, .int v0), (2, .int v1)] [.int v2, .ref 63] G U = qm_run pm_m big m_137 n0 43 [(0, .ref 62), (1, .int v0), (2, .int v1)] [.int (Int8.toInt32 (Int32.toInt8 v1)), .int v2, .ref 63] G U := rfl
theorem sg_sx_42 (big : Nat → List Value → qM → qW → qR) (n0 : Nat) (G : qM) (U : qW) (v0 : Int32) (v1 : Int32) (v2 : Int32) : qm_run pm_m big m_137 (n0 + 3) 29 [(0, .ref 62), (1, .int v0), (2, .int v1)] [.int v2, .ref 63] G U = qm_run pm_m big m_137 n0 34 [(0, .ref 62), (1, .int v0), (2, .int v1)] [.int (1 : Int32), .int (G 62 2), .int v2, .ref 63] G U := rfl
theorem sg_sx_43 (big : Nat → List Value → qM → qW → qR) (n0 : Nat) (G : qM) (U : qW) (v0 : Int32) (v1 : Int32) (v2 : Int32) : qm_run pm_m big m_137 (n0 + 3) 37 [(0, .ref 62), (1, .int v0), (2, .int v1)] [.int v2, .ref 63] G U = qm_run pm_m big m_137 n0 43 [(0, .ref 62), (1, .int v0), (2, .int v1)] [.int (Int16.toInt32 (Int32.toInt16 v1)), .int v2, .ref 63] G U := rfl
theorem sg_sx_44 (big : Nat → List Value → qM → qW → qR) (n0 : Nat) (G : qM) (U : qW) (v0 : Int32) (v1 : Int32) (v2 : Int32) : qm_run pm_m big m_137 (n0 + 1) 42 [(0, .ref 62), (1, .int v0), (2, .int v1)] [.int v2, .ref 63] G U = qm_run pm_m big m_137 n0 43 [(0, .ref 62), (1, .int v0), (2, .int v1)] [.int v1, .int v2, .ref 63] G U := rfl
theorem sg_sx_45 (big : Nat → List Value → qM → qW → qR) (n0 : Nat) (G : qM) (U : qW) (v0 : Int32) (v1 : Int32) : qm_run pm_m big m_134 (n0 + 1) 0 [(0, .ref 8), (1, .int (0 : Int32)), (2, .int v0), (3, .int v1)] [] G U = qm_run pm_m big m_134 n0 1 [(0, .ref 8), (1, .int (0 : Int32)), (2, .int v0), (3, .int v1)] [.int (0 : Int32)] G U := rfl
theorem sg_sx_46 (big : Nat → List Value → qM → qW → qR) (n0 : Nat) (G : qM) (U : qW) (v0 : Int32) (v1 : Int32) : qm_run pm_m big m_134 (n0 + 6) 4 [(0, .ref 8), (1, .int (0 : Int32)), (2, .int v0), (3, .int v1)] [.int (1 : Int32)] G U = qm_run pm_m big m_134 n0 16 [(0, .ref 8), (1, .int (0 : Int32)), (2, .int v0), (3, .int v1)] [.int v0, .ref 62] G U := rfl
theorem sg_sx_47 (big : Nat → List Value → qM → qW → qR) (n0 : Nat) (G : qM) (U : qW) (v0 : Int32) (v1 : Int32) : qm_run pm_m big m_134 (n0 + 9) 19 [(0, .ref 8), (1, .int (0 : Int32)), (2, .int v0), (3, .int v1)] [.int (0 : Int32)] G U = qm_run pm_m big m_134 n0 40 [(0, .ref 8), (1, .int (0 : Int32)), (2, .int v0), (3, .int v1), (4, .int (0 : Int32))] [.int v1, .int v0, .ref 62] G U := rfl
theorem sg_sx_48 (big : Nat → List Value → qM → qW → qR) (n0 : Nat) (G : qM) (U : qW) (v0 : Int32) (v1 : Int32) : qm_run pm_m big m_221 (n0 + 2) 0 [(0, .ref 70), (1, .int (0 : Int32)), (2, .int v0), (3, .int v1)] [] G U = qm_run pm_m big m_221 n0 2 [(0, .ref 70), (1, .int (0 : Int32)), (2, .int v0), (3, .int v1)] [.int (0 : Int32), .int (0 : Int32)] G U := rfl
theorem sg_sx_49 (big : Nat → List Value → qM → qW → qR) (n0 : Nat) (G : qM) (U : qW) (v0 : Int32) (v1 : Int32) : qm_run pm_m big m_221 (n0 + 6) 5 [(0, .ref 70), (1, .int (0 : Int32)), (2, .int v0), (3, .int v1)] [.int (1 : Int32)] G U = qm_run pm_m big m_221 n0 18 [(0, .ref 70), (1, .int (0 : Int32)), (2, .int v0), (3, .int v1)] [.int (Int8.toInt32 (Int8.ofInt (-4))), .int (G 84 0)] G U := rfl
theorem sg_sx_50 (big : Nat → List Value → qM → qW → qR) (n0 : Nat) (G : qM) (U : qW) (v0 : Int32) (v1 : Int32) : qm_run pm_m big m_221 (n0 + 10) 24 [(0, .ref 70), (1, .int (0 : Int32)), (2, .int v0), (3, .int v1)] [] G U = qm_run pm_m big m_221 n0 36 [(0, .ref 70), (1, .int (0 : Int32)), (2, .int v0), (3, .int v1)] [.long (Int32.toInt64 ((G 85 0) - (1 : Int32))), .long (0 : Int64), .long (Int32.toInt64 v0)] G U := rfl
theorem sg_sx_51 (big : Nat → List Value → qM → qW → qR) (n0 : Nat) (G : qM) (U : qW) (v0 : Int32) (v1 : Int32) : qm_run pm_m big m_221 (n0 + 12) 39 [(0, .ref 70), (1, .int (0 : Int32)), (2, .int v0), (3, .int v1)] [.int (1 : Int32)] G U = qm_run pm_m big m_221 n0 61 [(0, .ref 70), (1, .int (0 : Int32)), (2, .int v0), (3, .int v1)] [.int (G 84 0), .int ((0 : Int32) + v0), .ref 86] G U := rfl
theorem sg_sx_52 (big : Nat → List Value → qM → qW → qR) (n0 : Nat) (G : qM) (U : qW) (v0 : Int32) (v1 : Int32) (v2 : Int32) : qm_run pm_m big m_221 (n0 + 3) 64 [(0, .ref 70), (1, .int (0 : Int32)), (2, .int v0), (3, .int v1)] [.int v2, .ref 86] G U = qm_run pm_m big m_221 n0 85 [(0, .ref 70), (1, .int (0 : Int32)), (2, .int v0), (3, .int v1)] [.int (Int8.toInt32 (Int32.toInt8 v1)), .int v2, .ref 86] G U := rfl
theorem sg_sx_53 (big : Nat → List Value → qM → qW → qR) (n0 : Nat) (G : qM) (U : qW) (v0 : Int32) (v1 : Int32) (v2 : Int32) : qm_run pm_m big m_221 (n0 + 5) 69 [(0, .ref 70), (1, .int (0 : Int32)), (2, .int v0), (3, .int v1)] [.int v2, .ref 86] G U = qm_run pm_m big m_221 n0 76 [(0, .ref 70), (1, .int (0 : Int32)), (2, .int v0), (3, .int v1)] [.int (1 : Int32), .int (G 84 0), .int v2, .ref 86] G U := rfl
theorem sg_sx_54 (big : Nat → List Value → qM → qW → qR) (n0 : Nat) (G : qM) (U : qW) (v0 : Int32) (v1 : Int32) (v2 : Int32) : qm_run pm_m big m_221 (n0 + 3) 79 [(0, .ref 70), (1, .int (0 : Int32)), (2, .int v0), (3, .int v1)] [.int v2, .ref 86] G U = qm_run pm_m big m_221 n0 85 [(0, .ref 70), (1, .int (0 : Int32)), (2, .int v0), (3, .int v1)] [.int (Int16.toInt32 (Int32.toInt16 v1)), .int v2, .ref 86] G U := rfl
theorem sg_sx_55 (big : Nat → List Value → qM → qW → qR) (n0 : Nat) (G : qM) (U : qW) (v0 : Int32) (v1 : Int32) (v2 : Int32) : qm_run pm_m big m_221 (n0 + 1) 84 [(0, .ref 70), (1, .int (0 : Int32)), (2, .int v0), (3, .int v1)] [.int v2, .ref 86] G U = qm_run pm_m big m_221 n0 85 [(0, .ref 70), (1, .int (0 : Int32)), (2, .int v0), (3, .int v1)] [.int v1, .int v2, .ref 86] G U := rfl
theorem sg_sx_56 (big : Nat → List Value → qM → qW → qR) (n0 : Nat) (G : qM) (U : qW) (v0 : Int32) : qm_run pm_m big m_220 (n0 + 4) 0 [(0, .int (1 : Int32)), (1, .int v0)] [] G U = qm_run pm_m big m_220 n0 6 [(0, .int (1 : Int32)), (1, .int v0)] [.long (3 : Int64), .long (0 : Int64), .long (1 : Int64)] G U := rfl
theorem sg_sx_57 (big : Nat → List Value → qM → qW → qR) (n0 : Nat) (G : qM) (U : qW) (v0 : Int32) : qm_run pm_m big m_220 (n0 + 5) 9 [(0, .int (1 : Int32)), (1, .int v0)] [.int (1 : Int32)] G U = qm_run pm_m big m_220 n0 18 [(0, .int (1 : Int32)), (1, .int v0)] [.long (2 : Int64), .long (0 : Int64), .long (Int32.toInt64 v0)] G U := rfl
theorem sg_sx_58 (big : Nat → List Value → qM → qW → qR) (n0 : Nat) (G : qM) (U : qW) (v0 : Int32) (v1 : Int32) (v2 : Int32) : qm_run pm_m big m_219 (n0 + 2) 40 [(0, .ref 70), (1, .int (1 : Int32)), (2, .int v0), (3, .int v1), (4, .int v2)] [] G U = qm_run pm_m big m_219 n0 44 [(0, .ref 70), (1, .int (1 : Int32)), (2, .int v0), (3, .int v1), (4, .int v2)] [.int (40 : Int32), .int v2] G U := rfl
theorem sg_sx_59 (big : Nat → List Value → qM → qW → qR) (n0 : Nat) (G : qM) (U : qW) (v0 : Int32) (v1 : Int32) (v2 : Int32) : qm_run pm_m big m_219 (n0 + 8) 47 [(0, .ref 70), (1, .int (1 : Int32)), (2, .int v0), (3, .int v1), (4, .int v2)] [] G U = qm_run pm_m big m_219 n0 59 [(0, .ref 70), (1, .int (1 : Int32)), (2, .int v0), (3, .int v1), (4, .int v2)] [.int (0 : Int32), .int ((40 : Int32) + v2), .ref 86] G U := rfl
theorem sg_sx_60 (big : Nat → List Value → qM → qW → qR) (n0 : Nat) (G : qM) (U : qW) (v0 : Int32) (v1 : Int32) (v2 : Int32) : qm_run pm_m big m_219 (n0 + 2) 60 [(0, .ref 70), (1, .int (1 : Int32)), (2, .int v0), (3, .int v1), (4, .int v2)] [] G U = qm_run pm_m big m_219 n0 40 [(0, .ref 70), (1, .int (1 : Int32)), (2, .int v0), (3, .int v1), (4, .int (v2 + (1 : Int32)))] [] G U := rfl
theorem sg_sx_61 (big : Nat → List Value → qM → qW → qR) (n0 : Nat) (G : qM) (U : qW) (v0 : Int32) (v1 : Int32) : qm_run pm_m big m_219 (n0 + 2) 0 [(0, .ref 70), (1, .int (1 : Int32)), (2, .int v0), (3, .int v1)] [] G U = qm_run pm_m big m_219 n0 2 [(0, .ref 70), (1, .int (1 : Int32)), (2, .int v0), (3, .int v1)] [.int v0, .int (1 : Int32)] G U := rfl
theorem sg_sx_62 (big : Nat → List Value → qM → qW → qR) (n0 : Nat) (G : qM) (U : qW) (v0 : Int32) (v1 : Int32) : qm_run pm_m big m_219 (n0 + 3) 5 [(0, .ref 70), (1, .int (1 : Int32)), (2, .int v0), (3, .int v1)] [.int (1 : Int32)] G U = qm_run pm_m big m_219 n0 11 [(0, .ref 70), (1, .int (1 : Int32)), (2, .int v0), (3, .int v1)] [.int (40 : Int32), .int v1] G U := rfl
theorem sg_sx_63 (big : Nat → List Value → qM → qW → qR) (n0 : Nat) (G : qM) (U : qW) (v0 : Int32) (v1 : Int32) : qm_run pm_m big m_219 (n0 + 1) 16 [(0, .ref 70), (1, .int (1 : Int32)), (2, .int v0), (3, .int v1)] [] G U = qm_run pm_m big m_219 n0 17 [(0, .ref 70), (1, .int (1 : Int32)), (2, .int v0), (3, .int v1)] [.int v1] G U := rfl
theorem sg_sx_64 (big : Nat → List Value → qM → qW → qR) (n0 : Nat) (G : qM) (U : qW) (v0 : Int32) (v1 : Int32) : qm_run pm_m big m_219 (n0 + 12) 23 [(0, .ref 70), (1, .int (1 : Int32)), (2, .int v0), (3, .int v1)] [] G U = qm_run pm_m big m_219 n0 40 [(0, .ref 70), (1, .int (1 : Int32)), (2, .int v0), (3, .int v1), (4, .int (0 : Int32))] [] (q_up (q_up G 84 1 v0) 85 1 v1) U := rfl
theorem sg_sx_65 (big : Nat → List Value → qM → qW → qR) (n0 : Nat) (G : qM) (U : qW) (v0 : Int32) (v1 : Int32) : qm_run pm_m big m_137 (n0 + 1) 0 [(0, .ref 64), (1, .int v0), (2, .int v1)] [] G U = qm_run pm_m big m_137 n0 1 [(0, .ref 64), (1, .int v0), (2, .int v1)] [.int v0] G U := rfl
theorem sg_sx_66 (big : Nat → List Value → qM → qW → qR) (n0 : Nat) (G : qM) (U : qW) (v0 : Int32) (v1 : Int32) : qm_run pm_m big m_137 (n0 + 3) 4 [(0, .ref 64), (1, .int v0), (2, .int v1)] [] G U = qm_run pm_m big m_137 n0 9 [(0, .ref 64), (1, .int v0), (2, .int v1)] [.int (G 64 1), .int v0] G U := rfl
theorem sg_sx_67 (big : Nat → List Value → qM → qW → qR) (n0 : Nat) (G : qM) (U : qW) (v0 : Int32) (v1 : Int32) : qm_run pm_m big m_137 (n0 + 5) 12 [(0, .ref 64), (1, .int v0), (2, .int v1)] [] G U = qm_run pm_m big m_137 n0 21 [(0, .ref 64), (1, .int v0), (2, .int v1)] [.int (G 64 2), .int v0, .ref 65] G U := rfl
theorem sg_sx_68 (big : Nat → List Value → qM → qW → qR) (n0 : Nat) (G : qM) (U : qW) (v0 : Int32) (v1 : Int32) (v2 : Int32) : qm_run pm_m big m_137 (n0 + 3) 24 [(0, .ref 64), (1, .int v0), (2, .int v1)] [.int v2, .ref 65] G U = qm_run pm_m big m_137 n0 43 [(0, .ref 64), (1, .int v0), (2, .int v1)] [.int (Int8.toInt32 (Int32.toInt8 v1)), .int v2, .ref 65] G U := rfl
theorem sg_sx_69 (big : Nat → List Value → qM → qW → qR) (n0 : Nat) (G : qM) (U : qW) (v0 : Int32) (v1 : Int32) (v2 : Int32) : qm_run pm_m big m_137 (n0 + 3) 29 [(0, .ref 64), (1, .int v0), (2, .int v1)] [.int v2, .ref 65] G U = qm_run pm_m big m_137 n0 34 [(0, .ref 64), (1, .int v0), (2, .int v1)] [.int (1 : Int32), .int (G 64 2), .int v2, .ref 65] G U := rfl
theorem sg_sx_70 (big : Nat → List Value → qM → qW → qR) (n0 : Nat) (G : qM) (U : qW) (v0 : Int32) (v1 : Int32) (v2 : Int32) : qm_run pm_m big m_137 (n0 + 3) 37 [(0, .ref 64), (1, .int v0), (2, .int v1)] [.int v2, .ref 65] G U = qm_run pm_m big m_137 n0 43 [(0, .ref 64), (1, .int v0), (2, .int v1)] [.int (Int16.toInt32 (Int32.toInt16 v1)), .int v2, .ref 65] G U := rfl
theorem sg_sx_71 (big : Nat → List Value → qM → qW → qR) (n0 : Nat) (G : qM) (U : qW) (v0 : Int32) (v1 : Int32) (v2 : Int32) : qm_run pm_m big m_137 (n0 + 1) 42 [(0, .ref 64), (1, .int v0), (2, .int v1)] [.int v2, .ref 65] G U = qm_run pm_m big m_137 n0 43 [(0, .ref 64), (1, .int v0), (2, .int v1)] [.int v1, .int v2, .ref 65] G U := rfl
theorem sg_sx_72 (big : Nat → List Value → qM → qW → qR) (n0 : Nat) (G : qM) (U : qW) (v0 : Int32) (v1 : Int32) : qm_run pm_m big m_134 (n0 + 1) 0 [(0, .ref 8), (1, .int (1 : Int32)), (2, .int v0), (3, .int v1)] [] G U = qm_run pm_m big m_134 n0 1 [(0, .ref 8), (1, .int (1 : Int32)), (2, .int v0), (3, .int v1)] [.int (1 : Int32)] G U := rfl
theorem sg_sx_73 (big : Nat → List Value → qM → qW → qR) (n0 : Nat) (G : qM) (U : qW) (v0 : Int32) (v1 : Int32) : qm_run pm_m big m_134 (n0 + 6) 4 [(0, .ref 8), (1, .int (1 : Int32)), (2, .int v0), (3, .int v1)] [.int (1 : Int32)] G U = qm_run pm_m big m_134 n0 16 [(0, .ref 8), (1, .int (1 : Int32)), (2, .int v0), (3, .int v1)] [.int v0, .ref 64] G U := rfl
theorem sg_sx_74 (big : Nat → List Value → qM → qW → qR) (n0 : Nat) (G : qM) (U : qW) (v0 : Int32) (v1 : Int32) : qm_run pm_m big m_134 (n0 + 9) 19 [(0, .ref 8), (1, .int (1 : Int32)), (2, .int v0), (3, .int v1)] [.int (0 : Int32)] G U = qm_run pm_m big m_134 n0 40 [(0, .ref 8), (1, .int (1 : Int32)), (2, .int v0), (3, .int v1), (4, .int (0 : Int32))] [.int v1, .int v0, .ref 64] G U := rfl
theorem sg_sx_75 (big : Nat → List Value → qM → qW → qR) (n0 : Nat) (G : qM) (U : qW) (v0 : Int32) (v1 : Int32) : qm_run pm_m big m_221 (n0 + 2) 0 [(0, .ref 70), (1, .int (1 : Int32)), (2, .int v0), (3, .int v1)] [] G U = qm_run pm_m big m_221 n0 2 [(0, .ref 70), (1, .int (1 : Int32)), (2, .int v0), (3, .int v1)] [.int (0 : Int32), .int (1 : Int32)] G U := rfl
theorem sg_sx_76 (big : Nat → List Value → qM → qW → qR) (n0 : Nat) (G : qM) (U : qW) (v0 : Int32) (v1 : Int32) : qm_run pm_m big m_221 (n0 + 6) 5 [(0, .ref 70), (1, .int (1 : Int32)), (2, .int v0), (3, .int v1)] [.int (1 : Int32)] G U = qm_run pm_m big m_221 n0 18 [(0, .ref 70), (1, .int (1 : Int32)), (2, .int v0), (3, .int v1)] [.int (Int8.toInt32 (Int8.ofInt (-4))), .int (G 84 1)] G U := rfl
theorem sg_sx_77 (big : Nat → List Value → qM → qW → qR) (n0 : Nat) (G : qM) (U : qW) (v0 : Int32) (v1 : Int32) : qm_run pm_m big m_221 (n0 + 10) 24 [(0, .ref 70), (1, .int (1 : Int32)), (2, .int v0), (3, .int v1)] [] G U = qm_run pm_m big m_221 n0 36 [(0, .ref 70), (1, .int (1 : Int32)), (2, .int v0), (3, .int v1)] [.long (Int32.toInt64 ((G 85 1) - (1 : Int32))), .long (0 : Int64), .long (Int32.toInt64 v0)] G U := rfl
theorem sg_sx_78 (big : Nat → List Value → qM → qW → qR) (n0 : Nat) (G : qM) (U : qW) (v0 : Int32) (v1 : Int32) : qm_run pm_m big m_221 (n0 + 12) 39 [(0, .ref 70), (1, .int (1 : Int32)), (2, .int v0), (3, .int v1)] [.int (1 : Int32)] G U = qm_run pm_m big m_221 n0 61 [(0, .ref 70), (1, .int (1 : Int32)), (2, .int v0), (3, .int v1)] [.int (G 84 1), .int ((40 : Int32) + v0), .ref 86] G U := rfl
theorem sg_sx_79 (big : Nat → List Value → qM → qW → qR) (n0 : Nat) (G : qM) (U : qW) (v0 : Int32) (v1 : Int32) (v2 : Int32) : qm_run pm_m big m_221 (n0 + 3) 64 [(0, .ref 70), (1, .int (1 : Int32)), (2, .int v0), (3, .int v1)] [.int v2, .ref 86] G U = qm_run pm_m big m_221 n0 85 [(0, .ref 70), (1, .int (1 : Int32)), (2, .int v0), (3, .int v1)] [.int (Int8.toInt32 (Int32.toInt8 v1)), .int v2, .ref 86] G U := rfl
theorem sg_sx_80 (big : Nat → List Value → qM → qW → qR) (n0 : Nat) (G : qM) (U : qW) (v0 : Int32) (v1 : Int32) (v2 : Int32) : qm_run pm_m big m_221 (n0 + 5) 69 [(0, .ref 70), (1, .int (1 : Int32)), (2, .int v0), (3, .int v1)] [.int v2, .ref 86] G U = qm_run pm_m big m_221 n0 76 [(0, .ref 70), (1, .int (1 : Int32)), (2, .int v0), (3, .int v1)] [.int (1 : Int32), .int (G 84 1), .int v2, .ref 86] G U := rfl
theorem sg_sx_81 (big : Nat → List Value → qM → qW → qR) (n0 : Nat) (G : qM) (U : qW) (v0 : Int32) (v1 : Int32) (v2 : Int32) : qm_run pm_m big m_221 (n0 + 3) 79 [(0, .ref 70), (1, .int (1 : Int32)), (2, .int v0), (3, .int v1)] [.int v2, .ref 86] G U = qm_run pm_m big m_221 n0 85 [(0, .ref 70), (1, .int (1 : Int32)), (2, .int v0), (3, .int v1)] [.int (Int16.toInt32 (Int32.toInt16 v1)), .int v2, .ref 86] G U := rfl
theorem sg_sx_82 (big : Nat → List Value → qM → qW → qR) (n0 : Nat) (G : qM) (U : qW) (v0 : Int32) (v1 : Int32) (v2 : Int32) : qm_run pm_m big m_221 (n0 + 1) 84 [(0, .ref 70), (1, .int (1 : Int32)), (2, .int v0), (3, .int v1)] [.int v2, .ref 86] G U = qm_run pm_m big m_221 n0 85 [(0, .ref 70), (1, .int (1 : Int32)), (2, .int v0), (3, .int v1)] [.int v1, .int v2, .ref 86] G U := rfl
theorem sg_sx_83 (big : Nat → List Value → qM → qW → qR) (n0 : Nat) (G : qM) (U : qW) (v0 : Int32) : qm_run pm_m big m_220 (n0 + 4) 0 [(0, .int (2 : Int32)), (1, .int v0)] [] G U = qm_run pm_m big m_220 n0 6 [(0, .int (2 : Int32)), (1, .int v0)] [.long (3 : Int64), .long (0 : Int64), .long (2 : Int64)] G U := rfl
theorem sg_sx_84 (big : Nat → List Value → qM → qW → qR) (n0 : Nat) (G : qM) (U : qW) (v0 : Int32) : qm_run pm_m big m_220 (n0 + 5) 9 [(0, .int (2 : Int32)), (1, .int v0)] [.int (1 : Int32)] G U = qm_run pm_m big m_220 n0 18 [(0, .int (2 : Int32)), (1, .int v0)] [.long (2 : Int64), .long (0 : Int64), .long (Int32.toInt64 v0)] G U := rfl
theorem sg_sx_85 (big : Nat → List Value → qM → qW → qR) (n0 : Nat) (G : qM) (U : qW) (v0 : Int32) (v1 : Int32) (v2 : Int32) : qm_run pm_m big m_219 (n0 + 2) 40 [(0, .ref 70), (1, .int (2 : Int32)), (2, .int v0), (3, .int v1), (4, .int v2)] [] G U = qm_run pm_m big m_219 n0 44 [(0, .ref 70), (1, .int (2 : Int32)), (2, .int v0), (3, .int v1), (4, .int v2)] [.int (40 : Int32), .int v2] G U := rfl
theorem sg_sx_86 (big : Nat → List Value → qM → qW → qR) (n0 : Nat) (G : qM) (U : qW) (v0 : Int32) (v1 : Int32) (v2 : Int32) : qm_run pm_m big m_219 (n0 + 8) 47 [(0, .ref 70), (1, .int (2 : Int32)), (2, .int v0), (3, .int v1), (4, .int v2)] [] G U = qm_run pm_m big m_219 n0 59 [(0, .ref 70), (1, .int (2 : Int32)), (2, .int v0), (3, .int v1), (4, .int v2)] [.int (0 : Int32), .int ((80 : Int32) + v2), .ref 86] G U := rfl
theorem sg_sx_87 (big : Nat → List Value → qM → qW → qR) (n0 : Nat) (G : qM) (U : qW) (v0 : Int32) (v1 : Int32) (v2 : Int32) : qm_run pm_m big m_219 (n0 + 2) 60 [(0, .ref 70), (1, .int (2 : Int32)), (2, .int v0), (3, .int v1), (4, .int v2)] [] G U = qm_run pm_m big m_219 n0 40 [(0, .ref 70), (1, .int (2 : Int32)), (2, .int v0), (3, .int v1), (4, .int (v2 + (1 : Int32)))] [] G U := rfl
theorem sg_sx_88 (big : Nat → List Value → qM → qW → qR) (n0 : Nat) (G : qM) (U : qW) (v0 : Int32) (v1 : Int32) : qm_run pm_m big m_219 (n0 + 2) 0 [(0, .ref 70), (1, .int (2 : Int32)), (2, .int v0), (3, .int v1)] [] G U = qm_run pm_m big m_219 n0 2 [(0, .ref 70), (1, .int (2 : Int32)), (2, .int v0), (3, .int v1)] [.int v0, .int (2 : Int32)] G U := rfl
theorem sg_sx_89 (big : Nat → List Value → qM → qW → qR) (n0 : Nat) (G : qM) (U : qW) (v0 : Int32) (v1 : Int32) : qm_run pm_m big m_219 (n0 + 3) 5 [(0, .ref 70), (1, .int (2 : Int32)), (2, .int v0), (3, .int v1)] [.int (1 : Int32)] G U = qm_run pm_m big m_219 n0 11 [(0, .ref 70), (1, .int (2 : Int32)), (2, .int v0), (3, .int v1)] [.int (40 : Int32), .int v1] G U := rfl
theorem sg_sx_90 (big : Nat → List Value → qM → qW → qR) (n0 : Nat) (G : qM) (U : qW) (v0 : Int32) (v1 : Int32) : qm_run pm_m big m_219 (n0 + 1) 16 [(0, .ref 70), (1, .int (2 : Int32)), (2, .int v0), (3, .int v1)] [] G U = qm_run pm_m big m_219 n0 17 [(0, .ref 70), (1, .int (2 : Int32)), (2, .int v0), (3, .int v1)] [.int v1] G U := rfl
theorem sg_sx_91 (big : Nat → List Value → qM → qW → qR) (n0 : Nat) (G : qM) (U : qW) (v0 : Int32) (v1 : Int32) : qm_run pm_m big m_219 (n0 + 12) 23 [(0, .ref 70), (1, .int (2 : Int32)), (2, .int v0), (3, .int v1)] [] G U = qm_run pm_m big m_219 n0 40 [(0, .ref 70), (1, .int (2 : Int32)), (2, .int v0), (3, .int v1), (4, .int (0 : Int32))] [] (q_up (q_up G 84 2 v0) 85 2 v1) U := rfl
theorem sg_sx_92 (big : Nat → List Value → qM → qW → qR) (n0 : Nat) (G : qM) (U : qW) (v0 : Int32) (v1 : Int32) : qm_run pm_m big m_137 (n0 + 1) 0 [(0, .ref 66), (1, .int v0), (2, .int v1)] [] G U = qm_run pm_m big m_137 n0 1 [(0, .ref 66), (1, .int v0), (2, .int v1)] [.int v0] G U := rfl
theorem sg_sx_93 (big : Nat → List Value → qM → qW → qR) (n0 : Nat) (G : qM) (U : qW) (v0 : Int32) (v1 : Int32) : qm_run pm_m big m_137 (n0 + 3) 4 [(0, .ref 66), (1, .int v0), (2, .int v1)] [] G U = qm_run pm_m big m_137 n0 9 [(0, .ref 66), (1, .int v0), (2, .int v1)] [.int (G 66 1), .int v0] G U := rfl
theorem sg_sx_94 (big : Nat → List Value → qM → qW → qR) (n0 : Nat) (G : qM) (U : qW) (v0 : Int32) (v1 : Int32) : qm_run pm_m big m_137 (n0 + 5) 12 [(0, .ref 66), (1, .int v0), (2, .int v1)] [] G U = qm_run pm_m big m_137 n0 21 [(0, .ref 66), (1, .int v0), (2, .int v1)] [.int (G 66 2), .int v0, .ref 67] G U := rfl
theorem sg_sx_95 (big : Nat → List Value → qM → qW → qR) (n0 : Nat) (G : qM) (U : qW) (v0 : Int32) (v1 : Int32) (v2 : Int32) : qm_run pm_m big m_137 (n0 + 3) 24 [(0, .ref 66), (1, .int v0), (2, .int v1)] [.int v2, .ref 67] G U = qm_run pm_m big m_137 n0 43 [(0, .ref 66), (1, .int v0), (2, .int v1)] [.int (Int8.toInt32 (Int32.toInt8 v1)), .int v2, .ref 67] G U := rfl
theorem sg_sx_96 (big : Nat → List Value → qM → qW → qR) (n0 : Nat) (G : qM) (U : qW) (v0 : Int32) (v1 : Int32) (v2 : Int32) : qm_run pm_m big m_137 (n0 + 3) 29 [(0, .ref 66), (1, .int v0), (2, .int v1)] [.int v2, .ref 67] G U = qm_run pm_m big m_137 n0 34 [(0, .ref 66), (1, .int v0), (2, .int v1)] [.int (1 : Int32), .int (G 66 2), .int v2, .ref 67] G U := rfl
theorem sg_sx_97 (big : Nat → List Value → qM → qW → qR) (n0 : Nat) (G : qM) (U : qW) (v0 : Int32) (v1 : Int32) (v2 : Int32) : qm_run pm_m big m_137 (n0 + 3) 37 [(0, .ref 66), (1, .int v0), (2, .int v1)] [.int v2, .ref 67] G U = qm_run pm_m big m_137 n0 43 [(0, .ref 66), (1, .int v0), (2, .int v1)] [.int (Int16.toInt32 (Int32.toInt16 v1)), .int v2, .ref 67] G U := rfl
theorem sg_sx_98 (big : Nat → List Value → qM → qW → qR) (n0 : Nat) (G : qM) (U : qW) (v0 : Int32) (v1 : Int32) (v2 : Int32) : qm_run pm_m big m_137 (n0 + 1) 42 [(0, .ref 66), (1, .int v0), (2, .int v1)] [.int v2, .ref 67] G U = qm_run pm_m big m_137 n0 43 [(0, .ref 66), (1, .int v0), (2, .int v1)] [.int v1, .int v2, .ref 67] G U := rfl
theorem sg_sx_99 (big : Nat → List Value → qM → qW → qR) (n0 : Nat) (G : qM) (U : qW) (v0 : Int32) (v1 : Int32) : qm_run pm_m big m_134 (n0 + 1) 0 [(0, .ref 8), (1, .int (2 : Int32)), (2, .int v0), (3, .int v1)] [] G U = qm_run pm_m big m_134 n0 1 [(0, .ref 8), (1, .int (2 : Int32)), (2, .int v0), (3, .int v1)] [.int (2 : Int32)] G U := rfl
theorem sg_sx_100 (big : Nat → List Value → qM → qW → qR) (n0 : Nat) (G : qM) (U : qW) (v0 : Int32) (v1 : Int32) : qm_run pm_m big m_134 (n0 + 6) 4 [(0, .ref 8), (1, .int (2 : Int32)), (2, .int v0), (3, .int v1)] [.int (1 : Int32)] G U = qm_run pm_m big m_134 n0 16 [(0, .ref 8), (1, .int (2 : Int32)), (2, .int v0), (3, .int v1)] [.int v0, .ref 66] G U := rfl
theorem sg_sx_101 (big : Nat → List Value → qM → qW → qR) (n0 : Nat) (G : qM) (U : qW) (v0 : Int32) (v1 : Int32) : qm_run pm_m big m_134 (n0 + 9) 19 [(0, .ref 8), (1, .int (2 : Int32)), (2, .int v0), (3, .int v1)] [.int (0 : Int32)] G U = qm_run pm_m big m_134 n0 40 [(0, .ref 8), (1, .int (2 : Int32)), (2, .int v0), (3, .int v1), (4, .int (0 : Int32))] [.int v1, .int v0, .ref 66] G U := rfl
theorem sg_sx_102 (big : Nat → List Value → qM → qW → qR) (n0 : Nat) (G : qM) (U : qW) (v0 : Int32) (v1 : Int32) : qm_run pm_m big m_221 (n0 + 2) 0 [(0, .ref 70), (1, .int (2 : Int32)), (2, .int v0), (3, .int v1)] [] G U = qm_run pm_m big m_221 n0 2 [(0, .ref 70), (1, .int (2 : Int32)), (2, .int v0), (3, .int v1)] [.int (0 : Int32), .int (2 : Int32)] G U := rfl
theorem sg_sx_103 (big : Nat → List Value → qM → qW → qR) (n0 : Nat) (G : qM) (U : qW) (v0 : Int32) (v1 : Int32) : qm_run pm_m big m_221 (n0 + 6) 5 [(0, .ref 70), (1, .int (2 : Int32)), (2, .int v0), (3, .int v1)] [.int (1 : Int32)] G U = qm_run pm_m big m_221 n0 18 [(0, .ref 70), (1, .int (2 : Int32)), (2, .int v0), (3, .int v1)] [.int (Int8.toInt32 (Int8.ofInt (-4))), .int (G 84 2)] G U := rfl
theorem sg_sx_104 (big : Nat → List Value → qM → qW → qR) (n0 : Nat) (G : qM) (U : qW) (v0 : Int32) (v1 : Int32) : qm_run pm_m big m_221 (n0 + 10) 24 [(0, .ref 70), (1, .int (2 : Int32)), (2, .int v0), (3, .int v1)] [] G U = qm_run pm_m big m_221 n0 36 [(0, .ref 70), (1, .int (2 : Int32)), (2, .int v0), (3, .int v1)] [.long (Int32.toInt64 ((G 85 2) - (1 : Int32))), .long (0 : Int64), .long (Int32.toInt64 v0)] G U := rfl
theorem sg_sx_105 (big : Nat → List Value → qM → qW → qR) (n0 : Nat) (G : qM) (U : qW) (v0 : Int32) (v1 : Int32) : qm_run pm_m big m_221 (n0 + 12) 39 [(0, .ref 70), (1, .int (2 : Int32)), (2, .int v0), (3, .int v1)] [.int (1 : Int32)] G U = qm_run pm_m big m_221 n0 61 [(0, .ref 70), (1, .int (2 : Int32)), (2, .int v0), (3, .int v1)] [.int (G 84 2), .int ((80 : Int32) + v0), .ref 86] G U := rfl
theorem sg_sx_106 (big : Nat → List Value → qM → qW → qR) (n0 : Nat) (G : qM) (U : qW) (v0 : Int32) (v1 : Int32) (v2 : Int32) : qm_run pm_m big m_221 (n0 + 3) 64 [(0, .ref 70), (1, .int (2 : Int32)), (2, .int v0), (3, .int v1)] [.int v2, .ref 86] G U = qm_run pm_m big m_221 n0 85 [(0, .ref 70), (1, .int (2 : Int32)), (2, .int v0), (3, .int v1)] [.int (Int8.toInt32 (Int32.toInt8 v1)), .int v2, .ref 86] G U := rfl
theorem sg_sx_107 (big : Nat → List Value → qM → qW → qR) (n0 : Nat) (G : qM) (U : qW) (v0 : Int32) (v1 : Int32) (v2 : Int32) : qm_run pm_m big m_221 (n0 + 5) 69 [(0, .ref 70), (1, .int (2 : Int32)), (2, .int v0), (3, .int v1)] [.int v2, .ref 86] G U = qm_run pm_m big m_221 n0 76 [(0, .ref 70), (1, .int (2 : Int32)), (2, .int v0), (3, .int v1)] [.int (1 : Int32), .int (G 84 2), .int v2, .ref 86] G U := rfl
theorem sg_sx_108 (big : Nat → List Value → qM → qW → qR) (n0 : Nat) (G : qM) (U : qW) (v0 : Int32) (v1 : Int32) (v2 : Int32) : qm_run pm_m big m_221 (n0 + 3) 79 [(0, .ref 70), (1, .int (2 : Int32)), (2, .int v0), (3, .int v1)] [.int v2, .ref 86] G U = qm_run pm_m big m_221 n0 85 [(0, .ref 70), (1, .int (2 : Int32)), (2, .int v0), (3, .int v1)] [.int (Int16.toInt32 (Int32.toInt16 v1)), .int v2, .ref 86] G U := rfl
theorem sg_sx_109 (big : Nat → List Value → qM → qW → qR) (n0 : Nat) (G : qM) (U : qW) (v0 : Int32) (v1 : Int32) (v2 : Int32) : qm_run pm_m big m_221 (n0 + 1) 84 [(0, .ref 70), (1, .int (2 : Int32)), (2, .int v0), (3, .int v1)] [.int v2, .ref 86] G U = qm_run pm_m big m_221 n0 85 [(0, .ref 70), (1, .int (2 : Int32)), (2, .int v0), (3, .int v1)] [.int v1, .int v2, .ref 86] G U := rfl
theorem sg_sx_110 (big : Nat → List Value → qM → qW → qR) (n0 : Nat) (G : qM) (U : qW) (v0 : Int32) : qm_run pm_m big m_220 (n0 + 4) 0 [(0, .int (3 : Int32)), (1, .int v0)] [] G U = qm_run pm_m big m_220 n0 6 [(0, .int (3 : Int32)), (1, .int v0)] [.long (3 : Int64), .long (0 : Int64), .long (3 : Int64)] G U := rfl
theorem sg_sx_111 (big : Nat → List Value → qM → qW → qR) (n0 : Nat) (G : qM) (U : qW) (v0 : Int32) : qm_run pm_m big m_220 (n0 + 5) 9 [(0, .int (3 : Int32)), (1, .int v0)] [.int (1 : Int32)] G U = qm_run pm_m big m_220 n0 18 [(0, .int (3 : Int32)), (1, .int v0)] [.long (2 : Int64), .long (0 : Int64), .long (Int32.toInt64 v0)] G U := rfl
theorem sg_sx_112 (big : Nat → List Value → qM → qW → qR) (n0 : Nat) (G : qM) (U : qW) (v0 : Int32) (v1 : Int32) (v2 : Int32) : qm_run pm_m big m_219 (n0 + 2) 40 [(0, .ref 70), (1, .int (3 : Int32)), (2, .int v0), (3, .int v1), (4, .int v2)] [] G U = qm_run pm_m big m_219 n0 44 [(0, .ref 70), (1, .int (3 : Int32)), (2, .int v0), (3, .int v1), (4, .int v2)] [.int (40 : Int32), .int v2] G U := rfl
theorem sg_sx_113 (big : Nat → List Value → qM → qW → qR) (n0 : Nat) (G : qM) (U : qW) (v0 : Int32) (v1 : Int32) (v2 : Int32) : qm_run pm_m big m_219 (n0 + 8) 47 [(0, .ref 70), (1, .int (3 : Int32)), (2, .int v0), (3, .int v1), (4, .int v2)] [] G U = qm_run pm_m big m_219 n0 59 [(0, .ref 70), (1, .int (3 : Int32)), (2, .int v0), (3, .int v1), (4, .int v2)] [.int (0 : Int32), .int ((120 : Int32) + v2), .ref 86] G U := rfl
theorem sg_sx_114 (big : Nat → List Value → qM → qW → qR) (n0 : Nat) (G : qM) (U : qW) (v0 : Int32) (v1 : Int32) (v2 : Int32) : qm_run pm_m big m_219 (n0 + 2) 60 [(0, .ref 70), (1, .int (3 : Int32)), (2, .int v0), (3, .int v1), (4, .int v2)] [] G U = qm_run pm_m big m_219 n0 40 [(0, .ref 70), (1, .int (3 : Int32)), (2, .int v0), (3, .int v1), (4, .int (v2 + (1 : Int32)))] [] G U := rfl
theorem sg_sx_115 (big : Nat → List Value → qM → qW → qR) (n0 : Nat) (G : qM) (U : qW) (v0 : Int32) (v1 : Int32) : qm_run pm_m big m_219 (n0 + 2) 0 [(0, .ref 70), (1, .int (3 : Int32)), (2, .int v0), (3, .int v1)] [] G U = qm_run pm_m big m_219 n0 2 [(0, .ref 70), (1, .int (3 : Int32)), (2, .int v0), (3, .int v1)] [.int v0, .int (3 : Int32)] G U := rfl
theorem sg_sx_116 (big : Nat → List Value → qM → qW → qR) (n0 : Nat) (G : qM) (U : qW) (v0 : Int32) (v1 : Int32) : qm_run pm_m big m_219 (n0 + 3) 5 [(0, .ref 70), (1, .int (3 : Int32)), (2, .int v0), (3, .int v1)] [.int (1 : Int32)] G U = qm_run pm_m big m_219 n0 11 [(0, .ref 70), (1, .int (3 : Int32)), (2, .int v0), (3, .int v1)] [.int (40 : Int32), .int v1] G U := rfl
theorem sg_sx_117 (big : Nat → List Value → qM → qW → qR) (n0 : Nat) (G : qM) (U : qW) (v0 : Int32) (v1 : Int32) : qm_run pm_m big m_219 (n0 + 1) 16 [(0, .ref 70), (1, .int (3 : Int32)), (2, .int v0), (3, .int v1)] [] G U = qm_run pm_m big m_219 n0 17 [(0, .ref 70), (1, .int (3 : Int32)), (2, .int v0), (3, .int v1)] [.int v1] G U := rfl
theorem sg_sx_118 (big : Nat → List Value → qM → qW → qR) (n0 : Nat) (G : qM) (U : qW) (v0 : Int32) (v1 : Int32) : qm_run pm_m big m_219 (n0 + 12) 23 [(0, .ref 70), (1, .int (3 : Int32)), (2, .int v0), (3, .int v1)] [] G U = qm_run pm_m big m_219 n0 40 [(0, .ref 70), (1, .int (3 : Int32)), (2, .int v0), (3, .int v1), (4, .int (0 : Int32))] [] (q_up (q_up G 84 3 v0) 85 3 v1) U := rfl
theorem sg_sx_119 (big : Nat → List Value → qM → qW → qR) (n0 : Nat) (G : qM) (U : qW) (v0 : Int32) (v1 : Int32) : qm_run pm_m big m_137 (n0 + 1) 0 [(0, .ref 68), (1, .int v0), (2, .int v1)] [] G U = qm_run pm_m big m_137 n0 1 [(0, .ref 68), (1, .int v0), (2, .int v1)] [.int v0] G U := rfl
theorem sg_sx_120 (big : Nat → List Value → qM → qW → qR) (n0 : Nat) (G : qM) (U : qW) (v0 : Int32) (v1 : Int32) : qm_run pm_m big m_137 (n0 + 3) 4 [(0, .ref 68), (1, .int v0), (2, .int v1)] [] G U = qm_run pm_m big m_137 n0 9 [(0, .ref 68), (1, .int v0), (2, .int v1)] [.int (G 68 1), .int v0] G U := rfl
theorem sg_sx_121 (big : Nat → List Value → qM → qW → qR) (n0 : Nat) (G : qM) (U : qW) (v0 : Int32) (v1 : Int32) : qm_run pm_m big m_137 (n0 + 5) 12 [(0, .ref 68), (1, .int v0), (2, .int v1)] [] G U = qm_run pm_m big m_137 n0 21 [(0, .ref 68), (1, .int v0), (2, .int v1)] [.int (G 68 2), .int v0, .ref 69] G U := rfl
theorem sg_sx_122 (big : Nat → List Value → qM → qW → qR) (n0 : Nat) (G : qM) (U : qW) (v0 : Int32) (v1 : Int32) (v2 : Int32) : qm_run pm_m big m_137 (n0 + 3) 24 [(0, .ref 68), (1, .int v0), (2, .int v1)] [.int v2, .ref 69] G U = qm_run pm_m big m_137 n0 43 [(0, .ref 68), (1, .int v0), (2, .int v1)] [.int (Int8.toInt32 (Int32.toInt8 v1)), .int v2, .ref 69] G U := rfl
theorem sg_sx_123 (big : Nat → List Value → qM → qW → qR) (n0 : Nat) (G : qM) (U : qW) (v0 : Int32) (v1 : Int32) (v2 : Int32) : qm_run pm_m big m_137 (n0 + 3) 29 [(0, .ref 68), (1, .int v0), (2, .int v1)] [.int v2, .ref 69] G U = qm_run pm_m big m_137 n0 34 [(0, .ref 68), (1, .int v0), (2, .int v1)] [.int (1 : Int32), .int (G 68 2), .int v2, .ref 69] G U := rfl
theorem sg_sx_124 (big : Nat → List Value → qM → qW → qR) (n0 : Nat) (G : qM) (U : qW) (v0 : Int32) (v1 : Int32) (v2 : Int32) : qm_run pm_m big m_137 (n0 + 3) 37 [(0, .ref 68), (1, .int v0), (2, .int v1)] [.int v2, .ref 69] G U = qm_run pm_m big m_137 n0 43 [(0, .ref 68), (1, .int v0), (2, .int v1)] [.int (Int16.toInt32 (Int32.toInt16 v1)), .int v2, .ref 69] G U := rfl
theorem sg_sx_125 (big : Nat → List Value → qM → qW → qR) (n0 : Nat) (G : qM) (U : qW) (v0 : Int32) (v1 : Int32) (v2 : Int32) : qm_run pm_m big m_137 (n0 + 1) 42 [(0, .ref 68), (1, .int v0), (2, .int v1)] [.int v2, .ref 69] G U = qm_run pm_m big m_137 n0 43 [(0, .ref 68), (1, .int v0), (2, .int v1)] [.int v1, .int v2, .ref 69] G U := rfl
theorem sg_sx_126 (big : Nat → List Value → qM → qW → qR) (n0 : Nat) (G : qM) (U : qW) (v0 : Int32) (v1 : Int32) : qm_run pm_m big m_134 (n0 + 1) 0 [(0, .ref 8), (1, .int (3 : Int32)), (2, .int v0), (3, .int v1)] [] G U = qm_run pm_m big m_134 n0 1 [(0, .ref 8), (1, .int (3 : Int32)), (2, .int v0), (3, .int v1)] [.int (3 : Int32)] G U := rfl
theorem sg_sx_127 (big : Nat → List Value → qM → qW → qR) (n0 : Nat) (G : qM) (U : qW) (v0 : Int32) (v1 : Int32) : qm_run pm_m big m_134 (n0 + 6) 4 [(0, .ref 8), (1, .int (3 : Int32)), (2, .int v0), (3, .int v1)] [.int (1 : Int32)] G U = qm_run pm_m big m_134 n0 16 [(0, .ref 8), (1, .int (3 : Int32)), (2, .int v0), (3, .int v1)] [.int v0, .ref 68] G U := rfl
theorem sg_sx_128 (big : Nat → List Value → qM → qW → qR) (n0 : Nat) (G : qM) (U : qW) (v0 : Int32) (v1 : Int32) : qm_run pm_m big m_134 (n0 + 9) 19 [(0, .ref 8), (1, .int (3 : Int32)), (2, .int v0), (3, .int v1)] [.int (0 : Int32)] G U = qm_run pm_m big m_134 n0 40 [(0, .ref 8), (1, .int (3 : Int32)), (2, .int v0), (3, .int v1), (4, .int (0 : Int32))] [.int v1, .int v0, .ref 68] G U := rfl
theorem sg_sx_129 (big : Nat → List Value → qM → qW → qR) (n0 : Nat) (G : qM) (U : qW) (v0 : Int32) (v1 : Int32) : qm_run pm_m big m_221 (n0 + 2) 0 [(0, .ref 70), (1, .int (3 : Int32)), (2, .int v0), (3, .int v1)] [] G U = qm_run pm_m big m_221 n0 2 [(0, .ref 70), (1, .int (3 : Int32)), (2, .int v0), (3, .int v1)] [.int (0 : Int32), .int (3 : Int32)] G U := rfl
theorem sg_sx_130 (big : Nat → List Value → qM → qW → qR) (n0 : Nat) (G : qM) (U : qW) (v0 : Int32) (v1 : Int32) : qm_run pm_m big m_221 (n0 + 6) 5 [(0, .ref 70), (1, .int (3 : Int32)), (2, .int v0), (3, .int v1)] [.int (1 : Int32)] G U = qm_run pm_m big m_221 n0 18 [(0, .ref 70), (1, .int (3 : Int32)), (2, .int v0), (3, .int v1)] [.int (Int8.toInt32 (Int8.ofInt (-4))), .int (G 84 3)] G U := rfl
theorem sg_sx_131 (big : Nat → List Value → qM → qW → qR) (n0 : Nat) (G : qM) (U : qW) (v0 : Int32) (v1 : Int32) : qm_run pm_m big m_221 (n0 + 10) 24 [(0, .ref 70), (1, .int (3 : Int32)), (2, .int v0), (3, .int v1)] [] G U = qm_run pm_m big m_221 n0 36 [(0, .ref 70), (1, .int (3 : Int32)), (2, .int v0), (3, .int v1)] [.long (Int32.toInt64 ((G 85 3) - (1 : Int32))), .long (0 : Int64), .long (Int32.toInt64 v0)] G U := rfl
theorem sg_sx_132 (big : Nat → List Value → qM → qW → qR) (n0 : Nat) (G : qM) (U : qW) (v0 : Int32) (v1 : Int32) : qm_run pm_m big m_221 (n0 + 12) 39 [(0, .ref 70), (1, .int (3 : Int32)), (2, .int v0), (3, .int v1)] [.int (1 : Int32)] G U = qm_run pm_m big m_221 n0 61 [(0, .ref 70), (1, .int (3 : Int32)), (2, .int v0), (3, .int v1)] [.int (G 84 3), .int ((120 : Int32) + v0), .ref 86] G U := rfl
theorem sg_sx_133 (big : Nat → List Value → qM → qW → qR) (n0 : Nat) (G : qM) (U : qW) (v0 : Int32) (v1 : Int32) (v2 : Int32) : qm_run pm_m big m_221 (n0 + 3) 64 [(0, .ref 70), (1, .int (3 : Int32)), (2, .int v0), (3, .int v1)] [.int v2, .ref 86] G U = qm_run pm_m big m_221 n0 85 [(0, .ref 70), (1, .int (3 : Int32)), (2, .int v0), (3, .int v1)] [.int (Int8.toInt32 (Int32.toInt8 v1)), .int v2, .ref 86] G U := rfl
theorem sg_sx_134 (big : Nat → List Value → qM → qW → qR) (n0 : Nat) (G : qM) (U : qW) (v0 : Int32) (v1 : Int32) (v2 : Int32) : qm_run pm_m big m_221 (n0 + 5) 69 [(0, .ref 70), (1, .int (3 : Int32)), (2, .int v0), (3, .int v1)] [.int v2, .ref 86] G U = qm_run pm_m big m_221 n0 76 [(0, .ref 70), (1, .int (3 : Int32)), (2, .int v0), (3, .int v1)] [.int (1 : Int32), .int (G 84 3), .int v2, .ref 86] G U := rfl
theorem sg_sx_135 (big : Nat → List Value → qM → qW → qR) (n0 : Nat) (G : qM) (U : qW) (v0 : Int32) (v1 : Int32) (v2 : Int32) : qm_run pm_m big m_221 (n0 + 3) 79 [(0, .ref 70), (1, .int (3 : Int32)), (2, .int v0), (3, .int v1)] [.int v2, .ref 86] G U = qm_run pm_m big m_221 n0 85 [(0, .ref 70), (1, .int (3 : Int32)), (2, .int v0), (3, .int v1)] [.int (Int16.toInt32 (Int32.toInt16 v1)), .int v2, .ref 86] G U := rfl
theorem sg_sx_136 (big : Nat → List Value → qM → qW → qR) (n0 : Nat) (G : qM) (U : qW) (v0 : Int32) (v1 : Int32) (v2 : Int32) : qm_run pm_m big m_221 (n0 + 1) 84 [(0, .ref 70), (1, .int (3 : Int32)), (2, .int v0), (3, .int v1)] [.int v2, .ref 86] G U = qm_run pm_m big m_221 n0 85 [(0, .ref 70), (1, .int (3 : Int32)), (2, .int v0), (3, .int v1)] [.int v1, .int v2, .ref 86] G U := rfl
theorem sg_sx_137 (big : Nat → List Value → qM → qW → qR) (n0 : Nat) (G : qM) (U : qW) : qm_run pm_m big m_143 (n0 + 4) 0 [(0, .ref 8), (1, .int (0 : Int32))] [] G U = qm_run pm_m big m_143 n0 48 [(0, .ref 8), (1, .int (0 : Int32))] [.ref 20] G U := rfl
theorem sg_sx_138 (big : Nat → List Value → qM → qW → qR) (n0 : Nat) (G : qM) (U : qW) : qm_run pm_m big m_143 (n0 + 4) 0 [(0, .ref 8), (1, .int (1 : Int32))] [] G U = qm_run pm_m big m_143 n0 56 [(0, .ref 8), (1, .int (1 : Int32))] [.ref 20] G U := rfl
theorem sg_sx_139 (big : Nat → List Value → qM → qW → qR) (n0 : Nat) (G : qM) (U : qW) : qm_run pm_m big m_143 (n0 + 4) 0 [(0, .ref 8), (1, .int (3 : Int32))] [] G U = qm_run pm_m big m_143 n0 72 [(0, .ref 8), (1, .int (3 : Int32))] [.int (G 8 7)] G U := rfl
theorem sg_sx_140 (big : Nat → List Value → qM → qW → qR) (n0 : Nat) (G : qM) (U : qW) : qm_run pm_m big m_143 (n0 + 6) 0 [(0, .ref 8), (1, .int (5 : Int32))] [] G U = qm_run pm_m big m_143 n0 90 [(0, .ref 8), (1, .int (5 : Int32))] [.ref 62] G U := rfl
theorem sg_sx_141 (big : Nat → List Value → qM → qW → qR) (n0 : Nat) (G : qM) (U : qW) : qm_run pm_m big m_143 (n0 + 4) 0 [(0, .ref 8), (1, .int (6 : Int32))] [] G U = qm_run pm_m big m_143 n0 115 [(0, .ref 8), (1, .int (6 : Int32))] [.ref 20] G U := rfl
theorem sg_sx_142 (big : Nat → List Value → qM → qW → qR) (n0 : Nat) (G : qM) (U : qW) (v0 : Int32) : qm_run pm_m big m_143 (n0 + 1) 0 [(0, .ref 8), (1, .int v0)] [] G U = qm_run pm_m big m_143 n0 1 [(0, .ref 8), (1, .int v0)] [.int v0] G U := rfl
theorem sg_sx_143 (big : Nat → List Value → qM → qW → qR) (n0 : Nat) (G : qM) (U : qW) (v0 : Int32) (v1 : Int32) (v2 : Int32) : qm_run pm_m big m_224 (n0 + 3) 8 [(0, .ref 70), (1, .int v0), (2, .int v1), (3, .int v2)] [] G U = qm_run pm_m big m_224 n0 13 [(0, .ref 70), (1, .int v0), (2, .int v1), (3, .int v2)] [.int (G 70 4), .int v2] G U := rfl
theorem sg_sx_144 (big : Nat → List Value → qM → qW → qR) (n0 : Nat) (G : qM) (U : qW) (v0 : Int32) (v1 : Int32) (v2 : Int32) : qm_run pm_m big m_224 (n0 + 6) 16 [(0, .ref 70), (1, .int v0), (2, .int v1), (3, .int v2)] [] G U = qm_run pm_m big m_224 n0 24 [(0, .ref 70), (1, .int v0), (2, .int v1), (3, .int v2)] [.int ((5 : Int32) + v2), .ref 71, .int v1] G U := rfl
theorem sg_sx_145 (big : Nat → List Value → qM → qW → qR) (n0 : Nat) (G : qM) (U : qW) (v0 : Int32) (v1 : Int32) (v2 : Int32) (v3 : Int32) : qm_run pm_m big m_224 (n0 + 2) 28 [(0, .ref 70), (1, .int v0), (2, .int v1), (3, .int v2)] [.int v3] G U = qm_run pm_m big m_224 n0 33 [(0, .ref 70), (1, .int v0), (2, .int v1), (3, .int v2)] [.int (1 : Int32), .int v3] G U := rfl
theorem sg_sx_146 (big : Nat → List Value → qM → qW → qR) (n0 : Nat) (G : qM) (U : qW) (v0 : Int32) (v1 : Int32) (v2 : Int32) (v3 : Int32) : qm_run pm_m big m_224 (n0 + 4) 36 [(0, .ref 70), (1, .int v0), (2, .int v1), (3, .int v2)] [.int (1 : Int32), .int v3] G U = qm_run pm_m big m_224 n0 8 [(0, .ref 70), (1, .int v0), (2, .int (v3 + (1 : Int32))), (3, .int (v2 + (1 : Int32)))] [] G U := rfl
theorem sg_sx_147 (big : Nat → List Value → qM → qW → qR) (n0 : Nat) (G : qM) (U : qW) (v0 : Int32) (v1 : Int32) (v2 : Int32) (v3 : Int32) : qm_run pm_m big m_224 (n0 + 1) 32 [(0, .ref 70), (1, .int v0), (2, .int v1), (3, .int v2)] [.int v3] G U = qm_run pm_m big m_224 n0 33 [(0, .ref 70), (1, .int v0), (2, .int v1), (3, .int v2)] [.int (0 : Int32), .int v3] G U := rfl
theorem sg_sx_148 (big : Nat → List Value → qM → qW → qR) (n0 : Nat) (G : qM) (U : qW) (v0 : Int32) (v1 : Int32) (v2 : Int32) (v3 : Int32) : qm_run pm_m big m_224 (n0 + 4) 36 [(0, .ref 70), (1, .int v0), (2, .int v1), (3, .int v2)] [.int (0 : Int32), .int v3] G U = qm_run pm_m big m_224 n0 8 [(0, .ref 70), (1, .int v0), (2, .int (v3 + (0 : Int32))), (3, .int (v2 + (1 : Int32)))] [] G U := rfl
theorem sg_sx_149 (big : Nat → List Value → qM → qW → qR) (n0 : Nat) (G : qM) (U : qW) : qm_run pm_m big m_224 (n0 + 1) 0 [(0, .ref 70), (1, .int (0 : Int32))] [] G U = qm_run pm_m big m_224 n0 1 [(0, .ref 70), (1, .int (0 : Int32))] [.ref 70] G U := rfl
theorem sg_sx_150 (big : Nat → List Value → qM → qW → qR) (n0 : Nat) (G : qM) (U : qW) : qm_run pm_m big m_224 (n0 + 4) 4 [(0, .ref 70), (1, .int (0 : Int32))] [] G U = qm_run pm_m big m_224 n0 8 [(0, .ref 70), (1, .int (0 : Int32)), (2, .int (0 : Int32)), (3, .int (0 : Int32))] [] G U := rfl
theorem sg_sx_151 (big : Nat → List Value → qM → qW → qR) (n0 : Nat) (G : qM) (U : qW) (v0 : Int32) (v1 : Int32) : qm_run pm_m big m_224 (n0 + 3) 44 [(0, .ref 70), (1, .int (0 : Int32)), (2, .int v0), (3, .int v1)] [] G U = qm_run pm_m big m_224 n0 89 [(0, .ref 70), (1, .int (0 : Int32)), (2, .int v0), (3, .int v1)] [.ref 70] G U := rfl
theorem sg_sx_152 (big : Nat → List Value → qM → qW → qR) (n0 : Nat) (G : qM) (U : qW) : qm_run pm_m big m_224 (n0 + 1) 0 [(0, .ref 70), (1, .int (1 : Int32))] [] G U = qm_run pm_m big m_224 n0 1 [(0, .ref 70), (1, .int (1 : Int32))] [.ref 70] G U := rfl
theorem sg_sx_153 (big : Nat → List Value → qM → qW → qR) (n0 : Nat) (G : qM) (U : qW) : qm_run pm_m big m_224 (n0 + 4) 4 [(0, .ref 70), (1, .int (1 : Int32))] [] G U = qm_run pm_m big m_224 n0 8 [(0, .ref 70), (1, .int (1 : Int32)), (2, .int (0 : Int32)), (3, .int (0 : Int32))] [] G U := rfl
theorem sg_sx_154 (big : Nat → List Value → qM → qW → qR) (n0 : Nat) (G : qM) (U : qW) (v0 : Int32) (v1 : Int32) : qm_run pm_m big m_224 (n0 + 3) 44 [(0, .ref 70), (1, .int (1 : Int32)), (2, .int v0), (3, .int v1)] [] G U = qm_run pm_m big m_224 n0 94 [(0, .ref 70), (1, .int (1 : Int32)), (2, .int v0), (3, .int v1)] [.ref 70] G U := rfl
theorem sg_sx_155 (big : Nat → List Value → qM → qW → qR) (n0 : Nat) (G : qM) (U : qW) : qm_run pm_m big m_224 (n0 + 1) 0 [(0, .ref 70), (1, .int (2 : Int32))] [] G U = qm_run pm_m big m_224 n0 1 [(0, .ref 70), (1, .int (2 : Int32))] [.ref 70] G U := rfl
theorem sg_sx_156 (big : Nat → List Value → qM → qW → qR) (n0 : Nat) (G : qM) (U : qW) : qm_run pm_m big m_224 (n0 + 4) 4 [(0, .ref 70), (1, .int (2 : Int32))] [] G U = qm_run pm_m big m_224 n0 8 [(0, .ref 70), (1, .int (2 : Int32)), (2, .int (0 : Int32)), (3, .int (0 : Int32))] [] G U := rfl
theorem sg_sx_157 (big : Nat → List Value → qM → qW → qR) (n0 : Nat) (G : qM) (U : qW) : qm_run pm_m big m_224 (n0 + 1) 0 [(0, .ref 70), (1, .int (3 : Int32))] [] G U = qm_run pm_m big m_224 n0 1 [(0, .ref 70), (1, .int (3 : Int32))] [.ref 70] G U := rfl
theorem sg_sx_158 (big : Nat → List Value → qM → qW → qR) (n0 : Nat) (G : qM) (U : qW) : qm_run pm_m big m_224 (n0 + 4) 4 [(0, .ref 70), (1, .int (3 : Int32))] [] G U = qm_run pm_m big m_224 n0 8 [(0, .ref 70), (1, .int (3 : Int32)), (2, .int (0 : Int32)), (3, .int (0 : Int32))] [] G U := rfl
theorem sg_sx_159 (big : Nat → List Value → qM → qW → qR) (n0 : Nat) (G : qM) (U : qW) (v0 : Int32) (v1 : Int32) : qm_run pm_m big m_224 (n0 + 6) 44 [(0, .ref 70), (1, .int (3 : Int32)), (2, .int v0), (3, .int v1)] [] G U = qm_run pm_m big m_224 n0 112 [(0, .ref 70), (1, .int (3 : Int32)), (2, .int v0), (3, .int v1)] [.int (G 72 0)] G U := rfl
theorem sg_sx_160 (big : Nat → List Value → qM → qW → qR) (n0 : Nat) (G : qM) (U : qW) (v0 : Int32) (v1 : Int32) (v2 : Int32) : qm_run pm_m big m_224 (n0 + 4) 115 [(0, .ref 70), (1, .int (3 : Int32)), (2, .int v0), (3, .int v1)] [.int v2] G U = qm_run pm_m big m_224 n0 121 [(0, .ref 70), (1, .int (3 : Int32)), (2, .int v0), (3, .int v1)] [.int (G 72 1), .int v2] G U := rfl
theorem sg_sx_161 (big : Nat → List Value → qM → qW → qR) (n0 : Nat) (G : qM) (U : qW) : qm_run pm_m big m_224 (n0 + 1) 0 [(0, .ref 70), (1, .int (4 : Int32))] [] G U = qm_run pm_m big m_224 n0 1 [(0, .ref 70), (1, .int (4 : Int32))] [.ref 70] G U := rfl
theorem sg_sx_162 (big : Nat → List Value → qM → qW → qR) (n0 : Nat) (G : qM) (U : qW) : qm_run pm_m big m_224 (n0 + 4) 4 [(0, .ref 70), (1, .int (4 : Int32))] [] G U = qm_run pm_m big m_224 n0 8 [(0, .ref 70), (1, .int (4 : Int32)), (2, .int (0 : Int32)), (3, .int (0 : Int32))] [] G U := rfl
theorem sg_sx_163 (big : Nat → List Value → qM → qW → qR) (n0 : Nat) (G : qM) (U : qW) : qm_run pm_m big m_224 (n0 + 1) 0 [(0, .ref 70), (1, .int (5 : Int32))] [] G U = qm_run pm_m big m_224 n0 1 [(0, .ref 70), (1, .int (5 : Int32))] [.ref 70] G U := rfl
theorem sg_sx_164 (big : Nat → List Value → qM → qW → qR) (n0 : Nat) (G : qM) (U : qW) : qm_run pm_m big m_224 (n0 + 4) 4 [(0, .ref 70), (1, .int (5 : Int32))] [] G U = qm_run pm_m big m_224 n0 8 [(0, .ref 70), (1, .int (5 : Int32)), (2, .int (0 : Int32)), (3, .int (0 : Int32))] [] G U := rfl
theorem sg_sx_165 (big : Nat → List Value → qM → qW → qR) (n0 : Nat) (G : qM) (U : qW) (v0 : Int32) (v1 : Int32) : qm_run pm_m big m_224 (n0 + 7) 44 [(0, .ref 70), (1, .int (5 : Int32)), (2, .int v0), (3, .int v1)] [] G U = qm_run pm_m big m_224 n0 139 [(0, .ref 70), (1, .int (5 : Int32)), (2, .int v0), (3, .int v1)] [.int (Int8.toInt32 (Int8.ofInt (-4))), .int (G 84 0)] G U := rfl
theorem sg_sx_166 (big : Nat → List Value → qM → qW → qR) (n0 : Nat) (G : qM) (U : qW) : qm_run pm_m big m_224 (n0 + 1) 0 [(0, .ref 70), (1, .int (6 : Int32))] [] G U = qm_run pm_m big m_224 n0 1 [(0, .ref 70), (1, .int (6 : Int32))] [.ref 70] G U := rfl
theorem sg_sx_167 (big : Nat → List Value → qM → qW → qR) (n0 : Nat) (G : qM) (U : qW) : qm_run pm_m big m_224 (n0 + 4) 4 [(0, .ref 70), (1, .int (6 : Int32))] [] G U = qm_run pm_m big m_224 n0 8 [(0, .ref 70), (1, .int (6 : Int32)), (2, .int (0 : Int32)), (3, .int (0 : Int32))] [] G U := rfl
theorem sg_sx_168 (big : Nat → List Value → qM → qW → qR) (n0 : Nat) (G : qM) (U : qW) (v0 : Int32) : qm_run pm_m big m_224 (n0 + 1) 0 [(0, .ref 70), (1, .int v0)] [] G U = qm_run pm_m big m_224 n0 1 [(0, .ref 70), (1, .int v0)] [.ref 70] G U := rfl
theorem sg_sx_169 (big : Nat → List Value → qM → qW → qR) (n0 : Nat) (G : qM) (U : qW) (v0 : Int32) : qm_run pm_m big m_224 (n0 + 4) 4 [(0, .ref 70), (1, .int v0)] [] G U = qm_run pm_m big m_224 n0 8 [(0, .ref 70), (1, .int v0), (2, .int (0 : Int32)), (3, .int (0 : Int32))] [] G U := rfl
theorem sg_sx_170 (big : Nat → List Value → qM → qW → qR) (n0 : Nat) (G : qM) (U : qW) (v0 : Int32) (v1 : Int32) (v2 : Int32) : qm_run pm_m big m_224 (n0 + 1) 44 [(0, .ref 70), (1, .int v0), (2, .int v1), (3, .int v2)] [] G U = qm_run pm_m big m_224 n0 45 [(0, .ref 70), (1, .int v0), (2, .int v1), (3, .int v2)] [.int v0] G U := rfl
theorem cs_44_0 (g : qM) (u : qW) : ∀ k i, i + k = 44 → q_EV m_217 2 [(0, .ref 70), (1, .int (44 : Int32)), (2, .int (0 : Int32)), (3, .int (Int32.ofNat i))] [] (s_cps 44 0 i g) u (fun R => R = (none, s_cps 44 0 44 g, u)) := by
  intro k
  induction k with
  | zero =>
    intro i hi
    refine q_step 2 5 [(0, .ref 70), (1, .int (44 : Int32)), (2, .int (0 : Int32)), (3, .int (Int32.ofNat i))] [.int (44 : Int32), .int (Int32.ofNat i)] (s_cps 44 0 i g) u (fun big n0 => sg_sx_1 big n0 (s_cps 44 0 i g) u (Int32.ofNat i)) ?_
    refine q_ic_ge rfl (fun (hc0 : (44 : Int32) ≤ (Int32.ofNat i)) => ?_) (fun hc0 => absurd (show (44 : Int32) ≤ (Int32.ofNat i) from by have z : i = 44 := hi; exact (q_le (i := 44) (j := i) (by omega) (by omega)).mpr (by omega)) hc0)
    refine q_ret 1 (none, (s_cps 44 0 i g), u) (fun _ _ => rfl) ?_
    rw [show i = 44 from hi]
  | succ k ih =>
    intro i hi
    refine q_step 2 5 [(0, .ref 70), (1, .int (44 : Int32)), (2, .int (0 : Int32)), (3, .int (Int32.ofNat i))] [.int (44 : Int32), .int (Int32.ofNat i)] (s_cps 44 0 i g) u (fun big n0 => sg_sx_1 big n0 (s_cps 44 0 i g) u (Int32.ofNat i)) ?_
    refine q_ic_ge rfl (fun hc0 => absurd (show (44 : Int32) ≤ (Int32.ofNat i) from hc0) (fun z => absurd ((q_le (i := 44) (j := i) (by omega) (by omega)).mp z) (by omega))) (fun (hc0 : ¬ ((44 : Int32) ≤ (Int32.ofNat i))) => ?_)
    refine q_step 10 22 [(0, .ref 70), (1, .int (44 : Int32)), (2, .int (0 : Int32)), (3, .int (Int32.ofNat i))] [.int ((0 : Int32) + (Int32.ofNat i)), .ref 71, .int ((44 : Int32) + (Int32.ofNat i)), .ref 71] (s_cps 44 0 i g) u (fun big n0 => sg_sx_2 big n0 (s_cps 44 0 i g) u (Int32.ofNat i)) ?_
    refine q_iald (j := (0 + i)) (s_rixn (K := 0) (i := i) (by omega)) rfl rfl ?_
    refine q_iast (j := (44 + i)) (s_rixn (K := 44) (i := i) (by omega)) rfl rfl ?_
    refine q_step 2 2 [(0, .ref 70), (1, .int (44 : Int32)), (2, .int (0 : Int32)), (3, .int ((Int32.ofNat i) + (1 : Int32)))] [] (q_up (s_cps 44 0 i g) 71 (44 + i) ((s_cps 44 0 i g) 71 (0 + i))) u (fun big n0 => sg_sx_3 big n0 (q_up (s_cps 44 0 i g) 71 (44 + i) ((s_cps 44 0 i g) 71 (0 + i))) u (Int32.ofNat i)) ?_
    rw [q_succ, show (q_up (s_cps 44 0 i g) 71 (44 + i) ((s_cps 44 0 i g) 71 (0 + i))) = s_cps 44 0 (i + 1) g from by
      rw [s_cps_r (by omega) (by omega)]
      exact s_cps_s]
    exact ih (i + 1) (by omega)
theorem b_cps44_0 (g : qM) (u : qW) : q_BS 217 [.ref 70, .int (44 : Int32), .int (0 : Int32)] g u (none, s_cps 44 0 44 g, u) := by
  refine q_bx (mm := m_217) rfl (Nat.le_of_ble_eq_true rfl) rfl ?_
  refine q_step 2 2 [(0, .ref 70), (1, .int (44 : Int32)), (2, .int (0 : Int32)), (3, .int (0 : Int32))] [] g u (fun big n0 => sg_sx_4 big n0 g u) ?_
  have e := cs_44_0 g u 44 0 (by omega)
  rw [s_cps_0] at e
  exact e
theorem cs_88_0 (g : qM) (u : qW) : ∀ k i, i + k = 44 → q_EV m_217 2 [(0, .ref 70), (1, .int (88 : Int32)), (2, .int (0 : Int32)), (3, .int (Int32.ofNat i))] [] (s_cps 88 0 i g) u (fun R => R = (none, s_cps 88 0 44 g, u)) := by
  intro k
  induction k with
  | zero =>
    intro i hi
    refine q_step 2 5 [(0, .ref 70), (1, .int (88 : Int32)), (2, .int (0 : Int32)), (3, .int (Int32.ofNat i))] [.int (44 : Int32), .int (Int32.ofNat i)] (s_cps 88 0 i g) u (fun big n0 => sg_sx_5 big n0 (s_cps 88 0 i g) u (Int32.ofNat i)) ?_
    refine q_ic_ge rfl (fun (hc0 : (44 : Int32) ≤ (Int32.ofNat i)) => ?_) (fun hc0 => absurd (show (44 : Int32) ≤ (Int32.ofNat i) from by have z : i = 44 := hi; exact (q_le (i := 44) (j := i) (by omega) (by omega)).mpr (by omega)) hc0)
    refine q_ret 1 (none, (s_cps 88 0 i g), u) (fun _ _ => rfl) ?_
    rw [show i = 44 from hi]
  | succ k ih =>
    intro i hi
    refine q_step 2 5 [(0, .ref 70), (1, .int (88 : Int32)), (2, .int (0 : Int32)), (3, .int (Int32.ofNat i))] [.int (44 : Int32), .int (Int32.ofNat i)] (s_cps 88 0 i g) u (fun big n0 => sg_sx_5 big n0 (s_cps 88 0 i g) u (Int32.ofNat i)) ?_
    refine q_ic_ge rfl (fun hc0 => absurd (show (44 : Int32) ≤ (Int32.ofNat i) from hc0) (fun z => absurd ((q_le (i := 44) (j := i) (by omega) (by omega)).mp z) (by omega))) (fun (hc0 : ¬ ((44 : Int32) ≤ (Int32.ofNat i))) => ?_)
    refine q_step 10 22 [(0, .ref 70), (1, .int (88 : Int32)), (2, .int (0 : Int32)), (3, .int (Int32.ofNat i))] [.int ((0 : Int32) + (Int32.ofNat i)), .ref 71, .int ((88 : Int32) + (Int32.ofNat i)), .ref 71] (s_cps 88 0 i g) u (fun big n0 => sg_sx_6 big n0 (s_cps 88 0 i g) u (Int32.ofNat i)) ?_
    refine q_iald (j := (0 + i)) (s_rixn (K := 0) (i := i) (by omega)) rfl rfl ?_
    refine q_iast (j := (88 + i)) (s_rixn (K := 88) (i := i) (by omega)) rfl rfl ?_
    refine q_step 2 2 [(0, .ref 70), (1, .int (88 : Int32)), (2, .int (0 : Int32)), (3, .int ((Int32.ofNat i) + (1 : Int32)))] [] (q_up (s_cps 88 0 i g) 71 (88 + i) ((s_cps 88 0 i g) 71 (0 + i))) u (fun big n0 => sg_sx_7 big n0 (q_up (s_cps 88 0 i g) 71 (88 + i) ((s_cps 88 0 i g) 71 (0 + i))) u (Int32.ofNat i)) ?_
    rw [q_succ, show (q_up (s_cps 88 0 i g) 71 (88 + i) ((s_cps 88 0 i g) 71 (0 + i))) = s_cps 88 0 (i + 1) g from by
      rw [s_cps_r (by omega) (by omega)]
      exact s_cps_s]
    exact ih (i + 1) (by omega)
theorem b_cps88_0 (g : qM) (u : qW) : q_BS 217 [.ref 70, .int (88 : Int32), .int (0 : Int32)] g u (none, s_cps 88 0 44 g, u) := by
  refine q_bx (mm := m_217) rfl (Nat.le_of_ble_eq_true rfl) rfl ?_
  refine q_step 2 2 [(0, .ref 70), (1, .int (88 : Int32)), (2, .int (0 : Int32)), (3, .int (0 : Int32))] [] g u (fun big n0 => sg_sx_8 big n0 g u) ?_
  have e := cs_88_0 g u 44 0 (by omega)
  rw [s_cps_0] at e
  exact e
theorem cs_0_44 (g : qM) (u : qW) : ∀ k i, i + k = 44 → q_EV m_217 2 [(0, .ref 70), (1, .int (0 : Int32)), (2, .int (44 : Int32)), (3, .int (Int32.ofNat i))] [] (s_cps 0 44 i g) u (fun R => R = (none, s_cps 0 44 44 g, u)) := by
  intro k
  induction k with
  | zero =>
    intro i hi
    refine q_step 2 5 [(0, .ref 70), (1, .int (0 : Int32)), (2, .int (44 : Int32)), (3, .int (Int32.ofNat i))] [.int (44 : Int32), .int (Int32.ofNat i)] (s_cps 0 44 i g) u (fun big n0 => sg_sx_9 big n0 (s_cps 0 44 i g) u (Int32.ofNat i)) ?_
    refine q_ic_ge rfl (fun (hc0 : (44 : Int32) ≤ (Int32.ofNat i)) => ?_) (fun hc0 => absurd (show (44 : Int32) ≤ (Int32.ofNat i) from by have z : i = 44 := hi; exact (q_le (i := 44) (j := i) (by omega) (by omega)).mpr (by omega)) hc0)
    refine q_ret 1 (none, (s_cps 0 44 i g), u) (fun _ _ => rfl) ?_
    rw [show i = 44 from hi]
  | succ k ih =>
    intro i hi
    refine q_step 2 5 [(0, .ref 70), (1, .int (0 : Int32)), (2, .int (44 : Int32)), (3, .int (Int32.ofNat i))] [.int (44 : Int32), .int (Int32.ofNat i)] (s_cps 0 44 i g) u (fun big n0 => sg_sx_9 big n0 (s_cps 0 44 i g) u (Int32.ofNat i)) ?_
    refine q_ic_ge rfl (fun hc0 => absurd (show (44 : Int32) ≤ (Int32.ofNat i) from hc0) (fun z => absurd ((q_le (i := 44) (j := i) (by omega) (by omega)).mp z) (by omega))) (fun (hc0 : ¬ ((44 : Int32) ≤ (Int32.ofNat i))) => ?_)
    refine q_step 10 22 [(0, .ref 70), (1, .int (0 : Int32)), (2, .int (44 : Int32)), (3, .int (Int32.ofNat i))] [.int ((44 : Int32) + (Int32.ofNat i)), .ref 71, .int ((0 : Int32) + (Int32.ofNat i)), .ref 71] (s_cps 0 44 i g) u (fun big n0 => sg_sx_10 big n0 (s_cps 0 44 i g) u (Int32.ofNat i)) ?_
    refine q_iald (j := (44 + i)) (s_rixn (K := 44) (i := i) (by omega)) rfl rfl ?_
    refine q_iast (j := (0 + i)) (s_rixn (K := 0) (i := i) (by omega)) rfl rfl ?_
    refine q_step 2 2 [(0, .ref 70), (1, .int (0 : Int32)), (2, .int (44 : Int32)), (3, .int ((Int32.ofNat i) + (1 : Int32)))] [] (q_up (s_cps 0 44 i g) 71 (0 + i) ((s_cps 0 44 i g) 71 (44 + i))) u (fun big n0 => sg_sx_11 big n0 (q_up (s_cps 0 44 i g) 71 (0 + i) ((s_cps 0 44 i g) 71 (44 + i))) u (Int32.ofNat i)) ?_
    rw [q_succ, show (q_up (s_cps 0 44 i g) 71 (0 + i) ((s_cps 0 44 i g) 71 (44 + i))) = s_cps 0 44 (i + 1) g from by
      rw [s_cps_r (by omega) (by omega)]
      exact s_cps_s]
    exact ih (i + 1) (by omega)
theorem b_cps0_44 (g : qM) (u : qW) : q_BS 217 [.ref 70, .int (0 : Int32), .int (44 : Int32)] g u (none, s_cps 0 44 44 g, u) := by
  refine q_bx (mm := m_217) rfl (Nat.le_of_ble_eq_true rfl) rfl ?_
  refine q_step 2 2 [(0, .ref 70), (1, .int (0 : Int32)), (2, .int (44 : Int32)), (3, .int (0 : Int32))] [] g u (fun big n0 => sg_sx_12 big n0 g u) ?_
  have e := cs_0_44 g u 44 0 (by omega)
  rw [s_cps_0] at e
  exact e
theorem cs_0_88 (g : qM) (u : qW) : ∀ k i, i + k = 44 → q_EV m_217 2 [(0, .ref 70), (1, .int (0 : Int32)), (2, .int (88 : Int32)), (3, .int (Int32.ofNat i))] [] (s_cps 0 88 i g) u (fun R => R = (none, s_cps 0 88 44 g, u)) := by
  intro k
  induction k with
  | zero =>
    intro i hi
    refine q_step 2 5 [(0, .ref 70), (1, .int (0 : Int32)), (2, .int (88 : Int32)), (3, .int (Int32.ofNat i))] [.int (44 : Int32), .int (Int32.ofNat i)] (s_cps 0 88 i g) u (fun big n0 => sg_sx_13 big n0 (s_cps 0 88 i g) u (Int32.ofNat i)) ?_
    refine q_ic_ge rfl (fun (hc0 : (44 : Int32) ≤ (Int32.ofNat i)) => ?_) (fun hc0 => absurd (show (44 : Int32) ≤ (Int32.ofNat i) from by have z : i = 44 := hi; exact (q_le (i := 44) (j := i) (by omega) (by omega)).mpr (by omega)) hc0)
    refine q_ret 1 (none, (s_cps 0 88 i g), u) (fun _ _ => rfl) ?_
    rw [show i = 44 from hi]
  | succ k ih =>
    intro i hi
    refine q_step 2 5 [(0, .ref 70), (1, .int (0 : Int32)), (2, .int (88 : Int32)), (3, .int (Int32.ofNat i))] [.int (44 : Int32), .int (Int32.ofNat i)] (s_cps 0 88 i g) u (fun big n0 => sg_sx_13 big n0 (s_cps 0 88 i g) u (Int32.ofNat i)) ?_
    refine q_ic_ge rfl (fun hc0 => absurd (show (44 : Int32) ≤ (Int32.ofNat i) from hc0) (fun z => absurd ((q_le (i := 44) (j := i) (by omega) (by omega)).mp z) (by omega))) (fun (hc0 : ¬ ((44 : Int32) ≤ (Int32.ofNat i))) => ?_)
    refine q_step 10 22 [(0, .ref 70), (1, .int (0 : Int32)), (2, .int (88 : Int32)), (3, .int (Int32.ofNat i))] [.int ((88 : Int32) + (Int32.ofNat i)), .ref 71, .int ((0 : Int32) + (Int32.ofNat i)), .ref 71] (s_cps 0 88 i g) u (fun big n0 => sg_sx_14 big n0 (s_cps 0 88 i g) u (Int32.ofNat i)) ?_
    refine q_iald (j := (88 + i)) (s_rixn (K := 88) (i := i) (by omega)) rfl rfl ?_
    refine q_iast (j := (0 + i)) (s_rixn (K := 0) (i := i) (by omega)) rfl rfl ?_
    refine q_step 2 2 [(0, .ref 70), (1, .int (0 : Int32)), (2, .int (88 : Int32)), (3, .int ((Int32.ofNat i) + (1 : Int32)))] [] (q_up (s_cps 0 88 i g) 71 (0 + i) ((s_cps 0 88 i g) 71 (88 + i))) u (fun big n0 => sg_sx_15 big n0 (q_up (s_cps 0 88 i g) 71 (0 + i) ((s_cps 0 88 i g) 71 (88 + i))) u (Int32.ofNat i)) ?_
    rw [q_succ, show (q_up (s_cps 0 88 i g) 71 (0 + i) ((s_cps 0 88 i g) 71 (88 + i))) = s_cps 0 88 (i + 1) g from by
      rw [s_cps_r (by omega) (by omega)]
      exact s_cps_s]
    exact ih (i + 1) (by omega)
theorem b_cps0_88 (g : qM) (u : qW) : q_BS 217 [.ref 70, .int (0 : Int32), .int (88 : Int32)] g u (none, s_cps 0 88 44 g, u) := by
  refine q_bx (mm := m_217) rfl (Nat.le_of_ble_eq_true rfl) rfl ?_
  refine q_step 2 2 [(0, .ref 70), (1, .int (0 : Int32)), (2, .int (88 : Int32)), (3, .int (0 : Int32))] [] g u (fun big n0 => sg_sx_16 big n0 g u) ?_
  have e := cs_0_88 g u 44 0 (by omega)
  rw [s_cps_0] at e
  exact e
theorem rg_keep0 (g : qM) (u : qW) : q_BS 216 [.ref 70, .int (0 : Int32)] g u (some (.int (if g 72 0 = 0 then (0 : Int32) else 1)), s_cps 44 0 44 (q_up g 72 0 1), u) := by
  refine q_bx (mm := m_216) rfl (Nat.le_of_ble_eq_true rfl) rfl ?_
  refine q_step 4 4 [(0, .ref 70), (1, .int (0 : Int32))] [.long (1 : Int64), .long (0 : Int64), .long (0 : Int64)] g u (fun big n0 => sg_sx_17 big n0 g u) ?_
  refine q_call (M2 := 149) (rest := []) (show q_BS 149 [.long (0 : Int64), .long (0 : Int64), .long (1 : Int64)] g u (some (.int 1), g, u) from b_in _ _ _ _ _) (fun _ _ => rfl) ?_
  refine q_step 5 18 [(0, .ref 70), (1, .int (0 : Int32))] [.int (g 72 0)] g u (fun big n0 => sg_sx_18 big n0 g u) ?_
  refine q_call (M2 := 164) (rest := []) (b_flag _ _ _) (fun _ _ => rfl) ?_
  refine q_step 13 37 [(0, .ref 70), (1, .int (0 : Int32)), (2, .int (if (g 72 0) = 0 then (0 : Int32) else 1))] [.int (0 : Int32), .int (44 : Int32), .ref 70] (q_up g 72 0 ((1 : Int32) &&& 1)) u (fun big n0 => sg_sx_19 big n0 g u (if (g 72 0) = 0 then (0 : Int32) else 1)) ?_
  refine q_call (M2 := 217) (rest := []) (b_cps44_0 (q_up g 72 0 ((1 : Int32) &&& 1)) u) (fun _ _ => rfl) ?_
  refine q_ret 2 (some (.int (if (g 72 0) = 0 then (0 : Int32) else 1)), (s_cps 44 0 44 (q_up g 72 0 ((1 : Int32) &&& 1))), u) (fun _ _ => rfl) ?_
  rfl
theorem rg_back0 (g : qM) (u : qW) (hk : ¬ g 72 0 = 0) : q_BS 218 [.ref 70, .int (0 : Int32)] g u (some (.int ((s_cps 0 44 44 g) 71 26)), s_cps 0 44 44 g, u) := by
  refine q_bx (mm := m_218) rfl (Nat.le_of_ble_eq_true rfl) rfl ?_
  refine q_step 4 4 [(0, .ref 70), (1, .int (0 : Int32))] [.long (1 : Int64), .long (0 : Int64), .long (0 : Int64)] g u (fun big n0 => sg_sx_20 big n0 g u) ?_
  refine q_call (M2 := 149) (rest := []) (show q_BS 149 [.long (0 : Int64), .long (0 : Int64), .long (1 : Int64)] g u (some (.int 1), g, u) from b_in _ _ _ _ _) (fun _ _ => rfl) ?_
  refine q_step 5 18 [(0, .ref 70), (1, .int (0 : Int32))] [.int (g 72 0)] g u (fun big n0 => sg_sx_21 big n0 g u) ?_
  refine q_if_ne rfl (fun hc0 => absurd (show (g 72 0) = 0 from hc0) (hk)) (fun (hc0 : ¬ ((g 72 0) = 0)) => ?_)
  refine q_step 7 32 [(0, .ref 70), (1, .int (0 : Int32))] [.int (44 : Int32), .int (0 : Int32), .ref 70] g u (fun big n0 => sg_sx_22 big n0 g u) ?_
  refine q_call (M2 := 217) (rest := []) (b_cps0_44 g u) (fun _ _ => rfl) ?_
  refine q_ret 5 (some (.int ((s_cps 0 44 44 g) 71 26)), (s_cps 0 44 44 g), u) (fun _ _ => rfl) ?_
  rfl
theorem rg_back0n (g : qM) (u : qW) (hk : g 72 0 = 0) : q_BS 218 [.ref 70, .int (0 : Int32)] g u (some (.int (Int32.ofInt (-2))), g, u) := by
  refine q_bx (mm := m_218) rfl (Nat.le_of_ble_eq_true rfl) rfl ?_
  refine q_step 4 4 [(0, .ref 70), (1, .int (0 : Int32))] [.long (1 : Int64), .long (0 : Int64), .long (0 : Int64)] g u (fun big n0 => sg_sx_20 big n0 g u) ?_
  refine q_call (M2 := 149) (rest := []) (show q_BS 149 [.long (0 : Int64), .long (0 : Int64), .long (1 : Int64)] g u (some (.int 1), g, u) from b_in _ _ _ _ _) (fun _ _ => rfl) ?_
  refine q_step 5 18 [(0, .ref 70), (1, .int (0 : Int32))] [.int (g 72 0)] g u (fun big n0 => sg_sx_21 big n0 g u) ?_
  refine q_if_ne rfl (fun (hc0 : (g 72 0) = 0) => ?_) (fun hc0 => absurd (show (g 72 0) = 0 from hk) hc0)
  refine q_ret 2 (some (.int (Int8.toInt32 (Int8.ofInt (-2)))), g, u) (fun _ _ => rfl) ?_
  rfl
theorem rg_keep1 (g : qM) (u : qW) : q_BS 216 [.ref 70, .int (1 : Int32)] g u (some (.int (if g 72 1 = 0 then (0 : Int32) else 1)), s_cps 88 0 44 (q_up g 72 1 1), u) := by
  refine q_bx (mm := m_216) rfl (Nat.le_of_ble_eq_true rfl) rfl ?_
  refine q_step 4 4 [(0, .ref 70), (1, .int (1 : Int32))] [.long (1 : Int64), .long (0 : Int64), .long (1 : Int64)] g u (fun big n0 => sg_sx_23 big n0 g u) ?_
  refine q_call (M2 := 149) (rest := []) (show q_BS 149 [.long (1 : Int64), .long (0 : Int64), .long (1 : Int64)] g u (some (.int 1), g, u) from b_in _ _ _ _ _) (fun _ _ => rfl) ?_
  refine q_step 5 18 [(0, .ref 70), (1, .int (1 : Int32))] [.int (g 72 1)] g u (fun big n0 => sg_sx_24 big n0 g u) ?_
  refine q_call (M2 := 164) (rest := []) (b_flag _ _ _) (fun _ _ => rfl) ?_
  refine q_step 13 37 [(0, .ref 70), (1, .int (1 : Int32)), (2, .int (if (g 72 1) = 0 then (0 : Int32) else 1))] [.int (0 : Int32), .int (88 : Int32), .ref 70] (q_up g 72 1 ((1 : Int32) &&& 1)) u (fun big n0 => sg_sx_25 big n0 g u (if (g 72 1) = 0 then (0 : Int32) else 1)) ?_
  refine q_call (M2 := 217) (rest := []) (b_cps88_0 (q_up g 72 1 ((1 : Int32) &&& 1)) u) (fun _ _ => rfl) ?_
  refine q_ret 2 (some (.int (if (g 72 1) = 0 then (0 : Int32) else 1)), (s_cps 88 0 44 (q_up g 72 1 ((1 : Int32) &&& 1))), u) (fun _ _ => rfl) ?_
  rfl
theorem rg_back1 (g : qM) (u : qW) (hk : ¬ g 72 1 = 0) : q_BS 218 [.ref 70, .int (1 : Int32)] g u (some (.int ((s_cps 0 88 44 g) 71 26)), s_cps 0 88 44 g, u) := by
  refine q_bx (mm := m_218) rfl (Nat.le_of_ble_eq_true rfl) rfl ?_
  refine q_step 4 4 [(0, .ref 70), (1, .int (1 : Int32))] [.long (1 : Int64), .long (0 : Int64), .long (1 : Int64)] g u (fun big n0 => sg_sx_26 big n0 g u) ?_
  refine q_call (M2 := 149) (rest := []) (show q_BS 149 [.long (1 : Int64), .long (0 : Int64), .long (1 : Int64)] g u (some (.int 1), g, u) from b_in _ _ _ _ _) (fun _ _ => rfl) ?_
  refine q_step 5 18 [(0, .ref 70), (1, .int (1 : Int32))] [.int (g 72 1)] g u (fun big n0 => sg_sx_27 big n0 g u) ?_
  refine q_if_ne rfl (fun hc0 => absurd (show (g 72 1) = 0 from hc0) (hk)) (fun (hc0 : ¬ ((g 72 1) = 0)) => ?_)
  refine q_step 7 32 [(0, .ref 70), (1, .int (1 : Int32))] [.int (88 : Int32), .int (0 : Int32), .ref 70] g u (fun big n0 => sg_sx_28 big n0 g u) ?_
  refine q_call (M2 := 217) (rest := []) (b_cps0_88 g u) (fun _ _ => rfl) ?_
  refine q_ret 5 (some (.int ((s_cps 0 88 44 g) 71 26)), (s_cps 0 88 44 g), u) (fun _ _ => rfl) ?_
  rfl
theorem rg_back1n (g : qM) (u : qW) (hk : g 72 1 = 0) : q_BS 218 [.ref 70, .int (1 : Int32)] g u (some (.int (Int32.ofInt (-2))), g, u) := by
  refine q_bx (mm := m_218) rfl (Nat.le_of_ble_eq_true rfl) rfl ?_
  refine q_step 4 4 [(0, .ref 70), (1, .int (1 : Int32))] [.long (1 : Int64), .long (0 : Int64), .long (1 : Int64)] g u (fun big n0 => sg_sx_26 big n0 g u) ?_
  refine q_call (M2 := 149) (rest := []) (show q_BS 149 [.long (1 : Int64), .long (0 : Int64), .long (1 : Int64)] g u (some (.int 1), g, u) from b_in _ _ _ _ _) (fun _ _ => rfl) ?_
  refine q_step 5 18 [(0, .ref 70), (1, .int (1 : Int32))] [.int (g 72 1)] g u (fun big n0 => sg_sx_27 big n0 g u) ?_
  refine q_if_ne rfl (fun (hc0 : (g 72 1) = 0) => ?_) (fun hc0 => absurd (show (g 72 1) = 0 from hk) hc0)
  refine q_ret 2 (some (.int (Int8.toInt32 (Int8.ofInt (-2)))), g, u) (fun _ _ => rfl) ?_
  rfl
theorem b_ris0 (g : qM) (u : qW) {l : Nat} (hl : l ≤ 2) : q_BS 220 [.int (0 : Int32), .int (Int32.ofNat l)] g u (some (.int 1), g, u) := by
  refine q_bx (mm := m_220) rfl (Nat.le_of_ble_eq_true rfl) rfl ?_
  refine q_step 4 6 [(0, .int (0 : Int32)), (1, .int (Int32.ofNat l))] [.long (3 : Int64), .long (0 : Int64), .long (0 : Int64)] g u (fun big n0 => sg_sx_29 big n0 g u (Int32.ofNat l)) ?_
  refine q_call (M2 := 149) (rest := []) (show q_BS 149 [.long (0 : Int64), .long (0 : Int64), .long (3 : Int64)] g u (some (.int 1), g, u) from b_in _ _ _ _ _) (fun _ _ => rfl) ?_
  refine q_step 5 18 [(0, .int (0 : Int32)), (1, .int (Int32.ofNat l))] [.long (2 : Int64), .long (0 : Int64), .long (Int32.toInt64 (Int32.ofNat l))] g u (fun big n0 => sg_sx_30 big n0 g u (Int32.ofNat l)) ?_
  refine q_call (M2 := 149) (rest := []) (b_in1 (m := l) (lo := 0) (hi := 2) g u (by omega) (by omega) (by omega)) (fun _ _ => rfl) ?_
  refine q_ret 4 (some (.int (1 : Int32)), g, u) (fun _ _ => rfl) ?_
  rfl
theorem zr_0 (g : qM) (u : qW) {l z : Nat} : ∀ k i, i + k = 40 → q_EV m_219 40 [(0, .ref 70), (1, .int (0 : Int32)), (2, .int (Int32.ofNat l)), (3, .int (Int32.ofNat z)), (4, .int (Int32.ofNat i))] [] (s_zr 0 i g) u (fun R => R = (some (.int 1), s_zr 0 40 g, u)) := by
  intro k
  induction k with
  | zero =>
    intro i hi
    refine q_step 2 44 [(0, .ref 70), (1, .int (0 : Int32)), (2, .int (Int32.ofNat l)), (3, .int (Int32.ofNat z)), (4, .int (Int32.ofNat i))] [.int (40 : Int32), .int (Int32.ofNat i)] (s_zr 0 i g) u (fun big n0 => sg_sx_31 big n0 (s_zr 0 i g) u (Int32.ofNat l) (Int32.ofNat z) (Int32.ofNat i)) ?_
    refine q_ic_ge rfl (fun (hc0 : (40 : Int32) ≤ (Int32.ofNat i)) => ?_) (fun hc0 => absurd (show (40 : Int32) ≤ (Int32.ofNat i) from by have z : i = 40 := hi; exact (q_le (i := 40) (j := i) (by omega) (by omega)).mpr (by omega)) hc0)
    refine q_ret 2 (some (.int (1 : Int32)), (s_zr 0 i g), u) (fun _ _ => rfl) ?_
    rw [show i = 40 from hi]
  | succ k ih =>
    intro i hi
    refine q_step 2 44 [(0, .ref 70), (1, .int (0 : Int32)), (2, .int (Int32.ofNat l)), (3, .int (Int32.ofNat z)), (4, .int (Int32.ofNat i))] [.int (40 : Int32), .int (Int32.ofNat i)] (s_zr 0 i g) u (fun big n0 => sg_sx_31 big n0 (s_zr 0 i g) u (Int32.ofNat l) (Int32.ofNat z) (Int32.ofNat i)) ?_
    refine q_ic_ge rfl (fun hc0 => absurd (show (40 : Int32) ≤ (Int32.ofNat i) from hc0) (fun z => absurd ((q_le (i := 40) (j := i) (by omega) (by omega)).mp z) (by omega))) (fun (hc0 : ¬ ((40 : Int32) ≤ (Int32.ofNat i))) => ?_)
    refine q_step 8 59 [(0, .ref 70), (1, .int (0 : Int32)), (2, .int (Int32.ofNat l)), (3, .int (Int32.ofNat z)), (4, .int (Int32.ofNat i))] [.int (0 : Int32), .int ((0 : Int32) + (Int32.ofNat i)), .ref 86] (s_zr 0 i g) u (fun big n0 => sg_sx_32 big n0 (s_zr 0 i g) u (Int32.ofNat l) (Int32.ofNat z) (Int32.ofNat i)) ?_
    refine q_iast (j := (0 + i)) (s_rixk (K := 0) (i := i) (by omega)) rfl rfl ?_
    refine q_step 2 40 [(0, .ref 70), (1, .int (0 : Int32)), (2, .int (Int32.ofNat l)), (3, .int (Int32.ofNat z)), (4, .int ((Int32.ofNat i) + (1 : Int32)))] [] (q_up (s_zr 0 i g) 86 (0 + i) (0 : Int32)) u (fun big n0 => sg_sx_33 big n0 (q_up (s_zr 0 i g) 86 (0 + i) (0 : Int32)) u (Int32.ofNat l) (Int32.ofNat z) (Int32.ofNat i)) ?_
    rw [q_succ, show (q_up (s_zr 0 i g) 86 (0 + i) (0 : Int32)) = s_zr 0 (i + 1) g from s_zr_s]
    exact ih (i + 1) (by omega)
theorem rg_sheet0 (g : qM) (u : qW) {l z : Nat} (hl : l ≤ 2) (hz : z ≤ 40) : q_BS 219 [.ref 70, .int (0 : Int32), .int (Int32.ofNat l), .int (Int32.ofNat z)] g u (some (.int 1), s_zr 0 40 (q_up (q_up g 84 0 (Int32.ofNat l)) 85 0 (Int32.ofNat z)), u) := by
  refine q_bx (mm := m_219) rfl (Nat.le_of_ble_eq_true rfl) rfl ?_
  refine q_step 2 2 [(0, .ref 70), (1, .int (0 : Int32)), (2, .int (Int32.ofNat l)), (3, .int (Int32.ofNat z))] [.int (Int32.ofNat l), .int (0 : Int32)] g u (fun big n0 => sg_sx_34 big n0 g u (Int32.ofNat l) (Int32.ofNat z)) ?_
  refine q_call (M2 := 220) (rest := []) (b_ris0 g u hl) (fun _ _ => rfl) ?_
  refine q_step 3 11 [(0, .ref 70), (1, .int (0 : Int32)), (2, .int (Int32.ofNat l)), (3, .int (Int32.ofNat z))] [.int (40 : Int32), .int (Int32.ofNat z)] g u (fun big n0 => sg_sx_35 big n0 g u (Int32.ofNat l) (Int32.ofNat z)) ?_
  refine q_ic_le rfl (fun (hc0 : (Int32.ofNat z) ≤ (40 : Int32)) => ?_) (fun hc0 => absurd (show (Int32.ofNat z) ≤ (40 : Int32) from (q_le (i := z) (j := 40) (by omega) (by omega)).mpr (by omega)) hc0)
  refine q_step 1 17 [(0, .ref 70), (1, .int (0 : Int32)), (2, .int (Int32.ofNat l)), (3, .int (Int32.ofNat z))] [.int (Int32.ofNat z)] g u (fun big n0 => sg_sx_36 big n0 g u (Int32.ofNat l) (Int32.ofNat z)) ?_
  refine q_if_ge rfl (fun (hc1 : 0 ≤ (Int32.ofNat z)) => ?_) (fun hc1 => absurd (show 0 ≤ (Int32.ofNat z) from by rw [Int32.le_iff_toInt_le, q_nat (by omega)]; exact Int.natCast_nonneg z) hc1)
  refine q_step 12 40 [(0, .ref 70), (1, .int (0 : Int32)), (2, .int (Int32.ofNat l)), (3, .int (Int32.ofNat z)), (4, .int (0 : Int32))] [] (q_up (q_up g 84 0 (Int32.ofNat l)) 85 0 (Int32.ofNat z)) u (fun big n0 => sg_sx_37 big n0 g u (Int32.ofNat l) (Int32.ofNat z)) ?_
  have e := zr_0 (q_up (q_up g 84 0 (Int32.ofNat l)) 85 0 (Int32.ofNat z)) u (l := l) (z := z) 40 0 (by omega)
  rw [s_zr_0] at e
  exact e
theorem rg_sheetn0 (g : qM) (u : qW) {l : Nat} {y : Int32} (hl : l ≤ 2) (hy : y < 0) : q_BS 219 [.ref 70, .int (0 : Int32), .int (Int32.ofNat l), .int y] g u (some (.int (Int8.toInt32 (Int8.ofInt (-14)))), g, u) := by
  refine q_bx (mm := m_219) rfl (Nat.le_of_ble_eq_true rfl) rfl ?_
  refine q_step 2 2 [(0, .ref 70), (1, .int (0 : Int32)), (2, .int (Int32.ofNat l)), (3, .int y)] [.int (Int32.ofNat l), .int (0 : Int32)] g u (fun big n0 => sg_sx_34 big n0 g u (Int32.ofNat l) y) ?_
  refine q_call (M2 := 220) (rest := []) (b_ris0 g u hl) (fun _ _ => rfl) ?_
  refine q_step 3 11 [(0, .ref 70), (1, .int (0 : Int32)), (2, .int (Int32.ofNat l)), (3, .int y)] [.int (40 : Int32), .int y] g u (fun big n0 => sg_sx_35 big n0 g u (Int32.ofNat l) y) ?_
  refine q_ic_le rfl (fun (hc0 : y ≤ (40 : Int32)) => ?_) (fun hc0 => absurd (show y ≤ (40 : Int32) from by have z := Int32.lt_iff_toInt_lt.mp hy; rw [Int32.le_iff_toInt_le]; have z0 : (0 : Int32).toInt = 0 := rfl; have z4 : (40 : Int32).toInt = 40 := rfl; omega) hc0)
  refine q_step 1 17 [(0, .ref 70), (1, .int (0 : Int32)), (2, .int (Int32.ofNat l)), (3, .int y)] [.int y] g u (fun big n0 => sg_sx_36 big n0 g u (Int32.ofNat l) y) ?_
  refine q_if_ge rfl (fun hc1 => absurd (show 0 ≤ y from hc1) (Int32.not_le.mpr hy)) (fun (hc1 : ¬ (0 ≤ y)) => ?_)
  refine q_ret 2 (some (.int (Int8.toInt32 (Int8.ofInt (-14)))), g, u) (fun _ _ => rfl) ?_
  rfl
theorem cw_write0 (g : qM) (u : qW) {i z : Nat} {v : Int32} (hz : z ≤ 40) (hsz : g 62 1 = Int32.ofNat z) (hi : i < z) : q_BS 137 [.ref 62, .int (Int32.ofNat i), .int v] g u (none, q_up g 63 i (s_ln (g 62 2) v), u) := by
  refine q_bx (mm := m_137) rfl (Nat.le_of_ble_eq_true rfl) rfl ?_
  refine q_step 1 1 [(0, .ref 62), (1, .int (Int32.ofNat i)), (2, .int v)] [.int (Int32.ofNat i)] g u (fun big n0 => sg_sx_38 big n0 g u (Int32.ofNat i) v) ?_
  refine q_if_lt rfl (fun hc0 => absurd (show (Int32.ofNat i) < 0 from hc0) (fun z => absurd ((q_lt (i := i) (j := 0) (by omega) (by omega)).mp z) (by omega))) (fun (hc0 : ¬ ((Int32.ofNat i) < 0)) => ?_)
  refine q_step 3 9 [(0, .ref 62), (1, .int (Int32.ofNat i)), (2, .int v)] [.int (g 62 1), .int (Int32.ofNat i)] g u (fun big n0 => sg_sx_39 big n0 g u (Int32.ofNat i) v) ?_
  refine q_ic_ge rfl (fun hc1 => absurd (show (g 62 1) ≤ (Int32.ofNat i) from hc1) (by rw [hsz]; exact fun q => absurd ((q_le (i := z) (j := i) (by omega) (by omega)).mp q) (by omega))) (fun (hc1 : ¬ ((g 62 1) ≤ (Int32.ofNat i))) => ?_)
  refine q_step 5 21 [(0, .ref 62), (1, .int (Int32.ofNat i)), (2, .int v)] [.int (g 62 2), .int (Int32.ofNat i), .ref 63] g u (fun big n0 => sg_sx_40 big n0 g u (Int32.ofNat i) v) ?_
  refine q_if_ne rfl (fun (hc2 : (g 62 2) = 0) => ?_) (fun (hc2 : ¬ ((g 62 2) = 0)) => ?_)
  · refine q_step 3 43 [(0, .ref 62), (1, .int (Int32.ofNat i)), (2, .int v)] [.int (Int8.toInt32 (Int32.toInt8 v)), .int (Int32.ofNat i), .ref 63] g u (fun big n0 => sg_sx_41 big n0 g u (Int32.ofNat i) v (Int32.ofNat i)) ?_
    refine q_iast (j := i) (q_ixn (by omega) (by omega)) rfl rfl ?_
    refine q_ret 1 (none, (q_up g 63 i (Int8.toInt32 (Int32.toInt8 v))), u) (fun _ _ => rfl) ?_
    unfold s_ln
    rw [if_pos hc2]
  · refine q_step 3 34 [(0, .ref 62), (1, .int (Int32.ofNat i)), (2, .int v)] [.int (1 : Int32), .int (g 62 2), .int (Int32.ofNat i), .ref 63] g u (fun big n0 => sg_sx_42 big n0 g u (Int32.ofNat i) v (Int32.ofNat i)) ?_
    refine q_ic_ne rfl (fun (hc3 : (g 62 2) = (1 : Int32)) => ?_) (fun (hc3 : ¬ ((g 62 2) = (1 : Int32))) => ?_)
    · refine q_step 3 43 [(0, .ref 62), (1, .int (Int32.ofNat i)), (2, .int v)] [.int (Int16.toInt32 (Int32.toInt16 v)), .int (Int32.ofNat i), .ref 63] g u (fun big n0 => sg_sx_43 big n0 g u (Int32.ofNat i) v (Int32.ofNat i)) ?_
      refine q_iast (j := i) (q_ixn (by omega) (by omega)) rfl rfl ?_
      refine q_ret 1 (none, (q_up g 63 i (Int16.toInt32 (Int32.toInt16 v))), u) (fun _ _ => rfl) ?_
      unfold s_ln
      rw [if_neg hc2, if_pos hc3]
    · refine q_step 1 43 [(0, .ref 62), (1, .int (Int32.ofNat i)), (2, .int v)] [.int v, .int (Int32.ofNat i), .ref 63] g u (fun big n0 => sg_sx_44 big n0 g u (Int32.ofNat i) v (Int32.ofNat i)) ?_
      refine q_iast (j := i) (q_ixn (by omega) (by omega)) rfl rfl ?_
      refine q_ret 1 (none, (q_up g 63 i v), u) (fun _ _ => rfl) ?_
      unfold s_ln
      rw [if_neg hc2, if_neg hc3]
theorem cg_lay0 (g : qM) (u : qW) {i z : Nat} {v : Int32} (hz : z ≤ 40) (hsz : g 62 1 = Int32.ofNat z) (hi : i < z) (hf : d_faultAt0 (Int32.ofNat i) g = 0) : q_BS 134 [.ref 8, .int (0 : Int32), .int (Int32.ofNat i), .int v] g u (some (.int 1), q_up g 63 i (s_ln (g 62 2) v), u) := by
  refine q_bx (mm := m_134) rfl (Nat.le_of_ble_eq_true rfl) rfl ?_
  refine q_step 1 1 [(0, .ref 8), (1, .int (0 : Int32)), (2, .int (Int32.ofNat i)), (3, .int v)] [.int (0 : Int32)] g u (fun big n0 => sg_sx_45 big n0 g u (Int32.ofNat i) v) ?_
  refine q_call (M2 := 131) (rest := []) (show q_BS 131 [.int (0 : Int32)] g u (some (.int 1), g, u) from b_isSheet _ g u) (fun _ _ => rfl) ?_
  refine q_step 6 16 [(0, .ref 8), (1, .int (0 : Int32)), (2, .int (Int32.ofNat i)), (3, .int v)] [.int (Int32.ofNat i), .ref 62] g u (fun big n0 => sg_sx_46 big n0 g u (Int32.ofNat i) v) ?_
  have hfa := b_faultAt0 ((Int32.ofNat i)) g u
  rw [hf] at hfa
  refine q_call (M2 := 135) (rest := []) (hfa) (fun _ _ => rfl) ?_
  refine q_step 9 40 [(0, .ref 8), (1, .int (0 : Int32)), (2, .int (Int32.ofNat i)), (3, .int v), (4, .int (0 : Int32))] [.int v, .int (Int32.ofNat i), .ref 62] g u (fun big n0 => sg_sx_47 big n0 g u (Int32.ofNat i) v) ?_
  refine q_call (M2 := 137) (rest := []) (cw_write0 g u hz hsz hi) (fun _ _ => rfl) ?_
  refine q_ret 2 (some (.int (1 : Int32)), (q_up g 63 i (s_ln (g 62 2) v)), u) (fun _ _ => rfl) ?_
  rfl
theorem cg_lay0f1 (g : qM) (u : qW) {x v : Int32} (hf : d_faultAt0 x g = 1) : q_BS 134 [.ref 8, .int (0 : Int32), .int x, .int v] g u (some (.int (Int8.toInt32 (Int8.ofInt (-11)))), g, u) := by
  refine q_bx (mm := m_134) rfl (Nat.le_of_ble_eq_true rfl) rfl ?_
  refine q_step 1 1 [(0, .ref 8), (1, .int (0 : Int32)), (2, .int x), (3, .int v)] [.int (0 : Int32)] g u (fun big n0 => sg_sx_45 big n0 g u x v) ?_
  refine q_call (M2 := 131) (rest := []) (show q_BS 131 [.int (0 : Int32)] g u (some (.int 1), g, u) from b_isSheet _ g u) (fun _ _ => rfl) ?_
  refine q_step 6 16 [(0, .ref 8), (1, .int (0 : Int32)), (2, .int x), (3, .int v)] [.int x, .ref 62] g u (fun big n0 => sg_sx_46 big n0 g u x v) ?_
  have hfa := b_faultAt0 (x) g u
  rw [hf] at hfa
  refine q_call (M2 := 135) (rest := []) (hfa) (fun _ _ => rfl) ?_
  refine q_ret 7 (some (.int ((Int8.toInt32 (Int8.ofInt (-10))) - (1 : Int32))), g, u) (fun _ _ => rfl) ?_
  rfl
theorem cg_lay0f2 (g : qM) (u : qW) {x v : Int32} (hf : d_faultAt0 x g = 2) : q_BS 134 [.ref 8, .int (0 : Int32), .int x, .int v] g u (some (.int (Int8.toInt32 (Int8.ofInt (-12)))), g, u) := by
  refine q_bx (mm := m_134) rfl (Nat.le_of_ble_eq_true rfl) rfl ?_
  refine q_step 1 1 [(0, .ref 8), (1, .int (0 : Int32)), (2, .int x), (3, .int v)] [.int (0 : Int32)] g u (fun big n0 => sg_sx_45 big n0 g u x v) ?_
  refine q_call (M2 := 131) (rest := []) (show q_BS 131 [.int (0 : Int32)] g u (some (.int 1), g, u) from b_isSheet _ g u) (fun _ _ => rfl) ?_
  refine q_step 6 16 [(0, .ref 8), (1, .int (0 : Int32)), (2, .int x), (3, .int v)] [.int x, .ref 62] g u (fun big n0 => sg_sx_46 big n0 g u x v) ?_
  have hfa := b_faultAt0 (x) g u
  rw [hf] at hfa
  refine q_call (M2 := 135) (rest := []) (hfa) (fun _ _ => rfl) ?_
  refine q_ret 7 (some (.int ((Int8.toInt32 (Int8.ofInt (-10))) - (2 : Int32))), g, u) (fun _ _ => rfl) ?_
  rfl
theorem rg_lay0 (g : qM) (u : qW) {i z l : Nat} {v : Int32} (hz : z ≤ 40) (hl : l ≤ 2) (hsz : g 85 0 = Int32.ofNat z) (hla : g 84 0 = Int32.ofNat l) (hi : i < z) : q_BS 221 [.ref 70, .int (0 : Int32), .int (Int32.ofNat i), .int v] g u (some (.int 1), q_up g 86 (0 + i) (s_ln (g 84 0) v), u) := by
  refine q_bx (mm := m_221) rfl (Nat.le_of_ble_eq_true rfl) rfl ?_
  refine q_step 2 2 [(0, .ref 70), (1, .int (0 : Int32)), (2, .int (Int32.ofNat i)), (3, .int v)] [.int (0 : Int32), .int (0 : Int32)] g u (fun big n0 => sg_sx_48 big n0 g u (Int32.ofNat i) v) ?_
  refine q_call (M2 := 220) (rest := []) (b_ris0 (l := 0) g u (by omega)) (fun _ _ => rfl) ?_
  refine q_step 6 18 [(0, .ref 70), (1, .int (0 : Int32)), (2, .int (Int32.ofNat i)), (3, .int v)] [.int (Int8.toInt32 (Int8.ofInt (-4))), .int (g 84 0)] g u (fun big n0 => sg_sx_49 big n0 g u (Int32.ofNat i) v) ?_
  refine q_ic_ne rfl (fun hc0 => absurd (show (g 84 0) = (Int8.toInt32 (Int8.ofInt (-4))) from hc0) (by rw [hla]; exact q_none_ne (by omega))) (fun (hc0 : ¬ ((g 84 0) = (Int8.toInt32 (Int8.ofInt (-4))))) => ?_)
  refine q_step 10 36 [(0, .ref 70), (1, .int (0 : Int32)), (2, .int (Int32.ofNat i)), (3, .int v)] [.long (Int32.toInt64 ((g 85 0) - (1 : Int32))), .long (0 : Int64), .long (Int32.toInt64 (Int32.ofNat i))] g u (fun big n0 => sg_sx_50 big n0 g u (Int32.ofNat i) v) ?_
  have hin : s_in (Int32.toInt64 (Int32.ofNat i)) (0 : Int64) (Int32.toInt64 ((g 85 0) - (1 : Int32))) = 1 := by
    rcases s_in_01 (Int32.toInt64 (Int32.ofNat i)) (0 : Int64) (Int32.toInt64 ((g 85 0) - (1 : Int32))) with q | q
    · refine absurd q (s_in_i.mpr ?_)
      have e1 : (1 : Int32).toInt = 1 := rfl
      have e0 : (0 : Int64).toInt = 0 := rfl
      rw [Int32.toInt_toInt64, hsz, s_sub (by rw [q_nat (by omega), e1]; omega) (by rw [q_nat (by omega), e1]; omega), q_nat (by omega), q_nat (by omega), e1, e0]
      omega
    · exact q
  refine q_call (M2 := 149) (rest := []) (by have e := b_in (Int32.toInt64 (Int32.ofNat i)) (0 : Int64) (Int32.toInt64 ((g 85 0) - (1 : Int32))) g u; rw [hin] at e; exact e) (fun _ _ => rfl) ?_
  refine q_step 12 61 [(0, .ref 70), (1, .int (0 : Int32)), (2, .int (Int32.ofNat i)), (3, .int v)] [.int (g 84 0), .int ((0 : Int32) + (Int32.ofNat i)), .ref 86] g u (fun big n0 => sg_sx_51 big n0 g u (Int32.ofNat i) v) ?_
  refine q_if_ne rfl (fun (hc1 : (g 84 0) = 0) => ?_) (fun (hc1 : ¬ ((g 84 0) = 0)) => ?_)
  · refine q_step 3 85 [(0, .ref 70), (1, .int (0 : Int32)), (2, .int (Int32.ofNat i)), (3, .int v)] [.int (Int8.toInt32 (Int32.toInt8 v)), .int ((0 : Int32) + (Int32.ofNat i)), .ref 86] g u (fun big n0 => sg_sx_52 big n0 g u (Int32.ofNat i) v ((0 : Int32) + (Int32.ofNat i))) ?_
    refine q_iast (j := (0 + i)) (s_rixk (K := 0) (i := i) (by omega)) rfl rfl ?_
    refine q_ret 2 (some (.int (1 : Int32)), (q_up g 86 (0 + i) (Int8.toInt32 (Int32.toInt8 v))), u) (fun _ _ => rfl) ?_
    unfold s_ln
    rw [if_pos hc1]
  · refine q_step 5 76 [(0, .ref 70), (1, .int (0 : Int32)), (2, .int (Int32.ofNat i)), (3, .int v)] [.int (1 : Int32), .int (g 84 0), .int ((0 : Int32) + (Int32.ofNat i)), .ref 86] g u (fun big n0 => sg_sx_53 big n0 g u (Int32.ofNat i) v ((0 : Int32) + (Int32.ofNat i))) ?_
    refine q_ic_ne rfl (fun (hc2 : (g 84 0) = (1 : Int32)) => ?_) (fun (hc2 : ¬ ((g 84 0) = (1 : Int32))) => ?_)
    · refine q_step 3 85 [(0, .ref 70), (1, .int (0 : Int32)), (2, .int (Int32.ofNat i)), (3, .int v)] [.int (Int16.toInt32 (Int32.toInt16 v)), .int ((0 : Int32) + (Int32.ofNat i)), .ref 86] g u (fun big n0 => sg_sx_54 big n0 g u (Int32.ofNat i) v ((0 : Int32) + (Int32.ofNat i))) ?_
      refine q_iast (j := (0 + i)) (s_rixk (K := 0) (i := i) (by omega)) rfl rfl ?_
      refine q_ret 2 (some (.int (1 : Int32)), (q_up g 86 (0 + i) (Int16.toInt32 (Int32.toInt16 v))), u) (fun _ _ => rfl) ?_
      unfold s_ln
      rw [if_neg hc1, if_pos hc2]
    · refine q_step 1 85 [(0, .ref 70), (1, .int (0 : Int32)), (2, .int (Int32.ofNat i)), (3, .int v)] [.int v, .int ((0 : Int32) + (Int32.ofNat i)), .ref 86] g u (fun big n0 => sg_sx_55 big n0 g u (Int32.ofNat i) v ((0 : Int32) + (Int32.ofNat i))) ?_
      refine q_iast (j := (0 + i)) (s_rixk (K := 0) (i := i) (by omega)) rfl rfl ?_
      refine q_ret 2 (some (.int (1 : Int32)), (q_up g 86 (0 + i) v), u) (fun _ _ => rfl) ?_
      unfold s_ln
      rw [if_neg hc1, if_neg hc2]
theorem rg_lay0f1 (g : qM) (u : qW) {x v : Int32} (hla : g 84 0 = i_none) : q_BS 221 [.ref 70, .int (0 : Int32), .int x, .int v] g u (some (.int (Int8.toInt32 (Int8.ofInt (-11)))), g, u) := by
  refine q_bx (mm := m_221) rfl (Nat.le_of_ble_eq_true rfl) rfl ?_
  refine q_step 2 2 [(0, .ref 70), (1, .int (0 : Int32)), (2, .int x), (3, .int v)] [.int (0 : Int32), .int (0 : Int32)] g u (fun big n0 => sg_sx_48 big n0 g u x v) ?_
  refine q_call (M2 := 220) (rest := []) (b_ris0 (l := 0) g u (by omega)) (fun _ _ => rfl) ?_
  refine q_step 6 18 [(0, .ref 70), (1, .int (0 : Int32)), (2, .int x), (3, .int v)] [.int (Int8.toInt32 (Int8.ofInt (-4))), .int (g 84 0)] g u (fun big n0 => sg_sx_49 big n0 g u x v) ?_
  refine q_ic_ne rfl (fun (hc0 : (g 84 0) = (Int8.toInt32 (Int8.ofInt (-4)))) => ?_) (fun hc0 => absurd (show (g 84 0) = (Int8.toInt32 (Int8.ofInt (-4))) from hla) hc0)
  refine q_ret 2 (some (.int (Int8.toInt32 (Int8.ofInt (-11)))), g, u) (fun _ _ => rfl) ?_
  rfl
theorem rg_lay0f2 (g : qM) (u : qW) {x v : Int32} (hla : ¬ g 84 0 = i_none) (hin : s_in (Int32.toInt64 x) (0 : Int64) (Int32.toInt64 ((g 85 0) - (1 : Int32))) = 0) : q_BS 221 [.ref 70, .int (0 : Int32), .int x, .int v] g u (some (.int (Int8.toInt32 (Int8.ofInt (-12)))), g, u) := by
  refine q_bx (mm := m_221) rfl (Nat.le_of_ble_eq_true rfl) rfl ?_
  refine q_step 2 2 [(0, .ref 70), (1, .int (0 : Int32)), (2, .int x), (3, .int v)] [.int (0 : Int32), .int (0 : Int32)] g u (fun big n0 => sg_sx_48 big n0 g u x v) ?_
  refine q_call (M2 := 220) (rest := []) (b_ris0 (l := 0) g u (by omega)) (fun _ _ => rfl) ?_
  refine q_step 6 18 [(0, .ref 70), (1, .int (0 : Int32)), (2, .int x), (3, .int v)] [.int (Int8.toInt32 (Int8.ofInt (-4))), .int (g 84 0)] g u (fun big n0 => sg_sx_49 big n0 g u x v) ?_
  refine q_ic_ne rfl (fun hc0 => absurd (show (g 84 0) = (Int8.toInt32 (Int8.ofInt (-4))) from hc0) (hla)) (fun (hc0 : ¬ ((g 84 0) = (Int8.toInt32 (Int8.ofInt (-4))))) => ?_)
  refine q_step 10 36 [(0, .ref 70), (1, .int (0 : Int32)), (2, .int x), (3, .int v)] [.long (Int32.toInt64 ((g 85 0) - (1 : Int32))), .long (0 : Int64), .long (Int32.toInt64 x)] g u (fun big n0 => sg_sx_50 big n0 g u x v) ?_
  refine q_call (M2 := 149) (rest := []) (by have e := b_in (Int32.toInt64 x) (0 : Int64) (Int32.toInt64 ((g 85 0) - (1 : Int32))) g u; rw [hin] at e; exact e) (fun _ _ => rfl) ?_
  refine q_ret 3 (some (.int (Int8.toInt32 (Int8.ofInt (-12)))), g, u) (fun _ _ => rfl) ?_
  rfl
theorem b_ris1 (g : qM) (u : qW) {l : Nat} (hl : l ≤ 2) : q_BS 220 [.int (1 : Int32), .int (Int32.ofNat l)] g u (some (.int 1), g, u) := by
  refine q_bx (mm := m_220) rfl (Nat.le_of_ble_eq_true rfl) rfl ?_
  refine q_step 4 6 [(0, .int (1 : Int32)), (1, .int (Int32.ofNat l))] [.long (3 : Int64), .long (0 : Int64), .long (1 : Int64)] g u (fun big n0 => sg_sx_56 big n0 g u (Int32.ofNat l)) ?_
  refine q_call (M2 := 149) (rest := []) (show q_BS 149 [.long (1 : Int64), .long (0 : Int64), .long (3 : Int64)] g u (some (.int 1), g, u) from b_in _ _ _ _ _) (fun _ _ => rfl) ?_
  refine q_step 5 18 [(0, .int (1 : Int32)), (1, .int (Int32.ofNat l))] [.long (2 : Int64), .long (0 : Int64), .long (Int32.toInt64 (Int32.ofNat l))] g u (fun big n0 => sg_sx_57 big n0 g u (Int32.ofNat l)) ?_
  refine q_call (M2 := 149) (rest := []) (b_in1 (m := l) (lo := 0) (hi := 2) g u (by omega) (by omega) (by omega)) (fun _ _ => rfl) ?_
  refine q_ret 4 (some (.int (1 : Int32)), g, u) (fun _ _ => rfl) ?_
  rfl
theorem zr_1 (g : qM) (u : qW) {l z : Nat} : ∀ k i, i + k = 40 → q_EV m_219 40 [(0, .ref 70), (1, .int (1 : Int32)), (2, .int (Int32.ofNat l)), (3, .int (Int32.ofNat z)), (4, .int (Int32.ofNat i))] [] (s_zr 40 i g) u (fun R => R = (some (.int 1), s_zr 40 40 g, u)) := by
  intro k
  induction k with
  | zero =>
    intro i hi
    refine q_step 2 44 [(0, .ref 70), (1, .int (1 : Int32)), (2, .int (Int32.ofNat l)), (3, .int (Int32.ofNat z)), (4, .int (Int32.ofNat i))] [.int (40 : Int32), .int (Int32.ofNat i)] (s_zr 40 i g) u (fun big n0 => sg_sx_58 big n0 (s_zr 40 i g) u (Int32.ofNat l) (Int32.ofNat z) (Int32.ofNat i)) ?_
    refine q_ic_ge rfl (fun (hc0 : (40 : Int32) ≤ (Int32.ofNat i)) => ?_) (fun hc0 => absurd (show (40 : Int32) ≤ (Int32.ofNat i) from by have z : i = 40 := hi; exact (q_le (i := 40) (j := i) (by omega) (by omega)).mpr (by omega)) hc0)
    refine q_ret 2 (some (.int (1 : Int32)), (s_zr 40 i g), u) (fun _ _ => rfl) ?_
    rw [show i = 40 from hi]
  | succ k ih =>
    intro i hi
    refine q_step 2 44 [(0, .ref 70), (1, .int (1 : Int32)), (2, .int (Int32.ofNat l)), (3, .int (Int32.ofNat z)), (4, .int (Int32.ofNat i))] [.int (40 : Int32), .int (Int32.ofNat i)] (s_zr 40 i g) u (fun big n0 => sg_sx_58 big n0 (s_zr 40 i g) u (Int32.ofNat l) (Int32.ofNat z) (Int32.ofNat i)) ?_
    refine q_ic_ge rfl (fun hc0 => absurd (show (40 : Int32) ≤ (Int32.ofNat i) from hc0) (fun z => absurd ((q_le (i := 40) (j := i) (by omega) (by omega)).mp z) (by omega))) (fun (hc0 : ¬ ((40 : Int32) ≤ (Int32.ofNat i))) => ?_)
    refine q_step 8 59 [(0, .ref 70), (1, .int (1 : Int32)), (2, .int (Int32.ofNat l)), (3, .int (Int32.ofNat z)), (4, .int (Int32.ofNat i))] [.int (0 : Int32), .int ((40 : Int32) + (Int32.ofNat i)), .ref 86] (s_zr 40 i g) u (fun big n0 => sg_sx_59 big n0 (s_zr 40 i g) u (Int32.ofNat l) (Int32.ofNat z) (Int32.ofNat i)) ?_
    refine q_iast (j := (40 + i)) (s_rixk (K := 40) (i := i) (by omega)) rfl rfl ?_
    refine q_step 2 40 [(0, .ref 70), (1, .int (1 : Int32)), (2, .int (Int32.ofNat l)), (3, .int (Int32.ofNat z)), (4, .int ((Int32.ofNat i) + (1 : Int32)))] [] (q_up (s_zr 40 i g) 86 (40 + i) (0 : Int32)) u (fun big n0 => sg_sx_60 big n0 (q_up (s_zr 40 i g) 86 (40 + i) (0 : Int32)) u (Int32.ofNat l) (Int32.ofNat z) (Int32.ofNat i)) ?_
    rw [q_succ, show (q_up (s_zr 40 i g) 86 (40 + i) (0 : Int32)) = s_zr 40 (i + 1) g from s_zr_s]
    exact ih (i + 1) (by omega)
theorem rg_sheet1 (g : qM) (u : qW) {l z : Nat} (hl : l ≤ 2) (hz : z ≤ 40) : q_BS 219 [.ref 70, .int (1 : Int32), .int (Int32.ofNat l), .int (Int32.ofNat z)] g u (some (.int 1), s_zr 40 40 (q_up (q_up g 84 1 (Int32.ofNat l)) 85 1 (Int32.ofNat z)), u) := by
  refine q_bx (mm := m_219) rfl (Nat.le_of_ble_eq_true rfl) rfl ?_
  refine q_step 2 2 [(0, .ref 70), (1, .int (1 : Int32)), (2, .int (Int32.ofNat l)), (3, .int (Int32.ofNat z))] [.int (Int32.ofNat l), .int (1 : Int32)] g u (fun big n0 => sg_sx_61 big n0 g u (Int32.ofNat l) (Int32.ofNat z)) ?_
  refine q_call (M2 := 220) (rest := []) (b_ris1 g u hl) (fun _ _ => rfl) ?_
  refine q_step 3 11 [(0, .ref 70), (1, .int (1 : Int32)), (2, .int (Int32.ofNat l)), (3, .int (Int32.ofNat z))] [.int (40 : Int32), .int (Int32.ofNat z)] g u (fun big n0 => sg_sx_62 big n0 g u (Int32.ofNat l) (Int32.ofNat z)) ?_
  refine q_ic_le rfl (fun (hc0 : (Int32.ofNat z) ≤ (40 : Int32)) => ?_) (fun hc0 => absurd (show (Int32.ofNat z) ≤ (40 : Int32) from (q_le (i := z) (j := 40) (by omega) (by omega)).mpr (by omega)) hc0)
  refine q_step 1 17 [(0, .ref 70), (1, .int (1 : Int32)), (2, .int (Int32.ofNat l)), (3, .int (Int32.ofNat z))] [.int (Int32.ofNat z)] g u (fun big n0 => sg_sx_63 big n0 g u (Int32.ofNat l) (Int32.ofNat z)) ?_
  refine q_if_ge rfl (fun (hc1 : 0 ≤ (Int32.ofNat z)) => ?_) (fun hc1 => absurd (show 0 ≤ (Int32.ofNat z) from by rw [Int32.le_iff_toInt_le, q_nat (by omega)]; exact Int.natCast_nonneg z) hc1)
  refine q_step 12 40 [(0, .ref 70), (1, .int (1 : Int32)), (2, .int (Int32.ofNat l)), (3, .int (Int32.ofNat z)), (4, .int (0 : Int32))] [] (q_up (q_up g 84 1 (Int32.ofNat l)) 85 1 (Int32.ofNat z)) u (fun big n0 => sg_sx_64 big n0 g u (Int32.ofNat l) (Int32.ofNat z)) ?_
  have e := zr_1 (q_up (q_up g 84 1 (Int32.ofNat l)) 85 1 (Int32.ofNat z)) u (l := l) (z := z) 40 0 (by omega)
  rw [s_zr_0] at e
  exact e
theorem rg_sheetn1 (g : qM) (u : qW) {l : Nat} {y : Int32} (hl : l ≤ 2) (hy : y < 0) : q_BS 219 [.ref 70, .int (1 : Int32), .int (Int32.ofNat l), .int y] g u (some (.int (Int8.toInt32 (Int8.ofInt (-14)))), g, u) := by
  refine q_bx (mm := m_219) rfl (Nat.le_of_ble_eq_true rfl) rfl ?_
  refine q_step 2 2 [(0, .ref 70), (1, .int (1 : Int32)), (2, .int (Int32.ofNat l)), (3, .int y)] [.int (Int32.ofNat l), .int (1 : Int32)] g u (fun big n0 => sg_sx_61 big n0 g u (Int32.ofNat l) y) ?_
  refine q_call (M2 := 220) (rest := []) (b_ris1 g u hl) (fun _ _ => rfl) ?_
  refine q_step 3 11 [(0, .ref 70), (1, .int (1 : Int32)), (2, .int (Int32.ofNat l)), (3, .int y)] [.int (40 : Int32), .int y] g u (fun big n0 => sg_sx_62 big n0 g u (Int32.ofNat l) y) ?_
  refine q_ic_le rfl (fun (hc0 : y ≤ (40 : Int32)) => ?_) (fun hc0 => absurd (show y ≤ (40 : Int32) from by have z := Int32.lt_iff_toInt_lt.mp hy; rw [Int32.le_iff_toInt_le]; have z0 : (0 : Int32).toInt = 0 := rfl; have z4 : (40 : Int32).toInt = 40 := rfl; omega) hc0)
  refine q_step 1 17 [(0, .ref 70), (1, .int (1 : Int32)), (2, .int (Int32.ofNat l)), (3, .int y)] [.int y] g u (fun big n0 => sg_sx_63 big n0 g u (Int32.ofNat l) y) ?_
  refine q_if_ge rfl (fun hc1 => absurd (show 0 ≤ y from hc1) (Int32.not_le.mpr hy)) (fun (hc1 : ¬ (0 ≤ y)) => ?_)
  refine q_ret 2 (some (.int (Int8.toInt32 (Int8.ofInt (-14)))), g, u) (fun _ _ => rfl) ?_
  rfl
theorem cw_write1 (g : qM) (u : qW) {i z : Nat} {v : Int32} (hz : z ≤ 40) (hsz : g 64 1 = Int32.ofNat z) (hi : i < z) : q_BS 137 [.ref 64, .int (Int32.ofNat i), .int v] g u (none, q_up g 65 i (s_ln (g 64 2) v), u) := by
  refine q_bx (mm := m_137) rfl (Nat.le_of_ble_eq_true rfl) rfl ?_
  refine q_step 1 1 [(0, .ref 64), (1, .int (Int32.ofNat i)), (2, .int v)] [.int (Int32.ofNat i)] g u (fun big n0 => sg_sx_65 big n0 g u (Int32.ofNat i) v) ?_
  refine q_if_lt rfl (fun hc0 => absurd (show (Int32.ofNat i) < 0 from hc0) (fun z => absurd ((q_lt (i := i) (j := 0) (by omega) (by omega)).mp z) (by omega))) (fun (hc0 : ¬ ((Int32.ofNat i) < 0)) => ?_)
  refine q_step 3 9 [(0, .ref 64), (1, .int (Int32.ofNat i)), (2, .int v)] [.int (g 64 1), .int (Int32.ofNat i)] g u (fun big n0 => sg_sx_66 big n0 g u (Int32.ofNat i) v) ?_
  refine q_ic_ge rfl (fun hc1 => absurd (show (g 64 1) ≤ (Int32.ofNat i) from hc1) (by rw [hsz]; exact fun q => absurd ((q_le (i := z) (j := i) (by omega) (by omega)).mp q) (by omega))) (fun (hc1 : ¬ ((g 64 1) ≤ (Int32.ofNat i))) => ?_)
  refine q_step 5 21 [(0, .ref 64), (1, .int (Int32.ofNat i)), (2, .int v)] [.int (g 64 2), .int (Int32.ofNat i), .ref 65] g u (fun big n0 => sg_sx_67 big n0 g u (Int32.ofNat i) v) ?_
  refine q_if_ne rfl (fun (hc2 : (g 64 2) = 0) => ?_) (fun (hc2 : ¬ ((g 64 2) = 0)) => ?_)
  · refine q_step 3 43 [(0, .ref 64), (1, .int (Int32.ofNat i)), (2, .int v)] [.int (Int8.toInt32 (Int32.toInt8 v)), .int (Int32.ofNat i), .ref 65] g u (fun big n0 => sg_sx_68 big n0 g u (Int32.ofNat i) v (Int32.ofNat i)) ?_
    refine q_iast (j := i) (q_ixn (by omega) (by omega)) rfl rfl ?_
    refine q_ret 1 (none, (q_up g 65 i (Int8.toInt32 (Int32.toInt8 v))), u) (fun _ _ => rfl) ?_
    unfold s_ln
    rw [if_pos hc2]
  · refine q_step 3 34 [(0, .ref 64), (1, .int (Int32.ofNat i)), (2, .int v)] [.int (1 : Int32), .int (g 64 2), .int (Int32.ofNat i), .ref 65] g u (fun big n0 => sg_sx_69 big n0 g u (Int32.ofNat i) v (Int32.ofNat i)) ?_
    refine q_ic_ne rfl (fun (hc3 : (g 64 2) = (1 : Int32)) => ?_) (fun (hc3 : ¬ ((g 64 2) = (1 : Int32))) => ?_)
    · refine q_step 3 43 [(0, .ref 64), (1, .int (Int32.ofNat i)), (2, .int v)] [.int (Int16.toInt32 (Int32.toInt16 v)), .int (Int32.ofNat i), .ref 65] g u (fun big n0 => sg_sx_70 big n0 g u (Int32.ofNat i) v (Int32.ofNat i)) ?_
      refine q_iast (j := i) (q_ixn (by omega) (by omega)) rfl rfl ?_
      refine q_ret 1 (none, (q_up g 65 i (Int16.toInt32 (Int32.toInt16 v))), u) (fun _ _ => rfl) ?_
      unfold s_ln
      rw [if_neg hc2, if_pos hc3]
    · refine q_step 1 43 [(0, .ref 64), (1, .int (Int32.ofNat i)), (2, .int v)] [.int v, .int (Int32.ofNat i), .ref 65] g u (fun big n0 => sg_sx_71 big n0 g u (Int32.ofNat i) v (Int32.ofNat i)) ?_
      refine q_iast (j := i) (q_ixn (by omega) (by omega)) rfl rfl ?_
      refine q_ret 1 (none, (q_up g 65 i v), u) (fun _ _ => rfl) ?_
      unfold s_ln
      rw [if_neg hc2, if_neg hc3]
theorem cg_lay1 (g : qM) (u : qW) {i z : Nat} {v : Int32} (hz : z ≤ 40) (hsz : g 64 1 = Int32.ofNat z) (hi : i < z) (hf : d_faultAt1 (Int32.ofNat i) g = 0) : q_BS 134 [.ref 8, .int (1 : Int32), .int (Int32.ofNat i), .int v] g u (some (.int 1), q_up g 65 i (s_ln (g 64 2) v), u) := by
  refine q_bx (mm := m_134) rfl (Nat.le_of_ble_eq_true rfl) rfl ?_
  refine q_step 1 1 [(0, .ref 8), (1, .int (1 : Int32)), (2, .int (Int32.ofNat i)), (3, .int v)] [.int (1 : Int32)] g u (fun big n0 => sg_sx_72 big n0 g u (Int32.ofNat i) v) ?_
  refine q_call (M2 := 131) (rest := []) (show q_BS 131 [.int (1 : Int32)] g u (some (.int 1), g, u) from b_isSheet _ g u) (fun _ _ => rfl) ?_
  refine q_step 6 16 [(0, .ref 8), (1, .int (1 : Int32)), (2, .int (Int32.ofNat i)), (3, .int v)] [.int (Int32.ofNat i), .ref 64] g u (fun big n0 => sg_sx_73 big n0 g u (Int32.ofNat i) v) ?_
  have hfa := b_faultAt1 ((Int32.ofNat i)) g u
  rw [hf] at hfa
  refine q_call (M2 := 135) (rest := []) (hfa) (fun _ _ => rfl) ?_
  refine q_step 9 40 [(0, .ref 8), (1, .int (1 : Int32)), (2, .int (Int32.ofNat i)), (3, .int v), (4, .int (0 : Int32))] [.int v, .int (Int32.ofNat i), .ref 64] g u (fun big n0 => sg_sx_74 big n0 g u (Int32.ofNat i) v) ?_
  refine q_call (M2 := 137) (rest := []) (cw_write1 g u hz hsz hi) (fun _ _ => rfl) ?_
  refine q_ret 2 (some (.int (1 : Int32)), (q_up g 65 i (s_ln (g 64 2) v)), u) (fun _ _ => rfl) ?_
  rfl
theorem cg_lay1f1 (g : qM) (u : qW) {x v : Int32} (hf : d_faultAt1 x g = 1) : q_BS 134 [.ref 8, .int (1 : Int32), .int x, .int v] g u (some (.int (Int8.toInt32 (Int8.ofInt (-11)))), g, u) := by
  refine q_bx (mm := m_134) rfl (Nat.le_of_ble_eq_true rfl) rfl ?_
  refine q_step 1 1 [(0, .ref 8), (1, .int (1 : Int32)), (2, .int x), (3, .int v)] [.int (1 : Int32)] g u (fun big n0 => sg_sx_72 big n0 g u x v) ?_
  refine q_call (M2 := 131) (rest := []) (show q_BS 131 [.int (1 : Int32)] g u (some (.int 1), g, u) from b_isSheet _ g u) (fun _ _ => rfl) ?_
  refine q_step 6 16 [(0, .ref 8), (1, .int (1 : Int32)), (2, .int x), (3, .int v)] [.int x, .ref 64] g u (fun big n0 => sg_sx_73 big n0 g u x v) ?_
  have hfa := b_faultAt1 (x) g u
  rw [hf] at hfa
  refine q_call (M2 := 135) (rest := []) (hfa) (fun _ _ => rfl) ?_
  refine q_ret 7 (some (.int ((Int8.toInt32 (Int8.ofInt (-10))) - (1 : Int32))), g, u) (fun _ _ => rfl) ?_
  rfl
theorem cg_lay1f2 (g : qM) (u : qW) {x v : Int32} (hf : d_faultAt1 x g = 2) : q_BS 134 [.ref 8, .int (1 : Int32), .int x, .int v] g u (some (.int (Int8.toInt32 (Int8.ofInt (-12)))), g, u) := by
  refine q_bx (mm := m_134) rfl (Nat.le_of_ble_eq_true rfl) rfl ?_
  refine q_step 1 1 [(0, .ref 8), (1, .int (1 : Int32)), (2, .int x), (3, .int v)] [.int (1 : Int32)] g u (fun big n0 => sg_sx_72 big n0 g u x v) ?_
  refine q_call (M2 := 131) (rest := []) (show q_BS 131 [.int (1 : Int32)] g u (some (.int 1), g, u) from b_isSheet _ g u) (fun _ _ => rfl) ?_
  refine q_step 6 16 [(0, .ref 8), (1, .int (1 : Int32)), (2, .int x), (3, .int v)] [.int x, .ref 64] g u (fun big n0 => sg_sx_73 big n0 g u x v) ?_
  have hfa := b_faultAt1 (x) g u
  rw [hf] at hfa
  refine q_call (M2 := 135) (rest := []) (hfa) (fun _ _ => rfl) ?_
  refine q_ret 7 (some (.int ((Int8.toInt32 (Int8.ofInt (-10))) - (2 : Int32))), g, u) (fun _ _ => rfl) ?_
  rfl
theorem rg_lay1 (g : qM) (u : qW) {i z l : Nat} {v : Int32} (hz : z ≤ 40) (hl : l ≤ 2) (hsz : g 85 1 = Int32.ofNat z) (hla : g 84 1 = Int32.ofNat l) (hi : i < z) : q_BS 221 [.ref 70, .int (1 : Int32), .int (Int32.ofNat i), .int v] g u (some (.int 1), q_up g 86 (40 + i) (s_ln (g 84 1) v), u) := by
  refine q_bx (mm := m_221) rfl (Nat.le_of_ble_eq_true rfl) rfl ?_
  refine q_step 2 2 [(0, .ref 70), (1, .int (1 : Int32)), (2, .int (Int32.ofNat i)), (3, .int v)] [.int (0 : Int32), .int (1 : Int32)] g u (fun big n0 => sg_sx_75 big n0 g u (Int32.ofNat i) v) ?_
  refine q_call (M2 := 220) (rest := []) (b_ris1 (l := 0) g u (by omega)) (fun _ _ => rfl) ?_
  refine q_step 6 18 [(0, .ref 70), (1, .int (1 : Int32)), (2, .int (Int32.ofNat i)), (3, .int v)] [.int (Int8.toInt32 (Int8.ofInt (-4))), .int (g 84 1)] g u (fun big n0 => sg_sx_76 big n0 g u (Int32.ofNat i) v) ?_
  refine q_ic_ne rfl (fun hc0 => absurd (show (g 84 1) = (Int8.toInt32 (Int8.ofInt (-4))) from hc0) (by rw [hla]; exact q_none_ne (by omega))) (fun (hc0 : ¬ ((g 84 1) = (Int8.toInt32 (Int8.ofInt (-4))))) => ?_)
  refine q_step 10 36 [(0, .ref 70), (1, .int (1 : Int32)), (2, .int (Int32.ofNat i)), (3, .int v)] [.long (Int32.toInt64 ((g 85 1) - (1 : Int32))), .long (0 : Int64), .long (Int32.toInt64 (Int32.ofNat i))] g u (fun big n0 => sg_sx_77 big n0 g u (Int32.ofNat i) v) ?_
  have hin : s_in (Int32.toInt64 (Int32.ofNat i)) (0 : Int64) (Int32.toInt64 ((g 85 1) - (1 : Int32))) = 1 := by
    rcases s_in_01 (Int32.toInt64 (Int32.ofNat i)) (0 : Int64) (Int32.toInt64 ((g 85 1) - (1 : Int32))) with q | q
    · refine absurd q (s_in_i.mpr ?_)
      have e1 : (1 : Int32).toInt = 1 := rfl
      have e0 : (0 : Int64).toInt = 0 := rfl
      rw [Int32.toInt_toInt64, hsz, s_sub (by rw [q_nat (by omega), e1]; omega) (by rw [q_nat (by omega), e1]; omega), q_nat (by omega), q_nat (by omega), e1, e0]
      omega
    · exact q
  refine q_call (M2 := 149) (rest := []) (by have e := b_in (Int32.toInt64 (Int32.ofNat i)) (0 : Int64) (Int32.toInt64 ((g 85 1) - (1 : Int32))) g u; rw [hin] at e; exact e) (fun _ _ => rfl) ?_
  refine q_step 12 61 [(0, .ref 70), (1, .int (1 : Int32)), (2, .int (Int32.ofNat i)), (3, .int v)] [.int (g 84 1), .int ((40 : Int32) + (Int32.ofNat i)), .ref 86] g u (fun big n0 => sg_sx_78 big n0 g u (Int32.ofNat i) v) ?_
  refine q_if_ne rfl (fun (hc1 : (g 84 1) = 0) => ?_) (fun (hc1 : ¬ ((g 84 1) = 0)) => ?_)
  · refine q_step 3 85 [(0, .ref 70), (1, .int (1 : Int32)), (2, .int (Int32.ofNat i)), (3, .int v)] [.int (Int8.toInt32 (Int32.toInt8 v)), .int ((40 : Int32) + (Int32.ofNat i)), .ref 86] g u (fun big n0 => sg_sx_79 big n0 g u (Int32.ofNat i) v ((40 : Int32) + (Int32.ofNat i))) ?_
    refine q_iast (j := (40 + i)) (s_rixk (K := 40) (i := i) (by omega)) rfl rfl ?_
    refine q_ret 2 (some (.int (1 : Int32)), (q_up g 86 (40 + i) (Int8.toInt32 (Int32.toInt8 v))), u) (fun _ _ => rfl) ?_
    unfold s_ln
    rw [if_pos hc1]
  · refine q_step 5 76 [(0, .ref 70), (1, .int (1 : Int32)), (2, .int (Int32.ofNat i)), (3, .int v)] [.int (1 : Int32), .int (g 84 1), .int ((40 : Int32) + (Int32.ofNat i)), .ref 86] g u (fun big n0 => sg_sx_80 big n0 g u (Int32.ofNat i) v ((40 : Int32) + (Int32.ofNat i))) ?_
    refine q_ic_ne rfl (fun (hc2 : (g 84 1) = (1 : Int32)) => ?_) (fun (hc2 : ¬ ((g 84 1) = (1 : Int32))) => ?_)
    · refine q_step 3 85 [(0, .ref 70), (1, .int (1 : Int32)), (2, .int (Int32.ofNat i)), (3, .int v)] [.int (Int16.toInt32 (Int32.toInt16 v)), .int ((40 : Int32) + (Int32.ofNat i)), .ref 86] g u (fun big n0 => sg_sx_81 big n0 g u (Int32.ofNat i) v ((40 : Int32) + (Int32.ofNat i))) ?_
      refine q_iast (j := (40 + i)) (s_rixk (K := 40) (i := i) (by omega)) rfl rfl ?_
      refine q_ret 2 (some (.int (1 : Int32)), (q_up g 86 (40 + i) (Int16.toInt32 (Int32.toInt16 v))), u) (fun _ _ => rfl) ?_
      unfold s_ln
      rw [if_neg hc1, if_pos hc2]
    · refine q_step 1 85 [(0, .ref 70), (1, .int (1 : Int32)), (2, .int (Int32.ofNat i)), (3, .int v)] [.int v, .int ((40 : Int32) + (Int32.ofNat i)), .ref 86] g u (fun big n0 => sg_sx_82 big n0 g u (Int32.ofNat i) v ((40 : Int32) + (Int32.ofNat i))) ?_
      refine q_iast (j := (40 + i)) (s_rixk (K := 40) (i := i) (by omega)) rfl rfl ?_
      refine q_ret 2 (some (.int (1 : Int32)), (q_up g 86 (40 + i) v), u) (fun _ _ => rfl) ?_
      unfold s_ln
      rw [if_neg hc1, if_neg hc2]
theorem rg_lay1f1 (g : qM) (u : qW) {x v : Int32} (hla : g 84 1 = i_none) : q_BS 221 [.ref 70, .int (1 : Int32), .int x, .int v] g u (some (.int (Int8.toInt32 (Int8.ofInt (-11)))), g, u) := by
  refine q_bx (mm := m_221) rfl (Nat.le_of_ble_eq_true rfl) rfl ?_
  refine q_step 2 2 [(0, .ref 70), (1, .int (1 : Int32)), (2, .int x), (3, .int v)] [.int (0 : Int32), .int (1 : Int32)] g u (fun big n0 => sg_sx_75 big n0 g u x v) ?_
  refine q_call (M2 := 220) (rest := []) (b_ris1 (l := 0) g u (by omega)) (fun _ _ => rfl) ?_
  refine q_step 6 18 [(0, .ref 70), (1, .int (1 : Int32)), (2, .int x), (3, .int v)] [.int (Int8.toInt32 (Int8.ofInt (-4))), .int (g 84 1)] g u (fun big n0 => sg_sx_76 big n0 g u x v) ?_
  refine q_ic_ne rfl (fun (hc0 : (g 84 1) = (Int8.toInt32 (Int8.ofInt (-4)))) => ?_) (fun hc0 => absurd (show (g 84 1) = (Int8.toInt32 (Int8.ofInt (-4))) from hla) hc0)
  refine q_ret 2 (some (.int (Int8.toInt32 (Int8.ofInt (-11)))), g, u) (fun _ _ => rfl) ?_
  rfl
theorem rg_lay1f2 (g : qM) (u : qW) {x v : Int32} (hla : ¬ g 84 1 = i_none) (hin : s_in (Int32.toInt64 x) (0 : Int64) (Int32.toInt64 ((g 85 1) - (1 : Int32))) = 0) : q_BS 221 [.ref 70, .int (1 : Int32), .int x, .int v] g u (some (.int (Int8.toInt32 (Int8.ofInt (-12)))), g, u) := by
  refine q_bx (mm := m_221) rfl (Nat.le_of_ble_eq_true rfl) rfl ?_
  refine q_step 2 2 [(0, .ref 70), (1, .int (1 : Int32)), (2, .int x), (3, .int v)] [.int (0 : Int32), .int (1 : Int32)] g u (fun big n0 => sg_sx_75 big n0 g u x v) ?_
  refine q_call (M2 := 220) (rest := []) (b_ris1 (l := 0) g u (by omega)) (fun _ _ => rfl) ?_
  refine q_step 6 18 [(0, .ref 70), (1, .int (1 : Int32)), (2, .int x), (3, .int v)] [.int (Int8.toInt32 (Int8.ofInt (-4))), .int (g 84 1)] g u (fun big n0 => sg_sx_76 big n0 g u x v) ?_
  refine q_ic_ne rfl (fun hc0 => absurd (show (g 84 1) = (Int8.toInt32 (Int8.ofInt (-4))) from hc0) (hla)) (fun (hc0 : ¬ ((g 84 1) = (Int8.toInt32 (Int8.ofInt (-4))))) => ?_)
  refine q_step 10 36 [(0, .ref 70), (1, .int (1 : Int32)), (2, .int x), (3, .int v)] [.long (Int32.toInt64 ((g 85 1) - (1 : Int32))), .long (0 : Int64), .long (Int32.toInt64 x)] g u (fun big n0 => sg_sx_77 big n0 g u x v) ?_
  refine q_call (M2 := 149) (rest := []) (by have e := b_in (Int32.toInt64 x) (0 : Int64) (Int32.toInt64 ((g 85 1) - (1 : Int32))) g u; rw [hin] at e; exact e) (fun _ _ => rfl) ?_
  refine q_ret 3 (some (.int (Int8.toInt32 (Int8.ofInt (-12)))), g, u) (fun _ _ => rfl) ?_
  rfl
theorem b_ris2 (g : qM) (u : qW) {l : Nat} (hl : l ≤ 2) : q_BS 220 [.int (2 : Int32), .int (Int32.ofNat l)] g u (some (.int 1), g, u) := by
  refine q_bx (mm := m_220) rfl (Nat.le_of_ble_eq_true rfl) rfl ?_
  refine q_step 4 6 [(0, .int (2 : Int32)), (1, .int (Int32.ofNat l))] [.long (3 : Int64), .long (0 : Int64), .long (2 : Int64)] g u (fun big n0 => sg_sx_83 big n0 g u (Int32.ofNat l)) ?_
  refine q_call (M2 := 149) (rest := []) (show q_BS 149 [.long (2 : Int64), .long (0 : Int64), .long (3 : Int64)] g u (some (.int 1), g, u) from b_in _ _ _ _ _) (fun _ _ => rfl) ?_
  refine q_step 5 18 [(0, .int (2 : Int32)), (1, .int (Int32.ofNat l))] [.long (2 : Int64), .long (0 : Int64), .long (Int32.toInt64 (Int32.ofNat l))] g u (fun big n0 => sg_sx_84 big n0 g u (Int32.ofNat l)) ?_
  refine q_call (M2 := 149) (rest := []) (b_in1 (m := l) (lo := 0) (hi := 2) g u (by omega) (by omega) (by omega)) (fun _ _ => rfl) ?_
  refine q_ret 4 (some (.int (1 : Int32)), g, u) (fun _ _ => rfl) ?_
  rfl
theorem zr_2 (g : qM) (u : qW) {l z : Nat} : ∀ k i, i + k = 40 → q_EV m_219 40 [(0, .ref 70), (1, .int (2 : Int32)), (2, .int (Int32.ofNat l)), (3, .int (Int32.ofNat z)), (4, .int (Int32.ofNat i))] [] (s_zr 80 i g) u (fun R => R = (some (.int 1), s_zr 80 40 g, u)) := by
  intro k
  induction k with
  | zero =>
    intro i hi
    refine q_step 2 44 [(0, .ref 70), (1, .int (2 : Int32)), (2, .int (Int32.ofNat l)), (3, .int (Int32.ofNat z)), (4, .int (Int32.ofNat i))] [.int (40 : Int32), .int (Int32.ofNat i)] (s_zr 80 i g) u (fun big n0 => sg_sx_85 big n0 (s_zr 80 i g) u (Int32.ofNat l) (Int32.ofNat z) (Int32.ofNat i)) ?_
    refine q_ic_ge rfl (fun (hc0 : (40 : Int32) ≤ (Int32.ofNat i)) => ?_) (fun hc0 => absurd (show (40 : Int32) ≤ (Int32.ofNat i) from by have z : i = 40 := hi; exact (q_le (i := 40) (j := i) (by omega) (by omega)).mpr (by omega)) hc0)
    refine q_ret 2 (some (.int (1 : Int32)), (s_zr 80 i g), u) (fun _ _ => rfl) ?_
    rw [show i = 40 from hi]
  | succ k ih =>
    intro i hi
    refine q_step 2 44 [(0, .ref 70), (1, .int (2 : Int32)), (2, .int (Int32.ofNat l)), (3, .int (Int32.ofNat z)), (4, .int (Int32.ofNat i))] [.int (40 : Int32), .int (Int32.ofNat i)] (s_zr 80 i g) u (fun big n0 => sg_sx_85 big n0 (s_zr 80 i g) u (Int32.ofNat l) (Int32.ofNat z) (Int32.ofNat i)) ?_
    refine q_ic_ge rfl (fun hc0 => absurd (show (40 : Int32) ≤ (Int32.ofNat i) from hc0) (fun z => absurd ((q_le (i := 40) (j := i) (by omega) (by omega)).mp z) (by omega))) (fun (hc0 : ¬ ((40 : Int32) ≤ (Int32.ofNat i))) => ?_)
    refine q_step 8 59 [(0, .ref 70), (1, .int (2 : Int32)), (2, .int (Int32.ofNat l)), (3, .int (Int32.ofNat z)), (4, .int (Int32.ofNat i))] [.int (0 : Int32), .int ((80 : Int32) + (Int32.ofNat i)), .ref 86] (s_zr 80 i g) u (fun big n0 => sg_sx_86 big n0 (s_zr 80 i g) u (Int32.ofNat l) (Int32.ofNat z) (Int32.ofNat i)) ?_
    refine q_iast (j := (80 + i)) (s_rixk (K := 80) (i := i) (by omega)) rfl rfl ?_
    refine q_step 2 40 [(0, .ref 70), (1, .int (2 : Int32)), (2, .int (Int32.ofNat l)), (3, .int (Int32.ofNat z)), (4, .int ((Int32.ofNat i) + (1 : Int32)))] [] (q_up (s_zr 80 i g) 86 (80 + i) (0 : Int32)) u (fun big n0 => sg_sx_87 big n0 (q_up (s_zr 80 i g) 86 (80 + i) (0 : Int32)) u (Int32.ofNat l) (Int32.ofNat z) (Int32.ofNat i)) ?_
    rw [q_succ, show (q_up (s_zr 80 i g) 86 (80 + i) (0 : Int32)) = s_zr 80 (i + 1) g from s_zr_s]
    exact ih (i + 1) (by omega)
theorem rg_sheet2 (g : qM) (u : qW) {l z : Nat} (hl : l ≤ 2) (hz : z ≤ 40) : q_BS 219 [.ref 70, .int (2 : Int32), .int (Int32.ofNat l), .int (Int32.ofNat z)] g u (some (.int 1), s_zr 80 40 (q_up (q_up g 84 2 (Int32.ofNat l)) 85 2 (Int32.ofNat z)), u) := by
  refine q_bx (mm := m_219) rfl (Nat.le_of_ble_eq_true rfl) rfl ?_
  refine q_step 2 2 [(0, .ref 70), (1, .int (2 : Int32)), (2, .int (Int32.ofNat l)), (3, .int (Int32.ofNat z))] [.int (Int32.ofNat l), .int (2 : Int32)] g u (fun big n0 => sg_sx_88 big n0 g u (Int32.ofNat l) (Int32.ofNat z)) ?_
  refine q_call (M2 := 220) (rest := []) (b_ris2 g u hl) (fun _ _ => rfl) ?_
  refine q_step 3 11 [(0, .ref 70), (1, .int (2 : Int32)), (2, .int (Int32.ofNat l)), (3, .int (Int32.ofNat z))] [.int (40 : Int32), .int (Int32.ofNat z)] g u (fun big n0 => sg_sx_89 big n0 g u (Int32.ofNat l) (Int32.ofNat z)) ?_
  refine q_ic_le rfl (fun (hc0 : (Int32.ofNat z) ≤ (40 : Int32)) => ?_) (fun hc0 => absurd (show (Int32.ofNat z) ≤ (40 : Int32) from (q_le (i := z) (j := 40) (by omega) (by omega)).mpr (by omega)) hc0)
  refine q_step 1 17 [(0, .ref 70), (1, .int (2 : Int32)), (2, .int (Int32.ofNat l)), (3, .int (Int32.ofNat z))] [.int (Int32.ofNat z)] g u (fun big n0 => sg_sx_90 big n0 g u (Int32.ofNat l) (Int32.ofNat z)) ?_
  refine q_if_ge rfl (fun (hc1 : 0 ≤ (Int32.ofNat z)) => ?_) (fun hc1 => absurd (show 0 ≤ (Int32.ofNat z) from by rw [Int32.le_iff_toInt_le, q_nat (by omega)]; exact Int.natCast_nonneg z) hc1)
  refine q_step 12 40 [(0, .ref 70), (1, .int (2 : Int32)), (2, .int (Int32.ofNat l)), (3, .int (Int32.ofNat z)), (4, .int (0 : Int32))] [] (q_up (q_up g 84 2 (Int32.ofNat l)) 85 2 (Int32.ofNat z)) u (fun big n0 => sg_sx_91 big n0 g u (Int32.ofNat l) (Int32.ofNat z)) ?_
  have e := zr_2 (q_up (q_up g 84 2 (Int32.ofNat l)) 85 2 (Int32.ofNat z)) u (l := l) (z := z) 40 0 (by omega)
  rw [s_zr_0] at e
  exact e
theorem rg_sheetn2 (g : qM) (u : qW) {l : Nat} {y : Int32} (hl : l ≤ 2) (hy : y < 0) : q_BS 219 [.ref 70, .int (2 : Int32), .int (Int32.ofNat l), .int y] g u (some (.int (Int8.toInt32 (Int8.ofInt (-14)))), g, u) := by
  refine q_bx (mm := m_219) rfl (Nat.le_of_ble_eq_true rfl) rfl ?_
  refine q_step 2 2 [(0, .ref 70), (1, .int (2 : Int32)), (2, .int (Int32.ofNat l)), (3, .int y)] [.int (Int32.ofNat l), .int (2 : Int32)] g u (fun big n0 => sg_sx_88 big n0 g u (Int32.ofNat l) y) ?_
  refine q_call (M2 := 220) (rest := []) (b_ris2 g u hl) (fun _ _ => rfl) ?_
  refine q_step 3 11 [(0, .ref 70), (1, .int (2 : Int32)), (2, .int (Int32.ofNat l)), (3, .int y)] [.int (40 : Int32), .int y] g u (fun big n0 => sg_sx_89 big n0 g u (Int32.ofNat l) y) ?_
  refine q_ic_le rfl (fun (hc0 : y ≤ (40 : Int32)) => ?_) (fun hc0 => absurd (show y ≤ (40 : Int32) from by have z := Int32.lt_iff_toInt_lt.mp hy; rw [Int32.le_iff_toInt_le]; have z0 : (0 : Int32).toInt = 0 := rfl; have z4 : (40 : Int32).toInt = 40 := rfl; omega) hc0)
  refine q_step 1 17 [(0, .ref 70), (1, .int (2 : Int32)), (2, .int (Int32.ofNat l)), (3, .int y)] [.int y] g u (fun big n0 => sg_sx_90 big n0 g u (Int32.ofNat l) y) ?_
  refine q_if_ge rfl (fun hc1 => absurd (show 0 ≤ y from hc1) (Int32.not_le.mpr hy)) (fun (hc1 : ¬ (0 ≤ y)) => ?_)
  refine q_ret 2 (some (.int (Int8.toInt32 (Int8.ofInt (-14)))), g, u) (fun _ _ => rfl) ?_
  rfl
theorem cw_write2 (g : qM) (u : qW) {i z : Nat} {v : Int32} (hz : z ≤ 40) (hsz : g 66 1 = Int32.ofNat z) (hi : i < z) : q_BS 137 [.ref 66, .int (Int32.ofNat i), .int v] g u (none, q_up g 67 i (s_ln (g 66 2) v), u) := by
  refine q_bx (mm := m_137) rfl (Nat.le_of_ble_eq_true rfl) rfl ?_
  refine q_step 1 1 [(0, .ref 66), (1, .int (Int32.ofNat i)), (2, .int v)] [.int (Int32.ofNat i)] g u (fun big n0 => sg_sx_92 big n0 g u (Int32.ofNat i) v) ?_
  refine q_if_lt rfl (fun hc0 => absurd (show (Int32.ofNat i) < 0 from hc0) (fun z => absurd ((q_lt (i := i) (j := 0) (by omega) (by omega)).mp z) (by omega))) (fun (hc0 : ¬ ((Int32.ofNat i) < 0)) => ?_)
  refine q_step 3 9 [(0, .ref 66), (1, .int (Int32.ofNat i)), (2, .int v)] [.int (g 66 1), .int (Int32.ofNat i)] g u (fun big n0 => sg_sx_93 big n0 g u (Int32.ofNat i) v) ?_
  refine q_ic_ge rfl (fun hc1 => absurd (show (g 66 1) ≤ (Int32.ofNat i) from hc1) (by rw [hsz]; exact fun q => absurd ((q_le (i := z) (j := i) (by omega) (by omega)).mp q) (by omega))) (fun (hc1 : ¬ ((g 66 1) ≤ (Int32.ofNat i))) => ?_)
  refine q_step 5 21 [(0, .ref 66), (1, .int (Int32.ofNat i)), (2, .int v)] [.int (g 66 2), .int (Int32.ofNat i), .ref 67] g u (fun big n0 => sg_sx_94 big n0 g u (Int32.ofNat i) v) ?_
  refine q_if_ne rfl (fun (hc2 : (g 66 2) = 0) => ?_) (fun (hc2 : ¬ ((g 66 2) = 0)) => ?_)
  · refine q_step 3 43 [(0, .ref 66), (1, .int (Int32.ofNat i)), (2, .int v)] [.int (Int8.toInt32 (Int32.toInt8 v)), .int (Int32.ofNat i), .ref 67] g u (fun big n0 => sg_sx_95 big n0 g u (Int32.ofNat i) v (Int32.ofNat i)) ?_
    refine q_iast (j := i) (q_ixn (by omega) (by omega)) rfl rfl ?_
    refine q_ret 1 (none, (q_up g 67 i (Int8.toInt32 (Int32.toInt8 v))), u) (fun _ _ => rfl) ?_
    unfold s_ln
    rw [if_pos hc2]
  · refine q_step 3 34 [(0, .ref 66), (1, .int (Int32.ofNat i)), (2, .int v)] [.int (1 : Int32), .int (g 66 2), .int (Int32.ofNat i), .ref 67] g u (fun big n0 => sg_sx_96 big n0 g u (Int32.ofNat i) v (Int32.ofNat i)) ?_
    refine q_ic_ne rfl (fun (hc3 : (g 66 2) = (1 : Int32)) => ?_) (fun (hc3 : ¬ ((g 66 2) = (1 : Int32))) => ?_)
    · refine q_step 3 43 [(0, .ref 66), (1, .int (Int32.ofNat i)), (2, .int v)] [.int (Int16.toInt32 (Int32.toInt16 v)), .int (Int32.ofNat i), .ref 67] g u (fun big n0 => sg_sx_97 big n0 g u (Int32.ofNat i) v (Int32.ofNat i)) ?_
      refine q_iast (j := i) (q_ixn (by omega) (by omega)) rfl rfl ?_
      refine q_ret 1 (none, (q_up g 67 i (Int16.toInt32 (Int32.toInt16 v))), u) (fun _ _ => rfl) ?_
      unfold s_ln
      rw [if_neg hc2, if_pos hc3]
    · refine q_step 1 43 [(0, .ref 66), (1, .int (Int32.ofNat i)), (2, .int v)] [.int v, .int (Int32.ofNat i), .ref 67] g u (fun big n0 => sg_sx_98 big n0 g u (Int32.ofNat i) v (Int32.ofNat i)) ?_
      refine q_iast (j := i) (q_ixn (by omega) (by omega)) rfl rfl ?_
      refine q_ret 1 (none, (q_up g 67 i v), u) (fun _ _ => rfl) ?_
      unfold s_ln
      rw [if_neg hc2, if_neg hc3]
theorem cg_lay2 (g : qM) (u : qW) {i z : Nat} {v : Int32} (hz : z ≤ 40) (hsz : g 66 1 = Int32.ofNat z) (hi : i < z) (hf : d_faultAt2 (Int32.ofNat i) g = 0) : q_BS 134 [.ref 8, .int (2 : Int32), .int (Int32.ofNat i), .int v] g u (some (.int 1), q_up g 67 i (s_ln (g 66 2) v), u) := by
  refine q_bx (mm := m_134) rfl (Nat.le_of_ble_eq_true rfl) rfl ?_
  refine q_step 1 1 [(0, .ref 8), (1, .int (2 : Int32)), (2, .int (Int32.ofNat i)), (3, .int v)] [.int (2 : Int32)] g u (fun big n0 => sg_sx_99 big n0 g u (Int32.ofNat i) v) ?_
  refine q_call (M2 := 131) (rest := []) (show q_BS 131 [.int (2 : Int32)] g u (some (.int 1), g, u) from b_isSheet _ g u) (fun _ _ => rfl) ?_
  refine q_step 6 16 [(0, .ref 8), (1, .int (2 : Int32)), (2, .int (Int32.ofNat i)), (3, .int v)] [.int (Int32.ofNat i), .ref 66] g u (fun big n0 => sg_sx_100 big n0 g u (Int32.ofNat i) v) ?_
  have hfa := b_faultAt2 ((Int32.ofNat i)) g u
  rw [hf] at hfa
  refine q_call (M2 := 135) (rest := []) (hfa) (fun _ _ => rfl) ?_
  refine q_step 9 40 [(0, .ref 8), (1, .int (2 : Int32)), (2, .int (Int32.ofNat i)), (3, .int v), (4, .int (0 : Int32))] [.int v, .int (Int32.ofNat i), .ref 66] g u (fun big n0 => sg_sx_101 big n0 g u (Int32.ofNat i) v) ?_
  refine q_call (M2 := 137) (rest := []) (cw_write2 g u hz hsz hi) (fun _ _ => rfl) ?_
  refine q_ret 2 (some (.int (1 : Int32)), (q_up g 67 i (s_ln (g 66 2) v)), u) (fun _ _ => rfl) ?_
  rfl
theorem cg_lay2f1 (g : qM) (u : qW) {x v : Int32} (hf : d_faultAt2 x g = 1) : q_BS 134 [.ref 8, .int (2 : Int32), .int x, .int v] g u (some (.int (Int8.toInt32 (Int8.ofInt (-11)))), g, u) := by
  refine q_bx (mm := m_134) rfl (Nat.le_of_ble_eq_true rfl) rfl ?_
  refine q_step 1 1 [(0, .ref 8), (1, .int (2 : Int32)), (2, .int x), (3, .int v)] [.int (2 : Int32)] g u (fun big n0 => sg_sx_99 big n0 g u x v) ?_
  refine q_call (M2 := 131) (rest := []) (show q_BS 131 [.int (2 : Int32)] g u (some (.int 1), g, u) from b_isSheet _ g u) (fun _ _ => rfl) ?_
  refine q_step 6 16 [(0, .ref 8), (1, .int (2 : Int32)), (2, .int x), (3, .int v)] [.int x, .ref 66] g u (fun big n0 => sg_sx_100 big n0 g u x v) ?_
  have hfa := b_faultAt2 (x) g u
  rw [hf] at hfa
  refine q_call (M2 := 135) (rest := []) (hfa) (fun _ _ => rfl) ?_
  refine q_ret 7 (some (.int ((Int8.toInt32 (Int8.ofInt (-10))) - (1 : Int32))), g, u) (fun _ _ => rfl) ?_
  rfl
theorem cg_lay2f2 (g : qM) (u : qW) {x v : Int32} (hf : d_faultAt2 x g = 2) : q_BS 134 [.ref 8, .int (2 : Int32), .int x, .int v] g u (some (.int (Int8.toInt32 (Int8.ofInt (-12)))), g, u) := by
  refine q_bx (mm := m_134) rfl (Nat.le_of_ble_eq_true rfl) rfl ?_
  refine q_step 1 1 [(0, .ref 8), (1, .int (2 : Int32)), (2, .int x), (3, .int v)] [.int (2 : Int32)] g u (fun big n0 => sg_sx_99 big n0 g u x v) ?_
  refine q_call (M2 := 131) (rest := []) (show q_BS 131 [.int (2 : Int32)] g u (some (.int 1), g, u) from b_isSheet _ g u) (fun _ _ => rfl) ?_
  refine q_step 6 16 [(0, .ref 8), (1, .int (2 : Int32)), (2, .int x), (3, .int v)] [.int x, .ref 66] g u (fun big n0 => sg_sx_100 big n0 g u x v) ?_
  have hfa := b_faultAt2 (x) g u
  rw [hf] at hfa
  refine q_call (M2 := 135) (rest := []) (hfa) (fun _ _ => rfl) ?_
  refine q_ret 7 (some (.int ((Int8.toInt32 (Int8.ofInt (-10))) - (2 : Int32))), g, u) (fun _ _ => rfl) ?_
  rfl
theorem rg_lay2 (g : qM) (u : qW) {i z l : Nat} {v : Int32} (hz : z ≤ 40) (hl : l ≤ 2) (hsz : g 85 2 = Int32.ofNat z) (hla : g 84 2 = Int32.ofNat l) (hi : i < z) : q_BS 221 [.ref 70, .int (2 : Int32), .int (Int32.ofNat i), .int v] g u (some (.int 1), q_up g 86 (80 + i) (s_ln (g 84 2) v), u) := by
  refine q_bx (mm := m_221) rfl (Nat.le_of_ble_eq_true rfl) rfl ?_
  refine q_step 2 2 [(0, .ref 70), (1, .int (2 : Int32)), (2, .int (Int32.ofNat i)), (3, .int v)] [.int (0 : Int32), .int (2 : Int32)] g u (fun big n0 => sg_sx_102 big n0 g u (Int32.ofNat i) v) ?_
  refine q_call (M2 := 220) (rest := []) (b_ris2 (l := 0) g u (by omega)) (fun _ _ => rfl) ?_
  refine q_step 6 18 [(0, .ref 70), (1, .int (2 : Int32)), (2, .int (Int32.ofNat i)), (3, .int v)] [.int (Int8.toInt32 (Int8.ofInt (-4))), .int (g 84 2)] g u (fun big n0 => sg_sx_103 big n0 g u (Int32.ofNat i) v) ?_
  refine q_ic_ne rfl (fun hc0 => absurd (show (g 84 2) = (Int8.toInt32 (Int8.ofInt (-4))) from hc0) (by rw [hla]; exact q_none_ne (by omega))) (fun (hc0 : ¬ ((g 84 2) = (Int8.toInt32 (Int8.ofInt (-4))))) => ?_)
  refine q_step 10 36 [(0, .ref 70), (1, .int (2 : Int32)), (2, .int (Int32.ofNat i)), (3, .int v)] [.long (Int32.toInt64 ((g 85 2) - (1 : Int32))), .long (0 : Int64), .long (Int32.toInt64 (Int32.ofNat i))] g u (fun big n0 => sg_sx_104 big n0 g u (Int32.ofNat i) v) ?_
  have hin : s_in (Int32.toInt64 (Int32.ofNat i)) (0 : Int64) (Int32.toInt64 ((g 85 2) - (1 : Int32))) = 1 := by
    rcases s_in_01 (Int32.toInt64 (Int32.ofNat i)) (0 : Int64) (Int32.toInt64 ((g 85 2) - (1 : Int32))) with q | q
    · refine absurd q (s_in_i.mpr ?_)
      have e1 : (1 : Int32).toInt = 1 := rfl
      have e0 : (0 : Int64).toInt = 0 := rfl
      rw [Int32.toInt_toInt64, hsz, s_sub (by rw [q_nat (by omega), e1]; omega) (by rw [q_nat (by omega), e1]; omega), q_nat (by omega), q_nat (by omega), e1, e0]
      omega
    · exact q
  refine q_call (M2 := 149) (rest := []) (by have e := b_in (Int32.toInt64 (Int32.ofNat i)) (0 : Int64) (Int32.toInt64 ((g 85 2) - (1 : Int32))) g u; rw [hin] at e; exact e) (fun _ _ => rfl) ?_
  refine q_step 12 61 [(0, .ref 70), (1, .int (2 : Int32)), (2, .int (Int32.ofNat i)), (3, .int v)] [.int (g 84 2), .int ((80 : Int32) + (Int32.ofNat i)), .ref 86] g u (fun big n0 => sg_sx_105 big n0 g u (Int32.ofNat i) v) ?_
  refine q_if_ne rfl (fun (hc1 : (g 84 2) = 0) => ?_) (fun (hc1 : ¬ ((g 84 2) = 0)) => ?_)
  · refine q_step 3 85 [(0, .ref 70), (1, .int (2 : Int32)), (2, .int (Int32.ofNat i)), (3, .int v)] [.int (Int8.toInt32 (Int32.toInt8 v)), .int ((80 : Int32) + (Int32.ofNat i)), .ref 86] g u (fun big n0 => sg_sx_106 big n0 g u (Int32.ofNat i) v ((80 : Int32) + (Int32.ofNat i))) ?_
    refine q_iast (j := (80 + i)) (s_rixk (K := 80) (i := i) (by omega)) rfl rfl ?_
    refine q_ret 2 (some (.int (1 : Int32)), (q_up g 86 (80 + i) (Int8.toInt32 (Int32.toInt8 v))), u) (fun _ _ => rfl) ?_
    unfold s_ln
    rw [if_pos hc1]
  · refine q_step 5 76 [(0, .ref 70), (1, .int (2 : Int32)), (2, .int (Int32.ofNat i)), (3, .int v)] [.int (1 : Int32), .int (g 84 2), .int ((80 : Int32) + (Int32.ofNat i)), .ref 86] g u (fun big n0 => sg_sx_107 big n0 g u (Int32.ofNat i) v ((80 : Int32) + (Int32.ofNat i))) ?_
    refine q_ic_ne rfl (fun (hc2 : (g 84 2) = (1 : Int32)) => ?_) (fun (hc2 : ¬ ((g 84 2) = (1 : Int32))) => ?_)
    · refine q_step 3 85 [(0, .ref 70), (1, .int (2 : Int32)), (2, .int (Int32.ofNat i)), (3, .int v)] [.int (Int16.toInt32 (Int32.toInt16 v)), .int ((80 : Int32) + (Int32.ofNat i)), .ref 86] g u (fun big n0 => sg_sx_108 big n0 g u (Int32.ofNat i) v ((80 : Int32) + (Int32.ofNat i))) ?_
      refine q_iast (j := (80 + i)) (s_rixk (K := 80) (i := i) (by omega)) rfl rfl ?_
      refine q_ret 2 (some (.int (1 : Int32)), (q_up g 86 (80 + i) (Int16.toInt32 (Int32.toInt16 v))), u) (fun _ _ => rfl) ?_
      unfold s_ln
      rw [if_neg hc1, if_pos hc2]
    · refine q_step 1 85 [(0, .ref 70), (1, .int (2 : Int32)), (2, .int (Int32.ofNat i)), (3, .int v)] [.int v, .int ((80 : Int32) + (Int32.ofNat i)), .ref 86] g u (fun big n0 => sg_sx_109 big n0 g u (Int32.ofNat i) v ((80 : Int32) + (Int32.ofNat i))) ?_
      refine q_iast (j := (80 + i)) (s_rixk (K := 80) (i := i) (by omega)) rfl rfl ?_
      refine q_ret 2 (some (.int (1 : Int32)), (q_up g 86 (80 + i) v), u) (fun _ _ => rfl) ?_
      unfold s_ln
      rw [if_neg hc1, if_neg hc2]
theorem rg_lay2f1 (g : qM) (u : qW) {x v : Int32} (hla : g 84 2 = i_none) : q_BS 221 [.ref 70, .int (2 : Int32), .int x, .int v] g u (some (.int (Int8.toInt32 (Int8.ofInt (-11)))), g, u) := by
  refine q_bx (mm := m_221) rfl (Nat.le_of_ble_eq_true rfl) rfl ?_
  refine q_step 2 2 [(0, .ref 70), (1, .int (2 : Int32)), (2, .int x), (3, .int v)] [.int (0 : Int32), .int (2 : Int32)] g u (fun big n0 => sg_sx_102 big n0 g u x v) ?_
  refine q_call (M2 := 220) (rest := []) (b_ris2 (l := 0) g u (by omega)) (fun _ _ => rfl) ?_
  refine q_step 6 18 [(0, .ref 70), (1, .int (2 : Int32)), (2, .int x), (3, .int v)] [.int (Int8.toInt32 (Int8.ofInt (-4))), .int (g 84 2)] g u (fun big n0 => sg_sx_103 big n0 g u x v) ?_
  refine q_ic_ne rfl (fun (hc0 : (g 84 2) = (Int8.toInt32 (Int8.ofInt (-4)))) => ?_) (fun hc0 => absurd (show (g 84 2) = (Int8.toInt32 (Int8.ofInt (-4))) from hla) hc0)
  refine q_ret 2 (some (.int (Int8.toInt32 (Int8.ofInt (-11)))), g, u) (fun _ _ => rfl) ?_
  rfl
theorem rg_lay2f2 (g : qM) (u : qW) {x v : Int32} (hla : ¬ g 84 2 = i_none) (hin : s_in (Int32.toInt64 x) (0 : Int64) (Int32.toInt64 ((g 85 2) - (1 : Int32))) = 0) : q_BS 221 [.ref 70, .int (2 : Int32), .int x, .int v] g u (some (.int (Int8.toInt32 (Int8.ofInt (-12)))), g, u) := by
  refine q_bx (mm := m_221) rfl (Nat.le_of_ble_eq_true rfl) rfl ?_
  refine q_step 2 2 [(0, .ref 70), (1, .int (2 : Int32)), (2, .int x), (3, .int v)] [.int (0 : Int32), .int (2 : Int32)] g u (fun big n0 => sg_sx_102 big n0 g u x v) ?_
  refine q_call (M2 := 220) (rest := []) (b_ris2 (l := 0) g u (by omega)) (fun _ _ => rfl) ?_
  refine q_step 6 18 [(0, .ref 70), (1, .int (2 : Int32)), (2, .int x), (3, .int v)] [.int (Int8.toInt32 (Int8.ofInt (-4))), .int (g 84 2)] g u (fun big n0 => sg_sx_103 big n0 g u x v) ?_
  refine q_ic_ne rfl (fun hc0 => absurd (show (g 84 2) = (Int8.toInt32 (Int8.ofInt (-4))) from hc0) (hla)) (fun (hc0 : ¬ ((g 84 2) = (Int8.toInt32 (Int8.ofInt (-4))))) => ?_)
  refine q_step 10 36 [(0, .ref 70), (1, .int (2 : Int32)), (2, .int x), (3, .int v)] [.long (Int32.toInt64 ((g 85 2) - (1 : Int32))), .long (0 : Int64), .long (Int32.toInt64 x)] g u (fun big n0 => sg_sx_104 big n0 g u x v) ?_
  refine q_call (M2 := 149) (rest := []) (by have e := b_in (Int32.toInt64 x) (0 : Int64) (Int32.toInt64 ((g 85 2) - (1 : Int32))) g u; rw [hin] at e; exact e) (fun _ _ => rfl) ?_
  refine q_ret 3 (some (.int (Int8.toInt32 (Int8.ofInt (-12)))), g, u) (fun _ _ => rfl) ?_
  rfl
theorem b_ris3 (g : qM) (u : qW) {l : Nat} (hl : l ≤ 2) : q_BS 220 [.int (3 : Int32), .int (Int32.ofNat l)] g u (some (.int 1), g, u) := by
  refine q_bx (mm := m_220) rfl (Nat.le_of_ble_eq_true rfl) rfl ?_
  refine q_step 4 6 [(0, .int (3 : Int32)), (1, .int (Int32.ofNat l))] [.long (3 : Int64), .long (0 : Int64), .long (3 : Int64)] g u (fun big n0 => sg_sx_110 big n0 g u (Int32.ofNat l)) ?_
  refine q_call (M2 := 149) (rest := []) (show q_BS 149 [.long (3 : Int64), .long (0 : Int64), .long (3 : Int64)] g u (some (.int 1), g, u) from b_in _ _ _ _ _) (fun _ _ => rfl) ?_
  refine q_step 5 18 [(0, .int (3 : Int32)), (1, .int (Int32.ofNat l))] [.long (2 : Int64), .long (0 : Int64), .long (Int32.toInt64 (Int32.ofNat l))] g u (fun big n0 => sg_sx_111 big n0 g u (Int32.ofNat l)) ?_
  refine q_call (M2 := 149) (rest := []) (b_in1 (m := l) (lo := 0) (hi := 2) g u (by omega) (by omega) (by omega)) (fun _ _ => rfl) ?_
  refine q_ret 4 (some (.int (1 : Int32)), g, u) (fun _ _ => rfl) ?_
  rfl
theorem zr_3 (g : qM) (u : qW) {l z : Nat} : ∀ k i, i + k = 40 → q_EV m_219 40 [(0, .ref 70), (1, .int (3 : Int32)), (2, .int (Int32.ofNat l)), (3, .int (Int32.ofNat z)), (4, .int (Int32.ofNat i))] [] (s_zr 120 i g) u (fun R => R = (some (.int 1), s_zr 120 40 g, u)) := by
  intro k
  induction k with
  | zero =>
    intro i hi
    refine q_step 2 44 [(0, .ref 70), (1, .int (3 : Int32)), (2, .int (Int32.ofNat l)), (3, .int (Int32.ofNat z)), (4, .int (Int32.ofNat i))] [.int (40 : Int32), .int (Int32.ofNat i)] (s_zr 120 i g) u (fun big n0 => sg_sx_112 big n0 (s_zr 120 i g) u (Int32.ofNat l) (Int32.ofNat z) (Int32.ofNat i)) ?_
    refine q_ic_ge rfl (fun (hc0 : (40 : Int32) ≤ (Int32.ofNat i)) => ?_) (fun hc0 => absurd (show (40 : Int32) ≤ (Int32.ofNat i) from by have z : i = 40 := hi; exact (q_le (i := 40) (j := i) (by omega) (by omega)).mpr (by omega)) hc0)
    refine q_ret 2 (some (.int (1 : Int32)), (s_zr 120 i g), u) (fun _ _ => rfl) ?_
    rw [show i = 40 from hi]
  | succ k ih =>
    intro i hi
    refine q_step 2 44 [(0, .ref 70), (1, .int (3 : Int32)), (2, .int (Int32.ofNat l)), (3, .int (Int32.ofNat z)), (4, .int (Int32.ofNat i))] [.int (40 : Int32), .int (Int32.ofNat i)] (s_zr 120 i g) u (fun big n0 => sg_sx_112 big n0 (s_zr 120 i g) u (Int32.ofNat l) (Int32.ofNat z) (Int32.ofNat i)) ?_
    refine q_ic_ge rfl (fun hc0 => absurd (show (40 : Int32) ≤ (Int32.ofNat i) from hc0) (fun z => absurd ((q_le (i := 40) (j := i) (by omega) (by omega)).mp z) (by omega))) (fun (hc0 : ¬ ((40 : Int32) ≤ (Int32.ofNat i))) => ?_)
    refine q_step 8 59 [(0, .ref 70), (1, .int (3 : Int32)), (2, .int (Int32.ofNat l)), (3, .int (Int32.ofNat z)), (4, .int (Int32.ofNat i))] [.int (0 : Int32), .int ((120 : Int32) + (Int32.ofNat i)), .ref 86] (s_zr 120 i g) u (fun big n0 => sg_sx_113 big n0 (s_zr 120 i g) u (Int32.ofNat l) (Int32.ofNat z) (Int32.ofNat i)) ?_
    refine q_iast (j := (120 + i)) (s_rixk (K := 120) (i := i) (by omega)) rfl rfl ?_
    refine q_step 2 40 [(0, .ref 70), (1, .int (3 : Int32)), (2, .int (Int32.ofNat l)), (3, .int (Int32.ofNat z)), (4, .int ((Int32.ofNat i) + (1 : Int32)))] [] (q_up (s_zr 120 i g) 86 (120 + i) (0 : Int32)) u (fun big n0 => sg_sx_114 big n0 (q_up (s_zr 120 i g) 86 (120 + i) (0 : Int32)) u (Int32.ofNat l) (Int32.ofNat z) (Int32.ofNat i)) ?_
    rw [q_succ, show (q_up (s_zr 120 i g) 86 (120 + i) (0 : Int32)) = s_zr 120 (i + 1) g from s_zr_s]
    exact ih (i + 1) (by omega)
theorem rg_sheet3 (g : qM) (u : qW) {l z : Nat} (hl : l ≤ 2) (hz : z ≤ 40) : q_BS 219 [.ref 70, .int (3 : Int32), .int (Int32.ofNat l), .int (Int32.ofNat z)] g u (some (.int 1), s_zr 120 40 (q_up (q_up g 84 3 (Int32.ofNat l)) 85 3 (Int32.ofNat z)), u) := by
  refine q_bx (mm := m_219) rfl (Nat.le_of_ble_eq_true rfl) rfl ?_
  refine q_step 2 2 [(0, .ref 70), (1, .int (3 : Int32)), (2, .int (Int32.ofNat l)), (3, .int (Int32.ofNat z))] [.int (Int32.ofNat l), .int (3 : Int32)] g u (fun big n0 => sg_sx_115 big n0 g u (Int32.ofNat l) (Int32.ofNat z)) ?_
  refine q_call (M2 := 220) (rest := []) (b_ris3 g u hl) (fun _ _ => rfl) ?_
  refine q_step 3 11 [(0, .ref 70), (1, .int (3 : Int32)), (2, .int (Int32.ofNat l)), (3, .int (Int32.ofNat z))] [.int (40 : Int32), .int (Int32.ofNat z)] g u (fun big n0 => sg_sx_116 big n0 g u (Int32.ofNat l) (Int32.ofNat z)) ?_
  refine q_ic_le rfl (fun (hc0 : (Int32.ofNat z) ≤ (40 : Int32)) => ?_) (fun hc0 => absurd (show (Int32.ofNat z) ≤ (40 : Int32) from (q_le (i := z) (j := 40) (by omega) (by omega)).mpr (by omega)) hc0)
  refine q_step 1 17 [(0, .ref 70), (1, .int (3 : Int32)), (2, .int (Int32.ofNat l)), (3, .int (Int32.ofNat z))] [.int (Int32.ofNat z)] g u (fun big n0 => sg_sx_117 big n0 g u (Int32.ofNat l) (Int32.ofNat z)) ?_
  refine q_if_ge rfl (fun (hc1 : 0 ≤ (Int32.ofNat z)) => ?_) (fun hc1 => absurd (show 0 ≤ (Int32.ofNat z) from by rw [Int32.le_iff_toInt_le, q_nat (by omega)]; exact Int.natCast_nonneg z) hc1)
  refine q_step 12 40 [(0, .ref 70), (1, .int (3 : Int32)), (2, .int (Int32.ofNat l)), (3, .int (Int32.ofNat z)), (4, .int (0 : Int32))] [] (q_up (q_up g 84 3 (Int32.ofNat l)) 85 3 (Int32.ofNat z)) u (fun big n0 => sg_sx_118 big n0 g u (Int32.ofNat l) (Int32.ofNat z)) ?_
  have e := zr_3 (q_up (q_up g 84 3 (Int32.ofNat l)) 85 3 (Int32.ofNat z)) u (l := l) (z := z) 40 0 (by omega)
  rw [s_zr_0] at e
  exact e
theorem rg_sheetn3 (g : qM) (u : qW) {l : Nat} {y : Int32} (hl : l ≤ 2) (hy : y < 0) : q_BS 219 [.ref 70, .int (3 : Int32), .int (Int32.ofNat l), .int y] g u (some (.int (Int8.toInt32 (Int8.ofInt (-14)))), g, u) := by
  refine q_bx (mm := m_219) rfl (Nat.le_of_ble_eq_true rfl) rfl ?_
  refine q_step 2 2 [(0, .ref 70), (1, .int (3 : Int32)), (2, .int (Int32.ofNat l)), (3, .int y)] [.int (Int32.ofNat l), .int (3 : Int32)] g u (fun big n0 => sg_sx_115 big n0 g u (Int32.ofNat l) y) ?_
  refine q_call (M2 := 220) (rest := []) (b_ris3 g u hl) (fun _ _ => rfl) ?_
  refine q_step 3 11 [(0, .ref 70), (1, .int (3 : Int32)), (2, .int (Int32.ofNat l)), (3, .int y)] [.int (40 : Int32), .int y] g u (fun big n0 => sg_sx_116 big n0 g u (Int32.ofNat l) y) ?_
  refine q_ic_le rfl (fun (hc0 : y ≤ (40 : Int32)) => ?_) (fun hc0 => absurd (show y ≤ (40 : Int32) from by have z := Int32.lt_iff_toInt_lt.mp hy; rw [Int32.le_iff_toInt_le]; have z0 : (0 : Int32).toInt = 0 := rfl; have z4 : (40 : Int32).toInt = 40 := rfl; omega) hc0)
  refine q_step 1 17 [(0, .ref 70), (1, .int (3 : Int32)), (2, .int (Int32.ofNat l)), (3, .int y)] [.int y] g u (fun big n0 => sg_sx_117 big n0 g u (Int32.ofNat l) y) ?_
  refine q_if_ge rfl (fun hc1 => absurd (show 0 ≤ y from hc1) (Int32.not_le.mpr hy)) (fun (hc1 : ¬ (0 ≤ y)) => ?_)
  refine q_ret 2 (some (.int (Int8.toInt32 (Int8.ofInt (-14)))), g, u) (fun _ _ => rfl) ?_
  rfl
theorem cw_write3 (g : qM) (u : qW) {i z : Nat} {v : Int32} (hz : z ≤ 40) (hsz : g 68 1 = Int32.ofNat z) (hi : i < z) : q_BS 137 [.ref 68, .int (Int32.ofNat i), .int v] g u (none, q_up g 69 i (s_ln (g 68 2) v), u) := by
  refine q_bx (mm := m_137) rfl (Nat.le_of_ble_eq_true rfl) rfl ?_
  refine q_step 1 1 [(0, .ref 68), (1, .int (Int32.ofNat i)), (2, .int v)] [.int (Int32.ofNat i)] g u (fun big n0 => sg_sx_119 big n0 g u (Int32.ofNat i) v) ?_
  refine q_if_lt rfl (fun hc0 => absurd (show (Int32.ofNat i) < 0 from hc0) (fun z => absurd ((q_lt (i := i) (j := 0) (by omega) (by omega)).mp z) (by omega))) (fun (hc0 : ¬ ((Int32.ofNat i) < 0)) => ?_)
  refine q_step 3 9 [(0, .ref 68), (1, .int (Int32.ofNat i)), (2, .int v)] [.int (g 68 1), .int (Int32.ofNat i)] g u (fun big n0 => sg_sx_120 big n0 g u (Int32.ofNat i) v) ?_
  refine q_ic_ge rfl (fun hc1 => absurd (show (g 68 1) ≤ (Int32.ofNat i) from hc1) (by rw [hsz]; exact fun q => absurd ((q_le (i := z) (j := i) (by omega) (by omega)).mp q) (by omega))) (fun (hc1 : ¬ ((g 68 1) ≤ (Int32.ofNat i))) => ?_)
  refine q_step 5 21 [(0, .ref 68), (1, .int (Int32.ofNat i)), (2, .int v)] [.int (g 68 2), .int (Int32.ofNat i), .ref 69] g u (fun big n0 => sg_sx_121 big n0 g u (Int32.ofNat i) v) ?_
  refine q_if_ne rfl (fun (hc2 : (g 68 2) = 0) => ?_) (fun (hc2 : ¬ ((g 68 2) = 0)) => ?_)
  · refine q_step 3 43 [(0, .ref 68), (1, .int (Int32.ofNat i)), (2, .int v)] [.int (Int8.toInt32 (Int32.toInt8 v)), .int (Int32.ofNat i), .ref 69] g u (fun big n0 => sg_sx_122 big n0 g u (Int32.ofNat i) v (Int32.ofNat i)) ?_
    refine q_iast (j := i) (q_ixn (by omega) (by omega)) rfl rfl ?_
    refine q_ret 1 (none, (q_up g 69 i (Int8.toInt32 (Int32.toInt8 v))), u) (fun _ _ => rfl) ?_
    unfold s_ln
    rw [if_pos hc2]
  · refine q_step 3 34 [(0, .ref 68), (1, .int (Int32.ofNat i)), (2, .int v)] [.int (1 : Int32), .int (g 68 2), .int (Int32.ofNat i), .ref 69] g u (fun big n0 => sg_sx_123 big n0 g u (Int32.ofNat i) v (Int32.ofNat i)) ?_
    refine q_ic_ne rfl (fun (hc3 : (g 68 2) = (1 : Int32)) => ?_) (fun (hc3 : ¬ ((g 68 2) = (1 : Int32))) => ?_)
    · refine q_step 3 43 [(0, .ref 68), (1, .int (Int32.ofNat i)), (2, .int v)] [.int (Int16.toInt32 (Int32.toInt16 v)), .int (Int32.ofNat i), .ref 69] g u (fun big n0 => sg_sx_124 big n0 g u (Int32.ofNat i) v (Int32.ofNat i)) ?_
      refine q_iast (j := i) (q_ixn (by omega) (by omega)) rfl rfl ?_
      refine q_ret 1 (none, (q_up g 69 i (Int16.toInt32 (Int32.toInt16 v))), u) (fun _ _ => rfl) ?_
      unfold s_ln
      rw [if_neg hc2, if_pos hc3]
    · refine q_step 1 43 [(0, .ref 68), (1, .int (Int32.ofNat i)), (2, .int v)] [.int v, .int (Int32.ofNat i), .ref 69] g u (fun big n0 => sg_sx_125 big n0 g u (Int32.ofNat i) v (Int32.ofNat i)) ?_
      refine q_iast (j := i) (q_ixn (by omega) (by omega)) rfl rfl ?_
      refine q_ret 1 (none, (q_up g 69 i v), u) (fun _ _ => rfl) ?_
      unfold s_ln
      rw [if_neg hc2, if_neg hc3]
theorem cg_lay3 (g : qM) (u : qW) {i z : Nat} {v : Int32} (hz : z ≤ 40) (hsz : g 68 1 = Int32.ofNat z) (hi : i < z) (hf : d_faultAt3 (Int32.ofNat i) g = 0) : q_BS 134 [.ref 8, .int (3 : Int32), .int (Int32.ofNat i), .int v] g u (some (.int 1), q_up g 69 i (s_ln (g 68 2) v), u) := by
  refine q_bx (mm := m_134) rfl (Nat.le_of_ble_eq_true rfl) rfl ?_
  refine q_step 1 1 [(0, .ref 8), (1, .int (3 : Int32)), (2, .int (Int32.ofNat i)), (3, .int v)] [.int (3 : Int32)] g u (fun big n0 => sg_sx_126 big n0 g u (Int32.ofNat i) v) ?_
  refine q_call (M2 := 131) (rest := []) (show q_BS 131 [.int (3 : Int32)] g u (some (.int 1), g, u) from b_isSheet _ g u) (fun _ _ => rfl) ?_
  refine q_step 6 16 [(0, .ref 8), (1, .int (3 : Int32)), (2, .int (Int32.ofNat i)), (3, .int v)] [.int (Int32.ofNat i), .ref 68] g u (fun big n0 => sg_sx_127 big n0 g u (Int32.ofNat i) v) ?_
  have hfa := b_faultAt3 ((Int32.ofNat i)) g u
  rw [hf] at hfa
  refine q_call (M2 := 135) (rest := []) (hfa) (fun _ _ => rfl) ?_
  refine q_step 9 40 [(0, .ref 8), (1, .int (3 : Int32)), (2, .int (Int32.ofNat i)), (3, .int v), (4, .int (0 : Int32))] [.int v, .int (Int32.ofNat i), .ref 68] g u (fun big n0 => sg_sx_128 big n0 g u (Int32.ofNat i) v) ?_
  refine q_call (M2 := 137) (rest := []) (cw_write3 g u hz hsz hi) (fun _ _ => rfl) ?_
  refine q_ret 2 (some (.int (1 : Int32)), (q_up g 69 i (s_ln (g 68 2) v)), u) (fun _ _ => rfl) ?_
  rfl
theorem cg_lay3f1 (g : qM) (u : qW) {x v : Int32} (hf : d_faultAt3 x g = 1) : q_BS 134 [.ref 8, .int (3 : Int32), .int x, .int v] g u (some (.int (Int8.toInt32 (Int8.ofInt (-11)))), g, u) := by
  refine q_bx (mm := m_134) rfl (Nat.le_of_ble_eq_true rfl) rfl ?_
  refine q_step 1 1 [(0, .ref 8), (1, .int (3 : Int32)), (2, .int x), (3, .int v)] [.int (3 : Int32)] g u (fun big n0 => sg_sx_126 big n0 g u x v) ?_
  refine q_call (M2 := 131) (rest := []) (show q_BS 131 [.int (3 : Int32)] g u (some (.int 1), g, u) from b_isSheet _ g u) (fun _ _ => rfl) ?_
  refine q_step 6 16 [(0, .ref 8), (1, .int (3 : Int32)), (2, .int x), (3, .int v)] [.int x, .ref 68] g u (fun big n0 => sg_sx_127 big n0 g u x v) ?_
  have hfa := b_faultAt3 (x) g u
  rw [hf] at hfa
  refine q_call (M2 := 135) (rest := []) (hfa) (fun _ _ => rfl) ?_
  refine q_ret 7 (some (.int ((Int8.toInt32 (Int8.ofInt (-10))) - (1 : Int32))), g, u) (fun _ _ => rfl) ?_
  rfl
theorem cg_lay3f2 (g : qM) (u : qW) {x v : Int32} (hf : d_faultAt3 x g = 2) : q_BS 134 [.ref 8, .int (3 : Int32), .int x, .int v] g u (some (.int (Int8.toInt32 (Int8.ofInt (-12)))), g, u) := by
  refine q_bx (mm := m_134) rfl (Nat.le_of_ble_eq_true rfl) rfl ?_
  refine q_step 1 1 [(0, .ref 8), (1, .int (3 : Int32)), (2, .int x), (3, .int v)] [.int (3 : Int32)] g u (fun big n0 => sg_sx_126 big n0 g u x v) ?_
  refine q_call (M2 := 131) (rest := []) (show q_BS 131 [.int (3 : Int32)] g u (some (.int 1), g, u) from b_isSheet _ g u) (fun _ _ => rfl) ?_
  refine q_step 6 16 [(0, .ref 8), (1, .int (3 : Int32)), (2, .int x), (3, .int v)] [.int x, .ref 68] g u (fun big n0 => sg_sx_127 big n0 g u x v) ?_
  have hfa := b_faultAt3 (x) g u
  rw [hf] at hfa
  refine q_call (M2 := 135) (rest := []) (hfa) (fun _ _ => rfl) ?_
  refine q_ret 7 (some (.int ((Int8.toInt32 (Int8.ofInt (-10))) - (2 : Int32))), g, u) (fun _ _ => rfl) ?_
  rfl
theorem rg_lay3 (g : qM) (u : qW) {i z l : Nat} {v : Int32} (hz : z ≤ 40) (hl : l ≤ 2) (hsz : g 85 3 = Int32.ofNat z) (hla : g 84 3 = Int32.ofNat l) (hi : i < z) : q_BS 221 [.ref 70, .int (3 : Int32), .int (Int32.ofNat i), .int v] g u (some (.int 1), q_up g 86 (120 + i) (s_ln (g 84 3) v), u) := by
  refine q_bx (mm := m_221) rfl (Nat.le_of_ble_eq_true rfl) rfl ?_
  refine q_step 2 2 [(0, .ref 70), (1, .int (3 : Int32)), (2, .int (Int32.ofNat i)), (3, .int v)] [.int (0 : Int32), .int (3 : Int32)] g u (fun big n0 => sg_sx_129 big n0 g u (Int32.ofNat i) v) ?_
  refine q_call (M2 := 220) (rest := []) (b_ris3 (l := 0) g u (by omega)) (fun _ _ => rfl) ?_
  refine q_step 6 18 [(0, .ref 70), (1, .int (3 : Int32)), (2, .int (Int32.ofNat i)), (3, .int v)] [.int (Int8.toInt32 (Int8.ofInt (-4))), .int (g 84 3)] g u (fun big n0 => sg_sx_130 big n0 g u (Int32.ofNat i) v) ?_
  refine q_ic_ne rfl (fun hc0 => absurd (show (g 84 3) = (Int8.toInt32 (Int8.ofInt (-4))) from hc0) (by rw [hla]; exact q_none_ne (by omega))) (fun (hc0 : ¬ ((g 84 3) = (Int8.toInt32 (Int8.ofInt (-4))))) => ?_)
  refine q_step 10 36 [(0, .ref 70), (1, .int (3 : Int32)), (2, .int (Int32.ofNat i)), (3, .int v)] [.long (Int32.toInt64 ((g 85 3) - (1 : Int32))), .long (0 : Int64), .long (Int32.toInt64 (Int32.ofNat i))] g u (fun big n0 => sg_sx_131 big n0 g u (Int32.ofNat i) v) ?_
  have hin : s_in (Int32.toInt64 (Int32.ofNat i)) (0 : Int64) (Int32.toInt64 ((g 85 3) - (1 : Int32))) = 1 := by
    rcases s_in_01 (Int32.toInt64 (Int32.ofNat i)) (0 : Int64) (Int32.toInt64 ((g 85 3) - (1 : Int32))) with q | q
    · refine absurd q (s_in_i.mpr ?_)
      have e1 : (1 : Int32).toInt = 1 := rfl
      have e0 : (0 : Int64).toInt = 0 := rfl
      rw [Int32.toInt_toInt64, hsz, s_sub (by rw [q_nat (by omega), e1]; omega) (by rw [q_nat (by omega), e1]; omega), q_nat (by omega), q_nat (by omega), e1, e0]
      omega
    · exact q
  refine q_call (M2 := 149) (rest := []) (by have e := b_in (Int32.toInt64 (Int32.ofNat i)) (0 : Int64) (Int32.toInt64 ((g 85 3) - (1 : Int32))) g u; rw [hin] at e; exact e) (fun _ _ => rfl) ?_
  refine q_step 12 61 [(0, .ref 70), (1, .int (3 : Int32)), (2, .int (Int32.ofNat i)), (3, .int v)] [.int (g 84 3), .int ((120 : Int32) + (Int32.ofNat i)), .ref 86] g u (fun big n0 => sg_sx_132 big n0 g u (Int32.ofNat i) v) ?_
  refine q_if_ne rfl (fun (hc1 : (g 84 3) = 0) => ?_) (fun (hc1 : ¬ ((g 84 3) = 0)) => ?_)
  · refine q_step 3 85 [(0, .ref 70), (1, .int (3 : Int32)), (2, .int (Int32.ofNat i)), (3, .int v)] [.int (Int8.toInt32 (Int32.toInt8 v)), .int ((120 : Int32) + (Int32.ofNat i)), .ref 86] g u (fun big n0 => sg_sx_133 big n0 g u (Int32.ofNat i) v ((120 : Int32) + (Int32.ofNat i))) ?_
    refine q_iast (j := (120 + i)) (s_rixk (K := 120) (i := i) (by omega)) rfl rfl ?_
    refine q_ret 2 (some (.int (1 : Int32)), (q_up g 86 (120 + i) (Int8.toInt32 (Int32.toInt8 v))), u) (fun _ _ => rfl) ?_
    unfold s_ln
    rw [if_pos hc1]
  · refine q_step 5 76 [(0, .ref 70), (1, .int (3 : Int32)), (2, .int (Int32.ofNat i)), (3, .int v)] [.int (1 : Int32), .int (g 84 3), .int ((120 : Int32) + (Int32.ofNat i)), .ref 86] g u (fun big n0 => sg_sx_134 big n0 g u (Int32.ofNat i) v ((120 : Int32) + (Int32.ofNat i))) ?_
    refine q_ic_ne rfl (fun (hc2 : (g 84 3) = (1 : Int32)) => ?_) (fun (hc2 : ¬ ((g 84 3) = (1 : Int32))) => ?_)
    · refine q_step 3 85 [(0, .ref 70), (1, .int (3 : Int32)), (2, .int (Int32.ofNat i)), (3, .int v)] [.int (Int16.toInt32 (Int32.toInt16 v)), .int ((120 : Int32) + (Int32.ofNat i)), .ref 86] g u (fun big n0 => sg_sx_135 big n0 g u (Int32.ofNat i) v ((120 : Int32) + (Int32.ofNat i))) ?_
      refine q_iast (j := (120 + i)) (s_rixk (K := 120) (i := i) (by omega)) rfl rfl ?_
      refine q_ret 2 (some (.int (1 : Int32)), (q_up g 86 (120 + i) (Int16.toInt32 (Int32.toInt16 v))), u) (fun _ _ => rfl) ?_
      unfold s_ln
      rw [if_neg hc1, if_pos hc2]
    · refine q_step 1 85 [(0, .ref 70), (1, .int (3 : Int32)), (2, .int (Int32.ofNat i)), (3, .int v)] [.int v, .int ((120 : Int32) + (Int32.ofNat i)), .ref 86] g u (fun big n0 => sg_sx_136 big n0 g u (Int32.ofNat i) v ((120 : Int32) + (Int32.ofNat i))) ?_
      refine q_iast (j := (120 + i)) (s_rixk (K := 120) (i := i) (by omega)) rfl rfl ?_
      refine q_ret 2 (some (.int (1 : Int32)), (q_up g 86 (120 + i) v), u) (fun _ _ => rfl) ?_
      unfold s_ln
      rw [if_neg hc1, if_neg hc2]
theorem rg_lay3f1 (g : qM) (u : qW) {x v : Int32} (hla : g 84 3 = i_none) : q_BS 221 [.ref 70, .int (3 : Int32), .int x, .int v] g u (some (.int (Int8.toInt32 (Int8.ofInt (-11)))), g, u) := by
  refine q_bx (mm := m_221) rfl (Nat.le_of_ble_eq_true rfl) rfl ?_
  refine q_step 2 2 [(0, .ref 70), (1, .int (3 : Int32)), (2, .int x), (3, .int v)] [.int (0 : Int32), .int (3 : Int32)] g u (fun big n0 => sg_sx_129 big n0 g u x v) ?_
  refine q_call (M2 := 220) (rest := []) (b_ris3 (l := 0) g u (by omega)) (fun _ _ => rfl) ?_
  refine q_step 6 18 [(0, .ref 70), (1, .int (3 : Int32)), (2, .int x), (3, .int v)] [.int (Int8.toInt32 (Int8.ofInt (-4))), .int (g 84 3)] g u (fun big n0 => sg_sx_130 big n0 g u x v) ?_
  refine q_ic_ne rfl (fun (hc0 : (g 84 3) = (Int8.toInt32 (Int8.ofInt (-4)))) => ?_) (fun hc0 => absurd (show (g 84 3) = (Int8.toInt32 (Int8.ofInt (-4))) from hla) hc0)
  refine q_ret 2 (some (.int (Int8.toInt32 (Int8.ofInt (-11)))), g, u) (fun _ _ => rfl) ?_
  rfl
theorem rg_lay3f2 (g : qM) (u : qW) {x v : Int32} (hla : ¬ g 84 3 = i_none) (hin : s_in (Int32.toInt64 x) (0 : Int64) (Int32.toInt64 ((g 85 3) - (1 : Int32))) = 0) : q_BS 221 [.ref 70, .int (3 : Int32), .int x, .int v] g u (some (.int (Int8.toInt32 (Int8.ofInt (-12)))), g, u) := by
  refine q_bx (mm := m_221) rfl (Nat.le_of_ble_eq_true rfl) rfl ?_
  refine q_step 2 2 [(0, .ref 70), (1, .int (3 : Int32)), (2, .int x), (3, .int v)] [.int (0 : Int32), .int (3 : Int32)] g u (fun big n0 => sg_sx_129 big n0 g u x v) ?_
  refine q_call (M2 := 220) (rest := []) (b_ris3 (l := 0) g u (by omega)) (fun _ _ => rfl) ?_
  refine q_step 6 18 [(0, .ref 70), (1, .int (3 : Int32)), (2, .int x), (3, .int v)] [.int (Int8.toInt32 (Int8.ofInt (-4))), .int (g 84 3)] g u (fun big n0 => sg_sx_130 big n0 g u x v) ?_
  refine q_ic_ne rfl (fun hc0 => absurd (show (g 84 3) = (Int8.toInt32 (Int8.ofInt (-4))) from hc0) (hla)) (fun (hc0 : ¬ ((g 84 3) = (Int8.toInt32 (Int8.ofInt (-4))))) => ?_)
  refine q_step 10 36 [(0, .ref 70), (1, .int (3 : Int32)), (2, .int x), (3, .int v)] [.long (Int32.toInt64 ((g 85 3) - (1 : Int32))), .long (0 : Int64), .long (Int32.toInt64 x)] g u (fun big n0 => sg_sx_131 big n0 g u x v) ?_
  refine q_call (M2 := 149) (rest := []) (by have e := b_in (Int32.toInt64 x) (0 : Int64) (Int32.toInt64 ((g 85 3) - (1 : Int32))) g u; rw [hin] at e; exact e) (fun _ _ => rfl) ?_
  refine q_ret 3 (some (.int (Int8.toInt32 (Int8.ofInt (-12)))), g, u) (fun _ _ => rfl) ?_
  rfl
theorem cg_count0 {n : Nat} (g : qM) (u : qW) (hn : g 20 3 = Int32.ofNat n) (h6 : n ≤ 6) : q_BS 143 [.ref 8, .int (0 : Int32)] g u (some (.int (s_ct (fun p => if g 21 p = g 24 p then (1 : Int32) else 0) n 0 0)), g, u) := by
  refine q_bx (mm := m_143) rfl (Nat.le_of_ble_eq_true rfl) rfl ?_
  refine q_step 4 48 [(0, .ref 8), (1, .int (0 : Int32))] [.ref 20] g u (fun big n0 => sg_sx_137 big n0 g u) ?_
  refine q_call (M2 := 78) (rest := []) (b_atg20 g u hn h6) (fun _ _ => rfl) ?_
  refine q_ret 1 (some (.int (s_ct (fun p => if g 21 p = g 24 p then (1 : Int32) else 0) n 0 0)), g, u) (fun _ _ => rfl) ?_
  rfl
theorem cg_count1 {n : Nat} (g : qM) (u : qW) (hn : g 20 3 = Int32.ofNat n) (h6 : n ≤ 6) : q_BS 143 [.ref 8, .int (1 : Int32)] g u (some (.int (s_ct (fun p => if g 24 p = i_none then (0 : Int32) else 1) n 0 0)), g, u) := by
  refine q_bx (mm := m_143) rfl (Nat.le_of_ble_eq_true rfl) rfl ?_
  refine q_step 4 56 [(0, .ref 8), (1, .int (1 : Int32))] [.ref 20] g u (fun big n0 => sg_sx_138 big n0 g u) ?_
  refine q_call (M2 := 100) (rest := []) (b_wig20 g u hn h6) (fun _ _ => rfl) ?_
  refine q_ret 1 (some (.int (s_ct (fun p => if g 24 p = i_none then (0 : Int32) else 1) n 0 0)), g, u) (fun _ _ => rfl) ?_
  rfl
theorem cg_count2 {n : Nat} (g : qM) (u : qW) (hn : g 20 3 = Int32.ofNat n) (h6 : n ≤ 6) : q_BS 143 [.ref 8, .int (2 : Int32)] g u (some (.int (g 20 6)), g, u) := by
  refine q_bx (mm := m_143) rfl (Nat.le_of_ble_eq_true rfl) rfl ?_
  refine q_ret 6 (some (.int (g 20 6)), g, u) (fun _ _ => rfl) ?_
  rfl
theorem cg_count3 {n : Nat} (g : qM) (u : qW) (hn : g 20 3 = Int32.ofNat n) (h6 : n ≤ 6) : q_BS 143 [.ref 8, .int (3 : Int32)] g u (some (.int (d_bc (g 8 7) g)), g, u) := by
  refine q_bx (mm := m_143) rfl (Nat.le_of_ble_eq_true rfl) rfl ?_
  refine q_step 4 72 [(0, .ref 8), (1, .int (3 : Int32))] [.int (g 8 7)] g u (fun big n0 => sg_sx_139 big n0 g u) ?_
  refine q_call (M2 := 127) (rest := []) (b_bc _ g u) (fun _ _ => rfl) ?_
  refine q_ret 1 (some (.int (d_bc (g 8 7) g)), g, u) (fun _ _ => rfl) ?_
  rfl
theorem cg_count4 {n : Nat} (g : qM) (u : qW) (hn : g 20 3 = Int32.ofNat n) (h6 : n ≤ 6) : q_BS 143 [.ref 8, .int (4 : Int32)] g u (some (.int (g 9 1)), g, u) := by
  refine q_bx (mm := m_143) rfl (Nat.le_of_ble_eq_true rfl) rfl ?_
  refine q_ret 6 (some (.int (g 9 1)), g, u) (fun _ _ => rfl) ?_
  rfl
theorem cg_count5 {n : Nat} (g : qM) (u : qW) (hn : g 20 3 = Int32.ofNat n) (h6 : n ≤ 6) : q_BS 143 [.ref 8, .int (5 : Int32)] g u (some (.int (if d_isNothing0 g = 0 then g 62 1 else i_none)), g, u) := by
  refine q_bx (mm := m_143) rfl (Nat.le_of_ble_eq_true rfl) rfl ?_
  refine q_step 6 90 [(0, .ref 8), (1, .int (5 : Int32))] [.ref 62] g u (fun big n0 => sg_sx_140 big n0 g u) ?_
  refine q_call (M2 := 136) (rest := []) (b_isNothing0 g u) (fun _ _ => rfl) ?_
  refine q_if_eq rfl (fun (hc0 : (d_isNothing0 g) = 0) => ?_) (fun (hc0 : ¬ ((d_isNothing0 g) = 0)) => ?_)
  · refine q_ret 6 (some (.int (g 62 1)), g, u) (fun _ _ => rfl) ?_
    rw [if_pos hc0]
  · refine q_ret 3 (some (.int (Int8.toInt32 (Int8.ofInt (-4)))), g, u) (fun _ _ => rfl) ?_
    rw [if_neg hc0]
theorem cg_count6 {n : Nat} (g : qM) (u : qW) (hn : g 20 3 = Int32.ofNat n) (h6 : n ≤ 6) : q_BS 143 [.ref 8, .int (6 : Int32)] g u (some (.int (s_ct (fun p => if g 22 p = 0 then (1 : Int32) else 0) n 0 0)), g, u) := by
  refine q_bx (mm := m_143) rfl (Nat.le_of_ble_eq_true rfl) rfl ?_
  refine q_step 4 115 [(0, .ref 8), (1, .int (6 : Int32))] [.ref 20] g u (fun big n0 => sg_sx_141 big n0 g u) ?_
  refine q_call (M2 := 144) (rest := []) (b_wim20 g u hn h6) (fun _ _ => rfl) ?_
  refine q_ret 1 (some (.int (s_ct (fun p => if g 22 p = 0 then (1 : Int32) else 0) n 0 0)), g, u) (fun _ _ => rfl) ?_
  rfl
theorem cb_count (g : qM) (u : qW) {x : Int32} (hx : x.toInt < 0 ∨ 6 < x.toInt) : q_BS 143 [.ref 8, .int x] g u (some (.int (Int32.ofInt (-1))), g, u) := by
  refine q_bx (mm := m_143) rfl (Nat.le_of_ble_eq_true rfl) rfl ?_
  refine q_step 1 1 [(0, .ref 8), (1, .int x)] [.int x] g u (fun big n0 => sg_sx_142 big n0 g u x) ?_
  refine q_tswd (tgt := 119) rfl (hx) (by decide) ?_
  refine q_ret 2 (some (.int (Int32.ofInt (-1))), g, u) (fun _ _ => rfl) ?_
  rfl
theorem rct (g : qM) (u : qW) {n : Nat} {wh : Int32} (hn : g 70 4 = Int32.ofNat n) (h6 : n ≤ 6) {Q : Option Value × qM × qW → Prop} : ∀ k i a, i + k = n → q_EV m_224 44 [(0, .ref 70), (1, .int wh), (2, .int (s_ct (p_nom g) k i a)), (3, .int (Int32.ofNat n))] [] g u Q → q_EV m_224 8 [(0, .ref 70), (1, .int wh), (2, .int a), (3, .int (Int32.ofNat i))] [] g u Q := by
  intro k
  induction k with
  | zero =>
    intro i a hi hk
    refine q_step 3 13 [(0, .ref 70), (1, .int wh), (2, .int a), (3, .int (Int32.ofNat i))] [.int (g 70 4), .int (Int32.ofNat i)] g u (fun big n0 => sg_sx_143 big n0 g u wh a (Int32.ofNat i)) ?_
    refine q_ic_ge rfl (fun (hc0 : (g 70 4) ≤ (Int32.ofNat i)) => ?_) (fun hc0 => absurd (show (g 70 4) ≤ (Int32.ofNat i) from by rw [hn]; exact (q_le (by omega) (by omega)).mpr (by omega)) hc0)
    have e : i = n := by omega
    rw [e]
    rw [e] at hk
    exact hk
  | succ k ih =>
    intro i a hi hk
    refine q_step 3 13 [(0, .ref 70), (1, .int wh), (2, .int a), (3, .int (Int32.ofNat i))] [.int (g 70 4), .int (Int32.ofNat i)] g u (fun big n0 => sg_sx_143 big n0 g u wh a (Int32.ofNat i)) ?_
    refine q_ic_ge rfl (fun hc0 => absurd (show (g 70 4) ≤ (Int32.ofNat i) from hc0) (fun z => by rw [hn] at z; exact absurd ((q_le (by omega) (by omega)).mp z) (by omega))) (fun (hc0 : ¬ ((g 70 4) ≤ (Int32.ofNat i))) => ?_)
    refine q_step 6 24 [(0, .ref 70), (1, .int wh), (2, .int a), (3, .int (Int32.ofNat i))] [.int ((5 : Int32) + (Int32.ofNat i)), .ref 71, .int a] g u (fun big n0 => sg_sx_144 big n0 g u wh a (Int32.ofNat i)) ?_
    refine q_iald (j := (5 + i)) (s_rixn (K := 5) (i := i) (by omega)) rfl rfl ?_
    refine q_if_ne rfl (fun (hc1 : (g 71 (5 + i)) = 0) => ?_) (fun (hc1 : ¬ ((g 71 (5 + i)) = 0)) => ?_)
    · refine q_step 2 33 [(0, .ref 70), (1, .int wh), (2, .int a), (3, .int (Int32.ofNat i))] [.int (1 : Int32), .int a] g u (fun big n0 => sg_sx_145 big n0 g u wh a (Int32.ofNat i) a) ?_
      refine q_call (M2 := 164) (rest := [.int a]) (b_flag1 _ _) (fun _ _ => rfl) ?_
      refine q_step 4 8 [(0, .ref 70), (1, .int wh), (2, .int (a + (1 : Int32))), (3, .int ((Int32.ofNat i) + (1 : Int32)))] [] g u (fun big n0 => sg_sx_146 big n0 g u wh a (Int32.ofNat i) a) ?_
      rw [s_ct_s (P := p_nom g) (i := i) (by unfold p_nom; exact if_pos hc1)] at hk
      rw [q_succ]
      exact ih (i + 1) _ (by omega) hk
    · refine q_step 1 33 [(0, .ref 70), (1, .int wh), (2, .int a), (3, .int (Int32.ofNat i))] [.int (0 : Int32), .int a] g u (fun big n0 => sg_sx_147 big n0 g u wh a (Int32.ofNat i) a) ?_
      refine q_call (M2 := 164) (rest := [.int a]) (b_flag0 _ _) (fun _ _ => rfl) ?_
      refine q_step 4 8 [(0, .ref 70), (1, .int wh), (2, .int (a + (0 : Int32))), (3, .int ((Int32.ofNat i) + (1 : Int32)))] [] g u (fun big n0 => sg_sx_148 big n0 g u wh a (Int32.ofNat i) a) ?_
      rw [s_ct_s (P := p_nom g) (i := i) (by unfold p_nom; exact if_neg hc1)] at hk
      rw [q_succ]
      exact ih (i + 1) _ (by omega) hk
theorem rg_count0 {n W H : Nat} {g r : qM} (u : qW) (h : w_ok n W H r) (hs : w_sm n (s_start g) r) (hn : g 70 4 = Int32.ofNat n) (h6 : n ≤ 5) : q_BS 224 [.ref 70, .int (0 : Int32)] g u (some (.int (f_at n (s_start g))), s_start g, u) := by
  refine q_bx (mm := m_224) rfl (Nat.le_of_ble_eq_true rfl) rfl ?_
  refine q_step 1 1 [(0, .ref 70), (1, .int (0 : Int32))] [.ref 70] g u (fun big n0 => sg_sx_149 big n0 g u) ?_
  refine q_call (M2 := 172) (rest := []) (b_starts g u) (fun _ _ => rfl) ?_
  refine q_step 4 8 [(0, .ref 70), (1, .int (0 : Int32)), (2, .int (0 : Int32)), (3, .int (0 : Int32))] [] (s_start g) u (fun big n0 => sg_sx_150 big n0 (s_start g) u) ?_
  refine rct (s_start g) u (n := n) hn (by omega) n 0 0 (by omega) ?_
  refine q_step 3 89 [(0, .ref 70), (1, .int (0 : Int32)), (2, .int (s_ct (p_nom (s_start g)) n 0 0)), (3, .int (Int32.ofNat n))] [.ref 70] (s_start g) u (fun big n0 => sg_sx_151 big n0 (s_start g) u (s_ct (p_nom (s_start g)) n 0 0) (Int32.ofNat n)) ?_
  refine q_call (M2 := 197) (rest := []) (b_ratg (s_start g) u (w_w0 h hs).1 (by omega)) (fun _ _ => rfl) ?_
  refine q_ret 1 (some (.int (f_at n (s_start g))), (s_start g), u) (fun _ _ => rfl) ?_
  rfl
theorem rg_count1 {n W H : Nat} {g r : qM} (u : qW) (h : w_ok n W H r) (hs : w_sm n (s_start g) r) (hn : g 70 4 = Int32.ofNat n) (h6 : n ≤ 5) : q_BS 224 [.ref 70, .int (1 : Int32)] g u (some (.int (s_ct (p_hvs (s_start g)) n 0 0)), s_start g, u) := by
  refine q_bx (mm := m_224) rfl (Nat.le_of_ble_eq_true rfl) rfl ?_
  refine q_step 1 1 [(0, .ref 70), (1, .int (1 : Int32))] [.ref 70] g u (fun big n0 => sg_sx_152 big n0 g u) ?_
  refine q_call (M2 := 172) (rest := []) (b_starts g u) (fun _ _ => rfl) ?_
  refine q_step 4 8 [(0, .ref 70), (1, .int (1 : Int32)), (2, .int (0 : Int32)), (3, .int (0 : Int32))] [] (s_start g) u (fun big n0 => sg_sx_153 big n0 (s_start g) u) ?_
  refine rct (s_start g) u (n := n) hn (by omega) n 0 0 (by omega) ?_
  refine q_step 3 94 [(0, .ref 70), (1, .int (1 : Int32)), (2, .int (s_ct (p_nom (s_start g)) n 0 0)), (3, .int (Int32.ofNat n))] [.ref 70] (s_start g) u (fun big n0 => sg_sx_154 big n0 (s_start g) u (s_ct (p_nom (s_start g)) n 0 0) (Int32.ofNat n)) ?_
  refine q_call (M2 := 205) (rest := []) (b_hvs (s_start g) u hn (by omega)) (fun _ _ => rfl) ?_
  refine q_ret 1 (some (.int (s_ct (p_hvs (s_start g)) n 0 0)), (s_start g), u) (fun _ _ => rfl) ?_
  rfl
theorem rg_count2 {n W H : Nat} {g r : qM} (u : qW) (h : w_ok n W H r) (hs : w_sm n (s_start g) r) (hn : g 70 4 = Int32.ofNat n) (h6 : n ≤ 5) : q_BS 224 [.ref 70, .int (2 : Int32)] g u (some (.int (g 71 27)), s_start g, u) := by
  refine q_bx (mm := m_224) rfl (Nat.le_of_ble_eq_true rfl) rfl ?_
  refine q_step 1 1 [(0, .ref 70), (1, .int (2 : Int32))] [.ref 70] g u (fun big n0 => sg_sx_155 big n0 g u) ?_
  refine q_call (M2 := 172) (rest := []) (b_starts g u) (fun _ _ => rfl) ?_
  refine q_step 4 8 [(0, .ref 70), (1, .int (2 : Int32)), (2, .int (0 : Int32)), (3, .int (0 : Int32))] [] (s_start g) u (fun big n0 => sg_sx_156 big n0 (s_start g) u) ?_
  refine rct (s_start g) u (n := n) hn (by omega) n 0 0 (by omega) ?_
  refine q_ret 7 (some (.int ((s_start g) 71 27)), (s_start g), u) (fun _ _ => rfl) ?_
  rfl
theorem rg_count3 {n W H : Nat} {g r : qM} (u : qW) (h : w_ok n W H r) (hs : w_sm n (s_start g) r) (hn : g 70 4 = Int32.ofNat n) (h6 : n ≤ 5) : q_BS 224 [.ref 70, .int (3 : Int32)] g u (some (.int ((if g 72 0 = 0 then (0 : Int32) else 1) + (if g 72 1 = 0 then (0 : Int32) else 1))), s_start g, u) := by
  refine q_bx (mm := m_224) rfl (Nat.le_of_ble_eq_true rfl) rfl ?_
  refine q_step 1 1 [(0, .ref 70), (1, .int (3 : Int32))] [.ref 70] g u (fun big n0 => sg_sx_157 big n0 g u) ?_
  refine q_call (M2 := 172) (rest := []) (b_starts g u) (fun _ _ => rfl) ?_
  refine q_step 4 8 [(0, .ref 70), (1, .int (3 : Int32)), (2, .int (0 : Int32)), (3, .int (0 : Int32))] [] (s_start g) u (fun big n0 => sg_sx_158 big n0 (s_start g) u) ?_
  refine rct (s_start g) u (n := n) hn (by omega) n 0 0 (by omega) ?_
  refine q_step 6 112 [(0, .ref 70), (1, .int (3 : Int32)), (2, .int (s_ct (p_nom (s_start g)) n 0 0)), (3, .int (Int32.ofNat n))] [.int ((s_start g) 72 0)] (s_start g) u (fun big n0 => sg_sx_159 big n0 (s_start g) u (s_ct (p_nom (s_start g)) n 0 0) (Int32.ofNat n)) ?_
  refine q_call (M2 := 164) (rest := []) (b_flag _ _ _) (fun _ _ => rfl) ?_
  refine q_step 4 121 [(0, .ref 70), (1, .int (3 : Int32)), (2, .int (s_ct (p_nom (s_start g)) n 0 0)), (3, .int (Int32.ofNat n))] [.int ((s_start g) 72 1), .int (if ((s_start g) 72 0) = 0 then (0 : Int32) else 1)] (s_start g) u (fun big n0 => sg_sx_160 big n0 (s_start g) u (s_ct (p_nom (s_start g)) n 0 0) (Int32.ofNat n) (if ((s_start g) 72 0) = 0 then (0 : Int32) else 1)) ?_
  refine q_call (M2 := 164) (rest := [.int (if ((s_start g) 72 0) = 0 then (0 : Int32) else 1)]) (b_flag _ _ _) (fun _ _ => rfl) ?_
  refine q_ret 2 (some (.int ((if ((s_start g) 72 0) = 0 then (0 : Int32) else 1) + (if ((s_start g) 72 1) = 0 then (0 : Int32) else 1))), (s_start g), u) (fun _ _ => rfl) ?_
  rfl
theorem rg_count4 {n W H : Nat} {g r : qM} (u : qW) (h : w_ok n W H r) (hs : w_sm n (s_start g) r) (hn : g 70 4 = Int32.ofNat n) (h6 : n ≤ 5) : q_BS 224 [.ref 70, .int (4 : Int32)] g u (some (.int (g 70 13)), s_start g, u) := by
  refine q_bx (mm := m_224) rfl (Nat.le_of_ble_eq_true rfl) rfl ?_
  refine q_step 1 1 [(0, .ref 70), (1, .int (4 : Int32))] [.ref 70] g u (fun big n0 => sg_sx_161 big n0 g u) ?_
  refine q_call (M2 := 172) (rest := []) (b_starts g u) (fun _ _ => rfl) ?_
  refine q_step 4 8 [(0, .ref 70), (1, .int (4 : Int32)), (2, .int (0 : Int32)), (3, .int (0 : Int32))] [] (s_start g) u (fun big n0 => sg_sx_162 big n0 (s_start g) u) ?_
  refine rct (s_start g) u (n := n) hn (by omega) n 0 0 (by omega) ?_
  refine q_ret 5 (some (.int ((s_start g) 70 13)), (s_start g), u) (fun _ _ => rfl) ?_
  rfl
theorem rg_count5 {n W H : Nat} {g r : qM} (u : qW) (h : w_ok n W H r) (hs : w_sm n (s_start g) r) (hn : g 70 4 = Int32.ofNat n) (h6 : n ≤ 5) : q_BS 224 [.ref 70, .int (5 : Int32)] g u (some (.int (if g 84 0 = i_none then i_none else g 85 0)), s_start g, u) := by
  refine q_bx (mm := m_224) rfl (Nat.le_of_ble_eq_true rfl) rfl ?_
  refine q_step 1 1 [(0, .ref 70), (1, .int (5 : Int32))] [.ref 70] g u (fun big n0 => sg_sx_163 big n0 g u) ?_
  refine q_call (M2 := 172) (rest := []) (b_starts g u) (fun _ _ => rfl) ?_
  refine q_step 4 8 [(0, .ref 70), (1, .int (5 : Int32)), (2, .int (0 : Int32)), (3, .int (0 : Int32))] [] (s_start g) u (fun big n0 => sg_sx_164 big n0 (s_start g) u) ?_
  refine rct (s_start g) u (n := n) hn (by omega) n 0 0 (by omega) ?_
  refine q_step 7 139 [(0, .ref 70), (1, .int (5 : Int32)), (2, .int (s_ct (p_nom (s_start g)) n 0 0)), (3, .int (Int32.ofNat n))] [.int (Int8.toInt32 (Int8.ofInt (-4))), .int ((s_start g) 84 0)] (s_start g) u (fun big n0 => sg_sx_165 big n0 (s_start g) u (s_ct (p_nom (s_start g)) n 0 0) (Int32.ofNat n)) ?_
  refine q_ic_ne rfl (fun (hc0 : ((s_start g) 84 0) = (Int8.toInt32 (Int8.ofInt (-4)))) => ?_) (fun (hc0 : ¬ (((s_start g) 84 0) = (Int8.toInt32 (Int8.ofInt (-4))))) => ?_)
  · refine q_ret 3 (some (.int (Int8.toInt32 (Int8.ofInt (-4)))), (s_start g), u) (fun _ _ => rfl) ?_
    exact congrArg (fun v => (some (Value.int v), s_start g, u)) (if_pos hc0).symm
  · refine q_ret 5 (some (.int ((s_start g) 85 0)), (s_start g), u) (fun _ _ => rfl) ?_
    exact congrArg (fun v => (some (Value.int v), s_start g, u)) (if_neg hc0).symm
theorem rg_count6 {n W H : Nat} {g r : qM} (u : qW) (h : w_ok n W H r) (hs : w_sm n (s_start g) r) (hn : g 70 4 = Int32.ofNat n) (h6 : n ≤ 5) : q_BS 224 [.ref 70, .int (6 : Int32)] g u (some (.int (s_ct (p_nom (s_start g)) n 0 0)), s_start g, u) := by
  refine q_bx (mm := m_224) rfl (Nat.le_of_ble_eq_true rfl) rfl ?_
  refine q_step 1 1 [(0, .ref 70), (1, .int (6 : Int32))] [.ref 70] g u (fun big n0 => sg_sx_166 big n0 g u) ?_
  refine q_call (M2 := 172) (rest := []) (b_starts g u) (fun _ _ => rfl) ?_
  refine q_step 4 8 [(0, .ref 70), (1, .int (6 : Int32)), (2, .int (0 : Int32)), (3, .int (0 : Int32))] [] (s_start g) u (fun big n0 => sg_sx_167 big n0 (s_start g) u) ?_
  refine rct (s_start g) u (n := n) hn (by omega) n 0 0 (by omega) ?_
  refine q_ret 4 (some (.int (s_ct (p_nom (s_start g)) n 0 0)), (s_start g), u) (fun _ _ => rfl) ?_
  rfl
theorem rg_countb {n W H : Nat} {g r : qM} (u : qW) (h : w_ok n W H r) (hs : w_sm n (s_start g) r) (hn : g 70 4 = Int32.ofNat n) (h6 : n ≤ 5) {x : Int32} (hx : x.toInt < 0 ∨ 6 < x.toInt) : q_BS 224 [.ref 70, .int x] g u (some (.int (Int32.ofInt (-1))), s_start g, u) := by
  refine q_bx (mm := m_224) rfl (Nat.le_of_ble_eq_true rfl) rfl ?_
  refine q_step 1 1 [(0, .ref 70), (1, .int x)] [.ref 70] g u (fun big n0 => sg_sx_168 big n0 g u x) ?_
  refine q_call (M2 := 172) (rest := []) (b_starts g u) (fun _ _ => rfl) ?_
  refine q_step 4 8 [(0, .ref 70), (1, .int x), (2, .int (0 : Int32)), (3, .int (0 : Int32))] [] (s_start g) u (fun big n0 => sg_sx_169 big n0 (s_start g) u x) ?_
  refine rct (s_start g) u (n := n) hn (by omega) n 0 0 (by omega) ?_
  refine q_step 1 45 [(0, .ref 70), (1, .int x), (2, .int (s_ct (p_nom (s_start g)) n 0 0)), (3, .int (Int32.ofNat n))] [.int x] (s_start g) u (fun big n0 => sg_sx_170 big n0 (s_start g) u x (s_ct (p_nom (s_start g)) n 0 0) (Int32.ofNat n)) ?_
  refine q_tswd (tgt := 156) rfl (hx) (by decide) ?_
  refine q_ret 2 (some (.int (Int32.ofInt (-1))), (s_start g), u) (fun _ _ => rfl) ?_
  rfl
end
section
/-! READ. -/
/-- a pair is told: a ONE, a MOOD -/
def n_tl (n : Nat) (row : Nat → Int32) (j : Nat) : Nat := if row j < 0 then 0 else if Int32.ofNat n ≤ row j then 0 else if row (j + 1) < 0 then 0 else if (3 : Int32) < row (j + 1) then 0 else 1
/-- how many came (true), or which is BAD (false) -/
def f_rd (tl : Nat → Nat) (z j0 : Nat) : Nat → Nat → Nat × Bool
  | 0, i => (i, true)
  | k + 1, i => if z ≤ j0 + 2 * i + 1 then (i, true) else if tl (j0 + 2 * i) = 0 then (i, false) else f_rd tl z j0 k (i + 1)
/-- the MOODS behind k of them from i on -/
def f_ws (row : Nat → Int32) (j0 : Nat) : Nat → Nat → (Nat → Int32) → Nat → Int32
  | 0, _, f => f
  | k + 1, i, f => f_ws row j0 k (i + 1) (s_set f (row (j0 + 2 * i)).toInt.toNat (row (j0 + 2 * i + 1)))
def s_m22 (f : Nat → Int32) (g : qM) : qM := fun a j => if a = 22 then f j else g a j
def s_m71 (f : Nat → Int32) (g : qM) : qM := fun a j => if a = 71 then (if 5 ≤ j ∧ j < 10 then f (j - 5) else g 71 j) else g a j
theorem s_m22_0 {g : qM} : s_m22 (g 22) g = g := by
  funext a j
  unfold s_m22
  by_cases h : a = 22
  · rw [if_pos h, h]
  · rw [if_neg h]
theorem s_m22_s {f : Nat → Int32} {g : qM} {i : Nat} {x : Int32} : q_up (s_m22 f g) 22 i x = s_m22 (s_set f i x) g := by
  funext a j
  simp only [q_up_eq, s_m22, s_set]
  by_cases h : a = 22
  · by_cases e : j = i
    · simp [h, e]
    · simp [h, e]
  · simp [h]
theorem s_m71_0 {g : qM} : s_m71 (fun q => g 71 (5 + q)) g = g := by
  funext a j
  unfold s_m71
  by_cases h : a = 71
  · rw [if_pos h, h]
    by_cases l : 5 ≤ j ∧ j < 10
    · rw [if_pos l]
      show g 71 (5 + (j - 5)) = g 71 j
      rw [show 5 + (j - 5) = j by omega]
    · rw [if_neg l]
  · rw [if_neg h]
theorem s_m71_s {f : Nat → Int32} {g : qM} {p : Nat} {x : Int32} (hp : p < 5) : q_up (s_m71 f g) 71 (5 + p) x = s_m71 (s_set f p x) g := by
  funext a j
  simp only [q_up_eq, s_m71, s_set]
  by_cases h : a = 71
  · subst h
    by_cases e : j = 5 + p
    · subst e
      rw [if_pos ⟨rfl, rfl⟩, if_pos rfl, if_pos (by omega), if_pos (by omega)]
    · rw [if_neg (fun z => e z.2), if_pos rfl, if_pos rfl]
      by_cases l : 5 ≤ j ∧ j < 10
      · rw [if_pos l, if_pos l, if_neg (by omega)]
      · rw [if_neg l, if_neg l]
  · rw [if_neg (fun z => h z.1), if_neg h, if_neg h]
theorem s_m71_m {f f' : Nat → Int32} {g : qM} : s_m71 f' (s_m71 f g) = s_m71 f' g := by
  funext a j
  unfold s_m71
  by_cases h : a = 71
  · rw [if_pos h, if_pos h]
    by_cases l : 5 ≤ j ∧ j < 10
    · rw [if_pos l, if_pos l]
    · rw [if_neg l, if_neg l, if_pos rfl, if_neg l]
  · rw [if_neg h, if_neg h, if_neg h]
theorem n_tl_1 {n j : Nat} {row : Nat → Int32} (h6 : n ≤ 6) (h : n_tl n row j ≠ 0) : (∃ p, p < n ∧ row j = Int32.ofNat p) ∧ ∃ m, m ≤ 3 ∧ row (j + 1) = Int32.ofNat m := by
  unfold n_tl at h
  by_cases a : row j < 0
  · rw [if_pos a] at h; exact absurd rfl h
  · rw [if_neg a] at h
    by_cases b : Int32.ofNat n ≤ row j
    · rw [if_pos b] at h; exact absurd rfl h
    · rw [if_neg b] at h
      by_cases c : row (j + 1) < 0
      · rw [if_pos c] at h; exact absurd rfl h
      · rw [if_neg c] at h
        by_cases d : (3 : Int32) < row (j + 1)
        · rw [if_pos d] at h; exact absurd rfl h
        · rw [Int32.lt_iff_toInt_lt] at a c d
          rw [Int32.le_iff_toInt_le, q_nat (by omega)] at b
          have z0 : (0 : Int32).toInt = 0 := rfl
          have z3 : (3 : Int32).toInt = 3 := rfl
          exact ⟨⟨(row j).toInt.toNat, by omega, q_of (by omega)⟩, ⟨(row (j + 1)).toInt.toNat, by omega, q_of (by omega)⟩⟩
theorem f_rd_le {tl : Nat → Nat} {z j0 : Nat} : ∀ k i w b, f_rd tl z j0 k i = (w, b) → i ≤ w ∧ w ≤ i + k ∧ ∀ x, i ≤ x → x < w → tl (j0 + 2 * x) ≠ 0 ∧ j0 + 2 * x + 1 < z
  | 0, i, w, b, h => by
    cases h
    exact ⟨Nat.le_refl _, Nat.le_refl _, fun x a c => by omega⟩
  | k + 1, i, w, b, h => by
    rw [f_rd] at h
    by_cases e : z ≤ j0 + 2 * i + 1
    · rw [if_pos e] at h
      cases h
      exact ⟨Nat.le_refl _, by omega, fun x a c => by omega⟩
    · rw [if_neg e] at h
      by_cases t : tl (j0 + 2 * i) = 0
      · rw [if_pos t] at h
        cases h
        exact ⟨Nat.le_refl _, by omega, fun x a c => by omega⟩
      · rw [if_neg t] at h
        obtain ⟨a, c, d⟩ := f_rd_le k (i + 1) w b h
        refine ⟨by omega, by omega, fun x p q => ?_⟩
        by_cases y : x = i
        · rw [y]; exact ⟨t, by omega⟩
        · exact d x (by omega) q
theorem s_acase (x y : Int32) : (x + y).toInt = x.toInt + y.toInt ∨ (x + y).toInt = x.toInt + y.toInt - 4294967296 ∨ (x + y).toInt = x.toInt + y.toInt + 4294967296 := by
  have a := Int32.toInt_lt x
  have b := Int32.toInt_lt y
  have c := Int32.le_toInt x
  have d := Int32.le_toInt y
  rw [Int32.toInt_add, Int.bmod_def]
  split <;> omega
theorem sg_rd_1 (big : Nat → List Value → qM → qW → qR) (n0 : Nat) (G : qM) (U : qW) (v0 : Int32) : qm_run pm_m big m_140 (n0 + 2) 0 [(0, .ref 62), (1, .int v0)] [] G U = qm_run pm_m big m_140 n0 2 [(0, .ref 62), (1, .int v0)] [.int v0, .ref 62] G U := rfl
theorem sg_rd_2 (big : Nat → List Value → qM → qW → qR) (n0 : Nat) (G : qM) (U : qW) (v0 : Int32) (v1 : Int32) : qm_run pm_m big m_140 (n0 + 2) 5 [(0, .ref 62), (1, .int v0)] [.int v1] G U = qm_run pm_m big m_140 n0 7 [(0, .ref 62), (1, .int v0), (2, .int v1)] [.int v1] G U := rfl
theorem sg_rd_3 (big : Nat → List Value → qM → qW → qR) (n0 : Nat) (G : qM) (U : qW) (v0 : Int32) (v1 : Int32) : qm_run pm_m big m_140 (n0 + 4) 14 [(0, .ref 62), (1, .int v0), (2, .int v1)] [] G U = qm_run pm_m big m_140 n0 18 [(0, .ref 62), (1, .int v0), (2, .int v1)] [.int (v0 + (1 : Int32)), .ref 62] G U := rfl
theorem sg_rd_4 (big : Nat → List Value → qM → qW → qR) (n0 : Nat) (G : qM) (U : qW) (v0 : Int32) (v1 : Int32) (v2 : Int32) : qm_run pm_m big m_138 (n0 + 1) 0 [(0, .ref 8), (1, .int (0 : Int32)), (2, .int v0), (3, .int v1), (4, .int v2)] [] G U = qm_run pm_m big m_138 n0 1 [(0, .ref 8), (1, .int (0 : Int32)), (2, .int v0), (3, .int v1), (4, .int v2)] [.int (0 : Int32)] G U := rfl
theorem sg_rd_5 (big : Nat → List Value → qM → qW → qR) (n0 : Nat) (G : qM) (U : qW) (v0 : Int32) (v1 : Int32) (v2 : Int32) : qm_run pm_m big m_138 (n0 + 2) 4 [(0, .ref 8), (1, .int (0 : Int32)), (2, .int v0), (3, .int v1), (4, .int v2)] [.int (1 : Int32)] G U = qm_run pm_m big m_138 n0 8 [(0, .ref 8), (1, .int (0 : Int32)), (2, .int v0), (3, .int v1), (4, .int v2)] [.int v0] G U := rfl
theorem sg_rd_6 (big : Nat → List Value → qM → qW → qR) (n0 : Nat) (G : qM) (U : qW) (v0 : Int32) (v1 : Int32) (v2 : Int32) : qm_run pm_m big m_138 (n0 + 2) 11 [(0, .ref 8), (1, .int (0 : Int32)), (2, .int v0), (3, .int v1), (4, .int v2)] [.int (1 : Int32)] G U = qm_run pm_m big m_138 n0 16 [(0, .ref 8), (1, .int (0 : Int32)), (2, .int v0), (3, .int v1), (4, .int v2)] [.int v2] G U := rfl
theorem sg_rd_7 (big : Nat → List Value → qM → qW → qR) (n0 : Nat) (G : qM) (U : qW) (v0 : Int32) (v1 : Int32) (v2 : Int32) : qm_run pm_m big m_138 (n0 + 2) 19 [(0, .ref 8), (1, .int (0 : Int32)), (2, .int v0), (3, .int v1), (4, .int v2)] [] G U = qm_run pm_m big m_138 n0 23 [(0, .ref 8), (1, .int (0 : Int32)), (2, .int v0), (3, .int v1), (4, .int v2)] [.int (20 : Int32), .int v2] G U := rfl
theorem sg_rd_8 (big : Nat → List Value → qM → qW → qR) (n0 : Nat) (G : qM) (U : qW) (v0 : Int32) (v1 : Int32) (v2 : Int32) : qm_run pm_m big m_138 (n0 + 7) 28 [(0, .ref 8), (1, .int (0 : Int32)), (2, .int v0), (3, .int v1), (4, .int v2)] [] G U = qm_run pm_m big m_138 n0 39 [(0, .ref 8), (1, .int (0 : Int32)), (2, .int v0), (3, .int v1), (4, .int v2), (5, .ref 62)] [.int v0, .ref 62] G U := rfl
theorem sg_rd_9 (big : Nat → List Value → qM → qW → qR) (n0 : Nat) (G : qM) (U : qW) (v0 : Int32) (v1 : Int32) (v2 : Int32) (v3 : Int32) : qm_run pm_m big m_138 (n0 + 4) 42 [(0, .ref 8), (1, .int (0 : Int32)), (2, .int v0), (3, .int v1), (4, .int v2), (5, .ref 62)] [.int v3] G U = qm_run pm_m big m_138 n0 49 [(0, .ref 8), (1, .int (0 : Int32)), (2, .int v0), (3, .int v1), (4, .int v2), (5, .ref 62), (6, .int v3), (7, .int (0 : Int32))] [.int v3] G U := rfl
theorem sg_rd_10 (big : Nat → List Value → qM → qW → qR) (n0 : Nat) (G : qM) (U : qW) (v0 : Int32) (v1 : Int32) : qm_run pm_m big m_138 (n0 + 1) 0 [(0, .ref 8), (1, .int (0 : Int32)), (2, .int v0), (3, .int v1), (4, .int (0 : Int32))] [] G U = qm_run pm_m big m_138 n0 1 [(0, .ref 8), (1, .int (0 : Int32)), (2, .int v0), (3, .int v1), (4, .int (0 : Int32))] [.int (0 : Int32)] G U := rfl
theorem sg_rd_11 (big : Nat → List Value → qM → qW → qR) (n0 : Nat) (G : qM) (U : qW) (v0 : Int32) (v1 : Int32) : qm_run pm_m big m_138 (n0 + 2) 4 [(0, .ref 8), (1, .int (0 : Int32)), (2, .int v0), (3, .int v1), (4, .int (0 : Int32))] [.int (1 : Int32)] G U = qm_run pm_m big m_138 n0 8 [(0, .ref 8), (1, .int (0 : Int32)), (2, .int v0), (3, .int v1), (4, .int (0 : Int32))] [.int v0] G U := rfl
theorem sg_rd_12 (big : Nat → List Value → qM → qW → qR) (n0 : Nat) (G : qM) (U : qW) (v0 : Int32) (v1 : Int32) : qm_run pm_m big m_138 (n0 + 13) 11 [(0, .ref 8), (1, .int (0 : Int32)), (2, .int v0), (3, .int v1), (4, .int (0 : Int32))] [.int (1 : Int32)] G U = qm_run pm_m big m_138 n0 39 [(0, .ref 8), (1, .int (0 : Int32)), (2, .int v0), (3, .int v1), (4, .int (0 : Int32)), (5, .ref 62)] [.int v0, .ref 62] G U := rfl
theorem sg_rd_13 (big : Nat → List Value → qM → qW → qR) (n0 : Nat) (G : qM) (U : qW) (v0 : Int32) (v1 : Int32) (v2 : Int32) : qm_run pm_m big m_138 (n0 + 4) 42 [(0, .ref 8), (1, .int (0 : Int32)), (2, .int v0), (3, .int v1), (4, .int (0 : Int32)), (5, .ref 62)] [.int v2] G U = qm_run pm_m big m_138 n0 49 [(0, .ref 8), (1, .int (0 : Int32)), (2, .int v0), (3, .int v1), (4, .int (0 : Int32)), (5, .ref 62), (6, .int v2), (7, .int (0 : Int32))] [.int v2] G U := rfl
theorem sg_rd_14 (big : Nat → List Value → qM → qW → qR) (n0 : Nat) (G : qM) (U : qW) (v0 : Int32) (v1 : Int32) (v2 : Int32) (v3 : Int32) : qm_run pm_m big m_138 (n0 + 2) 52 [(0, .ref 8), (1, .int (0 : Int32)), (2, .int v0), (3, .int v1), (4, .int v2), (5, .ref 62), (6, .int v3), (7, .int (0 : Int32))] [] G U = qm_run pm_m big m_138 n0 56 [(0, .ref 8), (1, .int (0 : Int32)), (2, .int v0), (3, .int v1), (4, .int v2), (5, .ref 62), (6, .int v3), (7, .int (0 : Int32))] [.int v2, .int (0 : Int32)] G U := rfl
theorem sg_rd_15 (big : Nat → List Value → qM → qW → qR) (n0 : Nat) (G : qM) (U : qW) (v0 : Int32) (v1 : Int32) (v2 : Int32) (v3 : Int32) : qm_run pm_m big m_138 (n0 + 6) 59 [(0, .ref 8), (1, .int (0 : Int32)), (2, .int v0), (3, .int v1), (4, .int v2), (5, .ref 62), (6, .int v3), (7, .int (0 : Int32))] [] G U = qm_run pm_m big m_138 n0 67 [(0, .ref 8), (1, .int (0 : Int32)), (2, .int v0), (3, .int v1), (4, .int v2), (5, .ref 62), (6, .int v3), (7, .int (0 : Int32))] [.int (v1 + (0 : Int32)), .ref 62] G U := rfl
theorem sg_rd_16 (big : Nat → List Value → qM → qW → qR) (n0 : Nat) (G : qM) (U : qW) (v0 : Int32) (v1 : Int32) (v2 : Int32) (v3 : Int32) (v4 : Int32) : qm_run pm_m big m_138 (n0 + 2) 70 [(0, .ref 8), (1, .int (0 : Int32)), (2, .int v0), (3, .int v1), (4, .int v2), (5, .ref 62), (6, .int v3), (7, .int (0 : Int32))] [.int v4] G U = qm_run pm_m big m_138 n0 74 [(0, .ref 8), (1, .int (0 : Int32)), (2, .int v0), (3, .int v1), (4, .int v2), (5, .ref 62), (6, .int v4), (7, .int (0 : Int32))] [.int v4] G U := rfl
theorem sg_rd_17 (big : Nat → List Value → qM → qW → qR) (n0 : Nat) (G : qM) (U : qW) (v0 : Int32) (v1 : Int32) (v2 : Int32) (v3 : Int32) : qm_run pm_m big m_138 (n0 + 1) 47 [(0, .ref 8), (1, .int (0 : Int32)), (2, .int v0), (3, .int v1), (4, .int v2), (5, .ref 62), (6, .int v3), (7, .int (0 : Int32))] [] G U = qm_run pm_m big m_138 n0 49 [(0, .ref 8), (1, .int (0 : Int32)), (2, .int v0), (3, .int v1), (4, .int v2), (5, .ref 62), (6, .int v3), (7, .int (0 : Int32))] [.int v3] G U := rfl
theorem sg_rd_18 (big : Nat → List Value → qM → qW → qR) (n0 : Nat) (G : qM) (U : qW) (v0 : Int32) : qm_run pm_m big m_141 (n0 + 5) 0 [(0, .ref 8), (1, .ref 62), (2, .int v0)] [] G U = qm_run pm_m big m_141 n0 9 [(0, .ref 8), (1, .ref 62), (2, .int v0)] [.int v0, .ref 63, .ref 20] G U := rfl
theorem sg_rd_19 (big : Nat → List Value → qM → qW → qR) (n0 : Nat) (G : qM) (U : qW) (v0 : Int32) : qm_run pm_m big m_141 (n0 + 5) 16 [(0, .ref 8), (1, .ref 62), (2, .int v0)] [] G U = qm_run pm_m big m_141 n0 23 [(0, .ref 8), (1, .ref 62), (2, .int v0)] [.int (v0 + (1 : Int32)), .ref 63] G U := rfl
theorem sg_rd_20 (big : Nat → List Value → qM → qW → qR) (n0 : Nat) (G : qM) (U : qW) (v0 : Int32) (v1 : Int32) (v2 : Int32) (v3 : Int32) : qm_run pm_m big m_138 (n0 + 4) 47 [(0, .ref 8), (1, .int (0 : Int32)), (2, .int v0), (3, .int v1), (4, .int v2), (5, .ref 62), (6, .int (0 : Int32)), (7, .int v3)] [] G U = qm_run pm_m big m_138 n0 56 [(0, .ref 8), (1, .int (0 : Int32)), (2, .int v0), (3, .int v1), (4, .int v2), (5, .ref 62), (6, .int (0 : Int32)), (7, .int v3)] [.int v2, .int v3] G U := rfl
theorem sg_rd_21 (big : Nat → List Value → qM → qW → qR) (n0 : Nat) (G : qM) (U : qW) (v0 : Int32) (v1 : Int32) (v2 : Int32) (v3 : Int32) : qm_run pm_m big m_138 (n0 + 6) 59 [(0, .ref 8), (1, .int (0 : Int32)), (2, .int v0), (3, .int v1), (4, .int v2), (5, .ref 62), (6, .int (0 : Int32)), (7, .int v3)] [] G U = qm_run pm_m big m_138 n0 67 [(0, .ref 8), (1, .int (0 : Int32)), (2, .int v0), (3, .int v1), (4, .int v2), (5, .ref 62), (6, .int (0 : Int32)), (7, .int v3)] [.int (v1 + ((2 : Int32) * v3)), .ref 62] G U := rfl
theorem sg_rd_22 (big : Nat → List Value → qM → qW → qR) (n0 : Nat) (G : qM) (U : qW) (v0 : Int32) (v1 : Int32) (v2 : Int32) (v3 : Int32) : qm_run pm_m big m_138 (n0 + 3) 70 [(0, .ref 8), (1, .int (0 : Int32)), (2, .int v0), (3, .int v1), (4, .int v2), (5, .ref 62), (6, .int (0 : Int32)), (7, .int v3)] [.int (2 : Int32)] G U = qm_run pm_m big m_138 n0 47 [(0, .ref 8), (1, .int (0 : Int32)), (2, .int v0), (3, .int v1), (4, .int v2), (5, .ref 62), (6, .int (2 : Int32)), (7, .int v3)] [] G U := rfl
theorem sg_rd_23 (big : Nat → List Value → qM → qW → qR) (n0 : Nat) (G : qM) (U : qW) (v0 : Int32) (v1 : Int32) (v2 : Int32) (v3 : Int32) : qm_run pm_m big m_138 (n0 + 2) 47 [(0, .ref 8), (1, .int (0 : Int32)), (2, .int v0), (3, .int v1), (4, .int v2), (5, .ref 62), (6, .int (2 : Int32)), (7, .int v3)] [] G U = qm_run pm_m big m_138 n0 104 [(0, .ref 8), (1, .int (0 : Int32)), (2, .int v0), (3, .int v1), (4, .int v2), (5, .ref 62), (6, .int (2 : Int32)), (7, .int v3)] [] G U := rfl
theorem sg_rd_24 (big : Nat → List Value → qM → qW → qR) (n0 : Nat) (G : qM) (U : qW) (v0 : Int32) (v1 : Int32) (v2 : Int32) (v3 : Int32) : qm_run pm_m big m_138 (n0 + 10) 70 [(0, .ref 8), (1, .int (0 : Int32)), (2, .int v0), (3, .int v1), (4, .int v2), (5, .ref 62), (6, .int (0 : Int32)), (7, .int v3)] [.int (0 : Int32)] G U = qm_run pm_m big m_138 n0 86 [(0, .ref 8), (1, .int (0 : Int32)), (2, .int v0), (3, .int v1), (4, .int v2), (5, .ref 62), (6, .int (0 : Int32)), (7, .int v3)] [.int (v1 + ((2 : Int32) * v3)), .ref 62, .ref 8] G U := rfl
theorem sg_rd_25 (big : Nat → List Value → qM → qW → qR) (n0 : Nat) (G : qM) (U : qW) (v0 : Int32) (v1 : Int32) (v2 : Int32) (v3 : Int32) : qm_run pm_m big m_138 (n0 + 3) 89 [(0, .ref 8), (1, .int (0 : Int32)), (2, .int v0), (3, .int v1), (4, .int v2), (5, .ref 62), (6, .int (0 : Int32)), (7, .int v3)] [.int (1 : Int32)] G U = qm_run pm_m big m_138 n0 47 [(0, .ref 8), (1, .int (0 : Int32)), (2, .int v0), (3, .int v1), (4, .int v2), (5, .ref 62), (6, .int (0 : Int32)), (7, .int (v3 + (1 : Int32)))] [] G U := rfl
theorem sg_rd_26 (big : Nat → List Value → qM → qW → qR) (n0 : Nat) (G : qM) (U : qW) (v0 : Int32) (v1 : Int32) (v2 : Int32) (v3 : Int32) (v4 : Int32) (v5 : Int32) : qm_run pm_m big m_138 (n0 + 2) 107 [(0, .ref 8), (1, .int (0 : Int32)), (2, .int v0), (3, .int v1), (4, .int v2), (5, .ref 62), (6, .int v3), (7, .int v4), (8, .int v5)] [] G U = qm_run pm_m big m_138 n0 111 [(0, .ref 8), (1, .int (0 : Int32)), (2, .int v0), (3, .int v1), (4, .int v2), (5, .ref 62), (6, .int v3), (7, .int v4), (8, .int v5)] [.int v4, .int v5] G U := rfl
theorem sg_rd_27 (big : Nat → List Value → qM → qW → qR) (n0 : Nat) (G : qM) (U : qW) (v0 : Int32) (v1 : Int32) (v2 : Int32) (v3 : Int32) (v4 : Int32) (v5 : Int32) : qm_run pm_m big m_138 (n0 + 10) 114 [(0, .ref 8), (1, .int (0 : Int32)), (2, .int v0), (3, .int v1), (4, .int v2), (5, .ref 62), (6, .int v3), (7, .int v4), (8, .int v5)] [] G U = qm_run pm_m big m_138 n0 132 [(0, .ref 8), (1, .int (0 : Int32)), (2, .int v0), (3, .int v1), (4, .int v2), (5, .ref 62), (6, .int v3), (7, .int v4), (8, .int v5)] [.int (v1 + ((2 : Int32) * v5)), .ref 63, .ref 22] G U := rfl
theorem sg_rd_28 (big : Nat → List Value → qM → qW → qR) (n0 : Nat) (G : qM) (U : qW) (v0 : Int32) (v1 : Int32) (v2 : Int32) (v3 : Int32) (v4 : Int32) (v5 : Int32) (v6 : Int32) : qm_run pm_m big m_138 (n0 + 9) 133 [(0, .ref 8), (1, .int (0 : Int32)), (2, .int v0), (3, .int v1), (4, .int v2), (5, .ref 62), (6, .int v3), (7, .int v4), (8, .int v5)] [.int v6, .ref 22] G U = qm_run pm_m big m_138 n0 146 [(0, .ref 8), (1, .int (0 : Int32)), (2, .int v0), (3, .int v1), (4, .int v2), (5, .ref 62), (6, .int v3), (7, .int v4), (8, .int v5)] [.int ((v1 + ((2 : Int32) * v5)) + (1 : Int32)), .ref 63, .int v6, .ref 22] G U := rfl
theorem sg_rd_29 (big : Nat → List Value → qM → qW → qR) (n0 : Nat) (G : qM) (U : qW) (v0 : Int32) (v1 : Int32) (v2 : Int32) (v3 : Int32) (v4 : Int32) (v5 : Int32) : qm_run pm_m big m_138 (n0 + 2) 148 [(0, .ref 8), (1, .int (0 : Int32)), (2, .int v0), (3, .int v1), (4, .int v2), (5, .ref 62), (6, .int v3), (7, .int v4), (8, .int v5)] [] G U = qm_run pm_m big m_138 n0 107 [(0, .ref 8), (1, .int (0 : Int32)), (2, .int v0), (3, .int v1), (4, .int v2), (5, .ref 62), (6, .int v3), (7, .int v4), (8, .int (v5 + (1 : Int32)))] [] G U := rfl
theorem sg_rd_30 (big : Nat → List Value → qM → qW → qR) (n0 : Nat) (G : qM) (U : qW) (v0 : Int32) (v1 : Int32) (v2 : Int32) : qm_run pm_m big m_138 (n0 + 3) 42 [(0, .ref 8), (1, .int (0 : Int32)), (2, .int v0), (3, .int v1), (4, .int v2), (5, .ref 62)] [.int (0 : Int32)] G U = qm_run pm_m big m_138 n0 47 [(0, .ref 8), (1, .int (0 : Int32)), (2, .int v0), (3, .int v1), (4, .int v2), (5, .ref 62), (6, .int (0 : Int32)), (7, .int (0 : Int32))] [] G U := rfl
theorem sg_rd_31 (big : Nat → List Value → qM → qW → qR) (n0 : Nat) (G : qM) (U : qW) (v0 : Int32) (v1 : Int32) (v2 : Int32) (v3 : Int32) (v4 : Int32) : qm_run pm_m big m_138 (n0 + 2) 104 [(0, .ref 8), (1, .int (0 : Int32)), (2, .int v0), (3, .int v1), (4, .int v2), (5, .ref 62), (6, .int v3), (7, .int v4)] [] G U = qm_run pm_m big m_138 n0 107 [(0, .ref 8), (1, .int (0 : Int32)), (2, .int v0), (3, .int v1), (4, .int v2), (5, .ref 62), (6, .int v3), (7, .int v4), (8, .int (0 : Int32))] [] G U := rfl
theorem sg_rd_32 (big : Nat → List Value → qM → qW → qR) (n0 : Nat) (G : qM) (U : qW) (v0 : Int32) : qm_run pm_m big m_140 (n0 + 2) 0 [(0, .ref 64), (1, .int v0)] [] G U = qm_run pm_m big m_140 n0 2 [(0, .ref 64), (1, .int v0)] [.int v0, .ref 64] G U := rfl
theorem sg_rd_33 (big : Nat → List Value → qM → qW → qR) (n0 : Nat) (G : qM) (U : qW) (v0 : Int32) (v1 : Int32) : qm_run pm_m big m_140 (n0 + 2) 5 [(0, .ref 64), (1, .int v0)] [.int v1] G U = qm_run pm_m big m_140 n0 7 [(0, .ref 64), (1, .int v0), (2, .int v1)] [.int v1] G U := rfl
theorem sg_rd_34 (big : Nat → List Value → qM → qW → qR) (n0 : Nat) (G : qM) (U : qW) (v0 : Int32) (v1 : Int32) : qm_run pm_m big m_140 (n0 + 4) 14 [(0, .ref 64), (1, .int v0), (2, .int v1)] [] G U = qm_run pm_m big m_140 n0 18 [(0, .ref 64), (1, .int v0), (2, .int v1)] [.int (v0 + (1 : Int32)), .ref 64] G U := rfl
theorem sg_rd_35 (big : Nat → List Value → qM → qW → qR) (n0 : Nat) (G : qM) (U : qW) (v0 : Int32) (v1 : Int32) (v2 : Int32) : qm_run pm_m big m_138 (n0 + 1) 0 [(0, .ref 8), (1, .int (1 : Int32)), (2, .int v0), (3, .int v1), (4, .int v2)] [] G U = qm_run pm_m big m_138 n0 1 [(0, .ref 8), (1, .int (1 : Int32)), (2, .int v0), (3, .int v1), (4, .int v2)] [.int (1 : Int32)] G U := rfl
theorem sg_rd_36 (big : Nat → List Value → qM → qW → qR) (n0 : Nat) (G : qM) (U : qW) (v0 : Int32) (v1 : Int32) (v2 : Int32) : qm_run pm_m big m_138 (n0 + 2) 4 [(0, .ref 8), (1, .int (1 : Int32)), (2, .int v0), (3, .int v1), (4, .int v2)] [.int (1 : Int32)] G U = qm_run pm_m big m_138 n0 8 [(0, .ref 8), (1, .int (1 : Int32)), (2, .int v0), (3, .int v1), (4, .int v2)] [.int v0] G U := rfl
theorem sg_rd_37 (big : Nat → List Value → qM → qW → qR) (n0 : Nat) (G : qM) (U : qW) (v0 : Int32) (v1 : Int32) (v2 : Int32) : qm_run pm_m big m_138 (n0 + 2) 11 [(0, .ref 8), (1, .int (1 : Int32)), (2, .int v0), (3, .int v1), (4, .int v2)] [.int (1 : Int32)] G U = qm_run pm_m big m_138 n0 16 [(0, .ref 8), (1, .int (1 : Int32)), (2, .int v0), (3, .int v1), (4, .int v2)] [.int v2] G U := rfl
theorem sg_rd_38 (big : Nat → List Value → qM → qW → qR) (n0 : Nat) (G : qM) (U : qW) (v0 : Int32) (v1 : Int32) (v2 : Int32) : qm_run pm_m big m_138 (n0 + 2) 19 [(0, .ref 8), (1, .int (1 : Int32)), (2, .int v0), (3, .int v1), (4, .int v2)] [] G U = qm_run pm_m big m_138 n0 23 [(0, .ref 8), (1, .int (1 : Int32)), (2, .int v0), (3, .int v1), (4, .int v2)] [.int (20 : Int32), .int v2] G U := rfl
theorem sg_rd_39 (big : Nat → List Value → qM → qW → qR) (n0 : Nat) (G : qM) (U : qW) (v0 : Int32) (v1 : Int32) (v2 : Int32) : qm_run pm_m big m_138 (n0 + 7) 28 [(0, .ref 8), (1, .int (1 : Int32)), (2, .int v0), (3, .int v1), (4, .int v2)] [] G U = qm_run pm_m big m_138 n0 39 [(0, .ref 8), (1, .int (1 : Int32)), (2, .int v0), (3, .int v1), (4, .int v2), (5, .ref 64)] [.int v0, .ref 64] G U := rfl
theorem sg_rd_40 (big : Nat → List Value → qM → qW → qR) (n0 : Nat) (G : qM) (U : qW) (v0 : Int32) (v1 : Int32) (v2 : Int32) (v3 : Int32) : qm_run pm_m big m_138 (n0 + 4) 42 [(0, .ref 8), (1, .int (1 : Int32)), (2, .int v0), (3, .int v1), (4, .int v2), (5, .ref 64)] [.int v3] G U = qm_run pm_m big m_138 n0 49 [(0, .ref 8), (1, .int (1 : Int32)), (2, .int v0), (3, .int v1), (4, .int v2), (5, .ref 64), (6, .int v3), (7, .int (0 : Int32))] [.int v3] G U := rfl
theorem sg_rd_41 (big : Nat → List Value → qM → qW → qR) (n0 : Nat) (G : qM) (U : qW) (v0 : Int32) (v1 : Int32) : qm_run pm_m big m_138 (n0 + 1) 0 [(0, .ref 8), (1, .int (1 : Int32)), (2, .int v0), (3, .int v1), (4, .int (0 : Int32))] [] G U = qm_run pm_m big m_138 n0 1 [(0, .ref 8), (1, .int (1 : Int32)), (2, .int v0), (3, .int v1), (4, .int (0 : Int32))] [.int (1 : Int32)] G U := rfl
theorem sg_rd_42 (big : Nat → List Value → qM → qW → qR) (n0 : Nat) (G : qM) (U : qW) (v0 : Int32) (v1 : Int32) : qm_run pm_m big m_138 (n0 + 2) 4 [(0, .ref 8), (1, .int (1 : Int32)), (2, .int v0), (3, .int v1), (4, .int (0 : Int32))] [.int (1 : Int32)] G U = qm_run pm_m big m_138 n0 8 [(0, .ref 8), (1, .int (1 : Int32)), (2, .int v0), (3, .int v1), (4, .int (0 : Int32))] [.int v0] G U := rfl
theorem sg_rd_43 (big : Nat → List Value → qM → qW → qR) (n0 : Nat) (G : qM) (U : qW) (v0 : Int32) (v1 : Int32) : qm_run pm_m big m_138 (n0 + 13) 11 [(0, .ref 8), (1, .int (1 : Int32)), (2, .int v0), (3, .int v1), (4, .int (0 : Int32))] [.int (1 : Int32)] G U = qm_run pm_m big m_138 n0 39 [(0, .ref 8), (1, .int (1 : Int32)), (2, .int v0), (3, .int v1), (4, .int (0 : Int32)), (5, .ref 64)] [.int v0, .ref 64] G U := rfl
theorem sg_rd_44 (big : Nat → List Value → qM → qW → qR) (n0 : Nat) (G : qM) (U : qW) (v0 : Int32) (v1 : Int32) (v2 : Int32) : qm_run pm_m big m_138 (n0 + 4) 42 [(0, .ref 8), (1, .int (1 : Int32)), (2, .int v0), (3, .int v1), (4, .int (0 : Int32)), (5, .ref 64)] [.int v2] G U = qm_run pm_m big m_138 n0 49 [(0, .ref 8), (1, .int (1 : Int32)), (2, .int v0), (3, .int v1), (4, .int (0 : Int32)), (5, .ref 64), (6, .int v2), (7, .int (0 : Int32))] [.int v2] G U := rfl
theorem sg_rd_45 (big : Nat → List Value → qM → qW → qR) (n0 : Nat) (G : qM) (U : qW) (v0 : Int32) (v1 : Int32) (v2 : Int32) (v3 : Int32) : qm_run pm_m big m_138 (n0 + 2) 52 [(0, .ref 8), (1, .int (1 : Int32)), (2, .int v0), (3, .int v1), (4, .int v2), (5, .ref 64), (6, .int v3), (7, .int (0 : Int32))] [] G U = qm_run pm_m big m_138 n0 56 [(0, .ref 8), (1, .int (1 : Int32)), (2, .int v0), (3, .int v1), (4, .int v2), (5, .ref 64), (6, .int v3), (7, .int (0 : Int32))] [.int v2, .int (0 : Int32)] G U := rfl
theorem sg_rd_46 (big : Nat → List Value → qM → qW → qR) (n0 : Nat) (G : qM) (U : qW) (v0 : Int32) (v1 : Int32) (v2 : Int32) (v3 : Int32) : qm_run pm_m big m_138 (n0 + 6) 59 [(0, .ref 8), (1, .int (1 : Int32)), (2, .int v0), (3, .int v1), (4, .int v2), (5, .ref 64), (6, .int v3), (7, .int (0 : Int32))] [] G U = qm_run pm_m big m_138 n0 67 [(0, .ref 8), (1, .int (1 : Int32)), (2, .int v0), (3, .int v1), (4, .int v2), (5, .ref 64), (6, .int v3), (7, .int (0 : Int32))] [.int (v1 + (0 : Int32)), .ref 64] G U := rfl
theorem sg_rd_47 (big : Nat → List Value → qM → qW → qR) (n0 : Nat) (G : qM) (U : qW) (v0 : Int32) (v1 : Int32) (v2 : Int32) (v3 : Int32) (v4 : Int32) : qm_run pm_m big m_138 (n0 + 2) 70 [(0, .ref 8), (1, .int (1 : Int32)), (2, .int v0), (3, .int v1), (4, .int v2), (5, .ref 64), (6, .int v3), (7, .int (0 : Int32))] [.int v4] G U = qm_run pm_m big m_138 n0 74 [(0, .ref 8), (1, .int (1 : Int32)), (2, .int v0), (3, .int v1), (4, .int v2), (5, .ref 64), (6, .int v4), (7, .int (0 : Int32))] [.int v4] G U := rfl
theorem sg_rd_48 (big : Nat → List Value → qM → qW → qR) (n0 : Nat) (G : qM) (U : qW) (v0 : Int32) (v1 : Int32) (v2 : Int32) (v3 : Int32) : qm_run pm_m big m_138 (n0 + 1) 47 [(0, .ref 8), (1, .int (1 : Int32)), (2, .int v0), (3, .int v1), (4, .int v2), (5, .ref 64), (6, .int v3), (7, .int (0 : Int32))] [] G U = qm_run pm_m big m_138 n0 49 [(0, .ref 8), (1, .int (1 : Int32)), (2, .int v0), (3, .int v1), (4, .int v2), (5, .ref 64), (6, .int v3), (7, .int (0 : Int32))] [.int v3] G U := rfl
theorem sg_rd_49 (big : Nat → List Value → qM → qW → qR) (n0 : Nat) (G : qM) (U : qW) (v0 : Int32) : qm_run pm_m big m_141 (n0 + 5) 0 [(0, .ref 8), (1, .ref 64), (2, .int v0)] [] G U = qm_run pm_m big m_141 n0 9 [(0, .ref 8), (1, .ref 64), (2, .int v0)] [.int v0, .ref 65, .ref 20] G U := rfl
theorem sg_rd_50 (big : Nat → List Value → qM → qW → qR) (n0 : Nat) (G : qM) (U : qW) (v0 : Int32) : qm_run pm_m big m_141 (n0 + 5) 16 [(0, .ref 8), (1, .ref 64), (2, .int v0)] [] G U = qm_run pm_m big m_141 n0 23 [(0, .ref 8), (1, .ref 64), (2, .int v0)] [.int (v0 + (1 : Int32)), .ref 65] G U := rfl
theorem sg_rd_51 (big : Nat → List Value → qM → qW → qR) (n0 : Nat) (G : qM) (U : qW) (v0 : Int32) (v1 : Int32) (v2 : Int32) (v3 : Int32) : qm_run pm_m big m_138 (n0 + 4) 47 [(0, .ref 8), (1, .int (1 : Int32)), (2, .int v0), (3, .int v1), (4, .int v2), (5, .ref 64), (6, .int (0 : Int32)), (7, .int v3)] [] G U = qm_run pm_m big m_138 n0 56 [(0, .ref 8), (1, .int (1 : Int32)), (2, .int v0), (3, .int v1), (4, .int v2), (5, .ref 64), (6, .int (0 : Int32)), (7, .int v3)] [.int v2, .int v3] G U := rfl
theorem sg_rd_52 (big : Nat → List Value → qM → qW → qR) (n0 : Nat) (G : qM) (U : qW) (v0 : Int32) (v1 : Int32) (v2 : Int32) (v3 : Int32) : qm_run pm_m big m_138 (n0 + 6) 59 [(0, .ref 8), (1, .int (1 : Int32)), (2, .int v0), (3, .int v1), (4, .int v2), (5, .ref 64), (6, .int (0 : Int32)), (7, .int v3)] [] G U = qm_run pm_m big m_138 n0 67 [(0, .ref 8), (1, .int (1 : Int32)), (2, .int v0), (3, .int v1), (4, .int v2), (5, .ref 64), (6, .int (0 : Int32)), (7, .int v3)] [.int (v1 + ((2 : Int32) * v3)), .ref 64] G U := rfl
theorem sg_rd_53 (big : Nat → List Value → qM → qW → qR) (n0 : Nat) (G : qM) (U : qW) (v0 : Int32) (v1 : Int32) (v2 : Int32) (v3 : Int32) : qm_run pm_m big m_138 (n0 + 3) 70 [(0, .ref 8), (1, .int (1 : Int32)), (2, .int v0), (3, .int v1), (4, .int v2), (5, .ref 64), (6, .int (0 : Int32)), (7, .int v3)] [.int (2 : Int32)] G U = qm_run pm_m big m_138 n0 47 [(0, .ref 8), (1, .int (1 : Int32)), (2, .int v0), (3, .int v1), (4, .int v2), (5, .ref 64), (6, .int (2 : Int32)), (7, .int v3)] [] G U := rfl
theorem sg_rd_54 (big : Nat → List Value → qM → qW → qR) (n0 : Nat) (G : qM) (U : qW) (v0 : Int32) (v1 : Int32) (v2 : Int32) (v3 : Int32) : qm_run pm_m big m_138 (n0 + 2) 47 [(0, .ref 8), (1, .int (1 : Int32)), (2, .int v0), (3, .int v1), (4, .int v2), (5, .ref 64), (6, .int (2 : Int32)), (7, .int v3)] [] G U = qm_run pm_m big m_138 n0 104 [(0, .ref 8), (1, .int (1 : Int32)), (2, .int v0), (3, .int v1), (4, .int v2), (5, .ref 64), (6, .int (2 : Int32)), (7, .int v3)] [] G U := rfl
theorem sg_rd_55 (big : Nat → List Value → qM → qW → qR) (n0 : Nat) (G : qM) (U : qW) (v0 : Int32) (v1 : Int32) (v2 : Int32) (v3 : Int32) : qm_run pm_m big m_138 (n0 + 10) 70 [(0, .ref 8), (1, .int (1 : Int32)), (2, .int v0), (3, .int v1), (4, .int v2), (5, .ref 64), (6, .int (0 : Int32)), (7, .int v3)] [.int (0 : Int32)] G U = qm_run pm_m big m_138 n0 86 [(0, .ref 8), (1, .int (1 : Int32)), (2, .int v0), (3, .int v1), (4, .int v2), (5, .ref 64), (6, .int (0 : Int32)), (7, .int v3)] [.int (v1 + ((2 : Int32) * v3)), .ref 64, .ref 8] G U := rfl
theorem sg_rd_56 (big : Nat → List Value → qM → qW → qR) (n0 : Nat) (G : qM) (U : qW) (v0 : Int32) (v1 : Int32) (v2 : Int32) (v3 : Int32) : qm_run pm_m big m_138 (n0 + 3) 89 [(0, .ref 8), (1, .int (1 : Int32)), (2, .int v0), (3, .int v1), (4, .int v2), (5, .ref 64), (6, .int (0 : Int32)), (7, .int v3)] [.int (1 : Int32)] G U = qm_run pm_m big m_138 n0 47 [(0, .ref 8), (1, .int (1 : Int32)), (2, .int v0), (3, .int v1), (4, .int v2), (5, .ref 64), (6, .int (0 : Int32)), (7, .int (v3 + (1 : Int32)))] [] G U := rfl
theorem sg_rd_57 (big : Nat → List Value → qM → qW → qR) (n0 : Nat) (G : qM) (U : qW) (v0 : Int32) (v1 : Int32) (v2 : Int32) (v3 : Int32) (v4 : Int32) (v5 : Int32) : qm_run pm_m big m_138 (n0 + 2) 107 [(0, .ref 8), (1, .int (1 : Int32)), (2, .int v0), (3, .int v1), (4, .int v2), (5, .ref 64), (6, .int v3), (7, .int v4), (8, .int v5)] [] G U = qm_run pm_m big m_138 n0 111 [(0, .ref 8), (1, .int (1 : Int32)), (2, .int v0), (3, .int v1), (4, .int v2), (5, .ref 64), (6, .int v3), (7, .int v4), (8, .int v5)] [.int v4, .int v5] G U := rfl
theorem sg_rd_58 (big : Nat → List Value → qM → qW → qR) (n0 : Nat) (G : qM) (U : qW) (v0 : Int32) (v1 : Int32) (v2 : Int32) (v3 : Int32) (v4 : Int32) (v5 : Int32) : qm_run pm_m big m_138 (n0 + 10) 114 [(0, .ref 8), (1, .int (1 : Int32)), (2, .int v0), (3, .int v1), (4, .int v2), (5, .ref 64), (6, .int v3), (7, .int v4), (8, .int v5)] [] G U = qm_run pm_m big m_138 n0 132 [(0, .ref 8), (1, .int (1 : Int32)), (2, .int v0), (3, .int v1), (4, .int v2), (5, .ref 64), (6, .int v3), (7, .int v4), (8, .int v5)] [.int (v1 + ((2 : Int32) * v5)), .ref 65, .ref 22] G U := rfl
theorem sg_rd_59 (big : Nat → List Value → qM → qW → qR) (n0 : Nat) (G : qM) (U : qW) (v0 : Int32) (v1 : Int32) (v2 : Int32) (v3 : Int32) (v4 : Int32) (v5 : Int32) (v6 : Int32) : qm_run pm_m big m_138 (n0 + 9) 133 [(0, .ref 8), (1, .int (1 : Int32)), (2, .int v0), (3, .int v1), (4, .int v2), (5, .ref 64), (6, .int v3), (7, .int v4), (8, .int v5)] [.int v6, .ref 22] G U = qm_run pm_m big m_138 n0 146 [(0, .ref 8), (1, .int (1 : Int32)), (2, .int v0), (3, .int v1), (4, .int v2), (5, .ref 64), (6, .int v3), (7, .int v4), (8, .int v5)] [.int ((v1 + ((2 : Int32) * v5)) + (1 : Int32)), .ref 65, .int v6, .ref 22] G U := rfl
theorem sg_rd_60 (big : Nat → List Value → qM → qW → qR) (n0 : Nat) (G : qM) (U : qW) (v0 : Int32) (v1 : Int32) (v2 : Int32) (v3 : Int32) (v4 : Int32) (v5 : Int32) : qm_run pm_m big m_138 (n0 + 2) 148 [(0, .ref 8), (1, .int (1 : Int32)), (2, .int v0), (3, .int v1), (4, .int v2), (5, .ref 64), (6, .int v3), (7, .int v4), (8, .int v5)] [] G U = qm_run pm_m big m_138 n0 107 [(0, .ref 8), (1, .int (1 : Int32)), (2, .int v0), (3, .int v1), (4, .int v2), (5, .ref 64), (6, .int v3), (7, .int v4), (8, .int (v5 + (1 : Int32)))] [] G U := rfl
theorem sg_rd_61 (big : Nat → List Value → qM → qW → qR) (n0 : Nat) (G : qM) (U : qW) (v0 : Int32) (v1 : Int32) (v2 : Int32) : qm_run pm_m big m_138 (n0 + 3) 42 [(0, .ref 8), (1, .int (1 : Int32)), (2, .int v0), (3, .int v1), (4, .int v2), (5, .ref 64)] [.int (0 : Int32)] G U = qm_run pm_m big m_138 n0 47 [(0, .ref 8), (1, .int (1 : Int32)), (2, .int v0), (3, .int v1), (4, .int v2), (5, .ref 64), (6, .int (0 : Int32)), (7, .int (0 : Int32))] [] G U := rfl
theorem sg_rd_62 (big : Nat → List Value → qM → qW → qR) (n0 : Nat) (G : qM) (U : qW) (v0 : Int32) (v1 : Int32) (v2 : Int32) (v3 : Int32) (v4 : Int32) : qm_run pm_m big m_138 (n0 + 2) 104 [(0, .ref 8), (1, .int (1 : Int32)), (2, .int v0), (3, .int v1), (4, .int v2), (5, .ref 64), (6, .int v3), (7, .int v4)] [] G U = qm_run pm_m big m_138 n0 107 [(0, .ref 8), (1, .int (1 : Int32)), (2, .int v0), (3, .int v1), (4, .int v2), (5, .ref 64), (6, .int v3), (7, .int v4), (8, .int (0 : Int32))] [] G U := rfl
theorem sg_rd_63 (big : Nat → List Value → qM → qW → qR) (n0 : Nat) (G : qM) (U : qW) (v0 : Int32) : qm_run pm_m big m_140 (n0 + 2) 0 [(0, .ref 66), (1, .int v0)] [] G U = qm_run pm_m big m_140 n0 2 [(0, .ref 66), (1, .int v0)] [.int v0, .ref 66] G U := rfl
theorem sg_rd_64 (big : Nat → List Value → qM → qW → qR) (n0 : Nat) (G : qM) (U : qW) (v0 : Int32) (v1 : Int32) : qm_run pm_m big m_140 (n0 + 2) 5 [(0, .ref 66), (1, .int v0)] [.int v1] G U = qm_run pm_m big m_140 n0 7 [(0, .ref 66), (1, .int v0), (2, .int v1)] [.int v1] G U := rfl
theorem sg_rd_65 (big : Nat → List Value → qM → qW → qR) (n0 : Nat) (G : qM) (U : qW) (v0 : Int32) (v1 : Int32) : qm_run pm_m big m_140 (n0 + 4) 14 [(0, .ref 66), (1, .int v0), (2, .int v1)] [] G U = qm_run pm_m big m_140 n0 18 [(0, .ref 66), (1, .int v0), (2, .int v1)] [.int (v0 + (1 : Int32)), .ref 66] G U := rfl
theorem sg_rd_66 (big : Nat → List Value → qM → qW → qR) (n0 : Nat) (G : qM) (U : qW) (v0 : Int32) (v1 : Int32) (v2 : Int32) : qm_run pm_m big m_138 (n0 + 1) 0 [(0, .ref 8), (1, .int (2 : Int32)), (2, .int v0), (3, .int v1), (4, .int v2)] [] G U = qm_run pm_m big m_138 n0 1 [(0, .ref 8), (1, .int (2 : Int32)), (2, .int v0), (3, .int v1), (4, .int v2)] [.int (2 : Int32)] G U := rfl
theorem sg_rd_67 (big : Nat → List Value → qM → qW → qR) (n0 : Nat) (G : qM) (U : qW) (v0 : Int32) (v1 : Int32) (v2 : Int32) : qm_run pm_m big m_138 (n0 + 2) 4 [(0, .ref 8), (1, .int (2 : Int32)), (2, .int v0), (3, .int v1), (4, .int v2)] [.int (1 : Int32)] G U = qm_run pm_m big m_138 n0 8 [(0, .ref 8), (1, .int (2 : Int32)), (2, .int v0), (3, .int v1), (4, .int v2)] [.int v0] G U := rfl
theorem sg_rd_68 (big : Nat → List Value → qM → qW → qR) (n0 : Nat) (G : qM) (U : qW) (v0 : Int32) (v1 : Int32) (v2 : Int32) : qm_run pm_m big m_138 (n0 + 2) 11 [(0, .ref 8), (1, .int (2 : Int32)), (2, .int v0), (3, .int v1), (4, .int v2)] [.int (1 : Int32)] G U = qm_run pm_m big m_138 n0 16 [(0, .ref 8), (1, .int (2 : Int32)), (2, .int v0), (3, .int v1), (4, .int v2)] [.int v2] G U := rfl
theorem sg_rd_69 (big : Nat → List Value → qM → qW → qR) (n0 : Nat) (G : qM) (U : qW) (v0 : Int32) (v1 : Int32) (v2 : Int32) : qm_run pm_m big m_138 (n0 + 2) 19 [(0, .ref 8), (1, .int (2 : Int32)), (2, .int v0), (3, .int v1), (4, .int v2)] [] G U = qm_run pm_m big m_138 n0 23 [(0, .ref 8), (1, .int (2 : Int32)), (2, .int v0), (3, .int v1), (4, .int v2)] [.int (20 : Int32), .int v2] G U := rfl
theorem sg_rd_70 (big : Nat → List Value → qM → qW → qR) (n0 : Nat) (G : qM) (U : qW) (v0 : Int32) (v1 : Int32) (v2 : Int32) : qm_run pm_m big m_138 (n0 + 7) 28 [(0, .ref 8), (1, .int (2 : Int32)), (2, .int v0), (3, .int v1), (4, .int v2)] [] G U = qm_run pm_m big m_138 n0 39 [(0, .ref 8), (1, .int (2 : Int32)), (2, .int v0), (3, .int v1), (4, .int v2), (5, .ref 66)] [.int v0, .ref 66] G U := rfl
theorem sg_rd_71 (big : Nat → List Value → qM → qW → qR) (n0 : Nat) (G : qM) (U : qW) (v0 : Int32) (v1 : Int32) (v2 : Int32) (v3 : Int32) : qm_run pm_m big m_138 (n0 + 4) 42 [(0, .ref 8), (1, .int (2 : Int32)), (2, .int v0), (3, .int v1), (4, .int v2), (5, .ref 66)] [.int v3] G U = qm_run pm_m big m_138 n0 49 [(0, .ref 8), (1, .int (2 : Int32)), (2, .int v0), (3, .int v1), (4, .int v2), (5, .ref 66), (6, .int v3), (7, .int (0 : Int32))] [.int v3] G U := rfl
theorem sg_rd_72 (big : Nat → List Value → qM → qW → qR) (n0 : Nat) (G : qM) (U : qW) (v0 : Int32) (v1 : Int32) : qm_run pm_m big m_138 (n0 + 1) 0 [(0, .ref 8), (1, .int (2 : Int32)), (2, .int v0), (3, .int v1), (4, .int (0 : Int32))] [] G U = qm_run pm_m big m_138 n0 1 [(0, .ref 8), (1, .int (2 : Int32)), (2, .int v0), (3, .int v1), (4, .int (0 : Int32))] [.int (2 : Int32)] G U := rfl
theorem sg_rd_73 (big : Nat → List Value → qM → qW → qR) (n0 : Nat) (G : qM) (U : qW) (v0 : Int32) (v1 : Int32) : qm_run pm_m big m_138 (n0 + 2) 4 [(0, .ref 8), (1, .int (2 : Int32)), (2, .int v0), (3, .int v1), (4, .int (0 : Int32))] [.int (1 : Int32)] G U = qm_run pm_m big m_138 n0 8 [(0, .ref 8), (1, .int (2 : Int32)), (2, .int v0), (3, .int v1), (4, .int (0 : Int32))] [.int v0] G U := rfl
theorem sg_rd_74 (big : Nat → List Value → qM → qW → qR) (n0 : Nat) (G : qM) (U : qW) (v0 : Int32) (v1 : Int32) : qm_run pm_m big m_138 (n0 + 13) 11 [(0, .ref 8), (1, .int (2 : Int32)), (2, .int v0), (3, .int v1), (4, .int (0 : Int32))] [.int (1 : Int32)] G U = qm_run pm_m big m_138 n0 39 [(0, .ref 8), (1, .int (2 : Int32)), (2, .int v0), (3, .int v1), (4, .int (0 : Int32)), (5, .ref 66)] [.int v0, .ref 66] G U := rfl
theorem sg_rd_75 (big : Nat → List Value → qM → qW → qR) (n0 : Nat) (G : qM) (U : qW) (v0 : Int32) (v1 : Int32) (v2 : Int32) : qm_run pm_m big m_138 (n0 + 4) 42 [(0, .ref 8), (1, .int (2 : Int32)), (2, .int v0), (3, .int v1), (4, .int (0 : Int32)), (5, .ref 66)] [.int v2] G U = qm_run pm_m big m_138 n0 49 [(0, .ref 8), (1, .int (2 : Int32)), (2, .int v0), (3, .int v1), (4, .int (0 : Int32)), (5, .ref 66), (6, .int v2), (7, .int (0 : Int32))] [.int v2] G U := rfl
theorem sg_rd_76 (big : Nat → List Value → qM → qW → qR) (n0 : Nat) (G : qM) (U : qW) (v0 : Int32) (v1 : Int32) (v2 : Int32) (v3 : Int32) : qm_run pm_m big m_138 (n0 + 2) 52 [(0, .ref 8), (1, .int (2 : Int32)), (2, .int v0), (3, .int v1), (4, .int v2), (5, .ref 66), (6, .int v3), (7, .int (0 : Int32))] [] G U = qm_run pm_m big m_138 n0 56 [(0, .ref 8), (1, .int (2 : Int32)), (2, .int v0), (3, .int v1), (4, .int v2), (5, .ref 66), (6, .int v3), (7, .int (0 : Int32))] [.int v2, .int (0 : Int32)] G U := rfl
theorem sg_rd_77 (big : Nat → List Value → qM → qW → qR) (n0 : Nat) (G : qM) (U : qW) (v0 : Int32) (v1 : Int32) (v2 : Int32) (v3 : Int32) : qm_run pm_m big m_138 (n0 + 6) 59 [(0, .ref 8), (1, .int (2 : Int32)), (2, .int v0), (3, .int v1), (4, .int v2), (5, .ref 66), (6, .int v3), (7, .int (0 : Int32))] [] G U = qm_run pm_m big m_138 n0 67 [(0, .ref 8), (1, .int (2 : Int32)), (2, .int v0), (3, .int v1), (4, .int v2), (5, .ref 66), (6, .int v3), (7, .int (0 : Int32))] [.int (v1 + (0 : Int32)), .ref 66] G U := rfl
theorem sg_rd_78 (big : Nat → List Value → qM → qW → qR) (n0 : Nat) (G : qM) (U : qW) (v0 : Int32) (v1 : Int32) (v2 : Int32) (v3 : Int32) (v4 : Int32) : qm_run pm_m big m_138 (n0 + 2) 70 [(0, .ref 8), (1, .int (2 : Int32)), (2, .int v0), (3, .int v1), (4, .int v2), (5, .ref 66), (6, .int v3), (7, .int (0 : Int32))] [.int v4] G U = qm_run pm_m big m_138 n0 74 [(0, .ref 8), (1, .int (2 : Int32)), (2, .int v0), (3, .int v1), (4, .int v2), (5, .ref 66), (6, .int v4), (7, .int (0 : Int32))] [.int v4] G U := rfl
theorem sg_rd_79 (big : Nat → List Value → qM → qW → qR) (n0 : Nat) (G : qM) (U : qW) (v0 : Int32) (v1 : Int32) (v2 : Int32) (v3 : Int32) : qm_run pm_m big m_138 (n0 + 1) 47 [(0, .ref 8), (1, .int (2 : Int32)), (2, .int v0), (3, .int v1), (4, .int v2), (5, .ref 66), (6, .int v3), (7, .int (0 : Int32))] [] G U = qm_run pm_m big m_138 n0 49 [(0, .ref 8), (1, .int (2 : Int32)), (2, .int v0), (3, .int v1), (4, .int v2), (5, .ref 66), (6, .int v3), (7, .int (0 : Int32))] [.int v3] G U := rfl
theorem sg_rd_80 (big : Nat → List Value → qM → qW → qR) (n0 : Nat) (G : qM) (U : qW) (v0 : Int32) : qm_run pm_m big m_141 (n0 + 5) 0 [(0, .ref 8), (1, .ref 66), (2, .int v0)] [] G U = qm_run pm_m big m_141 n0 9 [(0, .ref 8), (1, .ref 66), (2, .int v0)] [.int v0, .ref 67, .ref 20] G U := rfl
theorem sg_rd_81 (big : Nat → List Value → qM → qW → qR) (n0 : Nat) (G : qM) (U : qW) (v0 : Int32) : qm_run pm_m big m_141 (n0 + 5) 16 [(0, .ref 8), (1, .ref 66), (2, .int v0)] [] G U = qm_run pm_m big m_141 n0 23 [(0, .ref 8), (1, .ref 66), (2, .int v0)] [.int (v0 + (1 : Int32)), .ref 67] G U := rfl
theorem sg_rd_82 (big : Nat → List Value → qM → qW → qR) (n0 : Nat) (G : qM) (U : qW) (v0 : Int32) (v1 : Int32) (v2 : Int32) (v3 : Int32) : qm_run pm_m big m_138 (n0 + 4) 47 [(0, .ref 8), (1, .int (2 : Int32)), (2, .int v0), (3, .int v1), (4, .int v2), (5, .ref 66), (6, .int (0 : Int32)), (7, .int v3)] [] G U = qm_run pm_m big m_138 n0 56 [(0, .ref 8), (1, .int (2 : Int32)), (2, .int v0), (3, .int v1), (4, .int v2), (5, .ref 66), (6, .int (0 : Int32)), (7, .int v3)] [.int v2, .int v3] G U := rfl
theorem sg_rd_83 (big : Nat → List Value → qM → qW → qR) (n0 : Nat) (G : qM) (U : qW) (v0 : Int32) (v1 : Int32) (v2 : Int32) (v3 : Int32) : qm_run pm_m big m_138 (n0 + 6) 59 [(0, .ref 8), (1, .int (2 : Int32)), (2, .int v0), (3, .int v1), (4, .int v2), (5, .ref 66), (6, .int (0 : Int32)), (7, .int v3)] [] G U = qm_run pm_m big m_138 n0 67 [(0, .ref 8), (1, .int (2 : Int32)), (2, .int v0), (3, .int v1), (4, .int v2), (5, .ref 66), (6, .int (0 : Int32)), (7, .int v3)] [.int (v1 + ((2 : Int32) * v3)), .ref 66] G U := rfl
theorem sg_rd_84 (big : Nat → List Value → qM → qW → qR) (n0 : Nat) (G : qM) (U : qW) (v0 : Int32) (v1 : Int32) (v2 : Int32) (v3 : Int32) : qm_run pm_m big m_138 (n0 + 3) 70 [(0, .ref 8), (1, .int (2 : Int32)), (2, .int v0), (3, .int v1), (4, .int v2), (5, .ref 66), (6, .int (0 : Int32)), (7, .int v3)] [.int (2 : Int32)] G U = qm_run pm_m big m_138 n0 47 [(0, .ref 8), (1, .int (2 : Int32)), (2, .int v0), (3, .int v1), (4, .int v2), (5, .ref 66), (6, .int (2 : Int32)), (7, .int v3)] [] G U := rfl
theorem sg_rd_85 (big : Nat → List Value → qM → qW → qR) (n0 : Nat) (G : qM) (U : qW) (v0 : Int32) (v1 : Int32) (v2 : Int32) (v3 : Int32) : qm_run pm_m big m_138 (n0 + 2) 47 [(0, .ref 8), (1, .int (2 : Int32)), (2, .int v0), (3, .int v1), (4, .int v2), (5, .ref 66), (6, .int (2 : Int32)), (7, .int v3)] [] G U = qm_run pm_m big m_138 n0 104 [(0, .ref 8), (1, .int (2 : Int32)), (2, .int v0), (3, .int v1), (4, .int v2), (5, .ref 66), (6, .int (2 : Int32)), (7, .int v3)] [] G U := rfl
theorem sg_rd_86 (big : Nat → List Value → qM → qW → qR) (n0 : Nat) (G : qM) (U : qW) (v0 : Int32) (v1 : Int32) (v2 : Int32) (v3 : Int32) : qm_run pm_m big m_138 (n0 + 10) 70 [(0, .ref 8), (1, .int (2 : Int32)), (2, .int v0), (3, .int v1), (4, .int v2), (5, .ref 66), (6, .int (0 : Int32)), (7, .int v3)] [.int (0 : Int32)] G U = qm_run pm_m big m_138 n0 86 [(0, .ref 8), (1, .int (2 : Int32)), (2, .int v0), (3, .int v1), (4, .int v2), (5, .ref 66), (6, .int (0 : Int32)), (7, .int v3)] [.int (v1 + ((2 : Int32) * v3)), .ref 66, .ref 8] G U := rfl
theorem sg_rd_87 (big : Nat → List Value → qM → qW → qR) (n0 : Nat) (G : qM) (U : qW) (v0 : Int32) (v1 : Int32) (v2 : Int32) (v3 : Int32) : qm_run pm_m big m_138 (n0 + 3) 89 [(0, .ref 8), (1, .int (2 : Int32)), (2, .int v0), (3, .int v1), (4, .int v2), (5, .ref 66), (6, .int (0 : Int32)), (7, .int v3)] [.int (1 : Int32)] G U = qm_run pm_m big m_138 n0 47 [(0, .ref 8), (1, .int (2 : Int32)), (2, .int v0), (3, .int v1), (4, .int v2), (5, .ref 66), (6, .int (0 : Int32)), (7, .int (v3 + (1 : Int32)))] [] G U := rfl
theorem sg_rd_88 (big : Nat → List Value → qM → qW → qR) (n0 : Nat) (G : qM) (U : qW) (v0 : Int32) (v1 : Int32) (v2 : Int32) (v3 : Int32) (v4 : Int32) (v5 : Int32) : qm_run pm_m big m_138 (n0 + 2) 107 [(0, .ref 8), (1, .int (2 : Int32)), (2, .int v0), (3, .int v1), (4, .int v2), (5, .ref 66), (6, .int v3), (7, .int v4), (8, .int v5)] [] G U = qm_run pm_m big m_138 n0 111 [(0, .ref 8), (1, .int (2 : Int32)), (2, .int v0), (3, .int v1), (4, .int v2), (5, .ref 66), (6, .int v3), (7, .int v4), (8, .int v5)] [.int v4, .int v5] G U := rfl
theorem sg_rd_89 (big : Nat → List Value → qM → qW → qR) (n0 : Nat) (G : qM) (U : qW) (v0 : Int32) (v1 : Int32) (v2 : Int32) (v3 : Int32) (v4 : Int32) (v5 : Int32) : qm_run pm_m big m_138 (n0 + 10) 114 [(0, .ref 8), (1, .int (2 : Int32)), (2, .int v0), (3, .int v1), (4, .int v2), (5, .ref 66), (6, .int v3), (7, .int v4), (8, .int v5)] [] G U = qm_run pm_m big m_138 n0 132 [(0, .ref 8), (1, .int (2 : Int32)), (2, .int v0), (3, .int v1), (4, .int v2), (5, .ref 66), (6, .int v3), (7, .int v4), (8, .int v5)] [.int (v1 + ((2 : Int32) * v5)), .ref 67, .ref 22] G U := rfl
theorem sg_rd_90 (big : Nat → List Value → qM → qW → qR) (n0 : Nat) (G : qM) (U : qW) (v0 : Int32) (v1 : Int32) (v2 : Int32) (v3 : Int32) (v4 : Int32) (v5 : Int32) (v6 : Int32) : qm_run pm_m big m_138 (n0 + 9) 133 [(0, .ref 8), (1, .int (2 : Int32)), (2, .int v0), (3, .int v1), (4, .int v2), (5, .ref 66), (6, .int v3), (7, .int v4), (8, .int v5)] [.int v6, .ref 22] G U = qm_run pm_m big m_138 n0 146 [(0, .ref 8), (1, .int (2 : Int32)), (2, .int v0), (3, .int v1), (4, .int v2), (5, .ref 66), (6, .int v3), (7, .int v4), (8, .int v5)] [.int ((v1 + ((2 : Int32) * v5)) + (1 : Int32)), .ref 67, .int v6, .ref 22] G U := rfl
theorem sg_rd_91 (big : Nat → List Value → qM → qW → qR) (n0 : Nat) (G : qM) (U : qW) (v0 : Int32) (v1 : Int32) (v2 : Int32) (v3 : Int32) (v4 : Int32) (v5 : Int32) : qm_run pm_m big m_138 (n0 + 2) 148 [(0, .ref 8), (1, .int (2 : Int32)), (2, .int v0), (3, .int v1), (4, .int v2), (5, .ref 66), (6, .int v3), (7, .int v4), (8, .int v5)] [] G U = qm_run pm_m big m_138 n0 107 [(0, .ref 8), (1, .int (2 : Int32)), (2, .int v0), (3, .int v1), (4, .int v2), (5, .ref 66), (6, .int v3), (7, .int v4), (8, .int (v5 + (1 : Int32)))] [] G U := rfl
theorem sg_rd_92 (big : Nat → List Value → qM → qW → qR) (n0 : Nat) (G : qM) (U : qW) (v0 : Int32) (v1 : Int32) (v2 : Int32) : qm_run pm_m big m_138 (n0 + 3) 42 [(0, .ref 8), (1, .int (2 : Int32)), (2, .int v0), (3, .int v1), (4, .int v2), (5, .ref 66)] [.int (0 : Int32)] G U = qm_run pm_m big m_138 n0 47 [(0, .ref 8), (1, .int (2 : Int32)), (2, .int v0), (3, .int v1), (4, .int v2), (5, .ref 66), (6, .int (0 : Int32)), (7, .int (0 : Int32))] [] G U := rfl
theorem sg_rd_93 (big : Nat → List Value → qM → qW → qR) (n0 : Nat) (G : qM) (U : qW) (v0 : Int32) (v1 : Int32) (v2 : Int32) (v3 : Int32) (v4 : Int32) : qm_run pm_m big m_138 (n0 + 2) 104 [(0, .ref 8), (1, .int (2 : Int32)), (2, .int v0), (3, .int v1), (4, .int v2), (5, .ref 66), (6, .int v3), (7, .int v4)] [] G U = qm_run pm_m big m_138 n0 107 [(0, .ref 8), (1, .int (2 : Int32)), (2, .int v0), (3, .int v1), (4, .int v2), (5, .ref 66), (6, .int v3), (7, .int v4), (8, .int (0 : Int32))] [] G U := rfl
theorem sg_rd_94 (big : Nat → List Value → qM → qW → qR) (n0 : Nat) (G : qM) (U : qW) (v0 : Int32) : qm_run pm_m big m_140 (n0 + 2) 0 [(0, .ref 68), (1, .int v0)] [] G U = qm_run pm_m big m_140 n0 2 [(0, .ref 68), (1, .int v0)] [.int v0, .ref 68] G U := rfl
theorem sg_rd_95 (big : Nat → List Value → qM → qW → qR) (n0 : Nat) (G : qM) (U : qW) (v0 : Int32) (v1 : Int32) : qm_run pm_m big m_140 (n0 + 2) 5 [(0, .ref 68), (1, .int v0)] [.int v1] G U = qm_run pm_m big m_140 n0 7 [(0, .ref 68), (1, .int v0), (2, .int v1)] [.int v1] G U := rfl
theorem sg_rd_96 (big : Nat → List Value → qM → qW → qR) (n0 : Nat) (G : qM) (U : qW) (v0 : Int32) (v1 : Int32) : qm_run pm_m big m_140 (n0 + 4) 14 [(0, .ref 68), (1, .int v0), (2, .int v1)] [] G U = qm_run pm_m big m_140 n0 18 [(0, .ref 68), (1, .int v0), (2, .int v1)] [.int (v0 + (1 : Int32)), .ref 68] G U := rfl
theorem sg_rd_97 (big : Nat → List Value → qM → qW → qR) (n0 : Nat) (G : qM) (U : qW) (v0 : Int32) (v1 : Int32) (v2 : Int32) : qm_run pm_m big m_138 (n0 + 1) 0 [(0, .ref 8), (1, .int (3 : Int32)), (2, .int v0), (3, .int v1), (4, .int v2)] [] G U = qm_run pm_m big m_138 n0 1 [(0, .ref 8), (1, .int (3 : Int32)), (2, .int v0), (3, .int v1), (4, .int v2)] [.int (3 : Int32)] G U := rfl
theorem sg_rd_98 (big : Nat → List Value → qM → qW → qR) (n0 : Nat) (G : qM) (U : qW) (v0 : Int32) (v1 : Int32) (v2 : Int32) : qm_run pm_m big m_138 (n0 + 2) 4 [(0, .ref 8), (1, .int (3 : Int32)), (2, .int v0), (3, .int v1), (4, .int v2)] [.int (1 : Int32)] G U = qm_run pm_m big m_138 n0 8 [(0, .ref 8), (1, .int (3 : Int32)), (2, .int v0), (3, .int v1), (4, .int v2)] [.int v0] G U := rfl
theorem sg_rd_99 (big : Nat → List Value → qM → qW → qR) (n0 : Nat) (G : qM) (U : qW) (v0 : Int32) (v1 : Int32) (v2 : Int32) : qm_run pm_m big m_138 (n0 + 2) 11 [(0, .ref 8), (1, .int (3 : Int32)), (2, .int v0), (3, .int v1), (4, .int v2)] [.int (1 : Int32)] G U = qm_run pm_m big m_138 n0 16 [(0, .ref 8), (1, .int (3 : Int32)), (2, .int v0), (3, .int v1), (4, .int v2)] [.int v2] G U := rfl
theorem sg_rd_100 (big : Nat → List Value → qM → qW → qR) (n0 : Nat) (G : qM) (U : qW) (v0 : Int32) (v1 : Int32) (v2 : Int32) : qm_run pm_m big m_138 (n0 + 2) 19 [(0, .ref 8), (1, .int (3 : Int32)), (2, .int v0), (3, .int v1), (4, .int v2)] [] G U = qm_run pm_m big m_138 n0 23 [(0, .ref 8), (1, .int (3 : Int32)), (2, .int v0), (3, .int v1), (4, .int v2)] [.int (20 : Int32), .int v2] G U := rfl
theorem sg_rd_101 (big : Nat → List Value → qM → qW → qR) (n0 : Nat) (G : qM) (U : qW) (v0 : Int32) (v1 : Int32) (v2 : Int32) : qm_run pm_m big m_138 (n0 + 7) 28 [(0, .ref 8), (1, .int (3 : Int32)), (2, .int v0), (3, .int v1), (4, .int v2)] [] G U = qm_run pm_m big m_138 n0 39 [(0, .ref 8), (1, .int (3 : Int32)), (2, .int v0), (3, .int v1), (4, .int v2), (5, .ref 68)] [.int v0, .ref 68] G U := rfl
theorem sg_rd_102 (big : Nat → List Value → qM → qW → qR) (n0 : Nat) (G : qM) (U : qW) (v0 : Int32) (v1 : Int32) (v2 : Int32) (v3 : Int32) : qm_run pm_m big m_138 (n0 + 4) 42 [(0, .ref 8), (1, .int (3 : Int32)), (2, .int v0), (3, .int v1), (4, .int v2), (5, .ref 68)] [.int v3] G U = qm_run pm_m big m_138 n0 49 [(0, .ref 8), (1, .int (3 : Int32)), (2, .int v0), (3, .int v1), (4, .int v2), (5, .ref 68), (6, .int v3), (7, .int (0 : Int32))] [.int v3] G U := rfl
theorem sg_rd_103 (big : Nat → List Value → qM → qW → qR) (n0 : Nat) (G : qM) (U : qW) (v0 : Int32) (v1 : Int32) : qm_run pm_m big m_138 (n0 + 1) 0 [(0, .ref 8), (1, .int (3 : Int32)), (2, .int v0), (3, .int v1), (4, .int (0 : Int32))] [] G U = qm_run pm_m big m_138 n0 1 [(0, .ref 8), (1, .int (3 : Int32)), (2, .int v0), (3, .int v1), (4, .int (0 : Int32))] [.int (3 : Int32)] G U := rfl
theorem sg_rd_104 (big : Nat → List Value → qM → qW → qR) (n0 : Nat) (G : qM) (U : qW) (v0 : Int32) (v1 : Int32) : qm_run pm_m big m_138 (n0 + 2) 4 [(0, .ref 8), (1, .int (3 : Int32)), (2, .int v0), (3, .int v1), (4, .int (0 : Int32))] [.int (1 : Int32)] G U = qm_run pm_m big m_138 n0 8 [(0, .ref 8), (1, .int (3 : Int32)), (2, .int v0), (3, .int v1), (4, .int (0 : Int32))] [.int v0] G U := rfl
theorem sg_rd_105 (big : Nat → List Value → qM → qW → qR) (n0 : Nat) (G : qM) (U : qW) (v0 : Int32) (v1 : Int32) : qm_run pm_m big m_138 (n0 + 13) 11 [(0, .ref 8), (1, .int (3 : Int32)), (2, .int v0), (3, .int v1), (4, .int (0 : Int32))] [.int (1 : Int32)] G U = qm_run pm_m big m_138 n0 39 [(0, .ref 8), (1, .int (3 : Int32)), (2, .int v0), (3, .int v1), (4, .int (0 : Int32)), (5, .ref 68)] [.int v0, .ref 68] G U := rfl
theorem sg_rd_106 (big : Nat → List Value → qM → qW → qR) (n0 : Nat) (G : qM) (U : qW) (v0 : Int32) (v1 : Int32) (v2 : Int32) : qm_run pm_m big m_138 (n0 + 4) 42 [(0, .ref 8), (1, .int (3 : Int32)), (2, .int v0), (3, .int v1), (4, .int (0 : Int32)), (5, .ref 68)] [.int v2] G U = qm_run pm_m big m_138 n0 49 [(0, .ref 8), (1, .int (3 : Int32)), (2, .int v0), (3, .int v1), (4, .int (0 : Int32)), (5, .ref 68), (6, .int v2), (7, .int (0 : Int32))] [.int v2] G U := rfl
theorem sg_rd_107 (big : Nat → List Value → qM → qW → qR) (n0 : Nat) (G : qM) (U : qW) (v0 : Int32) (v1 : Int32) (v2 : Int32) (v3 : Int32) : qm_run pm_m big m_138 (n0 + 2) 52 [(0, .ref 8), (1, .int (3 : Int32)), (2, .int v0), (3, .int v1), (4, .int v2), (5, .ref 68), (6, .int v3), (7, .int (0 : Int32))] [] G U = qm_run pm_m big m_138 n0 56 [(0, .ref 8), (1, .int (3 : Int32)), (2, .int v0), (3, .int v1), (4, .int v2), (5, .ref 68), (6, .int v3), (7, .int (0 : Int32))] [.int v2, .int (0 : Int32)] G U := rfl
theorem sg_rd_108 (big : Nat → List Value → qM → qW → qR) (n0 : Nat) (G : qM) (U : qW) (v0 : Int32) (v1 : Int32) (v2 : Int32) (v3 : Int32) : qm_run pm_m big m_138 (n0 + 6) 59 [(0, .ref 8), (1, .int (3 : Int32)), (2, .int v0), (3, .int v1), (4, .int v2), (5, .ref 68), (6, .int v3), (7, .int (0 : Int32))] [] G U = qm_run pm_m big m_138 n0 67 [(0, .ref 8), (1, .int (3 : Int32)), (2, .int v0), (3, .int v1), (4, .int v2), (5, .ref 68), (6, .int v3), (7, .int (0 : Int32))] [.int (v1 + (0 : Int32)), .ref 68] G U := rfl
theorem sg_rd_109 (big : Nat → List Value → qM → qW → qR) (n0 : Nat) (G : qM) (U : qW) (v0 : Int32) (v1 : Int32) (v2 : Int32) (v3 : Int32) (v4 : Int32) : qm_run pm_m big m_138 (n0 + 2) 70 [(0, .ref 8), (1, .int (3 : Int32)), (2, .int v0), (3, .int v1), (4, .int v2), (5, .ref 68), (6, .int v3), (7, .int (0 : Int32))] [.int v4] G U = qm_run pm_m big m_138 n0 74 [(0, .ref 8), (1, .int (3 : Int32)), (2, .int v0), (3, .int v1), (4, .int v2), (5, .ref 68), (6, .int v4), (7, .int (0 : Int32))] [.int v4] G U := rfl
theorem sg_rd_110 (big : Nat → List Value → qM → qW → qR) (n0 : Nat) (G : qM) (U : qW) (v0 : Int32) (v1 : Int32) (v2 : Int32) (v3 : Int32) : qm_run pm_m big m_138 (n0 + 1) 47 [(0, .ref 8), (1, .int (3 : Int32)), (2, .int v0), (3, .int v1), (4, .int v2), (5, .ref 68), (6, .int v3), (7, .int (0 : Int32))] [] G U = qm_run pm_m big m_138 n0 49 [(0, .ref 8), (1, .int (3 : Int32)), (2, .int v0), (3, .int v1), (4, .int v2), (5, .ref 68), (6, .int v3), (7, .int (0 : Int32))] [.int v3] G U := rfl
theorem sg_rd_111 (big : Nat → List Value → qM → qW → qR) (n0 : Nat) (G : qM) (U : qW) (v0 : Int32) : qm_run pm_m big m_141 (n0 + 5) 0 [(0, .ref 8), (1, .ref 68), (2, .int v0)] [] G U = qm_run pm_m big m_141 n0 9 [(0, .ref 8), (1, .ref 68), (2, .int v0)] [.int v0, .ref 69, .ref 20] G U := rfl
theorem sg_rd_112 (big : Nat → List Value → qM → qW → qR) (n0 : Nat) (G : qM) (U : qW) (v0 : Int32) : qm_run pm_m big m_141 (n0 + 5) 16 [(0, .ref 8), (1, .ref 68), (2, .int v0)] [] G U = qm_run pm_m big m_141 n0 23 [(0, .ref 8), (1, .ref 68), (2, .int v0)] [.int (v0 + (1 : Int32)), .ref 69] G U := rfl
theorem sg_rd_113 (big : Nat → List Value → qM → qW → qR) (n0 : Nat) (G : qM) (U : qW) (v0 : Int32) (v1 : Int32) (v2 : Int32) (v3 : Int32) : qm_run pm_m big m_138 (n0 + 4) 47 [(0, .ref 8), (1, .int (3 : Int32)), (2, .int v0), (3, .int v1), (4, .int v2), (5, .ref 68), (6, .int (0 : Int32)), (7, .int v3)] [] G U = qm_run pm_m big m_138 n0 56 [(0, .ref 8), (1, .int (3 : Int32)), (2, .int v0), (3, .int v1), (4, .int v2), (5, .ref 68), (6, .int (0 : Int32)), (7, .int v3)] [.int v2, .int v3] G U := rfl
theorem sg_rd_114 (big : Nat → List Value → qM → qW → qR) (n0 : Nat) (G : qM) (U : qW) (v0 : Int32) (v1 : Int32) (v2 : Int32) (v3 : Int32) : qm_run pm_m big m_138 (n0 + 6) 59 [(0, .ref 8), (1, .int (3 : Int32)), (2, .int v0), (3, .int v1), (4, .int v2), (5, .ref 68), (6, .int (0 : Int32)), (7, .int v3)] [] G U = qm_run pm_m big m_138 n0 67 [(0, .ref 8), (1, .int (3 : Int32)), (2, .int v0), (3, .int v1), (4, .int v2), (5, .ref 68), (6, .int (0 : Int32)), (7, .int v3)] [.int (v1 + ((2 : Int32) * v3)), .ref 68] G U := rfl
theorem sg_rd_115 (big : Nat → List Value → qM → qW → qR) (n0 : Nat) (G : qM) (U : qW) (v0 : Int32) (v1 : Int32) (v2 : Int32) (v3 : Int32) : qm_run pm_m big m_138 (n0 + 3) 70 [(0, .ref 8), (1, .int (3 : Int32)), (2, .int v0), (3, .int v1), (4, .int v2), (5, .ref 68), (6, .int (0 : Int32)), (7, .int v3)] [.int (2 : Int32)] G U = qm_run pm_m big m_138 n0 47 [(0, .ref 8), (1, .int (3 : Int32)), (2, .int v0), (3, .int v1), (4, .int v2), (5, .ref 68), (6, .int (2 : Int32)), (7, .int v3)] [] G U := rfl
theorem sg_rd_116 (big : Nat → List Value → qM → qW → qR) (n0 : Nat) (G : qM) (U : qW) (v0 : Int32) (v1 : Int32) (v2 : Int32) (v3 : Int32) : qm_run pm_m big m_138 (n0 + 2) 47 [(0, .ref 8), (1, .int (3 : Int32)), (2, .int v0), (3, .int v1), (4, .int v2), (5, .ref 68), (6, .int (2 : Int32)), (7, .int v3)] [] G U = qm_run pm_m big m_138 n0 104 [(0, .ref 8), (1, .int (3 : Int32)), (2, .int v0), (3, .int v1), (4, .int v2), (5, .ref 68), (6, .int (2 : Int32)), (7, .int v3)] [] G U := rfl
theorem sg_rd_117 (big : Nat → List Value → qM → qW → qR) (n0 : Nat) (G : qM) (U : qW) (v0 : Int32) (v1 : Int32) (v2 : Int32) (v3 : Int32) : qm_run pm_m big m_138 (n0 + 10) 70 [(0, .ref 8), (1, .int (3 : Int32)), (2, .int v0), (3, .int v1), (4, .int v2), (5, .ref 68), (6, .int (0 : Int32)), (7, .int v3)] [.int (0 : Int32)] G U = qm_run pm_m big m_138 n0 86 [(0, .ref 8), (1, .int (3 : Int32)), (2, .int v0), (3, .int v1), (4, .int v2), (5, .ref 68), (6, .int (0 : Int32)), (7, .int v3)] [.int (v1 + ((2 : Int32) * v3)), .ref 68, .ref 8] G U := rfl
theorem sg_rd_118 (big : Nat → List Value → qM → qW → qR) (n0 : Nat) (G : qM) (U : qW) (v0 : Int32) (v1 : Int32) (v2 : Int32) (v3 : Int32) : qm_run pm_m big m_138 (n0 + 3) 89 [(0, .ref 8), (1, .int (3 : Int32)), (2, .int v0), (3, .int v1), (4, .int v2), (5, .ref 68), (6, .int (0 : Int32)), (7, .int v3)] [.int (1 : Int32)] G U = qm_run pm_m big m_138 n0 47 [(0, .ref 8), (1, .int (3 : Int32)), (2, .int v0), (3, .int v1), (4, .int v2), (5, .ref 68), (6, .int (0 : Int32)), (7, .int (v3 + (1 : Int32)))] [] G U := rfl
theorem sg_rd_119 (big : Nat → List Value → qM → qW → qR) (n0 : Nat) (G : qM) (U : qW) (v0 : Int32) (v1 : Int32) (v2 : Int32) (v3 : Int32) (v4 : Int32) (v5 : Int32) : qm_run pm_m big m_138 (n0 + 2) 107 [(0, .ref 8), (1, .int (3 : Int32)), (2, .int v0), (3, .int v1), (4, .int v2), (5, .ref 68), (6, .int v3), (7, .int v4), (8, .int v5)] [] G U = qm_run pm_m big m_138 n0 111 [(0, .ref 8), (1, .int (3 : Int32)), (2, .int v0), (3, .int v1), (4, .int v2), (5, .ref 68), (6, .int v3), (7, .int v4), (8, .int v5)] [.int v4, .int v5] G U := rfl
theorem sg_rd_120 (big : Nat → List Value → qM → qW → qR) (n0 : Nat) (G : qM) (U : qW) (v0 : Int32) (v1 : Int32) (v2 : Int32) (v3 : Int32) (v4 : Int32) (v5 : Int32) : qm_run pm_m big m_138 (n0 + 10) 114 [(0, .ref 8), (1, .int (3 : Int32)), (2, .int v0), (3, .int v1), (4, .int v2), (5, .ref 68), (6, .int v3), (7, .int v4), (8, .int v5)] [] G U = qm_run pm_m big m_138 n0 132 [(0, .ref 8), (1, .int (3 : Int32)), (2, .int v0), (3, .int v1), (4, .int v2), (5, .ref 68), (6, .int v3), (7, .int v4), (8, .int v5)] [.int (v1 + ((2 : Int32) * v5)), .ref 69, .ref 22] G U := rfl
theorem sg_rd_121 (big : Nat → List Value → qM → qW → qR) (n0 : Nat) (G : qM) (U : qW) (v0 : Int32) (v1 : Int32) (v2 : Int32) (v3 : Int32) (v4 : Int32) (v5 : Int32) (v6 : Int32) : qm_run pm_m big m_138 (n0 + 9) 133 [(0, .ref 8), (1, .int (3 : Int32)), (2, .int v0), (3, .int v1), (4, .int v2), (5, .ref 68), (6, .int v3), (7, .int v4), (8, .int v5)] [.int v6, .ref 22] G U = qm_run pm_m big m_138 n0 146 [(0, .ref 8), (1, .int (3 : Int32)), (2, .int v0), (3, .int v1), (4, .int v2), (5, .ref 68), (6, .int v3), (7, .int v4), (8, .int v5)] [.int ((v1 + ((2 : Int32) * v5)) + (1 : Int32)), .ref 69, .int v6, .ref 22] G U := rfl
theorem sg_rd_122 (big : Nat → List Value → qM → qW → qR) (n0 : Nat) (G : qM) (U : qW) (v0 : Int32) (v1 : Int32) (v2 : Int32) (v3 : Int32) (v4 : Int32) (v5 : Int32) : qm_run pm_m big m_138 (n0 + 2) 148 [(0, .ref 8), (1, .int (3 : Int32)), (2, .int v0), (3, .int v1), (4, .int v2), (5, .ref 68), (6, .int v3), (7, .int v4), (8, .int v5)] [] G U = qm_run pm_m big m_138 n0 107 [(0, .ref 8), (1, .int (3 : Int32)), (2, .int v0), (3, .int v1), (4, .int v2), (5, .ref 68), (6, .int v3), (7, .int v4), (8, .int (v5 + (1 : Int32)))] [] G U := rfl
theorem sg_rd_123 (big : Nat → List Value → qM → qW → qR) (n0 : Nat) (G : qM) (U : qW) (v0 : Int32) (v1 : Int32) (v2 : Int32) : qm_run pm_m big m_138 (n0 + 3) 42 [(0, .ref 8), (1, .int (3 : Int32)), (2, .int v0), (3, .int v1), (4, .int v2), (5, .ref 68)] [.int (0 : Int32)] G U = qm_run pm_m big m_138 n0 47 [(0, .ref 8), (1, .int (3 : Int32)), (2, .int v0), (3, .int v1), (4, .int v2), (5, .ref 68), (6, .int (0 : Int32)), (7, .int (0 : Int32))] [] G U := rfl
theorem sg_rd_124 (big : Nat → List Value → qM → qW → qR) (n0 : Nat) (G : qM) (U : qW) (v0 : Int32) (v1 : Int32) (v2 : Int32) (v3 : Int32) (v4 : Int32) : qm_run pm_m big m_138 (n0 + 2) 104 [(0, .ref 8), (1, .int (3 : Int32)), (2, .int v0), (3, .int v1), (4, .int v2), (5, .ref 68), (6, .int v3), (7, .int v4)] [] G U = qm_run pm_m big m_138 n0 107 [(0, .ref 8), (1, .int (3 : Int32)), (2, .int v0), (3, .int v1), (4, .int v2), (5, .ref 68), (6, .int v3), (7, .int v4), (8, .int (0 : Int32))] [] G U := rfl
def d_fop0 (x : Int32) (g : qM) : Int32 := (if (d_faultAt0 x g) = 0 then (d_faultAt0 (x + (1 : Int32)) g) else (d_faultAt0 x g))
theorem b_fop0 (x : Int32) (g : qM) (u : qW) : q_BS 140 [.ref 62, .int x] g u (some (.int (d_fop0 x g)), g, u) := by
  refine q_bx (mm := m_140) rfl (Nat.le_of_ble_eq_true rfl) rfl ?_
  refine q_step 2 2 [(0, .ref 62), (1, .int x)] [.int x, .ref 62] g u (fun big n0 => sg_rd_1 big n0 g u x) ?_
  refine q_call (M2 := 135) (rest := []) (b_faultAt0 _ _ _) (fun _ _ => rfl) ?_
  refine q_step 2 7 [(0, .ref 62), (1, .int x), (2, .int (d_faultAt0 x g))] [.int (d_faultAt0 x g)] g u (fun big n0 => sg_rd_2 big n0 g u x (d_faultAt0 x g)) ?_
  refine q_if_eq rfl (fun (hc0 : (d_faultAt0 x g) = 0) => ?_) (fun (hc0 : ¬ ((d_faultAt0 x g) = 0)) => ?_)
  · refine q_step 4 18 [(0, .ref 62), (1, .int x), (2, .int (d_faultAt0 x g))] [.int (x + (1 : Int32)), .ref 62] g u (fun big n0 => sg_rd_3 big n0 g u x (d_faultAt0 x g)) ?_
    refine q_call (M2 := 135) (rest := []) (b_faultAt0 _ _ _) (fun _ _ => rfl) ?_
    refine q_ret 1 (some (.int (d_faultAt0 (x + (1 : Int32)) g)), g, u) (fun _ _ => rfl) ?_
    unfold d_fop0
    rw [if_pos hc0]
  · refine q_ret 3 (some (.int (d_faultAt0 x g)), g, u) (fun _ _ => rfl) ?_
    unfold d_fop0
    rw [if_neg hc0]
theorem cr_zA0 (g : qM) (u : qW) {la f : Int32} {m : Nat} (hm : m ≤ 20) (hla : d_isLane la g = 1) (hf : ¬ (d_faultAs0 la g) = 0) : q_BS 138 [.ref 8, .int (0 : Int32), .int la, .int f, .int (Int32.ofNat m)] g u (some (.int 0), q_up g 8 8 (d_faultAs0 la g), u) := by
  refine q_bx (mm := m_138) rfl (Nat.le_of_ble_eq_true rfl) rfl ?_
  refine q_step 1 1 [(0, .ref 8), (1, .int (0 : Int32)), (2, .int la), (3, .int f), (4, .int (Int32.ofNat m))] [.int (0 : Int32)] g u (fun big n0 => sg_rd_4 big n0 g u la f (Int32.ofNat m)) ?_
  refine q_call (M2 := 131) (rest := []) (show q_BS 131 [.int (0 : Int32)] g u (some (.int 1), g, u) from b_isSheet _ g u) (fun _ _ => rfl) ?_
  refine q_step 2 8 [(0, .ref 8), (1, .int (0 : Int32)), (2, .int la), (3, .int f), (4, .int (Int32.ofNat m))] [.int la] g u (fun big n0 => sg_rd_5 big n0 g u la f (Int32.ofNat m)) ?_
  have hln := b_isLane la g u
  rw [hla] at hln
  refine q_call (M2 := 132) (rest := []) (hln) (fun _ _ => rfl) ?_
  refine q_step 2 16 [(0, .ref 8), (1, .int (0 : Int32)), (2, .int la), (3, .int f), (4, .int (Int32.ofNat m))] [.int (Int32.ofNat m)] g u (fun big n0 => sg_rd_6 big n0 g u la f (Int32.ofNat m)) ?_
  refine q_if_lt rfl (fun hc0 => absurd (show (Int32.ofNat m) < 0 from hc0) (fun z => absurd ((q_lt (i := m) (j := 0) (by omega) (by omega)).mp z) (by omega))) (fun (hc0 : ¬ ((Int32.ofNat m) < 0)) => ?_)
  refine q_step 2 23 [(0, .ref 8), (1, .int (0 : Int32)), (2, .int la), (3, .int f), (4, .int (Int32.ofNat m))] [.int (20 : Int32), .int (Int32.ofNat m)] g u (fun big n0 => sg_rd_7 big n0 g u la f (Int32.ofNat m)) ?_
  refine q_ic_le rfl (fun (hc1 : (Int32.ofNat m) ≤ (20 : Int32)) => ?_) (fun hc1 => absurd (show (Int32.ofNat m) ≤ (20 : Int32) from (q_le (i := m) (j := 20) (by omega) (by omega)).mpr (by omega)) hc1)
  refine q_step 7 39 [(0, .ref 8), (1, .int (0 : Int32)), (2, .int la), (3, .int f), (4, .int (Int32.ofNat m)), (5, .ref 62)] [.int la, .ref 62] g u (fun big n0 => sg_rd_8 big n0 g u la f (Int32.ofNat m)) ?_
  refine q_call (M2 := 139) (rest := []) (b_faultAs0 la g u) (fun _ _ => rfl) ?_
  refine q_step 4 49 [(0, .ref 8), (1, .int (0 : Int32)), (2, .int la), (3, .int f), (4, .int (Int32.ofNat m)), (5, .ref 62), (6, .int (d_faultAs0 la g)), (7, .int (0 : Int32))] [.int (d_faultAs0 la g)] g u (fun big n0 => sg_rd_9 big n0 g u la f (Int32.ofNat m) (d_faultAs0 la g)) ?_
  refine q_if_ne rfl (fun hc2 => absurd (show (d_faultAs0 la g) = 0 from hc2) (hf)) (fun (hc2 : ¬ ((d_faultAs0 la g) = 0)) => ?_)
  refine q_ret 10 (some (.int (0 : Int32)), (q_up g 8 8 (d_faultAs0 la g)), u) (fun _ _ => rfl) ?_
  rfl
theorem cr_zB0 (g : qM) (u : qW) {la f : Int32} (hla : d_isLane la g = 1) (hf : (d_faultAs0 la g) = 0) : q_BS 138 [.ref 8, .int (0 : Int32), .int la, .int f, .int (0 : Int32)] g u (some (.int 0), q_up g 8 8 (d_faultAs0 la g), u) := by
  refine q_bx (mm := m_138) rfl (Nat.le_of_ble_eq_true rfl) rfl ?_
  refine q_step 1 1 [(0, .ref 8), (1, .int (0 : Int32)), (2, .int la), (3, .int f), (4, .int (0 : Int32))] [.int (0 : Int32)] g u (fun big n0 => sg_rd_10 big n0 g u la f) ?_
  refine q_call (M2 := 131) (rest := []) (show q_BS 131 [.int (0 : Int32)] g u (some (.int 1), g, u) from b_isSheet _ g u) (fun _ _ => rfl) ?_
  refine q_step 2 8 [(0, .ref 8), (1, .int (0 : Int32)), (2, .int la), (3, .int f), (4, .int (0 : Int32))] [.int la] g u (fun big n0 => sg_rd_11 big n0 g u la f) ?_
  have hln := b_isLane la g u
  rw [hla] at hln
  refine q_call (M2 := 132) (rest := []) (hln) (fun _ _ => rfl) ?_
  refine q_step 13 39 [(0, .ref 8), (1, .int (0 : Int32)), (2, .int la), (3, .int f), (4, .int (0 : Int32)), (5, .ref 62)] [.int la, .ref 62] g u (fun big n0 => sg_rd_12 big n0 g u la f) ?_
  refine q_call (M2 := 139) (rest := []) (b_faultAs0 la g u) (fun _ _ => rfl) ?_
  refine q_step 4 49 [(0, .ref 8), (1, .int (0 : Int32)), (2, .int la), (3, .int f), (4, .int (0 : Int32)), (5, .ref 62), (6, .int (d_faultAs0 la g)), (7, .int (0 : Int32))] [.int (d_faultAs0 la g)] g u (fun big n0 => sg_rd_13 big n0 g u la f (d_faultAs0 la g)) ?_
  refine q_if_ne rfl (fun (hc0 : (d_faultAs0 la g) = 0) => ?_) (fun hc0 => absurd (show (d_faultAs0 la g) = 0 from hf) hc0)
  refine q_ret 13 (some (.int (0 : Int32)), (q_up g 8 8 (d_faultAs0 la g)), u) (fun _ _ => rfl) ?_
  rfl
theorem cr_zC0 (g : qM) (u : qW) {la f : Int32} {m : Nat} (hm : m ≤ 20) (hla : d_isLane la g = 1) (hm1 : 1 ≤ m) (hf : (d_faultAs0 la g) = 0) (hp : ¬ (d_fop0 (f + ((2 : Int32) * (0 : Int32))) g) = 0) : q_BS 138 [.ref 8, .int (0 : Int32), .int la, .int f, .int (Int32.ofNat m)] g u (some (.int 0), q_up g 8 8 (d_fop0 (f + ((2 : Int32) * (0 : Int32))) g), u) := by
  refine q_bx (mm := m_138) rfl (Nat.le_of_ble_eq_true rfl) rfl ?_
  refine q_step 1 1 [(0, .ref 8), (1, .int (0 : Int32)), (2, .int la), (3, .int f), (4, .int (Int32.ofNat m))] [.int (0 : Int32)] g u (fun big n0 => sg_rd_4 big n0 g u la f (Int32.ofNat m)) ?_
  refine q_call (M2 := 131) (rest := []) (show q_BS 131 [.int (0 : Int32)] g u (some (.int 1), g, u) from b_isSheet _ g u) (fun _ _ => rfl) ?_
  refine q_step 2 8 [(0, .ref 8), (1, .int (0 : Int32)), (2, .int la), (3, .int f), (4, .int (Int32.ofNat m))] [.int la] g u (fun big n0 => sg_rd_5 big n0 g u la f (Int32.ofNat m)) ?_
  have hln := b_isLane la g u
  rw [hla] at hln
  refine q_call (M2 := 132) (rest := []) (hln) (fun _ _ => rfl) ?_
  refine q_step 2 16 [(0, .ref 8), (1, .int (0 : Int32)), (2, .int la), (3, .int f), (4, .int (Int32.ofNat m))] [.int (Int32.ofNat m)] g u (fun big n0 => sg_rd_6 big n0 g u la f (Int32.ofNat m)) ?_
  refine q_if_lt rfl (fun hc0 => absurd (show (Int32.ofNat m) < 0 from hc0) (fun z => absurd ((q_lt (i := m) (j := 0) (by omega) (by omega)).mp z) (by omega))) (fun (hc0 : ¬ ((Int32.ofNat m) < 0)) => ?_)
  refine q_step 2 23 [(0, .ref 8), (1, .int (0 : Int32)), (2, .int la), (3, .int f), (4, .int (Int32.ofNat m))] [.int (20 : Int32), .int (Int32.ofNat m)] g u (fun big n0 => sg_rd_7 big n0 g u la f (Int32.ofNat m)) ?_
  refine q_ic_le rfl (fun (hc1 : (Int32.ofNat m) ≤ (20 : Int32)) => ?_) (fun hc1 => absurd (show (Int32.ofNat m) ≤ (20 : Int32) from (q_le (i := m) (j := 20) (by omega) (by omega)).mpr (by omega)) hc1)
  refine q_step 7 39 [(0, .ref 8), (1, .int (0 : Int32)), (2, .int la), (3, .int f), (4, .int (Int32.ofNat m)), (5, .ref 62)] [.int la, .ref 62] g u (fun big n0 => sg_rd_8 big n0 g u la f (Int32.ofNat m)) ?_
  refine q_call (M2 := 139) (rest := []) (b_faultAs0 la g u) (fun _ _ => rfl) ?_
  refine q_step 4 49 [(0, .ref 8), (1, .int (0 : Int32)), (2, .int la), (3, .int f), (4, .int (Int32.ofNat m)), (5, .ref 62), (6, .int (d_faultAs0 la g)), (7, .int (0 : Int32))] [.int (d_faultAs0 la g)] g u (fun big n0 => sg_rd_9 big n0 g u la f (Int32.ofNat m) (d_faultAs0 la g)) ?_
  refine q_if_ne rfl (fun (hc2 : (d_faultAs0 la g) = 0) => ?_) (fun hc2 => absurd (show (d_faultAs0 la g) = 0 from hf) hc2)
  refine q_step 2 56 [(0, .ref 8), (1, .int (0 : Int32)), (2, .int la), (3, .int f), (4, .int (Int32.ofNat m)), (5, .ref 62), (6, .int (d_faultAs0 la g)), (7, .int (0 : Int32))] [.int (Int32.ofNat m), .int (0 : Int32)] g u (fun big n0 => sg_rd_14 big n0 g u la f (Int32.ofNat m) (d_faultAs0 la g)) ?_
  refine q_ic_ge rfl (fun hc3 => absurd (show (Int32.ofNat m) ≤ (0 : Int32) from hc3) (fun z => absurd ((q_le (i := m) (j := 0) (by omega) (by omega)).mp z) (by omega))) (fun (hc3 : ¬ ((Int32.ofNat m) ≤ (0 : Int32))) => ?_)
  refine q_step 6 67 [(0, .ref 8), (1, .int (0 : Int32)), (2, .int la), (3, .int f), (4, .int (Int32.ofNat m)), (5, .ref 62), (6, .int (d_faultAs0 la g)), (7, .int (0 : Int32))] [.int (f + (0 : Int32)), .ref 62] g u (fun big n0 => sg_rd_15 big n0 g u la f (Int32.ofNat m) (d_faultAs0 la g)) ?_
  refine q_call (M2 := 140) (rest := []) (b_fop0 _ g u) (fun _ _ => rfl) ?_
  refine q_step 2 74 [(0, .ref 8), (1, .int (0 : Int32)), (2, .int la), (3, .int f), (4, .int (Int32.ofNat m)), (5, .ref 62), (6, .int (d_fop0 (f + (0 : Int32)) g)), (7, .int (0 : Int32))] [.int (d_fop0 (f + (0 : Int32)) g)] g u (fun big n0 => sg_rd_16 big n0 g u la f (Int32.ofNat m) (d_faultAs0 la g) (d_fop0 (f + (0 : Int32)) g)) ?_
  refine q_if_ne rfl (fun hc4 => absurd (show (d_fop0 (f + (0 : Int32)) g) = 0 from hc4) (hp)) (fun (hc4 : ¬ ((d_fop0 (f + (0 : Int32)) g) = 0)) => ?_)
  refine q_step 1 49 [(0, .ref 8), (1, .int (0 : Int32)), (2, .int la), (3, .int f), (4, .int (Int32.ofNat m)), (5, .ref 62), (6, .int (d_fop0 (f + (0 : Int32)) g)), (7, .int (0 : Int32))] [.int (d_fop0 (f + (0 : Int32)) g)] g u (fun big n0 => sg_rd_17 big n0 g u la f (Int32.ofNat m) (d_fop0 (f + (0 : Int32)) g)) ?_
  refine q_if_ne rfl (fun hc5 => absurd (show (d_fop0 (f + (0 : Int32)) g) = 0 from hc5) (hp)) (fun (hc5 : ¬ ((d_fop0 (f + (0 : Int32)) g) = 0)) => ?_)
  refine q_ret 10 (some (.int (0 : Int32)), (q_up g 8 8 (d_fop0 (f + (0 : Int32)) g)), u) (fun _ _ => rfl) ?_
  rfl
theorem n_tl_c {n : Nat} {g : qM} {row : Nat → Int32} {j : Nat} (hn : g 20 3 = Int32.ofNat n) : (if n_tl n row j = 0 then (0 : Int32) else 1) = if d_hasOne (row j) g = 0 then 0 else if d_isMood (row (j + 1)) g = 0 then 0 else 1 := by
  unfold n_tl d_hasOne d_isMood
  rw [hn]
  by_cases a : row j < 0
  · rw [if_pos a, if_pos a, if_pos rfl, if_pos rfl]
  · rw [if_neg a, if_neg a]
    by_cases b : Int32.ofNat n ≤ row j
    · rw [if_pos b, if_pos b, if_pos rfl, if_pos rfl]
    · rw [if_neg b, if_neg b, if_neg (show ¬ (1 : Int32) = 0 by decide)]
      by_cases c : row (j + 1) < 0
      · rw [if_pos c, if_pos c, if_pos rfl, if_pos rfl]
      · rw [if_neg c, if_neg c]
        by_cases d : (3 : Int32) < row (j + 1)
        · rw [if_pos d, if_pos d, if_pos rfl, if_pos rfl]
        · rw [if_neg d, if_neg d, if_neg (by decide), if_neg (by decide)]
theorem cw_tell0 (g : qM) (u : qW) {n j : Nat} (hn : g 20 3 = Int32.ofNat n) (hj : j + 1 < 40) : q_BS 141 [.ref 8, .ref 62, .int (Int32.ofNat j)] g u (some (.int (if n_tl n (g 63) j = 0 then (0 : Int32) else 1)), g, u) := by
  refine q_bx (mm := m_141) rfl (Nat.le_of_ble_eq_true rfl) rfl ?_
  refine q_step 5 9 [(0, .ref 8), (1, .ref 62), (2, .int (Int32.ofNat j))] [.int (Int32.ofNat j), .ref 63, .ref 20] g u (fun big n0 => sg_rd_18 big n0 g u (Int32.ofNat j)) ?_
  refine q_iald (j := j) (q_ixn (by omega) (by omega)) rfl rfl ?_
  refine q_call (M2 := 40) (rest := []) (b_hasOne (g 63 j) g u) (fun _ _ => rfl) ?_
  refine q_if_eq rfl (fun (hc0 : (d_hasOne (g 63 j) g) = 0) => ?_) (fun (hc0 : ¬ ((d_hasOne (g 63 j) g) = 0)) => ?_)
  · refine q_ret 2 (some (.int (0 : Int32)), g, u) (fun _ _ => rfl) ?_
    rw [n_tl_c (n := n) hn, if_pos hc0]
  · refine q_step 5 23 [(0, .ref 8), (1, .ref 62), (2, .int (Int32.ofNat j))] [.int ((Int32.ofNat j) + (1 : Int32)), .ref 63] g u (fun big n0 => sg_rd_19 big n0 g u (Int32.ofNat j)) ?_
    refine q_iald (j := (j + 1)) (by rw [q_succ]; exact q_ixn (by omega) (by omega)) rfl rfl ?_
    refine q_call (M2 := 48) (rest := []) (b_isMood (g 63 (j + 1)) g u) (fun _ _ => rfl) ?_
    refine q_if_eq rfl (fun (hc1 : (d_isMood (g 63 (j + 1)) g) = 0) => ?_) (fun (hc1 : ¬ ((d_isMood (g 63 (j + 1)) g) = 0)) => ?_)
    · refine q_ret 2 (some (.int (0 : Int32)), g, u) (fun _ _ => rfl) ?_
      rw [n_tl_c (n := n) hn, if_neg hc0, if_pos hc1]
    · refine q_ret 3 (some (.int (1 : Int32)), g, u) (fun _ _ => rfl) ?_
      rw [n_tl_c (n := n) hn, if_neg hc0, if_neg hc1]
theorem cr_in0 {n z j0 m : Nat} {g : qM} {la : Int32} (u : qW) (hn : g 20 3 = Int32.ofNat n) (h6 : n ≤ 6) (hz : z ≤ 40) (hsz : g 62 1 = Int32.ofNat z) (hj0 : j0 < 40) (hm : m ≤ 20) {Q : Option Value × qM × qW → Prop} : ∀ k i, i + k = m → (∀ fd w, f_rd (n_tl n (g 63)) z j0 k i = (w, true) → q_EV m_138 104 [(0, .ref 8), (1, .int (0 : Int32)), (2, .int la), (3, .int (Int32.ofNat j0)), (4, .int (Int32.ofNat m)), (5, .ref 62), (6, .int fd), (7, .int (Int32.ofNat w))] [] g u Q) → (∀ w, f_rd (n_tl n (g 63)) z j0 k i = (w, false) → Q (some (.int (Int8.toInt32 (Int8.ofInt (-20)) - Int32.ofNat w)), g, u)) → q_EV m_138 47 [(0, .ref 8), (1, .int (0 : Int32)), (2, .int la), (3, .int (Int32.ofNat j0)), (4, .int (Int32.ofNat m)), (5, .ref 62), (6, .int (0 : Int32)), (7, .int (Int32.ofNat i))] [] g u Q := by
  intro k
  induction k with
  | zero =>
    intro i hi hk hb
    refine q_step 4 56 [(0, .ref 8), (1, .int (0 : Int32)), (2, .int la), (3, .int (Int32.ofNat j0)), (4, .int (Int32.ofNat m)), (5, .ref 62), (6, .int (0 : Int32)), (7, .int (Int32.ofNat i))] [.int (Int32.ofNat m), .int (Int32.ofNat i)] g u (fun big n0 => sg_rd_20 big n0 g u la (Int32.ofNat j0) (Int32.ofNat m) (Int32.ofNat i)) ?_
    refine q_ic_ge rfl (fun (hc0 : (Int32.ofNat m) ≤ (Int32.ofNat i)) => ?_) (fun hc0 => absurd (show (Int32.ofNat m) ≤ (Int32.ofNat i) from by exact (q_le (by omega) (by omega)).mpr (by omega)) hc0)
    exact hk _ _ rfl
  | succ k ih =>
    intro i hi hk hb
    refine q_step 4 56 [(0, .ref 8), (1, .int (0 : Int32)), (2, .int la), (3, .int (Int32.ofNat j0)), (4, .int (Int32.ofNat m)), (5, .ref 62), (6, .int (0 : Int32)), (7, .int (Int32.ofNat i))] [.int (Int32.ofNat m), .int (Int32.ofNat i)] g u (fun big n0 => sg_rd_20 big n0 g u la (Int32.ofNat j0) (Int32.ofNat m) (Int32.ofNat i)) ?_
    refine q_ic_ge rfl (fun hc0 => absurd (show (Int32.ofNat m) ≤ (Int32.ofNat i) from hc0) (fun z => by exact absurd ((q_le (by omega) (by omega)).mp z) (by omega))) (fun (hc0 : ¬ ((Int32.ofNat m) ≤ (Int32.ofNat i))) => ?_)
    refine q_step 6 67 [(0, .ref 8), (1, .int (0 : Int32)), (2, .int la), (3, .int (Int32.ofNat j0)), (4, .int (Int32.ofNat m)), (5, .ref 62), (6, .int (0 : Int32)), (7, .int (Int32.ofNat i))] [.int ((Int32.ofNat j0) + ((2 : Int32) * (Int32.ofNat i))), .ref 62] g u (fun big n0 => sg_rd_21 big n0 g u la (Int32.ofNat j0) (Int32.ofNat m) (Int32.ofNat i)) ?_
    have ex : Int32.ofNat j0 + (2 : Int32) * Int32.ofNat i = Int32.ofNat (j0 + 2 * i) := by
      rw [show (2 : Int32) = Int32.ofNat 2 from rfl, q_mul, q_add]
    have hnn : d_isNothing0 g = 0 := by
      unfold d_isNothing0
      rw [hsz, if_neg (fun z2 => by
        have z3 := congrArg Int32.toInt z2
        rw [q_nat (by omega)] at z3
        have e : (Int32.ofInt (-1)).toInt = -1 := rfl
        omega)]
    have hfa : ∀ j, j < 1000 → d_faultAt0 (Int32.ofNat j) g = if j < z then 0 else 2 := fun j hj => by
      unfold d_faultAt0
      rw [hnn, if_pos rfl, if_neg (fun q => by
        have q := Int32.lt_iff_toInt_lt.mp q
        rw [q_nat (by omega)] at q
        have e : (0 : Int32).toInt = 0 := rfl
        omega), hsz]
      by_cases l : j < z
      · rw [if_pos ((q_lt (by omega) (by omega)).mpr l), if_pos l]
      · rw [if_neg (fun q => l ((q_lt (by omega) (by omega)).mp q)), if_neg l]
    have hfp : d_fop0 (Int32.ofNat j0 + (2 : Int32) * Int32.ofNat i) g = if z ≤ j0 + 2 * i + 1 then 2 else 0 := by
      unfold d_fop0
      rw [ex, q_succ, hfa _ (by omega), hfa _ (by omega)]
      by_cases l : z ≤ j0 + 2 * i + 1
      · rw [if_pos l, if_neg (show ¬ j0 + 2 * i + 1 < z by omega)]
        by_cases l2 : j0 + 2 * i < z
        · rw [if_pos l2, if_pos rfl]
        · rw [if_neg l2, if_neg (by decide)]
      · rw [if_neg l, if_pos (show j0 + 2 * i < z by omega), if_pos rfl, if_pos (show j0 + 2 * i + 1 < z by omega)]
    have hbp := b_fop0 (Int32.ofNat j0 + (2 : Int32) * Int32.ofNat i) g u
    rw [hfp] at hbp
    by_cases hc1 : z ≤ j0 + 2 * i + 1
    · refine q_call (M2 := 140) (rest := []) (by rw [if_pos hc1] at hbp; exact hbp) (fun _ _ => rfl) ?_
      refine q_step 3 47 [(0, .ref 8), (1, .int (0 : Int32)), (2, .int la), (3, .int (Int32.ofNat j0)), (4, .int (Int32.ofNat m)), (5, .ref 62), (6, .int (2 : Int32)), (7, .int (Int32.ofNat i))] [] g u (fun big n0 => sg_rd_22 big n0 g u la (Int32.ofNat j0) (Int32.ofNat m) (Int32.ofNat i)) ?_
      refine q_step 2 104 [(0, .ref 8), (1, .int (0 : Int32)), (2, .int la), (3, .int (Int32.ofNat j0)), (4, .int (Int32.ofNat m)), (5, .ref 62), (6, .int (2 : Int32)), (7, .int (Int32.ofNat i))] [] g u (fun big n0 => sg_rd_23 big n0 g u la (Int32.ofNat j0) (Int32.ofNat m) (Int32.ofNat i)) ?_
      exact hk _ i (by rw [f_rd, if_pos hc1])
    · refine q_call (M2 := 140) (rest := []) (by rw [if_neg hc1] at hbp; exact hbp) (fun _ _ => rfl) ?_
      refine q_step 10 86 [(0, .ref 8), (1, .int (0 : Int32)), (2, .int la), (3, .int (Int32.ofNat j0)), (4, .int (Int32.ofNat m)), (5, .ref 62), (6, .int (0 : Int32)), (7, .int (Int32.ofNat i))] [.int ((Int32.ofNat j0) + ((2 : Int32) * (Int32.ofNat i))), .ref 62, .ref 8] g u (fun big n0 => sg_rd_24 big n0 g u la (Int32.ofNat j0) (Int32.ofNat m) (Int32.ofNat i)) ?_
      by_cases hc2 : n_tl n (g 63) (j0 + 2 * i) = 0
      · have htl := cw_tell0 g u (n := n) (j := j0 + 2 * i) hn (by omega)
        rw [if_pos hc2, ← ex] at htl
        refine q_call (M2 := 141) (rest := []) (htl) (fun _ _ => rfl) ?_
        refine q_ret 5 (some (.int ((Int8.toInt32 (Int8.ofInt (-20))) - (Int32.ofNat i))), g, u) (fun _ _ => rfl) ?_
        exact hb i (by rw [f_rd, if_neg hc1, if_pos hc2])
      · have htl := cw_tell0 g u (n := n) (j := j0 + 2 * i) hn (by omega)
        rw [if_neg hc2, ← ex] at htl
        refine q_call (M2 := 141) (rest := []) (htl) (fun _ _ => rfl) ?_
        refine q_step 3 47 [(0, .ref 8), (1, .int (0 : Int32)), (2, .int la), (3, .int (Int32.ofNat j0)), (4, .int (Int32.ofNat m)), (5, .ref 62), (6, .int (0 : Int32)), (7, .int ((Int32.ofNat i) + (1 : Int32)))] [] g u (fun big n0 => sg_rd_25 big n0 g u la (Int32.ofNat j0) (Int32.ofNat m) (Int32.ofNat i)) ?_
        have e : f_rd (n_tl n (g 63)) z j0 (k + 1) i = f_rd (n_tl n (g 63)) z j0 k (i + 1) := by rw [f_rd, if_neg hc1, if_neg hc2]
        rw [q_succ]
        exact ih (i + 1) (by omega) (fun fd w h => hk fd w (e.trans h)) (fun w h => hb w (e.trans h))
theorem cr_ws0 {n z j0 m w : Nat} {g : qM} {la fd : Int32} (u : qW) (h6 : n ≤ 6) (hz : z ≤ 40) (hw : w ≤ 20) (ht : ∀ x, x < w → (n_tl n (g 63)) (j0 + 2 * x) ≠ 0 ∧ j0 + 2 * x + 1 < z) : ∀ k i ff, i + k = w → q_EV m_138 107 [(0, .ref 8), (1, .int (0 : Int32)), (2, .int la), (3, .int (Int32.ofNat j0)), (4, .int (Int32.ofNat m)), (5, .ref 62), (6, .int fd), (7, .int (Int32.ofNat w)), (8, .int (Int32.ofNat i))] [] (s_m22 ff g) u (fun R => R = (some (.int (Int32.ofNat w)), q_up (s_m22 (f_ws (g 63) j0 k i ff) g) 8 8 fd, u)) := by
  intro k
  induction k with
  | zero =>
    intro i ff hi
    refine q_step 2 111 [(0, .ref 8), (1, .int (0 : Int32)), (2, .int la), (3, .int (Int32.ofNat j0)), (4, .int (Int32.ofNat m)), (5, .ref 62), (6, .int fd), (7, .int (Int32.ofNat w)), (8, .int (Int32.ofNat i))] [.int (Int32.ofNat w), .int (Int32.ofNat i)] (s_m22 ff g) u (fun big n0 => sg_rd_26 big n0 (s_m22 ff g) u la (Int32.ofNat j0) (Int32.ofNat m) fd (Int32.ofNat w) (Int32.ofNat i)) ?_
    refine q_ic_ge rfl (fun (hc0 : (Int32.ofNat w) ≤ (Int32.ofNat i)) => ?_) (fun hc0 => absurd (show (Int32.ofNat w) ≤ (Int32.ofNat i) from by have z2 : i = w := hi; exact (q_le (i := w) (j := i) (by omega) (by omega)).mpr (by omega)) hc0)
    refine q_ret 5 (some (.int (Int32.ofNat w)), (q_up (s_m22 ff g) 8 8 fd), u) (fun _ _ => rfl) ?_
    rfl
  | succ k ih =>
    intro i ff hi
    obtain ⟨ht1, ht2⟩ := ht i (by omega)
    obtain ⟨⟨p, hp, ep⟩, _⟩ := n_tl_1 h6 ht1
    have ex : Int32.ofNat j0 + (2 : Int32) * Int32.ofNat i = Int32.ofNat (j0 + 2 * i) := by
      rw [show (2 : Int32) = Int32.ofNat 2 from rfl, q_mul, q_add]
    refine q_step 2 111 [(0, .ref 8), (1, .int (0 : Int32)), (2, .int la), (3, .int (Int32.ofNat j0)), (4, .int (Int32.ofNat m)), (5, .ref 62), (6, .int fd), (7, .int (Int32.ofNat w)), (8, .int (Int32.ofNat i))] [.int (Int32.ofNat w), .int (Int32.ofNat i)] (s_m22 ff g) u (fun big n0 => sg_rd_26 big n0 (s_m22 ff g) u la (Int32.ofNat j0) (Int32.ofNat m) fd (Int32.ofNat w) (Int32.ofNat i)) ?_
    refine q_ic_ge rfl (fun hc0 => absurd (show (Int32.ofNat w) ≤ (Int32.ofNat i) from hc0) (fun z => by exact absurd ((q_le (by omega) (by omega)).mp z) (by omega))) (fun (hc0 : ¬ ((Int32.ofNat w) ≤ (Int32.ofNat i))) => ?_)
    refine q_step 10 132 [(0, .ref 8), (1, .int (0 : Int32)), (2, .int la), (3, .int (Int32.ofNat j0)), (4, .int (Int32.ofNat m)), (5, .ref 62), (6, .int fd), (7, .int (Int32.ofNat w)), (8, .int (Int32.ofNat i))] [.int ((Int32.ofNat j0) + ((2 : Int32) * (Int32.ofNat i))), .ref 63, .ref 22] (s_m22 ff g) u (fun big n0 => sg_rd_27 big n0 (s_m22 ff g) u la (Int32.ofNat j0) (Int32.ofNat m) fd (Int32.ofNat w) (Int32.ofNat i)) ?_
    refine q_iald (j := (j0 + 2 * i)) (by rw [ex]; exact q_ixn (by omega) (by omega)) rfl rfl ?_
    refine q_step 9 146 [(0, .ref 8), (1, .int (0 : Int32)), (2, .int la), (3, .int (Int32.ofNat j0)), (4, .int (Int32.ofNat m)), (5, .ref 62), (6, .int fd), (7, .int (Int32.ofNat w)), (8, .int (Int32.ofNat i))] [.int (((Int32.ofNat j0) + ((2 : Int32) * (Int32.ofNat i))) + (1 : Int32)), .ref 63, .int (g 63 (j0 + 2 * i)), .ref 22] (s_m22 ff g) u (fun big n0 => sg_rd_28 big n0 (s_m22 ff g) u la (Int32.ofNat j0) (Int32.ofNat m) fd (Int32.ofNat w) (Int32.ofNat i) (g 63 (j0 + 2 * i))) ?_
    refine q_iald (j := (j0 + 2 * i + 1)) (by rw [ex, q_succ]; exact q_ixn (by omega) (by omega)) rfl rfl ?_
    refine q_iast (j := (g 63 (j0 + 2 * i)).toInt.toNat) (by rw [ep, q_nat (by omega)]; exact q_ixn (by omega) (by omega)) rfl rfl ?_
    refine q_step 2 107 [(0, .ref 8), (1, .int (0 : Int32)), (2, .int la), (3, .int (Int32.ofNat j0)), (4, .int (Int32.ofNat m)), (5, .ref 62), (6, .int fd), (7, .int (Int32.ofNat w)), (8, .int ((Int32.ofNat i) + (1 : Int32)))] [] (q_up (s_m22 ff g) 22 (g 63 (j0 + 2 * i)).toInt.toNat (g 63 (j0 + 2 * i + 1))) u (fun big n0 => sg_rd_29 big n0 (q_up (s_m22 ff g) 22 (g 63 (j0 + 2 * i)).toInt.toNat (g 63 (j0 + 2 * i + 1))) u la (Int32.ofNat j0) (Int32.ofNat m) fd (Int32.ofNat w) (Int32.ofNat i)) ?_
    rw [q_succ, show (q_up (s_m22 ff g) 22 (g 63 (j0 + 2 * i)).toInt.toNat (g 63 (j0 + 2 * i + 1))) = s_m22 (s_set ff (g 63 (j0 + 2 * i)).toInt.toNat (g 63 (j0 + 2 * i + 1))) g from s_m22_s]
    exact ih (i + 1) _ (by omega)

theorem cr_ok0 {n z j0 m : Nat} {g : qM} {la : Int32} (u : qW) (hn : g 20 3 = Int32.ofNat n) (h6 : n ≤ 6) (hz : z ≤ 40) (hsz : g 62 1 = Int32.ofNat z) (hj0 : j0 < 40) (hm : m ≤ 20) (hla : d_isLane la g = 1) (hf : (d_faultAs0 la g) = 0) : ∃ R, q_BS 138 [.ref 8, .int (0 : Int32), .int la, .int (Int32.ofNat j0), .int (Int32.ofNat m)] g u R ∧ ((∃ w fd, f_rd (n_tl n (g 63)) z j0 m 0 = (w, true) ∧ R = (some (.int (Int32.ofNat w)), q_up (s_m22 (f_ws (g 63) j0 w 0 (g 22)) g) 8 8 fd, u)) ∨ ∃ w, f_rd (n_tl n (g 63)) z j0 m 0 = (w, false) ∧ R = (some (.int (Int8.toInt32 (Int8.ofInt (-20)) - Int32.ofNat w)), g, u)) := by
  refine q_bs (mm := m_138) rfl (Nat.le_of_ble_eq_true rfl) rfl ?_
  refine q_step 1 1 [(0, .ref 8), (1, .int (0 : Int32)), (2, .int la), (3, .int (Int32.ofNat j0)), (4, .int (Int32.ofNat m))] [.int (0 : Int32)] g u (fun big n0 => sg_rd_4 big n0 g u la (Int32.ofNat j0) (Int32.ofNat m)) ?_
  refine q_call (M2 := 131) (rest := []) (show q_BS 131 [.int (0 : Int32)] g u (some (.int 1), g, u) from b_isSheet _ g u) (fun _ _ => rfl) ?_
  refine q_step 2 8 [(0, .ref 8), (1, .int (0 : Int32)), (2, .int la), (3, .int (Int32.ofNat j0)), (4, .int (Int32.ofNat m))] [.int la] g u (fun big n0 => sg_rd_5 big n0 g u la (Int32.ofNat j0) (Int32.ofNat m)) ?_
  have hln := b_isLane la g u
  rw [hla] at hln
  refine q_call (M2 := 132) (rest := []) (hln) (fun _ _ => rfl) ?_
  refine q_step 2 16 [(0, .ref 8), (1, .int (0 : Int32)), (2, .int la), (3, .int (Int32.ofNat j0)), (4, .int (Int32.ofNat m))] [.int (Int32.ofNat m)] g u (fun big n0 => sg_rd_6 big n0 g u la (Int32.ofNat j0) (Int32.ofNat m)) ?_
  refine q_if_lt rfl (fun hc0 => absurd (show (Int32.ofNat m) < 0 from hc0) (fun z => absurd ((q_lt (i := m) (j := 0) (by omega) (by omega)).mp z) (by omega))) (fun (hc0 : ¬ ((Int32.ofNat m) < 0)) => ?_)
  refine q_step 2 23 [(0, .ref 8), (1, .int (0 : Int32)), (2, .int la), (3, .int (Int32.ofNat j0)), (4, .int (Int32.ofNat m))] [.int (20 : Int32), .int (Int32.ofNat m)] g u (fun big n0 => sg_rd_7 big n0 g u la (Int32.ofNat j0) (Int32.ofNat m)) ?_
  refine q_ic_le rfl (fun (hc1 : (Int32.ofNat m) ≤ (20 : Int32)) => ?_) (fun hc1 => absurd (show (Int32.ofNat m) ≤ (20 : Int32) from (q_le (i := m) (j := 20) (by omega) (by omega)).mpr (by omega)) hc1)
  refine q_step 7 39 [(0, .ref 8), (1, .int (0 : Int32)), (2, .int la), (3, .int (Int32.ofNat j0)), (4, .int (Int32.ofNat m)), (5, .ref 62)] [.int la, .ref 62] g u (fun big n0 => sg_rd_8 big n0 g u la (Int32.ofNat j0) (Int32.ofNat m)) ?_
  have hfs := b_faultAs0 la g u
  rw [hf] at hfs
  refine q_call (M2 := 139) (rest := []) (hfs) (fun _ _ => rfl) ?_
  refine q_step 3 47 [(0, .ref 8), (1, .int (0 : Int32)), (2, .int la), (3, .int (Int32.ofNat j0)), (4, .int (Int32.ofNat m)), (5, .ref 62), (6, .int (0 : Int32)), (7, .int (0 : Int32))] [] g u (fun big n0 => sg_rd_30 big n0 g u la (Int32.ofNat j0) (Int32.ofNat m)) ?_
  refine cr_in0 u hn h6 hz hsz hj0 hm m 0 (by omega) (fun fd w hw => ?_) (fun w hw => Or.inr ⟨w, hw, rfl⟩)
  have hle := f_rd_le m 0 w true hw
  refine q_step 2 107 [(0, .ref 8), (1, .int (0 : Int32)), (2, .int la), (3, .int (Int32.ofNat j0)), (4, .int (Int32.ofNat m)), (5, .ref 62), (6, .int fd), (7, .int (Int32.ofNat w)), (8, .int (0 : Int32))] [] g u (fun big n0 => sg_rd_31 big n0 g u la (Int32.ofNat j0) (Int32.ofNat m) fd (Int32.ofNat w)) ?_
  have e := cr_ws0 (m := m) (la := la) (fd := fd) (g := g) u h6 hz (w := w) (j0 := j0) (by omega) (fun x hx => hle.2.2 x (Nat.zero_le _) hx) w 0 (g 22) (by omega)
  rw [s_m22_0] at e
  exact q_EV.imp e (fun R h => Or.inl ⟨w, fd, hw, h⟩)
def d_fop1 (x : Int32) (g : qM) : Int32 := (if (d_faultAt1 x g) = 0 then (d_faultAt1 (x + (1 : Int32)) g) else (d_faultAt1 x g))
theorem b_fop1 (x : Int32) (g : qM) (u : qW) : q_BS 140 [.ref 64, .int x] g u (some (.int (d_fop1 x g)), g, u) := by
  refine q_bx (mm := m_140) rfl (Nat.le_of_ble_eq_true rfl) rfl ?_
  refine q_step 2 2 [(0, .ref 64), (1, .int x)] [.int x, .ref 64] g u (fun big n0 => sg_rd_32 big n0 g u x) ?_
  refine q_call (M2 := 135) (rest := []) (b_faultAt1 _ _ _) (fun _ _ => rfl) ?_
  refine q_step 2 7 [(0, .ref 64), (1, .int x), (2, .int (d_faultAt1 x g))] [.int (d_faultAt1 x g)] g u (fun big n0 => sg_rd_33 big n0 g u x (d_faultAt1 x g)) ?_
  refine q_if_eq rfl (fun (hc0 : (d_faultAt1 x g) = 0) => ?_) (fun (hc0 : ¬ ((d_faultAt1 x g) = 0)) => ?_)
  · refine q_step 4 18 [(0, .ref 64), (1, .int x), (2, .int (d_faultAt1 x g))] [.int (x + (1 : Int32)), .ref 64] g u (fun big n0 => sg_rd_34 big n0 g u x (d_faultAt1 x g)) ?_
    refine q_call (M2 := 135) (rest := []) (b_faultAt1 _ _ _) (fun _ _ => rfl) ?_
    refine q_ret 1 (some (.int (d_faultAt1 (x + (1 : Int32)) g)), g, u) (fun _ _ => rfl) ?_
    unfold d_fop1
    rw [if_pos hc0]
  · refine q_ret 3 (some (.int (d_faultAt1 x g)), g, u) (fun _ _ => rfl) ?_
    unfold d_fop1
    rw [if_neg hc0]
theorem cr_zA1 (g : qM) (u : qW) {la f : Int32} {m : Nat} (hm : m ≤ 20) (hla : d_isLane la g = 1) (hf : ¬ (d_faultAs1 la g) = 0) : q_BS 138 [.ref 8, .int (1 : Int32), .int la, .int f, .int (Int32.ofNat m)] g u (some (.int 0), q_up g 8 8 (d_faultAs1 la g), u) := by
  refine q_bx (mm := m_138) rfl (Nat.le_of_ble_eq_true rfl) rfl ?_
  refine q_step 1 1 [(0, .ref 8), (1, .int (1 : Int32)), (2, .int la), (3, .int f), (4, .int (Int32.ofNat m))] [.int (1 : Int32)] g u (fun big n0 => sg_rd_35 big n0 g u la f (Int32.ofNat m)) ?_
  refine q_call (M2 := 131) (rest := []) (show q_BS 131 [.int (1 : Int32)] g u (some (.int 1), g, u) from b_isSheet _ g u) (fun _ _ => rfl) ?_
  refine q_step 2 8 [(0, .ref 8), (1, .int (1 : Int32)), (2, .int la), (3, .int f), (4, .int (Int32.ofNat m))] [.int la] g u (fun big n0 => sg_rd_36 big n0 g u la f (Int32.ofNat m)) ?_
  have hln := b_isLane la g u
  rw [hla] at hln
  refine q_call (M2 := 132) (rest := []) (hln) (fun _ _ => rfl) ?_
  refine q_step 2 16 [(0, .ref 8), (1, .int (1 : Int32)), (2, .int la), (3, .int f), (4, .int (Int32.ofNat m))] [.int (Int32.ofNat m)] g u (fun big n0 => sg_rd_37 big n0 g u la f (Int32.ofNat m)) ?_
  refine q_if_lt rfl (fun hc0 => absurd (show (Int32.ofNat m) < 0 from hc0) (fun z => absurd ((q_lt (i := m) (j := 0) (by omega) (by omega)).mp z) (by omega))) (fun (hc0 : ¬ ((Int32.ofNat m) < 0)) => ?_)
  refine q_step 2 23 [(0, .ref 8), (1, .int (1 : Int32)), (2, .int la), (3, .int f), (4, .int (Int32.ofNat m))] [.int (20 : Int32), .int (Int32.ofNat m)] g u (fun big n0 => sg_rd_38 big n0 g u la f (Int32.ofNat m)) ?_
  refine q_ic_le rfl (fun (hc1 : (Int32.ofNat m) ≤ (20 : Int32)) => ?_) (fun hc1 => absurd (show (Int32.ofNat m) ≤ (20 : Int32) from (q_le (i := m) (j := 20) (by omega) (by omega)).mpr (by omega)) hc1)
  refine q_step 7 39 [(0, .ref 8), (1, .int (1 : Int32)), (2, .int la), (3, .int f), (4, .int (Int32.ofNat m)), (5, .ref 64)] [.int la, .ref 64] g u (fun big n0 => sg_rd_39 big n0 g u la f (Int32.ofNat m)) ?_
  refine q_call (M2 := 139) (rest := []) (b_faultAs1 la g u) (fun _ _ => rfl) ?_
  refine q_step 4 49 [(0, .ref 8), (1, .int (1 : Int32)), (2, .int la), (3, .int f), (4, .int (Int32.ofNat m)), (5, .ref 64), (6, .int (d_faultAs1 la g)), (7, .int (0 : Int32))] [.int (d_faultAs1 la g)] g u (fun big n0 => sg_rd_40 big n0 g u la f (Int32.ofNat m) (d_faultAs1 la g)) ?_
  refine q_if_ne rfl (fun hc2 => absurd (show (d_faultAs1 la g) = 0 from hc2) (hf)) (fun (hc2 : ¬ ((d_faultAs1 la g) = 0)) => ?_)
  refine q_ret 10 (some (.int (0 : Int32)), (q_up g 8 8 (d_faultAs1 la g)), u) (fun _ _ => rfl) ?_
  rfl
theorem cr_zB1 (g : qM) (u : qW) {la f : Int32} (hla : d_isLane la g = 1) (hf : (d_faultAs1 la g) = 0) : q_BS 138 [.ref 8, .int (1 : Int32), .int la, .int f, .int (0 : Int32)] g u (some (.int 0), q_up g 8 8 (d_faultAs1 la g), u) := by
  refine q_bx (mm := m_138) rfl (Nat.le_of_ble_eq_true rfl) rfl ?_
  refine q_step 1 1 [(0, .ref 8), (1, .int (1 : Int32)), (2, .int la), (3, .int f), (4, .int (0 : Int32))] [.int (1 : Int32)] g u (fun big n0 => sg_rd_41 big n0 g u la f) ?_
  refine q_call (M2 := 131) (rest := []) (show q_BS 131 [.int (1 : Int32)] g u (some (.int 1), g, u) from b_isSheet _ g u) (fun _ _ => rfl) ?_
  refine q_step 2 8 [(0, .ref 8), (1, .int (1 : Int32)), (2, .int la), (3, .int f), (4, .int (0 : Int32))] [.int la] g u (fun big n0 => sg_rd_42 big n0 g u la f) ?_
  have hln := b_isLane la g u
  rw [hla] at hln
  refine q_call (M2 := 132) (rest := []) (hln) (fun _ _ => rfl) ?_
  refine q_step 13 39 [(0, .ref 8), (1, .int (1 : Int32)), (2, .int la), (3, .int f), (4, .int (0 : Int32)), (5, .ref 64)] [.int la, .ref 64] g u (fun big n0 => sg_rd_43 big n0 g u la f) ?_
  refine q_call (M2 := 139) (rest := []) (b_faultAs1 la g u) (fun _ _ => rfl) ?_
  refine q_step 4 49 [(0, .ref 8), (1, .int (1 : Int32)), (2, .int la), (3, .int f), (4, .int (0 : Int32)), (5, .ref 64), (6, .int (d_faultAs1 la g)), (7, .int (0 : Int32))] [.int (d_faultAs1 la g)] g u (fun big n0 => sg_rd_44 big n0 g u la f (d_faultAs1 la g)) ?_
  refine q_if_ne rfl (fun (hc0 : (d_faultAs1 la g) = 0) => ?_) (fun hc0 => absurd (show (d_faultAs1 la g) = 0 from hf) hc0)
  refine q_ret 13 (some (.int (0 : Int32)), (q_up g 8 8 (d_faultAs1 la g)), u) (fun _ _ => rfl) ?_
  rfl
theorem cr_zC1 (g : qM) (u : qW) {la f : Int32} {m : Nat} (hm : m ≤ 20) (hla : d_isLane la g = 1) (hm1 : 1 ≤ m) (hf : (d_faultAs1 la g) = 0) (hp : ¬ (d_fop1 (f + ((2 : Int32) * (0 : Int32))) g) = 0) : q_BS 138 [.ref 8, .int (1 : Int32), .int la, .int f, .int (Int32.ofNat m)] g u (some (.int 0), q_up g 8 8 (d_fop1 (f + ((2 : Int32) * (0 : Int32))) g), u) := by
  refine q_bx (mm := m_138) rfl (Nat.le_of_ble_eq_true rfl) rfl ?_
  refine q_step 1 1 [(0, .ref 8), (1, .int (1 : Int32)), (2, .int la), (3, .int f), (4, .int (Int32.ofNat m))] [.int (1 : Int32)] g u (fun big n0 => sg_rd_35 big n0 g u la f (Int32.ofNat m)) ?_
  refine q_call (M2 := 131) (rest := []) (show q_BS 131 [.int (1 : Int32)] g u (some (.int 1), g, u) from b_isSheet _ g u) (fun _ _ => rfl) ?_
  refine q_step 2 8 [(0, .ref 8), (1, .int (1 : Int32)), (2, .int la), (3, .int f), (4, .int (Int32.ofNat m))] [.int la] g u (fun big n0 => sg_rd_36 big n0 g u la f (Int32.ofNat m)) ?_
  have hln := b_isLane la g u
  rw [hla] at hln
  refine q_call (M2 := 132) (rest := []) (hln) (fun _ _ => rfl) ?_
  refine q_step 2 16 [(0, .ref 8), (1, .int (1 : Int32)), (2, .int la), (3, .int f), (4, .int (Int32.ofNat m))] [.int (Int32.ofNat m)] g u (fun big n0 => sg_rd_37 big n0 g u la f (Int32.ofNat m)) ?_
  refine q_if_lt rfl (fun hc0 => absurd (show (Int32.ofNat m) < 0 from hc0) (fun z => absurd ((q_lt (i := m) (j := 0) (by omega) (by omega)).mp z) (by omega))) (fun (hc0 : ¬ ((Int32.ofNat m) < 0)) => ?_)
  refine q_step 2 23 [(0, .ref 8), (1, .int (1 : Int32)), (2, .int la), (3, .int f), (4, .int (Int32.ofNat m))] [.int (20 : Int32), .int (Int32.ofNat m)] g u (fun big n0 => sg_rd_38 big n0 g u la f (Int32.ofNat m)) ?_
  refine q_ic_le rfl (fun (hc1 : (Int32.ofNat m) ≤ (20 : Int32)) => ?_) (fun hc1 => absurd (show (Int32.ofNat m) ≤ (20 : Int32) from (q_le (i := m) (j := 20) (by omega) (by omega)).mpr (by omega)) hc1)
  refine q_step 7 39 [(0, .ref 8), (1, .int (1 : Int32)), (2, .int la), (3, .int f), (4, .int (Int32.ofNat m)), (5, .ref 64)] [.int la, .ref 64] g u (fun big n0 => sg_rd_39 big n0 g u la f (Int32.ofNat m)) ?_
  refine q_call (M2 := 139) (rest := []) (b_faultAs1 la g u) (fun _ _ => rfl) ?_
  refine q_step 4 49 [(0, .ref 8), (1, .int (1 : Int32)), (2, .int la), (3, .int f), (4, .int (Int32.ofNat m)), (5, .ref 64), (6, .int (d_faultAs1 la g)), (7, .int (0 : Int32))] [.int (d_faultAs1 la g)] g u (fun big n0 => sg_rd_40 big n0 g u la f (Int32.ofNat m) (d_faultAs1 la g)) ?_
  refine q_if_ne rfl (fun (hc2 : (d_faultAs1 la g) = 0) => ?_) (fun hc2 => absurd (show (d_faultAs1 la g) = 0 from hf) hc2)
  refine q_step 2 56 [(0, .ref 8), (1, .int (1 : Int32)), (2, .int la), (3, .int f), (4, .int (Int32.ofNat m)), (5, .ref 64), (6, .int (d_faultAs1 la g)), (7, .int (0 : Int32))] [.int (Int32.ofNat m), .int (0 : Int32)] g u (fun big n0 => sg_rd_45 big n0 g u la f (Int32.ofNat m) (d_faultAs1 la g)) ?_
  refine q_ic_ge rfl (fun hc3 => absurd (show (Int32.ofNat m) ≤ (0 : Int32) from hc3) (fun z => absurd ((q_le (i := m) (j := 0) (by omega) (by omega)).mp z) (by omega))) (fun (hc3 : ¬ ((Int32.ofNat m) ≤ (0 : Int32))) => ?_)
  refine q_step 6 67 [(0, .ref 8), (1, .int (1 : Int32)), (2, .int la), (3, .int f), (4, .int (Int32.ofNat m)), (5, .ref 64), (6, .int (d_faultAs1 la g)), (7, .int (0 : Int32))] [.int (f + (0 : Int32)), .ref 64] g u (fun big n0 => sg_rd_46 big n0 g u la f (Int32.ofNat m) (d_faultAs1 la g)) ?_
  refine q_call (M2 := 140) (rest := []) (b_fop1 _ g u) (fun _ _ => rfl) ?_
  refine q_step 2 74 [(0, .ref 8), (1, .int (1 : Int32)), (2, .int la), (3, .int f), (4, .int (Int32.ofNat m)), (5, .ref 64), (6, .int (d_fop1 (f + (0 : Int32)) g)), (7, .int (0 : Int32))] [.int (d_fop1 (f + (0 : Int32)) g)] g u (fun big n0 => sg_rd_47 big n0 g u la f (Int32.ofNat m) (d_faultAs1 la g) (d_fop1 (f + (0 : Int32)) g)) ?_
  refine q_if_ne rfl (fun hc4 => absurd (show (d_fop1 (f + (0 : Int32)) g) = 0 from hc4) (hp)) (fun (hc4 : ¬ ((d_fop1 (f + (0 : Int32)) g) = 0)) => ?_)
  refine q_step 1 49 [(0, .ref 8), (1, .int (1 : Int32)), (2, .int la), (3, .int f), (4, .int (Int32.ofNat m)), (5, .ref 64), (6, .int (d_fop1 (f + (0 : Int32)) g)), (7, .int (0 : Int32))] [.int (d_fop1 (f + (0 : Int32)) g)] g u (fun big n0 => sg_rd_48 big n0 g u la f (Int32.ofNat m) (d_fop1 (f + (0 : Int32)) g)) ?_
  refine q_if_ne rfl (fun hc5 => absurd (show (d_fop1 (f + (0 : Int32)) g) = 0 from hc5) (hp)) (fun (hc5 : ¬ ((d_fop1 (f + (0 : Int32)) g) = 0)) => ?_)
  refine q_ret 10 (some (.int (0 : Int32)), (q_up g 8 8 (d_fop1 (f + (0 : Int32)) g)), u) (fun _ _ => rfl) ?_
  rfl
theorem cw_tell1 (g : qM) (u : qW) {n j : Nat} (hn : g 20 3 = Int32.ofNat n) (hj : j + 1 < 40) : q_BS 141 [.ref 8, .ref 64, .int (Int32.ofNat j)] g u (some (.int (if n_tl n (g 65) j = 0 then (0 : Int32) else 1)), g, u) := by
  refine q_bx (mm := m_141) rfl (Nat.le_of_ble_eq_true rfl) rfl ?_
  refine q_step 5 9 [(0, .ref 8), (1, .ref 64), (2, .int (Int32.ofNat j))] [.int (Int32.ofNat j), .ref 65, .ref 20] g u (fun big n0 => sg_rd_49 big n0 g u (Int32.ofNat j)) ?_
  refine q_iald (j := j) (q_ixn (by omega) (by omega)) rfl rfl ?_
  refine q_call (M2 := 40) (rest := []) (b_hasOne (g 65 j) g u) (fun _ _ => rfl) ?_
  refine q_if_eq rfl (fun (hc0 : (d_hasOne (g 65 j) g) = 0) => ?_) (fun (hc0 : ¬ ((d_hasOne (g 65 j) g) = 0)) => ?_)
  · refine q_ret 2 (some (.int (0 : Int32)), g, u) (fun _ _ => rfl) ?_
    rw [n_tl_c (n := n) hn, if_pos hc0]
  · refine q_step 5 23 [(0, .ref 8), (1, .ref 64), (2, .int (Int32.ofNat j))] [.int ((Int32.ofNat j) + (1 : Int32)), .ref 65] g u (fun big n0 => sg_rd_50 big n0 g u (Int32.ofNat j)) ?_
    refine q_iald (j := (j + 1)) (by rw [q_succ]; exact q_ixn (by omega) (by omega)) rfl rfl ?_
    refine q_call (M2 := 48) (rest := []) (b_isMood (g 65 (j + 1)) g u) (fun _ _ => rfl) ?_
    refine q_if_eq rfl (fun (hc1 : (d_isMood (g 65 (j + 1)) g) = 0) => ?_) (fun (hc1 : ¬ ((d_isMood (g 65 (j + 1)) g) = 0)) => ?_)
    · refine q_ret 2 (some (.int (0 : Int32)), g, u) (fun _ _ => rfl) ?_
      rw [n_tl_c (n := n) hn, if_neg hc0, if_pos hc1]
    · refine q_ret 3 (some (.int (1 : Int32)), g, u) (fun _ _ => rfl) ?_
      rw [n_tl_c (n := n) hn, if_neg hc0, if_neg hc1]
theorem cr_in1 {n z j0 m : Nat} {g : qM} {la : Int32} (u : qW) (hn : g 20 3 = Int32.ofNat n) (h6 : n ≤ 6) (hz : z ≤ 40) (hsz : g 64 1 = Int32.ofNat z) (hj0 : j0 < 40) (hm : m ≤ 20) {Q : Option Value × qM × qW → Prop} : ∀ k i, i + k = m → (∀ fd w, f_rd (n_tl n (g 65)) z j0 k i = (w, true) → q_EV m_138 104 [(0, .ref 8), (1, .int (1 : Int32)), (2, .int la), (3, .int (Int32.ofNat j0)), (4, .int (Int32.ofNat m)), (5, .ref 64), (6, .int fd), (7, .int (Int32.ofNat w))] [] g u Q) → (∀ w, f_rd (n_tl n (g 65)) z j0 k i = (w, false) → Q (some (.int (Int8.toInt32 (Int8.ofInt (-20)) - Int32.ofNat w)), g, u)) → q_EV m_138 47 [(0, .ref 8), (1, .int (1 : Int32)), (2, .int la), (3, .int (Int32.ofNat j0)), (4, .int (Int32.ofNat m)), (5, .ref 64), (6, .int (0 : Int32)), (7, .int (Int32.ofNat i))] [] g u Q := by
  intro k
  induction k with
  | zero =>
    intro i hi hk hb
    refine q_step 4 56 [(0, .ref 8), (1, .int (1 : Int32)), (2, .int la), (3, .int (Int32.ofNat j0)), (4, .int (Int32.ofNat m)), (5, .ref 64), (6, .int (0 : Int32)), (7, .int (Int32.ofNat i))] [.int (Int32.ofNat m), .int (Int32.ofNat i)] g u (fun big n0 => sg_rd_51 big n0 g u la (Int32.ofNat j0) (Int32.ofNat m) (Int32.ofNat i)) ?_
    refine q_ic_ge rfl (fun (hc0 : (Int32.ofNat m) ≤ (Int32.ofNat i)) => ?_) (fun hc0 => absurd (show (Int32.ofNat m) ≤ (Int32.ofNat i) from by exact (q_le (by omega) (by omega)).mpr (by omega)) hc0)
    exact hk _ _ rfl
  | succ k ih =>
    intro i hi hk hb
    refine q_step 4 56 [(0, .ref 8), (1, .int (1 : Int32)), (2, .int la), (3, .int (Int32.ofNat j0)), (4, .int (Int32.ofNat m)), (5, .ref 64), (6, .int (0 : Int32)), (7, .int (Int32.ofNat i))] [.int (Int32.ofNat m), .int (Int32.ofNat i)] g u (fun big n0 => sg_rd_51 big n0 g u la (Int32.ofNat j0) (Int32.ofNat m) (Int32.ofNat i)) ?_
    refine q_ic_ge rfl (fun hc0 => absurd (show (Int32.ofNat m) ≤ (Int32.ofNat i) from hc0) (fun z => by exact absurd ((q_le (by omega) (by omega)).mp z) (by omega))) (fun (hc0 : ¬ ((Int32.ofNat m) ≤ (Int32.ofNat i))) => ?_)
    refine q_step 6 67 [(0, .ref 8), (1, .int (1 : Int32)), (2, .int la), (3, .int (Int32.ofNat j0)), (4, .int (Int32.ofNat m)), (5, .ref 64), (6, .int (0 : Int32)), (7, .int (Int32.ofNat i))] [.int ((Int32.ofNat j0) + ((2 : Int32) * (Int32.ofNat i))), .ref 64] g u (fun big n0 => sg_rd_52 big n0 g u la (Int32.ofNat j0) (Int32.ofNat m) (Int32.ofNat i)) ?_
    have ex : Int32.ofNat j0 + (2 : Int32) * Int32.ofNat i = Int32.ofNat (j0 + 2 * i) := by
      rw [show (2 : Int32) = Int32.ofNat 2 from rfl, q_mul, q_add]
    have hnn : d_isNothing1 g = 0 := by
      unfold d_isNothing1
      rw [hsz, if_neg (fun z2 => by
        have z3 := congrArg Int32.toInt z2
        rw [q_nat (by omega)] at z3
        have e : (Int32.ofInt (-1)).toInt = -1 := rfl
        omega)]
    have hfa : ∀ j, j < 1000 → d_faultAt1 (Int32.ofNat j) g = if j < z then 0 else 2 := fun j hj => by
      unfold d_faultAt1
      rw [hnn, if_pos rfl, if_neg (fun q => by
        have q := Int32.lt_iff_toInt_lt.mp q
        rw [q_nat (by omega)] at q
        have e : (0 : Int32).toInt = 0 := rfl
        omega), hsz]
      by_cases l : j < z
      · rw [if_pos ((q_lt (by omega) (by omega)).mpr l), if_pos l]
      · rw [if_neg (fun q => l ((q_lt (by omega) (by omega)).mp q)), if_neg l]
    have hfp : d_fop1 (Int32.ofNat j0 + (2 : Int32) * Int32.ofNat i) g = if z ≤ j0 + 2 * i + 1 then 2 else 0 := by
      unfold d_fop1
      rw [ex, q_succ, hfa _ (by omega), hfa _ (by omega)]
      by_cases l : z ≤ j0 + 2 * i + 1
      · rw [if_pos l, if_neg (show ¬ j0 + 2 * i + 1 < z by omega)]
        by_cases l2 : j0 + 2 * i < z
        · rw [if_pos l2, if_pos rfl]
        · rw [if_neg l2, if_neg (by decide)]
      · rw [if_neg l, if_pos (show j0 + 2 * i < z by omega), if_pos rfl, if_pos (show j0 + 2 * i + 1 < z by omega)]
    have hbp := b_fop1 (Int32.ofNat j0 + (2 : Int32) * Int32.ofNat i) g u
    rw [hfp] at hbp
    by_cases hc1 : z ≤ j0 + 2 * i + 1
    · refine q_call (M2 := 140) (rest := []) (by rw [if_pos hc1] at hbp; exact hbp) (fun _ _ => rfl) ?_
      refine q_step 3 47 [(0, .ref 8), (1, .int (1 : Int32)), (2, .int la), (3, .int (Int32.ofNat j0)), (4, .int (Int32.ofNat m)), (5, .ref 64), (6, .int (2 : Int32)), (7, .int (Int32.ofNat i))] [] g u (fun big n0 => sg_rd_53 big n0 g u la (Int32.ofNat j0) (Int32.ofNat m) (Int32.ofNat i)) ?_
      refine q_step 2 104 [(0, .ref 8), (1, .int (1 : Int32)), (2, .int la), (3, .int (Int32.ofNat j0)), (4, .int (Int32.ofNat m)), (5, .ref 64), (6, .int (2 : Int32)), (7, .int (Int32.ofNat i))] [] g u (fun big n0 => sg_rd_54 big n0 g u la (Int32.ofNat j0) (Int32.ofNat m) (Int32.ofNat i)) ?_
      exact hk _ i (by rw [f_rd, if_pos hc1])
    · refine q_call (M2 := 140) (rest := []) (by rw [if_neg hc1] at hbp; exact hbp) (fun _ _ => rfl) ?_
      refine q_step 10 86 [(0, .ref 8), (1, .int (1 : Int32)), (2, .int la), (3, .int (Int32.ofNat j0)), (4, .int (Int32.ofNat m)), (5, .ref 64), (6, .int (0 : Int32)), (7, .int (Int32.ofNat i))] [.int ((Int32.ofNat j0) + ((2 : Int32) * (Int32.ofNat i))), .ref 64, .ref 8] g u (fun big n0 => sg_rd_55 big n0 g u la (Int32.ofNat j0) (Int32.ofNat m) (Int32.ofNat i)) ?_
      by_cases hc2 : n_tl n (g 65) (j0 + 2 * i) = 0
      · have htl := cw_tell1 g u (n := n) (j := j0 + 2 * i) hn (by omega)
        rw [if_pos hc2, ← ex] at htl
        refine q_call (M2 := 141) (rest := []) (htl) (fun _ _ => rfl) ?_
        refine q_ret 5 (some (.int ((Int8.toInt32 (Int8.ofInt (-20))) - (Int32.ofNat i))), g, u) (fun _ _ => rfl) ?_
        exact hb i (by rw [f_rd, if_neg hc1, if_pos hc2])
      · have htl := cw_tell1 g u (n := n) (j := j0 + 2 * i) hn (by omega)
        rw [if_neg hc2, ← ex] at htl
        refine q_call (M2 := 141) (rest := []) (htl) (fun _ _ => rfl) ?_
        refine q_step 3 47 [(0, .ref 8), (1, .int (1 : Int32)), (2, .int la), (3, .int (Int32.ofNat j0)), (4, .int (Int32.ofNat m)), (5, .ref 64), (6, .int (0 : Int32)), (7, .int ((Int32.ofNat i) + (1 : Int32)))] [] g u (fun big n0 => sg_rd_56 big n0 g u la (Int32.ofNat j0) (Int32.ofNat m) (Int32.ofNat i)) ?_
        have e : f_rd (n_tl n (g 65)) z j0 (k + 1) i = f_rd (n_tl n (g 65)) z j0 k (i + 1) := by rw [f_rd, if_neg hc1, if_neg hc2]
        rw [q_succ]
        exact ih (i + 1) (by omega) (fun fd w h => hk fd w (e.trans h)) (fun w h => hb w (e.trans h))
theorem cr_ws1 {n z j0 m w : Nat} {g : qM} {la fd : Int32} (u : qW) (h6 : n ≤ 6) (hz : z ≤ 40) (hw : w ≤ 20) (ht : ∀ x, x < w → (n_tl n (g 65)) (j0 + 2 * x) ≠ 0 ∧ j0 + 2 * x + 1 < z) : ∀ k i ff, i + k = w → q_EV m_138 107 [(0, .ref 8), (1, .int (1 : Int32)), (2, .int la), (3, .int (Int32.ofNat j0)), (4, .int (Int32.ofNat m)), (5, .ref 64), (6, .int fd), (7, .int (Int32.ofNat w)), (8, .int (Int32.ofNat i))] [] (s_m22 ff g) u (fun R => R = (some (.int (Int32.ofNat w)), q_up (s_m22 (f_ws (g 65) j0 k i ff) g) 8 8 fd, u)) := by
  intro k
  induction k with
  | zero =>
    intro i ff hi
    refine q_step 2 111 [(0, .ref 8), (1, .int (1 : Int32)), (2, .int la), (3, .int (Int32.ofNat j0)), (4, .int (Int32.ofNat m)), (5, .ref 64), (6, .int fd), (7, .int (Int32.ofNat w)), (8, .int (Int32.ofNat i))] [.int (Int32.ofNat w), .int (Int32.ofNat i)] (s_m22 ff g) u (fun big n0 => sg_rd_57 big n0 (s_m22 ff g) u la (Int32.ofNat j0) (Int32.ofNat m) fd (Int32.ofNat w) (Int32.ofNat i)) ?_
    refine q_ic_ge rfl (fun (hc0 : (Int32.ofNat w) ≤ (Int32.ofNat i)) => ?_) (fun hc0 => absurd (show (Int32.ofNat w) ≤ (Int32.ofNat i) from by have z2 : i = w := hi; exact (q_le (i := w) (j := i) (by omega) (by omega)).mpr (by omega)) hc0)
    refine q_ret 5 (some (.int (Int32.ofNat w)), (q_up (s_m22 ff g) 8 8 fd), u) (fun _ _ => rfl) ?_
    rfl
  | succ k ih =>
    intro i ff hi
    obtain ⟨ht1, ht2⟩ := ht i (by omega)
    obtain ⟨⟨p, hp, ep⟩, _⟩ := n_tl_1 h6 ht1
    have ex : Int32.ofNat j0 + (2 : Int32) * Int32.ofNat i = Int32.ofNat (j0 + 2 * i) := by
      rw [show (2 : Int32) = Int32.ofNat 2 from rfl, q_mul, q_add]
    refine q_step 2 111 [(0, .ref 8), (1, .int (1 : Int32)), (2, .int la), (3, .int (Int32.ofNat j0)), (4, .int (Int32.ofNat m)), (5, .ref 64), (6, .int fd), (7, .int (Int32.ofNat w)), (8, .int (Int32.ofNat i))] [.int (Int32.ofNat w), .int (Int32.ofNat i)] (s_m22 ff g) u (fun big n0 => sg_rd_57 big n0 (s_m22 ff g) u la (Int32.ofNat j0) (Int32.ofNat m) fd (Int32.ofNat w) (Int32.ofNat i)) ?_
    refine q_ic_ge rfl (fun hc0 => absurd (show (Int32.ofNat w) ≤ (Int32.ofNat i) from hc0) (fun z => by exact absurd ((q_le (by omega) (by omega)).mp z) (by omega))) (fun (hc0 : ¬ ((Int32.ofNat w) ≤ (Int32.ofNat i))) => ?_)
    refine q_step 10 132 [(0, .ref 8), (1, .int (1 : Int32)), (2, .int la), (3, .int (Int32.ofNat j0)), (4, .int (Int32.ofNat m)), (5, .ref 64), (6, .int fd), (7, .int (Int32.ofNat w)), (8, .int (Int32.ofNat i))] [.int ((Int32.ofNat j0) + ((2 : Int32) * (Int32.ofNat i))), .ref 65, .ref 22] (s_m22 ff g) u (fun big n0 => sg_rd_58 big n0 (s_m22 ff g) u la (Int32.ofNat j0) (Int32.ofNat m) fd (Int32.ofNat w) (Int32.ofNat i)) ?_
    refine q_iald (j := (j0 + 2 * i)) (by rw [ex]; exact q_ixn (by omega) (by omega)) rfl rfl ?_
    refine q_step 9 146 [(0, .ref 8), (1, .int (1 : Int32)), (2, .int la), (3, .int (Int32.ofNat j0)), (4, .int (Int32.ofNat m)), (5, .ref 64), (6, .int fd), (7, .int (Int32.ofNat w)), (8, .int (Int32.ofNat i))] [.int (((Int32.ofNat j0) + ((2 : Int32) * (Int32.ofNat i))) + (1 : Int32)), .ref 65, .int (g 65 (j0 + 2 * i)), .ref 22] (s_m22 ff g) u (fun big n0 => sg_rd_59 big n0 (s_m22 ff g) u la (Int32.ofNat j0) (Int32.ofNat m) fd (Int32.ofNat w) (Int32.ofNat i) (g 65 (j0 + 2 * i))) ?_
    refine q_iald (j := (j0 + 2 * i + 1)) (by rw [ex, q_succ]; exact q_ixn (by omega) (by omega)) rfl rfl ?_
    refine q_iast (j := (g 65 (j0 + 2 * i)).toInt.toNat) (by rw [ep, q_nat (by omega)]; exact q_ixn (by omega) (by omega)) rfl rfl ?_
    refine q_step 2 107 [(0, .ref 8), (1, .int (1 : Int32)), (2, .int la), (3, .int (Int32.ofNat j0)), (4, .int (Int32.ofNat m)), (5, .ref 64), (6, .int fd), (7, .int (Int32.ofNat w)), (8, .int ((Int32.ofNat i) + (1 : Int32)))] [] (q_up (s_m22 ff g) 22 (g 65 (j0 + 2 * i)).toInt.toNat (g 65 (j0 + 2 * i + 1))) u (fun big n0 => sg_rd_60 big n0 (q_up (s_m22 ff g) 22 (g 65 (j0 + 2 * i)).toInt.toNat (g 65 (j0 + 2 * i + 1))) u la (Int32.ofNat j0) (Int32.ofNat m) fd (Int32.ofNat w) (Int32.ofNat i)) ?_
    rw [q_succ, show (q_up (s_m22 ff g) 22 (g 65 (j0 + 2 * i)).toInt.toNat (g 65 (j0 + 2 * i + 1))) = s_m22 (s_set ff (g 65 (j0 + 2 * i)).toInt.toNat (g 65 (j0 + 2 * i + 1))) g from s_m22_s]
    exact ih (i + 1) _ (by omega)

theorem cr_ok1 {n z j0 m : Nat} {g : qM} {la : Int32} (u : qW) (hn : g 20 3 = Int32.ofNat n) (h6 : n ≤ 6) (hz : z ≤ 40) (hsz : g 64 1 = Int32.ofNat z) (hj0 : j0 < 40) (hm : m ≤ 20) (hla : d_isLane la g = 1) (hf : (d_faultAs1 la g) = 0) : ∃ R, q_BS 138 [.ref 8, .int (1 : Int32), .int la, .int (Int32.ofNat j0), .int (Int32.ofNat m)] g u R ∧ ((∃ w fd, f_rd (n_tl n (g 65)) z j0 m 0 = (w, true) ∧ R = (some (.int (Int32.ofNat w)), q_up (s_m22 (f_ws (g 65) j0 w 0 (g 22)) g) 8 8 fd, u)) ∨ ∃ w, f_rd (n_tl n (g 65)) z j0 m 0 = (w, false) ∧ R = (some (.int (Int8.toInt32 (Int8.ofInt (-20)) - Int32.ofNat w)), g, u)) := by
  refine q_bs (mm := m_138) rfl (Nat.le_of_ble_eq_true rfl) rfl ?_
  refine q_step 1 1 [(0, .ref 8), (1, .int (1 : Int32)), (2, .int la), (3, .int (Int32.ofNat j0)), (4, .int (Int32.ofNat m))] [.int (1 : Int32)] g u (fun big n0 => sg_rd_35 big n0 g u la (Int32.ofNat j0) (Int32.ofNat m)) ?_
  refine q_call (M2 := 131) (rest := []) (show q_BS 131 [.int (1 : Int32)] g u (some (.int 1), g, u) from b_isSheet _ g u) (fun _ _ => rfl) ?_
  refine q_step 2 8 [(0, .ref 8), (1, .int (1 : Int32)), (2, .int la), (3, .int (Int32.ofNat j0)), (4, .int (Int32.ofNat m))] [.int la] g u (fun big n0 => sg_rd_36 big n0 g u la (Int32.ofNat j0) (Int32.ofNat m)) ?_
  have hln := b_isLane la g u
  rw [hla] at hln
  refine q_call (M2 := 132) (rest := []) (hln) (fun _ _ => rfl) ?_
  refine q_step 2 16 [(0, .ref 8), (1, .int (1 : Int32)), (2, .int la), (3, .int (Int32.ofNat j0)), (4, .int (Int32.ofNat m))] [.int (Int32.ofNat m)] g u (fun big n0 => sg_rd_37 big n0 g u la (Int32.ofNat j0) (Int32.ofNat m)) ?_
  refine q_if_lt rfl (fun hc0 => absurd (show (Int32.ofNat m) < 0 from hc0) (fun z => absurd ((q_lt (i := m) (j := 0) (by omega) (by omega)).mp z) (by omega))) (fun (hc0 : ¬ ((Int32.ofNat m) < 0)) => ?_)
  refine q_step 2 23 [(0, .ref 8), (1, .int (1 : Int32)), (2, .int la), (3, .int (Int32.ofNat j0)), (4, .int (Int32.ofNat m))] [.int (20 : Int32), .int (Int32.ofNat m)] g u (fun big n0 => sg_rd_38 big n0 g u la (Int32.ofNat j0) (Int32.ofNat m)) ?_
  refine q_ic_le rfl (fun (hc1 : (Int32.ofNat m) ≤ (20 : Int32)) => ?_) (fun hc1 => absurd (show (Int32.ofNat m) ≤ (20 : Int32) from (q_le (i := m) (j := 20) (by omega) (by omega)).mpr (by omega)) hc1)
  refine q_step 7 39 [(0, .ref 8), (1, .int (1 : Int32)), (2, .int la), (3, .int (Int32.ofNat j0)), (4, .int (Int32.ofNat m)), (5, .ref 64)] [.int la, .ref 64] g u (fun big n0 => sg_rd_39 big n0 g u la (Int32.ofNat j0) (Int32.ofNat m)) ?_
  have hfs := b_faultAs1 la g u
  rw [hf] at hfs
  refine q_call (M2 := 139) (rest := []) (hfs) (fun _ _ => rfl) ?_
  refine q_step 3 47 [(0, .ref 8), (1, .int (1 : Int32)), (2, .int la), (3, .int (Int32.ofNat j0)), (4, .int (Int32.ofNat m)), (5, .ref 64), (6, .int (0 : Int32)), (7, .int (0 : Int32))] [] g u (fun big n0 => sg_rd_61 big n0 g u la (Int32.ofNat j0) (Int32.ofNat m)) ?_
  refine cr_in1 u hn h6 hz hsz hj0 hm m 0 (by omega) (fun fd w hw => ?_) (fun w hw => Or.inr ⟨w, hw, rfl⟩)
  have hle := f_rd_le m 0 w true hw
  refine q_step 2 107 [(0, .ref 8), (1, .int (1 : Int32)), (2, .int la), (3, .int (Int32.ofNat j0)), (4, .int (Int32.ofNat m)), (5, .ref 64), (6, .int fd), (7, .int (Int32.ofNat w)), (8, .int (0 : Int32))] [] g u (fun big n0 => sg_rd_62 big n0 g u la (Int32.ofNat j0) (Int32.ofNat m) fd (Int32.ofNat w)) ?_
  have e := cr_ws1 (m := m) (la := la) (fd := fd) (g := g) u h6 hz (w := w) (j0 := j0) (by omega) (fun x hx => hle.2.2 x (Nat.zero_le _) hx) w 0 (g 22) (by omega)
  rw [s_m22_0] at e
  exact q_EV.imp e (fun R h => Or.inl ⟨w, fd, hw, h⟩)
def d_fop2 (x : Int32) (g : qM) : Int32 := (if (d_faultAt2 x g) = 0 then (d_faultAt2 (x + (1 : Int32)) g) else (d_faultAt2 x g))
theorem b_fop2 (x : Int32) (g : qM) (u : qW) : q_BS 140 [.ref 66, .int x] g u (some (.int (d_fop2 x g)), g, u) := by
  refine q_bx (mm := m_140) rfl (Nat.le_of_ble_eq_true rfl) rfl ?_
  refine q_step 2 2 [(0, .ref 66), (1, .int x)] [.int x, .ref 66] g u (fun big n0 => sg_rd_63 big n0 g u x) ?_
  refine q_call (M2 := 135) (rest := []) (b_faultAt2 _ _ _) (fun _ _ => rfl) ?_
  refine q_step 2 7 [(0, .ref 66), (1, .int x), (2, .int (d_faultAt2 x g))] [.int (d_faultAt2 x g)] g u (fun big n0 => sg_rd_64 big n0 g u x (d_faultAt2 x g)) ?_
  refine q_if_eq rfl (fun (hc0 : (d_faultAt2 x g) = 0) => ?_) (fun (hc0 : ¬ ((d_faultAt2 x g) = 0)) => ?_)
  · refine q_step 4 18 [(0, .ref 66), (1, .int x), (2, .int (d_faultAt2 x g))] [.int (x + (1 : Int32)), .ref 66] g u (fun big n0 => sg_rd_65 big n0 g u x (d_faultAt2 x g)) ?_
    refine q_call (M2 := 135) (rest := []) (b_faultAt2 _ _ _) (fun _ _ => rfl) ?_
    refine q_ret 1 (some (.int (d_faultAt2 (x + (1 : Int32)) g)), g, u) (fun _ _ => rfl) ?_
    unfold d_fop2
    rw [if_pos hc0]
  · refine q_ret 3 (some (.int (d_faultAt2 x g)), g, u) (fun _ _ => rfl) ?_
    unfold d_fop2
    rw [if_neg hc0]
theorem cr_zA2 (g : qM) (u : qW) {la f : Int32} {m : Nat} (hm : m ≤ 20) (hla : d_isLane la g = 1) (hf : ¬ (d_faultAs2 la g) = 0) : q_BS 138 [.ref 8, .int (2 : Int32), .int la, .int f, .int (Int32.ofNat m)] g u (some (.int 0), q_up g 8 8 (d_faultAs2 la g), u) := by
  refine q_bx (mm := m_138) rfl (Nat.le_of_ble_eq_true rfl) rfl ?_
  refine q_step 1 1 [(0, .ref 8), (1, .int (2 : Int32)), (2, .int la), (3, .int f), (4, .int (Int32.ofNat m))] [.int (2 : Int32)] g u (fun big n0 => sg_rd_66 big n0 g u la f (Int32.ofNat m)) ?_
  refine q_call (M2 := 131) (rest := []) (show q_BS 131 [.int (2 : Int32)] g u (some (.int 1), g, u) from b_isSheet _ g u) (fun _ _ => rfl) ?_
  refine q_step 2 8 [(0, .ref 8), (1, .int (2 : Int32)), (2, .int la), (3, .int f), (4, .int (Int32.ofNat m))] [.int la] g u (fun big n0 => sg_rd_67 big n0 g u la f (Int32.ofNat m)) ?_
  have hln := b_isLane la g u
  rw [hla] at hln
  refine q_call (M2 := 132) (rest := []) (hln) (fun _ _ => rfl) ?_
  refine q_step 2 16 [(0, .ref 8), (1, .int (2 : Int32)), (2, .int la), (3, .int f), (4, .int (Int32.ofNat m))] [.int (Int32.ofNat m)] g u (fun big n0 => sg_rd_68 big n0 g u la f (Int32.ofNat m)) ?_
  refine q_if_lt rfl (fun hc0 => absurd (show (Int32.ofNat m) < 0 from hc0) (fun z => absurd ((q_lt (i := m) (j := 0) (by omega) (by omega)).mp z) (by omega))) (fun (hc0 : ¬ ((Int32.ofNat m) < 0)) => ?_)
  refine q_step 2 23 [(0, .ref 8), (1, .int (2 : Int32)), (2, .int la), (3, .int f), (4, .int (Int32.ofNat m))] [.int (20 : Int32), .int (Int32.ofNat m)] g u (fun big n0 => sg_rd_69 big n0 g u la f (Int32.ofNat m)) ?_
  refine q_ic_le rfl (fun (hc1 : (Int32.ofNat m) ≤ (20 : Int32)) => ?_) (fun hc1 => absurd (show (Int32.ofNat m) ≤ (20 : Int32) from (q_le (i := m) (j := 20) (by omega) (by omega)).mpr (by omega)) hc1)
  refine q_step 7 39 [(0, .ref 8), (1, .int (2 : Int32)), (2, .int la), (3, .int f), (4, .int (Int32.ofNat m)), (5, .ref 66)] [.int la, .ref 66] g u (fun big n0 => sg_rd_70 big n0 g u la f (Int32.ofNat m)) ?_
  refine q_call (M2 := 139) (rest := []) (b_faultAs2 la g u) (fun _ _ => rfl) ?_
  refine q_step 4 49 [(0, .ref 8), (1, .int (2 : Int32)), (2, .int la), (3, .int f), (4, .int (Int32.ofNat m)), (5, .ref 66), (6, .int (d_faultAs2 la g)), (7, .int (0 : Int32))] [.int (d_faultAs2 la g)] g u (fun big n0 => sg_rd_71 big n0 g u la f (Int32.ofNat m) (d_faultAs2 la g)) ?_
  refine q_if_ne rfl (fun hc2 => absurd (show (d_faultAs2 la g) = 0 from hc2) (hf)) (fun (hc2 : ¬ ((d_faultAs2 la g) = 0)) => ?_)
  refine q_ret 10 (some (.int (0 : Int32)), (q_up g 8 8 (d_faultAs2 la g)), u) (fun _ _ => rfl) ?_
  rfl
theorem cr_zB2 (g : qM) (u : qW) {la f : Int32} (hla : d_isLane la g = 1) (hf : (d_faultAs2 la g) = 0) : q_BS 138 [.ref 8, .int (2 : Int32), .int la, .int f, .int (0 : Int32)] g u (some (.int 0), q_up g 8 8 (d_faultAs2 la g), u) := by
  refine q_bx (mm := m_138) rfl (Nat.le_of_ble_eq_true rfl) rfl ?_
  refine q_step 1 1 [(0, .ref 8), (1, .int (2 : Int32)), (2, .int la), (3, .int f), (4, .int (0 : Int32))] [.int (2 : Int32)] g u (fun big n0 => sg_rd_72 big n0 g u la f) ?_
  refine q_call (M2 := 131) (rest := []) (show q_BS 131 [.int (2 : Int32)] g u (some (.int 1), g, u) from b_isSheet _ g u) (fun _ _ => rfl) ?_
  refine q_step 2 8 [(0, .ref 8), (1, .int (2 : Int32)), (2, .int la), (3, .int f), (4, .int (0 : Int32))] [.int la] g u (fun big n0 => sg_rd_73 big n0 g u la f) ?_
  have hln := b_isLane la g u
  rw [hla] at hln
  refine q_call (M2 := 132) (rest := []) (hln) (fun _ _ => rfl) ?_
  refine q_step 13 39 [(0, .ref 8), (1, .int (2 : Int32)), (2, .int la), (3, .int f), (4, .int (0 : Int32)), (5, .ref 66)] [.int la, .ref 66] g u (fun big n0 => sg_rd_74 big n0 g u la f) ?_
  refine q_call (M2 := 139) (rest := []) (b_faultAs2 la g u) (fun _ _ => rfl) ?_
  refine q_step 4 49 [(0, .ref 8), (1, .int (2 : Int32)), (2, .int la), (3, .int f), (4, .int (0 : Int32)), (5, .ref 66), (6, .int (d_faultAs2 la g)), (7, .int (0 : Int32))] [.int (d_faultAs2 la g)] g u (fun big n0 => sg_rd_75 big n0 g u la f (d_faultAs2 la g)) ?_
  refine q_if_ne rfl (fun (hc0 : (d_faultAs2 la g) = 0) => ?_) (fun hc0 => absurd (show (d_faultAs2 la g) = 0 from hf) hc0)
  refine q_ret 13 (some (.int (0 : Int32)), (q_up g 8 8 (d_faultAs2 la g)), u) (fun _ _ => rfl) ?_
  rfl
theorem cr_zC2 (g : qM) (u : qW) {la f : Int32} {m : Nat} (hm : m ≤ 20) (hla : d_isLane la g = 1) (hm1 : 1 ≤ m) (hf : (d_faultAs2 la g) = 0) (hp : ¬ (d_fop2 (f + ((2 : Int32) * (0 : Int32))) g) = 0) : q_BS 138 [.ref 8, .int (2 : Int32), .int la, .int f, .int (Int32.ofNat m)] g u (some (.int 0), q_up g 8 8 (d_fop2 (f + ((2 : Int32) * (0 : Int32))) g), u) := by
  refine q_bx (mm := m_138) rfl (Nat.le_of_ble_eq_true rfl) rfl ?_
  refine q_step 1 1 [(0, .ref 8), (1, .int (2 : Int32)), (2, .int la), (3, .int f), (4, .int (Int32.ofNat m))] [.int (2 : Int32)] g u (fun big n0 => sg_rd_66 big n0 g u la f (Int32.ofNat m)) ?_
  refine q_call (M2 := 131) (rest := []) (show q_BS 131 [.int (2 : Int32)] g u (some (.int 1), g, u) from b_isSheet _ g u) (fun _ _ => rfl) ?_
  refine q_step 2 8 [(0, .ref 8), (1, .int (2 : Int32)), (2, .int la), (3, .int f), (4, .int (Int32.ofNat m))] [.int la] g u (fun big n0 => sg_rd_67 big n0 g u la f (Int32.ofNat m)) ?_
  have hln := b_isLane la g u
  rw [hla] at hln
  refine q_call (M2 := 132) (rest := []) (hln) (fun _ _ => rfl) ?_
  refine q_step 2 16 [(0, .ref 8), (1, .int (2 : Int32)), (2, .int la), (3, .int f), (4, .int (Int32.ofNat m))] [.int (Int32.ofNat m)] g u (fun big n0 => sg_rd_68 big n0 g u la f (Int32.ofNat m)) ?_
  refine q_if_lt rfl (fun hc0 => absurd (show (Int32.ofNat m) < 0 from hc0) (fun z => absurd ((q_lt (i := m) (j := 0) (by omega) (by omega)).mp z) (by omega))) (fun (hc0 : ¬ ((Int32.ofNat m) < 0)) => ?_)
  refine q_step 2 23 [(0, .ref 8), (1, .int (2 : Int32)), (2, .int la), (3, .int f), (4, .int (Int32.ofNat m))] [.int (20 : Int32), .int (Int32.ofNat m)] g u (fun big n0 => sg_rd_69 big n0 g u la f (Int32.ofNat m)) ?_
  refine q_ic_le rfl (fun (hc1 : (Int32.ofNat m) ≤ (20 : Int32)) => ?_) (fun hc1 => absurd (show (Int32.ofNat m) ≤ (20 : Int32) from (q_le (i := m) (j := 20) (by omega) (by omega)).mpr (by omega)) hc1)
  refine q_step 7 39 [(0, .ref 8), (1, .int (2 : Int32)), (2, .int la), (3, .int f), (4, .int (Int32.ofNat m)), (5, .ref 66)] [.int la, .ref 66] g u (fun big n0 => sg_rd_70 big n0 g u la f (Int32.ofNat m)) ?_
  refine q_call (M2 := 139) (rest := []) (b_faultAs2 la g u) (fun _ _ => rfl) ?_
  refine q_step 4 49 [(0, .ref 8), (1, .int (2 : Int32)), (2, .int la), (3, .int f), (4, .int (Int32.ofNat m)), (5, .ref 66), (6, .int (d_faultAs2 la g)), (7, .int (0 : Int32))] [.int (d_faultAs2 la g)] g u (fun big n0 => sg_rd_71 big n0 g u la f (Int32.ofNat m) (d_faultAs2 la g)) ?_
  refine q_if_ne rfl (fun (hc2 : (d_faultAs2 la g) = 0) => ?_) (fun hc2 => absurd (show (d_faultAs2 la g) = 0 from hf) hc2)
  refine q_step 2 56 [(0, .ref 8), (1, .int (2 : Int32)), (2, .int la), (3, .int f), (4, .int (Int32.ofNat m)), (5, .ref 66), (6, .int (d_faultAs2 la g)), (7, .int (0 : Int32))] [.int (Int32.ofNat m), .int (0 : Int32)] g u (fun big n0 => sg_rd_76 big n0 g u la f (Int32.ofNat m) (d_faultAs2 la g)) ?_
  refine q_ic_ge rfl (fun hc3 => absurd (show (Int32.ofNat m) ≤ (0 : Int32) from hc3) (fun z => absurd ((q_le (i := m) (j := 0) (by omega) (by omega)).mp z) (by omega))) (fun (hc3 : ¬ ((Int32.ofNat m) ≤ (0 : Int32))) => ?_)
  refine q_step 6 67 [(0, .ref 8), (1, .int (2 : Int32)), (2, .int la), (3, .int f), (4, .int (Int32.ofNat m)), (5, .ref 66), (6, .int (d_faultAs2 la g)), (7, .int (0 : Int32))] [.int (f + (0 : Int32)), .ref 66] g u (fun big n0 => sg_rd_77 big n0 g u la f (Int32.ofNat m) (d_faultAs2 la g)) ?_
  refine q_call (M2 := 140) (rest := []) (b_fop2 _ g u) (fun _ _ => rfl) ?_
  refine q_step 2 74 [(0, .ref 8), (1, .int (2 : Int32)), (2, .int la), (3, .int f), (4, .int (Int32.ofNat m)), (5, .ref 66), (6, .int (d_fop2 (f + (0 : Int32)) g)), (7, .int (0 : Int32))] [.int (d_fop2 (f + (0 : Int32)) g)] g u (fun big n0 => sg_rd_78 big n0 g u la f (Int32.ofNat m) (d_faultAs2 la g) (d_fop2 (f + (0 : Int32)) g)) ?_
  refine q_if_ne rfl (fun hc4 => absurd (show (d_fop2 (f + (0 : Int32)) g) = 0 from hc4) (hp)) (fun (hc4 : ¬ ((d_fop2 (f + (0 : Int32)) g) = 0)) => ?_)
  refine q_step 1 49 [(0, .ref 8), (1, .int (2 : Int32)), (2, .int la), (3, .int f), (4, .int (Int32.ofNat m)), (5, .ref 66), (6, .int (d_fop2 (f + (0 : Int32)) g)), (7, .int (0 : Int32))] [.int (d_fop2 (f + (0 : Int32)) g)] g u (fun big n0 => sg_rd_79 big n0 g u la f (Int32.ofNat m) (d_fop2 (f + (0 : Int32)) g)) ?_
  refine q_if_ne rfl (fun hc5 => absurd (show (d_fop2 (f + (0 : Int32)) g) = 0 from hc5) (hp)) (fun (hc5 : ¬ ((d_fop2 (f + (0 : Int32)) g) = 0)) => ?_)
  refine q_ret 10 (some (.int (0 : Int32)), (q_up g 8 8 (d_fop2 (f + (0 : Int32)) g)), u) (fun _ _ => rfl) ?_
  rfl
theorem cw_tell2 (g : qM) (u : qW) {n j : Nat} (hn : g 20 3 = Int32.ofNat n) (hj : j + 1 < 40) : q_BS 141 [.ref 8, .ref 66, .int (Int32.ofNat j)] g u (some (.int (if n_tl n (g 67) j = 0 then (0 : Int32) else 1)), g, u) := by
  refine q_bx (mm := m_141) rfl (Nat.le_of_ble_eq_true rfl) rfl ?_
  refine q_step 5 9 [(0, .ref 8), (1, .ref 66), (2, .int (Int32.ofNat j))] [.int (Int32.ofNat j), .ref 67, .ref 20] g u (fun big n0 => sg_rd_80 big n0 g u (Int32.ofNat j)) ?_
  refine q_iald (j := j) (q_ixn (by omega) (by omega)) rfl rfl ?_
  refine q_call (M2 := 40) (rest := []) (b_hasOne (g 67 j) g u) (fun _ _ => rfl) ?_
  refine q_if_eq rfl (fun (hc0 : (d_hasOne (g 67 j) g) = 0) => ?_) (fun (hc0 : ¬ ((d_hasOne (g 67 j) g) = 0)) => ?_)
  · refine q_ret 2 (some (.int (0 : Int32)), g, u) (fun _ _ => rfl) ?_
    rw [n_tl_c (n := n) hn, if_pos hc0]
  · refine q_step 5 23 [(0, .ref 8), (1, .ref 66), (2, .int (Int32.ofNat j))] [.int ((Int32.ofNat j) + (1 : Int32)), .ref 67] g u (fun big n0 => sg_rd_81 big n0 g u (Int32.ofNat j)) ?_
    refine q_iald (j := (j + 1)) (by rw [q_succ]; exact q_ixn (by omega) (by omega)) rfl rfl ?_
    refine q_call (M2 := 48) (rest := []) (b_isMood (g 67 (j + 1)) g u) (fun _ _ => rfl) ?_
    refine q_if_eq rfl (fun (hc1 : (d_isMood (g 67 (j + 1)) g) = 0) => ?_) (fun (hc1 : ¬ ((d_isMood (g 67 (j + 1)) g) = 0)) => ?_)
    · refine q_ret 2 (some (.int (0 : Int32)), g, u) (fun _ _ => rfl) ?_
      rw [n_tl_c (n := n) hn, if_neg hc0, if_pos hc1]
    · refine q_ret 3 (some (.int (1 : Int32)), g, u) (fun _ _ => rfl) ?_
      rw [n_tl_c (n := n) hn, if_neg hc0, if_neg hc1]
theorem cr_in2 {n z j0 m : Nat} {g : qM} {la : Int32} (u : qW) (hn : g 20 3 = Int32.ofNat n) (h6 : n ≤ 6) (hz : z ≤ 40) (hsz : g 66 1 = Int32.ofNat z) (hj0 : j0 < 40) (hm : m ≤ 20) {Q : Option Value × qM × qW → Prop} : ∀ k i, i + k = m → (∀ fd w, f_rd (n_tl n (g 67)) z j0 k i = (w, true) → q_EV m_138 104 [(0, .ref 8), (1, .int (2 : Int32)), (2, .int la), (3, .int (Int32.ofNat j0)), (4, .int (Int32.ofNat m)), (5, .ref 66), (6, .int fd), (7, .int (Int32.ofNat w))] [] g u Q) → (∀ w, f_rd (n_tl n (g 67)) z j0 k i = (w, false) → Q (some (.int (Int8.toInt32 (Int8.ofInt (-20)) - Int32.ofNat w)), g, u)) → q_EV m_138 47 [(0, .ref 8), (1, .int (2 : Int32)), (2, .int la), (3, .int (Int32.ofNat j0)), (4, .int (Int32.ofNat m)), (5, .ref 66), (6, .int (0 : Int32)), (7, .int (Int32.ofNat i))] [] g u Q := by
  intro k
  induction k with
  | zero =>
    intro i hi hk hb
    refine q_step 4 56 [(0, .ref 8), (1, .int (2 : Int32)), (2, .int la), (3, .int (Int32.ofNat j0)), (4, .int (Int32.ofNat m)), (5, .ref 66), (6, .int (0 : Int32)), (7, .int (Int32.ofNat i))] [.int (Int32.ofNat m), .int (Int32.ofNat i)] g u (fun big n0 => sg_rd_82 big n0 g u la (Int32.ofNat j0) (Int32.ofNat m) (Int32.ofNat i)) ?_
    refine q_ic_ge rfl (fun (hc0 : (Int32.ofNat m) ≤ (Int32.ofNat i)) => ?_) (fun hc0 => absurd (show (Int32.ofNat m) ≤ (Int32.ofNat i) from by exact (q_le (by omega) (by omega)).mpr (by omega)) hc0)
    exact hk _ _ rfl
  | succ k ih =>
    intro i hi hk hb
    refine q_step 4 56 [(0, .ref 8), (1, .int (2 : Int32)), (2, .int la), (3, .int (Int32.ofNat j0)), (4, .int (Int32.ofNat m)), (5, .ref 66), (6, .int (0 : Int32)), (7, .int (Int32.ofNat i))] [.int (Int32.ofNat m), .int (Int32.ofNat i)] g u (fun big n0 => sg_rd_82 big n0 g u la (Int32.ofNat j0) (Int32.ofNat m) (Int32.ofNat i)) ?_
    refine q_ic_ge rfl (fun hc0 => absurd (show (Int32.ofNat m) ≤ (Int32.ofNat i) from hc0) (fun z => by exact absurd ((q_le (by omega) (by omega)).mp z) (by omega))) (fun (hc0 : ¬ ((Int32.ofNat m) ≤ (Int32.ofNat i))) => ?_)
    refine q_step 6 67 [(0, .ref 8), (1, .int (2 : Int32)), (2, .int la), (3, .int (Int32.ofNat j0)), (4, .int (Int32.ofNat m)), (5, .ref 66), (6, .int (0 : Int32)), (7, .int (Int32.ofNat i))] [.int ((Int32.ofNat j0) + ((2 : Int32) * (Int32.ofNat i))), .ref 66] g u (fun big n0 => sg_rd_83 big n0 g u la (Int32.ofNat j0) (Int32.ofNat m) (Int32.ofNat i)) ?_
    have ex : Int32.ofNat j0 + (2 : Int32) * Int32.ofNat i = Int32.ofNat (j0 + 2 * i) := by
      rw [show (2 : Int32) = Int32.ofNat 2 from rfl, q_mul, q_add]
    have hnn : d_isNothing2 g = 0 := by
      unfold d_isNothing2
      rw [hsz, if_neg (fun z2 => by
        have z3 := congrArg Int32.toInt z2
        rw [q_nat (by omega)] at z3
        have e : (Int32.ofInt (-1)).toInt = -1 := rfl
        omega)]
    have hfa : ∀ j, j < 1000 → d_faultAt2 (Int32.ofNat j) g = if j < z then 0 else 2 := fun j hj => by
      unfold d_faultAt2
      rw [hnn, if_pos rfl, if_neg (fun q => by
        have q := Int32.lt_iff_toInt_lt.mp q
        rw [q_nat (by omega)] at q
        have e : (0 : Int32).toInt = 0 := rfl
        omega), hsz]
      by_cases l : j < z
      · rw [if_pos ((q_lt (by omega) (by omega)).mpr l), if_pos l]
      · rw [if_neg (fun q => l ((q_lt (by omega) (by omega)).mp q)), if_neg l]
    have hfp : d_fop2 (Int32.ofNat j0 + (2 : Int32) * Int32.ofNat i) g = if z ≤ j0 + 2 * i + 1 then 2 else 0 := by
      unfold d_fop2
      rw [ex, q_succ, hfa _ (by omega), hfa _ (by omega)]
      by_cases l : z ≤ j0 + 2 * i + 1
      · rw [if_pos l, if_neg (show ¬ j0 + 2 * i + 1 < z by omega)]
        by_cases l2 : j0 + 2 * i < z
        · rw [if_pos l2, if_pos rfl]
        · rw [if_neg l2, if_neg (by decide)]
      · rw [if_neg l, if_pos (show j0 + 2 * i < z by omega), if_pos rfl, if_pos (show j0 + 2 * i + 1 < z by omega)]
    have hbp := b_fop2 (Int32.ofNat j0 + (2 : Int32) * Int32.ofNat i) g u
    rw [hfp] at hbp
    by_cases hc1 : z ≤ j0 + 2 * i + 1
    · refine q_call (M2 := 140) (rest := []) (by rw [if_pos hc1] at hbp; exact hbp) (fun _ _ => rfl) ?_
      refine q_step 3 47 [(0, .ref 8), (1, .int (2 : Int32)), (2, .int la), (3, .int (Int32.ofNat j0)), (4, .int (Int32.ofNat m)), (5, .ref 66), (6, .int (2 : Int32)), (7, .int (Int32.ofNat i))] [] g u (fun big n0 => sg_rd_84 big n0 g u la (Int32.ofNat j0) (Int32.ofNat m) (Int32.ofNat i)) ?_
      refine q_step 2 104 [(0, .ref 8), (1, .int (2 : Int32)), (2, .int la), (3, .int (Int32.ofNat j0)), (4, .int (Int32.ofNat m)), (5, .ref 66), (6, .int (2 : Int32)), (7, .int (Int32.ofNat i))] [] g u (fun big n0 => sg_rd_85 big n0 g u la (Int32.ofNat j0) (Int32.ofNat m) (Int32.ofNat i)) ?_
      exact hk _ i (by rw [f_rd, if_pos hc1])
    · refine q_call (M2 := 140) (rest := []) (by rw [if_neg hc1] at hbp; exact hbp) (fun _ _ => rfl) ?_
      refine q_step 10 86 [(0, .ref 8), (1, .int (2 : Int32)), (2, .int la), (3, .int (Int32.ofNat j0)), (4, .int (Int32.ofNat m)), (5, .ref 66), (6, .int (0 : Int32)), (7, .int (Int32.ofNat i))] [.int ((Int32.ofNat j0) + ((2 : Int32) * (Int32.ofNat i))), .ref 66, .ref 8] g u (fun big n0 => sg_rd_86 big n0 g u la (Int32.ofNat j0) (Int32.ofNat m) (Int32.ofNat i)) ?_
      by_cases hc2 : n_tl n (g 67) (j0 + 2 * i) = 0
      · have htl := cw_tell2 g u (n := n) (j := j0 + 2 * i) hn (by omega)
        rw [if_pos hc2, ← ex] at htl
        refine q_call (M2 := 141) (rest := []) (htl) (fun _ _ => rfl) ?_
        refine q_ret 5 (some (.int ((Int8.toInt32 (Int8.ofInt (-20))) - (Int32.ofNat i))), g, u) (fun _ _ => rfl) ?_
        exact hb i (by rw [f_rd, if_neg hc1, if_pos hc2])
      · have htl := cw_tell2 g u (n := n) (j := j0 + 2 * i) hn (by omega)
        rw [if_neg hc2, ← ex] at htl
        refine q_call (M2 := 141) (rest := []) (htl) (fun _ _ => rfl) ?_
        refine q_step 3 47 [(0, .ref 8), (1, .int (2 : Int32)), (2, .int la), (3, .int (Int32.ofNat j0)), (4, .int (Int32.ofNat m)), (5, .ref 66), (6, .int (0 : Int32)), (7, .int ((Int32.ofNat i) + (1 : Int32)))] [] g u (fun big n0 => sg_rd_87 big n0 g u la (Int32.ofNat j0) (Int32.ofNat m) (Int32.ofNat i)) ?_
        have e : f_rd (n_tl n (g 67)) z j0 (k + 1) i = f_rd (n_tl n (g 67)) z j0 k (i + 1) := by rw [f_rd, if_neg hc1, if_neg hc2]
        rw [q_succ]
        exact ih (i + 1) (by omega) (fun fd w h => hk fd w (e.trans h)) (fun w h => hb w (e.trans h))
theorem cr_ws2 {n z j0 m w : Nat} {g : qM} {la fd : Int32} (u : qW) (h6 : n ≤ 6) (hz : z ≤ 40) (hw : w ≤ 20) (ht : ∀ x, x < w → (n_tl n (g 67)) (j0 + 2 * x) ≠ 0 ∧ j0 + 2 * x + 1 < z) : ∀ k i ff, i + k = w → q_EV m_138 107 [(0, .ref 8), (1, .int (2 : Int32)), (2, .int la), (3, .int (Int32.ofNat j0)), (4, .int (Int32.ofNat m)), (5, .ref 66), (6, .int fd), (7, .int (Int32.ofNat w)), (8, .int (Int32.ofNat i))] [] (s_m22 ff g) u (fun R => R = (some (.int (Int32.ofNat w)), q_up (s_m22 (f_ws (g 67) j0 k i ff) g) 8 8 fd, u)) := by
  intro k
  induction k with
  | zero =>
    intro i ff hi
    refine q_step 2 111 [(0, .ref 8), (1, .int (2 : Int32)), (2, .int la), (3, .int (Int32.ofNat j0)), (4, .int (Int32.ofNat m)), (5, .ref 66), (6, .int fd), (7, .int (Int32.ofNat w)), (8, .int (Int32.ofNat i))] [.int (Int32.ofNat w), .int (Int32.ofNat i)] (s_m22 ff g) u (fun big n0 => sg_rd_88 big n0 (s_m22 ff g) u la (Int32.ofNat j0) (Int32.ofNat m) fd (Int32.ofNat w) (Int32.ofNat i)) ?_
    refine q_ic_ge rfl (fun (hc0 : (Int32.ofNat w) ≤ (Int32.ofNat i)) => ?_) (fun hc0 => absurd (show (Int32.ofNat w) ≤ (Int32.ofNat i) from by have z2 : i = w := hi; exact (q_le (i := w) (j := i) (by omega) (by omega)).mpr (by omega)) hc0)
    refine q_ret 5 (some (.int (Int32.ofNat w)), (q_up (s_m22 ff g) 8 8 fd), u) (fun _ _ => rfl) ?_
    rfl
  | succ k ih =>
    intro i ff hi
    obtain ⟨ht1, ht2⟩ := ht i (by omega)
    obtain ⟨⟨p, hp, ep⟩, _⟩ := n_tl_1 h6 ht1
    have ex : Int32.ofNat j0 + (2 : Int32) * Int32.ofNat i = Int32.ofNat (j0 + 2 * i) := by
      rw [show (2 : Int32) = Int32.ofNat 2 from rfl, q_mul, q_add]
    refine q_step 2 111 [(0, .ref 8), (1, .int (2 : Int32)), (2, .int la), (3, .int (Int32.ofNat j0)), (4, .int (Int32.ofNat m)), (5, .ref 66), (6, .int fd), (7, .int (Int32.ofNat w)), (8, .int (Int32.ofNat i))] [.int (Int32.ofNat w), .int (Int32.ofNat i)] (s_m22 ff g) u (fun big n0 => sg_rd_88 big n0 (s_m22 ff g) u la (Int32.ofNat j0) (Int32.ofNat m) fd (Int32.ofNat w) (Int32.ofNat i)) ?_
    refine q_ic_ge rfl (fun hc0 => absurd (show (Int32.ofNat w) ≤ (Int32.ofNat i) from hc0) (fun z => by exact absurd ((q_le (by omega) (by omega)).mp z) (by omega))) (fun (hc0 : ¬ ((Int32.ofNat w) ≤ (Int32.ofNat i))) => ?_)
    refine q_step 10 132 [(0, .ref 8), (1, .int (2 : Int32)), (2, .int la), (3, .int (Int32.ofNat j0)), (4, .int (Int32.ofNat m)), (5, .ref 66), (6, .int fd), (7, .int (Int32.ofNat w)), (8, .int (Int32.ofNat i))] [.int ((Int32.ofNat j0) + ((2 : Int32) * (Int32.ofNat i))), .ref 67, .ref 22] (s_m22 ff g) u (fun big n0 => sg_rd_89 big n0 (s_m22 ff g) u la (Int32.ofNat j0) (Int32.ofNat m) fd (Int32.ofNat w) (Int32.ofNat i)) ?_
    refine q_iald (j := (j0 + 2 * i)) (by rw [ex]; exact q_ixn (by omega) (by omega)) rfl rfl ?_
    refine q_step 9 146 [(0, .ref 8), (1, .int (2 : Int32)), (2, .int la), (3, .int (Int32.ofNat j0)), (4, .int (Int32.ofNat m)), (5, .ref 66), (6, .int fd), (7, .int (Int32.ofNat w)), (8, .int (Int32.ofNat i))] [.int (((Int32.ofNat j0) + ((2 : Int32) * (Int32.ofNat i))) + (1 : Int32)), .ref 67, .int (g 67 (j0 + 2 * i)), .ref 22] (s_m22 ff g) u (fun big n0 => sg_rd_90 big n0 (s_m22 ff g) u la (Int32.ofNat j0) (Int32.ofNat m) fd (Int32.ofNat w) (Int32.ofNat i) (g 67 (j0 + 2 * i))) ?_
    refine q_iald (j := (j0 + 2 * i + 1)) (by rw [ex, q_succ]; exact q_ixn (by omega) (by omega)) rfl rfl ?_
    refine q_iast (j := (g 67 (j0 + 2 * i)).toInt.toNat) (by rw [ep, q_nat (by omega)]; exact q_ixn (by omega) (by omega)) rfl rfl ?_
    refine q_step 2 107 [(0, .ref 8), (1, .int (2 : Int32)), (2, .int la), (3, .int (Int32.ofNat j0)), (4, .int (Int32.ofNat m)), (5, .ref 66), (6, .int fd), (7, .int (Int32.ofNat w)), (8, .int ((Int32.ofNat i) + (1 : Int32)))] [] (q_up (s_m22 ff g) 22 (g 67 (j0 + 2 * i)).toInt.toNat (g 67 (j0 + 2 * i + 1))) u (fun big n0 => sg_rd_91 big n0 (q_up (s_m22 ff g) 22 (g 67 (j0 + 2 * i)).toInt.toNat (g 67 (j0 + 2 * i + 1))) u la (Int32.ofNat j0) (Int32.ofNat m) fd (Int32.ofNat w) (Int32.ofNat i)) ?_
    rw [q_succ, show (q_up (s_m22 ff g) 22 (g 67 (j0 + 2 * i)).toInt.toNat (g 67 (j0 + 2 * i + 1))) = s_m22 (s_set ff (g 67 (j0 + 2 * i)).toInt.toNat (g 67 (j0 + 2 * i + 1))) g from s_m22_s]
    exact ih (i + 1) _ (by omega)

theorem cr_ok2 {n z j0 m : Nat} {g : qM} {la : Int32} (u : qW) (hn : g 20 3 = Int32.ofNat n) (h6 : n ≤ 6) (hz : z ≤ 40) (hsz : g 66 1 = Int32.ofNat z) (hj0 : j0 < 40) (hm : m ≤ 20) (hla : d_isLane la g = 1) (hf : (d_faultAs2 la g) = 0) : ∃ R, q_BS 138 [.ref 8, .int (2 : Int32), .int la, .int (Int32.ofNat j0), .int (Int32.ofNat m)] g u R ∧ ((∃ w fd, f_rd (n_tl n (g 67)) z j0 m 0 = (w, true) ∧ R = (some (.int (Int32.ofNat w)), q_up (s_m22 (f_ws (g 67) j0 w 0 (g 22)) g) 8 8 fd, u)) ∨ ∃ w, f_rd (n_tl n (g 67)) z j0 m 0 = (w, false) ∧ R = (some (.int (Int8.toInt32 (Int8.ofInt (-20)) - Int32.ofNat w)), g, u)) := by
  refine q_bs (mm := m_138) rfl (Nat.le_of_ble_eq_true rfl) rfl ?_
  refine q_step 1 1 [(0, .ref 8), (1, .int (2 : Int32)), (2, .int la), (3, .int (Int32.ofNat j0)), (4, .int (Int32.ofNat m))] [.int (2 : Int32)] g u (fun big n0 => sg_rd_66 big n0 g u la (Int32.ofNat j0) (Int32.ofNat m)) ?_
  refine q_call (M2 := 131) (rest := []) (show q_BS 131 [.int (2 : Int32)] g u (some (.int 1), g, u) from b_isSheet _ g u) (fun _ _ => rfl) ?_
  refine q_step 2 8 [(0, .ref 8), (1, .int (2 : Int32)), (2, .int la), (3, .int (Int32.ofNat j0)), (4, .int (Int32.ofNat m))] [.int la] g u (fun big n0 => sg_rd_67 big n0 g u la (Int32.ofNat j0) (Int32.ofNat m)) ?_
  have hln := b_isLane la g u
  rw [hla] at hln
  refine q_call (M2 := 132) (rest := []) (hln) (fun _ _ => rfl) ?_
  refine q_step 2 16 [(0, .ref 8), (1, .int (2 : Int32)), (2, .int la), (3, .int (Int32.ofNat j0)), (4, .int (Int32.ofNat m))] [.int (Int32.ofNat m)] g u (fun big n0 => sg_rd_68 big n0 g u la (Int32.ofNat j0) (Int32.ofNat m)) ?_
  refine q_if_lt rfl (fun hc0 => absurd (show (Int32.ofNat m) < 0 from hc0) (fun z => absurd ((q_lt (i := m) (j := 0) (by omega) (by omega)).mp z) (by omega))) (fun (hc0 : ¬ ((Int32.ofNat m) < 0)) => ?_)
  refine q_step 2 23 [(0, .ref 8), (1, .int (2 : Int32)), (2, .int la), (3, .int (Int32.ofNat j0)), (4, .int (Int32.ofNat m))] [.int (20 : Int32), .int (Int32.ofNat m)] g u (fun big n0 => sg_rd_69 big n0 g u la (Int32.ofNat j0) (Int32.ofNat m)) ?_
  refine q_ic_le rfl (fun (hc1 : (Int32.ofNat m) ≤ (20 : Int32)) => ?_) (fun hc1 => absurd (show (Int32.ofNat m) ≤ (20 : Int32) from (q_le (i := m) (j := 20) (by omega) (by omega)).mpr (by omega)) hc1)
  refine q_step 7 39 [(0, .ref 8), (1, .int (2 : Int32)), (2, .int la), (3, .int (Int32.ofNat j0)), (4, .int (Int32.ofNat m)), (5, .ref 66)] [.int la, .ref 66] g u (fun big n0 => sg_rd_70 big n0 g u la (Int32.ofNat j0) (Int32.ofNat m)) ?_
  have hfs := b_faultAs2 la g u
  rw [hf] at hfs
  refine q_call (M2 := 139) (rest := []) (hfs) (fun _ _ => rfl) ?_
  refine q_step 3 47 [(0, .ref 8), (1, .int (2 : Int32)), (2, .int la), (3, .int (Int32.ofNat j0)), (4, .int (Int32.ofNat m)), (5, .ref 66), (6, .int (0 : Int32)), (7, .int (0 : Int32))] [] g u (fun big n0 => sg_rd_92 big n0 g u la (Int32.ofNat j0) (Int32.ofNat m)) ?_
  refine cr_in2 u hn h6 hz hsz hj0 hm m 0 (by omega) (fun fd w hw => ?_) (fun w hw => Or.inr ⟨w, hw, rfl⟩)
  have hle := f_rd_le m 0 w true hw
  refine q_step 2 107 [(0, .ref 8), (1, .int (2 : Int32)), (2, .int la), (3, .int (Int32.ofNat j0)), (4, .int (Int32.ofNat m)), (5, .ref 66), (6, .int fd), (7, .int (Int32.ofNat w)), (8, .int (0 : Int32))] [] g u (fun big n0 => sg_rd_93 big n0 g u la (Int32.ofNat j0) (Int32.ofNat m) fd (Int32.ofNat w)) ?_
  have e := cr_ws2 (m := m) (la := la) (fd := fd) (g := g) u h6 hz (w := w) (j0 := j0) (by omega) (fun x hx => hle.2.2 x (Nat.zero_le _) hx) w 0 (g 22) (by omega)
  rw [s_m22_0] at e
  exact q_EV.imp e (fun R h => Or.inl ⟨w, fd, hw, h⟩)
def d_fop3 (x : Int32) (g : qM) : Int32 := (if (d_faultAt3 x g) = 0 then (d_faultAt3 (x + (1 : Int32)) g) else (d_faultAt3 x g))
theorem b_fop3 (x : Int32) (g : qM) (u : qW) : q_BS 140 [.ref 68, .int x] g u (some (.int (d_fop3 x g)), g, u) := by
  refine q_bx (mm := m_140) rfl (Nat.le_of_ble_eq_true rfl) rfl ?_
  refine q_step 2 2 [(0, .ref 68), (1, .int x)] [.int x, .ref 68] g u (fun big n0 => sg_rd_94 big n0 g u x) ?_
  refine q_call (M2 := 135) (rest := []) (b_faultAt3 _ _ _) (fun _ _ => rfl) ?_
  refine q_step 2 7 [(0, .ref 68), (1, .int x), (2, .int (d_faultAt3 x g))] [.int (d_faultAt3 x g)] g u (fun big n0 => sg_rd_95 big n0 g u x (d_faultAt3 x g)) ?_
  refine q_if_eq rfl (fun (hc0 : (d_faultAt3 x g) = 0) => ?_) (fun (hc0 : ¬ ((d_faultAt3 x g) = 0)) => ?_)
  · refine q_step 4 18 [(0, .ref 68), (1, .int x), (2, .int (d_faultAt3 x g))] [.int (x + (1 : Int32)), .ref 68] g u (fun big n0 => sg_rd_96 big n0 g u x (d_faultAt3 x g)) ?_
    refine q_call (M2 := 135) (rest := []) (b_faultAt3 _ _ _) (fun _ _ => rfl) ?_
    refine q_ret 1 (some (.int (d_faultAt3 (x + (1 : Int32)) g)), g, u) (fun _ _ => rfl) ?_
    unfold d_fop3
    rw [if_pos hc0]
  · refine q_ret 3 (some (.int (d_faultAt3 x g)), g, u) (fun _ _ => rfl) ?_
    unfold d_fop3
    rw [if_neg hc0]
theorem cr_zA3 (g : qM) (u : qW) {la f : Int32} {m : Nat} (hm : m ≤ 20) (hla : d_isLane la g = 1) (hf : ¬ (d_faultAs3 la g) = 0) : q_BS 138 [.ref 8, .int (3 : Int32), .int la, .int f, .int (Int32.ofNat m)] g u (some (.int 0), q_up g 8 8 (d_faultAs3 la g), u) := by
  refine q_bx (mm := m_138) rfl (Nat.le_of_ble_eq_true rfl) rfl ?_
  refine q_step 1 1 [(0, .ref 8), (1, .int (3 : Int32)), (2, .int la), (3, .int f), (4, .int (Int32.ofNat m))] [.int (3 : Int32)] g u (fun big n0 => sg_rd_97 big n0 g u la f (Int32.ofNat m)) ?_
  refine q_call (M2 := 131) (rest := []) (show q_BS 131 [.int (3 : Int32)] g u (some (.int 1), g, u) from b_isSheet _ g u) (fun _ _ => rfl) ?_
  refine q_step 2 8 [(0, .ref 8), (1, .int (3 : Int32)), (2, .int la), (3, .int f), (4, .int (Int32.ofNat m))] [.int la] g u (fun big n0 => sg_rd_98 big n0 g u la f (Int32.ofNat m)) ?_
  have hln := b_isLane la g u
  rw [hla] at hln
  refine q_call (M2 := 132) (rest := []) (hln) (fun _ _ => rfl) ?_
  refine q_step 2 16 [(0, .ref 8), (1, .int (3 : Int32)), (2, .int la), (3, .int f), (4, .int (Int32.ofNat m))] [.int (Int32.ofNat m)] g u (fun big n0 => sg_rd_99 big n0 g u la f (Int32.ofNat m)) ?_
  refine q_if_lt rfl (fun hc0 => absurd (show (Int32.ofNat m) < 0 from hc0) (fun z => absurd ((q_lt (i := m) (j := 0) (by omega) (by omega)).mp z) (by omega))) (fun (hc0 : ¬ ((Int32.ofNat m) < 0)) => ?_)
  refine q_step 2 23 [(0, .ref 8), (1, .int (3 : Int32)), (2, .int la), (3, .int f), (4, .int (Int32.ofNat m))] [.int (20 : Int32), .int (Int32.ofNat m)] g u (fun big n0 => sg_rd_100 big n0 g u la f (Int32.ofNat m)) ?_
  refine q_ic_le rfl (fun (hc1 : (Int32.ofNat m) ≤ (20 : Int32)) => ?_) (fun hc1 => absurd (show (Int32.ofNat m) ≤ (20 : Int32) from (q_le (i := m) (j := 20) (by omega) (by omega)).mpr (by omega)) hc1)
  refine q_step 7 39 [(0, .ref 8), (1, .int (3 : Int32)), (2, .int la), (3, .int f), (4, .int (Int32.ofNat m)), (5, .ref 68)] [.int la, .ref 68] g u (fun big n0 => sg_rd_101 big n0 g u la f (Int32.ofNat m)) ?_
  refine q_call (M2 := 139) (rest := []) (b_faultAs3 la g u) (fun _ _ => rfl) ?_
  refine q_step 4 49 [(0, .ref 8), (1, .int (3 : Int32)), (2, .int la), (3, .int f), (4, .int (Int32.ofNat m)), (5, .ref 68), (6, .int (d_faultAs3 la g)), (7, .int (0 : Int32))] [.int (d_faultAs3 la g)] g u (fun big n0 => sg_rd_102 big n0 g u la f (Int32.ofNat m) (d_faultAs3 la g)) ?_
  refine q_if_ne rfl (fun hc2 => absurd (show (d_faultAs3 la g) = 0 from hc2) (hf)) (fun (hc2 : ¬ ((d_faultAs3 la g) = 0)) => ?_)
  refine q_ret 10 (some (.int (0 : Int32)), (q_up g 8 8 (d_faultAs3 la g)), u) (fun _ _ => rfl) ?_
  rfl
theorem cr_zB3 (g : qM) (u : qW) {la f : Int32} (hla : d_isLane la g = 1) (hf : (d_faultAs3 la g) = 0) : q_BS 138 [.ref 8, .int (3 : Int32), .int la, .int f, .int (0 : Int32)] g u (some (.int 0), q_up g 8 8 (d_faultAs3 la g), u) := by
  refine q_bx (mm := m_138) rfl (Nat.le_of_ble_eq_true rfl) rfl ?_
  refine q_step 1 1 [(0, .ref 8), (1, .int (3 : Int32)), (2, .int la), (3, .int f), (4, .int (0 : Int32))] [.int (3 : Int32)] g u (fun big n0 => sg_rd_103 big n0 g u la f) ?_
  refine q_call (M2 := 131) (rest := []) (show q_BS 131 [.int (3 : Int32)] g u (some (.int 1), g, u) from b_isSheet _ g u) (fun _ _ => rfl) ?_
  refine q_step 2 8 [(0, .ref 8), (1, .int (3 : Int32)), (2, .int la), (3, .int f), (4, .int (0 : Int32))] [.int la] g u (fun big n0 => sg_rd_104 big n0 g u la f) ?_
  have hln := b_isLane la g u
  rw [hla] at hln
  refine q_call (M2 := 132) (rest := []) (hln) (fun _ _ => rfl) ?_
  refine q_step 13 39 [(0, .ref 8), (1, .int (3 : Int32)), (2, .int la), (3, .int f), (4, .int (0 : Int32)), (5, .ref 68)] [.int la, .ref 68] g u (fun big n0 => sg_rd_105 big n0 g u la f) ?_
  refine q_call (M2 := 139) (rest := []) (b_faultAs3 la g u) (fun _ _ => rfl) ?_
  refine q_step 4 49 [(0, .ref 8), (1, .int (3 : Int32)), (2, .int la), (3, .int f), (4, .int (0 : Int32)), (5, .ref 68), (6, .int (d_faultAs3 la g)), (7, .int (0 : Int32))] [.int (d_faultAs3 la g)] g u (fun big n0 => sg_rd_106 big n0 g u la f (d_faultAs3 la g)) ?_
  refine q_if_ne rfl (fun (hc0 : (d_faultAs3 la g) = 0) => ?_) (fun hc0 => absurd (show (d_faultAs3 la g) = 0 from hf) hc0)
  refine q_ret 13 (some (.int (0 : Int32)), (q_up g 8 8 (d_faultAs3 la g)), u) (fun _ _ => rfl) ?_
  rfl
theorem cr_zC3 (g : qM) (u : qW) {la f : Int32} {m : Nat} (hm : m ≤ 20) (hla : d_isLane la g = 1) (hm1 : 1 ≤ m) (hf : (d_faultAs3 la g) = 0) (hp : ¬ (d_fop3 (f + ((2 : Int32) * (0 : Int32))) g) = 0) : q_BS 138 [.ref 8, .int (3 : Int32), .int la, .int f, .int (Int32.ofNat m)] g u (some (.int 0), q_up g 8 8 (d_fop3 (f + ((2 : Int32) * (0 : Int32))) g), u) := by
  refine q_bx (mm := m_138) rfl (Nat.le_of_ble_eq_true rfl) rfl ?_
  refine q_step 1 1 [(0, .ref 8), (1, .int (3 : Int32)), (2, .int la), (3, .int f), (4, .int (Int32.ofNat m))] [.int (3 : Int32)] g u (fun big n0 => sg_rd_97 big n0 g u la f (Int32.ofNat m)) ?_
  refine q_call (M2 := 131) (rest := []) (show q_BS 131 [.int (3 : Int32)] g u (some (.int 1), g, u) from b_isSheet _ g u) (fun _ _ => rfl) ?_
  refine q_step 2 8 [(0, .ref 8), (1, .int (3 : Int32)), (2, .int la), (3, .int f), (4, .int (Int32.ofNat m))] [.int la] g u (fun big n0 => sg_rd_98 big n0 g u la f (Int32.ofNat m)) ?_
  have hln := b_isLane la g u
  rw [hla] at hln
  refine q_call (M2 := 132) (rest := []) (hln) (fun _ _ => rfl) ?_
  refine q_step 2 16 [(0, .ref 8), (1, .int (3 : Int32)), (2, .int la), (3, .int f), (4, .int (Int32.ofNat m))] [.int (Int32.ofNat m)] g u (fun big n0 => sg_rd_99 big n0 g u la f (Int32.ofNat m)) ?_
  refine q_if_lt rfl (fun hc0 => absurd (show (Int32.ofNat m) < 0 from hc0) (fun z => absurd ((q_lt (i := m) (j := 0) (by omega) (by omega)).mp z) (by omega))) (fun (hc0 : ¬ ((Int32.ofNat m) < 0)) => ?_)
  refine q_step 2 23 [(0, .ref 8), (1, .int (3 : Int32)), (2, .int la), (3, .int f), (4, .int (Int32.ofNat m))] [.int (20 : Int32), .int (Int32.ofNat m)] g u (fun big n0 => sg_rd_100 big n0 g u la f (Int32.ofNat m)) ?_
  refine q_ic_le rfl (fun (hc1 : (Int32.ofNat m) ≤ (20 : Int32)) => ?_) (fun hc1 => absurd (show (Int32.ofNat m) ≤ (20 : Int32) from (q_le (i := m) (j := 20) (by omega) (by omega)).mpr (by omega)) hc1)
  refine q_step 7 39 [(0, .ref 8), (1, .int (3 : Int32)), (2, .int la), (3, .int f), (4, .int (Int32.ofNat m)), (5, .ref 68)] [.int la, .ref 68] g u (fun big n0 => sg_rd_101 big n0 g u la f (Int32.ofNat m)) ?_
  refine q_call (M2 := 139) (rest := []) (b_faultAs3 la g u) (fun _ _ => rfl) ?_
  refine q_step 4 49 [(0, .ref 8), (1, .int (3 : Int32)), (2, .int la), (3, .int f), (4, .int (Int32.ofNat m)), (5, .ref 68), (6, .int (d_faultAs3 la g)), (7, .int (0 : Int32))] [.int (d_faultAs3 la g)] g u (fun big n0 => sg_rd_102 big n0 g u la f (Int32.ofNat m) (d_faultAs3 la g)) ?_
  refine q_if_ne rfl (fun (hc2 : (d_faultAs3 la g) = 0) => ?_) (fun hc2 => absurd (show (d_faultAs3 la g) = 0 from hf) hc2)
  refine q_step 2 56 [(0, .ref 8), (1, .int (3 : Int32)), (2, .int la), (3, .int f), (4, .int (Int32.ofNat m)), (5, .ref 68), (6, .int (d_faultAs3 la g)), (7, .int (0 : Int32))] [.int (Int32.ofNat m), .int (0 : Int32)] g u (fun big n0 => sg_rd_107 big n0 g u la f (Int32.ofNat m) (d_faultAs3 la g)) ?_
  refine q_ic_ge rfl (fun hc3 => absurd (show (Int32.ofNat m) ≤ (0 : Int32) from hc3) (fun z => absurd ((q_le (i := m) (j := 0) (by omega) (by omega)).mp z) (by omega))) (fun (hc3 : ¬ ((Int32.ofNat m) ≤ (0 : Int32))) => ?_)
  refine q_step 6 67 [(0, .ref 8), (1, .int (3 : Int32)), (2, .int la), (3, .int f), (4, .int (Int32.ofNat m)), (5, .ref 68), (6, .int (d_faultAs3 la g)), (7, .int (0 : Int32))] [.int (f + (0 : Int32)), .ref 68] g u (fun big n0 => sg_rd_108 big n0 g u la f (Int32.ofNat m) (d_faultAs3 la g)) ?_
  refine q_call (M2 := 140) (rest := []) (b_fop3 _ g u) (fun _ _ => rfl) ?_
  refine q_step 2 74 [(0, .ref 8), (1, .int (3 : Int32)), (2, .int la), (3, .int f), (4, .int (Int32.ofNat m)), (5, .ref 68), (6, .int (d_fop3 (f + (0 : Int32)) g)), (7, .int (0 : Int32))] [.int (d_fop3 (f + (0 : Int32)) g)] g u (fun big n0 => sg_rd_109 big n0 g u la f (Int32.ofNat m) (d_faultAs3 la g) (d_fop3 (f + (0 : Int32)) g)) ?_
  refine q_if_ne rfl (fun hc4 => absurd (show (d_fop3 (f + (0 : Int32)) g) = 0 from hc4) (hp)) (fun (hc4 : ¬ ((d_fop3 (f + (0 : Int32)) g) = 0)) => ?_)
  refine q_step 1 49 [(0, .ref 8), (1, .int (3 : Int32)), (2, .int la), (3, .int f), (4, .int (Int32.ofNat m)), (5, .ref 68), (6, .int (d_fop3 (f + (0 : Int32)) g)), (7, .int (0 : Int32))] [.int (d_fop3 (f + (0 : Int32)) g)] g u (fun big n0 => sg_rd_110 big n0 g u la f (Int32.ofNat m) (d_fop3 (f + (0 : Int32)) g)) ?_
  refine q_if_ne rfl (fun hc5 => absurd (show (d_fop3 (f + (0 : Int32)) g) = 0 from hc5) (hp)) (fun (hc5 : ¬ ((d_fop3 (f + (0 : Int32)) g) = 0)) => ?_)
  refine q_ret 10 (some (.int (0 : Int32)), (q_up g 8 8 (d_fop3 (f + (0 : Int32)) g)), u) (fun _ _ => rfl) ?_
  rfl
theorem cw_tell3 (g : qM) (u : qW) {n j : Nat} (hn : g 20 3 = Int32.ofNat n) (hj : j + 1 < 40) : q_BS 141 [.ref 8, .ref 68, .int (Int32.ofNat j)] g u (some (.int (if n_tl n (g 69) j = 0 then (0 : Int32) else 1)), g, u) := by
  refine q_bx (mm := m_141) rfl (Nat.le_of_ble_eq_true rfl) rfl ?_
  refine q_step 5 9 [(0, .ref 8), (1, .ref 68), (2, .int (Int32.ofNat j))] [.int (Int32.ofNat j), .ref 69, .ref 20] g u (fun big n0 => sg_rd_111 big n0 g u (Int32.ofNat j)) ?_
  refine q_iald (j := j) (q_ixn (by omega) (by omega)) rfl rfl ?_
  refine q_call (M2 := 40) (rest := []) (b_hasOne (g 69 j) g u) (fun _ _ => rfl) ?_
  refine q_if_eq rfl (fun (hc0 : (d_hasOne (g 69 j) g) = 0) => ?_) (fun (hc0 : ¬ ((d_hasOne (g 69 j) g) = 0)) => ?_)
  · refine q_ret 2 (some (.int (0 : Int32)), g, u) (fun _ _ => rfl) ?_
    rw [n_tl_c (n := n) hn, if_pos hc0]
  · refine q_step 5 23 [(0, .ref 8), (1, .ref 68), (2, .int (Int32.ofNat j))] [.int ((Int32.ofNat j) + (1 : Int32)), .ref 69] g u (fun big n0 => sg_rd_112 big n0 g u (Int32.ofNat j)) ?_
    refine q_iald (j := (j + 1)) (by rw [q_succ]; exact q_ixn (by omega) (by omega)) rfl rfl ?_
    refine q_call (M2 := 48) (rest := []) (b_isMood (g 69 (j + 1)) g u) (fun _ _ => rfl) ?_
    refine q_if_eq rfl (fun (hc1 : (d_isMood (g 69 (j + 1)) g) = 0) => ?_) (fun (hc1 : ¬ ((d_isMood (g 69 (j + 1)) g) = 0)) => ?_)
    · refine q_ret 2 (some (.int (0 : Int32)), g, u) (fun _ _ => rfl) ?_
      rw [n_tl_c (n := n) hn, if_neg hc0, if_pos hc1]
    · refine q_ret 3 (some (.int (1 : Int32)), g, u) (fun _ _ => rfl) ?_
      rw [n_tl_c (n := n) hn, if_neg hc0, if_neg hc1]
theorem cr_in3 {n z j0 m : Nat} {g : qM} {la : Int32} (u : qW) (hn : g 20 3 = Int32.ofNat n) (h6 : n ≤ 6) (hz : z ≤ 40) (hsz : g 68 1 = Int32.ofNat z) (hj0 : j0 < 40) (hm : m ≤ 20) {Q : Option Value × qM × qW → Prop} : ∀ k i, i + k = m → (∀ fd w, f_rd (n_tl n (g 69)) z j0 k i = (w, true) → q_EV m_138 104 [(0, .ref 8), (1, .int (3 : Int32)), (2, .int la), (3, .int (Int32.ofNat j0)), (4, .int (Int32.ofNat m)), (5, .ref 68), (6, .int fd), (7, .int (Int32.ofNat w))] [] g u Q) → (∀ w, f_rd (n_tl n (g 69)) z j0 k i = (w, false) → Q (some (.int (Int8.toInt32 (Int8.ofInt (-20)) - Int32.ofNat w)), g, u)) → q_EV m_138 47 [(0, .ref 8), (1, .int (3 : Int32)), (2, .int la), (3, .int (Int32.ofNat j0)), (4, .int (Int32.ofNat m)), (5, .ref 68), (6, .int (0 : Int32)), (7, .int (Int32.ofNat i))] [] g u Q := by
  intro k
  induction k with
  | zero =>
    intro i hi hk hb
    refine q_step 4 56 [(0, .ref 8), (1, .int (3 : Int32)), (2, .int la), (3, .int (Int32.ofNat j0)), (4, .int (Int32.ofNat m)), (5, .ref 68), (6, .int (0 : Int32)), (7, .int (Int32.ofNat i))] [.int (Int32.ofNat m), .int (Int32.ofNat i)] g u (fun big n0 => sg_rd_113 big n0 g u la (Int32.ofNat j0) (Int32.ofNat m) (Int32.ofNat i)) ?_
    refine q_ic_ge rfl (fun (hc0 : (Int32.ofNat m) ≤ (Int32.ofNat i)) => ?_) (fun hc0 => absurd (show (Int32.ofNat m) ≤ (Int32.ofNat i) from by exact (q_le (by omega) (by omega)).mpr (by omega)) hc0)
    exact hk _ _ rfl
  | succ k ih =>
    intro i hi hk hb
    refine q_step 4 56 [(0, .ref 8), (1, .int (3 : Int32)), (2, .int la), (3, .int (Int32.ofNat j0)), (4, .int (Int32.ofNat m)), (5, .ref 68), (6, .int (0 : Int32)), (7, .int (Int32.ofNat i))] [.int (Int32.ofNat m), .int (Int32.ofNat i)] g u (fun big n0 => sg_rd_113 big n0 g u la (Int32.ofNat j0) (Int32.ofNat m) (Int32.ofNat i)) ?_
    refine q_ic_ge rfl (fun hc0 => absurd (show (Int32.ofNat m) ≤ (Int32.ofNat i) from hc0) (fun z => by exact absurd ((q_le (by omega) (by omega)).mp z) (by omega))) (fun (hc0 : ¬ ((Int32.ofNat m) ≤ (Int32.ofNat i))) => ?_)
    refine q_step 6 67 [(0, .ref 8), (1, .int (3 : Int32)), (2, .int la), (3, .int (Int32.ofNat j0)), (4, .int (Int32.ofNat m)), (5, .ref 68), (6, .int (0 : Int32)), (7, .int (Int32.ofNat i))] [.int ((Int32.ofNat j0) + ((2 : Int32) * (Int32.ofNat i))), .ref 68] g u (fun big n0 => sg_rd_114 big n0 g u la (Int32.ofNat j0) (Int32.ofNat m) (Int32.ofNat i)) ?_
    have ex : Int32.ofNat j0 + (2 : Int32) * Int32.ofNat i = Int32.ofNat (j0 + 2 * i) := by
      rw [show (2 : Int32) = Int32.ofNat 2 from rfl, q_mul, q_add]
    have hnn : d_isNothing3 g = 0 := by
      unfold d_isNothing3
      rw [hsz, if_neg (fun z2 => by
        have z3 := congrArg Int32.toInt z2
        rw [q_nat (by omega)] at z3
        have e : (Int32.ofInt (-1)).toInt = -1 := rfl
        omega)]
    have hfa : ∀ j, j < 1000 → d_faultAt3 (Int32.ofNat j) g = if j < z then 0 else 2 := fun j hj => by
      unfold d_faultAt3
      rw [hnn, if_pos rfl, if_neg (fun q => by
        have q := Int32.lt_iff_toInt_lt.mp q
        rw [q_nat (by omega)] at q
        have e : (0 : Int32).toInt = 0 := rfl
        omega), hsz]
      by_cases l : j < z
      · rw [if_pos ((q_lt (by omega) (by omega)).mpr l), if_pos l]
      · rw [if_neg (fun q => l ((q_lt (by omega) (by omega)).mp q)), if_neg l]
    have hfp : d_fop3 (Int32.ofNat j0 + (2 : Int32) * Int32.ofNat i) g = if z ≤ j0 + 2 * i + 1 then 2 else 0 := by
      unfold d_fop3
      rw [ex, q_succ, hfa _ (by omega), hfa _ (by omega)]
      by_cases l : z ≤ j0 + 2 * i + 1
      · rw [if_pos l, if_neg (show ¬ j0 + 2 * i + 1 < z by omega)]
        by_cases l2 : j0 + 2 * i < z
        · rw [if_pos l2, if_pos rfl]
        · rw [if_neg l2, if_neg (by decide)]
      · rw [if_neg l, if_pos (show j0 + 2 * i < z by omega), if_pos rfl, if_pos (show j0 + 2 * i + 1 < z by omega)]
    have hbp := b_fop3 (Int32.ofNat j0 + (2 : Int32) * Int32.ofNat i) g u
    rw [hfp] at hbp
    by_cases hc1 : z ≤ j0 + 2 * i + 1
    · refine q_call (M2 := 140) (rest := []) (by rw [if_pos hc1] at hbp; exact hbp) (fun _ _ => rfl) ?_
      refine q_step 3 47 [(0, .ref 8), (1, .int (3 : Int32)), (2, .int la), (3, .int (Int32.ofNat j0)), (4, .int (Int32.ofNat m)), (5, .ref 68), (6, .int (2 : Int32)), (7, .int (Int32.ofNat i))] [] g u (fun big n0 => sg_rd_115 big n0 g u la (Int32.ofNat j0) (Int32.ofNat m) (Int32.ofNat i)) ?_
      refine q_step 2 104 [(0, .ref 8), (1, .int (3 : Int32)), (2, .int la), (3, .int (Int32.ofNat j0)), (4, .int (Int32.ofNat m)), (5, .ref 68), (6, .int (2 : Int32)), (7, .int (Int32.ofNat i))] [] g u (fun big n0 => sg_rd_116 big n0 g u la (Int32.ofNat j0) (Int32.ofNat m) (Int32.ofNat i)) ?_
      exact hk _ i (by rw [f_rd, if_pos hc1])
    · refine q_call (M2 := 140) (rest := []) (by rw [if_neg hc1] at hbp; exact hbp) (fun _ _ => rfl) ?_
      refine q_step 10 86 [(0, .ref 8), (1, .int (3 : Int32)), (2, .int la), (3, .int (Int32.ofNat j0)), (4, .int (Int32.ofNat m)), (5, .ref 68), (6, .int (0 : Int32)), (7, .int (Int32.ofNat i))] [.int ((Int32.ofNat j0) + ((2 : Int32) * (Int32.ofNat i))), .ref 68, .ref 8] g u (fun big n0 => sg_rd_117 big n0 g u la (Int32.ofNat j0) (Int32.ofNat m) (Int32.ofNat i)) ?_
      by_cases hc2 : n_tl n (g 69) (j0 + 2 * i) = 0
      · have htl := cw_tell3 g u (n := n) (j := j0 + 2 * i) hn (by omega)
        rw [if_pos hc2, ← ex] at htl
        refine q_call (M2 := 141) (rest := []) (htl) (fun _ _ => rfl) ?_
        refine q_ret 5 (some (.int ((Int8.toInt32 (Int8.ofInt (-20))) - (Int32.ofNat i))), g, u) (fun _ _ => rfl) ?_
        exact hb i (by rw [f_rd, if_neg hc1, if_pos hc2])
      · have htl := cw_tell3 g u (n := n) (j := j0 + 2 * i) hn (by omega)
        rw [if_neg hc2, ← ex] at htl
        refine q_call (M2 := 141) (rest := []) (htl) (fun _ _ => rfl) ?_
        refine q_step 3 47 [(0, .ref 8), (1, .int (3 : Int32)), (2, .int la), (3, .int (Int32.ofNat j0)), (4, .int (Int32.ofNat m)), (5, .ref 68), (6, .int (0 : Int32)), (7, .int ((Int32.ofNat i) + (1 : Int32)))] [] g u (fun big n0 => sg_rd_118 big n0 g u la (Int32.ofNat j0) (Int32.ofNat m) (Int32.ofNat i)) ?_
        have e : f_rd (n_tl n (g 69)) z j0 (k + 1) i = f_rd (n_tl n (g 69)) z j0 k (i + 1) := by rw [f_rd, if_neg hc1, if_neg hc2]
        rw [q_succ]
        exact ih (i + 1) (by omega) (fun fd w h => hk fd w (e.trans h)) (fun w h => hb w (e.trans h))
theorem cr_ws3 {n z j0 m w : Nat} {g : qM} {la fd : Int32} (u : qW) (h6 : n ≤ 6) (hz : z ≤ 40) (hw : w ≤ 20) (ht : ∀ x, x < w → (n_tl n (g 69)) (j0 + 2 * x) ≠ 0 ∧ j0 + 2 * x + 1 < z) : ∀ k i ff, i + k = w → q_EV m_138 107 [(0, .ref 8), (1, .int (3 : Int32)), (2, .int la), (3, .int (Int32.ofNat j0)), (4, .int (Int32.ofNat m)), (5, .ref 68), (6, .int fd), (7, .int (Int32.ofNat w)), (8, .int (Int32.ofNat i))] [] (s_m22 ff g) u (fun R => R = (some (.int (Int32.ofNat w)), q_up (s_m22 (f_ws (g 69) j0 k i ff) g) 8 8 fd, u)) := by
  intro k
  induction k with
  | zero =>
    intro i ff hi
    refine q_step 2 111 [(0, .ref 8), (1, .int (3 : Int32)), (2, .int la), (3, .int (Int32.ofNat j0)), (4, .int (Int32.ofNat m)), (5, .ref 68), (6, .int fd), (7, .int (Int32.ofNat w)), (8, .int (Int32.ofNat i))] [.int (Int32.ofNat w), .int (Int32.ofNat i)] (s_m22 ff g) u (fun big n0 => sg_rd_119 big n0 (s_m22 ff g) u la (Int32.ofNat j0) (Int32.ofNat m) fd (Int32.ofNat w) (Int32.ofNat i)) ?_
    refine q_ic_ge rfl (fun (hc0 : (Int32.ofNat w) ≤ (Int32.ofNat i)) => ?_) (fun hc0 => absurd (show (Int32.ofNat w) ≤ (Int32.ofNat i) from by have z2 : i = w := hi; exact (q_le (i := w) (j := i) (by omega) (by omega)).mpr (by omega)) hc0)
    refine q_ret 5 (some (.int (Int32.ofNat w)), (q_up (s_m22 ff g) 8 8 fd), u) (fun _ _ => rfl) ?_
    rfl
  | succ k ih =>
    intro i ff hi
    obtain ⟨ht1, ht2⟩ := ht i (by omega)
    obtain ⟨⟨p, hp, ep⟩, _⟩ := n_tl_1 h6 ht1
    have ex : Int32.ofNat j0 + (2 : Int32) * Int32.ofNat i = Int32.ofNat (j0 + 2 * i) := by
      rw [show (2 : Int32) = Int32.ofNat 2 from rfl, q_mul, q_add]
    refine q_step 2 111 [(0, .ref 8), (1, .int (3 : Int32)), (2, .int la), (3, .int (Int32.ofNat j0)), (4, .int (Int32.ofNat m)), (5, .ref 68), (6, .int fd), (7, .int (Int32.ofNat w)), (8, .int (Int32.ofNat i))] [.int (Int32.ofNat w), .int (Int32.ofNat i)] (s_m22 ff g) u (fun big n0 => sg_rd_119 big n0 (s_m22 ff g) u la (Int32.ofNat j0) (Int32.ofNat m) fd (Int32.ofNat w) (Int32.ofNat i)) ?_
    refine q_ic_ge rfl (fun hc0 => absurd (show (Int32.ofNat w) ≤ (Int32.ofNat i) from hc0) (fun z => by exact absurd ((q_le (by omega) (by omega)).mp z) (by omega))) (fun (hc0 : ¬ ((Int32.ofNat w) ≤ (Int32.ofNat i))) => ?_)
    refine q_step 10 132 [(0, .ref 8), (1, .int (3 : Int32)), (2, .int la), (3, .int (Int32.ofNat j0)), (4, .int (Int32.ofNat m)), (5, .ref 68), (6, .int fd), (7, .int (Int32.ofNat w)), (8, .int (Int32.ofNat i))] [.int ((Int32.ofNat j0) + ((2 : Int32) * (Int32.ofNat i))), .ref 69, .ref 22] (s_m22 ff g) u (fun big n0 => sg_rd_120 big n0 (s_m22 ff g) u la (Int32.ofNat j0) (Int32.ofNat m) fd (Int32.ofNat w) (Int32.ofNat i)) ?_
    refine q_iald (j := (j0 + 2 * i)) (by rw [ex]; exact q_ixn (by omega) (by omega)) rfl rfl ?_
    refine q_step 9 146 [(0, .ref 8), (1, .int (3 : Int32)), (2, .int la), (3, .int (Int32.ofNat j0)), (4, .int (Int32.ofNat m)), (5, .ref 68), (6, .int fd), (7, .int (Int32.ofNat w)), (8, .int (Int32.ofNat i))] [.int (((Int32.ofNat j0) + ((2 : Int32) * (Int32.ofNat i))) + (1 : Int32)), .ref 69, .int (g 69 (j0 + 2 * i)), .ref 22] (s_m22 ff g) u (fun big n0 => sg_rd_121 big n0 (s_m22 ff g) u la (Int32.ofNat j0) (Int32.ofNat m) fd (Int32.ofNat w) (Int32.ofNat i) (g 69 (j0 + 2 * i))) ?_
    refine q_iald (j := (j0 + 2 * i + 1)) (by rw [ex, q_succ]; exact q_ixn (by omega) (by omega)) rfl rfl ?_
    refine q_iast (j := (g 69 (j0 + 2 * i)).toInt.toNat) (by rw [ep, q_nat (by omega)]; exact q_ixn (by omega) (by omega)) rfl rfl ?_
    refine q_step 2 107 [(0, .ref 8), (1, .int (3 : Int32)), (2, .int la), (3, .int (Int32.ofNat j0)), (4, .int (Int32.ofNat m)), (5, .ref 68), (6, .int fd), (7, .int (Int32.ofNat w)), (8, .int ((Int32.ofNat i) + (1 : Int32)))] [] (q_up (s_m22 ff g) 22 (g 69 (j0 + 2 * i)).toInt.toNat (g 69 (j0 + 2 * i + 1))) u (fun big n0 => sg_rd_122 big n0 (q_up (s_m22 ff g) 22 (g 69 (j0 + 2 * i)).toInt.toNat (g 69 (j0 + 2 * i + 1))) u la (Int32.ofNat j0) (Int32.ofNat m) fd (Int32.ofNat w) (Int32.ofNat i)) ?_
    rw [q_succ, show (q_up (s_m22 ff g) 22 (g 69 (j0 + 2 * i)).toInt.toNat (g 69 (j0 + 2 * i + 1))) = s_m22 (s_set ff (g 69 (j0 + 2 * i)).toInt.toNat (g 69 (j0 + 2 * i + 1))) g from s_m22_s]
    exact ih (i + 1) _ (by omega)

theorem cr_ok3 {n z j0 m : Nat} {g : qM} {la : Int32} (u : qW) (hn : g 20 3 = Int32.ofNat n) (h6 : n ≤ 6) (hz : z ≤ 40) (hsz : g 68 1 = Int32.ofNat z) (hj0 : j0 < 40) (hm : m ≤ 20) (hla : d_isLane la g = 1) (hf : (d_faultAs3 la g) = 0) : ∃ R, q_BS 138 [.ref 8, .int (3 : Int32), .int la, .int (Int32.ofNat j0), .int (Int32.ofNat m)] g u R ∧ ((∃ w fd, f_rd (n_tl n (g 69)) z j0 m 0 = (w, true) ∧ R = (some (.int (Int32.ofNat w)), q_up (s_m22 (f_ws (g 69) j0 w 0 (g 22)) g) 8 8 fd, u)) ∨ ∃ w, f_rd (n_tl n (g 69)) z j0 m 0 = (w, false) ∧ R = (some (.int (Int8.toInt32 (Int8.ofInt (-20)) - Int32.ofNat w)), g, u)) := by
  refine q_bs (mm := m_138) rfl (Nat.le_of_ble_eq_true rfl) rfl ?_
  refine q_step 1 1 [(0, .ref 8), (1, .int (3 : Int32)), (2, .int la), (3, .int (Int32.ofNat j0)), (4, .int (Int32.ofNat m))] [.int (3 : Int32)] g u (fun big n0 => sg_rd_97 big n0 g u la (Int32.ofNat j0) (Int32.ofNat m)) ?_
  refine q_call (M2 := 131) (rest := []) (show q_BS 131 [.int (3 : Int32)] g u (some (.int 1), g, u) from b_isSheet _ g u) (fun _ _ => rfl) ?_
  refine q_step 2 8 [(0, .ref 8), (1, .int (3 : Int32)), (2, .int la), (3, .int (Int32.ofNat j0)), (4, .int (Int32.ofNat m))] [.int la] g u (fun big n0 => sg_rd_98 big n0 g u la (Int32.ofNat j0) (Int32.ofNat m)) ?_
  have hln := b_isLane la g u
  rw [hla] at hln
  refine q_call (M2 := 132) (rest := []) (hln) (fun _ _ => rfl) ?_
  refine q_step 2 16 [(0, .ref 8), (1, .int (3 : Int32)), (2, .int la), (3, .int (Int32.ofNat j0)), (4, .int (Int32.ofNat m))] [.int (Int32.ofNat m)] g u (fun big n0 => sg_rd_99 big n0 g u la (Int32.ofNat j0) (Int32.ofNat m)) ?_
  refine q_if_lt rfl (fun hc0 => absurd (show (Int32.ofNat m) < 0 from hc0) (fun z => absurd ((q_lt (i := m) (j := 0) (by omega) (by omega)).mp z) (by omega))) (fun (hc0 : ¬ ((Int32.ofNat m) < 0)) => ?_)
  refine q_step 2 23 [(0, .ref 8), (1, .int (3 : Int32)), (2, .int la), (3, .int (Int32.ofNat j0)), (4, .int (Int32.ofNat m))] [.int (20 : Int32), .int (Int32.ofNat m)] g u (fun big n0 => sg_rd_100 big n0 g u la (Int32.ofNat j0) (Int32.ofNat m)) ?_
  refine q_ic_le rfl (fun (hc1 : (Int32.ofNat m) ≤ (20 : Int32)) => ?_) (fun hc1 => absurd (show (Int32.ofNat m) ≤ (20 : Int32) from (q_le (i := m) (j := 20) (by omega) (by omega)).mpr (by omega)) hc1)
  refine q_step 7 39 [(0, .ref 8), (1, .int (3 : Int32)), (2, .int la), (3, .int (Int32.ofNat j0)), (4, .int (Int32.ofNat m)), (5, .ref 68)] [.int la, .ref 68] g u (fun big n0 => sg_rd_101 big n0 g u la (Int32.ofNat j0) (Int32.ofNat m)) ?_
  have hfs := b_faultAs3 la g u
  rw [hf] at hfs
  refine q_call (M2 := 139) (rest := []) (hfs) (fun _ _ => rfl) ?_
  refine q_step 3 47 [(0, .ref 8), (1, .int (3 : Int32)), (2, .int la), (3, .int (Int32.ofNat j0)), (4, .int (Int32.ofNat m)), (5, .ref 68), (6, .int (0 : Int32)), (7, .int (0 : Int32))] [] g u (fun big n0 => sg_rd_123 big n0 g u la (Int32.ofNat j0) (Int32.ofNat m)) ?_
  refine cr_in3 u hn h6 hz hsz hj0 hm m 0 (by omega) (fun fd w hw => ?_) (fun w hw => Or.inr ⟨w, hw, rfl⟩)
  have hle := f_rd_le m 0 w true hw
  refine q_step 2 107 [(0, .ref 8), (1, .int (3 : Int32)), (2, .int la), (3, .int (Int32.ofNat j0)), (4, .int (Int32.ofNat m)), (5, .ref 68), (6, .int fd), (7, .int (Int32.ofNat w)), (8, .int (0 : Int32))] [] g u (fun big n0 => sg_rd_124 big n0 g u la (Int32.ofNat j0) (Int32.ofNat m) fd (Int32.ofNat w)) ?_
  have e := cr_ws3 (m := m) (la := la) (fd := fd) (g := g) u h6 hz (w := w) (j0 := j0) (by omega) (fun x hx => hle.2.2 x (Nat.zero_le _) hx) w 0 (g 22) (by omega)
  rw [s_m22_0] at e
  exact q_EV.imp e (fun R h => Or.inl ⟨w, fd, hw, h⟩)
end
