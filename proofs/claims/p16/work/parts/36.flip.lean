/-! THE STEP of the class: flips. X, Y: columns and rows, mo: moods, fl: whose mood flipped (bits). -/
def s_fo (x : Int32) : Int32 := if x = 0 then 0 else if x = 3 then 1 else x + 1
def s_nx (X Y : Nat → Int32) (p : Nat) : Nat → Nat → Int32 → Int32
  | 0, _, a => a
  | k + 1, q, a => s_nx X Y p k (q + 1) (a + (if s_abs (X q - X p) + s_abs (Y q - Y p) = 1 then 1 else 0))
def s_fl (pr : Int32) (X Y : Nat → Int32) (n : Nat) : Nat → Nat → (Nat → Int32) → Int32 → (Nat → Int32) × Int32
  | 0, _, mo, fl => (mo, fl)
  | k + 1, i, mo, fl => if mo i = 0 then s_fl pr X Y n k (i + 1) mo fl else if s_nx X Y i n 0 0 < pr then s_fl pr X Y n k (i + 1) mo fl else s_fl pr X Y n k (i + 1) (s_set mo i (s_fo (mo i))) (fl ||| ((1 : Int32) <<< (Int32.ofNat i &&& 31)))
def s_M6 (T : Nat) (mo : Nat → Int32) (fl : Int32) (g : qM) : qM := fun a j => if a = T then mo j else if a = 28 then (if j = 6 then fl else g 28 j) else g a j
theorem s_M6_m {T : Nat} {mo : Nat → Int32} {fl : Int32} {g : qM} {i : Nat} {x : Int32} : q_up (s_M6 T mo fl g) T i x = s_M6 T (s_set mo i x) fl g := by
  funext a j
  simp only [q_up_eq, s_M6, s_set]
  by_cases h : a = T
  · by_cases e : j = i
    · simp [h, e]
    · simp [h, e]
  · simp [h]
theorem s_M6_f {T : Nat} {mo : Nat → Int32} {fl : Int32} {g : qM} {x : Int32} (hT : T ≠ 28) : q_up (s_M6 T mo fl g) 28 6 x = s_M6 T mo x g := by
  funext a j
  simp only [q_up_eq, s_M6]
  by_cases h : a = 28
  · have h2 : ¬ 28 = T := fun z => hT z.symm
    by_cases e : j = 6
    · simp [h, e, h2]
    · simp [h, e, h2]
  · simp [h]
theorem s_M6_0 {T : Nat} {g : qM} {x : Int32} (hT : T ≠ 28) : q_up g 28 6 x = s_M6 T (g T) x g := by
  funext a j
  simp only [q_up_eq, s_M6]
  by_cases h : a = T
  · have h2 : ¬ T = 28 := hT
    simp [h, h2]
  · by_cases h3 : a = 28
    · by_cases e : j = 6
      · simp [h3, e]
        intro z
        exact absurd z.symm hT
      · simp [h3, e]
        intro z
        exact absurd z.symm hT
    · simp [h, h3]
/-- the cells behind flipAll -/
def s_flip (T n : Nat) (g : qM) : qM := s_M6 (T + 2) (if g T 4 ≤ 0 then g (T + 2) else (s_fl (g T 4) (g 29) (g 30) n n 0 (g (T + 2)) 0).1) (if g T 4 ≤ 0 then 0 else (s_fl (g T 4) (g 29) (g 30) n n 0 (g (T + 2)) 0).2) g
theorem sg_fl_1 (big : Nat → List Value → qM → qW → qR) (n0 : Nat) (G : qM) (U : qW) (v0 : Int32) : qm_run pm_m big m_72 (n0 + 1) 0 [(0, .int v0)] [] G U = qm_run pm_m big m_72 n0 1 [(0, .int v0)] [.int v0] G U := rfl
theorem sg_fl_2 (big : Nat → List Value → qM → qW → qR) (n0 : Nat) (G : qM) (U : qW) (v0 : Int32) : qm_run pm_m big m_72 (n0 + 2) 8 [(0, .int v0)] [] G U = qm_run pm_m big m_72 n0 10 [(0, .int v0)] [.int (3 : Int32), .int v0] G U := rfl
theorem sg_fl_3 (big : Nat → List Value → qM → qW → qR) (n0 : Nat) (G : qM) (U : qW) (v0 : Int32) (v1 : Int32) (v2 : Int32) (v3 : Int32) : qm_run pm_m big m_71 (n0 + 2) 5 [(0, .ref 28), (1, .int v0), (2, .int v1), (3, .int v2), (4, .int v3)] [] G U = qm_run pm_m big m_71 n0 8 [(0, .ref 28), (1, .int v0), (2, .int v1), (3, .int v2), (4, .int v3)] [.int v1, .int v3] G U := rfl
theorem sg_fl_4 (big : Nat → List Value → qM → qW → qR) (n0 : Nat) (G : qM) (U : qW) (v0 : Int32) (v1 : Int32) (v2 : Int32) (v3 : Int32) : qm_run pm_m big m_71 (n0 + 4) 11 [(0, .ref 28), (1, .int v0), (2, .int v1), (3, .int v2), (4, .int v3)] [] G U = qm_run pm_m big m_71 n0 18 [(0, .ref 28), (1, .int v0), (2, .int v1), (3, .int v2), (4, .int v3)] [.int v3, .ref 29, .int v2] G U := rfl
theorem sg_fl_5 (big : Nat → List Value → qM → qW → qR) (n0 : Nat) (G : qM) (U : qW) (v0 : Int32) (v1 : Int32) (v2 : Int32) (v3 : Int32) (v4 : Int32) (v5 : Int32) : qm_run pm_m big m_71 (n0 + 3) 19 [(0, .ref 28), (1, .int v0), (2, .int v1), (3, .int v2), (4, .int v3)] [.int v5, .int v4] G U = qm_run pm_m big m_71 n0 24 [(0, .ref 28), (1, .int v0), (2, .int v1), (3, .int v2), (4, .int v3)] [.int v0, .ref 29, .int v5, .int v4] G U := rfl
theorem sg_fl_6 (big : Nat → List Value → qM → qW → qR) (n0 : Nat) (G : qM) (U : qW) (v0 : Int32) (v1 : Int32) (v2 : Int32) (v3 : Int32) (v4 : Int32) (v5 : Int32) (v6 : Int32) : qm_run pm_m big m_71 (n0 + 1) 25 [(0, .ref 28), (1, .int v0), (2, .int v1), (3, .int v2), (4, .int v3)] [.int v6, .int v5, .int v4] G U = qm_run pm_m big m_71 n0 26 [(0, .ref 28), (1, .int v0), (2, .int v1), (3, .int v2), (4, .int v3)] [.int (v5 - v6), .int v4] G U := rfl
theorem sg_fl_7 (big : Nat → List Value → qM → qW → qR) (n0 : Nat) (G : qM) (U : qW) (v0 : Int32) (v1 : Int32) (v2 : Int32) (v3 : Int32) (v4 : Int32) (v5 : Int32) : qm_run pm_m big m_71 (n0 + 3) 29 [(0, .ref 28), (1, .int v0), (2, .int v1), (3, .int v2), (4, .int v3)] [.int v5, .int v4] G U = qm_run pm_m big m_71 n0 35 [(0, .ref 28), (1, .int v0), (2, .int v1), (3, .int v2), (4, .int v3)] [.int v3, .ref 30, .int v5, .int v4] G U := rfl
theorem sg_fl_8 (big : Nat → List Value → qM → qW → qR) (n0 : Nat) (G : qM) (U : qW) (v0 : Int32) (v1 : Int32) (v2 : Int32) (v3 : Int32) (v4 : Int32) (v5 : Int32) (v6 : Int32) : qm_run pm_m big m_71 (n0 + 3) 36 [(0, .ref 28), (1, .int v0), (2, .int v1), (3, .int v2), (4, .int v3)] [.int v6, .int v5, .int v4] G U = qm_run pm_m big m_71 n0 41 [(0, .ref 28), (1, .int v0), (2, .int v1), (3, .int v2), (4, .int v3)] [.int v0, .ref 30, .int v6, .int v5, .int v4] G U := rfl
theorem sg_fl_9 (big : Nat → List Value → qM → qW → qR) (n0 : Nat) (G : qM) (U : qW) (v0 : Int32) (v1 : Int32) (v2 : Int32) (v3 : Int32) (v4 : Int32) (v5 : Int32) (v6 : Int32) (v7 : Int32) : qm_run pm_m big m_71 (n0 + 1) 42 [(0, .ref 28), (1, .int v0), (2, .int v1), (3, .int v2), (4, .int v3)] [.int v7, .int v6, .int v5, .int v4] G U = qm_run pm_m big m_71 n0 43 [(0, .ref 28), (1, .int v0), (2, .int v1), (3, .int v2), (4, .int v3)] [.int (v6 - v7), .int v5, .int v4] G U := rfl
theorem sg_fl_10 (big : Nat → List Value → qM → qW → qR) (n0 : Nat) (G : qM) (U : qW) (v0 : Int32) (v1 : Int32) (v2 : Int32) (v3 : Int32) (v4 : Int32) (v5 : Int32) (v6 : Int32) : qm_run pm_m big m_71 (n0 + 2) 46 [(0, .ref 28), (1, .int v0), (2, .int v1), (3, .int v2), (4, .int v3)] [.int v6, .int v5, .int v4] G U = qm_run pm_m big m_71 n0 48 [(0, .ref 28), (1, .int v0), (2, .int v1), (3, .int v2), (4, .int v3)] [.int (1 : Int32), .int (v5 + v6), .int v4] G U := rfl
theorem sg_fl_11 (big : Nat → List Value → qM → qW → qR) (n0 : Nat) (G : qM) (U : qW) (v0 : Int32) (v1 : Int32) (v2 : Int32) (v3 : Int32) (v4 : Int32) : qm_run pm_m big m_71 (n0 + 6) 51 [(0, .ref 28), (1, .int v0), (2, .int v1), (3, .int v2), (4, .int v3)] [.int v4] G U = qm_run pm_m big m_71 n0 5 [(0, .ref 28), (1, .int v0), (2, .int v1), (3, .int (v4 + (1 : Int32))), (4, .int (v3 + (1 : Int32)))] [] G U := rfl
theorem sg_fl_12 (big : Nat → List Value → qM → qW → qR) (n0 : Nat) (G : qM) (U : qW) (v0 : Int32) (v1 : Int32) (v2 : Int32) (v3 : Int32) (v4 : Int32) : qm_run pm_m big m_71 (n0 + 5) 55 [(0, .ref 28), (1, .int v0), (2, .int v1), (3, .int v2), (4, .int v3)] [.int v4] G U = qm_run pm_m big m_71 n0 5 [(0, .ref 28), (1, .int v0), (2, .int v1), (3, .int (v4 + (0 : Int32))), (4, .int (v3 + (1 : Int32)))] [] G U := rfl
theorem sg_fl_13 (big : Nat → List Value → qM → qW → qR) (n0 : Nat) (G : qM) (U : qW) (v0 : Int32) (v1 : Int32) : qm_run pm_m big m_71 (n0 + 4) 0 [(0, .ref 28), (1, .int v0), (2, .int v1)] [] G U = qm_run pm_m big m_71 n0 5 [(0, .ref 28), (1, .int v0), (2, .int v1), (3, .int (0 : Int32)), (4, .int (0 : Int32))] [] G U := rfl
theorem sg_fl_14 (big : Nat → List Value → qM → qW → qR) (n0 : Nat) (G : qM) (U : qW) (v0 : Int32) : qm_run pm_m big m_70 (n0 + 3) 7 [(0, .ref 28), (1, .ref 20), (2, .int v0)] [] G U = qm_run pm_m big m_70 n0 12 [(0, .ref 28), (1, .ref 20), (2, .int v0)] [.int (G 20 3), .int v0] G U := rfl
theorem sg_fl_15 (big : Nat → List Value → qM → qW → qR) (n0 : Nat) (G : qM) (U : qW) (v0 : Int32) : qm_run pm_m big m_70 (n0 + 2) 15 [(0, .ref 28), (1, .ref 20), (2, .int v0)] [] G U = qm_run pm_m big m_70 n0 19 [(0, .ref 28), (1, .ref 20), (2, .int v0)] [.int (G 20 4)] G U := rfl
theorem sg_fl_16 (big : Nat → List Value → qM → qW → qR) (n0 : Nat) (G : qM) (U : qW) (v0 : Int32) : qm_run pm_m big m_70 (n0 + 3) 22 [(0, .ref 28), (1, .ref 20), (2, .int v0)] [] G U = qm_run pm_m big m_70 n0 27 [(0, .ref 28), (1, .ref 20), (2, .int v0)] [.int v0, .ref 22] G U := rfl
theorem sg_fl_17 (big : Nat → List Value → qM → qW → qR) (n0 : Nat) (G : qM) (U : qW) (v0 : Int32) : qm_run pm_m big m_70 (n0 + 2) 74 [(0, .ref 28), (1, .ref 20), (2, .int v0)] [] G U = qm_run pm_m big m_70 n0 7 [(0, .ref 28), (1, .ref 20), (2, .int (v0 + (1 : Int32)))] [] G U := rfl
theorem sg_fl_18 (big : Nat → List Value → qM → qW → qR) (n0 : Nat) (G : qM) (U : qW) (v0 : Int32) : qm_run pm_m big m_70 (n0 + 4) 31 [(0, .ref 28), (1, .ref 20), (2, .int v0)] [] G U = qm_run pm_m big m_70 n0 37 [(0, .ref 28), (1, .ref 20), (2, .int v0)] [.int (G 20 3), .int v0, .ref 28] G U := rfl
theorem sg_fl_19 (big : Nat → List Value → qM → qW → qR) (n0 : Nat) (G : qM) (U : qW) (v0 : Int32) (v1 : Int32) : qm_run pm_m big m_70 (n0 + 2) 40 [(0, .ref 28), (1, .ref 20), (2, .int v0)] [.int v1] G U = qm_run pm_m big m_70 n0 44 [(0, .ref 28), (1, .ref 20), (2, .int v0)] [.int (G 20 4), .int v1] G U := rfl
theorem sg_fl_20 (big : Nat → List Value → qM → qW → qR) (n0 : Nat) (G : qM) (U : qW) (v0 : Int32) : qm_run pm_m big m_70 (n0 + 6) 47 [(0, .ref 28), (1, .ref 20), (2, .int v0)] [] G U = qm_run pm_m big m_70 n0 57 [(0, .ref 28), (1, .ref 20), (2, .int v0)] [.int v0, .ref 22, .int v0, .ref 22] G U := rfl
theorem sg_fl_21 (big : Nat → List Value → qM → qW → qR) (n0 : Nat) (G : qM) (U : qW) (v0 : Int32) : qm_run pm_m big m_70 (n0 + 10) 62 [(0, .ref 28), (1, .ref 20), (2, .int v0)] [] G U = qm_run pm_m big m_70 n0 7 [(0, .ref 28), (1, .ref 20), (2, .int (v0 + (1 : Int32)))] [] (q_up G 28 6 ((G 28 6) ||| ((1 : Int32) <<< (v0 &&& 31)))) U := rfl
theorem sg_fl_22 (big : Nat → List Value → qM → qW → qR) (n0 : Nat) (G : qM) (U : qW) : qm_run pm_m big m_70 (n0 + 5) 0 [(0, .ref 28), (1, .ref 20)] [] G U = qm_run pm_m big m_70 n0 7 [(0, .ref 28), (1, .ref 20), (2, .int (0 : Int32))] [] (q_up G 28 6 (0 : Int32)) U := rfl
theorem sg_fl_23 (big : Nat → List Value → qM → qW → qR) (n0 : Nat) (G : qM) (U : qW) : qm_run pm_m big m_70 (n0 + 3) 7 [(0, .ref 28), (1, .ref 20), (2, .int (0 : Int32))] [] G U = qm_run pm_m big m_70 n0 12 [(0, .ref 28), (1, .ref 20), (2, .int (0 : Int32))] [.int (G 20 3), .int (0 : Int32)] G U := rfl
theorem sg_fl_24 (big : Nat → List Value → qM → qW → qR) (n0 : Nat) (G : qM) (U : qW) : qm_run pm_m big m_70 (n0 + 2) 15 [(0, .ref 28), (1, .ref 20), (2, .int (0 : Int32))] [] G U = qm_run pm_m big m_70 n0 19 [(0, .ref 28), (1, .ref 20), (2, .int (0 : Int32))] [.int (G 20 4)] G U := rfl
theorem sg_fl_25 (big : Nat → List Value → qM → qW → qR) (n0 : Nat) (G : qM) (U : qW) (v0 : Int32) : qm_run pm_m big m_70 (n0 + 3) 7 [(0, .ref 28), (1, .ref 35), (2, .int v0)] [] G U = qm_run pm_m big m_70 n0 12 [(0, .ref 28), (1, .ref 35), (2, .int v0)] [.int (G 35 3), .int v0] G U := rfl
theorem sg_fl_26 (big : Nat → List Value → qM → qW → qR) (n0 : Nat) (G : qM) (U : qW) (v0 : Int32) : qm_run pm_m big m_70 (n0 + 2) 15 [(0, .ref 28), (1, .ref 35), (2, .int v0)] [] G U = qm_run pm_m big m_70 n0 19 [(0, .ref 28), (1, .ref 35), (2, .int v0)] [.int (G 35 4)] G U := rfl
theorem sg_fl_27 (big : Nat → List Value → qM → qW → qR) (n0 : Nat) (G : qM) (U : qW) (v0 : Int32) : qm_run pm_m big m_70 (n0 + 3) 22 [(0, .ref 28), (1, .ref 35), (2, .int v0)] [] G U = qm_run pm_m big m_70 n0 27 [(0, .ref 28), (1, .ref 35), (2, .int v0)] [.int v0, .ref 37] G U := rfl
theorem sg_fl_28 (big : Nat → List Value → qM → qW → qR) (n0 : Nat) (G : qM) (U : qW) (v0 : Int32) : qm_run pm_m big m_70 (n0 + 2) 74 [(0, .ref 28), (1, .ref 35), (2, .int v0)] [] G U = qm_run pm_m big m_70 n0 7 [(0, .ref 28), (1, .ref 35), (2, .int (v0 + (1 : Int32)))] [] G U := rfl
theorem sg_fl_29 (big : Nat → List Value → qM → qW → qR) (n0 : Nat) (G : qM) (U : qW) (v0 : Int32) : qm_run pm_m big m_70 (n0 + 4) 31 [(0, .ref 28), (1, .ref 35), (2, .int v0)] [] G U = qm_run pm_m big m_70 n0 37 [(0, .ref 28), (1, .ref 35), (2, .int v0)] [.int (G 35 3), .int v0, .ref 28] G U := rfl
theorem sg_fl_30 (big : Nat → List Value → qM → qW → qR) (n0 : Nat) (G : qM) (U : qW) (v0 : Int32) (v1 : Int32) : qm_run pm_m big m_70 (n0 + 2) 40 [(0, .ref 28), (1, .ref 35), (2, .int v0)] [.int v1] G U = qm_run pm_m big m_70 n0 44 [(0, .ref 28), (1, .ref 35), (2, .int v0)] [.int (G 35 4), .int v1] G U := rfl
theorem sg_fl_31 (big : Nat → List Value → qM → qW → qR) (n0 : Nat) (G : qM) (U : qW) (v0 : Int32) : qm_run pm_m big m_70 (n0 + 6) 47 [(0, .ref 28), (1, .ref 35), (2, .int v0)] [] G U = qm_run pm_m big m_70 n0 57 [(0, .ref 28), (1, .ref 35), (2, .int v0)] [.int v0, .ref 37, .int v0, .ref 37] G U := rfl
theorem sg_fl_32 (big : Nat → List Value → qM → qW → qR) (n0 : Nat) (G : qM) (U : qW) (v0 : Int32) : qm_run pm_m big m_70 (n0 + 10) 62 [(0, .ref 28), (1, .ref 35), (2, .int v0)] [] G U = qm_run pm_m big m_70 n0 7 [(0, .ref 28), (1, .ref 35), (2, .int (v0 + (1 : Int32)))] [] (q_up G 28 6 ((G 28 6) ||| ((1 : Int32) <<< (v0 &&& 31)))) U := rfl
theorem sg_fl_33 (big : Nat → List Value → qM → qW → qR) (n0 : Nat) (G : qM) (U : qW) : qm_run pm_m big m_70 (n0 + 5) 0 [(0, .ref 28), (1, .ref 35)] [] G U = qm_run pm_m big m_70 n0 7 [(0, .ref 28), (1, .ref 35), (2, .int (0 : Int32))] [] (q_up G 28 6 (0 : Int32)) U := rfl
theorem sg_fl_34 (big : Nat → List Value → qM → qW → qR) (n0 : Nat) (G : qM) (U : qW) : qm_run pm_m big m_70 (n0 + 3) 7 [(0, .ref 28), (1, .ref 35), (2, .int (0 : Int32))] [] G U = qm_run pm_m big m_70 n0 12 [(0, .ref 28), (1, .ref 35), (2, .int (0 : Int32))] [.int (G 35 3), .int (0 : Int32)] G U := rfl
theorem sg_fl_35 (big : Nat → List Value → qM → qW → qR) (n0 : Nat) (G : qM) (U : qW) : qm_run pm_m big m_70 (n0 + 2) 15 [(0, .ref 28), (1, .ref 35), (2, .int (0 : Int32))] [] G U = qm_run pm_m big m_70 n0 19 [(0, .ref 28), (1, .ref 35), (2, .int (0 : Int32))] [.int (G 35 4)] G U := rfl
theorem b_flipOf (x : Int32) (g : qM) (u : qW) : q_BS 72 [.int x] g u (some (.int (s_fo x)), g, u) := by
  refine q_bx (mm := m_72) rfl (Nat.le_of_ble_eq_true rfl) rfl ?_
  refine q_step 1 1 [(0, .int x)] [.int x] g u (fun big n0 => sg_fl_1 big n0 g u x) ?_
  refine q_if_ne rfl (fun (hc0 : x = 0) => ?_) (fun (hc0 : ¬ (x = 0)) => ?_)
  · refine q_ret 3 (some (.int (0 : Int32)), g, u) (fun _ _ => rfl) ?_
    unfold s_fo
    rw [if_pos hc0]
  · refine q_step 2 10 [(0, .int x)] [.int (3 : Int32), .int x] g u (fun big n0 => sg_fl_2 big n0 g u x) ?_
    refine q_ic_ne rfl (fun (hc1 : x = (3 : Int32)) => ?_) (fun (hc1 : ¬ (x = (3 : Int32))) => ?_)
    · refine q_ret 3 (some (.int (1 : Int32)), g, u) (fun _ _ => rfl) ?_
      unfold s_fo
      rw [if_neg hc0, if_pos hc1]
    · refine q_ret 4 (some (.int (x + (1 : Int32))), g, u) (fun _ _ => rfl) ?_
      unfold s_fo
      rw [if_neg hc0, if_neg hc1]
theorem nx_l (g : qM) (u : qW) {n p : Nat} (h6 : n ≤ 6) (hp : p < n) : ∀ k q a, q + k = n → q_EV m_71 5 [(0, .ref 28), (1, .int (Int32.ofNat p)), (2, .int (Int32.ofNat n)), (3, .int a), (4, .int (Int32.ofNat q))] [] g u (fun R => R = (some (.int (s_nx (g 29) (g 30) p k q a)), g, u)) := by
  intro k
  induction k with
  | zero =>
    intro q a hq
    refine q_step 2 8 [(0, .ref 28), (1, .int (Int32.ofNat p)), (2, .int (Int32.ofNat n)), (3, .int a), (4, .int (Int32.ofNat q))] [.int (Int32.ofNat n), .int (Int32.ofNat q)] g u (fun big n0 => sg_fl_3 big n0 g u (Int32.ofNat p) (Int32.ofNat n) a (Int32.ofNat q)) ?_
    refine q_ic_ge rfl (fun (hc0 : (Int32.ofNat n) ≤ (Int32.ofNat q)) => ?_) (fun hc0 => absurd (show (Int32.ofNat n) ≤ (Int32.ofNat q) from by rw [q_le (by omega) (by omega)]; omega) hc0)
    refine q_ret 2 (some (.int a), g, u) (fun _ _ => rfl) ?_
    rfl
  | succ k ih =>
    intro q a hq
    refine q_step 2 8 [(0, .ref 28), (1, .int (Int32.ofNat p)), (2, .int (Int32.ofNat n)), (3, .int a), (4, .int (Int32.ofNat q))] [.int (Int32.ofNat n), .int (Int32.ofNat q)] g u (fun big n0 => sg_fl_3 big n0 g u (Int32.ofNat p) (Int32.ofNat n) a (Int32.ofNat q)) ?_
    refine q_ic_ge rfl (fun hc0 => absurd (show (Int32.ofNat n) ≤ (Int32.ofNat q) from hc0) (fun z => by rw [q_le (by omega) (by omega)] at z; omega)) (fun (hc0 : ¬ ((Int32.ofNat n) ≤ (Int32.ofNat q))) => ?_)
    refine q_step 4 18 [(0, .ref 28), (1, .int (Int32.ofNat p)), (2, .int (Int32.ofNat n)), (3, .int a), (4, .int (Int32.ofNat q))] [.int (Int32.ofNat q), .ref 29, .int a] g u (fun big n0 => sg_fl_4 big n0 g u (Int32.ofNat p) (Int32.ofNat n) a (Int32.ofNat q)) ?_
    refine q_iald (j := q) (q_ixn (by omega) (by omega)) rfl rfl ?_
    refine q_step 3 24 [(0, .ref 28), (1, .int (Int32.ofNat p)), (2, .int (Int32.ofNat n)), (3, .int a), (4, .int (Int32.ofNat q))] [.int (Int32.ofNat p), .ref 29, .int (g 29 q), .int a] g u (fun big n0 => sg_fl_5 big n0 g u (Int32.ofNat p) (Int32.ofNat n) a (Int32.ofNat q) a (g 29 q)) ?_
    refine q_iald (j := p) (q_ixn (by omega) (by omega)) rfl rfl ?_
    refine q_step 1 26 [(0, .ref 28), (1, .int (Int32.ofNat p)), (2, .int (Int32.ofNat n)), (3, .int a), (4, .int (Int32.ofNat q))] [.int ((g 29 q) - (g 29 p)), .int a] g u (fun big n0 => sg_fl_6 big n0 g u (Int32.ofNat p) (Int32.ofNat n) a (Int32.ofNat q) a (g 29 q) (g 29 p)) ?_
    refine q_call (M2 := 62) (rest := [.int a]) (b_abs _ _ _) (fun _ _ => rfl) ?_
    refine q_step 3 35 [(0, .ref 28), (1, .int (Int32.ofNat p)), (2, .int (Int32.ofNat n)), (3, .int a), (4, .int (Int32.ofNat q))] [.int (Int32.ofNat q), .ref 30, .int (s_abs ((g 29 q) - (g 29 p))), .int a] g u (fun big n0 => sg_fl_7 big n0 g u (Int32.ofNat p) (Int32.ofNat n) a (Int32.ofNat q) a (s_abs ((g 29 q) - (g 29 p)))) ?_
    refine q_iald (j := q) (q_ixn (by omega) (by omega)) rfl rfl ?_
    refine q_step 3 41 [(0, .ref 28), (1, .int (Int32.ofNat p)), (2, .int (Int32.ofNat n)), (3, .int a), (4, .int (Int32.ofNat q))] [.int (Int32.ofNat p), .ref 30, .int (g 30 q), .int (s_abs ((g 29 q) - (g 29 p))), .int a] g u (fun big n0 => sg_fl_8 big n0 g u (Int32.ofNat p) (Int32.ofNat n) a (Int32.ofNat q) a (s_abs ((g 29 q) - (g 29 p))) (g 30 q)) ?_
    refine q_iald (j := p) (q_ixn (by omega) (by omega)) rfl rfl ?_
    refine q_step 1 43 [(0, .ref 28), (1, .int (Int32.ofNat p)), (2, .int (Int32.ofNat n)), (3, .int a), (4, .int (Int32.ofNat q))] [.int ((g 30 q) - (g 30 p)), .int (s_abs ((g 29 q) - (g 29 p))), .int a] g u (fun big n0 => sg_fl_9 big n0 g u (Int32.ofNat p) (Int32.ofNat n) a (Int32.ofNat q) a (s_abs ((g 29 q) - (g 29 p))) (g 30 q) (g 30 p)) ?_
    refine q_call (M2 := 62) (rest := [.int (s_abs ((g 29 q) - (g 29 p))), .int a]) (b_abs _ _ _) (fun _ _ => rfl) ?_
    refine q_step 2 48 [(0, .ref 28), (1, .int (Int32.ofNat p)), (2, .int (Int32.ofNat n)), (3, .int a), (4, .int (Int32.ofNat q))] [.int (1 : Int32), .int ((s_abs ((g 29 q) - (g 29 p))) + (s_abs ((g 30 q) - (g 30 p)))), .int a] g u (fun big n0 => sg_fl_10 big n0 g u (Int32.ofNat p) (Int32.ofNat n) a (Int32.ofNat q) a (s_abs ((g 29 q) - (g 29 p))) (s_abs ((g 30 q) - (g 30 p)))) ?_
    refine q_ic_ne rfl (fun (hc1 : ((s_abs ((g 29 q) - (g 29 p))) + (s_abs ((g 30 q) - (g 30 p)))) = (1 : Int32)) => ?_) (fun (hc1 : ¬ (((s_abs ((g 29 q) - (g 29 p))) + (s_abs ((g 30 q) - (g 30 p)))) = (1 : Int32))) => ?_)
    · refine q_step 6 5 [(0, .ref 28), (1, .int (Int32.ofNat p)), (2, .int (Int32.ofNat n)), (3, .int (a + (1 : Int32))), (4, .int ((Int32.ofNat q) + (1 : Int32)))] [] g u (fun big n0 => sg_fl_11 big n0 g u (Int32.ofNat p) (Int32.ofNat n) a (Int32.ofNat q) a) ?_
      rw [q_succ]
      have e := ih (q + 1) (a + 1) (by omega)
      unfold s_nx
      rw [if_pos hc1]
      exact e
    · refine q_step 5 5 [(0, .ref 28), (1, .int (Int32.ofNat p)), (2, .int (Int32.ofNat n)), (3, .int (a + (0 : Int32))), (4, .int ((Int32.ofNat q) + (1 : Int32)))] [] g u (fun big n0 => sg_fl_12 big n0 g u (Int32.ofNat p) (Int32.ofNat n) a (Int32.ofNat q) a) ?_
      rw [q_succ]
      have e := ih (q + 1) (a + 0) (by omega)
      unfold s_nx
      rw [if_neg hc1]
      exact e
theorem b_nx (g : qM) (u : qW) {n p : Nat} (h6 : n ≤ 6) (hp : p < n) : q_BS 71 [.ref 28, .int (Int32.ofNat p), .int (Int32.ofNat n)] g u (some (.int (s_nx (g 29) (g 30) p n 0 0)), g, u) := by
  refine q_bx (mm := m_71) rfl (Nat.le_of_ble_eq_true rfl) rfl ?_
  refine q_step 4 5 [(0, .ref 28), (1, .int (Int32.ofNat p)), (2, .int (Int32.ofNat n)), (3, .int (0 : Int32)), (4, .int (0 : Int32))] [] g u (fun big n0 => sg_fl_13 big n0 g u (Int32.ofNat p) (Int32.ofNat n)) ?_
  exact nx_l g u h6 hp n 0 0 (by omega)
theorem fl_20 (g : qM) (u : qW) {n : Nat} (hn : g 20 3 = Int32.ofNat n) (h6 : n ≤ 6) (hpr : ¬ g 20 4 ≤ 0) : ∀ k i mo fl, i + k = n → q_EV m_70 7 [(0, .ref 28), (1, .ref 20), (2, .int (Int32.ofNat i))] [] (s_M6 22 mo fl g) u (fun R => R = (none, s_M6 22 (s_fl (g 20 4) (g 29) (g 30) n k i mo fl).1 (s_fl (g 20 4) (g 29) (g 30) n k i mo fl).2 g, u)) := by
  intro k
  induction k with
  | zero =>
    intro i mo fl hi
    refine q_step 3 12 [(0, .ref 28), (1, .ref 20), (2, .int (Int32.ofNat i))] [.int (g 20 3), .int (Int32.ofNat i)] (s_M6 22 mo fl g) u (fun big n0 => sg_fl_14 big n0 (s_M6 22 mo fl g) u (Int32.ofNat i)) ?_
    refine q_ic_ge rfl (fun (hc0 : (g 20 3) ≤ (Int32.ofNat i)) => ?_) (fun hc0 => absurd (show (g 20 3) ≤ (Int32.ofNat i) from by rw [hn, q_le (by omega) (by omega)]; omega) hc0)
    refine q_ret 1 (none, (s_M6 22 mo fl g), u) (fun _ _ => rfl) ?_
    rfl
  | succ k ih =>
    intro i mo fl hi
    refine q_step 3 12 [(0, .ref 28), (1, .ref 20), (2, .int (Int32.ofNat i))] [.int (g 20 3), .int (Int32.ofNat i)] (s_M6 22 mo fl g) u (fun big n0 => sg_fl_14 big n0 (s_M6 22 mo fl g) u (Int32.ofNat i)) ?_
    refine q_ic_ge rfl (fun hc0 => absurd (show (g 20 3) ≤ (Int32.ofNat i) from hc0) (fun z => by rw [hn, q_le (by omega) (by omega)] at z; omega)) (fun (hc0 : ¬ ((g 20 3) ≤ (Int32.ofNat i))) => ?_)
    refine q_step 2 19 [(0, .ref 28), (1, .ref 20), (2, .int (Int32.ofNat i))] [.int (g 20 4)] (s_M6 22 mo fl g) u (fun big n0 => sg_fl_15 big n0 (s_M6 22 mo fl g) u (Int32.ofNat i)) ?_
    refine q_if_le rfl (fun hc1 => absurd (show (g 20 4) ≤ 0 from hc1) (hpr)) (fun (hc1 : ¬ ((g 20 4) ≤ 0)) => ?_)
    refine q_step 3 27 [(0, .ref 28), (1, .ref 20), (2, .int (Int32.ofNat i))] [.int (Int32.ofNat i), .ref 22] (s_M6 22 mo fl g) u (fun big n0 => sg_fl_16 big n0 (s_M6 22 mo fl g) u (Int32.ofNat i)) ?_
    refine q_iald (j := i) (q_ixn (by omega) (by omega)) rfl rfl ?_
    refine q_if_eq rfl (fun (hc2 : (mo i) = 0) => ?_) (fun (hc2 : ¬ ((mo i) = 0)) => ?_)
    · refine q_step 2 7 [(0, .ref 28), (1, .ref 20), (2, .int ((Int32.ofNat i) + (1 : Int32)))] [] (s_M6 22 mo fl g) u (fun big n0 => sg_fl_17 big n0 (s_M6 22 mo fl g) u (Int32.ofNat i)) ?_
      rw [q_succ]
      unfold s_fl
      rw [if_pos hc2]
      exact ih (i + 1) _ _ (by omega)
    · refine q_step 4 37 [(0, .ref 28), (1, .ref 20), (2, .int (Int32.ofNat i))] [.int (g 20 3), .int (Int32.ofNat i), .ref 28] (s_M6 22 mo fl g) u (fun big n0 => sg_fl_18 big n0 (s_M6 22 mo fl g) u (Int32.ofNat i)) ?_
      have hb : q_BS 71 [.ref 28, .int (Int32.ofNat i), .int (g 20 3)] (s_M6 22 mo fl g) u (some (.int (s_nx (g 29) (g 30) i n 0 0)), (s_M6 22 mo fl g), u) := by rw [hn]; exact b_nx (s_M6 22 mo fl g) u h6 (by omega)
      refine q_call (M2 := 71) (rest := []) (hb) (fun _ _ => rfl) ?_
      refine q_step 2 44 [(0, .ref 28), (1, .ref 20), (2, .int (Int32.ofNat i))] [.int (g 20 4), .int (s_nx (g 29) (g 30) i n 0 0)] (s_M6 22 mo fl g) u (fun big n0 => sg_fl_19 big n0 (s_M6 22 mo fl g) u (Int32.ofNat i) (s_nx (g 29) (g 30) i n 0 0)) ?_
      refine q_ic_lt rfl (fun (hc3 : (s_nx (g 29) (g 30) i n 0 0) < (g 20 4)) => ?_) (fun (hc3 : ¬ ((s_nx (g 29) (g 30) i n 0 0) < (g 20 4))) => ?_)
      · refine q_step 2 7 [(0, .ref 28), (1, .ref 20), (2, .int ((Int32.ofNat i) + (1 : Int32)))] [] (s_M6 22 mo fl g) u (fun big n0 => sg_fl_17 big n0 (s_M6 22 mo fl g) u (Int32.ofNat i)) ?_
        rw [q_succ]
        unfold s_fl
        rw [if_neg hc2, if_pos hc3]
        exact ih (i + 1) _ _ (by omega)
      · refine q_step 6 57 [(0, .ref 28), (1, .ref 20), (2, .int (Int32.ofNat i))] [.int (Int32.ofNat i), .ref 22, .int (Int32.ofNat i), .ref 22] (s_M6 22 mo fl g) u (fun big n0 => sg_fl_20 big n0 (s_M6 22 mo fl g) u (Int32.ofNat i)) ?_
        refine q_iald (j := i) (q_ixn (by omega) (by omega)) rfl rfl ?_
        refine q_call (M2 := 72) (rest := [.int (Int32.ofNat i), .ref 22]) (b_flipOf _ _ _) (fun _ _ => rfl) ?_
        refine q_iast (j := i) (q_ixn (by omega) (by omega)) rfl rfl ?_
        refine q_step 10 7 [(0, .ref 28), (1, .ref 20), (2, .int ((Int32.ofNat i) + (1 : Int32)))] [] (q_up (q_up (s_M6 22 mo fl g) 22 i (s_fo (mo i))) 28 6 (((s_M6 22 mo fl g) 28 6) ||| ((1 : Int32) <<< ((Int32.ofNat i) &&& 31)))) u (fun big n0 => sg_fl_21 big n0 (q_up (s_M6 22 mo fl g) 22 i (s_fo (mo i))) u (Int32.ofNat i)) ?_
        rw [q_succ, s_M6_m, s_M6_f (by decide)]
        unfold s_fl
        rw [if_neg hc2, if_neg hc3]
        exact ih (i + 1) _ _ (by omega)
theorem b_flip20 (g : qM) (u : qW) {n : Nat} (hn : g 20 3 = Int32.ofNat n) (h6 : n ≤ 6) : q_BS 70 [.ref 28, .ref 20] g u (none, s_flip 20 n g, u) := by
  refine q_bx (mm := m_70) rfl (Nat.le_of_ble_eq_true rfl) rfl ?_
  refine q_step 5 7 [(0, .ref 28), (1, .ref 20), (2, .int (0 : Int32))] [] (q_up g 28 6 (0 : Int32)) u (fun big n0 => sg_fl_22 big n0 g u) ?_
  by_cases hpr : g 20 4 ≤ 0
  · by_cases h0 : n = 0
    · refine q_step 3 12 [(0, .ref 28), (1, .ref 20), (2, .int (0 : Int32))] [.int (g 20 3), .int (0 : Int32)] (q_up g 28 6 (0 : Int32)) u (fun big n0 => sg_fl_23 big n0 (q_up g 28 6 (0 : Int32)) u) ?_
      refine q_ic_ge rfl (fun (hc0 : (g 20 3) ≤ (0 : Int32)) => ?_) (fun hc0 => absurd (show (g 20 3) ≤ (0 : Int32) from by rw [hn, h0]; decide) hc0)
      refine q_ret 1 (none, (q_up g 28 6 (0 : Int32)), u) (fun _ _ => rfl) ?_
      unfold s_flip
      rw [if_pos hpr, if_pos hpr, s_M6_0 (T := 22) (by decide)]
    · refine q_step 3 12 [(0, .ref 28), (1, .ref 20), (2, .int (0 : Int32))] [.int (g 20 3), .int (0 : Int32)] (q_up g 28 6 (0 : Int32)) u (fun big n0 => sg_fl_23 big n0 (q_up g 28 6 (0 : Int32)) u) ?_
      refine q_ic_ge rfl (fun hc0 => absurd (show (g 20 3) ≤ (0 : Int32) from hc0) (fun z => by rw [hn] at z; have z2 := (q_le (i := n) (j := 0) (by omega) (by omega)).mp z; omega)) (fun (hc0 : ¬ ((g 20 3) ≤ (0 : Int32))) => ?_)
      refine q_step 2 19 [(0, .ref 28), (1, .ref 20), (2, .int (0 : Int32))] [.int (g 20 4)] (q_up g 28 6 (0 : Int32)) u (fun big n0 => sg_fl_24 big n0 (q_up g 28 6 (0 : Int32)) u) ?_
      refine q_if_le rfl (fun (hc1 : (g 20 4) ≤ 0) => ?_) (fun hc1 => absurd (show (g 20 4) ≤ 0 from hpr) hc1)
      refine q_ret 1 (none, (q_up g 28 6 (0 : Int32)), u) (fun _ _ => rfl) ?_
      unfold s_flip
      rw [if_pos hpr, if_pos hpr, s_M6_0 (T := 22) (by decide)]
  · have e := fl_20 g u hn h6 hpr n 0 (g 22) 0 (by omega)
    unfold s_flip
    rw [if_neg hpr, if_neg hpr, s_M6_0 (T := 22) (by decide)]
    exact e
theorem fl_35 (g : qM) (u : qW) {n : Nat} (hn : g 35 3 = Int32.ofNat n) (h6 : n ≤ 6) (hpr : ¬ g 35 4 ≤ 0) : ∀ k i mo fl, i + k = n → q_EV m_70 7 [(0, .ref 28), (1, .ref 35), (2, .int (Int32.ofNat i))] [] (s_M6 37 mo fl g) u (fun R => R = (none, s_M6 37 (s_fl (g 35 4) (g 29) (g 30) n k i mo fl).1 (s_fl (g 35 4) (g 29) (g 30) n k i mo fl).2 g, u)) := by
  intro k
  induction k with
  | zero =>
    intro i mo fl hi
    refine q_step 3 12 [(0, .ref 28), (1, .ref 35), (2, .int (Int32.ofNat i))] [.int (g 35 3), .int (Int32.ofNat i)] (s_M6 37 mo fl g) u (fun big n0 => sg_fl_25 big n0 (s_M6 37 mo fl g) u (Int32.ofNat i)) ?_
    refine q_ic_ge rfl (fun (hc0 : (g 35 3) ≤ (Int32.ofNat i)) => ?_) (fun hc0 => absurd (show (g 35 3) ≤ (Int32.ofNat i) from by rw [hn, q_le (by omega) (by omega)]; omega) hc0)
    refine q_ret 1 (none, (s_M6 37 mo fl g), u) (fun _ _ => rfl) ?_
    rfl
  | succ k ih =>
    intro i mo fl hi
    refine q_step 3 12 [(0, .ref 28), (1, .ref 35), (2, .int (Int32.ofNat i))] [.int (g 35 3), .int (Int32.ofNat i)] (s_M6 37 mo fl g) u (fun big n0 => sg_fl_25 big n0 (s_M6 37 mo fl g) u (Int32.ofNat i)) ?_
    refine q_ic_ge rfl (fun hc0 => absurd (show (g 35 3) ≤ (Int32.ofNat i) from hc0) (fun z => by rw [hn, q_le (by omega) (by omega)] at z; omega)) (fun (hc0 : ¬ ((g 35 3) ≤ (Int32.ofNat i))) => ?_)
    refine q_step 2 19 [(0, .ref 28), (1, .ref 35), (2, .int (Int32.ofNat i))] [.int (g 35 4)] (s_M6 37 mo fl g) u (fun big n0 => sg_fl_26 big n0 (s_M6 37 mo fl g) u (Int32.ofNat i)) ?_
    refine q_if_le rfl (fun hc1 => absurd (show (g 35 4) ≤ 0 from hc1) (hpr)) (fun (hc1 : ¬ ((g 35 4) ≤ 0)) => ?_)
    refine q_step 3 27 [(0, .ref 28), (1, .ref 35), (2, .int (Int32.ofNat i))] [.int (Int32.ofNat i), .ref 37] (s_M6 37 mo fl g) u (fun big n0 => sg_fl_27 big n0 (s_M6 37 mo fl g) u (Int32.ofNat i)) ?_
    refine q_iald (j := i) (q_ixn (by omega) (by omega)) rfl rfl ?_
    refine q_if_eq rfl (fun (hc2 : (mo i) = 0) => ?_) (fun (hc2 : ¬ ((mo i) = 0)) => ?_)
    · refine q_step 2 7 [(0, .ref 28), (1, .ref 35), (2, .int ((Int32.ofNat i) + (1 : Int32)))] [] (s_M6 37 mo fl g) u (fun big n0 => sg_fl_28 big n0 (s_M6 37 mo fl g) u (Int32.ofNat i)) ?_
      rw [q_succ]
      unfold s_fl
      rw [if_pos hc2]
      exact ih (i + 1) _ _ (by omega)
    · refine q_step 4 37 [(0, .ref 28), (1, .ref 35), (2, .int (Int32.ofNat i))] [.int (g 35 3), .int (Int32.ofNat i), .ref 28] (s_M6 37 mo fl g) u (fun big n0 => sg_fl_29 big n0 (s_M6 37 mo fl g) u (Int32.ofNat i)) ?_
      have hb : q_BS 71 [.ref 28, .int (Int32.ofNat i), .int (g 35 3)] (s_M6 37 mo fl g) u (some (.int (s_nx (g 29) (g 30) i n 0 0)), (s_M6 37 mo fl g), u) := by rw [hn]; exact b_nx (s_M6 37 mo fl g) u h6 (by omega)
      refine q_call (M2 := 71) (rest := []) (hb) (fun _ _ => rfl) ?_
      refine q_step 2 44 [(0, .ref 28), (1, .ref 35), (2, .int (Int32.ofNat i))] [.int (g 35 4), .int (s_nx (g 29) (g 30) i n 0 0)] (s_M6 37 mo fl g) u (fun big n0 => sg_fl_30 big n0 (s_M6 37 mo fl g) u (Int32.ofNat i) (s_nx (g 29) (g 30) i n 0 0)) ?_
      refine q_ic_lt rfl (fun (hc3 : (s_nx (g 29) (g 30) i n 0 0) < (g 35 4)) => ?_) (fun (hc3 : ¬ ((s_nx (g 29) (g 30) i n 0 0) < (g 35 4))) => ?_)
      · refine q_step 2 7 [(0, .ref 28), (1, .ref 35), (2, .int ((Int32.ofNat i) + (1 : Int32)))] [] (s_M6 37 mo fl g) u (fun big n0 => sg_fl_28 big n0 (s_M6 37 mo fl g) u (Int32.ofNat i)) ?_
        rw [q_succ]
        unfold s_fl
        rw [if_neg hc2, if_pos hc3]
        exact ih (i + 1) _ _ (by omega)
      · refine q_step 6 57 [(0, .ref 28), (1, .ref 35), (2, .int (Int32.ofNat i))] [.int (Int32.ofNat i), .ref 37, .int (Int32.ofNat i), .ref 37] (s_M6 37 mo fl g) u (fun big n0 => sg_fl_31 big n0 (s_M6 37 mo fl g) u (Int32.ofNat i)) ?_
        refine q_iald (j := i) (q_ixn (by omega) (by omega)) rfl rfl ?_
        refine q_call (M2 := 72) (rest := [.int (Int32.ofNat i), .ref 37]) (b_flipOf _ _ _) (fun _ _ => rfl) ?_
        refine q_iast (j := i) (q_ixn (by omega) (by omega)) rfl rfl ?_
        refine q_step 10 7 [(0, .ref 28), (1, .ref 35), (2, .int ((Int32.ofNat i) + (1 : Int32)))] [] (q_up (q_up (s_M6 37 mo fl g) 37 i (s_fo (mo i))) 28 6 (((s_M6 37 mo fl g) 28 6) ||| ((1 : Int32) <<< ((Int32.ofNat i) &&& 31)))) u (fun big n0 => sg_fl_32 big n0 (q_up (s_M6 37 mo fl g) 37 i (s_fo (mo i))) u (Int32.ofNat i)) ?_
        rw [q_succ, s_M6_m, s_M6_f (by decide)]
        unfold s_fl
        rw [if_neg hc2, if_neg hc3]
        exact ih (i + 1) _ _ (by omega)
theorem b_flip35 (g : qM) (u : qW) {n : Nat} (hn : g 35 3 = Int32.ofNat n) (h6 : n ≤ 6) : q_BS 70 [.ref 28, .ref 35] g u (none, s_flip 35 n g, u) := by
  refine q_bx (mm := m_70) rfl (Nat.le_of_ble_eq_true rfl) rfl ?_
  refine q_step 5 7 [(0, .ref 28), (1, .ref 35), (2, .int (0 : Int32))] [] (q_up g 28 6 (0 : Int32)) u (fun big n0 => sg_fl_33 big n0 g u) ?_
  by_cases hpr : g 35 4 ≤ 0
  · by_cases h0 : n = 0
    · refine q_step 3 12 [(0, .ref 28), (1, .ref 35), (2, .int (0 : Int32))] [.int (g 35 3), .int (0 : Int32)] (q_up g 28 6 (0 : Int32)) u (fun big n0 => sg_fl_34 big n0 (q_up g 28 6 (0 : Int32)) u) ?_
      refine q_ic_ge rfl (fun (hc0 : (g 35 3) ≤ (0 : Int32)) => ?_) (fun hc0 => absurd (show (g 35 3) ≤ (0 : Int32) from by rw [hn, h0]; decide) hc0)
      refine q_ret 1 (none, (q_up g 28 6 (0 : Int32)), u) (fun _ _ => rfl) ?_
      unfold s_flip
      rw [if_pos hpr, if_pos hpr, s_M6_0 (T := 37) (by decide)]
    · refine q_step 3 12 [(0, .ref 28), (1, .ref 35), (2, .int (0 : Int32))] [.int (g 35 3), .int (0 : Int32)] (q_up g 28 6 (0 : Int32)) u (fun big n0 => sg_fl_34 big n0 (q_up g 28 6 (0 : Int32)) u) ?_
      refine q_ic_ge rfl (fun hc0 => absurd (show (g 35 3) ≤ (0 : Int32) from hc0) (fun z => by rw [hn] at z; have z2 := (q_le (i := n) (j := 0) (by omega) (by omega)).mp z; omega)) (fun (hc0 : ¬ ((g 35 3) ≤ (0 : Int32))) => ?_)
      refine q_step 2 19 [(0, .ref 28), (1, .ref 35), (2, .int (0 : Int32))] [.int (g 35 4)] (q_up g 28 6 (0 : Int32)) u (fun big n0 => sg_fl_35 big n0 (q_up g 28 6 (0 : Int32)) u) ?_
      refine q_if_le rfl (fun (hc1 : (g 35 4) ≤ 0) => ?_) (fun hc1 => absurd (show (g 35 4) ≤ 0 from hpr) hc1)
      refine q_ret 1 (none, (q_up g 28 6 (0 : Int32)), u) (fun _ _ => rfl) ?_
      unfold s_flip
      rw [if_pos hpr, if_pos hpr, s_M6_0 (T := 37) (by decide)]
  · have e := fl_35 g u hn h6 hpr n 0 (g 37) 0 (by omega)
    unfold s_flip
    rw [if_neg hpr, if_neg hpr, s_M6_0 (T := 37) (by decide)]
    exact e
