section
/-! THE STEP of the class: moves. c: cells, X, Y: columns and rows, t: cells taken (bits), wn: who went (bits). -/
def s_cx (way : Int32) : Int32 := if way = 1 then 1 else if way = 3 then Int32.ofInt (-1) else 0
def s_cy (way : Int32) : Int32 := if way = 2 then 1 else if way = 0 then Int32.ofInt (-1) else 0
def s_bit (t x : Int32) : Int32 := (t >>> (x &&& 31)) &&& 1
def s_set (f : Nat → Int32) (i : Nat) (x : Int32) : Nat → Int32 := fun j => if j = i then x else f j
abbrev s_MS : Type := (Nat → Int32) × (Nat → Int32) × (Nat → Int32) × Int32 × Int32
/-- he goes -/
def s_gc (w h way x y t : Int32) : Prop := ¬ way = 4 ∧ (¬ x + s_cx way < 0 ∧ ¬ w ≤ x + s_cx way ∧ ¬ y + s_cy way < 0 ∧ ¬ h ≤ y + s_cy way) ∧ s_bit t ((y + s_cy way) * w + (x + s_cx way)) = 0
def s_mv (w h : Int32) (wy : Nat → Int32) : Nat → Nat → (Nat → Int32) → (Nat → Int32) → (Nat → Int32) → Int32 → Int32 → s_MS
  | 0, _, c, X, Y, t, wn => (c, X, Y, t, wn)
  | k + 1, i, c, X, Y, t, wn => if (¬ wy i = 4 ∧ (¬ X i + s_cx (wy i) < 0 ∧ ¬ w ≤ X i + s_cx (wy i) ∧ ¬ Y i + s_cy (wy i) < 0 ∧ ¬ h ≤ Y i + s_cy (wy i)) ∧ s_bit t ((Y i + s_cy (wy i)) * w + (X i + s_cx (wy i))) = 0) then s_mv w h wy k (i + 1) (s_set c i ((Y i + s_cy (wy i)) * w + (X i + s_cx (wy i)))) (s_set X i (X i + s_cx (wy i))) (s_set Y i (Y i + s_cy (wy i))) ((t &&& (((1 : Int32) <<< (c i &&& 31)) ^^^ Int32.ofInt (-1))) ||| ((1 : Int32) <<< (((Y i + s_cy (wy i)) * w + (X i + s_cx (wy i))) &&& 31))) (wn ||| ((1 : Int32) <<< (Int32.ofNat i &&& 31))) else s_mv w h wy k (i + 1) c X Y t wn
theorem s_mv_go {w h : Int32} {wy : Nat → Int32} {k i : Nat} {c X Y : Nat → Int32} {t wn : Int32} (hg : s_gc w h (wy i) (X i) (Y i) t) : s_mv w h wy (k + 1) i c X Y t wn = s_mv w h wy k (i + 1) (s_set c i ((Y i + s_cy (wy i)) * w + (X i + s_cx (wy i)))) (s_set X i (X i + s_cx (wy i))) (s_set Y i (Y i + s_cy (wy i))) ((t &&& (((1 : Int32) <<< (c i &&& 31)) ^^^ Int32.ofInt (-1))) ||| ((1 : Int32) <<< (((Y i + s_cy (wy i)) * w + (X i + s_cx (wy i))) &&& 31))) (wn ||| ((1 : Int32) <<< (Int32.ofNat i &&& 31))) := if_pos hg
theorem s_mv_no {w h : Int32} {wy : Nat → Int32} {k i : Nat} {c X Y : Nat → Int32} {t wn : Int32} (hg : ¬ s_gc w h (wy i) (X i) (Y i) t) : s_mv w h wy (k + 1) i c X Y t wn = s_mv w h wy k (i + 1) c X Y t wn := if_neg hg
/-- all cells taken at first -/
def s_tk (c : Nat → Int32) : Nat → Nat → Int32 → Int32
  | 0, _, t => t
  | k + 1, i, t => s_tk c k (i + 1) (t ||| ((1 : Int32) <<< (c i &&& 31)))
def s_M4 (T : Nat) (c X Y : Nat → Int32) (wn : Int32) (g : qM) : qM := fun a j => if a = T then c j else if a = 29 then X j else if a = 30 then Y j else if a = 28 then (if j = 5 then wn else g 28 j) else g a j
theorem s_M4_c {T : Nat} {c X Y : Nat → Int32} {wn : Int32} {g : qM} {i : Nat} {x : Int32} : q_up (s_M4 T c X Y wn g) T i x = s_M4 T (s_set c i x) X Y wn g := by
  funext a j
  simp only [q_up_eq, s_M4, s_set]
  by_cases h : a = T
  · by_cases e : j = i
    · simp [h, e]
    · simp [h, e]
  · simp [h]
theorem s_M4_x {T : Nat} {c X Y : Nat → Int32} {wn : Int32} {g : qM} {i : Nat} {x : Int32} (hT : T ≠ 29) : q_up (s_M4 T c X Y wn g) 29 i x = s_M4 T c (s_set X i x) Y wn g := by
  funext a j
  simp only [q_up_eq, s_M4, s_set]
  by_cases h : a = 29
  · have h2 : ¬ 29 = T := fun z => hT z.symm
    by_cases e : j = i
    · simp [h, e, h2]
    · simp [h, e, h2]
  · simp [h]
theorem s_M4_y {T : Nat} {c X Y : Nat → Int32} {wn : Int32} {g : qM} {i : Nat} {x : Int32} (hT : T ≠ 30) : q_up (s_M4 T c X Y wn g) 30 i x = s_M4 T c X (s_set Y i x) wn g := by
  funext a j
  simp only [q_up_eq, s_M4, s_set]
  by_cases h : a = 30
  · have h2 : ¬ 30 = T := fun z => hT z.symm
    by_cases e : j = i
    · simp [h, e, h2]
    · simp [h, e, h2]
  · simp [h]
theorem s_M4_w {T : Nat} {c X Y : Nat → Int32} {wn : Int32} {g : qM} {x : Int32} (hT : T ≠ 28) : q_up (s_M4 T c X Y wn g) 28 5 x = s_M4 T c X Y x g := by
  funext a j
  simp only [q_up_eq, s_M4]
  by_cases h : a = 28
  · have h2 : ¬ 28 = T := fun z => hT z.symm
    by_cases e : j = 5
    · simp [h, e, h2]
    · simp [h, e, h2]
  · simp [h]
/-- the cells behind moveAll -/
def s_move (T : Nat) (n : Nat) (g : qM) : qM := s_M4 (T + 1) (s_mv (g T 0) (g T 1) (g 33) n 0 (g (T + 1)) (g 29) (g 30) (s_tk (g (T + 1)) n 0 (g T 2)) 0).1 (s_mv (g T 0) (g T 1) (g 33) n 0 (g (T + 1)) (g 29) (g 30) (s_tk (g (T + 1)) n 0 (g T 2)) 0).2.1 (s_mv (g T 0) (g T 1) (g 33) n 0 (g (T + 1)) (g 29) (g 30) (s_tk (g (T + 1)) n 0 (g T 2)) 0).2.2.1 (s_mv (g T 0) (g T 1) (g 33) n 0 (g (T + 1)) (g 29) (g 30) (s_tk (g (T + 1)) n 0 (g T 2)) 0).2.2.2.2 g
theorem sg_mv_1 (big : Nat → List Value → qM → qW → qR) (n0 : Nat) (G : qM) (U : qW) (v0 : Int32) (v1 : Int32) : qm_run pm_m big m_69 (n0 + 3) 7 [(0, .ref 28), (1, .ref 20), (2, .int v0), (3, .int v1)] [] G U = qm_run pm_m big m_69 n0 12 [(0, .ref 28), (1, .ref 20), (2, .int v0), (3, .int v1)] [.int (G 20 3), .int v1] G U := rfl
theorem sg_mv_2 (big : Nat → List Value → qM → qW → qR) (n0 : Nat) (G : qM) (U : qW) (v0 : Int32) (v1 : Int32) : qm_run pm_m big m_69 (n0 + 5) 15 [(0, .ref 28), (1, .ref 20), (2, .int v0), (3, .int v1)] [] G U = qm_run pm_m big m_69 n0 22 [(0, .ref 28), (1, .ref 20), (2, .int v0), (3, .int v1)] [.int v1, .ref 21, .int (1 : Int32), .int v0] G U := rfl
theorem sg_mv_3 (big : Nat → List Value → qM → qW → qR) (n0 : Nat) (G : qM) (U : qW) (v0 : Int32) (v1 : Int32) (v2 : Int32) (v3 : Int32) : qm_run pm_m big m_69 (n0 + 5) 23 [(0, .ref 28), (1, .ref 20), (2, .int v0), (3, .int v1)] [.int v3, .int (1 : Int32), .int v2] G U = qm_run pm_m big m_69 n0 7 [(0, .ref 28), (1, .ref 20), (2, .int (v2 ||| ((1 : Int32) <<< (v3 &&& 31)))), (3, .int (v1 + (1 : Int32)))] [] G U := rfl
theorem sg_mv_4 (big : Nat → List Value → qM → qW → qR) (n0 : Nat) (G : qM) (U : qW) (v0 : Int32) (v1 : Int32) : qm_run pm_m big m_69 (n0 + 3) 39 [(0, .ref 28), (1, .ref 20), (2, .int v0), (3, .int v1)] [] G U = qm_run pm_m big m_69 n0 44 [(0, .ref 28), (1, .ref 20), (2, .int v0), (3, .int v1)] [.int (G 20 3), .int v1] G U := rfl
theorem sg_mv_5 (big : Nat → List Value → qM → qW → qR) (n0 : Nat) (G : qM) (U : qW) (v0 : Int32) (v1 : Int32) : qm_run pm_m big m_69 (n0 + 3) 47 [(0, .ref 28), (1, .ref 20), (2, .int v0), (3, .int v1)] [] G U = qm_run pm_m big m_69 n0 52 [(0, .ref 28), (1, .ref 20), (2, .int v0), (3, .int v1)] [.int v1, .ref 29] G U := rfl
theorem sg_mv_6 (big : Nat → List Value → qM → qW → qR) (n0 : Nat) (G : qM) (U : qW) (v0 : Int32) (v1 : Int32) (v2 : Int32) : qm_run pm_m big m_69 (n0 + 3) 53 [(0, .ref 28), (1, .ref 20), (2, .int v0), (3, .int v1)] [.int v2] G U = qm_run pm_m big m_69 n0 58 [(0, .ref 28), (1, .ref 20), (2, .int v0), (3, .int v1)] [.int v1, .ref 33, .int v2] G U := rfl
theorem sg_mv_7 (big : Nat → List Value → qM → qW → qR) (n0 : Nat) (G : qM) (U : qW) (v0 : Int32) (v1 : Int32) (v2 : Int32) (v3 : Int32) : qm_run pm_m big m_69 (n0 + 1) 59 [(0, .ref 28), (1, .ref 20), (2, .int v0), (3, .int v1)] [.int v3, .int v2] G U = qm_run pm_m big m_69 n0 60 [(0, .ref 28), (1, .ref 20), (2, .int v0), (3, .int v1)] [.int (1 : Int32), .int v3, .int v2] G U := rfl
theorem sg_mv_8 (big : Nat → List Value → qM → qW → qR) (n0 : Nat) (G : qM) (U : qW) (v0 : Int32) (v1 : Int32) (v2 : Int32) : qm_run pm_m big m_69 (n0 + 3) 67 [(0, .ref 28), (1, .ref 20), (2, .int v0), (3, .int v1)] [.int v2] G U = qm_run pm_m big m_69 n0 72 [(0, .ref 28), (1, .ref 20), (2, .int v0), (3, .int v1)] [.int v1, .ref 33, .int v2] G U := rfl
theorem sg_mv_9 (big : Nat → List Value → qM → qW → qR) (n0 : Nat) (G : qM) (U : qW) (v0 : Int32) (v1 : Int32) (v2 : Int32) (v3 : Int32) : qm_run pm_m big m_69 (n0 + 1) 73 [(0, .ref 28), (1, .ref 20), (2, .int v0), (3, .int v1)] [.int v3, .int v2] G U = qm_run pm_m big m_69 n0 74 [(0, .ref 28), (1, .ref 20), (2, .int v0), (3, .int v1)] [.int (3 : Int32), .int v3, .int v2] G U := rfl
theorem sg_mv_10 (big : Nat → List Value → qM → qW → qR) (n0 : Nat) (G : qM) (U : qW) (v0 : Int32) (v1 : Int32) (v2 : Int32) : qm_run pm_m big m_69 (n0 + 6) 81 [(0, .ref 28), (1, .ref 20), (2, .int v0), (3, .int v1)] [.int v2] G U = qm_run pm_m big m_69 n0 90 [(0, .ref 28), (1, .ref 20), (2, .int v0), (3, .int v1), (4, .int (v2 + (0 : Int32)))] [.int v1, .ref 30] G U := rfl
theorem sg_mv_11 (big : Nat → List Value → qM → qW → qR) (n0 : Nat) (G : qM) (U : qW) (v0 : Int32) (v1 : Int32) (v2 : Int32) (v3 : Int32) : qm_run pm_m big m_69 (n0 + 3) 91 [(0, .ref 28), (1, .ref 20), (2, .int v0), (3, .int v1), (4, .int v2)] [.int v3] G U = qm_run pm_m big m_69 n0 96 [(0, .ref 28), (1, .ref 20), (2, .int v0), (3, .int v1), (4, .int v2)] [.int v1, .ref 33, .int v3] G U := rfl
theorem sg_mv_12 (big : Nat → List Value → qM → qW → qR) (n0 : Nat) (G : qM) (U : qW) (v0 : Int32) (v1 : Int32) (v2 : Int32) (v3 : Int32) (v4 : Int32) : qm_run pm_m big m_69 (n0 + 1) 97 [(0, .ref 28), (1, .ref 20), (2, .int v0), (3, .int v1), (4, .int v2)] [.int v4, .int v3] G U = qm_run pm_m big m_69 n0 98 [(0, .ref 28), (1, .ref 20), (2, .int v0), (3, .int v1), (4, .int v2)] [.int (2 : Int32), .int v4, .int v3] G U := rfl
theorem sg_mv_13 (big : Nat → List Value → qM → qW → qR) (n0 : Nat) (G : qM) (U : qW) (v0 : Int32) (v1 : Int32) (v2 : Int32) (v3 : Int32) : qm_run pm_m big m_69 (n0 + 3) 105 [(0, .ref 28), (1, .ref 20), (2, .int v0), (3, .int v1), (4, .int v2)] [.int v3] G U = qm_run pm_m big m_69 n0 110 [(0, .ref 28), (1, .ref 20), (2, .int v0), (3, .int v1), (4, .int v2)] [.int v1, .ref 33, .int v3] G U := rfl
theorem sg_mv_14 (big : Nat → List Value → qM → qW → qR) (n0 : Nat) (G : qM) (U : qW) (v0 : Int32) (v1 : Int32) (v2 : Int32) (v3 : Int32) : qm_run pm_m big m_69 (n0 + 12) 114 [(0, .ref 28), (1, .ref 20), (2, .int v0), (3, .int v1), (4, .int v2)] [.int v3] G U = qm_run pm_m big m_69 n0 136 [(0, .ref 28), (1, .ref 20), (2, .int v0), (3, .int v1), (4, .int v2), (5, .int (v3 + (Int32.ofInt (-1)))), (6, .int (((v3 + (Int32.ofInt (-1))) * (G 20 0)) + v2))] [.int v2] G U := rfl
theorem sg_mv_15 (big : Nat → List Value → qM → qW → qR) (n0 : Nat) (G : qM) (U : qW) (v0 : Int32) (v1 : Int32) (v2 : Int32) (v3 : Int32) (v4 : Int32) : qm_run pm_m big m_69 (n0 + 5) 166 [(0, .ref 28), (1, .ref 20), (2, .int v0), (3, .int v1), (4, .int v2), (5, .int v3), (6, .int v4)] [] G U = qm_run pm_m big m_69 n0 174 [(0, .ref 28), (1, .ref 20), (2, .int v0), (3, .int v1), (4, .int v2), (5, .int v3), (6, .int v4), (7, .int (0 : Int32))] [.int v1, .ref 33] G U := rfl
theorem sg_mv_16 (big : Nat → List Value → qM → qW → qR) (n0 : Nat) (G : qM) (U : qW) (v0 : Int32) (v1 : Int32) (v2 : Int32) (v3 : Int32) (v4 : Int32) (v5 : Int32) : qm_run pm_m big m_69 (n0 + 1) 175 [(0, .ref 28), (1, .ref 20), (2, .int v0), (3, .int v1), (4, .int v2), (5, .int v3), (6, .int v4), (7, .int (0 : Int32))] [.int v5] G U = qm_run pm_m big m_69 n0 176 [(0, .ref 28), (1, .ref 20), (2, .int v0), (3, .int v1), (4, .int v2), (5, .int v3), (6, .int v4), (7, .int (0 : Int32))] [.int (4 : Int32), .int v5] G U := rfl
theorem sg_mv_17 (big : Nat → List Value → qM → qW → qR) (n0 : Nat) (G : qM) (U : qW) (v0 : Int32) (v1 : Int32) (v2 : Int32) (v3 : Int32) (v4 : Int32) : qm_run pm_m big m_69 (n0 + 4) 179 [(0, .ref 28), (1, .ref 20), (2, .int v0), (3, .int v1), (4, .int v2), (5, .int v3), (6, .int v4), (7, .int (0 : Int32))] [] G U = qm_run pm_m big m_69 n0 39 [(0, .ref 28), (1, .ref 20), (2, .int v0), (3, .int (v1 + (1 : Int32))), (4, .int v2), (5, .int v3), (6, .int v4), (7, .int (0 : Int32))] [] G U := rfl
theorem sg_mv_18 (big : Nat → List Value → qM → qW → qR) (n0 : Nat) (G : qM) (U : qW) (v0 : Int32) (v1 : Int32) (v2 : Int32) (v3 : Int32) (v4 : Int32) : qm_run pm_m big m_69 (n0 + 3) 139 [(0, .ref 28), (1, .ref 20), (2, .int v0), (3, .int v1), (4, .int v2), (5, .int v3), (6, .int v4)] [] G U = qm_run pm_m big m_69 n0 145 [(0, .ref 28), (1, .ref 20), (2, .int v0), (3, .int v1), (4, .int v2), (5, .int v3), (6, .int v4)] [.int (G 20 0), .int v2] G U := rfl
theorem sg_mv_19 (big : Nat → List Value → qM → qW → qR) (n0 : Nat) (G : qM) (U : qW) (v0 : Int32) (v1 : Int32) (v2 : Int32) (v3 : Int32) (v4 : Int32) : qm_run pm_m big m_69 (n0 + 1) 148 [(0, .ref 28), (1, .ref 20), (2, .int v0), (3, .int v1), (4, .int v2), (5, .int v3), (6, .int v4)] [] G U = qm_run pm_m big m_69 n0 150 [(0, .ref 28), (1, .ref 20), (2, .int v0), (3, .int v1), (4, .int v2), (5, .int v3), (6, .int v4)] [.int v3] G U := rfl
theorem sg_mv_20 (big : Nat → List Value → qM → qW → qR) (n0 : Nat) (G : qM) (U : qW) (v0 : Int32) (v1 : Int32) (v2 : Int32) (v3 : Int32) (v4 : Int32) : qm_run pm_m big m_69 (n0 + 3) 153 [(0, .ref 28), (1, .ref 20), (2, .int v0), (3, .int v1), (4, .int v2), (5, .int v3), (6, .int v4)] [] G U = qm_run pm_m big m_69 n0 159 [(0, .ref 28), (1, .ref 20), (2, .int v0), (3, .int v1), (4, .int v2), (5, .int v3), (6, .int v4)] [.int (G 20 1), .int v3] G U := rfl
theorem sg_mv_21 (big : Nat → List Value → qM → qW → qR) (n0 : Nat) (G : qM) (U : qW) (v0 : Int32) (v1 : Int32) (v2 : Int32) (v3 : Int32) (v4 : Int32) : qm_run pm_m big m_69 (n0 + 6) 162 [(0, .ref 28), (1, .ref 20), (2, .int v0), (3, .int v1), (4, .int v2), (5, .int v3), (6, .int v4)] [] G U = qm_run pm_m big m_69 n0 174 [(0, .ref 28), (1, .ref 20), (2, .int v0), (3, .int v1), (4, .int v2), (5, .int v3), (6, .int v4), (7, .int (1 : Int32))] [.int v1, .ref 33] G U := rfl
theorem sg_mv_22 (big : Nat → List Value → qM → qW → qR) (n0 : Nat) (G : qM) (U : qW) (v0 : Int32) (v1 : Int32) (v2 : Int32) (v3 : Int32) (v4 : Int32) (v5 : Int32) : qm_run pm_m big m_69 (n0 + 1) 175 [(0, .ref 28), (1, .ref 20), (2, .int v0), (3, .int v1), (4, .int v2), (5, .int v3), (6, .int v4), (7, .int (1 : Int32))] [.int v5] G U = qm_run pm_m big m_69 n0 176 [(0, .ref 28), (1, .ref 20), (2, .int v0), (3, .int v1), (4, .int v2), (5, .int v3), (6, .int v4), (7, .int (1 : Int32))] [.int (4 : Int32), .int v5] G U := rfl
theorem sg_mv_23 (big : Nat → List Value → qM → qW → qR) (n0 : Nat) (G : qM) (U : qW) (v0 : Int32) (v1 : Int32) (v2 : Int32) (v3 : Int32) (v4 : Int32) : qm_run pm_m big m_69 (n0 + 7) 179 [(0, .ref 28), (1, .ref 20), (2, .int v0), (3, .int v1), (4, .int v2), (5, .int v3), (6, .int v4), (7, .int (1 : Int32))] [] G U = qm_run pm_m big m_69 n0 190 [(0, .ref 28), (1, .ref 20), (2, .int v0), (3, .int v1), (4, .int v2), (5, .int v3), (6, .int v4), (7, .int (1 : Int32))] [.int ((v0 >>> (v4 &&& 31)) &&& (1 : Int32))] G U := rfl
theorem sg_mv_24 (big : Nat → List Value → qM → qW → qR) (n0 : Nat) (G : qM) (U : qW) (v0 : Int32) (v1 : Int32) (v2 : Int32) (v3 : Int32) (v4 : Int32) : qm_run pm_m big m_69 (n0 + 5) 193 [(0, .ref 28), (1, .ref 20), (2, .int v0), (3, .int v1), (4, .int v2), (5, .int v3), (6, .int v4), (7, .int (1 : Int32))] [] G U = qm_run pm_m big m_69 n0 200 [(0, .ref 28), (1, .ref 20), (2, .int v0), (3, .int v1), (4, .int v2), (5, .int v3), (6, .int v4), (7, .int (1 : Int32))] [.int v1, .ref 21, .int (1 : Int32), .int v0] G U := rfl
theorem sg_mv_25 (big : Nat → List Value → qM → qW → qR) (n0 : Nat) (G : qM) (U : qW) (v0 : Int32) (v1 : Int32) (v2 : Int32) (v3 : Int32) (v4 : Int32) (v5 : Int32) (v6 : Int32) : qm_run pm_m big m_69 (n0 + 13) 201 [(0, .ref 28), (1, .ref 20), (2, .int v0), (3, .int v1), (4, .int v2), (5, .int v3), (6, .int v4), (7, .int (1 : Int32))] [.int v6, .int (1 : Int32), .int v5] G U = qm_run pm_m big m_69 n0 218 [(0, .ref 28), (1, .ref 20), (2, .int ((v5 &&& (((1 : Int32) <<< (v6 &&& 31)) ^^^ (Int32.ofInt (-1)))) ||| ((1 : Int32) <<< (v4 &&& 31)))), (3, .int v1), (4, .int v2), (5, .int v3), (6, .int v4), (7, .int (1 : Int32))] [.int v4, .int v1, .ref 21] G U := rfl
theorem sg_mv_26 (big : Nat → List Value → qM → qW → qR) (n0 : Nat) (G : qM) (U : qW) (v0 : Int32) (v1 : Int32) (v2 : Int32) (v3 : Int32) (v4 : Int32) : qm_run pm_m big m_69 (n0 + 4) 219 [(0, .ref 28), (1, .ref 20), (2, .int v0), (3, .int v1), (4, .int v2), (5, .int v3), (6, .int v4), (7, .int (1 : Int32))] [] G U = qm_run pm_m big m_69 n0 226 [(0, .ref 28), (1, .ref 20), (2, .int v0), (3, .int v1), (4, .int v2), (5, .int v3), (6, .int v4), (7, .int (1 : Int32))] [.int v2, .int v1, .ref 29] G U := rfl
theorem sg_mv_27 (big : Nat → List Value → qM → qW → qR) (n0 : Nat) (G : qM) (U : qW) (v0 : Int32) (v1 : Int32) (v2 : Int32) (v3 : Int32) (v4 : Int32) : qm_run pm_m big m_69 (n0 + 4) 227 [(0, .ref 28), (1, .ref 20), (2, .int v0), (3, .int v1), (4, .int v2), (5, .int v3), (6, .int v4), (7, .int (1 : Int32))] [] G U = qm_run pm_m big m_69 n0 234 [(0, .ref 28), (1, .ref 20), (2, .int v0), (3, .int v1), (4, .int v2), (5, .int v3), (6, .int v4), (7, .int (1 : Int32))] [.int v3, .int v1, .ref 30] G U := rfl
theorem sg_mv_28 (big : Nat → List Value → qM → qW → qR) (n0 : Nat) (G : qM) (U : qW) (v0 : Int32) (v1 : Int32) (v2 : Int32) (v3 : Int32) (v4 : Int32) : qm_run pm_m big m_69 (n0 + 10) 235 [(0, .ref 28), (1, .ref 20), (2, .int v0), (3, .int v1), (4, .int v2), (5, .int v3), (6, .int v4), (7, .int (1 : Int32))] [] G U = qm_run pm_m big m_69 n0 39 [(0, .ref 28), (1, .ref 20), (2, .int v0), (3, .int (v1 + (1 : Int32))), (4, .int v2), (5, .int v3), (6, .int v4), (7, .int (1 : Int32))] [] (q_up G 28 5 ((G 28 5) ||| ((1 : Int32) <<< (v1 &&& 31)))) U := rfl
theorem sg_mv_29 (big : Nat → List Value → qM → qW → qR) (n0 : Nat) (G : qM) (U : qW) (v0 : Int32) (v1 : Int32) (v2 : Int32) (v3 : Int32) (v4 : Int32) : qm_run pm_m big m_69 (n0 + 2) 247 [(0, .ref 28), (1, .ref 20), (2, .int v0), (3, .int v1), (4, .int v2), (5, .int v3), (6, .int v4), (7, .int (1 : Int32))] [] G U = qm_run pm_m big m_69 n0 39 [(0, .ref 28), (1, .ref 20), (2, .int v0), (3, .int (v1 + (1 : Int32))), (4, .int v2), (5, .int v3), (6, .int v4), (7, .int (1 : Int32))] [] G U := rfl
theorem sg_mv_30 (big : Nat → List Value → qM → qW → qR) (n0 : Nat) (G : qM) (U : qW) (v0 : Int32) (v1 : Int32) (v2 : Int32) : qm_run pm_m big m_69 (n0 + 7) 63 [(0, .ref 28), (1, .ref 20), (2, .int v0), (3, .int v1)] [.int v2] G U = qm_run pm_m big m_69 n0 90 [(0, .ref 28), (1, .ref 20), (2, .int v0), (3, .int v1), (4, .int (v2 + (1 : Int32)))] [.int v1, .ref 30] G U := rfl
theorem sg_mv_31 (big : Nat → List Value → qM → qW → qR) (n0 : Nat) (G : qM) (U : qW) (v0 : Int32) (v1 : Int32) (v2 : Int32) (v3 : Int32) : qm_run pm_m big m_69 (n0 + 11) 118 [(0, .ref 28), (1, .ref 20), (2, .int v0), (3, .int v1), (4, .int v2)] [.int v3] G U = qm_run pm_m big m_69 n0 136 [(0, .ref 28), (1, .ref 20), (2, .int v0), (3, .int v1), (4, .int v2), (5, .int (v3 + (0 : Int32))), (6, .int (((v3 + (0 : Int32)) * (G 20 0)) + v2))] [.int v2] G U := rfl
theorem sg_mv_32 (big : Nat → List Value → qM → qW → qR) (n0 : Nat) (G : qM) (U : qW) (v0 : Int32) (v1 : Int32) (v2 : Int32) (v3 : Int32) : qm_run pm_m big m_69 (n0 + 12) 101 [(0, .ref 28), (1, .ref 20), (2, .int v0), (3, .int v1), (4, .int v2)] [.int v3] G U = qm_run pm_m big m_69 n0 136 [(0, .ref 28), (1, .ref 20), (2, .int v0), (3, .int v1), (4, .int v2), (5, .int (v3 + (1 : Int32))), (6, .int (((v3 + (1 : Int32)) * (G 20 0)) + v2))] [.int v2] G U := rfl
theorem sg_mv_33 (big : Nat → List Value → qM → qW → qR) (n0 : Nat) (G : qM) (U : qW) (v0 : Int32) (v1 : Int32) (v2 : Int32) : qm_run pm_m big m_69 (n0 + 7) 77 [(0, .ref 28), (1, .ref 20), (2, .int v0), (3, .int v1)] [.int v2] G U = qm_run pm_m big m_69 n0 90 [(0, .ref 28), (1, .ref 20), (2, .int v0), (3, .int v1), (4, .int (v2 + (Int32.ofInt (-1))))] [.int v1, .ref 30] G U := rfl
theorem sg_mv_34 (big : Nat → List Value → qM → qW → qR) (n0 : Nat) (G : qM) (U : qW) (v0 : Int32) (v1 : Int32) (v2 : Int32) (v3 : Int32) (v4 : Int32) : qm_run pm_m big m_69 (n0 + 2) 247 [(0, .ref 28), (1, .ref 20), (2, .int v0), (3, .int v1), (4, .int v2), (5, .int v3), (6, .int v4), (7, .int (0 : Int32))] [] G U = qm_run pm_m big m_69 n0 39 [(0, .ref 28), (1, .ref 20), (2, .int v0), (3, .int (v1 + (1 : Int32))), (4, .int v2), (5, .int v3), (6, .int v4), (7, .int (0 : Int32))] [] G U := rfl
theorem sg_mv_35 (big : Nat → List Value → qM → qW → qR) (n0 : Nat) (G : qM) (U : qW) : qm_run pm_m big m_69 (n0 + 5) 0 [(0, .ref 28), (1, .ref 20)] [] G U = qm_run pm_m big m_69 n0 7 [(0, .ref 28), (1, .ref 20), (2, .int (G 20 2)), (3, .int (0 : Int32))] [] G U := rfl
theorem sg_mv_36 (big : Nat → List Value → qM → qW → qR) (n0 : Nat) (G : qM) (U : qW) (v0 : Int32) (v1 : Int32) : qm_run pm_m big m_69 (n0 + 5) 32 [(0, .ref 28), (1, .ref 20), (2, .int v0), (3, .int v1)] [] G U = qm_run pm_m big m_69 n0 39 [(0, .ref 28), (1, .ref 20), (2, .int v0), (3, .int (0 : Int32))] [] (q_up G 28 5 (0 : Int32)) U := rfl
theorem sg_mv_37 (big : Nat → List Value → qM → qW → qR) (n0 : Nat) (G : qM) (U : qW) (v0 : Int32) (v1 : Int32) : qm_run pm_m big m_69 (n0 + 3) 7 [(0, .ref 28), (1, .ref 35), (2, .int v0), (3, .int v1)] [] G U = qm_run pm_m big m_69 n0 12 [(0, .ref 28), (1, .ref 35), (2, .int v0), (3, .int v1)] [.int (G 35 3), .int v1] G U := rfl
theorem sg_mv_38 (big : Nat → List Value → qM → qW → qR) (n0 : Nat) (G : qM) (U : qW) (v0 : Int32) (v1 : Int32) : qm_run pm_m big m_69 (n0 + 5) 15 [(0, .ref 28), (1, .ref 35), (2, .int v0), (3, .int v1)] [] G U = qm_run pm_m big m_69 n0 22 [(0, .ref 28), (1, .ref 35), (2, .int v0), (3, .int v1)] [.int v1, .ref 36, .int (1 : Int32), .int v0] G U := rfl
theorem sg_mv_39 (big : Nat → List Value → qM → qW → qR) (n0 : Nat) (G : qM) (U : qW) (v0 : Int32) (v1 : Int32) (v2 : Int32) (v3 : Int32) : qm_run pm_m big m_69 (n0 + 5) 23 [(0, .ref 28), (1, .ref 35), (2, .int v0), (3, .int v1)] [.int v3, .int (1 : Int32), .int v2] G U = qm_run pm_m big m_69 n0 7 [(0, .ref 28), (1, .ref 35), (2, .int (v2 ||| ((1 : Int32) <<< (v3 &&& 31)))), (3, .int (v1 + (1 : Int32)))] [] G U := rfl
theorem sg_mv_40 (big : Nat → List Value → qM → qW → qR) (n0 : Nat) (G : qM) (U : qW) (v0 : Int32) (v1 : Int32) : qm_run pm_m big m_69 (n0 + 3) 39 [(0, .ref 28), (1, .ref 35), (2, .int v0), (3, .int v1)] [] G U = qm_run pm_m big m_69 n0 44 [(0, .ref 28), (1, .ref 35), (2, .int v0), (3, .int v1)] [.int (G 35 3), .int v1] G U := rfl
theorem sg_mv_41 (big : Nat → List Value → qM → qW → qR) (n0 : Nat) (G : qM) (U : qW) (v0 : Int32) (v1 : Int32) : qm_run pm_m big m_69 (n0 + 3) 47 [(0, .ref 28), (1, .ref 35), (2, .int v0), (3, .int v1)] [] G U = qm_run pm_m big m_69 n0 52 [(0, .ref 28), (1, .ref 35), (2, .int v0), (3, .int v1)] [.int v1, .ref 29] G U := rfl
theorem sg_mv_42 (big : Nat → List Value → qM → qW → qR) (n0 : Nat) (G : qM) (U : qW) (v0 : Int32) (v1 : Int32) (v2 : Int32) : qm_run pm_m big m_69 (n0 + 3) 53 [(0, .ref 28), (1, .ref 35), (2, .int v0), (3, .int v1)] [.int v2] G U = qm_run pm_m big m_69 n0 58 [(0, .ref 28), (1, .ref 35), (2, .int v0), (3, .int v1)] [.int v1, .ref 33, .int v2] G U := rfl
theorem sg_mv_43 (big : Nat → List Value → qM → qW → qR) (n0 : Nat) (G : qM) (U : qW) (v0 : Int32) (v1 : Int32) (v2 : Int32) (v3 : Int32) : qm_run pm_m big m_69 (n0 + 1) 59 [(0, .ref 28), (1, .ref 35), (2, .int v0), (3, .int v1)] [.int v3, .int v2] G U = qm_run pm_m big m_69 n0 60 [(0, .ref 28), (1, .ref 35), (2, .int v0), (3, .int v1)] [.int (1 : Int32), .int v3, .int v2] G U := rfl
theorem sg_mv_44 (big : Nat → List Value → qM → qW → qR) (n0 : Nat) (G : qM) (U : qW) (v0 : Int32) (v1 : Int32) (v2 : Int32) : qm_run pm_m big m_69 (n0 + 3) 67 [(0, .ref 28), (1, .ref 35), (2, .int v0), (3, .int v1)] [.int v2] G U = qm_run pm_m big m_69 n0 72 [(0, .ref 28), (1, .ref 35), (2, .int v0), (3, .int v1)] [.int v1, .ref 33, .int v2] G U := rfl
theorem sg_mv_45 (big : Nat → List Value → qM → qW → qR) (n0 : Nat) (G : qM) (U : qW) (v0 : Int32) (v1 : Int32) (v2 : Int32) (v3 : Int32) : qm_run pm_m big m_69 (n0 + 1) 73 [(0, .ref 28), (1, .ref 35), (2, .int v0), (3, .int v1)] [.int v3, .int v2] G U = qm_run pm_m big m_69 n0 74 [(0, .ref 28), (1, .ref 35), (2, .int v0), (3, .int v1)] [.int (3 : Int32), .int v3, .int v2] G U := rfl
theorem sg_mv_46 (big : Nat → List Value → qM → qW → qR) (n0 : Nat) (G : qM) (U : qW) (v0 : Int32) (v1 : Int32) (v2 : Int32) : qm_run pm_m big m_69 (n0 + 6) 81 [(0, .ref 28), (1, .ref 35), (2, .int v0), (3, .int v1)] [.int v2] G U = qm_run pm_m big m_69 n0 90 [(0, .ref 28), (1, .ref 35), (2, .int v0), (3, .int v1), (4, .int (v2 + (0 : Int32)))] [.int v1, .ref 30] G U := rfl
theorem sg_mv_47 (big : Nat → List Value → qM → qW → qR) (n0 : Nat) (G : qM) (U : qW) (v0 : Int32) (v1 : Int32) (v2 : Int32) (v3 : Int32) : qm_run pm_m big m_69 (n0 + 3) 91 [(0, .ref 28), (1, .ref 35), (2, .int v0), (3, .int v1), (4, .int v2)] [.int v3] G U = qm_run pm_m big m_69 n0 96 [(0, .ref 28), (1, .ref 35), (2, .int v0), (3, .int v1), (4, .int v2)] [.int v1, .ref 33, .int v3] G U := rfl
theorem sg_mv_48 (big : Nat → List Value → qM → qW → qR) (n0 : Nat) (G : qM) (U : qW) (v0 : Int32) (v1 : Int32) (v2 : Int32) (v3 : Int32) (v4 : Int32) : qm_run pm_m big m_69 (n0 + 1) 97 [(0, .ref 28), (1, .ref 35), (2, .int v0), (3, .int v1), (4, .int v2)] [.int v4, .int v3] G U = qm_run pm_m big m_69 n0 98 [(0, .ref 28), (1, .ref 35), (2, .int v0), (3, .int v1), (4, .int v2)] [.int (2 : Int32), .int v4, .int v3] G U := rfl
theorem sg_mv_49 (big : Nat → List Value → qM → qW → qR) (n0 : Nat) (G : qM) (U : qW) (v0 : Int32) (v1 : Int32) (v2 : Int32) (v3 : Int32) : qm_run pm_m big m_69 (n0 + 3) 105 [(0, .ref 28), (1, .ref 35), (2, .int v0), (3, .int v1), (4, .int v2)] [.int v3] G U = qm_run pm_m big m_69 n0 110 [(0, .ref 28), (1, .ref 35), (2, .int v0), (3, .int v1), (4, .int v2)] [.int v1, .ref 33, .int v3] G U := rfl
theorem sg_mv_50 (big : Nat → List Value → qM → qW → qR) (n0 : Nat) (G : qM) (U : qW) (v0 : Int32) (v1 : Int32) (v2 : Int32) (v3 : Int32) : qm_run pm_m big m_69 (n0 + 12) 114 [(0, .ref 28), (1, .ref 35), (2, .int v0), (3, .int v1), (4, .int v2)] [.int v3] G U = qm_run pm_m big m_69 n0 136 [(0, .ref 28), (1, .ref 35), (2, .int v0), (3, .int v1), (4, .int v2), (5, .int (v3 + (Int32.ofInt (-1)))), (6, .int (((v3 + (Int32.ofInt (-1))) * (G 35 0)) + v2))] [.int v2] G U := rfl
theorem sg_mv_51 (big : Nat → List Value → qM → qW → qR) (n0 : Nat) (G : qM) (U : qW) (v0 : Int32) (v1 : Int32) (v2 : Int32) (v3 : Int32) (v4 : Int32) : qm_run pm_m big m_69 (n0 + 5) 166 [(0, .ref 28), (1, .ref 35), (2, .int v0), (3, .int v1), (4, .int v2), (5, .int v3), (6, .int v4)] [] G U = qm_run pm_m big m_69 n0 174 [(0, .ref 28), (1, .ref 35), (2, .int v0), (3, .int v1), (4, .int v2), (5, .int v3), (6, .int v4), (7, .int (0 : Int32))] [.int v1, .ref 33] G U := rfl
theorem sg_mv_52 (big : Nat → List Value → qM → qW → qR) (n0 : Nat) (G : qM) (U : qW) (v0 : Int32) (v1 : Int32) (v2 : Int32) (v3 : Int32) (v4 : Int32) (v5 : Int32) : qm_run pm_m big m_69 (n0 + 1) 175 [(0, .ref 28), (1, .ref 35), (2, .int v0), (3, .int v1), (4, .int v2), (5, .int v3), (6, .int v4), (7, .int (0 : Int32))] [.int v5] G U = qm_run pm_m big m_69 n0 176 [(0, .ref 28), (1, .ref 35), (2, .int v0), (3, .int v1), (4, .int v2), (5, .int v3), (6, .int v4), (7, .int (0 : Int32))] [.int (4 : Int32), .int v5] G U := rfl
theorem sg_mv_53 (big : Nat → List Value → qM → qW → qR) (n0 : Nat) (G : qM) (U : qW) (v0 : Int32) (v1 : Int32) (v2 : Int32) (v3 : Int32) (v4 : Int32) : qm_run pm_m big m_69 (n0 + 4) 179 [(0, .ref 28), (1, .ref 35), (2, .int v0), (3, .int v1), (4, .int v2), (5, .int v3), (6, .int v4), (7, .int (0 : Int32))] [] G U = qm_run pm_m big m_69 n0 39 [(0, .ref 28), (1, .ref 35), (2, .int v0), (3, .int (v1 + (1 : Int32))), (4, .int v2), (5, .int v3), (6, .int v4), (7, .int (0 : Int32))] [] G U := rfl
theorem sg_mv_54 (big : Nat → List Value → qM → qW → qR) (n0 : Nat) (G : qM) (U : qW) (v0 : Int32) (v1 : Int32) (v2 : Int32) (v3 : Int32) (v4 : Int32) : qm_run pm_m big m_69 (n0 + 3) 139 [(0, .ref 28), (1, .ref 35), (2, .int v0), (3, .int v1), (4, .int v2), (5, .int v3), (6, .int v4)] [] G U = qm_run pm_m big m_69 n0 145 [(0, .ref 28), (1, .ref 35), (2, .int v0), (3, .int v1), (4, .int v2), (5, .int v3), (6, .int v4)] [.int (G 35 0), .int v2] G U := rfl
theorem sg_mv_55 (big : Nat → List Value → qM → qW → qR) (n0 : Nat) (G : qM) (U : qW) (v0 : Int32) (v1 : Int32) (v2 : Int32) (v3 : Int32) (v4 : Int32) : qm_run pm_m big m_69 (n0 + 1) 148 [(0, .ref 28), (1, .ref 35), (2, .int v0), (3, .int v1), (4, .int v2), (5, .int v3), (6, .int v4)] [] G U = qm_run pm_m big m_69 n0 150 [(0, .ref 28), (1, .ref 35), (2, .int v0), (3, .int v1), (4, .int v2), (5, .int v3), (6, .int v4)] [.int v3] G U := rfl
theorem sg_mv_56 (big : Nat → List Value → qM → qW → qR) (n0 : Nat) (G : qM) (U : qW) (v0 : Int32) (v1 : Int32) (v2 : Int32) (v3 : Int32) (v4 : Int32) : qm_run pm_m big m_69 (n0 + 3) 153 [(0, .ref 28), (1, .ref 35), (2, .int v0), (3, .int v1), (4, .int v2), (5, .int v3), (6, .int v4)] [] G U = qm_run pm_m big m_69 n0 159 [(0, .ref 28), (1, .ref 35), (2, .int v0), (3, .int v1), (4, .int v2), (5, .int v3), (6, .int v4)] [.int (G 35 1), .int v3] G U := rfl
theorem sg_mv_57 (big : Nat → List Value → qM → qW → qR) (n0 : Nat) (G : qM) (U : qW) (v0 : Int32) (v1 : Int32) (v2 : Int32) (v3 : Int32) (v4 : Int32) : qm_run pm_m big m_69 (n0 + 6) 162 [(0, .ref 28), (1, .ref 35), (2, .int v0), (3, .int v1), (4, .int v2), (5, .int v3), (6, .int v4)] [] G U = qm_run pm_m big m_69 n0 174 [(0, .ref 28), (1, .ref 35), (2, .int v0), (3, .int v1), (4, .int v2), (5, .int v3), (6, .int v4), (7, .int (1 : Int32))] [.int v1, .ref 33] G U := rfl
theorem sg_mv_58 (big : Nat → List Value → qM → qW → qR) (n0 : Nat) (G : qM) (U : qW) (v0 : Int32) (v1 : Int32) (v2 : Int32) (v3 : Int32) (v4 : Int32) (v5 : Int32) : qm_run pm_m big m_69 (n0 + 1) 175 [(0, .ref 28), (1, .ref 35), (2, .int v0), (3, .int v1), (4, .int v2), (5, .int v3), (6, .int v4), (7, .int (1 : Int32))] [.int v5] G U = qm_run pm_m big m_69 n0 176 [(0, .ref 28), (1, .ref 35), (2, .int v0), (3, .int v1), (4, .int v2), (5, .int v3), (6, .int v4), (7, .int (1 : Int32))] [.int (4 : Int32), .int v5] G U := rfl
theorem sg_mv_59 (big : Nat → List Value → qM → qW → qR) (n0 : Nat) (G : qM) (U : qW) (v0 : Int32) (v1 : Int32) (v2 : Int32) (v3 : Int32) (v4 : Int32) : qm_run pm_m big m_69 (n0 + 7) 179 [(0, .ref 28), (1, .ref 35), (2, .int v0), (3, .int v1), (4, .int v2), (5, .int v3), (6, .int v4), (7, .int (1 : Int32))] [] G U = qm_run pm_m big m_69 n0 190 [(0, .ref 28), (1, .ref 35), (2, .int v0), (3, .int v1), (4, .int v2), (5, .int v3), (6, .int v4), (7, .int (1 : Int32))] [.int ((v0 >>> (v4 &&& 31)) &&& (1 : Int32))] G U := rfl
theorem sg_mv_60 (big : Nat → List Value → qM → qW → qR) (n0 : Nat) (G : qM) (U : qW) (v0 : Int32) (v1 : Int32) (v2 : Int32) (v3 : Int32) (v4 : Int32) : qm_run pm_m big m_69 (n0 + 5) 193 [(0, .ref 28), (1, .ref 35), (2, .int v0), (3, .int v1), (4, .int v2), (5, .int v3), (6, .int v4), (7, .int (1 : Int32))] [] G U = qm_run pm_m big m_69 n0 200 [(0, .ref 28), (1, .ref 35), (2, .int v0), (3, .int v1), (4, .int v2), (5, .int v3), (6, .int v4), (7, .int (1 : Int32))] [.int v1, .ref 36, .int (1 : Int32), .int v0] G U := rfl
theorem sg_mv_61 (big : Nat → List Value → qM → qW → qR) (n0 : Nat) (G : qM) (U : qW) (v0 : Int32) (v1 : Int32) (v2 : Int32) (v3 : Int32) (v4 : Int32) (v5 : Int32) (v6 : Int32) : qm_run pm_m big m_69 (n0 + 13) 201 [(0, .ref 28), (1, .ref 35), (2, .int v0), (3, .int v1), (4, .int v2), (5, .int v3), (6, .int v4), (7, .int (1 : Int32))] [.int v6, .int (1 : Int32), .int v5] G U = qm_run pm_m big m_69 n0 218 [(0, .ref 28), (1, .ref 35), (2, .int ((v5 &&& (((1 : Int32) <<< (v6 &&& 31)) ^^^ (Int32.ofInt (-1)))) ||| ((1 : Int32) <<< (v4 &&& 31)))), (3, .int v1), (4, .int v2), (5, .int v3), (6, .int v4), (7, .int (1 : Int32))] [.int v4, .int v1, .ref 36] G U := rfl
theorem sg_mv_62 (big : Nat → List Value → qM → qW → qR) (n0 : Nat) (G : qM) (U : qW) (v0 : Int32) (v1 : Int32) (v2 : Int32) (v3 : Int32) (v4 : Int32) : qm_run pm_m big m_69 (n0 + 4) 219 [(0, .ref 28), (1, .ref 35), (2, .int v0), (3, .int v1), (4, .int v2), (5, .int v3), (6, .int v4), (7, .int (1 : Int32))] [] G U = qm_run pm_m big m_69 n0 226 [(0, .ref 28), (1, .ref 35), (2, .int v0), (3, .int v1), (4, .int v2), (5, .int v3), (6, .int v4), (7, .int (1 : Int32))] [.int v2, .int v1, .ref 29] G U := rfl
theorem sg_mv_63 (big : Nat → List Value → qM → qW → qR) (n0 : Nat) (G : qM) (U : qW) (v0 : Int32) (v1 : Int32) (v2 : Int32) (v3 : Int32) (v4 : Int32) : qm_run pm_m big m_69 (n0 + 4) 227 [(0, .ref 28), (1, .ref 35), (2, .int v0), (3, .int v1), (4, .int v2), (5, .int v3), (6, .int v4), (7, .int (1 : Int32))] [] G U = qm_run pm_m big m_69 n0 234 [(0, .ref 28), (1, .ref 35), (2, .int v0), (3, .int v1), (4, .int v2), (5, .int v3), (6, .int v4), (7, .int (1 : Int32))] [.int v3, .int v1, .ref 30] G U := rfl
theorem sg_mv_64 (big : Nat → List Value → qM → qW → qR) (n0 : Nat) (G : qM) (U : qW) (v0 : Int32) (v1 : Int32) (v2 : Int32) (v3 : Int32) (v4 : Int32) : qm_run pm_m big m_69 (n0 + 10) 235 [(0, .ref 28), (1, .ref 35), (2, .int v0), (3, .int v1), (4, .int v2), (5, .int v3), (6, .int v4), (7, .int (1 : Int32))] [] G U = qm_run pm_m big m_69 n0 39 [(0, .ref 28), (1, .ref 35), (2, .int v0), (3, .int (v1 + (1 : Int32))), (4, .int v2), (5, .int v3), (6, .int v4), (7, .int (1 : Int32))] [] (q_up G 28 5 ((G 28 5) ||| ((1 : Int32) <<< (v1 &&& 31)))) U := rfl
theorem sg_mv_65 (big : Nat → List Value → qM → qW → qR) (n0 : Nat) (G : qM) (U : qW) (v0 : Int32) (v1 : Int32) (v2 : Int32) (v3 : Int32) (v4 : Int32) : qm_run pm_m big m_69 (n0 + 2) 247 [(0, .ref 28), (1, .ref 35), (2, .int v0), (3, .int v1), (4, .int v2), (5, .int v3), (6, .int v4), (7, .int (1 : Int32))] [] G U = qm_run pm_m big m_69 n0 39 [(0, .ref 28), (1, .ref 35), (2, .int v0), (3, .int (v1 + (1 : Int32))), (4, .int v2), (5, .int v3), (6, .int v4), (7, .int (1 : Int32))] [] G U := rfl
theorem sg_mv_66 (big : Nat → List Value → qM → qW → qR) (n0 : Nat) (G : qM) (U : qW) (v0 : Int32) (v1 : Int32) (v2 : Int32) : qm_run pm_m big m_69 (n0 + 7) 63 [(0, .ref 28), (1, .ref 35), (2, .int v0), (3, .int v1)] [.int v2] G U = qm_run pm_m big m_69 n0 90 [(0, .ref 28), (1, .ref 35), (2, .int v0), (3, .int v1), (4, .int (v2 + (1 : Int32)))] [.int v1, .ref 30] G U := rfl
theorem sg_mv_67 (big : Nat → List Value → qM → qW → qR) (n0 : Nat) (G : qM) (U : qW) (v0 : Int32) (v1 : Int32) (v2 : Int32) (v3 : Int32) : qm_run pm_m big m_69 (n0 + 11) 118 [(0, .ref 28), (1, .ref 35), (2, .int v0), (3, .int v1), (4, .int v2)] [.int v3] G U = qm_run pm_m big m_69 n0 136 [(0, .ref 28), (1, .ref 35), (2, .int v0), (3, .int v1), (4, .int v2), (5, .int (v3 + (0 : Int32))), (6, .int (((v3 + (0 : Int32)) * (G 35 0)) + v2))] [.int v2] G U := rfl
theorem sg_mv_68 (big : Nat → List Value → qM → qW → qR) (n0 : Nat) (G : qM) (U : qW) (v0 : Int32) (v1 : Int32) (v2 : Int32) (v3 : Int32) : qm_run pm_m big m_69 (n0 + 12) 101 [(0, .ref 28), (1, .ref 35), (2, .int v0), (3, .int v1), (4, .int v2)] [.int v3] G U = qm_run pm_m big m_69 n0 136 [(0, .ref 28), (1, .ref 35), (2, .int v0), (3, .int v1), (4, .int v2), (5, .int (v3 + (1 : Int32))), (6, .int (((v3 + (1 : Int32)) * (G 35 0)) + v2))] [.int v2] G U := rfl
theorem sg_mv_69 (big : Nat → List Value → qM → qW → qR) (n0 : Nat) (G : qM) (U : qW) (v0 : Int32) (v1 : Int32) (v2 : Int32) : qm_run pm_m big m_69 (n0 + 7) 77 [(0, .ref 28), (1, .ref 35), (2, .int v0), (3, .int v1)] [.int v2] G U = qm_run pm_m big m_69 n0 90 [(0, .ref 28), (1, .ref 35), (2, .int v0), (3, .int v1), (4, .int (v2 + (Int32.ofInt (-1))))] [.int v1, .ref 30] G U := rfl
theorem sg_mv_70 (big : Nat → List Value → qM → qW → qR) (n0 : Nat) (G : qM) (U : qW) (v0 : Int32) (v1 : Int32) (v2 : Int32) (v3 : Int32) (v4 : Int32) : qm_run pm_m big m_69 (n0 + 2) 247 [(0, .ref 28), (1, .ref 35), (2, .int v0), (3, .int v1), (4, .int v2), (5, .int v3), (6, .int v4), (7, .int (0 : Int32))] [] G U = qm_run pm_m big m_69 n0 39 [(0, .ref 28), (1, .ref 35), (2, .int v0), (3, .int (v1 + (1 : Int32))), (4, .int v2), (5, .int v3), (6, .int v4), (7, .int (0 : Int32))] [] G U := rfl
theorem sg_mv_71 (big : Nat → List Value → qM → qW → qR) (n0 : Nat) (G : qM) (U : qW) : qm_run pm_m big m_69 (n0 + 5) 0 [(0, .ref 28), (1, .ref 35)] [] G U = qm_run pm_m big m_69 n0 7 [(0, .ref 28), (1, .ref 35), (2, .int (G 35 2)), (3, .int (0 : Int32))] [] G U := rfl
theorem sg_mv_72 (big : Nat → List Value → qM → qW → qR) (n0 : Nat) (G : qM) (U : qW) (v0 : Int32) (v1 : Int32) : qm_run pm_m big m_69 (n0 + 5) 32 [(0, .ref 28), (1, .ref 35), (2, .int v0), (3, .int v1)] [] G U = qm_run pm_m big m_69 n0 39 [(0, .ref 28), (1, .ref 35), (2, .int v0), (3, .int (0 : Int32))] [] (q_up G 28 5 (0 : Int32)) U := rfl
theorem mt_20 (g : qM) (u : qW) {Q : Option Value × qM × qW → Prop} {n : Nat} (hn : g 20 3 = Int32.ofNat n) (h6 : n ≤ 6) : ∀ k i t, i + k = n → (∀ x, q_EV m_69 32 [(0, .ref 28), (1, .ref 20), (2, .int (s_tk (g 21) k i t)), (3, .int x)] [] g u Q) → q_EV m_69 7 [(0, .ref 28), (1, .ref 20), (2, .int t), (3, .int (Int32.ofNat i))] [] g u Q := by
  intro k
  induction k with
  | zero =>
    intro i t hi hE
    refine q_step 3 12 [(0, .ref 28), (1, .ref 20), (2, .int t), (3, .int (Int32.ofNat i))] [.int (g 20 3), .int (Int32.ofNat i)] g u (fun big n0 => sg_mv_1 big n0 g u t (Int32.ofNat i)) ?_
    refine q_ic_ge rfl (fun (hc0 : (g 20 3) ≤ (Int32.ofNat i)) => ?_) (fun hc0 => absurd (show (g 20 3) ≤ (Int32.ofNat i) from by rw [hn, q_le (by omega) (by omega)]; omega) hc0)
    exact hE _
  | succ k ih =>
    intro i t hi hE
    refine q_step 3 12 [(0, .ref 28), (1, .ref 20), (2, .int t), (3, .int (Int32.ofNat i))] [.int (g 20 3), .int (Int32.ofNat i)] g u (fun big n0 => sg_mv_1 big n0 g u t (Int32.ofNat i)) ?_
    refine q_ic_ge rfl (fun hc0 => absurd (show (g 20 3) ≤ (Int32.ofNat i) from hc0) (fun z => by rw [hn, q_le (by omega) (by omega)] at z; omega)) (fun (hc0 : ¬ ((g 20 3) ≤ (Int32.ofNat i))) => ?_)
    refine q_step 5 22 [(0, .ref 28), (1, .ref 20), (2, .int t), (3, .int (Int32.ofNat i))] [.int (Int32.ofNat i), .ref 21, .int (1 : Int32), .int t] g u (fun big n0 => sg_mv_2 big n0 g u t (Int32.ofNat i)) ?_
    refine q_iald (j := i) (q_ixn (by omega) (by omega)) rfl rfl ?_
    refine q_step 5 7 [(0, .ref 28), (1, .ref 20), (2, .int (t ||| ((1 : Int32) <<< ((g 21 i) &&& 31)))), (3, .int ((Int32.ofNat i) + (1 : Int32)))] [] g u (fun big n0 => sg_mv_3 big n0 g u t (Int32.ofNat i) t (g 21 i)) ?_
    rw [q_succ]
    exact ih (i + 1) _ (by omega) hE
theorem mb_20_0 (g : qM) (u : qW) {Q : Option Value × qM × qW → Prop} {n i : Nat} (hn : g 20 3 = Int32.ofNat n) (h6 : n ≤ 6) (hi : i < n) (hw : g 33 i = 0) {c X Y : Nat → Int32} {t wn : Int32} (hgo : s_gc (g 20 0) (g 20 1) (g 33 i) (X i) (Y i) t → q_EV m_69 39 [(0, .ref 28), (1, .ref 20), (2, .int ((t &&& (((1 : Int32) <<< (c i &&& 31)) ^^^ Int32.ofInt (-1))) ||| ((1 : Int32) <<< (((Y i + s_cy (g 33 i)) * (g 20 0) + (X i + s_cx (g 33 i))) &&& 31)))), (3, .int (Int32.ofNat (i + 1)))] [] (s_M4 21 (s_set c i ((Y i + s_cy (g 33 i)) * (g 20 0) + (X i + s_cx (g 33 i)))) (s_set X i (X i + s_cx (g 33 i))) (s_set Y i (Y i + s_cy (g 33 i))) (wn ||| ((1 : Int32) <<< (Int32.ofNat i &&& 31))) g) u Q) (hno : ¬ s_gc (g 20 0) (g 20 1) (g 33 i) (X i) (Y i) t → q_EV m_69 39 [(0, .ref 28), (1, .ref 20), (2, .int t), (3, .int (Int32.ofNat (i + 1)))] [] (s_M4 21 c X Y wn g) u Q) : q_EV m_69 39 [(0, .ref 28), (1, .ref 20), (2, .int t), (3, .int (Int32.ofNat i))] [] (s_M4 21 c X Y wn g) u Q := by
  have e1 : s_cx (g 33 i) = (0 : Int32) := by rw [hw]; rfl
  have e2 : s_cy (g 33 i) = (Int32.ofInt (-1)) := by rw [hw]; rfl
  rw [e1, e2] at hgo
  refine q_step 3 44 [(0, .ref 28), (1, .ref 20), (2, .int t), (3, .int (Int32.ofNat i))] [.int (g 20 3), .int (Int32.ofNat i)] (s_M4 21 c X Y wn g) u (fun big n0 => sg_mv_4 big n0 (s_M4 21 c X Y wn g) u t (Int32.ofNat i)) ?_
  refine q_ic_ge rfl (fun hc0 => absurd (show (g 20 3) ≤ (Int32.ofNat i) from hc0) (fun z => by rw [hn, q_le (by omega) (by omega)] at z; omega)) (fun (hc0 : ¬ ((g 20 3) ≤ (Int32.ofNat i))) => ?_)
  refine q_step 3 52 [(0, .ref 28), (1, .ref 20), (2, .int t), (3, .int (Int32.ofNat i))] [.int (Int32.ofNat i), .ref 29] (s_M4 21 c X Y wn g) u (fun big n0 => sg_mv_5 big n0 (s_M4 21 c X Y wn g) u t (Int32.ofNat i)) ?_
  refine q_iald (j := i) (q_ixn (by omega) (by omega)) rfl rfl ?_
  refine q_step 3 58 [(0, .ref 28), (1, .ref 20), (2, .int t), (3, .int (Int32.ofNat i))] [.int (Int32.ofNat i), .ref 33, .int (X i)] (s_M4 21 c X Y wn g) u (fun big n0 => sg_mv_6 big n0 (s_M4 21 c X Y wn g) u t (Int32.ofNat i) (X i)) ?_
  refine q_iald (j := i) (q_ixn (by omega) (by omega)) rfl rfl ?_
  refine q_step 1 60 [(0, .ref 28), (1, .ref 20), (2, .int t), (3, .int (Int32.ofNat i))] [.int (1 : Int32), .int (g 33 i), .int (X i)] (s_M4 21 c X Y wn g) u (fun big n0 => sg_mv_7 big n0 (s_M4 21 c X Y wn g) u t (Int32.ofNat i) (X i) (g 33 i)) ?_
  refine q_ic_ne rfl (fun hc1 => absurd (show (g 33 i) = (1 : Int32) from hc1) (by rw [hw]; decide)) (fun (hc1 : ¬ ((g 33 i) = (1 : Int32))) => ?_)
  refine q_step 3 72 [(0, .ref 28), (1, .ref 20), (2, .int t), (3, .int (Int32.ofNat i))] [.int (Int32.ofNat i), .ref 33, .int (X i)] (s_M4 21 c X Y wn g) u (fun big n0 => sg_mv_8 big n0 (s_M4 21 c X Y wn g) u t (Int32.ofNat i) (X i)) ?_
  refine q_iald (j := i) (q_ixn (by omega) (by omega)) rfl rfl ?_
  refine q_step 1 74 [(0, .ref 28), (1, .ref 20), (2, .int t), (3, .int (Int32.ofNat i))] [.int (3 : Int32), .int (g 33 i), .int (X i)] (s_M4 21 c X Y wn g) u (fun big n0 => sg_mv_9 big n0 (s_M4 21 c X Y wn g) u t (Int32.ofNat i) (X i) (g 33 i)) ?_
  refine q_ic_ne rfl (fun hc2 => absurd (show (g 33 i) = (3 : Int32) from hc2) (by rw [hw]; decide)) (fun (hc2 : ¬ ((g 33 i) = (3 : Int32))) => ?_)
  refine q_step 6 90 [(0, .ref 28), (1, .ref 20), (2, .int t), (3, .int (Int32.ofNat i)), (4, .int ((X i) + (0 : Int32)))] [.int (Int32.ofNat i), .ref 30] (s_M4 21 c X Y wn g) u (fun big n0 => sg_mv_10 big n0 (s_M4 21 c X Y wn g) u t (Int32.ofNat i) (X i)) ?_
  refine q_iald (j := i) (q_ixn (by omega) (by omega)) rfl rfl ?_
  refine q_step 3 96 [(0, .ref 28), (1, .ref 20), (2, .int t), (3, .int (Int32.ofNat i)), (4, .int ((X i) + (0 : Int32)))] [.int (Int32.ofNat i), .ref 33, .int (Y i)] (s_M4 21 c X Y wn g) u (fun big n0 => sg_mv_11 big n0 (s_M4 21 c X Y wn g) u t (Int32.ofNat i) ((X i) + (0 : Int32)) (Y i)) ?_
  refine q_iald (j := i) (q_ixn (by omega) (by omega)) rfl rfl ?_
  refine q_step 1 98 [(0, .ref 28), (1, .ref 20), (2, .int t), (3, .int (Int32.ofNat i)), (4, .int ((X i) + (0 : Int32)))] [.int (2 : Int32), .int (g 33 i), .int (Y i)] (s_M4 21 c X Y wn g) u (fun big n0 => sg_mv_12 big n0 (s_M4 21 c X Y wn g) u t (Int32.ofNat i) ((X i) + (0 : Int32)) (Y i) (g 33 i)) ?_
  refine q_ic_ne rfl (fun hc3 => absurd (show (g 33 i) = (2 : Int32) from hc3) (by rw [hw]; decide)) (fun (hc3 : ¬ ((g 33 i) = (2 : Int32))) => ?_)
  refine q_step 3 110 [(0, .ref 28), (1, .ref 20), (2, .int t), (3, .int (Int32.ofNat i)), (4, .int ((X i) + (0 : Int32)))] [.int (Int32.ofNat i), .ref 33, .int (Y i)] (s_M4 21 c X Y wn g) u (fun big n0 => sg_mv_13 big n0 (s_M4 21 c X Y wn g) u t (Int32.ofNat i) ((X i) + (0 : Int32)) (Y i)) ?_
  refine q_iald (j := i) (q_ixn (by omega) (by omega)) rfl rfl ?_
  refine q_if_ne rfl (fun (hc4 : (g 33 i) = 0) => ?_) (fun hc4 => absurd (show (g 33 i) = 0 from hw) hc4)
  refine q_step 12 136 [(0, .ref 28), (1, .ref 20), (2, .int t), (3, .int (Int32.ofNat i)), (4, .int ((X i) + (0 : Int32))), (5, .int ((Y i) + (Int32.ofInt (-1)))), (6, .int ((((Y i) + (Int32.ofInt (-1))) * (g 20 0)) + ((X i) + (0 : Int32))))] [.int ((X i) + (0 : Int32))] (s_M4 21 c X Y wn g) u (fun big n0 => sg_mv_14 big n0 (s_M4 21 c X Y wn g) u t (Int32.ofNat i) ((X i) + (0 : Int32)) (Y i)) ?_
  refine q_if_lt rfl (fun (hc5 : ((X i) + (0 : Int32)) < 0) => ?_) (fun (hc5 : ¬ (((X i) + (0 : Int32)) < 0)) => ?_)
  · refine q_step 5 174 [(0, .ref 28), (1, .ref 20), (2, .int t), (3, .int (Int32.ofNat i)), (4, .int ((X i) + (0 : Int32))), (5, .int ((Y i) + (Int32.ofInt (-1)))), (6, .int ((((Y i) + (Int32.ofInt (-1))) * (g 20 0)) + ((X i) + (0 : Int32)))), (7, .int (0 : Int32))] [.int (Int32.ofNat i), .ref 33] (s_M4 21 c X Y wn g) u (fun big n0 => sg_mv_15 big n0 (s_M4 21 c X Y wn g) u t (Int32.ofNat i) ((X i) + (0 : Int32)) ((Y i) + (Int32.ofInt (-1))) ((((Y i) + (Int32.ofInt (-1))) * (g 20 0)) + ((X i) + (0 : Int32)))) ?_
    refine q_iald (j := i) (q_ixn (by omega) (by omega)) rfl rfl ?_
    refine q_step 1 176 [(0, .ref 28), (1, .ref 20), (2, .int t), (3, .int (Int32.ofNat i)), (4, .int ((X i) + (0 : Int32))), (5, .int ((Y i) + (Int32.ofInt (-1)))), (6, .int ((((Y i) + (Int32.ofInt (-1))) * (g 20 0)) + ((X i) + (0 : Int32)))), (7, .int (0 : Int32))] [.int (4 : Int32), .int (g 33 i)] (s_M4 21 c X Y wn g) u (fun big n0 => sg_mv_16 big n0 (s_M4 21 c X Y wn g) u t (Int32.ofNat i) ((X i) + (0 : Int32)) ((Y i) + (Int32.ofInt (-1))) ((((Y i) + (Int32.ofInt (-1))) * (g 20 0)) + ((X i) + (0 : Int32))) (g 33 i)) ?_
    refine q_ic_eq rfl (fun hc6 => absurd (show (g 33 i) = (4 : Int32) from hc6) (by rw [hw]; decide)) (fun (hc6 : ¬ ((g 33 i) = (4 : Int32))) => ?_)
    refine q_step 4 39 [(0, .ref 28), (1, .ref 20), (2, .int t), (3, .int ((Int32.ofNat i) + (1 : Int32))), (4, .int ((X i) + (0 : Int32))), (5, .int ((Y i) + (Int32.ofInt (-1)))), (6, .int ((((Y i) + (Int32.ofInt (-1))) * (g 20 0)) + ((X i) + (0 : Int32)))), (7, .int (0 : Int32))] [] (s_M4 21 c X Y wn g) u (fun big n0 => sg_mv_17 big n0 (s_M4 21 c X Y wn g) u t (Int32.ofNat i) ((X i) + (0 : Int32)) ((Y i) + (Int32.ofInt (-1))) ((((Y i) + (Int32.ofInt (-1))) * (g 20 0)) + ((X i) + (0 : Int32)))) ?_
    refine q_weak [(0, .ref 28), (1, .ref 20), (2, .int t), (3, .int ((Int32.ofNat i) + (1 : Int32)))] (q_sub.cons rfl (q_sub.cons rfl (q_sub.cons rfl (q_sub.cons rfl q_sub.nil)))) ?_
    rw [q_succ]
    exact hno (fun z => by unfold s_gc at z; rw [e1, e2, hw] at z; exact z.2.1.1 hc5)
  · refine q_step 3 145 [(0, .ref 28), (1, .ref 20), (2, .int t), (3, .int (Int32.ofNat i)), (4, .int ((X i) + (0 : Int32))), (5, .int ((Y i) + (Int32.ofInt (-1)))), (6, .int ((((Y i) + (Int32.ofInt (-1))) * (g 20 0)) + ((X i) + (0 : Int32))))] [.int (g 20 0), .int ((X i) + (0 : Int32))] (s_M4 21 c X Y wn g) u (fun big n0 => sg_mv_18 big n0 (s_M4 21 c X Y wn g) u t (Int32.ofNat i) ((X i) + (0 : Int32)) ((Y i) + (Int32.ofInt (-1))) ((((Y i) + (Int32.ofInt (-1))) * (g 20 0)) + ((X i) + (0 : Int32)))) ?_
    refine q_ic_ge rfl (fun (hc6 : (g 20 0) ≤ ((X i) + (0 : Int32))) => ?_) (fun (hc6 : ¬ ((g 20 0) ≤ ((X i) + (0 : Int32)))) => ?_)
    · refine q_step 5 174 [(0, .ref 28), (1, .ref 20), (2, .int t), (3, .int (Int32.ofNat i)), (4, .int ((X i) + (0 : Int32))), (5, .int ((Y i) + (Int32.ofInt (-1)))), (6, .int ((((Y i) + (Int32.ofInt (-1))) * (g 20 0)) + ((X i) + (0 : Int32)))), (7, .int (0 : Int32))] [.int (Int32.ofNat i), .ref 33] (s_M4 21 c X Y wn g) u (fun big n0 => sg_mv_15 big n0 (s_M4 21 c X Y wn g) u t (Int32.ofNat i) ((X i) + (0 : Int32)) ((Y i) + (Int32.ofInt (-1))) ((((Y i) + (Int32.ofInt (-1))) * (g 20 0)) + ((X i) + (0 : Int32)))) ?_
      refine q_iald (j := i) (q_ixn (by omega) (by omega)) rfl rfl ?_
      refine q_step 1 176 [(0, .ref 28), (1, .ref 20), (2, .int t), (3, .int (Int32.ofNat i)), (4, .int ((X i) + (0 : Int32))), (5, .int ((Y i) + (Int32.ofInt (-1)))), (6, .int ((((Y i) + (Int32.ofInt (-1))) * (g 20 0)) + ((X i) + (0 : Int32)))), (7, .int (0 : Int32))] [.int (4 : Int32), .int (g 33 i)] (s_M4 21 c X Y wn g) u (fun big n0 => sg_mv_16 big n0 (s_M4 21 c X Y wn g) u t (Int32.ofNat i) ((X i) + (0 : Int32)) ((Y i) + (Int32.ofInt (-1))) ((((Y i) + (Int32.ofInt (-1))) * (g 20 0)) + ((X i) + (0 : Int32))) (g 33 i)) ?_
      refine q_ic_eq rfl (fun hc7 => absurd (show (g 33 i) = (4 : Int32) from hc7) (by rw [hw]; decide)) (fun (hc7 : ¬ ((g 33 i) = (4 : Int32))) => ?_)
      refine q_step 4 39 [(0, .ref 28), (1, .ref 20), (2, .int t), (3, .int ((Int32.ofNat i) + (1 : Int32))), (4, .int ((X i) + (0 : Int32))), (5, .int ((Y i) + (Int32.ofInt (-1)))), (6, .int ((((Y i) + (Int32.ofInt (-1))) * (g 20 0)) + ((X i) + (0 : Int32)))), (7, .int (0 : Int32))] [] (s_M4 21 c X Y wn g) u (fun big n0 => sg_mv_17 big n0 (s_M4 21 c X Y wn g) u t (Int32.ofNat i) ((X i) + (0 : Int32)) ((Y i) + (Int32.ofInt (-1))) ((((Y i) + (Int32.ofInt (-1))) * (g 20 0)) + ((X i) + (0 : Int32)))) ?_
      refine q_weak [(0, .ref 28), (1, .ref 20), (2, .int t), (3, .int ((Int32.ofNat i) + (1 : Int32)))] (q_sub.cons rfl (q_sub.cons rfl (q_sub.cons rfl (q_sub.cons rfl q_sub.nil)))) ?_
      rw [q_succ]
      exact hno (fun z => by unfold s_gc at z; rw [e1, e2, hw] at z; exact z.2.1.2.1 hc6)
    · refine q_step 1 150 [(0, .ref 28), (1, .ref 20), (2, .int t), (3, .int (Int32.ofNat i)), (4, .int ((X i) + (0 : Int32))), (5, .int ((Y i) + (Int32.ofInt (-1)))), (6, .int ((((Y i) + (Int32.ofInt (-1))) * (g 20 0)) + ((X i) + (0 : Int32))))] [.int ((Y i) + (Int32.ofInt (-1)))] (s_M4 21 c X Y wn g) u (fun big n0 => sg_mv_19 big n0 (s_M4 21 c X Y wn g) u t (Int32.ofNat i) ((X i) + (0 : Int32)) ((Y i) + (Int32.ofInt (-1))) ((((Y i) + (Int32.ofInt (-1))) * (g 20 0)) + ((X i) + (0 : Int32)))) ?_
      refine q_if_lt rfl (fun (hc7 : ((Y i) + (Int32.ofInt (-1))) < 0) => ?_) (fun (hc7 : ¬ (((Y i) + (Int32.ofInt (-1))) < 0)) => ?_)
      · refine q_step 5 174 [(0, .ref 28), (1, .ref 20), (2, .int t), (3, .int (Int32.ofNat i)), (4, .int ((X i) + (0 : Int32))), (5, .int ((Y i) + (Int32.ofInt (-1)))), (6, .int ((((Y i) + (Int32.ofInt (-1))) * (g 20 0)) + ((X i) + (0 : Int32)))), (7, .int (0 : Int32))] [.int (Int32.ofNat i), .ref 33] (s_M4 21 c X Y wn g) u (fun big n0 => sg_mv_15 big n0 (s_M4 21 c X Y wn g) u t (Int32.ofNat i) ((X i) + (0 : Int32)) ((Y i) + (Int32.ofInt (-1))) ((((Y i) + (Int32.ofInt (-1))) * (g 20 0)) + ((X i) + (0 : Int32)))) ?_
        refine q_iald (j := i) (q_ixn (by omega) (by omega)) rfl rfl ?_
        refine q_step 1 176 [(0, .ref 28), (1, .ref 20), (2, .int t), (3, .int (Int32.ofNat i)), (4, .int ((X i) + (0 : Int32))), (5, .int ((Y i) + (Int32.ofInt (-1)))), (6, .int ((((Y i) + (Int32.ofInt (-1))) * (g 20 0)) + ((X i) + (0 : Int32)))), (7, .int (0 : Int32))] [.int (4 : Int32), .int (g 33 i)] (s_M4 21 c X Y wn g) u (fun big n0 => sg_mv_16 big n0 (s_M4 21 c X Y wn g) u t (Int32.ofNat i) ((X i) + (0 : Int32)) ((Y i) + (Int32.ofInt (-1))) ((((Y i) + (Int32.ofInt (-1))) * (g 20 0)) + ((X i) + (0 : Int32))) (g 33 i)) ?_
        refine q_ic_eq rfl (fun hc8 => absurd (show (g 33 i) = (4 : Int32) from hc8) (by rw [hw]; decide)) (fun (hc8 : ¬ ((g 33 i) = (4 : Int32))) => ?_)
        refine q_step 4 39 [(0, .ref 28), (1, .ref 20), (2, .int t), (3, .int ((Int32.ofNat i) + (1 : Int32))), (4, .int ((X i) + (0 : Int32))), (5, .int ((Y i) + (Int32.ofInt (-1)))), (6, .int ((((Y i) + (Int32.ofInt (-1))) * (g 20 0)) + ((X i) + (0 : Int32)))), (7, .int (0 : Int32))] [] (s_M4 21 c X Y wn g) u (fun big n0 => sg_mv_17 big n0 (s_M4 21 c X Y wn g) u t (Int32.ofNat i) ((X i) + (0 : Int32)) ((Y i) + (Int32.ofInt (-1))) ((((Y i) + (Int32.ofInt (-1))) * (g 20 0)) + ((X i) + (0 : Int32)))) ?_
        refine q_weak [(0, .ref 28), (1, .ref 20), (2, .int t), (3, .int ((Int32.ofNat i) + (1 : Int32)))] (q_sub.cons rfl (q_sub.cons rfl (q_sub.cons rfl (q_sub.cons rfl q_sub.nil)))) ?_
        rw [q_succ]
        exact hno (fun z => by unfold s_gc at z; rw [e1, e2, hw] at z; exact z.2.1.2.2.1 hc7)
      · refine q_step 3 159 [(0, .ref 28), (1, .ref 20), (2, .int t), (3, .int (Int32.ofNat i)), (4, .int ((X i) + (0 : Int32))), (5, .int ((Y i) + (Int32.ofInt (-1)))), (6, .int ((((Y i) + (Int32.ofInt (-1))) * (g 20 0)) + ((X i) + (0 : Int32))))] [.int (g 20 1), .int ((Y i) + (Int32.ofInt (-1)))] (s_M4 21 c X Y wn g) u (fun big n0 => sg_mv_20 big n0 (s_M4 21 c X Y wn g) u t (Int32.ofNat i) ((X i) + (0 : Int32)) ((Y i) + (Int32.ofInt (-1))) ((((Y i) + (Int32.ofInt (-1))) * (g 20 0)) + ((X i) + (0 : Int32)))) ?_
        refine q_ic_ge rfl (fun (hc8 : (g 20 1) ≤ ((Y i) + (Int32.ofInt (-1)))) => ?_) (fun (hc8 : ¬ ((g 20 1) ≤ ((Y i) + (Int32.ofInt (-1))))) => ?_)
        · refine q_step 5 174 [(0, .ref 28), (1, .ref 20), (2, .int t), (3, .int (Int32.ofNat i)), (4, .int ((X i) + (0 : Int32))), (5, .int ((Y i) + (Int32.ofInt (-1)))), (6, .int ((((Y i) + (Int32.ofInt (-1))) * (g 20 0)) + ((X i) + (0 : Int32)))), (7, .int (0 : Int32))] [.int (Int32.ofNat i), .ref 33] (s_M4 21 c X Y wn g) u (fun big n0 => sg_mv_15 big n0 (s_M4 21 c X Y wn g) u t (Int32.ofNat i) ((X i) + (0 : Int32)) ((Y i) + (Int32.ofInt (-1))) ((((Y i) + (Int32.ofInt (-1))) * (g 20 0)) + ((X i) + (0 : Int32)))) ?_
          refine q_iald (j := i) (q_ixn (by omega) (by omega)) rfl rfl ?_
          refine q_step 1 176 [(0, .ref 28), (1, .ref 20), (2, .int t), (3, .int (Int32.ofNat i)), (4, .int ((X i) + (0 : Int32))), (5, .int ((Y i) + (Int32.ofInt (-1)))), (6, .int ((((Y i) + (Int32.ofInt (-1))) * (g 20 0)) + ((X i) + (0 : Int32)))), (7, .int (0 : Int32))] [.int (4 : Int32), .int (g 33 i)] (s_M4 21 c X Y wn g) u (fun big n0 => sg_mv_16 big n0 (s_M4 21 c X Y wn g) u t (Int32.ofNat i) ((X i) + (0 : Int32)) ((Y i) + (Int32.ofInt (-1))) ((((Y i) + (Int32.ofInt (-1))) * (g 20 0)) + ((X i) + (0 : Int32))) (g 33 i)) ?_
          refine q_ic_eq rfl (fun hc9 => absurd (show (g 33 i) = (4 : Int32) from hc9) (by rw [hw]; decide)) (fun (hc9 : ¬ ((g 33 i) = (4 : Int32))) => ?_)
          refine q_step 4 39 [(0, .ref 28), (1, .ref 20), (2, .int t), (3, .int ((Int32.ofNat i) + (1 : Int32))), (4, .int ((X i) + (0 : Int32))), (5, .int ((Y i) + (Int32.ofInt (-1)))), (6, .int ((((Y i) + (Int32.ofInt (-1))) * (g 20 0)) + ((X i) + (0 : Int32)))), (7, .int (0 : Int32))] [] (s_M4 21 c X Y wn g) u (fun big n0 => sg_mv_17 big n0 (s_M4 21 c X Y wn g) u t (Int32.ofNat i) ((X i) + (0 : Int32)) ((Y i) + (Int32.ofInt (-1))) ((((Y i) + (Int32.ofInt (-1))) * (g 20 0)) + ((X i) + (0 : Int32)))) ?_
          refine q_weak [(0, .ref 28), (1, .ref 20), (2, .int t), (3, .int ((Int32.ofNat i) + (1 : Int32)))] (q_sub.cons rfl (q_sub.cons rfl (q_sub.cons rfl (q_sub.cons rfl q_sub.nil)))) ?_
          rw [q_succ]
          exact hno (fun z => by unfold s_gc at z; rw [e1, e2, hw] at z; exact z.2.1.2.2.2 hc8)
        · refine q_step 6 174 [(0, .ref 28), (1, .ref 20), (2, .int t), (3, .int (Int32.ofNat i)), (4, .int ((X i) + (0 : Int32))), (5, .int ((Y i) + (Int32.ofInt (-1)))), (6, .int ((((Y i) + (Int32.ofInt (-1))) * (g 20 0)) + ((X i) + (0 : Int32)))), (7, .int (1 : Int32))] [.int (Int32.ofNat i), .ref 33] (s_M4 21 c X Y wn g) u (fun big n0 => sg_mv_21 big n0 (s_M4 21 c X Y wn g) u t (Int32.ofNat i) ((X i) + (0 : Int32)) ((Y i) + (Int32.ofInt (-1))) ((((Y i) + (Int32.ofInt (-1))) * (g 20 0)) + ((X i) + (0 : Int32)))) ?_
          refine q_iald (j := i) (q_ixn (by omega) (by omega)) rfl rfl ?_
          refine q_step 1 176 [(0, .ref 28), (1, .ref 20), (2, .int t), (3, .int (Int32.ofNat i)), (4, .int ((X i) + (0 : Int32))), (5, .int ((Y i) + (Int32.ofInt (-1)))), (6, .int ((((Y i) + (Int32.ofInt (-1))) * (g 20 0)) + ((X i) + (0 : Int32)))), (7, .int (1 : Int32))] [.int (4 : Int32), .int (g 33 i)] (s_M4 21 c X Y wn g) u (fun big n0 => sg_mv_22 big n0 (s_M4 21 c X Y wn g) u t (Int32.ofNat i) ((X i) + (0 : Int32)) ((Y i) + (Int32.ofInt (-1))) ((((Y i) + (Int32.ofInt (-1))) * (g 20 0)) + ((X i) + (0 : Int32))) (g 33 i)) ?_
          refine q_ic_eq rfl (fun hc9 => absurd (show (g 33 i) = (4 : Int32) from hc9) (by rw [hw]; decide)) (fun (hc9 : ¬ ((g 33 i) = (4 : Int32))) => ?_)
          refine q_step 7 190 [(0, .ref 28), (1, .ref 20), (2, .int t), (3, .int (Int32.ofNat i)), (4, .int ((X i) + (0 : Int32))), (5, .int ((Y i) + (Int32.ofInt (-1)))), (6, .int ((((Y i) + (Int32.ofInt (-1))) * (g 20 0)) + ((X i) + (0 : Int32)))), (7, .int (1 : Int32))] [.int ((t >>> (((((Y i) + (Int32.ofInt (-1))) * (g 20 0)) + ((X i) + (0 : Int32))) &&& 31)) &&& (1 : Int32))] (s_M4 21 c X Y wn g) u (fun big n0 => sg_mv_23 big n0 (s_M4 21 c X Y wn g) u t (Int32.ofNat i) ((X i) + (0 : Int32)) ((Y i) + (Int32.ofInt (-1))) ((((Y i) + (Int32.ofInt (-1))) * (g 20 0)) + ((X i) + (0 : Int32)))) ?_
          refine q_if_ne rfl (fun (hc10 : ((t >>> (((((Y i) + (Int32.ofInt (-1))) * (g 20 0)) + ((X i) + (0 : Int32))) &&& 31)) &&& (1 : Int32)) = 0) => ?_) (fun (hc10 : ¬ (((t >>> (((((Y i) + (Int32.ofInt (-1))) * (g 20 0)) + ((X i) + (0 : Int32))) &&& 31)) &&& (1 : Int32)) = 0)) => ?_)
          · refine q_step 5 200 [(0, .ref 28), (1, .ref 20), (2, .int t), (3, .int (Int32.ofNat i)), (4, .int ((X i) + (0 : Int32))), (5, .int ((Y i) + (Int32.ofInt (-1)))), (6, .int ((((Y i) + (Int32.ofInt (-1))) * (g 20 0)) + ((X i) + (0 : Int32)))), (7, .int (1 : Int32))] [.int (Int32.ofNat i), .ref 21, .int (1 : Int32), .int t] (s_M4 21 c X Y wn g) u (fun big n0 => sg_mv_24 big n0 (s_M4 21 c X Y wn g) u t (Int32.ofNat i) ((X i) + (0 : Int32)) ((Y i) + (Int32.ofInt (-1))) ((((Y i) + (Int32.ofInt (-1))) * (g 20 0)) + ((X i) + (0 : Int32)))) ?_
            refine q_iald (j := i) (q_ixn (by omega) (by omega)) rfl rfl ?_
            refine q_step 13 218 [(0, .ref 28), (1, .ref 20), (2, .int ((t &&& (((1 : Int32) <<< ((c i) &&& 31)) ^^^ (Int32.ofInt (-1)))) ||| ((1 : Int32) <<< (((((Y i) + (Int32.ofInt (-1))) * (g 20 0)) + ((X i) + (0 : Int32))) &&& 31)))), (3, .int (Int32.ofNat i)), (4, .int ((X i) + (0 : Int32))), (5, .int ((Y i) + (Int32.ofInt (-1)))), (6, .int ((((Y i) + (Int32.ofInt (-1))) * (g 20 0)) + ((X i) + (0 : Int32)))), (7, .int (1 : Int32))] [.int ((((Y i) + (Int32.ofInt (-1))) * (g 20 0)) + ((X i) + (0 : Int32))), .int (Int32.ofNat i), .ref 21] (s_M4 21 c X Y wn g) u (fun big n0 => sg_mv_25 big n0 (s_M4 21 c X Y wn g) u t (Int32.ofNat i) ((X i) + (0 : Int32)) ((Y i) + (Int32.ofInt (-1))) ((((Y i) + (Int32.ofInt (-1))) * (g 20 0)) + ((X i) + (0 : Int32))) t (c i)) ?_
            refine q_iast (j := i) (q_ixn (by omega) (by omega)) rfl rfl ?_
            refine q_step 4 226 [(0, .ref 28), (1, .ref 20), (2, .int ((t &&& (((1 : Int32) <<< ((c i) &&& 31)) ^^^ (Int32.ofInt (-1)))) ||| ((1 : Int32) <<< (((((Y i) + (Int32.ofInt (-1))) * (g 20 0)) + ((X i) + (0 : Int32))) &&& 31)))), (3, .int (Int32.ofNat i)), (4, .int ((X i) + (0 : Int32))), (5, .int ((Y i) + (Int32.ofInt (-1)))), (6, .int ((((Y i) + (Int32.ofInt (-1))) * (g 20 0)) + ((X i) + (0 : Int32)))), (7, .int (1 : Int32))] [.int ((X i) + (0 : Int32)), .int (Int32.ofNat i), .ref 29] (q_up (s_M4 21 c X Y wn g) 21 i ((((Y i) + (Int32.ofInt (-1))) * (g 20 0)) + ((X i) + (0 : Int32)))) u (fun big n0 => sg_mv_26 big n0 (q_up (s_M4 21 c X Y wn g) 21 i ((((Y i) + (Int32.ofInt (-1))) * (g 20 0)) + ((X i) + (0 : Int32)))) u ((t &&& (((1 : Int32) <<< ((c i) &&& 31)) ^^^ (Int32.ofInt (-1)))) ||| ((1 : Int32) <<< (((((Y i) + (Int32.ofInt (-1))) * (g 20 0)) + ((X i) + (0 : Int32))) &&& 31))) (Int32.ofNat i) ((X i) + (0 : Int32)) ((Y i) + (Int32.ofInt (-1))) ((((Y i) + (Int32.ofInt (-1))) * (g 20 0)) + ((X i) + (0 : Int32)))) ?_
            refine q_iast (j := i) (q_ixn (by omega) (by omega)) rfl rfl ?_
            refine q_step 4 234 [(0, .ref 28), (1, .ref 20), (2, .int ((t &&& (((1 : Int32) <<< ((c i) &&& 31)) ^^^ (Int32.ofInt (-1)))) ||| ((1 : Int32) <<< (((((Y i) + (Int32.ofInt (-1))) * (g 20 0)) + ((X i) + (0 : Int32))) &&& 31)))), (3, .int (Int32.ofNat i)), (4, .int ((X i) + (0 : Int32))), (5, .int ((Y i) + (Int32.ofInt (-1)))), (6, .int ((((Y i) + (Int32.ofInt (-1))) * (g 20 0)) + ((X i) + (0 : Int32)))), (7, .int (1 : Int32))] [.int ((Y i) + (Int32.ofInt (-1))), .int (Int32.ofNat i), .ref 30] (q_up (q_up (s_M4 21 c X Y wn g) 21 i ((((Y i) + (Int32.ofInt (-1))) * (g 20 0)) + ((X i) + (0 : Int32)))) 29 i ((X i) + (0 : Int32))) u (fun big n0 => sg_mv_27 big n0 (q_up (q_up (s_M4 21 c X Y wn g) 21 i ((((Y i) + (Int32.ofInt (-1))) * (g 20 0)) + ((X i) + (0 : Int32)))) 29 i ((X i) + (0 : Int32))) u ((t &&& (((1 : Int32) <<< ((c i) &&& 31)) ^^^ (Int32.ofInt (-1)))) ||| ((1 : Int32) <<< (((((Y i) + (Int32.ofInt (-1))) * (g 20 0)) + ((X i) + (0 : Int32))) &&& 31))) (Int32.ofNat i) ((X i) + (0 : Int32)) ((Y i) + (Int32.ofInt (-1))) ((((Y i) + (Int32.ofInt (-1))) * (g 20 0)) + ((X i) + (0 : Int32)))) ?_
            refine q_iast (j := i) (q_ixn (by omega) (by omega)) rfl rfl ?_
            refine q_step 10 39 [(0, .ref 28), (1, .ref 20), (2, .int ((t &&& (((1 : Int32) <<< ((c i) &&& 31)) ^^^ (Int32.ofInt (-1)))) ||| ((1 : Int32) <<< (((((Y i) + (Int32.ofInt (-1))) * (g 20 0)) + ((X i) + (0 : Int32))) &&& 31)))), (3, .int ((Int32.ofNat i) + (1 : Int32))), (4, .int ((X i) + (0 : Int32))), (5, .int ((Y i) + (Int32.ofInt (-1)))), (6, .int ((((Y i) + (Int32.ofInt (-1))) * (g 20 0)) + ((X i) + (0 : Int32)))), (7, .int (1 : Int32))] [] (q_up (q_up (q_up (q_up (s_M4 21 c X Y wn g) 21 i ((((Y i) + (Int32.ofInt (-1))) * (g 20 0)) + ((X i) + (0 : Int32)))) 29 i ((X i) + (0 : Int32))) 30 i ((Y i) + (Int32.ofInt (-1)))) 28 5 (((s_M4 21 c X Y wn g) 28 5) ||| ((1 : Int32) <<< ((Int32.ofNat i) &&& 31)))) u (fun big n0 => sg_mv_28 big n0 (q_up (q_up (q_up (s_M4 21 c X Y wn g) 21 i ((((Y i) + (Int32.ofInt (-1))) * (g 20 0)) + ((X i) + (0 : Int32)))) 29 i ((X i) + (0 : Int32))) 30 i ((Y i) + (Int32.ofInt (-1)))) u ((t &&& (((1 : Int32) <<< ((c i) &&& 31)) ^^^ (Int32.ofInt (-1)))) ||| ((1 : Int32) <<< (((((Y i) + (Int32.ofInt (-1))) * (g 20 0)) + ((X i) + (0 : Int32))) &&& 31))) (Int32.ofNat i) ((X i) + (0 : Int32)) ((Y i) + (Int32.ofInt (-1))) ((((Y i) + (Int32.ofInt (-1))) * (g 20 0)) + ((X i) + (0 : Int32)))) ?_
            refine q_weak [(0, .ref 28), (1, .ref 20), (2, .int ((t &&& (((1 : Int32) <<< ((c i) &&& 31)) ^^^ (Int32.ofInt (-1)))) ||| ((1 : Int32) <<< (((((Y i) + (Int32.ofInt (-1))) * (g 20 0)) + ((X i) + (0 : Int32))) &&& 31)))), (3, .int ((Int32.ofNat i) + (1 : Int32)))] (q_sub.cons rfl (q_sub.cons rfl (q_sub.cons rfl (q_sub.cons rfl q_sub.nil)))) ?_
            rw [s_M4_c, s_M4_x (by decide), s_M4_y (by decide), s_M4_w (by decide), q_succ]
            exact hgo (by unfold s_gc; rw [e1, e2, hw]; exact ⟨by decide, ⟨hc5, hc6, hc7, hc8⟩, hc10⟩)
          · refine q_step 2 39 [(0, .ref 28), (1, .ref 20), (2, .int t), (3, .int ((Int32.ofNat i) + (1 : Int32))), (4, .int ((X i) + (0 : Int32))), (5, .int ((Y i) + (Int32.ofInt (-1)))), (6, .int ((((Y i) + (Int32.ofInt (-1))) * (g 20 0)) + ((X i) + (0 : Int32)))), (7, .int (1 : Int32))] [] (s_M4 21 c X Y wn g) u (fun big n0 => sg_mv_29 big n0 (s_M4 21 c X Y wn g) u t (Int32.ofNat i) ((X i) + (0 : Int32)) ((Y i) + (Int32.ofInt (-1))) ((((Y i) + (Int32.ofInt (-1))) * (g 20 0)) + ((X i) + (0 : Int32)))) ?_
            refine q_weak [(0, .ref 28), (1, .ref 20), (2, .int t), (3, .int ((Int32.ofNat i) + (1 : Int32)))] (q_sub.cons rfl (q_sub.cons rfl (q_sub.cons rfl (q_sub.cons rfl q_sub.nil)))) ?_
            rw [q_succ]
            exact hno (fun z => by unfold s_gc at z; rw [e1, e2, hw] at z; exact hc10 z.2.2)
theorem mb_20_1 (g : qM) (u : qW) {Q : Option Value × qM × qW → Prop} {n i : Nat} (hn : g 20 3 = Int32.ofNat n) (h6 : n ≤ 6) (hi : i < n) (hw : g 33 i = 1) {c X Y : Nat → Int32} {t wn : Int32} (hgo : s_gc (g 20 0) (g 20 1) (g 33 i) (X i) (Y i) t → q_EV m_69 39 [(0, .ref 28), (1, .ref 20), (2, .int ((t &&& (((1 : Int32) <<< (c i &&& 31)) ^^^ Int32.ofInt (-1))) ||| ((1 : Int32) <<< (((Y i + s_cy (g 33 i)) * (g 20 0) + (X i + s_cx (g 33 i))) &&& 31)))), (3, .int (Int32.ofNat (i + 1)))] [] (s_M4 21 (s_set c i ((Y i + s_cy (g 33 i)) * (g 20 0) + (X i + s_cx (g 33 i)))) (s_set X i (X i + s_cx (g 33 i))) (s_set Y i (Y i + s_cy (g 33 i))) (wn ||| ((1 : Int32) <<< (Int32.ofNat i &&& 31))) g) u Q) (hno : ¬ s_gc (g 20 0) (g 20 1) (g 33 i) (X i) (Y i) t → q_EV m_69 39 [(0, .ref 28), (1, .ref 20), (2, .int t), (3, .int (Int32.ofNat (i + 1)))] [] (s_M4 21 c X Y wn g) u Q) : q_EV m_69 39 [(0, .ref 28), (1, .ref 20), (2, .int t), (3, .int (Int32.ofNat i))] [] (s_M4 21 c X Y wn g) u Q := by
  have e1 : s_cx (g 33 i) = (1 : Int32) := by rw [hw]; rfl
  have e2 : s_cy (g 33 i) = (0 : Int32) := by rw [hw]; rfl
  rw [e1, e2] at hgo
  refine q_step 3 44 [(0, .ref 28), (1, .ref 20), (2, .int t), (3, .int (Int32.ofNat i))] [.int (g 20 3), .int (Int32.ofNat i)] (s_M4 21 c X Y wn g) u (fun big n0 => sg_mv_4 big n0 (s_M4 21 c X Y wn g) u t (Int32.ofNat i)) ?_
  refine q_ic_ge rfl (fun hc0 => absurd (show (g 20 3) ≤ (Int32.ofNat i) from hc0) (fun z => by rw [hn, q_le (by omega) (by omega)] at z; omega)) (fun (hc0 : ¬ ((g 20 3) ≤ (Int32.ofNat i))) => ?_)
  refine q_step 3 52 [(0, .ref 28), (1, .ref 20), (2, .int t), (3, .int (Int32.ofNat i))] [.int (Int32.ofNat i), .ref 29] (s_M4 21 c X Y wn g) u (fun big n0 => sg_mv_5 big n0 (s_M4 21 c X Y wn g) u t (Int32.ofNat i)) ?_
  refine q_iald (j := i) (q_ixn (by omega) (by omega)) rfl rfl ?_
  refine q_step 3 58 [(0, .ref 28), (1, .ref 20), (2, .int t), (3, .int (Int32.ofNat i))] [.int (Int32.ofNat i), .ref 33, .int (X i)] (s_M4 21 c X Y wn g) u (fun big n0 => sg_mv_6 big n0 (s_M4 21 c X Y wn g) u t (Int32.ofNat i) (X i)) ?_
  refine q_iald (j := i) (q_ixn (by omega) (by omega)) rfl rfl ?_
  refine q_step 1 60 [(0, .ref 28), (1, .ref 20), (2, .int t), (3, .int (Int32.ofNat i))] [.int (1 : Int32), .int (g 33 i), .int (X i)] (s_M4 21 c X Y wn g) u (fun big n0 => sg_mv_7 big n0 (s_M4 21 c X Y wn g) u t (Int32.ofNat i) (X i) (g 33 i)) ?_
  refine q_ic_ne rfl (fun (hc1 : (g 33 i) = (1 : Int32)) => ?_) (fun hc1 => absurd (show (g 33 i) = (1 : Int32) from hw) hc1)
  refine q_step 7 90 [(0, .ref 28), (1, .ref 20), (2, .int t), (3, .int (Int32.ofNat i)), (4, .int ((X i) + (1 : Int32)))] [.int (Int32.ofNat i), .ref 30] (s_M4 21 c X Y wn g) u (fun big n0 => sg_mv_30 big n0 (s_M4 21 c X Y wn g) u t (Int32.ofNat i) (X i)) ?_
  refine q_iald (j := i) (q_ixn (by omega) (by omega)) rfl rfl ?_
  refine q_step 3 96 [(0, .ref 28), (1, .ref 20), (2, .int t), (3, .int (Int32.ofNat i)), (4, .int ((X i) + (1 : Int32)))] [.int (Int32.ofNat i), .ref 33, .int (Y i)] (s_M4 21 c X Y wn g) u (fun big n0 => sg_mv_11 big n0 (s_M4 21 c X Y wn g) u t (Int32.ofNat i) ((X i) + (1 : Int32)) (Y i)) ?_
  refine q_iald (j := i) (q_ixn (by omega) (by omega)) rfl rfl ?_
  refine q_step 1 98 [(0, .ref 28), (1, .ref 20), (2, .int t), (3, .int (Int32.ofNat i)), (4, .int ((X i) + (1 : Int32)))] [.int (2 : Int32), .int (g 33 i), .int (Y i)] (s_M4 21 c X Y wn g) u (fun big n0 => sg_mv_12 big n0 (s_M4 21 c X Y wn g) u t (Int32.ofNat i) ((X i) + (1 : Int32)) (Y i) (g 33 i)) ?_
  refine q_ic_ne rfl (fun hc2 => absurd (show (g 33 i) = (2 : Int32) from hc2) (by rw [hw]; decide)) (fun (hc2 : ¬ ((g 33 i) = (2 : Int32))) => ?_)
  refine q_step 3 110 [(0, .ref 28), (1, .ref 20), (2, .int t), (3, .int (Int32.ofNat i)), (4, .int ((X i) + (1 : Int32)))] [.int (Int32.ofNat i), .ref 33, .int (Y i)] (s_M4 21 c X Y wn g) u (fun big n0 => sg_mv_13 big n0 (s_M4 21 c X Y wn g) u t (Int32.ofNat i) ((X i) + (1 : Int32)) (Y i)) ?_
  refine q_iald (j := i) (q_ixn (by omega) (by omega)) rfl rfl ?_
  refine q_if_ne rfl (fun hc3 => absurd (show (g 33 i) = 0 from hc3) (by rw [hw]; decide)) (fun (hc3 : ¬ ((g 33 i) = 0)) => ?_)
  refine q_step 11 136 [(0, .ref 28), (1, .ref 20), (2, .int t), (3, .int (Int32.ofNat i)), (4, .int ((X i) + (1 : Int32))), (5, .int ((Y i) + (0 : Int32))), (6, .int ((((Y i) + (0 : Int32)) * (g 20 0)) + ((X i) + (1 : Int32))))] [.int ((X i) + (1 : Int32))] (s_M4 21 c X Y wn g) u (fun big n0 => sg_mv_31 big n0 (s_M4 21 c X Y wn g) u t (Int32.ofNat i) ((X i) + (1 : Int32)) (Y i)) ?_
  refine q_if_lt rfl (fun (hc4 : ((X i) + (1 : Int32)) < 0) => ?_) (fun (hc4 : ¬ (((X i) + (1 : Int32)) < 0)) => ?_)
  · refine q_step 5 174 [(0, .ref 28), (1, .ref 20), (2, .int t), (3, .int (Int32.ofNat i)), (4, .int ((X i) + (1 : Int32))), (5, .int ((Y i) + (0 : Int32))), (6, .int ((((Y i) + (0 : Int32)) * (g 20 0)) + ((X i) + (1 : Int32)))), (7, .int (0 : Int32))] [.int (Int32.ofNat i), .ref 33] (s_M4 21 c X Y wn g) u (fun big n0 => sg_mv_15 big n0 (s_M4 21 c X Y wn g) u t (Int32.ofNat i) ((X i) + (1 : Int32)) ((Y i) + (0 : Int32)) ((((Y i) + (0 : Int32)) * (g 20 0)) + ((X i) + (1 : Int32)))) ?_
    refine q_iald (j := i) (q_ixn (by omega) (by omega)) rfl rfl ?_
    refine q_step 1 176 [(0, .ref 28), (1, .ref 20), (2, .int t), (3, .int (Int32.ofNat i)), (4, .int ((X i) + (1 : Int32))), (5, .int ((Y i) + (0 : Int32))), (6, .int ((((Y i) + (0 : Int32)) * (g 20 0)) + ((X i) + (1 : Int32)))), (7, .int (0 : Int32))] [.int (4 : Int32), .int (g 33 i)] (s_M4 21 c X Y wn g) u (fun big n0 => sg_mv_16 big n0 (s_M4 21 c X Y wn g) u t (Int32.ofNat i) ((X i) + (1 : Int32)) ((Y i) + (0 : Int32)) ((((Y i) + (0 : Int32)) * (g 20 0)) + ((X i) + (1 : Int32))) (g 33 i)) ?_
    refine q_ic_eq rfl (fun hc5 => absurd (show (g 33 i) = (4 : Int32) from hc5) (by rw [hw]; decide)) (fun (hc5 : ¬ ((g 33 i) = (4 : Int32))) => ?_)
    refine q_step 4 39 [(0, .ref 28), (1, .ref 20), (2, .int t), (3, .int ((Int32.ofNat i) + (1 : Int32))), (4, .int ((X i) + (1 : Int32))), (5, .int ((Y i) + (0 : Int32))), (6, .int ((((Y i) + (0 : Int32)) * (g 20 0)) + ((X i) + (1 : Int32)))), (7, .int (0 : Int32))] [] (s_M4 21 c X Y wn g) u (fun big n0 => sg_mv_17 big n0 (s_M4 21 c X Y wn g) u t (Int32.ofNat i) ((X i) + (1 : Int32)) ((Y i) + (0 : Int32)) ((((Y i) + (0 : Int32)) * (g 20 0)) + ((X i) + (1 : Int32)))) ?_
    refine q_weak [(0, .ref 28), (1, .ref 20), (2, .int t), (3, .int ((Int32.ofNat i) + (1 : Int32)))] (q_sub.cons rfl (q_sub.cons rfl (q_sub.cons rfl (q_sub.cons rfl q_sub.nil)))) ?_
    rw [q_succ]
    exact hno (fun z => by unfold s_gc at z; rw [e1, e2, hw] at z; exact z.2.1.1 hc4)
  · refine q_step 3 145 [(0, .ref 28), (1, .ref 20), (2, .int t), (3, .int (Int32.ofNat i)), (4, .int ((X i) + (1 : Int32))), (5, .int ((Y i) + (0 : Int32))), (6, .int ((((Y i) + (0 : Int32)) * (g 20 0)) + ((X i) + (1 : Int32))))] [.int (g 20 0), .int ((X i) + (1 : Int32))] (s_M4 21 c X Y wn g) u (fun big n0 => sg_mv_18 big n0 (s_M4 21 c X Y wn g) u t (Int32.ofNat i) ((X i) + (1 : Int32)) ((Y i) + (0 : Int32)) ((((Y i) + (0 : Int32)) * (g 20 0)) + ((X i) + (1 : Int32)))) ?_
    refine q_ic_ge rfl (fun (hc5 : (g 20 0) ≤ ((X i) + (1 : Int32))) => ?_) (fun (hc5 : ¬ ((g 20 0) ≤ ((X i) + (1 : Int32)))) => ?_)
    · refine q_step 5 174 [(0, .ref 28), (1, .ref 20), (2, .int t), (3, .int (Int32.ofNat i)), (4, .int ((X i) + (1 : Int32))), (5, .int ((Y i) + (0 : Int32))), (6, .int ((((Y i) + (0 : Int32)) * (g 20 0)) + ((X i) + (1 : Int32)))), (7, .int (0 : Int32))] [.int (Int32.ofNat i), .ref 33] (s_M4 21 c X Y wn g) u (fun big n0 => sg_mv_15 big n0 (s_M4 21 c X Y wn g) u t (Int32.ofNat i) ((X i) + (1 : Int32)) ((Y i) + (0 : Int32)) ((((Y i) + (0 : Int32)) * (g 20 0)) + ((X i) + (1 : Int32)))) ?_
      refine q_iald (j := i) (q_ixn (by omega) (by omega)) rfl rfl ?_
      refine q_step 1 176 [(0, .ref 28), (1, .ref 20), (2, .int t), (3, .int (Int32.ofNat i)), (4, .int ((X i) + (1 : Int32))), (5, .int ((Y i) + (0 : Int32))), (6, .int ((((Y i) + (0 : Int32)) * (g 20 0)) + ((X i) + (1 : Int32)))), (7, .int (0 : Int32))] [.int (4 : Int32), .int (g 33 i)] (s_M4 21 c X Y wn g) u (fun big n0 => sg_mv_16 big n0 (s_M4 21 c X Y wn g) u t (Int32.ofNat i) ((X i) + (1 : Int32)) ((Y i) + (0 : Int32)) ((((Y i) + (0 : Int32)) * (g 20 0)) + ((X i) + (1 : Int32))) (g 33 i)) ?_
      refine q_ic_eq rfl (fun hc6 => absurd (show (g 33 i) = (4 : Int32) from hc6) (by rw [hw]; decide)) (fun (hc6 : ¬ ((g 33 i) = (4 : Int32))) => ?_)
      refine q_step 4 39 [(0, .ref 28), (1, .ref 20), (2, .int t), (3, .int ((Int32.ofNat i) + (1 : Int32))), (4, .int ((X i) + (1 : Int32))), (5, .int ((Y i) + (0 : Int32))), (6, .int ((((Y i) + (0 : Int32)) * (g 20 0)) + ((X i) + (1 : Int32)))), (7, .int (0 : Int32))] [] (s_M4 21 c X Y wn g) u (fun big n0 => sg_mv_17 big n0 (s_M4 21 c X Y wn g) u t (Int32.ofNat i) ((X i) + (1 : Int32)) ((Y i) + (0 : Int32)) ((((Y i) + (0 : Int32)) * (g 20 0)) + ((X i) + (1 : Int32)))) ?_
      refine q_weak [(0, .ref 28), (1, .ref 20), (2, .int t), (3, .int ((Int32.ofNat i) + (1 : Int32)))] (q_sub.cons rfl (q_sub.cons rfl (q_sub.cons rfl (q_sub.cons rfl q_sub.nil)))) ?_
      rw [q_succ]
      exact hno (fun z => by unfold s_gc at z; rw [e1, e2, hw] at z; exact z.2.1.2.1 hc5)
    · refine q_step 1 150 [(0, .ref 28), (1, .ref 20), (2, .int t), (3, .int (Int32.ofNat i)), (4, .int ((X i) + (1 : Int32))), (5, .int ((Y i) + (0 : Int32))), (6, .int ((((Y i) + (0 : Int32)) * (g 20 0)) + ((X i) + (1 : Int32))))] [.int ((Y i) + (0 : Int32))] (s_M4 21 c X Y wn g) u (fun big n0 => sg_mv_19 big n0 (s_M4 21 c X Y wn g) u t (Int32.ofNat i) ((X i) + (1 : Int32)) ((Y i) + (0 : Int32)) ((((Y i) + (0 : Int32)) * (g 20 0)) + ((X i) + (1 : Int32)))) ?_
      refine q_if_lt rfl (fun (hc6 : ((Y i) + (0 : Int32)) < 0) => ?_) (fun (hc6 : ¬ (((Y i) + (0 : Int32)) < 0)) => ?_)
      · refine q_step 5 174 [(0, .ref 28), (1, .ref 20), (2, .int t), (3, .int (Int32.ofNat i)), (4, .int ((X i) + (1 : Int32))), (5, .int ((Y i) + (0 : Int32))), (6, .int ((((Y i) + (0 : Int32)) * (g 20 0)) + ((X i) + (1 : Int32)))), (7, .int (0 : Int32))] [.int (Int32.ofNat i), .ref 33] (s_M4 21 c X Y wn g) u (fun big n0 => sg_mv_15 big n0 (s_M4 21 c X Y wn g) u t (Int32.ofNat i) ((X i) + (1 : Int32)) ((Y i) + (0 : Int32)) ((((Y i) + (0 : Int32)) * (g 20 0)) + ((X i) + (1 : Int32)))) ?_
        refine q_iald (j := i) (q_ixn (by omega) (by omega)) rfl rfl ?_
        refine q_step 1 176 [(0, .ref 28), (1, .ref 20), (2, .int t), (3, .int (Int32.ofNat i)), (4, .int ((X i) + (1 : Int32))), (5, .int ((Y i) + (0 : Int32))), (6, .int ((((Y i) + (0 : Int32)) * (g 20 0)) + ((X i) + (1 : Int32)))), (7, .int (0 : Int32))] [.int (4 : Int32), .int (g 33 i)] (s_M4 21 c X Y wn g) u (fun big n0 => sg_mv_16 big n0 (s_M4 21 c X Y wn g) u t (Int32.ofNat i) ((X i) + (1 : Int32)) ((Y i) + (0 : Int32)) ((((Y i) + (0 : Int32)) * (g 20 0)) + ((X i) + (1 : Int32))) (g 33 i)) ?_
        refine q_ic_eq rfl (fun hc7 => absurd (show (g 33 i) = (4 : Int32) from hc7) (by rw [hw]; decide)) (fun (hc7 : ¬ ((g 33 i) = (4 : Int32))) => ?_)
        refine q_step 4 39 [(0, .ref 28), (1, .ref 20), (2, .int t), (3, .int ((Int32.ofNat i) + (1 : Int32))), (4, .int ((X i) + (1 : Int32))), (5, .int ((Y i) + (0 : Int32))), (6, .int ((((Y i) + (0 : Int32)) * (g 20 0)) + ((X i) + (1 : Int32)))), (7, .int (0 : Int32))] [] (s_M4 21 c X Y wn g) u (fun big n0 => sg_mv_17 big n0 (s_M4 21 c X Y wn g) u t (Int32.ofNat i) ((X i) + (1 : Int32)) ((Y i) + (0 : Int32)) ((((Y i) + (0 : Int32)) * (g 20 0)) + ((X i) + (1 : Int32)))) ?_
        refine q_weak [(0, .ref 28), (1, .ref 20), (2, .int t), (3, .int ((Int32.ofNat i) + (1 : Int32)))] (q_sub.cons rfl (q_sub.cons rfl (q_sub.cons rfl (q_sub.cons rfl q_sub.nil)))) ?_
        rw [q_succ]
        exact hno (fun z => by unfold s_gc at z; rw [e1, e2, hw] at z; exact z.2.1.2.2.1 hc6)
      · refine q_step 3 159 [(0, .ref 28), (1, .ref 20), (2, .int t), (3, .int (Int32.ofNat i)), (4, .int ((X i) + (1 : Int32))), (5, .int ((Y i) + (0 : Int32))), (6, .int ((((Y i) + (0 : Int32)) * (g 20 0)) + ((X i) + (1 : Int32))))] [.int (g 20 1), .int ((Y i) + (0 : Int32))] (s_M4 21 c X Y wn g) u (fun big n0 => sg_mv_20 big n0 (s_M4 21 c X Y wn g) u t (Int32.ofNat i) ((X i) + (1 : Int32)) ((Y i) + (0 : Int32)) ((((Y i) + (0 : Int32)) * (g 20 0)) + ((X i) + (1 : Int32)))) ?_
        refine q_ic_ge rfl (fun (hc7 : (g 20 1) ≤ ((Y i) + (0 : Int32))) => ?_) (fun (hc7 : ¬ ((g 20 1) ≤ ((Y i) + (0 : Int32)))) => ?_)
        · refine q_step 5 174 [(0, .ref 28), (1, .ref 20), (2, .int t), (3, .int (Int32.ofNat i)), (4, .int ((X i) + (1 : Int32))), (5, .int ((Y i) + (0 : Int32))), (6, .int ((((Y i) + (0 : Int32)) * (g 20 0)) + ((X i) + (1 : Int32)))), (7, .int (0 : Int32))] [.int (Int32.ofNat i), .ref 33] (s_M4 21 c X Y wn g) u (fun big n0 => sg_mv_15 big n0 (s_M4 21 c X Y wn g) u t (Int32.ofNat i) ((X i) + (1 : Int32)) ((Y i) + (0 : Int32)) ((((Y i) + (0 : Int32)) * (g 20 0)) + ((X i) + (1 : Int32)))) ?_
          refine q_iald (j := i) (q_ixn (by omega) (by omega)) rfl rfl ?_
          refine q_step 1 176 [(0, .ref 28), (1, .ref 20), (2, .int t), (3, .int (Int32.ofNat i)), (4, .int ((X i) + (1 : Int32))), (5, .int ((Y i) + (0 : Int32))), (6, .int ((((Y i) + (0 : Int32)) * (g 20 0)) + ((X i) + (1 : Int32)))), (7, .int (0 : Int32))] [.int (4 : Int32), .int (g 33 i)] (s_M4 21 c X Y wn g) u (fun big n0 => sg_mv_16 big n0 (s_M4 21 c X Y wn g) u t (Int32.ofNat i) ((X i) + (1 : Int32)) ((Y i) + (0 : Int32)) ((((Y i) + (0 : Int32)) * (g 20 0)) + ((X i) + (1 : Int32))) (g 33 i)) ?_
          refine q_ic_eq rfl (fun hc8 => absurd (show (g 33 i) = (4 : Int32) from hc8) (by rw [hw]; decide)) (fun (hc8 : ¬ ((g 33 i) = (4 : Int32))) => ?_)
          refine q_step 4 39 [(0, .ref 28), (1, .ref 20), (2, .int t), (3, .int ((Int32.ofNat i) + (1 : Int32))), (4, .int ((X i) + (1 : Int32))), (5, .int ((Y i) + (0 : Int32))), (6, .int ((((Y i) + (0 : Int32)) * (g 20 0)) + ((X i) + (1 : Int32)))), (7, .int (0 : Int32))] [] (s_M4 21 c X Y wn g) u (fun big n0 => sg_mv_17 big n0 (s_M4 21 c X Y wn g) u t (Int32.ofNat i) ((X i) + (1 : Int32)) ((Y i) + (0 : Int32)) ((((Y i) + (0 : Int32)) * (g 20 0)) + ((X i) + (1 : Int32)))) ?_
          refine q_weak [(0, .ref 28), (1, .ref 20), (2, .int t), (3, .int ((Int32.ofNat i) + (1 : Int32)))] (q_sub.cons rfl (q_sub.cons rfl (q_sub.cons rfl (q_sub.cons rfl q_sub.nil)))) ?_
          rw [q_succ]
          exact hno (fun z => by unfold s_gc at z; rw [e1, e2, hw] at z; exact z.2.1.2.2.2 hc7)
        · refine q_step 6 174 [(0, .ref 28), (1, .ref 20), (2, .int t), (3, .int (Int32.ofNat i)), (4, .int ((X i) + (1 : Int32))), (5, .int ((Y i) + (0 : Int32))), (6, .int ((((Y i) + (0 : Int32)) * (g 20 0)) + ((X i) + (1 : Int32)))), (7, .int (1 : Int32))] [.int (Int32.ofNat i), .ref 33] (s_M4 21 c X Y wn g) u (fun big n0 => sg_mv_21 big n0 (s_M4 21 c X Y wn g) u t (Int32.ofNat i) ((X i) + (1 : Int32)) ((Y i) + (0 : Int32)) ((((Y i) + (0 : Int32)) * (g 20 0)) + ((X i) + (1 : Int32)))) ?_
          refine q_iald (j := i) (q_ixn (by omega) (by omega)) rfl rfl ?_
          refine q_step 1 176 [(0, .ref 28), (1, .ref 20), (2, .int t), (3, .int (Int32.ofNat i)), (4, .int ((X i) + (1 : Int32))), (5, .int ((Y i) + (0 : Int32))), (6, .int ((((Y i) + (0 : Int32)) * (g 20 0)) + ((X i) + (1 : Int32)))), (7, .int (1 : Int32))] [.int (4 : Int32), .int (g 33 i)] (s_M4 21 c X Y wn g) u (fun big n0 => sg_mv_22 big n0 (s_M4 21 c X Y wn g) u t (Int32.ofNat i) ((X i) + (1 : Int32)) ((Y i) + (0 : Int32)) ((((Y i) + (0 : Int32)) * (g 20 0)) + ((X i) + (1 : Int32))) (g 33 i)) ?_
          refine q_ic_eq rfl (fun hc8 => absurd (show (g 33 i) = (4 : Int32) from hc8) (by rw [hw]; decide)) (fun (hc8 : ¬ ((g 33 i) = (4 : Int32))) => ?_)
          refine q_step 7 190 [(0, .ref 28), (1, .ref 20), (2, .int t), (3, .int (Int32.ofNat i)), (4, .int ((X i) + (1 : Int32))), (5, .int ((Y i) + (0 : Int32))), (6, .int ((((Y i) + (0 : Int32)) * (g 20 0)) + ((X i) + (1 : Int32)))), (7, .int (1 : Int32))] [.int ((t >>> (((((Y i) + (0 : Int32)) * (g 20 0)) + ((X i) + (1 : Int32))) &&& 31)) &&& (1 : Int32))] (s_M4 21 c X Y wn g) u (fun big n0 => sg_mv_23 big n0 (s_M4 21 c X Y wn g) u t (Int32.ofNat i) ((X i) + (1 : Int32)) ((Y i) + (0 : Int32)) ((((Y i) + (0 : Int32)) * (g 20 0)) + ((X i) + (1 : Int32)))) ?_
          refine q_if_ne rfl (fun (hc9 : ((t >>> (((((Y i) + (0 : Int32)) * (g 20 0)) + ((X i) + (1 : Int32))) &&& 31)) &&& (1 : Int32)) = 0) => ?_) (fun (hc9 : ¬ (((t >>> (((((Y i) + (0 : Int32)) * (g 20 0)) + ((X i) + (1 : Int32))) &&& 31)) &&& (1 : Int32)) = 0)) => ?_)
          · refine q_step 5 200 [(0, .ref 28), (1, .ref 20), (2, .int t), (3, .int (Int32.ofNat i)), (4, .int ((X i) + (1 : Int32))), (5, .int ((Y i) + (0 : Int32))), (6, .int ((((Y i) + (0 : Int32)) * (g 20 0)) + ((X i) + (1 : Int32)))), (7, .int (1 : Int32))] [.int (Int32.ofNat i), .ref 21, .int (1 : Int32), .int t] (s_M4 21 c X Y wn g) u (fun big n0 => sg_mv_24 big n0 (s_M4 21 c X Y wn g) u t (Int32.ofNat i) ((X i) + (1 : Int32)) ((Y i) + (0 : Int32)) ((((Y i) + (0 : Int32)) * (g 20 0)) + ((X i) + (1 : Int32)))) ?_
            refine q_iald (j := i) (q_ixn (by omega) (by omega)) rfl rfl ?_
            refine q_step 13 218 [(0, .ref 28), (1, .ref 20), (2, .int ((t &&& (((1 : Int32) <<< ((c i) &&& 31)) ^^^ (Int32.ofInt (-1)))) ||| ((1 : Int32) <<< (((((Y i) + (0 : Int32)) * (g 20 0)) + ((X i) + (1 : Int32))) &&& 31)))), (3, .int (Int32.ofNat i)), (4, .int ((X i) + (1 : Int32))), (5, .int ((Y i) + (0 : Int32))), (6, .int ((((Y i) + (0 : Int32)) * (g 20 0)) + ((X i) + (1 : Int32)))), (7, .int (1 : Int32))] [.int ((((Y i) + (0 : Int32)) * (g 20 0)) + ((X i) + (1 : Int32))), .int (Int32.ofNat i), .ref 21] (s_M4 21 c X Y wn g) u (fun big n0 => sg_mv_25 big n0 (s_M4 21 c X Y wn g) u t (Int32.ofNat i) ((X i) + (1 : Int32)) ((Y i) + (0 : Int32)) ((((Y i) + (0 : Int32)) * (g 20 0)) + ((X i) + (1 : Int32))) t (c i)) ?_
            refine q_iast (j := i) (q_ixn (by omega) (by omega)) rfl rfl ?_
            refine q_step 4 226 [(0, .ref 28), (1, .ref 20), (2, .int ((t &&& (((1 : Int32) <<< ((c i) &&& 31)) ^^^ (Int32.ofInt (-1)))) ||| ((1 : Int32) <<< (((((Y i) + (0 : Int32)) * (g 20 0)) + ((X i) + (1 : Int32))) &&& 31)))), (3, .int (Int32.ofNat i)), (4, .int ((X i) + (1 : Int32))), (5, .int ((Y i) + (0 : Int32))), (6, .int ((((Y i) + (0 : Int32)) * (g 20 0)) + ((X i) + (1 : Int32)))), (7, .int (1 : Int32))] [.int ((X i) + (1 : Int32)), .int (Int32.ofNat i), .ref 29] (q_up (s_M4 21 c X Y wn g) 21 i ((((Y i) + (0 : Int32)) * (g 20 0)) + ((X i) + (1 : Int32)))) u (fun big n0 => sg_mv_26 big n0 (q_up (s_M4 21 c X Y wn g) 21 i ((((Y i) + (0 : Int32)) * (g 20 0)) + ((X i) + (1 : Int32)))) u ((t &&& (((1 : Int32) <<< ((c i) &&& 31)) ^^^ (Int32.ofInt (-1)))) ||| ((1 : Int32) <<< (((((Y i) + (0 : Int32)) * (g 20 0)) + ((X i) + (1 : Int32))) &&& 31))) (Int32.ofNat i) ((X i) + (1 : Int32)) ((Y i) + (0 : Int32)) ((((Y i) + (0 : Int32)) * (g 20 0)) + ((X i) + (1 : Int32)))) ?_
            refine q_iast (j := i) (q_ixn (by omega) (by omega)) rfl rfl ?_
            refine q_step 4 234 [(0, .ref 28), (1, .ref 20), (2, .int ((t &&& (((1 : Int32) <<< ((c i) &&& 31)) ^^^ (Int32.ofInt (-1)))) ||| ((1 : Int32) <<< (((((Y i) + (0 : Int32)) * (g 20 0)) + ((X i) + (1 : Int32))) &&& 31)))), (3, .int (Int32.ofNat i)), (4, .int ((X i) + (1 : Int32))), (5, .int ((Y i) + (0 : Int32))), (6, .int ((((Y i) + (0 : Int32)) * (g 20 0)) + ((X i) + (1 : Int32)))), (7, .int (1 : Int32))] [.int ((Y i) + (0 : Int32)), .int (Int32.ofNat i), .ref 30] (q_up (q_up (s_M4 21 c X Y wn g) 21 i ((((Y i) + (0 : Int32)) * (g 20 0)) + ((X i) + (1 : Int32)))) 29 i ((X i) + (1 : Int32))) u (fun big n0 => sg_mv_27 big n0 (q_up (q_up (s_M4 21 c X Y wn g) 21 i ((((Y i) + (0 : Int32)) * (g 20 0)) + ((X i) + (1 : Int32)))) 29 i ((X i) + (1 : Int32))) u ((t &&& (((1 : Int32) <<< ((c i) &&& 31)) ^^^ (Int32.ofInt (-1)))) ||| ((1 : Int32) <<< (((((Y i) + (0 : Int32)) * (g 20 0)) + ((X i) + (1 : Int32))) &&& 31))) (Int32.ofNat i) ((X i) + (1 : Int32)) ((Y i) + (0 : Int32)) ((((Y i) + (0 : Int32)) * (g 20 0)) + ((X i) + (1 : Int32)))) ?_
            refine q_iast (j := i) (q_ixn (by omega) (by omega)) rfl rfl ?_
            refine q_step 10 39 [(0, .ref 28), (1, .ref 20), (2, .int ((t &&& (((1 : Int32) <<< ((c i) &&& 31)) ^^^ (Int32.ofInt (-1)))) ||| ((1 : Int32) <<< (((((Y i) + (0 : Int32)) * (g 20 0)) + ((X i) + (1 : Int32))) &&& 31)))), (3, .int ((Int32.ofNat i) + (1 : Int32))), (4, .int ((X i) + (1 : Int32))), (5, .int ((Y i) + (0 : Int32))), (6, .int ((((Y i) + (0 : Int32)) * (g 20 0)) + ((X i) + (1 : Int32)))), (7, .int (1 : Int32))] [] (q_up (q_up (q_up (q_up (s_M4 21 c X Y wn g) 21 i ((((Y i) + (0 : Int32)) * (g 20 0)) + ((X i) + (1 : Int32)))) 29 i ((X i) + (1 : Int32))) 30 i ((Y i) + (0 : Int32))) 28 5 (((s_M4 21 c X Y wn g) 28 5) ||| ((1 : Int32) <<< ((Int32.ofNat i) &&& 31)))) u (fun big n0 => sg_mv_28 big n0 (q_up (q_up (q_up (s_M4 21 c X Y wn g) 21 i ((((Y i) + (0 : Int32)) * (g 20 0)) + ((X i) + (1 : Int32)))) 29 i ((X i) + (1 : Int32))) 30 i ((Y i) + (0 : Int32))) u ((t &&& (((1 : Int32) <<< ((c i) &&& 31)) ^^^ (Int32.ofInt (-1)))) ||| ((1 : Int32) <<< (((((Y i) + (0 : Int32)) * (g 20 0)) + ((X i) + (1 : Int32))) &&& 31))) (Int32.ofNat i) ((X i) + (1 : Int32)) ((Y i) + (0 : Int32)) ((((Y i) + (0 : Int32)) * (g 20 0)) + ((X i) + (1 : Int32)))) ?_
            refine q_weak [(0, .ref 28), (1, .ref 20), (2, .int ((t &&& (((1 : Int32) <<< ((c i) &&& 31)) ^^^ (Int32.ofInt (-1)))) ||| ((1 : Int32) <<< (((((Y i) + (0 : Int32)) * (g 20 0)) + ((X i) + (1 : Int32))) &&& 31)))), (3, .int ((Int32.ofNat i) + (1 : Int32)))] (q_sub.cons rfl (q_sub.cons rfl (q_sub.cons rfl (q_sub.cons rfl q_sub.nil)))) ?_
            rw [s_M4_c, s_M4_x (by decide), s_M4_y (by decide), s_M4_w (by decide), q_succ]
            exact hgo (by unfold s_gc; rw [e1, e2, hw]; exact ⟨by decide, ⟨hc4, hc5, hc6, hc7⟩, hc9⟩)
          · refine q_step 2 39 [(0, .ref 28), (1, .ref 20), (2, .int t), (3, .int ((Int32.ofNat i) + (1 : Int32))), (4, .int ((X i) + (1 : Int32))), (5, .int ((Y i) + (0 : Int32))), (6, .int ((((Y i) + (0 : Int32)) * (g 20 0)) + ((X i) + (1 : Int32)))), (7, .int (1 : Int32))] [] (s_M4 21 c X Y wn g) u (fun big n0 => sg_mv_29 big n0 (s_M4 21 c X Y wn g) u t (Int32.ofNat i) ((X i) + (1 : Int32)) ((Y i) + (0 : Int32)) ((((Y i) + (0 : Int32)) * (g 20 0)) + ((X i) + (1 : Int32)))) ?_
            refine q_weak [(0, .ref 28), (1, .ref 20), (2, .int t), (3, .int ((Int32.ofNat i) + (1 : Int32)))] (q_sub.cons rfl (q_sub.cons rfl (q_sub.cons rfl (q_sub.cons rfl q_sub.nil)))) ?_
            rw [q_succ]
            exact hno (fun z => by unfold s_gc at z; rw [e1, e2, hw] at z; exact hc9 z.2.2)
theorem mb_20_2 (g : qM) (u : qW) {Q : Option Value × qM × qW → Prop} {n i : Nat} (hn : g 20 3 = Int32.ofNat n) (h6 : n ≤ 6) (hi : i < n) (hw : g 33 i = 2) {c X Y : Nat → Int32} {t wn : Int32} (hgo : s_gc (g 20 0) (g 20 1) (g 33 i) (X i) (Y i) t → q_EV m_69 39 [(0, .ref 28), (1, .ref 20), (2, .int ((t &&& (((1 : Int32) <<< (c i &&& 31)) ^^^ Int32.ofInt (-1))) ||| ((1 : Int32) <<< (((Y i + s_cy (g 33 i)) * (g 20 0) + (X i + s_cx (g 33 i))) &&& 31)))), (3, .int (Int32.ofNat (i + 1)))] [] (s_M4 21 (s_set c i ((Y i + s_cy (g 33 i)) * (g 20 0) + (X i + s_cx (g 33 i)))) (s_set X i (X i + s_cx (g 33 i))) (s_set Y i (Y i + s_cy (g 33 i))) (wn ||| ((1 : Int32) <<< (Int32.ofNat i &&& 31))) g) u Q) (hno : ¬ s_gc (g 20 0) (g 20 1) (g 33 i) (X i) (Y i) t → q_EV m_69 39 [(0, .ref 28), (1, .ref 20), (2, .int t), (3, .int (Int32.ofNat (i + 1)))] [] (s_M4 21 c X Y wn g) u Q) : q_EV m_69 39 [(0, .ref 28), (1, .ref 20), (2, .int t), (3, .int (Int32.ofNat i))] [] (s_M4 21 c X Y wn g) u Q := by
  have e1 : s_cx (g 33 i) = (0 : Int32) := by rw [hw]; rfl
  have e2 : s_cy (g 33 i) = (1 : Int32) := by rw [hw]; rfl
  rw [e1, e2] at hgo
  refine q_step 3 44 [(0, .ref 28), (1, .ref 20), (2, .int t), (3, .int (Int32.ofNat i))] [.int (g 20 3), .int (Int32.ofNat i)] (s_M4 21 c X Y wn g) u (fun big n0 => sg_mv_4 big n0 (s_M4 21 c X Y wn g) u t (Int32.ofNat i)) ?_
  refine q_ic_ge rfl (fun hc0 => absurd (show (g 20 3) ≤ (Int32.ofNat i) from hc0) (fun z => by rw [hn, q_le (by omega) (by omega)] at z; omega)) (fun (hc0 : ¬ ((g 20 3) ≤ (Int32.ofNat i))) => ?_)
  refine q_step 3 52 [(0, .ref 28), (1, .ref 20), (2, .int t), (3, .int (Int32.ofNat i))] [.int (Int32.ofNat i), .ref 29] (s_M4 21 c X Y wn g) u (fun big n0 => sg_mv_5 big n0 (s_M4 21 c X Y wn g) u t (Int32.ofNat i)) ?_
  refine q_iald (j := i) (q_ixn (by omega) (by omega)) rfl rfl ?_
  refine q_step 3 58 [(0, .ref 28), (1, .ref 20), (2, .int t), (3, .int (Int32.ofNat i))] [.int (Int32.ofNat i), .ref 33, .int (X i)] (s_M4 21 c X Y wn g) u (fun big n0 => sg_mv_6 big n0 (s_M4 21 c X Y wn g) u t (Int32.ofNat i) (X i)) ?_
  refine q_iald (j := i) (q_ixn (by omega) (by omega)) rfl rfl ?_
  refine q_step 1 60 [(0, .ref 28), (1, .ref 20), (2, .int t), (3, .int (Int32.ofNat i))] [.int (1 : Int32), .int (g 33 i), .int (X i)] (s_M4 21 c X Y wn g) u (fun big n0 => sg_mv_7 big n0 (s_M4 21 c X Y wn g) u t (Int32.ofNat i) (X i) (g 33 i)) ?_
  refine q_ic_ne rfl (fun hc1 => absurd (show (g 33 i) = (1 : Int32) from hc1) (by rw [hw]; decide)) (fun (hc1 : ¬ ((g 33 i) = (1 : Int32))) => ?_)
  refine q_step 3 72 [(0, .ref 28), (1, .ref 20), (2, .int t), (3, .int (Int32.ofNat i))] [.int (Int32.ofNat i), .ref 33, .int (X i)] (s_M4 21 c X Y wn g) u (fun big n0 => sg_mv_8 big n0 (s_M4 21 c X Y wn g) u t (Int32.ofNat i) (X i)) ?_
  refine q_iald (j := i) (q_ixn (by omega) (by omega)) rfl rfl ?_
  refine q_step 1 74 [(0, .ref 28), (1, .ref 20), (2, .int t), (3, .int (Int32.ofNat i))] [.int (3 : Int32), .int (g 33 i), .int (X i)] (s_M4 21 c X Y wn g) u (fun big n0 => sg_mv_9 big n0 (s_M4 21 c X Y wn g) u t (Int32.ofNat i) (X i) (g 33 i)) ?_
  refine q_ic_ne rfl (fun hc2 => absurd (show (g 33 i) = (3 : Int32) from hc2) (by rw [hw]; decide)) (fun (hc2 : ¬ ((g 33 i) = (3 : Int32))) => ?_)
  refine q_step 6 90 [(0, .ref 28), (1, .ref 20), (2, .int t), (3, .int (Int32.ofNat i)), (4, .int ((X i) + (0 : Int32)))] [.int (Int32.ofNat i), .ref 30] (s_M4 21 c X Y wn g) u (fun big n0 => sg_mv_10 big n0 (s_M4 21 c X Y wn g) u t (Int32.ofNat i) (X i)) ?_
  refine q_iald (j := i) (q_ixn (by omega) (by omega)) rfl rfl ?_
  refine q_step 3 96 [(0, .ref 28), (1, .ref 20), (2, .int t), (3, .int (Int32.ofNat i)), (4, .int ((X i) + (0 : Int32)))] [.int (Int32.ofNat i), .ref 33, .int (Y i)] (s_M4 21 c X Y wn g) u (fun big n0 => sg_mv_11 big n0 (s_M4 21 c X Y wn g) u t (Int32.ofNat i) ((X i) + (0 : Int32)) (Y i)) ?_
  refine q_iald (j := i) (q_ixn (by omega) (by omega)) rfl rfl ?_
  refine q_step 1 98 [(0, .ref 28), (1, .ref 20), (2, .int t), (3, .int (Int32.ofNat i)), (4, .int ((X i) + (0 : Int32)))] [.int (2 : Int32), .int (g 33 i), .int (Y i)] (s_M4 21 c X Y wn g) u (fun big n0 => sg_mv_12 big n0 (s_M4 21 c X Y wn g) u t (Int32.ofNat i) ((X i) + (0 : Int32)) (Y i) (g 33 i)) ?_
  refine q_ic_ne rfl (fun (hc3 : (g 33 i) = (2 : Int32)) => ?_) (fun hc3 => absurd (show (g 33 i) = (2 : Int32) from hw) hc3)
  refine q_step 12 136 [(0, .ref 28), (1, .ref 20), (2, .int t), (3, .int (Int32.ofNat i)), (4, .int ((X i) + (0 : Int32))), (5, .int ((Y i) + (1 : Int32))), (6, .int ((((Y i) + (1 : Int32)) * (g 20 0)) + ((X i) + (0 : Int32))))] [.int ((X i) + (0 : Int32))] (s_M4 21 c X Y wn g) u (fun big n0 => sg_mv_32 big n0 (s_M4 21 c X Y wn g) u t (Int32.ofNat i) ((X i) + (0 : Int32)) (Y i)) ?_
  refine q_if_lt rfl (fun (hc4 : ((X i) + (0 : Int32)) < 0) => ?_) (fun (hc4 : ¬ (((X i) + (0 : Int32)) < 0)) => ?_)
  · refine q_step 5 174 [(0, .ref 28), (1, .ref 20), (2, .int t), (3, .int (Int32.ofNat i)), (4, .int ((X i) + (0 : Int32))), (5, .int ((Y i) + (1 : Int32))), (6, .int ((((Y i) + (1 : Int32)) * (g 20 0)) + ((X i) + (0 : Int32)))), (7, .int (0 : Int32))] [.int (Int32.ofNat i), .ref 33] (s_M4 21 c X Y wn g) u (fun big n0 => sg_mv_15 big n0 (s_M4 21 c X Y wn g) u t (Int32.ofNat i) ((X i) + (0 : Int32)) ((Y i) + (1 : Int32)) ((((Y i) + (1 : Int32)) * (g 20 0)) + ((X i) + (0 : Int32)))) ?_
    refine q_iald (j := i) (q_ixn (by omega) (by omega)) rfl rfl ?_
    refine q_step 1 176 [(0, .ref 28), (1, .ref 20), (2, .int t), (3, .int (Int32.ofNat i)), (4, .int ((X i) + (0 : Int32))), (5, .int ((Y i) + (1 : Int32))), (6, .int ((((Y i) + (1 : Int32)) * (g 20 0)) + ((X i) + (0 : Int32)))), (7, .int (0 : Int32))] [.int (4 : Int32), .int (g 33 i)] (s_M4 21 c X Y wn g) u (fun big n0 => sg_mv_16 big n0 (s_M4 21 c X Y wn g) u t (Int32.ofNat i) ((X i) + (0 : Int32)) ((Y i) + (1 : Int32)) ((((Y i) + (1 : Int32)) * (g 20 0)) + ((X i) + (0 : Int32))) (g 33 i)) ?_
    refine q_ic_eq rfl (fun hc5 => absurd (show (g 33 i) = (4 : Int32) from hc5) (by rw [hw]; decide)) (fun (hc5 : ¬ ((g 33 i) = (4 : Int32))) => ?_)
    refine q_step 4 39 [(0, .ref 28), (1, .ref 20), (2, .int t), (3, .int ((Int32.ofNat i) + (1 : Int32))), (4, .int ((X i) + (0 : Int32))), (5, .int ((Y i) + (1 : Int32))), (6, .int ((((Y i) + (1 : Int32)) * (g 20 0)) + ((X i) + (0 : Int32)))), (7, .int (0 : Int32))] [] (s_M4 21 c X Y wn g) u (fun big n0 => sg_mv_17 big n0 (s_M4 21 c X Y wn g) u t (Int32.ofNat i) ((X i) + (0 : Int32)) ((Y i) + (1 : Int32)) ((((Y i) + (1 : Int32)) * (g 20 0)) + ((X i) + (0 : Int32)))) ?_
    refine q_weak [(0, .ref 28), (1, .ref 20), (2, .int t), (3, .int ((Int32.ofNat i) + (1 : Int32)))] (q_sub.cons rfl (q_sub.cons rfl (q_sub.cons rfl (q_sub.cons rfl q_sub.nil)))) ?_
    rw [q_succ]
    exact hno (fun z => by unfold s_gc at z; rw [e1, e2, hw] at z; exact z.2.1.1 hc4)
  · refine q_step 3 145 [(0, .ref 28), (1, .ref 20), (2, .int t), (3, .int (Int32.ofNat i)), (4, .int ((X i) + (0 : Int32))), (5, .int ((Y i) + (1 : Int32))), (6, .int ((((Y i) + (1 : Int32)) * (g 20 0)) + ((X i) + (0 : Int32))))] [.int (g 20 0), .int ((X i) + (0 : Int32))] (s_M4 21 c X Y wn g) u (fun big n0 => sg_mv_18 big n0 (s_M4 21 c X Y wn g) u t (Int32.ofNat i) ((X i) + (0 : Int32)) ((Y i) + (1 : Int32)) ((((Y i) + (1 : Int32)) * (g 20 0)) + ((X i) + (0 : Int32)))) ?_
    refine q_ic_ge rfl (fun (hc5 : (g 20 0) ≤ ((X i) + (0 : Int32))) => ?_) (fun (hc5 : ¬ ((g 20 0) ≤ ((X i) + (0 : Int32)))) => ?_)
    · refine q_step 5 174 [(0, .ref 28), (1, .ref 20), (2, .int t), (3, .int (Int32.ofNat i)), (4, .int ((X i) + (0 : Int32))), (5, .int ((Y i) + (1 : Int32))), (6, .int ((((Y i) + (1 : Int32)) * (g 20 0)) + ((X i) + (0 : Int32)))), (7, .int (0 : Int32))] [.int (Int32.ofNat i), .ref 33] (s_M4 21 c X Y wn g) u (fun big n0 => sg_mv_15 big n0 (s_M4 21 c X Y wn g) u t (Int32.ofNat i) ((X i) + (0 : Int32)) ((Y i) + (1 : Int32)) ((((Y i) + (1 : Int32)) * (g 20 0)) + ((X i) + (0 : Int32)))) ?_
      refine q_iald (j := i) (q_ixn (by omega) (by omega)) rfl rfl ?_
      refine q_step 1 176 [(0, .ref 28), (1, .ref 20), (2, .int t), (3, .int (Int32.ofNat i)), (4, .int ((X i) + (0 : Int32))), (5, .int ((Y i) + (1 : Int32))), (6, .int ((((Y i) + (1 : Int32)) * (g 20 0)) + ((X i) + (0 : Int32)))), (7, .int (0 : Int32))] [.int (4 : Int32), .int (g 33 i)] (s_M4 21 c X Y wn g) u (fun big n0 => sg_mv_16 big n0 (s_M4 21 c X Y wn g) u t (Int32.ofNat i) ((X i) + (0 : Int32)) ((Y i) + (1 : Int32)) ((((Y i) + (1 : Int32)) * (g 20 0)) + ((X i) + (0 : Int32))) (g 33 i)) ?_
      refine q_ic_eq rfl (fun hc6 => absurd (show (g 33 i) = (4 : Int32) from hc6) (by rw [hw]; decide)) (fun (hc6 : ¬ ((g 33 i) = (4 : Int32))) => ?_)
      refine q_step 4 39 [(0, .ref 28), (1, .ref 20), (2, .int t), (3, .int ((Int32.ofNat i) + (1 : Int32))), (4, .int ((X i) + (0 : Int32))), (5, .int ((Y i) + (1 : Int32))), (6, .int ((((Y i) + (1 : Int32)) * (g 20 0)) + ((X i) + (0 : Int32)))), (7, .int (0 : Int32))] [] (s_M4 21 c X Y wn g) u (fun big n0 => sg_mv_17 big n0 (s_M4 21 c X Y wn g) u t (Int32.ofNat i) ((X i) + (0 : Int32)) ((Y i) + (1 : Int32)) ((((Y i) + (1 : Int32)) * (g 20 0)) + ((X i) + (0 : Int32)))) ?_
      refine q_weak [(0, .ref 28), (1, .ref 20), (2, .int t), (3, .int ((Int32.ofNat i) + (1 : Int32)))] (q_sub.cons rfl (q_sub.cons rfl (q_sub.cons rfl (q_sub.cons rfl q_sub.nil)))) ?_
      rw [q_succ]
      exact hno (fun z => by unfold s_gc at z; rw [e1, e2, hw] at z; exact z.2.1.2.1 hc5)
    · refine q_step 1 150 [(0, .ref 28), (1, .ref 20), (2, .int t), (3, .int (Int32.ofNat i)), (4, .int ((X i) + (0 : Int32))), (5, .int ((Y i) + (1 : Int32))), (6, .int ((((Y i) + (1 : Int32)) * (g 20 0)) + ((X i) + (0 : Int32))))] [.int ((Y i) + (1 : Int32))] (s_M4 21 c X Y wn g) u (fun big n0 => sg_mv_19 big n0 (s_M4 21 c X Y wn g) u t (Int32.ofNat i) ((X i) + (0 : Int32)) ((Y i) + (1 : Int32)) ((((Y i) + (1 : Int32)) * (g 20 0)) + ((X i) + (0 : Int32)))) ?_
      refine q_if_lt rfl (fun (hc6 : ((Y i) + (1 : Int32)) < 0) => ?_) (fun (hc6 : ¬ (((Y i) + (1 : Int32)) < 0)) => ?_)
      · refine q_step 5 174 [(0, .ref 28), (1, .ref 20), (2, .int t), (3, .int (Int32.ofNat i)), (4, .int ((X i) + (0 : Int32))), (5, .int ((Y i) + (1 : Int32))), (6, .int ((((Y i) + (1 : Int32)) * (g 20 0)) + ((X i) + (0 : Int32)))), (7, .int (0 : Int32))] [.int (Int32.ofNat i), .ref 33] (s_M4 21 c X Y wn g) u (fun big n0 => sg_mv_15 big n0 (s_M4 21 c X Y wn g) u t (Int32.ofNat i) ((X i) + (0 : Int32)) ((Y i) + (1 : Int32)) ((((Y i) + (1 : Int32)) * (g 20 0)) + ((X i) + (0 : Int32)))) ?_
        refine q_iald (j := i) (q_ixn (by omega) (by omega)) rfl rfl ?_
        refine q_step 1 176 [(0, .ref 28), (1, .ref 20), (2, .int t), (3, .int (Int32.ofNat i)), (4, .int ((X i) + (0 : Int32))), (5, .int ((Y i) + (1 : Int32))), (6, .int ((((Y i) + (1 : Int32)) * (g 20 0)) + ((X i) + (0 : Int32)))), (7, .int (0 : Int32))] [.int (4 : Int32), .int (g 33 i)] (s_M4 21 c X Y wn g) u (fun big n0 => sg_mv_16 big n0 (s_M4 21 c X Y wn g) u t (Int32.ofNat i) ((X i) + (0 : Int32)) ((Y i) + (1 : Int32)) ((((Y i) + (1 : Int32)) * (g 20 0)) + ((X i) + (0 : Int32))) (g 33 i)) ?_
        refine q_ic_eq rfl (fun hc7 => absurd (show (g 33 i) = (4 : Int32) from hc7) (by rw [hw]; decide)) (fun (hc7 : ¬ ((g 33 i) = (4 : Int32))) => ?_)
        refine q_step 4 39 [(0, .ref 28), (1, .ref 20), (2, .int t), (3, .int ((Int32.ofNat i) + (1 : Int32))), (4, .int ((X i) + (0 : Int32))), (5, .int ((Y i) + (1 : Int32))), (6, .int ((((Y i) + (1 : Int32)) * (g 20 0)) + ((X i) + (0 : Int32)))), (7, .int (0 : Int32))] [] (s_M4 21 c X Y wn g) u (fun big n0 => sg_mv_17 big n0 (s_M4 21 c X Y wn g) u t (Int32.ofNat i) ((X i) + (0 : Int32)) ((Y i) + (1 : Int32)) ((((Y i) + (1 : Int32)) * (g 20 0)) + ((X i) + (0 : Int32)))) ?_
        refine q_weak [(0, .ref 28), (1, .ref 20), (2, .int t), (3, .int ((Int32.ofNat i) + (1 : Int32)))] (q_sub.cons rfl (q_sub.cons rfl (q_sub.cons rfl (q_sub.cons rfl q_sub.nil)))) ?_
        rw [q_succ]
        exact hno (fun z => by unfold s_gc at z; rw [e1, e2, hw] at z; exact z.2.1.2.2.1 hc6)
      · refine q_step 3 159 [(0, .ref 28), (1, .ref 20), (2, .int t), (3, .int (Int32.ofNat i)), (4, .int ((X i) + (0 : Int32))), (5, .int ((Y i) + (1 : Int32))), (6, .int ((((Y i) + (1 : Int32)) * (g 20 0)) + ((X i) + (0 : Int32))))] [.int (g 20 1), .int ((Y i) + (1 : Int32))] (s_M4 21 c X Y wn g) u (fun big n0 => sg_mv_20 big n0 (s_M4 21 c X Y wn g) u t (Int32.ofNat i) ((X i) + (0 : Int32)) ((Y i) + (1 : Int32)) ((((Y i) + (1 : Int32)) * (g 20 0)) + ((X i) + (0 : Int32)))) ?_
        refine q_ic_ge rfl (fun (hc7 : (g 20 1) ≤ ((Y i) + (1 : Int32))) => ?_) (fun (hc7 : ¬ ((g 20 1) ≤ ((Y i) + (1 : Int32)))) => ?_)
        · refine q_step 5 174 [(0, .ref 28), (1, .ref 20), (2, .int t), (3, .int (Int32.ofNat i)), (4, .int ((X i) + (0 : Int32))), (5, .int ((Y i) + (1 : Int32))), (6, .int ((((Y i) + (1 : Int32)) * (g 20 0)) + ((X i) + (0 : Int32)))), (7, .int (0 : Int32))] [.int (Int32.ofNat i), .ref 33] (s_M4 21 c X Y wn g) u (fun big n0 => sg_mv_15 big n0 (s_M4 21 c X Y wn g) u t (Int32.ofNat i) ((X i) + (0 : Int32)) ((Y i) + (1 : Int32)) ((((Y i) + (1 : Int32)) * (g 20 0)) + ((X i) + (0 : Int32)))) ?_
          refine q_iald (j := i) (q_ixn (by omega) (by omega)) rfl rfl ?_
          refine q_step 1 176 [(0, .ref 28), (1, .ref 20), (2, .int t), (3, .int (Int32.ofNat i)), (4, .int ((X i) + (0 : Int32))), (5, .int ((Y i) + (1 : Int32))), (6, .int ((((Y i) + (1 : Int32)) * (g 20 0)) + ((X i) + (0 : Int32)))), (7, .int (0 : Int32))] [.int (4 : Int32), .int (g 33 i)] (s_M4 21 c X Y wn g) u (fun big n0 => sg_mv_16 big n0 (s_M4 21 c X Y wn g) u t (Int32.ofNat i) ((X i) + (0 : Int32)) ((Y i) + (1 : Int32)) ((((Y i) + (1 : Int32)) * (g 20 0)) + ((X i) + (0 : Int32))) (g 33 i)) ?_
          refine q_ic_eq rfl (fun hc8 => absurd (show (g 33 i) = (4 : Int32) from hc8) (by rw [hw]; decide)) (fun (hc8 : ¬ ((g 33 i) = (4 : Int32))) => ?_)
          refine q_step 4 39 [(0, .ref 28), (1, .ref 20), (2, .int t), (3, .int ((Int32.ofNat i) + (1 : Int32))), (4, .int ((X i) + (0 : Int32))), (5, .int ((Y i) + (1 : Int32))), (6, .int ((((Y i) + (1 : Int32)) * (g 20 0)) + ((X i) + (0 : Int32)))), (7, .int (0 : Int32))] [] (s_M4 21 c X Y wn g) u (fun big n0 => sg_mv_17 big n0 (s_M4 21 c X Y wn g) u t (Int32.ofNat i) ((X i) + (0 : Int32)) ((Y i) + (1 : Int32)) ((((Y i) + (1 : Int32)) * (g 20 0)) + ((X i) + (0 : Int32)))) ?_
          refine q_weak [(0, .ref 28), (1, .ref 20), (2, .int t), (3, .int ((Int32.ofNat i) + (1 : Int32)))] (q_sub.cons rfl (q_sub.cons rfl (q_sub.cons rfl (q_sub.cons rfl q_sub.nil)))) ?_
          rw [q_succ]
          exact hno (fun z => by unfold s_gc at z; rw [e1, e2, hw] at z; exact z.2.1.2.2.2 hc7)
        · refine q_step 6 174 [(0, .ref 28), (1, .ref 20), (2, .int t), (3, .int (Int32.ofNat i)), (4, .int ((X i) + (0 : Int32))), (5, .int ((Y i) + (1 : Int32))), (6, .int ((((Y i) + (1 : Int32)) * (g 20 0)) + ((X i) + (0 : Int32)))), (7, .int (1 : Int32))] [.int (Int32.ofNat i), .ref 33] (s_M4 21 c X Y wn g) u (fun big n0 => sg_mv_21 big n0 (s_M4 21 c X Y wn g) u t (Int32.ofNat i) ((X i) + (0 : Int32)) ((Y i) + (1 : Int32)) ((((Y i) + (1 : Int32)) * (g 20 0)) + ((X i) + (0 : Int32)))) ?_
          refine q_iald (j := i) (q_ixn (by omega) (by omega)) rfl rfl ?_
          refine q_step 1 176 [(0, .ref 28), (1, .ref 20), (2, .int t), (3, .int (Int32.ofNat i)), (4, .int ((X i) + (0 : Int32))), (5, .int ((Y i) + (1 : Int32))), (6, .int ((((Y i) + (1 : Int32)) * (g 20 0)) + ((X i) + (0 : Int32)))), (7, .int (1 : Int32))] [.int (4 : Int32), .int (g 33 i)] (s_M4 21 c X Y wn g) u (fun big n0 => sg_mv_22 big n0 (s_M4 21 c X Y wn g) u t (Int32.ofNat i) ((X i) + (0 : Int32)) ((Y i) + (1 : Int32)) ((((Y i) + (1 : Int32)) * (g 20 0)) + ((X i) + (0 : Int32))) (g 33 i)) ?_
          refine q_ic_eq rfl (fun hc8 => absurd (show (g 33 i) = (4 : Int32) from hc8) (by rw [hw]; decide)) (fun (hc8 : ¬ ((g 33 i) = (4 : Int32))) => ?_)
          refine q_step 7 190 [(0, .ref 28), (1, .ref 20), (2, .int t), (3, .int (Int32.ofNat i)), (4, .int ((X i) + (0 : Int32))), (5, .int ((Y i) + (1 : Int32))), (6, .int ((((Y i) + (1 : Int32)) * (g 20 0)) + ((X i) + (0 : Int32)))), (7, .int (1 : Int32))] [.int ((t >>> (((((Y i) + (1 : Int32)) * (g 20 0)) + ((X i) + (0 : Int32))) &&& 31)) &&& (1 : Int32))] (s_M4 21 c X Y wn g) u (fun big n0 => sg_mv_23 big n0 (s_M4 21 c X Y wn g) u t (Int32.ofNat i) ((X i) + (0 : Int32)) ((Y i) + (1 : Int32)) ((((Y i) + (1 : Int32)) * (g 20 0)) + ((X i) + (0 : Int32)))) ?_
          refine q_if_ne rfl (fun (hc9 : ((t >>> (((((Y i) + (1 : Int32)) * (g 20 0)) + ((X i) + (0 : Int32))) &&& 31)) &&& (1 : Int32)) = 0) => ?_) (fun (hc9 : ¬ (((t >>> (((((Y i) + (1 : Int32)) * (g 20 0)) + ((X i) + (0 : Int32))) &&& 31)) &&& (1 : Int32)) = 0)) => ?_)
          · refine q_step 5 200 [(0, .ref 28), (1, .ref 20), (2, .int t), (3, .int (Int32.ofNat i)), (4, .int ((X i) + (0 : Int32))), (5, .int ((Y i) + (1 : Int32))), (6, .int ((((Y i) + (1 : Int32)) * (g 20 0)) + ((X i) + (0 : Int32)))), (7, .int (1 : Int32))] [.int (Int32.ofNat i), .ref 21, .int (1 : Int32), .int t] (s_M4 21 c X Y wn g) u (fun big n0 => sg_mv_24 big n0 (s_M4 21 c X Y wn g) u t (Int32.ofNat i) ((X i) + (0 : Int32)) ((Y i) + (1 : Int32)) ((((Y i) + (1 : Int32)) * (g 20 0)) + ((X i) + (0 : Int32)))) ?_
            refine q_iald (j := i) (q_ixn (by omega) (by omega)) rfl rfl ?_
            refine q_step 13 218 [(0, .ref 28), (1, .ref 20), (2, .int ((t &&& (((1 : Int32) <<< ((c i) &&& 31)) ^^^ (Int32.ofInt (-1)))) ||| ((1 : Int32) <<< (((((Y i) + (1 : Int32)) * (g 20 0)) + ((X i) + (0 : Int32))) &&& 31)))), (3, .int (Int32.ofNat i)), (4, .int ((X i) + (0 : Int32))), (5, .int ((Y i) + (1 : Int32))), (6, .int ((((Y i) + (1 : Int32)) * (g 20 0)) + ((X i) + (0 : Int32)))), (7, .int (1 : Int32))] [.int ((((Y i) + (1 : Int32)) * (g 20 0)) + ((X i) + (0 : Int32))), .int (Int32.ofNat i), .ref 21] (s_M4 21 c X Y wn g) u (fun big n0 => sg_mv_25 big n0 (s_M4 21 c X Y wn g) u t (Int32.ofNat i) ((X i) + (0 : Int32)) ((Y i) + (1 : Int32)) ((((Y i) + (1 : Int32)) * (g 20 0)) + ((X i) + (0 : Int32))) t (c i)) ?_
            refine q_iast (j := i) (q_ixn (by omega) (by omega)) rfl rfl ?_
            refine q_step 4 226 [(0, .ref 28), (1, .ref 20), (2, .int ((t &&& (((1 : Int32) <<< ((c i) &&& 31)) ^^^ (Int32.ofInt (-1)))) ||| ((1 : Int32) <<< (((((Y i) + (1 : Int32)) * (g 20 0)) + ((X i) + (0 : Int32))) &&& 31)))), (3, .int (Int32.ofNat i)), (4, .int ((X i) + (0 : Int32))), (5, .int ((Y i) + (1 : Int32))), (6, .int ((((Y i) + (1 : Int32)) * (g 20 0)) + ((X i) + (0 : Int32)))), (7, .int (1 : Int32))] [.int ((X i) + (0 : Int32)), .int (Int32.ofNat i), .ref 29] (q_up (s_M4 21 c X Y wn g) 21 i ((((Y i) + (1 : Int32)) * (g 20 0)) + ((X i) + (0 : Int32)))) u (fun big n0 => sg_mv_26 big n0 (q_up (s_M4 21 c X Y wn g) 21 i ((((Y i) + (1 : Int32)) * (g 20 0)) + ((X i) + (0 : Int32)))) u ((t &&& (((1 : Int32) <<< ((c i) &&& 31)) ^^^ (Int32.ofInt (-1)))) ||| ((1 : Int32) <<< (((((Y i) + (1 : Int32)) * (g 20 0)) + ((X i) + (0 : Int32))) &&& 31))) (Int32.ofNat i) ((X i) + (0 : Int32)) ((Y i) + (1 : Int32)) ((((Y i) + (1 : Int32)) * (g 20 0)) + ((X i) + (0 : Int32)))) ?_
            refine q_iast (j := i) (q_ixn (by omega) (by omega)) rfl rfl ?_
            refine q_step 4 234 [(0, .ref 28), (1, .ref 20), (2, .int ((t &&& (((1 : Int32) <<< ((c i) &&& 31)) ^^^ (Int32.ofInt (-1)))) ||| ((1 : Int32) <<< (((((Y i) + (1 : Int32)) * (g 20 0)) + ((X i) + (0 : Int32))) &&& 31)))), (3, .int (Int32.ofNat i)), (4, .int ((X i) + (0 : Int32))), (5, .int ((Y i) + (1 : Int32))), (6, .int ((((Y i) + (1 : Int32)) * (g 20 0)) + ((X i) + (0 : Int32)))), (7, .int (1 : Int32))] [.int ((Y i) + (1 : Int32)), .int (Int32.ofNat i), .ref 30] (q_up (q_up (s_M4 21 c X Y wn g) 21 i ((((Y i) + (1 : Int32)) * (g 20 0)) + ((X i) + (0 : Int32)))) 29 i ((X i) + (0 : Int32))) u (fun big n0 => sg_mv_27 big n0 (q_up (q_up (s_M4 21 c X Y wn g) 21 i ((((Y i) + (1 : Int32)) * (g 20 0)) + ((X i) + (0 : Int32)))) 29 i ((X i) + (0 : Int32))) u ((t &&& (((1 : Int32) <<< ((c i) &&& 31)) ^^^ (Int32.ofInt (-1)))) ||| ((1 : Int32) <<< (((((Y i) + (1 : Int32)) * (g 20 0)) + ((X i) + (0 : Int32))) &&& 31))) (Int32.ofNat i) ((X i) + (0 : Int32)) ((Y i) + (1 : Int32)) ((((Y i) + (1 : Int32)) * (g 20 0)) + ((X i) + (0 : Int32)))) ?_
            refine q_iast (j := i) (q_ixn (by omega) (by omega)) rfl rfl ?_
            refine q_step 10 39 [(0, .ref 28), (1, .ref 20), (2, .int ((t &&& (((1 : Int32) <<< ((c i) &&& 31)) ^^^ (Int32.ofInt (-1)))) ||| ((1 : Int32) <<< (((((Y i) + (1 : Int32)) * (g 20 0)) + ((X i) + (0 : Int32))) &&& 31)))), (3, .int ((Int32.ofNat i) + (1 : Int32))), (4, .int ((X i) + (0 : Int32))), (5, .int ((Y i) + (1 : Int32))), (6, .int ((((Y i) + (1 : Int32)) * (g 20 0)) + ((X i) + (0 : Int32)))), (7, .int (1 : Int32))] [] (q_up (q_up (q_up (q_up (s_M4 21 c X Y wn g) 21 i ((((Y i) + (1 : Int32)) * (g 20 0)) + ((X i) + (0 : Int32)))) 29 i ((X i) + (0 : Int32))) 30 i ((Y i) + (1 : Int32))) 28 5 (((s_M4 21 c X Y wn g) 28 5) ||| ((1 : Int32) <<< ((Int32.ofNat i) &&& 31)))) u (fun big n0 => sg_mv_28 big n0 (q_up (q_up (q_up (s_M4 21 c X Y wn g) 21 i ((((Y i) + (1 : Int32)) * (g 20 0)) + ((X i) + (0 : Int32)))) 29 i ((X i) + (0 : Int32))) 30 i ((Y i) + (1 : Int32))) u ((t &&& (((1 : Int32) <<< ((c i) &&& 31)) ^^^ (Int32.ofInt (-1)))) ||| ((1 : Int32) <<< (((((Y i) + (1 : Int32)) * (g 20 0)) + ((X i) + (0 : Int32))) &&& 31))) (Int32.ofNat i) ((X i) + (0 : Int32)) ((Y i) + (1 : Int32)) ((((Y i) + (1 : Int32)) * (g 20 0)) + ((X i) + (0 : Int32)))) ?_
            refine q_weak [(0, .ref 28), (1, .ref 20), (2, .int ((t &&& (((1 : Int32) <<< ((c i) &&& 31)) ^^^ (Int32.ofInt (-1)))) ||| ((1 : Int32) <<< (((((Y i) + (1 : Int32)) * (g 20 0)) + ((X i) + (0 : Int32))) &&& 31)))), (3, .int ((Int32.ofNat i) + (1 : Int32)))] (q_sub.cons rfl (q_sub.cons rfl (q_sub.cons rfl (q_sub.cons rfl q_sub.nil)))) ?_
            rw [s_M4_c, s_M4_x (by decide), s_M4_y (by decide), s_M4_w (by decide), q_succ]
            exact hgo (by unfold s_gc; rw [e1, e2, hw]; exact ⟨by decide, ⟨hc4, hc5, hc6, hc7⟩, hc9⟩)
          · refine q_step 2 39 [(0, .ref 28), (1, .ref 20), (2, .int t), (3, .int ((Int32.ofNat i) + (1 : Int32))), (4, .int ((X i) + (0 : Int32))), (5, .int ((Y i) + (1 : Int32))), (6, .int ((((Y i) + (1 : Int32)) * (g 20 0)) + ((X i) + (0 : Int32)))), (7, .int (1 : Int32))] [] (s_M4 21 c X Y wn g) u (fun big n0 => sg_mv_29 big n0 (s_M4 21 c X Y wn g) u t (Int32.ofNat i) ((X i) + (0 : Int32)) ((Y i) + (1 : Int32)) ((((Y i) + (1 : Int32)) * (g 20 0)) + ((X i) + (0 : Int32)))) ?_
            refine q_weak [(0, .ref 28), (1, .ref 20), (2, .int t), (3, .int ((Int32.ofNat i) + (1 : Int32)))] (q_sub.cons rfl (q_sub.cons rfl (q_sub.cons rfl (q_sub.cons rfl q_sub.nil)))) ?_
            rw [q_succ]
            exact hno (fun z => by unfold s_gc at z; rw [e1, e2, hw] at z; exact hc9 z.2.2)
theorem mb_20_3 (g : qM) (u : qW) {Q : Option Value × qM × qW → Prop} {n i : Nat} (hn : g 20 3 = Int32.ofNat n) (h6 : n ≤ 6) (hi : i < n) (hw : g 33 i = 3) {c X Y : Nat → Int32} {t wn : Int32} (hgo : s_gc (g 20 0) (g 20 1) (g 33 i) (X i) (Y i) t → q_EV m_69 39 [(0, .ref 28), (1, .ref 20), (2, .int ((t &&& (((1 : Int32) <<< (c i &&& 31)) ^^^ Int32.ofInt (-1))) ||| ((1 : Int32) <<< (((Y i + s_cy (g 33 i)) * (g 20 0) + (X i + s_cx (g 33 i))) &&& 31)))), (3, .int (Int32.ofNat (i + 1)))] [] (s_M4 21 (s_set c i ((Y i + s_cy (g 33 i)) * (g 20 0) + (X i + s_cx (g 33 i)))) (s_set X i (X i + s_cx (g 33 i))) (s_set Y i (Y i + s_cy (g 33 i))) (wn ||| ((1 : Int32) <<< (Int32.ofNat i &&& 31))) g) u Q) (hno : ¬ s_gc (g 20 0) (g 20 1) (g 33 i) (X i) (Y i) t → q_EV m_69 39 [(0, .ref 28), (1, .ref 20), (2, .int t), (3, .int (Int32.ofNat (i + 1)))] [] (s_M4 21 c X Y wn g) u Q) : q_EV m_69 39 [(0, .ref 28), (1, .ref 20), (2, .int t), (3, .int (Int32.ofNat i))] [] (s_M4 21 c X Y wn g) u Q := by
  have e1 : s_cx (g 33 i) = (Int32.ofInt (-1)) := by rw [hw]; rfl
  have e2 : s_cy (g 33 i) = (0 : Int32) := by rw [hw]; rfl
  rw [e1, e2] at hgo
  refine q_step 3 44 [(0, .ref 28), (1, .ref 20), (2, .int t), (3, .int (Int32.ofNat i))] [.int (g 20 3), .int (Int32.ofNat i)] (s_M4 21 c X Y wn g) u (fun big n0 => sg_mv_4 big n0 (s_M4 21 c X Y wn g) u t (Int32.ofNat i)) ?_
  refine q_ic_ge rfl (fun hc0 => absurd (show (g 20 3) ≤ (Int32.ofNat i) from hc0) (fun z => by rw [hn, q_le (by omega) (by omega)] at z; omega)) (fun (hc0 : ¬ ((g 20 3) ≤ (Int32.ofNat i))) => ?_)
  refine q_step 3 52 [(0, .ref 28), (1, .ref 20), (2, .int t), (3, .int (Int32.ofNat i))] [.int (Int32.ofNat i), .ref 29] (s_M4 21 c X Y wn g) u (fun big n0 => sg_mv_5 big n0 (s_M4 21 c X Y wn g) u t (Int32.ofNat i)) ?_
  refine q_iald (j := i) (q_ixn (by omega) (by omega)) rfl rfl ?_
  refine q_step 3 58 [(0, .ref 28), (1, .ref 20), (2, .int t), (3, .int (Int32.ofNat i))] [.int (Int32.ofNat i), .ref 33, .int (X i)] (s_M4 21 c X Y wn g) u (fun big n0 => sg_mv_6 big n0 (s_M4 21 c X Y wn g) u t (Int32.ofNat i) (X i)) ?_
  refine q_iald (j := i) (q_ixn (by omega) (by omega)) rfl rfl ?_
  refine q_step 1 60 [(0, .ref 28), (1, .ref 20), (2, .int t), (3, .int (Int32.ofNat i))] [.int (1 : Int32), .int (g 33 i), .int (X i)] (s_M4 21 c X Y wn g) u (fun big n0 => sg_mv_7 big n0 (s_M4 21 c X Y wn g) u t (Int32.ofNat i) (X i) (g 33 i)) ?_
  refine q_ic_ne rfl (fun hc1 => absurd (show (g 33 i) = (1 : Int32) from hc1) (by rw [hw]; decide)) (fun (hc1 : ¬ ((g 33 i) = (1 : Int32))) => ?_)
  refine q_step 3 72 [(0, .ref 28), (1, .ref 20), (2, .int t), (3, .int (Int32.ofNat i))] [.int (Int32.ofNat i), .ref 33, .int (X i)] (s_M4 21 c X Y wn g) u (fun big n0 => sg_mv_8 big n0 (s_M4 21 c X Y wn g) u t (Int32.ofNat i) (X i)) ?_
  refine q_iald (j := i) (q_ixn (by omega) (by omega)) rfl rfl ?_
  refine q_step 1 74 [(0, .ref 28), (1, .ref 20), (2, .int t), (3, .int (Int32.ofNat i))] [.int (3 : Int32), .int (g 33 i), .int (X i)] (s_M4 21 c X Y wn g) u (fun big n0 => sg_mv_9 big n0 (s_M4 21 c X Y wn g) u t (Int32.ofNat i) (X i) (g 33 i)) ?_
  refine q_ic_ne rfl (fun (hc2 : (g 33 i) = (3 : Int32)) => ?_) (fun hc2 => absurd (show (g 33 i) = (3 : Int32) from hw) hc2)
  refine q_step 7 90 [(0, .ref 28), (1, .ref 20), (2, .int t), (3, .int (Int32.ofNat i)), (4, .int ((X i) + (Int32.ofInt (-1))))] [.int (Int32.ofNat i), .ref 30] (s_M4 21 c X Y wn g) u (fun big n0 => sg_mv_33 big n0 (s_M4 21 c X Y wn g) u t (Int32.ofNat i) (X i)) ?_
  refine q_iald (j := i) (q_ixn (by omega) (by omega)) rfl rfl ?_
  refine q_step 3 96 [(0, .ref 28), (1, .ref 20), (2, .int t), (3, .int (Int32.ofNat i)), (4, .int ((X i) + (Int32.ofInt (-1))))] [.int (Int32.ofNat i), .ref 33, .int (Y i)] (s_M4 21 c X Y wn g) u (fun big n0 => sg_mv_11 big n0 (s_M4 21 c X Y wn g) u t (Int32.ofNat i) ((X i) + (Int32.ofInt (-1))) (Y i)) ?_
  refine q_iald (j := i) (q_ixn (by omega) (by omega)) rfl rfl ?_
  refine q_step 1 98 [(0, .ref 28), (1, .ref 20), (2, .int t), (3, .int (Int32.ofNat i)), (4, .int ((X i) + (Int32.ofInt (-1))))] [.int (2 : Int32), .int (g 33 i), .int (Y i)] (s_M4 21 c X Y wn g) u (fun big n0 => sg_mv_12 big n0 (s_M4 21 c X Y wn g) u t (Int32.ofNat i) ((X i) + (Int32.ofInt (-1))) (Y i) (g 33 i)) ?_
  refine q_ic_ne rfl (fun hc3 => absurd (show (g 33 i) = (2 : Int32) from hc3) (by rw [hw]; decide)) (fun (hc3 : ¬ ((g 33 i) = (2 : Int32))) => ?_)
  refine q_step 3 110 [(0, .ref 28), (1, .ref 20), (2, .int t), (3, .int (Int32.ofNat i)), (4, .int ((X i) + (Int32.ofInt (-1))))] [.int (Int32.ofNat i), .ref 33, .int (Y i)] (s_M4 21 c X Y wn g) u (fun big n0 => sg_mv_13 big n0 (s_M4 21 c X Y wn g) u t (Int32.ofNat i) ((X i) + (Int32.ofInt (-1))) (Y i)) ?_
  refine q_iald (j := i) (q_ixn (by omega) (by omega)) rfl rfl ?_
  refine q_if_ne rfl (fun hc4 => absurd (show (g 33 i) = 0 from hc4) (by rw [hw]; decide)) (fun (hc4 : ¬ ((g 33 i) = 0)) => ?_)
  refine q_step 11 136 [(0, .ref 28), (1, .ref 20), (2, .int t), (3, .int (Int32.ofNat i)), (4, .int ((X i) + (Int32.ofInt (-1)))), (5, .int ((Y i) + (0 : Int32))), (6, .int ((((Y i) + (0 : Int32)) * (g 20 0)) + ((X i) + (Int32.ofInt (-1)))))] [.int ((X i) + (Int32.ofInt (-1)))] (s_M4 21 c X Y wn g) u (fun big n0 => sg_mv_31 big n0 (s_M4 21 c X Y wn g) u t (Int32.ofNat i) ((X i) + (Int32.ofInt (-1))) (Y i)) ?_
  refine q_if_lt rfl (fun (hc5 : ((X i) + (Int32.ofInt (-1))) < 0) => ?_) (fun (hc5 : ¬ (((X i) + (Int32.ofInt (-1))) < 0)) => ?_)
  · refine q_step 5 174 [(0, .ref 28), (1, .ref 20), (2, .int t), (3, .int (Int32.ofNat i)), (4, .int ((X i) + (Int32.ofInt (-1)))), (5, .int ((Y i) + (0 : Int32))), (6, .int ((((Y i) + (0 : Int32)) * (g 20 0)) + ((X i) + (Int32.ofInt (-1))))), (7, .int (0 : Int32))] [.int (Int32.ofNat i), .ref 33] (s_M4 21 c X Y wn g) u (fun big n0 => sg_mv_15 big n0 (s_M4 21 c X Y wn g) u t (Int32.ofNat i) ((X i) + (Int32.ofInt (-1))) ((Y i) + (0 : Int32)) ((((Y i) + (0 : Int32)) * (g 20 0)) + ((X i) + (Int32.ofInt (-1))))) ?_
    refine q_iald (j := i) (q_ixn (by omega) (by omega)) rfl rfl ?_
    refine q_step 1 176 [(0, .ref 28), (1, .ref 20), (2, .int t), (3, .int (Int32.ofNat i)), (4, .int ((X i) + (Int32.ofInt (-1)))), (5, .int ((Y i) + (0 : Int32))), (6, .int ((((Y i) + (0 : Int32)) * (g 20 0)) + ((X i) + (Int32.ofInt (-1))))), (7, .int (0 : Int32))] [.int (4 : Int32), .int (g 33 i)] (s_M4 21 c X Y wn g) u (fun big n0 => sg_mv_16 big n0 (s_M4 21 c X Y wn g) u t (Int32.ofNat i) ((X i) + (Int32.ofInt (-1))) ((Y i) + (0 : Int32)) ((((Y i) + (0 : Int32)) * (g 20 0)) + ((X i) + (Int32.ofInt (-1)))) (g 33 i)) ?_
    refine q_ic_eq rfl (fun hc6 => absurd (show (g 33 i) = (4 : Int32) from hc6) (by rw [hw]; decide)) (fun (hc6 : ¬ ((g 33 i) = (4 : Int32))) => ?_)
    refine q_step 4 39 [(0, .ref 28), (1, .ref 20), (2, .int t), (3, .int ((Int32.ofNat i) + (1 : Int32))), (4, .int ((X i) + (Int32.ofInt (-1)))), (5, .int ((Y i) + (0 : Int32))), (6, .int ((((Y i) + (0 : Int32)) * (g 20 0)) + ((X i) + (Int32.ofInt (-1))))), (7, .int (0 : Int32))] [] (s_M4 21 c X Y wn g) u (fun big n0 => sg_mv_17 big n0 (s_M4 21 c X Y wn g) u t (Int32.ofNat i) ((X i) + (Int32.ofInt (-1))) ((Y i) + (0 : Int32)) ((((Y i) + (0 : Int32)) * (g 20 0)) + ((X i) + (Int32.ofInt (-1))))) ?_
    refine q_weak [(0, .ref 28), (1, .ref 20), (2, .int t), (3, .int ((Int32.ofNat i) + (1 : Int32)))] (q_sub.cons rfl (q_sub.cons rfl (q_sub.cons rfl (q_sub.cons rfl q_sub.nil)))) ?_
    rw [q_succ]
    exact hno (fun z => by unfold s_gc at z; rw [e1, e2, hw] at z; exact z.2.1.1 hc5)
  · refine q_step 3 145 [(0, .ref 28), (1, .ref 20), (2, .int t), (3, .int (Int32.ofNat i)), (4, .int ((X i) + (Int32.ofInt (-1)))), (5, .int ((Y i) + (0 : Int32))), (6, .int ((((Y i) + (0 : Int32)) * (g 20 0)) + ((X i) + (Int32.ofInt (-1)))))] [.int (g 20 0), .int ((X i) + (Int32.ofInt (-1)))] (s_M4 21 c X Y wn g) u (fun big n0 => sg_mv_18 big n0 (s_M4 21 c X Y wn g) u t (Int32.ofNat i) ((X i) + (Int32.ofInt (-1))) ((Y i) + (0 : Int32)) ((((Y i) + (0 : Int32)) * (g 20 0)) + ((X i) + (Int32.ofInt (-1))))) ?_
    refine q_ic_ge rfl (fun (hc6 : (g 20 0) ≤ ((X i) + (Int32.ofInt (-1)))) => ?_) (fun (hc6 : ¬ ((g 20 0) ≤ ((X i) + (Int32.ofInt (-1))))) => ?_)
    · refine q_step 5 174 [(0, .ref 28), (1, .ref 20), (2, .int t), (3, .int (Int32.ofNat i)), (4, .int ((X i) + (Int32.ofInt (-1)))), (5, .int ((Y i) + (0 : Int32))), (6, .int ((((Y i) + (0 : Int32)) * (g 20 0)) + ((X i) + (Int32.ofInt (-1))))), (7, .int (0 : Int32))] [.int (Int32.ofNat i), .ref 33] (s_M4 21 c X Y wn g) u (fun big n0 => sg_mv_15 big n0 (s_M4 21 c X Y wn g) u t (Int32.ofNat i) ((X i) + (Int32.ofInt (-1))) ((Y i) + (0 : Int32)) ((((Y i) + (0 : Int32)) * (g 20 0)) + ((X i) + (Int32.ofInt (-1))))) ?_
      refine q_iald (j := i) (q_ixn (by omega) (by omega)) rfl rfl ?_
      refine q_step 1 176 [(0, .ref 28), (1, .ref 20), (2, .int t), (3, .int (Int32.ofNat i)), (4, .int ((X i) + (Int32.ofInt (-1)))), (5, .int ((Y i) + (0 : Int32))), (6, .int ((((Y i) + (0 : Int32)) * (g 20 0)) + ((X i) + (Int32.ofInt (-1))))), (7, .int (0 : Int32))] [.int (4 : Int32), .int (g 33 i)] (s_M4 21 c X Y wn g) u (fun big n0 => sg_mv_16 big n0 (s_M4 21 c X Y wn g) u t (Int32.ofNat i) ((X i) + (Int32.ofInt (-1))) ((Y i) + (0 : Int32)) ((((Y i) + (0 : Int32)) * (g 20 0)) + ((X i) + (Int32.ofInt (-1)))) (g 33 i)) ?_
      refine q_ic_eq rfl (fun hc7 => absurd (show (g 33 i) = (4 : Int32) from hc7) (by rw [hw]; decide)) (fun (hc7 : ¬ ((g 33 i) = (4 : Int32))) => ?_)
      refine q_step 4 39 [(0, .ref 28), (1, .ref 20), (2, .int t), (3, .int ((Int32.ofNat i) + (1 : Int32))), (4, .int ((X i) + (Int32.ofInt (-1)))), (5, .int ((Y i) + (0 : Int32))), (6, .int ((((Y i) + (0 : Int32)) * (g 20 0)) + ((X i) + (Int32.ofInt (-1))))), (7, .int (0 : Int32))] [] (s_M4 21 c X Y wn g) u (fun big n0 => sg_mv_17 big n0 (s_M4 21 c X Y wn g) u t (Int32.ofNat i) ((X i) + (Int32.ofInt (-1))) ((Y i) + (0 : Int32)) ((((Y i) + (0 : Int32)) * (g 20 0)) + ((X i) + (Int32.ofInt (-1))))) ?_
      refine q_weak [(0, .ref 28), (1, .ref 20), (2, .int t), (3, .int ((Int32.ofNat i) + (1 : Int32)))] (q_sub.cons rfl (q_sub.cons rfl (q_sub.cons rfl (q_sub.cons rfl q_sub.nil)))) ?_
      rw [q_succ]
      exact hno (fun z => by unfold s_gc at z; rw [e1, e2, hw] at z; exact z.2.1.2.1 hc6)
    · refine q_step 1 150 [(0, .ref 28), (1, .ref 20), (2, .int t), (3, .int (Int32.ofNat i)), (4, .int ((X i) + (Int32.ofInt (-1)))), (5, .int ((Y i) + (0 : Int32))), (6, .int ((((Y i) + (0 : Int32)) * (g 20 0)) + ((X i) + (Int32.ofInt (-1)))))] [.int ((Y i) + (0 : Int32))] (s_M4 21 c X Y wn g) u (fun big n0 => sg_mv_19 big n0 (s_M4 21 c X Y wn g) u t (Int32.ofNat i) ((X i) + (Int32.ofInt (-1))) ((Y i) + (0 : Int32)) ((((Y i) + (0 : Int32)) * (g 20 0)) + ((X i) + (Int32.ofInt (-1))))) ?_
      refine q_if_lt rfl (fun (hc7 : ((Y i) + (0 : Int32)) < 0) => ?_) (fun (hc7 : ¬ (((Y i) + (0 : Int32)) < 0)) => ?_)
      · refine q_step 5 174 [(0, .ref 28), (1, .ref 20), (2, .int t), (3, .int (Int32.ofNat i)), (4, .int ((X i) + (Int32.ofInt (-1)))), (5, .int ((Y i) + (0 : Int32))), (6, .int ((((Y i) + (0 : Int32)) * (g 20 0)) + ((X i) + (Int32.ofInt (-1))))), (7, .int (0 : Int32))] [.int (Int32.ofNat i), .ref 33] (s_M4 21 c X Y wn g) u (fun big n0 => sg_mv_15 big n0 (s_M4 21 c X Y wn g) u t (Int32.ofNat i) ((X i) + (Int32.ofInt (-1))) ((Y i) + (0 : Int32)) ((((Y i) + (0 : Int32)) * (g 20 0)) + ((X i) + (Int32.ofInt (-1))))) ?_
        refine q_iald (j := i) (q_ixn (by omega) (by omega)) rfl rfl ?_
        refine q_step 1 176 [(0, .ref 28), (1, .ref 20), (2, .int t), (3, .int (Int32.ofNat i)), (4, .int ((X i) + (Int32.ofInt (-1)))), (5, .int ((Y i) + (0 : Int32))), (6, .int ((((Y i) + (0 : Int32)) * (g 20 0)) + ((X i) + (Int32.ofInt (-1))))), (7, .int (0 : Int32))] [.int (4 : Int32), .int (g 33 i)] (s_M4 21 c X Y wn g) u (fun big n0 => sg_mv_16 big n0 (s_M4 21 c X Y wn g) u t (Int32.ofNat i) ((X i) + (Int32.ofInt (-1))) ((Y i) + (0 : Int32)) ((((Y i) + (0 : Int32)) * (g 20 0)) + ((X i) + (Int32.ofInt (-1)))) (g 33 i)) ?_
        refine q_ic_eq rfl (fun hc8 => absurd (show (g 33 i) = (4 : Int32) from hc8) (by rw [hw]; decide)) (fun (hc8 : ¬ ((g 33 i) = (4 : Int32))) => ?_)
        refine q_step 4 39 [(0, .ref 28), (1, .ref 20), (2, .int t), (3, .int ((Int32.ofNat i) + (1 : Int32))), (4, .int ((X i) + (Int32.ofInt (-1)))), (5, .int ((Y i) + (0 : Int32))), (6, .int ((((Y i) + (0 : Int32)) * (g 20 0)) + ((X i) + (Int32.ofInt (-1))))), (7, .int (0 : Int32))] [] (s_M4 21 c X Y wn g) u (fun big n0 => sg_mv_17 big n0 (s_M4 21 c X Y wn g) u t (Int32.ofNat i) ((X i) + (Int32.ofInt (-1))) ((Y i) + (0 : Int32)) ((((Y i) + (0 : Int32)) * (g 20 0)) + ((X i) + (Int32.ofInt (-1))))) ?_
        refine q_weak [(0, .ref 28), (1, .ref 20), (2, .int t), (3, .int ((Int32.ofNat i) + (1 : Int32)))] (q_sub.cons rfl (q_sub.cons rfl (q_sub.cons rfl (q_sub.cons rfl q_sub.nil)))) ?_
        rw [q_succ]
        exact hno (fun z => by unfold s_gc at z; rw [e1, e2, hw] at z; exact z.2.1.2.2.1 hc7)
      · refine q_step 3 159 [(0, .ref 28), (1, .ref 20), (2, .int t), (3, .int (Int32.ofNat i)), (4, .int ((X i) + (Int32.ofInt (-1)))), (5, .int ((Y i) + (0 : Int32))), (6, .int ((((Y i) + (0 : Int32)) * (g 20 0)) + ((X i) + (Int32.ofInt (-1)))))] [.int (g 20 1), .int ((Y i) + (0 : Int32))] (s_M4 21 c X Y wn g) u (fun big n0 => sg_mv_20 big n0 (s_M4 21 c X Y wn g) u t (Int32.ofNat i) ((X i) + (Int32.ofInt (-1))) ((Y i) + (0 : Int32)) ((((Y i) + (0 : Int32)) * (g 20 0)) + ((X i) + (Int32.ofInt (-1))))) ?_
        refine q_ic_ge rfl (fun (hc8 : (g 20 1) ≤ ((Y i) + (0 : Int32))) => ?_) (fun (hc8 : ¬ ((g 20 1) ≤ ((Y i) + (0 : Int32)))) => ?_)
        · refine q_step 5 174 [(0, .ref 28), (1, .ref 20), (2, .int t), (3, .int (Int32.ofNat i)), (4, .int ((X i) + (Int32.ofInt (-1)))), (5, .int ((Y i) + (0 : Int32))), (6, .int ((((Y i) + (0 : Int32)) * (g 20 0)) + ((X i) + (Int32.ofInt (-1))))), (7, .int (0 : Int32))] [.int (Int32.ofNat i), .ref 33] (s_M4 21 c X Y wn g) u (fun big n0 => sg_mv_15 big n0 (s_M4 21 c X Y wn g) u t (Int32.ofNat i) ((X i) + (Int32.ofInt (-1))) ((Y i) + (0 : Int32)) ((((Y i) + (0 : Int32)) * (g 20 0)) + ((X i) + (Int32.ofInt (-1))))) ?_
          refine q_iald (j := i) (q_ixn (by omega) (by omega)) rfl rfl ?_
          refine q_step 1 176 [(0, .ref 28), (1, .ref 20), (2, .int t), (3, .int (Int32.ofNat i)), (4, .int ((X i) + (Int32.ofInt (-1)))), (5, .int ((Y i) + (0 : Int32))), (6, .int ((((Y i) + (0 : Int32)) * (g 20 0)) + ((X i) + (Int32.ofInt (-1))))), (7, .int (0 : Int32))] [.int (4 : Int32), .int (g 33 i)] (s_M4 21 c X Y wn g) u (fun big n0 => sg_mv_16 big n0 (s_M4 21 c X Y wn g) u t (Int32.ofNat i) ((X i) + (Int32.ofInt (-1))) ((Y i) + (0 : Int32)) ((((Y i) + (0 : Int32)) * (g 20 0)) + ((X i) + (Int32.ofInt (-1)))) (g 33 i)) ?_
          refine q_ic_eq rfl (fun hc9 => absurd (show (g 33 i) = (4 : Int32) from hc9) (by rw [hw]; decide)) (fun (hc9 : ¬ ((g 33 i) = (4 : Int32))) => ?_)
          refine q_step 4 39 [(0, .ref 28), (1, .ref 20), (2, .int t), (3, .int ((Int32.ofNat i) + (1 : Int32))), (4, .int ((X i) + (Int32.ofInt (-1)))), (5, .int ((Y i) + (0 : Int32))), (6, .int ((((Y i) + (0 : Int32)) * (g 20 0)) + ((X i) + (Int32.ofInt (-1))))), (7, .int (0 : Int32))] [] (s_M4 21 c X Y wn g) u (fun big n0 => sg_mv_17 big n0 (s_M4 21 c X Y wn g) u t (Int32.ofNat i) ((X i) + (Int32.ofInt (-1))) ((Y i) + (0 : Int32)) ((((Y i) + (0 : Int32)) * (g 20 0)) + ((X i) + (Int32.ofInt (-1))))) ?_
          refine q_weak [(0, .ref 28), (1, .ref 20), (2, .int t), (3, .int ((Int32.ofNat i) + (1 : Int32)))] (q_sub.cons rfl (q_sub.cons rfl (q_sub.cons rfl (q_sub.cons rfl q_sub.nil)))) ?_
          rw [q_succ]
          exact hno (fun z => by unfold s_gc at z; rw [e1, e2, hw] at z; exact z.2.1.2.2.2 hc8)
        · refine q_step 6 174 [(0, .ref 28), (1, .ref 20), (2, .int t), (3, .int (Int32.ofNat i)), (4, .int ((X i) + (Int32.ofInt (-1)))), (5, .int ((Y i) + (0 : Int32))), (6, .int ((((Y i) + (0 : Int32)) * (g 20 0)) + ((X i) + (Int32.ofInt (-1))))), (7, .int (1 : Int32))] [.int (Int32.ofNat i), .ref 33] (s_M4 21 c X Y wn g) u (fun big n0 => sg_mv_21 big n0 (s_M4 21 c X Y wn g) u t (Int32.ofNat i) ((X i) + (Int32.ofInt (-1))) ((Y i) + (0 : Int32)) ((((Y i) + (0 : Int32)) * (g 20 0)) + ((X i) + (Int32.ofInt (-1))))) ?_
          refine q_iald (j := i) (q_ixn (by omega) (by omega)) rfl rfl ?_
          refine q_step 1 176 [(0, .ref 28), (1, .ref 20), (2, .int t), (3, .int (Int32.ofNat i)), (4, .int ((X i) + (Int32.ofInt (-1)))), (5, .int ((Y i) + (0 : Int32))), (6, .int ((((Y i) + (0 : Int32)) * (g 20 0)) + ((X i) + (Int32.ofInt (-1))))), (7, .int (1 : Int32))] [.int (4 : Int32), .int (g 33 i)] (s_M4 21 c X Y wn g) u (fun big n0 => sg_mv_22 big n0 (s_M4 21 c X Y wn g) u t (Int32.ofNat i) ((X i) + (Int32.ofInt (-1))) ((Y i) + (0 : Int32)) ((((Y i) + (0 : Int32)) * (g 20 0)) + ((X i) + (Int32.ofInt (-1)))) (g 33 i)) ?_
          refine q_ic_eq rfl (fun hc9 => absurd (show (g 33 i) = (4 : Int32) from hc9) (by rw [hw]; decide)) (fun (hc9 : ¬ ((g 33 i) = (4 : Int32))) => ?_)
          refine q_step 7 190 [(0, .ref 28), (1, .ref 20), (2, .int t), (3, .int (Int32.ofNat i)), (4, .int ((X i) + (Int32.ofInt (-1)))), (5, .int ((Y i) + (0 : Int32))), (6, .int ((((Y i) + (0 : Int32)) * (g 20 0)) + ((X i) + (Int32.ofInt (-1))))), (7, .int (1 : Int32))] [.int ((t >>> (((((Y i) + (0 : Int32)) * (g 20 0)) + ((X i) + (Int32.ofInt (-1)))) &&& 31)) &&& (1 : Int32))] (s_M4 21 c X Y wn g) u (fun big n0 => sg_mv_23 big n0 (s_M4 21 c X Y wn g) u t (Int32.ofNat i) ((X i) + (Int32.ofInt (-1))) ((Y i) + (0 : Int32)) ((((Y i) + (0 : Int32)) * (g 20 0)) + ((X i) + (Int32.ofInt (-1))))) ?_
          refine q_if_ne rfl (fun (hc10 : ((t >>> (((((Y i) + (0 : Int32)) * (g 20 0)) + ((X i) + (Int32.ofInt (-1)))) &&& 31)) &&& (1 : Int32)) = 0) => ?_) (fun (hc10 : ¬ (((t >>> (((((Y i) + (0 : Int32)) * (g 20 0)) + ((X i) + (Int32.ofInt (-1)))) &&& 31)) &&& (1 : Int32)) = 0)) => ?_)
          · refine q_step 5 200 [(0, .ref 28), (1, .ref 20), (2, .int t), (3, .int (Int32.ofNat i)), (4, .int ((X i) + (Int32.ofInt (-1)))), (5, .int ((Y i) + (0 : Int32))), (6, .int ((((Y i) + (0 : Int32)) * (g 20 0)) + ((X i) + (Int32.ofInt (-1))))), (7, .int (1 : Int32))] [.int (Int32.ofNat i), .ref 21, .int (1 : Int32), .int t] (s_M4 21 c X Y wn g) u (fun big n0 => sg_mv_24 big n0 (s_M4 21 c X Y wn g) u t (Int32.ofNat i) ((X i) + (Int32.ofInt (-1))) ((Y i) + (0 : Int32)) ((((Y i) + (0 : Int32)) * (g 20 0)) + ((X i) + (Int32.ofInt (-1))))) ?_
            refine q_iald (j := i) (q_ixn (by omega) (by omega)) rfl rfl ?_
            refine q_step 13 218 [(0, .ref 28), (1, .ref 20), (2, .int ((t &&& (((1 : Int32) <<< ((c i) &&& 31)) ^^^ (Int32.ofInt (-1)))) ||| ((1 : Int32) <<< (((((Y i) + (0 : Int32)) * (g 20 0)) + ((X i) + (Int32.ofInt (-1)))) &&& 31)))), (3, .int (Int32.ofNat i)), (4, .int ((X i) + (Int32.ofInt (-1)))), (5, .int ((Y i) + (0 : Int32))), (6, .int ((((Y i) + (0 : Int32)) * (g 20 0)) + ((X i) + (Int32.ofInt (-1))))), (7, .int (1 : Int32))] [.int ((((Y i) + (0 : Int32)) * (g 20 0)) + ((X i) + (Int32.ofInt (-1)))), .int (Int32.ofNat i), .ref 21] (s_M4 21 c X Y wn g) u (fun big n0 => sg_mv_25 big n0 (s_M4 21 c X Y wn g) u t (Int32.ofNat i) ((X i) + (Int32.ofInt (-1))) ((Y i) + (0 : Int32)) ((((Y i) + (0 : Int32)) * (g 20 0)) + ((X i) + (Int32.ofInt (-1)))) t (c i)) ?_
            refine q_iast (j := i) (q_ixn (by omega) (by omega)) rfl rfl ?_
            refine q_step 4 226 [(0, .ref 28), (1, .ref 20), (2, .int ((t &&& (((1 : Int32) <<< ((c i) &&& 31)) ^^^ (Int32.ofInt (-1)))) ||| ((1 : Int32) <<< (((((Y i) + (0 : Int32)) * (g 20 0)) + ((X i) + (Int32.ofInt (-1)))) &&& 31)))), (3, .int (Int32.ofNat i)), (4, .int ((X i) + (Int32.ofInt (-1)))), (5, .int ((Y i) + (0 : Int32))), (6, .int ((((Y i) + (0 : Int32)) * (g 20 0)) + ((X i) + (Int32.ofInt (-1))))), (7, .int (1 : Int32))] [.int ((X i) + (Int32.ofInt (-1))), .int (Int32.ofNat i), .ref 29] (q_up (s_M4 21 c X Y wn g) 21 i ((((Y i) + (0 : Int32)) * (g 20 0)) + ((X i) + (Int32.ofInt (-1))))) u (fun big n0 => sg_mv_26 big n0 (q_up (s_M4 21 c X Y wn g) 21 i ((((Y i) + (0 : Int32)) * (g 20 0)) + ((X i) + (Int32.ofInt (-1))))) u ((t &&& (((1 : Int32) <<< ((c i) &&& 31)) ^^^ (Int32.ofInt (-1)))) ||| ((1 : Int32) <<< (((((Y i) + (0 : Int32)) * (g 20 0)) + ((X i) + (Int32.ofInt (-1)))) &&& 31))) (Int32.ofNat i) ((X i) + (Int32.ofInt (-1))) ((Y i) + (0 : Int32)) ((((Y i) + (0 : Int32)) * (g 20 0)) + ((X i) + (Int32.ofInt (-1))))) ?_
            refine q_iast (j := i) (q_ixn (by omega) (by omega)) rfl rfl ?_
            refine q_step 4 234 [(0, .ref 28), (1, .ref 20), (2, .int ((t &&& (((1 : Int32) <<< ((c i) &&& 31)) ^^^ (Int32.ofInt (-1)))) ||| ((1 : Int32) <<< (((((Y i) + (0 : Int32)) * (g 20 0)) + ((X i) + (Int32.ofInt (-1)))) &&& 31)))), (3, .int (Int32.ofNat i)), (4, .int ((X i) + (Int32.ofInt (-1)))), (5, .int ((Y i) + (0 : Int32))), (6, .int ((((Y i) + (0 : Int32)) * (g 20 0)) + ((X i) + (Int32.ofInt (-1))))), (7, .int (1 : Int32))] [.int ((Y i) + (0 : Int32)), .int (Int32.ofNat i), .ref 30] (q_up (q_up (s_M4 21 c X Y wn g) 21 i ((((Y i) + (0 : Int32)) * (g 20 0)) + ((X i) + (Int32.ofInt (-1))))) 29 i ((X i) + (Int32.ofInt (-1)))) u (fun big n0 => sg_mv_27 big n0 (q_up (q_up (s_M4 21 c X Y wn g) 21 i ((((Y i) + (0 : Int32)) * (g 20 0)) + ((X i) + (Int32.ofInt (-1))))) 29 i ((X i) + (Int32.ofInt (-1)))) u ((t &&& (((1 : Int32) <<< ((c i) &&& 31)) ^^^ (Int32.ofInt (-1)))) ||| ((1 : Int32) <<< (((((Y i) + (0 : Int32)) * (g 20 0)) + ((X i) + (Int32.ofInt (-1)))) &&& 31))) (Int32.ofNat i) ((X i) + (Int32.ofInt (-1))) ((Y i) + (0 : Int32)) ((((Y i) + (0 : Int32)) * (g 20 0)) + ((X i) + (Int32.ofInt (-1))))) ?_
            refine q_iast (j := i) (q_ixn (by omega) (by omega)) rfl rfl ?_
            refine q_step 10 39 [(0, .ref 28), (1, .ref 20), (2, .int ((t &&& (((1 : Int32) <<< ((c i) &&& 31)) ^^^ (Int32.ofInt (-1)))) ||| ((1 : Int32) <<< (((((Y i) + (0 : Int32)) * (g 20 0)) + ((X i) + (Int32.ofInt (-1)))) &&& 31)))), (3, .int ((Int32.ofNat i) + (1 : Int32))), (4, .int ((X i) + (Int32.ofInt (-1)))), (5, .int ((Y i) + (0 : Int32))), (6, .int ((((Y i) + (0 : Int32)) * (g 20 0)) + ((X i) + (Int32.ofInt (-1))))), (7, .int (1 : Int32))] [] (q_up (q_up (q_up (q_up (s_M4 21 c X Y wn g) 21 i ((((Y i) + (0 : Int32)) * (g 20 0)) + ((X i) + (Int32.ofInt (-1))))) 29 i ((X i) + (Int32.ofInt (-1)))) 30 i ((Y i) + (0 : Int32))) 28 5 (((s_M4 21 c X Y wn g) 28 5) ||| ((1 : Int32) <<< ((Int32.ofNat i) &&& 31)))) u (fun big n0 => sg_mv_28 big n0 (q_up (q_up (q_up (s_M4 21 c X Y wn g) 21 i ((((Y i) + (0 : Int32)) * (g 20 0)) + ((X i) + (Int32.ofInt (-1))))) 29 i ((X i) + (Int32.ofInt (-1)))) 30 i ((Y i) + (0 : Int32))) u ((t &&& (((1 : Int32) <<< ((c i) &&& 31)) ^^^ (Int32.ofInt (-1)))) ||| ((1 : Int32) <<< (((((Y i) + (0 : Int32)) * (g 20 0)) + ((X i) + (Int32.ofInt (-1)))) &&& 31))) (Int32.ofNat i) ((X i) + (Int32.ofInt (-1))) ((Y i) + (0 : Int32)) ((((Y i) + (0 : Int32)) * (g 20 0)) + ((X i) + (Int32.ofInt (-1))))) ?_
            refine q_weak [(0, .ref 28), (1, .ref 20), (2, .int ((t &&& (((1 : Int32) <<< ((c i) &&& 31)) ^^^ (Int32.ofInt (-1)))) ||| ((1 : Int32) <<< (((((Y i) + (0 : Int32)) * (g 20 0)) + ((X i) + (Int32.ofInt (-1)))) &&& 31)))), (3, .int ((Int32.ofNat i) + (1 : Int32)))] (q_sub.cons rfl (q_sub.cons rfl (q_sub.cons rfl (q_sub.cons rfl q_sub.nil)))) ?_
            rw [s_M4_c, s_M4_x (by decide), s_M4_y (by decide), s_M4_w (by decide), q_succ]
            exact hgo (by unfold s_gc; rw [e1, e2, hw]; exact ⟨by decide, ⟨hc5, hc6, hc7, hc8⟩, hc10⟩)
          · refine q_step 2 39 [(0, .ref 28), (1, .ref 20), (2, .int t), (3, .int ((Int32.ofNat i) + (1 : Int32))), (4, .int ((X i) + (Int32.ofInt (-1)))), (5, .int ((Y i) + (0 : Int32))), (6, .int ((((Y i) + (0 : Int32)) * (g 20 0)) + ((X i) + (Int32.ofInt (-1))))), (7, .int (1 : Int32))] [] (s_M4 21 c X Y wn g) u (fun big n0 => sg_mv_29 big n0 (s_M4 21 c X Y wn g) u t (Int32.ofNat i) ((X i) + (Int32.ofInt (-1))) ((Y i) + (0 : Int32)) ((((Y i) + (0 : Int32)) * (g 20 0)) + ((X i) + (Int32.ofInt (-1))))) ?_
            refine q_weak [(0, .ref 28), (1, .ref 20), (2, .int t), (3, .int ((Int32.ofNat i) + (1 : Int32)))] (q_sub.cons rfl (q_sub.cons rfl (q_sub.cons rfl (q_sub.cons rfl q_sub.nil)))) ?_
            rw [q_succ]
            exact hno (fun z => by unfold s_gc at z; rw [e1, e2, hw] at z; exact hc10 z.2.2)
theorem mb_20_4 (g : qM) (u : qW) {Q : Option Value × qM × qW → Prop} {n i : Nat} (hn : g 20 3 = Int32.ofNat n) (h6 : n ≤ 6) (hi : i < n) (hw : g 33 i = 4) {c X Y : Nat → Int32} {t wn : Int32} (hgo : s_gc (g 20 0) (g 20 1) (g 33 i) (X i) (Y i) t → q_EV m_69 39 [(0, .ref 28), (1, .ref 20), (2, .int ((t &&& (((1 : Int32) <<< (c i &&& 31)) ^^^ Int32.ofInt (-1))) ||| ((1 : Int32) <<< (((Y i + s_cy (g 33 i)) * (g 20 0) + (X i + s_cx (g 33 i))) &&& 31)))), (3, .int (Int32.ofNat (i + 1)))] [] (s_M4 21 (s_set c i ((Y i + s_cy (g 33 i)) * (g 20 0) + (X i + s_cx (g 33 i)))) (s_set X i (X i + s_cx (g 33 i))) (s_set Y i (Y i + s_cy (g 33 i))) (wn ||| ((1 : Int32) <<< (Int32.ofNat i &&& 31))) g) u Q) (hno : ¬ s_gc (g 20 0) (g 20 1) (g 33 i) (X i) (Y i) t → q_EV m_69 39 [(0, .ref 28), (1, .ref 20), (2, .int t), (3, .int (Int32.ofNat (i + 1)))] [] (s_M4 21 c X Y wn g) u Q) : q_EV m_69 39 [(0, .ref 28), (1, .ref 20), (2, .int t), (3, .int (Int32.ofNat i))] [] (s_M4 21 c X Y wn g) u Q := by
  have e1 : s_cx (g 33 i) = (0 : Int32) := by rw [hw]; rfl
  have e2 : s_cy (g 33 i) = (0 : Int32) := by rw [hw]; rfl
  rw [e1, e2] at hgo
  refine q_step 3 44 [(0, .ref 28), (1, .ref 20), (2, .int t), (3, .int (Int32.ofNat i))] [.int (g 20 3), .int (Int32.ofNat i)] (s_M4 21 c X Y wn g) u (fun big n0 => sg_mv_4 big n0 (s_M4 21 c X Y wn g) u t (Int32.ofNat i)) ?_
  refine q_ic_ge rfl (fun hc0 => absurd (show (g 20 3) ≤ (Int32.ofNat i) from hc0) (fun z => by rw [hn, q_le (by omega) (by omega)] at z; omega)) (fun (hc0 : ¬ ((g 20 3) ≤ (Int32.ofNat i))) => ?_)
  refine q_step 3 52 [(0, .ref 28), (1, .ref 20), (2, .int t), (3, .int (Int32.ofNat i))] [.int (Int32.ofNat i), .ref 29] (s_M4 21 c X Y wn g) u (fun big n0 => sg_mv_5 big n0 (s_M4 21 c X Y wn g) u t (Int32.ofNat i)) ?_
  refine q_iald (j := i) (q_ixn (by omega) (by omega)) rfl rfl ?_
  refine q_step 3 58 [(0, .ref 28), (1, .ref 20), (2, .int t), (3, .int (Int32.ofNat i))] [.int (Int32.ofNat i), .ref 33, .int (X i)] (s_M4 21 c X Y wn g) u (fun big n0 => sg_mv_6 big n0 (s_M4 21 c X Y wn g) u t (Int32.ofNat i) (X i)) ?_
  refine q_iald (j := i) (q_ixn (by omega) (by omega)) rfl rfl ?_
  refine q_step 1 60 [(0, .ref 28), (1, .ref 20), (2, .int t), (3, .int (Int32.ofNat i))] [.int (1 : Int32), .int (g 33 i), .int (X i)] (s_M4 21 c X Y wn g) u (fun big n0 => sg_mv_7 big n0 (s_M4 21 c X Y wn g) u t (Int32.ofNat i) (X i) (g 33 i)) ?_
  refine q_ic_ne rfl (fun hc1 => absurd (show (g 33 i) = (1 : Int32) from hc1) (by rw [hw]; decide)) (fun (hc1 : ¬ ((g 33 i) = (1 : Int32))) => ?_)
  refine q_step 3 72 [(0, .ref 28), (1, .ref 20), (2, .int t), (3, .int (Int32.ofNat i))] [.int (Int32.ofNat i), .ref 33, .int (X i)] (s_M4 21 c X Y wn g) u (fun big n0 => sg_mv_8 big n0 (s_M4 21 c X Y wn g) u t (Int32.ofNat i) (X i)) ?_
  refine q_iald (j := i) (q_ixn (by omega) (by omega)) rfl rfl ?_
  refine q_step 1 74 [(0, .ref 28), (1, .ref 20), (2, .int t), (3, .int (Int32.ofNat i))] [.int (3 : Int32), .int (g 33 i), .int (X i)] (s_M4 21 c X Y wn g) u (fun big n0 => sg_mv_9 big n0 (s_M4 21 c X Y wn g) u t (Int32.ofNat i) (X i) (g 33 i)) ?_
  refine q_ic_ne rfl (fun hc2 => absurd (show (g 33 i) = (3 : Int32) from hc2) (by rw [hw]; decide)) (fun (hc2 : ¬ ((g 33 i) = (3 : Int32))) => ?_)
  refine q_step 6 90 [(0, .ref 28), (1, .ref 20), (2, .int t), (3, .int (Int32.ofNat i)), (4, .int ((X i) + (0 : Int32)))] [.int (Int32.ofNat i), .ref 30] (s_M4 21 c X Y wn g) u (fun big n0 => sg_mv_10 big n0 (s_M4 21 c X Y wn g) u t (Int32.ofNat i) (X i)) ?_
  refine q_iald (j := i) (q_ixn (by omega) (by omega)) rfl rfl ?_
  refine q_step 3 96 [(0, .ref 28), (1, .ref 20), (2, .int t), (3, .int (Int32.ofNat i)), (4, .int ((X i) + (0 : Int32)))] [.int (Int32.ofNat i), .ref 33, .int (Y i)] (s_M4 21 c X Y wn g) u (fun big n0 => sg_mv_11 big n0 (s_M4 21 c X Y wn g) u t (Int32.ofNat i) ((X i) + (0 : Int32)) (Y i)) ?_
  refine q_iald (j := i) (q_ixn (by omega) (by omega)) rfl rfl ?_
  refine q_step 1 98 [(0, .ref 28), (1, .ref 20), (2, .int t), (3, .int (Int32.ofNat i)), (4, .int ((X i) + (0 : Int32)))] [.int (2 : Int32), .int (g 33 i), .int (Y i)] (s_M4 21 c X Y wn g) u (fun big n0 => sg_mv_12 big n0 (s_M4 21 c X Y wn g) u t (Int32.ofNat i) ((X i) + (0 : Int32)) (Y i) (g 33 i)) ?_
  refine q_ic_ne rfl (fun hc3 => absurd (show (g 33 i) = (2 : Int32) from hc3) (by rw [hw]; decide)) (fun (hc3 : ¬ ((g 33 i) = (2 : Int32))) => ?_)
  refine q_step 3 110 [(0, .ref 28), (1, .ref 20), (2, .int t), (3, .int (Int32.ofNat i)), (4, .int ((X i) + (0 : Int32)))] [.int (Int32.ofNat i), .ref 33, .int (Y i)] (s_M4 21 c X Y wn g) u (fun big n0 => sg_mv_13 big n0 (s_M4 21 c X Y wn g) u t (Int32.ofNat i) ((X i) + (0 : Int32)) (Y i)) ?_
  refine q_iald (j := i) (q_ixn (by omega) (by omega)) rfl rfl ?_
  refine q_if_ne rfl (fun hc4 => absurd (show (g 33 i) = 0 from hc4) (by rw [hw]; decide)) (fun (hc4 : ¬ ((g 33 i) = 0)) => ?_)
  refine q_step 11 136 [(0, .ref 28), (1, .ref 20), (2, .int t), (3, .int (Int32.ofNat i)), (4, .int ((X i) + (0 : Int32))), (5, .int ((Y i) + (0 : Int32))), (6, .int ((((Y i) + (0 : Int32)) * (g 20 0)) + ((X i) + (0 : Int32))))] [.int ((X i) + (0 : Int32))] (s_M4 21 c X Y wn g) u (fun big n0 => sg_mv_31 big n0 (s_M4 21 c X Y wn g) u t (Int32.ofNat i) ((X i) + (0 : Int32)) (Y i)) ?_
  refine q_if_lt rfl (fun (hc5 : ((X i) + (0 : Int32)) < 0) => ?_) (fun (hc5 : ¬ (((X i) + (0 : Int32)) < 0)) => ?_)
  · refine q_step 5 174 [(0, .ref 28), (1, .ref 20), (2, .int t), (3, .int (Int32.ofNat i)), (4, .int ((X i) + (0 : Int32))), (5, .int ((Y i) + (0 : Int32))), (6, .int ((((Y i) + (0 : Int32)) * (g 20 0)) + ((X i) + (0 : Int32)))), (7, .int (0 : Int32))] [.int (Int32.ofNat i), .ref 33] (s_M4 21 c X Y wn g) u (fun big n0 => sg_mv_15 big n0 (s_M4 21 c X Y wn g) u t (Int32.ofNat i) ((X i) + (0 : Int32)) ((Y i) + (0 : Int32)) ((((Y i) + (0 : Int32)) * (g 20 0)) + ((X i) + (0 : Int32)))) ?_
    refine q_iald (j := i) (q_ixn (by omega) (by omega)) rfl rfl ?_
    refine q_step 1 176 [(0, .ref 28), (1, .ref 20), (2, .int t), (3, .int (Int32.ofNat i)), (4, .int ((X i) + (0 : Int32))), (5, .int ((Y i) + (0 : Int32))), (6, .int ((((Y i) + (0 : Int32)) * (g 20 0)) + ((X i) + (0 : Int32)))), (7, .int (0 : Int32))] [.int (4 : Int32), .int (g 33 i)] (s_M4 21 c X Y wn g) u (fun big n0 => sg_mv_16 big n0 (s_M4 21 c X Y wn g) u t (Int32.ofNat i) ((X i) + (0 : Int32)) ((Y i) + (0 : Int32)) ((((Y i) + (0 : Int32)) * (g 20 0)) + ((X i) + (0 : Int32))) (g 33 i)) ?_
    refine q_ic_eq rfl (fun (hc6 : (g 33 i) = (4 : Int32)) => ?_) (fun hc6 => absurd (show (g 33 i) = (4 : Int32) from hw) hc6)
    refine q_step 2 39 [(0, .ref 28), (1, .ref 20), (2, .int t), (3, .int ((Int32.ofNat i) + (1 : Int32))), (4, .int ((X i) + (0 : Int32))), (5, .int ((Y i) + (0 : Int32))), (6, .int ((((Y i) + (0 : Int32)) * (g 20 0)) + ((X i) + (0 : Int32)))), (7, .int (0 : Int32))] [] (s_M4 21 c X Y wn g) u (fun big n0 => sg_mv_34 big n0 (s_M4 21 c X Y wn g) u t (Int32.ofNat i) ((X i) + (0 : Int32)) ((Y i) + (0 : Int32)) ((((Y i) + (0 : Int32)) * (g 20 0)) + ((X i) + (0 : Int32)))) ?_
    refine q_weak [(0, .ref 28), (1, .ref 20), (2, .int t), (3, .int ((Int32.ofNat i) + (1 : Int32)))] (q_sub.cons rfl (q_sub.cons rfl (q_sub.cons rfl (q_sub.cons rfl q_sub.nil)))) ?_
    rw [q_succ]
    exact hno (fun z => z.1 hw)
  · refine q_step 3 145 [(0, .ref 28), (1, .ref 20), (2, .int t), (3, .int (Int32.ofNat i)), (4, .int ((X i) + (0 : Int32))), (5, .int ((Y i) + (0 : Int32))), (6, .int ((((Y i) + (0 : Int32)) * (g 20 0)) + ((X i) + (0 : Int32))))] [.int (g 20 0), .int ((X i) + (0 : Int32))] (s_M4 21 c X Y wn g) u (fun big n0 => sg_mv_18 big n0 (s_M4 21 c X Y wn g) u t (Int32.ofNat i) ((X i) + (0 : Int32)) ((Y i) + (0 : Int32)) ((((Y i) + (0 : Int32)) * (g 20 0)) + ((X i) + (0 : Int32)))) ?_
    refine q_ic_ge rfl (fun (hc6 : (g 20 0) ≤ ((X i) + (0 : Int32))) => ?_) (fun (hc6 : ¬ ((g 20 0) ≤ ((X i) + (0 : Int32)))) => ?_)
    · refine q_step 5 174 [(0, .ref 28), (1, .ref 20), (2, .int t), (3, .int (Int32.ofNat i)), (4, .int ((X i) + (0 : Int32))), (5, .int ((Y i) + (0 : Int32))), (6, .int ((((Y i) + (0 : Int32)) * (g 20 0)) + ((X i) + (0 : Int32)))), (7, .int (0 : Int32))] [.int (Int32.ofNat i), .ref 33] (s_M4 21 c X Y wn g) u (fun big n0 => sg_mv_15 big n0 (s_M4 21 c X Y wn g) u t (Int32.ofNat i) ((X i) + (0 : Int32)) ((Y i) + (0 : Int32)) ((((Y i) + (0 : Int32)) * (g 20 0)) + ((X i) + (0 : Int32)))) ?_
      refine q_iald (j := i) (q_ixn (by omega) (by omega)) rfl rfl ?_
      refine q_step 1 176 [(0, .ref 28), (1, .ref 20), (2, .int t), (3, .int (Int32.ofNat i)), (4, .int ((X i) + (0 : Int32))), (5, .int ((Y i) + (0 : Int32))), (6, .int ((((Y i) + (0 : Int32)) * (g 20 0)) + ((X i) + (0 : Int32)))), (7, .int (0 : Int32))] [.int (4 : Int32), .int (g 33 i)] (s_M4 21 c X Y wn g) u (fun big n0 => sg_mv_16 big n0 (s_M4 21 c X Y wn g) u t (Int32.ofNat i) ((X i) + (0 : Int32)) ((Y i) + (0 : Int32)) ((((Y i) + (0 : Int32)) * (g 20 0)) + ((X i) + (0 : Int32))) (g 33 i)) ?_
      refine q_ic_eq rfl (fun (hc7 : (g 33 i) = (4 : Int32)) => ?_) (fun hc7 => absurd (show (g 33 i) = (4 : Int32) from hw) hc7)
      refine q_step 2 39 [(0, .ref 28), (1, .ref 20), (2, .int t), (3, .int ((Int32.ofNat i) + (1 : Int32))), (4, .int ((X i) + (0 : Int32))), (5, .int ((Y i) + (0 : Int32))), (6, .int ((((Y i) + (0 : Int32)) * (g 20 0)) + ((X i) + (0 : Int32)))), (7, .int (0 : Int32))] [] (s_M4 21 c X Y wn g) u (fun big n0 => sg_mv_34 big n0 (s_M4 21 c X Y wn g) u t (Int32.ofNat i) ((X i) + (0 : Int32)) ((Y i) + (0 : Int32)) ((((Y i) + (0 : Int32)) * (g 20 0)) + ((X i) + (0 : Int32)))) ?_
      refine q_weak [(0, .ref 28), (1, .ref 20), (2, .int t), (3, .int ((Int32.ofNat i) + (1 : Int32)))] (q_sub.cons rfl (q_sub.cons rfl (q_sub.cons rfl (q_sub.cons rfl q_sub.nil)))) ?_
      rw [q_succ]
      exact hno (fun z => z.1 hw)
    · refine q_step 1 150 [(0, .ref 28), (1, .ref 20), (2, .int t), (3, .int (Int32.ofNat i)), (4, .int ((X i) + (0 : Int32))), (5, .int ((Y i) + (0 : Int32))), (6, .int ((((Y i) + (0 : Int32)) * (g 20 0)) + ((X i) + (0 : Int32))))] [.int ((Y i) + (0 : Int32))] (s_M4 21 c X Y wn g) u (fun big n0 => sg_mv_19 big n0 (s_M4 21 c X Y wn g) u t (Int32.ofNat i) ((X i) + (0 : Int32)) ((Y i) + (0 : Int32)) ((((Y i) + (0 : Int32)) * (g 20 0)) + ((X i) + (0 : Int32)))) ?_
      refine q_if_lt rfl (fun (hc7 : ((Y i) + (0 : Int32)) < 0) => ?_) (fun (hc7 : ¬ (((Y i) + (0 : Int32)) < 0)) => ?_)
      · refine q_step 5 174 [(0, .ref 28), (1, .ref 20), (2, .int t), (3, .int (Int32.ofNat i)), (4, .int ((X i) + (0 : Int32))), (5, .int ((Y i) + (0 : Int32))), (6, .int ((((Y i) + (0 : Int32)) * (g 20 0)) + ((X i) + (0 : Int32)))), (7, .int (0 : Int32))] [.int (Int32.ofNat i), .ref 33] (s_M4 21 c X Y wn g) u (fun big n0 => sg_mv_15 big n0 (s_M4 21 c X Y wn g) u t (Int32.ofNat i) ((X i) + (0 : Int32)) ((Y i) + (0 : Int32)) ((((Y i) + (0 : Int32)) * (g 20 0)) + ((X i) + (0 : Int32)))) ?_
        refine q_iald (j := i) (q_ixn (by omega) (by omega)) rfl rfl ?_
        refine q_step 1 176 [(0, .ref 28), (1, .ref 20), (2, .int t), (3, .int (Int32.ofNat i)), (4, .int ((X i) + (0 : Int32))), (5, .int ((Y i) + (0 : Int32))), (6, .int ((((Y i) + (0 : Int32)) * (g 20 0)) + ((X i) + (0 : Int32)))), (7, .int (0 : Int32))] [.int (4 : Int32), .int (g 33 i)] (s_M4 21 c X Y wn g) u (fun big n0 => sg_mv_16 big n0 (s_M4 21 c X Y wn g) u t (Int32.ofNat i) ((X i) + (0 : Int32)) ((Y i) + (0 : Int32)) ((((Y i) + (0 : Int32)) * (g 20 0)) + ((X i) + (0 : Int32))) (g 33 i)) ?_
        refine q_ic_eq rfl (fun (hc8 : (g 33 i) = (4 : Int32)) => ?_) (fun hc8 => absurd (show (g 33 i) = (4 : Int32) from hw) hc8)
        refine q_step 2 39 [(0, .ref 28), (1, .ref 20), (2, .int t), (3, .int ((Int32.ofNat i) + (1 : Int32))), (4, .int ((X i) + (0 : Int32))), (5, .int ((Y i) + (0 : Int32))), (6, .int ((((Y i) + (0 : Int32)) * (g 20 0)) + ((X i) + (0 : Int32)))), (7, .int (0 : Int32))] [] (s_M4 21 c X Y wn g) u (fun big n0 => sg_mv_34 big n0 (s_M4 21 c X Y wn g) u t (Int32.ofNat i) ((X i) + (0 : Int32)) ((Y i) + (0 : Int32)) ((((Y i) + (0 : Int32)) * (g 20 0)) + ((X i) + (0 : Int32)))) ?_
        refine q_weak [(0, .ref 28), (1, .ref 20), (2, .int t), (3, .int ((Int32.ofNat i) + (1 : Int32)))] (q_sub.cons rfl (q_sub.cons rfl (q_sub.cons rfl (q_sub.cons rfl q_sub.nil)))) ?_
        rw [q_succ]
        exact hno (fun z => z.1 hw)
      · refine q_step 3 159 [(0, .ref 28), (1, .ref 20), (2, .int t), (3, .int (Int32.ofNat i)), (4, .int ((X i) + (0 : Int32))), (5, .int ((Y i) + (0 : Int32))), (6, .int ((((Y i) + (0 : Int32)) * (g 20 0)) + ((X i) + (0 : Int32))))] [.int (g 20 1), .int ((Y i) + (0 : Int32))] (s_M4 21 c X Y wn g) u (fun big n0 => sg_mv_20 big n0 (s_M4 21 c X Y wn g) u t (Int32.ofNat i) ((X i) + (0 : Int32)) ((Y i) + (0 : Int32)) ((((Y i) + (0 : Int32)) * (g 20 0)) + ((X i) + (0 : Int32)))) ?_
        refine q_ic_ge rfl (fun (hc8 : (g 20 1) ≤ ((Y i) + (0 : Int32))) => ?_) (fun (hc8 : ¬ ((g 20 1) ≤ ((Y i) + (0 : Int32)))) => ?_)
        · refine q_step 5 174 [(0, .ref 28), (1, .ref 20), (2, .int t), (3, .int (Int32.ofNat i)), (4, .int ((X i) + (0 : Int32))), (5, .int ((Y i) + (0 : Int32))), (6, .int ((((Y i) + (0 : Int32)) * (g 20 0)) + ((X i) + (0 : Int32)))), (7, .int (0 : Int32))] [.int (Int32.ofNat i), .ref 33] (s_M4 21 c X Y wn g) u (fun big n0 => sg_mv_15 big n0 (s_M4 21 c X Y wn g) u t (Int32.ofNat i) ((X i) + (0 : Int32)) ((Y i) + (0 : Int32)) ((((Y i) + (0 : Int32)) * (g 20 0)) + ((X i) + (0 : Int32)))) ?_
          refine q_iald (j := i) (q_ixn (by omega) (by omega)) rfl rfl ?_
          refine q_step 1 176 [(0, .ref 28), (1, .ref 20), (2, .int t), (3, .int (Int32.ofNat i)), (4, .int ((X i) + (0 : Int32))), (5, .int ((Y i) + (0 : Int32))), (6, .int ((((Y i) + (0 : Int32)) * (g 20 0)) + ((X i) + (0 : Int32)))), (7, .int (0 : Int32))] [.int (4 : Int32), .int (g 33 i)] (s_M4 21 c X Y wn g) u (fun big n0 => sg_mv_16 big n0 (s_M4 21 c X Y wn g) u t (Int32.ofNat i) ((X i) + (0 : Int32)) ((Y i) + (0 : Int32)) ((((Y i) + (0 : Int32)) * (g 20 0)) + ((X i) + (0 : Int32))) (g 33 i)) ?_
          refine q_ic_eq rfl (fun (hc9 : (g 33 i) = (4 : Int32)) => ?_) (fun hc9 => absurd (show (g 33 i) = (4 : Int32) from hw) hc9)
          refine q_step 2 39 [(0, .ref 28), (1, .ref 20), (2, .int t), (3, .int ((Int32.ofNat i) + (1 : Int32))), (4, .int ((X i) + (0 : Int32))), (5, .int ((Y i) + (0 : Int32))), (6, .int ((((Y i) + (0 : Int32)) * (g 20 0)) + ((X i) + (0 : Int32)))), (7, .int (0 : Int32))] [] (s_M4 21 c X Y wn g) u (fun big n0 => sg_mv_34 big n0 (s_M4 21 c X Y wn g) u t (Int32.ofNat i) ((X i) + (0 : Int32)) ((Y i) + (0 : Int32)) ((((Y i) + (0 : Int32)) * (g 20 0)) + ((X i) + (0 : Int32)))) ?_
          refine q_weak [(0, .ref 28), (1, .ref 20), (2, .int t), (3, .int ((Int32.ofNat i) + (1 : Int32)))] (q_sub.cons rfl (q_sub.cons rfl (q_sub.cons rfl (q_sub.cons rfl q_sub.nil)))) ?_
          rw [q_succ]
          exact hno (fun z => z.1 hw)
        · refine q_step 6 174 [(0, .ref 28), (1, .ref 20), (2, .int t), (3, .int (Int32.ofNat i)), (4, .int ((X i) + (0 : Int32))), (5, .int ((Y i) + (0 : Int32))), (6, .int ((((Y i) + (0 : Int32)) * (g 20 0)) + ((X i) + (0 : Int32)))), (7, .int (1 : Int32))] [.int (Int32.ofNat i), .ref 33] (s_M4 21 c X Y wn g) u (fun big n0 => sg_mv_21 big n0 (s_M4 21 c X Y wn g) u t (Int32.ofNat i) ((X i) + (0 : Int32)) ((Y i) + (0 : Int32)) ((((Y i) + (0 : Int32)) * (g 20 0)) + ((X i) + (0 : Int32)))) ?_
          refine q_iald (j := i) (q_ixn (by omega) (by omega)) rfl rfl ?_
          refine q_step 1 176 [(0, .ref 28), (1, .ref 20), (2, .int t), (3, .int (Int32.ofNat i)), (4, .int ((X i) + (0 : Int32))), (5, .int ((Y i) + (0 : Int32))), (6, .int ((((Y i) + (0 : Int32)) * (g 20 0)) + ((X i) + (0 : Int32)))), (7, .int (1 : Int32))] [.int (4 : Int32), .int (g 33 i)] (s_M4 21 c X Y wn g) u (fun big n0 => sg_mv_22 big n0 (s_M4 21 c X Y wn g) u t (Int32.ofNat i) ((X i) + (0 : Int32)) ((Y i) + (0 : Int32)) ((((Y i) + (0 : Int32)) * (g 20 0)) + ((X i) + (0 : Int32))) (g 33 i)) ?_
          refine q_ic_eq rfl (fun (hc9 : (g 33 i) = (4 : Int32)) => ?_) (fun hc9 => absurd (show (g 33 i) = (4 : Int32) from hw) hc9)
          refine q_step 2 39 [(0, .ref 28), (1, .ref 20), (2, .int t), (3, .int ((Int32.ofNat i) + (1 : Int32))), (4, .int ((X i) + (0 : Int32))), (5, .int ((Y i) + (0 : Int32))), (6, .int ((((Y i) + (0 : Int32)) * (g 20 0)) + ((X i) + (0 : Int32)))), (7, .int (1 : Int32))] [] (s_M4 21 c X Y wn g) u (fun big n0 => sg_mv_29 big n0 (s_M4 21 c X Y wn g) u t (Int32.ofNat i) ((X i) + (0 : Int32)) ((Y i) + (0 : Int32)) ((((Y i) + (0 : Int32)) * (g 20 0)) + ((X i) + (0 : Int32)))) ?_
          refine q_weak [(0, .ref 28), (1, .ref 20), (2, .int t), (3, .int ((Int32.ofNat i) + (1 : Int32)))] (q_sub.cons rfl (q_sub.cons rfl (q_sub.cons rfl (q_sub.cons rfl q_sub.nil)))) ?_
          rw [q_succ]
          exact hno (fun z => z.1 hw)
theorem mm_20 (g : qM) (u : qW) {n : Nat} (hn : g 20 3 = Int32.ofNat n) (h6 : n ≤ 6) (hy : ∀ p, p < n → g 33 p = 0 ∨ g 33 p = 1 ∨ g 33 p = 2 ∨ g 33 p = 3 ∨ g 33 p = 4) : ∀ k i c X Y t wn, i + k = n → q_EV m_69 39 [(0, .ref 28), (1, .ref 20), (2, .int t), (3, .int (Int32.ofNat i))] [] (s_M4 21 c X Y wn g) u (fun R => R = (none, s_M4 21 (s_mv (g 20 0) (g 20 1) (g 33) k i c X Y t wn).1 (s_mv (g 20 0) (g 20 1) (g 33) k i c X Y t wn).2.1 (s_mv (g 20 0) (g 20 1) (g 33) k i c X Y t wn).2.2.1 (s_mv (g 20 0) (g 20 1) (g 33) k i c X Y t wn).2.2.2.2 g, u)) := by
  intro k
  induction k with
  | zero =>
    intro i c X Y t wn hi
    refine q_step 3 44 [(0, .ref 28), (1, .ref 20), (2, .int t), (3, .int (Int32.ofNat i))] [.int (g 20 3), .int (Int32.ofNat i)] (s_M4 21 c X Y wn g) u (fun big n0 => sg_mv_4 big n0 (s_M4 21 c X Y wn g) u t (Int32.ofNat i)) ?_
    refine q_ic_ge rfl (fun (hc0 : (g 20 3) ≤ (Int32.ofNat i)) => ?_) (fun hc0 => absurd (show (g 20 3) ≤ (Int32.ofNat i) from by rw [hn, q_le (by omega) (by omega)]; omega) hc0)
    refine q_ret 1 (none, (s_M4 21 c X Y wn g), u) (fun _ _ => rfl) ?_
    rfl
  | succ k ih =>
    intro i c X Y t wn hi
    rcases hy i (by omega) with hw | hw | hw | hw | hw
    · exact mb_20_0 g u hn h6 (by omega) hw (fun z => by rw [s_mv_go z]; exact ih (i + 1) _ _ _ _ _ (by omega)) (fun z => by rw [s_mv_no z]; exact ih (i + 1) _ _ _ _ _ (by omega))
    · exact mb_20_1 g u hn h6 (by omega) hw (fun z => by rw [s_mv_go z]; exact ih (i + 1) _ _ _ _ _ (by omega)) (fun z => by rw [s_mv_no z]; exact ih (i + 1) _ _ _ _ _ (by omega))
    · exact mb_20_2 g u hn h6 (by omega) hw (fun z => by rw [s_mv_go z]; exact ih (i + 1) _ _ _ _ _ (by omega)) (fun z => by rw [s_mv_no z]; exact ih (i + 1) _ _ _ _ _ (by omega))
    · exact mb_20_3 g u hn h6 (by omega) hw (fun z => by rw [s_mv_go z]; exact ih (i + 1) _ _ _ _ _ (by omega)) (fun z => by rw [s_mv_no z]; exact ih (i + 1) _ _ _ _ _ (by omega))
    · exact mb_20_4 g u hn h6 (by omega) hw (fun z => by rw [s_mv_go z]; exact ih (i + 1) _ _ _ _ _ (by omega)) (fun z => by rw [s_mv_no z]; exact ih (i + 1) _ _ _ _ _ (by omega))
theorem b_move20 (g : qM) (u : qW) {n : Nat} (hn : g 20 3 = Int32.ofNat n) (h6 : n ≤ 6) (hy : ∀ p, p < n → g 33 p = 0 ∨ g 33 p = 1 ∨ g 33 p = 2 ∨ g 33 p = 3 ∨ g 33 p = 4) : q_BS 69 [.ref 28, .ref 20] g u (none, s_move 20 n g, u) := by
  refine q_bx (mm := m_69) rfl (Nat.le_of_ble_eq_true rfl) rfl ?_
  refine q_step 5 7 [(0, .ref 28), (1, .ref 20), (2, .int (g 20 2)), (3, .int (0 : Int32))] [] g u (fun big n0 => sg_mv_35 big n0 g u) ?_
  refine mt_20 g u hn h6 n 0 _ (by omega) (fun x => ?_)
  refine q_step 5 39 [(0, .ref 28), (1, .ref 20), (2, .int (s_tk (g 21) n 0 (g 20 2))), (3, .int (0 : Int32))] [] (q_up g 28 5 (0 : Int32)) u (fun big n0 => sg_mv_36 big n0 g u (s_tk (g 21) n 0 (g 20 2)) x) ?_
  have e := mm_20 g u hn h6 hy n 0 (g 21) (g 29) (g 30) (s_tk (g 21) n 0 (g 20 2)) 0 (by omega)
  have e2 : s_M4 21 (g 21) (g 29) (g 30) 0 g = q_up g 28 5 0 := by
    funext a j
    simp only [q_up_eq, s_M4]
    by_cases h1 : a = 21
    · simp [h1]
    · by_cases h2 : a = 29
      · simp [h2]
      · by_cases h3 : a = 30
        · simp [h3]
        · by_cases h4 : a = 28
          · simp [h4]
          · simp [h1, h2, h3, h4]
  rw [e2] at e
  exact e
theorem mt_35 (g : qM) (u : qW) {Q : Option Value × qM × qW → Prop} {n : Nat} (hn : g 35 3 = Int32.ofNat n) (h6 : n ≤ 6) : ∀ k i t, i + k = n → (∀ x, q_EV m_69 32 [(0, .ref 28), (1, .ref 35), (2, .int (s_tk (g 36) k i t)), (3, .int x)] [] g u Q) → q_EV m_69 7 [(0, .ref 28), (1, .ref 35), (2, .int t), (3, .int (Int32.ofNat i))] [] g u Q := by
  intro k
  induction k with
  | zero =>
    intro i t hi hE
    refine q_step 3 12 [(0, .ref 28), (1, .ref 35), (2, .int t), (3, .int (Int32.ofNat i))] [.int (g 35 3), .int (Int32.ofNat i)] g u (fun big n0 => sg_mv_37 big n0 g u t (Int32.ofNat i)) ?_
    refine q_ic_ge rfl (fun (hc0 : (g 35 3) ≤ (Int32.ofNat i)) => ?_) (fun hc0 => absurd (show (g 35 3) ≤ (Int32.ofNat i) from by rw [hn, q_le (by omega) (by omega)]; omega) hc0)
    exact hE _
  | succ k ih =>
    intro i t hi hE
    refine q_step 3 12 [(0, .ref 28), (1, .ref 35), (2, .int t), (3, .int (Int32.ofNat i))] [.int (g 35 3), .int (Int32.ofNat i)] g u (fun big n0 => sg_mv_37 big n0 g u t (Int32.ofNat i)) ?_
    refine q_ic_ge rfl (fun hc0 => absurd (show (g 35 3) ≤ (Int32.ofNat i) from hc0) (fun z => by rw [hn, q_le (by omega) (by omega)] at z; omega)) (fun (hc0 : ¬ ((g 35 3) ≤ (Int32.ofNat i))) => ?_)
    refine q_step 5 22 [(0, .ref 28), (1, .ref 35), (2, .int t), (3, .int (Int32.ofNat i))] [.int (Int32.ofNat i), .ref 36, .int (1 : Int32), .int t] g u (fun big n0 => sg_mv_38 big n0 g u t (Int32.ofNat i)) ?_
    refine q_iald (j := i) (q_ixn (by omega) (by omega)) rfl rfl ?_
    refine q_step 5 7 [(0, .ref 28), (1, .ref 35), (2, .int (t ||| ((1 : Int32) <<< ((g 36 i) &&& 31)))), (3, .int ((Int32.ofNat i) + (1 : Int32)))] [] g u (fun big n0 => sg_mv_39 big n0 g u t (Int32.ofNat i) t (g 36 i)) ?_
    rw [q_succ]
    exact ih (i + 1) _ (by omega) hE
theorem mb_35_0 (g : qM) (u : qW) {Q : Option Value × qM × qW → Prop} {n i : Nat} (hn : g 35 3 = Int32.ofNat n) (h6 : n ≤ 6) (hi : i < n) (hw : g 33 i = 0) {c X Y : Nat → Int32} {t wn : Int32} (hgo : s_gc (g 35 0) (g 35 1) (g 33 i) (X i) (Y i) t → q_EV m_69 39 [(0, .ref 28), (1, .ref 35), (2, .int ((t &&& (((1 : Int32) <<< (c i &&& 31)) ^^^ Int32.ofInt (-1))) ||| ((1 : Int32) <<< (((Y i + s_cy (g 33 i)) * (g 35 0) + (X i + s_cx (g 33 i))) &&& 31)))), (3, .int (Int32.ofNat (i + 1)))] [] (s_M4 36 (s_set c i ((Y i + s_cy (g 33 i)) * (g 35 0) + (X i + s_cx (g 33 i)))) (s_set X i (X i + s_cx (g 33 i))) (s_set Y i (Y i + s_cy (g 33 i))) (wn ||| ((1 : Int32) <<< (Int32.ofNat i &&& 31))) g) u Q) (hno : ¬ s_gc (g 35 0) (g 35 1) (g 33 i) (X i) (Y i) t → q_EV m_69 39 [(0, .ref 28), (1, .ref 35), (2, .int t), (3, .int (Int32.ofNat (i + 1)))] [] (s_M4 36 c X Y wn g) u Q) : q_EV m_69 39 [(0, .ref 28), (1, .ref 35), (2, .int t), (3, .int (Int32.ofNat i))] [] (s_M4 36 c X Y wn g) u Q := by
  have e1 : s_cx (g 33 i) = (0 : Int32) := by rw [hw]; rfl
  have e2 : s_cy (g 33 i) = (Int32.ofInt (-1)) := by rw [hw]; rfl
  rw [e1, e2] at hgo
  refine q_step 3 44 [(0, .ref 28), (1, .ref 35), (2, .int t), (3, .int (Int32.ofNat i))] [.int (g 35 3), .int (Int32.ofNat i)] (s_M4 36 c X Y wn g) u (fun big n0 => sg_mv_40 big n0 (s_M4 36 c X Y wn g) u t (Int32.ofNat i)) ?_
  refine q_ic_ge rfl (fun hc0 => absurd (show (g 35 3) ≤ (Int32.ofNat i) from hc0) (fun z => by rw [hn, q_le (by omega) (by omega)] at z; omega)) (fun (hc0 : ¬ ((g 35 3) ≤ (Int32.ofNat i))) => ?_)
  refine q_step 3 52 [(0, .ref 28), (1, .ref 35), (2, .int t), (3, .int (Int32.ofNat i))] [.int (Int32.ofNat i), .ref 29] (s_M4 36 c X Y wn g) u (fun big n0 => sg_mv_41 big n0 (s_M4 36 c X Y wn g) u t (Int32.ofNat i)) ?_
  refine q_iald (j := i) (q_ixn (by omega) (by omega)) rfl rfl ?_
  refine q_step 3 58 [(0, .ref 28), (1, .ref 35), (2, .int t), (3, .int (Int32.ofNat i))] [.int (Int32.ofNat i), .ref 33, .int (X i)] (s_M4 36 c X Y wn g) u (fun big n0 => sg_mv_42 big n0 (s_M4 36 c X Y wn g) u t (Int32.ofNat i) (X i)) ?_
  refine q_iald (j := i) (q_ixn (by omega) (by omega)) rfl rfl ?_
  refine q_step 1 60 [(0, .ref 28), (1, .ref 35), (2, .int t), (3, .int (Int32.ofNat i))] [.int (1 : Int32), .int (g 33 i), .int (X i)] (s_M4 36 c X Y wn g) u (fun big n0 => sg_mv_43 big n0 (s_M4 36 c X Y wn g) u t (Int32.ofNat i) (X i) (g 33 i)) ?_
  refine q_ic_ne rfl (fun hc1 => absurd (show (g 33 i) = (1 : Int32) from hc1) (by rw [hw]; decide)) (fun (hc1 : ¬ ((g 33 i) = (1 : Int32))) => ?_)
  refine q_step 3 72 [(0, .ref 28), (1, .ref 35), (2, .int t), (3, .int (Int32.ofNat i))] [.int (Int32.ofNat i), .ref 33, .int (X i)] (s_M4 36 c X Y wn g) u (fun big n0 => sg_mv_44 big n0 (s_M4 36 c X Y wn g) u t (Int32.ofNat i) (X i)) ?_
  refine q_iald (j := i) (q_ixn (by omega) (by omega)) rfl rfl ?_
  refine q_step 1 74 [(0, .ref 28), (1, .ref 35), (2, .int t), (3, .int (Int32.ofNat i))] [.int (3 : Int32), .int (g 33 i), .int (X i)] (s_M4 36 c X Y wn g) u (fun big n0 => sg_mv_45 big n0 (s_M4 36 c X Y wn g) u t (Int32.ofNat i) (X i) (g 33 i)) ?_
  refine q_ic_ne rfl (fun hc2 => absurd (show (g 33 i) = (3 : Int32) from hc2) (by rw [hw]; decide)) (fun (hc2 : ¬ ((g 33 i) = (3 : Int32))) => ?_)
  refine q_step 6 90 [(0, .ref 28), (1, .ref 35), (2, .int t), (3, .int (Int32.ofNat i)), (4, .int ((X i) + (0 : Int32)))] [.int (Int32.ofNat i), .ref 30] (s_M4 36 c X Y wn g) u (fun big n0 => sg_mv_46 big n0 (s_M4 36 c X Y wn g) u t (Int32.ofNat i) (X i)) ?_
  refine q_iald (j := i) (q_ixn (by omega) (by omega)) rfl rfl ?_
  refine q_step 3 96 [(0, .ref 28), (1, .ref 35), (2, .int t), (3, .int (Int32.ofNat i)), (4, .int ((X i) + (0 : Int32)))] [.int (Int32.ofNat i), .ref 33, .int (Y i)] (s_M4 36 c X Y wn g) u (fun big n0 => sg_mv_47 big n0 (s_M4 36 c X Y wn g) u t (Int32.ofNat i) ((X i) + (0 : Int32)) (Y i)) ?_
  refine q_iald (j := i) (q_ixn (by omega) (by omega)) rfl rfl ?_
  refine q_step 1 98 [(0, .ref 28), (1, .ref 35), (2, .int t), (3, .int (Int32.ofNat i)), (4, .int ((X i) + (0 : Int32)))] [.int (2 : Int32), .int (g 33 i), .int (Y i)] (s_M4 36 c X Y wn g) u (fun big n0 => sg_mv_48 big n0 (s_M4 36 c X Y wn g) u t (Int32.ofNat i) ((X i) + (0 : Int32)) (Y i) (g 33 i)) ?_
  refine q_ic_ne rfl (fun hc3 => absurd (show (g 33 i) = (2 : Int32) from hc3) (by rw [hw]; decide)) (fun (hc3 : ¬ ((g 33 i) = (2 : Int32))) => ?_)
  refine q_step 3 110 [(0, .ref 28), (1, .ref 35), (2, .int t), (3, .int (Int32.ofNat i)), (4, .int ((X i) + (0 : Int32)))] [.int (Int32.ofNat i), .ref 33, .int (Y i)] (s_M4 36 c X Y wn g) u (fun big n0 => sg_mv_49 big n0 (s_M4 36 c X Y wn g) u t (Int32.ofNat i) ((X i) + (0 : Int32)) (Y i)) ?_
  refine q_iald (j := i) (q_ixn (by omega) (by omega)) rfl rfl ?_
  refine q_if_ne rfl (fun (hc4 : (g 33 i) = 0) => ?_) (fun hc4 => absurd (show (g 33 i) = 0 from hw) hc4)
  refine q_step 12 136 [(0, .ref 28), (1, .ref 35), (2, .int t), (3, .int (Int32.ofNat i)), (4, .int ((X i) + (0 : Int32))), (5, .int ((Y i) + (Int32.ofInt (-1)))), (6, .int ((((Y i) + (Int32.ofInt (-1))) * (g 35 0)) + ((X i) + (0 : Int32))))] [.int ((X i) + (0 : Int32))] (s_M4 36 c X Y wn g) u (fun big n0 => sg_mv_50 big n0 (s_M4 36 c X Y wn g) u t (Int32.ofNat i) ((X i) + (0 : Int32)) (Y i)) ?_
  refine q_if_lt rfl (fun (hc5 : ((X i) + (0 : Int32)) < 0) => ?_) (fun (hc5 : ¬ (((X i) + (0 : Int32)) < 0)) => ?_)
  · refine q_step 5 174 [(0, .ref 28), (1, .ref 35), (2, .int t), (3, .int (Int32.ofNat i)), (4, .int ((X i) + (0 : Int32))), (5, .int ((Y i) + (Int32.ofInt (-1)))), (6, .int ((((Y i) + (Int32.ofInt (-1))) * (g 35 0)) + ((X i) + (0 : Int32)))), (7, .int (0 : Int32))] [.int (Int32.ofNat i), .ref 33] (s_M4 36 c X Y wn g) u (fun big n0 => sg_mv_51 big n0 (s_M4 36 c X Y wn g) u t (Int32.ofNat i) ((X i) + (0 : Int32)) ((Y i) + (Int32.ofInt (-1))) ((((Y i) + (Int32.ofInt (-1))) * (g 35 0)) + ((X i) + (0 : Int32)))) ?_
    refine q_iald (j := i) (q_ixn (by omega) (by omega)) rfl rfl ?_
    refine q_step 1 176 [(0, .ref 28), (1, .ref 35), (2, .int t), (3, .int (Int32.ofNat i)), (4, .int ((X i) + (0 : Int32))), (5, .int ((Y i) + (Int32.ofInt (-1)))), (6, .int ((((Y i) + (Int32.ofInt (-1))) * (g 35 0)) + ((X i) + (0 : Int32)))), (7, .int (0 : Int32))] [.int (4 : Int32), .int (g 33 i)] (s_M4 36 c X Y wn g) u (fun big n0 => sg_mv_52 big n0 (s_M4 36 c X Y wn g) u t (Int32.ofNat i) ((X i) + (0 : Int32)) ((Y i) + (Int32.ofInt (-1))) ((((Y i) + (Int32.ofInt (-1))) * (g 35 0)) + ((X i) + (0 : Int32))) (g 33 i)) ?_
    refine q_ic_eq rfl (fun hc6 => absurd (show (g 33 i) = (4 : Int32) from hc6) (by rw [hw]; decide)) (fun (hc6 : ¬ ((g 33 i) = (4 : Int32))) => ?_)
    refine q_step 4 39 [(0, .ref 28), (1, .ref 35), (2, .int t), (3, .int ((Int32.ofNat i) + (1 : Int32))), (4, .int ((X i) + (0 : Int32))), (5, .int ((Y i) + (Int32.ofInt (-1)))), (6, .int ((((Y i) + (Int32.ofInt (-1))) * (g 35 0)) + ((X i) + (0 : Int32)))), (7, .int (0 : Int32))] [] (s_M4 36 c X Y wn g) u (fun big n0 => sg_mv_53 big n0 (s_M4 36 c X Y wn g) u t (Int32.ofNat i) ((X i) + (0 : Int32)) ((Y i) + (Int32.ofInt (-1))) ((((Y i) + (Int32.ofInt (-1))) * (g 35 0)) + ((X i) + (0 : Int32)))) ?_
    refine q_weak [(0, .ref 28), (1, .ref 35), (2, .int t), (3, .int ((Int32.ofNat i) + (1 : Int32)))] (q_sub.cons rfl (q_sub.cons rfl (q_sub.cons rfl (q_sub.cons rfl q_sub.nil)))) ?_
    rw [q_succ]
    exact hno (fun z => by unfold s_gc at z; rw [e1, e2, hw] at z; exact z.2.1.1 hc5)
  · refine q_step 3 145 [(0, .ref 28), (1, .ref 35), (2, .int t), (3, .int (Int32.ofNat i)), (4, .int ((X i) + (0 : Int32))), (5, .int ((Y i) + (Int32.ofInt (-1)))), (6, .int ((((Y i) + (Int32.ofInt (-1))) * (g 35 0)) + ((X i) + (0 : Int32))))] [.int (g 35 0), .int ((X i) + (0 : Int32))] (s_M4 36 c X Y wn g) u (fun big n0 => sg_mv_54 big n0 (s_M4 36 c X Y wn g) u t (Int32.ofNat i) ((X i) + (0 : Int32)) ((Y i) + (Int32.ofInt (-1))) ((((Y i) + (Int32.ofInt (-1))) * (g 35 0)) + ((X i) + (0 : Int32)))) ?_
    refine q_ic_ge rfl (fun (hc6 : (g 35 0) ≤ ((X i) + (0 : Int32))) => ?_) (fun (hc6 : ¬ ((g 35 0) ≤ ((X i) + (0 : Int32)))) => ?_)
    · refine q_step 5 174 [(0, .ref 28), (1, .ref 35), (2, .int t), (3, .int (Int32.ofNat i)), (4, .int ((X i) + (0 : Int32))), (5, .int ((Y i) + (Int32.ofInt (-1)))), (6, .int ((((Y i) + (Int32.ofInt (-1))) * (g 35 0)) + ((X i) + (0 : Int32)))), (7, .int (0 : Int32))] [.int (Int32.ofNat i), .ref 33] (s_M4 36 c X Y wn g) u (fun big n0 => sg_mv_51 big n0 (s_M4 36 c X Y wn g) u t (Int32.ofNat i) ((X i) + (0 : Int32)) ((Y i) + (Int32.ofInt (-1))) ((((Y i) + (Int32.ofInt (-1))) * (g 35 0)) + ((X i) + (0 : Int32)))) ?_
      refine q_iald (j := i) (q_ixn (by omega) (by omega)) rfl rfl ?_
      refine q_step 1 176 [(0, .ref 28), (1, .ref 35), (2, .int t), (3, .int (Int32.ofNat i)), (4, .int ((X i) + (0 : Int32))), (5, .int ((Y i) + (Int32.ofInt (-1)))), (6, .int ((((Y i) + (Int32.ofInt (-1))) * (g 35 0)) + ((X i) + (0 : Int32)))), (7, .int (0 : Int32))] [.int (4 : Int32), .int (g 33 i)] (s_M4 36 c X Y wn g) u (fun big n0 => sg_mv_52 big n0 (s_M4 36 c X Y wn g) u t (Int32.ofNat i) ((X i) + (0 : Int32)) ((Y i) + (Int32.ofInt (-1))) ((((Y i) + (Int32.ofInt (-1))) * (g 35 0)) + ((X i) + (0 : Int32))) (g 33 i)) ?_
      refine q_ic_eq rfl (fun hc7 => absurd (show (g 33 i) = (4 : Int32) from hc7) (by rw [hw]; decide)) (fun (hc7 : ¬ ((g 33 i) = (4 : Int32))) => ?_)
      refine q_step 4 39 [(0, .ref 28), (1, .ref 35), (2, .int t), (3, .int ((Int32.ofNat i) + (1 : Int32))), (4, .int ((X i) + (0 : Int32))), (5, .int ((Y i) + (Int32.ofInt (-1)))), (6, .int ((((Y i) + (Int32.ofInt (-1))) * (g 35 0)) + ((X i) + (0 : Int32)))), (7, .int (0 : Int32))] [] (s_M4 36 c X Y wn g) u (fun big n0 => sg_mv_53 big n0 (s_M4 36 c X Y wn g) u t (Int32.ofNat i) ((X i) + (0 : Int32)) ((Y i) + (Int32.ofInt (-1))) ((((Y i) + (Int32.ofInt (-1))) * (g 35 0)) + ((X i) + (0 : Int32)))) ?_
      refine q_weak [(0, .ref 28), (1, .ref 35), (2, .int t), (3, .int ((Int32.ofNat i) + (1 : Int32)))] (q_sub.cons rfl (q_sub.cons rfl (q_sub.cons rfl (q_sub.cons rfl q_sub.nil)))) ?_
      rw [q_succ]
      exact hno (fun z => by unfold s_gc at z; rw [e1, e2, hw] at z; exact z.2.1.2.1 hc6)
    · refine q_step 1 150 [(0, .ref 28), (1, .ref 35), (2, .int t), (3, .int (Int32.ofNat i)), (4, .int ((X i) + (0 : Int32))), (5, .int ((Y i) + (Int32.ofInt (-1)))), (6, .int ((((Y i) + (Int32.ofInt (-1))) * (g 35 0)) + ((X i) + (0 : Int32))))] [.int ((Y i) + (Int32.ofInt (-1)))] (s_M4 36 c X Y wn g) u (fun big n0 => sg_mv_55 big n0 (s_M4 36 c X Y wn g) u t (Int32.ofNat i) ((X i) + (0 : Int32)) ((Y i) + (Int32.ofInt (-1))) ((((Y i) + (Int32.ofInt (-1))) * (g 35 0)) + ((X i) + (0 : Int32)))) ?_
      refine q_if_lt rfl (fun (hc7 : ((Y i) + (Int32.ofInt (-1))) < 0) => ?_) (fun (hc7 : ¬ (((Y i) + (Int32.ofInt (-1))) < 0)) => ?_)
      · refine q_step 5 174 [(0, .ref 28), (1, .ref 35), (2, .int t), (3, .int (Int32.ofNat i)), (4, .int ((X i) + (0 : Int32))), (5, .int ((Y i) + (Int32.ofInt (-1)))), (6, .int ((((Y i) + (Int32.ofInt (-1))) * (g 35 0)) + ((X i) + (0 : Int32)))), (7, .int (0 : Int32))] [.int (Int32.ofNat i), .ref 33] (s_M4 36 c X Y wn g) u (fun big n0 => sg_mv_51 big n0 (s_M4 36 c X Y wn g) u t (Int32.ofNat i) ((X i) + (0 : Int32)) ((Y i) + (Int32.ofInt (-1))) ((((Y i) + (Int32.ofInt (-1))) * (g 35 0)) + ((X i) + (0 : Int32)))) ?_
        refine q_iald (j := i) (q_ixn (by omega) (by omega)) rfl rfl ?_
        refine q_step 1 176 [(0, .ref 28), (1, .ref 35), (2, .int t), (3, .int (Int32.ofNat i)), (4, .int ((X i) + (0 : Int32))), (5, .int ((Y i) + (Int32.ofInt (-1)))), (6, .int ((((Y i) + (Int32.ofInt (-1))) * (g 35 0)) + ((X i) + (0 : Int32)))), (7, .int (0 : Int32))] [.int (4 : Int32), .int (g 33 i)] (s_M4 36 c X Y wn g) u (fun big n0 => sg_mv_52 big n0 (s_M4 36 c X Y wn g) u t (Int32.ofNat i) ((X i) + (0 : Int32)) ((Y i) + (Int32.ofInt (-1))) ((((Y i) + (Int32.ofInt (-1))) * (g 35 0)) + ((X i) + (0 : Int32))) (g 33 i)) ?_
        refine q_ic_eq rfl (fun hc8 => absurd (show (g 33 i) = (4 : Int32) from hc8) (by rw [hw]; decide)) (fun (hc8 : ¬ ((g 33 i) = (4 : Int32))) => ?_)
        refine q_step 4 39 [(0, .ref 28), (1, .ref 35), (2, .int t), (3, .int ((Int32.ofNat i) + (1 : Int32))), (4, .int ((X i) + (0 : Int32))), (5, .int ((Y i) + (Int32.ofInt (-1)))), (6, .int ((((Y i) + (Int32.ofInt (-1))) * (g 35 0)) + ((X i) + (0 : Int32)))), (7, .int (0 : Int32))] [] (s_M4 36 c X Y wn g) u (fun big n0 => sg_mv_53 big n0 (s_M4 36 c X Y wn g) u t (Int32.ofNat i) ((X i) + (0 : Int32)) ((Y i) + (Int32.ofInt (-1))) ((((Y i) + (Int32.ofInt (-1))) * (g 35 0)) + ((X i) + (0 : Int32)))) ?_
        refine q_weak [(0, .ref 28), (1, .ref 35), (2, .int t), (3, .int ((Int32.ofNat i) + (1 : Int32)))] (q_sub.cons rfl (q_sub.cons rfl (q_sub.cons rfl (q_sub.cons rfl q_sub.nil)))) ?_
        rw [q_succ]
        exact hno (fun z => by unfold s_gc at z; rw [e1, e2, hw] at z; exact z.2.1.2.2.1 hc7)
      · refine q_step 3 159 [(0, .ref 28), (1, .ref 35), (2, .int t), (3, .int (Int32.ofNat i)), (4, .int ((X i) + (0 : Int32))), (5, .int ((Y i) + (Int32.ofInt (-1)))), (6, .int ((((Y i) + (Int32.ofInt (-1))) * (g 35 0)) + ((X i) + (0 : Int32))))] [.int (g 35 1), .int ((Y i) + (Int32.ofInt (-1)))] (s_M4 36 c X Y wn g) u (fun big n0 => sg_mv_56 big n0 (s_M4 36 c X Y wn g) u t (Int32.ofNat i) ((X i) + (0 : Int32)) ((Y i) + (Int32.ofInt (-1))) ((((Y i) + (Int32.ofInt (-1))) * (g 35 0)) + ((X i) + (0 : Int32)))) ?_
        refine q_ic_ge rfl (fun (hc8 : (g 35 1) ≤ ((Y i) + (Int32.ofInt (-1)))) => ?_) (fun (hc8 : ¬ ((g 35 1) ≤ ((Y i) + (Int32.ofInt (-1))))) => ?_)
        · refine q_step 5 174 [(0, .ref 28), (1, .ref 35), (2, .int t), (3, .int (Int32.ofNat i)), (4, .int ((X i) + (0 : Int32))), (5, .int ((Y i) + (Int32.ofInt (-1)))), (6, .int ((((Y i) + (Int32.ofInt (-1))) * (g 35 0)) + ((X i) + (0 : Int32)))), (7, .int (0 : Int32))] [.int (Int32.ofNat i), .ref 33] (s_M4 36 c X Y wn g) u (fun big n0 => sg_mv_51 big n0 (s_M4 36 c X Y wn g) u t (Int32.ofNat i) ((X i) + (0 : Int32)) ((Y i) + (Int32.ofInt (-1))) ((((Y i) + (Int32.ofInt (-1))) * (g 35 0)) + ((X i) + (0 : Int32)))) ?_
          refine q_iald (j := i) (q_ixn (by omega) (by omega)) rfl rfl ?_
          refine q_step 1 176 [(0, .ref 28), (1, .ref 35), (2, .int t), (3, .int (Int32.ofNat i)), (4, .int ((X i) + (0 : Int32))), (5, .int ((Y i) + (Int32.ofInt (-1)))), (6, .int ((((Y i) + (Int32.ofInt (-1))) * (g 35 0)) + ((X i) + (0 : Int32)))), (7, .int (0 : Int32))] [.int (4 : Int32), .int (g 33 i)] (s_M4 36 c X Y wn g) u (fun big n0 => sg_mv_52 big n0 (s_M4 36 c X Y wn g) u t (Int32.ofNat i) ((X i) + (0 : Int32)) ((Y i) + (Int32.ofInt (-1))) ((((Y i) + (Int32.ofInt (-1))) * (g 35 0)) + ((X i) + (0 : Int32))) (g 33 i)) ?_
          refine q_ic_eq rfl (fun hc9 => absurd (show (g 33 i) = (4 : Int32) from hc9) (by rw [hw]; decide)) (fun (hc9 : ¬ ((g 33 i) = (4 : Int32))) => ?_)
          refine q_step 4 39 [(0, .ref 28), (1, .ref 35), (2, .int t), (3, .int ((Int32.ofNat i) + (1 : Int32))), (4, .int ((X i) + (0 : Int32))), (5, .int ((Y i) + (Int32.ofInt (-1)))), (6, .int ((((Y i) + (Int32.ofInt (-1))) * (g 35 0)) + ((X i) + (0 : Int32)))), (7, .int (0 : Int32))] [] (s_M4 36 c X Y wn g) u (fun big n0 => sg_mv_53 big n0 (s_M4 36 c X Y wn g) u t (Int32.ofNat i) ((X i) + (0 : Int32)) ((Y i) + (Int32.ofInt (-1))) ((((Y i) + (Int32.ofInt (-1))) * (g 35 0)) + ((X i) + (0 : Int32)))) ?_
          refine q_weak [(0, .ref 28), (1, .ref 35), (2, .int t), (3, .int ((Int32.ofNat i) + (1 : Int32)))] (q_sub.cons rfl (q_sub.cons rfl (q_sub.cons rfl (q_sub.cons rfl q_sub.nil)))) ?_
          rw [q_succ]
          exact hno (fun z => by unfold s_gc at z; rw [e1, e2, hw] at z; exact z.2.1.2.2.2 hc8)
        · refine q_step 6 174 [(0, .ref 28), (1, .ref 35), (2, .int t), (3, .int (Int32.ofNat i)), (4, .int ((X i) + (0 : Int32))), (5, .int ((Y i) + (Int32.ofInt (-1)))), (6, .int ((((Y i) + (Int32.ofInt (-1))) * (g 35 0)) + ((X i) + (0 : Int32)))), (7, .int (1 : Int32))] [.int (Int32.ofNat i), .ref 33] (s_M4 36 c X Y wn g) u (fun big n0 => sg_mv_57 big n0 (s_M4 36 c X Y wn g) u t (Int32.ofNat i) ((X i) + (0 : Int32)) ((Y i) + (Int32.ofInt (-1))) ((((Y i) + (Int32.ofInt (-1))) * (g 35 0)) + ((X i) + (0 : Int32)))) ?_
          refine q_iald (j := i) (q_ixn (by omega) (by omega)) rfl rfl ?_
          refine q_step 1 176 [(0, .ref 28), (1, .ref 35), (2, .int t), (3, .int (Int32.ofNat i)), (4, .int ((X i) + (0 : Int32))), (5, .int ((Y i) + (Int32.ofInt (-1)))), (6, .int ((((Y i) + (Int32.ofInt (-1))) * (g 35 0)) + ((X i) + (0 : Int32)))), (7, .int (1 : Int32))] [.int (4 : Int32), .int (g 33 i)] (s_M4 36 c X Y wn g) u (fun big n0 => sg_mv_58 big n0 (s_M4 36 c X Y wn g) u t (Int32.ofNat i) ((X i) + (0 : Int32)) ((Y i) + (Int32.ofInt (-1))) ((((Y i) + (Int32.ofInt (-1))) * (g 35 0)) + ((X i) + (0 : Int32))) (g 33 i)) ?_
          refine q_ic_eq rfl (fun hc9 => absurd (show (g 33 i) = (4 : Int32) from hc9) (by rw [hw]; decide)) (fun (hc9 : ¬ ((g 33 i) = (4 : Int32))) => ?_)
          refine q_step 7 190 [(0, .ref 28), (1, .ref 35), (2, .int t), (3, .int (Int32.ofNat i)), (4, .int ((X i) + (0 : Int32))), (5, .int ((Y i) + (Int32.ofInt (-1)))), (6, .int ((((Y i) + (Int32.ofInt (-1))) * (g 35 0)) + ((X i) + (0 : Int32)))), (7, .int (1 : Int32))] [.int ((t >>> (((((Y i) + (Int32.ofInt (-1))) * (g 35 0)) + ((X i) + (0 : Int32))) &&& 31)) &&& (1 : Int32))] (s_M4 36 c X Y wn g) u (fun big n0 => sg_mv_59 big n0 (s_M4 36 c X Y wn g) u t (Int32.ofNat i) ((X i) + (0 : Int32)) ((Y i) + (Int32.ofInt (-1))) ((((Y i) + (Int32.ofInt (-1))) * (g 35 0)) + ((X i) + (0 : Int32)))) ?_
          refine q_if_ne rfl (fun (hc10 : ((t >>> (((((Y i) + (Int32.ofInt (-1))) * (g 35 0)) + ((X i) + (0 : Int32))) &&& 31)) &&& (1 : Int32)) = 0) => ?_) (fun (hc10 : ¬ (((t >>> (((((Y i) + (Int32.ofInt (-1))) * (g 35 0)) + ((X i) + (0 : Int32))) &&& 31)) &&& (1 : Int32)) = 0)) => ?_)
          · refine q_step 5 200 [(0, .ref 28), (1, .ref 35), (2, .int t), (3, .int (Int32.ofNat i)), (4, .int ((X i) + (0 : Int32))), (5, .int ((Y i) + (Int32.ofInt (-1)))), (6, .int ((((Y i) + (Int32.ofInt (-1))) * (g 35 0)) + ((X i) + (0 : Int32)))), (7, .int (1 : Int32))] [.int (Int32.ofNat i), .ref 36, .int (1 : Int32), .int t] (s_M4 36 c X Y wn g) u (fun big n0 => sg_mv_60 big n0 (s_M4 36 c X Y wn g) u t (Int32.ofNat i) ((X i) + (0 : Int32)) ((Y i) + (Int32.ofInt (-1))) ((((Y i) + (Int32.ofInt (-1))) * (g 35 0)) + ((X i) + (0 : Int32)))) ?_
            refine q_iald (j := i) (q_ixn (by omega) (by omega)) rfl rfl ?_
            refine q_step 13 218 [(0, .ref 28), (1, .ref 35), (2, .int ((t &&& (((1 : Int32) <<< ((c i) &&& 31)) ^^^ (Int32.ofInt (-1)))) ||| ((1 : Int32) <<< (((((Y i) + (Int32.ofInt (-1))) * (g 35 0)) + ((X i) + (0 : Int32))) &&& 31)))), (3, .int (Int32.ofNat i)), (4, .int ((X i) + (0 : Int32))), (5, .int ((Y i) + (Int32.ofInt (-1)))), (6, .int ((((Y i) + (Int32.ofInt (-1))) * (g 35 0)) + ((X i) + (0 : Int32)))), (7, .int (1 : Int32))] [.int ((((Y i) + (Int32.ofInt (-1))) * (g 35 0)) + ((X i) + (0 : Int32))), .int (Int32.ofNat i), .ref 36] (s_M4 36 c X Y wn g) u (fun big n0 => sg_mv_61 big n0 (s_M4 36 c X Y wn g) u t (Int32.ofNat i) ((X i) + (0 : Int32)) ((Y i) + (Int32.ofInt (-1))) ((((Y i) + (Int32.ofInt (-1))) * (g 35 0)) + ((X i) + (0 : Int32))) t (c i)) ?_
            refine q_iast (j := i) (q_ixn (by omega) (by omega)) rfl rfl ?_
            refine q_step 4 226 [(0, .ref 28), (1, .ref 35), (2, .int ((t &&& (((1 : Int32) <<< ((c i) &&& 31)) ^^^ (Int32.ofInt (-1)))) ||| ((1 : Int32) <<< (((((Y i) + (Int32.ofInt (-1))) * (g 35 0)) + ((X i) + (0 : Int32))) &&& 31)))), (3, .int (Int32.ofNat i)), (4, .int ((X i) + (0 : Int32))), (5, .int ((Y i) + (Int32.ofInt (-1)))), (6, .int ((((Y i) + (Int32.ofInt (-1))) * (g 35 0)) + ((X i) + (0 : Int32)))), (7, .int (1 : Int32))] [.int ((X i) + (0 : Int32)), .int (Int32.ofNat i), .ref 29] (q_up (s_M4 36 c X Y wn g) 36 i ((((Y i) + (Int32.ofInt (-1))) * (g 35 0)) + ((X i) + (0 : Int32)))) u (fun big n0 => sg_mv_62 big n0 (q_up (s_M4 36 c X Y wn g) 36 i ((((Y i) + (Int32.ofInt (-1))) * (g 35 0)) + ((X i) + (0 : Int32)))) u ((t &&& (((1 : Int32) <<< ((c i) &&& 31)) ^^^ (Int32.ofInt (-1)))) ||| ((1 : Int32) <<< (((((Y i) + (Int32.ofInt (-1))) * (g 35 0)) + ((X i) + (0 : Int32))) &&& 31))) (Int32.ofNat i) ((X i) + (0 : Int32)) ((Y i) + (Int32.ofInt (-1))) ((((Y i) + (Int32.ofInt (-1))) * (g 35 0)) + ((X i) + (0 : Int32)))) ?_
            refine q_iast (j := i) (q_ixn (by omega) (by omega)) rfl rfl ?_
            refine q_step 4 234 [(0, .ref 28), (1, .ref 35), (2, .int ((t &&& (((1 : Int32) <<< ((c i) &&& 31)) ^^^ (Int32.ofInt (-1)))) ||| ((1 : Int32) <<< (((((Y i) + (Int32.ofInt (-1))) * (g 35 0)) + ((X i) + (0 : Int32))) &&& 31)))), (3, .int (Int32.ofNat i)), (4, .int ((X i) + (0 : Int32))), (5, .int ((Y i) + (Int32.ofInt (-1)))), (6, .int ((((Y i) + (Int32.ofInt (-1))) * (g 35 0)) + ((X i) + (0 : Int32)))), (7, .int (1 : Int32))] [.int ((Y i) + (Int32.ofInt (-1))), .int (Int32.ofNat i), .ref 30] (q_up (q_up (s_M4 36 c X Y wn g) 36 i ((((Y i) + (Int32.ofInt (-1))) * (g 35 0)) + ((X i) + (0 : Int32)))) 29 i ((X i) + (0 : Int32))) u (fun big n0 => sg_mv_63 big n0 (q_up (q_up (s_M4 36 c X Y wn g) 36 i ((((Y i) + (Int32.ofInt (-1))) * (g 35 0)) + ((X i) + (0 : Int32)))) 29 i ((X i) + (0 : Int32))) u ((t &&& (((1 : Int32) <<< ((c i) &&& 31)) ^^^ (Int32.ofInt (-1)))) ||| ((1 : Int32) <<< (((((Y i) + (Int32.ofInt (-1))) * (g 35 0)) + ((X i) + (0 : Int32))) &&& 31))) (Int32.ofNat i) ((X i) + (0 : Int32)) ((Y i) + (Int32.ofInt (-1))) ((((Y i) + (Int32.ofInt (-1))) * (g 35 0)) + ((X i) + (0 : Int32)))) ?_
            refine q_iast (j := i) (q_ixn (by omega) (by omega)) rfl rfl ?_
            refine q_step 10 39 [(0, .ref 28), (1, .ref 35), (2, .int ((t &&& (((1 : Int32) <<< ((c i) &&& 31)) ^^^ (Int32.ofInt (-1)))) ||| ((1 : Int32) <<< (((((Y i) + (Int32.ofInt (-1))) * (g 35 0)) + ((X i) + (0 : Int32))) &&& 31)))), (3, .int ((Int32.ofNat i) + (1 : Int32))), (4, .int ((X i) + (0 : Int32))), (5, .int ((Y i) + (Int32.ofInt (-1)))), (6, .int ((((Y i) + (Int32.ofInt (-1))) * (g 35 0)) + ((X i) + (0 : Int32)))), (7, .int (1 : Int32))] [] (q_up (q_up (q_up (q_up (s_M4 36 c X Y wn g) 36 i ((((Y i) + (Int32.ofInt (-1))) * (g 35 0)) + ((X i) + (0 : Int32)))) 29 i ((X i) + (0 : Int32))) 30 i ((Y i) + (Int32.ofInt (-1)))) 28 5 (((s_M4 36 c X Y wn g) 28 5) ||| ((1 : Int32) <<< ((Int32.ofNat i) &&& 31)))) u (fun big n0 => sg_mv_64 big n0 (q_up (q_up (q_up (s_M4 36 c X Y wn g) 36 i ((((Y i) + (Int32.ofInt (-1))) * (g 35 0)) + ((X i) + (0 : Int32)))) 29 i ((X i) + (0 : Int32))) 30 i ((Y i) + (Int32.ofInt (-1)))) u ((t &&& (((1 : Int32) <<< ((c i) &&& 31)) ^^^ (Int32.ofInt (-1)))) ||| ((1 : Int32) <<< (((((Y i) + (Int32.ofInt (-1))) * (g 35 0)) + ((X i) + (0 : Int32))) &&& 31))) (Int32.ofNat i) ((X i) + (0 : Int32)) ((Y i) + (Int32.ofInt (-1))) ((((Y i) + (Int32.ofInt (-1))) * (g 35 0)) + ((X i) + (0 : Int32)))) ?_
            refine q_weak [(0, .ref 28), (1, .ref 35), (2, .int ((t &&& (((1 : Int32) <<< ((c i) &&& 31)) ^^^ (Int32.ofInt (-1)))) ||| ((1 : Int32) <<< (((((Y i) + (Int32.ofInt (-1))) * (g 35 0)) + ((X i) + (0 : Int32))) &&& 31)))), (3, .int ((Int32.ofNat i) + (1 : Int32)))] (q_sub.cons rfl (q_sub.cons rfl (q_sub.cons rfl (q_sub.cons rfl q_sub.nil)))) ?_
            rw [s_M4_c, s_M4_x (by decide), s_M4_y (by decide), s_M4_w (by decide), q_succ]
            exact hgo (by unfold s_gc; rw [e1, e2, hw]; exact ⟨by decide, ⟨hc5, hc6, hc7, hc8⟩, hc10⟩)
          · refine q_step 2 39 [(0, .ref 28), (1, .ref 35), (2, .int t), (3, .int ((Int32.ofNat i) + (1 : Int32))), (4, .int ((X i) + (0 : Int32))), (5, .int ((Y i) + (Int32.ofInt (-1)))), (6, .int ((((Y i) + (Int32.ofInt (-1))) * (g 35 0)) + ((X i) + (0 : Int32)))), (7, .int (1 : Int32))] [] (s_M4 36 c X Y wn g) u (fun big n0 => sg_mv_65 big n0 (s_M4 36 c X Y wn g) u t (Int32.ofNat i) ((X i) + (0 : Int32)) ((Y i) + (Int32.ofInt (-1))) ((((Y i) + (Int32.ofInt (-1))) * (g 35 0)) + ((X i) + (0 : Int32)))) ?_
            refine q_weak [(0, .ref 28), (1, .ref 35), (2, .int t), (3, .int ((Int32.ofNat i) + (1 : Int32)))] (q_sub.cons rfl (q_sub.cons rfl (q_sub.cons rfl (q_sub.cons rfl q_sub.nil)))) ?_
            rw [q_succ]
            exact hno (fun z => by unfold s_gc at z; rw [e1, e2, hw] at z; exact hc10 z.2.2)
theorem mb_35_1 (g : qM) (u : qW) {Q : Option Value × qM × qW → Prop} {n i : Nat} (hn : g 35 3 = Int32.ofNat n) (h6 : n ≤ 6) (hi : i < n) (hw : g 33 i = 1) {c X Y : Nat → Int32} {t wn : Int32} (hgo : s_gc (g 35 0) (g 35 1) (g 33 i) (X i) (Y i) t → q_EV m_69 39 [(0, .ref 28), (1, .ref 35), (2, .int ((t &&& (((1 : Int32) <<< (c i &&& 31)) ^^^ Int32.ofInt (-1))) ||| ((1 : Int32) <<< (((Y i + s_cy (g 33 i)) * (g 35 0) + (X i + s_cx (g 33 i))) &&& 31)))), (3, .int (Int32.ofNat (i + 1)))] [] (s_M4 36 (s_set c i ((Y i + s_cy (g 33 i)) * (g 35 0) + (X i + s_cx (g 33 i)))) (s_set X i (X i + s_cx (g 33 i))) (s_set Y i (Y i + s_cy (g 33 i))) (wn ||| ((1 : Int32) <<< (Int32.ofNat i &&& 31))) g) u Q) (hno : ¬ s_gc (g 35 0) (g 35 1) (g 33 i) (X i) (Y i) t → q_EV m_69 39 [(0, .ref 28), (1, .ref 35), (2, .int t), (3, .int (Int32.ofNat (i + 1)))] [] (s_M4 36 c X Y wn g) u Q) : q_EV m_69 39 [(0, .ref 28), (1, .ref 35), (2, .int t), (3, .int (Int32.ofNat i))] [] (s_M4 36 c X Y wn g) u Q := by
  have e1 : s_cx (g 33 i) = (1 : Int32) := by rw [hw]; rfl
  have e2 : s_cy (g 33 i) = (0 : Int32) := by rw [hw]; rfl
  rw [e1, e2] at hgo
  refine q_step 3 44 [(0, .ref 28), (1, .ref 35), (2, .int t), (3, .int (Int32.ofNat i))] [.int (g 35 3), .int (Int32.ofNat i)] (s_M4 36 c X Y wn g) u (fun big n0 => sg_mv_40 big n0 (s_M4 36 c X Y wn g) u t (Int32.ofNat i)) ?_
  refine q_ic_ge rfl (fun hc0 => absurd (show (g 35 3) ≤ (Int32.ofNat i) from hc0) (fun z => by rw [hn, q_le (by omega) (by omega)] at z; omega)) (fun (hc0 : ¬ ((g 35 3) ≤ (Int32.ofNat i))) => ?_)
  refine q_step 3 52 [(0, .ref 28), (1, .ref 35), (2, .int t), (3, .int (Int32.ofNat i))] [.int (Int32.ofNat i), .ref 29] (s_M4 36 c X Y wn g) u (fun big n0 => sg_mv_41 big n0 (s_M4 36 c X Y wn g) u t (Int32.ofNat i)) ?_
  refine q_iald (j := i) (q_ixn (by omega) (by omega)) rfl rfl ?_
  refine q_step 3 58 [(0, .ref 28), (1, .ref 35), (2, .int t), (3, .int (Int32.ofNat i))] [.int (Int32.ofNat i), .ref 33, .int (X i)] (s_M4 36 c X Y wn g) u (fun big n0 => sg_mv_42 big n0 (s_M4 36 c X Y wn g) u t (Int32.ofNat i) (X i)) ?_
  refine q_iald (j := i) (q_ixn (by omega) (by omega)) rfl rfl ?_
  refine q_step 1 60 [(0, .ref 28), (1, .ref 35), (2, .int t), (3, .int (Int32.ofNat i))] [.int (1 : Int32), .int (g 33 i), .int (X i)] (s_M4 36 c X Y wn g) u (fun big n0 => sg_mv_43 big n0 (s_M4 36 c X Y wn g) u t (Int32.ofNat i) (X i) (g 33 i)) ?_
  refine q_ic_ne rfl (fun (hc1 : (g 33 i) = (1 : Int32)) => ?_) (fun hc1 => absurd (show (g 33 i) = (1 : Int32) from hw) hc1)
  refine q_step 7 90 [(0, .ref 28), (1, .ref 35), (2, .int t), (3, .int (Int32.ofNat i)), (4, .int ((X i) + (1 : Int32)))] [.int (Int32.ofNat i), .ref 30] (s_M4 36 c X Y wn g) u (fun big n0 => sg_mv_66 big n0 (s_M4 36 c X Y wn g) u t (Int32.ofNat i) (X i)) ?_
  refine q_iald (j := i) (q_ixn (by omega) (by omega)) rfl rfl ?_
  refine q_step 3 96 [(0, .ref 28), (1, .ref 35), (2, .int t), (3, .int (Int32.ofNat i)), (4, .int ((X i) + (1 : Int32)))] [.int (Int32.ofNat i), .ref 33, .int (Y i)] (s_M4 36 c X Y wn g) u (fun big n0 => sg_mv_47 big n0 (s_M4 36 c X Y wn g) u t (Int32.ofNat i) ((X i) + (1 : Int32)) (Y i)) ?_
  refine q_iald (j := i) (q_ixn (by omega) (by omega)) rfl rfl ?_
  refine q_step 1 98 [(0, .ref 28), (1, .ref 35), (2, .int t), (3, .int (Int32.ofNat i)), (4, .int ((X i) + (1 : Int32)))] [.int (2 : Int32), .int (g 33 i), .int (Y i)] (s_M4 36 c X Y wn g) u (fun big n0 => sg_mv_48 big n0 (s_M4 36 c X Y wn g) u t (Int32.ofNat i) ((X i) + (1 : Int32)) (Y i) (g 33 i)) ?_
  refine q_ic_ne rfl (fun hc2 => absurd (show (g 33 i) = (2 : Int32) from hc2) (by rw [hw]; decide)) (fun (hc2 : ¬ ((g 33 i) = (2 : Int32))) => ?_)
  refine q_step 3 110 [(0, .ref 28), (1, .ref 35), (2, .int t), (3, .int (Int32.ofNat i)), (4, .int ((X i) + (1 : Int32)))] [.int (Int32.ofNat i), .ref 33, .int (Y i)] (s_M4 36 c X Y wn g) u (fun big n0 => sg_mv_49 big n0 (s_M4 36 c X Y wn g) u t (Int32.ofNat i) ((X i) + (1 : Int32)) (Y i)) ?_
  refine q_iald (j := i) (q_ixn (by omega) (by omega)) rfl rfl ?_
  refine q_if_ne rfl (fun hc3 => absurd (show (g 33 i) = 0 from hc3) (by rw [hw]; decide)) (fun (hc3 : ¬ ((g 33 i) = 0)) => ?_)
  refine q_step 11 136 [(0, .ref 28), (1, .ref 35), (2, .int t), (3, .int (Int32.ofNat i)), (4, .int ((X i) + (1 : Int32))), (5, .int ((Y i) + (0 : Int32))), (6, .int ((((Y i) + (0 : Int32)) * (g 35 0)) + ((X i) + (1 : Int32))))] [.int ((X i) + (1 : Int32))] (s_M4 36 c X Y wn g) u (fun big n0 => sg_mv_67 big n0 (s_M4 36 c X Y wn g) u t (Int32.ofNat i) ((X i) + (1 : Int32)) (Y i)) ?_
  refine q_if_lt rfl (fun (hc4 : ((X i) + (1 : Int32)) < 0) => ?_) (fun (hc4 : ¬ (((X i) + (1 : Int32)) < 0)) => ?_)
  · refine q_step 5 174 [(0, .ref 28), (1, .ref 35), (2, .int t), (3, .int (Int32.ofNat i)), (4, .int ((X i) + (1 : Int32))), (5, .int ((Y i) + (0 : Int32))), (6, .int ((((Y i) + (0 : Int32)) * (g 35 0)) + ((X i) + (1 : Int32)))), (7, .int (0 : Int32))] [.int (Int32.ofNat i), .ref 33] (s_M4 36 c X Y wn g) u (fun big n0 => sg_mv_51 big n0 (s_M4 36 c X Y wn g) u t (Int32.ofNat i) ((X i) + (1 : Int32)) ((Y i) + (0 : Int32)) ((((Y i) + (0 : Int32)) * (g 35 0)) + ((X i) + (1 : Int32)))) ?_
    refine q_iald (j := i) (q_ixn (by omega) (by omega)) rfl rfl ?_
    refine q_step 1 176 [(0, .ref 28), (1, .ref 35), (2, .int t), (3, .int (Int32.ofNat i)), (4, .int ((X i) + (1 : Int32))), (5, .int ((Y i) + (0 : Int32))), (6, .int ((((Y i) + (0 : Int32)) * (g 35 0)) + ((X i) + (1 : Int32)))), (7, .int (0 : Int32))] [.int (4 : Int32), .int (g 33 i)] (s_M4 36 c X Y wn g) u (fun big n0 => sg_mv_52 big n0 (s_M4 36 c X Y wn g) u t (Int32.ofNat i) ((X i) + (1 : Int32)) ((Y i) + (0 : Int32)) ((((Y i) + (0 : Int32)) * (g 35 0)) + ((X i) + (1 : Int32))) (g 33 i)) ?_
    refine q_ic_eq rfl (fun hc5 => absurd (show (g 33 i) = (4 : Int32) from hc5) (by rw [hw]; decide)) (fun (hc5 : ¬ ((g 33 i) = (4 : Int32))) => ?_)
    refine q_step 4 39 [(0, .ref 28), (1, .ref 35), (2, .int t), (3, .int ((Int32.ofNat i) + (1 : Int32))), (4, .int ((X i) + (1 : Int32))), (5, .int ((Y i) + (0 : Int32))), (6, .int ((((Y i) + (0 : Int32)) * (g 35 0)) + ((X i) + (1 : Int32)))), (7, .int (0 : Int32))] [] (s_M4 36 c X Y wn g) u (fun big n0 => sg_mv_53 big n0 (s_M4 36 c X Y wn g) u t (Int32.ofNat i) ((X i) + (1 : Int32)) ((Y i) + (0 : Int32)) ((((Y i) + (0 : Int32)) * (g 35 0)) + ((X i) + (1 : Int32)))) ?_
    refine q_weak [(0, .ref 28), (1, .ref 35), (2, .int t), (3, .int ((Int32.ofNat i) + (1 : Int32)))] (q_sub.cons rfl (q_sub.cons rfl (q_sub.cons rfl (q_sub.cons rfl q_sub.nil)))) ?_
    rw [q_succ]
    exact hno (fun z => by unfold s_gc at z; rw [e1, e2, hw] at z; exact z.2.1.1 hc4)
  · refine q_step 3 145 [(0, .ref 28), (1, .ref 35), (2, .int t), (3, .int (Int32.ofNat i)), (4, .int ((X i) + (1 : Int32))), (5, .int ((Y i) + (0 : Int32))), (6, .int ((((Y i) + (0 : Int32)) * (g 35 0)) + ((X i) + (1 : Int32))))] [.int (g 35 0), .int ((X i) + (1 : Int32))] (s_M4 36 c X Y wn g) u (fun big n0 => sg_mv_54 big n0 (s_M4 36 c X Y wn g) u t (Int32.ofNat i) ((X i) + (1 : Int32)) ((Y i) + (0 : Int32)) ((((Y i) + (0 : Int32)) * (g 35 0)) + ((X i) + (1 : Int32)))) ?_
    refine q_ic_ge rfl (fun (hc5 : (g 35 0) ≤ ((X i) + (1 : Int32))) => ?_) (fun (hc5 : ¬ ((g 35 0) ≤ ((X i) + (1 : Int32)))) => ?_)
    · refine q_step 5 174 [(0, .ref 28), (1, .ref 35), (2, .int t), (3, .int (Int32.ofNat i)), (4, .int ((X i) + (1 : Int32))), (5, .int ((Y i) + (0 : Int32))), (6, .int ((((Y i) + (0 : Int32)) * (g 35 0)) + ((X i) + (1 : Int32)))), (7, .int (0 : Int32))] [.int (Int32.ofNat i), .ref 33] (s_M4 36 c X Y wn g) u (fun big n0 => sg_mv_51 big n0 (s_M4 36 c X Y wn g) u t (Int32.ofNat i) ((X i) + (1 : Int32)) ((Y i) + (0 : Int32)) ((((Y i) + (0 : Int32)) * (g 35 0)) + ((X i) + (1 : Int32)))) ?_
      refine q_iald (j := i) (q_ixn (by omega) (by omega)) rfl rfl ?_
      refine q_step 1 176 [(0, .ref 28), (1, .ref 35), (2, .int t), (3, .int (Int32.ofNat i)), (4, .int ((X i) + (1 : Int32))), (5, .int ((Y i) + (0 : Int32))), (6, .int ((((Y i) + (0 : Int32)) * (g 35 0)) + ((X i) + (1 : Int32)))), (7, .int (0 : Int32))] [.int (4 : Int32), .int (g 33 i)] (s_M4 36 c X Y wn g) u (fun big n0 => sg_mv_52 big n0 (s_M4 36 c X Y wn g) u t (Int32.ofNat i) ((X i) + (1 : Int32)) ((Y i) + (0 : Int32)) ((((Y i) + (0 : Int32)) * (g 35 0)) + ((X i) + (1 : Int32))) (g 33 i)) ?_
      refine q_ic_eq rfl (fun hc6 => absurd (show (g 33 i) = (4 : Int32) from hc6) (by rw [hw]; decide)) (fun (hc6 : ¬ ((g 33 i) = (4 : Int32))) => ?_)
      refine q_step 4 39 [(0, .ref 28), (1, .ref 35), (2, .int t), (3, .int ((Int32.ofNat i) + (1 : Int32))), (4, .int ((X i) + (1 : Int32))), (5, .int ((Y i) + (0 : Int32))), (6, .int ((((Y i) + (0 : Int32)) * (g 35 0)) + ((X i) + (1 : Int32)))), (7, .int (0 : Int32))] [] (s_M4 36 c X Y wn g) u (fun big n0 => sg_mv_53 big n0 (s_M4 36 c X Y wn g) u t (Int32.ofNat i) ((X i) + (1 : Int32)) ((Y i) + (0 : Int32)) ((((Y i) + (0 : Int32)) * (g 35 0)) + ((X i) + (1 : Int32)))) ?_
      refine q_weak [(0, .ref 28), (1, .ref 35), (2, .int t), (3, .int ((Int32.ofNat i) + (1 : Int32)))] (q_sub.cons rfl (q_sub.cons rfl (q_sub.cons rfl (q_sub.cons rfl q_sub.nil)))) ?_
      rw [q_succ]
      exact hno (fun z => by unfold s_gc at z; rw [e1, e2, hw] at z; exact z.2.1.2.1 hc5)
    · refine q_step 1 150 [(0, .ref 28), (1, .ref 35), (2, .int t), (3, .int (Int32.ofNat i)), (4, .int ((X i) + (1 : Int32))), (5, .int ((Y i) + (0 : Int32))), (6, .int ((((Y i) + (0 : Int32)) * (g 35 0)) + ((X i) + (1 : Int32))))] [.int ((Y i) + (0 : Int32))] (s_M4 36 c X Y wn g) u (fun big n0 => sg_mv_55 big n0 (s_M4 36 c X Y wn g) u t (Int32.ofNat i) ((X i) + (1 : Int32)) ((Y i) + (0 : Int32)) ((((Y i) + (0 : Int32)) * (g 35 0)) + ((X i) + (1 : Int32)))) ?_
      refine q_if_lt rfl (fun (hc6 : ((Y i) + (0 : Int32)) < 0) => ?_) (fun (hc6 : ¬ (((Y i) + (0 : Int32)) < 0)) => ?_)
      · refine q_step 5 174 [(0, .ref 28), (1, .ref 35), (2, .int t), (3, .int (Int32.ofNat i)), (4, .int ((X i) + (1 : Int32))), (5, .int ((Y i) + (0 : Int32))), (6, .int ((((Y i) + (0 : Int32)) * (g 35 0)) + ((X i) + (1 : Int32)))), (7, .int (0 : Int32))] [.int (Int32.ofNat i), .ref 33] (s_M4 36 c X Y wn g) u (fun big n0 => sg_mv_51 big n0 (s_M4 36 c X Y wn g) u t (Int32.ofNat i) ((X i) + (1 : Int32)) ((Y i) + (0 : Int32)) ((((Y i) + (0 : Int32)) * (g 35 0)) + ((X i) + (1 : Int32)))) ?_
        refine q_iald (j := i) (q_ixn (by omega) (by omega)) rfl rfl ?_
        refine q_step 1 176 [(0, .ref 28), (1, .ref 35), (2, .int t), (3, .int (Int32.ofNat i)), (4, .int ((X i) + (1 : Int32))), (5, .int ((Y i) + (0 : Int32))), (6, .int ((((Y i) + (0 : Int32)) * (g 35 0)) + ((X i) + (1 : Int32)))), (7, .int (0 : Int32))] [.int (4 : Int32), .int (g 33 i)] (s_M4 36 c X Y wn g) u (fun big n0 => sg_mv_52 big n0 (s_M4 36 c X Y wn g) u t (Int32.ofNat i) ((X i) + (1 : Int32)) ((Y i) + (0 : Int32)) ((((Y i) + (0 : Int32)) * (g 35 0)) + ((X i) + (1 : Int32))) (g 33 i)) ?_
        refine q_ic_eq rfl (fun hc7 => absurd (show (g 33 i) = (4 : Int32) from hc7) (by rw [hw]; decide)) (fun (hc7 : ¬ ((g 33 i) = (4 : Int32))) => ?_)
        refine q_step 4 39 [(0, .ref 28), (1, .ref 35), (2, .int t), (3, .int ((Int32.ofNat i) + (1 : Int32))), (4, .int ((X i) + (1 : Int32))), (5, .int ((Y i) + (0 : Int32))), (6, .int ((((Y i) + (0 : Int32)) * (g 35 0)) + ((X i) + (1 : Int32)))), (7, .int (0 : Int32))] [] (s_M4 36 c X Y wn g) u (fun big n0 => sg_mv_53 big n0 (s_M4 36 c X Y wn g) u t (Int32.ofNat i) ((X i) + (1 : Int32)) ((Y i) + (0 : Int32)) ((((Y i) + (0 : Int32)) * (g 35 0)) + ((X i) + (1 : Int32)))) ?_
        refine q_weak [(0, .ref 28), (1, .ref 35), (2, .int t), (3, .int ((Int32.ofNat i) + (1 : Int32)))] (q_sub.cons rfl (q_sub.cons rfl (q_sub.cons rfl (q_sub.cons rfl q_sub.nil)))) ?_
        rw [q_succ]
        exact hno (fun z => by unfold s_gc at z; rw [e1, e2, hw] at z; exact z.2.1.2.2.1 hc6)
      · refine q_step 3 159 [(0, .ref 28), (1, .ref 35), (2, .int t), (3, .int (Int32.ofNat i)), (4, .int ((X i) + (1 : Int32))), (5, .int ((Y i) + (0 : Int32))), (6, .int ((((Y i) + (0 : Int32)) * (g 35 0)) + ((X i) + (1 : Int32))))] [.int (g 35 1), .int ((Y i) + (0 : Int32))] (s_M4 36 c X Y wn g) u (fun big n0 => sg_mv_56 big n0 (s_M4 36 c X Y wn g) u t (Int32.ofNat i) ((X i) + (1 : Int32)) ((Y i) + (0 : Int32)) ((((Y i) + (0 : Int32)) * (g 35 0)) + ((X i) + (1 : Int32)))) ?_
        refine q_ic_ge rfl (fun (hc7 : (g 35 1) ≤ ((Y i) + (0 : Int32))) => ?_) (fun (hc7 : ¬ ((g 35 1) ≤ ((Y i) + (0 : Int32)))) => ?_)
        · refine q_step 5 174 [(0, .ref 28), (1, .ref 35), (2, .int t), (3, .int (Int32.ofNat i)), (4, .int ((X i) + (1 : Int32))), (5, .int ((Y i) + (0 : Int32))), (6, .int ((((Y i) + (0 : Int32)) * (g 35 0)) + ((X i) + (1 : Int32)))), (7, .int (0 : Int32))] [.int (Int32.ofNat i), .ref 33] (s_M4 36 c X Y wn g) u (fun big n0 => sg_mv_51 big n0 (s_M4 36 c X Y wn g) u t (Int32.ofNat i) ((X i) + (1 : Int32)) ((Y i) + (0 : Int32)) ((((Y i) + (0 : Int32)) * (g 35 0)) + ((X i) + (1 : Int32)))) ?_
          refine q_iald (j := i) (q_ixn (by omega) (by omega)) rfl rfl ?_
          refine q_step 1 176 [(0, .ref 28), (1, .ref 35), (2, .int t), (3, .int (Int32.ofNat i)), (4, .int ((X i) + (1 : Int32))), (5, .int ((Y i) + (0 : Int32))), (6, .int ((((Y i) + (0 : Int32)) * (g 35 0)) + ((X i) + (1 : Int32)))), (7, .int (0 : Int32))] [.int (4 : Int32), .int (g 33 i)] (s_M4 36 c X Y wn g) u (fun big n0 => sg_mv_52 big n0 (s_M4 36 c X Y wn g) u t (Int32.ofNat i) ((X i) + (1 : Int32)) ((Y i) + (0 : Int32)) ((((Y i) + (0 : Int32)) * (g 35 0)) + ((X i) + (1 : Int32))) (g 33 i)) ?_
          refine q_ic_eq rfl (fun hc8 => absurd (show (g 33 i) = (4 : Int32) from hc8) (by rw [hw]; decide)) (fun (hc8 : ¬ ((g 33 i) = (4 : Int32))) => ?_)
          refine q_step 4 39 [(0, .ref 28), (1, .ref 35), (2, .int t), (3, .int ((Int32.ofNat i) + (1 : Int32))), (4, .int ((X i) + (1 : Int32))), (5, .int ((Y i) + (0 : Int32))), (6, .int ((((Y i) + (0 : Int32)) * (g 35 0)) + ((X i) + (1 : Int32)))), (7, .int (0 : Int32))] [] (s_M4 36 c X Y wn g) u (fun big n0 => sg_mv_53 big n0 (s_M4 36 c X Y wn g) u t (Int32.ofNat i) ((X i) + (1 : Int32)) ((Y i) + (0 : Int32)) ((((Y i) + (0 : Int32)) * (g 35 0)) + ((X i) + (1 : Int32)))) ?_
          refine q_weak [(0, .ref 28), (1, .ref 35), (2, .int t), (3, .int ((Int32.ofNat i) + (1 : Int32)))] (q_sub.cons rfl (q_sub.cons rfl (q_sub.cons rfl (q_sub.cons rfl q_sub.nil)))) ?_
          rw [q_succ]
          exact hno (fun z => by unfold s_gc at z; rw [e1, e2, hw] at z; exact z.2.1.2.2.2 hc7)
        · refine q_step 6 174 [(0, .ref 28), (1, .ref 35), (2, .int t), (3, .int (Int32.ofNat i)), (4, .int ((X i) + (1 : Int32))), (5, .int ((Y i) + (0 : Int32))), (6, .int ((((Y i) + (0 : Int32)) * (g 35 0)) + ((X i) + (1 : Int32)))), (7, .int (1 : Int32))] [.int (Int32.ofNat i), .ref 33] (s_M4 36 c X Y wn g) u (fun big n0 => sg_mv_57 big n0 (s_M4 36 c X Y wn g) u t (Int32.ofNat i) ((X i) + (1 : Int32)) ((Y i) + (0 : Int32)) ((((Y i) + (0 : Int32)) * (g 35 0)) + ((X i) + (1 : Int32)))) ?_
          refine q_iald (j := i) (q_ixn (by omega) (by omega)) rfl rfl ?_
          refine q_step 1 176 [(0, .ref 28), (1, .ref 35), (2, .int t), (3, .int (Int32.ofNat i)), (4, .int ((X i) + (1 : Int32))), (5, .int ((Y i) + (0 : Int32))), (6, .int ((((Y i) + (0 : Int32)) * (g 35 0)) + ((X i) + (1 : Int32)))), (7, .int (1 : Int32))] [.int (4 : Int32), .int (g 33 i)] (s_M4 36 c X Y wn g) u (fun big n0 => sg_mv_58 big n0 (s_M4 36 c X Y wn g) u t (Int32.ofNat i) ((X i) + (1 : Int32)) ((Y i) + (0 : Int32)) ((((Y i) + (0 : Int32)) * (g 35 0)) + ((X i) + (1 : Int32))) (g 33 i)) ?_
          refine q_ic_eq rfl (fun hc8 => absurd (show (g 33 i) = (4 : Int32) from hc8) (by rw [hw]; decide)) (fun (hc8 : ¬ ((g 33 i) = (4 : Int32))) => ?_)
          refine q_step 7 190 [(0, .ref 28), (1, .ref 35), (2, .int t), (3, .int (Int32.ofNat i)), (4, .int ((X i) + (1 : Int32))), (5, .int ((Y i) + (0 : Int32))), (6, .int ((((Y i) + (0 : Int32)) * (g 35 0)) + ((X i) + (1 : Int32)))), (7, .int (1 : Int32))] [.int ((t >>> (((((Y i) + (0 : Int32)) * (g 35 0)) + ((X i) + (1 : Int32))) &&& 31)) &&& (1 : Int32))] (s_M4 36 c X Y wn g) u (fun big n0 => sg_mv_59 big n0 (s_M4 36 c X Y wn g) u t (Int32.ofNat i) ((X i) + (1 : Int32)) ((Y i) + (0 : Int32)) ((((Y i) + (0 : Int32)) * (g 35 0)) + ((X i) + (1 : Int32)))) ?_
          refine q_if_ne rfl (fun (hc9 : ((t >>> (((((Y i) + (0 : Int32)) * (g 35 0)) + ((X i) + (1 : Int32))) &&& 31)) &&& (1 : Int32)) = 0) => ?_) (fun (hc9 : ¬ (((t >>> (((((Y i) + (0 : Int32)) * (g 35 0)) + ((X i) + (1 : Int32))) &&& 31)) &&& (1 : Int32)) = 0)) => ?_)
          · refine q_step 5 200 [(0, .ref 28), (1, .ref 35), (2, .int t), (3, .int (Int32.ofNat i)), (4, .int ((X i) + (1 : Int32))), (5, .int ((Y i) + (0 : Int32))), (6, .int ((((Y i) + (0 : Int32)) * (g 35 0)) + ((X i) + (1 : Int32)))), (7, .int (1 : Int32))] [.int (Int32.ofNat i), .ref 36, .int (1 : Int32), .int t] (s_M4 36 c X Y wn g) u (fun big n0 => sg_mv_60 big n0 (s_M4 36 c X Y wn g) u t (Int32.ofNat i) ((X i) + (1 : Int32)) ((Y i) + (0 : Int32)) ((((Y i) + (0 : Int32)) * (g 35 0)) + ((X i) + (1 : Int32)))) ?_
            refine q_iald (j := i) (q_ixn (by omega) (by omega)) rfl rfl ?_
            refine q_step 13 218 [(0, .ref 28), (1, .ref 35), (2, .int ((t &&& (((1 : Int32) <<< ((c i) &&& 31)) ^^^ (Int32.ofInt (-1)))) ||| ((1 : Int32) <<< (((((Y i) + (0 : Int32)) * (g 35 0)) + ((X i) + (1 : Int32))) &&& 31)))), (3, .int (Int32.ofNat i)), (4, .int ((X i) + (1 : Int32))), (5, .int ((Y i) + (0 : Int32))), (6, .int ((((Y i) + (0 : Int32)) * (g 35 0)) + ((X i) + (1 : Int32)))), (7, .int (1 : Int32))] [.int ((((Y i) + (0 : Int32)) * (g 35 0)) + ((X i) + (1 : Int32))), .int (Int32.ofNat i), .ref 36] (s_M4 36 c X Y wn g) u (fun big n0 => sg_mv_61 big n0 (s_M4 36 c X Y wn g) u t (Int32.ofNat i) ((X i) + (1 : Int32)) ((Y i) + (0 : Int32)) ((((Y i) + (0 : Int32)) * (g 35 0)) + ((X i) + (1 : Int32))) t (c i)) ?_
            refine q_iast (j := i) (q_ixn (by omega) (by omega)) rfl rfl ?_
            refine q_step 4 226 [(0, .ref 28), (1, .ref 35), (2, .int ((t &&& (((1 : Int32) <<< ((c i) &&& 31)) ^^^ (Int32.ofInt (-1)))) ||| ((1 : Int32) <<< (((((Y i) + (0 : Int32)) * (g 35 0)) + ((X i) + (1 : Int32))) &&& 31)))), (3, .int (Int32.ofNat i)), (4, .int ((X i) + (1 : Int32))), (5, .int ((Y i) + (0 : Int32))), (6, .int ((((Y i) + (0 : Int32)) * (g 35 0)) + ((X i) + (1 : Int32)))), (7, .int (1 : Int32))] [.int ((X i) + (1 : Int32)), .int (Int32.ofNat i), .ref 29] (q_up (s_M4 36 c X Y wn g) 36 i ((((Y i) + (0 : Int32)) * (g 35 0)) + ((X i) + (1 : Int32)))) u (fun big n0 => sg_mv_62 big n0 (q_up (s_M4 36 c X Y wn g) 36 i ((((Y i) + (0 : Int32)) * (g 35 0)) + ((X i) + (1 : Int32)))) u ((t &&& (((1 : Int32) <<< ((c i) &&& 31)) ^^^ (Int32.ofInt (-1)))) ||| ((1 : Int32) <<< (((((Y i) + (0 : Int32)) * (g 35 0)) + ((X i) + (1 : Int32))) &&& 31))) (Int32.ofNat i) ((X i) + (1 : Int32)) ((Y i) + (0 : Int32)) ((((Y i) + (0 : Int32)) * (g 35 0)) + ((X i) + (1 : Int32)))) ?_
            refine q_iast (j := i) (q_ixn (by omega) (by omega)) rfl rfl ?_
            refine q_step 4 234 [(0, .ref 28), (1, .ref 35), (2, .int ((t &&& (((1 : Int32) <<< ((c i) &&& 31)) ^^^ (Int32.ofInt (-1)))) ||| ((1 : Int32) <<< (((((Y i) + (0 : Int32)) * (g 35 0)) + ((X i) + (1 : Int32))) &&& 31)))), (3, .int (Int32.ofNat i)), (4, .int ((X i) + (1 : Int32))), (5, .int ((Y i) + (0 : Int32))), (6, .int ((((Y i) + (0 : Int32)) * (g 35 0)) + ((X i) + (1 : Int32)))), (7, .int (1 : Int32))] [.int ((Y i) + (0 : Int32)), .int (Int32.ofNat i), .ref 30] (q_up (q_up (s_M4 36 c X Y wn g) 36 i ((((Y i) + (0 : Int32)) * (g 35 0)) + ((X i) + (1 : Int32)))) 29 i ((X i) + (1 : Int32))) u (fun big n0 => sg_mv_63 big n0 (q_up (q_up (s_M4 36 c X Y wn g) 36 i ((((Y i) + (0 : Int32)) * (g 35 0)) + ((X i) + (1 : Int32)))) 29 i ((X i) + (1 : Int32))) u ((t &&& (((1 : Int32) <<< ((c i) &&& 31)) ^^^ (Int32.ofInt (-1)))) ||| ((1 : Int32) <<< (((((Y i) + (0 : Int32)) * (g 35 0)) + ((X i) + (1 : Int32))) &&& 31))) (Int32.ofNat i) ((X i) + (1 : Int32)) ((Y i) + (0 : Int32)) ((((Y i) + (0 : Int32)) * (g 35 0)) + ((X i) + (1 : Int32)))) ?_
            refine q_iast (j := i) (q_ixn (by omega) (by omega)) rfl rfl ?_
            refine q_step 10 39 [(0, .ref 28), (1, .ref 35), (2, .int ((t &&& (((1 : Int32) <<< ((c i) &&& 31)) ^^^ (Int32.ofInt (-1)))) ||| ((1 : Int32) <<< (((((Y i) + (0 : Int32)) * (g 35 0)) + ((X i) + (1 : Int32))) &&& 31)))), (3, .int ((Int32.ofNat i) + (1 : Int32))), (4, .int ((X i) + (1 : Int32))), (5, .int ((Y i) + (0 : Int32))), (6, .int ((((Y i) + (0 : Int32)) * (g 35 0)) + ((X i) + (1 : Int32)))), (7, .int (1 : Int32))] [] (q_up (q_up (q_up (q_up (s_M4 36 c X Y wn g) 36 i ((((Y i) + (0 : Int32)) * (g 35 0)) + ((X i) + (1 : Int32)))) 29 i ((X i) + (1 : Int32))) 30 i ((Y i) + (0 : Int32))) 28 5 (((s_M4 36 c X Y wn g) 28 5) ||| ((1 : Int32) <<< ((Int32.ofNat i) &&& 31)))) u (fun big n0 => sg_mv_64 big n0 (q_up (q_up (q_up (s_M4 36 c X Y wn g) 36 i ((((Y i) + (0 : Int32)) * (g 35 0)) + ((X i) + (1 : Int32)))) 29 i ((X i) + (1 : Int32))) 30 i ((Y i) + (0 : Int32))) u ((t &&& (((1 : Int32) <<< ((c i) &&& 31)) ^^^ (Int32.ofInt (-1)))) ||| ((1 : Int32) <<< (((((Y i) + (0 : Int32)) * (g 35 0)) + ((X i) + (1 : Int32))) &&& 31))) (Int32.ofNat i) ((X i) + (1 : Int32)) ((Y i) + (0 : Int32)) ((((Y i) + (0 : Int32)) * (g 35 0)) + ((X i) + (1 : Int32)))) ?_
            refine q_weak [(0, .ref 28), (1, .ref 35), (2, .int ((t &&& (((1 : Int32) <<< ((c i) &&& 31)) ^^^ (Int32.ofInt (-1)))) ||| ((1 : Int32) <<< (((((Y i) + (0 : Int32)) * (g 35 0)) + ((X i) + (1 : Int32))) &&& 31)))), (3, .int ((Int32.ofNat i) + (1 : Int32)))] (q_sub.cons rfl (q_sub.cons rfl (q_sub.cons rfl (q_sub.cons rfl q_sub.nil)))) ?_
            rw [s_M4_c, s_M4_x (by decide), s_M4_y (by decide), s_M4_w (by decide), q_succ]
            exact hgo (by unfold s_gc; rw [e1, e2, hw]; exact ⟨by decide, ⟨hc4, hc5, hc6, hc7⟩, hc9⟩)
          · refine q_step 2 39 [(0, .ref 28), (1, .ref 35), (2, .int t), (3, .int ((Int32.ofNat i) + (1 : Int32))), (4, .int ((X i) + (1 : Int32))), (5, .int ((Y i) + (0 : Int32))), (6, .int ((((Y i) + (0 : Int32)) * (g 35 0)) + ((X i) + (1 : Int32)))), (7, .int (1 : Int32))] [] (s_M4 36 c X Y wn g) u (fun big n0 => sg_mv_65 big n0 (s_M4 36 c X Y wn g) u t (Int32.ofNat i) ((X i) + (1 : Int32)) ((Y i) + (0 : Int32)) ((((Y i) + (0 : Int32)) * (g 35 0)) + ((X i) + (1 : Int32)))) ?_
            refine q_weak [(0, .ref 28), (1, .ref 35), (2, .int t), (3, .int ((Int32.ofNat i) + (1 : Int32)))] (q_sub.cons rfl (q_sub.cons rfl (q_sub.cons rfl (q_sub.cons rfl q_sub.nil)))) ?_
            rw [q_succ]
            exact hno (fun z => by unfold s_gc at z; rw [e1, e2, hw] at z; exact hc9 z.2.2)
theorem mb_35_2 (g : qM) (u : qW) {Q : Option Value × qM × qW → Prop} {n i : Nat} (hn : g 35 3 = Int32.ofNat n) (h6 : n ≤ 6) (hi : i < n) (hw : g 33 i = 2) {c X Y : Nat → Int32} {t wn : Int32} (hgo : s_gc (g 35 0) (g 35 1) (g 33 i) (X i) (Y i) t → q_EV m_69 39 [(0, .ref 28), (1, .ref 35), (2, .int ((t &&& (((1 : Int32) <<< (c i &&& 31)) ^^^ Int32.ofInt (-1))) ||| ((1 : Int32) <<< (((Y i + s_cy (g 33 i)) * (g 35 0) + (X i + s_cx (g 33 i))) &&& 31)))), (3, .int (Int32.ofNat (i + 1)))] [] (s_M4 36 (s_set c i ((Y i + s_cy (g 33 i)) * (g 35 0) + (X i + s_cx (g 33 i)))) (s_set X i (X i + s_cx (g 33 i))) (s_set Y i (Y i + s_cy (g 33 i))) (wn ||| ((1 : Int32) <<< (Int32.ofNat i &&& 31))) g) u Q) (hno : ¬ s_gc (g 35 0) (g 35 1) (g 33 i) (X i) (Y i) t → q_EV m_69 39 [(0, .ref 28), (1, .ref 35), (2, .int t), (3, .int (Int32.ofNat (i + 1)))] [] (s_M4 36 c X Y wn g) u Q) : q_EV m_69 39 [(0, .ref 28), (1, .ref 35), (2, .int t), (3, .int (Int32.ofNat i))] [] (s_M4 36 c X Y wn g) u Q := by
  have e1 : s_cx (g 33 i) = (0 : Int32) := by rw [hw]; rfl
  have e2 : s_cy (g 33 i) = (1 : Int32) := by rw [hw]; rfl
  rw [e1, e2] at hgo
  refine q_step 3 44 [(0, .ref 28), (1, .ref 35), (2, .int t), (3, .int (Int32.ofNat i))] [.int (g 35 3), .int (Int32.ofNat i)] (s_M4 36 c X Y wn g) u (fun big n0 => sg_mv_40 big n0 (s_M4 36 c X Y wn g) u t (Int32.ofNat i)) ?_
  refine q_ic_ge rfl (fun hc0 => absurd (show (g 35 3) ≤ (Int32.ofNat i) from hc0) (fun z => by rw [hn, q_le (by omega) (by omega)] at z; omega)) (fun (hc0 : ¬ ((g 35 3) ≤ (Int32.ofNat i))) => ?_)
  refine q_step 3 52 [(0, .ref 28), (1, .ref 35), (2, .int t), (3, .int (Int32.ofNat i))] [.int (Int32.ofNat i), .ref 29] (s_M4 36 c X Y wn g) u (fun big n0 => sg_mv_41 big n0 (s_M4 36 c X Y wn g) u t (Int32.ofNat i)) ?_
  refine q_iald (j := i) (q_ixn (by omega) (by omega)) rfl rfl ?_
  refine q_step 3 58 [(0, .ref 28), (1, .ref 35), (2, .int t), (3, .int (Int32.ofNat i))] [.int (Int32.ofNat i), .ref 33, .int (X i)] (s_M4 36 c X Y wn g) u (fun big n0 => sg_mv_42 big n0 (s_M4 36 c X Y wn g) u t (Int32.ofNat i) (X i)) ?_
  refine q_iald (j := i) (q_ixn (by omega) (by omega)) rfl rfl ?_
  refine q_step 1 60 [(0, .ref 28), (1, .ref 35), (2, .int t), (3, .int (Int32.ofNat i))] [.int (1 : Int32), .int (g 33 i), .int (X i)] (s_M4 36 c X Y wn g) u (fun big n0 => sg_mv_43 big n0 (s_M4 36 c X Y wn g) u t (Int32.ofNat i) (X i) (g 33 i)) ?_
  refine q_ic_ne rfl (fun hc1 => absurd (show (g 33 i) = (1 : Int32) from hc1) (by rw [hw]; decide)) (fun (hc1 : ¬ ((g 33 i) = (1 : Int32))) => ?_)
  refine q_step 3 72 [(0, .ref 28), (1, .ref 35), (2, .int t), (3, .int (Int32.ofNat i))] [.int (Int32.ofNat i), .ref 33, .int (X i)] (s_M4 36 c X Y wn g) u (fun big n0 => sg_mv_44 big n0 (s_M4 36 c X Y wn g) u t (Int32.ofNat i) (X i)) ?_
  refine q_iald (j := i) (q_ixn (by omega) (by omega)) rfl rfl ?_
  refine q_step 1 74 [(0, .ref 28), (1, .ref 35), (2, .int t), (3, .int (Int32.ofNat i))] [.int (3 : Int32), .int (g 33 i), .int (X i)] (s_M4 36 c X Y wn g) u (fun big n0 => sg_mv_45 big n0 (s_M4 36 c X Y wn g) u t (Int32.ofNat i) (X i) (g 33 i)) ?_
  refine q_ic_ne rfl (fun hc2 => absurd (show (g 33 i) = (3 : Int32) from hc2) (by rw [hw]; decide)) (fun (hc2 : ¬ ((g 33 i) = (3 : Int32))) => ?_)
  refine q_step 6 90 [(0, .ref 28), (1, .ref 35), (2, .int t), (3, .int (Int32.ofNat i)), (4, .int ((X i) + (0 : Int32)))] [.int (Int32.ofNat i), .ref 30] (s_M4 36 c X Y wn g) u (fun big n0 => sg_mv_46 big n0 (s_M4 36 c X Y wn g) u t (Int32.ofNat i) (X i)) ?_
  refine q_iald (j := i) (q_ixn (by omega) (by omega)) rfl rfl ?_
  refine q_step 3 96 [(0, .ref 28), (1, .ref 35), (2, .int t), (3, .int (Int32.ofNat i)), (4, .int ((X i) + (0 : Int32)))] [.int (Int32.ofNat i), .ref 33, .int (Y i)] (s_M4 36 c X Y wn g) u (fun big n0 => sg_mv_47 big n0 (s_M4 36 c X Y wn g) u t (Int32.ofNat i) ((X i) + (0 : Int32)) (Y i)) ?_
  refine q_iald (j := i) (q_ixn (by omega) (by omega)) rfl rfl ?_
  refine q_step 1 98 [(0, .ref 28), (1, .ref 35), (2, .int t), (3, .int (Int32.ofNat i)), (4, .int ((X i) + (0 : Int32)))] [.int (2 : Int32), .int (g 33 i), .int (Y i)] (s_M4 36 c X Y wn g) u (fun big n0 => sg_mv_48 big n0 (s_M4 36 c X Y wn g) u t (Int32.ofNat i) ((X i) + (0 : Int32)) (Y i) (g 33 i)) ?_
  refine q_ic_ne rfl (fun (hc3 : (g 33 i) = (2 : Int32)) => ?_) (fun hc3 => absurd (show (g 33 i) = (2 : Int32) from hw) hc3)
  refine q_step 12 136 [(0, .ref 28), (1, .ref 35), (2, .int t), (3, .int (Int32.ofNat i)), (4, .int ((X i) + (0 : Int32))), (5, .int ((Y i) + (1 : Int32))), (6, .int ((((Y i) + (1 : Int32)) * (g 35 0)) + ((X i) + (0 : Int32))))] [.int ((X i) + (0 : Int32))] (s_M4 36 c X Y wn g) u (fun big n0 => sg_mv_68 big n0 (s_M4 36 c X Y wn g) u t (Int32.ofNat i) ((X i) + (0 : Int32)) (Y i)) ?_
  refine q_if_lt rfl (fun (hc4 : ((X i) + (0 : Int32)) < 0) => ?_) (fun (hc4 : ¬ (((X i) + (0 : Int32)) < 0)) => ?_)
  · refine q_step 5 174 [(0, .ref 28), (1, .ref 35), (2, .int t), (3, .int (Int32.ofNat i)), (4, .int ((X i) + (0 : Int32))), (5, .int ((Y i) + (1 : Int32))), (6, .int ((((Y i) + (1 : Int32)) * (g 35 0)) + ((X i) + (0 : Int32)))), (7, .int (0 : Int32))] [.int (Int32.ofNat i), .ref 33] (s_M4 36 c X Y wn g) u (fun big n0 => sg_mv_51 big n0 (s_M4 36 c X Y wn g) u t (Int32.ofNat i) ((X i) + (0 : Int32)) ((Y i) + (1 : Int32)) ((((Y i) + (1 : Int32)) * (g 35 0)) + ((X i) + (0 : Int32)))) ?_
    refine q_iald (j := i) (q_ixn (by omega) (by omega)) rfl rfl ?_
    refine q_step 1 176 [(0, .ref 28), (1, .ref 35), (2, .int t), (3, .int (Int32.ofNat i)), (4, .int ((X i) + (0 : Int32))), (5, .int ((Y i) + (1 : Int32))), (6, .int ((((Y i) + (1 : Int32)) * (g 35 0)) + ((X i) + (0 : Int32)))), (7, .int (0 : Int32))] [.int (4 : Int32), .int (g 33 i)] (s_M4 36 c X Y wn g) u (fun big n0 => sg_mv_52 big n0 (s_M4 36 c X Y wn g) u t (Int32.ofNat i) ((X i) + (0 : Int32)) ((Y i) + (1 : Int32)) ((((Y i) + (1 : Int32)) * (g 35 0)) + ((X i) + (0 : Int32))) (g 33 i)) ?_
    refine q_ic_eq rfl (fun hc5 => absurd (show (g 33 i) = (4 : Int32) from hc5) (by rw [hw]; decide)) (fun (hc5 : ¬ ((g 33 i) = (4 : Int32))) => ?_)
    refine q_step 4 39 [(0, .ref 28), (1, .ref 35), (2, .int t), (3, .int ((Int32.ofNat i) + (1 : Int32))), (4, .int ((X i) + (0 : Int32))), (5, .int ((Y i) + (1 : Int32))), (6, .int ((((Y i) + (1 : Int32)) * (g 35 0)) + ((X i) + (0 : Int32)))), (7, .int (0 : Int32))] [] (s_M4 36 c X Y wn g) u (fun big n0 => sg_mv_53 big n0 (s_M4 36 c X Y wn g) u t (Int32.ofNat i) ((X i) + (0 : Int32)) ((Y i) + (1 : Int32)) ((((Y i) + (1 : Int32)) * (g 35 0)) + ((X i) + (0 : Int32)))) ?_
    refine q_weak [(0, .ref 28), (1, .ref 35), (2, .int t), (3, .int ((Int32.ofNat i) + (1 : Int32)))] (q_sub.cons rfl (q_sub.cons rfl (q_sub.cons rfl (q_sub.cons rfl q_sub.nil)))) ?_
    rw [q_succ]
    exact hno (fun z => by unfold s_gc at z; rw [e1, e2, hw] at z; exact z.2.1.1 hc4)
  · refine q_step 3 145 [(0, .ref 28), (1, .ref 35), (2, .int t), (3, .int (Int32.ofNat i)), (4, .int ((X i) + (0 : Int32))), (5, .int ((Y i) + (1 : Int32))), (6, .int ((((Y i) + (1 : Int32)) * (g 35 0)) + ((X i) + (0 : Int32))))] [.int (g 35 0), .int ((X i) + (0 : Int32))] (s_M4 36 c X Y wn g) u (fun big n0 => sg_mv_54 big n0 (s_M4 36 c X Y wn g) u t (Int32.ofNat i) ((X i) + (0 : Int32)) ((Y i) + (1 : Int32)) ((((Y i) + (1 : Int32)) * (g 35 0)) + ((X i) + (0 : Int32)))) ?_
    refine q_ic_ge rfl (fun (hc5 : (g 35 0) ≤ ((X i) + (0 : Int32))) => ?_) (fun (hc5 : ¬ ((g 35 0) ≤ ((X i) + (0 : Int32)))) => ?_)
    · refine q_step 5 174 [(0, .ref 28), (1, .ref 35), (2, .int t), (3, .int (Int32.ofNat i)), (4, .int ((X i) + (0 : Int32))), (5, .int ((Y i) + (1 : Int32))), (6, .int ((((Y i) + (1 : Int32)) * (g 35 0)) + ((X i) + (0 : Int32)))), (7, .int (0 : Int32))] [.int (Int32.ofNat i), .ref 33] (s_M4 36 c X Y wn g) u (fun big n0 => sg_mv_51 big n0 (s_M4 36 c X Y wn g) u t (Int32.ofNat i) ((X i) + (0 : Int32)) ((Y i) + (1 : Int32)) ((((Y i) + (1 : Int32)) * (g 35 0)) + ((X i) + (0 : Int32)))) ?_
      refine q_iald (j := i) (q_ixn (by omega) (by omega)) rfl rfl ?_
      refine q_step 1 176 [(0, .ref 28), (1, .ref 35), (2, .int t), (3, .int (Int32.ofNat i)), (4, .int ((X i) + (0 : Int32))), (5, .int ((Y i) + (1 : Int32))), (6, .int ((((Y i) + (1 : Int32)) * (g 35 0)) + ((X i) + (0 : Int32)))), (7, .int (0 : Int32))] [.int (4 : Int32), .int (g 33 i)] (s_M4 36 c X Y wn g) u (fun big n0 => sg_mv_52 big n0 (s_M4 36 c X Y wn g) u t (Int32.ofNat i) ((X i) + (0 : Int32)) ((Y i) + (1 : Int32)) ((((Y i) + (1 : Int32)) * (g 35 0)) + ((X i) + (0 : Int32))) (g 33 i)) ?_
      refine q_ic_eq rfl (fun hc6 => absurd (show (g 33 i) = (4 : Int32) from hc6) (by rw [hw]; decide)) (fun (hc6 : ¬ ((g 33 i) = (4 : Int32))) => ?_)
      refine q_step 4 39 [(0, .ref 28), (1, .ref 35), (2, .int t), (3, .int ((Int32.ofNat i) + (1 : Int32))), (4, .int ((X i) + (0 : Int32))), (5, .int ((Y i) + (1 : Int32))), (6, .int ((((Y i) + (1 : Int32)) * (g 35 0)) + ((X i) + (0 : Int32)))), (7, .int (0 : Int32))] [] (s_M4 36 c X Y wn g) u (fun big n0 => sg_mv_53 big n0 (s_M4 36 c X Y wn g) u t (Int32.ofNat i) ((X i) + (0 : Int32)) ((Y i) + (1 : Int32)) ((((Y i) + (1 : Int32)) * (g 35 0)) + ((X i) + (0 : Int32)))) ?_
      refine q_weak [(0, .ref 28), (1, .ref 35), (2, .int t), (3, .int ((Int32.ofNat i) + (1 : Int32)))] (q_sub.cons rfl (q_sub.cons rfl (q_sub.cons rfl (q_sub.cons rfl q_sub.nil)))) ?_
      rw [q_succ]
      exact hno (fun z => by unfold s_gc at z; rw [e1, e2, hw] at z; exact z.2.1.2.1 hc5)
    · refine q_step 1 150 [(0, .ref 28), (1, .ref 35), (2, .int t), (3, .int (Int32.ofNat i)), (4, .int ((X i) + (0 : Int32))), (5, .int ((Y i) + (1 : Int32))), (6, .int ((((Y i) + (1 : Int32)) * (g 35 0)) + ((X i) + (0 : Int32))))] [.int ((Y i) + (1 : Int32))] (s_M4 36 c X Y wn g) u (fun big n0 => sg_mv_55 big n0 (s_M4 36 c X Y wn g) u t (Int32.ofNat i) ((X i) + (0 : Int32)) ((Y i) + (1 : Int32)) ((((Y i) + (1 : Int32)) * (g 35 0)) + ((X i) + (0 : Int32)))) ?_
      refine q_if_lt rfl (fun (hc6 : ((Y i) + (1 : Int32)) < 0) => ?_) (fun (hc6 : ¬ (((Y i) + (1 : Int32)) < 0)) => ?_)
      · refine q_step 5 174 [(0, .ref 28), (1, .ref 35), (2, .int t), (3, .int (Int32.ofNat i)), (4, .int ((X i) + (0 : Int32))), (5, .int ((Y i) + (1 : Int32))), (6, .int ((((Y i) + (1 : Int32)) * (g 35 0)) + ((X i) + (0 : Int32)))), (7, .int (0 : Int32))] [.int (Int32.ofNat i), .ref 33] (s_M4 36 c X Y wn g) u (fun big n0 => sg_mv_51 big n0 (s_M4 36 c X Y wn g) u t (Int32.ofNat i) ((X i) + (0 : Int32)) ((Y i) + (1 : Int32)) ((((Y i) + (1 : Int32)) * (g 35 0)) + ((X i) + (0 : Int32)))) ?_
        refine q_iald (j := i) (q_ixn (by omega) (by omega)) rfl rfl ?_
        refine q_step 1 176 [(0, .ref 28), (1, .ref 35), (2, .int t), (3, .int (Int32.ofNat i)), (4, .int ((X i) + (0 : Int32))), (5, .int ((Y i) + (1 : Int32))), (6, .int ((((Y i) + (1 : Int32)) * (g 35 0)) + ((X i) + (0 : Int32)))), (7, .int (0 : Int32))] [.int (4 : Int32), .int (g 33 i)] (s_M4 36 c X Y wn g) u (fun big n0 => sg_mv_52 big n0 (s_M4 36 c X Y wn g) u t (Int32.ofNat i) ((X i) + (0 : Int32)) ((Y i) + (1 : Int32)) ((((Y i) + (1 : Int32)) * (g 35 0)) + ((X i) + (0 : Int32))) (g 33 i)) ?_
        refine q_ic_eq rfl (fun hc7 => absurd (show (g 33 i) = (4 : Int32) from hc7) (by rw [hw]; decide)) (fun (hc7 : ¬ ((g 33 i) = (4 : Int32))) => ?_)
        refine q_step 4 39 [(0, .ref 28), (1, .ref 35), (2, .int t), (3, .int ((Int32.ofNat i) + (1 : Int32))), (4, .int ((X i) + (0 : Int32))), (5, .int ((Y i) + (1 : Int32))), (6, .int ((((Y i) + (1 : Int32)) * (g 35 0)) + ((X i) + (0 : Int32)))), (7, .int (0 : Int32))] [] (s_M4 36 c X Y wn g) u (fun big n0 => sg_mv_53 big n0 (s_M4 36 c X Y wn g) u t (Int32.ofNat i) ((X i) + (0 : Int32)) ((Y i) + (1 : Int32)) ((((Y i) + (1 : Int32)) * (g 35 0)) + ((X i) + (0 : Int32)))) ?_
        refine q_weak [(0, .ref 28), (1, .ref 35), (2, .int t), (3, .int ((Int32.ofNat i) + (1 : Int32)))] (q_sub.cons rfl (q_sub.cons rfl (q_sub.cons rfl (q_sub.cons rfl q_sub.nil)))) ?_
        rw [q_succ]
        exact hno (fun z => by unfold s_gc at z; rw [e1, e2, hw] at z; exact z.2.1.2.2.1 hc6)
      · refine q_step 3 159 [(0, .ref 28), (1, .ref 35), (2, .int t), (3, .int (Int32.ofNat i)), (4, .int ((X i) + (0 : Int32))), (5, .int ((Y i) + (1 : Int32))), (6, .int ((((Y i) + (1 : Int32)) * (g 35 0)) + ((X i) + (0 : Int32))))] [.int (g 35 1), .int ((Y i) + (1 : Int32))] (s_M4 36 c X Y wn g) u (fun big n0 => sg_mv_56 big n0 (s_M4 36 c X Y wn g) u t (Int32.ofNat i) ((X i) + (0 : Int32)) ((Y i) + (1 : Int32)) ((((Y i) + (1 : Int32)) * (g 35 0)) + ((X i) + (0 : Int32)))) ?_
        refine q_ic_ge rfl (fun (hc7 : (g 35 1) ≤ ((Y i) + (1 : Int32))) => ?_) (fun (hc7 : ¬ ((g 35 1) ≤ ((Y i) + (1 : Int32)))) => ?_)
        · refine q_step 5 174 [(0, .ref 28), (1, .ref 35), (2, .int t), (3, .int (Int32.ofNat i)), (4, .int ((X i) + (0 : Int32))), (5, .int ((Y i) + (1 : Int32))), (6, .int ((((Y i) + (1 : Int32)) * (g 35 0)) + ((X i) + (0 : Int32)))), (7, .int (0 : Int32))] [.int (Int32.ofNat i), .ref 33] (s_M4 36 c X Y wn g) u (fun big n0 => sg_mv_51 big n0 (s_M4 36 c X Y wn g) u t (Int32.ofNat i) ((X i) + (0 : Int32)) ((Y i) + (1 : Int32)) ((((Y i) + (1 : Int32)) * (g 35 0)) + ((X i) + (0 : Int32)))) ?_
          refine q_iald (j := i) (q_ixn (by omega) (by omega)) rfl rfl ?_
          refine q_step 1 176 [(0, .ref 28), (1, .ref 35), (2, .int t), (3, .int (Int32.ofNat i)), (4, .int ((X i) + (0 : Int32))), (5, .int ((Y i) + (1 : Int32))), (6, .int ((((Y i) + (1 : Int32)) * (g 35 0)) + ((X i) + (0 : Int32)))), (7, .int (0 : Int32))] [.int (4 : Int32), .int (g 33 i)] (s_M4 36 c X Y wn g) u (fun big n0 => sg_mv_52 big n0 (s_M4 36 c X Y wn g) u t (Int32.ofNat i) ((X i) + (0 : Int32)) ((Y i) + (1 : Int32)) ((((Y i) + (1 : Int32)) * (g 35 0)) + ((X i) + (0 : Int32))) (g 33 i)) ?_
          refine q_ic_eq rfl (fun hc8 => absurd (show (g 33 i) = (4 : Int32) from hc8) (by rw [hw]; decide)) (fun (hc8 : ¬ ((g 33 i) = (4 : Int32))) => ?_)
          refine q_step 4 39 [(0, .ref 28), (1, .ref 35), (2, .int t), (3, .int ((Int32.ofNat i) + (1 : Int32))), (4, .int ((X i) + (0 : Int32))), (5, .int ((Y i) + (1 : Int32))), (6, .int ((((Y i) + (1 : Int32)) * (g 35 0)) + ((X i) + (0 : Int32)))), (7, .int (0 : Int32))] [] (s_M4 36 c X Y wn g) u (fun big n0 => sg_mv_53 big n0 (s_M4 36 c X Y wn g) u t (Int32.ofNat i) ((X i) + (0 : Int32)) ((Y i) + (1 : Int32)) ((((Y i) + (1 : Int32)) * (g 35 0)) + ((X i) + (0 : Int32)))) ?_
          refine q_weak [(0, .ref 28), (1, .ref 35), (2, .int t), (3, .int ((Int32.ofNat i) + (1 : Int32)))] (q_sub.cons rfl (q_sub.cons rfl (q_sub.cons rfl (q_sub.cons rfl q_sub.nil)))) ?_
          rw [q_succ]
          exact hno (fun z => by unfold s_gc at z; rw [e1, e2, hw] at z; exact z.2.1.2.2.2 hc7)
        · refine q_step 6 174 [(0, .ref 28), (1, .ref 35), (2, .int t), (3, .int (Int32.ofNat i)), (4, .int ((X i) + (0 : Int32))), (5, .int ((Y i) + (1 : Int32))), (6, .int ((((Y i) + (1 : Int32)) * (g 35 0)) + ((X i) + (0 : Int32)))), (7, .int (1 : Int32))] [.int (Int32.ofNat i), .ref 33] (s_M4 36 c X Y wn g) u (fun big n0 => sg_mv_57 big n0 (s_M4 36 c X Y wn g) u t (Int32.ofNat i) ((X i) + (0 : Int32)) ((Y i) + (1 : Int32)) ((((Y i) + (1 : Int32)) * (g 35 0)) + ((X i) + (0 : Int32)))) ?_
          refine q_iald (j := i) (q_ixn (by omega) (by omega)) rfl rfl ?_
          refine q_step 1 176 [(0, .ref 28), (1, .ref 35), (2, .int t), (3, .int (Int32.ofNat i)), (4, .int ((X i) + (0 : Int32))), (5, .int ((Y i) + (1 : Int32))), (6, .int ((((Y i) + (1 : Int32)) * (g 35 0)) + ((X i) + (0 : Int32)))), (7, .int (1 : Int32))] [.int (4 : Int32), .int (g 33 i)] (s_M4 36 c X Y wn g) u (fun big n0 => sg_mv_58 big n0 (s_M4 36 c X Y wn g) u t (Int32.ofNat i) ((X i) + (0 : Int32)) ((Y i) + (1 : Int32)) ((((Y i) + (1 : Int32)) * (g 35 0)) + ((X i) + (0 : Int32))) (g 33 i)) ?_
          refine q_ic_eq rfl (fun hc8 => absurd (show (g 33 i) = (4 : Int32) from hc8) (by rw [hw]; decide)) (fun (hc8 : ¬ ((g 33 i) = (4 : Int32))) => ?_)
          refine q_step 7 190 [(0, .ref 28), (1, .ref 35), (2, .int t), (3, .int (Int32.ofNat i)), (4, .int ((X i) + (0 : Int32))), (5, .int ((Y i) + (1 : Int32))), (6, .int ((((Y i) + (1 : Int32)) * (g 35 0)) + ((X i) + (0 : Int32)))), (7, .int (1 : Int32))] [.int ((t >>> (((((Y i) + (1 : Int32)) * (g 35 0)) + ((X i) + (0 : Int32))) &&& 31)) &&& (1 : Int32))] (s_M4 36 c X Y wn g) u (fun big n0 => sg_mv_59 big n0 (s_M4 36 c X Y wn g) u t (Int32.ofNat i) ((X i) + (0 : Int32)) ((Y i) + (1 : Int32)) ((((Y i) + (1 : Int32)) * (g 35 0)) + ((X i) + (0 : Int32)))) ?_
          refine q_if_ne rfl (fun (hc9 : ((t >>> (((((Y i) + (1 : Int32)) * (g 35 0)) + ((X i) + (0 : Int32))) &&& 31)) &&& (1 : Int32)) = 0) => ?_) (fun (hc9 : ¬ (((t >>> (((((Y i) + (1 : Int32)) * (g 35 0)) + ((X i) + (0 : Int32))) &&& 31)) &&& (1 : Int32)) = 0)) => ?_)
          · refine q_step 5 200 [(0, .ref 28), (1, .ref 35), (2, .int t), (3, .int (Int32.ofNat i)), (4, .int ((X i) + (0 : Int32))), (5, .int ((Y i) + (1 : Int32))), (6, .int ((((Y i) + (1 : Int32)) * (g 35 0)) + ((X i) + (0 : Int32)))), (7, .int (1 : Int32))] [.int (Int32.ofNat i), .ref 36, .int (1 : Int32), .int t] (s_M4 36 c X Y wn g) u (fun big n0 => sg_mv_60 big n0 (s_M4 36 c X Y wn g) u t (Int32.ofNat i) ((X i) + (0 : Int32)) ((Y i) + (1 : Int32)) ((((Y i) + (1 : Int32)) * (g 35 0)) + ((X i) + (0 : Int32)))) ?_
            refine q_iald (j := i) (q_ixn (by omega) (by omega)) rfl rfl ?_
            refine q_step 13 218 [(0, .ref 28), (1, .ref 35), (2, .int ((t &&& (((1 : Int32) <<< ((c i) &&& 31)) ^^^ (Int32.ofInt (-1)))) ||| ((1 : Int32) <<< (((((Y i) + (1 : Int32)) * (g 35 0)) + ((X i) + (0 : Int32))) &&& 31)))), (3, .int (Int32.ofNat i)), (4, .int ((X i) + (0 : Int32))), (5, .int ((Y i) + (1 : Int32))), (6, .int ((((Y i) + (1 : Int32)) * (g 35 0)) + ((X i) + (0 : Int32)))), (7, .int (1 : Int32))] [.int ((((Y i) + (1 : Int32)) * (g 35 0)) + ((X i) + (0 : Int32))), .int (Int32.ofNat i), .ref 36] (s_M4 36 c X Y wn g) u (fun big n0 => sg_mv_61 big n0 (s_M4 36 c X Y wn g) u t (Int32.ofNat i) ((X i) + (0 : Int32)) ((Y i) + (1 : Int32)) ((((Y i) + (1 : Int32)) * (g 35 0)) + ((X i) + (0 : Int32))) t (c i)) ?_
            refine q_iast (j := i) (q_ixn (by omega) (by omega)) rfl rfl ?_
            refine q_step 4 226 [(0, .ref 28), (1, .ref 35), (2, .int ((t &&& (((1 : Int32) <<< ((c i) &&& 31)) ^^^ (Int32.ofInt (-1)))) ||| ((1 : Int32) <<< (((((Y i) + (1 : Int32)) * (g 35 0)) + ((X i) + (0 : Int32))) &&& 31)))), (3, .int (Int32.ofNat i)), (4, .int ((X i) + (0 : Int32))), (5, .int ((Y i) + (1 : Int32))), (6, .int ((((Y i) + (1 : Int32)) * (g 35 0)) + ((X i) + (0 : Int32)))), (7, .int (1 : Int32))] [.int ((X i) + (0 : Int32)), .int (Int32.ofNat i), .ref 29] (q_up (s_M4 36 c X Y wn g) 36 i ((((Y i) + (1 : Int32)) * (g 35 0)) + ((X i) + (0 : Int32)))) u (fun big n0 => sg_mv_62 big n0 (q_up (s_M4 36 c X Y wn g) 36 i ((((Y i) + (1 : Int32)) * (g 35 0)) + ((X i) + (0 : Int32)))) u ((t &&& (((1 : Int32) <<< ((c i) &&& 31)) ^^^ (Int32.ofInt (-1)))) ||| ((1 : Int32) <<< (((((Y i) + (1 : Int32)) * (g 35 0)) + ((X i) + (0 : Int32))) &&& 31))) (Int32.ofNat i) ((X i) + (0 : Int32)) ((Y i) + (1 : Int32)) ((((Y i) + (1 : Int32)) * (g 35 0)) + ((X i) + (0 : Int32)))) ?_
            refine q_iast (j := i) (q_ixn (by omega) (by omega)) rfl rfl ?_
            refine q_step 4 234 [(0, .ref 28), (1, .ref 35), (2, .int ((t &&& (((1 : Int32) <<< ((c i) &&& 31)) ^^^ (Int32.ofInt (-1)))) ||| ((1 : Int32) <<< (((((Y i) + (1 : Int32)) * (g 35 0)) + ((X i) + (0 : Int32))) &&& 31)))), (3, .int (Int32.ofNat i)), (4, .int ((X i) + (0 : Int32))), (5, .int ((Y i) + (1 : Int32))), (6, .int ((((Y i) + (1 : Int32)) * (g 35 0)) + ((X i) + (0 : Int32)))), (7, .int (1 : Int32))] [.int ((Y i) + (1 : Int32)), .int (Int32.ofNat i), .ref 30] (q_up (q_up (s_M4 36 c X Y wn g) 36 i ((((Y i) + (1 : Int32)) * (g 35 0)) + ((X i) + (0 : Int32)))) 29 i ((X i) + (0 : Int32))) u (fun big n0 => sg_mv_63 big n0 (q_up (q_up (s_M4 36 c X Y wn g) 36 i ((((Y i) + (1 : Int32)) * (g 35 0)) + ((X i) + (0 : Int32)))) 29 i ((X i) + (0 : Int32))) u ((t &&& (((1 : Int32) <<< ((c i) &&& 31)) ^^^ (Int32.ofInt (-1)))) ||| ((1 : Int32) <<< (((((Y i) + (1 : Int32)) * (g 35 0)) + ((X i) + (0 : Int32))) &&& 31))) (Int32.ofNat i) ((X i) + (0 : Int32)) ((Y i) + (1 : Int32)) ((((Y i) + (1 : Int32)) * (g 35 0)) + ((X i) + (0 : Int32)))) ?_
            refine q_iast (j := i) (q_ixn (by omega) (by omega)) rfl rfl ?_
            refine q_step 10 39 [(0, .ref 28), (1, .ref 35), (2, .int ((t &&& (((1 : Int32) <<< ((c i) &&& 31)) ^^^ (Int32.ofInt (-1)))) ||| ((1 : Int32) <<< (((((Y i) + (1 : Int32)) * (g 35 0)) + ((X i) + (0 : Int32))) &&& 31)))), (3, .int ((Int32.ofNat i) + (1 : Int32))), (4, .int ((X i) + (0 : Int32))), (5, .int ((Y i) + (1 : Int32))), (6, .int ((((Y i) + (1 : Int32)) * (g 35 0)) + ((X i) + (0 : Int32)))), (7, .int (1 : Int32))] [] (q_up (q_up (q_up (q_up (s_M4 36 c X Y wn g) 36 i ((((Y i) + (1 : Int32)) * (g 35 0)) + ((X i) + (0 : Int32)))) 29 i ((X i) + (0 : Int32))) 30 i ((Y i) + (1 : Int32))) 28 5 (((s_M4 36 c X Y wn g) 28 5) ||| ((1 : Int32) <<< ((Int32.ofNat i) &&& 31)))) u (fun big n0 => sg_mv_64 big n0 (q_up (q_up (q_up (s_M4 36 c X Y wn g) 36 i ((((Y i) + (1 : Int32)) * (g 35 0)) + ((X i) + (0 : Int32)))) 29 i ((X i) + (0 : Int32))) 30 i ((Y i) + (1 : Int32))) u ((t &&& (((1 : Int32) <<< ((c i) &&& 31)) ^^^ (Int32.ofInt (-1)))) ||| ((1 : Int32) <<< (((((Y i) + (1 : Int32)) * (g 35 0)) + ((X i) + (0 : Int32))) &&& 31))) (Int32.ofNat i) ((X i) + (0 : Int32)) ((Y i) + (1 : Int32)) ((((Y i) + (1 : Int32)) * (g 35 0)) + ((X i) + (0 : Int32)))) ?_
            refine q_weak [(0, .ref 28), (1, .ref 35), (2, .int ((t &&& (((1 : Int32) <<< ((c i) &&& 31)) ^^^ (Int32.ofInt (-1)))) ||| ((1 : Int32) <<< (((((Y i) + (1 : Int32)) * (g 35 0)) + ((X i) + (0 : Int32))) &&& 31)))), (3, .int ((Int32.ofNat i) + (1 : Int32)))] (q_sub.cons rfl (q_sub.cons rfl (q_sub.cons rfl (q_sub.cons rfl q_sub.nil)))) ?_
            rw [s_M4_c, s_M4_x (by decide), s_M4_y (by decide), s_M4_w (by decide), q_succ]
            exact hgo (by unfold s_gc; rw [e1, e2, hw]; exact ⟨by decide, ⟨hc4, hc5, hc6, hc7⟩, hc9⟩)
          · refine q_step 2 39 [(0, .ref 28), (1, .ref 35), (2, .int t), (3, .int ((Int32.ofNat i) + (1 : Int32))), (4, .int ((X i) + (0 : Int32))), (5, .int ((Y i) + (1 : Int32))), (6, .int ((((Y i) + (1 : Int32)) * (g 35 0)) + ((X i) + (0 : Int32)))), (7, .int (1 : Int32))] [] (s_M4 36 c X Y wn g) u (fun big n0 => sg_mv_65 big n0 (s_M4 36 c X Y wn g) u t (Int32.ofNat i) ((X i) + (0 : Int32)) ((Y i) + (1 : Int32)) ((((Y i) + (1 : Int32)) * (g 35 0)) + ((X i) + (0 : Int32)))) ?_
            refine q_weak [(0, .ref 28), (1, .ref 35), (2, .int t), (3, .int ((Int32.ofNat i) + (1 : Int32)))] (q_sub.cons rfl (q_sub.cons rfl (q_sub.cons rfl (q_sub.cons rfl q_sub.nil)))) ?_
            rw [q_succ]
            exact hno (fun z => by unfold s_gc at z; rw [e1, e2, hw] at z; exact hc9 z.2.2)
theorem mb_35_3 (g : qM) (u : qW) {Q : Option Value × qM × qW → Prop} {n i : Nat} (hn : g 35 3 = Int32.ofNat n) (h6 : n ≤ 6) (hi : i < n) (hw : g 33 i = 3) {c X Y : Nat → Int32} {t wn : Int32} (hgo : s_gc (g 35 0) (g 35 1) (g 33 i) (X i) (Y i) t → q_EV m_69 39 [(0, .ref 28), (1, .ref 35), (2, .int ((t &&& (((1 : Int32) <<< (c i &&& 31)) ^^^ Int32.ofInt (-1))) ||| ((1 : Int32) <<< (((Y i + s_cy (g 33 i)) * (g 35 0) + (X i + s_cx (g 33 i))) &&& 31)))), (3, .int (Int32.ofNat (i + 1)))] [] (s_M4 36 (s_set c i ((Y i + s_cy (g 33 i)) * (g 35 0) + (X i + s_cx (g 33 i)))) (s_set X i (X i + s_cx (g 33 i))) (s_set Y i (Y i + s_cy (g 33 i))) (wn ||| ((1 : Int32) <<< (Int32.ofNat i &&& 31))) g) u Q) (hno : ¬ s_gc (g 35 0) (g 35 1) (g 33 i) (X i) (Y i) t → q_EV m_69 39 [(0, .ref 28), (1, .ref 35), (2, .int t), (3, .int (Int32.ofNat (i + 1)))] [] (s_M4 36 c X Y wn g) u Q) : q_EV m_69 39 [(0, .ref 28), (1, .ref 35), (2, .int t), (3, .int (Int32.ofNat i))] [] (s_M4 36 c X Y wn g) u Q := by
  have e1 : s_cx (g 33 i) = (Int32.ofInt (-1)) := by rw [hw]; rfl
  have e2 : s_cy (g 33 i) = (0 : Int32) := by rw [hw]; rfl
  rw [e1, e2] at hgo
  refine q_step 3 44 [(0, .ref 28), (1, .ref 35), (2, .int t), (3, .int (Int32.ofNat i))] [.int (g 35 3), .int (Int32.ofNat i)] (s_M4 36 c X Y wn g) u (fun big n0 => sg_mv_40 big n0 (s_M4 36 c X Y wn g) u t (Int32.ofNat i)) ?_
  refine q_ic_ge rfl (fun hc0 => absurd (show (g 35 3) ≤ (Int32.ofNat i) from hc0) (fun z => by rw [hn, q_le (by omega) (by omega)] at z; omega)) (fun (hc0 : ¬ ((g 35 3) ≤ (Int32.ofNat i))) => ?_)
  refine q_step 3 52 [(0, .ref 28), (1, .ref 35), (2, .int t), (3, .int (Int32.ofNat i))] [.int (Int32.ofNat i), .ref 29] (s_M4 36 c X Y wn g) u (fun big n0 => sg_mv_41 big n0 (s_M4 36 c X Y wn g) u t (Int32.ofNat i)) ?_
  refine q_iald (j := i) (q_ixn (by omega) (by omega)) rfl rfl ?_
  refine q_step 3 58 [(0, .ref 28), (1, .ref 35), (2, .int t), (3, .int (Int32.ofNat i))] [.int (Int32.ofNat i), .ref 33, .int (X i)] (s_M4 36 c X Y wn g) u (fun big n0 => sg_mv_42 big n0 (s_M4 36 c X Y wn g) u t (Int32.ofNat i) (X i)) ?_
  refine q_iald (j := i) (q_ixn (by omega) (by omega)) rfl rfl ?_
  refine q_step 1 60 [(0, .ref 28), (1, .ref 35), (2, .int t), (3, .int (Int32.ofNat i))] [.int (1 : Int32), .int (g 33 i), .int (X i)] (s_M4 36 c X Y wn g) u (fun big n0 => sg_mv_43 big n0 (s_M4 36 c X Y wn g) u t (Int32.ofNat i) (X i) (g 33 i)) ?_
  refine q_ic_ne rfl (fun hc1 => absurd (show (g 33 i) = (1 : Int32) from hc1) (by rw [hw]; decide)) (fun (hc1 : ¬ ((g 33 i) = (1 : Int32))) => ?_)
  refine q_step 3 72 [(0, .ref 28), (1, .ref 35), (2, .int t), (3, .int (Int32.ofNat i))] [.int (Int32.ofNat i), .ref 33, .int (X i)] (s_M4 36 c X Y wn g) u (fun big n0 => sg_mv_44 big n0 (s_M4 36 c X Y wn g) u t (Int32.ofNat i) (X i)) ?_
  refine q_iald (j := i) (q_ixn (by omega) (by omega)) rfl rfl ?_
  refine q_step 1 74 [(0, .ref 28), (1, .ref 35), (2, .int t), (3, .int (Int32.ofNat i))] [.int (3 : Int32), .int (g 33 i), .int (X i)] (s_M4 36 c X Y wn g) u (fun big n0 => sg_mv_45 big n0 (s_M4 36 c X Y wn g) u t (Int32.ofNat i) (X i) (g 33 i)) ?_
  refine q_ic_ne rfl (fun (hc2 : (g 33 i) = (3 : Int32)) => ?_) (fun hc2 => absurd (show (g 33 i) = (3 : Int32) from hw) hc2)
  refine q_step 7 90 [(0, .ref 28), (1, .ref 35), (2, .int t), (3, .int (Int32.ofNat i)), (4, .int ((X i) + (Int32.ofInt (-1))))] [.int (Int32.ofNat i), .ref 30] (s_M4 36 c X Y wn g) u (fun big n0 => sg_mv_69 big n0 (s_M4 36 c X Y wn g) u t (Int32.ofNat i) (X i)) ?_
  refine q_iald (j := i) (q_ixn (by omega) (by omega)) rfl rfl ?_
  refine q_step 3 96 [(0, .ref 28), (1, .ref 35), (2, .int t), (3, .int (Int32.ofNat i)), (4, .int ((X i) + (Int32.ofInt (-1))))] [.int (Int32.ofNat i), .ref 33, .int (Y i)] (s_M4 36 c X Y wn g) u (fun big n0 => sg_mv_47 big n0 (s_M4 36 c X Y wn g) u t (Int32.ofNat i) ((X i) + (Int32.ofInt (-1))) (Y i)) ?_
  refine q_iald (j := i) (q_ixn (by omega) (by omega)) rfl rfl ?_
  refine q_step 1 98 [(0, .ref 28), (1, .ref 35), (2, .int t), (3, .int (Int32.ofNat i)), (4, .int ((X i) + (Int32.ofInt (-1))))] [.int (2 : Int32), .int (g 33 i), .int (Y i)] (s_M4 36 c X Y wn g) u (fun big n0 => sg_mv_48 big n0 (s_M4 36 c X Y wn g) u t (Int32.ofNat i) ((X i) + (Int32.ofInt (-1))) (Y i) (g 33 i)) ?_
  refine q_ic_ne rfl (fun hc3 => absurd (show (g 33 i) = (2 : Int32) from hc3) (by rw [hw]; decide)) (fun (hc3 : ¬ ((g 33 i) = (2 : Int32))) => ?_)
  refine q_step 3 110 [(0, .ref 28), (1, .ref 35), (2, .int t), (3, .int (Int32.ofNat i)), (4, .int ((X i) + (Int32.ofInt (-1))))] [.int (Int32.ofNat i), .ref 33, .int (Y i)] (s_M4 36 c X Y wn g) u (fun big n0 => sg_mv_49 big n0 (s_M4 36 c X Y wn g) u t (Int32.ofNat i) ((X i) + (Int32.ofInt (-1))) (Y i)) ?_
  refine q_iald (j := i) (q_ixn (by omega) (by omega)) rfl rfl ?_
  refine q_if_ne rfl (fun hc4 => absurd (show (g 33 i) = 0 from hc4) (by rw [hw]; decide)) (fun (hc4 : ¬ ((g 33 i) = 0)) => ?_)
  refine q_step 11 136 [(0, .ref 28), (1, .ref 35), (2, .int t), (3, .int (Int32.ofNat i)), (4, .int ((X i) + (Int32.ofInt (-1)))), (5, .int ((Y i) + (0 : Int32))), (6, .int ((((Y i) + (0 : Int32)) * (g 35 0)) + ((X i) + (Int32.ofInt (-1)))))] [.int ((X i) + (Int32.ofInt (-1)))] (s_M4 36 c X Y wn g) u (fun big n0 => sg_mv_67 big n0 (s_M4 36 c X Y wn g) u t (Int32.ofNat i) ((X i) + (Int32.ofInt (-1))) (Y i)) ?_
  refine q_if_lt rfl (fun (hc5 : ((X i) + (Int32.ofInt (-1))) < 0) => ?_) (fun (hc5 : ¬ (((X i) + (Int32.ofInt (-1))) < 0)) => ?_)
  · refine q_step 5 174 [(0, .ref 28), (1, .ref 35), (2, .int t), (3, .int (Int32.ofNat i)), (4, .int ((X i) + (Int32.ofInt (-1)))), (5, .int ((Y i) + (0 : Int32))), (6, .int ((((Y i) + (0 : Int32)) * (g 35 0)) + ((X i) + (Int32.ofInt (-1))))), (7, .int (0 : Int32))] [.int (Int32.ofNat i), .ref 33] (s_M4 36 c X Y wn g) u (fun big n0 => sg_mv_51 big n0 (s_M4 36 c X Y wn g) u t (Int32.ofNat i) ((X i) + (Int32.ofInt (-1))) ((Y i) + (0 : Int32)) ((((Y i) + (0 : Int32)) * (g 35 0)) + ((X i) + (Int32.ofInt (-1))))) ?_
    refine q_iald (j := i) (q_ixn (by omega) (by omega)) rfl rfl ?_
    refine q_step 1 176 [(0, .ref 28), (1, .ref 35), (2, .int t), (3, .int (Int32.ofNat i)), (4, .int ((X i) + (Int32.ofInt (-1)))), (5, .int ((Y i) + (0 : Int32))), (6, .int ((((Y i) + (0 : Int32)) * (g 35 0)) + ((X i) + (Int32.ofInt (-1))))), (7, .int (0 : Int32))] [.int (4 : Int32), .int (g 33 i)] (s_M4 36 c X Y wn g) u (fun big n0 => sg_mv_52 big n0 (s_M4 36 c X Y wn g) u t (Int32.ofNat i) ((X i) + (Int32.ofInt (-1))) ((Y i) + (0 : Int32)) ((((Y i) + (0 : Int32)) * (g 35 0)) + ((X i) + (Int32.ofInt (-1)))) (g 33 i)) ?_
    refine q_ic_eq rfl (fun hc6 => absurd (show (g 33 i) = (4 : Int32) from hc6) (by rw [hw]; decide)) (fun (hc6 : ¬ ((g 33 i) = (4 : Int32))) => ?_)
    refine q_step 4 39 [(0, .ref 28), (1, .ref 35), (2, .int t), (3, .int ((Int32.ofNat i) + (1 : Int32))), (4, .int ((X i) + (Int32.ofInt (-1)))), (5, .int ((Y i) + (0 : Int32))), (6, .int ((((Y i) + (0 : Int32)) * (g 35 0)) + ((X i) + (Int32.ofInt (-1))))), (7, .int (0 : Int32))] [] (s_M4 36 c X Y wn g) u (fun big n0 => sg_mv_53 big n0 (s_M4 36 c X Y wn g) u t (Int32.ofNat i) ((X i) + (Int32.ofInt (-1))) ((Y i) + (0 : Int32)) ((((Y i) + (0 : Int32)) * (g 35 0)) + ((X i) + (Int32.ofInt (-1))))) ?_
    refine q_weak [(0, .ref 28), (1, .ref 35), (2, .int t), (3, .int ((Int32.ofNat i) + (1 : Int32)))] (q_sub.cons rfl (q_sub.cons rfl (q_sub.cons rfl (q_sub.cons rfl q_sub.nil)))) ?_
    rw [q_succ]
    exact hno (fun z => by unfold s_gc at z; rw [e1, e2, hw] at z; exact z.2.1.1 hc5)
  · refine q_step 3 145 [(0, .ref 28), (1, .ref 35), (2, .int t), (3, .int (Int32.ofNat i)), (4, .int ((X i) + (Int32.ofInt (-1)))), (5, .int ((Y i) + (0 : Int32))), (6, .int ((((Y i) + (0 : Int32)) * (g 35 0)) + ((X i) + (Int32.ofInt (-1)))))] [.int (g 35 0), .int ((X i) + (Int32.ofInt (-1)))] (s_M4 36 c X Y wn g) u (fun big n0 => sg_mv_54 big n0 (s_M4 36 c X Y wn g) u t (Int32.ofNat i) ((X i) + (Int32.ofInt (-1))) ((Y i) + (0 : Int32)) ((((Y i) + (0 : Int32)) * (g 35 0)) + ((X i) + (Int32.ofInt (-1))))) ?_
    refine q_ic_ge rfl (fun (hc6 : (g 35 0) ≤ ((X i) + (Int32.ofInt (-1)))) => ?_) (fun (hc6 : ¬ ((g 35 0) ≤ ((X i) + (Int32.ofInt (-1))))) => ?_)
    · refine q_step 5 174 [(0, .ref 28), (1, .ref 35), (2, .int t), (3, .int (Int32.ofNat i)), (4, .int ((X i) + (Int32.ofInt (-1)))), (5, .int ((Y i) + (0 : Int32))), (6, .int ((((Y i) + (0 : Int32)) * (g 35 0)) + ((X i) + (Int32.ofInt (-1))))), (7, .int (0 : Int32))] [.int (Int32.ofNat i), .ref 33] (s_M4 36 c X Y wn g) u (fun big n0 => sg_mv_51 big n0 (s_M4 36 c X Y wn g) u t (Int32.ofNat i) ((X i) + (Int32.ofInt (-1))) ((Y i) + (0 : Int32)) ((((Y i) + (0 : Int32)) * (g 35 0)) + ((X i) + (Int32.ofInt (-1))))) ?_
      refine q_iald (j := i) (q_ixn (by omega) (by omega)) rfl rfl ?_
      refine q_step 1 176 [(0, .ref 28), (1, .ref 35), (2, .int t), (3, .int (Int32.ofNat i)), (4, .int ((X i) + (Int32.ofInt (-1)))), (5, .int ((Y i) + (0 : Int32))), (6, .int ((((Y i) + (0 : Int32)) * (g 35 0)) + ((X i) + (Int32.ofInt (-1))))), (7, .int (0 : Int32))] [.int (4 : Int32), .int (g 33 i)] (s_M4 36 c X Y wn g) u (fun big n0 => sg_mv_52 big n0 (s_M4 36 c X Y wn g) u t (Int32.ofNat i) ((X i) + (Int32.ofInt (-1))) ((Y i) + (0 : Int32)) ((((Y i) + (0 : Int32)) * (g 35 0)) + ((X i) + (Int32.ofInt (-1)))) (g 33 i)) ?_
      refine q_ic_eq rfl (fun hc7 => absurd (show (g 33 i) = (4 : Int32) from hc7) (by rw [hw]; decide)) (fun (hc7 : ¬ ((g 33 i) = (4 : Int32))) => ?_)
      refine q_step 4 39 [(0, .ref 28), (1, .ref 35), (2, .int t), (3, .int ((Int32.ofNat i) + (1 : Int32))), (4, .int ((X i) + (Int32.ofInt (-1)))), (5, .int ((Y i) + (0 : Int32))), (6, .int ((((Y i) + (0 : Int32)) * (g 35 0)) + ((X i) + (Int32.ofInt (-1))))), (7, .int (0 : Int32))] [] (s_M4 36 c X Y wn g) u (fun big n0 => sg_mv_53 big n0 (s_M4 36 c X Y wn g) u t (Int32.ofNat i) ((X i) + (Int32.ofInt (-1))) ((Y i) + (0 : Int32)) ((((Y i) + (0 : Int32)) * (g 35 0)) + ((X i) + (Int32.ofInt (-1))))) ?_
      refine q_weak [(0, .ref 28), (1, .ref 35), (2, .int t), (3, .int ((Int32.ofNat i) + (1 : Int32)))] (q_sub.cons rfl (q_sub.cons rfl (q_sub.cons rfl (q_sub.cons rfl q_sub.nil)))) ?_
      rw [q_succ]
      exact hno (fun z => by unfold s_gc at z; rw [e1, e2, hw] at z; exact z.2.1.2.1 hc6)
    · refine q_step 1 150 [(0, .ref 28), (1, .ref 35), (2, .int t), (3, .int (Int32.ofNat i)), (4, .int ((X i) + (Int32.ofInt (-1)))), (5, .int ((Y i) + (0 : Int32))), (6, .int ((((Y i) + (0 : Int32)) * (g 35 0)) + ((X i) + (Int32.ofInt (-1)))))] [.int ((Y i) + (0 : Int32))] (s_M4 36 c X Y wn g) u (fun big n0 => sg_mv_55 big n0 (s_M4 36 c X Y wn g) u t (Int32.ofNat i) ((X i) + (Int32.ofInt (-1))) ((Y i) + (0 : Int32)) ((((Y i) + (0 : Int32)) * (g 35 0)) + ((X i) + (Int32.ofInt (-1))))) ?_
      refine q_if_lt rfl (fun (hc7 : ((Y i) + (0 : Int32)) < 0) => ?_) (fun (hc7 : ¬ (((Y i) + (0 : Int32)) < 0)) => ?_)
      · refine q_step 5 174 [(0, .ref 28), (1, .ref 35), (2, .int t), (3, .int (Int32.ofNat i)), (4, .int ((X i) + (Int32.ofInt (-1)))), (5, .int ((Y i) + (0 : Int32))), (6, .int ((((Y i) + (0 : Int32)) * (g 35 0)) + ((X i) + (Int32.ofInt (-1))))), (7, .int (0 : Int32))] [.int (Int32.ofNat i), .ref 33] (s_M4 36 c X Y wn g) u (fun big n0 => sg_mv_51 big n0 (s_M4 36 c X Y wn g) u t (Int32.ofNat i) ((X i) + (Int32.ofInt (-1))) ((Y i) + (0 : Int32)) ((((Y i) + (0 : Int32)) * (g 35 0)) + ((X i) + (Int32.ofInt (-1))))) ?_
        refine q_iald (j := i) (q_ixn (by omega) (by omega)) rfl rfl ?_
        refine q_step 1 176 [(0, .ref 28), (1, .ref 35), (2, .int t), (3, .int (Int32.ofNat i)), (4, .int ((X i) + (Int32.ofInt (-1)))), (5, .int ((Y i) + (0 : Int32))), (6, .int ((((Y i) + (0 : Int32)) * (g 35 0)) + ((X i) + (Int32.ofInt (-1))))), (7, .int (0 : Int32))] [.int (4 : Int32), .int (g 33 i)] (s_M4 36 c X Y wn g) u (fun big n0 => sg_mv_52 big n0 (s_M4 36 c X Y wn g) u t (Int32.ofNat i) ((X i) + (Int32.ofInt (-1))) ((Y i) + (0 : Int32)) ((((Y i) + (0 : Int32)) * (g 35 0)) + ((X i) + (Int32.ofInt (-1)))) (g 33 i)) ?_
        refine q_ic_eq rfl (fun hc8 => absurd (show (g 33 i) = (4 : Int32) from hc8) (by rw [hw]; decide)) (fun (hc8 : ¬ ((g 33 i) = (4 : Int32))) => ?_)
        refine q_step 4 39 [(0, .ref 28), (1, .ref 35), (2, .int t), (3, .int ((Int32.ofNat i) + (1 : Int32))), (4, .int ((X i) + (Int32.ofInt (-1)))), (5, .int ((Y i) + (0 : Int32))), (6, .int ((((Y i) + (0 : Int32)) * (g 35 0)) + ((X i) + (Int32.ofInt (-1))))), (7, .int (0 : Int32))] [] (s_M4 36 c X Y wn g) u (fun big n0 => sg_mv_53 big n0 (s_M4 36 c X Y wn g) u t (Int32.ofNat i) ((X i) + (Int32.ofInt (-1))) ((Y i) + (0 : Int32)) ((((Y i) + (0 : Int32)) * (g 35 0)) + ((X i) + (Int32.ofInt (-1))))) ?_
        refine q_weak [(0, .ref 28), (1, .ref 35), (2, .int t), (3, .int ((Int32.ofNat i) + (1 : Int32)))] (q_sub.cons rfl (q_sub.cons rfl (q_sub.cons rfl (q_sub.cons rfl q_sub.nil)))) ?_
        rw [q_succ]
        exact hno (fun z => by unfold s_gc at z; rw [e1, e2, hw] at z; exact z.2.1.2.2.1 hc7)
      · refine q_step 3 159 [(0, .ref 28), (1, .ref 35), (2, .int t), (3, .int (Int32.ofNat i)), (4, .int ((X i) + (Int32.ofInt (-1)))), (5, .int ((Y i) + (0 : Int32))), (6, .int ((((Y i) + (0 : Int32)) * (g 35 0)) + ((X i) + (Int32.ofInt (-1)))))] [.int (g 35 1), .int ((Y i) + (0 : Int32))] (s_M4 36 c X Y wn g) u (fun big n0 => sg_mv_56 big n0 (s_M4 36 c X Y wn g) u t (Int32.ofNat i) ((X i) + (Int32.ofInt (-1))) ((Y i) + (0 : Int32)) ((((Y i) + (0 : Int32)) * (g 35 0)) + ((X i) + (Int32.ofInt (-1))))) ?_
        refine q_ic_ge rfl (fun (hc8 : (g 35 1) ≤ ((Y i) + (0 : Int32))) => ?_) (fun (hc8 : ¬ ((g 35 1) ≤ ((Y i) + (0 : Int32)))) => ?_)
        · refine q_step 5 174 [(0, .ref 28), (1, .ref 35), (2, .int t), (3, .int (Int32.ofNat i)), (4, .int ((X i) + (Int32.ofInt (-1)))), (5, .int ((Y i) + (0 : Int32))), (6, .int ((((Y i) + (0 : Int32)) * (g 35 0)) + ((X i) + (Int32.ofInt (-1))))), (7, .int (0 : Int32))] [.int (Int32.ofNat i), .ref 33] (s_M4 36 c X Y wn g) u (fun big n0 => sg_mv_51 big n0 (s_M4 36 c X Y wn g) u t (Int32.ofNat i) ((X i) + (Int32.ofInt (-1))) ((Y i) + (0 : Int32)) ((((Y i) + (0 : Int32)) * (g 35 0)) + ((X i) + (Int32.ofInt (-1))))) ?_
          refine q_iald (j := i) (q_ixn (by omega) (by omega)) rfl rfl ?_
          refine q_step 1 176 [(0, .ref 28), (1, .ref 35), (2, .int t), (3, .int (Int32.ofNat i)), (4, .int ((X i) + (Int32.ofInt (-1)))), (5, .int ((Y i) + (0 : Int32))), (6, .int ((((Y i) + (0 : Int32)) * (g 35 0)) + ((X i) + (Int32.ofInt (-1))))), (7, .int (0 : Int32))] [.int (4 : Int32), .int (g 33 i)] (s_M4 36 c X Y wn g) u (fun big n0 => sg_mv_52 big n0 (s_M4 36 c X Y wn g) u t (Int32.ofNat i) ((X i) + (Int32.ofInt (-1))) ((Y i) + (0 : Int32)) ((((Y i) + (0 : Int32)) * (g 35 0)) + ((X i) + (Int32.ofInt (-1)))) (g 33 i)) ?_
          refine q_ic_eq rfl (fun hc9 => absurd (show (g 33 i) = (4 : Int32) from hc9) (by rw [hw]; decide)) (fun (hc9 : ¬ ((g 33 i) = (4 : Int32))) => ?_)
          refine q_step 4 39 [(0, .ref 28), (1, .ref 35), (2, .int t), (3, .int ((Int32.ofNat i) + (1 : Int32))), (4, .int ((X i) + (Int32.ofInt (-1)))), (5, .int ((Y i) + (0 : Int32))), (6, .int ((((Y i) + (0 : Int32)) * (g 35 0)) + ((X i) + (Int32.ofInt (-1))))), (7, .int (0 : Int32))] [] (s_M4 36 c X Y wn g) u (fun big n0 => sg_mv_53 big n0 (s_M4 36 c X Y wn g) u t (Int32.ofNat i) ((X i) + (Int32.ofInt (-1))) ((Y i) + (0 : Int32)) ((((Y i) + (0 : Int32)) * (g 35 0)) + ((X i) + (Int32.ofInt (-1))))) ?_
          refine q_weak [(0, .ref 28), (1, .ref 35), (2, .int t), (3, .int ((Int32.ofNat i) + (1 : Int32)))] (q_sub.cons rfl (q_sub.cons rfl (q_sub.cons rfl (q_sub.cons rfl q_sub.nil)))) ?_
          rw [q_succ]
          exact hno (fun z => by unfold s_gc at z; rw [e1, e2, hw] at z; exact z.2.1.2.2.2 hc8)
        · refine q_step 6 174 [(0, .ref 28), (1, .ref 35), (2, .int t), (3, .int (Int32.ofNat i)), (4, .int ((X i) + (Int32.ofInt (-1)))), (5, .int ((Y i) + (0 : Int32))), (6, .int ((((Y i) + (0 : Int32)) * (g 35 0)) + ((X i) + (Int32.ofInt (-1))))), (7, .int (1 : Int32))] [.int (Int32.ofNat i), .ref 33] (s_M4 36 c X Y wn g) u (fun big n0 => sg_mv_57 big n0 (s_M4 36 c X Y wn g) u t (Int32.ofNat i) ((X i) + (Int32.ofInt (-1))) ((Y i) + (0 : Int32)) ((((Y i) + (0 : Int32)) * (g 35 0)) + ((X i) + (Int32.ofInt (-1))))) ?_
          refine q_iald (j := i) (q_ixn (by omega) (by omega)) rfl rfl ?_
          refine q_step 1 176 [(0, .ref 28), (1, .ref 35), (2, .int t), (3, .int (Int32.ofNat i)), (4, .int ((X i) + (Int32.ofInt (-1)))), (5, .int ((Y i) + (0 : Int32))), (6, .int ((((Y i) + (0 : Int32)) * (g 35 0)) + ((X i) + (Int32.ofInt (-1))))), (7, .int (1 : Int32))] [.int (4 : Int32), .int (g 33 i)] (s_M4 36 c X Y wn g) u (fun big n0 => sg_mv_58 big n0 (s_M4 36 c X Y wn g) u t (Int32.ofNat i) ((X i) + (Int32.ofInt (-1))) ((Y i) + (0 : Int32)) ((((Y i) + (0 : Int32)) * (g 35 0)) + ((X i) + (Int32.ofInt (-1)))) (g 33 i)) ?_
          refine q_ic_eq rfl (fun hc9 => absurd (show (g 33 i) = (4 : Int32) from hc9) (by rw [hw]; decide)) (fun (hc9 : ¬ ((g 33 i) = (4 : Int32))) => ?_)
          refine q_step 7 190 [(0, .ref 28), (1, .ref 35), (2, .int t), (3, .int (Int32.ofNat i)), (4, .int ((X i) + (Int32.ofInt (-1)))), (5, .int ((Y i) + (0 : Int32))), (6, .int ((((Y i) + (0 : Int32)) * (g 35 0)) + ((X i) + (Int32.ofInt (-1))))), (7, .int (1 : Int32))] [.int ((t >>> (((((Y i) + (0 : Int32)) * (g 35 0)) + ((X i) + (Int32.ofInt (-1)))) &&& 31)) &&& (1 : Int32))] (s_M4 36 c X Y wn g) u (fun big n0 => sg_mv_59 big n0 (s_M4 36 c X Y wn g) u t (Int32.ofNat i) ((X i) + (Int32.ofInt (-1))) ((Y i) + (0 : Int32)) ((((Y i) + (0 : Int32)) * (g 35 0)) + ((X i) + (Int32.ofInt (-1))))) ?_
          refine q_if_ne rfl (fun (hc10 : ((t >>> (((((Y i) + (0 : Int32)) * (g 35 0)) + ((X i) + (Int32.ofInt (-1)))) &&& 31)) &&& (1 : Int32)) = 0) => ?_) (fun (hc10 : ¬ (((t >>> (((((Y i) + (0 : Int32)) * (g 35 0)) + ((X i) + (Int32.ofInt (-1)))) &&& 31)) &&& (1 : Int32)) = 0)) => ?_)
          · refine q_step 5 200 [(0, .ref 28), (1, .ref 35), (2, .int t), (3, .int (Int32.ofNat i)), (4, .int ((X i) + (Int32.ofInt (-1)))), (5, .int ((Y i) + (0 : Int32))), (6, .int ((((Y i) + (0 : Int32)) * (g 35 0)) + ((X i) + (Int32.ofInt (-1))))), (7, .int (1 : Int32))] [.int (Int32.ofNat i), .ref 36, .int (1 : Int32), .int t] (s_M4 36 c X Y wn g) u (fun big n0 => sg_mv_60 big n0 (s_M4 36 c X Y wn g) u t (Int32.ofNat i) ((X i) + (Int32.ofInt (-1))) ((Y i) + (0 : Int32)) ((((Y i) + (0 : Int32)) * (g 35 0)) + ((X i) + (Int32.ofInt (-1))))) ?_
            refine q_iald (j := i) (q_ixn (by omega) (by omega)) rfl rfl ?_
            refine q_step 13 218 [(0, .ref 28), (1, .ref 35), (2, .int ((t &&& (((1 : Int32) <<< ((c i) &&& 31)) ^^^ (Int32.ofInt (-1)))) ||| ((1 : Int32) <<< (((((Y i) + (0 : Int32)) * (g 35 0)) + ((X i) + (Int32.ofInt (-1)))) &&& 31)))), (3, .int (Int32.ofNat i)), (4, .int ((X i) + (Int32.ofInt (-1)))), (5, .int ((Y i) + (0 : Int32))), (6, .int ((((Y i) + (0 : Int32)) * (g 35 0)) + ((X i) + (Int32.ofInt (-1))))), (7, .int (1 : Int32))] [.int ((((Y i) + (0 : Int32)) * (g 35 0)) + ((X i) + (Int32.ofInt (-1)))), .int (Int32.ofNat i), .ref 36] (s_M4 36 c X Y wn g) u (fun big n0 => sg_mv_61 big n0 (s_M4 36 c X Y wn g) u t (Int32.ofNat i) ((X i) + (Int32.ofInt (-1))) ((Y i) + (0 : Int32)) ((((Y i) + (0 : Int32)) * (g 35 0)) + ((X i) + (Int32.ofInt (-1)))) t (c i)) ?_
            refine q_iast (j := i) (q_ixn (by omega) (by omega)) rfl rfl ?_
            refine q_step 4 226 [(0, .ref 28), (1, .ref 35), (2, .int ((t &&& (((1 : Int32) <<< ((c i) &&& 31)) ^^^ (Int32.ofInt (-1)))) ||| ((1 : Int32) <<< (((((Y i) + (0 : Int32)) * (g 35 0)) + ((X i) + (Int32.ofInt (-1)))) &&& 31)))), (3, .int (Int32.ofNat i)), (4, .int ((X i) + (Int32.ofInt (-1)))), (5, .int ((Y i) + (0 : Int32))), (6, .int ((((Y i) + (0 : Int32)) * (g 35 0)) + ((X i) + (Int32.ofInt (-1))))), (7, .int (1 : Int32))] [.int ((X i) + (Int32.ofInt (-1))), .int (Int32.ofNat i), .ref 29] (q_up (s_M4 36 c X Y wn g) 36 i ((((Y i) + (0 : Int32)) * (g 35 0)) + ((X i) + (Int32.ofInt (-1))))) u (fun big n0 => sg_mv_62 big n0 (q_up (s_M4 36 c X Y wn g) 36 i ((((Y i) + (0 : Int32)) * (g 35 0)) + ((X i) + (Int32.ofInt (-1))))) u ((t &&& (((1 : Int32) <<< ((c i) &&& 31)) ^^^ (Int32.ofInt (-1)))) ||| ((1 : Int32) <<< (((((Y i) + (0 : Int32)) * (g 35 0)) + ((X i) + (Int32.ofInt (-1)))) &&& 31))) (Int32.ofNat i) ((X i) + (Int32.ofInt (-1))) ((Y i) + (0 : Int32)) ((((Y i) + (0 : Int32)) * (g 35 0)) + ((X i) + (Int32.ofInt (-1))))) ?_
            refine q_iast (j := i) (q_ixn (by omega) (by omega)) rfl rfl ?_
            refine q_step 4 234 [(0, .ref 28), (1, .ref 35), (2, .int ((t &&& (((1 : Int32) <<< ((c i) &&& 31)) ^^^ (Int32.ofInt (-1)))) ||| ((1 : Int32) <<< (((((Y i) + (0 : Int32)) * (g 35 0)) + ((X i) + (Int32.ofInt (-1)))) &&& 31)))), (3, .int (Int32.ofNat i)), (4, .int ((X i) + (Int32.ofInt (-1)))), (5, .int ((Y i) + (0 : Int32))), (6, .int ((((Y i) + (0 : Int32)) * (g 35 0)) + ((X i) + (Int32.ofInt (-1))))), (7, .int (1 : Int32))] [.int ((Y i) + (0 : Int32)), .int (Int32.ofNat i), .ref 30] (q_up (q_up (s_M4 36 c X Y wn g) 36 i ((((Y i) + (0 : Int32)) * (g 35 0)) + ((X i) + (Int32.ofInt (-1))))) 29 i ((X i) + (Int32.ofInt (-1)))) u (fun big n0 => sg_mv_63 big n0 (q_up (q_up (s_M4 36 c X Y wn g) 36 i ((((Y i) + (0 : Int32)) * (g 35 0)) + ((X i) + (Int32.ofInt (-1))))) 29 i ((X i) + (Int32.ofInt (-1)))) u ((t &&& (((1 : Int32) <<< ((c i) &&& 31)) ^^^ (Int32.ofInt (-1)))) ||| ((1 : Int32) <<< (((((Y i) + (0 : Int32)) * (g 35 0)) + ((X i) + (Int32.ofInt (-1)))) &&& 31))) (Int32.ofNat i) ((X i) + (Int32.ofInt (-1))) ((Y i) + (0 : Int32)) ((((Y i) + (0 : Int32)) * (g 35 0)) + ((X i) + (Int32.ofInt (-1))))) ?_
            refine q_iast (j := i) (q_ixn (by omega) (by omega)) rfl rfl ?_
            refine q_step 10 39 [(0, .ref 28), (1, .ref 35), (2, .int ((t &&& (((1 : Int32) <<< ((c i) &&& 31)) ^^^ (Int32.ofInt (-1)))) ||| ((1 : Int32) <<< (((((Y i) + (0 : Int32)) * (g 35 0)) + ((X i) + (Int32.ofInt (-1)))) &&& 31)))), (3, .int ((Int32.ofNat i) + (1 : Int32))), (4, .int ((X i) + (Int32.ofInt (-1)))), (5, .int ((Y i) + (0 : Int32))), (6, .int ((((Y i) + (0 : Int32)) * (g 35 0)) + ((X i) + (Int32.ofInt (-1))))), (7, .int (1 : Int32))] [] (q_up (q_up (q_up (q_up (s_M4 36 c X Y wn g) 36 i ((((Y i) + (0 : Int32)) * (g 35 0)) + ((X i) + (Int32.ofInt (-1))))) 29 i ((X i) + (Int32.ofInt (-1)))) 30 i ((Y i) + (0 : Int32))) 28 5 (((s_M4 36 c X Y wn g) 28 5) ||| ((1 : Int32) <<< ((Int32.ofNat i) &&& 31)))) u (fun big n0 => sg_mv_64 big n0 (q_up (q_up (q_up (s_M4 36 c X Y wn g) 36 i ((((Y i) + (0 : Int32)) * (g 35 0)) + ((X i) + (Int32.ofInt (-1))))) 29 i ((X i) + (Int32.ofInt (-1)))) 30 i ((Y i) + (0 : Int32))) u ((t &&& (((1 : Int32) <<< ((c i) &&& 31)) ^^^ (Int32.ofInt (-1)))) ||| ((1 : Int32) <<< (((((Y i) + (0 : Int32)) * (g 35 0)) + ((X i) + (Int32.ofInt (-1)))) &&& 31))) (Int32.ofNat i) ((X i) + (Int32.ofInt (-1))) ((Y i) + (0 : Int32)) ((((Y i) + (0 : Int32)) * (g 35 0)) + ((X i) + (Int32.ofInt (-1))))) ?_
            refine q_weak [(0, .ref 28), (1, .ref 35), (2, .int ((t &&& (((1 : Int32) <<< ((c i) &&& 31)) ^^^ (Int32.ofInt (-1)))) ||| ((1 : Int32) <<< (((((Y i) + (0 : Int32)) * (g 35 0)) + ((X i) + (Int32.ofInt (-1)))) &&& 31)))), (3, .int ((Int32.ofNat i) + (1 : Int32)))] (q_sub.cons rfl (q_sub.cons rfl (q_sub.cons rfl (q_sub.cons rfl q_sub.nil)))) ?_
            rw [s_M4_c, s_M4_x (by decide), s_M4_y (by decide), s_M4_w (by decide), q_succ]
            exact hgo (by unfold s_gc; rw [e1, e2, hw]; exact ⟨by decide, ⟨hc5, hc6, hc7, hc8⟩, hc10⟩)
          · refine q_step 2 39 [(0, .ref 28), (1, .ref 35), (2, .int t), (3, .int ((Int32.ofNat i) + (1 : Int32))), (4, .int ((X i) + (Int32.ofInt (-1)))), (5, .int ((Y i) + (0 : Int32))), (6, .int ((((Y i) + (0 : Int32)) * (g 35 0)) + ((X i) + (Int32.ofInt (-1))))), (7, .int (1 : Int32))] [] (s_M4 36 c X Y wn g) u (fun big n0 => sg_mv_65 big n0 (s_M4 36 c X Y wn g) u t (Int32.ofNat i) ((X i) + (Int32.ofInt (-1))) ((Y i) + (0 : Int32)) ((((Y i) + (0 : Int32)) * (g 35 0)) + ((X i) + (Int32.ofInt (-1))))) ?_
            refine q_weak [(0, .ref 28), (1, .ref 35), (2, .int t), (3, .int ((Int32.ofNat i) + (1 : Int32)))] (q_sub.cons rfl (q_sub.cons rfl (q_sub.cons rfl (q_sub.cons rfl q_sub.nil)))) ?_
            rw [q_succ]
            exact hno (fun z => by unfold s_gc at z; rw [e1, e2, hw] at z; exact hc10 z.2.2)
theorem mb_35_4 (g : qM) (u : qW) {Q : Option Value × qM × qW → Prop} {n i : Nat} (hn : g 35 3 = Int32.ofNat n) (h6 : n ≤ 6) (hi : i < n) (hw : g 33 i = 4) {c X Y : Nat → Int32} {t wn : Int32} (hgo : s_gc (g 35 0) (g 35 1) (g 33 i) (X i) (Y i) t → q_EV m_69 39 [(0, .ref 28), (1, .ref 35), (2, .int ((t &&& (((1 : Int32) <<< (c i &&& 31)) ^^^ Int32.ofInt (-1))) ||| ((1 : Int32) <<< (((Y i + s_cy (g 33 i)) * (g 35 0) + (X i + s_cx (g 33 i))) &&& 31)))), (3, .int (Int32.ofNat (i + 1)))] [] (s_M4 36 (s_set c i ((Y i + s_cy (g 33 i)) * (g 35 0) + (X i + s_cx (g 33 i)))) (s_set X i (X i + s_cx (g 33 i))) (s_set Y i (Y i + s_cy (g 33 i))) (wn ||| ((1 : Int32) <<< (Int32.ofNat i &&& 31))) g) u Q) (hno : ¬ s_gc (g 35 0) (g 35 1) (g 33 i) (X i) (Y i) t → q_EV m_69 39 [(0, .ref 28), (1, .ref 35), (2, .int t), (3, .int (Int32.ofNat (i + 1)))] [] (s_M4 36 c X Y wn g) u Q) : q_EV m_69 39 [(0, .ref 28), (1, .ref 35), (2, .int t), (3, .int (Int32.ofNat i))] [] (s_M4 36 c X Y wn g) u Q := by
  have e1 : s_cx (g 33 i) = (0 : Int32) := by rw [hw]; rfl
  have e2 : s_cy (g 33 i) = (0 : Int32) := by rw [hw]; rfl
  rw [e1, e2] at hgo
  refine q_step 3 44 [(0, .ref 28), (1, .ref 35), (2, .int t), (3, .int (Int32.ofNat i))] [.int (g 35 3), .int (Int32.ofNat i)] (s_M4 36 c X Y wn g) u (fun big n0 => sg_mv_40 big n0 (s_M4 36 c X Y wn g) u t (Int32.ofNat i)) ?_
  refine q_ic_ge rfl (fun hc0 => absurd (show (g 35 3) ≤ (Int32.ofNat i) from hc0) (fun z => by rw [hn, q_le (by omega) (by omega)] at z; omega)) (fun (hc0 : ¬ ((g 35 3) ≤ (Int32.ofNat i))) => ?_)
  refine q_step 3 52 [(0, .ref 28), (1, .ref 35), (2, .int t), (3, .int (Int32.ofNat i))] [.int (Int32.ofNat i), .ref 29] (s_M4 36 c X Y wn g) u (fun big n0 => sg_mv_41 big n0 (s_M4 36 c X Y wn g) u t (Int32.ofNat i)) ?_
  refine q_iald (j := i) (q_ixn (by omega) (by omega)) rfl rfl ?_
  refine q_step 3 58 [(0, .ref 28), (1, .ref 35), (2, .int t), (3, .int (Int32.ofNat i))] [.int (Int32.ofNat i), .ref 33, .int (X i)] (s_M4 36 c X Y wn g) u (fun big n0 => sg_mv_42 big n0 (s_M4 36 c X Y wn g) u t (Int32.ofNat i) (X i)) ?_
  refine q_iald (j := i) (q_ixn (by omega) (by omega)) rfl rfl ?_
  refine q_step 1 60 [(0, .ref 28), (1, .ref 35), (2, .int t), (3, .int (Int32.ofNat i))] [.int (1 : Int32), .int (g 33 i), .int (X i)] (s_M4 36 c X Y wn g) u (fun big n0 => sg_mv_43 big n0 (s_M4 36 c X Y wn g) u t (Int32.ofNat i) (X i) (g 33 i)) ?_
  refine q_ic_ne rfl (fun hc1 => absurd (show (g 33 i) = (1 : Int32) from hc1) (by rw [hw]; decide)) (fun (hc1 : ¬ ((g 33 i) = (1 : Int32))) => ?_)
  refine q_step 3 72 [(0, .ref 28), (1, .ref 35), (2, .int t), (3, .int (Int32.ofNat i))] [.int (Int32.ofNat i), .ref 33, .int (X i)] (s_M4 36 c X Y wn g) u (fun big n0 => sg_mv_44 big n0 (s_M4 36 c X Y wn g) u t (Int32.ofNat i) (X i)) ?_
  refine q_iald (j := i) (q_ixn (by omega) (by omega)) rfl rfl ?_
  refine q_step 1 74 [(0, .ref 28), (1, .ref 35), (2, .int t), (3, .int (Int32.ofNat i))] [.int (3 : Int32), .int (g 33 i), .int (X i)] (s_M4 36 c X Y wn g) u (fun big n0 => sg_mv_45 big n0 (s_M4 36 c X Y wn g) u t (Int32.ofNat i) (X i) (g 33 i)) ?_
  refine q_ic_ne rfl (fun hc2 => absurd (show (g 33 i) = (3 : Int32) from hc2) (by rw [hw]; decide)) (fun (hc2 : ¬ ((g 33 i) = (3 : Int32))) => ?_)
  refine q_step 6 90 [(0, .ref 28), (1, .ref 35), (2, .int t), (3, .int (Int32.ofNat i)), (4, .int ((X i) + (0 : Int32)))] [.int (Int32.ofNat i), .ref 30] (s_M4 36 c X Y wn g) u (fun big n0 => sg_mv_46 big n0 (s_M4 36 c X Y wn g) u t (Int32.ofNat i) (X i)) ?_
  refine q_iald (j := i) (q_ixn (by omega) (by omega)) rfl rfl ?_
  refine q_step 3 96 [(0, .ref 28), (1, .ref 35), (2, .int t), (3, .int (Int32.ofNat i)), (4, .int ((X i) + (0 : Int32)))] [.int (Int32.ofNat i), .ref 33, .int (Y i)] (s_M4 36 c X Y wn g) u (fun big n0 => sg_mv_47 big n0 (s_M4 36 c X Y wn g) u t (Int32.ofNat i) ((X i) + (0 : Int32)) (Y i)) ?_
  refine q_iald (j := i) (q_ixn (by omega) (by omega)) rfl rfl ?_
  refine q_step 1 98 [(0, .ref 28), (1, .ref 35), (2, .int t), (3, .int (Int32.ofNat i)), (4, .int ((X i) + (0 : Int32)))] [.int (2 : Int32), .int (g 33 i), .int (Y i)] (s_M4 36 c X Y wn g) u (fun big n0 => sg_mv_48 big n0 (s_M4 36 c X Y wn g) u t (Int32.ofNat i) ((X i) + (0 : Int32)) (Y i) (g 33 i)) ?_
  refine q_ic_ne rfl (fun hc3 => absurd (show (g 33 i) = (2 : Int32) from hc3) (by rw [hw]; decide)) (fun (hc3 : ¬ ((g 33 i) = (2 : Int32))) => ?_)
  refine q_step 3 110 [(0, .ref 28), (1, .ref 35), (2, .int t), (3, .int (Int32.ofNat i)), (4, .int ((X i) + (0 : Int32)))] [.int (Int32.ofNat i), .ref 33, .int (Y i)] (s_M4 36 c X Y wn g) u (fun big n0 => sg_mv_49 big n0 (s_M4 36 c X Y wn g) u t (Int32.ofNat i) ((X i) + (0 : Int32)) (Y i)) ?_
  refine q_iald (j := i) (q_ixn (by omega) (by omega)) rfl rfl ?_
  refine q_if_ne rfl (fun hc4 => absurd (show (g 33 i) = 0 from hc4) (by rw [hw]; decide)) (fun (hc4 : ¬ ((g 33 i) = 0)) => ?_)
  refine q_step 11 136 [(0, .ref 28), (1, .ref 35), (2, .int t), (3, .int (Int32.ofNat i)), (4, .int ((X i) + (0 : Int32))), (5, .int ((Y i) + (0 : Int32))), (6, .int ((((Y i) + (0 : Int32)) * (g 35 0)) + ((X i) + (0 : Int32))))] [.int ((X i) + (0 : Int32))] (s_M4 36 c X Y wn g) u (fun big n0 => sg_mv_67 big n0 (s_M4 36 c X Y wn g) u t (Int32.ofNat i) ((X i) + (0 : Int32)) (Y i)) ?_
  refine q_if_lt rfl (fun (hc5 : ((X i) + (0 : Int32)) < 0) => ?_) (fun (hc5 : ¬ (((X i) + (0 : Int32)) < 0)) => ?_)
  · refine q_step 5 174 [(0, .ref 28), (1, .ref 35), (2, .int t), (3, .int (Int32.ofNat i)), (4, .int ((X i) + (0 : Int32))), (5, .int ((Y i) + (0 : Int32))), (6, .int ((((Y i) + (0 : Int32)) * (g 35 0)) + ((X i) + (0 : Int32)))), (7, .int (0 : Int32))] [.int (Int32.ofNat i), .ref 33] (s_M4 36 c X Y wn g) u (fun big n0 => sg_mv_51 big n0 (s_M4 36 c X Y wn g) u t (Int32.ofNat i) ((X i) + (0 : Int32)) ((Y i) + (0 : Int32)) ((((Y i) + (0 : Int32)) * (g 35 0)) + ((X i) + (0 : Int32)))) ?_
    refine q_iald (j := i) (q_ixn (by omega) (by omega)) rfl rfl ?_
    refine q_step 1 176 [(0, .ref 28), (1, .ref 35), (2, .int t), (3, .int (Int32.ofNat i)), (4, .int ((X i) + (0 : Int32))), (5, .int ((Y i) + (0 : Int32))), (6, .int ((((Y i) + (0 : Int32)) * (g 35 0)) + ((X i) + (0 : Int32)))), (7, .int (0 : Int32))] [.int (4 : Int32), .int (g 33 i)] (s_M4 36 c X Y wn g) u (fun big n0 => sg_mv_52 big n0 (s_M4 36 c X Y wn g) u t (Int32.ofNat i) ((X i) + (0 : Int32)) ((Y i) + (0 : Int32)) ((((Y i) + (0 : Int32)) * (g 35 0)) + ((X i) + (0 : Int32))) (g 33 i)) ?_
    refine q_ic_eq rfl (fun (hc6 : (g 33 i) = (4 : Int32)) => ?_) (fun hc6 => absurd (show (g 33 i) = (4 : Int32) from hw) hc6)
    refine q_step 2 39 [(0, .ref 28), (1, .ref 35), (2, .int t), (3, .int ((Int32.ofNat i) + (1 : Int32))), (4, .int ((X i) + (0 : Int32))), (5, .int ((Y i) + (0 : Int32))), (6, .int ((((Y i) + (0 : Int32)) * (g 35 0)) + ((X i) + (0 : Int32)))), (7, .int (0 : Int32))] [] (s_M4 36 c X Y wn g) u (fun big n0 => sg_mv_70 big n0 (s_M4 36 c X Y wn g) u t (Int32.ofNat i) ((X i) + (0 : Int32)) ((Y i) + (0 : Int32)) ((((Y i) + (0 : Int32)) * (g 35 0)) + ((X i) + (0 : Int32)))) ?_
    refine q_weak [(0, .ref 28), (1, .ref 35), (2, .int t), (3, .int ((Int32.ofNat i) + (1 : Int32)))] (q_sub.cons rfl (q_sub.cons rfl (q_sub.cons rfl (q_sub.cons rfl q_sub.nil)))) ?_
    rw [q_succ]
    exact hno (fun z => z.1 hw)
  · refine q_step 3 145 [(0, .ref 28), (1, .ref 35), (2, .int t), (3, .int (Int32.ofNat i)), (4, .int ((X i) + (0 : Int32))), (5, .int ((Y i) + (0 : Int32))), (6, .int ((((Y i) + (0 : Int32)) * (g 35 0)) + ((X i) + (0 : Int32))))] [.int (g 35 0), .int ((X i) + (0 : Int32))] (s_M4 36 c X Y wn g) u (fun big n0 => sg_mv_54 big n0 (s_M4 36 c X Y wn g) u t (Int32.ofNat i) ((X i) + (0 : Int32)) ((Y i) + (0 : Int32)) ((((Y i) + (0 : Int32)) * (g 35 0)) + ((X i) + (0 : Int32)))) ?_
    refine q_ic_ge rfl (fun (hc6 : (g 35 0) ≤ ((X i) + (0 : Int32))) => ?_) (fun (hc6 : ¬ ((g 35 0) ≤ ((X i) + (0 : Int32)))) => ?_)
    · refine q_step 5 174 [(0, .ref 28), (1, .ref 35), (2, .int t), (3, .int (Int32.ofNat i)), (4, .int ((X i) + (0 : Int32))), (5, .int ((Y i) + (0 : Int32))), (6, .int ((((Y i) + (0 : Int32)) * (g 35 0)) + ((X i) + (0 : Int32)))), (7, .int (0 : Int32))] [.int (Int32.ofNat i), .ref 33] (s_M4 36 c X Y wn g) u (fun big n0 => sg_mv_51 big n0 (s_M4 36 c X Y wn g) u t (Int32.ofNat i) ((X i) + (0 : Int32)) ((Y i) + (0 : Int32)) ((((Y i) + (0 : Int32)) * (g 35 0)) + ((X i) + (0 : Int32)))) ?_
      refine q_iald (j := i) (q_ixn (by omega) (by omega)) rfl rfl ?_
      refine q_step 1 176 [(0, .ref 28), (1, .ref 35), (2, .int t), (3, .int (Int32.ofNat i)), (4, .int ((X i) + (0 : Int32))), (5, .int ((Y i) + (0 : Int32))), (6, .int ((((Y i) + (0 : Int32)) * (g 35 0)) + ((X i) + (0 : Int32)))), (7, .int (0 : Int32))] [.int (4 : Int32), .int (g 33 i)] (s_M4 36 c X Y wn g) u (fun big n0 => sg_mv_52 big n0 (s_M4 36 c X Y wn g) u t (Int32.ofNat i) ((X i) + (0 : Int32)) ((Y i) + (0 : Int32)) ((((Y i) + (0 : Int32)) * (g 35 0)) + ((X i) + (0 : Int32))) (g 33 i)) ?_
      refine q_ic_eq rfl (fun (hc7 : (g 33 i) = (4 : Int32)) => ?_) (fun hc7 => absurd (show (g 33 i) = (4 : Int32) from hw) hc7)
      refine q_step 2 39 [(0, .ref 28), (1, .ref 35), (2, .int t), (3, .int ((Int32.ofNat i) + (1 : Int32))), (4, .int ((X i) + (0 : Int32))), (5, .int ((Y i) + (0 : Int32))), (6, .int ((((Y i) + (0 : Int32)) * (g 35 0)) + ((X i) + (0 : Int32)))), (7, .int (0 : Int32))] [] (s_M4 36 c X Y wn g) u (fun big n0 => sg_mv_70 big n0 (s_M4 36 c X Y wn g) u t (Int32.ofNat i) ((X i) + (0 : Int32)) ((Y i) + (0 : Int32)) ((((Y i) + (0 : Int32)) * (g 35 0)) + ((X i) + (0 : Int32)))) ?_
      refine q_weak [(0, .ref 28), (1, .ref 35), (2, .int t), (3, .int ((Int32.ofNat i) + (1 : Int32)))] (q_sub.cons rfl (q_sub.cons rfl (q_sub.cons rfl (q_sub.cons rfl q_sub.nil)))) ?_
      rw [q_succ]
      exact hno (fun z => z.1 hw)
    · refine q_step 1 150 [(0, .ref 28), (1, .ref 35), (2, .int t), (3, .int (Int32.ofNat i)), (4, .int ((X i) + (0 : Int32))), (5, .int ((Y i) + (0 : Int32))), (6, .int ((((Y i) + (0 : Int32)) * (g 35 0)) + ((X i) + (0 : Int32))))] [.int ((Y i) + (0 : Int32))] (s_M4 36 c X Y wn g) u (fun big n0 => sg_mv_55 big n0 (s_M4 36 c X Y wn g) u t (Int32.ofNat i) ((X i) + (0 : Int32)) ((Y i) + (0 : Int32)) ((((Y i) + (0 : Int32)) * (g 35 0)) + ((X i) + (0 : Int32)))) ?_
      refine q_if_lt rfl (fun (hc7 : ((Y i) + (0 : Int32)) < 0) => ?_) (fun (hc7 : ¬ (((Y i) + (0 : Int32)) < 0)) => ?_)
      · refine q_step 5 174 [(0, .ref 28), (1, .ref 35), (2, .int t), (3, .int (Int32.ofNat i)), (4, .int ((X i) + (0 : Int32))), (5, .int ((Y i) + (0 : Int32))), (6, .int ((((Y i) + (0 : Int32)) * (g 35 0)) + ((X i) + (0 : Int32)))), (7, .int (0 : Int32))] [.int (Int32.ofNat i), .ref 33] (s_M4 36 c X Y wn g) u (fun big n0 => sg_mv_51 big n0 (s_M4 36 c X Y wn g) u t (Int32.ofNat i) ((X i) + (0 : Int32)) ((Y i) + (0 : Int32)) ((((Y i) + (0 : Int32)) * (g 35 0)) + ((X i) + (0 : Int32)))) ?_
        refine q_iald (j := i) (q_ixn (by omega) (by omega)) rfl rfl ?_
        refine q_step 1 176 [(0, .ref 28), (1, .ref 35), (2, .int t), (3, .int (Int32.ofNat i)), (4, .int ((X i) + (0 : Int32))), (5, .int ((Y i) + (0 : Int32))), (6, .int ((((Y i) + (0 : Int32)) * (g 35 0)) + ((X i) + (0 : Int32)))), (7, .int (0 : Int32))] [.int (4 : Int32), .int (g 33 i)] (s_M4 36 c X Y wn g) u (fun big n0 => sg_mv_52 big n0 (s_M4 36 c X Y wn g) u t (Int32.ofNat i) ((X i) + (0 : Int32)) ((Y i) + (0 : Int32)) ((((Y i) + (0 : Int32)) * (g 35 0)) + ((X i) + (0 : Int32))) (g 33 i)) ?_
        refine q_ic_eq rfl (fun (hc8 : (g 33 i) = (4 : Int32)) => ?_) (fun hc8 => absurd (show (g 33 i) = (4 : Int32) from hw) hc8)
        refine q_step 2 39 [(0, .ref 28), (1, .ref 35), (2, .int t), (3, .int ((Int32.ofNat i) + (1 : Int32))), (4, .int ((X i) + (0 : Int32))), (5, .int ((Y i) + (0 : Int32))), (6, .int ((((Y i) + (0 : Int32)) * (g 35 0)) + ((X i) + (0 : Int32)))), (7, .int (0 : Int32))] [] (s_M4 36 c X Y wn g) u (fun big n0 => sg_mv_70 big n0 (s_M4 36 c X Y wn g) u t (Int32.ofNat i) ((X i) + (0 : Int32)) ((Y i) + (0 : Int32)) ((((Y i) + (0 : Int32)) * (g 35 0)) + ((X i) + (0 : Int32)))) ?_
        refine q_weak [(0, .ref 28), (1, .ref 35), (2, .int t), (3, .int ((Int32.ofNat i) + (1 : Int32)))] (q_sub.cons rfl (q_sub.cons rfl (q_sub.cons rfl (q_sub.cons rfl q_sub.nil)))) ?_
        rw [q_succ]
        exact hno (fun z => z.1 hw)
      · refine q_step 3 159 [(0, .ref 28), (1, .ref 35), (2, .int t), (3, .int (Int32.ofNat i)), (4, .int ((X i) + (0 : Int32))), (5, .int ((Y i) + (0 : Int32))), (6, .int ((((Y i) + (0 : Int32)) * (g 35 0)) + ((X i) + (0 : Int32))))] [.int (g 35 1), .int ((Y i) + (0 : Int32))] (s_M4 36 c X Y wn g) u (fun big n0 => sg_mv_56 big n0 (s_M4 36 c X Y wn g) u t (Int32.ofNat i) ((X i) + (0 : Int32)) ((Y i) + (0 : Int32)) ((((Y i) + (0 : Int32)) * (g 35 0)) + ((X i) + (0 : Int32)))) ?_
        refine q_ic_ge rfl (fun (hc8 : (g 35 1) ≤ ((Y i) + (0 : Int32))) => ?_) (fun (hc8 : ¬ ((g 35 1) ≤ ((Y i) + (0 : Int32)))) => ?_)
        · refine q_step 5 174 [(0, .ref 28), (1, .ref 35), (2, .int t), (3, .int (Int32.ofNat i)), (4, .int ((X i) + (0 : Int32))), (5, .int ((Y i) + (0 : Int32))), (6, .int ((((Y i) + (0 : Int32)) * (g 35 0)) + ((X i) + (0 : Int32)))), (7, .int (0 : Int32))] [.int (Int32.ofNat i), .ref 33] (s_M4 36 c X Y wn g) u (fun big n0 => sg_mv_51 big n0 (s_M4 36 c X Y wn g) u t (Int32.ofNat i) ((X i) + (0 : Int32)) ((Y i) + (0 : Int32)) ((((Y i) + (0 : Int32)) * (g 35 0)) + ((X i) + (0 : Int32)))) ?_
          refine q_iald (j := i) (q_ixn (by omega) (by omega)) rfl rfl ?_
          refine q_step 1 176 [(0, .ref 28), (1, .ref 35), (2, .int t), (3, .int (Int32.ofNat i)), (4, .int ((X i) + (0 : Int32))), (5, .int ((Y i) + (0 : Int32))), (6, .int ((((Y i) + (0 : Int32)) * (g 35 0)) + ((X i) + (0 : Int32)))), (7, .int (0 : Int32))] [.int (4 : Int32), .int (g 33 i)] (s_M4 36 c X Y wn g) u (fun big n0 => sg_mv_52 big n0 (s_M4 36 c X Y wn g) u t (Int32.ofNat i) ((X i) + (0 : Int32)) ((Y i) + (0 : Int32)) ((((Y i) + (0 : Int32)) * (g 35 0)) + ((X i) + (0 : Int32))) (g 33 i)) ?_
          refine q_ic_eq rfl (fun (hc9 : (g 33 i) = (4 : Int32)) => ?_) (fun hc9 => absurd (show (g 33 i) = (4 : Int32) from hw) hc9)
          refine q_step 2 39 [(0, .ref 28), (1, .ref 35), (2, .int t), (3, .int ((Int32.ofNat i) + (1 : Int32))), (4, .int ((X i) + (0 : Int32))), (5, .int ((Y i) + (0 : Int32))), (6, .int ((((Y i) + (0 : Int32)) * (g 35 0)) + ((X i) + (0 : Int32)))), (7, .int (0 : Int32))] [] (s_M4 36 c X Y wn g) u (fun big n0 => sg_mv_70 big n0 (s_M4 36 c X Y wn g) u t (Int32.ofNat i) ((X i) + (0 : Int32)) ((Y i) + (0 : Int32)) ((((Y i) + (0 : Int32)) * (g 35 0)) + ((X i) + (0 : Int32)))) ?_
          refine q_weak [(0, .ref 28), (1, .ref 35), (2, .int t), (3, .int ((Int32.ofNat i) + (1 : Int32)))] (q_sub.cons rfl (q_sub.cons rfl (q_sub.cons rfl (q_sub.cons rfl q_sub.nil)))) ?_
          rw [q_succ]
          exact hno (fun z => z.1 hw)
        · refine q_step 6 174 [(0, .ref 28), (1, .ref 35), (2, .int t), (3, .int (Int32.ofNat i)), (4, .int ((X i) + (0 : Int32))), (5, .int ((Y i) + (0 : Int32))), (6, .int ((((Y i) + (0 : Int32)) * (g 35 0)) + ((X i) + (0 : Int32)))), (7, .int (1 : Int32))] [.int (Int32.ofNat i), .ref 33] (s_M4 36 c X Y wn g) u (fun big n0 => sg_mv_57 big n0 (s_M4 36 c X Y wn g) u t (Int32.ofNat i) ((X i) + (0 : Int32)) ((Y i) + (0 : Int32)) ((((Y i) + (0 : Int32)) * (g 35 0)) + ((X i) + (0 : Int32)))) ?_
          refine q_iald (j := i) (q_ixn (by omega) (by omega)) rfl rfl ?_
          refine q_step 1 176 [(0, .ref 28), (1, .ref 35), (2, .int t), (3, .int (Int32.ofNat i)), (4, .int ((X i) + (0 : Int32))), (5, .int ((Y i) + (0 : Int32))), (6, .int ((((Y i) + (0 : Int32)) * (g 35 0)) + ((X i) + (0 : Int32)))), (7, .int (1 : Int32))] [.int (4 : Int32), .int (g 33 i)] (s_M4 36 c X Y wn g) u (fun big n0 => sg_mv_58 big n0 (s_M4 36 c X Y wn g) u t (Int32.ofNat i) ((X i) + (0 : Int32)) ((Y i) + (0 : Int32)) ((((Y i) + (0 : Int32)) * (g 35 0)) + ((X i) + (0 : Int32))) (g 33 i)) ?_
          refine q_ic_eq rfl (fun (hc9 : (g 33 i) = (4 : Int32)) => ?_) (fun hc9 => absurd (show (g 33 i) = (4 : Int32) from hw) hc9)
          refine q_step 2 39 [(0, .ref 28), (1, .ref 35), (2, .int t), (3, .int ((Int32.ofNat i) + (1 : Int32))), (4, .int ((X i) + (0 : Int32))), (5, .int ((Y i) + (0 : Int32))), (6, .int ((((Y i) + (0 : Int32)) * (g 35 0)) + ((X i) + (0 : Int32)))), (7, .int (1 : Int32))] [] (s_M4 36 c X Y wn g) u (fun big n0 => sg_mv_65 big n0 (s_M4 36 c X Y wn g) u t (Int32.ofNat i) ((X i) + (0 : Int32)) ((Y i) + (0 : Int32)) ((((Y i) + (0 : Int32)) * (g 35 0)) + ((X i) + (0 : Int32)))) ?_
          refine q_weak [(0, .ref 28), (1, .ref 35), (2, .int t), (3, .int ((Int32.ofNat i) + (1 : Int32)))] (q_sub.cons rfl (q_sub.cons rfl (q_sub.cons rfl (q_sub.cons rfl q_sub.nil)))) ?_
          rw [q_succ]
          exact hno (fun z => z.1 hw)
theorem mm_35 (g : qM) (u : qW) {n : Nat} (hn : g 35 3 = Int32.ofNat n) (h6 : n ≤ 6) (hy : ∀ p, p < n → g 33 p = 0 ∨ g 33 p = 1 ∨ g 33 p = 2 ∨ g 33 p = 3 ∨ g 33 p = 4) : ∀ k i c X Y t wn, i + k = n → q_EV m_69 39 [(0, .ref 28), (1, .ref 35), (2, .int t), (3, .int (Int32.ofNat i))] [] (s_M4 36 c X Y wn g) u (fun R => R = (none, s_M4 36 (s_mv (g 35 0) (g 35 1) (g 33) k i c X Y t wn).1 (s_mv (g 35 0) (g 35 1) (g 33) k i c X Y t wn).2.1 (s_mv (g 35 0) (g 35 1) (g 33) k i c X Y t wn).2.2.1 (s_mv (g 35 0) (g 35 1) (g 33) k i c X Y t wn).2.2.2.2 g, u)) := by
  intro k
  induction k with
  | zero =>
    intro i c X Y t wn hi
    refine q_step 3 44 [(0, .ref 28), (1, .ref 35), (2, .int t), (3, .int (Int32.ofNat i))] [.int (g 35 3), .int (Int32.ofNat i)] (s_M4 36 c X Y wn g) u (fun big n0 => sg_mv_40 big n0 (s_M4 36 c X Y wn g) u t (Int32.ofNat i)) ?_
    refine q_ic_ge rfl (fun (hc0 : (g 35 3) ≤ (Int32.ofNat i)) => ?_) (fun hc0 => absurd (show (g 35 3) ≤ (Int32.ofNat i) from by rw [hn, q_le (by omega) (by omega)]; omega) hc0)
    refine q_ret 1 (none, (s_M4 36 c X Y wn g), u) (fun _ _ => rfl) ?_
    rfl
  | succ k ih =>
    intro i c X Y t wn hi
    rcases hy i (by omega) with hw | hw | hw | hw | hw
    · exact mb_35_0 g u hn h6 (by omega) hw (fun z => by rw [s_mv_go z]; exact ih (i + 1) _ _ _ _ _ (by omega)) (fun z => by rw [s_mv_no z]; exact ih (i + 1) _ _ _ _ _ (by omega))
    · exact mb_35_1 g u hn h6 (by omega) hw (fun z => by rw [s_mv_go z]; exact ih (i + 1) _ _ _ _ _ (by omega)) (fun z => by rw [s_mv_no z]; exact ih (i + 1) _ _ _ _ _ (by omega))
    · exact mb_35_2 g u hn h6 (by omega) hw (fun z => by rw [s_mv_go z]; exact ih (i + 1) _ _ _ _ _ (by omega)) (fun z => by rw [s_mv_no z]; exact ih (i + 1) _ _ _ _ _ (by omega))
    · exact mb_35_3 g u hn h6 (by omega) hw (fun z => by rw [s_mv_go z]; exact ih (i + 1) _ _ _ _ _ (by omega)) (fun z => by rw [s_mv_no z]; exact ih (i + 1) _ _ _ _ _ (by omega))
    · exact mb_35_4 g u hn h6 (by omega) hw (fun z => by rw [s_mv_go z]; exact ih (i + 1) _ _ _ _ _ (by omega)) (fun z => by rw [s_mv_no z]; exact ih (i + 1) _ _ _ _ _ (by omega))
theorem b_move35 (g : qM) (u : qW) {n : Nat} (hn : g 35 3 = Int32.ofNat n) (h6 : n ≤ 6) (hy : ∀ p, p < n → g 33 p = 0 ∨ g 33 p = 1 ∨ g 33 p = 2 ∨ g 33 p = 3 ∨ g 33 p = 4) : q_BS 69 [.ref 28, .ref 35] g u (none, s_move 35 n g, u) := by
  refine q_bx (mm := m_69) rfl (Nat.le_of_ble_eq_true rfl) rfl ?_
  refine q_step 5 7 [(0, .ref 28), (1, .ref 35), (2, .int (g 35 2)), (3, .int (0 : Int32))] [] g u (fun big n0 => sg_mv_71 big n0 g u) ?_
  refine mt_35 g u hn h6 n 0 _ (by omega) (fun x => ?_)
  refine q_step 5 39 [(0, .ref 28), (1, .ref 35), (2, .int (s_tk (g 36) n 0 (g 35 2))), (3, .int (0 : Int32))] [] (q_up g 28 5 (0 : Int32)) u (fun big n0 => sg_mv_72 big n0 g u (s_tk (g 36) n 0 (g 35 2)) x) ?_
  have e := mm_35 g u hn h6 hy n 0 (g 36) (g 29) (g 30) (s_tk (g 36) n 0 (g 35 2)) 0 (by omega)
  have e2 : s_M4 36 (g 36) (g 29) (g 30) 0 g = q_up g 28 5 0 := by
    funext a j
    simp only [q_up_eq, s_M4]
    by_cases h1 : a = 36
    · simp [h1]
    · by_cases h2 : a = 29
      · simp [h2]
      · by_cases h3 : a = 30
        · simp [h3]
        · by_cases h4 : a = 28
          · simp [h4]
          · simp [h1, h2, h3, h4]
  rw [e2] at e
  exact e
end
section
/-! THE STEP of the class: flips. X, Y: columns and rows, mo: moods, fl: whose mood flipped (bits). -/
def s_fo (x : Int32) : Int32 := if x = 0 then 0 else if x = 3 then 1 else x + 1
def s_nx (X Y : Nat → Int32) (p : Nat) : Nat → Nat → Int32 → Int32
  | 0, _, a => a
  | k + 1, q, a => s_nx X Y p k (q + 1) (a + (if s_abs (X q - X p) + s_abs (Y q - Y p) = 1 then 1 else 0))
def s_fl (pr : Int32) (X Y : Nat → Int32) (n : Nat) : Nat → Nat → (Nat → Int32) → Int32 → (Nat → Int32) × Int32
  | 0, _, mo, fl => (mo, fl)
  | k + 1, i, mo, fl => if mo i = 0 then s_fl pr X Y n k (i + 1) mo fl else if s_nx X Y i n 0 0 < pr then s_fl pr X Y n k (i + 1) mo fl else s_fl pr X Y n k (i + 1) (s_set mo i (s_fo (mo i))) (fl ||| ((1 : Int32) <<< (Int32.ofNat i &&& 31)))
def s_M6 (T : Nat) (mo : Nat → Int32) (fl : Int32) (g : qM) : qM := fun a j => if a = T then mo j else if a = 28 then (if j = 6 then fl else g 28 j) else g a j
theorem s_M6_m {T : Nat} {mo : Nat → Int32} {fl : Int32} {g : qM} {i : Nat} {x : Int32} : q_up (s_M6 T mo fl g) T i x = s_M6 T (s_set mo i x) fl g := by
  funext a j
  simp only [q_up_eq, s_M6, s_set]
  by_cases h : a = T
  · by_cases e : j = i
    · simp [h, e]
    · simp [h, e]
  · simp [h]
theorem s_M6_f {T : Nat} {mo : Nat → Int32} {fl : Int32} {g : qM} {x : Int32} (hT : T ≠ 28) : q_up (s_M6 T mo fl g) 28 6 x = s_M6 T mo x g := by
  funext a j
  simp only [q_up_eq, s_M6]
  by_cases h : a = 28
  · have h2 : ¬ 28 = T := fun z => hT z.symm
    by_cases e : j = 6
    · simp [h, e, h2]
    · simp [h, e, h2]
  · simp [h]
theorem s_M6_0 {T : Nat} {g : qM} {x : Int32} (hT : T ≠ 28) : q_up g 28 6 x = s_M6 T (g T) x g := by
  funext a j
  simp only [q_up_eq, s_M6]
  by_cases h : a = T
  · have h2 : ¬ T = 28 := hT
    simp [h, h2]
  · by_cases h3 : a = 28
    · by_cases e : j = 6
      · simp [h3, e]
        intro z
        exact absurd z.symm hT
      · simp [h3, e]
        intro z
        exact absurd z.symm hT
    · simp [h, h3]
/-- the cells behind flipAll -/
def s_flip (T n : Nat) (g : qM) : qM := s_M6 (T + 2) (if g T 4 ≤ 0 then g (T + 2) else (s_fl (g T 4) (g 29) (g 30) n n 0 (g (T + 2)) 0).1) (if g T 4 ≤ 0 then 0 else (s_fl (g T 4) (g 29) (g 30) n n 0 (g (T + 2)) 0).2) g
theorem sg_fl_1 (big : Nat → List Value → qM → qW → qR) (n0 : Nat) (G : qM) (U : qW) (v0 : Int32) : qm_run pm_m big m_72 (n0 + 1) 0 [(0, .int v0)] [] G U = qm_run pm_m big m_72 n0 1 [(0, .int v0)] [.int v0] G U := rfl
theorem sg_fl_2 (big : Nat → List Value → qM → qW → qR) (n0 : Nat) (G : qM) (U : qW) (v0 : Int32) : qm_run pm_m big m_72 (n0 + 2) 8 [(0, .int v0)] [] G U = qm_run pm_m big m_72 n0 10 [(0, .int v0)] [.int (3 : Int32), .int v0] G U := rfl
theorem sg_fl_3 (big : Nat → List Value → qM → qW → qR) (n0 : Nat) (G : qM) (U : qW) (v0 : Int32) (v1 : Int32) (v2 : Int32) (v3 : Int32) : qm_run pm_m big m_71 (n0 + 2) 5 [(0, .ref 28), (1, .int v0), (2, .int v1), (3, .int v2), (4, .int v3)] [] G U = qm_run pm_m big m_71 n0 8 [(0, .ref 28), (1, .int v0), (2, .int v1), (3, .int v2), (4, .int v3)] [.int v1, .int v3] G U := rfl
theorem sg_fl_4 (big : Nat → List Value → qM → qW → qR) (n0 : Nat) (G : qM) (U : qW) (v0 : Int32) (v1 : Int32) (v2 : Int32) (v3 : Int32) : qm_run pm_m big m_71 (n0 + 4) 11 [(0, .ref 28), (1, .int v0), (2, .int v1), (3, .int v2), (4, .int v3)] [] G U = qm_run pm_m big m_71 n0 18 [(0, .ref 28), (1, .int v0), (2, .int v1), (3, .int v2), (4, .int v3)] [.int v3, .ref 29, .int v2] G U := rfl
theorem sg_fl_5 (big : Nat → List Value → qM → qW → qR) (n0 : Nat) (G : qM) (U : qW) (v0 : Int32) (v1 : Int32) (v2 : Int32) (v3 : Int32) (v4 : Int32) (v5 : Int32) : qm_run pm_m big m_71 (n0 + 3) 19 [(0, .ref 28), (1, .int v0), (2, .int v1), (3, .int v2), (4, .int v3)] [.int v5, .int v4] G U = qm_run pm_m big m_71 n0 24 [(0, .ref 28), (1, .int v0), (2, .int v1), (3, .int v2), (4, .int v3)] [.int v0, .ref 29, .int v5, .int v4] G U := rfl
theorem sg_fl_6 (big : Nat → List Value → qM → qW → qR) (n0 : Nat) (G : qM) (U : qW) (v0 : Int32) (v1 : Int32) (v2 : Int32) (v3 : Int32) (v4 : Int32) (v5 : Int32) (v6 : Int32) : qm_run pm_m big m_71 (n0 + 1) 25 [(0, .ref 28), (1, .int v0), (2, .int v1), (3, .int v2), (4, .int v3)] [.int v6, .int v5, .int v4] G U = qm_run pm_m big m_71 n0 26 [(0, .ref 28), (1, .int v0), (2, .int v1), (3, .int v2), (4, .int v3)] [.int (v5 - v6), .int v4] G U := rfl
theorem sg_fl_7 (big : Nat → List Value → qM → qW → qR) (n0 : Nat) (G : qM) (U : qW) (v0 : Int32) (v1 : Int32) (v2 : Int32) (v3 : Int32) (v4 : Int32) (v5 : Int32) : qm_run pm_m big m_71 (n0 + 3) 29 [(0, .ref 28), (1, .int v0), (2, .int v1), (3, .int v2), (4, .int v3)] [.int v5, .int v4] G U = qm_run pm_m big m_71 n0 35 [(0, .ref 28), (1, .int v0), (2, .int v1), (3, .int v2), (4, .int v3)] [.int v3, .ref 30, .int v5, .int v4] G U := rfl
theorem sg_fl_8 (big : Nat → List Value → qM → qW → qR) (n0 : Nat) (G : qM) (U : qW) (v0 : Int32) (v1 : Int32) (v2 : Int32) (v3 : Int32) (v4 : Int32) (v5 : Int32) (v6 : Int32) : qm_run pm_m big m_71 (n0 + 3) 36 [(0, .ref 28), (1, .int v0), (2, .int v1), (3, .int v2), (4, .int v3)] [.int v6, .int v5, .int v4] G U = qm_run pm_m big m_71 n0 41 [(0, .ref 28), (1, .int v0), (2, .int v1), (3, .int v2), (4, .int v3)] [.int v0, .ref 30, .int v6, .int v5, .int v4] G U := rfl
theorem sg_fl_9 (big : Nat → List Value → qM → qW → qR) (n0 : Nat) (G : qM) (U : qW) (v0 : Int32) (v1 : Int32) (v2 : Int32) (v3 : Int32) (v4 : Int32) (v5 : Int32) (v6 : Int32) (v7 : Int32) : qm_run pm_m big m_71 (n0 + 1) 42 [(0, .ref 28), (1, .int v0), (2, .int v1), (3, .int v2), (4, .int v3)] [.int v7, .int v6, .int v5, .int v4] G U = qm_run pm_m big m_71 n0 43 [(0, .ref 28), (1, .int v0), (2, .int v1), (3, .int v2), (4, .int v3)] [.int (v6 - v7), .int v5, .int v4] G U := rfl
theorem sg_fl_10 (big : Nat → List Value → qM → qW → qR) (n0 : Nat) (G : qM) (U : qW) (v0 : Int32) (v1 : Int32) (v2 : Int32) (v3 : Int32) (v4 : Int32) (v5 : Int32) (v6 : Int32) : qm_run pm_m big m_71 (n0 + 2) 46 [(0, .ref 28), (1, .int v0), (2, .int v1), (3, .int v2), (4, .int v3)] [.int v6, .int v5, .int v4] G U = qm_run pm_m big m_71 n0 48 [(0, .ref 28), (1, .int v0), (2, .int v1), (3, .int v2), (4, .int v3)] [.int (1 : Int32), .int (v5 + v6), .int v4] G U := rfl
theorem sg_fl_11 (big : Nat → List Value → qM → qW → qR) (n0 : Nat) (G : qM) (U : qW) (v0 : Int32) (v1 : Int32) (v2 : Int32) (v3 : Int32) (v4 : Int32) : qm_run pm_m big m_71 (n0 + 6) 51 [(0, .ref 28), (1, .int v0), (2, .int v1), (3, .int v2), (4, .int v3)] [.int v4] G U = qm_run pm_m big m_71 n0 5 [(0, .ref 28), (1, .int v0), (2, .int v1), (3, .int (v4 + (1 : Int32))), (4, .int (v3 + (1 : Int32)))] [] G U := rfl
theorem sg_fl_12 (big : Nat → List Value → qM → qW → qR) (n0 : Nat) (G : qM) (U : qW) (v0 : Int32) (v1 : Int32) (v2 : Int32) (v3 : Int32) (v4 : Int32) : qm_run pm_m big m_71 (n0 + 5) 55 [(0, .ref 28), (1, .int v0), (2, .int v1), (3, .int v2), (4, .int v3)] [.int v4] G U = qm_run pm_m big m_71 n0 5 [(0, .ref 28), (1, .int v0), (2, .int v1), (3, .int (v4 + (0 : Int32))), (4, .int (v3 + (1 : Int32)))] [] G U := rfl
theorem sg_fl_13 (big : Nat → List Value → qM → qW → qR) (n0 : Nat) (G : qM) (U : qW) (v0 : Int32) (v1 : Int32) : qm_run pm_m big m_71 (n0 + 4) 0 [(0, .ref 28), (1, .int v0), (2, .int v1)] [] G U = qm_run pm_m big m_71 n0 5 [(0, .ref 28), (1, .int v0), (2, .int v1), (3, .int (0 : Int32)), (4, .int (0 : Int32))] [] G U := rfl
theorem sg_fl_14 (big : Nat → List Value → qM → qW → qR) (n0 : Nat) (G : qM) (U : qW) (v0 : Int32) : qm_run pm_m big m_70 (n0 + 3) 7 [(0, .ref 28), (1, .ref 20), (2, .int v0)] [] G U = qm_run pm_m big m_70 n0 12 [(0, .ref 28), (1, .ref 20), (2, .int v0)] [.int (G 20 3), .int v0] G U := rfl
theorem sg_fl_15 (big : Nat → List Value → qM → qW → qR) (n0 : Nat) (G : qM) (U : qW) (v0 : Int32) : qm_run pm_m big m_70 (n0 + 2) 15 [(0, .ref 28), (1, .ref 20), (2, .int v0)] [] G U = qm_run pm_m big m_70 n0 19 [(0, .ref 28), (1, .ref 20), (2, .int v0)] [.int (G 20 4)] G U := rfl
theorem sg_fl_16 (big : Nat → List Value → qM → qW → qR) (n0 : Nat) (G : qM) (U : qW) (v0 : Int32) : qm_run pm_m big m_70 (n0 + 3) 22 [(0, .ref 28), (1, .ref 20), (2, .int v0)] [] G U = qm_run pm_m big m_70 n0 27 [(0, .ref 28), (1, .ref 20), (2, .int v0)] [.int v0, .ref 22] G U := rfl
theorem sg_fl_17 (big : Nat → List Value → qM → qW → qR) (n0 : Nat) (G : qM) (U : qW) (v0 : Int32) : qm_run pm_m big m_70 (n0 + 2) 74 [(0, .ref 28), (1, .ref 20), (2, .int v0)] [] G U = qm_run pm_m big m_70 n0 7 [(0, .ref 28), (1, .ref 20), (2, .int (v0 + (1 : Int32)))] [] G U := rfl
theorem sg_fl_18 (big : Nat → List Value → qM → qW → qR) (n0 : Nat) (G : qM) (U : qW) (v0 : Int32) : qm_run pm_m big m_70 (n0 + 4) 31 [(0, .ref 28), (1, .ref 20), (2, .int v0)] [] G U = qm_run pm_m big m_70 n0 37 [(0, .ref 28), (1, .ref 20), (2, .int v0)] [.int (G 20 3), .int v0, .ref 28] G U := rfl
theorem sg_fl_19 (big : Nat → List Value → qM → qW → qR) (n0 : Nat) (G : qM) (U : qW) (v0 : Int32) (v1 : Int32) : qm_run pm_m big m_70 (n0 + 2) 40 [(0, .ref 28), (1, .ref 20), (2, .int v0)] [.int v1] G U = qm_run pm_m big m_70 n0 44 [(0, .ref 28), (1, .ref 20), (2, .int v0)] [.int (G 20 4), .int v1] G U := rfl
theorem sg_fl_20 (big : Nat → List Value → qM → qW → qR) (n0 : Nat) (G : qM) (U : qW) (v0 : Int32) : qm_run pm_m big m_70 (n0 + 6) 47 [(0, .ref 28), (1, .ref 20), (2, .int v0)] [] G U = qm_run pm_m big m_70 n0 57 [(0, .ref 28), (1, .ref 20), (2, .int v0)] [.int v0, .ref 22, .int v0, .ref 22] G U := rfl
theorem sg_fl_21 (big : Nat → List Value → qM → qW → qR) (n0 : Nat) (G : qM) (U : qW) (v0 : Int32) : qm_run pm_m big m_70 (n0 + 10) 62 [(0, .ref 28), (1, .ref 20), (2, .int v0)] [] G U = qm_run pm_m big m_70 n0 7 [(0, .ref 28), (1, .ref 20), (2, .int (v0 + (1 : Int32)))] [] (q_up G 28 6 ((G 28 6) ||| ((1 : Int32) <<< (v0 &&& 31)))) U := rfl
theorem sg_fl_22 (big : Nat → List Value → qM → qW → qR) (n0 : Nat) (G : qM) (U : qW) : qm_run pm_m big m_70 (n0 + 5) 0 [(0, .ref 28), (1, .ref 20)] [] G U = qm_run pm_m big m_70 n0 7 [(0, .ref 28), (1, .ref 20), (2, .int (0 : Int32))] [] (q_up G 28 6 (0 : Int32)) U := rfl
theorem sg_fl_23 (big : Nat → List Value → qM → qW → qR) (n0 : Nat) (G : qM) (U : qW) : qm_run pm_m big m_70 (n0 + 3) 7 [(0, .ref 28), (1, .ref 20), (2, .int (0 : Int32))] [] G U = qm_run pm_m big m_70 n0 12 [(0, .ref 28), (1, .ref 20), (2, .int (0 : Int32))] [.int (G 20 3), .int (0 : Int32)] G U := rfl
theorem sg_fl_24 (big : Nat → List Value → qM → qW → qR) (n0 : Nat) (G : qM) (U : qW) : qm_run pm_m big m_70 (n0 + 2) 15 [(0, .ref 28), (1, .ref 20), (2, .int (0 : Int32))] [] G U = qm_run pm_m big m_70 n0 19 [(0, .ref 28), (1, .ref 20), (2, .int (0 : Int32))] [.int (G 20 4)] G U := rfl
theorem sg_fl_25 (big : Nat → List Value → qM → qW → qR) (n0 : Nat) (G : qM) (U : qW) (v0 : Int32) : qm_run pm_m big m_70 (n0 + 3) 7 [(0, .ref 28), (1, .ref 35), (2, .int v0)] [] G U = qm_run pm_m big m_70 n0 12 [(0, .ref 28), (1, .ref 35), (2, .int v0)] [.int (G 35 3), .int v0] G U := rfl
theorem sg_fl_26 (big : Nat → List Value → qM → qW → qR) (n0 : Nat) (G : qM) (U : qW) (v0 : Int32) : qm_run pm_m big m_70 (n0 + 2) 15 [(0, .ref 28), (1, .ref 35), (2, .int v0)] [] G U = qm_run pm_m big m_70 n0 19 [(0, .ref 28), (1, .ref 35), (2, .int v0)] [.int (G 35 4)] G U := rfl
theorem sg_fl_27 (big : Nat → List Value → qM → qW → qR) (n0 : Nat) (G : qM) (U : qW) (v0 : Int32) : qm_run pm_m big m_70 (n0 + 3) 22 [(0, .ref 28), (1, .ref 35), (2, .int v0)] [] G U = qm_run pm_m big m_70 n0 27 [(0, .ref 28), (1, .ref 35), (2, .int v0)] [.int v0, .ref 37] G U := rfl
theorem sg_fl_28 (big : Nat → List Value → qM → qW → qR) (n0 : Nat) (G : qM) (U : qW) (v0 : Int32) : qm_run pm_m big m_70 (n0 + 2) 74 [(0, .ref 28), (1, .ref 35), (2, .int v0)] [] G U = qm_run pm_m big m_70 n0 7 [(0, .ref 28), (1, .ref 35), (2, .int (v0 + (1 : Int32)))] [] G U := rfl
theorem sg_fl_29 (big : Nat → List Value → qM → qW → qR) (n0 : Nat) (G : qM) (U : qW) (v0 : Int32) : qm_run pm_m big m_70 (n0 + 4) 31 [(0, .ref 28), (1, .ref 35), (2, .int v0)] [] G U = qm_run pm_m big m_70 n0 37 [(0, .ref 28), (1, .ref 35), (2, .int v0)] [.int (G 35 3), .int v0, .ref 28] G U := rfl
theorem sg_fl_30 (big : Nat → List Value → qM → qW → qR) (n0 : Nat) (G : qM) (U : qW) (v0 : Int32) (v1 : Int32) : qm_run pm_m big m_70 (n0 + 2) 40 [(0, .ref 28), (1, .ref 35), (2, .int v0)] [.int v1] G U = qm_run pm_m big m_70 n0 44 [(0, .ref 28), (1, .ref 35), (2, .int v0)] [.int (G 35 4), .int v1] G U := rfl
theorem sg_fl_31 (big : Nat → List Value → qM → qW → qR) (n0 : Nat) (G : qM) (U : qW) (v0 : Int32) : qm_run pm_m big m_70 (n0 + 6) 47 [(0, .ref 28), (1, .ref 35), (2, .int v0)] [] G U = qm_run pm_m big m_70 n0 57 [(0, .ref 28), (1, .ref 35), (2, .int v0)] [.int v0, .ref 37, .int v0, .ref 37] G U := rfl
theorem sg_fl_32 (big : Nat → List Value → qM → qW → qR) (n0 : Nat) (G : qM) (U : qW) (v0 : Int32) : qm_run pm_m big m_70 (n0 + 10) 62 [(0, .ref 28), (1, .ref 35), (2, .int v0)] [] G U = qm_run pm_m big m_70 n0 7 [(0, .ref 28), (1, .ref 35), (2, .int (v0 + (1 : Int32)))] [] (q_up G 28 6 ((G 28 6) ||| ((1 : Int32) <<< (v0 &&& 31)))) U := rfl
theorem sg_fl_33 (big : Nat → List Value → qM → qW → qR) (n0 : Nat) (G : qM) (U : qW) : qm_run pm_m big m_70 (n0 + 5) 0 [(0, .ref 28), (1, .ref 35)] [] G U = qm_run pm_m big m_70 n0 7 [(0, .ref 28), (1, .ref 35), (2, .int (0 : Int32))] [] (q_up G 28 6 (0 : Int32)) U := rfl
theorem sg_fl_34 (big : Nat → List Value → qM → qW → qR) (n0 : Nat) (G : qM) (U : qW) : qm_run pm_m big m_70 (n0 + 3) 7 [(0, .ref 28), (1, .ref 35), (2, .int (0 : Int32))] [] G U = qm_run pm_m big m_70 n0 12 [(0, .ref 28), (1, .ref 35), (2, .int (0 : Int32))] [.int (G 35 3), .int (0 : Int32)] G U := rfl
theorem sg_fl_35 (big : Nat → List Value → qM → qW → qR) (n0 : Nat) (G : qM) (U : qW) : qm_run pm_m big m_70 (n0 + 2) 15 [(0, .ref 28), (1, .ref 35), (2, .int (0 : Int32))] [] G U = qm_run pm_m big m_70 n0 19 [(0, .ref 28), (1, .ref 35), (2, .int (0 : Int32))] [.int (G 35 4)] G U := rfl
theorem b_flipOf (x : Int32) (g : qM) (u : qW) : q_BS 72 [.int x] g u (some (.int (s_fo x)), g, u) := by
  refine q_bx (mm := m_72) rfl (Nat.le_of_ble_eq_true rfl) rfl ?_
  refine q_step 1 1 [(0, .int x)] [.int x] g u (fun big n0 => sg_fl_1 big n0 g u x) ?_
  refine q_if_ne rfl (fun (hc0 : x = 0) => ?_) (fun (hc0 : ¬ (x = 0)) => ?_)
  · refine q_ret 3 (some (.int (0 : Int32)), g, u) (fun _ _ => rfl) ?_
    unfold s_fo
    rw [if_pos hc0]
  · refine q_step 2 10 [(0, .int x)] [.int (3 : Int32), .int x] g u (fun big n0 => sg_fl_2 big n0 g u x) ?_
    refine q_ic_ne rfl (fun (hc1 : x = (3 : Int32)) => ?_) (fun (hc1 : ¬ (x = (3 : Int32))) => ?_)
    · refine q_ret 3 (some (.int (1 : Int32)), g, u) (fun _ _ => rfl) ?_
      unfold s_fo
      rw [if_neg hc0, if_pos hc1]
    · refine q_ret 4 (some (.int (x + (1 : Int32))), g, u) (fun _ _ => rfl) ?_
      unfold s_fo
      rw [if_neg hc0, if_neg hc1]
theorem nx_l (g : qM) (u : qW) {n p : Nat} (h6 : n ≤ 6) (hp : p < n) : ∀ k q a, q + k = n → q_EV m_71 5 [(0, .ref 28), (1, .int (Int32.ofNat p)), (2, .int (Int32.ofNat n)), (3, .int a), (4, .int (Int32.ofNat q))] [] g u (fun R => R = (some (.int (s_nx (g 29) (g 30) p k q a)), g, u)) := by
  intro k
  induction k with
  | zero =>
    intro q a hq
    refine q_step 2 8 [(0, .ref 28), (1, .int (Int32.ofNat p)), (2, .int (Int32.ofNat n)), (3, .int a), (4, .int (Int32.ofNat q))] [.int (Int32.ofNat n), .int (Int32.ofNat q)] g u (fun big n0 => sg_fl_3 big n0 g u (Int32.ofNat p) (Int32.ofNat n) a (Int32.ofNat q)) ?_
    refine q_ic_ge rfl (fun (hc0 : (Int32.ofNat n) ≤ (Int32.ofNat q)) => ?_) (fun hc0 => absurd (show (Int32.ofNat n) ≤ (Int32.ofNat q) from by rw [q_le (by omega) (by omega)]; omega) hc0)
    refine q_ret 2 (some (.int a), g, u) (fun _ _ => rfl) ?_
    rfl
  | succ k ih =>
    intro q a hq
    refine q_step 2 8 [(0, .ref 28), (1, .int (Int32.ofNat p)), (2, .int (Int32.ofNat n)), (3, .int a), (4, .int (Int32.ofNat q))] [.int (Int32.ofNat n), .int (Int32.ofNat q)] g u (fun big n0 => sg_fl_3 big n0 g u (Int32.ofNat p) (Int32.ofNat n) a (Int32.ofNat q)) ?_
    refine q_ic_ge rfl (fun hc0 => absurd (show (Int32.ofNat n) ≤ (Int32.ofNat q) from hc0) (fun z => by rw [q_le (by omega) (by omega)] at z; omega)) (fun (hc0 : ¬ ((Int32.ofNat n) ≤ (Int32.ofNat q))) => ?_)
    refine q_step 4 18 [(0, .ref 28), (1, .int (Int32.ofNat p)), (2, .int (Int32.ofNat n)), (3, .int a), (4, .int (Int32.ofNat q))] [.int (Int32.ofNat q), .ref 29, .int a] g u (fun big n0 => sg_fl_4 big n0 g u (Int32.ofNat p) (Int32.ofNat n) a (Int32.ofNat q)) ?_
    refine q_iald (j := q) (q_ixn (by omega) (by omega)) rfl rfl ?_
    refine q_step 3 24 [(0, .ref 28), (1, .int (Int32.ofNat p)), (2, .int (Int32.ofNat n)), (3, .int a), (4, .int (Int32.ofNat q))] [.int (Int32.ofNat p), .ref 29, .int (g 29 q), .int a] g u (fun big n0 => sg_fl_5 big n0 g u (Int32.ofNat p) (Int32.ofNat n) a (Int32.ofNat q) a (g 29 q)) ?_
    refine q_iald (j := p) (q_ixn (by omega) (by omega)) rfl rfl ?_
    refine q_step 1 26 [(0, .ref 28), (1, .int (Int32.ofNat p)), (2, .int (Int32.ofNat n)), (3, .int a), (4, .int (Int32.ofNat q))] [.int ((g 29 q) - (g 29 p)), .int a] g u (fun big n0 => sg_fl_6 big n0 g u (Int32.ofNat p) (Int32.ofNat n) a (Int32.ofNat q) a (g 29 q) (g 29 p)) ?_
    refine q_call (M2 := 62) (rest := [.int a]) (b_abs _ _ _) (fun _ _ => rfl) ?_
    refine q_step 3 35 [(0, .ref 28), (1, .int (Int32.ofNat p)), (2, .int (Int32.ofNat n)), (3, .int a), (4, .int (Int32.ofNat q))] [.int (Int32.ofNat q), .ref 30, .int (s_abs ((g 29 q) - (g 29 p))), .int a] g u (fun big n0 => sg_fl_7 big n0 g u (Int32.ofNat p) (Int32.ofNat n) a (Int32.ofNat q) a (s_abs ((g 29 q) - (g 29 p)))) ?_
    refine q_iald (j := q) (q_ixn (by omega) (by omega)) rfl rfl ?_
    refine q_step 3 41 [(0, .ref 28), (1, .int (Int32.ofNat p)), (2, .int (Int32.ofNat n)), (3, .int a), (4, .int (Int32.ofNat q))] [.int (Int32.ofNat p), .ref 30, .int (g 30 q), .int (s_abs ((g 29 q) - (g 29 p))), .int a] g u (fun big n0 => sg_fl_8 big n0 g u (Int32.ofNat p) (Int32.ofNat n) a (Int32.ofNat q) a (s_abs ((g 29 q) - (g 29 p))) (g 30 q)) ?_
    refine q_iald (j := p) (q_ixn (by omega) (by omega)) rfl rfl ?_
    refine q_step 1 43 [(0, .ref 28), (1, .int (Int32.ofNat p)), (2, .int (Int32.ofNat n)), (3, .int a), (4, .int (Int32.ofNat q))] [.int ((g 30 q) - (g 30 p)), .int (s_abs ((g 29 q) - (g 29 p))), .int a] g u (fun big n0 => sg_fl_9 big n0 g u (Int32.ofNat p) (Int32.ofNat n) a (Int32.ofNat q) a (s_abs ((g 29 q) - (g 29 p))) (g 30 q) (g 30 p)) ?_
    refine q_call (M2 := 62) (rest := [.int (s_abs ((g 29 q) - (g 29 p))), .int a]) (b_abs _ _ _) (fun _ _ => rfl) ?_
    refine q_step 2 48 [(0, .ref 28), (1, .int (Int32.ofNat p)), (2, .int (Int32.ofNat n)), (3, .int a), (4, .int (Int32.ofNat q))] [.int (1 : Int32), .int ((s_abs ((g 29 q) - (g 29 p))) + (s_abs ((g 30 q) - (g 30 p)))), .int a] g u (fun big n0 => sg_fl_10 big n0 g u (Int32.ofNat p) (Int32.ofNat n) a (Int32.ofNat q) a (s_abs ((g 29 q) - (g 29 p))) (s_abs ((g 30 q) - (g 30 p)))) ?_
    refine q_ic_ne rfl (fun (hc1 : ((s_abs ((g 29 q) - (g 29 p))) + (s_abs ((g 30 q) - (g 30 p)))) = (1 : Int32)) => ?_) (fun (hc1 : ¬ (((s_abs ((g 29 q) - (g 29 p))) + (s_abs ((g 30 q) - (g 30 p)))) = (1 : Int32))) => ?_)
    · refine q_step 6 5 [(0, .ref 28), (1, .int (Int32.ofNat p)), (2, .int (Int32.ofNat n)), (3, .int (a + (1 : Int32))), (4, .int ((Int32.ofNat q) + (1 : Int32)))] [] g u (fun big n0 => sg_fl_11 big n0 g u (Int32.ofNat p) (Int32.ofNat n) a (Int32.ofNat q) a) ?_
      rw [q_succ]
      have e := ih (q + 1) (a + 1) (by omega)
      unfold s_nx
      rw [if_pos hc1]
      exact e
    · refine q_step 5 5 [(0, .ref 28), (1, .int (Int32.ofNat p)), (2, .int (Int32.ofNat n)), (3, .int (a + (0 : Int32))), (4, .int ((Int32.ofNat q) + (1 : Int32)))] [] g u (fun big n0 => sg_fl_12 big n0 g u (Int32.ofNat p) (Int32.ofNat n) a (Int32.ofNat q) a) ?_
      rw [q_succ]
      have e := ih (q + 1) (a + 0) (by omega)
      unfold s_nx
      rw [if_neg hc1]
      exact e
theorem b_nx (g : qM) (u : qW) {n p : Nat} (h6 : n ≤ 6) (hp : p < n) : q_BS 71 [.ref 28, .int (Int32.ofNat p), .int (Int32.ofNat n)] g u (some (.int (s_nx (g 29) (g 30) p n 0 0)), g, u) := by
  refine q_bx (mm := m_71) rfl (Nat.le_of_ble_eq_true rfl) rfl ?_
  refine q_step 4 5 [(0, .ref 28), (1, .int (Int32.ofNat p)), (2, .int (Int32.ofNat n)), (3, .int (0 : Int32)), (4, .int (0 : Int32))] [] g u (fun big n0 => sg_fl_13 big n0 g u (Int32.ofNat p) (Int32.ofNat n)) ?_
  exact nx_l g u h6 hp n 0 0 (by omega)
theorem fl_20 (g : qM) (u : qW) {n : Nat} (hn : g 20 3 = Int32.ofNat n) (h6 : n ≤ 6) (hpr : ¬ g 20 4 ≤ 0) : ∀ k i mo fl, i + k = n → q_EV m_70 7 [(0, .ref 28), (1, .ref 20), (2, .int (Int32.ofNat i))] [] (s_M6 22 mo fl g) u (fun R => R = (none, s_M6 22 (s_fl (g 20 4) (g 29) (g 30) n k i mo fl).1 (s_fl (g 20 4) (g 29) (g 30) n k i mo fl).2 g, u)) := by
  intro k
  induction k with
  | zero =>
    intro i mo fl hi
    refine q_step 3 12 [(0, .ref 28), (1, .ref 20), (2, .int (Int32.ofNat i))] [.int (g 20 3), .int (Int32.ofNat i)] (s_M6 22 mo fl g) u (fun big n0 => sg_fl_14 big n0 (s_M6 22 mo fl g) u (Int32.ofNat i)) ?_
    refine q_ic_ge rfl (fun (hc0 : (g 20 3) ≤ (Int32.ofNat i)) => ?_) (fun hc0 => absurd (show (g 20 3) ≤ (Int32.ofNat i) from by rw [hn, q_le (by omega) (by omega)]; omega) hc0)
    refine q_ret 1 (none, (s_M6 22 mo fl g), u) (fun _ _ => rfl) ?_
    rfl
  | succ k ih =>
    intro i mo fl hi
    refine q_step 3 12 [(0, .ref 28), (1, .ref 20), (2, .int (Int32.ofNat i))] [.int (g 20 3), .int (Int32.ofNat i)] (s_M6 22 mo fl g) u (fun big n0 => sg_fl_14 big n0 (s_M6 22 mo fl g) u (Int32.ofNat i)) ?_
    refine q_ic_ge rfl (fun hc0 => absurd (show (g 20 3) ≤ (Int32.ofNat i) from hc0) (fun z => by rw [hn, q_le (by omega) (by omega)] at z; omega)) (fun (hc0 : ¬ ((g 20 3) ≤ (Int32.ofNat i))) => ?_)
    refine q_step 2 19 [(0, .ref 28), (1, .ref 20), (2, .int (Int32.ofNat i))] [.int (g 20 4)] (s_M6 22 mo fl g) u (fun big n0 => sg_fl_15 big n0 (s_M6 22 mo fl g) u (Int32.ofNat i)) ?_
    refine q_if_le rfl (fun hc1 => absurd (show (g 20 4) ≤ 0 from hc1) (hpr)) (fun (hc1 : ¬ ((g 20 4) ≤ 0)) => ?_)
    refine q_step 3 27 [(0, .ref 28), (1, .ref 20), (2, .int (Int32.ofNat i))] [.int (Int32.ofNat i), .ref 22] (s_M6 22 mo fl g) u (fun big n0 => sg_fl_16 big n0 (s_M6 22 mo fl g) u (Int32.ofNat i)) ?_
    refine q_iald (j := i) (q_ixn (by omega) (by omega)) rfl rfl ?_
    refine q_if_eq rfl (fun (hc2 : (mo i) = 0) => ?_) (fun (hc2 : ¬ ((mo i) = 0)) => ?_)
    · refine q_step 2 7 [(0, .ref 28), (1, .ref 20), (2, .int ((Int32.ofNat i) + (1 : Int32)))] [] (s_M6 22 mo fl g) u (fun big n0 => sg_fl_17 big n0 (s_M6 22 mo fl g) u (Int32.ofNat i)) ?_
      rw [q_succ]
      unfold s_fl
      rw [if_pos hc2]
      exact ih (i + 1) _ _ (by omega)
    · refine q_step 4 37 [(0, .ref 28), (1, .ref 20), (2, .int (Int32.ofNat i))] [.int (g 20 3), .int (Int32.ofNat i), .ref 28] (s_M6 22 mo fl g) u (fun big n0 => sg_fl_18 big n0 (s_M6 22 mo fl g) u (Int32.ofNat i)) ?_
      have hb : q_BS 71 [.ref 28, .int (Int32.ofNat i), .int (g 20 3)] (s_M6 22 mo fl g) u (some (.int (s_nx (g 29) (g 30) i n 0 0)), (s_M6 22 mo fl g), u) := by rw [hn]; exact b_nx (s_M6 22 mo fl g) u h6 (by omega)
      refine q_call (M2 := 71) (rest := []) (hb) (fun _ _ => rfl) ?_
      refine q_step 2 44 [(0, .ref 28), (1, .ref 20), (2, .int (Int32.ofNat i))] [.int (g 20 4), .int (s_nx (g 29) (g 30) i n 0 0)] (s_M6 22 mo fl g) u (fun big n0 => sg_fl_19 big n0 (s_M6 22 mo fl g) u (Int32.ofNat i) (s_nx (g 29) (g 30) i n 0 0)) ?_
      refine q_ic_lt rfl (fun (hc3 : (s_nx (g 29) (g 30) i n 0 0) < (g 20 4)) => ?_) (fun (hc3 : ¬ ((s_nx (g 29) (g 30) i n 0 0) < (g 20 4))) => ?_)
      · refine q_step 2 7 [(0, .ref 28), (1, .ref 20), (2, .int ((Int32.ofNat i) + (1 : Int32)))] [] (s_M6 22 mo fl g) u (fun big n0 => sg_fl_17 big n0 (s_M6 22 mo fl g) u (Int32.ofNat i)) ?_
        rw [q_succ]
        unfold s_fl
        rw [if_neg hc2, if_pos hc3]
        exact ih (i + 1) _ _ (by omega)
      · refine q_step 6 57 [(0, .ref 28), (1, .ref 20), (2, .int (Int32.ofNat i))] [.int (Int32.ofNat i), .ref 22, .int (Int32.ofNat i), .ref 22] (s_M6 22 mo fl g) u (fun big n0 => sg_fl_20 big n0 (s_M6 22 mo fl g) u (Int32.ofNat i)) ?_
        refine q_iald (j := i) (q_ixn (by omega) (by omega)) rfl rfl ?_
        refine q_call (M2 := 72) (rest := [.int (Int32.ofNat i), .ref 22]) (b_flipOf _ _ _) (fun _ _ => rfl) ?_
        refine q_iast (j := i) (q_ixn (by omega) (by omega)) rfl rfl ?_
        refine q_step 10 7 [(0, .ref 28), (1, .ref 20), (2, .int ((Int32.ofNat i) + (1 : Int32)))] [] (q_up (q_up (s_M6 22 mo fl g) 22 i (s_fo (mo i))) 28 6 (((s_M6 22 mo fl g) 28 6) ||| ((1 : Int32) <<< ((Int32.ofNat i) &&& 31)))) u (fun big n0 => sg_fl_21 big n0 (q_up (s_M6 22 mo fl g) 22 i (s_fo (mo i))) u (Int32.ofNat i)) ?_
        rw [q_succ, s_M6_m, s_M6_f (by decide)]
        unfold s_fl
        rw [if_neg hc2, if_neg hc3]
        exact ih (i + 1) _ _ (by omega)
theorem b_flip20 (g : qM) (u : qW) {n : Nat} (hn : g 20 3 = Int32.ofNat n) (h6 : n ≤ 6) : q_BS 70 [.ref 28, .ref 20] g u (none, s_flip 20 n g, u) := by
  refine q_bx (mm := m_70) rfl (Nat.le_of_ble_eq_true rfl) rfl ?_
  refine q_step 5 7 [(0, .ref 28), (1, .ref 20), (2, .int (0 : Int32))] [] (q_up g 28 6 (0 : Int32)) u (fun big n0 => sg_fl_22 big n0 g u) ?_
  by_cases hpr : g 20 4 ≤ 0
  · by_cases h0 : n = 0
    · refine q_step 3 12 [(0, .ref 28), (1, .ref 20), (2, .int (0 : Int32))] [.int (g 20 3), .int (0 : Int32)] (q_up g 28 6 (0 : Int32)) u (fun big n0 => sg_fl_23 big n0 (q_up g 28 6 (0 : Int32)) u) ?_
      refine q_ic_ge rfl (fun (hc0 : (g 20 3) ≤ (0 : Int32)) => ?_) (fun hc0 => absurd (show (g 20 3) ≤ (0 : Int32) from by rw [hn, h0]; decide) hc0)
      refine q_ret 1 (none, (q_up g 28 6 (0 : Int32)), u) (fun _ _ => rfl) ?_
      unfold s_flip
      rw [if_pos hpr, if_pos hpr, s_M6_0 (T := 22) (by decide)]
    · refine q_step 3 12 [(0, .ref 28), (1, .ref 20), (2, .int (0 : Int32))] [.int (g 20 3), .int (0 : Int32)] (q_up g 28 6 (0 : Int32)) u (fun big n0 => sg_fl_23 big n0 (q_up g 28 6 (0 : Int32)) u) ?_
      refine q_ic_ge rfl (fun hc0 => absurd (show (g 20 3) ≤ (0 : Int32) from hc0) (fun z => by rw [hn] at z; have z2 := (q_le (i := n) (j := 0) (by omega) (by omega)).mp z; omega)) (fun (hc0 : ¬ ((g 20 3) ≤ (0 : Int32))) => ?_)
      refine q_step 2 19 [(0, .ref 28), (1, .ref 20), (2, .int (0 : Int32))] [.int (g 20 4)] (q_up g 28 6 (0 : Int32)) u (fun big n0 => sg_fl_24 big n0 (q_up g 28 6 (0 : Int32)) u) ?_
      refine q_if_le rfl (fun (hc1 : (g 20 4) ≤ 0) => ?_) (fun hc1 => absurd (show (g 20 4) ≤ 0 from hpr) hc1)
      refine q_ret 1 (none, (q_up g 28 6 (0 : Int32)), u) (fun _ _ => rfl) ?_
      unfold s_flip
      rw [if_pos hpr, if_pos hpr, s_M6_0 (T := 22) (by decide)]
  · have e := fl_20 g u hn h6 hpr n 0 (g 22) 0 (by omega)
    unfold s_flip
    rw [if_neg hpr, if_neg hpr, s_M6_0 (T := 22) (by decide)]
    exact e
theorem fl_35 (g : qM) (u : qW) {n : Nat} (hn : g 35 3 = Int32.ofNat n) (h6 : n ≤ 6) (hpr : ¬ g 35 4 ≤ 0) : ∀ k i mo fl, i + k = n → q_EV m_70 7 [(0, .ref 28), (1, .ref 35), (2, .int (Int32.ofNat i))] [] (s_M6 37 mo fl g) u (fun R => R = (none, s_M6 37 (s_fl (g 35 4) (g 29) (g 30) n k i mo fl).1 (s_fl (g 35 4) (g 29) (g 30) n k i mo fl).2 g, u)) := by
  intro k
  induction k with
  | zero =>
    intro i mo fl hi
    refine q_step 3 12 [(0, .ref 28), (1, .ref 35), (2, .int (Int32.ofNat i))] [.int (g 35 3), .int (Int32.ofNat i)] (s_M6 37 mo fl g) u (fun big n0 => sg_fl_25 big n0 (s_M6 37 mo fl g) u (Int32.ofNat i)) ?_
    refine q_ic_ge rfl (fun (hc0 : (g 35 3) ≤ (Int32.ofNat i)) => ?_) (fun hc0 => absurd (show (g 35 3) ≤ (Int32.ofNat i) from by rw [hn, q_le (by omega) (by omega)]; omega) hc0)
    refine q_ret 1 (none, (s_M6 37 mo fl g), u) (fun _ _ => rfl) ?_
    rfl
  | succ k ih =>
    intro i mo fl hi
    refine q_step 3 12 [(0, .ref 28), (1, .ref 35), (2, .int (Int32.ofNat i))] [.int (g 35 3), .int (Int32.ofNat i)] (s_M6 37 mo fl g) u (fun big n0 => sg_fl_25 big n0 (s_M6 37 mo fl g) u (Int32.ofNat i)) ?_
    refine q_ic_ge rfl (fun hc0 => absurd (show (g 35 3) ≤ (Int32.ofNat i) from hc0) (fun z => by rw [hn, q_le (by omega) (by omega)] at z; omega)) (fun (hc0 : ¬ ((g 35 3) ≤ (Int32.ofNat i))) => ?_)
    refine q_step 2 19 [(0, .ref 28), (1, .ref 35), (2, .int (Int32.ofNat i))] [.int (g 35 4)] (s_M6 37 mo fl g) u (fun big n0 => sg_fl_26 big n0 (s_M6 37 mo fl g) u (Int32.ofNat i)) ?_
    refine q_if_le rfl (fun hc1 => absurd (show (g 35 4) ≤ 0 from hc1) (hpr)) (fun (hc1 : ¬ ((g 35 4) ≤ 0)) => ?_)
    refine q_step 3 27 [(0, .ref 28), (1, .ref 35), (2, .int (Int32.ofNat i))] [.int (Int32.ofNat i), .ref 37] (s_M6 37 mo fl g) u (fun big n0 => sg_fl_27 big n0 (s_M6 37 mo fl g) u (Int32.ofNat i)) ?_
    refine q_iald (j := i) (q_ixn (by omega) (by omega)) rfl rfl ?_
    refine q_if_eq rfl (fun (hc2 : (mo i) = 0) => ?_) (fun (hc2 : ¬ ((mo i) = 0)) => ?_)
    · refine q_step 2 7 [(0, .ref 28), (1, .ref 35), (2, .int ((Int32.ofNat i) + (1 : Int32)))] [] (s_M6 37 mo fl g) u (fun big n0 => sg_fl_28 big n0 (s_M6 37 mo fl g) u (Int32.ofNat i)) ?_
      rw [q_succ]
      unfold s_fl
      rw [if_pos hc2]
      exact ih (i + 1) _ _ (by omega)
    · refine q_step 4 37 [(0, .ref 28), (1, .ref 35), (2, .int (Int32.ofNat i))] [.int (g 35 3), .int (Int32.ofNat i), .ref 28] (s_M6 37 mo fl g) u (fun big n0 => sg_fl_29 big n0 (s_M6 37 mo fl g) u (Int32.ofNat i)) ?_
      have hb : q_BS 71 [.ref 28, .int (Int32.ofNat i), .int (g 35 3)] (s_M6 37 mo fl g) u (some (.int (s_nx (g 29) (g 30) i n 0 0)), (s_M6 37 mo fl g), u) := by rw [hn]; exact b_nx (s_M6 37 mo fl g) u h6 (by omega)
      refine q_call (M2 := 71) (rest := []) (hb) (fun _ _ => rfl) ?_
      refine q_step 2 44 [(0, .ref 28), (1, .ref 35), (2, .int (Int32.ofNat i))] [.int (g 35 4), .int (s_nx (g 29) (g 30) i n 0 0)] (s_M6 37 mo fl g) u (fun big n0 => sg_fl_30 big n0 (s_M6 37 mo fl g) u (Int32.ofNat i) (s_nx (g 29) (g 30) i n 0 0)) ?_
      refine q_ic_lt rfl (fun (hc3 : (s_nx (g 29) (g 30) i n 0 0) < (g 35 4)) => ?_) (fun (hc3 : ¬ ((s_nx (g 29) (g 30) i n 0 0) < (g 35 4))) => ?_)
      · refine q_step 2 7 [(0, .ref 28), (1, .ref 35), (2, .int ((Int32.ofNat i) + (1 : Int32)))] [] (s_M6 37 mo fl g) u (fun big n0 => sg_fl_28 big n0 (s_M6 37 mo fl g) u (Int32.ofNat i)) ?_
        rw [q_succ]
        unfold s_fl
        rw [if_neg hc2, if_pos hc3]
        exact ih (i + 1) _ _ (by omega)
      · refine q_step 6 57 [(0, .ref 28), (1, .ref 35), (2, .int (Int32.ofNat i))] [.int (Int32.ofNat i), .ref 37, .int (Int32.ofNat i), .ref 37] (s_M6 37 mo fl g) u (fun big n0 => sg_fl_31 big n0 (s_M6 37 mo fl g) u (Int32.ofNat i)) ?_
        refine q_iald (j := i) (q_ixn (by omega) (by omega)) rfl rfl ?_
        refine q_call (M2 := 72) (rest := [.int (Int32.ofNat i), .ref 37]) (b_flipOf _ _ _) (fun _ _ => rfl) ?_
        refine q_iast (j := i) (q_ixn (by omega) (by omega)) rfl rfl ?_
        refine q_step 10 7 [(0, .ref 28), (1, .ref 35), (2, .int ((Int32.ofNat i) + (1 : Int32)))] [] (q_up (q_up (s_M6 37 mo fl g) 37 i (s_fo (mo i))) 28 6 (((s_M6 37 mo fl g) 28 6) ||| ((1 : Int32) <<< ((Int32.ofNat i) &&& 31)))) u (fun big n0 => sg_fl_32 big n0 (q_up (s_M6 37 mo fl g) 37 i (s_fo (mo i))) u (Int32.ofNat i)) ?_
        rw [q_succ, s_M6_m, s_M6_f (by decide)]
        unfold s_fl
        rw [if_neg hc2, if_neg hc3]
        exact ih (i + 1) _ _ (by omega)
theorem b_flip35 (g : qM) (u : qW) {n : Nat} (hn : g 35 3 = Int32.ofNat n) (h6 : n ≤ 6) : q_BS 70 [.ref 28, .ref 35] g u (none, s_flip 35 n g, u) := by
  refine q_bx (mm := m_70) rfl (Nat.le_of_ble_eq_true rfl) rfl ?_
  refine q_step 5 7 [(0, .ref 28), (1, .ref 35), (2, .int (0 : Int32))] [] (q_up g 28 6 (0 : Int32)) u (fun big n0 => sg_fl_33 big n0 g u) ?_
  by_cases hpr : g 35 4 ≤ 0
  · by_cases h0 : n = 0
    · refine q_step 3 12 [(0, .ref 28), (1, .ref 35), (2, .int (0 : Int32))] [.int (g 35 3), .int (0 : Int32)] (q_up g 28 6 (0 : Int32)) u (fun big n0 => sg_fl_34 big n0 (q_up g 28 6 (0 : Int32)) u) ?_
      refine q_ic_ge rfl (fun (hc0 : (g 35 3) ≤ (0 : Int32)) => ?_) (fun hc0 => absurd (show (g 35 3) ≤ (0 : Int32) from by rw [hn, h0]; decide) hc0)
      refine q_ret 1 (none, (q_up g 28 6 (0 : Int32)), u) (fun _ _ => rfl) ?_
      unfold s_flip
      rw [if_pos hpr, if_pos hpr, s_M6_0 (T := 37) (by decide)]
    · refine q_step 3 12 [(0, .ref 28), (1, .ref 35), (2, .int (0 : Int32))] [.int (g 35 3), .int (0 : Int32)] (q_up g 28 6 (0 : Int32)) u (fun big n0 => sg_fl_34 big n0 (q_up g 28 6 (0 : Int32)) u) ?_
      refine q_ic_ge rfl (fun hc0 => absurd (show (g 35 3) ≤ (0 : Int32) from hc0) (fun z => by rw [hn] at z; have z2 := (q_le (i := n) (j := 0) (by omega) (by omega)).mp z; omega)) (fun (hc0 : ¬ ((g 35 3) ≤ (0 : Int32))) => ?_)
      refine q_step 2 19 [(0, .ref 28), (1, .ref 35), (2, .int (0 : Int32))] [.int (g 35 4)] (q_up g 28 6 (0 : Int32)) u (fun big n0 => sg_fl_35 big n0 (q_up g 28 6 (0 : Int32)) u) ?_
      refine q_if_le rfl (fun (hc1 : (g 35 4) ≤ 0) => ?_) (fun hc1 => absurd (show (g 35 4) ≤ 0 from hpr) hc1)
      refine q_ret 1 (none, (q_up g 28 6 (0 : Int32)), u) (fun _ _ => rfl) ?_
      unfold s_flip
      rw [if_pos hpr, if_pos hpr, s_M6_0 (T := 37) (by decide)]
  · have e := fl_35 g u hn h6 hpr n 0 (g 37) 0 (by omega)
    unfold s_flip
    rw [if_neg hpr, if_neg hpr, s_M6_0 (T := 37) (by decide)]
    exact e
end
section
/-! A STEP of the class. -/
theorem s_way_5 (e s : Int32) : s_way e s = 0 ∨ s_way e s = 1 ∨ s_way e s = 2 ∨ s_way e s = 3 ∨ s_way e s = 4 := by
  have h2 : s_way2 s = 0 ∨ s_way2 s = 1 ∨ s_way2 s = 2 ∨ s_way2 s = 3 ∨ s_way2 s = 4 := by
    unfold s_way2
    split
    · exact Or.inr (Or.inr (Or.inr (Or.inr rfl)))
    · split
      · exact Or.inl rfl
      · exact Or.inr (Or.inr (Or.inl rfl))
  unfold s_way
  split
  · exact h2
  · split
    · exact h2
    · split
      · exact Or.inr (Or.inr (Or.inr (Or.inl rfl)))
      · exact Or.inr (Or.inl rfl)
theorem s_wf_5 (st : Nat → Int32) (H : qM) (p : Nat) : s_wf st H p = 0 ∨ s_wf st H p = 1 ∨ s_wf st H p = 2 ∨ s_wf st H p = 3 ∨ s_wf st H p = 4 := by
  unfold s_wf
  split
  · exact s_way_5 _ _
  · exact Or.inr (Or.inr (Or.inr (Or.inr rfl)))
def s_wg (T n : Nat) (g : qM) : qM := s_weigh (g T 0) (g (T + 1)) (g (T + 2)) (g (T + 3)) (g (T + 5)) n g
def s_step (T n : Nat) (g : qM) : qM := q_up (s_flip T n (s_move T n (s_wg T n g))) T 5 (g T 5 + 1)
theorem sg_st_1 (big : Nat → List Value → qM → qW → qR) (n0 : Nat) (G : qM) (U : qW) : qm_run pm_m big m_77 (n0 + 2) 0 [(0, .ref 28)] [] G U = qm_run pm_m big m_77 n0 4 [(0, .ref 28)] [.int (G 28 5)] G U := rfl
theorem sg_st_2 (big : Nat → List Value → qM → qW → qR) (n0 : Nat) (G : qM) (U : qW) : qm_run pm_m big m_77 (n0 + 2) 7 [(0, .ref 28)] [] G U = qm_run pm_m big m_77 n0 11 [(0, .ref 28)] [.int (G 28 6)] G U := rfl
theorem sg_st_3 (big : Nat → List Value → qM → qW → qR) (n0 : Nat) (G : qM) (U : qW) : qm_run pm_m big m_68 (n0 + 2) 0 [(0, .ref 28), (1, .ref 20)] [] G U = qm_run pm_m big m_68 n0 2 [(0, .ref 28), (1, .ref 20)] [.ref 20, .ref 28] G U := rfl
theorem sg_st_4 (big : Nat → List Value → qM → qW → qR) (n0 : Nat) (G : qM) (U : qW) : qm_run pm_m big m_68 (n0 + 2) 5 [(0, .ref 28), (1, .ref 20)] [] G U = qm_run pm_m big m_68 n0 7 [(0, .ref 28), (1, .ref 20)] [.ref 20, .ref 28] G U := rfl
theorem sg_st_5 (big : Nat → List Value → qM → qW → qR) (n0 : Nat) (G : qM) (U : qW) : qm_run pm_m big m_68 (n0 + 2) 10 [(0, .ref 28), (1, .ref 20)] [] G U = qm_run pm_m big m_68 n0 12 [(0, .ref 28), (1, .ref 20)] [.ref 20, .ref 28] G U := rfl
theorem sg_st_6 (big : Nat → List Value → qM → qW → qR) (n0 : Nat) (G : qM) (U : qW) : qm_run pm_m big m_68 (n0 + 2) 0 [(0, .ref 28), (1, .ref 35)] [] G U = qm_run pm_m big m_68 n0 2 [(0, .ref 28), (1, .ref 35)] [.ref 35, .ref 28] G U := rfl
theorem sg_st_7 (big : Nat → List Value → qM → qW → qR) (n0 : Nat) (G : qM) (U : qW) : qm_run pm_m big m_68 (n0 + 2) 5 [(0, .ref 28), (1, .ref 35)] [] G U = qm_run pm_m big m_68 n0 7 [(0, .ref 28), (1, .ref 35)] [.ref 35, .ref 28] G U := rfl
theorem sg_st_8 (big : Nat → List Value → qM → qW → qR) (n0 : Nat) (G : qM) (U : qW) : qm_run pm_m big m_68 (n0 + 2) 10 [(0, .ref 28), (1, .ref 35)] [] G U = qm_run pm_m big m_68 n0 12 [(0, .ref 28), (1, .ref 35)] [.ref 35, .ref 28] G U := rfl
theorem b_changed (g : qM) (u : qW) : q_BS 77 [.ref 28] g u (some (.int (if g 28 5 = 0 then (if g 28 6 = 0 then 1 else 0) else 0)), g, u) := by
  refine q_bx (mm := m_77) rfl (Nat.le_of_ble_eq_true rfl) rfl ?_
  refine q_step 2 4 [(0, .ref 28)] [.int (g 28 5)] g u (fun big n0 => sg_st_1 big n0 g u) ?_
  refine q_if_ne rfl (fun (hc0 : (g 28 5) = 0) => ?_) (fun (hc0 : ¬ ((g 28 5) = 0)) => ?_)
  · refine q_step 2 11 [(0, .ref 28)] [.int (g 28 6)] g u (fun big n0 => sg_st_2 big n0 g u) ?_
    refine q_if_ne rfl (fun (hc1 : (g 28 6) = 0) => ?_) (fun (hc1 : ¬ ((g 28 6) = 0)) => ?_)
    · refine q_ret 3 (some (.int (1 : Int32)), g, u) (fun _ _ => rfl) ?_
      rw [if_pos hc0, if_pos hc1]
    · refine q_ret 2 (some (.int (0 : Int32)), g, u) (fun _ _ => rfl) ?_
      rw [if_pos hc0, if_neg hc1]
  · refine q_ret 2 (some (.int (0 : Int32)), g, u) (fun _ _ => rfl) ?_
    rw [if_neg hc0]
theorem b_step20 (g : qM) (u : qW) {n : Nat} (hn : g 20 3 = Int32.ofNat n) (h6 : n ≤ 6) (hw : ¬ g 20 0 ≤ 0) (hf : ∀ p q, p < n → q < n → 0 ≤ (s_far (g 20 0) (g 21 p) (g 21 q)).toInt) : q_BS 68 [.ref 28, .ref 20] g u (none, s_step 20 n g, u) := by
  refine q_bx (mm := m_68) rfl (Nat.le_of_ble_eq_true rfl) rfl ?_
  refine q_step 2 2 [(0, .ref 28), (1, .ref 20)] [.ref 20, .ref 28] g u (fun big n0 => sg_st_3 big n0 g u) ?_
  refine q_call (M2 := 58) (rest := []) (b_weigh20 g u hn h6 hw hf) (fun _ _ => rfl) ?_
  refine q_step 2 7 [(0, .ref 28), (1, .ref 20)] [.ref 20, .ref 28] (s_wg 20 n g) u (fun big n0 => sg_st_4 big n0 (s_wg 20 n g) u) ?_
  refine q_call (M2 := 69) (rest := []) (b_move20 (s_wg 20 n g) u hn h6 (fun p hp => by rw [show (s_wg 20 n g) 33 p = s_wf (g 23) (s_H (g 20 0) (g 21) (g 22) (g 25) n g) p from if_pos hp]; exact s_wf_5 _ _ _)) (fun _ _ => rfl) ?_
  refine q_step 2 12 [(0, .ref 28), (1, .ref 20)] [.ref 20, .ref 28] (s_move 20 n (s_wg 20 n g)) u (fun big n0 => sg_st_5 big n0 (s_move 20 n (s_wg 20 n g)) u) ?_
  refine q_call (M2 := 70) (rest := []) (b_flip20 (s_move 20 n (s_wg 20 n g)) u hn h6) (fun _ _ => rfl) ?_
  refine q_ret 7 (none, (q_up (s_flip 20 n (s_move 20 n (s_wg 20 n g))) 20 5 ((g 20 5) + (1 : Int32))), u) (fun _ _ => rfl) ?_
  rfl
theorem b_step35 (g : qM) (u : qW) {n : Nat} (hn : g 35 3 = Int32.ofNat n) (h6 : n ≤ 6) (hw : ¬ g 35 0 ≤ 0) (hf : ∀ p q, p < n → q < n → 0 ≤ (s_far (g 35 0) (g 36 p) (g 36 q)).toInt) : q_BS 68 [.ref 28, .ref 35] g u (none, s_step 35 n g, u) := by
  refine q_bx (mm := m_68) rfl (Nat.le_of_ble_eq_true rfl) rfl ?_
  refine q_step 2 2 [(0, .ref 28), (1, .ref 35)] [.ref 35, .ref 28] g u (fun big n0 => sg_st_6 big n0 g u) ?_
  refine q_call (M2 := 58) (rest := []) (b_weigh35 g u hn h6 hw hf) (fun _ _ => rfl) ?_
  refine q_step 2 7 [(0, .ref 28), (1, .ref 35)] [.ref 35, .ref 28] (s_wg 35 n g) u (fun big n0 => sg_st_7 big n0 (s_wg 35 n g) u) ?_
  refine q_call (M2 := 69) (rest := []) (b_move35 (s_wg 35 n g) u hn h6 (fun p hp => by rw [show (s_wg 35 n g) 33 p = s_wf (g 38) (s_H (g 35 0) (g 36) (g 37) (g 40) n g) p from if_pos hp]; exact s_wf_5 _ _ _)) (fun _ _ => rfl) ?_
  refine q_step 2 12 [(0, .ref 28), (1, .ref 35)] [.ref 35, .ref 28] (s_move 35 n (s_wg 35 n g)) u (fun big n0 => sg_st_8 big n0 (s_move 35 n (s_wg 35 n g)) u) ?_
  refine q_call (M2 := 70) (rest := []) (b_flip35 (s_move 35 n (s_wg 35 n g)) u hn h6) (fun _ _ => rfl) ?_
  refine q_ret 7 (none, (q_up (s_flip 35 n (s_move 35 n (s_wg 35 n g))) 35 5 ((g 35 5) + (1 : Int32))), u) (fun _ _ => rfl) ?_
  rfl
end
section
/-! THE REFERENCE's forces. -/
theorem s_cmpl {x y : Int64} : lg_cmp x y < 0 ↔ x < y := by
  unfold lg_cmp
  constructor
  · intro h
    split at h
    · exact absurd h (by decide)
    · split at h
      · exact absurd h (by decide)
      · rename_i h1 h2
        have h1 : ¬ y < x := h1
        rw [Int64.lt_iff_toInt_lt] at h1 ⊢
        have h3 : x.toInt ≠ y.toInt := fun z => h2 (Int64.toInt_inj.mp z)
        omega
  · intro h
    have h1 : ¬ x > y := fun z => by
      have z : y < x := z
      rw [Int64.lt_iff_toInt_lt] at h z
      omega
    have h2 : ¬ x = y := fun z => by
      rw [z, Int64.lt_iff_toInt_lt] at h
      omega
    rw [if_neg h1, if_neg h2]
    decide
theorem s_cmpg {x y : Int64} : 0 < lg_cmp x y ↔ y < x := by
  unfold lg_cmp
  constructor
  · intro h
    split at h
    · rename_i h1
      exact h1
    · split at h
      · exact absurd h (by decide)
      · exact absurd h (by decide)
  · intro h
    rw [if_pos (show x > y from h)]
    decide
theorem s_in_iff {v lo hi : Int64} : ¬ s_in v lo hi = 0 ↔ lo.toInt ≤ v.toInt ∧ v.toInt ≤ hi.toInt := by
  unfold s_in
  simp only [s_cmpl, s_cmpg, Int64.lt_iff_toInt_lt]
  constructor
  · intro h
    split at h
    · exact absurd rfl h
    · split at h
      · exact absurd rfl h
      · omega
  · intro h
    rw [if_neg (by omega), if_neg (by omega)]
    decide
theorem s_in_01 (v lo hi : Int64) : s_in v lo hi = 0 ∨ s_in v lo hi = 1 := by
  unfold s_in
  split
  · exact Or.inl rfl
  · split
    · exact Or.inl rfl
    · exact Or.inr rfl
theorem s_in_i {x : Int32} {lo hi : Int64} : ¬ s_in x.toInt64 lo hi = 0 ↔ lo.toInt ≤ x.toInt ∧ x.toInt ≤ hi.toInt := by
  rw [s_in_iff, Int32.toInt_toInt64]
theorem s_add {x y : Int32} (h1 : -2147483648 ≤ x.toInt + y.toInt) (h2 : x.toInt + y.toInt ≤ 2147483647) : (x + y).toInt = x.toInt + y.toInt := by
  rw [Int32.toInt_add]
  exact Int.bmod_eq_of_le (by omega) (by omega)
theorem s_sub {x y : Int32} (h1 : -2147483648 ≤ x.toInt - y.toInt) (h2 : x.toInt - y.toInt ≤ 2147483647) : (x - y).toInt = x.toInt - y.toInt := by
  rw [Int32.toInt_sub]
  exact Int.bmod_eq_of_le (by omega) (by omega)
theorem s_pli {d : Int32} (h1 : 1 ≤ d.toInt) (h2 : d.toInt ≤ 4) : ((21 : Int32) + d - 1).toInt = 20 + d.toInt := by
  have e1 : (21 : Int32).toInt = 21 := rfl
  have e2 : (1 : Int32).toInt = 1 := rfl
  have e3 : ((21 : Int32) + d).toInt = 21 + d.toInt := by rw [s_add (by omega) (by omega), e1]
  rw [s_sub (by omega) (by omega), e3, e2]
  omega
/-- what q adds to the force on p, as the reference has it; pl: the row of pulls, place 20 + how far -/
def s_rt (w : Int32) (c mo pl : Nat → Int32) (so : Int32) (p q : Nat) : Int32 := if q = p then 0 else if mo p = 0 then 0 else if mo q = 0 then 0 else if s_in (s_far w (c q) (c p)).toInt64 1 4 = 0 then 0 else pl ((21 : Int32) + s_far w (c q) (c p) - 1).toInt.toNat * (if mo q = mo p then -(if so = 0 then s_sgn (s_col w (c q) - s_col w (c p)) else s_sgn (s_row w (c q) - s_row w (c p))) else (if so = 0 then s_sgn (s_col w (c q) - s_col w (c p)) else s_sgn (s_row w (c q) - s_row w (c p))))
abbrev i_none : Int32 := Int8.toInt32 (Int8.ofInt (-4))
/-- the last of those in the cell x -/
def s_wl (c : Nat → Int32) (x : Int32) : Nat → Nat → Int32 → Int32
  | 0, _, f => f
  | k + 1, i, f => s_wl c x k (i + 1) (if c i = x then Int32.ofNat i else f)
def s_to (w h x way : Int32) : Int32 := if way = 0 then (if x < w then i_none else x - w) else if way = 1 then (if w ≤ s_col w x + 1 then i_none else x + 1) else if way = 2 then (if w * h ≤ x + w then i_none else x + w) else if way = 3 then (if s_col w x ≤ 0 then i_none else x - 1) else i_none
def s_op (wl x : Int32) : Int32 := if x = i_none then 0 else if s_bit wl x = 0 then 1 else 0
def s_fd (x : Int32) : Int32 := if x = 0 then 0 else x - x / 3 * 3 + 1
def s_rf (w : Int32) (c mo pl : Nat → Int32) (n : Nat) (so : Int32) (p : Nat) : Int32 := 0 + s_sf (s_rt w c mo pl so p) n 0
def s_rway2 (s : Int32) : Int32 := if s ≤ 0 then (if 0 ≤ s then 4 else 0) else 2
def s_rway (e s : Int32) : Int32 := if e = 0 then s_rway2 s else if s_abs e < s_abs s then s_rway2 s else if e ≤ 0 then 3 else 1
def s_rw (w : Int32) (c mo st pl : Nat → Int32) (n p : Nat) : Int32 := s_rway (if st p = 1 then 0 else s_rf w c mo pl n 0 p) (if st p = 1 then 0 else s_rf w c mo pl n 1 p)
theorem sg_rf_1 (big : Nat → List Value → qM → qW → qR) (n0 : Nat) (G : qM) (U : qW) (v0 : Int32) (v1 : Int32) : qm_run pm_m big m_185 (n0 + 3) 0 [(0, .ref 70), (1, .int v0), (2, .int v1)] [] G U = qm_run pm_m big m_185 n0 5 [(0, .ref 70), (1, .int v0), (2, .int v1)] [.int v0, .ref 75] G U := rfl
theorem sg_rf_2 (big : Nat → List Value → qM → qW → qR) (n0 : Nat) (G : qM) (U : qW) (v0 : Int32) (v1 : Int32) (v2 : Int32) : qm_run pm_m big m_185 (n0 + 2) 6 [(0, .ref 70), (1, .int v0), (2, .int v1)] [.int v2] G U = qm_run pm_m big m_185 n0 10 [(0, .ref 70), (1, .int v0), (2, .int v1)] [.int (G 70 2), .int v2] G U := rfl
theorem sg_rf_3 (big : Nat → List Value → qM → qW → qR) (n0 : Nat) (G : qM) (U : qW) (v0 : Int32) (v1 : Int32) (v2 : Int32) : qm_run pm_m big m_185 (n0 + 3) 11 [(0, .ref 70), (1, .int v0), (2, .int v1)] [.int v2] G U = qm_run pm_m big m_185 n0 16 [(0, .ref 70), (1, .int v0), (2, .int v1)] [.int v1, .ref 75, .int v2] G U := rfl
theorem sg_rf_4 (big : Nat → List Value → qM → qW → qR) (n0 : Nat) (G : qM) (U : qW) (v0 : Int32) (v1 : Int32) (v2 : Int32) (v3 : Int32) : qm_run pm_m big m_185 (n0 + 2) 17 [(0, .ref 70), (1, .int v0), (2, .int v1)] [.int v3, .int v2] G U = qm_run pm_m big m_185 n0 21 [(0, .ref 70), (1, .int v0), (2, .int v1)] [.int (G 70 2), .int v3, .int v2] G U := rfl
theorem sg_rf_5 (big : Nat → List Value → qM → qW → qR) (n0 : Nat) (G : qM) (U : qW) (v0 : Int32) (v1 : Int32) (v2 : Int32) (v3 : Int32) : qm_run pm_m big m_185 (n0 + 1) 22 [(0, .ref 70), (1, .int v0), (2, .int v1)] [.int v3, .int v2] G U = qm_run pm_m big m_185 n0 23 [(0, .ref 70), (1, .int v0), (2, .int v1)] [.int (v2 - v3)] G U := rfl
theorem sg_rf_6 (big : Nat → List Value → qM → qW → qR) (n0 : Nat) (G : qM) (U : qW) (v0 : Int32) (v1 : Int32) (v2 : Int32) : qm_run pm_m big m_185 (n0 + 3) 26 [(0, .ref 70), (1, .int v0), (2, .int v1)] [.int v2] G U = qm_run pm_m big m_185 n0 31 [(0, .ref 70), (1, .int v0), (2, .int v1)] [.int v0, .ref 75, .int v2] G U := rfl
theorem sg_rf_7 (big : Nat → List Value → qM → qW → qR) (n0 : Nat) (G : qM) (U : qW) (v0 : Int32) (v1 : Int32) (v2 : Int32) (v3 : Int32) : qm_run pm_m big m_185 (n0 + 2) 32 [(0, .ref 70), (1, .int v0), (2, .int v1)] [.int v3, .int v2] G U = qm_run pm_m big m_185 n0 36 [(0, .ref 70), (1, .int v0), (2, .int v1)] [.int (G 70 2), .int v3, .int v2] G U := rfl
theorem sg_rf_8 (big : Nat → List Value → qM → qW → qR) (n0 : Nat) (G : qM) (U : qW) (v0 : Int32) (v1 : Int32) (v2 : Int32) (v3 : Int32) : qm_run pm_m big m_185 (n0 + 3) 37 [(0, .ref 70), (1, .int v0), (2, .int v1)] [.int v3, .int v2] G U = qm_run pm_m big m_185 n0 42 [(0, .ref 70), (1, .int v0), (2, .int v1)] [.int v1, .ref 75, .int v3, .int v2] G U := rfl
theorem sg_rf_9 (big : Nat → List Value → qM → qW → qR) (n0 : Nat) (G : qM) (U : qW) (v0 : Int32) (v1 : Int32) (v2 : Int32) (v3 : Int32) (v4 : Int32) : qm_run pm_m big m_185 (n0 + 2) 43 [(0, .ref 70), (1, .int v0), (2, .int v1)] [.int v4, .int v3, .int v2] G U = qm_run pm_m big m_185 n0 47 [(0, .ref 70), (1, .int v0), (2, .int v1)] [.int (G 70 2), .int v4, .int v3, .int v2] G U := rfl
theorem sg_rf_10 (big : Nat → List Value → qM → qW → qR) (n0 : Nat) (G : qM) (U : qW) (v0 : Int32) (v1 : Int32) (v2 : Int32) (v3 : Int32) (v4 : Int32) : qm_run pm_m big m_185 (n0 + 1) 48 [(0, .ref 70), (1, .int v0), (2, .int v1)] [.int v4, .int v3, .int v2] G U = qm_run pm_m big m_185 n0 49 [(0, .ref 70), (1, .int v0), (2, .int v1)] [.int (v3 - v4), .int v2] G U := rfl
theorem sg_rf_11 (big : Nat → List Value → qM → qW → qR) (n0 : Nat) (G : qM) (U : qW) (v0 : Int32) (v1 : Int32) (v2 : Int32) : qm_run pm_m big m_173 (n0 + 3) 5 [(0, .ref 70), (1, .int v0), (2, .int v1), (3, .int v2)] [] G U = qm_run pm_m big m_173 n0 10 [(0, .ref 70), (1, .int v0), (2, .int v1), (3, .int v2)] [.int (G 70 27), .int v2] G U := rfl
theorem sg_rf_12 (big : Nat → List Value → qM → qW → qR) (n0 : Nat) (G : qM) (U : qW) (v0 : Int32) (v1 : Int32) (v2 : Int32) : qm_run pm_m big m_173 (n0 + 3) 13 [(0, .ref 70), (1, .int v0), (2, .int v1), (3, .int v2)] [] G U = qm_run pm_m big m_173 n0 18 [(0, .ref 70), (1, .int v0), (2, .int v1), (3, .int v2)] [.int v2, .ref 75] G U := rfl
theorem sg_rf_13 (big : Nat → List Value → qM → qW → qR) (n0 : Nat) (G : qM) (U : qW) (v0 : Int32) (v1 : Int32) (v2 : Int32) (v3 : Int32) : qm_run pm_m big m_173 (n0 + 1) 19 [(0, .ref 70), (1, .int v0), (2, .int v1), (3, .int v2)] [.int v3] G U = qm_run pm_m big m_173 n0 20 [(0, .ref 70), (1, .int v0), (2, .int v1), (3, .int v2)] [.int v0, .int v3] G U := rfl
theorem sg_rf_14 (big : Nat → List Value → qM → qW → qR) (n0 : Nat) (G : qM) (U : qW) (v0 : Int32) (v1 : Int32) (v2 : Int32) : qm_run pm_m big m_173 (n0 + 5) 23 [(0, .ref 70), (1, .int v0), (2, .int v1), (3, .int v2)] [] G U = qm_run pm_m big m_173 n0 5 [(0, .ref 70), (1, .int v0), (2, .int v2), (3, .int (v2 + (1 : Int32)))] [] G U := rfl
theorem sg_rf_15 (big : Nat → List Value → qM → qW → qR) (n0 : Nat) (G : qM) (U : qW) (v0 : Int32) (v1 : Int32) (v2 : Int32) : qm_run pm_m big m_173 (n0 + 4) 27 [(0, .ref 70), (1, .int v0), (2, .int v1), (3, .int v2)] [] G U = qm_run pm_m big m_173 n0 5 [(0, .ref 70), (1, .int v0), (2, .int v1), (3, .int (v2 + (1 : Int32)))] [] G U := rfl
theorem sg_rf_16 (big : Nat → List Value → qM → qW → qR) (n0 : Nat) (G : qM) (U : qW) (v0 : Int32) : qm_run pm_m big m_173 (n0 + 4) 0 [(0, .ref 70), (1, .int v0)] [] G U = qm_run pm_m big m_173 n0 5 [(0, .ref 70), (1, .int v0), (2, .int (Int8.toInt32 (Int8.ofInt (-4)))), (3, .int (0 : Int32))] [] G U := rfl
theorem sg_rf_17 (big : Nat → List Value → qM → qW → qR) (n0 : Nat) (G : qM) (U : qW) (v0 : Int32) : qm_run pm_m big m_192 (n0 + 5) 0 [(0, .ref 70), (1, .int v0), (2, .int (0 : Int32))] [] G U = qm_run pm_m big m_192 n0 37 [(0, .ref 70), (1, .int v0), (2, .int (0 : Int32))] [.int (G 70 2), .int v0] G U := rfl
theorem sg_rf_18 (big : Nat → List Value → qM → qW → qR) (n0 : Nat) (G : qM) (U : qW) (v0 : Int32) : qm_run pm_m big m_192 (n0 + 5) 0 [(0, .ref 70), (1, .int v0), (2, .int (1 : Int32))] [] G U = qm_run pm_m big m_192 n0 57 [(0, .ref 70), (1, .int v0), (2, .int (1 : Int32))] [.int (G 70 2), .int v0] G U := rfl
theorem sg_rf_19 (big : Nat → List Value → qM → qW → qR) (n0 : Nat) (G : qM) (U : qW) (v0 : Int32) (v1 : Int32) : qm_run pm_m big m_192 (n0 + 4) 58 [(0, .ref 70), (1, .int v0), (2, .int (1 : Int32))] [.int v1] G U = qm_run pm_m big m_192 n0 64 [(0, .ref 70), (1, .int v0), (2, .int (1 : Int32))] [.int (G 70 2), .int (v1 + (1 : Int32))] G U := rfl
theorem sg_rf_20 (big : Nat → List Value → qM → qW → qR) (n0 : Nat) (G : qM) (U : qW) (v0 : Int32) : qm_run pm_m big m_192 (n0 + 11) 0 [(0, .ref 70), (1, .int v0), (2, .int (2 : Int32))] [] G U = qm_run pm_m big m_192 n0 91 [(0, .ref 70), (1, .int v0), (2, .int (2 : Int32))] [.int ((G 70 2) * (G 70 3)), .int (v0 + (G 70 2))] G U := rfl
theorem sg_rf_21 (big : Nat → List Value → qM → qW → qR) (n0 : Nat) (G : qM) (U : qW) (v0 : Int32) : qm_run pm_m big m_192 (n0 + 5) 0 [(0, .ref 70), (1, .int v0), (2, .int (3 : Int32))] [] G U = qm_run pm_m big m_192 n0 111 [(0, .ref 70), (1, .int v0), (2, .int (3 : Int32))] [.int (G 70 2), .int v0] G U := rfl
theorem sg_rf_22 (big : Nat → List Value → qM → qW → qR) (n0 : Nat) (G : qM) (U : qW) (v0 : Int32) : qm_run pm_m big m_177 (n0 + 2) 0 [(0, .ref 70), (1, .int v0)] [] G U = qm_run pm_m big m_177 n0 3 [(0, .ref 70), (1, .int v0)] [.int (Int8.toInt32 (Int8.ofInt (-4))), .int v0] G U := rfl
theorem sg_rf_23 (big : Nat → List Value → qM → qW → qR) (n0 : Nat) (G : qM) (U : qW) (v0 : Int32) : qm_run pm_m big m_177 (n0 + 8) 6 [(0, .ref 70), (1, .int v0)] [] G U = qm_run pm_m big m_177 n0 17 [(0, .ref 70), (1, .int v0)] [.int (((G 71 20) >>> (v0 &&& 31)) &&& (1 : Int32))] G U := rfl
theorem sg_rf_24 (big : Nat → List Value → qM → qW → qR) (n0 : Nat) (G : qM) (U : qW) (v0 : Int32) : qm_run pm_m big m_194 (n0 + 1) 0 [(0, .int v0)] [] G U = qm_run pm_m big m_194 n0 1 [(0, .int v0)] [.int v0] G U := rfl
theorem sg_rf_25 (big : Nat → List Value → qM → qW → qR) (n0 : Nat) (G : qM) (U : qW) (v0 : Int32) (v1 : Int32) (v2 : Int32) : qm_run pm_m big m_184 (n0 + 3) 5 [(0, .ref 70), (1, .int v0), (2, .int (0 : Int32)), (3, .int v1), (4, .int v2)] [] G U = qm_run pm_m big m_184 n0 11 [(0, .ref 70), (1, .int v0), (2, .int (0 : Int32)), (3, .int v1), (4, .int v2)] [.int (G 70 27), .int v2] G U := rfl
theorem sg_rf_26 (big : Nat → List Value → qM → qW → qR) (n0 : Nat) (G : qM) (U : qW) (v0 : Int32) (v1 : Int32) (v2 : Int32) : qm_run pm_m big m_184 (n0 + 2) 14 [(0, .ref 70), (1, .int v0), (2, .int (0 : Int32)), (3, .int v1), (4, .int v2)] [] G U = qm_run pm_m big m_184 n0 17 [(0, .ref 70), (1, .int v0), (2, .int (0 : Int32)), (3, .int v1), (4, .int v2)] [.int v0, .int v2] G U := rfl
theorem sg_rf_27 (big : Nat → List Value → qM → qW → qR) (n0 : Nat) (G : qM) (U : qW) (v0 : Int32) (v1 : Int32) (v2 : Int32) : qm_run pm_m big m_184 (n0 + 7) 39 [(0, .ref 70), (1, .int v0), (2, .int (0 : Int32)), (3, .int v1), (4, .int v2)] [] G U = qm_run pm_m big m_184 n0 59 [(0, .ref 70), (1, .int v0), (2, .int (0 : Int32)), (3, .int v1), (4, .int v2), (5, .int (0 : Int32))] [.long (4 : Int64), .long (1 : Int64), .long (0 : Int64)] G U := rfl
theorem sg_rf_28 (big : Nat → List Value → qM → qW → qR) (n0 : Nat) (G : qM) (U : qW) (v0 : Int32) (v1 : Int32) (v2 : Int32) : qm_run pm_m big m_184 (n0 + 3) 62 [(0, .ref 70), (1, .int v0), (2, .int (0 : Int32)), (3, .int v1), (4, .int v2), (5, .int (0 : Int32))] [.int (0 : Int32)] G U = qm_run pm_m big m_184 n0 5 [(0, .ref 70), (1, .int v0), (2, .int (0 : Int32)), (3, .int v1), (4, .int (v2 + (1 : Int32))), (5, .int (0 : Int32))] [] G U := rfl
theorem sg_rf_29 (big : Nat → List Value → qM → qW → qR) (n0 : Nat) (G : qM) (U : qW) (v0 : Int32) (v1 : Int32) (v2 : Int32) : qm_run pm_m big m_184 (n0 + 3) 20 [(0, .ref 70), (1, .int v0), (2, .int (0 : Int32)), (3, .int v1), (4, .int v2)] [] G U = qm_run pm_m big m_184 n0 25 [(0, .ref 70), (1, .int v0), (2, .int (0 : Int32)), (3, .int v1), (4, .int v2)] [.int v0, .ref 76] G U := rfl
theorem sg_rf_30 (big : Nat → List Value → qM → qW → qR) (n0 : Nat) (G : qM) (U : qW) (v0 : Int32) (v1 : Int32) (v2 : Int32) : qm_run pm_m big m_184 (n0 + 3) 29 [(0, .ref 70), (1, .int v0), (2, .int (0 : Int32)), (3, .int v1), (4, .int v2)] [] G U = qm_run pm_m big m_184 n0 35 [(0, .ref 70), (1, .int v0), (2, .int (0 : Int32)), (3, .int v1), (4, .int v2)] [.int v2, .ref 76] G U := rfl
theorem sg_rf_31 (big : Nat → List Value → qM → qW → qR) (n0 : Nat) (G : qM) (U : qW) (v0 : Int32) (v1 : Int32) (v2 : Int32) : qm_run pm_m big m_184 (n0 + 3) 43 [(0, .ref 70), (1, .int v0), (2, .int (0 : Int32)), (3, .int v1), (4, .int v2)] [] G U = qm_run pm_m big m_184 n0 47 [(0, .ref 70), (1, .int v0), (2, .int (0 : Int32)), (3, .int v1), (4, .int v2)] [.int v2, .int v0, .ref 70] G U := rfl
theorem sg_rf_32 (big : Nat → List Value → qM → qW → qR) (n0 : Nat) (G : qM) (U : qW) (v0 : Int32) (v1 : Int32) (v2 : Int32) (v3 : Int32) : qm_run pm_m big m_184 (n0 + 5) 50 [(0, .ref 70), (1, .int v0), (2, .int (0 : Int32)), (3, .int v1), (4, .int v2)] [.int v3] G U = qm_run pm_m big m_184 n0 59 [(0, .ref 70), (1, .int v0), (2, .int (0 : Int32)), (3, .int v1), (4, .int v2), (5, .int v3)] [.long (4 : Int64), .long (1 : Int64), .long (Int32.toInt64 v3)] G U := rfl
theorem sg_rf_33 (big : Nat → List Value → qM → qW → qR) (n0 : Nat) (G : qM) (U : qW) (v0 : Int32) (v1 : Int32) (v2 : Int32) (v3 : Int32) : qm_run pm_m big m_184 (n0 + 2) 168 [(0, .ref 70), (1, .int v0), (2, .int (0 : Int32)), (3, .int v1), (4, .int v2), (5, .int v3)] [] G U = qm_run pm_m big m_184 n0 5 [(0, .ref 70), (1, .int v0), (2, .int (0 : Int32)), (3, .int v1), (4, .int (v2 + (1 : Int32))), (5, .int v3)] [] G U := rfl
theorem sg_rf_34 (big : Nat → List Value → qM → qW → qR) (n0 : Nat) (G : qM) (U : qW) (v0 : Int32) (v1 : Int32) (v2 : Int32) (v3 : Int32) : qm_run pm_m big m_184 (n0 + 5) 65 [(0, .ref 70), (1, .int v0), (2, .int (0 : Int32)), (3, .int v1), (4, .int v2), (5, .int v3)] [] G U = qm_run pm_m big m_184 n0 105 [(0, .ref 70), (1, .int v0), (2, .int (0 : Int32)), (3, .int v1), (4, .int v2), (5, .int v3)] [.int v2, .ref 75] G U := rfl
theorem sg_rf_35 (big : Nat → List Value → qM → qW → qR) (n0 : Nat) (G : qM) (U : qW) (v0 : Int32) (v1 : Int32) (v2 : Int32) (v3 : Int32) (v4 : Int32) : qm_run pm_m big m_184 (n0 + 2) 106 [(0, .ref 70), (1, .int v0), (2, .int (0 : Int32)), (3, .int v1), (4, .int v2), (5, .int v3)] [.int v4] G U = qm_run pm_m big m_184 n0 110 [(0, .ref 70), (1, .int v0), (2, .int (0 : Int32)), (3, .int v1), (4, .int v2), (5, .int v3)] [.int (G 70 2), .int v4] G U := rfl
theorem sg_rf_36 (big : Nat → List Value → qM → qW → qR) (n0 : Nat) (G : qM) (U : qW) (v0 : Int32) (v1 : Int32) (v2 : Int32) (v3 : Int32) (v4 : Int32) : qm_run pm_m big m_184 (n0 + 3) 111 [(0, .ref 70), (1, .int v0), (2, .int (0 : Int32)), (3, .int v1), (4, .int v2), (5, .int v3)] [.int v4] G U = qm_run pm_m big m_184 n0 116 [(0, .ref 70), (1, .int v0), (2, .int (0 : Int32)), (3, .int v1), (4, .int v2), (5, .int v3)] [.int v0, .ref 75, .int v4] G U := rfl
theorem sg_rf_37 (big : Nat → List Value → qM → qW → qR) (n0 : Nat) (G : qM) (U : qW) (v0 : Int32) (v1 : Int32) (v2 : Int32) (v3 : Int32) (v4 : Int32) (v5 : Int32) : qm_run pm_m big m_184 (n0 + 2) 117 [(0, .ref 70), (1, .int v0), (2, .int (0 : Int32)), (3, .int v1), (4, .int v2), (5, .int v3)] [.int v5, .int v4] G U = qm_run pm_m big m_184 n0 121 [(0, .ref 70), (1, .int v0), (2, .int (0 : Int32)), (3, .int v1), (4, .int v2), (5, .int v3)] [.int (G 70 2), .int v5, .int v4] G U := rfl
theorem sg_rf_38 (big : Nat → List Value → qM → qW → qR) (n0 : Nat) (G : qM) (U : qW) (v0 : Int32) (v1 : Int32) (v2 : Int32) (v3 : Int32) (v4 : Int32) (v5 : Int32) : qm_run pm_m big m_184 (n0 + 1) 122 [(0, .ref 70), (1, .int v0), (2, .int (0 : Int32)), (3, .int v1), (4, .int v2), (5, .int v3)] [.int v5, .int v4] G U = qm_run pm_m big m_184 n0 123 [(0, .ref 70), (1, .int v0), (2, .int (0 : Int32)), (3, .int v1), (4, .int v2), (5, .int v3)] [.int (v4 - v5)] G U := rfl
theorem sg_rf_39 (big : Nat → List Value → qM → qW → qR) (n0 : Nat) (G : qM) (U : qW) (v0 : Int32) (v1 : Int32) (v2 : Int32) (v3 : Int32) (v4 : Int32) : qm_run pm_m big m_184 (n0 + 9) 126 [(0, .ref 70), (1, .int v0), (2, .int (0 : Int32)), (3, .int v1), (4, .int v2), (5, .int v3)] [.int v4] G U = qm_run pm_m big m_184 n0 140 [(0, .ref 70), (1, .int v0), (2, .int (0 : Int32)), (3, .int v1), (4, .int v2), (5, .int v3), (6, .int v4)] [.int (((21 : Int32) + v3) - (1 : Int32)), .ref 71, .int v1] G U := rfl
theorem sg_rf_40 (big : Nat → List Value → qM → qW → qR) (n0 : Nat) (G : qM) (U : qW) (v0 : Int32) (v1 : Int32) (v2 : Int32) (v3 : Int32) (v4 : Int32) (v5 : Int32) (v6 : Int32) : qm_run pm_m big m_184 (n0 + 3) 141 [(0, .ref 70), (1, .int v0), (2, .int (0 : Int32)), (3, .int v1), (4, .int v2), (5, .int v3), (6, .int v4)] [.int v6, .int v5] G U = qm_run pm_m big m_184 n0 147 [(0, .ref 70), (1, .int v0), (2, .int (0 : Int32)), (3, .int v1), (4, .int v2), (5, .int v3), (6, .int v4)] [.int v2, .ref 76, .int v6, .int v5] G U := rfl
theorem sg_rf_41 (big : Nat → List Value → qM → qW → qR) (n0 : Nat) (G : qM) (U : qW) (v0 : Int32) (v1 : Int32) (v2 : Int32) (v3 : Int32) (v4 : Int32) (v5 : Int32) (v6 : Int32) (v7 : Int32) : qm_run pm_m big m_184 (n0 + 3) 148 [(0, .ref 70), (1, .int v0), (2, .int (0 : Int32)), (3, .int v1), (4, .int v2), (5, .int v3), (6, .int v4)] [.int v7, .int v6, .int v5] G U = qm_run pm_m big m_184 n0 153 [(0, .ref 70), (1, .int v0), (2, .int (0 : Int32)), (3, .int v1), (4, .int v2), (5, .int v3), (6, .int v4)] [.int v0, .ref 76, .int v7, .int v6, .int v5] G U := rfl
theorem sg_rf_42 (big : Nat → List Value → qM → qW → qR) (n0 : Nat) (G : qM) (U : qW) (v0 : Int32) (v1 : Int32) (v2 : Int32) (v3 : Int32) (v4 : Int32) (v5 : Int32) (v6 : Int32) : qm_run pm_m big m_184 (n0 + 8) 157 [(0, .ref 70), (1, .int v0), (2, .int (0 : Int32)), (3, .int v1), (4, .int v2), (5, .int v3), (6, .int v4)] [.int v6, .int v5] G U = qm_run pm_m big m_184 n0 5 [(0, .ref 70), (1, .int v0), (2, .int (0 : Int32)), (3, .int (v5 + (v6 * (-v4)))), (4, .int (v2 + (1 : Int32))), (5, .int v3), (6, .int v4)] [] G U := rfl
theorem sg_rf_43 (big : Nat → List Value → qM → qW → qR) (n0 : Nat) (G : qM) (U : qW) (v0 : Int32) (v1 : Int32) (v2 : Int32) (v3 : Int32) (v4 : Int32) (v5 : Int32) (v6 : Int32) : qm_run pm_m big m_184 (n0 + 6) 163 [(0, .ref 70), (1, .int v0), (2, .int (0 : Int32)), (3, .int v1), (4, .int v2), (5, .int v3), (6, .int v4)] [.int v6, .int v5] G U = qm_run pm_m big m_184 n0 5 [(0, .ref 70), (1, .int v0), (2, .int (0 : Int32)), (3, .int (v5 + (v6 * v4))), (4, .int (v2 + (1 : Int32))), (5, .int v3), (6, .int v4)] [] G U := rfl
theorem sg_rf_44 (big : Nat → List Value → qM → qW → qR) (n0 : Nat) (G : qM) (U : qW) (v0 : Int32) : qm_run pm_m big m_184 (n0 + 4) 0 [(0, .ref 70), (1, .int v0), (2, .int (0 : Int32))] [] G U = qm_run pm_m big m_184 n0 5 [(0, .ref 70), (1, .int v0), (2, .int (0 : Int32)), (3, .int (0 : Int32)), (4, .int (0 : Int32))] [] G U := rfl
theorem sg_rf_45 (big : Nat → List Value → qM → qW → qR) (n0 : Nat) (G : qM) (U : qW) (v0 : Int32) (v1 : Int32) (v2 : Int32) : qm_run pm_m big m_184 (n0 + 3) 5 [(0, .ref 70), (1, .int v0), (2, .int (1 : Int32)), (3, .int v1), (4, .int v2)] [] G U = qm_run pm_m big m_184 n0 11 [(0, .ref 70), (1, .int v0), (2, .int (1 : Int32)), (3, .int v1), (4, .int v2)] [.int (G 70 27), .int v2] G U := rfl
theorem sg_rf_46 (big : Nat → List Value → qM → qW → qR) (n0 : Nat) (G : qM) (U : qW) (v0 : Int32) (v1 : Int32) (v2 : Int32) : qm_run pm_m big m_184 (n0 + 2) 14 [(0, .ref 70), (1, .int v0), (2, .int (1 : Int32)), (3, .int v1), (4, .int v2)] [] G U = qm_run pm_m big m_184 n0 17 [(0, .ref 70), (1, .int v0), (2, .int (1 : Int32)), (3, .int v1), (4, .int v2)] [.int v0, .int v2] G U := rfl
theorem sg_rf_47 (big : Nat → List Value → qM → qW → qR) (n0 : Nat) (G : qM) (U : qW) (v0 : Int32) (v1 : Int32) (v2 : Int32) : qm_run pm_m big m_184 (n0 + 7) 39 [(0, .ref 70), (1, .int v0), (2, .int (1 : Int32)), (3, .int v1), (4, .int v2)] [] G U = qm_run pm_m big m_184 n0 59 [(0, .ref 70), (1, .int v0), (2, .int (1 : Int32)), (3, .int v1), (4, .int v2), (5, .int (0 : Int32))] [.long (4 : Int64), .long (1 : Int64), .long (0 : Int64)] G U := rfl
theorem sg_rf_48 (big : Nat → List Value → qM → qW → qR) (n0 : Nat) (G : qM) (U : qW) (v0 : Int32) (v1 : Int32) (v2 : Int32) : qm_run pm_m big m_184 (n0 + 3) 62 [(0, .ref 70), (1, .int v0), (2, .int (1 : Int32)), (3, .int v1), (4, .int v2), (5, .int (0 : Int32))] [.int (0 : Int32)] G U = qm_run pm_m big m_184 n0 5 [(0, .ref 70), (1, .int v0), (2, .int (1 : Int32)), (3, .int v1), (4, .int (v2 + (1 : Int32))), (5, .int (0 : Int32))] [] G U := rfl
theorem sg_rf_49 (big : Nat → List Value → qM → qW → qR) (n0 : Nat) (G : qM) (U : qW) (v0 : Int32) (v1 : Int32) (v2 : Int32) : qm_run pm_m big m_184 (n0 + 3) 20 [(0, .ref 70), (1, .int v0), (2, .int (1 : Int32)), (3, .int v1), (4, .int v2)] [] G U = qm_run pm_m big m_184 n0 25 [(0, .ref 70), (1, .int v0), (2, .int (1 : Int32)), (3, .int v1), (4, .int v2)] [.int v0, .ref 76] G U := rfl
theorem sg_rf_50 (big : Nat → List Value → qM → qW → qR) (n0 : Nat) (G : qM) (U : qW) (v0 : Int32) (v1 : Int32) (v2 : Int32) : qm_run pm_m big m_184 (n0 + 3) 29 [(0, .ref 70), (1, .int v0), (2, .int (1 : Int32)), (3, .int v1), (4, .int v2)] [] G U = qm_run pm_m big m_184 n0 35 [(0, .ref 70), (1, .int v0), (2, .int (1 : Int32)), (3, .int v1), (4, .int v2)] [.int v2, .ref 76] G U := rfl
theorem sg_rf_51 (big : Nat → List Value → qM → qW → qR) (n0 : Nat) (G : qM) (U : qW) (v0 : Int32) (v1 : Int32) (v2 : Int32) : qm_run pm_m big m_184 (n0 + 3) 43 [(0, .ref 70), (1, .int v0), (2, .int (1 : Int32)), (3, .int v1), (4, .int v2)] [] G U = qm_run pm_m big m_184 n0 47 [(0, .ref 70), (1, .int v0), (2, .int (1 : Int32)), (3, .int v1), (4, .int v2)] [.int v2, .int v0, .ref 70] G U := rfl
theorem sg_rf_52 (big : Nat → List Value → qM → qW → qR) (n0 : Nat) (G : qM) (U : qW) (v0 : Int32) (v1 : Int32) (v2 : Int32) (v3 : Int32) : qm_run pm_m big m_184 (n0 + 5) 50 [(0, .ref 70), (1, .int v0), (2, .int (1 : Int32)), (3, .int v1), (4, .int v2)] [.int v3] G U = qm_run pm_m big m_184 n0 59 [(0, .ref 70), (1, .int v0), (2, .int (1 : Int32)), (3, .int v1), (4, .int v2), (5, .int v3)] [.long (4 : Int64), .long (1 : Int64), .long (Int32.toInt64 v3)] G U := rfl
theorem sg_rf_53 (big : Nat → List Value → qM → qW → qR) (n0 : Nat) (G : qM) (U : qW) (v0 : Int32) (v1 : Int32) (v2 : Int32) (v3 : Int32) : qm_run pm_m big m_184 (n0 + 2) 168 [(0, .ref 70), (1, .int v0), (2, .int (1 : Int32)), (3, .int v1), (4, .int v2), (5, .int v3)] [] G U = qm_run pm_m big m_184 n0 5 [(0, .ref 70), (1, .int v0), (2, .int (1 : Int32)), (3, .int v1), (4, .int (v2 + (1 : Int32))), (5, .int v3)] [] G U := rfl
theorem sg_rf_54 (big : Nat → List Value → qM → qW → qR) (n0 : Nat) (G : qM) (U : qW) (v0 : Int32) (v1 : Int32) (v2 : Int32) (v3 : Int32) : qm_run pm_m big m_184 (n0 + 5) 65 [(0, .ref 70), (1, .int v0), (2, .int (1 : Int32)), (3, .int v1), (4, .int v2), (5, .int v3)] [] G U = qm_run pm_m big m_184 n0 75 [(0, .ref 70), (1, .int v0), (2, .int (1 : Int32)), (3, .int v1), (4, .int v2), (5, .int v3)] [.int v2, .ref 75] G U := rfl
theorem sg_rf_55 (big : Nat → List Value → qM → qW → qR) (n0 : Nat) (G : qM) (U : qW) (v0 : Int32) (v1 : Int32) (v2 : Int32) (v3 : Int32) (v4 : Int32) : qm_run pm_m big m_184 (n0 + 2) 76 [(0, .ref 70), (1, .int v0), (2, .int (1 : Int32)), (3, .int v1), (4, .int v2), (5, .int v3)] [.int v4] G U = qm_run pm_m big m_184 n0 80 [(0, .ref 70), (1, .int v0), (2, .int (1 : Int32)), (3, .int v1), (4, .int v2), (5, .int v3)] [.int (G 70 2), .int v4] G U := rfl
theorem sg_rf_56 (big : Nat → List Value → qM → qW → qR) (n0 : Nat) (G : qM) (U : qW) (v0 : Int32) (v1 : Int32) (v2 : Int32) (v3 : Int32) (v4 : Int32) : qm_run pm_m big m_184 (n0 + 3) 81 [(0, .ref 70), (1, .int v0), (2, .int (1 : Int32)), (3, .int v1), (4, .int v2), (5, .int v3)] [.int v4] G U = qm_run pm_m big m_184 n0 86 [(0, .ref 70), (1, .int v0), (2, .int (1 : Int32)), (3, .int v1), (4, .int v2), (5, .int v3)] [.int v0, .ref 75, .int v4] G U := rfl
theorem sg_rf_57 (big : Nat → List Value → qM → qW → qR) (n0 : Nat) (G : qM) (U : qW) (v0 : Int32) (v1 : Int32) (v2 : Int32) (v3 : Int32) (v4 : Int32) (v5 : Int32) : qm_run pm_m big m_184 (n0 + 2) 87 [(0, .ref 70), (1, .int v0), (2, .int (1 : Int32)), (3, .int v1), (4, .int v2), (5, .int v3)] [.int v5, .int v4] G U = qm_run pm_m big m_184 n0 91 [(0, .ref 70), (1, .int v0), (2, .int (1 : Int32)), (3, .int v1), (4, .int v2), (5, .int v3)] [.int (G 70 2), .int v5, .int v4] G U := rfl
theorem sg_rf_58 (big : Nat → List Value → qM → qW → qR) (n0 : Nat) (G : qM) (U : qW) (v0 : Int32) (v1 : Int32) (v2 : Int32) (v3 : Int32) (v4 : Int32) (v5 : Int32) : qm_run pm_m big m_184 (n0 + 1) 92 [(0, .ref 70), (1, .int v0), (2, .int (1 : Int32)), (3, .int v1), (4, .int v2), (5, .int v3)] [.int v5, .int v4] G U = qm_run pm_m big m_184 n0 93 [(0, .ref 70), (1, .int v0), (2, .int (1 : Int32)), (3, .int v1), (4, .int v2), (5, .int v3)] [.int (v4 - v5)] G U := rfl
theorem sg_rf_59 (big : Nat → List Value → qM → qW → qR) (n0 : Nat) (G : qM) (U : qW) (v0 : Int32) (v1 : Int32) (v2 : Int32) (v3 : Int32) (v4 : Int32) : qm_run pm_m big m_184 (n0 + 10) 96 [(0, .ref 70), (1, .int v0), (2, .int (1 : Int32)), (3, .int v1), (4, .int v2), (5, .int v3)] [.int v4] G U = qm_run pm_m big m_184 n0 140 [(0, .ref 70), (1, .int v0), (2, .int (1 : Int32)), (3, .int v1), (4, .int v2), (5, .int v3), (6, .int v4)] [.int (((21 : Int32) + v3) - (1 : Int32)), .ref 71, .int v1] G U := rfl
theorem sg_rf_60 (big : Nat → List Value → qM → qW → qR) (n0 : Nat) (G : qM) (U : qW) (v0 : Int32) (v1 : Int32) (v2 : Int32) (v3 : Int32) (v4 : Int32) (v5 : Int32) (v6 : Int32) : qm_run pm_m big m_184 (n0 + 3) 141 [(0, .ref 70), (1, .int v0), (2, .int (1 : Int32)), (3, .int v1), (4, .int v2), (5, .int v3), (6, .int v4)] [.int v6, .int v5] G U = qm_run pm_m big m_184 n0 147 [(0, .ref 70), (1, .int v0), (2, .int (1 : Int32)), (3, .int v1), (4, .int v2), (5, .int v3), (6, .int v4)] [.int v2, .ref 76, .int v6, .int v5] G U := rfl
theorem sg_rf_61 (big : Nat → List Value → qM → qW → qR) (n0 : Nat) (G : qM) (U : qW) (v0 : Int32) (v1 : Int32) (v2 : Int32) (v3 : Int32) (v4 : Int32) (v5 : Int32) (v6 : Int32) (v7 : Int32) : qm_run pm_m big m_184 (n0 + 3) 148 [(0, .ref 70), (1, .int v0), (2, .int (1 : Int32)), (3, .int v1), (4, .int v2), (5, .int v3), (6, .int v4)] [.int v7, .int v6, .int v5] G U = qm_run pm_m big m_184 n0 153 [(0, .ref 70), (1, .int v0), (2, .int (1 : Int32)), (3, .int v1), (4, .int v2), (5, .int v3), (6, .int v4)] [.int v0, .ref 76, .int v7, .int v6, .int v5] G U := rfl
theorem sg_rf_62 (big : Nat → List Value → qM → qW → qR) (n0 : Nat) (G : qM) (U : qW) (v0 : Int32) (v1 : Int32) (v2 : Int32) (v3 : Int32) (v4 : Int32) (v5 : Int32) (v6 : Int32) : qm_run pm_m big m_184 (n0 + 8) 157 [(0, .ref 70), (1, .int v0), (2, .int (1 : Int32)), (3, .int v1), (4, .int v2), (5, .int v3), (6, .int v4)] [.int v6, .int v5] G U = qm_run pm_m big m_184 n0 5 [(0, .ref 70), (1, .int v0), (2, .int (1 : Int32)), (3, .int (v5 + (v6 * (-v4)))), (4, .int (v2 + (1 : Int32))), (5, .int v3), (6, .int v4)] [] G U := rfl
theorem sg_rf_63 (big : Nat → List Value → qM → qW → qR) (n0 : Nat) (G : qM) (U : qW) (v0 : Int32) (v1 : Int32) (v2 : Int32) (v3 : Int32) (v4 : Int32) (v5 : Int32) (v6 : Int32) : qm_run pm_m big m_184 (n0 + 6) 163 [(0, .ref 70), (1, .int v0), (2, .int (1 : Int32)), (3, .int v1), (4, .int v2), (5, .int v3), (6, .int v4)] [.int v6, .int v5] G U = qm_run pm_m big m_184 n0 5 [(0, .ref 70), (1, .int v0), (2, .int (1 : Int32)), (3, .int (v5 + (v6 * v4))), (4, .int (v2 + (1 : Int32))), (5, .int v3), (6, .int v4)] [] G U := rfl
theorem sg_rf_64 (big : Nat → List Value → qM → qW → qR) (n0 : Nat) (G : qM) (U : qW) (v0 : Int32) : qm_run pm_m big m_184 (n0 + 4) 0 [(0, .ref 70), (1, .int v0), (2, .int (1 : Int32))] [] G U = qm_run pm_m big m_184 n0 5 [(0, .ref 70), (1, .int v0), (2, .int (1 : Int32)), (3, .int (0 : Int32)), (4, .int (0 : Int32))] [] G U := rfl
theorem sg_rf_65 (big : Nat → List Value → qM → qW → qR) (n0 : Nat) (G : qM) (U : qW) (v0 : Int32) : qm_run pm_m big m_189 (n0 + 3) 0 [(0, .ref 70), (1, .int v0)] [] G U = qm_run pm_m big m_189 n0 5 [(0, .ref 70), (1, .int v0)] [.int v0, .ref 77] G U := rfl
theorem sg_rf_66 (big : Nat → List Value → qM → qW → qR) (n0 : Nat) (G : qM) (U : qW) (v0 : Int32) (v1 : Int32) : qm_run pm_m big m_189 (n0 + 1) 6 [(0, .ref 70), (1, .int v0)] [.int v1] G U = qm_run pm_m big m_189 n0 7 [(0, .ref 70), (1, .int v0)] [.int (1 : Int32), .int v1] G U := rfl
theorem sg_rf_67 (big : Nat → List Value → qM → qW → qR) (n0 : Nat) (G : qM) (U : qW) (v0 : Int32) : qm_run pm_m big m_189 (n0 + 6) 10 [(0, .ref 70), (1, .int v0)] [] G U = qm_run pm_m big m_189 n0 26 [(0, .ref 70), (1, .int v0), (2, .int (0 : Int32))] [.int v0, .ref 77] G U := rfl
theorem sg_rf_68 (big : Nat → List Value → qM → qW → qR) (n0 : Nat) (G : qM) (U : qW) (v0 : Int32) (v1 : Int32) : qm_run pm_m big m_189 (n0 + 1) 27 [(0, .ref 70), (1, .int v0), (2, .int (0 : Int32))] [.int v1] G U = qm_run pm_m big m_189 n0 28 [(0, .ref 70), (1, .int v0), (2, .int (0 : Int32))] [.int (1 : Int32), .int v1] G U := rfl
theorem sg_rf_69 (big : Nat → List Value → qM → qW → qR) (n0 : Nat) (G : qM) (U : qW) (v0 : Int32) : qm_run pm_m big m_189 (n0 + 3) 14 [(0, .ref 70), (1, .int v0)] [] G U = qm_run pm_m big m_189 n0 17 [(0, .ref 70), (1, .int v0)] [.int (0 : Int32), .int v0, .ref 70] G U := rfl
theorem sg_rf_70 (big : Nat → List Value → qM → qW → qR) (n0 : Nat) (G : qM) (U : qW) (v0 : Int32) (v1 : Int32) : qm_run pm_m big m_189 (n0 + 4) 20 [(0, .ref 70), (1, .int v0)] [.int v1] G U = qm_run pm_m big m_189 n0 26 [(0, .ref 70), (1, .int v0), (2, .int v1)] [.int v0, .ref 77] G U := rfl
theorem sg_rf_71 (big : Nat → List Value → qM → qW → qR) (n0 : Nat) (G : qM) (U : qW) (v0 : Int32) (v1 : Int32) (v2 : Int32) : qm_run pm_m big m_189 (n0 + 1) 27 [(0, .ref 70), (1, .int v0), (2, .int v1)] [.int v2] G U = qm_run pm_m big m_189 n0 28 [(0, .ref 70), (1, .int v0), (2, .int v1)] [.int (1 : Int32), .int v2] G U := rfl
theorem sg_rf_72 (big : Nat → List Value → qM → qW → qR) (n0 : Nat) (G : qM) (U : qW) (v0 : Int32) (v1 : Int32) : qm_run pm_m big m_189 (n0 + 3) 35 [(0, .ref 70), (1, .int v0), (2, .int v1)] [] G U = qm_run pm_m big m_189 n0 38 [(0, .ref 70), (1, .int v0), (2, .int v1)] [.int (1 : Int32), .int v0, .ref 70] G U := rfl
theorem sg_rf_73 (big : Nat → List Value → qM → qW → qR) (n0 : Nat) (G : qM) (U : qW) (v0 : Int32) (v1 : Int32) (v2 : Int32) : qm_run pm_m big m_189 (n0 + 2) 41 [(0, .ref 70), (1, .int v0), (2, .int v1)] [.int v2] G U = qm_run pm_m big m_189 n0 43 [(0, .ref 70), (1, .int v0), (2, .int v1), (3, .int v2)] [.int v1] G U := rfl
theorem sg_rf_74 (big : Nat → List Value → qM → qW → qR) (n0 : Nat) (G : qM) (U : qW) (v0 : Int32) (v1 : Int32) (v2 : Int32) : qm_run pm_m big m_189 (n0 + 1) 67 [(0, .ref 70), (1, .int v0), (2, .int v1), (3, .int v2)] [] G U = qm_run pm_m big m_189 n0 68 [(0, .ref 70), (1, .int v0), (2, .int v1), (3, .int v2)] [.int v2] G U := rfl
theorem sg_rf_75 (big : Nat → List Value → qM → qW → qR) (n0 : Nat) (G : qM) (U : qW) (v0 : Int32) (v1 : Int32) (v2 : Int32) : qm_run pm_m big m_189 (n0 + 1) 75 [(0, .ref 70), (1, .int v0), (2, .int v1), (3, .int v2)] [] G U = qm_run pm_m big m_189 n0 76 [(0, .ref 70), (1, .int v0), (2, .int v1), (3, .int v2)] [.int v2] G U := rfl
theorem sg_rf_76 (big : Nat → List Value → qM → qW → qR) (n0 : Nat) (G : qM) (U : qW) (v0 : Int32) (v1 : Int32) (v2 : Int32) : qm_run pm_m big m_189 (n0 + 1) 46 [(0, .ref 70), (1, .int v0), (2, .int v1), (3, .int v2)] [] G U = qm_run pm_m big m_189 n0 47 [(0, .ref 70), (1, .int v0), (2, .int v1), (3, .int v2)] [.int v1] G U := rfl
theorem sg_rf_77 (big : Nat → List Value → qM → qW → qR) (n0 : Nat) (G : qM) (U : qW) (v0 : Int32) (v1 : Int32) (v2 : Int32) (v3 : Int32) : qm_run pm_m big m_189 (n0 + 1) 50 [(0, .ref 70), (1, .int v0), (2, .int v1), (3, .int v2)] [.int v3] G U = qm_run pm_m big m_189 n0 51 [(0, .ref 70), (1, .int v0), (2, .int v1), (3, .int v2)] [.int v2, .int v3] G U := rfl
theorem sg_rf_78 (big : Nat → List Value → qM → qW → qR) (n0 : Nat) (G : qM) (U : qW) (v0 : Int32) (v1 : Int32) (v2 : Int32) : qm_run pm_m big m_189 (n0 + 1) 57 [(0, .ref 70), (1, .int v0), (2, .int v1), (3, .int v2)] [] G U = qm_run pm_m big m_189 n0 58 [(0, .ref 70), (1, .int v0), (2, .int v1), (3, .int v2)] [.int v1] G U := rfl
theorem b_apart (g : qM) (u : qW) {p q : Nat} (hp : p < 6) (hq : q < 6) (hw : g 70 2 ≠ 0) : q_BS 185 [.ref 70, .int (Int32.ofNat p), .int (Int32.ofNat q)] g u (some (.int (s_far (g 70 2) (g 75 q) (g 75 p))), g, u) := by
  refine q_bx (mm := m_185) rfl (Nat.le_of_ble_eq_true rfl) rfl ?_
  refine q_step 3 5 [(0, .ref 70), (1, .int (Int32.ofNat p)), (2, .int (Int32.ofNat q))] [.int (Int32.ofNat p), .ref 75] g u (fun big n0 => sg_rf_1 big n0 g u (Int32.ofNat p) (Int32.ofNat q)) ?_
  refine q_iald (j := p) (q_ixn (by omega) (by omega)) rfl rfl ?_
  refine q_step 2 10 [(0, .ref 70), (1, .int (Int32.ofNat p)), (2, .int (Int32.ofNat q))] [.int (g 70 2), .int (g 75 p)] g u (fun big n0 => sg_rf_2 big n0 g u (Int32.ofNat p) (Int32.ofNat q) (g 75 p)) ?_
  refine q_irem (hw) rfl ?_
  refine q_step 3 16 [(0, .ref 70), (1, .int (Int32.ofNat p)), (2, .int (Int32.ofNat q))] [.int (Int32.ofNat q), .ref 75, .int ((g 75 p) - (g 75 p) / (g 70 2) * (g 70 2))] g u (fun big n0 => sg_rf_3 big n0 g u (Int32.ofNat p) (Int32.ofNat q) ((g 75 p) - (g 75 p) / (g 70 2) * (g 70 2))) ?_
  refine q_iald (j := q) (q_ixn (by omega) (by omega)) rfl rfl ?_
  refine q_step 2 21 [(0, .ref 70), (1, .int (Int32.ofNat p)), (2, .int (Int32.ofNat q))] [.int (g 70 2), .int (g 75 q), .int ((g 75 p) - (g 75 p) / (g 70 2) * (g 70 2))] g u (fun big n0 => sg_rf_4 big n0 g u (Int32.ofNat p) (Int32.ofNat q) ((g 75 p) - (g 75 p) / (g 70 2) * (g 70 2)) (g 75 q)) ?_
  refine q_irem (hw) rfl ?_
  refine q_step 1 23 [(0, .ref 70), (1, .int (Int32.ofNat p)), (2, .int (Int32.ofNat q))] [.int (((g 75 p) - (g 75 p) / (g 70 2) * (g 70 2)) - ((g 75 q) - (g 75 q) / (g 70 2) * (g 70 2)))] g u (fun big n0 => sg_rf_5 big n0 g u (Int32.ofNat p) (Int32.ofNat q) ((g 75 p) - (g 75 p) / (g 70 2) * (g 70 2)) ((g 75 q) - (g 75 q) / (g 70 2) * (g 70 2))) ?_
  refine q_call (M2 := 186) (rest := []) (b_rabs _ _ _) (fun _ _ => rfl) ?_
  refine q_step 3 31 [(0, .ref 70), (1, .int (Int32.ofNat p)), (2, .int (Int32.ofNat q))] [.int (Int32.ofNat p), .ref 75, .int (s_abs (((g 75 p) - (g 75 p) / (g 70 2) * (g 70 2)) - ((g 75 q) - (g 75 q) / (g 70 2) * (g 70 2))))] g u (fun big n0 => sg_rf_6 big n0 g u (Int32.ofNat p) (Int32.ofNat q) (s_abs (((g 75 p) - (g 75 p) / (g 70 2) * (g 70 2)) - ((g 75 q) - (g 75 q) / (g 70 2) * (g 70 2))))) ?_
  refine q_iald (j := p) (q_ixn (by omega) (by omega)) rfl rfl ?_
  refine q_step 2 36 [(0, .ref 70), (1, .int (Int32.ofNat p)), (2, .int (Int32.ofNat q))] [.int (g 70 2), .int (g 75 p), .int (s_abs (((g 75 p) - (g 75 p) / (g 70 2) * (g 70 2)) - ((g 75 q) - (g 75 q) / (g 70 2) * (g 70 2))))] g u (fun big n0 => sg_rf_7 big n0 g u (Int32.ofNat p) (Int32.ofNat q) (s_abs (((g 75 p) - (g 75 p) / (g 70 2) * (g 70 2)) - ((g 75 q) - (g 75 q) / (g 70 2) * (g 70 2)))) (g 75 p)) ?_
  refine q_idiv (hw) rfl ?_
  refine q_step 3 42 [(0, .ref 70), (1, .int (Int32.ofNat p)), (2, .int (Int32.ofNat q))] [.int (Int32.ofNat q), .ref 75, .int ((g 75 p) / (g 70 2)), .int (s_abs (((g 75 p) - (g 75 p) / (g 70 2) * (g 70 2)) - ((g 75 q) - (g 75 q) / (g 70 2) * (g 70 2))))] g u (fun big n0 => sg_rf_8 big n0 g u (Int32.ofNat p) (Int32.ofNat q) (s_abs (((g 75 p) - (g 75 p) / (g 70 2) * (g 70 2)) - ((g 75 q) - (g 75 q) / (g 70 2) * (g 70 2)))) ((g 75 p) / (g 70 2))) ?_
  refine q_iald (j := q) (q_ixn (by omega) (by omega)) rfl rfl ?_
  refine q_step 2 47 [(0, .ref 70), (1, .int (Int32.ofNat p)), (2, .int (Int32.ofNat q))] [.int (g 70 2), .int (g 75 q), .int ((g 75 p) / (g 70 2)), .int (s_abs (((g 75 p) - (g 75 p) / (g 70 2) * (g 70 2)) - ((g 75 q) - (g 75 q) / (g 70 2) * (g 70 2))))] g u (fun big n0 => sg_rf_9 big n0 g u (Int32.ofNat p) (Int32.ofNat q) (s_abs (((g 75 p) - (g 75 p) / (g 70 2) * (g 70 2)) - ((g 75 q) - (g 75 q) / (g 70 2) * (g 70 2)))) ((g 75 p) / (g 70 2)) (g 75 q)) ?_
  refine q_idiv (hw) rfl ?_
  refine q_step 1 49 [(0, .ref 70), (1, .int (Int32.ofNat p)), (2, .int (Int32.ofNat q))] [.int (((g 75 p) / (g 70 2)) - ((g 75 q) / (g 70 2))), .int (s_abs (((g 75 p) - (g 75 p) / (g 70 2) * (g 70 2)) - ((g 75 q) - (g 75 q) / (g 70 2) * (g 70 2))))] g u (fun big n0 => sg_rf_10 big n0 g u (Int32.ofNat p) (Int32.ofNat q) (s_abs (((g 75 p) - (g 75 p) / (g 70 2) * (g 70 2)) - ((g 75 q) - (g 75 q) / (g 70 2) * (g 70 2)))) ((g 75 p) / (g 70 2)) ((g 75 q) / (g 70 2))) ?_
  refine q_call (M2 := 186) (rest := [.int (s_abs (((g 75 p) - (g 75 p) / (g 70 2) * (g 70 2)) - ((g 75 q) - (g 75 q) / (g 70 2) * (g 70 2))))]) (b_rabs _ _ _) (fun _ _ => rfl) ?_
  refine q_ret 2 (some (.int ((s_abs (((g 75 p) - (g 75 p) / (g 70 2) * (g 70 2)) - ((g 75 q) - (g 75 q) / (g 70 2) * (g 70 2)))) + (s_abs (((g 75 p) / (g 70 2)) - ((g 75 q) / (g 70 2)))))), g, u) (fun _ _ => rfl) ?_
  rfl
theorem rw_l (g : qM) (u : qW) {n : Nat} (x : Int32) (hn : g 70 27 = Int32.ofNat n) (h6 : n ≤ 6) : ∀ k i f, i + k = n → q_EV m_173 5 [(0, .ref 70), (1, .int x), (2, .int f), (3, .int (Int32.ofNat i))] [] g u (fun R => R = (some (.int (s_wl (g 75) x k i f)), g, u)) := by
  intro k
  induction k with
  | zero =>
    intro i f hi
    refine q_step 3 10 [(0, .ref 70), (1, .int x), (2, .int f), (3, .int (Int32.ofNat i))] [.int (g 70 27), .int (Int32.ofNat i)] g u (fun big n0 => sg_rf_11 big n0 g u x f (Int32.ofNat i)) ?_
    refine q_ic_ge rfl (fun (hc0 : (g 70 27) ≤ (Int32.ofNat i)) => ?_) (fun hc0 => absurd (show (g 70 27) ≤ (Int32.ofNat i) from by rw [hn, q_le (by omega) (by omega)]; omega) hc0)
    refine q_ret 2 (some (.int f), g, u) (fun _ _ => rfl) ?_
    rfl
  | succ k ih =>
    intro i f hi
    refine q_step 3 10 [(0, .ref 70), (1, .int x), (2, .int f), (3, .int (Int32.ofNat i))] [.int (g 70 27), .int (Int32.ofNat i)] g u (fun big n0 => sg_rf_11 big n0 g u x f (Int32.ofNat i)) ?_
    refine q_ic_ge rfl (fun hc0 => absurd (show (g 70 27) ≤ (Int32.ofNat i) from hc0) (fun z => by rw [hn, q_le (by omega) (by omega)] at z; omega)) (fun (hc0 : ¬ ((g 70 27) ≤ (Int32.ofNat i))) => ?_)
    refine q_step 3 18 [(0, .ref 70), (1, .int x), (2, .int f), (3, .int (Int32.ofNat i))] [.int (Int32.ofNat i), .ref 75] g u (fun big n0 => sg_rf_12 big n0 g u x f (Int32.ofNat i)) ?_
    refine q_iald (j := i) (q_ixn (by omega) (by omega)) rfl rfl ?_
    refine q_step 1 20 [(0, .ref 70), (1, .int x), (2, .int f), (3, .int (Int32.ofNat i))] [.int x, .int (g 75 i)] g u (fun big n0 => sg_rf_13 big n0 g u x f (Int32.ofNat i) (g 75 i)) ?_
    refine q_ic_ne rfl (fun (hc1 : (g 75 i) = x) => ?_) (fun (hc1 : ¬ ((g 75 i) = x)) => ?_)
    · refine q_step 5 5 [(0, .ref 70), (1, .int x), (2, .int (Int32.ofNat i)), (3, .int ((Int32.ofNat i) + (1 : Int32)))] [] g u (fun big n0 => sg_rf_14 big n0 g u x f (Int32.ofNat i)) ?_
      rw [q_succ]
      unfold s_wl
      rw [if_pos hc1]
      exact ih (i + 1) _ (by omega)
    · refine q_step 4 5 [(0, .ref 70), (1, .int x), (2, .int f), (3, .int ((Int32.ofNat i) + (1 : Int32)))] [] g u (fun big n0 => sg_rf_15 big n0 g u x f (Int32.ofNat i)) ?_
      rw [q_succ]
      unfold s_wl
      rw [if_neg hc1]
      exact ih (i + 1) _ (by omega)
theorem b_rwho (g : qM) (u : qW) {n : Nat} (x : Int32) (hn : g 70 27 = Int32.ofNat n) (h6 : n ≤ 6) : q_BS 173 [.ref 70, .int x] g u (some (.int (s_wl (g 75) x n 0 i_none)), g, u) := by
  refine q_bx (mm := m_173) rfl (Nat.le_of_ble_eq_true rfl) rfl ?_
  refine q_step 4 5 [(0, .ref 70), (1, .int x), (2, .int (Int8.toInt32 (Int8.ofInt (-4)))), (3, .int (0 : Int32))] [] g u (fun big n0 => sg_rf_16 big n0 g u x) ?_
  exact rw_l g u x hn h6 n 0 _ (by omega)
theorem b_bes (g : qM) (u : qW) (x way : Int32) (hw : g 70 2 ≠ 0) (hy : way = 0 ∨ way = 1 ∨ way = 2 ∨ way = 3 ∨ way = 4) : q_BS 192 [.ref 70, .int x, .int way] g u (some (.int (s_to (g 70 2) (g 70 3) x way)), g, u) := by
  refine q_bx (mm := m_192) rfl (Nat.le_of_ble_eq_true rfl) rfl ?_
  rcases hy with rfl | rfl | rfl | rfl | rfl
  · refine q_step 5 37 [(0, .ref 70), (1, .int x), (2, .int (0 : Int32))] [.int (g 70 2), .int x] g u (fun big n0 => sg_rf_17 big n0 g u x) ?_
    refine q_ic_lt rfl (fun (hc0 : x < (g 70 2)) => ?_) (fun (hc0 : ¬ (x < (g 70 2))) => ?_)
    · refine q_ret 2 (some (.int (Int8.toInt32 (Int8.ofInt (-4)))), g, u) (fun _ _ => rfl) ?_
      unfold s_to
      rw [if_pos rfl, if_pos hc0]
    · refine q_ret 6 (some (.int (x - (g 70 2))), g, u) (fun _ _ => rfl) ?_
      unfold s_to
      rw [if_pos rfl, if_neg hc0]
  · refine q_step 5 57 [(0, .ref 70), (1, .int x), (2, .int (1 : Int32))] [.int (g 70 2), .int x] g u (fun big n0 => sg_rf_18 big n0 g u x) ?_
    refine q_irem (hw) rfl ?_
    refine q_step 4 64 [(0, .ref 70), (1, .int x), (2, .int (1 : Int32))] [.int (g 70 2), .int ((x - x / (g 70 2) * (g 70 2)) + (1 : Int32))] g u (fun big n0 => sg_rf_19 big n0 g u x (x - x / (g 70 2) * (g 70 2))) ?_
    refine q_ic_ge rfl (fun (hc0 : (g 70 2) ≤ ((x - x / (g 70 2) * (g 70 2)) + (1 : Int32))) => ?_) (fun (hc0 : ¬ ((g 70 2) ≤ ((x - x / (g 70 2) * (g 70 2)) + (1 : Int32)))) => ?_)
    · refine q_ret 2 (some (.int (Int8.toInt32 (Int8.ofInt (-4)))), g, u) (fun _ _ => rfl) ?_
      unfold s_to s_col
      rw [if_neg (by decide), if_pos rfl, if_pos hc0]
    · refine q_ret 5 (some (.int (x + (1 : Int32))), g, u) (fun _ _ => rfl) ?_
      unfold s_to s_col
      rw [if_neg (by decide), if_pos rfl, if_neg hc0]
  · refine q_step 11 91 [(0, .ref 70), (1, .int x), (2, .int (2 : Int32))] [.int ((g 70 2) * (g 70 3)), .int (x + (g 70 2))] g u (fun big n0 => sg_rf_20 big n0 g u x) ?_
    refine q_ic_ge rfl (fun (hc0 : ((g 70 2) * (g 70 3)) ≤ (x + (g 70 2))) => ?_) (fun (hc0 : ¬ (((g 70 2) * (g 70 3)) ≤ (x + (g 70 2)))) => ?_)
    · refine q_ret 2 (some (.int (Int8.toInt32 (Int8.ofInt (-4)))), g, u) (fun _ _ => rfl) ?_
      unfold s_to
      rw [if_neg (by decide), if_neg (by decide), if_pos rfl, if_pos hc0]
    · refine q_ret 6 (some (.int (x + (g 70 2))), g, u) (fun _ _ => rfl) ?_
      unfold s_to
      rw [if_neg (by decide), if_neg (by decide), if_pos rfl, if_neg hc0]
  · refine q_step 5 111 [(0, .ref 70), (1, .int x), (2, .int (3 : Int32))] [.int (g 70 2), .int x] g u (fun big n0 => sg_rf_21 big n0 g u x) ?_
    refine q_irem (hw) rfl ?_
    refine q_if_le rfl (fun (hc0 : (x - x / (g 70 2) * (g 70 2)) ≤ 0) => ?_) (fun (hc0 : ¬ ((x - x / (g 70 2) * (g 70 2)) ≤ 0)) => ?_)
    · refine q_ret 2 (some (.int (Int8.toInt32 (Int8.ofInt (-4)))), g, u) (fun _ _ => rfl) ?_
      unfold s_to s_col
      rw [if_neg (by decide), if_neg (by decide), if_neg (by decide), if_pos rfl, if_pos hc0]
    · refine q_ret 5 (some (.int (x - (1 : Int32))), g, u) (fun _ _ => rfl) ?_
      unfold s_to s_col
      rw [if_neg (by decide), if_neg (by decide), if_neg (by decide), if_pos rfl, if_neg hc0]
  · refine q_ret 4 (some (.int (Int8.toInt32 (Int8.ofInt (-4)))), g, u) (fun _ _ => rfl) ?_
    unfold s_to
    rw [if_neg (by decide), if_neg (by decide), if_neg (by decide), if_neg (by decide)]
theorem b_open (x : Int32) (g : qM) (u : qW) : q_BS 177 [.ref 70, .int x] g u (some (.int (s_op (g 71 20) x)), g, u) := by
  refine q_bx (mm := m_177) rfl (Nat.le_of_ble_eq_true rfl) rfl ?_
  refine q_step 2 3 [(0, .ref 70), (1, .int x)] [.int (Int8.toInt32 (Int8.ofInt (-4))), .int x] g u (fun big n0 => sg_rf_22 big n0 g u x) ?_
  refine q_ic_eq rfl (fun (hc0 : x = (Int8.toInt32 (Int8.ofInt (-4)))) => ?_) (fun (hc0 : ¬ (x = (Int8.toInt32 (Int8.ofInt (-4))))) => ?_)
  · refine q_ret 2 (some (.int (0 : Int32)), g, u) (fun _ _ => rfl) ?_
    unfold s_op s_bit
    rw [if_pos hc0]
  · refine q_step 8 17 [(0, .ref 70), (1, .int x)] [.int (((g 71 20) >>> (x &&& 31)) &&& (1 : Int32))] g u (fun big n0 => sg_rf_23 big n0 g u x) ?_
    refine q_if_ne rfl (fun (hc1 : (((g 71 20) >>> (x &&& 31)) &&& (1 : Int32)) = 0) => ?_) (fun (hc1 : ¬ ((((g 71 20) >>> (x &&& 31)) &&& (1 : Int32)) = 0)) => ?_)
    · refine q_ret 3 (some (.int (1 : Int32)), g, u) (fun _ _ => rfl) ?_
      unfold s_op s_bit
      rw [if_neg hc0, if_pos hc1]
    · refine q_ret 2 (some (.int (0 : Int32)), g, u) (fun _ _ => rfl) ?_
      unfold s_op s_bit
      rw [if_neg hc0, if_neg hc1]
theorem b_fd (x : Int32) (g : qM) (u : qW) : q_BS 194 [.int x] g u (some (.int (s_fd x)), g, u) := by
  refine q_bx (mm := m_194) rfl (Nat.le_of_ble_eq_true rfl) rfl ?_
  refine q_step 1 1 [(0, .int x)] [.int x] g u (fun big n0 => sg_rf_24 big n0 g u x) ?_
  refine q_if_ne rfl (fun (hc0 : x = 0) => ?_) (fun (hc0 : ¬ (x = 0)) => ?_)
  · refine q_ret 3 (some (.int (0 : Int32)), g, u) (fun _ _ => rfl) ?_
    unfold s_fd
    rw [if_pos hc0]
  · refine q_ret 6 (some (.int ((x - x / (3 : Int32) * (3 : Int32)) + (1 : Int32))), g, u) (fun _ _ => rfl) ?_
    unfold s_fd
    rw [if_neg hc0]
theorem b_flag0 (g : qM) (u : qW) : q_BS 164 [.int 0] g u (some (.int 0), g, u) := b_flag 0 g u
theorem b_flag1 (g : qM) (u : qW) : q_BS 164 [.int 1] g u (some (.int 1), g, u) := b_flag 1 g u
theorem rf_l0 (g : qM) (u : qW) {n p : Nat} (hn : g 70 27 = Int32.ofNat n) (h6 : n ≤ 6) (hp : p < n) (hw : g 70 2 ≠ 0) : ∀ k q s, q + k = n → q_EV m_184 5 [(0, .ref 70), (1, .int (Int32.ofNat p)), (2, .int (0 : Int32)), (3, .int s), (4, .int (Int32.ofNat q))] [] g u (fun R => R = (some (.int (s + s_sf (s_rt (g 70 2) (g 75) (g 76) (g 71) 0 p) k q)), g, u)) := by
  intro k
  induction k with
  | zero =>
    intro q s hq
    refine q_step 3 11 [(0, .ref 70), (1, .int (Int32.ofNat p)), (2, .int (0 : Int32)), (3, .int s), (4, .int (Int32.ofNat q))] [.int (g 70 27), .int (Int32.ofNat q)] g u (fun big n0 => sg_rf_25 big n0 g u (Int32.ofNat p) s (Int32.ofNat q)) ?_
    refine q_ic_ge rfl (fun (hc0 : (g 70 27) ≤ (Int32.ofNat q)) => ?_) (fun hc0 => absurd (show (g 70 27) ≤ (Int32.ofNat q) from by rw [hn, q_le (by omega) (by omega)]; omega) hc0)
    refine q_ret 2 (some (.int s), g, u) (fun _ _ => rfl) ?_
    show _ = _
    rw [s_sf, Int32.add_zero]
  | succ k ih =>
    intro q s hq
    refine q_step 3 11 [(0, .ref 70), (1, .int (Int32.ofNat p)), (2, .int (0 : Int32)), (3, .int s), (4, .int (Int32.ofNat q))] [.int (g 70 27), .int (Int32.ofNat q)] g u (fun big n0 => sg_rf_25 big n0 g u (Int32.ofNat p) s (Int32.ofNat q)) ?_
    refine q_ic_ge rfl (fun hc0 => absurd (show (g 70 27) ≤ (Int32.ofNat q) from hc0) (fun z => by rw [hn, q_le (by omega) (by omega)] at z; omega)) (fun (hc0 : ¬ ((g 70 27) ≤ (Int32.ofNat q))) => ?_)
    refine q_step 2 17 [(0, .ref 70), (1, .int (Int32.ofNat p)), (2, .int (0 : Int32)), (3, .int s), (4, .int (Int32.ofNat q))] [.int (Int32.ofNat p), .int (Int32.ofNat q)] g u (fun big n0 => sg_rf_26 big n0 g u (Int32.ofNat p) s (Int32.ofNat q)) ?_
    refine q_ic_eq rfl (fun (hc1 : (Int32.ofNat q) = (Int32.ofNat p)) => ?_) (fun (hc1 : ¬ ((Int32.ofNat q) = (Int32.ofNat p))) => ?_)
    · refine q_step 7 59 [(0, .ref 70), (1, .int (Int32.ofNat p)), (2, .int (0 : Int32)), (3, .int s), (4, .int (Int32.ofNat q)), (5, .int (0 : Int32))] [.long (4 : Int64), .long (1 : Int64), .long (0 : Int64)] g u (fun big n0 => sg_rf_27 big n0 g u (Int32.ofNat p) s (Int32.ofNat q)) ?_
      refine q_call (M2 := 149) (rest := []) ((show q_BS 149 [.long (0 : Int64), .long (1 : Int64), .long (4 : Int64)] g u (some (.int 0), g, u) from b_in 0 1 4 g u)) (fun _ _ => rfl) ?_
      refine q_step 3 5 [(0, .ref 70), (1, .int (Int32.ofNat p)), (2, .int (0 : Int32)), (3, .int s), (4, .int ((Int32.ofNat q) + (1 : Int32))), (5, .int (0 : Int32))] [] g u (fun big n0 => sg_rf_28 big n0 g u (Int32.ofNat p) s (Int32.ofNat q)) ?_
      refine q_weak [(0, .ref 70), (1, .int (Int32.ofNat p)), (2, .int (0 : Int32)), (3, .int s), (4, .int ((Int32.ofNat q) + (1 : Int32)))] (q_sub.cons rfl (q_sub.cons rfl (q_sub.cons rfl (q_sub.cons rfl (q_sub.cons rfl q_sub.nil))))) ?_
      rw [q_succ]
      have e : (s_rt (g 70 2) (g 75) (g 76) (g 71) 0 p) q = 0 := by
        unfold s_rt
        rw [if_pos ((q_eq (by omega) (by omega)).mp hc1)]
      rw [s_sf, e, Int32.zero_add]
      exact ih (q + 1) s (by omega)
    · refine q_step 3 25 [(0, .ref 70), (1, .int (Int32.ofNat p)), (2, .int (0 : Int32)), (3, .int s), (4, .int (Int32.ofNat q))] [.int (Int32.ofNat p), .ref 76] g u (fun big n0 => sg_rf_29 big n0 g u (Int32.ofNat p) s (Int32.ofNat q)) ?_
      refine q_iald (j := p) (q_ixn (by omega) (by omega)) rfl rfl ?_
      refine q_if_eq rfl (fun (hc2 : (g 76 p) = 0) => ?_) (fun (hc2 : ¬ ((g 76 p) = 0)) => ?_)
      · refine q_step 7 59 [(0, .ref 70), (1, .int (Int32.ofNat p)), (2, .int (0 : Int32)), (3, .int s), (4, .int (Int32.ofNat q)), (5, .int (0 : Int32))] [.long (4 : Int64), .long (1 : Int64), .long (0 : Int64)] g u (fun big n0 => sg_rf_27 big n0 g u (Int32.ofNat p) s (Int32.ofNat q)) ?_
        refine q_call (M2 := 149) (rest := []) ((show q_BS 149 [.long (0 : Int64), .long (1 : Int64), .long (4 : Int64)] g u (some (.int 0), g, u) from b_in 0 1 4 g u)) (fun _ _ => rfl) ?_
        refine q_step 3 5 [(0, .ref 70), (1, .int (Int32.ofNat p)), (2, .int (0 : Int32)), (3, .int s), (4, .int ((Int32.ofNat q) + (1 : Int32))), (5, .int (0 : Int32))] [] g u (fun big n0 => sg_rf_28 big n0 g u (Int32.ofNat p) s (Int32.ofNat q)) ?_
        refine q_weak [(0, .ref 70), (1, .int (Int32.ofNat p)), (2, .int (0 : Int32)), (3, .int s), (4, .int ((Int32.ofNat q) + (1 : Int32)))] (q_sub.cons rfl (q_sub.cons rfl (q_sub.cons rfl (q_sub.cons rfl (q_sub.cons rfl q_sub.nil))))) ?_
        rw [q_succ]
        have e : (s_rt (g 70 2) (g 75) (g 76) (g 71) 0 p) q = 0 := by
          unfold s_rt
          rw [if_neg (fun z => hc1 (by rw [z])), if_pos hc2]
        rw [s_sf, e, Int32.zero_add]
        exact ih (q + 1) s (by omega)
      · refine q_step 3 35 [(0, .ref 70), (1, .int (Int32.ofNat p)), (2, .int (0 : Int32)), (3, .int s), (4, .int (Int32.ofNat q))] [.int (Int32.ofNat q), .ref 76] g u (fun big n0 => sg_rf_30 big n0 g u (Int32.ofNat p) s (Int32.ofNat q)) ?_
        refine q_iald (j := q) (q_ixn (by omega) (by omega)) rfl rfl ?_
        refine q_if_ne rfl (fun (hc3 : (g 76 q) = 0) => ?_) (fun (hc3 : ¬ ((g 76 q) = 0)) => ?_)
        · refine q_step 7 59 [(0, .ref 70), (1, .int (Int32.ofNat p)), (2, .int (0 : Int32)), (3, .int s), (4, .int (Int32.ofNat q)), (5, .int (0 : Int32))] [.long (4 : Int64), .long (1 : Int64), .long (0 : Int64)] g u (fun big n0 => sg_rf_27 big n0 g u (Int32.ofNat p) s (Int32.ofNat q)) ?_
          refine q_call (M2 := 149) (rest := []) ((show q_BS 149 [.long (0 : Int64), .long (1 : Int64), .long (4 : Int64)] g u (some (.int 0), g, u) from b_in 0 1 4 g u)) (fun _ _ => rfl) ?_
          refine q_step 3 5 [(0, .ref 70), (1, .int (Int32.ofNat p)), (2, .int (0 : Int32)), (3, .int s), (4, .int ((Int32.ofNat q) + (1 : Int32))), (5, .int (0 : Int32))] [] g u (fun big n0 => sg_rf_28 big n0 g u (Int32.ofNat p) s (Int32.ofNat q)) ?_
          refine q_weak [(0, .ref 70), (1, .int (Int32.ofNat p)), (2, .int (0 : Int32)), (3, .int s), (4, .int ((Int32.ofNat q) + (1 : Int32)))] (q_sub.cons rfl (q_sub.cons rfl (q_sub.cons rfl (q_sub.cons rfl (q_sub.cons rfl q_sub.nil))))) ?_
          rw [q_succ]
          have e : (s_rt (g 70 2) (g 75) (g 76) (g 71) 0 p) q = 0 := by
            unfold s_rt
            rw [if_neg (fun z => hc1 (by rw [z])), if_neg hc2, if_pos hc3]
          rw [s_sf, e, Int32.zero_add]
          exact ih (q + 1) s (by omega)
        · refine q_step 3 47 [(0, .ref 70), (1, .int (Int32.ofNat p)), (2, .int (0 : Int32)), (3, .int s), (4, .int (Int32.ofNat q))] [.int (Int32.ofNat q), .int (Int32.ofNat p), .ref 70] g u (fun big n0 => sg_rf_31 big n0 g u (Int32.ofNat p) s (Int32.ofNat q)) ?_
          refine q_call (M2 := 185) (rest := []) (b_apart g u (by omega) (by omega) hw) (fun _ _ => rfl) ?_
          refine q_step 5 59 [(0, .ref 70), (1, .int (Int32.ofNat p)), (2, .int (0 : Int32)), (3, .int s), (4, .int (Int32.ofNat q)), (5, .int (s_far (g 70 2) (g 75 q) (g 75 p)))] [.long (4 : Int64), .long (1 : Int64), .long (Int32.toInt64 (s_far (g 70 2) (g 75 q) (g 75 p)))] g u (fun big n0 => sg_rf_32 big n0 g u (Int32.ofNat p) s (Int32.ofNat q) (s_far (g 70 2) (g 75 q) (g 75 p))) ?_
          refine q_call (M2 := 149) (rest := []) (b_in _ _ _ _ _) (fun _ _ => rfl) ?_
          refine q_if_eq rfl (fun (hc4 : (s_in (Int32.toInt64 (s_far (g 70 2) (g 75 q) (g 75 p))) (1 : Int64) (4 : Int64)) = 0) => ?_) (fun (hc4 : ¬ ((s_in (Int32.toInt64 (s_far (g 70 2) (g 75 q) (g 75 p))) (1 : Int64) (4 : Int64)) = 0)) => ?_)
          · refine q_step 2 5 [(0, .ref 70), (1, .int (Int32.ofNat p)), (2, .int (0 : Int32)), (3, .int s), (4, .int ((Int32.ofNat q) + (1 : Int32))), (5, .int (s_far (g 70 2) (g 75 q) (g 75 p)))] [] g u (fun big n0 => sg_rf_33 big n0 g u (Int32.ofNat p) s (Int32.ofNat q) (s_far (g 70 2) (g 75 q) (g 75 p))) ?_
            refine q_weak [(0, .ref 70), (1, .int (Int32.ofNat p)), (2, .int (0 : Int32)), (3, .int s), (4, .int ((Int32.ofNat q) + (1 : Int32)))] (q_sub.cons rfl (q_sub.cons rfl (q_sub.cons rfl (q_sub.cons rfl (q_sub.cons rfl q_sub.nil))))) ?_
            rw [q_succ]
            have e : (s_rt (g 70 2) (g 75) (g 76) (g 71) 0 p) q = 0 := by
              unfold s_rt
              rw [if_neg (fun z => hc1 (by rw [z])), if_neg hc2, if_neg hc3, if_pos hc4]
            rw [s_sf, e, Int32.zero_add]
            exact ih (q + 1) s (by omega)
          · refine q_step 5 105 [(0, .ref 70), (1, .int (Int32.ofNat p)), (2, .int (0 : Int32)), (3, .int s), (4, .int (Int32.ofNat q)), (5, .int (s_far (g 70 2) (g 75 q) (g 75 p)))] [.int (Int32.ofNat q), .ref 75] g u (fun big n0 => sg_rf_34 big n0 g u (Int32.ofNat p) s (Int32.ofNat q) (s_far (g 70 2) (g 75 q) (g 75 p))) ?_
            refine q_iald (j := q) (q_ixn (by omega) (by omega)) rfl rfl ?_
            refine q_step 2 110 [(0, .ref 70), (1, .int (Int32.ofNat p)), (2, .int (0 : Int32)), (3, .int s), (4, .int (Int32.ofNat q)), (5, .int (s_far (g 70 2) (g 75 q) (g 75 p)))] [.int (g 70 2), .int (g 75 q)] g u (fun big n0 => sg_rf_35 big n0 g u (Int32.ofNat p) s (Int32.ofNat q) (s_far (g 70 2) (g 75 q) (g 75 p)) (g 75 q)) ?_
            refine q_irem (hw) rfl ?_
            refine q_step 3 116 [(0, .ref 70), (1, .int (Int32.ofNat p)), (2, .int (0 : Int32)), (3, .int s), (4, .int (Int32.ofNat q)), (5, .int (s_far (g 70 2) (g 75 q) (g 75 p)))] [.int (Int32.ofNat p), .ref 75, .int ((g 75 q) - (g 75 q) / (g 70 2) * (g 70 2))] g u (fun big n0 => sg_rf_36 big n0 g u (Int32.ofNat p) s (Int32.ofNat q) (s_far (g 70 2) (g 75 q) (g 75 p)) ((g 75 q) - (g 75 q) / (g 70 2) * (g 70 2))) ?_
            refine q_iald (j := p) (q_ixn (by omega) (by omega)) rfl rfl ?_
            refine q_step 2 121 [(0, .ref 70), (1, .int (Int32.ofNat p)), (2, .int (0 : Int32)), (3, .int s), (4, .int (Int32.ofNat q)), (5, .int (s_far (g 70 2) (g 75 q) (g 75 p)))] [.int (g 70 2), .int (g 75 p), .int ((g 75 q) - (g 75 q) / (g 70 2) * (g 70 2))] g u (fun big n0 => sg_rf_37 big n0 g u (Int32.ofNat p) s (Int32.ofNat q) (s_far (g 70 2) (g 75 q) (g 75 p)) ((g 75 q) - (g 75 q) / (g 70 2) * (g 70 2)) (g 75 p)) ?_
            refine q_irem (hw) rfl ?_
            refine q_step 1 123 [(0, .ref 70), (1, .int (Int32.ofNat p)), (2, .int (0 : Int32)), (3, .int s), (4, .int (Int32.ofNat q)), (5, .int (s_far (g 70 2) (g 75 q) (g 75 p)))] [.int (((g 75 q) - (g 75 q) / (g 70 2) * (g 70 2)) - ((g 75 p) - (g 75 p) / (g 70 2) * (g 70 2)))] g u (fun big n0 => sg_rf_38 big n0 g u (Int32.ofNat p) s (Int32.ofNat q) (s_far (g 70 2) (g 75 q) (g 75 p)) ((g 75 q) - (g 75 q) / (g 70 2) * (g 70 2)) ((g 75 p) - (g 75 p) / (g 70 2) * (g 70 2))) ?_
            refine q_call (M2 := 187) (rest := []) (b_sgn _ _ _) (fun _ _ => rfl) ?_
            refine q_step 9 140 [(0, .ref 70), (1, .int (Int32.ofNat p)), (2, .int (0 : Int32)), (3, .int s), (4, .int (Int32.ofNat q)), (5, .int (s_far (g 70 2) (g 75 q) (g 75 p))), (6, .int (s_sgn (((g 75 q) - (g 75 q) / (g 70 2) * (g 70 2)) - ((g 75 p) - (g 75 p) / (g 70 2) * (g 70 2)))))] [.int (((21 : Int32) + (s_far (g 70 2) (g 75 q) (g 75 p))) - (1 : Int32)), .ref 71, .int s] g u (fun big n0 => sg_rf_39 big n0 g u (Int32.ofNat p) s (Int32.ofNat q) (s_far (g 70 2) (g 75 q) (g 75 p)) (s_sgn (((g 75 q) - (g 75 q) / (g 70 2) * (g 70 2)) - ((g 75 p) - (g 75 p) / (g 70 2) * (g 70 2))))) ?_
            refine q_iald (j := ((((21 : Int32) + (s_far (g 70 2) (g 75 q) (g 75 p))) - (1 : Int32))).toInt.toNat) (by have h0 := s_in_i.mp (by assumption); have z1 : (1 : Int64).toInt = 1 := rfl; have z4 : (4 : Int64).toInt = 4 := rfl; rw [z1, z4] at h0; have h1 := s_pli h0.1 h0.2; exact q_ixi (by omega) (by omega)) rfl rfl ?_
            refine q_step 3 147 [(0, .ref 70), (1, .int (Int32.ofNat p)), (2, .int (0 : Int32)), (3, .int s), (4, .int (Int32.ofNat q)), (5, .int (s_far (g 70 2) (g 75 q) (g 75 p))), (6, .int (s_sgn (((g 75 q) - (g 75 q) / (g 70 2) * (g 70 2)) - ((g 75 p) - (g 75 p) / (g 70 2) * (g 70 2)))))] [.int (Int32.ofNat q), .ref 76, .int (g 71 ((((21 : Int32) + (s_far (g 70 2) (g 75 q) (g 75 p))) - (1 : Int32))).toInt.toNat), .int s] g u (fun big n0 => sg_rf_40 big n0 g u (Int32.ofNat p) s (Int32.ofNat q) (s_far (g 70 2) (g 75 q) (g 75 p)) (s_sgn (((g 75 q) - (g 75 q) / (g 70 2) * (g 70 2)) - ((g 75 p) - (g 75 p) / (g 70 2) * (g 70 2)))) s (g 71 ((((21 : Int32) + (s_far (g 70 2) (g 75 q) (g 75 p))) - (1 : Int32))).toInt.toNat)) ?_
            refine q_iald (j := q) (q_ixn (by omega) (by omega)) rfl rfl ?_
            refine q_step 3 153 [(0, .ref 70), (1, .int (Int32.ofNat p)), (2, .int (0 : Int32)), (3, .int s), (4, .int (Int32.ofNat q)), (5, .int (s_far (g 70 2) (g 75 q) (g 75 p))), (6, .int (s_sgn (((g 75 q) - (g 75 q) / (g 70 2) * (g 70 2)) - ((g 75 p) - (g 75 p) / (g 70 2) * (g 70 2)))))] [.int (Int32.ofNat p), .ref 76, .int (g 76 q), .int (g 71 ((((21 : Int32) + (s_far (g 70 2) (g 75 q) (g 75 p))) - (1 : Int32))).toInt.toNat), .int s] g u (fun big n0 => sg_rf_41 big n0 g u (Int32.ofNat p) s (Int32.ofNat q) (s_far (g 70 2) (g 75 q) (g 75 p)) (s_sgn (((g 75 q) - (g 75 q) / (g 70 2) * (g 70 2)) - ((g 75 p) - (g 75 p) / (g 70 2) * (g 70 2)))) s (g 71 ((((21 : Int32) + (s_far (g 70 2) (g 75 q) (g 75 p))) - (1 : Int32))).toInt.toNat) (g 76 q)) ?_
            refine q_iald (j := p) (q_ixn (by omega) (by omega)) rfl rfl ?_
            refine q_ic_ne rfl (fun (hc5 : (g 76 q) = (g 76 p)) => ?_) (fun (hc5 : ¬ ((g 76 q) = (g 76 p))) => ?_)
            · refine q_step 8 5 [(0, .ref 70), (1, .int (Int32.ofNat p)), (2, .int (0 : Int32)), (3, .int (s + ((g 71 ((((21 : Int32) + (s_far (g 70 2) (g 75 q) (g 75 p))) - (1 : Int32))).toInt.toNat) * (-(s_sgn (((g 75 q) - (g 75 q) / (g 70 2) * (g 70 2)) - ((g 75 p) - (g 75 p) / (g 70 2) * (g 70 2)))))))), (4, .int ((Int32.ofNat q) + (1 : Int32))), (5, .int (s_far (g 70 2) (g 75 q) (g 75 p))), (6, .int (s_sgn (((g 75 q) - (g 75 q) / (g 70 2) * (g 70 2)) - ((g 75 p) - (g 75 p) / (g 70 2) * (g 70 2)))))] [] g u (fun big n0 => sg_rf_42 big n0 g u (Int32.ofNat p) s (Int32.ofNat q) (s_far (g 70 2) (g 75 q) (g 75 p)) (s_sgn (((g 75 q) - (g 75 q) / (g 70 2) * (g 70 2)) - ((g 75 p) - (g 75 p) / (g 70 2) * (g 70 2)))) s (g 71 ((((21 : Int32) + (s_far (g 70 2) (g 75 q) (g 75 p))) - (1 : Int32))).toInt.toNat)) ?_
              refine q_weak [(0, .ref 70), (1, .int (Int32.ofNat p)), (2, .int (0 : Int32)), (3, .int (s + ((g 71 ((((21 : Int32) + (s_far (g 70 2) (g 75 q) (g 75 p))) - (1 : Int32))).toInt.toNat) * (-(s_sgn (((g 75 q) - (g 75 q) / (g 70 2) * (g 70 2)) - ((g 75 p) - (g 75 p) / (g 70 2) * (g 70 2)))))))), (4, .int ((Int32.ofNat q) + (1 : Int32)))] (q_sub.cons rfl (q_sub.cons rfl (q_sub.cons rfl (q_sub.cons rfl (q_sub.cons rfl q_sub.nil))))) ?_
              rw [q_succ]
              have e : (s_rt (g 70 2) (g 75) (g 76) (g 71) 0 p) q = ((g 71 ((((21 : Int32) + (s_far (g 70 2) (g 75 q) (g 75 p))) - (1 : Int32))).toInt.toNat) * (-(s_sgn (((g 75 q) - (g 75 q) / (g 70 2) * (g 70 2)) - ((g 75 p) - (g 75 p) / (g 70 2) * (g 70 2)))))) := by
                unfold s_rt
                rw [if_neg (fun z => hc1 (by rw [z])), if_neg hc2, if_neg hc3, if_neg hc4, if_pos hc5]
                first
                  | rfl
                  | (simp only [if_pos, if_neg]; rfl)
              rw [s_sf, e, ← Int32.add_assoc]
              exact ih (q + 1) _ (by omega)
            · refine q_step 6 5 [(0, .ref 70), (1, .int (Int32.ofNat p)), (2, .int (0 : Int32)), (3, .int (s + ((g 71 ((((21 : Int32) + (s_far (g 70 2) (g 75 q) (g 75 p))) - (1 : Int32))).toInt.toNat) * (s_sgn (((g 75 q) - (g 75 q) / (g 70 2) * (g 70 2)) - ((g 75 p) - (g 75 p) / (g 70 2) * (g 70 2))))))), (4, .int ((Int32.ofNat q) + (1 : Int32))), (5, .int (s_far (g 70 2) (g 75 q) (g 75 p))), (6, .int (s_sgn (((g 75 q) - (g 75 q) / (g 70 2) * (g 70 2)) - ((g 75 p) - (g 75 p) / (g 70 2) * (g 70 2)))))] [] g u (fun big n0 => sg_rf_43 big n0 g u (Int32.ofNat p) s (Int32.ofNat q) (s_far (g 70 2) (g 75 q) (g 75 p)) (s_sgn (((g 75 q) - (g 75 q) / (g 70 2) * (g 70 2)) - ((g 75 p) - (g 75 p) / (g 70 2) * (g 70 2)))) s (g 71 ((((21 : Int32) + (s_far (g 70 2) (g 75 q) (g 75 p))) - (1 : Int32))).toInt.toNat)) ?_
              refine q_weak [(0, .ref 70), (1, .int (Int32.ofNat p)), (2, .int (0 : Int32)), (3, .int (s + ((g 71 ((((21 : Int32) + (s_far (g 70 2) (g 75 q) (g 75 p))) - (1 : Int32))).toInt.toNat) * (s_sgn (((g 75 q) - (g 75 q) / (g 70 2) * (g 70 2)) - ((g 75 p) - (g 75 p) / (g 70 2) * (g 70 2))))))), (4, .int ((Int32.ofNat q) + (1 : Int32)))] (q_sub.cons rfl (q_sub.cons rfl (q_sub.cons rfl (q_sub.cons rfl (q_sub.cons rfl q_sub.nil))))) ?_
              rw [q_succ]
              have e : (s_rt (g 70 2) (g 75) (g 76) (g 71) 0 p) q = ((g 71 ((((21 : Int32) + (s_far (g 70 2) (g 75 q) (g 75 p))) - (1 : Int32))).toInt.toNat) * (s_sgn (((g 75 q) - (g 75 q) / (g 70 2) * (g 70 2)) - ((g 75 p) - (g 75 p) / (g 70 2) * (g 70 2))))) := by
                unfold s_rt
                rw [if_neg (fun z => hc1 (by rw [z])), if_neg hc2, if_neg hc3, if_neg hc4, if_neg hc5]
                first
                  | rfl
                  | (simp only [if_pos, if_neg]; rfl)
              rw [s_sf, e, ← Int32.add_assoc]
              exact ih (q + 1) _ (by omega)
theorem b_rf0 (g : qM) (u : qW) {n p : Nat} (hn : g 70 27 = Int32.ofNat n) (h6 : n ≤ 6) (hp : p < n) (hw : g 70 2 ≠ 0) : q_BS 184 [.ref 70, .int (Int32.ofNat p), .int (0 : Int32)] g u (some (.int (s_rf (g 70 2) (g 75) (g 76) (g 71) n 0 p)), g, u) := by
  refine q_bx (mm := m_184) rfl (Nat.le_of_ble_eq_true rfl) rfl ?_
  refine q_step 4 5 [(0, .ref 70), (1, .int (Int32.ofNat p)), (2, .int (0 : Int32)), (3, .int (0 : Int32)), (4, .int (0 : Int32))] [] g u (fun big n0 => sg_rf_44 big n0 g u (Int32.ofNat p)) ?_
  exact rf_l0 g u hn h6 hp hw n 0 0 (by omega)
theorem rf_l1 (g : qM) (u : qW) {n p : Nat} (hn : g 70 27 = Int32.ofNat n) (h6 : n ≤ 6) (hp : p < n) (hw : g 70 2 ≠ 0) : ∀ k q s, q + k = n → q_EV m_184 5 [(0, .ref 70), (1, .int (Int32.ofNat p)), (2, .int (1 : Int32)), (3, .int s), (4, .int (Int32.ofNat q))] [] g u (fun R => R = (some (.int (s + s_sf (s_rt (g 70 2) (g 75) (g 76) (g 71) 1 p) k q)), g, u)) := by
  intro k
  induction k with
  | zero =>
    intro q s hq
    refine q_step 3 11 [(0, .ref 70), (1, .int (Int32.ofNat p)), (2, .int (1 : Int32)), (3, .int s), (4, .int (Int32.ofNat q))] [.int (g 70 27), .int (Int32.ofNat q)] g u (fun big n0 => sg_rf_45 big n0 g u (Int32.ofNat p) s (Int32.ofNat q)) ?_
    refine q_ic_ge rfl (fun (hc0 : (g 70 27) ≤ (Int32.ofNat q)) => ?_) (fun hc0 => absurd (show (g 70 27) ≤ (Int32.ofNat q) from by rw [hn, q_le (by omega) (by omega)]; omega) hc0)
    refine q_ret 2 (some (.int s), g, u) (fun _ _ => rfl) ?_
    show _ = _
    rw [s_sf, Int32.add_zero]
  | succ k ih =>
    intro q s hq
    refine q_step 3 11 [(0, .ref 70), (1, .int (Int32.ofNat p)), (2, .int (1 : Int32)), (3, .int s), (4, .int (Int32.ofNat q))] [.int (g 70 27), .int (Int32.ofNat q)] g u (fun big n0 => sg_rf_45 big n0 g u (Int32.ofNat p) s (Int32.ofNat q)) ?_
    refine q_ic_ge rfl (fun hc0 => absurd (show (g 70 27) ≤ (Int32.ofNat q) from hc0) (fun z => by rw [hn, q_le (by omega) (by omega)] at z; omega)) (fun (hc0 : ¬ ((g 70 27) ≤ (Int32.ofNat q))) => ?_)
    refine q_step 2 17 [(0, .ref 70), (1, .int (Int32.ofNat p)), (2, .int (1 : Int32)), (3, .int s), (4, .int (Int32.ofNat q))] [.int (Int32.ofNat p), .int (Int32.ofNat q)] g u (fun big n0 => sg_rf_46 big n0 g u (Int32.ofNat p) s (Int32.ofNat q)) ?_
    refine q_ic_eq rfl (fun (hc1 : (Int32.ofNat q) = (Int32.ofNat p)) => ?_) (fun (hc1 : ¬ ((Int32.ofNat q) = (Int32.ofNat p))) => ?_)
    · refine q_step 7 59 [(0, .ref 70), (1, .int (Int32.ofNat p)), (2, .int (1 : Int32)), (3, .int s), (4, .int (Int32.ofNat q)), (5, .int (0 : Int32))] [.long (4 : Int64), .long (1 : Int64), .long (0 : Int64)] g u (fun big n0 => sg_rf_47 big n0 g u (Int32.ofNat p) s (Int32.ofNat q)) ?_
      refine q_call (M2 := 149) (rest := []) ((show q_BS 149 [.long (0 : Int64), .long (1 : Int64), .long (4 : Int64)] g u (some (.int 0), g, u) from b_in 0 1 4 g u)) (fun _ _ => rfl) ?_
      refine q_step 3 5 [(0, .ref 70), (1, .int (Int32.ofNat p)), (2, .int (1 : Int32)), (3, .int s), (4, .int ((Int32.ofNat q) + (1 : Int32))), (5, .int (0 : Int32))] [] g u (fun big n0 => sg_rf_48 big n0 g u (Int32.ofNat p) s (Int32.ofNat q)) ?_
      refine q_weak [(0, .ref 70), (1, .int (Int32.ofNat p)), (2, .int (1 : Int32)), (3, .int s), (4, .int ((Int32.ofNat q) + (1 : Int32)))] (q_sub.cons rfl (q_sub.cons rfl (q_sub.cons rfl (q_sub.cons rfl (q_sub.cons rfl q_sub.nil))))) ?_
      rw [q_succ]
      have e : (s_rt (g 70 2) (g 75) (g 76) (g 71) 1 p) q = 0 := by
        unfold s_rt
        rw [if_pos ((q_eq (by omega) (by omega)).mp hc1)]
      rw [s_sf, e, Int32.zero_add]
      exact ih (q + 1) s (by omega)
    · refine q_step 3 25 [(0, .ref 70), (1, .int (Int32.ofNat p)), (2, .int (1 : Int32)), (3, .int s), (4, .int (Int32.ofNat q))] [.int (Int32.ofNat p), .ref 76] g u (fun big n0 => sg_rf_49 big n0 g u (Int32.ofNat p) s (Int32.ofNat q)) ?_
      refine q_iald (j := p) (q_ixn (by omega) (by omega)) rfl rfl ?_
      refine q_if_eq rfl (fun (hc2 : (g 76 p) = 0) => ?_) (fun (hc2 : ¬ ((g 76 p) = 0)) => ?_)
      · refine q_step 7 59 [(0, .ref 70), (1, .int (Int32.ofNat p)), (2, .int (1 : Int32)), (3, .int s), (4, .int (Int32.ofNat q)), (5, .int (0 : Int32))] [.long (4 : Int64), .long (1 : Int64), .long (0 : Int64)] g u (fun big n0 => sg_rf_47 big n0 g u (Int32.ofNat p) s (Int32.ofNat q)) ?_
        refine q_call (M2 := 149) (rest := []) ((show q_BS 149 [.long (0 : Int64), .long (1 : Int64), .long (4 : Int64)] g u (some (.int 0), g, u) from b_in 0 1 4 g u)) (fun _ _ => rfl) ?_
        refine q_step 3 5 [(0, .ref 70), (1, .int (Int32.ofNat p)), (2, .int (1 : Int32)), (3, .int s), (4, .int ((Int32.ofNat q) + (1 : Int32))), (5, .int (0 : Int32))] [] g u (fun big n0 => sg_rf_48 big n0 g u (Int32.ofNat p) s (Int32.ofNat q)) ?_
        refine q_weak [(0, .ref 70), (1, .int (Int32.ofNat p)), (2, .int (1 : Int32)), (3, .int s), (4, .int ((Int32.ofNat q) + (1 : Int32)))] (q_sub.cons rfl (q_sub.cons rfl (q_sub.cons rfl (q_sub.cons rfl (q_sub.cons rfl q_sub.nil))))) ?_
        rw [q_succ]
        have e : (s_rt (g 70 2) (g 75) (g 76) (g 71) 1 p) q = 0 := by
          unfold s_rt
          rw [if_neg (fun z => hc1 (by rw [z])), if_pos hc2]
        rw [s_sf, e, Int32.zero_add]
        exact ih (q + 1) s (by omega)
      · refine q_step 3 35 [(0, .ref 70), (1, .int (Int32.ofNat p)), (2, .int (1 : Int32)), (3, .int s), (4, .int (Int32.ofNat q))] [.int (Int32.ofNat q), .ref 76] g u (fun big n0 => sg_rf_50 big n0 g u (Int32.ofNat p) s (Int32.ofNat q)) ?_
        refine q_iald (j := q) (q_ixn (by omega) (by omega)) rfl rfl ?_
        refine q_if_ne rfl (fun (hc3 : (g 76 q) = 0) => ?_) (fun (hc3 : ¬ ((g 76 q) = 0)) => ?_)
        · refine q_step 7 59 [(0, .ref 70), (1, .int (Int32.ofNat p)), (2, .int (1 : Int32)), (3, .int s), (4, .int (Int32.ofNat q)), (5, .int (0 : Int32))] [.long (4 : Int64), .long (1 : Int64), .long (0 : Int64)] g u (fun big n0 => sg_rf_47 big n0 g u (Int32.ofNat p) s (Int32.ofNat q)) ?_
          refine q_call (M2 := 149) (rest := []) ((show q_BS 149 [.long (0 : Int64), .long (1 : Int64), .long (4 : Int64)] g u (some (.int 0), g, u) from b_in 0 1 4 g u)) (fun _ _ => rfl) ?_
          refine q_step 3 5 [(0, .ref 70), (1, .int (Int32.ofNat p)), (2, .int (1 : Int32)), (3, .int s), (4, .int ((Int32.ofNat q) + (1 : Int32))), (5, .int (0 : Int32))] [] g u (fun big n0 => sg_rf_48 big n0 g u (Int32.ofNat p) s (Int32.ofNat q)) ?_
          refine q_weak [(0, .ref 70), (1, .int (Int32.ofNat p)), (2, .int (1 : Int32)), (3, .int s), (4, .int ((Int32.ofNat q) + (1 : Int32)))] (q_sub.cons rfl (q_sub.cons rfl (q_sub.cons rfl (q_sub.cons rfl (q_sub.cons rfl q_sub.nil))))) ?_
          rw [q_succ]
          have e : (s_rt (g 70 2) (g 75) (g 76) (g 71) 1 p) q = 0 := by
            unfold s_rt
            rw [if_neg (fun z => hc1 (by rw [z])), if_neg hc2, if_pos hc3]
          rw [s_sf, e, Int32.zero_add]
          exact ih (q + 1) s (by omega)
        · refine q_step 3 47 [(0, .ref 70), (1, .int (Int32.ofNat p)), (2, .int (1 : Int32)), (3, .int s), (4, .int (Int32.ofNat q))] [.int (Int32.ofNat q), .int (Int32.ofNat p), .ref 70] g u (fun big n0 => sg_rf_51 big n0 g u (Int32.ofNat p) s (Int32.ofNat q)) ?_
          refine q_call (M2 := 185) (rest := []) (b_apart g u (by omega) (by omega) hw) (fun _ _ => rfl) ?_
          refine q_step 5 59 [(0, .ref 70), (1, .int (Int32.ofNat p)), (2, .int (1 : Int32)), (3, .int s), (4, .int (Int32.ofNat q)), (5, .int (s_far (g 70 2) (g 75 q) (g 75 p)))] [.long (4 : Int64), .long (1 : Int64), .long (Int32.toInt64 (s_far (g 70 2) (g 75 q) (g 75 p)))] g u (fun big n0 => sg_rf_52 big n0 g u (Int32.ofNat p) s (Int32.ofNat q) (s_far (g 70 2) (g 75 q) (g 75 p))) ?_
          refine q_call (M2 := 149) (rest := []) (b_in _ _ _ _ _) (fun _ _ => rfl) ?_
          refine q_if_eq rfl (fun (hc4 : (s_in (Int32.toInt64 (s_far (g 70 2) (g 75 q) (g 75 p))) (1 : Int64) (4 : Int64)) = 0) => ?_) (fun (hc4 : ¬ ((s_in (Int32.toInt64 (s_far (g 70 2) (g 75 q) (g 75 p))) (1 : Int64) (4 : Int64)) = 0)) => ?_)
          · refine q_step 2 5 [(0, .ref 70), (1, .int (Int32.ofNat p)), (2, .int (1 : Int32)), (3, .int s), (4, .int ((Int32.ofNat q) + (1 : Int32))), (5, .int (s_far (g 70 2) (g 75 q) (g 75 p)))] [] g u (fun big n0 => sg_rf_53 big n0 g u (Int32.ofNat p) s (Int32.ofNat q) (s_far (g 70 2) (g 75 q) (g 75 p))) ?_
            refine q_weak [(0, .ref 70), (1, .int (Int32.ofNat p)), (2, .int (1 : Int32)), (3, .int s), (4, .int ((Int32.ofNat q) + (1 : Int32)))] (q_sub.cons rfl (q_sub.cons rfl (q_sub.cons rfl (q_sub.cons rfl (q_sub.cons rfl q_sub.nil))))) ?_
            rw [q_succ]
            have e : (s_rt (g 70 2) (g 75) (g 76) (g 71) 1 p) q = 0 := by
              unfold s_rt
              rw [if_neg (fun z => hc1 (by rw [z])), if_neg hc2, if_neg hc3, if_pos hc4]
            rw [s_sf, e, Int32.zero_add]
            exact ih (q + 1) s (by omega)
          · refine q_step 5 75 [(0, .ref 70), (1, .int (Int32.ofNat p)), (2, .int (1 : Int32)), (3, .int s), (4, .int (Int32.ofNat q)), (5, .int (s_far (g 70 2) (g 75 q) (g 75 p)))] [.int (Int32.ofNat q), .ref 75] g u (fun big n0 => sg_rf_54 big n0 g u (Int32.ofNat p) s (Int32.ofNat q) (s_far (g 70 2) (g 75 q) (g 75 p))) ?_
            refine q_iald (j := q) (q_ixn (by omega) (by omega)) rfl rfl ?_
            refine q_step 2 80 [(0, .ref 70), (1, .int (Int32.ofNat p)), (2, .int (1 : Int32)), (3, .int s), (4, .int (Int32.ofNat q)), (5, .int (s_far (g 70 2) (g 75 q) (g 75 p)))] [.int (g 70 2), .int (g 75 q)] g u (fun big n0 => sg_rf_55 big n0 g u (Int32.ofNat p) s (Int32.ofNat q) (s_far (g 70 2) (g 75 q) (g 75 p)) (g 75 q)) ?_
            refine q_idiv (hw) rfl ?_
            refine q_step 3 86 [(0, .ref 70), (1, .int (Int32.ofNat p)), (2, .int (1 : Int32)), (3, .int s), (4, .int (Int32.ofNat q)), (5, .int (s_far (g 70 2) (g 75 q) (g 75 p)))] [.int (Int32.ofNat p), .ref 75, .int ((g 75 q) / (g 70 2))] g u (fun big n0 => sg_rf_56 big n0 g u (Int32.ofNat p) s (Int32.ofNat q) (s_far (g 70 2) (g 75 q) (g 75 p)) ((g 75 q) / (g 70 2))) ?_
            refine q_iald (j := p) (q_ixn (by omega) (by omega)) rfl rfl ?_
            refine q_step 2 91 [(0, .ref 70), (1, .int (Int32.ofNat p)), (2, .int (1 : Int32)), (3, .int s), (4, .int (Int32.ofNat q)), (5, .int (s_far (g 70 2) (g 75 q) (g 75 p)))] [.int (g 70 2), .int (g 75 p), .int ((g 75 q) / (g 70 2))] g u (fun big n0 => sg_rf_57 big n0 g u (Int32.ofNat p) s (Int32.ofNat q) (s_far (g 70 2) (g 75 q) (g 75 p)) ((g 75 q) / (g 70 2)) (g 75 p)) ?_
            refine q_idiv (hw) rfl ?_
            refine q_step 1 93 [(0, .ref 70), (1, .int (Int32.ofNat p)), (2, .int (1 : Int32)), (3, .int s), (4, .int (Int32.ofNat q)), (5, .int (s_far (g 70 2) (g 75 q) (g 75 p)))] [.int (((g 75 q) / (g 70 2)) - ((g 75 p) / (g 70 2)))] g u (fun big n0 => sg_rf_58 big n0 g u (Int32.ofNat p) s (Int32.ofNat q) (s_far (g 70 2) (g 75 q) (g 75 p)) ((g 75 q) / (g 70 2)) ((g 75 p) / (g 70 2))) ?_
            refine q_call (M2 := 187) (rest := []) (b_sgn _ _ _) (fun _ _ => rfl) ?_
            refine q_step 10 140 [(0, .ref 70), (1, .int (Int32.ofNat p)), (2, .int (1 : Int32)), (3, .int s), (4, .int (Int32.ofNat q)), (5, .int (s_far (g 70 2) (g 75 q) (g 75 p))), (6, .int (s_sgn (((g 75 q) / (g 70 2)) - ((g 75 p) / (g 70 2)))))] [.int (((21 : Int32) + (s_far (g 70 2) (g 75 q) (g 75 p))) - (1 : Int32)), .ref 71, .int s] g u (fun big n0 => sg_rf_59 big n0 g u (Int32.ofNat p) s (Int32.ofNat q) (s_far (g 70 2) (g 75 q) (g 75 p)) (s_sgn (((g 75 q) / (g 70 2)) - ((g 75 p) / (g 70 2))))) ?_
            refine q_iald (j := ((((21 : Int32) + (s_far (g 70 2) (g 75 q) (g 75 p))) - (1 : Int32))).toInt.toNat) (by have h0 := s_in_i.mp (by assumption); have z1 : (1 : Int64).toInt = 1 := rfl; have z4 : (4 : Int64).toInt = 4 := rfl; rw [z1, z4] at h0; have h1 := s_pli h0.1 h0.2; exact q_ixi (by omega) (by omega)) rfl rfl ?_
            refine q_step 3 147 [(0, .ref 70), (1, .int (Int32.ofNat p)), (2, .int (1 : Int32)), (3, .int s), (4, .int (Int32.ofNat q)), (5, .int (s_far (g 70 2) (g 75 q) (g 75 p))), (6, .int (s_sgn (((g 75 q) / (g 70 2)) - ((g 75 p) / (g 70 2)))))] [.int (Int32.ofNat q), .ref 76, .int (g 71 ((((21 : Int32) + (s_far (g 70 2) (g 75 q) (g 75 p))) - (1 : Int32))).toInt.toNat), .int s] g u (fun big n0 => sg_rf_60 big n0 g u (Int32.ofNat p) s (Int32.ofNat q) (s_far (g 70 2) (g 75 q) (g 75 p)) (s_sgn (((g 75 q) / (g 70 2)) - ((g 75 p) / (g 70 2)))) s (g 71 ((((21 : Int32) + (s_far (g 70 2) (g 75 q) (g 75 p))) - (1 : Int32))).toInt.toNat)) ?_
            refine q_iald (j := q) (q_ixn (by omega) (by omega)) rfl rfl ?_
            refine q_step 3 153 [(0, .ref 70), (1, .int (Int32.ofNat p)), (2, .int (1 : Int32)), (3, .int s), (4, .int (Int32.ofNat q)), (5, .int (s_far (g 70 2) (g 75 q) (g 75 p))), (6, .int (s_sgn (((g 75 q) / (g 70 2)) - ((g 75 p) / (g 70 2)))))] [.int (Int32.ofNat p), .ref 76, .int (g 76 q), .int (g 71 ((((21 : Int32) + (s_far (g 70 2) (g 75 q) (g 75 p))) - (1 : Int32))).toInt.toNat), .int s] g u (fun big n0 => sg_rf_61 big n0 g u (Int32.ofNat p) s (Int32.ofNat q) (s_far (g 70 2) (g 75 q) (g 75 p)) (s_sgn (((g 75 q) / (g 70 2)) - ((g 75 p) / (g 70 2)))) s (g 71 ((((21 : Int32) + (s_far (g 70 2) (g 75 q) (g 75 p))) - (1 : Int32))).toInt.toNat) (g 76 q)) ?_
            refine q_iald (j := p) (q_ixn (by omega) (by omega)) rfl rfl ?_
            refine q_ic_ne rfl (fun (hc5 : (g 76 q) = (g 76 p)) => ?_) (fun (hc5 : ¬ ((g 76 q) = (g 76 p))) => ?_)
            · refine q_step 8 5 [(0, .ref 70), (1, .int (Int32.ofNat p)), (2, .int (1 : Int32)), (3, .int (s + ((g 71 ((((21 : Int32) + (s_far (g 70 2) (g 75 q) (g 75 p))) - (1 : Int32))).toInt.toNat) * (-(s_sgn (((g 75 q) / (g 70 2)) - ((g 75 p) / (g 70 2)))))))), (4, .int ((Int32.ofNat q) + (1 : Int32))), (5, .int (s_far (g 70 2) (g 75 q) (g 75 p))), (6, .int (s_sgn (((g 75 q) / (g 70 2)) - ((g 75 p) / (g 70 2)))))] [] g u (fun big n0 => sg_rf_62 big n0 g u (Int32.ofNat p) s (Int32.ofNat q) (s_far (g 70 2) (g 75 q) (g 75 p)) (s_sgn (((g 75 q) / (g 70 2)) - ((g 75 p) / (g 70 2)))) s (g 71 ((((21 : Int32) + (s_far (g 70 2) (g 75 q) (g 75 p))) - (1 : Int32))).toInt.toNat)) ?_
              refine q_weak [(0, .ref 70), (1, .int (Int32.ofNat p)), (2, .int (1 : Int32)), (3, .int (s + ((g 71 ((((21 : Int32) + (s_far (g 70 2) (g 75 q) (g 75 p))) - (1 : Int32))).toInt.toNat) * (-(s_sgn (((g 75 q) / (g 70 2)) - ((g 75 p) / (g 70 2)))))))), (4, .int ((Int32.ofNat q) + (1 : Int32)))] (q_sub.cons rfl (q_sub.cons rfl (q_sub.cons rfl (q_sub.cons rfl (q_sub.cons rfl q_sub.nil))))) ?_
              rw [q_succ]
              have e : (s_rt (g 70 2) (g 75) (g 76) (g 71) 1 p) q = ((g 71 ((((21 : Int32) + (s_far (g 70 2) (g 75 q) (g 75 p))) - (1 : Int32))).toInt.toNat) * (-(s_sgn (((g 75 q) / (g 70 2)) - ((g 75 p) / (g 70 2)))))) := by
                unfold s_rt
                rw [if_neg (fun z => hc1 (by rw [z])), if_neg hc2, if_neg hc3, if_neg hc4, if_pos hc5]
                first
                  | rfl
                  | (simp only [if_pos, if_neg]; rfl)
              rw [s_sf, e, ← Int32.add_assoc]
              exact ih (q + 1) _ (by omega)
            · refine q_step 6 5 [(0, .ref 70), (1, .int (Int32.ofNat p)), (2, .int (1 : Int32)), (3, .int (s + ((g 71 ((((21 : Int32) + (s_far (g 70 2) (g 75 q) (g 75 p))) - (1 : Int32))).toInt.toNat) * (s_sgn (((g 75 q) / (g 70 2)) - ((g 75 p) / (g 70 2))))))), (4, .int ((Int32.ofNat q) + (1 : Int32))), (5, .int (s_far (g 70 2) (g 75 q) (g 75 p))), (6, .int (s_sgn (((g 75 q) / (g 70 2)) - ((g 75 p) / (g 70 2)))))] [] g u (fun big n0 => sg_rf_63 big n0 g u (Int32.ofNat p) s (Int32.ofNat q) (s_far (g 70 2) (g 75 q) (g 75 p)) (s_sgn (((g 75 q) / (g 70 2)) - ((g 75 p) / (g 70 2)))) s (g 71 ((((21 : Int32) + (s_far (g 70 2) (g 75 q) (g 75 p))) - (1 : Int32))).toInt.toNat)) ?_
              refine q_weak [(0, .ref 70), (1, .int (Int32.ofNat p)), (2, .int (1 : Int32)), (3, .int (s + ((g 71 ((((21 : Int32) + (s_far (g 70 2) (g 75 q) (g 75 p))) - (1 : Int32))).toInt.toNat) * (s_sgn (((g 75 q) / (g 70 2)) - ((g 75 p) / (g 70 2))))))), (4, .int ((Int32.ofNat q) + (1 : Int32)))] (q_sub.cons rfl (q_sub.cons rfl (q_sub.cons rfl (q_sub.cons rfl (q_sub.cons rfl q_sub.nil))))) ?_
              rw [q_succ]
              have e : (s_rt (g 70 2) (g 75) (g 76) (g 71) 1 p) q = ((g 71 ((((21 : Int32) + (s_far (g 70 2) (g 75 q) (g 75 p))) - (1 : Int32))).toInt.toNat) * (s_sgn (((g 75 q) / (g 70 2)) - ((g 75 p) / (g 70 2))))) := by
                unfold s_rt
                rw [if_neg (fun z => hc1 (by rw [z])), if_neg hc2, if_neg hc3, if_neg hc4, if_neg hc5]
                first
                  | rfl
                  | (simp only [if_pos, if_neg]; rfl)
              rw [s_sf, e, ← Int32.add_assoc]
              exact ih (q + 1) _ (by omega)
theorem b_rf1 (g : qM) (u : qW) {n p : Nat} (hn : g 70 27 = Int32.ofNat n) (h6 : n ≤ 6) (hp : p < n) (hw : g 70 2 ≠ 0) : q_BS 184 [.ref 70, .int (Int32.ofNat p), .int (1 : Int32)] g u (some (.int (s_rf (g 70 2) (g 75) (g 76) (g 71) n 1 p)), g, u) := by
  refine q_bx (mm := m_184) rfl (Nat.le_of_ble_eq_true rfl) rfl ?_
  refine q_step 4 5 [(0, .ref 70), (1, .int (Int32.ofNat p)), (2, .int (1 : Int32)), (3, .int (0 : Int32)), (4, .int (0 : Int32))] [] g u (fun big n0 => sg_rf_64 big n0 g u (Int32.ofNat p)) ?_
  exact rf_l1 g u hn h6 hp hw n 0 0 (by omega)
theorem b_rw (g : qM) (u : qW) {n p : Nat} (hn : g 70 27 = Int32.ofNat n) (h6 : n ≤ 6) (hp : p < n) (hw : g 70 2 ≠ 0) : q_BS 189 [.ref 70, .int (Int32.ofNat p)] g u (some (.int (s_rw (g 70 2) (g 75) (g 76) (g 77) (g 71) n p)), g, u) := by
  refine q_bx (mm := m_189) rfl (Nat.le_of_ble_eq_true rfl) rfl ?_
  refine q_step 3 5 [(0, .ref 70), (1, .int (Int32.ofNat p))] [.int (Int32.ofNat p), .ref 77] g u (fun big n0 => sg_rf_65 big n0 g u (Int32.ofNat p)) ?_
  refine q_iald (j := p) (q_ixn (by omega) (by omega)) rfl rfl ?_
  refine q_step 1 7 [(0, .ref 70), (1, .int (Int32.ofNat p))] [.int (1 : Int32), .int (g 77 p)] g u (fun big n0 => sg_rf_66 big n0 g u (Int32.ofNat p) (g 77 p)) ?_
  refine q_ic_ne rfl (fun (hc0 : (g 77 p) = (1 : Int32)) => ?_) (fun (hc0 : ¬ ((g 77 p) = (1 : Int32))) => ?_)
  · refine q_step 6 26 [(0, .ref 70), (1, .int (Int32.ofNat p)), (2, .int (0 : Int32))] [.int (Int32.ofNat p), .ref 77] g u (fun big n0 => sg_rf_67 big n0 g u (Int32.ofNat p)) ?_
    refine q_iald (j := p) (q_ixn (by omega) (by omega)) rfl rfl ?_
    refine q_step 1 28 [(0, .ref 70), (1, .int (Int32.ofNat p)), (2, .int (0 : Int32))] [.int (1 : Int32), .int (g 77 p)] g u (fun big n0 => sg_rf_68 big n0 g u (Int32.ofNat p) (g 77 p)) ?_
    refine q_ic_ne rfl (fun (hc1 : (g 77 p) = (1 : Int32)) => ?_) (fun hc1 => absurd (show (g 77 p) = (1 : Int32) from hc0) hc1)
    refine q_ret 11 (some (.int (4 : Int32)), g, u) (fun _ _ => rfl) ?_
    unfold s_rw s_rway s_rway2
    simp only [hc0, hc1, if_true, if_false]
    all_goals rfl
  · refine q_step 3 17 [(0, .ref 70), (1, .int (Int32.ofNat p))] [.int (0 : Int32), .int (Int32.ofNat p), .ref 70] g u (fun big n0 => sg_rf_69 big n0 g u (Int32.ofNat p)) ?_
    refine q_call (M2 := 184) (rest := []) (b_rf0 g u hn h6 hp hw) (fun _ _ => rfl) ?_
    refine q_step 4 26 [(0, .ref 70), (1, .int (Int32.ofNat p)), (2, .int (s_rf (g 70 2) (g 75) (g 76) (g 71) n 0 p))] [.int (Int32.ofNat p), .ref 77] g u (fun big n0 => sg_rf_70 big n0 g u (Int32.ofNat p) (s_rf (g 70 2) (g 75) (g 76) (g 71) n 0 p)) ?_
    refine q_iald (j := p) (q_ixn (by omega) (by omega)) rfl rfl ?_
    refine q_step 1 28 [(0, .ref 70), (1, .int (Int32.ofNat p)), (2, .int (s_rf (g 70 2) (g 75) (g 76) (g 71) n 0 p))] [.int (1 : Int32), .int (g 77 p)] g u (fun big n0 => sg_rf_71 big n0 g u (Int32.ofNat p) (s_rf (g 70 2) (g 75) (g 76) (g 71) n 0 p) (g 77 p)) ?_
    refine q_ic_ne rfl (fun hc1 => absurd (show (g 77 p) = (1 : Int32) from hc1) (hc0)) (fun (hc1 : ¬ ((g 77 p) = (1 : Int32))) => ?_)
    refine q_step 3 38 [(0, .ref 70), (1, .int (Int32.ofNat p)), (2, .int (s_rf (g 70 2) (g 75) (g 76) (g 71) n 0 p))] [.int (1 : Int32), .int (Int32.ofNat p), .ref 70] g u (fun big n0 => sg_rf_72 big n0 g u (Int32.ofNat p) (s_rf (g 70 2) (g 75) (g 76) (g 71) n 0 p)) ?_
    refine q_call (M2 := 184) (rest := []) (b_rf1 g u hn h6 hp hw) (fun _ _ => rfl) ?_
    refine q_step 2 43 [(0, .ref 70), (1, .int (Int32.ofNat p)), (2, .int (s_rf (g 70 2) (g 75) (g 76) (g 71) n 0 p)), (3, .int (s_rf (g 70 2) (g 75) (g 76) (g 71) n 1 p))] [.int (s_rf (g 70 2) (g 75) (g 76) (g 71) n 0 p)] g u (fun big n0 => sg_rf_73 big n0 g u (Int32.ofNat p) (s_rf (g 70 2) (g 75) (g 76) (g 71) n 0 p) (s_rf (g 70 2) (g 75) (g 76) (g 71) n 1 p)) ?_
    refine q_if_eq rfl (fun (hc2 : (s_rf (g 70 2) (g 75) (g 76) (g 71) n 0 p) = 0) => ?_) (fun (hc2 : ¬ ((s_rf (g 70 2) (g 75) (g 76) (g 71) n 0 p) = 0)) => ?_)
    · refine q_step 1 68 [(0, .ref 70), (1, .int (Int32.ofNat p)), (2, .int (s_rf (g 70 2) (g 75) (g 76) (g 71) n 0 p)), (3, .int (s_rf (g 70 2) (g 75) (g 76) (g 71) n 1 p))] [.int (s_rf (g 70 2) (g 75) (g 76) (g 71) n 1 p)] g u (fun big n0 => sg_rf_74 big n0 g u (Int32.ofNat p) (s_rf (g 70 2) (g 75) (g 76) (g 71) n 0 p) (s_rf (g 70 2) (g 75) (g 76) (g 71) n 1 p)) ?_
      refine q_if_le rfl (fun (hc3 : (s_rf (g 70 2) (g 75) (g 76) (g 71) n 1 p) ≤ 0) => ?_) (fun (hc3 : ¬ ((s_rf (g 70 2) (g 75) (g 76) (g 71) n 1 p) ≤ 0)) => ?_)
      · refine q_step 1 76 [(0, .ref 70), (1, .int (Int32.ofNat p)), (2, .int (s_rf (g 70 2) (g 75) (g 76) (g 71) n 0 p)), (3, .int (s_rf (g 70 2) (g 75) (g 76) (g 71) n 1 p))] [.int (s_rf (g 70 2) (g 75) (g 76) (g 71) n 1 p)] g u (fun big n0 => sg_rf_75 big n0 g u (Int32.ofNat p) (s_rf (g 70 2) (g 75) (g 76) (g 71) n 0 p) (s_rf (g 70 2) (g 75) (g 76) (g 71) n 1 p)) ?_
        refine q_if_ge rfl (fun (hc4 : 0 ≤ (s_rf (g 70 2) (g 75) (g 76) (g 71) n 1 p)) => ?_) (fun (hc4 : ¬ (0 ≤ (s_rf (g 70 2) (g 75) (g 76) (g 71) n 1 p))) => ?_)
        · refine q_ret 2 (some (.int (4 : Int32)), g, u) (fun _ _ => rfl) ?_
          unfold s_rw s_rway s_rway2
          simp only [hc0, hc1, hc2, hc3, hc4, if_true, if_false]
          all_goals rfl
        · refine q_ret 3 (some (.int (0 : Int32)), g, u) (fun _ _ => rfl) ?_
          unfold s_rw s_rway s_rway2
          simp only [hc0, hc1, hc2, hc3, hc4, if_true, if_false]
          all_goals rfl
      · refine q_ret 3 (some (.int (2 : Int32)), g, u) (fun _ _ => rfl) ?_
        unfold s_rw s_rway s_rway2
        simp only [hc0, hc1, hc2, hc3, if_true, if_false]
        all_goals rfl
    · refine q_step 1 47 [(0, .ref 70), (1, .int (Int32.ofNat p)), (2, .int (s_rf (g 70 2) (g 75) (g 76) (g 71) n 0 p)), (3, .int (s_rf (g 70 2) (g 75) (g 76) (g 71) n 1 p))] [.int (s_rf (g 70 2) (g 75) (g 76) (g 71) n 0 p)] g u (fun big n0 => sg_rf_76 big n0 g u (Int32.ofNat p) (s_rf (g 70 2) (g 75) (g 76) (g 71) n 0 p) (s_rf (g 70 2) (g 75) (g 76) (g 71) n 1 p)) ?_
      refine q_call (M2 := 186) (rest := []) (b_rabs _ _ _) (fun _ _ => rfl) ?_
      refine q_step 1 51 [(0, .ref 70), (1, .int (Int32.ofNat p)), (2, .int (s_rf (g 70 2) (g 75) (g 76) (g 71) n 0 p)), (3, .int (s_rf (g 70 2) (g 75) (g 76) (g 71) n 1 p))] [.int (s_rf (g 70 2) (g 75) (g 76) (g 71) n 1 p), .int (s_abs (s_rf (g 70 2) (g 75) (g 76) (g 71) n 0 p))] g u (fun big n0 => sg_rf_77 big n0 g u (Int32.ofNat p) (s_rf (g 70 2) (g 75) (g 76) (g 71) n 0 p) (s_rf (g 70 2) (g 75) (g 76) (g 71) n 1 p) (s_abs (s_rf (g 70 2) (g 75) (g 76) (g 71) n 0 p))) ?_
      refine q_call (M2 := 186) (rest := [.int (s_abs (s_rf (g 70 2) (g 75) (g 76) (g 71) n 0 p))]) (b_rabs _ _ _) (fun _ _ => rfl) ?_
      refine q_ic_lt rfl (fun (hc3 : (s_abs (s_rf (g 70 2) (g 75) (g 76) (g 71) n 0 p)) < (s_abs (s_rf (g 70 2) (g 75) (g 76) (g 71) n 1 p))) => ?_) (fun (hc3 : ¬ ((s_abs (s_rf (g 70 2) (g 75) (g 76) (g 71) n 0 p)) < (s_abs (s_rf (g 70 2) (g 75) (g 76) (g 71) n 1 p)))) => ?_)
      · refine q_step 1 68 [(0, .ref 70), (1, .int (Int32.ofNat p)), (2, .int (s_rf (g 70 2) (g 75) (g 76) (g 71) n 0 p)), (3, .int (s_rf (g 70 2) (g 75) (g 76) (g 71) n 1 p))] [.int (s_rf (g 70 2) (g 75) (g 76) (g 71) n 1 p)] g u (fun big n0 => sg_rf_74 big n0 g u (Int32.ofNat p) (s_rf (g 70 2) (g 75) (g 76) (g 71) n 0 p) (s_rf (g 70 2) (g 75) (g 76) (g 71) n 1 p)) ?_
        refine q_if_le rfl (fun (hc4 : (s_rf (g 70 2) (g 75) (g 76) (g 71) n 1 p) ≤ 0) => ?_) (fun (hc4 : ¬ ((s_rf (g 70 2) (g 75) (g 76) (g 71) n 1 p) ≤ 0)) => ?_)
        · refine q_step 1 76 [(0, .ref 70), (1, .int (Int32.ofNat p)), (2, .int (s_rf (g 70 2) (g 75) (g 76) (g 71) n 0 p)), (3, .int (s_rf (g 70 2) (g 75) (g 76) (g 71) n 1 p))] [.int (s_rf (g 70 2) (g 75) (g 76) (g 71) n 1 p)] g u (fun big n0 => sg_rf_75 big n0 g u (Int32.ofNat p) (s_rf (g 70 2) (g 75) (g 76) (g 71) n 0 p) (s_rf (g 70 2) (g 75) (g 76) (g 71) n 1 p)) ?_
          refine q_if_ge rfl (fun (hc5 : 0 ≤ (s_rf (g 70 2) (g 75) (g 76) (g 71) n 1 p)) => ?_) (fun (hc5 : ¬ (0 ≤ (s_rf (g 70 2) (g 75) (g 76) (g 71) n 1 p))) => ?_)
          · refine q_ret 2 (some (.int (4 : Int32)), g, u) (fun _ _ => rfl) ?_
            unfold s_rw s_rway s_rway2
            simp only [hc0, hc1, hc2, hc3, hc4, hc5, if_true, if_false]
            all_goals rfl
          · refine q_ret 3 (some (.int (0 : Int32)), g, u) (fun _ _ => rfl) ?_
            unfold s_rw s_rway s_rway2
            simp only [hc0, hc1, hc2, hc3, hc4, hc5, if_true, if_false]
            all_goals rfl
        · refine q_ret 3 (some (.int (2 : Int32)), g, u) (fun _ _ => rfl) ?_
          unfold s_rw s_rway s_rway2
          simp only [hc0, hc1, hc2, hc3, hc4, if_true, if_false]
          all_goals rfl
      · refine q_step 1 58 [(0, .ref 70), (1, .int (Int32.ofNat p)), (2, .int (s_rf (g 70 2) (g 75) (g 76) (g 71) n 0 p)), (3, .int (s_rf (g 70 2) (g 75) (g 76) (g 71) n 1 p))] [.int (s_rf (g 70 2) (g 75) (g 76) (g 71) n 0 p)] g u (fun big n0 => sg_rf_78 big n0 g u (Int32.ofNat p) (s_rf (g 70 2) (g 75) (g 76) (g 71) n 0 p) (s_rf (g 70 2) (g 75) (g 76) (g 71) n 1 p)) ?_
        refine q_if_le rfl (fun (hc4 : (s_rf (g 70 2) (g 75) (g 76) (g 71) n 0 p) ≤ 0) => ?_) (fun (hc4 : ¬ ((s_rf (g 70 2) (g 75) (g 76) (g 71) n 0 p) ≤ 0)) => ?_)
        · refine q_ret 2 (some (.int (3 : Int32)), g, u) (fun _ _ => rfl) ?_
          unfold s_rw s_rway s_rway2
          simp only [hc0, hc1, hc2, hc3, hc4, if_true, if_false]
          all_goals rfl
        · refine q_ret 3 (some (.int (1 : Int32)), g, u) (fun _ _ => rfl) ?_
          unfold s_rw s_rway s_rway2
          simp only [hc0, hc1, hc2, hc3, hc4, if_true, if_false]
          all_goals rfl
end
section
/-! A STEP of the reference. -/
def s_oc (c : Nat → Int32) (n : Nat) (x : Int32) : Int32 := if x = i_none then 0 else if s_wl c x n 0 i_none = i_none then 0 else 1
def s_cn (w h : Int32) (c : Nat → Int32) (n p : Nat) : Int32 := 0 + s_oc c n (s_to w h (c p) 0) + s_oc c n (s_to w h (c p) 1) + s_oc c n (s_to w h (c p) 2) + s_oc c n (s_to w h (c p) 3)
def s_pr (w h pr : Int32) (c mo : Nat → Int32) (n p : Nat) : Int32 := if mo p ≤ 0 then 0 else if pr ≤ 0 then 0 else if s_cn w h c n p < pr then 0 else 1
/-- the first i places of the row A by f -/
def s_row_ (A : Nat) (f : Nat → Int32) (i : Nat) (g : qM) : qM := fun a j => if a = A then (if j < i then f j else g A j) else g a j
theorem s_row_s {A : Nat} {f : Nat → Int32} {i : Nat} {g : qM} : q_up (s_row_ A f i g) A i (f i) = s_row_ A f (i + 1) g := by
  funext a j
  simp only [q_up_eq, s_row_]
  by_cases h : a = A
  · by_cases e : j = i
    · subst e
      simp [h]
    · have q : (j < i + 1) = (j < i) := propext ⟨fun h => by omega, fun h => by omega⟩
      simp only [h, e, and_false, if_false, q]
  · simp [h]
theorem s_row_0 {A : Nat} {f : Nat → Int32} {g : qM} : s_row_ A f 0 g = g := by
  funext a j
  simp only [s_row_, Nat.not_lt_zero, if_false]
  split
  · rename_i h
    rw [h]
  · rfl
def s_N (c wt : Nat → Int32) (g : qM) : qM := fun a j => if a = 75 then c j else if a = 80 then wt j else g a j
theorem s_N_c {c wt : Nat → Int32} {g : qM} {i : Nat} {x : Int32} : q_up (s_N c wt g) 75 i x = s_N (s_set c i x) wt g := by
  funext a j
  simp only [q_up_eq, s_N, s_set]
  by_cases h : a = 75
  · by_cases e : j = i
    · simp [h, e]
    · simp [h, e]
  · simp [h]
theorem s_N_w {c wt : Nat → Int32} {g : qM} {i : Nat} {x : Int32} : q_up (s_N c wt g) 80 i x = s_N c (s_set wt i x) g := by
  funext a j
  simp only [q_up_eq, s_N, s_set]
  by_cases h : a = 80
  · by_cases e : j = i
    · simp [h, e]
    · simp [h, e]
  · simp [h]
theorem s_N_0 {g : qM} : s_N (g 75) (g 80) g = g := by
  funext a j
  unfold s_N
  split
  · rename_i h
    rw [h]
  · split
    · rename_i h
      rw [h]
    · rfl
theorem s_set_same (c : Nat → Int32) (i : Nat) : s_set c i (c i) = c := by
  funext j
  unfold s_set
  split
  · rename_i h
    rw [h]
  · rfl
abbrev s_RS : Type := (Nat → Int32) × (Nat → Int32) × Int32
def s_rm (w h wl : Int32) (wy : Nat → Int32) (n : Nat) : Nat → Nat → (Nat → Int32) → (Nat → Int32) → Int32 → s_RS
  | 0, _, c, wt, an => (c, wt, an)
  | k + 1, i, c, wt, an => if s_op wl (s_to w h (c i) (wy i)) = 0 then s_rm w h wl wy n k (i + 1) c (s_set wt i 4) an else if s_wl c (s_to w h (c i) (wy i)) n 0 i_none = i_none then s_rm w h wl wy n k (i + 1) (s_set c i (s_to w h (c i) (wy i))) (s_set wt i (wy i)) 1 else s_rm w h wl wy n k (i + 1) c (s_set wt i 4) an
def s_ra (fl : Nat → Int32) : Nat → Nat → Int32 → Int32
  | 0, _, an => an
  | k + 1, i, an => s_ra fl k (i + 1) (if an = 0 then (if fl i = 1 then 1 else 0) else 1)
theorem sg_rs_1 (big : Nat → List Value → qM → qW → qR) (n0 : Nat) (G : qM) (U : qW) (v0 : Int32) (v1 : Int32) : qm_run pm_m big m_193 (n0 + 7) 4 [(0, .ref 70), (1, .int v0), (2, .int v1), (3, .int (0 : Int32))] [] G U = qm_run pm_m big m_193 n0 15 [(0, .ref 70), (1, .int v0), (2, .int v1), (3, .int (0 : Int32))] [.int v0, .ref 75, .ref 70] G U := rfl
theorem sg_rs_2 (big : Nat → List Value → qM → qW → qR) (n0 : Nat) (G : qM) (U : qW) (v0 : Int32) (v1 : Int32) (v2 : Int32) : qm_run pm_m big m_193 (n0 + 1) 16 [(0, .ref 70), (1, .int v0), (2, .int v1), (3, .int (0 : Int32))] [.int v2, .ref 70] G U = qm_run pm_m big m_193 n0 17 [(0, .ref 70), (1, .int v0), (2, .int v1), (3, .int (0 : Int32))] [.int (0 : Int32), .int v2, .ref 70] G U := rfl
theorem sg_rs_3 (big : Nat → List Value → qM → qW → qR) (n0 : Nat) (G : qM) (U : qW) (v0 : Int32) (v1 : Int32) (v2 : Int32) : qm_run pm_m big m_193 (n0 + 4) 20 [(0, .ref 70), (1, .int v0), (2, .int v1), (3, .int (0 : Int32))] [.int v2] G U = qm_run pm_m big m_193 n0 27 [(0, .ref 70), (1, .int v0), (2, .int v1), (3, .int (0 : Int32)), (4, .int v2)] [.int (Int8.toInt32 (Int8.ofInt (-4))), .int v2, .int v1] G U := rfl
theorem sg_rs_4 (big : Nat → List Value → qM → qW → qR) (n0 : Nat) (G : qM) (U : qW) (v0 : Int32) (v1 : Int32) (v2 : Int32) (v3 : Int32) : qm_run pm_m big m_193 (n0 + 1) 45 [(0, .ref 70), (1, .int v0), (2, .int v1), (3, .int (0 : Int32)), (4, .int v2)] [.int v3] G U = qm_run pm_m big m_193 n0 46 [(0, .ref 70), (1, .int v0), (2, .int v1), (3, .int (0 : Int32)), (4, .int v2)] [.int (0 : Int32), .int v3] G U := rfl
theorem sg_rs_5 (big : Nat → List Value → qM → qW → qR) (n0 : Nat) (G : qM) (U : qW) (v0 : Int32) (v1 : Int32) (v2 : Int32) (v3 : Int32) : qm_run pm_m big m_193 (n0 + 4) 49 [(0, .ref 70), (1, .int v0), (2, .int v1), (3, .int (0 : Int32)), (4, .int v2)] [.int (0 : Int32), .int v3] G U = qm_run pm_m big m_193 n0 4 [(0, .ref 70), (1, .int v0), (2, .int (v3 + (0 : Int32))), (3, .int (1 : Int32)), (4, .int v2)] [] G U := rfl
theorem sg_rs_6 (big : Nat → List Value → qM → qW → qR) (n0 : Nat) (G : qM) (U : qW) (v0 : Int32) (v1 : Int32) (v2 : Int32) (v3 : Int32) : qm_run pm_m big m_193 (n0 + 2) 30 [(0, .ref 70), (1, .int v0), (2, .int v1), (3, .int (0 : Int32)), (4, .int v2)] [.int v3] G U = qm_run pm_m big m_193 n0 33 [(0, .ref 70), (1, .int v0), (2, .int v1), (3, .int (0 : Int32)), (4, .int v2)] [.int v2, .ref 70, .int v3] G U := rfl
theorem sg_rs_7 (big : Nat → List Value → qM → qW → qR) (n0 : Nat) (G : qM) (U : qW) (v0 : Int32) (v1 : Int32) (v2 : Int32) (v3 : Int32) (v4 : Int32) : qm_run pm_m big m_193 (n0 + 1) 36 [(0, .ref 70), (1, .int v0), (2, .int v1), (3, .int (0 : Int32)), (4, .int v2)] [.int v4, .int v3] G U = qm_run pm_m big m_193 n0 38 [(0, .ref 70), (1, .int v0), (2, .int v1), (3, .int (0 : Int32)), (4, .int v2)] [.int (Int8.toInt32 (Int8.ofInt (-4))), .int v4, .int v3] G U := rfl
theorem sg_rs_8 (big : Nat → List Value → qM → qW → qR) (n0 : Nat) (G : qM) (U : qW) (v0 : Int32) (v1 : Int32) (v2 : Int32) (v3 : Int32) : qm_run pm_m big m_193 (n0 + 2) 41 [(0, .ref 70), (1, .int v0), (2, .int v1), (3, .int (0 : Int32)), (4, .int v2)] [.int v3] G U = qm_run pm_m big m_193 n0 46 [(0, .ref 70), (1, .int v0), (2, .int v1), (3, .int (0 : Int32)), (4, .int v2)] [.int (1 : Int32), .int v3] G U := rfl
theorem sg_rs_9 (big : Nat → List Value → qM → qW → qR) (n0 : Nat) (G : qM) (U : qW) (v0 : Int32) (v1 : Int32) (v2 : Int32) (v3 : Int32) : qm_run pm_m big m_193 (n0 + 4) 49 [(0, .ref 70), (1, .int v0), (2, .int v1), (3, .int (0 : Int32)), (4, .int v2)] [.int (1 : Int32), .int v3] G U = qm_run pm_m big m_193 n0 4 [(0, .ref 70), (1, .int v0), (2, .int (v3 + (1 : Int32))), (3, .int (1 : Int32)), (4, .int v2)] [] G U := rfl
theorem sg_rs_10 (big : Nat → List Value → qM → qW → qR) (n0 : Nat) (G : qM) (U : qW) (v0 : Int32) (v1 : Int32) : qm_run pm_m big m_193 (n0 + 7) 4 [(0, .ref 70), (1, .int v0), (2, .int v1), (3, .int (1 : Int32))] [] G U = qm_run pm_m big m_193 n0 15 [(0, .ref 70), (1, .int v0), (2, .int v1), (3, .int (1 : Int32))] [.int v0, .ref 75, .ref 70] G U := rfl
theorem sg_rs_11 (big : Nat → List Value → qM → qW → qR) (n0 : Nat) (G : qM) (U : qW) (v0 : Int32) (v1 : Int32) (v2 : Int32) : qm_run pm_m big m_193 (n0 + 1) 16 [(0, .ref 70), (1, .int v0), (2, .int v1), (3, .int (1 : Int32))] [.int v2, .ref 70] G U = qm_run pm_m big m_193 n0 17 [(0, .ref 70), (1, .int v0), (2, .int v1), (3, .int (1 : Int32))] [.int (1 : Int32), .int v2, .ref 70] G U := rfl
theorem sg_rs_12 (big : Nat → List Value → qM → qW → qR) (n0 : Nat) (G : qM) (U : qW) (v0 : Int32) (v1 : Int32) (v2 : Int32) : qm_run pm_m big m_193 (n0 + 4) 20 [(0, .ref 70), (1, .int v0), (2, .int v1), (3, .int (1 : Int32))] [.int v2] G U = qm_run pm_m big m_193 n0 27 [(0, .ref 70), (1, .int v0), (2, .int v1), (3, .int (1 : Int32)), (4, .int v2)] [.int (Int8.toInt32 (Int8.ofInt (-4))), .int v2, .int v1] G U := rfl
theorem sg_rs_13 (big : Nat → List Value → qM → qW → qR) (n0 : Nat) (G : qM) (U : qW) (v0 : Int32) (v1 : Int32) (v2 : Int32) (v3 : Int32) : qm_run pm_m big m_193 (n0 + 1) 45 [(0, .ref 70), (1, .int v0), (2, .int v1), (3, .int (1 : Int32)), (4, .int v2)] [.int v3] G U = qm_run pm_m big m_193 n0 46 [(0, .ref 70), (1, .int v0), (2, .int v1), (3, .int (1 : Int32)), (4, .int v2)] [.int (0 : Int32), .int v3] G U := rfl
theorem sg_rs_14 (big : Nat → List Value → qM → qW → qR) (n0 : Nat) (G : qM) (U : qW) (v0 : Int32) (v1 : Int32) (v2 : Int32) (v3 : Int32) : qm_run pm_m big m_193 (n0 + 4) 49 [(0, .ref 70), (1, .int v0), (2, .int v1), (3, .int (1 : Int32)), (4, .int v2)] [.int (0 : Int32), .int v3] G U = qm_run pm_m big m_193 n0 4 [(0, .ref 70), (1, .int v0), (2, .int (v3 + (0 : Int32))), (3, .int (2 : Int32)), (4, .int v2)] [] G U := rfl
theorem sg_rs_15 (big : Nat → List Value → qM → qW → qR) (n0 : Nat) (G : qM) (U : qW) (v0 : Int32) (v1 : Int32) (v2 : Int32) (v3 : Int32) : qm_run pm_m big m_193 (n0 + 2) 30 [(0, .ref 70), (1, .int v0), (2, .int v1), (3, .int (1 : Int32)), (4, .int v2)] [.int v3] G U = qm_run pm_m big m_193 n0 33 [(0, .ref 70), (1, .int v0), (2, .int v1), (3, .int (1 : Int32)), (4, .int v2)] [.int v2, .ref 70, .int v3] G U := rfl
theorem sg_rs_16 (big : Nat → List Value → qM → qW → qR) (n0 : Nat) (G : qM) (U : qW) (v0 : Int32) (v1 : Int32) (v2 : Int32) (v3 : Int32) (v4 : Int32) : qm_run pm_m big m_193 (n0 + 1) 36 [(0, .ref 70), (1, .int v0), (2, .int v1), (3, .int (1 : Int32)), (4, .int v2)] [.int v4, .int v3] G U = qm_run pm_m big m_193 n0 38 [(0, .ref 70), (1, .int v0), (2, .int v1), (3, .int (1 : Int32)), (4, .int v2)] [.int (Int8.toInt32 (Int8.ofInt (-4))), .int v4, .int v3] G U := rfl
theorem sg_rs_17 (big : Nat → List Value → qM → qW → qR) (n0 : Nat) (G : qM) (U : qW) (v0 : Int32) (v1 : Int32) (v2 : Int32) (v3 : Int32) : qm_run pm_m big m_193 (n0 + 2) 41 [(0, .ref 70), (1, .int v0), (2, .int v1), (3, .int (1 : Int32)), (4, .int v2)] [.int v3] G U = qm_run pm_m big m_193 n0 46 [(0, .ref 70), (1, .int v0), (2, .int v1), (3, .int (1 : Int32)), (4, .int v2)] [.int (1 : Int32), .int v3] G U := rfl
theorem sg_rs_18 (big : Nat → List Value → qM → qW → qR) (n0 : Nat) (G : qM) (U : qW) (v0 : Int32) (v1 : Int32) (v2 : Int32) (v3 : Int32) : qm_run pm_m big m_193 (n0 + 4) 49 [(0, .ref 70), (1, .int v0), (2, .int v1), (3, .int (1 : Int32)), (4, .int v2)] [.int (1 : Int32), .int v3] G U = qm_run pm_m big m_193 n0 4 [(0, .ref 70), (1, .int v0), (2, .int (v3 + (1 : Int32))), (3, .int (2 : Int32)), (4, .int v2)] [] G U := rfl
theorem sg_rs_19 (big : Nat → List Value → qM → qW → qR) (n0 : Nat) (G : qM) (U : qW) (v0 : Int32) (v1 : Int32) : qm_run pm_m big m_193 (n0 + 7) 4 [(0, .ref 70), (1, .int v0), (2, .int v1), (3, .int (2 : Int32))] [] G U = qm_run pm_m big m_193 n0 15 [(0, .ref 70), (1, .int v0), (2, .int v1), (3, .int (2 : Int32))] [.int v0, .ref 75, .ref 70] G U := rfl
theorem sg_rs_20 (big : Nat → List Value → qM → qW → qR) (n0 : Nat) (G : qM) (U : qW) (v0 : Int32) (v1 : Int32) (v2 : Int32) : qm_run pm_m big m_193 (n0 + 1) 16 [(0, .ref 70), (1, .int v0), (2, .int v1), (3, .int (2 : Int32))] [.int v2, .ref 70] G U = qm_run pm_m big m_193 n0 17 [(0, .ref 70), (1, .int v0), (2, .int v1), (3, .int (2 : Int32))] [.int (2 : Int32), .int v2, .ref 70] G U := rfl
theorem sg_rs_21 (big : Nat → List Value → qM → qW → qR) (n0 : Nat) (G : qM) (U : qW) (v0 : Int32) (v1 : Int32) (v2 : Int32) : qm_run pm_m big m_193 (n0 + 4) 20 [(0, .ref 70), (1, .int v0), (2, .int v1), (3, .int (2 : Int32))] [.int v2] G U = qm_run pm_m big m_193 n0 27 [(0, .ref 70), (1, .int v0), (2, .int v1), (3, .int (2 : Int32)), (4, .int v2)] [.int (Int8.toInt32 (Int8.ofInt (-4))), .int v2, .int v1] G U := rfl
theorem sg_rs_22 (big : Nat → List Value → qM → qW → qR) (n0 : Nat) (G : qM) (U : qW) (v0 : Int32) (v1 : Int32) (v2 : Int32) (v3 : Int32) : qm_run pm_m big m_193 (n0 + 1) 45 [(0, .ref 70), (1, .int v0), (2, .int v1), (3, .int (2 : Int32)), (4, .int v2)] [.int v3] G U = qm_run pm_m big m_193 n0 46 [(0, .ref 70), (1, .int v0), (2, .int v1), (3, .int (2 : Int32)), (4, .int v2)] [.int (0 : Int32), .int v3] G U := rfl
theorem sg_rs_23 (big : Nat → List Value → qM → qW → qR) (n0 : Nat) (G : qM) (U : qW) (v0 : Int32) (v1 : Int32) (v2 : Int32) (v3 : Int32) : qm_run pm_m big m_193 (n0 + 4) 49 [(0, .ref 70), (1, .int v0), (2, .int v1), (3, .int (2 : Int32)), (4, .int v2)] [.int (0 : Int32), .int v3] G U = qm_run pm_m big m_193 n0 4 [(0, .ref 70), (1, .int v0), (2, .int (v3 + (0 : Int32))), (3, .int (3 : Int32)), (4, .int v2)] [] G U := rfl
theorem sg_rs_24 (big : Nat → List Value → qM → qW → qR) (n0 : Nat) (G : qM) (U : qW) (v0 : Int32) (v1 : Int32) (v2 : Int32) (v3 : Int32) : qm_run pm_m big m_193 (n0 + 2) 30 [(0, .ref 70), (1, .int v0), (2, .int v1), (3, .int (2 : Int32)), (4, .int v2)] [.int v3] G U = qm_run pm_m big m_193 n0 33 [(0, .ref 70), (1, .int v0), (2, .int v1), (3, .int (2 : Int32)), (4, .int v2)] [.int v2, .ref 70, .int v3] G U := rfl
theorem sg_rs_25 (big : Nat → List Value → qM → qW → qR) (n0 : Nat) (G : qM) (U : qW) (v0 : Int32) (v1 : Int32) (v2 : Int32) (v3 : Int32) (v4 : Int32) : qm_run pm_m big m_193 (n0 + 1) 36 [(0, .ref 70), (1, .int v0), (2, .int v1), (3, .int (2 : Int32)), (4, .int v2)] [.int v4, .int v3] G U = qm_run pm_m big m_193 n0 38 [(0, .ref 70), (1, .int v0), (2, .int v1), (3, .int (2 : Int32)), (4, .int v2)] [.int (Int8.toInt32 (Int8.ofInt (-4))), .int v4, .int v3] G U := rfl
theorem sg_rs_26 (big : Nat → List Value → qM → qW → qR) (n0 : Nat) (G : qM) (U : qW) (v0 : Int32) (v1 : Int32) (v2 : Int32) (v3 : Int32) : qm_run pm_m big m_193 (n0 + 2) 41 [(0, .ref 70), (1, .int v0), (2, .int v1), (3, .int (2 : Int32)), (4, .int v2)] [.int v3] G U = qm_run pm_m big m_193 n0 46 [(0, .ref 70), (1, .int v0), (2, .int v1), (3, .int (2 : Int32)), (4, .int v2)] [.int (1 : Int32), .int v3] G U := rfl
theorem sg_rs_27 (big : Nat → List Value → qM → qW → qR) (n0 : Nat) (G : qM) (U : qW) (v0 : Int32) (v1 : Int32) (v2 : Int32) (v3 : Int32) : qm_run pm_m big m_193 (n0 + 4) 49 [(0, .ref 70), (1, .int v0), (2, .int v1), (3, .int (2 : Int32)), (4, .int v2)] [.int (1 : Int32), .int v3] G U = qm_run pm_m big m_193 n0 4 [(0, .ref 70), (1, .int v0), (2, .int (v3 + (1 : Int32))), (3, .int (3 : Int32)), (4, .int v2)] [] G U := rfl
theorem sg_rs_28 (big : Nat → List Value → qM → qW → qR) (n0 : Nat) (G : qM) (U : qW) (v0 : Int32) (v1 : Int32) : qm_run pm_m big m_193 (n0 + 7) 4 [(0, .ref 70), (1, .int v0), (2, .int v1), (3, .int (3 : Int32))] [] G U = qm_run pm_m big m_193 n0 15 [(0, .ref 70), (1, .int v0), (2, .int v1), (3, .int (3 : Int32))] [.int v0, .ref 75, .ref 70] G U := rfl
theorem sg_rs_29 (big : Nat → List Value → qM → qW → qR) (n0 : Nat) (G : qM) (U : qW) (v0 : Int32) (v1 : Int32) (v2 : Int32) : qm_run pm_m big m_193 (n0 + 1) 16 [(0, .ref 70), (1, .int v0), (2, .int v1), (3, .int (3 : Int32))] [.int v2, .ref 70] G U = qm_run pm_m big m_193 n0 17 [(0, .ref 70), (1, .int v0), (2, .int v1), (3, .int (3 : Int32))] [.int (3 : Int32), .int v2, .ref 70] G U := rfl
theorem sg_rs_30 (big : Nat → List Value → qM → qW → qR) (n0 : Nat) (G : qM) (U : qW) (v0 : Int32) (v1 : Int32) (v2 : Int32) : qm_run pm_m big m_193 (n0 + 4) 20 [(0, .ref 70), (1, .int v0), (2, .int v1), (3, .int (3 : Int32))] [.int v2] G U = qm_run pm_m big m_193 n0 27 [(0, .ref 70), (1, .int v0), (2, .int v1), (3, .int (3 : Int32)), (4, .int v2)] [.int (Int8.toInt32 (Int8.ofInt (-4))), .int v2, .int v1] G U := rfl
theorem sg_rs_31 (big : Nat → List Value → qM → qW → qR) (n0 : Nat) (G : qM) (U : qW) (v0 : Int32) (v1 : Int32) (v2 : Int32) (v3 : Int32) : qm_run pm_m big m_193 (n0 + 1) 45 [(0, .ref 70), (1, .int v0), (2, .int v1), (3, .int (3 : Int32)), (4, .int v2)] [.int v3] G U = qm_run pm_m big m_193 n0 46 [(0, .ref 70), (1, .int v0), (2, .int v1), (3, .int (3 : Int32)), (4, .int v2)] [.int (0 : Int32), .int v3] G U := rfl
theorem sg_rs_32 (big : Nat → List Value → qM → qW → qR) (n0 : Nat) (G : qM) (U : qW) (v0 : Int32) (v1 : Int32) (v2 : Int32) (v3 : Int32) : qm_run pm_m big m_193 (n0 + 4) 49 [(0, .ref 70), (1, .int v0), (2, .int v1), (3, .int (3 : Int32)), (4, .int v2)] [.int (0 : Int32), .int v3] G U = qm_run pm_m big m_193 n0 4 [(0, .ref 70), (1, .int v0), (2, .int (v3 + (0 : Int32))), (3, .int (4 : Int32)), (4, .int v2)] [] G U := rfl
theorem sg_rs_33 (big : Nat → List Value → qM → qW → qR) (n0 : Nat) (G : qM) (U : qW) (v0 : Int32) (v1 : Int32) (v2 : Int32) (v3 : Int32) : qm_run pm_m big m_193 (n0 + 2) 30 [(0, .ref 70), (1, .int v0), (2, .int v1), (3, .int (3 : Int32)), (4, .int v2)] [.int v3] G U = qm_run pm_m big m_193 n0 33 [(0, .ref 70), (1, .int v0), (2, .int v1), (3, .int (3 : Int32)), (4, .int v2)] [.int v2, .ref 70, .int v3] G U := rfl
theorem sg_rs_34 (big : Nat → List Value → qM → qW → qR) (n0 : Nat) (G : qM) (U : qW) (v0 : Int32) (v1 : Int32) (v2 : Int32) (v3 : Int32) (v4 : Int32) : qm_run pm_m big m_193 (n0 + 1) 36 [(0, .ref 70), (1, .int v0), (2, .int v1), (3, .int (3 : Int32)), (4, .int v2)] [.int v4, .int v3] G U = qm_run pm_m big m_193 n0 38 [(0, .ref 70), (1, .int v0), (2, .int v1), (3, .int (3 : Int32)), (4, .int v2)] [.int (Int8.toInt32 (Int8.ofInt (-4))), .int v4, .int v3] G U := rfl
theorem sg_rs_35 (big : Nat → List Value → qM → qW → qR) (n0 : Nat) (G : qM) (U : qW) (v0 : Int32) (v1 : Int32) (v2 : Int32) (v3 : Int32) : qm_run pm_m big m_193 (n0 + 2) 41 [(0, .ref 70), (1, .int v0), (2, .int v1), (3, .int (3 : Int32)), (4, .int v2)] [.int v3] G U = qm_run pm_m big m_193 n0 46 [(0, .ref 70), (1, .int v0), (2, .int v1), (3, .int (3 : Int32)), (4, .int v2)] [.int (1 : Int32), .int v3] G U := rfl
theorem sg_rs_36 (big : Nat → List Value → qM → qW → qR) (n0 : Nat) (G : qM) (U : qW) (v0 : Int32) (v1 : Int32) (v2 : Int32) (v3 : Int32) : qm_run pm_m big m_193 (n0 + 4) 49 [(0, .ref 70), (1, .int v0), (2, .int v1), (3, .int (3 : Int32)), (4, .int v2)] [.int (1 : Int32), .int v3] G U = qm_run pm_m big m_193 n0 4 [(0, .ref 70), (1, .int v0), (2, .int (v3 + (1 : Int32))), (3, .int (4 : Int32)), (4, .int v2)] [] G U := rfl
theorem sg_rs_37 (big : Nat → List Value → qM → qW → qR) (n0 : Nat) (G : qM) (U : qW) (v0 : Int32) (v1 : Int32) : qm_run pm_m big m_193 (n0 + 6) 4 [(0, .ref 70), (1, .int v0), (2, .int v1), (3, .int (4 : Int32))] [] G U = qm_run pm_m big m_193 n0 62 [(0, .ref 70), (1, .int v0), (2, .int v1), (3, .int (4 : Int32))] [.int v0, .ref 76] G U := rfl
theorem sg_rs_38 (big : Nat → List Value → qM → qW → qR) (n0 : Nat) (G : qM) (U : qW) (v0 : Int32) (v1 : Int32) : qm_run pm_m big m_193 (n0 + 4) 66 [(0, .ref 70), (1, .int v0), (2, .int v1), (3, .int (4 : Int32))] [] G U = qm_run pm_m big m_193 n0 73 [(0, .ref 70), (1, .int v0), (2, .int v1), (3, .int (4 : Int32))] [.int (G 71 25)] G U := rfl
theorem sg_rs_39 (big : Nat → List Value → qM → qW → qR) (n0 : Nat) (G : qM) (U : qW) (v0 : Int32) (v1 : Int32) : qm_run pm_m big m_193 (n0 + 5) 76 [(0, .ref 70), (1, .int v0), (2, .int v1), (3, .int (4 : Int32))] [] G U = qm_run pm_m big m_193 n0 84 [(0, .ref 70), (1, .int v0), (2, .int v1), (3, .int (4 : Int32))] [.int (G 71 25), .int v1] G U := rfl
theorem sg_rs_40 (big : Nat → List Value → qM → qW → qR) (n0 : Nat) (G : qM) (U : qW) (v0 : Int32) : qm_run pm_m big m_193 (n0 + 4) 0 [(0, .ref 70), (1, .int v0)] [] G U = qm_run pm_m big m_193 n0 4 [(0, .ref 70), (1, .int v0), (2, .int (0 : Int32)), (3, .int (0 : Int32))] [] G U := rfl
theorem sg_rs_41 (big : Nat → List Value → qM → qW → qR) (n0 : Nat) (G : qM) (U : qW) (v0 : Int32) : qm_run pm_m big m_191 (n0 + 3) 4 [(0, .ref 70), (1, .int (0 : Int32)), (2, .int v0)] [] G U = qm_run pm_m big m_191 n0 9 [(0, .ref 70), (1, .int (0 : Int32)), (2, .int v0)] [.int (G 70 27), .int v0] G U := rfl
theorem sg_rs_42 (big : Nat → List Value → qM → qW → qR) (n0 : Nat) (G : qM) (U : qW) (v0 : Int32) : qm_run pm_m big m_191 (n0 + 2) 29 [(0, .ref 70), (1, .int (0 : Int32)), (2, .int v0)] [] G U = qm_run pm_m big m_191 n0 31 [(0, .ref 70), (1, .int (0 : Int32)), (2, .int (0 : Int32))] [] G U := rfl
theorem sg_rs_43 (big : Nat → List Value → qM → qW → qR) (n0 : Nat) (G : qM) (U : qW) (v0 : Int32) : qm_run pm_m big m_191 (n0 + 5) 12 [(0, .ref 70), (1, .int (0 : Int32)), (2, .int v0)] [] G U = qm_run pm_m big m_191 n0 19 [(0, .ref 70), (1, .int (0 : Int32)), (2, .int v0)] [.int v0, .ref 70, .int v0, .ref 79] G U := rfl
theorem sg_rs_44 (big : Nat → List Value → qM → qW → qR) (n0 : Nat) (G : qM) (U : qW) (v0 : Int32) : qm_run pm_m big m_191 (n0 + 2) 23 [(0, .ref 70), (1, .int (0 : Int32)), (2, .int v0)] [] G U = qm_run pm_m big m_191 n0 4 [(0, .ref 70), (1, .int (0 : Int32)), (2, .int (v0 + (1 : Int32)))] [] G U := rfl
theorem sg_rs_45 (big : Nat → List Value → qM → qW → qR) (n0 : Nat) (G : qM) (U : qW) (v0 : Int32) (v1 : Int32) : qm_run pm_m big m_191 (n0 + 3) 31 [(0, .ref 70), (1, .int v0), (2, .int v1)] [] G U = qm_run pm_m big m_191 n0 36 [(0, .ref 70), (1, .int v0), (2, .int v1)] [.int (G 70 27), .int v1] G U := rfl
theorem sg_rs_46 (big : Nat → List Value → qM → qW → qR) (n0 : Nat) (G : qM) (U : qW) (v0 : Int32) (v1 : Int32) : qm_run pm_m big m_191 (n0 + 2) 144 [(0, .ref 70), (1, .int v0), (2, .int v1)] [] G U = qm_run pm_m big m_191 n0 146 [(0, .ref 70), (1, .int v0), (2, .int (0 : Int32))] [] G U := rfl
theorem sg_rs_47 (big : Nat → List Value → qM → qW → qR) (n0 : Nat) (G : qM) (U : qW) (v0 : Int32) (v1 : Int32) : qm_run pm_m big m_191 (n0 + 4) 39 [(0, .ref 70), (1, .int v0), (2, .int v1)] [] G U = qm_run pm_m big m_191 n0 45 [(0, .ref 70), (1, .int v0), (2, .int v1)] [.int v1, .ref 75, .ref 70] G U := rfl
theorem sg_rs_48 (big : Nat → List Value → qM → qW → qR) (n0 : Nat) (G : qM) (U : qW) (v0 : Int32) (v1 : Int32) (v2 : Int32) : qm_run pm_m big m_191 (n0 + 3) 46 [(0, .ref 70), (1, .int v0), (2, .int v1)] [.int v2, .ref 70] G U = qm_run pm_m big m_191 n0 51 [(0, .ref 70), (1, .int v0), (2, .int v1)] [.int v1, .ref 79, .int v2, .ref 70] G U := rfl
theorem sg_rs_49 (big : Nat → List Value → qM → qW → qR) (n0 : Nat) (G : qM) (U : qW) (v0 : Int32) (v1 : Int32) (v2 : Int32) : qm_run pm_m big m_191 (n0 + 3) 55 [(0, .ref 70), (1, .int v0), (2, .int v1)] [.int v2] G U = qm_run pm_m big m_191 n0 58 [(0, .ref 70), (1, .int v0), (2, .int v1), (3, .int v2)] [.int v2, .ref 70] G U := rfl
theorem sg_rs_50 (big : Nat → List Value → qM → qW → qR) (n0 : Nat) (G : qM) (U : qW) (v0 : Int32) (v1 : Int32) (v2 : Int32) : qm_run pm_m big m_191 (n0 + 10) 78 [(0, .ref 70), (1, .int v0), (2, .int v1), (3, .int v2)] [] G U = qm_run pm_m big m_191 n0 100 [(0, .ref 70), (1, .int v0), (2, .int v1), (3, .int v2), (4, .int (0 : Int32))] [.int v1, .ref 75, .int v1, .ref 75] G U := rfl
theorem sg_rs_51 (big : Nat → List Value → qM → qW → qR) (n0 : Nat) (G : qM) (U : qW) (v0 : Int32) (v1 : Int32) (v2 : Int32) : qm_run pm_m big m_191 (n0 + 6) 102 [(0, .ref 70), (1, .int v0), (2, .int v1), (3, .int v2), (4, .int (0 : Int32))] [] G U = qm_run pm_m big m_191 n0 122 [(0, .ref 70), (1, .int v0), (2, .int v1), (3, .int v2), (4, .int (0 : Int32))] [.int (4 : Int32), .int v1, .ref 80] G U := rfl
theorem sg_rs_52 (big : Nat → List Value → qM → qW → qR) (n0 : Nat) (G : qM) (U : qW) (v0 : Int32) (v1 : Int32) (v2 : Int32) : qm_run pm_m big m_191 (n0 + 1) 123 [(0, .ref 70), (1, .int v0), (2, .int v1), (3, .int v2), (4, .int (0 : Int32))] [] G U = qm_run pm_m big m_191 n0 124 [(0, .ref 70), (1, .int v0), (2, .int v1), (3, .int v2), (4, .int (0 : Int32))] [.int v0] G U := rfl
theorem sg_rs_53 (big : Nat → List Value → qM → qW → qR) (n0 : Nat) (G : qM) (U : qW) (v0 : Int32) (v1 : Int32) (v2 : Int32) : qm_run pm_m big m_191 (n0 + 6) 127 [(0, .ref 70), (1, .int v0), (2, .int v1), (3, .int v2), (4, .int (0 : Int32))] [] G U = qm_run pm_m big m_191 n0 31 [(0, .ref 70), (1, .int (0 : Int32)), (2, .int (v1 + (1 : Int32))), (3, .int v2), (4, .int (0 : Int32))] [] G U := rfl
theorem sg_rs_54 (big : Nat → List Value → qM → qW → qR) (n0 : Nat) (G : qM) (U : qW) (v0 : Int32) (v1 : Int32) (v2 : Int32) : qm_run pm_m big m_191 (n0 + 5) 132 [(0, .ref 70), (1, .int v0), (2, .int v1), (3, .int v2), (4, .int (0 : Int32))] [] G U = qm_run pm_m big m_191 n0 31 [(0, .ref 70), (1, .int (1 : Int32)), (2, .int (v1 + (1 : Int32))), (3, .int v2), (4, .int (0 : Int32))] [] G U := rfl
theorem sg_rs_55 (big : Nat → List Value → qM → qW → qR) (n0 : Nat) (G : qM) (U : qW) (v0 : Int32) (v1 : Int32) (v2 : Int32) : qm_run pm_m big m_191 (n0 + 2) 64 [(0, .ref 70), (1, .int v0), (2, .int v1), (3, .int v2)] [] G U = qm_run pm_m big m_191 n0 66 [(0, .ref 70), (1, .int v0), (2, .int v1), (3, .int v2)] [.int v2, .ref 70] G U := rfl
theorem sg_rs_56 (big : Nat → List Value → qM → qW → qR) (n0 : Nat) (G : qM) (U : qW) (v0 : Int32) (v1 : Int32) (v2 : Int32) (v3 : Int32) : qm_run pm_m big m_191 (n0 + 1) 69 [(0, .ref 70), (1, .int v0), (2, .int v1), (3, .int v2)] [.int v3] G U = qm_run pm_m big m_191 n0 71 [(0, .ref 70), (1, .int v0), (2, .int v1), (3, .int v2)] [.int (Int8.toInt32 (Int8.ofInt (-4))), .int v3] G U := rfl
theorem sg_rs_57 (big : Nat → List Value → qM → qW → qR) (n0 : Nat) (G : qM) (U : qW) (v0 : Int32) (v1 : Int32) (v2 : Int32) : qm_run pm_m big m_191 (n0 + 10) 74 [(0, .ref 70), (1, .int v0), (2, .int v1), (3, .int v2)] [] G U = qm_run pm_m big m_191 n0 101 [(0, .ref 70), (1, .int v0), (2, .int v1), (3, .int v2), (4, .int (1 : Int32))] [.int v2, .int v1, .ref 75] G U := rfl
theorem sg_rs_58 (big : Nat → List Value → qM → qW → qR) (n0 : Nat) (G : qM) (U : qW) (v0 : Int32) (v1 : Int32) (v2 : Int32) : qm_run pm_m big m_191 (n0 + 8) 102 [(0, .ref 70), (1, .int v0), (2, .int v1), (3, .int v2), (4, .int (1 : Int32))] [] G U = qm_run pm_m big m_191 n0 117 [(0, .ref 70), (1, .int v0), (2, .int v1), (3, .int v2), (4, .int (1 : Int32))] [.int v1, .ref 79, .int v1, .ref 80] G U := rfl
theorem sg_rs_59 (big : Nat → List Value → qM → qW → qR) (n0 : Nat) (G : qM) (U : qW) (v0 : Int32) (v1 : Int32) (v2 : Int32) (v3 : Int32) (v4 : Int32) : qm_run pm_m big m_191 (n0 + 1) 118 [(0, .ref 70), (1, .int v0), (2, .int v1), (3, .int v2), (4, .int (1 : Int32))] [.int v4, .int v3, .ref 80] G U = qm_run pm_m big m_191 n0 122 [(0, .ref 70), (1, .int v0), (2, .int v1), (3, .int v2), (4, .int (1 : Int32))] [.int v4, .int v3, .ref 80] G U := rfl
theorem sg_rs_60 (big : Nat → List Value → qM → qW → qR) (n0 : Nat) (G : qM) (U : qW) (v0 : Int32) (v1 : Int32) (v2 : Int32) : qm_run pm_m big m_191 (n0 + 1) 123 [(0, .ref 70), (1, .int v0), (2, .int v1), (3, .int v2), (4, .int (1 : Int32))] [] G U = qm_run pm_m big m_191 n0 124 [(0, .ref 70), (1, .int v0), (2, .int v1), (3, .int v2), (4, .int (1 : Int32))] [.int v0] G U := rfl
theorem sg_rs_61 (big : Nat → List Value → qM → qW → qR) (n0 : Nat) (G : qM) (U : qW) (v0 : Int32) (v1 : Int32) (v2 : Int32) : qm_run pm_m big m_191 (n0 + 7) 127 [(0, .ref 70), (1, .int v0), (2, .int v1), (3, .int v2), (4, .int (1 : Int32))] [] G U = qm_run pm_m big m_191 n0 31 [(0, .ref 70), (1, .int (1 : Int32)), (2, .int (v1 + (1 : Int32))), (3, .int v2), (4, .int (1 : Int32))] [] G U := rfl
theorem sg_rs_62 (big : Nat → List Value → qM → qW → qR) (n0 : Nat) (G : qM) (U : qW) (v0 : Int32) (v1 : Int32) (v2 : Int32) : qm_run pm_m big m_191 (n0 + 5) 132 [(0, .ref 70), (1, .int v0), (2, .int v1), (3, .int v2), (4, .int (1 : Int32))] [] G U = qm_run pm_m big m_191 n0 31 [(0, .ref 70), (1, .int (1 : Int32)), (2, .int (v1 + (1 : Int32))), (3, .int v2), (4, .int (1 : Int32))] [] G U := rfl
theorem sg_rs_63 (big : Nat → List Value → qM → qW → qR) (n0 : Nat) (G : qM) (U : qW) (v0 : Int32) (v1 : Int32) : qm_run pm_m big m_191 (n0 + 3) 146 [(0, .ref 70), (1, .int v0), (2, .int v1)] [] G U = qm_run pm_m big m_191 n0 151 [(0, .ref 70), (1, .int v0), (2, .int v1)] [.int (G 70 27), .int v1] G U := rfl
theorem sg_rs_64 (big : Nat → List Value → qM → qW → qR) (n0 : Nat) (G : qM) (U : qW) (v0 : Int32) (v1 : Int32) : qm_run pm_m big m_191 (n0 + 2) 174 [(0, .ref 70), (1, .int v0), (2, .int v1)] [] G U = qm_run pm_m big m_191 n0 176 [(0, .ref 70), (1, .int v0), (2, .int (0 : Int32))] [] G U := rfl
theorem sg_rs_65 (big : Nat → List Value → qM → qW → qR) (n0 : Nat) (G : qM) (U : qW) (v0 : Int32) (v1 : Int32) : qm_run pm_m big m_191 (n0 + 5) 154 [(0, .ref 70), (1, .int v0), (2, .int v1)] [] G U = qm_run pm_m big m_191 n0 161 [(0, .ref 70), (1, .int v0), (2, .int v1)] [.int v1, .ref 70, .int v1, .ref 81] G U := rfl
theorem sg_rs_66 (big : Nat → List Value → qM → qW → qR) (n0 : Nat) (G : qM) (U : qW) (v0 : Int32) (v1 : Int32) : qm_run pm_m big m_191 (n0 + 2) 168 [(0, .ref 70), (1, .int v0), (2, .int v1)] [] G U = qm_run pm_m big m_191 n0 146 [(0, .ref 70), (1, .int v0), (2, .int (v1 + (1 : Int32)))] [] G U := rfl
theorem sg_rs_67 (big : Nat → List Value → qM → qW → qR) (n0 : Nat) (G : qM) (U : qW) (v0 : Int32) (v1 : Int32) : qm_run pm_m big m_191 (n0 + 3) 176 [(0, .ref 70), (1, .int v0), (2, .int v1)] [] G U = qm_run pm_m big m_191 n0 181 [(0, .ref 70), (1, .int v0), (2, .int v1)] [.int (G 70 27), .int v1] G U := rfl
theorem sg_rs_68 (big : Nat → List Value → qM → qW → qR) (n0 : Nat) (G : qM) (U : qW) (v0 : Int32) (v1 : Int32) : qm_run pm_m big m_191 (n0 + 1) 184 [(0, .ref 70), (1, .int v0), (2, .int v1)] [] G U = qm_run pm_m big m_191 n0 185 [(0, .ref 70), (1, .int v0), (2, .int v1)] [.int v0] G U := rfl
theorem sg_rs_69 (big : Nat → List Value → qM → qW → qR) (n0 : Nat) (G : qM) (U : qW) (v0 : Int32) (v1 : Int32) : qm_run pm_m big m_191 (n0 + 3) 188 [(0, .ref 70), (1, .int v0), (2, .int v1)] [] G U = qm_run pm_m big m_191 n0 193 [(0, .ref 70), (1, .int v0), (2, .int v1)] [.int v1, .ref 81] G U := rfl
theorem sg_rs_70 (big : Nat → List Value → qM → qW → qR) (n0 : Nat) (G : qM) (U : qW) (v0 : Int32) (v1 : Int32) (v2 : Int32) : qm_run pm_m big m_191 (n0 + 1) 194 [(0, .ref 70), (1, .int v0), (2, .int v1)] [.int v2] G U = qm_run pm_m big m_191 n0 195 [(0, .ref 70), (1, .int v0), (2, .int v1)] [.int (1 : Int32), .int v2] G U := rfl
theorem sg_rs_71 (big : Nat → List Value → qM → qW → qR) (n0 : Nat) (G : qM) (U : qW) (v0 : Int32) (v1 : Int32) : qm_run pm_m big m_191 (n0 + 9) 198 [(0, .ref 70), (1, .int v0), (2, .int v1)] [] G U = qm_run pm_m big m_191 n0 214 [(0, .ref 70), (1, .int (1 : Int32)), (2, .int v1)] [.int v1, .ref 81, .int v1, .ref 76] G U := rfl
theorem sg_rs_72 (big : Nat → List Value → qM → qW → qR) (n0 : Nat) (G : qM) (U : qW) (v0 : Int32) (v1 : Int32) (v2 : Int32) : qm_run pm_m big m_191 (n0 + 1) 215 [(0, .ref 70), (1, .int (1 : Int32)), (2, .int v0)] [.int v2, .int v1, .ref 76] G U = qm_run pm_m big m_191 n0 216 [(0, .ref 70), (1, .int (1 : Int32)), (2, .int v0)] [.int (1 : Int32), .int v2, .int v1, .ref 76] G U := rfl
theorem sg_rs_73 (big : Nat → List Value → qM → qW → qR) (n0 : Nat) (G : qM) (U : qW) (v0 : Int32) (v1 : Int32) : qm_run pm_m big m_191 (n0 + 3) 219 [(0, .ref 70), (1, .int (1 : Int32)), (2, .int v0)] [.int v1, .ref 76] G U = qm_run pm_m big m_191 n0 224 [(0, .ref 70), (1, .int (1 : Int32)), (2, .int v0)] [.int v0, .ref 76, .int v1, .ref 76] G U := rfl
theorem sg_rs_74 (big : Nat → List Value → qM → qW → qR) (n0 : Nat) (G : qM) (U : qW) (v0 : Int32) (v1 : Int32) (v2 : Int32) : qm_run pm_m big m_191 (n0 + 1) 228 [(0, .ref 70), (1, .int (1 : Int32)), (2, .int v0)] [.int v2, .int v1, .ref 76] G U = qm_run pm_m big m_191 n0 237 [(0, .ref 70), (1, .int (1 : Int32)), (2, .int v0)] [.int v2, .int v1, .ref 76] G U := rfl
theorem sg_rs_75 (big : Nat → List Value → qM → qW → qR) (n0 : Nat) (G : qM) (U : qW) (v0 : Int32) : qm_run pm_m big m_191 (n0 + 2) 238 [(0, .ref 70), (1, .int (1 : Int32)), (2, .int v0)] [] G U = qm_run pm_m big m_191 n0 176 [(0, .ref 70), (1, .int (1 : Int32)), (2, .int (v0 + (1 : Int32)))] [] G U := rfl
theorem sg_rs_76 (big : Nat → List Value → qM → qW → qR) (n0 : Nat) (G : qM) (U : qW) (v0 : Int32) (v1 : Int32) : qm_run pm_m big m_191 (n0 + 8) 202 [(0, .ref 70), (1, .int v0), (2, .int v1)] [] G U = qm_run pm_m big m_191 n0 214 [(0, .ref 70), (1, .int (0 : Int32)), (2, .int v1)] [.int v1, .ref 81, .int v1, .ref 76] G U := rfl
theorem sg_rs_77 (big : Nat → List Value → qM → qW → qR) (n0 : Nat) (G : qM) (U : qW) (v0 : Int32) (v1 : Int32) (v2 : Int32) : qm_run pm_m big m_191 (n0 + 1) 215 [(0, .ref 70), (1, .int (0 : Int32)), (2, .int v0)] [.int v2, .int v1, .ref 76] G U = qm_run pm_m big m_191 n0 216 [(0, .ref 70), (1, .int (0 : Int32)), (2, .int v0)] [.int (1 : Int32), .int v2, .int v1, .ref 76] G U := rfl
theorem sg_rs_78 (big : Nat → List Value → qM → qW → qR) (n0 : Nat) (G : qM) (U : qW) (v0 : Int32) (v1 : Int32) : qm_run pm_m big m_191 (n0 + 3) 231 [(0, .ref 70), (1, .int (0 : Int32)), (2, .int v0)] [.int v1, .ref 76] G U = qm_run pm_m big m_191 n0 236 [(0, .ref 70), (1, .int (0 : Int32)), (2, .int v0)] [.int v0, .ref 76, .int v1, .ref 76] G U := rfl
theorem sg_rs_79 (big : Nat → List Value → qM → qW → qR) (n0 : Nat) (G : qM) (U : qW) (v0 : Int32) : qm_run pm_m big m_191 (n0 + 2) 238 [(0, .ref 70), (1, .int (0 : Int32)), (2, .int v0)] [] G U = qm_run pm_m big m_191 n0 176 [(0, .ref 70), (1, .int (0 : Int32)), (2, .int (v0 + (1 : Int32)))] [] G U := rfl
theorem sg_rs_80 (big : Nat → List Value → qM → qW → qR) (n0 : Nat) (G : qM) (U : qW) (v0 : Int32) (v1 : Int32) : qm_run pm_m big m_191 (n0 + 3) 231 [(0, .ref 70), (1, .int (1 : Int32)), (2, .int v0)] [.int v1, .ref 76] G U = qm_run pm_m big m_191 n0 236 [(0, .ref 70), (1, .int (1 : Int32)), (2, .int v0)] [.int v0, .ref 76, .int v1, .ref 76] G U := rfl
theorem ip_0 (g : qM) (u : qW) {Q : Option Value × qM × qW → Prop} {n p : Nat} (hn : g 70 27 = Int32.ofNat n) (h6 : n ≤ 6) (hp : p < n) (hw : g 70 2 ≠ 0) {a : Int32} (hE : q_EV m_193 4 [(0, .ref 70), (1, .int (Int32.ofNat p)), (2, .int (a + s_oc (g 75) n (s_to (g 70 2) (g 70 3) (g 75 p) (0 : Int32)))), (3, .int (1 : Int32))] [] g u Q) : q_EV m_193 4 [(0, .ref 70), (1, .int (Int32.ofNat p)), (2, .int a), (3, .int (0 : Int32))] [] g u Q := by
  refine q_step 7 15 [(0, .ref 70), (1, .int (Int32.ofNat p)), (2, .int a), (3, .int (0 : Int32))] [.int (Int32.ofNat p), .ref 75, .ref 70] g u (fun big n0 => sg_rs_1 big n0 g u (Int32.ofNat p) a) ?_
  refine q_iald (j := p) (q_ixn (by omega) (by omega)) rfl rfl ?_
  refine q_step 1 17 [(0, .ref 70), (1, .int (Int32.ofNat p)), (2, .int a), (3, .int (0 : Int32))] [.int (0 : Int32), .int (g 75 p), .ref 70] g u (fun big n0 => sg_rs_2 big n0 g u (Int32.ofNat p) a (g 75 p)) ?_
  refine q_call (M2 := 192) (rest := []) (b_bes g u _ _ hw (by decide)) (fun _ _ => rfl) ?_
  refine q_step 4 27 [(0, .ref 70), (1, .int (Int32.ofNat p)), (2, .int a), (3, .int (0 : Int32)), (4, .int (s_to (g 70 2) (g 70 3) (g 75 p) (0 : Int32)))] [.int (Int8.toInt32 (Int8.ofInt (-4))), .int (s_to (g 70 2) (g 70 3) (g 75 p) (0 : Int32)), .int a] g u (fun big n0 => sg_rs_3 big n0 g u (Int32.ofNat p) a (s_to (g 70 2) (g 70 3) (g 75 p) (0 : Int32))) ?_
  refine q_ic_eq rfl (fun (hc0 : (s_to (g 70 2) (g 70 3) (g 75 p) (0 : Int32)) = (Int8.toInt32 (Int8.ofInt (-4)))) => ?_) (fun (hc0 : ¬ ((s_to (g 70 2) (g 70 3) (g 75 p) (0 : Int32)) = (Int8.toInt32 (Int8.ofInt (-4))))) => ?_)
  · refine q_step 1 46 [(0, .ref 70), (1, .int (Int32.ofNat p)), (2, .int a), (3, .int (0 : Int32)), (4, .int (s_to (g 70 2) (g 70 3) (g 75 p) (0 : Int32)))] [.int (0 : Int32), .int a] g u (fun big n0 => sg_rs_4 big n0 g u (Int32.ofNat p) a (s_to (g 70 2) (g 70 3) (g 75 p) (0 : Int32)) a) ?_
    refine q_call (M2 := 164) (rest := [.int a]) (b_flag0 _ _) (fun _ _ => rfl) ?_
    refine q_step 4 4 [(0, .ref 70), (1, .int (Int32.ofNat p)), (2, .int (a + (0 : Int32))), (3, .int (1 : Int32)), (4, .int (s_to (g 70 2) (g 70 3) (g 75 p) (0 : Int32)))] [] g u (fun big n0 => sg_rs_5 big n0 g u (Int32.ofNat p) a (s_to (g 70 2) (g 70 3) (g 75 p) (0 : Int32)) a) ?_
    refine q_weak [(0, .ref 70), (1, .int (Int32.ofNat p)), (2, .int (a + (0 : Int32))), (3, .int (1 : Int32))] (q_sub.cons rfl (q_sub.cons rfl (q_sub.cons rfl (q_sub.cons rfl q_sub.nil)))) ?_
    unfold s_oc at hE
    rw [if_pos hc0] at hE
    exact hE
  · refine q_step 2 33 [(0, .ref 70), (1, .int (Int32.ofNat p)), (2, .int a), (3, .int (0 : Int32)), (4, .int (s_to (g 70 2) (g 70 3) (g 75 p) (0 : Int32)))] [.int (s_to (g 70 2) (g 70 3) (g 75 p) (0 : Int32)), .ref 70, .int a] g u (fun big n0 => sg_rs_6 big n0 g u (Int32.ofNat p) a (s_to (g 70 2) (g 70 3) (g 75 p) (0 : Int32)) a) ?_
    refine q_call (M2 := 173) (rest := [.int a]) (b_rwho g u _ hn h6) (fun _ _ => rfl) ?_
    refine q_step 1 38 [(0, .ref 70), (1, .int (Int32.ofNat p)), (2, .int a), (3, .int (0 : Int32)), (4, .int (s_to (g 70 2) (g 70 3) (g 75 p) (0 : Int32)))] [.int (Int8.toInt32 (Int8.ofInt (-4))), .int (s_wl (g 75) (s_to (g 70 2) (g 70 3) (g 75 p) (0 : Int32)) n 0 i_none), .int a] g u (fun big n0 => sg_rs_7 big n0 g u (Int32.ofNat p) a (s_to (g 70 2) (g 70 3) (g 75 p) (0 : Int32)) a (s_wl (g 75) (s_to (g 70 2) (g 70 3) (g 75 p) (0 : Int32)) n 0 i_none)) ?_
    refine q_ic_eq rfl (fun (hc1 : (s_wl (g 75) (s_to (g 70 2) (g 70 3) (g 75 p) (0 : Int32)) n 0 i_none) = (Int8.toInt32 (Int8.ofInt (-4)))) => ?_) (fun (hc1 : ¬ ((s_wl (g 75) (s_to (g 70 2) (g 70 3) (g 75 p) (0 : Int32)) n 0 i_none) = (Int8.toInt32 (Int8.ofInt (-4))))) => ?_)
    · refine q_step 1 46 [(0, .ref 70), (1, .int (Int32.ofNat p)), (2, .int a), (3, .int (0 : Int32)), (4, .int (s_to (g 70 2) (g 70 3) (g 75 p) (0 : Int32)))] [.int (0 : Int32), .int a] g u (fun big n0 => sg_rs_4 big n0 g u (Int32.ofNat p) a (s_to (g 70 2) (g 70 3) (g 75 p) (0 : Int32)) a) ?_
      refine q_call (M2 := 164) (rest := [.int a]) (b_flag0 _ _) (fun _ _ => rfl) ?_
      refine q_step 4 4 [(0, .ref 70), (1, .int (Int32.ofNat p)), (2, .int (a + (0 : Int32))), (3, .int (1 : Int32)), (4, .int (s_to (g 70 2) (g 70 3) (g 75 p) (0 : Int32)))] [] g u (fun big n0 => sg_rs_5 big n0 g u (Int32.ofNat p) a (s_to (g 70 2) (g 70 3) (g 75 p) (0 : Int32)) a) ?_
      refine q_weak [(0, .ref 70), (1, .int (Int32.ofNat p)), (2, .int (a + (0 : Int32))), (3, .int (1 : Int32))] (q_sub.cons rfl (q_sub.cons rfl (q_sub.cons rfl (q_sub.cons rfl q_sub.nil)))) ?_
      unfold s_oc at hE
      rw [if_neg hc0, if_pos hc1] at hE
      exact hE
    · refine q_step 2 46 [(0, .ref 70), (1, .int (Int32.ofNat p)), (2, .int a), (3, .int (0 : Int32)), (4, .int (s_to (g 70 2) (g 70 3) (g 75 p) (0 : Int32)))] [.int (1 : Int32), .int a] g u (fun big n0 => sg_rs_8 big n0 g u (Int32.ofNat p) a (s_to (g 70 2) (g 70 3) (g 75 p) (0 : Int32)) a) ?_
      refine q_call (M2 := 164) (rest := [.int a]) (b_flag1 _ _) (fun _ _ => rfl) ?_
      refine q_step 4 4 [(0, .ref 70), (1, .int (Int32.ofNat p)), (2, .int (a + (1 : Int32))), (3, .int (1 : Int32)), (4, .int (s_to (g 70 2) (g 70 3) (g 75 p) (0 : Int32)))] [] g u (fun big n0 => sg_rs_9 big n0 g u (Int32.ofNat p) a (s_to (g 70 2) (g 70 3) (g 75 p) (0 : Int32)) a) ?_
      refine q_weak [(0, .ref 70), (1, .int (Int32.ofNat p)), (2, .int (a + (1 : Int32))), (3, .int (1 : Int32))] (q_sub.cons rfl (q_sub.cons rfl (q_sub.cons rfl (q_sub.cons rfl q_sub.nil)))) ?_
      unfold s_oc at hE
      rw [if_neg hc0, if_neg hc1] at hE
      exact hE
theorem ip_1 (g : qM) (u : qW) {Q : Option Value × qM × qW → Prop} {n p : Nat} (hn : g 70 27 = Int32.ofNat n) (h6 : n ≤ 6) (hp : p < n) (hw : g 70 2 ≠ 0) {a : Int32} (hE : q_EV m_193 4 [(0, .ref 70), (1, .int (Int32.ofNat p)), (2, .int (a + s_oc (g 75) n (s_to (g 70 2) (g 70 3) (g 75 p) (1 : Int32)))), (3, .int (2 : Int32))] [] g u Q) : q_EV m_193 4 [(0, .ref 70), (1, .int (Int32.ofNat p)), (2, .int a), (3, .int (1 : Int32))] [] g u Q := by
  refine q_step 7 15 [(0, .ref 70), (1, .int (Int32.ofNat p)), (2, .int a), (3, .int (1 : Int32))] [.int (Int32.ofNat p), .ref 75, .ref 70] g u (fun big n0 => sg_rs_10 big n0 g u (Int32.ofNat p) a) ?_
  refine q_iald (j := p) (q_ixn (by omega) (by omega)) rfl rfl ?_
  refine q_step 1 17 [(0, .ref 70), (1, .int (Int32.ofNat p)), (2, .int a), (3, .int (1 : Int32))] [.int (1 : Int32), .int (g 75 p), .ref 70] g u (fun big n0 => sg_rs_11 big n0 g u (Int32.ofNat p) a (g 75 p)) ?_
  refine q_call (M2 := 192) (rest := []) (b_bes g u _ _ hw (by decide)) (fun _ _ => rfl) ?_
  refine q_step 4 27 [(0, .ref 70), (1, .int (Int32.ofNat p)), (2, .int a), (3, .int (1 : Int32)), (4, .int (s_to (g 70 2) (g 70 3) (g 75 p) (1 : Int32)))] [.int (Int8.toInt32 (Int8.ofInt (-4))), .int (s_to (g 70 2) (g 70 3) (g 75 p) (1 : Int32)), .int a] g u (fun big n0 => sg_rs_12 big n0 g u (Int32.ofNat p) a (s_to (g 70 2) (g 70 3) (g 75 p) (1 : Int32))) ?_
  refine q_ic_eq rfl (fun (hc0 : (s_to (g 70 2) (g 70 3) (g 75 p) (1 : Int32)) = (Int8.toInt32 (Int8.ofInt (-4)))) => ?_) (fun (hc0 : ¬ ((s_to (g 70 2) (g 70 3) (g 75 p) (1 : Int32)) = (Int8.toInt32 (Int8.ofInt (-4))))) => ?_)
  · refine q_step 1 46 [(0, .ref 70), (1, .int (Int32.ofNat p)), (2, .int a), (3, .int (1 : Int32)), (4, .int (s_to (g 70 2) (g 70 3) (g 75 p) (1 : Int32)))] [.int (0 : Int32), .int a] g u (fun big n0 => sg_rs_13 big n0 g u (Int32.ofNat p) a (s_to (g 70 2) (g 70 3) (g 75 p) (1 : Int32)) a) ?_
    refine q_call (M2 := 164) (rest := [.int a]) (b_flag0 _ _) (fun _ _ => rfl) ?_
    refine q_step 4 4 [(0, .ref 70), (1, .int (Int32.ofNat p)), (2, .int (a + (0 : Int32))), (3, .int (2 : Int32)), (4, .int (s_to (g 70 2) (g 70 3) (g 75 p) (1 : Int32)))] [] g u (fun big n0 => sg_rs_14 big n0 g u (Int32.ofNat p) a (s_to (g 70 2) (g 70 3) (g 75 p) (1 : Int32)) a) ?_
    refine q_weak [(0, .ref 70), (1, .int (Int32.ofNat p)), (2, .int (a + (0 : Int32))), (3, .int (2 : Int32))] (q_sub.cons rfl (q_sub.cons rfl (q_sub.cons rfl (q_sub.cons rfl q_sub.nil)))) ?_
    unfold s_oc at hE
    rw [if_pos hc0] at hE
    exact hE
  · refine q_step 2 33 [(0, .ref 70), (1, .int (Int32.ofNat p)), (2, .int a), (3, .int (1 : Int32)), (4, .int (s_to (g 70 2) (g 70 3) (g 75 p) (1 : Int32)))] [.int (s_to (g 70 2) (g 70 3) (g 75 p) (1 : Int32)), .ref 70, .int a] g u (fun big n0 => sg_rs_15 big n0 g u (Int32.ofNat p) a (s_to (g 70 2) (g 70 3) (g 75 p) (1 : Int32)) a) ?_
    refine q_call (M2 := 173) (rest := [.int a]) (b_rwho g u _ hn h6) (fun _ _ => rfl) ?_
    refine q_step 1 38 [(0, .ref 70), (1, .int (Int32.ofNat p)), (2, .int a), (3, .int (1 : Int32)), (4, .int (s_to (g 70 2) (g 70 3) (g 75 p) (1 : Int32)))] [.int (Int8.toInt32 (Int8.ofInt (-4))), .int (s_wl (g 75) (s_to (g 70 2) (g 70 3) (g 75 p) (1 : Int32)) n 0 i_none), .int a] g u (fun big n0 => sg_rs_16 big n0 g u (Int32.ofNat p) a (s_to (g 70 2) (g 70 3) (g 75 p) (1 : Int32)) a (s_wl (g 75) (s_to (g 70 2) (g 70 3) (g 75 p) (1 : Int32)) n 0 i_none)) ?_
    refine q_ic_eq rfl (fun (hc1 : (s_wl (g 75) (s_to (g 70 2) (g 70 3) (g 75 p) (1 : Int32)) n 0 i_none) = (Int8.toInt32 (Int8.ofInt (-4)))) => ?_) (fun (hc1 : ¬ ((s_wl (g 75) (s_to (g 70 2) (g 70 3) (g 75 p) (1 : Int32)) n 0 i_none) = (Int8.toInt32 (Int8.ofInt (-4))))) => ?_)
    · refine q_step 1 46 [(0, .ref 70), (1, .int (Int32.ofNat p)), (2, .int a), (3, .int (1 : Int32)), (4, .int (s_to (g 70 2) (g 70 3) (g 75 p) (1 : Int32)))] [.int (0 : Int32), .int a] g u (fun big n0 => sg_rs_13 big n0 g u (Int32.ofNat p) a (s_to (g 70 2) (g 70 3) (g 75 p) (1 : Int32)) a) ?_
      refine q_call (M2 := 164) (rest := [.int a]) (b_flag0 _ _) (fun _ _ => rfl) ?_
      refine q_step 4 4 [(0, .ref 70), (1, .int (Int32.ofNat p)), (2, .int (a + (0 : Int32))), (3, .int (2 : Int32)), (4, .int (s_to (g 70 2) (g 70 3) (g 75 p) (1 : Int32)))] [] g u (fun big n0 => sg_rs_14 big n0 g u (Int32.ofNat p) a (s_to (g 70 2) (g 70 3) (g 75 p) (1 : Int32)) a) ?_
      refine q_weak [(0, .ref 70), (1, .int (Int32.ofNat p)), (2, .int (a + (0 : Int32))), (3, .int (2 : Int32))] (q_sub.cons rfl (q_sub.cons rfl (q_sub.cons rfl (q_sub.cons rfl q_sub.nil)))) ?_
      unfold s_oc at hE
      rw [if_neg hc0, if_pos hc1] at hE
      exact hE
    · refine q_step 2 46 [(0, .ref 70), (1, .int (Int32.ofNat p)), (2, .int a), (3, .int (1 : Int32)), (4, .int (s_to (g 70 2) (g 70 3) (g 75 p) (1 : Int32)))] [.int (1 : Int32), .int a] g u (fun big n0 => sg_rs_17 big n0 g u (Int32.ofNat p) a (s_to (g 70 2) (g 70 3) (g 75 p) (1 : Int32)) a) ?_
      refine q_call (M2 := 164) (rest := [.int a]) (b_flag1 _ _) (fun _ _ => rfl) ?_
      refine q_step 4 4 [(0, .ref 70), (1, .int (Int32.ofNat p)), (2, .int (a + (1 : Int32))), (3, .int (2 : Int32)), (4, .int (s_to (g 70 2) (g 70 3) (g 75 p) (1 : Int32)))] [] g u (fun big n0 => sg_rs_18 big n0 g u (Int32.ofNat p) a (s_to (g 70 2) (g 70 3) (g 75 p) (1 : Int32)) a) ?_
      refine q_weak [(0, .ref 70), (1, .int (Int32.ofNat p)), (2, .int (a + (1 : Int32))), (3, .int (2 : Int32))] (q_sub.cons rfl (q_sub.cons rfl (q_sub.cons rfl (q_sub.cons rfl q_sub.nil)))) ?_
      unfold s_oc at hE
      rw [if_neg hc0, if_neg hc1] at hE
      exact hE
theorem ip_2 (g : qM) (u : qW) {Q : Option Value × qM × qW → Prop} {n p : Nat} (hn : g 70 27 = Int32.ofNat n) (h6 : n ≤ 6) (hp : p < n) (hw : g 70 2 ≠ 0) {a : Int32} (hE : q_EV m_193 4 [(0, .ref 70), (1, .int (Int32.ofNat p)), (2, .int (a + s_oc (g 75) n (s_to (g 70 2) (g 70 3) (g 75 p) (2 : Int32)))), (3, .int (3 : Int32))] [] g u Q) : q_EV m_193 4 [(0, .ref 70), (1, .int (Int32.ofNat p)), (2, .int a), (3, .int (2 : Int32))] [] g u Q := by
  refine q_step 7 15 [(0, .ref 70), (1, .int (Int32.ofNat p)), (2, .int a), (3, .int (2 : Int32))] [.int (Int32.ofNat p), .ref 75, .ref 70] g u (fun big n0 => sg_rs_19 big n0 g u (Int32.ofNat p) a) ?_
  refine q_iald (j := p) (q_ixn (by omega) (by omega)) rfl rfl ?_
  refine q_step 1 17 [(0, .ref 70), (1, .int (Int32.ofNat p)), (2, .int a), (3, .int (2 : Int32))] [.int (2 : Int32), .int (g 75 p), .ref 70] g u (fun big n0 => sg_rs_20 big n0 g u (Int32.ofNat p) a (g 75 p)) ?_
  refine q_call (M2 := 192) (rest := []) (b_bes g u _ _ hw (by decide)) (fun _ _ => rfl) ?_
  refine q_step 4 27 [(0, .ref 70), (1, .int (Int32.ofNat p)), (2, .int a), (3, .int (2 : Int32)), (4, .int (s_to (g 70 2) (g 70 3) (g 75 p) (2 : Int32)))] [.int (Int8.toInt32 (Int8.ofInt (-4))), .int (s_to (g 70 2) (g 70 3) (g 75 p) (2 : Int32)), .int a] g u (fun big n0 => sg_rs_21 big n0 g u (Int32.ofNat p) a (s_to (g 70 2) (g 70 3) (g 75 p) (2 : Int32))) ?_
  refine q_ic_eq rfl (fun (hc0 : (s_to (g 70 2) (g 70 3) (g 75 p) (2 : Int32)) = (Int8.toInt32 (Int8.ofInt (-4)))) => ?_) (fun (hc0 : ¬ ((s_to (g 70 2) (g 70 3) (g 75 p) (2 : Int32)) = (Int8.toInt32 (Int8.ofInt (-4))))) => ?_)
  · refine q_step 1 46 [(0, .ref 70), (1, .int (Int32.ofNat p)), (2, .int a), (3, .int (2 : Int32)), (4, .int (s_to (g 70 2) (g 70 3) (g 75 p) (2 : Int32)))] [.int (0 : Int32), .int a] g u (fun big n0 => sg_rs_22 big n0 g u (Int32.ofNat p) a (s_to (g 70 2) (g 70 3) (g 75 p) (2 : Int32)) a) ?_
    refine q_call (M2 := 164) (rest := [.int a]) (b_flag0 _ _) (fun _ _ => rfl) ?_
    refine q_step 4 4 [(0, .ref 70), (1, .int (Int32.ofNat p)), (2, .int (a + (0 : Int32))), (3, .int (3 : Int32)), (4, .int (s_to (g 70 2) (g 70 3) (g 75 p) (2 : Int32)))] [] g u (fun big n0 => sg_rs_23 big n0 g u (Int32.ofNat p) a (s_to (g 70 2) (g 70 3) (g 75 p) (2 : Int32)) a) ?_
    refine q_weak [(0, .ref 70), (1, .int (Int32.ofNat p)), (2, .int (a + (0 : Int32))), (3, .int (3 : Int32))] (q_sub.cons rfl (q_sub.cons rfl (q_sub.cons rfl (q_sub.cons rfl q_sub.nil)))) ?_
    unfold s_oc at hE
    rw [if_pos hc0] at hE
    exact hE
  · refine q_step 2 33 [(0, .ref 70), (1, .int (Int32.ofNat p)), (2, .int a), (3, .int (2 : Int32)), (4, .int (s_to (g 70 2) (g 70 3) (g 75 p) (2 : Int32)))] [.int (s_to (g 70 2) (g 70 3) (g 75 p) (2 : Int32)), .ref 70, .int a] g u (fun big n0 => sg_rs_24 big n0 g u (Int32.ofNat p) a (s_to (g 70 2) (g 70 3) (g 75 p) (2 : Int32)) a) ?_
    refine q_call (M2 := 173) (rest := [.int a]) (b_rwho g u _ hn h6) (fun _ _ => rfl) ?_
    refine q_step 1 38 [(0, .ref 70), (1, .int (Int32.ofNat p)), (2, .int a), (3, .int (2 : Int32)), (4, .int (s_to (g 70 2) (g 70 3) (g 75 p) (2 : Int32)))] [.int (Int8.toInt32 (Int8.ofInt (-4))), .int (s_wl (g 75) (s_to (g 70 2) (g 70 3) (g 75 p) (2 : Int32)) n 0 i_none), .int a] g u (fun big n0 => sg_rs_25 big n0 g u (Int32.ofNat p) a (s_to (g 70 2) (g 70 3) (g 75 p) (2 : Int32)) a (s_wl (g 75) (s_to (g 70 2) (g 70 3) (g 75 p) (2 : Int32)) n 0 i_none)) ?_
    refine q_ic_eq rfl (fun (hc1 : (s_wl (g 75) (s_to (g 70 2) (g 70 3) (g 75 p) (2 : Int32)) n 0 i_none) = (Int8.toInt32 (Int8.ofInt (-4)))) => ?_) (fun (hc1 : ¬ ((s_wl (g 75) (s_to (g 70 2) (g 70 3) (g 75 p) (2 : Int32)) n 0 i_none) = (Int8.toInt32 (Int8.ofInt (-4))))) => ?_)
    · refine q_step 1 46 [(0, .ref 70), (1, .int (Int32.ofNat p)), (2, .int a), (3, .int (2 : Int32)), (4, .int (s_to (g 70 2) (g 70 3) (g 75 p) (2 : Int32)))] [.int (0 : Int32), .int a] g u (fun big n0 => sg_rs_22 big n0 g u (Int32.ofNat p) a (s_to (g 70 2) (g 70 3) (g 75 p) (2 : Int32)) a) ?_
      refine q_call (M2 := 164) (rest := [.int a]) (b_flag0 _ _) (fun _ _ => rfl) ?_
      refine q_step 4 4 [(0, .ref 70), (1, .int (Int32.ofNat p)), (2, .int (a + (0 : Int32))), (3, .int (3 : Int32)), (4, .int (s_to (g 70 2) (g 70 3) (g 75 p) (2 : Int32)))] [] g u (fun big n0 => sg_rs_23 big n0 g u (Int32.ofNat p) a (s_to (g 70 2) (g 70 3) (g 75 p) (2 : Int32)) a) ?_
      refine q_weak [(0, .ref 70), (1, .int (Int32.ofNat p)), (2, .int (a + (0 : Int32))), (3, .int (3 : Int32))] (q_sub.cons rfl (q_sub.cons rfl (q_sub.cons rfl (q_sub.cons rfl q_sub.nil)))) ?_
      unfold s_oc at hE
      rw [if_neg hc0, if_pos hc1] at hE
      exact hE
    · refine q_step 2 46 [(0, .ref 70), (1, .int (Int32.ofNat p)), (2, .int a), (3, .int (2 : Int32)), (4, .int (s_to (g 70 2) (g 70 3) (g 75 p) (2 : Int32)))] [.int (1 : Int32), .int a] g u (fun big n0 => sg_rs_26 big n0 g u (Int32.ofNat p) a (s_to (g 70 2) (g 70 3) (g 75 p) (2 : Int32)) a) ?_
      refine q_call (M2 := 164) (rest := [.int a]) (b_flag1 _ _) (fun _ _ => rfl) ?_
      refine q_step 4 4 [(0, .ref 70), (1, .int (Int32.ofNat p)), (2, .int (a + (1 : Int32))), (3, .int (3 : Int32)), (4, .int (s_to (g 70 2) (g 70 3) (g 75 p) (2 : Int32)))] [] g u (fun big n0 => sg_rs_27 big n0 g u (Int32.ofNat p) a (s_to (g 70 2) (g 70 3) (g 75 p) (2 : Int32)) a) ?_
      refine q_weak [(0, .ref 70), (1, .int (Int32.ofNat p)), (2, .int (a + (1 : Int32))), (3, .int (3 : Int32))] (q_sub.cons rfl (q_sub.cons rfl (q_sub.cons rfl (q_sub.cons rfl q_sub.nil)))) ?_
      unfold s_oc at hE
      rw [if_neg hc0, if_neg hc1] at hE
      exact hE
theorem ip_3 (g : qM) (u : qW) {Q : Option Value × qM × qW → Prop} {n p : Nat} (hn : g 70 27 = Int32.ofNat n) (h6 : n ≤ 6) (hp : p < n) (hw : g 70 2 ≠ 0) {a : Int32} (hE : q_EV m_193 4 [(0, .ref 70), (1, .int (Int32.ofNat p)), (2, .int (a + s_oc (g 75) n (s_to (g 70 2) (g 70 3) (g 75 p) (3 : Int32)))), (3, .int (4 : Int32))] [] g u Q) : q_EV m_193 4 [(0, .ref 70), (1, .int (Int32.ofNat p)), (2, .int a), (3, .int (3 : Int32))] [] g u Q := by
  refine q_step 7 15 [(0, .ref 70), (1, .int (Int32.ofNat p)), (2, .int a), (3, .int (3 : Int32))] [.int (Int32.ofNat p), .ref 75, .ref 70] g u (fun big n0 => sg_rs_28 big n0 g u (Int32.ofNat p) a) ?_
  refine q_iald (j := p) (q_ixn (by omega) (by omega)) rfl rfl ?_
  refine q_step 1 17 [(0, .ref 70), (1, .int (Int32.ofNat p)), (2, .int a), (3, .int (3 : Int32))] [.int (3 : Int32), .int (g 75 p), .ref 70] g u (fun big n0 => sg_rs_29 big n0 g u (Int32.ofNat p) a (g 75 p)) ?_
  refine q_call (M2 := 192) (rest := []) (b_bes g u _ _ hw (by decide)) (fun _ _ => rfl) ?_
  refine q_step 4 27 [(0, .ref 70), (1, .int (Int32.ofNat p)), (2, .int a), (3, .int (3 : Int32)), (4, .int (s_to (g 70 2) (g 70 3) (g 75 p) (3 : Int32)))] [.int (Int8.toInt32 (Int8.ofInt (-4))), .int (s_to (g 70 2) (g 70 3) (g 75 p) (3 : Int32)), .int a] g u (fun big n0 => sg_rs_30 big n0 g u (Int32.ofNat p) a (s_to (g 70 2) (g 70 3) (g 75 p) (3 : Int32))) ?_
  refine q_ic_eq rfl (fun (hc0 : (s_to (g 70 2) (g 70 3) (g 75 p) (3 : Int32)) = (Int8.toInt32 (Int8.ofInt (-4)))) => ?_) (fun (hc0 : ¬ ((s_to (g 70 2) (g 70 3) (g 75 p) (3 : Int32)) = (Int8.toInt32 (Int8.ofInt (-4))))) => ?_)
  · refine q_step 1 46 [(0, .ref 70), (1, .int (Int32.ofNat p)), (2, .int a), (3, .int (3 : Int32)), (4, .int (s_to (g 70 2) (g 70 3) (g 75 p) (3 : Int32)))] [.int (0 : Int32), .int a] g u (fun big n0 => sg_rs_31 big n0 g u (Int32.ofNat p) a (s_to (g 70 2) (g 70 3) (g 75 p) (3 : Int32)) a) ?_
    refine q_call (M2 := 164) (rest := [.int a]) (b_flag0 _ _) (fun _ _ => rfl) ?_
    refine q_step 4 4 [(0, .ref 70), (1, .int (Int32.ofNat p)), (2, .int (a + (0 : Int32))), (3, .int (4 : Int32)), (4, .int (s_to (g 70 2) (g 70 3) (g 75 p) (3 : Int32)))] [] g u (fun big n0 => sg_rs_32 big n0 g u (Int32.ofNat p) a (s_to (g 70 2) (g 70 3) (g 75 p) (3 : Int32)) a) ?_
    refine q_weak [(0, .ref 70), (1, .int (Int32.ofNat p)), (2, .int (a + (0 : Int32))), (3, .int (4 : Int32))] (q_sub.cons rfl (q_sub.cons rfl (q_sub.cons rfl (q_sub.cons rfl q_sub.nil)))) ?_
    unfold s_oc at hE
    rw [if_pos hc0] at hE
    exact hE
  · refine q_step 2 33 [(0, .ref 70), (1, .int (Int32.ofNat p)), (2, .int a), (3, .int (3 : Int32)), (4, .int (s_to (g 70 2) (g 70 3) (g 75 p) (3 : Int32)))] [.int (s_to (g 70 2) (g 70 3) (g 75 p) (3 : Int32)), .ref 70, .int a] g u (fun big n0 => sg_rs_33 big n0 g u (Int32.ofNat p) a (s_to (g 70 2) (g 70 3) (g 75 p) (3 : Int32)) a) ?_
    refine q_call (M2 := 173) (rest := [.int a]) (b_rwho g u _ hn h6) (fun _ _ => rfl) ?_
    refine q_step 1 38 [(0, .ref 70), (1, .int (Int32.ofNat p)), (2, .int a), (3, .int (3 : Int32)), (4, .int (s_to (g 70 2) (g 70 3) (g 75 p) (3 : Int32)))] [.int (Int8.toInt32 (Int8.ofInt (-4))), .int (s_wl (g 75) (s_to (g 70 2) (g 70 3) (g 75 p) (3 : Int32)) n 0 i_none), .int a] g u (fun big n0 => sg_rs_34 big n0 g u (Int32.ofNat p) a (s_to (g 70 2) (g 70 3) (g 75 p) (3 : Int32)) a (s_wl (g 75) (s_to (g 70 2) (g 70 3) (g 75 p) (3 : Int32)) n 0 i_none)) ?_
    refine q_ic_eq rfl (fun (hc1 : (s_wl (g 75) (s_to (g 70 2) (g 70 3) (g 75 p) (3 : Int32)) n 0 i_none) = (Int8.toInt32 (Int8.ofInt (-4)))) => ?_) (fun (hc1 : ¬ ((s_wl (g 75) (s_to (g 70 2) (g 70 3) (g 75 p) (3 : Int32)) n 0 i_none) = (Int8.toInt32 (Int8.ofInt (-4))))) => ?_)
    · refine q_step 1 46 [(0, .ref 70), (1, .int (Int32.ofNat p)), (2, .int a), (3, .int (3 : Int32)), (4, .int (s_to (g 70 2) (g 70 3) (g 75 p) (3 : Int32)))] [.int (0 : Int32), .int a] g u (fun big n0 => sg_rs_31 big n0 g u (Int32.ofNat p) a (s_to (g 70 2) (g 70 3) (g 75 p) (3 : Int32)) a) ?_
      refine q_call (M2 := 164) (rest := [.int a]) (b_flag0 _ _) (fun _ _ => rfl) ?_
      refine q_step 4 4 [(0, .ref 70), (1, .int (Int32.ofNat p)), (2, .int (a + (0 : Int32))), (3, .int (4 : Int32)), (4, .int (s_to (g 70 2) (g 70 3) (g 75 p) (3 : Int32)))] [] g u (fun big n0 => sg_rs_32 big n0 g u (Int32.ofNat p) a (s_to (g 70 2) (g 70 3) (g 75 p) (3 : Int32)) a) ?_
      refine q_weak [(0, .ref 70), (1, .int (Int32.ofNat p)), (2, .int (a + (0 : Int32))), (3, .int (4 : Int32))] (q_sub.cons rfl (q_sub.cons rfl (q_sub.cons rfl (q_sub.cons rfl q_sub.nil)))) ?_
      unfold s_oc at hE
      rw [if_neg hc0, if_pos hc1] at hE
      exact hE
    · refine q_step 2 46 [(0, .ref 70), (1, .int (Int32.ofNat p)), (2, .int a), (3, .int (3 : Int32)), (4, .int (s_to (g 70 2) (g 70 3) (g 75 p) (3 : Int32)))] [.int (1 : Int32), .int a] g u (fun big n0 => sg_rs_35 big n0 g u (Int32.ofNat p) a (s_to (g 70 2) (g 70 3) (g 75 p) (3 : Int32)) a) ?_
      refine q_call (M2 := 164) (rest := [.int a]) (b_flag1 _ _) (fun _ _ => rfl) ?_
      refine q_step 4 4 [(0, .ref 70), (1, .int (Int32.ofNat p)), (2, .int (a + (1 : Int32))), (3, .int (4 : Int32)), (4, .int (s_to (g 70 2) (g 70 3) (g 75 p) (3 : Int32)))] [] g u (fun big n0 => sg_rs_36 big n0 g u (Int32.ofNat p) a (s_to (g 70 2) (g 70 3) (g 75 p) (3 : Int32)) a) ?_
      refine q_weak [(0, .ref 70), (1, .int (Int32.ofNat p)), (2, .int (a + (1 : Int32))), (3, .int (4 : Int32))] (q_sub.cons rfl (q_sub.cons rfl (q_sub.cons rfl (q_sub.cons rfl q_sub.nil)))) ?_
      unfold s_oc at hE
      rw [if_neg hc0, if_neg hc1] at hE
      exact hE
theorem b_pressed (g : qM) (u : qW) {n p : Nat} (hn : g 70 27 = Int32.ofNat n) (h6 : n ≤ 6) (hp : p < n) (hw : g 70 2 ≠ 0) : q_BS 193 [.ref 70, .int (Int32.ofNat p)] g u (some (.int (s_pr (g 70 2) (g 70 3) (g 71 25) (g 75) (g 76) n p)), g, u) := by
  refine q_bx (mm := m_193) rfl (Nat.le_of_ble_eq_true rfl) rfl ?_
  refine q_step 4 4 [(0, .ref 70), (1, .int (Int32.ofNat p)), (2, .int (0 : Int32)), (3, .int (0 : Int32))] [] g u (fun big n0 => sg_rs_40 big n0 g u (Int32.ofNat p)) ?_
  refine ip_0 g u hn h6 hp hw ?_
  refine ip_1 g u hn h6 hp hw ?_
  refine ip_2 g u hn h6 hp hw ?_
  refine ip_3 g u hn h6 hp hw ?_
  refine q_step 6 62 [(0, .ref 70), (1, .int (Int32.ofNat p)), (2, .int (0 + s_oc (g 75) n (s_to (g 70 2) (g 70 3) (g 75 p) (0 : Int32)) + s_oc (g 75) n (s_to (g 70 2) (g 70 3) (g 75 p) (1 : Int32)) + s_oc (g 75) n (s_to (g 70 2) (g 70 3) (g 75 p) (2 : Int32)) + s_oc (g 75) n (s_to (g 70 2) (g 70 3) (g 75 p) (3 : Int32)))), (3, .int (4 : Int32))] [.int (Int32.ofNat p), .ref 76] g u (fun big n0 => sg_rs_37 big n0 g u (Int32.ofNat p) (0 + s_oc (g 75) n (s_to (g 70 2) (g 70 3) (g 75 p) (0 : Int32)) + s_oc (g 75) n (s_to (g 70 2) (g 70 3) (g 75 p) (1 : Int32)) + s_oc (g 75) n (s_to (g 70 2) (g 70 3) (g 75 p) (2 : Int32)) + s_oc (g 75) n (s_to (g 70 2) (g 70 3) (g 75 p) (3 : Int32)))) ?_
  refine q_iald (j := p) (q_ixn (by omega) (by omega)) rfl rfl ?_
  refine q_if_le rfl (fun (hc0 : (g 76 p) ≤ 0) => ?_) (fun (hc0 : ¬ ((g 76 p) ≤ 0)) => ?_)
  · refine q_ret 2 (some (.int (0 : Int32)), g, u) (fun _ _ => rfl) ?_
    unfold s_pr s_cn
    rw [if_pos hc0]
  · refine q_step 4 73 [(0, .ref 70), (1, .int (Int32.ofNat p)), (2, .int (0 + s_oc (g 75) n (s_to (g 70 2) (g 70 3) (g 75 p) (0 : Int32)) + s_oc (g 75) n (s_to (g 70 2) (g 70 3) (g 75 p) (1 : Int32)) + s_oc (g 75) n (s_to (g 70 2) (g 70 3) (g 75 p) (2 : Int32)) + s_oc (g 75) n (s_to (g 70 2) (g 70 3) (g 75 p) (3 : Int32)))), (3, .int (4 : Int32))] [.int (g 71 25)] g u (fun big n0 => sg_rs_38 big n0 g u (Int32.ofNat p) (0 + s_oc (g 75) n (s_to (g 70 2) (g 70 3) (g 75 p) (0 : Int32)) + s_oc (g 75) n (s_to (g 70 2) (g 70 3) (g 75 p) (1 : Int32)) + s_oc (g 75) n (s_to (g 70 2) (g 70 3) (g 75 p) (2 : Int32)) + s_oc (g 75) n (s_to (g 70 2) (g 70 3) (g 75 p) (3 : Int32)))) ?_
    refine q_if_le rfl (fun (hc1 : (g 71 25) ≤ 0) => ?_) (fun (hc1 : ¬ ((g 71 25) ≤ 0)) => ?_)
    · refine q_ret 2 (some (.int (0 : Int32)), g, u) (fun _ _ => rfl) ?_
      unfold s_pr s_cn
      rw [if_neg hc0, if_pos hc1]
    · refine q_step 5 84 [(0, .ref 70), (1, .int (Int32.ofNat p)), (2, .int (0 + s_oc (g 75) n (s_to (g 70 2) (g 70 3) (g 75 p) (0 : Int32)) + s_oc (g 75) n (s_to (g 70 2) (g 70 3) (g 75 p) (1 : Int32)) + s_oc (g 75) n (s_to (g 70 2) (g 70 3) (g 75 p) (2 : Int32)) + s_oc (g 75) n (s_to (g 70 2) (g 70 3) (g 75 p) (3 : Int32)))), (3, .int (4 : Int32))] [.int (g 71 25), .int (0 + s_oc (g 75) n (s_to (g 70 2) (g 70 3) (g 75 p) (0 : Int32)) + s_oc (g 75) n (s_to (g 70 2) (g 70 3) (g 75 p) (1 : Int32)) + s_oc (g 75) n (s_to (g 70 2) (g 70 3) (g 75 p) (2 : Int32)) + s_oc (g 75) n (s_to (g 70 2) (g 70 3) (g 75 p) (3 : Int32)))] g u (fun big n0 => sg_rs_39 big n0 g u (Int32.ofNat p) (0 + s_oc (g 75) n (s_to (g 70 2) (g 70 3) (g 75 p) (0 : Int32)) + s_oc (g 75) n (s_to (g 70 2) (g 70 3) (g 75 p) (1 : Int32)) + s_oc (g 75) n (s_to (g 70 2) (g 70 3) (g 75 p) (2 : Int32)) + s_oc (g 75) n (s_to (g 70 2) (g 70 3) (g 75 p) (3 : Int32)))) ?_
      refine q_ic_lt rfl (fun (hc2 : (0 + s_oc (g 75) n (s_to (g 70 2) (g 70 3) (g 75 p) (0 : Int32)) + s_oc (g 75) n (s_to (g 70 2) (g 70 3) (g 75 p) (1 : Int32)) + s_oc (g 75) n (s_to (g 70 2) (g 70 3) (g 75 p) (2 : Int32)) + s_oc (g 75) n (s_to (g 70 2) (g 70 3) (g 75 p) (3 : Int32))) < (g 71 25)) => ?_) (fun (hc2 : ¬ ((0 + s_oc (g 75) n (s_to (g 70 2) (g 70 3) (g 75 p) (0 : Int32)) + s_oc (g 75) n (s_to (g 70 2) (g 70 3) (g 75 p) (1 : Int32)) + s_oc (g 75) n (s_to (g 70 2) (g 70 3) (g 75 p) (2 : Int32)) + s_oc (g 75) n (s_to (g 70 2) (g 70 3) (g 75 p) (3 : Int32))) < (g 71 25))) => ?_)
      · refine q_ret 2 (some (.int (0 : Int32)), g, u) (fun _ _ => rfl) ?_
        unfold s_pr s_cn
        rw [if_neg hc0, if_neg hc1, if_pos hc2]
      · refine q_ret 3 (some (.int (1 : Int32)), g, u) (fun _ _ => rfl) ?_
        unfold s_pr s_cn
        rw [if_neg hc0, if_neg hc1, if_neg hc2]
theorem r1_l (g : qM) (u : qW) {Q : Option Value × qM × qW → Prop} {n : Nat} (hn : g 70 27 = Int32.ofNat n) (h6 : n ≤ 6) (hw : g 70 2 ≠ 0) : ∀ k i, i + k = n → q_EV m_191 31 [(0, .ref 70), (1, .int (0 : Int32)), (2, .int (0 : Int32))] [] (s_row_ 79 (s_rw (g 70 2) (g 75) (g 76) (g 77) (g 71) n) n g) u Q → q_EV m_191 4 [(0, .ref 70), (1, .int (0 : Int32)), (2, .int (Int32.ofNat i))] [] (s_row_ 79 (s_rw (g 70 2) (g 75) (g 76) (g 77) (g 71) n) i g) u Q := by
  intro k
  induction k with
  | zero =>
    intro i hi hE
    refine q_step 3 9 [(0, .ref 70), (1, .int (0 : Int32)), (2, .int (Int32.ofNat i))] [.int (g 70 27), .int (Int32.ofNat i)] (s_row_ 79 (s_rw (g 70 2) (g 75) (g 76) (g 77) (g 71) n) i g) u (fun big n0 => sg_rs_41 big n0 (s_row_ 79 (s_rw (g 70 2) (g 75) (g 76) (g 77) (g 71) n) i g) u (Int32.ofNat i)) ?_
    refine q_ic_ge rfl (fun (hc0 : (g 70 27) ≤ (Int32.ofNat i)) => ?_) (fun hc0 => absurd (show (g 70 27) ≤ (Int32.ofNat i) from by rw [hn, q_le (by omega) (by omega)]; omega) hc0)
    refine q_step 2 31 [(0, .ref 70), (1, .int (0 : Int32)), (2, .int (0 : Int32))] [] (s_row_ 79 (s_rw (g 70 2) (g 75) (g 76) (g 77) (g 71) n) i g) u (fun big n0 => sg_rs_42 big n0 (s_row_ 79 (s_rw (g 70 2) (g 75) (g 76) (g 77) (g 71) n) i g) u (Int32.ofNat i)) ?_
    have e : i = n := by omega
    subst e
    exact hE
  | succ k ih =>
    intro i hi hE
    refine q_step 3 9 [(0, .ref 70), (1, .int (0 : Int32)), (2, .int (Int32.ofNat i))] [.int (g 70 27), .int (Int32.ofNat i)] (s_row_ 79 (s_rw (g 70 2) (g 75) (g 76) (g 77) (g 71) n) i g) u (fun big n0 => sg_rs_41 big n0 (s_row_ 79 (s_rw (g 70 2) (g 75) (g 76) (g 77) (g 71) n) i g) u (Int32.ofNat i)) ?_
    refine q_ic_ge rfl (fun hc0 => absurd (show (g 70 27) ≤ (Int32.ofNat i) from hc0) (fun z => by rw [hn, q_le (by omega) (by omega)] at z; omega)) (fun (hc0 : ¬ ((g 70 27) ≤ (Int32.ofNat i))) => ?_)
    refine q_step 5 19 [(0, .ref 70), (1, .int (0 : Int32)), (2, .int (Int32.ofNat i))] [.int (Int32.ofNat i), .ref 70, .int (Int32.ofNat i), .ref 79] (s_row_ 79 (s_rw (g 70 2) (g 75) (g 76) (g 77) (g 71) n) i g) u (fun big n0 => sg_rs_43 big n0 (s_row_ 79 (s_rw (g 70 2) (g 75) (g 76) (g 77) (g 71) n) i g) u (Int32.ofNat i)) ?_
    refine q_call (M2 := 189) (rest := [.int (Int32.ofNat i), .ref 79]) (b_rw (s_row_ 79 (s_rw (g 70 2) (g 75) (g 76) (g 77) (g 71) n) i g) u hn h6 (show i < n by omega) hw) (fun _ _ => rfl) ?_
    refine q_iast (j := i) (q_ixn (by omega) (by omega)) rfl rfl ?_
    refine q_step 2 4 [(0, .ref 70), (1, .int (0 : Int32)), (2, .int ((Int32.ofNat i) + (1 : Int32)))] [] (q_up (s_row_ 79 (s_rw (g 70 2) (g 75) (g 76) (g 77) (g 71) n) i g) 79 i ((s_rw (g 70 2) (g 75) (g 76) (g 77) (g 71) n) i)) u (fun big n0 => sg_rs_44 big n0 (q_up (s_row_ 79 (s_rw (g 70 2) (g 75) (g 76) (g 77) (g 71) n) i g) 79 i ((s_rw (g 70 2) (g 75) (g 76) (g 77) (g 71) n) i)) u (Int32.ofNat i)) ?_
    rw [q_succ, s_row_s]
    exact ih (i + 1) (by omega) hE
theorem r2_l (g : qM) (u : qW) {Q : Option Value × qM × qW → Prop} {n : Nat} (hn : g 70 27 = Int32.ofNat n) (h6 : n ≤ 6) (hw : g 70 2 ≠ 0) (hy : ∀ p, p < n → g 79 p = 0 ∨ g 79 p = 1 ∨ g 79 p = 2 ∨ g 79 p = 3 ∨ g 79 p = 4) : ∀ k i c wt an, i + k = n → an = 0 ∨ an = 1 → (q_EV m_191 146 [(0, .ref 70), (1, .int (s_rm (g 70 2) (g 70 3) (g 71 20) (g 79) n k i c wt an).2.2), (2, .int (0 : Int32))] [] (s_N (s_rm (g 70 2) (g 70 3) (g 71 20) (g 79) n k i c wt an).1 (s_rm (g 70 2) (g 70 3) (g 71 20) (g 79) n k i c wt an).2.1 g) u Q) → q_EV m_191 31 [(0, .ref 70), (1, .int an), (2, .int (Int32.ofNat i))] [] (s_N c wt g) u Q := by
  intro k
  induction k with
  | zero =>
    intro i c wt an hi ha hE
    refine q_step 3 36 [(0, .ref 70), (1, .int an), (2, .int (Int32.ofNat i))] [.int (g 70 27), .int (Int32.ofNat i)] (s_N c wt g) u (fun big n0 => sg_rs_45 big n0 (s_N c wt g) u an (Int32.ofNat i)) ?_
    refine q_ic_ge rfl (fun (hc0 : (g 70 27) ≤ (Int32.ofNat i)) => ?_) (fun hc0 => absurd (show (g 70 27) ≤ (Int32.ofNat i) from by rw [hn, q_le (by omega) (by omega)]; omega) hc0)
    refine q_step 2 146 [(0, .ref 70), (1, .int an), (2, .int (0 : Int32))] [] (s_N c wt g) u (fun big n0 => sg_rs_46 big n0 (s_N c wt g) u an (Int32.ofNat i)) ?_
    exact hE
  | succ k ih =>
    intro i c wt an hi ha hE
    refine q_step 3 36 [(0, .ref 70), (1, .int an), (2, .int (Int32.ofNat i))] [.int (g 70 27), .int (Int32.ofNat i)] (s_N c wt g) u (fun big n0 => sg_rs_45 big n0 (s_N c wt g) u an (Int32.ofNat i)) ?_
    refine q_ic_ge rfl (fun hc0 => absurd (show (g 70 27) ≤ (Int32.ofNat i) from hc0) (fun z => by rw [hn, q_le (by omega) (by omega)] at z; omega)) (fun (hc0 : ¬ ((g 70 27) ≤ (Int32.ofNat i))) => ?_)
    refine q_step 4 45 [(0, .ref 70), (1, .int an), (2, .int (Int32.ofNat i))] [.int (Int32.ofNat i), .ref 75, .ref 70] (s_N c wt g) u (fun big n0 => sg_rs_47 big n0 (s_N c wt g) u an (Int32.ofNat i)) ?_
    refine q_iald (j := i) (q_ixn (by omega) (by omega)) rfl rfl ?_
    refine q_step 3 51 [(0, .ref 70), (1, .int an), (2, .int (Int32.ofNat i))] [.int (Int32.ofNat i), .ref 79, .int (c i), .ref 70] (s_N c wt g) u (fun big n0 => sg_rs_48 big n0 (s_N c wt g) u an (Int32.ofNat i) (c i)) ?_
    refine q_iald (j := i) (q_ixn (by omega) (by omega)) rfl rfl ?_
    refine q_call (M2 := 192) (rest := []) (b_bes (s_N c wt g) u _ _ hw (hy i (by omega))) (fun _ _ => rfl) ?_
    refine q_step 3 58 [(0, .ref 70), (1, .int an), (2, .int (Int32.ofNat i)), (3, .int (s_to (g 70 2) (g 70 3) (c i) (g 79 i)))] [.int (s_to (g 70 2) (g 70 3) (c i) (g 79 i)), .ref 70] (s_N c wt g) u (fun big n0 => sg_rs_49 big n0 (s_N c wt g) u an (Int32.ofNat i) (s_to (g 70 2) (g 70 3) (c i) (g 79 i))) ?_
    refine q_call (M2 := 177) (rest := []) (b_open _ (s_N c wt g) u) (fun _ _ => rfl) ?_
    refine q_if_eq rfl (fun (hc1 : (s_op (g 71 20) (s_to (g 70 2) (g 70 3) (c i) (g 79 i))) = 0) => ?_) (fun (hc1 : ¬ ((s_op (g 71 20) (s_to (g 70 2) (g 70 3) (c i) (g 79 i))) = 0)) => ?_)
    · refine q_step 10 100 [(0, .ref 70), (1, .int an), (2, .int (Int32.ofNat i)), (3, .int (s_to (g 70 2) (g 70 3) (c i) (g 79 i))), (4, .int (0 : Int32))] [.int (Int32.ofNat i), .ref 75, .int (Int32.ofNat i), .ref 75] (s_N c wt g) u (fun big n0 => sg_rs_50 big n0 (s_N c wt g) u an (Int32.ofNat i) (s_to (g 70 2) (g 70 3) (c i) (g 79 i))) ?_
      refine q_iald (j := i) (q_ixn (by omega) (by omega)) rfl rfl ?_
      refine q_iast (j := i) (q_ixn (by omega) (by omega)) rfl rfl ?_
      refine q_step 6 122 [(0, .ref 70), (1, .int an), (2, .int (Int32.ofNat i)), (3, .int (s_to (g 70 2) (g 70 3) (c i) (g 79 i))), (4, .int (0 : Int32))] [.int (4 : Int32), .int (Int32.ofNat i), .ref 80] (q_up (s_N c wt g) 75 i (c i)) u (fun big n0 => sg_rs_51 big n0 (q_up (s_N c wt g) 75 i (c i)) u an (Int32.ofNat i) (s_to (g 70 2) (g 70 3) (c i) (g 79 i))) ?_
      refine q_iast (j := i) (q_ixn (by omega) (by omega)) rfl rfl ?_
      refine q_step 1 124 [(0, .ref 70), (1, .int an), (2, .int (Int32.ofNat i)), (3, .int (s_to (g 70 2) (g 70 3) (c i) (g 79 i))), (4, .int (0 : Int32))] [.int an] (q_up (q_up (s_N c wt g) 75 i (c i)) 80 i (4 : Int32)) u (fun big n0 => sg_rs_52 big n0 (q_up (q_up (s_N c wt g) 75 i (c i)) 80 i (4 : Int32)) u an (Int32.ofNat i) (s_to (g 70 2) (g 70 3) (c i) (g 79 i))) ?_
      refine q_if_ne rfl (fun (hc2 : an = 0) => ?_) (fun (hc2 : ¬ (an = 0)) => ?_)
      · refine q_step 6 31 [(0, .ref 70), (1, .int (0 : Int32)), (2, .int ((Int32.ofNat i) + (1 : Int32))), (3, .int (s_to (g 70 2) (g 70 3) (c i) (g 79 i))), (4, .int (0 : Int32))] [] (q_up (q_up (s_N c wt g) 75 i (c i)) 80 i (4 : Int32)) u (fun big n0 => sg_rs_53 big n0 (q_up (q_up (s_N c wt g) 75 i (c i)) 80 i (4 : Int32)) u an (Int32.ofNat i) (s_to (g 70 2) (g 70 3) (c i) (g 79 i))) ?_
        refine q_weak [(0, .ref 70), (1, .int (0 : Int32)), (2, .int ((Int32.ofNat i) + (1 : Int32)))] (q_sub.cons rfl (q_sub.cons rfl (q_sub.cons rfl q_sub.nil))) ?_
        unfold s_rm at hE
        rw [if_pos hc1] at hE
        rw [s_N_c, s_N_w, q_succ, s_set_same]
        rw [hc2] at hE
        exact ih (i + 1) _ _ _ (by omega) (Or.inl rfl) hE
      · refine q_step 5 31 [(0, .ref 70), (1, .int (1 : Int32)), (2, .int ((Int32.ofNat i) + (1 : Int32))), (3, .int (s_to (g 70 2) (g 70 3) (c i) (g 79 i))), (4, .int (0 : Int32))] [] (q_up (q_up (s_N c wt g) 75 i (c i)) 80 i (4 : Int32)) u (fun big n0 => sg_rs_54 big n0 (q_up (q_up (s_N c wt g) 75 i (c i)) 80 i (4 : Int32)) u an (Int32.ofNat i) (s_to (g 70 2) (g 70 3) (c i) (g 79 i))) ?_
        refine q_weak [(0, .ref 70), (1, .int (1 : Int32)), (2, .int ((Int32.ofNat i) + (1 : Int32)))] (q_sub.cons rfl (q_sub.cons rfl (q_sub.cons rfl q_sub.nil))) ?_
        unfold s_rm at hE
        rw [if_pos hc1] at hE
        rw [s_N_c, s_N_w, q_succ, s_set_same]
        rw [ha.resolve_left hc2] at hE
        exact ih (i + 1) _ _ _ (by omega) (Or.inr rfl) hE
    · refine q_step 2 66 [(0, .ref 70), (1, .int an), (2, .int (Int32.ofNat i)), (3, .int (s_to (g 70 2) (g 70 3) (c i) (g 79 i)))] [.int (s_to (g 70 2) (g 70 3) (c i) (g 79 i)), .ref 70] (s_N c wt g) u (fun big n0 => sg_rs_55 big n0 (s_N c wt g) u an (Int32.ofNat i) (s_to (g 70 2) (g 70 3) (c i) (g 79 i))) ?_
      refine q_call (M2 := 173) (rest := []) (b_rwho (s_N c wt g) u _ hn h6) (fun _ _ => rfl) ?_
      refine q_step 1 71 [(0, .ref 70), (1, .int an), (2, .int (Int32.ofNat i)), (3, .int (s_to (g 70 2) (g 70 3) (c i) (g 79 i)))] [.int (Int8.toInt32 (Int8.ofInt (-4))), .int (s_wl c (s_to (g 70 2) (g 70 3) (c i) (g 79 i)) n 0 i_none)] (s_N c wt g) u (fun big n0 => sg_rs_56 big n0 (s_N c wt g) u an (Int32.ofNat i) (s_to (g 70 2) (g 70 3) (c i) (g 79 i)) (s_wl c (s_to (g 70 2) (g 70 3) (c i) (g 79 i)) n 0 i_none)) ?_
      refine q_ic_ne rfl (fun (hc2 : (s_wl c (s_to (g 70 2) (g 70 3) (c i) (g 79 i)) n 0 i_none) = (Int8.toInt32 (Int8.ofInt (-4)))) => ?_) (fun (hc2 : ¬ ((s_wl c (s_to (g 70 2) (g 70 3) (c i) (g 79 i)) n 0 i_none) = (Int8.toInt32 (Int8.ofInt (-4))))) => ?_)
      · refine q_step 10 101 [(0, .ref 70), (1, .int an), (2, .int (Int32.ofNat i)), (3, .int (s_to (g 70 2) (g 70 3) (c i) (g 79 i))), (4, .int (1 : Int32))] [.int (s_to (g 70 2) (g 70 3) (c i) (g 79 i)), .int (Int32.ofNat i), .ref 75] (s_N c wt g) u (fun big n0 => sg_rs_57 big n0 (s_N c wt g) u an (Int32.ofNat i) (s_to (g 70 2) (g 70 3) (c i) (g 79 i))) ?_
        refine q_iast (j := i) (q_ixn (by omega) (by omega)) rfl rfl ?_
        refine q_step 8 117 [(0, .ref 70), (1, .int an), (2, .int (Int32.ofNat i)), (3, .int (s_to (g 70 2) (g 70 3) (c i) (g 79 i))), (4, .int (1 : Int32))] [.int (Int32.ofNat i), .ref 79, .int (Int32.ofNat i), .ref 80] (q_up (s_N c wt g) 75 i (s_to (g 70 2) (g 70 3) (c i) (g 79 i))) u (fun big n0 => sg_rs_58 big n0 (q_up (s_N c wt g) 75 i (s_to (g 70 2) (g 70 3) (c i) (g 79 i))) u an (Int32.ofNat i) (s_to (g 70 2) (g 70 3) (c i) (g 79 i))) ?_
        refine q_iald (j := i) (q_ixn (by omega) (by omega)) rfl rfl ?_
        refine q_step 1 122 [(0, .ref 70), (1, .int an), (2, .int (Int32.ofNat i)), (3, .int (s_to (g 70 2) (g 70 3) (c i) (g 79 i))), (4, .int (1 : Int32))] [.int ((s_N c wt g) 79 i), .int (Int32.ofNat i), .ref 80] (q_up (s_N c wt g) 75 i (s_to (g 70 2) (g 70 3) (c i) (g 79 i))) u (fun big n0 => sg_rs_59 big n0 (q_up (s_N c wt g) 75 i (s_to (g 70 2) (g 70 3) (c i) (g 79 i))) u an (Int32.ofNat i) (s_to (g 70 2) (g 70 3) (c i) (g 79 i)) (Int32.ofNat i) ((s_N c wt g) 79 i)) ?_
        refine q_iast (j := i) (q_ixn (by omega) (by omega)) rfl rfl ?_
        refine q_step 1 124 [(0, .ref 70), (1, .int an), (2, .int (Int32.ofNat i)), (3, .int (s_to (g 70 2) (g 70 3) (c i) (g 79 i))), (4, .int (1 : Int32))] [.int an] (q_up (q_up (s_N c wt g) 75 i (s_to (g 70 2) (g 70 3) (c i) (g 79 i))) 80 i ((s_N c wt g) 79 i)) u (fun big n0 => sg_rs_60 big n0 (q_up (q_up (s_N c wt g) 75 i (s_to (g 70 2) (g 70 3) (c i) (g 79 i))) 80 i ((s_N c wt g) 79 i)) u an (Int32.ofNat i) (s_to (g 70 2) (g 70 3) (c i) (g 79 i))) ?_
        refine q_if_ne rfl (fun (hc3 : an = 0) => ?_) (fun (hc3 : ¬ (an = 0)) => ?_)
        · refine q_step 7 31 [(0, .ref 70), (1, .int (1 : Int32)), (2, .int ((Int32.ofNat i) + (1 : Int32))), (3, .int (s_to (g 70 2) (g 70 3) (c i) (g 79 i))), (4, .int (1 : Int32))] [] (q_up (q_up (s_N c wt g) 75 i (s_to (g 70 2) (g 70 3) (c i) (g 79 i))) 80 i ((s_N c wt g) 79 i)) u (fun big n0 => sg_rs_61 big n0 (q_up (q_up (s_N c wt g) 75 i (s_to (g 70 2) (g 70 3) (c i) (g 79 i))) 80 i ((s_N c wt g) 79 i)) u an (Int32.ofNat i) (s_to (g 70 2) (g 70 3) (c i) (g 79 i))) ?_
          refine q_weak [(0, .ref 70), (1, .int (1 : Int32)), (2, .int ((Int32.ofNat i) + (1 : Int32)))] (q_sub.cons rfl (q_sub.cons rfl (q_sub.cons rfl q_sub.nil))) ?_
          unfold s_rm at hE
          rw [if_neg hc1, if_pos hc2] at hE
          rw [s_N_c, s_N_w, q_succ]
          exact ih (i + 1) _ _ _ (by omega) (Or.inr rfl) hE
        · refine q_step 5 31 [(0, .ref 70), (1, .int (1 : Int32)), (2, .int ((Int32.ofNat i) + (1 : Int32))), (3, .int (s_to (g 70 2) (g 70 3) (c i) (g 79 i))), (4, .int (1 : Int32))] [] (q_up (q_up (s_N c wt g) 75 i (s_to (g 70 2) (g 70 3) (c i) (g 79 i))) 80 i ((s_N c wt g) 79 i)) u (fun big n0 => sg_rs_62 big n0 (q_up (q_up (s_N c wt g) 75 i (s_to (g 70 2) (g 70 3) (c i) (g 79 i))) 80 i ((s_N c wt g) 79 i)) u an (Int32.ofNat i) (s_to (g 70 2) (g 70 3) (c i) (g 79 i))) ?_
          refine q_weak [(0, .ref 70), (1, .int (1 : Int32)), (2, .int ((Int32.ofNat i) + (1 : Int32)))] (q_sub.cons rfl (q_sub.cons rfl (q_sub.cons rfl q_sub.nil))) ?_
          unfold s_rm at hE
          rw [if_neg hc1, if_pos hc2] at hE
          rw [s_N_c, s_N_w, q_succ]
          exact ih (i + 1) _ _ _ (by omega) (Or.inr rfl) hE
      · refine q_step 10 100 [(0, .ref 70), (1, .int an), (2, .int (Int32.ofNat i)), (3, .int (s_to (g 70 2) (g 70 3) (c i) (g 79 i))), (4, .int (0 : Int32))] [.int (Int32.ofNat i), .ref 75, .int (Int32.ofNat i), .ref 75] (s_N c wt g) u (fun big n0 => sg_rs_50 big n0 (s_N c wt g) u an (Int32.ofNat i) (s_to (g 70 2) (g 70 3) (c i) (g 79 i))) ?_
        refine q_iald (j := i) (q_ixn (by omega) (by omega)) rfl rfl ?_
        refine q_iast (j := i) (q_ixn (by omega) (by omega)) rfl rfl ?_
        refine q_step 6 122 [(0, .ref 70), (1, .int an), (2, .int (Int32.ofNat i)), (3, .int (s_to (g 70 2) (g 70 3) (c i) (g 79 i))), (4, .int (0 : Int32))] [.int (4 : Int32), .int (Int32.ofNat i), .ref 80] (q_up (s_N c wt g) 75 i (c i)) u (fun big n0 => sg_rs_51 big n0 (q_up (s_N c wt g) 75 i (c i)) u an (Int32.ofNat i) (s_to (g 70 2) (g 70 3) (c i) (g 79 i))) ?_
        refine q_iast (j := i) (q_ixn (by omega) (by omega)) rfl rfl ?_
        refine q_step 1 124 [(0, .ref 70), (1, .int an), (2, .int (Int32.ofNat i)), (3, .int (s_to (g 70 2) (g 70 3) (c i) (g 79 i))), (4, .int (0 : Int32))] [.int an] (q_up (q_up (s_N c wt g) 75 i (c i)) 80 i (4 : Int32)) u (fun big n0 => sg_rs_52 big n0 (q_up (q_up (s_N c wt g) 75 i (c i)) 80 i (4 : Int32)) u an (Int32.ofNat i) (s_to (g 70 2) (g 70 3) (c i) (g 79 i))) ?_
        refine q_if_ne rfl (fun (hc3 : an = 0) => ?_) (fun (hc3 : ¬ (an = 0)) => ?_)
        · refine q_step 6 31 [(0, .ref 70), (1, .int (0 : Int32)), (2, .int ((Int32.ofNat i) + (1 : Int32))), (3, .int (s_to (g 70 2) (g 70 3) (c i) (g 79 i))), (4, .int (0 : Int32))] [] (q_up (q_up (s_N c wt g) 75 i (c i)) 80 i (4 : Int32)) u (fun big n0 => sg_rs_53 big n0 (q_up (q_up (s_N c wt g) 75 i (c i)) 80 i (4 : Int32)) u an (Int32.ofNat i) (s_to (g 70 2) (g 70 3) (c i) (g 79 i))) ?_
          refine q_weak [(0, .ref 70), (1, .int (0 : Int32)), (2, .int ((Int32.ofNat i) + (1 : Int32)))] (q_sub.cons rfl (q_sub.cons rfl (q_sub.cons rfl q_sub.nil))) ?_
          unfold s_rm at hE
          rw [if_neg hc1, if_neg hc2] at hE
          rw [s_N_c, s_N_w, q_succ, s_set_same]
          rw [hc3] at hE
          exact ih (i + 1) _ _ _ (by omega) (Or.inl rfl) hE
        · refine q_step 5 31 [(0, .ref 70), (1, .int (1 : Int32)), (2, .int ((Int32.ofNat i) + (1 : Int32))), (3, .int (s_to (g 70 2) (g 70 3) (c i) (g 79 i))), (4, .int (0 : Int32))] [] (q_up (q_up (s_N c wt g) 75 i (c i)) 80 i (4 : Int32)) u (fun big n0 => sg_rs_54 big n0 (q_up (q_up (s_N c wt g) 75 i (c i)) 80 i (4 : Int32)) u an (Int32.ofNat i) (s_to (g 70 2) (g 70 3) (c i) (g 79 i))) ?_
          refine q_weak [(0, .ref 70), (1, .int (1 : Int32)), (2, .int ((Int32.ofNat i) + (1 : Int32)))] (q_sub.cons rfl (q_sub.cons rfl (q_sub.cons rfl q_sub.nil))) ?_
          unfold s_rm at hE
          rw [if_neg hc1, if_neg hc2] at hE
          rw [s_N_c, s_N_w, q_succ, s_set_same]
          rw [ha.resolve_left hc3] at hE
          exact ih (i + 1) _ _ _ (by omega) (Or.inr rfl) hE
theorem r3_l (g : qM) (u : qW) {Q : Option Value × qM × qW → Prop} {n : Nat} {an : Int32} (hn : g 70 27 = Int32.ofNat n) (h6 : n ≤ 6) (hw : g 70 2 ≠ 0) : ∀ k i, i + k = n → q_EV m_191 176 [(0, .ref 70), (1, .int an), (2, .int (0 : Int32))] [] (s_row_ 81 (fun p => if s_pr (g 70 2) (g 70 3) (g 71 25) (g 75) (g 76) n p = 0 then (0 : Int32) else 1) n g) u Q → q_EV m_191 146 [(0, .ref 70), (1, .int an), (2, .int (Int32.ofNat i))] [] (s_row_ 81 (fun p => if s_pr (g 70 2) (g 70 3) (g 71 25) (g 75) (g 76) n p = 0 then (0 : Int32) else 1) i g) u Q := by
  intro k
  induction k with
  | zero =>
    intro i hi hE
    refine q_step 3 151 [(0, .ref 70), (1, .int an), (2, .int (Int32.ofNat i))] [.int (g 70 27), .int (Int32.ofNat i)] (s_row_ 81 (fun p => if s_pr (g 70 2) (g 70 3) (g 71 25) (g 75) (g 76) n p = 0 then (0 : Int32) else 1) i g) u (fun big n0 => sg_rs_63 big n0 (s_row_ 81 (fun p => if s_pr (g 70 2) (g 70 3) (g 71 25) (g 75) (g 76) n p = 0 then (0 : Int32) else 1) i g) u an (Int32.ofNat i)) ?_
    refine q_ic_ge rfl (fun (hc0 : (g 70 27) ≤ (Int32.ofNat i)) => ?_) (fun hc0 => absurd (show (g 70 27) ≤ (Int32.ofNat i) from by rw [hn, q_le (by omega) (by omega)]; omega) hc0)
    refine q_step 2 176 [(0, .ref 70), (1, .int an), (2, .int (0 : Int32))] [] (s_row_ 81 (fun p => if s_pr (g 70 2) (g 70 3) (g 71 25) (g 75) (g 76) n p = 0 then (0 : Int32) else 1) i g) u (fun big n0 => sg_rs_64 big n0 (s_row_ 81 (fun p => if s_pr (g 70 2) (g 70 3) (g 71 25) (g 75) (g 76) n p = 0 then (0 : Int32) else 1) i g) u an (Int32.ofNat i)) ?_
    have e : i = n := by omega
    subst e
    exact hE
  | succ k ih =>
    intro i hi hE
    refine q_step 3 151 [(0, .ref 70), (1, .int an), (2, .int (Int32.ofNat i))] [.int (g 70 27), .int (Int32.ofNat i)] (s_row_ 81 (fun p => if s_pr (g 70 2) (g 70 3) (g 71 25) (g 75) (g 76) n p = 0 then (0 : Int32) else 1) i g) u (fun big n0 => sg_rs_63 big n0 (s_row_ 81 (fun p => if s_pr (g 70 2) (g 70 3) (g 71 25) (g 75) (g 76) n p = 0 then (0 : Int32) else 1) i g) u an (Int32.ofNat i)) ?_
    refine q_ic_ge rfl (fun hc0 => absurd (show (g 70 27) ≤ (Int32.ofNat i) from hc0) (fun z => by rw [hn, q_le (by omega) (by omega)] at z; omega)) (fun (hc0 : ¬ ((g 70 27) ≤ (Int32.ofNat i))) => ?_)
    refine q_step 5 161 [(0, .ref 70), (1, .int an), (2, .int (Int32.ofNat i))] [.int (Int32.ofNat i), .ref 70, .int (Int32.ofNat i), .ref 81] (s_row_ 81 (fun p => if s_pr (g 70 2) (g 70 3) (g 71 25) (g 75) (g 76) n p = 0 then (0 : Int32) else 1) i g) u (fun big n0 => sg_rs_65 big n0 (s_row_ 81 (fun p => if s_pr (g 70 2) (g 70 3) (g 71 25) (g 75) (g 76) n p = 0 then (0 : Int32) else 1) i g) u an (Int32.ofNat i)) ?_
    refine q_call (M2 := 193) (rest := [.int (Int32.ofNat i), .ref 81]) (b_pressed (s_row_ 81 (fun p => if s_pr (g 70 2) (g 70 3) (g 71 25) (g 75) (g 76) n p = 0 then (0 : Int32) else 1) i g) u hn h6 (show i < n by omega) hw) (fun _ _ => rfl) ?_
    refine q_call (M2 := 164) (rest := [.int (Int32.ofNat i), .ref 81]) (b_flag _ _ _) (fun _ _ => rfl) ?_
    refine q_iast (j := i) (q_ixn (by omega) (by omega)) rfl rfl ?_
    refine q_step 2 146 [(0, .ref 70), (1, .int an), (2, .int ((Int32.ofNat i) + (1 : Int32)))] [] (q_up (s_row_ 81 (fun p => if s_pr (g 70 2) (g 70 3) (g 71 25) (g 75) (g 76) n p = 0 then (0 : Int32) else 1) i g) 81 i ((fun p => if s_pr (g 70 2) (g 70 3) (g 71 25) (g 75) (g 76) n p = 0 then (0 : Int32) else 1) i)) u (fun big n0 => sg_rs_66 big n0 (q_up (s_row_ 81 (fun p => if s_pr (g 70 2) (g 70 3) (g 71 25) (g 75) (g 76) n p = 0 then (0 : Int32) else 1) i g) 81 i ((fun p => if s_pr (g 70 2) (g 70 3) (g 71 25) (g 75) (g 76) n p = 0 then (0 : Int32) else 1) i)) u an (Int32.ofNat i)) ?_
    rw [q_succ, s_row_s]
    exact ih (i + 1) (by omega) hE
theorem r4_l (g : qM) (u : qW) {n : Nat} (hn : g 70 27 = Int32.ofNat n) (h6 : n ≤ 6) : ∀ k i an, i + k = n → an = 0 ∨ an = 1 → q_EV m_191 176 [(0, .ref 70), (1, .int an), (2, .int (Int32.ofNat i))] [] (s_row_ 76 (fun p => if g 81 p = 1 then s_fd (g 76 p) else g 76 p) i g) u (fun R => R = (some (.int (s_ra (g 81) k i an)), s_row_ 76 (fun p => if g 81 p = 1 then s_fd (g 76 p) else g 76 p) n g, u)) := by
  intro k
  induction k with
  | zero =>
    intro i an hi ha
    refine q_step 3 181 [(0, .ref 70), (1, .int an), (2, .int (Int32.ofNat i))] [.int (g 70 27), .int (Int32.ofNat i)] (s_row_ 76 (fun p => if g 81 p = 1 then s_fd (g 76 p) else g 76 p) i g) u (fun big n0 => sg_rs_67 big n0 (s_row_ 76 (fun p => if g 81 p = 1 then s_fd (g 76 p) else g 76 p) i g) u an (Int32.ofNat i)) ?_
    refine q_ic_ge rfl (fun (hc0 : (g 70 27) ≤ (Int32.ofNat i)) => ?_) (fun hc0 => absurd (show (g 70 27) ≤ (Int32.ofNat i) from by rw [hn, q_le (by omega) (by omega)]; omega) hc0)
    have e : i = n := by omega
    subst e
    rcases ha with rfl | rfl
    · exact q_ret 2 (some (.int 0), (s_row_ 76 (fun p => if g 81 p = 1 then s_fd (g 76 p) else g 76 p) i g), u) (fun _ _ => rfl) rfl
    · exact q_ret 2 (some (.int 1), (s_row_ 76 (fun p => if g 81 p = 1 then s_fd (g 76 p) else g 76 p) i g), u) (fun _ _ => rfl) rfl
  | succ k ih =>
    intro i an hi ha
    have er : (s_row_ 76 (fun p => if g 81 p = 1 then s_fd (g 76 p) else g 76 p) i g) 76 i = g 76 i := if_neg (Nat.lt_irrefl i)
    refine q_step 3 181 [(0, .ref 70), (1, .int an), (2, .int (Int32.ofNat i))] [.int (g 70 27), .int (Int32.ofNat i)] (s_row_ 76 (fun p => if g 81 p = 1 then s_fd (g 76 p) else g 76 p) i g) u (fun big n0 => sg_rs_67 big n0 (s_row_ 76 (fun p => if g 81 p = 1 then s_fd (g 76 p) else g 76 p) i g) u an (Int32.ofNat i)) ?_
    refine q_ic_ge rfl (fun hc0 => absurd (show (g 70 27) ≤ (Int32.ofNat i) from hc0) (fun z => by rw [hn, q_le (by omega) (by omega)] at z; omega)) (fun (hc0 : ¬ ((g 70 27) ≤ (Int32.ofNat i))) => ?_)
    refine q_step 1 185 [(0, .ref 70), (1, .int an), (2, .int (Int32.ofNat i))] [.int an] (s_row_ 76 (fun p => if g 81 p = 1 then s_fd (g 76 p) else g 76 p) i g) u (fun big n0 => sg_rs_68 big n0 (s_row_ 76 (fun p => if g 81 p = 1 then s_fd (g 76 p) else g 76 p) i g) u an (Int32.ofNat i)) ?_
    refine q_if_ne rfl (fun (hc1 : an = 0) => ?_) (fun (hc1 : ¬ (an = 0)) => ?_)
    · refine q_step 3 193 [(0, .ref 70), (1, .int an), (2, .int (Int32.ofNat i))] [.int (Int32.ofNat i), .ref 81] (s_row_ 76 (fun p => if g 81 p = 1 then s_fd (g 76 p) else g 76 p) i g) u (fun big n0 => sg_rs_69 big n0 (s_row_ 76 (fun p => if g 81 p = 1 then s_fd (g 76 p) else g 76 p) i g) u an (Int32.ofNat i)) ?_
      refine q_iald (j := i) (q_ixn (by omega) (by omega)) rfl rfl ?_
      refine q_step 1 195 [(0, .ref 70), (1, .int an), (2, .int (Int32.ofNat i))] [.int (1 : Int32), .int (g 81 i)] (s_row_ 76 (fun p => if g 81 p = 1 then s_fd (g 76 p) else g 76 p) i g) u (fun big n0 => sg_rs_70 big n0 (s_row_ 76 (fun p => if g 81 p = 1 then s_fd (g 76 p) else g 76 p) i g) u an (Int32.ofNat i) (g 81 i)) ?_
      refine q_ic_ne rfl (fun (hc2 : (g 81 i) = (1 : Int32)) => ?_) (fun (hc2 : ¬ ((g 81 i) = (1 : Int32))) => ?_)
      · refine q_step 9 214 [(0, .ref 70), (1, .int (1 : Int32)), (2, .int (Int32.ofNat i))] [.int (Int32.ofNat i), .ref 81, .int (Int32.ofNat i), .ref 76] (s_row_ 76 (fun p => if g 81 p = 1 then s_fd (g 76 p) else g 76 p) i g) u (fun big n0 => sg_rs_71 big n0 (s_row_ 76 (fun p => if g 81 p = 1 then s_fd (g 76 p) else g 76 p) i g) u an (Int32.ofNat i)) ?_
        refine q_iald (j := i) (q_ixn (by omega) (by omega)) rfl rfl ?_
        refine q_step 1 216 [(0, .ref 70), (1, .int (1 : Int32)), (2, .int (Int32.ofNat i))] [.int (1 : Int32), .int (g 81 i), .int (Int32.ofNat i), .ref 76] (s_row_ 76 (fun p => if g 81 p = 1 then s_fd (g 76 p) else g 76 p) i g) u (fun big n0 => sg_rs_72 big n0 (s_row_ 76 (fun p => if g 81 p = 1 then s_fd (g 76 p) else g 76 p) i g) u (Int32.ofNat i) (Int32.ofNat i) (g 81 i)) ?_
        refine q_ic_ne rfl (fun (hc3 : (g 81 i) = (1 : Int32)) => ?_) (fun hc3 => absurd (show (g 81 i) = (1 : Int32) from hc2) hc3)
        refine q_step 3 224 [(0, .ref 70), (1, .int (1 : Int32)), (2, .int (Int32.ofNat i))] [.int (Int32.ofNat i), .ref 76, .int (Int32.ofNat i), .ref 76] (s_row_ 76 (fun p => if g 81 p = 1 then s_fd (g 76 p) else g 76 p) i g) u (fun big n0 => sg_rs_73 big n0 (s_row_ 76 (fun p => if g 81 p = 1 then s_fd (g 76 p) else g 76 p) i g) u (Int32.ofNat i) (Int32.ofNat i)) ?_
        refine q_iald (j := i) (q_ixn (by omega) (by omega)) rfl rfl ?_
        refine q_call (M2 := 194) (rest := [.int (Int32.ofNat i), .ref 76]) (b_fd _ _ _) (fun _ _ => rfl) ?_
        refine q_step 1 237 [(0, .ref 70), (1, .int (1 : Int32)), (2, .int (Int32.ofNat i))] [.int (s_fd ((s_row_ 76 (fun p => if g 81 p = 1 then s_fd (g 76 p) else g 76 p) i g) 76 i)), .int (Int32.ofNat i), .ref 76] (s_row_ 76 (fun p => if g 81 p = 1 then s_fd (g 76 p) else g 76 p) i g) u (fun big n0 => sg_rs_74 big n0 (s_row_ 76 (fun p => if g 81 p = 1 then s_fd (g 76 p) else g 76 p) i g) u (Int32.ofNat i) (Int32.ofNat i) (s_fd ((s_row_ 76 (fun p => if g 81 p = 1 then s_fd (g 76 p) else g 76 p) i g) 76 i))) ?_
        refine q_iast (j := i) (q_ixn (by omega) (by omega)) rfl rfl ?_
        refine q_step 2 176 [(0, .ref 70), (1, .int (1 : Int32)), (2, .int ((Int32.ofNat i) + (1 : Int32)))] [] (q_up (s_row_ 76 (fun p => if g 81 p = 1 then s_fd (g 76 p) else g 76 p) i g) 76 i (s_fd ((s_row_ 76 (fun p => if g 81 p = 1 then s_fd (g 76 p) else g 76 p) i g) 76 i))) u (fun big n0 => sg_rs_75 big n0 (q_up (s_row_ 76 (fun p => if g 81 p = 1 then s_fd (g 76 p) else g 76 p) i g) 76 i (s_fd ((s_row_ 76 (fun p => if g 81 p = 1 then s_fd (g 76 p) else g 76 p) i g) 76 i))) u (Int32.ofNat i)) ?_
        unfold s_ra
        rw [if_pos hc1, if_pos hc2]
        rw [q_succ, er, show s_fd (g 76 i) = (fun p => if g 81 p = 1 then s_fd (g 76 p) else g 76 p) i from (if_pos hc2).symm, s_row_s]
        exact ih (i + 1) _ (by omega) (Or.inr rfl)
      · refine q_step 8 214 [(0, .ref 70), (1, .int (0 : Int32)), (2, .int (Int32.ofNat i))] [.int (Int32.ofNat i), .ref 81, .int (Int32.ofNat i), .ref 76] (s_row_ 76 (fun p => if g 81 p = 1 then s_fd (g 76 p) else g 76 p) i g) u (fun big n0 => sg_rs_76 big n0 (s_row_ 76 (fun p => if g 81 p = 1 then s_fd (g 76 p) else g 76 p) i g) u an (Int32.ofNat i)) ?_
        refine q_iald (j := i) (q_ixn (by omega) (by omega)) rfl rfl ?_
        refine q_step 1 216 [(0, .ref 70), (1, .int (0 : Int32)), (2, .int (Int32.ofNat i))] [.int (1 : Int32), .int (g 81 i), .int (Int32.ofNat i), .ref 76] (s_row_ 76 (fun p => if g 81 p = 1 then s_fd (g 76 p) else g 76 p) i g) u (fun big n0 => sg_rs_77 big n0 (s_row_ 76 (fun p => if g 81 p = 1 then s_fd (g 76 p) else g 76 p) i g) u (Int32.ofNat i) (Int32.ofNat i) (g 81 i)) ?_
        refine q_ic_ne rfl (fun hc3 => absurd (show (g 81 i) = (1 : Int32) from hc3) (hc2)) (fun (hc3 : ¬ ((g 81 i) = (1 : Int32))) => ?_)
        refine q_step 3 236 [(0, .ref 70), (1, .int (0 : Int32)), (2, .int (Int32.ofNat i))] [.int (Int32.ofNat i), .ref 76, .int (Int32.ofNat i), .ref 76] (s_row_ 76 (fun p => if g 81 p = 1 then s_fd (g 76 p) else g 76 p) i g) u (fun big n0 => sg_rs_78 big n0 (s_row_ 76 (fun p => if g 81 p = 1 then s_fd (g 76 p) else g 76 p) i g) u (Int32.ofNat i) (Int32.ofNat i)) ?_
        refine q_iald (j := i) (q_ixn (by omega) (by omega)) rfl rfl ?_
        refine q_iast (j := i) (q_ixn (by omega) (by omega)) rfl rfl ?_
        refine q_step 2 176 [(0, .ref 70), (1, .int (0 : Int32)), (2, .int ((Int32.ofNat i) + (1 : Int32)))] [] (q_up (s_row_ 76 (fun p => if g 81 p = 1 then s_fd (g 76 p) else g 76 p) i g) 76 i ((s_row_ 76 (fun p => if g 81 p = 1 then s_fd (g 76 p) else g 76 p) i g) 76 i)) u (fun big n0 => sg_rs_79 big n0 (q_up (s_row_ 76 (fun p => if g 81 p = 1 then s_fd (g 76 p) else g 76 p) i g) 76 i ((s_row_ 76 (fun p => if g 81 p = 1 then s_fd (g 76 p) else g 76 p) i g) 76 i)) u (Int32.ofNat i)) ?_
        unfold s_ra
        rw [if_pos hc1, if_neg hc2]
        rw [q_succ, er, show g 76 i = (fun p => if g 81 p = 1 then s_fd (g 76 p) else g 76 p) i from (if_neg hc2).symm, s_row_s]
        exact ih (i + 1) _ (by omega) (Or.inl rfl)
    · refine q_step 9 214 [(0, .ref 70), (1, .int (1 : Int32)), (2, .int (Int32.ofNat i))] [.int (Int32.ofNat i), .ref 81, .int (Int32.ofNat i), .ref 76] (s_row_ 76 (fun p => if g 81 p = 1 then s_fd (g 76 p) else g 76 p) i g) u (fun big n0 => sg_rs_71 big n0 (s_row_ 76 (fun p => if g 81 p = 1 then s_fd (g 76 p) else g 76 p) i g) u an (Int32.ofNat i)) ?_
      refine q_iald (j := i) (q_ixn (by omega) (by omega)) rfl rfl ?_
      refine q_step 1 216 [(0, .ref 70), (1, .int (1 : Int32)), (2, .int (Int32.ofNat i))] [.int (1 : Int32), .int (g 81 i), .int (Int32.ofNat i), .ref 76] (s_row_ 76 (fun p => if g 81 p = 1 then s_fd (g 76 p) else g 76 p) i g) u (fun big n0 => sg_rs_72 big n0 (s_row_ 76 (fun p => if g 81 p = 1 then s_fd (g 76 p) else g 76 p) i g) u (Int32.ofNat i) (Int32.ofNat i) (g 81 i)) ?_
      refine q_ic_ne rfl (fun (hc2 : (g 81 i) = (1 : Int32)) => ?_) (fun (hc2 : ¬ ((g 81 i) = (1 : Int32))) => ?_)
      · refine q_step 3 224 [(0, .ref 70), (1, .int (1 : Int32)), (2, .int (Int32.ofNat i))] [.int (Int32.ofNat i), .ref 76, .int (Int32.ofNat i), .ref 76] (s_row_ 76 (fun p => if g 81 p = 1 then s_fd (g 76 p) else g 76 p) i g) u (fun big n0 => sg_rs_73 big n0 (s_row_ 76 (fun p => if g 81 p = 1 then s_fd (g 76 p) else g 76 p) i g) u (Int32.ofNat i) (Int32.ofNat i)) ?_
        refine q_iald (j := i) (q_ixn (by omega) (by omega)) rfl rfl ?_
        refine q_call (M2 := 194) (rest := [.int (Int32.ofNat i), .ref 76]) (b_fd _ _ _) (fun _ _ => rfl) ?_
        refine q_step 1 237 [(0, .ref 70), (1, .int (1 : Int32)), (2, .int (Int32.ofNat i))] [.int (s_fd ((s_row_ 76 (fun p => if g 81 p = 1 then s_fd (g 76 p) else g 76 p) i g) 76 i)), .int (Int32.ofNat i), .ref 76] (s_row_ 76 (fun p => if g 81 p = 1 then s_fd (g 76 p) else g 76 p) i g) u (fun big n0 => sg_rs_74 big n0 (s_row_ 76 (fun p => if g 81 p = 1 then s_fd (g 76 p) else g 76 p) i g) u (Int32.ofNat i) (Int32.ofNat i) (s_fd ((s_row_ 76 (fun p => if g 81 p = 1 then s_fd (g 76 p) else g 76 p) i g) 76 i))) ?_
        refine q_iast (j := i) (q_ixn (by omega) (by omega)) rfl rfl ?_
        refine q_step 2 176 [(0, .ref 70), (1, .int (1 : Int32)), (2, .int ((Int32.ofNat i) + (1 : Int32)))] [] (q_up (s_row_ 76 (fun p => if g 81 p = 1 then s_fd (g 76 p) else g 76 p) i g) 76 i (s_fd ((s_row_ 76 (fun p => if g 81 p = 1 then s_fd (g 76 p) else g 76 p) i g) 76 i))) u (fun big n0 => sg_rs_75 big n0 (q_up (s_row_ 76 (fun p => if g 81 p = 1 then s_fd (g 76 p) else g 76 p) i g) 76 i (s_fd ((s_row_ 76 (fun p => if g 81 p = 1 then s_fd (g 76 p) else g 76 p) i g) 76 i))) u (Int32.ofNat i)) ?_
        unfold s_ra
        rw [if_neg hc1]
        rw [q_succ, er, show s_fd (g 76 i) = (fun p => if g 81 p = 1 then s_fd (g 76 p) else g 76 p) i from (if_pos hc2).symm, s_row_s]
        exact ih (i + 1) _ (by omega) (Or.inr rfl)
      · refine q_step 3 236 [(0, .ref 70), (1, .int (1 : Int32)), (2, .int (Int32.ofNat i))] [.int (Int32.ofNat i), .ref 76, .int (Int32.ofNat i), .ref 76] (s_row_ 76 (fun p => if g 81 p = 1 then s_fd (g 76 p) else g 76 p) i g) u (fun big n0 => sg_rs_80 big n0 (s_row_ 76 (fun p => if g 81 p = 1 then s_fd (g 76 p) else g 76 p) i g) u (Int32.ofNat i) (Int32.ofNat i)) ?_
        refine q_iald (j := i) (q_ixn (by omega) (by omega)) rfl rfl ?_
        refine q_iast (j := i) (q_ixn (by omega) (by omega)) rfl rfl ?_
        refine q_step 2 176 [(0, .ref 70), (1, .int (1 : Int32)), (2, .int ((Int32.ofNat i) + (1 : Int32)))] [] (q_up (s_row_ 76 (fun p => if g 81 p = 1 then s_fd (g 76 p) else g 76 p) i g) 76 i ((s_row_ 76 (fun p => if g 81 p = 1 then s_fd (g 76 p) else g 76 p) i g) 76 i)) u (fun big n0 => sg_rs_75 big n0 (q_up (s_row_ 76 (fun p => if g 81 p = 1 then s_fd (g 76 p) else g 76 p) i g) 76 i ((s_row_ 76 (fun p => if g 81 p = 1 then s_fd (g 76 p) else g 76 p) i g) 76 i)) u (Int32.ofNat i)) ?_
        unfold s_ra
        rw [if_neg hc1]
        rw [q_succ, er, show g 76 i = (fun p => if g 81 p = 1 then s_fd (g 76 p) else g 76 p) i from (if_neg hc2).symm, s_row_s]
        exact ih (i + 1) _ (by omega) (Or.inr rfl)
end
section
theorem s_rway_5 (e s : Int32) : s_rway e s = 0 ∨ s_rway e s = 1 ∨ s_rway e s = 2 ∨ s_rway e s = 3 ∨ s_rway e s = 4 := by
  have h2 : s_rway2 s = 0 ∨ s_rway2 s = 1 ∨ s_rway2 s = 2 ∨ s_rway2 s = 3 ∨ s_rway2 s = 4 := by
    unfold s_rway2
    split
    · split
      · exact Or.inr (Or.inr (Or.inr (Or.inr rfl)))
      · exact Or.inl rfl
    · exact Or.inr (Or.inr (Or.inl rfl))
  unfold s_rway
  split
  · exact h2
  · split
    · exact h2
    · split
      · exact Or.inr (Or.inr (Or.inr (Or.inl rfl)))
      · exact Or.inr (Or.inl rfl)
theorem s_rm_an {w h wl : Int32} {wy : Nat → Int32} {n : Nat} : ∀ k i c wt an, an = 0 ∨ an = 1 → (s_rm w h wl wy n k i c wt an).2.2 = 0 ∨ (s_rm w h wl wy n k i c wt an).2.2 = 1
  | 0, _, _, _, _, ha => ha
  | k + 1, i, c, wt, an, ha => by
    unfold s_rm
    split
    · exact s_rm_an k (i + 1) _ _ _ ha
    · split
      · exact s_rm_an k (i + 1) _ _ _ (Or.inr rfl)
      · exact s_rm_an k (i + 1) _ _ _ ha
def s_r1 (n : Nat) (g : qM) : qM := s_row_ 79 (s_rw (g 70 2) (g 75) (g 76) (g 77) (g 71) n) n g
def s_rS (n : Nat) (g : qM) : s_RS := s_rm (g 70 2) (g 70 3) (g 71 20) (s_r1 n g 79) n n 0 (g 75) (g 80) 0
def s_r2 (n : Nat) (g : qM) : qM := s_N (s_rS n g).1 (s_rS n g).2.1 (s_r1 n g)
def s_r3 (n : Nat) (g : qM) : qM := s_row_ 81 (fun p => if s_pr (g 70 2) (g 70 3) (g 71 25) (s_r2 n g 75) (g 76) n p = 0 then (0 : Int32) else 1) n (s_r2 n g)
/-- the cells behind steps() -/
def s_rst (n : Nat) (g : qM) : qM := s_row_ 76 (fun p => if s_r3 n g 81 p = 1 then s_fd (g 76 p) else g 76 p) n (s_r3 n g)
/-- its answer -/
def s_ran (n : Nat) (g : qM) : Int32 := s_ra (s_r3 n g 81) n 0 (s_rS n g).2.2
/-- the cells behind starts() -/
def s_start (g : qM) : qM := fun a j => if a = 70 then (if j = 27 then g 70 4 else g 70 j) else if a = 75 then (if j < 5 then g 71 j else g 75 j) else if a = 76 then (if j < 5 then g 71 (5 + j) else g 76 j) else if a = 77 then (if j < 5 then g 71 (10 + j) else g 77 j) else if a = 78 then (if j < 5 then g 71 (15 + j) else g 78 j) else g a j
theorem sg_r4_1 (big : Nat → List Value → qM → qW → qR) (n0 : Nat) (G : qM) (U : qW) : qm_run pm_m big m_191 (n0 + 4) 0 [(0, .ref 70)] [] G U = qm_run pm_m big m_191 n0 4 [(0, .ref 70), (1, .int (0 : Int32)), (2, .int (0 : Int32))] [] G U := rfl
theorem sg_r4_2 (big : Nat → List Value → qM → qW → qR) (n0 : Nat) (G : qM) (U : qW) : qm_run pm_m big m_172 (n0 + 40) 0 [(0, .ref 70)] [] G U = qm_run pm_m big m_172 n0 59 [(0, .ref 70), (1, .int (0 : Int32))] [.ref 70] (q_up (q_up (q_up (q_up G 70 27 (G 70 4)) 75 0 (G 71 0)) 76 0 (G 71 5)) 77 0 (G 71 10)) U := rfl
theorem sg_r4_3 (big : Nat → List Value → qM → qW → qR) (n0 : Nat) (G : qM) (U : qW) : qm_run pm_m big m_172 (n0 + 40) 59 [(0, .ref 70), (1, .int (0 : Int32))] [.ref 70] G U = qm_run pm_m big m_172 n0 54 [(0, .ref 70), (1, .int (1 : Int32))] [.int (10 : Int32), .ref 71, .int (1 : Int32), .ref 77] (q_up (q_up (q_up G 78 0 (G 71 15)) 75 1 (G 71 1)) 76 1 (G 71 6)) U := rfl
theorem sg_r4_4 (big : Nat → List Value → qM → qW → qR) (n0 : Nat) (G : qM) (U : qW) : qm_run pm_m big m_172 (n0 + 40) 54 [(0, .ref 70), (1, .int (1 : Int32))] [.int (10 : Int32), .ref 71, .int (1 : Int32), .ref 77] G U = qm_run pm_m big m_172 n0 44 [(0, .ref 70), (1, .int (2 : Int32))] [.ref 70] (q_up (q_up (q_up (q_up G 77 1 (G 71 11)) 78 1 (G 71 16)) 75 2 (G 71 2)) 76 2 (G 71 7)) U := rfl
theorem sg_r4_5 (big : Nat → List Value → qM → qW → qR) (n0 : Nat) (G : qM) (U : qW) : qm_run pm_m big m_172 (n0 + 40) 44 [(0, .ref 70), (1, .int (2 : Int32))] [.ref 70] G U = qm_run pm_m big m_172 n0 39 [(0, .ref 70), (1, .int (3 : Int32))] [.int (5 : Int32), .ref 71, .int (3 : Int32), .ref 76] (q_up (q_up (q_up G 77 2 (G 71 12)) 78 2 (G 71 17)) 75 3 (G 71 3)) U := rfl
theorem sg_r4_6 (big : Nat → List Value → qM → qW → qR) (n0 : Nat) (G : qM) (U : qW) : qm_run pm_m big m_172 (n0 + 40) 39 [(0, .ref 70), (1, .int (3 : Int32))] [.int (5 : Int32), .ref 71, .int (3 : Int32), .ref 76] G U = qm_run pm_m big m_172 n0 30 [(0, .ref 70), (1, .int (4 : Int32))] [.ref 70] (q_up (q_up (q_up (q_up G 76 3 (G 71 8)) 77 3 (G 71 13)) 78 3 (G 71 18)) 75 4 (G 71 4)) U := rfl
theorem b_rsteps (g : qM) (u : qW) {n : Nat} (hn : g 70 27 = Int32.ofNat n) (h6 : n ≤ 6) (hw : g 70 2 ≠ 0) : q_BS 191 [.ref 70] g u (some (.int (s_ran n g)), s_rst n g, u) := by
  refine q_bx (mm := m_191) rfl (Nat.le_of_ble_eq_true rfl) rfl ?_
  have k4 := r4_l (s_r3 n g) u hn h6 n 0 (s_rS n g).2.2 (by omega) (s_rm_an _ _ _ _ _ (Or.inl rfl))
  rw [s_row_0] at k4
  have k3 := r3_l (s_r2 n g) u (an := (s_rS n g).2.2) hn h6 hw n 0 (by omega) k4
  rw [s_row_0] at k3
  have k2 := r2_l (s_r1 n g) u hn h6 hw (fun p hp => by
    rw [show s_r1 n g 79 p = s_rw (g 70 2) (g 75) (g 76) (g 77) (g 71) n p from if_pos hp]
    exact s_rway_5 _ _) n 0 (s_r1 n g 75) (s_r1 n g 80) 0 (by omega) (Or.inl rfl) k3
  rw [s_N_0] at k2
  have k1 := r1_l g u hn h6 hw n 0 (by omega) k2
  rw [s_row_0] at k1
  refine q_step 4 4 [(0, .ref 70), (1, .int (0 : Int32)), (2, .int (0 : Int32))] [] g u (fun big n0 => sg_r4_1 big n0 g u) ?_
  exact k1
theorem s_start_eq (g : qM) : (q_up (q_up (q_up (q_up (q_up (q_up (q_up (q_up (q_up (q_up (q_up (q_up (q_up (q_up (q_up (q_up (q_up (q_up (q_up (q_up (q_up g 70 27 (g 70 4)) 75 0 (g 71 0)) 76 0 (g 71 5)) 77 0 (g 71 10)) 78 0 (g 71 15)) 75 1 (g 71 1)) 76 1 (g 71 6)) 77 1 (g 71 11)) 78 1 (g 71 16)) 75 2 (g 71 2)) 76 2 (g 71 7)) 77 2 (g 71 12)) 78 2 (g 71 17)) 75 3 (g 71 3)) 76 3 (g 71 8)) 77 3 (g 71 13)) 78 3 (g 71 18)) 75 4 (g 71 4)) 76 4 (g 71 9)) 77 4 (g 71 14)) 78 4 (g 71 19)) = s_start g := by
  funext a j
  by_cases h70 : a = 70
  · subst h70
    simp only [q_up_eq, s_start]
    by_cases e : j = 27
    · simp [e]
    · simp [e]
  by_cases h75 : a = 75
  · subst h75
    simp only [q_up_eq, s_start]
    rcases (show j = 0 ∨ j = 1 ∨ j = 2 ∨ j = 3 ∨ j = 4 ∨ 5 ≤ j by omega) with e | e | e | e | e | e
    · simp [e]
    · simp [e]
    · simp [e]
    · simp [e]
    · simp [e]
    · simp [show ¬ j < 5 by omega, show ¬ j = 0 by omega, show ¬ j = 1 by omega, show ¬ j = 2 by omega, show ¬ j = 3 by omega, show ¬ j = 4 by omega]
  by_cases h76 : a = 76
  · subst h76
    simp only [q_up_eq, s_start]
    rcases (show j = 0 ∨ j = 1 ∨ j = 2 ∨ j = 3 ∨ j = 4 ∨ 5 ≤ j by omega) with e | e | e | e | e | e
    · simp [e]
    · simp [e]
    · simp [e]
    · simp [e]
    · simp [e]
    · simp [show ¬ j < 5 by omega, show ¬ j = 0 by omega, show ¬ j = 1 by omega, show ¬ j = 2 by omega, show ¬ j = 3 by omega, show ¬ j = 4 by omega]
  by_cases h77 : a = 77
  · subst h77
    simp only [q_up_eq, s_start]
    rcases (show j = 0 ∨ j = 1 ∨ j = 2 ∨ j = 3 ∨ j = 4 ∨ 5 ≤ j by omega) with e | e | e | e | e | e
    · simp [e]
    · simp [e]
    · simp [e]
    · simp [e]
    · simp [e]
    · simp [show ¬ j < 5 by omega, show ¬ j = 0 by omega, show ¬ j = 1 by omega, show ¬ j = 2 by omega, show ¬ j = 3 by omega, show ¬ j = 4 by omega]
  by_cases h78 : a = 78
  · subst h78
    simp only [q_up_eq, s_start]
    rcases (show j = 0 ∨ j = 1 ∨ j = 2 ∨ j = 3 ∨ j = 4 ∨ 5 ≤ j by omega) with e | e | e | e | e | e
    · simp [e]
    · simp [e]
    · simp [e]
    · simp [e]
    · simp [e]
    · simp [show ¬ j < 5 by omega, show ¬ j = 0 by omega, show ¬ j = 1 by omega, show ¬ j = 2 by omega, show ¬ j = 3 by omega, show ¬ j = 4 by omega]
  simp only [q_up_eq, s_start]
  simp [h70, h75, h76, h77, h78]
theorem b_starts (g : qM) (u : qW) : q_BS 172 [.ref 70] g u (none, s_start g, u) := by
  refine q_bx (mm := m_172) rfl (Nat.le_of_ble_eq_true rfl) rfl ?_
  refine q_step 40 59 [(0, .ref 70), (1, .int (0 : Int32))] [.ref 70] (q_up (q_up (q_up (q_up g 70 27 (g 70 4)) 75 0 (g 71 0)) 76 0 (g 71 5)) 77 0 (g 71 10)) u (fun big n0 => sg_r4_2 big n0 g u) ?_
  refine q_step 40 54 [(0, .ref 70), (1, .int (1 : Int32))] [.int (10 : Int32), .ref 71, .int (1 : Int32), .ref 77] (q_up (q_up (q_up (q_up (q_up (q_up (q_up g 70 27 (g 70 4)) 75 0 (g 71 0)) 76 0 (g 71 5)) 77 0 (g 71 10)) 78 0 (g 71 15)) 75 1 (g 71 1)) 76 1 (g 71 6)) u (fun big n0 => sg_r4_3 big n0 (q_up (q_up (q_up (q_up g 70 27 (g 70 4)) 75 0 (g 71 0)) 76 0 (g 71 5)) 77 0 (g 71 10)) u) ?_
  refine q_step 40 44 [(0, .ref 70), (1, .int (2 : Int32))] [.ref 70] (q_up (q_up (q_up (q_up (q_up (q_up (q_up (q_up (q_up (q_up (q_up g 70 27 (g 70 4)) 75 0 (g 71 0)) 76 0 (g 71 5)) 77 0 (g 71 10)) 78 0 (g 71 15)) 75 1 (g 71 1)) 76 1 (g 71 6)) 77 1 (g 71 11)) 78 1 (g 71 16)) 75 2 (g 71 2)) 76 2 (g 71 7)) u (fun big n0 => sg_r4_4 big n0 (q_up (q_up (q_up (q_up (q_up (q_up (q_up g 70 27 (g 70 4)) 75 0 (g 71 0)) 76 0 (g 71 5)) 77 0 (g 71 10)) 78 0 (g 71 15)) 75 1 (g 71 1)) 76 1 (g 71 6)) u) ?_
  refine q_step 40 39 [(0, .ref 70), (1, .int (3 : Int32))] [.int (5 : Int32), .ref 71, .int (3 : Int32), .ref 76] (q_up (q_up (q_up (q_up (q_up (q_up (q_up (q_up (q_up (q_up (q_up (q_up (q_up (q_up g 70 27 (g 70 4)) 75 0 (g 71 0)) 76 0 (g 71 5)) 77 0 (g 71 10)) 78 0 (g 71 15)) 75 1 (g 71 1)) 76 1 (g 71 6)) 77 1 (g 71 11)) 78 1 (g 71 16)) 75 2 (g 71 2)) 76 2 (g 71 7)) 77 2 (g 71 12)) 78 2 (g 71 17)) 75 3 (g 71 3)) u (fun big n0 => sg_r4_5 big n0 (q_up (q_up (q_up (q_up (q_up (q_up (q_up (q_up (q_up (q_up (q_up g 70 27 (g 70 4)) 75 0 (g 71 0)) 76 0 (g 71 5)) 77 0 (g 71 10)) 78 0 (g 71 15)) 75 1 (g 71 1)) 76 1 (g 71 6)) 77 1 (g 71 11)) 78 1 (g 71 16)) 75 2 (g 71 2)) 76 2 (g 71 7)) u) ?_
  refine q_step 40 30 [(0, .ref 70), (1, .int (4 : Int32))] [.ref 70] (q_up (q_up (q_up (q_up (q_up (q_up (q_up (q_up (q_up (q_up (q_up (q_up (q_up (q_up (q_up (q_up (q_up (q_up g 70 27 (g 70 4)) 75 0 (g 71 0)) 76 0 (g 71 5)) 77 0 (g 71 10)) 78 0 (g 71 15)) 75 1 (g 71 1)) 76 1 (g 71 6)) 77 1 (g 71 11)) 78 1 (g 71 16)) 75 2 (g 71 2)) 76 2 (g 71 7)) 77 2 (g 71 12)) 78 2 (g 71 17)) 75 3 (g 71 3)) 76 3 (g 71 8)) 77 3 (g 71 13)) 78 3 (g 71 18)) 75 4 (g 71 4)) u (fun big n0 => sg_r4_6 big n0 (q_up (q_up (q_up (q_up (q_up (q_up (q_up (q_up (q_up (q_up (q_up (q_up (q_up (q_up g 70 27 (g 70 4)) 75 0 (g 71 0)) 76 0 (g 71 5)) 77 0 (g 71 10)) 78 0 (g 71 15)) 75 1 (g 71 1)) 76 1 (g 71 6)) 77 1 (g 71 11)) 78 1 (g 71 16)) 75 2 (g 71 2)) 76 2 (g 71 7)) 77 2 (g 71 12)) 78 2 (g 71 17)) 75 3 (g 71 3)) u) ?_
  refine q_ret 35 (none, (q_up (q_up (q_up (q_up (q_up (q_up (q_up (q_up (q_up (q_up (q_up (q_up (q_up (q_up (q_up (q_up (q_up (q_up (q_up (q_up (q_up g 70 27 (g 70 4)) 75 0 (g 71 0)) 76 0 (g 71 5)) 77 0 (g 71 10)) 78 0 (g 71 15)) 75 1 (g 71 1)) 76 1 (g 71 6)) 77 1 (g 71 11)) 78 1 (g 71 16)) 75 2 (g 71 2)) 76 2 (g 71 7)) 77 2 (g 71 12)) 78 2 (g 71 17)) 75 3 (g 71 3)) 76 3 (g 71 8)) 77 3 (g 71 13)) 78 3 (g 71 18)) 75 4 (g 71 4)) 76 4 (g 71 9)) 77 4 (g 71 14)) 78 4 (g 71 19)), u) (fun _ _ => rfl) ?_
  exact congrArg (fun m => ((none : Option Value), m, u)) (s_start_eq g)
end
section
/-! WISHES are alike: the class's sums of pairs, the reference's sums one by one. -/
/-- a number from lo to hi -/
def s_rg (x : Int32) (lo hi : Int) : Prop := lo ≤ x.toInt ∧ x.toInt ≤ hi
theorem s_cr_fin : (List.range 4).all (fun W => (List.range 25).all (fun C => decide (0 ≤ (s_col (Int32.ofNat (W + 2)) (Int32.ofNat C)).toInt ∧ (s_col (Int32.ofNat (W + 2)) (Int32.ofNat C)).toInt ≤ 4 ∧ 0 ≤ (s_row (Int32.ofNat (W + 2)) (Int32.ofNat C)).toInt ∧ (s_row (Int32.ofNat (W + 2)) (Int32.ofNat C)).toInt ≤ 12))) = true := by decide +kernel
theorem s_cr {w c : Int32} (hw : s_rg w 2 5) (hc : s_rg c 0 24) : s_rg (s_col w c) 0 4 ∧ s_rg (s_row w c) 0 12 := by
  obtain ⟨h1, h2⟩ := hw
  obtain ⟨h3, h4⟩ := hc
  have e1 : w = Int32.ofNat ((w.toInt.toNat - 2) + 2) := by
    rw [show (w.toInt.toNat - 2) + 2 = w.toInt.toNat by omega]
    exact q_of (by omega)
  have e2 : c = Int32.ofNat c.toInt.toNat := q_of h3
  have h := List.all_eq_true.mp (List.all_eq_true.mp s_cr_fin (w.toInt.toNat - 2) (List.mem_range.mpr (by omega))) c.toInt.toNat (List.mem_range.mpr (by omega))
  rw [← e1, ← e2] at h
  have h := of_decide_eq_true h
  exact ⟨⟨h.1, h.2.1⟩, ⟨h.2.2.1, h.2.2.2⟩⟩
theorem s_neg {x : Int32} (h1 : -2147483648 < x.toInt) : (-x).toInt = -x.toInt := by
  have := Int32.toInt_lt x
  rw [Int32.toInt_neg]
  exact Int.bmod_eq_of_le (by omega) (by omega)
theorem s_ge0 {x : Int32} : (0 ≤ x) ↔ 0 ≤ x.toInt := by
  rw [Int32.le_iff_toInt_le]
  exact Iff.rfl
theorem s_le0 {x : Int32} : (x ≤ 0) ↔ x.toInt ≤ 0 := by
  rw [Int32.le_iff_toInt_le]
  exact Iff.rfl
theorem s_abs_i {x : Int32} (h1 : -2147483648 < x.toInt) : (s_abs x).toInt = if 0 ≤ x.toInt then x.toInt else -x.toInt := by
  unfold s_abs
  by_cases h : 0 ≤ x.toInt
  · rw [if_pos (s_ge0.mpr h), if_pos h]
  · rw [if_neg (fun z => h (s_ge0.mp z)), if_neg h, s_neg h1]
theorem s_abs_sub {x y : Int32} {a b : Int} (hx : s_rg x 0 24) (hy : s_rg y 0 24) : s_abs (x - y) = s_abs (y - x) ∧ 0 ≤ (s_abs (x - y)).toInt ∧ (s_abs (x - y)).toInt ≤ 24 ∧ ((s_abs (x - y)).toInt = 0 → x = y) := by
  obtain ⟨h1, h2⟩ := hx
  obtain ⟨h3, h4⟩ := hy
  have e1 : (x - y).toInt = x.toInt - y.toInt := s_sub (by omega) (by omega)
  have e2 : (y - x).toInt = y.toInt - x.toInt := s_sub (by omega) (by omega)
  have a1 := s_abs_i (x := x - y) (by omega)
  have a2 := s_abs_i (x := y - x) (by omega)
  rw [e1] at a1
  rw [e2] at a2
  refine ⟨q_inj ?_, ?_, ?_, ?_⟩
  · rw [a1, a2]
    split <;> split <;> omega
  · rw [a1]
    split <;> omega
  · rw [a1]
    split <;> omega
  · intro z
    rw [a1] at z
    apply q_inj
    split at z <;> omega
theorem s_cmp_sgn (x : Int32) : s_cmp x 0 = s_sgn x := by
  unfold s_cmp s_sgn
  by_cases h1 : 0 ≤ x
  · rw [if_pos h1]
    by_cases h2 : x = 0
    · rw [if_pos h2, h2]
      rfl
    · have h3 : ¬ x ≤ 0 := fun z => h2 (q_inj (by
        have := s_ge0.mp h1
        have := s_le0.mp z
        have e : (0 : Int32).toInt = 0 := rfl
        omega))
      rw [if_neg h2, if_neg h3]
  · have h3 : x ≤ 0 := s_le0.mpr (by
      have : ¬ 0 ≤ x.toInt := fun z => h1 (s_ge0.mpr z)
      omega)
    rw [if_neg h1, if_pos h3, if_neg h1]
theorem s_cmp_neg {x y : Int32} (hx : s_rg x 0 24) (hy : s_rg y 0 24) : s_cmp (x - y) 0 = -(s_cmp (y - x) 0) := by
  obtain ⟨h1, h2⟩ := hx
  obtain ⟨h3, h4⟩ := hy
  have e1 : (x - y).toInt = x.toInt - y.toInt := s_sub (by omega) (by omega)
  have e2 : (y - x).toInt = y.toInt - x.toInt := s_sub (by omega) (by omega)
  have e : (0 : Int32).toInt = 0 := rfl
  unfold s_cmp
  rcases Int.lt_trichotomy x.toInt y.toInt with h | h | h
  · rw [if_neg (fun z => by have := s_ge0.mp z; omega), if_pos (s_ge0.mpr (by omega)), if_neg (fun z => by rw [z, e] at e2; omega)]
    decide
  · rw [if_pos (s_ge0.mpr (by omega)), if_pos (q_inj (by omega)), if_pos (s_ge0.mpr (by omega)), if_pos (q_inj (by omega))]
    decide
  · rw [if_pos (s_ge0.mpr (by omega)), if_neg (fun z => by rw [z, e] at e1; omega), if_neg (fun z => by have := s_ge0.mp z; omega)]
    decide
theorem s_far_b {w x y : Int32} (hw : s_rg w 2 5) (hx : s_rg x 0 24) (hy : s_rg y 0 24) : s_far w x y = s_far w y x ∧ 0 ≤ (s_far w x y).toInt ∧ (s_far w x y).toInt ≤ 48 ∧ ((s_far w x y).toInt = 0 → s_col w y = s_col w x ∧ s_row w y = s_row w x) := by
  obtain ⟨⟨a1, a2⟩, ⟨a3, a4⟩⟩ := s_cr hw hx
  obtain ⟨⟨b1, b2⟩, ⟨b3, b4⟩⟩ := s_cr hw hy
  obtain ⟨c1, c2, c3, c4⟩ := s_abs_sub (a := 0) (b := 0) (x := s_col w y) (y := s_col w x) ⟨by omega, by omega⟩ ⟨by omega, by omega⟩
  obtain ⟨d1, d2, d3, d4⟩ := s_abs_sub (a := 0) (b := 0) (x := s_row w y) (y := s_row w x) ⟨by omega, by omega⟩ ⟨by omega, by omega⟩
  have e : (s_far w x y).toInt = (s_abs (s_col w y - s_col w x)).toInt + (s_abs (s_row w y - s_row w x)).toInt := s_add (by omega) (by omega)
  refine ⟨?_, by omega, by omega, fun z => ⟨c4 (by omega), d4 (by omega)⟩⟩
  unfold s_far
  rw [c1, d1]
section Wish
variable {w : Int32} {c mo pl pr : Nat → Int32} {n : Nat}
theorem s_str_sym (hw : s_rg w 2 5) {p q : Nat} (hp : s_rg (c p) 0 24) (hq : s_rg (c q) 0 24) : s_str w c mo pl p q = s_str w c mo pl q p := by
  unfold s_str
  rw [(s_far_b hw hp hq).1]
  by_cases h1 : mo p = 0
  · rw [if_pos h1]
    split
    · rfl
    · first
        | rfl
        | rw [if_pos h1]
  · rw [if_neg h1]
    by_cases h2 : mo q = 0
    · rw [if_pos h2, if_pos h2]
    · rw [if_neg h2, if_neg h2, if_neg h1]
      by_cases h3 : mo p = mo q
      · rw [if_pos h3, if_pos h3.symm]
      · rw [if_neg h3, if_neg (show ¬ mo q = mo p from fun z => h3 z.symm)]
theorem s_pe_neg (hw : s_rg w 2 5) {p q : Nat} (hp : s_rg (c p) 0 24) (hq : s_rg (c q) 0 24) : s_pe w c mo pl p q = -(s_pe w c mo pl q p) := by
  obtain ⟨⟨a1, a2⟩, _⟩ := s_cr hw hp
  obtain ⟨⟨b1, b2⟩, _⟩ := s_cr hw hq
  unfold s_pe
  rw [s_str_sym hw hp hq, s_cmp_neg (x := s_col w (c q)) (y := s_col w (c p)) ⟨by omega, by omega⟩ ⟨by omega, by omega⟩, Int32.mul_neg]
theorem s_ps_neg (hw : s_rg w 2 5) {p q : Nat} (hp : s_rg (c p) 0 24) (hq : s_rg (c q) 0 24) : s_ps w c mo pl p q = -(s_ps w c mo pl q p) := by
  obtain ⟨_, ⟨a1, a2⟩⟩ := s_cr hw hp
  obtain ⟨_, ⟨b1, b2⟩⟩ := s_cr hw hq
  unfold s_ps
  rw [s_str_sym hw hp hq, s_cmp_neg (x := s_row w (c q)) (y := s_row w (c p)) ⟨by omega, by omega⟩ ⟨by omega, by omega⟩, Int32.mul_neg]
/-- one term of the reference is that of the class -/
theorem s_rt_e (hw : s_rg w 2 5) (hpl : ∀ d, 1 ≤ d → d ≤ 4 → pr (20 + d) = pl d) {p q : Nat} (hpq : q ≠ p) (hp : s_rg (c p) 0 24) (hq : s_rg (c q) 0 24) (so : Int32) : s_rt w c mo pr so p q = if so = 0 then s_pe w c mo pl p q else s_ps w c mo pl p q := by
  obtain ⟨f1, f2, f3, f4⟩ := s_far_b hw hp hq
  unfold s_rt s_pe s_ps
  rw [if_neg hpq]
  by_cases h1 : mo p = 0
  · rw [if_pos h1, s_str_p h1, Int32.zero_mul, Int32.zero_mul]
    split <;> rfl
  · rw [if_neg h1]
    by_cases h2 : mo q = 0
    · rw [if_pos h2, s_str_q h2, Int32.zero_mul, Int32.zero_mul]
      split <;> rfl
    · rw [if_neg h2, ← f1]
      have z1 : (1 : Int64).toInt = 1 := rfl
      have z4 : (4 : Int64).toInt = 4 := rfl
      by_cases h3 : s_in (s_far w (c p) (c q)).toInt64 1 4 = 0
      · rw [if_pos h3]
        have h4 : ¬ ((1 : Int) ≤ (s_far w (c p) (c q)).toInt ∧ (s_far w (c p) (c q)).toInt ≤ 4) := fun z => (s_in_i (lo := 1) (hi := 4)).mpr ⟨by omega, by omega⟩ h3
        by_cases h5 : (s_far w (c p) (c q)).toInt = 0
        · obtain ⟨g1, g2⟩ := f4 h5
          rw [g1, g2]
          have e : ∀ x : Int32, s_cmp (x - x) 0 = 0 := fun x => by
            rw [Int32.sub_self]
            rfl
          rw [e, e, Int32.mul_zero]
          split <;> rfl
        · have h6 : ¬ s_far w (c p) (c q) ≤ 4 := fun z => by
            have := Int32.le_iff_toInt_le.mp z
            have e4 : (4 : Int32).toInt = 4 := rfl
            omega
          unfold s_str
          rw [if_neg h1, if_neg h2, if_neg h6, Int32.zero_mul, Int32.zero_mul]
          split <;> rfl
      · rw [if_neg h3]
        have h4 := (s_in_i (lo := 1) (hi := 4)).mp h3
        rw [z1, z4] at h4
        have e5 : ((21 : Int32) + s_far w (c p) (c q) - 1).toInt.toNat = 20 + (s_far w (c p) (c q)).toInt.toNat := by
          rw [s_pli h4.1 h4.2]
          omega
        rw [e5, hpl _ (by omega) (by omega)]
        have h6 : s_far w (c p) (c q) ≤ 4 := Int32.le_iff_toInt_le.mpr (by
          have e4 : (4 : Int32).toInt = 4 := rfl
          omega)
        unfold s_str
        rw [if_neg h1, if_neg h2, if_pos h6, s_cmp_sgn, s_cmp_sgn]
        by_cases h7 : mo p = mo q
        · rw [if_pos h7, if_pos h7.symm]
          by_cases h8 : so = 0
          · rw [if_pos h8, if_pos h8, Int32.mul_neg, Int32.neg_mul]
          · rw [if_neg h8, if_neg h8, Int32.mul_neg, Int32.neg_mul]
        · rw [if_neg h7, if_neg (show ¬ mo q = mo p from fun z => h7 z.symm)]
          by_cases h8 : so = 0
          · rw [if_pos h8, if_pos h8]
          · rw [if_neg h8, if_neg h8]
end Wish
theorem s_A_eq (e : Nat → Nat → Int32) (n p : Nat) (hn : n ≤ 6) (hp : p < n) : s_A e n p = s_sf (fun q => if q = p then 0 else if q < p then -(e q p) else e p q) n 0 := by
  rcases (show n = 1 ∨ n = 2 ∨ n = 3 ∨ n = 4 ∨ n = 5 ∨ n = 6 by omega) with h | h | h | h | h | h
  · subst h
    obtain rfl : p = 0 := by omega
    simp [s_A, s_sf, s_K]
  · subst h
    rcases (show p = 0 ∨ p = 1 by omega) with h | h
    · subst h
      simp [s_A, s_sf, s_K]
    · subst h
      simp [s_A, s_sf, s_K]
  · subst h
    rcases (show p = 0 ∨ p = 1 ∨ p = 2 by omega) with h | h | h
    · subst h
      simp [s_A, s_sf, s_K]
    · subst h
      simp [s_A, s_sf, s_K]
    · subst h
      simp [s_A, s_sf, s_K]
  · subst h
    rcases (show p = 0 ∨ p = 1 ∨ p = 2 ∨ p = 3 by omega) with h | h | h | h
    · subst h
      simp [s_A, s_sf, s_K]
    · subst h
      simp [s_A, s_sf, s_K]
    · subst h
      simp [s_A, s_sf, s_K]
    · subst h
      simp [s_A, s_sf, s_K]
  · subst h
    rcases (show p = 0 ∨ p = 1 ∨ p = 2 ∨ p = 3 ∨ p = 4 by omega) with h | h | h | h | h
    · subst h
      simp [s_A, s_sf, s_K]
    · subst h
      simp [s_A, s_sf, s_K]
    · subst h
      simp [s_A, s_sf, s_K]
    · subst h
      simp [s_A, s_sf, s_K]
    · subst h
      simp [s_A, s_sf, s_K]
  · subst h
    rcases (show p = 0 ∨ p = 1 ∨ p = 2 ∨ p = 3 ∨ p = 4 ∨ p = 5 by omega) with h | h | h | h | h | h
    · subst h
      simp [s_A, s_sf, s_K]
    · subst h
      simp [s_A, s_sf, s_K]
    · subst h
      simp [s_A, s_sf, s_K]
    · subst h
      simp [s_A, s_sf, s_K]
    · subst h
      simp [s_A, s_sf, s_K]
    · subst h
      simp [s_A, s_sf, s_K]
theorem s_sf_cg {f f' : Nat → Int32} : ∀ k q, (∀ i, q ≤ i → i < q + k → f i = f' i) → s_sf f k q = s_sf f' k q
  | 0, _, _ => rfl
  | k + 1, q, h => by
    show f q + s_sf f k (q + 1) = f' q + s_sf f' k (q + 1)
    rw [h q (Nat.le_refl _) (by omega), s_sf_cg k (q + 1) (fun i h1 h2 => h i (by omega) (by omega))]
theorem s_force {w : Int32} {c mo pl pr : Nat → Int32} {n : Nat} (h6 : n ≤ 6) (hw : s_rg w 2 5) (hc : ∀ p, p < n → s_rg (c p) 0 24) (hpl : ∀ d, 1 ≤ d → d ≤ 4 → pr (20 + d) = pl d) {p : Nat} (hp : p < n) : s_A (s_pe w c mo pl) n p = s_sf (s_rt w c mo pr 0 p) n 0 ∧ s_A (s_ps w c mo pl) n p = s_sf (s_rt w c mo pr 1 p) n 0 := by
  refine ⟨?_, ?_⟩
  · rw [s_A_eq _ n p h6 hp]
    apply s_sf_cg
    intro q _ hq
    have hq : q < n := by omega
    by_cases e : q = p
    · rw [if_pos e]
      exact (if_pos e).symm
    · rw [if_neg e, s_rt_e hw hpl e (hc p hp) (hc q hq), if_pos (show (0 : Int32) = 0 from rfl)]
      split
      · rw [s_pe_neg hw (hc p hp) (hc q hq)]
      · rfl
  · rw [s_A_eq _ n p h6 hp]
    apply s_sf_cg
    intro q _ hq
    have hq : q < n := by omega
    by_cases e : q = p
    · rw [if_pos e]
      exact (if_pos e).symm
    · rw [if_neg e, s_rt_e hw hpl e (hc p hp) (hc q hq), if_neg (show ¬ (1 : Int32) = 0 by decide)]
      split
      · rw [s_ps_neg hw (hc p hp) (hc q hq)]
      · rfl
theorem s_rway2_eq (s : Int32) : s_rway2 s = s_way2 s := by
  unfold s_rway2 s_way2
  by_cases h : s = 0
  · rw [if_pos h, h]
    rfl
  · rw [if_neg h]
    by_cases h2 : s ≤ 0
    · rw [if_pos h2, if_pos h2, if_neg (fun z => h (q_inj (by
        have := s_ge0.mp z
        have := s_le0.mp h2
        have e : (0 : Int32).toInt = 0 := rfl
        omega)))]
    · rw [if_neg h2, if_neg h2]
theorem s_rway_eq (e s : Int32) : s_rway e s = s_way e s := by
  unfold s_rway s_way
  rw [s_rway2_eq]
/-- WISHES are alike -/
theorem s_wish {w : Int32} {c mo st pl pr : Nat → Int32} {n : Nat} {g : qM} (h6 : n ≤ 6) (hw : s_rg w 2 5) (hc : ∀ p, p < n → s_rg (c p) 0 24) (hst : ∀ p, p < n → st p = 0 ∨ st p = 1) (hpl : ∀ d, 1 ≤ d → d ≤ 4 → pr (20 + d) = pl d) {p : Nat} (hp : p < n) : s_wf st (s_H w c mo pl n g) p = s_rw w c mo st pr n p := by
  obtain ⟨f1, f2⟩ := s_force (mo := mo) h6 hw hc hpl hp
  have e1 : s_H w c mo pl n g 31 p = s_rf w c mo pr n 0 p := by
    unfold s_rf
    rw [← f1]
    show (if p < n then (0 : Int32) else g 31 p) + s_A (s_pe w c mo pl) n p = 0 + s_A (s_pe w c mo pl) n p
    rw [if_pos hp]
  have e2 : s_H w c mo pl n g 32 p = s_rf w c mo pr n 1 p := by
    unfold s_rf
    rw [← f2]
    show (if p < n then (0 : Int32) else g 32 p) + s_A (s_ps w c mo pl) n p = 0 + s_A (s_ps w c mo pl) n p
    rw [if_pos hp]
  unfold s_wf s_rw
  rw [e1, e2]
  rcases hst p hp with h | h
  · rw [if_pos h, if_neg (by rw [h]; decide), if_neg (by rw [h]; decide), s_rway_eq]
  · rw [if_neg (by rw [h]; decide), if_pos h, if_pos h]
    rfl
end
