/-! A STEP of the reference. -/
def s_oc (c : Nat → Int32) (n : Nat) (x : Int32) : Int32 := if x = i_none then 0 else if s_wl c x n 0 i_none = i_none then 0 else 1
def s_cn (w h : Int32) (c : Nat → Int32) (n p : Nat) : Int32 := 0 + s_oc c n (s_to w h (c p) 0) + s_oc c n (s_to w h (c p) 1) + s_oc c n (s_to w h (c p) 2) + s_oc c n (s_to w h (c p) 3)
def s_pr (w h pr : Int32) (c mo : Nat → Int32) (n p : Nat) : Int32 := if mo p ≤ 0 then 0 else if pr ≤ 0 then 0 else if s_cn w h c n p < pr then 0 else 1
/-- the first i places of the row A by f -/
def s_row_ (A : Nat) (f : Nat → Int32) (i : Nat) (g : qM) : qM := fun a j => if a = A then (if j < i then f j else g A j) else g a j
theorem s_row_s {A : Nat} {f : Nat → Int32} {i : Nat} {g : qM} : q_up (s_row_ A f i g) A i (f i) = s_row_ A f (i + 1) g := by
  funext a j
  simp only [q_up_eq, s_row_]
  by_cases h : a = A
  · by_cases e : j = i
    · subst e
      simp [h]
    · have q : (j < i + 1) = (j < i) := propext ⟨fun h => by omega, fun h => by omega⟩
      simp only [h, e, and_false, if_false, q]
  · simp [h]
theorem s_row_0 {A : Nat} {f : Nat → Int32} {g : qM} : s_row_ A f 0 g = g := by
  funext a j
  simp only [s_row_, Nat.not_lt_zero, if_false]
  split
  · rename_i h
    rw [h]
  · rfl
def s_N (c wt : Nat → Int32) (g : qM) : qM := fun a j => if a = 75 then c j else if a = 80 then wt j else g a j
theorem s_N_c {c wt : Nat → Int32} {g : qM} {i : Nat} {x : Int32} : q_up (s_N c wt g) 75 i x = s_N (s_set c i x) wt g := by
  funext a j
  simp only [q_up_eq, s_N, s_set]
  by_cases h : a = 75
  · by_cases e : j = i
    · simp [h, e]
    · simp [h, e]
  · simp [h]
theorem s_N_w {c wt : Nat → Int32} {g : qM} {i : Nat} {x : Int32} : q_up (s_N c wt g) 80 i x = s_N c (s_set wt i x) g := by
  funext a j
  simp only [q_up_eq, s_N, s_set]
  by_cases h : a = 80
  · by_cases e : j = i
    · simp [h, e]
    · simp [h, e]
  · simp [h]
theorem s_N_0 {g : qM} : s_N (g 75) (g 80) g = g := by
  funext a j
  unfold s_N
  split
  · rename_i h
    rw [h]
  · split
    · rename_i h
      rw [h]
    · rfl
theorem s_set_same (c : Nat → Int32) (i : Nat) : s_set c i (c i) = c := by
  funext j
  unfold s_set
  split
  · rename_i h
    rw [h]
  · rfl
abbrev s_RS : Type := (Nat → Int32) × (Nat → Int32) × Int32
def s_rm (w h wl : Int32) (wy : Nat → Int32) (n : Nat) : Nat → Nat → (Nat → Int32) → (Nat → Int32) → Int32 → s_RS
  | 0, _, c, wt, an => (c, wt, an)
  | k + 1, i, c, wt, an => if s_op wl (s_to w h (c i) (wy i)) = 0 then s_rm w h wl wy n k (i + 1) c (s_set wt i 4) an else if s_wl c (s_to w h (c i) (wy i)) n 0 i_none = i_none then s_rm w h wl wy n k (i + 1) (s_set c i (s_to w h (c i) (wy i))) (s_set wt i (wy i)) 1 else s_rm w h wl wy n k (i + 1) c (s_set wt i 4) an
def s_ra (fl : Nat → Int32) : Nat → Nat → Int32 → Int32
  | 0, _, an => an
  | k + 1, i, an => s_ra fl k (i + 1) (if an = 0 then (if fl i = 1 then 1 else 0) else 1)
theorem sg_rs_1 (big : Nat → List Value → qM → qW → qR) (n0 : Nat) (G : qM) (U : qW) (v0 : Int32) (v1 : Int32) : qm_run pm_m big m_193 (n0 + 7) 4 [(0, .ref 70), (1, .int v0), (2, .int v1), (3, .int (0 : Int32))] [] G U = qm_run pm_m big m_193 n0 15 [(0, .ref 70), (1, .int v0), (2, .int v1), (3, .int (0 : Int32))] [.int v0, .ref 75, .ref 70] G U := rfl
theorem sg_rs_2 (big : Nat → List Value → qM → qW → qR) (n0 : Nat) (G : qM) (U : qW) (v0 : Int32) (v1 : Int32) (v2 : Int32) : qm_run pm_m big m_193 (n0 + 1) 16 [(0, .ref 70), (1, .int v0), (2, .int v1), (3, .int (0 : Int32))] [.int v2, .ref 70] G U = qm_run pm_m big m_193 n0 17 [(0, .ref 70), (1, .int v0), (2, .int v1), (3, .int (0 : Int32))] [.int (0 : Int32), .int v2, .ref 70] G U := rfl
theorem sg_rs_3 (big : Nat → List Value → qM → qW → qR) (n0 : Nat) (G : qM) (U : qW) (v0 : Int32) (v1 : Int32) (v2 : Int32) : qm_run pm_m big m_193 (n0 + 4) 20 [(0, .ref 70), (1, .int v0), (2, .int v1), (3, .int (0 : Int32))] [.int v2] G U = qm_run pm_m big m_193 n0 27 [(0, .ref 70), (1, .int v0), (2, .int v1), (3, .int (0 : Int32)), (4, .int v2)] [.int (Int8.toInt32 (Int8.ofInt (-4))), .int v2, .int v1] G U := rfl
theorem sg_rs_4 (big : Nat → List Value → qM → qW → qR) (n0 : Nat) (G : qM) (U : qW) (v0 : Int32) (v1 : Int32) (v2 : Int32) (v3 : Int32) : qm_run pm_m big m_193 (n0 + 1) 45 [(0, .ref 70), (1, .int v0), (2, .int v1), (3, .int (0 : Int32)), (4, .int v2)] [.int v3] G U = qm_run pm_m big m_193 n0 46 [(0, .ref 70), (1, .int v0), (2, .int v1), (3, .int (0 : Int32)), (4, .int v2)] [.int (0 : Int32), .int v3] G U := rfl
theorem sg_rs_5 (big : Nat → List Value → qM → qW → qR) (n0 : Nat) (G : qM) (U : qW) (v0 : Int32) (v1 : Int32) (v2 : Int32) (v3 : Int32) : qm_run pm_m big m_193 (n0 + 4) 49 [(0, .ref 70), (1, .int v0), (2, .int v1), (3, .int (0 : Int32)), (4, .int v2)] [.int (0 : Int32), .int v3] G U = qm_run pm_m big m_193 n0 4 [(0, .ref 70), (1, .int v0), (2, .int (v3 + (0 : Int32))), (3, .int (1 : Int32)), (4, .int v2)] [] G U := rfl
theorem sg_rs_6 (big : Nat → List Value → qM → qW → qR) (n0 : Nat) (G : qM) (U : qW) (v0 : Int32) (v1 : Int32) (v2 : Int32) (v3 : Int32) : qm_run pm_m big m_193 (n0 + 2) 30 [(0, .ref 70), (1, .int v0), (2, .int v1), (3, .int (0 : Int32)), (4, .int v2)] [.int v3] G U = qm_run pm_m big m_193 n0 33 [(0, .ref 70), (1, .int v0), (2, .int v1), (3, .int (0 : Int32)), (4, .int v2)] [.int v2, .ref 70, .int v3] G U := rfl
theorem sg_rs_7 (big : Nat → List Value → qM → qW → qR) (n0 : Nat) (G : qM) (U : qW) (v0 : Int32) (v1 : Int32) (v2 : Int32) (v3 : Int32) (v4 : Int32) : qm_run pm_m big m_193 (n0 + 1) 36 [(0, .ref 70), (1, .int v0), (2, .int v1), (3, .int (0 : Int32)), (4, .int v2)] [.int v4, .int v3] G U = qm_run pm_m big m_193 n0 38 [(0, .ref 70), (1, .int v0), (2, .int v1), (3, .int (0 : Int32)), (4, .int v2)] [.int (Int8.toInt32 (Int8.ofInt (-4))), .int v4, .int v3] G U := rfl
theorem sg_rs_8 (big : Nat → List Value → qM → qW → qR) (n0 : Nat) (G : qM) (U : qW) (v0 : Int32) (v1 : Int32) (v2 : Int32) (v3 : Int32) : qm_run pm_m big m_193 (n0 + 2) 41 [(0, .ref 70), (1, .int v0), (2, .int v1), (3, .int (0 : Int32)), (4, .int v2)] [.int v3] G U = qm_run pm_m big m_193 n0 46 [(0, .ref 70), (1, .int v0), (2, .int v1), (3, .int (0 : Int32)), (4, .int v2)] [.int (1 : Int32), .int v3] G U := rfl
theorem sg_rs_9 (big : Nat → List Value → qM → qW → qR) (n0 : Nat) (G : qM) (U : qW) (v0 : Int32) (v1 : Int32) (v2 : Int32) (v3 : Int32) : qm_run pm_m big m_193 (n0 + 4) 49 [(0, .ref 70), (1, .int v0), (2, .int v1), (3, .int (0 : Int32)), (4, .int v2)] [.int (1 : Int32), .int v3] G U = qm_run pm_m big m_193 n0 4 [(0, .ref 70), (1, .int v0), (2, .int (v3 + (1 : Int32))), (3, .int (1 : Int32)), (4, .int v2)] [] G U := rfl
theorem sg_rs_10 (big : Nat → List Value → qM → qW → qR) (n0 : Nat) (G : qM) (U : qW) (v0 : Int32) (v1 : Int32) : qm_run pm_m big m_193 (n0 + 7) 4 [(0, .ref 70), (1, .int v0), (2, .int v1), (3, .int (1 : Int32))] [] G U = qm_run pm_m big m_193 n0 15 [(0, .ref 70), (1, .int v0), (2, .int v1), (3, .int (1 : Int32))] [.int v0, .ref 75, .ref 70] G U := rfl
theorem sg_rs_11 (big : Nat → List Value → qM → qW → qR) (n0 : Nat) (G : qM) (U : qW) (v0 : Int32) (v1 : Int32) (v2 : Int32) : qm_run pm_m big m_193 (n0 + 1) 16 [(0, .ref 70), (1, .int v0), (2, .int v1), (3, .int (1 : Int32))] [.int v2, .ref 70] G U = qm_run pm_m big m_193 n0 17 [(0, .ref 70), (1, .int v0), (2, .int v1), (3, .int (1 : Int32))] [.int (1 : Int32), .int v2, .ref 70] G U := rfl
theorem sg_rs_12 (big : Nat → List Value → qM → qW → qR) (n0 : Nat) (G : qM) (U : qW) (v0 : Int32) (v1 : Int32) (v2 : Int32) : qm_run pm_m big m_193 (n0 + 4) 20 [(0, .ref 70), (1, .int v0), (2, .int v1), (3, .int (1 : Int32))] [.int v2] G U = qm_run pm_m big m_193 n0 27 [(0, .ref 70), (1, .int v0), (2, .int v1), (3, .int (1 : Int32)), (4, .int v2)] [.int (Int8.toInt32 (Int8.ofInt (-4))), .int v2, .int v1] G U := rfl
theorem sg_rs_13 (big : Nat → List Value → qM → qW → qR) (n0 : Nat) (G : qM) (U : qW) (v0 : Int32) (v1 : Int32) (v2 : Int32) (v3 : Int32) : qm_run pm_m big m_193 (n0 + 1) 45 [(0, .ref 70), (1, .int v0), (2, .int v1), (3, .int (1 : Int32)), (4, .int v2)] [.int v3] G U = qm_run pm_m big m_193 n0 46 [(0, .ref 70), (1, .int v0), (2, .int v1), (3, .int (1 : Int32)), (4, .int v2)] [.int (0 : Int32), .int v3] G U := rfl
theorem sg_rs_14 (big : Nat → List Value → qM → qW → qR) (n0 : Nat) (G : qM) (U : qW) (v0 : Int32) (v1 : Int32) (v2 : Int32) (v3 : Int32) : qm_run pm_m big m_193 (n0 + 4) 49 [(0, .ref 70), (1, .int v0), (2, .int v1), (3, .int (1 : Int32)), (4, .int v2)] [.int (0 : Int32), .int v3] G U = qm_run pm_m big m_193 n0 4 [(0, .ref 70), (1, .int v0), (2, .int (v3 + (0 : Int32))), (3, .int (2 : Int32)), (4, .int v2)] [] G U := rfl
theorem sg_rs_15 (big : Nat → List Value → qM → qW → qR) (n0 : Nat) (G : qM) (U : qW) (v0 : Int32) (v1 : Int32) (v2 : Int32) (v3 : Int32) : qm_run pm_m big m_193 (n0 + 2) 30 [(0, .ref 70), (1, .int v0), (2, .int v1), (3, .int (1 : Int32)), (4, .int v2)] [.int v3] G U = qm_run pm_m big m_193 n0 33 [(0, .ref 70), (1, .int v0), (2, .int v1), (3, .int (1 : Int32)), (4, .int v2)] [.int v2, .ref 70, .int v3] G U := rfl
theorem sg_rs_16 (big : Nat → List Value → qM → qW → qR) (n0 : Nat) (G : qM) (U : qW) (v0 : Int32) (v1 : Int32) (v2 : Int32) (v3 : Int32) (v4 : Int32) : qm_run pm_m big m_193 (n0 + 1) 36 [(0, .ref 70), (1, .int v0), (2, .int v1), (3, .int (1 : Int32)), (4, .int v2)] [.int v4, .int v3] G U = qm_run pm_m big m_193 n0 38 [(0, .ref 70), (1, .int v0), (2, .int v1), (3, .int (1 : Int32)), (4, .int v2)] [.int (Int8.toInt32 (Int8.ofInt (-4))), .int v4, .int v3] G U := rfl
theorem sg_rs_17 (big : Nat → List Value → qM → qW → qR) (n0 : Nat) (G : qM) (U : qW) (v0 : Int32) (v1 : Int32) (v2 : Int32) (v3 : Int32) : qm_run pm_m big m_193 (n0 + 2) 41 [(0, .ref 70), (1, .int v0), (2, .int v1), (3, .int (1 : Int32)), (4, .int v2)] [.int v3] G U = qm_run pm_m big m_193 n0 46 [(0, .ref 70), (1, .int v0), (2, .int v1), (3, .int (1 : Int32)), (4, .int v2)] [.int (1 : Int32), .int v3] G U := rfl
theorem sg_rs_18 (big : Nat → List Value → qM → qW → qR) (n0 : Nat) (G : qM) (U : qW) (v0 : Int32) (v1 : Int32) (v2 : Int32) (v3 : Int32) : qm_run pm_m big m_193 (n0 + 4) 49 [(0, .ref 70), (1, .int v0), (2, .int v1), (3, .int (1 : Int32)), (4, .int v2)] [.int (1 : Int32), .int v3] G U = qm_run pm_m big m_193 n0 4 [(0, .ref 70), (1, .int v0), (2, .int (v3 + (1 : Int32))), (3, .int (2 : Int32)), (4, .int v2)] [] G U := rfl
theorem sg_rs_19 (big : Nat → List Value → qM → qW → qR) (n0 : Nat) (G : qM) (U : qW) (v0 : Int32) (v1 : Int32) : qm_run pm_m big m_193 (n0 + 7) 4 [(0, .ref 70), (1, .int v0), (2, .int v1), (3, .int (2 : Int32))] [] G U = qm_run pm_m big m_193 n0 15 [(0, .ref 70), (1, .int v0), (2, .int v1), (3, .int (2 : Int32))] [.int v0, .ref 75, .ref 70] G U := rfl
theorem sg_rs_20 (big : Nat → List Value → qM → qW → qR) (n0 : Nat) (G : qM) (U : qW) (v0 : Int32) (v1 : Int32) (v2 : Int32) : qm_run pm_m big m_193 (n0 + 1) 16 [(0, .ref 70), (1, .int v0), (2, .int v1), (3, .int (2 : Int32))] [.int v2, .ref 70] G U = qm_run pm_m big m_193 n0 17 [(0, .ref 70), (1, .int v0), (2, .int v1), (3, .int (2 : Int32))] [.int (2 : Int32), .int v2, .ref 70] G U := rfl
theorem sg_rs_21 (big : Nat → List Value → qM → qW → qR) (n0 : Nat) (G : qM) (U : qW) (v0 : Int32) (v1 : Int32) (v2 : Int32) : qm_run pm_m big m_193 (n0 + 4) 20 [(0, .ref 70), (1, .int v0), (2, .int v1), (3, .int (2 : Int32))] [.int v2] G U = qm_run pm_m big m_193 n0 27 [(0, .ref 70), (1, .int v0), (2, .int v1), (3, .int (2 : Int32)), (4, .int v2)] [.int (Int8.toInt32 (Int8.ofInt (-4))), .int v2, .int v1] G U := rfl
theorem sg_rs_22 (big : Nat → List Value → qM → qW → qR) (n0 : Nat) (G : qM) (U : qW) (v0 : Int32) (v1 : Int32) (v2 : Int32) (v3 : Int32) : qm_run pm_m big m_193 (n0 + 1) 45 [(0, .ref 70), (1, .int v0), (2, .int v1), (3, .int (2 : Int32)), (4, .int v2)] [.int v3] G U = qm_run pm_m big m_193 n0 46 [(0, .ref 70), (1, .int v0), (2, .int v1), (3, .int (2 : Int32)), (4, .int v2)] [.int (0 : Int32), .int v3] G U := rfl
theorem sg_rs_23 (big : Nat → List Value → qM → qW → qR) (n0 : Nat) (G : qM) (U : qW) (v0 : Int32) (v1 : Int32) (v2 : Int32) (v3 : Int32) : qm_run pm_m big m_193 (n0 + 4) 49 [(0, .ref 70), (1, .int v0), (2, .int v1), (3, .int (2 : Int32)), (4, .int v2)] [.int (0 : Int32), .int v3] G U = qm_run pm_m big m_193 n0 4 [(0, .ref 70), (1, .int v0), (2, .int (v3 + (0 : Int32))), (3, .int (3 : Int32)), (4, .int v2)] [] G U := rfl
theorem sg_rs_24 (big : Nat → List Value → qM → qW → qR) (n0 : Nat) (G : qM) (U : qW) (v0 : Int32) (v1 : Int32) (v2 : Int32) (v3 : Int32) : qm_run pm_m big m_193 (n0 + 2) 30 [(0, .ref 70), (1, .int v0), (2, .int v1), (3, .int (2 : Int32)), (4, .int v2)] [.int v3] G U = qm_run pm_m big m_193 n0 33 [(0, .ref 70), (1, .int v0), (2, .int v1), (3, .int (2 : Int32)), (4, .int v2)] [.int v2, .ref 70, .int v3] G U := rfl
theorem sg_rs_25 (big : Nat → List Value → qM → qW → qR) (n0 : Nat) (G : qM) (U : qW) (v0 : Int32) (v1 : Int32) (v2 : Int32) (v3 : Int32) (v4 : Int32) : qm_run pm_m big m_193 (n0 + 1) 36 [(0, .ref 70), (1, .int v0), (2, .int v1), (3, .int (2 : Int32)), (4, .int v2)] [.int v4, .int v3] G U = qm_run pm_m big m_193 n0 38 [(0, .ref 70), (1, .int v0), (2, .int v1), (3, .int (2 : Int32)), (4, .int v2)] [.int (Int8.toInt32 (Int8.ofInt (-4))), .int v4, .int v3] G U := rfl
theorem sg_rs_26 (big : Nat → List Value → qM → qW → qR) (n0 : Nat) (G : qM) (U : qW) (v0 : Int32) (v1 : Int32) (v2 : Int32) (v3 : Int32) : qm_run pm_m big m_193 (n0 + 2) 41 [(0, .ref 70), (1, .int v0), (2, .int v1), (3, .int (2 : Int32)), (4, .int v2)] [.int v3] G U = qm_run pm_m big m_193 n0 46 [(0, .ref 70), (1, .int v0), (2, .int v1), (3, .int (2 : Int32)), (4, .int v2)] [.int (1 : Int32), .int v3] G U := rfl
theorem sg_rs_27 (big : Nat → List Value → qM → qW → qR) (n0 : Nat) (G : qM) (U : qW) (v0 : Int32) (v1 : Int32) (v2 : Int32) (v3 : Int32) : qm_run pm_m big m_193 (n0 + 4) 49 [(0, .ref 70), (1, .int v0), (2, .int v1), (3, .int (2 : Int32)), (4, .int v2)] [.int (1 : Int32), .int v3] G U = qm_run pm_m big m_193 n0 4 [(0, .ref 70), (1, .int v0), (2, .int (v3 + (1 : Int32))), (3, .int (3 : Int32)), (4, .int v2)] [] G U := rfl
theorem sg_rs_28 (big : Nat → List Value → qM → qW → qR) (n0 : Nat) (G : qM) (U : qW) (v0 : Int32) (v1 : Int32) : qm_run pm_m big m_193 (n0 + 7) 4 [(0, .ref 70), (1, .int v0), (2, .int v1), (3, .int (3 : Int32))] [] G U = qm_run pm_m big m_193 n0 15 [(0, .ref 70), (1, .int v0), (2, .int v1), (3, .int (3 : Int32))] [.int v0, .ref 75, .ref 70] G U := rfl
theorem sg_rs_29 (big : Nat → List Value → qM → qW → qR) (n0 : Nat) (G : qM) (U : qW) (v0 : Int32) (v1 : Int32) (v2 : Int32) : qm_run pm_m big m_193 (n0 + 1) 16 [(0, .ref 70), (1, .int v0), (2, .int v1), (3, .int (3 : Int32))] [.int v2, .ref 70] G U = qm_run pm_m big m_193 n0 17 [(0, .ref 70), (1, .int v0), (2, .int v1), (3, .int (3 : Int32))] [.int (3 : Int32), .int v2, .ref 70] G U := rfl
theorem sg_rs_30 (big : Nat → List Value → qM → qW → qR) (n0 : Nat) (G : qM) (U : qW) (v0 : Int32) (v1 : Int32) (v2 : Int32) : qm_run pm_m big m_193 (n0 + 4) 20 [(0, .ref 70), (1, .int v0), (2, .int v1), (3, .int (3 : Int32))] [.int v2] G U = qm_run pm_m big m_193 n0 27 [(0, .ref 70), (1, .int v0), (2, .int v1), (3, .int (3 : Int32)), (4, .int v2)] [.int (Int8.toInt32 (Int8.ofInt (-4))), .int v2, .int v1] G U := rfl
theorem sg_rs_31 (big : Nat → List Value → qM → qW → qR) (n0 : Nat) (G : qM) (U : qW) (v0 : Int32) (v1 : Int32) (v2 : Int32) (v3 : Int32) : qm_run pm_m big m_193 (n0 + 1) 45 [(0, .ref 70), (1, .int v0), (2, .int v1), (3, .int (3 : Int32)), (4, .int v2)] [.int v3] G U = qm_run pm_m big m_193 n0 46 [(0, .ref 70), (1, .int v0), (2, .int v1), (3, .int (3 : Int32)), (4, .int v2)] [.int (0 : Int32), .int v3] G U := rfl
theorem sg_rs_32 (big : Nat → List Value → qM → qW → qR) (n0 : Nat) (G : qM) (U : qW) (v0 : Int32) (v1 : Int32) (v2 : Int32) (v3 : Int32) : qm_run pm_m big m_193 (n0 + 4) 49 [(0, .ref 70), (1, .int v0), (2, .int v1), (3, .int (3 : Int32)), (4, .int v2)] [.int (0 : Int32), .int v3] G U = qm_run pm_m big m_193 n0 4 [(0, .ref 70), (1, .int v0), (2, .int (v3 + (0 : Int32))), (3, .int (4 : Int32)), (4, .int v2)] [] G U := rfl
theorem sg_rs_33 (big : Nat → List Value → qM → qW → qR) (n0 : Nat) (G : qM) (U : qW) (v0 : Int32) (v1 : Int32) (v2 : Int32) (v3 : Int32) : qm_run pm_m big m_193 (n0 + 2) 30 [(0, .ref 70), (1, .int v0), (2, .int v1), (3, .int (3 : Int32)), (4, .int v2)] [.int v3] G U = qm_run pm_m big m_193 n0 33 [(0, .ref 70), (1, .int v0), (2, .int v1), (3, .int (3 : Int32)), (4, .int v2)] [.int v2, .ref 70, .int v3] G U := rfl
theorem sg_rs_34 (big : Nat → List Value → qM → qW → qR) (n0 : Nat) (G : qM) (U : qW) (v0 : Int32) (v1 : Int32) (v2 : Int32) (v3 : Int32) (v4 : Int32) : qm_run pm_m big m_193 (n0 + 1) 36 [(0, .ref 70), (1, .int v0), (2, .int v1), (3, .int (3 : Int32)), (4, .int v2)] [.int v4, .int v3] G U = qm_run pm_m big m_193 n0 38 [(0, .ref 70), (1, .int v0), (2, .int v1), (3, .int (3 : Int32)), (4, .int v2)] [.int (Int8.toInt32 (Int8.ofInt (-4))), .int v4, .int v3] G U := rfl
theorem sg_rs_35 (big : Nat → List Value → qM → qW → qR) (n0 : Nat) (G : qM) (U : qW) (v0 : Int32) (v1 : Int32) (v2 : Int32) (v3 : Int32) : qm_run pm_m big m_193 (n0 + 2) 41 [(0, .ref 70), (1, .int v0), (2, .int v1), (3, .int (3 : Int32)), (4, .int v2)] [.int v3] G U = qm_run pm_m big m_193 n0 46 [(0, .ref 70), (1, .int v0), (2, .int v1), (3, .int (3 : Int32)), (4, .int v2)] [.int (1 : Int32), .int v3] G U := rfl
theorem sg_rs_36 (big : Nat → List Value → qM → qW → qR) (n0 : Nat) (G : qM) (U : qW) (v0 : Int32) (v1 : Int32) (v2 : Int32) (v3 : Int32) : qm_run pm_m big m_193 (n0 + 4) 49 [(0, .ref 70), (1, .int v0), (2, .int v1), (3, .int (3 : Int32)), (4, .int v2)] [.int (1 : Int32), .int v3] G U = qm_run pm_m big m_193 n0 4 [(0, .ref 70), (1, .int v0), (2, .int (v3 + (1 : Int32))), (3, .int (4 : Int32)), (4, .int v2)] [] G U := rfl
theorem sg_rs_37 (big : Nat → List Value → qM → qW → qR) (n0 : Nat) (G : qM) (U : qW) (v0 : Int32) (v1 : Int32) : qm_run pm_m big m_193 (n0 + 6) 4 [(0, .ref 70), (1, .int v0), (2, .int v1), (3, .int (4 : Int32))] [] G U = qm_run pm_m big m_193 n0 62 [(0, .ref 70), (1, .int v0), (2, .int v1), (3, .int (4 : Int32))] [.int v0, .ref 76] G U := rfl
theorem sg_rs_38 (big : Nat → List Value → qM → qW → qR) (n0 : Nat) (G : qM) (U : qW) (v0 : Int32) (v1 : Int32) : qm_run pm_m big m_193 (n0 + 4) 66 [(0, .ref 70), (1, .int v0), (2, .int v1), (3, .int (4 : Int32))] [] G U = qm_run pm_m big m_193 n0 73 [(0, .ref 70), (1, .int v0), (2, .int v1), (3, .int (4 : Int32))] [.int (G 71 25)] G U := rfl
theorem sg_rs_39 (big : Nat → List Value → qM → qW → qR) (n0 : Nat) (G : qM) (U : qW) (v0 : Int32) (v1 : Int32) : qm_run pm_m big m_193 (n0 + 5) 76 [(0, .ref 70), (1, .int v0), (2, .int v1), (3, .int (4 : Int32))] [] G U = qm_run pm_m big m_193 n0 84 [(0, .ref 70), (1, .int v0), (2, .int v1), (3, .int (4 : Int32))] [.int (G 71 25), .int v1] G U := rfl
theorem sg_rs_40 (big : Nat → List Value → qM → qW → qR) (n0 : Nat) (G : qM) (U : qW) (v0 : Int32) : qm_run pm_m big m_193 (n0 + 4) 0 [(0, .ref 70), (1, .int v0)] [] G U = qm_run pm_m big m_193 n0 4 [(0, .ref 70), (1, .int v0), (2, .int (0 : Int32)), (3, .int (0 : Int32))] [] G U := rfl
theorem sg_rs_41 (big : Nat → List Value → qM → qW → qR) (n0 : Nat) (G : qM) (U : qW) (v0 : Int32) : qm_run pm_m big m_191 (n0 + 3) 4 [(0, .ref 70), (1, .int (0 : Int32)), (2, .int v0)] [] G U = qm_run pm_m big m_191 n0 9 [(0, .ref 70), (1, .int (0 : Int32)), (2, .int v0)] [.int (G 70 27), .int v0] G U := rfl
theorem sg_rs_42 (big : Nat → List Value → qM → qW → qR) (n0 : Nat) (G : qM) (U : qW) (v0 : Int32) : qm_run pm_m big m_191 (n0 + 2) 29 [(0, .ref 70), (1, .int (0 : Int32)), (2, .int v0)] [] G U = qm_run pm_m big m_191 n0 31 [(0, .ref 70), (1, .int (0 : Int32)), (2, .int (0 : Int32))] [] G U := rfl
theorem sg_rs_43 (big : Nat → List Value → qM → qW → qR) (n0 : Nat) (G : qM) (U : qW) (v0 : Int32) : qm_run pm_m big m_191 (n0 + 5) 12 [(0, .ref 70), (1, .int (0 : Int32)), (2, .int v0)] [] G U = qm_run pm_m big m_191 n0 19 [(0, .ref 70), (1, .int (0 : Int32)), (2, .int v0)] [.int v0, .ref 70, .int v0, .ref 79] G U := rfl
theorem sg_rs_44 (big : Nat → List Value → qM → qW → qR) (n0 : Nat) (G : qM) (U : qW) (v0 : Int32) : qm_run pm_m big m_191 (n0 + 2) 23 [(0, .ref 70), (1, .int (0 : Int32)), (2, .int v0)] [] G U = qm_run pm_m big m_191 n0 4 [(0, .ref 70), (1, .int (0 : Int32)), (2, .int (v0 + (1 : Int32)))] [] G U := rfl
theorem sg_rs_45 (big : Nat → List Value → qM → qW → qR) (n0 : Nat) (G : qM) (U : qW) (v0 : Int32) (v1 : Int32) : qm_run pm_m big m_191 (n0 + 3) 31 [(0, .ref 70), (1, .int v0), (2, .int v1)] [] G U = qm_run pm_m big m_191 n0 36 [(0, .ref 70), (1, .int v0), (2, .int v1)] [.int (G 70 27), .int v1] G U := rfl
theorem sg_rs_46 (big : Nat → List Value → qM → qW → qR) (n0 : Nat) (G : qM) (U : qW) (v0 : Int32) (v1 : Int32) : qm_run pm_m big m_191 (n0 + 2) 144 [(0, .ref 70), (1, .int v0), (2, .int v1)] [] G U = qm_run pm_m big m_191 n0 146 [(0, .ref 70), (1, .int v0), (2, .int (0 : Int32))] [] G U := rfl
theorem sg_rs_47 (big : Nat → List Value → qM → qW → qR) (n0 : Nat) (G : qM) (U : qW) (v0 : Int32) (v1 : Int32) : qm_run pm_m big m_191 (n0 + 4) 39 [(0, .ref 70), (1, .int v0), (2, .int v1)] [] G U = qm_run pm_m big m_191 n0 45 [(0, .ref 70), (1, .int v0), (2, .int v1)] [.int v1, .ref 75, .ref 70] G U := rfl
theorem sg_rs_48 (big : Nat → List Value → qM → qW → qR) (n0 : Nat) (G : qM) (U : qW) (v0 : Int32) (v1 : Int32) (v2 : Int32) : qm_run pm_m big m_191 (n0 + 3) 46 [(0, .ref 70), (1, .int v0), (2, .int v1)] [.int v2, .ref 70] G U = qm_run pm_m big m_191 n0 51 [(0, .ref 70), (1, .int v0), (2, .int v1)] [.int v1, .ref 79, .int v2, .ref 70] G U := rfl
theorem sg_rs_49 (big : Nat → List Value → qM → qW → qR) (n0 : Nat) (G : qM) (U : qW) (v0 : Int32) (v1 : Int32) (v2 : Int32) : qm_run pm_m big m_191 (n0 + 3) 55 [(0, .ref 70), (1, .int v0), (2, .int v1)] [.int v2] G U = qm_run pm_m big m_191 n0 58 [(0, .ref 70), (1, .int v0), (2, .int v1), (3, .int v2)] [.int v2, .ref 70] G U := rfl
theorem sg_rs_50 (big : Nat → List Value → qM → qW → qR) (n0 : Nat) (G : qM) (U : qW) (v0 : Int32) (v1 : Int32) (v2 : Int32) : qm_run pm_m big m_191 (n0 + 10) 78 [(0, .ref 70), (1, .int v0), (2, .int v1), (3, .int v2)] [] G U = qm_run pm_m big m_191 n0 100 [(0, .ref 70), (1, .int v0), (2, .int v1), (3, .int v2), (4, .int (0 : Int32))] [.int v1, .ref 75, .int v1, .ref 75] G U := rfl
theorem sg_rs_51 (big : Nat → List Value → qM → qW → qR) (n0 : Nat) (G : qM) (U : qW) (v0 : Int32) (v1 : Int32) (v2 : Int32) : qm_run pm_m big m_191 (n0 + 6) 102 [(0, .ref 70), (1, .int v0), (2, .int v1), (3, .int v2), (4, .int (0 : Int32))] [] G U = qm_run pm_m big m_191 n0 122 [(0, .ref 70), (1, .int v0), (2, .int v1), (3, .int v2), (4, .int (0 : Int32))] [.int (4 : Int32), .int v1, .ref 80] G U := rfl
theorem sg_rs_52 (big : Nat → List Value → qM → qW → qR) (n0 : Nat) (G : qM) (U : qW) (v0 : Int32) (v1 : Int32) (v2 : Int32) : qm_run pm_m big m_191 (n0 + 1) 123 [(0, .ref 70), (1, .int v0), (2, .int v1), (3, .int v2), (4, .int (0 : Int32))] [] G U = qm_run pm_m big m_191 n0 124 [(0, .ref 70), (1, .int v0), (2, .int v1), (3, .int v2), (4, .int (0 : Int32))] [.int v0] G U := rfl
theorem sg_rs_53 (big : Nat → List Value → qM → qW → qR) (n0 : Nat) (G : qM) (U : qW) (v0 : Int32) (v1 : Int32) (v2 : Int32) : qm_run pm_m big m_191 (n0 + 6) 127 [(0, .ref 70), (1, .int v0), (2, .int v1), (3, .int v2), (4, .int (0 : Int32))] [] G U = qm_run pm_m big m_191 n0 31 [(0, .ref 70), (1, .int (0 : Int32)), (2, .int (v1 + (1 : Int32))), (3, .int v2), (4, .int (0 : Int32))] [] G U := rfl
theorem sg_rs_54 (big : Nat → List Value → qM → qW → qR) (n0 : Nat) (G : qM) (U : qW) (v0 : Int32) (v1 : Int32) (v2 : Int32) : qm_run pm_m big m_191 (n0 + 5) 132 [(0, .ref 70), (1, .int v0), (2, .int v1), (3, .int v2), (4, .int (0 : Int32))] [] G U = qm_run pm_m big m_191 n0 31 [(0, .ref 70), (1, .int (1 : Int32)), (2, .int (v1 + (1 : Int32))), (3, .int v2), (4, .int (0 : Int32))] [] G U := rfl
theorem sg_rs_55 (big : Nat → List Value → qM → qW → qR) (n0 : Nat) (G : qM) (U : qW) (v0 : Int32) (v1 : Int32) (v2 : Int32) : qm_run pm_m big m_191 (n0 + 2) 64 [(0, .ref 70), (1, .int v0), (2, .int v1), (3, .int v2)] [] G U = qm_run pm_m big m_191 n0 66 [(0, .ref 70), (1, .int v0), (2, .int v1), (3, .int v2)] [.int v2, .ref 70] G U := rfl
theorem sg_rs_56 (big : Nat → List Value → qM → qW → qR) (n0 : Nat) (G : qM) (U : qW) (v0 : Int32) (v1 : Int32) (v2 : Int32) (v3 : Int32) : qm_run pm_m big m_191 (n0 + 1) 69 [(0, .ref 70), (1, .int v0), (2, .int v1), (3, .int v2)] [.int v3] G U = qm_run pm_m big m_191 n0 71 [(0, .ref 70), (1, .int v0), (2, .int v1), (3, .int v2)] [.int (Int8.toInt32 (Int8.ofInt (-4))), .int v3] G U := rfl
theorem sg_rs_57 (big : Nat → List Value → qM → qW → qR) (n0 : Nat) (G : qM) (U : qW) (v0 : Int32) (v1 : Int32) (v2 : Int32) : qm_run pm_m big m_191 (n0 + 10) 74 [(0, .ref 70), (1, .int v0), (2, .int v1), (3, .int v2)] [] G U = qm_run pm_m big m_191 n0 101 [(0, .ref 70), (1, .int v0), (2, .int v1), (3, .int v2), (4, .int (1 : Int32))] [.int v2, .int v1, .ref 75] G U := rfl
theorem sg_rs_58 (big : Nat → List Value → qM → qW → qR) (n0 : Nat) (G : qM) (U : qW) (v0 : Int32) (v1 : Int32) (v2 : Int32) : qm_run pm_m big m_191 (n0 + 8) 102 [(0, .ref 70), (1, .int v0), (2, .int v1), (3, .int v2), (4, .int (1 : Int32))] [] G U = qm_run pm_m big m_191 n0 117 [(0, .ref 70), (1, .int v0), (2, .int v1), (3, .int v2), (4, .int (1 : Int32))] [.int v1, .ref 79, .int v1, .ref 80] G U := rfl
theorem sg_rs_59 (big : Nat → List Value → qM → qW → qR) (n0 : Nat) (G : qM) (U : qW) (v0 : Int32) (v1 : Int32) (v2 : Int32) (v3 : Int32) (v4 : Int32) : qm_run pm_m big m_191 (n0 + 1) 118 [(0, .ref 70), (1, .int v0), (2, .int v1), (3, .int v2), (4, .int (1 : Int32))] [.int v4, .int v3, .ref 80] G U = qm_run pm_m big m_191 n0 122 [(0, .ref 70), (1, .int v0), (2, .int v1), (3, .int v2), (4, .int (1 : Int32))] [.int v4, .int v3, .ref 80] G U := rfl
theorem sg_rs_60 (big : Nat → List Value → qM → qW → qR) (n0 : Nat) (G : qM) (U : qW) (v0 : Int32) (v1 : Int32) (v2 : Int32) : qm_run pm_m big m_191 (n0 + 1) 123 [(0, .ref 70), (1, .int v0), (2, .int v1), (3, .int v2), (4, .int (1 : Int32))] [] G U = qm_run pm_m big m_191 n0 124 [(0, .ref 70), (1, .int v0), (2, .int v1), (3, .int v2), (4, .int (1 : Int32))] [.int v0] G U := rfl
theorem sg_rs_61 (big : Nat → List Value → qM → qW → qR) (n0 : Nat) (G : qM) (U : qW) (v0 : Int32) (v1 : Int32) (v2 : Int32) : qm_run pm_m big m_191 (n0 + 7) 127 [(0, .ref 70), (1, .int v0), (2, .int v1), (3, .int v2), (4, .int (1 : Int32))] [] G U = qm_run pm_m big m_191 n0 31 [(0, .ref 70), (1, .int (1 : Int32)), (2, .int (v1 + (1 : Int32))), (3, .int v2), (4, .int (1 : Int32))] [] G U := rfl
theorem sg_rs_62 (big : Nat → List Value → qM → qW → qR) (n0 : Nat) (G : qM) (U : qW) (v0 : Int32) (v1 : Int32) (v2 : Int32) : qm_run pm_m big m_191 (n0 + 5) 132 [(0, .ref 70), (1, .int v0), (2, .int v1), (3, .int v2), (4, .int (1 : Int32))] [] G U = qm_run pm_m big m_191 n0 31 [(0, .ref 70), (1, .int (1 : Int32)), (2, .int (v1 + (1 : Int32))), (3, .int v2), (4, .int (1 : Int32))] [] G U := rfl
theorem sg_rs_63 (big : Nat → List Value → qM → qW → qR) (n0 : Nat) (G : qM) (U : qW) (v0 : Int32) (v1 : Int32) : qm_run pm_m big m_191 (n0 + 3) 146 [(0, .ref 70), (1, .int v0), (2, .int v1)] [] G U = qm_run pm_m big m_191 n0 151 [(0, .ref 70), (1, .int v0), (2, .int v1)] [.int (G 70 27), .int v1] G U := rfl
theorem sg_rs_64 (big : Nat → List Value → qM → qW → qR) (n0 : Nat) (G : qM) (U : qW) (v0 : Int32) (v1 : Int32) : qm_run pm_m big m_191 (n0 + 2) 174 [(0, .ref 70), (1, .int v0), (2, .int v1)] [] G U = qm_run pm_m big m_191 n0 176 [(0, .ref 70), (1, .int v0), (2, .int (0 : Int32))] [] G U := rfl
theorem sg_rs_65 (big : Nat → List Value → qM → qW → qR) (n0 : Nat) (G : qM) (U : qW) (v0 : Int32) (v1 : Int32) : qm_run pm_m big m_191 (n0 + 5) 154 [(0, .ref 70), (1, .int v0), (2, .int v1)] [] G U = qm_run pm_m big m_191 n0 161 [(0, .ref 70), (1, .int v0), (2, .int v1)] [.int v1, .ref 70, .int v1, .ref 81] G U := rfl
theorem sg_rs_66 (big : Nat → List Value → qM → qW → qR) (n0 : Nat) (G : qM) (U : qW) (v0 : Int32) (v1 : Int32) : qm_run pm_m big m_191 (n0 + 2) 168 [(0, .ref 70), (1, .int v0), (2, .int v1)] [] G U = qm_run pm_m big m_191 n0 146 [(0, .ref 70), (1, .int v0), (2, .int (v1 + (1 : Int32)))] [] G U := rfl
theorem sg_rs_67 (big : Nat → List Value → qM → qW → qR) (n0 : Nat) (G : qM) (U : qW) (v0 : Int32) (v1 : Int32) : qm_run pm_m big m_191 (n0 + 3) 176 [(0, .ref 70), (1, .int v0), (2, .int v1)] [] G U = qm_run pm_m big m_191 n0 181 [(0, .ref 70), (1, .int v0), (2, .int v1)] [.int (G 70 27), .int v1] G U := rfl
theorem sg_rs_68 (big : Nat → List Value → qM → qW → qR) (n0 : Nat) (G : qM) (U : qW) (v0 : Int32) (v1 : Int32) : qm_run pm_m big m_191 (n0 + 1) 184 [(0, .ref 70), (1, .int v0), (2, .int v1)] [] G U = qm_run pm_m big m_191 n0 185 [(0, .ref 70), (1, .int v0), (2, .int v1)] [.int v0] G U := rfl
theorem sg_rs_69 (big : Nat → List Value → qM → qW → qR) (n0 : Nat) (G : qM) (U : qW) (v0 : Int32) (v1 : Int32) : qm_run pm_m big m_191 (n0 + 3) 188 [(0, .ref 70), (1, .int v0), (2, .int v1)] [] G U = qm_run pm_m big m_191 n0 193 [(0, .ref 70), (1, .int v0), (2, .int v1)] [.int v1, .ref 81] G U := rfl
theorem sg_rs_70 (big : Nat → List Value → qM → qW → qR) (n0 : Nat) (G : qM) (U : qW) (v0 : Int32) (v1 : Int32) (v2 : Int32) : qm_run pm_m big m_191 (n0 + 1) 194 [(0, .ref 70), (1, .int v0), (2, .int v1)] [.int v2] G U = qm_run pm_m big m_191 n0 195 [(0, .ref 70), (1, .int v0), (2, .int v1)] [.int (1 : Int32), .int v2] G U := rfl
theorem sg_rs_71 (big : Nat → List Value → qM → qW → qR) (n0 : Nat) (G : qM) (U : qW) (v0 : Int32) (v1 : Int32) : qm_run pm_m big m_191 (n0 + 9) 198 [(0, .ref 70), (1, .int v0), (2, .int v1)] [] G U = qm_run pm_m big m_191 n0 214 [(0, .ref 70), (1, .int (1 : Int32)), (2, .int v1)] [.int v1, .ref 81, .int v1, .ref 76] G U := rfl
theorem sg_rs_72 (big : Nat → List Value → qM → qW → qR) (n0 : Nat) (G : qM) (U : qW) (v0 : Int32) (v1 : Int32) (v2 : Int32) : qm_run pm_m big m_191 (n0 + 1) 215 [(0, .ref 70), (1, .int (1 : Int32)), (2, .int v0)] [.int v2, .int v1, .ref 76] G U = qm_run pm_m big m_191 n0 216 [(0, .ref 70), (1, .int (1 : Int32)), (2, .int v0)] [.int (1 : Int32), .int v2, .int v1, .ref 76] G U := rfl
theorem sg_rs_73 (big : Nat → List Value → qM → qW → qR) (n0 : Nat) (G : qM) (U : qW) (v0 : Int32) (v1 : Int32) : qm_run pm_m big m_191 (n0 + 3) 219 [(0, .ref 70), (1, .int (1 : Int32)), (2, .int v0)] [.int v1, .ref 76] G U = qm_run pm_m big m_191 n0 224 [(0, .ref 70), (1, .int (1 : Int32)), (2, .int v0)] [.int v0, .ref 76, .int v1, .ref 76] G U := rfl
theorem sg_rs_74 (big : Nat → List Value → qM → qW → qR) (n0 : Nat) (G : qM) (U : qW) (v0 : Int32) (v1 : Int32) (v2 : Int32) : qm_run pm_m big m_191 (n0 + 1) 228 [(0, .ref 70), (1, .int (1 : Int32)), (2, .int v0)] [.int v2, .int v1, .ref 76] G U = qm_run pm_m big m_191 n0 237 [(0, .ref 70), (1, .int (1 : Int32)), (2, .int v0)] [.int v2, .int v1, .ref 76] G U := rfl
theorem sg_rs_75 (big : Nat → List Value → qM → qW → qR) (n0 : Nat) (G : qM) (U : qW) (v0 : Int32) : qm_run pm_m big m_191 (n0 + 2) 238 [(0, .ref 70), (1, .int (1 : Int32)), (2, .int v0)] [] G U = qm_run pm_m big m_191 n0 176 [(0, .ref 70), (1, .int (1 : Int32)), (2, .int (v0 + (1 : Int32)))] [] G U := rfl
theorem sg_rs_76 (big : Nat → List Value → qM → qW → qR) (n0 : Nat) (G : qM) (U : qW) (v0 : Int32) (v1 : Int32) : qm_run pm_m big m_191 (n0 + 8) 202 [(0, .ref 70), (1, .int v0), (2, .int v1)] [] G U = qm_run pm_m big m_191 n0 214 [(0, .ref 70), (1, .int (0 : Int32)), (2, .int v1)] [.int v1, .ref 81, .int v1, .ref 76] G U := rfl
theorem sg_rs_77 (big : Nat → List Value → qM → qW → qR) (n0 : Nat) (G : qM) (U : qW) (v0 : Int32) (v1 : Int32) (v2 : Int32) : qm_run pm_m big m_191 (n0 + 1) 215 [(0, .ref 70), (1, .int (0 : Int32)), (2, .int v0)] [.int v2, .int v1, .ref 76] G U = qm_run pm_m big m_191 n0 216 [(0, .ref 70), (1, .int (0 : Int32)), (2, .int v0)] [.int (1 : Int32), .int v2, .int v1, .ref 76] G U := rfl
theorem sg_rs_78 (big : Nat → List Value → qM → qW → qR) (n0 : Nat) (G : qM) (U : qW) (v0 : Int32) (v1 : Int32) : qm_run pm_m big m_191 (n0 + 3) 231 [(0, .ref 70), (1, .int (0 : Int32)), (2, .int v0)] [.int v1, .ref 76] G U = qm_run pm_m big m_191 n0 236 [(0, .ref 70), (1, .int (0 : Int32)), (2, .int v0)] [.int v0, .ref 76, .int v1, .ref 76] G U := rfl
theorem sg_rs_79 (big : Nat → List Value → qM → qW → qR) (n0 : Nat) (G : qM) (U : qW) (v0 : Int32) : qm_run pm_m big m_191 (n0 + 2) 238 [(0, .ref 70), (1, .int (0 : Int32)), (2, .int v0)] [] G U = qm_run pm_m big m_191 n0 176 [(0, .ref 70), (1, .int (0 : Int32)), (2, .int (v0 + (1 : Int32)))] [] G U := rfl
theorem sg_rs_80 (big : Nat → List Value → qM → qW → qR) (n0 : Nat) (G : qM) (U : qW) (v0 : Int32) (v1 : Int32) : qm_run pm_m big m_191 (n0 + 3) 231 [(0, .ref 70), (1, .int (1 : Int32)), (2, .int v0)] [.int v1, .ref 76] G U = qm_run pm_m big m_191 n0 236 [(0, .ref 70), (1, .int (1 : Int32)), (2, .int v0)] [.int v0, .ref 76, .int v1, .ref 76] G U := rfl
theorem ip_0 (g : qM) (u : qW) {Q : Option Value × qM × qW → Prop} {n p : Nat} (hn : g 70 27 = Int32.ofNat n) (h6 : n ≤ 6) (hp : p < n) (hw : g 70 2 ≠ 0) {a : Int32} (hE : q_EV m_193 4 [(0, .ref 70), (1, .int (Int32.ofNat p)), (2, .int (a + s_oc (g 75) n (s_to (g 70 2) (g 70 3) (g 75 p) (0 : Int32)))), (3, .int (1 : Int32))] [] g u Q) : q_EV m_193 4 [(0, .ref 70), (1, .int (Int32.ofNat p)), (2, .int a), (3, .int (0 : Int32))] [] g u Q := by
  refine q_step 7 15 [(0, .ref 70), (1, .int (Int32.ofNat p)), (2, .int a), (3, .int (0 : Int32))] [.int (Int32.ofNat p), .ref 75, .ref 70] g u (fun big n0 => sg_rs_1 big n0 g u (Int32.ofNat p) a) ?_
  refine q_iald (j := p) (q_ixn (by omega) (by omega)) rfl rfl ?_
  refine q_step 1 17 [(0, .ref 70), (1, .int (Int32.ofNat p)), (2, .int a), (3, .int (0 : Int32))] [.int (0 : Int32), .int (g 75 p), .ref 70] g u (fun big n0 => sg_rs_2 big n0 g u (Int32.ofNat p) a (g 75 p)) ?_
  refine q_call (M2 := 192) (rest := []) (b_bes g u _ _ hw (by decide)) (fun _ _ => rfl) ?_
  refine q_step 4 27 [(0, .ref 70), (1, .int (Int32.ofNat p)), (2, .int a), (3, .int (0 : Int32)), (4, .int (s_to (g 70 2) (g 70 3) (g 75 p) (0 : Int32)))] [.int (Int8.toInt32 (Int8.ofInt (-4))), .int (s_to (g 70 2) (g 70 3) (g 75 p) (0 : Int32)), .int a] g u (fun big n0 => sg_rs_3 big n0 g u (Int32.ofNat p) a (s_to (g 70 2) (g 70 3) (g 75 p) (0 : Int32))) ?_
  refine q_ic_eq rfl (fun (hc0 : (s_to (g 70 2) (g 70 3) (g 75 p) (0 : Int32)) = (Int8.toInt32 (Int8.ofInt (-4)))) => ?_) (fun (hc0 : ¬ ((s_to (g 70 2) (g 70 3) (g 75 p) (0 : Int32)) = (Int8.toInt32 (Int8.ofInt (-4))))) => ?_)
  · refine q_step 1 46 [(0, .ref 70), (1, .int (Int32.ofNat p)), (2, .int a), (3, .int (0 : Int32)), (4, .int (s_to (g 70 2) (g 70 3) (g 75 p) (0 : Int32)))] [.int (0 : Int32), .int a] g u (fun big n0 => sg_rs_4 big n0 g u (Int32.ofNat p) a (s_to (g 70 2) (g 70 3) (g 75 p) (0 : Int32)) a) ?_
    refine q_call (M2 := 164) (rest := [.int a]) (b_flag0 _ _) (fun _ _ => rfl) ?_
    refine q_step 4 4 [(0, .ref 70), (1, .int (Int32.ofNat p)), (2, .int (a + (0 : Int32))), (3, .int (1 : Int32)), (4, .int (s_to (g 70 2) (g 70 3) (g 75 p) (0 : Int32)))] [] g u (fun big n0 => sg_rs_5 big n0 g u (Int32.ofNat p) a (s_to (g 70 2) (g 70 3) (g 75 p) (0 : Int32)) a) ?_
    refine q_weak [(0, .ref 70), (1, .int (Int32.ofNat p)), (2, .int (a + (0 : Int32))), (3, .int (1 : Int32))] (q_sub.cons rfl (q_sub.cons rfl (q_sub.cons rfl (q_sub.cons rfl q_sub.nil)))) ?_
    unfold s_oc at hE
    rw [if_pos hc0] at hE
    exact hE
  · refine q_step 2 33 [(0, .ref 70), (1, .int (Int32.ofNat p)), (2, .int a), (3, .int (0 : Int32)), (4, .int (s_to (g 70 2) (g 70 3) (g 75 p) (0 : Int32)))] [.int (s_to (g 70 2) (g 70 3) (g 75 p) (0 : Int32)), .ref 70, .int a] g u (fun big n0 => sg_rs_6 big n0 g u (Int32.ofNat p) a (s_to (g 70 2) (g 70 3) (g 75 p) (0 : Int32)) a) ?_
    refine q_call (M2 := 173) (rest := [.int a]) (b_rwho g u _ hn h6) (fun _ _ => rfl) ?_
    refine q_step 1 38 [(0, .ref 70), (1, .int (Int32.ofNat p)), (2, .int a), (3, .int (0 : Int32)), (4, .int (s_to (g 70 2) (g 70 3) (g 75 p) (0 : Int32)))] [.int (Int8.toInt32 (Int8.ofInt (-4))), .int (s_wl (g 75) (s_to (g 70 2) (g 70 3) (g 75 p) (0 : Int32)) n 0 i_none), .int a] g u (fun big n0 => sg_rs_7 big n0 g u (Int32.ofNat p) a (s_to (g 70 2) (g 70 3) (g 75 p) (0 : Int32)) a (s_wl (g 75) (s_to (g 70 2) (g 70 3) (g 75 p) (0 : Int32)) n 0 i_none)) ?_
    refine q_ic_eq rfl (fun (hc1 : (s_wl (g 75) (s_to (g 70 2) (g 70 3) (g 75 p) (0 : Int32)) n 0 i_none) = (Int8.toInt32 (Int8.ofInt (-4)))) => ?_) (fun (hc1 : ¬ ((s_wl (g 75) (s_to (g 70 2) (g 70 3) (g 75 p) (0 : Int32)) n 0 i_none) = (Int8.toInt32 (Int8.ofInt (-4))))) => ?_)
    · refine q_step 1 46 [(0, .ref 70), (1, .int (Int32.ofNat p)), (2, .int a), (3, .int (0 : Int32)), (4, .int (s_to (g 70 2) (g 70 3) (g 75 p) (0 : Int32)))] [.int (0 : Int32), .int a] g u (fun big n0 => sg_rs_4 big n0 g u (Int32.ofNat p) a (s_to (g 70 2) (g 70 3) (g 75 p) (0 : Int32)) a) ?_
      refine q_call (M2 := 164) (rest := [.int a]) (b_flag0 _ _) (fun _ _ => rfl) ?_
      refine q_step 4 4 [(0, .ref 70), (1, .int (Int32.ofNat p)), (2, .int (a + (0 : Int32))), (3, .int (1 : Int32)), (4, .int (s_to (g 70 2) (g 70 3) (g 75 p) (0 : Int32)))] [] g u (fun big n0 => sg_rs_5 big n0 g u (Int32.ofNat p) a (s_to (g 70 2) (g 70 3) (g 75 p) (0 : Int32)) a) ?_
      refine q_weak [(0, .ref 70), (1, .int (Int32.ofNat p)), (2, .int (a + (0 : Int32))), (3, .int (1 : Int32))] (q_sub.cons rfl (q_sub.cons rfl (q_sub.cons rfl (q_sub.cons rfl q_sub.nil)))) ?_
      unfold s_oc at hE
      rw [if_neg hc0, if_pos hc1] at hE
      exact hE
    · refine q_step 2 46 [(0, .ref 70), (1, .int (Int32.ofNat p)), (2, .int a), (3, .int (0 : Int32)), (4, .int (s_to (g 70 2) (g 70 3) (g 75 p) (0 : Int32)))] [.int (1 : Int32), .int a] g u (fun big n0 => sg_rs_8 big n0 g u (Int32.ofNat p) a (s_to (g 70 2) (g 70 3) (g 75 p) (0 : Int32)) a) ?_
      refine q_call (M2 := 164) (rest := [.int a]) (b_flag1 _ _) (fun _ _ => rfl) ?_
      refine q_step 4 4 [(0, .ref 70), (1, .int (Int32.ofNat p)), (2, .int (a + (1 : Int32))), (3, .int (1 : Int32)), (4, .int (s_to (g 70 2) (g 70 3) (g 75 p) (0 : Int32)))] [] g u (fun big n0 => sg_rs_9 big n0 g u (Int32.ofNat p) a (s_to (g 70 2) (g 70 3) (g 75 p) (0 : Int32)) a) ?_
      refine q_weak [(0, .ref 70), (1, .int (Int32.ofNat p)), (2, .int (a + (1 : Int32))), (3, .int (1 : Int32))] (q_sub.cons rfl (q_sub.cons rfl (q_sub.cons rfl (q_sub.cons rfl q_sub.nil)))) ?_
      unfold s_oc at hE
      rw [if_neg hc0, if_neg hc1] at hE
      exact hE
theorem ip_1 (g : qM) (u : qW) {Q : Option Value × qM × qW → Prop} {n p : Nat} (hn : g 70 27 = Int32.ofNat n) (h6 : n ≤ 6) (hp : p < n) (hw : g 70 2 ≠ 0) {a : Int32} (hE : q_EV m_193 4 [(0, .ref 70), (1, .int (Int32.ofNat p)), (2, .int (a + s_oc (g 75) n (s_to (g 70 2) (g 70 3) (g 75 p) (1 : Int32)))), (3, .int (2 : Int32))] [] g u Q) : q_EV m_193 4 [(0, .ref 70), (1, .int (Int32.ofNat p)), (2, .int a), (3, .int (1 : Int32))] [] g u Q := by
  refine q_step 7 15 [(0, .ref 70), (1, .int (Int32.ofNat p)), (2, .int a), (3, .int (1 : Int32))] [.int (Int32.ofNat p), .ref 75, .ref 70] g u (fun big n0 => sg_rs_10 big n0 g u (Int32.ofNat p) a) ?_
  refine q_iald (j := p) (q_ixn (by omega) (by omega)) rfl rfl ?_
  refine q_step 1 17 [(0, .ref 70), (1, .int (Int32.ofNat p)), (2, .int a), (3, .int (1 : Int32))] [.int (1 : Int32), .int (g 75 p), .ref 70] g u (fun big n0 => sg_rs_11 big n0 g u (Int32.ofNat p) a (g 75 p)) ?_
  refine q_call (M2 := 192) (rest := []) (b_bes g u _ _ hw (by decide)) (fun _ _ => rfl) ?_
  refine q_step 4 27 [(0, .ref 70), (1, .int (Int32.ofNat p)), (2, .int a), (3, .int (1 : Int32)), (4, .int (s_to (g 70 2) (g 70 3) (g 75 p) (1 : Int32)))] [.int (Int8.toInt32 (Int8.ofInt (-4))), .int (s_to (g 70 2) (g 70 3) (g 75 p) (1 : Int32)), .int a] g u (fun big n0 => sg_rs_12 big n0 g u (Int32.ofNat p) a (s_to (g 70 2) (g 70 3) (g 75 p) (1 : Int32))) ?_
  refine q_ic_eq rfl (fun (hc0 : (s_to (g 70 2) (g 70 3) (g 75 p) (1 : Int32)) = (Int8.toInt32 (Int8.ofInt (-4)))) => ?_) (fun (hc0 : ¬ ((s_to (g 70 2) (g 70 3) (g 75 p) (1 : Int32)) = (Int8.toInt32 (Int8.ofInt (-4))))) => ?_)
  · refine q_step 1 46 [(0, .ref 70), (1, .int (Int32.ofNat p)), (2, .int a), (3, .int (1 : Int32)), (4, .int (s_to (g 70 2) (g 70 3) (g 75 p) (1 : Int32)))] [.int (0 : Int32), .int a] g u (fun big n0 => sg_rs_13 big n0 g u (Int32.ofNat p) a (s_to (g 70 2) (g 70 3) (g 75 p) (1 : Int32)) a) ?_
    refine q_call (M2 := 164) (rest := [.int a]) (b_flag0 _ _) (fun _ _ => rfl) ?_
    refine q_step 4 4 [(0, .ref 70), (1, .int (Int32.ofNat p)), (2, .int (a + (0 : Int32))), (3, .int (2 : Int32)), (4, .int (s_to (g 70 2) (g 70 3) (g 75 p) (1 : Int32)))] [] g u (fun big n0 => sg_rs_14 big n0 g u (Int32.ofNat p) a (s_to (g 70 2) (g 70 3) (g 75 p) (1 : Int32)) a) ?_
    refine q_weak [(0, .ref 70), (1, .int (Int32.ofNat p)), (2, .int (a + (0 : Int32))), (3, .int (2 : Int32))] (q_sub.cons rfl (q_sub.cons rfl (q_sub.cons rfl (q_sub.cons rfl q_sub.nil)))) ?_
    unfold s_oc at hE
    rw [if_pos hc0] at hE
    exact hE
  · refine q_step 2 33 [(0, .ref 70), (1, .int (Int32.ofNat p)), (2, .int a), (3, .int (1 : Int32)), (4, .int (s_to (g 70 2) (g 70 3) (g 75 p) (1 : Int32)))] [.int (s_to (g 70 2) (g 70 3) (g 75 p) (1 : Int32)), .ref 70, .int a] g u (fun big n0 => sg_rs_15 big n0 g u (Int32.ofNat p) a (s_to (g 70 2) (g 70 3) (g 75 p) (1 : Int32)) a) ?_
    refine q_call (M2 := 173) (rest := [.int a]) (b_rwho g u _ hn h6) (fun _ _ => rfl) ?_
    refine q_step 1 38 [(0, .ref 70), (1, .int (Int32.ofNat p)), (2, .int a), (3, .int (1 : Int32)), (4, .int (s_to (g 70 2) (g 70 3) (g 75 p) (1 : Int32)))] [.int (Int8.toInt32 (Int8.ofInt (-4))), .int (s_wl (g 75) (s_to (g 70 2) (g 70 3) (g 75 p) (1 : Int32)) n 0 i_none), .int a] g u (fun big n0 => sg_rs_16 big n0 g u (Int32.ofNat p) a (s_to (g 70 2) (g 70 3) (g 75 p) (1 : Int32)) a (s_wl (g 75) (s_to (g 70 2) (g 70 3) (g 75 p) (1 : Int32)) n 0 i_none)) ?_
    refine q_ic_eq rfl (fun (hc1 : (s_wl (g 75) (s_to (g 70 2) (g 70 3) (g 75 p) (1 : Int32)) n 0 i_none) = (Int8.toInt32 (Int8.ofInt (-4)))) => ?_) (fun (hc1 : ¬ ((s_wl (g 75) (s_to (g 70 2) (g 70 3) (g 75 p) (1 : Int32)) n 0 i_none) = (Int8.toInt32 (Int8.ofInt (-4))))) => ?_)
    · refine q_step 1 46 [(0, .ref 70), (1, .int (Int32.ofNat p)), (2, .int a), (3, .int (1 : Int32)), (4, .int (s_to (g 70 2) (g 70 3) (g 75 p) (1 : Int32)))] [.int (0 : Int32), .int a] g u (fun big n0 => sg_rs_13 big n0 g u (Int32.ofNat p) a (s_to (g 70 2) (g 70 3) (g 75 p) (1 : Int32)) a) ?_
      refine q_call (M2 := 164) (rest := [.int a]) (b_flag0 _ _) (fun _ _ => rfl) ?_
      refine q_step 4 4 [(0, .ref 70), (1, .int (Int32.ofNat p)), (2, .int (a + (0 : Int32))), (3, .int (2 : Int32)), (4, .int (s_to (g 70 2) (g 70 3) (g 75 p) (1 : Int32)))] [] g u (fun big n0 => sg_rs_14 big n0 g u (Int32.ofNat p) a (s_to (g 70 2) (g 70 3) (g 75 p) (1 : Int32)) a) ?_
      refine q_weak [(0, .ref 70), (1, .int (Int32.ofNat p)), (2, .int (a + (0 : Int32))), (3, .int (2 : Int32))] (q_sub.cons rfl (q_sub.cons rfl (q_sub.cons rfl (q_sub.cons rfl q_sub.nil)))) ?_
      unfold s_oc at hE
      rw [if_neg hc0, if_pos hc1] at hE
      exact hE
    · refine q_step 2 46 [(0, .ref 70), (1, .int (Int32.ofNat p)), (2, .int a), (3, .int (1 : Int32)), (4, .int (s_to (g 70 2) (g 70 3) (g 75 p) (1 : Int32)))] [.int (1 : Int32), .int a] g u (fun big n0 => sg_rs_17 big n0 g u (Int32.ofNat p) a (s_to (g 70 2) (g 70 3) (g 75 p) (1 : Int32)) a) ?_
      refine q_call (M2 := 164) (rest := [.int a]) (b_flag1 _ _) (fun _ _ => rfl) ?_
      refine q_step 4 4 [(0, .ref 70), (1, .int (Int32.ofNat p)), (2, .int (a + (1 : Int32))), (3, .int (2 : Int32)), (4, .int (s_to (g 70 2) (g 70 3) (g 75 p) (1 : Int32)))] [] g u (fun big n0 => sg_rs_18 big n0 g u (Int32.ofNat p) a (s_to (g 70 2) (g 70 3) (g 75 p) (1 : Int32)) a) ?_
      refine q_weak [(0, .ref 70), (1, .int (Int32.ofNat p)), (2, .int (a + (1 : Int32))), (3, .int (2 : Int32))] (q_sub.cons rfl (q_sub.cons rfl (q_sub.cons rfl (q_sub.cons rfl q_sub.nil)))) ?_
      unfold s_oc at hE
      rw [if_neg hc0, if_neg hc1] at hE
      exact hE
theorem ip_2 (g : qM) (u : qW) {Q : Option Value × qM × qW → Prop} {n p : Nat} (hn : g 70 27 = Int32.ofNat n) (h6 : n ≤ 6) (hp : p < n) (hw : g 70 2 ≠ 0) {a : Int32} (hE : q_EV m_193 4 [(0, .ref 70), (1, .int (Int32.ofNat p)), (2, .int (a + s_oc (g 75) n (s_to (g 70 2) (g 70 3) (g 75 p) (2 : Int32)))), (3, .int (3 : Int32))] [] g u Q) : q_EV m_193 4 [(0, .ref 70), (1, .int (Int32.ofNat p)), (2, .int a), (3, .int (2 : Int32))] [] g u Q := by
  refine q_step 7 15 [(0, .ref 70), (1, .int (Int32.ofNat p)), (2, .int a), (3, .int (2 : Int32))] [.int (Int32.ofNat p), .ref 75, .ref 70] g u (fun big n0 => sg_rs_19 big n0 g u (Int32.ofNat p) a) ?_
  refine q_iald (j := p) (q_ixn (by omega) (by omega)) rfl rfl ?_
  refine q_step 1 17 [(0, .ref 70), (1, .int (Int32.ofNat p)), (2, .int a), (3, .int (2 : Int32))] [.int (2 : Int32), .int (g 75 p), .ref 70] g u (fun big n0 => sg_rs_20 big n0 g u (Int32.ofNat p) a (g 75 p)) ?_
  refine q_call (M2 := 192) (rest := []) (b_bes g u _ _ hw (by decide)) (fun _ _ => rfl) ?_
  refine q_step 4 27 [(0, .ref 70), (1, .int (Int32.ofNat p)), (2, .int a), (3, .int (2 : Int32)), (4, .int (s_to (g 70 2) (g 70 3) (g 75 p) (2 : Int32)))] [.int (Int8.toInt32 (Int8.ofInt (-4))), .int (s_to (g 70 2) (g 70 3) (g 75 p) (2 : Int32)), .int a] g u (fun big n0 => sg_rs_21 big n0 g u (Int32.ofNat p) a (s_to (g 70 2) (g 70 3) (g 75 p) (2 : Int32))) ?_
  refine q_ic_eq rfl (fun (hc0 : (s_to (g 70 2) (g 70 3) (g 75 p) (2 : Int32)) = (Int8.toInt32 (Int8.ofInt (-4)))) => ?_) (fun (hc0 : ¬ ((s_to (g 70 2) (g 70 3) (g 75 p) (2 : Int32)) = (Int8.toInt32 (Int8.ofInt (-4))))) => ?_)
  · refine q_step 1 46 [(0, .ref 70), (1, .int (Int32.ofNat p)), (2, .int a), (3, .int (2 : Int32)), (4, .int (s_to (g 70 2) (g 70 3) (g 75 p) (2 : Int32)))] [.int (0 : Int32), .int a] g u (fun big n0 => sg_rs_22 big n0 g u (Int32.ofNat p) a (s_to (g 70 2) (g 70 3) (g 75 p) (2 : Int32)) a) ?_
    refine q_call (M2 := 164) (rest := [.int a]) (b_flag0 _ _) (fun _ _ => rfl) ?_
    refine q_step 4 4 [(0, .ref 70), (1, .int (Int32.ofNat p)), (2, .int (a + (0 : Int32))), (3, .int (3 : Int32)), (4, .int (s_to (g 70 2) (g 70 3) (g 75 p) (2 : Int32)))] [] g u (fun big n0 => sg_rs_23 big n0 g u (Int32.ofNat p) a (s_to (g 70 2) (g 70 3) (g 75 p) (2 : Int32)) a) ?_
    refine q_weak [(0, .ref 70), (1, .int (Int32.ofNat p)), (2, .int (a + (0 : Int32))), (3, .int (3 : Int32))] (q_sub.cons rfl (q_sub.cons rfl (q_sub.cons rfl (q_sub.cons rfl q_sub.nil)))) ?_
    unfold s_oc at hE
    rw [if_pos hc0] at hE
    exact hE
  · refine q_step 2 33 [(0, .ref 70), (1, .int (Int32.ofNat p)), (2, .int a), (3, .int (2 : Int32)), (4, .int (s_to (g 70 2) (g 70 3) (g 75 p) (2 : Int32)))] [.int (s_to (g 70 2) (g 70 3) (g 75 p) (2 : Int32)), .ref 70, .int a] g u (fun big n0 => sg_rs_24 big n0 g u (Int32.ofNat p) a (s_to (g 70 2) (g 70 3) (g 75 p) (2 : Int32)) a) ?_
    refine q_call (M2 := 173) (rest := [.int a]) (b_rwho g u _ hn h6) (fun _ _ => rfl) ?_
    refine q_step 1 38 [(0, .ref 70), (1, .int (Int32.ofNat p)), (2, .int a), (3, .int (2 : Int32)), (4, .int (s_to (g 70 2) (g 70 3) (g 75 p) (2 : Int32)))] [.int (Int8.toInt32 (Int8.ofInt (-4))), .int (s_wl (g 75) (s_to (g 70 2) (g 70 3) (g 75 p) (2 : Int32)) n 0 i_none), .int a] g u (fun big n0 => sg_rs_25 big n0 g u (Int32.ofNat p) a (s_to (g 70 2) (g 70 3) (g 75 p) (2 : Int32)) a (s_wl (g 75) (s_to (g 70 2) (g 70 3) (g 75 p) (2 : Int32)) n 0 i_none)) ?_
    refine q_ic_eq rfl (fun (hc1 : (s_wl (g 75) (s_to (g 70 2) (g 70 3) (g 75 p) (2 : Int32)) n 0 i_none) = (Int8.toInt32 (Int8.ofInt (-4)))) => ?_) (fun (hc1 : ¬ ((s_wl (g 75) (s_to (g 70 2) (g 70 3) (g 75 p) (2 : Int32)) n 0 i_none) = (Int8.toInt32 (Int8.ofInt (-4))))) => ?_)
    · refine q_step 1 46 [(0, .ref 70), (1, .int (Int32.ofNat p)), (2, .int a), (3, .int (2 : Int32)), (4, .int (s_to (g 70 2) (g 70 3) (g 75 p) (2 : Int32)))] [.int (0 : Int32), .int a] g u (fun big n0 => sg_rs_22 big n0 g u (Int32.ofNat p) a (s_to (g 70 2) (g 70 3) (g 75 p) (2 : Int32)) a) ?_
      refine q_call (M2 := 164) (rest := [.int a]) (b_flag0 _ _) (fun _ _ => rfl) ?_
      refine q_step 4 4 [(0, .ref 70), (1, .int (Int32.ofNat p)), (2, .int (a + (0 : Int32))), (3, .int (3 : Int32)), (4, .int (s_to (g 70 2) (g 70 3) (g 75 p) (2 : Int32)))] [] g u (fun big n0 => sg_rs_23 big n0 g u (Int32.ofNat p) a (s_to (g 70 2) (g 70 3) (g 75 p) (2 : Int32)) a) ?_
      refine q_weak [(0, .ref 70), (1, .int (Int32.ofNat p)), (2, .int (a + (0 : Int32))), (3, .int (3 : Int32))] (q_sub.cons rfl (q_sub.cons rfl (q_sub.cons rfl (q_sub.cons rfl q_sub.nil)))) ?_
      unfold s_oc at hE
      rw [if_neg hc0, if_pos hc1] at hE
      exact hE
    · refine q_step 2 46 [(0, .ref 70), (1, .int (Int32.ofNat p)), (2, .int a), (3, .int (2 : Int32)), (4, .int (s_to (g 70 2) (g 70 3) (g 75 p) (2 : Int32)))] [.int (1 : Int32), .int a] g u (fun big n0 => sg_rs_26 big n0 g u (Int32.ofNat p) a (s_to (g 70 2) (g 70 3) (g 75 p) (2 : Int32)) a) ?_
      refine q_call (M2 := 164) (rest := [.int a]) (b_flag1 _ _) (fun _ _ => rfl) ?_
      refine q_step 4 4 [(0, .ref 70), (1, .int (Int32.ofNat p)), (2, .int (a + (1 : Int32))), (3, .int (3 : Int32)), (4, .int (s_to (g 70 2) (g 70 3) (g 75 p) (2 : Int32)))] [] g u (fun big n0 => sg_rs_27 big n0 g u (Int32.ofNat p) a (s_to (g 70 2) (g 70 3) (g 75 p) (2 : Int32)) a) ?_
      refine q_weak [(0, .ref 70), (1, .int (Int32.ofNat p)), (2, .int (a + (1 : Int32))), (3, .int (3 : Int32))] (q_sub.cons rfl (q_sub.cons rfl (q_sub.cons rfl (q_sub.cons rfl q_sub.nil)))) ?_
      unfold s_oc at hE
      rw [if_neg hc0, if_neg hc1] at hE
      exact hE
theorem ip_3 (g : qM) (u : qW) {Q : Option Value × qM × qW → Prop} {n p : Nat} (hn : g 70 27 = Int32.ofNat n) (h6 : n ≤ 6) (hp : p < n) (hw : g 70 2 ≠ 0) {a : Int32} (hE : q_EV m_193 4 [(0, .ref 70), (1, .int (Int32.ofNat p)), (2, .int (a + s_oc (g 75) n (s_to (g 70 2) (g 70 3) (g 75 p) (3 : Int32)))), (3, .int (4 : Int32))] [] g u Q) : q_EV m_193 4 [(0, .ref 70), (1, .int (Int32.ofNat p)), (2, .int a), (3, .int (3 : Int32))] [] g u Q := by
  refine q_step 7 15 [(0, .ref 70), (1, .int (Int32.ofNat p)), (2, .int a), (3, .int (3 : Int32))] [.int (Int32.ofNat p), .ref 75, .ref 70] g u (fun big n0 => sg_rs_28 big n0 g u (Int32.ofNat p) a) ?_
  refine q_iald (j := p) (q_ixn (by omega) (by omega)) rfl rfl ?_
  refine q_step 1 17 [(0, .ref 70), (1, .int (Int32.ofNat p)), (2, .int a), (3, .int (3 : Int32))] [.int (3 : Int32), .int (g 75 p), .ref 70] g u (fun big n0 => sg_rs_29 big n0 g u (Int32.ofNat p) a (g 75 p)) ?_
  refine q_call (M2 := 192) (rest := []) (b_bes g u _ _ hw (by decide)) (fun _ _ => rfl) ?_
  refine q_step 4 27 [(0, .ref 70), (1, .int (Int32.ofNat p)), (2, .int a), (3, .int (3 : Int32)), (4, .int (s_to (g 70 2) (g 70 3) (g 75 p) (3 : Int32)))] [.int (Int8.toInt32 (Int8.ofInt (-4))), .int (s_to (g 70 2) (g 70 3) (g 75 p) (3 : Int32)), .int a] g u (fun big n0 => sg_rs_30 big n0 g u (Int32.ofNat p) a (s_to (g 70 2) (g 70 3) (g 75 p) (3 : Int32))) ?_
  refine q_ic_eq rfl (fun (hc0 : (s_to (g 70 2) (g 70 3) (g 75 p) (3 : Int32)) = (Int8.toInt32 (Int8.ofInt (-4)))) => ?_) (fun (hc0 : ¬ ((s_to (g 70 2) (g 70 3) (g 75 p) (3 : Int32)) = (Int8.toInt32 (Int8.ofInt (-4))))) => ?_)
  · refine q_step 1 46 [(0, .ref 70), (1, .int (Int32.ofNat p)), (2, .int a), (3, .int (3 : Int32)), (4, .int (s_to (g 70 2) (g 70 3) (g 75 p) (3 : Int32)))] [.int (0 : Int32), .int a] g u (fun big n0 => sg_rs_31 big n0 g u (Int32.ofNat p) a (s_to (g 70 2) (g 70 3) (g 75 p) (3 : Int32)) a) ?_
    refine q_call (M2 := 164) (rest := [.int a]) (b_flag0 _ _) (fun _ _ => rfl) ?_
    refine q_step 4 4 [(0, .ref 70), (1, .int (Int32.ofNat p)), (2, .int (a + (0 : Int32))), (3, .int (4 : Int32)), (4, .int (s_to (g 70 2) (g 70 3) (g 75 p) (3 : Int32)))] [] g u (fun big n0 => sg_rs_32 big n0 g u (Int32.ofNat p) a (s_to (g 70 2) (g 70 3) (g 75 p) (3 : Int32)) a) ?_
    refine q_weak [(0, .ref 70), (1, .int (Int32.ofNat p)), (2, .int (a + (0 : Int32))), (3, .int (4 : Int32))] (q_sub.cons rfl (q_sub.cons rfl (q_sub.cons rfl (q_sub.cons rfl q_sub.nil)))) ?_
    unfold s_oc at hE
    rw [if_pos hc0] at hE
    exact hE
  · refine q_step 2 33 [(0, .ref 70), (1, .int (Int32.ofNat p)), (2, .int a), (3, .int (3 : Int32)), (4, .int (s_to (g 70 2) (g 70 3) (g 75 p) (3 : Int32)))] [.int (s_to (g 70 2) (g 70 3) (g 75 p) (3 : Int32)), .ref 70, .int a] g u (fun big n0 => sg_rs_33 big n0 g u (Int32.ofNat p) a (s_to (g 70 2) (g 70 3) (g 75 p) (3 : Int32)) a) ?_
    refine q_call (M2 := 173) (rest := [.int a]) (b_rwho g u _ hn h6) (fun _ _ => rfl) ?_
    refine q_step 1 38 [(0, .ref 70), (1, .int (Int32.ofNat p)), (2, .int a), (3, .int (3 : Int32)), (4, .int (s_to (g 70 2) (g 70 3) (g 75 p) (3 : Int32)))] [.int (Int8.toInt32 (Int8.ofInt (-4))), .int (s_wl (g 75) (s_to (g 70 2) (g 70 3) (g 75 p) (3 : Int32)) n 0 i_none), .int a] g u (fun big n0 => sg_rs_34 big n0 g u (Int32.ofNat p) a (s_to (g 70 2) (g 70 3) (g 75 p) (3 : Int32)) a (s_wl (g 75) (s_to (g 70 2) (g 70 3) (g 75 p) (3 : Int32)) n 0 i_none)) ?_
    refine q_ic_eq rfl (fun (hc1 : (s_wl (g 75) (s_to (g 70 2) (g 70 3) (g 75 p) (3 : Int32)) n 0 i_none) = (Int8.toInt32 (Int8.ofInt (-4)))) => ?_) (fun (hc1 : ¬ ((s_wl (g 75) (s_to (g 70 2) (g 70 3) (g 75 p) (3 : Int32)) n 0 i_none) = (Int8.toInt32 (Int8.ofInt (-4))))) => ?_)
    · refine q_step 1 46 [(0, .ref 70), (1, .int (Int32.ofNat p)), (2, .int a), (3, .int (3 : Int32)), (4, .int (s_to (g 70 2) (g 70 3) (g 75 p) (3 : Int32)))] [.int (0 : Int32), .int a] g u (fun big n0 => sg_rs_31 big n0 g u (Int32.ofNat p) a (s_to (g 70 2) (g 70 3) (g 75 p) (3 : Int32)) a) ?_
      refine q_call (M2 := 164) (rest := [.int a]) (b_flag0 _ _) (fun _ _ => rfl) ?_
      refine q_step 4 4 [(0, .ref 70), (1, .int (Int32.ofNat p)), (2, .int (a + (0 : Int32))), (3, .int (4 : Int32)), (4, .int (s_to (g 70 2) (g 70 3) (g 75 p) (3 : Int32)))] [] g u (fun big n0 => sg_rs_32 big n0 g u (Int32.ofNat p) a (s_to (g 70 2) (g 70 3) (g 75 p) (3 : Int32)) a) ?_
      refine q_weak [(0, .ref 70), (1, .int (Int32.ofNat p)), (2, .int (a + (0 : Int32))), (3, .int (4 : Int32))] (q_sub.cons rfl (q_sub.cons rfl (q_sub.cons rfl (q_sub.cons rfl q_sub.nil)))) ?_
      unfold s_oc at hE
      rw [if_neg hc0, if_pos hc1] at hE
      exact hE
    · refine q_step 2 46 [(0, .ref 70), (1, .int (Int32.ofNat p)), (2, .int a), (3, .int (3 : Int32)), (4, .int (s_to (g 70 2) (g 70 3) (g 75 p) (3 : Int32)))] [.int (1 : Int32), .int a] g u (fun big n0 => sg_rs_35 big n0 g u (Int32.ofNat p) a (s_to (g 70 2) (g 70 3) (g 75 p) (3 : Int32)) a) ?_
      refine q_call (M2 := 164) (rest := [.int a]) (b_flag1 _ _) (fun _ _ => rfl) ?_
      refine q_step 4 4 [(0, .ref 70), (1, .int (Int32.ofNat p)), (2, .int (a + (1 : Int32))), (3, .int (4 : Int32)), (4, .int (s_to (g 70 2) (g 70 3) (g 75 p) (3 : Int32)))] [] g u (fun big n0 => sg_rs_36 big n0 g u (Int32.ofNat p) a (s_to (g 70 2) (g 70 3) (g 75 p) (3 : Int32)) a) ?_
      refine q_weak [(0, .ref 70), (1, .int (Int32.ofNat p)), (2, .int (a + (1 : Int32))), (3, .int (4 : Int32))] (q_sub.cons rfl (q_sub.cons rfl (q_sub.cons rfl (q_sub.cons rfl q_sub.nil)))) ?_
      unfold s_oc at hE
      rw [if_neg hc0, if_neg hc1] at hE
      exact hE
theorem b_pressed (g : qM) (u : qW) {n p : Nat} (hn : g 70 27 = Int32.ofNat n) (h6 : n ≤ 6) (hp : p < n) (hw : g 70 2 ≠ 0) : q_BS 193 [.ref 70, .int (Int32.ofNat p)] g u (some (.int (s_pr (g 70 2) (g 70 3) (g 71 25) (g 75) (g 76) n p)), g, u) := by
  refine q_bx (mm := m_193) rfl (Nat.le_of_ble_eq_true rfl) rfl ?_
  refine q_step 4 4 [(0, .ref 70), (1, .int (Int32.ofNat p)), (2, .int (0 : Int32)), (3, .int (0 : Int32))] [] g u (fun big n0 => sg_rs_40 big n0 g u (Int32.ofNat p)) ?_
  refine ip_0 g u hn h6 hp hw ?_
  refine ip_1 g u hn h6 hp hw ?_
  refine ip_2 g u hn h6 hp hw ?_
  refine ip_3 g u hn h6 hp hw ?_
  refine q_step 6 62 [(0, .ref 70), (1, .int (Int32.ofNat p)), (2, .int (0 + s_oc (g 75) n (s_to (g 70 2) (g 70 3) (g 75 p) (0 : Int32)) + s_oc (g 75) n (s_to (g 70 2) (g 70 3) (g 75 p) (1 : Int32)) + s_oc (g 75) n (s_to (g 70 2) (g 70 3) (g 75 p) (2 : Int32)) + s_oc (g 75) n (s_to (g 70 2) (g 70 3) (g 75 p) (3 : Int32)))), (3, .int (4 : Int32))] [.int (Int32.ofNat p), .ref 76] g u (fun big n0 => sg_rs_37 big n0 g u (Int32.ofNat p) (0 + s_oc (g 75) n (s_to (g 70 2) (g 70 3) (g 75 p) (0 : Int32)) + s_oc (g 75) n (s_to (g 70 2) (g 70 3) (g 75 p) (1 : Int32)) + s_oc (g 75) n (s_to (g 70 2) (g 70 3) (g 75 p) (2 : Int32)) + s_oc (g 75) n (s_to (g 70 2) (g 70 3) (g 75 p) (3 : Int32)))) ?_
  refine q_iald (j := p) (q_ixn (by omega) (by omega)) rfl rfl ?_
  refine q_if_le rfl (fun (hc0 : (g 76 p) ≤ 0) => ?_) (fun (hc0 : ¬ ((g 76 p) ≤ 0)) => ?_)
  · refine q_ret 2 (some (.int (0 : Int32)), g, u) (fun _ _ => rfl) ?_
    unfold s_pr s_cn
    rw [if_pos hc0]
  · refine q_step 4 73 [(0, .ref 70), (1, .int (Int32.ofNat p)), (2, .int (0 + s_oc (g 75) n (s_to (g 70 2) (g 70 3) (g 75 p) (0 : Int32)) + s_oc (g 75) n (s_to (g 70 2) (g 70 3) (g 75 p) (1 : Int32)) + s_oc (g 75) n (s_to (g 70 2) (g 70 3) (g 75 p) (2 : Int32)) + s_oc (g 75) n (s_to (g 70 2) (g 70 3) (g 75 p) (3 : Int32)))), (3, .int (4 : Int32))] [.int (g 71 25)] g u (fun big n0 => sg_rs_38 big n0 g u (Int32.ofNat p) (0 + s_oc (g 75) n (s_to (g 70 2) (g 70 3) (g 75 p) (0 : Int32)) + s_oc (g 75) n (s_to (g 70 2) (g 70 3) (g 75 p) (1 : Int32)) + s_oc (g 75) n (s_to (g 70 2) (g 70 3) (g 75 p) (2 : Int32)) + s_oc (g 75) n (s_to (g 70 2) (g 70 3) (g 75 p) (3 : Int32)))) ?_
    refine q_if_le rfl (fun (hc1 : (g 71 25) ≤ 0) => ?_) (fun (hc1 : ¬ ((g 71 25) ≤ 0)) => ?_)
    · refine q_ret 2 (some (.int (0 : Int32)), g, u) (fun _ _ => rfl) ?_
      unfold s_pr s_cn
      rw [if_neg hc0, if_pos hc1]
    · refine q_step 5 84 [(0, .ref 70), (1, .int (Int32.ofNat p)), (2, .int (0 + s_oc (g 75) n (s_to (g 70 2) (g 70 3) (g 75 p) (0 : Int32)) + s_oc (g 75) n (s_to (g 70 2) (g 70 3) (g 75 p) (1 : Int32)) + s_oc (g 75) n (s_to (g 70 2) (g 70 3) (g 75 p) (2 : Int32)) + s_oc (g 75) n (s_to (g 70 2) (g 70 3) (g 75 p) (3 : Int32)))), (3, .int (4 : Int32))] [.int (g 71 25), .int (0 + s_oc (g 75) n (s_to (g 70 2) (g 70 3) (g 75 p) (0 : Int32)) + s_oc (g 75) n (s_to (g 70 2) (g 70 3) (g 75 p) (1 : Int32)) + s_oc (g 75) n (s_to (g 70 2) (g 70 3) (g 75 p) (2 : Int32)) + s_oc (g 75) n (s_to (g 70 2) (g 70 3) (g 75 p) (3 : Int32)))] g u (fun big n0 => sg_rs_39 big n0 g u (Int32.ofNat p) (0 + s_oc (g 75) n (s_to (g 70 2) (g 70 3) (g 75 p) (0 : Int32)) + s_oc (g 75) n (s_to (g 70 2) (g 70 3) (g 75 p) (1 : Int32)) + s_oc (g 75) n (s_to (g 70 2) (g 70 3) (g 75 p) (2 : Int32)) + s_oc (g 75) n (s_to (g 70 2) (g 70 3) (g 75 p) (3 : Int32)))) ?_
      refine q_ic_lt rfl (fun (hc2 : (0 + s_oc (g 75) n (s_to (g 70 2) (g 70 3) (g 75 p) (0 : Int32)) + s_oc (g 75) n (s_to (g 70 2) (g 70 3) (g 75 p) (1 : Int32)) + s_oc (g 75) n (s_to (g 70 2) (g 70 3) (g 75 p) (2 : Int32)) + s_oc (g 75) n (s_to (g 70 2) (g 70 3) (g 75 p) (3 : Int32))) < (g 71 25)) => ?_) (fun (hc2 : ¬ ((0 + s_oc (g 75) n (s_to (g 70 2) (g 70 3) (g 75 p) (0 : Int32)) + s_oc (g 75) n (s_to (g 70 2) (g 70 3) (g 75 p) (1 : Int32)) + s_oc (g 75) n (s_to (g 70 2) (g 70 3) (g 75 p) (2 : Int32)) + s_oc (g 75) n (s_to (g 70 2) (g 70 3) (g 75 p) (3 : Int32))) < (g 71 25))) => ?_)
      · refine q_ret 2 (some (.int (0 : Int32)), g, u) (fun _ _ => rfl) ?_
        unfold s_pr s_cn
        rw [if_neg hc0, if_neg hc1, if_pos hc2]
      · refine q_ret 3 (some (.int (1 : Int32)), g, u) (fun _ _ => rfl) ?_
        unfold s_pr s_cn
        rw [if_neg hc0, if_neg hc1, if_neg hc2]
theorem r1_l (g : qM) (u : qW) {Q : Option Value × qM × qW → Prop} {n : Nat} (hn : g 70 27 = Int32.ofNat n) (h6 : n ≤ 6) (hw : g 70 2 ≠ 0) : ∀ k i, i + k = n → q_EV m_191 31 [(0, .ref 70), (1, .int (0 : Int32)), (2, .int (0 : Int32))] [] (s_row_ 79 (s_rw (g 70 2) (g 75) (g 76) (g 77) (g 71) n) n g) u Q → q_EV m_191 4 [(0, .ref 70), (1, .int (0 : Int32)), (2, .int (Int32.ofNat i))] [] (s_row_ 79 (s_rw (g 70 2) (g 75) (g 76) (g 77) (g 71) n) i g) u Q := by
  intro k
  induction k with
  | zero =>
    intro i hi hE
    refine q_step 3 9 [(0, .ref 70), (1, .int (0 : Int32)), (2, .int (Int32.ofNat i))] [.int (g 70 27), .int (Int32.ofNat i)] (s_row_ 79 (s_rw (g 70 2) (g 75) (g 76) (g 77) (g 71) n) i g) u (fun big n0 => sg_rs_41 big n0 (s_row_ 79 (s_rw (g 70 2) (g 75) (g 76) (g 77) (g 71) n) i g) u (Int32.ofNat i)) ?_
    refine q_ic_ge rfl (fun (hc0 : (g 70 27) ≤ (Int32.ofNat i)) => ?_) (fun hc0 => absurd (show (g 70 27) ≤ (Int32.ofNat i) from by rw [hn, q_le (by omega) (by omega)]; omega) hc0)
    refine q_step 2 31 [(0, .ref 70), (1, .int (0 : Int32)), (2, .int (0 : Int32))] [] (s_row_ 79 (s_rw (g 70 2) (g 75) (g 76) (g 77) (g 71) n) i g) u (fun big n0 => sg_rs_42 big n0 (s_row_ 79 (s_rw (g 70 2) (g 75) (g 76) (g 77) (g 71) n) i g) u (Int32.ofNat i)) ?_
    have e : i = n := by omega
    subst e
    exact hE
  | succ k ih =>
    intro i hi hE
    refine q_step 3 9 [(0, .ref 70), (1, .int (0 : Int32)), (2, .int (Int32.ofNat i))] [.int (g 70 27), .int (Int32.ofNat i)] (s_row_ 79 (s_rw (g 70 2) (g 75) (g 76) (g 77) (g 71) n) i g) u (fun big n0 => sg_rs_41 big n0 (s_row_ 79 (s_rw (g 70 2) (g 75) (g 76) (g 77) (g 71) n) i g) u (Int32.ofNat i)) ?_
    refine q_ic_ge rfl (fun hc0 => absurd (show (g 70 27) ≤ (Int32.ofNat i) from hc0) (fun z => by rw [hn, q_le (by omega) (by omega)] at z; omega)) (fun (hc0 : ¬ ((g 70 27) ≤ (Int32.ofNat i))) => ?_)
    refine q_step 5 19 [(0, .ref 70), (1, .int (0 : Int32)), (2, .int (Int32.ofNat i))] [.int (Int32.ofNat i), .ref 70, .int (Int32.ofNat i), .ref 79] (s_row_ 79 (s_rw (g 70 2) (g 75) (g 76) (g 77) (g 71) n) i g) u (fun big n0 => sg_rs_43 big n0 (s_row_ 79 (s_rw (g 70 2) (g 75) (g 76) (g 77) (g 71) n) i g) u (Int32.ofNat i)) ?_
    refine q_call (M2 := 189) (rest := [.int (Int32.ofNat i), .ref 79]) (b_rw (s_row_ 79 (s_rw (g 70 2) (g 75) (g 76) (g 77) (g 71) n) i g) u hn h6 (show i < n by omega) hw) (fun _ _ => rfl) ?_
    refine q_iast (j := i) (q_ixn (by omega) (by omega)) rfl rfl ?_
    refine q_step 2 4 [(0, .ref 70), (1, .int (0 : Int32)), (2, .int ((Int32.ofNat i) + (1 : Int32)))] [] (q_up (s_row_ 79 (s_rw (g 70 2) (g 75) (g 76) (g 77) (g 71) n) i g) 79 i ((s_rw (g 70 2) (g 75) (g 76) (g 77) (g 71) n) i)) u (fun big n0 => sg_rs_44 big n0 (q_up (s_row_ 79 (s_rw (g 70 2) (g 75) (g 76) (g 77) (g 71) n) i g) 79 i ((s_rw (g 70 2) (g 75) (g 76) (g 77) (g 71) n) i)) u (Int32.ofNat i)) ?_
    rw [q_succ, s_row_s]
    exact ih (i + 1) (by omega) hE
theorem r2_l (g : qM) (u : qW) {Q : Option Value × qM × qW → Prop} {n : Nat} (hn : g 70 27 = Int32.ofNat n) (h6 : n ≤ 6) (hw : g 70 2 ≠ 0) (hy : ∀ p, p < n → g 79 p = 0 ∨ g 79 p = 1 ∨ g 79 p = 2 ∨ g 79 p = 3 ∨ g 79 p = 4) : ∀ k i c wt an, i + k = n → an = 0 ∨ an = 1 → (q_EV m_191 146 [(0, .ref 70), (1, .int (s_rm (g 70 2) (g 70 3) (g 71 20) (g 79) n k i c wt an).2.2), (2, .int (0 : Int32))] [] (s_N (s_rm (g 70 2) (g 70 3) (g 71 20) (g 79) n k i c wt an).1 (s_rm (g 70 2) (g 70 3) (g 71 20) (g 79) n k i c wt an).2.1 g) u Q) → q_EV m_191 31 [(0, .ref 70), (1, .int an), (2, .int (Int32.ofNat i))] [] (s_N c wt g) u Q := by
  intro k
  induction k with
  | zero =>
    intro i c wt an hi ha hE
    refine q_step 3 36 [(0, .ref 70), (1, .int an), (2, .int (Int32.ofNat i))] [.int (g 70 27), .int (Int32.ofNat i)] (s_N c wt g) u (fun big n0 => sg_rs_45 big n0 (s_N c wt g) u an (Int32.ofNat i)) ?_
    refine q_ic_ge rfl (fun (hc0 : (g 70 27) ≤ (Int32.ofNat i)) => ?_) (fun hc0 => absurd (show (g 70 27) ≤ (Int32.ofNat i) from by rw [hn, q_le (by omega) (by omega)]; omega) hc0)
    refine q_step 2 146 [(0, .ref 70), (1, .int an), (2, .int (0 : Int32))] [] (s_N c wt g) u (fun big n0 => sg_rs_46 big n0 (s_N c wt g) u an (Int32.ofNat i)) ?_
    exact hE
  | succ k ih =>
    intro i c wt an hi ha hE
    refine q_step 3 36 [(0, .ref 70), (1, .int an), (2, .int (Int32.ofNat i))] [.int (g 70 27), .int (Int32.ofNat i)] (s_N c wt g) u (fun big n0 => sg_rs_45 big n0 (s_N c wt g) u an (Int32.ofNat i)) ?_
    refine q_ic_ge rfl (fun hc0 => absurd (show (g 70 27) ≤ (Int32.ofNat i) from hc0) (fun z => by rw [hn, q_le (by omega) (by omega)] at z; omega)) (fun (hc0 : ¬ ((g 70 27) ≤ (Int32.ofNat i))) => ?_)
    refine q_step 4 45 [(0, .ref 70), (1, .int an), (2, .int (Int32.ofNat i))] [.int (Int32.ofNat i), .ref 75, .ref 70] (s_N c wt g) u (fun big n0 => sg_rs_47 big n0 (s_N c wt g) u an (Int32.ofNat i)) ?_
    refine q_iald (j := i) (q_ixn (by omega) (by omega)) rfl rfl ?_
    refine q_step 3 51 [(0, .ref 70), (1, .int an), (2, .int (Int32.ofNat i))] [.int (Int32.ofNat i), .ref 79, .int (c i), .ref 70] (s_N c wt g) u (fun big n0 => sg_rs_48 big n0 (s_N c wt g) u an (Int32.ofNat i) (c i)) ?_
    refine q_iald (j := i) (q_ixn (by omega) (by omega)) rfl rfl ?_
    refine q_call (M2 := 192) (rest := []) (b_bes (s_N c wt g) u _ _ hw (hy i (by omega))) (fun _ _ => rfl) ?_
    refine q_step 3 58 [(0, .ref 70), (1, .int an), (2, .int (Int32.ofNat i)), (3, .int (s_to (g 70 2) (g 70 3) (c i) (g 79 i)))] [.int (s_to (g 70 2) (g 70 3) (c i) (g 79 i)), .ref 70] (s_N c wt g) u (fun big n0 => sg_rs_49 big n0 (s_N c wt g) u an (Int32.ofNat i) (s_to (g 70 2) (g 70 3) (c i) (g 79 i))) ?_
    refine q_call (M2 := 177) (rest := []) (b_open _ (s_N c wt g) u) (fun _ _ => rfl) ?_
    refine q_if_eq rfl (fun (hc1 : (s_op (g 71 20) (s_to (g 70 2) (g 70 3) (c i) (g 79 i))) = 0) => ?_) (fun (hc1 : ¬ ((s_op (g 71 20) (s_to (g 70 2) (g 70 3) (c i) (g 79 i))) = 0)) => ?_)
    · refine q_step 10 100 [(0, .ref 70), (1, .int an), (2, .int (Int32.ofNat i)), (3, .int (s_to (g 70 2) (g 70 3) (c i) (g 79 i))), (4, .int (0 : Int32))] [.int (Int32.ofNat i), .ref 75, .int (Int32.ofNat i), .ref 75] (s_N c wt g) u (fun big n0 => sg_rs_50 big n0 (s_N c wt g) u an (Int32.ofNat i) (s_to (g 70 2) (g 70 3) (c i) (g 79 i))) ?_
      refine q_iald (j := i) (q_ixn (by omega) (by omega)) rfl rfl ?_
      refine q_iast (j := i) (q_ixn (by omega) (by omega)) rfl rfl ?_
      refine q_step 6 122 [(0, .ref 70), (1, .int an), (2, .int (Int32.ofNat i)), (3, .int (s_to (g 70 2) (g 70 3) (c i) (g 79 i))), (4, .int (0 : Int32))] [.int (4 : Int32), .int (Int32.ofNat i), .ref 80] (q_up (s_N c wt g) 75 i (c i)) u (fun big n0 => sg_rs_51 big n0 (q_up (s_N c wt g) 75 i (c i)) u an (Int32.ofNat i) (s_to (g 70 2) (g 70 3) (c i) (g 79 i))) ?_
      refine q_iast (j := i) (q_ixn (by omega) (by omega)) rfl rfl ?_
      refine q_step 1 124 [(0, .ref 70), (1, .int an), (2, .int (Int32.ofNat i)), (3, .int (s_to (g 70 2) (g 70 3) (c i) (g 79 i))), (4, .int (0 : Int32))] [.int an] (q_up (q_up (s_N c wt g) 75 i (c i)) 80 i (4 : Int32)) u (fun big n0 => sg_rs_52 big n0 (q_up (q_up (s_N c wt g) 75 i (c i)) 80 i (4 : Int32)) u an (Int32.ofNat i) (s_to (g 70 2) (g 70 3) (c i) (g 79 i))) ?_
      refine q_if_ne rfl (fun (hc2 : an = 0) => ?_) (fun (hc2 : ¬ (an = 0)) => ?_)
      · refine q_step 6 31 [(0, .ref 70), (1, .int (0 : Int32)), (2, .int ((Int32.ofNat i) + (1 : Int32))), (3, .int (s_to (g 70 2) (g 70 3) (c i) (g 79 i))), (4, .int (0 : Int32))] [] (q_up (q_up (s_N c wt g) 75 i (c i)) 80 i (4 : Int32)) u (fun big n0 => sg_rs_53 big n0 (q_up (q_up (s_N c wt g) 75 i (c i)) 80 i (4 : Int32)) u an (Int32.ofNat i) (s_to (g 70 2) (g 70 3) (c i) (g 79 i))) ?_
        refine q_weak [(0, .ref 70), (1, .int (0 : Int32)), (2, .int ((Int32.ofNat i) + (1 : Int32)))] (q_sub.cons rfl (q_sub.cons rfl (q_sub.cons rfl q_sub.nil))) ?_
        unfold s_rm at hE
        rw [if_pos hc1] at hE
        rw [s_N_c, s_N_w, q_succ, s_set_same]
        rw [hc2] at hE
        exact ih (i + 1) _ _ _ (by omega) (Or.inl rfl) hE
      · refine q_step 5 31 [(0, .ref 70), (1, .int (1 : Int32)), (2, .int ((Int32.ofNat i) + (1 : Int32))), (3, .int (s_to (g 70 2) (g 70 3) (c i) (g 79 i))), (4, .int (0 : Int32))] [] (q_up (q_up (s_N c wt g) 75 i (c i)) 80 i (4 : Int32)) u (fun big n0 => sg_rs_54 big n0 (q_up (q_up (s_N c wt g) 75 i (c i)) 80 i (4 : Int32)) u an (Int32.ofNat i) (s_to (g 70 2) (g 70 3) (c i) (g 79 i))) ?_
        refine q_weak [(0, .ref 70), (1, .int (1 : Int32)), (2, .int ((Int32.ofNat i) + (1 : Int32)))] (q_sub.cons rfl (q_sub.cons rfl (q_sub.cons rfl q_sub.nil))) ?_
        unfold s_rm at hE
        rw [if_pos hc1] at hE
        rw [s_N_c, s_N_w, q_succ, s_set_same]
        rw [ha.resolve_left hc2] at hE
        exact ih (i + 1) _ _ _ (by omega) (Or.inr rfl) hE
    · refine q_step 2 66 [(0, .ref 70), (1, .int an), (2, .int (Int32.ofNat i)), (3, .int (s_to (g 70 2) (g 70 3) (c i) (g 79 i)))] [.int (s_to (g 70 2) (g 70 3) (c i) (g 79 i)), .ref 70] (s_N c wt g) u (fun big n0 => sg_rs_55 big n0 (s_N c wt g) u an (Int32.ofNat i) (s_to (g 70 2) (g 70 3) (c i) (g 79 i))) ?_
      refine q_call (M2 := 173) (rest := []) (b_rwho (s_N c wt g) u _ hn h6) (fun _ _ => rfl) ?_
      refine q_step 1 71 [(0, .ref 70), (1, .int an), (2, .int (Int32.ofNat i)), (3, .int (s_to (g 70 2) (g 70 3) (c i) (g 79 i)))] [.int (Int8.toInt32 (Int8.ofInt (-4))), .int (s_wl c (s_to (g 70 2) (g 70 3) (c i) (g 79 i)) n 0 i_none)] (s_N c wt g) u (fun big n0 => sg_rs_56 big n0 (s_N c wt g) u an (Int32.ofNat i) (s_to (g 70 2) (g 70 3) (c i) (g 79 i)) (s_wl c (s_to (g 70 2) (g 70 3) (c i) (g 79 i)) n 0 i_none)) ?_
      refine q_ic_ne rfl (fun (hc2 : (s_wl c (s_to (g 70 2) (g 70 3) (c i) (g 79 i)) n 0 i_none) = (Int8.toInt32 (Int8.ofInt (-4)))) => ?_) (fun (hc2 : ¬ ((s_wl c (s_to (g 70 2) (g 70 3) (c i) (g 79 i)) n 0 i_none) = (Int8.toInt32 (Int8.ofInt (-4))))) => ?_)
      · refine q_step 10 101 [(0, .ref 70), (1, .int an), (2, .int (Int32.ofNat i)), (3, .int (s_to (g 70 2) (g 70 3) (c i) (g 79 i))), (4, .int (1 : Int32))] [.int (s_to (g 70 2) (g 70 3) (c i) (g 79 i)), .int (Int32.ofNat i), .ref 75] (s_N c wt g) u (fun big n0 => sg_rs_57 big n0 (s_N c wt g) u an (Int32.ofNat i) (s_to (g 70 2) (g 70 3) (c i) (g 79 i))) ?_
        refine q_iast (j := i) (q_ixn (by omega) (by omega)) rfl rfl ?_
        refine q_step 8 117 [(0, .ref 70), (1, .int an), (2, .int (Int32.ofNat i)), (3, .int (s_to (g 70 2) (g 70 3) (c i) (g 79 i))), (4, .int (1 : Int32))] [.int (Int32.ofNat i), .ref 79, .int (Int32.ofNat i), .ref 80] (q_up (s_N c wt g) 75 i (s_to (g 70 2) (g 70 3) (c i) (g 79 i))) u (fun big n0 => sg_rs_58 big n0 (q_up (s_N c wt g) 75 i (s_to (g 70 2) (g 70 3) (c i) (g 79 i))) u an (Int32.ofNat i) (s_to (g 70 2) (g 70 3) (c i) (g 79 i))) ?_
        refine q_iald (j := i) (q_ixn (by omega) (by omega)) rfl rfl ?_
        refine q_step 1 122 [(0, .ref 70), (1, .int an), (2, .int (Int32.ofNat i)), (3, .int (s_to (g 70 2) (g 70 3) (c i) (g 79 i))), (4, .int (1 : Int32))] [.int ((s_N c wt g) 79 i), .int (Int32.ofNat i), .ref 80] (q_up (s_N c wt g) 75 i (s_to (g 70 2) (g 70 3) (c i) (g 79 i))) u (fun big n0 => sg_rs_59 big n0 (q_up (s_N c wt g) 75 i (s_to (g 70 2) (g 70 3) (c i) (g 79 i))) u an (Int32.ofNat i) (s_to (g 70 2) (g 70 3) (c i) (g 79 i)) (Int32.ofNat i) ((s_N c wt g) 79 i)) ?_
        refine q_iast (j := i) (q_ixn (by omega) (by omega)) rfl rfl ?_
        refine q_step 1 124 [(0, .ref 70), (1, .int an), (2, .int (Int32.ofNat i)), (3, .int (s_to (g 70 2) (g 70 3) (c i) (g 79 i))), (4, .int (1 : Int32))] [.int an] (q_up (q_up (s_N c wt g) 75 i (s_to (g 70 2) (g 70 3) (c i) (g 79 i))) 80 i ((s_N c wt g) 79 i)) u (fun big n0 => sg_rs_60 big n0 (q_up (q_up (s_N c wt g) 75 i (s_to (g 70 2) (g 70 3) (c i) (g 79 i))) 80 i ((s_N c wt g) 79 i)) u an (Int32.ofNat i) (s_to (g 70 2) (g 70 3) (c i) (g 79 i))) ?_
        refine q_if_ne rfl (fun (hc3 : an = 0) => ?_) (fun (hc3 : ¬ (an = 0)) => ?_)
        · refine q_step 7 31 [(0, .ref 70), (1, .int (1 : Int32)), (2, .int ((Int32.ofNat i) + (1 : Int32))), (3, .int (s_to (g 70 2) (g 70 3) (c i) (g 79 i))), (4, .int (1 : Int32))] [] (q_up (q_up (s_N c wt g) 75 i (s_to (g 70 2) (g 70 3) (c i) (g 79 i))) 80 i ((s_N c wt g) 79 i)) u (fun big n0 => sg_rs_61 big n0 (q_up (q_up (s_N c wt g) 75 i (s_to (g 70 2) (g 70 3) (c i) (g 79 i))) 80 i ((s_N c wt g) 79 i)) u an (Int32.ofNat i) (s_to (g 70 2) (g 70 3) (c i) (g 79 i))) ?_
          refine q_weak [(0, .ref 70), (1, .int (1 : Int32)), (2, .int ((Int32.ofNat i) + (1 : Int32)))] (q_sub.cons rfl (q_sub.cons rfl (q_sub.cons rfl q_sub.nil))) ?_
          unfold s_rm at hE
          rw [if_neg hc1, if_pos hc2] at hE
          rw [s_N_c, s_N_w, q_succ]
          exact ih (i + 1) _ _ _ (by omega) (Or.inr rfl) hE
        · refine q_step 5 31 [(0, .ref 70), (1, .int (1 : Int32)), (2, .int ((Int32.ofNat i) + (1 : Int32))), (3, .int (s_to (g 70 2) (g 70 3) (c i) (g 79 i))), (4, .int (1 : Int32))] [] (q_up (q_up (s_N c wt g) 75 i (s_to (g 70 2) (g 70 3) (c i) (g 79 i))) 80 i ((s_N c wt g) 79 i)) u (fun big n0 => sg_rs_62 big n0 (q_up (q_up (s_N c wt g) 75 i (s_to (g 70 2) (g 70 3) (c i) (g 79 i))) 80 i ((s_N c wt g) 79 i)) u an (Int32.ofNat i) (s_to (g 70 2) (g 70 3) (c i) (g 79 i))) ?_
          refine q_weak [(0, .ref 70), (1, .int (1 : Int32)), (2, .int ((Int32.ofNat i) + (1 : Int32)))] (q_sub.cons rfl (q_sub.cons rfl (q_sub.cons rfl q_sub.nil))) ?_
          unfold s_rm at hE
          rw [if_neg hc1, if_pos hc2] at hE
          rw [s_N_c, s_N_w, q_succ]
          exact ih (i + 1) _ _ _ (by omega) (Or.inr rfl) hE
      · refine q_step 10 100 [(0, .ref 70), (1, .int an), (2, .int (Int32.ofNat i)), (3, .int (s_to (g 70 2) (g 70 3) (c i) (g 79 i))), (4, .int (0 : Int32))] [.int (Int32.ofNat i), .ref 75, .int (Int32.ofNat i), .ref 75] (s_N c wt g) u (fun big n0 => sg_rs_50 big n0 (s_N c wt g) u an (Int32.ofNat i) (s_to (g 70 2) (g 70 3) (c i) (g 79 i))) ?_
        refine q_iald (j := i) (q_ixn (by omega) (by omega)) rfl rfl ?_
        refine q_iast (j := i) (q_ixn (by omega) (by omega)) rfl rfl ?_
        refine q_step 6 122 [(0, .ref 70), (1, .int an), (2, .int (Int32.ofNat i)), (3, .int (s_to (g 70 2) (g 70 3) (c i) (g 79 i))), (4, .int (0 : Int32))] [.int (4 : Int32), .int (Int32.ofNat i), .ref 80] (q_up (s_N c wt g) 75 i (c i)) u (fun big n0 => sg_rs_51 big n0 (q_up (s_N c wt g) 75 i (c i)) u an (Int32.ofNat i) (s_to (g 70 2) (g 70 3) (c i) (g 79 i))) ?_
        refine q_iast (j := i) (q_ixn (by omega) (by omega)) rfl rfl ?_
        refine q_step 1 124 [(0, .ref 70), (1, .int an), (2, .int (Int32.ofNat i)), (3, .int (s_to (g 70 2) (g 70 3) (c i) (g 79 i))), (4, .int (0 : Int32))] [.int an] (q_up (q_up (s_N c wt g) 75 i (c i)) 80 i (4 : Int32)) u (fun big n0 => sg_rs_52 big n0 (q_up (q_up (s_N c wt g) 75 i (c i)) 80 i (4 : Int32)) u an (Int32.ofNat i) (s_to (g 70 2) (g 70 3) (c i) (g 79 i))) ?_
        refine q_if_ne rfl (fun (hc3 : an = 0) => ?_) (fun (hc3 : ¬ (an = 0)) => ?_)
        · refine q_step 6 31 [(0, .ref 70), (1, .int (0 : Int32)), (2, .int ((Int32.ofNat i) + (1 : Int32))), (3, .int (s_to (g 70 2) (g 70 3) (c i) (g 79 i))), (4, .int (0 : Int32))] [] (q_up (q_up (s_N c wt g) 75 i (c i)) 80 i (4 : Int32)) u (fun big n0 => sg_rs_53 big n0 (q_up (q_up (s_N c wt g) 75 i (c i)) 80 i (4 : Int32)) u an (Int32.ofNat i) (s_to (g 70 2) (g 70 3) (c i) (g 79 i))) ?_
          refine q_weak [(0, .ref 70), (1, .int (0 : Int32)), (2, .int ((Int32.ofNat i) + (1 : Int32)))] (q_sub.cons rfl (q_sub.cons rfl (q_sub.cons rfl q_sub.nil))) ?_
          unfold s_rm at hE
          rw [if_neg hc1, if_neg hc2] at hE
          rw [s_N_c, s_N_w, q_succ, s_set_same]
          rw [hc3] at hE
          exact ih (i + 1) _ _ _ (by omega) (Or.inl rfl) hE
        · refine q_step 5 31 [(0, .ref 70), (1, .int (1 : Int32)), (2, .int ((Int32.ofNat i) + (1 : Int32))), (3, .int (s_to (g 70 2) (g 70 3) (c i) (g 79 i))), (4, .int (0 : Int32))] [] (q_up (q_up (s_N c wt g) 75 i (c i)) 80 i (4 : Int32)) u (fun big n0 => sg_rs_54 big n0 (q_up (q_up (s_N c wt g) 75 i (c i)) 80 i (4 : Int32)) u an (Int32.ofNat i) (s_to (g 70 2) (g 70 3) (c i) (g 79 i))) ?_
          refine q_weak [(0, .ref 70), (1, .int (1 : Int32)), (2, .int ((Int32.ofNat i) + (1 : Int32)))] (q_sub.cons rfl (q_sub.cons rfl (q_sub.cons rfl q_sub.nil))) ?_
          unfold s_rm at hE
          rw [if_neg hc1, if_neg hc2] at hE
          rw [s_N_c, s_N_w, q_succ, s_set_same]
          rw [ha.resolve_left hc3] at hE
          exact ih (i + 1) _ _ _ (by omega) (Or.inr rfl) hE
theorem r3_l (g : qM) (u : qW) {Q : Option Value × qM × qW → Prop} {n : Nat} {an : Int32} (hn : g 70 27 = Int32.ofNat n) (h6 : n ≤ 6) (hw : g 70 2 ≠ 0) : ∀ k i, i + k = n → q_EV m_191 176 [(0, .ref 70), (1, .int an), (2, .int (0 : Int32))] [] (s_row_ 81 (fun p => if s_pr (g 70 2) (g 70 3) (g 71 25) (g 75) (g 76) n p = 0 then (0 : Int32) else 1) n g) u Q → q_EV m_191 146 [(0, .ref 70), (1, .int an), (2, .int (Int32.ofNat i))] [] (s_row_ 81 (fun p => if s_pr (g 70 2) (g 70 3) (g 71 25) (g 75) (g 76) n p = 0 then (0 : Int32) else 1) i g) u Q := by
  intro k
  induction k with
  | zero =>
    intro i hi hE
    refine q_step 3 151 [(0, .ref 70), (1, .int an), (2, .int (Int32.ofNat i))] [.int (g 70 27), .int (Int32.ofNat i)] (s_row_ 81 (fun p => if s_pr (g 70 2) (g 70 3) (g 71 25) (g 75) (g 76) n p = 0 then (0 : Int32) else 1) i g) u (fun big n0 => sg_rs_63 big n0 (s_row_ 81 (fun p => if s_pr (g 70 2) (g 70 3) (g 71 25) (g 75) (g 76) n p = 0 then (0 : Int32) else 1) i g) u an (Int32.ofNat i)) ?_
    refine q_ic_ge rfl (fun (hc0 : (g 70 27) ≤ (Int32.ofNat i)) => ?_) (fun hc0 => absurd (show (g 70 27) ≤ (Int32.ofNat i) from by rw [hn, q_le (by omega) (by omega)]; omega) hc0)
    refine q_step 2 176 [(0, .ref 70), (1, .int an), (2, .int (0 : Int32))] [] (s_row_ 81 (fun p => if s_pr (g 70 2) (g 70 3) (g 71 25) (g 75) (g 76) n p = 0 then (0 : Int32) else 1) i g) u (fun big n0 => sg_rs_64 big n0 (s_row_ 81 (fun p => if s_pr (g 70 2) (g 70 3) (g 71 25) (g 75) (g 76) n p = 0 then (0 : Int32) else 1) i g) u an (Int32.ofNat i)) ?_
    have e : i = n := by omega
    subst e
    exact hE
  | succ k ih =>
    intro i hi hE
    refine q_step 3 151 [(0, .ref 70), (1, .int an), (2, .int (Int32.ofNat i))] [.int (g 70 27), .int (Int32.ofNat i)] (s_row_ 81 (fun p => if s_pr (g 70 2) (g 70 3) (g 71 25) (g 75) (g 76) n p = 0 then (0 : Int32) else 1) i g) u (fun big n0 => sg_rs_63 big n0 (s_row_ 81 (fun p => if s_pr (g 70 2) (g 70 3) (g 71 25) (g 75) (g 76) n p = 0 then (0 : Int32) else 1) i g) u an (Int32.ofNat i)) ?_
    refine q_ic_ge rfl (fun hc0 => absurd (show (g 70 27) ≤ (Int32.ofNat i) from hc0) (fun z => by rw [hn, q_le (by omega) (by omega)] at z; omega)) (fun (hc0 : ¬ ((g 70 27) ≤ (Int32.ofNat i))) => ?_)
    refine q_step 5 161 [(0, .ref 70), (1, .int an), (2, .int (Int32.ofNat i))] [.int (Int32.ofNat i), .ref 70, .int (Int32.ofNat i), .ref 81] (s_row_ 81 (fun p => if s_pr (g 70 2) (g 70 3) (g 71 25) (g 75) (g 76) n p = 0 then (0 : Int32) else 1) i g) u (fun big n0 => sg_rs_65 big n0 (s_row_ 81 (fun p => if s_pr (g 70 2) (g 70 3) (g 71 25) (g 75) (g 76) n p = 0 then (0 : Int32) else 1) i g) u an (Int32.ofNat i)) ?_
    refine q_call (M2 := 193) (rest := [.int (Int32.ofNat i), .ref 81]) (b_pressed (s_row_ 81 (fun p => if s_pr (g 70 2) (g 70 3) (g 71 25) (g 75) (g 76) n p = 0 then (0 : Int32) else 1) i g) u hn h6 (show i < n by omega) hw) (fun _ _ => rfl) ?_
    refine q_call (M2 := 164) (rest := [.int (Int32.ofNat i), .ref 81]) (b_flag _ _ _) (fun _ _ => rfl) ?_
    refine q_iast (j := i) (q_ixn (by omega) (by omega)) rfl rfl ?_
    refine q_step 2 146 [(0, .ref 70), (1, .int an), (2, .int ((Int32.ofNat i) + (1 : Int32)))] [] (q_up (s_row_ 81 (fun p => if s_pr (g 70 2) (g 70 3) (g 71 25) (g 75) (g 76) n p = 0 then (0 : Int32) else 1) i g) 81 i ((fun p => if s_pr (g 70 2) (g 70 3) (g 71 25) (g 75) (g 76) n p = 0 then (0 : Int32) else 1) i)) u (fun big n0 => sg_rs_66 big n0 (q_up (s_row_ 81 (fun p => if s_pr (g 70 2) (g 70 3) (g 71 25) (g 75) (g 76) n p = 0 then (0 : Int32) else 1) i g) 81 i ((fun p => if s_pr (g 70 2) (g 70 3) (g 71 25) (g 75) (g 76) n p = 0 then (0 : Int32) else 1) i)) u an (Int32.ofNat i)) ?_
    rw [q_succ, s_row_s]
    exact ih (i + 1) (by omega) hE
theorem r4_l (g : qM) (u : qW) {n : Nat} (hn : g 70 27 = Int32.ofNat n) (h6 : n ≤ 6) : ∀ k i an, i + k = n → an = 0 ∨ an = 1 → q_EV m_191 176 [(0, .ref 70), (1, .int an), (2, .int (Int32.ofNat i))] [] (s_row_ 76 (fun p => if g 81 p = 1 then s_fd (g 76 p) else g 76 p) i g) u (fun R => R = (some (.int (s_ra (g 81) k i an)), s_row_ 76 (fun p => if g 81 p = 1 then s_fd (g 76 p) else g 76 p) n g, u)) := by
  intro k
  induction k with
  | zero =>
    intro i an hi ha
    refine q_step 3 181 [(0, .ref 70), (1, .int an), (2, .int (Int32.ofNat i))] [.int (g 70 27), .int (Int32.ofNat i)] (s_row_ 76 (fun p => if g 81 p = 1 then s_fd (g 76 p) else g 76 p) i g) u (fun big n0 => sg_rs_67 big n0 (s_row_ 76 (fun p => if g 81 p = 1 then s_fd (g 76 p) else g 76 p) i g) u an (Int32.ofNat i)) ?_
    refine q_ic_ge rfl (fun (hc0 : (g 70 27) ≤ (Int32.ofNat i)) => ?_) (fun hc0 => absurd (show (g 70 27) ≤ (Int32.ofNat i) from by rw [hn, q_le (by omega) (by omega)]; omega) hc0)
    have e : i = n := by omega
    subst e
    rcases ha with rfl | rfl
    · exact q_ret 2 (some (.int 0), (s_row_ 76 (fun p => if g 81 p = 1 then s_fd (g 76 p) else g 76 p) i g), u) (fun _ _ => rfl) rfl
    · exact q_ret 2 (some (.int 1), (s_row_ 76 (fun p => if g 81 p = 1 then s_fd (g 76 p) else g 76 p) i g), u) (fun _ _ => rfl) rfl
  | succ k ih =>
    intro i an hi ha
    have er : (s_row_ 76 (fun p => if g 81 p = 1 then s_fd (g 76 p) else g 76 p) i g) 76 i = g 76 i := if_neg (Nat.lt_irrefl i)
    refine q_step 3 181 [(0, .ref 70), (1, .int an), (2, .int (Int32.ofNat i))] [.int (g 70 27), .int (Int32.ofNat i)] (s_row_ 76 (fun p => if g 81 p = 1 then s_fd (g 76 p) else g 76 p) i g) u (fun big n0 => sg_rs_67 big n0 (s_row_ 76 (fun p => if g 81 p = 1 then s_fd (g 76 p) else g 76 p) i g) u an (Int32.ofNat i)) ?_
    refine q_ic_ge rfl (fun hc0 => absurd (show (g 70 27) ≤ (Int32.ofNat i) from hc0) (fun z => by rw [hn, q_le (by omega) (by omega)] at z; omega)) (fun (hc0 : ¬ ((g 70 27) ≤ (Int32.ofNat i))) => ?_)
    refine q_step 1 185 [(0, .ref 70), (1, .int an), (2, .int (Int32.ofNat i))] [.int an] (s_row_ 76 (fun p => if g 81 p = 1 then s_fd (g 76 p) else g 76 p) i g) u (fun big n0 => sg_rs_68 big n0 (s_row_ 76 (fun p => if g 81 p = 1 then s_fd (g 76 p) else g 76 p) i g) u an (Int32.ofNat i)) ?_
    refine q_if_ne rfl (fun (hc1 : an = 0) => ?_) (fun (hc1 : ¬ (an = 0)) => ?_)
    · refine q_step 3 193 [(0, .ref 70), (1, .int an), (2, .int (Int32.ofNat i))] [.int (Int32.ofNat i), .ref 81] (s_row_ 76 (fun p => if g 81 p = 1 then s_fd (g 76 p) else g 76 p) i g) u (fun big n0 => sg_rs_69 big n0 (s_row_ 76 (fun p => if g 81 p = 1 then s_fd (g 76 p) else g 76 p) i g) u an (Int32.ofNat i)) ?_
      refine q_iald (j := i) (q_ixn (by omega) (by omega)) rfl rfl ?_
      refine q_step 1 195 [(0, .ref 70), (1, .int an), (2, .int (Int32.ofNat i))] [.int (1 : Int32), .int (g 81 i)] (s_row_ 76 (fun p => if g 81 p = 1 then s_fd (g 76 p) else g 76 p) i g) u (fun big n0 => sg_rs_70 big n0 (s_row_ 76 (fun p => if g 81 p = 1 then s_fd (g 76 p) else g 76 p) i g) u an (Int32.ofNat i) (g 81 i)) ?_
      refine q_ic_ne rfl (fun (hc2 : (g 81 i) = (1 : Int32)) => ?_) (fun (hc2 : ¬ ((g 81 i) = (1 : Int32))) => ?_)
      · refine q_step 9 214 [(0, .ref 70), (1, .int (1 : Int32)), (2, .int (Int32.ofNat i))] [.int (Int32.ofNat i), .ref 81, .int (Int32.ofNat i), .ref 76] (s_row_ 76 (fun p => if g 81 p = 1 then s_fd (g 76 p) else g 76 p) i g) u (fun big n0 => sg_rs_71 big n0 (s_row_ 76 (fun p => if g 81 p = 1 then s_fd (g 76 p) else g 76 p) i g) u an (Int32.ofNat i)) ?_
        refine q_iald (j := i) (q_ixn (by omega) (by omega)) rfl rfl ?_
        refine q_step 1 216 [(0, .ref 70), (1, .int (1 : Int32)), (2, .int (Int32.ofNat i))] [.int (1 : Int32), .int (g 81 i), .int (Int32.ofNat i), .ref 76] (s_row_ 76 (fun p => if g 81 p = 1 then s_fd (g 76 p) else g 76 p) i g) u (fun big n0 => sg_rs_72 big n0 (s_row_ 76 (fun p => if g 81 p = 1 then s_fd (g 76 p) else g 76 p) i g) u (Int32.ofNat i) (Int32.ofNat i) (g 81 i)) ?_
        refine q_ic_ne rfl (fun (hc3 : (g 81 i) = (1 : Int32)) => ?_) (fun hc3 => absurd (show (g 81 i) = (1 : Int32) from hc2) hc3)
        refine q_step 3 224 [(0, .ref 70), (1, .int (1 : Int32)), (2, .int (Int32.ofNat i))] [.int (Int32.ofNat i), .ref 76, .int (Int32.ofNat i), .ref 76] (s_row_ 76 (fun p => if g 81 p = 1 then s_fd (g 76 p) else g 76 p) i g) u (fun big n0 => sg_rs_73 big n0 (s_row_ 76 (fun p => if g 81 p = 1 then s_fd (g 76 p) else g 76 p) i g) u (Int32.ofNat i) (Int32.ofNat i)) ?_
        refine q_iald (j := i) (q_ixn (by omega) (by omega)) rfl rfl ?_
        refine q_call (M2 := 194) (rest := [.int (Int32.ofNat i), .ref 76]) (b_fd _ _ _) (fun _ _ => rfl) ?_
        refine q_step 1 237 [(0, .ref 70), (1, .int (1 : Int32)), (2, .int (Int32.ofNat i))] [.int (s_fd ((s_row_ 76 (fun p => if g 81 p = 1 then s_fd (g 76 p) else g 76 p) i g) 76 i)), .int (Int32.ofNat i), .ref 76] (s_row_ 76 (fun p => if g 81 p = 1 then s_fd (g 76 p) else g 76 p) i g) u (fun big n0 => sg_rs_74 big n0 (s_row_ 76 (fun p => if g 81 p = 1 then s_fd (g 76 p) else g 76 p) i g) u (Int32.ofNat i) (Int32.ofNat i) (s_fd ((s_row_ 76 (fun p => if g 81 p = 1 then s_fd (g 76 p) else g 76 p) i g) 76 i))) ?_
        refine q_iast (j := i) (q_ixn (by omega) (by omega)) rfl rfl ?_
        refine q_step 2 176 [(0, .ref 70), (1, .int (1 : Int32)), (2, .int ((Int32.ofNat i) + (1 : Int32)))] [] (q_up (s_row_ 76 (fun p => if g 81 p = 1 then s_fd (g 76 p) else g 76 p) i g) 76 i (s_fd ((s_row_ 76 (fun p => if g 81 p = 1 then s_fd (g 76 p) else g 76 p) i g) 76 i))) u (fun big n0 => sg_rs_75 big n0 (q_up (s_row_ 76 (fun p => if g 81 p = 1 then s_fd (g 76 p) else g 76 p) i g) 76 i (s_fd ((s_row_ 76 (fun p => if g 81 p = 1 then s_fd (g 76 p) else g 76 p) i g) 76 i))) u (Int32.ofNat i)) ?_
        unfold s_ra
        rw [if_pos hc1, if_pos hc2]
        rw [q_succ, er, show s_fd (g 76 i) = (fun p => if g 81 p = 1 then s_fd (g 76 p) else g 76 p) i from (if_pos hc2).symm, s_row_s]
        exact ih (i + 1) _ (by omega) (Or.inr rfl)
      · refine q_step 8 214 [(0, .ref 70), (1, .int (0 : Int32)), (2, .int (Int32.ofNat i))] [.int (Int32.ofNat i), .ref 81, .int (Int32.ofNat i), .ref 76] (s_row_ 76 (fun p => if g 81 p = 1 then s_fd (g 76 p) else g 76 p) i g) u (fun big n0 => sg_rs_76 big n0 (s_row_ 76 (fun p => if g 81 p = 1 then s_fd (g 76 p) else g 76 p) i g) u an (Int32.ofNat i)) ?_
        refine q_iald (j := i) (q_ixn (by omega) (by omega)) rfl rfl ?_
        refine q_step 1 216 [(0, .ref 70), (1, .int (0 : Int32)), (2, .int (Int32.ofNat i))] [.int (1 : Int32), .int (g 81 i), .int (Int32.ofNat i), .ref 76] (s_row_ 76 (fun p => if g 81 p = 1 then s_fd (g 76 p) else g 76 p) i g) u (fun big n0 => sg_rs_77 big n0 (s_row_ 76 (fun p => if g 81 p = 1 then s_fd (g 76 p) else g 76 p) i g) u (Int32.ofNat i) (Int32.ofNat i) (g 81 i)) ?_
        refine q_ic_ne rfl (fun hc3 => absurd (show (g 81 i) = (1 : Int32) from hc3) (hc2)) (fun (hc3 : ¬ ((g 81 i) = (1 : Int32))) => ?_)
        refine q_step 3 236 [(0, .ref 70), (1, .int (0 : Int32)), (2, .int (Int32.ofNat i))] [.int (Int32.ofNat i), .ref 76, .int (Int32.ofNat i), .ref 76] (s_row_ 76 (fun p => if g 81 p = 1 then s_fd (g 76 p) else g 76 p) i g) u (fun big n0 => sg_rs_78 big n0 (s_row_ 76 (fun p => if g 81 p = 1 then s_fd (g 76 p) else g 76 p) i g) u (Int32.ofNat i) (Int32.ofNat i)) ?_
        refine q_iald (j := i) (q_ixn (by omega) (by omega)) rfl rfl ?_
        refine q_iast (j := i) (q_ixn (by omega) (by omega)) rfl rfl ?_
        refine q_step 2 176 [(0, .ref 70), (1, .int (0 : Int32)), (2, .int ((Int32.ofNat i) + (1 : Int32)))] [] (q_up (s_row_ 76 (fun p => if g 81 p = 1 then s_fd (g 76 p) else g 76 p) i g) 76 i ((s_row_ 76 (fun p => if g 81 p = 1 then s_fd (g 76 p) else g 76 p) i g) 76 i)) u (fun big n0 => sg_rs_79 big n0 (q_up (s_row_ 76 (fun p => if g 81 p = 1 then s_fd (g 76 p) else g 76 p) i g) 76 i ((s_row_ 76 (fun p => if g 81 p = 1 then s_fd (g 76 p) else g 76 p) i g) 76 i)) u (Int32.ofNat i)) ?_
        unfold s_ra
        rw [if_pos hc1, if_neg hc2]
        rw [q_succ, er, show g 76 i = (fun p => if g 81 p = 1 then s_fd (g 76 p) else g 76 p) i from (if_neg hc2).symm, s_row_s]
        exact ih (i + 1) _ (by omega) (Or.inl rfl)
    · refine q_step 9 214 [(0, .ref 70), (1, .int (1 : Int32)), (2, .int (Int32.ofNat i))] [.int (Int32.ofNat i), .ref 81, .int (Int32.ofNat i), .ref 76] (s_row_ 76 (fun p => if g 81 p = 1 then s_fd (g 76 p) else g 76 p) i g) u (fun big n0 => sg_rs_71 big n0 (s_row_ 76 (fun p => if g 81 p = 1 then s_fd (g 76 p) else g 76 p) i g) u an (Int32.ofNat i)) ?_
      refine q_iald (j := i) (q_ixn (by omega) (by omega)) rfl rfl ?_
      refine q_step 1 216 [(0, .ref 70), (1, .int (1 : Int32)), (2, .int (Int32.ofNat i))] [.int (1 : Int32), .int (g 81 i), .int (Int32.ofNat i), .ref 76] (s_row_ 76 (fun p => if g 81 p = 1 then s_fd (g 76 p) else g 76 p) i g) u (fun big n0 => sg_rs_72 big n0 (s_row_ 76 (fun p => if g 81 p = 1 then s_fd (g 76 p) else g 76 p) i g) u (Int32.ofNat i) (Int32.ofNat i) (g 81 i)) ?_
      refine q_ic_ne rfl (fun (hc2 : (g 81 i) = (1 : Int32)) => ?_) (fun (hc2 : ¬ ((g 81 i) = (1 : Int32))) => ?_)
      · refine q_step 3 224 [(0, .ref 70), (1, .int (1 : Int32)), (2, .int (Int32.ofNat i))] [.int (Int32.ofNat i), .ref 76, .int (Int32.ofNat i), .ref 76] (s_row_ 76 (fun p => if g 81 p = 1 then s_fd (g 76 p) else g 76 p) i g) u (fun big n0 => sg_rs_73 big n0 (s_row_ 76 (fun p => if g 81 p = 1 then s_fd (g 76 p) else g 76 p) i g) u (Int32.ofNat i) (Int32.ofNat i)) ?_
        refine q_iald (j := i) (q_ixn (by omega) (by omega)) rfl rfl ?_
        refine q_call (M2 := 194) (rest := [.int (Int32.ofNat i), .ref 76]) (b_fd _ _ _) (fun _ _ => rfl) ?_
        refine q_step 1 237 [(0, .ref 70), (1, .int (1 : Int32)), (2, .int (Int32.ofNat i))] [.int (s_fd ((s_row_ 76 (fun p => if g 81 p = 1 then s_fd (g 76 p) else g 76 p) i g) 76 i)), .int (Int32.ofNat i), .ref 76] (s_row_ 76 (fun p => if g 81 p = 1 then s_fd (g 76 p) else g 76 p) i g) u (fun big n0 => sg_rs_74 big n0 (s_row_ 76 (fun p => if g 81 p = 1 then s_fd (g 76 p) else g 76 p) i g) u (Int32.ofNat i) (Int32.ofNat i) (s_fd ((s_row_ 76 (fun p => if g 81 p = 1 then s_fd (g 76 p) else g 76 p) i g) 76 i))) ?_
        refine q_iast (j := i) (q_ixn (by omega) (by omega)) rfl rfl ?_
        refine q_step 2 176 [(0, .ref 70), (1, .int (1 : Int32)), (2, .int ((Int32.ofNat i) + (1 : Int32)))] [] (q_up (s_row_ 76 (fun p => if g 81 p = 1 then s_fd (g 76 p) else g 76 p) i g) 76 i (s_fd ((s_row_ 76 (fun p => if g 81 p = 1 then s_fd (g 76 p) else g 76 p) i g) 76 i))) u (fun big n0 => sg_rs_75 big n0 (q_up (s_row_ 76 (fun p => if g 81 p = 1 then s_fd (g 76 p) else g 76 p) i g) 76 i (s_fd ((s_row_ 76 (fun p => if g 81 p = 1 then s_fd (g 76 p) else g 76 p) i g) 76 i))) u (Int32.ofNat i)) ?_
        unfold s_ra
        rw [if_neg hc1]
        rw [q_succ, er, show s_fd (g 76 i) = (fun p => if g 81 p = 1 then s_fd (g 76 p) else g 76 p) i from (if_pos hc2).symm, s_row_s]
        exact ih (i + 1) _ (by omega) (Or.inr rfl)
      · refine q_step 3 236 [(0, .ref 70), (1, .int (1 : Int32)), (2, .int (Int32.ofNat i))] [.int (Int32.ofNat i), .ref 76, .int (Int32.ofNat i), .ref 76] (s_row_ 76 (fun p => if g 81 p = 1 then s_fd (g 76 p) else g 76 p) i g) u (fun big n0 => sg_rs_80 big n0 (s_row_ 76 (fun p => if g 81 p = 1 then s_fd (g 76 p) else g 76 p) i g) u (Int32.ofNat i) (Int32.ofNat i)) ?_
        refine q_iald (j := i) (q_ixn (by omega) (by omega)) rfl rfl ?_
        refine q_iast (j := i) (q_ixn (by omega) (by omega)) rfl rfl ?_
        refine q_step 2 176 [(0, .ref 70), (1, .int (1 : Int32)), (2, .int ((Int32.ofNat i) + (1 : Int32)))] [] (q_up (s_row_ 76 (fun p => if g 81 p = 1 then s_fd (g 76 p) else g 76 p) i g) 76 i ((s_row_ 76 (fun p => if g 81 p = 1 then s_fd (g 76 p) else g 76 p) i g) 76 i)) u (fun big n0 => sg_rs_75 big n0 (q_up (s_row_ 76 (fun p => if g 81 p = 1 then s_fd (g 76 p) else g 76 p) i g) 76 i ((s_row_ 76 (fun p => if g 81 p = 1 then s_fd (g 76 p) else g 76 p) i g) 76 i)) u (Int32.ofNat i)) ?_
        unfold s_ra
        rw [if_neg hc1]
        rw [q_succ, er, show g 76 i = (fun p => if g 81 p = 1 then s_fd (g 76 p) else g 76 p) i from (if_neg hc2).symm, s_row_s]
        exact ih (i + 1) _ (by omega) (Or.inr rfl)
