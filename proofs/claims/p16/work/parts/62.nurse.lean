/-! NURSE. -/
theorem w_ok_md {n W H p : Nat} {x : Int32} {r : qM} (h : w_ok n W H r) (hx : x = 0 ∨ x = 1 ∨ x = 2 ∨ x = 3) : w_ok n W H (q_up r 76 p x) := by
  obtain ⟨b, h1, h2, h3, h4, h5, h6, h7, h8⟩ := h
  refine ⟨b, h1, h2, h3, h4, h5, h6, fun q hq => ?_, h8⟩
  rw [q_up_at]
  split
  · exact hx
  · exact h7 q hq
theorem w_cs_md {n p : Nat} {x : Int32} {g r : qM} (hc : w_cs 35 n g r) : w_cs 35 n (q_up g 37 p x) (q_up r 76 p x) := by
  obtain ⟨c1, c6, c7⟩ := hc
  refine ⟨c1, fun d a b => c6 d a b, fun q hq => ⟨(c7 q hq).1, ?_, (c7 q hq).2.2⟩⟩
  rw [q_up_at, q_up_at, show g 37 q = r 76 q from (c7 q hq).2.1]
theorem w_sm_md {n p : Nat} {x : Int32} {g r : qM} (hs : w_sm n g r) : w_sm n (q_up g 76 p x) (q_up r 76 p x) := by
  obtain ⟨c1, c6, c7⟩ := hs
  refine ⟨c1, fun d a b => c6 d a b, fun q hq => ⟨(c7 q hq).1, ?_, (c7 q hq).2.2⟩⟩
  rw [q_up_at, q_up_at, (c7 q hq).2.1]
theorem w_tr_m {n p : Nat} {x : Int32} {g r : qM} (h : w_tr n g r) : w_tr n (q_up g 37 p x) r := h
/-- k STEPS from i on, his MOOD set ahead of each -/
def f_nu (n p row s : Nat) : Nat → Nat → qM → qM
  | 0, _, r => r
  | k + 1, i, r => f_nu n p row s k (i + 1) (s_rst n (q_up r 76 p (f_md s row i)))
theorem w_ok_nu {n W H p row s : Nat} : ∀ k i r, w_ok n W H r → w_ok n W H (f_nu n p row s k i r)
  | 0, _, _, h => h
  | k + 1, i, _, h => w_ok_nu k (i + 1) _ (w_ok_rst (w_ok_md h (s_dg_4 _ _ _)))
/-- how far two are -/
def f_far (r : qM) (a b : Nat) : Int32 := s_far (r 70 2) (r 75 b) (r 75 a)
def n_nur (n p a b : Nat) (r : qM) (s row : Nat) : Nat := if (1 : Int32) < f_far (f_nu n p row s s 0 r) a b then 1 else 0
def f_fi (R : Nat → Nat) : Nat → Nat → Option Nat
  | 0, _ => none
  | k + 1, row => if R row = 0 then f_fi R k (row + 1) else some row
def f_nof (R : Nat → Nat → Nat) : Nat → Nat → Option (Nat × Nat)
  | 0, _ => none
  | k + 1, s => match f_fi (R s) (4 ^ s) 0 with
    | some row => some (s, row)
    | none => f_nof R k (s + 1)
theorem f_fi_lt {R : Nat → Nat} : ∀ k row x, f_fi R k row = some x → x < row + k
  | 0, _, _, h => by cases h
  | k + 1, row, x, h => by
    unfold f_fi at h
    split at h
    · have := f_fi_lt k (row + 1) x h
      omega
    · cases h
      omega
theorem f_nof_lt {R : Nat → Nat → Nat} : ∀ k s a b, f_nof R k s = some (a, b) → a < s + k ∧ b < 4 ^ a
  | 0, _, _, _, h => by cases h
  | k + 1, s, a, b, h => by
    unfold f_nof at h
    split at h
    · rename_i row hr
      cases h
      have := f_fi_lt _ _ _ hr
      exact ⟨by omega, by omega⟩
    · have := f_nof_lt k (s + 1) a b h
      exact ⟨by omega, this.2⟩
def f_nur (n p a b : Nat) (r : qM) : Option (Nat × Nat) := f_nof (n_nur n p a b r) 5 0
/-- what nurse() answers: w 0, or 10 and i -/
def f_nuw (w : Nat) : Option (Nat × Nat) → Int32
  | none => i_none
  | some (s, row) => if w = 0 then Int32.ofNat s else if w - 10 < s then f_md s row (w - 10) else i_none
theorem s_44 {s : Nat} (h : s ≤ 4) : 4 ^ s ≤ 256 := Nat.pow_le_pow_right (n := 4) (by omega) h
theorem n_nur_iff {n p a b : Nat} {r : qM} {s row : Nat} : n_nur n p a b r s row = 0 ↔ f_far (f_nu n p row s s 0 r) a b ≤ 1 := by
  unfold n_nur
  split
  · rename_i h
    exact ⟨fun z => absurd z (by decide), fun z => absurd h (Int32.not_lt.mpr z)⟩
  · rename_i h
    exact ⟨fun _ => Int32.not_lt.mp h, fun _ => rfl⟩
theorem f_nuw_y {w s row : Nat} (h0 : w ≠ 0) (h : w - 10 < s) : f_nuw w (some (s, row)) = f_md s row (w - 10) := by
  show (if w = 0 then Int32.ofNat s else if w - 10 < s then f_md s row (w - 10) else i_none) = _
  rw [if_neg h0, if_pos h]
theorem f_nuw_n {w s row : Nat} (h0 : w ≠ 0) (h : ¬ w - 10 < s) : f_nuw w (some (s, row)) = i_none := by
  show (if w = 0 then Int32.ofNat s else if w - 10 < s then f_md s row (w - 10) else i_none) = _
  rw [if_neg h0, if_neg h]
theorem sg_nu_1 (big : Nat → List Value → qM → qW → qR) (n0 : Nat) (G : qM) (U : qW) (v0 : Int32) (v1 : Int32) : qm_run pm_m big m_109 (n0 + 4) 0 [(0, .ref 35), (1, .int v0), (2, .int v1)] [] G U = qm_run pm_m big m_109 n0 6 [(0, .ref 35), (1, .int v0), (2, .int v1)] [.int v0, .ref 36, .ref 35] G U := rfl
theorem sg_nu_2 (big : Nat → List Value → qM → qW → qR) (n0 : Nat) (G : qM) (U : qW) (v0 : Int32) (v1 : Int32) (v2 : Int32) : qm_run pm_m big m_109 (n0 + 4) 10 [(0, .ref 35), (1, .int v0), (2, .int v1)] [.int v2] G U = qm_run pm_m big m_109 n0 16 [(0, .ref 35), (1, .int v0), (2, .int v1)] [.int v1, .ref 36, .ref 35, .int v2] G U := rfl
theorem sg_nu_3 (big : Nat → List Value → qM → qW → qR) (n0 : Nat) (G : qM) (U : qW) (v0 : Int32) (v1 : Int32) (v2 : Int32) (v3 : Int32) : qm_run pm_m big m_109 (n0 + 1) 20 [(0, .ref 35), (1, .int v0), (2, .int v1)] [.int v3, .int v2] G U = qm_run pm_m big m_109 n0 21 [(0, .ref 35), (1, .int v0), (2, .int v1)] [.int (v2 - v3)] G U := rfl
theorem sg_nu_4 (big : Nat → List Value → qM → qW → qR) (n0 : Nat) (G : qM) (U : qW) (v0 : Int32) (v1 : Int32) (v2 : Int32) : qm_run pm_m big m_109 (n0 + 4) 24 [(0, .ref 35), (1, .int v0), (2, .int v1)] [.int v2] G U = qm_run pm_m big m_109 n0 30 [(0, .ref 35), (1, .int v0), (2, .int v1)] [.int v0, .ref 36, .ref 35, .int v2] G U := rfl
theorem sg_nu_5 (big : Nat → List Value → qM → qW → qR) (n0 : Nat) (G : qM) (U : qW) (v0 : Int32) (v1 : Int32) (v2 : Int32) (v3 : Int32) : qm_run pm_m big m_109 (n0 + 4) 34 [(0, .ref 35), (1, .int v0), (2, .int v1)] [.int v3, .int v2] G U = qm_run pm_m big m_109 n0 40 [(0, .ref 35), (1, .int v0), (2, .int v1)] [.int v1, .ref 36, .ref 35, .int v3, .int v2] G U := rfl
theorem sg_nu_6 (big : Nat → List Value → qM → qW → qR) (n0 : Nat) (G : qM) (U : qW) (v0 : Int32) (v1 : Int32) (v2 : Int32) (v3 : Int32) (v4 : Int32) : qm_run pm_m big m_109 (n0 + 1) 44 [(0, .ref 35), (1, .int v0), (2, .int v1)] [.int v4, .int v3, .int v2] G U = qm_run pm_m big m_109 n0 45 [(0, .ref 35), (1, .int v0), (2, .int v1)] [.int (v3 - v4), .int v2] G U := rfl
theorem sg_nu_7 (big : Nat → List Value → qM → qW → qR) (n0 : Nat) (G : qM) (U : qW) (v0 : Int32) (v1 : Int32) (v2 : Int32) (v3 : Int32) : qm_run pm_m big m_108 (n0 + 2) 11 [(0, .ref 34), (1, .ref 20), (2, .int v0), (3, .int v1), (4, .int v2), (5, .int v3)] [] G U = qm_run pm_m big m_108 n0 15 [(0, .ref 34), (1, .ref 20), (2, .int v0), (3, .int v1), (4, .int v2), (5, .int v3)] [.int v2, .int v3] G U := rfl
theorem sg_nu_8 (big : Nat → List Value → qM → qW → qR) (n0 : Nat) (G : qM) (U : qW) (v0 : Int32) (v1 : Int32) (v2 : Int32) (v3 : Int32) : qm_run pm_m big m_108 (n0 + 7) 18 [(0, .ref 34), (1, .ref 20), (2, .int v0), (3, .int v1), (4, .int v2), (5, .int v3)] [] G U = qm_run pm_m big m_108 n0 31 [(0, .ref 34), (1, .ref 20), (2, .int v0), (3, .int v1), (4, .int v2), (5, .int v3)] [.int v2, .int v3, .int v1, .int v0, .ref 37] G U := rfl
theorem sg_nu_9 (big : Nat → List Value → qM → qW → qR) (n0 : Nat) (G : qM) (U : qW) (v0 : Int32) (v1 : Int32) (v2 : Int32) (v3 : Int32) : qm_run pm_m big m_108 (n0 + 4) 35 [(0, .ref 34), (1, .ref 20), (2, .int v0), (3, .int v1), (4, .int v2), (5, .int v3)] [] G U = qm_run pm_m big m_108 n0 43 [(0, .ref 34), (1, .ref 20), (2, .int v0), (3, .int v1), (4, .int v2), (5, .int v3)] [.ref 35, .ref 28] G U := rfl
theorem sg_nu_10 (big : Nat → List Value → qM → qW → qR) (n0 : Nat) (G : qM) (U : qW) (v0 : Int32) (v1 : Int32) (v2 : Int32) (v3 : Int32) : qm_run pm_m big m_108 (n0 + 2) 46 [(0, .ref 34), (1, .ref 20), (2, .int v0), (3, .int v1), (4, .int v2), (5, .int v3)] [] G U = qm_run pm_m big m_108 n0 11 [(0, .ref 34), (1, .ref 20), (2, .int v0), (3, .int v1), (4, .int v2), (5, .int (v3 + (1 : Int32)))] [] G U := rfl
theorem sg_nu_11 (big : Nat → List Value → qM → qW → qR) (n0 : Nat) (G : qM) (U : qW) (v0 : Int32) (v1 : Int32) (v2 : Int32) : qm_run pm_m big m_108 (n0 + 3) 0 [(0, .ref 34), (1, .ref 20), (2, .int v0), (3, .int v1), (4, .int v2)] [] G U = qm_run pm_m big m_108 n0 5 [(0, .ref 34), (1, .ref 20), (2, .int v0), (3, .int v1), (4, .int v2)] [.ref 20, .ref 35] G U := rfl
theorem sg_nu_12 (big : Nat → List Value → qM → qW → qR) (n0 : Nat) (G : qM) (U : qW) (v0 : Int32) (v1 : Int32) (v2 : Int32) : qm_run pm_m big m_108 (n0 + 2) 8 [(0, .ref 34), (1, .ref 20), (2, .int v0), (3, .int v1), (4, .int v2)] [] G U = qm_run pm_m big m_108 n0 11 [(0, .ref 34), (1, .ref 20), (2, .int v0), (3, .int v1), (4, .int v2), (5, .int (0 : Int32))] [] G U := rfl
theorem sg_nu_13 (big : Nat → List Value → qM → qW → qR) (n0 : Nat) (G : qM) (U : qW) (v0 : Int32) (v1 : Int32) (v2 : Int32) (v3 : Int32) (v4 : Int32) : qm_run pm_m big m_107 (n0 + 2) 20 [(0, .ref 34), (1, .ref 20), (2, .int v0), (3, .int v1), (4, .int v2), (5, .int v3), (6, .int v4)] [] G U = qm_run pm_m big m_107 n0 24 [(0, .ref 34), (1, .ref 20), (2, .int v0), (3, .int v1), (4, .int v2), (5, .int v3), (6, .int v4)] [.int v3, .int v4] G U := rfl
theorem sg_nu_14 (big : Nat → List Value → qM → qW → qR) (n0 : Nat) (G : qM) (U : qW) (v0 : Int32) (v1 : Int32) (v2 : Int32) (v3 : Int32) (v4 : Int32) : qm_run pm_m big m_107 (n0 + 5) 30 [(0, .ref 34), (1, .ref 20), (2, .int v0), (3, .int v1), (4, .int v2), (5, .int v3), (6, .int v4)] [] G U = qm_run pm_m big m_107 n0 37 [(0, .ref 34), (1, .ref 20), (2, .int v0), (3, .int v1), (4, .int v2), (5, .int v3), (6, .int v4)] [.int v3, .int v4, .int v0, .ref 20, .ref 34] G U := rfl
theorem sg_nu_15 (big : Nat → List Value → qM → qW → qR) (n0 : Nat) (G : qM) (U : qW) (v0 : Int32) (v1 : Int32) (v2 : Int32) (v3 : Int32) (v4 : Int32) : qm_run pm_m big m_107 (n0 + 4) 40 [(0, .ref 34), (1, .ref 20), (2, .int v0), (3, .int v1), (4, .int v2), (5, .int v3), (6, .int v4)] [] G U = qm_run pm_m big m_107 n0 47 [(0, .ref 34), (1, .ref 20), (2, .int v0), (3, .int v1), (4, .int v2), (5, .int v3), (6, .int v4)] [.int v2, .int v1, .ref 35] G U := rfl
theorem sg_nu_16 (big : Nat → List Value → qM → qW → qR) (n0 : Nat) (G : qM) (U : qW) (v0 : Int32) (v1 : Int32) (v2 : Int32) (v3 : Int32) (v4 : Int32) (v5 : Int32) : qm_run pm_m big m_107 (n0 + 1) 50 [(0, .ref 34), (1, .ref 20), (2, .int v0), (3, .int v1), (4, .int v2), (5, .int v3), (6, .int v4)] [.int v5] G U = qm_run pm_m big m_107 n0 51 [(0, .ref 34), (1, .ref 20), (2, .int v0), (3, .int v1), (4, .int v2), (5, .int v3), (6, .int v4)] [.int (1 : Int32), .int v5] G U := rfl
theorem sg_nu_17 (big : Nat → List Value → qM → qW → qR) (n0 : Nat) (G : qM) (U : qW) (v0 : Int32) (v1 : Int32) (v2 : Int32) (v3 : Int32) (v4 : Int32) : qm_run pm_m big m_107 (n0 + 2) 64 [(0, .ref 34), (1, .ref 20), (2, .int v0), (3, .int v1), (4, .int v2), (5, .int v3), (6, .int v4)] [] G U = qm_run pm_m big m_107 n0 20 [(0, .ref 34), (1, .ref 20), (2, .int v0), (3, .int v1), (4, .int v2), (5, .int v3), (6, .int (v4 + (1 : Int32)))] [] G U := rfl
theorem sg_nu_18 (big : Nat → List Value → qM → qW → qR) (n0 : Nat) (G : qM) (U : qW) (v0 : Int32) (v1 : Int32) (v2 : Int32) (v3 : Int32) : qm_run pm_m big m_107 (n0 + 2) 11 [(0, .ref 34), (1, .ref 20), (2, .int v0), (3, .int v1), (4, .int v2), (5, .int v3)] [] G U = qm_run pm_m big m_107 n0 14 [(0, .ref 34), (1, .ref 20), (2, .int v0), (3, .int v1), (4, .int v2), (5, .int v3)] [.int (4 : Int32), .int v3] G U := rfl
theorem sg_nu_19 (big : Nat → List Value → qM → qW → qR) (n0 : Nat) (G : qM) (U : qW) (v0 : Int32) (v1 : Int32) (v2 : Int32) (v3 : Int32) : qm_run pm_m big m_107 (n0 + 2) 17 [(0, .ref 34), (1, .ref 20), (2, .int v0), (3, .int v1), (4, .int v2), (5, .int v3)] [] G U = qm_run pm_m big m_107 n0 20 [(0, .ref 34), (1, .ref 20), (2, .int v0), (3, .int v1), (4, .int v2), (5, .int v3), (6, .int (0 : Int32))] [] G U := rfl
theorem sg_nu_20 (big : Nat → List Value → qM → qW → qR) (n0 : Nat) (G : qM) (U : qW) (v0 : Int32) (v1 : Int32) (v2 : Int32) (v3 : Int32) (v4 : Int32) : qm_run pm_m big m_107 (n0 + 2) 70 [(0, .ref 34), (1, .ref 20), (2, .int v0), (3, .int v1), (4, .int v2), (5, .int v3), (6, .int v4)] [] G U = qm_run pm_m big m_107 n0 11 [(0, .ref 34), (1, .ref 20), (2, .int v0), (3, .int v1), (4, .int v2), (5, .int (v3 + (1 : Int32))), (6, .int v4)] [] G U := rfl
theorem sg_nu_21 (big : Nat → List Value → qM → qW → qR) (n0 : Nat) (G : qM) (U : qW) (v0 : Int32) (v1 : Int32) (v2 : Int32) : qm_run pm_m big m_107 (n0 + 3) 0 [(0, .ref 34), (1, .ref 20), (2, .int v0), (3, .int v1), (4, .int v2)] [] G U = qm_run pm_m big m_107 n0 5 [(0, .ref 34), (1, .ref 20), (2, .int v0), (3, .int v1), (4, .int v2)] [.ref 20, .ref 35] G U := rfl
theorem sg_nu_22 (big : Nat → List Value → qM → qW → qR) (n0 : Nat) (G : qM) (U : qW) (v0 : Int32) (v1 : Int32) (v2 : Int32) : qm_run pm_m big m_107 (n0 + 2) 8 [(0, .ref 34), (1, .ref 20), (2, .int v0), (3, .int v1), (4, .int v2)] [] G U = qm_run pm_m big m_107 n0 11 [(0, .ref 34), (1, .ref 20), (2, .int v0), (3, .int v1), (4, .int v2), (5, .int (0 : Int32))] [] G U := rfl
theorem sg_nu_23 (big : Nat → List Value → qM → qW → qR) (n0 : Nat) (G : qM) (U : qW) (v0 : Int32) (v1 : Int32) (v2 : Int32) : qm_run pm_m big m_106 (n0 + 3) 0 [(0, .ref 8), (1, .int v0), (2, .int v1), (3, .int v2), (4, .int (0 : Int32))] [] G U = qm_run pm_m big m_106 n0 5 [(0, .ref 8), (1, .int v0), (2, .int v1), (3, .int v2), (4, .int (0 : Int32))] [.int v0, .ref 20] G U := rfl
theorem sg_nu_24 (big : Nat → List Value → qM → qW → qR) (n0 : Nat) (G : qM) (U : qW) (v0 : Int32) (v1 : Int32) (v2 : Int32) : qm_run pm_m big m_106 (n0 + 4) 8 [(0, .ref 8), (1, .int v0), (2, .int v1), (3, .int v2), (4, .int (0 : Int32))] [.int (1 : Int32)] G U = qm_run pm_m big m_106 n0 16 [(0, .ref 8), (1, .int v0), (2, .int v1), (3, .int v2), (4, .int (0 : Int32))] [.int v1, .ref 20] G U := rfl
theorem sg_nu_25 (big : Nat → List Value → qM → qW → qR) (n0 : Nat) (G : qM) (U : qW) (v0 : Int32) (v1 : Int32) (v2 : Int32) : qm_run pm_m big m_106 (n0 + 4) 19 [(0, .ref 8), (1, .int v0), (2, .int v1), (3, .int v2), (4, .int (0 : Int32))] [.int (1 : Int32)] G U = qm_run pm_m big m_106 n0 27 [(0, .ref 8), (1, .int v0), (2, .int v1), (3, .int v2), (4, .int (0 : Int32))] [.int v2, .ref 20] G U := rfl
theorem sg_nu_26 (big : Nat → List Value → qM → qW → qR) (n0 : Nat) (G : qM) (U : qW) (v0 : Int32) (v1 : Int32) (v2 : Int32) : qm_run pm_m big m_106 (n0 + 3) 30 [(0, .ref 8), (1, .int v0), (2, .int v1), (3, .int v2), (4, .int (0 : Int32))] [.int (1 : Int32)] G U = qm_run pm_m big m_106 n0 35 [(0, .ref 8), (1, .int v0), (2, .int v1), (3, .int v2), (4, .int (0 : Int32))] [.int v1, .int v0] G U := rfl
theorem sg_nu_27 (big : Nat → List Value → qM → qW → qR) (n0 : Nat) (G : qM) (U : qW) (v0 : Int32) (v1 : Int32) (v2 : Int32) : qm_run pm_m big m_106 (n0 + 2) 38 [(0, .ref 8), (1, .int v0), (2, .int v1), (3, .int v2), (4, .int (0 : Int32))] [] G U = qm_run pm_m big m_106 n0 40 [(0, .ref 8), (1, .int v0), (2, .int v1), (3, .int v2), (4, .int (0 : Int32))] [.int v2, .int v0] G U := rfl
theorem sg_nu_28 (big : Nat → List Value → qM → qW → qR) (n0 : Nat) (G : qM) (U : qW) (v0 : Int32) (v1 : Int32) (v2 : Int32) : qm_run pm_m big m_106 (n0 + 2) 43 [(0, .ref 8), (1, .int v0), (2, .int v1), (3, .int v2), (4, .int (0 : Int32))] [] G U = qm_run pm_m big m_106 n0 45 [(0, .ref 8), (1, .int v0), (2, .int v1), (3, .int v2), (4, .int (0 : Int32))] [.int v2, .int v1] G U := rfl
theorem sg_nu_29 (big : Nat → List Value → qM → qW → qR) (n0 : Nat) (G : qM) (U : qW) (v0 : Int32) (v1 : Int32) (v2 : Int32) : qm_run pm_m big m_106 (n0 + 13) 50 [(0, .ref 8), (1, .int v0), (2, .int v1), (3, .int v2), (4, .int (0 : Int32))] [] G U = qm_run pm_m big m_106 n0 88 [(0, .ref 8), (1, .int v0), (2, .int v1), (3, .int v2), (4, .int (0 : Int32)), (5, .int ((0 : Int32) - (10 : Int32)))] [.int v2, .int v1, .int v0, .ref 20, .ref 34] G U := rfl
theorem sg_nu_30 (big : Nat → List Value → qM → qW → qR) (n0 : Nat) (G : qM) (U : qW) (v0 : Int32) (v1 : Int32) (v2 : Int32) (v3 : Int32) : qm_run pm_m big m_106 (n0 + 3) 91 [(0, .ref 8), (1, .int v0), (2, .int v1), (3, .int v2), (4, .int (0 : Int32)), (5, .int ((0 : Int32) - (10 : Int32)))] [.int v3] G U = qm_run pm_m big m_106 n0 97 [(0, .ref 8), (1, .int v0), (2, .int v1), (3, .int v2), (4, .int (0 : Int32)), (5, .int ((0 : Int32) - (10 : Int32))), (6, .int v3)] [.int (Int8.toInt32 (Int8.ofInt (-4))), .int v3] G U := rfl
theorem sg_nu_31 (big : Nat → List Value → qM → qW → qR) (n0 : Nat) (G : qM) (U : qW) (v0 : Int32) (v1 : Int32) (v2 : Int32) (v3 : Int32) : qm_run pm_m big m_106 (n0 + 1) 103 [(0, .ref 8), (1, .int v0), (2, .int v1), (3, .int v2), (4, .int (0 : Int32)), (5, .int ((0 : Int32) - (10 : Int32))), (6, .int v3)] [] G U = qm_run pm_m big m_106 n0 105 [(0, .ref 8), (1, .int v0), (2, .int v1), (3, .int v2), (4, .int (0 : Int32)), (5, .int ((0 : Int32) - (10 : Int32))), (6, .int v3)] [.int v3] G U := rfl
theorem sg_nu_32 (big : Nat → List Value → qM → qW → qR) (n0 : Nat) (G : qM) (U : qW) (v0 : Int32) (v1 : Int32) (v2 : Int32) : qm_run pm_m big m_106 (n0 + 3) 0 [(0, .ref 8), (1, .int v0), (2, .int v1), (3, .int v2), (4, .int (10 : Int32))] [] G U = qm_run pm_m big m_106 n0 5 [(0, .ref 8), (1, .int v0), (2, .int v1), (3, .int v2), (4, .int (10 : Int32))] [.int v0, .ref 20] G U := rfl
theorem sg_nu_33 (big : Nat → List Value → qM → qW → qR) (n0 : Nat) (G : qM) (U : qW) (v0 : Int32) (v1 : Int32) (v2 : Int32) : qm_run pm_m big m_106 (n0 + 4) 8 [(0, .ref 8), (1, .int v0), (2, .int v1), (3, .int v2), (4, .int (10 : Int32))] [.int (1 : Int32)] G U = qm_run pm_m big m_106 n0 16 [(0, .ref 8), (1, .int v0), (2, .int v1), (3, .int v2), (4, .int (10 : Int32))] [.int v1, .ref 20] G U := rfl
theorem sg_nu_34 (big : Nat → List Value → qM → qW → qR) (n0 : Nat) (G : qM) (U : qW) (v0 : Int32) (v1 : Int32) (v2 : Int32) : qm_run pm_m big m_106 (n0 + 4) 19 [(0, .ref 8), (1, .int v0), (2, .int v1), (3, .int v2), (4, .int (10 : Int32))] [.int (1 : Int32)] G U = qm_run pm_m big m_106 n0 27 [(0, .ref 8), (1, .int v0), (2, .int v1), (3, .int v2), (4, .int (10 : Int32))] [.int v2, .ref 20] G U := rfl
theorem sg_nu_35 (big : Nat → List Value → qM → qW → qR) (n0 : Nat) (G : qM) (U : qW) (v0 : Int32) (v1 : Int32) (v2 : Int32) : qm_run pm_m big m_106 (n0 + 3) 30 [(0, .ref 8), (1, .int v0), (2, .int v1), (3, .int v2), (4, .int (10 : Int32))] [.int (1 : Int32)] G U = qm_run pm_m big m_106 n0 35 [(0, .ref 8), (1, .int v0), (2, .int v1), (3, .int v2), (4, .int (10 : Int32))] [.int v1, .int v0] G U := rfl
theorem sg_nu_36 (big : Nat → List Value → qM → qW → qR) (n0 : Nat) (G : qM) (U : qW) (v0 : Int32) (v1 : Int32) (v2 : Int32) : qm_run pm_m big m_106 (n0 + 2) 38 [(0, .ref 8), (1, .int v0), (2, .int v1), (3, .int v2), (4, .int (10 : Int32))] [] G U = qm_run pm_m big m_106 n0 40 [(0, .ref 8), (1, .int v0), (2, .int v1), (3, .int v2), (4, .int (10 : Int32))] [.int v2, .int v0] G U := rfl
theorem sg_nu_37 (big : Nat → List Value → qM → qW → qR) (n0 : Nat) (G : qM) (U : qW) (v0 : Int32) (v1 : Int32) (v2 : Int32) : qm_run pm_m big m_106 (n0 + 2) 43 [(0, .ref 8), (1, .int v0), (2, .int v1), (3, .int v2), (4, .int (10 : Int32))] [] G U = qm_run pm_m big m_106 n0 45 [(0, .ref 8), (1, .int v0), (2, .int v1), (3, .int v2), (4, .int (10 : Int32))] [.int v2, .int v1] G U := rfl
theorem sg_nu_38 (big : Nat → List Value → qM → qW → qR) (n0 : Nat) (G : qM) (U : qW) (v0 : Int32) (v1 : Int32) (v2 : Int32) : qm_run pm_m big m_106 (n0 + 19) 50 [(0, .ref 8), (1, .int v0), (2, .int v1), (3, .int v2), (4, .int (10 : Int32))] [] G U = qm_run pm_m big m_106 n0 88 [(0, .ref 8), (1, .int v0), (2, .int v1), (3, .int v2), (4, .int (10 : Int32)), (5, .int (0 : Int32))] [.int v2, .int v1, .int v0, .ref 20, .ref 34] G U := rfl
theorem sg_nu_39 (big : Nat → List Value → qM → qW → qR) (n0 : Nat) (G : qM) (U : qW) (v0 : Int32) (v1 : Int32) (v2 : Int32) (v3 : Int32) : qm_run pm_m big m_106 (n0 + 3) 91 [(0, .ref 8), (1, .int v0), (2, .int v1), (3, .int v2), (4, .int (10 : Int32)), (5, .int (0 : Int32))] [.int v3] G U = qm_run pm_m big m_106 n0 97 [(0, .ref 8), (1, .int v0), (2, .int v1), (3, .int v2), (4, .int (10 : Int32)), (5, .int (0 : Int32)), (6, .int v3)] [.int (Int8.toInt32 (Int8.ofInt (-4))), .int v3] G U := rfl
theorem sg_nu_40 (big : Nat → List Value → qM → qW → qR) (n0 : Nat) (G : qM) (U : qW) (v0 : Int32) (v1 : Int32) (v2 : Int32) (v3 : Int32) : qm_run pm_m big m_106 (n0 + 1) 103 [(0, .ref 8), (1, .int v0), (2, .int v1), (3, .int v2), (4, .int (10 : Int32)), (5, .int (0 : Int32)), (6, .int v3)] [] G U = qm_run pm_m big m_106 n0 105 [(0, .ref 8), (1, .int v0), (2, .int v1), (3, .int v2), (4, .int (10 : Int32)), (5, .int (0 : Int32)), (6, .int v3)] [.int v3] G U := rfl
theorem sg_nu_41 (big : Nat → List Value → qM → qW → qR) (n0 : Nat) (G : qM) (U : qW) (v0 : Int32) (v1 : Int32) (v2 : Int32) (v3 : Int32) (v4 : Int32) : qm_run pm_m big m_106 (n0 + 5) 108 [(0, .ref 8), (1, .int v0), (2, .int v1), (3, .int v2), (4, .int (10 : Int32)), (5, .int (0 : Int32)), (6, .int v3)] [.int v4] G U = qm_run pm_m big m_106 n0 122 [(0, .ref 8), (1, .int v0), (2, .int v1), (3, .int v2), (4, .int (10 : Int32)), (5, .int (0 : Int32)), (6, .int v3), (7, .int v4)] [.int v4, .int (0 : Int32)] G U := rfl
theorem sg_nu_42 (big : Nat → List Value → qM → qW → qR) (n0 : Nat) (G : qM) (U : qW) (v0 : Int32) (v1 : Int32) (v2 : Int32) (v3 : Int32) (v4 : Int32) : qm_run pm_m big m_106 (n0 + 1) 125 [(0, .ref 8), (1, .int v0), (2, .int v1), (3, .int v2), (4, .int (10 : Int32)), (5, .int (0 : Int32)), (6, .int v3), (7, .int v4)] [] G U = qm_run pm_m big m_106 n0 127 [(0, .ref 8), (1, .int v0), (2, .int v1), (3, .int v2), (4, .int (10 : Int32)), (5, .int (0 : Int32)), (6, .int v3), (7, .int v4)] [.int v3] G U := rfl
theorem sg_nu_43 (big : Nat → List Value → qM → qW → qR) (n0 : Nat) (G : qM) (U : qW) (v0 : Int32) (v1 : Int32) (v2 : Int32) (v3 : Int32) (v4 : Int32) (v5 : Int32) : qm_run pm_m big m_106 (n0 + 2) 130 [(0, .ref 8), (1, .int v0), (2, .int v1), (3, .int v2), (4, .int (10 : Int32)), (5, .int (0 : Int32)), (6, .int v3), (7, .int v4)] [.int v5] G U = qm_run pm_m big m_106 n0 134 [(0, .ref 8), (1, .int v0), (2, .int v1), (3, .int v2), (4, .int (10 : Int32)), (5, .int (0 : Int32)), (6, .int v3), (7, .int v4)] [.int v4, .int (0 : Int32), .int v5] G U := rfl
theorem sg_nu_44 (big : Nat → List Value → qM → qW → qR) (n0 : Nat) (G : qM) (U : qW) (v0 : Int32) (v1 : Int32) (v2 : Int32) : qm_run pm_m big m_106 (n0 + 3) 0 [(0, .ref 8), (1, .int v0), (2, .int v1), (3, .int v2), (4, .int (11 : Int32))] [] G U = qm_run pm_m big m_106 n0 5 [(0, .ref 8), (1, .int v0), (2, .int v1), (3, .int v2), (4, .int (11 : Int32))] [.int v0, .ref 20] G U := rfl
theorem sg_nu_45 (big : Nat → List Value → qM → qW → qR) (n0 : Nat) (G : qM) (U : qW) (v0 : Int32) (v1 : Int32) (v2 : Int32) : qm_run pm_m big m_106 (n0 + 4) 8 [(0, .ref 8), (1, .int v0), (2, .int v1), (3, .int v2), (4, .int (11 : Int32))] [.int (1 : Int32)] G U = qm_run pm_m big m_106 n0 16 [(0, .ref 8), (1, .int v0), (2, .int v1), (3, .int v2), (4, .int (11 : Int32))] [.int v1, .ref 20] G U := rfl
theorem sg_nu_46 (big : Nat → List Value → qM → qW → qR) (n0 : Nat) (G : qM) (U : qW) (v0 : Int32) (v1 : Int32) (v2 : Int32) : qm_run pm_m big m_106 (n0 + 4) 19 [(0, .ref 8), (1, .int v0), (2, .int v1), (3, .int v2), (4, .int (11 : Int32))] [.int (1 : Int32)] G U = qm_run pm_m big m_106 n0 27 [(0, .ref 8), (1, .int v0), (2, .int v1), (3, .int v2), (4, .int (11 : Int32))] [.int v2, .ref 20] G U := rfl
theorem sg_nu_47 (big : Nat → List Value → qM → qW → qR) (n0 : Nat) (G : qM) (U : qW) (v0 : Int32) (v1 : Int32) (v2 : Int32) : qm_run pm_m big m_106 (n0 + 3) 30 [(0, .ref 8), (1, .int v0), (2, .int v1), (3, .int v2), (4, .int (11 : Int32))] [.int (1 : Int32)] G U = qm_run pm_m big m_106 n0 35 [(0, .ref 8), (1, .int v0), (2, .int v1), (3, .int v2), (4, .int (11 : Int32))] [.int v1, .int v0] G U := rfl
theorem sg_nu_48 (big : Nat → List Value → qM → qW → qR) (n0 : Nat) (G : qM) (U : qW) (v0 : Int32) (v1 : Int32) (v2 : Int32) : qm_run pm_m big m_106 (n0 + 2) 38 [(0, .ref 8), (1, .int v0), (2, .int v1), (3, .int v2), (4, .int (11 : Int32))] [] G U = qm_run pm_m big m_106 n0 40 [(0, .ref 8), (1, .int v0), (2, .int v1), (3, .int v2), (4, .int (11 : Int32))] [.int v2, .int v0] G U := rfl
theorem sg_nu_49 (big : Nat → List Value → qM → qW → qR) (n0 : Nat) (G : qM) (U : qW) (v0 : Int32) (v1 : Int32) (v2 : Int32) : qm_run pm_m big m_106 (n0 + 2) 43 [(0, .ref 8), (1, .int v0), (2, .int v1), (3, .int v2), (4, .int (11 : Int32))] [] G U = qm_run pm_m big m_106 n0 45 [(0, .ref 8), (1, .int v0), (2, .int v1), (3, .int v2), (4, .int (11 : Int32))] [.int v2, .int v1] G U := rfl
theorem sg_nu_50 (big : Nat → List Value → qM → qW → qR) (n0 : Nat) (G : qM) (U : qW) (v0 : Int32) (v1 : Int32) (v2 : Int32) : qm_run pm_m big m_106 (n0 + 19) 50 [(0, .ref 8), (1, .int v0), (2, .int v1), (3, .int v2), (4, .int (11 : Int32))] [] G U = qm_run pm_m big m_106 n0 88 [(0, .ref 8), (1, .int v0), (2, .int v1), (3, .int v2), (4, .int (11 : Int32)), (5, .int (1 : Int32))] [.int v2, .int v1, .int v0, .ref 20, .ref 34] G U := rfl
theorem sg_nu_51 (big : Nat → List Value → qM → qW → qR) (n0 : Nat) (G : qM) (U : qW) (v0 : Int32) (v1 : Int32) (v2 : Int32) (v3 : Int32) : qm_run pm_m big m_106 (n0 + 3) 91 [(0, .ref 8), (1, .int v0), (2, .int v1), (3, .int v2), (4, .int (11 : Int32)), (5, .int (1 : Int32))] [.int v3] G U = qm_run pm_m big m_106 n0 97 [(0, .ref 8), (1, .int v0), (2, .int v1), (3, .int v2), (4, .int (11 : Int32)), (5, .int (1 : Int32)), (6, .int v3)] [.int (Int8.toInt32 (Int8.ofInt (-4))), .int v3] G U := rfl
theorem sg_nu_52 (big : Nat → List Value → qM → qW → qR) (n0 : Nat) (G : qM) (U : qW) (v0 : Int32) (v1 : Int32) (v2 : Int32) (v3 : Int32) : qm_run pm_m big m_106 (n0 + 1) 103 [(0, .ref 8), (1, .int v0), (2, .int v1), (3, .int v2), (4, .int (11 : Int32)), (5, .int (1 : Int32)), (6, .int v3)] [] G U = qm_run pm_m big m_106 n0 105 [(0, .ref 8), (1, .int v0), (2, .int v1), (3, .int v2), (4, .int (11 : Int32)), (5, .int (1 : Int32)), (6, .int v3)] [.int v3] G U := rfl
theorem sg_nu_53 (big : Nat → List Value → qM → qW → qR) (n0 : Nat) (G : qM) (U : qW) (v0 : Int32) (v1 : Int32) (v2 : Int32) (v3 : Int32) (v4 : Int32) : qm_run pm_m big m_106 (n0 + 5) 108 [(0, .ref 8), (1, .int v0), (2, .int v1), (3, .int v2), (4, .int (11 : Int32)), (5, .int (1 : Int32)), (6, .int v3)] [.int v4] G U = qm_run pm_m big m_106 n0 122 [(0, .ref 8), (1, .int v0), (2, .int v1), (3, .int v2), (4, .int (11 : Int32)), (5, .int (1 : Int32)), (6, .int v3), (7, .int v4)] [.int v4, .int (1 : Int32)] G U := rfl
theorem sg_nu_54 (big : Nat → List Value → qM → qW → qR) (n0 : Nat) (G : qM) (U : qW) (v0 : Int32) (v1 : Int32) (v2 : Int32) (v3 : Int32) (v4 : Int32) : qm_run pm_m big m_106 (n0 + 1) 125 [(0, .ref 8), (1, .int v0), (2, .int v1), (3, .int v2), (4, .int (11 : Int32)), (5, .int (1 : Int32)), (6, .int v3), (7, .int v4)] [] G U = qm_run pm_m big m_106 n0 127 [(0, .ref 8), (1, .int v0), (2, .int v1), (3, .int v2), (4, .int (11 : Int32)), (5, .int (1 : Int32)), (6, .int v3), (7, .int v4)] [.int v3] G U := rfl
theorem sg_nu_55 (big : Nat → List Value → qM → qW → qR) (n0 : Nat) (G : qM) (U : qW) (v0 : Int32) (v1 : Int32) (v2 : Int32) (v3 : Int32) (v4 : Int32) (v5 : Int32) : qm_run pm_m big m_106 (n0 + 2) 130 [(0, .ref 8), (1, .int v0), (2, .int v1), (3, .int v2), (4, .int (11 : Int32)), (5, .int (1 : Int32)), (6, .int v3), (7, .int v4)] [.int v5] G U = qm_run pm_m big m_106 n0 134 [(0, .ref 8), (1, .int v0), (2, .int v1), (3, .int v2), (4, .int (11 : Int32)), (5, .int (1 : Int32)), (6, .int v3), (7, .int v4)] [.int v4, .int (1 : Int32), .int v5] G U := rfl
theorem sg_nu_56 (big : Nat → List Value → qM → qW → qR) (n0 : Nat) (G : qM) (U : qW) (v0 : Int32) (v1 : Int32) (v2 : Int32) : qm_run pm_m big m_106 (n0 + 3) 0 [(0, .ref 8), (1, .int v0), (2, .int v1), (3, .int v2), (4, .int (12 : Int32))] [] G U = qm_run pm_m big m_106 n0 5 [(0, .ref 8), (1, .int v0), (2, .int v1), (3, .int v2), (4, .int (12 : Int32))] [.int v0, .ref 20] G U := rfl
theorem sg_nu_57 (big : Nat → List Value → qM → qW → qR) (n0 : Nat) (G : qM) (U : qW) (v0 : Int32) (v1 : Int32) (v2 : Int32) : qm_run pm_m big m_106 (n0 + 4) 8 [(0, .ref 8), (1, .int v0), (2, .int v1), (3, .int v2), (4, .int (12 : Int32))] [.int (1 : Int32)] G U = qm_run pm_m big m_106 n0 16 [(0, .ref 8), (1, .int v0), (2, .int v1), (3, .int v2), (4, .int (12 : Int32))] [.int v1, .ref 20] G U := rfl
theorem sg_nu_58 (big : Nat → List Value → qM → qW → qR) (n0 : Nat) (G : qM) (U : qW) (v0 : Int32) (v1 : Int32) (v2 : Int32) : qm_run pm_m big m_106 (n0 + 4) 19 [(0, .ref 8), (1, .int v0), (2, .int v1), (3, .int v2), (4, .int (12 : Int32))] [.int (1 : Int32)] G U = qm_run pm_m big m_106 n0 27 [(0, .ref 8), (1, .int v0), (2, .int v1), (3, .int v2), (4, .int (12 : Int32))] [.int v2, .ref 20] G U := rfl
theorem sg_nu_59 (big : Nat → List Value → qM → qW → qR) (n0 : Nat) (G : qM) (U : qW) (v0 : Int32) (v1 : Int32) (v2 : Int32) : qm_run pm_m big m_106 (n0 + 3) 30 [(0, .ref 8), (1, .int v0), (2, .int v1), (3, .int v2), (4, .int (12 : Int32))] [.int (1 : Int32)] G U = qm_run pm_m big m_106 n0 35 [(0, .ref 8), (1, .int v0), (2, .int v1), (3, .int v2), (4, .int (12 : Int32))] [.int v1, .int v0] G U := rfl
theorem sg_nu_60 (big : Nat → List Value → qM → qW → qR) (n0 : Nat) (G : qM) (U : qW) (v0 : Int32) (v1 : Int32) (v2 : Int32) : qm_run pm_m big m_106 (n0 + 2) 38 [(0, .ref 8), (1, .int v0), (2, .int v1), (3, .int v2), (4, .int (12 : Int32))] [] G U = qm_run pm_m big m_106 n0 40 [(0, .ref 8), (1, .int v0), (2, .int v1), (3, .int v2), (4, .int (12 : Int32))] [.int v2, .int v0] G U := rfl
theorem sg_nu_61 (big : Nat → List Value → qM → qW → qR) (n0 : Nat) (G : qM) (U : qW) (v0 : Int32) (v1 : Int32) (v2 : Int32) : qm_run pm_m big m_106 (n0 + 2) 43 [(0, .ref 8), (1, .int v0), (2, .int v1), (3, .int v2), (4, .int (12 : Int32))] [] G U = qm_run pm_m big m_106 n0 45 [(0, .ref 8), (1, .int v0), (2, .int v1), (3, .int v2), (4, .int (12 : Int32))] [.int v2, .int v1] G U := rfl
theorem sg_nu_62 (big : Nat → List Value → qM → qW → qR) (n0 : Nat) (G : qM) (U : qW) (v0 : Int32) (v1 : Int32) (v2 : Int32) : qm_run pm_m big m_106 (n0 + 19) 50 [(0, .ref 8), (1, .int v0), (2, .int v1), (3, .int v2), (4, .int (12 : Int32))] [] G U = qm_run pm_m big m_106 n0 88 [(0, .ref 8), (1, .int v0), (2, .int v1), (3, .int v2), (4, .int (12 : Int32)), (5, .int (2 : Int32))] [.int v2, .int v1, .int v0, .ref 20, .ref 34] G U := rfl
theorem sg_nu_63 (big : Nat → List Value → qM → qW → qR) (n0 : Nat) (G : qM) (U : qW) (v0 : Int32) (v1 : Int32) (v2 : Int32) (v3 : Int32) : qm_run pm_m big m_106 (n0 + 3) 91 [(0, .ref 8), (1, .int v0), (2, .int v1), (3, .int v2), (4, .int (12 : Int32)), (5, .int (2 : Int32))] [.int v3] G U = qm_run pm_m big m_106 n0 97 [(0, .ref 8), (1, .int v0), (2, .int v1), (3, .int v2), (4, .int (12 : Int32)), (5, .int (2 : Int32)), (6, .int v3)] [.int (Int8.toInt32 (Int8.ofInt (-4))), .int v3] G U := rfl
theorem sg_nu_64 (big : Nat → List Value → qM → qW → qR) (n0 : Nat) (G : qM) (U : qW) (v0 : Int32) (v1 : Int32) (v2 : Int32) (v3 : Int32) : qm_run pm_m big m_106 (n0 + 1) 103 [(0, .ref 8), (1, .int v0), (2, .int v1), (3, .int v2), (4, .int (12 : Int32)), (5, .int (2 : Int32)), (6, .int v3)] [] G U = qm_run pm_m big m_106 n0 105 [(0, .ref 8), (1, .int v0), (2, .int v1), (3, .int v2), (4, .int (12 : Int32)), (5, .int (2 : Int32)), (6, .int v3)] [.int v3] G U := rfl
theorem sg_nu_65 (big : Nat → List Value → qM → qW → qR) (n0 : Nat) (G : qM) (U : qW) (v0 : Int32) (v1 : Int32) (v2 : Int32) (v3 : Int32) (v4 : Int32) : qm_run pm_m big m_106 (n0 + 5) 108 [(0, .ref 8), (1, .int v0), (2, .int v1), (3, .int v2), (4, .int (12 : Int32)), (5, .int (2 : Int32)), (6, .int v3)] [.int v4] G U = qm_run pm_m big m_106 n0 122 [(0, .ref 8), (1, .int v0), (2, .int v1), (3, .int v2), (4, .int (12 : Int32)), (5, .int (2 : Int32)), (6, .int v3), (7, .int v4)] [.int v4, .int (2 : Int32)] G U := rfl
theorem sg_nu_66 (big : Nat → List Value → qM → qW → qR) (n0 : Nat) (G : qM) (U : qW) (v0 : Int32) (v1 : Int32) (v2 : Int32) (v3 : Int32) (v4 : Int32) : qm_run pm_m big m_106 (n0 + 1) 125 [(0, .ref 8), (1, .int v0), (2, .int v1), (3, .int v2), (4, .int (12 : Int32)), (5, .int (2 : Int32)), (6, .int v3), (7, .int v4)] [] G U = qm_run pm_m big m_106 n0 127 [(0, .ref 8), (1, .int v0), (2, .int v1), (3, .int v2), (4, .int (12 : Int32)), (5, .int (2 : Int32)), (6, .int v3), (7, .int v4)] [.int v3] G U := rfl
theorem sg_nu_67 (big : Nat → List Value → qM → qW → qR) (n0 : Nat) (G : qM) (U : qW) (v0 : Int32) (v1 : Int32) (v2 : Int32) (v3 : Int32) (v4 : Int32) (v5 : Int32) : qm_run pm_m big m_106 (n0 + 2) 130 [(0, .ref 8), (1, .int v0), (2, .int v1), (3, .int v2), (4, .int (12 : Int32)), (5, .int (2 : Int32)), (6, .int v3), (7, .int v4)] [.int v5] G U = qm_run pm_m big m_106 n0 134 [(0, .ref 8), (1, .int v0), (2, .int v1), (3, .int v2), (4, .int (12 : Int32)), (5, .int (2 : Int32)), (6, .int v3), (7, .int v4)] [.int v4, .int (2 : Int32), .int v5] G U := rfl
theorem sg_nu_68 (big : Nat → List Value → qM → qW → qR) (n0 : Nat) (G : qM) (U : qW) (v0 : Int32) (v1 : Int32) (v2 : Int32) : qm_run pm_m big m_106 (n0 + 3) 0 [(0, .ref 8), (1, .int v0), (2, .int v1), (3, .int v2), (4, .int (13 : Int32))] [] G U = qm_run pm_m big m_106 n0 5 [(0, .ref 8), (1, .int v0), (2, .int v1), (3, .int v2), (4, .int (13 : Int32))] [.int v0, .ref 20] G U := rfl
theorem sg_nu_69 (big : Nat → List Value → qM → qW → qR) (n0 : Nat) (G : qM) (U : qW) (v0 : Int32) (v1 : Int32) (v2 : Int32) : qm_run pm_m big m_106 (n0 + 4) 8 [(0, .ref 8), (1, .int v0), (2, .int v1), (3, .int v2), (4, .int (13 : Int32))] [.int (1 : Int32)] G U = qm_run pm_m big m_106 n0 16 [(0, .ref 8), (1, .int v0), (2, .int v1), (3, .int v2), (4, .int (13 : Int32))] [.int v1, .ref 20] G U := rfl
theorem sg_nu_70 (big : Nat → List Value → qM → qW → qR) (n0 : Nat) (G : qM) (U : qW) (v0 : Int32) (v1 : Int32) (v2 : Int32) : qm_run pm_m big m_106 (n0 + 4) 19 [(0, .ref 8), (1, .int v0), (2, .int v1), (3, .int v2), (4, .int (13 : Int32))] [.int (1 : Int32)] G U = qm_run pm_m big m_106 n0 27 [(0, .ref 8), (1, .int v0), (2, .int v1), (3, .int v2), (4, .int (13 : Int32))] [.int v2, .ref 20] G U := rfl
theorem sg_nu_71 (big : Nat → List Value → qM → qW → qR) (n0 : Nat) (G : qM) (U : qW) (v0 : Int32) (v1 : Int32) (v2 : Int32) : qm_run pm_m big m_106 (n0 + 3) 30 [(0, .ref 8), (1, .int v0), (2, .int v1), (3, .int v2), (4, .int (13 : Int32))] [.int (1 : Int32)] G U = qm_run pm_m big m_106 n0 35 [(0, .ref 8), (1, .int v0), (2, .int v1), (3, .int v2), (4, .int (13 : Int32))] [.int v1, .int v0] G U := rfl
theorem sg_nu_72 (big : Nat → List Value → qM → qW → qR) (n0 : Nat) (G : qM) (U : qW) (v0 : Int32) (v1 : Int32) (v2 : Int32) : qm_run pm_m big m_106 (n0 + 2) 38 [(0, .ref 8), (1, .int v0), (2, .int v1), (3, .int v2), (4, .int (13 : Int32))] [] G U = qm_run pm_m big m_106 n0 40 [(0, .ref 8), (1, .int v0), (2, .int v1), (3, .int v2), (4, .int (13 : Int32))] [.int v2, .int v0] G U := rfl
theorem sg_nu_73 (big : Nat → List Value → qM → qW → qR) (n0 : Nat) (G : qM) (U : qW) (v0 : Int32) (v1 : Int32) (v2 : Int32) : qm_run pm_m big m_106 (n0 + 2) 43 [(0, .ref 8), (1, .int v0), (2, .int v1), (3, .int v2), (4, .int (13 : Int32))] [] G U = qm_run pm_m big m_106 n0 45 [(0, .ref 8), (1, .int v0), (2, .int v1), (3, .int v2), (4, .int (13 : Int32))] [.int v2, .int v1] G U := rfl
theorem sg_nu_74 (big : Nat → List Value → qM → qW → qR) (n0 : Nat) (G : qM) (U : qW) (v0 : Int32) (v1 : Int32) (v2 : Int32) : qm_run pm_m big m_106 (n0 + 19) 50 [(0, .ref 8), (1, .int v0), (2, .int v1), (3, .int v2), (4, .int (13 : Int32))] [] G U = qm_run pm_m big m_106 n0 88 [(0, .ref 8), (1, .int v0), (2, .int v1), (3, .int v2), (4, .int (13 : Int32)), (5, .int (3 : Int32))] [.int v2, .int v1, .int v0, .ref 20, .ref 34] G U := rfl
theorem sg_nu_75 (big : Nat → List Value → qM → qW → qR) (n0 : Nat) (G : qM) (U : qW) (v0 : Int32) (v1 : Int32) (v2 : Int32) (v3 : Int32) : qm_run pm_m big m_106 (n0 + 3) 91 [(0, .ref 8), (1, .int v0), (2, .int v1), (3, .int v2), (4, .int (13 : Int32)), (5, .int (3 : Int32))] [.int v3] G U = qm_run pm_m big m_106 n0 97 [(0, .ref 8), (1, .int v0), (2, .int v1), (3, .int v2), (4, .int (13 : Int32)), (5, .int (3 : Int32)), (6, .int v3)] [.int (Int8.toInt32 (Int8.ofInt (-4))), .int v3] G U := rfl
theorem sg_nu_76 (big : Nat → List Value → qM → qW → qR) (n0 : Nat) (G : qM) (U : qW) (v0 : Int32) (v1 : Int32) (v2 : Int32) (v3 : Int32) : qm_run pm_m big m_106 (n0 + 1) 103 [(0, .ref 8), (1, .int v0), (2, .int v1), (3, .int v2), (4, .int (13 : Int32)), (5, .int (3 : Int32)), (6, .int v3)] [] G U = qm_run pm_m big m_106 n0 105 [(0, .ref 8), (1, .int v0), (2, .int v1), (3, .int v2), (4, .int (13 : Int32)), (5, .int (3 : Int32)), (6, .int v3)] [.int v3] G U := rfl
theorem sg_nu_77 (big : Nat → List Value → qM → qW → qR) (n0 : Nat) (G : qM) (U : qW) (v0 : Int32) (v1 : Int32) (v2 : Int32) (v3 : Int32) (v4 : Int32) : qm_run pm_m big m_106 (n0 + 5) 108 [(0, .ref 8), (1, .int v0), (2, .int v1), (3, .int v2), (4, .int (13 : Int32)), (5, .int (3 : Int32)), (6, .int v3)] [.int v4] G U = qm_run pm_m big m_106 n0 122 [(0, .ref 8), (1, .int v0), (2, .int v1), (3, .int v2), (4, .int (13 : Int32)), (5, .int (3 : Int32)), (6, .int v3), (7, .int v4)] [.int v4, .int (3 : Int32)] G U := rfl
theorem sg_nu_78 (big : Nat → List Value → qM → qW → qR) (n0 : Nat) (G : qM) (U : qW) (v0 : Int32) (v1 : Int32) (v2 : Int32) (v3 : Int32) (v4 : Int32) : qm_run pm_m big m_106 (n0 + 1) 125 [(0, .ref 8), (1, .int v0), (2, .int v1), (3, .int v2), (4, .int (13 : Int32)), (5, .int (3 : Int32)), (6, .int v3), (7, .int v4)] [] G U = qm_run pm_m big m_106 n0 127 [(0, .ref 8), (1, .int v0), (2, .int v1), (3, .int v2), (4, .int (13 : Int32)), (5, .int (3 : Int32)), (6, .int v3), (7, .int v4)] [.int v3] G U := rfl
theorem sg_nu_79 (big : Nat → List Value → qM → qW → qR) (n0 : Nat) (G : qM) (U : qW) (v0 : Int32) (v1 : Int32) (v2 : Int32) (v3 : Int32) (v4 : Int32) (v5 : Int32) : qm_run pm_m big m_106 (n0 + 2) 130 [(0, .ref 8), (1, .int v0), (2, .int v1), (3, .int v2), (4, .int (13 : Int32)), (5, .int (3 : Int32)), (6, .int v3), (7, .int v4)] [.int v5] G U = qm_run pm_m big m_106 n0 134 [(0, .ref 8), (1, .int v0), (2, .int v1), (3, .int v2), (4, .int (13 : Int32)), (5, .int (3 : Int32)), (6, .int v3), (7, .int v4)] [.int v4, .int (3 : Int32), .int v5] G U := rfl
theorem sg_nu_80 (big : Nat → List Value → qM → qW → qR) (n0 : Nat) (G : qM) (U : qW) (v0 : Int32) (v1 : Int32) (v2 : Int32) (v3 : Int32) (v4 : Int32) (v5 : Int32) (v6 : Int32) : qm_run pm_m big m_208 (n0 + 2) 102 [(0, .ref 70), (1, .int v0), (2, .int v1), (3, .int v2), (4, .int v3), (5, .int (1 : Int32)), (6, .int v4), (7, .int v5), (8, .int v6)] [] G U = qm_run pm_m big m_208 n0 106 [(0, .ref 70), (1, .int v0), (2, .int v1), (3, .int v2), (4, .int v3), (5, .int (1 : Int32)), (6, .int v4), (7, .int v5), (8, .int v6)] [.int v4, .int v6] G U := rfl
theorem sg_nu_81 (big : Nat → List Value → qM → qW → qR) (n0 : Nat) (G : qM) (U : qW) (v0 : Int32) (v1 : Int32) (v2 : Int32) (v3 : Int32) (v4 : Int32) (v5 : Int32) (v6 : Int32) : qm_run pm_m big m_208 (n0 + 14) 109 [(0, .ref 70), (1, .int v0), (2, .int v1), (3, .int v2), (4, .int v3), (5, .int (1 : Int32)), (6, .int v4), (7, .int v5), (8, .int v6)] [] G U = qm_run pm_m big m_208 n0 128 [(0, .ref 70), (1, .int v0), (2, .int v1), (3, .int v2), (4, .int v3), (5, .int (1 : Int32)), (6, .int v4), (7, .int v5), (8, .int v6)] [.int ((v5 >>> (((2 : Int32) * ((v4 - (1 : Int32)) - v6)) &&& 31)) &&& (3 : Int32)), .int v0, .ref 76] G U := rfl
theorem sg_nu_82 (big : Nat → List Value → qM → qW → qR) (n0 : Nat) (G : qM) (U : qW) (v0 : Int32) (v1 : Int32) (v2 : Int32) (v3 : Int32) (v4 : Int32) (v5 : Int32) (v6 : Int32) : qm_run pm_m big m_208 (n0 + 1) 129 [(0, .ref 70), (1, .int v0), (2, .int v1), (3, .int v2), (4, .int v3), (5, .int (1 : Int32)), (6, .int v4), (7, .int v5), (8, .int v6)] [] G U = qm_run pm_m big m_208 n0 130 [(0, .ref 70), (1, .int v0), (2, .int v1), (3, .int v2), (4, .int v3), (5, .int (1 : Int32)), (6, .int v4), (7, .int v5), (8, .int v6)] [.ref 70] G U := rfl
theorem sg_nu_83 (big : Nat → List Value → qM → qW → qR) (n0 : Nat) (G : qM) (U : qW) (v0 : Int32) (v1 : Int32) (v2 : Int32) (v3 : Int32) (v4 : Int32) (v5 : Int32) (v6 : Int32) (v7 : Int32) : qm_run pm_m big m_208 (n0 + 3) 133 [(0, .ref 70), (1, .int v0), (2, .int v1), (3, .int v2), (4, .int v3), (5, .int (1 : Int32)), (6, .int v4), (7, .int v5), (8, .int v6)] [.int v7] G U = qm_run pm_m big m_208 n0 102 [(0, .ref 70), (1, .int v0), (2, .int v1), (3, .int v2), (4, .int v3), (5, .int (1 : Int32)), (6, .int v4), (7, .int v5), (8, .int (v6 + (1 : Int32)))] [] G U := rfl
theorem sg_nu_84 (big : Nat → List Value → qM → qW → qR) (n0 : Nat) (G : qM) (U : qW) (v0 : Int32) (v1 : Int32) (v2 : Int32) (v3 : Int32) (v4 : Int32) (v5 : Int32) : qm_run pm_m big m_208 (n0 + 2) 85 [(0, .ref 70), (1, .int v0), (2, .int v1), (3, .int v2), (4, .int v3), (5, .int (1 : Int32)), (6, .int v4), (7, .int v5)] [] G U = qm_run pm_m big m_208 n0 89 [(0, .ref 70), (1, .int v0), (2, .int v1), (3, .int v2), (4, .int v3), (5, .int (1 : Int32)), (6, .int v4), (7, .int v5)] [.int v4, .int v5] G U := rfl
theorem sg_nu_85 (big : Nat → List Value → qM → qW → qR) (n0 : Nat) (G : qM) (U : qW) (v0 : Int32) (v1 : Int32) (v2 : Int32) (v3 : Int32) (v4 : Int32) (v5 : Int32) : qm_run pm_m big m_208 (n0 + 1) 95 [(0, .ref 70), (1, .int v0), (2, .int v1), (3, .int v2), (4, .int v3), (5, .int (1 : Int32)), (6, .int v4), (7, .int v5)] [] G U = qm_run pm_m big m_208 n0 96 [(0, .ref 70), (1, .int v0), (2, .int v1), (3, .int v2), (4, .int v3), (5, .int (1 : Int32)), (6, .int v4), (7, .int v5)] [.ref 70] G U := rfl
theorem sg_nu_86 (big : Nat → List Value → qM → qW → qR) (n0 : Nat) (G : qM) (U : qW) (v0 : Int32) (v1 : Int32) (v2 : Int32) (v3 : Int32) (v4 : Int32) (v5 : Int32) : qm_run pm_m big m_208 (n0 + 2) 99 [(0, .ref 70), (1, .int v0), (2, .int v1), (3, .int v2), (4, .int v3), (5, .int (1 : Int32)), (6, .int v4), (7, .int v5)] [] G U = qm_run pm_m big m_208 n0 102 [(0, .ref 70), (1, .int v0), (2, .int v1), (3, .int v2), (4, .int v3), (5, .int (1 : Int32)), (6, .int v4), (7, .int v5), (8, .int (0 : Int32))] [] G U := rfl
theorem sg_nu_87 (big : Nat → List Value → qM → qW → qR) (n0 : Nat) (G : qM) (U : qW) (v0 : Int32) (v1 : Int32) (v2 : Int32) (v3 : Int32) (v4 : Int32) (v5 : Int32) (v6 : Int32) : qm_run pm_m big m_208 (n0 + 3) 140 [(0, .ref 70), (1, .int v0), (2, .int v1), (3, .int v2), (4, .int v3), (5, .int (1 : Int32)), (6, .int v4), (7, .int v5), (8, .int v6)] [] G U = qm_run pm_m big m_208 n0 143 [(0, .ref 70), (1, .int v0), (2, .int v1), (3, .int v2), (4, .int v3), (5, .int (1 : Int32)), (6, .int v4), (7, .int v5), (8, .int v6)] [.int v2, .int v1, .ref 70] G U := rfl
theorem sg_nu_88 (big : Nat → List Value → qM → qW → qR) (n0 : Nat) (G : qM) (U : qW) (v0 : Int32) (v1 : Int32) (v2 : Int32) (v3 : Int32) (v4 : Int32) (v5 : Int32) (v6 : Int32) (v7 : Int32) : qm_run pm_m big m_208 (n0 + 1) 146 [(0, .ref 70), (1, .int v0), (2, .int v1), (3, .int v2), (4, .int v3), (5, .int (1 : Int32)), (6, .int v4), (7, .int v5), (8, .int v6)] [.int v7] G U = qm_run pm_m big m_208 n0 147 [(0, .ref 70), (1, .int v0), (2, .int v1), (3, .int v2), (4, .int v3), (5, .int (1 : Int32)), (6, .int v4), (7, .int v5), (8, .int v6)] [.int (1 : Int32), .int v7] G U := rfl
theorem sg_nu_89 (big : Nat → List Value → qM → qW → qR) (n0 : Nat) (G : qM) (U : qW) (v0 : Int32) (v1 : Int32) (v2 : Int32) (v3 : Int32) (v4 : Int32) (v5 : Int32) (v6 : Int32) : qm_run pm_m big m_208 (n0 + 2) 193 [(0, .ref 70), (1, .int v0), (2, .int v1), (3, .int v2), (4, .int v3), (5, .int (1 : Int32)), (6, .int v4), (7, .int v5), (8, .int v6)] [] G U = qm_run pm_m big m_208 n0 85 [(0, .ref 70), (1, .int v0), (2, .int v1), (3, .int v2), (4, .int v3), (5, .int (1 : Int32)), (6, .int v4), (7, .int (v5 + (1 : Int32))), (8, .int v6)] [] G U := rfl
theorem sg_nu_90 (big : Nat → List Value → qM → qW → qR) (n0 : Nat) (G : qM) (U : qW) (v0 : Int32) (v1 : Int32) (v2 : Int32) (v3 : Int32) (v4 : Int32) : qm_run pm_m big m_208 (n0 + 2) 76 [(0, .ref 70), (1, .int v0), (2, .int v1), (3, .int v2), (4, .int v3), (5, .int (1 : Int32)), (6, .int v4)] [] G U = qm_run pm_m big m_208 n0 79 [(0, .ref 70), (1, .int v0), (2, .int v1), (3, .int v2), (4, .int v3), (5, .int (1 : Int32)), (6, .int v4)] [.int (4 : Int32), .int v4] G U := rfl
theorem sg_nu_91 (big : Nat → List Value → qM → qW → qR) (n0 : Nat) (G : qM) (U : qW) (v0 : Int32) (v1 : Int32) (v2 : Int32) (v3 : Int32) (v4 : Int32) : qm_run pm_m big m_208 (n0 + 2) 82 [(0, .ref 70), (1, .int v0), (2, .int v1), (3, .int v2), (4, .int v3), (5, .int (1 : Int32)), (6, .int v4)] [] G U = qm_run pm_m big m_208 n0 85 [(0, .ref 70), (1, .int v0), (2, .int v1), (3, .int v2), (4, .int v3), (5, .int (1 : Int32)), (6, .int v4), (7, .int (0 : Int32))] [] G U := rfl
theorem sg_nu_92 (big : Nat → List Value → qM → qW → qR) (n0 : Nat) (G : qM) (U : qW) (v0 : Int32) (v1 : Int32) (v2 : Int32) (v3 : Int32) (v4 : Int32) (v5 : Int32) : qm_run pm_m big m_208 (n0 + 2) 199 [(0, .ref 70), (1, .int v0), (2, .int v1), (3, .int v2), (4, .int v3), (5, .int (1 : Int32)), (6, .int v4), (7, .int v5)] [] G U = qm_run pm_m big m_208 n0 76 [(0, .ref 70), (1, .int v0), (2, .int v1), (3, .int v2), (4, .int v3), (5, .int (1 : Int32)), (6, .int (v4 + (1 : Int32))), (7, .int v5)] [] G U := rfl
theorem sg_nu_93 (big : Nat → List Value → qM → qW → qR) (n0 : Nat) (G : qM) (U : qW) (v0 : Int32) (v1 : Int32) (v2 : Int32) : qm_run pm_m big m_208 (n0 + 2) 0 [(0, .ref 70), (1, .int v0), (2, .int v1), (3, .int v2), (4, .int (0 : Int32))] [] G U = qm_run pm_m big m_208 n0 2 [(0, .ref 70), (1, .int v0), (2, .int v1), (3, .int v2), (4, .int (0 : Int32))] [.int v1, .int v0] G U := rfl
theorem sg_nu_94 (big : Nat → List Value → qM → qW → qR) (n0 : Nat) (G : qM) (U : qW) (v0 : Int32) (v1 : Int32) (v2 : Int32) : qm_run pm_m big m_208 (n0 + 2) 5 [(0, .ref 70), (1, .int v0), (2, .int v1), (3, .int v2), (4, .int (0 : Int32))] [] G U = qm_run pm_m big m_208 n0 7 [(0, .ref 70), (1, .int v0), (2, .int v1), (3, .int v2), (4, .int (0 : Int32))] [.int v2, .int v0] G U := rfl
theorem sg_nu_95 (big : Nat → List Value → qM → qW → qR) (n0 : Nat) (G : qM) (U : qW) (v0 : Int32) (v1 : Int32) (v2 : Int32) : qm_run pm_m big m_208 (n0 + 2) 10 [(0, .ref 70), (1, .int v0), (2, .int v1), (3, .int v2), (4, .int (0 : Int32))] [] G U = qm_run pm_m big m_208 n0 12 [(0, .ref 70), (1, .int v0), (2, .int v1), (3, .int v2), (4, .int (0 : Int32))] [.int v2, .int v1] G U := rfl
theorem sg_nu_96 (big : Nat → List Value → qM → qW → qR) (n0 : Nat) (G : qM) (U : qW) (v0 : Int32) (v1 : Int32) (v2 : Int32) : qm_run pm_m big m_208 (n0 + 5) 15 [(0, .ref 70), (1, .int v0), (2, .int v1), (3, .int v2), (4, .int (0 : Int32))] [] G U = qm_run pm_m big m_208 n0 24 [(0, .ref 70), (1, .int v0), (2, .int v1), (3, .int v2), (4, .int (0 : Int32)), (5, .int (1 : Int32))] [.int v0, .ref 70] G U := rfl
theorem sg_nu_97 (big : Nat → List Value → qM → qW → qR) (n0 : Nat) (G : qM) (U : qW) (v0 : Int32) (v1 : Int32) (v2 : Int32) : qm_run pm_m big m_208 (n0 + 3) 27 [(0, .ref 70), (1, .int v0), (2, .int v1), (3, .int v2), (4, .int (0 : Int32)), (5, .int (1 : Int32))] [.int (1 : Int32)] G U = qm_run pm_m big m_208 n0 32 [(0, .ref 70), (1, .int v0), (2, .int v1), (3, .int v2), (4, .int (0 : Int32)), (5, .int (1 : Int32))] [.int v1, .ref 70] G U := rfl
theorem sg_nu_98 (big : Nat → List Value → qM → qW → qR) (n0 : Nat) (G : qM) (U : qW) (v0 : Int32) (v1 : Int32) (v2 : Int32) : qm_run pm_m big m_208 (n0 + 3) 35 [(0, .ref 70), (1, .int v0), (2, .int v1), (3, .int v2), (4, .int (0 : Int32)), (5, .int (1 : Int32))] [.int (1 : Int32)] G U = qm_run pm_m big m_208 n0 40 [(0, .ref 70), (1, .int v0), (2, .int v1), (3, .int v2), (4, .int (0 : Int32)), (5, .int (1 : Int32))] [.int v2, .ref 70] G U := rfl
theorem sg_nu_99 (big : Nat → List Value → qM → qW → qR) (n0 : Nat) (G : qM) (U : qW) (v0 : Int32) (v1 : Int32) (v2 : Int32) : qm_run pm_m big m_208 (n0 + 7) 43 [(0, .ref 70), (1, .int v0), (2, .int v1), (3, .int v2), (4, .int (0 : Int32)), (5, .int (1 : Int32))] [.int (1 : Int32)] G U = qm_run pm_m big m_208 n0 76 [(0, .ref 70), (1, .int v0), (2, .int v1), (3, .int v2), (4, .int (0 : Int32)), (5, .int (1 : Int32)), (6, .int (0 : Int32))] [] G U := rfl
theorem sg_nu_100 (big : Nat → List Value → qM → qW → qR) (n0 : Nat) (G : qM) (U : qW) (v0 : Int32) (v1 : Int32) (v2 : Int32) : qm_run pm_m big m_208 (n0 + 2) 0 [(0, .ref 70), (1, .int v0), (2, .int v1), (3, .int v2), (4, .int (10 : Int32))] [] G U = qm_run pm_m big m_208 n0 2 [(0, .ref 70), (1, .int v0), (2, .int v1), (3, .int v2), (4, .int (10 : Int32))] [.int v1, .int v0] G U := rfl
theorem sg_nu_101 (big : Nat → List Value → qM → qW → qR) (n0 : Nat) (G : qM) (U : qW) (v0 : Int32) (v1 : Int32) (v2 : Int32) : qm_run pm_m big m_208 (n0 + 2) 5 [(0, .ref 70), (1, .int v0), (2, .int v1), (3, .int v2), (4, .int (10 : Int32))] [] G U = qm_run pm_m big m_208 n0 7 [(0, .ref 70), (1, .int v0), (2, .int v1), (3, .int v2), (4, .int (10 : Int32))] [.int v2, .int v0] G U := rfl
theorem sg_nu_102 (big : Nat → List Value → qM → qW → qR) (n0 : Nat) (G : qM) (U : qW) (v0 : Int32) (v1 : Int32) (v2 : Int32) : qm_run pm_m big m_208 (n0 + 2) 10 [(0, .ref 70), (1, .int v0), (2, .int v1), (3, .int v2), (4, .int (10 : Int32))] [] G U = qm_run pm_m big m_208 n0 12 [(0, .ref 70), (1, .int v0), (2, .int v1), (3, .int v2), (4, .int (10 : Int32))] [.int v2, .int v1] G U := rfl
theorem sg_nu_103 (big : Nat → List Value → qM → qW → qR) (n0 : Nat) (G : qM) (U : qW) (v0 : Int32) (v1 : Int32) (v2 : Int32) : qm_run pm_m big m_208 (n0 + 5) 15 [(0, .ref 70), (1, .int v0), (2, .int v1), (3, .int v2), (4, .int (10 : Int32))] [] G U = qm_run pm_m big m_208 n0 24 [(0, .ref 70), (1, .int v0), (2, .int v1), (3, .int v2), (4, .int (10 : Int32)), (5, .int (1 : Int32))] [.int v0, .ref 70] G U := rfl
theorem sg_nu_104 (big : Nat → List Value → qM → qW → qR) (n0 : Nat) (G : qM) (U : qW) (v0 : Int32) (v1 : Int32) (v2 : Int32) : qm_run pm_m big m_208 (n0 + 3) 27 [(0, .ref 70), (1, .int v0), (2, .int v1), (3, .int v2), (4, .int (10 : Int32)), (5, .int (1 : Int32))] [.int (1 : Int32)] G U = qm_run pm_m big m_208 n0 32 [(0, .ref 70), (1, .int v0), (2, .int v1), (3, .int v2), (4, .int (10 : Int32)), (5, .int (1 : Int32))] [.int v1, .ref 70] G U := rfl
theorem sg_nu_105 (big : Nat → List Value → qM → qW → qR) (n0 : Nat) (G : qM) (U : qW) (v0 : Int32) (v1 : Int32) (v2 : Int32) : qm_run pm_m big m_208 (n0 + 3) 35 [(0, .ref 70), (1, .int v0), (2, .int v1), (3, .int v2), (4, .int (10 : Int32)), (5, .int (1 : Int32))] [.int (1 : Int32)] G U = qm_run pm_m big m_208 n0 40 [(0, .ref 70), (1, .int v0), (2, .int v1), (3, .int v2), (4, .int (10 : Int32)), (5, .int (1 : Int32))] [.int v2, .ref 70] G U := rfl
theorem sg_nu_106 (big : Nat → List Value → qM → qW → qR) (n0 : Nat) (G : qM) (U : qW) (v0 : Int32) (v1 : Int32) (v2 : Int32) : qm_run pm_m big m_208 (n0 + 9) 43 [(0, .ref 70), (1, .int v0), (2, .int v1), (3, .int v2), (4, .int (10 : Int32)), (5, .int (1 : Int32))] [.int (1 : Int32)] G U = qm_run pm_m big m_208 n0 65 [(0, .ref 70), (1, .int v0), (2, .int v1), (3, .int v2), (4, .int (10 : Int32)), (5, .int (1 : Int32))] [.long (13 : Int64), .long (10 : Int64), .long (10 : Int64)] G U := rfl
theorem sg_nu_107 (big : Nat → List Value → qM → qW → qR) (n0 : Nat) (G : qM) (U : qW) (v0 : Int32) (v1 : Int32) (v2 : Int32) : qm_run pm_m big m_208 (n0 + 3) 68 [(0, .ref 70), (1, .int v0), (2, .int v1), (3, .int v2), (4, .int (10 : Int32)), (5, .int (1 : Int32))] [.int (1 : Int32)] G U = qm_run pm_m big m_208 n0 76 [(0, .ref 70), (1, .int v0), (2, .int v1), (3, .int v2), (4, .int (10 : Int32)), (5, .int (1 : Int32)), (6, .int (0 : Int32))] [] G U := rfl
theorem sg_nu_108 (big : Nat → List Value → qM → qW → qR) (n0 : Nat) (G : qM) (U : qW) (v0 : Int32) (v1 : Int32) (v2 : Int32) (v3 : Int32) (v4 : Int32) : qm_run pm_m big m_208 (n0 + 6) 150 [(0, .ref 70), (1, .int v0), (2, .int v1), (3, .int v2), (4, .int (10 : Int32)), (5, .int (1 : Int32)), (6, .int v3), (7, .int v4)] [] G U = qm_run pm_m big m_208 n0 167 [(0, .ref 70), (1, .int v0), (2, .int v1), (3, .int v2), (4, .int (10 : Int32)), (5, .int (1 : Int32)), (6, .int v3), (7, .int v4)] [.int v3, .int (0 : Int32)] G U := rfl
theorem sg_nu_109 (big : Nat → List Value → qM → qW → qR) (n0 : Nat) (G : qM) (U : qW) (v0 : Int32) (v1 : Int32) (v2 : Int32) : qm_run pm_m big m_208 (n0 + 2) 0 [(0, .ref 70), (1, .int v0), (2, .int v1), (3, .int v2), (4, .int (11 : Int32))] [] G U = qm_run pm_m big m_208 n0 2 [(0, .ref 70), (1, .int v0), (2, .int v1), (3, .int v2), (4, .int (11 : Int32))] [.int v1, .int v0] G U := rfl
theorem sg_nu_110 (big : Nat → List Value → qM → qW → qR) (n0 : Nat) (G : qM) (U : qW) (v0 : Int32) (v1 : Int32) (v2 : Int32) : qm_run pm_m big m_208 (n0 + 2) 5 [(0, .ref 70), (1, .int v0), (2, .int v1), (3, .int v2), (4, .int (11 : Int32))] [] G U = qm_run pm_m big m_208 n0 7 [(0, .ref 70), (1, .int v0), (2, .int v1), (3, .int v2), (4, .int (11 : Int32))] [.int v2, .int v0] G U := rfl
theorem sg_nu_111 (big : Nat → List Value → qM → qW → qR) (n0 : Nat) (G : qM) (U : qW) (v0 : Int32) (v1 : Int32) (v2 : Int32) : qm_run pm_m big m_208 (n0 + 2) 10 [(0, .ref 70), (1, .int v0), (2, .int v1), (3, .int v2), (4, .int (11 : Int32))] [] G U = qm_run pm_m big m_208 n0 12 [(0, .ref 70), (1, .int v0), (2, .int v1), (3, .int v2), (4, .int (11 : Int32))] [.int v2, .int v1] G U := rfl
theorem sg_nu_112 (big : Nat → List Value → qM → qW → qR) (n0 : Nat) (G : qM) (U : qW) (v0 : Int32) (v1 : Int32) (v2 : Int32) : qm_run pm_m big m_208 (n0 + 5) 15 [(0, .ref 70), (1, .int v0), (2, .int v1), (3, .int v2), (4, .int (11 : Int32))] [] G U = qm_run pm_m big m_208 n0 24 [(0, .ref 70), (1, .int v0), (2, .int v1), (3, .int v2), (4, .int (11 : Int32)), (5, .int (1 : Int32))] [.int v0, .ref 70] G U := rfl
theorem sg_nu_113 (big : Nat → List Value → qM → qW → qR) (n0 : Nat) (G : qM) (U : qW) (v0 : Int32) (v1 : Int32) (v2 : Int32) : qm_run pm_m big m_208 (n0 + 3) 27 [(0, .ref 70), (1, .int v0), (2, .int v1), (3, .int v2), (4, .int (11 : Int32)), (5, .int (1 : Int32))] [.int (1 : Int32)] G U = qm_run pm_m big m_208 n0 32 [(0, .ref 70), (1, .int v0), (2, .int v1), (3, .int v2), (4, .int (11 : Int32)), (5, .int (1 : Int32))] [.int v1, .ref 70] G U := rfl
theorem sg_nu_114 (big : Nat → List Value → qM → qW → qR) (n0 : Nat) (G : qM) (U : qW) (v0 : Int32) (v1 : Int32) (v2 : Int32) : qm_run pm_m big m_208 (n0 + 3) 35 [(0, .ref 70), (1, .int v0), (2, .int v1), (3, .int v2), (4, .int (11 : Int32)), (5, .int (1 : Int32))] [.int (1 : Int32)] G U = qm_run pm_m big m_208 n0 40 [(0, .ref 70), (1, .int v0), (2, .int v1), (3, .int v2), (4, .int (11 : Int32)), (5, .int (1 : Int32))] [.int v2, .ref 70] G U := rfl
theorem sg_nu_115 (big : Nat → List Value → qM → qW → qR) (n0 : Nat) (G : qM) (U : qW) (v0 : Int32) (v1 : Int32) (v2 : Int32) : qm_run pm_m big m_208 (n0 + 9) 43 [(0, .ref 70), (1, .int v0), (2, .int v1), (3, .int v2), (4, .int (11 : Int32)), (5, .int (1 : Int32))] [.int (1 : Int32)] G U = qm_run pm_m big m_208 n0 65 [(0, .ref 70), (1, .int v0), (2, .int v1), (3, .int v2), (4, .int (11 : Int32)), (5, .int (1 : Int32))] [.long (13 : Int64), .long (10 : Int64), .long (11 : Int64)] G U := rfl
theorem sg_nu_116 (big : Nat → List Value → qM → qW → qR) (n0 : Nat) (G : qM) (U : qW) (v0 : Int32) (v1 : Int32) (v2 : Int32) : qm_run pm_m big m_208 (n0 + 3) 68 [(0, .ref 70), (1, .int v0), (2, .int v1), (3, .int v2), (4, .int (11 : Int32)), (5, .int (1 : Int32))] [.int (1 : Int32)] G U = qm_run pm_m big m_208 n0 76 [(0, .ref 70), (1, .int v0), (2, .int v1), (3, .int v2), (4, .int (11 : Int32)), (5, .int (1 : Int32)), (6, .int (0 : Int32))] [] G U := rfl
theorem sg_nu_117 (big : Nat → List Value → qM → qW → qR) (n0 : Nat) (G : qM) (U : qW) (v0 : Int32) (v1 : Int32) (v2 : Int32) (v3 : Int32) (v4 : Int32) : qm_run pm_m big m_208 (n0 + 6) 150 [(0, .ref 70), (1, .int v0), (2, .int v1), (3, .int v2), (4, .int (11 : Int32)), (5, .int (1 : Int32)), (6, .int v3), (7, .int v4)] [] G U = qm_run pm_m big m_208 n0 167 [(0, .ref 70), (1, .int v0), (2, .int v1), (3, .int v2), (4, .int (11 : Int32)), (5, .int (1 : Int32)), (6, .int v3), (7, .int v4)] [.int v3, .int (1 : Int32)] G U := rfl
theorem sg_nu_118 (big : Nat → List Value → qM → qW → qR) (n0 : Nat) (G : qM) (U : qW) (v0 : Int32) (v1 : Int32) (v2 : Int32) : qm_run pm_m big m_208 (n0 + 2) 0 [(0, .ref 70), (1, .int v0), (2, .int v1), (3, .int v2), (4, .int (12 : Int32))] [] G U = qm_run pm_m big m_208 n0 2 [(0, .ref 70), (1, .int v0), (2, .int v1), (3, .int v2), (4, .int (12 : Int32))] [.int v1, .int v0] G U := rfl
theorem sg_nu_119 (big : Nat → List Value → qM → qW → qR) (n0 : Nat) (G : qM) (U : qW) (v0 : Int32) (v1 : Int32) (v2 : Int32) : qm_run pm_m big m_208 (n0 + 2) 5 [(0, .ref 70), (1, .int v0), (2, .int v1), (3, .int v2), (4, .int (12 : Int32))] [] G U = qm_run pm_m big m_208 n0 7 [(0, .ref 70), (1, .int v0), (2, .int v1), (3, .int v2), (4, .int (12 : Int32))] [.int v2, .int v0] G U := rfl
theorem sg_nu_120 (big : Nat → List Value → qM → qW → qR) (n0 : Nat) (G : qM) (U : qW) (v0 : Int32) (v1 : Int32) (v2 : Int32) : qm_run pm_m big m_208 (n0 + 2) 10 [(0, .ref 70), (1, .int v0), (2, .int v1), (3, .int v2), (4, .int (12 : Int32))] [] G U = qm_run pm_m big m_208 n0 12 [(0, .ref 70), (1, .int v0), (2, .int v1), (3, .int v2), (4, .int (12 : Int32))] [.int v2, .int v1] G U := rfl
theorem sg_nu_121 (big : Nat → List Value → qM → qW → qR) (n0 : Nat) (G : qM) (U : qW) (v0 : Int32) (v1 : Int32) (v2 : Int32) : qm_run pm_m big m_208 (n0 + 5) 15 [(0, .ref 70), (1, .int v0), (2, .int v1), (3, .int v2), (4, .int (12 : Int32))] [] G U = qm_run pm_m big m_208 n0 24 [(0, .ref 70), (1, .int v0), (2, .int v1), (3, .int v2), (4, .int (12 : Int32)), (5, .int (1 : Int32))] [.int v0, .ref 70] G U := rfl
theorem sg_nu_122 (big : Nat → List Value → qM → qW → qR) (n0 : Nat) (G : qM) (U : qW) (v0 : Int32) (v1 : Int32) (v2 : Int32) : qm_run pm_m big m_208 (n0 + 3) 27 [(0, .ref 70), (1, .int v0), (2, .int v1), (3, .int v2), (4, .int (12 : Int32)), (5, .int (1 : Int32))] [.int (1 : Int32)] G U = qm_run pm_m big m_208 n0 32 [(0, .ref 70), (1, .int v0), (2, .int v1), (3, .int v2), (4, .int (12 : Int32)), (5, .int (1 : Int32))] [.int v1, .ref 70] G U := rfl
theorem sg_nu_123 (big : Nat → List Value → qM → qW → qR) (n0 : Nat) (G : qM) (U : qW) (v0 : Int32) (v1 : Int32) (v2 : Int32) : qm_run pm_m big m_208 (n0 + 3) 35 [(0, .ref 70), (1, .int v0), (2, .int v1), (3, .int v2), (4, .int (12 : Int32)), (5, .int (1 : Int32))] [.int (1 : Int32)] G U = qm_run pm_m big m_208 n0 40 [(0, .ref 70), (1, .int v0), (2, .int v1), (3, .int v2), (4, .int (12 : Int32)), (5, .int (1 : Int32))] [.int v2, .ref 70] G U := rfl
theorem sg_nu_124 (big : Nat → List Value → qM → qW → qR) (n0 : Nat) (G : qM) (U : qW) (v0 : Int32) (v1 : Int32) (v2 : Int32) : qm_run pm_m big m_208 (n0 + 9) 43 [(0, .ref 70), (1, .int v0), (2, .int v1), (3, .int v2), (4, .int (12 : Int32)), (5, .int (1 : Int32))] [.int (1 : Int32)] G U = qm_run pm_m big m_208 n0 65 [(0, .ref 70), (1, .int v0), (2, .int v1), (3, .int v2), (4, .int (12 : Int32)), (5, .int (1 : Int32))] [.long (13 : Int64), .long (10 : Int64), .long (12 : Int64)] G U := rfl
theorem sg_nu_125 (big : Nat → List Value → qM → qW → qR) (n0 : Nat) (G : qM) (U : qW) (v0 : Int32) (v1 : Int32) (v2 : Int32) : qm_run pm_m big m_208 (n0 + 3) 68 [(0, .ref 70), (1, .int v0), (2, .int v1), (3, .int v2), (4, .int (12 : Int32)), (5, .int (1 : Int32))] [.int (1 : Int32)] G U = qm_run pm_m big m_208 n0 76 [(0, .ref 70), (1, .int v0), (2, .int v1), (3, .int v2), (4, .int (12 : Int32)), (5, .int (1 : Int32)), (6, .int (0 : Int32))] [] G U := rfl
theorem sg_nu_126 (big : Nat → List Value → qM → qW → qR) (n0 : Nat) (G : qM) (U : qW) (v0 : Int32) (v1 : Int32) (v2 : Int32) (v3 : Int32) (v4 : Int32) : qm_run pm_m big m_208 (n0 + 6) 150 [(0, .ref 70), (1, .int v0), (2, .int v1), (3, .int v2), (4, .int (12 : Int32)), (5, .int (1 : Int32)), (6, .int v3), (7, .int v4)] [] G U = qm_run pm_m big m_208 n0 167 [(0, .ref 70), (1, .int v0), (2, .int v1), (3, .int v2), (4, .int (12 : Int32)), (5, .int (1 : Int32)), (6, .int v3), (7, .int v4)] [.int v3, .int (2 : Int32)] G U := rfl
theorem sg_nu_127 (big : Nat → List Value → qM → qW → qR) (n0 : Nat) (G : qM) (U : qW) (v0 : Int32) (v1 : Int32) (v2 : Int32) : qm_run pm_m big m_208 (n0 + 2) 0 [(0, .ref 70), (1, .int v0), (2, .int v1), (3, .int v2), (4, .int (13 : Int32))] [] G U = qm_run pm_m big m_208 n0 2 [(0, .ref 70), (1, .int v0), (2, .int v1), (3, .int v2), (4, .int (13 : Int32))] [.int v1, .int v0] G U := rfl
theorem sg_nu_128 (big : Nat → List Value → qM → qW → qR) (n0 : Nat) (G : qM) (U : qW) (v0 : Int32) (v1 : Int32) (v2 : Int32) : qm_run pm_m big m_208 (n0 + 2) 5 [(0, .ref 70), (1, .int v0), (2, .int v1), (3, .int v2), (4, .int (13 : Int32))] [] G U = qm_run pm_m big m_208 n0 7 [(0, .ref 70), (1, .int v0), (2, .int v1), (3, .int v2), (4, .int (13 : Int32))] [.int v2, .int v0] G U := rfl
theorem sg_nu_129 (big : Nat → List Value → qM → qW → qR) (n0 : Nat) (G : qM) (U : qW) (v0 : Int32) (v1 : Int32) (v2 : Int32) : qm_run pm_m big m_208 (n0 + 2) 10 [(0, .ref 70), (1, .int v0), (2, .int v1), (3, .int v2), (4, .int (13 : Int32))] [] G U = qm_run pm_m big m_208 n0 12 [(0, .ref 70), (1, .int v0), (2, .int v1), (3, .int v2), (4, .int (13 : Int32))] [.int v2, .int v1] G U := rfl
theorem sg_nu_130 (big : Nat → List Value → qM → qW → qR) (n0 : Nat) (G : qM) (U : qW) (v0 : Int32) (v1 : Int32) (v2 : Int32) : qm_run pm_m big m_208 (n0 + 5) 15 [(0, .ref 70), (1, .int v0), (2, .int v1), (3, .int v2), (4, .int (13 : Int32))] [] G U = qm_run pm_m big m_208 n0 24 [(0, .ref 70), (1, .int v0), (2, .int v1), (3, .int v2), (4, .int (13 : Int32)), (5, .int (1 : Int32))] [.int v0, .ref 70] G U := rfl
theorem sg_nu_131 (big : Nat → List Value → qM → qW → qR) (n0 : Nat) (G : qM) (U : qW) (v0 : Int32) (v1 : Int32) (v2 : Int32) : qm_run pm_m big m_208 (n0 + 3) 27 [(0, .ref 70), (1, .int v0), (2, .int v1), (3, .int v2), (4, .int (13 : Int32)), (5, .int (1 : Int32))] [.int (1 : Int32)] G U = qm_run pm_m big m_208 n0 32 [(0, .ref 70), (1, .int v0), (2, .int v1), (3, .int v2), (4, .int (13 : Int32)), (5, .int (1 : Int32))] [.int v1, .ref 70] G U := rfl
theorem sg_nu_132 (big : Nat → List Value → qM → qW → qR) (n0 : Nat) (G : qM) (U : qW) (v0 : Int32) (v1 : Int32) (v2 : Int32) : qm_run pm_m big m_208 (n0 + 3) 35 [(0, .ref 70), (1, .int v0), (2, .int v1), (3, .int v2), (4, .int (13 : Int32)), (5, .int (1 : Int32))] [.int (1 : Int32)] G U = qm_run pm_m big m_208 n0 40 [(0, .ref 70), (1, .int v0), (2, .int v1), (3, .int v2), (4, .int (13 : Int32)), (5, .int (1 : Int32))] [.int v2, .ref 70] G U := rfl
theorem sg_nu_133 (big : Nat → List Value → qM → qW → qR) (n0 : Nat) (G : qM) (U : qW) (v0 : Int32) (v1 : Int32) (v2 : Int32) : qm_run pm_m big m_208 (n0 + 9) 43 [(0, .ref 70), (1, .int v0), (2, .int v1), (3, .int v2), (4, .int (13 : Int32)), (5, .int (1 : Int32))] [.int (1 : Int32)] G U = qm_run pm_m big m_208 n0 65 [(0, .ref 70), (1, .int v0), (2, .int v1), (3, .int v2), (4, .int (13 : Int32)), (5, .int (1 : Int32))] [.long (13 : Int64), .long (10 : Int64), .long (13 : Int64)] G U := rfl
theorem sg_nu_134 (big : Nat → List Value → qM → qW → qR) (n0 : Nat) (G : qM) (U : qW) (v0 : Int32) (v1 : Int32) (v2 : Int32) : qm_run pm_m big m_208 (n0 + 3) 68 [(0, .ref 70), (1, .int v0), (2, .int v1), (3, .int v2), (4, .int (13 : Int32)), (5, .int (1 : Int32))] [.int (1 : Int32)] G U = qm_run pm_m big m_208 n0 76 [(0, .ref 70), (1, .int v0), (2, .int v1), (3, .int v2), (4, .int (13 : Int32)), (5, .int (1 : Int32)), (6, .int (0 : Int32))] [] G U := rfl
theorem sg_nu_135 (big : Nat → List Value → qM → qW → qR) (n0 : Nat) (G : qM) (U : qW) (v0 : Int32) (v1 : Int32) (v2 : Int32) (v3 : Int32) (v4 : Int32) : qm_run pm_m big m_208 (n0 + 6) 150 [(0, .ref 70), (1, .int v0), (2, .int v1), (3, .int v2), (4, .int (13 : Int32)), (5, .int (1 : Int32)), (6, .int v3), (7, .int v4)] [] G U = qm_run pm_m big m_208 n0 167 [(0, .ref 70), (1, .int v0), (2, .int v1), (3, .int v2), (4, .int (13 : Int32)), (5, .int (1 : Int32)), (6, .int v3), (7, .int v4)] [.int v3, .int (3 : Int32)] G U := rfl
theorem b_fb (g : qM) (u : qW) {a b : Nat} (ha : a < 6) (hb : b < 6) (hw : ¬ g 35 0 ≤ 0) : q_BS 109 [.ref 35, .int (Int32.ofNat a), .int (Int32.ofNat b)] g u (some (.int (s_far (g 35 0) (g 36 b) (g 36 a))), g, u) := by
  refine q_bx (mm := m_109) rfl (Nat.le_of_ble_eq_true rfl) rfl ?_
  refine q_step 4 6 [(0, .ref 35), (1, .int (Int32.ofNat a)), (2, .int (Int32.ofNat b))] [.int (Int32.ofNat a), .ref 36, .ref 35] g u (fun big n0 => sg_nu_1 big n0 g u (Int32.ofNat a) (Int32.ofNat b)) ?_
  refine q_iald (j := a) (q_ixn (by omega) (by omega)) rfl rfl ?_
  refine q_call (M2 := 59) (rest := []) (b_col35 _ _ _ hw) (fun _ _ => rfl) ?_
  refine q_step 4 16 [(0, .ref 35), (1, .int (Int32.ofNat a)), (2, .int (Int32.ofNat b))] [.int (Int32.ofNat b), .ref 36, .ref 35, .int (s_col (g 35 0) (g 36 a))] g u (fun big n0 => sg_nu_2 big n0 g u (Int32.ofNat a) (Int32.ofNat b) (s_col (g 35 0) (g 36 a))) ?_
  refine q_iald (j := b) (q_ixn (by omega) (by omega)) rfl rfl ?_
  refine q_call (M2 := 59) (rest := [.int (s_col (g 35 0) (g 36 a))]) (b_col35 _ _ _ hw) (fun _ _ => rfl) ?_
  refine q_step 1 21 [(0, .ref 35), (1, .int (Int32.ofNat a)), (2, .int (Int32.ofNat b))] [.int ((s_col (g 35 0) (g 36 a)) - (s_col (g 35 0) (g 36 b)))] g u (fun big n0 => sg_nu_3 big n0 g u (Int32.ofNat a) (Int32.ofNat b) (s_col (g 35 0) (g 36 a)) (s_col (g 35 0) (g 36 b))) ?_
  refine q_call (M2 := 62) (rest := []) (b_abs _ _ _) (fun _ _ => rfl) ?_
  refine q_step 4 30 [(0, .ref 35), (1, .int (Int32.ofNat a)), (2, .int (Int32.ofNat b))] [.int (Int32.ofNat a), .ref 36, .ref 35, .int (s_abs ((s_col (g 35 0) (g 36 a)) - (s_col (g 35 0) (g 36 b))))] g u (fun big n0 => sg_nu_4 big n0 g u (Int32.ofNat a) (Int32.ofNat b) (s_abs ((s_col (g 35 0) (g 36 a)) - (s_col (g 35 0) (g 36 b))))) ?_
  refine q_iald (j := a) (q_ixn (by omega) (by omega)) rfl rfl ?_
  refine q_call (M2 := 60) (rest := [.int (s_abs ((s_col (g 35 0) (g 36 a)) - (s_col (g 35 0) (g 36 b))))]) (b_row35 _ _ _ hw) (fun _ _ => rfl) ?_
  refine q_step 4 40 [(0, .ref 35), (1, .int (Int32.ofNat a)), (2, .int (Int32.ofNat b))] [.int (Int32.ofNat b), .ref 36, .ref 35, .int (s_row (g 35 0) (g 36 a)), .int (s_abs ((s_col (g 35 0) (g 36 a)) - (s_col (g 35 0) (g 36 b))))] g u (fun big n0 => sg_nu_5 big n0 g u (Int32.ofNat a) (Int32.ofNat b) (s_abs ((s_col (g 35 0) (g 36 a)) - (s_col (g 35 0) (g 36 b)))) (s_row (g 35 0) (g 36 a))) ?_
  refine q_iald (j := b) (q_ixn (by omega) (by omega)) rfl rfl ?_
  refine q_call (M2 := 60) (rest := [.int (s_row (g 35 0) (g 36 a)), .int (s_abs ((s_col (g 35 0) (g 36 a)) - (s_col (g 35 0) (g 36 b))))]) (b_row35 _ _ _ hw) (fun _ _ => rfl) ?_
  refine q_step 1 45 [(0, .ref 35), (1, .int (Int32.ofNat a)), (2, .int (Int32.ofNat b))] [.int ((s_row (g 35 0) (g 36 a)) - (s_row (g 35 0) (g 36 b))), .int (s_abs ((s_col (g 35 0) (g 36 a)) - (s_col (g 35 0) (g 36 b))))] g u (fun big n0 => sg_nu_6 big n0 g u (Int32.ofNat a) (Int32.ofNat b) (s_abs ((s_col (g 35 0) (g 36 a)) - (s_col (g 35 0) (g 36 b)))) (s_row (g 35 0) (g 36 a)) (s_row (g 35 0) (g 36 b))) ?_
  refine q_call (M2 := 62) (rest := [.int (s_abs ((s_col (g 35 0) (g 36 a)) - (s_col (g 35 0) (g 36 b))))]) (b_abs _ _ _) (fun _ _ => rfl) ?_
  refine q_ret 2 (some (.int ((s_abs ((s_col (g 35 0) (g 36 a)) - (s_col (g 35 0) (g 36 b)))) + (s_abs ((s_row (g 35 0) (g 36 a)) - (s_row (g 35 0) (g 36 b)))))), g, u) (fun _ _ => rfl) ?_
  rfl
theorem nt_l (u : qW) {n W H p row s : Nat} {r : qM} (h6 : n ≤ 6) (hp : p < n) (hs : s ≤ 4) : ∀ k i g r1, i + k = s → w_ok n W H r1 → w_cs 35 n g r1 → w_tr n g r → q_EV m_108 11 [(0, .ref 34), (1, .ref 20), (2, .int (Int32.ofNat p)), (3, .int (Int32.ofNat row)), (4, .int (Int32.ofNat s)), (5, .int (Int32.ofNat i))] [] g u (fun R => ∃ g', R = (none, g', u) ∧ w_cs 35 n g' (f_nu n p row s k i r1) ∧ w_fc g g' ∧ w_tr n g' r) := by
  intro k
  induction k with
  | zero =>
    intro i g r1 hi h hc ht
    refine q_step 2 15 [(0, .ref 34), (1, .ref 20), (2, .int (Int32.ofNat p)), (3, .int (Int32.ofNat row)), (4, .int (Int32.ofNat s)), (5, .int (Int32.ofNat i))] [.int (Int32.ofNat s), .int (Int32.ofNat i)] g u (fun big n0 => sg_nu_7 big n0 g u (Int32.ofNat p) (Int32.ofNat row) (Int32.ofNat s) (Int32.ofNat i)) ?_
    refine q_ic_ge rfl (fun (hc0 : (Int32.ofNat s) ≤ (Int32.ofNat i)) => ?_) (fun hc0 => absurd (show (Int32.ofNat s) ≤ (Int32.ofNat i) from by exact (q_le (by omega) (by omega)).mpr (by omega)) hc0)
    refine q_ret 1 (none, g, u) (fun _ _ => rfl) ?_
    exact ⟨g, rfl, hc, w_fc_rfl g, ht⟩
  | succ k ih =>
    intro i g r1 hi h hc ht
    refine q_step 2 15 [(0, .ref 34), (1, .ref 20), (2, .int (Int32.ofNat p)), (3, .int (Int32.ofNat row)), (4, .int (Int32.ofNat s)), (5, .int (Int32.ofNat i))] [.int (Int32.ofNat s), .int (Int32.ofNat i)] g u (fun big n0 => sg_nu_7 big n0 g u (Int32.ofNat p) (Int32.ofNat row) (Int32.ofNat s) (Int32.ofNat i)) ?_
    refine q_ic_ge rfl (fun hc0 => absurd (show (Int32.ofNat s) ≤ (Int32.ofNat i) from hc0) (fun z => by exact absurd ((q_le (by omega) (by omega)).mp z) (by omega))) (fun (hc0 : ¬ ((Int32.ofNat s) ≤ (Int32.ofNat i))) => ?_)
    refine q_step 7 31 [(0, .ref 34), (1, .ref 20), (2, .int (Int32.ofNat p)), (3, .int (Int32.ofNat row)), (4, .int (Int32.ofNat s)), (5, .int (Int32.ofNat i))] [.int (Int32.ofNat s), .int (Int32.ofNat i), .int (Int32.ofNat row), .int (Int32.ofNat p), .ref 37] g u (fun big n0 => sg_nu_8 big n0 g u (Int32.ofNat p) (Int32.ofNat row) (Int32.ofNat s) (Int32.ofNat i)) ?_
    refine q_call (M2 := 96) (rest := [.int (Int32.ofNat p), .ref 37]) (b_dig (Int32.ofNat row) (Int32.ofNat i) (Int32.ofNat s) g u) (fun _ _ => rfl) ?_
    refine q_iast (j := p) (q_ixn (by omega) (by omega)) rfl rfl ?_
    refine q_step 4 43 [(0, .ref 34), (1, .ref 20), (2, .int (Int32.ofNat p)), (3, .int (Int32.ofNat row)), (4, .int (Int32.ofNat s)), (5, .int (Int32.ofNat i))] [.ref 35, .ref 28] (q_up g 37 p (f_md s row i)) u (fun big n0 => sg_nu_9 big n0 (q_up g 37 p (f_md s row i)) u (Int32.ofNat p) (Int32.ofNat row) (Int32.ofNat s) (Int32.ofNat i)) ?_
    have hk := w_ok_md (p := p) h (s_dg_4 (Int32.ofNat row) (Int32.ofNat s) (Int32.ofNat i))
    have hd := w_cs_md (p := p) (x := f_md s row i) hc
    refine q_call (M2 := 68) (rest := []) (c_st35 u hk hd) (fun _ _ => rfl) ?_
    refine q_step 2 11 [(0, .ref 34), (1, .ref 20), (2, .int (Int32.ofNat p)), (3, .int (Int32.ofNat row)), (4, .int (Int32.ofNat s)), (5, .int ((Int32.ofNat i) + (1 : Int32)))] [] (s_step 35 n (q_up g 37 p (f_md s row i))) u (fun big n0 => sg_nu_10 big n0 (s_step 35 n (q_up g 37 p (f_md s row i))) u (Int32.ofNat p) (Int32.ofNat row) (Int32.ofNat s) (Int32.ofNat i)) ?_
    have hf : w_fc g (s_step 35 n (q_up g 37 p (f_md s row i))) := w_fc.trans ((w_fc_rfl g).up (by omega)) s_step_35
    rw [q_succ]
    exact q_EV.imp (ih (i + 1) _ _ (by omega) (w_ok_rst hk) (w_step35 hk hd).2.1 (w_tr_step (w_tr_m ht))) (fun R z => by
      obtain ⟨g', e, a, b, c⟩ := z
      exact ⟨g', e, a, w_fc.trans hf b, c⟩)
theorem c_nt {n W H p row s : Nat} {g r : qM} (u : qW) (h : w_ok n W H r) (hp : p < n) (hs : s ≤ 4) (hc : w_cs 20 n g r) (ht : w_tr n g r) : ∃ g', q_BS 108 [.ref 34, .ref 20, .int (Int32.ofNat p), .int (Int32.ofNat row), .int (Int32.ofNat s)] g u (none, g', u) ∧ w_cs 35 n g' (f_nu n p row s s 0 r) ∧ w_fc g g' ∧ w_tr n g' r := by
  have hy := w_cpl h.1.2.2.2.2 hc ht
  obtain ⟨R, hR, g', e, a, b, c⟩ : ∃ R, q_BS 108 [.ref 34, .ref 20, .int (Int32.ofNat p), .int (Int32.ofNat row), .int (Int32.ofNat s)] g u R ∧ ∃ g', R = (none, g', u) ∧ w_cs 35 n g' (f_nu n p row s s 0 r) ∧ w_fc (s_cpl 35 20 g) g' ∧ w_tr n g' r := by
    refine q_bs (mm := m_108) rfl (Nat.le_of_ble_eq_true rfl) rfl ?_
    refine q_step 3 5 [(0, .ref 34), (1, .ref 20), (2, .int (Int32.ofNat p)), (3, .int (Int32.ofNat row)), (4, .int (Int32.ofNat s))] [.ref 20, .ref 35] g u (fun big n0 => sg_nu_11 big n0 g u (Int32.ofNat p) (Int32.ofNat row) (Int32.ofNat s)) ?_
    refine q_call (M2 := 42) (rest := []) (b_cpl35_20 _ _) (fun _ _ => rfl) ?_
    refine q_step 2 11 [(0, .ref 34), (1, .ref 20), (2, .int (Int32.ofNat p)), (3, .int (Int32.ofNat row)), (4, .int (Int32.ofNat s)), (5, .int (0 : Int32))] [] (s_cpl 35 20 g) u (fun big n0 => sg_nu_12 big n0 (s_cpl 35 20 g) u (Int32.ofNat p) (Int32.ofNat row) (Int32.ofNat s)) ?_
    exact nt_l u h.1.2.2.2.2 hp hs s 0 (s_cpl 35 20 g) r (by omega) h hy (w_tr_cpl ht)
  rw [e] at hR
  exact ⟨g', hR, a, w_fc.trans w_cpl_fc b, c⟩
theorem sp_in (u : qW) {n W H p a b : Nat} {r : qM} (h : w_ok n W H r) (hp : p < n) (ha : a < n) (hb : b < n) {s : Nat} (hs4 : s ≤ 4) (h4 : 4 ^ s ≤ 256) {Q : Option Value × qM × qW → Prop} : ∀ k row g, row + k = 4 ^ s → w_cs 20 n g r → w_tr n g r → (f_fi ((n_nur n p a b r) s) k row = none → ∀ g2, w_fc g g2 → w_cs 20 n g2 r → w_tr n g2 r → q_EV m_107 70 [(0, .ref 34), (1, .ref 20), (2, .int (Int32.ofNat p)), (3, .int (Int32.ofNat a)), (4, .int (Int32.ofNat b)), (5, .int (Int32.ofNat s)), (6, .int (Int32.ofNat (4 ^ s)))] [] g2 u Q) → (∀ x g2, f_fi ((n_nur n p a b r) s) k row = some x → w_fc g g2 → Q (some (.int (Int32.ofNat s * (1024 : Int32) + Int32.ofNat x)), g2, u)) → q_EV m_107 20 [(0, .ref 34), (1, .ref 20), (2, .int (Int32.ofNat p)), (3, .int (Int32.ofNat a)), (4, .int (Int32.ofNat b)), (5, .int (Int32.ofNat s)), (6, .int (Int32.ofNat row))] [] g u Q := by
  intro k
  induction k with
  | zero =>
    intro row g hrow hc ht hk hs
    refine q_step 2 24 [(0, .ref 34), (1, .ref 20), (2, .int (Int32.ofNat p)), (3, .int (Int32.ofNat a)), (4, .int (Int32.ofNat b)), (5, .int (Int32.ofNat s)), (6, .int (Int32.ofNat row))] [.int (Int32.ofNat s), .int (Int32.ofNat row)] g u (fun big n0 => sg_nu_13 big n0 g u (Int32.ofNat p) (Int32.ofNat a) (Int32.ofNat b) (Int32.ofNat s) (Int32.ofNat row)) ?_
    refine q_call (M2 := 93) (rest := [.int (Int32.ofNat row)]) (b_rows _ _ _) (fun _ _ => rfl) ?_
    refine q_ic_ge rfl (fun (hc0 : (s_rows (Int32.ofNat s)) ≤ (Int32.ofNat row)) => ?_) (fun hc0 => absurd (show (s_rows (Int32.ofNat s)) ≤ (Int32.ofNat row) from by rw [s_rows_n (by omega)]; exact (q_le (by omega) (by omega)).mpr (by omega)) hc0)
    have e : row = 4 ^ s := by omega
    rw [e]
    exact hk rfl g (w_fc_rfl g) hc ht
  | succ k ih =>
    intro row g hrow hc ht hk hs
    refine q_step 2 24 [(0, .ref 34), (1, .ref 20), (2, .int (Int32.ofNat p)), (3, .int (Int32.ofNat a)), (4, .int (Int32.ofNat b)), (5, .int (Int32.ofNat s)), (6, .int (Int32.ofNat row))] [.int (Int32.ofNat s), .int (Int32.ofNat row)] g u (fun big n0 => sg_nu_13 big n0 g u (Int32.ofNat p) (Int32.ofNat a) (Int32.ofNat b) (Int32.ofNat s) (Int32.ofNat row)) ?_
    refine q_call (M2 := 93) (rest := [.int (Int32.ofNat row)]) (b_rows _ _ _) (fun _ _ => rfl) ?_
    refine q_ic_ge rfl (fun hc0 => absurd (show (s_rows (Int32.ofNat s)) ≤ (Int32.ofNat row) from hc0) (fun z => by rw [s_rows_n (by omega)] at z; exact absurd ((q_le (by omega) (by omega)).mp z) (by omega))) (fun (hc0 : ¬ ((s_rows (Int32.ofNat s)) ≤ (Int32.ofNat row))) => ?_)
    refine q_step 5 37 [(0, .ref 34), (1, .ref 20), (2, .int (Int32.ofNat p)), (3, .int (Int32.ofNat a)), (4, .int (Int32.ofNat b)), (5, .int (Int32.ofNat s)), (6, .int (Int32.ofNat row))] [.int (Int32.ofNat s), .int (Int32.ofNat row), .int (Int32.ofNat p), .ref 20, .ref 34] g u (fun big n0 => sg_nu_14 big n0 g u (Int32.ofNat p) (Int32.ofNat a) (Int32.ofNat b) (Int32.ofNat s) (Int32.ofNat row)) ?_
    obtain ⟨g1, hnt, hc1, hf1, ht1⟩ := c_nt (row := row) u h hp hs4 hc ht
    have hkn := w_ok_nu (p := p) (row := row) (s := s) s 0 r h
    have hfb := b_fb g1 u (a := a) (b := b) (by have := h.1.2.2.2.2; omega) (by have := h.1.2.2.2.2; omega) (s_tw_far h.1.1 h.1.2.1 h.1.2.2.2.1 (w_tws hkn hc1)).1
    rw [show s_far (g1 35 0) (g1 36 b) (g1 36 a) = f_far (f_nu n p row s s 0 r) a b from by unfold f_far; rw [hc1.1.2.1, show g1 36 b = _ from (hc1.2.2 b hb).1, show g1 36 a = _ from (hc1.2.2 a ha).1]] at hfb
    refine q_call (M2 := 108) (rest := []) (hnt) (fun _ _ => rfl) ?_
    refine q_step 4 47 [(0, .ref 34), (1, .ref 20), (2, .int (Int32.ofNat p)), (3, .int (Int32.ofNat a)), (4, .int (Int32.ofNat b)), (5, .int (Int32.ofNat s)), (6, .int (Int32.ofNat row))] [.int (Int32.ofNat b), .int (Int32.ofNat a), .ref 35] g1 u (fun big n0 => sg_nu_15 big n0 g1 u (Int32.ofNat p) (Int32.ofNat a) (Int32.ofNat b) (Int32.ofNat s) (Int32.ofNat row)) ?_
    refine q_call (M2 := 109) (rest := []) (hfb) (fun _ _ => rfl) ?_
    refine q_step 1 51 [(0, .ref 34), (1, .ref 20), (2, .int (Int32.ofNat p)), (3, .int (Int32.ofNat a)), (4, .int (Int32.ofNat b)), (5, .int (Int32.ofNat s)), (6, .int (Int32.ofNat row))] [.int (1 : Int32), .int (f_far (f_nu n p row s s 0 r) a b)] g1 u (fun big n0 => sg_nu_16 big n0 g1 u (Int32.ofNat p) (Int32.ofNat a) (Int32.ofNat b) (Int32.ofNat s) (Int32.ofNat row) (f_far (f_nu n p row s s 0 r) a b)) ?_
    refine q_ic_le rfl (fun (hc1 : (f_far (f_nu n p row s s 0 r) a b) ≤ (1 : Int32)) => ?_) (fun (hc1 : ¬ ((f_far (f_nu n p row s s 0 r) a b) ≤ (1 : Int32))) => ?_)
    · refine q_step 2 20 [(0, .ref 34), (1, .ref 20), (2, .int (Int32.ofNat p)), (3, .int (Int32.ofNat a)), (4, .int (Int32.ofNat b)), (5, .int (Int32.ofNat s)), (6, .int ((Int32.ofNat row) + (1 : Int32)))] [] g1 u (fun big n0 => sg_nu_17 big n0 g1 u (Int32.ofNat p) (Int32.ofNat a) (Int32.ofNat b) (Int32.ofNat s) (Int32.ofNat row)) ?_
      have e : f_fi ((n_nur n p a b r) s) (k + 1) row = f_fi ((n_nur n p a b r) s) k (row + 1) := by rw [f_fi, if_pos (n_nur_iff.mpr hc1)]
      rw [q_succ]
      exact ih (row + 1) g1 (by omega) (w_cs_fc hf1 hc) ht1 (fun z g2 f1 => hk (e.trans z) g2 (w_fc.trans hf1 f1)) (fun x g2 z f1 => hs x g2 (e.trans z) (w_fc.trans hf1 f1))
    · refine q_ret 6 (some (.int (((Int32.ofNat s) * (1024 : Int32)) + (Int32.ofNat row))), g1, u) (fun _ _ => rfl) ?_
      exact hs row g1 (by rw [f_fi, if_neg (fun z => hc1 (n_nur_iff.mp z))]) hf1
theorem sp_ou (u : qW) {n W H p a b : Nat} {r : qM} (h : w_ok n W H r) (hp : p < n) (ha : a < n) (hb : b < n) : ∀ k s g, s + k = 5 → w_cs 20 n g r → w_tr n g r → q_EV m_107 11 [(0, .ref 34), (1, .ref 20), (2, .int (Int32.ofNat p)), (3, .int (Int32.ofNat a)), (4, .int (Int32.ofNat b)), (5, .int (Int32.ofNat s))] [] g u (w_po w_fc g (.int (f_enc (f_nof (n_nur n p a b r) k s)))) := by
  intro k
  induction k with
  | zero =>
    intro s g hi hc ht
    refine q_step 2 14 [(0, .ref 34), (1, .ref 20), (2, .int (Int32.ofNat p)), (3, .int (Int32.ofNat a)), (4, .int (Int32.ofNat b)), (5, .int (Int32.ofNat s))] [.int (4 : Int32), .int (Int32.ofNat s)] g u (fun big n0 => sg_nu_18 big n0 g u (Int32.ofNat p) (Int32.ofNat a) (Int32.ofNat b) (Int32.ofNat s)) ?_
    refine q_ic_gt rfl (fun (hc0 : (4 : Int32) < (Int32.ofNat s)) => ?_) (fun hc0 => absurd (show (4 : Int32) < (Int32.ofNat s) from by rw [show s = 5 by omega]; decide) hc0)
    refine q_ret 2 (some (.int (Int8.toInt32 (Int8.ofInt (-4)))), g, u) (fun _ _ => rfl) ?_
    exact ⟨g, u, rfl, w_fc_rfl g⟩
  | succ k ih =>
    intro s g hi hc ht
    refine q_step 2 14 [(0, .ref 34), (1, .ref 20), (2, .int (Int32.ofNat p)), (3, .int (Int32.ofNat a)), (4, .int (Int32.ofNat b)), (5, .int (Int32.ofNat s))] [.int (4 : Int32), .int (Int32.ofNat s)] g u (fun big n0 => sg_nu_18 big n0 g u (Int32.ofNat p) (Int32.ofNat a) (Int32.ofNat b) (Int32.ofNat s)) ?_
    refine q_ic_gt rfl (fun hc0 => absurd (show (4 : Int32) < (Int32.ofNat s) from hc0) (fun z => by have z1 := (q_lt (i := 4) (j := s) (by omega) (by omega)).mp z; omega)) (fun (hc0 : ¬ ((4 : Int32) < (Int32.ofNat s))) => ?_)
    refine q_step 2 20 [(0, .ref 34), (1, .ref 20), (2, .int (Int32.ofNat p)), (3, .int (Int32.ofNat a)), (4, .int (Int32.ofNat b)), (5, .int (Int32.ofNat s)), (6, .int (0 : Int32))] [] g u (fun big n0 => sg_nu_19 big n0 g u (Int32.ofNat p) (Int32.ofNat a) (Int32.ofNat b) (Int32.ofNat s)) ?_
    refine sp_in u h hp ha hb (s := s) (by omega) (s_44 (by omega)) (4 ^ s) 0 g (by omega) hc ht (fun hz g2 f1 hc2 ht2 => ?_) (fun x g2 hx f1 => ?_)
    · refine q_step 2 11 [(0, .ref 34), (1, .ref 20), (2, .int (Int32.ofNat p)), (3, .int (Int32.ofNat a)), (4, .int (Int32.ofNat b)), (5, .int ((Int32.ofNat s) + (1 : Int32))), (6, .int (Int32.ofNat (4 ^ s)))] [] g2 u (fun big n0 => sg_nu_20 big n0 g2 u (Int32.ofNat p) (Int32.ofNat a) (Int32.ofNat b) (Int32.ofNat s) (Int32.ofNat (4 ^ s))) ?_
      refine q_weak [(0, .ref 34), (1, .ref 20), (2, .int (Int32.ofNat p)), (3, .int (Int32.ofNat a)), (4, .int (Int32.ofNat b)), (5, .int ((Int32.ofNat s) + (1 : Int32)))] (q_sub.cons rfl (q_sub.cons rfl (q_sub.cons rfl (q_sub.cons rfl (q_sub.cons rfl (q_sub.cons rfl q_sub.nil)))))) ?_
      have e : f_nof (n_nur n p a b r) (k + 1) s = f_nof (n_nur n p a b r) k (s + 1) := by rw [f_nof, hz]
      rw [q_succ]
      exact q_EV.imp (ih (s + 1) g2 (by omega) hc2 ht2) (fun R z => w_po_c f1 (by rw [e]) z)
    · exact ⟨g2, u, by rw [f_nof, hx, show (1024 : Int32) = Int32.ofNat 1024 from rfl, q_mul, q_add]; rfl, f1⟩
theorem c_par107 {n W H : Nat} {g r : qM} (u : qW) (h : w_ok n W H r) (hc : w_cs 20 n g r) {p a b : Nat} (hp : p < n) (ha : a < n) (hb : b < n) : w_BS w_fc 107 [.ref 34, .ref 20, .int (Int32.ofNat p), .int (Int32.ofNat a), .int (Int32.ofNat b)] g u (.int (f_enc (f_nur n p a b r))) := by
  refine w_bs (mm := m_107) rfl (Nat.le_of_ble_eq_true rfl) rfl ?_
  have h5 : n ≤ 6 := h.1.2.2.2.2
  have hy := w_cpy (a := 35) (b := 20) h5 (by omega) hc
  refine q_step 3 5 [(0, .ref 34), (1, .ref 20), (2, .int (Int32.ofNat p)), (3, .int (Int32.ofNat a)), (4, .int (Int32.ofNat b))] [.ref 20, .ref 35] g u (fun big n0 => sg_nu_21 big n0 g u (Int32.ofNat p) (Int32.ofNat a) (Int32.ofNat b)) ?_
  refine q_call (M2 := 41) (rest := []) (b_cpy35_20 _ _) (fun _ _ => rfl) ?_
  refine q_step 2 11 [(0, .ref 34), (1, .ref 20), (2, .int (Int32.ofNat p)), (3, .int (Int32.ofNat a)), (4, .int (Int32.ofNat b)), (5, .int (0 : Int32))] [] (s_cpy 35 20 g) u (fun big n0 => sg_nu_22 big n0 (s_cpy 35 20 g) u (Int32.ofNat p) (Int32.ofNat a) (Int32.ofNat b)) ?_
  exact q_EV.imp (sp_ou u h hp ha hb 5 0 (s_cpy 35 20 g) (by omega) (w_cs_fc w_cpy_fc hc) (w_cs_tr hy)) (fun R z => w_po_c w_cpy_fc rfl z)
theorem c_nurse0 {n W H : Nat} {g r : qM} (u : qW) (h : w_ok n W H r) (hc : w_cs 20 n g r) {p a b : Nat} (hp : p < n) (ha : a < n) (hb : b < n) (hpa : p ≠ a) (hpb : p ≠ b) (hab : a ≠ b) : w_BS w_fc 106 [.ref 8, .int (Int32.ofNat p), .int (Int32.ofNat a), .int (Int32.ofNat b), .int (0 : Int32)] g u (.int (f_nuw 0 (f_nur n p a b r))) := by
  refine w_bs (mm := m_106) rfl (Nat.le_of_ble_eq_true rfl) rfl ?_
  have h5 : n ≤ 6 := h.1.2.2.2.2
  obtain ⟨g1, u1, hbb, hf⟩ := c_par107 u h hc hp ha hb
  cases hF : f_nur n p a b r with
  | none =>
    rw [hF] at hbb
    refine q_step 3 5 [(0, .ref 8), (1, .int (Int32.ofNat p)), (2, .int (Int32.ofNat a)), (3, .int (Int32.ofNat b)), (4, .int (0 : Int32))] [.int (Int32.ofNat p), .ref 20] g u (fun big n0 => sg_nu_23 big n0 g u (Int32.ofNat p) (Int32.ofNat a) (Int32.ofNat b)) ?_
    refine q_call (M2 := 40) (rest := []) (b_hasOne1 g u (hc.1.1.trans h.2.1) h.1.2.2.2.2 hp) (fun _ _ => rfl) ?_
    refine q_step 4 16 [(0, .ref 8), (1, .int (Int32.ofNat p)), (2, .int (Int32.ofNat a)), (3, .int (Int32.ofNat b)), (4, .int (0 : Int32))] [.int (Int32.ofNat a), .ref 20] g u (fun big n0 => sg_nu_24 big n0 g u (Int32.ofNat p) (Int32.ofNat a) (Int32.ofNat b)) ?_
    refine q_call (M2 := 40) (rest := []) (b_hasOne1 g u (hc.1.1.trans h.2.1) h.1.2.2.2.2 ha) (fun _ _ => rfl) ?_
    refine q_step 4 27 [(0, .ref 8), (1, .int (Int32.ofNat p)), (2, .int (Int32.ofNat a)), (3, .int (Int32.ofNat b)), (4, .int (0 : Int32))] [.int (Int32.ofNat b), .ref 20] g u (fun big n0 => sg_nu_25 big n0 g u (Int32.ofNat p) (Int32.ofNat a) (Int32.ofNat b)) ?_
    refine q_call (M2 := 40) (rest := []) (b_hasOne1 g u (hc.1.1.trans h.2.1) h.1.2.2.2.2 hb) (fun _ _ => rfl) ?_
    refine q_step 3 35 [(0, .ref 8), (1, .int (Int32.ofNat p)), (2, .int (Int32.ofNat a)), (3, .int (Int32.ofNat b)), (4, .int (0 : Int32))] [.int (Int32.ofNat a), .int (Int32.ofNat p)] g u (fun big n0 => sg_nu_26 big n0 g u (Int32.ofNat p) (Int32.ofNat a) (Int32.ofNat b)) ?_
    refine q_ic_eq rfl (fun hc0 => absurd (show (Int32.ofNat p) = (Int32.ofNat a) from hc0) (fun z => hpa ((q_eq (by omega) (by omega)).mp z))) (fun (hc0 : ¬ ((Int32.ofNat p) = (Int32.ofNat a))) => ?_)
    refine q_step 2 40 [(0, .ref 8), (1, .int (Int32.ofNat p)), (2, .int (Int32.ofNat a)), (3, .int (Int32.ofNat b)), (4, .int (0 : Int32))] [.int (Int32.ofNat b), .int (Int32.ofNat p)] g u (fun big n0 => sg_nu_27 big n0 g u (Int32.ofNat p) (Int32.ofNat a) (Int32.ofNat b)) ?_
    refine q_ic_eq rfl (fun hc1 => absurd (show (Int32.ofNat p) = (Int32.ofNat b) from hc1) (fun z => hpb ((q_eq (by omega) (by omega)).mp z))) (fun (hc1 : ¬ ((Int32.ofNat p) = (Int32.ofNat b))) => ?_)
    refine q_step 2 45 [(0, .ref 8), (1, .int (Int32.ofNat p)), (2, .int (Int32.ofNat a)), (3, .int (Int32.ofNat b)), (4, .int (0 : Int32))] [.int (Int32.ofNat b), .int (Int32.ofNat a)] g u (fun big n0 => sg_nu_28 big n0 g u (Int32.ofNat p) (Int32.ofNat a) (Int32.ofNat b)) ?_
    refine q_ic_ne rfl (fun hc2 => absurd (show (Int32.ofNat a) = (Int32.ofNat b) from hc2) (fun z => hab ((q_eq (by omega) (by omega)).mp z))) (fun (hc2 : ¬ ((Int32.ofNat a) = (Int32.ofNat b))) => ?_)
    refine q_step 13 88 [(0, .ref 8), (1, .int (Int32.ofNat p)), (2, .int (Int32.ofNat a)), (3, .int (Int32.ofNat b)), (4, .int (0 : Int32)), (5, .int ((0 : Int32) - (10 : Int32)))] [.int (Int32.ofNat b), .int (Int32.ofNat a), .int (Int32.ofNat p), .ref 20, .ref 34] g u (fun big n0 => sg_nu_29 big n0 g u (Int32.ofNat p) (Int32.ofNat a) (Int32.ofNat b)) ?_
    refine q_call (M2 := 107) (rest := []) (hbb) (fun _ _ => rfl) ?_
    refine q_ret 6 (some (.int (Int8.toInt32 (Int8.ofInt (-4)))), g1, u1) (fun _ _ => rfl) ?_
    exact ⟨g1, u1, rfl, hf⟩
  | some z =>
    obtain ⟨s, row⟩ := z
    rw [hF] at hbb
    have hl := f_nof_lt 5 0 s row hF
    have h44 := s_44 (s := s) (by omega)
    refine q_step 3 5 [(0, .ref 8), (1, .int (Int32.ofNat p)), (2, .int (Int32.ofNat a)), (3, .int (Int32.ofNat b)), (4, .int (0 : Int32))] [.int (Int32.ofNat p), .ref 20] g u (fun big n0 => sg_nu_23 big n0 g u (Int32.ofNat p) (Int32.ofNat a) (Int32.ofNat b)) ?_
    refine q_call (M2 := 40) (rest := []) (b_hasOne1 g u (hc.1.1.trans h.2.1) h.1.2.2.2.2 hp) (fun _ _ => rfl) ?_
    refine q_step 4 16 [(0, .ref 8), (1, .int (Int32.ofNat p)), (2, .int (Int32.ofNat a)), (3, .int (Int32.ofNat b)), (4, .int (0 : Int32))] [.int (Int32.ofNat a), .ref 20] g u (fun big n0 => sg_nu_24 big n0 g u (Int32.ofNat p) (Int32.ofNat a) (Int32.ofNat b)) ?_
    refine q_call (M2 := 40) (rest := []) (b_hasOne1 g u (hc.1.1.trans h.2.1) h.1.2.2.2.2 ha) (fun _ _ => rfl) ?_
    refine q_step 4 27 [(0, .ref 8), (1, .int (Int32.ofNat p)), (2, .int (Int32.ofNat a)), (3, .int (Int32.ofNat b)), (4, .int (0 : Int32))] [.int (Int32.ofNat b), .ref 20] g u (fun big n0 => sg_nu_25 big n0 g u (Int32.ofNat p) (Int32.ofNat a) (Int32.ofNat b)) ?_
    refine q_call (M2 := 40) (rest := []) (b_hasOne1 g u (hc.1.1.trans h.2.1) h.1.2.2.2.2 hb) (fun _ _ => rfl) ?_
    refine q_step 3 35 [(0, .ref 8), (1, .int (Int32.ofNat p)), (2, .int (Int32.ofNat a)), (3, .int (Int32.ofNat b)), (4, .int (0 : Int32))] [.int (Int32.ofNat a), .int (Int32.ofNat p)] g u (fun big n0 => sg_nu_26 big n0 g u (Int32.ofNat p) (Int32.ofNat a) (Int32.ofNat b)) ?_
    refine q_ic_eq rfl (fun hc0 => absurd (show (Int32.ofNat p) = (Int32.ofNat a) from hc0) (fun z => hpa ((q_eq (by omega) (by omega)).mp z))) (fun (hc0 : ¬ ((Int32.ofNat p) = (Int32.ofNat a))) => ?_)
    refine q_step 2 40 [(0, .ref 8), (1, .int (Int32.ofNat p)), (2, .int (Int32.ofNat a)), (3, .int (Int32.ofNat b)), (4, .int (0 : Int32))] [.int (Int32.ofNat b), .int (Int32.ofNat p)] g u (fun big n0 => sg_nu_27 big n0 g u (Int32.ofNat p) (Int32.ofNat a) (Int32.ofNat b)) ?_
    refine q_ic_eq rfl (fun hc1 => absurd (show (Int32.ofNat p) = (Int32.ofNat b) from hc1) (fun z => hpb ((q_eq (by omega) (by omega)).mp z))) (fun (hc1 : ¬ ((Int32.ofNat p) = (Int32.ofNat b))) => ?_)
    refine q_step 2 45 [(0, .ref 8), (1, .int (Int32.ofNat p)), (2, .int (Int32.ofNat a)), (3, .int (Int32.ofNat b)), (4, .int (0 : Int32))] [.int (Int32.ofNat b), .int (Int32.ofNat a)] g u (fun big n0 => sg_nu_28 big n0 g u (Int32.ofNat p) (Int32.ofNat a) (Int32.ofNat b)) ?_
    refine q_ic_ne rfl (fun hc2 => absurd (show (Int32.ofNat a) = (Int32.ofNat b) from hc2) (fun z => hab ((q_eq (by omega) (by omega)).mp z))) (fun (hc2 : ¬ ((Int32.ofNat a) = (Int32.ofNat b))) => ?_)
    refine q_step 13 88 [(0, .ref 8), (1, .int (Int32.ofNat p)), (2, .int (Int32.ofNat a)), (3, .int (Int32.ofNat b)), (4, .int (0 : Int32)), (5, .int ((0 : Int32) - (10 : Int32)))] [.int (Int32.ofNat b), .int (Int32.ofNat a), .int (Int32.ofNat p), .ref 20, .ref 34] g u (fun big n0 => sg_nu_29 big n0 g u (Int32.ofNat p) (Int32.ofNat a) (Int32.ofNat b)) ?_
    refine q_call (M2 := 107) (rest := []) (hbb) (fun _ _ => rfl) ?_
    refine q_step 3 97 [(0, .ref 8), (1, .int (Int32.ofNat p)), (2, .int (Int32.ofNat a)), (3, .int (Int32.ofNat b)), (4, .int (0 : Int32)), (5, .int ((0 : Int32) - (10 : Int32))), (6, .int (Int32.ofNat (s * 1024 + row)))] [.int (Int8.toInt32 (Int8.ofInt (-4))), .int (Int32.ofNat (s * 1024 + row))] g1 u1 (fun big n0 => sg_nu_30 big n0 g1 u1 (Int32.ofNat p) (Int32.ofNat a) (Int32.ofNat b) (Int32.ofNat (s * 1024 + row))) ?_
    refine q_ic_ne rfl (fun hc3 => absurd (show (Int32.ofNat (s * 1024 + row)) = (Int8.toInt32 (Int8.ofInt (-4))) from hc3) (q_none_ne (by omega))) (fun (hc3 : ¬ ((Int32.ofNat (s * 1024 + row)) = (Int8.toInt32 (Int8.ofInt (-4))))) => ?_)
    refine q_step 1 105 [(0, .ref 8), (1, .int (Int32.ofNat p)), (2, .int (Int32.ofNat a)), (3, .int (Int32.ofNat b)), (4, .int (0 : Int32)), (5, .int ((0 : Int32) - (10 : Int32))), (6, .int (Int32.ofNat (s * 1024 + row)))] [.int (Int32.ofNat (s * 1024 + row))] g1 u1 (fun big n0 => sg_nu_31 big n0 g1 u1 (Int32.ofNat p) (Int32.ofNat a) (Int32.ofNat b) (Int32.ofNat (s * 1024 + row))) ?_
    refine q_call (M2 := 87) (rest := []) (b_up g1 u1 (by omega) (by omega)) (fun _ _ => rfl) ?_
    refine q_ret 5 (some (.int (Int32.ofNat s)), g1, u1) (fun _ _ => rfl) ?_
    exact ⟨g1, u1, rfl, hf⟩
theorem c_nurse10 {n W H : Nat} {g r : qM} (u : qW) (h : w_ok n W H r) (hc : w_cs 20 n g r) {p a b : Nat} (hp : p < n) (ha : a < n) (hb : b < n) (hpa : p ≠ a) (hpb : p ≠ b) (hab : a ≠ b) : w_BS w_fc 106 [.ref 8, .int (Int32.ofNat p), .int (Int32.ofNat a), .int (Int32.ofNat b), .int (10 : Int32)] g u (.int (f_nuw 10 (f_nur n p a b r))) := by
  refine w_bs (mm := m_106) rfl (Nat.le_of_ble_eq_true rfl) rfl ?_
  have h5 : n ≤ 6 := h.1.2.2.2.2
  obtain ⟨g1, u1, hbb, hf⟩ := c_par107 u h hc hp ha hb
  cases hF : f_nur n p a b r with
  | none =>
    rw [hF] at hbb
    refine q_step 3 5 [(0, .ref 8), (1, .int (Int32.ofNat p)), (2, .int (Int32.ofNat a)), (3, .int (Int32.ofNat b)), (4, .int (10 : Int32))] [.int (Int32.ofNat p), .ref 20] g u (fun big n0 => sg_nu_32 big n0 g u (Int32.ofNat p) (Int32.ofNat a) (Int32.ofNat b)) ?_
    refine q_call (M2 := 40) (rest := []) (b_hasOne1 g u (hc.1.1.trans h.2.1) h.1.2.2.2.2 hp) (fun _ _ => rfl) ?_
    refine q_step 4 16 [(0, .ref 8), (1, .int (Int32.ofNat p)), (2, .int (Int32.ofNat a)), (3, .int (Int32.ofNat b)), (4, .int (10 : Int32))] [.int (Int32.ofNat a), .ref 20] g u (fun big n0 => sg_nu_33 big n0 g u (Int32.ofNat p) (Int32.ofNat a) (Int32.ofNat b)) ?_
    refine q_call (M2 := 40) (rest := []) (b_hasOne1 g u (hc.1.1.trans h.2.1) h.1.2.2.2.2 ha) (fun _ _ => rfl) ?_
    refine q_step 4 27 [(0, .ref 8), (1, .int (Int32.ofNat p)), (2, .int (Int32.ofNat a)), (3, .int (Int32.ofNat b)), (4, .int (10 : Int32))] [.int (Int32.ofNat b), .ref 20] g u (fun big n0 => sg_nu_34 big n0 g u (Int32.ofNat p) (Int32.ofNat a) (Int32.ofNat b)) ?_
    refine q_call (M2 := 40) (rest := []) (b_hasOne1 g u (hc.1.1.trans h.2.1) h.1.2.2.2.2 hb) (fun _ _ => rfl) ?_
    refine q_step 3 35 [(0, .ref 8), (1, .int (Int32.ofNat p)), (2, .int (Int32.ofNat a)), (3, .int (Int32.ofNat b)), (4, .int (10 : Int32))] [.int (Int32.ofNat a), .int (Int32.ofNat p)] g u (fun big n0 => sg_nu_35 big n0 g u (Int32.ofNat p) (Int32.ofNat a) (Int32.ofNat b)) ?_
    refine q_ic_eq rfl (fun hc0 => absurd (show (Int32.ofNat p) = (Int32.ofNat a) from hc0) (fun z => hpa ((q_eq (by omega) (by omega)).mp z))) (fun (hc0 : ¬ ((Int32.ofNat p) = (Int32.ofNat a))) => ?_)
    refine q_step 2 40 [(0, .ref 8), (1, .int (Int32.ofNat p)), (2, .int (Int32.ofNat a)), (3, .int (Int32.ofNat b)), (4, .int (10 : Int32))] [.int (Int32.ofNat b), .int (Int32.ofNat p)] g u (fun big n0 => sg_nu_36 big n0 g u (Int32.ofNat p) (Int32.ofNat a) (Int32.ofNat b)) ?_
    refine q_ic_eq rfl (fun hc1 => absurd (show (Int32.ofNat p) = (Int32.ofNat b) from hc1) (fun z => hpb ((q_eq (by omega) (by omega)).mp z))) (fun (hc1 : ¬ ((Int32.ofNat p) = (Int32.ofNat b))) => ?_)
    refine q_step 2 45 [(0, .ref 8), (1, .int (Int32.ofNat p)), (2, .int (Int32.ofNat a)), (3, .int (Int32.ofNat b)), (4, .int (10 : Int32))] [.int (Int32.ofNat b), .int (Int32.ofNat a)] g u (fun big n0 => sg_nu_37 big n0 g u (Int32.ofNat p) (Int32.ofNat a) (Int32.ofNat b)) ?_
    refine q_ic_ne rfl (fun hc2 => absurd (show (Int32.ofNat a) = (Int32.ofNat b) from hc2) (fun z => hab ((q_eq (by omega) (by omega)).mp z))) (fun (hc2 : ¬ ((Int32.ofNat a) = (Int32.ofNat b))) => ?_)
    refine q_step 19 88 [(0, .ref 8), (1, .int (Int32.ofNat p)), (2, .int (Int32.ofNat a)), (3, .int (Int32.ofNat b)), (4, .int (10 : Int32)), (5, .int (0 : Int32))] [.int (Int32.ofNat b), .int (Int32.ofNat a), .int (Int32.ofNat p), .ref 20, .ref 34] g u (fun big n0 => sg_nu_38 big n0 g u (Int32.ofNat p) (Int32.ofNat a) (Int32.ofNat b)) ?_
    refine q_call (M2 := 107) (rest := []) (hbb) (fun _ _ => rfl) ?_
    refine q_ret 6 (some (.int (Int8.toInt32 (Int8.ofInt (-4)))), g1, u1) (fun _ _ => rfl) ?_
    exact ⟨g1, u1, rfl, hf⟩
  | some z =>
    obtain ⟨s, row⟩ := z
    rw [hF] at hbb
    have hl := f_nof_lt 5 0 s row hF
    have h44 := s_44 (s := s) (by omega)
    refine q_step 3 5 [(0, .ref 8), (1, .int (Int32.ofNat p)), (2, .int (Int32.ofNat a)), (3, .int (Int32.ofNat b)), (4, .int (10 : Int32))] [.int (Int32.ofNat p), .ref 20] g u (fun big n0 => sg_nu_32 big n0 g u (Int32.ofNat p) (Int32.ofNat a) (Int32.ofNat b)) ?_
    refine q_call (M2 := 40) (rest := []) (b_hasOne1 g u (hc.1.1.trans h.2.1) h.1.2.2.2.2 hp) (fun _ _ => rfl) ?_
    refine q_step 4 16 [(0, .ref 8), (1, .int (Int32.ofNat p)), (2, .int (Int32.ofNat a)), (3, .int (Int32.ofNat b)), (4, .int (10 : Int32))] [.int (Int32.ofNat a), .ref 20] g u (fun big n0 => sg_nu_33 big n0 g u (Int32.ofNat p) (Int32.ofNat a) (Int32.ofNat b)) ?_
    refine q_call (M2 := 40) (rest := []) (b_hasOne1 g u (hc.1.1.trans h.2.1) h.1.2.2.2.2 ha) (fun _ _ => rfl) ?_
    refine q_step 4 27 [(0, .ref 8), (1, .int (Int32.ofNat p)), (2, .int (Int32.ofNat a)), (3, .int (Int32.ofNat b)), (4, .int (10 : Int32))] [.int (Int32.ofNat b), .ref 20] g u (fun big n0 => sg_nu_34 big n0 g u (Int32.ofNat p) (Int32.ofNat a) (Int32.ofNat b)) ?_
    refine q_call (M2 := 40) (rest := []) (b_hasOne1 g u (hc.1.1.trans h.2.1) h.1.2.2.2.2 hb) (fun _ _ => rfl) ?_
    refine q_step 3 35 [(0, .ref 8), (1, .int (Int32.ofNat p)), (2, .int (Int32.ofNat a)), (3, .int (Int32.ofNat b)), (4, .int (10 : Int32))] [.int (Int32.ofNat a), .int (Int32.ofNat p)] g u (fun big n0 => sg_nu_35 big n0 g u (Int32.ofNat p) (Int32.ofNat a) (Int32.ofNat b)) ?_
    refine q_ic_eq rfl (fun hc0 => absurd (show (Int32.ofNat p) = (Int32.ofNat a) from hc0) (fun z => hpa ((q_eq (by omega) (by omega)).mp z))) (fun (hc0 : ¬ ((Int32.ofNat p) = (Int32.ofNat a))) => ?_)
    refine q_step 2 40 [(0, .ref 8), (1, .int (Int32.ofNat p)), (2, .int (Int32.ofNat a)), (3, .int (Int32.ofNat b)), (4, .int (10 : Int32))] [.int (Int32.ofNat b), .int (Int32.ofNat p)] g u (fun big n0 => sg_nu_36 big n0 g u (Int32.ofNat p) (Int32.ofNat a) (Int32.ofNat b)) ?_
    refine q_ic_eq rfl (fun hc1 => absurd (show (Int32.ofNat p) = (Int32.ofNat b) from hc1) (fun z => hpb ((q_eq (by omega) (by omega)).mp z))) (fun (hc1 : ¬ ((Int32.ofNat p) = (Int32.ofNat b))) => ?_)
    refine q_step 2 45 [(0, .ref 8), (1, .int (Int32.ofNat p)), (2, .int (Int32.ofNat a)), (3, .int (Int32.ofNat b)), (4, .int (10 : Int32))] [.int (Int32.ofNat b), .int (Int32.ofNat a)] g u (fun big n0 => sg_nu_37 big n0 g u (Int32.ofNat p) (Int32.ofNat a) (Int32.ofNat b)) ?_
    refine q_ic_ne rfl (fun hc2 => absurd (show (Int32.ofNat a) = (Int32.ofNat b) from hc2) (fun z => hab ((q_eq (by omega) (by omega)).mp z))) (fun (hc2 : ¬ ((Int32.ofNat a) = (Int32.ofNat b))) => ?_)
    refine q_step 19 88 [(0, .ref 8), (1, .int (Int32.ofNat p)), (2, .int (Int32.ofNat a)), (3, .int (Int32.ofNat b)), (4, .int (10 : Int32)), (5, .int (0 : Int32))] [.int (Int32.ofNat b), .int (Int32.ofNat a), .int (Int32.ofNat p), .ref 20, .ref 34] g u (fun big n0 => sg_nu_38 big n0 g u (Int32.ofNat p) (Int32.ofNat a) (Int32.ofNat b)) ?_
    refine q_call (M2 := 107) (rest := []) (hbb) (fun _ _ => rfl) ?_
    refine q_step 3 97 [(0, .ref 8), (1, .int (Int32.ofNat p)), (2, .int (Int32.ofNat a)), (3, .int (Int32.ofNat b)), (4, .int (10 : Int32)), (5, .int (0 : Int32)), (6, .int (Int32.ofNat (s * 1024 + row)))] [.int (Int8.toInt32 (Int8.ofInt (-4))), .int (Int32.ofNat (s * 1024 + row))] g1 u1 (fun big n0 => sg_nu_39 big n0 g1 u1 (Int32.ofNat p) (Int32.ofNat a) (Int32.ofNat b) (Int32.ofNat (s * 1024 + row))) ?_
    refine q_ic_ne rfl (fun hc3 => absurd (show (Int32.ofNat (s * 1024 + row)) = (Int8.toInt32 (Int8.ofInt (-4))) from hc3) (q_none_ne (by omega))) (fun (hc3 : ¬ ((Int32.ofNat (s * 1024 + row)) = (Int8.toInt32 (Int8.ofInt (-4))))) => ?_)
    refine q_step 1 105 [(0, .ref 8), (1, .int (Int32.ofNat p)), (2, .int (Int32.ofNat a)), (3, .int (Int32.ofNat b)), (4, .int (10 : Int32)), (5, .int (0 : Int32)), (6, .int (Int32.ofNat (s * 1024 + row)))] [.int (Int32.ofNat (s * 1024 + row))] g1 u1 (fun big n0 => sg_nu_40 big n0 g1 u1 (Int32.ofNat p) (Int32.ofNat a) (Int32.ofNat b) (Int32.ofNat (s * 1024 + row))) ?_
    refine q_call (M2 := 87) (rest := []) (b_up g1 u1 (by omega) (by omega)) (fun _ _ => rfl) ?_
    refine q_step 5 122 [(0, .ref 8), (1, .int (Int32.ofNat p)), (2, .int (Int32.ofNat a)), (3, .int (Int32.ofNat b)), (4, .int (10 : Int32)), (5, .int (0 : Int32)), (6, .int (Int32.ofNat (s * 1024 + row))), (7, .int (Int32.ofNat s))] [.int (Int32.ofNat s), .int (0 : Int32)] g1 u1 (fun big n0 => sg_nu_41 big n0 g1 u1 (Int32.ofNat p) (Int32.ofNat a) (Int32.ofNat b) (Int32.ofNat (s * 1024 + row)) (Int32.ofNat s)) ?_
    refine q_ic_ge rfl (fun (hc4 : (Int32.ofNat s) ≤ (0 : Int32)) => ?_) (fun (hc4 : ¬ ((Int32.ofNat s) ≤ (0 : Int32))) => ?_)
    · refine q_ret 2 (some (.int (Int8.toInt32 (Int8.ofInt (-4)))), g1, u1) (fun _ _ => rfl) ?_
      refine ⟨g1, u1, ?_, hf⟩
      have z := (q_le (i := s) (j := 0) (by omega) (by omega)).mp hc4
      rw [f_nuw_n (w := 10) (by omega) (by omega)]
    · refine q_step 1 127 [(0, .ref 8), (1, .int (Int32.ofNat p)), (2, .int (Int32.ofNat a)), (3, .int (Int32.ofNat b)), (4, .int (10 : Int32)), (5, .int (0 : Int32)), (6, .int (Int32.ofNat (s * 1024 + row))), (7, .int (Int32.ofNat s))] [.int (Int32.ofNat (s * 1024 + row))] g1 u1 (fun big n0 => sg_nu_42 big n0 g1 u1 (Int32.ofNat p) (Int32.ofNat a) (Int32.ofNat b) (Int32.ofNat (s * 1024 + row)) (Int32.ofNat s)) ?_
      refine q_call (M2 := 88) (rest := []) (b_lo g1 u1 (by omega) (by omega)) (fun _ _ => rfl) ?_
      refine q_step 2 134 [(0, .ref 8), (1, .int (Int32.ofNat p)), (2, .int (Int32.ofNat a)), (3, .int (Int32.ofNat b)), (4, .int (10 : Int32)), (5, .int (0 : Int32)), (6, .int (Int32.ofNat (s * 1024 + row))), (7, .int (Int32.ofNat s))] [.int (Int32.ofNat s), .int (0 : Int32), .int (Int32.ofNat row)] g1 u1 (fun big n0 => sg_nu_43 big n0 g1 u1 (Int32.ofNat p) (Int32.ofNat a) (Int32.ofNat b) (Int32.ofNat (s * 1024 + row)) (Int32.ofNat s) (Int32.ofNat row)) ?_
      refine q_call (M2 := 96) (rest := []) (b_dig _ _ _ _ _) (fun _ _ => rfl) ?_
      refine q_ret 2 (some (.int (s_dg (Int32.ofNat row) (Int32.ofNat s) (0 : Int32))), g1, u1) (fun _ _ => rfl) ?_
      refine ⟨g1, u1, ?_, hf⟩
      have z : 0 < s := by
        have z1 : ¬ s ≤ 0 := fun q => hc4 ((q_le (i := s) (j := 0) (by omega) (by omega)).mpr q)
        omega
      rw [f_nuw_y (w := 10) (by omega) z]
      rfl
theorem c_nurse11 {n W H : Nat} {g r : qM} (u : qW) (h : w_ok n W H r) (hc : w_cs 20 n g r) {p a b : Nat} (hp : p < n) (ha : a < n) (hb : b < n) (hpa : p ≠ a) (hpb : p ≠ b) (hab : a ≠ b) : w_BS w_fc 106 [.ref 8, .int (Int32.ofNat p), .int (Int32.ofNat a), .int (Int32.ofNat b), .int (11 : Int32)] g u (.int (f_nuw 11 (f_nur n p a b r))) := by
  refine w_bs (mm := m_106) rfl (Nat.le_of_ble_eq_true rfl) rfl ?_
  have h5 : n ≤ 6 := h.1.2.2.2.2
  obtain ⟨g1, u1, hbb, hf⟩ := c_par107 u h hc hp ha hb
  cases hF : f_nur n p a b r with
  | none =>
    rw [hF] at hbb
    refine q_step 3 5 [(0, .ref 8), (1, .int (Int32.ofNat p)), (2, .int (Int32.ofNat a)), (3, .int (Int32.ofNat b)), (4, .int (11 : Int32))] [.int (Int32.ofNat p), .ref 20] g u (fun big n0 => sg_nu_44 big n0 g u (Int32.ofNat p) (Int32.ofNat a) (Int32.ofNat b)) ?_
    refine q_call (M2 := 40) (rest := []) (b_hasOne1 g u (hc.1.1.trans h.2.1) h.1.2.2.2.2 hp) (fun _ _ => rfl) ?_
    refine q_step 4 16 [(0, .ref 8), (1, .int (Int32.ofNat p)), (2, .int (Int32.ofNat a)), (3, .int (Int32.ofNat b)), (4, .int (11 : Int32))] [.int (Int32.ofNat a), .ref 20] g u (fun big n0 => sg_nu_45 big n0 g u (Int32.ofNat p) (Int32.ofNat a) (Int32.ofNat b)) ?_
    refine q_call (M2 := 40) (rest := []) (b_hasOne1 g u (hc.1.1.trans h.2.1) h.1.2.2.2.2 ha) (fun _ _ => rfl) ?_
    refine q_step 4 27 [(0, .ref 8), (1, .int (Int32.ofNat p)), (2, .int (Int32.ofNat a)), (3, .int (Int32.ofNat b)), (4, .int (11 : Int32))] [.int (Int32.ofNat b), .ref 20] g u (fun big n0 => sg_nu_46 big n0 g u (Int32.ofNat p) (Int32.ofNat a) (Int32.ofNat b)) ?_
    refine q_call (M2 := 40) (rest := []) (b_hasOne1 g u (hc.1.1.trans h.2.1) h.1.2.2.2.2 hb) (fun _ _ => rfl) ?_
    refine q_step 3 35 [(0, .ref 8), (1, .int (Int32.ofNat p)), (2, .int (Int32.ofNat a)), (3, .int (Int32.ofNat b)), (4, .int (11 : Int32))] [.int (Int32.ofNat a), .int (Int32.ofNat p)] g u (fun big n0 => sg_nu_47 big n0 g u (Int32.ofNat p) (Int32.ofNat a) (Int32.ofNat b)) ?_
    refine q_ic_eq rfl (fun hc0 => absurd (show (Int32.ofNat p) = (Int32.ofNat a) from hc0) (fun z => hpa ((q_eq (by omega) (by omega)).mp z))) (fun (hc0 : ¬ ((Int32.ofNat p) = (Int32.ofNat a))) => ?_)
    refine q_step 2 40 [(0, .ref 8), (1, .int (Int32.ofNat p)), (2, .int (Int32.ofNat a)), (3, .int (Int32.ofNat b)), (4, .int (11 : Int32))] [.int (Int32.ofNat b), .int (Int32.ofNat p)] g u (fun big n0 => sg_nu_48 big n0 g u (Int32.ofNat p) (Int32.ofNat a) (Int32.ofNat b)) ?_
    refine q_ic_eq rfl (fun hc1 => absurd (show (Int32.ofNat p) = (Int32.ofNat b) from hc1) (fun z => hpb ((q_eq (by omega) (by omega)).mp z))) (fun (hc1 : ¬ ((Int32.ofNat p) = (Int32.ofNat b))) => ?_)
    refine q_step 2 45 [(0, .ref 8), (1, .int (Int32.ofNat p)), (2, .int (Int32.ofNat a)), (3, .int (Int32.ofNat b)), (4, .int (11 : Int32))] [.int (Int32.ofNat b), .int (Int32.ofNat a)] g u (fun big n0 => sg_nu_49 big n0 g u (Int32.ofNat p) (Int32.ofNat a) (Int32.ofNat b)) ?_
    refine q_ic_ne rfl (fun hc2 => absurd (show (Int32.ofNat a) = (Int32.ofNat b) from hc2) (fun z => hab ((q_eq (by omega) (by omega)).mp z))) (fun (hc2 : ¬ ((Int32.ofNat a) = (Int32.ofNat b))) => ?_)
    refine q_step 19 88 [(0, .ref 8), (1, .int (Int32.ofNat p)), (2, .int (Int32.ofNat a)), (3, .int (Int32.ofNat b)), (4, .int (11 : Int32)), (5, .int (1 : Int32))] [.int (Int32.ofNat b), .int (Int32.ofNat a), .int (Int32.ofNat p), .ref 20, .ref 34] g u (fun big n0 => sg_nu_50 big n0 g u (Int32.ofNat p) (Int32.ofNat a) (Int32.ofNat b)) ?_
    refine q_call (M2 := 107) (rest := []) (hbb) (fun _ _ => rfl) ?_
    refine q_ret 6 (some (.int (Int8.toInt32 (Int8.ofInt (-4)))), g1, u1) (fun _ _ => rfl) ?_
    exact ⟨g1, u1, rfl, hf⟩
  | some z =>
    obtain ⟨s, row⟩ := z
    rw [hF] at hbb
    have hl := f_nof_lt 5 0 s row hF
    have h44 := s_44 (s := s) (by omega)
    refine q_step 3 5 [(0, .ref 8), (1, .int (Int32.ofNat p)), (2, .int (Int32.ofNat a)), (3, .int (Int32.ofNat b)), (4, .int (11 : Int32))] [.int (Int32.ofNat p), .ref 20] g u (fun big n0 => sg_nu_44 big n0 g u (Int32.ofNat p) (Int32.ofNat a) (Int32.ofNat b)) ?_
    refine q_call (M2 := 40) (rest := []) (b_hasOne1 g u (hc.1.1.trans h.2.1) h.1.2.2.2.2 hp) (fun _ _ => rfl) ?_
    refine q_step 4 16 [(0, .ref 8), (1, .int (Int32.ofNat p)), (2, .int (Int32.ofNat a)), (3, .int (Int32.ofNat b)), (4, .int (11 : Int32))] [.int (Int32.ofNat a), .ref 20] g u (fun big n0 => sg_nu_45 big n0 g u (Int32.ofNat p) (Int32.ofNat a) (Int32.ofNat b)) ?_
    refine q_call (M2 := 40) (rest := []) (b_hasOne1 g u (hc.1.1.trans h.2.1) h.1.2.2.2.2 ha) (fun _ _ => rfl) ?_
    refine q_step 4 27 [(0, .ref 8), (1, .int (Int32.ofNat p)), (2, .int (Int32.ofNat a)), (3, .int (Int32.ofNat b)), (4, .int (11 : Int32))] [.int (Int32.ofNat b), .ref 20] g u (fun big n0 => sg_nu_46 big n0 g u (Int32.ofNat p) (Int32.ofNat a) (Int32.ofNat b)) ?_
    refine q_call (M2 := 40) (rest := []) (b_hasOne1 g u (hc.1.1.trans h.2.1) h.1.2.2.2.2 hb) (fun _ _ => rfl) ?_
    refine q_step 3 35 [(0, .ref 8), (1, .int (Int32.ofNat p)), (2, .int (Int32.ofNat a)), (3, .int (Int32.ofNat b)), (4, .int (11 : Int32))] [.int (Int32.ofNat a), .int (Int32.ofNat p)] g u (fun big n0 => sg_nu_47 big n0 g u (Int32.ofNat p) (Int32.ofNat a) (Int32.ofNat b)) ?_
    refine q_ic_eq rfl (fun hc0 => absurd (show (Int32.ofNat p) = (Int32.ofNat a) from hc0) (fun z => hpa ((q_eq (by omega) (by omega)).mp z))) (fun (hc0 : ¬ ((Int32.ofNat p) = (Int32.ofNat a))) => ?_)
    refine q_step 2 40 [(0, .ref 8), (1, .int (Int32.ofNat p)), (2, .int (Int32.ofNat a)), (3, .int (Int32.ofNat b)), (4, .int (11 : Int32))] [.int (Int32.ofNat b), .int (Int32.ofNat p)] g u (fun big n0 => sg_nu_48 big n0 g u (Int32.ofNat p) (Int32.ofNat a) (Int32.ofNat b)) ?_
    refine q_ic_eq rfl (fun hc1 => absurd (show (Int32.ofNat p) = (Int32.ofNat b) from hc1) (fun z => hpb ((q_eq (by omega) (by omega)).mp z))) (fun (hc1 : ¬ ((Int32.ofNat p) = (Int32.ofNat b))) => ?_)
    refine q_step 2 45 [(0, .ref 8), (1, .int (Int32.ofNat p)), (2, .int (Int32.ofNat a)), (3, .int (Int32.ofNat b)), (4, .int (11 : Int32))] [.int (Int32.ofNat b), .int (Int32.ofNat a)] g u (fun big n0 => sg_nu_49 big n0 g u (Int32.ofNat p) (Int32.ofNat a) (Int32.ofNat b)) ?_
    refine q_ic_ne rfl (fun hc2 => absurd (show (Int32.ofNat a) = (Int32.ofNat b) from hc2) (fun z => hab ((q_eq (by omega) (by omega)).mp z))) (fun (hc2 : ¬ ((Int32.ofNat a) = (Int32.ofNat b))) => ?_)
    refine q_step 19 88 [(0, .ref 8), (1, .int (Int32.ofNat p)), (2, .int (Int32.ofNat a)), (3, .int (Int32.ofNat b)), (4, .int (11 : Int32)), (5, .int (1 : Int32))] [.int (Int32.ofNat b), .int (Int32.ofNat a), .int (Int32.ofNat p), .ref 20, .ref 34] g u (fun big n0 => sg_nu_50 big n0 g u (Int32.ofNat p) (Int32.ofNat a) (Int32.ofNat b)) ?_
    refine q_call (M2 := 107) (rest := []) (hbb) (fun _ _ => rfl) ?_
    refine q_step 3 97 [(0, .ref 8), (1, .int (Int32.ofNat p)), (2, .int (Int32.ofNat a)), (3, .int (Int32.ofNat b)), (4, .int (11 : Int32)), (5, .int (1 : Int32)), (6, .int (Int32.ofNat (s * 1024 + row)))] [.int (Int8.toInt32 (Int8.ofInt (-4))), .int (Int32.ofNat (s * 1024 + row))] g1 u1 (fun big n0 => sg_nu_51 big n0 g1 u1 (Int32.ofNat p) (Int32.ofNat a) (Int32.ofNat b) (Int32.ofNat (s * 1024 + row))) ?_
    refine q_ic_ne rfl (fun hc3 => absurd (show (Int32.ofNat (s * 1024 + row)) = (Int8.toInt32 (Int8.ofInt (-4))) from hc3) (q_none_ne (by omega))) (fun (hc3 : ¬ ((Int32.ofNat (s * 1024 + row)) = (Int8.toInt32 (Int8.ofInt (-4))))) => ?_)
    refine q_step 1 105 [(0, .ref 8), (1, .int (Int32.ofNat p)), (2, .int (Int32.ofNat a)), (3, .int (Int32.ofNat b)), (4, .int (11 : Int32)), (5, .int (1 : Int32)), (6, .int (Int32.ofNat (s * 1024 + row)))] [.int (Int32.ofNat (s * 1024 + row))] g1 u1 (fun big n0 => sg_nu_52 big n0 g1 u1 (Int32.ofNat p) (Int32.ofNat a) (Int32.ofNat b) (Int32.ofNat (s * 1024 + row))) ?_
    refine q_call (M2 := 87) (rest := []) (b_up g1 u1 (by omega) (by omega)) (fun _ _ => rfl) ?_
    refine q_step 5 122 [(0, .ref 8), (1, .int (Int32.ofNat p)), (2, .int (Int32.ofNat a)), (3, .int (Int32.ofNat b)), (4, .int (11 : Int32)), (5, .int (1 : Int32)), (6, .int (Int32.ofNat (s * 1024 + row))), (7, .int (Int32.ofNat s))] [.int (Int32.ofNat s), .int (1 : Int32)] g1 u1 (fun big n0 => sg_nu_53 big n0 g1 u1 (Int32.ofNat p) (Int32.ofNat a) (Int32.ofNat b) (Int32.ofNat (s * 1024 + row)) (Int32.ofNat s)) ?_
    refine q_ic_ge rfl (fun (hc4 : (Int32.ofNat s) ≤ (1 : Int32)) => ?_) (fun (hc4 : ¬ ((Int32.ofNat s) ≤ (1 : Int32))) => ?_)
    · refine q_ret 2 (some (.int (Int8.toInt32 (Int8.ofInt (-4)))), g1, u1) (fun _ _ => rfl) ?_
      refine ⟨g1, u1, ?_, hf⟩
      have z := (q_le (i := s) (j := 1) (by omega) (by omega)).mp hc4
      rw [f_nuw_n (w := 11) (by omega) (by omega)]
    · refine q_step 1 127 [(0, .ref 8), (1, .int (Int32.ofNat p)), (2, .int (Int32.ofNat a)), (3, .int (Int32.ofNat b)), (4, .int (11 : Int32)), (5, .int (1 : Int32)), (6, .int (Int32.ofNat (s * 1024 + row))), (7, .int (Int32.ofNat s))] [.int (Int32.ofNat (s * 1024 + row))] g1 u1 (fun big n0 => sg_nu_54 big n0 g1 u1 (Int32.ofNat p) (Int32.ofNat a) (Int32.ofNat b) (Int32.ofNat (s * 1024 + row)) (Int32.ofNat s)) ?_
      refine q_call (M2 := 88) (rest := []) (b_lo g1 u1 (by omega) (by omega)) (fun _ _ => rfl) ?_
      refine q_step 2 134 [(0, .ref 8), (1, .int (Int32.ofNat p)), (2, .int (Int32.ofNat a)), (3, .int (Int32.ofNat b)), (4, .int (11 : Int32)), (5, .int (1 : Int32)), (6, .int (Int32.ofNat (s * 1024 + row))), (7, .int (Int32.ofNat s))] [.int (Int32.ofNat s), .int (1 : Int32), .int (Int32.ofNat row)] g1 u1 (fun big n0 => sg_nu_55 big n0 g1 u1 (Int32.ofNat p) (Int32.ofNat a) (Int32.ofNat b) (Int32.ofNat (s * 1024 + row)) (Int32.ofNat s) (Int32.ofNat row)) ?_
      refine q_call (M2 := 96) (rest := []) (b_dig _ _ _ _ _) (fun _ _ => rfl) ?_
      refine q_ret 2 (some (.int (s_dg (Int32.ofNat row) (Int32.ofNat s) (1 : Int32))), g1, u1) (fun _ _ => rfl) ?_
      refine ⟨g1, u1, ?_, hf⟩
      have z : 1 < s := by
        have z1 : ¬ s ≤ 1 := fun q => hc4 ((q_le (i := s) (j := 1) (by omega) (by omega)).mpr q)
        omega
      rw [f_nuw_y (w := 11) (by omega) z]
      rfl
theorem c_nurse12 {n W H : Nat} {g r : qM} (u : qW) (h : w_ok n W H r) (hc : w_cs 20 n g r) {p a b : Nat} (hp : p < n) (ha : a < n) (hb : b < n) (hpa : p ≠ a) (hpb : p ≠ b) (hab : a ≠ b) : w_BS w_fc 106 [.ref 8, .int (Int32.ofNat p), .int (Int32.ofNat a), .int (Int32.ofNat b), .int (12 : Int32)] g u (.int (f_nuw 12 (f_nur n p a b r))) := by
  refine w_bs (mm := m_106) rfl (Nat.le_of_ble_eq_true rfl) rfl ?_
  have h5 : n ≤ 6 := h.1.2.2.2.2
  obtain ⟨g1, u1, hbb, hf⟩ := c_par107 u h hc hp ha hb
  cases hF : f_nur n p a b r with
  | none =>
    rw [hF] at hbb
    refine q_step 3 5 [(0, .ref 8), (1, .int (Int32.ofNat p)), (2, .int (Int32.ofNat a)), (3, .int (Int32.ofNat b)), (4, .int (12 : Int32))] [.int (Int32.ofNat p), .ref 20] g u (fun big n0 => sg_nu_56 big n0 g u (Int32.ofNat p) (Int32.ofNat a) (Int32.ofNat b)) ?_
    refine q_call (M2 := 40) (rest := []) (b_hasOne1 g u (hc.1.1.trans h.2.1) h.1.2.2.2.2 hp) (fun _ _ => rfl) ?_
    refine q_step 4 16 [(0, .ref 8), (1, .int (Int32.ofNat p)), (2, .int (Int32.ofNat a)), (3, .int (Int32.ofNat b)), (4, .int (12 : Int32))] [.int (Int32.ofNat a), .ref 20] g u (fun big n0 => sg_nu_57 big n0 g u (Int32.ofNat p) (Int32.ofNat a) (Int32.ofNat b)) ?_
    refine q_call (M2 := 40) (rest := []) (b_hasOne1 g u (hc.1.1.trans h.2.1) h.1.2.2.2.2 ha) (fun _ _ => rfl) ?_
    refine q_step 4 27 [(0, .ref 8), (1, .int (Int32.ofNat p)), (2, .int (Int32.ofNat a)), (3, .int (Int32.ofNat b)), (4, .int (12 : Int32))] [.int (Int32.ofNat b), .ref 20] g u (fun big n0 => sg_nu_58 big n0 g u (Int32.ofNat p) (Int32.ofNat a) (Int32.ofNat b)) ?_
    refine q_call (M2 := 40) (rest := []) (b_hasOne1 g u (hc.1.1.trans h.2.1) h.1.2.2.2.2 hb) (fun _ _ => rfl) ?_
    refine q_step 3 35 [(0, .ref 8), (1, .int (Int32.ofNat p)), (2, .int (Int32.ofNat a)), (3, .int (Int32.ofNat b)), (4, .int (12 : Int32))] [.int (Int32.ofNat a), .int (Int32.ofNat p)] g u (fun big n0 => sg_nu_59 big n0 g u (Int32.ofNat p) (Int32.ofNat a) (Int32.ofNat b)) ?_
    refine q_ic_eq rfl (fun hc0 => absurd (show (Int32.ofNat p) = (Int32.ofNat a) from hc0) (fun z => hpa ((q_eq (by omega) (by omega)).mp z))) (fun (hc0 : ¬ ((Int32.ofNat p) = (Int32.ofNat a))) => ?_)
    refine q_step 2 40 [(0, .ref 8), (1, .int (Int32.ofNat p)), (2, .int (Int32.ofNat a)), (3, .int (Int32.ofNat b)), (4, .int (12 : Int32))] [.int (Int32.ofNat b), .int (Int32.ofNat p)] g u (fun big n0 => sg_nu_60 big n0 g u (Int32.ofNat p) (Int32.ofNat a) (Int32.ofNat b)) ?_
    refine q_ic_eq rfl (fun hc1 => absurd (show (Int32.ofNat p) = (Int32.ofNat b) from hc1) (fun z => hpb ((q_eq (by omega) (by omega)).mp z))) (fun (hc1 : ¬ ((Int32.ofNat p) = (Int32.ofNat b))) => ?_)
    refine q_step 2 45 [(0, .ref 8), (1, .int (Int32.ofNat p)), (2, .int (Int32.ofNat a)), (3, .int (Int32.ofNat b)), (4, .int (12 : Int32))] [.int (Int32.ofNat b), .int (Int32.ofNat a)] g u (fun big n0 => sg_nu_61 big n0 g u (Int32.ofNat p) (Int32.ofNat a) (Int32.ofNat b)) ?_
    refine q_ic_ne rfl (fun hc2 => absurd (show (Int32.ofNat a) = (Int32.ofNat b) from hc2) (fun z => hab ((q_eq (by omega) (by omega)).mp z))) (fun (hc2 : ¬ ((Int32.ofNat a) = (Int32.ofNat b))) => ?_)
    refine q_step 19 88 [(0, .ref 8), (1, .int (Int32.ofNat p)), (2, .int (Int32.ofNat a)), (3, .int (Int32.ofNat b)), (4, .int (12 : Int32)), (5, .int (2 : Int32))] [.int (Int32.ofNat b), .int (Int32.ofNat a), .int (Int32.ofNat p), .ref 20, .ref 34] g u (fun big n0 => sg_nu_62 big n0 g u (Int32.ofNat p) (Int32.ofNat a) (Int32.ofNat b)) ?_
    refine q_call (M2 := 107) (rest := []) (hbb) (fun _ _ => rfl) ?_
    refine q_ret 6 (some (.int (Int8.toInt32 (Int8.ofInt (-4)))), g1, u1) (fun _ _ => rfl) ?_
    exact ⟨g1, u1, rfl, hf⟩
  | some z =>
    obtain ⟨s, row⟩ := z
    rw [hF] at hbb
    have hl := f_nof_lt 5 0 s row hF
    have h44 := s_44 (s := s) (by omega)
    refine q_step 3 5 [(0, .ref 8), (1, .int (Int32.ofNat p)), (2, .int (Int32.ofNat a)), (3, .int (Int32.ofNat b)), (4, .int (12 : Int32))] [.int (Int32.ofNat p), .ref 20] g u (fun big n0 => sg_nu_56 big n0 g u (Int32.ofNat p) (Int32.ofNat a) (Int32.ofNat b)) ?_
    refine q_call (M2 := 40) (rest := []) (b_hasOne1 g u (hc.1.1.trans h.2.1) h.1.2.2.2.2 hp) (fun _ _ => rfl) ?_
    refine q_step 4 16 [(0, .ref 8), (1, .int (Int32.ofNat p)), (2, .int (Int32.ofNat a)), (3, .int (Int32.ofNat b)), (4, .int (12 : Int32))] [.int (Int32.ofNat a), .ref 20] g u (fun big n0 => sg_nu_57 big n0 g u (Int32.ofNat p) (Int32.ofNat a) (Int32.ofNat b)) ?_
    refine q_call (M2 := 40) (rest := []) (b_hasOne1 g u (hc.1.1.trans h.2.1) h.1.2.2.2.2 ha) (fun _ _ => rfl) ?_
    refine q_step 4 27 [(0, .ref 8), (1, .int (Int32.ofNat p)), (2, .int (Int32.ofNat a)), (3, .int (Int32.ofNat b)), (4, .int (12 : Int32))] [.int (Int32.ofNat b), .ref 20] g u (fun big n0 => sg_nu_58 big n0 g u (Int32.ofNat p) (Int32.ofNat a) (Int32.ofNat b)) ?_
    refine q_call (M2 := 40) (rest := []) (b_hasOne1 g u (hc.1.1.trans h.2.1) h.1.2.2.2.2 hb) (fun _ _ => rfl) ?_
    refine q_step 3 35 [(0, .ref 8), (1, .int (Int32.ofNat p)), (2, .int (Int32.ofNat a)), (3, .int (Int32.ofNat b)), (4, .int (12 : Int32))] [.int (Int32.ofNat a), .int (Int32.ofNat p)] g u (fun big n0 => sg_nu_59 big n0 g u (Int32.ofNat p) (Int32.ofNat a) (Int32.ofNat b)) ?_
    refine q_ic_eq rfl (fun hc0 => absurd (show (Int32.ofNat p) = (Int32.ofNat a) from hc0) (fun z => hpa ((q_eq (by omega) (by omega)).mp z))) (fun (hc0 : ¬ ((Int32.ofNat p) = (Int32.ofNat a))) => ?_)
    refine q_step 2 40 [(0, .ref 8), (1, .int (Int32.ofNat p)), (2, .int (Int32.ofNat a)), (3, .int (Int32.ofNat b)), (4, .int (12 : Int32))] [.int (Int32.ofNat b), .int (Int32.ofNat p)] g u (fun big n0 => sg_nu_60 big n0 g u (Int32.ofNat p) (Int32.ofNat a) (Int32.ofNat b)) ?_
    refine q_ic_eq rfl (fun hc1 => absurd (show (Int32.ofNat p) = (Int32.ofNat b) from hc1) (fun z => hpb ((q_eq (by omega) (by omega)).mp z))) (fun (hc1 : ¬ ((Int32.ofNat p) = (Int32.ofNat b))) => ?_)
    refine q_step 2 45 [(0, .ref 8), (1, .int (Int32.ofNat p)), (2, .int (Int32.ofNat a)), (3, .int (Int32.ofNat b)), (4, .int (12 : Int32))] [.int (Int32.ofNat b), .int (Int32.ofNat a)] g u (fun big n0 => sg_nu_61 big n0 g u (Int32.ofNat p) (Int32.ofNat a) (Int32.ofNat b)) ?_
    refine q_ic_ne rfl (fun hc2 => absurd (show (Int32.ofNat a) = (Int32.ofNat b) from hc2) (fun z => hab ((q_eq (by omega) (by omega)).mp z))) (fun (hc2 : ¬ ((Int32.ofNat a) = (Int32.ofNat b))) => ?_)
    refine q_step 19 88 [(0, .ref 8), (1, .int (Int32.ofNat p)), (2, .int (Int32.ofNat a)), (3, .int (Int32.ofNat b)), (4, .int (12 : Int32)), (5, .int (2 : Int32))] [.int (Int32.ofNat b), .int (Int32.ofNat a), .int (Int32.ofNat p), .ref 20, .ref 34] g u (fun big n0 => sg_nu_62 big n0 g u (Int32.ofNat p) (Int32.ofNat a) (Int32.ofNat b)) ?_
    refine q_call (M2 := 107) (rest := []) (hbb) (fun _ _ => rfl) ?_
    refine q_step 3 97 [(0, .ref 8), (1, .int (Int32.ofNat p)), (2, .int (Int32.ofNat a)), (3, .int (Int32.ofNat b)), (4, .int (12 : Int32)), (5, .int (2 : Int32)), (6, .int (Int32.ofNat (s * 1024 + row)))] [.int (Int8.toInt32 (Int8.ofInt (-4))), .int (Int32.ofNat (s * 1024 + row))] g1 u1 (fun big n0 => sg_nu_63 big n0 g1 u1 (Int32.ofNat p) (Int32.ofNat a) (Int32.ofNat b) (Int32.ofNat (s * 1024 + row))) ?_
    refine q_ic_ne rfl (fun hc3 => absurd (show (Int32.ofNat (s * 1024 + row)) = (Int8.toInt32 (Int8.ofInt (-4))) from hc3) (q_none_ne (by omega))) (fun (hc3 : ¬ ((Int32.ofNat (s * 1024 + row)) = (Int8.toInt32 (Int8.ofInt (-4))))) => ?_)
    refine q_step 1 105 [(0, .ref 8), (1, .int (Int32.ofNat p)), (2, .int (Int32.ofNat a)), (3, .int (Int32.ofNat b)), (4, .int (12 : Int32)), (5, .int (2 : Int32)), (6, .int (Int32.ofNat (s * 1024 + row)))] [.int (Int32.ofNat (s * 1024 + row))] g1 u1 (fun big n0 => sg_nu_64 big n0 g1 u1 (Int32.ofNat p) (Int32.ofNat a) (Int32.ofNat b) (Int32.ofNat (s * 1024 + row))) ?_
    refine q_call (M2 := 87) (rest := []) (b_up g1 u1 (by omega) (by omega)) (fun _ _ => rfl) ?_
    refine q_step 5 122 [(0, .ref 8), (1, .int (Int32.ofNat p)), (2, .int (Int32.ofNat a)), (3, .int (Int32.ofNat b)), (4, .int (12 : Int32)), (5, .int (2 : Int32)), (6, .int (Int32.ofNat (s * 1024 + row))), (7, .int (Int32.ofNat s))] [.int (Int32.ofNat s), .int (2 : Int32)] g1 u1 (fun big n0 => sg_nu_65 big n0 g1 u1 (Int32.ofNat p) (Int32.ofNat a) (Int32.ofNat b) (Int32.ofNat (s * 1024 + row)) (Int32.ofNat s)) ?_
    refine q_ic_ge rfl (fun (hc4 : (Int32.ofNat s) ≤ (2 : Int32)) => ?_) (fun (hc4 : ¬ ((Int32.ofNat s) ≤ (2 : Int32))) => ?_)
    · refine q_ret 2 (some (.int (Int8.toInt32 (Int8.ofInt (-4)))), g1, u1) (fun _ _ => rfl) ?_
      refine ⟨g1, u1, ?_, hf⟩
      have z := (q_le (i := s) (j := 2) (by omega) (by omega)).mp hc4
      rw [f_nuw_n (w := 12) (by omega) (by omega)]
    · refine q_step 1 127 [(0, .ref 8), (1, .int (Int32.ofNat p)), (2, .int (Int32.ofNat a)), (3, .int (Int32.ofNat b)), (4, .int (12 : Int32)), (5, .int (2 : Int32)), (6, .int (Int32.ofNat (s * 1024 + row))), (7, .int (Int32.ofNat s))] [.int (Int32.ofNat (s * 1024 + row))] g1 u1 (fun big n0 => sg_nu_66 big n0 g1 u1 (Int32.ofNat p) (Int32.ofNat a) (Int32.ofNat b) (Int32.ofNat (s * 1024 + row)) (Int32.ofNat s)) ?_
      refine q_call (M2 := 88) (rest := []) (b_lo g1 u1 (by omega) (by omega)) (fun _ _ => rfl) ?_
      refine q_step 2 134 [(0, .ref 8), (1, .int (Int32.ofNat p)), (2, .int (Int32.ofNat a)), (3, .int (Int32.ofNat b)), (4, .int (12 : Int32)), (5, .int (2 : Int32)), (6, .int (Int32.ofNat (s * 1024 + row))), (7, .int (Int32.ofNat s))] [.int (Int32.ofNat s), .int (2 : Int32), .int (Int32.ofNat row)] g1 u1 (fun big n0 => sg_nu_67 big n0 g1 u1 (Int32.ofNat p) (Int32.ofNat a) (Int32.ofNat b) (Int32.ofNat (s * 1024 + row)) (Int32.ofNat s) (Int32.ofNat row)) ?_
      refine q_call (M2 := 96) (rest := []) (b_dig _ _ _ _ _) (fun _ _ => rfl) ?_
      refine q_ret 2 (some (.int (s_dg (Int32.ofNat row) (Int32.ofNat s) (2 : Int32))), g1, u1) (fun _ _ => rfl) ?_
      refine ⟨g1, u1, ?_, hf⟩
      have z : 2 < s := by
        have z1 : ¬ s ≤ 2 := fun q => hc4 ((q_le (i := s) (j := 2) (by omega) (by omega)).mpr q)
        omega
      rw [f_nuw_y (w := 12) (by omega) z]
      rfl
theorem c_nurse13 {n W H : Nat} {g r : qM} (u : qW) (h : w_ok n W H r) (hc : w_cs 20 n g r) {p a b : Nat} (hp : p < n) (ha : a < n) (hb : b < n) (hpa : p ≠ a) (hpb : p ≠ b) (hab : a ≠ b) : w_BS w_fc 106 [.ref 8, .int (Int32.ofNat p), .int (Int32.ofNat a), .int (Int32.ofNat b), .int (13 : Int32)] g u (.int (f_nuw 13 (f_nur n p a b r))) := by
  refine w_bs (mm := m_106) rfl (Nat.le_of_ble_eq_true rfl) rfl ?_
  have h5 : n ≤ 6 := h.1.2.2.2.2
  obtain ⟨g1, u1, hbb, hf⟩ := c_par107 u h hc hp ha hb
  cases hF : f_nur n p a b r with
  | none =>
    rw [hF] at hbb
    refine q_step 3 5 [(0, .ref 8), (1, .int (Int32.ofNat p)), (2, .int (Int32.ofNat a)), (3, .int (Int32.ofNat b)), (4, .int (13 : Int32))] [.int (Int32.ofNat p), .ref 20] g u (fun big n0 => sg_nu_68 big n0 g u (Int32.ofNat p) (Int32.ofNat a) (Int32.ofNat b)) ?_
    refine q_call (M2 := 40) (rest := []) (b_hasOne1 g u (hc.1.1.trans h.2.1) h.1.2.2.2.2 hp) (fun _ _ => rfl) ?_
    refine q_step 4 16 [(0, .ref 8), (1, .int (Int32.ofNat p)), (2, .int (Int32.ofNat a)), (3, .int (Int32.ofNat b)), (4, .int (13 : Int32))] [.int (Int32.ofNat a), .ref 20] g u (fun big n0 => sg_nu_69 big n0 g u (Int32.ofNat p) (Int32.ofNat a) (Int32.ofNat b)) ?_
    refine q_call (M2 := 40) (rest := []) (b_hasOne1 g u (hc.1.1.trans h.2.1) h.1.2.2.2.2 ha) (fun _ _ => rfl) ?_
    refine q_step 4 27 [(0, .ref 8), (1, .int (Int32.ofNat p)), (2, .int (Int32.ofNat a)), (3, .int (Int32.ofNat b)), (4, .int (13 : Int32))] [.int (Int32.ofNat b), .ref 20] g u (fun big n0 => sg_nu_70 big n0 g u (Int32.ofNat p) (Int32.ofNat a) (Int32.ofNat b)) ?_
    refine q_call (M2 := 40) (rest := []) (b_hasOne1 g u (hc.1.1.trans h.2.1) h.1.2.2.2.2 hb) (fun _ _ => rfl) ?_
    refine q_step 3 35 [(0, .ref 8), (1, .int (Int32.ofNat p)), (2, .int (Int32.ofNat a)), (3, .int (Int32.ofNat b)), (4, .int (13 : Int32))] [.int (Int32.ofNat a), .int (Int32.ofNat p)] g u (fun big n0 => sg_nu_71 big n0 g u (Int32.ofNat p) (Int32.ofNat a) (Int32.ofNat b)) ?_
    refine q_ic_eq rfl (fun hc0 => absurd (show (Int32.ofNat p) = (Int32.ofNat a) from hc0) (fun z => hpa ((q_eq (by omega) (by omega)).mp z))) (fun (hc0 : ¬ ((Int32.ofNat p) = (Int32.ofNat a))) => ?_)
    refine q_step 2 40 [(0, .ref 8), (1, .int (Int32.ofNat p)), (2, .int (Int32.ofNat a)), (3, .int (Int32.ofNat b)), (4, .int (13 : Int32))] [.int (Int32.ofNat b), .int (Int32.ofNat p)] g u (fun big n0 => sg_nu_72 big n0 g u (Int32.ofNat p) (Int32.ofNat a) (Int32.ofNat b)) ?_
    refine q_ic_eq rfl (fun hc1 => absurd (show (Int32.ofNat p) = (Int32.ofNat b) from hc1) (fun z => hpb ((q_eq (by omega) (by omega)).mp z))) (fun (hc1 : ¬ ((Int32.ofNat p) = (Int32.ofNat b))) => ?_)
    refine q_step 2 45 [(0, .ref 8), (1, .int (Int32.ofNat p)), (2, .int (Int32.ofNat a)), (3, .int (Int32.ofNat b)), (4, .int (13 : Int32))] [.int (Int32.ofNat b), .int (Int32.ofNat a)] g u (fun big n0 => sg_nu_73 big n0 g u (Int32.ofNat p) (Int32.ofNat a) (Int32.ofNat b)) ?_
    refine q_ic_ne rfl (fun hc2 => absurd (show (Int32.ofNat a) = (Int32.ofNat b) from hc2) (fun z => hab ((q_eq (by omega) (by omega)).mp z))) (fun (hc2 : ¬ ((Int32.ofNat a) = (Int32.ofNat b))) => ?_)
    refine q_step 19 88 [(0, .ref 8), (1, .int (Int32.ofNat p)), (2, .int (Int32.ofNat a)), (3, .int (Int32.ofNat b)), (4, .int (13 : Int32)), (5, .int (3 : Int32))] [.int (Int32.ofNat b), .int (Int32.ofNat a), .int (Int32.ofNat p), .ref 20, .ref 34] g u (fun big n0 => sg_nu_74 big n0 g u (Int32.ofNat p) (Int32.ofNat a) (Int32.ofNat b)) ?_
    refine q_call (M2 := 107) (rest := []) (hbb) (fun _ _ => rfl) ?_
    refine q_ret 6 (some (.int (Int8.toInt32 (Int8.ofInt (-4)))), g1, u1) (fun _ _ => rfl) ?_
    exact ⟨g1, u1, rfl, hf⟩
  | some z =>
    obtain ⟨s, row⟩ := z
    rw [hF] at hbb
    have hl := f_nof_lt 5 0 s row hF
    have h44 := s_44 (s := s) (by omega)
    refine q_step 3 5 [(0, .ref 8), (1, .int (Int32.ofNat p)), (2, .int (Int32.ofNat a)), (3, .int (Int32.ofNat b)), (4, .int (13 : Int32))] [.int (Int32.ofNat p), .ref 20] g u (fun big n0 => sg_nu_68 big n0 g u (Int32.ofNat p) (Int32.ofNat a) (Int32.ofNat b)) ?_
    refine q_call (M2 := 40) (rest := []) (b_hasOne1 g u (hc.1.1.trans h.2.1) h.1.2.2.2.2 hp) (fun _ _ => rfl) ?_
    refine q_step 4 16 [(0, .ref 8), (1, .int (Int32.ofNat p)), (2, .int (Int32.ofNat a)), (3, .int (Int32.ofNat b)), (4, .int (13 : Int32))] [.int (Int32.ofNat a), .ref 20] g u (fun big n0 => sg_nu_69 big n0 g u (Int32.ofNat p) (Int32.ofNat a) (Int32.ofNat b)) ?_
    refine q_call (M2 := 40) (rest := []) (b_hasOne1 g u (hc.1.1.trans h.2.1) h.1.2.2.2.2 ha) (fun _ _ => rfl) ?_
    refine q_step 4 27 [(0, .ref 8), (1, .int (Int32.ofNat p)), (2, .int (Int32.ofNat a)), (3, .int (Int32.ofNat b)), (4, .int (13 : Int32))] [.int (Int32.ofNat b), .ref 20] g u (fun big n0 => sg_nu_70 big n0 g u (Int32.ofNat p) (Int32.ofNat a) (Int32.ofNat b)) ?_
    refine q_call (M2 := 40) (rest := []) (b_hasOne1 g u (hc.1.1.trans h.2.1) h.1.2.2.2.2 hb) (fun _ _ => rfl) ?_
    refine q_step 3 35 [(0, .ref 8), (1, .int (Int32.ofNat p)), (2, .int (Int32.ofNat a)), (3, .int (Int32.ofNat b)), (4, .int (13 : Int32))] [.int (Int32.ofNat a), .int (Int32.ofNat p)] g u (fun big n0 => sg_nu_71 big n0 g u (Int32.ofNat p) (Int32.ofNat a) (Int32.ofNat b)) ?_
    refine q_ic_eq rfl (fun hc0 => absurd (show (Int32.ofNat p) = (Int32.ofNat a) from hc0) (fun z => hpa ((q_eq (by omega) (by omega)).mp z))) (fun (hc0 : ¬ ((Int32.ofNat p) = (Int32.ofNat a))) => ?_)
    refine q_step 2 40 [(0, .ref 8), (1, .int (Int32.ofNat p)), (2, .int (Int32.ofNat a)), (3, .int (Int32.ofNat b)), (4, .int (13 : Int32))] [.int (Int32.ofNat b), .int (Int32.ofNat p)] g u (fun big n0 => sg_nu_72 big n0 g u (Int32.ofNat p) (Int32.ofNat a) (Int32.ofNat b)) ?_
    refine q_ic_eq rfl (fun hc1 => absurd (show (Int32.ofNat p) = (Int32.ofNat b) from hc1) (fun z => hpb ((q_eq (by omega) (by omega)).mp z))) (fun (hc1 : ¬ ((Int32.ofNat p) = (Int32.ofNat b))) => ?_)
    refine q_step 2 45 [(0, .ref 8), (1, .int (Int32.ofNat p)), (2, .int (Int32.ofNat a)), (3, .int (Int32.ofNat b)), (4, .int (13 : Int32))] [.int (Int32.ofNat b), .int (Int32.ofNat a)] g u (fun big n0 => sg_nu_73 big n0 g u (Int32.ofNat p) (Int32.ofNat a) (Int32.ofNat b)) ?_
    refine q_ic_ne rfl (fun hc2 => absurd (show (Int32.ofNat a) = (Int32.ofNat b) from hc2) (fun z => hab ((q_eq (by omega) (by omega)).mp z))) (fun (hc2 : ¬ ((Int32.ofNat a) = (Int32.ofNat b))) => ?_)
    refine q_step 19 88 [(0, .ref 8), (1, .int (Int32.ofNat p)), (2, .int (Int32.ofNat a)), (3, .int (Int32.ofNat b)), (4, .int (13 : Int32)), (5, .int (3 : Int32))] [.int (Int32.ofNat b), .int (Int32.ofNat a), .int (Int32.ofNat p), .ref 20, .ref 34] g u (fun big n0 => sg_nu_74 big n0 g u (Int32.ofNat p) (Int32.ofNat a) (Int32.ofNat b)) ?_
    refine q_call (M2 := 107) (rest := []) (hbb) (fun _ _ => rfl) ?_
    refine q_step 3 97 [(0, .ref 8), (1, .int (Int32.ofNat p)), (2, .int (Int32.ofNat a)), (3, .int (Int32.ofNat b)), (4, .int (13 : Int32)), (5, .int (3 : Int32)), (6, .int (Int32.ofNat (s * 1024 + row)))] [.int (Int8.toInt32 (Int8.ofInt (-4))), .int (Int32.ofNat (s * 1024 + row))] g1 u1 (fun big n0 => sg_nu_75 big n0 g1 u1 (Int32.ofNat p) (Int32.ofNat a) (Int32.ofNat b) (Int32.ofNat (s * 1024 + row))) ?_
    refine q_ic_ne rfl (fun hc3 => absurd (show (Int32.ofNat (s * 1024 + row)) = (Int8.toInt32 (Int8.ofInt (-4))) from hc3) (q_none_ne (by omega))) (fun (hc3 : ¬ ((Int32.ofNat (s * 1024 + row)) = (Int8.toInt32 (Int8.ofInt (-4))))) => ?_)
    refine q_step 1 105 [(0, .ref 8), (1, .int (Int32.ofNat p)), (2, .int (Int32.ofNat a)), (3, .int (Int32.ofNat b)), (4, .int (13 : Int32)), (5, .int (3 : Int32)), (6, .int (Int32.ofNat (s * 1024 + row)))] [.int (Int32.ofNat (s * 1024 + row))] g1 u1 (fun big n0 => sg_nu_76 big n0 g1 u1 (Int32.ofNat p) (Int32.ofNat a) (Int32.ofNat b) (Int32.ofNat (s * 1024 + row))) ?_
    refine q_call (M2 := 87) (rest := []) (b_up g1 u1 (by omega) (by omega)) (fun _ _ => rfl) ?_
    refine q_step 5 122 [(0, .ref 8), (1, .int (Int32.ofNat p)), (2, .int (Int32.ofNat a)), (3, .int (Int32.ofNat b)), (4, .int (13 : Int32)), (5, .int (3 : Int32)), (6, .int (Int32.ofNat (s * 1024 + row))), (7, .int (Int32.ofNat s))] [.int (Int32.ofNat s), .int (3 : Int32)] g1 u1 (fun big n0 => sg_nu_77 big n0 g1 u1 (Int32.ofNat p) (Int32.ofNat a) (Int32.ofNat b) (Int32.ofNat (s * 1024 + row)) (Int32.ofNat s)) ?_
    refine q_ic_ge rfl (fun (hc4 : (Int32.ofNat s) ≤ (3 : Int32)) => ?_) (fun (hc4 : ¬ ((Int32.ofNat s) ≤ (3 : Int32))) => ?_)
    · refine q_ret 2 (some (.int (Int8.toInt32 (Int8.ofInt (-4)))), g1, u1) (fun _ _ => rfl) ?_
      refine ⟨g1, u1, ?_, hf⟩
      have z := (q_le (i := s) (j := 3) (by omega) (by omega)).mp hc4
      rw [f_nuw_n (w := 13) (by omega) (by omega)]
    · refine q_step 1 127 [(0, .ref 8), (1, .int (Int32.ofNat p)), (2, .int (Int32.ofNat a)), (3, .int (Int32.ofNat b)), (4, .int (13 : Int32)), (5, .int (3 : Int32)), (6, .int (Int32.ofNat (s * 1024 + row))), (7, .int (Int32.ofNat s))] [.int (Int32.ofNat (s * 1024 + row))] g1 u1 (fun big n0 => sg_nu_78 big n0 g1 u1 (Int32.ofNat p) (Int32.ofNat a) (Int32.ofNat b) (Int32.ofNat (s * 1024 + row)) (Int32.ofNat s)) ?_
      refine q_call (M2 := 88) (rest := []) (b_lo g1 u1 (by omega) (by omega)) (fun _ _ => rfl) ?_
      refine q_step 2 134 [(0, .ref 8), (1, .int (Int32.ofNat p)), (2, .int (Int32.ofNat a)), (3, .int (Int32.ofNat b)), (4, .int (13 : Int32)), (5, .int (3 : Int32)), (6, .int (Int32.ofNat (s * 1024 + row))), (7, .int (Int32.ofNat s))] [.int (Int32.ofNat s), .int (3 : Int32), .int (Int32.ofNat row)] g1 u1 (fun big n0 => sg_nu_79 big n0 g1 u1 (Int32.ofNat p) (Int32.ofNat a) (Int32.ofNat b) (Int32.ofNat (s * 1024 + row)) (Int32.ofNat s) (Int32.ofNat row)) ?_
      refine q_call (M2 := 96) (rest := []) (b_dig _ _ _ _ _) (fun _ _ => rfl) ?_
      refine q_ret 2 (some (.int (s_dg (Int32.ofNat row) (Int32.ofNat s) (3 : Int32))), g1, u1) (fun _ _ => rfl) ?_
      refine ⟨g1, u1, ?_, hf⟩
      have z : 3 < s := by
        have z1 : ¬ s ≤ 3 := fun q => hc4 ((q_le (i := s) (j := 3) (by omega) (by omega)).mpr q)
        omega
      rw [f_nuw_y (w := 13) (by omega) z]
      rfl
theorem rn1 (u : qW) {n W H p a b : Nat} {wh : Int32} {s row : Nat} (h6 : n ≤ 6) (hp : p < n) (hs4 : s ≤ 4) {Q : Option Value × qM × qW → Prop} : ∀ k i g r1, i + k = s → w_ok n W H r1 → w_sm n g r1 → (∀ g2, w_fr g g2 → w_sm n g2 (f_nu n p row s k i r1) → q_EV m_208 140 [(0, .ref 70), (1, .int (Int32.ofNat p)), (2, .int (Int32.ofNat a)), (3, .int (Int32.ofNat b)), (4, .int wh), (5, .int (1 : Int32)), (6, .int (Int32.ofNat s)), (7, .int (Int32.ofNat row)), (8, .int (Int32.ofNat s))] [] g2 u Q) → q_EV m_208 102 [(0, .ref 70), (1, .int (Int32.ofNat p)), (2, .int (Int32.ofNat a)), (3, .int (Int32.ofNat b)), (4, .int wh), (5, .int (1 : Int32)), (6, .int (Int32.ofNat s)), (7, .int (Int32.ofNat row)), (8, .int (Int32.ofNat i))] [] g u Q := by
  intro k
  induction k with
  | zero =>
    intro i g r1 hi h hs hk
    refine q_step 2 106 [(0, .ref 70), (1, .int (Int32.ofNat p)), (2, .int (Int32.ofNat a)), (3, .int (Int32.ofNat b)), (4, .int wh), (5, .int (1 : Int32)), (6, .int (Int32.ofNat s)), (7, .int (Int32.ofNat row)), (8, .int (Int32.ofNat i))] [.int (Int32.ofNat s), .int (Int32.ofNat i)] g u (fun big n0 => sg_nu_80 big n0 g u (Int32.ofNat p) (Int32.ofNat a) (Int32.ofNat b) wh (Int32.ofNat s) (Int32.ofNat row) (Int32.ofNat i)) ?_
    refine q_ic_ge rfl (fun (hc0 : (Int32.ofNat s) ≤ (Int32.ofNat i)) => ?_) (fun hc0 => absurd (show (Int32.ofNat s) ≤ (Int32.ofNat i) from by exact (q_le (by omega) (by omega)).mpr (by omega)) hc0)
    have e : i = s := by omega
    rw [e]
    exact hk g (w_fr_rfl g) hs
  | succ k ih =>
    intro i g r1 hi h hs hk
    refine q_step 2 106 [(0, .ref 70), (1, .int (Int32.ofNat p)), (2, .int (Int32.ofNat a)), (3, .int (Int32.ofNat b)), (4, .int wh), (5, .int (1 : Int32)), (6, .int (Int32.ofNat s)), (7, .int (Int32.ofNat row)), (8, .int (Int32.ofNat i))] [.int (Int32.ofNat s), .int (Int32.ofNat i)] g u (fun big n0 => sg_nu_80 big n0 g u (Int32.ofNat p) (Int32.ofNat a) (Int32.ofNat b) wh (Int32.ofNat s) (Int32.ofNat row) (Int32.ofNat i)) ?_
    refine q_ic_ge rfl (fun hc0 => absurd (show (Int32.ofNat s) ≤ (Int32.ofNat i) from hc0) (fun z => by exact absurd ((q_le (by omega) (by omega)).mp z) (by omega))) (fun (hc0 : ¬ ((Int32.ofNat s) ≤ (Int32.ofNat i))) => ?_)
    refine q_step 14 128 [(0, .ref 70), (1, .int (Int32.ofNat p)), (2, .int (Int32.ofNat a)), (3, .int (Int32.ofNat b)), (4, .int wh), (5, .int (1 : Int32)), (6, .int (Int32.ofNat s)), (7, .int (Int32.ofNat row)), (8, .int (Int32.ofNat i))] [.int (((Int32.ofNat row) >>> (((2 : Int32) * (((Int32.ofNat s) - (1 : Int32)) - (Int32.ofNat i))) &&& 31)) &&& (3 : Int32)), .int (Int32.ofNat p), .ref 76] g u (fun big n0 => sg_nu_81 big n0 g u (Int32.ofNat p) (Int32.ofNat a) (Int32.ofNat b) wh (Int32.ofNat s) (Int32.ofNat row) (Int32.ofNat i)) ?_
    refine q_iast (j := p) (q_ixn (by omega) (by omega)) rfl rfl ?_
    refine q_step 1 130 [(0, .ref 70), (1, .int (Int32.ofNat p)), (2, .int (Int32.ofNat a)), (3, .int (Int32.ofNat b)), (4, .int wh), (5, .int (1 : Int32)), (6, .int (Int32.ofNat s)), (7, .int (Int32.ofNat row)), (8, .int (Int32.ofNat i))] [.ref 70] (q_up g 76 p (((Int32.ofNat row) >>> (((2 : Int32) * (((Int32.ofNat s) - (1 : Int32)) - (Int32.ofNat i))) &&& 31)) &&& (3 : Int32))) u (fun big n0 => sg_nu_82 big n0 (q_up g 76 p (((Int32.ofNat row) >>> (((2 : Int32) * (((Int32.ofNat s) - (1 : Int32)) - (Int32.ofNat i))) &&& 31)) &&& (3 : Int32))) u (Int32.ofNat p) (Int32.ofNat a) (Int32.ofNat b) wh (Int32.ofNat s) (Int32.ofNat row) (Int32.ofNat i)) ?_
    rw [show (q_up g 76 p (((Int32.ofNat row) >>> (((2 : Int32) * (((Int32.ofNat s) - (1 : Int32)) - (Int32.ofNat i))) &&& 31)) &&& (3 : Int32))) = (q_up g 76 p (f_md s row i)) from rfl]
    have hk1 := w_ok_md (p := p) h (s_dg_4 (Int32.ofNat row) (Int32.ofNat s) (Int32.ofNat i))
    have hd := w_sm_md (p := p) (x := f_md s row i) hs
    refine q_call (M2 := 191) (rest := []) (c_rst u hk1 hd) (fun _ _ => rfl) ?_
    refine q_step 3 102 [(0, .ref 70), (1, .int (Int32.ofNat p)), (2, .int (Int32.ofNat a)), (3, .int (Int32.ofNat b)), (4, .int wh), (5, .int (1 : Int32)), (6, .int (Int32.ofNat s)), (7, .int (Int32.ofNat row)), (8, .int ((Int32.ofNat i) + (1 : Int32)))] [] (s_rst n (q_up g 76 p (f_md s row i))) u (fun big n0 => sg_nu_83 big n0 (s_rst n (q_up g 76 p (f_md s row i))) u (Int32.ofNat p) (Int32.ofNat a) (Int32.ofNat b) wh (Int32.ofNat s) (Int32.ofNat row) (Int32.ofNat i) (s_ran n (q_up g 76 p (f_md s row i)))) ?_
    rw [q_succ]
    have hf : w_fr g (s_rst n (q_up g 76 p (f_md s row i))) := ((w_fr_rfl g).up (by omega)).trans s_rst_fr
    exact ih (i + 1) _ _ (by omega) (w_ok_rst hk1) (w_sm_rst hk1 hd).1 (fun g2 f1 h1 => hk g2 (hf.trans f1) h1)
theorem rn2 (u : qW) {n W H p a b : Nat} {wh : Int32} {r : qM} (h : w_ok n W H r) (h5 : n ≤ 5) (hp : p < n) (ha : a < n) (hb : b < n) {s : Nat} (hs4 : s ≤ 4) (h4 : 4 ^ s ≤ 256) {Q : Option Value × qM × qW → Prop} : ∀ k row g, row + k = 4 ^ s → w_sm n (s_start g) r → (f_fi ((n_nur n p a b r) s) k row = none → ∀ g2, w_fr g g2 → w_sm n (s_start g2) r → q_EV m_208 199 [(0, .ref 70), (1, .int (Int32.ofNat p)), (2, .int (Int32.ofNat a)), (3, .int (Int32.ofNat b)), (4, .int wh), (5, .int (1 : Int32)), (6, .int (Int32.ofNat s)), (7, .int (Int32.ofNat (4 ^ s)))] [] g2 u Q) → (∀ x g2, f_fi ((n_nur n p a b r) s) k row = some x → w_fr g g2 → q_EV m_208 150 [(0, .ref 70), (1, .int (Int32.ofNat p)), (2, .int (Int32.ofNat a)), (3, .int (Int32.ofNat b)), (4, .int wh), (5, .int (1 : Int32)), (6, .int (Int32.ofNat s)), (7, .int (Int32.ofNat x))] [] g2 u Q) → q_EV m_208 85 [(0, .ref 70), (1, .int (Int32.ofNat p)), (2, .int (Int32.ofNat a)), (3, .int (Int32.ofNat b)), (4, .int wh), (5, .int (1 : Int32)), (6, .int (Int32.ofNat s)), (7, .int (Int32.ofNat row))] [] g u Q := by
  intro k
  induction k with
  | zero =>
    intro row g hrow hs hk hf
    refine q_step 2 89 [(0, .ref 70), (1, .int (Int32.ofNat p)), (2, .int (Int32.ofNat a)), (3, .int (Int32.ofNat b)), (4, .int wh), (5, .int (1 : Int32)), (6, .int (Int32.ofNat s)), (7, .int (Int32.ofNat row))] [.int (Int32.ofNat s), .int (Int32.ofNat row)] g u (fun big n0 => sg_nu_84 big n0 g u (Int32.ofNat p) (Int32.ofNat a) (Int32.ofNat b) wh (Int32.ofNat s) (Int32.ofNat row)) ?_
    refine q_call (M2 := 202) (rest := [.int (Int32.ofNat row)]) (b_rrows _ _ _) (fun _ _ => rfl) ?_
    refine q_ic_ge rfl (fun (hc0 : (s_rows (Int32.ofNat s)) ≤ (Int32.ofNat row)) => ?_) (fun hc0 => absurd (show (s_rows (Int32.ofNat s)) ≤ (Int32.ofNat row) from by rw [s_rows_n (by omega)]; exact (q_le (by omega) (by omega)).mpr (by omega)) hc0)
    have e : row = 4 ^ s := by omega
    rw [e]
    exact hk rfl g (w_fr_rfl g) hs
  | succ k ih =>
    intro row g hrow hs hk hf
    refine q_step 2 89 [(0, .ref 70), (1, .int (Int32.ofNat p)), (2, .int (Int32.ofNat a)), (3, .int (Int32.ofNat b)), (4, .int wh), (5, .int (1 : Int32)), (6, .int (Int32.ofNat s)), (7, .int (Int32.ofNat row))] [.int (Int32.ofNat s), .int (Int32.ofNat row)] g u (fun big n0 => sg_nu_84 big n0 g u (Int32.ofNat p) (Int32.ofNat a) (Int32.ofNat b) wh (Int32.ofNat s) (Int32.ofNat row)) ?_
    refine q_call (M2 := 202) (rest := [.int (Int32.ofNat row)]) (b_rrows _ _ _) (fun _ _ => rfl) ?_
    refine q_ic_ge rfl (fun hc0 => absurd (show (s_rows (Int32.ofNat s)) ≤ (Int32.ofNat row) from hc0) (fun z => by rw [s_rows_n (by omega)] at z; exact absurd ((q_le (by omega) (by omega)).mp z) (by omega))) (fun (hc0 : ¬ ((s_rows (Int32.ofNat s)) ≤ (Int32.ofNat row))) => ?_)
    refine q_step 1 96 [(0, .ref 70), (1, .int (Int32.ofNat p)), (2, .int (Int32.ofNat a)), (3, .int (Int32.ofNat b)), (4, .int wh), (5, .int (1 : Int32)), (6, .int (Int32.ofNat s)), (7, .int (Int32.ofNat row))] [.ref 70] g u (fun big n0 => sg_nu_85 big n0 g u (Int32.ofNat p) (Int32.ofNat a) (Int32.ofNat b) wh (Int32.ofNat s) (Int32.ofNat row)) ?_
    refine q_call (M2 := 172) (rest := []) (b_starts g u) (fun _ _ => rfl) ?_
    refine q_step 2 102 [(0, .ref 70), (1, .int (Int32.ofNat p)), (2, .int (Int32.ofNat a)), (3, .int (Int32.ofNat b)), (4, .int wh), (5, .int (1 : Int32)), (6, .int (Int32.ofNat s)), (7, .int (Int32.ofNat row)), (8, .int (0 : Int32))] [] (s_start g) u (fun big n0 => sg_nu_86 big n0 (s_start g) u (Int32.ofNat p) (Int32.ofNat a) (Int32.ofNat b) wh (Int32.ofNat s) (Int32.ofNat row)) ?_
    refine rn1 u (by omega) hp hs4 s 0 (s_start g) r (by omega) h hs (fun g2 f1 h1 => ?_)
    have hkn := w_ok_nu (p := p) (row := row) (s := s) s 0 r h
    have hap := b_apart g2 u (p := a) (q := b) (by omega) (by omega) (w_w0 hkn h1).2.2
    rw [show s_far (g2 70 2) (g2 75 b) (g2 75 a) = f_far (f_nu n p row s s 0 r) a b from by unfold f_far; rw [h1.1.2.1, (h1.2.2 b hb).1, (h1.2.2 a ha).1]] at hap
    have hfr := s_start_fr.trans f1
    refine q_step 3 143 [(0, .ref 70), (1, .int (Int32.ofNat p)), (2, .int (Int32.ofNat a)), (3, .int (Int32.ofNat b)), (4, .int wh), (5, .int (1 : Int32)), (6, .int (Int32.ofNat s)), (7, .int (Int32.ofNat row)), (8, .int (Int32.ofNat s))] [.int (Int32.ofNat b), .int (Int32.ofNat a), .ref 70] g2 u (fun big n0 => sg_nu_87 big n0 g2 u (Int32.ofNat p) (Int32.ofNat a) (Int32.ofNat b) wh (Int32.ofNat s) (Int32.ofNat row) (Int32.ofNat s)) ?_
    refine q_call (M2 := 185) (rest := []) (hap) (fun _ _ => rfl) ?_
    refine q_step 1 147 [(0, .ref 70), (1, .int (Int32.ofNat p)), (2, .int (Int32.ofNat a)), (3, .int (Int32.ofNat b)), (4, .int wh), (5, .int (1 : Int32)), (6, .int (Int32.ofNat s)), (7, .int (Int32.ofNat row)), (8, .int (Int32.ofNat s))] [.int (1 : Int32), .int (f_far (f_nu n p row s s 0 r) a b)] g2 u (fun big n0 => sg_nu_88 big n0 g2 u (Int32.ofNat p) (Int32.ofNat a) (Int32.ofNat b) wh (Int32.ofNat s) (Int32.ofNat row) (Int32.ofNat s) (f_far (f_nu n p row s s 0 r) a b)) ?_
    refine q_ic_le rfl (fun (hc0 : (f_far (f_nu n p row s s 0 r) a b) ≤ (1 : Int32)) => ?_) (fun (hc0 : ¬ ((f_far (f_nu n p row s s 0 r) a b) ≤ (1 : Int32))) => ?_)
    · refine q_step 2 85 [(0, .ref 70), (1, .int (Int32.ofNat p)), (2, .int (Int32.ofNat a)), (3, .int (Int32.ofNat b)), (4, .int wh), (5, .int (1 : Int32)), (6, .int (Int32.ofNat s)), (7, .int ((Int32.ofNat row) + (1 : Int32))), (8, .int (Int32.ofNat s))] [] g2 u (fun big n0 => sg_nu_89 big n0 g2 u (Int32.ofNat p) (Int32.ofNat a) (Int32.ofNat b) wh (Int32.ofNat s) (Int32.ofNat row) (Int32.ofNat s)) ?_
      refine q_weak [(0, .ref 70), (1, .int (Int32.ofNat p)), (2, .int (Int32.ofNat a)), (3, .int (Int32.ofNat b)), (4, .int wh), (5, .int (1 : Int32)), (6, .int (Int32.ofNat s)), (7, .int ((Int32.ofNat row) + (1 : Int32)))] (q_sub.cons rfl (q_sub.cons rfl (q_sub.cons rfl (q_sub.cons rfl (q_sub.cons rfl (q_sub.cons rfl (q_sub.cons rfl (q_sub.cons rfl q_sub.nil)))))))) ?_
      have e : f_fi ((n_nur n p a b r) s) (k + 1) row = f_fi ((n_nur n p a b r) s) k (row + 1) := by rw [f_fi, if_pos (n_nur_iff.mpr hc0)]
      rw [q_succ]
      exact ih (row + 1) g2 (by omega) (w_st_sm hfr h5 hs) (fun z g3 f3 => hk (e.trans z) g3 (hfr.trans f3)) (fun x g3 z f3 => hf x g3 (e.trans z) (hfr.trans f3))
    · refine q_weak [(0, .ref 70), (1, .int (Int32.ofNat p)), (2, .int (Int32.ofNat a)), (3, .int (Int32.ofNat b)), (4, .int wh), (5, .int (1 : Int32)), (6, .int (Int32.ofNat s)), (7, .int (Int32.ofNat row))] (q_sub.cons rfl (q_sub.cons rfl (q_sub.cons rfl (q_sub.cons rfl (q_sub.cons rfl (q_sub.cons rfl (q_sub.cons rfl (q_sub.cons rfl q_sub.nil)))))))) ?_
      exact hf row g2 (by rw [f_fi, if_neg (fun z => hc0 (n_nur_iff.mp z))]) hfr
theorem rn3 (u : qW) {n W H p a b : Nat} {wh : Int32} {r : qM} (h : w_ok n W H r) (h5 : n ≤ 5) (hp : p < n) (ha : a < n) (hb : b < n) {Q : Option Value × qM × qW → Prop} : ∀ k s g, s + k = 5 → w_sm n (s_start g) r → (f_nof (n_nur n p a b r) k s = none → ∀ g2, w_fr g g2 → q_EV m_208 205 [(0, .ref 70), (1, .int (Int32.ofNat p)), (2, .int (Int32.ofNat a)), (3, .int (Int32.ofNat b)), (4, .int wh), (5, .int (1 : Int32)), (6, .int (Int32.ofNat 5))] [] g2 u Q) → (∀ t x g2, f_nof (n_nur n p a b r) k s = some (t, x) → w_fr g g2 → q_EV m_208 150 [(0, .ref 70), (1, .int (Int32.ofNat p)), (2, .int (Int32.ofNat a)), (3, .int (Int32.ofNat b)), (4, .int wh), (5, .int (1 : Int32)), (6, .int (Int32.ofNat t)), (7, .int (Int32.ofNat x))] [] g2 u Q) → q_EV m_208 76 [(0, .ref 70), (1, .int (Int32.ofNat p)), (2, .int (Int32.ofNat a)), (3, .int (Int32.ofNat b)), (4, .int wh), (5, .int (1 : Int32)), (6, .int (Int32.ofNat s))] [] g u Q := by
  intro k
  induction k with
  | zero =>
    intro s g hi hs hk hf
    refine q_step 2 79 [(0, .ref 70), (1, .int (Int32.ofNat p)), (2, .int (Int32.ofNat a)), (3, .int (Int32.ofNat b)), (4, .int wh), (5, .int (1 : Int32)), (6, .int (Int32.ofNat s))] [.int (4 : Int32), .int (Int32.ofNat s)] g u (fun big n0 => sg_nu_90 big n0 g u (Int32.ofNat p) (Int32.ofNat a) (Int32.ofNat b) wh (Int32.ofNat s)) ?_
    refine q_ic_gt rfl (fun (hc0 : (4 : Int32) < (Int32.ofNat s)) => ?_) (fun hc0 => absurd (show (4 : Int32) < (Int32.ofNat s) from by rw [show s = 5 by omega]; decide) hc0)
    have e : s = 5 := by omega
    rw [e]
    exact hk rfl g (w_fr_rfl g)
  | succ k ih =>
    intro s g hi hs hk hf
    refine q_step 2 79 [(0, .ref 70), (1, .int (Int32.ofNat p)), (2, .int (Int32.ofNat a)), (3, .int (Int32.ofNat b)), (4, .int wh), (5, .int (1 : Int32)), (6, .int (Int32.ofNat s))] [.int (4 : Int32), .int (Int32.ofNat s)] g u (fun big n0 => sg_nu_90 big n0 g u (Int32.ofNat p) (Int32.ofNat a) (Int32.ofNat b) wh (Int32.ofNat s)) ?_
    refine q_ic_gt rfl (fun hc0 => absurd (show (4 : Int32) < (Int32.ofNat s) from hc0) (fun z => by have z1 := (q_lt (i := 4) (j := s) (by omega) (by omega)).mp z; omega)) (fun (hc0 : ¬ ((4 : Int32) < (Int32.ofNat s))) => ?_)
    refine q_step 2 85 [(0, .ref 70), (1, .int (Int32.ofNat p)), (2, .int (Int32.ofNat a)), (3, .int (Int32.ofNat b)), (4, .int wh), (5, .int (1 : Int32)), (6, .int (Int32.ofNat s)), (7, .int (0 : Int32))] [] g u (fun big n0 => sg_nu_91 big n0 g u (Int32.ofNat p) (Int32.ofNat a) (Int32.ofNat b) wh (Int32.ofNat s)) ?_
    refine rn2 u h h5 hp ha hb (s := s) (by omega) (s_44 (by omega)) (4 ^ s) 0 g (by omega) hs (fun hz g2 f1 h1 => ?_) (fun x g2 hx f1 => ?_)
    · refine q_step 2 76 [(0, .ref 70), (1, .int (Int32.ofNat p)), (2, .int (Int32.ofNat a)), (3, .int (Int32.ofNat b)), (4, .int wh), (5, .int (1 : Int32)), (6, .int ((Int32.ofNat s) + (1 : Int32))), (7, .int (Int32.ofNat (4 ^ s)))] [] g2 u (fun big n0 => sg_nu_92 big n0 g2 u (Int32.ofNat p) (Int32.ofNat a) (Int32.ofNat b) wh (Int32.ofNat s) (Int32.ofNat (4 ^ s))) ?_
      refine q_weak [(0, .ref 70), (1, .int (Int32.ofNat p)), (2, .int (Int32.ofNat a)), (3, .int (Int32.ofNat b)), (4, .int wh), (5, .int (1 : Int32)), (6, .int ((Int32.ofNat s) + (1 : Int32)))] (q_sub.cons rfl (q_sub.cons rfl (q_sub.cons rfl (q_sub.cons rfl (q_sub.cons rfl (q_sub.cons rfl (q_sub.cons rfl q_sub.nil))))))) ?_
      have e : f_nof (n_nur n p a b r) (k + 1) s = f_nof (n_nur n p a b r) k (s + 1) := by rw [f_nof, hz]
      rw [q_succ]
      exact ih (s + 1) g2 (by omega) h1 (fun z g3 f3 => hk (e.trans z) g3 (f1.trans f3)) (fun t x g3 z f3 => hf t x g3 (e.trans z) (f1.trans f3))
    · exact hf s x g2 (by rw [f_nof, hx]) f1
theorem r_nurse0 {n W H : Nat} {g r : qM} (u : qW) (h : w_ok n W H r) (hs : w_sm n (s_start g) r) (h5 : n ≤ 5) {p a b : Nat} (hp : p < n) (ha : a < n) (hb : b < n) (hpa : p ≠ a) (hpb : p ≠ b) (hab : a ≠ b) : w_BS w_fr 208 [.ref 70, .int (Int32.ofNat p), .int (Int32.ofNat a), .int (Int32.ofNat b), .int (0 : Int32)] g u (.int (f_nuw 0 (f_nur n p a b r))) := by
  refine w_bs (mm := m_208) rfl (Nat.le_of_ble_eq_true rfl) rfl ?_
  refine q_step 2 2 [(0, .ref 70), (1, .int (Int32.ofNat p)), (2, .int (Int32.ofNat a)), (3, .int (Int32.ofNat b)), (4, .int (0 : Int32))] [.int (Int32.ofNat a), .int (Int32.ofNat p)] g u (fun big n0 => sg_nu_93 big n0 g u (Int32.ofNat p) (Int32.ofNat a) (Int32.ofNat b)) ?_
  refine q_ic_eq rfl (fun hc0 => absurd (show (Int32.ofNat p) = (Int32.ofNat a) from hc0) (fun z => hpa ((q_eq (by omega) (by omega)).mp z))) (fun (hc0 : ¬ ((Int32.ofNat p) = (Int32.ofNat a))) => ?_)
  refine q_step 2 7 [(0, .ref 70), (1, .int (Int32.ofNat p)), (2, .int (Int32.ofNat a)), (3, .int (Int32.ofNat b)), (4, .int (0 : Int32))] [.int (Int32.ofNat b), .int (Int32.ofNat p)] g u (fun big n0 => sg_nu_94 big n0 g u (Int32.ofNat p) (Int32.ofNat a) (Int32.ofNat b)) ?_
  refine q_ic_eq rfl (fun hc1 => absurd (show (Int32.ofNat p) = (Int32.ofNat b) from hc1) (fun z => hpb ((q_eq (by omega) (by omega)).mp z))) (fun (hc1 : ¬ ((Int32.ofNat p) = (Int32.ofNat b))) => ?_)
  refine q_step 2 12 [(0, .ref 70), (1, .int (Int32.ofNat p)), (2, .int (Int32.ofNat a)), (3, .int (Int32.ofNat b)), (4, .int (0 : Int32))] [.int (Int32.ofNat b), .int (Int32.ofNat a)] g u (fun big n0 => sg_nu_95 big n0 g u (Int32.ofNat p) (Int32.ofNat a) (Int32.ofNat b)) ?_
  refine q_ic_eq rfl (fun hc2 => absurd (show (Int32.ofNat a) = (Int32.ofNat b) from hc2) (fun z => hab ((q_eq (by omega) (by omega)).mp z))) (fun (hc2 : ¬ ((Int32.ofNat a) = (Int32.ofNat b))) => ?_)
  refine q_step 5 24 [(0, .ref 70), (1, .int (Int32.ofNat p)), (2, .int (Int32.ofNat a)), (3, .int (Int32.ofNat b)), (4, .int (0 : Int32)), (5, .int (1 : Int32))] [.int (Int32.ofNat p), .ref 70] g u (fun big n0 => sg_nu_96 big n0 g u (Int32.ofNat p) (Int32.ofNat a) (Int32.ofNat b)) ?_
  refine q_call (M2 := 169) (rest := []) (b_risOne1 g u (w_pl h hs) (by omega) hp) (fun _ _ => rfl) ?_
  refine q_step 3 32 [(0, .ref 70), (1, .int (Int32.ofNat p)), (2, .int (Int32.ofNat a)), (3, .int (Int32.ofNat b)), (4, .int (0 : Int32)), (5, .int (1 : Int32))] [.int (Int32.ofNat a), .ref 70] g u (fun big n0 => sg_nu_97 big n0 g u (Int32.ofNat p) (Int32.ofNat a) (Int32.ofNat b)) ?_
  refine q_call (M2 := 169) (rest := []) (b_risOne1 g u (w_pl h hs) (by omega) ha) (fun _ _ => rfl) ?_
  refine q_step 3 40 [(0, .ref 70), (1, .int (Int32.ofNat p)), (2, .int (Int32.ofNat a)), (3, .int (Int32.ofNat b)), (4, .int (0 : Int32)), (5, .int (1 : Int32))] [.int (Int32.ofNat b), .ref 70] g u (fun big n0 => sg_nu_98 big n0 g u (Int32.ofNat p) (Int32.ofNat a) (Int32.ofNat b)) ?_
  refine q_call (M2 := 169) (rest := []) (b_risOne1 g u (w_pl h hs) (by omega) hb) (fun _ _ => rfl) ?_
  refine q_step 7 76 [(0, .ref 70), (1, .int (Int32.ofNat p)), (2, .int (Int32.ofNat a)), (3, .int (Int32.ofNat b)), (4, .int (0 : Int32)), (5, .int (1 : Int32)), (6, .int (0 : Int32))] [] g u (fun big n0 => sg_nu_99 big n0 g u (Int32.ofNat p) (Int32.ofNat a) (Int32.ofNat b)) ?_
  refine rn3 u h h5 hp ha hb (wh := 0) 5 0 g (by omega) hs (fun hz g2 f1 => ?_) (fun s row g2 hz f1 => ?_)
  · refine q_ret 2 (some (.int (Int8.toInt32 (Int8.ofInt (-4)))), g2, u) (fun _ _ => rfl) ?_
    exact ⟨g2, u, by rw [show f_nur n p a b r = none from hz]; rfl, f1⟩
  · have hl := f_nof_lt 5 0 s row hz
    refine q_ret 5 (some (.int (Int32.ofNat s)), g2, u) (fun _ _ => rfl) ?_
    refine ⟨g2, u, ?_, f1⟩
    rw [show f_nur n p a b r = some (s, row) from hz]
    rfl
theorem r_nurse10 {n W H : Nat} {g r : qM} (u : qW) (h : w_ok n W H r) (hs : w_sm n (s_start g) r) (h5 : n ≤ 5) {p a b : Nat} (hp : p < n) (ha : a < n) (hb : b < n) (hpa : p ≠ a) (hpb : p ≠ b) (hab : a ≠ b) : w_BS w_fr 208 [.ref 70, .int (Int32.ofNat p), .int (Int32.ofNat a), .int (Int32.ofNat b), .int (10 : Int32)] g u (.int (f_nuw 10 (f_nur n p a b r))) := by
  refine w_bs (mm := m_208) rfl (Nat.le_of_ble_eq_true rfl) rfl ?_
  refine q_step 2 2 [(0, .ref 70), (1, .int (Int32.ofNat p)), (2, .int (Int32.ofNat a)), (3, .int (Int32.ofNat b)), (4, .int (10 : Int32))] [.int (Int32.ofNat a), .int (Int32.ofNat p)] g u (fun big n0 => sg_nu_100 big n0 g u (Int32.ofNat p) (Int32.ofNat a) (Int32.ofNat b)) ?_
  refine q_ic_eq rfl (fun hc0 => absurd (show (Int32.ofNat p) = (Int32.ofNat a) from hc0) (fun z => hpa ((q_eq (by omega) (by omega)).mp z))) (fun (hc0 : ¬ ((Int32.ofNat p) = (Int32.ofNat a))) => ?_)
  refine q_step 2 7 [(0, .ref 70), (1, .int (Int32.ofNat p)), (2, .int (Int32.ofNat a)), (3, .int (Int32.ofNat b)), (4, .int (10 : Int32))] [.int (Int32.ofNat b), .int (Int32.ofNat p)] g u (fun big n0 => sg_nu_101 big n0 g u (Int32.ofNat p) (Int32.ofNat a) (Int32.ofNat b)) ?_
  refine q_ic_eq rfl (fun hc1 => absurd (show (Int32.ofNat p) = (Int32.ofNat b) from hc1) (fun z => hpb ((q_eq (by omega) (by omega)).mp z))) (fun (hc1 : ¬ ((Int32.ofNat p) = (Int32.ofNat b))) => ?_)
  refine q_step 2 12 [(0, .ref 70), (1, .int (Int32.ofNat p)), (2, .int (Int32.ofNat a)), (3, .int (Int32.ofNat b)), (4, .int (10 : Int32))] [.int (Int32.ofNat b), .int (Int32.ofNat a)] g u (fun big n0 => sg_nu_102 big n0 g u (Int32.ofNat p) (Int32.ofNat a) (Int32.ofNat b)) ?_
  refine q_ic_eq rfl (fun hc2 => absurd (show (Int32.ofNat a) = (Int32.ofNat b) from hc2) (fun z => hab ((q_eq (by omega) (by omega)).mp z))) (fun (hc2 : ¬ ((Int32.ofNat a) = (Int32.ofNat b))) => ?_)
  refine q_step 5 24 [(0, .ref 70), (1, .int (Int32.ofNat p)), (2, .int (Int32.ofNat a)), (3, .int (Int32.ofNat b)), (4, .int (10 : Int32)), (5, .int (1 : Int32))] [.int (Int32.ofNat p), .ref 70] g u (fun big n0 => sg_nu_103 big n0 g u (Int32.ofNat p) (Int32.ofNat a) (Int32.ofNat b)) ?_
  refine q_call (M2 := 169) (rest := []) (b_risOne1 g u (w_pl h hs) (by omega) hp) (fun _ _ => rfl) ?_
  refine q_step 3 32 [(0, .ref 70), (1, .int (Int32.ofNat p)), (2, .int (Int32.ofNat a)), (3, .int (Int32.ofNat b)), (4, .int (10 : Int32)), (5, .int (1 : Int32))] [.int (Int32.ofNat a), .ref 70] g u (fun big n0 => sg_nu_104 big n0 g u (Int32.ofNat p) (Int32.ofNat a) (Int32.ofNat b)) ?_
  refine q_call (M2 := 169) (rest := []) (b_risOne1 g u (w_pl h hs) (by omega) ha) (fun _ _ => rfl) ?_
  refine q_step 3 40 [(0, .ref 70), (1, .int (Int32.ofNat p)), (2, .int (Int32.ofNat a)), (3, .int (Int32.ofNat b)), (4, .int (10 : Int32)), (5, .int (1 : Int32))] [.int (Int32.ofNat b), .ref 70] g u (fun big n0 => sg_nu_105 big n0 g u (Int32.ofNat p) (Int32.ofNat a) (Int32.ofNat b)) ?_
  refine q_call (M2 := 169) (rest := []) (b_risOne1 g u (w_pl h hs) (by omega) hb) (fun _ _ => rfl) ?_
  refine q_step 9 65 [(0, .ref 70), (1, .int (Int32.ofNat p)), (2, .int (Int32.ofNat a)), (3, .int (Int32.ofNat b)), (4, .int (10 : Int32)), (5, .int (1 : Int32))] [.long (13 : Int64), .long (10 : Int64), .long (10 : Int64)] g u (fun big n0 => sg_nu_106 big n0 g u (Int32.ofNat p) (Int32.ofNat a) (Int32.ofNat b)) ?_
  refine q_call (M2 := 149) (rest := []) (show q_BS 149 [.long (10 : Int64), .long (10 : Int64), .long (13 : Int64)] g u (some (.int 1), g, u) from b_in _ _ _ _ _) (fun _ _ => rfl) ?_
  refine q_step 3 76 [(0, .ref 70), (1, .int (Int32.ofNat p)), (2, .int (Int32.ofNat a)), (3, .int (Int32.ofNat b)), (4, .int (10 : Int32)), (5, .int (1 : Int32)), (6, .int (0 : Int32))] [] g u (fun big n0 => sg_nu_107 big n0 g u (Int32.ofNat p) (Int32.ofNat a) (Int32.ofNat b)) ?_
  refine rn3 u h h5 hp ha hb (wh := 10) 5 0 g (by omega) hs (fun hz g2 f1 => ?_) (fun s row g2 hz f1 => ?_)
  · refine q_ret 2 (some (.int (Int8.toInt32 (Int8.ofInt (-4)))), g2, u) (fun _ _ => rfl) ?_
    exact ⟨g2, u, by rw [show f_nur n p a b r = none from hz]; rfl, f1⟩
  · have hl := f_nof_lt 5 0 s row hz
    refine q_step 6 167 [(0, .ref 70), (1, .int (Int32.ofNat p)), (2, .int (Int32.ofNat a)), (3, .int (Int32.ofNat b)), (4, .int (10 : Int32)), (5, .int (1 : Int32)), (6, .int (Int32.ofNat s)), (7, .int (Int32.ofNat row))] [.int (Int32.ofNat s), .int (0 : Int32)] g2 u (fun big n0 => sg_nu_108 big n0 g2 u (Int32.ofNat p) (Int32.ofNat a) (Int32.ofNat b) (Int32.ofNat s) (Int32.ofNat row)) ?_
    refine q_ic_ge rfl (fun (hc0 : (Int32.ofNat s) ≤ (0 : Int32)) => ?_) (fun (hc0 : ¬ ((Int32.ofNat s) ≤ (0 : Int32))) => ?_)
    · refine q_ret 2 (some (.int (Int8.toInt32 (Int8.ofInt (-4)))), g2, u) (fun _ _ => rfl) ?_
      refine ⟨g2, u, ?_, f1⟩
      rw [show f_nur n p a b r = some (s, row) from hz]
      have z := (q_le (i := s) (j := 0) (by omega) (by omega)).mp hc0
      rw [f_nuw_n (w := 10) (by omega) (by omega)]
    · refine q_ret 15 (some (.int (((Int32.ofNat row) >>> (((2 : Int32) * (((Int32.ofNat s) - (1 : Int32)) - (0 : Int32))) &&& 31)) &&& (3 : Int32))), g2, u) (fun _ _ => rfl) ?_
      refine ⟨g2, u, ?_, f1⟩
      rw [show f_nur n p a b r = some (s, row) from hz]
      have z : 0 < s := by
        have z1 : ¬ s ≤ 0 := fun q => hc0 ((q_le (i := s) (j := 0) (by omega) (by omega)).mpr q)
        omega
      rw [f_nuw_y (w := 10) (by omega) z]
      rfl
theorem r_nurse11 {n W H : Nat} {g r : qM} (u : qW) (h : w_ok n W H r) (hs : w_sm n (s_start g) r) (h5 : n ≤ 5) {p a b : Nat} (hp : p < n) (ha : a < n) (hb : b < n) (hpa : p ≠ a) (hpb : p ≠ b) (hab : a ≠ b) : w_BS w_fr 208 [.ref 70, .int (Int32.ofNat p), .int (Int32.ofNat a), .int (Int32.ofNat b), .int (11 : Int32)] g u (.int (f_nuw 11 (f_nur n p a b r))) := by
  refine w_bs (mm := m_208) rfl (Nat.le_of_ble_eq_true rfl) rfl ?_
  refine q_step 2 2 [(0, .ref 70), (1, .int (Int32.ofNat p)), (2, .int (Int32.ofNat a)), (3, .int (Int32.ofNat b)), (4, .int (11 : Int32))] [.int (Int32.ofNat a), .int (Int32.ofNat p)] g u (fun big n0 => sg_nu_109 big n0 g u (Int32.ofNat p) (Int32.ofNat a) (Int32.ofNat b)) ?_
  refine q_ic_eq rfl (fun hc0 => absurd (show (Int32.ofNat p) = (Int32.ofNat a) from hc0) (fun z => hpa ((q_eq (by omega) (by omega)).mp z))) (fun (hc0 : ¬ ((Int32.ofNat p) = (Int32.ofNat a))) => ?_)
  refine q_step 2 7 [(0, .ref 70), (1, .int (Int32.ofNat p)), (2, .int (Int32.ofNat a)), (3, .int (Int32.ofNat b)), (4, .int (11 : Int32))] [.int (Int32.ofNat b), .int (Int32.ofNat p)] g u (fun big n0 => sg_nu_110 big n0 g u (Int32.ofNat p) (Int32.ofNat a) (Int32.ofNat b)) ?_
  refine q_ic_eq rfl (fun hc1 => absurd (show (Int32.ofNat p) = (Int32.ofNat b) from hc1) (fun z => hpb ((q_eq (by omega) (by omega)).mp z))) (fun (hc1 : ¬ ((Int32.ofNat p) = (Int32.ofNat b))) => ?_)
  refine q_step 2 12 [(0, .ref 70), (1, .int (Int32.ofNat p)), (2, .int (Int32.ofNat a)), (3, .int (Int32.ofNat b)), (4, .int (11 : Int32))] [.int (Int32.ofNat b), .int (Int32.ofNat a)] g u (fun big n0 => sg_nu_111 big n0 g u (Int32.ofNat p) (Int32.ofNat a) (Int32.ofNat b)) ?_
  refine q_ic_eq rfl (fun hc2 => absurd (show (Int32.ofNat a) = (Int32.ofNat b) from hc2) (fun z => hab ((q_eq (by omega) (by omega)).mp z))) (fun (hc2 : ¬ ((Int32.ofNat a) = (Int32.ofNat b))) => ?_)
  refine q_step 5 24 [(0, .ref 70), (1, .int (Int32.ofNat p)), (2, .int (Int32.ofNat a)), (3, .int (Int32.ofNat b)), (4, .int (11 : Int32)), (5, .int (1 : Int32))] [.int (Int32.ofNat p), .ref 70] g u (fun big n0 => sg_nu_112 big n0 g u (Int32.ofNat p) (Int32.ofNat a) (Int32.ofNat b)) ?_
  refine q_call (M2 := 169) (rest := []) (b_risOne1 g u (w_pl h hs) (by omega) hp) (fun _ _ => rfl) ?_
  refine q_step 3 32 [(0, .ref 70), (1, .int (Int32.ofNat p)), (2, .int (Int32.ofNat a)), (3, .int (Int32.ofNat b)), (4, .int (11 : Int32)), (5, .int (1 : Int32))] [.int (Int32.ofNat a), .ref 70] g u (fun big n0 => sg_nu_113 big n0 g u (Int32.ofNat p) (Int32.ofNat a) (Int32.ofNat b)) ?_
  refine q_call (M2 := 169) (rest := []) (b_risOne1 g u (w_pl h hs) (by omega) ha) (fun _ _ => rfl) ?_
  refine q_step 3 40 [(0, .ref 70), (1, .int (Int32.ofNat p)), (2, .int (Int32.ofNat a)), (3, .int (Int32.ofNat b)), (4, .int (11 : Int32)), (5, .int (1 : Int32))] [.int (Int32.ofNat b), .ref 70] g u (fun big n0 => sg_nu_114 big n0 g u (Int32.ofNat p) (Int32.ofNat a) (Int32.ofNat b)) ?_
  refine q_call (M2 := 169) (rest := []) (b_risOne1 g u (w_pl h hs) (by omega) hb) (fun _ _ => rfl) ?_
  refine q_step 9 65 [(0, .ref 70), (1, .int (Int32.ofNat p)), (2, .int (Int32.ofNat a)), (3, .int (Int32.ofNat b)), (4, .int (11 : Int32)), (5, .int (1 : Int32))] [.long (13 : Int64), .long (10 : Int64), .long (11 : Int64)] g u (fun big n0 => sg_nu_115 big n0 g u (Int32.ofNat p) (Int32.ofNat a) (Int32.ofNat b)) ?_
  refine q_call (M2 := 149) (rest := []) (show q_BS 149 [.long (11 : Int64), .long (10 : Int64), .long (13 : Int64)] g u (some (.int 1), g, u) from b_in _ _ _ _ _) (fun _ _ => rfl) ?_
  refine q_step 3 76 [(0, .ref 70), (1, .int (Int32.ofNat p)), (2, .int (Int32.ofNat a)), (3, .int (Int32.ofNat b)), (4, .int (11 : Int32)), (5, .int (1 : Int32)), (6, .int (0 : Int32))] [] g u (fun big n0 => sg_nu_116 big n0 g u (Int32.ofNat p) (Int32.ofNat a) (Int32.ofNat b)) ?_
  refine rn3 u h h5 hp ha hb (wh := 11) 5 0 g (by omega) hs (fun hz g2 f1 => ?_) (fun s row g2 hz f1 => ?_)
  · refine q_ret 2 (some (.int (Int8.toInt32 (Int8.ofInt (-4)))), g2, u) (fun _ _ => rfl) ?_
    exact ⟨g2, u, by rw [show f_nur n p a b r = none from hz]; rfl, f1⟩
  · have hl := f_nof_lt 5 0 s row hz
    refine q_step 6 167 [(0, .ref 70), (1, .int (Int32.ofNat p)), (2, .int (Int32.ofNat a)), (3, .int (Int32.ofNat b)), (4, .int (11 : Int32)), (5, .int (1 : Int32)), (6, .int (Int32.ofNat s)), (7, .int (Int32.ofNat row))] [.int (Int32.ofNat s), .int (1 : Int32)] g2 u (fun big n0 => sg_nu_117 big n0 g2 u (Int32.ofNat p) (Int32.ofNat a) (Int32.ofNat b) (Int32.ofNat s) (Int32.ofNat row)) ?_
    refine q_ic_ge rfl (fun (hc0 : (Int32.ofNat s) ≤ (1 : Int32)) => ?_) (fun (hc0 : ¬ ((Int32.ofNat s) ≤ (1 : Int32))) => ?_)
    · refine q_ret 2 (some (.int (Int8.toInt32 (Int8.ofInt (-4)))), g2, u) (fun _ _ => rfl) ?_
      refine ⟨g2, u, ?_, f1⟩
      rw [show f_nur n p a b r = some (s, row) from hz]
      have z := (q_le (i := s) (j := 1) (by omega) (by omega)).mp hc0
      rw [f_nuw_n (w := 11) (by omega) (by omega)]
    · refine q_ret 15 (some (.int (((Int32.ofNat row) >>> (((2 : Int32) * (((Int32.ofNat s) - (1 : Int32)) - (1 : Int32))) &&& 31)) &&& (3 : Int32))), g2, u) (fun _ _ => rfl) ?_
      refine ⟨g2, u, ?_, f1⟩
      rw [show f_nur n p a b r = some (s, row) from hz]
      have z : 1 < s := by
        have z1 : ¬ s ≤ 1 := fun q => hc0 ((q_le (i := s) (j := 1) (by omega) (by omega)).mpr q)
        omega
      rw [f_nuw_y (w := 11) (by omega) z]
      rfl
theorem r_nurse12 {n W H : Nat} {g r : qM} (u : qW) (h : w_ok n W H r) (hs : w_sm n (s_start g) r) (h5 : n ≤ 5) {p a b : Nat} (hp : p < n) (ha : a < n) (hb : b < n) (hpa : p ≠ a) (hpb : p ≠ b) (hab : a ≠ b) : w_BS w_fr 208 [.ref 70, .int (Int32.ofNat p), .int (Int32.ofNat a), .int (Int32.ofNat b), .int (12 : Int32)] g u (.int (f_nuw 12 (f_nur n p a b r))) := by
  refine w_bs (mm := m_208) rfl (Nat.le_of_ble_eq_true rfl) rfl ?_
  refine q_step 2 2 [(0, .ref 70), (1, .int (Int32.ofNat p)), (2, .int (Int32.ofNat a)), (3, .int (Int32.ofNat b)), (4, .int (12 : Int32))] [.int (Int32.ofNat a), .int (Int32.ofNat p)] g u (fun big n0 => sg_nu_118 big n0 g u (Int32.ofNat p) (Int32.ofNat a) (Int32.ofNat b)) ?_
  refine q_ic_eq rfl (fun hc0 => absurd (show (Int32.ofNat p) = (Int32.ofNat a) from hc0) (fun z => hpa ((q_eq (by omega) (by omega)).mp z))) (fun (hc0 : ¬ ((Int32.ofNat p) = (Int32.ofNat a))) => ?_)
  refine q_step 2 7 [(0, .ref 70), (1, .int (Int32.ofNat p)), (2, .int (Int32.ofNat a)), (3, .int (Int32.ofNat b)), (4, .int (12 : Int32))] [.int (Int32.ofNat b), .int (Int32.ofNat p)] g u (fun big n0 => sg_nu_119 big n0 g u (Int32.ofNat p) (Int32.ofNat a) (Int32.ofNat b)) ?_
  refine q_ic_eq rfl (fun hc1 => absurd (show (Int32.ofNat p) = (Int32.ofNat b) from hc1) (fun z => hpb ((q_eq (by omega) (by omega)).mp z))) (fun (hc1 : ¬ ((Int32.ofNat p) = (Int32.ofNat b))) => ?_)
  refine q_step 2 12 [(0, .ref 70), (1, .int (Int32.ofNat p)), (2, .int (Int32.ofNat a)), (3, .int (Int32.ofNat b)), (4, .int (12 : Int32))] [.int (Int32.ofNat b), .int (Int32.ofNat a)] g u (fun big n0 => sg_nu_120 big n0 g u (Int32.ofNat p) (Int32.ofNat a) (Int32.ofNat b)) ?_
  refine q_ic_eq rfl (fun hc2 => absurd (show (Int32.ofNat a) = (Int32.ofNat b) from hc2) (fun z => hab ((q_eq (by omega) (by omega)).mp z))) (fun (hc2 : ¬ ((Int32.ofNat a) = (Int32.ofNat b))) => ?_)
  refine q_step 5 24 [(0, .ref 70), (1, .int (Int32.ofNat p)), (2, .int (Int32.ofNat a)), (3, .int (Int32.ofNat b)), (4, .int (12 : Int32)), (5, .int (1 : Int32))] [.int (Int32.ofNat p), .ref 70] g u (fun big n0 => sg_nu_121 big n0 g u (Int32.ofNat p) (Int32.ofNat a) (Int32.ofNat b)) ?_
  refine q_call (M2 := 169) (rest := []) (b_risOne1 g u (w_pl h hs) (by omega) hp) (fun _ _ => rfl) ?_
  refine q_step 3 32 [(0, .ref 70), (1, .int (Int32.ofNat p)), (2, .int (Int32.ofNat a)), (3, .int (Int32.ofNat b)), (4, .int (12 : Int32)), (5, .int (1 : Int32))] [.int (Int32.ofNat a), .ref 70] g u (fun big n0 => sg_nu_122 big n0 g u (Int32.ofNat p) (Int32.ofNat a) (Int32.ofNat b)) ?_
  refine q_call (M2 := 169) (rest := []) (b_risOne1 g u (w_pl h hs) (by omega) ha) (fun _ _ => rfl) ?_
  refine q_step 3 40 [(0, .ref 70), (1, .int (Int32.ofNat p)), (2, .int (Int32.ofNat a)), (3, .int (Int32.ofNat b)), (4, .int (12 : Int32)), (5, .int (1 : Int32))] [.int (Int32.ofNat b), .ref 70] g u (fun big n0 => sg_nu_123 big n0 g u (Int32.ofNat p) (Int32.ofNat a) (Int32.ofNat b)) ?_
  refine q_call (M2 := 169) (rest := []) (b_risOne1 g u (w_pl h hs) (by omega) hb) (fun _ _ => rfl) ?_
  refine q_step 9 65 [(0, .ref 70), (1, .int (Int32.ofNat p)), (2, .int (Int32.ofNat a)), (3, .int (Int32.ofNat b)), (4, .int (12 : Int32)), (5, .int (1 : Int32))] [.long (13 : Int64), .long (10 : Int64), .long (12 : Int64)] g u (fun big n0 => sg_nu_124 big n0 g u (Int32.ofNat p) (Int32.ofNat a) (Int32.ofNat b)) ?_
  refine q_call (M2 := 149) (rest := []) (show q_BS 149 [.long (12 : Int64), .long (10 : Int64), .long (13 : Int64)] g u (some (.int 1), g, u) from b_in _ _ _ _ _) (fun _ _ => rfl) ?_
  refine q_step 3 76 [(0, .ref 70), (1, .int (Int32.ofNat p)), (2, .int (Int32.ofNat a)), (3, .int (Int32.ofNat b)), (4, .int (12 : Int32)), (5, .int (1 : Int32)), (6, .int (0 : Int32))] [] g u (fun big n0 => sg_nu_125 big n0 g u (Int32.ofNat p) (Int32.ofNat a) (Int32.ofNat b)) ?_
  refine rn3 u h h5 hp ha hb (wh := 12) 5 0 g (by omega) hs (fun hz g2 f1 => ?_) (fun s row g2 hz f1 => ?_)
  · refine q_ret 2 (some (.int (Int8.toInt32 (Int8.ofInt (-4)))), g2, u) (fun _ _ => rfl) ?_
    exact ⟨g2, u, by rw [show f_nur n p a b r = none from hz]; rfl, f1⟩
  · have hl := f_nof_lt 5 0 s row hz
    refine q_step 6 167 [(0, .ref 70), (1, .int (Int32.ofNat p)), (2, .int (Int32.ofNat a)), (3, .int (Int32.ofNat b)), (4, .int (12 : Int32)), (5, .int (1 : Int32)), (6, .int (Int32.ofNat s)), (7, .int (Int32.ofNat row))] [.int (Int32.ofNat s), .int (2 : Int32)] g2 u (fun big n0 => sg_nu_126 big n0 g2 u (Int32.ofNat p) (Int32.ofNat a) (Int32.ofNat b) (Int32.ofNat s) (Int32.ofNat row)) ?_
    refine q_ic_ge rfl (fun (hc0 : (Int32.ofNat s) ≤ (2 : Int32)) => ?_) (fun (hc0 : ¬ ((Int32.ofNat s) ≤ (2 : Int32))) => ?_)
    · refine q_ret 2 (some (.int (Int8.toInt32 (Int8.ofInt (-4)))), g2, u) (fun _ _ => rfl) ?_
      refine ⟨g2, u, ?_, f1⟩
      rw [show f_nur n p a b r = some (s, row) from hz]
      have z := (q_le (i := s) (j := 2) (by omega) (by omega)).mp hc0
      rw [f_nuw_n (w := 12) (by omega) (by omega)]
    · refine q_ret 15 (some (.int (((Int32.ofNat row) >>> (((2 : Int32) * (((Int32.ofNat s) - (1 : Int32)) - (2 : Int32))) &&& 31)) &&& (3 : Int32))), g2, u) (fun _ _ => rfl) ?_
      refine ⟨g2, u, ?_, f1⟩
      rw [show f_nur n p a b r = some (s, row) from hz]
      have z : 2 < s := by
        have z1 : ¬ s ≤ 2 := fun q => hc0 ((q_le (i := s) (j := 2) (by omega) (by omega)).mpr q)
        omega
      rw [f_nuw_y (w := 12) (by omega) z]
      rfl
theorem r_nurse13 {n W H : Nat} {g r : qM} (u : qW) (h : w_ok n W H r) (hs : w_sm n (s_start g) r) (h5 : n ≤ 5) {p a b : Nat} (hp : p < n) (ha : a < n) (hb : b < n) (hpa : p ≠ a) (hpb : p ≠ b) (hab : a ≠ b) : w_BS w_fr 208 [.ref 70, .int (Int32.ofNat p), .int (Int32.ofNat a), .int (Int32.ofNat b), .int (13 : Int32)] g u (.int (f_nuw 13 (f_nur n p a b r))) := by
  refine w_bs (mm := m_208) rfl (Nat.le_of_ble_eq_true rfl) rfl ?_
  refine q_step 2 2 [(0, .ref 70), (1, .int (Int32.ofNat p)), (2, .int (Int32.ofNat a)), (3, .int (Int32.ofNat b)), (4, .int (13 : Int32))] [.int (Int32.ofNat a), .int (Int32.ofNat p)] g u (fun big n0 => sg_nu_127 big n0 g u (Int32.ofNat p) (Int32.ofNat a) (Int32.ofNat b)) ?_
  refine q_ic_eq rfl (fun hc0 => absurd (show (Int32.ofNat p) = (Int32.ofNat a) from hc0) (fun z => hpa ((q_eq (by omega) (by omega)).mp z))) (fun (hc0 : ¬ ((Int32.ofNat p) = (Int32.ofNat a))) => ?_)
  refine q_step 2 7 [(0, .ref 70), (1, .int (Int32.ofNat p)), (2, .int (Int32.ofNat a)), (3, .int (Int32.ofNat b)), (4, .int (13 : Int32))] [.int (Int32.ofNat b), .int (Int32.ofNat p)] g u (fun big n0 => sg_nu_128 big n0 g u (Int32.ofNat p) (Int32.ofNat a) (Int32.ofNat b)) ?_
  refine q_ic_eq rfl (fun hc1 => absurd (show (Int32.ofNat p) = (Int32.ofNat b) from hc1) (fun z => hpb ((q_eq (by omega) (by omega)).mp z))) (fun (hc1 : ¬ ((Int32.ofNat p) = (Int32.ofNat b))) => ?_)
  refine q_step 2 12 [(0, .ref 70), (1, .int (Int32.ofNat p)), (2, .int (Int32.ofNat a)), (3, .int (Int32.ofNat b)), (4, .int (13 : Int32))] [.int (Int32.ofNat b), .int (Int32.ofNat a)] g u (fun big n0 => sg_nu_129 big n0 g u (Int32.ofNat p) (Int32.ofNat a) (Int32.ofNat b)) ?_
  refine q_ic_eq rfl (fun hc2 => absurd (show (Int32.ofNat a) = (Int32.ofNat b) from hc2) (fun z => hab ((q_eq (by omega) (by omega)).mp z))) (fun (hc2 : ¬ ((Int32.ofNat a) = (Int32.ofNat b))) => ?_)
  refine q_step 5 24 [(0, .ref 70), (1, .int (Int32.ofNat p)), (2, .int (Int32.ofNat a)), (3, .int (Int32.ofNat b)), (4, .int (13 : Int32)), (5, .int (1 : Int32))] [.int (Int32.ofNat p), .ref 70] g u (fun big n0 => sg_nu_130 big n0 g u (Int32.ofNat p) (Int32.ofNat a) (Int32.ofNat b)) ?_
  refine q_call (M2 := 169) (rest := []) (b_risOne1 g u (w_pl h hs) (by omega) hp) (fun _ _ => rfl) ?_
  refine q_step 3 32 [(0, .ref 70), (1, .int (Int32.ofNat p)), (2, .int (Int32.ofNat a)), (3, .int (Int32.ofNat b)), (4, .int (13 : Int32)), (5, .int (1 : Int32))] [.int (Int32.ofNat a), .ref 70] g u (fun big n0 => sg_nu_131 big n0 g u (Int32.ofNat p) (Int32.ofNat a) (Int32.ofNat b)) ?_
  refine q_call (M2 := 169) (rest := []) (b_risOne1 g u (w_pl h hs) (by omega) ha) (fun _ _ => rfl) ?_
  refine q_step 3 40 [(0, .ref 70), (1, .int (Int32.ofNat p)), (2, .int (Int32.ofNat a)), (3, .int (Int32.ofNat b)), (4, .int (13 : Int32)), (5, .int (1 : Int32))] [.int (Int32.ofNat b), .ref 70] g u (fun big n0 => sg_nu_132 big n0 g u (Int32.ofNat p) (Int32.ofNat a) (Int32.ofNat b)) ?_
  refine q_call (M2 := 169) (rest := []) (b_risOne1 g u (w_pl h hs) (by omega) hb) (fun _ _ => rfl) ?_
  refine q_step 9 65 [(0, .ref 70), (1, .int (Int32.ofNat p)), (2, .int (Int32.ofNat a)), (3, .int (Int32.ofNat b)), (4, .int (13 : Int32)), (5, .int (1 : Int32))] [.long (13 : Int64), .long (10 : Int64), .long (13 : Int64)] g u (fun big n0 => sg_nu_133 big n0 g u (Int32.ofNat p) (Int32.ofNat a) (Int32.ofNat b)) ?_
  refine q_call (M2 := 149) (rest := []) (show q_BS 149 [.long (13 : Int64), .long (10 : Int64), .long (13 : Int64)] g u (some (.int 1), g, u) from b_in _ _ _ _ _) (fun _ _ => rfl) ?_
  refine q_step 3 76 [(0, .ref 70), (1, .int (Int32.ofNat p)), (2, .int (Int32.ofNat a)), (3, .int (Int32.ofNat b)), (4, .int (13 : Int32)), (5, .int (1 : Int32)), (6, .int (0 : Int32))] [] g u (fun big n0 => sg_nu_134 big n0 g u (Int32.ofNat p) (Int32.ofNat a) (Int32.ofNat b)) ?_
  refine rn3 u h h5 hp ha hb (wh := 13) 5 0 g (by omega) hs (fun hz g2 f1 => ?_) (fun s row g2 hz f1 => ?_)
  · refine q_ret 2 (some (.int (Int8.toInt32 (Int8.ofInt (-4)))), g2, u) (fun _ _ => rfl) ?_
    exact ⟨g2, u, by rw [show f_nur n p a b r = none from hz]; rfl, f1⟩
  · have hl := f_nof_lt 5 0 s row hz
    refine q_step 6 167 [(0, .ref 70), (1, .int (Int32.ofNat p)), (2, .int (Int32.ofNat a)), (3, .int (Int32.ofNat b)), (4, .int (13 : Int32)), (5, .int (1 : Int32)), (6, .int (Int32.ofNat s)), (7, .int (Int32.ofNat row))] [.int (Int32.ofNat s), .int (3 : Int32)] g2 u (fun big n0 => sg_nu_135 big n0 g2 u (Int32.ofNat p) (Int32.ofNat a) (Int32.ofNat b) (Int32.ofNat s) (Int32.ofNat row)) ?_
    refine q_ic_ge rfl (fun (hc0 : (Int32.ofNat s) ≤ (3 : Int32)) => ?_) (fun (hc0 : ¬ ((Int32.ofNat s) ≤ (3 : Int32))) => ?_)
    · refine q_ret 2 (some (.int (Int8.toInt32 (Int8.ofInt (-4)))), g2, u) (fun _ _ => rfl) ?_
      refine ⟨g2, u, ?_, f1⟩
      rw [show f_nur n p a b r = some (s, row) from hz]
      have z := (q_le (i := s) (j := 3) (by omega) (by omega)).mp hc0
      rw [f_nuw_n (w := 13) (by omega) (by omega)]
    · refine q_ret 15 (some (.int (((Int32.ofNat row) >>> (((2 : Int32) * (((Int32.ofNat s) - (1 : Int32)) - (3 : Int32))) &&& 31)) &&& (3 : Int32))), g2, u) (fun _ _ => rfl) ?_
      refine ⟨g2, u, ?_, f1⟩
      rw [show f_nur n p a b r = some (s, row) from hz]
      have z : 3 < s := by
        have z1 : ¬ s ≤ 3 := fun q => hc0 ((q_le (i := s) (j := 3) (by omega) (by omega)).mpr q)
        omega
      rw [f_nuw_y (w := 13) (by omega) z]
      rfl
