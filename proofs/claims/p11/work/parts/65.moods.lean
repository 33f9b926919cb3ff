section
/-! MOODS of all that FIT. -/
/-- what was seen, as r has it: z of them -/
def w_se (n z : Nat) (r : qM) : Prop := r 71 27 = Int32.ofNat z ∧ z ≤ 8 ∧ ∀ k, k < z → ∃ q, q < n ∧ r 71 (28 + 2 * k) = Int32.ofNat q
/-- the class has it so, too -/
def w_sc (T z : Nat) (g r : qM) : Prop := g T 6 = Int32.ofNat z ∧ ∀ k, k < z → g (T + 6) k = r 71 (28 + 2 * k) ∧ g (T + 7) k = r 71 (29 + 2 * k)
/-- all that was seen is so, by the STEP r' -/
def n_fit (r' r : qM) : Nat → Nat → Nat
  | 0, _ => 1
  | k + 1, i => if r' 80 (r 71 (28 + 2 * i)).toInt.toNat = r 71 (29 + 2 * i) then n_fit r' r k (i + 1) else 0
def p_fit (n z : Nat) (r : qM) (row : Nat) : Int32 := if n_fit (s_rst n (gh_mo n row r)) r z 0 = 0 then 0 else 1
theorem p_fit_01 (n z : Nat) (r : qM) (row : Nat) : p_fit n z r row = 0 ∨ p_fit n z r row = 1 := s_10 _
def f_is (r' r : qM) : Nat → Nat → Int32 → Int32
  | 0, _, a => a
  | k + 1, i, a => f_is r' r k (i + 1) (if a = 0 then 0 else if r' 80 (r 71 (28 + 2 * i)).toInt.toNat = r 71 (29 + 2 * i) then 1 else 0)
theorem f_is_0 {r' r : qM} : ∀ k i, f_is r' r k i 0 = 0
  | 0, _ => rfl
  | k + 1, i => by
    rw [f_is, if_pos rfl, f_is_0 k (i + 1)]
theorem f_is_1 {r' r : qM} : ∀ k i, f_is r' r k i 1 = if n_fit r' r k i = 0 then 0 else 1
  | 0, _ => rfl
  | k + 1, i => by
    rw [f_is, n_fit, if_neg (by decide)]
    by_cases e : r' 80 (r 71 (28 + 2 * i)).toInt.toNat = r 71 (29 + 2 * i)
    · rw [if_pos e, if_pos e, f_is_1 k (i + 1)]
    · rw [if_neg e, if_neg e, f_is_0, if_pos rfl]
/-- MOODS one can have -/
def f_bm (n p z : Nat) (r : qM) : Nat → Nat → Int32 → Int32
  | 0, _, a => a
  | k + 1, row, a => f_bm n p z r k (row + 1) (if p_fit n z r row = 0 then a else a ||| ((1 : Int32) <<< (f_md n row p &&& 31)))
/-- what moods() answers -/
def f_mo0 (n z : Nat) (r : qM) : Int32 := s_ct (p_fit n z r) (4 ^ n) 0 0
def f_mop (n p z : Nat) (r : qM) : Int32 := f_bm n p z r (4 ^ n) 0 0
def s_fim (n row : Nat) (g : qM) : qM := s_step 35 n (s_rgm n row g)
theorem s_fim_fc {n row : Nat} {g : qM} : w_fc g (s_fim n row g) := w_fc.trans (w_fc.trans w_cpl_fc (fun b hb => s_row_o (by omega))) s_step_35
theorem s_rgm_tr {n row : Nat} {g r : qM} (h : w_tr n g r) : w_tr n (s_rgm n row g) r := w_tr_cg (w_tr_cpl h) (fun j _ => by unfold s_rgm; rw [s_row_o (by omega)]) (by unfold s_rgm; exact s_row_o (by omega)) (by unfold s_rgm; exact s_row_o (by omega))
theorem s_fim_tr {n row : Nat} {g r : qM} (h : w_tr n g r) : w_tr n (s_fim n row g) r := w_tr_step (s_rgm_tr h)
theorem w_sc_fc {z : Nat} {g g' r : qM} (hf : w_fc g g') (h : w_sc 20 z g r) : w_sc 20 z g' r := by
  refine ⟨?_, fun k hk => ⟨?_, ?_⟩⟩
  · rw [hf 20 (by omega)]; exact h.1
  · show g' 26 k = _
    rw [hf 26 (by omega)]; exact (h.2 k hk).1
  · show g' 27 k = _
    rw [hf 27 (by omega)]; exact (h.2 k hk).2
def p_deed (g : qM) (q : Nat) : Int32 := if s_bit (g 28 5) (Int32.ofNat q) = 0 then 4 else g 33 q
theorem w_deed {n W H q : Nat} {g r : qM} (h : w_ok n W H r) (hc : w_cs 35 n g r) (hq : q < n) : p_deed (s_step 35 n g) q = s_rst n r 80 q := by
  have w := w_step35 h hc
  have a := w.2.2.2.1 q hq
  unfold p_deed
  by_cases z : s_rst n r 80 q = 4
  · rw [if_pos (a.1.mpr z), z]
  · rw [if_neg (fun y => z (a.1.mp y)), w.2.2.1 q hq]
    rcases a.2 with b | b
    · exact absurd b z
    · exact b.symm
theorem sg_mo_1 (big : Nat → List Value → qM → qW → qR) (n0 : Nat) (G : qM) (U : qW) (v0 : Int32) : qm_run pm_m big m_123 (n0 + 2) 0 [(0, .ref 28), (1, .int v0)] [] G U = qm_run pm_m big m_123 n0 2 [(0, .ref 28), (1, .int v0)] [.int v0, .ref 28] G U := rfl
theorem sg_mo_2 (big : Nat → List Value → qM → qW → qR) (n0 : Nat) (G : qM) (U : qW) (v0 : Int32) : qm_run pm_m big m_123 (n0 + 4) 5 [(0, .ref 28), (1, .int v0)] [.int (1 : Int32)] G U = qm_run pm_m big m_123 n0 13 [(0, .ref 28), (1, .int v0)] [.int v0, .ref 33] G U := rfl
theorem sg_mo_3 (big : Nat → List Value → qM → qW → qR) (n0 : Nat) (G : qM) (U : qW) (v0 : Int32) (v1 : Int32) : qm_run pm_m big m_122 (n0 + 3) 29 [(0, .ref 34), (1, .ref 20), (2, .int v0), (3, .int v1)] [] G U = qm_run pm_m big m_122 n0 34 [(0, .ref 34), (1, .ref 20), (2, .int v0), (3, .int v1)] [.int (G 20 6), .int v1] G U := rfl
theorem sg_mo_4 (big : Nat → List Value → qM → qW → qR) (n0 : Nat) (G : qM) (U : qW) (v0 : Int32) (v1 : Int32) : qm_run pm_m big m_122 (n0 + 5) 37 [(0, .ref 34), (1, .ref 20), (2, .int v0), (3, .int v1)] [] G U = qm_run pm_m big m_122 n0 46 [(0, .ref 34), (1, .ref 20), (2, .int v0), (3, .int v1)] [.int v1, .ref 26, .ref 28] G U := rfl
theorem sg_mo_5 (big : Nat → List Value → qM → qW → qR) (n0 : Nat) (G : qM) (U : qW) (v0 : Int32) (v1 : Int32) (v2 : Int32) : qm_run pm_m big m_122 (n0 + 3) 50 [(0, .ref 34), (1, .ref 20), (2, .int v0), (3, .int v1)] [.int v2] G U = qm_run pm_m big m_122 n0 55 [(0, .ref 34), (1, .ref 20), (2, .int v0), (3, .int v1)] [.int v1, .ref 27, .int v2] G U := rfl
theorem sg_mo_6 (big : Nat → List Value → qM → qW → qR) (n0 : Nat) (G : qM) (U : qW) (v0 : Int32) (v1 : Int32) : qm_run pm_m big m_122 (n0 + 2) 61 [(0, .ref 34), (1, .ref 20), (2, .int v0), (3, .int v1)] [] G U = qm_run pm_m big m_122 n0 29 [(0, .ref 34), (1, .ref 20), (2, .int v0), (3, .int (v1 + (1 : Int32)))] [] G U := rfl
theorem sg_mo_7 (big : Nat → List Value → qM → qW → qR) (n0 : Nat) (G : qM) (U : qW) (v0 : Int32) : qm_run pm_m big m_122 (n0 + 3) 0 [(0, .ref 34), (1, .ref 20), (2, .int v0)] [] G U = qm_run pm_m big m_122 n0 5 [(0, .ref 34), (1, .ref 20), (2, .int v0)] [.ref 20, .ref 35] G U := rfl
theorem sg_mo_8 (big : Nat → List Value → qM → qW → qR) (n0 : Nat) (G : qM) (U : qW) (v0 : Int32) : qm_run pm_m big m_122 (n0 + 3) 8 [(0, .ref 34), (1, .ref 20), (2, .int v0)] [] G U = qm_run pm_m big m_122 n0 13 [(0, .ref 34), (1, .ref 20), (2, .int v0)] [.int v0, .ref 35] G U := rfl
theorem sg_mo_9 (big : Nat → List Value → qM → qW → qR) (n0 : Nat) (G : qM) (U : qW) (v0 : Int32) : qm_run pm_m big m_122 (n0 + 4) 16 [(0, .ref 34), (1, .ref 20), (2, .int v0)] [] G U = qm_run pm_m big m_122 n0 24 [(0, .ref 34), (1, .ref 20), (2, .int v0)] [.ref 35, .ref 28] G U := rfl
theorem sg_mo_10 (big : Nat → List Value → qM → qW → qR) (n0 : Nat) (G : qM) (U : qW) (v0 : Int32) : qm_run pm_m big m_122 (n0 + 2) 27 [(0, .ref 34), (1, .ref 20), (2, .int v0)] [] G U = qm_run pm_m big m_122 n0 29 [(0, .ref 34), (1, .ref 20), (2, .int v0), (3, .int (0 : Int32))] [] G U := rfl
theorem sg_mo_11 (big : Nat → List Value → qM → qW → qR) (n0 : Nat) (G : qM) (U : qW) (v0 : Int32) (v1 : Int32) : qm_run pm_m big m_121 (n0 + 3) 12 [(0, .ref 34), (1, .ref 20), (2, .int v0), (3, .int v1)] [] G U = qm_run pm_m big m_121 n0 17 [(0, .ref 34), (1, .ref 20), (2, .int v0), (3, .int v1)] [.int (G 20 3), .int v1] G U := rfl
theorem sg_mo_12 (big : Nat → List Value → qM → qW → qR) (n0 : Nat) (G : qM) (U : qW) (v0 : Int32) (v1 : Int32) : qm_run pm_m big m_121 (n0 + 4) 23 [(0, .ref 34), (1, .ref 20), (2, .int v0), (3, .int v1)] [] G U = qm_run pm_m big m_121 n0 27 [(0, .ref 34), (1, .ref 20), (2, .int v0), (3, .int v1)] [.int v1, .ref 20, .ref 34, .int v0] G U := rfl
theorem sg_mo_13 (big : Nat → List Value → qM → qW → qR) (n0 : Nat) (G : qM) (U : qW) (v0 : Int32) (v1 : Int32) (v2 : Int32) : qm_run pm_m big m_121 (n0 + 6) 30 [(0, .ref 34), (1, .ref 20), (2, .int v0), (3, .int v1)] [.int (0 : Int32), .int v2] G U = qm_run pm_m big m_121 n0 12 [(0, .ref 34), (1, .ref 20), (2, .int (v2 + (0 : Int32))), (3, .int (v1 + (1 : Int32)))] [] G U := rfl
theorem sg_mo_14 (big : Nat → List Value → qM → qW → qR) (n0 : Nat) (G : qM) (U : qW) (v0 : Int32) (v1 : Int32) (v2 : Int32) : qm_run pm_m big m_121 (n0 + 7) 30 [(0, .ref 34), (1, .ref 20), (2, .int v0), (3, .int v1)] [.int (1 : Int32), .int v2] G U = qm_run pm_m big m_121 n0 12 [(0, .ref 34), (1, .ref 20), (2, .int (v2 + (1 : Int32))), (3, .int (v1 + (1 : Int32)))] [] G U := rfl
theorem sg_mo_15 (big : Nat → List Value → qM → qW → qR) (n0 : Nat) (G : qM) (U : qW) : qm_run pm_m big m_121 (n0 + 3) 0 [(0, .ref 34), (1, .ref 20)] [] G U = qm_run pm_m big m_121 n0 5 [(0, .ref 34), (1, .ref 20)] [.ref 20, .ref 35] G U := rfl
theorem sg_mo_16 (big : Nat → List Value → qM → qW → qR) (n0 : Nat) (G : qM) (U : qW) : qm_run pm_m big m_121 (n0 + 4) 8 [(0, .ref 34), (1, .ref 20)] [] G U = qm_run pm_m big m_121 n0 12 [(0, .ref 34), (1, .ref 20), (2, .int (0 : Int32)), (3, .int (0 : Int32))] [] G U := rfl
theorem sg_mo_17 (big : Nat → List Value → qM → qW → qR) (n0 : Nat) (G : qM) (U : qW) (v0 : Int32) (v1 : Int32) (v2 : Int32) : qm_run pm_m big m_124 (n0 + 3) 13 [(0, .ref 34), (1, .ref 20), (2, .int v0), (3, .int v1), (4, .int v2)] [] G U = qm_run pm_m big m_124 n0 19 [(0, .ref 34), (1, .ref 20), (2, .int v0), (3, .int v1), (4, .int v2)] [.int (G 20 3), .int v2] G U := rfl
theorem sg_mo_18 (big : Nat → List Value → qM → qW → qR) (n0 : Nat) (G : qM) (U : qW) (v0 : Int32) (v1 : Int32) (v2 : Int32) : qm_run pm_m big m_124 (n0 + 4) 25 [(0, .ref 34), (1, .ref 20), (2, .int v0), (3, .int v1), (4, .int v2)] [] G U = qm_run pm_m big m_124 n0 30 [(0, .ref 34), (1, .ref 20), (2, .int v0), (3, .int v1), (4, .int v2)] [.int v2, .ref 20, .ref 34, .int v1] G U := rfl
theorem sg_mo_19 (big : Nat → List Value → qM → qW → qR) (n0 : Nat) (G : qM) (U : qW) (v0 : Int32) (v1 : Int32) (v2 : Int32) (v3 : Int32) : qm_run pm_m big m_124 (n0 + 6) 33 [(0, .ref 34), (1, .ref 20), (2, .int v0), (3, .int v1), (4, .int v2)] [.int (0 : Int32), .int v3] G U = qm_run pm_m big m_124 n0 13 [(0, .ref 34), (1, .ref 20), (2, .int v0), (3, .int (v3 ||| (0 : Int32))), (4, .int (v2 + (1 : Int32)))] [] G U := rfl
theorem sg_mo_20 (big : Nat → List Value → qM → qW → qR) (n0 : Nat) (G : qM) (U : qW) (v0 : Int32) (v1 : Int32) (v2 : Int32) (v3 : Int32) : qm_run pm_m big m_124 (n0 + 5) 33 [(0, .ref 34), (1, .ref 20), (2, .int v0), (3, .int v1), (4, .int v2)] [.int (1 : Int32), .int v3] G U = qm_run pm_m big m_124 n0 41 [(0, .ref 34), (1, .ref 20), (2, .int v0), (3, .int v1), (4, .int v2)] [.int v0, .int v2, .ref 20, .int (1 : Int32), .int v3] G U := rfl
theorem sg_mo_21 (big : Nat → List Value → qM → qW → qR) (n0 : Nat) (G : qM) (U : qW) (v0 : Int32) (v1 : Int32) (v2 : Int32) (v3 : Int32) (v4 : Int32) : qm_run pm_m big m_124 (n0 + 6) 44 [(0, .ref 34), (1, .ref 20), (2, .int v0), (3, .int v1), (4, .int v2)] [.int v4, .int (1 : Int32), .int v3] G U = qm_run pm_m big m_124 n0 13 [(0, .ref 34), (1, .ref 20), (2, .int v0), (3, .int (v3 ||| ((1 : Int32) <<< (v4 &&& 31)))), (4, .int (v2 + (1 : Int32)))] [] G U := rfl
theorem sg_mo_22 (big : Nat → List Value → qM → qW → qR) (n0 : Nat) (G : qM) (U : qW) (v0 : Int32) : qm_run pm_m big m_124 (n0 + 3) 0 [(0, .ref 34), (1, .ref 20), (2, .int v0)] [] G U = qm_run pm_m big m_124 n0 5 [(0, .ref 34), (1, .ref 20), (2, .int v0)] [.ref 20, .ref 35] G U := rfl
theorem sg_mo_23 (big : Nat → List Value → qM → qW → qR) (n0 : Nat) (G : qM) (U : qW) (v0 : Int32) : qm_run pm_m big m_124 (n0 + 4) 8 [(0, .ref 34), (1, .ref 20), (2, .int v0)] [] G U = qm_run pm_m big m_124 n0 13 [(0, .ref 34), (1, .ref 20), (2, .int v0), (3, .int (0 : Int32)), (4, .int (0 : Int32))] [] G U := rfl
theorem sg_mo_24 (big : Nat → List Value → qM → qW → qR) (n0 : Nat) (G : qM) (U : qW) : qm_run pm_m big m_120 (n0 + 2) 0 [(0, .ref 8), (1, .int (0 : Int32))] [] G U = qm_run pm_m big m_120 n0 2 [(0, .ref 8), (1, .int (0 : Int32))] [.int (0 : Int32), .ref 8] G U := rfl
theorem sg_mo_25 (big : Nat → List Value → qM → qW → qR) (n0 : Nat) (G : qM) (U : qW) : qm_run pm_m big m_120 (n0 + 7) 5 [(0, .ref 8), (1, .int (0 : Int32))] [.int (1 : Int32)] G U = qm_run pm_m big m_120 n0 22 [(0, .ref 8), (1, .int (0 : Int32))] [.ref 20, .ref 34] G U := rfl
theorem sg_mo_26 (big : Nat → List Value → qM → qW → qR) (n0 : Nat) (G : qM) (U : qW) (v0 : Int32) : qm_run pm_m big m_120 (n0 + 2) 0 [(0, .ref 8), (1, .int v0)] [] G U = qm_run pm_m big m_120 n0 2 [(0, .ref 8), (1, .int v0)] [.int v0, .ref 8] G U := rfl
theorem sg_mo_27 (big : Nat → List Value → qM → qW → qR) (n0 : Nat) (G : qM) (U : qW) (v0 : Int32) : qm_run pm_m big m_120 (n0 + 2) 5 [(0, .ref 8), (1, .int v0)] [.int (1 : Int32)] G U = qm_run pm_m big m_120 n0 11 [(0, .ref 8), (1, .int v0)] [.int v0] G U := rfl
theorem sg_mo_28 (big : Nat → List Value → qM → qW → qR) (n0 : Nat) (G : qM) (U : qW) (v0 : Int32) : qm_run pm_m big m_120 (n0 + 7) 28 [(0, .ref 8), (1, .int v0)] [] G U = qm_run pm_m big m_120 n0 40 [(0, .ref 8), (1, .int v0)] [.int (v0 - (10 : Int32)), .ref 20, .ref 34] G U := rfl
theorem sg_mo_29 (big : Nat → List Value → qM → qW → qR) (n0 : Nat) (G : qM) (U : qW) (v0 : Int32) (v1 : Int32) (v2 : Int32) (v3 : Int32) (v4 : Int32) : qm_run pm_m big m_214 (n0 + 3) 43 [(0, .ref 70), (1, .int v0), (2, .int v1), (3, .int v2), (4, .int v3), (5, .int v4)] [] G U = qm_run pm_m big m_214 n0 49 [(0, .ref 70), (1, .int v0), (2, .int v1), (3, .int v2), (4, .int v3), (5, .int v4)] [.int (G 70 4), .int v4] G U := rfl
theorem sg_mo_30 (big : Nat → List Value → qM → qW → qR) (n0 : Nat) (G : qM) (U : qW) (v0 : Int32) (v1 : Int32) (v2 : Int32) (v3 : Int32) (v4 : Int32) : qm_run pm_m big m_214 (n0 + 6) 52 [(0, .ref 70), (1, .int v0), (2, .int v1), (3, .int v2), (4, .int v3), (5, .int v4)] [] G U = qm_run pm_m big m_214 n0 63 [(0, .ref 70), (1, .int v0), (2, .int v1), (3, .int v2), (4, .int v3), (5, .int v4)] [.int v4, .int v3, .ref 70, .int v4, .ref 76] G U := rfl
theorem sg_mo_31 (big : Nat → List Value → qM → qW → qR) (n0 : Nat) (G : qM) (U : qW) (v0 : Int32) (v1 : Int32) (v2 : Int32) (v3 : Int32) (v4 : Int32) : qm_run pm_m big m_214 (n0 + 2) 67 [(0, .ref 70), (1, .int v0), (2, .int v1), (3, .int v2), (4, .int v3), (5, .int v4)] [] G U = qm_run pm_m big m_214 n0 43 [(0, .ref 70), (1, .int v0), (2, .int v1), (3, .int v2), (4, .int v3), (5, .int (v4 + (1 : Int32)))] [] G U := rfl
theorem sg_mo_32 (big : Nat → List Value → qM → qW → qR) (n0 : Nat) (G : qM) (U : qW) (v0 : Int32) (v1 : Int32) (v2 : Int32) (v3 : Int32) (v4 : Int32) (v5 : Int32) : qm_run pm_m big m_214 (n0 + 5) 84 [(0, .ref 70), (1, .int v0), (2, .int v1), (3, .int v2), (4, .int v3), (5, .int v4), (6, .int v5)] [] G U = qm_run pm_m big m_214 n0 93 [(0, .ref 70), (1, .int v0), (2, .int v1), (3, .int v2), (4, .int v3), (5, .int v4), (6, .int v5)] [.int (G 71 27), .int v5] G U := rfl
theorem sg_mo_33 (big : Nat → List Value → qM → qW → qR) (n0 : Nat) (G : qM) (U : qW) (v0 : Int32) (v1 : Int32) (v2 : Int32) (v3 : Int32) (v4 : Int32) (v5 : Int32) : qm_run pm_m big m_214 (n0 + 1) 96 [(0, .ref 70), (1, .int v0), (2, .int v1), (3, .int v2), (4, .int v3), (5, .int v4), (6, .int v5)] [] G U = qm_run pm_m big m_214 n0 98 [(0, .ref 70), (1, .int v0), (2, .int v1), (3, .int v2), (4, .int v3), (5, .int v4), (6, .int v5)] [.int v4] G U := rfl
theorem sg_mo_34 (big : Nat → List Value → qM → qW → qR) (n0 : Nat) (G : qM) (U : qW) (v0 : Int32) (v1 : Int32) (v2 : Int32) (v3 : Int32) (v4 : Int32) (v5 : Int32) : qm_run pm_m big m_214 (n0 + 4) 139 [(0, .ref 70), (1, .int v0), (2, .int v1), (3, .int v2), (4, .int v3), (5, .int v4), (6, .int v5)] [] G U = qm_run pm_m big m_214 n0 84 [(0, .ref 70), (1, .int v0), (2, .int v1), (3, .int v2), (4, .int v3), (5, .int (0 : Int32)), (6, .int (v5 + (1 : Int32)))] [] G U := rfl
theorem sg_mo_35 (big : Nat → List Value → qM → qW → qR) (n0 : Nat) (G : qM) (U : qW) (v0 : Int32) (v1 : Int32) (v2 : Int32) (v3 : Int32) (v4 : Int32) (v5 : Int32) : qm_run pm_m big m_214 (n0 + 9) 101 [(0, .ref 70), (1, .int v0), (2, .int v1), (3, .int v2), (4, .int v3), (5, .int v4), (6, .int v5)] [] G U = qm_run pm_m big m_214 n0 116 [(0, .ref 70), (1, .int v0), (2, .int v1), (3, .int v2), (4, .int v3), (5, .int v4), (6, .int v5)] [.int ((28 : Int32) + ((2 : Int32) * v5)), .ref 71, .ref 80] G U := rfl
theorem sg_mo_36 (big : Nat → List Value → qM → qW → qR) (n0 : Nat) (G : qM) (U : qW) (v0 : Int32) (v1 : Int32) (v2 : Int32) (v3 : Int32) (v4 : Int32) (v5 : Int32) (v6 : Int32) : qm_run pm_m big m_214 (n0 + 9) 118 [(0, .ref 70), (1, .int v0), (2, .int v1), (3, .int v2), (4, .int v3), (5, .int v4), (6, .int v5)] [.int v6] G U = qm_run pm_m big m_214 n0 131 [(0, .ref 70), (1, .int v0), (2, .int v1), (3, .int v2), (4, .int v3), (5, .int v4), (6, .int v5)] [.int (((28 : Int32) + ((2 : Int32) * v5)) + (1 : Int32)), .ref 71, .int v6] G U := rfl
theorem sg_mo_37 (big : Nat → List Value → qM → qW → qR) (n0 : Nat) (G : qM) (U : qW) (v0 : Int32) (v1 : Int32) (v2 : Int32) (v3 : Int32) (v4 : Int32) (v5 : Int32) : qm_run pm_m big m_214 (n0 + 5) 135 [(0, .ref 70), (1, .int v0), (2, .int v1), (3, .int v2), (4, .int v3), (5, .int v4), (6, .int v5)] [] G U = qm_run pm_m big m_214 n0 84 [(0, .ref 70), (1, .int v0), (2, .int v1), (3, .int v2), (4, .int v3), (5, .int (1 : Int32)), (6, .int (v5 + (1 : Int32)))] [] G U := rfl
theorem sg_mo_38 (big : Nat → List Value → qM → qW → qR) (n0 : Nat) (G : qM) (U : qW) (v0 : Int32) (v1 : Int32) (v2 : Int32) : qm_run pm_m big m_214 (n0 + 3) 24 [(0, .ref 70), (1, .int (0 : Int32)), (2, .int v0), (3, .int v1), (4, .int v2)] [] G U = qm_run pm_m big m_214 n0 30 [(0, .ref 70), (1, .int (0 : Int32)), (2, .int v0), (3, .int v1), (4, .int v2)] [.int (G 70 4), .int v2] G U := rfl
theorem sg_mo_39 (big : Nat → List Value → qM → qW → qR) (n0 : Nat) (G : qM) (U : qW) (v0 : Int32) (v1 : Int32) (v2 : Int32) : qm_run pm_m big m_214 (n0 + 1) 36 [(0, .ref 70), (1, .int (0 : Int32)), (2, .int v0), (3, .int v1), (4, .int v2)] [] G U = qm_run pm_m big m_214 n0 37 [(0, .ref 70), (1, .int (0 : Int32)), (2, .int v0), (3, .int v1), (4, .int v2)] [.ref 70] G U := rfl
theorem sg_mo_40 (big : Nat → List Value → qM → qW → qR) (n0 : Nat) (G : qM) (U : qW) (v0 : Int32) (v1 : Int32) (v2 : Int32) : qm_run pm_m big m_214 (n0 + 2) 40 [(0, .ref 70), (1, .int (0 : Int32)), (2, .int v0), (3, .int v1), (4, .int v2)] [] G U = qm_run pm_m big m_214 n0 43 [(0, .ref 70), (1, .int (0 : Int32)), (2, .int v0), (3, .int v1), (4, .int v2), (5, .int (0 : Int32))] [] G U := rfl
theorem sg_mo_41 (big : Nat → List Value → qM → qW → qR) (n0 : Nat) (G : qM) (U : qW) (v0 : Int32) (v1 : Int32) (v2 : Int32) (v3 : Int32) : qm_run pm_m big m_214 (n0 + 1) 73 [(0, .ref 70), (1, .int (0 : Int32)), (2, .int v0), (3, .int v1), (4, .int v2), (5, .int v3)] [] G U = qm_run pm_m big m_214 n0 74 [(0, .ref 70), (1, .int (0 : Int32)), (2, .int v0), (3, .int v1), (4, .int v2), (5, .int v3)] [.ref 70] G U := rfl
theorem sg_mo_42 (big : Nat → List Value → qM → qW → qR) (n0 : Nat) (G : qM) (U : qW) (v0 : Int32) (v1 : Int32) (v2 : Int32) (v3 : Int32) (v4 : Int32) : qm_run pm_m big m_214 (n0 + 5) 77 [(0, .ref 70), (1, .int (0 : Int32)), (2, .int v0), (3, .int v1), (4, .int v2), (5, .int v3)] [.int v4] G U = qm_run pm_m big m_214 n0 84 [(0, .ref 70), (1, .int (0 : Int32)), (2, .int v0), (3, .int v1), (4, .int v2), (5, .int (1 : Int32)), (6, .int (0 : Int32))] [] G U := rfl
theorem sg_mo_43 (big : Nat → List Value → qM → qW → qR) (n0 : Nat) (G : qM) (U : qW) (v0 : Int32) (v1 : Int32) (v2 : Int32) (v3 : Int32) (v4 : Int32) : qm_run pm_m big m_214 (n0 + 2) 148 [(0, .ref 70), (1, .int (0 : Int32)), (2, .int v0), (3, .int v1), (4, .int v2), (5, .int v3), (6, .int v4)] [] G U = qm_run pm_m big m_214 n0 151 [(0, .ref 70), (1, .int (0 : Int32)), (2, .int v0), (3, .int v1), (4, .int v2), (5, .int v3), (6, .int v4)] [.int v3, .int v0] G U := rfl
theorem sg_mo_44 (big : Nat → List Value → qM → qW → qR) (n0 : Nat) (G : qM) (U : qW) (v0 : Int32) (v1 : Int32) (v2 : Int32) (v3 : Int32) (v4 : Int32) (v5 : Int32) : qm_run pm_m big m_214 (n0 + 4) 154 [(0, .ref 70), (1, .int (0 : Int32)), (2, .int v0), (3, .int v1), (4, .int v2), (5, .int v3), (6, .int v4)] [.int (0 : Int32), .int v5] G U = qm_run pm_m big m_214 n0 159 [(0, .ref 70), (1, .int (0 : Int32)), (2, .int (v5 + (0 : Int32))), (3, .int v1), (4, .int v2), (5, .int v3), (6, .int v4)] [.int v3, .int v1] G U := rfl
theorem sg_mo_45 (big : Nat → List Value → qM → qW → qR) (n0 : Nat) (G : qM) (U : qW) (v0 : Int32) (v1 : Int32) (v2 : Int32) (v3 : Int32) (v4 : Int32) (v5 : Int32) : qm_run pm_m big m_214 (n0 + 5) 183 [(0, .ref 70), (1, .int (0 : Int32)), (2, .int v0), (3, .int v1), (4, .int v2), (5, .int v3), (6, .int v4)] [.int v5] G U = qm_run pm_m big m_214 n0 24 [(0, .ref 70), (1, .int (0 : Int32)), (2, .int v0), (3, .int (v5 ||| (0 : Int32))), (4, .int (v2 + (1 : Int32))), (5, .int v3), (6, .int v4)] [] G U := rfl
theorem sg_mo_46 (big : Nat → List Value → qM → qW → qR) (n0 : Nat) (G : qM) (U : qW) (v0 : Int32) (v1 : Int32) (v2 : Int32) (v3 : Int32) (v4 : Int32) (v5 : Int32) : qm_run pm_m big m_214 (n0 + 4) 154 [(0, .ref 70), (1, .int (0 : Int32)), (2, .int v0), (3, .int v1), (4, .int v2), (5, .int v3), (6, .int v4)] [.int (1 : Int32), .int v5] G U = qm_run pm_m big m_214 n0 159 [(0, .ref 70), (1, .int (0 : Int32)), (2, .int (v5 + (1 : Int32))), (3, .int v1), (4, .int v2), (5, .int v3), (6, .int v4)] [.int v3, .int v1] G U := rfl
theorem sg_mo_47 (big : Nat → List Value → qM → qW → qR) (n0 : Nat) (G : qM) (U : qW) (v0 : Int32) (v1 : Int32) (v2 : Int32) (v3 : Int32) (v4 : Int32) (v5 : Int32) : qm_run pm_m big m_214 (n0 + 8) 162 [(0, .ref 70), (1, .int (0 : Int32)), (2, .int v0), (3, .int v1), (4, .int v2), (5, .int v3), (6, .int v4)] [.int v5] G U = qm_run pm_m big m_214 n0 24 [(0, .ref 70), (1, .int (0 : Int32)), (2, .int v0), (3, .int (v5 ||| (0 : Int32))), (4, .int (v2 + (1 : Int32))), (5, .int v3), (6, .int v4)] [] G U := rfl
theorem sg_mo_48 (big : Nat → List Value → qM → qW → qR) (n0 : Nat) (G : qM) (U : qW) : qm_run pm_m big m_214 (n0 + 8) 0 [(0, .ref 70), (1, .int (0 : Int32))] [] G U = qm_run pm_m big m_214 n0 24 [(0, .ref 70), (1, .int (0 : Int32)), (2, .int (0 : Int32)), (3, .int (0 : Int32)), (4, .int (0 : Int32))] [] G U := rfl
theorem sg_mo_49 (big : Nat → List Value → qM → qW → qR) (n0 : Nat) (G : qM) (U : qW) (v0 : Int32) (v1 : Int32) (v2 : Int32) (v3 : Int32) : qm_run pm_m big m_214 (n0 + 3) 24 [(0, .ref 70), (1, .int v0), (2, .int v1), (3, .int v2), (4, .int v3)] [] G U = qm_run pm_m big m_214 n0 30 [(0, .ref 70), (1, .int v0), (2, .int v1), (3, .int v2), (4, .int v3)] [.int (G 70 4), .int v3] G U := rfl
theorem sg_mo_50 (big : Nat → List Value → qM → qW → qR) (n0 : Nat) (G : qM) (U : qW) (v0 : Int32) (v1 : Int32) (v2 : Int32) (v3 : Int32) : qm_run pm_m big m_214 (n0 + 1) 192 [(0, .ref 70), (1, .int v0), (2, .int v1), (3, .int v2), (4, .int v3)] [] G U = qm_run pm_m big m_214 n0 193 [(0, .ref 70), (1, .int v0), (2, .int v1), (3, .int v2), (4, .int v3)] [.int v0] G U := rfl
theorem sg_mo_51 (big : Nat → List Value → qM → qW → qR) (n0 : Nat) (G : qM) (U : qW) (v0 : Int32) (v1 : Int32) (v2 : Int32) (v3 : Int32) : qm_run pm_m big m_214 (n0 + 1) 36 [(0, .ref 70), (1, .int v0), (2, .int v1), (3, .int v2), (4, .int v3)] [] G U = qm_run pm_m big m_214 n0 37 [(0, .ref 70), (1, .int v0), (2, .int v1), (3, .int v2), (4, .int v3)] [.ref 70] G U := rfl
theorem sg_mo_52 (big : Nat → List Value → qM → qW → qR) (n0 : Nat) (G : qM) (U : qW) (v0 : Int32) (v1 : Int32) (v2 : Int32) (v3 : Int32) : qm_run pm_m big m_214 (n0 + 2) 40 [(0, .ref 70), (1, .int v0), (2, .int v1), (3, .int v2), (4, .int v3)] [] G U = qm_run pm_m big m_214 n0 43 [(0, .ref 70), (1, .int v0), (2, .int v1), (3, .int v2), (4, .int v3), (5, .int (0 : Int32))] [] G U := rfl
theorem sg_mo_53 (big : Nat → List Value → qM → qW → qR) (n0 : Nat) (G : qM) (U : qW) (v0 : Int32) (v1 : Int32) (v2 : Int32) (v3 : Int32) (v4 : Int32) : qm_run pm_m big m_214 (n0 + 1) 73 [(0, .ref 70), (1, .int v0), (2, .int v1), (3, .int v2), (4, .int v3), (5, .int v4)] [] G U = qm_run pm_m big m_214 n0 74 [(0, .ref 70), (1, .int v0), (2, .int v1), (3, .int v2), (4, .int v3), (5, .int v4)] [.ref 70] G U := rfl
theorem sg_mo_54 (big : Nat → List Value → qM → qW → qR) (n0 : Nat) (G : qM) (U : qW) (v0 : Int32) (v1 : Int32) (v2 : Int32) (v3 : Int32) (v4 : Int32) (v5 : Int32) : qm_run pm_m big m_214 (n0 + 5) 77 [(0, .ref 70), (1, .int v0), (2, .int v1), (3, .int v2), (4, .int v3), (5, .int v4)] [.int v5] G U = qm_run pm_m big m_214 n0 84 [(0, .ref 70), (1, .int v0), (2, .int v1), (3, .int v2), (4, .int v3), (5, .int (1 : Int32)), (6, .int (0 : Int32))] [] G U := rfl
theorem sg_mo_55 (big : Nat → List Value → qM → qW → qR) (n0 : Nat) (G : qM) (U : qW) (v0 : Int32) (v1 : Int32) (v2 : Int32) (v3 : Int32) (v4 : Int32) (v5 : Int32) : qm_run pm_m big m_214 (n0 + 2) 148 [(0, .ref 70), (1, .int v0), (2, .int v1), (3, .int v2), (4, .int v3), (5, .int v4), (6, .int v5)] [] G U = qm_run pm_m big m_214 n0 151 [(0, .ref 70), (1, .int v0), (2, .int v1), (3, .int v2), (4, .int v3), (5, .int v4), (6, .int v5)] [.int v4, .int v1] G U := rfl
theorem sg_mo_56 (big : Nat → List Value → qM → qW → qR) (n0 : Nat) (G : qM) (U : qW) (v0 : Int32) (v1 : Int32) (v2 : Int32) (v3 : Int32) (v4 : Int32) (v5 : Int32) (v6 : Int32) : qm_run pm_m big m_214 (n0 + 4) 154 [(0, .ref 70), (1, .int v0), (2, .int v1), (3, .int v2), (4, .int v3), (5, .int v4), (6, .int v5)] [.int (0 : Int32), .int v6] G U = qm_run pm_m big m_214 n0 159 [(0, .ref 70), (1, .int v0), (2, .int (v6 + (0 : Int32))), (3, .int v2), (4, .int v3), (5, .int v4), (6, .int v5)] [.int v4, .int v2] G U := rfl
theorem sg_mo_57 (big : Nat → List Value → qM → qW → qR) (n0 : Nat) (G : qM) (U : qW) (v0 : Int32) (v1 : Int32) (v2 : Int32) (v3 : Int32) (v4 : Int32) (v5 : Int32) (v6 : Int32) : qm_run pm_m big m_214 (n0 + 5) 183 [(0, .ref 70), (1, .int v0), (2, .int v1), (3, .int v2), (4, .int v3), (5, .int v4), (6, .int v5)] [.int v6] G U = qm_run pm_m big m_214 n0 24 [(0, .ref 70), (1, .int v0), (2, .int v1), (3, .int (v6 ||| (0 : Int32))), (4, .int (v3 + (1 : Int32))), (5, .int v4), (6, .int v5)] [] G U := rfl
theorem sg_mo_58 (big : Nat → List Value → qM → qW → qR) (n0 : Nat) (G : qM) (U : qW) (v0 : Int32) (v1 : Int32) (v2 : Int32) (v3 : Int32) (v4 : Int32) (v5 : Int32) (v6 : Int32) : qm_run pm_m big m_214 (n0 + 4) 154 [(0, .ref 70), (1, .int v0), (2, .int v1), (3, .int v2), (4, .int v3), (5, .int v4), (6, .int v5)] [.int (1 : Int32), .int v6] G U = qm_run pm_m big m_214 n0 159 [(0, .ref 70), (1, .int v0), (2, .int (v6 + (1 : Int32))), (3, .int v2), (4, .int v3), (5, .int v4), (6, .int v5)] [.int v4, .int v2] G U := rfl
theorem sg_mo_59 (big : Nat → List Value → qM → qW → qR) (n0 : Nat) (G : qM) (U : qW) (v0 : Int32) (v1 : Int32) (v2 : Int32) (v3 : Int32) (v4 : Int32) (v5 : Int32) (v6 : Int32) : qm_run pm_m big m_214 (n0 + 2) 162 [(0, .ref 70), (1, .int v0), (2, .int v1), (3, .int v2), (4, .int v3), (5, .int v4), (6, .int v5)] [.int v6] G U = qm_run pm_m big m_214 n0 165 [(0, .ref 70), (1, .int v0), (2, .int v1), (3, .int v2), (4, .int v3), (5, .int v4), (6, .int v5)] [.int (10 : Int32), .int v0, .int v6] G U := rfl
theorem sg_mo_60 (big : Nat → List Value → qM → qW → qR) (n0 : Nat) (G : qM) (U : qW) (v0 : Int32) (v1 : Int32) (v2 : Int32) (v3 : Int32) (v4 : Int32) (v5 : Int32) (v6 : Int32) : qm_run pm_m big m_214 (n0 + 6) 168 [(0, .ref 70), (1, .int v0), (2, .int v1), (3, .int v2), (4, .int v3), (5, .int v4), (6, .int v5)] [.int v6] G U = qm_run pm_m big m_214 n0 176 [(0, .ref 70), (1, .int v0), (2, .int v1), (3, .int v2), (4, .int v3), (5, .int v4), (6, .int v5)] [.int (v0 - (10 : Int32)), .int v3, .ref 70, .int (1 : Int32), .int v6] G U := rfl
theorem sg_mo_61 (big : Nat → List Value → qM → qW → qR) (n0 : Nat) (G : qM) (U : qW) (v0 : Int32) (v1 : Int32) (v2 : Int32) (v3 : Int32) (v4 : Int32) (v5 : Int32) (v6 : Int32) (v7 : Int32) : qm_run pm_m big m_214 (n0 + 6) 179 [(0, .ref 70), (1, .int v0), (2, .int v1), (3, .int v2), (4, .int v3), (5, .int v4), (6, .int v5)] [.int v7, .int (1 : Int32), .int v6] G U = qm_run pm_m big m_214 n0 24 [(0, .ref 70), (1, .int v0), (2, .int v1), (3, .int (v6 ||| ((1 : Int32) <<< (v7 &&& 31)))), (4, .int (v3 + (1 : Int32))), (5, .int v4), (6, .int v5)] [] G U := rfl
theorem sg_mo_62 (big : Nat → List Value → qM → qW → qR) (n0 : Nat) (G : qM) (U : qW) (v0 : Int32) : qm_run pm_m big m_214 (n0 + 1) 0 [(0, .ref 70), (1, .int v0)] [] G U = qm_run pm_m big m_214 n0 1 [(0, .ref 70), (1, .int v0)] [.int v0] G U := rfl
theorem sg_mo_63 (big : Nat → List Value → qM → qW → qR) (n0 : Nat) (G : qM) (U : qW) (v0 : Int32) : qm_run pm_m big m_214 (n0 + 4) 4 [(0, .ref 70), (1, .int v0)] [] G U = qm_run pm_m big m_214 n0 9 [(0, .ref 70), (1, .int v0)] [.int (v0 - (10 : Int32)), .ref 70] G U := rfl
theorem sg_mo_64 (big : Nat → List Value → qM → qW → qR) (n0 : Nat) (G : qM) (U : qW) (v0 : Int32) : qm_run pm_m big m_214 (n0 + 7) 12 [(0, .ref 70), (1, .int v0)] [.int (1 : Int32)] G U = qm_run pm_m big m_214 n0 24 [(0, .ref 70), (1, .int v0), (2, .int (0 : Int32)), (3, .int (0 : Int32)), (4, .int (0 : Int32))] [] G U := rfl
theorem b_deed (g : qM) (u : qW) {q : Nat} (hq : q < 6) : q_BS 123 [.ref 28, .int (Int32.ofNat q)] g u (some (.int (p_deed g q)), g, u) := by
  refine q_bx (mm := m_123) rfl (Nat.le_of_ble_eq_true rfl) rfl ?_
  refine q_step 2 2 [(0, .ref 28), (1, .int (Int32.ofNat q))] [.int (Int32.ofNat q), .ref 28] g u (fun big n0 => sg_mo_1 big n0 g u (Int32.ofNat q)) ?_
  by_cases hc0 : s_bit (g 28 5) (Int32.ofNat q) = 0
  · refine q_call (M2 := 73) (rest := []) (show q_BS 73 [.ref 28, .int (Int32.ofNat q)] g u (some (.int (0 : Int32)), g, u) from by have e := b_dg (Int32.ofNat q) g u; rw [if_pos hc0] at e; exact e) (fun _ _ => rfl) ?_
    refine q_ret 3 (some (.int (4 : Int32)), g, u) (fun _ _ => rfl) ?_
    unfold p_deed
    rw [if_pos hc0]
  · refine q_call (M2 := 73) (rest := []) (show q_BS 73 [.ref 28, .int (Int32.ofNat q)] g u (some (.int (1 : Int32)), g, u) from by have e := b_dg (Int32.ofNat q) g u; rw [if_neg hc0] at e; exact e) (fun _ _ => rfl) ?_
    refine q_step 4 13 [(0, .ref 28), (1, .int (Int32.ofNat q))] [.int (Int32.ofNat q), .ref 33] g u (fun big n0 => sg_mo_2 big n0 g u (Int32.ofNat q)) ?_
    refine q_iald (j := q) (q_ixn (by omega) (by omega)) rfl rfl ?_
    refine q_ret 2 (some (.int (g 33 q)), g, u) (fun _ _ => rfl) ?_
    unfold p_deed
    rw [if_neg hc0]
theorem fi_l {n z row : Nat} {g2 r r1 : qM} (u : qW) (h6 : n ≤ 6) (hse : w_se n z r) (hz8 : z ≤ 8) (hs2 : w_sc 20 z g2 r) (hd : ∀ q, q < n → p_deed g2 q = r1 80 q) : ∀ k i, i + k = z → q_EV m_122 29 [(0, .ref 34), (1, .ref 20), (2, .int (Int32.ofNat row)), (3, .int (Int32.ofNat i))] [] g2 u (fun R => R = (some (.int (if n_fit r1 r k i = 0 then (0 : Int32) else 1)), g2, u)) := by
  intro k
  induction k with
  | zero =>
    intro i hi
    refine q_step 3 34 [(0, .ref 34), (1, .ref 20), (2, .int (Int32.ofNat row)), (3, .int (Int32.ofNat i))] [.int (g2 20 6), .int (Int32.ofNat i)] g2 u (fun big n0 => sg_mo_3 big n0 g2 u (Int32.ofNat row) (Int32.ofNat i)) ?_
    refine q_ic_ge rfl (fun (hc0 : (g2 20 6) ≤ (Int32.ofNat i)) => ?_) (fun hc0 => absurd (show (g2 20 6) ≤ (Int32.ofNat i) from by rw [hs2.1]; exact (q_le (by omega) (by omega)).mpr (by omega)) hc0)
    refine q_ret 2 (some (.int (1 : Int32)), g2, u) (fun _ _ => rfl) ?_
    rfl
  | succ k ih =>
    intro i hi
    refine q_step 3 34 [(0, .ref 34), (1, .ref 20), (2, .int (Int32.ofNat row)), (3, .int (Int32.ofNat i))] [.int (g2 20 6), .int (Int32.ofNat i)] g2 u (fun big n0 => sg_mo_3 big n0 g2 u (Int32.ofNat row) (Int32.ofNat i)) ?_
    refine q_ic_ge rfl (fun hc0 => absurd (show (g2 20 6) ≤ (Int32.ofNat i) from hc0) (fun z2 => by rw [hs2.1] at z2; exact absurd ((q_le (by omega) (by omega)).mp z2) (by omega))) (fun (hc0 : ¬ ((g2 20 6) ≤ (Int32.ofNat i))) => ?_)
    refine q_step 5 46 [(0, .ref 34), (1, .ref 20), (2, .int (Int32.ofNat row)), (3, .int (Int32.ofNat i))] [.int (Int32.ofNat i), .ref 26, .ref 28] g2 u (fun big n0 => sg_mo_4 big n0 g2 u (Int32.ofNat row) (Int32.ofNat i)) ?_
    refine q_iald (j := i) (q_ixn (by omega) (by omega)) rfl rfl ?_
    obtain ⟨q, hq, eq⟩ := hse.2.2 i (by omega)
    have e26 : g2 26 i = Int32.ofNat q := (hs2.2 i (by omega)).1.trans eq
    have hdd := b_deed g2 u (q := q) (by omega)
    rw [hd q hq] at hdd
    refine q_call (M2 := 123) (rest := []) (by rw [e26]; exact hdd) (fun _ _ => rfl) ?_
    refine q_step 3 55 [(0, .ref 34), (1, .ref 20), (2, .int (Int32.ofNat row)), (3, .int (Int32.ofNat i))] [.int (Int32.ofNat i), .ref 27, .int (r1 80 q)] g2 u (fun big n0 => sg_mo_5 big n0 g2 u (Int32.ofNat row) (Int32.ofNat i) (r1 80 q)) ?_
    refine q_iald (j := i) (q_ixn (by omega) (by omega)) rfl rfl ?_
    refine q_ic_eq rfl (fun (hc1 : (r1 80 q) = (g2 27 i)) => ?_) (fun (hc1 : ¬ ((r1 80 q) = (g2 27 i))) => ?_)
    · refine q_step 2 29 [(0, .ref 34), (1, .ref 20), (2, .int (Int32.ofNat row)), (3, .int ((Int32.ofNat i) + (1 : Int32)))] [] g2 u (fun big n0 => sg_mo_6 big n0 g2 u (Int32.ofNat row) (Int32.ofNat i)) ?_
      have e : n_fit r1 r (k + 1) i = n_fit r1 r k (i + 1) := by
        rw [n_fit, if_pos (by rw [eq, q_nat (by omega), ← (hs2.2 i (by omega)).2]; exact hc1)]
      rw [q_succ, e]
      exact ih (i + 1) (by omega)
    · refine q_ret 2 (some (.int (0 : Int32)), g2, u) (fun _ _ => rfl) ?_
      have e : n_fit r1 r (k + 1) i = 0 := by
        rw [n_fit, if_neg (by rw [eq, q_nat (by omega), ← (hs2.2 i (by omega)).2]; exact hc1)]
      rw [e, if_pos rfl]
theorem c_fit {n W H z row : Nat} {g r : qM} (u : qW) (h : w_ok n W H r) (hc : w_cs 20 n g r) (ht : w_tr n g r) (hse : w_se n z r) (hsc : w_sc 20 z g r) : q_BS 122 [.ref 34, .ref 20, .int (Int32.ofNat row)] g u (some (.int (p_fit n z r row)), (s_fim n row g), u) := by
  refine q_bx (mm := m_122) rfl (Nat.le_of_ble_eq_true rfl) rfl ?_
  have h6 : n ≤ 6 := h.1.2.2.2.2
  have hy := w_cpl h6 hc ht
  have hk := w_ok_mo (row := row) h
  have hm := w_cs_mo (row := row) hy
  refine q_step 3 5 [(0, .ref 34), (1, .ref 20), (2, .int (Int32.ofNat row))] [.ref 20, .ref 35] g u (fun big n0 => sg_mo_7 big n0 g u (Int32.ofNat row)) ?_
  refine q_call (M2 := 42) (rest := []) (b_cpl35_20 _ _) (fun _ _ => rfl) ?_
  refine q_step 3 13 [(0, .ref 34), (1, .ref 20), (2, .int (Int32.ofNat row))] [.int (Int32.ofNat row), .ref 35] (s_cpl 35 20 g) u (fun big n0 => sg_mo_8 big n0 (s_cpl 35 20 g) u (Int32.ofNat row)) ?_
  refine q_call (M2 := 98) (rest := []) (b_sm (row := row) (s_cpl 35 20 g) u (hy.1.1.trans h.2.1) h6) (fun _ _ => rfl) ?_
  refine q_step 4 24 [(0, .ref 34), (1, .ref 20), (2, .int (Int32.ofNat row))] [.ref 35, .ref 28] (s_rgm n row g) u (fun big n0 => sg_mo_9 big n0 (s_rgm n row g) u (Int32.ofNat row)) ?_
  refine q_call (M2 := 68) (rest := []) (c_st35 u hk hm) (fun _ _ => rfl) ?_
  refine q_step 2 29 [(0, .ref 34), (1, .ref 20), (2, .int (Int32.ofNat row)), (3, .int (0 : Int32))] [] (s_fim n row g) u (fun big n0 => sg_mo_10 big n0 (s_fim n row g) u (Int32.ofNat row)) ?_
  exact fi_l u h6 hse hse.2.1 (w_sc_fc s_fim_fc hsc) (fun q hq => w_deed hk hm hq) z 0 (by omega)
theorem hm_l (u : qW) {n W H z : Nat} {r : qM} (h : w_ok n W H r) (hse : w_se n z r) (h6 : n ≤ 6) (h4n : 4 ^ n ≤ 4096) : ∀ k row a g, row + k = 4 ^ n → w_cs 20 n g r → w_tr n g r → w_sc 20 z g r → q_EV m_121 12 [(0, .ref 34), (1, .ref 20), (2, .int a), (3, .int (Int32.ofNat row))] [] g u (w_po w_fc g (.int (s_ct (p_fit n z r) k row a))) := by
  intro k
  induction k with
  | zero =>
    intro row a g hi hc ht hsc
    refine q_step 3 17 [(0, .ref 34), (1, .ref 20), (2, .int a), (3, .int (Int32.ofNat row))] [.int (g 20 3), .int (Int32.ofNat row)] g u (fun big n0 => sg_mo_11 big n0 g u a (Int32.ofNat row)) ?_
    refine q_call (M2 := 93) (rest := [.int (Int32.ofNat row)]) (b_rows _ _ _) (fun _ _ => rfl) ?_
    refine q_ic_ge rfl (fun (hc0 : (s_rows (g 20 3)) ≤ (Int32.ofNat row)) => ?_) (fun hc0 => absurd (show (s_rows (g 20 3)) ≤ (Int32.ofNat row) from by rw [hc.1.1, h.2.1, s_rows_n h6]; exact (q_le (by omega) (by omega)).mpr (by omega)) hc0)
    refine q_ret 2 (some (.int a), g, u) (fun _ _ => rfl) ?_
    exact ⟨g, u, rfl, w_fc_rfl g⟩
  | succ k ih =>
    intro row a g hi hc ht hsc
    refine q_step 3 17 [(0, .ref 34), (1, .ref 20), (2, .int a), (3, .int (Int32.ofNat row))] [.int (g 20 3), .int (Int32.ofNat row)] g u (fun big n0 => sg_mo_11 big n0 g u a (Int32.ofNat row)) ?_
    refine q_call (M2 := 93) (rest := [.int (Int32.ofNat row)]) (b_rows _ _ _) (fun _ _ => rfl) ?_
    refine q_ic_ge rfl (fun hc0 => absurd (show (s_rows (g 20 3)) ≤ (Int32.ofNat row) from hc0) (fun z => by rw [hc.1.1, h.2.1, s_rows_n h6] at z; exact absurd ((q_le (by omega) (by omega)).mp z) (by omega))) (fun (hc0 : ¬ ((s_rows (g 20 3)) ≤ (Int32.ofNat row))) => ?_)
    refine q_step 4 27 [(0, .ref 34), (1, .ref 20), (2, .int a), (3, .int (Int32.ofNat row))] [.int (Int32.ofNat row), .ref 20, .ref 34, .int a] g u (fun big n0 => sg_mo_12 big n0 g u a (Int32.ofNat row)) ?_
    by_cases hc1 : p_fit n z r row = 0
    · refine q_call (M2 := 122) (rest := [.int a]) (show q_BS 122 [.ref 34, .ref 20, .int (Int32.ofNat row)] g u (some (.int (0 : Int32)), (s_fim n row g), u) from by have e := c_fit (row := row) u h hc ht hse hsc; rw [hc1] at e; exact e) (fun _ _ => rfl) ?_
      refine q_step 6 12 [(0, .ref 34), (1, .ref 20), (2, .int (a + (0 : Int32))), (3, .int ((Int32.ofNat row) + (1 : Int32)))] [] (s_fim n row g) u (fun big n0 => sg_mo_13 big n0 (s_fim n row g) u a (Int32.ofNat row) a) ?_
      rw [q_succ, s_ct_s (P := p_fit n z r) (i := row) (hc1)]
      exact q_EV.imp (ih (row + 1) _ _ (by omega) (w_cs_fc s_fim_fc hc) (s_fim_tr ht) (w_sc_fc s_fim_fc hsc)) (fun R z2 => w_po_c s_fim_fc rfl z2)
    · refine q_call (M2 := 122) (rest := [.int a]) (show q_BS 122 [.ref 34, .ref 20, .int (Int32.ofNat row)] g u (some (.int (1 : Int32)), (s_fim n row g), u) from by have e := c_fit (row := row) u h hc ht hse hsc; rw [(p_fit_01 n z r row).resolve_left hc1] at e; exact e) (fun _ _ => rfl) ?_
      refine q_step 7 12 [(0, .ref 34), (1, .ref 20), (2, .int (a + (1 : Int32))), (3, .int ((Int32.ofNat row) + (1 : Int32)))] [] (s_fim n row g) u (fun big n0 => sg_mo_14 big n0 (s_fim n row g) u a (Int32.ofNat row) a) ?_
      rw [q_succ, s_ct_s (P := p_fit n z r) (i := row) ((p_fit_01 n z r row).resolve_left hc1)]
      exact q_EV.imp (ih (row + 1) _ _ (by omega) (w_cs_fc s_fim_fc hc) (s_fim_tr ht) (w_sc_fc s_fim_fc hsc)) (fun R z2 => w_po_c s_fim_fc rfl z2)
theorem c_hm121 {n W H : Nat} {g r : qM} (u : qW) (h : w_ok n W H r) (hc : w_cs 20 n g r) {z : Nat} (hse : w_se n z r) (hsc : w_sc 20 z g r) : w_BS w_fc 121 [.ref 34, .ref 20] g u (.int (f_mo0 n z r)) := by
  refine w_bs (mm := m_121) rfl (Nat.le_of_ble_eq_true rfl) rfl ?_
  have h5 : n ≤ 6 := h.1.2.2.2.2
  have hy := w_cpy (a := 35) (b := 20) h5 (by omega) hc
  refine q_step 3 5 [(0, .ref 34), (1, .ref 20)] [.ref 20, .ref 35] g u (fun big n0 => sg_mo_15 big n0 g u) ?_
  refine q_call (M2 := 41) (rest := []) (b_cpy35_20 _ _) (fun _ _ => rfl) ?_
  refine q_step 4 12 [(0, .ref 34), (1, .ref 20), (2, .int (0 : Int32)), (3, .int (0 : Int32))] [] (s_cpy 35 20 g) u (fun big n0 => sg_mo_16 big n0 (s_cpy 35 20 g) u) ?_
  exact q_EV.imp (hm_l u h hse h5 (s_4n h5) (4 ^ n) 0 0 (s_cpy 35 20 g) (by omega) (w_cs_fc w_cpy_fc hc) (w_cs_tr hy) (w_sc_fc w_cpy_fc hsc)) (fun R z => w_po_c w_cpy_fc rfl z)
theorem fm_l (u : qW) {n W H z : Nat} {r : qM} (h : w_ok n W H r) (hse : w_se n z r) (h6 : n ≤ 6) (h4n : 4 ^ n ≤ 4096) {p : Nat} : ∀ k row a g, row + k = 4 ^ n → w_cs 20 n g r → w_tr n g r → w_sc 20 z g r → q_EV m_124 13 [(0, .ref 34), (1, .ref 20), (2, .int (Int32.ofNat p)), (3, .int a), (4, .int (Int32.ofNat row))] [] g u (w_po w_fc g (.int (f_bm n p z r k row a))) := by
  intro k
  induction k with
  | zero =>
    intro row a g hi hc ht hsc
    refine q_step 3 19 [(0, .ref 34), (1, .ref 20), (2, .int (Int32.ofNat p)), (3, .int a), (4, .int (Int32.ofNat row))] [.int (g 20 3), .int (Int32.ofNat row)] g u (fun big n0 => sg_mo_17 big n0 g u (Int32.ofNat p) a (Int32.ofNat row)) ?_
    refine q_call (M2 := 93) (rest := [.int (Int32.ofNat row)]) (b_rows _ _ _) (fun _ _ => rfl) ?_
    refine q_ic_ge rfl (fun (hc0 : (s_rows (g 20 3)) ≤ (Int32.ofNat row)) => ?_) (fun hc0 => absurd (show (s_rows (g 20 3)) ≤ (Int32.ofNat row) from by rw [hc.1.1, h.2.1, s_rows_n h6]; exact (q_le (by omega) (by omega)).mpr (by omega)) hc0)
    refine q_ret 2 (some (.int a), g, u) (fun _ _ => rfl) ?_
    exact ⟨g, u, rfl, w_fc_rfl g⟩
  | succ k ih =>
    intro row a g hi hc ht hsc
    refine q_step 3 19 [(0, .ref 34), (1, .ref 20), (2, .int (Int32.ofNat p)), (3, .int a), (4, .int (Int32.ofNat row))] [.int (g 20 3), .int (Int32.ofNat row)] g u (fun big n0 => sg_mo_17 big n0 g u (Int32.ofNat p) a (Int32.ofNat row)) ?_
    refine q_call (M2 := 93) (rest := [.int (Int32.ofNat row)]) (b_rows _ _ _) (fun _ _ => rfl) ?_
    refine q_ic_ge rfl (fun hc0 => absurd (show (s_rows (g 20 3)) ≤ (Int32.ofNat row) from hc0) (fun z => by rw [hc.1.1, h.2.1, s_rows_n h6] at z; exact absurd ((q_le (by omega) (by omega)).mp z) (by omega))) (fun (hc0 : ¬ ((s_rows (g 20 3)) ≤ (Int32.ofNat row))) => ?_)
    refine q_step 4 30 [(0, .ref 34), (1, .ref 20), (2, .int (Int32.ofNat p)), (3, .int a), (4, .int (Int32.ofNat row))] [.int (Int32.ofNat row), .ref 20, .ref 34, .int a] g u (fun big n0 => sg_mo_18 big n0 g u (Int32.ofNat p) a (Int32.ofNat row)) ?_
    by_cases hc1 : p_fit n z r row = 0
    · refine q_call (M2 := 122) (rest := [.int a]) (show q_BS 122 [.ref 34, .ref 20, .int (Int32.ofNat row)] g u (some (.int (0 : Int32)), (s_fim n row g), u) from by have e := c_fit (row := row) u h hc ht hse hsc; rw [hc1] at e; exact e) (fun _ _ => rfl) ?_
      refine q_step 6 13 [(0, .ref 34), (1, .ref 20), (2, .int (Int32.ofNat p)), (3, .int (a ||| (0 : Int32))), (4, .int ((Int32.ofNat row) + (1 : Int32)))] [] (s_fim n row g) u (fun big n0 => sg_mo_19 big n0 (s_fim n row g) u (Int32.ofNat p) a (Int32.ofNat row) a) ?_
      rw [q_succ, f_bm, if_pos hc1, s_or00]
      exact q_EV.imp (ih (row + 1) _ _ (by omega) (w_cs_fc s_fim_fc hc) (s_fim_tr ht) (w_sc_fc s_fim_fc hsc)) (fun R z2 => w_po_c s_fim_fc rfl z2)
    · refine q_call (M2 := 122) (rest := [.int a]) (show q_BS 122 [.ref 34, .ref 20, .int (Int32.ofNat row)] g u (some (.int (1 : Int32)), (s_fim n row g), u) from by have e := c_fit (row := row) u h hc ht hse hsc; rw [(p_fit_01 n z r row).resolve_left hc1] at e; exact e) (fun _ _ => rfl) ?_
      refine q_step 5 41 [(0, .ref 34), (1, .ref 20), (2, .int (Int32.ofNat p)), (3, .int a), (4, .int (Int32.ofNat row))] [.int (Int32.ofNat p), .int (Int32.ofNat row), .ref 20, .int (1 : Int32), .int a] (s_fim n row g) u (fun big n0 => sg_mo_20 big n0 (s_fim n row g) u (Int32.ofNat p) a (Int32.ofNat row) a) ?_
      have hmr := b_mir20 (Int32.ofNat row) (Int32.ofNat p) (s_fim n row g) u
      rw [show s_dg (Int32.ofNat row) ((s_fim n row g) 20 3) (Int32.ofNat p) = f_md n row p from by rw [s_fim_fc 20 (by omega), hc.1.1, h.2.1]; rfl] at hmr
      refine q_call (M2 := 95) (rest := [.int (1 : Int32), .int a]) (hmr) (fun _ _ => rfl) ?_
      refine q_step 6 13 [(0, .ref 34), (1, .ref 20), (2, .int (Int32.ofNat p)), (3, .int (a ||| ((1 : Int32) <<< ((f_md n row p) &&& 31)))), (4, .int ((Int32.ofNat row) + (1 : Int32)))] [] (s_fim n row g) u (fun big n0 => sg_mo_21 big n0 (s_fim n row g) u (Int32.ofNat p) a (Int32.ofNat row) a (f_md n row p)) ?_
      rw [q_succ, f_bm, if_neg hc1]
      exact q_EV.imp (ih (row + 1) _ _ (by omega) (w_cs_fc s_fim_fc hc) (s_fim_tr ht) (w_sc_fc s_fim_fc hsc)) (fun R z2 => w_po_c s_fim_fc rfl z2)
theorem c_fm124 {n W H : Nat} {g r : qM} (u : qW) (h : w_ok n W H r) (hc : w_cs 20 n g r) {z : Nat} (hse : w_se n z r) (hsc : w_sc 20 z g r) {p : Nat} : w_BS w_fc 124 [.ref 34, .ref 20, .int (Int32.ofNat p)] g u (.int (f_mop n p z r)) := by
  refine w_bs (mm := m_124) rfl (Nat.le_of_ble_eq_true rfl) rfl ?_
  have h5 : n ≤ 6 := h.1.2.2.2.2
  have hy := w_cpy (a := 35) (b := 20) h5 (by omega) hc
  refine q_step 3 5 [(0, .ref 34), (1, .ref 20), (2, .int (Int32.ofNat p))] [.ref 20, .ref 35] g u (fun big n0 => sg_mo_22 big n0 g u (Int32.ofNat p)) ?_
  refine q_call (M2 := 41) (rest := []) (b_cpy35_20 _ _) (fun _ _ => rfl) ?_
  refine q_step 4 13 [(0, .ref 34), (1, .ref 20), (2, .int (Int32.ofNat p)), (3, .int (0 : Int32)), (4, .int (0 : Int32))] [] (s_cpy 35 20 g) u (fun big n0 => sg_mo_23 big n0 (s_cpy 35 20 g) u (Int32.ofNat p)) ?_
  exact q_EV.imp (fm_l u h hse h5 (s_4n h5) (4 ^ n) 0 0 (s_cpy 35 20 g) (by omega) (w_cs_fc w_cpy_fc hc) (w_cs_tr hy) (w_sc_fc w_cpy_fc hsc)) (fun R z => w_po_c w_cpy_fc rfl z)
theorem c_moods0 {n W H : Nat} {g r : qM} (u : qW) (h : w_ok n W H r) (hc : w_cs 20 n g r) {z : Nat} (hse : w_se n z r) (hsc : w_sc 20 z g r) : w_BS w_fc 120 [.ref 8, .int (0 : Int32)] g u (.int (f_mo0 n z r)) := by
  refine w_bs (mm := m_120) rfl (Nat.le_of_ble_eq_true rfl) rfl ?_
  refine q_step 2 2 [(0, .ref 8), (1, .int (0 : Int32))] [.int (0 : Int32), .ref 8] g u (fun big n0 => sg_mo_24 big n0 g u) ?_
  refine q_call (M2 := 91) (rest := []) (b_tot0 g u) (fun _ _ => rfl) ?_
  refine q_step 7 22 [(0, .ref 8), (1, .int (0 : Int32))] [.ref 20, .ref 34] g u (fun big n0 => sg_mo_25 big n0 g u) ?_
  obtain ⟨g1, u1, hb, hf⟩ := c_hm121 u h hc hse hsc
  refine q_call (M2 := 121) (rest := []) (hb) (fun _ _ => rfl) ?_
  refine q_ret 2 (some (.int (f_mo0 n z r)), g1, u1) (fun _ _ => rfl) ?_
  exact ⟨g1, u1, rfl, hf⟩
theorem c_moods1 {n W H : Nat} {g r : qM} (u : qW) (h : w_ok n W H r) (hc : w_cs 20 n g r) {z : Nat} (hse : w_se n z r) (hsc : w_sc 20 z g r) {p : Nat} (hp : p < n) : w_BS w_fc 120 [.ref 8, .int (Int32.ofNat (10 + p))] g u (.int (f_mop n p z r)) := by
  refine w_bs (mm := m_120) rfl (Nat.le_of_ble_eq_true rfl) rfl ?_
  have h5 : n ≤ 6 := h.1.2.2.2.2
  refine q_step 2 2 [(0, .ref 8), (1, .int (Int32.ofNat (10 + p)))] [.int (Int32.ofNat (10 + p)), .ref 8] g u (fun big n0 => sg_mo_26 big n0 g u (Int32.ofNat (10 + p))) ?_
  refine q_call (M2 := 91) (rest := []) (b_tot1 g u (hc.1.1.trans h.2.1) h5 hp) (fun _ _ => rfl) ?_
  refine q_step 2 11 [(0, .ref 8), (1, .int (Int32.ofNat (10 + p)))] [.int (Int32.ofNat (10 + p))] g u (fun big n0 => sg_mo_27 big n0 g u (Int32.ofNat (10 + p))) ?_
  refine q_if_ne rfl (fun hc0 => absurd (show (Int32.ofNat (10 + p)) = 0 from hc0) (fun z => absurd ((q_eq (i := 10 + p) (j := 0) (by omega) (by omega)).mp z) (by omega))) (fun (hc0 : ¬ ((Int32.ofNat (10 + p)) = 0)) => ?_)
  refine q_step 7 40 [(0, .ref 8), (1, .int (Int32.ofNat (10 + p)))] [.int ((Int32.ofNat (10 + p)) - (10 : Int32)), .ref 20, .ref 34] g u (fun big n0 => sg_mo_28 big n0 g u (Int32.ofNat (10 + p))) ?_
  obtain ⟨g1, u1, hb, hf⟩ := c_fm124 (p := p) u h hc hse hsc
  refine q_call (M2 := 124) (rest := []) (by rw [show (Int32.ofNat (10 + p)) - (10 : Int32) = Int32.ofNat p from by rw [show (10 : Int32) = Int32.ofNat 10 from rfl, q_sb (by omega) (by omega)]; congr 1; omega]; exact hb) (fun _ _ => rfl) ?_
  refine q_ret 1 (some (.int (f_mop n p z r)), g1, u1) (fun _ _ => rfl) ?_
  exact ⟨g1, u1, rfl, hf⟩
theorem rm1 (g : qM) (u : qW) {n row : Nat} {wh a b : Int32} (hn : g 70 4 = Int32.ofNat n) (h6 : n ≤ 6) {Q : Option Value × qM × qW → Prop} (hk : q_EV m_214 73 [(0, .ref 70), (1, .int wh), (2, .int a), (3, .int b), (4, .int (Int32.ofNat row)), (5, .int (Int32.ofNat n))] [] (s_row_ 76 (f_md n row) n (s_start g)) u Q) : ∀ k i, i + k = n → q_EV m_214 43 [(0, .ref 70), (1, .int wh), (2, .int a), (3, .int b), (4, .int (Int32.ofNat row)), (5, .int (Int32.ofNat i))] [] (s_row_ 76 (f_md n row) i (s_start g)) u Q := by
  intro k
  induction k with
  | zero =>
    intro i hi
    refine q_step 3 49 [(0, .ref 70), (1, .int wh), (2, .int a), (3, .int b), (4, .int (Int32.ofNat row)), (5, .int (Int32.ofNat i))] [.int ((s_start g) 70 4), .int (Int32.ofNat i)] (s_row_ 76 (f_md n row) i (s_start g)) u (fun big n0 => sg_mo_29 big n0 (s_row_ 76 (f_md n row) i (s_start g)) u wh a b (Int32.ofNat row) (Int32.ofNat i)) ?_
    refine q_ic_ge rfl (fun (hc0 : ((s_start g) 70 4) ≤ (Int32.ofNat i)) => ?_) (fun hc0 => absurd (show ((s_start g) 70 4) ≤ (Int32.ofNat i) from by rw [show (s_start g) 70 4 = Int32.ofNat n from hn]; exact (q_le (by omega) (by omega)).mpr (by omega)) hc0)
    rw [show i = n by omega]
    exact hk
  | succ k ih =>
    intro i hi
    refine q_step 3 49 [(0, .ref 70), (1, .int wh), (2, .int a), (3, .int b), (4, .int (Int32.ofNat row)), (5, .int (Int32.ofNat i))] [.int ((s_start g) 70 4), .int (Int32.ofNat i)] (s_row_ 76 (f_md n row) i (s_start g)) u (fun big n0 => sg_mo_29 big n0 (s_row_ 76 (f_md n row) i (s_start g)) u wh a b (Int32.ofNat row) (Int32.ofNat i)) ?_
    refine q_ic_ge rfl (fun hc0 => absurd (show ((s_start g) 70 4) ≤ (Int32.ofNat i) from hc0) (fun z => by rw [show (s_start g) 70 4 = Int32.ofNat n from hn] at z; exact absurd ((q_le (by omega) (by omega)).mp z) (by omega))) (fun (hc0 : ¬ (((s_start g) 70 4) ≤ (Int32.ofNat i))) => ?_)
    refine q_step 6 63 [(0, .ref 70), (1, .int wh), (2, .int a), (3, .int b), (4, .int (Int32.ofNat row)), (5, .int (Int32.ofNat i))] [.int (Int32.ofNat i), .int (Int32.ofNat row), .ref 70, .int (Int32.ofNat i), .ref 76] (s_row_ 76 (f_md n row) i (s_start g)) u (fun big n0 => sg_mo_30 big n0 (s_row_ 76 (f_md n row) i (s_start g)) u wh a b (Int32.ofNat row) (Int32.ofNat i)) ?_
    have hmb := b_mby (Int32.ofNat row) (Int32.ofNat i) (s_row_ 76 (f_md n row) i (s_start g)) u
    rw [show s_dg (Int32.ofNat row) ((s_row_ 76 (f_md n row) i (s_start g)) 70 4) (Int32.ofNat i) = f_md n row i from by rw [show (s_row_ 76 (f_md n row) i (s_start g)) 70 4 = Int32.ofNat n from hn]; rfl] at hmb
    refine q_call (M2 := 203) (rest := [.int (Int32.ofNat i), .ref 76]) (hmb) (fun _ _ => rfl) ?_
    refine q_iast (j := i) (q_ixn (by omega) (by omega)) rfl rfl ?_
    refine q_step 2 43 [(0, .ref 70), (1, .int wh), (2, .int a), (3, .int b), (4, .int (Int32.ofNat row)), (5, .int ((Int32.ofNat i) + (1 : Int32)))] [] (q_up (s_row_ 76 (f_md n row) i (s_start g)) 76 i (f_md n row i)) u (fun big n0 => sg_mo_31 big n0 (q_up (s_row_ 76 (f_md n row) i (s_start g)) 76 i (f_md n row i)) u wh a b (Int32.ofNat row) (Int32.ofNat i)) ?_
    rw [q_succ, show (q_up (s_row_ 76 (f_md n row) i (s_start g)) 76 i (f_md n row i)) = (s_row_ 76 (f_md n row) (i + 1) (s_start g)) from s_row_s]
    exact ih (i + 1) (by omega)
theorem rm2 {n z row : Nat} {wh a b : Int32} {g r r1 : qM} (u : qW) (h6 : n ≤ 6) (hse : w_se n z r) (hz8 : z ≤ 8) (h71 : g 71 = r 71) (h80 : ∀ q, q < n → g 80 q = r1 80 q) {Q : Option Value × qM × qW → Prop} : ∀ k i is, i + k = z → q_EV m_214 148 [(0, .ref 70), (1, .int wh), (2, .int a), (3, .int b), (4, .int (Int32.ofNat row)), (5, .int (f_is r1 r k i is)), (6, .int (Int32.ofNat z))] [] g u Q → q_EV m_214 84 [(0, .ref 70), (1, .int wh), (2, .int a), (3, .int b), (4, .int (Int32.ofNat row)), (5, .int is), (6, .int (Int32.ofNat i))] [] g u Q := by
  intro k
  induction k with
  | zero =>
    intro i is hi hk
    refine q_step 5 93 [(0, .ref 70), (1, .int wh), (2, .int a), (3, .int b), (4, .int (Int32.ofNat row)), (5, .int is), (6, .int (Int32.ofNat i))] [.int (g 71 27), .int (Int32.ofNat i)] g u (fun big n0 => sg_mo_32 big n0 g u wh a b (Int32.ofNat row) is (Int32.ofNat i)) ?_
    refine q_ic_ge rfl (fun (hc0 : (g 71 27) ≤ (Int32.ofNat i)) => ?_) (fun hc0 => absurd (show (g 71 27) ≤ (Int32.ofNat i) from by rw [h71, hse.1]; exact (q_le (by omega) (by omega)).mpr (by omega)) hc0)
    have e : i = z := by omega
    rw [e]
    rw [e] at hk
    exact hk
  | succ k ih =>
    intro i is hi hk
    obtain ⟨q, hq, eq⟩ := hse.2.2 i (by omega)
    have e28 : (28 : Int32) + (2 : Int32) * Int32.ofNat i = Int32.ofNat (28 + 2 * i) := by
      rw [show (28 : Int32) = Int32.ofNat 28 from rfl, show (2 : Int32) = Int32.ofNat 2 from rfl, q_mul, q_add]
    refine q_step 5 93 [(0, .ref 70), (1, .int wh), (2, .int a), (3, .int b), (4, .int (Int32.ofNat row)), (5, .int is), (6, .int (Int32.ofNat i))] [.int (g 71 27), .int (Int32.ofNat i)] g u (fun big n0 => sg_mo_32 big n0 g u wh a b (Int32.ofNat row) is (Int32.ofNat i)) ?_
    refine q_ic_ge rfl (fun hc0 => absurd (show (g 71 27) ≤ (Int32.ofNat i) from hc0) (fun z2 => by rw [h71, hse.1] at z2; exact absurd ((q_le (by omega) (by omega)).mp z2) (by omega))) (fun (hc0 : ¬ ((g 71 27) ≤ (Int32.ofNat i))) => ?_)
    refine q_step 1 98 [(0, .ref 70), (1, .int wh), (2, .int a), (3, .int b), (4, .int (Int32.ofNat row)), (5, .int is), (6, .int (Int32.ofNat i))] [.int is] g u (fun big n0 => sg_mo_33 big n0 g u wh a b (Int32.ofNat row) is (Int32.ofNat i)) ?_
    refine q_if_eq rfl (fun (hc1 : is = 0) => ?_) (fun (hc1 : ¬ (is = 0)) => ?_)
    · refine q_step 4 84 [(0, .ref 70), (1, .int wh), (2, .int a), (3, .int b), (4, .int (Int32.ofNat row)), (5, .int (0 : Int32)), (6, .int ((Int32.ofNat i) + (1 : Int32)))] [] g u (fun big n0 => sg_mo_34 big n0 g u wh a b (Int32.ofNat row) is (Int32.ofNat i)) ?_
      have e : f_is r1 r (k + 1) i is = f_is r1 r k (i + 1) (0 : Int32) := by rw [f_is, if_pos hc1]
      rw [e] at hk
      rw [q_succ]
      exact ih (i + 1) _ (by omega) hk
    · refine q_step 9 116 [(0, .ref 70), (1, .int wh), (2, .int a), (3, .int b), (4, .int (Int32.ofNat row)), (5, .int is), (6, .int (Int32.ofNat i))] [.int ((28 : Int32) + ((2 : Int32) * (Int32.ofNat i))), .ref 71, .ref 80] g u (fun big n0 => sg_mo_35 big n0 g u wh a b (Int32.ofNat row) is (Int32.ofNat i)) ?_
      refine q_iald (j := (28 + 2 * i)) (by rw [e28]; exact q_ixn (by omega) (by omega)) rfl rfl ?_
      refine q_iald (j := q) (by rw [h71, eq]; exact q_ixn (by omega) (by omega)) rfl rfl ?_
      refine q_step 9 131 [(0, .ref 70), (1, .int wh), (2, .int a), (3, .int b), (4, .int (Int32.ofNat row)), (5, .int is), (6, .int (Int32.ofNat i))] [.int (((28 : Int32) + ((2 : Int32) * (Int32.ofNat i))) + (1 : Int32)), .ref 71, .int (g 80 q)] g u (fun big n0 => sg_mo_36 big n0 g u wh a b (Int32.ofNat row) is (Int32.ofNat i) (g 80 q)) ?_
      refine q_iald (j := (29 + 2 * i)) (by rw [e28, q_succ, show 28 + 2 * i + 1 = 29 + 2 * i by omega]; exact q_ixn (by omega) (by omega)) rfl rfl ?_
      refine q_ic_ne rfl (fun (hc2 : (g 80 q) = (g 71 (29 + 2 * i))) => ?_) (fun (hc2 : ¬ ((g 80 q) = (g 71 (29 + 2 * i)))) => ?_)
      · refine q_step 5 84 [(0, .ref 70), (1, .int wh), (2, .int a), (3, .int b), (4, .int (Int32.ofNat row)), (5, .int (1 : Int32)), (6, .int ((Int32.ofNat i) + (1 : Int32)))] [] g u (fun big n0 => sg_mo_37 big n0 g u wh a b (Int32.ofNat row) is (Int32.ofNat i)) ?_
        have e : f_is r1 r (k + 1) i is = f_is r1 r k (i + 1) (1 : Int32) := by rw [f_is, if_neg hc1, if_pos (by rw [eq, q_nat (by omega), Int.toNat_natCast, ← h71, ← h80 q hq]; exact hc2)]
        rw [e] at hk
        rw [q_succ]
        exact ih (i + 1) _ (by omega) hk
      · refine q_step 4 84 [(0, .ref 70), (1, .int wh), (2, .int a), (3, .int b), (4, .int (Int32.ofNat row)), (5, .int (0 : Int32)), (6, .int ((Int32.ofNat i) + (1 : Int32)))] [] g u (fun big n0 => sg_mo_34 big n0 g u wh a b (Int32.ofNat row) is (Int32.ofNat i)) ?_
        have e : f_is r1 r (k + 1) i is = f_is r1 r k (i + 1) (0 : Int32) := by rw [f_is, if_neg hc1, if_neg (by rw [eq, q_nat (by omega), Int.toNat_natCast, ← h71, ← h80 q hq]; exact hc2)]
        rw [e] at hk
        rw [q_succ]
        exact ih (i + 1) _ (by omega) hk
theorem rm3_0 (u : qW) {n W H z : Nat} {r : qM} (h : w_ok n W H r) (hse : w_se n z r) (h6 : n ≤ 6) (h4n : 4 ^ n ≤ 4096) (h5 : n ≤ 5) : ∀ k row a b g, row + k = 4 ^ n → w_sm n (s_start g) r → g 71 = r 71 → q_EV m_214 24 [(0, .ref 70), (1, .int (0 : Int32)), (2, .int a), (3, .int b), (4, .int (Int32.ofNat row))] [] g u (w_po w_fr g (.int (s_ct (p_fit n z r) k row a))) := by
  intro k
  induction k with
  | zero =>
    intro row a b g hi hs h71
    refine q_step 3 30 [(0, .ref 70), (1, .int (0 : Int32)), (2, .int a), (3, .int b), (4, .int (Int32.ofNat row))] [.int (g 70 4), .int (Int32.ofNat row)] g u (fun big n0 => sg_mo_38 big n0 g u a b (Int32.ofNat row)) ?_
    refine q_call (M2 := 202) (rest := [.int (Int32.ofNat row)]) (b_rrows _ _ _) (fun _ _ => rfl) ?_
    refine q_ic_ge rfl (fun (hc0 : (s_rows (g 70 4)) ≤ (Int32.ofNat row)) => ?_) (fun hc0 => absurd (show (s_rows (g 70 4)) ≤ (Int32.ofNat row) from by rw [w_pl h hs, s_rows_n h6]; exact (q_le (by omega) (by omega)).mpr (by omega)) hc0)
    refine q_ret 5 (some (.int a), g, u) (fun _ _ => rfl) ?_
    exact ⟨g, u, rfl, w_fr_rfl g⟩
  | succ k ih =>
    intro row a b g hi hs h71
    refine q_step 3 30 [(0, .ref 70), (1, .int (0 : Int32)), (2, .int a), (3, .int b), (4, .int (Int32.ofNat row))] [.int (g 70 4), .int (Int32.ofNat row)] g u (fun big n0 => sg_mo_38 big n0 g u a b (Int32.ofNat row)) ?_
    refine q_call (M2 := 202) (rest := [.int (Int32.ofNat row)]) (b_rrows _ _ _) (fun _ _ => rfl) ?_
    refine q_ic_ge rfl (fun hc0 => absurd (show (s_rows (g 70 4)) ≤ (Int32.ofNat row) from hc0) (fun z => by rw [w_pl h hs, s_rows_n h6] at z; exact absurd ((q_le (by omega) (by omega)).mp z) (by omega))) (fun (hc0 : ¬ ((s_rows (g 70 4)) ≤ (Int32.ofNat row))) => ?_)
    refine q_step 1 37 [(0, .ref 70), (1, .int (0 : Int32)), (2, .int a), (3, .int b), (4, .int (Int32.ofNat row))] [.ref 70] g u (fun big n0 => sg_mo_39 big n0 g u a b (Int32.ofNat row)) ?_
    refine q_call (M2 := 172) (rest := []) (b_starts g u) (fun _ _ => rfl) ?_
    refine q_step 2 43 [(0, .ref 70), (1, .int (0 : Int32)), (2, .int a), (3, .int b), (4, .int (Int32.ofNat row)), (5, .int (0 : Int32))] [] (s_start g) u (fun big n0 => sg_mo_40 big n0 (s_start g) u a b (Int32.ofNat row)) ?_
    have key := rm1 g u (row := row) (wh := 0) (a := a) (b := b) (Q := w_po w_fr g (.int (s_ct (p_fit n z r) (k + 1) row a))) (w_pl h hs) h6 ?_ n 0 (by omega)
    · rw [s_row_0] at key
      exact key
    refine q_step 1 74 [(0, .ref 70), (1, .int (0 : Int32)), (2, .int a), (3, .int b), (4, .int (Int32.ofNat row)), (5, .int (Int32.ofNat n))] [.ref 70] (s_row_ 76 (f_md n row) n (s_start g)) u (fun big n0 => sg_mo_41 big n0 (s_row_ 76 (f_md n row) n (s_start g)) u a b (Int32.ofNat row) (Int32.ofNat n)) ?_
    refine q_call (M2 := 191) (rest := []) (c_rst u (w_ok_mo (row := row) h) (w_sm_mo hs)) (fun _ _ => rfl) ?_
    refine q_step 5 84 [(0, .ref 70), (1, .int (0 : Int32)), (2, .int a), (3, .int b), (4, .int (Int32.ofNat row)), (5, .int (1 : Int32)), (6, .int (0 : Int32))] [] (s_rst n (s_row_ 76 (f_md n row) n (s_start g))) u (fun big n0 => sg_mo_42 big n0 (s_rst n (s_row_ 76 (f_md n row) n (s_start g))) u a b (Int32.ofNat row) (Int32.ofNat n) (s_ran n (s_row_ 76 (f_md n row) n (s_start g)))) ?_
    have hwo := (w_sm_rst (w_ok_mo (row := row) h) (w_sm_mo hs)).2.1
    have hf : w_fr g (s_rst n (s_row_ 76 (f_md n row) n (s_start g))) := (s_start_fr.trans ⟨fun b hb => s_row_o (by omega), fun j _ => by rw [s_row_o (by omega)]⟩).trans s_rst_fr
    have h712 : (s_rst n (s_row_ 76 (f_md n row) n (s_start g))) 71 = r 71 := (hf.1 71 (by omega)).trans h71
    refine rm2 u h6 hse hse.2.1 h712 (fun q hq => (hwo q hq).2) z 0 1 (by omega) ?_
    rw [f_is_1, show (if n_fit (s_rst n (gh_mo n row r)) r z 0 = 0 then (0 : Int32) else 1) = p_fit n z r row from rfl]
    refine q_step 2 151 [(0, .ref 70), (1, .int (0 : Int32)), (2, .int a), (3, .int b), (4, .int (Int32.ofNat row)), (5, .int (p_fit n z r row)), (6, .int (Int32.ofNat z))] [.int (p_fit n z r row), .int a] (s_rst n (s_row_ 76 (f_md n row) n (s_start g))) u (fun big n0 => sg_mo_43 big n0 (s_rst n (s_row_ 76 (f_md n row) n (s_start g))) u a b (Int32.ofNat row) (p_fit n z r row) (Int32.ofNat z)) ?_
    by_cases hc0 : p_fit n z r row = 0
    · have hpf : p_fit n z r row = 0 := hc0
      refine q_call (M2 := 164) (rest := [.int a]) (by rw [hpf]; exact b_flag0 _ _) (fun _ _ => rfl) ?_
      refine q_step 4 159 [(0, .ref 70), (1, .int (0 : Int32)), (2, .int (a + (0 : Int32))), (3, .int b), (4, .int (Int32.ofNat row)), (5, .int (p_fit n z r row)), (6, .int (Int32.ofNat z))] [.int (p_fit n z r row), .int b] (s_rst n (s_row_ 76 (f_md n row) n (s_start g))) u (fun big n0 => sg_mo_44 big n0 (s_rst n (s_row_ 76 (f_md n row) n (s_start g))) u a b (Int32.ofNat row) (p_fit n z r row) (Int32.ofNat z) a) ?_
      refine q_if_eq rfl (fun (hc1 : (p_fit n z r row) = 0) => ?_) (fun hc1 => absurd (show (p_fit n z r row) = 0 from hc0) hc1)
      refine q_step 5 24 [(0, .ref 70), (1, .int (0 : Int32)), (2, .int (a + (0 : Int32))), (3, .int (b ||| (0 : Int32))), (4, .int ((Int32.ofNat row) + (1 : Int32))), (5, .int (p_fit n z r row)), (6, .int (Int32.ofNat z))] [] (s_rst n (s_row_ 76 (f_md n row) n (s_start g))) u (fun big n0 => sg_mo_45 big n0 (s_rst n (s_row_ 76 (f_md n row) n (s_start g))) u (a + (0 : Int32)) b (Int32.ofNat row) (p_fit n z r row) (Int32.ofNat z) b) ?_
      refine q_weak [(0, .ref 70), (1, .int (0 : Int32)), (2, .int (a + (0 : Int32))), (3, .int (b ||| (0 : Int32))), (4, .int ((Int32.ofNat row) + (1 : Int32)))] (q_sub.cons rfl (q_sub.cons rfl (q_sub.cons rfl (q_sub.cons rfl (q_sub.cons rfl q_sub.nil))))) ?_
      rw [q_succ, s_ct_s (P := p_fit n z r) (i := row) hpf]
      exact q_EV.imp (ih (row + 1) _ _ _ (by omega) (w_st_sm hf h5 hs) h712) (fun R z2 => w_po_r hf rfl z2)
    · have hpf : p_fit n z r row = 1 := (p_fit_01 n z r row).resolve_left hc0
      refine q_call (M2 := 164) (rest := [.int a]) (by rw [hpf]; exact b_flag1 _ _) (fun _ _ => rfl) ?_
      refine q_step 4 159 [(0, .ref 70), (1, .int (0 : Int32)), (2, .int (a + (1 : Int32))), (3, .int b), (4, .int (Int32.ofNat row)), (5, .int (p_fit n z r row)), (6, .int (Int32.ofNat z))] [.int (p_fit n z r row), .int b] (s_rst n (s_row_ 76 (f_md n row) n (s_start g))) u (fun big n0 => sg_mo_46 big n0 (s_rst n (s_row_ 76 (f_md n row) n (s_start g))) u a b (Int32.ofNat row) (p_fit n z r row) (Int32.ofNat z) a) ?_
      refine q_if_eq rfl (fun hc1 => absurd (show (p_fit n z r row) = 0 from hc1) (hc0)) (fun (hc1 : ¬ ((p_fit n z r row) = 0)) => ?_)
      refine q_step 8 24 [(0, .ref 70), (1, .int (0 : Int32)), (2, .int (a + (1 : Int32))), (3, .int (b ||| (0 : Int32))), (4, .int ((Int32.ofNat row) + (1 : Int32))), (5, .int (p_fit n z r row)), (6, .int (Int32.ofNat z))] [] (s_rst n (s_row_ 76 (f_md n row) n (s_start g))) u (fun big n0 => sg_mo_47 big n0 (s_rst n (s_row_ 76 (f_md n row) n (s_start g))) u (a + (1 : Int32)) b (Int32.ofNat row) (p_fit n z r row) (Int32.ofNat z) b) ?_
      refine q_weak [(0, .ref 70), (1, .int (0 : Int32)), (2, .int (a + (1 : Int32))), (3, .int (b ||| (0 : Int32))), (4, .int ((Int32.ofNat row) + (1 : Int32)))] (q_sub.cons rfl (q_sub.cons rfl (q_sub.cons rfl (q_sub.cons rfl (q_sub.cons rfl q_sub.nil))))) ?_
      rw [q_succ, s_ct_s (P := p_fit n z r) (i := row) hpf]
      exact q_EV.imp (ih (row + 1) _ _ _ (by omega) (w_st_sm hf h5 hs) h712) (fun R z2 => w_po_r hf rfl z2)
theorem r_moods0 {n W H : Nat} {g r : qM} (u : qW) (h : w_ok n W H r) (hs : w_sm n (s_start g) r) (h5 : n ≤ 5) {z : Nat} (hse : w_se n z r) (h71 : g 71 = r 71) : w_BS w_fr 214 [.ref 70, .int (0 : Int32)] g u (.int (f_mo0 n z r)) := by
  refine w_bs (mm := m_214) rfl (Nat.le_of_ble_eq_true rfl) rfl ?_
  refine q_step 8 24 [(0, .ref 70), (1, .int (0 : Int32)), (2, .int (0 : Int32)), (3, .int (0 : Int32)), (4, .int (0 : Int32))] [] g u (fun big n0 => sg_mo_48 big n0 g u) ?_
  exact rm3_0 u h hse (by omega) (s_4n (by omega)) h5 (4 ^ n) 0 0 0 g (by omega) hs h71
theorem rm3_1 (u : qW) {n W H z : Nat} {r : qM} (h : w_ok n W H r) (hse : w_se n z r) (h6 : n ≤ 6) (h4n : 4 ^ n ≤ 4096) {p : Nat} (hp : p < n) (h5 : n ≤ 5) : ∀ k row a b g, row + k = 4 ^ n → w_sm n (s_start g) r → g 71 = r 71 → q_EV m_214 24 [(0, .ref 70), (1, .int (Int32.ofNat (10 + p))), (2, .int a), (3, .int b), (4, .int (Int32.ofNat row))] [] g u (w_po w_fr g (.int (f_bm n p z r k row b))) := by
  intro k
  induction k with
  | zero =>
    intro row a b g hi hs h71
    refine q_step 3 30 [(0, .ref 70), (1, .int (Int32.ofNat (10 + p))), (2, .int a), (3, .int b), (4, .int (Int32.ofNat row))] [.int (g 70 4), .int (Int32.ofNat row)] g u (fun big n0 => sg_mo_49 big n0 g u (Int32.ofNat (10 + p)) a b (Int32.ofNat row)) ?_
    refine q_call (M2 := 202) (rest := [.int (Int32.ofNat row)]) (b_rrows _ _ _) (fun _ _ => rfl) ?_
    refine q_ic_ge rfl (fun (hc0 : (s_rows (g 70 4)) ≤ (Int32.ofNat row)) => ?_) (fun hc0 => absurd (show (s_rows (g 70 4)) ≤ (Int32.ofNat row) from by rw [w_pl h hs, s_rows_n h6]; exact (q_le (by omega) (by omega)).mpr (by omega)) hc0)
    refine q_step 1 193 [(0, .ref 70), (1, .int (Int32.ofNat (10 + p))), (2, .int a), (3, .int b), (4, .int (Int32.ofNat row))] [.int (Int32.ofNat (10 + p))] g u (fun big n0 => sg_mo_50 big n0 g u (Int32.ofNat (10 + p)) a b (Int32.ofNat row)) ?_
    refine q_if_ne rfl (fun hc1 => absurd (show (Int32.ofNat (10 + p)) = 0 from hc1) (fun z => absurd ((q_eq (i := 10 + p) (j := 0) (by omega) (by omega)).mp z) (by omega))) (fun (hc1 : ¬ ((Int32.ofNat (10 + p)) = 0)) => ?_)
    refine q_ret 2 (some (.int b), g, u) (fun _ _ => rfl) ?_
    exact ⟨g, u, rfl, w_fr_rfl g⟩
  | succ k ih =>
    intro row a b g hi hs h71
    refine q_step 3 30 [(0, .ref 70), (1, .int (Int32.ofNat (10 + p))), (2, .int a), (3, .int b), (4, .int (Int32.ofNat row))] [.int (g 70 4), .int (Int32.ofNat row)] g u (fun big n0 => sg_mo_49 big n0 g u (Int32.ofNat (10 + p)) a b (Int32.ofNat row)) ?_
    refine q_call (M2 := 202) (rest := [.int (Int32.ofNat row)]) (b_rrows _ _ _) (fun _ _ => rfl) ?_
    refine q_ic_ge rfl (fun hc0 => absurd (show (s_rows (g 70 4)) ≤ (Int32.ofNat row) from hc0) (fun z => by rw [w_pl h hs, s_rows_n h6] at z; exact absurd ((q_le (by omega) (by omega)).mp z) (by omega))) (fun (hc0 : ¬ ((s_rows (g 70 4)) ≤ (Int32.ofNat row))) => ?_)
    refine q_step 1 37 [(0, .ref 70), (1, .int (Int32.ofNat (10 + p))), (2, .int a), (3, .int b), (4, .int (Int32.ofNat row))] [.ref 70] g u (fun big n0 => sg_mo_51 big n0 g u (Int32.ofNat (10 + p)) a b (Int32.ofNat row)) ?_
    refine q_call (M2 := 172) (rest := []) (b_starts g u) (fun _ _ => rfl) ?_
    refine q_step 2 43 [(0, .ref 70), (1, .int (Int32.ofNat (10 + p))), (2, .int a), (3, .int b), (4, .int (Int32.ofNat row)), (5, .int (0 : Int32))] [] (s_start g) u (fun big n0 => sg_mo_52 big n0 (s_start g) u (Int32.ofNat (10 + p)) a b (Int32.ofNat row)) ?_
    have key := rm1 g u (row := row) (wh := Int32.ofNat (10 + p)) (a := a) (b := b) (Q := w_po w_fr g (.int (f_bm n p z r (k + 1) row b))) (w_pl h hs) h6 ?_ n 0 (by omega)
    · rw [s_row_0] at key
      exact key
    refine q_step 1 74 [(0, .ref 70), (1, .int (Int32.ofNat (10 + p))), (2, .int a), (3, .int b), (4, .int (Int32.ofNat row)), (5, .int (Int32.ofNat n))] [.ref 70] (s_row_ 76 (f_md n row) n (s_start g)) u (fun big n0 => sg_mo_53 big n0 (s_row_ 76 (f_md n row) n (s_start g)) u (Int32.ofNat (10 + p)) a b (Int32.ofNat row) (Int32.ofNat n)) ?_
    refine q_call (M2 := 191) (rest := []) (c_rst u (w_ok_mo (row := row) h) (w_sm_mo hs)) (fun _ _ => rfl) ?_
    refine q_step 5 84 [(0, .ref 70), (1, .int (Int32.ofNat (10 + p))), (2, .int a), (3, .int b), (4, .int (Int32.ofNat row)), (5, .int (1 : Int32)), (6, .int (0 : Int32))] [] (s_rst n (s_row_ 76 (f_md n row) n (s_start g))) u (fun big n0 => sg_mo_54 big n0 (s_rst n (s_row_ 76 (f_md n row) n (s_start g))) u (Int32.ofNat (10 + p)) a b (Int32.ofNat row) (Int32.ofNat n) (s_ran n (s_row_ 76 (f_md n row) n (s_start g)))) ?_
    have hwo := (w_sm_rst (w_ok_mo (row := row) h) (w_sm_mo hs)).2.1
    have hf : w_fr g (s_rst n (s_row_ 76 (f_md n row) n (s_start g))) := (s_start_fr.trans ⟨fun b hb => s_row_o (by omega), fun j _ => by rw [s_row_o (by omega)]⟩).trans s_rst_fr
    have h712 : (s_rst n (s_row_ 76 (f_md n row) n (s_start g))) 71 = r 71 := (hf.1 71 (by omega)).trans h71
    refine rm2 u h6 hse hse.2.1 h712 (fun q hq => (hwo q hq).2) z 0 1 (by omega) ?_
    rw [f_is_1, show (if n_fit (s_rst n (gh_mo n row r)) r z 0 = 0 then (0 : Int32) else 1) = p_fit n z r row from rfl]
    refine q_step 2 151 [(0, .ref 70), (1, .int (Int32.ofNat (10 + p))), (2, .int a), (3, .int b), (4, .int (Int32.ofNat row)), (5, .int (p_fit n z r row)), (6, .int (Int32.ofNat z))] [.int (p_fit n z r row), .int a] (s_rst n (s_row_ 76 (f_md n row) n (s_start g))) u (fun big n0 => sg_mo_55 big n0 (s_rst n (s_row_ 76 (f_md n row) n (s_start g))) u (Int32.ofNat (10 + p)) a b (Int32.ofNat row) (p_fit n z r row) (Int32.ofNat z)) ?_
    by_cases hc0 : p_fit n z r row = 0
    · have hpf : p_fit n z r row = 0 := hc0
      refine q_call (M2 := 164) (rest := [.int a]) (by rw [hpf]; exact b_flag0 _ _) (fun _ _ => rfl) ?_
      refine q_step 4 159 [(0, .ref 70), (1, .int (Int32.ofNat (10 + p))), (2, .int (a + (0 : Int32))), (3, .int b), (4, .int (Int32.ofNat row)), (5, .int (p_fit n z r row)), (6, .int (Int32.ofNat z))] [.int (p_fit n z r row), .int b] (s_rst n (s_row_ 76 (f_md n row) n (s_start g))) u (fun big n0 => sg_mo_56 big n0 (s_rst n (s_row_ 76 (f_md n row) n (s_start g))) u (Int32.ofNat (10 + p)) a b (Int32.ofNat row) (p_fit n z r row) (Int32.ofNat z) a) ?_
      refine q_if_eq rfl (fun (hc1 : (p_fit n z r row) = 0) => ?_) (fun hc1 => absurd (show (p_fit n z r row) = 0 from hc0) hc1)
      refine q_step 5 24 [(0, .ref 70), (1, .int (Int32.ofNat (10 + p))), (2, .int (a + (0 : Int32))), (3, .int (b ||| (0 : Int32))), (4, .int ((Int32.ofNat row) + (1 : Int32))), (5, .int (p_fit n z r row)), (6, .int (Int32.ofNat z))] [] (s_rst n (s_row_ 76 (f_md n row) n (s_start g))) u (fun big n0 => sg_mo_57 big n0 (s_rst n (s_row_ 76 (f_md n row) n (s_start g))) u (Int32.ofNat (10 + p)) (a + (0 : Int32)) b (Int32.ofNat row) (p_fit n z r row) (Int32.ofNat z) b) ?_
      refine q_weak [(0, .ref 70), (1, .int (Int32.ofNat (10 + p))), (2, .int (a + (0 : Int32))), (3, .int (b ||| (0 : Int32))), (4, .int ((Int32.ofNat row) + (1 : Int32)))] (q_sub.cons rfl (q_sub.cons rfl (q_sub.cons rfl (q_sub.cons rfl (q_sub.cons rfl q_sub.nil))))) ?_
      rw [q_succ, f_bm, if_pos hc0, s_or00]
      exact q_EV.imp (ih (row + 1) _ _ _ (by omega) (w_st_sm hf h5 hs) h712) (fun R z2 => w_po_r hf rfl z2)
    · have hpf : p_fit n z r row = 1 := (p_fit_01 n z r row).resolve_left hc0
      refine q_call (M2 := 164) (rest := [.int a]) (by rw [hpf]; exact b_flag1 _ _) (fun _ _ => rfl) ?_
      refine q_step 4 159 [(0, .ref 70), (1, .int (Int32.ofNat (10 + p))), (2, .int (a + (1 : Int32))), (3, .int b), (4, .int (Int32.ofNat row)), (5, .int (p_fit n z r row)), (6, .int (Int32.ofNat z))] [.int (p_fit n z r row), .int b] (s_rst n (s_row_ 76 (f_md n row) n (s_start g))) u (fun big n0 => sg_mo_58 big n0 (s_rst n (s_row_ 76 (f_md n row) n (s_start g))) u (Int32.ofNat (10 + p)) a b (Int32.ofNat row) (p_fit n z r row) (Int32.ofNat z) a) ?_
      refine q_if_eq rfl (fun hc1 => absurd (show (p_fit n z r row) = 0 from hc1) (hc0)) (fun (hc1 : ¬ ((p_fit n z r row) = 0)) => ?_)
      refine q_step 2 165 [(0, .ref 70), (1, .int (Int32.ofNat (10 + p))), (2, .int (a + (1 : Int32))), (3, .int b), (4, .int (Int32.ofNat row)), (5, .int (p_fit n z r row)), (6, .int (Int32.ofNat z))] [.int (10 : Int32), .int (Int32.ofNat (10 + p)), .int b] (s_rst n (s_row_ 76 (f_md n row) n (s_start g))) u (fun big n0 => sg_mo_59 big n0 (s_rst n (s_row_ 76 (f_md n row) n (s_start g))) u (Int32.ofNat (10 + p)) (a + (1 : Int32)) b (Int32.ofNat row) (p_fit n z r row) (Int32.ofNat z) b) ?_
      refine q_ic_lt rfl (fun hc2 => absurd (show (Int32.ofNat (10 + p)) < (10 : Int32) from hc2) (fun z => absurd ((q_lt (i := 10 + p) (j := 10) (by omega) (by omega)).mp z) (by omega))) (fun (hc2 : ¬ ((Int32.ofNat (10 + p)) < (10 : Int32))) => ?_)
      refine q_step 6 176 [(0, .ref 70), (1, .int (Int32.ofNat (10 + p))), (2, .int (a + (1 : Int32))), (3, .int b), (4, .int (Int32.ofNat row)), (5, .int (p_fit n z r row)), (6, .int (Int32.ofNat z))] [.int ((Int32.ofNat (10 + p)) - (10 : Int32)), .int (Int32.ofNat row), .ref 70, .int (1 : Int32), .int b] (s_rst n (s_row_ 76 (f_md n row) n (s_start g))) u (fun big n0 => sg_mo_60 big n0 (s_rst n (s_row_ 76 (f_md n row) n (s_start g))) u (Int32.ofNat (10 + p)) (a + (1 : Int32)) b (Int32.ofNat row) (p_fit n z r row) (Int32.ofNat z) b) ?_
      have hmb := b_mby (Int32.ofNat row) ((Int32.ofNat (10 + p)) - (10 : Int32)) (s_rst n (s_row_ 76 (f_md n row) n (s_start g))) u
      rw [show (Int32.ofNat (10 + p)) - (10 : Int32) = Int32.ofNat p from by rw [show (10 : Int32) = Int32.ofNat 10 from rfl, q_sb (by omega) (by omega)]; congr 1; omega, show s_dg (Int32.ofNat row) ((s_rst n (s_row_ 76 (f_md n row) n (s_start g))) 70 4) (Int32.ofNat p) = f_md n row p from by rw [hf.2 4 (by omega), w_pl h hs]; rfl] at hmb
      refine q_call (M2 := 203) (rest := [.int (1 : Int32), .int b]) (by rw [show (Int32.ofNat (10 + p)) - (10 : Int32) = Int32.ofNat p from by rw [show (10 : Int32) = Int32.ofNat 10 from rfl, q_sb (by omega) (by omega)]; congr 1; omega]; exact hmb) (fun _ _ => rfl) ?_
      refine q_step 6 24 [(0, .ref 70), (1, .int (Int32.ofNat (10 + p))), (2, .int (a + (1 : Int32))), (3, .int (b ||| ((1 : Int32) <<< ((f_md n row p) &&& 31)))), (4, .int ((Int32.ofNat row) + (1 : Int32))), (5, .int (p_fit n z r row)), (6, .int (Int32.ofNat z))] [] (s_rst n (s_row_ 76 (f_md n row) n (s_start g))) u (fun big n0 => sg_mo_61 big n0 (s_rst n (s_row_ 76 (f_md n row) n (s_start g))) u (Int32.ofNat (10 + p)) (a + (1 : Int32)) b (Int32.ofNat row) (p_fit n z r row) (Int32.ofNat z) b (f_md n row p)) ?_
      refine q_weak [(0, .ref 70), (1, .int (Int32.ofNat (10 + p))), (2, .int (a + (1 : Int32))), (3, .int (b ||| ((1 : Int32) <<< ((f_md n row p) &&& 31)))), (4, .int ((Int32.ofNat row) + (1 : Int32)))] (q_sub.cons rfl (q_sub.cons rfl (q_sub.cons rfl (q_sub.cons rfl (q_sub.cons rfl q_sub.nil))))) ?_
      rw [q_succ, f_bm, if_neg hc0]
      exact q_EV.imp (ih (row + 1) _ _ _ (by omega) (w_st_sm hf h5 hs) h712) (fun R z2 => w_po_r hf rfl z2)
theorem r_moods1 {n W H : Nat} {g r : qM} (u : qW) (h : w_ok n W H r) (hs : w_sm n (s_start g) r) (h5 : n ≤ 5) {z : Nat} (hse : w_se n z r) (h71 : g 71 = r 71) {p : Nat} (hp : p < n) : w_BS w_fr 214 [.ref 70, .int (Int32.ofNat (10 + p))] g u (.int (f_mop n p z r)) := by
  refine w_bs (mm := m_214) rfl (Nat.le_of_ble_eq_true rfl) rfl ?_
  refine q_step 1 1 [(0, .ref 70), (1, .int (Int32.ofNat (10 + p)))] [.int (Int32.ofNat (10 + p))] g u (fun big n0 => sg_mo_62 big n0 g u (Int32.ofNat (10 + p))) ?_
  refine q_if_eq rfl (fun hc0 => absurd (show (Int32.ofNat (10 + p)) = 0 from hc0) (fun z => absurd ((q_eq (i := 10 + p) (j := 0) (by omega) (by omega)).mp z) (by omega))) (fun (hc0 : ¬ ((Int32.ofNat (10 + p)) = 0)) => ?_)
  refine q_step 4 9 [(0, .ref 70), (1, .int (Int32.ofNat (10 + p)))] [.int ((Int32.ofNat (10 + p)) - (10 : Int32)), .ref 70] g u (fun big n0 => sg_mo_63 big n0 g u (Int32.ofNat (10 + p))) ?_
  refine q_call (M2 := 169) (rest := []) (by rw [show (Int32.ofNat (10 + p)) - (10 : Int32) = Int32.ofNat p from by rw [show (10 : Int32) = Int32.ofNat 10 from rfl, q_sb (by omega) (by omega)]; congr 1; omega]; exact b_risOne1 g u (w_pl h hs) (by omega) hp) (fun _ _ => rfl) ?_
  refine q_step 7 24 [(0, .ref 70), (1, .int (Int32.ofNat (10 + p))), (2, .int (0 : Int32)), (3, .int (0 : Int32)), (4, .int (0 : Int32))] [] g u (fun big n0 => sg_mo_64 big n0 g u (Int32.ofNat (10 + p))) ?_
  exact rm3_1 u h hse (by omega) (s_4n (by omega)) hp h5 (4 ^ n) 0 0 0 g (by omega) hs h71
end
section
/-! CROWD. -/
def n_sd (x : Int32) : Nat := ((x >>> ((16 : Int32) &&& 31)) &&& (32767 : Int32)).toInt.toNat
theorem s_i32n {x : Int32} {M : Nat} (hM : M < 2147483648) (h : x.toBitVec.toNat ≤ M) : x = Int32.ofNat x.toInt.toNat ∧ x.toInt.toNat ≤ M := by
  have e : x.toInt = (x.toBitVec.toNat : Int) := by
    show x.toBitVec.toInt = _
    exact BitVec.toInt_eq_toNat_of_lt (by omega)
  refine ⟨?_, by omega⟩
  apply q_inj
  rw [Int32.toInt_ofNat_of_lt (by omega)]
  omega
theorem s_sd_ok (x : Int32) : (x >>> ((16 : Int32) &&& 31)) &&& (32767 : Int32) = Int32.ofNat (n_sd x) ∧ n_sd x ≤ 32767 := s_i32n (by omega) (by
  show (_ &&& 32767#32).toNat ≤ 32767
  rw [BitVec.toNat_and]
  exact Nat.and_le_right)
theorem s_m15 : (List.range 32).all (fun i => decide ((32767#32).getLsbD i = decide (i < 15))) = true := by decide +kernel
theorem s_sd_u (x : Int32) : (UInt32.toInt32 (Int32.toUInt32 x >>> (Int32.toUInt32 (16 : Int32) &&& Int32.toUInt32 31))) &&& (32767 : Int32) = (x >>> ((16 : Int32) &&& 31)) &&& (32767 : Int32) := by
  apply Int32.toBitVec_inj.mp
  show (x.toBitVec >>> (16 : Nat)) &&& 32767#32 = (x.toBitVec.sshiftRight 16) &&& 32767#32
  apply BitVec.eq_of_getLsbD_eq
  intro i hi
  rw [BitVec.getLsbD_and, BitVec.getLsbD_and]
  have hm : (32767#32).getLsbD i = decide (i < 15) := of_decide_eq_true (List.all_eq_true.mp s_m15 i (List.mem_range.mpr hi))
  rw [hm]
  by_cases h : i < 15
  · rw [decide_eq_true h, Bool.and_true, Bool.and_true, BitVec.getLsbD_ushiftRight, BitVec.getLsbD_sshiftRight]
    rw [if_pos (by omega)]
    simp [show ¬ 32 ≤ i by omega]
  · rw [decide_eq_false h, Bool.and_false, Bool.and_false]
theorem cr_ix {x N : Int32} {n : Nat} (hn : N = Int32.ofNat n) (hn1 : 1 ≤ n) (h6 : n ≤ 6) : q_ix (((x >>> ((16 : Int32) &&& 31)) &&& (32767 : Int32)) - ((x >>> ((16 : Int32) &&& 31)) &&& (32767 : Int32)) / N * N) (n_sd x % n) 6 := by
  obtain ⟨e, h⟩ := s_sd_ok x
  rw [e, hn, q_rem (by omega) (by omega)]
  have := Nat.mod_lt (n_sd x) (show 0 < n by omega)
  exact q_ixn (by omega) (by omega)
theorem cr_ixu {x N : Int32} {n : Nat} (hn : N = Int32.ofNat n) (hn1 : 1 ≤ n) (h6 : n ≤ 6) : q_ix (((UInt32.toInt32 (Int32.toUInt32 x >>> (Int32.toUInt32 (16 : Int32) &&& Int32.toUInt32 31))) &&& (32767 : Int32)) - ((UInt32.toInt32 (Int32.toUInt32 x >>> (Int32.toUInt32 (16 : Int32) &&& Int32.toUInt32 31))) &&& (32767 : Int32)) / N * N) (n_sd x % n) 6 := by
  rw [s_sd_u]
  exact cr_ix hn hn1 h6
/-- the next MOOD -/
def s_mo1 (x : Int32) : Int32 := (x + 1) &&& 3
theorem s_mo1_4 (x : Int32) : s_mo1 x = 0 ∨ s_mo1 x = 1 ∨ s_mo1 x = 2 ∨ s_mo1 x = 3 := s_and3 _
theorem s_mo1_r {x : Int32} (h : x = 0 ∨ x = 1 ∨ x = 2 ∨ x = 3) : (x + 1) - (x + 1) / 4 * 4 = s_mo1 x := by
  rcases h with e | e | e | e <;> subst e <;> decide +kernel
def p_wt (r : qM) (q : Nat) : Int32 := if r 80 q = 4 then 0 else 1
/-- one more round: the seed s, r behind it -/
def f_cs (s : Int32) : Int32 := s * (1103515245 : Int32) + (12345 : Int32)
def gh_cr (n : Nat) (s : Int32) (r : qM) : qM := q_up r 76 (n_sd (f_cs s) % n) (s_mo1 (r 76 (n_sd (f_cs s) % n)))
def f_cw (n : Nat) : Nat → Int32 → Int32 → qM → Int32
  | 0, _, a, _ => a
  | k + 1, s, a, r => f_cw n k (f_cs s) (s_ct (p_wt (s_rst n (gh_cr n s r))) n 0 a) (s_rst n (gh_cr n s r))
theorem s_ct_add {P : Nat → Int32} : ∀ k i a, s_ct P k i a = a + s_ct P k i 0
  | 0, _, a => (Int32.add_zero a).symm
  | k + 1, i, a => by
    rw [s_ct, s_ct, s_ct_add k (i + 1) (a + P i), s_ct_add k (i + 1) (0 + P i), Int32.zero_add, Int32.add_assoc]
/-- who went, as a number -/
theorem s_orb_fin : (List.range 6).all (fun i => (List.range 64).all (fun v => decide (2 ^ i ≤ v) || decide (Int32.ofNat v ||| ((1 : Int32) <<< (Int32.ofNat i &&& 31)) = Int32.ofNat (v + 2 ^ i)))) = true := by decide +kernel
theorem s_orb {i v : Nat} (hi : i < 6) (hv : v < 2 ^ i) : Int32.ofNat v ||| ((1 : Int32) <<< (Int32.ofNat i &&& 31)) = Int32.ofNat (v + 2 ^ i) := by
  have h5 : 2 ^ i ≤ 2 ^ 5 := Nat.pow_le_pow_right (by omega) (by omega)
  have h := List.all_eq_true.mp (List.all_eq_true.mp s_orb_fin i (List.mem_range.mpr hi)) v (List.mem_range.mpr (by have : (2 : Nat) ^ 5 = 32 := rfl; omega))
  rw [Bool.or_eq_true] at h
  rcases h with h | h
  · exact absurd (of_decide_eq_true h) (by omega)
  · exact of_decide_eq_true h
theorem s_mv_w {w h : Int32} {wy : Nat → Int32} : ∀ k i c X Y t v, i + k ≤ 6 → v < 2 ^ i → ∃ v', v' < 2 ^ (i + k) ∧ (s_mv w h wy k i c X Y t (Int32.ofNat v)).2.2.2.2 = Int32.ofNat v'
  | 0, i, _, _, _, _, v, _, hv => ⟨v, hv, rfl⟩
  | k + 1, i, c, X, Y, t, v, hk, hv => by
    have hp : 2 ^ (i + 1) = 2 ^ i + 2 ^ i := by rw [Nat.pow_succ]; omega
    by_cases hg : s_gc w h (wy i) (X i) (Y i) t
    · rw [s_mv_go hg, s_orb (by omega) hv]
      obtain ⟨v', h1, h2⟩ := s_mv_w (w := w) (h := h) (wy := wy) k (i + 1) (s_set c i ((Y i + s_cy (wy i)) * w + (X i + s_cx (wy i)))) (s_set X i (X i + s_cx (wy i))) (s_set Y i (Y i + s_cy (wy i))) ((t &&& (((1 : Int32) <<< (c i &&& 31)) ^^^ Int32.ofInt (-1))) ||| ((1 : Int32) <<< (((Y i + s_cy (wy i)) * w + (X i + s_cx (wy i))) &&& 31))) (v + 2 ^ i) (by omega) (by omega)
      exact ⟨v', by rw [show i + (k + 1) = i + 1 + k by omega]; exact h1, h2⟩
    · rw [s_mv_no hg]
      obtain ⟨v', h1, h2⟩ := s_mv_w (w := w) (h := h) (wy := wy) k (i + 1) c X Y t v (by omega) (by omega)
      exact ⟨v', by rw [show i + (k + 1) = i + 1 + k by omega]; exact h1, h2⟩
theorem s_went {n : Nat} (h6 : n ≤ 6) (g : qM) : ∃ v, v < 2 ^ n ∧ s_step 35 n g 28 5 = Int32.ofNat v := by
  obtain ⟨v, h1, h2⟩ := s_mv_w (w := s_wg 35 n g 35 0) (h := s_wg 35 n g 35 1) (wy := s_wg 35 n g 33) n 0 (s_wg 35 n g (35 + 1)) (s_wg 35 n g 29) (s_wg 35 n g 30) (s_tk (s_wg 35 n g (35 + 1)) n 0 (s_wg 35 n g 35 2)) 0 (by omega) (by rw [Nat.pow_zero]; omega)
  rw [Nat.zero_add] at h1
  exact ⟨v, h1, h2⟩
theorem sg_cw_1 (big : Nat → List Value → qM → qW → qR) (n0 : Nat) (G : qM) (U : qW) (v0 : Int32) : qm_run pm_m big m_127 (n0 + 40) 0 [(0, .int v0)] [] G U = qm_run pm_m big m_127 n0 51 [(0, .int (((((((v0 - ((UInt32.toInt32 (Int32.toUInt32 v0 >>> (Int32.toUInt32 (1 : Int32) &&& Int32.toUInt32 31))) &&& (1431655765 : Int32))) &&& (858993459 : Int32)) + ((UInt32.toInt32 (Int32.toUInt32 (v0 - ((UInt32.toInt32 (Int32.toUInt32 v0 >>> (Int32.toUInt32 (1 : Int32) &&& Int32.toUInt32 31))) &&& (1431655765 : Int32))) >>> (Int32.toUInt32 (2 : Int32) &&& Int32.toUInt32 31))) &&& (858993459 : Int32))) + (UInt32.toInt32 (Int32.toUInt32 (((v0 - ((UInt32.toInt32 (Int32.toUInt32 v0 >>> (Int32.toUInt32 (1 : Int32) &&& Int32.toUInt32 31))) &&& (1431655765 : Int32))) &&& (858993459 : Int32)) + ((UInt32.toInt32 (Int32.toUInt32 (v0 - ((UInt32.toInt32 (Int32.toUInt32 v0 >>> (Int32.toUInt32 (1 : Int32) &&& Int32.toUInt32 31))) &&& (1431655765 : Int32))) >>> (Int32.toUInt32 (2 : Int32) &&& Int32.toUInt32 31))) &&& (858993459 : Int32))) >>> (Int32.toUInt32 (4 : Int32) &&& Int32.toUInt32 31)))) &&& (252645135 : Int32)) + (UInt32.toInt32 (Int32.toUInt32 (((((v0 - ((UInt32.toInt32 (Int32.toUInt32 v0 >>> (Int32.toUInt32 (1 : Int32) &&& Int32.toUInt32 31))) &&& (1431655765 : Int32))) &&& (858993459 : Int32)) + ((UInt32.toInt32 (Int32.toUInt32 (v0 - ((UInt32.toInt32 (Int32.toUInt32 v0 >>> (Int32.toUInt32 (1 : Int32) &&& Int32.toUInt32 31))) &&& (1431655765 : Int32))) >>> (Int32.toUInt32 (2 : Int32) &&& Int32.toUInt32 31))) &&& (858993459 : Int32))) + (UInt32.toInt32 (Int32.toUInt32 (((v0 - ((UInt32.toInt32 (Int32.toUInt32 v0 >>> (Int32.toUInt32 (1 : Int32) &&& Int32.toUInt32 31))) &&& (1431655765 : Int32))) &&& (858993459 : Int32)) + ((UInt32.toInt32 (Int32.toUInt32 (v0 - ((UInt32.toInt32 (Int32.toUInt32 v0 >>> (Int32.toUInt32 (1 : Int32) &&& Int32.toUInt32 31))) &&& (1431655765 : Int32))) >>> (Int32.toUInt32 (2 : Int32) &&& Int32.toUInt32 31))) &&& (858993459 : Int32))) >>> (Int32.toUInt32 (4 : Int32) &&& Int32.toUInt32 31)))) &&& (252645135 : Int32)) >>> (Int32.toUInt32 (8 : Int32) &&& Int32.toUInt32 31)))) + (UInt32.toInt32 (Int32.toUInt32 ((((((v0 - ((UInt32.toInt32 (Int32.toUInt32 v0 >>> (Int32.toUInt32 (1 : Int32) &&& Int32.toUInt32 31))) &&& (1431655765 : Int32))) &&& (858993459 : Int32)) + ((UInt32.toInt32 (Int32.toUInt32 (v0 - ((UInt32.toInt32 (Int32.toUInt32 v0 >>> (Int32.toUInt32 (1 : Int32) &&& Int32.toUInt32 31))) &&& (1431655765 : Int32))) >>> (Int32.toUInt32 (2 : Int32) &&& Int32.toUInt32 31))) &&& (858993459 : Int32))) + (UInt32.toInt32 (Int32.toUInt32 (((v0 - ((UInt32.toInt32 (Int32.toUInt32 v0 >>> (Int32.toUInt32 (1 : Int32) &&& Int32.toUInt32 31))) &&& (1431655765 : Int32))) &&& (858993459 : Int32)) + ((UInt32.toInt32 (Int32.toUInt32 (v0 - ((UInt32.toInt32 (Int32.toUInt32 v0 >>> (Int32.toUInt32 (1 : Int32) &&& Int32.toUInt32 31))) &&& (1431655765 : Int32))) >>> (Int32.toUInt32 (2 : Int32) &&& Int32.toUInt32 31))) &&& (858993459 : Int32))) >>> (Int32.toUInt32 (4 : Int32) &&& Int32.toUInt32 31)))) &&& (252645135 : Int32)) + (UInt32.toInt32 (Int32.toUInt32 (((((v0 - ((UInt32.toInt32 (Int32.toUInt32 v0 >>> (Int32.toUInt32 (1 : Int32) &&& Int32.toUInt32 31))) &&& (1431655765 : Int32))) &&& (858993459 : Int32)) + ((UInt32.toInt32 (Int32.toUInt32 (v0 - ((UInt32.toInt32 (Int32.toUInt32 v0 >>> (Int32.toUInt32 (1 : Int32) &&& Int32.toUInt32 31))) &&& (1431655765 : Int32))) >>> (Int32.toUInt32 (2 : Int32) &&& Int32.toUInt32 31))) &&& (858993459 : Int32))) + (UInt32.toInt32 (Int32.toUInt32 (((v0 - ((UInt32.toInt32 (Int32.toUInt32 v0 >>> (Int32.toUInt32 (1 : Int32) &&& Int32.toUInt32 31))) &&& (1431655765 : Int32))) &&& (858993459 : Int32)) + ((UInt32.toInt32 (Int32.toUInt32 (v0 - ((UInt32.toInt32 (Int32.toUInt32 v0 >>> (Int32.toUInt32 (1 : Int32) &&& Int32.toUInt32 31))) &&& (1431655765 : Int32))) >>> (Int32.toUInt32 (2 : Int32) &&& Int32.toUInt32 31))) &&& (858993459 : Int32))) >>> (Int32.toUInt32 (4 : Int32) &&& Int32.toUInt32 31)))) &&& (252645135 : Int32)) >>> (Int32.toUInt32 (8 : Int32) &&& Int32.toUInt32 31)))) >>> (Int32.toUInt32 (16 : Int32) &&& Int32.toUInt32 31)))))] [.int (63 : Int32), .int (((((((v0 - ((UInt32.toInt32 (Int32.toUInt32 v0 >>> (Int32.toUInt32 (1 : Int32) &&& Int32.toUInt32 31))) &&& (1431655765 : Int32))) &&& (858993459 : Int32)) + ((UInt32.toInt32 (Int32.toUInt32 (v0 - ((UInt32.toInt32 (Int32.toUInt32 v0 >>> (Int32.toUInt32 (1 : Int32) &&& Int32.toUInt32 31))) &&& (1431655765 : Int32))) >>> (Int32.toUInt32 (2 : Int32) &&& Int32.toUInt32 31))) &&& (858993459 : Int32))) + (UInt32.toInt32 (Int32.toUInt32 (((v0 - ((UInt32.toInt32 (Int32.toUInt32 v0 >>> (Int32.toUInt32 (1 : Int32) &&& Int32.toUInt32 31))) &&& (1431655765 : Int32))) &&& (858993459 : Int32)) + ((UInt32.toInt32 (Int32.toUInt32 (v0 - ((UInt32.toInt32 (Int32.toUInt32 v0 >>> (Int32.toUInt32 (1 : Int32) &&& Int32.toUInt32 31))) &&& (1431655765 : Int32))) >>> (Int32.toUInt32 (2 : Int32) &&& Int32.toUInt32 31))) &&& (858993459 : Int32))) >>> (Int32.toUInt32 (4 : Int32) &&& Int32.toUInt32 31)))) &&& (252645135 : Int32)) + (UInt32.toInt32 (Int32.toUInt32 (((((v0 - ((UInt32.toInt32 (Int32.toUInt32 v0 >>> (Int32.toUInt32 (1 : Int32) &&& Int32.toUInt32 31))) &&& (1431655765 : Int32))) &&& (858993459 : Int32)) + ((UInt32.toInt32 (Int32.toUInt32 (v0 - ((UInt32.toInt32 (Int32.toUInt32 v0 >>> (Int32.toUInt32 (1 : Int32) &&& Int32.toUInt32 31))) &&& (1431655765 : Int32))) >>> (Int32.toUInt32 (2 : Int32) &&& Int32.toUInt32 31))) &&& (858993459 : Int32))) + (UInt32.toInt32 (Int32.toUInt32 (((v0 - ((UInt32.toInt32 (Int32.toUInt32 v0 >>> (Int32.toUInt32 (1 : Int32) &&& Int32.toUInt32 31))) &&& (1431655765 : Int32))) &&& (858993459 : Int32)) + ((UInt32.toInt32 (Int32.toUInt32 (v0 - ((UInt32.toInt32 (Int32.toUInt32 v0 >>> (Int32.toUInt32 (1 : Int32) &&& Int32.toUInt32 31))) &&& (1431655765 : Int32))) >>> (Int32.toUInt32 (2 : Int32) &&& Int32.toUInt32 31))) &&& (858993459 : Int32))) >>> (Int32.toUInt32 (4 : Int32) &&& Int32.toUInt32 31)))) &&& (252645135 : Int32)) >>> (Int32.toUInt32 (8 : Int32) &&& Int32.toUInt32 31)))) + (UInt32.toInt32 (Int32.toUInt32 ((((((v0 - ((UInt32.toInt32 (Int32.toUInt32 v0 >>> (Int32.toUInt32 (1 : Int32) &&& Int32.toUInt32 31))) &&& (1431655765 : Int32))) &&& (858993459 : Int32)) + ((UInt32.toInt32 (Int32.toUInt32 (v0 - ((UInt32.toInt32 (Int32.toUInt32 v0 >>> (Int32.toUInt32 (1 : Int32) &&& Int32.toUInt32 31))) &&& (1431655765 : Int32))) >>> (Int32.toUInt32 (2 : Int32) &&& Int32.toUInt32 31))) &&& (858993459 : Int32))) + (UInt32.toInt32 (Int32.toUInt32 (((v0 - ((UInt32.toInt32 (Int32.toUInt32 v0 >>> (Int32.toUInt32 (1 : Int32) &&& Int32.toUInt32 31))) &&& (1431655765 : Int32))) &&& (858993459 : Int32)) + ((UInt32.toInt32 (Int32.toUInt32 (v0 - ((UInt32.toInt32 (Int32.toUInt32 v0 >>> (Int32.toUInt32 (1 : Int32) &&& Int32.toUInt32 31))) &&& (1431655765 : Int32))) >>> (Int32.toUInt32 (2 : Int32) &&& Int32.toUInt32 31))) &&& (858993459 : Int32))) >>> (Int32.toUInt32 (4 : Int32) &&& Int32.toUInt32 31)))) &&& (252645135 : Int32)) + (UInt32.toInt32 (Int32.toUInt32 (((((v0 - ((UInt32.toInt32 (Int32.toUInt32 v0 >>> (Int32.toUInt32 (1 : Int32) &&& Int32.toUInt32 31))) &&& (1431655765 : Int32))) &&& (858993459 : Int32)) + ((UInt32.toInt32 (Int32.toUInt32 (v0 - ((UInt32.toInt32 (Int32.toUInt32 v0 >>> (Int32.toUInt32 (1 : Int32) &&& Int32.toUInt32 31))) &&& (1431655765 : Int32))) >>> (Int32.toUInt32 (2 : Int32) &&& Int32.toUInt32 31))) &&& (858993459 : Int32))) + (UInt32.toInt32 (Int32.toUInt32 (((v0 - ((UInt32.toInt32 (Int32.toUInt32 v0 >>> (Int32.toUInt32 (1 : Int32) &&& Int32.toUInt32 31))) &&& (1431655765 : Int32))) &&& (858993459 : Int32)) + ((UInt32.toInt32 (Int32.toUInt32 (v0 - ((UInt32.toInt32 (Int32.toUInt32 v0 >>> (Int32.toUInt32 (1 : Int32) &&& Int32.toUInt32 31))) &&& (1431655765 : Int32))) >>> (Int32.toUInt32 (2 : Int32) &&& Int32.toUInt32 31))) &&& (858993459 : Int32))) >>> (Int32.toUInt32 (4 : Int32) &&& Int32.toUInt32 31)))) &&& (252645135 : Int32)) >>> (Int32.toUInt32 (8 : Int32) &&& Int32.toUInt32 31)))) >>> (Int32.toUInt32 (16 : Int32) &&& Int32.toUInt32 31))))] G U := rfl
theorem sg_cw_2 (big : Nat → List Value → qM → qW → qR) (n0 : Nat) (G : qM) (U : qW) (v0 : Int32) (v1 : Int32) (v2 : Int32) (v3 : Int32) (v4 : Int32) : qm_run pm_m big m_126 (n0 + 2) 28 [(0, .ref 34), (1, .ref 20), (2, .int v0), (3, .int v1), (4, .int v2), (5, .int v3), (6, .int v4)] [] G U = qm_run pm_m big m_126 n0 31 [(0, .ref 34), (1, .ref 20), (2, .int v0), (3, .int v1), (4, .int v2), (5, .int v3), (6, .int v4)] [.int v1, .int v4] G U := rfl
theorem sg_cw_3 (big : Nat → List Value → qM → qW → qR) (n0 : Nat) (G : qM) (U : qW) (v0 : Int32) (v1 : Int32) (v2 : Int32) (v3 : Int32) (v4 : Int32) : qm_run pm_m big m_126 (n0 + 13) 34 [(0, .ref 34), (1, .ref 20), (2, .int v0), (3, .int v1), (4, .int v2), (5, .int v3), (6, .int v4)] [] G U = qm_run pm_m big m_126 n0 58 [(0, .ref 34), (1, .ref 20), (2, .int v0), (3, .int v1), (4, .int ((v2 * (1103515245 : Int32)) + (12345 : Int32))), (5, .int v3), (6, .int v4)] [.int (G 20 3), .int ((UInt32.toInt32 (Int32.toUInt32 ((v2 * (1103515245 : Int32)) + (12345 : Int32)) >>> (Int32.toUInt32 (16 : Int32) &&& Int32.toUInt32 31))) &&& (32767 : Int32))] G U := rfl
theorem sg_cw_4 (big : Nat → List Value → qM → qW → qR) (n0 : Nat) (G : qM) (U : qW) (v0 : Int32) (v1 : Int32) (v2 : Int32) (v3 : Int32) (v4 : Int32) (v5 : Int32) : qm_run pm_m big m_126 (n0 + 9) 59 [(0, .ref 34), (1, .ref 20), (2, .int v0), (3, .int v1), (4, .int v2), (5, .int v3), (6, .int v4)] [.int v5] G U = qm_run pm_m big m_126 n0 79 [(0, .ref 34), (1, .ref 20), (2, .int v0), (3, .int v1), (4, .int v2), (5, .int v3), (6, .int v4), (7, .int v5)] [.int v5, .ref 37, .int v5, .ref 37] G U := rfl
theorem sg_cw_5 (big : Nat → List Value → qM → qW → qR) (n0 : Nat) (G : qM) (U : qW) (v0 : Int32) (v1 : Int32) (v2 : Int32) (v3 : Int32) (v4 : Int32) (v5 : Int32) (v6 : Int32) (v7 : Int32) : qm_run pm_m big m_126 (n0 + 4) 80 [(0, .ref 34), (1, .ref 20), (2, .int v0), (3, .int v1), (4, .int v2), (5, .int v3), (6, .int v4), (7, .int v5)] [.int v7, .int v6, .ref 37] G U = qm_run pm_m big m_126 n0 84 [(0, .ref 34), (1, .ref 20), (2, .int v0), (3, .int v1), (4, .int v2), (5, .int v3), (6, .int v4), (7, .int v5)] [.int ((v7 + (1 : Int32)) &&& (3 : Int32)), .int v6, .ref 37] G U := rfl
theorem sg_cw_6 (big : Nat → List Value → qM → qW → qR) (n0 : Nat) (G : qM) (U : qW) (v0 : Int32) (v1 : Int32) (v2 : Int32) (v3 : Int32) (v4 : Int32) (v5 : Int32) : qm_run pm_m big m_126 (n0 + 4) 85 [(0, .ref 34), (1, .ref 20), (2, .int v0), (3, .int v1), (4, .int v2), (5, .int v3), (6, .int v4), (7, .int v5)] [] G U = qm_run pm_m big m_126 n0 93 [(0, .ref 34), (1, .ref 20), (2, .int v0), (3, .int v1), (4, .int v2), (5, .int v3), (6, .int v4), (7, .int v5)] [.ref 35, .ref 28] G U := rfl
theorem sg_cw_7 (big : Nat → List Value → qM → qW → qR) (n0 : Nat) (G : qM) (U : qW) (v0 : Int32) (v1 : Int32) (v2 : Int32) (v3 : Int32) (v4 : Int32) (v5 : Int32) : qm_run pm_m big m_126 (n0 + 4) 96 [(0, .ref 34), (1, .ref 20), (2, .int v0), (3, .int v1), (4, .int v2), (5, .int v3), (6, .int v4), (7, .int v5)] [] G U = qm_run pm_m big m_126 n0 105 [(0, .ref 34), (1, .ref 20), (2, .int v0), (3, .int v1), (4, .int v2), (5, .int v3), (6, .int v4), (7, .int v5)] [.int (G 28 5), .int v3] G U := rfl
theorem sg_cw_8 (big : Nat → List Value → qM → qW → qR) (n0 : Nat) (G : qM) (U : qW) (v0 : Int32) (v1 : Int32) (v2 : Int32) (v3 : Int32) (v4 : Int32) (v5 : Int32) (v6 : Int32) (v7 : Int32) : qm_run pm_m big m_126 (n0 + 4) 108 [(0, .ref 34), (1, .ref 20), (2, .int v0), (3, .int v1), (4, .int v2), (5, .int v3), (6, .int v4), (7, .int v5)] [.int v7, .int v6] G U = qm_run pm_m big m_126 n0 28 [(0, .ref 34), (1, .ref 20), (2, .int v0), (3, .int v1), (4, .int v2), (5, .int (v6 + v7)), (6, .int (v4 + (1 : Int32))), (7, .int v5)] [] G U := rfl
theorem sg_cw_9 (big : Nat → List Value → qM → qW → qR) (n0 : Nat) (G : qM) (U : qW) (v0 : Int32) (v1 : Int32) : qm_run pm_m big m_126 (n0 + 3) 0 [(0, .ref 34), (1, .ref 20), (2, .int v0), (3, .int v1)] [] G U = qm_run pm_m big m_126 n0 5 [(0, .ref 34), (1, .ref 20), (2, .int v0), (3, .int v1)] [.int (1 : Int32), .int (G 20 3)] G U := rfl
theorem sg_cw_10 (big : Nat → List Value → qM → qW → qR) (n0 : Nat) (G : qM) (U : qW) (v0 : Int32) (v1 : Int32) : qm_run pm_m big m_126 (n0 + 3) 11 [(0, .ref 34), (1, .ref 20), (2, .int v0), (3, .int v1)] [] G U = qm_run pm_m big m_126 n0 16 [(0, .ref 34), (1, .ref 20), (2, .int v0), (3, .int v1)] [.ref 20, .ref 35] G U := rfl
theorem sg_cw_11 (big : Nat → List Value → qM → qW → qR) (n0 : Nat) (G : qM) (U : qW) (v0 : Int32) (v1 : Int32) : qm_run pm_m big m_126 (n0 + 6) 19 [(0, .ref 34), (1, .ref 20), (2, .int v0), (3, .int v1)] [] G U = qm_run pm_m big m_126 n0 28 [(0, .ref 34), (1, .ref 20), (2, .int v0), (3, .int v1), (4, .int v0), (5, .int (0 : Int32)), (6, .int (0 : Int32))] [] G U := rfl
theorem sg_cw_12 (big : Nat → List Value → qM → qW → qR) (n0 : Nat) (G : qM) (U : qW) (v0 : Int32) (v1 : Int32) : qm_run pm_m big m_125 (n0 + 2) 0 [(0, .ref 8), (1, .int v0), (2, .int v1)] [] G U = qm_run pm_m big m_125 n0 2 [(0, .ref 8), (1, .int v0), (2, .int v1)] [.int (1 : Int32), .int v1] G U := rfl
theorem sg_cw_13 (big : Nat → List Value → qM → qW → qR) (n0 : Nat) (G : qM) (U : qW) (v0 : Int32) (v1 : Int32) : qm_run pm_m big m_125 (n0 + 2) 5 [(0, .ref 8), (1, .int v0), (2, .int v1)] [] G U = qm_run pm_m big m_125 n0 8 [(0, .ref 8), (1, .int v0), (2, .int v1)] [.int (60 : Int32), .int v1] G U := rfl
theorem sg_cw_14 (big : Nat → List Value → qM → qW → qR) (n0 : Nat) (G : qM) (U : qW) (v0 : Int32) (v1 : Int32) : qm_run pm_m big m_125 (n0 + 6) 13 [(0, .ref 8), (1, .int v0), (2, .int v1)] [] G U = qm_run pm_m big m_125 n0 23 [(0, .ref 8), (1, .int v0), (2, .int v1)] [.int v1, .int v0, .ref 20, .ref 34] G U := rfl
theorem sg_cw_15 (big : Nat → List Value → qM → qW → qR) (n0 : Nat) (G : qM) (U : qW) (v0 : Int32) (v1 : Int32) (v2 : Int32) (v3 : Int32) (v4 : Int32) (v5 : Int32) (v6 : Int32) : qm_run pm_m big m_215 (n0 + 3) 93 [(0, .ref 70), (1, .int v0), (2, .int v1), (3, .int v2), (4, .int v3), (5, .int v4), (6, .int v5), (7, .int v6)] [] G U = qm_run pm_m big m_215 n0 99 [(0, .ref 70), (1, .int v0), (2, .int v1), (3, .int v2), (4, .int v3), (5, .int v4), (6, .int v5), (7, .int v6)] [.int (G 70 4), .int v6] G U := rfl
theorem sg_cw_16 (big : Nat → List Value → qM → qW → qR) (n0 : Nat) (G : qM) (U : qW) (v0 : Int32) (v1 : Int32) (v2 : Int32) (v3 : Int32) (v4 : Int32) (v5 : Int32) (v6 : Int32) : qm_run pm_m big m_215 (n0 + 4) 102 [(0, .ref 70), (1, .int v0), (2, .int v1), (3, .int v2), (4, .int v3), (5, .int v4), (6, .int v5), (7, .int v6)] [] G U = qm_run pm_m big m_215 n0 110 [(0, .ref 70), (1, .int v0), (2, .int v1), (3, .int v2), (4, .int v3), (5, .int v4), (6, .int v5), (7, .int v6)] [.int v6, .ref 80, .int v3] G U := rfl
theorem sg_cw_17 (big : Nat → List Value → qM → qW → qR) (n0 : Nat) (G : qM) (U : qW) (v0 : Int32) (v1 : Int32) (v2 : Int32) (v3 : Int32) (v4 : Int32) (v5 : Int32) (v6 : Int32) (v7 : Int32) (v8 : Int32) : qm_run pm_m big m_215 (n0 + 1) 111 [(0, .ref 70), (1, .int v0), (2, .int v1), (3, .int v2), (4, .int v3), (5, .int v4), (6, .int v5), (7, .int v6)] [.int v8, .int v7] G U = qm_run pm_m big m_215 n0 112 [(0, .ref 70), (1, .int v0), (2, .int v1), (3, .int v2), (4, .int v3), (5, .int v4), (6, .int v5), (7, .int v6)] [.int (4 : Int32), .int v8, .int v7] G U := rfl
theorem sg_cw_18 (big : Nat → List Value → qM → qW → qR) (n0 : Nat) (G : qM) (U : qW) (v0 : Int32) (v1 : Int32) (v2 : Int32) (v3 : Int32) (v4 : Int32) (v5 : Int32) (v6 : Int32) (v7 : Int32) : qm_run pm_m big m_215 (n0 + 1) 119 [(0, .ref 70), (1, .int v0), (2, .int v1), (3, .int v2), (4, .int v3), (5, .int v4), (6, .int v5), (7, .int v6)] [.int v7] G U = qm_run pm_m big m_215 n0 120 [(0, .ref 70), (1, .int v0), (2, .int v1), (3, .int v2), (4, .int v3), (5, .int v4), (6, .int v5), (7, .int v6)] [.int (0 : Int32), .int v7] G U := rfl
theorem sg_cw_19 (big : Nat → List Value → qM → qW → qR) (n0 : Nat) (G : qM) (U : qW) (v0 : Int32) (v1 : Int32) (v2 : Int32) (v3 : Int32) (v4 : Int32) (v5 : Int32) (v6 : Int32) (v7 : Int32) : qm_run pm_m big m_215 (n0 + 4) 123 [(0, .ref 70), (1, .int v0), (2, .int v1), (3, .int v2), (4, .int v3), (5, .int v4), (6, .int v5), (7, .int v6)] [.int (0 : Int32), .int v7] G U = qm_run pm_m big m_215 n0 93 [(0, .ref 70), (1, .int v0), (2, .int v1), (3, .int v2), (4, .int (v7 + (0 : Int32))), (5, .int v4), (6, .int v5), (7, .int (v6 + (1 : Int32)))] [] G U := rfl
theorem sg_cw_20 (big : Nat → List Value → qM → qW → qR) (n0 : Nat) (G : qM) (U : qW) (v0 : Int32) (v1 : Int32) (v2 : Int32) (v3 : Int32) (v4 : Int32) (v5 : Int32) (v6 : Int32) (v7 : Int32) : qm_run pm_m big m_215 (n0 + 2) 115 [(0, .ref 70), (1, .int v0), (2, .int v1), (3, .int v2), (4, .int v3), (5, .int v4), (6, .int v5), (7, .int v6)] [.int v7] G U = qm_run pm_m big m_215 n0 120 [(0, .ref 70), (1, .int v0), (2, .int v1), (3, .int v2), (4, .int v3), (5, .int v4), (6, .int v5), (7, .int v6)] [.int (1 : Int32), .int v7] G U := rfl
theorem sg_cw_21 (big : Nat → List Value → qM → qW → qR) (n0 : Nat) (G : qM) (U : qW) (v0 : Int32) (v1 : Int32) (v2 : Int32) (v3 : Int32) (v4 : Int32) (v5 : Int32) (v6 : Int32) (v7 : Int32) : qm_run pm_m big m_215 (n0 + 4) 123 [(0, .ref 70), (1, .int v0), (2, .int v1), (3, .int v2), (4, .int v3), (5, .int v4), (6, .int v5), (7, .int v6)] [.int (1 : Int32), .int v7] G U = qm_run pm_m big m_215 n0 93 [(0, .ref 70), (1, .int v0), (2, .int v1), (3, .int v2), (4, .int (v7 + (1 : Int32))), (5, .int v4), (6, .int v5), (7, .int (v6 + (1 : Int32)))] [] G U := rfl
theorem sg_cw_22 (big : Nat → List Value → qM → qW → qR) (n0 : Nat) (G : qM) (U : qW) (v0 : Int32) (v1 : Int32) (v2 : Int32) (v3 : Int32) (v4 : Int32) : qm_run pm_m big m_215 (n0 + 2) 36 [(0, .ref 70), (1, .int v0), (2, .int v1), (3, .int v2), (4, .int v3), (5, .int v4)] [] G U = qm_run pm_m big m_215 n0 39 [(0, .ref 70), (1, .int v0), (2, .int v1), (3, .int v2), (4, .int v3), (5, .int v4)] [.int v1, .int v4] G U := rfl
theorem sg_cw_23 (big : Nat → List Value → qM → qW → qR) (n0 : Nat) (G : qM) (U : qW) (v0 : Int32) (v1 : Int32) (v2 : Int32) (v3 : Int32) (v4 : Int32) : qm_run pm_m big m_215 (n0 + 13) 42 [(0, .ref 70), (1, .int v0), (2, .int v1), (3, .int v2), (4, .int v3), (5, .int v4)] [] G U = qm_run pm_m big m_215 n0 64 [(0, .ref 70), (1, .int v0), (2, .int v1), (3, .int ((v2 * (1103515245 : Int32)) + (12345 : Int32))), (4, .int v3), (5, .int v4)] [.int (G 70 4), .int ((((v2 * (1103515245 : Int32)) + (12345 : Int32)) >>> ((16 : Int32) &&& 31)) &&& (32767 : Int32))] G U := rfl
theorem sg_cw_24 (big : Nat → List Value → qM → qW → qR) (n0 : Nat) (G : qM) (U : qW) (v0 : Int32) (v1 : Int32) (v2 : Int32) (v3 : Int32) (v4 : Int32) (v5 : Int32) : qm_run pm_m big m_215 (n0 + 7) 65 [(0, .ref 70), (1, .int v0), (2, .int v1), (3, .int v2), (4, .int v3), (5, .int v4)] [.int v5] G U = qm_run pm_m big m_215 n0 79 [(0, .ref 70), (1, .int v0), (2, .int v1), (3, .int v2), (4, .int v3), (5, .int v4), (6, .int v5)] [.int v5, .ref 76, .int v5, .ref 76] G U := rfl
theorem sg_cw_25 (big : Nat → List Value → qM → qW → qR) (n0 : Nat) (G : qM) (U : qW) (v0 : Int32) (v1 : Int32) (v2 : Int32) (v3 : Int32) (v4 : Int32) (v5 : Int32) (v6 : Int32) (v7 : Int32) : qm_run pm_m big m_215 (n0 + 4) 80 [(0, .ref 70), (1, .int v0), (2, .int v1), (3, .int v2), (4, .int v3), (5, .int v4), (6, .int v5)] [.int v7, .int v6, .ref 76] G U = qm_run pm_m big m_215 n0 84 [(0, .ref 70), (1, .int v0), (2, .int v1), (3, .int v2), (4, .int v3), (5, .int v4), (6, .int v5)] [.int ((v7 + (1 : Int32)) - (v7 + (1 : Int32)) / (4 : Int32) * (4 : Int32)), .int v6, .ref 76] G U := rfl
theorem sg_cw_26 (big : Nat → List Value → qM → qW → qR) (n0 : Nat) (G : qM) (U : qW) (v0 : Int32) (v1 : Int32) (v2 : Int32) (v3 : Int32) (v4 : Int32) (v5 : Int32) : qm_run pm_m big m_215 (n0 + 1) 85 [(0, .ref 70), (1, .int v0), (2, .int v1), (3, .int v2), (4, .int v3), (5, .int v4), (6, .int v5)] [] G U = qm_run pm_m big m_215 n0 86 [(0, .ref 70), (1, .int v0), (2, .int v1), (3, .int v2), (4, .int v3), (5, .int v4), (6, .int v5)] [.ref 70] G U := rfl
theorem sg_cw_27 (big : Nat → List Value → qM → qW → qR) (n0 : Nat) (G : qM) (U : qW) (v0 : Int32) (v1 : Int32) (v2 : Int32) (v3 : Int32) (v4 : Int32) (v5 : Int32) (v6 : Int32) : qm_run pm_m big m_215 (n0 + 3) 89 [(0, .ref 70), (1, .int v0), (2, .int v1), (3, .int v2), (4, .int v3), (5, .int v4), (6, .int v5)] [.int v6] G U = qm_run pm_m big m_215 n0 93 [(0, .ref 70), (1, .int v0), (2, .int v1), (3, .int v2), (4, .int v3), (5, .int v4), (6, .int v5), (7, .int (0 : Int32))] [] G U := rfl
theorem sg_cw_28 (big : Nat → List Value → qM → qW → qR) (n0 : Nat) (G : qM) (U : qW) (v0 : Int32) (v1 : Int32) (v2 : Int32) (v3 : Int32) (v4 : Int32) (v5 : Int32) : qm_run pm_m big m_215 (n0 + 2) 132 [(0, .ref 70), (1, .int v0), (2, .int v1), (3, .int v2), (4, .int v3), (5, .int v4), (7, .int v5)] [] G U = qm_run pm_m big m_215 n0 36 [(0, .ref 70), (1, .int v0), (2, .int v1), (3, .int v2), (4, .int v3), (5, .int (v4 + (1 : Int32))), (7, .int v5)] [] G U := rfl
theorem sg_cw_29 (big : Nat → List Value → qM → qW → qR) (n0 : Nat) (G : qM) (U : qW) (v0 : Int32) (v1 : Int32) : qm_run pm_m big m_215 (n0 + 4) 0 [(0, .ref 70), (1, .int v0), (2, .int v1)] [] G U = qm_run pm_m big m_215 n0 6 [(0, .ref 70), (1, .int v0), (2, .int v1)] [.long (60 : Int64), .long (1 : Int64), .long (Int32.toInt64 v1)] G U := rfl
theorem sg_cw_30 (big : Nat → List Value → qM → qW → qR) (n0 : Nat) (G : qM) (U : qW) (v0 : Int32) (v1 : Int32) : qm_run pm_m big m_215 (n0 + 3) 9 [(0, .ref 70), (1, .int v0), (2, .int v1)] [.int (1 : Int32)] G U = qm_run pm_m big m_215 n0 18 [(0, .ref 70), (1, .int v0), (2, .int v1)] [.int (G 70 4)] G U := rfl
theorem sg_cw_31 (big : Nat → List Value → qM → qW → qR) (n0 : Nat) (G : qM) (U : qW) (v0 : Int32) (v1 : Int32) : qm_run pm_m big m_215 (n0 + 1) 24 [(0, .ref 70), (1, .int v0), (2, .int v1)] [] G U = qm_run pm_m big m_215 n0 25 [(0, .ref 70), (1, .int v0), (2, .int v1)] [.ref 70] G U := rfl
theorem sg_cw_32 (big : Nat → List Value → qM → qW → qR) (n0 : Nat) (G : qM) (U : qW) (v0 : Int32) (v1 : Int32) : qm_run pm_m big m_215 (n0 + 6) 28 [(0, .ref 70), (1, .int v0), (2, .int v1)] [] G U = qm_run pm_m big m_215 n0 36 [(0, .ref 70), (1, .int v0), (2, .int v1), (3, .int v0), (4, .int (0 : Int32)), (5, .int (0 : Int32))] [] G U := rfl
def d_bc (x : Int32) (g : qM) : Int32 := ((((((((x - ((UInt32.toInt32 (Int32.toUInt32 x >>> (Int32.toUInt32 (1 : Int32) &&& Int32.toUInt32 31))) &&& (1431655765 : Int32))) &&& (858993459 : Int32)) + ((UInt32.toInt32 (Int32.toUInt32 (x - ((UInt32.toInt32 (Int32.toUInt32 x >>> (Int32.toUInt32 (1 : Int32) &&& Int32.toUInt32 31))) &&& (1431655765 : Int32))) >>> (Int32.toUInt32 (2 : Int32) &&& Int32.toUInt32 31))) &&& (858993459 : Int32))) + (UInt32.toInt32 (Int32.toUInt32 (((x - ((UInt32.toInt32 (Int32.toUInt32 x >>> (Int32.toUInt32 (1 : Int32) &&& Int32.toUInt32 31))) &&& (1431655765 : Int32))) &&& (858993459 : Int32)) + ((UInt32.toInt32 (Int32.toUInt32 (x - ((UInt32.toInt32 (Int32.toUInt32 x >>> (Int32.toUInt32 (1 : Int32) &&& Int32.toUInt32 31))) &&& (1431655765 : Int32))) >>> (Int32.toUInt32 (2 : Int32) &&& Int32.toUInt32 31))) &&& (858993459 : Int32))) >>> (Int32.toUInt32 (4 : Int32) &&& Int32.toUInt32 31)))) &&& (252645135 : Int32)) + (UInt32.toInt32 (Int32.toUInt32 (((((x - ((UInt32.toInt32 (Int32.toUInt32 x >>> (Int32.toUInt32 (1 : Int32) &&& Int32.toUInt32 31))) &&& (1431655765 : Int32))) &&& (858993459 : Int32)) + ((UInt32.toInt32 (Int32.toUInt32 (x - ((UInt32.toInt32 (Int32.toUInt32 x >>> (Int32.toUInt32 (1 : Int32) &&& Int32.toUInt32 31))) &&& (1431655765 : Int32))) >>> (Int32.toUInt32 (2 : Int32) &&& Int32.toUInt32 31))) &&& (858993459 : Int32))) + (UInt32.toInt32 (Int32.toUInt32 (((x - ((UInt32.toInt32 (Int32.toUInt32 x >>> (Int32.toUInt32 (1 : Int32) &&& Int32.toUInt32 31))) &&& (1431655765 : Int32))) &&& (858993459 : Int32)) + ((UInt32.toInt32 (Int32.toUInt32 (x - ((UInt32.toInt32 (Int32.toUInt32 x >>> (Int32.toUInt32 (1 : Int32) &&& Int32.toUInt32 31))) &&& (1431655765 : Int32))) >>> (Int32.toUInt32 (2 : Int32) &&& Int32.toUInt32 31))) &&& (858993459 : Int32))) >>> (Int32.toUInt32 (4 : Int32) &&& Int32.toUInt32 31)))) &&& (252645135 : Int32)) >>> (Int32.toUInt32 (8 : Int32) &&& Int32.toUInt32 31)))) + (UInt32.toInt32 (Int32.toUInt32 ((((((x - ((UInt32.toInt32 (Int32.toUInt32 x >>> (Int32.toUInt32 (1 : Int32) &&& Int32.toUInt32 31))) &&& (1431655765 : Int32))) &&& (858993459 : Int32)) + ((UInt32.toInt32 (Int32.toUInt32 (x - ((UInt32.toInt32 (Int32.toUInt32 x >>> (Int32.toUInt32 (1 : Int32) &&& Int32.toUInt32 31))) &&& (1431655765 : Int32))) >>> (Int32.toUInt32 (2 : Int32) &&& Int32.toUInt32 31))) &&& (858993459 : Int32))) + (UInt32.toInt32 (Int32.toUInt32 (((x - ((UInt32.toInt32 (Int32.toUInt32 x >>> (Int32.toUInt32 (1 : Int32) &&& Int32.toUInt32 31))) &&& (1431655765 : Int32))) &&& (858993459 : Int32)) + ((UInt32.toInt32 (Int32.toUInt32 (x - ((UInt32.toInt32 (Int32.toUInt32 x >>> (Int32.toUInt32 (1 : Int32) &&& Int32.toUInt32 31))) &&& (1431655765 : Int32))) >>> (Int32.toUInt32 (2 : Int32) &&& Int32.toUInt32 31))) &&& (858993459 : Int32))) >>> (Int32.toUInt32 (4 : Int32) &&& Int32.toUInt32 31)))) &&& (252645135 : Int32)) + (UInt32.toInt32 (Int32.toUInt32 (((((x - ((UInt32.toInt32 (Int32.toUInt32 x >>> (Int32.toUInt32 (1 : Int32) &&& Int32.toUInt32 31))) &&& (1431655765 : Int32))) &&& (858993459 : Int32)) + ((UInt32.toInt32 (Int32.toUInt32 (x - ((UInt32.toInt32 (Int32.toUInt32 x >>> (Int32.toUInt32 (1 : Int32) &&& Int32.toUInt32 31))) &&& (1431655765 : Int32))) >>> (Int32.toUInt32 (2 : Int32) &&& Int32.toUInt32 31))) &&& (858993459 : Int32))) + (UInt32.toInt32 (Int32.toUInt32 (((x - ((UInt32.toInt32 (Int32.toUInt32 x >>> (Int32.toUInt32 (1 : Int32) &&& Int32.toUInt32 31))) &&& (1431655765 : Int32))) &&& (858993459 : Int32)) + ((UInt32.toInt32 (Int32.toUInt32 (x - ((UInt32.toInt32 (Int32.toUInt32 x >>> (Int32.toUInt32 (1 : Int32) &&& Int32.toUInt32 31))) &&& (1431655765 : Int32))) >>> (Int32.toUInt32 (2 : Int32) &&& Int32.toUInt32 31))) &&& (858993459 : Int32))) >>> (Int32.toUInt32 (4 : Int32) &&& Int32.toUInt32 31)))) &&& (252645135 : Int32)) >>> (Int32.toUInt32 (8 : Int32) &&& Int32.toUInt32 31)))) >>> (Int32.toUInt32 (16 : Int32) &&& Int32.toUInt32 31)))) &&& (63 : Int32))
theorem b_bc (x : Int32) (g : qM) (u : qW) : q_BS 127 [.int x] g u (some (.int (d_bc x g)), g, u) := by
  refine q_bx (mm := m_127) rfl (Nat.le_of_ble_eq_true rfl) rfl ?_
  refine q_step 40 51 [(0, .int (((((((x - ((UInt32.toInt32 (Int32.toUInt32 x >>> (Int32.toUInt32 (1 : Int32) &&& Int32.toUInt32 31))) &&& (1431655765 : Int32))) &&& (858993459 : Int32)) + ((UInt32.toInt32 (Int32.toUInt32 (x - ((UInt32.toInt32 (Int32.toUInt32 x >>> (Int32.toUInt32 (1 : Int32) &&& Int32.toUInt32 31))) &&& (1431655765 : Int32))) >>> (Int32.toUInt32 (2 : Int32) &&& Int32.toUInt32 31))) &&& (858993459 : Int32))) + (UInt32.toInt32 (Int32.toUInt32 (((x - ((UInt32.toInt32 (Int32.toUInt32 x >>> (Int32.toUInt32 (1 : Int32) &&& Int32.toUInt32 31))) &&& (1431655765 : Int32))) &&& (858993459 : Int32)) + ((UInt32.toInt32 (Int32.toUInt32 (x - ((UInt32.toInt32 (Int32.toUInt32 x >>> (Int32.toUInt32 (1 : Int32) &&& Int32.toUInt32 31))) &&& (1431655765 : Int32))) >>> (Int32.toUInt32 (2 : Int32) &&& Int32.toUInt32 31))) &&& (858993459 : Int32))) >>> (Int32.toUInt32 (4 : Int32) &&& Int32.toUInt32 31)))) &&& (252645135 : Int32)) + (UInt32.toInt32 (Int32.toUInt32 (((((x - ((UInt32.toInt32 (Int32.toUInt32 x >>> (Int32.toUInt32 (1 : Int32) &&& Int32.toUInt32 31))) &&& (1431655765 : Int32))) &&& (858993459 : Int32)) + ((UInt32.toInt32 (Int32.toUInt32 (x - ((UInt32.toInt32 (Int32.toUInt32 x >>> (Int32.toUInt32 (1 : Int32) &&& Int32.toUInt32 31))) &&& (1431655765 : Int32))) >>> (Int32.toUInt32 (2 : Int32) &&& Int32.toUInt32 31))) &&& (858993459 : Int32))) + (UInt32.toInt32 (Int32.toUInt32 (((x - ((UInt32.toInt32 (Int32.toUInt32 x >>> (Int32.toUInt32 (1 : Int32) &&& Int32.toUInt32 31))) &&& (1431655765 : Int32))) &&& (858993459 : Int32)) + ((UInt32.toInt32 (Int32.toUInt32 (x - ((UInt32.toInt32 (Int32.toUInt32 x >>> (Int32.toUInt32 (1 : Int32) &&& Int32.toUInt32 31))) &&& (1431655765 : Int32))) >>> (Int32.toUInt32 (2 : Int32) &&& Int32.toUInt32 31))) &&& (858993459 : Int32))) >>> (Int32.toUInt32 (4 : Int32) &&& Int32.toUInt32 31)))) &&& (252645135 : Int32)) >>> (Int32.toUInt32 (8 : Int32) &&& Int32.toUInt32 31)))) + (UInt32.toInt32 (Int32.toUInt32 ((((((x - ((UInt32.toInt32 (Int32.toUInt32 x >>> (Int32.toUInt32 (1 : Int32) &&& Int32.toUInt32 31))) &&& (1431655765 : Int32))) &&& (858993459 : Int32)) + ((UInt32.toInt32 (Int32.toUInt32 (x - ((UInt32.toInt32 (Int32.toUInt32 x >>> (Int32.toUInt32 (1 : Int32) &&& Int32.toUInt32 31))) &&& (1431655765 : Int32))) >>> (Int32.toUInt32 (2 : Int32) &&& Int32.toUInt32 31))) &&& (858993459 : Int32))) + (UInt32.toInt32 (Int32.toUInt32 (((x - ((UInt32.toInt32 (Int32.toUInt32 x >>> (Int32.toUInt32 (1 : Int32) &&& Int32.toUInt32 31))) &&& (1431655765 : Int32))) &&& (858993459 : Int32)) + ((UInt32.toInt32 (Int32.toUInt32 (x - ((UInt32.toInt32 (Int32.toUInt32 x >>> (Int32.toUInt32 (1 : Int32) &&& Int32.toUInt32 31))) &&& (1431655765 : Int32))) >>> (Int32.toUInt32 (2 : Int32) &&& Int32.toUInt32 31))) &&& (858993459 : Int32))) >>> (Int32.toUInt32 (4 : Int32) &&& Int32.toUInt32 31)))) &&& (252645135 : Int32)) + (UInt32.toInt32 (Int32.toUInt32 (((((x - ((UInt32.toInt32 (Int32.toUInt32 x >>> (Int32.toUInt32 (1 : Int32) &&& Int32.toUInt32 31))) &&& (1431655765 : Int32))) &&& (858993459 : Int32)) + ((UInt32.toInt32 (Int32.toUInt32 (x - ((UInt32.toInt32 (Int32.toUInt32 x >>> (Int32.toUInt32 (1 : Int32) &&& Int32.toUInt32 31))) &&& (1431655765 : Int32))) >>> (Int32.toUInt32 (2 : Int32) &&& Int32.toUInt32 31))) &&& (858993459 : Int32))) + (UInt32.toInt32 (Int32.toUInt32 (((x - ((UInt32.toInt32 (Int32.toUInt32 x >>> (Int32.toUInt32 (1 : Int32) &&& Int32.toUInt32 31))) &&& (1431655765 : Int32))) &&& (858993459 : Int32)) + ((UInt32.toInt32 (Int32.toUInt32 (x - ((UInt32.toInt32 (Int32.toUInt32 x >>> (Int32.toUInt32 (1 : Int32) &&& Int32.toUInt32 31))) &&& (1431655765 : Int32))) >>> (Int32.toUInt32 (2 : Int32) &&& Int32.toUInt32 31))) &&& (858993459 : Int32))) >>> (Int32.toUInt32 (4 : Int32) &&& Int32.toUInt32 31)))) &&& (252645135 : Int32)) >>> (Int32.toUInt32 (8 : Int32) &&& Int32.toUInt32 31)))) >>> (Int32.toUInt32 (16 : Int32) &&& Int32.toUInt32 31)))))] [.int (63 : Int32), .int (((((((x - ((UInt32.toInt32 (Int32.toUInt32 x >>> (Int32.toUInt32 (1 : Int32) &&& Int32.toUInt32 31))) &&& (1431655765 : Int32))) &&& (858993459 : Int32)) + ((UInt32.toInt32 (Int32.toUInt32 (x - ((UInt32.toInt32 (Int32.toUInt32 x >>> (Int32.toUInt32 (1 : Int32) &&& Int32.toUInt32 31))) &&& (1431655765 : Int32))) >>> (Int32.toUInt32 (2 : Int32) &&& Int32.toUInt32 31))) &&& (858993459 : Int32))) + (UInt32.toInt32 (Int32.toUInt32 (((x - ((UInt32.toInt32 (Int32.toUInt32 x >>> (Int32.toUInt32 (1 : Int32) &&& Int32.toUInt32 31))) &&& (1431655765 : Int32))) &&& (858993459 : Int32)) + ((UInt32.toInt32 (Int32.toUInt32 (x - ((UInt32.toInt32 (Int32.toUInt32 x >>> (Int32.toUInt32 (1 : Int32) &&& Int32.toUInt32 31))) &&& (1431655765 : Int32))) >>> (Int32.toUInt32 (2 : Int32) &&& Int32.toUInt32 31))) &&& (858993459 : Int32))) >>> (Int32.toUInt32 (4 : Int32) &&& Int32.toUInt32 31)))) &&& (252645135 : Int32)) + (UInt32.toInt32 (Int32.toUInt32 (((((x - ((UInt32.toInt32 (Int32.toUInt32 x >>> (Int32.toUInt32 (1 : Int32) &&& Int32.toUInt32 31))) &&& (1431655765 : Int32))) &&& (858993459 : Int32)) + ((UInt32.toInt32 (Int32.toUInt32 (x - ((UInt32.toInt32 (Int32.toUInt32 x >>> (Int32.toUInt32 (1 : Int32) &&& Int32.toUInt32 31))) &&& (1431655765 : Int32))) >>> (Int32.toUInt32 (2 : Int32) &&& Int32.toUInt32 31))) &&& (858993459 : Int32))) + (UInt32.toInt32 (Int32.toUInt32 (((x - ((UInt32.toInt32 (Int32.toUInt32 x >>> (Int32.toUInt32 (1 : Int32) &&& Int32.toUInt32 31))) &&& (1431655765 : Int32))) &&& (858993459 : Int32)) + ((UInt32.toInt32 (Int32.toUInt32 (x - ((UInt32.toInt32 (Int32.toUInt32 x >>> (Int32.toUInt32 (1 : Int32) &&& Int32.toUInt32 31))) &&& (1431655765 : Int32))) >>> (Int32.toUInt32 (2 : Int32) &&& Int32.toUInt32 31))) &&& (858993459 : Int32))) >>> (Int32.toUInt32 (4 : Int32) &&& Int32.toUInt32 31)))) &&& (252645135 : Int32)) >>> (Int32.toUInt32 (8 : Int32) &&& Int32.toUInt32 31)))) + (UInt32.toInt32 (Int32.toUInt32 ((((((x - ((UInt32.toInt32 (Int32.toUInt32 x >>> (Int32.toUInt32 (1 : Int32) &&& Int32.toUInt32 31))) &&& (1431655765 : Int32))) &&& (858993459 : Int32)) + ((UInt32.toInt32 (Int32.toUInt32 (x - ((UInt32.toInt32 (Int32.toUInt32 x >>> (Int32.toUInt32 (1 : Int32) &&& Int32.toUInt32 31))) &&& (1431655765 : Int32))) >>> (Int32.toUInt32 (2 : Int32) &&& Int32.toUInt32 31))) &&& (858993459 : Int32))) + (UInt32.toInt32 (Int32.toUInt32 (((x - ((UInt32.toInt32 (Int32.toUInt32 x >>> (Int32.toUInt32 (1 : Int32) &&& Int32.toUInt32 31))) &&& (1431655765 : Int32))) &&& (858993459 : Int32)) + ((UInt32.toInt32 (Int32.toUInt32 (x - ((UInt32.toInt32 (Int32.toUInt32 x >>> (Int32.toUInt32 (1 : Int32) &&& Int32.toUInt32 31))) &&& (1431655765 : Int32))) >>> (Int32.toUInt32 (2 : Int32) &&& Int32.toUInt32 31))) &&& (858993459 : Int32))) >>> (Int32.toUInt32 (4 : Int32) &&& Int32.toUInt32 31)))) &&& (252645135 : Int32)) + (UInt32.toInt32 (Int32.toUInt32 (((((x - ((UInt32.toInt32 (Int32.toUInt32 x >>> (Int32.toUInt32 (1 : Int32) &&& Int32.toUInt32 31))) &&& (1431655765 : Int32))) &&& (858993459 : Int32)) + ((UInt32.toInt32 (Int32.toUInt32 (x - ((UInt32.toInt32 (Int32.toUInt32 x >>> (Int32.toUInt32 (1 : Int32) &&& Int32.toUInt32 31))) &&& (1431655765 : Int32))) >>> (Int32.toUInt32 (2 : Int32) &&& Int32.toUInt32 31))) &&& (858993459 : Int32))) + (UInt32.toInt32 (Int32.toUInt32 (((x - ((UInt32.toInt32 (Int32.toUInt32 x >>> (Int32.toUInt32 (1 : Int32) &&& Int32.toUInt32 31))) &&& (1431655765 : Int32))) &&& (858993459 : Int32)) + ((UInt32.toInt32 (Int32.toUInt32 (x - ((UInt32.toInt32 (Int32.toUInt32 x >>> (Int32.toUInt32 (1 : Int32) &&& Int32.toUInt32 31))) &&& (1431655765 : Int32))) >>> (Int32.toUInt32 (2 : Int32) &&& Int32.toUInt32 31))) &&& (858993459 : Int32))) >>> (Int32.toUInt32 (4 : Int32) &&& Int32.toUInt32 31)))) &&& (252645135 : Int32)) >>> (Int32.toUInt32 (8 : Int32) &&& Int32.toUInt32 31)))) >>> (Int32.toUInt32 (16 : Int32) &&& Int32.toUInt32 31))))] g u (fun big n0 => sg_cw_1 big n0 g u x) ?_
  refine q_ret 2 (some (.int ((((((((x - ((UInt32.toInt32 (Int32.toUInt32 x >>> (Int32.toUInt32 (1 : Int32) &&& Int32.toUInt32 31))) &&& (1431655765 : Int32))) &&& (858993459 : Int32)) + ((UInt32.toInt32 (Int32.toUInt32 (x - ((UInt32.toInt32 (Int32.toUInt32 x >>> (Int32.toUInt32 (1 : Int32) &&& Int32.toUInt32 31))) &&& (1431655765 : Int32))) >>> (Int32.toUInt32 (2 : Int32) &&& Int32.toUInt32 31))) &&& (858993459 : Int32))) + (UInt32.toInt32 (Int32.toUInt32 (((x - ((UInt32.toInt32 (Int32.toUInt32 x >>> (Int32.toUInt32 (1 : Int32) &&& Int32.toUInt32 31))) &&& (1431655765 : Int32))) &&& (858993459 : Int32)) + ((UInt32.toInt32 (Int32.toUInt32 (x - ((UInt32.toInt32 (Int32.toUInt32 x >>> (Int32.toUInt32 (1 : Int32) &&& Int32.toUInt32 31))) &&& (1431655765 : Int32))) >>> (Int32.toUInt32 (2 : Int32) &&& Int32.toUInt32 31))) &&& (858993459 : Int32))) >>> (Int32.toUInt32 (4 : Int32) &&& Int32.toUInt32 31)))) &&& (252645135 : Int32)) + (UInt32.toInt32 (Int32.toUInt32 (((((x - ((UInt32.toInt32 (Int32.toUInt32 x >>> (Int32.toUInt32 (1 : Int32) &&& Int32.toUInt32 31))) &&& (1431655765 : Int32))) &&& (858993459 : Int32)) + ((UInt32.toInt32 (Int32.toUInt32 (x - ((UInt32.toInt32 (Int32.toUInt32 x >>> (Int32.toUInt32 (1 : Int32) &&& Int32.toUInt32 31))) &&& (1431655765 : Int32))) >>> (Int32.toUInt32 (2 : Int32) &&& Int32.toUInt32 31))) &&& (858993459 : Int32))) + (UInt32.toInt32 (Int32.toUInt32 (((x - ((UInt32.toInt32 (Int32.toUInt32 x >>> (Int32.toUInt32 (1 : Int32) &&& Int32.toUInt32 31))) &&& (1431655765 : Int32))) &&& (858993459 : Int32)) + ((UInt32.toInt32 (Int32.toUInt32 (x - ((UInt32.toInt32 (Int32.toUInt32 x >>> (Int32.toUInt32 (1 : Int32) &&& Int32.toUInt32 31))) &&& (1431655765 : Int32))) >>> (Int32.toUInt32 (2 : Int32) &&& Int32.toUInt32 31))) &&& (858993459 : Int32))) >>> (Int32.toUInt32 (4 : Int32) &&& Int32.toUInt32 31)))) &&& (252645135 : Int32)) >>> (Int32.toUInt32 (8 : Int32) &&& Int32.toUInt32 31)))) + (UInt32.toInt32 (Int32.toUInt32 ((((((x - ((UInt32.toInt32 (Int32.toUInt32 x >>> (Int32.toUInt32 (1 : Int32) &&& Int32.toUInt32 31))) &&& (1431655765 : Int32))) &&& (858993459 : Int32)) + ((UInt32.toInt32 (Int32.toUInt32 (x - ((UInt32.toInt32 (Int32.toUInt32 x >>> (Int32.toUInt32 (1 : Int32) &&& Int32.toUInt32 31))) &&& (1431655765 : Int32))) >>> (Int32.toUInt32 (2 : Int32) &&& Int32.toUInt32 31))) &&& (858993459 : Int32))) + (UInt32.toInt32 (Int32.toUInt32 (((x - ((UInt32.toInt32 (Int32.toUInt32 x >>> (Int32.toUInt32 (1 : Int32) &&& Int32.toUInt32 31))) &&& (1431655765 : Int32))) &&& (858993459 : Int32)) + ((UInt32.toInt32 (Int32.toUInt32 (x - ((UInt32.toInt32 (Int32.toUInt32 x >>> (Int32.toUInt32 (1 : Int32) &&& Int32.toUInt32 31))) &&& (1431655765 : Int32))) >>> (Int32.toUInt32 (2 : Int32) &&& Int32.toUInt32 31))) &&& (858993459 : Int32))) >>> (Int32.toUInt32 (4 : Int32) &&& Int32.toUInt32 31)))) &&& (252645135 : Int32)) + (UInt32.toInt32 (Int32.toUInt32 (((((x - ((UInt32.toInt32 (Int32.toUInt32 x >>> (Int32.toUInt32 (1 : Int32) &&& Int32.toUInt32 31))) &&& (1431655765 : Int32))) &&& (858993459 : Int32)) + ((UInt32.toInt32 (Int32.toUInt32 (x - ((UInt32.toInt32 (Int32.toUInt32 x >>> (Int32.toUInt32 (1 : Int32) &&& Int32.toUInt32 31))) &&& (1431655765 : Int32))) >>> (Int32.toUInt32 (2 : Int32) &&& Int32.toUInt32 31))) &&& (858993459 : Int32))) + (UInt32.toInt32 (Int32.toUInt32 (((x - ((UInt32.toInt32 (Int32.toUInt32 x >>> (Int32.toUInt32 (1 : Int32) &&& Int32.toUInt32 31))) &&& (1431655765 : Int32))) &&& (858993459 : Int32)) + ((UInt32.toInt32 (Int32.toUInt32 (x - ((UInt32.toInt32 (Int32.toUInt32 x >>> (Int32.toUInt32 (1 : Int32) &&& Int32.toUInt32 31))) &&& (1431655765 : Int32))) >>> (Int32.toUInt32 (2 : Int32) &&& Int32.toUInt32 31))) &&& (858993459 : Int32))) >>> (Int32.toUInt32 (4 : Int32) &&& Int32.toUInt32 31)))) &&& (252645135 : Int32)) >>> (Int32.toUInt32 (8 : Int32) &&& Int32.toUInt32 31)))) >>> (Int32.toUInt32 (16 : Int32) &&& Int32.toUInt32 31)))) &&& (63 : Int32))), g, u) (fun _ _ => rfl) ?_
  unfold d_bc
  rfl
theorem s_bc_fin : (List.range 7).all (fun n => (List.range 64).all (fun v => decide (2 ^ n ≤ v) || decide (d_bc (Int32.ofNat v) (fun _ _ => 0) = s_ct (fun p => if n_bit v p then 1 else 0) n 0 0))) = true := by decide +kernel
theorem s_bc {n v : Nat} (g : qM) (hn : n ≤ 6) (hv : v < 2 ^ n) : d_bc (Int32.ofNat v) g = s_ct (fun p => if n_bit v p then 1 else 0) n 0 0 := by
  have h6 : 2 ^ n ≤ 2 ^ 6 := Nat.pow_le_pow_right (by omega) hn
  have h := List.all_eq_true.mp (List.all_eq_true.mp s_bc_fin n (List.mem_range.mpr (by omega))) v (List.mem_range.mpr (by have : (2 : Nat) ^ 6 = 64 := rfl; omega))
  rw [Bool.or_eq_true] at h
  rcases h with h | h
  · exact absurd (of_decide_eq_true h) (by omega)
  · exact of_decide_eq_true h
theorem w_bc {n W H : Nat} {g r g2 : qM} (h : w_ok n W H r) (hc : w_cs 35 n g r) : d_bc (s_step 35 n g 28 5) g2 = s_ct (p_wt (s_rst n r)) n 0 0 := by
  obtain ⟨v, hv, e⟩ := s_went h.1.2.2.2.2 g
  have w := w_step35 h hc
  have h6 : n ≤ 6 := h.1.2.2.2.2
  have hp : 2 ^ n ≤ 64 := (n_bnd h6).1
  rw [e, s_bc g2 h6 hv]
  refine s_ct_cg n 0 0 (fun p _ hpn => ?_)
  have a := (w.2.2.2.1 p (by omega)).1
  rw [e, s_bitn (by omega) (by omega)] at a
  unfold p_wt
  by_cases z : n_bit v p = true
  · rw [if_pos z] at a
    rw [if_pos z, if_neg (fun y => absurd (a.mpr y) (by decide))]
  · rw [if_neg z] at a
    rw [if_neg z, if_pos (a.mp rfl)]
theorem ws_l (u : qW) {n W H m : Nat} {sd : Int32} (hn1 : 1 ≤ n) (h6 : n ≤ 6) (hm : m ≤ 60) : ∀ k i s a g r1, i + k = m → w_ok n W H r1 → w_cs 35 n g r1 → g 20 3 = Int32.ofNat n → q_EV m_126 28 [(0, .ref 34), (1, .ref 20), (2, .int sd), (3, .int (Int32.ofNat m)), (4, .int s), (5, .int a), (6, .int (Int32.ofNat i))] [] g u (w_po w_fc g (.int (f_cw n k s a r1))) := by
  intro k
  induction k with
  | zero =>
    intro i s a g r1 hi h hc hn
    refine q_step 2 31 [(0, .ref 34), (1, .ref 20), (2, .int sd), (3, .int (Int32.ofNat m)), (4, .int s), (5, .int a), (6, .int (Int32.ofNat i))] [.int (Int32.ofNat m), .int (Int32.ofNat i)] g u (fun big n0 => sg_cw_2 big n0 g u sd (Int32.ofNat m) s a (Int32.ofNat i)) ?_
    refine q_ic_ge rfl (fun (hc0 : (Int32.ofNat m) ≤ (Int32.ofNat i)) => ?_) (fun hc0 => absurd (show (Int32.ofNat m) ≤ (Int32.ofNat i) from by exact (q_le (by omega) (by omega)).mpr (by omega)) hc0)
    refine q_ret 2 (some (.int a), g, u) (fun _ _ => rfl) ?_
    exact ⟨g, u, rfl, w_fc_rfl g⟩
  | succ k ih =>
    intro i s a g r1 hi h hc hn
    refine q_step 2 31 [(0, .ref 34), (1, .ref 20), (2, .int sd), (3, .int (Int32.ofNat m)), (4, .int s), (5, .int a), (6, .int (Int32.ofNat i))] [.int (Int32.ofNat m), .int (Int32.ofNat i)] g u (fun big n0 => sg_cw_2 big n0 g u sd (Int32.ofNat m) s a (Int32.ofNat i)) ?_
    refine q_ic_ge rfl (fun hc0 => absurd (show (Int32.ofNat m) ≤ (Int32.ofNat i) from hc0) (fun z => by exact absurd ((q_le (by omega) (by omega)).mp z) (by omega))) (fun (hc0 : ¬ ((Int32.ofNat m) ≤ (Int32.ofNat i))) => ?_)
    refine q_step 13 58 [(0, .ref 34), (1, .ref 20), (2, .int sd), (3, .int (Int32.ofNat m)), (4, .int ((s * (1103515245 : Int32)) + (12345 : Int32))), (5, .int a), (6, .int (Int32.ofNat i))] [.int (g 20 3), .int ((UInt32.toInt32 (Int32.toUInt32 ((s * (1103515245 : Int32)) + (12345 : Int32)) >>> (Int32.toUInt32 (16 : Int32) &&& Int32.toUInt32 31))) &&& (32767 : Int32))] g u (fun big n0 => sg_cw_3 big n0 g u sd (Int32.ofNat m) s a (Int32.ofNat i)) ?_
    refine q_irem (by rw [hn]; exact fun z => absurd ((q_eq (i := n) (j := 0) (by omega) (by omega)).mp z) (by omega)) rfl ?_
    refine q_step 9 79 [(0, .ref 34), (1, .ref 20), (2, .int sd), (3, .int (Int32.ofNat m)), (4, .int ((s * (1103515245 : Int32)) + (12345 : Int32))), (5, .int a), (6, .int (Int32.ofNat i)), (7, .int (((UInt32.toInt32 (Int32.toUInt32 ((s * (1103515245 : Int32)) + (12345 : Int32)) >>> (Int32.toUInt32 (16 : Int32) &&& Int32.toUInt32 31))) &&& (32767 : Int32)) - ((UInt32.toInt32 (Int32.toUInt32 ((s * (1103515245 : Int32)) + (12345 : Int32)) >>> (Int32.toUInt32 (16 : Int32) &&& Int32.toUInt32 31))) &&& (32767 : Int32)) / (g 20 3) * (g 20 3)))] [.int (((UInt32.toInt32 (Int32.toUInt32 ((s * (1103515245 : Int32)) + (12345 : Int32)) >>> (Int32.toUInt32 (16 : Int32) &&& Int32.toUInt32 31))) &&& (32767 : Int32)) - ((UInt32.toInt32 (Int32.toUInt32 ((s * (1103515245 : Int32)) + (12345 : Int32)) >>> (Int32.toUInt32 (16 : Int32) &&& Int32.toUInt32 31))) &&& (32767 : Int32)) / (g 20 3) * (g 20 3)), .ref 37, .int (((UInt32.toInt32 (Int32.toUInt32 ((s * (1103515245 : Int32)) + (12345 : Int32)) >>> (Int32.toUInt32 (16 : Int32) &&& Int32.toUInt32 31))) &&& (32767 : Int32)) - ((UInt32.toInt32 (Int32.toUInt32 ((s * (1103515245 : Int32)) + (12345 : Int32)) >>> (Int32.toUInt32 (16 : Int32) &&& Int32.toUInt32 31))) &&& (32767 : Int32)) / (g 20 3) * (g 20 3)), .ref 37] g u (fun big n0 => sg_cw_4 big n0 g u sd (Int32.ofNat m) ((s * (1103515245 : Int32)) + (12345 : Int32)) a (Int32.ofNat i) (((UInt32.toInt32 (Int32.toUInt32 ((s * (1103515245 : Int32)) + (12345 : Int32)) >>> (Int32.toUInt32 (16 : Int32) &&& Int32.toUInt32 31))) &&& (32767 : Int32)) - ((UInt32.toInt32 (Int32.toUInt32 ((s * (1103515245 : Int32)) + (12345 : Int32)) >>> (Int32.toUInt32 (16 : Int32) &&& Int32.toUInt32 31))) &&& (32767 : Int32)) / (g 20 3) * (g 20 3))) ?_
    refine q_iald (j := (n_sd ((s * (1103515245 : Int32)) + (12345 : Int32)) % n)) (cr_ixu (x := ((s * (1103515245 : Int32)) + (12345 : Int32))) hn hn1 h6) rfl rfl ?_
    refine q_step 4 84 [(0, .ref 34), (1, .ref 20), (2, .int sd), (3, .int (Int32.ofNat m)), (4, .int ((s * (1103515245 : Int32)) + (12345 : Int32))), (5, .int a), (6, .int (Int32.ofNat i)), (7, .int (((UInt32.toInt32 (Int32.toUInt32 ((s * (1103515245 : Int32)) + (12345 : Int32)) >>> (Int32.toUInt32 (16 : Int32) &&& Int32.toUInt32 31))) &&& (32767 : Int32)) - ((UInt32.toInt32 (Int32.toUInt32 ((s * (1103515245 : Int32)) + (12345 : Int32)) >>> (Int32.toUInt32 (16 : Int32) &&& Int32.toUInt32 31))) &&& (32767 : Int32)) / (g 20 3) * (g 20 3)))] [.int (((g 37 (n_sd ((s * (1103515245 : Int32)) + (12345 : Int32)) % n)) + (1 : Int32)) &&& (3 : Int32)), .int (((UInt32.toInt32 (Int32.toUInt32 ((s * (1103515245 : Int32)) + (12345 : Int32)) >>> (Int32.toUInt32 (16 : Int32) &&& Int32.toUInt32 31))) &&& (32767 : Int32)) - ((UInt32.toInt32 (Int32.toUInt32 ((s * (1103515245 : Int32)) + (12345 : Int32)) >>> (Int32.toUInt32 (16 : Int32) &&& Int32.toUInt32 31))) &&& (32767 : Int32)) / (g 20 3) * (g 20 3)), .ref 37] g u (fun big n0 => sg_cw_5 big n0 g u sd (Int32.ofNat m) ((s * (1103515245 : Int32)) + (12345 : Int32)) a (Int32.ofNat i) (((UInt32.toInt32 (Int32.toUInt32 ((s * (1103515245 : Int32)) + (12345 : Int32)) >>> (Int32.toUInt32 (16 : Int32) &&& Int32.toUInt32 31))) &&& (32767 : Int32)) - ((UInt32.toInt32 (Int32.toUInt32 ((s * (1103515245 : Int32)) + (12345 : Int32)) >>> (Int32.toUInt32 (16 : Int32) &&& Int32.toUInt32 31))) &&& (32767 : Int32)) / (g 20 3) * (g 20 3)) (((UInt32.toInt32 (Int32.toUInt32 ((s * (1103515245 : Int32)) + (12345 : Int32)) >>> (Int32.toUInt32 (16 : Int32) &&& Int32.toUInt32 31))) &&& (32767 : Int32)) - ((UInt32.toInt32 (Int32.toUInt32 ((s * (1103515245 : Int32)) + (12345 : Int32)) >>> (Int32.toUInt32 (16 : Int32) &&& Int32.toUInt32 31))) &&& (32767 : Int32)) / (g 20 3) * (g 20 3)) (g 37 (n_sd ((s * (1103515245 : Int32)) + (12345 : Int32)) % n))) ?_
    refine q_iast (j := (n_sd ((s * (1103515245 : Int32)) + (12345 : Int32)) % n)) (cr_ixu (x := ((s * (1103515245 : Int32)) + (12345 : Int32))) hn hn1 h6) rfl rfl ?_
    refine q_step 4 93 [(0, .ref 34), (1, .ref 20), (2, .int sd), (3, .int (Int32.ofNat m)), (4, .int ((s * (1103515245 : Int32)) + (12345 : Int32))), (5, .int a), (6, .int (Int32.ofNat i)), (7, .int (((UInt32.toInt32 (Int32.toUInt32 ((s * (1103515245 : Int32)) + (12345 : Int32)) >>> (Int32.toUInt32 (16 : Int32) &&& Int32.toUInt32 31))) &&& (32767 : Int32)) - ((UInt32.toInt32 (Int32.toUInt32 ((s * (1103515245 : Int32)) + (12345 : Int32)) >>> (Int32.toUInt32 (16 : Int32) &&& Int32.toUInt32 31))) &&& (32767 : Int32)) / (g 20 3) * (g 20 3)))] [.ref 35, .ref 28] (q_up g 37 (n_sd ((s * (1103515245 : Int32)) + (12345 : Int32)) % n) (((g 37 (n_sd ((s * (1103515245 : Int32)) + (12345 : Int32)) % n)) + (1 : Int32)) &&& (3 : Int32))) u (fun big n0 => sg_cw_6 big n0 (q_up g 37 (n_sd ((s * (1103515245 : Int32)) + (12345 : Int32)) % n) (((g 37 (n_sd ((s * (1103515245 : Int32)) + (12345 : Int32)) % n)) + (1 : Int32)) &&& (3 : Int32))) u sd (Int32.ofNat m) ((s * (1103515245 : Int32)) + (12345 : Int32)) a (Int32.ofNat i) (((UInt32.toInt32 (Int32.toUInt32 ((s * (1103515245 : Int32)) + (12345 : Int32)) >>> (Int32.toUInt32 (16 : Int32) &&& Int32.toUInt32 31))) &&& (32767 : Int32)) - ((UInt32.toInt32 (Int32.toUInt32 ((s * (1103515245 : Int32)) + (12345 : Int32)) >>> (Int32.toUInt32 (16 : Int32) &&& Int32.toUInt32 31))) &&& (32767 : Int32)) / (g 20 3) * (g 20 3))) ?_
    have hpl : (n_sd ((s * (1103515245 : Int32)) + (12345 : Int32)) % n) < n := Nat.mod_lt _ (by omega)
    rw [show (q_up g 37 (n_sd ((s * (1103515245 : Int32)) + (12345 : Int32)) % n) (((g 37 (n_sd ((s * (1103515245 : Int32)) + (12345 : Int32)) % n)) + (1 : Int32)) &&& (3 : Int32))) = q_up g 37 (n_sd (f_cs s) % n) (s_mo1 (r1 76 (n_sd (f_cs s) % n))) from by
      have e : g 37 (n_sd ((s * (1103515245 : Int32)) + (12345 : Int32)) % n) = r1 76 (n_sd ((s * (1103515245 : Int32)) + (12345 : Int32)) % n) := (hc.2.2 (n_sd ((s * (1103515245 : Int32)) + (12345 : Int32)) % n) hpl).2.1
      rw [e]
      rfl]
    have hk := w_ok_md (p := n_sd (f_cs s) % n) h (s_mo1_4 (r1 76 (n_sd (f_cs s) % n)))
    have hd := w_cs_md (p := n_sd (f_cs s) % n) (x := s_mo1 (r1 76 (n_sd (f_cs s) % n))) hc
    refine q_call (M2 := 68) (rest := []) (c_st35 u hk hd) (fun _ _ => rfl) ?_
    refine q_step 4 105 [(0, .ref 34), (1, .ref 20), (2, .int sd), (3, .int (Int32.ofNat m)), (4, .int ((s * (1103515245 : Int32)) + (12345 : Int32))), (5, .int a), (6, .int (Int32.ofNat i)), (7, .int (((UInt32.toInt32 (Int32.toUInt32 ((s * (1103515245 : Int32)) + (12345 : Int32)) >>> (Int32.toUInt32 (16 : Int32) &&& Int32.toUInt32 31))) &&& (32767 : Int32)) - ((UInt32.toInt32 (Int32.toUInt32 ((s * (1103515245 : Int32)) + (12345 : Int32)) >>> (Int32.toUInt32 (16 : Int32) &&& Int32.toUInt32 31))) &&& (32767 : Int32)) / (g 20 3) * (g 20 3)))] [.int ((s_step 35 n (q_up g 37 (n_sd (f_cs s) % n) (s_mo1 (r1 76 (n_sd (f_cs s) % n))))) 28 5), .int a] (s_step 35 n (q_up g 37 (n_sd (f_cs s) % n) (s_mo1 (r1 76 (n_sd (f_cs s) % n))))) u (fun big n0 => sg_cw_7 big n0 (s_step 35 n (q_up g 37 (n_sd (f_cs s) % n) (s_mo1 (r1 76 (n_sd (f_cs s) % n))))) u sd (Int32.ofNat m) ((s * (1103515245 : Int32)) + (12345 : Int32)) a (Int32.ofNat i) (((UInt32.toInt32 (Int32.toUInt32 ((s * (1103515245 : Int32)) + (12345 : Int32)) >>> (Int32.toUInt32 (16 : Int32) &&& Int32.toUInt32 31))) &&& (32767 : Int32)) - ((UInt32.toInt32 (Int32.toUInt32 ((s * (1103515245 : Int32)) + (12345 : Int32)) >>> (Int32.toUInt32 (16 : Int32) &&& Int32.toUInt32 31))) &&& (32767 : Int32)) / (g 20 3) * (g 20 3))) ?_
    have hbc := b_bc (((s_step 35 n (q_up g 37 (n_sd (f_cs s) % n) (s_mo1 (r1 76 (n_sd (f_cs s) % n))))) 28 5)) (s_step 35 n (q_up g 37 (n_sd (f_cs s) % n) (s_mo1 (r1 76 (n_sd (f_cs s) % n))))) u
    rw [show d_bc (((s_step 35 n (q_up g 37 (n_sd (f_cs s) % n) (s_mo1 (r1 76 (n_sd (f_cs s) % n))))) 28 5)) (s_step 35 n (q_up g 37 (n_sd (f_cs s) % n) (s_mo1 (r1 76 (n_sd (f_cs s) % n))))) = s_ct (p_wt (s_rst n (gh_cr n s r1))) n 0 0 from w_bc hk hd] at hbc
    refine q_call (M2 := 127) (rest := [.int a]) (hbc) (fun _ _ => rfl) ?_
    refine q_step 4 28 [(0, .ref 34), (1, .ref 20), (2, .int sd), (3, .int (Int32.ofNat m)), (4, .int ((s * (1103515245 : Int32)) + (12345 : Int32))), (5, .int (a + (s_ct (p_wt (s_rst n (gh_cr n s r1))) n 0 0))), (6, .int ((Int32.ofNat i) + (1 : Int32))), (7, .int (((UInt32.toInt32 (Int32.toUInt32 ((s * (1103515245 : Int32)) + (12345 : Int32)) >>> (Int32.toUInt32 (16 : Int32) &&& Int32.toUInt32 31))) &&& (32767 : Int32)) - ((UInt32.toInt32 (Int32.toUInt32 ((s * (1103515245 : Int32)) + (12345 : Int32)) >>> (Int32.toUInt32 (16 : Int32) &&& Int32.toUInt32 31))) &&& (32767 : Int32)) / (g 20 3) * (g 20 3)))] [] (s_step 35 n (q_up g 37 (n_sd (f_cs s) % n) (s_mo1 (r1 76 (n_sd (f_cs s) % n))))) u (fun big n0 => sg_cw_8 big n0 (s_step 35 n (q_up g 37 (n_sd (f_cs s) % n) (s_mo1 (r1 76 (n_sd (f_cs s) % n))))) u sd (Int32.ofNat m) ((s * (1103515245 : Int32)) + (12345 : Int32)) a (Int32.ofNat i) (((UInt32.toInt32 (Int32.toUInt32 ((s * (1103515245 : Int32)) + (12345 : Int32)) >>> (Int32.toUInt32 (16 : Int32) &&& Int32.toUInt32 31))) &&& (32767 : Int32)) - ((UInt32.toInt32 (Int32.toUInt32 ((s * (1103515245 : Int32)) + (12345 : Int32)) >>> (Int32.toUInt32 (16 : Int32) &&& Int32.toUInt32 31))) &&& (32767 : Int32)) / (g 20 3) * (g 20 3)) a (s_ct (p_wt (s_rst n (gh_cr n s r1))) n 0 0)) ?_
    refine q_weak [(0, .ref 34), (1, .ref 20), (2, .int sd), (3, .int (Int32.ofNat m)), (4, .int ((s * (1103515245 : Int32)) + (12345 : Int32))), (5, .int (a + (s_ct (p_wt (s_rst n (gh_cr n s r1))) n 0 0))), (6, .int ((Int32.ofNat i) + (1 : Int32)))] (q_sub.cons rfl (q_sub.cons rfl (q_sub.cons rfl (q_sub.cons rfl (q_sub.cons rfl (q_sub.cons rfl (q_sub.cons rfl q_sub.nil))))))) ?_
    have hf : w_fc g (s_step 35 n (q_up g 37 (n_sd (f_cs s) % n) (s_mo1 (r1 76 (n_sd (f_cs s) % n))))) := w_fc.trans ((w_fc_rfl g).up (by omega)) s_step_35
    rw [q_succ, f_cw, s_ct_add n 0 a]
    exact q_EV.imp (ih (i + 1) (f_cs s) _ _ (s_rst n (gh_cr n s r1)) (by omega) (w_ok_rst hk) (w_step35 hk hd).2.1 (by rw [hf 20 (by omega)]; exact hn)) (fun R z => w_po_c hf rfl z)
theorem c_ws126 {n W H : Nat} {g r : qM} (u : qW) (h : w_ok n W H r) (hc : w_cs 20 n g r) {m : Nat} {sd : Int32} (hm : m ≤ 60) (hn1 : 1 ≤ n) : w_BS w_fc 126 [.ref 34, .ref 20, .int sd, .int (Int32.ofNat m)] g u (.int (f_cw n m sd 0 r)) := by
  refine w_bs (mm := m_126) rfl (Nat.le_of_ble_eq_true rfl) rfl ?_
  have h5 : n ≤ 6 := h.1.2.2.2.2
  have hy := w_cpy (a := 35) (b := 20) h5 (by omega) hc
  refine q_step 3 5 [(0, .ref 34), (1, .ref 20), (2, .int sd), (3, .int (Int32.ofNat m))] [.int (1 : Int32), .int (g 20 3)] g u (fun big n0 => sg_cw_9 big n0 g u sd (Int32.ofNat m)) ?_
  refine q_ic_ge rfl (fun (hc0 : (1 : Int32) ≤ (g 20 3)) => ?_) (fun hc0 => absurd (show (1 : Int32) ≤ (g 20 3) from by rw [hc.1.1, h.2.1]; exact (q_le (i := 1) (j := n) (by omega) (by omega)).mpr (by omega)) hc0)
  refine q_step 3 16 [(0, .ref 34), (1, .ref 20), (2, .int sd), (3, .int (Int32.ofNat m))] [.ref 20, .ref 35] g u (fun big n0 => sg_cw_10 big n0 g u sd (Int32.ofNat m)) ?_
  refine q_call (M2 := 41) (rest := []) (b_cpy35_20 _ _) (fun _ _ => rfl) ?_
  refine q_step 6 28 [(0, .ref 34), (1, .ref 20), (2, .int sd), (3, .int (Int32.ofNat m)), (4, .int sd), (5, .int (0 : Int32)), (6, .int (0 : Int32))] [] (s_cpy 35 20 g) u (fun big n0 => sg_cw_11 big n0 (s_cpy 35 20 g) u sd (Int32.ofNat m)) ?_
  exact q_EV.imp (ws_l u hn1 h5 hm m 0 sd 0 (s_cpy 35 20 g) r (by omega) h hy (by rw [w_cpy_fc 20 (by omega), hc.1.1]; exact h.2.1)) (fun R z => w_po_c w_cpy_fc rfl z)
theorem c_ws0 (g : qM) (u : qW) {m : Nat} {sd : Int32} (hn : g 20 3 = Int32.ofNat 0) : q_BS 126 [.ref 34, .ref 20, .int sd, .int (Int32.ofNat m)] g u (some (.int (Int32.ofInt (-2))), g, u) := by
  refine q_bx (mm := m_126) rfl (Nat.le_of_ble_eq_true rfl) rfl ?_
  refine q_step 3 5 [(0, .ref 34), (1, .ref 20), (2, .int sd), (3, .int (Int32.ofNat m))] [.int (1 : Int32), .int (g 20 3)] g u (fun big n0 => sg_cw_9 big n0 g u sd (Int32.ofNat m)) ?_
  refine q_ic_ge rfl (fun hc0 => absurd (show (1 : Int32) ≤ (g 20 3) from hc0) (by rw [hn]; decide)) (fun (hc0 : ¬ ((1 : Int32) ≤ (g 20 3))) => ?_)
  refine q_ret 2 (some (.int (Int8.toInt32 (Int8.ofInt (-2)))), g, u) (fun _ _ => rfl) ?_
  rfl
theorem c_crowd1 {n W H : Nat} {g r : qM} (u : qW) (h : w_ok n W H r) (hc : w_cs 20 n g r) {m : Nat} {sd : Int32} (hm : m ≤ 60) (hn1 : 1 ≤ n) (hm1 : 1 ≤ m) : w_BS w_fc 125 [.ref 8, .int sd, .int (Int32.ofNat m)] g u (.int (f_cw n m sd 0 r)) := by
  refine w_bs (mm := m_125) rfl (Nat.le_of_ble_eq_true rfl) rfl ?_
  refine q_step 2 2 [(0, .ref 8), (1, .int sd), (2, .int (Int32.ofNat m))] [.int (1 : Int32), .int (Int32.ofNat m)] g u (fun big n0 => sg_cw_12 big n0 g u sd (Int32.ofNat m)) ?_
  refine q_ic_lt rfl (fun hc0 => absurd (show (Int32.ofNat m) < (1 : Int32) from hc0) (fun z => absurd ((q_lt (i := m) (j := 1) (by omega) (by omega)).mp z) (by omega))) (fun (hc0 : ¬ ((Int32.ofNat m) < (1 : Int32))) => ?_)
  refine q_step 2 8 [(0, .ref 8), (1, .int sd), (2, .int (Int32.ofNat m))] [.int (60 : Int32), .int (Int32.ofNat m)] g u (fun big n0 => sg_cw_13 big n0 g u sd (Int32.ofNat m)) ?_
  refine q_ic_le rfl (fun (hc1 : (Int32.ofNat m) ≤ (60 : Int32)) => ?_) (fun hc1 => absurd (show (Int32.ofNat m) ≤ (60 : Int32) from (q_le (i := m) (j := 60) (by omega) (by omega)).mpr hm) hc1)
  refine q_step 6 23 [(0, .ref 8), (1, .int sd), (2, .int (Int32.ofNat m))] [.int (Int32.ofNat m), .int sd, .ref 20, .ref 34] g u (fun big n0 => sg_cw_14 big n0 g u sd (Int32.ofNat m)) ?_
  obtain ⟨g1, u1, hb, hf⟩ := c_ws126 (sd := sd) u h hc hm hn1
  refine q_call (M2 := 126) (rest := []) (hb) (fun _ _ => rfl) ?_
  refine q_ret 1 (some (.int (f_cw n m sd 0 r)), g1, u1) (fun _ _ => rfl) ?_
  exact ⟨g1, u1, rfl, hf⟩
theorem c_crowd0 (g : qM) (u : qW) {m : Nat} {sd : Int32} (hn : g 20 3 = Int32.ofNat 0) (hm : m ≤ 60) (hm1 : 1 ≤ m) : q_BS 125 [.ref 8, .int sd, .int (Int32.ofNat m)] g u (some (.int (Int32.ofInt (-2))), g, u) := by
  refine q_bx (mm := m_125) rfl (Nat.le_of_ble_eq_true rfl) rfl ?_
  refine q_step 2 2 [(0, .ref 8), (1, .int sd), (2, .int (Int32.ofNat m))] [.int (1 : Int32), .int (Int32.ofNat m)] g u (fun big n0 => sg_cw_12 big n0 g u sd (Int32.ofNat m)) ?_
  refine q_ic_lt rfl (fun hc0 => absurd (show (Int32.ofNat m) < (1 : Int32) from hc0) (fun z => absurd ((q_lt (i := m) (j := 1) (by omega) (by omega)).mp z) (by omega))) (fun (hc0 : ¬ ((Int32.ofNat m) < (1 : Int32))) => ?_)
  refine q_step 2 8 [(0, .ref 8), (1, .int sd), (2, .int (Int32.ofNat m))] [.int (60 : Int32), .int (Int32.ofNat m)] g u (fun big n0 => sg_cw_13 big n0 g u sd (Int32.ofNat m)) ?_
  refine q_ic_le rfl (fun (hc1 : (Int32.ofNat m) ≤ (60 : Int32)) => ?_) (fun hc1 => absurd (show (Int32.ofNat m) ≤ (60 : Int32) from (q_le (i := m) (j := 60) (by omega) (by omega)).mpr hm) hc1)
  refine q_step 6 23 [(0, .ref 8), (1, .int sd), (2, .int (Int32.ofNat m))] [.int (Int32.ofNat m), .int sd, .ref 20, .ref 34] g u (fun big n0 => sg_cw_14 big n0 g u sd (Int32.ofNat m)) ?_
  refine q_call (M2 := 126) (rest := []) (c_ws0 g u hn) (fun _ _ => rfl) ?_
  refine q_ret 1 (some (.int (Int32.ofInt (-2))), g, u) (fun _ _ => rfl) ?_
  rfl
theorem rw1 (g : qM) (u : qW) {n m i : Nat} {sd s x6 : Int32} (hn : g 70 4 = Int32.ofNat n) (h6 : n ≤ 6) {Q : Option Value × qM × qW → Prop} : ∀ k q a, q + k = n → q_EV m_215 132 [(0, .ref 70), (1, .int sd), (2, .int (Int32.ofNat m)), (3, .int s), (4, .int (s_ct (p_wt g) k q a)), (5, .int (Int32.ofNat i)), (6, .int x6), (7, .int (Int32.ofNat n))] [] g u Q → q_EV m_215 93 [(0, .ref 70), (1, .int sd), (2, .int (Int32.ofNat m)), (3, .int s), (4, .int a), (5, .int (Int32.ofNat i)), (6, .int x6), (7, .int (Int32.ofNat q))] [] g u Q := by
  intro k
  induction k with
  | zero =>
    intro q a hi hk
    refine q_step 3 99 [(0, .ref 70), (1, .int sd), (2, .int (Int32.ofNat m)), (3, .int s), (4, .int a), (5, .int (Int32.ofNat i)), (6, .int x6), (7, .int (Int32.ofNat q))] [.int (g 70 4), .int (Int32.ofNat q)] g u (fun big n0 => sg_cw_15 big n0 g u sd (Int32.ofNat m) s a (Int32.ofNat i) x6 (Int32.ofNat q)) ?_
    refine q_ic_ge rfl (fun (hc0 : (g 70 4) ≤ (Int32.ofNat q)) => ?_) (fun hc0 => absurd (show (g 70 4) ≤ (Int32.ofNat q) from by rw [hn]; exact (q_le (by omega) (by omega)).mpr (by omega)) hc0)
    have e : q = n := by omega
    rw [e]
    rw [e] at hk
    exact hk
  | succ k ih =>
    intro q a hi hk
    refine q_step 3 99 [(0, .ref 70), (1, .int sd), (2, .int (Int32.ofNat m)), (3, .int s), (4, .int a), (5, .int (Int32.ofNat i)), (6, .int x6), (7, .int (Int32.ofNat q))] [.int (g 70 4), .int (Int32.ofNat q)] g u (fun big n0 => sg_cw_15 big n0 g u sd (Int32.ofNat m) s a (Int32.ofNat i) x6 (Int32.ofNat q)) ?_
    refine q_ic_ge rfl (fun hc0 => absurd (show (g 70 4) ≤ (Int32.ofNat q) from hc0) (fun z => by rw [hn] at z; exact absurd ((q_le (by omega) (by omega)).mp z) (by omega))) (fun (hc0 : ¬ ((g 70 4) ≤ (Int32.ofNat q))) => ?_)
    refine q_step 4 110 [(0, .ref 70), (1, .int sd), (2, .int (Int32.ofNat m)), (3, .int s), (4, .int a), (5, .int (Int32.ofNat i)), (6, .int x6), (7, .int (Int32.ofNat q))] [.int (Int32.ofNat q), .ref 80, .int a] g u (fun big n0 => sg_cw_16 big n0 g u sd (Int32.ofNat m) s a (Int32.ofNat i) x6 (Int32.ofNat q)) ?_
    refine q_iald (j := q) (q_ixn (by omega) (by omega)) rfl rfl ?_
    refine q_step 1 112 [(0, .ref 70), (1, .int sd), (2, .int (Int32.ofNat m)), (3, .int s), (4, .int a), (5, .int (Int32.ofNat i)), (6, .int x6), (7, .int (Int32.ofNat q))] [.int (4 : Int32), .int (g 80 q), .int a] g u (fun big n0 => sg_cw_17 big n0 g u sd (Int32.ofNat m) s a (Int32.ofNat i) x6 (Int32.ofNat q) a (g 80 q)) ?_
    refine q_ic_eq rfl (fun (hc1 : (g 80 q) = (4 : Int32)) => ?_) (fun (hc1 : ¬ ((g 80 q) = (4 : Int32))) => ?_)
    · refine q_step 1 120 [(0, .ref 70), (1, .int sd), (2, .int (Int32.ofNat m)), (3, .int s), (4, .int a), (5, .int (Int32.ofNat i)), (6, .int x6), (7, .int (Int32.ofNat q))] [.int (0 : Int32), .int a] g u (fun big n0 => sg_cw_18 big n0 g u sd (Int32.ofNat m) s a (Int32.ofNat i) x6 (Int32.ofNat q) a) ?_
      refine q_call (M2 := 164) (rest := [.int a]) (b_flag0 _ _) (fun _ _ => rfl) ?_
      refine q_step 4 93 [(0, .ref 70), (1, .int sd), (2, .int (Int32.ofNat m)), (3, .int s), (4, .int (a + (0 : Int32))), (5, .int (Int32.ofNat i)), (6, .int x6), (7, .int ((Int32.ofNat q) + (1 : Int32)))] [] g u (fun big n0 => sg_cw_19 big n0 g u sd (Int32.ofNat m) s a (Int32.ofNat i) x6 (Int32.ofNat q) a) ?_
      rw [s_ct_s (P := p_wt g) (i := q) (by unfold p_wt; exact if_pos hc1)] at hk
      rw [q_succ]
      exact ih (q + 1) _ (by omega) hk
    · refine q_step 2 120 [(0, .ref 70), (1, .int sd), (2, .int (Int32.ofNat m)), (3, .int s), (4, .int a), (5, .int (Int32.ofNat i)), (6, .int x6), (7, .int (Int32.ofNat q))] [.int (1 : Int32), .int a] g u (fun big n0 => sg_cw_20 big n0 g u sd (Int32.ofNat m) s a (Int32.ofNat i) x6 (Int32.ofNat q) a) ?_
      refine q_call (M2 := 164) (rest := [.int a]) (b_flag1 _ _) (fun _ _ => rfl) ?_
      refine q_step 4 93 [(0, .ref 70), (1, .int sd), (2, .int (Int32.ofNat m)), (3, .int s), (4, .int (a + (1 : Int32))), (5, .int (Int32.ofNat i)), (6, .int x6), (7, .int ((Int32.ofNat q) + (1 : Int32)))] [] g u (fun big n0 => sg_cw_21 big n0 g u sd (Int32.ofNat m) s a (Int32.ofNat i) x6 (Int32.ofNat q) a) ?_
      rw [s_ct_s (P := p_wt g) (i := q) (by unfold p_wt; exact if_neg hc1)] at hk
      rw [q_succ]
      exact ih (q + 1) _ (by omega) hk
theorem rw2 (u : qW) {n W H m : Nat} {sd : Int32} (hn1 : 1 ≤ n) (h6 : n ≤ 6) (hm : m ≤ 60) : ∀ k i s a g r1, i + k = m → w_ok n W H r1 → w_sm n g r1 → g 70 4 = Int32.ofNat n → q_EV m_215 36 [(0, .ref 70), (1, .int sd), (2, .int (Int32.ofNat m)), (3, .int s), (4, .int a), (5, .int (Int32.ofNat i))] [] g u (w_po w_fr g (.int (f_cw n k s a r1))) := by
  intro k
  induction k with
  | zero =>
    intro i s a g r1 hi h hs hn
    refine q_step 2 39 [(0, .ref 70), (1, .int sd), (2, .int (Int32.ofNat m)), (3, .int s), (4, .int a), (5, .int (Int32.ofNat i))] [.int (Int32.ofNat m), .int (Int32.ofNat i)] g u (fun big n0 => sg_cw_22 big n0 g u sd (Int32.ofNat m) s a (Int32.ofNat i)) ?_
    refine q_ic_ge rfl (fun (hc0 : (Int32.ofNat m) ≤ (Int32.ofNat i)) => ?_) (fun hc0 => absurd (show (Int32.ofNat m) ≤ (Int32.ofNat i) from by exact (q_le (by omega) (by omega)).mpr (by omega)) hc0)
    refine q_ret 2 (some (.int a), g, u) (fun _ _ => rfl) ?_
    exact ⟨g, u, rfl, w_fr_rfl g⟩
  | succ k ih =>
    intro i s a g r1 hi h hs hn
    refine q_step 2 39 [(0, .ref 70), (1, .int sd), (2, .int (Int32.ofNat m)), (3, .int s), (4, .int a), (5, .int (Int32.ofNat i))] [.int (Int32.ofNat m), .int (Int32.ofNat i)] g u (fun big n0 => sg_cw_22 big n0 g u sd (Int32.ofNat m) s a (Int32.ofNat i)) ?_
    refine q_ic_ge rfl (fun hc0 => absurd (show (Int32.ofNat m) ≤ (Int32.ofNat i) from hc0) (fun z => by exact absurd ((q_le (by omega) (by omega)).mp z) (by omega))) (fun (hc0 : ¬ ((Int32.ofNat m) ≤ (Int32.ofNat i))) => ?_)
    refine q_step 13 64 [(0, .ref 70), (1, .int sd), (2, .int (Int32.ofNat m)), (3, .int ((s * (1103515245 : Int32)) + (12345 : Int32))), (4, .int a), (5, .int (Int32.ofNat i))] [.int (g 70 4), .int ((((s * (1103515245 : Int32)) + (12345 : Int32)) >>> ((16 : Int32) &&& 31)) &&& (32767 : Int32))] g u (fun big n0 => sg_cw_23 big n0 g u sd (Int32.ofNat m) s a (Int32.ofNat i)) ?_
    refine q_irem (by rw [hn]; exact fun z => absurd ((q_eq (i := n) (j := 0) (by omega) (by omega)).mp z) (by omega)) rfl ?_
    refine q_step 7 79 [(0, .ref 70), (1, .int sd), (2, .int (Int32.ofNat m)), (3, .int ((s * (1103515245 : Int32)) + (12345 : Int32))), (4, .int a), (5, .int (Int32.ofNat i)), (6, .int (((((s * (1103515245 : Int32)) + (12345 : Int32)) >>> ((16 : Int32) &&& 31)) &&& (32767 : Int32)) - ((((s * (1103515245 : Int32)) + (12345 : Int32)) >>> ((16 : Int32) &&& 31)) &&& (32767 : Int32)) / (g 70 4) * (g 70 4)))] [.int (((((s * (1103515245 : Int32)) + (12345 : Int32)) >>> ((16 : Int32) &&& 31)) &&& (32767 : Int32)) - ((((s * (1103515245 : Int32)) + (12345 : Int32)) >>> ((16 : Int32) &&& 31)) &&& (32767 : Int32)) / (g 70 4) * (g 70 4)), .ref 76, .int (((((s * (1103515245 : Int32)) + (12345 : Int32)) >>> ((16 : Int32) &&& 31)) &&& (32767 : Int32)) - ((((s * (1103515245 : Int32)) + (12345 : Int32)) >>> ((16 : Int32) &&& 31)) &&& (32767 : Int32)) / (g 70 4) * (g 70 4)), .ref 76] g u (fun big n0 => sg_cw_24 big n0 g u sd (Int32.ofNat m) ((s * (1103515245 : Int32)) + (12345 : Int32)) a (Int32.ofNat i) (((((s * (1103515245 : Int32)) + (12345 : Int32)) >>> ((16 : Int32) &&& 31)) &&& (32767 : Int32)) - ((((s * (1103515245 : Int32)) + (12345 : Int32)) >>> ((16 : Int32) &&& 31)) &&& (32767 : Int32)) / (g 70 4) * (g 70 4))) ?_
    refine q_iald (j := (n_sd ((s * (1103515245 : Int32)) + (12345 : Int32)) % n)) (cr_ix (x := ((s * (1103515245 : Int32)) + (12345 : Int32))) hn hn1 h6) rfl rfl ?_
    refine q_step 4 84 [(0, .ref 70), (1, .int sd), (2, .int (Int32.ofNat m)), (3, .int ((s * (1103515245 : Int32)) + (12345 : Int32))), (4, .int a), (5, .int (Int32.ofNat i)), (6, .int (((((s * (1103515245 : Int32)) + (12345 : Int32)) >>> ((16 : Int32) &&& 31)) &&& (32767 : Int32)) - ((((s * (1103515245 : Int32)) + (12345 : Int32)) >>> ((16 : Int32) &&& 31)) &&& (32767 : Int32)) / (g 70 4) * (g 70 4)))] [.int (((g 76 (n_sd ((s * (1103515245 : Int32)) + (12345 : Int32)) % n)) + (1 : Int32)) - ((g 76 (n_sd ((s * (1103515245 : Int32)) + (12345 : Int32)) % n)) + (1 : Int32)) / (4 : Int32) * (4 : Int32)), .int (((((s * (1103515245 : Int32)) + (12345 : Int32)) >>> ((16 : Int32) &&& 31)) &&& (32767 : Int32)) - ((((s * (1103515245 : Int32)) + (12345 : Int32)) >>> ((16 : Int32) &&& 31)) &&& (32767 : Int32)) / (g 70 4) * (g 70 4)), .ref 76] g u (fun big n0 => sg_cw_25 big n0 g u sd (Int32.ofNat m) ((s * (1103515245 : Int32)) + (12345 : Int32)) a (Int32.ofNat i) (((((s * (1103515245 : Int32)) + (12345 : Int32)) >>> ((16 : Int32) &&& 31)) &&& (32767 : Int32)) - ((((s * (1103515245 : Int32)) + (12345 : Int32)) >>> ((16 : Int32) &&& 31)) &&& (32767 : Int32)) / (g 70 4) * (g 70 4)) (((((s * (1103515245 : Int32)) + (12345 : Int32)) >>> ((16 : Int32) &&& 31)) &&& (32767 : Int32)) - ((((s * (1103515245 : Int32)) + (12345 : Int32)) >>> ((16 : Int32) &&& 31)) &&& (32767 : Int32)) / (g 70 4) * (g 70 4)) (g 76 (n_sd ((s * (1103515245 : Int32)) + (12345 : Int32)) % n))) ?_
    refine q_iast (j := (n_sd ((s * (1103515245 : Int32)) + (12345 : Int32)) % n)) (cr_ix (x := ((s * (1103515245 : Int32)) + (12345 : Int32))) hn hn1 h6) rfl rfl ?_
    refine q_step 1 86 [(0, .ref 70), (1, .int sd), (2, .int (Int32.ofNat m)), (3, .int ((s * (1103515245 : Int32)) + (12345 : Int32))), (4, .int a), (5, .int (Int32.ofNat i)), (6, .int (((((s * (1103515245 : Int32)) + (12345 : Int32)) >>> ((16 : Int32) &&& 31)) &&& (32767 : Int32)) - ((((s * (1103515245 : Int32)) + (12345 : Int32)) >>> ((16 : Int32) &&& 31)) &&& (32767 : Int32)) / (g 70 4) * (g 70 4)))] [.ref 70] (q_up g 76 (n_sd ((s * (1103515245 : Int32)) + (12345 : Int32)) % n) (((g 76 (n_sd ((s * (1103515245 : Int32)) + (12345 : Int32)) % n)) + (1 : Int32)) - ((g 76 (n_sd ((s * (1103515245 : Int32)) + (12345 : Int32)) % n)) + (1 : Int32)) / (4 : Int32) * (4 : Int32))) u (fun big n0 => sg_cw_26 big n0 (q_up g 76 (n_sd ((s * (1103515245 : Int32)) + (12345 : Int32)) % n) (((g 76 (n_sd ((s * (1103515245 : Int32)) + (12345 : Int32)) % n)) + (1 : Int32)) - ((g 76 (n_sd ((s * (1103515245 : Int32)) + (12345 : Int32)) % n)) + (1 : Int32)) / (4 : Int32) * (4 : Int32))) u sd (Int32.ofNat m) ((s * (1103515245 : Int32)) + (12345 : Int32)) a (Int32.ofNat i) (((((s * (1103515245 : Int32)) + (12345 : Int32)) >>> ((16 : Int32) &&& 31)) &&& (32767 : Int32)) - ((((s * (1103515245 : Int32)) + (12345 : Int32)) >>> ((16 : Int32) &&& 31)) &&& (32767 : Int32)) / (g 70 4) * (g 70 4))) ?_
    have hpl : (n_sd ((s * (1103515245 : Int32)) + (12345 : Int32)) % n) < n := Nat.mod_lt _ (by omega)
    rw [show (q_up g 76 (n_sd ((s * (1103515245 : Int32)) + (12345 : Int32)) % n) (((g 76 (n_sd ((s * (1103515245 : Int32)) + (12345 : Int32)) % n)) + (1 : Int32)) - ((g 76 (n_sd ((s * (1103515245 : Int32)) + (12345 : Int32)) % n)) + (1 : Int32)) / (4 : Int32) * (4 : Int32))) = (q_up g 76 (n_sd (f_cs s) % n) (s_mo1 (r1 76 (n_sd (f_cs s) % n)))) from by
      have e : g 76 (n_sd ((s * (1103515245 : Int32)) + (12345 : Int32)) % n) = r1 76 (n_sd ((s * (1103515245 : Int32)) + (12345 : Int32)) % n) := (hs.2.2 (n_sd ((s * (1103515245 : Int32)) + (12345 : Int32)) % n) hpl).2.1
      rw [e, s_mo1_r (h.2.2.2.2.2.2.2.1 (n_sd ((s * (1103515245 : Int32)) + (12345 : Int32)) % n) hpl)]
      rfl]
    have hk := w_ok_md (p := n_sd (f_cs s) % n) h (s_mo1_4 (r1 76 (n_sd (f_cs s) % n)))
    have hd := w_sm_md (p := n_sd (f_cs s) % n) (x := s_mo1 (r1 76 (n_sd (f_cs s) % n))) hs
    refine q_call (M2 := 191) (rest := []) (c_rst u hk hd) (fun _ _ => rfl) ?_
    refine q_step 3 93 [(0, .ref 70), (1, .int sd), (2, .int (Int32.ofNat m)), (3, .int ((s * (1103515245 : Int32)) + (12345 : Int32))), (4, .int a), (5, .int (Int32.ofNat i)), (6, .int (((((s * (1103515245 : Int32)) + (12345 : Int32)) >>> ((16 : Int32) &&& 31)) &&& (32767 : Int32)) - ((((s * (1103515245 : Int32)) + (12345 : Int32)) >>> ((16 : Int32) &&& 31)) &&& (32767 : Int32)) / (g 70 4) * (g 70 4))), (7, .int (0 : Int32))] [] (s_rst n (q_up g 76 (n_sd (f_cs s) % n) (s_mo1 (r1 76 (n_sd (f_cs s) % n))))) u (fun big n0 => sg_cw_27 big n0 (s_rst n (q_up g 76 (n_sd (f_cs s) % n) (s_mo1 (r1 76 (n_sd (f_cs s) % n))))) u sd (Int32.ofNat m) ((s * (1103515245 : Int32)) + (12345 : Int32)) a (Int32.ofNat i) (((((s * (1103515245 : Int32)) + (12345 : Int32)) >>> ((16 : Int32) &&& 31)) &&& (32767 : Int32)) - ((((s * (1103515245 : Int32)) + (12345 : Int32)) >>> ((16 : Int32) &&& 31)) &&& (32767 : Int32)) / (g 70 4) * (g 70 4)) (s_ran n (q_up g 76 (n_sd (f_cs s) % n) (s_mo1 (r1 76 (n_sd (f_cs s) % n)))))) ?_
    have hf : w_fr g (s_rst n (q_up g 76 (n_sd (f_cs s) % n) (s_mo1 (r1 76 (n_sd (f_cs s) % n))))) := ((w_fr_rfl g).up (by omega)).trans s_rst_fr
    have hn2 : (s_rst n (q_up g 76 (n_sd (f_cs s) % n) (s_mo1 (r1 76 (n_sd (f_cs s) % n))))) 70 4 = Int32.ofNat n := (hf.2 4 (by omega)).trans hn
    refine rw1 (s_rst n (q_up g 76 (n_sd (f_cs s) % n) (s_mo1 (r1 76 (n_sd (f_cs s) % n))))) u (n := n) hn2 h6 n 0 a (by omega) ?_
    rw [show s_ct (p_wt (s_rst n (q_up g 76 (n_sd (f_cs s) % n) (s_mo1 (r1 76 (n_sd (f_cs s) % n)))))) n 0 a = s_ct (p_wt (s_rst n (gh_cr n s r1))) n 0 a from s_ct_cg n 0 a (fun q _ hq => by
      unfold p_wt
      rw [((w_sm_rst hk hd).2.1 q (by omega)).2]
      rfl)]
    refine q_weak [(0, .ref 70), (1, .int sd), (2, .int (Int32.ofNat m)), (3, .int (f_cs s)), (4, .int (s_ct (p_wt (s_rst n (gh_cr n s r1))) n 0 a)), (5, .int (Int32.ofNat i)), (7, .int (Int32.ofNat n))] (q_sub.cons rfl (q_sub.cons rfl (q_sub.cons rfl (q_sub.cons rfl (q_sub.cons rfl (q_sub.cons rfl (q_sub.cons rfl q_sub.nil))))))) ?_
    refine q_step 2 36 [(0, .ref 70), (1, .int sd), (2, .int (Int32.ofNat m)), (3, .int (f_cs s)), (4, .int (s_ct (p_wt (s_rst n (gh_cr n s r1))) n 0 a)), (5, .int ((Int32.ofNat i) + (1 : Int32))), (7, .int (Int32.ofNat n))] [] (s_rst n (q_up g 76 (n_sd (f_cs s) % n) (s_mo1 (r1 76 (n_sd (f_cs s) % n))))) u (fun big n0 => sg_cw_28 big n0 (s_rst n (q_up g 76 (n_sd (f_cs s) % n) (s_mo1 (r1 76 (n_sd (f_cs s) % n))))) u sd (Int32.ofNat m) (f_cs s) (s_ct (p_wt (s_rst n (gh_cr n s r1))) n 0 a) (Int32.ofNat i) (Int32.ofNat n)) ?_
    refine q_weak [(0, .ref 70), (1, .int sd), (2, .int (Int32.ofNat m)), (3, .int (f_cs s)), (4, .int (s_ct (p_wt (s_rst n (gh_cr n s r1))) n 0 a)), (5, .int ((Int32.ofNat i) + (1 : Int32)))] (q_sub.cons rfl (q_sub.cons rfl (q_sub.cons rfl (q_sub.cons rfl (q_sub.cons rfl (q_sub.cons rfl q_sub.nil)))))) ?_
    rw [q_succ, f_cw]
    exact q_EV.imp (ih (i + 1) (f_cs s) _ _ (s_rst n (gh_cr n s r1)) (by omega) (w_ok_rst hk) (w_sm_rst hk hd).1 hn2) (fun R z => w_po_r hf rfl z)
theorem r_crowd1 {n W H : Nat} {g r : qM} (u : qW) (h : w_ok n W H r) (hs : w_sm n (s_start g) r) (h5 : n ≤ 5) {m : Nat} {sd : Int32} (hm : m ≤ 60) (hm1 : 1 ≤ m) (hn1 : 1 ≤ n) : w_BS w_fr 215 [.ref 70, .int sd, .int (Int32.ofNat m)] g u (.int (f_cw n m sd 0 r)) := by
  refine w_bs (mm := m_215) rfl (Nat.le_of_ble_eq_true rfl) rfl ?_
  refine q_step 4 6 [(0, .ref 70), (1, .int sd), (2, .int (Int32.ofNat m))] [.long (60 : Int64), .long (1 : Int64), .long (Int32.toInt64 (Int32.ofNat m))] g u (fun big n0 => sg_cw_29 big n0 g u sd (Int32.ofNat m)) ?_
  refine q_call (M2 := 149) (rest := []) (b_in1 (m := m) (lo := 1) (hi := 60) g u (by omega) (by omega) (by omega)) (fun _ _ => rfl) ?_
  refine q_step 3 18 [(0, .ref 70), (1, .int sd), (2, .int (Int32.ofNat m))] [.int (g 70 4)] g u (fun big n0 => sg_cw_30 big n0 g u sd (Int32.ofNat m)) ?_
  refine q_if_ne rfl (fun hc0 => absurd (show (g 70 4) = 0 from hc0) (by rw [w_pl h hs]; exact fun z => absurd ((q_eq (i := n) (j := 0) (by omega) (by omega)).mp z) (by omega))) (fun (hc0 : ¬ ((g 70 4) = 0)) => ?_)
  refine q_step 1 25 [(0, .ref 70), (1, .int sd), (2, .int (Int32.ofNat m))] [.ref 70] g u (fun big n0 => sg_cw_31 big n0 g u sd (Int32.ofNat m)) ?_
  refine q_call (M2 := 172) (rest := []) (b_starts g u) (fun _ _ => rfl) ?_
  refine q_step 6 36 [(0, .ref 70), (1, .int sd), (2, .int (Int32.ofNat m)), (3, .int sd), (4, .int (0 : Int32)), (5, .int (0 : Int32))] [] (s_start g) u (fun big n0 => sg_cw_32 big n0 (s_start g) u sd (Int32.ofNat m)) ?_
  exact q_EV.imp (rw2 u hn1 (by omega) hm m 0 sd 0 (s_start g) r (by omega) h hs (show g 70 4 = Int32.ofNat n from w_pl h hs)) (fun R z => w_po_r s_start_fr rfl z)
theorem r_crowd0 (g : qM) (u : qW) {m : Nat} {sd : Int32} (hn : g 70 4 = Int32.ofNat 0) (hm : m ≤ 60) (hm1 : 1 ≤ m) : q_BS 215 [.ref 70, .int sd, .int (Int32.ofNat m)] g u (some (.int (Int32.ofInt (-2))), g, u) := by
  refine q_bx (mm := m_215) rfl (Nat.le_of_ble_eq_true rfl) rfl ?_
  refine q_step 4 6 [(0, .ref 70), (1, .int sd), (2, .int (Int32.ofNat m))] [.long (60 : Int64), .long (1 : Int64), .long (Int32.toInt64 (Int32.ofNat m))] g u (fun big n0 => sg_cw_29 big n0 g u sd (Int32.ofNat m)) ?_
  refine q_call (M2 := 149) (rest := []) (b_in1 (m := m) (lo := 1) (hi := 60) g u (by omega) (by omega) (by omega)) (fun _ _ => rfl) ?_
  refine q_step 3 18 [(0, .ref 70), (1, .int sd), (2, .int (Int32.ofNat m))] [.int (g 70 4)] g u (fun big n0 => sg_cw_30 big n0 g u sd (Int32.ofNat m)) ?_
  refine q_if_ne rfl (fun (hc0 : (g 70 4) = 0) => ?_) (fun hc0 => absurd (show (g 70 4) = 0 from hn) hc0)
  refine q_ret 2 (some (.int (Int8.toInt32 (Int8.ofInt (-2)))), g, u) (fun _ _ => rfl) ?_
  rfl
end
section
/-! NUMBERS THAT ARE AS TOLD, and those that are not. -/
def v_one (n : Nat) (x : Int32) : Prop := ∃ p, p < n ∧ x = Int32.ofNat p
def v_rg (lo hi : Nat) (x : Int32) : Prop := ∃ m, lo ≤ m ∧ m ≤ hi ∧ x = Int32.ofNat m
def v_tot (n : Nat) (x : Int32) : Prop := x = 0 ∨ ∃ p, p < n ∧ x = Int32.ofNat (10 + p)
def v_nw (x : Int32) : Prop := x = 0 ∨ v_rg 10 13 x
theorem v_nat {x : Int32} {lo hi : Nat} (h1 : (lo : Int) ≤ x.toInt) (h2 : x.toInt ≤ (hi : Int)) : v_rg lo hi x := ⟨x.toInt.toNat, by omega, by omega, q_of (by omega)⟩
theorem vo_c {n : Nat} {x : Int32} {g : qM} (hn : g 20 3 = Int32.ofNat n) (h6 : n ≤ 6) (h : ¬ d_hasOne x g = 0) : v_one n x := by
  obtain ⟨h1, h2⟩ := s_hasOne h
  rw [hn, q_nat (by omega)] at h2
  exact ⟨x.toInt.toNat, by omega, q_of h1⟩
theorem vo_r {n : Nat} {x : Int32} {g : qM} (hn : g 70 4 = Int32.ofNat n) (h6 : n ≤ 6) (h : ¬ d_risOne x g = 0) : v_one n x := by
  obtain ⟨h1, h2⟩ := s_risOne hn h6 h
  exact ⟨x.toInt.toNat, by omega, q_of h1⟩
theorem vr_c {lo hi : Nat} {x : Int32} (hl : lo < 1000) (hh : hi < 1000) (h1 : ¬ x < Int32.ofNat lo) (h2 : ¬ Int32.ofNat hi < x) : v_rg lo hi x := by
  rw [Int32.lt_iff_toInt_lt, q_nat (by omega)] at h1 h2
  exact v_nat (by omega) (by omega)
theorem vr_c' {lo hi : Nat} {x : Int32} (hl : lo < 1000) (hh : hi < 1000) (h1 : ¬ x < Int32.ofNat lo) (h2 : x ≤ Int32.ofNat hi) : v_rg lo hi x := vr_c hl hh h1 (Int32.not_lt.mpr h2)
theorem vr_lt {lo hi : Nat} {x : Int32} (hl : lo < 1000) (hh : hi < 1000) (h1 : ¬ x < Int32.ofNat lo) (h2 : x < Int32.ofNat (hi + 1)) : v_rg lo hi x := by
  rw [Int32.lt_iff_toInt_lt, q_nat (by omega)] at h1 h2
  exact v_nat (by omega) (by omega)
theorem vr_r {lo hi : Nat} {x : Int32} (hl : lo < 1000) (hh : hi < 1000) (h : ¬ s_in (Int32.toInt64 x) (Int64.ofNat lo) (Int64.ofNat hi) = 0) : v_rg lo hi x := by
  have z := s_in_i.mp h
  rw [Int64.toInt_ofNat_of_lt (by omega), Int64.toInt_ofNat_of_lt (by omega)] at z
  exact v_nat z.1 z.2
theorem vr_half {x : Int32} {g : qM} (h : ¬ d_isHalf x g = 0) : v_rg 0 1 x := by
  unfold d_isHalf at h
  by_cases e : x = 0
  · exact ⟨0, by omega, by omega, e⟩
  · rw [if_neg e] at h
    by_cases e1 : x = 1
    · exact ⟨1, by omega, by omega, e1⟩
    · rw [if_neg e1] at h
      exact absurd rfl h
theorem vr_ite {x : Int32} {hi : Nat} (hh : hi < 1000) (h : ¬ (if x < 0 then (0 : Int32) else (if Int32.ofNat hi < x then (0 : Int32) else (1 : Int32))) = 0) : v_rg 0 hi x := by
  by_cases e : x < 0
  · rw [if_pos e] at h
    exact absurd rfl h
  · rw [if_neg e] at h
    by_cases e1 : Int32.ofNat hi < x
    · rw [if_pos e1] at h
      exact absurd rfl h
    · exact vr_c (lo := 0) (by omega) hh e e1
theorem vr_srch {x : Int32} {g : qM} (h : ¬ d_isSearched x g = 0) : v_rg 0 12 x := vr_ite (by omega) h
theorem vr_mood {x : Int32} {g : qM} (h : ¬ d_isMood x g = 0) : v_rg 0 3 x := vr_ite (by omega) h
theorem vr_lane {x : Int32} {g : qM} (h : ¬ d_isLane x g = 0) : v_rg 0 2 x := vr_ite (by omega) h
theorem vr_sheet {x : Int32} {g : qM} (h : ¬ d_isSheet x g = 0) : v_rg 0 3 x := by
  unfold d_isSheet at h
  by_cases e : x < 0
  · rw [if_pos e] at h
    exact absurd rfl h
  · rw [if_neg e] at h
    by_cases e1 : (4 : Int32) ≤ x
    · rw [if_pos e1] at h
      exact absurd rfl h
    · rw [Int32.le_iff_toInt_le] at e1
      rw [Int32.lt_iff_toInt_lt] at e
      have z4 : (4 : Int32).toInt = 4 := rfl
      have z0 : (0 : Int32).toInt = 0 := rfl
      exact v_nat (by omega) (by omega)
theorem vc_c {W H : Nat} {x : Int32} {g : qM} (hW : g 20 0 = Int32.ofNat W) (hH : g 20 1 = Int32.ofNat H) (h25 : W * H ≤ 25) (h : ¬ d_hasCell x g = 0) : v_one (W * H) x := by
  unfold d_hasCell d_size at h
  rw [hW, hH, q_mul] at h
  by_cases e : x < 0
  · rw [if_pos e] at h
    exact absurd rfl h
  · rw [if_neg e] at h
    by_cases e1 : Int32.ofNat (W * H) ≤ x
    · rw [if_pos e1] at h
      exact absurd rfl h
    · rw [Int32.le_iff_toInt_le, q_nat (by omega)] at e1
      rw [Int32.lt_iff_toInt_lt] at e
      have z0 : (0 : Int32).toInt = 0 := rfl
      exact ⟨x.toInt.toNat, by omega, q_of (by omega)⟩
theorem s_wh1 {W H : Nat} (h25 : W * H ≤ 25) : (Int32.ofNat W * Int32.ofNat H - 1).toInt = ((W * H : Nat) : Int) - 1 := by
  rw [q_mul, s_sub (by rw [q_nat (by omega)]; have : (1 : Int32).toInt = 1 := rfl; omega) (by rw [q_nat (by omega)]; have : (1 : Int32).toInt = 1 := rfl; omega), q_nat (by omega)]
  rfl
theorem vc_r {W H : Nat} {x : Int32} {g : qM} (hW : g 70 2 = Int32.ofNat W) (hH : g 70 3 = Int32.ofNat H) (h25 : W * H ≤ 25) (h : ¬ d_risCell x g = 0) : v_one (W * H) x := by
  unfold d_risCell at h
  have z := s_in_i.mp h
  have z0 : (0 : Int64).toInt = 0 := rfl
  rw [Int32.toInt_toInt64, hW, hH, s_wh1 h25] at z
  exact ⟨x.toInt.toNat, by omega, q_of (by omega)⟩
theorem vt_1 {n : Nat} {x : Int32} (h : v_one n (x - 10)) (h6 : n ≤ 6) : v_tot n x := by
  obtain ⟨p, hp, e⟩ := h
  refine Or.inr ⟨p, hp, ?_⟩
  have e2 : x = (x - 10) + 10 := (Int32.sub_add_cancel x 10).symm
  rw [e2, e, show (10 : Int32) = Int32.ofNat 10 from rfl, q_add, Nat.add_comm]
theorem vn_c {x : Int32} (h1 : ¬ x < 10) (h2 : ¬ 4 ≤ x - 10) : v_nw x := by
  rw [Int32.lt_iff_toInt_lt] at h1
  rw [Int32.le_iff_toInt_le] at h2
  have z4 : (4 : Int32).toInt = 4 := rfl
  have z10 : (10 : Int32).toInt = 10 := rfl
  have hb := Int32.toInt_lt x
  rw [s_sub (by omega) (by omega)] at h2
  exact Or.inr (v_nat (by omega) (by omega))
theorem vn_r {x : Int32} (h : ¬ s_in (Int32.toInt64 x) 10 13 = 0) : v_nw x := Or.inr (vr_r (lo := 10) (hi := 13) (by omega) (by omega) h)
section EVT
variable {mm : pm_M} {pc : Nat} {lv : pm_L} {st : List Value} {g : qM} {u : qW} {Q : Option Value × qM × qW → Prop}
theorem q_tswd {x : Int32} {d lo hi : Int} {offs : Array Int} {tgt a b : Nat} {z : Int} (he : pm_at mm pc = some (.tableswitch d lo hi offs, a, b, z)) (hx : x.toInt < lo ∨ hi < x.toInt) (ht : (pc : Int) + d = (tgt : Int)) (hE : q_EV mm tgt lv st g u Q) : q_EV mm pc lv (.int x :: st) g u Q := by
  refine q_step 1 tgt lv st g u (fun big n => ?_) hE
  show (match pm_at mm pc with
    | some e => qm_step pm_m big mm (qm_run pm_m big mm n) e pc lv (.int x :: st) g u
    | none => none) = _
  rw [he]
  show qm_tsw (qm_run pm_m big mm n) d lo hi offs pc lv (.int x :: st) g u = _
  have hj : qm_jump (qm_run pm_m big mm n) ((pc : Int) + d) lv st g u = qm_run pm_m big mm n tgt lv st g u := by
    unfold qm_jump
    rw [ht, if_pos (by omega), Int.toNat_natCast]
  unfold qm_tsw
  dsimp only
  by_cases h1 : x.toInt < lo
  · rw [if_pos h1]
    exact hj
  · rw [if_neg h1, if_pos (by omega)]
    exact hj
end EVT
theorem sg_ba_1 (big : Nat → List Value → qM → qW → qR) (n0 : Nat) (G : qM) (U : qW) (v0 : Int32) : qm_run pm_m big m_91 (n0 + 1) 0 [(0, .ref 8), (1, .int v0)] [] G U = qm_run pm_m big m_91 n0 1 [(0, .ref 8), (1, .int v0)] [.int v0] G U := rfl
theorem sg_ba_2 (big : Nat → List Value → qM → qW → qR) (n0 : Nat) (G : qM) (U : qW) (v0 : Int32) : qm_run pm_m big m_91 (n0 + 2) 4 [(0, .ref 8), (1, .int v0)] [] G U = qm_run pm_m big m_91 n0 7 [(0, .ref 8), (1, .int v0)] [.int (10 : Int32), .int v0] G U := rfl
theorem sg_ba_3 (big : Nat → List Value → qM → qW → qR) (n0 : Nat) (G : qM) (U : qW) (v0 : Int32) : qm_run pm_m big m_91 (n0 + 5) 10 [(0, .ref 8), (1, .int v0)] [] G U = qm_run pm_m big m_91 n0 18 [(0, .ref 8), (1, .int v0)] [.int (v0 - (10 : Int32)), .ref 20] G U := rfl
theorem sg_ba_4 (big : Nat → List Value → qM → qW → qR) (n0 : Nat) (G : qM) (U : qW) (v0 : Int32) (v1 : Int32) : qm_run pm_m big m_56 (n0 + 3) 0 [(0, .ref 8), (1, .int v0), (2, .int v1)] [] G U = qm_run pm_m big m_56 n0 5 [(0, .ref 8), (1, .int v0), (2, .int v1)] [.int v0, .ref 20] G U := rfl
theorem sg_ba_5 (big : Nat → List Value → qM → qW → qR) (n0 : Nat) (G : qM) (U : qW) (v0 : Int32) (v1 : Int32) : qm_run pm_m big m_56 (n0 + 1) 11 [(0, .ref 8), (1, .int v0), (2, .int v1)] [] G U = qm_run pm_m big m_56 n0 12 [(0, .ref 8), (1, .int v0), (2, .int v1)] [.int v1] G U := rfl
theorem sg_ba_6 (big : Nat → List Value → qM → qW → qR) (n0 : Nat) (G : qM) (U : qW) (v0 : Int32) (v1 : Int32) : qm_run pm_m big m_183 (n0 + 2) 0 [(0, .ref 70), (1, .int v0), (2, .int v1)] [] G U = qm_run pm_m big m_183 n0 2 [(0, .ref 70), (1, .int v0), (2, .int v1)] [.int v0, .ref 70] G U := rfl
theorem sg_ba_7 (big : Nat → List Value → qM → qW → qR) (n0 : Nat) (G : qM) (U : qW) (v0 : Int32) (v1 : Int32) : qm_run pm_m big m_183 (n0 + 4) 8 [(0, .ref 70), (1, .int v0), (2, .int v1)] [] G U = qm_run pm_m big m_183 n0 12 [(0, .ref 70), (1, .int v0), (2, .int v1)] [.long (1 : Int64), .long (0 : Int64), .long (Int32.toInt64 v1)] G U := rfl
theorem sg_ba_8 (big : Nat → List Value → qM → qW → qR) (n0 : Nat) (G : qM) (U : qW) (v0 : Int32) : qm_run pm_m big m_65 (n0 + 3) 0 [(0, .ref 8), (1, .int v0)] [] G U = qm_run pm_m big m_65 n0 5 [(0, .ref 8), (1, .int v0)] [.int v0, .ref 20] G U := rfl
theorem sg_ba_9 (big : Nat → List Value → qM → qW → qR) (n0 : Nat) (G : qM) (U : qW) (v0 : Int32) : qm_run pm_m big m_188 (n0 + 2) 0 [(0, .ref 70), (1, .int v0)] [] G U = qm_run pm_m big m_188 n0 2 [(0, .ref 70), (1, .int v0)] [.int v0, .ref 70] G U := rfl
theorem sg_ba_10 (big : Nat → List Value → qM → qW → qR) (n0 : Nat) (G : qM) (U : qW) (v0 : Int32) : qm_run pm_m big m_75 (n0 + 1) 0 [(0, .ref 8), (1, .int v0)] [] G U = qm_run pm_m big m_75 n0 1 [(0, .ref 8), (1, .int v0)] [.int v0] G U := rfl
theorem sg_ba_11 (big : Nat → List Value → qM → qW → qR) (n0 : Nat) (G : qM) (U : qW) (v0 : Int32) : qm_run pm_m big m_75 (n0 + 2) 4 [(0, .ref 8), (1, .int v0)] [] G U = qm_run pm_m big m_75 n0 7 [(0, .ref 8), (1, .int v0)] [.int (60 : Int32), .int v0] G U := rfl
theorem sg_ba_12 (big : Nat → List Value → qM → qW → qR) (n0 : Nat) (G : qM) (U : qW) (v0 : Int32) : qm_run pm_m big m_196 (n0 + 4) 0 [(0, .ref 70), (1, .int v0)] [] G U = qm_run pm_m big m_196 n0 6 [(0, .ref 70), (1, .int v0)] [.long (60 : Int64), .long (0 : Int64), .long (Int32.toInt64 v0)] G U := rfl
theorem sg_ba_13 (big : Nat → List Value → qM → qW → qR) (n0 : Nat) (G : qM) (U : qW) (v0 : Int32) (v1 : Int32) (v2 : Int32) : qm_run pm_m big m_79 (n0 + 3) 0 [(0, .ref 8), (1, .int v0), (2, .int v1), (3, .int v2)] [] G U = qm_run pm_m big m_79 n0 5 [(0, .ref 8), (1, .int v0), (2, .int v1), (3, .int v2)] [.int v0, .ref 20] G U := rfl
theorem sg_ba_14 (big : Nat → List Value → qM → qW → qR) (n0 : Nat) (G : qM) (U : qW) (v0 : Int32) (v1 : Int32) (v2 : Int32) : qm_run pm_m big m_79 (n0 + 1) 11 [(0, .ref 8), (1, .int v0), (2, .int v1), (3, .int v2)] [] G U = qm_run pm_m big m_79 n0 12 [(0, .ref 8), (1, .int v0), (2, .int v1), (3, .int v2)] [.int v1] G U := rfl
theorem sg_ba_15 (big : Nat → List Value → qM → qW → qR) (n0 : Nat) (G : qM) (U : qW) (v0 : Int32) (v1 : Int32) (v2 : Int32) : qm_run pm_m big m_79 (n0 + 2) 15 [(0, .ref 8), (1, .int v0), (2, .int v1), (3, .int v2)] [] G U = qm_run pm_m big m_79 n0 18 [(0, .ref 8), (1, .int v0), (2, .int v1), (3, .int v2)] [.int (60 : Int32), .int v1] G U := rfl
theorem sg_ba_16 (big : Nat → List Value → qM → qW → qR) (n0 : Nat) (G : qM) (U : qW) (v0 : Int32) (v1 : Int32) (v2 : Int32) : qm_run pm_m big m_79 (n0 + 1) 21 [(0, .ref 8), (1, .int v0), (2, .int v1), (3, .int v2)] [] G U = qm_run pm_m big m_79 n0 22 [(0, .ref 8), (1, .int v0), (2, .int v1), (3, .int v2)] [.int v2] G U := rfl
theorem sg_ba_17 (big : Nat → List Value → qM → qW → qR) (n0 : Nat) (G : qM) (U : qW) (v0 : Int32) (v1 : Int32) (v2 : Int32) : qm_run pm_m big m_198 (n0 + 2) 0 [(0, .ref 70), (1, .int v0), (2, .int v1), (3, .int v2)] [] G U = qm_run pm_m big m_198 n0 2 [(0, .ref 70), (1, .int v0), (2, .int v1), (3, .int v2)] [.int v0, .ref 70] G U := rfl
theorem sg_ba_18 (big : Nat → List Value → qM → qW → qR) (n0 : Nat) (G : qM) (U : qW) (v0 : Int32) (v1 : Int32) (v2 : Int32) : qm_run pm_m big m_198 (n0 + 4) 8 [(0, .ref 70), (1, .int v0), (2, .int v1), (3, .int v2)] [] G U = qm_run pm_m big m_198 n0 14 [(0, .ref 70), (1, .int v0), (2, .int v1), (3, .int v2)] [.long (60 : Int64), .long (0 : Int64), .long (Int32.toInt64 v1)] G U := rfl
theorem sg_ba_19 (big : Nat → List Value → qM → qW → qR) (n0 : Nat) (G : qM) (U : qW) (v0 : Int32) (v1 : Int32) (v2 : Int32) : qm_run pm_m big m_198 (n0 + 4) 20 [(0, .ref 70), (1, .int v0), (2, .int v1), (3, .int v2)] [] G U = qm_run pm_m big m_198 n0 24 [(0, .ref 70), (1, .int v0), (2, .int v1), (3, .int v2)] [.long (1 : Int64), .long (0 : Int64), .long (Int32.toInt64 v2)] G U := rfl
theorem sg_ba_20 (big : Nat → List Value → qM → qW → qR) (n0 : Nat) (G : qM) (U : qW) (v0 : Int32) : qm_run pm_m big m_84 (n0 + 1) 0 [(0, .ref 8), (1, .int v0)] [] G U = qm_run pm_m big m_84 n0 1 [(0, .ref 8), (1, .int v0)] [.int v0] G U := rfl
theorem sg_ba_21 (big : Nat → List Value → qM → qW → qR) (n0 : Nat) (G : qM) (U : qW) (v0 : Int32) : qm_run pm_m big m_200 (n0 + 4) 0 [(0, .ref 70), (1, .int v0)] [] G U = qm_run pm_m big m_200 n0 4 [(0, .ref 70), (1, .int v0)] [.long (1 : Int64), .long (0 : Int64), .long (Int32.toInt64 v0)] G U := rfl
theorem sg_ba_22 (big : Nat → List Value → qM → qW → qR) (n0 : Nat) (G : qM) (U : qW) (v0 : Int32) : qm_run pm_m big m_104 (n0 + 3) 0 [(0, .ref 8), (1, .int v0)] [] G U = qm_run pm_m big m_104 n0 5 [(0, .ref 8), (1, .int v0)] [.int v0, .ref 20] G U := rfl
theorem sg_ba_23 (big : Nat → List Value → qM → qW → qR) (n0 : Nat) (G : qM) (U : qW) (v0 : Int32) : qm_run pm_m big m_207 (n0 + 2) 0 [(0, .ref 70), (1, .int v0)] [] G U = qm_run pm_m big m_207 n0 2 [(0, .ref 70), (1, .int v0)] [.int v0, .ref 70] G U := rfl
theorem sg_ba_24 (big : Nat → List Value → qM → qW → qR) (n0 : Nat) (G : qM) (U : qW) (v0 : Int32) (v1 : Int32) (v2 : Int32) : qm_run pm_m big m_110 (n0 + 2) 0 [(0, .ref 8), (1, .int v0), (2, .int v1), (3, .int v2)] [] G U = qm_run pm_m big m_110 n0 2 [(0, .ref 8), (1, .int v0), (2, .int v1), (3, .int v2)] [.int (1 : Int32), .int v0] G U := rfl
theorem sg_ba_25 (big : Nat → List Value → qM → qW → qR) (n0 : Nat) (G : qM) (U : qW) (v0 : Int32) (v1 : Int32) (v2 : Int32) : qm_run pm_m big m_110 (n0 + 2) 5 [(0, .ref 8), (1, .int v0), (2, .int v1), (3, .int v2)] [] G U = qm_run pm_m big m_110 n0 7 [(0, .ref 8), (1, .int v0), (2, .int v1), (3, .int v2)] [.int (3 : Int32), .int v0] G U := rfl
theorem sg_ba_26 (big : Nat → List Value → qM → qW → qR) (n0 : Nat) (G : qM) (U : qW) (v0 : Int32) (v1 : Int32) (v2 : Int32) : qm_run pm_m big m_110 (n0 + 1) 10 [(0, .ref 8), (1, .int v0), (2, .int v1), (3, .int v2)] [] G U = qm_run pm_m big m_110 n0 11 [(0, .ref 8), (1, .int v0), (2, .int v1), (3, .int v2)] [.int v1] G U := rfl
theorem sg_ba_27 (big : Nat → List Value → qM → qW → qR) (n0 : Nat) (G : qM) (U : qW) (v0 : Int32) (v1 : Int32) (v2 : Int32) : qm_run pm_m big m_110 (n0 + 1) 17 [(0, .ref 8), (1, .int v0), (2, .int v1), (3, .int v2)] [] G U = qm_run pm_m big m_110 n0 18 [(0, .ref 8), (1, .int v0), (2, .int v1), (3, .int v2)] [.int v2] G U := rfl
theorem sg_ba_28 (big : Nat → List Value → qM → qW → qR) (n0 : Nat) (G : qM) (U : qW) (v0 : Int32) (v1 : Int32) (v2 : Int32) : qm_run pm_m big m_209 (n0 + 4) 0 [(0, .ref 70), (1, .int v0), (2, .int v1), (3, .int v2)] [] G U = qm_run pm_m big m_209 n0 6 [(0, .ref 70), (1, .int v0), (2, .int v1), (3, .int v2)] [.long (3 : Int64), .long (1 : Int64), .long (Int32.toInt64 v0)] G U := rfl
theorem sg_ba_29 (big : Nat → List Value → qM → qW → qR) (n0 : Nat) (G : qM) (U : qW) (v0 : Int32) (v1 : Int32) (v2 : Int32) : qm_run pm_m big m_209 (n0 + 4) 12 [(0, .ref 70), (1, .int v0), (2, .int v1), (3, .int v2)] [] G U = qm_run pm_m big m_209 n0 18 [(0, .ref 70), (1, .int v0), (2, .int v1), (3, .int v2)] [.long (12 : Int64), .long (0 : Int64), .long (Int32.toInt64 v1)] G U := rfl
theorem sg_ba_30 (big : Nat → List Value → qM → qW → qR) (n0 : Nat) (G : qM) (U : qW) (v0 : Int32) (v1 : Int32) (v2 : Int32) : qm_run pm_m big m_209 (n0 + 4) 24 [(0, .ref 70), (1, .int v0), (2, .int v1), (3, .int v2)] [] G U = qm_run pm_m big m_209 n0 28 [(0, .ref 70), (1, .int v0), (2, .int v1), (3, .int v2)] [.long (1 : Int64), .long (0 : Int64), .long (Int32.toInt64 v2)] G U := rfl
theorem sg_ba_31 (big : Nat → List Value → qM → qW → qR) (n0 : Nat) (G : qM) (U : qW) (v0 : Int32) (v1 : Int32) (v2 : Int32) : qm_run pm_m big m_112 (n0 + 1) 0 [(0, .ref 8), (1, .int v0), (2, .int v1), (3, .int v2)] [] G U = qm_run pm_m big m_112 n0 1 [(0, .ref 8), (1, .int v0), (2, .int v1), (3, .int v2)] [.int v0] G U := rfl
theorem sg_ba_32 (big : Nat → List Value → qM → qW → qR) (n0 : Nat) (G : qM) (U : qW) (v0 : Int32) (v1 : Int32) (v2 : Int32) : qm_run pm_m big m_112 (n0 + 2) 4 [(0, .ref 8), (1, .int v0), (2, .int v1), (3, .int v2)] [] G U = qm_run pm_m big m_112 n0 7 [(0, .ref 8), (1, .int v0), (2, .int v1), (3, .int v2)] [.int (10 : Int32), .int v0] G U := rfl
theorem sg_ba_33 (big : Nat → List Value → qM → qW → qR) (n0 : Nat) (G : qM) (U : qW) (v0 : Int32) (v1 : Int32) (v2 : Int32) : qm_run pm_m big m_112 (n0 + 1) 10 [(0, .ref 8), (1, .int v0), (2, .int v1), (3, .int v2)] [] G U = qm_run pm_m big m_112 n0 11 [(0, .ref 8), (1, .int v0), (2, .int v1), (3, .int v2)] [.int v1] G U := rfl
theorem sg_ba_34 (big : Nat → List Value → qM → qW → qR) (n0 : Nat) (G : qM) (U : qW) (v0 : Int32) (v1 : Int32) (v2 : Int32) : qm_run pm_m big m_112 (n0 + 1) 17 [(0, .ref 8), (1, .int v0), (2, .int v1), (3, .int v2)] [] G U = qm_run pm_m big m_112 n0 18 [(0, .ref 8), (1, .int v0), (2, .int v1), (3, .int v2)] [.int v2] G U := rfl
theorem sg_ba_35 (big : Nat → List Value → qM → qW → qR) (n0 : Nat) (G : qM) (U : qW) (v0 : Int32) (v1 : Int32) (v2 : Int32) : qm_run pm_m big m_210 (n0 + 4) 0 [(0, .ref 70), (1, .int v0), (2, .int v1), (3, .int v2)] [] G U = qm_run pm_m big m_210 n0 6 [(0, .ref 70), (1, .int v0), (2, .int v1), (3, .int v2)] [.long (10 : Int64), .long (0 : Int64), .long (Int32.toInt64 v0)] G U := rfl
theorem sg_ba_36 (big : Nat → List Value → qM → qW → qR) (n0 : Nat) (G : qM) (U : qW) (v0 : Int32) (v1 : Int32) (v2 : Int32) : qm_run pm_m big m_210 (n0 + 4) 12 [(0, .ref 70), (1, .int v0), (2, .int v1), (3, .int v2)] [] G U = qm_run pm_m big m_210 n0 18 [(0, .ref 70), (1, .int v0), (2, .int v1), (3, .int v2)] [.long (12 : Int64), .long (0 : Int64), .long (Int32.toInt64 v1)] G U := rfl
theorem sg_ba_37 (big : Nat → List Value → qM → qW → qR) (n0 : Nat) (G : qM) (U : qW) (v0 : Int32) (v1 : Int32) (v2 : Int32) : qm_run pm_m big m_210 (n0 + 4) 24 [(0, .ref 70), (1, .int v0), (2, .int v1), (3, .int v2)] [] G U = qm_run pm_m big m_210 n0 28 [(0, .ref 70), (1, .int v0), (2, .int v1), (3, .int v2)] [.long (1 : Int64), .long (0 : Int64), .long (Int32.toInt64 v2)] G U := rfl
theorem sg_ba_38 (big : Nat → List Value → qM → qW → qR) (n0 : Nat) (G : qM) (U : qW) (v0 : Int32) (v1 : Int32) : qm_run pm_m big m_125 (n0 + 2) 0 [(0, .ref 8), (1, .int v0), (2, .int v1)] [] G U = qm_run pm_m big m_125 n0 2 [(0, .ref 8), (1, .int v0), (2, .int v1)] [.int (1 : Int32), .int v1] G U := rfl
theorem sg_ba_39 (big : Nat → List Value → qM → qW → qR) (n0 : Nat) (G : qM) (U : qW) (v0 : Int32) (v1 : Int32) : qm_run pm_m big m_125 (n0 + 2) 5 [(0, .ref 8), (1, .int v0), (2, .int v1)] [] G U = qm_run pm_m big m_125 n0 8 [(0, .ref 8), (1, .int v0), (2, .int v1)] [.int (60 : Int32), .int v1] G U := rfl
theorem sg_ba_40 (big : Nat → List Value → qM → qW → qR) (n0 : Nat) (G : qM) (U : qW) (v0 : Int32) (v1 : Int32) : qm_run pm_m big m_215 (n0 + 4) 0 [(0, .ref 70), (1, .int v0), (2, .int v1)] [] G U = qm_run pm_m big m_215 n0 6 [(0, .ref 70), (1, .int v0), (2, .int v1)] [.long (60 : Int64), .long (1 : Int64), .long (Int32.toInt64 v1)] G U := rfl
theorem sg_ba_41 (big : Nat → List Value → qM → qW → qR) (n0 : Nat) (G : qM) (U : qW) (v0 : Int32) (v1 : Int32) : qm_run pm_m big m_47 (n0 + 3) 0 [(0, .ref 8), (1, .int v0), (2, .int v1)] [] G U = qm_run pm_m big m_47 n0 5 [(0, .ref 8), (1, .int v0), (2, .int v1)] [.int v0, .ref 20] G U := rfl
theorem sg_ba_42 (big : Nat → List Value → qM → qW → qR) (n0 : Nat) (G : qM) (U : qW) (v0 : Int32) (v1 : Int32) : qm_run pm_m big m_47 (n0 + 1) 11 [(0, .ref 8), (1, .int v0), (2, .int v1)] [] G U = qm_run pm_m big m_47 n0 12 [(0, .ref 8), (1, .int v0), (2, .int v1)] [.int v1] G U := rfl
theorem sg_ba_43 (big : Nat → List Value → qM → qW → qR) (n0 : Nat) (G : qM) (U : qW) (v0 : Int32) (v1 : Int32) : qm_run pm_m big m_174 (n0 + 2) 0 [(0, .ref 70), (1, .int v0), (2, .int v1)] [] G U = qm_run pm_m big m_174 n0 2 [(0, .ref 70), (1, .int v0), (2, .int v1)] [.int v0, .ref 70] G U := rfl
theorem sg_ba_44 (big : Nat → List Value → qM → qW → qR) (n0 : Nat) (G : qM) (U : qW) (v0 : Int32) (v1 : Int32) : qm_run pm_m big m_174 (n0 + 4) 8 [(0, .ref 70), (1, .int v0), (2, .int v1)] [] G U = qm_run pm_m big m_174 n0 14 [(0, .ref 70), (1, .int v0), (2, .int v1)] [.long (3 : Int64), .long (0 : Int64), .long (Int32.toInt64 v1)] G U := rfl
theorem sg_ba_45 (big : Nat → List Value → qM → qW → qR) (n0 : Nat) (G : qM) (U : qW) (v0 : Int32) (v1 : Int32) : qm_run pm_m big m_51 (n0 + 3) 0 [(0, .ref 8), (1, .int v0), (2, .int v1)] [] G U = qm_run pm_m big m_51 n0 5 [(0, .ref 8), (1, .int v0), (2, .int v1)] [.int v0, .ref 20] G U := rfl
theorem sg_ba_46 (big : Nat → List Value → qM → qW → qR) (n0 : Nat) (G : qM) (U : qW) (v0 : Int32) (v1 : Int32) : qm_run pm_m big m_178 (n0 + 2) 0 [(0, .ref 70), (1, .int v0), (2, .int v1)] [] G U = qm_run pm_m big m_178 n0 2 [(0, .ref 70), (1, .int v0), (2, .int v1)] [.int v0, .ref 70] G U := rfl
theorem sg_ba_47 (big : Nat → List Value → qM → qW → qR) (n0 : Nat) (G : qM) (U : qW) (v0 : Int32) : qm_run pm_m big m_55 (n0 + 1) 0 [(0, .ref 8), (1, .int v0)] [] G U = qm_run pm_m big m_55 n0 1 [(0, .ref 8), (1, .int v0)] [.int v0] G U := rfl
theorem sg_ba_48 (big : Nat → List Value → qM → qW → qR) (n0 : Nat) (G : qM) (U : qW) (v0 : Int32) : qm_run pm_m big m_55 (n0 + 2) 4 [(0, .ref 8), (1, .int v0)] [] G U = qm_run pm_m big m_55 n0 6 [(0, .ref 8), (1, .int v0)] [.int (4 : Int32), .int v0] G U := rfl
theorem sg_ba_49 (big : Nat → List Value → qM → qW → qR) (n0 : Nat) (G : qM) (U : qW) (v0 : Int32) : qm_run pm_m big m_55 (n0 + 1) 11 [(0, .ref 8), (1, .int v0)] [] G U = qm_run pm_m big m_55 n0 12 [(0, .ref 8), (1, .int v0)] [.ref 8] G U := rfl
theorem sg_ba_50 (big : Nat → List Value → qM → qW → qR) (n0 : Nat) (G : qM) (U : qW) (v0 : Int32) : qm_run pm_m big m_182 (n0 + 4) 0 [(0, .ref 70), (1, .int v0)] [] G U = qm_run pm_m big m_182 n0 6 [(0, .ref 70), (1, .int v0)] [.long (4 : Int64), .long (0 : Int64), .long (Int32.toInt64 v0)] G U := rfl
theorem sg_ba_51 (big : Nat → List Value → qM → qW → qR) (n0 : Nat) (G : qM) (U : qW) (v0 : Int32) (v1 : Int32) : qm_run pm_m big m_54 (n0 + 2) 0 [(0, .ref 8), (1, .int v0), (2, .int v1)] [] G U = qm_run pm_m big m_54 n0 2 [(0, .ref 8), (1, .int v0), (2, .int v1)] [.int (1 : Int32), .int v0] G U := rfl
theorem sg_ba_52 (big : Nat → List Value → qM → qW → qR) (n0 : Nat) (G : qM) (U : qW) (v0 : Int32) (v1 : Int32) : qm_run pm_m big m_54 (n0 + 2) 5 [(0, .ref 8), (1, .int v0), (2, .int v1)] [] G U = qm_run pm_m big m_54 n0 7 [(0, .ref 8), (1, .int v0), (2, .int v1)] [.int (4 : Int32), .int v0] G U := rfl
theorem sg_ba_53 (big : Nat → List Value → qM → qW → qR) (n0 : Nat) (G : qM) (U : qW) (v0 : Int32) (v1 : Int32) : qm_run pm_m big m_54 (n0 + 1) 10 [(0, .ref 8), (1, .int v0), (2, .int v1)] [] G U = qm_run pm_m big m_54 n0 11 [(0, .ref 8), (1, .int v0), (2, .int v1)] [.int v1] G U := rfl
theorem sg_ba_54 (big : Nat → List Value → qM → qW → qR) (n0 : Nat) (G : qM) (U : qW) (v0 : Int32) (v1 : Int32) : qm_run pm_m big m_54 (n0 + 2) 14 [(0, .ref 8), (1, .int v0), (2, .int v1)] [] G U = qm_run pm_m big m_54 n0 17 [(0, .ref 8), (1, .int v0), (2, .int v1)] [.int (9 : Int32), .int v1] G U := rfl
theorem sg_ba_55 (big : Nat → List Value → qM → qW → qR) (n0 : Nat) (G : qM) (U : qW) (v0 : Int32) (v1 : Int32) : qm_run pm_m big m_181 (n0 + 4) 0 [(0, .ref 70), (1, .int v0), (2, .int v1)] [] G U = qm_run pm_m big m_181 n0 6 [(0, .ref 70), (1, .int v0), (2, .int v1)] [.long (4 : Int64), .long (1 : Int64), .long (Int32.toInt64 v0)] G U := rfl
theorem sg_ba_56 (big : Nat → List Value → qM → qW → qR) (n0 : Nat) (G : qM) (U : qW) (v0 : Int32) (v1 : Int32) : qm_run pm_m big m_181 (n0 + 4) 12 [(0, .ref 70), (1, .int v0), (2, .int v1)] [] G U = qm_run pm_m big m_181 n0 18 [(0, .ref 70), (1, .int v0), (2, .int v1)] [.long (9 : Int64), .long (0 : Int64), .long (Int32.toInt64 v1)] G U := rfl
theorem sg_ba_57 (big : Nat → List Value → qM → qW → qR) (n0 : Nat) (G : qM) (U : qW) (v0 : Int32) (v1 : Int32) : qm_run pm_m big m_118 (n0 + 3) 0 [(0, .ref 8), (1, .int v0), (2, .int v1)] [] G U = qm_run pm_m big m_118 n0 5 [(0, .ref 8), (1, .int v0), (2, .int v1)] [.int v0, .ref 20] G U := rfl
theorem sg_ba_58 (big : Nat → List Value → qM → qW → qR) (n0 : Nat) (G : qM) (U : qW) (v0 : Int32) (v1 : Int32) : qm_run pm_m big m_118 (n0 + 1) 11 [(0, .ref 8), (1, .int v0), (2, .int v1)] [] G U = qm_run pm_m big m_118 n0 12 [(0, .ref 8), (1, .int v0), (2, .int v1)] [.int v1] G U := rfl
theorem sg_ba_59 (big : Nat → List Value → qM → qW → qR) (n0 : Nat) (G : qM) (U : qW) (v0 : Int32) (v1 : Int32) : qm_run pm_m big m_118 (n0 + 2) 15 [(0, .ref 8), (1, .int v0), (2, .int v1)] [] G U = qm_run pm_m big m_118 n0 17 [(0, .ref 8), (1, .int v0), (2, .int v1)] [.int (4 : Int32), .int v1] G U := rfl
theorem sg_ba_60 (big : Nat → List Value → qM → qW → qR) (n0 : Nat) (G : qM) (U : qW) (v0 : Int32) (v1 : Int32) : qm_run pm_m big m_212 (n0 + 2) 0 [(0, .ref 70), (1, .int v0), (2, .int v1)] [] G U = qm_run pm_m big m_212 n0 2 [(0, .ref 70), (1, .int v0), (2, .int v1)] [.int v0, .ref 70] G U := rfl
theorem sg_ba_61 (big : Nat → List Value → qM → qW → qR) (n0 : Nat) (G : qM) (U : qW) (v0 : Int32) (v1 : Int32) : qm_run pm_m big m_212 (n0 + 4) 8 [(0, .ref 70), (1, .int v0), (2, .int v1)] [] G U = qm_run pm_m big m_212 n0 14 [(0, .ref 70), (1, .int v0), (2, .int v1)] [.long (4 : Int64), .long (0 : Int64), .long (Int32.toInt64 v1)] G U := rfl
theorem sg_ba_62 (big : Nat → List Value → qM → qW → qR) (n0 : Nat) (G : qM) (U : qW) (v0 : Int32) (v1 : Int32) : qm_run pm_m big m_53 (n0 + 3) 0 [(0, .ref 8), (1, .int v0), (2, .int v1)] [] G U = qm_run pm_m big m_53 n0 5 [(0, .ref 8), (1, .int v0), (2, .int v1)] [.int v0, .ref 20] G U := rfl
theorem sg_ba_63 (big : Nat → List Value → qM → qW → qR) (n0 : Nat) (G : qM) (U : qW) (v0 : Int32) (v1 : Int32) : qm_run pm_m big m_180 (n0 + 2) 0 [(0, .ref 70), (1, .int v0), (2, .int v1)] [] G U = qm_run pm_m big m_180 n0 2 [(0, .ref 70), (1, .int v0), (2, .int v1)] [.int v0, .ref 70] G U := rfl
theorem sg_ba_64 (big : Nat → List Value → qM → qW → qR) (n0 : Nat) (G : qM) (U : qW) (v0 : Int32) : qm_run pm_m big m_46 (n0 + 3) 0 [(0, .ref 8), (1, .int v0)] [] G U = qm_run pm_m big m_46 n0 5 [(0, .ref 8), (1, .int v0)] [.int v0, .ref 20] G U := rfl
theorem sg_ba_65 (big : Nat → List Value → qM → qW → qR) (n0 : Nat) (G : qM) (U : qW) (v0 : Int32) : qm_run pm_m big m_170 (n0 + 2) 0 [(0, .ref 70), (1, .int v0)] [] G U = qm_run pm_m big m_170 n0 2 [(0, .ref 70), (1, .int v0)] [.int v0, .ref 70] G U := rfl
theorem sg_ba_66 (big : Nat → List Value → qM → qW → qR) (n0 : Nat) (G : qM) (U : qW) (v0 : Int32) (v1 : Int32) : qm_run pm_m big m_49 (n0 + 3) 0 [(0, .ref 8), (1, .int v0), (2, .int v1)] [] G U = qm_run pm_m big m_49 n0 5 [(0, .ref 8), (1, .int v0), (2, .int v1)] [.int v0, .ref 20] G U := rfl
theorem sg_ba_67 (big : Nat → List Value → qM → qW → qR) (n0 : Nat) (G : qM) (U : qW) (v0 : Int32) (v1 : Int32) : qm_run pm_m big m_49 (n0 + 3) 11 [(0, .ref 8), (1, .int v0), (2, .int v1)] [] G U = qm_run pm_m big m_49 n0 16 [(0, .ref 8), (1, .int v0), (2, .int v1)] [.int v1, .ref 20] G U := rfl
theorem sg_ba_68 (big : Nat → List Value → qM → qW → qR) (n0 : Nat) (G : qM) (U : qW) (v0 : Int32) (v1 : Int32) : qm_run pm_m big m_176 (n0 + 2) 0 [(0, .ref 70), (1, .int v0), (2, .int v1)] [] G U = qm_run pm_m big m_176 n0 2 [(0, .ref 70), (1, .int v0), (2, .int v1)] [.int v0, .ref 70] G U := rfl
theorem sg_ba_69 (big : Nat → List Value → qM → qW → qR) (n0 : Nat) (G : qM) (U : qW) (v0 : Int32) (v1 : Int32) : qm_run pm_m big m_176 (n0 + 2) 8 [(0, .ref 70), (1, .int v0), (2, .int v1)] [] G U = qm_run pm_m big m_176 n0 10 [(0, .ref 70), (1, .int v0), (2, .int v1)] [.int v1, .ref 70] G U := rfl
theorem sg_ba_70 (big : Nat → List Value → qM → qW → qR) (n0 : Nat) (G : qM) (U : qW) (v0 : Int32) (v1 : Int32) : qm_run pm_m big m_89 (n0 + 1) 0 [(0, .ref 8), (1, .int v0), (2, .int v1)] [] G U = qm_run pm_m big m_89 n0 1 [(0, .ref 8), (1, .int v0), (2, .int v1)] [.int v0] G U := rfl
theorem sg_ba_71 (big : Nat → List Value → qM → qW → qR) (n0 : Nat) (G : qM) (U : qW) (v0 : Int32) (v1 : Int32) : qm_run pm_m big m_89 (n0 + 2) 7 [(0, .ref 8), (1, .int v0), (2, .int v1)] [] G U = qm_run pm_m big m_89 n0 9 [(0, .ref 8), (1, .int v0), (2, .int v1)] [.int v1, .ref 8] G U := rfl
theorem sg_ba_72 (big : Nat → List Value → qM → qW → qR) (n0 : Nat) (G : qM) (U : qW) (v0 : Int32) (v1 : Int32) : qm_run pm_m big m_201 (n0 + 4) 0 [(0, .ref 70), (1, .int v0), (2, .int v1)] [] G U = qm_run pm_m big m_201 n0 6 [(0, .ref 70), (1, .int v0), (2, .int v1)] [.long (12 : Int64), .long (0 : Int64), .long (Int32.toInt64 v0)] G U := rfl
theorem sg_ba_73 (big : Nat → List Value → qM → qW → qR) (n0 : Nat) (G : qM) (U : qW) (v0 : Int32) (v1 : Int32) : qm_run pm_m big m_201 (n0 + 1) 12 [(0, .ref 70), (1, .int v0), (2, .int v1)] [] G U = qm_run pm_m big m_201 n0 13 [(0, .ref 70), (1, .int v0), (2, .int v1)] [.int v1] G U := rfl
theorem sg_ba_74 (big : Nat → List Value → qM → qW → qR) (n0 : Nat) (G : qM) (U : qW) (v0 : Int32) (v1 : Int32) : qm_run pm_m big m_201 (n0 + 4) 16 [(0, .ref 70), (1, .int v0), (2, .int v1)] [] G U = qm_run pm_m big m_201 n0 21 [(0, .ref 70), (1, .int v0), (2, .int v1)] [.int (v1 - (10 : Int32)), .ref 70] G U := rfl
theorem sg_ba_75 (big : Nat → List Value → qM → qW → qR) (n0 : Nat) (G : qM) (U : qW) (v0 : Int32) : qm_run pm_m big m_120 (n0 + 2) 0 [(0, .ref 8), (1, .int v0)] [] G U = qm_run pm_m big m_120 n0 2 [(0, .ref 8), (1, .int v0)] [.int v0, .ref 8] G U := rfl
theorem sg_ba_76 (big : Nat → List Value → qM → qW → qR) (n0 : Nat) (G : qM) (U : qW) (v0 : Int32) : qm_run pm_m big m_214 (n0 + 1) 0 [(0, .ref 70), (1, .int v0)] [] G U = qm_run pm_m big m_214 n0 1 [(0, .ref 70), (1, .int v0)] [.int v0] G U := rfl
theorem sg_ba_77 (big : Nat → List Value → qM → qW → qR) (n0 : Nat) (G : qM) (U : qW) (v0 : Int32) : qm_run pm_m big m_214 (n0 + 4) 4 [(0, .ref 70), (1, .int v0)] [] G U = qm_run pm_m big m_214 n0 9 [(0, .ref 70), (1, .int v0)] [.int (v0 - (10 : Int32)), .ref 70] G U := rfl
theorem sg_ba_78 (big : Nat → List Value → qM → qW → qR) (n0 : Nat) (G : qM) (U : qW) (v0 : Int32) : qm_run pm_m big m_128 (n0 + 1) 0 [(0, .ref 8), (1, .int v0)] [] G U = qm_run pm_m big m_128 n0 1 [(0, .ref 8), (1, .int v0)] [.int v0] G U := rfl
theorem sg_ba_79 (big : Nat → List Value → qM → qW → qR) (n0 : Nat) (G : qM) (U : qW) (v0 : Int32) : qm_run pm_m big m_128 (n0 + 2) 4 [(0, .ref 8), (1, .int v0)] [] G U = qm_run pm_m big m_128 n0 6 [(0, .ref 8), (1, .int v0)] [.int (2 : Int32), .int v0] G U := rfl
theorem sg_ba_80 (big : Nat → List Value → qM → qW → qR) (n0 : Nat) (G : qM) (U : qW) (v0 : Int32) : qm_run pm_m big m_216 (n0 + 4) 0 [(0, .ref 70), (1, .int v0)] [] G U = qm_run pm_m big m_216 n0 4 [(0, .ref 70), (1, .int v0)] [.long (1 : Int64), .long (0 : Int64), .long (Int32.toInt64 v0)] G U := rfl
theorem sg_ba_81 (big : Nat → List Value → qM → qW → qR) (n0 : Nat) (G : qM) (U : qW) (v0 : Int32) : qm_run pm_m big m_129 (n0 + 1) 0 [(0, .ref 8), (1, .int v0)] [] G U = qm_run pm_m big m_129 n0 1 [(0, .ref 8), (1, .int v0)] [.int v0] G U := rfl
theorem sg_ba_82 (big : Nat → List Value → qM → qW → qR) (n0 : Nat) (G : qM) (U : qW) (v0 : Int32) : qm_run pm_m big m_129 (n0 + 2) 4 [(0, .ref 8), (1, .int v0)] [] G U = qm_run pm_m big m_129 n0 6 [(0, .ref 8), (1, .int v0)] [.int (2 : Int32), .int v0] G U := rfl
theorem sg_ba_83 (big : Nat → List Value → qM → qW → qR) (n0 : Nat) (G : qM) (U : qW) (v0 : Int32) : qm_run pm_m big m_218 (n0 + 4) 0 [(0, .ref 70), (1, .int v0)] [] G U = qm_run pm_m big m_218 n0 4 [(0, .ref 70), (1, .int v0)] [.long (1 : Int64), .long (0 : Int64), .long (Int32.toInt64 v0)] G U := rfl
theorem sg_ba_84 (big : Nat → List Value → qM → qW → qR) (n0 : Nat) (G : qM) (U : qW) (v0 : Int32) (v1 : Int32) (v2 : Int32) (v3 : Int32) : qm_run pm_m big m_106 (n0 + 3) 0 [(0, .ref 8), (1, .int v0), (2, .int v1), (3, .int v2), (4, .int v3)] [] G U = qm_run pm_m big m_106 n0 5 [(0, .ref 8), (1, .int v0), (2, .int v1), (3, .int v2), (4, .int v3)] [.int v0, .ref 20] G U := rfl
theorem sg_ba_85 (big : Nat → List Value → qM → qW → qR) (n0 : Nat) (G : qM) (U : qW) (v0 : Int32) (v1 : Int32) (v2 : Int32) (v3 : Int32) : qm_run pm_m big m_106 (n0 + 3) 11 [(0, .ref 8), (1, .int v0), (2, .int v1), (3, .int v2), (4, .int v3)] [] G U = qm_run pm_m big m_106 n0 16 [(0, .ref 8), (1, .int v0), (2, .int v1), (3, .int v2), (4, .int v3)] [.int v1, .ref 20] G U := rfl
theorem sg_ba_86 (big : Nat → List Value → qM → qW → qR) (n0 : Nat) (G : qM) (U : qW) (v0 : Int32) (v1 : Int32) (v2 : Int32) (v3 : Int32) : qm_run pm_m big m_106 (n0 + 3) 22 [(0, .ref 8), (1, .int v0), (2, .int v1), (3, .int v2), (4, .int v3)] [] G U = qm_run pm_m big m_106 n0 27 [(0, .ref 8), (1, .int v0), (2, .int v1), (3, .int v2), (4, .int v3)] [.int v2, .ref 20] G U := rfl
theorem sg_ba_87 (big : Nat → List Value → qM → qW → qR) (n0 : Nat) (G : qM) (U : qW) (v0 : Int32) (v1 : Int32) (v2 : Int32) (v3 : Int32) : qm_run pm_m big m_106 (n0 + 2) 33 [(0, .ref 8), (1, .int v0), (2, .int v1), (3, .int v2), (4, .int v3)] [] G U = qm_run pm_m big m_106 n0 35 [(0, .ref 8), (1, .int v0), (2, .int v1), (3, .int v2), (4, .int v3)] [.int v1, .int v0] G U := rfl
theorem sg_ba_88 (big : Nat → List Value → qM → qW → qR) (n0 : Nat) (G : qM) (U : qW) (v0 : Int32) (v1 : Int32) (v2 : Int32) (v3 : Int32) : qm_run pm_m big m_106 (n0 + 2) 38 [(0, .ref 8), (1, .int v0), (2, .int v1), (3, .int v2), (4, .int v3)] [] G U = qm_run pm_m big m_106 n0 40 [(0, .ref 8), (1, .int v0), (2, .int v1), (3, .int v2), (4, .int v3)] [.int v2, .int v0] G U := rfl
theorem sg_ba_89 (big : Nat → List Value → qM → qW → qR) (n0 : Nat) (G : qM) (U : qW) (v0 : Int32) (v1 : Int32) (v2 : Int32) (v3 : Int32) : qm_run pm_m big m_106 (n0 + 2) 43 [(0, .ref 8), (1, .int v0), (2, .int v1), (3, .int v2), (4, .int v3)] [] G U = qm_run pm_m big m_106 n0 45 [(0, .ref 8), (1, .int v0), (2, .int v1), (3, .int v2), (4, .int v3)] [.int v2, .int v1] G U := rfl
theorem sg_ba_90 (big : Nat → List Value → qM → qW → qR) (n0 : Nat) (G : qM) (U : qW) (v0 : Int32) (v1 : Int32) (v2 : Int32) (v3 : Int32) : qm_run pm_m big m_106 (n0 + 5) 50 [(0, .ref 8), (1, .int v0), (2, .int v1), (3, .int v2), (4, .int v3)] [] G U = qm_run pm_m big m_106 n0 59 [(0, .ref 8), (1, .int v0), (2, .int v1), (3, .int v2), (4, .int v3), (5, .int (v3 - (10 : Int32)))] [.int v3] G U := rfl
theorem sg_ba_91 (big : Nat → List Value → qM → qW → qR) (n0 : Nat) (G : qM) (U : qW) (v0 : Int32) (v1 : Int32) (v2 : Int32) (v3 : Int32) (v4 : Int32) : qm_run pm_m big m_106 (n0 + 2) 62 [(0, .ref 8), (1, .int v0), (2, .int v1), (3, .int v2), (4, .int v3), (5, .int v4)] [] G U = qm_run pm_m big m_106 n0 66 [(0, .ref 8), (1, .int v0), (2, .int v1), (3, .int v2), (4, .int v3), (5, .int v4)] [.int (10 : Int32), .int v3] G U := rfl
theorem sg_ba_92 (big : Nat → List Value → qM → qW → qR) (n0 : Nat) (G : qM) (U : qW) (v0 : Int32) (v1 : Int32) (v2 : Int32) (v3 : Int32) (v4 : Int32) : qm_run pm_m big m_106 (n0 + 2) 69 [(0, .ref 8), (1, .int v0), (2, .int v1), (3, .int v2), (4, .int v3), (5, .int v4)] [] G U = qm_run pm_m big m_106 n0 72 [(0, .ref 8), (1, .int v0), (2, .int v1), (3, .int v2), (4, .int v3), (5, .int v4)] [.int (4 : Int32), .int v4] G U := rfl
theorem sg_ba_93 (big : Nat → List Value → qM → qW → qR) (n0 : Nat) (G : qM) (U : qW) (v0 : Int32) (v1 : Int32) (v2 : Int32) (v3 : Int32) : qm_run pm_m big m_208 (n0 + 2) 0 [(0, .ref 70), (1, .int v0), (2, .int v1), (3, .int v2), (4, .int v3)] [] G U = qm_run pm_m big m_208 n0 2 [(0, .ref 70), (1, .int v0), (2, .int v1), (3, .int v2), (4, .int v3)] [.int v1, .int v0] G U := rfl
theorem sg_ba_94 (big : Nat → List Value → qM → qW → qR) (n0 : Nat) (G : qM) (U : qW) (v0 : Int32) (v1 : Int32) (v2 : Int32) (v3 : Int32) : qm_run pm_m big m_208 (n0 + 4) 19 [(0, .ref 70), (1, .int v0), (2, .int v1), (3, .int v2), (4, .int v3)] [] G U = qm_run pm_m big m_208 n0 24 [(0, .ref 70), (1, .int v0), (2, .int v1), (3, .int v2), (4, .int v3), (5, .int (0 : Int32))] [.int v0, .ref 70] G U := rfl
theorem sg_ba_95 (big : Nat → List Value → qM → qW → qR) (n0 : Nat) (G : qM) (U : qW) (v0 : Int32) (v1 : Int32) (v2 : Int32) (v3 : Int32) : qm_run pm_m big m_208 (n0 + 2) 30 [(0, .ref 70), (1, .int v0), (2, .int v1), (3, .int v2), (4, .int v3), (5, .int (0 : Int32))] [] G U = qm_run pm_m big m_208 n0 32 [(0, .ref 70), (1, .int v0), (2, .int v1), (3, .int v2), (4, .int v3), (5, .int (0 : Int32))] [.int v1, .ref 70] G U := rfl
theorem sg_ba_96 (big : Nat → List Value → qM → qW → qR) (n0 : Nat) (G : qM) (U : qW) (v0 : Int32) (v1 : Int32) (v2 : Int32) (v3 : Int32) : qm_run pm_m big m_208 (n0 + 2) 38 [(0, .ref 70), (1, .int v0), (2, .int v1), (3, .int v2), (4, .int v3), (5, .int (0 : Int32))] [] G U = qm_run pm_m big m_208 n0 40 [(0, .ref 70), (1, .int v0), (2, .int v1), (3, .int v2), (4, .int v3), (5, .int (0 : Int32))] [.int v2, .ref 70] G U := rfl
theorem sg_ba_97 (big : Nat → List Value → qM → qW → qR) (n0 : Nat) (G : qM) (U : qW) (v0 : Int32) (v1 : Int32) (v2 : Int32) (v3 : Int32) : qm_run pm_m big m_208 (n0 + 2) 5 [(0, .ref 70), (1, .int v0), (2, .int v1), (3, .int v2), (4, .int v3)] [] G U = qm_run pm_m big m_208 n0 7 [(0, .ref 70), (1, .int v0), (2, .int v1), (3, .int v2), (4, .int v3)] [.int v2, .int v0] G U := rfl
theorem sg_ba_98 (big : Nat → List Value → qM → qW → qR) (n0 : Nat) (G : qM) (U : qW) (v0 : Int32) (v1 : Int32) (v2 : Int32) (v3 : Int32) : qm_run pm_m big m_208 (n0 + 2) 10 [(0, .ref 70), (1, .int v0), (2, .int v1), (3, .int v2), (4, .int v3)] [] G U = qm_run pm_m big m_208 n0 12 [(0, .ref 70), (1, .int v0), (2, .int v1), (3, .int v2), (4, .int v3)] [.int v2, .int v1] G U := rfl
theorem sg_ba_99 (big : Nat → List Value → qM → qW → qR) (n0 : Nat) (G : qM) (U : qW) (v0 : Int32) (v1 : Int32) (v2 : Int32) (v3 : Int32) : qm_run pm_m big m_208 (n0 + 5) 15 [(0, .ref 70), (1, .int v0), (2, .int v1), (3, .int v2), (4, .int v3)] [] G U = qm_run pm_m big m_208 n0 24 [(0, .ref 70), (1, .int v0), (2, .int v1), (3, .int v2), (4, .int v3), (5, .int (1 : Int32))] [.int v0, .ref 70] G U := rfl
theorem sg_ba_100 (big : Nat → List Value → qM → qW → qR) (n0 : Nat) (G : qM) (U : qW) (v0 : Int32) (v1 : Int32) (v2 : Int32) (v3 : Int32) : qm_run pm_m big m_208 (n0 + 2) 30 [(0, .ref 70), (1, .int v0), (2, .int v1), (3, .int v2), (4, .int v3), (5, .int (1 : Int32))] [] G U = qm_run pm_m big m_208 n0 32 [(0, .ref 70), (1, .int v0), (2, .int v1), (3, .int v2), (4, .int v3), (5, .int (1 : Int32))] [.int v1, .ref 70] G U := rfl
theorem sg_ba_101 (big : Nat → List Value → qM → qW → qR) (n0 : Nat) (G : qM) (U : qW) (v0 : Int32) (v1 : Int32) (v2 : Int32) (v3 : Int32) : qm_run pm_m big m_208 (n0 + 2) 38 [(0, .ref 70), (1, .int v0), (2, .int v1), (3, .int v2), (4, .int v3), (5, .int (1 : Int32))] [] G U = qm_run pm_m big m_208 n0 40 [(0, .ref 70), (1, .int v0), (2, .int v1), (3, .int v2), (4, .int v3), (5, .int (1 : Int32))] [.int v2, .ref 70] G U := rfl
theorem sg_ba_102 (big : Nat → List Value → qM → qW → qR) (n0 : Nat) (G : qM) (U : qW) (v0 : Int32) (v1 : Int32) (v2 : Int32) (v3 : Int32) : qm_run pm_m big m_208 (n0 + 3) 46 [(0, .ref 70), (1, .int v0), (2, .int v1), (3, .int v2), (4, .int v3), (5, .int (1 : Int32))] [] G U = qm_run pm_m big m_208 n0 53 [(0, .ref 70), (1, .int v0), (2, .int v1), (3, .int v2), (4, .int v3), (5, .int (1 : Int32))] [.int v3] G U := rfl
theorem sg_ba_103 (big : Nat → List Value → qM → qW → qR) (n0 : Nat) (G : qM) (U : qW) (v0 : Int32) (v1 : Int32) (v2 : Int32) (v3 : Int32) : qm_run pm_m big m_208 (n0 + 4) 56 [(0, .ref 70), (1, .int v0), (2, .int v1), (3, .int v2), (4, .int v3), (5, .int (1 : Int32))] [] G U = qm_run pm_m big m_208 n0 65 [(0, .ref 70), (1, .int v0), (2, .int v1), (3, .int v2), (4, .int v3), (5, .int (1 : Int32))] [.long (13 : Int64), .long (10 : Int64), .long (Int32.toInt64 v3)] G U := rfl
def d_isTot (x : Int32) (g : qM) : Int32 := (if x = 0 then (1 : Int32) else (if x < (10 : Int32) then (0 : Int32) else (if (d_hasOne (x - (10 : Int32)) g) = 0 then (0 : Int32) else (1 : Int32))))
theorem b_isTot (x : Int32) (g : qM) (u : qW) : q_BS 91 [.ref 8, .int x] g u (some (.int (d_isTot x g)), g, u) := by
  refine q_bx (mm := m_91) rfl (Nat.le_of_ble_eq_true rfl) rfl ?_
  refine q_step 1 1 [(0, .ref 8), (1, .int x)] [.int x] g u (fun big n0 => sg_ba_1 big n0 g u x) ?_
  refine q_if_eq rfl (fun (hc0 : x = 0) => ?_) (fun (hc0 : ¬ (x = 0)) => ?_)
  · refine q_ret 3 (some (.int (1 : Int32)), g, u) (fun _ _ => rfl) ?_
    unfold d_isTot
    rw [if_pos hc0]
  · refine q_step 2 7 [(0, .ref 8), (1, .int x)] [.int (10 : Int32), .int x] g u (fun big n0 => sg_ba_2 big n0 g u x) ?_
    refine q_ic_lt rfl (fun (hc1 : x < (10 : Int32)) => ?_) (fun (hc1 : ¬ (x < (10 : Int32))) => ?_)
    · refine q_ret 2 (some (.int (0 : Int32)), g, u) (fun _ _ => rfl) ?_
      unfold d_isTot
      rw [if_neg hc0, if_pos hc1]
    · refine q_step 5 18 [(0, .ref 8), (1, .int x)] [.int (x - (10 : Int32)), .ref 20] g u (fun big n0 => sg_ba_3 big n0 g u x) ?_
      refine q_call (M2 := 40) (rest := []) (b_hasOne _ _ _) (fun _ _ => rfl) ?_
      refine q_if_eq rfl (fun (hc2 : (d_hasOne (x - (10 : Int32)) g) = 0) => ?_) (fun (hc2 : ¬ ((d_hasOne (x - (10 : Int32)) g) = 0)) => ?_)
      · refine q_ret 2 (some (.int (0 : Int32)), g, u) (fun _ _ => rfl) ?_
        unfold d_isTot
        rw [if_neg hc0, if_neg hc1, if_pos hc2]
      · refine q_ret 3 (some (.int (1 : Int32)), g, u) (fun _ _ => rfl) ?_
        unfold d_isTot
        rw [if_neg hc0, if_neg hc1, if_neg hc2]
theorem vt_c {n : Nat} {x : Int32} {g : qM} (hn : g 20 3 = Int32.ofNat n) (h6 : n ≤ 6) (h : ¬ d_isTot x g = 0) : v_tot n x := by
  unfold d_isTot at h
  by_cases e : x = 0
  · exact Or.inl e
  · rw [if_neg e] at h
    by_cases e1 : x < 10
    · rw [if_pos e1] at h
      exact absurd rfl h
    · rw [if_neg e1] at h
      by_cases e2 : d_hasOne (x - 10) g = 0
      · rw [if_pos e2] at h
        exact absurd rfl h
      · exact vt_1 (vo_c hn h6 e2) h6
theorem cb_force {n W H : Nat} (g : qM) (u : qW) (hn : g 20 3 = Int32.ofNat n) (hW : g 20 0 = Int32.ofNat W) (hH : g 20 1 = Int32.ofNat H) (h6 : n ≤ 6) (h25 : W * H ≤ 25) (x : Int32) (y : Int32) (hb : ¬ (v_one n x ∧ v_rg 0 1 y)) : q_BS 56 [.ref 8, .int x, .int y] g u (some (.int (Int32.ofInt (-1))), g, u) := by
  refine q_bx (mm := m_56) rfl (Nat.le_of_ble_eq_true rfl) rfl ?_
  refine q_step 3 5 [(0, .ref 8), (1, .int x), (2, .int y)] [.int x, .ref 20] g u (fun big n0 => sg_ba_4 big n0 g u x y) ?_
  refine q_call (M2 := 40) (rest := []) (b_hasOne _ _ _) (fun _ _ => rfl) ?_
  refine q_if_eq rfl (fun (hc0 : (d_hasOne x g) = 0) => ?_) (fun (hc0 : ¬ ((d_hasOne x g) = 0)) => ?_)
  · refine q_ret 2 (some (.int (Int32.ofInt (-1))), g, u) (fun _ _ => rfl) ?_
    rfl
  · refine q_step 1 12 [(0, .ref 8), (1, .int x), (2, .int y)] [.int y] g u (fun big n0 => sg_ba_5 big n0 g u x y) ?_
    refine q_call (M2 := 57) (rest := []) (b_isHalf _ _ _) (fun _ _ => rfl) ?_
    refine q_if_ne rfl (fun (hc1 : (d_isHalf y g) = 0) => ?_) (fun (hc1 : ¬ ((d_isHalf y g) = 0)) => ?_)
    · refine q_ret 2 (some (.int (Int32.ofInt (-1))), g, u) (fun _ _ => rfl) ?_
      rfl
    · exact absurd (show v_one n x ∧ v_rg 0 1 y from ⟨vo_c hn h6 hc0, vr_half hc1⟩) hb
theorem rb_force {n W H : Nat} (g : qM) (u : qW) (hn : g 70 4 = Int32.ofNat n) (hW : g 70 2 = Int32.ofNat W) (hH : g 70 3 = Int32.ofNat H) (h6 : n ≤ 6) (h25 : W * H ≤ 25) (x : Int32) (y : Int32) (hb : ¬ (v_one n x ∧ v_rg 0 1 y)) : q_BS 183 [.ref 70, .int x, .int y] g u (some (.int (Int32.ofInt (-1))), g, u) := by
  refine q_bx (mm := m_183) rfl (Nat.le_of_ble_eq_true rfl) rfl ?_
  refine q_step 2 2 [(0, .ref 70), (1, .int x), (2, .int y)] [.int x, .ref 70] g u (fun big n0 => sg_ba_6 big n0 g u x y) ?_
  refine q_call (M2 := 169) (rest := []) (b_risOne _ _ _) (fun _ _ => rfl) ?_
  refine q_if_eq rfl (fun (hc0 : (d_risOne x g) = 0) => ?_) (fun (hc0 : ¬ ((d_risOne x g) = 0)) => ?_)
  · refine q_ret 2 (some (.int (Int32.ofInt (-1))), g, u) (fun _ _ => rfl) ?_
    rfl
  · refine q_step 4 12 [(0, .ref 70), (1, .int x), (2, .int y)] [.long (1 : Int64), .long (0 : Int64), .long (Int32.toInt64 y)] g u (fun big n0 => sg_ba_7 big n0 g u x y) ?_
    refine q_call (M2 := 149) (rest := []) (b_in _ _ _ _ _) (fun _ _ => rfl) ?_
    refine q_if_ne rfl (fun (hc1 : (s_in (Int32.toInt64 y) (0 : Int64) (1 : Int64)) = 0) => ?_) (fun (hc1 : ¬ ((s_in (Int32.toInt64 y) (0 : Int64) (1 : Int64)) = 0)) => ?_)
    · refine q_ret 2 (some (.int (Int32.ofInt (-1))), g, u) (fun _ _ => rfl) ?_
      rfl
    · exact absurd (show v_one n x ∧ v_rg 0 1 y from ⟨vo_r hn h6 hc0, vr_r (lo := 0) (hi := 1) (by omega) (by omega) hc1⟩) hb
theorem cb_wish {n W H : Nat} (g : qM) (u : qW) (hn : g 20 3 = Int32.ofNat n) (hW : g 20 0 = Int32.ofNat W) (hH : g 20 1 = Int32.ofNat H) (h6 : n ≤ 6) (h25 : W * H ≤ 25) (x : Int32) (hb : ¬ (v_one n x)) : q_BS 65 [.ref 8, .int x] g u (some (.int (Int32.ofInt (-1))), g, u) := by
  refine q_bx (mm := m_65) rfl (Nat.le_of_ble_eq_true rfl) rfl ?_
  refine q_step 3 5 [(0, .ref 8), (1, .int x)] [.int x, .ref 20] g u (fun big n0 => sg_ba_8 big n0 g u x) ?_
  refine q_call (M2 := 40) (rest := []) (b_hasOne _ _ _) (fun _ _ => rfl) ?_
  refine q_if_ne rfl (fun (hc0 : (d_hasOne x g) = 0) => ?_) (fun (hc0 : ¬ ((d_hasOne x g) = 0)) => ?_)
  · refine q_ret 2 (some (.int (Int32.ofInt (-1))), g, u) (fun _ _ => rfl) ?_
    rfl
  · exact absurd (vo_c hn h6 hc0) hb
theorem rb_wish {n W H : Nat} (g : qM) (u : qW) (hn : g 70 4 = Int32.ofNat n) (hW : g 70 2 = Int32.ofNat W) (hH : g 70 3 = Int32.ofNat H) (h6 : n ≤ 6) (h25 : W * H ≤ 25) (x : Int32) (hb : ¬ (v_one n x)) : q_BS 188 [.ref 70, .int x] g u (some (.int (Int32.ofInt (-1))), g, u) := by
  refine q_bx (mm := m_188) rfl (Nat.le_of_ble_eq_true rfl) rfl ?_
  refine q_step 2 2 [(0, .ref 70), (1, .int x)] [.int x, .ref 70] g u (fun big n0 => sg_ba_9 big n0 g u x) ?_
  refine q_call (M2 := 169) (rest := []) (b_risOne _ _ _) (fun _ _ => rfl) ?_
  refine q_if_ne rfl (fun (hc0 : (d_risOne x g) = 0) => ?_) (fun (hc0 : ¬ ((d_risOne x g) = 0)) => ?_)
  · refine q_ret 2 (some (.int (Int32.ofInt (-1))), g, u) (fun _ _ => rfl) ?_
    rfl
  · exact absurd (vo_r hn h6 hc0) hb
theorem cb_go {n W H : Nat} (g : qM) (u : qW) (hn : g 20 3 = Int32.ofNat n) (hW : g 20 0 = Int32.ofNat W) (hH : g 20 1 = Int32.ofNat H) (h6 : n ≤ 6) (h25 : W * H ≤ 25) (x : Int32) (hb : ¬ (v_rg 0 60 x)) : q_BS 75 [.ref 8, .int x] g u (some (.int (Int32.ofInt (-1))), g, u) := by
  refine q_bx (mm := m_75) rfl (Nat.le_of_ble_eq_true rfl) rfl ?_
  refine q_step 1 1 [(0, .ref 8), (1, .int x)] [.int x] g u (fun big n0 => sg_ba_10 big n0 g u x) ?_
  refine q_if_lt rfl (fun (hc0 : x < 0) => ?_) (fun (hc0 : ¬ (x < 0)) => ?_)
  · refine q_ret 2 (some (.int (Int32.ofInt (-1))), g, u) (fun _ _ => rfl) ?_
    rfl
  · refine q_step 2 7 [(0, .ref 8), (1, .int x)] [.int (60 : Int32), .int x] g u (fun big n0 => sg_ba_11 big n0 g u x) ?_
    refine q_ic_le rfl (fun (hc1 : x ≤ (60 : Int32)) => ?_) (fun (hc1 : ¬ (x ≤ (60 : Int32))) => ?_)
    · exact absurd (vr_c' (lo := 0) (hi := 60) (by omega) (by omega) hc0 hc1) hb
    · refine q_ret 2 (some (.int (Int32.ofInt (-1))), g, u) (fun _ _ => rfl) ?_
      rfl
theorem rb_go {n W H : Nat} (g : qM) (u : qW) (hn : g 70 4 = Int32.ofNat n) (hW : g 70 2 = Int32.ofNat W) (hH : g 70 3 = Int32.ofNat H) (h6 : n ≤ 6) (h25 : W * H ≤ 25) (x : Int32) (hb : ¬ (v_rg 0 60 x)) : q_BS 196 [.ref 70, .int x] g u (some (.int (Int32.ofInt (-1))), g, u) := by
  refine q_bx (mm := m_196) rfl (Nat.le_of_ble_eq_true rfl) rfl ?_
  refine q_step 4 6 [(0, .ref 70), (1, .int x)] [.long (60 : Int64), .long (0 : Int64), .long (Int32.toInt64 x)] g u (fun big n0 => sg_ba_12 big n0 g u x) ?_
  refine q_call (M2 := 149) (rest := []) (b_in _ _ _ _ _) (fun _ _ => rfl) ?_
  refine q_if_ne rfl (fun (hc0 : (s_in (Int32.toInt64 x) (0 : Int64) (60 : Int64)) = 0) => ?_) (fun (hc0 : ¬ ((s_in (Int32.toInt64 x) (0 : Int64) (60 : Int64)) = 0)) => ?_)
  · refine q_ret 2 (some (.int (Int32.ofInt (-1))), g, u) (fun _ _ => rfl) ?_
    rfl
  · exact absurd (vr_r (lo := 0) (hi := 60) (by omega) (by omega) hc0) hb
theorem cb_ahead {n W H : Nat} (g : qM) (u : qW) (hn : g 20 3 = Int32.ofNat n) (hW : g 20 0 = Int32.ofNat W) (hH : g 20 1 = Int32.ofNat H) (h6 : n ≤ 6) (h25 : W * H ≤ 25) (x : Int32) (y : Int32) (z : Int32) (hb : ¬ (v_one n x ∧ v_rg 0 60 y ∧ v_rg 0 1 z)) : q_BS 79 [.ref 8, .int x, .int y, .int z] g u (some (.int (Int32.ofInt (-1))), g, u) := by
  refine q_bx (mm := m_79) rfl (Nat.le_of_ble_eq_true rfl) rfl ?_
  refine q_step 3 5 [(0, .ref 8), (1, .int x), (2, .int y), (3, .int z)] [.int x, .ref 20] g u (fun big n0 => sg_ba_13 big n0 g u x y z) ?_
  refine q_call (M2 := 40) (rest := []) (b_hasOne _ _ _) (fun _ _ => rfl) ?_
  refine q_if_eq rfl (fun (hc0 : (d_hasOne x g) = 0) => ?_) (fun (hc0 : ¬ ((d_hasOne x g) = 0)) => ?_)
  · refine q_ret 2 (some (.int (Int32.ofInt (-1))), g, u) (fun _ _ => rfl) ?_
    rfl
  · refine q_step 1 12 [(0, .ref 8), (1, .int x), (2, .int y), (3, .int z)] [.int y] g u (fun big n0 => sg_ba_14 big n0 g u x y z) ?_
    refine q_if_lt rfl (fun (hc1 : y < 0) => ?_) (fun (hc1 : ¬ (y < 0)) => ?_)
    · refine q_ret 2 (some (.int (Int32.ofInt (-1))), g, u) (fun _ _ => rfl) ?_
      rfl
    · refine q_step 2 18 [(0, .ref 8), (1, .int x), (2, .int y), (3, .int z)] [.int (60 : Int32), .int y] g u (fun big n0 => sg_ba_15 big n0 g u x y z) ?_
      refine q_ic_gt rfl (fun (hc2 : (60 : Int32) < y) => ?_) (fun (hc2 : ¬ ((60 : Int32) < y)) => ?_)
      · refine q_ret 2 (some (.int (Int32.ofInt (-1))), g, u) (fun _ _ => rfl) ?_
        rfl
      · refine q_step 1 22 [(0, .ref 8), (1, .int x), (2, .int y), (3, .int z)] [.int z] g u (fun big n0 => sg_ba_16 big n0 g u x y z) ?_
        refine q_call (M2 := 57) (rest := []) (b_isHalf _ _ _) (fun _ _ => rfl) ?_
        refine q_if_ne rfl (fun (hc3 : (d_isHalf z g) = 0) => ?_) (fun (hc3 : ¬ ((d_isHalf z g) = 0)) => ?_)
        · refine q_ret 2 (some (.int (Int32.ofInt (-1))), g, u) (fun _ _ => rfl) ?_
          rfl
        · exact absurd (show v_one n x ∧ v_rg 0 60 y ∧ v_rg 0 1 z from ⟨vo_c hn h6 hc0, vr_c (lo := 0) (hi := 60) (by omega) (by omega) hc1 hc2, vr_half hc3⟩) hb
theorem rb_ahead {n W H : Nat} (g : qM) (u : qW) (hn : g 70 4 = Int32.ofNat n) (hW : g 70 2 = Int32.ofNat W) (hH : g 70 3 = Int32.ofNat H) (h6 : n ≤ 6) (h25 : W * H ≤ 25) (x : Int32) (y : Int32) (z : Int32) (hb : ¬ (v_one n x ∧ v_rg 0 60 y ∧ v_rg 0 1 z)) : q_BS 198 [.ref 70, .int x, .int y, .int z] g u (some (.int (Int32.ofInt (-1))), g, u) := by
  refine q_bx (mm := m_198) rfl (Nat.le_of_ble_eq_true rfl) rfl ?_
  refine q_step 2 2 [(0, .ref 70), (1, .int x), (2, .int y), (3, .int z)] [.int x, .ref 70] g u (fun big n0 => sg_ba_17 big n0 g u x y z) ?_
  refine q_call (M2 := 169) (rest := []) (b_risOne _ _ _) (fun _ _ => rfl) ?_
  refine q_if_eq rfl (fun (hc0 : (d_risOne x g) = 0) => ?_) (fun (hc0 : ¬ ((d_risOne x g) = 0)) => ?_)
  · refine q_ret 2 (some (.int (Int32.ofInt (-1))), g, u) (fun _ _ => rfl) ?_
    rfl
  · refine q_step 4 14 [(0, .ref 70), (1, .int x), (2, .int y), (3, .int z)] [.long (60 : Int64), .long (0 : Int64), .long (Int32.toInt64 y)] g u (fun big n0 => sg_ba_18 big n0 g u x y z) ?_
    refine q_call (M2 := 149) (rest := []) (b_in _ _ _ _ _) (fun _ _ => rfl) ?_
    refine q_if_eq rfl (fun (hc1 : (s_in (Int32.toInt64 y) (0 : Int64) (60 : Int64)) = 0) => ?_) (fun (hc1 : ¬ ((s_in (Int32.toInt64 y) (0 : Int64) (60 : Int64)) = 0)) => ?_)
    · refine q_ret 2 (some (.int (Int32.ofInt (-1))), g, u) (fun _ _ => rfl) ?_
      rfl
    · refine q_step 4 24 [(0, .ref 70), (1, .int x), (2, .int y), (3, .int z)] [.long (1 : Int64), .long (0 : Int64), .long (Int32.toInt64 z)] g u (fun big n0 => sg_ba_19 big n0 g u x y z) ?_
      refine q_call (M2 := 149) (rest := []) (b_in _ _ _ _ _) (fun _ _ => rfl) ?_
      refine q_if_ne rfl (fun (hc2 : (s_in (Int32.toInt64 z) (0 : Int64) (1 : Int64)) = 0) => ?_) (fun (hc2 : ¬ ((s_in (Int32.toInt64 z) (0 : Int64) (1 : Int64)) = 0)) => ?_)
      · refine q_ret 2 (some (.int (Int32.ofInt (-1))), g, u) (fun _ _ => rfl) ?_
        rfl
      · exact absurd (show v_one n x ∧ v_rg 0 60 y ∧ v_rg 0 1 z from ⟨vo_r hn h6 hc0, vr_r (lo := 0) (hi := 60) (by omega) (by omega) hc1, vr_r (lo := 0) (hi := 1) (by omega) (by omega) hc2⟩) hb
theorem cb_again {n W H : Nat} (g : qM) (u : qW) (hn : g 20 3 = Int32.ofNat n) (hW : g 20 0 = Int32.ofNat W) (hH : g 20 1 = Int32.ofNat H) (h6 : n ≤ 6) (h25 : W * H ≤ 25) (x : Int32) (hb : ¬ (v_rg 0 1 x)) : q_BS 84 [.ref 8, .int x] g u (some (.int (Int32.ofInt (-1))), g, u) := by
  refine q_bx (mm := m_84) rfl (Nat.le_of_ble_eq_true rfl) rfl ?_
  refine q_step 1 1 [(0, .ref 8), (1, .int x)] [.int x] g u (fun big n0 => sg_ba_20 big n0 g u x) ?_
  refine q_call (M2 := 57) (rest := []) (b_isHalf _ _ _) (fun _ _ => rfl) ?_
  refine q_if_ne rfl (fun (hc0 : (d_isHalf x g) = 0) => ?_) (fun (hc0 : ¬ ((d_isHalf x g) = 0)) => ?_)
  · refine q_ret 2 (some (.int (Int32.ofInt (-1))), g, u) (fun _ _ => rfl) ?_
    rfl
  · exact absurd (vr_half hc0) hb
theorem rb_again {n W H : Nat} (g : qM) (u : qW) (hn : g 70 4 = Int32.ofNat n) (hW : g 70 2 = Int32.ofNat W) (hH : g 70 3 = Int32.ofNat H) (h6 : n ≤ 6) (h25 : W * H ≤ 25) (x : Int32) (hb : ¬ (v_rg 0 1 x)) : q_BS 200 [.ref 70, .int x] g u (some (.int (Int32.ofInt (-1))), g, u) := by
  refine q_bx (mm := m_200) rfl (Nat.le_of_ble_eq_true rfl) rfl ?_
  refine q_step 4 4 [(0, .ref 70), (1, .int x)] [.long (1 : Int64), .long (0 : Int64), .long (Int32.toInt64 x)] g u (fun big n0 => sg_ba_21 big n0 g u x) ?_
  refine q_call (M2 := 149) (rest := []) (b_in _ _ _ _ _) (fun _ _ => rfl) ?_
  refine q_if_ne rfl (fun (hc0 : (s_in (Int32.toInt64 x) (0 : Int64) (1 : Int64)) = 0) => ?_) (fun (hc0 : ¬ ((s_in (Int32.toInt64 x) (0 : Int64) (1 : Int64)) = 0)) => ?_)
  · refine q_ret 2 (some (.int (Int32.ofInt (-1))), g, u) (fun _ _ => rfl) ?_
    rfl
  · exact absurd (vr_r (lo := 0) (hi := 1) (by omega) (by omega) hc0) hb
theorem cb_calm {n W H : Nat} (g : qM) (u : qW) (hn : g 20 3 = Int32.ofNat n) (hW : g 20 0 = Int32.ofNat W) (hH : g 20 1 = Int32.ofNat H) (h6 : n ≤ 6) (h25 : W * H ≤ 25) (x : Int32) (hb : ¬ (v_one n x)) : q_BS 104 [.ref 8, .int x] g u (some (.int (Int32.ofInt (-1))), g, u) := by
  refine q_bx (mm := m_104) rfl (Nat.le_of_ble_eq_true rfl) rfl ?_
  refine q_step 3 5 [(0, .ref 8), (1, .int x)] [.int x, .ref 20] g u (fun big n0 => sg_ba_22 big n0 g u x) ?_
  refine q_call (M2 := 40) (rest := []) (b_hasOne _ _ _) (fun _ _ => rfl) ?_
  refine q_if_eq rfl (fun (hc0 : (d_hasOne x g) = 0) => ?_) (fun (hc0 : ¬ ((d_hasOne x g) = 0)) => ?_)
  · refine q_ret 2 (some (.int (Int32.ofInt (-1))), g, u) (fun _ _ => rfl) ?_
    rfl
  · exact absurd (vo_c hn h6 hc0) hb
theorem rb_calm {n W H : Nat} (g : qM) (u : qW) (hn : g 70 4 = Int32.ofNat n) (hW : g 70 2 = Int32.ofNat W) (hH : g 70 3 = Int32.ofNat H) (h6 : n ≤ 6) (h25 : W * H ≤ 25) (x : Int32) (hb : ¬ (v_one n x)) : q_BS 207 [.ref 70, .int x] g u (some (.int (Int32.ofInt (-1))), g, u) := by
  refine q_bx (mm := m_207) rfl (Nat.le_of_ble_eq_true rfl) rfl ?_
  refine q_step 2 2 [(0, .ref 70), (1, .int x)] [.int x, .ref 70] g u (fun big n0 => sg_ba_23 big n0 g u x) ?_
  refine q_call (M2 := 169) (rest := []) (b_risOne _ _ _) (fun _ _ => rfl) ?_
  refine q_if_ne rfl (fun (hc0 : (d_risOne x g) = 0) => ?_) (fun (hc0 : ¬ ((d_risOne x g) = 0)) => ?_)
  · refine q_ret 2 (some (.int (Int32.ofInt (-1))), g, u) (fun _ _ => rfl) ?_
    rfl
  · exact absurd (vo_r hn h6 hc0) hb
theorem cb_hang {n W H : Nat} (g : qM) (u : qW) (hn : g 20 3 = Int32.ofNat n) (hW : g 20 0 = Int32.ofNat W) (hH : g 20 1 = Int32.ofNat H) (h6 : n ≤ 6) (h25 : W * H ≤ 25) (x : Int32) (y : Int32) (z : Int32) (hb : ¬ (v_rg 1 3 x ∧ v_rg 0 12 y ∧ v_rg 0 1 z)) : q_BS 110 [.ref 8, .int x, .int y, .int z] g u (some (.int (Int32.ofInt (-1))), g, u) := by
  refine q_bx (mm := m_110) rfl (Nat.le_of_ble_eq_true rfl) rfl ?_
  refine q_step 2 2 [(0, .ref 8), (1, .int x), (2, .int y), (3, .int z)] [.int (1 : Int32), .int x] g u (fun big n0 => sg_ba_24 big n0 g u x y z) ?_
  refine q_ic_lt rfl (fun (hc0 : x < (1 : Int32)) => ?_) (fun (hc0 : ¬ (x < (1 : Int32))) => ?_)
  · refine q_ret 2 (some (.int (Int32.ofInt (-1))), g, u) (fun _ _ => rfl) ?_
    rfl
  · refine q_step 2 7 [(0, .ref 8), (1, .int x), (2, .int y), (3, .int z)] [.int (3 : Int32), .int x] g u (fun big n0 => sg_ba_25 big n0 g u x y z) ?_
    refine q_ic_gt rfl (fun (hc1 : (3 : Int32) < x) => ?_) (fun (hc1 : ¬ ((3 : Int32) < x)) => ?_)
    · refine q_ret 2 (some (.int (Int32.ofInt (-1))), g, u) (fun _ _ => rfl) ?_
      rfl
    · refine q_step 1 11 [(0, .ref 8), (1, .int x), (2, .int y), (3, .int z)] [.int y] g u (fun big n0 => sg_ba_26 big n0 g u x y z) ?_
      refine q_call (M2 := 90) (rest := []) (b_isSearched _ _ _) (fun _ _ => rfl) ?_
      refine q_if_eq rfl (fun (hc2 : (d_isSearched y g) = 0) => ?_) (fun (hc2 : ¬ ((d_isSearched y g) = 0)) => ?_)
      · refine q_ret 2 (some (.int (Int32.ofInt (-1))), g, u) (fun _ _ => rfl) ?_
        rfl
      · refine q_step 1 18 [(0, .ref 8), (1, .int x), (2, .int y), (3, .int z)] [.int z] g u (fun big n0 => sg_ba_27 big n0 g u x y z) ?_
        refine q_call (M2 := 57) (rest := []) (b_isHalf _ _ _) (fun _ _ => rfl) ?_
        refine q_if_ne rfl (fun (hc3 : (d_isHalf z g) = 0) => ?_) (fun (hc3 : ¬ ((d_isHalf z g) = 0)) => ?_)
        · refine q_ret 2 (some (.int (Int32.ofInt (-1))), g, u) (fun _ _ => rfl) ?_
          rfl
        · exact absurd (show v_rg 1 3 x ∧ v_rg 0 12 y ∧ v_rg 0 1 z from ⟨vr_c (lo := 1) (hi := 3) (by omega) (by omega) hc0 hc1, vr_srch hc2, vr_half hc3⟩) hb
theorem rb_hang {n W H : Nat} (g : qM) (u : qW) (hn : g 70 4 = Int32.ofNat n) (hW : g 70 2 = Int32.ofNat W) (hH : g 70 3 = Int32.ofNat H) (h6 : n ≤ 6) (h25 : W * H ≤ 25) (x : Int32) (y : Int32) (z : Int32) (hb : ¬ (v_rg 1 3 x ∧ v_rg 0 12 y ∧ v_rg 0 1 z)) : q_BS 209 [.ref 70, .int x, .int y, .int z] g u (some (.int (Int32.ofInt (-1))), g, u) := by
  refine q_bx (mm := m_209) rfl (Nat.le_of_ble_eq_true rfl) rfl ?_
  refine q_step 4 6 [(0, .ref 70), (1, .int x), (2, .int y), (3, .int z)] [.long (3 : Int64), .long (1 : Int64), .long (Int32.toInt64 x)] g u (fun big n0 => sg_ba_28 big n0 g u x y z) ?_
  refine q_call (M2 := 149) (rest := []) (b_in _ _ _ _ _) (fun _ _ => rfl) ?_
  refine q_if_eq rfl (fun (hc0 : (s_in (Int32.toInt64 x) (1 : Int64) (3 : Int64)) = 0) => ?_) (fun (hc0 : ¬ ((s_in (Int32.toInt64 x) (1 : Int64) (3 : Int64)) = 0)) => ?_)
  · refine q_ret 2 (some (.int (Int32.ofInt (-1))), g, u) (fun _ _ => rfl) ?_
    rfl
  · refine q_step 4 18 [(0, .ref 70), (1, .int x), (2, .int y), (3, .int z)] [.long (12 : Int64), .long (0 : Int64), .long (Int32.toInt64 y)] g u (fun big n0 => sg_ba_29 big n0 g u x y z) ?_
    refine q_call (M2 := 149) (rest := []) (b_in _ _ _ _ _) (fun _ _ => rfl) ?_
    refine q_if_eq rfl (fun (hc1 : (s_in (Int32.toInt64 y) (0 : Int64) (12 : Int64)) = 0) => ?_) (fun (hc1 : ¬ ((s_in (Int32.toInt64 y) (0 : Int64) (12 : Int64)) = 0)) => ?_)
    · refine q_ret 2 (some (.int (Int32.ofInt (-1))), g, u) (fun _ _ => rfl) ?_
      rfl
    · refine q_step 4 28 [(0, .ref 70), (1, .int x), (2, .int y), (3, .int z)] [.long (1 : Int64), .long (0 : Int64), .long (Int32.toInt64 z)] g u (fun big n0 => sg_ba_30 big n0 g u x y z) ?_
      refine q_call (M2 := 149) (rest := []) (b_in _ _ _ _ _) (fun _ _ => rfl) ?_
      refine q_if_ne rfl (fun (hc2 : (s_in (Int32.toInt64 z) (0 : Int64) (1 : Int64)) = 0) => ?_) (fun (hc2 : ¬ ((s_in (Int32.toInt64 z) (0 : Int64) (1 : Int64)) = 0)) => ?_)
      · refine q_ret 2 (some (.int (Int32.ofInt (-1))), g, u) (fun _ _ => rfl) ?_
        rfl
      · exact absurd (show v_rg 1 3 x ∧ v_rg 0 12 y ∧ v_rg 0 1 z from ⟨vr_r (lo := 1) (hi := 3) (by omega) (by omega) hc0, vr_r (lo := 0) (hi := 12) (by omega) (by omega) hc1, vr_r (lo := 0) (hi := 1) (by omega) (by omega) hc2⟩) hb
theorem cb_odds {n W H : Nat} (g : qM) (u : qW) (hn : g 20 3 = Int32.ofNat n) (hW : g 20 0 = Int32.ofNat W) (hH : g 20 1 = Int32.ofNat H) (h6 : n ≤ 6) (h25 : W * H ≤ 25) (x : Int32) (y : Int32) (z : Int32) (hb : ¬ (v_rg 0 10 x ∧ v_rg 0 12 y ∧ v_rg 0 1 z)) : q_BS 112 [.ref 8, .int x, .int y, .int z] g u (some (.long (Int64.ofInt (-1))), g, u) := by
  refine q_bx (mm := m_112) rfl (Nat.le_of_ble_eq_true rfl) rfl ?_
  refine q_step 1 1 [(0, .ref 8), (1, .int x), (2, .int y), (3, .int z)] [.int x] g u (fun big n0 => sg_ba_31 big n0 g u x y z) ?_
  refine q_if_lt rfl (fun (hc0 : x < 0) => ?_) (fun (hc0 : ¬ (x < 0)) => ?_)
  · refine q_ret 2 (some (.long (Int64.ofInt (-1))), g, u) (fun _ _ => rfl) ?_
    rfl
  · refine q_step 2 7 [(0, .ref 8), (1, .int x), (2, .int y), (3, .int z)] [.int (10 : Int32), .int x] g u (fun big n0 => sg_ba_32 big n0 g u x y z) ?_
    refine q_ic_gt rfl (fun (hc1 : (10 : Int32) < x) => ?_) (fun (hc1 : ¬ ((10 : Int32) < x)) => ?_)
    · refine q_ret 2 (some (.long (Int64.ofInt (-1))), g, u) (fun _ _ => rfl) ?_
      rfl
    · refine q_step 1 11 [(0, .ref 8), (1, .int x), (2, .int y), (3, .int z)] [.int y] g u (fun big n0 => sg_ba_33 big n0 g u x y z) ?_
      refine q_call (M2 := 90) (rest := []) (b_isSearched _ _ _) (fun _ _ => rfl) ?_
      refine q_if_eq rfl (fun (hc2 : (d_isSearched y g) = 0) => ?_) (fun (hc2 : ¬ ((d_isSearched y g) = 0)) => ?_)
      · refine q_ret 2 (some (.long (Int64.ofInt (-1))), g, u) (fun _ _ => rfl) ?_
        rfl
      · refine q_step 1 18 [(0, .ref 8), (1, .int x), (2, .int y), (3, .int z)] [.int z] g u (fun big n0 => sg_ba_34 big n0 g u x y z) ?_
        refine q_call (M2 := 57) (rest := []) (b_isHalf _ _ _) (fun _ _ => rfl) ?_
        refine q_if_ne rfl (fun (hc3 : (d_isHalf z g) = 0) => ?_) (fun (hc3 : ¬ ((d_isHalf z g) = 0)) => ?_)
        · refine q_ret 2 (some (.long (Int64.ofInt (-1))), g, u) (fun _ _ => rfl) ?_
          rfl
        · exact absurd (show v_rg 0 10 x ∧ v_rg 0 12 y ∧ v_rg 0 1 z from ⟨vr_c (lo := 0) (hi := 10) (by omega) (by omega) hc0 hc1, vr_srch hc2, vr_half hc3⟩) hb
theorem rb_odds {n W H : Nat} (g : qM) (u : qW) (hn : g 70 4 = Int32.ofNat n) (hW : g 70 2 = Int32.ofNat W) (hH : g 70 3 = Int32.ofNat H) (h6 : n ≤ 6) (h25 : W * H ≤ 25) (x : Int32) (y : Int32) (z : Int32) (hb : ¬ (v_rg 0 10 x ∧ v_rg 0 12 y ∧ v_rg 0 1 z)) : q_BS 210 [.ref 70, .int x, .int y, .int z] g u (some (.long (Int64.ofInt (-1))), g, u) := by
  refine q_bx (mm := m_210) rfl (Nat.le_of_ble_eq_true rfl) rfl ?_
  refine q_step 4 6 [(0, .ref 70), (1, .int x), (2, .int y), (3, .int z)] [.long (10 : Int64), .long (0 : Int64), .long (Int32.toInt64 x)] g u (fun big n0 => sg_ba_35 big n0 g u x y z) ?_
  refine q_call (M2 := 149) (rest := []) (b_in _ _ _ _ _) (fun _ _ => rfl) ?_
  refine q_if_eq rfl (fun (hc0 : (s_in (Int32.toInt64 x) (0 : Int64) (10 : Int64)) = 0) => ?_) (fun (hc0 : ¬ ((s_in (Int32.toInt64 x) (0 : Int64) (10 : Int64)) = 0)) => ?_)
  · refine q_ret 2 (some (.long (Int64.ofInt (-1))), g, u) (fun _ _ => rfl) ?_
    rfl
  · refine q_step 4 18 [(0, .ref 70), (1, .int x), (2, .int y), (3, .int z)] [.long (12 : Int64), .long (0 : Int64), .long (Int32.toInt64 y)] g u (fun big n0 => sg_ba_36 big n0 g u x y z) ?_
    refine q_call (M2 := 149) (rest := []) (b_in _ _ _ _ _) (fun _ _ => rfl) ?_
    refine q_if_eq rfl (fun (hc1 : (s_in (Int32.toInt64 y) (0 : Int64) (12 : Int64)) = 0) => ?_) (fun (hc1 : ¬ ((s_in (Int32.toInt64 y) (0 : Int64) (12 : Int64)) = 0)) => ?_)
    · refine q_ret 2 (some (.long (Int64.ofInt (-1))), g, u) (fun _ _ => rfl) ?_
      rfl
    · refine q_step 4 28 [(0, .ref 70), (1, .int x), (2, .int y), (3, .int z)] [.long (1 : Int64), .long (0 : Int64), .long (Int32.toInt64 z)] g u (fun big n0 => sg_ba_37 big n0 g u x y z) ?_
      refine q_call (M2 := 149) (rest := []) (b_in _ _ _ _ _) (fun _ _ => rfl) ?_
      refine q_if_ne rfl (fun (hc2 : (s_in (Int32.toInt64 z) (0 : Int64) (1 : Int64)) = 0) => ?_) (fun (hc2 : ¬ ((s_in (Int32.toInt64 z) (0 : Int64) (1 : Int64)) = 0)) => ?_)
      · refine q_ret 2 (some (.long (Int64.ofInt (-1))), g, u) (fun _ _ => rfl) ?_
        rfl
      · exact absurd (show v_rg 0 10 x ∧ v_rg 0 12 y ∧ v_rg 0 1 z from ⟨vr_r (lo := 0) (hi := 10) (by omega) (by omega) hc0, vr_r (lo := 0) (hi := 12) (by omega) (by omega) hc1, vr_r (lo := 0) (hi := 1) (by omega) (by omega) hc2⟩) hb
theorem cb_crowd {n W H : Nat} (g : qM) (u : qW) (hn : g 20 3 = Int32.ofNat n) (hW : g 20 0 = Int32.ofNat W) (hH : g 20 1 = Int32.ofNat H) (h6 : n ≤ 6) (h25 : W * H ≤ 25) (x : Int32) (y : Int32) (hb : ¬ (v_rg 1 60 y)) : q_BS 125 [.ref 8, .int x, .int y] g u (some (.int (Int32.ofInt (-1))), g, u) := by
  refine q_bx (mm := m_125) rfl (Nat.le_of_ble_eq_true rfl) rfl ?_
  refine q_step 2 2 [(0, .ref 8), (1, .int x), (2, .int y)] [.int (1 : Int32), .int y] g u (fun big n0 => sg_ba_38 big n0 g u x y) ?_
  refine q_ic_lt rfl (fun (hc0 : y < (1 : Int32)) => ?_) (fun (hc0 : ¬ (y < (1 : Int32))) => ?_)
  · refine q_ret 2 (some (.int (Int32.ofInt (-1))), g, u) (fun _ _ => rfl) ?_
    rfl
  · refine q_step 2 8 [(0, .ref 8), (1, .int x), (2, .int y)] [.int (60 : Int32), .int y] g u (fun big n0 => sg_ba_39 big n0 g u x y) ?_
    refine q_ic_le rfl (fun (hc1 : y ≤ (60 : Int32)) => ?_) (fun (hc1 : ¬ (y ≤ (60 : Int32))) => ?_)
    · exact absurd (vr_c' (lo := 1) (hi := 60) (by omega) (by omega) hc0 hc1) hb
    · refine q_ret 2 (some (.int (Int32.ofInt (-1))), g, u) (fun _ _ => rfl) ?_
      rfl
theorem rb_crowd {n W H : Nat} (g : qM) (u : qW) (hn : g 70 4 = Int32.ofNat n) (hW : g 70 2 = Int32.ofNat W) (hH : g 70 3 = Int32.ofNat H) (h6 : n ≤ 6) (h25 : W * H ≤ 25) (x : Int32) (y : Int32) (hb : ¬ (v_rg 1 60 y)) : q_BS 215 [.ref 70, .int x, .int y] g u (some (.int (Int32.ofInt (-1))), g, u) := by
  refine q_bx (mm := m_215) rfl (Nat.le_of_ble_eq_true rfl) rfl ?_
  refine q_step 4 6 [(0, .ref 70), (1, .int x), (2, .int y)] [.long (60 : Int64), .long (1 : Int64), .long (Int32.toInt64 y)] g u (fun big n0 => sg_ba_40 big n0 g u x y) ?_
  refine q_call (M2 := 149) (rest := []) (b_in _ _ _ _ _) (fun _ _ => rfl) ?_
  refine q_if_ne rfl (fun (hc0 : (s_in (Int32.toInt64 y) (1 : Int64) (60 : Int64)) = 0) => ?_) (fun (hc0 : ¬ ((s_in (Int32.toInt64 y) (1 : Int64) (60 : Int64)) = 0)) => ?_)
  · refine q_ret 2 (some (.int (Int32.ofInt (-1))), g, u) (fun _ _ => rfl) ?_
    rfl
  · exact absurd (vr_r (lo := 1) (hi := 60) (by omega) (by omega) hc0) hb
theorem cb_mood {n W H : Nat} (g : qM) (u : qW) (hn : g 20 3 = Int32.ofNat n) (hW : g 20 0 = Int32.ofNat W) (hH : g 20 1 = Int32.ofNat H) (h6 : n ≤ 6) (h25 : W * H ≤ 25) (x : Int32) (y : Int32) (hb : ¬ (v_one n x ∧ v_rg 0 3 y)) : q_BS 47 [.ref 8, .int x, .int y] g u (some (.int (Int32.ofInt (-1))), g, u) := by
  refine q_bx (mm := m_47) rfl (Nat.le_of_ble_eq_true rfl) rfl ?_
  refine q_step 3 5 [(0, .ref 8), (1, .int x), (2, .int y)] [.int x, .ref 20] g u (fun big n0 => sg_ba_41 big n0 g u x y) ?_
  refine q_call (M2 := 40) (rest := []) (b_hasOne _ _ _) (fun _ _ => rfl) ?_
  refine q_if_eq rfl (fun (hc0 : (d_hasOne x g) = 0) => ?_) (fun (hc0 : ¬ ((d_hasOne x g) = 0)) => ?_)
  · refine q_ret 2 (some (.int (Int32.ofInt (-1))), g, u) (fun _ _ => rfl) ?_
    rfl
  · refine q_step 1 12 [(0, .ref 8), (1, .int x), (2, .int y)] [.int y] g u (fun big n0 => sg_ba_42 big n0 g u x y) ?_
    refine q_call (M2 := 48) (rest := []) (b_isMood _ _ _) (fun _ _ => rfl) ?_
    refine q_if_ne rfl (fun (hc1 : (d_isMood y g) = 0) => ?_) (fun (hc1 : ¬ ((d_isMood y g) = 0)) => ?_)
    · refine q_ret 2 (some (.int (Int32.ofInt (-1))), g, u) (fun _ _ => rfl) ?_
      rfl
    · exact absurd (show v_one n x ∧ v_rg 0 3 y from ⟨vo_c hn h6 hc0, vr_mood hc1⟩) hb
theorem rb_mood {n W H : Nat} (g : qM) (u : qW) (hn : g 70 4 = Int32.ofNat n) (hW : g 70 2 = Int32.ofNat W) (hH : g 70 3 = Int32.ofNat H) (h6 : n ≤ 6) (h25 : W * H ≤ 25) (x : Int32) (y : Int32) (hb : ¬ (v_one n x ∧ v_rg 0 3 y)) : q_BS 174 [.ref 70, .int x, .int y] g u (some (.int (Int32.ofInt (-1))), g, u) := by
  refine q_bx (mm := m_174) rfl (Nat.le_of_ble_eq_true rfl) rfl ?_
  refine q_step 2 2 [(0, .ref 70), (1, .int x), (2, .int y)] [.int x, .ref 70] g u (fun big n0 => sg_ba_43 big n0 g u x y) ?_
  refine q_call (M2 := 169) (rest := []) (b_risOne _ _ _) (fun _ _ => rfl) ?_
  refine q_if_eq rfl (fun (hc0 : (d_risOne x g) = 0) => ?_) (fun (hc0 : ¬ ((d_risOne x g) = 0)) => ?_)
  · refine q_ret 2 (some (.int (Int32.ofInt (-1))), g, u) (fun _ _ => rfl) ?_
    rfl
  · refine q_step 4 14 [(0, .ref 70), (1, .int x), (2, .int y)] [.long (3 : Int64), .long (0 : Int64), .long (Int32.toInt64 y)] g u (fun big n0 => sg_ba_44 big n0 g u x y) ?_
    refine q_call (M2 := 149) (rest := []) (b_in _ _ _ _ _) (fun _ _ => rfl) ?_
    refine q_if_eq rfl (fun (hc1 : (s_in (Int32.toInt64 y) (0 : Int64) (3 : Int64)) = 0) => ?_) (fun (hc1 : ¬ ((s_in (Int32.toInt64 y) (0 : Int64) (3 : Int64)) = 0)) => ?_)
    · refine q_ret 2 (some (.int (Int32.ofInt (-1))), g, u) (fun _ _ => rfl) ?_
      rfl
    · exact absurd (show v_one n x ∧ v_rg 0 3 y from ⟨vo_r hn h6 hc0, vr_r (lo := 0) (hi := 3) (by omega) (by omega) hc1⟩) hb
theorem cb_hold {n W H : Nat} (g : qM) (u : qW) (hn : g 20 3 = Int32.ofNat n) (hW : g 20 0 = Int32.ofNat W) (hH : g 20 1 = Int32.ofNat H) (h6 : n ≤ 6) (h25 : W * H ≤ 25) (x : Int32) (y : Int32) (hb : ¬ (v_one n x)) : q_BS 51 [.ref 8, .int x, .int y] g u (some (.int (Int32.ofInt (-1))), g, u) := by
  refine q_bx (mm := m_51) rfl (Nat.le_of_ble_eq_true rfl) rfl ?_
  refine q_step 3 5 [(0, .ref 8), (1, .int x), (2, .int y)] [.int x, .ref 20] g u (fun big n0 => sg_ba_45 big n0 g u x y) ?_
  refine q_call (M2 := 40) (rest := []) (b_hasOne _ _ _) (fun _ _ => rfl) ?_
  refine q_if_ne rfl (fun (hc0 : (d_hasOne x g) = 0) => ?_) (fun (hc0 : ¬ ((d_hasOne x g) = 0)) => ?_)
  · refine q_ret 2 (some (.int (Int32.ofInt (-1))), g, u) (fun _ _ => rfl) ?_
    rfl
  · exact absurd (vo_c hn h6 hc0) hb
theorem rb_hold {n W H : Nat} (g : qM) (u : qW) (hn : g 70 4 = Int32.ofNat n) (hW : g 70 2 = Int32.ofNat W) (hH : g 70 3 = Int32.ofNat H) (h6 : n ≤ 6) (h25 : W * H ≤ 25) (x : Int32) (y : Int32) (hb : ¬ (v_one n x)) : q_BS 178 [.ref 70, .int x, .int y] g u (some (.int (Int32.ofInt (-1))), g, u) := by
  refine q_bx (mm := m_178) rfl (Nat.le_of_ble_eq_true rfl) rfl ?_
  refine q_step 2 2 [(0, .ref 70), (1, .int x), (2, .int y)] [.int x, .ref 70] g u (fun big n0 => sg_ba_46 big n0 g u x y) ?_
  refine q_call (M2 := 169) (rest := []) (b_risOne _ _ _) (fun _ _ => rfl) ?_
  refine q_if_eq rfl (fun (hc0 : (d_risOne x g) = 0) => ?_) (fun (hc0 : ¬ ((d_risOne x g) = 0)) => ?_)
  · refine q_ret 2 (some (.int (Int32.ofInt (-1))), g, u) (fun _ _ => rfl) ?_
    rfl
  · exact absurd (vo_r hn h6 hc0) hb
theorem cb_press {n W H : Nat} (g : qM) (u : qW) (hn : g 20 3 = Int32.ofNat n) (hW : g 20 0 = Int32.ofNat W) (hH : g 20 1 = Int32.ofNat H) (h6 : n ≤ 6) (h25 : W * H ≤ 25) (x : Int32) (hb : ¬ (v_rg 0 4 x)) : q_BS 55 [.ref 8, .int x] g u (some (.int (Int32.ofInt (-1))), g, u) := by
  refine q_bx (mm := m_55) rfl (Nat.le_of_ble_eq_true rfl) rfl ?_
  refine q_step 1 1 [(0, .ref 8), (1, .int x)] [.int x] g u (fun big n0 => sg_ba_47 big n0 g u x) ?_
  refine q_if_lt rfl (fun (hc0 : x < 0) => ?_) (fun (hc0 : ¬ (x < 0)) => ?_)
  · refine q_ret 2 (some (.int (Int32.ofInt (-1))), g, u) (fun _ _ => rfl) ?_
    rfl
  · refine q_step 2 6 [(0, .ref 8), (1, .int x)] [.int (4 : Int32), .int x] g u (fun big n0 => sg_ba_48 big n0 g u x) ?_
    refine q_ic_le rfl (fun (hc1 : x ≤ (4 : Int32)) => ?_) (fun (hc1 : ¬ (x ≤ (4 : Int32))) => ?_)
    · refine q_step 1 12 [(0, .ref 8), (1, .int x)] [.ref 8] g u (fun big n0 => sg_ba_49 big n0 g u x) ?_
      exact absurd (vr_c' (lo := 0) (hi := 4) (by omega) (by omega) hc0 hc1) hb
    · refine q_ret 2 (some (.int (Int32.ofInt (-1))), g, u) (fun _ _ => rfl) ?_
      rfl
theorem rb_press {n W H : Nat} (g : qM) (u : qW) (hn : g 70 4 = Int32.ofNat n) (hW : g 70 2 = Int32.ofNat W) (hH : g 70 3 = Int32.ofNat H) (h6 : n ≤ 6) (h25 : W * H ≤ 25) (x : Int32) (hb : ¬ (v_rg 0 4 x)) : q_BS 182 [.ref 70, .int x] g u (some (.int (Int32.ofInt (-1))), g, u) := by
  refine q_bx (mm := m_182) rfl (Nat.le_of_ble_eq_true rfl) rfl ?_
  refine q_step 4 6 [(0, .ref 70), (1, .int x)] [.long (4 : Int64), .long (0 : Int64), .long (Int32.toInt64 x)] g u (fun big n0 => sg_ba_50 big n0 g u x) ?_
  refine q_call (M2 := 149) (rest := []) (b_in _ _ _ _ _) (fun _ _ => rfl) ?_
  refine q_if_eq rfl (fun (hc0 : (s_in (Int32.toInt64 x) (0 : Int64) (4 : Int64)) = 0) => ?_) (fun (hc0 : ¬ ((s_in (Int32.toInt64 x) (0 : Int64) (4 : Int64)) = 0)) => ?_)
  · refine q_ret 2 (some (.int (Int32.ofInt (-1))), g, u) (fun _ _ => rfl) ?_
    rfl
  · exact absurd (vr_r (lo := 0) (hi := 4) (by omega) (by omega) hc0) hb
theorem cb_pull {n W H : Nat} (g : qM) (u : qW) (hn : g 20 3 = Int32.ofNat n) (hW : g 20 0 = Int32.ofNat W) (hH : g 20 1 = Int32.ofNat H) (h6 : n ≤ 6) (h25 : W * H ≤ 25) (x : Int32) (y : Int32) (hb : ¬ (v_rg 1 4 x ∧ v_rg 0 9 y)) : q_BS 54 [.ref 8, .int x, .int y] g u (some (.int (Int32.ofInt (-1))), g, u) := by
  refine q_bx (mm := m_54) rfl (Nat.le_of_ble_eq_true rfl) rfl ?_
  refine q_step 2 2 [(0, .ref 8), (1, .int x), (2, .int y)] [.int (1 : Int32), .int x] g u (fun big n0 => sg_ba_51 big n0 g u x y) ?_
  refine q_ic_lt rfl (fun (hc0 : x < (1 : Int32)) => ?_) (fun (hc0 : ¬ (x < (1 : Int32))) => ?_)
  · refine q_ret 2 (some (.int (Int32.ofInt (-1))), g, u) (fun _ _ => rfl) ?_
    rfl
  · refine q_step 2 7 [(0, .ref 8), (1, .int x), (2, .int y)] [.int (4 : Int32), .int x] g u (fun big n0 => sg_ba_52 big n0 g u x y) ?_
    refine q_ic_gt rfl (fun (hc1 : (4 : Int32) < x) => ?_) (fun (hc1 : ¬ ((4 : Int32) < x)) => ?_)
    · refine q_ret 2 (some (.int (Int32.ofInt (-1))), g, u) (fun _ _ => rfl) ?_
      rfl
    · refine q_step 1 11 [(0, .ref 8), (1, .int x), (2, .int y)] [.int y] g u (fun big n0 => sg_ba_53 big n0 g u x y) ?_
      refine q_if_lt rfl (fun (hc2 : y < 0) => ?_) (fun (hc2 : ¬ (y < 0)) => ?_)
      · refine q_ret 2 (some (.int (Int32.ofInt (-1))), g, u) (fun _ _ => rfl) ?_
        rfl
      · refine q_step 2 17 [(0, .ref 8), (1, .int x), (2, .int y)] [.int (9 : Int32), .int y] g u (fun big n0 => sg_ba_54 big n0 g u x y) ?_
        refine q_ic_le rfl (fun (hc3 : y ≤ (9 : Int32)) => ?_) (fun (hc3 : ¬ (y ≤ (9 : Int32))) => ?_)
        · exact absurd (show v_rg 1 4 x ∧ v_rg 0 9 y from ⟨vr_c (lo := 1) (hi := 4) (by omega) (by omega) hc0 hc1, vr_c' (lo := 0) (hi := 9) (by omega) (by omega) hc2 hc3⟩) hb
        · refine q_ret 2 (some (.int (Int32.ofInt (-1))), g, u) (fun _ _ => rfl) ?_
          rfl
theorem rb_pull {n W H : Nat} (g : qM) (u : qW) (hn : g 70 4 = Int32.ofNat n) (hW : g 70 2 = Int32.ofNat W) (hH : g 70 3 = Int32.ofNat H) (h6 : n ≤ 6) (h25 : W * H ≤ 25) (x : Int32) (y : Int32) (hb : ¬ (v_rg 1 4 x ∧ v_rg 0 9 y)) : q_BS 181 [.ref 70, .int x, .int y] g u (some (.int (Int32.ofInt (-1))), g, u) := by
  refine q_bx (mm := m_181) rfl (Nat.le_of_ble_eq_true rfl) rfl ?_
  refine q_step 4 6 [(0, .ref 70), (1, .int x), (2, .int y)] [.long (4 : Int64), .long (1 : Int64), .long (Int32.toInt64 x)] g u (fun big n0 => sg_ba_55 big n0 g u x y) ?_
  refine q_call (M2 := 149) (rest := []) (b_in _ _ _ _ _) (fun _ _ => rfl) ?_
  refine q_if_eq rfl (fun (hc0 : (s_in (Int32.toInt64 x) (1 : Int64) (4 : Int64)) = 0) => ?_) (fun (hc0 : ¬ ((s_in (Int32.toInt64 x) (1 : Int64) (4 : Int64)) = 0)) => ?_)
  · refine q_ret 2 (some (.int (Int32.ofInt (-1))), g, u) (fun _ _ => rfl) ?_
    rfl
  · refine q_step 4 18 [(0, .ref 70), (1, .int x), (2, .int y)] [.long (9 : Int64), .long (0 : Int64), .long (Int32.toInt64 y)] g u (fun big n0 => sg_ba_56 big n0 g u x y) ?_
    refine q_call (M2 := 149) (rest := []) (b_in _ _ _ _ _) (fun _ _ => rfl) ?_
    refine q_if_eq rfl (fun (hc1 : (s_in (Int32.toInt64 y) (0 : Int64) (9 : Int64)) = 0) => ?_) (fun (hc1 : ¬ ((s_in (Int32.toInt64 y) (0 : Int64) (9 : Int64)) = 0)) => ?_)
    · refine q_ret 2 (some (.int (Int32.ofInt (-1))), g, u) (fun _ _ => rfl) ?_
      rfl
    · exact absurd (show v_rg 1 4 x ∧ v_rg 0 9 y from ⟨vr_r (lo := 1) (hi := 4) (by omega) (by omega) hc0, vr_r (lo := 0) (hi := 9) (by omega) (by omega) hc1⟩) hb
theorem cb_see {n W H : Nat} (g : qM) (u : qW) (hn : g 20 3 = Int32.ofNat n) (hW : g 20 0 = Int32.ofNat W) (hH : g 20 1 = Int32.ofNat H) (h6 : n ≤ 6) (h25 : W * H ≤ 25) (x : Int32) (y : Int32) (hb : ¬ (v_one n x ∧ v_rg 0 4 y)) : q_BS 118 [.ref 8, .int x, .int y] g u (some (.int (Int32.ofInt (-1))), g, u) := by
  refine q_bx (mm := m_118) rfl (Nat.le_of_ble_eq_true rfl) rfl ?_
  refine q_step 3 5 [(0, .ref 8), (1, .int x), (2, .int y)] [.int x, .ref 20] g u (fun big n0 => sg_ba_57 big n0 g u x y) ?_
  refine q_call (M2 := 40) (rest := []) (b_hasOne _ _ _) (fun _ _ => rfl) ?_
  refine q_if_eq rfl (fun (hc0 : (d_hasOne x g) = 0) => ?_) (fun (hc0 : ¬ ((d_hasOne x g) = 0)) => ?_)
  · refine q_ret 2 (some (.int (Int32.ofInt (-1))), g, u) (fun _ _ => rfl) ?_
    rfl
  · refine q_step 1 12 [(0, .ref 8), (1, .int x), (2, .int y)] [.int y] g u (fun big n0 => sg_ba_58 big n0 g u x y) ?_
    refine q_if_lt rfl (fun (hc1 : y < 0) => ?_) (fun (hc1 : ¬ (y < 0)) => ?_)
    · refine q_ret 2 (some (.int (Int32.ofInt (-1))), g, u) (fun _ _ => rfl) ?_
      rfl
    · refine q_step 2 17 [(0, .ref 8), (1, .int x), (2, .int y)] [.int (4 : Int32), .int y] g u (fun big n0 => sg_ba_59 big n0 g u x y) ?_
      refine q_ic_le rfl (fun (hc2 : y ≤ (4 : Int32)) => ?_) (fun (hc2 : ¬ (y ≤ (4 : Int32))) => ?_)
      · exact absurd (show v_one n x ∧ v_rg 0 4 y from ⟨vo_c hn h6 hc0, vr_c' (lo := 0) (hi := 4) (by omega) (by omega) hc1 hc2⟩) hb
      · refine q_ret 2 (some (.int (Int32.ofInt (-1))), g, u) (fun _ _ => rfl) ?_
        rfl
theorem rb_see {n W H : Nat} (g : qM) (u : qW) (hn : g 70 4 = Int32.ofNat n) (hW : g 70 2 = Int32.ofNat W) (hH : g 70 3 = Int32.ofNat H) (h6 : n ≤ 6) (h25 : W * H ≤ 25) (x : Int32) (y : Int32) (hb : ¬ (v_one n x ∧ v_rg 0 4 y)) : q_BS 212 [.ref 70, .int x, .int y] g u (some (.int (Int32.ofInt (-1))), g, u) := by
  refine q_bx (mm := m_212) rfl (Nat.le_of_ble_eq_true rfl) rfl ?_
  refine q_step 2 2 [(0, .ref 70), (1, .int x), (2, .int y)] [.int x, .ref 70] g u (fun big n0 => sg_ba_60 big n0 g u x y) ?_
  refine q_call (M2 := 169) (rest := []) (b_risOne _ _ _) (fun _ _ => rfl) ?_
  refine q_if_eq rfl (fun (hc0 : (d_risOne x g) = 0) => ?_) (fun (hc0 : ¬ ((d_risOne x g) = 0)) => ?_)
  · refine q_ret 2 (some (.int (Int32.ofInt (-1))), g, u) (fun _ _ => rfl) ?_
    rfl
  · refine q_step 4 14 [(0, .ref 70), (1, .int x), (2, .int y)] [.long (4 : Int64), .long (0 : Int64), .long (Int32.toInt64 y)] g u (fun big n0 => sg_ba_61 big n0 g u x y) ?_
    refine q_call (M2 := 149) (rest := []) (b_in _ _ _ _ _) (fun _ _ => rfl) ?_
    refine q_if_ne rfl (fun (hc1 : (s_in (Int32.toInt64 y) (0 : Int64) (4 : Int64)) = 0) => ?_) (fun (hc1 : ¬ ((s_in (Int32.toInt64 y) (0 : Int64) (4 : Int64)) = 0)) => ?_)
    · refine q_ret 2 (some (.int (Int32.ofInt (-1))), g, u) (fun _ _ => rfl) ?_
      rfl
    · exact absurd (show v_one n x ∧ v_rg 0 4 y from ⟨vo_r hn h6 hc0, vr_r (lo := 0) (hi := 4) (by omega) (by omega) hc1⟩) hb
theorem cb_wall {n W H : Nat} (g : qM) (u : qW) (hn : g 20 3 = Int32.ofNat n) (hW : g 20 0 = Int32.ofNat W) (hH : g 20 1 = Int32.ofNat H) (h6 : n ≤ 6) (h25 : W * H ≤ 25) (x : Int32) (y : Int32) (hb : ¬ (v_one (W * H) x)) : q_BS 53 [.ref 8, .int x, .int y] g u (some (.int (Int32.ofInt (-1))), g, u) := by
  refine q_bx (mm := m_53) rfl (Nat.le_of_ble_eq_true rfl) rfl ?_
  refine q_step 3 5 [(0, .ref 8), (1, .int x), (2, .int y)] [.int x, .ref 20] g u (fun big n0 => sg_ba_62 big n0 g u x y) ?_
  refine q_call (M2 := 38) (rest := []) (b_hasCell _ _ _) (fun _ _ => rfl) ?_
  refine q_if_eq rfl (fun (hc0 : (d_hasCell x g) = 0) => ?_) (fun (hc0 : ¬ ((d_hasCell x g) = 0)) => ?_)
  · refine q_ret 2 (some (.int (Int32.ofInt (-1))), g, u) (fun _ _ => rfl) ?_
    rfl
  · exact absurd (vc_c hW hH h25 hc0) hb
theorem rb_wall {n W H : Nat} (g : qM) (u : qW) (hn : g 70 4 = Int32.ofNat n) (hW : g 70 2 = Int32.ofNat W) (hH : g 70 3 = Int32.ofNat H) (h6 : n ≤ 6) (h25 : W * H ≤ 25) (x : Int32) (y : Int32) (hb : ¬ (v_one (W * H) x)) : q_BS 180 [.ref 70, .int x, .int y] g u (some (.int (Int32.ofInt (-1))), g, u) := by
  refine q_bx (mm := m_180) rfl (Nat.le_of_ble_eq_true rfl) rfl ?_
  refine q_step 2 2 [(0, .ref 70), (1, .int x), (2, .int y)] [.int x, .ref 70] g u (fun big n0 => sg_ba_63 big n0 g u x y) ?_
  refine q_call (M2 := 171) (rest := []) (b_risCell _ _ _) (fun _ _ => rfl) ?_
  refine q_if_ne rfl (fun (hc0 : (d_risCell x g) = 0) => ?_) (fun (hc0 : ¬ ((d_risCell x g) = 0)) => ?_)
  · refine q_ret 2 (some (.int (Int32.ofInt (-1))), g, u) (fun _ _ => rfl) ?_
    rfl
  · exact absurd (vc_r hW hH h25 hc0) hb
theorem cb_cell {n W H : Nat} (g : qM) (u : qW) (hn : g 20 3 = Int32.ofNat n) (hW : g 20 0 = Int32.ofNat W) (hH : g 20 1 = Int32.ofNat H) (h6 : n ≤ 6) (h25 : W * H ≤ 25) (x : Int32) (hb : ¬ (v_one (W * H) x)) : q_BS 46 [.ref 8, .int x] g u (some (.int (Int32.ofInt (-1))), g, u) := by
  refine q_bx (mm := m_46) rfl (Nat.le_of_ble_eq_true rfl) rfl ?_
  refine q_step 3 5 [(0, .ref 8), (1, .int x)] [.int x, .ref 20] g u (fun big n0 => sg_ba_64 big n0 g u x) ?_
  refine q_call (M2 := 38) (rest := []) (b_hasCell _ _ _) (fun _ _ => rfl) ?_
  refine q_if_eq rfl (fun (hc0 : (d_hasCell x g) = 0) => ?_) (fun (hc0 : ¬ ((d_hasCell x g) = 0)) => ?_)
  · refine q_ret 2 (some (.int (Int32.ofInt (-1))), g, u) (fun _ _ => rfl) ?_
    rfl
  · exact absurd (vc_c hW hH h25 hc0) hb
theorem rb_cell {n W H : Nat} (g : qM) (u : qW) (hn : g 70 4 = Int32.ofNat n) (hW : g 70 2 = Int32.ofNat W) (hH : g 70 3 = Int32.ofNat H) (h6 : n ≤ 6) (h25 : W * H ≤ 25) (x : Int32) (hb : ¬ (v_one (W * H) x)) : q_BS 170 [.ref 70, .int x] g u (some (.int (Int32.ofInt (-1))), g, u) := by
  refine q_bx (mm := m_170) rfl (Nat.le_of_ble_eq_true rfl) rfl ?_
  refine q_step 2 2 [(0, .ref 70), (1, .int x)] [.int x, .ref 70] g u (fun big n0 => sg_ba_65 big n0 g u x) ?_
  refine q_call (M2 := 171) (rest := []) (b_risCell _ _ _) (fun _ _ => rfl) ?_
  refine q_if_ne rfl (fun (hc0 : (d_risCell x g) = 0) => ?_) (fun (hc0 : ¬ ((d_risCell x g) = 0)) => ?_)
  · refine q_ret 2 (some (.int (Int32.ofInt (-1))), g, u) (fun _ _ => rfl) ?_
    rfl
  · exact absurd (vc_r hW hH h25 hc0) hb
theorem cb_put {n W H : Nat} (g : qM) (u : qW) (hn : g 20 3 = Int32.ofNat n) (hW : g 20 0 = Int32.ofNat W) (hH : g 20 1 = Int32.ofNat H) (h6 : n ≤ 6) (h25 : W * H ≤ 25) (x : Int32) (y : Int32) (hb : ¬ (v_one n x ∧ v_one (W * H) y)) : q_BS 49 [.ref 8, .int x, .int y] g u (some (.int (Int32.ofInt (-1))), g, u) := by
  refine q_bx (mm := m_49) rfl (Nat.le_of_ble_eq_true rfl) rfl ?_
  refine q_step 3 5 [(0, .ref 8), (1, .int x), (2, .int y)] [.int x, .ref 20] g u (fun big n0 => sg_ba_66 big n0 g u x y) ?_
  refine q_call (M2 := 40) (rest := []) (b_hasOne _ _ _) (fun _ _ => rfl) ?_
  refine q_if_eq rfl (fun (hc0 : (d_hasOne x g) = 0) => ?_) (fun (hc0 : ¬ ((d_hasOne x g) = 0)) => ?_)
  · refine q_ret 2 (some (.int (Int32.ofInt (-1))), g, u) (fun _ _ => rfl) ?_
    rfl
  · refine q_step 3 16 [(0, .ref 8), (1, .int x), (2, .int y)] [.int y, .ref 20] g u (fun big n0 => sg_ba_67 big n0 g u x y) ?_
    refine q_call (M2 := 38) (rest := []) (b_hasCell _ _ _) (fun _ _ => rfl) ?_
    refine q_if_eq rfl (fun (hc1 : (d_hasCell y g) = 0) => ?_) (fun (hc1 : ¬ ((d_hasCell y g) = 0)) => ?_)
    · refine q_ret 2 (some (.int (Int32.ofInt (-1))), g, u) (fun _ _ => rfl) ?_
      rfl
    · exact absurd (show v_one n x ∧ v_one (W * H) y from ⟨vo_c hn h6 hc0, vc_c hW hH h25 hc1⟩) hb
theorem rb_put {n W H : Nat} (g : qM) (u : qW) (hn : g 70 4 = Int32.ofNat n) (hW : g 70 2 = Int32.ofNat W) (hH : g 70 3 = Int32.ofNat H) (h6 : n ≤ 6) (h25 : W * H ≤ 25) (x : Int32) (y : Int32) (hb : ¬ (v_one n x ∧ v_one (W * H) y)) : q_BS 176 [.ref 70, .int x, .int y] g u (some (.int (Int32.ofInt (-1))), g, u) := by
  refine q_bx (mm := m_176) rfl (Nat.le_of_ble_eq_true rfl) rfl ?_
  refine q_step 2 2 [(0, .ref 70), (1, .int x), (2, .int y)] [.int x, .ref 70] g u (fun big n0 => sg_ba_68 big n0 g u x y) ?_
  refine q_call (M2 := 169) (rest := []) (b_risOne _ _ _) (fun _ _ => rfl) ?_
  refine q_if_eq rfl (fun (hc0 : (d_risOne x g) = 0) => ?_) (fun (hc0 : ¬ ((d_risOne x g) = 0)) => ?_)
  · refine q_ret 2 (some (.int (Int32.ofInt (-1))), g, u) (fun _ _ => rfl) ?_
    rfl
  · refine q_step 2 10 [(0, .ref 70), (1, .int x), (2, .int y)] [.int y, .ref 70] g u (fun big n0 => sg_ba_69 big n0 g u x y) ?_
    refine q_call (M2 := 171) (rest := []) (b_risCell _ _ _) (fun _ _ => rfl) ?_
    refine q_if_ne rfl (fun (hc1 : (d_risCell y g) = 0) => ?_) (fun (hc1 : ¬ ((d_risCell y g) = 0)) => ?_)
    · refine q_ret 2 (some (.int (Int32.ofInt (-1))), g, u) (fun _ _ => rfl) ?_
      rfl
    · exact absurd (show v_one n x ∧ v_one (W * H) y from ⟨vo_r hn h6 hc0, vc_r hW hH h25 hc1⟩) hb
theorem cb_setting {n W H : Nat} (g : qM) (u : qW) (hn : g 20 3 = Int32.ofNat n) (hW : g 20 0 = Int32.ofNat W) (hH : g 20 1 = Int32.ofNat H) (h6 : n ≤ 6) (h25 : W * H ≤ 25) (x : Int32) (y : Int32) (hb : ¬ (v_rg 0 12 x ∧ v_tot n y)) : q_BS 89 [.ref 8, .int x, .int y] g u (some (.int (Int32.ofInt (-1))), g, u) := by
  refine q_bx (mm := m_89) rfl (Nat.le_of_ble_eq_true rfl) rfl ?_
  refine q_step 1 1 [(0, .ref 8), (1, .int x), (2, .int y)] [.int x] g u (fun big n0 => sg_ba_70 big n0 g u x y) ?_
  refine q_call (M2 := 90) (rest := []) (b_isSearched _ _ _) (fun _ _ => rfl) ?_
  refine q_if_eq rfl (fun (hc0 : (d_isSearched x g) = 0) => ?_) (fun (hc0 : ¬ ((d_isSearched x g) = 0)) => ?_)
  · refine q_ret 2 (some (.int (Int32.ofInt (-1))), g, u) (fun _ _ => rfl) ?_
    rfl
  · refine q_step 2 9 [(0, .ref 8), (1, .int x), (2, .int y)] [.int y, .ref 8] g u (fun big n0 => sg_ba_71 big n0 g u x y) ?_
    refine q_call (M2 := 91) (rest := []) (b_isTot _ _ _) (fun _ _ => rfl) ?_
    refine q_if_ne rfl (fun (hc1 : (d_isTot y g) = 0) => ?_) (fun (hc1 : ¬ ((d_isTot y g) = 0)) => ?_)
    · refine q_ret 2 (some (.int (Int32.ofInt (-1))), g, u) (fun _ _ => rfl) ?_
      rfl
    · exact absurd (show v_rg 0 12 x ∧ v_tot n y from ⟨vr_srch hc0, vt_c hn h6 hc1⟩) hb
theorem rb_setting {n W H : Nat} (g : qM) (u : qW) (hn : g 70 4 = Int32.ofNat n) (hW : g 70 2 = Int32.ofNat W) (hH : g 70 3 = Int32.ofNat H) (h6 : n ≤ 6) (h25 : W * H ≤ 25) (x : Int32) (y : Int32) (hb : ¬ (v_rg 0 12 x ∧ v_tot n y)) : q_BS 201 [.ref 70, .int x, .int y] g u (some (.int (Int32.ofInt (-1))), g, u) := by
  refine q_bx (mm := m_201) rfl (Nat.le_of_ble_eq_true rfl) rfl ?_
  refine q_step 4 6 [(0, .ref 70), (1, .int x), (2, .int y)] [.long (12 : Int64), .long (0 : Int64), .long (Int32.toInt64 x)] g u (fun big n0 => sg_ba_72 big n0 g u x y) ?_
  refine q_call (M2 := 149) (rest := []) (b_in _ _ _ _ _) (fun _ _ => rfl) ?_
  refine q_if_eq rfl (fun (hc0 : (s_in (Int32.toInt64 x) (0 : Int64) (12 : Int64)) = 0) => ?_) (fun (hc0 : ¬ ((s_in (Int32.toInt64 x) (0 : Int64) (12 : Int64)) = 0)) => ?_)
  · refine q_ret 2 (some (.int (Int32.ofInt (-1))), g, u) (fun _ _ => rfl) ?_
    rfl
  · refine q_step 1 13 [(0, .ref 70), (1, .int x), (2, .int y)] [.int y] g u (fun big n0 => sg_ba_73 big n0 g u x y) ?_
    refine q_if_eq rfl (fun (hc1 : y = 0) => ?_) (fun (hc1 : ¬ (y = 0)) => ?_)
    · exact absurd (show v_rg 0 12 x ∧ v_tot n y from ⟨vr_r (lo := 0) (hi := 12) (by omega) (by omega) hc0, Or.inl hc1⟩) hb
    · refine q_step 4 21 [(0, .ref 70), (1, .int x), (2, .int y)] [.int (y - (10 : Int32)), .ref 70] g u (fun big n0 => sg_ba_74 big n0 g u x y) ?_
      refine q_call (M2 := 169) (rest := []) (b_risOne _ _ _) (fun _ _ => rfl) ?_
      refine q_if_ne rfl (fun (hc2 : (d_risOne (y - (10 : Int32)) g) = 0) => ?_) (fun (hc2 : ¬ ((d_risOne (y - (10 : Int32)) g) = 0)) => ?_)
      · refine q_ret 2 (some (.int (Int32.ofInt (-1))), g, u) (fun _ _ => rfl) ?_
        rfl
      · exact absurd (show v_rg 0 12 x ∧ v_tot n y from ⟨vr_r (lo := 0) (hi := 12) (by omega) (by omega) hc0, vt_1 (vo_r hn h6 hc2) h6⟩) hb
theorem cb_moods {n W H : Nat} (g : qM) (u : qW) (hn : g 20 3 = Int32.ofNat n) (hW : g 20 0 = Int32.ofNat W) (hH : g 20 1 = Int32.ofNat H) (h6 : n ≤ 6) (h25 : W * H ≤ 25) (x : Int32) (hb : ¬ (v_tot n x)) : q_BS 120 [.ref 8, .int x] g u (some (.int (Int32.ofInt (-1))), g, u) := by
  refine q_bx (mm := m_120) rfl (Nat.le_of_ble_eq_true rfl) rfl ?_
  refine q_step 2 2 [(0, .ref 8), (1, .int x)] [.int x, .ref 8] g u (fun big n0 => sg_ba_75 big n0 g u x) ?_
  refine q_call (M2 := 91) (rest := []) (b_isTot _ _ _) (fun _ _ => rfl) ?_
  refine q_if_ne rfl (fun (hc0 : (d_isTot x g) = 0) => ?_) (fun (hc0 : ¬ ((d_isTot x g) = 0)) => ?_)
  · refine q_ret 2 (some (.int (Int32.ofInt (-1))), g, u) (fun _ _ => rfl) ?_
    rfl
  · exact absurd (vt_c hn h6 hc0) hb
theorem rb_moods {n W H : Nat} (g : qM) (u : qW) (hn : g 70 4 = Int32.ofNat n) (hW : g 70 2 = Int32.ofNat W) (hH : g 70 3 = Int32.ofNat H) (h6 : n ≤ 6) (h25 : W * H ≤ 25) (x : Int32) (hb : ¬ (v_tot n x)) : q_BS 214 [.ref 70, .int x] g u (some (.int (Int32.ofInt (-1))), g, u) := by
  refine q_bx (mm := m_214) rfl (Nat.le_of_ble_eq_true rfl) rfl ?_
  refine q_step 1 1 [(0, .ref 70), (1, .int x)] [.int x] g u (fun big n0 => sg_ba_76 big n0 g u x) ?_
  refine q_if_eq rfl (fun (hc0 : x = 0) => ?_) (fun (hc0 : ¬ (x = 0)) => ?_)
  · exact absurd (Or.inl hc0) hb
  · refine q_step 4 9 [(0, .ref 70), (1, .int x)] [.int (x - (10 : Int32)), .ref 70] g u (fun big n0 => sg_ba_77 big n0 g u x) ?_
    refine q_call (M2 := 169) (rest := []) (b_risOne _ _ _) (fun _ _ => rfl) ?_
    refine q_if_ne rfl (fun (hc1 : (d_risOne (x - (10 : Int32)) g) = 0) => ?_) (fun (hc1 : ¬ ((d_risOne (x - (10 : Int32)) g) = 0)) => ?_)
    · refine q_ret 2 (some (.int (Int32.ofInt (-1))), g, u) (fun _ _ => rfl) ?_
      rfl
    · exact absurd (vt_1 (vo_r hn h6 hc1) h6) hb
theorem cb_keep {n W H : Nat} (g : qM) (u : qW) (hn : g 20 3 = Int32.ofNat n) (hW : g 20 0 = Int32.ofNat W) (hH : g 20 1 = Int32.ofNat H) (h6 : n ≤ 6) (h25 : W * H ≤ 25) (x : Int32) (hb : ¬ (v_rg 0 1 x)) : q_BS 128 [.ref 8, .int x] g u (some (.int (Int32.ofInt (-1))), g, u) := by
  refine q_bx (mm := m_128) rfl (Nat.le_of_ble_eq_true rfl) rfl ?_
  refine q_step 1 1 [(0, .ref 8), (1, .int x)] [.int x] g u (fun big n0 => sg_ba_78 big n0 g u x) ?_
  refine q_if_lt rfl (fun (hc0 : x < 0) => ?_) (fun (hc0 : ¬ (x < 0)) => ?_)
  · refine q_ret 2 (some (.int (Int32.ofInt (-1))), g, u) (fun _ _ => rfl) ?_
    rfl
  · refine q_step 2 6 [(0, .ref 8), (1, .int x)] [.int (2 : Int32), .int x] g u (fun big n0 => sg_ba_79 big n0 g u x) ?_
    refine q_ic_lt rfl (fun (hc1 : x < (2 : Int32)) => ?_) (fun (hc1 : ¬ (x < (2 : Int32))) => ?_)
    · exact absurd (vr_lt (lo := 0) (hi := 1) (by omega) (by omega) hc0 hc1) hb
    · refine q_ret 2 (some (.int (Int32.ofInt (-1))), g, u) (fun _ _ => rfl) ?_
      rfl
theorem rb_keep {n W H : Nat} (g : qM) (u : qW) (hn : g 70 4 = Int32.ofNat n) (hW : g 70 2 = Int32.ofNat W) (hH : g 70 3 = Int32.ofNat H) (h6 : n ≤ 6) (h25 : W * H ≤ 25) (x : Int32) (hb : ¬ (v_rg 0 1 x)) : q_BS 216 [.ref 70, .int x] g u (some (.int (Int32.ofInt (-1))), g, u) := by
  refine q_bx (mm := m_216) rfl (Nat.le_of_ble_eq_true rfl) rfl ?_
  refine q_step 4 4 [(0, .ref 70), (1, .int x)] [.long (1 : Int64), .long (0 : Int64), .long (Int32.toInt64 x)] g u (fun big n0 => sg_ba_80 big n0 g u x) ?_
  refine q_call (M2 := 149) (rest := []) (b_in _ _ _ _ _) (fun _ _ => rfl) ?_
  refine q_if_ne rfl (fun (hc0 : (s_in (Int32.toInt64 x) (0 : Int64) (1 : Int64)) = 0) => ?_) (fun (hc0 : ¬ ((s_in (Int32.toInt64 x) (0 : Int64) (1 : Int64)) = 0)) => ?_)
  · refine q_ret 2 (some (.int (Int32.ofInt (-1))), g, u) (fun _ _ => rfl) ?_
    rfl
  · exact absurd (vr_r (lo := 0) (hi := 1) (by omega) (by omega) hc0) hb
theorem cb_back {n W H : Nat} (g : qM) (u : qW) (hn : g 20 3 = Int32.ofNat n) (hW : g 20 0 = Int32.ofNat W) (hH : g 20 1 = Int32.ofNat H) (h6 : n ≤ 6) (h25 : W * H ≤ 25) (x : Int32) (hb : ¬ (v_rg 0 1 x)) : q_BS 129 [.ref 8, .int x] g u (some (.int (Int32.ofInt (-1))), g, u) := by
  refine q_bx (mm := m_129) rfl (Nat.le_of_ble_eq_true rfl) rfl ?_
  refine q_step 1 1 [(0, .ref 8), (1, .int x)] [.int x] g u (fun big n0 => sg_ba_81 big n0 g u x) ?_
  refine q_if_lt rfl (fun (hc0 : x < 0) => ?_) (fun (hc0 : ¬ (x < 0)) => ?_)
  · refine q_ret 2 (some (.int (Int32.ofInt (-1))), g, u) (fun _ _ => rfl) ?_
    rfl
  · refine q_step 2 6 [(0, .ref 8), (1, .int x)] [.int (2 : Int32), .int x] g u (fun big n0 => sg_ba_82 big n0 g u x) ?_
    refine q_ic_lt rfl (fun (hc1 : x < (2 : Int32)) => ?_) (fun (hc1 : ¬ (x < (2 : Int32))) => ?_)
    · exact absurd (vr_lt (lo := 0) (hi := 1) (by omega) (by omega) hc0 hc1) hb
    · refine q_ret 2 (some (.int (Int32.ofInt (-1))), g, u) (fun _ _ => rfl) ?_
      rfl
theorem rb_back {n W H : Nat} (g : qM) (u : qW) (hn : g 70 4 = Int32.ofNat n) (hW : g 70 2 = Int32.ofNat W) (hH : g 70 3 = Int32.ofNat H) (h6 : n ≤ 6) (h25 : W * H ≤ 25) (x : Int32) (hb : ¬ (v_rg 0 1 x)) : q_BS 218 [.ref 70, .int x] g u (some (.int (Int32.ofInt (-1))), g, u) := by
  refine q_bx (mm := m_218) rfl (Nat.le_of_ble_eq_true rfl) rfl ?_
  refine q_step 4 4 [(0, .ref 70), (1, .int x)] [.long (1 : Int64), .long (0 : Int64), .long (Int32.toInt64 x)] g u (fun big n0 => sg_ba_83 big n0 g u x) ?_
  refine q_call (M2 := 149) (rest := []) (b_in _ _ _ _ _) (fun _ _ => rfl) ?_
  refine q_if_ne rfl (fun (hc0 : (s_in (Int32.toInt64 x) (0 : Int64) (1 : Int64)) = 0) => ?_) (fun (hc0 : ¬ ((s_in (Int32.toInt64 x) (0 : Int64) (1 : Int64)) = 0)) => ?_)
  · refine q_ret 2 (some (.int (Int32.ofInt (-1))), g, u) (fun _ _ => rfl) ?_
    rfl
  · exact absurd (vr_r (lo := 0) (hi := 1) (by omega) (by omega) hc0) hb
theorem cb_nurse {n W H : Nat} (g : qM) (u : qW) (hn : g 20 3 = Int32.ofNat n) (hW : g 20 0 = Int32.ofNat W) (hH : g 20 1 = Int32.ofNat H) (h6 : n ≤ 6) (h25 : W * H ≤ 25) (x : Int32) (y : Int32) (z : Int32) (w : Int32) (hb : ¬ (v_one n x ∧ v_one n y ∧ v_one n z ∧ x ≠ y ∧ x ≠ z ∧ y ≠ z ∧ v_nw w)) : q_BS 106 [.ref 8, .int x, .int y, .int z, .int w] g u (some (.int (Int32.ofInt (-1))), g, u) := by
  refine q_bx (mm := m_106) rfl (Nat.le_of_ble_eq_true rfl) rfl ?_
  refine q_step 3 5 [(0, .ref 8), (1, .int x), (2, .int y), (3, .int z), (4, .int w)] [.int x, .ref 20] g u (fun big n0 => sg_ba_84 big n0 g u x y z w) ?_
  refine q_call (M2 := 40) (rest := []) (b_hasOne _ _ _) (fun _ _ => rfl) ?_
  refine q_if_eq rfl (fun (hc0 : (d_hasOne x g) = 0) => ?_) (fun (hc0 : ¬ ((d_hasOne x g) = 0)) => ?_)
  · refine q_ret 2 (some (.int (Int32.ofInt (-1))), g, u) (fun _ _ => rfl) ?_
    rfl
  · refine q_step 3 16 [(0, .ref 8), (1, .int x), (2, .int y), (3, .int z), (4, .int w)] [.int y, .ref 20] g u (fun big n0 => sg_ba_85 big n0 g u x y z w) ?_
    refine q_call (M2 := 40) (rest := []) (b_hasOne _ _ _) (fun _ _ => rfl) ?_
    refine q_if_eq rfl (fun (hc1 : (d_hasOne y g) = 0) => ?_) (fun (hc1 : ¬ ((d_hasOne y g) = 0)) => ?_)
    · refine q_ret 2 (some (.int (Int32.ofInt (-1))), g, u) (fun _ _ => rfl) ?_
      rfl
    · refine q_step 3 27 [(0, .ref 8), (1, .int x), (2, .int y), (3, .int z), (4, .int w)] [.int z, .ref 20] g u (fun big n0 => sg_ba_86 big n0 g u x y z w) ?_
      refine q_call (M2 := 40) (rest := []) (b_hasOne _ _ _) (fun _ _ => rfl) ?_
      refine q_if_eq rfl (fun (hc2 : (d_hasOne z g) = 0) => ?_) (fun (hc2 : ¬ ((d_hasOne z g) = 0)) => ?_)
      · refine q_ret 2 (some (.int (Int32.ofInt (-1))), g, u) (fun _ _ => rfl) ?_
        rfl
      · refine q_step 2 35 [(0, .ref 8), (1, .int x), (2, .int y), (3, .int z), (4, .int w)] [.int y, .int x] g u (fun big n0 => sg_ba_87 big n0 g u x y z w) ?_
        refine q_ic_eq rfl (fun (hc3 : x = y) => ?_) (fun (hc3 : ¬ (x = y)) => ?_)
        · refine q_ret 2 (some (.int (Int32.ofInt (-1))), g, u) (fun _ _ => rfl) ?_
          rfl
        · refine q_step 2 40 [(0, .ref 8), (1, .int x), (2, .int y), (3, .int z), (4, .int w)] [.int z, .int x] g u (fun big n0 => sg_ba_88 big n0 g u x y z w) ?_
          refine q_ic_eq rfl (fun (hc4 : x = z) => ?_) (fun (hc4 : ¬ (x = z)) => ?_)
          · refine q_ret 2 (some (.int (Int32.ofInt (-1))), g, u) (fun _ _ => rfl) ?_
            rfl
          · refine q_step 2 45 [(0, .ref 8), (1, .int x), (2, .int y), (3, .int z), (4, .int w)] [.int z, .int y] g u (fun big n0 => sg_ba_89 big n0 g u x y z w) ?_
            refine q_ic_ne rfl (fun (hc5 : y = z) => ?_) (fun (hc5 : ¬ (y = z)) => ?_)
            · refine q_ret 2 (some (.int (Int32.ofInt (-1))), g, u) (fun _ _ => rfl) ?_
              rfl
            · refine q_step 5 59 [(0, .ref 8), (1, .int x), (2, .int y), (3, .int z), (4, .int w), (5, .int (w - (10 : Int32)))] [.int w] g u (fun big n0 => sg_ba_90 big n0 g u x y z w) ?_
              refine q_if_eq rfl (fun (hc6 : w = 0) => ?_) (fun (hc6 : ¬ (w = 0)) => ?_)
              · exact absurd (show v_one n x ∧ v_one n y ∧ v_one n z ∧ x ≠ y ∧ x ≠ z ∧ y ≠ z ∧ v_nw w from ⟨vo_c hn h6 hc0, vo_c hn h6 hc1, vo_c hn h6 hc2, hc3, hc4, hc5, Or.inl hc6⟩) hb
              · refine q_step 2 66 [(0, .ref 8), (1, .int x), (2, .int y), (3, .int z), (4, .int w), (5, .int (w - (10 : Int32)))] [.int (10 : Int32), .int w] g u (fun big n0 => sg_ba_91 big n0 g u x y z w (w - (10 : Int32))) ?_
                refine q_ic_lt rfl (fun (hc7 : w < (10 : Int32)) => ?_) (fun (hc7 : ¬ (w < (10 : Int32))) => ?_)
                · refine q_ret 2 (some (.int (Int32.ofInt (-1))), g, u) (fun _ _ => rfl) ?_
                  rfl
                · refine q_step 2 72 [(0, .ref 8), (1, .int x), (2, .int y), (3, .int z), (4, .int w), (5, .int (w - (10 : Int32)))] [.int (4 : Int32), .int (w - (10 : Int32))] g u (fun big n0 => sg_ba_92 big n0 g u x y z w (w - (10 : Int32))) ?_
                  refine q_ic_lt rfl (fun (hc8 : (w - (10 : Int32)) < (4 : Int32)) => ?_) (fun (hc8 : ¬ ((w - (10 : Int32)) < (4 : Int32))) => ?_)
                  · exact absurd (show v_one n x ∧ v_one n y ∧ v_one n z ∧ x ≠ y ∧ x ≠ z ∧ y ≠ z ∧ v_nw w from ⟨vo_c hn h6 hc0, vo_c hn h6 hc1, vo_c hn h6 hc2, hc3, hc4, hc5, vn_c hc7 (Int32.not_le.mpr hc8)⟩) hb
                  · refine q_ret 2 (some (.int (Int32.ofInt (-1))), g, u) (fun _ _ => rfl) ?_
                    rfl
theorem rb_nurse {n W H : Nat} (g : qM) (u : qW) (hn : g 70 4 = Int32.ofNat n) (hW : g 70 2 = Int32.ofNat W) (hH : g 70 3 = Int32.ofNat H) (h6 : n ≤ 6) (h25 : W * H ≤ 25) (x : Int32) (y : Int32) (z : Int32) (w : Int32) (hb : ¬ (v_one n x ∧ v_one n y ∧ v_one n z ∧ x ≠ y ∧ x ≠ z ∧ y ≠ z ∧ v_nw w)) : q_BS 208 [.ref 70, .int x, .int y, .int z, .int w] g u (some (.int (Int32.ofInt (-1))), g, u) := by
  refine q_bx (mm := m_208) rfl (Nat.le_of_ble_eq_true rfl) rfl ?_
  refine q_step 2 2 [(0, .ref 70), (1, .int x), (2, .int y), (3, .int z), (4, .int w)] [.int y, .int x] g u (fun big n0 => sg_ba_93 big n0 g u x y z w) ?_
  refine q_ic_eq rfl (fun (hc0 : x = y) => ?_) (fun (hc0 : ¬ (x = y)) => ?_)
  · refine q_step 4 24 [(0, .ref 70), (1, .int x), (2, .int y), (3, .int z), (4, .int w), (5, .int (0 : Int32))] [.int x, .ref 70] g u (fun big n0 => sg_ba_94 big n0 g u x y z w) ?_
    refine q_call (M2 := 169) (rest := []) (b_risOne _ _ _) (fun _ _ => rfl) ?_
    refine q_if_eq rfl (fun (hc1 : (d_risOne x g) = 0) => ?_) (fun (hc1 : ¬ ((d_risOne x g) = 0)) => ?_)
    · refine q_ret 2 (some (.int (Int32.ofInt (-1))), g, u) (fun _ _ => rfl) ?_
      rfl
    · refine q_step 2 32 [(0, .ref 70), (1, .int x), (2, .int y), (3, .int z), (4, .int w), (5, .int (0 : Int32))] [.int y, .ref 70] g u (fun big n0 => sg_ba_95 big n0 g u x y z w) ?_
      refine q_call (M2 := 169) (rest := []) (b_risOne _ _ _) (fun _ _ => rfl) ?_
      refine q_if_eq rfl (fun (hc2 : (d_risOne y g) = 0) => ?_) (fun (hc2 : ¬ ((d_risOne y g) = 0)) => ?_)
      · refine q_ret 2 (some (.int (Int32.ofInt (-1))), g, u) (fun _ _ => rfl) ?_
        rfl
      · refine q_step 2 40 [(0, .ref 70), (1, .int x), (2, .int y), (3, .int z), (4, .int w), (5, .int (0 : Int32))] [.int z, .ref 70] g u (fun big n0 => sg_ba_96 big n0 g u x y z w) ?_
        refine q_call (M2 := 169) (rest := []) (b_risOne _ _ _) (fun _ _ => rfl) ?_
        refine q_if_eq rfl (fun (hc3 : (d_risOne z g) = 0) => ?_) (fun (hc3 : ¬ ((d_risOne z g) = 0)) => ?_)
        · refine q_ret 2 (some (.int (Int32.ofInt (-1))), g, u) (fun _ _ => rfl) ?_
          rfl
        · refine q_ret 4 (some (.int (Int32.ofInt (-1))), g, u) (fun _ _ => rfl) ?_
          rfl
  · refine q_step 2 7 [(0, .ref 70), (1, .int x), (2, .int y), (3, .int z), (4, .int w)] [.int z, .int x] g u (fun big n0 => sg_ba_97 big n0 g u x y z w) ?_
    refine q_ic_eq rfl (fun (hc1 : x = z) => ?_) (fun (hc1 : ¬ (x = z)) => ?_)
    · refine q_step 4 24 [(0, .ref 70), (1, .int x), (2, .int y), (3, .int z), (4, .int w), (5, .int (0 : Int32))] [.int x, .ref 70] g u (fun big n0 => sg_ba_94 big n0 g u x y z w) ?_
      refine q_call (M2 := 169) (rest := []) (b_risOne _ _ _) (fun _ _ => rfl) ?_
      refine q_if_eq rfl (fun (hc2 : (d_risOne x g) = 0) => ?_) (fun (hc2 : ¬ ((d_risOne x g) = 0)) => ?_)
      · refine q_ret 2 (some (.int (Int32.ofInt (-1))), g, u) (fun _ _ => rfl) ?_
        rfl
      · refine q_step 2 32 [(0, .ref 70), (1, .int x), (2, .int y), (3, .int z), (4, .int w), (5, .int (0 : Int32))] [.int y, .ref 70] g u (fun big n0 => sg_ba_95 big n0 g u x y z w) ?_
        refine q_call (M2 := 169) (rest := []) (b_risOne _ _ _) (fun _ _ => rfl) ?_
        refine q_if_eq rfl (fun (hc3 : (d_risOne y g) = 0) => ?_) (fun (hc3 : ¬ ((d_risOne y g) = 0)) => ?_)
        · refine q_ret 2 (some (.int (Int32.ofInt (-1))), g, u) (fun _ _ => rfl) ?_
          rfl
        · refine q_step 2 40 [(0, .ref 70), (1, .int x), (2, .int y), (3, .int z), (4, .int w), (5, .int (0 : Int32))] [.int z, .ref 70] g u (fun big n0 => sg_ba_96 big n0 g u x y z w) ?_
          refine q_call (M2 := 169) (rest := []) (b_risOne _ _ _) (fun _ _ => rfl) ?_
          refine q_if_eq rfl (fun (hc4 : (d_risOne z g) = 0) => ?_) (fun (hc4 : ¬ ((d_risOne z g) = 0)) => ?_)
          · refine q_ret 2 (some (.int (Int32.ofInt (-1))), g, u) (fun _ _ => rfl) ?_
            rfl
          · refine q_ret 4 (some (.int (Int32.ofInt (-1))), g, u) (fun _ _ => rfl) ?_
            rfl
    · refine q_step 2 12 [(0, .ref 70), (1, .int x), (2, .int y), (3, .int z), (4, .int w)] [.int z, .int y] g u (fun big n0 => sg_ba_98 big n0 g u x y z w) ?_
      refine q_ic_eq rfl (fun (hc2 : y = z) => ?_) (fun (hc2 : ¬ (y = z)) => ?_)
      · refine q_step 4 24 [(0, .ref 70), (1, .int x), (2, .int y), (3, .int z), (4, .int w), (5, .int (0 : Int32))] [.int x, .ref 70] g u (fun big n0 => sg_ba_94 big n0 g u x y z w) ?_
        refine q_call (M2 := 169) (rest := []) (b_risOne _ _ _) (fun _ _ => rfl) ?_
        refine q_if_eq rfl (fun (hc3 : (d_risOne x g) = 0) => ?_) (fun (hc3 : ¬ ((d_risOne x g) = 0)) => ?_)
        · refine q_ret 2 (some (.int (Int32.ofInt (-1))), g, u) (fun _ _ => rfl) ?_
          rfl
        · refine q_step 2 32 [(0, .ref 70), (1, .int x), (2, .int y), (3, .int z), (4, .int w), (5, .int (0 : Int32))] [.int y, .ref 70] g u (fun big n0 => sg_ba_95 big n0 g u x y z w) ?_
          refine q_call (M2 := 169) (rest := []) (b_risOne _ _ _) (fun _ _ => rfl) ?_
          refine q_if_eq rfl (fun (hc4 : (d_risOne y g) = 0) => ?_) (fun (hc4 : ¬ ((d_risOne y g) = 0)) => ?_)
          · refine q_ret 2 (some (.int (Int32.ofInt (-1))), g, u) (fun _ _ => rfl) ?_
            rfl
          · refine q_step 2 40 [(0, .ref 70), (1, .int x), (2, .int y), (3, .int z), (4, .int w), (5, .int (0 : Int32))] [.int z, .ref 70] g u (fun big n0 => sg_ba_96 big n0 g u x y z w) ?_
            refine q_call (M2 := 169) (rest := []) (b_risOne _ _ _) (fun _ _ => rfl) ?_
            refine q_if_eq rfl (fun (hc5 : (d_risOne z g) = 0) => ?_) (fun (hc5 : ¬ ((d_risOne z g) = 0)) => ?_)
            · refine q_ret 2 (some (.int (Int32.ofInt (-1))), g, u) (fun _ _ => rfl) ?_
              rfl
            · refine q_ret 4 (some (.int (Int32.ofInt (-1))), g, u) (fun _ _ => rfl) ?_
              rfl
      · refine q_step 5 24 [(0, .ref 70), (1, .int x), (2, .int y), (3, .int z), (4, .int w), (5, .int (1 : Int32))] [.int x, .ref 70] g u (fun big n0 => sg_ba_99 big n0 g u x y z w) ?_
        refine q_call (M2 := 169) (rest := []) (b_risOne _ _ _) (fun _ _ => rfl) ?_
        refine q_if_eq rfl (fun (hc3 : (d_risOne x g) = 0) => ?_) (fun (hc3 : ¬ ((d_risOne x g) = 0)) => ?_)
        · refine q_ret 2 (some (.int (Int32.ofInt (-1))), g, u) (fun _ _ => rfl) ?_
          rfl
        · refine q_step 2 32 [(0, .ref 70), (1, .int x), (2, .int y), (3, .int z), (4, .int w), (5, .int (1 : Int32))] [.int y, .ref 70] g u (fun big n0 => sg_ba_100 big n0 g u x y z w) ?_
          refine q_call (M2 := 169) (rest := []) (b_risOne _ _ _) (fun _ _ => rfl) ?_
          refine q_if_eq rfl (fun (hc4 : (d_risOne y g) = 0) => ?_) (fun (hc4 : ¬ ((d_risOne y g) = 0)) => ?_)
          · refine q_ret 2 (some (.int (Int32.ofInt (-1))), g, u) (fun _ _ => rfl) ?_
            rfl
          · refine q_step 2 40 [(0, .ref 70), (1, .int x), (2, .int y), (3, .int z), (4, .int w), (5, .int (1 : Int32))] [.int z, .ref 70] g u (fun big n0 => sg_ba_101 big n0 g u x y z w) ?_
            refine q_call (M2 := 169) (rest := []) (b_risOne _ _ _) (fun _ _ => rfl) ?_
            refine q_if_eq rfl (fun (hc5 : (d_risOne z g) = 0) => ?_) (fun (hc5 : ¬ ((d_risOne z g) = 0)) => ?_)
            · refine q_ret 2 (some (.int (Int32.ofInt (-1))), g, u) (fun _ _ => rfl) ?_
              rfl
            · refine q_step 3 53 [(0, .ref 70), (1, .int x), (2, .int y), (3, .int z), (4, .int w), (5, .int (1 : Int32))] [.int w] g u (fun big n0 => sg_ba_102 big n0 g u x y z w) ?_
              refine q_if_eq rfl (fun (hc6 : w = 0) => ?_) (fun (hc6 : ¬ (w = 0)) => ?_)
              · exact absurd (show v_one n x ∧ v_one n y ∧ v_one n z ∧ x ≠ y ∧ x ≠ z ∧ y ≠ z ∧ v_nw w from ⟨vo_r hn h6 hc3, vo_r hn h6 hc4, vo_r hn h6 hc5, hc0, hc1, hc2, Or.inl hc6⟩) hb
              · refine q_step 4 65 [(0, .ref 70), (1, .int x), (2, .int y), (3, .int z), (4, .int w), (5, .int (1 : Int32))] [.long (13 : Int64), .long (10 : Int64), .long (Int32.toInt64 w)] g u (fun big n0 => sg_ba_103 big n0 g u x y z w) ?_
                refine q_call (M2 := 149) (rest := []) (b_in _ _ _ _ _) (fun _ _ => rfl) ?_
                refine q_if_ne rfl (fun (hc7 : (s_in (Int32.toInt64 w) (10 : Int64) (13 : Int64)) = 0) => ?_) (fun (hc7 : ¬ ((s_in (Int32.toInt64 w) (10 : Int64) (13 : Int64)) = 0)) => ?_)
                · refine q_ret 2 (some (.int (Int32.ofInt (-1))), g, u) (fun _ _ => rfl) ?_
                  rfl
                · exact absurd (show v_one n x ∧ v_one n y ∧ v_one n z ∧ x ≠ y ∧ x ≠ z ∧ y ≠ z ∧ v_nw w from ⟨vo_r hn h6 hc3, vo_r hn h6 hc4, vo_r hn h6 hc5, hc0, hc1, hc2, vn_r hc7⟩) hb
end
section
/-! CALLS THAT CHANGE OR TELL, numbers as told. -/
theorem b_hasCell1 {c N : Nat} (g : qM) (u : qW) (hN : g 20 0 * g 20 1 = Int32.ofNat N) (h25 : N ≤ 25) (hc : c < N) : q_BS 38 [.ref 20, .int (Int32.ofNat c)] g u (some (.int 1), g, u) := by
  have e : d_hasCell (Int32.ofNat c) g = 1 := by
    unfold d_hasCell d_size
    rw [hN, if_neg (fun z => by
      have z := Int32.lt_iff_toInt_lt.mp z
      rw [q_nat (by omega)] at z
      have e : (0 : Int32).toInt = 0 := rfl
      omega), if_neg (fun z => absurd ((q_le (by omega) (by omega)).mp z) (by omega))]
  have h := b_hasCell (Int32.ofNat c) g u
  rw [e] at h
  exact h
theorem b_risCell1 {c N : Nat} (g : qM) (u : qW) (hN : g 70 2 * g 70 3 = Int32.ofNat N) (h25 : N ≤ 25) (hc : c < N) : q_BS 171 [.ref 70, .int (Int32.ofNat c)] g u (some (.int 1), g, u) := by
  have e : d_risCell (Int32.ofNat c) g = 1 := by
    unfold d_risCell
    rcases s_in_01 (Int32.toInt64 (Int32.ofNat c)) 0 (Int32.toInt64 (((g 70 2) * (g 70 3)) - (1 : Int32))) with z | z
    · refine absurd z (s_in_i.mpr ?_)
      have e1 : (1 : Int32).toInt = 1 := rfl
      have e0 : (0 : Int64).toInt = 0 := rfl
      rw [Int32.toInt_toInt64, hN, s_sub (by rw [q_nat (by omega), e1]; omega) (by rw [q_nat (by omega), e1]; omega), q_nat (by omega), q_nat (by omega), e1, e0]
      omega
    · exact z
  have k := b_risCell (Int32.ofNat c) g u
  rw [e] at k
  exact k
theorem b_isMood1 {m : Nat} (g : qM) (u : qW) (hm : m ≤ 3) : q_BS 48 [.int (Int32.ofNat m)] g u (some (.int 1), g, u) := by
  have e : d_isMood (Int32.ofNat m) g = 1 := by
    unfold d_isMood
    rw [if_neg (fun z => by
      have z := Int32.lt_iff_toInt_lt.mp z
      rw [q_nat (by omega)] at z
      have e : (0 : Int32).toInt = 0 := rfl
      omega), if_neg (show ¬ (3 : Int32) < Int32.ofNat m from fun z => absurd ((q_lt (i := 3) (j := m) (by omega) (by omega)).mp z) (by omega))]
  have h := b_isMood (Int32.ofNat m) g u
  rw [e] at h
  exact h
theorem sg_ez_1 (big : Nat → List Value → qM → qW → qR) (n0 : Nat) (G : qM) (U : qW) (v0 : Int32) (v1 : Int32) : qm_run pm_m big m_47 (n0 + 3) 0 [(0, .ref 8), (1, .int v0), (2, .int v1)] [] G U = qm_run pm_m big m_47 n0 5 [(0, .ref 8), (1, .int v0), (2, .int v1)] [.int v0, .ref 20] G U := rfl
theorem sg_ez_2 (big : Nat → List Value → qM → qW → qR) (n0 : Nat) (G : qM) (U : qW) (v0 : Int32) (v1 : Int32) : qm_run pm_m big m_47 (n0 + 2) 8 [(0, .ref 8), (1, .int v0), (2, .int v1)] [.int (1 : Int32)] G U = qm_run pm_m big m_47 n0 12 [(0, .ref 8), (1, .int v0), (2, .int v1)] [.int v1] G U := rfl
theorem sg_ez_3 (big : Nat → List Value → qM → qW → qR) (n0 : Nat) (G : qM) (U : qW) (v0 : Int32) (v1 : Int32) : qm_run pm_m big m_47 (n0 + 5) 15 [(0, .ref 8), (1, .int v0), (2, .int v1)] [.int (1 : Int32)] G U = qm_run pm_m big m_47 n0 28 [(0, .ref 8), (1, .int v0), (2, .int v1)] [.int v0, .ref 22] G U := rfl
theorem sg_ez_4 (big : Nat → List Value → qM → qW → qR) (n0 : Nat) (G : qM) (U : qW) (v0 : Int32) (v1 : Int32) (v2 : Int32) : qm_run pm_m big m_47 (n0 + 6) 29 [(0, .ref 8), (1, .int v0), (2, .int v1)] [.int v2] G U = qm_run pm_m big m_47 n0 39 [(0, .ref 8), (1, .int v0), (2, .int v1), (3, .int v2)] [.int v1, .int v0, .ref 22] G U := rfl
theorem sg_ez_5 (big : Nat → List Value → qM → qW → qR) (n0 : Nat) (G : qM) (U : qW) (v0 : Int32) (v1 : Int32) : qm_run pm_m big m_174 (n0 + 2) 0 [(0, .ref 70), (1, .int v0), (2, .int v1)] [] G U = qm_run pm_m big m_174 n0 2 [(0, .ref 70), (1, .int v0), (2, .int v1)] [.int v0, .ref 70] G U := rfl
theorem sg_ez_6 (big : Nat → List Value → qM → qW → qR) (n0 : Nat) (G : qM) (U : qW) (v0 : Int32) (v1 : Int32) : qm_run pm_m big m_174 (n0 + 5) 5 [(0, .ref 70), (1, .int v0), (2, .int v1)] [.int (1 : Int32)] G U = qm_run pm_m big m_174 n0 14 [(0, .ref 70), (1, .int v0), (2, .int v1)] [.long (3 : Int64), .long (0 : Int64), .long (Int32.toInt64 v1)] G U := rfl
theorem sg_ez_7 (big : Nat → List Value → qM → qW → qR) (n0 : Nat) (G : qM) (U : qW) (v0 : Int32) (v1 : Int32) : qm_run pm_m big m_174 (n0 + 6) 17 [(0, .ref 70), (1, .int v0), (2, .int v1)] [.int (1 : Int32)] G U = qm_run pm_m big m_174 n0 25 [(0, .ref 70), (1, .int v0), (2, .int v1)] [.int v1, .int ((5 : Int32) + v0), .ref 70] G U := rfl
theorem sg_ez_8 (big : Nat → List Value → qM → qW → qR) (n0 : Nat) (G : qM) (U : qW) (v0 : Int32) : qm_run pm_m big m_51 (n0 + 3) 0 [(0, .ref 8), (1, .int v0), (2, .int (0 : Int32))] [] G U = qm_run pm_m big m_51 n0 5 [(0, .ref 8), (1, .int v0), (2, .int (0 : Int32))] [.int v0, .ref 20] G U := rfl
theorem sg_ez_9 (big : Nat → List Value → qM → qW → qR) (n0 : Nat) (G : qM) (U : qW) (v0 : Int32) : qm_run pm_m big m_51 (n0 + 5) 8 [(0, .ref 8), (1, .int v0), (2, .int (0 : Int32))] [.int (1 : Int32)] G U = qm_run pm_m big m_51 n0 21 [(0, .ref 8), (1, .int v0), (2, .int (0 : Int32))] [.int v0, .ref 23] G U := rfl
theorem sg_ez_10 (big : Nat → List Value → qM → qW → qR) (n0 : Nat) (G : qM) (U : qW) (v0 : Int32) (v1 : Int32) : qm_run pm_m big m_51 (n0 + 8) 22 [(0, .ref 8), (1, .int v0), (2, .int (0 : Int32))] [.int v1] G U = qm_run pm_m big m_51 n0 40 [(0, .ref 8), (1, .int v0), (2, .int (0 : Int32)), (3, .int v1)] [.int (0 : Int32), .int v0, .ref 23] G U := rfl
theorem sg_ez_11 (big : Nat → List Value → qM → qW → qR) (n0 : Nat) (G : qM) (U : qW) (v0 : Int32) : qm_run pm_m big m_178 (n0 + 2) 0 [(0, .ref 70), (1, .int v0), (2, .int (0 : Int32))] [] G U = qm_run pm_m big m_178 n0 2 [(0, .ref 70), (1, .int v0), (2, .int (0 : Int32))] [.int v0, .ref 70] G U := rfl
theorem sg_ez_12 (big : Nat → List Value → qM → qW → qR) (n0 : Nat) (G : qM) (U : qW) (v0 : Int32) : qm_run pm_m big m_178 (n0 + 6) 5 [(0, .ref 70), (1, .int v0), (2, .int (0 : Int32))] [.int (1 : Int32)] G U = qm_run pm_m big m_178 n0 14 [(0, .ref 70), (1, .int v0), (2, .int (0 : Int32))] [.int (0 : Int32), .int ((10 : Int32) + v0), .ref 70] G U := rfl
theorem sg_ez_13 (big : Nat → List Value → qM → qW → qR) (n0 : Nat) (G : qM) (U : qW) (v0 : Int32) : qm_run pm_m big m_51 (n0 + 3) 0 [(0, .ref 8), (1, .int v0), (2, .int (1 : Int32))] [] G U = qm_run pm_m big m_51 n0 5 [(0, .ref 8), (1, .int v0), (2, .int (1 : Int32))] [.int v0, .ref 20] G U := rfl
theorem sg_ez_14 (big : Nat → List Value → qM → qW → qR) (n0 : Nat) (G : qM) (U : qW) (v0 : Int32) : qm_run pm_m big m_51 (n0 + 5) 8 [(0, .ref 8), (1, .int v0), (2, .int (1 : Int32))] [.int (1 : Int32)] G U = qm_run pm_m big m_51 n0 21 [(0, .ref 8), (1, .int v0), (2, .int (1 : Int32))] [.int v0, .ref 23] G U := rfl
theorem sg_ez_15 (big : Nat → List Value → qM → qW → qR) (n0 : Nat) (G : qM) (U : qW) (v0 : Int32) (v1 : Int32) : qm_run pm_m big m_51 (n0 + 9) 22 [(0, .ref 8), (1, .int v0), (2, .int (1 : Int32))] [.int v1] G U = qm_run pm_m big m_51 n0 40 [(0, .ref 8), (1, .int v0), (2, .int (1 : Int32)), (3, .int v1)] [.int (1 : Int32), .int v0, .ref 23] G U := rfl
theorem sg_ez_16 (big : Nat → List Value → qM → qW → qR) (n0 : Nat) (G : qM) (U : qW) (v0 : Int32) : qm_run pm_m big m_178 (n0 + 2) 0 [(0, .ref 70), (1, .int v0), (2, .int (1 : Int32))] [] G U = qm_run pm_m big m_178 n0 2 [(0, .ref 70), (1, .int v0), (2, .int (1 : Int32))] [.int v0, .ref 70] G U := rfl
theorem sg_ez_17 (big : Nat → List Value → qM → qW → qR) (n0 : Nat) (G : qM) (U : qW) (v0 : Int32) : qm_run pm_m big m_178 (n0 + 6) 5 [(0, .ref 70), (1, .int v0), (2, .int (1 : Int32))] [.int (1 : Int32)] G U = qm_run pm_m big m_178 n0 14 [(0, .ref 70), (1, .int v0), (2, .int (1 : Int32))] [.int (1 : Int32), .int ((10 : Int32) + v0), .ref 70] G U := rfl
theorem sg_ez_18 (big : Nat → List Value → qM → qW → qR) (n0 : Nat) (G : qM) (U : qW) (v0 : Int32) : qm_run pm_m big m_52 (n0 + 3) 0 [(0, .ref 8), (1, .int v0), (2, .int (Int8.toInt32 (Int8.ofInt (-4))))] [] G U = qm_run pm_m big m_52 n0 5 [(0, .ref 8), (1, .int v0), (2, .int (Int8.toInt32 (Int8.ofInt (-4))))] [.int v0, .ref 20] G U := rfl
theorem sg_ez_19 (big : Nat → List Value → qM → qW → qR) (n0 : Nat) (G : qM) (U : qW) (v0 : Int32) : qm_run pm_m big m_52 (n0 + 8) 8 [(0, .ref 8), (1, .int v0), (2, .int (Int8.toInt32 (Int8.ofInt (-4))))] [.int (1 : Int32)] G U = qm_run pm_m big m_52 n0 38 [(0, .ref 8), (1, .int v0), (2, .int (Int8.toInt32 (Int8.ofInt (-4))))] [.int v0, .ref 24] G U := rfl
theorem sg_ez_20 (big : Nat → List Value → qM → qW → qR) (n0 : Nat) (G : qM) (U : qW) (v0 : Int32) (v1 : Int32) : qm_run pm_m big m_52 (n0 + 6) 39 [(0, .ref 8), (1, .int v0), (2, .int (Int8.toInt32 (Int8.ofInt (-4))))] [.int v1] G U = qm_run pm_m big m_52 n0 49 [(0, .ref 8), (1, .int v0), (2, .int (Int8.toInt32 (Int8.ofInt (-4)))), (3, .int v1)] [.int (Int8.toInt32 (Int8.ofInt (-4))), .int v0, .ref 24] G U := rfl
theorem sg_ez_21 (big : Nat → List Value → qM → qW → qR) (n0 : Nat) (G : qM) (U : qW) (v0 : Int32) : qm_run pm_m big m_179 (n0 + 2) 0 [(0, .ref 70), (1, .int v0), (2, .int (Int8.toInt32 (Int8.ofInt (-4))))] [] G U = qm_run pm_m big m_179 n0 2 [(0, .ref 70), (1, .int v0), (2, .int (Int8.toInt32 (Int8.ofInt (-4))))] [.int v0, .ref 70] G U := rfl
theorem sg_ez_22 (big : Nat → List Value → qM → qW → qR) (n0 : Nat) (G : qM) (U : qW) (v0 : Int32) : qm_run pm_m big m_179 (n0 + 9) 5 [(0, .ref 70), (1, .int v0), (2, .int (Int8.toInt32 (Int8.ofInt (-4))))] [.int (1 : Int32)] G U = qm_run pm_m big m_179 n0 28 [(0, .ref 70), (1, .int v0), (2, .int (Int8.toInt32 (Int8.ofInt (-4))))] [.int (Int8.toInt32 (Int8.ofInt (-4))), .int ((15 : Int32) + v0), .ref 70] G U := rfl
theorem sg_ez_23 (big : Nat → List Value → qM → qW → qR) (n0 : Nat) (G : qM) (U : qW) (v0 : Int32) (v1 : Int32) : qm_run pm_m big m_52 (n0 + 3) 0 [(0, .ref 8), (1, .int v0), (2, .int v1)] [] G U = qm_run pm_m big m_52 n0 5 [(0, .ref 8), (1, .int v0), (2, .int v1)] [.int v0, .ref 20] G U := rfl
theorem sg_ez_24 (big : Nat → List Value → qM → qW → qR) (n0 : Nat) (G : qM) (U : qW) (v0 : Int32) (v1 : Int32) : qm_run pm_m big m_52 (n0 + 3) 8 [(0, .ref 8), (1, .int v0), (2, .int v1)] [.int (1 : Int32)] G U = qm_run pm_m big m_52 n0 14 [(0, .ref 8), (1, .int v0), (2, .int v1)] [.int (Int8.toInt32 (Int8.ofInt (-4))), .int v1] G U := rfl
theorem sg_ez_25 (big : Nat → List Value → qM → qW → qR) (n0 : Nat) (G : qM) (U : qW) (v0 : Int32) (v1 : Int32) : qm_run pm_m big m_52 (n0 + 3) 17 [(0, .ref 8), (1, .int v0), (2, .int v1)] [] G U = qm_run pm_m big m_52 n0 22 [(0, .ref 8), (1, .int v0), (2, .int v1)] [.int v1, .ref 20] G U := rfl
theorem sg_ez_26 (big : Nat → List Value → qM → qW → qR) (n0 : Nat) (G : qM) (U : qW) (v0 : Int32) (v1 : Int32) : qm_run pm_m big m_52 (n0 + 5) 25 [(0, .ref 8), (1, .int v0), (2, .int v1)] [.int (1 : Int32)] G U = qm_run pm_m big m_52 n0 38 [(0, .ref 8), (1, .int v0), (2, .int v1)] [.int v0, .ref 24] G U := rfl
theorem sg_ez_27 (big : Nat → List Value → qM → qW → qR) (n0 : Nat) (G : qM) (U : qW) (v0 : Int32) (v1 : Int32) (v2 : Int32) : qm_run pm_m big m_52 (n0 + 6) 39 [(0, .ref 8), (1, .int v0), (2, .int v1)] [.int v2] G U = qm_run pm_m big m_52 n0 49 [(0, .ref 8), (1, .int v0), (2, .int v1), (3, .int v2)] [.int v1, .int v0, .ref 24] G U := rfl
theorem sg_ez_28 (big : Nat → List Value → qM → qW → qR) (n0 : Nat) (G : qM) (U : qW) (v0 : Int32) (v1 : Int32) : qm_run pm_m big m_179 (n0 + 2) 0 [(0, .ref 70), (1, .int v0), (2, .int v1)] [] G U = qm_run pm_m big m_179 n0 2 [(0, .ref 70), (1, .int v0), (2, .int v1)] [.int v0, .ref 70] G U := rfl
theorem sg_ez_29 (big : Nat → List Value → qM → qW → qR) (n0 : Nat) (G : qM) (U : qW) (v0 : Int32) (v1 : Int32) : qm_run pm_m big m_179 (n0 + 3) 5 [(0, .ref 70), (1, .int v0), (2, .int v1)] [.int (1 : Int32)] G U = qm_run pm_m big m_179 n0 11 [(0, .ref 70), (1, .int v0), (2, .int v1)] [.int (Int8.toInt32 (Int8.ofInt (-4))), .int v1] G U := rfl
theorem sg_ez_30 (big : Nat → List Value → qM → qW → qR) (n0 : Nat) (G : qM) (U : qW) (v0 : Int32) (v1 : Int32) : qm_run pm_m big m_179 (n0 + 2) 14 [(0, .ref 70), (1, .int v0), (2, .int v1)] [] G U = qm_run pm_m big m_179 n0 16 [(0, .ref 70), (1, .int v0), (2, .int v1)] [.int v1, .ref 70] G U := rfl
theorem sg_ez_31 (big : Nat → List Value → qM → qW → qR) (n0 : Nat) (G : qM) (U : qW) (v0 : Int32) (v1 : Int32) : qm_run pm_m big m_179 (n0 + 6) 19 [(0, .ref 70), (1, .int v0), (2, .int v1)] [.int (1 : Int32)] G U = qm_run pm_m big m_179 n0 28 [(0, .ref 70), (1, .int v0), (2, .int v1)] [.int v1, .int ((15 : Int32) + v0), .ref 70] G U := rfl
theorem sg_ez_32 (big : Nat → List Value → qM → qW → qR) (n0 : Nat) (G : qM) (U : qW) (v0 : Int32) (v1 : Int32) : qm_run pm_m big m_54 (n0 + 2) 0 [(0, .ref 8), (1, .int v0), (2, .int v1)] [] G U = qm_run pm_m big m_54 n0 2 [(0, .ref 8), (1, .int v0), (2, .int v1)] [.int (1 : Int32), .int v0] G U := rfl
theorem sg_ez_33 (big : Nat → List Value → qM → qW → qR) (n0 : Nat) (G : qM) (U : qW) (v0 : Int32) (v1 : Int32) : qm_run pm_m big m_54 (n0 + 2) 5 [(0, .ref 8), (1, .int v0), (2, .int v1)] [] G U = qm_run pm_m big m_54 n0 7 [(0, .ref 8), (1, .int v0), (2, .int v1)] [.int (4 : Int32), .int v0] G U := rfl
theorem sg_ez_34 (big : Nat → List Value → qM → qW → qR) (n0 : Nat) (G : qM) (U : qW) (v0 : Int32) (v1 : Int32) : qm_run pm_m big m_54 (n0 + 1) 10 [(0, .ref 8), (1, .int v0), (2, .int v1)] [] G U = qm_run pm_m big m_54 n0 11 [(0, .ref 8), (1, .int v0), (2, .int v1)] [.int v1] G U := rfl
theorem sg_ez_35 (big : Nat → List Value → qM → qW → qR) (n0 : Nat) (G : qM) (U : qW) (v0 : Int32) (v1 : Int32) : qm_run pm_m big m_54 (n0 + 2) 14 [(0, .ref 8), (1, .int v0), (2, .int v1)] [] G U = qm_run pm_m big m_54 n0 17 [(0, .ref 8), (1, .int v0), (2, .int v1)] [.int (9 : Int32), .int v1] G U := rfl
theorem sg_ez_36 (big : Nat → List Value → qM → qW → qR) (n0 : Nat) (G : qM) (U : qW) (v0 : Int32) (v1 : Int32) : qm_run pm_m big m_54 (n0 + 4) 22 [(0, .ref 8), (1, .int v0), (2, .int v1)] [] G U = qm_run pm_m big m_54 n0 30 [(0, .ref 8), (1, .int v0), (2, .int v1)] [.int v0, .ref 25] G U := rfl
theorem sg_ez_37 (big : Nat → List Value → qM → qW → qR) (n0 : Nat) (G : qM) (U : qW) (v0 : Int32) (v1 : Int32) (v2 : Int32) : qm_run pm_m big m_54 (n0 + 6) 31 [(0, .ref 8), (1, .int v0), (2, .int v1)] [.int v2] G U = qm_run pm_m big m_54 n0 41 [(0, .ref 8), (1, .int v0), (2, .int v1), (3, .int v2)] [.int v1, .int v0, .ref 25] G U := rfl
theorem sg_ez_38 (big : Nat → List Value → qM → qW → qR) (n0 : Nat) (G : qM) (U : qW) (v0 : Int32) (v1 : Int32) : qm_run pm_m big m_181 (n0 + 4) 0 [(0, .ref 70), (1, .int v0), (2, .int v1)] [] G U = qm_run pm_m big m_181 n0 6 [(0, .ref 70), (1, .int v0), (2, .int v1)] [.long (4 : Int64), .long (1 : Int64), .long (Int32.toInt64 v0)] G U := rfl
theorem sg_ez_39 (big : Nat → List Value → qM → qW → qR) (n0 : Nat) (G : qM) (U : qW) (v0 : Int32) (v1 : Int32) : qm_run pm_m big m_181 (n0 + 5) 9 [(0, .ref 70), (1, .int v0), (2, .int v1)] [.int (1 : Int32)] G U = qm_run pm_m big m_181 n0 18 [(0, .ref 70), (1, .int v0), (2, .int v1)] [.long (9 : Int64), .long (0 : Int64), .long (Int32.toInt64 v1)] G U := rfl
theorem sg_ez_40 (big : Nat → List Value → qM → qW → qR) (n0 : Nat) (G : qM) (U : qW) (v0 : Int32) (v1 : Int32) : qm_run pm_m big m_181 (n0 + 8) 21 [(0, .ref 70), (1, .int v0), (2, .int v1)] [.int (1 : Int32)] G U = qm_run pm_m big m_181 n0 32 [(0, .ref 70), (1, .int v0), (2, .int v1)] [.int v1, .int (((21 : Int32) + v0) - (1 : Int32)), .ref 70] G U := rfl
theorem sg_ez_41 (big : Nat → List Value → qM → qW → qR) (n0 : Nat) (G : qM) (U : qW) (v0 : Int32) : qm_run pm_m big m_55 (n0 + 1) 0 [(0, .ref 8), (1, .int v0)] [] G U = qm_run pm_m big m_55 n0 1 [(0, .ref 8), (1, .int v0)] [.int v0] G U := rfl
theorem sg_ez_42 (big : Nat → List Value → qM → qW → qR) (n0 : Nat) (G : qM) (U : qW) (v0 : Int32) : qm_run pm_m big m_55 (n0 + 2) 4 [(0, .ref 8), (1, .int v0)] [] G U = qm_run pm_m big m_55 n0 6 [(0, .ref 8), (1, .int v0)] [.int (4 : Int32), .int v0] G U := rfl
theorem sg_ez_43 (big : Nat → List Value → qM → qW → qR) (n0 : Nat) (G : qM) (U : qW) (v0 : Int32) : qm_run pm_m big m_182 (n0 + 4) 0 [(0, .ref 70), (1, .int v0)] [] G U = qm_run pm_m big m_182 n0 6 [(0, .ref 70), (1, .int v0)] [.long (4 : Int64), .long (0 : Int64), .long (Int32.toInt64 v0)] G U := rfl
theorem sg_ez_44 (big : Nat → List Value → qM → qW → qR) (n0 : Nat) (G : qM) (U : qW) (v0 : Int32) : qm_run pm_m big m_182 (n0 + 4) 9 [(0, .ref 70), (1, .int v0)] [.int (1 : Int32)] G U = qm_run pm_m big m_182 n0 16 [(0, .ref 70), (1, .int v0)] [.int v0, .int (25 : Int32), .ref 70] G U := rfl
theorem sg_ez_45 (big : Nat → List Value → qM → qW → qR) (n0 : Nat) (G : qM) (U : qW) (v0 : Int32) : qm_run pm_m big m_46 (n0 + 3) 0 [(0, .ref 8), (1, .int v0)] [] G U = qm_run pm_m big m_46 n0 5 [(0, .ref 8), (1, .int v0)] [.int v0, .ref 20] G U := rfl
theorem sg_ez_46 (big : Nat → List Value → qM → qW → qR) (n0 : Nat) (G : qM) (U : qW) (v0 : Int32) : qm_run pm_m big m_46 (n0 + 4) 8 [(0, .ref 8), (1, .int v0)] [.int (1 : Int32)] G U = qm_run pm_m big m_46 n0 16 [(0, .ref 8), (1, .int v0)] [.int v0, .ref 20] G U := rfl
theorem sg_ez_47 (big : Nat → List Value → qM → qW → qR) (n0 : Nat) (G : qM) (U : qW) (v0 : Int32) : qm_run pm_m big m_170 (n0 + 2) 0 [(0, .ref 70), (1, .int v0)] [] G U = qm_run pm_m big m_170 n0 2 [(0, .ref 70), (1, .int v0)] [.int v0, .ref 70] G U := rfl
theorem sg_ez_48 (big : Nat → List Value → qM → qW → qR) (n0 : Nat) (G : qM) (U : qW) (v0 : Int32) : qm_run pm_m big m_170 (n0 + 2) 5 [(0, .ref 70), (1, .int v0)] [.int (1 : Int32)] G U = qm_run pm_m big m_170 n0 11 [(0, .ref 70), (1, .int v0)] [.ref 70] G U := rfl
theorem sg_ez_49 (big : Nat → List Value → qM → qW → qR) (n0 : Nat) (G : qM) (U : qW) (v0 : Int32) : qm_run pm_m big m_170 (n0 + 2) 14 [(0, .ref 70), (1, .int v0)] [] G U = qm_run pm_m big m_170 n0 16 [(0, .ref 70), (1, .int v0)] [.int v0, .ref 70] G U := rfl
theorem sg_ez_50 (big : Nat → List Value → qM → qW → qR) (n0 : Nat) (G : qM) (U : qW) (v0 : Int32) (v1 : Int32) : qm_run pm_m big m_49 (n0 + 3) 0 [(0, .ref 8), (1, .int v0), (2, .int v1)] [] G U = qm_run pm_m big m_49 n0 5 [(0, .ref 8), (1, .int v0), (2, .int v1)] [.int v0, .ref 20] G U := rfl
theorem sg_ez_51 (big : Nat → List Value → qM → qW → qR) (n0 : Nat) (G : qM) (U : qW) (v0 : Int32) (v1 : Int32) : qm_run pm_m big m_49 (n0 + 4) 8 [(0, .ref 8), (1, .int v0), (2, .int v1)] [.int (1 : Int32)] G U = qm_run pm_m big m_49 n0 16 [(0, .ref 8), (1, .int v0), (2, .int v1)] [.int v1, .ref 20] G U := rfl
theorem sg_ez_52 (big : Nat → List Value → qM → qW → qR) (n0 : Nat) (G : qM) (U : qW) (v0 : Int32) (v1 : Int32) : qm_run pm_m big m_49 (n0 + 5) 19 [(0, .ref 8), (1, .int v0), (2, .int v1)] [.int (1 : Int32)] G U = qm_run pm_m big m_49 n0 28 [(0, .ref 8), (1, .int v0), (2, .int v1)] [.int v1, .int v0, .ref 20] G U := rfl
theorem sg_ez_53 (big : Nat → List Value → qM → qW → qR) (n0 : Nat) (G : qM) (U : qW) (v0 : Int32) (v1 : Int32) : qm_run pm_m big m_49 (n0 + 5) 31 [(0, .ref 8), (1, .int v0), (2, .int v1)] [.int (1 : Int32)] G U = qm_run pm_m big m_49 n0 44 [(0, .ref 8), (1, .int v0), (2, .int v1)] [.int v0, .ref 21] G U := rfl
theorem sg_ez_54 (big : Nat → List Value → qM → qW → qR) (n0 : Nat) (G : qM) (U : qW) (v0 : Int32) (v1 : Int32) (v2 : Int32) : qm_run pm_m big m_49 (n0 + 6) 45 [(0, .ref 8), (1, .int v0), (2, .int v1)] [.int v2] G U = qm_run pm_m big m_49 n0 55 [(0, .ref 8), (1, .int v0), (2, .int v1), (3, .int v2)] [.int v1, .int v0, .ref 21] G U := rfl
theorem sg_ez_55 (big : Nat → List Value → qM → qW → qR) (n0 : Nat) (G : qM) (U : qW) (v0 : Int32) (v1 : Int32) : qm_run pm_m big m_176 (n0 + 2) 0 [(0, .ref 70), (1, .int v0), (2, .int v1)] [] G U = qm_run pm_m big m_176 n0 2 [(0, .ref 70), (1, .int v0), (2, .int v1)] [.int v0, .ref 70] G U := rfl
theorem sg_ez_56 (big : Nat → List Value → qM → qW → qR) (n0 : Nat) (G : qM) (U : qW) (v0 : Int32) (v1 : Int32) : qm_run pm_m big m_176 (n0 + 3) 5 [(0, .ref 70), (1, .int v0), (2, .int v1)] [.int (1 : Int32)] G U = qm_run pm_m big m_176 n0 10 [(0, .ref 70), (1, .int v0), (2, .int v1)] [.int v1, .ref 70] G U := rfl
theorem sg_ez_57 (big : Nat → List Value → qM → qW → qR) (n0 : Nat) (G : qM) (U : qW) (v0 : Int32) (v1 : Int32) : qm_run pm_m big m_176 (n0 + 2) 13 [(0, .ref 70), (1, .int v0), (2, .int v1)] [.int (1 : Int32)] G U = qm_run pm_m big m_176 n0 19 [(0, .ref 70), (1, .int v0), (2, .int v1)] [.ref 70] G U := rfl
theorem sg_ez_58 (big : Nat → List Value → qM → qW → qR) (n0 : Nat) (G : qM) (U : qW) (v0 : Int32) (v1 : Int32) : qm_run pm_m big m_176 (n0 + 2) 22 [(0, .ref 70), (1, .int v0), (2, .int v1)] [] G U = qm_run pm_m big m_176 n0 24 [(0, .ref 70), (1, .int v0), (2, .int v1)] [.int v1, .ref 70] G U := rfl
theorem sg_ez_59 (big : Nat → List Value → qM → qW → qR) (n0 : Nat) (G : qM) (U : qW) (v0 : Int32) (v1 : Int32) (v2 : Int32) : qm_run pm_m big m_176 (n0 + 3) 27 [(0, .ref 70), (1, .int v0), (2, .int v1)] [.int v2] G U = qm_run pm_m big m_176 n0 30 [(0, .ref 70), (1, .int v0), (2, .int v1), (3, .int v2)] [.int v1, .ref 70] G U := rfl
theorem sg_ez_60 (big : Nat → List Value → qM → qW → qR) (n0 : Nat) (G : qM) (U : qW) (v0 : Int32) (v1 : Int32) (v2 : Int32) : qm_run pm_m big m_176 (n0 + 2) 36 [(0, .ref 70), (1, .int v0), (2, .int v1), (3, .int v2)] [] G U = qm_run pm_m big m_176 n0 39 [(0, .ref 70), (1, .int v0), (2, .int v1), (3, .int v2)] [.int (Int8.toInt32 (Int8.ofInt (-4))), .int v2] G U := rfl
theorem sg_ez_61 (big : Nat → List Value → qM → qW → qR) (n0 : Nat) (G : qM) (U : qW) (v0 : Int32) (v1 : Int32) (v2 : Int32) : qm_run pm_m big m_176 (n0 + 5) 47 [(0, .ref 70), (1, .int v0), (2, .int v1), (3, .int v2)] [] G U = qm_run pm_m big m_176 n0 52 [(0, .ref 70), (1, .int v0), (2, .int v1), (3, .int v2)] [.int v1, .int ((0 : Int32) + v0), .ref 70] G U := rfl
theorem sg_ez_62 (big : Nat → List Value → qM → qW → qR) (n0 : Nat) (G : qM) (U : qW) (v0 : Int32) (v1 : Int32) (v2 : Int32) : qm_run pm_m big m_176 (n0 + 2) 42 [(0, .ref 70), (1, .int v0), (2, .int v1), (3, .int v2)] [] G U = qm_run pm_m big m_176 n0 44 [(0, .ref 70), (1, .int v0), (2, .int v1), (3, .int v2)] [.int v0, .int v2] G U := rfl
theorem sg_ez_63 (big : Nat → List Value → qM → qW → qR) (n0 : Nat) (G : qM) (U : qW) (v0 : Int32) : qm_run pm_m big m_53 (n0 + 3) 0 [(0, .ref 8), (1, .int v0), (2, .int (0 : Int32))] [] G U = qm_run pm_m big m_53 n0 5 [(0, .ref 8), (1, .int v0), (2, .int (0 : Int32))] [.int v0, .ref 20] G U := rfl
theorem sg_ez_64 (big : Nat → List Value → qM → qW → qR) (n0 : Nat) (G : qM) (U : qW) (v0 : Int32) : qm_run pm_m big m_53 (n0 + 4) 8 [(0, .ref 8), (1, .int v0), (2, .int (0 : Int32))] [.int (1 : Int32)] G U = qm_run pm_m big m_53 n0 16 [(0, .ref 8), (1, .int v0), (2, .int (0 : Int32))] [.int v0, .ref 20] G U := rfl
theorem sg_ez_65 (big : Nat → List Value → qM → qW → qR) (n0 : Nat) (G : qM) (U : qW) (v0 : Int32) (v1 : Int32) : qm_run pm_m big m_53 (n0 + 1) 19 [(0, .ref 8), (1, .int v0), (2, .int (0 : Int32))] [.int v1] G U = qm_run pm_m big m_53 n0 21 [(0, .ref 8), (1, .int v0), (2, .int (0 : Int32))] [.int (Int8.toInt32 (Int8.ofInt (-4))), .int v1] G U := rfl
theorem sg_ez_66 (big : Nat → List Value → qM → qW → qR) (n0 : Nat) (G : qM) (U : qW) (v0 : Int32) : qm_run pm_m big m_180 (n0 + 2) 0 [(0, .ref 70), (1, .int v0), (2, .int (0 : Int32))] [] G U = qm_run pm_m big m_180 n0 2 [(0, .ref 70), (1, .int v0), (2, .int (0 : Int32))] [.int v0, .ref 70] G U := rfl
theorem sg_ez_67 (big : Nat → List Value → qM → qW → qR) (n0 : Nat) (G : qM) (U : qW) (v0 : Int32) : qm_run pm_m big m_180 (n0 + 2) 5 [(0, .ref 70), (1, .int v0), (2, .int (0 : Int32))] [.int (1 : Int32)] G U = qm_run pm_m big m_180 n0 11 [(0, .ref 70), (1, .int v0), (2, .int (0 : Int32))] [.ref 70] G U := rfl
theorem sg_ez_68 (big : Nat → List Value → qM → qW → qR) (n0 : Nat) (G : qM) (U : qW) (v0 : Int32) : qm_run pm_m big m_180 (n0 + 2) 14 [(0, .ref 70), (1, .int v0), (2, .int (0 : Int32))] [] G U = qm_run pm_m big m_180 n0 16 [(0, .ref 70), (1, .int v0), (2, .int (0 : Int32))] [.int v0, .ref 70] G U := rfl
theorem sg_ez_69 (big : Nat → List Value → qM → qW → qR) (n0 : Nat) (G : qM) (U : qW) (v0 : Int32) (v1 : Int32) : qm_run pm_m big m_180 (n0 + 1) 19 [(0, .ref 70), (1, .int v0), (2, .int (0 : Int32))] [.int v1] G U = qm_run pm_m big m_180 n0 21 [(0, .ref 70), (1, .int v0), (2, .int (0 : Int32))] [.int (Int8.toInt32 (Int8.ofInt (-4))), .int v1] G U := rfl
theorem sg_ez_70 (big : Nat → List Value → qM → qW → qR) (n0 : Nat) (G : qM) (U : qW) (v0 : Int32) : qm_run pm_m big m_53 (n0 + 3) 26 [(0, .ref 8), (1, .int v0), (2, .int (0 : Int32))] [] G U = qm_run pm_m big m_53 n0 31 [(0, .ref 8), (1, .int v0), (2, .int (0 : Int32))] [.int v0, .ref 20] G U := rfl
theorem sg_ez_71 (big : Nat → List Value → qM → qW → qR) (n0 : Nat) (G : qM) (U : qW) (v0 : Int32) : qm_run pm_m big m_53 (n0 + 3) 0 [(0, .ref 8), (1, .int v0), (2, .int (1 : Int32))] [] G U = qm_run pm_m big m_53 n0 5 [(0, .ref 8), (1, .int v0), (2, .int (1 : Int32))] [.int v0, .ref 20] G U := rfl
theorem sg_ez_72 (big : Nat → List Value → qM → qW → qR) (n0 : Nat) (G : qM) (U : qW) (v0 : Int32) : qm_run pm_m big m_53 (n0 + 4) 8 [(0, .ref 8), (1, .int v0), (2, .int (1 : Int32))] [.int (1 : Int32)] G U = qm_run pm_m big m_53 n0 16 [(0, .ref 8), (1, .int v0), (2, .int (1 : Int32))] [.int v0, .ref 20] G U := rfl
theorem sg_ez_73 (big : Nat → List Value → qM → qW → qR) (n0 : Nat) (G : qM) (U : qW) (v0 : Int32) (v1 : Int32) : qm_run pm_m big m_53 (n0 + 1) 19 [(0, .ref 8), (1, .int v0), (2, .int (1 : Int32))] [.int v1] G U = qm_run pm_m big m_53 n0 21 [(0, .ref 8), (1, .int v0), (2, .int (1 : Int32))] [.int (Int8.toInt32 (Int8.ofInt (-4))), .int v1] G U := rfl
theorem sg_ez_74 (big : Nat → List Value → qM → qW → qR) (n0 : Nat) (G : qM) (U : qW) (v0 : Int32) : qm_run pm_m big m_180 (n0 + 2) 0 [(0, .ref 70), (1, .int v0), (2, .int (1 : Int32))] [] G U = qm_run pm_m big m_180 n0 2 [(0, .ref 70), (1, .int v0), (2, .int (1 : Int32))] [.int v0, .ref 70] G U := rfl
theorem sg_ez_75 (big : Nat → List Value → qM → qW → qR) (n0 : Nat) (G : qM) (U : qW) (v0 : Int32) : qm_run pm_m big m_180 (n0 + 2) 5 [(0, .ref 70), (1, .int v0), (2, .int (1 : Int32))] [.int (1 : Int32)] G U = qm_run pm_m big m_180 n0 11 [(0, .ref 70), (1, .int v0), (2, .int (1 : Int32))] [.ref 70] G U := rfl
theorem sg_ez_76 (big : Nat → List Value → qM → qW → qR) (n0 : Nat) (G : qM) (U : qW) (v0 : Int32) : qm_run pm_m big m_180 (n0 + 2) 14 [(0, .ref 70), (1, .int v0), (2, .int (1 : Int32))] [] G U = qm_run pm_m big m_180 n0 16 [(0, .ref 70), (1, .int v0), (2, .int (1 : Int32))] [.int v0, .ref 70] G U := rfl
theorem sg_ez_77 (big : Nat → List Value → qM → qW → qR) (n0 : Nat) (G : qM) (U : qW) (v0 : Int32) (v1 : Int32) : qm_run pm_m big m_180 (n0 + 1) 19 [(0, .ref 70), (1, .int v0), (2, .int (1 : Int32))] [.int v1] G U = qm_run pm_m big m_180 n0 21 [(0, .ref 70), (1, .int v0), (2, .int (1 : Int32))] [.int (Int8.toInt32 (Int8.ofInt (-4))), .int v1] G U := rfl
theorem sg_ez_78 (big : Nat → List Value → qM → qW → qR) (n0 : Nat) (G : qM) (U : qW) (v0 : Int32) : qm_run pm_m big m_53 (n0 + 3) 26 [(0, .ref 8), (1, .int v0), (2, .int (1 : Int32))] [] G U = qm_run pm_m big m_53 n0 31 [(0, .ref 8), (1, .int v0), (2, .int (1 : Int32))] [.int v0, .ref 20] G U := rfl
theorem sg_ez_79 (big : Nat → List Value → qM → qW → qR) (n0 : Nat) (G : qM) (U : qW) (v0 : Int32) (v1 : Int32) : qm_run pm_m big m_118 (n0 + 3) 0 [(0, .ref 8), (1, .int v0), (2, .int v1)] [] G U = qm_run pm_m big m_118 n0 5 [(0, .ref 8), (1, .int v0), (2, .int v1)] [.int v0, .ref 20] G U := rfl
theorem sg_ez_80 (big : Nat → List Value → qM → qW → qR) (n0 : Nat) (G : qM) (U : qW) (v0 : Int32) (v1 : Int32) : qm_run pm_m big m_118 (n0 + 2) 8 [(0, .ref 8), (1, .int v0), (2, .int v1)] [.int (1 : Int32)] G U = qm_run pm_m big m_118 n0 12 [(0, .ref 8), (1, .int v0), (2, .int v1)] [.int v1] G U := rfl
theorem sg_ez_81 (big : Nat → List Value → qM → qW → qR) (n0 : Nat) (G : qM) (U : qW) (v0 : Int32) (v1 : Int32) : qm_run pm_m big m_118 (n0 + 2) 15 [(0, .ref 8), (1, .int v0), (2, .int v1)] [] G U = qm_run pm_m big m_118 n0 17 [(0, .ref 8), (1, .int v0), (2, .int v1)] [.int (4 : Int32), .int v1] G U := rfl
theorem sg_ez_82 (big : Nat → List Value → qM → qW → qR) (n0 : Nat) (G : qM) (U : qW) (v0 : Int32) (v1 : Int32) : qm_run pm_m big m_118 (n0 + 4) 22 [(0, .ref 8), (1, .int v0), (2, .int v1)] [] G U = qm_run pm_m big m_118 n0 31 [(0, .ref 8), (1, .int v0), (2, .int v1)] [.int (8 : Int32), .int (G 20 6)] G U := rfl
theorem sg_ez_83 (big : Nat → List Value → qM → qW → qR) (n0 : Nat) (G : qM) (U : qW) (v0 : Int32) (v1 : Int32) : qm_run pm_m big m_118 (n0 + 7) 37 [(0, .ref 8), (1, .int v0), (2, .int v1)] [] G U = qm_run pm_m big m_118 n0 52 [(0, .ref 8), (1, .int v0), (2, .int v1)] [.int v0, .int (G 20 6), .ref 26] G U := rfl
theorem sg_ez_84 (big : Nat → List Value → qM → qW → qR) (n0 : Nat) (G : qM) (U : qW) (v0 : Int32) (v1 : Int32) : qm_run pm_m big m_118 (n0 + 7) 53 [(0, .ref 8), (1, .int v0), (2, .int v1)] [] G U = qm_run pm_m big m_118 n0 68 [(0, .ref 8), (1, .int v0), (2, .int v1)] [.int v1, .int (G 20 6), .ref 27] G U := rfl
theorem sg_ez_85 (big : Nat → List Value → qM → qW → qR) (n0 : Nat) (G : qM) (U : qW) (v0 : Int32) (v1 : Int32) : qm_run pm_m big m_212 (n0 + 2) 0 [(0, .ref 70), (1, .int v0), (2, .int v1)] [] G U = qm_run pm_m big m_212 n0 2 [(0, .ref 70), (1, .int v0), (2, .int v1)] [.int v0, .ref 70] G U := rfl
theorem sg_ez_86 (big : Nat → List Value → qM → qW → qR) (n0 : Nat) (G : qM) (U : qW) (v0 : Int32) (v1 : Int32) : qm_run pm_m big m_212 (n0 + 5) 5 [(0, .ref 70), (1, .int v0), (2, .int v1)] [.int (1 : Int32)] G U = qm_run pm_m big m_212 n0 14 [(0, .ref 70), (1, .int v0), (2, .int v1)] [.long (4 : Int64), .long (0 : Int64), .long (Int32.toInt64 v1)] G U := rfl
theorem sg_ez_87 (big : Nat → List Value → qM → qW → qR) (n0 : Nat) (G : qM) (U : qW) (v0 : Int32) (v1 : Int32) : qm_run pm_m big m_212 (n0 + 6) 17 [(0, .ref 70), (1, .int v0), (2, .int v1)] [.int (1 : Int32)] G U = qm_run pm_m big m_212 n0 31 [(0, .ref 70), (1, .int v0), (2, .int v1)] [.int (8 : Int32), .int (G 71 27)] G U := rfl
theorem sg_ez_88 (big : Nat → List Value → qM → qW → qR) (n0 : Nat) (G : qM) (U : qW) (v0 : Int32) (v1 : Int32) : qm_run pm_m big m_212 (n0 + 11) 37 [(0, .ref 70), (1, .int v0), (2, .int v1)] [] G U = qm_run pm_m big m_212 n0 54 [(0, .ref 70), (1, .int v0), (2, .int v1)] [.int v0, .int ((28 : Int32) + ((2 : Int32) * (G 71 27))), .ref 71] G U := rfl
theorem sg_ez_89 (big : Nat → List Value → qM → qW → qR) (n0 : Nat) (G : qM) (U : qW) (v0 : Int32) (v1 : Int32) : qm_run pm_m big m_212 (n0 + 13) 55 [(0, .ref 70), (1, .int v0), (2, .int v1)] [] G U = qm_run pm_m big m_212 n0 74 [(0, .ref 70), (1, .int v0), (2, .int v1)] [.int v1, .int (((28 : Int32) + ((2 : Int32) * (G 71 27))) + (1 : Int32)), .ref 71] G U := rfl
theorem sg_ez_90 (big : Nat → List Value → qM → qW → qR) (n0 : Nat) (G : qM) (U : qW) : qm_run pm_m big m_167 (n0 + 8) 0 [(0, .ref 70), (1, .int (11 : Int32))] [] G U = qm_run pm_m big m_167 n0 88 [(0, .ref 70), (1, .int (11 : Int32))] [.long (4 : Int64), .long (1 : Int64), .long (1 : Int64)] G U := rfl
theorem sg_ez_91 (big : Nat → List Value → qM → qW → qR) (n0 : Nat) (G : qM) (U : qW) : qm_run pm_m big m_167 (n0 + 8) 0 [(0, .ref 70), (1, .int (12 : Int32))] [] G U = qm_run pm_m big m_167 n0 88 [(0, .ref 70), (1, .int (12 : Int32))] [.long (4 : Int64), .long (1 : Int64), .long (2 : Int64)] G U := rfl
theorem sg_ez_92 (big : Nat → List Value → qM → qW → qR) (n0 : Nat) (G : qM) (U : qW) : qm_run pm_m big m_167 (n0 + 8) 0 [(0, .ref 70), (1, .int (13 : Int32))] [] G U = qm_run pm_m big m_167 n0 88 [(0, .ref 70), (1, .int (13 : Int32))] [.long (4 : Int64), .long (1 : Int64), .long (3 : Int64)] G U := rfl
theorem sg_ez_93 (big : Nat → List Value → qM → qW → qR) (n0 : Nat) (G : qM) (U : qW) : qm_run pm_m big m_167 (n0 + 8) 0 [(0, .ref 70), (1, .int (14 : Int32))] [] G U = qm_run pm_m big m_167 n0 88 [(0, .ref 70), (1, .int (14 : Int32))] [.long (4 : Int64), .long (1 : Int64), .long (4 : Int64)] G U := rfl
theorem sg_ez_94 (big : Nat → List Value → qM → qW → qR) (n0 : Nat) (G : qM) (U : qW) (v0 : Int32) : qm_run pm_m big m_45 (n0 + 3) 0 [(0, .ref 8), (1, .int v0), (2, .int (0 : Int32))] [] G U = qm_run pm_m big m_45 n0 5 [(0, .ref 8), (1, .int v0), (2, .int (0 : Int32))] [.int v0, .ref 20] G U := rfl
theorem sg_ez_95 (big : Nat → List Value → qM → qW → qR) (n0 : Nat) (G : qM) (U : qW) (v0 : Int32) : qm_run pm_m big m_45 (n0 + 7) 8 [(0, .ref 8), (1, .int v0), (2, .int (0 : Int32))] [.int (1 : Int32)] G U = qm_run pm_m big m_45 n0 52 [(0, .ref 8), (1, .int v0), (2, .int (0 : Int32))] [.int v0, .ref 21] G U := rfl
theorem sg_ez_96 (big : Nat → List Value → qM → qW → qR) (n0 : Nat) (G : qM) (U : qW) (v0 : Int32) : qm_run pm_m big m_168 (n0 + 2) 0 [(0, .ref 70), (1, .int v0), (2, .int (0 : Int32))] [] G U = qm_run pm_m big m_168 n0 2 [(0, .ref 70), (1, .int v0), (2, .int (0 : Int32))] [.int v0, .ref 70] G U := rfl
theorem sg_ez_97 (big : Nat → List Value → qM → qW → qR) (n0 : Nat) (G : qM) (U : qW) (v0 : Int32) : qm_run pm_m big m_168 (n0 + 5) 5 [(0, .ref 70), (1, .int v0), (2, .int (0 : Int32))] [.int (1 : Int32)] G U = qm_run pm_m big m_168 n0 14 [(0, .ref 70), (1, .int v0), (2, .int (0 : Int32))] [.long (3 : Int64), .long (0 : Int64), .long (0 : Int64)] G U := rfl
theorem sg_ez_98 (big : Nat → List Value → qM → qW → qR) (n0 : Nat) (G : qM) (U : qW) (v0 : Int32) : qm_run pm_m big m_168 (n0 + 8) 17 [(0, .ref 70), (1, .int v0), (2, .int (0 : Int32))] [.int (1 : Int32)] G U = qm_run pm_m big m_168 n0 29 [(0, .ref 70), (1, .int v0), (2, .int (0 : Int32))] [.int ((0 : Int32) + v0), .ref 71] G U := rfl
theorem sg_ez_99 (big : Nat → List Value → qM → qW → qR) (n0 : Nat) (G : qM) (U : qW) (v0 : Int32) : qm_run pm_m big m_45 (n0 + 3) 0 [(0, .ref 8), (1, .int v0), (2, .int (1 : Int32))] [] G U = qm_run pm_m big m_45 n0 5 [(0, .ref 8), (1, .int v0), (2, .int (1 : Int32))] [.int v0, .ref 20] G U := rfl
theorem sg_ez_100 (big : Nat → List Value → qM → qW → qR) (n0 : Nat) (G : qM) (U : qW) (v0 : Int32) : qm_run pm_m big m_45 (n0 + 7) 8 [(0, .ref 8), (1, .int v0), (2, .int (1 : Int32))] [.int (1 : Int32)] G U = qm_run pm_m big m_45 n0 62 [(0, .ref 8), (1, .int v0), (2, .int (1 : Int32))] [.int v0, .ref 22] G U := rfl
theorem sg_ez_101 (big : Nat → List Value → qM → qW → qR) (n0 : Nat) (G : qM) (U : qW) (v0 : Int32) : qm_run pm_m big m_168 (n0 + 2) 0 [(0, .ref 70), (1, .int v0), (2, .int (1 : Int32))] [] G U = qm_run pm_m big m_168 n0 2 [(0, .ref 70), (1, .int v0), (2, .int (1 : Int32))] [.int v0, .ref 70] G U := rfl
theorem sg_ez_102 (big : Nat → List Value → qM → qW → qR) (n0 : Nat) (G : qM) (U : qW) (v0 : Int32) : qm_run pm_m big m_168 (n0 + 5) 5 [(0, .ref 70), (1, .int v0), (2, .int (1 : Int32))] [.int (1 : Int32)] G U = qm_run pm_m big m_168 n0 14 [(0, .ref 70), (1, .int v0), (2, .int (1 : Int32))] [.long (3 : Int64), .long (0 : Int64), .long (1 : Int64)] G U := rfl
theorem sg_ez_103 (big : Nat → List Value → qM → qW → qR) (n0 : Nat) (G : qM) (U : qW) (v0 : Int32) : qm_run pm_m big m_168 (n0 + 8) 17 [(0, .ref 70), (1, .int v0), (2, .int (1 : Int32))] [.int (1 : Int32)] G U = qm_run pm_m big m_168 n0 29 [(0, .ref 70), (1, .int v0), (2, .int (1 : Int32))] [.int ((5 : Int32) + v0), .ref 71] G U := rfl
theorem sg_ez_104 (big : Nat → List Value → qM → qW → qR) (n0 : Nat) (G : qM) (U : qW) (v0 : Int32) : qm_run pm_m big m_45 (n0 + 3) 0 [(0, .ref 8), (1, .int v0), (2, .int (2 : Int32))] [] G U = qm_run pm_m big m_45 n0 5 [(0, .ref 8), (1, .int v0), (2, .int (2 : Int32))] [.int v0, .ref 20] G U := rfl
theorem sg_ez_105 (big : Nat → List Value → qM → qW → qR) (n0 : Nat) (G : qM) (U : qW) (v0 : Int32) : qm_run pm_m big m_45 (n0 + 7) 8 [(0, .ref 8), (1, .int v0), (2, .int (2 : Int32))] [.int (1 : Int32)] G U = qm_run pm_m big m_45 n0 72 [(0, .ref 8), (1, .int v0), (2, .int (2 : Int32))] [.int v0, .ref 23] G U := rfl
theorem sg_ez_106 (big : Nat → List Value → qM → qW → qR) (n0 : Nat) (G : qM) (U : qW) (v0 : Int32) : qm_run pm_m big m_168 (n0 + 2) 0 [(0, .ref 70), (1, .int v0), (2, .int (2 : Int32))] [] G U = qm_run pm_m big m_168 n0 2 [(0, .ref 70), (1, .int v0), (2, .int (2 : Int32))] [.int v0, .ref 70] G U := rfl
theorem sg_ez_107 (big : Nat → List Value → qM → qW → qR) (n0 : Nat) (G : qM) (U : qW) (v0 : Int32) : qm_run pm_m big m_168 (n0 + 5) 5 [(0, .ref 70), (1, .int v0), (2, .int (2 : Int32))] [.int (1 : Int32)] G U = qm_run pm_m big m_168 n0 14 [(0, .ref 70), (1, .int v0), (2, .int (2 : Int32))] [.long (3 : Int64), .long (0 : Int64), .long (2 : Int64)] G U := rfl
theorem sg_ez_108 (big : Nat → List Value → qM → qW → qR) (n0 : Nat) (G : qM) (U : qW) (v0 : Int32) : qm_run pm_m big m_168 (n0 + 8) 17 [(0, .ref 70), (1, .int v0), (2, .int (2 : Int32))] [.int (1 : Int32)] G U = qm_run pm_m big m_168 n0 29 [(0, .ref 70), (1, .int v0), (2, .int (2 : Int32))] [.int ((10 : Int32) + v0), .ref 71] G U := rfl
theorem sg_ez_109 (big : Nat → List Value → qM → qW → qR) (n0 : Nat) (G : qM) (U : qW) (v0 : Int32) : qm_run pm_m big m_45 (n0 + 3) 0 [(0, .ref 8), (1, .int v0), (2, .int (3 : Int32))] [] G U = qm_run pm_m big m_45 n0 5 [(0, .ref 8), (1, .int v0), (2, .int (3 : Int32))] [.int v0, .ref 20] G U := rfl
theorem sg_ez_110 (big : Nat → List Value → qM → qW → qR) (n0 : Nat) (G : qM) (U : qW) (v0 : Int32) : qm_run pm_m big m_45 (n0 + 7) 8 [(0, .ref 8), (1, .int v0), (2, .int (3 : Int32))] [.int (1 : Int32)] G U = qm_run pm_m big m_45 n0 82 [(0, .ref 8), (1, .int v0), (2, .int (3 : Int32))] [.int v0, .ref 24] G U := rfl
theorem sg_ez_111 (big : Nat → List Value → qM → qW → qR) (n0 : Nat) (G : qM) (U : qW) (v0 : Int32) : qm_run pm_m big m_168 (n0 + 2) 0 [(0, .ref 70), (1, .int v0), (2, .int (3 : Int32))] [] G U = qm_run pm_m big m_168 n0 2 [(0, .ref 70), (1, .int v0), (2, .int (3 : Int32))] [.int v0, .ref 70] G U := rfl
theorem sg_ez_112 (big : Nat → List Value → qM → qW → qR) (n0 : Nat) (G : qM) (U : qW) (v0 : Int32) : qm_run pm_m big m_168 (n0 + 5) 5 [(0, .ref 70), (1, .int v0), (2, .int (3 : Int32))] [.int (1 : Int32)] G U = qm_run pm_m big m_168 n0 14 [(0, .ref 70), (1, .int v0), (2, .int (3 : Int32))] [.long (3 : Int64), .long (0 : Int64), .long (3 : Int64)] G U := rfl
theorem sg_ez_113 (big : Nat → List Value → qM → qW → qR) (n0 : Nat) (G : qM) (U : qW) (v0 : Int32) : qm_run pm_m big m_168 (n0 + 8) 17 [(0, .ref 70), (1, .int v0), (2, .int (3 : Int32))] [.int (1 : Int32)] G U = qm_run pm_m big m_168 n0 29 [(0, .ref 70), (1, .int v0), (2, .int (3 : Int32))] [.int ((15 : Int32) + v0), .ref 71] G U := rfl
theorem sg_ez_114 (big : Nat → List Value → qM → qW → qR) (n0 : Nat) (G : qM) (U : qW) : qm_run pm_m big m_128 (n0 + 18) 0 [(0, .ref 8), (1, .int (0 : Int32))] [] G U = qm_run pm_m big m_128 n0 30 [(0, .ref 8), (1, .int (0 : Int32)), (2, .int (((G 8 7) >>> ((0 : Int32) &&& 31)) &&& (1 : Int32)))] [.ref 20, .ref 45] G U := rfl
theorem sg_ez_115 (big : Nat → List Value → qM → qW → qR) (n0 : Nat) (G : qM) (U : qW) : qm_run pm_m big m_129 (n0 + 11) 0 [(0, .ref 8), (1, .int (0 : Int32))] [] G U = qm_run pm_m big m_129 n0 19 [(0, .ref 8), (1, .int (0 : Int32))] [.int (((G 8 7) >>> ((0 : Int32) &&& 31)) &&& (1 : Int32))] G U := rfl
theorem sg_ez_116 (big : Nat → List Value → qM → qW → qR) (n0 : Nat) (G : qM) (U : qW) : qm_run pm_m big m_129 (n0 + 6) 25 [(0, .ref 8), (1, .int (0 : Int32))] [] G U = qm_run pm_m big m_129 n0 35 [(0, .ref 8), (1, .int (0 : Int32))] [.ref 45, .ref 20] G U := rfl
theorem sg_ez_117 (big : Nat → List Value → qM → qW → qR) (n0 : Nat) (G : qM) (U : qW) : qm_run pm_m big m_128 (n0 + 18) 0 [(0, .ref 8), (1, .int (1 : Int32))] [] G U = qm_run pm_m big m_128 n0 30 [(0, .ref 8), (1, .int (1 : Int32)), (2, .int (((G 8 7) >>> ((1 : Int32) &&& 31)) &&& (1 : Int32)))] [.ref 20, .ref 53] G U := rfl
theorem sg_ez_118 (big : Nat → List Value → qM → qW → qR) (n0 : Nat) (G : qM) (U : qW) : qm_run pm_m big m_129 (n0 + 11) 0 [(0, .ref 8), (1, .int (1 : Int32))] [] G U = qm_run pm_m big m_129 n0 19 [(0, .ref 8), (1, .int (1 : Int32))] [.int (((G 8 7) >>> ((1 : Int32) &&& 31)) &&& (1 : Int32))] G U := rfl
theorem sg_ez_119 (big : Nat → List Value → qM → qW → qR) (n0 : Nat) (G : qM) (U : qW) : qm_run pm_m big m_129 (n0 + 6) 25 [(0, .ref 8), (1, .int (1 : Int32))] [] G U = qm_run pm_m big m_129 n0 35 [(0, .ref 8), (1, .int (1 : Int32))] [.ref 53, .ref 20] G U := rfl
theorem cg_mood {n : Nat} (g : qM) (u : qW) (hn : g 20 3 = Int32.ofNat n) (h6 : n ≤ 6) {p : Nat} (hp : p < n) {m : Nat} (hm : m ≤ 3) : q_BS 47 [.ref 8, .int (Int32.ofNat p), .int (Int32.ofNat m)] g u (some (.int (g 22 p)), q_up g 22 p (Int32.ofNat m), u) := by
  refine q_bx (mm := m_47) rfl (Nat.le_of_ble_eq_true rfl) rfl ?_
  refine q_step 3 5 [(0, .ref 8), (1, .int (Int32.ofNat p)), (2, .int (Int32.ofNat m))] [.int (Int32.ofNat p), .ref 20] g u (fun big n0 => sg_ez_1 big n0 g u (Int32.ofNat p) (Int32.ofNat m)) ?_
  refine q_call (M2 := 40) (rest := []) (b_hasOne1 g u hn h6 hp) (fun _ _ => rfl) ?_
  refine q_step 2 12 [(0, .ref 8), (1, .int (Int32.ofNat p)), (2, .int (Int32.ofNat m))] [.int (Int32.ofNat m)] g u (fun big n0 => sg_ez_2 big n0 g u (Int32.ofNat p) (Int32.ofNat m)) ?_
  refine q_call (M2 := 48) (rest := []) (b_isMood1 g u hm) (fun _ _ => rfl) ?_
  refine q_step 5 28 [(0, .ref 8), (1, .int (Int32.ofNat p)), (2, .int (Int32.ofNat m))] [.int (Int32.ofNat p), .ref 22] g u (fun big n0 => sg_ez_3 big n0 g u (Int32.ofNat p) (Int32.ofNat m)) ?_
  refine q_iald (j := p) (q_ixn (by omega) (by omega)) rfl rfl ?_
  refine q_step 6 39 [(0, .ref 8), (1, .int (Int32.ofNat p)), (2, .int (Int32.ofNat m)), (3, .int (g 22 p))] [.int (Int32.ofNat m), .int (Int32.ofNat p), .ref 22] g u (fun big n0 => sg_ez_4 big n0 g u (Int32.ofNat p) (Int32.ofNat m) (g 22 p)) ?_
  refine q_iast (j := p) (q_ixn (by omega) (by omega)) rfl rfl ?_
  refine q_ret 2 (some (.int (g 22 p)), (q_up g 22 p (Int32.ofNat m)), u) (fun _ _ => rfl) ?_
  rfl
theorem rg_mood {n : Nat} (g : qM) (u : qW) (hn : g 70 4 = Int32.ofNat n) (h6 : n ≤ 5) {p : Nat} (hp : p < n) {m : Nat} (hm : m ≤ 3) : q_BS 174 [.ref 70, .int (Int32.ofNat p), .int (Int32.ofNat m)] g u (some (.int (g 71 (5 + p))), q_up g 71 (5 + p) (Int32.ofNat m), u) := by
  refine q_bx (mm := m_174) rfl (Nat.le_of_ble_eq_true rfl) rfl ?_
  refine q_step 2 2 [(0, .ref 70), (1, .int (Int32.ofNat p)), (2, .int (Int32.ofNat m))] [.int (Int32.ofNat p), .ref 70] g u (fun big n0 => sg_ez_5 big n0 g u (Int32.ofNat p) (Int32.ofNat m)) ?_
  refine q_call (M2 := 169) (rest := []) (b_risOne1 g u hn (by omega) hp) (fun _ _ => rfl) ?_
  refine q_step 5 14 [(0, .ref 70), (1, .int (Int32.ofNat p)), (2, .int (Int32.ofNat m))] [.long (3 : Int64), .long (0 : Int64), .long (Int32.toInt64 (Int32.ofNat m))] g u (fun big n0 => sg_ez_6 big n0 g u (Int32.ofNat p) (Int32.ofNat m)) ?_
  refine q_call (M2 := 149) (rest := []) (b_in1 (m := m) (lo := 0) (hi := 3) g u (by omega) (by omega) (by omega)) (fun _ _ => rfl) ?_
  refine q_step 6 25 [(0, .ref 70), (1, .int (Int32.ofNat p)), (2, .int (Int32.ofNat m))] [.int (Int32.ofNat m), .int ((5 : Int32) + (Int32.ofNat p)), .ref 70] g u (fun big n0 => sg_ez_7 big n0 g u (Int32.ofNat p) (Int32.ofNat m)) ?_
  refine q_call (M2 := 175) (rest := []) (b_rbec ((5 : Int32) + (Int32.ofNat p)) (Int32.ofNat m) (5 + p) g u (s_rixn (K := 5) (i := p) (by omega))) (fun _ _ => rfl) ?_
  refine q_ret 2 (some (.int (g 71 (5 + p))), (q_up g 71 (5 + p) (Int32.ofNat m)), u) (fun _ _ => rfl) ?_
  rfl
theorem cg_hold0 {n : Nat} (g : qM) (u : qW) (hn : g 20 3 = Int32.ofNat n) (h6 : n ≤ 6) {p : Nat} (hp : p < n) : q_BS 51 [.ref 8, .int (Int32.ofNat p), .int (0 : Int32)] g u (some (.int (g 23 p)), q_up g 23 p 0, u) := by
  refine q_bx (mm := m_51) rfl (Nat.le_of_ble_eq_true rfl) rfl ?_
  refine q_step 3 5 [(0, .ref 8), (1, .int (Int32.ofNat p)), (2, .int (0 : Int32))] [.int (Int32.ofNat p), .ref 20] g u (fun big n0 => sg_ez_8 big n0 g u (Int32.ofNat p)) ?_
  refine q_call (M2 := 40) (rest := []) (b_hasOne1 g u hn h6 hp) (fun _ _ => rfl) ?_
  refine q_step 5 21 [(0, .ref 8), (1, .int (Int32.ofNat p)), (2, .int (0 : Int32))] [.int (Int32.ofNat p), .ref 23] g u (fun big n0 => sg_ez_9 big n0 g u (Int32.ofNat p)) ?_
  refine q_iald (j := p) (q_ixn (by omega) (by omega)) rfl rfl ?_
  refine q_step 8 40 [(0, .ref 8), (1, .int (Int32.ofNat p)), (2, .int (0 : Int32)), (3, .int (g 23 p))] [.int (0 : Int32), .int (Int32.ofNat p), .ref 23] g u (fun big n0 => sg_ez_10 big n0 g u (Int32.ofNat p) (g 23 p)) ?_
  refine q_iast (j := p) (q_ixn (by omega) (by omega)) rfl rfl ?_
  refine q_ret 2 (some (.int (g 23 p)), (q_up g 23 p (0 : Int32)), u) (fun _ _ => rfl) ?_
  rfl
theorem rg_hold0 {n : Nat} (g : qM) (u : qW) (hn : g 70 4 = Int32.ofNat n) (h6 : n ≤ 5) {p : Nat} (hp : p < n) : q_BS 178 [.ref 70, .int (Int32.ofNat p), .int (0 : Int32)] g u (some (.int (g 71 (10 + p))), q_up g 71 (10 + p) 0, u) := by
  refine q_bx (mm := m_178) rfl (Nat.le_of_ble_eq_true rfl) rfl ?_
  refine q_step 2 2 [(0, .ref 70), (1, .int (Int32.ofNat p)), (2, .int (0 : Int32))] [.int (Int32.ofNat p), .ref 70] g u (fun big n0 => sg_ez_11 big n0 g u (Int32.ofNat p)) ?_
  refine q_call (M2 := 169) (rest := []) (b_risOne1 g u hn (by omega) hp) (fun _ _ => rfl) ?_
  refine q_step 6 14 [(0, .ref 70), (1, .int (Int32.ofNat p)), (2, .int (0 : Int32))] [.int (0 : Int32), .int ((10 : Int32) + (Int32.ofNat p)), .ref 70] g u (fun big n0 => sg_ez_12 big n0 g u (Int32.ofNat p)) ?_
  refine q_call (M2 := 164) (rest := [.int ((10 : Int32) + (Int32.ofNat p)), .ref 70]) (b_flag0 _ _) (fun _ _ => rfl) ?_
  refine q_call (M2 := 175) (rest := []) (b_rbec ((10 : Int32) + (Int32.ofNat p)) (0 : Int32) (10 + p) g u (s_rixn (K := 10) (i := p) (by omega))) (fun _ _ => rfl) ?_
  refine q_ret 2 (some (.int (g 71 (10 + p))), (q_up g 71 (10 + p) (0 : Int32)), u) (fun _ _ => rfl) ?_
  rfl
theorem cg_hold1 {n : Nat} (g : qM) (u : qW) (hn : g 20 3 = Int32.ofNat n) (h6 : n ≤ 6) {p : Nat} (hp : p < n) : q_BS 51 [.ref 8, .int (Int32.ofNat p), .int (1 : Int32)] g u (some (.int (g 23 p)), q_up g 23 p 1, u) := by
  refine q_bx (mm := m_51) rfl (Nat.le_of_ble_eq_true rfl) rfl ?_
  refine q_step 3 5 [(0, .ref 8), (1, .int (Int32.ofNat p)), (2, .int (1 : Int32))] [.int (Int32.ofNat p), .ref 20] g u (fun big n0 => sg_ez_13 big n0 g u (Int32.ofNat p)) ?_
  refine q_call (M2 := 40) (rest := []) (b_hasOne1 g u hn h6 hp) (fun _ _ => rfl) ?_
  refine q_step 5 21 [(0, .ref 8), (1, .int (Int32.ofNat p)), (2, .int (1 : Int32))] [.int (Int32.ofNat p), .ref 23] g u (fun big n0 => sg_ez_14 big n0 g u (Int32.ofNat p)) ?_
  refine q_iald (j := p) (q_ixn (by omega) (by omega)) rfl rfl ?_
  refine q_step 9 40 [(0, .ref 8), (1, .int (Int32.ofNat p)), (2, .int (1 : Int32)), (3, .int (g 23 p))] [.int (1 : Int32), .int (Int32.ofNat p), .ref 23] g u (fun big n0 => sg_ez_15 big n0 g u (Int32.ofNat p) (g 23 p)) ?_
  refine q_iast (j := p) (q_ixn (by omega) (by omega)) rfl rfl ?_
  refine q_ret 2 (some (.int (g 23 p)), (q_up g 23 p (1 : Int32)), u) (fun _ _ => rfl) ?_
  rfl
theorem rg_hold1 {n : Nat} (g : qM) (u : qW) (hn : g 70 4 = Int32.ofNat n) (h6 : n ≤ 5) {p : Nat} (hp : p < n) : q_BS 178 [.ref 70, .int (Int32.ofNat p), .int (1 : Int32)] g u (some (.int (g 71 (10 + p))), q_up g 71 (10 + p) 1, u) := by
  refine q_bx (mm := m_178) rfl (Nat.le_of_ble_eq_true rfl) rfl ?_
  refine q_step 2 2 [(0, .ref 70), (1, .int (Int32.ofNat p)), (2, .int (1 : Int32))] [.int (Int32.ofNat p), .ref 70] g u (fun big n0 => sg_ez_16 big n0 g u (Int32.ofNat p)) ?_
  refine q_call (M2 := 169) (rest := []) (b_risOne1 g u hn (by omega) hp) (fun _ _ => rfl) ?_
  refine q_step 6 14 [(0, .ref 70), (1, .int (Int32.ofNat p)), (2, .int (1 : Int32))] [.int (1 : Int32), .int ((10 : Int32) + (Int32.ofNat p)), .ref 70] g u (fun big n0 => sg_ez_17 big n0 g u (Int32.ofNat p)) ?_
  refine q_call (M2 := 164) (rest := [.int ((10 : Int32) + (Int32.ofNat p)), .ref 70]) (b_flag1 _ _) (fun _ _ => rfl) ?_
  refine q_call (M2 := 175) (rest := []) (b_rbec ((10 : Int32) + (Int32.ofNat p)) (1 : Int32) (10 + p) g u (s_rixn (K := 10) (i := p) (by omega))) (fun _ _ => rfl) ?_
  refine q_ret 2 (some (.int (g 71 (10 + p))), (q_up g 71 (10 + p) (1 : Int32)), u) (fun _ _ => rfl) ?_
  rfl
theorem cg_goaln {n : Nat} (g : qM) (u : qW) (hn : g 20 3 = Int32.ofNat n) (h6 : n ≤ 6) {p : Nat} (hp : p < n) : q_BS 52 [.ref 8, .int (Int32.ofNat p), .int (Int8.toInt32 (Int8.ofInt (-4)))] g u (some (.int (g 24 p)), q_up g 24 p (Int8.toInt32 (Int8.ofInt (-4))), u) := by
  refine q_bx (mm := m_52) rfl (Nat.le_of_ble_eq_true rfl) rfl ?_
  refine q_step 3 5 [(0, .ref 8), (1, .int (Int32.ofNat p)), (2, .int (Int8.toInt32 (Int8.ofInt (-4))))] [.int (Int32.ofNat p), .ref 20] g u (fun big n0 => sg_ez_18 big n0 g u (Int32.ofNat p)) ?_
  refine q_call (M2 := 40) (rest := []) (b_hasOne1 g u hn h6 hp) (fun _ _ => rfl) ?_
  refine q_step 8 38 [(0, .ref 8), (1, .int (Int32.ofNat p)), (2, .int (Int8.toInt32 (Int8.ofInt (-4))))] [.int (Int32.ofNat p), .ref 24] g u (fun big n0 => sg_ez_19 big n0 g u (Int32.ofNat p)) ?_
  refine q_iald (j := p) (q_ixn (by omega) (by omega)) rfl rfl ?_
  refine q_step 6 49 [(0, .ref 8), (1, .int (Int32.ofNat p)), (2, .int (Int8.toInt32 (Int8.ofInt (-4)))), (3, .int (g 24 p))] [.int (Int8.toInt32 (Int8.ofInt (-4))), .int (Int32.ofNat p), .ref 24] g u (fun big n0 => sg_ez_20 big n0 g u (Int32.ofNat p) (g 24 p)) ?_
  refine q_iast (j := p) (q_ixn (by omega) (by omega)) rfl rfl ?_
  refine q_ret 2 (some (.int (g 24 p)), (q_up g 24 p (Int8.toInt32 (Int8.ofInt (-4)))), u) (fun _ _ => rfl) ?_
  rfl
theorem rg_goaln {n : Nat} (g : qM) (u : qW) (hn : g 70 4 = Int32.ofNat n) (h6 : n ≤ 5) {p : Nat} (hp : p < n) : q_BS 179 [.ref 70, .int (Int32.ofNat p), .int (Int8.toInt32 (Int8.ofInt (-4)))] g u (some (.int (g 71 (15 + p))), q_up g 71 (15 + p) (Int8.toInt32 (Int8.ofInt (-4))), u) := by
  refine q_bx (mm := m_179) rfl (Nat.le_of_ble_eq_true rfl) rfl ?_
  refine q_step 2 2 [(0, .ref 70), (1, .int (Int32.ofNat p)), (2, .int (Int8.toInt32 (Int8.ofInt (-4))))] [.int (Int32.ofNat p), .ref 70] g u (fun big n0 => sg_ez_21 big n0 g u (Int32.ofNat p)) ?_
  refine q_call (M2 := 169) (rest := []) (b_risOne1 g u hn (by omega) hp) (fun _ _ => rfl) ?_
  refine q_step 9 28 [(0, .ref 70), (1, .int (Int32.ofNat p)), (2, .int (Int8.toInt32 (Int8.ofInt (-4))))] [.int (Int8.toInt32 (Int8.ofInt (-4))), .int ((15 : Int32) + (Int32.ofNat p)), .ref 70] g u (fun big n0 => sg_ez_22 big n0 g u (Int32.ofNat p)) ?_
  refine q_call (M2 := 175) (rest := []) (b_rbec ((15 : Int32) + (Int32.ofNat p)) (Int8.toInt32 (Int8.ofInt (-4))) (15 + p) g u (s_rixn (K := 15) (i := p) (by omega))) (fun _ _ => rfl) ?_
  refine q_ret 2 (some (.int (g 71 (15 + p))), (q_up g 71 (15 + p) (Int8.toInt32 (Int8.ofInt (-4)))), u) (fun _ _ => rfl) ?_
  rfl
theorem cg_goalc {n : Nat} (g : qM) (u : qW) (hn : g 20 3 = Int32.ofNat n) (h6 : n ≤ 6) {p : Nat} (hp : p < n) {c N : Nat} (hN : g 20 0 * g 20 1 = Int32.ofNat N) (h25 : N ≤ 25) (hc : c < N) : q_BS 52 [.ref 8, .int (Int32.ofNat p), .int (Int32.ofNat c)] g u (some (.int (g 24 p)), q_up g 24 p (Int32.ofNat c), u) := by
  refine q_bx (mm := m_52) rfl (Nat.le_of_ble_eq_true rfl) rfl ?_
  refine q_step 3 5 [(0, .ref 8), (1, .int (Int32.ofNat p)), (2, .int (Int32.ofNat c))] [.int (Int32.ofNat p), .ref 20] g u (fun big n0 => sg_ez_23 big n0 g u (Int32.ofNat p) (Int32.ofNat c)) ?_
  refine q_call (M2 := 40) (rest := []) (b_hasOne1 g u hn h6 hp) (fun _ _ => rfl) ?_
  refine q_step 3 14 [(0, .ref 8), (1, .int (Int32.ofNat p)), (2, .int (Int32.ofNat c))] [.int (Int8.toInt32 (Int8.ofInt (-4))), .int (Int32.ofNat c)] g u (fun big n0 => sg_ez_24 big n0 g u (Int32.ofNat p) (Int32.ofNat c)) ?_
  refine q_ic_eq rfl (fun hc0 => absurd (show (Int32.ofNat c) = (Int8.toInt32 (Int8.ofInt (-4))) from hc0) (q_none_ne (by omega))) (fun (hc0 : ¬ ((Int32.ofNat c) = (Int8.toInt32 (Int8.ofInt (-4))))) => ?_)
  refine q_step 3 22 [(0, .ref 8), (1, .int (Int32.ofNat p)), (2, .int (Int32.ofNat c))] [.int (Int32.ofNat c), .ref 20] g u (fun big n0 => sg_ez_25 big n0 g u (Int32.ofNat p) (Int32.ofNat c)) ?_
  refine q_call (M2 := 38) (rest := []) (b_hasCell1 g u hN h25 hc) (fun _ _ => rfl) ?_
  refine q_step 5 38 [(0, .ref 8), (1, .int (Int32.ofNat p)), (2, .int (Int32.ofNat c))] [.int (Int32.ofNat p), .ref 24] g u (fun big n0 => sg_ez_26 big n0 g u (Int32.ofNat p) (Int32.ofNat c)) ?_
  refine q_iald (j := p) (q_ixn (by omega) (by omega)) rfl rfl ?_
  refine q_step 6 49 [(0, .ref 8), (1, .int (Int32.ofNat p)), (2, .int (Int32.ofNat c)), (3, .int (g 24 p))] [.int (Int32.ofNat c), .int (Int32.ofNat p), .ref 24] g u (fun big n0 => sg_ez_27 big n0 g u (Int32.ofNat p) (Int32.ofNat c) (g 24 p)) ?_
  refine q_iast (j := p) (q_ixn (by omega) (by omega)) rfl rfl ?_
  refine q_ret 2 (some (.int (g 24 p)), (q_up g 24 p (Int32.ofNat c)), u) (fun _ _ => rfl) ?_
  rfl
theorem rg_goalc {n : Nat} (g : qM) (u : qW) (hn : g 70 4 = Int32.ofNat n) (h6 : n ≤ 5) {p : Nat} (hp : p < n) {c N : Nat} (hN : g 70 2 * g 70 3 = Int32.ofNat N) (h25 : N ≤ 25) (hc : c < N) : q_BS 179 [.ref 70, .int (Int32.ofNat p), .int (Int32.ofNat c)] g u (some (.int (g 71 (15 + p))), q_up g 71 (15 + p) (Int32.ofNat c), u) := by
  refine q_bx (mm := m_179) rfl (Nat.le_of_ble_eq_true rfl) rfl ?_
  refine q_step 2 2 [(0, .ref 70), (1, .int (Int32.ofNat p)), (2, .int (Int32.ofNat c))] [.int (Int32.ofNat p), .ref 70] g u (fun big n0 => sg_ez_28 big n0 g u (Int32.ofNat p) (Int32.ofNat c)) ?_
  refine q_call (M2 := 169) (rest := []) (b_risOne1 g u hn (by omega) hp) (fun _ _ => rfl) ?_
  refine q_step 3 11 [(0, .ref 70), (1, .int (Int32.ofNat p)), (2, .int (Int32.ofNat c))] [.int (Int8.toInt32 (Int8.ofInt (-4))), .int (Int32.ofNat c)] g u (fun big n0 => sg_ez_29 big n0 g u (Int32.ofNat p) (Int32.ofNat c)) ?_
  refine q_ic_eq rfl (fun hc0 => absurd (show (Int32.ofNat c) = (Int8.toInt32 (Int8.ofInt (-4))) from hc0) (q_none_ne (by omega))) (fun (hc0 : ¬ ((Int32.ofNat c) = (Int8.toInt32 (Int8.ofInt (-4))))) => ?_)
  refine q_step 2 16 [(0, .ref 70), (1, .int (Int32.ofNat p)), (2, .int (Int32.ofNat c))] [.int (Int32.ofNat c), .ref 70] g u (fun big n0 => sg_ez_30 big n0 g u (Int32.ofNat p) (Int32.ofNat c)) ?_
  refine q_call (M2 := 171) (rest := []) (b_risCell1 g u hN h25 hc) (fun _ _ => rfl) ?_
  refine q_step 6 28 [(0, .ref 70), (1, .int (Int32.ofNat p)), (2, .int (Int32.ofNat c))] [.int (Int32.ofNat c), .int ((15 : Int32) + (Int32.ofNat p)), .ref 70] g u (fun big n0 => sg_ez_31 big n0 g u (Int32.ofNat p) (Int32.ofNat c)) ?_
  refine q_call (M2 := 175) (rest := []) (b_rbec ((15 : Int32) + (Int32.ofNat p)) (Int32.ofNat c) (15 + p) g u (s_rixn (K := 15) (i := p) (by omega))) (fun _ _ => rfl) ?_
  refine q_ret 2 (some (.int (g 71 (15 + p))), (q_up g 71 (15 + p) (Int32.ofNat c)), u) (fun _ _ => rfl) ?_
  rfl
theorem cg_pull (g : qM) (u : qW) {d v : Nat} (hd : 1 ≤ d ∧ d ≤ 4) (hv : v ≤ 9) : q_BS 54 [.ref 8, .int (Int32.ofNat d), .int (Int32.ofNat v)] g u (some (.int (g 25 d)), q_up g 25 d (Int32.ofNat v), u) := by
  refine q_bx (mm := m_54) rfl (Nat.le_of_ble_eq_true rfl) rfl ?_
  refine q_step 2 2 [(0, .ref 8), (1, .int (Int32.ofNat d)), (2, .int (Int32.ofNat v))] [.int (1 : Int32), .int (Int32.ofNat d)] g u (fun big n0 => sg_ez_32 big n0 g u (Int32.ofNat d) (Int32.ofNat v)) ?_
  refine q_ic_lt rfl (fun hc0 => absurd (show (Int32.ofNat d) < (1 : Int32) from hc0) (fun z => absurd ((q_lt (i := d) (j := 1) (by omega) (by omega)).mp z) (by omega))) (fun (hc0 : ¬ ((Int32.ofNat d) < (1 : Int32))) => ?_)
  refine q_step 2 7 [(0, .ref 8), (1, .int (Int32.ofNat d)), (2, .int (Int32.ofNat v))] [.int (4 : Int32), .int (Int32.ofNat d)] g u (fun big n0 => sg_ez_33 big n0 g u (Int32.ofNat d) (Int32.ofNat v)) ?_
  refine q_ic_gt rfl (fun hc1 => absurd (show (4 : Int32) < (Int32.ofNat d) from hc1) (fun z => absurd ((q_lt (i := 4) (j := d) (by omega) (by omega)).mp z) (by omega))) (fun (hc1 : ¬ ((4 : Int32) < (Int32.ofNat d))) => ?_)
  refine q_step 1 11 [(0, .ref 8), (1, .int (Int32.ofNat d)), (2, .int (Int32.ofNat v))] [.int (Int32.ofNat v)] g u (fun big n0 => sg_ez_34 big n0 g u (Int32.ofNat d) (Int32.ofNat v)) ?_
  refine q_if_lt rfl (fun hc2 => absurd (show (Int32.ofNat v) < 0 from hc2) (fun z => absurd ((q_lt (i := v) (j := 0) (by omega) (by omega)).mp z) (by omega))) (fun (hc2 : ¬ ((Int32.ofNat v) < 0)) => ?_)
  refine q_step 2 17 [(0, .ref 8), (1, .int (Int32.ofNat d)), (2, .int (Int32.ofNat v))] [.int (9 : Int32), .int (Int32.ofNat v)] g u (fun big n0 => sg_ez_35 big n0 g u (Int32.ofNat d) (Int32.ofNat v)) ?_
  refine q_ic_le rfl (fun (hc3 : (Int32.ofNat v) ≤ (9 : Int32)) => ?_) (fun hc3 => absurd (show (Int32.ofNat v) ≤ (9 : Int32) from (q_le (i := v) (j := 9) (by omega) (by omega)).mpr (by omega)) hc3)
  refine q_step 4 30 [(0, .ref 8), (1, .int (Int32.ofNat d)), (2, .int (Int32.ofNat v))] [.int (Int32.ofNat d), .ref 25] g u (fun big n0 => sg_ez_36 big n0 g u (Int32.ofNat d) (Int32.ofNat v)) ?_
  refine q_iald (j := d) (q_ixn (by omega) (by omega)) rfl rfl ?_
  refine q_step 6 41 [(0, .ref 8), (1, .int (Int32.ofNat d)), (2, .int (Int32.ofNat v)), (3, .int (g 25 d))] [.int (Int32.ofNat v), .int (Int32.ofNat d), .ref 25] g u (fun big n0 => sg_ez_37 big n0 g u (Int32.ofNat d) (Int32.ofNat v) (g 25 d)) ?_
  refine q_iast (j := d) (q_ixn (by omega) (by omega)) rfl rfl ?_
  refine q_ret 2 (some (.int (g 25 d)), (q_up g 25 d (Int32.ofNat v)), u) (fun _ _ => rfl) ?_
  rfl
theorem rg_pull (g : qM) (u : qW) {d v : Nat} (hd : 1 ≤ d ∧ d ≤ 4) (hv : v ≤ 9) : q_BS 181 [.ref 70, .int (Int32.ofNat d), .int (Int32.ofNat v)] g u (some (.int (g 71 (20 + d))), q_up g 71 (20 + d) (Int32.ofNat v), u) := by
  refine q_bx (mm := m_181) rfl (Nat.le_of_ble_eq_true rfl) rfl ?_
  have hix : q_ix (((21 : Int32) + Int32.ofNat d) - (1 : Int32)) (20 + d) 132 := by
    rw [show (21 : Int32) = Int32.ofNat 21 from rfl, show (1 : Int32) = Int32.ofNat 1 from rfl, q_add, q_sb (by omega) (by omega), show 21 + d - 1 = 20 + d by omega]
    exact q_ixn (by omega) (by omega)
  refine q_step 4 6 [(0, .ref 70), (1, .int (Int32.ofNat d)), (2, .int (Int32.ofNat v))] [.long (4 : Int64), .long (1 : Int64), .long (Int32.toInt64 (Int32.ofNat d))] g u (fun big n0 => sg_ez_38 big n0 g u (Int32.ofNat d) (Int32.ofNat v)) ?_
  refine q_call (M2 := 149) (rest := []) (b_in1 (m := d) (lo := 1) (hi := 4) g u (by omega) (by omega) (by omega)) (fun _ _ => rfl) ?_
  refine q_step 5 18 [(0, .ref 70), (1, .int (Int32.ofNat d)), (2, .int (Int32.ofNat v))] [.long (9 : Int64), .long (0 : Int64), .long (Int32.toInt64 (Int32.ofNat v))] g u (fun big n0 => sg_ez_39 big n0 g u (Int32.ofNat d) (Int32.ofNat v)) ?_
  refine q_call (M2 := 149) (rest := []) (b_in1 (m := v) (lo := 0) (hi := 9) g u (by omega) (by omega) (by omega)) (fun _ _ => rfl) ?_
  refine q_step 8 32 [(0, .ref 70), (1, .int (Int32.ofNat d)), (2, .int (Int32.ofNat v))] [.int (Int32.ofNat v), .int (((21 : Int32) + (Int32.ofNat d)) - (1 : Int32)), .ref 70] g u (fun big n0 => sg_ez_40 big n0 g u (Int32.ofNat d) (Int32.ofNat v)) ?_
  refine q_call (M2 := 175) (rest := []) (b_rbec (((21 : Int32) + (Int32.ofNat d)) - (1 : Int32)) (Int32.ofNat v) (20 + d) g u hix) (fun _ _ => rfl) ?_
  refine q_ret 2 (some (.int (g 71 (20 + d))), (q_up g 71 (20 + d) (Int32.ofNat v)), u) (fun _ _ => rfl) ?_
  rfl
theorem cg_press (g : qM) (u : qW) {v : Nat} (hv : v ≤ 4) : q_BS 55 [.ref 8, .int (Int32.ofNat v)] g u (some (.int (g 20 4)), q_up g 20 4 (Int32.ofNat v), u) := by
  refine q_bx (mm := m_55) rfl (Nat.le_of_ble_eq_true rfl) rfl ?_
  refine q_step 1 1 [(0, .ref 8), (1, .int (Int32.ofNat v))] [.int (Int32.ofNat v)] g u (fun big n0 => sg_ez_41 big n0 g u (Int32.ofNat v)) ?_
  refine q_if_lt rfl (fun hc0 => absurd (show (Int32.ofNat v) < 0 from hc0) (fun z => absurd ((q_lt (i := v) (j := 0) (by omega) (by omega)).mp z) (by omega))) (fun (hc0 : ¬ ((Int32.ofNat v) < 0)) => ?_)
  refine q_step 2 6 [(0, .ref 8), (1, .int (Int32.ofNat v))] [.int (4 : Int32), .int (Int32.ofNat v)] g u (fun big n0 => sg_ez_42 big n0 g u (Int32.ofNat v)) ?_
  refine q_ic_le rfl (fun (hc1 : (Int32.ofNat v) ≤ (4 : Int32)) => ?_) (fun hc1 => absurd (show (Int32.ofNat v) ≤ (4 : Int32) from (q_le (i := v) (j := 4) (by omega) (by omega)).mpr (by omega)) hc1)
  refine q_ret 10 (some (.int (g 20 4)), (q_up g 20 4 (Int32.ofNat v)), u) (fun _ _ => rfl) ?_
  rfl
theorem rg_press (g : qM) (u : qW) {v : Nat} (hv : v ≤ 4) : q_BS 182 [.ref 70, .int (Int32.ofNat v)] g u (some (.int (g 71 25)), q_up g 71 25 (Int32.ofNat v), u) := by
  refine q_bx (mm := m_182) rfl (Nat.le_of_ble_eq_true rfl) rfl ?_
  refine q_step 4 6 [(0, .ref 70), (1, .int (Int32.ofNat v))] [.long (4 : Int64), .long (0 : Int64), .long (Int32.toInt64 (Int32.ofNat v))] g u (fun big n0 => sg_ez_43 big n0 g u (Int32.ofNat v)) ?_
  refine q_call (M2 := 149) (rest := []) (b_in1 (m := v) (lo := 0) (hi := 4) g u (by omega) (by omega) (by omega)) (fun _ _ => rfl) ?_
  refine q_step 4 16 [(0, .ref 70), (1, .int (Int32.ofNat v))] [.int (Int32.ofNat v), .int (25 : Int32), .ref 70] g u (fun big n0 => sg_ez_44 big n0 g u (Int32.ofNat v)) ?_
  refine q_call (M2 := 175) (rest := []) (b_rbec (25 : Int32) (Int32.ofNat v) 25 g u (q_ixn (j := 25) (n := 132) (by decide) (by decide))) (fun _ _ => rfl) ?_
  refine q_ret 2 (some (.int (g 71 25)), (q_up g 71 25 (Int32.ofNat v)), u) (fun _ _ => rfl) ?_
  rfl
theorem cg_cell {n : Nat} (g : qM) (u : qW) (hn : g 20 3 = Int32.ofNat n) (h6 : n ≤ 6) {c N : Nat} (hN : g 20 0 * g 20 1 = Int32.ofNat N) (h25 : N ≤ 25) (hc : c < N) : q_BS 46 [.ref 8, .int (Int32.ofNat c)] g u (some (.int (s_w1 (g 21) (Int32.ofNat c) n 0)), g, u) := by
  refine q_bx (mm := m_46) rfl (Nat.le_of_ble_eq_true rfl) rfl ?_
  refine q_step 3 5 [(0, .ref 8), (1, .int (Int32.ofNat c))] [.int (Int32.ofNat c), .ref 20] g u (fun big n0 => sg_ez_45 big n0 g u (Int32.ofNat c)) ?_
  refine q_call (M2 := 38) (rest := []) (b_hasCell1 g u hN h25 hc) (fun _ _ => rfl) ?_
  refine q_step 4 16 [(0, .ref 8), (1, .int (Int32.ofNat c))] [.int (Int32.ofNat c), .ref 20] g u (fun big n0 => sg_ez_46 big n0 g u (Int32.ofNat c)) ?_
  refine q_call (M2 := 30) (rest := []) (b_who20 (Int32.ofNat c) g u hn h6) (fun _ _ => rfl) ?_
  refine q_ret 2 (some (.int (s_w1 (g 21) (Int32.ofNat c) n 0)), g, u) (fun _ _ => rfl) ?_
  rfl
theorem rg_cell {n W H : Nat} {g r : qM} (u : qW) (h : w_ok n W H r) (hs : w_sm n (s_start g) r) (hn : g 70 4 = Int32.ofNat n) (h6 : n ≤ 5) {c N : Nat} (hN : g 70 2 * g 70 3 = Int32.ofNat N) (h25 : N ≤ 25) (hc : c < N) : q_BS 170 [.ref 70, .int (Int32.ofNat c)] g u (some (.int (f_who n r (Int32.ofNat c))), s_start g, u) := by
  refine q_bx (mm := m_170) rfl (Nat.le_of_ble_eq_true rfl) rfl ?_
  refine q_step 2 2 [(0, .ref 70), (1, .int (Int32.ofNat c))] [.int (Int32.ofNat c), .ref 70] g u (fun big n0 => sg_ez_47 big n0 g u (Int32.ofNat c)) ?_
  refine q_call (M2 := 171) (rest := []) (b_risCell1 g u hN h25 hc) (fun _ _ => rfl) ?_
  refine q_step 2 11 [(0, .ref 70), (1, .int (Int32.ofNat c))] [.ref 70] g u (fun big n0 => sg_ez_48 big n0 g u (Int32.ofNat c)) ?_
  refine q_call (M2 := 172) (rest := []) (b_starts g u) (fun _ _ => rfl) ?_
  refine q_step 2 16 [(0, .ref 70), (1, .int (Int32.ofNat c))] [.int (Int32.ofNat c), .ref 70] (s_start g) u (fun big n0 => sg_ez_49 big n0 (s_start g) u (Int32.ofNat c)) ?_
  have hwho := b_rwho (s_start g) u (Int32.ofNat c) (w_w0 h hs).1 (w_w0 h hs).2.1
  rw [w_who_r h hs] at hwho
  refine q_call (M2 := 173) (rest := []) (hwho) (fun _ _ => rfl) ?_
  refine q_ret 1 (some (.int (f_who n r (Int32.ofNat c))), (s_start g), u) (fun _ _ => rfl) ?_
  rfl
theorem cg_put0 {n W H : Nat} {g r : qM} (u : qW) (h : w_ok n W H r) (hcs : w_cs 20 n g r) (hn : g 20 3 = Int32.ofNat n) (h6 : n ≤ 6) {c N : Nat} (hN : g 20 0 * g 20 1 = Int32.ofNat N) (h25 : N ≤ 25) (hc : c < N) {p : Nat} (hp : p < n) (hcan : p_can n r p c = 0) : q_BS 49 [.ref 8, .int (Int32.ofNat p), .int (Int32.ofNat c)] g u (some (.int (Int32.ofInt (-1))), g, u) := by
  refine q_bx (mm := m_49) rfl (Nat.le_of_ble_eq_true rfl) rfl ?_
  refine q_step 3 5 [(0, .ref 8), (1, .int (Int32.ofNat p)), (2, .int (Int32.ofNat c))] [.int (Int32.ofNat p), .ref 20] g u (fun big n0 => sg_ez_50 big n0 g u (Int32.ofNat p) (Int32.ofNat c)) ?_
  refine q_call (M2 := 40) (rest := []) (b_hasOne1 g u hn h6 hp) (fun _ _ => rfl) ?_
  refine q_step 4 16 [(0, .ref 8), (1, .int (Int32.ofNat p)), (2, .int (Int32.ofNat c))] [.int (Int32.ofNat c), .ref 20] g u (fun big n0 => sg_ez_51 big n0 g u (Int32.ofNat p) (Int32.ofNat c)) ?_
  refine q_call (M2 := 38) (rest := []) (b_hasCell1 g u hN h25 hc) (fun _ _ => rfl) ?_
  refine q_step 5 28 [(0, .ref 8), (1, .int (Int32.ofNat p)), (2, .int (Int32.ofNat c))] [.int (Int32.ofNat c), .int (Int32.ofNat p), .ref 20] g u (fun big n0 => sg_ez_52 big n0 g u (Int32.ofNat p) (Int32.ofNat c)) ?_
  have hch := b_canHold p (Int32.ofNat c) n g u hn h6 (by omega)
  rw [w_canc hcs hp, hcan] at hch
  refine q_call (M2 := 50) (rest := []) (hch) (fun _ _ => rfl) ?_
  refine q_ret 3 (some (.int (Int32.ofInt (-1))), g, u) (fun _ _ => rfl) ?_
  rfl
theorem cg_put1 {n W H : Nat} {g r : qM} (u : qW) (h : w_ok n W H r) (hcs : w_cs 20 n g r) (hn : g 20 3 = Int32.ofNat n) (h6 : n ≤ 6) {c N : Nat} (hN : g 20 0 * g 20 1 = Int32.ofNat N) (h25 : N ≤ 25) (hc : c < N) {p : Nat} (hp : p < n) (hcan : p_can n r p c = 1) : q_BS 49 [.ref 8, .int (Int32.ofNat p), .int (Int32.ofNat c)] g u (some (.int (g 21 p)), q_up g 21 p (Int32.ofNat c), u) := by
  refine q_bx (mm := m_49) rfl (Nat.le_of_ble_eq_true rfl) rfl ?_
  refine q_step 3 5 [(0, .ref 8), (1, .int (Int32.ofNat p)), (2, .int (Int32.ofNat c))] [.int (Int32.ofNat p), .ref 20] g u (fun big n0 => sg_ez_50 big n0 g u (Int32.ofNat p) (Int32.ofNat c)) ?_
  refine q_call (M2 := 40) (rest := []) (b_hasOne1 g u hn h6 hp) (fun _ _ => rfl) ?_
  refine q_step 4 16 [(0, .ref 8), (1, .int (Int32.ofNat p)), (2, .int (Int32.ofNat c))] [.int (Int32.ofNat c), .ref 20] g u (fun big n0 => sg_ez_51 big n0 g u (Int32.ofNat p) (Int32.ofNat c)) ?_
  refine q_call (M2 := 38) (rest := []) (b_hasCell1 g u hN h25 hc) (fun _ _ => rfl) ?_
  refine q_step 5 28 [(0, .ref 8), (1, .int (Int32.ofNat p)), (2, .int (Int32.ofNat c))] [.int (Int32.ofNat c), .int (Int32.ofNat p), .ref 20] g u (fun big n0 => sg_ez_52 big n0 g u (Int32.ofNat p) (Int32.ofNat c)) ?_
  have hch := b_canHold p (Int32.ofNat c) n g u hn h6 (by omega)
  rw [w_canc hcs hp, hcan] at hch
  refine q_call (M2 := 50) (rest := []) (hch) (fun _ _ => rfl) ?_
  refine q_step 5 44 [(0, .ref 8), (1, .int (Int32.ofNat p)), (2, .int (Int32.ofNat c))] [.int (Int32.ofNat p), .ref 21] g u (fun big n0 => sg_ez_53 big n0 g u (Int32.ofNat p) (Int32.ofNat c)) ?_
  refine q_iald (j := p) (q_ixn (by omega) (by omega)) rfl rfl ?_
  refine q_step 6 55 [(0, .ref 8), (1, .int (Int32.ofNat p)), (2, .int (Int32.ofNat c)), (3, .int (g 21 p))] [.int (Int32.ofNat c), .int (Int32.ofNat p), .ref 21] g u (fun big n0 => sg_ez_54 big n0 g u (Int32.ofNat p) (Int32.ofNat c) (g 21 p)) ?_
  refine q_iast (j := p) (q_ixn (by omega) (by omega)) rfl rfl ?_
  refine q_ret 2 (some (.int (g 21 p)), (q_up g 21 p (Int32.ofNat c)), u) (fun _ _ => rfl) ?_
  rfl
theorem rg_put0 {n W H : Nat} {g r : qM} (u : qW) (h : w_ok n W H r) (hs : w_sm n (s_start g) r) (hn : g 70 4 = Int32.ofNat n) (h6 : n ≤ 5) {c N : Nat} (hN : g 70 2 * g 70 3 = Int32.ofNat N) (h25 : N ≤ 25) (hc : c < N) {p : Nat} (hp : p < n) (hcw : c < W * H) (hcan : p_can n r p c = 0) : q_BS 176 [.ref 70, .int (Int32.ofNat p), .int (Int32.ofNat c)] g u (some (.int (Int32.ofInt (-1))), s_start g, u) := by
  refine q_bx (mm := m_176) rfl (Nat.le_of_ble_eq_true rfl) rfl ?_
  refine q_step 2 2 [(0, .ref 70), (1, .int (Int32.ofNat p)), (2, .int (Int32.ofNat c))] [.int (Int32.ofNat p), .ref 70] g u (fun big n0 => sg_ez_55 big n0 g u (Int32.ofNat p) (Int32.ofNat c)) ?_
  refine q_call (M2 := 169) (rest := []) (b_risOne1 g u hn (by omega) hp) (fun _ _ => rfl) ?_
  refine q_step 3 10 [(0, .ref 70), (1, .int (Int32.ofNat p)), (2, .int (Int32.ofNat c))] [.int (Int32.ofNat c), .ref 70] g u (fun big n0 => sg_ez_56 big n0 g u (Int32.ofNat p) (Int32.ofNat c)) ?_
  refine q_call (M2 := 171) (rest := []) (b_risCell1 g u hN h25 hc) (fun _ _ => rfl) ?_
  refine q_step 2 19 [(0, .ref 70), (1, .int (Int32.ofNat p)), (2, .int (Int32.ofNat c))] [.ref 70] g u (fun big n0 => sg_ez_57 big n0 g u (Int32.ofNat p) (Int32.ofNat c)) ?_
  refine q_call (M2 := 172) (rest := []) (b_starts g u) (fun _ _ => rfl) ?_
  refine q_step 2 24 [(0, .ref 70), (1, .int (Int32.ofNat p)), (2, .int (Int32.ofNat c))] [.int (Int32.ofNat c), .ref 70] (s_start g) u (fun big n0 => sg_ez_58 big n0 (s_start g) u (Int32.ofNat p) (Int32.ofNat c)) ?_
  have hwho := b_rwho (s_start g) u (Int32.ofNat c) (w_w0 h hs).1 (w_w0 h hs).2.1
  rw [w_who_r h hs] at hwho
  refine q_call (M2 := 173) (rest := []) (hwho) (fun _ _ => rfl) ?_
  refine q_step 3 30 [(0, .ref 70), (1, .int (Int32.ofNat p)), (2, .int (Int32.ofNat c)), (3, .int (f_who n r (Int32.ofNat c)))] [.int (Int32.ofNat c), .ref 70] (s_start g) u (fun big n0 => sg_ez_59 big n0 (s_start g) u (Int32.ofNat p) (Int32.ofNat c) (f_who n r (Int32.ofNat c))) ?_
  refine q_call (M2 := 177) (rest := []) (b_open (Int32.ofNat c) (s_start g) u) (fun _ _ => rfl) ?_
  refine q_if_eq rfl (fun (hc0 : (s_op ((s_start g) 71 20) (Int32.ofNat c)) = 0) => ?_) (fun (hc0 : ¬ ((s_op ((s_start g) 71 20) (Int32.ofNat c)) = 0)) => ?_)
  · refine q_ret 2 (some (.int (Int32.ofInt (-1))), (s_start g), u) (fun _ _ => rfl) ?_
    rfl
  · refine q_step 2 39 [(0, .ref 70), (1, .int (Int32.ofNat p)), (2, .int (Int32.ofNat c)), (3, .int (f_who n r (Int32.ofNat c)))] [.int (Int8.toInt32 (Int8.ofInt (-4))), .int (f_who n r (Int32.ofNat c))] (s_start g) u (fun big n0 => sg_ez_60 big n0 (s_start g) u (Int32.ofNat p) (Int32.ofNat c) (f_who n r (Int32.ofNat c))) ?_
    refine q_ic_eq rfl (fun (hc1 : (f_who n r (Int32.ofNat c)) = (Int8.toInt32 (Int8.ofInt (-4)))) => ?_) (fun (hc1 : ¬ ((f_who n r (Int32.ofNat c)) = (Int8.toInt32 (Int8.ofInt (-4))))) => ?_)
    · refine q_step 5 52 [(0, .ref 70), (1, .int (Int32.ofNat p)), (2, .int (Int32.ofNat c)), (3, .int (f_who n r (Int32.ofNat c)))] [.int (Int32.ofNat c), .int ((0 : Int32) + (Int32.ofNat p)), .ref 70] (s_start g) u (fun big n0 => sg_ez_61 big n0 (s_start g) u (Int32.ofNat p) (Int32.ofNat c) (f_who n r (Int32.ofNat c))) ?_
      refine q_call (M2 := 175) (rest := []) (b_rbec ((0 : Int32) + (Int32.ofNat p)) (Int32.ofNat c) (0 + p) (s_start g) u (s_rixn (K := 0) (i := p) (by omega))) (fun _ _ => rfl) ?_
      refine q_ret 2 (some (.int ((s_start g) 71 (0 + p))), (q_up (s_start g) 71 (0 + p) (Int32.ofNat c)), u) (fun _ _ => rfl) ?_
      exfalso
      have z := w_can h hp (c := c) hcw
      rw [show s_op (r 71 20) (Int32.ofNat c) = s_op ((s_start g) 71 20) (Int32.ofNat c) from by rw [hs.1.2.2.2.1], if_neg hc0, if_pos hc1, hcan] at z
      exact absurd z (by decide)
    · refine q_step 2 44 [(0, .ref 70), (1, .int (Int32.ofNat p)), (2, .int (Int32.ofNat c)), (3, .int (f_who n r (Int32.ofNat c)))] [.int (Int32.ofNat p), .int (f_who n r (Int32.ofNat c))] (s_start g) u (fun big n0 => sg_ez_62 big n0 (s_start g) u (Int32.ofNat p) (Int32.ofNat c) (f_who n r (Int32.ofNat c))) ?_
      refine q_ic_ne rfl (fun (hc2 : (f_who n r (Int32.ofNat c)) = (Int32.ofNat p)) => ?_) (fun (hc2 : ¬ ((f_who n r (Int32.ofNat c)) = (Int32.ofNat p))) => ?_)
      · refine q_step 5 52 [(0, .ref 70), (1, .int (Int32.ofNat p)), (2, .int (Int32.ofNat c)), (3, .int (f_who n r (Int32.ofNat c)))] [.int (Int32.ofNat c), .int ((0 : Int32) + (Int32.ofNat p)), .ref 70] (s_start g) u (fun big n0 => sg_ez_61 big n0 (s_start g) u (Int32.ofNat p) (Int32.ofNat c) (f_who n r (Int32.ofNat c))) ?_
        refine q_call (M2 := 175) (rest := []) (b_rbec ((0 : Int32) + (Int32.ofNat p)) (Int32.ofNat c) (0 + p) (s_start g) u (s_rixn (K := 0) (i := p) (by omega))) (fun _ _ => rfl) ?_
        refine q_ret 2 (some (.int ((s_start g) 71 (0 + p))), (q_up (s_start g) 71 (0 + p) (Int32.ofNat c)), u) (fun _ _ => rfl) ?_
        exfalso
        have z := w_can h hp (c := c) hcw
        rw [show s_op (r 71 20) (Int32.ofNat c) = s_op ((s_start g) 71 20) (Int32.ofNat c) from by rw [hs.1.2.2.2.1], if_neg hc0, if_neg hc1, if_pos hc2, hcan] at z
        exact absurd z (by decide)
      · refine q_ret 2 (some (.int (Int32.ofInt (-1))), (s_start g), u) (fun _ _ => rfl) ?_
        rfl
theorem rg_put1 {n W H : Nat} {g r : qM} (u : qW) (h : w_ok n W H r) (hs : w_sm n (s_start g) r) (hn : g 70 4 = Int32.ofNat n) (h6 : n ≤ 5) {c N : Nat} (hN : g 70 2 * g 70 3 = Int32.ofNat N) (h25 : N ≤ 25) (hc : c < N) {p : Nat} (hp : p < n) (hcw : c < W * H) (hcan : p_can n r p c = 1) : q_BS 176 [.ref 70, .int (Int32.ofNat p), .int (Int32.ofNat c)] g u (some (.int (g 71 p)), q_up (s_start g) 71 p (Int32.ofNat c), u) := by
  refine q_bx (mm := m_176) rfl (Nat.le_of_ble_eq_true rfl) rfl ?_
  refine q_step 2 2 [(0, .ref 70), (1, .int (Int32.ofNat p)), (2, .int (Int32.ofNat c))] [.int (Int32.ofNat p), .ref 70] g u (fun big n0 => sg_ez_55 big n0 g u (Int32.ofNat p) (Int32.ofNat c)) ?_
  refine q_call (M2 := 169) (rest := []) (b_risOne1 g u hn (by omega) hp) (fun _ _ => rfl) ?_
  refine q_step 3 10 [(0, .ref 70), (1, .int (Int32.ofNat p)), (2, .int (Int32.ofNat c))] [.int (Int32.ofNat c), .ref 70] g u (fun big n0 => sg_ez_56 big n0 g u (Int32.ofNat p) (Int32.ofNat c)) ?_
  refine q_call (M2 := 171) (rest := []) (b_risCell1 g u hN h25 hc) (fun _ _ => rfl) ?_
  refine q_step 2 19 [(0, .ref 70), (1, .int (Int32.ofNat p)), (2, .int (Int32.ofNat c))] [.ref 70] g u (fun big n0 => sg_ez_57 big n0 g u (Int32.ofNat p) (Int32.ofNat c)) ?_
  refine q_call (M2 := 172) (rest := []) (b_starts g u) (fun _ _ => rfl) ?_
  refine q_step 2 24 [(0, .ref 70), (1, .int (Int32.ofNat p)), (2, .int (Int32.ofNat c))] [.int (Int32.ofNat c), .ref 70] (s_start g) u (fun big n0 => sg_ez_58 big n0 (s_start g) u (Int32.ofNat p) (Int32.ofNat c)) ?_
  have hwho := b_rwho (s_start g) u (Int32.ofNat c) (w_w0 h hs).1 (w_w0 h hs).2.1
  rw [w_who_r h hs] at hwho
  refine q_call (M2 := 173) (rest := []) (hwho) (fun _ _ => rfl) ?_
  refine q_step 3 30 [(0, .ref 70), (1, .int (Int32.ofNat p)), (2, .int (Int32.ofNat c)), (3, .int (f_who n r (Int32.ofNat c)))] [.int (Int32.ofNat c), .ref 70] (s_start g) u (fun big n0 => sg_ez_59 big n0 (s_start g) u (Int32.ofNat p) (Int32.ofNat c) (f_who n r (Int32.ofNat c))) ?_
  refine q_call (M2 := 177) (rest := []) (b_open (Int32.ofNat c) (s_start g) u) (fun _ _ => rfl) ?_
  refine q_if_eq rfl (fun (hc0 : (s_op ((s_start g) 71 20) (Int32.ofNat c)) = 0) => ?_) (fun (hc0 : ¬ ((s_op ((s_start g) 71 20) (Int32.ofNat c)) = 0)) => ?_)
  · refine q_ret 2 (some (.int (Int32.ofInt (-1))), (s_start g), u) (fun _ _ => rfl) ?_
    exfalso
    have z := w_can h hp (c := c) hcw
    rw [show s_op (r 71 20) (Int32.ofNat c) = s_op ((s_start g) 71 20) (Int32.ofNat c) from by rw [hs.1.2.2.2.1], if_pos hc0, hcan] at z
    exact absurd z (by decide)
  · refine q_step 2 39 [(0, .ref 70), (1, .int (Int32.ofNat p)), (2, .int (Int32.ofNat c)), (3, .int (f_who n r (Int32.ofNat c)))] [.int (Int8.toInt32 (Int8.ofInt (-4))), .int (f_who n r (Int32.ofNat c))] (s_start g) u (fun big n0 => sg_ez_60 big n0 (s_start g) u (Int32.ofNat p) (Int32.ofNat c) (f_who n r (Int32.ofNat c))) ?_
    refine q_ic_eq rfl (fun (hc1 : (f_who n r (Int32.ofNat c)) = (Int8.toInt32 (Int8.ofInt (-4)))) => ?_) (fun (hc1 : ¬ ((f_who n r (Int32.ofNat c)) = (Int8.toInt32 (Int8.ofInt (-4))))) => ?_)
    · refine q_step 5 52 [(0, .ref 70), (1, .int (Int32.ofNat p)), (2, .int (Int32.ofNat c)), (3, .int (f_who n r (Int32.ofNat c)))] [.int (Int32.ofNat c), .int ((0 : Int32) + (Int32.ofNat p)), .ref 70] (s_start g) u (fun big n0 => sg_ez_61 big n0 (s_start g) u (Int32.ofNat p) (Int32.ofNat c) (f_who n r (Int32.ofNat c))) ?_
      refine q_call (M2 := 175) (rest := []) (b_rbec ((0 : Int32) + (Int32.ofNat p)) (Int32.ofNat c) (0 + p) (s_start g) u (s_rixn (K := 0) (i := p) (by omega))) (fun _ _ => rfl) ?_
      refine q_ret 2 (some (.int ((s_start g) 71 (0 + p))), (q_up (s_start g) 71 (0 + p) (Int32.ofNat c)), u) (fun _ _ => rfl) ?_
      exact congrArg (fun j => (some (Value.int (g 71 j)), q_up (s_start g) 71 j (Int32.ofNat c), u)) (Nat.zero_add p)
    · refine q_step 2 44 [(0, .ref 70), (1, .int (Int32.ofNat p)), (2, .int (Int32.ofNat c)), (3, .int (f_who n r (Int32.ofNat c)))] [.int (Int32.ofNat p), .int (f_who n r (Int32.ofNat c))] (s_start g) u (fun big n0 => sg_ez_62 big n0 (s_start g) u (Int32.ofNat p) (Int32.ofNat c) (f_who n r (Int32.ofNat c))) ?_
      refine q_ic_ne rfl (fun (hc2 : (f_who n r (Int32.ofNat c)) = (Int32.ofNat p)) => ?_) (fun (hc2 : ¬ ((f_who n r (Int32.ofNat c)) = (Int32.ofNat p))) => ?_)
      · refine q_step 5 52 [(0, .ref 70), (1, .int (Int32.ofNat p)), (2, .int (Int32.ofNat c)), (3, .int (f_who n r (Int32.ofNat c)))] [.int (Int32.ofNat c), .int ((0 : Int32) + (Int32.ofNat p)), .ref 70] (s_start g) u (fun big n0 => sg_ez_61 big n0 (s_start g) u (Int32.ofNat p) (Int32.ofNat c) (f_who n r (Int32.ofNat c))) ?_
        refine q_call (M2 := 175) (rest := []) (b_rbec ((0 : Int32) + (Int32.ofNat p)) (Int32.ofNat c) (0 + p) (s_start g) u (s_rixn (K := 0) (i := p) (by omega))) (fun _ _ => rfl) ?_
        refine q_ret 2 (some (.int ((s_start g) 71 (0 + p))), (q_up (s_start g) 71 (0 + p) (Int32.ofNat c)), u) (fun _ _ => rfl) ?_
        exact congrArg (fun j => (some (Value.int (g 71 j)), q_up (s_start g) 71 j (Int32.ofNat c), u)) (Nat.zero_add p)
      · refine q_ret 2 (some (.int (Int32.ofInt (-1))), (s_start g), u) (fun _ _ => rfl) ?_
        exfalso
        have z := w_can h hp (c := c) hcw
        rw [show s_op (r 71 20) (Int32.ofNat c) = s_op ((s_start g) 71 20) (Int32.ofNat c) from by rw [hs.1.2.2.2.1], if_neg hc0, if_neg hc1, if_neg hc2, hcan] at z
        exact absurd z (by decide)
theorem cg_wall00 {n : Nat} (g : qM) (u : qW) (hn : g 20 3 = Int32.ofNat n) (h6 : n ≤ 6) {c N : Nat} (hN : g 20 0 * g 20 1 = Int32.ofNat N) (h25 : N ≤ 25) (hc : c < N) (hw : ¬ s_w1 (g 21) (Int32.ofNat c) n 0 = i_none) : q_BS 53 [.ref 8, .int (Int32.ofNat c), .int (0 : Int32)] g u (some (.int (Int32.ofInt (-1))), g, u) := by
  refine q_bx (mm := m_53) rfl (Nat.le_of_ble_eq_true rfl) rfl ?_
  refine q_step 3 5 [(0, .ref 8), (1, .int (Int32.ofNat c)), (2, .int (0 : Int32))] [.int (Int32.ofNat c), .ref 20] g u (fun big n0 => sg_ez_63 big n0 g u (Int32.ofNat c)) ?_
  refine q_call (M2 := 38) (rest := []) (b_hasCell1 g u hN h25 hc) (fun _ _ => rfl) ?_
  refine q_step 4 16 [(0, .ref 8), (1, .int (Int32.ofNat c)), (2, .int (0 : Int32))] [.int (Int32.ofNat c), .ref 20] g u (fun big n0 => sg_ez_64 big n0 g u (Int32.ofNat c)) ?_
  refine q_call (M2 := 30) (rest := []) (b_who20 (Int32.ofNat c) g u hn h6) (fun _ _ => rfl) ?_
  refine q_step 1 21 [(0, .ref 8), (1, .int (Int32.ofNat c)), (2, .int (0 : Int32))] [.int (Int8.toInt32 (Int8.ofInt (-4))), .int (s_w1 (g 21) (Int32.ofNat c) n 0)] g u (fun big n0 => sg_ez_65 big n0 g u (Int32.ofNat c) (s_w1 (g 21) (Int32.ofNat c) n 0)) ?_
  refine q_ic_eq rfl (fun hc0 => absurd (show (s_w1 (g 21) (Int32.ofNat c) n 0) = (Int8.toInt32 (Int8.ofInt (-4))) from hc0) (hw)) (fun (hc0 : ¬ ((s_w1 (g 21) (Int32.ofNat c) n 0) = (Int8.toInt32 (Int8.ofInt (-4))))) => ?_)
  refine q_ret 2 (some (.int (Int32.ofInt (-1))), g, u) (fun _ _ => rfl) ?_
  rfl
theorem rg_wall00 {n W H : Nat} {g r : qM} (u : qW) (h : w_ok n W H r) (hs : w_sm n (s_start g) r) (hn : g 70 4 = Int32.ofNat n) (h6 : n ≤ 5) {c N : Nat} (hN : g 70 2 * g 70 3 = Int32.ofNat N) (h25 : N ≤ 25) (hc : c < N) (hw : ¬ (f_who n r (Int32.ofNat c)) = i_none) : q_BS 180 [.ref 70, .int (Int32.ofNat c), .int (0 : Int32)] g u (some (.int (Int32.ofInt (-1))), s_start g, u) := by
  refine q_bx (mm := m_180) rfl (Nat.le_of_ble_eq_true rfl) rfl ?_
  refine q_step 2 2 [(0, .ref 70), (1, .int (Int32.ofNat c)), (2, .int (0 : Int32))] [.int (Int32.ofNat c), .ref 70] g u (fun big n0 => sg_ez_66 big n0 g u (Int32.ofNat c)) ?_
  refine q_call (M2 := 171) (rest := []) (b_risCell1 g u hN h25 hc) (fun _ _ => rfl) ?_
  refine q_step 2 11 [(0, .ref 70), (1, .int (Int32.ofNat c)), (2, .int (0 : Int32))] [.ref 70] g u (fun big n0 => sg_ez_67 big n0 g u (Int32.ofNat c)) ?_
  refine q_call (M2 := 172) (rest := []) (b_starts g u) (fun _ _ => rfl) ?_
  refine q_step 2 16 [(0, .ref 70), (1, .int (Int32.ofNat c)), (2, .int (0 : Int32))] [.int (Int32.ofNat c), .ref 70] (s_start g) u (fun big n0 => sg_ez_68 big n0 (s_start g) u (Int32.ofNat c)) ?_
  have hwho := b_rwho (s_start g) u (Int32.ofNat c) (w_w0 h hs).1 (w_w0 h hs).2.1
  rw [w_who_r h hs] at hwho
  refine q_call (M2 := 173) (rest := []) (hwho) (fun _ _ => rfl) ?_
  refine q_step 1 21 [(0, .ref 70), (1, .int (Int32.ofNat c)), (2, .int (0 : Int32))] [.int (Int8.toInt32 (Int8.ofInt (-4))), .int (f_who n r (Int32.ofNat c))] (s_start g) u (fun big n0 => sg_ez_69 big n0 (s_start g) u (Int32.ofNat c) (f_who n r (Int32.ofNat c))) ?_
  refine q_ic_eq rfl (fun hc0 => absurd (show (f_who n r (Int32.ofNat c)) = (Int8.toInt32 (Int8.ofInt (-4))) from hc0) (hw)) (fun (hc0 : ¬ ((f_who n r (Int32.ofNat c)) = (Int8.toInt32 (Int8.ofInt (-4))))) => ?_)
  refine q_ret 2 (some (.int (Int32.ofInt (-1))), (s_start g), u) (fun _ _ => rfl) ?_
  rfl
theorem cg_wall01 {n : Nat} (g : qM) (u : qW) (hn : g 20 3 = Int32.ofNat n) (h6 : n ≤ 6) {c N : Nat} (hN : g 20 0 * g 20 1 = Int32.ofNat N) (h25 : N ≤ 25) (hc : c < N) (hw : s_w1 (g 21) (Int32.ofNat c) n 0 = i_none) : q_BS 53 [.ref 8, .int (Int32.ofNat c), .int (0 : Int32)] g u (some (.int (if d_hasWall (Int32.ofNat c) g = 0 then (0 : Int32) else 1)), q_up g 20 2 ((g 20 2) &&& (((1 : Int32) <<< ((Int32.ofNat c) &&& 31)) ^^^ (Int32.ofInt (-1)))), u) := by
  refine q_bx (mm := m_53) rfl (Nat.le_of_ble_eq_true rfl) rfl ?_
  refine q_step 3 5 [(0, .ref 8), (1, .int (Int32.ofNat c)), (2, .int (0 : Int32))] [.int (Int32.ofNat c), .ref 20] g u (fun big n0 => sg_ez_63 big n0 g u (Int32.ofNat c)) ?_
  refine q_call (M2 := 38) (rest := []) (b_hasCell1 g u hN h25 hc) (fun _ _ => rfl) ?_
  refine q_step 4 16 [(0, .ref 8), (1, .int (Int32.ofNat c)), (2, .int (0 : Int32))] [.int (Int32.ofNat c), .ref 20] g u (fun big n0 => sg_ez_64 big n0 g u (Int32.ofNat c)) ?_
  refine q_call (M2 := 30) (rest := []) (b_who20 (Int32.ofNat c) g u hn h6) (fun _ _ => rfl) ?_
  refine q_step 1 21 [(0, .ref 8), (1, .int (Int32.ofNat c)), (2, .int (0 : Int32))] [.int (Int8.toInt32 (Int8.ofInt (-4))), .int (s_w1 (g 21) (Int32.ofNat c) n 0)] g u (fun big n0 => sg_ez_65 big n0 g u (Int32.ofNat c) (s_w1 (g 21) (Int32.ofNat c) n 0)) ?_
  refine q_ic_eq rfl (fun (hc0 : (s_w1 (g 21) (Int32.ofNat c) n 0) = (Int8.toInt32 (Int8.ofInt (-4)))) => ?_) (fun hc0 => absurd (show (s_w1 (g 21) (Int32.ofNat c) n 0) = (Int8.toInt32 (Int8.ofInt (-4))) from hw) hc0)
  refine q_step 3 31 [(0, .ref 8), (1, .int (Int32.ofNat c)), (2, .int (0 : Int32))] [.int (Int32.ofNat c), .ref 20] g u (fun big n0 => sg_ez_70 big n0 g u (Int32.ofNat c)) ?_
  refine q_call (M2 := 29) (rest := []) (b_hasWall _ _ _) (fun _ _ => rfl) ?_
  refine q_if_eq rfl (fun (hc1 : (d_hasWall (Int32.ofNat c) g) = 0) => ?_) (fun (hc1 : ¬ ((d_hasWall (Int32.ofNat c) g) = 0)) => ?_)
  · refine q_ret 18 (some (.int (0 : Int32)), (q_up g 20 2 ((g 20 2) &&& (((1 : Int32) <<< ((Int32.ofNat c) &&& 31)) ^^^ (Int32.ofInt (-1))))), u) (fun _ _ => rfl) ?_
    rw [if_pos hc1]
  · refine q_ret 19 (some (.int (1 : Int32)), (q_up g 20 2 ((g 20 2) &&& (((1 : Int32) <<< ((Int32.ofNat c) &&& 31)) ^^^ (Int32.ofInt (-1))))), u) (fun _ _ => rfl) ?_
    rw [if_neg hc1]
theorem rg_wall01 {n W H : Nat} {g r : qM} (u : qW) (h : w_ok n W H r) (hs : w_sm n (s_start g) r) (hn : g 70 4 = Int32.ofNat n) (h6 : n ≤ 5) {c N : Nat} (hN : g 70 2 * g 70 3 = Int32.ofNat N) (h25 : N ≤ 25) (hc : c < N) (hw : (f_who n r (Int32.ofNat c)) = i_none) : q_BS 180 [.ref 70, .int (Int32.ofNat c), .int (0 : Int32)] g u (some (.int (s_bit (g 71 20) (Int32.ofNat c))), q_up (s_start g) 71 20 ((g 71 20) &&& (((1 : Int32) <<< ((Int32.ofNat c) &&& 31)) ^^^ (Int32.ofInt (-1)))), u) := by
  refine q_bx (mm := m_180) rfl (Nat.le_of_ble_eq_true rfl) rfl ?_
  refine q_step 2 2 [(0, .ref 70), (1, .int (Int32.ofNat c)), (2, .int (0 : Int32))] [.int (Int32.ofNat c), .ref 70] g u (fun big n0 => sg_ez_66 big n0 g u (Int32.ofNat c)) ?_
  refine q_call (M2 := 171) (rest := []) (b_risCell1 g u hN h25 hc) (fun _ _ => rfl) ?_
  refine q_step 2 11 [(0, .ref 70), (1, .int (Int32.ofNat c)), (2, .int (0 : Int32))] [.ref 70] g u (fun big n0 => sg_ez_67 big n0 g u (Int32.ofNat c)) ?_
  refine q_call (M2 := 172) (rest := []) (b_starts g u) (fun _ _ => rfl) ?_
  refine q_step 2 16 [(0, .ref 70), (1, .int (Int32.ofNat c)), (2, .int (0 : Int32))] [.int (Int32.ofNat c), .ref 70] (s_start g) u (fun big n0 => sg_ez_68 big n0 (s_start g) u (Int32.ofNat c)) ?_
  have hwho := b_rwho (s_start g) u (Int32.ofNat c) (w_w0 h hs).1 (w_w0 h hs).2.1
  rw [w_who_r h hs] at hwho
  refine q_call (M2 := 173) (rest := []) (hwho) (fun _ _ => rfl) ?_
  refine q_step 1 21 [(0, .ref 70), (1, .int (Int32.ofNat c)), (2, .int (0 : Int32))] [.int (Int8.toInt32 (Int8.ofInt (-4))), .int (f_who n r (Int32.ofNat c))] (s_start g) u (fun big n0 => sg_ez_69 big n0 (s_start g) u (Int32.ofNat c) (f_who n r (Int32.ofNat c))) ?_
  refine q_ic_eq rfl (fun (hc0 : (f_who n r (Int32.ofNat c)) = (Int8.toInt32 (Int8.ofInt (-4)))) => ?_) (fun hc0 => absurd (show (f_who n r (Int32.ofNat c)) = (Int8.toInt32 (Int8.ofInt (-4))) from hw) hc0)
  refine q_ret 27 (some (.int ((((s_start g) 71 20) >>> ((Int32.ofNat c) &&& 31)) &&& (1 : Int32))), (q_up (s_start g) 71 20 (((s_start g) 71 20) &&& (((1 : Int32) <<< ((Int32.ofNat c) &&& 31)) ^^^ (Int32.ofInt (-1))))), u) (fun _ _ => rfl) ?_
  rfl
theorem cg_wall10 {n : Nat} (g : qM) (u : qW) (hn : g 20 3 = Int32.ofNat n) (h6 : n ≤ 6) {c N : Nat} (hN : g 20 0 * g 20 1 = Int32.ofNat N) (h25 : N ≤ 25) (hc : c < N) (hw : ¬ s_w1 (g 21) (Int32.ofNat c) n 0 = i_none) : q_BS 53 [.ref 8, .int (Int32.ofNat c), .int (1 : Int32)] g u (some (.int (Int32.ofInt (-1))), g, u) := by
  refine q_bx (mm := m_53) rfl (Nat.le_of_ble_eq_true rfl) rfl ?_
  refine q_step 3 5 [(0, .ref 8), (1, .int (Int32.ofNat c)), (2, .int (1 : Int32))] [.int (Int32.ofNat c), .ref 20] g u (fun big n0 => sg_ez_71 big n0 g u (Int32.ofNat c)) ?_
  refine q_call (M2 := 38) (rest := []) (b_hasCell1 g u hN h25 hc) (fun _ _ => rfl) ?_
  refine q_step 4 16 [(0, .ref 8), (1, .int (Int32.ofNat c)), (2, .int (1 : Int32))] [.int (Int32.ofNat c), .ref 20] g u (fun big n0 => sg_ez_72 big n0 g u (Int32.ofNat c)) ?_
  refine q_call (M2 := 30) (rest := []) (b_who20 (Int32.ofNat c) g u hn h6) (fun _ _ => rfl) ?_
  refine q_step 1 21 [(0, .ref 8), (1, .int (Int32.ofNat c)), (2, .int (1 : Int32))] [.int (Int8.toInt32 (Int8.ofInt (-4))), .int (s_w1 (g 21) (Int32.ofNat c) n 0)] g u (fun big n0 => sg_ez_73 big n0 g u (Int32.ofNat c) (s_w1 (g 21) (Int32.ofNat c) n 0)) ?_
  refine q_ic_eq rfl (fun hc0 => absurd (show (s_w1 (g 21) (Int32.ofNat c) n 0) = (Int8.toInt32 (Int8.ofInt (-4))) from hc0) (hw)) (fun (hc0 : ¬ ((s_w1 (g 21) (Int32.ofNat c) n 0) = (Int8.toInt32 (Int8.ofInt (-4))))) => ?_)
  refine q_ret 2 (some (.int (Int32.ofInt (-1))), g, u) (fun _ _ => rfl) ?_
  rfl
theorem rg_wall10 {n W H : Nat} {g r : qM} (u : qW) (h : w_ok n W H r) (hs : w_sm n (s_start g) r) (hn : g 70 4 = Int32.ofNat n) (h6 : n ≤ 5) {c N : Nat} (hN : g 70 2 * g 70 3 = Int32.ofNat N) (h25 : N ≤ 25) (hc : c < N) (hw : ¬ (f_who n r (Int32.ofNat c)) = i_none) : q_BS 180 [.ref 70, .int (Int32.ofNat c), .int (1 : Int32)] g u (some (.int (Int32.ofInt (-1))), s_start g, u) := by
  refine q_bx (mm := m_180) rfl (Nat.le_of_ble_eq_true rfl) rfl ?_
  refine q_step 2 2 [(0, .ref 70), (1, .int (Int32.ofNat c)), (2, .int (1 : Int32))] [.int (Int32.ofNat c), .ref 70] g u (fun big n0 => sg_ez_74 big n0 g u (Int32.ofNat c)) ?_
  refine q_call (M2 := 171) (rest := []) (b_risCell1 g u hN h25 hc) (fun _ _ => rfl) ?_
  refine q_step 2 11 [(0, .ref 70), (1, .int (Int32.ofNat c)), (2, .int (1 : Int32))] [.ref 70] g u (fun big n0 => sg_ez_75 big n0 g u (Int32.ofNat c)) ?_
  refine q_call (M2 := 172) (rest := []) (b_starts g u) (fun _ _ => rfl) ?_
  refine q_step 2 16 [(0, .ref 70), (1, .int (Int32.ofNat c)), (2, .int (1 : Int32))] [.int (Int32.ofNat c), .ref 70] (s_start g) u (fun big n0 => sg_ez_76 big n0 (s_start g) u (Int32.ofNat c)) ?_
  have hwho := b_rwho (s_start g) u (Int32.ofNat c) (w_w0 h hs).1 (w_w0 h hs).2.1
  rw [w_who_r h hs] at hwho
  refine q_call (M2 := 173) (rest := []) (hwho) (fun _ _ => rfl) ?_
  refine q_step 1 21 [(0, .ref 70), (1, .int (Int32.ofNat c)), (2, .int (1 : Int32))] [.int (Int8.toInt32 (Int8.ofInt (-4))), .int (f_who n r (Int32.ofNat c))] (s_start g) u (fun big n0 => sg_ez_77 big n0 (s_start g) u (Int32.ofNat c) (f_who n r (Int32.ofNat c))) ?_
  refine q_ic_eq rfl (fun hc0 => absurd (show (f_who n r (Int32.ofNat c)) = (Int8.toInt32 (Int8.ofInt (-4))) from hc0) (hw)) (fun (hc0 : ¬ ((f_who n r (Int32.ofNat c)) = (Int8.toInt32 (Int8.ofInt (-4))))) => ?_)
  refine q_ret 2 (some (.int (Int32.ofInt (-1))), (s_start g), u) (fun _ _ => rfl) ?_
  rfl
theorem cg_wall11 {n : Nat} (g : qM) (u : qW) (hn : g 20 3 = Int32.ofNat n) (h6 : n ≤ 6) {c N : Nat} (hN : g 20 0 * g 20 1 = Int32.ofNat N) (h25 : N ≤ 25) (hc : c < N) (hw : s_w1 (g 21) (Int32.ofNat c) n 0 = i_none) : q_BS 53 [.ref 8, .int (Int32.ofNat c), .int (1 : Int32)] g u (some (.int (if d_hasWall (Int32.ofNat c) g = 0 then (0 : Int32) else 1)), q_up g 20 2 ((g 20 2) ||| ((1 : Int32) <<< ((Int32.ofNat c) &&& 31))), u) := by
  refine q_bx (mm := m_53) rfl (Nat.le_of_ble_eq_true rfl) rfl ?_
  refine q_step 3 5 [(0, .ref 8), (1, .int (Int32.ofNat c)), (2, .int (1 : Int32))] [.int (Int32.ofNat c), .ref 20] g u (fun big n0 => sg_ez_71 big n0 g u (Int32.ofNat c)) ?_
  refine q_call (M2 := 38) (rest := []) (b_hasCell1 g u hN h25 hc) (fun _ _ => rfl) ?_
  refine q_step 4 16 [(0, .ref 8), (1, .int (Int32.ofNat c)), (2, .int (1 : Int32))] [.int (Int32.ofNat c), .ref 20] g u (fun big n0 => sg_ez_72 big n0 g u (Int32.ofNat c)) ?_
  refine q_call (M2 := 30) (rest := []) (b_who20 (Int32.ofNat c) g u hn h6) (fun _ _ => rfl) ?_
  refine q_step 1 21 [(0, .ref 8), (1, .int (Int32.ofNat c)), (2, .int (1 : Int32))] [.int (Int8.toInt32 (Int8.ofInt (-4))), .int (s_w1 (g 21) (Int32.ofNat c) n 0)] g u (fun big n0 => sg_ez_73 big n0 g u (Int32.ofNat c) (s_w1 (g 21) (Int32.ofNat c) n 0)) ?_
  refine q_ic_eq rfl (fun (hc0 : (s_w1 (g 21) (Int32.ofNat c) n 0) = (Int8.toInt32 (Int8.ofInt (-4)))) => ?_) (fun hc0 => absurd (show (s_w1 (g 21) (Int32.ofNat c) n 0) = (Int8.toInt32 (Int8.ofInt (-4))) from hw) hc0)
  refine q_step 3 31 [(0, .ref 8), (1, .int (Int32.ofNat c)), (2, .int (1 : Int32))] [.int (Int32.ofNat c), .ref 20] g u (fun big n0 => sg_ez_78 big n0 g u (Int32.ofNat c)) ?_
  refine q_call (M2 := 29) (rest := []) (b_hasWall _ _ _) (fun _ _ => rfl) ?_
  refine q_if_eq rfl (fun (hc1 : (d_hasWall (Int32.ofNat c) g) = 0) => ?_) (fun (hc1 : ¬ ((d_hasWall (Int32.ofNat c) g) = 0)) => ?_)
  · refine q_ret 17 (some (.int (0 : Int32)), (q_up g 20 2 ((g 20 2) ||| ((1 : Int32) <<< ((Int32.ofNat c) &&& 31)))), u) (fun _ _ => rfl) ?_
    rw [if_pos hc1]
  · refine q_ret 18 (some (.int (1 : Int32)), (q_up g 20 2 ((g 20 2) ||| ((1 : Int32) <<< ((Int32.ofNat c) &&& 31)))), u) (fun _ _ => rfl) ?_
    rw [if_neg hc1]
theorem rg_wall11 {n W H : Nat} {g r : qM} (u : qW) (h : w_ok n W H r) (hs : w_sm n (s_start g) r) (hn : g 70 4 = Int32.ofNat n) (h6 : n ≤ 5) {c N : Nat} (hN : g 70 2 * g 70 3 = Int32.ofNat N) (h25 : N ≤ 25) (hc : c < N) (hw : (f_who n r (Int32.ofNat c)) = i_none) : q_BS 180 [.ref 70, .int (Int32.ofNat c), .int (1 : Int32)] g u (some (.int (s_bit (g 71 20) (Int32.ofNat c))), q_up (s_start g) 71 20 ((g 71 20) ||| ((1 : Int32) <<< ((Int32.ofNat c) &&& 31))), u) := by
  refine q_bx (mm := m_180) rfl (Nat.le_of_ble_eq_true rfl) rfl ?_
  refine q_step 2 2 [(0, .ref 70), (1, .int (Int32.ofNat c)), (2, .int (1 : Int32))] [.int (Int32.ofNat c), .ref 70] g u (fun big n0 => sg_ez_74 big n0 g u (Int32.ofNat c)) ?_
  refine q_call (M2 := 171) (rest := []) (b_risCell1 g u hN h25 hc) (fun _ _ => rfl) ?_
  refine q_step 2 11 [(0, .ref 70), (1, .int (Int32.ofNat c)), (2, .int (1 : Int32))] [.ref 70] g u (fun big n0 => sg_ez_75 big n0 g u (Int32.ofNat c)) ?_
  refine q_call (M2 := 172) (rest := []) (b_starts g u) (fun _ _ => rfl) ?_
  refine q_step 2 16 [(0, .ref 70), (1, .int (Int32.ofNat c)), (2, .int (1 : Int32))] [.int (Int32.ofNat c), .ref 70] (s_start g) u (fun big n0 => sg_ez_76 big n0 (s_start g) u (Int32.ofNat c)) ?_
  have hwho := b_rwho (s_start g) u (Int32.ofNat c) (w_w0 h hs).1 (w_w0 h hs).2.1
  rw [w_who_r h hs] at hwho
  refine q_call (M2 := 173) (rest := []) (hwho) (fun _ _ => rfl) ?_
  refine q_step 1 21 [(0, .ref 70), (1, .int (Int32.ofNat c)), (2, .int (1 : Int32))] [.int (Int8.toInt32 (Int8.ofInt (-4))), .int (f_who n r (Int32.ofNat c))] (s_start g) u (fun big n0 => sg_ez_77 big n0 (s_start g) u (Int32.ofNat c) (f_who n r (Int32.ofNat c))) ?_
  refine q_ic_eq rfl (fun (hc0 : (f_who n r (Int32.ofNat c)) = (Int8.toInt32 (Int8.ofInt (-4)))) => ?_) (fun hc0 => absurd (show (f_who n r (Int32.ofNat c)) = (Int8.toInt32 (Int8.ofInt (-4))) from hw) hc0)
  refine q_ret 26 (some (.int ((((s_start g) 71 20) >>> ((Int32.ofNat c) &&& 31)) &&& (1 : Int32))), (q_up (s_start g) 71 20 (((s_start g) 71 20) ||| ((1 : Int32) <<< ((Int32.ofNat c) &&& 31)))), u) (fun _ _ => rfl) ?_
  rfl
theorem cg_see {n : Nat} (g : qM) (u : qW) (hn : g 20 3 = Int32.ofNat n) (h6 : n ≤ 6) {p : Nat} (hp : p < n) {y : Nat} (hy : y ≤ 4) {z : Nat} (hz8 : z ≤ 8) (hsn : g 20 6 = Int32.ofNat z) (hz : z < 8) : q_BS 118 [.ref 8, .int (Int32.ofNat p), .int (Int32.ofNat y)] g u (some (.int (g 20 6 + 1)), q_up (q_up (q_up g 26 z (Int32.ofNat p)) 27 z (Int32.ofNat y)) 20 6 (g 20 6 + 1), u) := by
  refine q_bx (mm := m_118) rfl (Nat.le_of_ble_eq_true rfl) rfl ?_
  refine q_step 3 5 [(0, .ref 8), (1, .int (Int32.ofNat p)), (2, .int (Int32.ofNat y))] [.int (Int32.ofNat p), .ref 20] g u (fun big n0 => sg_ez_79 big n0 g u (Int32.ofNat p) (Int32.ofNat y)) ?_
  refine q_call (M2 := 40) (rest := []) (b_hasOne1 g u hn h6 hp) (fun _ _ => rfl) ?_
  refine q_step 2 12 [(0, .ref 8), (1, .int (Int32.ofNat p)), (2, .int (Int32.ofNat y))] [.int (Int32.ofNat y)] g u (fun big n0 => sg_ez_80 big n0 g u (Int32.ofNat p) (Int32.ofNat y)) ?_
  refine q_if_lt rfl (fun hc0 => absurd (show (Int32.ofNat y) < 0 from hc0) (fun z => absurd ((q_lt (i := y) (j := 0) (by omega) (by omega)).mp z) (by omega))) (fun (hc0 : ¬ ((Int32.ofNat y) < 0)) => ?_)
  refine q_step 2 17 [(0, .ref 8), (1, .int (Int32.ofNat p)), (2, .int (Int32.ofNat y))] [.int (4 : Int32), .int (Int32.ofNat y)] g u (fun big n0 => sg_ez_81 big n0 g u (Int32.ofNat p) (Int32.ofNat y)) ?_
  refine q_ic_le rfl (fun (hc1 : (Int32.ofNat y) ≤ (4 : Int32)) => ?_) (fun hc1 => absurd (show (Int32.ofNat y) ≤ (4 : Int32) from (q_le (i := y) (j := 4) (by omega) (by omega)).mpr (by omega)) hc1)
  refine q_step 4 31 [(0, .ref 8), (1, .int (Int32.ofNat p)), (2, .int (Int32.ofNat y))] [.int (8 : Int32), .int (g 20 6)] g u (fun big n0 => sg_ez_82 big n0 g u (Int32.ofNat p) (Int32.ofNat y)) ?_
  refine q_ic_lt rfl (fun (hc2 : (g 20 6) < (8 : Int32)) => ?_) (fun hc2 => absurd (show (g 20 6) < (8 : Int32) from by rw [hsn]; exact (q_lt (i := z) (j := 8) (by omega) (by omega)).mpr hz) hc2)
  refine q_step 7 52 [(0, .ref 8), (1, .int (Int32.ofNat p)), (2, .int (Int32.ofNat y))] [.int (Int32.ofNat p), .int (g 20 6), .ref 26] g u (fun big n0 => sg_ez_83 big n0 g u (Int32.ofNat p) (Int32.ofNat y)) ?_
  refine q_iast (j := z) (by rw [hsn]; exact q_ixn (by omega) (by omega)) rfl rfl ?_
  refine q_step 7 68 [(0, .ref 8), (1, .int (Int32.ofNat p)), (2, .int (Int32.ofNat y))] [.int (Int32.ofNat y), .int (g 20 6), .ref 27] (q_up g 26 z (Int32.ofNat p)) u (fun big n0 => sg_ez_84 big n0 (q_up g 26 z (Int32.ofNat p)) u (Int32.ofNat p) (Int32.ofNat y)) ?_
  refine q_iast (j := z) (by rw [hsn]; exact q_ixn (by omega) (by omega)) rfl rfl ?_
  refine q_ret 11 (some (.int ((g 20 6) + (1 : Int32))), (q_up (q_up (q_up g 26 z (Int32.ofNat p)) 27 z (Int32.ofNat y)) 20 6 ((g 20 6) + (1 : Int32))), u) (fun _ _ => rfl) ?_
  rfl
theorem cg_see8 {n : Nat} (g : qM) (u : qW) (hn : g 20 3 = Int32.ofNat n) (h6 : n ≤ 6) {p : Nat} (hp : p < n) {y : Nat} (hy : y ≤ 4) (hsn : g 20 6 = Int32.ofNat 8) : q_BS 118 [.ref 8, .int (Int32.ofNat p), .int (Int32.ofNat y)] g u (some (.int (Int8.toInt32 (Int8.ofInt (-3)))), g, u) := by
  refine q_bx (mm := m_118) rfl (Nat.le_of_ble_eq_true rfl) rfl ?_
  refine q_step 3 5 [(0, .ref 8), (1, .int (Int32.ofNat p)), (2, .int (Int32.ofNat y))] [.int (Int32.ofNat p), .ref 20] g u (fun big n0 => sg_ez_79 big n0 g u (Int32.ofNat p) (Int32.ofNat y)) ?_
  refine q_call (M2 := 40) (rest := []) (b_hasOne1 g u hn h6 hp) (fun _ _ => rfl) ?_
  refine q_step 2 12 [(0, .ref 8), (1, .int (Int32.ofNat p)), (2, .int (Int32.ofNat y))] [.int (Int32.ofNat y)] g u (fun big n0 => sg_ez_80 big n0 g u (Int32.ofNat p) (Int32.ofNat y)) ?_
  refine q_if_lt rfl (fun hc0 => absurd (show (Int32.ofNat y) < 0 from hc0) (fun z => absurd ((q_lt (i := y) (j := 0) (by omega) (by omega)).mp z) (by omega))) (fun (hc0 : ¬ ((Int32.ofNat y) < 0)) => ?_)
  refine q_step 2 17 [(0, .ref 8), (1, .int (Int32.ofNat p)), (2, .int (Int32.ofNat y))] [.int (4 : Int32), .int (Int32.ofNat y)] g u (fun big n0 => sg_ez_81 big n0 g u (Int32.ofNat p) (Int32.ofNat y)) ?_
  refine q_ic_le rfl (fun (hc1 : (Int32.ofNat y) ≤ (4 : Int32)) => ?_) (fun hc1 => absurd (show (Int32.ofNat y) ≤ (4 : Int32) from (q_le (i := y) (j := 4) (by omega) (by omega)).mpr (by omega)) hc1)
  refine q_step 4 31 [(0, .ref 8), (1, .int (Int32.ofNat p)), (2, .int (Int32.ofNat y))] [.int (8 : Int32), .int (g 20 6)] g u (fun big n0 => sg_ez_82 big n0 g u (Int32.ofNat p) (Int32.ofNat y)) ?_
  refine q_ic_lt rfl (fun hc2 => absurd (show (g 20 6) < (8 : Int32) from hc2) (by rw [hsn]; decide)) (fun (hc2 : ¬ ((g 20 6) < (8 : Int32))) => ?_)
  refine q_ret 2 (some (.int (Int8.toInt32 (Int8.ofInt (-3)))), g, u) (fun _ _ => rfl) ?_
  rfl
theorem rg_see {n : Nat} (g : qM) (u : qW) (hn : g 70 4 = Int32.ofNat n) (h6 : n ≤ 5) {p : Nat} (hp : p < n) {y : Nat} (hy : y ≤ 4) {z : Nat} (hz8 : z ≤ 8) (hsn : g 71 27 = Int32.ofNat z) (hz : z < 8) : q_BS 212 [.ref 70, .int (Int32.ofNat p), .int (Int32.ofNat y)] g u (some (.int (g 71 27 + 1)), q_up (q_up (q_up g 71 (28 + 2 * z) (Int32.ofNat p)) 71 (29 + 2 * z) (Int32.ofNat y)) 71 27 (g 71 27 + 1), u) := by
  refine q_bx (mm := m_212) rfl (Nat.le_of_ble_eq_true rfl) rfl ?_
  have hx1 : (28 : Int32) + (2 : Int32) * g 71 27 = Int32.ofNat (28 + 2 * z) := by
    rw [hsn, show (28 : Int32) = Int32.ofNat 28 from rfl, show (2 : Int32) = Int32.ofNat 2 from rfl, q_mul, q_add]
  have hx2 : ∀ x, q_up g 71 (28 + 2 * z) x 71 27 = g 71 27 := fun x => by
    rw [q_up_at, if_neg (by omega)]
  have hx3 : ∀ x y, q_up (q_up g 71 (28 + 2 * z) x) 71 (29 + 2 * z) y 71 27 = g 71 27 := fun x y => by
    rw [q_up_at, if_neg (by omega), hx2]
  refine q_step 2 2 [(0, .ref 70), (1, .int (Int32.ofNat p)), (2, .int (Int32.ofNat y))] [.int (Int32.ofNat p), .ref 70] g u (fun big n0 => sg_ez_85 big n0 g u (Int32.ofNat p) (Int32.ofNat y)) ?_
  refine q_call (M2 := 169) (rest := []) (b_risOne1 g u hn (by omega) hp) (fun _ _ => rfl) ?_
  refine q_step 5 14 [(0, .ref 70), (1, .int (Int32.ofNat p)), (2, .int (Int32.ofNat y))] [.long (4 : Int64), .long (0 : Int64), .long (Int32.toInt64 (Int32.ofNat y))] g u (fun big n0 => sg_ez_86 big n0 g u (Int32.ofNat p) (Int32.ofNat y)) ?_
  refine q_call (M2 := 149) (rest := []) (b_in1 (m := y) (lo := 0) (hi := 4) g u (by omega) (by omega) (by omega)) (fun _ _ => rfl) ?_
  refine q_step 6 31 [(0, .ref 70), (1, .int (Int32.ofNat p)), (2, .int (Int32.ofNat y))] [.int (8 : Int32), .int (g 71 27)] g u (fun big n0 => sg_ez_87 big n0 g u (Int32.ofNat p) (Int32.ofNat y)) ?_
  refine q_ic_ne rfl (fun hc0 => absurd (show (g 71 27) = (8 : Int32) from hc0) (by rw [hsn]; exact fun q => absurd ((q_eq (i := z) (j := 8) (by omega) (by omega)).mp q) (by omega))) (fun (hc0 : ¬ ((g 71 27) = (8 : Int32))) => ?_)
  refine q_step 11 54 [(0, .ref 70), (1, .int (Int32.ofNat p)), (2, .int (Int32.ofNat y))] [.int (Int32.ofNat p), .int ((28 : Int32) + ((2 : Int32) * (g 71 27))), .ref 71] g u (fun big n0 => sg_ez_88 big n0 g u (Int32.ofNat p) (Int32.ofNat y)) ?_
  refine q_iast (j := (28 + 2 * z)) (by rw [hx1]; exact q_ixn (by omega) (by omega)) rfl rfl ?_
  refine q_step 13 74 [(0, .ref 70), (1, .int (Int32.ofNat p)), (2, .int (Int32.ofNat y))] [.int (Int32.ofNat y), .int (((28 : Int32) + ((2 : Int32) * ((q_up g 71 (28 + 2 * z) (Int32.ofNat p)) 71 27))) + (1 : Int32)), .ref 71] (q_up g 71 (28 + 2 * z) (Int32.ofNat p)) u (fun big n0 => sg_ez_89 big n0 (q_up g 71 (28 + 2 * z) (Int32.ofNat p)) u (Int32.ofNat p) (Int32.ofNat y)) ?_
  refine q_iast (j := (29 + 2 * z)) (by rw [hx2, hx1, q_succ, show 28 + 2 * z + 1 = 29 + 2 * z by omega]; exact q_ixn (by omega) (by omega)) rfl rfl ?_
  refine q_ret 13 (some (.int (((q_up (q_up g 71 (28 + 2 * z) (Int32.ofNat p)) 71 (29 + 2 * z) (Int32.ofNat y)) 71 27) + (1 : Int32))), (q_up (q_up (q_up g 71 (28 + 2 * z) (Int32.ofNat p)) 71 (29 + 2 * z) (Int32.ofNat y)) 71 27 (((q_up (q_up g 71 (28 + 2 * z) (Int32.ofNat p)) 71 (29 + 2 * z) (Int32.ofNat y)) 71 27) + (1 : Int32))), u) (fun _ _ => rfl) ?_
  rw [hx3]
theorem rg_see8 {n : Nat} (g : qM) (u : qW) (hn : g 70 4 = Int32.ofNat n) (h6 : n ≤ 5) {p : Nat} (hp : p < n) {y : Nat} (hy : y ≤ 4) (hsn : g 71 27 = Int32.ofNat 8) : q_BS 212 [.ref 70, .int (Int32.ofNat p), .int (Int32.ofNat y)] g u (some (.int (Int8.toInt32 (Int8.ofInt (-3)))), g, u) := by
  refine q_bx (mm := m_212) rfl (Nat.le_of_ble_eq_true rfl) rfl ?_
  refine q_step 2 2 [(0, .ref 70), (1, .int (Int32.ofNat p)), (2, .int (Int32.ofNat y))] [.int (Int32.ofNat p), .ref 70] g u (fun big n0 => sg_ez_85 big n0 g u (Int32.ofNat p) (Int32.ofNat y)) ?_
  refine q_call (M2 := 169) (rest := []) (b_risOne1 g u hn (by omega) hp) (fun _ _ => rfl) ?_
  refine q_step 5 14 [(0, .ref 70), (1, .int (Int32.ofNat p)), (2, .int (Int32.ofNat y))] [.long (4 : Int64), .long (0 : Int64), .long (Int32.toInt64 (Int32.ofNat y))] g u (fun big n0 => sg_ez_86 big n0 g u (Int32.ofNat p) (Int32.ofNat y)) ?_
  refine q_call (M2 := 149) (rest := []) (b_in1 (m := y) (lo := 0) (hi := 4) g u (by omega) (by omega) (by omega)) (fun _ _ => rfl) ?_
  refine q_step 6 31 [(0, .ref 70), (1, .int (Int32.ofNat p)), (2, .int (Int32.ofNat y))] [.int (8 : Int32), .int (g 71 27)] g u (fun big n0 => sg_ez_87 big n0 g u (Int32.ofNat p) (Int32.ofNat y)) ?_
  refine q_ic_ne rfl (fun (hc0 : (g 71 27) = (8 : Int32)) => ?_) (fun hc0 => absurd (show (g 71 27) = (8 : Int32) from by rw [hsn]; rfl) hc0)
  refine q_ret 2 (some (.int (Int8.toInt32 (Int8.ofInt (-3)))), g, u) (fun _ _ => rfl) ?_
  rfl
theorem cg_rule0 (g : qM) (u : qW) : q_BS 44 [.ref 8, .int (0 : Int32)] g u (some (.int (g 20 0)), g, u) := by
  refine q_bx (mm := m_44) rfl (Nat.le_of_ble_eq_true rfl) rfl ?_
  refine q_ret 6 (some (.int (g 20 0)), g, u) (fun _ _ => rfl) ?_
  rfl
theorem rg_rule0 (g : qM) (u : qW) : q_BS 167 [.ref 70, .int (0 : Int32)] g u (some (.int (g 70 2)), g, u) := by
  refine q_bx (mm := m_167) rfl (Nat.le_of_ble_eq_true rfl) rfl ?_
  refine q_ret 5 (some (.int (g 70 2)), g, u) (fun _ _ => rfl) ?_
  rfl
theorem cg_rule1 (g : qM) (u : qW) : q_BS 44 [.ref 8, .int (1 : Int32)] g u (some (.int (g 20 1)), g, u) := by
  refine q_bx (mm := m_44) rfl (Nat.le_of_ble_eq_true rfl) rfl ?_
  refine q_ret 6 (some (.int (g 20 1)), g, u) (fun _ _ => rfl) ?_
  rfl
theorem rg_rule1 (g : qM) (u : qW) : q_BS 167 [.ref 70, .int (1 : Int32)] g u (some (.int (g 70 3)), g, u) := by
  refine q_bx (mm := m_167) rfl (Nat.le_of_ble_eq_true rfl) rfl ?_
  refine q_ret 5 (some (.int (g 70 3)), g, u) (fun _ _ => rfl) ?_
  rfl
theorem cg_rule2 (g : qM) (u : qW) : q_BS 44 [.ref 8, .int (2 : Int32)] g u (some (.int (g 20 2)), g, u) := by
  refine q_bx (mm := m_44) rfl (Nat.le_of_ble_eq_true rfl) rfl ?_
  refine q_ret 6 (some (.int (g 20 2)), g, u) (fun _ _ => rfl) ?_
  rfl
theorem rg_rule2 (g : qM) (u : qW) : q_BS 167 [.ref 70, .int (2 : Int32)] g u (some (.int (g 71 20)), g, u) := by
  refine q_bx (mm := m_167) rfl (Nat.le_of_ble_eq_true rfl) rfl ?_
  refine q_ret 7 (some (.int (g 71 20)), g, u) (fun _ _ => rfl) ?_
  rfl
theorem cg_rule3 (g : qM) (u : qW) : q_BS 44 [.ref 8, .int (3 : Int32)] g u (some (.int (g 20 3)), g, u) := by
  refine q_bx (mm := m_44) rfl (Nat.le_of_ble_eq_true rfl) rfl ?_
  refine q_ret 6 (some (.int (g 20 3)), g, u) (fun _ _ => rfl) ?_
  rfl
theorem rg_rule3 (g : qM) (u : qW) : q_BS 167 [.ref 70, .int (3 : Int32)] g u (some (.int (g 70 4)), g, u) := by
  refine q_bx (mm := m_167) rfl (Nat.le_of_ble_eq_true rfl) rfl ?_
  refine q_ret 5 (some (.int (g 70 4)), g, u) (fun _ _ => rfl) ?_
  rfl
theorem cg_rule4 (g : qM) (u : qW) : q_BS 44 [.ref 8, .int (4 : Int32)] g u (some (.int (g 20 4)), g, u) := by
  refine q_bx (mm := m_44) rfl (Nat.le_of_ble_eq_true rfl) rfl ?_
  refine q_ret 6 (some (.int (g 20 4)), g, u) (fun _ _ => rfl) ?_
  rfl
theorem rg_rule4 (g : qM) (u : qW) : q_BS 167 [.ref 70, .int (4 : Int32)] g u (some (.int (g 71 25)), g, u) := by
  refine q_bx (mm := m_167) rfl (Nat.le_of_ble_eq_true rfl) rfl ?_
  refine q_ret 7 (some (.int (g 71 25)), g, u) (fun _ _ => rfl) ?_
  rfl
theorem cg_rule5 (g : qM) (u : qW) : q_BS 44 [.ref 8, .int (5 : Int32)] g u (some (.int (g 20 5)), g, u) := by
  refine q_bx (mm := m_44) rfl (Nat.le_of_ble_eq_true rfl) rfl ?_
  refine q_ret 6 (some (.int (g 20 5)), g, u) (fun _ _ => rfl) ?_
  rfl
theorem rg_rule5 (g : qM) (u : qW) : q_BS 167 [.ref 70, .int (5 : Int32)] g u (some (.int (g 71 26)), g, u) := by
  refine q_bx (mm := m_167) rfl (Nat.le_of_ble_eq_true rfl) rfl ?_
  refine q_ret 7 (some (.int (g 71 26)), g, u) (fun _ _ => rfl) ?_
  rfl
theorem cg_rule11 (g : qM) (u : qW) : q_BS 44 [.ref 8, .int (11 : Int32)] g u (some (.int (g 25 1)), g, u) := by
  refine q_bx (mm := m_44) rfl (Nat.le_of_ble_eq_true rfl) rfl ?_
  refine q_ret 19 (some (.int (g 25 1)), g, u) (fun _ _ => rfl) ?_
  rfl
theorem rg_rule11 (g : qM) (u : qW) : q_BS 167 [.ref 70, .int (11 : Int32)] g u (some (.int (g 71 21)), g, u) := by
  refine q_bx (mm := m_167) rfl (Nat.le_of_ble_eq_true rfl) rfl ?_
  refine q_step 8 88 [(0, .ref 70), (1, .int (11 : Int32))] [.long (4 : Int64), .long (1 : Int64), .long (1 : Int64)] g u (fun big n0 => sg_ez_90 big n0 g u) ?_
  refine q_call (M2 := 149) (rest := []) (show q_BS 149 [.long (1 : Int64), .long (1 : Int64), .long (4 : Int64)] g u (some (.int 1), g, u) from b_in _ _ _ _ _) (fun _ _ => rfl) ?_
  refine q_ret 11 (some (.int (g 71 21)), g, u) (fun _ _ => rfl) ?_
  rfl
theorem cg_rule12 (g : qM) (u : qW) : q_BS 44 [.ref 8, .int (12 : Int32)] g u (some (.int (g 25 2)), g, u) := by
  refine q_bx (mm := m_44) rfl (Nat.le_of_ble_eq_true rfl) rfl ?_
  refine q_ret 19 (some (.int (g 25 2)), g, u) (fun _ _ => rfl) ?_
  rfl
theorem rg_rule12 (g : qM) (u : qW) : q_BS 167 [.ref 70, .int (12 : Int32)] g u (some (.int (g 71 22)), g, u) := by
  refine q_bx (mm := m_167) rfl (Nat.le_of_ble_eq_true rfl) rfl ?_
  refine q_step 8 88 [(0, .ref 70), (1, .int (12 : Int32))] [.long (4 : Int64), .long (1 : Int64), .long (2 : Int64)] g u (fun big n0 => sg_ez_91 big n0 g u) ?_
  refine q_call (M2 := 149) (rest := []) (show q_BS 149 [.long (2 : Int64), .long (1 : Int64), .long (4 : Int64)] g u (some (.int 1), g, u) from b_in _ _ _ _ _) (fun _ _ => rfl) ?_
  refine q_ret 11 (some (.int (g 71 22)), g, u) (fun _ _ => rfl) ?_
  rfl
theorem cg_rule13 (g : qM) (u : qW) : q_BS 44 [.ref 8, .int (13 : Int32)] g u (some (.int (g 25 3)), g, u) := by
  refine q_bx (mm := m_44) rfl (Nat.le_of_ble_eq_true rfl) rfl ?_
  refine q_ret 19 (some (.int (g 25 3)), g, u) (fun _ _ => rfl) ?_
  rfl
theorem rg_rule13 (g : qM) (u : qW) : q_BS 167 [.ref 70, .int (13 : Int32)] g u (some (.int (g 71 23)), g, u) := by
  refine q_bx (mm := m_167) rfl (Nat.le_of_ble_eq_true rfl) rfl ?_
  refine q_step 8 88 [(0, .ref 70), (1, .int (13 : Int32))] [.long (4 : Int64), .long (1 : Int64), .long (3 : Int64)] g u (fun big n0 => sg_ez_92 big n0 g u) ?_
  refine q_call (M2 := 149) (rest := []) (show q_BS 149 [.long (3 : Int64), .long (1 : Int64), .long (4 : Int64)] g u (some (.int 1), g, u) from b_in _ _ _ _ _) (fun _ _ => rfl) ?_
  refine q_ret 11 (some (.int (g 71 23)), g, u) (fun _ _ => rfl) ?_
  rfl
theorem cg_rule14 (g : qM) (u : qW) : q_BS 44 [.ref 8, .int (14 : Int32)] g u (some (.int (g 25 4)), g, u) := by
  refine q_bx (mm := m_44) rfl (Nat.le_of_ble_eq_true rfl) rfl ?_
  refine q_ret 19 (some (.int (g 25 4)), g, u) (fun _ _ => rfl) ?_
  rfl
theorem rg_rule14 (g : qM) (u : qW) : q_BS 167 [.ref 70, .int (14 : Int32)] g u (some (.int (g 71 24)), g, u) := by
  refine q_bx (mm := m_167) rfl (Nat.le_of_ble_eq_true rfl) rfl ?_
  refine q_step 8 88 [(0, .ref 70), (1, .int (14 : Int32))] [.long (4 : Int64), .long (1 : Int64), .long (4 : Int64)] g u (fun big n0 => sg_ez_93 big n0 g u) ?_
  refine q_call (M2 := 149) (rest := []) (show q_BS 149 [.long (4 : Int64), .long (1 : Int64), .long (4 : Int64)] g u (some (.int 1), g, u) from b_in _ _ _ _ _) (fun _ _ => rfl) ?_
  refine q_ret 11 (some (.int (g 71 24)), g, u) (fun _ _ => rfl) ?_
  rfl
theorem cg_one0 {n : Nat} (g : qM) (u : qW) (hn : g 20 3 = Int32.ofNat n) (h6 : n ≤ 6) {p : Nat} (hp : p < n) : q_BS 45 [.ref 8, .int (Int32.ofNat p), .int (0 : Int32)] g u (some (.int (g 21 p)), g, u) := by
  refine q_bx (mm := m_45) rfl (Nat.le_of_ble_eq_true rfl) rfl ?_
  refine q_step 3 5 [(0, .ref 8), (1, .int (Int32.ofNat p)), (2, .int (0 : Int32))] [.int (Int32.ofNat p), .ref 20] g u (fun big n0 => sg_ez_94 big n0 g u (Int32.ofNat p)) ?_
  refine q_call (M2 := 40) (rest := []) (b_hasOne1 g u hn h6 hp) (fun _ _ => rfl) ?_
  refine q_step 7 52 [(0, .ref 8), (1, .int (Int32.ofNat p)), (2, .int (0 : Int32))] [.int (Int32.ofNat p), .ref 21] g u (fun big n0 => sg_ez_95 big n0 g u (Int32.ofNat p)) ?_
  refine q_iald (j := p) (q_ixn (by omega) (by omega)) rfl rfl ?_
  refine q_ret 1 (some (.int (g 21 p)), g, u) (fun _ _ => rfl) ?_
  rfl
theorem rg_one0 {n : Nat} (g : qM) (u : qW) (hn : g 70 4 = Int32.ofNat n) (h6 : n ≤ 5) {p : Nat} (hp : p < n) : q_BS 168 [.ref 70, .int (Int32.ofNat p), .int (0 : Int32)] g u (some (.int (g 71 (0 + p))), g, u) := by
  refine q_bx (mm := m_168) rfl (Nat.le_of_ble_eq_true rfl) rfl ?_
  refine q_step 2 2 [(0, .ref 70), (1, .int (Int32.ofNat p)), (2, .int (0 : Int32))] [.int (Int32.ofNat p), .ref 70] g u (fun big n0 => sg_ez_96 big n0 g u (Int32.ofNat p)) ?_
  refine q_call (M2 := 169) (rest := []) (b_risOne1 g u hn (by omega) hp) (fun _ _ => rfl) ?_
  refine q_step 5 14 [(0, .ref 70), (1, .int (Int32.ofNat p)), (2, .int (0 : Int32))] [.long (3 : Int64), .long (0 : Int64), .long (0 : Int64)] g u (fun big n0 => sg_ez_97 big n0 g u (Int32.ofNat p)) ?_
  refine q_call (M2 := 149) (rest := []) (show q_BS 149 [.long (0 : Int64), .long (0 : Int64), .long (3 : Int64)] g u (some (.int 1), g, u) from b_in _ _ _ _ _) (fun _ _ => rfl) ?_
  refine q_step 8 29 [(0, .ref 70), (1, .int (Int32.ofNat p)), (2, .int (0 : Int32))] [.int ((0 : Int32) + (Int32.ofNat p)), .ref 71] g u (fun big n0 => sg_ez_98 big n0 g u (Int32.ofNat p)) ?_
  refine q_iald (j := (0 + p)) (s_rixn (K := 0) (i := p) (by omega)) rfl rfl ?_
  refine q_ret 2 (some (.int (g 71 (0 + p))), g, u) (fun _ _ => rfl) ?_
  rfl
theorem cg_one1 {n : Nat} (g : qM) (u : qW) (hn : g 20 3 = Int32.ofNat n) (h6 : n ≤ 6) {p : Nat} (hp : p < n) : q_BS 45 [.ref 8, .int (Int32.ofNat p), .int (1 : Int32)] g u (some (.int (g 22 p)), g, u) := by
  refine q_bx (mm := m_45) rfl (Nat.le_of_ble_eq_true rfl) rfl ?_
  refine q_step 3 5 [(0, .ref 8), (1, .int (Int32.ofNat p)), (2, .int (1 : Int32))] [.int (Int32.ofNat p), .ref 20] g u (fun big n0 => sg_ez_99 big n0 g u (Int32.ofNat p)) ?_
  refine q_call (M2 := 40) (rest := []) (b_hasOne1 g u hn h6 hp) (fun _ _ => rfl) ?_
  refine q_step 7 62 [(0, .ref 8), (1, .int (Int32.ofNat p)), (2, .int (1 : Int32))] [.int (Int32.ofNat p), .ref 22] g u (fun big n0 => sg_ez_100 big n0 g u (Int32.ofNat p)) ?_
  refine q_iald (j := p) (q_ixn (by omega) (by omega)) rfl rfl ?_
  refine q_ret 1 (some (.int (g 22 p)), g, u) (fun _ _ => rfl) ?_
  rfl
theorem rg_one1 {n : Nat} (g : qM) (u : qW) (hn : g 70 4 = Int32.ofNat n) (h6 : n ≤ 5) {p : Nat} (hp : p < n) : q_BS 168 [.ref 70, .int (Int32.ofNat p), .int (1 : Int32)] g u (some (.int (g 71 (5 + p))), g, u) := by
  refine q_bx (mm := m_168) rfl (Nat.le_of_ble_eq_true rfl) rfl ?_
  refine q_step 2 2 [(0, .ref 70), (1, .int (Int32.ofNat p)), (2, .int (1 : Int32))] [.int (Int32.ofNat p), .ref 70] g u (fun big n0 => sg_ez_101 big n0 g u (Int32.ofNat p)) ?_
  refine q_call (M2 := 169) (rest := []) (b_risOne1 g u hn (by omega) hp) (fun _ _ => rfl) ?_
  refine q_step 5 14 [(0, .ref 70), (1, .int (Int32.ofNat p)), (2, .int (1 : Int32))] [.long (3 : Int64), .long (0 : Int64), .long (1 : Int64)] g u (fun big n0 => sg_ez_102 big n0 g u (Int32.ofNat p)) ?_
  refine q_call (M2 := 149) (rest := []) (show q_BS 149 [.long (1 : Int64), .long (0 : Int64), .long (3 : Int64)] g u (some (.int 1), g, u) from b_in _ _ _ _ _) (fun _ _ => rfl) ?_
  refine q_step 8 29 [(0, .ref 70), (1, .int (Int32.ofNat p)), (2, .int (1 : Int32))] [.int ((5 : Int32) + (Int32.ofNat p)), .ref 71] g u (fun big n0 => sg_ez_103 big n0 g u (Int32.ofNat p)) ?_
  refine q_iald (j := (5 + p)) (s_rixn (K := 5) (i := p) (by omega)) rfl rfl ?_
  refine q_ret 2 (some (.int (g 71 (5 + p))), g, u) (fun _ _ => rfl) ?_
  rfl
theorem cg_one2 {n : Nat} (g : qM) (u : qW) (hn : g 20 3 = Int32.ofNat n) (h6 : n ≤ 6) {p : Nat} (hp : p < n) : q_BS 45 [.ref 8, .int (Int32.ofNat p), .int (2 : Int32)] g u (some (.int (g 23 p)), g, u) := by
  refine q_bx (mm := m_45) rfl (Nat.le_of_ble_eq_true rfl) rfl ?_
  refine q_step 3 5 [(0, .ref 8), (1, .int (Int32.ofNat p)), (2, .int (2 : Int32))] [.int (Int32.ofNat p), .ref 20] g u (fun big n0 => sg_ez_104 big n0 g u (Int32.ofNat p)) ?_
  refine q_call (M2 := 40) (rest := []) (b_hasOne1 g u hn h6 hp) (fun _ _ => rfl) ?_
  refine q_step 7 72 [(0, .ref 8), (1, .int (Int32.ofNat p)), (2, .int (2 : Int32))] [.int (Int32.ofNat p), .ref 23] g u (fun big n0 => sg_ez_105 big n0 g u (Int32.ofNat p)) ?_
  refine q_iald (j := p) (q_ixn (by omega) (by omega)) rfl rfl ?_
  refine q_ret 1 (some (.int (g 23 p)), g, u) (fun _ _ => rfl) ?_
  rfl
theorem rg_one2 {n : Nat} (g : qM) (u : qW) (hn : g 70 4 = Int32.ofNat n) (h6 : n ≤ 5) {p : Nat} (hp : p < n) : q_BS 168 [.ref 70, .int (Int32.ofNat p), .int (2 : Int32)] g u (some (.int (g 71 (10 + p))), g, u) := by
  refine q_bx (mm := m_168) rfl (Nat.le_of_ble_eq_true rfl) rfl ?_
  refine q_step 2 2 [(0, .ref 70), (1, .int (Int32.ofNat p)), (2, .int (2 : Int32))] [.int (Int32.ofNat p), .ref 70] g u (fun big n0 => sg_ez_106 big n0 g u (Int32.ofNat p)) ?_
  refine q_call (M2 := 169) (rest := []) (b_risOne1 g u hn (by omega) hp) (fun _ _ => rfl) ?_
  refine q_step 5 14 [(0, .ref 70), (1, .int (Int32.ofNat p)), (2, .int (2 : Int32))] [.long (3 : Int64), .long (0 : Int64), .long (2 : Int64)] g u (fun big n0 => sg_ez_107 big n0 g u (Int32.ofNat p)) ?_
  refine q_call (M2 := 149) (rest := []) (show q_BS 149 [.long (2 : Int64), .long (0 : Int64), .long (3 : Int64)] g u (some (.int 1), g, u) from b_in _ _ _ _ _) (fun _ _ => rfl) ?_
  refine q_step 8 29 [(0, .ref 70), (1, .int (Int32.ofNat p)), (2, .int (2 : Int32))] [.int ((10 : Int32) + (Int32.ofNat p)), .ref 71] g u (fun big n0 => sg_ez_108 big n0 g u (Int32.ofNat p)) ?_
  refine q_iald (j := (10 + p)) (s_rixn (K := 10) (i := p) (by omega)) rfl rfl ?_
  refine q_ret 2 (some (.int (g 71 (10 + p))), g, u) (fun _ _ => rfl) ?_
  rfl
theorem cg_one3 {n : Nat} (g : qM) (u : qW) (hn : g 20 3 = Int32.ofNat n) (h6 : n ≤ 6) {p : Nat} (hp : p < n) : q_BS 45 [.ref 8, .int (Int32.ofNat p), .int (3 : Int32)] g u (some (.int (g 24 p)), g, u) := by
  refine q_bx (mm := m_45) rfl (Nat.le_of_ble_eq_true rfl) rfl ?_
  refine q_step 3 5 [(0, .ref 8), (1, .int (Int32.ofNat p)), (2, .int (3 : Int32))] [.int (Int32.ofNat p), .ref 20] g u (fun big n0 => sg_ez_109 big n0 g u (Int32.ofNat p)) ?_
  refine q_call (M2 := 40) (rest := []) (b_hasOne1 g u hn h6 hp) (fun _ _ => rfl) ?_
  refine q_step 7 82 [(0, .ref 8), (1, .int (Int32.ofNat p)), (2, .int (3 : Int32))] [.int (Int32.ofNat p), .ref 24] g u (fun big n0 => sg_ez_110 big n0 g u (Int32.ofNat p)) ?_
  refine q_iald (j := p) (q_ixn (by omega) (by omega)) rfl rfl ?_
  refine q_ret 1 (some (.int (g 24 p)), g, u) (fun _ _ => rfl) ?_
  rfl
theorem rg_one3 {n : Nat} (g : qM) (u : qW) (hn : g 70 4 = Int32.ofNat n) (h6 : n ≤ 5) {p : Nat} (hp : p < n) : q_BS 168 [.ref 70, .int (Int32.ofNat p), .int (3 : Int32)] g u (some (.int (g 71 (15 + p))), g, u) := by
  refine q_bx (mm := m_168) rfl (Nat.le_of_ble_eq_true rfl) rfl ?_
  refine q_step 2 2 [(0, .ref 70), (1, .int (Int32.ofNat p)), (2, .int (3 : Int32))] [.int (Int32.ofNat p), .ref 70] g u (fun big n0 => sg_ez_111 big n0 g u (Int32.ofNat p)) ?_
  refine q_call (M2 := 169) (rest := []) (b_risOne1 g u hn (by omega) hp) (fun _ _ => rfl) ?_
  refine q_step 5 14 [(0, .ref 70), (1, .int (Int32.ofNat p)), (2, .int (3 : Int32))] [.long (3 : Int64), .long (0 : Int64), .long (3 : Int64)] g u (fun big n0 => sg_ez_112 big n0 g u (Int32.ofNat p)) ?_
  refine q_call (M2 := 149) (rest := []) (show q_BS 149 [.long (3 : Int64), .long (0 : Int64), .long (3 : Int64)] g u (some (.int 1), g, u) from b_in _ _ _ _ _) (fun _ _ => rfl) ?_
  refine q_step 8 29 [(0, .ref 70), (1, .int (Int32.ofNat p)), (2, .int (3 : Int32))] [.int ((15 : Int32) + (Int32.ofNat p)), .ref 71] g u (fun big n0 => sg_ez_113 big n0 g u (Int32.ofNat p)) ?_
  refine q_iald (j := (15 + p)) (s_rixn (K := 15) (i := p) (by omega)) rfl rfl ?_
  refine q_ret 2 (some (.int (g 71 (15 + p))), g, u) (fun _ _ => rfl) ?_
  rfl
theorem cg_keep0 (g : qM) (u : qW) : q_BS 128 [.ref 8, .int (0 : Int32)] g u (some (.int (s_bit (g 8 7) 0)), q_up (s_cpy 45 20 g) 8 7 (g 8 7 ||| ((1 : Int32) <<< ((0 : Int32) &&& 31))), u) := by
  refine q_bx (mm := m_128) rfl (Nat.le_of_ble_eq_true rfl) rfl ?_
  refine q_step 18 30 [(0, .ref 8), (1, .int (0 : Int32)), (2, .int (((g 8 7) >>> ((0 : Int32) &&& 31)) &&& (1 : Int32)))] [.ref 20, .ref 45] g u (fun big n0 => sg_ez_114 big n0 g u) ?_
  refine q_call (M2 := 41) (rest := []) (b_cpy45_20 _ _) (fun _ _ => rfl) ?_
  refine q_ret 10 (some (.int (((g 8 7) >>> ((0 : Int32) &&& 31)) &&& (1 : Int32))), (q_up (s_cpy 45 20 g) 8 7 (((s_cpy 45 20 g) 8 7) ||| ((1 : Int32) <<< ((0 : Int32) &&& 31)))), u) (fun _ _ => rfl) ?_
  rfl
theorem cg_back0 (g : qM) (u : qW) (hk : ¬ s_bit (g 8 7) 0 = 0) : q_BS 129 [.ref 8, .int (0 : Int32)] g u (some (.int ((s_cpy 20 45 g) 20 5)), s_cpy 20 45 g, u) := by
  refine q_bx (mm := m_129) rfl (Nat.le_of_ble_eq_true rfl) rfl ?_
  refine q_step 11 19 [(0, .ref 8), (1, .int (0 : Int32))] [.int (((g 8 7) >>> ((0 : Int32) &&& 31)) &&& (1 : Int32))] g u (fun big n0 => sg_ez_115 big n0 g u) ?_
  refine q_if_ne rfl (fun hc0 => absurd (show (((g 8 7) >>> ((0 : Int32) &&& 31)) &&& (1 : Int32)) = 0 from hc0) (hk)) (fun (hc0 : ¬ ((((g 8 7) >>> ((0 : Int32) &&& 31)) &&& (1 : Int32)) = 0)) => ?_)
  refine q_step 6 35 [(0, .ref 8), (1, .int (0 : Int32))] [.ref 45, .ref 20] g u (fun big n0 => sg_ez_116 big n0 g u) ?_
  refine q_call (M2 := 41) (rest := []) (b_cpy20_45 _ _) (fun _ _ => rfl) ?_
  refine q_ret 4 (some (.int ((s_cpy 20 45 g) 20 5)), (s_cpy 20 45 g), u) (fun _ _ => rfl) ?_
  rfl
theorem cg_back0n (g : qM) (u : qW) (hk : s_bit (g 8 7) 0 = 0) : q_BS 129 [.ref 8, .int (0 : Int32)] g u (some (.int (Int32.ofInt (-2))), g, u) := by
  refine q_bx (mm := m_129) rfl (Nat.le_of_ble_eq_true rfl) rfl ?_
  refine q_step 11 19 [(0, .ref 8), (1, .int (0 : Int32))] [.int (((g 8 7) >>> ((0 : Int32) &&& 31)) &&& (1 : Int32))] g u (fun big n0 => sg_ez_115 big n0 g u) ?_
  refine q_if_ne rfl (fun (hc0 : (((g 8 7) >>> ((0 : Int32) &&& 31)) &&& (1 : Int32)) = 0) => ?_) (fun hc0 => absurd (show (((g 8 7) >>> ((0 : Int32) &&& 31)) &&& (1 : Int32)) = 0 from hk) hc0)
  refine q_ret 2 (some (.int (Int8.toInt32 (Int8.ofInt (-2)))), g, u) (fun _ _ => rfl) ?_
  rfl
theorem cg_keep1 (g : qM) (u : qW) : q_BS 128 [.ref 8, .int (1 : Int32)] g u (some (.int (s_bit (g 8 7) 1)), q_up (s_cpy 53 20 g) 8 7 (g 8 7 ||| ((1 : Int32) <<< ((1 : Int32) &&& 31))), u) := by
  refine q_bx (mm := m_128) rfl (Nat.le_of_ble_eq_true rfl) rfl ?_
  refine q_step 18 30 [(0, .ref 8), (1, .int (1 : Int32)), (2, .int (((g 8 7) >>> ((1 : Int32) &&& 31)) &&& (1 : Int32)))] [.ref 20, .ref 53] g u (fun big n0 => sg_ez_117 big n0 g u) ?_
  refine q_call (M2 := 41) (rest := []) (b_cpy53_20 _ _) (fun _ _ => rfl) ?_
  refine q_ret 10 (some (.int (((g 8 7) >>> ((1 : Int32) &&& 31)) &&& (1 : Int32))), (q_up (s_cpy 53 20 g) 8 7 (((s_cpy 53 20 g) 8 7) ||| ((1 : Int32) <<< ((1 : Int32) &&& 31)))), u) (fun _ _ => rfl) ?_
  rfl
theorem cg_back1 (g : qM) (u : qW) (hk : ¬ s_bit (g 8 7) 1 = 0) : q_BS 129 [.ref 8, .int (1 : Int32)] g u (some (.int ((s_cpy 20 53 g) 20 5)), s_cpy 20 53 g, u) := by
  refine q_bx (mm := m_129) rfl (Nat.le_of_ble_eq_true rfl) rfl ?_
  refine q_step 11 19 [(0, .ref 8), (1, .int (1 : Int32))] [.int (((g 8 7) >>> ((1 : Int32) &&& 31)) &&& (1 : Int32))] g u (fun big n0 => sg_ez_118 big n0 g u) ?_
  refine q_if_ne rfl (fun hc0 => absurd (show (((g 8 7) >>> ((1 : Int32) &&& 31)) &&& (1 : Int32)) = 0 from hc0) (hk)) (fun (hc0 : ¬ ((((g 8 7) >>> ((1 : Int32) &&& 31)) &&& (1 : Int32)) = 0)) => ?_)
  refine q_step 6 35 [(0, .ref 8), (1, .int (1 : Int32))] [.ref 53, .ref 20] g u (fun big n0 => sg_ez_119 big n0 g u) ?_
  refine q_call (M2 := 41) (rest := []) (b_cpy20_53 _ _) (fun _ _ => rfl) ?_
  refine q_ret 4 (some (.int ((s_cpy 20 53 g) 20 5)), (s_cpy 20 53 g), u) (fun _ _ => rfl) ?_
  rfl
theorem cg_back1n (g : qM) (u : qW) (hk : s_bit (g 8 7) 1 = 0) : q_BS 129 [.ref 8, .int (1 : Int32)] g u (some (.int (Int32.ofInt (-2))), g, u) := by
  refine q_bx (mm := m_129) rfl (Nat.le_of_ble_eq_true rfl) rfl ?_
  refine q_step 11 19 [(0, .ref 8), (1, .int (1 : Int32))] [.int (((g 8 7) >>> ((1 : Int32) &&& 31)) &&& (1 : Int32))] g u (fun big n0 => sg_ez_118 big n0 g u) ?_
  refine q_if_ne rfl (fun (hc0 : (((g 8 7) >>> ((1 : Int32) &&& 31)) &&& (1 : Int32)) = 0) => ?_) (fun hc0 => absurd (show (((g 8 7) >>> ((1 : Int32) &&& 31)) &&& (1 : Int32)) = 0 from hk) hc0)
  refine q_ret 2 (some (.int (Int8.toInt32 (Int8.ofInt (-2)))), g, u) (fun _ _ => rfl) ?_
  rfl
end
