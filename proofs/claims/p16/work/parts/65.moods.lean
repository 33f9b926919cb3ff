/-! MOODS of all that FIT. -/
/-- what was seen, as r has it: z of them -/
def w_se (n z : Nat) (r : qM) : Prop := r 71 27 = Int32.ofNat z ∧ z ≤ 8 ∧ ∀ k, k < z → ∃ q, q < n ∧ r 71 (28 + 2 * k) = Int32.ofNat q
/-- the class has it so, too -/
def w_sc (T z : Nat) (g r : qM) : Prop := g T 6 = Int32.ofNat z ∧ ∀ k, k < z → g (T + 6) k = r 71 (28 + 2 * k) ∧ g (T + 7) k = r 71 (29 + 2 * k)
/-- all that was seen is so, by the STEP r' -/
def n_fit (r' r : qM) : Nat → Nat → Nat
  | 0, _ => 1
  | k + 1, i => if r' 80 (r 71 (28 + 2 * i)).toInt.toNat = r 71 (29 + 2 * i) then n_fit r' r k (i + 1) else 0
def p_fit (n z : Nat) (r : qM) (row : Nat) : Int32 := if n_fit (s_rst n (gh_mo n row r)) r z 0 = 0 then 0 else 1
theorem p_fit_01 (n z : Nat) (r : qM) (row : Nat) : p_fit n z r row = 0 ∨ p_fit n z r row = 1 := s_10 _
def f_is (r' r : qM) : Nat → Nat → Int32 → Int32
  | 0, _, a => a
  | k + 1, i, a => f_is r' r k (i + 1) (if a = 0 then 0 else if r' 80 (r 71 (28 + 2 * i)).toInt.toNat = r 71 (29 + 2 * i) then 1 else 0)
theorem f_is_0 {r' r : qM} : ∀ k i, f_is r' r k i 0 = 0
  | 0, _ => rfl
  | k + 1, i => by
    rw [f_is, if_pos rfl, f_is_0 k (i + 1)]
theorem f_is_1 {r' r : qM} : ∀ k i, f_is r' r k i 1 = if n_fit r' r k i = 0 then 0 else 1
  | 0, _ => rfl
  | k + 1, i => by
    rw [f_is, n_fit, if_neg (by decide)]
    by_cases e : r' 80 (r 71 (28 + 2 * i)).toInt.toNat = r 71 (29 + 2 * i)
    · rw [if_pos e, if_pos e, f_is_1 k (i + 1)]
    · rw [if_neg e, if_neg e, f_is_0, if_pos rfl]
/-- MOODS one can have -/
def f_bm (n p z : Nat) (r : qM) : Nat → Nat → Int32 → Int32
  | 0, _, a => a
  | k + 1, row, a => f_bm n p z r k (row + 1) (if p_fit n z r row = 0 then a else a ||| ((1 : Int32) <<< (f_md n row p &&& 31)))
/-- what moods() answers -/
def f_mo0 (n z : Nat) (r : qM) : Int32 := s_ct (p_fit n z r) (4 ^ n) 0 0
def f_mop (n p z : Nat) (r : qM) : Int32 := f_bm n p z r (4 ^ n) 0 0
def s_fim (n row : Nat) (g : qM) : qM := s_step 35 n (s_rgm n row g)
theorem s_fim_fc {n row : Nat} {g : qM} : w_fc g (s_fim n row g) := w_fc.trans (w_fc.trans w_cpl_fc (fun b hb => s_row_o (by omega))) s_step_35
theorem s_rgm_tr {n row : Nat} {g r : qM} (h : w_tr n g r) : w_tr n (s_rgm n row g) r := w_tr_cg (w_tr_cpl h) (fun j _ => by unfold s_rgm; rw [s_row_o (by omega)]) (by unfold s_rgm; exact s_row_o (by omega)) (by unfold s_rgm; exact s_row_o (by omega))
theorem s_fim_tr {n row : Nat} {g r : qM} (h : w_tr n g r) : w_tr n (s_fim n row g) r := w_tr_step (s_rgm_tr h)
theorem w_sc_fc {z : Nat} {g g' r : qM} (hf : w_fc g g') (h : w_sc 20 z g r) : w_sc 20 z g' r := by
  refine ⟨?_, fun k hk => ⟨?_, ?_⟩⟩
  · rw [hf 20 (by omega)]; exact h.1
  · show g' 26 k = _
    rw [hf 26 (by omega)]; exact (h.2 k hk).1
  · show g' 27 k = _
    rw [hf 27 (by omega)]; exact (h.2 k hk).2
def p_deed (g : qM) (q : Nat) : Int32 := if s_bit (g 28 5) (Int32.ofNat q) = 0 then 4 else g 33 q
theorem w_deed {n W H q : Nat} {g r : qM} (h : w_ok n W H r) (hc : w_cs 35 n g r) (hq : q < n) : p_deed (s_step 35 n g) q = s_rst n r 80 q := by
  have w := w_step35 h hc
  have a := w.2.2.2.1 q hq
  unfold p_deed
  by_cases z : s_rst n r 80 q = 4
  · rw [if_pos (a.1.mpr z), z]
  · rw [if_neg (fun y => z (a.1.mp y)), w.2.2.1 q hq]
    rcases a.2 with b | b
    · exact absurd b z
    · exact b.symm
theorem sg_mo_1 (big : Nat → List Value → qM → qW → qR) (n0 : Nat) (G : qM) (U : qW) (v0 : Int32) : qm_run pm_m big m_123 (n0 + 2) 0 [(0, .ref 28), (1, .int v0)] [] G U = qm_run pm_m big m_123 n0 2 [(0, .ref 28), (1, .int v0)] [.int v0, .ref 28] G U := rfl
theorem sg_mo_2 (big : Nat → List Value → qM → qW → qR) (n0 : Nat) (G : qM) (U : qW) (v0 : Int32) : qm_run pm_m big m_123 (n0 + 4) 5 [(0, .ref 28), (1, .int v0)] [.int (1 : Int32)] G U = qm_run pm_m big m_123 n0 13 [(0, .ref 28), (1, .int v0)] [.int v0, .ref 33] G U := rfl
theorem sg_mo_3 (big : Nat → List Value → qM → qW → qR) (n0 : Nat) (G : qM) (U : qW) (v0 : Int32) (v1 : Int32) : qm_run pm_m big m_122 (n0 + 3) 29 [(0, .ref 34), (1, .ref 20), (2, .int v0), (3, .int v1)] [] G U = qm_run pm_m big m_122 n0 34 [(0, .ref 34), (1, .ref 20), (2, .int v0), (3, .int v1)] [.int (G 20 6), .int v1] G U := rfl
theorem sg_mo_4 (big : Nat → List Value → qM → qW → qR) (n0 : Nat) (G : qM) (U : qW) (v0 : Int32) (v1 : Int32) : qm_run pm_m big m_122 (n0 + 5) 37 [(0, .ref 34), (1, .ref 20), (2, .int v0), (3, .int v1)] [] G U = qm_run pm_m big m_122 n0 46 [(0, .ref 34), (1, .ref 20), (2, .int v0), (3, .int v1)] [.int v1, .ref 26, .ref 28] G U := rfl
theorem sg_mo_5 (big : Nat → List Value → qM → qW → qR) (n0 : Nat) (G : qM) (U : qW) (v0 : Int32) (v1 : Int32) (v2 : Int32) : qm_run pm_m big m_122 (n0 + 3) 50 [(0, .ref 34), (1, .ref 20), (2, .int v0), (3, .int v1)] [.int v2] G U = qm_run pm_m big m_122 n0 55 [(0, .ref 34), (1, .ref 20), (2, .int v0), (3, .int v1)] [.int v1, .ref 27, .int v2] G U := rfl
theorem sg_mo_6 (big : Nat → List Value → qM → qW → qR) (n0 : Nat) (G : qM) (U : qW) (v0 : Int32) (v1 : Int32) : qm_run pm_m big m_122 (n0 + 2) 61 [(0, .ref 34), (1, .ref 20), (2, .int v0), (3, .int v1)] [] G U = qm_run pm_m big m_122 n0 29 [(0, .ref 34), (1, .ref 20), (2, .int v0), (3, .int (v1 + (1 : Int32)))] [] G U := rfl
theorem sg_mo_7 (big : Nat → List Value → qM → qW → qR) (n0 : Nat) (G : qM) (U : qW) (v0 : Int32) : qm_run pm_m big m_122 (n0 + 3) 0 [(0, .ref 34), (1, .ref 20), (2, .int v0)] [] G U = qm_run pm_m big m_122 n0 5 [(0, .ref 34), (1, .ref 20), (2, .int v0)] [.ref 20, .ref 35] G U := rfl
theorem sg_mo_8 (big : Nat → List Value → qM → qW → qR) (n0 : Nat) (G : qM) (U : qW) (v0 : Int32) : qm_run pm_m big m_122 (n0 + 3) 8 [(0, .ref 34), (1, .ref 20), (2, .int v0)] [] G U = qm_run pm_m big m_122 n0 13 [(0, .ref 34), (1, .ref 20), (2, .int v0)] [.int v0, .ref 35] G U := rfl
theorem sg_mo_9 (big : Nat → List Value → qM → qW → qR) (n0 : Nat) (G : qM) (U : qW) (v0 : Int32) : qm_run pm_m big m_122 (n0 + 4) 16 [(0, .ref 34), (1, .ref 20), (2, .int v0)] [] G U = qm_run pm_m big m_122 n0 24 [(0, .ref 34), (1, .ref 20), (2, .int v0)] [.ref 35, .ref 28] G U := rfl
theorem sg_mo_10 (big : Nat → List Value → qM → qW → qR) (n0 : Nat) (G : qM) (U : qW) (v0 : Int32) : qm_run pm_m big m_122 (n0 + 2) 27 [(0, .ref 34), (1, .ref 20), (2, .int v0)] [] G U = qm_run pm_m big m_122 n0 29 [(0, .ref 34), (1, .ref 20), (2, .int v0), (3, .int (0 : Int32))] [] G U := rfl
theorem sg_mo_11 (big : Nat → List Value → qM → qW → qR) (n0 : Nat) (G : qM) (U : qW) (v0 : Int32) (v1 : Int32) : qm_run pm_m big m_121 (n0 + 3) 12 [(0, .ref 34), (1, .ref 20), (2, .int v0), (3, .int v1)] [] G U = qm_run pm_m big m_121 n0 17 [(0, .ref 34), (1, .ref 20), (2, .int v0), (3, .int v1)] [.int (G 20 3), .int v1] G U := rfl
theorem sg_mo_12 (big : Nat → List Value → qM → qW → qR) (n0 : Nat) (G : qM) (U : qW) (v0 : Int32) (v1 : Int32) : qm_run pm_m big m_121 (n0 + 4) 23 [(0, .ref 34), (1, .ref 20), (2, .int v0), (3, .int v1)] [] G U = qm_run pm_m big m_121 n0 27 [(0, .ref 34), (1, .ref 20), (2, .int v0), (3, .int v1)] [.int v1, .ref 20, .ref 34, .int v0] G U := rfl
theorem sg_mo_13 (big : Nat → List Value → qM → qW → qR) (n0 : Nat) (G : qM) (U : qW) (v0 : Int32) (v1 : Int32) (v2 : Int32) : qm_run pm_m big m_121 (n0 + 6) 30 [(0, .ref 34), (1, .ref 20), (2, .int v0), (3, .int v1)] [.int (0 : Int32), .int v2] G U = qm_run pm_m big m_121 n0 12 [(0, .ref 34), (1, .ref 20), (2, .int (v2 + (0 : Int32))), (3, .int (v1 + (1 : Int32)))] [] G U := rfl
theorem sg_mo_14 (big : Nat → List Value → qM → qW → qR) (n0 : Nat) (G : qM) (U : qW) (v0 : Int32) (v1 : Int32) (v2 : Int32) : qm_run pm_m big m_121 (n0 + 7) 30 [(0, .ref 34), (1, .ref 20), (2, .int v0), (3, .int v1)] [.int (1 : Int32), .int v2] G U = qm_run pm_m big m_121 n0 12 [(0, .ref 34), (1, .ref 20), (2, .int (v2 + (1 : Int32))), (3, .int (v1 + (1 : Int32)))] [] G U := rfl
theorem sg_mo_15 (big : Nat → List Value → qM → qW → qR) (n0 : Nat) (G : qM) (U : qW) : qm_run pm_m big m_121 (n0 + 3) 0 [(0, .ref 34), (1, .ref 20)] [] G U = qm_run pm_m big m_121 n0 5 [(0, .ref 34), (1, .ref 20)] [.ref 20, .ref 35] G U := rfl
theorem sg_mo_16 (big : Nat → List Value → qM → qW → qR) (n0 : Nat) (G : qM) (U : qW) : qm_run pm_m big m_121 (n0 + 4) 8 [(0, .ref 34), (1, .ref 20)] [] G U = qm_run pm_m big m_121 n0 12 [(0, .ref 34), (1, .ref 20), (2, .int (0 : Int32)), (3, .int (0 : Int32))] [] G U := rfl
theorem sg_mo_17 (big : Nat → List Value → qM → qW → qR) (n0 : Nat) (G : qM) (U : qW) (v0 : Int32) (v1 : Int32) (v2 : Int32) : qm_run pm_m big m_124 (n0 + 3) 13 [(0, .ref 34), (1, .ref 20), (2, .int v0), (3, .int v1), (4, .int v2)] [] G U = qm_run pm_m big m_124 n0 19 [(0, .ref 34), (1, .ref 20), (2, .int v0), (3, .int v1), (4, .int v2)] [.int (G 20 3), .int v2] G U := rfl
theorem sg_mo_18 (big : Nat → List Value → qM → qW → qR) (n0 : Nat) (G : qM) (U : qW) (v0 : Int32) (v1 : Int32) (v2 : Int32) : qm_run pm_m big m_124 (n0 + 4) 25 [(0, .ref 34), (1, .ref 20), (2, .int v0), (3, .int v1), (4, .int v2)] [] G U = qm_run pm_m big m_124 n0 30 [(0, .ref 34), (1, .ref 20), (2, .int v0), (3, .int v1), (4, .int v2)] [.int v2, .ref 20, .ref 34, .int v1] G U := rfl
theorem sg_mo_19 (big : Nat → List Value → qM → qW → qR) (n0 : Nat) (G : qM) (U : qW) (v0 : Int32) (v1 : Int32) (v2 : Int32) (v3 : Int32) : qm_run pm_m big m_124 (n0 + 6) 33 [(0, .ref 34), (1, .ref 20), (2, .int v0), (3, .int v1), (4, .int v2)] [.int (0 : Int32), .int v3] G U = qm_run pm_m big m_124 n0 13 [(0, .ref 34), (1, .ref 20), (2, .int v0), (3, .int (v3 ||| (0 : Int32))), (4, .int (v2 + (1 : Int32)))] [] G U := rfl
theorem sg_mo_20 (big : Nat → List Value → qM → qW → qR) (n0 : Nat) (G : qM) (U : qW) (v0 : Int32) (v1 : Int32) (v2 : Int32) (v3 : Int32) : qm_run pm_m big m_124 (n0 + 5) 33 [(0, .ref 34), (1, .ref 20), (2, .int v0), (3, .int v1), (4, .int v2)] [.int (1 : Int32), .int v3] G U = qm_run pm_m big m_124 n0 41 [(0, .ref 34), (1, .ref 20), (2, .int v0), (3, .int v1), (4, .int v2)] [.int v0, .int v2, .ref 20, .int (1 : Int32), .int v3] G U := rfl
theorem sg_mo_21 (big : Nat → List Value → qM → qW → qR) (n0 : Nat) (G : qM) (U : qW) (v0 : Int32) (v1 : Int32) (v2 : Int32) (v3 : Int32) (v4 : Int32) : qm_run pm_m big m_124 (n0 + 6) 44 [(0, .ref 34), (1, .ref 20), (2, .int v0), (3, .int v1), (4, .int v2)] [.int v4, .int (1 : Int32), .int v3] G U = qm_run pm_m big m_124 n0 13 [(0, .ref 34), (1, .ref 20), (2, .int v0), (3, .int (v3 ||| ((1 : Int32) <<< (v4 &&& 31)))), (4, .int (v2 + (1 : Int32)))] [] G U := rfl
theorem sg_mo_22 (big : Nat → List Value → qM → qW → qR) (n0 : Nat) (G : qM) (U : qW) (v0 : Int32) : qm_run pm_m big m_124 (n0 + 3) 0 [(0, .ref 34), (1, .ref 20), (2, .int v0)] [] G U = qm_run pm_m big m_124 n0 5 [(0, .ref 34), (1, .ref 20), (2, .int v0)] [.ref 20, .ref 35] G U := rfl
theorem sg_mo_23 (big : Nat → List Value → qM → qW → qR) (n0 : Nat) (G : qM) (U : qW) (v0 : Int32) : qm_run pm_m big m_124 (n0 + 4) 8 [(0, .ref 34), (1, .ref 20), (2, .int v0)] [] G U = qm_run pm_m big m_124 n0 13 [(0, .ref 34), (1, .ref 20), (2, .int v0), (3, .int (0 : Int32)), (4, .int (0 : Int32))] [] G U := rfl
theorem sg_mo_24 (big : Nat → List Value → qM → qW → qR) (n0 : Nat) (G : qM) (U : qW) : qm_run pm_m big m_120 (n0 + 2) 0 [(0, .ref 8), (1, .int (0 : Int32))] [] G U = qm_run pm_m big m_120 n0 2 [(0, .ref 8), (1, .int (0 : Int32))] [.int (0 : Int32), .ref 8] G U := rfl
theorem sg_mo_25 (big : Nat → List Value → qM → qW → qR) (n0 : Nat) (G : qM) (U : qW) : qm_run pm_m big m_120 (n0 + 7) 5 [(0, .ref 8), (1, .int (0 : Int32))] [.int (1 : Int32)] G U = qm_run pm_m big m_120 n0 22 [(0, .ref 8), (1, .int (0 : Int32))] [.ref 20, .ref 34] G U := rfl
theorem sg_mo_26 (big : Nat → List Value → qM → qW → qR) (n0 : Nat) (G : qM) (U : qW) (v0 : Int32) : qm_run pm_m big m_120 (n0 + 2) 0 [(0, .ref 8), (1, .int v0)] [] G U = qm_run pm_m big m_120 n0 2 [(0, .ref 8), (1, .int v0)] [.int v0, .ref 8] G U := rfl
theorem sg_mo_27 (big : Nat → List Value → qM → qW → qR) (n0 : Nat) (G : qM) (U : qW) (v0 : Int32) : qm_run pm_m big m_120 (n0 + 2) 5 [(0, .ref 8), (1, .int v0)] [.int (1 : Int32)] G U = qm_run pm_m big m_120 n0 11 [(0, .ref 8), (1, .int v0)] [.int v0] G U := rfl
theorem sg_mo_28 (big : Nat → List Value → qM → qW → qR) (n0 : Nat) (G : qM) (U : qW) (v0 : Int32) : qm_run pm_m big m_120 (n0 + 7) 28 [(0, .ref 8), (1, .int v0)] [] G U = qm_run pm_m big m_120 n0 40 [(0, .ref 8), (1, .int v0)] [.int (v0 - (10 : Int32)), .ref 20, .ref 34] G U := rfl
theorem sg_mo_29 (big : Nat → List Value → qM → qW → qR) (n0 : Nat) (G : qM) (U : qW) (v0 : Int32) (v1 : Int32) (v2 : Int32) (v3 : Int32) (v4 : Int32) : qm_run pm_m big m_214 (n0 + 3) 43 [(0, .ref 70), (1, .int v0), (2, .int v1), (3, .int v2), (4, .int v3), (5, .int v4)] [] G U = qm_run pm_m big m_214 n0 49 [(0, .ref 70), (1, .int v0), (2, .int v1), (3, .int v2), (4, .int v3), (5, .int v4)] [.int (G 70 4), .int v4] G U := rfl
theorem sg_mo_30 (big : Nat → List Value → qM → qW → qR) (n0 : Nat) (G : qM) (U : qW) (v0 : Int32) (v1 : Int32) (v2 : Int32) (v3 : Int32) (v4 : Int32) : qm_run pm_m big m_214 (n0 + 6) 52 [(0, .ref 70), (1, .int v0), (2, .int v1), (3, .int v2), (4, .int v3), (5, .int v4)] [] G U = qm_run pm_m big m_214 n0 63 [(0, .ref 70), (1, .int v0), (2, .int v1), (3, .int v2), (4, .int v3), (5, .int v4)] [.int v4, .int v3, .ref 70, .int v4, .ref 76] G U := rfl
theorem sg_mo_31 (big : Nat → List Value → qM → qW → qR) (n0 : Nat) (G : qM) (U : qW) (v0 : Int32) (v1 : Int32) (v2 : Int32) (v3 : Int32) (v4 : Int32) : qm_run pm_m big m_214 (n0 + 2) 67 [(0, .ref 70), (1, .int v0), (2, .int v1), (3, .int v2), (4, .int v3), (5, .int v4)] [] G U = qm_run pm_m big m_214 n0 43 [(0, .ref 70), (1, .int v0), (2, .int v1), (3, .int v2), (4, .int v3), (5, .int (v4 + (1 : Int32)))] [] G U := rfl
theorem sg_mo_32 (big : Nat → List Value → qM → qW → qR) (n0 : Nat) (G : qM) (U : qW) (v0 : Int32) (v1 : Int32) (v2 : Int32) (v3 : Int32) (v4 : Int32) (v5 : Int32) : qm_run pm_m big m_214 (n0 + 5) 84 [(0, .ref 70), (1, .int v0), (2, .int v1), (3, .int v2), (4, .int v3), (5, .int v4), (6, .int v5)] [] G U = qm_run pm_m big m_214 n0 93 [(0, .ref 70), (1, .int v0), (2, .int v1), (3, .int v2), (4, .int v3), (5, .int v4), (6, .int v5)] [.int (G 71 27), .int v5] G U := rfl
theorem sg_mo_33 (big : Nat → List Value → qM → qW → qR) (n0 : Nat) (G : qM) (U : qW) (v0 : Int32) (v1 : Int32) (v2 : Int32) (v3 : Int32) (v4 : Int32) (v5 : Int32) : qm_run pm_m big m_214 (n0 + 1) 96 [(0, .ref 70), (1, .int v0), (2, .int v1), (3, .int v2), (4, .int v3), (5, .int v4), (6, .int v5)] [] G U = qm_run pm_m big m_214 n0 98 [(0, .ref 70), (1, .int v0), (2, .int v1), (3, .int v2), (4, .int v3), (5, .int v4), (6, .int v5)] [.int v4] G U := rfl
theorem sg_mo_34 (big : Nat → List Value → qM → qW → qR) (n0 : Nat) (G : qM) (U : qW) (v0 : Int32) (v1 : Int32) (v2 : Int32) (v3 : Int32) (v4 : Int32) (v5 : Int32) : qm_run pm_m big m_214 (n0 + 4) 139 [(0, .ref 70), (1, .int v0), (2, .int v1), (3, .int v2), (4, .int v3), (5, .int v4), (6, .int v5)] [] G U = qm_run pm_m big m_214 n0 84 [(0, .ref 70), (1, .int v0), (2, .int v1), (3, .int v2), (4, .int v3), (5, .int (0 : Int32)), (6, .int (v5 + (1 : Int32)))] [] G U := rfl
theorem sg_mo_35 (big : Nat → List Value → qM → qW → qR) (n0 : Nat) (G : qM) (U : qW) (v0 : Int32) (v1 : Int32) (v2 : Int32) (v3 : Int32) (v4 : Int32) (v5 : Int32) : qm_run pm_m big m_214 (n0 + 9) 101 [(0, .ref 70), (1, .int v0), (2, .int v1), (3, .int v2), (4, .int v3), (5, .int v4), (6, .int v5)] [] G U = qm_run pm_m big m_214 n0 116 [(0, .ref 70), (1, .int v0), (2, .int v1), (3, .int v2), (4, .int v3), (5, .int v4), (6, .int v5)] [.int ((28 : Int32) + ((2 : Int32) * v5)), .ref 71, .ref 80] G U := rfl
theorem sg_mo_36 (big : Nat → List Value → qM → qW → qR) (n0 : Nat) (G : qM) (U : qW) (v0 : Int32) (v1 : Int32) (v2 : Int32) (v3 : Int32) (v4 : Int32) (v5 : Int32) (v6 : Int32) : qm_run pm_m big m_214 (n0 + 9) 118 [(0, .ref 70), (1, .int v0), (2, .int v1), (3, .int v2), (4, .int v3), (5, .int v4), (6, .int v5)] [.int v6] G U = qm_run pm_m big m_214 n0 131 [(0, .ref 70), (1, .int v0), (2, .int v1), (3, .int v2), (4, .int v3), (5, .int v4), (6, .int v5)] [.int (((28 : Int32) + ((2 : Int32) * v5)) + (1 : Int32)), .ref 71, .int v6] G U := rfl
theorem sg_mo_37 (big : Nat → List Value → qM → qW → qR) (n0 : Nat) (G : qM) (U : qW) (v0 : Int32) (v1 : Int32) (v2 : Int32) (v3 : Int32) (v4 : Int32) (v5 : Int32) : qm_run pm_m big m_214 (n0 + 5) 135 [(0, .ref 70), (1, .int v0), (2, .int v1), (3, .int v2), (4, .int v3), (5, .int v4), (6, .int v5)] [] G U = qm_run pm_m big m_214 n0 84 [(0, .ref 70), (1, .int v0), (2, .int v1), (3, .int v2), (4, .int v3), (5, .int (1 : Int32)), (6, .int (v5 + (1 : Int32)))] [] G U := rfl
theorem sg_mo_38 (big : Nat → List Value → qM → qW → qR) (n0 : Nat) (G : qM) (U : qW) (v0 : Int32) (v1 : Int32) (v2 : Int32) : qm_run pm_m big m_214 (n0 + 3) 24 [(0, .ref 70), (1, .int (0 : Int32)), (2, .int v0), (3, .int v1), (4, .int v2)] [] G U = qm_run pm_m big m_214 n0 30 [(0, .ref 70), (1, .int (0 : Int32)), (2, .int v0), (3, .int v1), (4, .int v2)] [.int (G 70 4), .int v2] G U := rfl
theorem sg_mo_39 (big : Nat → List Value → qM → qW → qR) (n0 : Nat) (G : qM) (U : qW) (v0 : Int32) (v1 : Int32) (v2 : Int32) : qm_run pm_m big m_214 (n0 + 1) 36 [(0, .ref 70), (1, .int (0 : Int32)), (2, .int v0), (3, .int v1), (4, .int v2)] [] G U = qm_run pm_m big m_214 n0 37 [(0, .ref 70), (1, .int (0 : Int32)), (2, .int v0), (3, .int v1), (4, .int v2)] [.ref 70] G U := rfl
theorem sg_mo_40 (big : Nat → List Value → qM → qW → qR) (n0 : Nat) (G : qM) (U : qW) (v0 : Int32) (v1 : Int32) (v2 : Int32) : qm_run pm_m big m_214 (n0 + 2) 40 [(0, .ref 70), (1, .int (0 : Int32)), (2, .int v0), (3, .int v1), (4, .int v2)] [] G U = qm_run pm_m big m_214 n0 43 [(0, .ref 70), (1, .int (0 : Int32)), (2, .int v0), (3, .int v1), (4, .int v2), (5, .int (0 : Int32))] [] G U := rfl
theorem sg_mo_41 (big : Nat → List Value → qM → qW → qR) (n0 : Nat) (G : qM) (U : qW) (v0 : Int32) (v1 : Int32) (v2 : Int32) (v3 : Int32) : qm_run pm_m big m_214 (n0 + 1) 73 [(0, .ref 70), (1, .int (0 : Int32)), (2, .int v0), (3, .int v1), (4, .int v2), (5, .int v3)] [] G U = qm_run pm_m big m_214 n0 74 [(0, .ref 70), (1, .int (0 : Int32)), (2, .int v0), (3, .int v1), (4, .int v2), (5, .int v3)] [.ref 70] G U := rfl
theorem sg_mo_42 (big : Nat → List Value → qM → qW → qR) (n0 : Nat) (G : qM) (U : qW) (v0 : Int32) (v1 : Int32) (v2 : Int32) (v3 : Int32) (v4 : Int32) : qm_run pm_m big m_214 (n0 + 5) 77 [(0, .ref 70), (1, .int (0 : Int32)), (2, .int v0), (3, .int v1), (4, .int v2), (5, .int v3)] [.int v4] G U = qm_run pm_m big m_214 n0 84 [(0, .ref 70), (1, .int (0 : Int32)), (2, .int v0), (3, .int v1), (4, .int v2), (5, .int (1 : Int32)), (6, .int (0 : Int32))] [] G U := rfl
theorem sg_mo_43 (big : Nat → List Value → qM → qW → qR) (n0 : Nat) (G : qM) (U : qW) (v0 : Int32) (v1 : Int32) (v2 : Int32) (v3 : Int32) (v4 : Int32) : qm_run pm_m big m_214 (n0 + 2) 148 [(0, .ref 70), (1, .int (0 : Int32)), (2, .int v0), (3, .int v1), (4, .int v2), (5, .int v3), (6, .int v4)] [] G U = qm_run pm_m big m_214 n0 151 [(0, .ref 70), (1, .int (0 : Int32)), (2, .int v0), (3, .int v1), (4, .int v2), (5, .int v3), (6, .int v4)] [.int v3, .int v0] G U := rfl
theorem sg_mo_44 (big : Nat → List Value → qM → qW → qR) (n0 : Nat) (G : qM) (U : qW) (v0 : Int32) (v1 : Int32) (v2 : Int32) (v3 : Int32) (v4 : Int32) (v5 : Int32) : qm_run pm_m big m_214 (n0 + 4) 154 [(0, .ref 70), (1, .int (0 : Int32)), (2, .int v0), (3, .int v1), (4, .int v2), (5, .int v3), (6, .int v4)] [.int (0 : Int32), .int v5] G U = qm_run pm_m big m_214 n0 159 [(0, .ref 70), (1, .int (0 : Int32)), (2, .int (v5 + (0 : Int32))), (3, .int v1), (4, .int v2), (5, .int v3), (6, .int v4)] [.int v3, .int v1] G U := rfl
theorem sg_mo_45 (big : Nat → List Value → qM → qW → qR) (n0 : Nat) (G : qM) (U : qW) (v0 : Int32) (v1 : Int32) (v2 : Int32) (v3 : Int32) (v4 : Int32) (v5 : Int32) : qm_run pm_m big m_214 (n0 + 5) 183 [(0, .ref 70), (1, .int (0 : Int32)), (2, .int v0), (3, .int v1), (4, .int v2), (5, .int v3), (6, .int v4)] [.int v5] G U = qm_run pm_m big m_214 n0 24 [(0, .ref 70), (1, .int (0 : Int32)), (2, .int v0), (3, .int (v5 ||| (0 : Int32))), (4, .int (v2 + (1 : Int32))), (5, .int v3), (6, .int v4)] [] G U := rfl
theorem sg_mo_46 (big : Nat → List Value → qM → qW → qR) (n0 : Nat) (G : qM) (U : qW) (v0 : Int32) (v1 : Int32) (v2 : Int32) (v3 : Int32) (v4 : Int32) (v5 : Int32) : qm_run pm_m big m_214 (n0 + 4) 154 [(0, .ref 70), (1, .int (0 : Int32)), (2, .int v0), (3, .int v1), (4, .int v2), (5, .int v3), (6, .int v4)] [.int (1 : Int32), .int v5] G U = qm_run pm_m big m_214 n0 159 [(0, .ref 70), (1, .int (0 : Int32)), (2, .int (v5 + (1 : Int32))), (3, .int v1), (4, .int v2), (5, .int v3), (6, .int v4)] [.int v3, .int v1] G U := rfl
theorem sg_mo_47 (big : Nat → List Value → qM → qW → qR) (n0 : Nat) (G : qM) (U : qW) (v0 : Int32) (v1 : Int32) (v2 : Int32) (v3 : Int32) (v4 : Int32) (v5 : Int32) : qm_run pm_m big m_214 (n0 + 8) 162 [(0, .ref 70), (1, .int (0 : Int32)), (2, .int v0), (3, .int v1), (4, .int v2), (5, .int v3), (6, .int v4)] [.int v5] G U = qm_run pm_m big m_214 n0 24 [(0, .ref 70), (1, .int (0 : Int32)), (2, .int v0), (3, .int (v5 ||| (0 : Int32))), (4, .int (v2 + (1 : Int32))), (5, .int v3), (6, .int v4)] [] G U := rfl
theorem sg_mo_48 (big : Nat → List Value → qM → qW → qR) (n0 : Nat) (G : qM) (U : qW) : qm_run pm_m big m_214 (n0 + 8) 0 [(0, .ref 70), (1, .int (0 : Int32))] [] G U = qm_run pm_m big m_214 n0 24 [(0, .ref 70), (1, .int (0 : Int32)), (2, .int (0 : Int32)), (3, .int (0 : Int32)), (4, .int (0 : Int32))] [] G U := rfl
theorem sg_mo_49 (big : Nat → List Value → qM → qW → qR) (n0 : Nat) (G : qM) (U : qW) (v0 : Int32) (v1 : Int32) (v2 : Int32) (v3 : Int32) : qm_run pm_m big m_214 (n0 + 3) 24 [(0, .ref 70), (1, .int v0), (2, .int v1), (3, .int v2), (4, .int v3)] [] G U = qm_run pm_m big m_214 n0 30 [(0, .ref 70), (1, .int v0), (2, .int v1), (3, .int v2), (4, .int v3)] [.int (G 70 4), .int v3] G U := rfl
theorem sg_mo_50 (big : Nat → List Value → qM → qW → qR) (n0 : Nat) (G : qM) (U : qW) (v0 : Int32) (v1 : Int32) (v2 : Int32) (v3 : Int32) : qm_run pm_m big m_214 (n0 + 1) 192 [(0, .ref 70), (1, .int v0), (2, .int v1), (3, .int v2), (4, .int v3)] [] G U = qm_run pm_m big m_214 n0 193 [(0, .ref 70), (1, .int v0), (2, .int v1), (3, .int v2), (4, .int v3)] [.int v0] G U := rfl
theorem sg_mo_51 (big : Nat → List Value → qM → qW → qR) (n0 : Nat) (G : qM) (U : qW) (v0 : Int32) (v1 : Int32) (v2 : Int32) (v3 : Int32) : qm_run pm_m big m_214 (n0 + 1) 36 [(0, .ref 70), (1, .int v0), (2, .int v1), (3, .int v2), (4, .int v3)] [] G U = qm_run pm_m big m_214 n0 37 [(0, .ref 70), (1, .int v0), (2, .int v1), (3, .int v2), (4, .int v3)] [.ref 70] G U := rfl
theorem sg_mo_52 (big : Nat → List Value → qM → qW → qR) (n0 : Nat) (G : qM) (U : qW) (v0 : Int32) (v1 : Int32) (v2 : Int32) (v3 : Int32) : qm_run pm_m big m_214 (n0 + 2) 40 [(0, .ref 70), (1, .int v0), (2, .int v1), (3, .int v2), (4, .int v3)] [] G U = qm_run pm_m big m_214 n0 43 [(0, .ref 70), (1, .int v0), (2, .int v1), (3, .int v2), (4, .int v3), (5, .int (0 : Int32))] [] G U := rfl
theorem sg_mo_53 (big : Nat → List Value → qM → qW → qR) (n0 : Nat) (G : qM) (U : qW) (v0 : Int32) (v1 : Int32) (v2 : Int32) (v3 : Int32) (v4 : Int32) : qm_run pm_m big m_214 (n0 + 1) 73 [(0, .ref 70), (1, .int v0), (2, .int v1), (3, .int v2), (4, .int v3), (5, .int v4)] [] G U = qm_run pm_m big m_214 n0 74 [(0, .ref 70), (1, .int v0), (2, .int v1), (3, .int v2), (4, .int v3), (5, .int v4)] [.ref 70] G U := rfl
theorem sg_mo_54 (big : Nat → List Value → qM → qW → qR) (n0 : Nat) (G : qM) (U : qW) (v0 : Int32) (v1 : Int32) (v2 : Int32) (v3 : Int32) (v4 : Int32) (v5 : Int32) : qm_run pm_m big m_214 (n0 + 5) 77 [(0, .ref 70), (1, .int v0), (2, .int v1), (3, .int v2), (4, .int v3), (5, .int v4)] [.int v5] G U = qm_run pm_m big m_214 n0 84 [(0, .ref 70), (1, .int v0), (2, .int v1), (3, .int v2), (4, .int v3), (5, .int (1 : Int32)), (6, .int (0 : Int32))] [] G U := rfl
theorem sg_mo_55 (big : Nat → List Value → qM → qW → qR) (n0 : Nat) (G : qM) (U : qW) (v0 : Int32) (v1 : Int32) (v2 : Int32) (v3 : Int32) (v4 : Int32) (v5 : Int32) : qm_run pm_m big m_214 (n0 + 2) 148 [(0, .ref 70), (1, .int v0), (2, .int v1), (3, .int v2), (4, .int v3), (5, .int v4), (6, .int v5)] [] G U = qm_run pm_m big m_214 n0 151 [(0, .ref 70), (1, .int v0), (2, .int v1), (3, .int v2), (4, .int v3), (5, .int v4), (6, .int v5)] [.int v4, .int v1] G U := rfl
theorem sg_mo_56 (big : Nat → List Value → qM → qW → qR) (n0 : Nat) (G : qM) (U : qW) (v0 : Int32) (v1 : Int32) (v2 : Int32) (v3 : Int32) (v4 : Int32) (v5 : Int32) (v6 : Int32) : qm_run pm_m big m_214 (n0 + 4) 154 [(0, .ref 70), (1, .int v0), (2, .int v1), (3, .int v2), (4, .int v3), (5, .int v4), (6, .int v5)] [.int (0 : Int32), .int v6] G U = qm_run pm_m big m_214 n0 159 [(0, .ref 70), (1, .int v0), (2, .int (v6 + (0 : Int32))), (3, .int v2), (4, .int v3), (5, .int v4), (6, .int v5)] [.int v4, .int v2] G U := rfl
theorem sg_mo_57 (big : Nat → List Value → qM → qW → qR) (n0 : Nat) (G : qM) (U : qW) (v0 : Int32) (v1 : Int32) (v2 : Int32) (v3 : Int32) (v4 : Int32) (v5 : Int32) (v6 : Int32) : qm_run pm_m big m_214 (n0 + 5) 183 [(0, .ref 70), (1, .int v0), (2, .int v1), (3, .int v2), (4, .int v3), (5, .int v4), (6, .int v5)] [.int v6] G U = qm_run pm_m big m_214 n0 24 [(0, .ref 70), (1, .int v0), (2, .int v1), (3, .int (v6 ||| (0 : Int32))), (4, .int (v3 + (1 : Int32))), (5, .int v4), (6, .int v5)] [] G U := rfl
theorem sg_mo_58 (big : Nat → List Value → qM → qW → qR) (n0 : Nat) (G : qM) (U : qW) (v0 : Int32) (v1 : Int32) (v2 : Int32) (v3 : Int32) (v4 : Int32) (v5 : Int32) (v6 : Int32) : qm_run pm_m big m_214 (n0 + 4) 154 [(0, .ref 70), (1, .int v0), (2, .int v1), (3, .int v2), (4, .int v3), (5, .int v4), (6, .int v5)] [.int (1 : Int32), .int v6] G U = qm_run pm_m big m_214 n0 159 [(0, .ref 70), (1, .int v0), (2, .int (v6 + (1 : Int32))), (3, .int v2), (4, .int v3), (5, .int v4), (6, .int v5)] [.int v4, .int v2] G U := rfl
theorem sg_mo_59 (big : Nat → List Value → qM → qW → qR) (n0 : Nat) (G : qM) (U : qW) (v0 : Int32) (v1 : Int32) (v2 : Int32) (v3 : Int32) (v4 : Int32) (v5 : Int32) (v6 : Int32) : qm_run pm_m big m_214 (n0 + 2) 162 [(0, .ref 70), (1, .int v0), (2, .int v1), (3, .int v2), (4, .int v3), (5, .int v4), (6, .int v5)] [.int v6] G U = qm_run pm_m big m_214 n0 165 [(0, .ref 70), (1, .int v0), (2, .int v1), (3, .int v2), (4, .int v3), (5, .int v4), (6, .int v5)] [.int (10 : Int32), .int v0, .int v6] G U := rfl
theorem sg_mo_60 (big : Nat → List Value → qM → qW → qR) (n0 : Nat) (G : qM) (U : qW) (v0 : Int32) (v1 : Int32) (v2 : Int32) (v3 : Int32) (v4 : Int32) (v5 : Int32) (v6 : Int32) : qm_run pm_m big m_214 (n0 + 6) 168 [(0, .ref 70), (1, .int v0), (2, .int v1), (3, .int v2), (4, .int v3), (5, .int v4), (6, .int v5)] [.int v6] G U = qm_run pm_m big m_214 n0 176 [(0, .ref 70), (1, .int v0), (2, .int v1), (3, .int v2), (4, .int v3), (5, .int v4), (6, .int v5)] [.int (v0 - (10 : Int32)), .int v3, .ref 70, .int (1 : Int32), .int v6] G U := rfl
theorem sg_mo_61 (big : Nat → List Value → qM → qW → qR) (n0 : Nat) (G : qM) (U : qW) (v0 : Int32) (v1 : Int32) (v2 : Int32) (v3 : Int32) (v4 : Int32) (v5 : Int32) (v6 : Int32) (v7 : Int32) : qm_run pm_m big m_214 (n0 + 6) 179 [(0, .ref 70), (1, .int v0), (2, .int v1), (3, .int v2), (4, .int v3), (5, .int v4), (6, .int v5)] [.int v7, .int (1 : Int32), .int v6] G U = qm_run pm_m big m_214 n0 24 [(0, .ref 70), (1, .int v0), (2, .int v1), (3, .int (v6 ||| ((1 : Int32) <<< (v7 &&& 31)))), (4, .int (v3 + (1 : Int32))), (5, .int v4), (6, .int v5)] [] G U := rfl
theorem sg_mo_62 (big : Nat → List Value → qM → qW → qR) (n0 : Nat) (G : qM) (U : qW) (v0 : Int32) : qm_run pm_m big m_214 (n0 + 1) 0 [(0, .ref 70), (1, .int v0)] [] G U = qm_run pm_m big m_214 n0 1 [(0, .ref 70), (1, .int v0)] [.int v0] G U := rfl
theorem sg_mo_63 (big : Nat → List Value → qM → qW → qR) (n0 : Nat) (G : qM) (U : qW) (v0 : Int32) : qm_run pm_m big m_214 (n0 + 4) 4 [(0, .ref 70), (1, .int v0)] [] G U = qm_run pm_m big m_214 n0 9 [(0, .ref 70), (1, .int v0)] [.int (v0 - (10 : Int32)), .ref 70] G U := rfl
theorem sg_mo_64 (big : Nat → List Value → qM → qW → qR) (n0 : Nat) (G : qM) (U : qW) (v0 : Int32) : qm_run pm_m big m_214 (n0 + 7) 12 [(0, .ref 70), (1, .int v0)] [.int (1 : Int32)] G U = qm_run pm_m big m_214 n0 24 [(0, .ref 70), (1, .int v0), (2, .int (0 : Int32)), (3, .int (0 : Int32)), (4, .int (0 : Int32))] [] G U := rfl
theorem b_deed (g : qM) (u : qW) {q : Nat} (hq : q < 6) : q_BS 123 [.ref 28, .int (Int32.ofNat q)] g u (some (.int (p_deed g q)), g, u) := by
  refine q_bx (mm := m_123) rfl (Nat.le_of_ble_eq_true rfl) rfl ?_
  refine q_step 2 2 [(0, .ref 28), (1, .int (Int32.ofNat q))] [.int (Int32.ofNat q), .ref 28] g u (fun big n0 => sg_mo_1 big n0 g u (Int32.ofNat q)) ?_
  by_cases hc0 : s_bit (g 28 5) (Int32.ofNat q) = 0
  · refine q_call (M2 := 73) (rest := []) (show q_BS 73 [.ref 28, .int (Int32.ofNat q)] g u (some (.int (0 : Int32)), g, u) from by have e := b_dg (Int32.ofNat q) g u; rw [if_pos hc0] at e; exact e) (fun _ _ => rfl) ?_
    refine q_ret 3 (some (.int (4 : Int32)), g, u) (fun _ _ => rfl) ?_
    unfold p_deed
    rw [if_pos hc0]
  · refine q_call (M2 := 73) (rest := []) (show q_BS 73 [.ref 28, .int (Int32.ofNat q)] g u (some (.int (1 : Int32)), g, u) from by have e := b_dg (Int32.ofNat q) g u; rw [if_neg hc0] at e; exact e) (fun _ _ => rfl) ?_
    refine q_step 4 13 [(0, .ref 28), (1, .int (Int32.ofNat q))] [.int (Int32.ofNat q), .ref 33] g u (fun big n0 => sg_mo_2 big n0 g u (Int32.ofNat q)) ?_
    refine q_iald (j := q) (q_ixn (by omega) (by omega)) rfl rfl ?_
    refine q_ret 2 (some (.int (g 33 q)), g, u) (fun _ _ => rfl) ?_
    unfold p_deed
    rw [if_neg hc0]
theorem fi_l {n z row : Nat} {g2 r r1 : qM} (u : qW) (h6 : n ≤ 6) (hse : w_se n z r) (hz8 : z ≤ 8) (hs2 : w_sc 20 z g2 r) (hd : ∀ q, q < n → p_deed g2 q = r1 80 q) : ∀ k i, i + k = z → q_EV m_122 29 [(0, .ref 34), (1, .ref 20), (2, .int (Int32.ofNat row)), (3, .int (Int32.ofNat i))] [] g2 u (fun R => R = (some (.int (if n_fit r1 r k i = 0 then (0 : Int32) else 1)), g2, u)) := by
  intro k
  induction k with
  | zero =>
    intro i hi
    refine q_step 3 34 [(0, .ref 34), (1, .ref 20), (2, .int (Int32.ofNat row)), (3, .int (Int32.ofNat i))] [.int (g2 20 6), .int (Int32.ofNat i)] g2 u (fun big n0 => sg_mo_3 big n0 g2 u (Int32.ofNat row) (Int32.ofNat i)) ?_
    refine q_ic_ge rfl (fun (hc0 : (g2 20 6) ≤ (Int32.ofNat i)) => ?_) (fun hc0 => absurd (show (g2 20 6) ≤ (Int32.ofNat i) from by rw [hs2.1]; exact (q_le (by omega) (by omega)).mpr (by omega)) hc0)
    refine q_ret 2 (some (.int (1 : Int32)), g2, u) (fun _ _ => rfl) ?_
    rfl
  | succ k ih =>
    intro i hi
    refine q_step 3 34 [(0, .ref 34), (1, .ref 20), (2, .int (Int32.ofNat row)), (3, .int (Int32.ofNat i))] [.int (g2 20 6), .int (Int32.ofNat i)] g2 u (fun big n0 => sg_mo_3 big n0 g2 u (Int32.ofNat row) (Int32.ofNat i)) ?_
    refine q_ic_ge rfl (fun hc0 => absurd (show (g2 20 6) ≤ (Int32.ofNat i) from hc0) (fun z2 => by rw [hs2.1] at z2; exact absurd ((q_le (by omega) (by omega)).mp z2) (by omega))) (fun (hc0 : ¬ ((g2 20 6) ≤ (Int32.ofNat i))) => ?_)
    refine q_step 5 46 [(0, .ref 34), (1, .ref 20), (2, .int (Int32.ofNat row)), (3, .int (Int32.ofNat i))] [.int (Int32.ofNat i), .ref 26, .ref 28] g2 u (fun big n0 => sg_mo_4 big n0 g2 u (Int32.ofNat row) (Int32.ofNat i)) ?_
    refine q_iald (j := i) (q_ixn (by omega) (by omega)) rfl rfl ?_
    obtain ⟨q, hq, eq⟩ := hse.2.2 i (by omega)
    have e26 : g2 26 i = Int32.ofNat q := (hs2.2 i (by omega)).1.trans eq
    have hdd := b_deed g2 u (q := q) (by omega)
    rw [hd q hq] at hdd
    refine q_call (M2 := 123) (rest := []) (by rw [e26]; exact hdd) (fun _ _ => rfl) ?_
    refine q_step 3 55 [(0, .ref 34), (1, .ref 20), (2, .int (Int32.ofNat row)), (3, .int (Int32.ofNat i))] [.int (Int32.ofNat i), .ref 27, .int (r1 80 q)] g2 u (fun big n0 => sg_mo_5 big n0 g2 u (Int32.ofNat row) (Int32.ofNat i) (r1 80 q)) ?_
    refine q_iald (j := i) (q_ixn (by omega) (by omega)) rfl rfl ?_
    refine q_ic_eq rfl (fun (hc1 : (r1 80 q) = (g2 27 i)) => ?_) (fun (hc1 : ¬ ((r1 80 q) = (g2 27 i))) => ?_)
    · refine q_step 2 29 [(0, .ref 34), (1, .ref 20), (2, .int (Int32.ofNat row)), (3, .int ((Int32.ofNat i) + (1 : Int32)))] [] g2 u (fun big n0 => sg_mo_6 big n0 g2 u (Int32.ofNat row) (Int32.ofNat i)) ?_
      have e : n_fit r1 r (k + 1) i = n_fit r1 r k (i + 1) := by
        rw [n_fit, if_pos (by rw [eq, q_nat (by omega), ← (hs2.2 i (by omega)).2]; exact hc1)]
      rw [q_succ, e]
      exact ih (i + 1) (by omega)
    · refine q_ret 2 (some (.int (0 : Int32)), g2, u) (fun _ _ => rfl) ?_
      have e : n_fit r1 r (k + 1) i = 0 := by
        rw [n_fit, if_neg (by rw [eq, q_nat (by omega), ← (hs2.2 i (by omega)).2]; exact hc1)]
      rw [e, if_pos rfl]
theorem c_fit {n W H z row : Nat} {g r : qM} (u : qW) (h : w_ok n W H r) (hc : w_cs 20 n g r) (ht : w_tr n g r) (hse : w_se n z r) (hsc : w_sc 20 z g r) : q_BS 122 [.ref 34, .ref 20, .int (Int32.ofNat row)] g u (some (.int (p_fit n z r row)), (s_fim n row g), u) := by
  refine q_bx (mm := m_122) rfl (Nat.le_of_ble_eq_true rfl) rfl ?_
  have h6 : n ≤ 6 := h.1.2.2.2.2
  have hy := w_cpl h6 hc ht
  have hk := w_ok_mo (row := row) h
  have hm := w_cs_mo (row := row) hy
  refine q_step 3 5 [(0, .ref 34), (1, .ref 20), (2, .int (Int32.ofNat row))] [.ref 20, .ref 35] g u (fun big n0 => sg_mo_7 big n0 g u (Int32.ofNat row)) ?_
  refine q_call (M2 := 42) (rest := []) (b_cpl35_20 _ _) (fun _ _ => rfl) ?_
  refine q_step 3 13 [(0, .ref 34), (1, .ref 20), (2, .int (Int32.ofNat row))] [.int (Int32.ofNat row), .ref 35] (s_cpl 35 20 g) u (fun big n0 => sg_mo_8 big n0 (s_cpl 35 20 g) u (Int32.ofNat row)) ?_
  refine q_call (M2 := 98) (rest := []) (b_sm (row := row) (s_cpl 35 20 g) u (hy.1.1.trans h.2.1) h6) (fun _ _ => rfl) ?_
  refine q_step 4 24 [(0, .ref 34), (1, .ref 20), (2, .int (Int32.ofNat row))] [.ref 35, .ref 28] (s_rgm n row g) u (fun big n0 => sg_mo_9 big n0 (s_rgm n row g) u (Int32.ofNat row)) ?_
  refine q_call (M2 := 68) (rest := []) (c_st35 u hk hm) (fun _ _ => rfl) ?_
  refine q_step 2 29 [(0, .ref 34), (1, .ref 20), (2, .int (Int32.ofNat row)), (3, .int (0 : Int32))] [] (s_fim n row g) u (fun big n0 => sg_mo_10 big n0 (s_fim n row g) u (Int32.ofNat row)) ?_
  exact fi_l u h6 hse hse.2.1 (w_sc_fc s_fim_fc hsc) (fun q hq => w_deed hk hm hq) z 0 (by omega)
theorem hm_l (u : qW) {n W H z : Nat} {r : qM} (h : w_ok n W H r) (hse : w_se n z r) (h6 : n ≤ 6) (h4n : 4 ^ n ≤ 4096) : ∀ k row a g, row + k = 4 ^ n → w_cs 20 n g r → w_tr n g r → w_sc 20 z g r → q_EV m_121 12 [(0, .ref 34), (1, .ref 20), (2, .int a), (3, .int (Int32.ofNat row))] [] g u (w_po w_fc g (.int (s_ct (p_fit n z r) k row a))) := by
  intro k
  induction k with
  | zero =>
    intro row a g hi hc ht hsc
    refine q_step 3 17 [(0, .ref 34), (1, .ref 20), (2, .int a), (3, .int (Int32.ofNat row))] [.int (g 20 3), .int (Int32.ofNat row)] g u (fun big n0 => sg_mo_11 big n0 g u a (Int32.ofNat row)) ?_
    refine q_call (M2 := 93) (rest := [.int (Int32.ofNat row)]) (b_rows _ _ _) (fun _ _ => rfl) ?_
    refine q_ic_ge rfl (fun (hc0 : (s_rows (g 20 3)) ≤ (Int32.ofNat row)) => ?_) (fun hc0 => absurd (show (s_rows (g 20 3)) ≤ (Int32.ofNat row) from by rw [hc.1.1, h.2.1, s_rows_n h6]; exact (q_le (by omega) (by omega)).mpr (by omega)) hc0)
    refine q_ret 2 (some (.int a), g, u) (fun _ _ => rfl) ?_
    exact ⟨g, u, rfl, w_fc_rfl g⟩
  | succ k ih =>
    intro row a g hi hc ht hsc
    refine q_step 3 17 [(0, .ref 34), (1, .ref 20), (2, .int a), (3, .int (Int32.ofNat row))] [.int (g 20 3), .int (Int32.ofNat row)] g u (fun big n0 => sg_mo_11 big n0 g u a (Int32.ofNat row)) ?_
    refine q_call (M2 := 93) (rest := [.int (Int32.ofNat row)]) (b_rows _ _ _) (fun _ _ => rfl) ?_
    refine q_ic_ge rfl (fun hc0 => absurd (show (s_rows (g 20 3)) ≤ (Int32.ofNat row) from hc0) (fun z => by rw [hc.1.1, h.2.1, s_rows_n h6] at z; exact absurd ((q_le (by omega) (by omega)).mp z) (by omega))) (fun (hc0 : ¬ ((s_rows (g 20 3)) ≤ (Int32.ofNat row))) => ?_)
    refine q_step 4 27 [(0, .ref 34), (1, .ref 20), (2, .int a), (3, .int (Int32.ofNat row))] [.int (Int32.ofNat row), .ref 20, .ref 34, .int a] g u (fun big n0 => sg_mo_12 big n0 g u a (Int32.ofNat row)) ?_
    by_cases hc1 : p_fit n z r row = 0
    · refine q_call (M2 := 122) (rest := [.int a]) (show q_BS 122 [.ref 34, .ref 20, .int (Int32.ofNat row)] g u (some (.int (0 : Int32)), (s_fim n row g), u) from by have e := c_fit (row := row) u h hc ht hse hsc; rw [hc1] at e; exact e) (fun _ _ => rfl) ?_
      refine q_step 6 12 [(0, .ref 34), (1, .ref 20), (2, .int (a + (0 : Int32))), (3, .int ((Int32.ofNat row) + (1 : Int32)))] [] (s_fim n row g) u (fun big n0 => sg_mo_13 big n0 (s_fim n row g) u a (Int32.ofNat row) a) ?_
      rw [q_succ, s_ct_s (P := p_fit n z r) (i := row) (hc1)]
      exact q_EV.imp (ih (row + 1) _ _ (by omega) (w_cs_fc s_fim_fc hc) (s_fim_tr ht) (w_sc_fc s_fim_fc hsc)) (fun R z2 => w_po_c s_fim_fc rfl z2)
    · refine q_call (M2 := 122) (rest := [.int a]) (show q_BS 122 [.ref 34, .ref 20, .int (Int32.ofNat row)] g u (some (.int (1 : Int32)), (s_fim n row g), u) from by have e := c_fit (row := row) u h hc ht hse hsc; rw [(p_fit_01 n z r row).resolve_left hc1] at e; exact e) (fun _ _ => rfl) ?_
      refine q_step 7 12 [(0, .ref 34), (1, .ref 20), (2, .int (a + (1 : Int32))), (3, .int ((Int32.ofNat row) + (1 : Int32)))] [] (s_fim n row g) u (fun big n0 => sg_mo_14 big n0 (s_fim n row g) u a (Int32.ofNat row) a) ?_
      rw [q_succ, s_ct_s (P := p_fit n z r) (i := row) ((p_fit_01 n z r row).resolve_left hc1)]
      exact q_EV.imp (ih (row + 1) _ _ (by omega) (w_cs_fc s_fim_fc hc) (s_fim_tr ht) (w_sc_fc s_fim_fc hsc)) (fun R z2 => w_po_c s_fim_fc rfl z2)
theorem c_hm121 {n W H : Nat} {g r : qM} (u : qW) (h : w_ok n W H r) (hc : w_cs 20 n g r) {z : Nat} (hse : w_se n z r) (hsc : w_sc 20 z g r) : w_BS w_fc 121 [.ref 34, .ref 20] g u (.int (f_mo0 n z r)) := by
  refine w_bs (mm := m_121) rfl (Nat.le_of_ble_eq_true rfl) rfl ?_
  have h5 : n ≤ 6 := h.1.2.2.2.2
  have hy := w_cpy (a := 35) (b := 20) h5 (by omega) hc
  refine q_step 3 5 [(0, .ref 34), (1, .ref 20)] [.ref 20, .ref 35] g u (fun big n0 => sg_mo_15 big n0 g u) ?_
  refine q_call (M2 := 41) (rest := []) (b_cpy35_20 _ _) (fun _ _ => rfl) ?_
  refine q_step 4 12 [(0, .ref 34), (1, .ref 20), (2, .int (0 : Int32)), (3, .int (0 : Int32))] [] (s_cpy 35 20 g) u (fun big n0 => sg_mo_16 big n0 (s_cpy 35 20 g) u) ?_
  exact q_EV.imp (hm_l u h hse h5 (s_4n h5) (4 ^ n) 0 0 (s_cpy 35 20 g) (by omega) (w_cs_fc w_cpy_fc hc) (w_cs_tr hy) (w_sc_fc w_cpy_fc hsc)) (fun R z => w_po_c w_cpy_fc rfl z)
theorem fm_l (u : qW) {n W H z : Nat} {r : qM} (h : w_ok n W H r) (hse : w_se n z r) (h6 : n ≤ 6) (h4n : 4 ^ n ≤ 4096) {p : Nat} : ∀ k row a g, row + k = 4 ^ n → w_cs 20 n g r → w_tr n g r → w_sc 20 z g r → q_EV m_124 13 [(0, .ref 34), (1, .ref 20), (2, .int (Int32.ofNat p)), (3, .int a), (4, .int (Int32.ofNat row))] [] g u (w_po w_fc g (.int (f_bm n p z r k row a))) := by
  intro k
  induction k with
  | zero =>
    intro row a g hi hc ht hsc
    refine q_step 3 19 [(0, .ref 34), (1, .ref 20), (2, .int (Int32.ofNat p)), (3, .int a), (4, .int (Int32.ofNat row))] [.int (g 20 3), .int (Int32.ofNat row)] g u (fun big n0 => sg_mo_17 big n0 g u (Int32.ofNat p) a (Int32.ofNat row)) ?_
    refine q_call (M2 := 93) (rest := [.int (Int32.ofNat row)]) (b_rows _ _ _) (fun _ _ => rfl) ?_
    refine q_ic_ge rfl (fun (hc0 : (s_rows (g 20 3)) ≤ (Int32.ofNat row)) => ?_) (fun hc0 => absurd (show (s_rows (g 20 3)) ≤ (Int32.ofNat row) from by rw [hc.1.1, h.2.1, s_rows_n h6]; exact (q_le (by omega) (by omega)).mpr (by omega)) hc0)
    refine q_ret 2 (some (.int a), g, u) (fun _ _ => rfl) ?_
    exact ⟨g, u, rfl, w_fc_rfl g⟩
  | succ k ih =>
    intro row a g hi hc ht hsc
    refine q_step 3 19 [(0, .ref 34), (1, .ref 20), (2, .int (Int32.ofNat p)), (3, .int a), (4, .int (Int32.ofNat row))] [.int (g 20 3), .int (Int32.ofNat row)] g u (fun big n0 => sg_mo_17 big n0 g u (Int32.ofNat p) a (Int32.ofNat row)) ?_
    refine q_call (M2 := 93) (rest := [.int (Int32.ofNat row)]) (b_rows _ _ _) (fun _ _ => rfl) ?_
    refine q_ic_ge rfl (fun hc0 => absurd (show (s_rows (g 20 3)) ≤ (Int32.ofNat row) from hc0) (fun z => by rw [hc.1.1, h.2.1, s_rows_n h6] at z; exact absurd ((q_le (by omega) (by omega)).mp z) (by omega))) (fun (hc0 : ¬ ((s_rows (g 20 3)) ≤ (Int32.ofNat row))) => ?_)
    refine q_step 4 30 [(0, .ref 34), (1, .ref 20), (2, .int (Int32.ofNat p)), (3, .int a), (4, .int (Int32.ofNat row))] [.int (Int32.ofNat row), .ref 20, .ref 34, .int a] g u (fun big n0 => sg_mo_18 big n0 g u (Int32.ofNat p) a (Int32.ofNat row)) ?_
    by_cases hc1 : p_fit n z r row = 0
    · refine q_call (M2 := 122) (rest := [.int a]) (show q_BS 122 [.ref 34, .ref 20, .int (Int32.ofNat row)] g u (some (.int (0 : Int32)), (s_fim n row g), u) from by have e := c_fit (row := row) u h hc ht hse hsc; rw [hc1] at e; exact e) (fun _ _ => rfl) ?_
      refine q_step 6 13 [(0, .ref 34), (1, .ref 20), (2, .int (Int32.ofNat p)), (3, .int (a ||| (0 : Int32))), (4, .int ((Int32.ofNat row) + (1 : Int32)))] [] (s_fim n row g) u (fun big n0 => sg_mo_19 big n0 (s_fim n row g) u (Int32.ofNat p) a (Int32.ofNat row) a) ?_
      rw [q_succ, f_bm, if_pos hc1, s_or00]
      exact q_EV.imp (ih (row + 1) _ _ (by omega) (w_cs_fc s_fim_fc hc) (s_fim_tr ht) (w_sc_fc s_fim_fc hsc)) (fun R z2 => w_po_c s_fim_fc rfl z2)
    · refine q_call (M2 := 122) (rest := [.int a]) (show q_BS 122 [.ref 34, .ref 20, .int (Int32.ofNat row)] g u (some (.int (1 : Int32)), (s_fim n row g), u) from by have e := c_fit (row := row) u h hc ht hse hsc; rw [(p_fit_01 n z r row).resolve_left hc1] at e; exact e) (fun _ _ => rfl) ?_
      refine q_step 5 41 [(0, .ref 34), (1, .ref 20), (2, .int (Int32.ofNat p)), (3, .int a), (4, .int (Int32.ofNat row))] [.int (Int32.ofNat p), .int (Int32.ofNat row), .ref 20, .int (1 : Int32), .int a] (s_fim n row g) u (fun big n0 => sg_mo_20 big n0 (s_fim n row g) u (Int32.ofNat p) a (Int32.ofNat row) a) ?_
      have hmr := b_mir20 (Int32.ofNat row) (Int32.ofNat p) (s_fim n row g) u
      rw [show s_dg (Int32.ofNat row) ((s_fim n row g) 20 3) (Int32.ofNat p) = f_md n row p from by rw [s_fim_fc 20 (by omega), hc.1.1, h.2.1]; rfl] at hmr
      refine q_call (M2 := 95) (rest := [.int (1 : Int32), .int a]) (hmr) (fun _ _ => rfl) ?_
      refine q_step 6 13 [(0, .ref 34), (1, .ref 20), (2, .int (Int32.ofNat p)), (3, .int (a ||| ((1 : Int32) <<< ((f_md n row p) &&& 31)))), (4, .int ((Int32.ofNat row) + (1 : Int32)))] [] (s_fim n row g) u (fun big n0 => sg_mo_21 big n0 (s_fim n row g) u (Int32.ofNat p) a (Int32.ofNat row) a (f_md n row p)) ?_
      rw [q_succ, f_bm, if_neg hc1]
      exact q_EV.imp (ih (row + 1) _ _ (by omega) (w_cs_fc s_fim_fc hc) (s_fim_tr ht) (w_sc_fc s_fim_fc hsc)) (fun R z2 => w_po_c s_fim_fc rfl z2)
theorem c_fm124 {n W H : Nat} {g r : qM} (u : qW) (h : w_ok n W H r) (hc : w_cs 20 n g r) {z : Nat} (hse : w_se n z r) (hsc : w_sc 20 z g r) {p : Nat} : w_BS w_fc 124 [.ref 34, .ref 20, .int (Int32.ofNat p)] g u (.int (f_mop n p z r)) := by
  refine w_bs (mm := m_124) rfl (Nat.le_of_ble_eq_true rfl) rfl ?_
  have h5 : n ≤ 6 := h.1.2.2.2.2
  have hy := w_cpy (a := 35) (b := 20) h5 (by omega) hc
  refine q_step 3 5 [(0, .ref 34), (1, .ref 20), (2, .int (Int32.ofNat p))] [.ref 20, .ref 35] g u (fun big n0 => sg_mo_22 big n0 g u (Int32.ofNat p)) ?_
  refine q_call (M2 := 41) (rest := []) (b_cpy35_20 _ _) (fun _ _ => rfl) ?_
  refine q_step 4 13 [(0, .ref 34), (1, .ref 20), (2, .int (Int32.ofNat p)), (3, .int (0 : Int32)), (4, .int (0 : Int32))] [] (s_cpy 35 20 g) u (fun big n0 => sg_mo_23 big n0 (s_cpy 35 20 g) u (Int32.ofNat p)) ?_
  exact q_EV.imp (fm_l u h hse h5 (s_4n h5) (4 ^ n) 0 0 (s_cpy 35 20 g) (by omega) (w_cs_fc w_cpy_fc hc) (w_cs_tr hy) (w_sc_fc w_cpy_fc hsc)) (fun R z => w_po_c w_cpy_fc rfl z)
theorem c_moods0 {n W H : Nat} {g r : qM} (u : qW) (h : w_ok n W H r) (hc : w_cs 20 n g r) {z : Nat} (hse : w_se n z r) (hsc : w_sc 20 z g r) : w_BS w_fc 120 [.ref 8, .int (0 : Int32)] g u (.int (f_mo0 n z r)) := by
  refine w_bs (mm := m_120) rfl (Nat.le_of_ble_eq_true rfl) rfl ?_
  refine q_step 2 2 [(0, .ref 8), (1, .int (0 : Int32))] [.int (0 : Int32), .ref 8] g u (fun big n0 => sg_mo_24 big n0 g u) ?_
  refine q_call (M2 := 91) (rest := []) (b_tot0 g u) (fun _ _ => rfl) ?_
  refine q_step 7 22 [(0, .ref 8), (1, .int (0 : Int32))] [.ref 20, .ref 34] g u (fun big n0 => sg_mo_25 big n0 g u) ?_
  obtain ⟨g1, u1, hb, hf⟩ := c_hm121 u h hc hse hsc
  refine q_call (M2 := 121) (rest := []) (hb) (fun _ _ => rfl) ?_
  refine q_ret 2 (some (.int (f_mo0 n z r)), g1, u1) (fun _ _ => rfl) ?_
  exact ⟨g1, u1, rfl, hf⟩
theorem c_moods1 {n W H : Nat} {g r : qM} (u : qW) (h : w_ok n W H r) (hc : w_cs 20 n g r) {z : Nat} (hse : w_se n z r) (hsc : w_sc 20 z g r) {p : Nat} (hp : p < n) : w_BS w_fc 120 [.ref 8, .int (Int32.ofNat (10 + p))] g u (.int (f_mop n p z r)) := by
  refine w_bs (mm := m_120) rfl (Nat.le_of_ble_eq_true rfl) rfl ?_
  have h5 : n ≤ 6 := h.1.2.2.2.2
  refine q_step 2 2 [(0, .ref 8), (1, .int (Int32.ofNat (10 + p)))] [.int (Int32.ofNat (10 + p)), .ref 8] g u (fun big n0 => sg_mo_26 big n0 g u (Int32.ofNat (10 + p))) ?_
  refine q_call (M2 := 91) (rest := []) (b_tot1 g u (hc.1.1.trans h.2.1) h5 hp) (fun _ _ => rfl) ?_
  refine q_step 2 11 [(0, .ref 8), (1, .int (Int32.ofNat (10 + p)))] [.int (Int32.ofNat (10 + p))] g u (fun big n0 => sg_mo_27 big n0 g u (Int32.ofNat (10 + p))) ?_
  refine q_if_ne rfl (fun hc0 => absurd (show (Int32.ofNat (10 + p)) = 0 from hc0) (fun z => absurd ((q_eq (i := 10 + p) (j := 0) (by omega) (by omega)).mp z) (by omega))) (fun (hc0 : ¬ ((Int32.ofNat (10 + p)) = 0)) => ?_)
  refine q_step 7 40 [(0, .ref 8), (1, .int (Int32.ofNat (10 + p)))] [.int ((Int32.ofNat (10 + p)) - (10 : Int32)), .ref 20, .ref 34] g u (fun big n0 => sg_mo_28 big n0 g u (Int32.ofNat (10 + p))) ?_
  obtain ⟨g1, u1, hb, hf⟩ := c_fm124 (p := p) u h hc hse hsc
  refine q_call (M2 := 124) (rest := []) (by rw [show (Int32.ofNat (10 + p)) - (10 : Int32) = Int32.ofNat p from by rw [show (10 : Int32) = Int32.ofNat 10 from rfl, q_sb (by omega) (by omega)]; congr 1; omega]; exact hb) (fun _ _ => rfl) ?_
  refine q_ret 1 (some (.int (f_mop n p z r)), g1, u1) (fun _ _ => rfl) ?_
  exact ⟨g1, u1, rfl, hf⟩
theorem rm1 (g : qM) (u : qW) {n row : Nat} {wh a b : Int32} (hn : g 70 4 = Int32.ofNat n) (h6 : n ≤ 6) {Q : Option Value × qM × qW → Prop} (hk : q_EV m_214 73 [(0, .ref 70), (1, .int wh), (2, .int a), (3, .int b), (4, .int (Int32.ofNat row)), (5, .int (Int32.ofNat n))] [] (s_row_ 76 (f_md n row) n (s_start g)) u Q) : ∀ k i, i + k = n → q_EV m_214 43 [(0, .ref 70), (1, .int wh), (2, .int a), (3, .int b), (4, .int (Int32.ofNat row)), (5, .int (Int32.ofNat i))] [] (s_row_ 76 (f_md n row) i (s_start g)) u Q := by
  intro k
  induction k with
  | zero =>
    intro i hi
    refine q_step 3 49 [(0, .ref 70), (1, .int wh), (2, .int a), (3, .int b), (4, .int (Int32.ofNat row)), (5, .int (Int32.ofNat i))] [.int ((s_start g) 70 4), .int (Int32.ofNat i)] (s_row_ 76 (f_md n row) i (s_start g)) u (fun big n0 => sg_mo_29 big n0 (s_row_ 76 (f_md n row) i (s_start g)) u wh a b (Int32.ofNat row) (Int32.ofNat i)) ?_
    refine q_ic_ge rfl (fun (hc0 : ((s_start g) 70 4) ≤ (Int32.ofNat i)) => ?_) (fun hc0 => absurd (show ((s_start g) 70 4) ≤ (Int32.ofNat i) from by rw [show (s_start g) 70 4 = Int32.ofNat n from hn]; exact (q_le (by omega) (by omega)).mpr (by omega)) hc0)
    rw [show i = n by omega]
    exact hk
  | succ k ih =>
    intro i hi
    refine q_step 3 49 [(0, .ref 70), (1, .int wh), (2, .int a), (3, .int b), (4, .int (Int32.ofNat row)), (5, .int (Int32.ofNat i))] [.int ((s_start g) 70 4), .int (Int32.ofNat i)] (s_row_ 76 (f_md n row) i (s_start g)) u (fun big n0 => sg_mo_29 big n0 (s_row_ 76 (f_md n row) i (s_start g)) u wh a b (Int32.ofNat row) (Int32.ofNat i)) ?_
    refine q_ic_ge rfl (fun hc0 => absurd (show ((s_start g) 70 4) ≤ (Int32.ofNat i) from hc0) (fun z => by rw [show (s_start g) 70 4 = Int32.ofNat n from hn] at z; exact absurd ((q_le (by omega) (by omega)).mp z) (by omega))) (fun (hc0 : ¬ (((s_start g) 70 4) ≤ (Int32.ofNat i))) => ?_)
    refine q_step 6 63 [(0, .ref 70), (1, .int wh), (2, .int a), (3, .int b), (4, .int (Int32.ofNat row)), (5, .int (Int32.ofNat i))] [.int (Int32.ofNat i), .int (Int32.ofNat row), .ref 70, .int (Int32.ofNat i), .ref 76] (s_row_ 76 (f_md n row) i (s_start g)) u (fun big n0 => sg_mo_30 big n0 (s_row_ 76 (f_md n row) i (s_start g)) u wh a b (Int32.ofNat row) (Int32.ofNat i)) ?_
    have hmb := b_mby (Int32.ofNat row) (Int32.ofNat i) (s_row_ 76 (f_md n row) i (s_start g)) u
    rw [show s_dg (Int32.ofNat row) ((s_row_ 76 (f_md n row) i (s_start g)) 70 4) (Int32.ofNat i) = f_md n row i from by rw [show (s_row_ 76 (f_md n row) i (s_start g)) 70 4 = Int32.ofNat n from hn]; rfl] at hmb
    refine q_call (M2 := 203) (rest := [.int (Int32.ofNat i), .ref 76]) (hmb) (fun _ _ => rfl) ?_
    refine q_iast (j := i) (q_ixn (by omega) (by omega)) rfl rfl ?_
    refine q_step 2 43 [(0, .ref 70), (1, .int wh), (2, .int a), (3, .int b), (4, .int (Int32.ofNat row)), (5, .int ((Int32.ofNat i) + (1 : Int32)))] [] (q_up (s_row_ 76 (f_md n row) i (s_start g)) 76 i (f_md n row i)) u (fun big n0 => sg_mo_31 big n0 (q_up (s_row_ 76 (f_md n row) i (s_start g)) 76 i (f_md n row i)) u wh a b (Int32.ofNat row) (Int32.ofNat i)) ?_
    rw [q_succ, show (q_up (s_row_ 76 (f_md n row) i (s_start g)) 76 i (f_md n row i)) = (s_row_ 76 (f_md n row) (i + 1) (s_start g)) from s_row_s]
    exact ih (i + 1) (by omega)
theorem rm2 {n z row : Nat} {wh a b : Int32} {g r r1 : qM} (u : qW) (h6 : n ≤ 6) (hse : w_se n z r) (hz8 : z ≤ 8) (h71 : g 71 = r 71) (h80 : ∀ q, q < n → g 80 q = r1 80 q) {Q : Option Value × qM × qW → Prop} : ∀ k i is, i + k = z → q_EV m_214 148 [(0, .ref 70), (1, .int wh), (2, .int a), (3, .int b), (4, .int (Int32.ofNat row)), (5, .int (f_is r1 r k i is)), (6, .int (Int32.ofNat z))] [] g u Q → q_EV m_214 84 [(0, .ref 70), (1, .int wh), (2, .int a), (3, .int b), (4, .int (Int32.ofNat row)), (5, .int is), (6, .int (Int32.ofNat i))] [] g u Q := by
  intro k
  induction k with
  | zero =>
    intro i is hi hk
    refine q_step 5 93 [(0, .ref 70), (1, .int wh), (2, .int a), (3, .int b), (4, .int (Int32.ofNat row)), (5, .int is), (6, .int (Int32.ofNat i))] [.int (g 71 27), .int (Int32.ofNat i)] g u (fun big n0 => sg_mo_32 big n0 g u wh a b (Int32.ofNat row) is (Int32.ofNat i)) ?_
    refine q_ic_ge rfl (fun (hc0 : (g 71 27) ≤ (Int32.ofNat i)) => ?_) (fun hc0 => absurd (show (g 71 27) ≤ (Int32.ofNat i) from by rw [h71, hse.1]; exact (q_le (by omega) (by omega)).mpr (by omega)) hc0)
    have e : i = z := by omega
    rw [e]
    rw [e] at hk
    exact hk
  | succ k ih =>
    intro i is hi hk
    obtain ⟨q, hq, eq⟩ := hse.2.2 i (by omega)
    have e28 : (28 : Int32) + (2 : Int32) * Int32.ofNat i = Int32.ofNat (28 + 2 * i) := by
      rw [show (28 : Int32) = Int32.ofNat 28 from rfl, show (2 : Int32) = Int32.ofNat 2 from rfl, q_mul, q_add]
    refine q_step 5 93 [(0, .ref 70), (1, .int wh), (2, .int a), (3, .int b), (4, .int (Int32.ofNat row)), (5, .int is), (6, .int (Int32.ofNat i))] [.int (g 71 27), .int (Int32.ofNat i)] g u (fun big n0 => sg_mo_32 big n0 g u wh a b (Int32.ofNat row) is (Int32.ofNat i)) ?_
    refine q_ic_ge rfl (fun hc0 => absurd (show (g 71 27) ≤ (Int32.ofNat i) from hc0) (fun z2 => by rw [h71, hse.1] at z2; exact absurd ((q_le (by omega) (by omega)).mp z2) (by omega))) (fun (hc0 : ¬ ((g 71 27) ≤ (Int32.ofNat i))) => ?_)
    refine q_step 1 98 [(0, .ref 70), (1, .int wh), (2, .int a), (3, .int b), (4, .int (Int32.ofNat row)), (5, .int is), (6, .int (Int32.ofNat i))] [.int is] g u (fun big n0 => sg_mo_33 big n0 g u wh a b (Int32.ofNat row) is (Int32.ofNat i)) ?_
    refine q_if_eq rfl (fun (hc1 : is = 0) => ?_) (fun (hc1 : ¬ (is = 0)) => ?_)
    · refine q_step 4 84 [(0, .ref 70), (1, .int wh), (2, .int a), (3, .int b), (4, .int (Int32.ofNat row)), (5, .int (0 : Int32)), (6, .int ((Int32.ofNat i) + (1 : Int32)))] [] g u (fun big n0 => sg_mo_34 big n0 g u wh a b (Int32.ofNat row) is (Int32.ofNat i)) ?_
      have e : f_is r1 r (k + 1) i is = f_is r1 r k (i + 1) (0 : Int32) := by rw [f_is, if_pos hc1]
      rw [e] at hk
      rw [q_succ]
      exact ih (i + 1) _ (by omega) hk
    · refine q_step 9 116 [(0, .ref 70), (1, .int wh), (2, .int a), (3, .int b), (4, .int (Int32.ofNat row)), (5, .int is), (6, .int (Int32.ofNat i))] [.int ((28 : Int32) + ((2 : Int32) * (Int32.ofNat i))), .ref 71, .ref 80] g u (fun big n0 => sg_mo_35 big n0 g u wh a b (Int32.ofNat row) is (Int32.ofNat i)) ?_
      refine q_iald (j := (28 + 2 * i)) (by rw [e28]; exact q_ixn (by omega) (by omega)) rfl rfl ?_
      refine q_iald (j := q) (by rw [h71, eq]; exact q_ixn (by omega) (by omega)) rfl rfl ?_
      refine q_step 9 131 [(0, .ref 70), (1, .int wh), (2, .int a), (3, .int b), (4, .int (Int32.ofNat row)), (5, .int is), (6, .int (Int32.ofNat i))] [.int (((28 : Int32) + ((2 : Int32) * (Int32.ofNat i))) + (1 : Int32)), .ref 71, .int (g 80 q)] g u (fun big n0 => sg_mo_36 big n0 g u wh a b (Int32.ofNat row) is (Int32.ofNat i) (g 80 q)) ?_
      refine q_iald (j := (29 + 2 * i)) (by rw [e28, q_succ, show 28 + 2 * i + 1 = 29 + 2 * i by omega]; exact q_ixn (by omega) (by omega)) rfl rfl ?_
      refine q_ic_ne rfl (fun (hc2 : (g 80 q) = (g 71 (29 + 2 * i))) => ?_) (fun (hc2 : ¬ ((g 80 q) = (g 71 (29 + 2 * i)))) => ?_)
      · refine q_step 5 84 [(0, .ref 70), (1, .int wh), (2, .int a), (3, .int b), (4, .int (Int32.ofNat row)), (5, .int (1 : Int32)), (6, .int ((Int32.ofNat i) + (1 : Int32)))] [] g u (fun big n0 => sg_mo_37 big n0 g u wh a b (Int32.ofNat row) is (Int32.ofNat i)) ?_
        have e : f_is r1 r (k + 1) i is = f_is r1 r k (i + 1) (1 : Int32) := by rw [f_is, if_neg hc1, if_pos (by rw [eq, q_nat (by omega), Int.toNat_natCast, ← h71, ← h80 q hq]; exact hc2)]
        rw [e] at hk
        rw [q_succ]
        exact ih (i + 1) _ (by omega) hk
      · refine q_step 4 84 [(0, .ref 70), (1, .int wh), (2, .int a), (3, .int b), (4, .int (Int32.ofNat row)), (5, .int (0 : Int32)), (6, .int ((Int32.ofNat i) + (1 : Int32)))] [] g u (fun big n0 => sg_mo_34 big n0 g u wh a b (Int32.ofNat row) is (Int32.ofNat i)) ?_
        have e : f_is r1 r (k + 1) i is = f_is r1 r k (i + 1) (0 : Int32) := by rw [f_is, if_neg hc1, if_neg (by rw [eq, q_nat (by omega), Int.toNat_natCast, ← h71, ← h80 q hq]; exact hc2)]
        rw [e] at hk
        rw [q_succ]
        exact ih (i + 1) _ (by omega) hk
theorem rm3_0 (u : qW) {n W H z : Nat} {r : qM} (h : w_ok n W H r) (hse : w_se n z r) (h6 : n ≤ 6) (h4n : 4 ^ n ≤ 4096) (h5 : n ≤ 5) : ∀ k row a b g, row + k = 4 ^ n → w_sm n (s_start g) r → g 71 = r 71 → q_EV m_214 24 [(0, .ref 70), (1, .int (0 : Int32)), (2, .int a), (3, .int b), (4, .int (Int32.ofNat row))] [] g u (w_po w_fr g (.int (s_ct (p_fit n z r) k row a))) := by
  intro k
  induction k with
  | zero =>
    intro row a b g hi hs h71
    refine q_step 3 30 [(0, .ref 70), (1, .int (0 : Int32)), (2, .int a), (3, .int b), (4, .int (Int32.ofNat row))] [.int (g 70 4), .int (Int32.ofNat row)] g u (fun big n0 => sg_mo_38 big n0 g u a b (Int32.ofNat row)) ?_
    refine q_call (M2 := 202) (rest := [.int (Int32.ofNat row)]) (b_rrows _ _ _) (fun _ _ => rfl) ?_
    refine q_ic_ge rfl (fun (hc0 : (s_rows (g 70 4)) ≤ (Int32.ofNat row)) => ?_) (fun hc0 => absurd (show (s_rows (g 70 4)) ≤ (Int32.ofNat row) from by rw [w_pl h hs, s_rows_n h6]; exact (q_le (by omega) (by omega)).mpr (by omega)) hc0)
    refine q_ret 5 (some (.int a), g, u) (fun _ _ => rfl) ?_
    exact ⟨g, u, rfl, w_fr_rfl g⟩
  | succ k ih =>
    intro row a b g hi hs h71
    refine q_step 3 30 [(0, .ref 70), (1, .int (0 : Int32)), (2, .int a), (3, .int b), (4, .int (Int32.ofNat row))] [.int (g 70 4), .int (Int32.ofNat row)] g u (fun big n0 => sg_mo_38 big n0 g u a b (Int32.ofNat row)) ?_
    refine q_call (M2 := 202) (rest := [.int (Int32.ofNat row)]) (b_rrows _ _ _) (fun _ _ => rfl) ?_
    refine q_ic_ge rfl (fun hc0 => absurd (show (s_rows (g 70 4)) ≤ (Int32.ofNat row) from hc0) (fun z => by rw [w_pl h hs, s_rows_n h6] at z; exact absurd ((q_le (by omega) (by omega)).mp z) (by omega))) (fun (hc0 : ¬ ((s_rows (g 70 4)) ≤ (Int32.ofNat row))) => ?_)
    refine q_step 1 37 [(0, .ref 70), (1, .int (0 : Int32)), (2, .int a), (3, .int b), (4, .int (Int32.ofNat row))] [.ref 70] g u (fun big n0 => sg_mo_39 big n0 g u a b (Int32.ofNat row)) ?_
    refine q_call (M2 := 172) (rest := []) (b_starts g u) (fun _ _ => rfl) ?_
    refine q_step 2 43 [(0, .ref 70), (1, .int (0 : Int32)), (2, .int a), (3, .int b), (4, .int (Int32.ofNat row)), (5, .int (0 : Int32))] [] (s_start g) u (fun big n0 => sg_mo_40 big n0 (s_start g) u a b (Int32.ofNat row)) ?_
    have key := rm1 g u (row := row) (wh := 0) (a := a) (b := b) (Q := w_po w_fr g (.int (s_ct (p_fit n z r) (k + 1) row a))) (w_pl h hs) h6 ?_ n 0 (by omega)
    · rw [s_row_0] at key
      exact key
    refine q_step 1 74 [(0, .ref 70), (1, .int (0 : Int32)), (2, .int a), (3, .int b), (4, .int (Int32.ofNat row)), (5, .int (Int32.ofNat n))] [.ref 70] (s_row_ 76 (f_md n row) n (s_start g)) u (fun big n0 => sg_mo_41 big n0 (s_row_ 76 (f_md n row) n (s_start g)) u a b (Int32.ofNat row) (Int32.ofNat n)) ?_
    refine q_call (M2 := 191) (rest := []) (c_rst u (w_ok_mo (row := row) h) (w_sm_mo hs)) (fun _ _ => rfl) ?_
    refine q_step 5 84 [(0, .ref 70), (1, .int (0 : Int32)), (2, .int a), (3, .int b), (4, .int (Int32.ofNat row)), (5, .int (1 : Int32)), (6, .int (0 : Int32))] [] (s_rst n (s_row_ 76 (f_md n row) n (s_start g))) u (fun big n0 => sg_mo_42 big n0 (s_rst n (s_row_ 76 (f_md n row) n (s_start g))) u a b (Int32.ofNat row) (Int32.ofNat n) (s_ran n (s_row_ 76 (f_md n row) n (s_start g)))) ?_
    have hwo := (w_sm_rst (w_ok_mo (row := row) h) (w_sm_mo hs)).2.1
    have hf : w_fr g (s_rst n (s_row_ 76 (f_md n row) n (s_start g))) := (s_start_fr.trans ⟨fun b hb => s_row_o (by omega), fun j _ => by rw [s_row_o (by omega)]⟩).trans s_rst_fr
    have h712 : (s_rst n (s_row_ 76 (f_md n row) n (s_start g))) 71 = r 71 := (hf.1 71 (by omega)).trans h71
    refine rm2 u h6 hse hse.2.1 h712 (fun q hq => (hwo q hq).2) z 0 1 (by omega) ?_
    rw [f_is_1, show (if n_fit (s_rst n (gh_mo n row r)) r z 0 = 0 then (0 : Int32) else 1) = p_fit n z r row from rfl]
    refine q_step 2 151 [(0, .ref 70), (1, .int (0 : Int32)), (2, .int a), (3, .int b), (4, .int (Int32.ofNat row)), (5, .int (p_fit n z r row)), (6, .int (Int32.ofNat z))] [.int (p_fit n z r row), .int a] (s_rst n (s_row_ 76 (f_md n row) n (s_start g))) u (fun big n0 => sg_mo_43 big n0 (s_rst n (s_row_ 76 (f_md n row) n (s_start g))) u a b (Int32.ofNat row) (p_fit n z r row) (Int32.ofNat z)) ?_
    by_cases hc0 : p_fit n z r row = 0
    · have hpf : p_fit n z r row = 0 := hc0
      refine q_call (M2 := 164) (rest := [.int a]) (by rw [hpf]; exact b_flag0 _ _) (fun _ _ => rfl) ?_
      refine q_step 4 159 [(0, .ref 70), (1, .int (0 : Int32)), (2, .int (a + (0 : Int32))), (3, .int b), (4, .int (Int32.ofNat row)), (5, .int (p_fit n z r row)), (6, .int (Int32.ofNat z))] [.int (p_fit n z r row), .int b] (s_rst n (s_row_ 76 (f_md n row) n (s_start g))) u (fun big n0 => sg_mo_44 big n0 (s_rst n (s_row_ 76 (f_md n row) n (s_start g))) u a b (Int32.ofNat row) (p_fit n z r row) (Int32.ofNat z) a) ?_
      refine q_if_eq rfl (fun (hc1 : (p_fit n z r row) = 0) => ?_) (fun hc1 => absurd (show (p_fit n z r row) = 0 from hc0) hc1)
      refine q_step 5 24 [(0, .ref 70), (1, .int (0 : Int32)), (2, .int (a + (0 : Int32))), (3, .int (b ||| (0 : Int32))), (4, .int ((Int32.ofNat row) + (1 : Int32))), (5, .int (p_fit n z r row)), (6, .int (Int32.ofNat z))] [] (s_rst n (s_row_ 76 (f_md n row) n (s_start g))) u (fun big n0 => sg_mo_45 big n0 (s_rst n (s_row_ 76 (f_md n row) n (s_start g))) u (a + (0 : Int32)) b (Int32.ofNat row) (p_fit n z r row) (Int32.ofNat z) b) ?_
      refine q_weak [(0, .ref 70), (1, .int (0 : Int32)), (2, .int (a + (0 : Int32))), (3, .int (b ||| (0 : Int32))), (4, .int ((Int32.ofNat row) + (1 : Int32)))] (q_sub.cons rfl (q_sub.cons rfl (q_sub.cons rfl (q_sub.cons rfl (q_sub.cons rfl q_sub.nil))))) ?_
      rw [q_succ, s_ct_s (P := p_fit n z r) (i := row) hpf]
      exact q_EV.imp (ih (row + 1) _ _ _ (by omega) (w_st_sm hf h5 hs) h712) (fun R z2 => w_po_r hf rfl z2)
    · have hpf : p_fit n z r row = 1 := (p_fit_01 n z r row).resolve_left hc0
      refine q_call (M2 := 164) (rest := [.int a]) (by rw [hpf]; exact b_flag1 _ _) (fun _ _ => rfl) ?_
      refine q_step 4 159 [(0, .ref 70), (1, .int (0 : Int32)), (2, .int (a + (1 : Int32))), (3, .int b), (4, .int (Int32.ofNat row)), (5, .int (p_fit n z r row)), (6, .int (Int32.ofNat z))] [.int (p_fit n z r row), .int b] (s_rst n (s_row_ 76 (f_md n row) n (s_start g))) u (fun big n0 => sg_mo_46 big n0 (s_rst n (s_row_ 76 (f_md n row) n (s_start g))) u a b (Int32.ofNat row) (p_fit n z r row) (Int32.ofNat z) a) ?_
      refine q_if_eq rfl (fun hc1 => absurd (show (p_fit n z r row) = 0 from hc1) (hc0)) (fun (hc1 : ¬ ((p_fit n z r row) = 0)) => ?_)
      refine q_step 8 24 [(0, .ref 70), (1, .int (0 : Int32)), (2, .int (a + (1 : Int32))), (3, .int (b ||| (0 : Int32))), (4, .int ((Int32.ofNat row) + (1 : Int32))), (5, .int (p_fit n z r row)), (6, .int (Int32.ofNat z))] [] (s_rst n (s_row_ 76 (f_md n row) n (s_start g))) u (fun big n0 => sg_mo_47 big n0 (s_rst n (s_row_ 76 (f_md n row) n (s_start g))) u (a + (1 : Int32)) b (Int32.ofNat row) (p_fit n z r row) (Int32.ofNat z) b) ?_
      refine q_weak [(0, .ref 70), (1, .int (0 : Int32)), (2, .int (a + (1 : Int32))), (3, .int (b ||| (0 : Int32))), (4, .int ((Int32.ofNat row) + (1 : Int32)))] (q_sub.cons rfl (q_sub.cons rfl (q_sub.cons rfl (q_sub.cons rfl (q_sub.cons rfl q_sub.nil))))) ?_
      rw [q_succ, s_ct_s (P := p_fit n z r) (i := row) hpf]
      exact q_EV.imp (ih (row + 1) _ _ _ (by omega) (w_st_sm hf h5 hs) h712) (fun R z2 => w_po_r hf rfl z2)
theorem r_moods0 {n W H : Nat} {g r : qM} (u : qW) (h : w_ok n W H r) (hs : w_sm n (s_start g) r) (h5 : n ≤ 5) {z : Nat} (hse : w_se n z r) (h71 : g 71 = r 71) : w_BS w_fr 214 [.ref 70, .int (0 : Int32)] g u (.int (f_mo0 n z r)) := by
  refine w_bs (mm := m_214) rfl (Nat.le_of_ble_eq_true rfl) rfl ?_
  refine q_step 8 24 [(0, .ref 70), (1, .int (0 : Int32)), (2, .int (0 : Int32)), (3, .int (0 : Int32)), (4, .int (0 : Int32))] [] g u (fun big n0 => sg_mo_48 big n0 g u) ?_
  exact rm3_0 u h hse (by omega) (s_4n (by omega)) h5 (4 ^ n) 0 0 0 g (by omega) hs h71
theorem rm3_1 (u : qW) {n W H z : Nat} {r : qM} (h : w_ok n W H r) (hse : w_se n z r) (h6 : n ≤ 6) (h4n : 4 ^ n ≤ 4096) {p : Nat} (hp : p < n) (h5 : n ≤ 5) : ∀ k row a b g, row + k = 4 ^ n → w_sm n (s_start g) r → g 71 = r 71 → q_EV m_214 24 [(0, .ref 70), (1, .int (Int32.ofNat (10 + p))), (2, .int a), (3, .int b), (4, .int (Int32.ofNat row))] [] g u (w_po w_fr g (.int (f_bm n p z r k row b))) := by
  intro k
  induction k with
  | zero =>
    intro row a b g hi hs h71
    refine q_step 3 30 [(0, .ref 70), (1, .int (Int32.ofNat (10 + p))), (2, .int a), (3, .int b), (4, .int (Int32.ofNat row))] [.int (g 70 4), .int (Int32.ofNat row)] g u (fun big n0 => sg_mo_49 big n0 g u (Int32.ofNat (10 + p)) a b (Int32.ofNat row)) ?_
    refine q_call (M2 := 202) (rest := [.int (Int32.ofNat row)]) (b_rrows _ _ _) (fun _ _ => rfl) ?_
    refine q_ic_ge rfl (fun (hc0 : (s_rows (g 70 4)) ≤ (Int32.ofNat row)) => ?_) (fun hc0 => absurd (show (s_rows (g 70 4)) ≤ (Int32.ofNat row) from by rw [w_pl h hs, s_rows_n h6]; exact (q_le (by omega) (by omega)).mpr (by omega)) hc0)
    refine q_step 1 193 [(0, .ref 70), (1, .int (Int32.ofNat (10 + p))), (2, .int a), (3, .int b), (4, .int (Int32.ofNat row))] [.int (Int32.ofNat (10 + p))] g u (fun big n0 => sg_mo_50 big n0 g u (Int32.ofNat (10 + p)) a b (Int32.ofNat row)) ?_
    refine q_if_ne rfl (fun hc1 => absurd (show (Int32.ofNat (10 + p)) = 0 from hc1) (fun z => absurd ((q_eq (i := 10 + p) (j := 0) (by omega) (by omega)).mp z) (by omega))) (fun (hc1 : ¬ ((Int32.ofNat (10 + p)) = 0)) => ?_)
    refine q_ret 2 (some (.int b), g, u) (fun _ _ => rfl) ?_
    exact ⟨g, u, rfl, w_fr_rfl g⟩
  | succ k ih =>
    intro row a b g hi hs h71
    refine q_step 3 30 [(0, .ref 70), (1, .int (Int32.ofNat (10 + p))), (2, .int a), (3, .int b), (4, .int (Int32.ofNat row))] [.int (g 70 4), .int (Int32.ofNat row)] g u (fun big n0 => sg_mo_49 big n0 g u (Int32.ofNat (10 + p)) a b (Int32.ofNat row)) ?_
    refine q_call (M2 := 202) (rest := [.int (Int32.ofNat row)]) (b_rrows _ _ _) (fun _ _ => rfl) ?_
    refine q_ic_ge rfl (fun hc0 => absurd (show (s_rows (g 70 4)) ≤ (Int32.ofNat row) from hc0) (fun z => by rw [w_pl h hs, s_rows_n h6] at z; exact absurd ((q_le (by omega) (by omega)).mp z) (by omega))) (fun (hc0 : ¬ ((s_rows (g 70 4)) ≤ (Int32.ofNat row))) => ?_)
    refine q_step 1 37 [(0, .ref 70), (1, .int (Int32.ofNat (10 + p))), (2, .int a), (3, .int b), (4, .int (Int32.ofNat row))] [.ref 70] g u (fun big n0 => sg_mo_51 big n0 g u (Int32.ofNat (10 + p)) a b (Int32.ofNat row)) ?_
    refine q_call (M2 := 172) (rest := []) (b_starts g u) (fun _ _ => rfl) ?_
    refine q_step 2 43 [(0, .ref 70), (1, .int (Int32.ofNat (10 + p))), (2, .int a), (3, .int b), (4, .int (Int32.ofNat row)), (5, .int (0 : Int32))] [] (s_start g) u (fun big n0 => sg_mo_52 big n0 (s_start g) u (Int32.ofNat (10 + p)) a b (Int32.ofNat row)) ?_
    have key := rm1 g u (row := row) (wh := Int32.ofNat (10 + p)) (a := a) (b := b) (Q := w_po w_fr g (.int (f_bm n p z r (k + 1) row b))) (w_pl h hs) h6 ?_ n 0 (by omega)
    · rw [s_row_0] at key
      exact key
    refine q_step 1 74 [(0, .ref 70), (1, .int (Int32.ofNat (10 + p))), (2, .int a), (3, .int b), (4, .int (Int32.ofNat row)), (5, .int (Int32.ofNat n))] [.ref 70] (s_row_ 76 (f_md n row) n (s_start g)) u (fun big n0 => sg_mo_53 big n0 (s_row_ 76 (f_md n row) n (s_start g)) u (Int32.ofNat (10 + p)) a b (Int32.ofNat row) (Int32.ofNat n)) ?_
    refine q_call (M2 := 191) (rest := []) (c_rst u (w_ok_mo (row := row) h) (w_sm_mo hs)) (fun _ _ => rfl) ?_
    refine q_step 5 84 [(0, .ref 70), (1, .int (Int32.ofNat (10 + p))), (2, .int a), (3, .int b), (4, .int (Int32.ofNat row)), (5, .int (1 : Int32)), (6, .int (0 : Int32))] [] (s_rst n (s_row_ 76 (f_md n row) n (s_start g))) u (fun big n0 => sg_mo_54 big n0 (s_rst n (s_row_ 76 (f_md n row) n (s_start g))) u (Int32.ofNat (10 + p)) a b (Int32.ofNat row) (Int32.ofNat n) (s_ran n (s_row_ 76 (f_md n row) n (s_start g)))) ?_
    have hwo := (w_sm_rst (w_ok_mo (row := row) h) (w_sm_mo hs)).2.1
    have hf : w_fr g (s_rst n (s_row_ 76 (f_md n row) n (s_start g))) := (s_start_fr.trans ⟨fun b hb => s_row_o (by omega), fun j _ => by rw [s_row_o (by omega)]⟩).trans s_rst_fr
    have h712 : (s_rst n (s_row_ 76 (f_md n row) n (s_start g))) 71 = r 71 := (hf.1 71 (by omega)).trans h71
    refine rm2 u h6 hse hse.2.1 h712 (fun q hq => (hwo q hq).2) z 0 1 (by omega) ?_
    rw [f_is_1, show (if n_fit (s_rst n (gh_mo n row r)) r z 0 = 0 then (0 : Int32) else 1) = p_fit n z r row from rfl]
    refine q_step 2 151 [(0, .ref 70), (1, .int (Int32.ofNat (10 + p))), (2, .int a), (3, .int b), (4, .int (Int32.ofNat row)), (5, .int (p_fit n z r row)), (6, .int (Int32.ofNat z))] [.int (p_fit n z r row), .int a] (s_rst n (s_row_ 76 (f_md n row) n (s_start g))) u (fun big n0 => sg_mo_55 big n0 (s_rst n (s_row_ 76 (f_md n row) n (s_start g))) u (Int32.ofNat (10 + p)) a b (Int32.ofNat row) (p_fit n z r row) (Int32.ofNat z)) ?_
    by_cases hc0 : p_fit n z r row = 0
    · have hpf : p_fit n z r row = 0 := hc0
      refine q_call (M2 := 164) (rest := [.int a]) (by rw [hpf]; exact b_flag0 _ _) (fun _ _ => rfl) ?_
      refine q_step 4 159 [(0, .ref 70), (1, .int (Int32.ofNat (10 + p))), (2, .int (a + (0 : Int32))), (3, .int b), (4, .int (Int32.ofNat row)), (5, .int (p_fit n z r row)), (6, .int (Int32.ofNat z))] [.int (p_fit n z r row), .int b] (s_rst n (s_row_ 76 (f_md n row) n (s_start g))) u (fun big n0 => sg_mo_56 big n0 (s_rst n (s_row_ 76 (f_md n row) n (s_start g))) u (Int32.ofNat (10 + p)) a b (Int32.ofNat row) (p_fit n z r row) (Int32.ofNat z) a) ?_
      refine q_if_eq rfl (fun (hc1 : (p_fit n z r row) = 0) => ?_) (fun hc1 => absurd (show (p_fit n z r row) = 0 from hc0) hc1)
      refine q_step 5 24 [(0, .ref 70), (1, .int (Int32.ofNat (10 + p))), (2, .int (a + (0 : Int32))), (3, .int (b ||| (0 : Int32))), (4, .int ((Int32.ofNat row) + (1 : Int32))), (5, .int (p_fit n z r row)), (6, .int (Int32.ofNat z))] [] (s_rst n (s_row_ 76 (f_md n row) n (s_start g))) u (fun big n0 => sg_mo_57 big n0 (s_rst n (s_row_ 76 (f_md n row) n (s_start g))) u (Int32.ofNat (10 + p)) (a + (0 : Int32)) b (Int32.ofNat row) (p_fit n z r row) (Int32.ofNat z) b) ?_
      refine q_weak [(0, .ref 70), (1, .int (Int32.ofNat (10 + p))), (2, .int (a + (0 : Int32))), (3, .int (b ||| (0 : Int32))), (4, .int ((Int32.ofNat row) + (1 : Int32)))] (q_sub.cons rfl (q_sub.cons rfl (q_sub.cons rfl (q_sub.cons rfl (q_sub.cons rfl q_sub.nil))))) ?_
      rw [q_succ, f_bm, if_pos hc0, s_or00]
      exact q_EV.imp (ih (row + 1) _ _ _ (by omega) (w_st_sm hf h5 hs) h712) (fun R z2 => w_po_r hf rfl z2)
    · have hpf : p_fit n z r row = 1 := (p_fit_01 n z r row).resolve_left hc0
      refine q_call (M2 := 164) (rest := [.int a]) (by rw [hpf]; exact b_flag1 _ _) (fun _ _ => rfl) ?_
      refine q_step 4 159 [(0, .ref 70), (1, .int (Int32.ofNat (10 + p))), (2, .int (a + (1 : Int32))), (3, .int b), (4, .int (Int32.ofNat row)), (5, .int (p_fit n z r row)), (6, .int (Int32.ofNat z))] [.int (p_fit n z r row), .int b] (s_rst n (s_row_ 76 (f_md n row) n (s_start g))) u (fun big n0 => sg_mo_58 big n0 (s_rst n (s_row_ 76 (f_md n row) n (s_start g))) u (Int32.ofNat (10 + p)) a b (Int32.ofNat row) (p_fit n z r row) (Int32.ofNat z) a) ?_
      refine q_if_eq rfl (fun hc1 => absurd (show (p_fit n z r row) = 0 from hc1) (hc0)) (fun (hc1 : ¬ ((p_fit n z r row) = 0)) => ?_)
      refine q_step 2 165 [(0, .ref 70), (1, .int (Int32.ofNat (10 + p))), (2, .int (a + (1 : Int32))), (3, .int b), (4, .int (Int32.ofNat row)), (5, .int (p_fit n z r row)), (6, .int (Int32.ofNat z))] [.int (10 : Int32), .int (Int32.ofNat (10 + p)), .int b] (s_rst n (s_row_ 76 (f_md n row) n (s_start g))) u (fun big n0 => sg_mo_59 big n0 (s_rst n (s_row_ 76 (f_md n row) n (s_start g))) u (Int32.ofNat (10 + p)) (a + (1 : Int32)) b (Int32.ofNat row) (p_fit n z r row) (Int32.ofNat z) b) ?_
      refine q_ic_lt rfl (fun hc2 => absurd (show (Int32.ofNat (10 + p)) < (10 : Int32) from hc2) (fun z => absurd ((q_lt (i := 10 + p) (j := 10) (by omega) (by omega)).mp z) (by omega))) (fun (hc2 : ¬ ((Int32.ofNat (10 + p)) < (10 : Int32))) => ?_)
      refine q_step 6 176 [(0, .ref 70), (1, .int (Int32.ofNat (10 + p))), (2, .int (a + (1 : Int32))), (3, .int b), (4, .int (Int32.ofNat row)), (5, .int (p_fit n z r row)), (6, .int (Int32.ofNat z))] [.int ((Int32.ofNat (10 + p)) - (10 : Int32)), .int (Int32.ofNat row), .ref 70, .int (1 : Int32), .int b] (s_rst n (s_row_ 76 (f_md n row) n (s_start g))) u (fun big n0 => sg_mo_60 big n0 (s_rst n (s_row_ 76 (f_md n row) n (s_start g))) u (Int32.ofNat (10 + p)) (a + (1 : Int32)) b (Int32.ofNat row) (p_fit n z r row) (Int32.ofNat z) b) ?_
      have hmb := b_mby (Int32.ofNat row) ((Int32.ofNat (10 + p)) - (10 : Int32)) (s_rst n (s_row_ 76 (f_md n row) n (s_start g))) u
      rw [show (Int32.ofNat (10 + p)) - (10 : Int32) = Int32.ofNat p from by rw [show (10 : Int32) = Int32.ofNat 10 from rfl, q_sb (by omega) (by omega)]; congr 1; omega, show s_dg (Int32.ofNat row) ((s_rst n (s_row_ 76 (f_md n row) n (s_start g))) 70 4) (Int32.ofNat p) = f_md n row p from by rw [hf.2 4 (by omega), w_pl h hs]; rfl] at hmb
      refine q_call (M2 := 203) (rest := [.int (1 : Int32), .int b]) (by rw [show (Int32.ofNat (10 + p)) - (10 : Int32) = Int32.ofNat p from by rw [show (10 : Int32) = Int32.ofNat 10 from rfl, q_sb (by omega) (by omega)]; congr 1; omega]; exact hmb) (fun _ _ => rfl) ?_
      refine q_step 6 24 [(0, .ref 70), (1, .int (Int32.ofNat (10 + p))), (2, .int (a + (1 : Int32))), (3, .int (b ||| ((1 : Int32) <<< ((f_md n row p) &&& 31)))), (4, .int ((Int32.ofNat row) + (1 : Int32))), (5, .int (p_fit n z r row)), (6, .int (Int32.ofNat z))] [] (s_rst n (s_row_ 76 (f_md n row) n (s_start g))) u (fun big n0 => sg_mo_61 big n0 (s_rst n (s_row_ 76 (f_md n row) n (s_start g))) u (Int32.ofNat (10 + p)) (a + (1 : Int32)) b (Int32.ofNat row) (p_fit n z r row) (Int32.ofNat z) b (f_md n row p)) ?_
      refine q_weak [(0, .ref 70), (1, .int (Int32.ofNat (10 + p))), (2, .int (a + (1 : Int32))), (3, .int (b ||| ((1 : Int32) <<< ((f_md n row p) &&& 31)))), (4, .int ((Int32.ofNat row) + (1 : Int32)))] (q_sub.cons rfl (q_sub.cons rfl (q_sub.cons rfl (q_sub.cons rfl (q_sub.cons rfl q_sub.nil))))) ?_
      rw [q_succ, f_bm, if_neg hc0]
      exact q_EV.imp (ih (row + 1) _ _ _ (by omega) (w_st_sm hf h5 hs) h712) (fun R z2 => w_po_r hf rfl z2)
theorem r_moods1 {n W H : Nat} {g r : qM} (u : qW) (h : w_ok n W H r) (hs : w_sm n (s_start g) r) (h5 : n ≤ 5) {z : Nat} (hse : w_se n z r) (h71 : g 71 = r 71) {p : Nat} (hp : p < n) : w_BS w_fr 214 [.ref 70, .int (Int32.ofNat (10 + p))] g u (.int (f_mop n p z r)) := by
  refine w_bs (mm := m_214) rfl (Nat.le_of_ble_eq_true rfl) rfl ?_
  refine q_step 1 1 [(0, .ref 70), (1, .int (Int32.ofNat (10 + p)))] [.int (Int32.ofNat (10 + p))] g u (fun big n0 => sg_mo_62 big n0 g u (Int32.ofNat (10 + p))) ?_
  refine q_if_eq rfl (fun hc0 => absurd (show (Int32.ofNat (10 + p)) = 0 from hc0) (fun z => absurd ((q_eq (i := 10 + p) (j := 0) (by omega) (by omega)).mp z) (by omega))) (fun (hc0 : ¬ ((Int32.ofNat (10 + p)) = 0)) => ?_)
  refine q_step 4 9 [(0, .ref 70), (1, .int (Int32.ofNat (10 + p)))] [.int ((Int32.ofNat (10 + p)) - (10 : Int32)), .ref 70] g u (fun big n0 => sg_mo_63 big n0 g u (Int32.ofNat (10 + p))) ?_
  refine q_call (M2 := 169) (rest := []) (by rw [show (Int32.ofNat (10 + p)) - (10 : Int32) = Int32.ofNat p from by rw [show (10 : Int32) = Int32.ofNat 10 from rfl, q_sb (by omega) (by omega)]; congr 1; omega]; exact b_risOne1 g u (w_pl h hs) (by omega) hp) (fun _ _ => rfl) ?_
  refine q_step 7 24 [(0, .ref 70), (1, .int (Int32.ofNat (10 + p))), (2, .int (0 : Int32)), (3, .int (0 : Int32)), (4, .int (0 : Int32))] [] g u (fun big n0 => sg_mo_64 big n0 g u (Int32.ofNat (10 + p))) ?_
  exact rm3_1 u h hse (by omega) (s_4n (by omega)) hp h5 (4 ^ n) 0 0 0 g (by omega) hs h71
