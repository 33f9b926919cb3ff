theorem s_rway_5 (e s : Int32) : s_rway e s = 0 ∨ s_rway e s = 1 ∨ s_rway e s = 2 ∨ s_rway e s = 3 ∨ s_rway e s = 4 := by
  have h2 : s_rway2 s = 0 ∨ s_rway2 s = 1 ∨ s_rway2 s = 2 ∨ s_rway2 s = 3 ∨ s_rway2 s = 4 := by
    unfold s_rway2
    split
    · split
      · exact Or.inr (Or.inr (Or.inr (Or.inr rfl)))
      · exact Or.inl rfl
    · exact Or.inr (Or.inr (Or.inl rfl))
  unfold s_rway
  split
  · exact h2
  · split
    · exact h2
    · split
      · exact Or.inr (Or.inr (Or.inr (Or.inl rfl)))
      · exact Or.inr (Or.inl rfl)
theorem s_rm_an {w h wl : Int32} {wy : Nat → Int32} {n : Nat} : ∀ k i c wt an, an = 0 ∨ an = 1 → (s_rm w h wl wy n k i c wt an).2.2 = 0 ∨ (s_rm w h wl wy n k i c wt an).2.2 = 1
  | 0, _, _, _, _, ha => ha
  | k + 1, i, c, wt, an, ha => by
    unfold s_rm
    split
    · exact s_rm_an k (i + 1) _ _ _ ha
    · split
      · exact s_rm_an k (i + 1) _ _ _ (Or.inr rfl)
      · exact s_rm_an k (i + 1) _ _ _ ha
def s_r1 (n : Nat) (g : qM) : qM := s_row_ 79 (s_rw (g 70 2) (g 75) (g 76) (g 77) (g 71) n) n g
def s_rS (n : Nat) (g : qM) : s_RS := s_rm (g 70 2) (g 70 3) (g 71 20) (s_r1 n g 79) n n 0 (g 75) (g 80) 0
def s_r2 (n : Nat) (g : qM) : qM := s_N (s_rS n g).1 (s_rS n g).2.1 (s_r1 n g)
def s_r3 (n : Nat) (g : qM) : qM := s_row_ 81 (fun p => if s_pr (g 70 2) (g 70 3) (g 71 25) (s_r2 n g 75) (g 76) n p = 0 then (0 : Int32) else 1) n (s_r2 n g)
/-- the cells behind steps() -/
def s_rst (n : Nat) (g : qM) : qM := s_row_ 76 (fun p => if s_r3 n g 81 p = 1 then s_fd (g 76 p) else g 76 p) n (s_r3 n g)
/-- its answer -/
def s_ran (n : Nat) (g : qM) : Int32 := s_ra (s_r3 n g 81) n 0 (s_rS n g).2.2
/-- the cells behind starts() -/
def s_start (g : qM) : qM := fun a j => if a = 70 then (if j = 27 then g 70 4 else g 70 j) else if a = 75 then (if j < 5 then g 71 j else g 75 j) else if a = 76 then (if j < 5 then g 71 (5 + j) else g 76 j) else if a = 77 then (if j < 5 then g 71 (10 + j) else g 77 j) else if a = 78 then (if j < 5 then g 71 (15 + j) else g 78 j) else g a j
theorem sg_r4_1 (big : Nat → List Value → qM → qW → qR) (n0 : Nat) (G : qM) (U : qW) : qm_run pm_m big m_191 (n0 + 4) 0 [(0, .ref 70)] [] G U = qm_run pm_m big m_191 n0 4 [(0, .ref 70), (1, .int (0 : Int32)), (2, .int (0 : Int32))] [] G U := rfl
theorem sg_r4_2 (big : Nat → List Value → qM → qW → qR) (n0 : Nat) (G : qM) (U : qW) : qm_run pm_m big m_172 (n0 + 40) 0 [(0, .ref 70)] [] G U = qm_run pm_m big m_172 n0 59 [(0, .ref 70), (1, .int (0 : Int32))] [.ref 70] (q_up (q_up (q_up (q_up G 70 27 (G 70 4)) 75 0 (G 71 0)) 76 0 (G 71 5)) 77 0 (G 71 10)) U := rfl
theorem sg_r4_3 (big : Nat → List Value → qM → qW → qR) (n0 : Nat) (G : qM) (U : qW) : qm_run pm_m big m_172 (n0 + 40) 59 [(0, .ref 70), (1, .int (0 : Int32))] [.ref 70] G U = qm_run pm_m big m_172 n0 54 [(0, .ref 70), (1, .int (1 : Int32))] [.int (10 : Int32), .ref 71, .int (1 : Int32), .ref 77] (q_up (q_up (q_up G 78 0 (G 71 15)) 75 1 (G 71 1)) 76 1 (G 71 6)) U := rfl
theorem sg_r4_4 (big : Nat → List Value → qM → qW → qR) (n0 : Nat) (G : qM) (U : qW) : qm_run pm_m big m_172 (n0 + 40) 54 [(0, .ref 70), (1, .int (1 : Int32))] [.int (10 : Int32), .ref 71, .int (1 : Int32), .ref 77] G U = qm_run pm_m big m_172 n0 44 [(0, .ref 70), (1, .int (2 : Int32))] [.ref 70] (q_up (q_up (q_up (q_up G 77 1 (G 71 11)) 78 1 (G 71 16)) 75 2 (G 71 2)) 76 2 (G 71 7)) U := rfl
theorem sg_r4_5 (big : Nat → List Value → qM → qW → qR) (n0 : Nat) (G : qM) (U : qW) : qm_run pm_m big m_172 (n0 + 40) 44 [(0, .ref 70), (1, .int (2 : Int32))] [.ref 70] G U = qm_run pm_m big m_172 n0 39 [(0, .ref 70), (1, .int (3 : Int32))] [.int (5 : Int32), .ref 71, .int (3 : Int32), .ref 76] (q_up (q_up (q_up G 77 2 (G 71 12)) 78 2 (G 71 17)) 75 3 (G 71 3)) U := rfl
theorem sg_r4_6 (big : Nat → List Value → qM → qW → qR) (n0 : Nat) (G : qM) (U : qW) : qm_run pm_m big m_172 (n0 + 40) 39 [(0, .ref 70), (1, .int (3 : Int32))] [.int (5 : Int32), .ref 71, .int (3 : Int32), .ref 76] G U = qm_run pm_m big m_172 n0 30 [(0, .ref 70), (1, .int (4 : Int32))] [.ref 70] (q_up (q_up (q_up (q_up G 76 3 (G 71 8)) 77 3 (G 71 13)) 78 3 (G 71 18)) 75 4 (G 71 4)) U := rfl
theorem b_rsteps (g : qM) (u : qW) {n : Nat} (hn : g 70 27 = Int32.ofNat n) (h6 : n ≤ 6) (hw : g 70 2 ≠ 0) : q_BS 191 [.ref 70] g u (some (.int (s_ran n g)), s_rst n g, u) := by
  refine q_bx (mm := m_191) rfl (Nat.le_of_ble_eq_true rfl) rfl ?_
  have k4 := r4_l (s_r3 n g) u hn h6 n 0 (s_rS n g).2.2 (by omega) (s_rm_an _ _ _ _ _ (Or.inl rfl))
  rw [s_row_0] at k4
  have k3 := r3_l (s_r2 n g) u (an := (s_rS n g).2.2) hn h6 hw n 0 (by omega) k4
  rw [s_row_0] at k3
  have k2 := r2_l (s_r1 n g) u hn h6 hw (fun p hp => by
    rw [show s_r1 n g 79 p = s_rw (g 70 2) (g 75) (g 76) (g 77) (g 71) n p from if_pos hp]
    exact s_rway_5 _ _) n 0 (s_r1 n g 75) (s_r1 n g 80) 0 (by omega) (Or.inl rfl) k3
  rw [s_N_0] at k2
  have k1 := r1_l g u hn h6 hw n 0 (by omega) k2
  rw [s_row_0] at k1
  refine q_step 4 4 [(0, .ref 70), (1, .int (0 : Int32)), (2, .int (0 : Int32))] [] g u (fun big n0 => sg_r4_1 big n0 g u) ?_
  exact k1
theorem s_start_eq (g : qM) : (q_up (q_up (q_up (q_up (q_up (q_up (q_up (q_up (q_up (q_up (q_up (q_up (q_up (q_up (q_up (q_up (q_up (q_up (q_up (q_up (q_up g 70 27 (g 70 4)) 75 0 (g 71 0)) 76 0 (g 71 5)) 77 0 (g 71 10)) 78 0 (g 71 15)) 75 1 (g 71 1)) 76 1 (g 71 6)) 77 1 (g 71 11)) 78 1 (g 71 16)) 75 2 (g 71 2)) 76 2 (g 71 7)) 77 2 (g 71 12)) 78 2 (g 71 17)) 75 3 (g 71 3)) 76 3 (g 71 8)) 77 3 (g 71 13)) 78 3 (g 71 18)) 75 4 (g 71 4)) 76 4 (g 71 9)) 77 4 (g 71 14)) 78 4 (g 71 19)) = s_start g := by
  funext a j
  by_cases h70 : a = 70
  · subst h70
    simp only [q_up_eq, s_start]
    by_cases e : j = 27
    · simp [e]
    · simp [e]
  by_cases h75 : a = 75
  · subst h75
    simp only [q_up_eq, s_start]
    rcases (show j = 0 ∨ j = 1 ∨ j = 2 ∨ j = 3 ∨ j = 4 ∨ 5 ≤ j by omega) with e | e | e | e | e | e
    · simp [e]
    · simp [e]
    · simp [e]
    · simp [e]
    · simp [e]
    · simp [show ¬ j < 5 by omega, show ¬ j = 0 by omega, show ¬ j = 1 by omega, show ¬ j = 2 by omega, show ¬ j = 3 by omega, show ¬ j = 4 by omega]
  by_cases h76 : a = 76
  · subst h76
    simp only [q_up_eq, s_start]
    rcases (show j = 0 ∨ j = 1 ∨ j = 2 ∨ j = 3 ∨ j = 4 ∨ 5 ≤ j by omega) with e | e | e | e | e | e
    · simp [e]
    · simp [e]
    · simp [e]
    · simp [e]
    · simp [e]
    · simp [show ¬ j < 5 by omega, show ¬ j = 0 by omega, show ¬ j = 1 by omega, show ¬ j = 2 by omega, show ¬ j = 3 by omega, show ¬ j = 4 by omega]
  by_cases h77 : a = 77
  · subst h77
    simp only [q_up_eq, s_start]
    rcases (show j = 0 ∨ j = 1 ∨ j = 2 ∨ j = 3 ∨ j = 4 ∨ 5 ≤ j by omega) with e | e | e | e | e | e
    · simp [e]
    · simp [e]
    · simp [e]
    · simp [e]
    · simp [e]
    · simp [show ¬ j < 5 by omega, show ¬ j = 0 by omega, show ¬ j = 1 by omega, show ¬ j = 2 by omega, show ¬ j = 3 by omega, show ¬ j = 4 by omega]
  by_cases h78 : a = 78
  · subst h78
    simp only [q_up_eq, s_start]
    rcases (show j = 0 ∨ j = 1 ∨ j = 2 ∨ j = 3 ∨ j = 4 ∨ 5 ≤ j by omega) with e | e | e | e | e | e
    · simp [e]
    · simp [e]
    · simp [e]
    · simp [e]
    · simp [e]
    · simp [show ¬ j < 5 by omega, show ¬ j = 0 by omega, show ¬ j = 1 by omega, show ¬ j = 2 by omega, show ¬ j = 3 by omega, show ¬ j = 4 by omega]
  simp only [q_up_eq, s_start]
  simp [h70, h75, h76, h77, h78]
theorem b_starts (g : qM) (u : qW) : q_BS 172 [.ref 70] g u (none, s_start g, u) := by
  refine q_bx (mm := m_172) rfl (Nat.le_of_ble_eq_true rfl) rfl ?_
  refine q_step 40 59 [(0, .ref 70), (1, .int (0 : Int32))] [.ref 70] (q_up (q_up (q_up (q_up g 70 27 (g 70 4)) 75 0 (g 71 0)) 76 0 (g 71 5)) 77 0 (g 71 10)) u (fun big n0 => sg_r4_2 big n0 g u) ?_
  refine q_step 40 54 [(0, .ref 70), (1, .int (1 : Int32))] [.int (10 : Int32), .ref 71, .int (1 : Int32), .ref 77] (q_up (q_up (q_up (q_up (q_up (q_up (q_up g 70 27 (g 70 4)) 75 0 (g 71 0)) 76 0 (g 71 5)) 77 0 (g 71 10)) 78 0 (g 71 15)) 75 1 (g 71 1)) 76 1 (g 71 6)) u (fun big n0 => sg_r4_3 big n0 (q_up (q_up (q_up (q_up g 70 27 (g 70 4)) 75 0 (g 71 0)) 76 0 (g 71 5)) 77 0 (g 71 10)) u) ?_
  refine q_step 40 44 [(0, .ref 70), (1, .int (2 : Int32))] [.ref 70] (q_up (q_up (q_up (q_up (q_up (q_up (q_up (q_up (q_up (q_up (q_up g 70 27 (g 70 4)) 75 0 (g 71 0)) 76 0 (g 71 5)) 77 0 (g 71 10)) 78 0 (g 71 15)) 75 1 (g 71 1)) 76 1 (g 71 6)) 77 1 (g 71 11)) 78 1 (g 71 16)) 75 2 (g 71 2)) 76 2 (g 71 7)) u (fun big n0 => sg_r4_4 big n0 (q_up (q_up (q_up (q_up (q_up (q_up (q_up g 70 27 (g 70 4)) 75 0 (g 71 0)) 76 0 (g 71 5)) 77 0 (g 71 10)) 78 0 (g 71 15)) 75 1 (g 71 1)) 76 1 (g 71 6)) u) ?_
  refine q_step 40 39 [(0, .ref 70), (1, .int (3 : Int32))] [.int (5 : Int32), .ref 71, .int (3 : Int32), .ref 76] (q_up (q_up (q_up (q_up (q_up (q_up (q_up (q_up (q_up (q_up (q_up (q_up (q_up (q_up g 70 27 (g 70 4)) 75 0 (g 71 0)) 76 0 (g 71 5)) 77 0 (g 71 10)) 78 0 (g 71 15)) 75 1 (g 71 1)) 76 1 (g 71 6)) 77 1 (g 71 11)) 78 1 (g 71 16)) 75 2 (g 71 2)) 76 2 (g 71 7)) 77 2 (g 71 12)) 78 2 (g 71 17)) 75 3 (g 71 3)) u (fun big n0 => sg_r4_5 big n0 (q_up (q_up (q_up (q_up (q_up (q_up (q_up (q_up (q_up (q_up (q_up g 70 27 (g 70 4)) 75 0 (g 71 0)) 76 0 (g 71 5)) 77 0 (g 71 10)) 78 0 (g 71 15)) 75 1 (g 71 1)) 76 1 (g 71 6)) 77 1 (g 71 11)) 78 1 (g 71 16)) 75 2 (g 71 2)) 76 2 (g 71 7)) u) ?_
  refine q_step 40 30 [(0, .ref 70), (1, .int (4 : Int32))] [.ref 70] (q_up (q_up (q_up (q_up (q_up (q_up (q_up (q_up (q_up (q_up (q_up (q_up (q_up (q_up (q_up (q_up (q_up (q_up g 70 27 (g 70 4)) 75 0 (g 71 0)) 76 0 (g 71 5)) 77 0 (g 71 10)) 78 0 (g 71 15)) 75 1 (g 71 1)) 76 1 (g 71 6)) 77 1 (g 71 11)) 78 1 (g 71 16)) 75 2 (g 71 2)) 76 2 (g 71 7)) 77 2 (g 71 12)) 78 2 (g 71 17)) 75 3 (g 71 3)) 76 3 (g 71 8)) 77 3 (g 71 13)) 78 3 (g 71 18)) 75 4 (g 71 4)) u (fun big n0 => sg_r4_6 big n0 (q_up (q_up (q_up (q_up (q_up (q_up (q_up (q_up (q_up (q_up (q_up (q_up (q_up (q_up g 70 27 (g 70 4)) 75 0 (g 71 0)) 76 0 (g 71 5)) 77 0 (g 71 10)) 78 0 (g 71 15)) 75 1 (g 71 1)) 76 1 (g 71 6)) 77 1 (g 71 11)) 78 1 (g 71 16)) 75 2 (g 71 2)) 76 2 (g 71 7)) 77 2 (g 71 12)) 78 2 (g 71 17)) 75 3 (g 71 3)) u) ?_
  refine q_ret 35 (none, (q_up (q_up (q_up (q_up (q_up (q_up (q_up (q_up (q_up (q_up (q_up (q_up (q_up (q_up (q_up (q_up (q_up (q_up (q_up (q_up (q_up g 70 27 (g 70 4)) 75 0 (g 71 0)) 76 0 (g 71 5)) 77 0 (g 71 10)) 78 0 (g 71 15)) 75 1 (g 71 1)) 76 1 (g 71 6)) 77 1 (g 71 11)) 78 1 (g 71 16)) 75 2 (g 71 2)) 76 2 (g 71 7)) 77 2 (g 71 12)) 78 2 (g 71 17)) 75 3 (g 71 3)) 76 3 (g 71 8)) 77 3 (g 71 13)) 78 3 (g 71 18)) 75 4 (g 71 4)) 76 4 (g 71 9)) 77 4 (g 71 14)) 78 4 (g 71 19)), u) (fun _ _ => rfl) ?_
  exact congrArg (fun m => ((none : Option Value), m, u)) (s_start_eq g)
