/-! A STEP of the class. -/
theorem s_way_5 (e s : Int32) : s_way e s = 0 ∨ s_way e s = 1 ∨ s_way e s = 2 ∨ s_way e s = 3 ∨ s_way e s = 4 := by
  have h2 : s_way2 s = 0 ∨ s_way2 s = 1 ∨ s_way2 s = 2 ∨ s_way2 s = 3 ∨ s_way2 s = 4 := by
    unfold s_way2
    split
    · exact Or.inr (Or.inr (Or.inr (Or.inr rfl)))
    · split
      · exact Or.inl rfl
      · exact Or.inr (Or.inr (Or.inl rfl))
  unfold s_way
  split
  · exact h2
  · split
    · exact h2
    · split
      · exact Or.inr (Or.inr (Or.inr (Or.inl rfl)))
      · exact Or.inr (Or.inl rfl)
theorem s_wf_5 (st : Nat → Int32) (H : qM) (p : Nat) : s_wf st H p = 0 ∨ s_wf st H p = 1 ∨ s_wf st H p = 2 ∨ s_wf st H p = 3 ∨ s_wf st H p = 4 := by
  unfold s_wf
  split
  · exact s_way_5 _ _
  · exact Or.inr (Or.inr (Or.inr (Or.inr rfl)))
def s_wg (T n : Nat) (g : qM) : qM := s_weigh (g T 0) (g (T + 1)) (g (T + 2)) (g (T + 3)) (g (T + 5)) n g
def s_step (T n : Nat) (g : qM) : qM := q_up (s_flip T n (s_move T n (s_wg T n g))) T 5 (g T 5 + 1)
theorem sg_st_1 (big : Nat → List Value → qM → qW → qR) (n0 : Nat) (G : qM) (U : qW) : qm_run pm_m big m_77 (n0 + 2) 0 [(0, .ref 28)] [] G U = qm_run pm_m big m_77 n0 4 [(0, .ref 28)] [.int (G 28 5)] G U := rfl
theorem sg_st_2 (big : Nat → List Value → qM → qW → qR) (n0 : Nat) (G : qM) (U : qW) : qm_run pm_m big m_77 (n0 + 2) 7 [(0, .ref 28)] [] G U = qm_run pm_m big m_77 n0 11 [(0, .ref 28)] [.int (G 28 6)] G U := rfl
theorem sg_st_3 (big : Nat → List Value → qM → qW → qR) (n0 : Nat) (G : qM) (U : qW) : qm_run pm_m big m_68 (n0 + 2) 0 [(0, .ref 28), (1, .ref 20)] [] G U = qm_run pm_m big m_68 n0 2 [(0, .ref 28), (1, .ref 20)] [.ref 20, .ref 28] G U := rfl
theorem sg_st_4 (big : Nat → List Value → qM → qW → qR) (n0 : Nat) (G : qM) (U : qW) : qm_run pm_m big m_68 (n0 + 2) 5 [(0, .ref 28), (1, .ref 20)] [] G U = qm_run pm_m big m_68 n0 7 [(0, .ref 28), (1, .ref 20)] [.ref 20, .ref 28] G U := rfl
theorem sg_st_5 (big : Nat → List Value → qM → qW → qR) (n0 : Nat) (G : qM) (U : qW) : qm_run pm_m big m_68 (n0 + 2) 10 [(0, .ref 28), (1, .ref 20)] [] G U = qm_run pm_m big m_68 n0 12 [(0, .ref 28), (1, .ref 20)] [.ref 20, .ref 28] G U := rfl
theorem sg_st_6 (big : Nat → List Value → qM → qW → qR) (n0 : Nat) (G : qM) (U : qW) : qm_run pm_m big m_68 (n0 + 2) 0 [(0, .ref 28), (1, .ref 35)] [] G U = qm_run pm_m big m_68 n0 2 [(0, .ref 28), (1, .ref 35)] [.ref 35, .ref 28] G U := rfl
theorem sg_st_7 (big : Nat → List Value → qM → qW → qR) (n0 : Nat) (G : qM) (U : qW) : qm_run pm_m big m_68 (n0 + 2) 5 [(0, .ref 28), (1, .ref 35)] [] G U = qm_run pm_m big m_68 n0 7 [(0, .ref 28), (1, .ref 35)] [.ref 35, .ref 28] G U := rfl
theorem sg_st_8 (big : Nat → List Value → qM → qW → qR) (n0 : Nat) (G : qM) (U : qW) : qm_run pm_m big m_68 (n0 + 2) 10 [(0, .ref 28), (1, .ref 35)] [] G U = qm_run pm_m big m_68 n0 12 [(0, .ref 28), (1, .ref 35)] [.ref 35, .ref 28] G U := rfl
theorem b_changed (g : qM) (u : qW) : q_BS 77 [.ref 28] g u (some (.int (if g 28 5 = 0 then (if g 28 6 = 0 then 1 else 0) else 0)), g, u) := by
  refine q_bx (mm := m_77) rfl (Nat.le_of_ble_eq_true rfl) rfl ?_
  refine q_step 2 4 [(0, .ref 28)] [.int (g 28 5)] g u (fun big n0 => sg_st_1 big n0 g u) ?_
  refine q_if_ne rfl (fun (hc0 : (g 28 5) = 0) => ?_) (fun (hc0 : ¬ ((g 28 5) = 0)) => ?_)
  · refine q_step 2 11 [(0, .ref 28)] [.int (g 28 6)] g u (fun big n0 => sg_st_2 big n0 g u) ?_
    refine q_if_ne rfl (fun (hc1 : (g 28 6) = 0) => ?_) (fun (hc1 : ¬ ((g 28 6) = 0)) => ?_)
    · refine q_ret 3 (some (.int (1 : Int32)), g, u) (fun _ _ => rfl) ?_
      rw [if_pos hc0, if_pos hc1]
    · refine q_ret 2 (some (.int (0 : Int32)), g, u) (fun _ _ => rfl) ?_
      rw [if_pos hc0, if_neg hc1]
  · refine q_ret 2 (some (.int (0 : Int32)), g, u) (fun _ _ => rfl) ?_
    rw [if_neg hc0]
theorem b_step20 (g : qM) (u : qW) {n : Nat} (hn : g 20 3 = Int32.ofNat n) (h6 : n ≤ 6) (hw : ¬ g 20 0 ≤ 0) (hf : ∀ p q, p < n → q < n → 0 ≤ (s_far (g 20 0) (g 21 p) (g 21 q)).toInt) : q_BS 68 [.ref 28, .ref 20] g u (none, s_step 20 n g, u) := by
  refine q_bx (mm := m_68) rfl (Nat.le_of_ble_eq_true rfl) rfl ?_
  refine q_step 2 2 [(0, .ref 28), (1, .ref 20)] [.ref 20, .ref 28] g u (fun big n0 => sg_st_3 big n0 g u) ?_
  refine q_call (M2 := 58) (rest := []) (b_weigh20 g u hn h6 hw hf) (fun _ _ => rfl) ?_
  refine q_step 2 7 [(0, .ref 28), (1, .ref 20)] [.ref 20, .ref 28] (s_wg 20 n g) u (fun big n0 => sg_st_4 big n0 (s_wg 20 n g) u) ?_
  refine q_call (M2 := 69) (rest := []) (b_move20 (s_wg 20 n g) u hn h6 (fun p hp => by rw [show (s_wg 20 n g) 33 p = s_wf (g 23) (s_H (g 20 0) (g 21) (g 22) (g 25) n g) p from if_pos hp]; exact s_wf_5 _ _ _)) (fun _ _ => rfl) ?_
  refine q_step 2 12 [(0, .ref 28), (1, .ref 20)] [.ref 20, .ref 28] (s_move 20 n (s_wg 20 n g)) u (fun big n0 => sg_st_5 big n0 (s_move 20 n (s_wg 20 n g)) u) ?_
  refine q_call (M2 := 70) (rest := []) (b_flip20 (s_move 20 n (s_wg 20 n g)) u hn h6) (fun _ _ => rfl) ?_
  refine q_ret 7 (none, (q_up (s_flip 20 n (s_move 20 n (s_wg 20 n g))) 20 5 ((g 20 5) + (1 : Int32))), u) (fun _ _ => rfl) ?_
  rfl
theorem b_step35 (g : qM) (u : qW) {n : Nat} (hn : g 35 3 = Int32.ofNat n) (h6 : n ≤ 6) (hw : ¬ g 35 0 ≤ 0) (hf : ∀ p q, p < n → q < n → 0 ≤ (s_far (g 35 0) (g 36 p) (g 36 q)).toInt) : q_BS 68 [.ref 28, .ref 35] g u (none, s_step 35 n g, u) := by
  refine q_bx (mm := m_68) rfl (Nat.le_of_ble_eq_true rfl) rfl ?_
  refine q_step 2 2 [(0, .ref 28), (1, .ref 35)] [.ref 35, .ref 28] g u (fun big n0 => sg_st_6 big n0 g u) ?_
  refine q_call (M2 := 58) (rest := []) (b_weigh35 g u hn h6 hw hf) (fun _ _ => rfl) ?_
  refine q_step 2 7 [(0, .ref 28), (1, .ref 35)] [.ref 35, .ref 28] (s_wg 35 n g) u (fun big n0 => sg_st_7 big n0 (s_wg 35 n g) u) ?_
  refine q_call (M2 := 69) (rest := []) (b_move35 (s_wg 35 n g) u hn h6 (fun p hp => by rw [show (s_wg 35 n g) 33 p = s_wf (g 38) (s_H (g 35 0) (g 36) (g 37) (g 40) n g) p from if_pos hp]; exact s_wf_5 _ _ _)) (fun _ _ => rfl) ?_
  refine q_step 2 12 [(0, .ref 28), (1, .ref 35)] [.ref 35, .ref 28] (s_move 35 n (s_wg 35 n g)) u (fun big n0 => sg_st_8 big n0 (s_move 35 n (s_wg 35 n g)) u) ?_
  refine q_call (M2 := 70) (rest := []) (b_flip35 (s_move 35 n (s_wg 35 n g)) u hn h6) (fun _ _ => rfl) ?_
  refine q_ret 7 (none, (q_up (s_flip 35 n (s_move 35 n (s_wg 35 n g))) 35 5 ((g 35 5) + (1 : Int32))), u) (fun _ _ => rfl) ?_
  rfl
