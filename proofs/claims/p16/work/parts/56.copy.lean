/-! TOWNS COPIED. -/
theorem q_cp_ne {g : qM} {a b n c : Nat} (h : c ≠ a) : q_cp g a b n c = g c := by
  funext i
  unfold q_cp
  cases e : Nat.beq c a with
  | true => exact absurd (Nat.eq_of_beq_eq_true e) h
  | false => rw [Bool.false_and]
theorem q_cp_at {g : qM} {a b n i : Nat} (h : i < n) : q_cp g a b n a i = g b i := by
  unfold q_cp
  rw [Nat.beq_refl, Nat.ble_eq_true_of_le (show i + 1 ≤ n by omega)]
  rfl
def s_cpl (a b : Nat) (g : qM) : qM := q_cp (q_cp g (a + 1) (b + 1) 6) (a + 2) (b + 2) 6
def s_cpf (a b : Nat) (g : qM) : qM := q_up (q_up (q_up (q_up (q_up (q_up (q_up g a 0 (g b 0)) a 1 (g b 1)) a 2 (g b 2)) a 3 (g b 3)) a 4 (g b 4)) a 5 (g b 5)) a 6 (g b 6)
def s_cpy (a b : Nat) (g : qM) : qM := q_cp (q_cp (q_cp (q_cp (q_cp (s_cpl a b (s_cpf a b g)) (a + 3) (b + 3) 6) (a + 4) (b + 4) 6) (a + 5) (b + 5) 5) (a + 6) (b + 6) 8) (a + 7) (b + 7) 8
theorem s_cpl_o {a b c : Nat} {g : qM} (h : c ≠ a + 1 ∧ c ≠ a + 2) : s_cpl a b g c = g c := by
  unfold s_cpl
  rw [q_cp_ne h.2, q_cp_ne h.1]
theorem s_cpf_o {a b c : Nat} {g : qM} (h : c ≠ a) : s_cpf a b g c = g c := by
  unfold s_cpf
  rw [q_up_ne h, q_up_ne h, q_up_ne h, q_up_ne h, q_up_ne h, q_up_ne h, q_up_ne h]
theorem s_cpf_f {a b j : Nat} {g : qM} (h : j < 7) : s_cpf a b g a j = g b j := by
  unfold s_cpf
  simp only [q_up_at]
  rcases (show j = 0 ∨ j = 1 ∨ j = 2 ∨ j = 3 ∨ j = 4 ∨ j = 5 ∨ j = 6 by omega) with e | e | e | e | e | e | e <;> subst e <;> rfl
theorem s_cpl_1 {a b j : Nat} {g : qM} (h : j < 6) : s_cpl a b g (a + 1) j = g (b + 1) j := by
  unfold s_cpl
  rw [q_cp_ne (by omega), q_cp_at h]
theorem s_cpl_2 {a b j : Nat} {g : qM} (h : j < 6) (hd : b ≠ a ∧ b + 1 ≠ a) : s_cpl a b g (a + 2) j = g (b + 2) j := by
  unfold s_cpl
  rw [q_cp_at h, q_cp_ne (by omega)]
theorem s_cpy_o {a b c : Nat} {g : qM} (h : c < a ∨ a + 7 < c) : s_cpy a b g c = g c := by
  unfold s_cpy
  rw [q_cp_ne (by omega), q_cp_ne (by omega), q_cp_ne (by omega), q_cp_ne (by omega), q_cp_ne (by omega), s_cpl_o (by omega), s_cpf_o (by omega)]
theorem s_cpy_f {a b j : Nat} {g : qM} (h : j < 7) : s_cpy a b g a j = g b j := by
  unfold s_cpy
  rw [q_cp_ne (by omega), q_cp_ne (by omega), q_cp_ne (by omega), q_cp_ne (by omega), q_cp_ne (by omega), s_cpl_o (by omega), s_cpf_f h]
theorem s_cpy_1 {a b j : Nat} {g : qM} (h : j < 6) (hd : a + 7 < b ∨ b + 7 < a) : s_cpy a b g (a + 1) j = g (b + 1) j := by
  unfold s_cpy
  rw [q_cp_ne (by omega), q_cp_ne (by omega), q_cp_ne (by omega), q_cp_ne (by omega), q_cp_ne (by omega), s_cpl_1 h, s_cpf_o (by omega)]
theorem s_cpy_2 {a b j : Nat} {g : qM} (h : j < 6) (hd : a + 7 < b ∨ b + 7 < a) : s_cpy a b g (a + 2) j = g (b + 2) j := by
  unfold s_cpy
  rw [q_cp_ne (by omega), q_cp_ne (by omega), q_cp_ne (by omega), q_cp_ne (by omega), q_cp_ne (by omega), s_cpl_2 h (by omega), s_cpf_o (by omega)]
theorem s_cpy_3 {a b j : Nat} {g : qM} (h : j < 6) (hd : a + 7 < b ∨ b + 7 < a) : s_cpy a b g (a + 3) j = g (b + 3) j := by
  unfold s_cpy
  rw [q_cp_ne (by omega), q_cp_ne (by omega), q_cp_ne (by omega), q_cp_ne (by omega), q_cp_at h, s_cpl_o (by omega), s_cpf_o (by omega)]
theorem s_cpy_4 {a b j : Nat} {g : qM} (h : j < 6) (hd : a + 7 < b ∨ b + 7 < a) : s_cpy a b g (a + 4) j = g (b + 4) j := by
  unfold s_cpy
  rw [q_cp_ne (by omega), q_cp_ne (by omega), q_cp_ne (by omega), q_cp_at h, q_cp_ne (by omega), s_cpl_o (by omega), s_cpf_o (by omega)]
theorem s_cpy_5 {a b j : Nat} {g : qM} (h : j < 5) (hd : a + 7 < b ∨ b + 7 < a) : s_cpy a b g (a + 5) j = g (b + 5) j := by
  unfold s_cpy
  rw [q_cp_ne (by omega), q_cp_ne (by omega), q_cp_at h, q_cp_ne (by omega), q_cp_ne (by omega), s_cpl_o (by omega), s_cpf_o (by omega)]
theorem s_cpy_6 {a b j : Nat} {g : qM} (h : j < 8) (hd : a + 7 < b ∨ b + 7 < a) : s_cpy a b g (a + 6) j = g (b + 6) j := by
  unfold s_cpy
  rw [q_cp_ne (by omega), q_cp_at h, q_cp_ne (by omega), q_cp_ne (by omega), q_cp_ne (by omega), s_cpl_o (by omega), s_cpf_o (by omega)]
theorem s_cpy_7 {a b j : Nat} {g : qM} (h : j < 8) (hd : a + 7 < b ∨ b + 7 < a) : s_cpy a b g (a + 7) j = g (b + 7) j := by
  unfold s_cpy
  rw [q_cp_at h, q_cp_ne (by omega), q_cp_ne (by omega), q_cp_ne (by omega), q_cp_ne (by omega), s_cpl_o (by omega), s_cpf_o (by omega)]
theorem w_cpy {a b n : Nat} {g r : qM} (h6 : n ≤ 6) (hd : a + 7 < b ∨ b + 7 < a) (hc : w_cs b n g r) : w_cs a n (s_cpy a b g) r := by
  obtain ⟨⟨c1, c2, c3, c4, c5⟩, c6, c7⟩ := hc
  refine ⟨⟨?_, ?_, ?_, ?_, ?_⟩, fun d h1 h2 => ?_, fun p hp => ⟨?_, ?_, ?_⟩⟩
  · rw [s_cpy_f (by omega)]; exact c1
  · rw [s_cpy_f (by omega)]; exact c2
  · rw [s_cpy_f (by omega)]; exact c3
  · rw [s_cpy_f (by omega)]; exact c4
  · rw [s_cpy_f (by omega)]; exact c5
  · rw [s_cpy_5 (by omega) hd]; exact c6 d h1 h2
  · rw [s_cpy_1 (by omega) hd]; exact (c7 p hp).1
  · rw [s_cpy_2 (by omega) hd]; exact (c7 p hp).2.1
  · rw [s_cpy_3 (by omega) hd]; exact (c7 p hp).2.2
theorem w_cpy_fc {g : qM} : w_fc g (s_cpy 35 20 g) := fun b hb => s_cpy_o (by omega)
theorem w_cpl_fc {g : qM} : w_fc g (s_cpl 35 20 g) := fun b hb => s_cpl_o (by omega)
theorem sg_cy_1 (big : Nat → List Value → qM → qW → qR) (n0 : Nat) (G : qM) (U : qW) : qm_run pm_m big m_41 (n0 + 30) 0 [(0, .ref 35), (1, .ref 20)] [] G U = qm_run pm_m big m_41 n0 58 [(0, .ref 35), (1, .ref 20)] [.ref 20, .ref 35] (q_up (q_up (q_up (q_up (q_up (q_up (q_up G 35 0 (G 20 0)) 35 1 (G 20 1)) 35 2 (G 20 2)) 35 3 (G 20 3)) 35 4 (G 20 4)) 35 5 (G 20 5)) 35 6 (G 20 6)) U := rfl
theorem sg_cy_2 (big : Nat → List Value → qM → qW → qR) (n0 : Nat) (G : qM) (U : qW) : qm_run pm_m big m_41 (n0 + 40) 61 [(0, .ref 35), (1, .ref 20)] [] G U = qm_run pm_m big m_41 n0 133 [(0, .ref 35), (1, .ref 20)] [] (q_cp (q_cp (q_cp (q_cp G 38 23 6) 39 24 6) 40 25 5) 41 26 8) U := rfl
theorem sg_cy_3 (big : Nat → List Value → qM → qW → qR) (n0 : Nat) (G : qM) (U : qW) : qm_run pm_m big m_41 (n0 + 30) 0 [(0, .ref 20), (1, .ref 12)] [] G U = qm_run pm_m big m_41 n0 58 [(0, .ref 20), (1, .ref 12)] [.ref 12, .ref 20] (q_up (q_up (q_up (q_up (q_up (q_up (q_up G 20 0 (G 12 0)) 20 1 (G 12 1)) 20 2 (G 12 2)) 20 3 (G 12 3)) 20 4 (G 12 4)) 20 5 (G 12 5)) 20 6 (G 12 6)) U := rfl
theorem sg_cy_4 (big : Nat → List Value → qM → qW → qR) (n0 : Nat) (G : qM) (U : qW) : qm_run pm_m big m_41 (n0 + 40) 61 [(0, .ref 20), (1, .ref 12)] [] G U = qm_run pm_m big m_41 n0 133 [(0, .ref 20), (1, .ref 12)] [] (q_cp (q_cp (q_cp (q_cp G 23 15 6) 24 16 6) 25 17 5) 26 18 8) U := rfl
theorem sg_cy_5 (big : Nat → List Value → qM → qW → qR) (n0 : Nat) (G : qM) (U : qW) : qm_run pm_m big m_41 (n0 + 30) 0 [(0, .ref 45), (1, .ref 20)] [] G U = qm_run pm_m big m_41 n0 58 [(0, .ref 45), (1, .ref 20)] [.ref 20, .ref 45] (q_up (q_up (q_up (q_up (q_up (q_up (q_up G 45 0 (G 20 0)) 45 1 (G 20 1)) 45 2 (G 20 2)) 45 3 (G 20 3)) 45 4 (G 20 4)) 45 5 (G 20 5)) 45 6 (G 20 6)) U := rfl
theorem sg_cy_6 (big : Nat → List Value → qM → qW → qR) (n0 : Nat) (G : qM) (U : qW) : qm_run pm_m big m_41 (n0 + 40) 61 [(0, .ref 45), (1, .ref 20)] [] G U = qm_run pm_m big m_41 n0 133 [(0, .ref 45), (1, .ref 20)] [] (q_cp (q_cp (q_cp (q_cp G 48 23 6) 49 24 6) 50 25 5) 51 26 8) U := rfl
theorem sg_cy_7 (big : Nat → List Value → qM → qW → qR) (n0 : Nat) (G : qM) (U : qW) : qm_run pm_m big m_41 (n0 + 30) 0 [(0, .ref 53), (1, .ref 20)] [] G U = qm_run pm_m big m_41 n0 58 [(0, .ref 53), (1, .ref 20)] [.ref 20, .ref 53] (q_up (q_up (q_up (q_up (q_up (q_up (q_up G 53 0 (G 20 0)) 53 1 (G 20 1)) 53 2 (G 20 2)) 53 3 (G 20 3)) 53 4 (G 20 4)) 53 5 (G 20 5)) 53 6 (G 20 6)) U := rfl
theorem sg_cy_8 (big : Nat → List Value → qM → qW → qR) (n0 : Nat) (G : qM) (U : qW) : qm_run pm_m big m_41 (n0 + 40) 61 [(0, .ref 53), (1, .ref 20)] [] G U = qm_run pm_m big m_41 n0 133 [(0, .ref 53), (1, .ref 20)] [] (q_cp (q_cp (q_cp (q_cp G 56 23 6) 57 24 6) 58 25 5) 59 26 8) U := rfl
theorem sg_cy_9 (big : Nat → List Value → qM → qW → qR) (n0 : Nat) (G : qM) (U : qW) : qm_run pm_m big m_41 (n0 + 30) 0 [(0, .ref 20), (1, .ref 45)] [] G U = qm_run pm_m big m_41 n0 58 [(0, .ref 20), (1, .ref 45)] [.ref 45, .ref 20] (q_up (q_up (q_up (q_up (q_up (q_up (q_up G 20 0 (G 45 0)) 20 1 (G 45 1)) 20 2 (G 45 2)) 20 3 (G 45 3)) 20 4 (G 45 4)) 20 5 (G 45 5)) 20 6 (G 45 6)) U := rfl
theorem sg_cy_10 (big : Nat → List Value → qM → qW → qR) (n0 : Nat) (G : qM) (U : qW) : qm_run pm_m big m_41 (n0 + 40) 61 [(0, .ref 20), (1, .ref 45)] [] G U = qm_run pm_m big m_41 n0 133 [(0, .ref 20), (1, .ref 45)] [] (q_cp (q_cp (q_cp (q_cp G 23 48 6) 24 49 6) 25 50 5) 26 51 8) U := rfl
theorem sg_cy_11 (big : Nat → List Value → qM → qW → qR) (n0 : Nat) (G : qM) (U : qW) : qm_run pm_m big m_41 (n0 + 30) 0 [(0, .ref 20), (1, .ref 53)] [] G U = qm_run pm_m big m_41 n0 58 [(0, .ref 20), (1, .ref 53)] [.ref 53, .ref 20] (q_up (q_up (q_up (q_up (q_up (q_up (q_up G 20 0 (G 53 0)) 20 1 (G 53 1)) 20 2 (G 53 2)) 20 3 (G 53 3)) 20 4 (G 53 4)) 20 5 (G 53 5)) 20 6 (G 53 6)) U := rfl
theorem sg_cy_12 (big : Nat → List Value → qM → qW → qR) (n0 : Nat) (G : qM) (U : qW) : qm_run pm_m big m_41 (n0 + 40) 61 [(0, .ref 20), (1, .ref 53)] [] G U = qm_run pm_m big m_41 n0 133 [(0, .ref 20), (1, .ref 53)] [] (q_cp (q_cp (q_cp (q_cp G 23 56 6) 24 57 6) 25 58 5) 26 59 8) U := rfl
theorem b_cpl35_20 (g : qM) (u : qW) : q_BS 42 [.ref 35, .ref 20] g u (none, s_cpl 35 20 g, u) := by
  refine q_bx (mm := m_42) rfl (Nat.le_of_ble_eq_true rfl) rfl ?_
  refine q_ret 21 (none, (q_cp (q_cp g 36 21 6) 37 22 6), u) (fun _ _ => rfl) ?_
  rfl
theorem b_cpy35_20 (g : qM) (u : qW) : q_BS 41 [.ref 35, .ref 20] g u (none, s_cpy 35 20 g, u) := by
  refine q_bx (mm := m_41) rfl (Nat.le_of_ble_eq_true rfl) rfl ?_
  refine q_step 30 58 [(0, .ref 35), (1, .ref 20)] [.ref 20, .ref 35] (q_up (q_up (q_up (q_up (q_up (q_up (q_up g 35 0 (g 20 0)) 35 1 (g 20 1)) 35 2 (g 20 2)) 35 3 (g 20 3)) 35 4 (g 20 4)) 35 5 (g 20 5)) 35 6 (g 20 6)) u (fun big n0 => sg_cy_1 big n0 g u) ?_
  rw [show (q_up (q_up (q_up (q_up (q_up (q_up (q_up g 35 0 (g 20 0)) 35 1 (g 20 1)) 35 2 (g 20 2)) 35 3 (g 20 3)) 35 4 (g 20 4)) 35 5 (g 20 5)) 35 6 (g 20 6)) = s_cpf 35 20 g from rfl]
  refine q_call (M2 := 42) (rest := []) (b_cpl35_20 _ _) (fun _ _ => rfl) ?_
  refine q_step 40 133 [(0, .ref 35), (1, .ref 20)] [] (q_cp (q_cp (q_cp (q_cp (s_cpl 35 20 (s_cpf 35 20 g)) 38 23 6) 39 24 6) 40 25 5) 41 26 8) u (fun big n0 => sg_cy_2 big n0 (s_cpl 35 20 (s_cpf 35 20 g)) u) ?_
  refine q_ret 11 (none, (q_cp (q_cp (q_cp (q_cp (q_cp (s_cpl 35 20 (s_cpf 35 20 g)) 38 23 6) 39 24 6) 40 25 5) 41 26 8) 42 27 8), u) (fun _ _ => rfl) ?_
  rfl
theorem b_cpl20_12 (g : qM) (u : qW) : q_BS 42 [.ref 20, .ref 12] g u (none, s_cpl 20 12 g, u) := by
  refine q_bx (mm := m_42) rfl (Nat.le_of_ble_eq_true rfl) rfl ?_
  refine q_ret 21 (none, (q_cp (q_cp g 21 13 6) 22 14 6), u) (fun _ _ => rfl) ?_
  rfl
theorem b_cpy20_12 (g : qM) (u : qW) : q_BS 41 [.ref 20, .ref 12] g u (none, s_cpy 20 12 g, u) := by
  refine q_bx (mm := m_41) rfl (Nat.le_of_ble_eq_true rfl) rfl ?_
  refine q_step 30 58 [(0, .ref 20), (1, .ref 12)] [.ref 12, .ref 20] (q_up (q_up (q_up (q_up (q_up (q_up (q_up g 20 0 (g 12 0)) 20 1 (g 12 1)) 20 2 (g 12 2)) 20 3 (g 12 3)) 20 4 (g 12 4)) 20 5 (g 12 5)) 20 6 (g 12 6)) u (fun big n0 => sg_cy_3 big n0 g u) ?_
  rw [show (q_up (q_up (q_up (q_up (q_up (q_up (q_up g 20 0 (g 12 0)) 20 1 (g 12 1)) 20 2 (g 12 2)) 20 3 (g 12 3)) 20 4 (g 12 4)) 20 5 (g 12 5)) 20 6 (g 12 6)) = s_cpf 20 12 g from rfl]
  refine q_call (M2 := 42) (rest := []) (b_cpl20_12 _ _) (fun _ _ => rfl) ?_
  refine q_step 40 133 [(0, .ref 20), (1, .ref 12)] [] (q_cp (q_cp (q_cp (q_cp (s_cpl 20 12 (s_cpf 20 12 g)) 23 15 6) 24 16 6) 25 17 5) 26 18 8) u (fun big n0 => sg_cy_4 big n0 (s_cpl 20 12 (s_cpf 20 12 g)) u) ?_
  refine q_ret 11 (none, (q_cp (q_cp (q_cp (q_cp (q_cp (s_cpl 20 12 (s_cpf 20 12 g)) 23 15 6) 24 16 6) 25 17 5) 26 18 8) 27 19 8), u) (fun _ _ => rfl) ?_
  rfl
theorem b_cpl45_20 (g : qM) (u : qW) : q_BS 42 [.ref 45, .ref 20] g u (none, s_cpl 45 20 g, u) := by
  refine q_bx (mm := m_42) rfl (Nat.le_of_ble_eq_true rfl) rfl ?_
  refine q_ret 21 (none, (q_cp (q_cp g 46 21 6) 47 22 6), u) (fun _ _ => rfl) ?_
  rfl
theorem b_cpy45_20 (g : qM) (u : qW) : q_BS 41 [.ref 45, .ref 20] g u (none, s_cpy 45 20 g, u) := by
  refine q_bx (mm := m_41) rfl (Nat.le_of_ble_eq_true rfl) rfl ?_
  refine q_step 30 58 [(0, .ref 45), (1, .ref 20)] [.ref 20, .ref 45] (q_up (q_up (q_up (q_up (q_up (q_up (q_up g 45 0 (g 20 0)) 45 1 (g 20 1)) 45 2 (g 20 2)) 45 3 (g 20 3)) 45 4 (g 20 4)) 45 5 (g 20 5)) 45 6 (g 20 6)) u (fun big n0 => sg_cy_5 big n0 g u) ?_
  rw [show (q_up (q_up (q_up (q_up (q_up (q_up (q_up g 45 0 (g 20 0)) 45 1 (g 20 1)) 45 2 (g 20 2)) 45 3 (g 20 3)) 45 4 (g 20 4)) 45 5 (g 20 5)) 45 6 (g 20 6)) = s_cpf 45 20 g from rfl]
  refine q_call (M2 := 42) (rest := []) (b_cpl45_20 _ _) (fun _ _ => rfl) ?_
  refine q_step 40 133 [(0, .ref 45), (1, .ref 20)] [] (q_cp (q_cp (q_cp (q_cp (s_cpl 45 20 (s_cpf 45 20 g)) 48 23 6) 49 24 6) 50 25 5) 51 26 8) u (fun big n0 => sg_cy_6 big n0 (s_cpl 45 20 (s_cpf 45 20 g)) u) ?_
  refine q_ret 11 (none, (q_cp (q_cp (q_cp (q_cp (q_cp (s_cpl 45 20 (s_cpf 45 20 g)) 48 23 6) 49 24 6) 50 25 5) 51 26 8) 52 27 8), u) (fun _ _ => rfl) ?_
  rfl
theorem b_cpl53_20 (g : qM) (u : qW) : q_BS 42 [.ref 53, .ref 20] g u (none, s_cpl 53 20 g, u) := by
  refine q_bx (mm := m_42) rfl (Nat.le_of_ble_eq_true rfl) rfl ?_
  refine q_ret 21 (none, (q_cp (q_cp g 54 21 6) 55 22 6), u) (fun _ _ => rfl) ?_
  rfl
theorem b_cpy53_20 (g : qM) (u : qW) : q_BS 41 [.ref 53, .ref 20] g u (none, s_cpy 53 20 g, u) := by
  refine q_bx (mm := m_41) rfl (Nat.le_of_ble_eq_true rfl) rfl ?_
  refine q_step 30 58 [(0, .ref 53), (1, .ref 20)] [.ref 20, .ref 53] (q_up (q_up (q_up (q_up (q_up (q_up (q_up g 53 0 (g 20 0)) 53 1 (g 20 1)) 53 2 (g 20 2)) 53 3 (g 20 3)) 53 4 (g 20 4)) 53 5 (g 20 5)) 53 6 (g 20 6)) u (fun big n0 => sg_cy_7 big n0 g u) ?_
  rw [show (q_up (q_up (q_up (q_up (q_up (q_up (q_up g 53 0 (g 20 0)) 53 1 (g 20 1)) 53 2 (g 20 2)) 53 3 (g 20 3)) 53 4 (g 20 4)) 53 5 (g 20 5)) 53 6 (g 20 6)) = s_cpf 53 20 g from rfl]
  refine q_call (M2 := 42) (rest := []) (b_cpl53_20 _ _) (fun _ _ => rfl) ?_
  refine q_step 40 133 [(0, .ref 53), (1, .ref 20)] [] (q_cp (q_cp (q_cp (q_cp (s_cpl 53 20 (s_cpf 53 20 g)) 56 23 6) 57 24 6) 58 25 5) 59 26 8) u (fun big n0 => sg_cy_8 big n0 (s_cpl 53 20 (s_cpf 53 20 g)) u) ?_
  refine q_ret 11 (none, (q_cp (q_cp (q_cp (q_cp (q_cp (s_cpl 53 20 (s_cpf 53 20 g)) 56 23 6) 57 24 6) 58 25 5) 59 26 8) 60 27 8), u) (fun _ _ => rfl) ?_
  rfl
theorem b_cpl20_45 (g : qM) (u : qW) : q_BS 42 [.ref 20, .ref 45] g u (none, s_cpl 20 45 g, u) := by
  refine q_bx (mm := m_42) rfl (Nat.le_of_ble_eq_true rfl) rfl ?_
  refine q_ret 21 (none, (q_cp (q_cp g 21 46 6) 22 47 6), u) (fun _ _ => rfl) ?_
  rfl
theorem b_cpy20_45 (g : qM) (u : qW) : q_BS 41 [.ref 20, .ref 45] g u (none, s_cpy 20 45 g, u) := by
  refine q_bx (mm := m_41) rfl (Nat.le_of_ble_eq_true rfl) rfl ?_
  refine q_step 30 58 [(0, .ref 20), (1, .ref 45)] [.ref 45, .ref 20] (q_up (q_up (q_up (q_up (q_up (q_up (q_up g 20 0 (g 45 0)) 20 1 (g 45 1)) 20 2 (g 45 2)) 20 3 (g 45 3)) 20 4 (g 45 4)) 20 5 (g 45 5)) 20 6 (g 45 6)) u (fun big n0 => sg_cy_9 big n0 g u) ?_
  rw [show (q_up (q_up (q_up (q_up (q_up (q_up (q_up g 20 0 (g 45 0)) 20 1 (g 45 1)) 20 2 (g 45 2)) 20 3 (g 45 3)) 20 4 (g 45 4)) 20 5 (g 45 5)) 20 6 (g 45 6)) = s_cpf 20 45 g from rfl]
  refine q_call (M2 := 42) (rest := []) (b_cpl20_45 _ _) (fun _ _ => rfl) ?_
  refine q_step 40 133 [(0, .ref 20), (1, .ref 45)] [] (q_cp (q_cp (q_cp (q_cp (s_cpl 20 45 (s_cpf 20 45 g)) 23 48 6) 24 49 6) 25 50 5) 26 51 8) u (fun big n0 => sg_cy_10 big n0 (s_cpl 20 45 (s_cpf 20 45 g)) u) ?_
  refine q_ret 11 (none, (q_cp (q_cp (q_cp (q_cp (q_cp (s_cpl 20 45 (s_cpf 20 45 g)) 23 48 6) 24 49 6) 25 50 5) 26 51 8) 27 52 8), u) (fun _ _ => rfl) ?_
  rfl
theorem b_cpl20_53 (g : qM) (u : qW) : q_BS 42 [.ref 20, .ref 53] g u (none, s_cpl 20 53 g, u) := by
  refine q_bx (mm := m_42) rfl (Nat.le_of_ble_eq_true rfl) rfl ?_
  refine q_ret 21 (none, (q_cp (q_cp g 21 54 6) 22 55 6), u) (fun _ _ => rfl) ?_
  rfl
theorem b_cpy20_53 (g : qM) (u : qW) : q_BS 41 [.ref 20, .ref 53] g u (none, s_cpy 20 53 g, u) := by
  refine q_bx (mm := m_41) rfl (Nat.le_of_ble_eq_true rfl) rfl ?_
  refine q_step 30 58 [(0, .ref 20), (1, .ref 53)] [.ref 53, .ref 20] (q_up (q_up (q_up (q_up (q_up (q_up (q_up g 20 0 (g 53 0)) 20 1 (g 53 1)) 20 2 (g 53 2)) 20 3 (g 53 3)) 20 4 (g 53 4)) 20 5 (g 53 5)) 20 6 (g 53 6)) u (fun big n0 => sg_cy_11 big n0 g u) ?_
  rw [show (q_up (q_up (q_up (q_up (q_up (q_up (q_up g 20 0 (g 53 0)) 20 1 (g 53 1)) 20 2 (g 53 2)) 20 3 (g 53 3)) 20 4 (g 53 4)) 20 5 (g 53 5)) 20 6 (g 53 6)) = s_cpf 20 53 g from rfl]
  refine q_call (M2 := 42) (rest := []) (b_cpl20_53 _ _) (fun _ _ => rfl) ?_
  refine q_step 40 133 [(0, .ref 20), (1, .ref 53)] [] (q_cp (q_cp (q_cp (q_cp (s_cpl 20 53 (s_cpf 20 53 g)) 23 56 6) 24 57 6) 25 58 5) 26 59 8) u (fun big n0 => sg_cy_12 big n0 (s_cpl 20 53 (s_cpf 20 53 g)) u) ?_
  refine q_ret 11 (none, (q_cp (q_cp (q_cp (q_cp (q_cp (s_cpl 20 53 (s_cpf 20 53 g)) 23 56 6) 24 57 6) 25 58 5) 26 59 8) 27 60 8), u) (fun _ _ => rfl) ?_
  rfl
