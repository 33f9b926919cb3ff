/-! WALL lines of the class. -/
theorem t_hit_w1 {f f' : Nat → Int32} {x : Int32} {n : Nat} (h6 : n ≤ 6) (he : ∀ p, p < n → f p = f' p) : t_hit f' x n = 0 ↔ s_w1 f x n 0 = i_none := by
  rw [t_hit_0]
  rcases s_w1_some (c := f) (x := x) n 0 (by omega) with h | ⟨q, _, hq, hc, hs⟩
  · exact ⟨fun _ => h.1, fun _ q hq z => h.2 q (by omega) (by omega) ((he q hq).trans z)⟩
  · refine ⟨fun z => absurd ((he q (by omega)).symm.trans hc) (z q (by omega)), fun z => ?_⟩
    rw [hs] at z
    have e : q < 6 := by omega
    exfalso
    have y : (List.range 6).all (fun q => decide (¬ Int32.ofNat q = i_none)) = true := by decide +kernel
    exact of_decide_eq_true (List.all_eq_true.mp y q (List.mem_range.mpr e)) z
theorem k_dc.hc {r g : qM} {v : Int32} (h : k_dc r g) : k_dc (q_up r 70 10 v) g := ⟨h.1, h.2⟩
theorem k_dn.hc {r : qM} {v : Int32} (h : k_dn r) : k_dn (q_up r 70 10 v) := h.o rfl rfl
theorem sg_lw_1 (big : Nat → List Value → qM → qW → qR) (n0 : Nat) (G : qM) (U : qW) (v0 : Int32) (v1 : Int32) : qm_run pm_m big m_30 (n0 + 3) 2 [(0, .ref 12), (1, .int v0), (2, .int v1)] [] G U = qm_run pm_m big m_30 n0 7 [(0, .ref 12), (1, .int v0), (2, .int v1)] [.int (G 12 3), .int v1] G U := rfl
theorem sg_lw_2 (big : Nat → List Value → qM → qW → qR) (n0 : Nat) (G : qM) (U : qW) (v0 : Int32) (v1 : Int32) : qm_run pm_m big m_30 (n0 + 3) 10 [(0, .ref 12), (1, .int v0), (2, .int v1)] [] G U = qm_run pm_m big m_30 n0 15 [(0, .ref 12), (1, .int v0), (2, .int v1)] [.int v1, .ref 13] G U := rfl
theorem sg_lw_3 (big : Nat → List Value → qM → qW → qR) (n0 : Nat) (G : qM) (U : qW) (v0 : Int32) (v1 : Int32) (v2 : Int32) : qm_run pm_m big m_30 (n0 + 1) 16 [(0, .ref 12), (1, .int v0), (2, .int v1)] [.int v2] G U = qm_run pm_m big m_30 n0 17 [(0, .ref 12), (1, .int v0), (2, .int v1)] [.int v0, .int v2] G U := rfl
theorem sg_lw_4 (big : Nat → List Value → qM → qW → qR) (n0 : Nat) (G : qM) (U : qW) (v0 : Int32) (v1 : Int32) : qm_run pm_m big m_30 (n0 + 2) 22 [(0, .ref 12), (1, .int v0), (2, .int v1)] [] G U = qm_run pm_m big m_30 n0 2 [(0, .ref 12), (1, .int v0), (2, .int (v1 + (1 : Int32)))] [] G U := rfl
theorem sg_lw_5 (big : Nat → List Value → qM → qW → qR) (n0 : Nat) (G : qM) (U : qW) (v0 : Int32) : qm_run pm_m big m_30 (n0 + 2) 0 [(0, .ref 12), (1, .int v0)] [] G U = qm_run pm_m big m_30 n0 2 [(0, .ref 12), (1, .int v0), (2, .int (0 : Int32))] [] G U := rfl
theorem sg_lw_6 (big : Nat → List Value → qM → qW → qR) (n0 : Nat) (G : qM) (U : qW) (v0 : Int32) : qm_run pm_m big m_29 (n0 + 6) 0 [(0, .ref 12), (1, .int v0)] [] G U = qm_run pm_m big m_29 n0 8 [(0, .ref 12), (1, .int v0)] [.int (((G 12 2) >>> (v0 &&& 31)) &&& (1 : Int32))] G U := rfl
theorem sg_lw_7 (big : Nat → List Value → qM → qW → qR) (n0 : Nat) (G : qM) (U : qW) (v0 : Int32) : qm_run pm_m big m_28 (n0 + 2) 0 [(0, .ref 12), (1, .int v0)] [] G U = qm_run pm_m big m_28 n0 2 [(0, .ref 12), (1, .int v0)] [.int v0, .ref 12] G U := rfl
theorem sg_lw_8 (big : Nat → List Value → qM → qW → qR) (n0 : Nat) (G : qM) (U : qW) (v0 : Int32) : qm_run pm_m big m_28 (n0 + 2) 8 [(0, .ref 12), (1, .int v0)] [] G U = qm_run pm_m big m_28 n0 10 [(0, .ref 12), (1, .int v0)] [.int v0, .ref 12] G U := rfl
theorem sg_lw_9 (big : Nat → List Value → qM → qW → qR) (n0 : Nat) (G : qM) (U : qW) (v0 : Int32) (v1 : Int32) : qm_run pm_m big m_28 (n0 + 1) 13 [(0, .ref 12), (1, .int v0)] [.int v1] G U = qm_run pm_m big m_28 n0 15 [(0, .ref 12), (1, .int v0)] [.int (Int8.toInt32 (Int8.ofInt (-4))), .int v1] G U := rfl
theorem sg_lw_10 (big : Nat → List Value → qM → qW → qR) (n0 : Nat) (G : qM) (U : qW) (v0 : Int32) : qm_run pm_m big m_27 (n0 + 2) 0 [(0, .ref 11), (1, .int v0)] [] G U = qm_run pm_m big m_27 n0 4 [(0, .ref 11), (1, .int v0)] [.int (G 11 2)] G U := rfl
theorem sg_lw_11 (big : Nat → List Value → qM → qW → qR) (n0 : Nat) (G : qM) (U : qW) (v0 : Int32) : qm_run pm_m big m_27 (n0 + 3) 7 [(0, .ref 11), (1, .int v0)] [] G U = qm_run pm_m big m_27 n0 12 [(0, .ref 11), (1, .int v0)] [.int v0, .ref 12] G U := rfl
theorem sg_lw_12 (big : Nat → List Value → qM → qW → qR) (n0 : Nat) (G : qM) (U : qW) (v0 : Int32) : qm_run pm_m big m_27 (n0 + 6) 15 [(0, .ref 11), (1, .int v0)] [.int (0 : Int32)] G U = qm_run pm_m big m_27 n0 27 [(0, .ref 11), (1, .int v0)] [.int (G 9 3), .int (4 : Int32), .ref 11] G U := rfl
theorem sg_lw_13 (big : Nat → List Value → qM → qW → qR) (n0 : Nat) (G : qM) (U : qW) : qm_run pm_m big m_26 (n0 + 3) 0 [(0, .ref 11)] [] G U = qm_run pm_m big m_26 n0 4 [(0, .ref 11)] [.int (24 : Int32), .int (0 : Int32), .ref 11] G U := rfl
theorem sg_lw_14 (big : Nat → List Value → qM → qW → qR) (n0 : Nat) (G : qM) (U : qW) (v0 : Int32) : qm_run pm_m big m_26 (n0 + 3) 7 [(0, .ref 11)] [.int v0] G U = qm_run pm_m big m_26 n0 10 [(0, .ref 11), (1, .int v0)] [.int v0, .ref 11] G U := rfl
theorem sg_lw_15 (big : Nat → List Value → qM → qW → qR) (n0 : Nat) (G : qM) (U : qW) : qm_run pm_m big m_26 (n0 + 3) 7 [(0, .ref 11)] [.int (0 : Int32)] G U = qm_run pm_m big m_26 n0 10 [(0, .ref 11), (1, .int (0 : Int32))] [.int (0 : Int32), .ref 11] G U := rfl
theorem wi_12 (g : qM) (u : qW) {n : Nat} (x : Int32) (hn : g 12 3 = Int32.ofNat n) (h6 : n ≤ 6) : ∀ k i, i + k = n → q_EV m_30 2 [(0, .ref 12), (1, .int x), (2, .int (Int32.ofNat i))] [] g u (fun R => R = (some (.int (s_w1 (g 13) x k i)), g, u)) := by
  intro k
  induction k with
  | zero =>
    intro i hi
    refine q_step 3 7 [(0, .ref 12), (1, .int x), (2, .int (Int32.ofNat i))] [.int (g 12 3), .int (Int32.ofNat i)] g u (fun big n0 => sg_lw_1 big n0 g u x (Int32.ofNat i)) ?_
    refine q_ic_ge rfl (fun (hc0 : (g 12 3) ≤ (Int32.ofNat i)) => ?_) (fun hc0 => absurd (show (g 12 3) ≤ (Int32.ofNat i) from by rw [hn, q_le (by omega) (by omega)]; omega) hc0)
    refine q_ret 2 (some (.int (Int8.toInt32 (Int8.ofInt (-4)))), g, u) (fun _ _ => rfl) ?_
    rfl
  | succ k ih =>
    intro i hi
    refine q_step 3 7 [(0, .ref 12), (1, .int x), (2, .int (Int32.ofNat i))] [.int (g 12 3), .int (Int32.ofNat i)] g u (fun big n0 => sg_lw_1 big n0 g u x (Int32.ofNat i)) ?_
    refine q_ic_ge rfl (fun hc0 => absurd (show (g 12 3) ≤ (Int32.ofNat i) from hc0) (fun z => by rw [hn, q_le (by omega) (by omega)] at z; omega)) (fun (hc0 : ¬ ((g 12 3) ≤ (Int32.ofNat i))) => ?_)
    refine q_step 3 15 [(0, .ref 12), (1, .int x), (2, .int (Int32.ofNat i))] [.int (Int32.ofNat i), .ref 13] g u (fun big n0 => sg_lw_2 big n0 g u x (Int32.ofNat i)) ?_
    refine q_iald (j := i) (q_ixn (by omega) (by omega)) rfl rfl ?_
    refine q_step 1 17 [(0, .ref 12), (1, .int x), (2, .int (Int32.ofNat i))] [.int x, .int (g 13 i)] g u (fun big n0 => sg_lw_3 big n0 g u x (Int32.ofNat i) (g 13 i)) ?_
    refine q_ic_ne rfl (fun (hc1 : (g 13 i) = x) => ?_) (fun (hc1 : ¬ ((g 13 i) = x)) => ?_)
    · refine q_ret 2 (some (.int (Int32.ofNat i)), g, u) (fun _ _ => rfl) ?_
      unfold s_w1
      rw [if_pos hc1]
    · refine q_step 2 2 [(0, .ref 12), (1, .int x), (2, .int ((Int32.ofNat i) + (1 : Int32)))] [] g u (fun big n0 => sg_lw_4 big n0 g u x (Int32.ofNat i)) ?_
      rw [q_succ]
      unfold s_w1
      rw [if_neg hc1]
      exact ih (i + 1) (by omega)
theorem b_who12 (x : Int32) (g : qM) (u : qW) {n : Nat} (hn : g 12 3 = Int32.ofNat n) (h6 : n ≤ 6) : q_BS 30 [.ref 12, .int x] g u (some (.int (s_w1 (g 13) x n 0)), g, u) := by
  refine q_bx (mm := m_30) rfl (Nat.le_of_ble_eq_true rfl) rfl ?_
  refine q_step 2 2 [(0, .ref 12), (1, .int x), (2, .int (0 : Int32))] [] g u (fun big n0 => sg_lw_5 big n0 g u x) ?_
  exact wi_12 g u x hn h6 n 0 (by omega)
theorem b_hw12 (x : Int32) (g : qM) (u : qW) : q_BS 29 [.ref 12, .int x] g u (some (.int (if s_bit (g 12 2) x = 0 then 0 else 1)), g, u) := by
  refine q_bx (mm := m_29) rfl (Nat.le_of_ble_eq_true rfl) rfl ?_
  refine q_step 6 8 [(0, .ref 12), (1, .int x)] [.int (((g 12 2) >>> (x &&& 31)) &&& (1 : Int32))] g u (fun big n0 => sg_lw_6 big n0 g u x) ?_
  refine q_if_eq rfl (fun (hc0 : (((g 12 2) >>> (x &&& 31)) &&& (1 : Int32)) = 0) => ?_) (fun (hc0 : ¬ ((((g 12 2) >>> (x &&& 31)) &&& (1 : Int32)) = 0)) => ?_)
  · refine q_ret 2 (some (.int (0 : Int32)), g, u) (fun _ _ => rfl) ?_
    rw [if_pos (show s_bit (g 12 2) x = 0 from hc0)]
  · refine q_ret 3 (some (.int (1 : Int32)), g, u) (fun _ _ => rfl) ?_
    rw [if_neg (show ¬ s_bit (g 12 2) x = 0 from hc0)]
theorem b_fr12_0 (x : Int32) {n : Nat} (g : qM) (u : qW) (hn : g 12 3 = Int32.ofNat n) (h6 : n ≤ 6) (hb : s_bit (g 12 2) x = 0) (hw : s_w1 (g 13) x n 0 = i_none) : q_BS 28 [.ref 12, .int x] g u (some (.int 1), g, u) := by
  refine q_bx (mm := m_28) rfl (Nat.le_of_ble_eq_true rfl) rfl ?_
  refine q_step 2 2 [(0, .ref 12), (1, .int x)] [.int x, .ref 12] g u (fun big n0 => sg_lw_7 big n0 g u x) ?_
  refine q_call (M2 := 29) (rest := []) (b_hw12 _ _ _) (fun _ _ => rfl) ?_
  refine q_if_ne rfl (fun (hc0 : (if s_bit (g 12 2) x = 0 then (0 : Int32) else 1) = 0) => ?_) (fun hc0 => absurd (show (if s_bit (g 12 2) x = 0 then (0 : Int32) else 1) = 0 from if_pos hb) hc0)
  refine q_step 2 10 [(0, .ref 12), (1, .int x)] [.int x, .ref 12] g u (fun big n0 => sg_lw_8 big n0 g u x) ?_
  refine q_call (M2 := 30) (rest := []) (b_who12 x g u hn h6) (fun _ _ => rfl) ?_
  refine q_step 1 15 [(0, .ref 12), (1, .int x)] [.int (Int8.toInt32 (Int8.ofInt (-4))), .int (s_w1 (g 13) x n 0)] g u (fun big n0 => sg_lw_9 big n0 g u x (s_w1 (g 13) x n 0)) ?_
  refine q_ic_ne rfl (fun (hc1 : (s_w1 (g 13) x n 0) = (Int8.toInt32 (Int8.ofInt (-4)))) => ?_) (fun hc1 => absurd (show (s_w1 (g 13) x n 0) = (Int8.toInt32 (Int8.ofInt (-4))) from hw) hc1)
  refine q_ret 3 (some (.int (1 : Int32)), g, u) (fun _ _ => rfl) ?_
  rfl
theorem b_rtk_0 (x : Int32) {n : Nat} (g : qM) (u : qW) (hn : g 12 3 = Int32.ofNat n) (h6 : n ≤ 6) (hb : s_bit (g 12 2) x = 0) (hw : s_w1 (g 13) x n 0 = i_none) (h2 : g 11 2 = 0) : q_BS 27 [.ref 11, .int x] g u (none, g, u) := by
  refine q_bx (mm := m_27) rfl (Nat.le_of_ble_eq_true rfl) rfl ?_
  refine q_step 2 4 [(0, .ref 11), (1, .int x)] [.int (g 11 2)] g u (fun big n0 => sg_lw_10 big n0 g u x) ?_
  refine q_if_ne rfl (fun (hc0 : (g 11 2) = 0) => ?_) (fun hc0 => absurd (show (g 11 2) = 0 from h2) hc0)
  refine q_step 3 12 [(0, .ref 11), (1, .int x)] [.int x, .ref 12] g u (fun big n0 => sg_lw_11 big n0 g u x) ?_
  refine q_call (M2 := 28) (rest := []) (b_fr12_0 x g u hn h6 hb hw) (fun _ _ => rfl) ?_
  refine q_ret 2 (none, g, u) (fun _ _ => rfl) ?_
  rfl
theorem b_fr12_1 (x : Int32) {n : Nat} (g : qM) (u : qW) (hn : g 12 3 = Int32.ofNat n) (h6 : n ≤ 6) (hb : ¬ s_bit (g 12 2) x = 0) : q_BS 28 [.ref 12, .int x] g u (some (.int 0), g, u) := by
  refine q_bx (mm := m_28) rfl (Nat.le_of_ble_eq_true rfl) rfl ?_
  refine q_step 2 2 [(0, .ref 12), (1, .int x)] [.int x, .ref 12] g u (fun big n0 => sg_lw_7 big n0 g u x) ?_
  refine q_call (M2 := 29) (rest := []) (b_hw12 _ _ _) (fun _ _ => rfl) ?_
  refine q_if_ne rfl (fun hc0 => absurd (show (if s_bit (g 12 2) x = 0 then (0 : Int32) else 1) = 0 from hc0) (by rw [if_neg hb]; decide)) (fun (hc0 : ¬ ((if s_bit (g 12 2) x = 0 then (0 : Int32) else 1) = 0)) => ?_)
  refine q_ret 2 (some (.int (0 : Int32)), g, u) (fun _ _ => rfl) ?_
  rfl
theorem b_rtk_1 (x : Int32) {n : Nat} (g : qM) (u : qW) (hn : g 12 3 = Int32.ofNat n) (h6 : n ≤ 6) (hb : ¬ s_bit (g 12 2) x = 0) (h2 : g 11 2 = 0) : q_BS 27 [.ref 11, .int x] g u (none, q_up (q_up g 11 2 4) 11 3 (g 9 3), u) := by
  refine q_bx (mm := m_27) rfl (Nat.le_of_ble_eq_true rfl) rfl ?_
  refine q_step 2 4 [(0, .ref 11), (1, .int x)] [.int (g 11 2)] g u (fun big n0 => sg_lw_10 big n0 g u x) ?_
  refine q_if_ne rfl (fun (hc0 : (g 11 2) = 0) => ?_) (fun hc0 => absurd (show (g 11 2) = 0 from h2) hc0)
  refine q_step 3 12 [(0, .ref 11), (1, .int x)] [.int x, .ref 12] g u (fun big n0 => sg_lw_11 big n0 g u x) ?_
  refine q_call (M2 := 28) (rest := []) (b_fr12_1 x g u hn h6 hb) (fun _ _ => rfl) ?_
  refine q_step 6 27 [(0, .ref 11), (1, .int x)] [.int (g 9 3), .int (4 : Int32), .ref 11] g u (fun big n0 => sg_lw_12 big n0 g u x) ?_
  refine q_call (M2 := 20) (rest := []) (b_refuse _ _ _ _) (fun _ _ => rfl) ?_
  refine q_ret 1 (none, (q_up (q_up g 11 2 (4 : Int32)) 11 3 (g 9 3)), u) (fun _ _ => rfl) ?_
  rfl
theorem b_fr12_2 (x : Int32) {n : Nat} (g : qM) (u : qW) (hn : g 12 3 = Int32.ofNat n) (h6 : n ≤ 6) (hb : s_bit (g 12 2) x = 0) (hw : ¬ s_w1 (g 13) x n 0 = i_none) : q_BS 28 [.ref 12, .int x] g u (some (.int 0), g, u) := by
  refine q_bx (mm := m_28) rfl (Nat.le_of_ble_eq_true rfl) rfl ?_
  refine q_step 2 2 [(0, .ref 12), (1, .int x)] [.int x, .ref 12] g u (fun big n0 => sg_lw_7 big n0 g u x) ?_
  refine q_call (M2 := 29) (rest := []) (b_hw12 _ _ _) (fun _ _ => rfl) ?_
  refine q_if_ne rfl (fun (hc0 : (if s_bit (g 12 2) x = 0 then (0 : Int32) else 1) = 0) => ?_) (fun hc0 => absurd (show (if s_bit (g 12 2) x = 0 then (0 : Int32) else 1) = 0 from if_pos hb) hc0)
  refine q_step 2 10 [(0, .ref 12), (1, .int x)] [.int x, .ref 12] g u (fun big n0 => sg_lw_8 big n0 g u x) ?_
  refine q_call (M2 := 30) (rest := []) (b_who12 x g u hn h6) (fun _ _ => rfl) ?_
  refine q_step 1 15 [(0, .ref 12), (1, .int x)] [.int (Int8.toInt32 (Int8.ofInt (-4))), .int (s_w1 (g 13) x n 0)] g u (fun big n0 => sg_lw_9 big n0 g u x (s_w1 (g 13) x n 0)) ?_
  refine q_ic_ne rfl (fun hc1 => absurd (show (s_w1 (g 13) x n 0) = (Int8.toInt32 (Int8.ofInt (-4))) from hc1) (hw)) (fun (hc1 : ¬ ((s_w1 (g 13) x n 0) = (Int8.toInt32 (Int8.ofInt (-4))))) => ?_)
  refine q_ret 2 (some (.int (0 : Int32)), g, u) (fun _ _ => rfl) ?_
  rfl
theorem b_rtk_2 (x : Int32) {n : Nat} (g : qM) (u : qW) (hn : g 12 3 = Int32.ofNat n) (h6 : n ≤ 6) (hb : s_bit (g 12 2) x = 0) (hw : ¬ s_w1 (g 13) x n 0 = i_none) (h2 : g 11 2 = 0) : q_BS 27 [.ref 11, .int x] g u (none, q_up (q_up g 11 2 4) 11 3 (g 9 3), u) := by
  refine q_bx (mm := m_27) rfl (Nat.le_of_ble_eq_true rfl) rfl ?_
  refine q_step 2 4 [(0, .ref 11), (1, .int x)] [.int (g 11 2)] g u (fun big n0 => sg_lw_10 big n0 g u x) ?_
  refine q_if_ne rfl (fun (hc0 : (g 11 2) = 0) => ?_) (fun hc0 => absurd (show (g 11 2) = 0 from h2) hc0)
  refine q_step 3 12 [(0, .ref 11), (1, .int x)] [.int x, .ref 12] g u (fun big n0 => sg_lw_11 big n0 g u x) ?_
  refine q_call (M2 := 28) (rest := []) (b_fr12_2 x g u hn h6 hb hw) (fun _ _ => rfl) ?_
  refine q_step 6 27 [(0, .ref 11), (1, .int x)] [.int (g 9 3), .int (4 : Int32), .ref 11] g u (fun big n0 => sg_lw_12 big n0 g u x) ?_
  refine q_call (M2 := 20) (rest := []) (b_refuse _ _ _ _) (fun _ _ => rfl) ?_
  refine q_ret 1 (none, (q_up (q_up g 11 2 (4 : Int32)) 11 3 (g 9 3)), u) (fun _ _ => rfl) ?_
  rfl
theorem b_rtk_f (x : Int32) (g : qM) (u : qW) (h2 : ¬ g 11 2 = 0) : q_BS 27 [.ref 11, .int x] g u (none, g, u) := by
  refine q_bx (mm := m_27) rfl (Nat.le_of_ble_eq_true rfl) rfl ?_
  refine q_step 2 4 [(0, .ref 11), (1, .int x)] [.int (g 11 2)] g u (fun big n0 => sg_lw_10 big n0 g u x) ?_
  refine q_if_ne rfl (fun hc0 => absurd (show (g 11 2) = 0 from hc0) (h2)) (fun (hc0 : ¬ ((g 11 2) = 0)) => ?_)
  refine q_ret 1 (none, g, u) (fun _ _ => rfl) ?_
  rfl
theorem c_rtk_0 {r g : qM} {x : Int32} (u : qW) (hd : k_dc r g) (hn : k_dn r) (h2 : g 11 2 = 0) (hb : s_bit (r 73 20) x = 0) (hw : t_hit (r 73) x (t_n r) = 0) : q_BS 27 [.ref 11, .int x] g u (none, g, u) := b_rtk_0 x g u (hd.1.2.2.2.1.trans hn.1) (by have := hn.2.1; omega) (by rw [hd.1.2.2.1]; exact hb) ((t_hit_w1 (by have := hn.2.1; omega) (fun p hp => (hd.2.2.1 p hp).1)).mp hw) h2
theorem c_rtk_1 {r g : qM} {x : Int32} (u : qW) (hd : k_dc r g) (hn : k_dn r) (h2 : g 11 2 = 0) (hb : ¬ s_bit (r 73 20) x = 0) : q_BS 27 [.ref 11, .int x] g u (none, q_up (q_up g 11 2 4) 11 3 (g 9 3), u) := b_rtk_1 x g u (hd.1.2.2.2.1.trans hn.1) (by have := hn.2.1; omega) (by rw [hd.1.2.2.1]; exact hb) h2
theorem c_rtk_2 {r g : qM} {x : Int32} (u : qW) (hd : k_dc r g) (hn : k_dn r) (h2 : g 11 2 = 0) (hb : s_bit (r 73 20) x = 0) (hw : ¬ t_hit (r 73) x (t_n r) = 0) : q_BS 27 [.ref 11, .int x] g u (none, q_up (q_up g 11 2 4) 11 3 (g 9 3), u) := b_rtk_2 x g u (hd.1.2.2.2.1.trans hn.1) (by have := hn.2.1; omega) (by rw [hd.1.2.2.1]; exact hb) (fun z => hw ((t_hit_w1 (by have := hn.2.1; omega) (fun p hp => (hd.2.2.1 p hp).1)).mpr z)) h2
theorem c_lwall {s f p : Nat} {r : qM} (g : qM) (u : qW) (hc : k_cc s f p r g) : ∃ R, q_BS 26 [.ref 11] g u R ∧ ∃ g', R = (none, g', u) ∧ k_pc s (o_wall (g 10) s p r) g g' := by
  refine q_bs (mm := m_26) rfl (Nat.le_of_ble_eq_true rfl) rfl ?_
  have ht := k_tk.of hc
  obtain ⟨⟨hs, h160, hp5, hp, h2, hf⟩, hd, hn⟩ := hc
  refine q_step 3 4 [(0, .ref 11)] [.int (24 : Int32), .int (0 : Int32), .ref 11] g u (fun big n0 => sg_lw_13 big n0 g u) ?_
  by_cases hc0 : t_er (g 10) s p (0 : Int32) (24 : Int32) = 0
  · obtain ⟨g1, q1, f1, t1, i1⟩ := c_numk (g := g) u ht hc0
    refine q_call (M2 := 24) (rest := []) (q1) (fun _ _ => rfl) ?_
    refine q_step 3 10 [(0, .ref 11), (1, .int (t_va (g 10) s p))] [.int (t_va (g 10) s p), .ref 11] g1 u (fun big n0 => sg_lw_14 big n0 g1 u (t_va (g 10) s p)) ?_
    by_cases hc1 : s_bit (r 73 20) (t_va (g 10) s p) = 0
    · by_cases hc2 : t_hit (r 73) (t_va (g 10) s p) (t_n r) = 0
      · refine q_call (M2 := 27) (rest := []) (c_rtk_0 u (hd.f9 f1) hn t1.2.2.2.2.2 hc1 hc2) (fun _ _ => rfl) ?_
        refine q_ret 10 (none, (q_up g1 12 2 ((g1 12 2) ||| ((1 : Int32) <<< ((t_va (g 10) s p) &&& 31)))), u) (fun _ _ => rfl) ?_
        unfold o_wall o_free
        rw [o_num, if_pos hc0]
        rw [if_pos hc1]
        rw [if_pos hc2]
        refine ⟨_, rfl, k_pc_ok (((k_ft_rfl g).trans f1.ft).up (by omega)) t1.2.2.2.2.2 t1.2.2.2.1 t1.2.2.2.2.1 ?_⟩
        have dd := (hd.f9 f1)
        rw [show (g1 12 2) = r 73 20 from dd.1.2.2.1]
        exact dd.hc.walls hn.hc
      · refine q_call (M2 := 27) (rest := []) (c_rtk_2 u (hd.f9 f1) hn t1.2.2.2.2.2 hc1 hc2) (fun _ _ => rfl) ?_
        refine q_ret 10 (none, (q_up (q_up (q_up g1 11 2 (4 : Int32)) 11 3 (g1 9 3)) 12 2 ((g1 12 2) ||| ((1 : Int32) <<< ((t_va (g 10) s p) &&& 31)))), u) (fun _ _ => rfl) ?_
        unfold o_wall o_free
        rw [o_num, if_pos hc0]
        rw [if_pos hc1]
        rw [if_neg hc2]
        exact ⟨_, rfl, k_pc_bad (((((k_ft_rfl g).trans f1.ft).up (by omega)).up (by omega)).up (by omega)) (by decide) rfl i1⟩
    · refine q_call (M2 := 27) (rest := []) (c_rtk_1 u (hd.f9 f1) hn t1.2.2.2.2.2 hc1) (fun _ _ => rfl) ?_
      refine q_ret 10 (none, (q_up (q_up (q_up g1 11 2 (4 : Int32)) 11 3 (g1 9 3)) 12 2 ((g1 12 2) ||| ((1 : Int32) <<< ((t_va (g 10) s p) &&& 31)))), u) (fun _ _ => rfl) ?_
      unfold o_wall o_free
      rw [o_num, if_pos hc0]
      rw [if_neg hc1]
      exact ⟨_, rfl, k_pc_bad (((((k_ft_rfl g).trans f1.ft).up (by omega)).up (by omega)).up (by omega)) (by decide) rfl i1⟩
  · obtain ⟨g1, q1, f1, x1, y1⟩ := c_nume (g := g) u ht hc0
    refine q_call (M2 := 24) (rest := []) (q1) (fun _ _ => rfl) ?_
    refine q_step 3 10 [(0, .ref 11), (1, .int (0 : Int32))] [.int (0 : Int32), .ref 11] g1 u (fun big n0 => sg_lw_15 big n0 g1 u) ?_
    refine q_call (M2 := 27) (rest := []) (b_rtk_f _ _ _ (show ¬ (g1 11 2) = 0 from (by rw [x1]; exact hc0))) (fun _ _ => rfl) ?_
    refine q_ret 10 (none, (q_up g1 12 2 ((g1 12 2) ||| ((1 : Int32) <<< ((0 : Int32) &&& 31)))), u) (fun _ _ => rfl) ?_
    unfold o_wall o_free
    rw [o_num, if_neg hc0]
    exact ⟨_, rfl, k_pc_bad (((k_ft_rfl g).trans f1.ft).up (by omega)) hc0 x1 y1⟩
