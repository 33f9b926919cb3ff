/-! MORE NUMBERS that are not as told. -/
theorem sg_bb_1 (big : Nat → List Value → qM → qW → qR) (n0 : Nat) (G : qM) (U : qW) (v0 : Int32) (v1 : Int32) : qm_run pm_m big m_220 (n0 + 4) 0 [(0, .int v0), (1, .int v1)] [] G U = qm_run pm_m big m_220 n0 6 [(0, .int v0), (1, .int v1)] [.long (3 : Int64), .long (0 : Int64), .long (Int32.toInt64 v0)] G U := rfl
theorem sg_bb_2 (big : Nat → List Value → qM → qW → qR) (n0 : Nat) (G : qM) (U : qW) (v0 : Int32) (v1 : Int32) : qm_run pm_m big m_220 (n0 + 4) 12 [(0, .int v0), (1, .int v1)] [] G U = qm_run pm_m big m_220 n0 18 [(0, .int v0), (1, .int v1)] [.long (2 : Int64), .long (0 : Int64), .long (Int32.toInt64 v1)] G U := rfl
theorem sg_bb_3 (big : Nat → List Value → qM → qW → qR) (n0 : Nat) (G : qM) (U : qW) (v0 : Int32) (v1 : Int32) : qm_run pm_m big m_52 (n0 + 3) 0 [(0, .ref 8), (1, .int v0), (2, .int v1)] [] G U = qm_run pm_m big m_52 n0 5 [(0, .ref 8), (1, .int v0), (2, .int v1)] [.int v0, .ref 20] G U := rfl
theorem sg_bb_4 (big : Nat → List Value → qM → qW → qR) (n0 : Nat) (G : qM) (U : qW) (v0 : Int32) (v1 : Int32) : qm_run pm_m big m_52 (n0 + 2) 11 [(0, .ref 8), (1, .int v0), (2, .int v1)] [] G U = qm_run pm_m big m_52 n0 14 [(0, .ref 8), (1, .int v0), (2, .int v1)] [.int (Int8.toInt32 (Int8.ofInt (-4))), .int v1] G U := rfl
theorem sg_bb_5 (big : Nat → List Value → qM → qW → qR) (n0 : Nat) (G : qM) (U : qW) (v0 : Int32) (v1 : Int32) : qm_run pm_m big m_52 (n0 + 3) 17 [(0, .ref 8), (1, .int v0), (2, .int v1)] [] G U = qm_run pm_m big m_52 n0 22 [(0, .ref 8), (1, .int v0), (2, .int v1)] [.int v1, .ref 20] G U := rfl
theorem sg_bb_6 (big : Nat → List Value → qM → qW → qR) (n0 : Nat) (G : qM) (U : qW) (v0 : Int32) (v1 : Int32) : qm_run pm_m big m_179 (n0 + 2) 0 [(0, .ref 70), (1, .int v0), (2, .int v1)] [] G U = qm_run pm_m big m_179 n0 2 [(0, .ref 70), (1, .int v0), (2, .int v1)] [.int v0, .ref 70] G U := rfl
theorem sg_bb_7 (big : Nat → List Value → qM → qW → qR) (n0 : Nat) (G : qM) (U : qW) (v0 : Int32) (v1 : Int32) : qm_run pm_m big m_179 (n0 + 2) 8 [(0, .ref 70), (1, .int v0), (2, .int v1)] [] G U = qm_run pm_m big m_179 n0 11 [(0, .ref 70), (1, .int v0), (2, .int v1)] [.int (Int8.toInt32 (Int8.ofInt (-4))), .int v1] G U := rfl
theorem sg_bb_8 (big : Nat → List Value → qM → qW → qR) (n0 : Nat) (G : qM) (U : qW) (v0 : Int32) (v1 : Int32) : qm_run pm_m big m_179 (n0 + 2) 14 [(0, .ref 70), (1, .int v0), (2, .int v1)] [] G U = qm_run pm_m big m_179 n0 16 [(0, .ref 70), (1, .int v0), (2, .int v1)] [.int v1, .ref 70] G U := rfl
theorem sg_bb_9 (big : Nat → List Value → qM → qW → qR) (n0 : Nat) (G : qM) (U : qW) (v0 : Int32) (v1 : Int32) (v2 : Int32) : qm_run pm_m big m_130 (n0 + 1) 0 [(0, .ref 8), (1, .int v0), (2, .int v1), (3, .int v2)] [] G U = qm_run pm_m big m_130 n0 1 [(0, .ref 8), (1, .int v0), (2, .int v1), (3, .int v2)] [.int v0] G U := rfl
theorem sg_bb_10 (big : Nat → List Value → qM → qW → qR) (n0 : Nat) (G : qM) (U : qW) (v0 : Int32) (v1 : Int32) (v2 : Int32) : qm_run pm_m big m_130 (n0 + 1) 7 [(0, .ref 8), (1, .int v0), (2, .int v1), (3, .int v2)] [] G U = qm_run pm_m big m_130 n0 8 [(0, .ref 8), (1, .int v0), (2, .int v1), (3, .int v2)] [.int v1] G U := rfl
theorem sg_bb_11 (big : Nat → List Value → qM → qW → qR) (n0 : Nat) (G : qM) (U : qW) (v0 : Int32) (v1 : Int32) (v2 : Int32) : qm_run pm_m big m_130 (n0 + 2) 14 [(0, .ref 8), (1, .int v0), (2, .int v1), (3, .int v2)] [] G U = qm_run pm_m big m_130 n0 17 [(0, .ref 8), (1, .int v0), (2, .int v1), (3, .int v2)] [.int (40 : Int32), .int v2] G U := rfl
theorem sg_bb_12 (big : Nat → List Value → qM → qW → qR) (n0 : Nat) (G : qM) (U : qW) (v0 : Int32) (v1 : Int32) (v2 : Int32) : qm_run pm_m big m_219 (n0 + 2) 0 [(0, .ref 70), (1, .int v0), (2, .int v1), (3, .int v2)] [] G U = qm_run pm_m big m_219 n0 2 [(0, .ref 70), (1, .int v0), (2, .int v1), (3, .int v2)] [.int v1, .int v0] G U := rfl
theorem sg_bb_13 (big : Nat → List Value → qM → qW → qR) (n0 : Nat) (G : qM) (U : qW) (v0 : Int32) (v1 : Int32) (v2 : Int32) : qm_run pm_m big m_219 (n0 + 2) 8 [(0, .ref 70), (1, .int v0), (2, .int v1), (3, .int v2)] [] G U = qm_run pm_m big m_219 n0 11 [(0, .ref 70), (1, .int v0), (2, .int v1), (3, .int v2)] [.int (40 : Int32), .int v2] G U := rfl
theorem sg_bb_14 (big : Nat → List Value → qM → qW → qR) (n0 : Nat) (G : qM) (U : qW) (v0 : Int32) (v1 : Int32) (v2 : Int32) : qm_run pm_m big m_134 (n0 + 1) 0 [(0, .ref 8), (1, .int v0), (2, .int v1), (3, .int v2)] [] G U = qm_run pm_m big m_134 n0 1 [(0, .ref 8), (1, .int v0), (2, .int v1), (3, .int v2)] [.int v0] G U := rfl
theorem sg_bb_15 (big : Nat → List Value → qM → qW → qR) (n0 : Nat) (G : qM) (U : qW) (v0 : Int32) (v1 : Int32) (v2 : Int32) : qm_run pm_m big m_221 (n0 + 2) 0 [(0, .ref 70), (1, .int v0), (2, .int v1), (3, .int v2)] [] G U = qm_run pm_m big m_221 n0 2 [(0, .ref 70), (1, .int v0), (2, .int v1), (3, .int v2)] [.int (0 : Int32), .int v0] G U := rfl
theorem sg_bb_16 (big : Nat → List Value → qM → qW → qR) (n0 : Nat) (G : qM) (U : qW) (v0 : Int32) (v1 : Int32) (v2 : Int32) (v3 : Int32) : qm_run pm_m big m_138 (n0 + 1) 0 [(0, .ref 8), (1, .int v0), (2, .int v1), (3, .int v2), (4, .int v3)] [] G U = qm_run pm_m big m_138 n0 1 [(0, .ref 8), (1, .int v0), (2, .int v1), (3, .int v2), (4, .int v3)] [.int v0] G U := rfl
theorem sg_bb_17 (big : Nat → List Value → qM → qW → qR) (n0 : Nat) (G : qM) (U : qW) (v0 : Int32) (v1 : Int32) (v2 : Int32) (v3 : Int32) : qm_run pm_m big m_138 (n0 + 1) 7 [(0, .ref 8), (1, .int v0), (2, .int v1), (3, .int v2), (4, .int v3)] [] G U = qm_run pm_m big m_138 n0 8 [(0, .ref 8), (1, .int v0), (2, .int v1), (3, .int v2), (4, .int v3)] [.int v1] G U := rfl
theorem sg_bb_18 (big : Nat → List Value → qM → qW → qR) (n0 : Nat) (G : qM) (U : qW) (v0 : Int32) (v1 : Int32) (v2 : Int32) (v3 : Int32) : qm_run pm_m big m_138 (n0 + 1) 14 [(0, .ref 8), (1, .int v0), (2, .int v1), (3, .int v2), (4, .int v3)] [] G U = qm_run pm_m big m_138 n0 16 [(0, .ref 8), (1, .int v0), (2, .int v1), (3, .int v2), (4, .int v3)] [.int v3] G U := rfl
theorem sg_bb_19 (big : Nat → List Value → qM → qW → qR) (n0 : Nat) (G : qM) (U : qW) (v0 : Int32) (v1 : Int32) (v2 : Int32) (v3 : Int32) : qm_run pm_m big m_138 (n0 + 2) 19 [(0, .ref 8), (1, .int v0), (2, .int v1), (3, .int v2), (4, .int v3)] [] G U = qm_run pm_m big m_138 n0 23 [(0, .ref 8), (1, .int v0), (2, .int v1), (3, .int v2), (4, .int v3)] [.int (20 : Int32), .int v3] G U := rfl
theorem sg_bb_20 (big : Nat → List Value → qM → qW → qR) (n0 : Nat) (G : qM) (U : qW) (v0 : Int32) (v1 : Int32) (v2 : Int32) (v3 : Int32) : qm_run pm_m big m_222 (n0 + 2) 0 [(0, .ref 70), (1, .int v0), (2, .int v1), (3, .int v2), (4, .int v3)] [] G U = qm_run pm_m big m_222 n0 2 [(0, .ref 70), (1, .int v0), (2, .int v1), (3, .int v2), (4, .int v3)] [.int v1, .int v0] G U := rfl
theorem sg_bb_21 (big : Nat → List Value → qM → qW → qR) (n0 : Nat) (G : qM) (U : qW) (v0 : Int32) (v1 : Int32) (v2 : Int32) (v3 : Int32) : qm_run pm_m big m_222 (n0 + 4) 8 [(0, .ref 70), (1, .int v0), (2, .int v1), (3, .int v2), (4, .int v3)] [] G U = qm_run pm_m big m_222 n0 15 [(0, .ref 70), (1, .int v0), (2, .int v1), (3, .int v2), (4, .int v3)] [.long (20 : Int64), .long (0 : Int64), .long (Int32.toInt64 v3)] G U := rfl
theorem sg_bb_22 (big : Nat → List Value → qM → qW → qR) (n0 : Nat) (G : qM) (U : qW) (v0 : Int32) : qm_run pm_m big m_44 (n0 + 1) 0 [(0, .ref 8), (1, .int v0)] [] G U = qm_run pm_m big m_44 n0 1 [(0, .ref 8), (1, .int v0)] [.int v0] G U := rfl
theorem sg_bb_23 (big : Nat → List Value → qM → qW → qR) (n0 : Nat) (G : qM) (U : qW) (v0 : Int32) : qm_run pm_m big m_44 (n0 + 6) 88 [(0, .ref 8), (1, .int v0)] [] G U = qm_run pm_m big m_44 n0 96 [(0, .ref 8), (1, .int v0), (2, .int (v0 - (10 : Int32)))] [.int (10 : Int32), .int v0] G U := rfl
theorem sg_bb_24 (big : Nat → List Value → qM → qW → qR) (n0 : Nat) (G : qM) (U : qW) (v0 : Int32) (v1 : Int32) : qm_run pm_m big m_44 (n0 + 2) 99 [(0, .ref 8), (1, .int v0), (2, .int v1)] [] G U = qm_run pm_m big m_44 n0 101 [(0, .ref 8), (1, .int v0), (2, .int v1)] [.int (4 : Int32), .int v1] G U := rfl
theorem sg_bb_25 (big : Nat → List Value → qM → qW → qR) (n0 : Nat) (G : qM) (U : qW) (v0 : Int32) : qm_run pm_m big m_167 (n0 + 1) 0 [(0, .ref 70), (1, .int v0)] [] G U = qm_run pm_m big m_167 n0 1 [(0, .ref 70), (1, .int v0)] [.int v0] G U := rfl
theorem sg_bb_26 (big : Nat → List Value → qM → qW → qR) (n0 : Nat) (G : qM) (U : qW) (v0 : Int32) : qm_run pm_m big m_167 (n0 + 6) 79 [(0, .ref 70), (1, .int v0)] [] G U = qm_run pm_m big m_167 n0 88 [(0, .ref 70), (1, .int v0)] [.long (4 : Int64), .long (1 : Int64), .long (Int32.toInt64 (v0 - (10 : Int32)))] G U := rfl
theorem sg_bb_27 (big : Nat → List Value → qM → qW → qR) (n0 : Nat) (G : qM) (U : qW) (v0 : Int32) (v1 : Int32) : qm_run pm_m big m_45 (n0 + 3) 0 [(0, .ref 8), (1, .int v0), (2, .int v1)] [] G U = qm_run pm_m big m_45 n0 5 [(0, .ref 8), (1, .int v0), (2, .int v1)] [.int v0, .ref 20] G U := rfl
theorem sg_bb_28 (big : Nat → List Value → qM → qW → qR) (n0 : Nat) (G : qM) (U : qW) (v0 : Int32) (v1 : Int32) : qm_run pm_m big m_45 (n0 + 2) 8 [(0, .ref 8), (1, .int v0), (2, .int v1)] [.int (1 : Int32)] G U = qm_run pm_m big m_45 n0 14 [(0, .ref 8), (1, .int v0), (2, .int v1)] [.int v1] G U := rfl
theorem sg_bb_29 (big : Nat → List Value → qM → qW → qR) (n0 : Nat) (G : qM) (U : qW) (v0 : Int32) (v1 : Int32) : qm_run pm_m big m_168 (n0 + 2) 0 [(0, .ref 70), (1, .int v0), (2, .int v1)] [] G U = qm_run pm_m big m_168 n0 2 [(0, .ref 70), (1, .int v0), (2, .int v1)] [.int v0, .ref 70] G U := rfl
theorem sg_bb_30 (big : Nat → List Value → qM → qW → qR) (n0 : Nat) (G : qM) (U : qW) (v0 : Int32) (v1 : Int32) : qm_run pm_m big m_168 (n0 + 4) 8 [(0, .ref 70), (1, .int v0), (2, .int v1)] [] G U = qm_run pm_m big m_168 n0 14 [(0, .ref 70), (1, .int v0), (2, .int v1)] [.long (3 : Int64), .long (0 : Int64), .long (Int32.toInt64 v1)] G U := rfl
def d_risSh (x : Int32) (y : Int32) (g : qM) : Int32 := (if (s_in (Int32.toInt64 x) (0 : Int64) (3 : Int64)) = 0 then (0 : Int32) else (if (s_in (Int32.toInt64 y) (0 : Int64) (2 : Int64)) = 0 then (0 : Int32) else (1 : Int32)))
theorem b_risSh (x : Int32) (y : Int32) (g : qM) (u : qW) : q_BS 220 [.int x, .int y] g u (some (.int (d_risSh x y g)), g, u) := by
  refine q_bx (mm := m_220) rfl (Nat.le_of_ble_eq_true rfl) rfl ?_
  refine q_step 4 6 [(0, .int x), (1, .int y)] [.long (3 : Int64), .long (0 : Int64), .long (Int32.toInt64 x)] g u (fun big n0 => sg_bb_1 big n0 g u x y) ?_
  refine q_call (M2 := 149) (rest := []) (b_in _ _ _ _ _) (fun _ _ => rfl) ?_
  refine q_if_eq rfl (fun (hc0 : (s_in (Int32.toInt64 x) (0 : Int64) (3 : Int64)) = 0) => ?_) (fun (hc0 : ¬ ((s_in (Int32.toInt64 x) (0 : Int64) (3 : Int64)) = 0)) => ?_)
  · refine q_ret 2 (some (.int (0 : Int32)), g, u) (fun _ _ => rfl) ?_
    unfold d_risSh
    rw [if_pos hc0]
  · refine q_step 4 18 [(0, .int x), (1, .int y)] [.long (2 : Int64), .long (0 : Int64), .long (Int32.toInt64 y)] g u (fun big n0 => sg_bb_2 big n0 g u x y) ?_
    refine q_call (M2 := 149) (rest := []) (b_in _ _ _ _ _) (fun _ _ => rfl) ?_
    refine q_if_eq rfl (fun (hc1 : (s_in (Int32.toInt64 y) (0 : Int64) (2 : Int64)) = 0) => ?_) (fun (hc1 : ¬ ((s_in (Int32.toInt64 y) (0 : Int64) (2 : Int64)) = 0)) => ?_)
    · refine q_ret 2 (some (.int (0 : Int32)), g, u) (fun _ _ => rfl) ?_
      unfold d_risSh
      rw [if_neg hc0, if_pos hc1]
    · refine q_ret 3 (some (.int (1 : Int32)), g, u) (fun _ _ => rfl) ?_
      unfold d_risSh
      rw [if_neg hc0, if_neg hc1]
theorem risSh_1 {x y : Int32} {g : qM} (h : ¬ d_risSh x y g = 0) : v_rg 0 3 x ∧ v_rg 0 2 y := by
  unfold d_risSh at h
  by_cases e : s_in (Int32.toInt64 x) (0 : Int64) (3 : Int64) = 0
  · rw [if_pos e] at h
    exact absurd rfl h
  · rw [if_neg e] at h
    by_cases e1 : s_in (Int32.toInt64 y) (0 : Int64) (2 : Int64) = 0
    · rw [if_pos e1] at h
      exact absurd rfl h
    · exact ⟨vr_r (lo := 0) (hi := 3) (by omega) (by omega) e, vr_r (lo := 0) (hi := 2) (by omega) (by omega) e1⟩
theorem cb_goal {n W H : Nat} (g : qM) (u : qW) (hn : g 20 3 = Int32.ofNat n) (hW : g 20 0 = Int32.ofNat W) (hH : g 20 1 = Int32.ofNat H) (h6 : n ≤ 6) (h25 : W * H ≤ 25) (x : Int32) (y : Int32) (hb : ¬ (v_one n x ∧ (y = i_none ∨ v_one (W * H) y))) : q_BS 52 [.ref 8, .int x, .int y] g u (some (.int (Int32.ofInt (-1))), g, u) := by
  refine q_bx (mm := m_52) rfl (Nat.le_of_ble_eq_true rfl) rfl ?_
  refine q_step 3 5 [(0, .ref 8), (1, .int x), (2, .int y)] [.int x, .ref 20] g u (fun big n0 => sg_bb_3 big n0 g u x y) ?_
  refine q_call (M2 := 40) (rest := []) (b_hasOne _ _ _) (fun _ _ => rfl) ?_
  refine q_if_eq rfl (fun (hc0 : (d_hasOne x g) = 0) => ?_) (fun (hc0 : ¬ ((d_hasOne x g) = 0)) => ?_)
  · refine q_ret 2 (some (.int (Int32.ofInt (-1))), g, u) (fun _ _ => rfl) ?_
    rfl
  · refine q_step 2 14 [(0, .ref 8), (1, .int x), (2, .int y)] [.int (Int8.toInt32 (Int8.ofInt (-4))), .int y] g u (fun big n0 => sg_bb_4 big n0 g u x y) ?_
    refine q_ic_eq rfl (fun (hc1 : y = (Int8.toInt32 (Int8.ofInt (-4)))) => ?_) (fun (hc1 : ¬ (y = (Int8.toInt32 (Int8.ofInt (-4))))) => ?_)
    · exact absurd (show v_one n x ∧ (y = i_none ∨ v_one (W * H) y) from ⟨vo_c hn h6 hc0, Or.inl hc1⟩) hb
    · refine q_step 3 22 [(0, .ref 8), (1, .int x), (2, .int y)] [.int y, .ref 20] g u (fun big n0 => sg_bb_5 big n0 g u x y) ?_
      refine q_call (M2 := 38) (rest := []) (b_hasCell _ _ _) (fun _ _ => rfl) ?_
      refine q_if_ne rfl (fun (hc2 : (d_hasCell y g) = 0) => ?_) (fun (hc2 : ¬ ((d_hasCell y g) = 0)) => ?_)
      · refine q_ret 2 (some (.int (Int32.ofInt (-1))), g, u) (fun _ _ => rfl) ?_
        rfl
      · exact absurd (show v_one n x ∧ (y = i_none ∨ v_one (W * H) y) from ⟨vo_c hn h6 hc0, Or.inr (vc_c hW hH h25 hc2)⟩) hb
theorem rb_goal {n W H : Nat} (g : qM) (u : qW) (hn : g 70 4 = Int32.ofNat n) (hW : g 70 2 = Int32.ofNat W) (hH : g 70 3 = Int32.ofNat H) (h6 : n ≤ 6) (h25 : W * H ≤ 25) (x : Int32) (y : Int32) (hb : ¬ (v_one n x ∧ (y = i_none ∨ v_one (W * H) y))) : q_BS 179 [.ref 70, .int x, .int y] g u (some (.int (Int32.ofInt (-1))), g, u) := by
  refine q_bx (mm := m_179) rfl (Nat.le_of_ble_eq_true rfl) rfl ?_
  refine q_step 2 2 [(0, .ref 70), (1, .int x), (2, .int y)] [.int x, .ref 70] g u (fun big n0 => sg_bb_6 big n0 g u x y) ?_
  refine q_call (M2 := 169) (rest := []) (b_risOne _ _ _) (fun _ _ => rfl) ?_
  refine q_if_eq rfl (fun (hc0 : (d_risOne x g) = 0) => ?_) (fun (hc0 : ¬ ((d_risOne x g) = 0)) => ?_)
  · refine q_ret 2 (some (.int (Int32.ofInt (-1))), g, u) (fun _ _ => rfl) ?_
    rfl
  · refine q_step 2 11 [(0, .ref 70), (1, .int x), (2, .int y)] [.int (Int8.toInt32 (Int8.ofInt (-4))), .int y] g u (fun big n0 => sg_bb_7 big n0 g u x y) ?_
    refine q_ic_eq rfl (fun (hc1 : y = (Int8.toInt32 (Int8.ofInt (-4)))) => ?_) (fun (hc1 : ¬ (y = (Int8.toInt32 (Int8.ofInt (-4))))) => ?_)
    · exact absurd (show v_one n x ∧ (y = i_none ∨ v_one (W * H) y) from ⟨vo_r hn h6 hc0, Or.inl hc1⟩) hb
    · refine q_step 2 16 [(0, .ref 70), (1, .int x), (2, .int y)] [.int y, .ref 70] g u (fun big n0 => sg_bb_8 big n0 g u x y) ?_
      refine q_call (M2 := 171) (rest := []) (b_risCell _ _ _) (fun _ _ => rfl) ?_
      refine q_if_eq rfl (fun (hc2 : (d_risCell y g) = 0) => ?_) (fun (hc2 : ¬ ((d_risCell y g) = 0)) => ?_)
      · refine q_ret 2 (some (.int (Int32.ofInt (-1))), g, u) (fun _ _ => rfl) ?_
        rfl
      · exact absurd (show v_one n x ∧ (y = i_none ∨ v_one (W * H) y) from ⟨vo_r hn h6 hc0, Or.inr (vc_r hW hH h25 hc2)⟩) hb
theorem cb_sheet {n W H : Nat} (g : qM) (u : qW) (hn : g 20 3 = Int32.ofNat n) (hW : g 20 0 = Int32.ofNat W) (hH : g 20 1 = Int32.ofNat H) (h6 : n ≤ 6) (h25 : W * H ≤ 25) (x : Int32) (y : Int32) (z : Int32) (hb : ¬ (v_rg 0 3 x ∧ v_rg 0 2 y ∧ z ≤ (40 : Int32))) : q_BS 130 [.ref 8, .int x, .int y, .int z] g u (some (.int (Int32.ofInt (-1))), g, u) := by
  refine q_bx (mm := m_130) rfl (Nat.le_of_ble_eq_true rfl) rfl ?_
  refine q_step 1 1 [(0, .ref 8), (1, .int x), (2, .int y), (3, .int z)] [.int x] g u (fun big n0 => sg_bb_9 big n0 g u x y z) ?_
  refine q_call (M2 := 131) (rest := []) (b_isSheet _ _ _) (fun _ _ => rfl) ?_
  refine q_if_eq rfl (fun (hc0 : (d_isSheet x g) = 0) => ?_) (fun (hc0 : ¬ ((d_isSheet x g) = 0)) => ?_)
  · refine q_ret 2 (some (.int (Int32.ofInt (-1))), g, u) (fun _ _ => rfl) ?_
    rfl
  · refine q_step 1 8 [(0, .ref 8), (1, .int x), (2, .int y), (3, .int z)] [.int y] g u (fun big n0 => sg_bb_10 big n0 g u x y z) ?_
    refine q_call (M2 := 132) (rest := []) (b_isLane _ _ _) (fun _ _ => rfl) ?_
    refine q_if_eq rfl (fun (hc1 : (d_isLane y g) = 0) => ?_) (fun (hc1 : ¬ ((d_isLane y g) = 0)) => ?_)
    · refine q_ret 2 (some (.int (Int32.ofInt (-1))), g, u) (fun _ _ => rfl) ?_
      rfl
    · refine q_step 2 17 [(0, .ref 8), (1, .int x), (2, .int y), (3, .int z)] [.int (40 : Int32), .int z] g u (fun big n0 => sg_bb_11 big n0 g u x y z) ?_
      refine q_ic_le rfl (fun (hc2 : z ≤ (40 : Int32)) => ?_) (fun (hc2 : ¬ (z ≤ (40 : Int32))) => ?_)
      · exact absurd (show v_rg 0 3 x ∧ v_rg 0 2 y ∧ z ≤ (40 : Int32) from ⟨vr_sheet hc0, vr_lane hc1, hc2⟩) hb
      · refine q_ret 2 (some (.int (Int32.ofInt (-1))), g, u) (fun _ _ => rfl) ?_
        rfl
theorem rb_sheet {n W H : Nat} (g : qM) (u : qW) (hn : g 70 4 = Int32.ofNat n) (hW : g 70 2 = Int32.ofNat W) (hH : g 70 3 = Int32.ofNat H) (h6 : n ≤ 6) (h25 : W * H ≤ 25) (x : Int32) (y : Int32) (z : Int32) (hb : ¬ (v_rg 0 3 x ∧ v_rg 0 2 y ∧ z ≤ (40 : Int32))) : q_BS 219 [.ref 70, .int x, .int y, .int z] g u (some (.int (Int32.ofInt (-1))), g, u) := by
  refine q_bx (mm := m_219) rfl (Nat.le_of_ble_eq_true rfl) rfl ?_
  refine q_step 2 2 [(0, .ref 70), (1, .int x), (2, .int y), (3, .int z)] [.int y, .int x] g u (fun big n0 => sg_bb_12 big n0 g u x y z) ?_
  refine q_call (M2 := 220) (rest := []) (b_risSh _ _ _ _) (fun _ _ => rfl) ?_
  refine q_if_eq rfl (fun (hc0 : (d_risSh x y g) = 0) => ?_) (fun (hc0 : ¬ ((d_risSh x y g) = 0)) => ?_)
  · refine q_ret 2 (some (.int (Int32.ofInt (-1))), g, u) (fun _ _ => rfl) ?_
    rfl
  · refine q_step 2 11 [(0, .ref 70), (1, .int x), (2, .int y), (3, .int z)] [.int (40 : Int32), .int z] g u (fun big n0 => sg_bb_13 big n0 g u x y z) ?_
    refine q_ic_le rfl (fun (hc1 : z ≤ (40 : Int32)) => ?_) (fun (hc1 : ¬ (z ≤ (40 : Int32))) => ?_)
    · exact absurd (show v_rg 0 3 x ∧ v_rg 0 2 y ∧ z ≤ (40 : Int32) from ⟨(risSh_1 hc0).1, (risSh_1 hc0).2, hc1⟩) hb
    · refine q_ret 2 (some (.int (Int32.ofInt (-1))), g, u) (fun _ _ => rfl) ?_
      rfl
theorem cb_lay {n W H : Nat} (g : qM) (u : qW) (hn : g 20 3 = Int32.ofNat n) (hW : g 20 0 = Int32.ofNat W) (hH : g 20 1 = Int32.ofNat H) (h6 : n ≤ 6) (h25 : W * H ≤ 25) (x : Int32) (y : Int32) (z : Int32) (hb : ¬ (v_rg 0 3 x)) : q_BS 134 [.ref 8, .int x, .int y, .int z] g u (some (.int (Int32.ofInt (-1))), g, u) := by
  refine q_bx (mm := m_134) rfl (Nat.le_of_ble_eq_true rfl) rfl ?_
  refine q_step 1 1 [(0, .ref 8), (1, .int x), (2, .int y), (3, .int z)] [.int x] g u (fun big n0 => sg_bb_14 big n0 g u x y z) ?_
  refine q_call (M2 := 131) (rest := []) (b_isSheet _ _ _) (fun _ _ => rfl) ?_
  refine q_if_ne rfl (fun (hc0 : (d_isSheet x g) = 0) => ?_) (fun (hc0 : ¬ ((d_isSheet x g) = 0)) => ?_)
  · refine q_ret 2 (some (.int (Int32.ofInt (-1))), g, u) (fun _ _ => rfl) ?_
    rfl
  · exact absurd (vr_sheet hc0) hb
theorem rb_lay {n W H : Nat} (g : qM) (u : qW) (hn : g 70 4 = Int32.ofNat n) (hW : g 70 2 = Int32.ofNat W) (hH : g 70 3 = Int32.ofNat H) (h6 : n ≤ 6) (h25 : W * H ≤ 25) (x : Int32) (y : Int32) (z : Int32) (hb : ¬ (v_rg 0 3 x)) : q_BS 221 [.ref 70, .int x, .int y, .int z] g u (some (.int (Int32.ofInt (-1))), g, u) := by
  refine q_bx (mm := m_221) rfl (Nat.le_of_ble_eq_true rfl) rfl ?_
  refine q_step 2 2 [(0, .ref 70), (1, .int x), (2, .int y), (3, .int z)] [.int (0 : Int32), .int x] g u (fun big n0 => sg_bb_15 big n0 g u x y z) ?_
  refine q_call (M2 := 220) (rest := []) (b_risSh _ _ _ _) (fun _ _ => rfl) ?_
  refine q_if_ne rfl (fun (hc0 : (d_risSh x (0 : Int32) g) = 0) => ?_) (fun (hc0 : ¬ ((d_risSh x (0 : Int32) g) = 0)) => ?_)
  · refine q_ret 2 (some (.int (Int32.ofInt (-1))), g, u) (fun _ _ => rfl) ?_
    rfl
  · exact absurd ((risSh_1 hc0).1) hb
theorem cb_read {n W H : Nat} (g : qM) (u : qW) (hn : g 20 3 = Int32.ofNat n) (hW : g 20 0 = Int32.ofNat W) (hH : g 20 1 = Int32.ofNat H) (h6 : n ≤ 6) (h25 : W * H ≤ 25) (x : Int32) (y : Int32) (z : Int32) (w : Int32) (hb : ¬ (v_rg 0 3 x ∧ v_rg 0 2 y ∧ v_rg 0 20 w)) : q_BS 138 [.ref 8, .int x, .int y, .int z, .int w] g u (some (.int (Int32.ofInt (-1))), g, u) := by
  refine q_bx (mm := m_138) rfl (Nat.le_of_ble_eq_true rfl) rfl ?_
  refine q_step 1 1 [(0, .ref 8), (1, .int x), (2, .int y), (3, .int z), (4, .int w)] [.int x] g u (fun big n0 => sg_bb_16 big n0 g u x y z w) ?_
  refine q_call (M2 := 131) (rest := []) (b_isSheet _ _ _) (fun _ _ => rfl) ?_
  refine q_if_eq rfl (fun (hc0 : (d_isSheet x g) = 0) => ?_) (fun (hc0 : ¬ ((d_isSheet x g) = 0)) => ?_)
  · refine q_ret 2 (some (.int (Int32.ofInt (-1))), g, u) (fun _ _ => rfl) ?_
    rfl
  · refine q_step 1 8 [(0, .ref 8), (1, .int x), (2, .int y), (3, .int z), (4, .int w)] [.int y] g u (fun big n0 => sg_bb_17 big n0 g u x y z w) ?_
    refine q_call (M2 := 132) (rest := []) (b_isLane _ _ _) (fun _ _ => rfl) ?_
    refine q_if_eq rfl (fun (hc1 : (d_isLane y g) = 0) => ?_) (fun (hc1 : ¬ ((d_isLane y g) = 0)) => ?_)
    · refine q_ret 2 (some (.int (Int32.ofInt (-1))), g, u) (fun _ _ => rfl) ?_
      rfl
    · refine q_step 1 16 [(0, .ref 8), (1, .int x), (2, .int y), (3, .int z), (4, .int w)] [.int w] g u (fun big n0 => sg_bb_18 big n0 g u x y z w) ?_
      refine q_if_lt rfl (fun (hc2 : w < 0) => ?_) (fun (hc2 : ¬ (w < 0)) => ?_)
      · refine q_ret 2 (some (.int (Int32.ofInt (-1))), g, u) (fun _ _ => rfl) ?_
        rfl
      · refine q_step 2 23 [(0, .ref 8), (1, .int x), (2, .int y), (3, .int z), (4, .int w)] [.int (20 : Int32), .int w] g u (fun big n0 => sg_bb_19 big n0 g u x y z w) ?_
        refine q_ic_le rfl (fun (hc3 : w ≤ (20 : Int32)) => ?_) (fun (hc3 : ¬ (w ≤ (20 : Int32))) => ?_)
        · exact absurd (show v_rg 0 3 x ∧ v_rg 0 2 y ∧ v_rg 0 20 w from ⟨vr_sheet hc0, vr_lane hc1, vr_c' (lo := 0) (hi := 20) (by omega) (by omega) hc2 hc3⟩) hb
        · refine q_ret 2 (some (.int (Int32.ofInt (-1))), g, u) (fun _ _ => rfl) ?_
          rfl
theorem rb_read {n W H : Nat} (g : qM) (u : qW) (hn : g 70 4 = Int32.ofNat n) (hW : g 70 2 = Int32.ofNat W) (hH : g 70 3 = Int32.ofNat H) (h6 : n ≤ 6) (h25 : W * H ≤ 25) (x : Int32) (y : Int32) (z : Int32) (w : Int32) (hb : ¬ (v_rg 0 3 x ∧ v_rg 0 2 y ∧ v_rg 0 20 w)) : q_BS 222 [.ref 70, .int x, .int y, .int z, .int w] g u (some (.int (Int32.ofInt (-1))), g, u) := by
  refine q_bx (mm := m_222) rfl (Nat.le_of_ble_eq_true rfl) rfl ?_
  refine q_step 2 2 [(0, .ref 70), (1, .int x), (2, .int y), (3, .int z), (4, .int w)] [.int y, .int x] g u (fun big n0 => sg_bb_20 big n0 g u x y z w) ?_
  refine q_call (M2 := 220) (rest := []) (b_risSh _ _ _ _) (fun _ _ => rfl) ?_
  refine q_if_eq rfl (fun (hc0 : (d_risSh x y g) = 0) => ?_) (fun (hc0 : ¬ ((d_risSh x y g) = 0)) => ?_)
  · refine q_ret 2 (some (.int (Int32.ofInt (-1))), g, u) (fun _ _ => rfl) ?_
    rfl
  · refine q_step 4 15 [(0, .ref 70), (1, .int x), (2, .int y), (3, .int z), (4, .int w)] [.long (20 : Int64), .long (0 : Int64), .long (Int32.toInt64 w)] g u (fun big n0 => sg_bb_21 big n0 g u x y z w) ?_
    refine q_call (M2 := 149) (rest := []) (b_in _ _ _ _ _) (fun _ _ => rfl) ?_
    refine q_if_ne rfl (fun (hc1 : (s_in (Int32.toInt64 w) (0 : Int64) (20 : Int64)) = 0) => ?_) (fun (hc1 : ¬ ((s_in (Int32.toInt64 w) (0 : Int64) (20 : Int64)) = 0)) => ?_)
    · refine q_ret 2 (some (.int (Int32.ofInt (-1))), g, u) (fun _ _ => rfl) ?_
      rfl
    · exact absurd (show v_rg 0 3 x ∧ v_rg 0 2 y ∧ v_rg 0 20 w from ⟨(risSh_1 hc0).1, (risSh_1 hc0).2, vr_r (lo := 0) (hi := 20) (by omega) (by omega) hc1⟩) hb
theorem v_1114 {x : Int32} (h1 : ¬ x ≤ 10) (h2 : ¬ (4 : Int32) < x - 10) : v_rg 11 14 x := by
  rw [Int32.le_iff_toInt_le] at h1
  rw [Int32.lt_iff_toInt_lt] at h2
  have z4 : (4 : Int32).toInt = 4 := rfl
  have z10 : (10 : Int32).toInt = 10 := rfl
  have hb := Int32.toInt_lt x
  rw [s_sub (by omega) (by omega)] at h2
  exact v_nat (by omega) (by omega)
theorem v_1114r {x : Int32} (h : ¬ s_in (Int32.toInt64 (x - 10)) 1 4 = 0) (hx : x.toInt < 0 ∨ 5 < x.toInt) : v_rg 11 14 x := by
  have z := s_in_i.mp h
  have z1 : (1 : Int64).toInt = 1 := rfl
  have z4 : (4 : Int64).toInt = 4 := rfl
  have z10 : (10 : Int32).toInt = 10 := rfl
  have hb := Int32.toInt_lt x
  have hl := Int32.le_toInt x
  rw [z1, z4] at z
  have e : x = (x - 10) + 10 := (Int32.sub_add_cancel x 10).symm
  have e2 : x.toInt = (x - 10).toInt + 10 := by
    have y := congrArg Int32.toInt e
    rw [s_add (by omega) (by omega), z10] at y
    exact y
  exact v_nat (by omega) (by omega)
theorem cb_rule (g : qM) (u : qW) (x : Int32) (hx : x.toInt < 0 ∨ 5 < x.toInt) (hb : ¬ v_rg 11 14 x) : q_BS 44 [.ref 8, .int x] g u (some (.int (Int32.ofInt (-1))), g, u) := by
  refine q_bx (mm := m_44) rfl (Nat.le_of_ble_eq_true rfl) rfl ?_
  refine q_step 1 1 [(0, .ref 8), (1, .int x)] [.int x] g u (fun big n0 => sg_bb_22 big n0 g u x) ?_
  refine q_tswd (tgt := 88) rfl (hx) (by decide) ?_
  refine q_step 6 96 [(0, .ref 8), (1, .int x), (2, .int (x - (10 : Int32)))] [.int (10 : Int32), .int x] g u (fun big n0 => sg_bb_23 big n0 g u x) ?_
  refine q_ic_le rfl (fun (hc0 : x ≤ (10 : Int32)) => ?_) (fun (hc0 : ¬ (x ≤ (10 : Int32))) => ?_)
  · refine q_ret 2 (some (.int (Int32.ofInt (-1))), g, u) (fun _ _ => rfl) ?_
    rfl
  · refine q_step 2 101 [(0, .ref 8), (1, .int x), (2, .int (x - (10 : Int32)))] [.int (4 : Int32), .int (x - (10 : Int32))] g u (fun big n0 => sg_bb_24 big n0 g u x (x - (10 : Int32))) ?_
    refine q_ic_gt rfl (fun (hc1 : (4 : Int32) < (x - (10 : Int32))) => ?_) (fun (hc1 : ¬ ((4 : Int32) < (x - (10 : Int32)))) => ?_)
    · refine q_ret 2 (some (.int (Int32.ofInt (-1))), g, u) (fun _ _ => rfl) ?_
      rfl
    · exact absurd (v_1114 hc0 hc1) hb
theorem rb_rule (g : qM) (u : qW) (x : Int32) (hx : x.toInt < 0 ∨ 5 < x.toInt) (hb : ¬ v_rg 11 14 x) : q_BS 167 [.ref 70, .int x] g u (some (.int (Int32.ofInt (-1))), g, u) := by
  refine q_bx (mm := m_167) rfl (Nat.le_of_ble_eq_true rfl) rfl ?_
  refine q_step 1 1 [(0, .ref 70), (1, .int x)] [.int x] g u (fun big n0 => sg_bb_25 big n0 g u x) ?_
  refine q_tswd (tgt := 79) rfl (hx) (by decide) ?_
  refine q_step 6 88 [(0, .ref 70), (1, .int x)] [.long (4 : Int64), .long (1 : Int64), .long (Int32.toInt64 (x - (10 : Int32)))] g u (fun big n0 => sg_bb_26 big n0 g u x) ?_
  refine q_call (M2 := 149) (rest := []) (b_in _ _ _ _ _) (fun _ _ => rfl) ?_
  refine q_if_eq rfl (fun (hc0 : (s_in (Int32.toInt64 (x - (10 : Int32))) (1 : Int64) (4 : Int64)) = 0) => ?_) (fun (hc0 : ¬ ((s_in (Int32.toInt64 (x - (10 : Int32))) (1 : Int64) (4 : Int64)) = 0)) => ?_)
  · refine q_ret 2 (some (.int (Int32.ofInt (-1))), g, u) (fun _ _ => rfl) ?_
    rfl
  · exact absurd (v_1114r hc0 hx) hb
theorem cb_one {n : Nat} (g : qM) (u : qW) (hn : g 20 3 = Int32.ofNat n) (h6 : n ≤ 6) (x y : Int32) (hb : ¬ v_one n x) : q_BS 45 [.ref 8, .int x, .int y] g u (some (.int (Int32.ofInt (-1))), g, u) := by
  refine q_bx (mm := m_45) rfl (Nat.le_of_ble_eq_true rfl) rfl ?_
  refine q_step 3 5 [(0, .ref 8), (1, .int x), (2, .int y)] [.int x, .ref 20] g u (fun big n0 => sg_bb_27 big n0 g u x y) ?_
  refine q_call (M2 := 40) (rest := []) (b_hasOne _ _ _) (fun _ _ => rfl) ?_
  refine q_if_ne rfl (fun (hc0 : (d_hasOne x g) = 0) => ?_) (fun (hc0 : ¬ ((d_hasOne x g) = 0)) => ?_)
  · refine q_ret 2 (some (.int (Int32.ofInt (-1))), g, u) (fun _ _ => rfl) ?_
    rfl
  · exact absurd (vo_c hn h6 hc0) hb
theorem cb_one2 {n p : Nat} (g : qM) (u : qW) (hn : g 20 3 = Int32.ofNat n) (h6 : n ≤ 6) (hp : p < n) (y : Int32) (hx : y.toInt < 0 ∨ 3 < y.toInt) : q_BS 45 [.ref 8, .int (Int32.ofNat p), .int y] g u (some (.int (Int32.ofInt (-1))), g, u) := by
  refine q_bx (mm := m_45) rfl (Nat.le_of_ble_eq_true rfl) rfl ?_
  refine q_step 3 5 [(0, .ref 8), (1, .int (Int32.ofNat p)), (2, .int y)] [.int (Int32.ofNat p), .ref 20] g u (fun big n0 => sg_bb_27 big n0 g u (Int32.ofNat p) y) ?_
  refine q_call (M2 := 40) (rest := []) (b_hasOne1 g u hn h6 hp) (fun _ _ => rfl) ?_
  refine q_step 2 14 [(0, .ref 8), (1, .int (Int32.ofNat p)), (2, .int y)] [.int y] g u (fun big n0 => sg_bb_28 big n0 g u (Int32.ofNat p) y) ?_
  refine q_tswd (tgt := 84) rfl (hx) (by decide) ?_
  refine q_ret 2 (some (.int (Int32.ofInt (-1))), g, u) (fun _ _ => rfl) ?_
  rfl
theorem rb_one {n : Nat} (g : qM) (u : qW) (hn : g 70 4 = Int32.ofNat n) (h6 : n ≤ 6) (x y : Int32) (hb : ¬ (v_one n x ∧ v_rg 0 3 y)) : q_BS 168 [.ref 70, .int x, .int y] g u (some (.int (Int32.ofInt (-1))), g, u) := by
  refine q_bx (mm := m_168) rfl (Nat.le_of_ble_eq_true rfl) rfl ?_
  refine q_step 2 2 [(0, .ref 70), (1, .int x), (2, .int y)] [.int x, .ref 70] g u (fun big n0 => sg_bb_29 big n0 g u x y) ?_
  refine q_call (M2 := 169) (rest := []) (b_risOne _ _ _) (fun _ _ => rfl) ?_
  refine q_if_eq rfl (fun (hc0 : (d_risOne x g) = 0) => ?_) (fun (hc0 : ¬ ((d_risOne x g) = 0)) => ?_)
  · refine q_ret 2 (some (.int (Int32.ofInt (-1))), g, u) (fun _ _ => rfl) ?_
    rfl
  · refine q_step 4 14 [(0, .ref 70), (1, .int x), (2, .int y)] [.long (3 : Int64), .long (0 : Int64), .long (Int32.toInt64 y)] g u (fun big n0 => sg_bb_30 big n0 g u x y) ?_
    refine q_call (M2 := 149) (rest := []) (b_in _ _ _ _ _) (fun _ _ => rfl) ?_
    refine q_if_eq rfl (fun (hc1 : (s_in (Int32.toInt64 y) (0 : Int64) (3 : Int64)) = 0) => ?_) (fun (hc1 : ¬ ((s_in (Int32.toInt64 y) (0 : Int64) (3 : Int64)) = 0)) => ?_)
    · refine q_ret 2 (some (.int (Int32.ofInt (-1))), g, u) (fun _ _ => rfl) ?_
      rfl
    · exact absurd ⟨vo_r hn h6 hc0, vr_r (lo := 0) (hi := 3) (by omega) (by omega) hc1⟩ hb
