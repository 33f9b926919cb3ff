/-! LINES of ONES and goals, the class. -/
theorem k_dc.e2 {r g : qM} {x : Int32} (h : k_dc r g) : k_dc r (q_up g 11 2 x) := ⟨h.1, h.2⟩
theorem k_dc.e3 {r g : qM} {x : Int32} (h : k_dc r g) : k_dc r (q_up g 11 3 x) := ⟨h.1, h.2⟩
theorem k_n1 {n : Nat} (h : n ≤ 5) : (Int32.ofNat n + 1).toInt.toNat = n + 1 := by
  have z : (List.range 6).all (fun n => decide ((Int32.ofNat n + 1).toInt.toNat = n + 1)) = true := by decide +kernel
  exact of_decide_eq_true (List.all_eq_true.mp z n (List.mem_range.mpr (by omega)))
theorem k_n5 {r : qM} (hn : k_dn r) (h : r 70 8 < 5) : t_n r < 5 := by
  rw [hn.1, show (5 : Int32) = Int32.ofNat 5 from rfl, q_lt (by have := hn.2.1; omega) (by omega)] at h
  exact h
theorem k_dc.one {r g : qM} {c m st : Int32} (h : k_dc r g) (hn : k_dn r) (h5 : t_n r < 5) : k_dc (q_up (q_up (q_up (q_up r 73 (t_n r) c) 73 (5 + t_n r) m) 73 (10 + t_n r) st) 70 8 (r 70 8 + 1)) (q_up (q_up (q_up (q_up g 13 (t_n r) c) 14 (t_n r) m) 15 (t_n r) st) 12 3 (g 12 3 + 1)) := by
  have en : t_n (q_up (q_up (q_up (q_up r 73 (t_n r) c) 73 (5 + t_n r) m) 73 (10 + t_n r) st) 70 8 (r 70 8 + 1)) = t_n r + 1 := by
    show (r 70 8 + 1).toInt.toNat = t_n r + 1
    rw [hn.1, k_n1 (by omega)]
  have hr : ∀ j, q_up (q_up (q_up (q_up r 73 (t_n r) c) 73 (5 + t_n r) m) 73 (10 + t_n r) st) 70 8 (r 70 8 + 1) 73 j = if j = 10 + t_n r then st else if j = 5 + t_n r then m else if j = t_n r then c else r 73 j := fun j => by
    rw [q_up_ne (by decide), q_up_at, q_up_at, q_up_at]
  refine ⟨⟨h.1.1, h.1.2.1, ?_, congrArg (· + 1) h.1.2.2.2.1, ?_, h.1.2.2.2.2.2⟩, fun d h1 h2 => ?_, fun p hp => ?_, fun p hp => ?_, h.2.2.2.2⟩
  · rw [hr, if_neg (by omega), if_neg (by omega), if_neg (by omega)]
    exact h.1.2.2.1
  · rw [hr, if_neg (by omega), if_neg (by omega), if_neg (by omega)]
    exact h.1.2.2.2.2.1
  · rw [hr, if_neg (by omega), if_neg (by omega), if_neg (by omega)]
    exact h.2.1 d h1 h2
  · rw [en] at hp
    rw [hr, hr, hr]
    by_cases e : p = t_n r
    · subst e
      rw [if_neg (by omega), if_neg (by omega), if_pos rfl, if_neg (by omega), if_pos rfl, if_pos rfl]
      exact ⟨by rw [q_up_ne (by decide), q_up_ne (by decide), q_up_ne (by decide), q_up_at, if_pos rfl], by rw [q_up_ne (by decide), q_up_ne (by decide), q_up_at, if_pos rfl], by rw [q_up_ne (by decide), q_up_at, if_pos rfl]⟩
    · have z := h.2.2.1 p (by omega)
      rw [if_neg (by omega), if_neg (by omega), if_neg e, if_neg (by omega), if_neg (by omega), if_neg (by omega), if_neg (by omega), if_neg (by omega), if_neg (by omega)]
      exact ⟨by rw [q_up_ne (by decide), q_up_ne (by decide), q_up_ne (by decide), q_up_at, if_neg e]; exact z.1, by rw [q_up_ne (by decide), q_up_ne (by decide), q_up_at, if_neg e]; exact z.2.1, by rw [q_up_ne (by decide), q_up_at, if_neg e]; exact z.2.2⟩
  · rw [hr, if_neg (by omega), if_neg (by omega), if_neg (by omega)]
    exact h.2.2.2.1 p hp
theorem t_er_rng {b : Nat → Int32} {s p : Nat} {lo hi : Int32} (h : t_er b s p lo hi = 0) : ¬ t_va b s p < lo ∧ ¬ hi < t_va b s p := by
  unfold t_er at h
  by_cases e : t_ki b s p = 2
  · rw [if_pos e] at h
    by_cases e1 : t_va b s p < lo
    · rw [if_pos e1] at h
      exact absurd h (by decide)
    · rw [if_neg e1] at h
      by_cases e2 : hi < t_va b s p
      · rw [if_pos e2] at h
        exact absurd h (by decide)
      · exact ⟨e1, e2⟩
  · rw [if_neg e] at h
    split at h <;> exact absurd h (by decide)
theorem k_v4 {v : Int32} (h : ¬ v < 0 ∧ ¬ (4 : Int32) < v) : v = Int32.ofNat v.toInt.toNat ∧ v.toInt.toNat ≤ 4 := by
  have c0 : (0 : Int32).toInt = 0 := rfl
  have c4 : (4 : Int32).toInt = 4 := rfl
  rw [Int32.lt_iff_toInt_lt, Int32.lt_iff_toInt_lt, c0, c4] at h
  refine ⟨?_, by omega⟩
  have z : (List.range 5).all (fun n => decide ((Int32.ofNat n).toInt = (n : Int))) = true := by decide +kernel
  have y := of_decide_eq_true (List.all_eq_true.mp z v.toInt.toNat (List.mem_range.mpr (by omega)))
  exact q_inj (by rw [y]; omega)
theorem k_ix4 {v : Int32} (h : ¬ v < 0 ∧ ¬ (4 : Int32) < v) : q_ix v v.toInt.toNat 6 := by
  have e := k_v4 h
  have z : q_ix (Int32.ofNat v.toInt.toNat) v.toInt.toNat 6 := q_ixn (by omega) (by omega)
  rw [← e.1] at z
  exact z
theorem k_dc.goal {r g : qM} {c x y : Int32} {j : Nat} (h : k_dc r g) (hn : k_dn r) (hj : j ≤ 4) : k_dc (q_up (q_up (q_up r 70 11 x) 70 10 y) 73 (15 + j) c) (q_up g 16 j c) := by
  have h5 := hn.2.1
  refine ⟨⟨h.1.1, h.1.2.1, ?_, h.1.2.2.2.1, ?_, h.1.2.2.2.2.2⟩, fun d h1 h2 => ?_, fun p hp => ?_, fun p hp => ?_, h.2.2.2.2⟩
  · rw [q_up_at, if_neg (by omega)]
    exact h.1.2.2.1
  · rw [q_up_at, if_neg (by omega)]
    exact h.1.2.2.2.2.1
  · rw [q_up_at, if_neg (by omega)]
    exact h.2.1 d h1 h2
  · have hp' : p < t_n r := hp
    rw [q_up_at, q_up_at, q_up_at, if_neg (by omega), if_neg (by omega), if_neg (by omega)]
    exact h.2.2.1 p hp
  · rw [q_up_at, q_up_at]
    by_cases e : p = j
    · rw [if_pos e, if_pos (by omega)]
    · rw [if_neg e, if_neg (by omega)]
      exact h.2.2.2.1 p hp
theorem sg_lo_1 (big : Nat → List Value → qM → qW → qR) (n0 : Nat) (G : qM) (U : qW) (v0 : Int32) (v1 : Int32) (v2 : Int32) : qm_run pm_m big m_32 (n0 + 5) 0 [(0, .ref 12), (1, .int v0), (2, .int v1), (3, .int v2)] [] G U = qm_run pm_m big m_32 n0 9 [(0, .ref 12), (1, .int v0), (2, .int v1), (3, .int v2)] [.int (6 : Int32), .int (G 12 3)] G U := rfl
theorem sg_lo_2 (big : Nat → List Value → qM → qW → qR) (n0 : Nat) (G : qM) (U : qW) (v0 : Int32) (v1 : Int32) (v2 : Int32) : qm_run pm_m big m_32 (n0 + 5) 12 [(0, .ref 12), (1, .int v0), (2, .int v1), (3, .int v2)] [] G U = qm_run pm_m big m_32 n0 21 [(0, .ref 12), (1, .int v0), (2, .int v1), (3, .int v2)] [.int v0, .int (G 12 3), .ref 13] G U := rfl
theorem sg_lo_3 (big : Nat → List Value → qM → qW → qR) (n0 : Nat) (G : qM) (U : qW) (v0 : Int32) (v1 : Int32) (v2 : Int32) : qm_run pm_m big m_32 (n0 + 5) 22 [(0, .ref 12), (1, .int v0), (2, .int v1), (3, .int v2)] [] G U = qm_run pm_m big m_32 n0 31 [(0, .ref 12), (1, .int v0), (2, .int v1), (3, .int v2)] [.int v1, .int (G 12 3), .ref 14] G U := rfl
theorem sg_lo_4 (big : Nat → List Value → qM → qW → qR) (n0 : Nat) (G : qM) (U : qW) (v0 : Int32) (v1 : Int32) (v2 : Int32) : qm_run pm_m big m_32 (n0 + 5) 32 [(0, .ref 12), (1, .int v0), (2, .int v1), (3, .int v2)] [] G U = qm_run pm_m big m_32 n0 41 [(0, .ref 12), (1, .int v0), (2, .int v1), (3, .int v2)] [.int v2, .int (G 12 3), .ref 15] G U := rfl
theorem sg_lo_5 (big : Nat → List Value → qM → qW → qR) (n0 : Nat) (G : qM) (U : qW) (v0 : Int32) : qm_run pm_m big m_31 (n0 + 4) 0 [(0, .ref 11), (1, .int v0)] [] G U = qm_run pm_m big m_31 n0 8 [(0, .ref 11), (1, .int v0)] [.int (5 : Int32), .int (G 12 3)] G U := rfl
theorem sg_lo_6 (big : Nat → List Value → qM → qW → qR) (n0 : Nat) (G : qM) (U : qW) (v0 : Int32) : qm_run pm_m big m_31 (n0 + 3) 24 [(0, .ref 11), (1, .int v0)] [] G U = qm_run pm_m big m_31 n0 28 [(0, .ref 11), (1, .int v0)] [.int (24 : Int32), .int (0 : Int32), .ref 11] G U := rfl
theorem sg_lo_7 (big : Nat → List Value → qM → qW → qR) (n0 : Nat) (G : qM) (U : qW) (v0 : Int32) (v1 : Int32) : qm_run pm_m big m_31 (n0 + 3) 31 [(0, .ref 11), (1, .int v0)] [.int v1] G U = qm_run pm_m big m_31 n0 34 [(0, .ref 11), (1, .int v0), (2, .int v1)] [.int v1, .ref 11] G U := rfl
theorem sg_lo_8 (big : Nat → List Value → qM → qW → qR) (n0 : Nat) (G : qM) (U : qW) (v0 : Int32) (v1 : Int32) : qm_run pm_m big m_31 (n0 + 3) 37 [(0, .ref 11), (1, .int v0), (2, .int v1)] [] G U = qm_run pm_m big m_31 n0 40 [(0, .ref 11), (1, .int v0), (2, .int v1)] [.int (3 : Int32), .int (0 : Int32), .ref 11] G U := rfl
theorem sg_lo_9 (big : Nat → List Value → qM → qW → qR) (n0 : Nat) (G : qM) (U : qW) (v0 : Int32) (v1 : Int32) (v2 : Int32) : qm_run pm_m big m_31 (n0 + 6) 43 [(0, .ref 11), (1, .int v0), (2, .int v1)] [.int v2] G U = qm_run pm_m big m_31 n0 51 [(0, .ref 11), (1, .int v0), (2, .int v1), (3, .int v2)] [.int v0, .int v2, .int v1, .ref 12] G U := rfl
theorem sg_lo_10 (big : Nat → List Value → qM → qW → qR) (n0 : Nat) (G : qM) (U : qW) (v0 : Int32) (v1 : Int32) : qm_run pm_m big m_31 (n0 + 6) 43 [(0, .ref 11), (1, .int v0), (2, .int v1)] [.int (0 : Int32)] G U = qm_run pm_m big m_31 n0 51 [(0, .ref 11), (1, .int v0), (2, .int v1), (3, .int (0 : Int32))] [.int v0, .int (0 : Int32), .int v1, .ref 12] G U := rfl
theorem sg_lo_11 (big : Nat → List Value → qM → qW → qR) (n0 : Nat) (G : qM) (U : qW) (v0 : Int32) : qm_run pm_m big m_31 (n0 + 3) 31 [(0, .ref 11), (1, .int v0)] [.int (0 : Int32)] G U = qm_run pm_m big m_31 n0 34 [(0, .ref 11), (1, .int v0), (2, .int (0 : Int32))] [.int (0 : Int32), .ref 11] G U := rfl
theorem sg_lo_12 (big : Nat → List Value → qM → qW → qR) (n0 : Nat) (G : qM) (U : qW) (v0 : Int32) : qm_run pm_m big m_31 (n0 + 3) 37 [(0, .ref 11), (1, .int v0), (2, .int (0 : Int32))] [] G U = qm_run pm_m big m_31 n0 40 [(0, .ref 11), (1, .int v0), (2, .int (0 : Int32))] [.int (3 : Int32), .int (0 : Int32), .ref 11] G U := rfl
theorem sg_lo_13 (big : Nat → List Value → qM → qW → qR) (n0 : Nat) (G : qM) (U : qW) (v0 : Int32) : qm_run pm_m big m_31 (n0 + 6) 43 [(0, .ref 11), (1, .int v0), (2, .int (0 : Int32))] [.int (0 : Int32)] G U = qm_run pm_m big m_31 n0 51 [(0, .ref 11), (1, .int v0), (2, .int (0 : Int32)), (3, .int (0 : Int32))] [.int v0, .int (0 : Int32), .int (0 : Int32), .ref 12] G U := rfl
theorem sg_lo_14 (big : Nat → List Value → qM → qW → qR) (n0 : Nat) (G : qM) (U : qW) (v0 : Int32) : qm_run pm_m big m_31 (n0 + 5) 11 [(0, .ref 11), (1, .int v0)] [] G U = qm_run pm_m big m_31 n0 20 [(0, .ref 11), (1, .int v0)] [.int (G 9 3), .int (5 : Int32), .ref 11] G U := rfl
theorem sg_lo_15 (big : Nat → List Value → qM → qW → qR) (n0 : Nat) (G : qM) (U : qW) : qm_run pm_m big m_35 (n0 + 3) 0 [(0, .ref 11)] [] G U = qm_run pm_m big m_35 n0 3 [(0, .ref 11)] [.int (4 : Int32), .int (0 : Int32), .ref 11] G U := rfl
theorem sg_lo_16 (big : Nat → List Value → qM → qW → qR) (n0 : Nat) (G : qM) (U : qW) (v0 : Int32) : qm_run pm_m big m_35 (n0 + 3) 6 [(0, .ref 11)] [.int v0] G U = qm_run pm_m big m_35 n0 11 [(0, .ref 11), (1, .int v0)] [.int (G 11 2)] G U := rfl
theorem sg_lo_17 (big : Nat → List Value → qM → qW → qR) (n0 : Nat) (G : qM) (U : qW) (v0 : Int32) : qm_run pm_m big m_35 (n0 + 4) 14 [(0, .ref 11), (1, .int v0)] [] G U = qm_run pm_m big m_35 n0 22 [(0, .ref 11), (1, .int v0)] [.int v0, .ref 16] G U := rfl
theorem sg_lo_18 (big : Nat → List Value → qM → qW → qR) (n0 : Nat) (G : qM) (U : qW) (v0 : Int32) (v1 : Int32) : qm_run pm_m big m_35 (n0 + 1) 23 [(0, .ref 11), (1, .int v0)] [.int v1] G U = qm_run pm_m big m_35 n0 25 [(0, .ref 11), (1, .int v0)] [.int (Int8.toInt32 (Int8.ofInt (-4))), .int v1] G U := rfl
theorem sg_lo_19 (big : Nat → List Value → qM → qW → qR) (n0 : Nat) (G : qM) (U : qW) (v0 : Int32) : qm_run pm_m big m_35 (n0 + 3) 40 [(0, .ref 11), (1, .int v0)] [] G U = qm_run pm_m big m_35 n0 44 [(0, .ref 11), (1, .int v0)] [.int (24 : Int32), .int (0 : Int32), .ref 11] G U := rfl
theorem sg_lo_20 (big : Nat → List Value → qM → qW → qR) (n0 : Nat) (G : qM) (U : qW) (v0 : Int32) (v1 : Int32) : qm_run pm_m big m_35 (n0 + 3) 47 [(0, .ref 11), (1, .int v0)] [.int v1] G U = qm_run pm_m big m_35 n0 52 [(0, .ref 11), (1, .int v0), (2, .int v1)] [.int (G 11 2)] G U := rfl
theorem sg_lo_21 (big : Nat → List Value → qM → qW → qR) (n0 : Nat) (G : qM) (U : qW) (v0 : Int32) (v1 : Int32) : qm_run pm_m big m_35 (n0 + 5) 55 [(0, .ref 11), (1, .int v0), (2, .int v1)] [] G U = qm_run pm_m big m_35 n0 64 [(0, .ref 11), (1, .int v0), (2, .int v1)] [.int v1, .int v0, .ref 16] G U := rfl
theorem sg_lo_22 (big : Nat → List Value → qM → qW → qR) (n0 : Nat) (G : qM) (U : qW) (v0 : Int32) : qm_run pm_m big m_35 (n0 + 3) 47 [(0, .ref 11), (1, .int v0)] [.int (0 : Int32)] G U = qm_run pm_m big m_35 n0 52 [(0, .ref 11), (1, .int v0), (2, .int (0 : Int32))] [.int (G 11 2)] G U := rfl
theorem sg_lo_23 (big : Nat → List Value → qM → qW → qR) (n0 : Nat) (G : qM) (U : qW) (v0 : Int32) : qm_run pm_m big m_35 (n0 + 5) 28 [(0, .ref 11), (1, .int v0)] [] G U = qm_run pm_m big m_35 n0 37 [(0, .ref 11), (1, .int v0)] [.int (G 9 3), .int (4 : Int32), .ref 11] G U := rfl
theorem sg_lo_24 (big : Nat → List Value → qM → qW → qR) (n0 : Nat) (G : qM) (U : qW) : qm_run pm_m big m_35 (n0 + 3) 6 [(0, .ref 11)] [.int (0 : Int32)] G U = qm_run pm_m big m_35 n0 11 [(0, .ref 11), (1, .int (0 : Int32))] [.int (G 11 2)] G U := rfl
theorem sg_lo_25 (big : Nat → List Value → qM → qW → qR) (n0 : Nat) (G : qM) (U : qW) : qm_run pm_m big m_35 (n0 + 3) 40 [(0, .ref 11), (1, .int (0 : Int32))] [] G U = qm_run pm_m big m_35 n0 44 [(0, .ref 11), (1, .int (0 : Int32))] [.int (24 : Int32), .int (0 : Int32), .ref 11] G U := rfl
theorem sg_lo_26 (big : Nat → List Value → qM → qW → qR) (n0 : Nat) (G : qM) (U : qW) : qm_run pm_m big m_35 (n0 + 3) 47 [(0, .ref 11), (1, .int (0 : Int32))] [.int (0 : Int32)] G U = qm_run pm_m big m_35 n0 52 [(0, .ref 11), (1, .int (0 : Int32)), (2, .int (0 : Int32))] [.int (G 11 2)] G U := rfl
theorem b_add12 {n : Nat} (c m st : Int32) (g : qM) (u : qW) (hn : g 12 3 = Int32.ofNat n) (h5 : n ≤ 5) : q_BS 32 [.ref 12, .int c, .int m, .int st] g u (none, q_up (q_up (q_up (q_up g 13 n c) 14 n m) 15 n st) 12 3 (g 12 3 + 1), u) := by
  refine q_bx (mm := m_32) rfl (Nat.le_of_ble_eq_true rfl) rfl ?_
  refine q_step 5 9 [(0, .ref 12), (1, .int c), (2, .int m), (3, .int st)] [.int (6 : Int32), .int (g 12 3)] g u (fun big n0 => sg_lo_1 big n0 g u c m st) ?_
  refine q_ic_ge rfl (fun hc0 => absurd (show (6 : Int32) ≤ (g 12 3) from hc0) (fun z => by rw [hn, show (6 : Int32) = Int32.ofNat 6 from rfl, q_le (by omega) (by omega)] at z; omega)) (fun (hc0 : ¬ ((6 : Int32) ≤ (g 12 3))) => ?_)
  refine q_step 5 21 [(0, .ref 12), (1, .int c), (2, .int m), (3, .int st)] [.int c, .int (g 12 3), .ref 13] g u (fun big n0 => sg_lo_2 big n0 g u c m st) ?_
  refine q_iast (j := n) ((show q_ix (g 12 3) n 6 from by rw [hn]; exact q_ixn (by omega) (by omega))) rfl rfl ?_
  refine q_step 5 31 [(0, .ref 12), (1, .int c), (2, .int m), (3, .int st)] [.int m, .int (g 12 3), .ref 14] (q_up g 13 n c) u (fun big n0 => sg_lo_3 big n0 (q_up g 13 n c) u c m st) ?_
  refine q_iast (j := n) ((show q_ix (g 12 3) n 6 from by rw [hn]; exact q_ixn (by omega) (by omega))) rfl rfl ?_
  refine q_step 5 41 [(0, .ref 12), (1, .int c), (2, .int m), (3, .int st)] [.int st, .int (g 12 3), .ref 15] (q_up (q_up g 13 n c) 14 n m) u (fun big n0 => sg_lo_4 big n0 (q_up (q_up g 13 n c) 14 n m) u c m st) ?_
  refine q_iast (j := n) ((show q_ix (g 12 3) n 6 from by rw [hn]; exact q_ixn (by omega) (by omega))) rfl rfl ?_
  refine q_ret 7 (none, (q_up (q_up (q_up (q_up g 13 n c) 14 n m) 15 n st) 12 3 ((g 12 3) + (1 : Int32))), u) (fun _ _ => rfl) ?_
  rfl
theorem c_lone {s f p : Nat} {r : qM} (st : Int32) (g : qM) (u : qW) (hc : k_cc s f p r g) : ∃ R, q_BS 31 [.ref 11, .int st] g u R ∧ ∃ g', R = (none, g', u) ∧ k_pc s (o_one (g 10) s f p r st) g g' := by
  refine q_bs (mm := m_31) rfl (Nat.le_of_ble_eq_true rfl) rfl ?_
  have ht := k_tk.of hc
  obtain ⟨⟨hs, h160, hp5, hp, h2, hf⟩, hd, hn⟩ := hc
  have h8 : g 12 3 = r 70 8 := hd.1.2.2.2.1
  refine q_step 4 8 [(0, .ref 11), (1, .int st)] [.int (5 : Int32), .int (g 12 3)] g u (fun big n0 => sg_lo_5 big n0 g u st) ?_
  refine q_ic_lt rfl (fun (hc0 : (g 12 3) < (5 : Int32)) => ?_) (fun (hc0 : ¬ ((g 12 3) < (5 : Int32))) => ?_)
  · refine q_step 3 28 [(0, .ref 11), (1, .int st)] [.int (24 : Int32), .int (0 : Int32), .ref 11] g u (fun big n0 => sg_lo_6 big n0 g u st) ?_
    by_cases hc1 : t_er (g 10) s p (0 : Int32) (24 : Int32) = 0
    · obtain ⟨g1, q1, f1, t1, i1⟩ := c_numk (g := g) u ht hc1
      refine q_call (M2 := 24) (rest := []) (q1) (fun _ _ => rfl) ?_
      refine q_step 3 34 [(0, .ref 11), (1, .int st), (2, .int (t_va (g 10) s p))] [.int (t_va (g 10) s p), .ref 11] g1 u (fun big n0 => sg_lo_7 big n0 g1 u st (t_va (g 10) s p)) ?_
      by_cases hc2 : s_bit (r 73 20) (t_va (g 10) s p) = 0
      · by_cases hc3 : t_hit (r 73) (t_va (g 10) s p) (t_n r) = 0
        · refine q_call (M2 := 27) (rest := []) (c_rtk_0 u (hd.f9 f1) hn t1.2.2.2.2.2 hc2 hc3) (fun _ _ => rfl) ?_
          refine q_step 3 40 [(0, .ref 11), (1, .int st), (2, .int (t_va (g 10) s p))] [.int (3 : Int32), .int (0 : Int32), .ref 11] g1 u (fun big n0 => sg_lo_8 big n0 g1 u st (t_va (g 10) s p)) ?_
          by_cases hc4 : t_er (g 10) s (t_pl (g 10) s p) (0 : Int32) (3 : Int32) = 0
          · obtain ⟨g2, q2, f2, t2, i2⟩ := c_numk (g := g1) u t1 hc4
            refine q_call (M2 := 24) (rest := []) (q2) (fun _ _ => rfl) ?_
            refine q_step 6 51 [(0, .ref 11), (1, .int st), (2, .int (t_va (g 10) s p)), (3, .int (t_va (g 10) s (t_pl (g 10) s p)))] [.int st, .int (t_va (g 10) s (t_pl (g 10) s p)), .int (t_va (g 10) s p), .ref 12] g2 u (fun big n0 => sg_lo_9 big n0 g2 u st (t_va (g 10) s p) (t_va (g 10) s (t_pl (g 10) s p))) ?_
            refine q_call (M2 := 32) (rest := []) (b_add12 (n := t_n r) (t_va (g 10) s p) (t_va (g 10) s (t_pl (g 10) s p)) st g2 u (((hd.f9 f1).f9 f2).1.2.2.2.1.trans hn.1) hn.2.1) (fun _ _ => rfl) ?_
            refine q_ret 1 (none, (q_up (q_up (q_up (q_up g2 13 (t_n r) (t_va (g 10) s p)) 14 (t_n r) (t_va (g 10) s (t_pl (g 10) s p))) 15 (t_n r) st) 12 3 ((g2 12 3) + 1)), u) (fun _ _ => rfl) ?_
            unfold o_one
            have hlt : r 70 8 < 5 := h8 ▸ hc0
            rw [if_pos hlt, o_free]
            rw [o_num, if_pos hc1]
            rw [if_pos hc2]
            rw [if_pos hc3]
            rw [o_num, if_pos hc4]
            exact ⟨_, rfl, k_pc_ok (((((((k_ft_rfl g).trans f1.ft).trans f2.ft).up (by omega)).up (by omega)).up (by omega)).up (by omega)) t2.2.2.2.2.2 t2.2.2.2.1 t2.2.2.2.2.1 (((hd.f9 f1).f9 f2).hc.one hn.hc (k_n5 hn hlt))⟩
          · obtain ⟨g2, q2, f2, x2, y2⟩ := c_nume (g := g1) u t1 hc4
            refine q_call (M2 := 24) (rest := []) (q2) (fun _ _ => rfl) ?_
            refine q_step 6 51 [(0, .ref 11), (1, .int st), (2, .int (t_va (g 10) s p)), (3, .int (0 : Int32))] [.int st, .int (0 : Int32), .int (t_va (g 10) s p), .ref 12] g2 u (fun big n0 => sg_lo_10 big n0 g2 u st (t_va (g 10) s p)) ?_
            refine q_call (M2 := 32) (rest := []) (b_add12 (n := t_n r) (t_va (g 10) s p) (0 : Int32) st g2 u (((hd.f9 f1).f9 f2).1.2.2.2.1.trans hn.1) hn.2.1) (fun _ _ => rfl) ?_
            refine q_ret 1 (none, (q_up (q_up (q_up (q_up g2 13 (t_n r) (t_va (g 10) s p)) 14 (t_n r) (0 : Int32)) 15 (t_n r) st) 12 3 ((g2 12 3) + 1)), u) (fun _ _ => rfl) ?_
            unfold o_one
            have hlt : r 70 8 < 5 := h8 ▸ hc0
            rw [if_pos hlt, o_free]
            rw [o_num, if_pos hc1]
            rw [if_pos hc2]
            rw [if_pos hc3]
            rw [o_num, if_neg hc4]
            exact ⟨_, rfl, k_pc_bad (((((((k_ft_rfl g).trans f1.ft).trans f2.ft).up (by omega)).up (by omega)).up (by omega)).up (by omega)) hc4 x2 y2⟩
        · refine q_call (M2 := 27) (rest := []) (c_rtk_2 u (hd.f9 f1) hn t1.2.2.2.2.2 hc2 hc3) (fun _ _ => rfl) ?_
          refine q_step 3 40 [(0, .ref 11), (1, .int st), (2, .int (t_va (g 10) s p))] [.int (3 : Int32), .int (0 : Int32), .ref 11] (q_up (q_up g1 11 2 (4 : Int32)) 11 3 (g1 9 3)) u (fun big n0 => sg_lo_8 big n0 (q_up (q_up g1 11 2 (4 : Int32)) 11 3 (g1 9 3)) u st (t_va (g 10) s p)) ?_
          refine q_call (M2 := 24) (rest := []) (c_numf (0 : Int32) (3 : Int32) _ _ (show ¬ (4 : Int32) = 0 from (by decide))) (fun _ _ => rfl) ?_
          refine q_step 6 51 [(0, .ref 11), (1, .int st), (2, .int (t_va (g 10) s p)), (3, .int (0 : Int32))] [.int st, .int (0 : Int32), .int (t_va (g 10) s p), .ref 12] (q_up (q_up g1 11 2 (4 : Int32)) 11 3 (g1 9 3)) u (fun big n0 => sg_lo_10 big n0 (q_up (q_up g1 11 2 (4 : Int32)) 11 3 (g1 9 3)) u st (t_va (g 10) s p)) ?_
          refine q_call (M2 := 32) (rest := []) (b_add12 (n := t_n r) (t_va (g 10) s p) (0 : Int32) st (q_up (q_up g1 11 2 (4 : Int32)) 11 3 (g1 9 3)) u ((((hd.f9 f1).e2).e3).1.2.2.2.1.trans hn.1) hn.2.1) (fun _ _ => rfl) ?_
          refine q_ret 1 (none, (q_up (q_up (q_up (q_up (q_up (q_up g1 11 2 (4 : Int32)) 11 3 (g1 9 3)) 13 (t_n r) (t_va (g 10) s p)) 14 (t_n r) (0 : Int32)) 15 (t_n r) st) 12 3 ((g1 12 3) + 1)), u) (fun _ _ => rfl) ?_
          unfold o_one
          have hlt : r 70 8 < 5 := h8 ▸ hc0
          rw [if_pos hlt, o_free]
          rw [o_num, if_pos hc1]
          rw [if_pos hc2]
          rw [if_neg hc3]
          exact ⟨_, rfl, k_pc_bad ((((((((k_ft_rfl g).trans f1.ft).up (by omega)).up (by omega)).up (by omega)).up (by omega)).up (by omega)).up (by omega)) (by decide) rfl i1⟩
      · refine q_call (M2 := 27) (rest := []) (c_rtk_1 u (hd.f9 f1) hn t1.2.2.2.2.2 hc2) (fun _ _ => rfl) ?_
        refine q_step 3 40 [(0, .ref 11), (1, .int st), (2, .int (t_va (g 10) s p))] [.int (3 : Int32), .int (0 : Int32), .ref 11] (q_up (q_up g1 11 2 (4 : Int32)) 11 3 (g1 9 3)) u (fun big n0 => sg_lo_8 big n0 (q_up (q_up g1 11 2 (4 : Int32)) 11 3 (g1 9 3)) u st (t_va (g 10) s p)) ?_
        refine q_call (M2 := 24) (rest := []) (c_numf (0 : Int32) (3 : Int32) _ _ (show ¬ (4 : Int32) = 0 from (by decide))) (fun _ _ => rfl) ?_
        refine q_step 6 51 [(0, .ref 11), (1, .int st), (2, .int (t_va (g 10) s p)), (3, .int (0 : Int32))] [.int st, .int (0 : Int32), .int (t_va (g 10) s p), .ref 12] (q_up (q_up g1 11 2 (4 : Int32)) 11 3 (g1 9 3)) u (fun big n0 => sg_lo_10 big n0 (q_up (q_up g1 11 2 (4 : Int32)) 11 3 (g1 9 3)) u st (t_va (g 10) s p)) ?_
        refine q_call (M2 := 32) (rest := []) (b_add12 (n := t_n r) (t_va (g 10) s p) (0 : Int32) st (q_up (q_up g1 11 2 (4 : Int32)) 11 3 (g1 9 3)) u ((((hd.f9 f1).e2).e3).1.2.2.2.1.trans hn.1) hn.2.1) (fun _ _ => rfl) ?_
        refine q_ret 1 (none, (q_up (q_up (q_up (q_up (q_up (q_up g1 11 2 (4 : Int32)) 11 3 (g1 9 3)) 13 (t_n r) (t_va (g 10) s p)) 14 (t_n r) (0 : Int32)) 15 (t_n r) st) 12 3 ((g1 12 3) + 1)), u) (fun _ _ => rfl) ?_
        unfold o_one
        have hlt : r 70 8 < 5 := h8 ▸ hc0
        rw [if_pos hlt, o_free]
        rw [o_num, if_pos hc1]
        rw [if_neg hc2]
        exact ⟨_, rfl, k_pc_bad ((((((((k_ft_rfl g).trans f1.ft).up (by omega)).up (by omega)).up (by omega)).up (by omega)).up (by omega)).up (by omega)) (by decide) rfl i1⟩
    · obtain ⟨g1, q1, f1, x1, y1⟩ := c_nume (g := g) u ht hc1
      refine q_call (M2 := 24) (rest := []) (q1) (fun _ _ => rfl) ?_
      refine q_step 3 34 [(0, .ref 11), (1, .int st), (2, .int (0 : Int32))] [.int (0 : Int32), .ref 11] g1 u (fun big n0 => sg_lo_11 big n0 g1 u st) ?_
      refine q_call (M2 := 27) (rest := []) (b_rtk_f _ _ _ (show ¬ (g1 11 2) = 0 from (by rw [x1]; exact hc1))) (fun _ _ => rfl) ?_
      refine q_step 3 40 [(0, .ref 11), (1, .int st), (2, .int (0 : Int32))] [.int (3 : Int32), .int (0 : Int32), .ref 11] g1 u (fun big n0 => sg_lo_12 big n0 g1 u st) ?_
      refine q_call (M2 := 24) (rest := []) (c_numf (0 : Int32) (3 : Int32) _ _ (show ¬ (g1 11 2) = 0 from (by rw [x1]; exact hc1))) (fun _ _ => rfl) ?_
      refine q_step 6 51 [(0, .ref 11), (1, .int st), (2, .int (0 : Int32)), (3, .int (0 : Int32))] [.int st, .int (0 : Int32), .int (0 : Int32), .ref 12] g1 u (fun big n0 => sg_lo_13 big n0 g1 u st) ?_
      refine q_call (M2 := 32) (rest := []) (b_add12 (n := t_n r) (0 : Int32) (0 : Int32) st g1 u ((hd.f9 f1).1.2.2.2.1.trans hn.1) hn.2.1) (fun _ _ => rfl) ?_
      refine q_ret 1 (none, (q_up (q_up (q_up (q_up g1 13 (t_n r) (0 : Int32)) 14 (t_n r) (0 : Int32)) 15 (t_n r) st) 12 3 ((g1 12 3) + 1)), u) (fun _ _ => rfl) ?_
      unfold o_one
      have hlt : r 70 8 < 5 := h8 ▸ hc0
      rw [if_pos hlt, o_free]
      rw [o_num, if_neg hc1]
      exact ⟨_, rfl, k_pc_bad ((((((k_ft_rfl g).trans f1.ft).up (by omega)).up (by omega)).up (by omega)).up (by omega)) hc1 x1 y1⟩
  · refine q_step 5 20 [(0, .ref 11), (1, .int st)] [.int (g 9 3), .int (5 : Int32), .ref 11] g u (fun big n0 => sg_lo_14 big n0 g u st) ?_
    refine q_call (M2 := 20) (rest := []) (b_refuse _ _ _ _) (fun _ _ => rfl) ?_
    refine q_ret 1 (none, (q_up (q_up g 11 2 (5 : Int32)) 11 3 (g 9 3)), u) (fun _ _ => rfl) ?_
    unfold o_one
    rw [if_neg (fun z => hc0 (h8.symm ▸ z))]
    exact ⟨_, rfl, k_pc_bad (((k_ft_rfl g).up (by omega)).up (by omega)) (by decide) rfl hf⟩
theorem c_lgoal {s f p : Nat} {r : qM} (g : qM) (u : qW) (hc : k_cc s f p r g) : ∃ R, q_BS 35 [.ref 11] g u R ∧ ∃ g', R = (none, g', u) ∧ k_pc s (o_goal (g 10) s p r) g g' := by
  refine q_bs (mm := m_35) rfl (Nat.le_of_ble_eq_true rfl) rfl ?_
  have ht := k_tk.of hc
  obtain ⟨⟨hs, h160, hp5, hp, h2, hf⟩, hd, hn⟩ := hc
  have h8 : g 12 3 = r 70 8 := hd.1.2.2.2.1
  refine q_step 3 3 [(0, .ref 11)] [.int (4 : Int32), .int (0 : Int32), .ref 11] g u (fun big n0 => sg_lo_15 big n0 g u) ?_
  by_cases hc0 : t_er (g 10) s p (0 : Int32) (4 : Int32) = 0
  · obtain ⟨g1, q1, f1, t1, i1⟩ := c_numk (g := g) u ht hc0
    refine q_call (M2 := 24) (rest := []) (q1) (fun _ _ => rfl) ?_
    refine q_step 3 11 [(0, .ref 11), (1, .int (t_va (g 10) s p))] [.int (g1 11 2)] g1 u (fun big n0 => sg_lo_16 big n0 g1 u (t_va (g 10) s p)) ?_
    refine q_if_ne rfl (fun (hc1 : (g1 11 2) = 0) => ?_) (fun hc1 => absurd (show (g1 11 2) = 0 from t1.2.2.2.2.2) hc1)
    refine q_step 4 22 [(0, .ref 11), (1, .int (t_va (g 10) s p))] [.int (t_va (g 10) s p), .ref 16] g1 u (fun big n0 => sg_lo_17 big n0 g1 u (t_va (g 10) s p)) ?_
    refine q_iald (j := (Int.toNat (Int32.toInt (t_va (g 10) s p)))) (k_ix4 (t_er_rng hc0)) rfl rfl ?_
    refine q_step 1 25 [(0, .ref 11), (1, .int (t_va (g 10) s p))] [.int (Int8.toInt32 (Int8.ofInt (-4))), .int (g1 16 (Int.toNat (Int32.toInt (t_va (g 10) s p))))] g1 u (fun big n0 => sg_lo_18 big n0 g1 u (t_va (g 10) s p) (g1 16 (Int.toNat (Int32.toInt (t_va (g 10) s p))))) ?_
    refine q_ic_eq rfl (fun (hc2 : (g1 16 (Int.toNat (Int32.toInt (t_va (g 10) s p)))) = (Int8.toInt32 (Int8.ofInt (-4)))) => ?_) (fun (hc2 : ¬ ((g1 16 (Int.toNat (Int32.toInt (t_va (g 10) s p)))) = (Int8.toInt32 (Int8.ofInt (-4))))) => ?_)
    · refine q_step 3 44 [(0, .ref 11), (1, .int (t_va (g 10) s p))] [.int (24 : Int32), .int (0 : Int32), .ref 11] g1 u (fun big n0 => sg_lo_19 big n0 g1 u (t_va (g 10) s p)) ?_
      by_cases hc3 : t_er (g 10) s (t_pl (g 10) s p) (0 : Int32) (24 : Int32) = 0
      · obtain ⟨g2, q2, f2, t2, i2⟩ := c_numk (g := g1) u t1 hc3
        refine q_call (M2 := 24) (rest := []) (q2) (fun _ _ => rfl) ?_
        refine q_step 3 52 [(0, .ref 11), (1, .int (t_va (g 10) s p)), (2, .int (t_va (g 10) s (t_pl (g 10) s p)))] [.int (g2 11 2)] g2 u (fun big n0 => sg_lo_20 big n0 g2 u (t_va (g 10) s p) (t_va (g 10) s (t_pl (g 10) s p))) ?_
        refine q_if_ne rfl (fun (hc4 : (g2 11 2) = 0) => ?_) (fun hc4 => absurd (show (g2 11 2) = 0 from t2.2.2.2.2.2) hc4)
        refine q_step 5 64 [(0, .ref 11), (1, .int (t_va (g 10) s p)), (2, .int (t_va (g 10) s (t_pl (g 10) s p)))] [.int (t_va (g 10) s (t_pl (g 10) s p)), .int (t_va (g 10) s p), .ref 16] g2 u (fun big n0 => sg_lo_21 big n0 g2 u (t_va (g 10) s p) (t_va (g 10) s (t_pl (g 10) s p))) ?_
        refine q_iast (j := (Int.toNat (Int32.toInt (t_va (g 10) s p)))) (k_ix4 (t_er_rng hc0)) rfl rfl ?_
        refine q_ret 1 (none, (q_up g2 16 (Int.toNat (Int32.toInt (t_va (g 10) s p))) (t_va (g 10) s (t_pl (g 10) s p))), u) (fun _ _ => rfl) ?_
        unfold o_goal
        rw [o_num, if_pos hc0]
        have eg : g1 16 (Int.toNat (Int32.toInt (t_va (g 10) s p))) = r 73 (15 + (Int32.toInt (t_va (g 10) s p)).toNat) := (hd.f9 f1).2.2.2.1 _ (by have := (k_v4 (t_er_rng hc0)).2; omega)
        rw [if_pos (show r 73 (15 + (Int32.toInt (t_va (g 10) s p)).toNat) = Int32.ofInt (-4) from eg.symm.trans hc2)]
        rw [o_num, if_pos hc3]
        exact ⟨_, rfl, k_pc_ok ((((k_ft_rfl g).trans f1.ft).trans f2.ft).up (by omega)) t2.2.2.2.2.2 t2.2.2.2.1 t2.2.2.2.2.1 (((hd.f9 f1).f9 f2).goal hn (k_v4 (t_er_rng hc0)).2)⟩
      · obtain ⟨g2, q2, f2, x2, y2⟩ := c_nume (g := g1) u t1 hc3
        refine q_call (M2 := 24) (rest := []) (q2) (fun _ _ => rfl) ?_
        refine q_step 3 52 [(0, .ref 11), (1, .int (t_va (g 10) s p)), (2, .int (0 : Int32))] [.int (g2 11 2)] g2 u (fun big n0 => sg_lo_22 big n0 g2 u (t_va (g 10) s p)) ?_
        refine q_if_ne rfl (fun hc4 => absurd (show (g2 11 2) = 0 from hc4) ((by rw [x2]; exact hc3))) (fun (hc4 : ¬ ((g2 11 2) = 0)) => ?_)
        refine q_ret 1 (none, g2, u) (fun _ _ => rfl) ?_
        unfold o_goal
        rw [o_num, if_pos hc0]
        have eg : g1 16 (Int.toNat (Int32.toInt (t_va (g 10) s p))) = r 73 (15 + (Int32.toInt (t_va (g 10) s p)).toNat) := (hd.f9 f1).2.2.2.1 _ (by have := (k_v4 (t_er_rng hc0)).2; omega)
        rw [if_pos (show r 73 (15 + (Int32.toInt (t_va (g 10) s p)).toNat) = Int32.ofInt (-4) from eg.symm.trans hc2)]
        rw [o_num, if_neg hc3]
        exact ⟨_, rfl, k_pc_bad (((k_ft_rfl g).trans f1.ft).trans f2.ft) hc3 x2 y2⟩
    · refine q_step 5 37 [(0, .ref 11), (1, .int (t_va (g 10) s p))] [.int (g1 9 3), .int (4 : Int32), .ref 11] g1 u (fun big n0 => sg_lo_23 big n0 g1 u (t_va (g 10) s p)) ?_
      refine q_call (M2 := 20) (rest := []) (b_refuse _ _ _ _) (fun _ _ => rfl) ?_
      refine q_step 3 44 [(0, .ref 11), (1, .int (t_va (g 10) s p))] [.int (24 : Int32), .int (0 : Int32), .ref 11] (q_up (q_up g1 11 2 (4 : Int32)) 11 3 (g1 9 3)) u (fun big n0 => sg_lo_19 big n0 (q_up (q_up g1 11 2 (4 : Int32)) 11 3 (g1 9 3)) u (t_va (g 10) s p)) ?_
      refine q_call (M2 := 24) (rest := []) (c_numf (0 : Int32) (24 : Int32) _ _ (show ¬ (4 : Int32) = 0 from (by decide))) (fun _ _ => rfl) ?_
      refine q_step 3 52 [(0, .ref 11), (1, .int (t_va (g 10) s p)), (2, .int (0 : Int32))] [.int (4 : Int32)] (q_up (q_up g1 11 2 (4 : Int32)) 11 3 (g1 9 3)) u (fun big n0 => sg_lo_22 big n0 (q_up (q_up g1 11 2 (4 : Int32)) 11 3 (g1 9 3)) u (t_va (g 10) s p)) ?_
      refine q_if_ne rfl (fun hc3 => absurd (show (4 : Int32) = 0 from hc3) ((by decide))) (fun (hc3 : ¬ ((4 : Int32) = 0)) => ?_)
      refine q_ret 1 (none, (q_up (q_up g1 11 2 (4 : Int32)) 11 3 (g1 9 3)), u) (fun _ _ => rfl) ?_
      unfold o_goal
      rw [o_num, if_pos hc0]
      have eg : g1 16 (Int.toNat (Int32.toInt (t_va (g 10) s p))) = r 73 (15 + (Int32.toInt (t_va (g 10) s p)).toNat) := (hd.f9 f1).2.2.2.1 _ (by have := (k_v4 (t_er_rng hc0)).2; omega)
      rw [if_neg (show ¬ r 73 (15 + (Int32.toInt (t_va (g 10) s p)).toNat) = Int32.ofInt (-4) from fun z => hc2 (eg.trans z))]
      exact ⟨_, rfl, k_pc_bad ((((k_ft_rfl g).trans f1.ft).up (by omega)).up (by omega)) (by decide) rfl i1⟩
  · obtain ⟨g1, q1, f1, x1, y1⟩ := c_nume (g := g) u ht hc0
    refine q_call (M2 := 24) (rest := []) (q1) (fun _ _ => rfl) ?_
    refine q_step 3 11 [(0, .ref 11), (1, .int (0 : Int32))] [.int (g1 11 2)] g1 u (fun big n0 => sg_lo_24 big n0 g1 u) ?_
    refine q_if_ne rfl (fun hc1 => absurd (show (g1 11 2) = 0 from hc1) ((by rw [x1]; exact hc0))) (fun (hc1 : ¬ ((g1 11 2) = 0)) => ?_)
    refine q_step 3 44 [(0, .ref 11), (1, .int (0 : Int32))] [.int (24 : Int32), .int (0 : Int32), .ref 11] g1 u (fun big n0 => sg_lo_25 big n0 g1 u) ?_
    refine q_call (M2 := 24) (rest := []) (c_numf (0 : Int32) (24 : Int32) _ _ (show ¬ (g1 11 2) = 0 from (by rw [x1]; exact hc0))) (fun _ _ => rfl) ?_
    refine q_step 3 52 [(0, .ref 11), (1, .int (0 : Int32)), (2, .int (0 : Int32))] [.int (g1 11 2)] g1 u (fun big n0 => sg_lo_26 big n0 g1 u) ?_
    refine q_if_ne rfl (fun hc2 => absurd (show (g1 11 2) = 0 from hc2) ((by rw [x1]; exact hc0))) (fun (hc2 : ¬ ((g1 11 2) = 0)) => ?_)
    refine q_ret 1 (none, g1, u) (fun _ _ => rfl) ?_
    unfold o_goal
    rw [o_num, if_neg hc0]
    exact ⟨_, rfl, k_pc_bad ((k_ft_rfl g).trans f1.ft) hc0 x1 y1⟩
