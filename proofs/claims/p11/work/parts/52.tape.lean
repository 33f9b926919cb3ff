section
theorem sg_tp_1 (big : Nat → List Value → qM → qW → qR) (n0 : Nat) (G : qM) (U : qW) (v0 : Int32) : qm_run pm_m big m_11 (n0 + 5) 0 [(0, .ref 9), (1, .int v0)] [] G U = qm_run pm_m big m_11 n0 9 [(0, .ref 9), (1, .int v0)] [.int (160 : Int32), .int (G 9 1)] G U := rfl
theorem sg_tp_2 (big : Nat → List Value → qM → qW → qR) (n0 : Nat) (G : qM) (U : qW) (v0 : Int32) : qm_run pm_m big m_11 (n0 + 6) 14 [(0, .ref 9), (1, .int v0)] [] G U = qm_run pm_m big m_11 n0 24 [(0, .ref 9), (1, .int v0)] [.int (Int8.toInt32 (Int32.toInt8 v0)), .int (G 9 1), .ref 10] G U := rfl
theorem sg_tp_3 (big : Nat → List Value → qM → qW → qR) (n0 : Nat) (G : qM) (U : qW) (v0 : Int32) : qm_run pm_m big m_10 (n0 + 1) 0 [(0, .ref 8), (1, .int v0)] [] G U = qm_run pm_m big m_10 n0 1 [(0, .ref 8), (1, .int v0)] [.int v0] G U := rfl
theorem sg_tp_4 (big : Nat → List Value → qM → qW → qR) (n0 : Nat) (G : qM) (U : qW) (v0 : Int32) : qm_run pm_m big m_10 (n0 + 2) 4 [(0, .ref 8), (1, .int v0)] [] G U = qm_run pm_m big m_10 n0 7 [(0, .ref 8), (1, .int v0)] [.int (127 : Int32), .int v0] G U := rfl
theorem sg_tp_5 (big : Nat → List Value → qM → qW → qR) (n0 : Nat) (G : qM) (U : qW) (v0 : Int32) : qm_run pm_m big m_10 (n0 + 3) 12 [(0, .ref 8), (1, .int v0)] [] G U = qm_run pm_m big m_10 n0 17 [(0, .ref 8), (1, .int v0)] [.int v0, .ref 9] G U := rfl
theorem sg_tp_6 (big : Nat → List Value → qM → qW → qR) (n0 : Nat) (G : qM) (U : qW) (v0 : Int32) : qm_run pm_m big m_12 (n0 + 5) 0 [(0, .ref 8), (1, .int v0)] [] G U = qm_run pm_m big m_12 n0 9 [(0, .ref 8), (1, .int v0), (2, .int (G 9 1))] [.int v0] G U := rfl
theorem sg_tp_7 (big : Nat → List Value → qM → qW → qR) (n0 : Nat) (G : qM) (U : qW) (v0 : Int32) (v1 : Int32) : qm_run pm_m big m_12 (n0 + 2) 12 [(0, .ref 8), (1, .int v0), (2, .int v1)] [] G U = qm_run pm_m big m_12 n0 14 [(0, .ref 8), (1, .int v0), (2, .int v1)] [.int v1, .int v0] G U := rfl
theorem sg_tp_8 (big : Nat → List Value → qM → qW → qR) (n0 : Nat) (G : qM) (U : qW) (v0 : Int32) : qm_run pm_m big m_148 (n0 + 4) 0 [(0, .ref 70), (1, .int v0)] [] G U = qm_run pm_m big m_148 n0 6 [(0, .ref 70), (1, .int v0)] [.long (127 : Int64), .long (0 : Int64), .long (Int32.toInt64 v0)] G U := rfl
theorem sg_tp_9 (big : Nat → List Value → qM → qW → qR) (n0 : Nat) (G : qM) (U : qW) (v0 : Int32) : qm_run pm_m big m_148 (n0 + 3) 14 [(0, .ref 70), (1, .int v0)] [] G U = qm_run pm_m big m_148 n0 21 [(0, .ref 70), (1, .int v0)] [.int (160 : Int32), .int (G 70 13)] G U := rfl
theorem sg_tp_10 (big : Nat → List Value → qM → qW → qR) (n0 : Nat) (G : qM) (U : qW) (v0 : Int32) : qm_run pm_m big m_148 (n0 + 5) 27 [(0, .ref 70), (1, .int v0)] [] G U = qm_run pm_m big m_148 n0 36 [(0, .ref 70), (1, .int v0)] [.int v0, .int (G 70 13), .ref 74] G U := rfl
theorem sg_tp_11 (big : Nat → List Value → qM → qW → qR) (n0 : Nat) (G : qM) (U : qW) (v0 : Int32) : qm_run pm_m big m_150 (n0 + 6) 0 [(0, .ref 70), (1, .int v0)] [] G U = qm_run pm_m big m_150 n0 8 [(0, .ref 70), (1, .int v0)] [.long (Int32.toInt64 (G 70 13)), .long (0 : Int64), .long (Int32.toInt64 v0)] G U := rfl
theorem s_ixs {x : Int32} {s : Nat} (hx : x = Int32.ofNat s) (hs : s ≤ 160) (h : x < 160) : q_ix x s 160 := by
  rw [hx] at h ⊢
  have h1 := Int32.lt_iff_toInt_lt.mp h
  have e : (160 : Int32).toInt = 160 := rfl
  rw [q_nat (by omega)] at h1
  exact q_ixn (by omega) (by omega)
theorem s_ixr {x : Int32} {s : Nat} (hx : x = Int32.ofNat s) (hs : s ≤ 160) (h : ¬ x = 160) : q_ix x s 160 := by
  rw [hx] at h ⊢
  have h1 : s ≠ 160 := fun z => h (by rw [z]; rfl)
  exact q_ixn (by omega) (by omega)
def d_append (x : Int32) (s : Nat) (g : qM) (u : qW) : Option Value × qM × qW := (if (g 9 1) < (160 : Int32) then (some (.int (1 : Int32)), (q_up (q_up g 10 s (Int8.toInt32 (Int32.toInt8 (Int8.toInt32 (Int32.toInt8 x))))) 9 1 ((g 9 1) + (1 : Int32))), u) else (some (.int (0 : Int32)), g, u))
theorem b_append (x : Int32) (s : Nat) (g : qM) (u : qW) (hx : g 9 1 = Int32.ofNat s) (hs : s ≤ 160) : q_BS 11 [.ref 9, .int x] g u (d_append x s g u) := by
  refine q_bx (mm := m_11) rfl (Nat.le_of_ble_eq_true rfl) rfl ?_
  refine q_step 5 9 [(0, .ref 9), (1, .int x)] [.int (160 : Int32), .int (g 9 1)] g u (fun big n0 => sg_tp_1 big n0 g u x) ?_
  refine q_ic_lt rfl (fun (hc0 : (g 9 1) < (160 : Int32)) => ?_) (fun (hc0 : ¬ ((g 9 1) < (160 : Int32))) => ?_)
  · refine q_step 6 24 [(0, .ref 9), (1, .int x)] [.int (Int8.toInt32 (Int32.toInt8 x)), .int (g 9 1), .ref 10] g u (fun big n0 => sg_tp_2 big n0 g u x) ?_
    refine q_bast1 (j := s) (s_ixs hx hs (by assumption)) rfl rfl ?_
    refine q_ret 8 (some (.int (1 : Int32)), (q_up (q_up g 10 s (Int8.toInt32 (Int32.toInt8 (Int8.toInt32 (Int32.toInt8 x))))) 9 1 ((g 9 1) + (1 : Int32))), u) (fun _ _ => rfl) ?_
    unfold d_append
    rw [if_pos hc0]
  · refine q_ret 2 (some (.int (0 : Int32)), g, u) (fun _ _ => rfl) ?_
    unfold d_append
    rw [if_neg hc0]
def d_feed (x : Int32) (s : Nat) (g : qM) (u : qW) : Option Value × qM × qW := (if x < 0 then (some (.int (Int32.ofInt (-1))), g, u) else (if x ≤ (127 : Int32) then (if (g 9 1) < (160 : Int32) then (some (.int ((q_up (q_up g 10 s (Int8.toInt32 (Int32.toInt8 (Int8.toInt32 (Int32.toInt8 x))))) 9 1 ((g 9 1) + (1 : Int32))) 9 1)), (q_up (q_up g 10 s (Int8.toInt32 (Int32.toInt8 (Int8.toInt32 (Int32.toInt8 x))))) 9 1 ((g 9 1) + (1 : Int32))), u) else (some (.int (Int8.toInt32 (Int8.ofInt (-3)))), g, u)) else (some (.int (Int32.ofInt (-1))), g, u)))
theorem b_feed (x : Int32) (s : Nat) (g : qM) (u : qW) (hx : g 9 1 = Int32.ofNat s) (hs : s ≤ 160) : q_BS 10 [.ref 8, .int x] g u (d_feed x s g u) := by
  refine q_bx (mm := m_10) rfl (Nat.le_of_ble_eq_true rfl) rfl ?_
  refine q_step 1 1 [(0, .ref 8), (1, .int x)] [.int x] g u (fun big n0 => sg_tp_3 big n0 g u x) ?_
  refine q_if_lt rfl (fun (hc0 : x < 0) => ?_) (fun (hc0 : ¬ (x < 0)) => ?_)
  · refine q_ret 2 (some (.int (Int32.ofInt (-1))), g, u) (fun _ _ => rfl) ?_
    unfold d_feed
    rw [if_pos hc0]
  · refine q_step 2 7 [(0, .ref 8), (1, .int x)] [.int (127 : Int32), .int x] g u (fun big n0 => sg_tp_4 big n0 g u x) ?_
    refine q_ic_le rfl (fun (hc1 : x ≤ (127 : Int32)) => ?_) (fun (hc1 : ¬ (x ≤ (127 : Int32))) => ?_)
    · refine q_step 3 17 [(0, .ref 8), (1, .int x)] [.int x, .ref 9] g u (fun big n0 => sg_tp_5 big n0 g u x) ?_
      by_cases hc2 : (g 9 1) < (160 : Int32)
      · refine q_call (M2 := 11) (rest := []) (show q_BS 11 [.ref 9, .int x] g u (some (.int 1), (q_up (q_up g 10 s (Int8.toInt32 (Int32.toInt8 (Int8.toInt32 (Int32.toInt8 x))))) 9 1 ((g 9 1) + (1 : Int32))), u) from by have e := b_append x s g u hx hs; unfold d_append at e; rw [if_pos hc2] at e; exact e) (fun _ _ => rfl) ?_
        refine q_ret 6 (some (.int ((q_up (q_up g 10 s (Int8.toInt32 (Int32.toInt8 (Int8.toInt32 (Int32.toInt8 x))))) 9 1 ((g 9 1) + (1 : Int32))) 9 1)), (q_up (q_up g 10 s (Int8.toInt32 (Int32.toInt8 (Int8.toInt32 (Int32.toInt8 x))))) 9 1 ((g 9 1) + (1 : Int32))), u) (fun _ _ => rfl) ?_
        unfold d_feed
        rw [if_neg hc0, if_pos hc1, if_pos hc2]
      · refine q_call (M2 := 11) (rest := []) (show q_BS 11 [.ref 9, .int x] g u (some (.int 0), g, u) from by have e := b_append x s g u hx hs; unfold d_append at e; rw [if_neg hc2] at e; exact e) (fun _ _ => rfl) ?_
        refine q_ret 3 (some (.int (Int8.toInt32 (Int8.ofInt (-3)))), g, u) (fun _ _ => rfl) ?_
        unfold d_feed
        rw [if_neg hc0, if_pos hc1, if_neg hc2]
    · refine q_ret 2 (some (.int (Int32.ofInt (-1))), g, u) (fun _ _ => rfl) ?_
      unfold d_feed
      rw [if_neg hc0, if_neg hc1]
def d_end (x : Int32) (g : qM) (u : qW) : Option Value × qM × qW := (if x < 0 then (some (.int (Int32.ofInt (-1))), g, u) else (if x ≤ (g 9 1) then (some (.int (g 9 1)), (q_up g 9 1 x), u) else (some (.int (Int32.ofInt (-1))), g, u)))
theorem b_end (x : Int32) (g : qM) (u : qW) : q_BS 12 [.ref 8, .int x] g u (d_end x g u) := by
  refine q_bx (mm := m_12) rfl (Nat.le_of_ble_eq_true rfl) rfl ?_
  refine q_step 5 9 [(0, .ref 8), (1, .int x), (2, .int (g 9 1))] [.int x] g u (fun big n0 => sg_tp_6 big n0 g u x) ?_
  refine q_if_lt rfl (fun (hc0 : x < 0) => ?_) (fun (hc0 : ¬ (x < 0)) => ?_)
  · refine q_ret 2 (some (.int (Int32.ofInt (-1))), g, u) (fun _ _ => rfl) ?_
    unfold d_end
    rw [if_pos hc0]
  · refine q_step 2 14 [(0, .ref 8), (1, .int x), (2, .int (g 9 1))] [.int (g 9 1), .int x] g u (fun big n0 => sg_tp_7 big n0 g u x (g 9 1)) ?_
    refine q_ic_le rfl (fun (hc1 : x ≤ (g 9 1)) => ?_) (fun (hc1 : ¬ (x ≤ (g 9 1))) => ?_)
    · refine q_ret 6 (some (.int (g 9 1)), (q_up g 9 1 x), u) (fun _ _ => rfl) ?_
      unfold d_end
      rw [if_neg hc0, if_pos hc1]
    · refine q_ret 2 (some (.int (Int32.ofInt (-1))), g, u) (fun _ _ => rfl) ?_
      unfold d_end
      rw [if_neg hc0, if_neg hc1]
def d_rfeed (x : Int32) (s : Nat) (g : qM) (u : qW) : Option Value × qM × qW := (if (s_in (Int32.toInt64 x) (0 : Int64) (127 : Int64)) = 0 then (some (.int (Int32.ofInt (-1))), g, u) else (if (g 70 13) = (160 : Int32) then (some (.int (Int8.toInt32 (Int8.ofInt (-3)))), g, u) else (some (.int ((g 70 13) + (1 : Int32))), (q_up (q_up g 74 s x) 70 13 ((g 70 13) + (1 : Int32))), u)))
theorem b_rfeed (x : Int32) (s : Nat) (g : qM) (u : qW) (hx : g 70 13 = Int32.ofNat s) (hs : s ≤ 160) : q_BS 148 [.ref 70, .int x] g u (d_rfeed x s g u) := by
  refine q_bx (mm := m_148) rfl (Nat.le_of_ble_eq_true rfl) rfl ?_
  refine q_step 4 6 [(0, .ref 70), (1, .int x)] [.long (127 : Int64), .long (0 : Int64), .long (Int32.toInt64 x)] g u (fun big n0 => sg_tp_8 big n0 g u x) ?_
  refine q_call (M2 := 149) (rest := []) (b_in _ _ _ _ _) (fun _ _ => rfl) ?_
  refine q_if_ne rfl (fun (hc0 : (s_in (Int32.toInt64 x) (0 : Int64) (127 : Int64)) = 0) => ?_) (fun (hc0 : ¬ ((s_in (Int32.toInt64 x) (0 : Int64) (127 : Int64)) = 0)) => ?_)
  · refine q_ret 2 (some (.int (Int32.ofInt (-1))), g, u) (fun _ _ => rfl) ?_
    unfold d_rfeed
    rw [if_pos hc0]
  · refine q_step 3 21 [(0, .ref 70), (1, .int x)] [.int (160 : Int32), .int (g 70 13)] g u (fun big n0 => sg_tp_9 big n0 g u x) ?_
    refine q_ic_ne rfl (fun (hc1 : (g 70 13) = (160 : Int32)) => ?_) (fun (hc1 : ¬ ((g 70 13) = (160 : Int32))) => ?_)
    · refine q_ret 2 (some (.int (Int8.toInt32 (Int8.ofInt (-3)))), g, u) (fun _ _ => rfl) ?_
      unfold d_rfeed
      rw [if_neg hc0, if_pos hc1]
    · refine q_step 5 36 [(0, .ref 70), (1, .int x)] [.int x, .int (g 70 13), .ref 74] g u (fun big n0 => sg_tp_10 big n0 g u x) ?_
      refine q_iast (j := s) (s_ixr hx hs (by assumption)) rfl rfl ?_
      refine q_ret 9 (some (.int ((g 70 13) + (1 : Int32))), (q_up (q_up g 74 s x) 70 13 ((g 70 13) + (1 : Int32))), u) (fun _ _ => rfl) ?_
      unfold d_rfeed
      rw [if_neg hc0, if_neg hc1]
def d_rend (x : Int32) (g : qM) (u : qW) : Option Value × qM × qW := (if (s_in (Int32.toInt64 x) (0 : Int64) (Int32.toInt64 (g 70 13))) = 0 then (some (.int (Int32.ofInt (-1))), g, u) else (some (.int (g 70 13)), (q_up g 70 13 x), u))
theorem b_rend (x : Int32) (g : qM) (u : qW) : q_BS 150 [.ref 70, .int x] g u (d_rend x g u) := by
  refine q_bx (mm := m_150) rfl (Nat.le_of_ble_eq_true rfl) rfl ?_
  refine q_step 6 8 [(0, .ref 70), (1, .int x)] [.long (Int32.toInt64 (g 70 13)), .long (0 : Int64), .long (Int32.toInt64 x)] g u (fun big n0 => sg_tp_11 big n0 g u x) ?_
  refine q_call (M2 := 149) (rest := []) (b_in _ _ _ _ _) (fun _ _ => rfl) ?_
  refine q_if_ne rfl (fun (hc0 : (s_in (Int32.toInt64 x) (0 : Int64) (Int32.toInt64 (g 70 13))) = 0) => ?_) (fun (hc0 : ¬ ((s_in (Int32.toInt64 x) (0 : Int64) (Int32.toInt64 (g 70 13))) = 0)) => ?_)
  · refine q_ret 2 (some (.int (Int32.ofInt (-1))), g, u) (fun _ _ => rfl) ?_
    unfold d_rend
    rw [if_pos hc0]
  · refine q_ret 8 (some (.int (g 70 13)), (q_up g 70 13 x), u) (fun _ _ => rfl) ?_
    unfold d_rend
    rw [if_neg hc0]
end
section
theorem sg_sh_1 (big : Nat → List Value → qM → qW → qR) (n0 : Nat) (G : qM) (U : qW) (v0 : Int32) (v1 : Int32) : qm_run pm_m big m_6 (n0 + 2) 5 [(0, .ref 63), (1, .int v0), (2, .int v1), (3, .int (40 : Int32))] [] G U = qm_run pm_m big m_6 n0 7 [(0, .ref 63), (1, .int v0), (2, .int v1), (3, .int (40 : Int32))] [.int (40 : Int32), .int v1] G U := rfl
theorem sg_sh_2 (big : Nat → List Value → qM → qW → qR) (n0 : Nat) (G : qM) (U : qW) (v0 : Int32) (v1 : Int32) : qm_run pm_m big m_6 (n0 + 3) 10 [(0, .ref 63), (1, .int v0), (2, .int v1), (3, .int (40 : Int32))] [] G U = qm_run pm_m big m_6 n0 13 [(0, .ref 63), (1, .int v0), (2, .int v1), (3, .int (40 : Int32))] [.int v0, .int v1, .ref 63] G U := rfl
theorem sg_sh_3 (big : Nat → List Value → qM → qW → qR) (n0 : Nat) (G : qM) (U : qW) (v0 : Int32) (v1 : Int32) : qm_run pm_m big m_6 (n0 + 2) 14 [(0, .ref 63), (1, .int v0), (2, .int v1), (3, .int (40 : Int32))] [] G U = qm_run pm_m big m_6 n0 5 [(0, .ref 63), (1, .int v0), (2, .int (v1 + (1 : Int32))), (3, .int (40 : Int32))] [] G U := rfl
theorem sg_sh_4 (big : Nat → List Value → qM → qW → qR) (n0 : Nat) (G : qM) (U : qW) (v0 : Int32) : qm_run pm_m big m_6 (n0 + 5) 0 [(0, .ref 63), (1, .int v0)] [] G U = qm_run pm_m big m_6 n0 5 [(0, .ref 63), (1, .int v0), (2, .int (0 : Int32)), (3, .int (40 : Int32))] [] G U := rfl
theorem sg_sh_5 (big : Nat → List Value → qM → qW → qR) (n0 : Nat) (G : qM) (U : qW) (v0 : Int32) (v1 : Int32) : qm_run pm_m big m_6 (n0 + 2) 5 [(0, .ref 65), (1, .int v0), (2, .int v1), (3, .int (40 : Int32))] [] G U = qm_run pm_m big m_6 n0 7 [(0, .ref 65), (1, .int v0), (2, .int v1), (3, .int (40 : Int32))] [.int (40 : Int32), .int v1] G U := rfl
theorem sg_sh_6 (big : Nat → List Value → qM → qW → qR) (n0 : Nat) (G : qM) (U : qW) (v0 : Int32) (v1 : Int32) : qm_run pm_m big m_6 (n0 + 3) 10 [(0, .ref 65), (1, .int v0), (2, .int v1), (3, .int (40 : Int32))] [] G U = qm_run pm_m big m_6 n0 13 [(0, .ref 65), (1, .int v0), (2, .int v1), (3, .int (40 : Int32))] [.int v0, .int v1, .ref 65] G U := rfl
theorem sg_sh_7 (big : Nat → List Value → qM → qW → qR) (n0 : Nat) (G : qM) (U : qW) (v0 : Int32) (v1 : Int32) : qm_run pm_m big m_6 (n0 + 2) 14 [(0, .ref 65), (1, .int v0), (2, .int v1), (3, .int (40 : Int32))] [] G U = qm_run pm_m big m_6 n0 5 [(0, .ref 65), (1, .int v0), (2, .int (v1 + (1 : Int32))), (3, .int (40 : Int32))] [] G U := rfl
theorem sg_sh_8 (big : Nat → List Value → qM → qW → qR) (n0 : Nat) (G : qM) (U : qW) (v0 : Int32) : qm_run pm_m big m_6 (n0 + 5) 0 [(0, .ref 65), (1, .int v0)] [] G U = qm_run pm_m big m_6 n0 5 [(0, .ref 65), (1, .int v0), (2, .int (0 : Int32)), (3, .int (40 : Int32))] [] G U := rfl
theorem sg_sh_9 (big : Nat → List Value → qM → qW → qR) (n0 : Nat) (G : qM) (U : qW) (v0 : Int32) (v1 : Int32) : qm_run pm_m big m_6 (n0 + 2) 5 [(0, .ref 67), (1, .int v0), (2, .int v1), (3, .int (40 : Int32))] [] G U = qm_run pm_m big m_6 n0 7 [(0, .ref 67), (1, .int v0), (2, .int v1), (3, .int (40 : Int32))] [.int (40 : Int32), .int v1] G U := rfl
theorem sg_sh_10 (big : Nat → List Value → qM → qW → qR) (n0 : Nat) (G : qM) (U : qW) (v0 : Int32) (v1 : Int32) : qm_run pm_m big m_6 (n0 + 3) 10 [(0, .ref 67), (1, .int v0), (2, .int v1), (3, .int (40 : Int32))] [] G U = qm_run pm_m big m_6 n0 13 [(0, .ref 67), (1, .int v0), (2, .int v1), (3, .int (40 : Int32))] [.int v0, .int v1, .ref 67] G U := rfl
theorem sg_sh_11 (big : Nat → List Value → qM → qW → qR) (n0 : Nat) (G : qM) (U : qW) (v0 : Int32) (v1 : Int32) : qm_run pm_m big m_6 (n0 + 2) 14 [(0, .ref 67), (1, .int v0), (2, .int v1), (3, .int (40 : Int32))] [] G U = qm_run pm_m big m_6 n0 5 [(0, .ref 67), (1, .int v0), (2, .int (v1 + (1 : Int32))), (3, .int (40 : Int32))] [] G U := rfl
theorem sg_sh_12 (big : Nat → List Value → qM → qW → qR) (n0 : Nat) (G : qM) (U : qW) (v0 : Int32) : qm_run pm_m big m_6 (n0 + 5) 0 [(0, .ref 67), (1, .int v0)] [] G U = qm_run pm_m big m_6 n0 5 [(0, .ref 67), (1, .int v0), (2, .int (0 : Int32)), (3, .int (40 : Int32))] [] G U := rfl
theorem sg_sh_13 (big : Nat → List Value → qM → qW → qR) (n0 : Nat) (G : qM) (U : qW) (v0 : Int32) (v1 : Int32) : qm_run pm_m big m_6 (n0 + 2) 5 [(0, .ref 69), (1, .int v0), (2, .int v1), (3, .int (40 : Int32))] [] G U = qm_run pm_m big m_6 n0 7 [(0, .ref 69), (1, .int v0), (2, .int v1), (3, .int (40 : Int32))] [.int (40 : Int32), .int v1] G U := rfl
theorem sg_sh_14 (big : Nat → List Value → qM → qW → qR) (n0 : Nat) (G : qM) (U : qW) (v0 : Int32) (v1 : Int32) : qm_run pm_m big m_6 (n0 + 3) 10 [(0, .ref 69), (1, .int v0), (2, .int v1), (3, .int (40 : Int32))] [] G U = qm_run pm_m big m_6 n0 13 [(0, .ref 69), (1, .int v0), (2, .int v1), (3, .int (40 : Int32))] [.int v0, .int v1, .ref 69] G U := rfl
theorem sg_sh_15 (big : Nat → List Value → qM → qW → qR) (n0 : Nat) (G : qM) (U : qW) (v0 : Int32) (v1 : Int32) : qm_run pm_m big m_6 (n0 + 2) 14 [(0, .ref 69), (1, .int v0), (2, .int v1), (3, .int (40 : Int32))] [] G U = qm_run pm_m big m_6 n0 5 [(0, .ref 69), (1, .int v0), (2, .int (v1 + (1 : Int32))), (3, .int (40 : Int32))] [] G U := rfl
theorem sg_sh_16 (big : Nat → List Value → qM → qW → qR) (n0 : Nat) (G : qM) (U : qW) (v0 : Int32) : qm_run pm_m big m_6 (n0 + 5) 0 [(0, .ref 69), (1, .int v0)] [] G U = qm_run pm_m big m_6 n0 5 [(0, .ref 69), (1, .int v0), (2, .int (0 : Int32)), (3, .int (40 : Int32))] [] G U := rfl
theorem sg_sh_17 (big : Nat → List Value → qM → qW → qR) (n0 : Nat) (G : qM) (U : qW) (v0 : Int32) (v1 : Int32) : qm_run pm_m big m_6 (n0 + 2) 5 [(0, .ref 16), (1, .int v0), (2, .int v1), (3, .int (6 : Int32))] [] G U = qm_run pm_m big m_6 n0 7 [(0, .ref 16), (1, .int v0), (2, .int v1), (3, .int (6 : Int32))] [.int (6 : Int32), .int v1] G U := rfl
theorem sg_sh_18 (big : Nat → List Value → qM → qW → qR) (n0 : Nat) (G : qM) (U : qW) (v0 : Int32) (v1 : Int32) : qm_run pm_m big m_6 (n0 + 3) 10 [(0, .ref 16), (1, .int v0), (2, .int v1), (3, .int (6 : Int32))] [] G U = qm_run pm_m big m_6 n0 13 [(0, .ref 16), (1, .int v0), (2, .int v1), (3, .int (6 : Int32))] [.int v0, .int v1, .ref 16] G U := rfl
theorem sg_sh_19 (big : Nat → List Value → qM → qW → qR) (n0 : Nat) (G : qM) (U : qW) (v0 : Int32) (v1 : Int32) : qm_run pm_m big m_6 (n0 + 2) 14 [(0, .ref 16), (1, .int v0), (2, .int v1), (3, .int (6 : Int32))] [] G U = qm_run pm_m big m_6 n0 5 [(0, .ref 16), (1, .int v0), (2, .int (v1 + (1 : Int32))), (3, .int (6 : Int32))] [] G U := rfl
theorem sg_sh_20 (big : Nat → List Value → qM → qW → qR) (n0 : Nat) (G : qM) (U : qW) (v0 : Int32) : qm_run pm_m big m_6 (n0 + 5) 0 [(0, .ref 16), (1, .int v0)] [] G U = qm_run pm_m big m_6 n0 5 [(0, .ref 16), (1, .int v0), (2, .int (0 : Int32)), (3, .int (6 : Int32))] [] G U := rfl
theorem sg_sh_21 (big : Nat → List Value → qM → qW → qR) (n0 : Nat) (G : qM) (U : qW) (v0 : Int32) (v1 : Int32) : qm_run pm_m big m_133 (n0 + 9) 0 [(0, .ref 62), (1, .int v0), (2, .int v1)] [] G U = qm_run pm_m big m_133 n0 15 [(0, .ref 62), (1, .int v0), (2, .int v1)] [.int (0 : Int32), .ref 63] (q_up (q_up G 62 2 v0) 62 1 v1) U := rfl
theorem sg_sh_22 (big : Nat → List Value → qM → qW → qR) (n0 : Nat) (G : qM) (U : qW) : qm_run pm_m big m_136 (n0 + 3) 0 [(0, .ref 62)] [] G U = qm_run pm_m big m_136 n0 5 [(0, .ref 62)] [.int (Int32.ofInt (-1)), .int (G 62 1)] G U := rfl
theorem sg_sh_23 (big : Nat → List Value → qM → qW → qR) (n0 : Nat) (G : qM) (U : qW) (v0 : Int32) : qm_run pm_m big m_135 (n0 + 1) 0 [(0, .ref 62), (1, .int v0)] [] G U = qm_run pm_m big m_135 n0 1 [(0, .ref 62), (1, .int v0)] [.ref 62] G U := rfl
theorem sg_sh_24 (big : Nat → List Value → qM → qW → qR) (n0 : Nat) (G : qM) (U : qW) (v0 : Int32) : qm_run pm_m big m_135 (n0 + 1) 9 [(0, .ref 62), (1, .int v0)] [] G U = qm_run pm_m big m_135 n0 10 [(0, .ref 62), (1, .int v0)] [.int v0] G U := rfl
theorem sg_sh_25 (big : Nat → List Value → qM → qW → qR) (n0 : Nat) (G : qM) (U : qW) (v0 : Int32) : qm_run pm_m big m_135 (n0 + 3) 13 [(0, .ref 62), (1, .int v0)] [] G U = qm_run pm_m big m_135 n0 18 [(0, .ref 62), (1, .int v0)] [.int (G 62 1), .int v0] G U := rfl
theorem sg_sh_26 (big : Nat → List Value → qM → qW → qR) (n0 : Nat) (G : qM) (U : qW) (v0 : Int32) : qm_run pm_m big m_139 (n0 + 1) 0 [(0, .ref 62), (1, .int v0)] [] G U = qm_run pm_m big m_139 n0 1 [(0, .ref 62), (1, .int v0)] [.ref 62] G U := rfl
theorem sg_sh_27 (big : Nat → List Value → qM → qW → qR) (n0 : Nat) (G : qM) (U : qW) (v0 : Int32) : qm_run pm_m big m_139 (n0 + 3) 7 [(0, .ref 62), (1, .int v0)] [] G U = qm_run pm_m big m_139 n0 12 [(0, .ref 62), (1, .int v0)] [.int v0, .int (G 62 2)] G U := rfl
theorem sg_sh_28 (big : Nat → List Value → qM → qW → qR) (n0 : Nat) (G : qM) (U : qW) (v0 : Int32) (v1 : Int32) : qm_run pm_m big m_130 (n0 + 1) 0 [(0, .ref 8), (1, .int (0 : Int32)), (2, .int v0), (3, .int v1)] [] G U = qm_run pm_m big m_130 n0 1 [(0, .ref 8), (1, .int (0 : Int32)), (2, .int v0), (3, .int v1)] [.int (0 : Int32)] G U := rfl
theorem sg_sh_29 (big : Nat → List Value → qM → qW → qR) (n0 : Nat) (G : qM) (U : qW) (v0 : Int32) (v1 : Int32) : qm_run pm_m big m_130 (n0 + 2) 4 [(0, .ref 8), (1, .int (0 : Int32)), (2, .int v0), (3, .int v1)] [.int (1 : Int32)] G U = qm_run pm_m big m_130 n0 8 [(0, .ref 8), (1, .int (0 : Int32)), (2, .int v0), (3, .int v1)] [.int v0] G U := rfl
theorem sg_sh_30 (big : Nat → List Value → qM → qW → qR) (n0 : Nat) (G : qM) (U : qW) (v0 : Int32) (v1 : Int32) : qm_run pm_m big m_130 (n0 + 2) 14 [(0, .ref 8), (1, .int (0 : Int32)), (2, .int v0), (3, .int v1)] [] G U = qm_run pm_m big m_130 n0 17 [(0, .ref 8), (1, .int (0 : Int32)), (2, .int v0), (3, .int v1)] [.int (40 : Int32), .int v1] G U := rfl
theorem sg_sh_31 (big : Nat → List Value → qM → qW → qR) (n0 : Nat) (G : qM) (U : qW) (v0 : Int32) (v1 : Int32) : qm_run pm_m big m_130 (n0 + 1) 22 [(0, .ref 8), (1, .int (0 : Int32)), (2, .int v0), (3, .int v1)] [] G U = qm_run pm_m big m_130 n0 23 [(0, .ref 8), (1, .int (0 : Int32)), (2, .int v0), (3, .int v1)] [.int v1] G U := rfl
theorem sg_sh_32 (big : Nat → List Value → qM → qW → qR) (n0 : Nat) (G : qM) (U : qW) (v0 : Int32) (v1 : Int32) : qm_run pm_m big m_130 (n0 + 6) 29 [(0, .ref 8), (1, .int (0 : Int32)), (2, .int v0), (3, .int v1)] [] G U = qm_run pm_m big m_130 n0 37 [(0, .ref 8), (1, .int (0 : Int32)), (2, .int v0), (3, .int v1)] [.int v1, .int v0, .ref 62] G U := rfl
theorem sg_sh_33 (big : Nat → List Value → qM → qW → qR) (n0 : Nat) (G : qM) (U : qW) (v0 : Int32) (v1 : Int32) : qm_run pm_m big m_133 (n0 + 9) 0 [(0, .ref 64), (1, .int v0), (2, .int v1)] [] G U = qm_run pm_m big m_133 n0 15 [(0, .ref 64), (1, .int v0), (2, .int v1)] [.int (0 : Int32), .ref 65] (q_up (q_up G 64 2 v0) 64 1 v1) U := rfl
theorem sg_sh_34 (big : Nat → List Value → qM → qW → qR) (n0 : Nat) (G : qM) (U : qW) : qm_run pm_m big m_136 (n0 + 3) 0 [(0, .ref 64)] [] G U = qm_run pm_m big m_136 n0 5 [(0, .ref 64)] [.int (Int32.ofInt (-1)), .int (G 64 1)] G U := rfl
theorem sg_sh_35 (big : Nat → List Value → qM → qW → qR) (n0 : Nat) (G : qM) (U : qW) (v0 : Int32) : qm_run pm_m big m_135 (n0 + 1) 0 [(0, .ref 64), (1, .int v0)] [] G U = qm_run pm_m big m_135 n0 1 [(0, .ref 64), (1, .int v0)] [.ref 64] G U := rfl
theorem sg_sh_36 (big : Nat → List Value → qM → qW → qR) (n0 : Nat) (G : qM) (U : qW) (v0 : Int32) : qm_run pm_m big m_135 (n0 + 1) 9 [(0, .ref 64), (1, .int v0)] [] G U = qm_run pm_m big m_135 n0 10 [(0, .ref 64), (1, .int v0)] [.int v0] G U := rfl
theorem sg_sh_37 (big : Nat → List Value → qM → qW → qR) (n0 : Nat) (G : qM) (U : qW) (v0 : Int32) : qm_run pm_m big m_135 (n0 + 3) 13 [(0, .ref 64), (1, .int v0)] [] G U = qm_run pm_m big m_135 n0 18 [(0, .ref 64), (1, .int v0)] [.int (G 64 1), .int v0] G U := rfl
theorem sg_sh_38 (big : Nat → List Value → qM → qW → qR) (n0 : Nat) (G : qM) (U : qW) (v0 : Int32) : qm_run pm_m big m_139 (n0 + 1) 0 [(0, .ref 64), (1, .int v0)] [] G U = qm_run pm_m big m_139 n0 1 [(0, .ref 64), (1, .int v0)] [.ref 64] G U := rfl
theorem sg_sh_39 (big : Nat → List Value → qM → qW → qR) (n0 : Nat) (G : qM) (U : qW) (v0 : Int32) : qm_run pm_m big m_139 (n0 + 3) 7 [(0, .ref 64), (1, .int v0)] [] G U = qm_run pm_m big m_139 n0 12 [(0, .ref 64), (1, .int v0)] [.int v0, .int (G 64 2)] G U := rfl
theorem sg_sh_40 (big : Nat → List Value → qM → qW → qR) (n0 : Nat) (G : qM) (U : qW) (v0 : Int32) (v1 : Int32) : qm_run pm_m big m_130 (n0 + 1) 0 [(0, .ref 8), (1, .int (1 : Int32)), (2, .int v0), (3, .int v1)] [] G U = qm_run pm_m big m_130 n0 1 [(0, .ref 8), (1, .int (1 : Int32)), (2, .int v0), (3, .int v1)] [.int (1 : Int32)] G U := rfl
theorem sg_sh_41 (big : Nat → List Value → qM → qW → qR) (n0 : Nat) (G : qM) (U : qW) (v0 : Int32) (v1 : Int32) : qm_run pm_m big m_130 (n0 + 2) 4 [(0, .ref 8), (1, .int (1 : Int32)), (2, .int v0), (3, .int v1)] [.int (1 : Int32)] G U = qm_run pm_m big m_130 n0 8 [(0, .ref 8), (1, .int (1 : Int32)), (2, .int v0), (3, .int v1)] [.int v0] G U := rfl
theorem sg_sh_42 (big : Nat → List Value → qM → qW → qR) (n0 : Nat) (G : qM) (U : qW) (v0 : Int32) (v1 : Int32) : qm_run pm_m big m_130 (n0 + 2) 14 [(0, .ref 8), (1, .int (1 : Int32)), (2, .int v0), (3, .int v1)] [] G U = qm_run pm_m big m_130 n0 17 [(0, .ref 8), (1, .int (1 : Int32)), (2, .int v0), (3, .int v1)] [.int (40 : Int32), .int v1] G U := rfl
theorem sg_sh_43 (big : Nat → List Value → qM → qW → qR) (n0 : Nat) (G : qM) (U : qW) (v0 : Int32) (v1 : Int32) : qm_run pm_m big m_130 (n0 + 1) 22 [(0, .ref 8), (1, .int (1 : Int32)), (2, .int v0), (3, .int v1)] [] G U = qm_run pm_m big m_130 n0 23 [(0, .ref 8), (1, .int (1 : Int32)), (2, .int v0), (3, .int v1)] [.int v1] G U := rfl
theorem sg_sh_44 (big : Nat → List Value → qM → qW → qR) (n0 : Nat) (G : qM) (U : qW) (v0 : Int32) (v1 : Int32) : qm_run pm_m big m_130 (n0 + 6) 29 [(0, .ref 8), (1, .int (1 : Int32)), (2, .int v0), (3, .int v1)] [] G U = qm_run pm_m big m_130 n0 37 [(0, .ref 8), (1, .int (1 : Int32)), (2, .int v0), (3, .int v1)] [.int v1, .int v0, .ref 64] G U := rfl
theorem sg_sh_45 (big : Nat → List Value → qM → qW → qR) (n0 : Nat) (G : qM) (U : qW) (v0 : Int32) (v1 : Int32) : qm_run pm_m big m_133 (n0 + 9) 0 [(0, .ref 66), (1, .int v0), (2, .int v1)] [] G U = qm_run pm_m big m_133 n0 15 [(0, .ref 66), (1, .int v0), (2, .int v1)] [.int (0 : Int32), .ref 67] (q_up (q_up G 66 2 v0) 66 1 v1) U := rfl
theorem sg_sh_46 (big : Nat → List Value → qM → qW → qR) (n0 : Nat) (G : qM) (U : qW) : qm_run pm_m big m_136 (n0 + 3) 0 [(0, .ref 66)] [] G U = qm_run pm_m big m_136 n0 5 [(0, .ref 66)] [.int (Int32.ofInt (-1)), .int (G 66 1)] G U := rfl
theorem sg_sh_47 (big : Nat → List Value → qM → qW → qR) (n0 : Nat) (G : qM) (U : qW) (v0 : Int32) : qm_run pm_m big m_135 (n0 + 1) 0 [(0, .ref 66), (1, .int v0)] [] G U = qm_run pm_m big m_135 n0 1 [(0, .ref 66), (1, .int v0)] [.ref 66] G U := rfl
theorem sg_sh_48 (big : Nat → List Value → qM → qW → qR) (n0 : Nat) (G : qM) (U : qW) (v0 : Int32) : qm_run pm_m big m_135 (n0 + 1) 9 [(0, .ref 66), (1, .int v0)] [] G U = qm_run pm_m big m_135 n0 10 [(0, .ref 66), (1, .int v0)] [.int v0] G U := rfl
theorem sg_sh_49 (big : Nat → List Value → qM → qW → qR) (n0 : Nat) (G : qM) (U : qW) (v0 : Int32) : qm_run pm_m big m_135 (n0 + 3) 13 [(0, .ref 66), (1, .int v0)] [] G U = qm_run pm_m big m_135 n0 18 [(0, .ref 66), (1, .int v0)] [.int (G 66 1), .int v0] G U := rfl
theorem sg_sh_50 (big : Nat → List Value → qM → qW → qR) (n0 : Nat) (G : qM) (U : qW) (v0 : Int32) : qm_run pm_m big m_139 (n0 + 1) 0 [(0, .ref 66), (1, .int v0)] [] G U = qm_run pm_m big m_139 n0 1 [(0, .ref 66), (1, .int v0)] [.ref 66] G U := rfl
theorem sg_sh_51 (big : Nat → List Value → qM → qW → qR) (n0 : Nat) (G : qM) (U : qW) (v0 : Int32) : qm_run pm_m big m_139 (n0 + 3) 7 [(0, .ref 66), (1, .int v0)] [] G U = qm_run pm_m big m_139 n0 12 [(0, .ref 66), (1, .int v0)] [.int v0, .int (G 66 2)] G U := rfl
theorem sg_sh_52 (big : Nat → List Value → qM → qW → qR) (n0 : Nat) (G : qM) (U : qW) (v0 : Int32) (v1 : Int32) : qm_run pm_m big m_130 (n0 + 1) 0 [(0, .ref 8), (1, .int (2 : Int32)), (2, .int v0), (3, .int v1)] [] G U = qm_run pm_m big m_130 n0 1 [(0, .ref 8), (1, .int (2 : Int32)), (2, .int v0), (3, .int v1)] [.int (2 : Int32)] G U := rfl
theorem sg_sh_53 (big : Nat → List Value → qM → qW → qR) (n0 : Nat) (G : qM) (U : qW) (v0 : Int32) (v1 : Int32) : qm_run pm_m big m_130 (n0 + 2) 4 [(0, .ref 8), (1, .int (2 : Int32)), (2, .int v0), (3, .int v1)] [.int (1 : Int32)] G U = qm_run pm_m big m_130 n0 8 [(0, .ref 8), (1, .int (2 : Int32)), (2, .int v0), (3, .int v1)] [.int v0] G U := rfl
theorem sg_sh_54 (big : Nat → List Value → qM → qW → qR) (n0 : Nat) (G : qM) (U : qW) (v0 : Int32) (v1 : Int32) : qm_run pm_m big m_130 (n0 + 2) 14 [(0, .ref 8), (1, .int (2 : Int32)), (2, .int v0), (3, .int v1)] [] G U = qm_run pm_m big m_130 n0 17 [(0, .ref 8), (1, .int (2 : Int32)), (2, .int v0), (3, .int v1)] [.int (40 : Int32), .int v1] G U := rfl
theorem sg_sh_55 (big : Nat → List Value → qM → qW → qR) (n0 : Nat) (G : qM) (U : qW) (v0 : Int32) (v1 : Int32) : qm_run pm_m big m_130 (n0 + 1) 22 [(0, .ref 8), (1, .int (2 : Int32)), (2, .int v0), (3, .int v1)] [] G U = qm_run pm_m big m_130 n0 23 [(0, .ref 8), (1, .int (2 : Int32)), (2, .int v0), (3, .int v1)] [.int v1] G U := rfl
theorem sg_sh_56 (big : Nat → List Value → qM → qW → qR) (n0 : Nat) (G : qM) (U : qW) (v0 : Int32) (v1 : Int32) : qm_run pm_m big m_130 (n0 + 6) 29 [(0, .ref 8), (1, .int (2 : Int32)), (2, .int v0), (3, .int v1)] [] G U = qm_run pm_m big m_130 n0 37 [(0, .ref 8), (1, .int (2 : Int32)), (2, .int v0), (3, .int v1)] [.int v1, .int v0, .ref 66] G U := rfl
theorem sg_sh_57 (big : Nat → List Value → qM → qW → qR) (n0 : Nat) (G : qM) (U : qW) (v0 : Int32) (v1 : Int32) : qm_run pm_m big m_133 (n0 + 9) 0 [(0, .ref 68), (1, .int v0), (2, .int v1)] [] G U = qm_run pm_m big m_133 n0 15 [(0, .ref 68), (1, .int v0), (2, .int v1)] [.int (0 : Int32), .ref 69] (q_up (q_up G 68 2 v0) 68 1 v1) U := rfl
theorem sg_sh_58 (big : Nat → List Value → qM → qW → qR) (n0 : Nat) (G : qM) (U : qW) : qm_run pm_m big m_136 (n0 + 3) 0 [(0, .ref 68)] [] G U = qm_run pm_m big m_136 n0 5 [(0, .ref 68)] [.int (Int32.ofInt (-1)), .int (G 68 1)] G U := rfl
theorem sg_sh_59 (big : Nat → List Value → qM → qW → qR) (n0 : Nat) (G : qM) (U : qW) (v0 : Int32) : qm_run pm_m big m_135 (n0 + 1) 0 [(0, .ref 68), (1, .int v0)] [] G U = qm_run pm_m big m_135 n0 1 [(0, .ref 68), (1, .int v0)] [.ref 68] G U := rfl
theorem sg_sh_60 (big : Nat → List Value → qM → qW → qR) (n0 : Nat) (G : qM) (U : qW) (v0 : Int32) : qm_run pm_m big m_135 (n0 + 1) 9 [(0, .ref 68), (1, .int v0)] [] G U = qm_run pm_m big m_135 n0 10 [(0, .ref 68), (1, .int v0)] [.int v0] G U := rfl
theorem sg_sh_61 (big : Nat → List Value → qM → qW → qR) (n0 : Nat) (G : qM) (U : qW) (v0 : Int32) : qm_run pm_m big m_135 (n0 + 3) 13 [(0, .ref 68), (1, .int v0)] [] G U = qm_run pm_m big m_135 n0 18 [(0, .ref 68), (1, .int v0)] [.int (G 68 1), .int v0] G U := rfl
theorem sg_sh_62 (big : Nat → List Value → qM → qW → qR) (n0 : Nat) (G : qM) (U : qW) (v0 : Int32) : qm_run pm_m big m_139 (n0 + 1) 0 [(0, .ref 68), (1, .int v0)] [] G U = qm_run pm_m big m_139 n0 1 [(0, .ref 68), (1, .int v0)] [.ref 68] G U := rfl
theorem sg_sh_63 (big : Nat → List Value → qM → qW → qR) (n0 : Nat) (G : qM) (U : qW) (v0 : Int32) : qm_run pm_m big m_139 (n0 + 3) 7 [(0, .ref 68), (1, .int v0)] [] G U = qm_run pm_m big m_139 n0 12 [(0, .ref 68), (1, .int v0)] [.int v0, .int (G 68 2)] G U := rfl
theorem sg_sh_64 (big : Nat → List Value → qM → qW → qR) (n0 : Nat) (G : qM) (U : qW) (v0 : Int32) (v1 : Int32) : qm_run pm_m big m_130 (n0 + 1) 0 [(0, .ref 8), (1, .int (3 : Int32)), (2, .int v0), (3, .int v1)] [] G U = qm_run pm_m big m_130 n0 1 [(0, .ref 8), (1, .int (3 : Int32)), (2, .int v0), (3, .int v1)] [.int (3 : Int32)] G U := rfl
theorem sg_sh_65 (big : Nat → List Value → qM → qW → qR) (n0 : Nat) (G : qM) (U : qW) (v0 : Int32) (v1 : Int32) : qm_run pm_m big m_130 (n0 + 2) 4 [(0, .ref 8), (1, .int (3 : Int32)), (2, .int v0), (3, .int v1)] [.int (1 : Int32)] G U = qm_run pm_m big m_130 n0 8 [(0, .ref 8), (1, .int (3 : Int32)), (2, .int v0), (3, .int v1)] [.int v0] G U := rfl
theorem sg_sh_66 (big : Nat → List Value → qM → qW → qR) (n0 : Nat) (G : qM) (U : qW) (v0 : Int32) (v1 : Int32) : qm_run pm_m big m_130 (n0 + 2) 14 [(0, .ref 8), (1, .int (3 : Int32)), (2, .int v0), (3, .int v1)] [] G U = qm_run pm_m big m_130 n0 17 [(0, .ref 8), (1, .int (3 : Int32)), (2, .int v0), (3, .int v1)] [.int (40 : Int32), .int v1] G U := rfl
theorem sg_sh_67 (big : Nat → List Value → qM → qW → qR) (n0 : Nat) (G : qM) (U : qW) (v0 : Int32) (v1 : Int32) : qm_run pm_m big m_130 (n0 + 1) 22 [(0, .ref 8), (1, .int (3 : Int32)), (2, .int v0), (3, .int v1)] [] G U = qm_run pm_m big m_130 n0 23 [(0, .ref 8), (1, .int (3 : Int32)), (2, .int v0), (3, .int v1)] [.int v1] G U := rfl
theorem sg_sh_68 (big : Nat → List Value → qM → qW → qR) (n0 : Nat) (G : qM) (U : qW) (v0 : Int32) (v1 : Int32) : qm_run pm_m big m_130 (n0 + 6) 29 [(0, .ref 8), (1, .int (3 : Int32)), (2, .int v0), (3, .int v1)] [] G U = qm_run pm_m big m_130 n0 37 [(0, .ref 8), (1, .int (3 : Int32)), (2, .int v0), (3, .int v1)] [.int v1, .int v0, .ref 68] G U := rfl
theorem fi_63 (u : qW) (v : Int32) (g : qM) : ∀ k i, i + k = 40 → q_EV m_6 5 [(0, .ref 63), (1, .int v), (2, .int (Int32.ofNat i)), (3, .int (40 : Int32))] [] (s_row_ 63 (fun _ => v) i g) u (fun R => R = (none, s_row_ 63 (fun _ => v) 40 g, u)) := by
  intro k
  induction k with
  | zero =>
    intro i hi
    have hi : i = 40 := hi
    refine q_step 2 7 [(0, .ref 63), (1, .int v), (2, .int (Int32.ofNat i)), (3, .int (40 : Int32))] [.int (40 : Int32), .int (Int32.ofNat i)] (s_row_ 63 (fun _ => v) i g) u (fun big n0 => sg_sh_1 big n0 (s_row_ 63 (fun _ => v) i g) u v (Int32.ofNat i)) ?_
    refine q_ic_ge rfl (fun (hc0 : (40 : Int32) ≤ (Int32.ofNat i)) => ?_) (fun hc0 => absurd (show (40 : Int32) ≤ (Int32.ofNat i) from (q_le (i := 40) (j := i) (by omega) (by omega)).mpr (by omega)) hc0)
    refine q_ret 1 (none, (s_row_ 63 (fun _ => v) i g), u) (fun _ _ => rfl) ?_
    have e : i = 40 := by omega
    subst e
    rfl
  | succ k ih =>
    intro i hi
    refine q_step 2 7 [(0, .ref 63), (1, .int v), (2, .int (Int32.ofNat i)), (3, .int (40 : Int32))] [.int (40 : Int32), .int (Int32.ofNat i)] (s_row_ 63 (fun _ => v) i g) u (fun big n0 => sg_sh_1 big n0 (s_row_ 63 (fun _ => v) i g) u v (Int32.ofNat i)) ?_
    refine q_ic_ge rfl (fun hc0 => absurd (show (40 : Int32) ≤ (Int32.ofNat i) from hc0) (fun z => by have z2 := (q_le (i := 40) (j := i) (by omega) (by omega)).mp z; omega)) (fun (hc0 : ¬ ((40 : Int32) ≤ (Int32.ofNat i))) => ?_)
    refine q_step 3 13 [(0, .ref 63), (1, .int v), (2, .int (Int32.ofNat i)), (3, .int (40 : Int32))] [.int v, .int (Int32.ofNat i), .ref 63] (s_row_ 63 (fun _ => v) i g) u (fun big n0 => sg_sh_2 big n0 (s_row_ 63 (fun _ => v) i g) u v (Int32.ofNat i)) ?_
    refine q_iast (j := i) (q_ixn (by omega) (by omega)) rfl rfl ?_
    refine q_step 2 5 [(0, .ref 63), (1, .int v), (2, .int ((Int32.ofNat i) + (1 : Int32))), (3, .int (40 : Int32))] [] (q_up (s_row_ 63 (fun _ => v) i g) 63 i v) u (fun big n0 => sg_sh_3 big n0 (q_up (s_row_ 63 (fun _ => v) i g) 63 i v) u v (Int32.ofNat i)) ?_
    rw [q_succ, show q_up (s_row_ 63 (fun _ => v) i g) 63 i v = s_row_ 63 (fun _ => v) (i + 1) g from s_row_s]
    exact ih (i + 1) (by omega)
theorem b_fill63 (v : Int32) (g : qM) (u : qW) : q_BS 6 [.ref 63, .int v] g u (none, s_row_ 63 (fun _ => v) 40 g, u) := by
  refine q_bx (mm := m_6) rfl (Nat.le_of_ble_eq_true rfl) rfl ?_
  refine q_step 5 5 [(0, .ref 63), (1, .int v), (2, .int (0 : Int32)), (3, .int (40 : Int32))] [] g u (fun big n0 => sg_sh_4 big n0 g u v) ?_
  have e := fi_63 u v g 40 0 (by omega)
  rw [s_row_0] at e
  exact e
theorem fi_65 (u : qW) (v : Int32) (g : qM) : ∀ k i, i + k = 40 → q_EV m_6 5 [(0, .ref 65), (1, .int v), (2, .int (Int32.ofNat i)), (3, .int (40 : Int32))] [] (s_row_ 65 (fun _ => v) i g) u (fun R => R = (none, s_row_ 65 (fun _ => v) 40 g, u)) := by
  intro k
  induction k with
  | zero =>
    intro i hi
    have hi : i = 40 := hi
    refine q_step 2 7 [(0, .ref 65), (1, .int v), (2, .int (Int32.ofNat i)), (3, .int (40 : Int32))] [.int (40 : Int32), .int (Int32.ofNat i)] (s_row_ 65 (fun _ => v) i g) u (fun big n0 => sg_sh_5 big n0 (s_row_ 65 (fun _ => v) i g) u v (Int32.ofNat i)) ?_
    refine q_ic_ge rfl (fun (hc0 : (40 : Int32) ≤ (Int32.ofNat i)) => ?_) (fun hc0 => absurd (show (40 : Int32) ≤ (Int32.ofNat i) from (q_le (i := 40) (j := i) (by omega) (by omega)).mpr (by omega)) hc0)
    refine q_ret 1 (none, (s_row_ 65 (fun _ => v) i g), u) (fun _ _ => rfl) ?_
    have e : i = 40 := by omega
    subst e
    rfl
  | succ k ih =>
    intro i hi
    refine q_step 2 7 [(0, .ref 65), (1, .int v), (2, .int (Int32.ofNat i)), (3, .int (40 : Int32))] [.int (40 : Int32), .int (Int32.ofNat i)] (s_row_ 65 (fun _ => v) i g) u (fun big n0 => sg_sh_5 big n0 (s_row_ 65 (fun _ => v) i g) u v (Int32.ofNat i)) ?_
    refine q_ic_ge rfl (fun hc0 => absurd (show (40 : Int32) ≤ (Int32.ofNat i) from hc0) (fun z => by have z2 := (q_le (i := 40) (j := i) (by omega) (by omega)).mp z; omega)) (fun (hc0 : ¬ ((40 : Int32) ≤ (Int32.ofNat i))) => ?_)
    refine q_step 3 13 [(0, .ref 65), (1, .int v), (2, .int (Int32.ofNat i)), (3, .int (40 : Int32))] [.int v, .int (Int32.ofNat i), .ref 65] (s_row_ 65 (fun _ => v) i g) u (fun big n0 => sg_sh_6 big n0 (s_row_ 65 (fun _ => v) i g) u v (Int32.ofNat i)) ?_
    refine q_iast (j := i) (q_ixn (by omega) (by omega)) rfl rfl ?_
    refine q_step 2 5 [(0, .ref 65), (1, .int v), (2, .int ((Int32.ofNat i) + (1 : Int32))), (3, .int (40 : Int32))] [] (q_up (s_row_ 65 (fun _ => v) i g) 65 i v) u (fun big n0 => sg_sh_7 big n0 (q_up (s_row_ 65 (fun _ => v) i g) 65 i v) u v (Int32.ofNat i)) ?_
    rw [q_succ, show q_up (s_row_ 65 (fun _ => v) i g) 65 i v = s_row_ 65 (fun _ => v) (i + 1) g from s_row_s]
    exact ih (i + 1) (by omega)
theorem b_fill65 (v : Int32) (g : qM) (u : qW) : q_BS 6 [.ref 65, .int v] g u (none, s_row_ 65 (fun _ => v) 40 g, u) := by
  refine q_bx (mm := m_6) rfl (Nat.le_of_ble_eq_true rfl) rfl ?_
  refine q_step 5 5 [(0, .ref 65), (1, .int v), (2, .int (0 : Int32)), (3, .int (40 : Int32))] [] g u (fun big n0 => sg_sh_8 big n0 g u v) ?_
  have e := fi_65 u v g 40 0 (by omega)
  rw [s_row_0] at e
  exact e
theorem fi_67 (u : qW) (v : Int32) (g : qM) : ∀ k i, i + k = 40 → q_EV m_6 5 [(0, .ref 67), (1, .int v), (2, .int (Int32.ofNat i)), (3, .int (40 : Int32))] [] (s_row_ 67 (fun _ => v) i g) u (fun R => R = (none, s_row_ 67 (fun _ => v) 40 g, u)) := by
  intro k
  induction k with
  | zero =>
    intro i hi
    have hi : i = 40 := hi
    refine q_step 2 7 [(0, .ref 67), (1, .int v), (2, .int (Int32.ofNat i)), (3, .int (40 : Int32))] [.int (40 : Int32), .int (Int32.ofNat i)] (s_row_ 67 (fun _ => v) i g) u (fun big n0 => sg_sh_9 big n0 (s_row_ 67 (fun _ => v) i g) u v (Int32.ofNat i)) ?_
    refine q_ic_ge rfl (fun (hc0 : (40 : Int32) ≤ (Int32.ofNat i)) => ?_) (fun hc0 => absurd (show (40 : Int32) ≤ (Int32.ofNat i) from (q_le (i := 40) (j := i) (by omega) (by omega)).mpr (by omega)) hc0)
    refine q_ret 1 (none, (s_row_ 67 (fun _ => v) i g), u) (fun _ _ => rfl) ?_
    have e : i = 40 := by omega
    subst e
    rfl
  | succ k ih =>
    intro i hi
    refine q_step 2 7 [(0, .ref 67), (1, .int v), (2, .int (Int32.ofNat i)), (3, .int (40 : Int32))] [.int (40 : Int32), .int (Int32.ofNat i)] (s_row_ 67 (fun _ => v) i g) u (fun big n0 => sg_sh_9 big n0 (s_row_ 67 (fun _ => v) i g) u v (Int32.ofNat i)) ?_
    refine q_ic_ge rfl (fun hc0 => absurd (show (40 : Int32) ≤ (Int32.ofNat i) from hc0) (fun z => by have z2 := (q_le (i := 40) (j := i) (by omega) (by omega)).mp z; omega)) (fun (hc0 : ¬ ((40 : Int32) ≤ (Int32.ofNat i))) => ?_)
    refine q_step 3 13 [(0, .ref 67), (1, .int v), (2, .int (Int32.ofNat i)), (3, .int (40 : Int32))] [.int v, .int (Int32.ofNat i), .ref 67] (s_row_ 67 (fun _ => v) i g) u (fun big n0 => sg_sh_10 big n0 (s_row_ 67 (fun _ => v) i g) u v (Int32.ofNat i)) ?_
    refine q_iast (j := i) (q_ixn (by omega) (by omega)) rfl rfl ?_
    refine q_step 2 5 [(0, .ref 67), (1, .int v), (2, .int ((Int32.ofNat i) + (1 : Int32))), (3, .int (40 : Int32))] [] (q_up (s_row_ 67 (fun _ => v) i g) 67 i v) u (fun big n0 => sg_sh_11 big n0 (q_up (s_row_ 67 (fun _ => v) i g) 67 i v) u v (Int32.ofNat i)) ?_
    rw [q_succ, show q_up (s_row_ 67 (fun _ => v) i g) 67 i v = s_row_ 67 (fun _ => v) (i + 1) g from s_row_s]
    exact ih (i + 1) (by omega)
theorem b_fill67 (v : Int32) (g : qM) (u : qW) : q_BS 6 [.ref 67, .int v] g u (none, s_row_ 67 (fun _ => v) 40 g, u) := by
  refine q_bx (mm := m_6) rfl (Nat.le_of_ble_eq_true rfl) rfl ?_
  refine q_step 5 5 [(0, .ref 67), (1, .int v), (2, .int (0 : Int32)), (3, .int (40 : Int32))] [] g u (fun big n0 => sg_sh_12 big n0 g u v) ?_
  have e := fi_67 u v g 40 0 (by omega)
  rw [s_row_0] at e
  exact e
theorem fi_69 (u : qW) (v : Int32) (g : qM) : ∀ k i, i + k = 40 → q_EV m_6 5 [(0, .ref 69), (1, .int v), (2, .int (Int32.ofNat i)), (3, .int (40 : Int32))] [] (s_row_ 69 (fun _ => v) i g) u (fun R => R = (none, s_row_ 69 (fun _ => v) 40 g, u)) := by
  intro k
  induction k with
  | zero =>
    intro i hi
    have hi : i = 40 := hi
    refine q_step 2 7 [(0, .ref 69), (1, .int v), (2, .int (Int32.ofNat i)), (3, .int (40 : Int32))] [.int (40 : Int32), .int (Int32.ofNat i)] (s_row_ 69 (fun _ => v) i g) u (fun big n0 => sg_sh_13 big n0 (s_row_ 69 (fun _ => v) i g) u v (Int32.ofNat i)) ?_
    refine q_ic_ge rfl (fun (hc0 : (40 : Int32) ≤ (Int32.ofNat i)) => ?_) (fun hc0 => absurd (show (40 : Int32) ≤ (Int32.ofNat i) from (q_le (i := 40) (j := i) (by omega) (by omega)).mpr (by omega)) hc0)
    refine q_ret 1 (none, (s_row_ 69 (fun _ => v) i g), u) (fun _ _ => rfl) ?_
    have e : i = 40 := by omega
    subst e
    rfl
  | succ k ih =>
    intro i hi
    refine q_step 2 7 [(0, .ref 69), (1, .int v), (2, .int (Int32.ofNat i)), (3, .int (40 : Int32))] [.int (40 : Int32), .int (Int32.ofNat i)] (s_row_ 69 (fun _ => v) i g) u (fun big n0 => sg_sh_13 big n0 (s_row_ 69 (fun _ => v) i g) u v (Int32.ofNat i)) ?_
    refine q_ic_ge rfl (fun hc0 => absurd (show (40 : Int32) ≤ (Int32.ofNat i) from hc0) (fun z => by have z2 := (q_le (i := 40) (j := i) (by omega) (by omega)).mp z; omega)) (fun (hc0 : ¬ ((40 : Int32) ≤ (Int32.ofNat i))) => ?_)
    refine q_step 3 13 [(0, .ref 69), (1, .int v), (2, .int (Int32.ofNat i)), (3, .int (40 : Int32))] [.int v, .int (Int32.ofNat i), .ref 69] (s_row_ 69 (fun _ => v) i g) u (fun big n0 => sg_sh_14 big n0 (s_row_ 69 (fun _ => v) i g) u v (Int32.ofNat i)) ?_
    refine q_iast (j := i) (q_ixn (by omega) (by omega)) rfl rfl ?_
    refine q_step 2 5 [(0, .ref 69), (1, .int v), (2, .int ((Int32.ofNat i) + (1 : Int32))), (3, .int (40 : Int32))] [] (q_up (s_row_ 69 (fun _ => v) i g) 69 i v) u (fun big n0 => sg_sh_15 big n0 (q_up (s_row_ 69 (fun _ => v) i g) 69 i v) u v (Int32.ofNat i)) ?_
    rw [q_succ, show q_up (s_row_ 69 (fun _ => v) i g) 69 i v = s_row_ 69 (fun _ => v) (i + 1) g from s_row_s]
    exact ih (i + 1) (by omega)
theorem b_fill69 (v : Int32) (g : qM) (u : qW) : q_BS 6 [.ref 69, .int v] g u (none, s_row_ 69 (fun _ => v) 40 g, u) := by
  refine q_bx (mm := m_6) rfl (Nat.le_of_ble_eq_true rfl) rfl ?_
  refine q_step 5 5 [(0, .ref 69), (1, .int v), (2, .int (0 : Int32)), (3, .int (40 : Int32))] [] g u (fun big n0 => sg_sh_16 big n0 g u v) ?_
  have e := fi_69 u v g 40 0 (by omega)
  rw [s_row_0] at e
  exact e
theorem fi_16 (u : qW) (v : Int32) (g : qM) : ∀ k i, i + k = 6 → q_EV m_6 5 [(0, .ref 16), (1, .int v), (2, .int (Int32.ofNat i)), (3, .int (6 : Int32))] [] (s_row_ 16 (fun _ => v) i g) u (fun R => R = (none, s_row_ 16 (fun _ => v) 6 g, u)) := by
  intro k
  induction k with
  | zero =>
    intro i hi
    have hi : i = 6 := hi
    refine q_step 2 7 [(0, .ref 16), (1, .int v), (2, .int (Int32.ofNat i)), (3, .int (6 : Int32))] [.int (6 : Int32), .int (Int32.ofNat i)] (s_row_ 16 (fun _ => v) i g) u (fun big n0 => sg_sh_17 big n0 (s_row_ 16 (fun _ => v) i g) u v (Int32.ofNat i)) ?_
    refine q_ic_ge rfl (fun (hc0 : (6 : Int32) ≤ (Int32.ofNat i)) => ?_) (fun hc0 => absurd (show (6 : Int32) ≤ (Int32.ofNat i) from (q_le (i := 6) (j := i) (by omega) (by omega)).mpr (by omega)) hc0)
    refine q_ret 1 (none, (s_row_ 16 (fun _ => v) i g), u) (fun _ _ => rfl) ?_
    have e : i = 6 := by omega
    subst e
    rfl
  | succ k ih =>
    intro i hi
    refine q_step 2 7 [(0, .ref 16), (1, .int v), (2, .int (Int32.ofNat i)), (3, .int (6 : Int32))] [.int (6 : Int32), .int (Int32.ofNat i)] (s_row_ 16 (fun _ => v) i g) u (fun big n0 => sg_sh_17 big n0 (s_row_ 16 (fun _ => v) i g) u v (Int32.ofNat i)) ?_
    refine q_ic_ge rfl (fun hc0 => absurd (show (6 : Int32) ≤ (Int32.ofNat i) from hc0) (fun z => by have z2 := (q_le (i := 6) (j := i) (by omega) (by omega)).mp z; omega)) (fun (hc0 : ¬ ((6 : Int32) ≤ (Int32.ofNat i))) => ?_)
    refine q_step 3 13 [(0, .ref 16), (1, .int v), (2, .int (Int32.ofNat i)), (3, .int (6 : Int32))] [.int v, .int (Int32.ofNat i), .ref 16] (s_row_ 16 (fun _ => v) i g) u (fun big n0 => sg_sh_18 big n0 (s_row_ 16 (fun _ => v) i g) u v (Int32.ofNat i)) ?_
    refine q_iast (j := i) (q_ixn (by omega) (by omega)) rfl rfl ?_
    refine q_step 2 5 [(0, .ref 16), (1, .int v), (2, .int ((Int32.ofNat i) + (1 : Int32))), (3, .int (6 : Int32))] [] (q_up (s_row_ 16 (fun _ => v) i g) 16 i v) u (fun big n0 => sg_sh_19 big n0 (q_up (s_row_ 16 (fun _ => v) i g) 16 i v) u v (Int32.ofNat i)) ?_
    rw [q_succ, show q_up (s_row_ 16 (fun _ => v) i g) 16 i v = s_row_ 16 (fun _ => v) (i + 1) g from s_row_s]
    exact ih (i + 1) (by omega)
theorem b_fill16 (v : Int32) (g : qM) (u : qW) : q_BS 6 [.ref 16, .int v] g u (none, s_row_ 16 (fun _ => v) 6 g, u) := by
  refine q_bx (mm := m_6) rfl (Nat.le_of_ble_eq_true rfl) rfl ?_
  refine q_step 5 5 [(0, .ref 16), (1, .int v), (2, .int (0 : Int32)), (3, .int (6 : Int32))] [] g u (fun big n0 => sg_sh_20 big n0 g u v) ?_
  have e := fi_16 u v g 6 0 (by omega)
  rw [s_row_0] at e
  exact e
def d_renew0 (x : Int32) (y : Int32) (g : qM) (u : qW) : Option Value × qM × qW := (none, (s_row_ 63 (fun _ => (0 : Int32)) 40 (q_up (q_up g 62 2 x) 62 1 y)), u)
theorem b_renew0 (x : Int32) (y : Int32) (g : qM) (u : qW) : q_BS 133 [.ref 62, .int x, .int y] g u (d_renew0 x y g u) := by
  refine q_bx (mm := m_133) rfl (Nat.le_of_ble_eq_true rfl) rfl ?_
  refine q_step 9 15 [(0, .ref 62), (1, .int x), (2, .int y)] [.int (0 : Int32), .ref 63] (q_up (q_up g 62 2 x) 62 1 y) u (fun big n0 => sg_sh_21 big n0 g u x y) ?_
  refine q_call (M2 := 6) (rest := []) (b_fill63 _ _ _) (fun _ _ => rfl) ?_
  refine q_ret 1 (none, (s_row_ 63 (fun _ => (0 : Int32)) 40 (q_up (q_up g 62 2 x) 62 1 y)), u) (fun _ _ => rfl) ?_
  unfold d_renew0
  rfl
def d_isNothing0 (g : qM) : Int32 := (if (g 62 1) = (Int32.ofInt (-1)) then (1 : Int32) else (0 : Int32))
theorem b_isNothing0 (g : qM) (u : qW) : q_BS 136 [.ref 62] g u (some (.int (d_isNothing0 g)), g, u) := by
  refine q_bx (mm := m_136) rfl (Nat.le_of_ble_eq_true rfl) rfl ?_
  refine q_step 3 5 [(0, .ref 62)] [.int (Int32.ofInt (-1)), .int (g 62 1)] g u (fun big n0 => sg_sh_22 big n0 g u) ?_
  refine q_ic_ne rfl (fun (hc0 : (g 62 1) = (Int32.ofInt (-1))) => ?_) (fun (hc0 : ¬ ((g 62 1) = (Int32.ofInt (-1)))) => ?_)
  · refine q_ret 3 (some (.int (1 : Int32)), g, u) (fun _ _ => rfl) ?_
    unfold d_isNothing0
    rw [if_pos hc0]
  · refine q_ret 2 (some (.int (0 : Int32)), g, u) (fun _ _ => rfl) ?_
    unfold d_isNothing0
    rw [if_neg hc0]
def d_faultAt0 (x : Int32) (g : qM) : Int32 := (if (d_isNothing0 g) = 0 then (if x < 0 then (2 : Int32) else (if x < (g 62 1) then (0 : Int32) else (2 : Int32))) else (1 : Int32))
theorem b_faultAt0 (x : Int32) (g : qM) (u : qW) : q_BS 135 [.ref 62, .int x] g u (some (.int (d_faultAt0 x g)), g, u) := by
  refine q_bx (mm := m_135) rfl (Nat.le_of_ble_eq_true rfl) rfl ?_
  refine q_step 1 1 [(0, .ref 62), (1, .int x)] [.ref 62] g u (fun big n0 => sg_sh_23 big n0 g u x) ?_
  refine q_call (M2 := 136) (rest := []) (b_isNothing0 _ _) (fun _ _ => rfl) ?_
  refine q_if_eq rfl (fun (hc0 : (d_isNothing0 g) = 0) => ?_) (fun (hc0 : ¬ ((d_isNothing0 g) = 0)) => ?_)
  · refine q_step 1 10 [(0, .ref 62), (1, .int x)] [.int x] g u (fun big n0 => sg_sh_24 big n0 g u x) ?_
    refine q_if_lt rfl (fun (hc1 : x < 0) => ?_) (fun (hc1 : ¬ (x < 0)) => ?_)
    · refine q_ret 3 (some (.int (2 : Int32)), g, u) (fun _ _ => rfl) ?_
      unfold d_faultAt0
      rw [if_pos hc0, if_pos hc1]
    · refine q_step 3 18 [(0, .ref 62), (1, .int x)] [.int (g 62 1), .int x] g u (fun big n0 => sg_sh_25 big n0 g u x) ?_
      refine q_ic_lt rfl (fun (hc2 : x < (g 62 1)) => ?_) (fun (hc2 : ¬ (x < (g 62 1))) => ?_)
      · refine q_ret 2 (some (.int (0 : Int32)), g, u) (fun _ _ => rfl) ?_
        unfold d_faultAt0
        rw [if_pos hc0, if_neg hc1, if_pos hc2]
      · refine q_ret 3 (some (.int (2 : Int32)), g, u) (fun _ _ => rfl) ?_
        unfold d_faultAt0
        rw [if_pos hc0, if_neg hc1, if_neg hc2]
  · refine q_ret 2 (some (.int (1 : Int32)), g, u) (fun _ _ => rfl) ?_
    unfold d_faultAt0
    rw [if_neg hc0]
def d_faultAs0 (x : Int32) (g : qM) : Int32 := (if (d_isNothing0 g) = 0 then (if (g 62 2) = x then (0 : Int32) else (3 : Int32)) else (0 : Int32))
theorem b_faultAs0 (x : Int32) (g : qM) (u : qW) : q_BS 139 [.ref 62, .int x] g u (some (.int (d_faultAs0 x g)), g, u) := by
  refine q_bx (mm := m_139) rfl (Nat.le_of_ble_eq_true rfl) rfl ?_
  refine q_step 1 1 [(0, .ref 62), (1, .int x)] [.ref 62] g u (fun big n0 => sg_sh_26 big n0 g u x) ?_
  refine q_call (M2 := 136) (rest := []) (b_isNothing0 _ _) (fun _ _ => rfl) ?_
  refine q_if_ne rfl (fun (hc0 : (d_isNothing0 g) = 0) => ?_) (fun (hc0 : ¬ ((d_isNothing0 g) = 0)) => ?_)
  · refine q_step 3 12 [(0, .ref 62), (1, .int x)] [.int x, .int (g 62 2)] g u (fun big n0 => sg_sh_27 big n0 g u x) ?_
    refine q_ic_eq rfl (fun (hc1 : (g 62 2) = x) => ?_) (fun (hc1 : ¬ ((g 62 2) = x)) => ?_)
    · refine q_ret 2 (some (.int (0 : Int32)), g, u) (fun _ _ => rfl) ?_
      unfold d_faultAs0
      rw [if_pos hc0, if_pos hc1]
    · refine q_ret 3 (some (.int (3 : Int32)), g, u) (fun _ _ => rfl) ?_
      unfold d_faultAs0
      rw [if_pos hc0, if_neg hc1]
  · refine q_ret 2 (some (.int (0 : Int32)), g, u) (fun _ _ => rfl) ?_
    unfold d_faultAs0
    rw [if_neg hc0]
def d_sheet0 (x : Int32) (y : Int32) (g : qM) (u : qW) : Option Value × qM × qW := (if (d_isLane x g) = 0 then (some (.int (Int32.ofInt (-1))), g, u) else (if y ≤ (40 : Int32) then (if 0 ≤ y then (some (.int (1 : Int32)), (s_row_ 63 (fun _ => (0 : Int32)) 40 (q_up (q_up g 62 2 x) 62 1 y)), u) else (some (.int (Int8.toInt32 (Int8.ofInt (-14)))), g, u)) else (some (.int (Int32.ofInt (-1))), g, u)))
theorem b_sheet0 (x : Int32) (y : Int32) (g : qM) (u : qW) : q_BS 130 [.ref 8, .int (0 : Int32), .int x, .int y] g u (d_sheet0 x y g u) := by
  refine q_bx (mm := m_130) rfl (Nat.le_of_ble_eq_true rfl) rfl ?_
  refine q_step 1 1 [(0, .ref 8), (1, .int (0 : Int32)), (2, .int x), (3, .int y)] [.int (0 : Int32)] g u (fun big n0 => sg_sh_28 big n0 g u x y) ?_
  refine q_call (M2 := 131) (rest := []) (show q_BS 131 [.int (0 : Int32)] g u (some (.int 1), g, u) from b_isSheet _ g u) (fun _ _ => rfl) ?_
  refine q_step 2 8 [(0, .ref 8), (1, .int (0 : Int32)), (2, .int x), (3, .int y)] [.int x] g u (fun big n0 => sg_sh_29 big n0 g u x y) ?_
  refine q_call (M2 := 132) (rest := []) (b_isLane _ _ _) (fun _ _ => rfl) ?_
  refine q_if_eq rfl (fun (hc0 : (d_isLane x g) = 0) => ?_) (fun (hc0 : ¬ ((d_isLane x g) = 0)) => ?_)
  · refine q_ret 2 (some (.int (Int32.ofInt (-1))), g, u) (fun _ _ => rfl) ?_
    unfold d_sheet0
    rw [if_pos hc0]
  · refine q_step 2 17 [(0, .ref 8), (1, .int (0 : Int32)), (2, .int x), (3, .int y)] [.int (40 : Int32), .int y] g u (fun big n0 => sg_sh_30 big n0 g u x y) ?_
    refine q_ic_le rfl (fun (hc1 : y ≤ (40 : Int32)) => ?_) (fun (hc1 : ¬ (y ≤ (40 : Int32))) => ?_)
    · refine q_step 1 23 [(0, .ref 8), (1, .int (0 : Int32)), (2, .int x), (3, .int y)] [.int y] g u (fun big n0 => sg_sh_31 big n0 g u x y) ?_
      refine q_if_ge rfl (fun (hc2 : 0 ≤ y) => ?_) (fun (hc2 : ¬ (0 ≤ y)) => ?_)
      · refine q_step 6 37 [(0, .ref 8), (1, .int (0 : Int32)), (2, .int x), (3, .int y)] [.int y, .int x, .ref 62] g u (fun big n0 => sg_sh_32 big n0 g u x y) ?_
        refine q_call (M2 := 133) (rest := []) (b_renew0 x y g u) (fun _ _ => rfl) ?_
        refine q_ret 2 (some (.int (1 : Int32)), (s_row_ 63 (fun _ => (0 : Int32)) 40 (q_up (q_up g 62 2 x) 62 1 y)), u) (fun _ _ => rfl) ?_
        unfold d_sheet0
        rw [if_neg hc0, if_pos hc1, if_pos hc2]
      · refine q_ret 2 (some (.int (Int8.toInt32 (Int8.ofInt (-14)))), g, u) (fun _ _ => rfl) ?_
        unfold d_sheet0
        rw [if_neg hc0, if_pos hc1, if_neg hc2]
    · refine q_ret 2 (some (.int (Int32.ofInt (-1))), g, u) (fun _ _ => rfl) ?_
      unfold d_sheet0
      rw [if_neg hc0, if_neg hc1]
def d_renew1 (x : Int32) (y : Int32) (g : qM) (u : qW) : Option Value × qM × qW := (none, (s_row_ 65 (fun _ => (0 : Int32)) 40 (q_up (q_up g 64 2 x) 64 1 y)), u)
theorem b_renew1 (x : Int32) (y : Int32) (g : qM) (u : qW) : q_BS 133 [.ref 64, .int x, .int y] g u (d_renew1 x y g u) := by
  refine q_bx (mm := m_133) rfl (Nat.le_of_ble_eq_true rfl) rfl ?_
  refine q_step 9 15 [(0, .ref 64), (1, .int x), (2, .int y)] [.int (0 : Int32), .ref 65] (q_up (q_up g 64 2 x) 64 1 y) u (fun big n0 => sg_sh_33 big n0 g u x y) ?_
  refine q_call (M2 := 6) (rest := []) (b_fill65 _ _ _) (fun _ _ => rfl) ?_
  refine q_ret 1 (none, (s_row_ 65 (fun _ => (0 : Int32)) 40 (q_up (q_up g 64 2 x) 64 1 y)), u) (fun _ _ => rfl) ?_
  unfold d_renew1
  rfl
def d_isNothing1 (g : qM) : Int32 := (if (g 64 1) = (Int32.ofInt (-1)) then (1 : Int32) else (0 : Int32))
theorem b_isNothing1 (g : qM) (u : qW) : q_BS 136 [.ref 64] g u (some (.int (d_isNothing1 g)), g, u) := by
  refine q_bx (mm := m_136) rfl (Nat.le_of_ble_eq_true rfl) rfl ?_
  refine q_step 3 5 [(0, .ref 64)] [.int (Int32.ofInt (-1)), .int (g 64 1)] g u (fun big n0 => sg_sh_34 big n0 g u) ?_
  refine q_ic_ne rfl (fun (hc0 : (g 64 1) = (Int32.ofInt (-1))) => ?_) (fun (hc0 : ¬ ((g 64 1) = (Int32.ofInt (-1)))) => ?_)
  · refine q_ret 3 (some (.int (1 : Int32)), g, u) (fun _ _ => rfl) ?_
    unfold d_isNothing1
    rw [if_pos hc0]
  · refine q_ret 2 (some (.int (0 : Int32)), g, u) (fun _ _ => rfl) ?_
    unfold d_isNothing1
    rw [if_neg hc0]
def d_faultAt1 (x : Int32) (g : qM) : Int32 := (if (d_isNothing1 g) = 0 then (if x < 0 then (2 : Int32) else (if x < (g 64 1) then (0 : Int32) else (2 : Int32))) else (1 : Int32))
theorem b_faultAt1 (x : Int32) (g : qM) (u : qW) : q_BS 135 [.ref 64, .int x] g u (some (.int (d_faultAt1 x g)), g, u) := by
  refine q_bx (mm := m_135) rfl (Nat.le_of_ble_eq_true rfl) rfl ?_
  refine q_step 1 1 [(0, .ref 64), (1, .int x)] [.ref 64] g u (fun big n0 => sg_sh_35 big n0 g u x) ?_
  refine q_call (M2 := 136) (rest := []) (b_isNothing1 _ _) (fun _ _ => rfl) ?_
  refine q_if_eq rfl (fun (hc0 : (d_isNothing1 g) = 0) => ?_) (fun (hc0 : ¬ ((d_isNothing1 g) = 0)) => ?_)
  · refine q_step 1 10 [(0, .ref 64), (1, .int x)] [.int x] g u (fun big n0 => sg_sh_36 big n0 g u x) ?_
    refine q_if_lt rfl (fun (hc1 : x < 0) => ?_) (fun (hc1 : ¬ (x < 0)) => ?_)
    · refine q_ret 3 (some (.int (2 : Int32)), g, u) (fun _ _ => rfl) ?_
      unfold d_faultAt1
      rw [if_pos hc0, if_pos hc1]
    · refine q_step 3 18 [(0, .ref 64), (1, .int x)] [.int (g 64 1), .int x] g u (fun big n0 => sg_sh_37 big n0 g u x) ?_
      refine q_ic_lt rfl (fun (hc2 : x < (g 64 1)) => ?_) (fun (hc2 : ¬ (x < (g 64 1))) => ?_)
      · refine q_ret 2 (some (.int (0 : Int32)), g, u) (fun _ _ => rfl) ?_
        unfold d_faultAt1
        rw [if_pos hc0, if_neg hc1, if_pos hc2]
      · refine q_ret 3 (some (.int (2 : Int32)), g, u) (fun _ _ => rfl) ?_
        unfold d_faultAt1
        rw [if_pos hc0, if_neg hc1, if_neg hc2]
  · refine q_ret 2 (some (.int (1 : Int32)), g, u) (fun _ _ => rfl) ?_
    unfold d_faultAt1
    rw [if_neg hc0]
def d_faultAs1 (x : Int32) (g : qM) : Int32 := (if (d_isNothing1 g) = 0 then (if (g 64 2) = x then (0 : Int32) else (3 : Int32)) else (0 : Int32))
theorem b_faultAs1 (x : Int32) (g : qM) (u : qW) : q_BS 139 [.ref 64, .int x] g u (some (.int (d_faultAs1 x g)), g, u) := by
  refine q_bx (mm := m_139) rfl (Nat.le_of_ble_eq_true rfl) rfl ?_
  refine q_step 1 1 [(0, .ref 64), (1, .int x)] [.ref 64] g u (fun big n0 => sg_sh_38 big n0 g u x) ?_
  refine q_call (M2 := 136) (rest := []) (b_isNothing1 _ _) (fun _ _ => rfl) ?_
  refine q_if_ne rfl (fun (hc0 : (d_isNothing1 g) = 0) => ?_) (fun (hc0 : ¬ ((d_isNothing1 g) = 0)) => ?_)
  · refine q_step 3 12 [(0, .ref 64), (1, .int x)] [.int x, .int (g 64 2)] g u (fun big n0 => sg_sh_39 big n0 g u x) ?_
    refine q_ic_eq rfl (fun (hc1 : (g 64 2) = x) => ?_) (fun (hc1 : ¬ ((g 64 2) = x)) => ?_)
    · refine q_ret 2 (some (.int (0 : Int32)), g, u) (fun _ _ => rfl) ?_
      unfold d_faultAs1
      rw [if_pos hc0, if_pos hc1]
    · refine q_ret 3 (some (.int (3 : Int32)), g, u) (fun _ _ => rfl) ?_
      unfold d_faultAs1
      rw [if_pos hc0, if_neg hc1]
  · refine q_ret 2 (some (.int (0 : Int32)), g, u) (fun _ _ => rfl) ?_
    unfold d_faultAs1
    rw [if_neg hc0]
def d_sheet1 (x : Int32) (y : Int32) (g : qM) (u : qW) : Option Value × qM × qW := (if (d_isLane x g) = 0 then (some (.int (Int32.ofInt (-1))), g, u) else (if y ≤ (40 : Int32) then (if 0 ≤ y then (some (.int (1 : Int32)), (s_row_ 65 (fun _ => (0 : Int32)) 40 (q_up (q_up g 64 2 x) 64 1 y)), u) else (some (.int (Int8.toInt32 (Int8.ofInt (-14)))), g, u)) else (some (.int (Int32.ofInt (-1))), g, u)))
theorem b_sheet1 (x : Int32) (y : Int32) (g : qM) (u : qW) : q_BS 130 [.ref 8, .int (1 : Int32), .int x, .int y] g u (d_sheet1 x y g u) := by
  refine q_bx (mm := m_130) rfl (Nat.le_of_ble_eq_true rfl) rfl ?_
  refine q_step 1 1 [(0, .ref 8), (1, .int (1 : Int32)), (2, .int x), (3, .int y)] [.int (1 : Int32)] g u (fun big n0 => sg_sh_40 big n0 g u x y) ?_
  refine q_call (M2 := 131) (rest := []) (show q_BS 131 [.int (1 : Int32)] g u (some (.int 1), g, u) from b_isSheet _ g u) (fun _ _ => rfl) ?_
  refine q_step 2 8 [(0, .ref 8), (1, .int (1 : Int32)), (2, .int x), (3, .int y)] [.int x] g u (fun big n0 => sg_sh_41 big n0 g u x y) ?_
  refine q_call (M2 := 132) (rest := []) (b_isLane _ _ _) (fun _ _ => rfl) ?_
  refine q_if_eq rfl (fun (hc0 : (d_isLane x g) = 0) => ?_) (fun (hc0 : ¬ ((d_isLane x g) = 0)) => ?_)
  · refine q_ret 2 (some (.int (Int32.ofInt (-1))), g, u) (fun _ _ => rfl) ?_
    unfold d_sheet1
    rw [if_pos hc0]
  · refine q_step 2 17 [(0, .ref 8), (1, .int (1 : Int32)), (2, .int x), (3, .int y)] [.int (40 : Int32), .int y] g u (fun big n0 => sg_sh_42 big n0 g u x y) ?_
    refine q_ic_le rfl (fun (hc1 : y ≤ (40 : Int32)) => ?_) (fun (hc1 : ¬ (y ≤ (40 : Int32))) => ?_)
    · refine q_step 1 23 [(0, .ref 8), (1, .int (1 : Int32)), (2, .int x), (3, .int y)] [.int y] g u (fun big n0 => sg_sh_43 big n0 g u x y) ?_
      refine q_if_ge rfl (fun (hc2 : 0 ≤ y) => ?_) (fun (hc2 : ¬ (0 ≤ y)) => ?_)
      · refine q_step 6 37 [(0, .ref 8), (1, .int (1 : Int32)), (2, .int x), (3, .int y)] [.int y, .int x, .ref 64] g u (fun big n0 => sg_sh_44 big n0 g u x y) ?_
        refine q_call (M2 := 133) (rest := []) (b_renew1 x y g u) (fun _ _ => rfl) ?_
        refine q_ret 2 (some (.int (1 : Int32)), (s_row_ 65 (fun _ => (0 : Int32)) 40 (q_up (q_up g 64 2 x) 64 1 y)), u) (fun _ _ => rfl) ?_
        unfold d_sheet1
        rw [if_neg hc0, if_pos hc1, if_pos hc2]
      · refine q_ret 2 (some (.int (Int8.toInt32 (Int8.ofInt (-14)))), g, u) (fun _ _ => rfl) ?_
        unfold d_sheet1
        rw [if_neg hc0, if_pos hc1, if_neg hc2]
    · refine q_ret 2 (some (.int (Int32.ofInt (-1))), g, u) (fun _ _ => rfl) ?_
      unfold d_sheet1
      rw [if_neg hc0, if_neg hc1]
def d_renew2 (x : Int32) (y : Int32) (g : qM) (u : qW) : Option Value × qM × qW := (none, (s_row_ 67 (fun _ => (0 : Int32)) 40 (q_up (q_up g 66 2 x) 66 1 y)), u)
theorem b_renew2 (x : Int32) (y : Int32) (g : qM) (u : qW) : q_BS 133 [.ref 66, .int x, .int y] g u (d_renew2 x y g u) := by
  refine q_bx (mm := m_133) rfl (Nat.le_of_ble_eq_true rfl) rfl ?_
  refine q_step 9 15 [(0, .ref 66), (1, .int x), (2, .int y)] [.int (0 : Int32), .ref 67] (q_up (q_up g 66 2 x) 66 1 y) u (fun big n0 => sg_sh_45 big n0 g u x y) ?_
  refine q_call (M2 := 6) (rest := []) (b_fill67 _ _ _) (fun _ _ => rfl) ?_
  refine q_ret 1 (none, (s_row_ 67 (fun _ => (0 : Int32)) 40 (q_up (q_up g 66 2 x) 66 1 y)), u) (fun _ _ => rfl) ?_
  unfold d_renew2
  rfl
def d_isNothing2 (g : qM) : Int32 := (if (g 66 1) = (Int32.ofInt (-1)) then (1 : Int32) else (0 : Int32))
theorem b_isNothing2 (g : qM) (u : qW) : q_BS 136 [.ref 66] g u (some (.int (d_isNothing2 g)), g, u) := by
  refine q_bx (mm := m_136) rfl (Nat.le_of_ble_eq_true rfl) rfl ?_
  refine q_step 3 5 [(0, .ref 66)] [.int (Int32.ofInt (-1)), .int (g 66 1)] g u (fun big n0 => sg_sh_46 big n0 g u) ?_
  refine q_ic_ne rfl (fun (hc0 : (g 66 1) = (Int32.ofInt (-1))) => ?_) (fun (hc0 : ¬ ((g 66 1) = (Int32.ofInt (-1)))) => ?_)
  · refine q_ret 3 (some (.int (1 : Int32)), g, u) (fun _ _ => rfl) ?_
    unfold d_isNothing2
    rw [if_pos hc0]
  · refine q_ret 2 (some (.int (0 : Int32)), g, u) (fun _ _ => rfl) ?_
    unfold d_isNothing2
    rw [if_neg hc0]
def d_faultAt2 (x : Int32) (g : qM) : Int32 := (if (d_isNothing2 g) = 0 then (if x < 0 then (2 : Int32) else (if x < (g 66 1) then (0 : Int32) else (2 : Int32))) else (1 : Int32))
theorem b_faultAt2 (x : Int32) (g : qM) (u : qW) : q_BS 135 [.ref 66, .int x] g u (some (.int (d_faultAt2 x g)), g, u) := by
  refine q_bx (mm := m_135) rfl (Nat.le_of_ble_eq_true rfl) rfl ?_
  refine q_step 1 1 [(0, .ref 66), (1, .int x)] [.ref 66] g u (fun big n0 => sg_sh_47 big n0 g u x) ?_
  refine q_call (M2 := 136) (rest := []) (b_isNothing2 _ _) (fun _ _ => rfl) ?_
  refine q_if_eq rfl (fun (hc0 : (d_isNothing2 g) = 0) => ?_) (fun (hc0 : ¬ ((d_isNothing2 g) = 0)) => ?_)
  · refine q_step 1 10 [(0, .ref 66), (1, .int x)] [.int x] g u (fun big n0 => sg_sh_48 big n0 g u x) ?_
    refine q_if_lt rfl (fun (hc1 : x < 0) => ?_) (fun (hc1 : ¬ (x < 0)) => ?_)
    · refine q_ret 3 (some (.int (2 : Int32)), g, u) (fun _ _ => rfl) ?_
      unfold d_faultAt2
      rw [if_pos hc0, if_pos hc1]
    · refine q_step 3 18 [(0, .ref 66), (1, .int x)] [.int (g 66 1), .int x] g u (fun big n0 => sg_sh_49 big n0 g u x) ?_
      refine q_ic_lt rfl (fun (hc2 : x < (g 66 1)) => ?_) (fun (hc2 : ¬ (x < (g 66 1))) => ?_)
      · refine q_ret 2 (some (.int (0 : Int32)), g, u) (fun _ _ => rfl) ?_
        unfold d_faultAt2
        rw [if_pos hc0, if_neg hc1, if_pos hc2]
      · refine q_ret 3 (some (.int (2 : Int32)), g, u) (fun _ _ => rfl) ?_
        unfold d_faultAt2
        rw [if_pos hc0, if_neg hc1, if_neg hc2]
  · refine q_ret 2 (some (.int (1 : Int32)), g, u) (fun _ _ => rfl) ?_
    unfold d_faultAt2
    rw [if_neg hc0]
def d_faultAs2 (x : Int32) (g : qM) : Int32 := (if (d_isNothing2 g) = 0 then (if (g 66 2) = x then (0 : Int32) else (3 : Int32)) else (0 : Int32))
theorem b_faultAs2 (x : Int32) (g : qM) (u : qW) : q_BS 139 [.ref 66, .int x] g u (some (.int (d_faultAs2 x g)), g, u) := by
  refine q_bx (mm := m_139) rfl (Nat.le_of_ble_eq_true rfl) rfl ?_
  refine q_step 1 1 [(0, .ref 66), (1, .int x)] [.ref 66] g u (fun big n0 => sg_sh_50 big n0 g u x) ?_
  refine q_call (M2 := 136) (rest := []) (b_isNothing2 _ _) (fun _ _ => rfl) ?_
  refine q_if_ne rfl (fun (hc0 : (d_isNothing2 g) = 0) => ?_) (fun (hc0 : ¬ ((d_isNothing2 g) = 0)) => ?_)
  · refine q_step 3 12 [(0, .ref 66), (1, .int x)] [.int x, .int (g 66 2)] g u (fun big n0 => sg_sh_51 big n0 g u x) ?_
    refine q_ic_eq rfl (fun (hc1 : (g 66 2) = x) => ?_) (fun (hc1 : ¬ ((g 66 2) = x)) => ?_)
    · refine q_ret 2 (some (.int (0 : Int32)), g, u) (fun _ _ => rfl) ?_
      unfold d_faultAs2
      rw [if_pos hc0, if_pos hc1]
    · refine q_ret 3 (some (.int (3 : Int32)), g, u) (fun _ _ => rfl) ?_
      unfold d_faultAs2
      rw [if_pos hc0, if_neg hc1]
  · refine q_ret 2 (some (.int (0 : Int32)), g, u) (fun _ _ => rfl) ?_
    unfold d_faultAs2
    rw [if_neg hc0]
def d_sheet2 (x : Int32) (y : Int32) (g : qM) (u : qW) : Option Value × qM × qW := (if (d_isLane x g) = 0 then (some (.int (Int32.ofInt (-1))), g, u) else (if y ≤ (40 : Int32) then (if 0 ≤ y then (some (.int (1 : Int32)), (s_row_ 67 (fun _ => (0 : Int32)) 40 (q_up (q_up g 66 2 x) 66 1 y)), u) else (some (.int (Int8.toInt32 (Int8.ofInt (-14)))), g, u)) else (some (.int (Int32.ofInt (-1))), g, u)))
theorem b_sheet2 (x : Int32) (y : Int32) (g : qM) (u : qW) : q_BS 130 [.ref 8, .int (2 : Int32), .int x, .int y] g u (d_sheet2 x y g u) := by
  refine q_bx (mm := m_130) rfl (Nat.le_of_ble_eq_true rfl) rfl ?_
  refine q_step 1 1 [(0, .ref 8), (1, .int (2 : Int32)), (2, .int x), (3, .int y)] [.int (2 : Int32)] g u (fun big n0 => sg_sh_52 big n0 g u x y) ?_
  refine q_call (M2 := 131) (rest := []) (show q_BS 131 [.int (2 : Int32)] g u (some (.int 1), g, u) from b_isSheet _ g u) (fun _ _ => rfl) ?_
  refine q_step 2 8 [(0, .ref 8), (1, .int (2 : Int32)), (2, .int x), (3, .int y)] [.int x] g u (fun big n0 => sg_sh_53 big n0 g u x y) ?_
  refine q_call (M2 := 132) (rest := []) (b_isLane _ _ _) (fun _ _ => rfl) ?_
  refine q_if_eq rfl (fun (hc0 : (d_isLane x g) = 0) => ?_) (fun (hc0 : ¬ ((d_isLane x g) = 0)) => ?_)
  · refine q_ret 2 (some (.int (Int32.ofInt (-1))), g, u) (fun _ _ => rfl) ?_
    unfold d_sheet2
    rw [if_pos hc0]
  · refine q_step 2 17 [(0, .ref 8), (1, .int (2 : Int32)), (2, .int x), (3, .int y)] [.int (40 : Int32), .int y] g u (fun big n0 => sg_sh_54 big n0 g u x y) ?_
    refine q_ic_le rfl (fun (hc1 : y ≤ (40 : Int32)) => ?_) (fun (hc1 : ¬ (y ≤ (40 : Int32))) => ?_)
    · refine q_step 1 23 [(0, .ref 8), (1, .int (2 : Int32)), (2, .int x), (3, .int y)] [.int y] g u (fun big n0 => sg_sh_55 big n0 g u x y) ?_
      refine q_if_ge rfl (fun (hc2 : 0 ≤ y) => ?_) (fun (hc2 : ¬ (0 ≤ y)) => ?_)
      · refine q_step 6 37 [(0, .ref 8), (1, .int (2 : Int32)), (2, .int x), (3, .int y)] [.int y, .int x, .ref 66] g u (fun big n0 => sg_sh_56 big n0 g u x y) ?_
        refine q_call (M2 := 133) (rest := []) (b_renew2 x y g u) (fun _ _ => rfl) ?_
        refine q_ret 2 (some (.int (1 : Int32)), (s_row_ 67 (fun _ => (0 : Int32)) 40 (q_up (q_up g 66 2 x) 66 1 y)), u) (fun _ _ => rfl) ?_
        unfold d_sheet2
        rw [if_neg hc0, if_pos hc1, if_pos hc2]
      · refine q_ret 2 (some (.int (Int8.toInt32 (Int8.ofInt (-14)))), g, u) (fun _ _ => rfl) ?_
        unfold d_sheet2
        rw [if_neg hc0, if_pos hc1, if_neg hc2]
    · refine q_ret 2 (some (.int (Int32.ofInt (-1))), g, u) (fun _ _ => rfl) ?_
      unfold d_sheet2
      rw [if_neg hc0, if_neg hc1]
def d_renew3 (x : Int32) (y : Int32) (g : qM) (u : qW) : Option Value × qM × qW := (none, (s_row_ 69 (fun _ => (0 : Int32)) 40 (q_up (q_up g 68 2 x) 68 1 y)), u)
theorem b_renew3 (x : Int32) (y : Int32) (g : qM) (u : qW) : q_BS 133 [.ref 68, .int x, .int y] g u (d_renew3 x y g u) := by
  refine q_bx (mm := m_133) rfl (Nat.le_of_ble_eq_true rfl) rfl ?_
  refine q_step 9 15 [(0, .ref 68), (1, .int x), (2, .int y)] [.int (0 : Int32), .ref 69] (q_up (q_up g 68 2 x) 68 1 y) u (fun big n0 => sg_sh_57 big n0 g u x y) ?_
  refine q_call (M2 := 6) (rest := []) (b_fill69 _ _ _) (fun _ _ => rfl) ?_
  refine q_ret 1 (none, (s_row_ 69 (fun _ => (0 : Int32)) 40 (q_up (q_up g 68 2 x) 68 1 y)), u) (fun _ _ => rfl) ?_
  unfold d_renew3
  rfl
def d_isNothing3 (g : qM) : Int32 := (if (g 68 1) = (Int32.ofInt (-1)) then (1 : Int32) else (0 : Int32))
theorem b_isNothing3 (g : qM) (u : qW) : q_BS 136 [.ref 68] g u (some (.int (d_isNothing3 g)), g, u) := by
  refine q_bx (mm := m_136) rfl (Nat.le_of_ble_eq_true rfl) rfl ?_
  refine q_step 3 5 [(0, .ref 68)] [.int (Int32.ofInt (-1)), .int (g 68 1)] g u (fun big n0 => sg_sh_58 big n0 g u) ?_
  refine q_ic_ne rfl (fun (hc0 : (g 68 1) = (Int32.ofInt (-1))) => ?_) (fun (hc0 : ¬ ((g 68 1) = (Int32.ofInt (-1)))) => ?_)
  · refine q_ret 3 (some (.int (1 : Int32)), g, u) (fun _ _ => rfl) ?_
    unfold d_isNothing3
    rw [if_pos hc0]
  · refine q_ret 2 (some (.int (0 : Int32)), g, u) (fun _ _ => rfl) ?_
    unfold d_isNothing3
    rw [if_neg hc0]
def d_faultAt3 (x : Int32) (g : qM) : Int32 := (if (d_isNothing3 g) = 0 then (if x < 0 then (2 : Int32) else (if x < (g 68 1) then (0 : Int32) else (2 : Int32))) else (1 : Int32))
theorem b_faultAt3 (x : Int32) (g : qM) (u : qW) : q_BS 135 [.ref 68, .int x] g u (some (.int (d_faultAt3 x g)), g, u) := by
  refine q_bx (mm := m_135) rfl (Nat.le_of_ble_eq_true rfl) rfl ?_
  refine q_step 1 1 [(0, .ref 68), (1, .int x)] [.ref 68] g u (fun big n0 => sg_sh_59 big n0 g u x) ?_
  refine q_call (M2 := 136) (rest := []) (b_isNothing3 _ _) (fun _ _ => rfl) ?_
  refine q_if_eq rfl (fun (hc0 : (d_isNothing3 g) = 0) => ?_) (fun (hc0 : ¬ ((d_isNothing3 g) = 0)) => ?_)
  · refine q_step 1 10 [(0, .ref 68), (1, .int x)] [.int x] g u (fun big n0 => sg_sh_60 big n0 g u x) ?_
    refine q_if_lt rfl (fun (hc1 : x < 0) => ?_) (fun (hc1 : ¬ (x < 0)) => ?_)
    · refine q_ret 3 (some (.int (2 : Int32)), g, u) (fun _ _ => rfl) ?_
      unfold d_faultAt3
      rw [if_pos hc0, if_pos hc1]
    · refine q_step 3 18 [(0, .ref 68), (1, .int x)] [.int (g 68 1), .int x] g u (fun big n0 => sg_sh_61 big n0 g u x) ?_
      refine q_ic_lt rfl (fun (hc2 : x < (g 68 1)) => ?_) (fun (hc2 : ¬ (x < (g 68 1))) => ?_)
      · refine q_ret 2 (some (.int (0 : Int32)), g, u) (fun _ _ => rfl) ?_
        unfold d_faultAt3
        rw [if_pos hc0, if_neg hc1, if_pos hc2]
      · refine q_ret 3 (some (.int (2 : Int32)), g, u) (fun _ _ => rfl) ?_
        unfold d_faultAt3
        rw [if_pos hc0, if_neg hc1, if_neg hc2]
  · refine q_ret 2 (some (.int (1 : Int32)), g, u) (fun _ _ => rfl) ?_
    unfold d_faultAt3
    rw [if_neg hc0]
def d_faultAs3 (x : Int32) (g : qM) : Int32 := (if (d_isNothing3 g) = 0 then (if (g 68 2) = x then (0 : Int32) else (3 : Int32)) else (0 : Int32))
theorem b_faultAs3 (x : Int32) (g : qM) (u : qW) : q_BS 139 [.ref 68, .int x] g u (some (.int (d_faultAs3 x g)), g, u) := by
  refine q_bx (mm := m_139) rfl (Nat.le_of_ble_eq_true rfl) rfl ?_
  refine q_step 1 1 [(0, .ref 68), (1, .int x)] [.ref 68] g u (fun big n0 => sg_sh_62 big n0 g u x) ?_
  refine q_call (M2 := 136) (rest := []) (b_isNothing3 _ _) (fun _ _ => rfl) ?_
  refine q_if_ne rfl (fun (hc0 : (d_isNothing3 g) = 0) => ?_) (fun (hc0 : ¬ ((d_isNothing3 g) = 0)) => ?_)
  · refine q_step 3 12 [(0, .ref 68), (1, .int x)] [.int x, .int (g 68 2)] g u (fun big n0 => sg_sh_63 big n0 g u x) ?_
    refine q_ic_eq rfl (fun (hc1 : (g 68 2) = x) => ?_) (fun (hc1 : ¬ ((g 68 2) = x)) => ?_)
    · refine q_ret 2 (some (.int (0 : Int32)), g, u) (fun _ _ => rfl) ?_
      unfold d_faultAs3
      rw [if_pos hc0, if_pos hc1]
    · refine q_ret 3 (some (.int (3 : Int32)), g, u) (fun _ _ => rfl) ?_
      unfold d_faultAs3
      rw [if_pos hc0, if_neg hc1]
  · refine q_ret 2 (some (.int (0 : Int32)), g, u) (fun _ _ => rfl) ?_
    unfold d_faultAs3
    rw [if_neg hc0]
def d_sheet3 (x : Int32) (y : Int32) (g : qM) (u : qW) : Option Value × qM × qW := (if (d_isLane x g) = 0 then (some (.int (Int32.ofInt (-1))), g, u) else (if y ≤ (40 : Int32) then (if 0 ≤ y then (some (.int (1 : Int32)), (s_row_ 69 (fun _ => (0 : Int32)) 40 (q_up (q_up g 68 2 x) 68 1 y)), u) else (some (.int (Int8.toInt32 (Int8.ofInt (-14)))), g, u)) else (some (.int (Int32.ofInt (-1))), g, u)))
theorem b_sheet3 (x : Int32) (y : Int32) (g : qM) (u : qW) : q_BS 130 [.ref 8, .int (3 : Int32), .int x, .int y] g u (d_sheet3 x y g u) := by
  refine q_bx (mm := m_130) rfl (Nat.le_of_ble_eq_true rfl) rfl ?_
  refine q_step 1 1 [(0, .ref 8), (1, .int (3 : Int32)), (2, .int x), (3, .int y)] [.int (3 : Int32)] g u (fun big n0 => sg_sh_64 big n0 g u x y) ?_
  refine q_call (M2 := 131) (rest := []) (show q_BS 131 [.int (3 : Int32)] g u (some (.int 1), g, u) from b_isSheet _ g u) (fun _ _ => rfl) ?_
  refine q_step 2 8 [(0, .ref 8), (1, .int (3 : Int32)), (2, .int x), (3, .int y)] [.int x] g u (fun big n0 => sg_sh_65 big n0 g u x y) ?_
  refine q_call (M2 := 132) (rest := []) (b_isLane _ _ _) (fun _ _ => rfl) ?_
  refine q_if_eq rfl (fun (hc0 : (d_isLane x g) = 0) => ?_) (fun (hc0 : ¬ ((d_isLane x g) = 0)) => ?_)
  · refine q_ret 2 (some (.int (Int32.ofInt (-1))), g, u) (fun _ _ => rfl) ?_
    unfold d_sheet3
    rw [if_pos hc0]
  · refine q_step 2 17 [(0, .ref 8), (1, .int (3 : Int32)), (2, .int x), (3, .int y)] [.int (40 : Int32), .int y] g u (fun big n0 => sg_sh_66 big n0 g u x y) ?_
    refine q_ic_le rfl (fun (hc1 : y ≤ (40 : Int32)) => ?_) (fun (hc1 : ¬ (y ≤ (40 : Int32))) => ?_)
    · refine q_step 1 23 [(0, .ref 8), (1, .int (3 : Int32)), (2, .int x), (3, .int y)] [.int y] g u (fun big n0 => sg_sh_67 big n0 g u x y) ?_
      refine q_if_ge rfl (fun (hc2 : 0 ≤ y) => ?_) (fun (hc2 : ¬ (0 ≤ y)) => ?_)
      · refine q_step 6 37 [(0, .ref 8), (1, .int (3 : Int32)), (2, .int x), (3, .int y)] [.int y, .int x, .ref 68] g u (fun big n0 => sg_sh_68 big n0 g u x y) ?_
        refine q_call (M2 := 133) (rest := []) (b_renew3 x y g u) (fun _ _ => rfl) ?_
        refine q_ret 2 (some (.int (1 : Int32)), (s_row_ 69 (fun _ => (0 : Int32)) 40 (q_up (q_up g 68 2 x) 68 1 y)), u) (fun _ _ => rfl) ?_
        unfold d_sheet3
        rw [if_neg hc0, if_pos hc1, if_pos hc2]
      · refine q_ret 2 (some (.int (Int8.toInt32 (Int8.ofInt (-14)))), g, u) (fun _ _ => rfl) ?_
        unfold d_sheet3
        rw [if_neg hc0, if_pos hc1, if_neg hc2]
    · refine q_ret 2 (some (.int (Int32.ofInt (-1))), g, u) (fun _ _ => rfl) ?_
      unfold d_sheet3
      rw [if_neg hc0, if_neg hc1]
end
section
/-! COUNTS over all ones, and who is in a cell. -/
/-- the first of those in the cell x -/
def s_w1 (c : Nat → Int32) (x : Int32) : Nat → Nat → Int32
  | 0, _ => i_none
  | k + 1, i => if c i = x then Int32.ofNat i else s_w1 c x k (i + 1)
/-- how many of k from i on -/
def s_ct (P : Nat → Int32) : Nat → Nat → Int32 → Int32
  | 0, _, a => a
  | k + 1, i, a => s_ct P k (i + 1) (a + P i)
theorem sg_tn_1 (big : Nat → List Value → qM → qW → qR) (n0 : Nat) (G : qM) (U : qW) (v0 : Int32) (v1 : Int32) : qm_run pm_m big m_30 (n0 + 3) 2 [(0, .ref 20), (1, .int v0), (2, .int v1)] [] G U = qm_run pm_m big m_30 n0 7 [(0, .ref 20), (1, .int v0), (2, .int v1)] [.int (G 20 3), .int v1] G U := rfl
theorem sg_tn_2 (big : Nat → List Value → qM → qW → qR) (n0 : Nat) (G : qM) (U : qW) (v0 : Int32) (v1 : Int32) : qm_run pm_m big m_30 (n0 + 3) 10 [(0, .ref 20), (1, .int v0), (2, .int v1)] [] G U = qm_run pm_m big m_30 n0 15 [(0, .ref 20), (1, .int v0), (2, .int v1)] [.int v1, .ref 21] G U := rfl
theorem sg_tn_3 (big : Nat → List Value → qM → qW → qR) (n0 : Nat) (G : qM) (U : qW) (v0 : Int32) (v1 : Int32) (v2 : Int32) : qm_run pm_m big m_30 (n0 + 1) 16 [(0, .ref 20), (1, .int v0), (2, .int v1)] [.int v2] G U = qm_run pm_m big m_30 n0 17 [(0, .ref 20), (1, .int v0), (2, .int v1)] [.int v0, .int v2] G U := rfl
theorem sg_tn_4 (big : Nat → List Value → qM → qW → qR) (n0 : Nat) (G : qM) (U : qW) (v0 : Int32) (v1 : Int32) : qm_run pm_m big m_30 (n0 + 2) 22 [(0, .ref 20), (1, .int v0), (2, .int v1)] [] G U = qm_run pm_m big m_30 n0 2 [(0, .ref 20), (1, .int v0), (2, .int (v1 + (1 : Int32)))] [] G U := rfl
theorem sg_tn_5 (big : Nat → List Value → qM → qW → qR) (n0 : Nat) (G : qM) (U : qW) (v0 : Int32) : qm_run pm_m big m_30 (n0 + 2) 0 [(0, .ref 20), (1, .int v0)] [] G U = qm_run pm_m big m_30 n0 2 [(0, .ref 20), (1, .int v0), (2, .int (0 : Int32))] [] G U := rfl
theorem sg_tn_6 (big : Nat → List Value → qM → qW → qR) (n0 : Nat) (G : qM) (U : qW) (v0 : Int32) (v1 : Int32) : qm_run pm_m big m_78 (n0 + 3) 4 [(0, .ref 20), (1, .int v0), (2, .int v1)] [] G U = qm_run pm_m big m_78 n0 9 [(0, .ref 20), (1, .int v0), (2, .int v1)] [.int (G 20 3), .int v1] G U := rfl
theorem sg_tn_7 (big : Nat → List Value → qM → qW → qR) (n0 : Nat) (G : qM) (U : qW) (v0 : Int32) (v1 : Int32) : qm_run pm_m big m_78 (n0 + 4) 12 [(0, .ref 20), (1, .int v0), (2, .int v1)] [] G U = qm_run pm_m big m_78 n0 18 [(0, .ref 20), (1, .int v0), (2, .int v1)] [.int v1, .ref 21, .int v0] G U := rfl
theorem sg_tn_8 (big : Nat → List Value → qM → qW → qR) (n0 : Nat) (G : qM) (U : qW) (v0 : Int32) (v1 : Int32) (v2 : Int32) (v3 : Int32) : qm_run pm_m big m_78 (n0 + 3) 19 [(0, .ref 20), (1, .int v0), (2, .int v1)] [.int v3, .int v2] G U = qm_run pm_m big m_78 n0 24 [(0, .ref 20), (1, .int v0), (2, .int v1)] [.int v1, .ref 24, .int v3, .int v2] G U := rfl
theorem sg_tn_9 (big : Nat → List Value → qM → qW → qR) (n0 : Nat) (G : qM) (U : qW) (v0 : Int32) (v1 : Int32) (v2 : Int32) : qm_run pm_m big m_78 (n0 + 6) 28 [(0, .ref 20), (1, .int v0), (2, .int v1)] [.int v2] G U = qm_run pm_m big m_78 n0 4 [(0, .ref 20), (1, .int (v2 + (1 : Int32))), (2, .int (v1 + (1 : Int32)))] [] G U := rfl
theorem sg_tn_10 (big : Nat → List Value → qM → qW → qR) (n0 : Nat) (G : qM) (U : qW) (v0 : Int32) (v1 : Int32) (v2 : Int32) : qm_run pm_m big m_78 (n0 + 5) 32 [(0, .ref 20), (1, .int v0), (2, .int v1)] [.int v2] G U = qm_run pm_m big m_78 n0 4 [(0, .ref 20), (1, .int (v2 + (0 : Int32))), (2, .int (v1 + (1 : Int32)))] [] G U := rfl
theorem sg_tn_11 (big : Nat → List Value → qM → qW → qR) (n0 : Nat) (G : qM) (U : qW) : qm_run pm_m big m_78 (n0 + 4) 0 [(0, .ref 20)] [] G U = qm_run pm_m big m_78 n0 4 [(0, .ref 20), (1, .int (0 : Int32)), (2, .int (0 : Int32))] [] G U := rfl
theorem sg_tn_12 (big : Nat → List Value → qM → qW → qR) (n0 : Nat) (G : qM) (U : qW) (v0 : Int32) (v1 : Int32) : qm_run pm_m big m_100 (n0 + 3) 4 [(0, .ref 20), (1, .int v0), (2, .int v1)] [] G U = qm_run pm_m big m_100 n0 9 [(0, .ref 20), (1, .int v0), (2, .int v1)] [.int (G 20 3), .int v1] G U := rfl
theorem sg_tn_13 (big : Nat → List Value → qM → qW → qR) (n0 : Nat) (G : qM) (U : qW) (v0 : Int32) (v1 : Int32) : qm_run pm_m big m_100 (n0 + 4) 12 [(0, .ref 20), (1, .int v0), (2, .int v1)] [] G U = qm_run pm_m big m_100 n0 18 [(0, .ref 20), (1, .int v0), (2, .int v1)] [.int v1, .ref 24, .int v0] G U := rfl
theorem sg_tn_14 (big : Nat → List Value → qM → qW → qR) (n0 : Nat) (G : qM) (U : qW) (v0 : Int32) (v1 : Int32) (v2 : Int32) (v3 : Int32) : qm_run pm_m big m_100 (n0 + 1) 19 [(0, .ref 20), (1, .int v0), (2, .int v1)] [.int v3, .int v2] G U = qm_run pm_m big m_100 n0 21 [(0, .ref 20), (1, .int v0), (2, .int v1)] [.int (Int8.toInt32 (Int8.ofInt (-4))), .int v3, .int v2] G U := rfl
theorem sg_tn_15 (big : Nat → List Value → qM → qW → qR) (n0 : Nat) (G : qM) (U : qW) (v0 : Int32) (v1 : Int32) (v2 : Int32) : qm_run pm_m big m_100 (n0 + 5) 28 [(0, .ref 20), (1, .int v0), (2, .int v1)] [.int v2] G U = qm_run pm_m big m_100 n0 4 [(0, .ref 20), (1, .int (v2 + (0 : Int32))), (2, .int (v1 + (1 : Int32)))] [] G U := rfl
theorem sg_tn_16 (big : Nat → List Value → qM → qW → qR) (n0 : Nat) (G : qM) (U : qW) (v0 : Int32) (v1 : Int32) (v2 : Int32) : qm_run pm_m big m_100 (n0 + 6) 24 [(0, .ref 20), (1, .int v0), (2, .int v1)] [.int v2] G U = qm_run pm_m big m_100 n0 4 [(0, .ref 20), (1, .int (v2 + (1 : Int32))), (2, .int (v1 + (1 : Int32)))] [] G U := rfl
theorem sg_tn_17 (big : Nat → List Value → qM → qW → qR) (n0 : Nat) (G : qM) (U : qW) : qm_run pm_m big m_100 (n0 + 4) 0 [(0, .ref 20)] [] G U = qm_run pm_m big m_100 n0 4 [(0, .ref 20), (1, .int (0 : Int32)), (2, .int (0 : Int32))] [] G U := rfl
theorem sg_tn_18 (big : Nat → List Value → qM → qW → qR) (n0 : Nat) (G : qM) (U : qW) (v0 : Int32) (v1 : Int32) : qm_run pm_m big m_144 (n0 + 3) 4 [(0, .ref 20), (1, .int v0), (2, .int v1)] [] G U = qm_run pm_m big m_144 n0 9 [(0, .ref 20), (1, .int v0), (2, .int v1)] [.int (G 20 3), .int v1] G U := rfl
theorem sg_tn_19 (big : Nat → List Value → qM → qW → qR) (n0 : Nat) (G : qM) (U : qW) (v0 : Int32) (v1 : Int32) : qm_run pm_m big m_144 (n0 + 4) 12 [(0, .ref 20), (1, .int v0), (2, .int v1)] [] G U = qm_run pm_m big m_144 n0 18 [(0, .ref 20), (1, .int v0), (2, .int v1)] [.int v1, .ref 22, .int v0] G U := rfl
theorem sg_tn_20 (big : Nat → List Value → qM → qW → qR) (n0 : Nat) (G : qM) (U : qW) (v0 : Int32) (v1 : Int32) (v2 : Int32) : qm_run pm_m big m_144 (n0 + 6) 22 [(0, .ref 20), (1, .int v0), (2, .int v1)] [.int v2] G U = qm_run pm_m big m_144 n0 4 [(0, .ref 20), (1, .int (v2 + (1 : Int32))), (2, .int (v1 + (1 : Int32)))] [] G U := rfl
theorem sg_tn_21 (big : Nat → List Value → qM → qW → qR) (n0 : Nat) (G : qM) (U : qW) (v0 : Int32) (v1 : Int32) (v2 : Int32) : qm_run pm_m big m_144 (n0 + 5) 26 [(0, .ref 20), (1, .int v0), (2, .int v1)] [.int v2] G U = qm_run pm_m big m_144 n0 4 [(0, .ref 20), (1, .int (v2 + (0 : Int32))), (2, .int (v1 + (1 : Int32)))] [] G U := rfl
theorem sg_tn_22 (big : Nat → List Value → qM → qW → qR) (n0 : Nat) (G : qM) (U : qW) : qm_run pm_m big m_144 (n0 + 4) 0 [(0, .ref 20)] [] G U = qm_run pm_m big m_144 n0 4 [(0, .ref 20), (1, .int (0 : Int32)), (2, .int (0 : Int32))] [] G U := rfl
theorem sg_tn_23 (big : Nat → List Value → qM → qW → qR) (n0 : Nat) (G : qM) (U : qW) (v0 : Int32) (v1 : Int32) : qm_run pm_m big m_30 (n0 + 3) 2 [(0, .ref 35), (1, .int v0), (2, .int v1)] [] G U = qm_run pm_m big m_30 n0 7 [(0, .ref 35), (1, .int v0), (2, .int v1)] [.int (G 35 3), .int v1] G U := rfl
theorem sg_tn_24 (big : Nat → List Value → qM → qW → qR) (n0 : Nat) (G : qM) (U : qW) (v0 : Int32) (v1 : Int32) : qm_run pm_m big m_30 (n0 + 3) 10 [(0, .ref 35), (1, .int v0), (2, .int v1)] [] G U = qm_run pm_m big m_30 n0 15 [(0, .ref 35), (1, .int v0), (2, .int v1)] [.int v1, .ref 36] G U := rfl
theorem sg_tn_25 (big : Nat → List Value → qM → qW → qR) (n0 : Nat) (G : qM) (U : qW) (v0 : Int32) (v1 : Int32) (v2 : Int32) : qm_run pm_m big m_30 (n0 + 1) 16 [(0, .ref 35), (1, .int v0), (2, .int v1)] [.int v2] G U = qm_run pm_m big m_30 n0 17 [(0, .ref 35), (1, .int v0), (2, .int v1)] [.int v0, .int v2] G U := rfl
theorem sg_tn_26 (big : Nat → List Value → qM → qW → qR) (n0 : Nat) (G : qM) (U : qW) (v0 : Int32) (v1 : Int32) : qm_run pm_m big m_30 (n0 + 2) 22 [(0, .ref 35), (1, .int v0), (2, .int v1)] [] G U = qm_run pm_m big m_30 n0 2 [(0, .ref 35), (1, .int v0), (2, .int (v1 + (1 : Int32)))] [] G U := rfl
theorem sg_tn_27 (big : Nat → List Value → qM → qW → qR) (n0 : Nat) (G : qM) (U : qW) (v0 : Int32) : qm_run pm_m big m_30 (n0 + 2) 0 [(0, .ref 35), (1, .int v0)] [] G U = qm_run pm_m big m_30 n0 2 [(0, .ref 35), (1, .int v0), (2, .int (0 : Int32))] [] G U := rfl
theorem sg_tn_28 (big : Nat → List Value → qM → qW → qR) (n0 : Nat) (G : qM) (U : qW) (v0 : Int32) (v1 : Int32) : qm_run pm_m big m_78 (n0 + 3) 4 [(0, .ref 35), (1, .int v0), (2, .int v1)] [] G U = qm_run pm_m big m_78 n0 9 [(0, .ref 35), (1, .int v0), (2, .int v1)] [.int (G 35 3), .int v1] G U := rfl
theorem sg_tn_29 (big : Nat → List Value → qM → qW → qR) (n0 : Nat) (G : qM) (U : qW) (v0 : Int32) (v1 : Int32) : qm_run pm_m big m_78 (n0 + 4) 12 [(0, .ref 35), (1, .int v0), (2, .int v1)] [] G U = qm_run pm_m big m_78 n0 18 [(0, .ref 35), (1, .int v0), (2, .int v1)] [.int v1, .ref 36, .int v0] G U := rfl
theorem sg_tn_30 (big : Nat → List Value → qM → qW → qR) (n0 : Nat) (G : qM) (U : qW) (v0 : Int32) (v1 : Int32) (v2 : Int32) (v3 : Int32) : qm_run pm_m big m_78 (n0 + 3) 19 [(0, .ref 35), (1, .int v0), (2, .int v1)] [.int v3, .int v2] G U = qm_run pm_m big m_78 n0 24 [(0, .ref 35), (1, .int v0), (2, .int v1)] [.int v1, .ref 39, .int v3, .int v2] G U := rfl
theorem sg_tn_31 (big : Nat → List Value → qM → qW → qR) (n0 : Nat) (G : qM) (U : qW) (v0 : Int32) (v1 : Int32) (v2 : Int32) : qm_run pm_m big m_78 (n0 + 6) 28 [(0, .ref 35), (1, .int v0), (2, .int v1)] [.int v2] G U = qm_run pm_m big m_78 n0 4 [(0, .ref 35), (1, .int (v2 + (1 : Int32))), (2, .int (v1 + (1 : Int32)))] [] G U := rfl
theorem sg_tn_32 (big : Nat → List Value → qM → qW → qR) (n0 : Nat) (G : qM) (U : qW) (v0 : Int32) (v1 : Int32) (v2 : Int32) : qm_run pm_m big m_78 (n0 + 5) 32 [(0, .ref 35), (1, .int v0), (2, .int v1)] [.int v2] G U = qm_run pm_m big m_78 n0 4 [(0, .ref 35), (1, .int (v2 + (0 : Int32))), (2, .int (v1 + (1 : Int32)))] [] G U := rfl
theorem sg_tn_33 (big : Nat → List Value → qM → qW → qR) (n0 : Nat) (G : qM) (U : qW) : qm_run pm_m big m_78 (n0 + 4) 0 [(0, .ref 35)] [] G U = qm_run pm_m big m_78 n0 4 [(0, .ref 35), (1, .int (0 : Int32)), (2, .int (0 : Int32))] [] G U := rfl
theorem sg_tn_34 (big : Nat → List Value → qM → qW → qR) (n0 : Nat) (G : qM) (U : qW) (v0 : Int32) (v1 : Int32) : qm_run pm_m big m_100 (n0 + 3) 4 [(0, .ref 35), (1, .int v0), (2, .int v1)] [] G U = qm_run pm_m big m_100 n0 9 [(0, .ref 35), (1, .int v0), (2, .int v1)] [.int (G 35 3), .int v1] G U := rfl
theorem sg_tn_35 (big : Nat → List Value → qM → qW → qR) (n0 : Nat) (G : qM) (U : qW) (v0 : Int32) (v1 : Int32) : qm_run pm_m big m_100 (n0 + 4) 12 [(0, .ref 35), (1, .int v0), (2, .int v1)] [] G U = qm_run pm_m big m_100 n0 18 [(0, .ref 35), (1, .int v0), (2, .int v1)] [.int v1, .ref 39, .int v0] G U := rfl
theorem sg_tn_36 (big : Nat → List Value → qM → qW → qR) (n0 : Nat) (G : qM) (U : qW) (v0 : Int32) (v1 : Int32) (v2 : Int32) (v3 : Int32) : qm_run pm_m big m_100 (n0 + 1) 19 [(0, .ref 35), (1, .int v0), (2, .int v1)] [.int v3, .int v2] G U = qm_run pm_m big m_100 n0 21 [(0, .ref 35), (1, .int v0), (2, .int v1)] [.int (Int8.toInt32 (Int8.ofInt (-4))), .int v3, .int v2] G U := rfl
theorem sg_tn_37 (big : Nat → List Value → qM → qW → qR) (n0 : Nat) (G : qM) (U : qW) (v0 : Int32) (v1 : Int32) (v2 : Int32) : qm_run pm_m big m_100 (n0 + 5) 28 [(0, .ref 35), (1, .int v0), (2, .int v1)] [.int v2] G U = qm_run pm_m big m_100 n0 4 [(0, .ref 35), (1, .int (v2 + (0 : Int32))), (2, .int (v1 + (1 : Int32)))] [] G U := rfl
theorem sg_tn_38 (big : Nat → List Value → qM → qW → qR) (n0 : Nat) (G : qM) (U : qW) (v0 : Int32) (v1 : Int32) (v2 : Int32) : qm_run pm_m big m_100 (n0 + 6) 24 [(0, .ref 35), (1, .int v0), (2, .int v1)] [.int v2] G U = qm_run pm_m big m_100 n0 4 [(0, .ref 35), (1, .int (v2 + (1 : Int32))), (2, .int (v1 + (1 : Int32)))] [] G U := rfl
theorem sg_tn_39 (big : Nat → List Value → qM → qW → qR) (n0 : Nat) (G : qM) (U : qW) : qm_run pm_m big m_100 (n0 + 4) 0 [(0, .ref 35)] [] G U = qm_run pm_m big m_100 n0 4 [(0, .ref 35), (1, .int (0 : Int32)), (2, .int (0 : Int32))] [] G U := rfl
theorem sg_tn_40 (big : Nat → List Value → qM → qW → qR) (n0 : Nat) (G : qM) (U : qW) (v0 : Int32) (v1 : Int32) : qm_run pm_m big m_144 (n0 + 3) 4 [(0, .ref 35), (1, .int v0), (2, .int v1)] [] G U = qm_run pm_m big m_144 n0 9 [(0, .ref 35), (1, .int v0), (2, .int v1)] [.int (G 35 3), .int v1] G U := rfl
theorem sg_tn_41 (big : Nat → List Value → qM → qW → qR) (n0 : Nat) (G : qM) (U : qW) (v0 : Int32) (v1 : Int32) : qm_run pm_m big m_144 (n0 + 4) 12 [(0, .ref 35), (1, .int v0), (2, .int v1)] [] G U = qm_run pm_m big m_144 n0 18 [(0, .ref 35), (1, .int v0), (2, .int v1)] [.int v1, .ref 37, .int v0] G U := rfl
theorem sg_tn_42 (big : Nat → List Value → qM → qW → qR) (n0 : Nat) (G : qM) (U : qW) (v0 : Int32) (v1 : Int32) (v2 : Int32) : qm_run pm_m big m_144 (n0 + 6) 22 [(0, .ref 35), (1, .int v0), (2, .int v1)] [.int v2] G U = qm_run pm_m big m_144 n0 4 [(0, .ref 35), (1, .int (v2 + (1 : Int32))), (2, .int (v1 + (1 : Int32)))] [] G U := rfl
theorem sg_tn_43 (big : Nat → List Value → qM → qW → qR) (n0 : Nat) (G : qM) (U : qW) (v0 : Int32) (v1 : Int32) (v2 : Int32) : qm_run pm_m big m_144 (n0 + 5) 26 [(0, .ref 35), (1, .int v0), (2, .int v1)] [.int v2] G U = qm_run pm_m big m_144 n0 4 [(0, .ref 35), (1, .int (v2 + (0 : Int32))), (2, .int (v1 + (1 : Int32)))] [] G U := rfl
theorem sg_tn_44 (big : Nat → List Value → qM → qW → qR) (n0 : Nat) (G : qM) (U : qW) : qm_run pm_m big m_144 (n0 + 4) 0 [(0, .ref 35)] [] G U = qm_run pm_m big m_144 n0 4 [(0, .ref 35), (1, .int (0 : Int32)), (2, .int (0 : Int32))] [] G U := rfl
theorem sg_tn_45 (big : Nat → List Value → qM → qW → qR) (n0 : Nat) (G : qM) (U : qW) (v0 : Int32) (v1 : Int32) : qm_run pm_m big m_197 (n0 + 3) 4 [(0, .ref 70), (1, .int v0), (2, .int v1)] [] G U = qm_run pm_m big m_197 n0 9 [(0, .ref 70), (1, .int v0), (2, .int v1)] [.int (G 70 27), .int v1] G U := rfl
theorem sg_tn_46 (big : Nat → List Value → qM → qW → qR) (n0 : Nat) (G : qM) (U : qW) (v0 : Int32) (v1 : Int32) : qm_run pm_m big m_197 (n0 + 4) 12 [(0, .ref 70), (1, .int v0), (2, .int v1)] [] G U = qm_run pm_m big m_197 n0 18 [(0, .ref 70), (1, .int v0), (2, .int v1)] [.int v1, .ref 78, .int v0] G U := rfl
theorem sg_tn_47 (big : Nat → List Value → qM → qW → qR) (n0 : Nat) (G : qM) (U : qW) (v0 : Int32) (v1 : Int32) (v2 : Int32) (v3 : Int32) : qm_run pm_m big m_197 (n0 + 1) 19 [(0, .ref 70), (1, .int v0), (2, .int v1)] [.int v3, .int v2] G U = qm_run pm_m big m_197 n0 21 [(0, .ref 70), (1, .int v0), (2, .int v1)] [.int (Int8.toInt32 (Int8.ofInt (-4))), .int v3, .int v2] G U := rfl
theorem sg_tn_48 (big : Nat → List Value → qM → qW → qR) (n0 : Nat) (G : qM) (U : qW) (v0 : Int32) (v1 : Int32) (v2 : Int32) : qm_run pm_m big m_197 (n0 + 1) 43 [(0, .ref 70), (1, .int v0), (2, .int v1)] [.int v2] G U = qm_run pm_m big m_197 n0 44 [(0, .ref 70), (1, .int v0), (2, .int v1)] [.int (0 : Int32), .int v2] G U := rfl
theorem sg_tn_49 (big : Nat → List Value → qM → qW → qR) (n0 : Nat) (G : qM) (U : qW) (v0 : Int32) (v1 : Int32) (v2 : Int32) : qm_run pm_m big m_197 (n0 + 4) 47 [(0, .ref 70), (1, .int v0), (2, .int v1)] [.int (0 : Int32), .int v2] G U = qm_run pm_m big m_197 n0 4 [(0, .ref 70), (1, .int (v2 + (0 : Int32))), (2, .int (v1 + (1 : Int32)))] [] G U := rfl
theorem sg_tn_50 (big : Nat → List Value → qM → qW → qR) (n0 : Nat) (G : qM) (U : qW) (v0 : Int32) (v1 : Int32) (v2 : Int32) : qm_run pm_m big m_197 (n0 + 3) 24 [(0, .ref 70), (1, .int v0), (2, .int v1)] [.int v2] G U = qm_run pm_m big m_197 n0 29 [(0, .ref 70), (1, .int v0), (2, .int v1)] [.int v1, .ref 75, .int v2] G U := rfl
theorem sg_tn_51 (big : Nat → List Value → qM → qW → qR) (n0 : Nat) (G : qM) (U : qW) (v0 : Int32) (v1 : Int32) (v2 : Int32) (v3 : Int32) : qm_run pm_m big m_197 (n0 + 3) 30 [(0, .ref 70), (1, .int v0), (2, .int v1)] [.int v3, .int v2] G U = qm_run pm_m big m_197 n0 35 [(0, .ref 70), (1, .int v0), (2, .int v1)] [.int v1, .ref 78, .int v3, .int v2] G U := rfl
theorem sg_tn_52 (big : Nat → List Value → qM → qW → qR) (n0 : Nat) (G : qM) (U : qW) (v0 : Int32) (v1 : Int32) (v2 : Int32) : qm_run pm_m big m_197 (n0 + 2) 39 [(0, .ref 70), (1, .int v0), (2, .int v1)] [.int v2] G U = qm_run pm_m big m_197 n0 44 [(0, .ref 70), (1, .int v0), (2, .int v1)] [.int (1 : Int32), .int v2] G U := rfl
theorem sg_tn_53 (big : Nat → List Value → qM → qW → qR) (n0 : Nat) (G : qM) (U : qW) (v0 : Int32) (v1 : Int32) (v2 : Int32) : qm_run pm_m big m_197 (n0 + 4) 47 [(0, .ref 70), (1, .int v0), (2, .int v1)] [.int (1 : Int32), .int v2] G U = qm_run pm_m big m_197 n0 4 [(0, .ref 70), (1, .int (v2 + (1 : Int32))), (2, .int (v1 + (1 : Int32)))] [] G U := rfl
theorem sg_tn_54 (big : Nat → List Value → qM → qW → qR) (n0 : Nat) (G : qM) (U : qW) : qm_run pm_m big m_197 (n0 + 4) 0 [(0, .ref 70)] [] G U = qm_run pm_m big m_197 n0 4 [(0, .ref 70), (1, .int (0 : Int32)), (2, .int (0 : Int32))] [] G U := rfl
theorem wi_20 (g : qM) (u : qW) {n : Nat} (x : Int32) (hn : g 20 3 = Int32.ofNat n) (h6 : n ≤ 6) : ∀ k i, i + k = n → q_EV m_30 2 [(0, .ref 20), (1, .int x), (2, .int (Int32.ofNat i))] [] g u (fun R => R = (some (.int (s_w1 (g 21) x k i)), g, u)) := by
  intro k
  induction k with
  | zero =>
    intro i hi
    refine q_step 3 7 [(0, .ref 20), (1, .int x), (2, .int (Int32.ofNat i))] [.int (g 20 3), .int (Int32.ofNat i)] g u (fun big n0 => sg_tn_1 big n0 g u x (Int32.ofNat i)) ?_
    refine q_ic_ge rfl (fun (hc0 : (g 20 3) ≤ (Int32.ofNat i)) => ?_) (fun hc0 => absurd (show (g 20 3) ≤ (Int32.ofNat i) from by rw [hn, q_le (by omega) (by omega)]; omega) hc0)
    refine q_ret 2 (some (.int (Int8.toInt32 (Int8.ofInt (-4)))), g, u) (fun _ _ => rfl) ?_
    rfl
  | succ k ih =>
    intro i hi
    refine q_step 3 7 [(0, .ref 20), (1, .int x), (2, .int (Int32.ofNat i))] [.int (g 20 3), .int (Int32.ofNat i)] g u (fun big n0 => sg_tn_1 big n0 g u x (Int32.ofNat i)) ?_
    refine q_ic_ge rfl (fun hc0 => absurd (show (g 20 3) ≤ (Int32.ofNat i) from hc0) (fun z => by rw [hn, q_le (by omega) (by omega)] at z; omega)) (fun (hc0 : ¬ ((g 20 3) ≤ (Int32.ofNat i))) => ?_)
    refine q_step 3 15 [(0, .ref 20), (1, .int x), (2, .int (Int32.ofNat i))] [.int (Int32.ofNat i), .ref 21] g u (fun big n0 => sg_tn_2 big n0 g u x (Int32.ofNat i)) ?_
    refine q_iald (j := i) (q_ixn (by omega) (by omega)) rfl rfl ?_
    refine q_step 1 17 [(0, .ref 20), (1, .int x), (2, .int (Int32.ofNat i))] [.int x, .int (g 21 i)] g u (fun big n0 => sg_tn_3 big n0 g u x (Int32.ofNat i) (g 21 i)) ?_
    refine q_ic_ne rfl (fun (hc1 : (g 21 i) = x) => ?_) (fun (hc1 : ¬ ((g 21 i) = x)) => ?_)
    · refine q_ret 2 (some (.int (Int32.ofNat i)), g, u) (fun _ _ => rfl) ?_
      unfold s_w1
      rw [if_pos hc1]
    · refine q_step 2 2 [(0, .ref 20), (1, .int x), (2, .int ((Int32.ofNat i) + (1 : Int32)))] [] g u (fun big n0 => sg_tn_4 big n0 g u x (Int32.ofNat i)) ?_
      rw [q_succ]
      unfold s_w1
      rw [if_neg hc1]
      exact ih (i + 1) (by omega)
theorem b_who20 (x : Int32) (g : qM) (u : qW) {n : Nat} (hn : g 20 3 = Int32.ofNat n) (h6 : n ≤ 6) : q_BS 30 [.ref 20, .int x] g u (some (.int (s_w1 (g 21) x n 0)), g, u) := by
  refine q_bx (mm := m_30) rfl (Nat.le_of_ble_eq_true rfl) rfl ?_
  refine q_step 2 2 [(0, .ref 20), (1, .int x), (2, .int (0 : Int32))] [] g u (fun big n0 => sg_tn_5 big n0 g u x) ?_
  exact wi_20 g u x hn h6 n 0 (by omega)
theorem atg20_l (g : qM) (u : qW) {n : Nat} (hn : g 20 3 = Int32.ofNat n) (h6 : n ≤ 6) : ∀ k i a, i + k = n → q_EV m_78 4 [(0, .ref 20), (1, .int a), (2, .int (Int32.ofNat i))] [] g u (fun R => R = (some (.int (s_ct (fun p => if g 21 p = g 24 p then (1 : Int32) else 0) k i a)), g, u)) := by
  intro k
  induction k with
  | zero =>
    intro i a hi
    refine q_step 3 9 [(0, .ref 20), (1, .int a), (2, .int (Int32.ofNat i))] [.int (g 20 3), .int (Int32.ofNat i)] g u (fun big n0 => sg_tn_6 big n0 g u a (Int32.ofNat i)) ?_
    refine q_ic_ge rfl (fun (hc0 : (g 20 3) ≤ (Int32.ofNat i)) => ?_) (fun hc0 => absurd (show (g 20 3) ≤ (Int32.ofNat i) from by rw [hn, q_le (by omega) (by omega)]; omega) hc0)
    refine q_ret 2 (some (.int a), g, u) (fun _ _ => rfl) ?_
    rfl
  | succ k ih =>
    intro i a hi
    refine q_step 3 9 [(0, .ref 20), (1, .int a), (2, .int (Int32.ofNat i))] [.int (g 20 3), .int (Int32.ofNat i)] g u (fun big n0 => sg_tn_6 big n0 g u a (Int32.ofNat i)) ?_
    refine q_ic_ge rfl (fun hc0 => absurd (show (g 20 3) ≤ (Int32.ofNat i) from hc0) (fun z => by rw [hn, q_le (by omega) (by omega)] at z; omega)) (fun (hc0 : ¬ ((g 20 3) ≤ (Int32.ofNat i))) => ?_)
    refine q_step 4 18 [(0, .ref 20), (1, .int a), (2, .int (Int32.ofNat i))] [.int (Int32.ofNat i), .ref 21, .int a] g u (fun big n0 => sg_tn_7 big n0 g u a (Int32.ofNat i)) ?_
    refine q_iald (j := i) (q_ixn (by omega) (by omega)) rfl rfl ?_
    refine q_step 3 24 [(0, .ref 20), (1, .int a), (2, .int (Int32.ofNat i))] [.int (Int32.ofNat i), .ref 24, .int (g 21 i), .int a] g u (fun big n0 => sg_tn_8 big n0 g u a (Int32.ofNat i) a (g 21 i)) ?_
    refine q_iald (j := i) (q_ixn (by omega) (by omega)) rfl rfl ?_
    refine q_ic_ne rfl (fun (hc1 : (g 21 i) = (g 24 i)) => ?_) (fun (hc1 : ¬ ((g 21 i) = (g 24 i))) => ?_)
    · refine q_step 6 4 [(0, .ref 20), (1, .int (a + (1 : Int32))), (2, .int ((Int32.ofNat i) + (1 : Int32)))] [] g u (fun big n0 => sg_tn_9 big n0 g u a (Int32.ofNat i) a) ?_
      unfold s_ct
      rw [q_succ, if_pos hc1]
      exact ih (i + 1) _ (by omega)
    · refine q_step 5 4 [(0, .ref 20), (1, .int (a + (0 : Int32))), (2, .int ((Int32.ofNat i) + (1 : Int32)))] [] g u (fun big n0 => sg_tn_10 big n0 g u a (Int32.ofNat i) a) ?_
      unfold s_ct
      rw [q_succ, if_neg hc1]
      exact ih (i + 1) _ (by omega)
theorem b_atg20 (g : qM) (u : qW) {n : Nat} (hn : g 20 3 = Int32.ofNat n) (h6 : n ≤ 6) : q_BS 78 [.ref 20] g u (some (.int (s_ct (fun p => if g 21 p = g 24 p then (1 : Int32) else 0) n 0 0)), g, u) := by
  refine q_bx (mm := m_78) rfl (Nat.le_of_ble_eq_true rfl) rfl ?_
  refine q_step 4 4 [(0, .ref 20), (1, .int (0 : Int32)), (2, .int (0 : Int32))] [] g u (fun big n0 => sg_tn_11 big n0 g u) ?_
  exact atg20_l g u hn h6 n 0 0 (by omega)
theorem wig20_l (g : qM) (u : qW) {n : Nat} (hn : g 20 3 = Int32.ofNat n) (h6 : n ≤ 6) : ∀ k i a, i + k = n → q_EV m_100 4 [(0, .ref 20), (1, .int a), (2, .int (Int32.ofNat i))] [] g u (fun R => R = (some (.int (s_ct (fun p => if g 24 p = i_none then (0 : Int32) else 1) k i a)), g, u)) := by
  intro k
  induction k with
  | zero =>
    intro i a hi
    refine q_step 3 9 [(0, .ref 20), (1, .int a), (2, .int (Int32.ofNat i))] [.int (g 20 3), .int (Int32.ofNat i)] g u (fun big n0 => sg_tn_12 big n0 g u a (Int32.ofNat i)) ?_
    refine q_ic_ge rfl (fun (hc0 : (g 20 3) ≤ (Int32.ofNat i)) => ?_) (fun hc0 => absurd (show (g 20 3) ≤ (Int32.ofNat i) from by rw [hn, q_le (by omega) (by omega)]; omega) hc0)
    refine q_ret 2 (some (.int a), g, u) (fun _ _ => rfl) ?_
    rfl
  | succ k ih =>
    intro i a hi
    refine q_step 3 9 [(0, .ref 20), (1, .int a), (2, .int (Int32.ofNat i))] [.int (g 20 3), .int (Int32.ofNat i)] g u (fun big n0 => sg_tn_12 big n0 g u a (Int32.ofNat i)) ?_
    refine q_ic_ge rfl (fun hc0 => absurd (show (g 20 3) ≤ (Int32.ofNat i) from hc0) (fun z => by rw [hn, q_le (by omega) (by omega)] at z; omega)) (fun (hc0 : ¬ ((g 20 3) ≤ (Int32.ofNat i))) => ?_)
    refine q_step 4 18 [(0, .ref 20), (1, .int a), (2, .int (Int32.ofNat i))] [.int (Int32.ofNat i), .ref 24, .int a] g u (fun big n0 => sg_tn_13 big n0 g u a (Int32.ofNat i)) ?_
    refine q_iald (j := i) (q_ixn (by omega) (by omega)) rfl rfl ?_
    refine q_step 1 21 [(0, .ref 20), (1, .int a), (2, .int (Int32.ofNat i))] [.int (Int8.toInt32 (Int8.ofInt (-4))), .int (g 24 i), .int a] g u (fun big n0 => sg_tn_14 big n0 g u a (Int32.ofNat i) a (g 24 i)) ?_
    refine q_ic_eq rfl (fun (hc1 : (g 24 i) = (Int8.toInt32 (Int8.ofInt (-4)))) => ?_) (fun (hc1 : ¬ ((g 24 i) = (Int8.toInt32 (Int8.ofInt (-4))))) => ?_)
    · refine q_step 5 4 [(0, .ref 20), (1, .int (a + (0 : Int32))), (2, .int ((Int32.ofNat i) + (1 : Int32)))] [] g u (fun big n0 => sg_tn_15 big n0 g u a (Int32.ofNat i) a) ?_
      unfold s_ct
      rw [q_succ, if_pos hc1]
      exact ih (i + 1) _ (by omega)
    · refine q_step 6 4 [(0, .ref 20), (1, .int (a + (1 : Int32))), (2, .int ((Int32.ofNat i) + (1 : Int32)))] [] g u (fun big n0 => sg_tn_16 big n0 g u a (Int32.ofNat i) a) ?_
      unfold s_ct
      rw [q_succ, if_neg hc1]
      exact ih (i + 1) _ (by omega)
theorem b_wig20 (g : qM) (u : qW) {n : Nat} (hn : g 20 3 = Int32.ofNat n) (h6 : n ≤ 6) : q_BS 100 [.ref 20] g u (some (.int (s_ct (fun p => if g 24 p = i_none then (0 : Int32) else 1) n 0 0)), g, u) := by
  refine q_bx (mm := m_100) rfl (Nat.le_of_ble_eq_true rfl) rfl ?_
  refine q_step 4 4 [(0, .ref 20), (1, .int (0 : Int32)), (2, .int (0 : Int32))] [] g u (fun big n0 => sg_tn_17 big n0 g u) ?_
  exact wig20_l g u hn h6 n 0 0 (by omega)
theorem wim20_l (g : qM) (u : qW) {n : Nat} (hn : g 20 3 = Int32.ofNat n) (h6 : n ≤ 6) : ∀ k i a, i + k = n → q_EV m_144 4 [(0, .ref 20), (1, .int a), (2, .int (Int32.ofNat i))] [] g u (fun R => R = (some (.int (s_ct (fun p => if g 22 p = 0 then (1 : Int32) else 0) k i a)), g, u)) := by
  intro k
  induction k with
  | zero =>
    intro i a hi
    refine q_step 3 9 [(0, .ref 20), (1, .int a), (2, .int (Int32.ofNat i))] [.int (g 20 3), .int (Int32.ofNat i)] g u (fun big n0 => sg_tn_18 big n0 g u a (Int32.ofNat i)) ?_
    refine q_ic_ge rfl (fun (hc0 : (g 20 3) ≤ (Int32.ofNat i)) => ?_) (fun hc0 => absurd (show (g 20 3) ≤ (Int32.ofNat i) from by rw [hn, q_le (by omega) (by omega)]; omega) hc0)
    refine q_ret 2 (some (.int a), g, u) (fun _ _ => rfl) ?_
    rfl
  | succ k ih =>
    intro i a hi
    refine q_step 3 9 [(0, .ref 20), (1, .int a), (2, .int (Int32.ofNat i))] [.int (g 20 3), .int (Int32.ofNat i)] g u (fun big n0 => sg_tn_18 big n0 g u a (Int32.ofNat i)) ?_
    refine q_ic_ge rfl (fun hc0 => absurd (show (g 20 3) ≤ (Int32.ofNat i) from hc0) (fun z => by rw [hn, q_le (by omega) (by omega)] at z; omega)) (fun (hc0 : ¬ ((g 20 3) ≤ (Int32.ofNat i))) => ?_)
    refine q_step 4 18 [(0, .ref 20), (1, .int a), (2, .int (Int32.ofNat i))] [.int (Int32.ofNat i), .ref 22, .int a] g u (fun big n0 => sg_tn_19 big n0 g u a (Int32.ofNat i)) ?_
    refine q_iald (j := i) (q_ixn (by omega) (by omega)) rfl rfl ?_
    refine q_if_ne rfl (fun (hc1 : (g 22 i) = 0) => ?_) (fun (hc1 : ¬ ((g 22 i) = 0)) => ?_)
    · refine q_step 6 4 [(0, .ref 20), (1, .int (a + (1 : Int32))), (2, .int ((Int32.ofNat i) + (1 : Int32)))] [] g u (fun big n0 => sg_tn_20 big n0 g u a (Int32.ofNat i) a) ?_
      unfold s_ct
      rw [q_succ, if_pos hc1]
      exact ih (i + 1) _ (by omega)
    · refine q_step 5 4 [(0, .ref 20), (1, .int (a + (0 : Int32))), (2, .int ((Int32.ofNat i) + (1 : Int32)))] [] g u (fun big n0 => sg_tn_21 big n0 g u a (Int32.ofNat i) a) ?_
      unfold s_ct
      rw [q_succ, if_neg hc1]
      exact ih (i + 1) _ (by omega)
theorem b_wim20 (g : qM) (u : qW) {n : Nat} (hn : g 20 3 = Int32.ofNat n) (h6 : n ≤ 6) : q_BS 144 [.ref 20] g u (some (.int (s_ct (fun p => if g 22 p = 0 then (1 : Int32) else 0) n 0 0)), g, u) := by
  refine q_bx (mm := m_144) rfl (Nat.le_of_ble_eq_true rfl) rfl ?_
  refine q_step 4 4 [(0, .ref 20), (1, .int (0 : Int32)), (2, .int (0 : Int32))] [] g u (fun big n0 => sg_tn_22 big n0 g u) ?_
  exact wim20_l g u hn h6 n 0 0 (by omega)
theorem wi_35 (g : qM) (u : qW) {n : Nat} (x : Int32) (hn : g 35 3 = Int32.ofNat n) (h6 : n ≤ 6) : ∀ k i, i + k = n → q_EV m_30 2 [(0, .ref 35), (1, .int x), (2, .int (Int32.ofNat i))] [] g u (fun R => R = (some (.int (s_w1 (g 36) x k i)), g, u)) := by
  intro k
  induction k with
  | zero =>
    intro i hi
    refine q_step 3 7 [(0, .ref 35), (1, .int x), (2, .int (Int32.ofNat i))] [.int (g 35 3), .int (Int32.ofNat i)] g u (fun big n0 => sg_tn_23 big n0 g u x (Int32.ofNat i)) ?_
    refine q_ic_ge rfl (fun (hc0 : (g 35 3) ≤ (Int32.ofNat i)) => ?_) (fun hc0 => absurd (show (g 35 3) ≤ (Int32.ofNat i) from by rw [hn, q_le (by omega) (by omega)]; omega) hc0)
    refine q_ret 2 (some (.int (Int8.toInt32 (Int8.ofInt (-4)))), g, u) (fun _ _ => rfl) ?_
    rfl
  | succ k ih =>
    intro i hi
    refine q_step 3 7 [(0, .ref 35), (1, .int x), (2, .int (Int32.ofNat i))] [.int (g 35 3), .int (Int32.ofNat i)] g u (fun big n0 => sg_tn_23 big n0 g u x (Int32.ofNat i)) ?_
    refine q_ic_ge rfl (fun hc0 => absurd (show (g 35 3) ≤ (Int32.ofNat i) from hc0) (fun z => by rw [hn, q_le (by omega) (by omega)] at z; omega)) (fun (hc0 : ¬ ((g 35 3) ≤ (Int32.ofNat i))) => ?_)
    refine q_step 3 15 [(0, .ref 35), (1, .int x), (2, .int (Int32.ofNat i))] [.int (Int32.ofNat i), .ref 36] g u (fun big n0 => sg_tn_24 big n0 g u x (Int32.ofNat i)) ?_
    refine q_iald (j := i) (q_ixn (by omega) (by omega)) rfl rfl ?_
    refine q_step 1 17 [(0, .ref 35), (1, .int x), (2, .int (Int32.ofNat i))] [.int x, .int (g 36 i)] g u (fun big n0 => sg_tn_25 big n0 g u x (Int32.ofNat i) (g 36 i)) ?_
    refine q_ic_ne rfl (fun (hc1 : (g 36 i) = x) => ?_) (fun (hc1 : ¬ ((g 36 i) = x)) => ?_)
    · refine q_ret 2 (some (.int (Int32.ofNat i)), g, u) (fun _ _ => rfl) ?_
      unfold s_w1
      rw [if_pos hc1]
    · refine q_step 2 2 [(0, .ref 35), (1, .int x), (2, .int ((Int32.ofNat i) + (1 : Int32)))] [] g u (fun big n0 => sg_tn_26 big n0 g u x (Int32.ofNat i)) ?_
      rw [q_succ]
      unfold s_w1
      rw [if_neg hc1]
      exact ih (i + 1) (by omega)
theorem b_who35 (x : Int32) (g : qM) (u : qW) {n : Nat} (hn : g 35 3 = Int32.ofNat n) (h6 : n ≤ 6) : q_BS 30 [.ref 35, .int x] g u (some (.int (s_w1 (g 36) x n 0)), g, u) := by
  refine q_bx (mm := m_30) rfl (Nat.le_of_ble_eq_true rfl) rfl ?_
  refine q_step 2 2 [(0, .ref 35), (1, .int x), (2, .int (0 : Int32))] [] g u (fun big n0 => sg_tn_27 big n0 g u x) ?_
  exact wi_35 g u x hn h6 n 0 (by omega)
theorem atg35_l (g : qM) (u : qW) {n : Nat} (hn : g 35 3 = Int32.ofNat n) (h6 : n ≤ 6) : ∀ k i a, i + k = n → q_EV m_78 4 [(0, .ref 35), (1, .int a), (2, .int (Int32.ofNat i))] [] g u (fun R => R = (some (.int (s_ct (fun p => if g 36 p = g 39 p then (1 : Int32) else 0) k i a)), g, u)) := by
  intro k
  induction k with
  | zero =>
    intro i a hi
    refine q_step 3 9 [(0, .ref 35), (1, .int a), (2, .int (Int32.ofNat i))] [.int (g 35 3), .int (Int32.ofNat i)] g u (fun big n0 => sg_tn_28 big n0 g u a (Int32.ofNat i)) ?_
    refine q_ic_ge rfl (fun (hc0 : (g 35 3) ≤ (Int32.ofNat i)) => ?_) (fun hc0 => absurd (show (g 35 3) ≤ (Int32.ofNat i) from by rw [hn, q_le (by omega) (by omega)]; omega) hc0)
    refine q_ret 2 (some (.int a), g, u) (fun _ _ => rfl) ?_
    rfl
  | succ k ih =>
    intro i a hi
    refine q_step 3 9 [(0, .ref 35), (1, .int a), (2, .int (Int32.ofNat i))] [.int (g 35 3), .int (Int32.ofNat i)] g u (fun big n0 => sg_tn_28 big n0 g u a (Int32.ofNat i)) ?_
    refine q_ic_ge rfl (fun hc0 => absurd (show (g 35 3) ≤ (Int32.ofNat i) from hc0) (fun z => by rw [hn, q_le (by omega) (by omega)] at z; omega)) (fun (hc0 : ¬ ((g 35 3) ≤ (Int32.ofNat i))) => ?_)
    refine q_step 4 18 [(0, .ref 35), (1, .int a), (2, .int (Int32.ofNat i))] [.int (Int32.ofNat i), .ref 36, .int a] g u (fun big n0 => sg_tn_29 big n0 g u a (Int32.ofNat i)) ?_
    refine q_iald (j := i) (q_ixn (by omega) (by omega)) rfl rfl ?_
    refine q_step 3 24 [(0, .ref 35), (1, .int a), (2, .int (Int32.ofNat i))] [.int (Int32.ofNat i), .ref 39, .int (g 36 i), .int a] g u (fun big n0 => sg_tn_30 big n0 g u a (Int32.ofNat i) a (g 36 i)) ?_
    refine q_iald (j := i) (q_ixn (by omega) (by omega)) rfl rfl ?_
    refine q_ic_ne rfl (fun (hc1 : (g 36 i) = (g 39 i)) => ?_) (fun (hc1 : ¬ ((g 36 i) = (g 39 i))) => ?_)
    · refine q_step 6 4 [(0, .ref 35), (1, .int (a + (1 : Int32))), (2, .int ((Int32.ofNat i) + (1 : Int32)))] [] g u (fun big n0 => sg_tn_31 big n0 g u a (Int32.ofNat i) a) ?_
      unfold s_ct
      rw [q_succ, if_pos hc1]
      exact ih (i + 1) _ (by omega)
    · refine q_step 5 4 [(0, .ref 35), (1, .int (a + (0 : Int32))), (2, .int ((Int32.ofNat i) + (1 : Int32)))] [] g u (fun big n0 => sg_tn_32 big n0 g u a (Int32.ofNat i) a) ?_
      unfold s_ct
      rw [q_succ, if_neg hc1]
      exact ih (i + 1) _ (by omega)
theorem b_atg35 (g : qM) (u : qW) {n : Nat} (hn : g 35 3 = Int32.ofNat n) (h6 : n ≤ 6) : q_BS 78 [.ref 35] g u (some (.int (s_ct (fun p => if g 36 p = g 39 p then (1 : Int32) else 0) n 0 0)), g, u) := by
  refine q_bx (mm := m_78) rfl (Nat.le_of_ble_eq_true rfl) rfl ?_
  refine q_step 4 4 [(0, .ref 35), (1, .int (0 : Int32)), (2, .int (0 : Int32))] [] g u (fun big n0 => sg_tn_33 big n0 g u) ?_
  exact atg35_l g u hn h6 n 0 0 (by omega)
theorem wig35_l (g : qM) (u : qW) {n : Nat} (hn : g 35 3 = Int32.ofNat n) (h6 : n ≤ 6) : ∀ k i a, i + k = n → q_EV m_100 4 [(0, .ref 35), (1, .int a), (2, .int (Int32.ofNat i))] [] g u (fun R => R = (some (.int (s_ct (fun p => if g 39 p = i_none then (0 : Int32) else 1) k i a)), g, u)) := by
  intro k
  induction k with
  | zero =>
    intro i a hi
    refine q_step 3 9 [(0, .ref 35), (1, .int a), (2, .int (Int32.ofNat i))] [.int (g 35 3), .int (Int32.ofNat i)] g u (fun big n0 => sg_tn_34 big n0 g u a (Int32.ofNat i)) ?_
    refine q_ic_ge rfl (fun (hc0 : (g 35 3) ≤ (Int32.ofNat i)) => ?_) (fun hc0 => absurd (show (g 35 3) ≤ (Int32.ofNat i) from by rw [hn, q_le (by omega) (by omega)]; omega) hc0)
    refine q_ret 2 (some (.int a), g, u) (fun _ _ => rfl) ?_
    rfl
  | succ k ih =>
    intro i a hi
    refine q_step 3 9 [(0, .ref 35), (1, .int a), (2, .int (Int32.ofNat i))] [.int (g 35 3), .int (Int32.ofNat i)] g u (fun big n0 => sg_tn_34 big n0 g u a (Int32.ofNat i)) ?_
    refine q_ic_ge rfl (fun hc0 => absurd (show (g 35 3) ≤ (Int32.ofNat i) from hc0) (fun z => by rw [hn, q_le (by omega) (by omega)] at z; omega)) (fun (hc0 : ¬ ((g 35 3) ≤ (Int32.ofNat i))) => ?_)
    refine q_step 4 18 [(0, .ref 35), (1, .int a), (2, .int (Int32.ofNat i))] [.int (Int32.ofNat i), .ref 39, .int a] g u (fun big n0 => sg_tn_35 big n0 g u a (Int32.ofNat i)) ?_
    refine q_iald (j := i) (q_ixn (by omega) (by omega)) rfl rfl ?_
    refine q_step 1 21 [(0, .ref 35), (1, .int a), (2, .int (Int32.ofNat i))] [.int (Int8.toInt32 (Int8.ofInt (-4))), .int (g 39 i), .int a] g u (fun big n0 => sg_tn_36 big n0 g u a (Int32.ofNat i) a (g 39 i)) ?_
    refine q_ic_eq rfl (fun (hc1 : (g 39 i) = (Int8.toInt32 (Int8.ofInt (-4)))) => ?_) (fun (hc1 : ¬ ((g 39 i) = (Int8.toInt32 (Int8.ofInt (-4))))) => ?_)
    · refine q_step 5 4 [(0, .ref 35), (1, .int (a + (0 : Int32))), (2, .int ((Int32.ofNat i) + (1 : Int32)))] [] g u (fun big n0 => sg_tn_37 big n0 g u a (Int32.ofNat i) a) ?_
      unfold s_ct
      rw [q_succ, if_pos hc1]
      exact ih (i + 1) _ (by omega)
    · refine q_step 6 4 [(0, .ref 35), (1, .int (a + (1 : Int32))), (2, .int ((Int32.ofNat i) + (1 : Int32)))] [] g u (fun big n0 => sg_tn_38 big n0 g u a (Int32.ofNat i) a) ?_
      unfold s_ct
      rw [q_succ, if_neg hc1]
      exact ih (i + 1) _ (by omega)
theorem b_wig35 (g : qM) (u : qW) {n : Nat} (hn : g 35 3 = Int32.ofNat n) (h6 : n ≤ 6) : q_BS 100 [.ref 35] g u (some (.int (s_ct (fun p => if g 39 p = i_none then (0 : Int32) else 1) n 0 0)), g, u) := by
  refine q_bx (mm := m_100) rfl (Nat.le_of_ble_eq_true rfl) rfl ?_
  refine q_step 4 4 [(0, .ref 35), (1, .int (0 : Int32)), (2, .int (0 : Int32))] [] g u (fun big n0 => sg_tn_39 big n0 g u) ?_
  exact wig35_l g u hn h6 n 0 0 (by omega)
theorem wim35_l (g : qM) (u : qW) {n : Nat} (hn : g 35 3 = Int32.ofNat n) (h6 : n ≤ 6) : ∀ k i a, i + k = n → q_EV m_144 4 [(0, .ref 35), (1, .int a), (2, .int (Int32.ofNat i))] [] g u (fun R => R = (some (.int (s_ct (fun p => if g 37 p = 0 then (1 : Int32) else 0) k i a)), g, u)) := by
  intro k
  induction k with
  | zero =>
    intro i a hi
    refine q_step 3 9 [(0, .ref 35), (1, .int a), (2, .int (Int32.ofNat i))] [.int (g 35 3), .int (Int32.ofNat i)] g u (fun big n0 => sg_tn_40 big n0 g u a (Int32.ofNat i)) ?_
    refine q_ic_ge rfl (fun (hc0 : (g 35 3) ≤ (Int32.ofNat i)) => ?_) (fun hc0 => absurd (show (g 35 3) ≤ (Int32.ofNat i) from by rw [hn, q_le (by omega) (by omega)]; omega) hc0)
    refine q_ret 2 (some (.int a), g, u) (fun _ _ => rfl) ?_
    rfl
  | succ k ih =>
    intro i a hi
    refine q_step 3 9 [(0, .ref 35), (1, .int a), (2, .int (Int32.ofNat i))] [.int (g 35 3), .int (Int32.ofNat i)] g u (fun big n0 => sg_tn_40 big n0 g u a (Int32.ofNat i)) ?_
    refine q_ic_ge rfl (fun hc0 => absurd (show (g 35 3) ≤ (Int32.ofNat i) from hc0) (fun z => by rw [hn, q_le (by omega) (by omega)] at z; omega)) (fun (hc0 : ¬ ((g 35 3) ≤ (Int32.ofNat i))) => ?_)
    refine q_step 4 18 [(0, .ref 35), (1, .int a), (2, .int (Int32.ofNat i))] [.int (Int32.ofNat i), .ref 37, .int a] g u (fun big n0 => sg_tn_41 big n0 g u a (Int32.ofNat i)) ?_
    refine q_iald (j := i) (q_ixn (by omega) (by omega)) rfl rfl ?_
    refine q_if_ne rfl (fun (hc1 : (g 37 i) = 0) => ?_) (fun (hc1 : ¬ ((g 37 i) = 0)) => ?_)
    · refine q_step 6 4 [(0, .ref 35), (1, .int (a + (1 : Int32))), (2, .int ((Int32.ofNat i) + (1 : Int32)))] [] g u (fun big n0 => sg_tn_42 big n0 g u a (Int32.ofNat i) a) ?_
      unfold s_ct
      rw [q_succ, if_pos hc1]
      exact ih (i + 1) _ (by omega)
    · refine q_step 5 4 [(0, .ref 35), (1, .int (a + (0 : Int32))), (2, .int ((Int32.ofNat i) + (1 : Int32)))] [] g u (fun big n0 => sg_tn_43 big n0 g u a (Int32.ofNat i) a) ?_
      unfold s_ct
      rw [q_succ, if_neg hc1]
      exact ih (i + 1) _ (by omega)
theorem b_wim35 (g : qM) (u : qW) {n : Nat} (hn : g 35 3 = Int32.ofNat n) (h6 : n ≤ 6) : q_BS 144 [.ref 35] g u (some (.int (s_ct (fun p => if g 37 p = 0 then (1 : Int32) else 0) n 0 0)), g, u) := by
  refine q_bx (mm := m_144) rfl (Nat.le_of_ble_eq_true rfl) rfl ?_
  refine q_step 4 4 [(0, .ref 35), (1, .int (0 : Int32)), (2, .int (0 : Int32))] [] g u (fun big n0 => sg_tn_44 big n0 g u) ?_
  exact wim35_l g u hn h6 n 0 0 (by omega)
theorem ratg_l (g : qM) (u : qW) {n : Nat} (hn : g 70 27 = Int32.ofNat n) (h6 : n ≤ 6) : ∀ k i a, i + k = n → q_EV m_197 4 [(0, .ref 70), (1, .int a), (2, .int (Int32.ofNat i))] [] g u (fun R => R = (some (.int (s_ct (fun p => if g 78 p = i_none then (0 : Int32) else if g 75 p = g 78 p then 1 else 0) k i a)), g, u)) := by
  intro k
  induction k with
  | zero =>
    intro i a hi
    refine q_step 3 9 [(0, .ref 70), (1, .int a), (2, .int (Int32.ofNat i))] [.int (g 70 27), .int (Int32.ofNat i)] g u (fun big n0 => sg_tn_45 big n0 g u a (Int32.ofNat i)) ?_
    refine q_ic_ge rfl (fun (hc0 : (g 70 27) ≤ (Int32.ofNat i)) => ?_) (fun hc0 => absurd (show (g 70 27) ≤ (Int32.ofNat i) from by rw [hn, q_le (by omega) (by omega)]; omega) hc0)
    refine q_ret 2 (some (.int a), g, u) (fun _ _ => rfl) ?_
    rfl
  | succ k ih =>
    intro i a hi
    refine q_step 3 9 [(0, .ref 70), (1, .int a), (2, .int (Int32.ofNat i))] [.int (g 70 27), .int (Int32.ofNat i)] g u (fun big n0 => sg_tn_45 big n0 g u a (Int32.ofNat i)) ?_
    refine q_ic_ge rfl (fun hc0 => absurd (show (g 70 27) ≤ (Int32.ofNat i) from hc0) (fun z => by rw [hn, q_le (by omega) (by omega)] at z; omega)) (fun (hc0 : ¬ ((g 70 27) ≤ (Int32.ofNat i))) => ?_)
    refine q_step 4 18 [(0, .ref 70), (1, .int a), (2, .int (Int32.ofNat i))] [.int (Int32.ofNat i), .ref 78, .int a] g u (fun big n0 => sg_tn_46 big n0 g u a (Int32.ofNat i)) ?_
    refine q_iald (j := i) (q_ixn (by omega) (by omega)) rfl rfl ?_
    refine q_step 1 21 [(0, .ref 70), (1, .int a), (2, .int (Int32.ofNat i))] [.int (Int8.toInt32 (Int8.ofInt (-4))), .int (g 78 i), .int a] g u (fun big n0 => sg_tn_47 big n0 g u a (Int32.ofNat i) a (g 78 i)) ?_
    refine q_ic_eq rfl (fun (hc1 : (g 78 i) = (Int8.toInt32 (Int8.ofInt (-4)))) => ?_) (fun (hc1 : ¬ ((g 78 i) = (Int8.toInt32 (Int8.ofInt (-4))))) => ?_)
    · refine q_step 1 44 [(0, .ref 70), (1, .int a), (2, .int (Int32.ofNat i))] [.int (0 : Int32), .int a] g u (fun big n0 => sg_tn_48 big n0 g u a (Int32.ofNat i) a) ?_
      refine q_call (M2 := 164) (rest := [.int a]) (b_flag0 _ _) (fun _ _ => rfl) ?_
      refine q_step 4 4 [(0, .ref 70), (1, .int (a + (0 : Int32))), (2, .int ((Int32.ofNat i) + (1 : Int32)))] [] g u (fun big n0 => sg_tn_49 big n0 g u a (Int32.ofNat i) a) ?_
      unfold s_ct
      rw [q_succ, if_pos hc1]
      exact ih (i + 1) _ (by omega)
    · refine q_step 3 29 [(0, .ref 70), (1, .int a), (2, .int (Int32.ofNat i))] [.int (Int32.ofNat i), .ref 75, .int a] g u (fun big n0 => sg_tn_50 big n0 g u a (Int32.ofNat i) a) ?_
      refine q_iald (j := i) (q_ixn (by omega) (by omega)) rfl rfl ?_
      refine q_step 3 35 [(0, .ref 70), (1, .int a), (2, .int (Int32.ofNat i))] [.int (Int32.ofNat i), .ref 78, .int (g 75 i), .int a] g u (fun big n0 => sg_tn_51 big n0 g u a (Int32.ofNat i) a (g 75 i)) ?_
      refine q_iald (j := i) (q_ixn (by omega) (by omega)) rfl rfl ?_
      refine q_ic_ne rfl (fun (hc2 : (g 75 i) = (g 78 i)) => ?_) (fun (hc2 : ¬ ((g 75 i) = (g 78 i))) => ?_)
      · refine q_step 2 44 [(0, .ref 70), (1, .int a), (2, .int (Int32.ofNat i))] [.int (1 : Int32), .int a] g u (fun big n0 => sg_tn_52 big n0 g u a (Int32.ofNat i) a) ?_
        refine q_call (M2 := 164) (rest := [.int a]) (b_flag1 _ _) (fun _ _ => rfl) ?_
        refine q_step 4 4 [(0, .ref 70), (1, .int (a + (1 : Int32))), (2, .int ((Int32.ofNat i) + (1 : Int32)))] [] g u (fun big n0 => sg_tn_53 big n0 g u a (Int32.ofNat i) a) ?_
        unfold s_ct
        rw [q_succ, if_neg hc1, if_pos hc2]
        exact ih (i + 1) _ (by omega)
      · refine q_step 1 44 [(0, .ref 70), (1, .int a), (2, .int (Int32.ofNat i))] [.int (0 : Int32), .int a] g u (fun big n0 => sg_tn_48 big n0 g u a (Int32.ofNat i) a) ?_
        refine q_call (M2 := 164) (rest := [.int a]) (b_flag0 _ _) (fun _ _ => rfl) ?_
        refine q_step 4 4 [(0, .ref 70), (1, .int (a + (0 : Int32))), (2, .int ((Int32.ofNat i) + (1 : Int32)))] [] g u (fun big n0 => sg_tn_49 big n0 g u a (Int32.ofNat i) a) ?_
        unfold s_ct
        rw [q_succ, if_neg hc1, if_neg hc2]
        exact ih (i + 1) _ (by omega)
theorem b_ratg (g : qM) (u : qW) {n : Nat} (hn : g 70 27 = Int32.ofNat n) (h6 : n ≤ 6) : q_BS 197 [.ref 70] g u (some (.int (s_ct (fun p => if g 78 p = i_none then (0 : Int32) else if g 75 p = g 78 p then 1 else 0) n 0 0)), g, u) := by
  refine q_bx (mm := m_197) rfl (Nat.le_of_ble_eq_true rfl) rfl ?_
  refine q_step 4 4 [(0, .ref 70), (1, .int (0 : Int32)), (2, .int (0 : Int32))] [] g u (fun big n0 => sg_tn_54 big n0 g u) ?_
  exact ratg_l g u hn h6 n 0 0 (by omega)
end
section
/-! GHOSTS: a reference's cells r, which a search of either side is held against. -/
/-- r is in order: n ones in a town W by H -/
def w_ok (n W H : Nat) (r : qM) : Prop := (2 ≤ W ∧ W ≤ 5 ∧ 2 ≤ H ∧ H ≤ 5 ∧ n ≤ 6) ∧ r 70 27 = Int32.ofNat n ∧ r 70 2 = Int32.ofNat W ∧ r 70 3 = Int32.ofNat H ∧ (∀ p, p < n → ∃ C, C < W * H ∧ r 75 p = Int32.ofNat C) ∧ (∀ p q, p < n → q < n → p ≠ q → r 75 p ≠ r 75 q) ∧ (∀ p, p < n → s_bit (r 71 20) (r 75 p) = 0) ∧ (∀ p, p < n → r 76 p = 0 ∨ r 76 p = 1 ∨ r 76 p = 2 ∨ r 76 p = 3) ∧ (∀ p, p < n → r 77 p = 0 ∨ r 77 p = 1)
/-- the reference's cells g tell of the same as r -/
def w_sm (n : Nat) (g r : qM) : Prop := (g 70 27 = r 70 27 ∧ g 70 2 = r 70 2 ∧ g 70 3 = r 70 3 ∧ g 71 20 = r 71 20 ∧ g 71 25 = r 71 25) ∧ (∀ d, 1 ≤ d → d ≤ 4 → g 71 (20 + d) = r 71 (20 + d)) ∧ ∀ p, p < n → g 75 p = r 75 p ∧ g 76 p = r 76 p ∧ g 77 p = r 77 p
/-- the class's town T tells of the same as r -/
def w_cs (T n : Nat) (g r : qM) : Prop := (g T 3 = r 70 27 ∧ g T 0 = r 70 2 ∧ g T 1 = r 70 3 ∧ g T 2 = r 71 20 ∧ g T 4 = r 71 25) ∧ (∀ d, 1 ≤ d → d ≤ 4 → g (T + 5) d = r 71 (20 + d)) ∧ ∀ p, p < n → g (T + 1) p = r 75 p ∧ g (T + 2) p = r 76 p ∧ g (T + 3) p = r 77 p
/-- what a class's search may write: 28 to 43 -/
def w_fc (g g' : qM) : Prop := ∀ b, b < 28 ∨ 43 < b → g' b = g b
/-- what a reference's search may write -/
def w_fr (g g' : qM) : Prop := (∀ b, b < 70 ∨ (70 < b ∧ b < 75) ∨ (83 < b ∧ b < 87) ∨ 87 < b → g' b = g b) ∧ ∀ j, j ≠ 27 → g' 70 j = g 70 j
theorem w_fc_rfl (g : qM) : w_fc g g := fun _ _ => rfl
theorem w_fc.trans {a b c : qM} (h1 : w_fc a b) (h2 : w_fc b c) : w_fc a c := fun x hx => (h2 x hx).trans (h1 x hx)
theorem w_fc.up {g g' : qM} (h : w_fc g g') {a j : Nat} {x : Int32} (ha : 28 ≤ a ∧ a ≤ 43) : w_fc g (q_up g' a j x) := fun b hb => by
  rw [q_up_ne (by omega)]
  exact h b hb
theorem w_fr_rfl (g : qM) : w_fr g g := ⟨fun _ _ => rfl, fun _ _ => rfl⟩
theorem w_fr.trans {a b c : qM} (h1 : w_fr a b) (h2 : w_fr b c) : w_fr a c := ⟨fun x hx => (h2.1 x hx).trans (h1.1 x hx), fun x hx => (h2.2 x hx).trans (h1.2 x hx)⟩
theorem w_fr.up {g g' : qM} (h : w_fr g g') {a j : Nat} {x : Int32} (ha : (75 ≤ a ∧ a ≤ 83) ∨ a = 87) : w_fr g (q_up g' a j x) := ⟨fun b hb => by
  rw [q_up_ne (by omega)]
  exact h.1 b hb, fun k hk => by
  rw [q_up_ne (by omega)]
  exact h.2 k hk⟩
theorem w_fr.up27 {g g' : qM} (h : w_fr g g') {x : Int32} : w_fr g (q_up g' 70 27 x) := ⟨fun b hb => by
  rw [q_up_ne (by omega)]
  exact h.1 b hb, fun k hk => by
  rw [q_up_at, if_neg hk]
  exact h.2 k hk⟩
/-- how the two stand to the rows before -/
theorem w_vi {T n W H : Nat} {g r : qM} (h : w_ok n W H r) (hc : w_cs T n g r) : s_vw T n W H g r ∧ s_iv T n W H g := by
  obtain ⟨_, h1, h2, h3, h4, h5, h6, h7, h8⟩ := h
  obtain ⟨⟨c1, c2, c3, c4, c5⟩, c6, c7⟩ := hc
  refine ⟨⟨c1.trans h1, h1, c2.trans h2, c3.trans h3, h2, h3, c4.symm, c5.symm, fun d a b => (c6 d a b).symm, fun p hp => (c7 p hp).1.symm, fun p hp => (c7 p hp).2.1.symm, fun p hp => (c7 p hp).2.2.symm⟩, fun p hp => ?_, fun p q hp hq hpq => ?_, fun p hp => ?_, fun p hp => ?_, fun p hp => ?_⟩
  · obtain ⟨C, hC, e⟩ := h4 p hp
    exact ⟨C, hC, (c7 p hp).1.trans e⟩
  · rw [(c7 p hp).1, (c7 q hq).1]
    exact h5 p q hp hq hpq
  · rw [c4, (c7 p hp).1]
    exact h6 p hp
  · rw [(c7 p hp).2.1]
    exact h7 p hp
  · rw [(c7 p hp).2.2]
    exact h8 p hp
theorem w_iv {T n W H : Nat} {g r : qM} (hb : 2 ≤ W ∧ W ≤ 5 ∧ 2 ≤ H ∧ H ≤ 5 ∧ n ≤ 6) (hv : s_vw T n W H g r) (hi : s_iv T n W H g) : w_ok n W H r ∧ w_cs T n g r := by
  obtain ⟨v1, v2, v3, v4, v5, v6, v7, v8, v9, v10, v11, v12⟩ := hv
  obtain ⟨i1, i2, i3, i4, i5⟩ := hi
  refine ⟨⟨hb, v2, v5, v6, fun p hp => ?_, fun p q hp hq hpq => ?_, fun p hp => ?_, fun p hp => ?_, fun p hp => ?_⟩, ⟨v1.trans v2.symm, v3.trans v5.symm, v4.trans v6.symm, v7.symm, v8.symm⟩, fun d a b => (v9 d a b).symm, fun p hp => ⟨(v10 p hp).symm, (v11 p hp).symm, (v12 p hp).symm⟩⟩
  · obtain ⟨C, hC, e⟩ := i1 p hp
    exact ⟨C, hC, (v10 p hp).trans e⟩
  · rw [v10 p hp, v10 q hq]
    exact i2 p q hp hq hpq
  · rw [v7, v10 p hp]
    exact i3 p hp
  · rw [v11 p hp]
    exact i4 p hp
  · rw [v12 p hp]
    exact i5 p hp
theorem w_tws {T n W H : Nat} {g r : qM} (h : w_ok n W H r) (hc : w_cs T n g r) : s_tw T n W H g := ⟨(w_vi h hc).1.1, (w_vi h hc).1.2.2.1, (w_vi h hc).1.2.2.2.1, (w_vi h hc).2⟩
/-- a class's cells with r in the town 35 -/
def w_emb (r : qM) : qM := fun a j => if a = 35 then (if j = 3 then r 70 27 else if j = 0 then r 70 2 else if j = 1 then r 70 3 else if j = 2 then r 71 20 else if j = 4 then r 71 25 else 0) else if a = 36 then r 75 j else if a = 37 then r 76 j else if a = 38 then r 77 j else if a = 39 then r 78 j else if a = 40 then r 71 (20 + j) else 0
theorem w_emb_cs (n : Nat) (r : qM) : w_cs 35 n (w_emb r) r := ⟨⟨rfl, rfl, rfl, rfl, rfl⟩, fun _ _ _ => rfl, fun _ _ => ⟨rfl, rfl, rfl⟩⟩
theorem w_cs_sm {T n : Nat} {g r r' : qM} (hc : w_cs T n g r) (hs : w_sm n r' r) : w_cs T n g r' := by
  obtain ⟨⟨c1, c2, c3, c4, c5⟩, c6, c7⟩ := hc
  obtain ⟨⟨s1, s2, s3, s4, s5⟩, s6, s7⟩ := hs
  exact ⟨⟨c1.trans s1.symm, c2.trans s2.symm, c3.trans s3.symm, c4.trans s4.symm, c5.trans s5.symm⟩, fun d a b => (c6 d a b).trans (s6 d a b).symm, fun p hp => ⟨(c7 p hp).1.trans (s7 p hp).1.symm, (c7 p hp).2.1.trans (s7 p hp).2.1.symm, (c7 p hp).2.2.trans (s7 p hp).2.2.symm⟩⟩
theorem w_sm_cs {T n : Nat} {g r r' : qM} (h1 : w_cs T n g r) (h2 : w_cs T n g r') : w_sm n r' r := by
  obtain ⟨⟨c1, c2, c3, c4, c5⟩, c6, c7⟩ := h1
  obtain ⟨⟨s1, s2, s3, s4, s5⟩, s6, s7⟩ := h2
  exact ⟨⟨s1.symm.trans c1, s2.symm.trans c2, s3.symm.trans c3, s4.symm.trans c4, s5.symm.trans c5⟩, fun d a b => (s6 d a b).symm.trans (c6 d a b), fun p hp => ⟨(s7 p hp).1.symm.trans (c7 p hp).1, (s7 p hp).2.1.symm.trans (c7 p hp).2.1, (s7 p hp).2.2.symm.trans (c7 p hp).2.2⟩⟩
theorem w_sm_rfl (n : Nat) (r : qM) : w_sm n r r := ⟨⟨rfl, rfl, rfl, rfl, rfl⟩, fun _ _ _ => rfl, fun _ _ => ⟨rfl, rfl, rfl⟩⟩
theorem w_ok_sm {n W H : Nat} {g r : qM} (h : w_ok n W H r) (hs : w_sm n g r) : w_ok n W H g := by
  have hv := w_vi h (w_emb_cs n r)
  have hc := w_cs_sm (w_emb_cs n r) hs
  obtain ⟨v1, v2, v3, v4, v5, v6, v7, v8, v9, v10, v11, v12⟩ := hv.1
  obtain ⟨⟨c1, c2, c3, c4, c5⟩, c6, c7⟩ := hc
  exact (w_iv h.1 ⟨v1, c1.symm.trans v1, v3, v4, c2.symm.trans v3, c3.symm.trans v4, c4.symm, c5.symm, fun d a b => (c6 d a b).symm, fun p hp => (c7 p hp).1.symm, fun p hp => (c7 p hp).2.1.symm, fun p hp => (c7 p hp).2.2.symm⟩ hv.2).1
/-! frames of the STEPS -/
theorem s_step_g {T n : Nat} {g : qM} {b : Nat} (h1 : b < 28 ∨ 33 < b) (h2 : b ≠ T ∧ b ≠ T + 1 ∧ b ≠ T + 2) : s_step T n g b = g b := by
  funext j
  unfold s_step
  rw [q_up_ne h2.1]
  show (if b = T + 2 then _ else if b = 28 then _ else s_move T n (s_wg T n g) b j) = _
  rw [if_neg h2.2.2, if_neg (by omega)]
  show (if b = T + 1 then _ else if b = 29 then _ else if b = 30 then _ else if b = 28 then _ else s_wg T n g b j) = _
  rw [if_neg h2.2.1, if_neg (by omega), if_neg (by omega), if_neg (by omega)]
  show (if b = 33 then _ else s_H (g T 0) (g (T + 1)) (g (T + 2)) (g (T + 5)) n g b j) = _
  rw [if_neg (by omega)]
  show (if b = 31 then _ else if b = 32 then _ else s_W1 (g T 0) (g (T + 1)) n g b j) = _
  rw [if_neg (by omega), if_neg (by omega)]
  show (if b = 29 then _ else if b = 30 then _ else if b = 31 then _ else if b = 32 then _ else g b j) = _
  rw [if_neg (by omega), if_neg (by omega), if_neg (by omega), if_neg (by omega)]
theorem s_step_35 {n : Nat} {g : qM} : w_fc g (s_step 35 n g) := fun b hb => s_step_g (by omega) (by omega)
theorem s_tss_35 {n : Nat} : ∀ k g, w_fc g (s_tss 35 n k g)
  | 0, g => w_fc_rfl g
  | k + 1, g => by
    unfold s_tss
    split
    · exact s_step_35
    · exact w_fc.trans s_step_35 (s_tss_35 k _)
theorem s_rst_g {n : Nat} {g : qM} {b : Nat} (h : b ≠ 75 ∧ b ≠ 76 ∧ b ≠ 79 ∧ b ≠ 80 ∧ b ≠ 81) : s_rst n g b = g b := by
  funext j
  show (if b = 76 then _ else s_r3 n g b j) = _
  rw [if_neg h.2.1]
  show (if b = 81 then _ else s_r2 n g b j) = _
  rw [if_neg h.2.2.2.2]
  show (if b = 75 then _ else if b = 80 then _ else s_r1 n g b j) = _
  rw [if_neg h.1, if_neg h.2.2.2.1]
  show (if b = 79 then _ else g b j) = _
  rw [if_neg h.2.2.1]
theorem s_rst_fr {n : Nat} {g : qM} : w_fr g (s_rst n g) := ⟨fun b hb => s_rst_g (by omega), fun j _ => by rw [s_rst_g (by omega)]⟩
theorem s_rit_g {n : Nat} {b : Nat} (h : b ≠ 75 ∧ b ≠ 76 ∧ b ≠ 79 ∧ b ≠ 80 ∧ b ≠ 81) : ∀ k g, s_rit n k g b = g b
  | 0, g => rfl
  | k + 1, g => (s_rit_g h k (s_rst n g)).trans (s_rst_g h)
theorem s_start_fr {g : qM} : w_fr g (s_start g) := ⟨fun b hb => by
  funext j
  show (if b = 70 then _ else if b = 75 then _ else if b = 76 then _ else if b = 77 then _ else if b = 78 then _ else g b j) = _
  rw [if_neg (by omega), if_neg (by omega), if_neg (by omega), if_neg (by omega), if_neg (by omega)], fun j hj => by
  show (if j = 27 then _ else g 70 j) = _
  rw [if_neg hj]⟩
/-! a STEP of the class beside a STEP of r -/
theorem w_step35 {n W H : Nat} {g r : qM} (h : w_ok n W H r) (hc : w_cs 35 n g r) : w_ok n W H (s_rst n r) ∧ w_cs 35 n (s_step 35 n g) (s_rst n r) ∧ (∀ p, p < n → s_step 35 n g 33 p = s_rst n r 79 p) ∧ (∀ p, p < n → (s_bit (s_step 35 n g 28 5) (Int32.ofNat p) = 0 ↔ s_rst n r 80 p = 4) ∧ (s_rst n r 80 p = 4 ∨ s_rst n r 80 p = s_rst n r 79 p)) ∧ ((s_step 35 n g 28 5 = 0 ∧ s_step 35 n g 28 6 = 0) ↔ s_ran n r = 0) := by
  obtain ⟨hv, hi⟩ := w_vi h hc
  obtain ⟨a, b, c, d, e⟩ := s_same_35 h.1.1 h.1.2.1 h.1.2.2.1 h.1.2.2.2.1 h.1.2.2.2.2 hv hi
  have hw := w_iv (T := 35) h.1 a b
  exact ⟨hw.1, hw.2, c, d, e⟩
theorem w_step20 {n W H : Nat} {g r : qM} (h : w_ok n W H r) (hc : w_cs 20 n g r) : w_ok n W H (s_rst n r) ∧ w_cs 20 n (s_step 20 n g) (s_rst n r) := by
  obtain ⟨hv, hi⟩ := w_vi h hc
  obtain ⟨a, b, c, d, e⟩ := s_same_20 h.1.1 h.1.2.1 h.1.2.2.1 h.1.2.2.2.1 h.1.2.2.2.2 hv hi
  have hw := w_iv (T := 20) h.1 a b
  exact ⟨hw.1, hw.2⟩
theorem w_ok_rst {n W H : Nat} {r : qM} (h : w_ok n W H r) : w_ok n W H (s_rst n r) := (w_step35 h (w_emb_cs n r)).1
/-- a STEP of the reference beside a STEP of r -/
theorem w_sm_rst {n W H : Nat} {g r : qM} (h : w_ok n W H r) (hs : w_sm n g r) : w_sm n (s_rst n g) (s_rst n r) ∧ (∀ p, p < n → s_rst n g 79 p = s_rst n r 79 p ∧ s_rst n g 80 p = s_rst n r 80 p) ∧ (s_ran n g = 0 ↔ s_ran n r = 0) := by
  have h1 := w_step35 h (w_emb_cs n r)
  have h2 := w_step35 (w_ok_sm h hs) (w_cs_sm (w_emb_cs n r) hs)
  refine ⟨w_sm_cs h1.2.1 h2.2.1, fun p hp => ?_, h2.2.2.2.2.symm.trans h1.2.2.2.2⟩
  have e := (h2.2.2.1 p hp).symm.trans (h1.2.2.1 p hp)
  refine ⟨e, ?_⟩
  have a1 := h1.2.2.2.1 p hp
  have a2 := h2.2.2.2.1 p hp
  by_cases z : s_rst n r 80 p = 4
  · rw [z]
    exact a2.1.mp (a1.1.mpr z)
  · have z2 : ¬ s_rst n g 80 p = 4 := fun y => z (a1.1.mp (a2.1.mpr y))
    rcases a1.2 with b1 | b1
    · exact absurd b1 z
    · rcases a2.2 with b2 | b2
      · exact absurd b2 z2
      · rw [b1, b2, e]
theorem w_ok_rit {n W H : Nat} : ∀ k r, w_ok n W H r → w_ok n W H (s_rit n k r)
  | 0, _, h => h
  | k + 1, r, h => w_ok_rit k (s_rst n r) (w_ok_rst h)
theorem w_sm_rit {n W H : Nat} : ∀ k g r, w_ok n W H r → w_sm n g r → w_sm n (s_rit n k g) (s_rit n k r)
  | 0, _, _, _, h => h
  | k + 1, g, r, h, hs => w_sm_rit k (s_rst n g) (s_rst n r) (w_ok_rst h) (w_sm_rst h hs).1
/-- STEPS of the class beside STEPS of r -/
theorem w_tss35 {n W H : Nat} {g r : qM} (h : w_ok n W H r) (hc : w_cs 35 n g r) (k : Nat) : w_cs 35 n (s_tss 35 n k g) (s_rit n k r) := by
  obtain ⟨hv, hi⟩ := w_vi h hc
  obtain ⟨a, b⟩ := s_steps_35 h.1.1 h.1.2.1 h.1.2.2.1 h.1.2.2.2.1 h.1.2.2.2.2 k g r hv hi
  exact (w_iv h.1 a b).2
theorem w_tss20 {n W H : Nat} {g r : qM} (h : w_ok n W H r) (hc : w_cs 20 n g r) (k : Nat) : w_cs 20 n (s_tss 20 n k g) (s_rit n k r) := by
  obtain ⟨hv, hi⟩ := w_vi h hc
  obtain ⟨a, b⟩ := s_steps_20 h.1.1 h.1.2.1 h.1.2.2.1 h.1.2.2.2.1 h.1.2.2.2.2 k g r hv hi
  exact (w_iv h.1 a b).2
theorem s_tss_go {T n : Nat} (h : T = 20 ∨ T = 35) : ∀ k g, s_tss T n k g (T + 4) = g (T + 4)
  | 0, _ => rfl
  | k + 1, g => by
    unfold s_tss
    split
    · exact s_step_g (by omega) (by omega)
    · exact (s_tss_go h k _).trans (s_step_g (by omega) (by omega))
/-! contracts beside r -/
theorem c_st35 {n W H : Nat} {g r : qM} (u : qW) (h : w_ok n W H r) (hc : w_cs 35 n g r) : q_BS 68 [.ref 28, .ref 35] g u (none, s_step 35 n g, u) := b_st35 u h.1.1 h.1.2.1 h.1.2.2.1 h.1.2.2.2.1 h.1.2.2.2.2 (w_tws h hc)
theorem c_tss35 {n W H m : Nat} {g r : qM} (u : qW) (h : w_ok n W H r) (hc : w_cs 35 n g r) (hm : m ≤ 60) : q_BS 76 [.ref 28, .ref 35, .int (Int32.ofNat m)] g u (none, q_up (s_tss 35 n m g) 35 5 (g 35 5 + Int32.ofNat m), u) := b_tss35 u h.1.1 h.1.2.1 h.1.2.2.1 h.1.2.2.2.1 h.1.2.2.2.2 hm (w_tws h hc)
theorem c_tss20 {n W H m : Nat} {g r : qM} (u : qW) (h : w_ok n W H r) (hc : w_cs 20 n g r) (hm : m ≤ 60) : q_BS 76 [.ref 28, .ref 20, .int (Int32.ofNat m)] g u (none, q_up (s_tss 20 n m g) 20 5 (g 20 5 + Int32.ofNat m), u) := b_tss20 u h.1.1 h.1.2.1 h.1.2.2.1 h.1.2.2.2.1 h.1.2.2.2.2 hm (w_tws h hc)
theorem c_weigh20 {n W H : Nat} {g r : qM} (u : qW) (h : w_ok n W H r) (hc : w_cs 20 n g r) : q_BS 58 [.ref 28, .ref 20] g u (none, s_wg 20 n g, u) := b_weigh20 g u (w_tws h hc).1 h.1.2.2.2.2 (s_tw_far h.1.1 h.1.2.1 h.1.2.2.2.1 (w_tws h hc)).1 (s_tw_far h.1.1 h.1.2.1 h.1.2.2.2.1 (w_tws h hc)).2
theorem w_up35 {n : Nat} {g r : qM} {x : Int32} (hc : w_cs 35 n g r) : w_cs 35 n (q_up g 35 5 x) r := hc
theorem w_up20 {n : Nat} {g r : qM} {x : Int32} (hc : w_cs 20 n g r) : w_cs 20 n (q_up g 20 5 x) r := hc
theorem w_w0 {n W H : Nat} {g r : qM} (h : w_ok n W H r) (hs : w_sm n g r) : g 70 27 = Int32.ofNat n ∧ n ≤ 6 ∧ g 70 2 ≠ 0 := by
  refine ⟨hs.1.1.trans h.2.1, h.1.2.2.2.2, fun z => ?_⟩
  rw [hs.1.2.1, h.2.2.1] at z
  have h1 := (q_eq (i := W) (j := 0) (by have := h.1.2.1; omega) (by omega)).mp z
  have := h.1.1
  omega
theorem c_rst {n W H : Nat} {g r : qM} (u : qW) (h : w_ok n W H r) (hs : w_sm n g r) : q_BS 191 [.ref 70] g u (some (.int (s_ran n g)), s_rst n g, u) := b_rsteps g u (w_w0 h hs).1 (w_w0 h hs).2.1 (w_w0 h hs).2.2
/-- the answer of one method is one -/
theorem q_BS_one {M : Nat} {as : List Value} {g : qM} {u : qW} {R R' : Option Value × qM × qW} (h1 : q_BS M as g u R) (h2 : q_BS M as g u R') : R = R' := by
  obtain ⟨F, hF⟩ := h1
  obtain ⟨F', hF'⟩ := h2
  have a := hF (F + F') (F + F') (by omega) (by omega)
  rw [hF' (F + F') (F + F') (by omega) (by omega)] at a
  exact (Option.some.inj a).symm
end
section
/-! TOWNS COPIED. -/
theorem q_cp_ne {g : qM} {a b n c : Nat} (h : c ≠ a) : q_cp g a b n c = g c := by
  funext i
  unfold q_cp
  cases e : Nat.beq c a with
  | true => exact absurd (Nat.eq_of_beq_eq_true e) h
  | false => rw [Bool.false_and]
theorem q_cp_at {g : qM} {a b n i : Nat} (h : i < n) : q_cp g a b n a i = g b i := by
  unfold q_cp
  rw [Nat.beq_refl, Nat.ble_eq_true_of_le (show i + 1 ≤ n by omega)]
  rfl
def s_cpl (a b : Nat) (g : qM) : qM := q_cp (q_cp g (a + 1) (b + 1) 6) (a + 2) (b + 2) 6
def s_cpf (a b : Nat) (g : qM) : qM := q_up (q_up (q_up (q_up (q_up (q_up (q_up g a 0 (g b 0)) a 1 (g b 1)) a 2 (g b 2)) a 3 (g b 3)) a 4 (g b 4)) a 5 (g b 5)) a 6 (g b 6)
def s_cpy (a b : Nat) (g : qM) : qM := q_cp (q_cp (q_cp (q_cp (q_cp (s_cpl a b (s_cpf a b g)) (a + 3) (b + 3) 6) (a + 4) (b + 4) 6) (a + 5) (b + 5) 5) (a + 6) (b + 6) 8) (a + 7) (b + 7) 8
theorem s_cpl_o {a b c : Nat} {g : qM} (h : c ≠ a + 1 ∧ c ≠ a + 2) : s_cpl a b g c = g c := by
  unfold s_cpl
  rw [q_cp_ne h.2, q_cp_ne h.1]
theorem s_cpf_o {a b c : Nat} {g : qM} (h : c ≠ a) : s_cpf a b g c = g c := by
  unfold s_cpf
  rw [q_up_ne h, q_up_ne h, q_up_ne h, q_up_ne h, q_up_ne h, q_up_ne h, q_up_ne h]
theorem s_cpf_f {a b j : Nat} {g : qM} (h : j < 7) : s_cpf a b g a j = g b j := by
  unfold s_cpf
  simp only [q_up_at]
  rcases (show j = 0 ∨ j = 1 ∨ j = 2 ∨ j = 3 ∨ j = 4 ∨ j = 5 ∨ j = 6 by omega) with e | e | e | e | e | e | e <;> subst e <;> rfl
theorem s_cpl_1 {a b j : Nat} {g : qM} (h : j < 6) : s_cpl a b g (a + 1) j = g (b + 1) j := by
  unfold s_cpl
  rw [q_cp_ne (by omega), q_cp_at h]
theorem s_cpl_2 {a b j : Nat} {g : qM} (h : j < 6) (hd : b ≠ a ∧ b + 1 ≠ a) : s_cpl a b g (a + 2) j = g (b + 2) j := by
  unfold s_cpl
  rw [q_cp_at h, q_cp_ne (by omega)]
theorem s_cpy_o {a b c : Nat} {g : qM} (h : c < a ∨ a + 7 < c) : s_cpy a b g c = g c := by
  unfold s_cpy
  rw [q_cp_ne (by omega), q_cp_ne (by omega), q_cp_ne (by omega), q_cp_ne (by omega), q_cp_ne (by omega), s_cpl_o (by omega), s_cpf_o (by omega)]
theorem s_cpy_f {a b j : Nat} {g : qM} (h : j < 7) : s_cpy a b g a j = g b j := by
  unfold s_cpy
  rw [q_cp_ne (by omega), q_cp_ne (by omega), q_cp_ne (by omega), q_cp_ne (by omega), q_cp_ne (by omega), s_cpl_o (by omega), s_cpf_f h]
theorem s_cpy_1 {a b j : Nat} {g : qM} (h : j < 6) (hd : a + 7 < b ∨ b + 7 < a) : s_cpy a b g (a + 1) j = g (b + 1) j := by
  unfold s_cpy
  rw [q_cp_ne (by omega), q_cp_ne (by omega), q_cp_ne (by omega), q_cp_ne (by omega), q_cp_ne (by omega), s_cpl_1 h, s_cpf_o (by omega)]
theorem s_cpy_2 {a b j : Nat} {g : qM} (h : j < 6) (hd : a + 7 < b ∨ b + 7 < a) : s_cpy a b g (a + 2) j = g (b + 2) j := by
  unfold s_cpy
  rw [q_cp_ne (by omega), q_cp_ne (by omega), q_cp_ne (by omega), q_cp_ne (by omega), q_cp_ne (by omega), s_cpl_2 h (by omega), s_cpf_o (by omega)]
theorem s_cpy_3 {a b j : Nat} {g : qM} (h : j < 6) (hd : a + 7 < b ∨ b + 7 < a) : s_cpy a b g (a + 3) j = g (b + 3) j := by
  unfold s_cpy
  rw [q_cp_ne (by omega), q_cp_ne (by omega), q_cp_ne (by omega), q_cp_ne (by omega), q_cp_at h, s_cpl_o (by omega), s_cpf_o (by omega)]
theorem s_cpy_4 {a b j : Nat} {g : qM} (h : j < 6) (hd : a + 7 < b ∨ b + 7 < a) : s_cpy a b g (a + 4) j = g (b + 4) j := by
  unfold s_cpy
  rw [q_cp_ne (by omega), q_cp_ne (by omega), q_cp_ne (by omega), q_cp_at h, q_cp_ne (by omega), s_cpl_o (by omega), s_cpf_o (by omega)]
theorem s_cpy_5 {a b j : Nat} {g : qM} (h : j < 5) (hd : a + 7 < b ∨ b + 7 < a) : s_cpy a b g (a + 5) j = g (b + 5) j := by
  unfold s_cpy
  rw [q_cp_ne (by omega), q_cp_ne (by omega), q_cp_at h, q_cp_ne (by omega), q_cp_ne (by omega), s_cpl_o (by omega), s_cpf_o (by omega)]
theorem s_cpy_6 {a b j : Nat} {g : qM} (h : j < 8) (hd : a + 7 < b ∨ b + 7 < a) : s_cpy a b g (a + 6) j = g (b + 6) j := by
  unfold s_cpy
  rw [q_cp_ne (by omega), q_cp_at h, q_cp_ne (by omega), q_cp_ne (by omega), q_cp_ne (by omega), s_cpl_o (by omega), s_cpf_o (by omega)]
theorem s_cpy_7 {a b j : Nat} {g : qM} (h : j < 8) (hd : a + 7 < b ∨ b + 7 < a) : s_cpy a b g (a + 7) j = g (b + 7) j := by
  unfold s_cpy
  rw [q_cp_at h, q_cp_ne (by omega), q_cp_ne (by omega), q_cp_ne (by omega), q_cp_ne (by omega), s_cpl_o (by omega), s_cpf_o (by omega)]
theorem w_cpy {a b n : Nat} {g r : qM} (h6 : n ≤ 6) (hd : a + 7 < b ∨ b + 7 < a) (hc : w_cs b n g r) : w_cs a n (s_cpy a b g) r := by
  obtain ⟨⟨c1, c2, c3, c4, c5⟩, c6, c7⟩ := hc
  refine ⟨⟨?_, ?_, ?_, ?_, ?_⟩, fun d h1 h2 => ?_, fun p hp => ⟨?_, ?_, ?_⟩⟩
  · rw [s_cpy_f (by omega)]; exact c1
  · rw [s_cpy_f (by omega)]; exact c2
  · rw [s_cpy_f (by omega)]; exact c3
  · rw [s_cpy_f (by omega)]; exact c4
  · rw [s_cpy_f (by omega)]; exact c5
  · rw [s_cpy_5 (by omega) hd]; exact c6 d h1 h2
  · rw [s_cpy_1 (by omega) hd]; exact (c7 p hp).1
  · rw [s_cpy_2 (by omega) hd]; exact (c7 p hp).2.1
  · rw [s_cpy_3 (by omega) hd]; exact (c7 p hp).2.2
theorem w_cpy_fc {g : qM} : w_fc g (s_cpy 35 20 g) := fun b hb => s_cpy_o (by omega)
theorem w_cpl_fc {g : qM} : w_fc g (s_cpl 35 20 g) := fun b hb => s_cpl_o (by omega)
theorem sg_cy_1 (big : Nat → List Value → qM → qW → qR) (n0 : Nat) (G : qM) (U : qW) : qm_run pm_m big m_41 (n0 + 30) 0 [(0, .ref 35), (1, .ref 20)] [] G U = qm_run pm_m big m_41 n0 58 [(0, .ref 35), (1, .ref 20)] [.ref 20, .ref 35] (q_up (q_up (q_up (q_up (q_up (q_up (q_up G 35 0 (G 20 0)) 35 1 (G 20 1)) 35 2 (G 20 2)) 35 3 (G 20 3)) 35 4 (G 20 4)) 35 5 (G 20 5)) 35 6 (G 20 6)) U := rfl
theorem sg_cy_2 (big : Nat → List Value → qM → qW → qR) (n0 : Nat) (G : qM) (U : qW) : qm_run pm_m big m_41 (n0 + 40) 61 [(0, .ref 35), (1, .ref 20)] [] G U = qm_run pm_m big m_41 n0 133 [(0, .ref 35), (1, .ref 20)] [] (q_cp (q_cp (q_cp (q_cp G 38 23 6) 39 24 6) 40 25 5) 41 26 8) U := rfl
theorem sg_cy_3 (big : Nat → List Value → qM → qW → qR) (n0 : Nat) (G : qM) (U : qW) : qm_run pm_m big m_41 (n0 + 30) 0 [(0, .ref 20), (1, .ref 12)] [] G U = qm_run pm_m big m_41 n0 58 [(0, .ref 20), (1, .ref 12)] [.ref 12, .ref 20] (q_up (q_up (q_up (q_up (q_up (q_up (q_up G 20 0 (G 12 0)) 20 1 (G 12 1)) 20 2 (G 12 2)) 20 3 (G 12 3)) 20 4 (G 12 4)) 20 5 (G 12 5)) 20 6 (G 12 6)) U := rfl
theorem sg_cy_4 (big : Nat → List Value → qM → qW → qR) (n0 : Nat) (G : qM) (U : qW) : qm_run pm_m big m_41 (n0 + 40) 61 [(0, .ref 20), (1, .ref 12)] [] G U = qm_run pm_m big m_41 n0 133 [(0, .ref 20), (1, .ref 12)] [] (q_cp (q_cp (q_cp (q_cp G 23 15 6) 24 16 6) 25 17 5) 26 18 8) U := rfl
theorem sg_cy_5 (big : Nat → List Value → qM → qW → qR) (n0 : Nat) (G : qM) (U : qW) : qm_run pm_m big m_41 (n0 + 30) 0 [(0, .ref 45), (1, .ref 20)] [] G U = qm_run pm_m big m_41 n0 58 [(0, .ref 45), (1, .ref 20)] [.ref 20, .ref 45] (q_up (q_up (q_up (q_up (q_up (q_up (q_up G 45 0 (G 20 0)) 45 1 (G 20 1)) 45 2 (G 20 2)) 45 3 (G 20 3)) 45 4 (G 20 4)) 45 5 (G 20 5)) 45 6 (G 20 6)) U := rfl
theorem sg_cy_6 (big : Nat → List Value → qM → qW → qR) (n0 : Nat) (G : qM) (U : qW) : qm_run pm_m big m_41 (n0 + 40) 61 [(0, .ref 45), (1, .ref 20)] [] G U = qm_run pm_m big m_41 n0 133 [(0, .ref 45), (1, .ref 20)] [] (q_cp (q_cp (q_cp (q_cp G 48 23 6) 49 24 6) 50 25 5) 51 26 8) U := rfl
theorem sg_cy_7 (big : Nat → List Value → qM → qW → qR) (n0 : Nat) (G : qM) (U : qW) : qm_run pm_m big m_41 (n0 + 30) 0 [(0, .ref 53), (1, .ref 20)] [] G U = qm_run pm_m big m_41 n0 58 [(0, .ref 53), (1, .ref 20)] [.ref 20, .ref 53] (q_up (q_up (q_up (q_up (q_up (q_up (q_up G 53 0 (G 20 0)) 53 1 (G 20 1)) 53 2 (G 20 2)) 53 3 (G 20 3)) 53 4 (G 20 4)) 53 5 (G 20 5)) 53 6 (G 20 6)) U := rfl
theorem sg_cy_8 (big : Nat → List Value → qM → qW → qR) (n0 : Nat) (G : qM) (U : qW) : qm_run pm_m big m_41 (n0 + 40) 61 [(0, .ref 53), (1, .ref 20)] [] G U = qm_run pm_m big m_41 n0 133 [(0, .ref 53), (1, .ref 20)] [] (q_cp (q_cp (q_cp (q_cp G 56 23 6) 57 24 6) 58 25 5) 59 26 8) U := rfl
theorem sg_cy_9 (big : Nat → List Value → qM → qW → qR) (n0 : Nat) (G : qM) (U : qW) : qm_run pm_m big m_41 (n0 + 30) 0 [(0, .ref 20), (1, .ref 45)] [] G U = qm_run pm_m big m_41 n0 58 [(0, .ref 20), (1, .ref 45)] [.ref 45, .ref 20] (q_up (q_up (q_up (q_up (q_up (q_up (q_up G 20 0 (G 45 0)) 20 1 (G 45 1)) 20 2 (G 45 2)) 20 3 (G 45 3)) 20 4 (G 45 4)) 20 5 (G 45 5)) 20 6 (G 45 6)) U := rfl
theorem sg_cy_10 (big : Nat → List Value → qM → qW → qR) (n0 : Nat) (G : qM) (U : qW) : qm_run pm_m big m_41 (n0 + 40) 61 [(0, .ref 20), (1, .ref 45)] [] G U = qm_run pm_m big m_41 n0 133 [(0, .ref 20), (1, .ref 45)] [] (q_cp (q_cp (q_cp (q_cp G 23 48 6) 24 49 6) 25 50 5) 26 51 8) U := rfl
theorem sg_cy_11 (big : Nat → List Value → qM → qW → qR) (n0 : Nat) (G : qM) (U : qW) : qm_run pm_m big m_41 (n0 + 30) 0 [(0, .ref 20), (1, .ref 53)] [] G U = qm_run pm_m big m_41 n0 58 [(0, .ref 20), (1, .ref 53)] [.ref 53, .ref 20] (q_up (q_up (q_up (q_up (q_up (q_up (q_up G 20 0 (G 53 0)) 20 1 (G 53 1)) 20 2 (G 53 2)) 20 3 (G 53 3)) 20 4 (G 53 4)) 20 5 (G 53 5)) 20 6 (G 53 6)) U := rfl
theorem sg_cy_12 (big : Nat → List Value → qM → qW → qR) (n0 : Nat) (G : qM) (U : qW) : qm_run pm_m big m_41 (n0 + 40) 61 [(0, .ref 20), (1, .ref 53)] [] G U = qm_run pm_m big m_41 n0 133 [(0, .ref 20), (1, .ref 53)] [] (q_cp (q_cp (q_cp (q_cp G 23 56 6) 24 57 6) 25 58 5) 26 59 8) U := rfl
theorem b_cpl35_20 (g : qM) (u : qW) : q_BS 42 [.ref 35, .ref 20] g u (none, s_cpl 35 20 g, u) := by
  refine q_bx (mm := m_42) rfl (Nat.le_of_ble_eq_true rfl) rfl ?_
  refine q_ret 21 (none, (q_cp (q_cp g 36 21 6) 37 22 6), u) (fun _ _ => rfl) ?_
  rfl
theorem b_cpy35_20 (g : qM) (u : qW) : q_BS 41 [.ref 35, .ref 20] g u (none, s_cpy 35 20 g, u) := by
  refine q_bx (mm := m_41) rfl (Nat.le_of_ble_eq_true rfl) rfl ?_
  refine q_step 30 58 [(0, .ref 35), (1, .ref 20)] [.ref 20, .ref 35] (q_up (q_up (q_up (q_up (q_up (q_up (q_up g 35 0 (g 20 0)) 35 1 (g 20 1)) 35 2 (g 20 2)) 35 3 (g 20 3)) 35 4 (g 20 4)) 35 5 (g 20 5)) 35 6 (g 20 6)) u (fun big n0 => sg_cy_1 big n0 g u) ?_
  rw [show (q_up (q_up (q_up (q_up (q_up (q_up (q_up g 35 0 (g 20 0)) 35 1 (g 20 1)) 35 2 (g 20 2)) 35 3 (g 20 3)) 35 4 (g 20 4)) 35 5 (g 20 5)) 35 6 (g 20 6)) = s_cpf 35 20 g from rfl]
  refine q_call (M2 := 42) (rest := []) (b_cpl35_20 _ _) (fun _ _ => rfl) ?_
  refine q_step 40 133 [(0, .ref 35), (1, .ref 20)] [] (q_cp (q_cp (q_cp (q_cp (s_cpl 35 20 (s_cpf 35 20 g)) 38 23 6) 39 24 6) 40 25 5) 41 26 8) u (fun big n0 => sg_cy_2 big n0 (s_cpl 35 20 (s_cpf 35 20 g)) u) ?_
  refine q_ret 11 (none, (q_cp (q_cp (q_cp (q_cp (q_cp (s_cpl 35 20 (s_cpf 35 20 g)) 38 23 6) 39 24 6) 40 25 5) 41 26 8) 42 27 8), u) (fun _ _ => rfl) ?_
  rfl
theorem b_cpl20_12 (g : qM) (u : qW) : q_BS 42 [.ref 20, .ref 12] g u (none, s_cpl 20 12 g, u) := by
  refine q_bx (mm := m_42) rfl (Nat.le_of_ble_eq_true rfl) rfl ?_
  refine q_ret 21 (none, (q_cp (q_cp g 21 13 6) 22 14 6), u) (fun _ _ => rfl) ?_
  rfl
theorem b_cpy20_12 (g : qM) (u : qW) : q_BS 41 [.ref 20, .ref 12] g u (none, s_cpy 20 12 g, u) := by
  refine q_bx (mm := m_41) rfl (Nat.le_of_ble_eq_true rfl) rfl ?_
  refine q_step 30 58 [(0, .ref 20), (1, .ref 12)] [.ref 12, .ref 20] (q_up (q_up (q_up (q_up (q_up (q_up (q_up g 20 0 (g 12 0)) 20 1 (g 12 1)) 20 2 (g 12 2)) 20 3 (g 12 3)) 20 4 (g 12 4)) 20 5 (g 12 5)) 20 6 (g 12 6)) u (fun big n0 => sg_cy_3 big n0 g u) ?_
  rw [show (q_up (q_up (q_up (q_up (q_up (q_up (q_up g 20 0 (g 12 0)) 20 1 (g 12 1)) 20 2 (g 12 2)) 20 3 (g 12 3)) 20 4 (g 12 4)) 20 5 (g 12 5)) 20 6 (g 12 6)) = s_cpf 20 12 g from rfl]
  refine q_call (M2 := 42) (rest := []) (b_cpl20_12 _ _) (fun _ _ => rfl) ?_
  refine q_step 40 133 [(0, .ref 20), (1, .ref 12)] [] (q_cp (q_cp (q_cp (q_cp (s_cpl 20 12 (s_cpf 20 12 g)) 23 15 6) 24 16 6) 25 17 5) 26 18 8) u (fun big n0 => sg_cy_4 big n0 (s_cpl 20 12 (s_cpf 20 12 g)) u) ?_
  refine q_ret 11 (none, (q_cp (q_cp (q_cp (q_cp (q_cp (s_cpl 20 12 (s_cpf 20 12 g)) 23 15 6) 24 16 6) 25 17 5) 26 18 8) 27 19 8), u) (fun _ _ => rfl) ?_
  rfl
theorem b_cpl45_20 (g : qM) (u : qW) : q_BS 42 [.ref 45, .ref 20] g u (none, s_cpl 45 20 g, u) := by
  refine q_bx (mm := m_42) rfl (Nat.le_of_ble_eq_true rfl) rfl ?_
  refine q_ret 21 (none, (q_cp (q_cp g 46 21 6) 47 22 6), u) (fun _ _ => rfl) ?_
  rfl
theorem b_cpy45_20 (g : qM) (u : qW) : q_BS 41 [.ref 45, .ref 20] g u (none, s_cpy 45 20 g, u) := by
  refine q_bx (mm := m_41) rfl (Nat.le_of_ble_eq_true rfl) rfl ?_
  refine q_step 30 58 [(0, .ref 45), (1, .ref 20)] [.ref 20, .ref 45] (q_up (q_up (q_up (q_up (q_up (q_up (q_up g 45 0 (g 20 0)) 45 1 (g 20 1)) 45 2 (g 20 2)) 45 3 (g 20 3)) 45 4 (g 20 4)) 45 5 (g 20 5)) 45 6 (g 20 6)) u (fun big n0 => sg_cy_5 big n0 g u) ?_
  rw [show (q_up (q_up (q_up (q_up (q_up (q_up (q_up g 45 0 (g 20 0)) 45 1 (g 20 1)) 45 2 (g 20 2)) 45 3 (g 20 3)) 45 4 (g 20 4)) 45 5 (g 20 5)) 45 6 (g 20 6)) = s_cpf 45 20 g from rfl]
  refine q_call (M2 := 42) (rest := []) (b_cpl45_20 _ _) (fun _ _ => rfl) ?_
  refine q_step 40 133 [(0, .ref 45), (1, .ref 20)] [] (q_cp (q_cp (q_cp (q_cp (s_cpl 45 20 (s_cpf 45 20 g)) 48 23 6) 49 24 6) 50 25 5) 51 26 8) u (fun big n0 => sg_cy_6 big n0 (s_cpl 45 20 (s_cpf 45 20 g)) u) ?_
  refine q_ret 11 (none, (q_cp (q_cp (q_cp (q_cp (q_cp (s_cpl 45 20 (s_cpf 45 20 g)) 48 23 6) 49 24 6) 50 25 5) 51 26 8) 52 27 8), u) (fun _ _ => rfl) ?_
  rfl
theorem b_cpl53_20 (g : qM) (u : qW) : q_BS 42 [.ref 53, .ref 20] g u (none, s_cpl 53 20 g, u) := by
  refine q_bx (mm := m_42) rfl (Nat.le_of_ble_eq_true rfl) rfl ?_
  refine q_ret 21 (none, (q_cp (q_cp g 54 21 6) 55 22 6), u) (fun _ _ => rfl) ?_
  rfl
theorem b_cpy53_20 (g : qM) (u : qW) : q_BS 41 [.ref 53, .ref 20] g u (none, s_cpy 53 20 g, u) := by
  refine q_bx (mm := m_41) rfl (Nat.le_of_ble_eq_true rfl) rfl ?_
  refine q_step 30 58 [(0, .ref 53), (1, .ref 20)] [.ref 20, .ref 53] (q_up (q_up (q_up (q_up (q_up (q_up (q_up g 53 0 (g 20 0)) 53 1 (g 20 1)) 53 2 (g 20 2)) 53 3 (g 20 3)) 53 4 (g 20 4)) 53 5 (g 20 5)) 53 6 (g 20 6)) u (fun big n0 => sg_cy_7 big n0 g u) ?_
  rw [show (q_up (q_up (q_up (q_up (q_up (q_up (q_up g 53 0 (g 20 0)) 53 1 (g 20 1)) 53 2 (g 20 2)) 53 3 (g 20 3)) 53 4 (g 20 4)) 53 5 (g 20 5)) 53 6 (g 20 6)) = s_cpf 53 20 g from rfl]
  refine q_call (M2 := 42) (rest := []) (b_cpl53_20 _ _) (fun _ _ => rfl) ?_
  refine q_step 40 133 [(0, .ref 53), (1, .ref 20)] [] (q_cp (q_cp (q_cp (q_cp (s_cpl 53 20 (s_cpf 53 20 g)) 56 23 6) 57 24 6) 58 25 5) 59 26 8) u (fun big n0 => sg_cy_8 big n0 (s_cpl 53 20 (s_cpf 53 20 g)) u) ?_
  refine q_ret 11 (none, (q_cp (q_cp (q_cp (q_cp (q_cp (s_cpl 53 20 (s_cpf 53 20 g)) 56 23 6) 57 24 6) 58 25 5) 59 26 8) 60 27 8), u) (fun _ _ => rfl) ?_
  rfl
theorem b_cpl20_45 (g : qM) (u : qW) : q_BS 42 [.ref 20, .ref 45] g u (none, s_cpl 20 45 g, u) := by
  refine q_bx (mm := m_42) rfl (Nat.le_of_ble_eq_true rfl) rfl ?_
  refine q_ret 21 (none, (q_cp (q_cp g 21 46 6) 22 47 6), u) (fun _ _ => rfl) ?_
  rfl
theorem b_cpy20_45 (g : qM) (u : qW) : q_BS 41 [.ref 20, .ref 45] g u (none, s_cpy 20 45 g, u) := by
  refine q_bx (mm := m_41) rfl (Nat.le_of_ble_eq_true rfl) rfl ?_
  refine q_step 30 58 [(0, .ref 20), (1, .ref 45)] [.ref 45, .ref 20] (q_up (q_up (q_up (q_up (q_up (q_up (q_up g 20 0 (g 45 0)) 20 1 (g 45 1)) 20 2 (g 45 2)) 20 3 (g 45 3)) 20 4 (g 45 4)) 20 5 (g 45 5)) 20 6 (g 45 6)) u (fun big n0 => sg_cy_9 big n0 g u) ?_
  rw [show (q_up (q_up (q_up (q_up (q_up (q_up (q_up g 20 0 (g 45 0)) 20 1 (g 45 1)) 20 2 (g 45 2)) 20 3 (g 45 3)) 20 4 (g 45 4)) 20 5 (g 45 5)) 20 6 (g 45 6)) = s_cpf 20 45 g from rfl]
  refine q_call (M2 := 42) (rest := []) (b_cpl20_45 _ _) (fun _ _ => rfl) ?_
  refine q_step 40 133 [(0, .ref 20), (1, .ref 45)] [] (q_cp (q_cp (q_cp (q_cp (s_cpl 20 45 (s_cpf 20 45 g)) 23 48 6) 24 49 6) 25 50 5) 26 51 8) u (fun big n0 => sg_cy_10 big n0 (s_cpl 20 45 (s_cpf 20 45 g)) u) ?_
  refine q_ret 11 (none, (q_cp (q_cp (q_cp (q_cp (q_cp (s_cpl 20 45 (s_cpf 20 45 g)) 23 48 6) 24 49 6) 25 50 5) 26 51 8) 27 52 8), u) (fun _ _ => rfl) ?_
  rfl
theorem b_cpl20_53 (g : qM) (u : qW) : q_BS 42 [.ref 20, .ref 53] g u (none, s_cpl 20 53 g, u) := by
  refine q_bx (mm := m_42) rfl (Nat.le_of_ble_eq_true rfl) rfl ?_
  refine q_ret 21 (none, (q_cp (q_cp g 21 54 6) 22 55 6), u) (fun _ _ => rfl) ?_
  rfl
theorem b_cpy20_53 (g : qM) (u : qW) : q_BS 41 [.ref 20, .ref 53] g u (none, s_cpy 20 53 g, u) := by
  refine q_bx (mm := m_41) rfl (Nat.le_of_ble_eq_true rfl) rfl ?_
  refine q_step 30 58 [(0, .ref 20), (1, .ref 53)] [.ref 53, .ref 20] (q_up (q_up (q_up (q_up (q_up (q_up (q_up g 20 0 (g 53 0)) 20 1 (g 53 1)) 20 2 (g 53 2)) 20 3 (g 53 3)) 20 4 (g 53 4)) 20 5 (g 53 5)) 20 6 (g 53 6)) u (fun big n0 => sg_cy_11 big n0 g u) ?_
  rw [show (q_up (q_up (q_up (q_up (q_up (q_up (q_up g 20 0 (g 53 0)) 20 1 (g 53 1)) 20 2 (g 53 2)) 20 3 (g 53 3)) 20 4 (g 53 4)) 20 5 (g 53 5)) 20 6 (g 53 6)) = s_cpf 20 53 g from rfl]
  refine q_call (M2 := 42) (rest := []) (b_cpl20_53 _ _) (fun _ _ => rfl) ?_
  refine q_step 40 133 [(0, .ref 20), (1, .ref 53)] [] (q_cp (q_cp (q_cp (q_cp (s_cpl 20 53 (s_cpf 20 53 g)) 23 56 6) 24 57 6) 25 58 5) 26 59 8) u (fun big n0 => sg_cy_12 big n0 (s_cpl 20 53 (s_cpf 20 53 g)) u) ?_
  refine q_ret 11 (none, (q_cp (q_cp (q_cp (q_cp (q_cp (s_cpl 20 53 (s_cpf 20 53 g)) 23 56 6) 24 57 6) 25 58 5) 26 59 8) 27 60 8), u) (fun _ _ => rfl) ?_
  rfl
end
section
/-! SEARCHES: what is told of their answers, and their frames. -/
def w_po (F : qM → qM → Prop) (g : qM) (v : Value) (R : Option Value × qM × qW) : Prop := ∃ g' u', R = (some v, g', u') ∧ F g g'
def w_BS (F : qM → qM → Prop) (M : Nat) (as : List Value) (g : qM) (u : qW) (v : Value) : Prop := ∃ g' u', q_BS M as g u (some v, g', u') ∧ F g g'
theorem w_bs {F : qM → qM → Prop} {mm : pm_M} {M : Nat} {as : List Value} {g : qM} {u : qW} {v : Value} (hm : pm_m M = some mm) (hw : pm_words as ≤ pm_ml mm) (hl : as.length = pm_n mm) (hE : q_EV mm 0 (lv_args 0 as) [] g u (w_po F g v)) : w_BS F M as g u v := by
  obtain ⟨R, hR, g', u', e, hf⟩ := q_bs hm hw hl hE
  rw [e] at hR
  exact ⟨g', u', hR, hf⟩
theorem w_po_c {g g1 : qM} {v v' : Value} {R : Option Value × qM × qW} (h : w_fc g g1) (e : v' = v) (hp : w_po w_fc g1 v' R) : w_po w_fc g v R := by
  obtain ⟨g', u', e1, hf⟩ := hp
  exact ⟨g', u', by rw [e1, e], w_fc.trans h hf⟩
theorem w_po_r {g g1 : qM} {v v' : Value} {R : Option Value × qM × qW} (h : w_fr g g1) (e : v' = v) (hp : w_po w_fr g1 v' R) : w_po w_fr g v R := by
  obtain ⟨g', u', e1, hf⟩ := hp
  exact ⟨g', u', by rw [e1, e], w_fr.trans h hf⟩
theorem s_01 (c : Prop) [Decidable c] : (if c then (1 : Int32) else 0) = 0 ∨ (if c then (1 : Int32) else 0) = 1 := by
  split
  · exact Or.inr rfl
  · exact Or.inl rfl
theorem s_10 (c : Prop) [Decidable c] : (if c then (0 : Int32) else 1) = 0 ∨ (if c then (0 : Int32) else 1) = 1 := by
  split
  · exact Or.inl rfl
  · exact Or.inr rfl
/-- bits of those for whom P -/
def s_bs (P : Nat → Int32) : Nat → Nat → Int32 → Int32
  | 0, _, a => a
  | k + 1, i, a => s_bs P k (i + 1) (if P i = 0 then a else a ||| ((1 : Int32) <<< (Int32.ofNat i &&& 31)))
theorem s_bs_0 {P : Nat → Int32} {k i : Nat} {a : Int32} (h : P i = 0) : s_bs P (k + 1) i a = s_bs P k (i + 1) a := by
  rw [s_bs, if_pos h]
theorem s_bs_1 {P : Nat → Int32} {k i : Nat} {a : Int32} (h : P i = 1) : s_bs P (k + 1) i a = s_bs P k (i + 1) (a ||| ((1 : Int32) <<< (Int32.ofNat i &&& 31))) := by
  rw [s_bs, if_neg (by rw [h]; decide)]
theorem s_bs_cg {P P' : Nat → Int32} : ∀ k i a, (∀ j, i ≤ j → j < i + k → P j = P' j) → s_bs P k i a = s_bs P' k i a
  | 0, _, _, _ => rfl
  | k + 1, i, a, h => by
    rw [s_bs, s_bs, h i (Nat.le_refl _) (by omega), s_bs_cg k (i + 1) _ (fun j h1 h2 => h j (by omega) (by omega))]
theorem s_ct_s {P : Nat → Int32} {k i : Nat} {a v : Int32} (h : P i = v) : s_ct P (k + 1) i a = s_ct P k (i + 1) (a + v) := by
  rw [s_ct, h]
theorem s_ct_cg {P P' : Nat → Int32} : ∀ k i a, (∀ j, i ≤ j → j < i + k → P j = P' j) → s_ct P k i a = s_ct P' k i a
  | 0, _, _, _ => rfl
  | k + 1, i, a, h => by
    rw [s_ct, s_ct, h i (Nat.le_refl _) (by omega), s_ct_cg k (i + 1) _ (fun j h1 h2 => h j (by omega) (by omega))]
/-! forces and wishes beside r -/
def f_fo (n : Nat) (r : qM) (so : Int32) (p : Nat) : Int32 := s_rf (r 70 2) (r 75) (r 76) (r 71) n so p
def f_wi (n : Nat) (r : qM) (p : Nat) : Int32 := s_rw (r 70 2) (r 75) (r 76) (r 77) (r 71) n p
theorem s_rf_cg {w : Int32} {c c' mo mo' pl : Nat → Int32} {n p : Nat} (hp : p < n) (hc : ∀ q, q < n → c q = c' q) (hm : ∀ q, q < n → mo q = mo' q) (so : Int32) : s_rf w c mo pl n so p = s_rf w c' mo' pl n so p := by
  unfold s_rf
  rw [s_sf_cg n 0 (fun q _ hq => by
    have hq : q < n := by omega
    unfold s_rt
    rw [hc q hq, hc p hp, hm q hq, hm p hp])]
  rfl
theorem w_rgs {n W H : Nat} {r : qM} (h : w_ok n W H r) : s_rg (r 70 2) 2 5 ∧ ∀ p, p < n → s_rg (r 75 p) 0 24 := by
  have hWH : W * H ≤ 25 := Nat.le_trans (Nat.mul_le_mul h.1.2.1 h.1.2.2.2.1) (Nat.le_refl 25)
  refine ⟨by rw [h.2.2.1]; exact s_rgw h.1.1 h.1.2.1, fun p hp => ?_⟩
  obtain ⟨C, hC, e⟩ := h.2.2.2.2.1 p hp
  rw [e]
  exact s_rgc hC hWH
theorem w_fo_r {n W H p : Nat} {g r : qM} (h : w_ok n W H r) (hs : w_sm n g r) (hp : p < n) (so : Int32) (hso : so = 0 ∨ so = 1) : s_rf (g 70 2) (g 75) (g 76) (g 71) n so p = f_fo n r so p := by
  obtain ⟨hw, hc⟩ := w_rgs h
  unfold f_fo
  rw [hs.1.2.1, s_rf_cg hp (fun q hq => (hs.2.2 q hq).1) (fun q hq => (hs.2.2 q hq).2.1) so]
  have k1 := s_force (pr := r 71) (pl := fun d => r 71 (20 + d)) (mo := r 76) h.1.2.2.2.2 hw hc (fun d _ _ => rfl) hp
  have k2 := s_force (pr := g 71) (pl := fun d => r 71 (20 + d)) (mo := r 76) h.1.2.2.2.2 hw hc (fun d a b => hs.2.1 d a b) hp
  unfold s_rf
  rcases hso with e | e
  · rw [e, ← k1.1, ← k2.1]
  · rw [e, ← k1.2, ← k2.2]
theorem w_wi_r {n W H p : Nat} {g r : qM} (h : w_ok n W H r) (hs : w_sm n g r) (hp : p < n) : s_rw (g 70 2) (g 75) (g 76) (g 77) (g 71) n p = f_wi n r p := by
  have e0 := w_fo_r h hs hp 0 (Or.inl rfl)
  have e1 := w_fo_r h hs hp 1 (Or.inr rfl)
  unfold f_fo at e0 e1
  unfold f_wi s_rw
  rw [e0, e1, (hs.2.2 p hp).2.2]
theorem w_fo_c {n W H p : Nat} {g r : qM} (h : w_ok n W H r) (hc : w_cs 20 n g r) (hp : p < n) : s_wg 20 n g 31 p = f_fo n r 0 p ∧ s_wg 20 n g 32 p = f_fo n r 1 p := by
  obtain ⟨hw, hcc⟩ := w_rgs h
  have hx : ∀ q, q < n → s_rg (g 21 q) 0 24 := fun q hq => by
    rw [(hc.2.2 q hq).1]
    exact hcc q hq
  have k := s_force (w := g 20 0) (c := g 21) (mo := g 22) (pl := g 25) (pr := r 71) h.1.2.2.2.2 (by rw [hc.1.2.1]; exact hw) hx (fun d a b => (hc.2.1 d a b).symm) hp
  have hz : ∀ so, s_rf (r 70 2) (g 21) (g 22) (r 71) n so p = f_fo n r so p := fun so => s_rf_cg hp (fun q hq => (hc.2.2 q hq).1) (fun q hq => (hc.2.2 q hq).2.1) so
  refine ⟨?_, ?_⟩
  · show (if p < n then (0 : Int32) else g 31 p) + s_A (s_pe (g 20 0) (g 21) (g 22) (g 25)) n p = _
    rw [if_pos hp, k.1, hc.1.2.1]
    exact hz 0
  · show (if p < n then (0 : Int32) else g 32 p) + s_A (s_ps (g 20 0) (g 21) (g 22) (g 25)) n p = _
    rw [if_pos hp, k.2, hc.1.2.1]
    exact hz 1
theorem w_wi_c {n W H p : Nat} {g r : qM} (h : w_ok n W H r) (hc : w_cs 20 n g r) (hp : p < n) : s_wg 20 n g 33 p = f_wi n r p := by
  obtain ⟨hw, hcc⟩ := w_rgs h
  have h2 : s_rst n r 79 p = f_wi n r p := by
    show (if p < n then s_rw (r 70 2) (r 75) (r 76) (r 77) (r 71) n p else _) = _
    exact if_pos hp
  obtain ⟨hv, hi⟩ := w_vi h hc
  have k := (s_same_20 h.1.1 h.1.2.1 h.1.2.2.1 h.1.2.2.2.1 h.1.2.2.2.2 hv hi).2.2.1 p hp
  rw [← h2, ← k]
  rfl
theorem s_wg_fc {n : Nat} {g : qM} : w_fc g (s_wg 20 n g) := fun b hb => by
  funext j
  show (if b = 33 then _ else s_H (g 20 0) (g 21) (g 22) (g 25) n g b j) = _
  rw [if_neg (by omega)]
  show (if b = 31 then _ else if b = 32 then _ else s_W1 (g 20 0) (g 21) n g b j) = _
  rw [if_neg (by omega), if_neg (by omega)]
  show (if b = 29 then _ else if b = 30 then _ else if b = 31 then _ else if b = 32 then _ else g b j) = _
  rw [if_neg (by omega), if_neg (by omega), if_neg (by omega), if_neg (by omega)]
/-! what they answer -/
/-- who is stuck -/
def p_stk (g : qM) (p : Nat) : Int32 := if g 33 p = 4 then 0 else if s_bit (g 28 5) (Int32.ofNat p) = 0 then 1 else 0
def p_stkr (n : Nat) (r : qM) (p : Nat) : Int32 := if s_rst n r 79 p = 4 then 0 else if s_rst n r 80 p = 4 then 1 else 0
def f_stk (n : Nat) (r : qM) : Int32 := s_bs (p_stkr n r) n 0 0
theorem w_stk {n W H : Nat} {g r : qM} (h : w_ok n W H r) (hc : w_cs 35 n g r) : s_bs (p_stk (s_step 35 n g)) n 0 0 = f_stk n r := s_bs_cg n 0 0 (fun p _ hp => by
  have w := w_step35 h hc
  have hp : p < n := by omega
  unfold p_stk p_stkr
  rw [w.2.2.1 p hp]
  split
  · rfl
  · by_cases z : s_rst n r 80 p = 4
    · rw [if_pos z, if_pos ((w.2.2.2.1 p hp).1.mpr z)]
    · rw [if_neg z, if_neg (fun y => z ((w.2.2.2.1 p hp).1.mp y))])
/-- behind how many STEPS all is at rest -/
def f_rest (n : Nat) : Nat → Nat → qM → Int32
  | 0, _, _ => i_none
  | k + 1, i, r => if s_ran n r = 0 then Int32.ofNat i else f_rest n k (i + 1) (s_rst n r)
def p_str (A B : Nat → Int32) (p : Nat) : Int32 := s_abs (A p) + s_abs (B p)
def f_str (n : Nat) (r : qM) : Int32 := s_ct (p_str (f_fo n r 0) (f_fo n r 1)) n 0 0
theorem w_tar {n W H : Nat} {g r : qM} (h : w_ok n W H r) (hc : w_cs 35 n g r) : (if s_step 35 n g 28 5 = 0 then (if s_step 35 n g 28 6 = 0 then (1 : Int32) else 0) else 0) = if s_ran n r = 0 then 1 else 0 := by
  have w := (w_step35 h hc).2.2.2.2
  by_cases z : s_ran n r = 0
  · rw [if_pos z, if_pos (w.mpr z).1, if_pos (w.mpr z).2]
  · rw [if_neg z]
    by_cases a : s_step 35 n g 28 5 = 0
    · rw [if_pos a, if_neg (fun b => z (w.mp ⟨a, b⟩))]
    · rw [if_neg a]
/-- how many are where they should be -/
def p_at (r : qM) (p : Nat) : Int32 := if r 78 p = i_none then 0 else if r 75 p = r 78 p then 1 else 0
def f_at (n : Nat) (r : qM) : Int32 := s_ct (p_at r) n 0 0
def p_hav (r : qM) (p : Nat) : Int32 := if r 78 p = i_none then 0 else 1
def f_hav (n : Nat) (r : qM) : Int32 := s_ct (p_hav r) n 0 0
theorem w_at_r {n : Nat} {g r : qM} (hs : w_sm n g r) (hg : ∀ p, p < n → g 78 p = r 78 p) : f_at n g = f_at n r := s_ct_cg n 0 0 (fun p _ hp => by
  have hp : p < n := by omega
  unfold p_at
  rw [(hs.2.2 p hp).1, hg p hp])
theorem w_at_c {T n W H : Nat} {g r : qM} (h : w_ok n W H r) (hc : w_cs T n g r) (hg : ∀ p, p < n → g (T + 4) p = r 78 p) : s_ct (fun p => if g (T + 1) p = g (T + 4) p then (1 : Int32) else 0) n 0 0 = f_at n r := s_ct_cg n 0 0 (fun p _ hp => by
  have hp : p < n := by omega
  unfold p_at
  show (if g (T + 1) p = g (T + 4) p then (1 : Int32) else 0) = _
  rw [(hc.2.2 p hp).1, hg p hp]
  by_cases z : r 78 p = i_none
  · obtain ⟨C, hC, e⟩ := h.2.2.2.2.1 p hp
    have hWH : W * H ≤ 25 := Nat.le_trans (Nat.mul_le_mul h.1.2.1 h.1.2.2.2.1) (Nat.le_refl 25)
    rw [z, e, if_neg (s_none_ne (by omega)), if_pos rfl]
  · rw [if_neg z])
theorem w_hav_c {T n : Nat} {g r : qM} (hg : ∀ p, p < n → g (T + 4) p = r 78 p) : s_ct (fun p => if g (T + 4) p = i_none then (0 : Int32) else 1) n 0 0 = f_hav n r := s_ct_cg n 0 0 (fun p _ hp => by
  have hp : p < n := by omega
  unfold p_hav
  show (if g (T + 4) p = i_none then (0 : Int32) else 1) = _
  rw [hg p hp])
theorem f_hav_rit {n : Nat} (k : Nat) (r : qM) : f_hav n (s_rit n k r) = f_hav n r := s_ct_cg n 0 0 (fun p _ _ => by
  unfold p_hav
  rw [s_rit_g (by omega)])
theorem sg_sk_1 (big : Nat → List Value → qM → qW → qR) (n0 : Nat) (G : qM) (U : qW) (v0 : Int32) : qm_run pm_m big m_73 (n0 + 6) 0 [(0, .ref 28), (1, .int v0)] [] G U = qm_run pm_m big m_73 n0 8 [(0, .ref 28), (1, .int v0)] [.int (((G 28 5) >>> (v0 &&& 31)) &&& (1 : Int32))] G U := rfl
theorem sg_sk_2 (big : Nat → List Value → qM → qW → qR) (n0 : Nat) (G : qM) (U : qW) (v0 : Int32) (v1 : Int32) : qm_run pm_m big m_67 (n0 + 3) 23 [(0, .ref 34), (1, .ref 20), (2, .int v0), (3, .int v1)] [] G U = qm_run pm_m big m_67 n0 28 [(0, .ref 34), (1, .ref 20), (2, .int v0), (3, .int v1)] [.int (G 20 3), .int v1] G U := rfl
theorem sg_sk_3 (big : Nat → List Value → qM → qW → qR) (n0 : Nat) (G : qM) (U : qW) (v0 : Int32) (v1 : Int32) : qm_run pm_m big m_67 (n0 + 4) 31 [(0, .ref 34), (1, .ref 20), (2, .int v0), (3, .int v1)] [] G U = qm_run pm_m big m_67 n0 39 [(0, .ref 34), (1, .ref 20), (2, .int v0), (3, .int v1)] [.int v1, .ref 33] G U := rfl
theorem sg_sk_4 (big : Nat → List Value → qM → qW → qR) (n0 : Nat) (G : qM) (U : qW) (v0 : Int32) (v1 : Int32) (v2 : Int32) : qm_run pm_m big m_67 (n0 + 1) 40 [(0, .ref 34), (1, .ref 20), (2, .int v0), (3, .int v1)] [.int v2] G U = qm_run pm_m big m_67 n0 41 [(0, .ref 34), (1, .ref 20), (2, .int v0), (3, .int v1)] [.int (4 : Int32), .int v2] G U := rfl
theorem sg_sk_5 (big : Nat → List Value → qM → qW → qR) (n0 : Nat) (G : qM) (U : qW) (v0 : Int32) (v1 : Int32) : qm_run pm_m big m_67 (n0 + 2) 61 [(0, .ref 34), (1, .ref 20), (2, .int v0), (3, .int v1)] [] G U = qm_run pm_m big m_67 n0 23 [(0, .ref 34), (1, .ref 20), (2, .int v0), (3, .int (v1 + (1 : Int32)))] [] G U := rfl
theorem sg_sk_6 (big : Nat → List Value → qM → qW → qR) (n0 : Nat) (G : qM) (U : qW) (v0 : Int32) (v1 : Int32) : qm_run pm_m big m_67 (n0 + 3) 44 [(0, .ref 34), (1, .ref 20), (2, .int v0), (3, .int v1)] [] G U = qm_run pm_m big m_67 n0 49 [(0, .ref 34), (1, .ref 20), (2, .int v0), (3, .int v1)] [.int v1, .ref 28] G U := rfl
theorem sg_sk_7 (big : Nat → List Value → qM → qW → qR) (n0 : Nat) (G : qM) (U : qW) (v0 : Int32) (v1 : Int32) : qm_run pm_m big m_67 (n0 + 9) 52 [(0, .ref 34), (1, .ref 20), (2, .int v0), (3, .int v1)] [.int (0 : Int32)] G U = qm_run pm_m big m_67 n0 23 [(0, .ref 34), (1, .ref 20), (2, .int (v0 ||| ((1 : Int32) <<< (v1 &&& 31)))), (3, .int (v1 + (1 : Int32)))] [] G U := rfl
theorem sg_sk_8 (big : Nat → List Value → qM → qW → qR) (n0 : Nat) (G : qM) (U : qW) (v0 : Int32) (v1 : Int32) : qm_run pm_m big m_67 (n0 + 3) 52 [(0, .ref 34), (1, .ref 20), (2, .int v0), (3, .int v1)] [.int (1 : Int32)] G U = qm_run pm_m big m_67 n0 23 [(0, .ref 34), (1, .ref 20), (2, .int v0), (3, .int (v1 + (1 : Int32)))] [] G U := rfl
theorem sg_sk_9 (big : Nat → List Value → qM → qW → qR) (n0 : Nat) (G : qM) (U : qW) : qm_run pm_m big m_67 (n0 + 3) 0 [(0, .ref 34), (1, .ref 20)] [] G U = qm_run pm_m big m_67 n0 5 [(0, .ref 34), (1, .ref 20)] [.ref 20, .ref 35] G U := rfl
theorem sg_sk_10 (big : Nat → List Value → qM → qW → qR) (n0 : Nat) (G : qM) (U : qW) : qm_run pm_m big m_67 (n0 + 4) 8 [(0, .ref 34), (1, .ref 20)] [] G U = qm_run pm_m big m_67 n0 16 [(0, .ref 34), (1, .ref 20)] [.ref 35, .ref 28] G U := rfl
theorem sg_sk_11 (big : Nat → List Value → qM → qW → qR) (n0 : Nat) (G : qM) (U : qW) : qm_run pm_m big m_67 (n0 + 4) 19 [(0, .ref 34), (1, .ref 20)] [] G U = qm_run pm_m big m_67 n0 23 [(0, .ref 34), (1, .ref 20), (2, .int (0 : Int32)), (3, .int (0 : Int32))] [] G U := rfl
theorem sg_sk_12 (big : Nat → List Value → qM → qW → qR) (n0 : Nat) (G : qM) (U : qW) : qm_run pm_m big m_66 (n0 + 4) 0 [(0, .ref 8)] [] G U = qm_run pm_m big m_66 n0 8 [(0, .ref 8)] [.ref 20, .ref 34] G U := rfl
theorem sg_sk_13 (big : Nat → List Value → qM → qW → qR) (n0 : Nat) (G : qM) (U : qW) : qm_run pm_m big m_83 (n0 + 4) 0 [(0, .ref 34)] [] G U = qm_run pm_m big m_83 n0 8 [(0, .ref 34)] [.ref 35, .ref 28] G U := rfl
theorem sg_sk_14 (big : Nat → List Value → qM → qW → qR) (n0 : Nat) (G : qM) (U : qW) : qm_run pm_m big m_83 (n0 + 2) 11 [(0, .ref 34)] [] G U = qm_run pm_m big m_83 n0 15 [(0, .ref 34)] [.ref 28] G U := rfl
theorem sg_sk_15 (big : Nat → List Value → qM → qW → qR) (n0 : Nat) (G : qM) (U : qW) (v0 : Int32) : qm_run pm_m big m_82 (n0 + 2) 10 [(0, .ref 34), (1, .ref 20), (2, .int v0)] [] G U = qm_run pm_m big m_82 n0 13 [(0, .ref 34), (1, .ref 20), (2, .int v0)] [.int (60 : Int32), .int v0] G U := rfl
theorem sg_sk_16 (big : Nat → List Value → qM → qW → qR) (n0 : Nat) (G : qM) (U : qW) (v0 : Int32) : qm_run pm_m big m_82 (n0 + 1) 16 [(0, .ref 34), (1, .ref 20), (2, .int v0)] [] G U = qm_run pm_m big m_82 n0 17 [(0, .ref 34), (1, .ref 20), (2, .int v0)] [.ref 34] G U := rfl
theorem sg_sk_17 (big : Nat → List Value → qM → qW → qR) (n0 : Nat) (G : qM) (U : qW) (v0 : Int32) : qm_run pm_m big m_82 (n0 + 3) 20 [(0, .ref 34), (1, .ref 20), (2, .int v0)] [.int (0 : Int32)] G U = qm_run pm_m big m_82 n0 10 [(0, .ref 34), (1, .ref 20), (2, .int (v0 + (1 : Int32)))] [] G U := rfl
theorem sg_sk_18 (big : Nat → List Value → qM → qW → qR) (n0 : Nat) (G : qM) (U : qW) : qm_run pm_m big m_82 (n0 + 3) 0 [(0, .ref 34), (1, .ref 20)] [] G U = qm_run pm_m big m_82 n0 5 [(0, .ref 34), (1, .ref 20)] [.ref 20, .ref 35] G U := rfl
theorem sg_sk_19 (big : Nat → List Value → qM → qW → qR) (n0 : Nat) (G : qM) (U : qW) : qm_run pm_m big m_82 (n0 + 2) 8 [(0, .ref 34), (1, .ref 20)] [] G U = qm_run pm_m big m_82 n0 10 [(0, .ref 34), (1, .ref 20), (2, .int (0 : Int32))] [] G U := rfl
theorem sg_sk_20 (big : Nat → List Value → qM → qW → qR) (n0 : Nat) (G : qM) (U : qW) : qm_run pm_m big m_81 (n0 + 4) 0 [(0, .ref 8)] [] G U = qm_run pm_m big m_81 n0 8 [(0, .ref 8)] [.ref 20, .ref 34] G U := rfl
theorem sg_sk_21 (big : Nat → List Value → qM → qW → qR) (n0 : Nat) (G : qM) (U : qW) (v0 : Int32) : qm_run pm_m big m_80 (n0 + 3) 0 [(0, .ref 34), (1, .ref 20), (2, .int v0)] [] G U = qm_run pm_m big m_80 n0 5 [(0, .ref 34), (1, .ref 20), (2, .int v0)] [.ref 20, .ref 35] G U := rfl
theorem sg_sk_22 (big : Nat → List Value → qM → qW → qR) (n0 : Nat) (G : qM) (U : qW) (v0 : Int32) : qm_run pm_m big m_80 (n0 + 5) 8 [(0, .ref 34), (1, .ref 20), (2, .int v0)] [] G U = qm_run pm_m big m_80 n0 17 [(0, .ref 34), (1, .ref 20), (2, .int v0)] [.int v0, .ref 35, .ref 28] G U := rfl
theorem sg_sk_23 (big : Nat → List Value → qM → qW → qR) (n0 : Nat) (G : qM) (U : qW) (v0 : Int32) (v1 : Int32) : qm_run pm_m big m_79 (n0 + 3) 0 [(0, .ref 8), (1, .int v0), (2, .int v1), (3, .int (0 : Int32))] [] G U = qm_run pm_m big m_79 n0 5 [(0, .ref 8), (1, .int v0), (2, .int v1), (3, .int (0 : Int32))] [.int v0, .ref 20] G U := rfl
theorem sg_sk_24 (big : Nat → List Value → qM → qW → qR) (n0 : Nat) (G : qM) (U : qW) (v0 : Int32) (v1 : Int32) : qm_run pm_m big m_79 (n0 + 2) 8 [(0, .ref 8), (1, .int v0), (2, .int v1), (3, .int (0 : Int32))] [.int (1 : Int32)] G U = qm_run pm_m big m_79 n0 12 [(0, .ref 8), (1, .int v0), (2, .int v1), (3, .int (0 : Int32))] [.int v1] G U := rfl
theorem sg_sk_25 (big : Nat → List Value → qM → qW → qR) (n0 : Nat) (G : qM) (U : qW) (v0 : Int32) (v1 : Int32) : qm_run pm_m big m_79 (n0 + 2) 15 [(0, .ref 8), (1, .int v0), (2, .int v1), (3, .int (0 : Int32))] [] G U = qm_run pm_m big m_79 n0 18 [(0, .ref 8), (1, .int v0), (2, .int v1), (3, .int (0 : Int32))] [.int (60 : Int32), .int v1] G U := rfl
theorem sg_sk_26 (big : Nat → List Value → qM → qW → qR) (n0 : Nat) (G : qM) (U : qW) (v0 : Int32) (v1 : Int32) : qm_run pm_m big m_79 (n0 + 1) 21 [(0, .ref 8), (1, .int v0), (2, .int v1), (3, .int (0 : Int32))] [] G U = qm_run pm_m big m_79 n0 22 [(0, .ref 8), (1, .int v0), (2, .int v1), (3, .int (0 : Int32))] [.int (0 : Int32)] G U := rfl
theorem sg_sk_27 (big : Nat → List Value → qM → qW → qR) (n0 : Nat) (G : qM) (U : qW) (v0 : Int32) (v1 : Int32) : qm_run pm_m big m_79 (n0 + 6) 25 [(0, .ref 8), (1, .int v0), (2, .int v1), (3, .int (0 : Int32))] [.int (1 : Int32)] G U = qm_run pm_m big m_79 n0 39 [(0, .ref 8), (1, .int v0), (2, .int v1), (3, .int (0 : Int32))] [.int v1, .ref 20, .ref 34] G U := rfl
theorem sg_sk_28 (big : Nat → List Value → qM → qW → qR) (n0 : Nat) (G : qM) (U : qW) (v0 : Int32) (v1 : Int32) : qm_run pm_m big m_79 (n0 + 6) 42 [(0, .ref 8), (1, .int v0), (2, .int v1), (3, .int (0 : Int32))] [.ref 35] G U = qm_run pm_m big m_79 n0 54 [(0, .ref 8), (1, .int v0), (2, .int v1), (3, .int (0 : Int32)), (4, .ref 35)] [.int v0, .ref 36] G U := rfl
theorem sg_sk_29 (big : Nat → List Value → qM → qW → qR) (n0 : Nat) (G : qM) (U : qW) (v0 : Int32) (v1 : Int32) : qm_run pm_m big m_79 (n0 + 3) 0 [(0, .ref 8), (1, .int v0), (2, .int v1), (3, .int (1 : Int32))] [] G U = qm_run pm_m big m_79 n0 5 [(0, .ref 8), (1, .int v0), (2, .int v1), (3, .int (1 : Int32))] [.int v0, .ref 20] G U := rfl
theorem sg_sk_30 (big : Nat → List Value → qM → qW → qR) (n0 : Nat) (G : qM) (U : qW) (v0 : Int32) (v1 : Int32) : qm_run pm_m big m_79 (n0 + 2) 8 [(0, .ref 8), (1, .int v0), (2, .int v1), (3, .int (1 : Int32))] [.int (1 : Int32)] G U = qm_run pm_m big m_79 n0 12 [(0, .ref 8), (1, .int v0), (2, .int v1), (3, .int (1 : Int32))] [.int v1] G U := rfl
theorem sg_sk_31 (big : Nat → List Value → qM → qW → qR) (n0 : Nat) (G : qM) (U : qW) (v0 : Int32) (v1 : Int32) : qm_run pm_m big m_79 (n0 + 2) 15 [(0, .ref 8), (1, .int v0), (2, .int v1), (3, .int (1 : Int32))] [] G U = qm_run pm_m big m_79 n0 18 [(0, .ref 8), (1, .int v0), (2, .int v1), (3, .int (1 : Int32))] [.int (60 : Int32), .int v1] G U := rfl
theorem sg_sk_32 (big : Nat → List Value → qM → qW → qR) (n0 : Nat) (G : qM) (U : qW) (v0 : Int32) (v1 : Int32) : qm_run pm_m big m_79 (n0 + 1) 21 [(0, .ref 8), (1, .int v0), (2, .int v1), (3, .int (1 : Int32))] [] G U = qm_run pm_m big m_79 n0 22 [(0, .ref 8), (1, .int v0), (2, .int v1), (3, .int (1 : Int32))] [.int (1 : Int32)] G U := rfl
theorem sg_sk_33 (big : Nat → List Value → qM → qW → qR) (n0 : Nat) (G : qM) (U : qW) (v0 : Int32) (v1 : Int32) : qm_run pm_m big m_79 (n0 + 6) 25 [(0, .ref 8), (1, .int v0), (2, .int v1), (3, .int (1 : Int32))] [.int (1 : Int32)] G U = qm_run pm_m big m_79 n0 39 [(0, .ref 8), (1, .int v0), (2, .int v1), (3, .int (1 : Int32))] [.int v1, .ref 20, .ref 34] G U := rfl
theorem sg_sk_34 (big : Nat → List Value → qM → qW → qR) (n0 : Nat) (G : qM) (U : qW) (v0 : Int32) (v1 : Int32) : qm_run pm_m big m_79 (n0 + 6) 42 [(0, .ref 8), (1, .int v0), (2, .int v1), (3, .int (1 : Int32))] [.ref 35] G U = qm_run pm_m big m_79 n0 64 [(0, .ref 8), (1, .int v0), (2, .int v1), (3, .int (1 : Int32)), (4, .ref 35)] [.int v0, .ref 37] G U := rfl
theorem sg_sk_35 (big : Nat → List Value → qM → qW → qR) (n0 : Nat) (G : qM) (U : qW) (v0 : Int32) : qm_run pm_m big m_56 (n0 + 3) 0 [(0, .ref 8), (1, .int v0), (2, .int (0 : Int32))] [] G U = qm_run pm_m big m_56 n0 5 [(0, .ref 8), (1, .int v0), (2, .int (0 : Int32))] [.int v0, .ref 20] G U := rfl
theorem sg_sk_36 (big : Nat → List Value → qM → qW → qR) (n0 : Nat) (G : qM) (U : qW) (v0 : Int32) : qm_run pm_m big m_56 (n0 + 2) 8 [(0, .ref 8), (1, .int v0), (2, .int (0 : Int32))] [.int (1 : Int32)] G U = qm_run pm_m big m_56 n0 12 [(0, .ref 8), (1, .int v0), (2, .int (0 : Int32))] [.int (0 : Int32)] G U := rfl
theorem sg_sk_37 (big : Nat → List Value → qM → qW → qR) (n0 : Nat) (G : qM) (U : qW) (v0 : Int32) : qm_run pm_m big m_56 (n0 + 5) 15 [(0, .ref 8), (1, .int v0), (2, .int (0 : Int32))] [.int (1 : Int32)] G U = qm_run pm_m big m_56 n0 28 [(0, .ref 8), (1, .int v0), (2, .int (0 : Int32))] [.ref 20, .ref 28] G U := rfl
theorem sg_sk_38 (big : Nat → List Value → qM → qW → qR) (n0 : Nat) (G : qM) (U : qW) (v0 : Int32) : qm_run pm_m big m_56 (n0 + 7) 31 [(0, .ref 8), (1, .int v0), (2, .int (0 : Int32))] [] G U = qm_run pm_m big m_56 n0 45 [(0, .ref 8), (1, .int v0), (2, .int (0 : Int32))] [.int v0, .ref 31, .int (100 : Int32)] G U := rfl
theorem sg_sk_39 (big : Nat → List Value → qM → qW → qR) (n0 : Nat) (G : qM) (U : qW) (v0 : Int32) : qm_run pm_m big m_56 (n0 + 3) 0 [(0, .ref 8), (1, .int v0), (2, .int (1 : Int32))] [] G U = qm_run pm_m big m_56 n0 5 [(0, .ref 8), (1, .int v0), (2, .int (1 : Int32))] [.int v0, .ref 20] G U := rfl
theorem sg_sk_40 (big : Nat → List Value → qM → qW → qR) (n0 : Nat) (G : qM) (U : qW) (v0 : Int32) : qm_run pm_m big m_56 (n0 + 2) 8 [(0, .ref 8), (1, .int v0), (2, .int (1 : Int32))] [.int (1 : Int32)] G U = qm_run pm_m big m_56 n0 12 [(0, .ref 8), (1, .int v0), (2, .int (1 : Int32))] [.int (1 : Int32)] G U := rfl
theorem sg_sk_41 (big : Nat → List Value → qM → qW → qR) (n0 : Nat) (G : qM) (U : qW) (v0 : Int32) : qm_run pm_m big m_56 (n0 + 5) 15 [(0, .ref 8), (1, .int v0), (2, .int (1 : Int32))] [.int (1 : Int32)] G U = qm_run pm_m big m_56 n0 28 [(0, .ref 8), (1, .int v0), (2, .int (1 : Int32))] [.ref 20, .ref 28] G U := rfl
theorem sg_sk_42 (big : Nat → List Value → qM → qW → qR) (n0 : Nat) (G : qM) (U : qW) (v0 : Int32) : qm_run pm_m big m_56 (n0 + 7) 31 [(0, .ref 8), (1, .int v0), (2, .int (1 : Int32))] [] G U = qm_run pm_m big m_56 n0 57 [(0, .ref 8), (1, .int v0), (2, .int (1 : Int32))] [.int v0, .ref 32, .int (100 : Int32)] G U := rfl
theorem sg_sk_43 (big : Nat → List Value → qM → qW → qR) (n0 : Nat) (G : qM) (U : qW) (v0 : Int32) : qm_run pm_m big m_65 (n0 + 3) 0 [(0, .ref 8), (1, .int v0)] [] G U = qm_run pm_m big m_65 n0 5 [(0, .ref 8), (1, .int v0)] [.int v0, .ref 20] G U := rfl
theorem sg_sk_44 (big : Nat → List Value → qM → qW → qR) (n0 : Nat) (G : qM) (U : qW) (v0 : Int32) : qm_run pm_m big m_65 (n0 + 5) 8 [(0, .ref 8), (1, .int v0)] [.int (1 : Int32)] G U = qm_run pm_m big m_65 n0 21 [(0, .ref 8), (1, .int v0)] [.ref 20, .ref 28] G U := rfl
theorem sg_sk_45 (big : Nat → List Value → qM → qW → qR) (n0 : Nat) (G : qM) (U : qW) (v0 : Int32) : qm_run pm_m big m_65 (n0 + 4) 24 [(0, .ref 8), (1, .int v0)] [] G U = qm_run pm_m big m_65 n0 32 [(0, .ref 8), (1, .int v0)] [.int v0, .ref 33] G U := rfl
theorem sg_sk_46 (big : Nat → List Value → qM → qW → qR) (n0 : Nat) (G : qM) (U : qW) (v0 : Int32) (v1 : Int32) : qm_run pm_m big m_74 (n0 + 4) 15 [(0, .ref 8), (1, .int v0), (2, .int v1)] [] G U = qm_run pm_m big m_74 n0 23 [(0, .ref 8), (1, .int v0), (2, .int v1)] [.int (G 20 3), .int v1] G U := rfl
theorem sg_sk_47 (big : Nat → List Value → qM → qW → qR) (n0 : Nat) (G : qM) (U : qW) (v0 : Int32) (v1 : Int32) : qm_run pm_m big m_74 (n0 + 5) 26 [(0, .ref 8), (1, .int v0), (2, .int v1)] [] G U = qm_run pm_m big m_74 n0 35 [(0, .ref 8), (1, .int v0), (2, .int v1)] [.int v1, .ref 31, .int v0] G U := rfl
theorem sg_sk_48 (big : Nat → List Value → qM → qW → qR) (n0 : Nat) (G : qM) (U : qW) (v0 : Int32) (v1 : Int32) (v2 : Int32) (v3 : Int32) : qm_run pm_m big m_74 (n0 + 4) 39 [(0, .ref 8), (1, .int v0), (2, .int v1)] [.int v3, .int v2] G U = qm_run pm_m big m_74 n0 47 [(0, .ref 8), (1, .int v0), (2, .int v1)] [.int v1, .ref 32, .int v3, .int v2] G U := rfl
theorem sg_sk_49 (big : Nat → List Value → qM → qW → qR) (n0 : Nat) (G : qM) (U : qW) (v0 : Int32) (v1 : Int32) (v2 : Int32) (v3 : Int32) (v4 : Int32) : qm_run pm_m big m_74 (n0 + 5) 51 [(0, .ref 8), (1, .int v0), (2, .int v1)] [.int v4, .int v3, .int v2] G U = qm_run pm_m big m_74 n0 15 [(0, .ref 8), (1, .int (v2 + (v3 + v4))), (2, .int (v1 + (1 : Int32)))] [] G U := rfl
theorem sg_sk_50 (big : Nat → List Value → qM → qW → qR) (n0 : Nat) (G : qM) (U : qW) : qm_run pm_m big m_74 (n0 + 4) 0 [(0, .ref 8)] [] G U = qm_run pm_m big m_74 n0 8 [(0, .ref 8)] [.ref 20, .ref 28] G U := rfl
theorem sg_sk_51 (big : Nat → List Value → qM → qW → qR) (n0 : Nat) (G : qM) (U : qW) : qm_run pm_m big m_74 (n0 + 4) 11 [(0, .ref 8)] [] G U = qm_run pm_m big m_74 n0 15 [(0, .ref 8), (1, .int (0 : Int32)), (2, .int (0 : Int32))] [] G U := rfl
theorem sg_sk_52 (big : Nat → List Value → qM → qW → qR) (n0 : Nat) (G : qM) (U : qW) (v0 : Int32) : qm_run pm_m big m_75 (n0 + 1) 0 [(0, .ref 8), (1, .int v0)] [] G U = qm_run pm_m big m_75 n0 1 [(0, .ref 8), (1, .int v0)] [.int v0] G U := rfl
theorem sg_sk_53 (big : Nat → List Value → qM → qW → qR) (n0 : Nat) (G : qM) (U : qW) (v0 : Int32) : qm_run pm_m big m_75 (n0 + 2) 4 [(0, .ref 8), (1, .int v0)] [] G U = qm_run pm_m big m_75 n0 7 [(0, .ref 8), (1, .int v0)] [.int (60 : Int32), .int v0] G U := rfl
theorem sg_sk_54 (big : Nat → List Value → qM → qW → qR) (n0 : Nat) (G : qM) (U : qW) (v0 : Int32) : qm_run pm_m big m_75 (n0 + 6) 12 [(0, .ref 8), (1, .int v0)] [] G U = qm_run pm_m big m_75 n0 24 [(0, .ref 8), (1, .int v0)] [.int (1000 : Int32), .int ((G 20 5) + v0)] G U := rfl
theorem sg_sk_55 (big : Nat → List Value → qM → qW → qR) (n0 : Nat) (G : qM) (U : qW) (v0 : Int32) : qm_run pm_m big m_75 (n0 + 5) 30 [(0, .ref 8), (1, .int v0)] [] G U = qm_run pm_m big m_75 n0 39 [(0, .ref 8), (1, .int v0)] [.int v0, .ref 20, .ref 28] G U := rfl
theorem sg_sk_56 (big : Nat → List Value → qM → qW → qR) (n0 : Nat) (G : qM) (U : qW) (v0 : Int32) : qm_run pm_m big m_75 (n0 + 2) 42 [(0, .ref 8), (1, .int v0)] [] G U = qm_run pm_m big m_75 n0 46 [(0, .ref 8), (1, .int v0)] [.ref 20] G U := rfl
def d_didGo (x : Int32) (g : qM) : Int32 := (if (((g 28 5) >>> (x &&& 31)) &&& (1 : Int32)) = 0 then (0 : Int32) else (1 : Int32))
theorem b_didGo (x : Int32) (g : qM) (u : qW) : q_BS 73 [.ref 28, .int x] g u (some (.int (d_didGo x g)), g, u) := by
  refine q_bx (mm := m_73) rfl (Nat.le_of_ble_eq_true rfl) rfl ?_
  refine q_step 6 8 [(0, .ref 28), (1, .int x)] [.int (((g 28 5) >>> (x &&& 31)) &&& (1 : Int32))] g u (fun big n0 => sg_sk_1 big n0 g u x) ?_
  refine q_if_eq rfl (fun (hc0 : (((g 28 5) >>> (x &&& 31)) &&& (1 : Int32)) = 0) => ?_) (fun (hc0 : ¬ ((((g 28 5) >>> (x &&& 31)) &&& (1 : Int32)) = 0)) => ?_)
  · refine q_ret 2 (some (.int (0 : Int32)), g, u) (fun _ _ => rfl) ?_
    unfold d_didGo
    rw [if_pos hc0]
  · refine q_ret 3 (some (.int (1 : Int32)), g, u) (fun _ _ => rfl) ?_
    unfold d_didGo
    rw [if_neg hc0]
theorem b_dg (x : Int32) (g : qM) (u : qW) : q_BS 73 [.ref 28, .int x] g u (some (.int (if s_bit (g 28 5) x = 0 then (0 : Int32) else 1)), g, u) := b_didGo x g u
theorem b_hasOne1 {n p : Nat} (g : qM) (u : qW) (hn : g 20 3 = Int32.ofNat n) (h6 : n ≤ 6) (hp : p < n) : q_BS 40 [.ref 20, .int (Int32.ofNat p)] g u (some (.int 1), g, u) := by
  have e : d_hasOne (Int32.ofNat p) g = 1 := by
    unfold d_hasOne
    rw [hn, if_neg (fun z => by
      have z := Int32.lt_iff_toInt_lt.mp z
      rw [q_nat (by omega)] at z
      have e : (0 : Int32).toInt = 0 := rfl
      omega), if_neg (fun z => by
      have z := (q_le (by omega) (by omega)).mp z
      omega)]
  have h := b_hasOne (Int32.ofNat p) g u
  rw [e] at h
  exact h
theorem sk_l (g : qM) (u : qW) {n : Nat} (hn : g 20 3 = Int32.ofNat n) (h6 : n ≤ 6) : ∀ k i a, i + k = n → q_EV m_67 23 [(0, .ref 34), (1, .ref 20), (2, .int a), (3, .int (Int32.ofNat i))] [] g u (fun R => R = (some (.int (s_bs (p_stk g) k i a)), g, u)) := by
  intro k
  induction k with
  | zero =>
    intro i a hi
    refine q_step 3 28 [(0, .ref 34), (1, .ref 20), (2, .int a), (3, .int (Int32.ofNat i))] [.int (g 20 3), .int (Int32.ofNat i)] g u (fun big n0 => sg_sk_2 big n0 g u a (Int32.ofNat i)) ?_
    refine q_ic_ge rfl (fun (hc0 : (g 20 3) ≤ (Int32.ofNat i)) => ?_) (fun hc0 => absurd (show (g 20 3) ≤ (Int32.ofNat i) from by rw [hn]; exact (q_le (by omega) (by omega)).mpr (by omega)) hc0)
    refine q_ret 2 (some (.int a), g, u) (fun _ _ => rfl) ?_
    rfl
  | succ k ih =>
    intro i a hi
    refine q_step 3 28 [(0, .ref 34), (1, .ref 20), (2, .int a), (3, .int (Int32.ofNat i))] [.int (g 20 3), .int (Int32.ofNat i)] g u (fun big n0 => sg_sk_2 big n0 g u a (Int32.ofNat i)) ?_
    refine q_ic_ge rfl (fun hc0 => absurd (show (g 20 3) ≤ (Int32.ofNat i) from hc0) (fun z => by rw [hn] at z; exact absurd ((q_le (by omega) (by omega)).mp z) (by omega))) (fun (hc0 : ¬ ((g 20 3) ≤ (Int32.ofNat i))) => ?_)
    refine q_step 4 39 [(0, .ref 34), (1, .ref 20), (2, .int a), (3, .int (Int32.ofNat i))] [.int (Int32.ofNat i), .ref 33] g u (fun big n0 => sg_sk_3 big n0 g u a (Int32.ofNat i)) ?_
    refine q_iald (j := i) (q_ixn (by omega) (by omega)) rfl rfl ?_
    refine q_step 1 41 [(0, .ref 34), (1, .ref 20), (2, .int a), (3, .int (Int32.ofNat i))] [.int (4 : Int32), .int (g 33 i)] g u (fun big n0 => sg_sk_4 big n0 g u a (Int32.ofNat i) (g 33 i)) ?_
    refine q_ic_eq rfl (fun (hc1 : (g 33 i) = (4 : Int32)) => ?_) (fun (hc1 : ¬ ((g 33 i) = (4 : Int32))) => ?_)
    · refine q_step 2 23 [(0, .ref 34), (1, .ref 20), (2, .int a), (3, .int ((Int32.ofNat i) + (1 : Int32)))] [] g u (fun big n0 => sg_sk_5 big n0 g u a (Int32.ofNat i)) ?_
      have e : p_stk g i = 0 := by
        unfold p_stk
        rw [if_pos hc1]
      rw [s_bs_0 e, q_succ]
      exact ih (i + 1) _ (by omega)
    · refine q_step 3 49 [(0, .ref 34), (1, .ref 20), (2, .int a), (3, .int (Int32.ofNat i))] [.int (Int32.ofNat i), .ref 28] g u (fun big n0 => sg_sk_6 big n0 g u a (Int32.ofNat i)) ?_
      by_cases hc2 : s_bit (g 28 5) (Int32.ofNat i) = 0
      · refine q_call (M2 := 73) (rest := []) (show q_BS 73 [.ref 28, .int (Int32.ofNat i)] g u (some (.int (0 : Int32)), g, u) from by have e := b_dg (Int32.ofNat i) g u; rw [if_pos hc2] at e; exact e) (fun _ _ => rfl) ?_
        refine q_step 9 23 [(0, .ref 34), (1, .ref 20), (2, .int (a ||| ((1 : Int32) <<< ((Int32.ofNat i) &&& 31)))), (3, .int ((Int32.ofNat i) + (1 : Int32)))] [] g u (fun big n0 => sg_sk_7 big n0 g u a (Int32.ofNat i)) ?_
        have e : p_stk g i = 1 := by
          unfold p_stk
          rw [if_neg hc1, if_pos hc2]
        rw [s_bs_1 e, q_succ]
        exact ih (i + 1) _ (by omega)
      · refine q_call (M2 := 73) (rest := []) (show q_BS 73 [.ref 28, .int (Int32.ofNat i)] g u (some (.int (1 : Int32)), g, u) from by have e := b_dg (Int32.ofNat i) g u; rw [if_neg hc2] at e; exact e) (fun _ _ => rfl) ?_
        refine q_step 3 23 [(0, .ref 34), (1, .ref 20), (2, .int a), (3, .int ((Int32.ofNat i) + (1 : Int32)))] [] g u (fun big n0 => sg_sk_8 big n0 g u a (Int32.ofNat i)) ?_
        have e : p_stk g i = 0 := by
          unfold p_stk
          rw [if_neg hc1, if_neg hc2]
        rw [s_bs_0 e, q_succ]
        exact ih (i + 1) _ (by omega)
theorem c_stk67 {n W H : Nat} {g r : qM} (u : qW) (h : w_ok n W H r) (hc : w_cs 20 n g r) : w_BS w_fc 67 [.ref 34, .ref 20] g u (.int (f_stk n r)) := by
  refine w_bs (mm := m_67) rfl (Nat.le_of_ble_eq_true rfl) rfl ?_
  have h5 : n ≤ 6 := h.1.2.2.2.2
  have hy := w_cpy (a := 35) (b := 20) h5 (by omega) hc
  refine q_step 3 5 [(0, .ref 34), (1, .ref 20)] [.ref 20, .ref 35] g u (fun big n0 => sg_sk_9 big n0 g u) ?_
  refine q_call (M2 := 41) (rest := []) (b_cpy35_20 _ _) (fun _ _ => rfl) ?_
  refine q_step 4 16 [(0, .ref 34), (1, .ref 20)] [.ref 35, .ref 28] (s_cpy 35 20 g) u (fun big n0 => sg_sk_10 big n0 (s_cpy 35 20 g) u) ?_
  refine q_call (M2 := 68) (rest := []) (c_st35 u h hy) (fun _ _ => rfl) ?_
  refine q_step 4 23 [(0, .ref 34), (1, .ref 20), (2, .int (0 : Int32)), (3, .int (0 : Int32))] [] (s_step 35 n (s_cpy 35 20 g)) u (fun big n0 => sg_sk_11 big n0 (s_step 35 n (s_cpy 35 20 g)) u) ?_
  refine q_EV.imp (sk_l (s_step 35 n (s_cpy 35 20 g)) u (by rw [s_step_35 20 (by omega), w_cpy_fc 20 (by omega), hc.1.1]; exact h.2.1) h5 n 0 0 (by omega)) (fun R e => ⟨(s_step 35 n (s_cpy 35 20 g)), u, ?_, ?_⟩)
  · rw [e, w_stk h hy]
  · exact w_fc.trans w_cpy_fc s_step_35
theorem c_stuck {n W H : Nat} {g r : qM} (u : qW) (h : w_ok n W H r) (hc : w_cs 20 n g r) : w_BS w_fc 66 [.ref 8] g u (.int (f_stk n r)) := by
  refine w_bs (mm := m_66) rfl (Nat.le_of_ble_eq_true rfl) rfl ?_
  refine q_step 4 8 [(0, .ref 8)] [.ref 20, .ref 34] g u (fun big n0 => sg_sk_12 big n0 g u) ?_
  obtain ⟨g1, u1, hb, hf⟩ := c_stk67 u h hc
  refine q_call (M2 := 67) (rest := []) (hb) (fun _ _ => rfl) ?_
  refine q_ret 1 (some (.int (f_stk n r)), g1, u1) (fun _ _ => rfl) ?_
  exact ⟨g1, u1, rfl, hf⟩
theorem c_tar {n W H : Nat} {g r : qM} (u : qW) (h : w_ok n W H r) (hc : w_cs 35 n g r) : q_BS 83 [.ref 34] g u (some (.int (if s_ran n r = 0 then (1 : Int32) else 0)), s_step 35 n g, u) := by
  refine q_bx (mm := m_83) rfl (Nat.le_of_ble_eq_true rfl) rfl ?_
  refine q_step 4 8 [(0, .ref 34)] [.ref 35, .ref 28] g u (fun big n0 => sg_sk_13 big n0 g u) ?_
  refine q_call (M2 := 68) (rest := []) (c_st35 u h hc) (fun _ _ => rfl) ?_
  refine q_step 2 15 [(0, .ref 34)] [.ref 28] (s_step 35 n g) u (fun big n0 => sg_sk_14 big n0 (s_step 35 n g) u) ?_
  refine q_call (M2 := 77) (rest := []) (by have e := b_changed (s_step 35 n g) u; rw [w_tar h hc] at e; exact e) (fun _ _ => rfl) ?_
  refine q_retb (s_01 _) rfl rfl ?_
  rfl
theorem tr_l (u : qW) {n W H : Nat} : ∀ k i g r, i + k = 61 → w_ok n W H r → w_cs 35 n g r → q_EV m_82 10 [(0, .ref 34), (1, .ref 20), (2, .int (Int32.ofNat i))] [] g u (w_po w_fc g (.int (f_rest n k i r))) := by
  intro k
  induction k with
  | zero =>
    intro i g r hi h hc
    refine q_step 2 13 [(0, .ref 34), (1, .ref 20), (2, .int (Int32.ofNat i))] [.int (60 : Int32), .int (Int32.ofNat i)] g u (fun big n0 => sg_sk_15 big n0 g u (Int32.ofNat i)) ?_
    refine q_ic_gt rfl (fun (hc0 : (60 : Int32) < (Int32.ofNat i)) => ?_) (fun hc0 => absurd (show (60 : Int32) < (Int32.ofNat i) from by rw [show i = 61 by omega]; decide) hc0)
    refine q_ret 2 (some (.int (Int8.toInt32 (Int8.ofInt (-4)))), g, u) (fun _ _ => rfl) ?_
    exact ⟨g, u, rfl, w_fc_rfl g⟩
  | succ k ih =>
    intro i g r hi h hc
    refine q_step 2 13 [(0, .ref 34), (1, .ref 20), (2, .int (Int32.ofNat i))] [.int (60 : Int32), .int (Int32.ofNat i)] g u (fun big n0 => sg_sk_15 big n0 g u (Int32.ofNat i)) ?_
    refine q_ic_gt rfl (fun hc0 => absurd (show (60 : Int32) < (Int32.ofNat i) from hc0) (fun z => by have z1 := (q_lt (i := 60) (j := i) (by omega) (by omega)).mp z; omega)) (fun (hc0 : ¬ ((60 : Int32) < (Int32.ofNat i))) => ?_)
    refine q_step 1 17 [(0, .ref 34), (1, .ref 20), (2, .int (Int32.ofNat i))] [.ref 34] g u (fun big n0 => sg_sk_16 big n0 g u (Int32.ofNat i)) ?_
    by_cases hc1 : s_ran n r = 0
    · refine q_call (M2 := 83) (rest := []) (show q_BS 83 [.ref 34] g u (some (.int (1 : Int32)), s_step 35 n g, u) from by have e := c_tar u h hc; rw [if_pos hc1] at e; exact e) (fun _ _ => rfl) ?_
      refine q_ret 3 (some (.int (Int32.ofNat i)), (s_step 35 n g), u) (fun _ _ => rfl) ?_
      exact ⟨s_step 35 n g, u, by rw [f_rest, if_pos hc1], s_step_35⟩
    · refine q_call (M2 := 83) (rest := []) (show q_BS 83 [.ref 34] g u (some (.int (0 : Int32)), s_step 35 n g, u) from by have e := c_tar u h hc; rw [if_neg hc1] at e; exact e) (fun _ _ => rfl) ?_
      refine q_step 3 10 [(0, .ref 34), (1, .ref 20), (2, .int ((Int32.ofNat i) + (1 : Int32)))] [] (s_step 35 n g) u (fun big n0 => sg_sk_17 big n0 (s_step 35 n g) u (Int32.ofNat i)) ?_
      have w := w_step35 h hc
      rw [q_succ]
      exact q_EV.imp (ih (i + 1) (s_step 35 n g) (s_rst n r) (by omega) w.1 w.2.1) (fun R z => w_po_c s_step_35 (by rw [f_rest, if_neg hc1]) z)
theorem c_rest82 {n W H : Nat} {g r : qM} (u : qW) (h : w_ok n W H r) (hc : w_cs 20 n g r) : w_BS w_fc 82 [.ref 34, .ref 20] g u (.int (f_rest n 61 0 r)) := by
  refine w_bs (mm := m_82) rfl (Nat.le_of_ble_eq_true rfl) rfl ?_
  have h5 : n ≤ 6 := h.1.2.2.2.2
  have hy := w_cpy (a := 35) (b := 20) h5 (by omega) hc
  refine q_step 3 5 [(0, .ref 34), (1, .ref 20)] [.ref 20, .ref 35] g u (fun big n0 => sg_sk_18 big n0 g u) ?_
  refine q_call (M2 := 41) (rest := []) (b_cpy35_20 _ _) (fun _ _ => rfl) ?_
  refine q_step 2 10 [(0, .ref 34), (1, .ref 20), (2, .int (0 : Int32))] [] (s_cpy 35 20 g) u (fun big n0 => sg_sk_19 big n0 (s_cpy 35 20 g) u) ?_
  exact q_EV.imp (tr_l u 61 0 (s_cpy 35 20 g) r (by omega) h hy) (fun R z => w_po_c w_cpy_fc rfl z)
theorem c_rest {n W H : Nat} {g r : qM} (u : qW) (h : w_ok n W H r) (hc : w_cs 20 n g r) : w_BS w_fc 81 [.ref 8] g u (.int (f_rest n 61 0 r)) := by
  refine w_bs (mm := m_81) rfl (Nat.le_of_ble_eq_true rfl) rfl ?_
  refine q_step 4 8 [(0, .ref 8)] [.ref 20, .ref 34] g u (fun big n0 => sg_sk_20 big n0 g u) ?_
  obtain ⟨g1, u1, hb, hf⟩ := c_rest82 u h hc
  refine q_call (M2 := 82) (rest := []) (hb) (fun _ _ => rfl) ?_
  refine q_ret 1 (some (.int (f_rest n 61 0 r)), g1, u1) (fun _ _ => rfl) ?_
  exact ⟨g1, u1, rfl, hf⟩
theorem c_beh {n W H : Nat} {g r : qM} (u : qW) (h : w_ok n W H r) (hc : w_cs 20 n g r) {m : Nat} (hm : m ≤ 60) : q_BS 80 [.ref 34, .ref 20, .int (Int32.ofNat m)] g u (some (.ref 35), (q_up (s_tss 35 n m (s_cpy 35 20 g)) 35 5 ((s_cpy 35 20 g) 35 5 + Int32.ofNat m)), u) := by
  refine q_bx (mm := m_80) rfl (Nat.le_of_ble_eq_true rfl) rfl ?_
  have h5 : n ≤ 6 := h.1.2.2.2.2
  have hy := w_cpy (a := 35) (b := 20) h5 (by omega) hc
  refine q_step 3 5 [(0, .ref 34), (1, .ref 20), (2, .int (Int32.ofNat m))] [.ref 20, .ref 35] g u (fun big n0 => sg_sk_21 big n0 g u (Int32.ofNat m)) ?_
  refine q_call (M2 := 41) (rest := []) (b_cpy35_20 _ _) (fun _ _ => rfl) ?_
  refine q_step 5 17 [(0, .ref 34), (1, .ref 20), (2, .int (Int32.ofNat m))] [.int (Int32.ofNat m), .ref 35, .ref 28] (s_cpy 35 20 g) u (fun big n0 => sg_sk_22 big n0 (s_cpy 35 20 g) u (Int32.ofNat m)) ?_
  refine q_call (M2 := 76) (rest := []) (c_tss35 u h hy hm) (fun _ _ => rfl) ?_
  refine q_ret 3 (some (.ref 35), (q_up (s_tss 35 n m (s_cpy 35 20 g)) 35 5 ((s_cpy 35 20 g) 35 5 + Int32.ofNat m)), u) (fun _ _ => rfl) ?_
  rfl
theorem w_beh {n W H m : Nat} {g r : qM} (h : w_ok n W H r) (hc : w_cs 20 n g r) : w_cs 35 n (q_up (s_tss 35 n m (s_cpy 35 20 g)) 35 5 ((s_cpy 35 20 g) 35 5 + Int32.ofNat m)) (s_rit n m r) ∧ w_fc g (q_up (s_tss 35 n m (s_cpy 35 20 g)) 35 5 ((s_cpy 35 20 g) 35 5 + Int32.ofNat m)) := ⟨w_up35 (w_tss35 h (w_cpy h.1.2.2.2.2 (by omega) hc) m), w_fc.up (w_fc.trans w_cpy_fc (s_tss_35 m _)) (by omega)⟩
theorem c_ahead0 {n W H : Nat} {g r : qM} (u : qW) (h : w_ok n W H r) (hc : w_cs 20 n g r) {m : Nat} (hm : m ≤ 60) {p : Nat} (hp : p < n) : w_BS w_fc 79 [.ref 8, .int (Int32.ofNat p), .int (Int32.ofNat m), .int (0 : Int32)] g u (.int (s_rit n m r 75 p)) := by
  refine w_bs (mm := m_79) rfl (Nat.le_of_ble_eq_true rfl) rfl ?_
  have h5 : n ≤ 6 := h.1.2.2.2.2
  refine q_step 3 5 [(0, .ref 8), (1, .int (Int32.ofNat p)), (2, .int (Int32.ofNat m)), (3, .int (0 : Int32))] [.int (Int32.ofNat p), .ref 20] g u (fun big n0 => sg_sk_23 big n0 g u (Int32.ofNat p) (Int32.ofNat m)) ?_
  refine q_call (M2 := 40) (rest := []) (b_hasOne1 g u (hc.1.1.trans h.2.1) h.1.2.2.2.2 hp) (fun _ _ => rfl) ?_
  refine q_step 2 12 [(0, .ref 8), (1, .int (Int32.ofNat p)), (2, .int (Int32.ofNat m)), (3, .int (0 : Int32))] [.int (Int32.ofNat m)] g u (fun big n0 => sg_sk_24 big n0 g u (Int32.ofNat p) (Int32.ofNat m)) ?_
  refine q_if_lt rfl (fun hc0 => absurd (show (Int32.ofNat m) < 0 from hc0) (fun z => by have z := Int32.lt_iff_toInt_lt.mp z; rw [q_nat (by omega)] at z; have e : (0 : Int32).toInt = 0 := rfl; omega)) (fun (hc0 : ¬ ((Int32.ofNat m) < 0)) => ?_)
  refine q_step 2 18 [(0, .ref 8), (1, .int (Int32.ofNat p)), (2, .int (Int32.ofNat m)), (3, .int (0 : Int32))] [.int (60 : Int32), .int (Int32.ofNat m)] g u (fun big n0 => sg_sk_25 big n0 g u (Int32.ofNat p) (Int32.ofNat m)) ?_
  refine q_ic_gt rfl (fun hc1 => absurd (show (60 : Int32) < (Int32.ofNat m) from hc1) (fun z => absurd ((q_lt (i := 60) (j := m) (by omega) (by omega)).mp z) (by omega))) (fun (hc1 : ¬ ((60 : Int32) < (Int32.ofNat m))) => ?_)
  refine q_step 1 22 [(0, .ref 8), (1, .int (Int32.ofNat p)), (2, .int (Int32.ofNat m)), (3, .int (0 : Int32))] [.int (0 : Int32)] g u (fun big n0 => sg_sk_26 big n0 g u (Int32.ofNat p) (Int32.ofNat m)) ?_
  refine q_call (M2 := 57) (rest := []) (show q_BS 57 [.int (0 : Int32)] g u (some (.int 1), g, u) from b_isHalf 0 g u) (fun _ _ => rfl) ?_
  refine q_step 6 39 [(0, .ref 8), (1, .int (Int32.ofNat p)), (2, .int (Int32.ofNat m)), (3, .int (0 : Int32))] [.int (Int32.ofNat m), .ref 20, .ref 34] g u (fun big n0 => sg_sk_27 big n0 g u (Int32.ofNat p) (Int32.ofNat m)) ?_
  refine q_call (M2 := 80) (rest := []) (c_beh u h hc hm) (fun _ _ => rfl) ?_
  refine q_step 6 54 [(0, .ref 8), (1, .int (Int32.ofNat p)), (2, .int (Int32.ofNat m)), (3, .int (0 : Int32)), (4, .ref 35)] [.int (Int32.ofNat p), .ref 36] (q_up (s_tss 35 n m (s_cpy 35 20 g)) 35 5 ((s_cpy 35 20 g) 35 5 + Int32.ofNat m)) u (fun big n0 => sg_sk_28 big n0 (q_up (s_tss 35 n m (s_cpy 35 20 g)) 35 5 ((s_cpy 35 20 g) 35 5 + Int32.ofNat m)) u (Int32.ofNat p) (Int32.ofNat m)) ?_
  refine q_iald (j := p) (q_ixn (by omega) (by omega)) rfl rfl ?_
  refine q_ret 2 (some (.int ((q_up (s_tss 35 n m (s_cpy 35 20 g)) 35 5 ((s_cpy 35 20 g) 35 5 + Int32.ofNat m)) 36 p)), (q_up (s_tss 35 n m (s_cpy 35 20 g)) 35 5 ((s_cpy 35 20 g) 35 5 + Int32.ofNat m)), u) (fun _ _ => rfl) ?_
  refine ⟨_, u, ?_, (w_beh (m := m) h hc).2⟩
  rw [((w_beh (m := m) h hc).1.2.2 p hp).1]
theorem c_ahead1 {n W H : Nat} {g r : qM} (u : qW) (h : w_ok n W H r) (hc : w_cs 20 n g r) {m : Nat} (hm : m ≤ 60) {p : Nat} (hp : p < n) : w_BS w_fc 79 [.ref 8, .int (Int32.ofNat p), .int (Int32.ofNat m), .int (1 : Int32)] g u (.int (s_rit n m r 76 p)) := by
  refine w_bs (mm := m_79) rfl (Nat.le_of_ble_eq_true rfl) rfl ?_
  have h5 : n ≤ 6 := h.1.2.2.2.2
  refine q_step 3 5 [(0, .ref 8), (1, .int (Int32.ofNat p)), (2, .int (Int32.ofNat m)), (3, .int (1 : Int32))] [.int (Int32.ofNat p), .ref 20] g u (fun big n0 => sg_sk_29 big n0 g u (Int32.ofNat p) (Int32.ofNat m)) ?_
  refine q_call (M2 := 40) (rest := []) (b_hasOne1 g u (hc.1.1.trans h.2.1) h.1.2.2.2.2 hp) (fun _ _ => rfl) ?_
  refine q_step 2 12 [(0, .ref 8), (1, .int (Int32.ofNat p)), (2, .int (Int32.ofNat m)), (3, .int (1 : Int32))] [.int (Int32.ofNat m)] g u (fun big n0 => sg_sk_30 big n0 g u (Int32.ofNat p) (Int32.ofNat m)) ?_
  refine q_if_lt rfl (fun hc0 => absurd (show (Int32.ofNat m) < 0 from hc0) (fun z => by have z := Int32.lt_iff_toInt_lt.mp z; rw [q_nat (by omega)] at z; have e : (0 : Int32).toInt = 0 := rfl; omega)) (fun (hc0 : ¬ ((Int32.ofNat m) < 0)) => ?_)
  refine q_step 2 18 [(0, .ref 8), (1, .int (Int32.ofNat p)), (2, .int (Int32.ofNat m)), (3, .int (1 : Int32))] [.int (60 : Int32), .int (Int32.ofNat m)] g u (fun big n0 => sg_sk_31 big n0 g u (Int32.ofNat p) (Int32.ofNat m)) ?_
  refine q_ic_gt rfl (fun hc1 => absurd (show (60 : Int32) < (Int32.ofNat m) from hc1) (fun z => absurd ((q_lt (i := 60) (j := m) (by omega) (by omega)).mp z) (by omega))) (fun (hc1 : ¬ ((60 : Int32) < (Int32.ofNat m))) => ?_)
  refine q_step 1 22 [(0, .ref 8), (1, .int (Int32.ofNat p)), (2, .int (Int32.ofNat m)), (3, .int (1 : Int32))] [.int (1 : Int32)] g u (fun big n0 => sg_sk_32 big n0 g u (Int32.ofNat p) (Int32.ofNat m)) ?_
  refine q_call (M2 := 57) (rest := []) (show q_BS 57 [.int (1 : Int32)] g u (some (.int 1), g, u) from b_isHalf 1 g u) (fun _ _ => rfl) ?_
  refine q_step 6 39 [(0, .ref 8), (1, .int (Int32.ofNat p)), (2, .int (Int32.ofNat m)), (3, .int (1 : Int32))] [.int (Int32.ofNat m), .ref 20, .ref 34] g u (fun big n0 => sg_sk_33 big n0 g u (Int32.ofNat p) (Int32.ofNat m)) ?_
  refine q_call (M2 := 80) (rest := []) (c_beh u h hc hm) (fun _ _ => rfl) ?_
  refine q_step 6 64 [(0, .ref 8), (1, .int (Int32.ofNat p)), (2, .int (Int32.ofNat m)), (3, .int (1 : Int32)), (4, .ref 35)] [.int (Int32.ofNat p), .ref 37] (q_up (s_tss 35 n m (s_cpy 35 20 g)) 35 5 ((s_cpy 35 20 g) 35 5 + Int32.ofNat m)) u (fun big n0 => sg_sk_34 big n0 (q_up (s_tss 35 n m (s_cpy 35 20 g)) 35 5 ((s_cpy 35 20 g) 35 5 + Int32.ofNat m)) u (Int32.ofNat p) (Int32.ofNat m)) ?_
  refine q_iald (j := p) (q_ixn (by omega) (by omega)) rfl rfl ?_
  refine q_ret 1 (some (.int ((q_up (s_tss 35 n m (s_cpy 35 20 g)) 35 5 ((s_cpy 35 20 g) 35 5 + Int32.ofNat m)) 37 p)), (q_up (s_tss 35 n m (s_cpy 35 20 g)) 35 5 ((s_cpy 35 20 g) 35 5 + Int32.ofNat m)), u) (fun _ _ => rfl) ?_
  refine ⟨_, u, ?_, (w_beh (m := m) h hc).2⟩
  rw [((w_beh (m := m) h hc).1.2.2 p hp).2.1]
theorem c_force0 {n W H : Nat} {g r : qM} (u : qW) (h : w_ok n W H r) (hc : w_cs 20 n g r) {p : Nat} (hp : p < n) : w_BS w_fc 56 [.ref 8, .int (Int32.ofNat p), .int (0 : Int32)] g u (.int (100 + f_fo n r 0 p)) := by
  refine w_bs (mm := m_56) rfl (Nat.le_of_ble_eq_true rfl) rfl ?_
  have h5 : n ≤ 6 := h.1.2.2.2.2
  refine q_step 3 5 [(0, .ref 8), (1, .int (Int32.ofNat p)), (2, .int (0 : Int32))] [.int (Int32.ofNat p), .ref 20] g u (fun big n0 => sg_sk_35 big n0 g u (Int32.ofNat p)) ?_
  refine q_call (M2 := 40) (rest := []) (b_hasOne1 g u (hc.1.1.trans h.2.1) h.1.2.2.2.2 hp) (fun _ _ => rfl) ?_
  refine q_step 2 12 [(0, .ref 8), (1, .int (Int32.ofNat p)), (2, .int (0 : Int32))] [.int (0 : Int32)] g u (fun big n0 => sg_sk_36 big n0 g u (Int32.ofNat p)) ?_
  refine q_call (M2 := 57) (rest := []) (show q_BS 57 [.int (0 : Int32)] g u (some (.int 1), g, u) from b_isHalf 0 g u) (fun _ _ => rfl) ?_
  refine q_step 5 28 [(0, .ref 8), (1, .int (Int32.ofNat p)), (2, .int (0 : Int32))] [.ref 20, .ref 28] g u (fun big n0 => sg_sk_37 big n0 g u (Int32.ofNat p)) ?_
  refine q_call (M2 := 58) (rest := []) (c_weigh20 u h hc) (fun _ _ => rfl) ?_
  refine q_step 7 45 [(0, .ref 8), (1, .int (Int32.ofNat p)), (2, .int (0 : Int32))] [.int (Int32.ofNat p), .ref 31, .int (100 : Int32)] (s_wg 20 n g) u (fun big n0 => sg_sk_38 big n0 (s_wg 20 n g) u (Int32.ofNat p)) ?_
  refine q_iald (j := p) (q_ixn (by omega) (by omega)) rfl rfl ?_
  refine q_ret 3 (some (.int ((100 : Int32) + ((s_wg 20 n g) 31 p))), (s_wg 20 n g), u) (fun _ _ => rfl) ?_
  exact ⟨_, u, by rw [(w_fo_c h hc hp).1], s_wg_fc⟩
theorem c_force1 {n W H : Nat} {g r : qM} (u : qW) (h : w_ok n W H r) (hc : w_cs 20 n g r) {p : Nat} (hp : p < n) : w_BS w_fc 56 [.ref 8, .int (Int32.ofNat p), .int (1 : Int32)] g u (.int (100 + f_fo n r 1 p)) := by
  refine w_bs (mm := m_56) rfl (Nat.le_of_ble_eq_true rfl) rfl ?_
  have h5 : n ≤ 6 := h.1.2.2.2.2
  refine q_step 3 5 [(0, .ref 8), (1, .int (Int32.ofNat p)), (2, .int (1 : Int32))] [.int (Int32.ofNat p), .ref 20] g u (fun big n0 => sg_sk_39 big n0 g u (Int32.ofNat p)) ?_
  refine q_call (M2 := 40) (rest := []) (b_hasOne1 g u (hc.1.1.trans h.2.1) h.1.2.2.2.2 hp) (fun _ _ => rfl) ?_
  refine q_step 2 12 [(0, .ref 8), (1, .int (Int32.ofNat p)), (2, .int (1 : Int32))] [.int (1 : Int32)] g u (fun big n0 => sg_sk_40 big n0 g u (Int32.ofNat p)) ?_
  refine q_call (M2 := 57) (rest := []) (show q_BS 57 [.int (1 : Int32)] g u (some (.int 1), g, u) from b_isHalf 1 g u) (fun _ _ => rfl) ?_
  refine q_step 5 28 [(0, .ref 8), (1, .int (Int32.ofNat p)), (2, .int (1 : Int32))] [.ref 20, .ref 28] g u (fun big n0 => sg_sk_41 big n0 g u (Int32.ofNat p)) ?_
  refine q_call (M2 := 58) (rest := []) (c_weigh20 u h hc) (fun _ _ => rfl) ?_
  refine q_step 7 57 [(0, .ref 8), (1, .int (Int32.ofNat p)), (2, .int (1 : Int32))] [.int (Int32.ofNat p), .ref 32, .int (100 : Int32)] (s_wg 20 n g) u (fun big n0 => sg_sk_42 big n0 (s_wg 20 n g) u (Int32.ofNat p)) ?_
  refine q_iald (j := p) (q_ixn (by omega) (by omega)) rfl rfl ?_
  refine q_ret 2 (some (.int ((100 : Int32) + ((s_wg 20 n g) 32 p))), (s_wg 20 n g), u) (fun _ _ => rfl) ?_
  exact ⟨_, u, by rw [(w_fo_c h hc hp).2], s_wg_fc⟩
theorem c_wish {n W H : Nat} {g r : qM} (u : qW) (h : w_ok n W H r) (hc : w_cs 20 n g r) {p : Nat} (hp : p < n) : w_BS w_fc 65 [.ref 8, .int (Int32.ofNat p)] g u (.int (f_wi n r p)) := by
  refine w_bs (mm := m_65) rfl (Nat.le_of_ble_eq_true rfl) rfl ?_
  have h5 : n ≤ 6 := h.1.2.2.2.2
  refine q_step 3 5 [(0, .ref 8), (1, .int (Int32.ofNat p))] [.int (Int32.ofNat p), .ref 20] g u (fun big n0 => sg_sk_43 big n0 g u (Int32.ofNat p)) ?_
  refine q_call (M2 := 40) (rest := []) (b_hasOne1 g u (hc.1.1.trans h.2.1) h.1.2.2.2.2 hp) (fun _ _ => rfl) ?_
  refine q_step 5 21 [(0, .ref 8), (1, .int (Int32.ofNat p))] [.ref 20, .ref 28] g u (fun big n0 => sg_sk_44 big n0 g u (Int32.ofNat p)) ?_
  refine q_call (M2 := 58) (rest := []) (c_weigh20 u h hc) (fun _ _ => rfl) ?_
  refine q_step 4 32 [(0, .ref 8), (1, .int (Int32.ofNat p))] [.int (Int32.ofNat p), .ref 33] (s_wg 20 n g) u (fun big n0 => sg_sk_45 big n0 (s_wg 20 n g) u (Int32.ofNat p)) ?_
  refine q_iald (j := p) (q_ixn (by omega) (by omega)) rfl rfl ?_
  refine q_ret 1 (some (.int ((s_wg 20 n g) 33 p)), (s_wg 20 n g), u) (fun _ _ => rfl) ?_
  exact ⟨_, u, by rw [w_wi_c h hc hp], s_wg_fc⟩
theorem st_l (g : qM) (u : qW) {n : Nat} (hn : g 20 3 = Int32.ofNat n) (h6 : n ≤ 6) : ∀ k i a, i + k = n → q_EV m_74 15 [(0, .ref 8), (1, .int a), (2, .int (Int32.ofNat i))] [] g u (fun R => R = (some (.int (s_ct (p_str (g 31) (g 32)) k i a)), g, u)) := by
  intro k
  induction k with
  | zero =>
    intro i a hi
    refine q_step 4 23 [(0, .ref 8), (1, .int a), (2, .int (Int32.ofNat i))] [.int (g 20 3), .int (Int32.ofNat i)] g u (fun big n0 => sg_sk_46 big n0 g u a (Int32.ofNat i)) ?_
    refine q_ic_ge rfl (fun (hc0 : (g 20 3) ≤ (Int32.ofNat i)) => ?_) (fun hc0 => absurd (show (g 20 3) ≤ (Int32.ofNat i) from by rw [hn]; exact (q_le (by omega) (by omega)).mpr (by omega)) hc0)
    refine q_ret 2 (some (.int a), g, u) (fun _ _ => rfl) ?_
    rfl
  | succ k ih =>
    intro i a hi
    refine q_step 4 23 [(0, .ref 8), (1, .int a), (2, .int (Int32.ofNat i))] [.int (g 20 3), .int (Int32.ofNat i)] g u (fun big n0 => sg_sk_46 big n0 g u a (Int32.ofNat i)) ?_
    refine q_ic_ge rfl (fun hc0 => absurd (show (g 20 3) ≤ (Int32.ofNat i) from hc0) (fun z => by rw [hn] at z; exact absurd ((q_le (by omega) (by omega)).mp z) (by omega))) (fun (hc0 : ¬ ((g 20 3) ≤ (Int32.ofNat i))) => ?_)
    refine q_step 5 35 [(0, .ref 8), (1, .int a), (2, .int (Int32.ofNat i))] [.int (Int32.ofNat i), .ref 31, .int a] g u (fun big n0 => sg_sk_47 big n0 g u a (Int32.ofNat i)) ?_
    refine q_iald (j := i) (q_ixn (by omega) (by omega)) rfl rfl ?_
    refine q_call (M2 := 62) (rest := [.int a]) (b_abs _ _ _) (fun _ _ => rfl) ?_
    refine q_step 4 47 [(0, .ref 8), (1, .int a), (2, .int (Int32.ofNat i))] [.int (Int32.ofNat i), .ref 32, .int (s_abs (g 31 i)), .int a] g u (fun big n0 => sg_sk_48 big n0 g u a (Int32.ofNat i) a (s_abs (g 31 i))) ?_
    refine q_iald (j := i) (q_ixn (by omega) (by omega)) rfl rfl ?_
    refine q_call (M2 := 62) (rest := [.int (s_abs (g 31 i)), .int a]) (b_abs _ _ _) (fun _ _ => rfl) ?_
    refine q_step 5 15 [(0, .ref 8), (1, .int (a + ((s_abs (g 31 i)) + (s_abs (g 32 i))))), (2, .int ((Int32.ofNat i) + (1 : Int32)))] [] g u (fun big n0 => sg_sk_49 big n0 g u a (Int32.ofNat i) a (s_abs (g 31 i)) (s_abs (g 32 i))) ?_
    rw [s_ct_s (P := p_str (g 31) (g 32)) (i := i) (v := s_abs (g 31 i) + s_abs (g 32 i)) rfl, q_succ]
    exact ih (i + 1) _ (by omega)
theorem c_strain {n W H : Nat} {g r : qM} (u : qW) (h : w_ok n W H r) (hc : w_cs 20 n g r) : w_BS w_fc 74 [.ref 8] g u (.int (f_str n r)) := by
  refine w_bs (mm := m_74) rfl (Nat.le_of_ble_eq_true rfl) rfl ?_
  have h5 : n ≤ 6 := h.1.2.2.2.2
  refine q_step 4 8 [(0, .ref 8)] [.ref 20, .ref 28] g u (fun big n0 => sg_sk_50 big n0 g u) ?_
  refine q_call (M2 := 58) (rest := []) (c_weigh20 u h hc) (fun _ _ => rfl) ?_
  refine q_step 4 15 [(0, .ref 8), (1, .int (0 : Int32)), (2, .int (0 : Int32))] [] (s_wg 20 n g) u (fun big n0 => sg_sk_51 big n0 (s_wg 20 n g) u) ?_
  refine q_EV.imp (st_l (s_wg 20 n g) u (by rw [s_wg_fc 20 (by omega), hc.1.1]; exact h.2.1) h5 n 0 0 (by omega)) (fun R e => ⟨s_wg 20 n g, u, ?_, s_wg_fc⟩)
  rw [e, show f_str n r = s_ct (p_str (s_wg 20 n g 31) (s_wg 20 n g 32)) n 0 0 from s_ct_cg n 0 0 (fun p _ hp => by
    have hp : p < n := by omega
    unfold p_str
    rw [(w_fo_c h hc hp).1, (w_fo_c h hc hp).2])]
theorem c_go {n W H : Nat} {g r : qM} (u : qW) (h : w_ok n W H r) (hc : w_cs 20 n g r) {m : Nat} (hm : m ≤ 60) (hg : ∀ p, p < n → g 24 p = r 78 p) (hs : ¬ 1000 ≤ g 20 5 + Int32.ofNat m) : q_BS 75 [.ref 8, .int (Int32.ofNat m)] g u (some (.int (f_at n (s_rit n m r))), (q_up (s_tss 20 n m g) 20 5 (g 20 5 + Int32.ofNat m)), u) := by
  refine q_bx (mm := m_75) rfl (Nat.le_of_ble_eq_true rfl) rfl ?_
  have h5 : n ≤ 6 := h.1.2.2.2.2
  refine q_step 1 1 [(0, .ref 8), (1, .int (Int32.ofNat m))] [.int (Int32.ofNat m)] g u (fun big n0 => sg_sk_52 big n0 g u (Int32.ofNat m)) ?_
  refine q_if_lt rfl (fun hc0 => absurd (show (Int32.ofNat m) < 0 from hc0) (fun z => by have z := Int32.lt_iff_toInt_lt.mp z; rw [q_nat (by omega)] at z; have e : (0 : Int32).toInt = 0 := rfl; omega)) (fun (hc0 : ¬ ((Int32.ofNat m) < 0)) => ?_)
  refine q_step 2 7 [(0, .ref 8), (1, .int (Int32.ofNat m))] [.int (60 : Int32), .int (Int32.ofNat m)] g u (fun big n0 => sg_sk_53 big n0 g u (Int32.ofNat m)) ?_
  refine q_ic_le rfl (fun (hc1 : (Int32.ofNat m) ≤ (60 : Int32)) => ?_) (fun hc1 => absurd (show (Int32.ofNat m) ≤ (60 : Int32) from (q_le (i := m) (j := 60) (by omega) (by omega)).mpr hm) hc1)
  refine q_step 6 24 [(0, .ref 8), (1, .int (Int32.ofNat m))] [.int (1000 : Int32), .int ((g 20 5) + (Int32.ofNat m))] g u (fun big n0 => sg_sk_54 big n0 g u (Int32.ofNat m)) ?_
  refine q_ic_lt rfl (fun (hc2 : ((g 20 5) + (Int32.ofNat m)) < (1000 : Int32)) => ?_) (fun hc2 => absurd (show ((g 20 5) + (Int32.ofNat m)) < (1000 : Int32) from Int32.not_le.mp hs) hc2)
  refine q_step 5 39 [(0, .ref 8), (1, .int (Int32.ofNat m))] [.int (Int32.ofNat m), .ref 20, .ref 28] g u (fun big n0 => sg_sk_55 big n0 g u (Int32.ofNat m)) ?_
  refine q_call (M2 := 76) (rest := []) (c_tss20 u h hc hm) (fun _ _ => rfl) ?_
  refine q_step 2 46 [(0, .ref 8), (1, .int (Int32.ofNat m))] [.ref 20] (q_up (s_tss 20 n m g) 20 5 (g 20 5 + Int32.ofNat m)) u (fun big n0 => sg_sk_56 big n0 (q_up (s_tss 20 n m g) 20 5 (g 20 5 + Int32.ofNat m)) u (Int32.ofNat m)) ?_
  have hc3 : w_cs 20 n (q_up (s_tss 20 n m g) 20 5 (g 20 5 + Int32.ofNat m)) (s_rit n m r) := w_up20 (w_tss20 h hc m)
  have hag := b_atg20 (q_up (s_tss 20 n m g) 20 5 (g 20 5 + Int32.ofNat m)) u (hc3.1.1.trans (w_ok_rit m r h).2.1) h5
  rw [w_at_c (T := 20) (w_ok_rit m r h) hc3 (fun p hp => by rw [s_rit_g (by omega)]; exact (congrFun (s_tss_go (T := 20) (Or.inl rfl) m g) p).trans (hg p hp))] at hag
  refine q_call (M2 := 78) (rest := []) (hag) (fun _ _ => rfl) ?_
  refine q_ret 1 (some (.int (f_at n (s_rit n m r))), (q_up (s_tss 20 n m g) 20 5 (g 20 5 + Int32.ofNat m)), u) (fun _ _ => rfl) ?_
  rfl
end
section
/-! SEARCHES of the reference. -/
theorem s_or0 (a x : Int32) : a ||| ((0 : Int32) <<< x) = a := by
  apply Int32.toBitVec_inj.mp
  simp
theorem s_rixn {K i : Nat} (h : K + i < 132) : q_ix (Int32.ofNat K + Int32.ofNat i) (K + i) 132 := by
  rw [← Int32.ofNat_add]
  exact q_ixn h (by omega)
def p_stk2 (g : qM) (p : Nat) : Int32 := if g 79 p = 4 then 0 else if g 80 p = 4 then 1 else 0
def p_hvs (g : qM) (p : Nat) : Int32 := if g 71 (15 + p) = i_none then 0 else 1
theorem w_st_sm {n : Nat} {g g1 r : qM} (hf : w_fr g g1) (h5 : n ≤ 5) (hs : w_sm n (s_start g) r) : w_sm n (s_start g1) r := by
  have e1 : g1 71 = g 71 := hf.1 71 (by omega)
  have e2 : ∀ j, j ≠ 27 → g1 70 j = g 70 j := hf.2
  obtain ⟨⟨a1, a2, a3, a4, a5⟩, b, c⟩ := hs
  refine ⟨⟨?_, ?_, ?_, ?_, ?_⟩, fun d x y => ?_, fun p hp => ⟨?_, ?_, ?_⟩⟩
  · show g1 70 4 = _
    rw [e2 4 (by omega)]
    exact a1
  · show g1 70 2 = _
    rw [e2 2 (by omega)]
    exact a2
  · show g1 70 3 = _
    rw [e2 3 (by omega)]
    exact a3
  · show g1 71 20 = _
    rw [e1]
    exact a4
  · show g1 71 25 = _
    rw [e1]
    exact a5
  · show g1 71 (20 + d) = _
    rw [e1]
    exact b d x y
  · have z := (c p hp).1
    have hp5 : p < 5 := by omega
    show (if p < 5 then g1 71 p else g1 75 p) = _
    rw [if_pos hp5, e1, ← z]
    show _ = (if p < 5 then g 71 p else g 75 p)
    rw [if_pos hp5]
  · have z := (c p hp).2.1
    have hp5 : p < 5 := by omega
    show (if p < 5 then g1 71 (5 + p) else g1 76 p) = _
    rw [if_pos hp5, e1, ← z]
    show _ = (if p < 5 then g 71 (5 + p) else g 76 p)
    rw [if_pos hp5]
  · have z := (c p hp).2.2
    have hp5 : p < 5 := by omega
    show (if p < 5 then g1 71 (10 + p) else g1 77 p) = _
    rw [if_pos hp5, e1, ← z]
    show _ = (if p < 5 then g 71 (10 + p) else g 77 p)
    rw [if_pos hp5]
theorem w_pl {n W H : Nat} {g r : qM} (h : w_ok n W H r) (hs : w_sm n (s_start g) r) : g 70 4 = Int32.ofNat n := by
  have e := hs.1.1
  rw [h.2.1] at e
  exact e
theorem w_st78 {n p : Nat} {g : qM} (h5 : n ≤ 5) (hp : p < n) : s_start g 78 p = g 71 (15 + p) := by
  show (if p < 5 then g 71 (15 + p) else g 78 p) = _
  rw [if_pos (by omega)]
theorem w_stk2 {n W H : Nat} {g r : qM} (h : w_ok n W H r) (hs : w_sm n g r) : s_bs (p_stk2 (s_rst n g)) n 0 0 = f_stk n r := s_bs_cg n 0 0 (fun p _ hp => by
  have w := (w_sm_rst h hs).2.1 p (by omega)
  unfold p_stk2 p_stkr
  rw [w.1, w.2])
theorem w_hvs {n : Nat} {g r : qM} (hst : ∀ p, p < n → g 71 (15 + p) = r 78 p) : s_ct (p_hvs g) n 0 0 = f_hav n r := s_ct_cg n 0 0 (fun p _ hp => by
  unfold p_hvs p_hav
  rw [hst p (by omega)])
/-- go of the reference: rows kept -/
def s_rgo (n m : Nat) (g : qM) : qM := fun a j => if a = 71 then (if j < 5 then s_rit n m (s_start g) 75 j else if j < 10 then s_rit n m (s_start g) 76 (j - 5) else if j = 26 then g 71 26 + Int32.ofNat m else g 71 j) else s_rit n m (s_start g) a j
theorem sg_rk_1 (big : Nat → List Value → qM → qW → qR) (n0 : Nat) (G : qM) (U : qW) (v0 : Int32) (v1 : Int32) : qm_run pm_m big m_190 (n0 + 3) 13 [(0, .ref 70), (1, .int v0), (2, .int v1)] [] G U = qm_run pm_m big m_190 n0 18 [(0, .ref 70), (1, .int v0), (2, .int v1)] [.int (G 70 27), .int v1] G U := rfl
theorem sg_rk_2 (big : Nat → List Value → qM → qW → qR) (n0 : Nat) (G : qM) (U : qW) (v0 : Int32) (v1 : Int32) : qm_run pm_m big m_190 (n0 + 4) 21 [(0, .ref 70), (1, .int v0), (2, .int v1)] [] G U = qm_run pm_m big m_190 n0 27 [(0, .ref 70), (1, .int v0), (2, .int v1)] [.int v1, .ref 79, .int v0] G U := rfl
theorem sg_rk_3 (big : Nat → List Value → qM → qW → qR) (n0 : Nat) (G : qM) (U : qW) (v0 : Int32) (v1 : Int32) (v2 : Int32) (v3 : Int32) : qm_run pm_m big m_190 (n0 + 1) 28 [(0, .ref 70), (1, .int v0), (2, .int v1)] [.int v3, .int v2] G U = qm_run pm_m big m_190 n0 29 [(0, .ref 70), (1, .int v0), (2, .int v1)] [.int (4 : Int32), .int v3, .int v2] G U := rfl
theorem sg_rk_4 (big : Nat → List Value → qM → qW → qR) (n0 : Nat) (G : qM) (U : qW) (v0 : Int32) (v1 : Int32) (v2 : Int32) : qm_run pm_m big m_190 (n0 + 1) 46 [(0, .ref 70), (1, .int v0), (2, .int v1)] [.int v2] G U = qm_run pm_m big m_190 n0 47 [(0, .ref 70), (1, .int v0), (2, .int v1)] [.int (0 : Int32), .int v2] G U := rfl
theorem sg_rk_5 (big : Nat → List Value → qM → qW → qR) (n0 : Nat) (G : qM) (U : qW) (v0 : Int32) (v1 : Int32) (v2 : Int32) : qm_run pm_m big m_190 (n0 + 6) 50 [(0, .ref 70), (1, .int v0), (2, .int v1)] [.int (0 : Int32), .int v2] G U = qm_run pm_m big m_190 n0 13 [(0, .ref 70), (1, .int (v2 ||| ((0 : Int32) <<< (v1 &&& 31)))), (2, .int (v1 + (1 : Int32)))] [] G U := rfl
theorem sg_rk_6 (big : Nat → List Value → qM → qW → qR) (n0 : Nat) (G : qM) (U : qW) (v0 : Int32) (v1 : Int32) (v2 : Int32) : qm_run pm_m big m_190 (n0 + 3) 32 [(0, .ref 70), (1, .int v0), (2, .int v1)] [.int v2] G U = qm_run pm_m big m_190 n0 37 [(0, .ref 70), (1, .int v0), (2, .int v1)] [.int v1, .ref 80, .int v2] G U := rfl
theorem sg_rk_7 (big : Nat → List Value → qM → qW → qR) (n0 : Nat) (G : qM) (U : qW) (v0 : Int32) (v1 : Int32) (v2 : Int32) (v3 : Int32) : qm_run pm_m big m_190 (n0 + 1) 38 [(0, .ref 70), (1, .int v0), (2, .int v1)] [.int v3, .int v2] G U = qm_run pm_m big m_190 n0 39 [(0, .ref 70), (1, .int v0), (2, .int v1)] [.int (4 : Int32), .int v3, .int v2] G U := rfl
theorem sg_rk_8 (big : Nat → List Value → qM → qW → qR) (n0 : Nat) (G : qM) (U : qW) (v0 : Int32) (v1 : Int32) (v2 : Int32) : qm_run pm_m big m_190 (n0 + 2) 42 [(0, .ref 70), (1, .int v0), (2, .int v1)] [.int v2] G U = qm_run pm_m big m_190 n0 47 [(0, .ref 70), (1, .int v0), (2, .int v1)] [.int (1 : Int32), .int v2] G U := rfl
theorem sg_rk_9 (big : Nat → List Value → qM → qW → qR) (n0 : Nat) (G : qM) (U : qW) (v0 : Int32) (v1 : Int32) (v2 : Int32) : qm_run pm_m big m_190 (n0 + 6) 50 [(0, .ref 70), (1, .int v0), (2, .int v1)] [.int (1 : Int32), .int v2] G U = qm_run pm_m big m_190 n0 13 [(0, .ref 70), (1, .int (v2 ||| ((1 : Int32) <<< (v1 &&& 31)))), (2, .int (v1 + (1 : Int32)))] [] G U := rfl
theorem sg_rk_10 (big : Nat → List Value → qM → qW → qR) (n0 : Nat) (G : qM) (U : qW) : qm_run pm_m big m_190 (n0 + 1) 0 [(0, .ref 70)] [] G U = qm_run pm_m big m_190 n0 1 [(0, .ref 70)] [.ref 70] G U := rfl
theorem sg_rk_11 (big : Nat → List Value → qM → qW → qR) (n0 : Nat) (G : qM) (U : qW) : qm_run pm_m big m_190 (n0 + 1) 4 [(0, .ref 70)] [] G U = qm_run pm_m big m_190 n0 5 [(0, .ref 70)] [.ref 70] G U := rfl
theorem sg_rk_12 (big : Nat → List Value → qM → qW → qR) (n0 : Nat) (G : qM) (U : qW) (v0 : Int32) : qm_run pm_m big m_190 (n0 + 5) 8 [(0, .ref 70)] [.int v0] G U = qm_run pm_m big m_190 n0 13 [(0, .ref 70), (1, .int (0 : Int32)), (2, .int (0 : Int32))] [] G U := rfl
theorem sg_rk_13 (big : Nat → List Value → qM → qW → qR) (n0 : Nat) (G : qM) (U : qW) (v0 : Int32) : qm_run pm_m big m_199 (n0 + 2) 6 [(0, .ref 70), (1, .int v0)] [] G U = qm_run pm_m big m_199 n0 9 [(0, .ref 70), (1, .int v0)] [.int (60 : Int32), .int v0] G U := rfl
theorem sg_rk_14 (big : Nat → List Value → qM → qW → qR) (n0 : Nat) (G : qM) (U : qW) (v0 : Int32) : qm_run pm_m big m_199 (n0 + 1) 12 [(0, .ref 70), (1, .int v0)] [] G U = qm_run pm_m big m_199 n0 13 [(0, .ref 70), (1, .int v0)] [.ref 70] G U := rfl
theorem sg_rk_15 (big : Nat → List Value → qM → qW → qR) (n0 : Nat) (G : qM) (U : qW) (v0 : Int32) : qm_run pm_m big m_199 (n0 + 2) 21 [(0, .ref 70), (1, .int v0)] [] G U = qm_run pm_m big m_199 n0 6 [(0, .ref 70), (1, .int (v0 + (1 : Int32)))] [] G U := rfl
theorem sg_rk_16 (big : Nat → List Value → qM → qW → qR) (n0 : Nat) (G : qM) (U : qW) : qm_run pm_m big m_199 (n0 + 1) 0 [(0, .ref 70)] [] G U = qm_run pm_m big m_199 n0 1 [(0, .ref 70)] [.ref 70] G U := rfl
theorem sg_rk_17 (big : Nat → List Value → qM → qW → qR) (n0 : Nat) (G : qM) (U : qW) : qm_run pm_m big m_199 (n0 + 2) 4 [(0, .ref 70)] [] G U = qm_run pm_m big m_199 n0 6 [(0, .ref 70), (1, .int (0 : Int32))] [] G U := rfl
theorem sg_rk_18 (big : Nat → List Value → qM → qW → qR) (n0 : Nat) (G : qM) (U : qW) (v0 : Int32) (v1 : Int32) (v2 : Int32) : qm_run pm_m big m_198 (n0 + 2) 39 [(0, .ref 70), (1, .int v0), (2, .int v1), (3, .int (0 : Int32)), (4, .int v2)] [] G U = qm_run pm_m big m_198 n0 42 [(0, .ref 70), (1, .int v0), (2, .int v1), (3, .int (0 : Int32)), (4, .int v2)] [.int v1, .int v2] G U := rfl
theorem sg_rk_19 (big : Nat → List Value → qM → qW → qR) (n0 : Nat) (G : qM) (U : qW) (v0 : Int32) (v1 : Int32) (v2 : Int32) : qm_run pm_m big m_198 (n0 + 1) 45 [(0, .ref 70), (1, .int v0), (2, .int v1), (3, .int (0 : Int32)), (4, .int v2)] [] G U = qm_run pm_m big m_198 n0 46 [(0, .ref 70), (1, .int v0), (2, .int v1), (3, .int (0 : Int32)), (4, .int v2)] [.ref 70] G U := rfl
theorem sg_rk_20 (big : Nat → List Value → qM → qW → qR) (n0 : Nat) (G : qM) (U : qW) (v0 : Int32) (v1 : Int32) (v2 : Int32) (v3 : Int32) : qm_run pm_m big m_198 (n0 + 3) 49 [(0, .ref 70), (1, .int v0), (2, .int v1), (3, .int (0 : Int32)), (4, .int v2)] [.int v3] G U = qm_run pm_m big m_198 n0 39 [(0, .ref 70), (1, .int v0), (2, .int v1), (3, .int (0 : Int32)), (4, .int (v2 + (1 : Int32)))] [] G U := rfl
theorem sg_rk_21 (big : Nat → List Value → qM → qW → qR) (n0 : Nat) (G : qM) (U : qW) (v0 : Int32) (v1 : Int32) : qm_run pm_m big m_198 (n0 + 2) 0 [(0, .ref 70), (1, .int v0), (2, .int v1), (3, .int (0 : Int32))] [] G U = qm_run pm_m big m_198 n0 2 [(0, .ref 70), (1, .int v0), (2, .int v1), (3, .int (0 : Int32))] [.int v0, .ref 70] G U := rfl
theorem sg_rk_22 (big : Nat → List Value → qM → qW → qR) (n0 : Nat) (G : qM) (U : qW) (v0 : Int32) (v1 : Int32) : qm_run pm_m big m_198 (n0 + 5) 5 [(0, .ref 70), (1, .int v0), (2, .int v1), (3, .int (0 : Int32))] [.int (1 : Int32)] G U = qm_run pm_m big m_198 n0 14 [(0, .ref 70), (1, .int v0), (2, .int v1), (3, .int (0 : Int32))] [.long (60 : Int64), .long (0 : Int64), .long (Int32.toInt64 v1)] G U := rfl
theorem sg_rk_23 (big : Nat → List Value → qM → qW → qR) (n0 : Nat) (G : qM) (U : qW) (v0 : Int32) (v1 : Int32) : qm_run pm_m big m_198 (n0 + 5) 17 [(0, .ref 70), (1, .int v0), (2, .int v1), (3, .int (0 : Int32))] [.int (1 : Int32)] G U = qm_run pm_m big m_198 n0 24 [(0, .ref 70), (1, .int v0), (2, .int v1), (3, .int (0 : Int32))] [.long (1 : Int64), .long (0 : Int64), .long (0 : Int64)] G U := rfl
theorem sg_rk_24 (big : Nat → List Value → qM → qW → qR) (n0 : Nat) (G : qM) (U : qW) (v0 : Int32) (v1 : Int32) : qm_run pm_m big m_198 (n0 + 2) 27 [(0, .ref 70), (1, .int v0), (2, .int v1), (3, .int (0 : Int32))] [.int (1 : Int32)] G U = qm_run pm_m big m_198 n0 33 [(0, .ref 70), (1, .int v0), (2, .int v1), (3, .int (0 : Int32))] [.ref 70] G U := rfl
theorem sg_rk_25 (big : Nat → List Value → qM → qW → qR) (n0 : Nat) (G : qM) (U : qW) (v0 : Int32) (v1 : Int32) : qm_run pm_m big m_198 (n0 + 2) 36 [(0, .ref 70), (1, .int v0), (2, .int v1), (3, .int (0 : Int32))] [] G U = qm_run pm_m big m_198 n0 39 [(0, .ref 70), (1, .int v0), (2, .int v1), (3, .int (0 : Int32)), (4, .int (0 : Int32))] [] G U := rfl
theorem sg_rk_26 (big : Nat → List Value → qM → qW → qR) (n0 : Nat) (G : qM) (U : qW) (v0 : Int32) (v1 : Int32) (v2 : Int32) : qm_run pm_m big m_198 (n0 + 5) 56 [(0, .ref 70), (1, .int v0), (2, .int v1), (3, .int (0 : Int32)), (4, .int v2)] [] G U = qm_run pm_m big m_198 n0 65 [(0, .ref 70), (1, .int v0), (2, .int v1), (3, .int (0 : Int32)), (4, .int v2)] [.int v0, .ref 75] G U := rfl
theorem sg_rk_27 (big : Nat → List Value → qM → qW → qR) (n0 : Nat) (G : qM) (U : qW) (v0 : Int32) (v1 : Int32) (v2 : Int32) : qm_run pm_m big m_198 (n0 + 2) 39 [(0, .ref 70), (1, .int v0), (2, .int v1), (3, .int (1 : Int32)), (4, .int v2)] [] G U = qm_run pm_m big m_198 n0 42 [(0, .ref 70), (1, .int v0), (2, .int v1), (3, .int (1 : Int32)), (4, .int v2)] [.int v1, .int v2] G U := rfl
theorem sg_rk_28 (big : Nat → List Value → qM → qW → qR) (n0 : Nat) (G : qM) (U : qW) (v0 : Int32) (v1 : Int32) (v2 : Int32) : qm_run pm_m big m_198 (n0 + 1) 45 [(0, .ref 70), (1, .int v0), (2, .int v1), (3, .int (1 : Int32)), (4, .int v2)] [] G U = qm_run pm_m big m_198 n0 46 [(0, .ref 70), (1, .int v0), (2, .int v1), (3, .int (1 : Int32)), (4, .int v2)] [.ref 70] G U := rfl
theorem sg_rk_29 (big : Nat → List Value → qM → qW → qR) (n0 : Nat) (G : qM) (U : qW) (v0 : Int32) (v1 : Int32) (v2 : Int32) (v3 : Int32) : qm_run pm_m big m_198 (n0 + 3) 49 [(0, .ref 70), (1, .int v0), (2, .int v1), (3, .int (1 : Int32)), (4, .int v2)] [.int v3] G U = qm_run pm_m big m_198 n0 39 [(0, .ref 70), (1, .int v0), (2, .int v1), (3, .int (1 : Int32)), (4, .int (v2 + (1 : Int32)))] [] G U := rfl
theorem sg_rk_30 (big : Nat → List Value → qM → qW → qR) (n0 : Nat) (G : qM) (U : qW) (v0 : Int32) (v1 : Int32) : qm_run pm_m big m_198 (n0 + 2) 0 [(0, .ref 70), (1, .int v0), (2, .int v1), (3, .int (1 : Int32))] [] G U = qm_run pm_m big m_198 n0 2 [(0, .ref 70), (1, .int v0), (2, .int v1), (3, .int (1 : Int32))] [.int v0, .ref 70] G U := rfl
theorem sg_rk_31 (big : Nat → List Value → qM → qW → qR) (n0 : Nat) (G : qM) (U : qW) (v0 : Int32) (v1 : Int32) : qm_run pm_m big m_198 (n0 + 5) 5 [(0, .ref 70), (1, .int v0), (2, .int v1), (3, .int (1 : Int32))] [.int (1 : Int32)] G U = qm_run pm_m big m_198 n0 14 [(0, .ref 70), (1, .int v0), (2, .int v1), (3, .int (1 : Int32))] [.long (60 : Int64), .long (0 : Int64), .long (Int32.toInt64 v1)] G U := rfl
theorem sg_rk_32 (big : Nat → List Value → qM → qW → qR) (n0 : Nat) (G : qM) (U : qW) (v0 : Int32) (v1 : Int32) : qm_run pm_m big m_198 (n0 + 5) 17 [(0, .ref 70), (1, .int v0), (2, .int v1), (3, .int (1 : Int32))] [.int (1 : Int32)] G U = qm_run pm_m big m_198 n0 24 [(0, .ref 70), (1, .int v0), (2, .int v1), (3, .int (1 : Int32))] [.long (1 : Int64), .long (0 : Int64), .long (1 : Int64)] G U := rfl
theorem sg_rk_33 (big : Nat → List Value → qM → qW → qR) (n0 : Nat) (G : qM) (U : qW) (v0 : Int32) (v1 : Int32) : qm_run pm_m big m_198 (n0 + 2) 27 [(0, .ref 70), (1, .int v0), (2, .int v1), (3, .int (1 : Int32))] [.int (1 : Int32)] G U = qm_run pm_m big m_198 n0 33 [(0, .ref 70), (1, .int v0), (2, .int v1), (3, .int (1 : Int32))] [.ref 70] G U := rfl
theorem sg_rk_34 (big : Nat → List Value → qM → qW → qR) (n0 : Nat) (G : qM) (U : qW) (v0 : Int32) (v1 : Int32) : qm_run pm_m big m_198 (n0 + 2) 36 [(0, .ref 70), (1, .int v0), (2, .int v1), (3, .int (1 : Int32))] [] G U = qm_run pm_m big m_198 n0 39 [(0, .ref 70), (1, .int v0), (2, .int v1), (3, .int (1 : Int32)), (4, .int (0 : Int32))] [] G U := rfl
theorem sg_rk_35 (big : Nat → List Value → qM → qW → qR) (n0 : Nat) (G : qM) (U : qW) (v0 : Int32) (v1 : Int32) (v2 : Int32) : qm_run pm_m big m_198 (n0 + 5) 56 [(0, .ref 70), (1, .int v0), (2, .int v1), (3, .int (1 : Int32)), (4, .int v2)] [] G U = qm_run pm_m big m_198 n0 74 [(0, .ref 70), (1, .int v0), (2, .int v1), (3, .int (1 : Int32)), (4, .int v2)] [.int v0, .ref 76] G U := rfl
theorem sg_rk_36 (big : Nat → List Value → qM → qW → qR) (n0 : Nat) (G : qM) (U : qW) (v0 : Int32) : qm_run pm_m big m_183 (n0 + 2) 0 [(0, .ref 70), (1, .int v0), (2, .int (0 : Int32))] [] G U = qm_run pm_m big m_183 n0 2 [(0, .ref 70), (1, .int v0), (2, .int (0 : Int32))] [.int v0, .ref 70] G U := rfl
theorem sg_rk_37 (big : Nat → List Value → qM → qW → qR) (n0 : Nat) (G : qM) (U : qW) (v0 : Int32) : qm_run pm_m big m_183 (n0 + 5) 5 [(0, .ref 70), (1, .int v0), (2, .int (0 : Int32))] [.int (1 : Int32)] G U = qm_run pm_m big m_183 n0 12 [(0, .ref 70), (1, .int v0), (2, .int (0 : Int32))] [.long (1 : Int64), .long (0 : Int64), .long (0 : Int64)] G U := rfl
theorem sg_rk_38 (big : Nat → List Value → qM → qW → qR) (n0 : Nat) (G : qM) (U : qW) (v0 : Int32) : qm_run pm_m big m_183 (n0 + 2) 15 [(0, .ref 70), (1, .int v0), (2, .int (0 : Int32))] [.int (1 : Int32)] G U = qm_run pm_m big m_183 n0 21 [(0, .ref 70), (1, .int v0), (2, .int (0 : Int32))] [.ref 70] G U := rfl
theorem sg_rk_39 (big : Nat → List Value → qM → qW → qR) (n0 : Nat) (G : qM) (U : qW) (v0 : Int32) : qm_run pm_m big m_183 (n0 + 7) 24 [(0, .ref 70), (1, .int v0), (2, .int (0 : Int32))] [] G U = qm_run pm_m big m_183 n0 38 [(0, .ref 70), (1, .int v0), (2, .int (0 : Int32))] [.int (0 : Int32), .int v0, .ref 70, .int (100 : Int32)] G U := rfl
theorem sg_rk_40 (big : Nat → List Value → qM → qW → qR) (n0 : Nat) (G : qM) (U : qW) (v0 : Int32) : qm_run pm_m big m_183 (n0 + 2) 0 [(0, .ref 70), (1, .int v0), (2, .int (1 : Int32))] [] G U = qm_run pm_m big m_183 n0 2 [(0, .ref 70), (1, .int v0), (2, .int (1 : Int32))] [.int v0, .ref 70] G U := rfl
theorem sg_rk_41 (big : Nat → List Value → qM → qW → qR) (n0 : Nat) (G : qM) (U : qW) (v0 : Int32) : qm_run pm_m big m_183 (n0 + 5) 5 [(0, .ref 70), (1, .int v0), (2, .int (1 : Int32))] [.int (1 : Int32)] G U = qm_run pm_m big m_183 n0 12 [(0, .ref 70), (1, .int v0), (2, .int (1 : Int32))] [.long (1 : Int64), .long (0 : Int64), .long (1 : Int64)] G U := rfl
theorem sg_rk_42 (big : Nat → List Value → qM → qW → qR) (n0 : Nat) (G : qM) (U : qW) (v0 : Int32) : qm_run pm_m big m_183 (n0 + 2) 15 [(0, .ref 70), (1, .int v0), (2, .int (1 : Int32))] [.int (1 : Int32)] G U = qm_run pm_m big m_183 n0 21 [(0, .ref 70), (1, .int v0), (2, .int (1 : Int32))] [.ref 70] G U := rfl
theorem sg_rk_43 (big : Nat → List Value → qM → qW → qR) (n0 : Nat) (G : qM) (U : qW) (v0 : Int32) : qm_run pm_m big m_183 (n0 + 8) 24 [(0, .ref 70), (1, .int v0), (2, .int (1 : Int32))] [] G U = qm_run pm_m big m_183 n0 38 [(0, .ref 70), (1, .int v0), (2, .int (1 : Int32))] [.int (1 : Int32), .int v0, .ref 70, .int (100 : Int32)] G U := rfl
theorem sg_rk_44 (big : Nat → List Value → qM → qW → qR) (n0 : Nat) (G : qM) (U : qW) (v0 : Int32) : qm_run pm_m big m_188 (n0 + 2) 0 [(0, .ref 70), (1, .int v0)] [] G U = qm_run pm_m big m_188 n0 2 [(0, .ref 70), (1, .int v0)] [.int v0, .ref 70] G U := rfl
theorem sg_rk_45 (big : Nat → List Value → qM → qW → qR) (n0 : Nat) (G : qM) (U : qW) (v0 : Int32) : qm_run pm_m big m_188 (n0 + 2) 5 [(0, .ref 70), (1, .int v0)] [.int (1 : Int32)] G U = qm_run pm_m big m_188 n0 11 [(0, .ref 70), (1, .int v0)] [.ref 70] G U := rfl
theorem sg_rk_46 (big : Nat → List Value → qM → qW → qR) (n0 : Nat) (G : qM) (U : qW) (v0 : Int32) : qm_run pm_m big m_188 (n0 + 2) 14 [(0, .ref 70), (1, .int v0)] [] G U = qm_run pm_m big m_188 n0 16 [(0, .ref 70), (1, .int v0)] [.int v0, .ref 70] G U := rfl
theorem sg_rk_47 (big : Nat → List Value → qM → qW → qR) (n0 : Nat) (G : qM) (U : qW) (v0 : Int32) (v1 : Int32) : qm_run pm_m big m_195 (n0 + 3) 8 [(0, .ref 70), (1, .int v0), (2, .int v1)] [] G U = qm_run pm_m big m_195 n0 13 [(0, .ref 70), (1, .int v0), (2, .int v1)] [.int (G 70 27), .int v1] G U := rfl
theorem sg_rk_48 (big : Nat → List Value → qM → qW → qR) (n0 : Nat) (G : qM) (U : qW) (v0 : Int32) (v1 : Int32) : qm_run pm_m big m_195 (n0 + 4) 16 [(0, .ref 70), (1, .int v0), (2, .int v1)] [] G U = qm_run pm_m big m_195 n0 20 [(0, .ref 70), (1, .int v0), (2, .int v1)] [.int (0 : Int32), .int v1, .ref 70, .int v0] G U := rfl
theorem sg_rk_49 (big : Nat → List Value → qM → qW → qR) (n0 : Nat) (G : qM) (U : qW) (v0 : Int32) (v1 : Int32) (v2 : Int32) (v3 : Int32) : qm_run pm_m big m_195 (n0 + 3) 26 [(0, .ref 70), (1, .int v0), (2, .int v1)] [.int v3, .int v2] G U = qm_run pm_m big m_195 n0 29 [(0, .ref 70), (1, .int v0), (2, .int v1)] [.int (1 : Int32), .int v1, .ref 70, .int v3, .int v2] G U := rfl
theorem sg_rk_50 (big : Nat → List Value → qM → qW → qR) (n0 : Nat) (G : qM) (U : qW) (v0 : Int32) (v1 : Int32) (v2 : Int32) (v3 : Int32) (v4 : Int32) : qm_run pm_m big m_195 (n0 + 5) 35 [(0, .ref 70), (1, .int v0), (2, .int v1)] [.int v4, .int v3, .int v2] G U = qm_run pm_m big m_195 n0 8 [(0, .ref 70), (1, .int (v2 + (v3 + v4))), (2, .int (v1 + (1 : Int32)))] [] G U := rfl
theorem sg_rk_51 (big : Nat → List Value → qM → qW → qR) (n0 : Nat) (G : qM) (U : qW) : qm_run pm_m big m_195 (n0 + 1) 0 [(0, .ref 70)] [] G U = qm_run pm_m big m_195 n0 1 [(0, .ref 70)] [.ref 70] G U := rfl
theorem sg_rk_52 (big : Nat → List Value → qM → qW → qR) (n0 : Nat) (G : qM) (U : qW) : qm_run pm_m big m_195 (n0 + 4) 4 [(0, .ref 70)] [] G U = qm_run pm_m big m_195 n0 8 [(0, .ref 70), (1, .int (0 : Int32)), (2, .int (0 : Int32))] [] G U := rfl
theorem sg_rk_53 (big : Nat → List Value → qM → qW → qR) (n0 : Nat) (G : qM) (U : qW) (v0 : Int32) (v1 : Int32) : qm_run pm_m big m_205 (n0 + 3) 4 [(0, .ref 70), (1, .int v0), (2, .int v1)] [] G U = qm_run pm_m big m_205 n0 9 [(0, .ref 70), (1, .int v0), (2, .int v1)] [.int (G 70 4), .int v1] G U := rfl
theorem sg_rk_54 (big : Nat → List Value → qM → qW → qR) (n0 : Nat) (G : qM) (U : qW) (v0 : Int32) (v1 : Int32) : qm_run pm_m big m_205 (n0 + 6) 12 [(0, .ref 70), (1, .int v0), (2, .int v1)] [] G U = qm_run pm_m big m_205 n0 21 [(0, .ref 70), (1, .int v0), (2, .int v1)] [.int ((15 : Int32) + v1), .ref 71, .int v0] G U := rfl
theorem sg_rk_55 (big : Nat → List Value → qM → qW → qR) (n0 : Nat) (G : qM) (U : qW) (v0 : Int32) (v1 : Int32) (v2 : Int32) (v3 : Int32) : qm_run pm_m big m_205 (n0 + 1) 22 [(0, .ref 70), (1, .int v0), (2, .int v1)] [.int v3, .int v2] G U = qm_run pm_m big m_205 n0 24 [(0, .ref 70), (1, .int v0), (2, .int v1)] [.int (Int8.toInt32 (Int8.ofInt (-4))), .int v3, .int v2] G U := rfl
theorem sg_rk_56 (big : Nat → List Value → qM → qW → qR) (n0 : Nat) (G : qM) (U : qW) (v0 : Int32) (v1 : Int32) (v2 : Int32) : qm_run pm_m big m_205 (n0 + 1) 31 [(0, .ref 70), (1, .int v0), (2, .int v1)] [.int v2] G U = qm_run pm_m big m_205 n0 32 [(0, .ref 70), (1, .int v0), (2, .int v1)] [.int (0 : Int32), .int v2] G U := rfl
theorem sg_rk_57 (big : Nat → List Value → qM → qW → qR) (n0 : Nat) (G : qM) (U : qW) (v0 : Int32) (v1 : Int32) (v2 : Int32) : qm_run pm_m big m_205 (n0 + 4) 35 [(0, .ref 70), (1, .int v0), (2, .int v1)] [.int (0 : Int32), .int v2] G U = qm_run pm_m big m_205 n0 4 [(0, .ref 70), (1, .int (v2 + (0 : Int32))), (2, .int (v1 + (1 : Int32)))] [] G U := rfl
theorem sg_rk_58 (big : Nat → List Value → qM → qW → qR) (n0 : Nat) (G : qM) (U : qW) (v0 : Int32) (v1 : Int32) (v2 : Int32) : qm_run pm_m big m_205 (n0 + 2) 27 [(0, .ref 70), (1, .int v0), (2, .int v1)] [.int v2] G U = qm_run pm_m big m_205 n0 32 [(0, .ref 70), (1, .int v0), (2, .int v1)] [.int (1 : Int32), .int v2] G U := rfl
theorem sg_rk_59 (big : Nat → List Value → qM → qW → qR) (n0 : Nat) (G : qM) (U : qW) (v0 : Int32) (v1 : Int32) (v2 : Int32) : qm_run pm_m big m_205 (n0 + 4) 35 [(0, .ref 70), (1, .int v0), (2, .int v1)] [.int (1 : Int32), .int v2] G U = qm_run pm_m big m_205 n0 4 [(0, .ref 70), (1, .int (v2 + (1 : Int32))), (2, .int (v1 + (1 : Int32)))] [] G U := rfl
theorem sg_rk_60 (big : Nat → List Value → qM → qW → qR) (n0 : Nat) (G : qM) (U : qW) : qm_run pm_m big m_205 (n0 + 4) 0 [(0, .ref 70)] [] G U = qm_run pm_m big m_205 n0 4 [(0, .ref 70), (1, .int (0 : Int32)), (2, .int (0 : Int32))] [] G U := rfl
theorem sg_rk_61 (big : Nat → List Value → qM → qW → qR) (n0 : Nat) (G : qM) (U : qW) (v0 : Int32) (v1 : Int32) : qm_run pm_m big m_204 (n0 + 2) 2 [(0, .ref 70), (1, .int v0), (2, .int v1)] [] G U = qm_run pm_m big m_204 n0 4 [(0, .ref 70), (1, .int v0), (2, .int v1)] [.int v0, .int v1] G U := rfl
theorem sg_rk_62 (big : Nat → List Value → qM → qW → qR) (n0 : Nat) (G : qM) (U : qW) (v0 : Int32) (v1 : Int32) : qm_run pm_m big m_204 (n0 + 1) 7 [(0, .ref 70), (1, .int v0), (2, .int v1)] [] G U = qm_run pm_m big m_204 n0 8 [(0, .ref 70), (1, .int v0), (2, .int v1)] [.ref 70] G U := rfl
theorem sg_rk_63 (big : Nat → List Value → qM → qW → qR) (n0 : Nat) (G : qM) (U : qW) (v0 : Int32) (v1 : Int32) (v2 : Int32) : qm_run pm_m big m_204 (n0 + 3) 11 [(0, .ref 70), (1, .int v0), (2, .int v1)] [.int v2] G U = qm_run pm_m big m_204 n0 2 [(0, .ref 70), (1, .int v0), (2, .int (v1 + (1 : Int32)))] [] G U := rfl
theorem sg_rk_64 (big : Nat → List Value → qM → qW → qR) (n0 : Nat) (G : qM) (U : qW) (v0 : Int32) : qm_run pm_m big m_204 (n0 + 2) 0 [(0, .ref 70), (1, .int v0)] [] G U = qm_run pm_m big m_204 n0 2 [(0, .ref 70), (1, .int v0), (2, .int (0 : Int32))] [] G U := rfl
theorem sg_rk_65 (big : Nat → List Value → qM → qW → qR) (n0 : Nat) (G : qM) (U : qW) (v0 : Int32) (v1 : Int32) : qm_run pm_m big m_204 (n0 + 1) 18 [(0, .ref 70), (1, .int v0), (2, .int v1)] [] G U = qm_run pm_m big m_204 n0 19 [(0, .ref 70), (1, .int v0), (2, .int v1)] [.ref 70] G U := rfl
theorem sg_rk_66 (big : Nat → List Value → qM → qW → qR) (n0 : Nat) (G : qM) (U : qW) (v0 : Int32) (v1 : Int32) (v2 : Int32) : qm_run pm_m big m_204 (n0 + 1) 22 [(0, .ref 70), (1, .int v0), (2, .int v1)] [.int v2] G U = qm_run pm_m big m_204 n0 23 [(0, .ref 70), (1, .int v0), (2, .int v1)] [.ref 70, .int v2] G U := rfl
theorem sg_rk_67 (big : Nat → List Value → qM → qW → qR) (n0 : Nat) (G : qM) (U : qW) (v0 : Int32) (v1 : Int32) : qm_run pm_m big m_196 (n0 + 2) 38 [(0, .ref 70), (1, .int v0), (2, .int v1)] [] G U = qm_run pm_m big m_196 n0 40 [(0, .ref 70), (1, .int v0), (2, .int v1)] [.int v0, .int v1] G U := rfl
theorem sg_rk_68 (big : Nat → List Value → qM → qW → qR) (n0 : Nat) (G : qM) (U : qW) (v0 : Int32) (v1 : Int32) : qm_run pm_m big m_196 (n0 + 1) 43 [(0, .ref 70), (1, .int v0), (2, .int v1)] [] G U = qm_run pm_m big m_196 n0 44 [(0, .ref 70), (1, .int v0), (2, .int v1)] [.ref 70] G U := rfl
theorem sg_rk_69 (big : Nat → List Value → qM → qW → qR) (n0 : Nat) (G : qM) (U : qW) (v0 : Int32) (v1 : Int32) (v2 : Int32) : qm_run pm_m big m_196 (n0 + 3) 47 [(0, .ref 70), (1, .int v0), (2, .int v1)] [.int v2] G U = qm_run pm_m big m_196 n0 38 [(0, .ref 70), (1, .int v0), (2, .int (v1 + (1 : Int32)))] [] G U := rfl
theorem sg_rk_70 (big : Nat → List Value → qM → qW → qR) (n0 : Nat) (G : qM) (U : qW) (v0 : Int32) : qm_run pm_m big m_196 (n0 + 4) 0 [(0, .ref 70), (1, .int v0)] [] G U = qm_run pm_m big m_196 n0 6 [(0, .ref 70), (1, .int v0)] [.long (60 : Int64), .long (0 : Int64), .long (Int32.toInt64 v0)] G U := rfl
theorem sg_rk_71 (big : Nat → List Value → qM → qW → qR) (n0 : Nat) (G : qM) (U : qW) (v0 : Int32) : qm_run pm_m big m_196 (n0 + 8) 9 [(0, .ref 70), (1, .int v0)] [.int (1 : Int32)] G U = qm_run pm_m big m_196 n0 26 [(0, .ref 70), (1, .int v0)] [.int (999 : Int32), .int ((G 71 26) + v0)] G U := rfl
theorem sg_rk_72 (big : Nat → List Value → qM → qW → qR) (n0 : Nat) (G : qM) (U : qW) (v0 : Int32) : qm_run pm_m big m_196 (n0 + 1) 32 [(0, .ref 70), (1, .int v0)] [] G U = qm_run pm_m big m_196 n0 33 [(0, .ref 70), (1, .int v0)] [.ref 70] G U := rfl
theorem sg_rk_73 (big : Nat → List Value → qM → qW → qR) (n0 : Nat) (G : qM) (U : qW) (v0 : Int32) : qm_run pm_m big m_196 (n0 + 2) 36 [(0, .ref 70), (1, .int v0)] [] G U = qm_run pm_m big m_196 n0 38 [(0, .ref 70), (1, .int v0), (2, .int (0 : Int32))] [] G U := rfl
theorem sg_rk_74 (big : Nat → List Value → qM → qW → qR) (n0 : Nat) (G : qM) (U : qW) (v0 : Int32) (v1 : Int32) : qm_run pm_m big m_196 (n0 + 40) 54 [(0, .ref 70), (1, .int v0), (2, .int v1)] [] G U = qm_run pm_m big m_196 n0 75 [(0, .ref 70), (1, .int v0), (2, .int (1 : Int32))] [] (q_up (q_up (q_up G 71 0 (G 75 0)) 71 5 (G 76 0)) 71 1 (G 75 1)) U := rfl
theorem sg_rk_75 (big : Nat → List Value → qM → qW → qR) (n0 : Nat) (G : qM) (U : qW) (v0 : Int32) : qm_run pm_m big m_196 (n0 + 40) 75 [(0, .ref 70), (1, .int v0), (2, .int (1 : Int32))] [] G U = qm_run pm_m big m_196 n0 61 [(0, .ref 70), (1, .int v0), (2, .int (3 : Int32))] [] (q_up (q_up (q_up G 71 6 (G 76 1)) 71 2 (G 75 2)) 71 7 (G 76 2)) U := rfl
theorem sg_rk_76 (big : Nat → List Value → qM → qW → qR) (n0 : Nat) (G : qM) (U : qW) (v0 : Int32) : qm_run pm_m big m_196 (n0 + 40) 61 [(0, .ref 70), (1, .int v0), (2, .int (3 : Int32))] [] G U = qm_run pm_m big m_196 n0 82 [(0, .ref 70), (1, .int v0), (2, .int (4 : Int32))] [.int (9 : Int32), .ref 71] (q_up (q_up (q_up G 71 3 (G 75 3)) 71 8 (G 76 3)) 71 4 (G 75 4)) U := rfl
theorem sg_rk_77 (big : Nat → List Value → qM → qW → qR) (n0 : Nat) (G : qM) (U : qW) (v0 : Int32) : qm_run pm_m big m_196 (n0 + 19) 82 [(0, .ref 70), (1, .int v0), (2, .int (4 : Int32))] [.int (9 : Int32), .ref 71] G U = qm_run pm_m big m_196 n0 107 [(0, .ref 70), (1, .int v0), (2, .int (5 : Int32))] [.ref 70] (q_up (q_up G 71 9 (G 76 4)) 71 26 ((G 71 26) + v0)) U := rfl
theorem w_rit_fr {n : Nat} : ∀ k g, w_fr g (s_rit n k g)
  | 0, g => w_fr_rfl g
  | k + 1, g => w_fr.trans s_rst_fr (w_rit_fr k (s_rst n g))
theorem b_in1 {m lo hi : Nat} (g : qM) (u : qW) (h1 : lo ≤ m) (h2 : m ≤ hi) (hh : hi < 1000) : q_BS 149 [.long (Int32.toInt64 (Int32.ofNat m)), .long (Int64.ofNat lo), .long (Int64.ofNat hi)] g u (some (.int 1), g, u) := by
  have e : s_in (Int32.toInt64 (Int32.ofNat m)) (Int64.ofNat lo) (Int64.ofNat hi) = 1 := by
    rcases s_in_01 (Int32.toInt64 (Int32.ofNat m)) (Int64.ofNat lo) (Int64.ofNat hi) with z | z
    · refine absurd z (s_in_i.mpr ?_)
      rw [q_nat (by omega), Int64.toInt_ofNat_of_lt (by omega), Int64.toInt_ofNat_of_lt (by omega)]
      omega
    · exact z
  have k := b_in (Int32.toInt64 (Int32.ofNat m)) (Int64.ofNat lo) (Int64.ofNat hi) g u
  rw [e] at k
  exact k
theorem b_risOne1 {n p : Nat} (g : qM) (u : qW) (hn : g 70 4 = Int32.ofNat n) (h6 : n ≤ 6) (hp : p < n) : q_BS 169 [.ref 70, .int (Int32.ofNat p)] g u (some (.int 1), g, u) := by
  have e : d_risOne (Int32.ofNat p) g = 1 := by
    unfold d_risOne
    rcases s_in_01 (Int32.toInt64 (Int32.ofNat p)) 0 (Int32.toInt64 ((g 70 4) - (1 : Int32))) with z | z
    · refine absurd z (s_in_i.mpr ?_)
      have e1 : (1 : Int32).toInt = 1 := rfl
      have e0 : (0 : Int64).toInt = 0 := rfl
      rw [Int32.toInt_toInt64, hn, s_sub (by rw [q_nat (by omega), e1]; omega) (by rw [q_nat (by omega), e1]; omega), q_nat (by omega), q_nat (by omega), e1, e0]
      omega
    · exact z
  have k := b_risOne (Int32.ofNat p) g u
  rw [e] at k
  exact k
theorem rst_l (g : qM) (u : qW) {n : Nat} (hn : g 70 27 = Int32.ofNat n) (h6 : n ≤ 6) : ∀ k i a, i + k = n → q_EV m_190 13 [(0, .ref 70), (1, .int a), (2, .int (Int32.ofNat i))] [] g u (fun R => R = (some (.int (s_bs (p_stk2 g) k i a)), g, u)) := by
  intro k
  induction k with
  | zero =>
    intro i a hi
    refine q_step 3 18 [(0, .ref 70), (1, .int a), (2, .int (Int32.ofNat i))] [.int (g 70 27), .int (Int32.ofNat i)] g u (fun big n0 => sg_rk_1 big n0 g u a (Int32.ofNat i)) ?_
    refine q_ic_ge rfl (fun (hc0 : (g 70 27) ≤ (Int32.ofNat i)) => ?_) (fun hc0 => absurd (show (g 70 27) ≤ (Int32.ofNat i) from by rw [hn]; exact (q_le (by omega) (by omega)).mpr (by omega)) hc0)
    refine q_ret 2 (some (.int a), g, u) (fun _ _ => rfl) ?_
    rfl
  | succ k ih =>
    intro i a hi
    refine q_step 3 18 [(0, .ref 70), (1, .int a), (2, .int (Int32.ofNat i))] [.int (g 70 27), .int (Int32.ofNat i)] g u (fun big n0 => sg_rk_1 big n0 g u a (Int32.ofNat i)) ?_
    refine q_ic_ge rfl (fun hc0 => absurd (show (g 70 27) ≤ (Int32.ofNat i) from hc0) (fun z => by rw [hn] at z; exact absurd ((q_le (by omega) (by omega)).mp z) (by omega))) (fun (hc0 : ¬ ((g 70 27) ≤ (Int32.ofNat i))) => ?_)
    refine q_step 4 27 [(0, .ref 70), (1, .int a), (2, .int (Int32.ofNat i))] [.int (Int32.ofNat i), .ref 79, .int a] g u (fun big n0 => sg_rk_2 big n0 g u a (Int32.ofNat i)) ?_
    refine q_iald (j := i) (q_ixn (by omega) (by omega)) rfl rfl ?_
    refine q_step 1 29 [(0, .ref 70), (1, .int a), (2, .int (Int32.ofNat i))] [.int (4 : Int32), .int (g 79 i), .int a] g u (fun big n0 => sg_rk_3 big n0 g u a (Int32.ofNat i) a (g 79 i)) ?_
    refine q_ic_eq rfl (fun (hc1 : (g 79 i) = (4 : Int32)) => ?_) (fun (hc1 : ¬ ((g 79 i) = (4 : Int32))) => ?_)
    · refine q_step 1 47 [(0, .ref 70), (1, .int a), (2, .int (Int32.ofNat i))] [.int (0 : Int32), .int a] g u (fun big n0 => sg_rk_4 big n0 g u a (Int32.ofNat i) a) ?_
      refine q_call (M2 := 164) (rest := [.int a]) (b_flag0 _ _) (fun _ _ => rfl) ?_
      refine q_step 6 13 [(0, .ref 70), (1, .int (a ||| ((0 : Int32) <<< ((Int32.ofNat i) &&& 31)))), (2, .int ((Int32.ofNat i) + (1 : Int32)))] [] g u (fun big n0 => sg_rk_5 big n0 g u a (Int32.ofNat i) a) ?_
      have e : p_stk2 g i = 0 := by
        unfold p_stk2
        rw [if_pos hc1]
      rw [s_bs_0 e, q_succ, s_or0]
      exact ih (i + 1) _ (by omega)
    · refine q_step 3 37 [(0, .ref 70), (1, .int a), (2, .int (Int32.ofNat i))] [.int (Int32.ofNat i), .ref 80, .int a] g u (fun big n0 => sg_rk_6 big n0 g u a (Int32.ofNat i) a) ?_
      refine q_iald (j := i) (q_ixn (by omega) (by omega)) rfl rfl ?_
      refine q_step 1 39 [(0, .ref 70), (1, .int a), (2, .int (Int32.ofNat i))] [.int (4 : Int32), .int (g 80 i), .int a] g u (fun big n0 => sg_rk_7 big n0 g u a (Int32.ofNat i) a (g 80 i)) ?_
      refine q_ic_ne rfl (fun (hc2 : (g 80 i) = (4 : Int32)) => ?_) (fun (hc2 : ¬ ((g 80 i) = (4 : Int32))) => ?_)
      · refine q_step 2 47 [(0, .ref 70), (1, .int a), (2, .int (Int32.ofNat i))] [.int (1 : Int32), .int a] g u (fun big n0 => sg_rk_8 big n0 g u a (Int32.ofNat i) a) ?_
        refine q_call (M2 := 164) (rest := [.int a]) (b_flag1 _ _) (fun _ _ => rfl) ?_
        refine q_step 6 13 [(0, .ref 70), (1, .int (a ||| ((1 : Int32) <<< ((Int32.ofNat i) &&& 31)))), (2, .int ((Int32.ofNat i) + (1 : Int32)))] [] g u (fun big n0 => sg_rk_9 big n0 g u a (Int32.ofNat i) a) ?_
        have e : p_stk2 g i = 1 := by
          unfold p_stk2
          rw [if_neg hc1, if_pos hc2]
        rw [s_bs_1 e, q_succ]
        exact ih (i + 1) _ (by omega)
      · refine q_step 1 47 [(0, .ref 70), (1, .int a), (2, .int (Int32.ofNat i))] [.int (0 : Int32), .int a] g u (fun big n0 => sg_rk_4 big n0 g u a (Int32.ofNat i) a) ?_
        refine q_call (M2 := 164) (rest := [.int a]) (b_flag0 _ _) (fun _ _ => rfl) ?_
        refine q_step 6 13 [(0, .ref 70), (1, .int (a ||| ((0 : Int32) <<< ((Int32.ofNat i) &&& 31)))), (2, .int ((Int32.ofNat i) + (1 : Int32)))] [] g u (fun big n0 => sg_rk_5 big n0 g u a (Int32.ofNat i) a) ?_
        have e : p_stk2 g i = 0 := by
          unfold p_stk2
          rw [if_neg hc1, if_neg hc2]
        rw [s_bs_0 e, q_succ, s_or0]
        exact ih (i + 1) _ (by omega)
theorem r_stuck {n W H : Nat} {g r : qM} (u : qW) (h : w_ok n W H r) (hs : w_sm n (s_start g) r) (h5 : n ≤ 5) : w_BS w_fr 190 [.ref 70] g u (.int (f_stk n r)) := by
  refine w_bs (mm := m_190) rfl (Nat.le_of_ble_eq_true rfl) rfl ?_
  refine q_step 1 1 [(0, .ref 70)] [.ref 70] g u (fun big n0 => sg_rk_10 big n0 g u) ?_
  refine q_call (M2 := 172) (rest := []) (b_starts g u) (fun _ _ => rfl) ?_
  refine q_step 1 5 [(0, .ref 70)] [.ref 70] (s_start g) u (fun big n0 => sg_rk_11 big n0 (s_start g) u) ?_
  refine q_call (M2 := 191) (rest := []) (c_rst u h hs) (fun _ _ => rfl) ?_
  refine q_step 5 13 [(0, .ref 70), (1, .int (0 : Int32)), (2, .int (0 : Int32))] [] (s_rst n (s_start g)) u (fun big n0 => sg_rk_12 big n0 (s_rst n (s_start g)) u (s_ran n (s_start g))) ?_
  refine q_EV.imp (rst_l (s_rst n (s_start g)) u (by rw [s_rst_g (by omega)]; exact w_pl h hs) (by omega) n 0 0 (by omega)) (fun R e => ⟨s_rst n (s_start g), u, ?_, w_fr.trans s_start_fr s_rst_fr⟩)
  rw [e, w_stk2 h hs]
theorem rr_l (u : qW) {n W H : Nat} : ∀ k i g r, i + k = 61 → w_ok n W H r → w_sm n g r → q_EV m_199 6 [(0, .ref 70), (1, .int (Int32.ofNat i))] [] g u (w_po w_fr g (.int (f_rest n k i r))) := by
  intro k
  induction k with
  | zero =>
    intro i g r hi h hs
    refine q_step 2 9 [(0, .ref 70), (1, .int (Int32.ofNat i))] [.int (60 : Int32), .int (Int32.ofNat i)] g u (fun big n0 => sg_rk_13 big n0 g u (Int32.ofNat i)) ?_
    refine q_ic_gt rfl (fun (hc0 : (60 : Int32) < (Int32.ofNat i)) => ?_) (fun hc0 => absurd (show (60 : Int32) < (Int32.ofNat i) from by rw [show i = 61 by omega]; decide) hc0)
    refine q_ret 2 (some (.int (Int8.toInt32 (Int8.ofInt (-4)))), g, u) (fun _ _ => rfl) ?_
    exact ⟨g, u, rfl, w_fr_rfl g⟩
  | succ k ih =>
    intro i g r hi h hs
    refine q_step 2 9 [(0, .ref 70), (1, .int (Int32.ofNat i))] [.int (60 : Int32), .int (Int32.ofNat i)] g u (fun big n0 => sg_rk_13 big n0 g u (Int32.ofNat i)) ?_
    refine q_ic_gt rfl (fun hc0 => absurd (show (60 : Int32) < (Int32.ofNat i) from hc0) (fun z => by have z1 := (q_lt (i := 60) (j := i) (by omega) (by omega)).mp z; omega)) (fun (hc0 : ¬ ((60 : Int32) < (Int32.ofNat i))) => ?_)
    refine q_step 1 13 [(0, .ref 70), (1, .int (Int32.ofNat i))] [.ref 70] g u (fun big n0 => sg_rk_14 big n0 g u (Int32.ofNat i)) ?_
    refine q_call (M2 := 191) (rest := []) (c_rst u h hs) (fun _ _ => rfl) ?_
    refine q_if_ne rfl (fun (hc1 : (s_ran n g) = 0) => ?_) (fun (hc1 : ¬ ((s_ran n g) = 0)) => ?_)
    · refine q_ret 2 (some (.int (Int32.ofNat i)), (s_rst n g), u) (fun _ _ => rfl) ?_
      exact ⟨s_rst n g, u, by rw [f_rest, if_pos ((w_sm_rst h hs).2.2.mp hc1)], s_rst_fr⟩
    · refine q_step 2 6 [(0, .ref 70), (1, .int ((Int32.ofNat i) + (1 : Int32)))] [] (s_rst n g) u (fun big n0 => sg_rk_15 big n0 (s_rst n g) u (Int32.ofNat i)) ?_
      rw [q_succ]
      exact q_EV.imp (ih (i + 1) (s_rst n g) (s_rst n r) (by omega) (w_ok_rst h) (w_sm_rst h hs).1) (fun R z => w_po_r s_rst_fr (by rw [f_rest, if_neg (fun y => hc1 ((w_sm_rst h hs).2.2.mpr y))]) z)
theorem r_rest {n W H : Nat} {g r : qM} (u : qW) (h : w_ok n W H r) (hs : w_sm n (s_start g) r) (h5 : n ≤ 5) : w_BS w_fr 199 [.ref 70] g u (.int (f_rest n 61 0 r)) := by
  refine w_bs (mm := m_199) rfl (Nat.le_of_ble_eq_true rfl) rfl ?_
  refine q_step 1 1 [(0, .ref 70)] [.ref 70] g u (fun big n0 => sg_rk_16 big n0 g u) ?_
  refine q_call (M2 := 172) (rest := []) (b_starts g u) (fun _ _ => rfl) ?_
  refine q_step 2 6 [(0, .ref 70), (1, .int (0 : Int32))] [] (s_start g) u (fun big n0 => sg_rk_17 big n0 (s_start g) u) ?_
  exact q_EV.imp (rr_l u 61 0 (s_start g) r (by omega) h hs) (fun R z => w_po_r s_start_fr rfl z)
theorem rah_0 (u : qW) {n m : Nat} (h6 : n ≤ 6) (hm : m ≤ 60) {p : Nat} {Q : Option Value × qM × qW → Prop} : ∀ k i g, i + k = m → g 70 27 = Int32.ofNat n → g 70 2 ≠ 0 → q_EV m_198 56 [(0, .ref 70), (1, .int (Int32.ofNat p)), (2, .int (Int32.ofNat m)), (3, .int (0 : Int32)), (4, .int (Int32.ofNat m))] [] (s_rit n k g) u Q → q_EV m_198 39 [(0, .ref 70), (1, .int (Int32.ofNat p)), (2, .int (Int32.ofNat m)), (3, .int (0 : Int32)), (4, .int (Int32.ofNat i))] [] g u Q := by
  intro k
  induction k with
  | zero =>
    intro i g hi hn hw hk
    have e : i = m := by omega
    subst e
    refine q_step 2 42 [(0, .ref 70), (1, .int (Int32.ofNat p)), (2, .int (Int32.ofNat i)), (3, .int (0 : Int32)), (4, .int (Int32.ofNat i))] [.int (Int32.ofNat i), .int (Int32.ofNat i)] g u (fun big n0 => sg_rk_18 big n0 g u (Int32.ofNat p) (Int32.ofNat i) (Int32.ofNat i)) ?_
    refine q_ic_ge rfl (fun (hc0 : (Int32.ofNat i) ≤ (Int32.ofNat i)) => ?_) (fun hc0 => absurd (show (Int32.ofNat i) ≤ (Int32.ofNat i) from (q_le (by omega) (by omega)).mpr (by omega)) hc0)
    exact hk
  | succ k ih =>
    intro i g hi hn hw hk
    refine q_step 2 42 [(0, .ref 70), (1, .int (Int32.ofNat p)), (2, .int (Int32.ofNat m)), (3, .int (0 : Int32)), (4, .int (Int32.ofNat i))] [.int (Int32.ofNat m), .int (Int32.ofNat i)] g u (fun big n0 => sg_rk_18 big n0 g u (Int32.ofNat p) (Int32.ofNat m) (Int32.ofNat i)) ?_
    refine q_ic_ge rfl (fun hc0 => absurd (show (Int32.ofNat m) ≤ (Int32.ofNat i) from hc0) (fun z => absurd ((q_le (by omega) (by omega)).mp z) (by omega))) (fun (hc0 : ¬ ((Int32.ofNat m) ≤ (Int32.ofNat i))) => ?_)
    refine q_step 1 46 [(0, .ref 70), (1, .int (Int32.ofNat p)), (2, .int (Int32.ofNat m)), (3, .int (0 : Int32)), (4, .int (Int32.ofNat i))] [.ref 70] g u (fun big n0 => sg_rk_19 big n0 g u (Int32.ofNat p) (Int32.ofNat m) (Int32.ofNat i)) ?_
    refine q_call (M2 := 191) (rest := []) (b_rsteps g u hn h6 hw) (fun _ _ => rfl) ?_
    refine q_step 3 39 [(0, .ref 70), (1, .int (Int32.ofNat p)), (2, .int (Int32.ofNat m)), (3, .int (0 : Int32)), (4, .int ((Int32.ofNat i) + (1 : Int32)))] [] (s_rst n g) u (fun big n0 => sg_rk_20 big n0 (s_rst n g) u (Int32.ofNat p) (Int32.ofNat m) (Int32.ofNat i) (s_ran n g)) ?_
    rw [q_succ]
    exact ih (i + 1) (s_rst n g) (by omega) (by rw [s_rst_g (by omega)]; exact hn) (by rw [s_rst_g (by omega)]; exact hw) hk
theorem r_ahead0 {n W H : Nat} {g r : qM} (u : qW) (h : w_ok n W H r) (hs : w_sm n (s_start g) r) (h5 : n ≤ 5) {m : Nat} (hm : m ≤ 60) {p : Nat} (hp : p < n) : w_BS w_fr 198 [.ref 70, .int (Int32.ofNat p), .int (Int32.ofNat m), .int (0 : Int32)] g u (.int (s_rit n m r 75 p)) := by
  refine w_bs (mm := m_198) rfl (Nat.le_of_ble_eq_true rfl) rfl ?_
  refine q_step 2 2 [(0, .ref 70), (1, .int (Int32.ofNat p)), (2, .int (Int32.ofNat m)), (3, .int (0 : Int32))] [.int (Int32.ofNat p), .ref 70] g u (fun big n0 => sg_rk_21 big n0 g u (Int32.ofNat p) (Int32.ofNat m)) ?_
  refine q_call (M2 := 169) (rest := []) (b_risOne1 g u (w_pl h hs) (by omega) hp) (fun _ _ => rfl) ?_
  refine q_step 5 14 [(0, .ref 70), (1, .int (Int32.ofNat p)), (2, .int (Int32.ofNat m)), (3, .int (0 : Int32))] [.long (60 : Int64), .long (0 : Int64), .long (Int32.toInt64 (Int32.ofNat m))] g u (fun big n0 => sg_rk_22 big n0 g u (Int32.ofNat p) (Int32.ofNat m)) ?_
  refine q_call (M2 := 149) (rest := []) (b_in1 (m := m) (lo := 0) (hi := 60) g u (by omega) (by omega) (by omega)) (fun _ _ => rfl) ?_
  refine q_step 5 24 [(0, .ref 70), (1, .int (Int32.ofNat p)), (2, .int (Int32.ofNat m)), (3, .int (0 : Int32))] [.long (1 : Int64), .long (0 : Int64), .long (0 : Int64)] g u (fun big n0 => sg_rk_23 big n0 g u (Int32.ofNat p) (Int32.ofNat m)) ?_
  refine q_call (M2 := 149) (rest := []) (show q_BS 149 [.long (0 : Int64), .long (0 : Int64), .long (1 : Int64)] g u (some (.int 1), g, u) from b_in _ _ _ _ _) (fun _ _ => rfl) ?_
  refine q_step 2 33 [(0, .ref 70), (1, .int (Int32.ofNat p)), (2, .int (Int32.ofNat m)), (3, .int (0 : Int32))] [.ref 70] g u (fun big n0 => sg_rk_24 big n0 g u (Int32.ofNat p) (Int32.ofNat m)) ?_
  refine q_call (M2 := 172) (rest := []) (b_starts g u) (fun _ _ => rfl) ?_
  refine q_step 2 39 [(0, .ref 70), (1, .int (Int32.ofNat p)), (2, .int (Int32.ofNat m)), (3, .int (0 : Int32)), (4, .int (0 : Int32))] [] (s_start g) u (fun big n0 => sg_rk_25 big n0 (s_start g) u (Int32.ofNat p) (Int32.ofNat m)) ?_
  refine rah_0 u (by omega) hm m 0 (s_start g) (by omega) (w_w0 h hs).1 (w_w0 h hs).2.2 ?_
  refine q_step 5 65 [(0, .ref 70), (1, .int (Int32.ofNat p)), (2, .int (Int32.ofNat m)), (3, .int (0 : Int32)), (4, .int (Int32.ofNat m))] [.int (Int32.ofNat p), .ref 75] (s_rit n m (s_start g)) u (fun big n0 => sg_rk_26 big n0 (s_rit n m (s_start g)) u (Int32.ofNat p) (Int32.ofNat m) (Int32.ofNat m)) ?_
  refine q_iald (j := p) (q_ixn (by omega) (by omega)) rfl rfl ?_
  refine q_ret 2 (some (.int ((s_rit n m (s_start g)) 75 p)), (s_rit n m (s_start g)), u) (fun _ _ => rfl) ?_
  refine ⟨_, u, by rw [((w_sm_rit m _ _ h hs).2.2 p hp).1], w_fr.trans s_start_fr (w_rit_fr m _)⟩
theorem rah_1 (u : qW) {n m : Nat} (h6 : n ≤ 6) (hm : m ≤ 60) {p : Nat} {Q : Option Value × qM × qW → Prop} : ∀ k i g, i + k = m → g 70 27 = Int32.ofNat n → g 70 2 ≠ 0 → q_EV m_198 56 [(0, .ref 70), (1, .int (Int32.ofNat p)), (2, .int (Int32.ofNat m)), (3, .int (1 : Int32)), (4, .int (Int32.ofNat m))] [] (s_rit n k g) u Q → q_EV m_198 39 [(0, .ref 70), (1, .int (Int32.ofNat p)), (2, .int (Int32.ofNat m)), (3, .int (1 : Int32)), (4, .int (Int32.ofNat i))] [] g u Q := by
  intro k
  induction k with
  | zero =>
    intro i g hi hn hw hk
    have e : i = m := by omega
    subst e
    refine q_step 2 42 [(0, .ref 70), (1, .int (Int32.ofNat p)), (2, .int (Int32.ofNat i)), (3, .int (1 : Int32)), (4, .int (Int32.ofNat i))] [.int (Int32.ofNat i), .int (Int32.ofNat i)] g u (fun big n0 => sg_rk_27 big n0 g u (Int32.ofNat p) (Int32.ofNat i) (Int32.ofNat i)) ?_
    refine q_ic_ge rfl (fun (hc0 : (Int32.ofNat i) ≤ (Int32.ofNat i)) => ?_) (fun hc0 => absurd (show (Int32.ofNat i) ≤ (Int32.ofNat i) from (q_le (by omega) (by omega)).mpr (by omega)) hc0)
    exact hk
  | succ k ih =>
    intro i g hi hn hw hk
    refine q_step 2 42 [(0, .ref 70), (1, .int (Int32.ofNat p)), (2, .int (Int32.ofNat m)), (3, .int (1 : Int32)), (4, .int (Int32.ofNat i))] [.int (Int32.ofNat m), .int (Int32.ofNat i)] g u (fun big n0 => sg_rk_27 big n0 g u (Int32.ofNat p) (Int32.ofNat m) (Int32.ofNat i)) ?_
    refine q_ic_ge rfl (fun hc0 => absurd (show (Int32.ofNat m) ≤ (Int32.ofNat i) from hc0) (fun z => absurd ((q_le (by omega) (by omega)).mp z) (by omega))) (fun (hc0 : ¬ ((Int32.ofNat m) ≤ (Int32.ofNat i))) => ?_)
    refine q_step 1 46 [(0, .ref 70), (1, .int (Int32.ofNat p)), (2, .int (Int32.ofNat m)), (3, .int (1 : Int32)), (4, .int (Int32.ofNat i))] [.ref 70] g u (fun big n0 => sg_rk_28 big n0 g u (Int32.ofNat p) (Int32.ofNat m) (Int32.ofNat i)) ?_
    refine q_call (M2 := 191) (rest := []) (b_rsteps g u hn h6 hw) (fun _ _ => rfl) ?_
    refine q_step 3 39 [(0, .ref 70), (1, .int (Int32.ofNat p)), (2, .int (Int32.ofNat m)), (3, .int (1 : Int32)), (4, .int ((Int32.ofNat i) + (1 : Int32)))] [] (s_rst n g) u (fun big n0 => sg_rk_29 big n0 (s_rst n g) u (Int32.ofNat p) (Int32.ofNat m) (Int32.ofNat i) (s_ran n g)) ?_
    rw [q_succ]
    exact ih (i + 1) (s_rst n g) (by omega) (by rw [s_rst_g (by omega)]; exact hn) (by rw [s_rst_g (by omega)]; exact hw) hk
theorem r_ahead1 {n W H : Nat} {g r : qM} (u : qW) (h : w_ok n W H r) (hs : w_sm n (s_start g) r) (h5 : n ≤ 5) {m : Nat} (hm : m ≤ 60) {p : Nat} (hp : p < n) : w_BS w_fr 198 [.ref 70, .int (Int32.ofNat p), .int (Int32.ofNat m), .int (1 : Int32)] g u (.int (s_rit n m r 76 p)) := by
  refine w_bs (mm := m_198) rfl (Nat.le_of_ble_eq_true rfl) rfl ?_
  refine q_step 2 2 [(0, .ref 70), (1, .int (Int32.ofNat p)), (2, .int (Int32.ofNat m)), (3, .int (1 : Int32))] [.int (Int32.ofNat p), .ref 70] g u (fun big n0 => sg_rk_30 big n0 g u (Int32.ofNat p) (Int32.ofNat m)) ?_
  refine q_call (M2 := 169) (rest := []) (b_risOne1 g u (w_pl h hs) (by omega) hp) (fun _ _ => rfl) ?_
  refine q_step 5 14 [(0, .ref 70), (1, .int (Int32.ofNat p)), (2, .int (Int32.ofNat m)), (3, .int (1 : Int32))] [.long (60 : Int64), .long (0 : Int64), .long (Int32.toInt64 (Int32.ofNat m))] g u (fun big n0 => sg_rk_31 big n0 g u (Int32.ofNat p) (Int32.ofNat m)) ?_
  refine q_call (M2 := 149) (rest := []) (b_in1 (m := m) (lo := 0) (hi := 60) g u (by omega) (by omega) (by omega)) (fun _ _ => rfl) ?_
  refine q_step 5 24 [(0, .ref 70), (1, .int (Int32.ofNat p)), (2, .int (Int32.ofNat m)), (3, .int (1 : Int32))] [.long (1 : Int64), .long (0 : Int64), .long (1 : Int64)] g u (fun big n0 => sg_rk_32 big n0 g u (Int32.ofNat p) (Int32.ofNat m)) ?_
  refine q_call (M2 := 149) (rest := []) (show q_BS 149 [.long (1 : Int64), .long (0 : Int64), .long (1 : Int64)] g u (some (.int 1), g, u) from b_in _ _ _ _ _) (fun _ _ => rfl) ?_
  refine q_step 2 33 [(0, .ref 70), (1, .int (Int32.ofNat p)), (2, .int (Int32.ofNat m)), (3, .int (1 : Int32))] [.ref 70] g u (fun big n0 => sg_rk_33 big n0 g u (Int32.ofNat p) (Int32.ofNat m)) ?_
  refine q_call (M2 := 172) (rest := []) (b_starts g u) (fun _ _ => rfl) ?_
  refine q_step 2 39 [(0, .ref 70), (1, .int (Int32.ofNat p)), (2, .int (Int32.ofNat m)), (3, .int (1 : Int32)), (4, .int (0 : Int32))] [] (s_start g) u (fun big n0 => sg_rk_34 big n0 (s_start g) u (Int32.ofNat p) (Int32.ofNat m)) ?_
  refine rah_1 u (by omega) hm m 0 (s_start g) (by omega) (w_w0 h hs).1 (w_w0 h hs).2.2 ?_
  refine q_step 5 74 [(0, .ref 70), (1, .int (Int32.ofNat p)), (2, .int (Int32.ofNat m)), (3, .int (1 : Int32)), (4, .int (Int32.ofNat m))] [.int (Int32.ofNat p), .ref 76] (s_rit n m (s_start g)) u (fun big n0 => sg_rk_35 big n0 (s_rit n m (s_start g)) u (Int32.ofNat p) (Int32.ofNat m) (Int32.ofNat m)) ?_
  refine q_iald (j := p) (q_ixn (by omega) (by omega)) rfl rfl ?_
  refine q_ret 1 (some (.int ((s_rit n m (s_start g)) 76 p)), (s_rit n m (s_start g)), u) (fun _ _ => rfl) ?_
  refine ⟨_, u, by rw [((w_sm_rit m _ _ h hs).2.2 p hp).2.1], w_fr.trans s_start_fr (w_rit_fr m _)⟩
theorem r_force0 {n W H : Nat} {g r : qM} (u : qW) (h : w_ok n W H r) (hs : w_sm n (s_start g) r) (h5 : n ≤ 5) {p : Nat} (hp : p < n) : w_BS w_fr 183 [.ref 70, .int (Int32.ofNat p), .int (0 : Int32)] g u (.int (100 + f_fo n r 0 p)) := by
  refine w_bs (mm := m_183) rfl (Nat.le_of_ble_eq_true rfl) rfl ?_
  refine q_step 2 2 [(0, .ref 70), (1, .int (Int32.ofNat p)), (2, .int (0 : Int32))] [.int (Int32.ofNat p), .ref 70] g u (fun big n0 => sg_rk_36 big n0 g u (Int32.ofNat p)) ?_
  refine q_call (M2 := 169) (rest := []) (b_risOne1 g u (w_pl h hs) (by omega) hp) (fun _ _ => rfl) ?_
  refine q_step 5 12 [(0, .ref 70), (1, .int (Int32.ofNat p)), (2, .int (0 : Int32))] [.long (1 : Int64), .long (0 : Int64), .long (0 : Int64)] g u (fun big n0 => sg_rk_37 big n0 g u (Int32.ofNat p)) ?_
  refine q_call (M2 := 149) (rest := []) (show q_BS 149 [.long (0 : Int64), .long (0 : Int64), .long (1 : Int64)] g u (some (.int 1), g, u) from b_in _ _ _ _ _) (fun _ _ => rfl) ?_
  refine q_step 2 21 [(0, .ref 70), (1, .int (Int32.ofNat p)), (2, .int (0 : Int32))] [.ref 70] g u (fun big n0 => sg_rk_38 big n0 g u (Int32.ofNat p)) ?_
  refine q_call (M2 := 172) (rest := []) (b_starts g u) (fun _ _ => rfl) ?_
  refine q_step 7 38 [(0, .ref 70), (1, .int (Int32.ofNat p)), (2, .int (0 : Int32))] [.int (0 : Int32), .int (Int32.ofNat p), .ref 70, .int (100 : Int32)] (s_start g) u (fun big n0 => sg_rk_39 big n0 (s_start g) u (Int32.ofNat p)) ?_
  refine q_call (M2 := 184) (rest := [.int (100 : Int32)]) (b_rf0 (s_start g) u (w_w0 h hs).1 (by omega) hp (w_w0 h hs).2.2) (fun _ _ => rfl) ?_
  refine q_ret 2 (some (.int ((100 : Int32) + (s_rf ((s_start g) 70 2) ((s_start g) 75) ((s_start g) 76) ((s_start g) 71) n 0 p))), (s_start g), u) (fun _ _ => rfl) ?_
  exact ⟨_, u, by rw [w_fo_r h hs hp 0 (by decide)], s_start_fr⟩
theorem r_force1 {n W H : Nat} {g r : qM} (u : qW) (h : w_ok n W H r) (hs : w_sm n (s_start g) r) (h5 : n ≤ 5) {p : Nat} (hp : p < n) : w_BS w_fr 183 [.ref 70, .int (Int32.ofNat p), .int (1 : Int32)] g u (.int (100 + f_fo n r 1 p)) := by
  refine w_bs (mm := m_183) rfl (Nat.le_of_ble_eq_true rfl) rfl ?_
  refine q_step 2 2 [(0, .ref 70), (1, .int (Int32.ofNat p)), (2, .int (1 : Int32))] [.int (Int32.ofNat p), .ref 70] g u (fun big n0 => sg_rk_40 big n0 g u (Int32.ofNat p)) ?_
  refine q_call (M2 := 169) (rest := []) (b_risOne1 g u (w_pl h hs) (by omega) hp) (fun _ _ => rfl) ?_
  refine q_step 5 12 [(0, .ref 70), (1, .int (Int32.ofNat p)), (2, .int (1 : Int32))] [.long (1 : Int64), .long (0 : Int64), .long (1 : Int64)] g u (fun big n0 => sg_rk_41 big n0 g u (Int32.ofNat p)) ?_
  refine q_call (M2 := 149) (rest := []) (show q_BS 149 [.long (1 : Int64), .long (0 : Int64), .long (1 : Int64)] g u (some (.int 1), g, u) from b_in _ _ _ _ _) (fun _ _ => rfl) ?_
  refine q_step 2 21 [(0, .ref 70), (1, .int (Int32.ofNat p)), (2, .int (1 : Int32))] [.ref 70] g u (fun big n0 => sg_rk_42 big n0 g u (Int32.ofNat p)) ?_
  refine q_call (M2 := 172) (rest := []) (b_starts g u) (fun _ _ => rfl) ?_
  refine q_step 8 38 [(0, .ref 70), (1, .int (Int32.ofNat p)), (2, .int (1 : Int32))] [.int (1 : Int32), .int (Int32.ofNat p), .ref 70, .int (100 : Int32)] (s_start g) u (fun big n0 => sg_rk_43 big n0 (s_start g) u (Int32.ofNat p)) ?_
  refine q_call (M2 := 184) (rest := [.int (100 : Int32)]) (b_rf1 (s_start g) u (w_w0 h hs).1 (by omega) hp (w_w0 h hs).2.2) (fun _ _ => rfl) ?_
  refine q_ret 2 (some (.int ((100 : Int32) + (s_rf ((s_start g) 70 2) ((s_start g) 75) ((s_start g) 76) ((s_start g) 71) n 1 p))), (s_start g), u) (fun _ _ => rfl) ?_
  exact ⟨_, u, by rw [w_fo_r h hs hp 1 (by decide)], s_start_fr⟩
theorem r_wish {n W H : Nat} {g r : qM} (u : qW) (h : w_ok n W H r) (hs : w_sm n (s_start g) r) (h5 : n ≤ 5) {p : Nat} (hp : p < n) : w_BS w_fr 188 [.ref 70, .int (Int32.ofNat p)] g u (.int (f_wi n r p)) := by
  refine w_bs (mm := m_188) rfl (Nat.le_of_ble_eq_true rfl) rfl ?_
  refine q_step 2 2 [(0, .ref 70), (1, .int (Int32.ofNat p))] [.int (Int32.ofNat p), .ref 70] g u (fun big n0 => sg_rk_44 big n0 g u (Int32.ofNat p)) ?_
  refine q_call (M2 := 169) (rest := []) (b_risOne1 g u (w_pl h hs) (by omega) hp) (fun _ _ => rfl) ?_
  refine q_step 2 11 [(0, .ref 70), (1, .int (Int32.ofNat p))] [.ref 70] g u (fun big n0 => sg_rk_45 big n0 g u (Int32.ofNat p)) ?_
  refine q_call (M2 := 172) (rest := []) (b_starts g u) (fun _ _ => rfl) ?_
  refine q_step 2 16 [(0, .ref 70), (1, .int (Int32.ofNat p))] [.int (Int32.ofNat p), .ref 70] (s_start g) u (fun big n0 => sg_rk_46 big n0 (s_start g) u (Int32.ofNat p)) ?_
  refine q_call (M2 := 189) (rest := []) (b_rw (s_start g) u (w_w0 h hs).1 (by omega) hp (w_w0 h hs).2.2) (fun _ _ => rfl) ?_
  refine q_ret 1 (some (.int (s_rw ((s_start g) 70 2) ((s_start g) 75) ((s_start g) 76) ((s_start g) 77) ((s_start g) 71) n p)), (s_start g), u) (fun _ _ => rfl) ?_
  exact ⟨_, u, by rw [w_wi_r h hs hp], s_start_fr⟩
theorem rs_l (g : qM) (u : qW) {n : Nat} (hn : g 70 27 = Int32.ofNat n) (h6 : n ≤ 6) (hw : g 70 2 ≠ 0) : ∀ k i a, i + k = n → q_EV m_195 8 [(0, .ref 70), (1, .int a), (2, .int (Int32.ofNat i))] [] g u (fun R => R = (some (.int (s_ct (p_str (s_rf (g 70 2) (g 75) (g 76) (g 71) n 0) (s_rf (g 70 2) (g 75) (g 76) (g 71) n 1)) k i a)), g, u)) := by
  intro k
  induction k with
  | zero =>
    intro i a hi
    refine q_step 3 13 [(0, .ref 70), (1, .int a), (2, .int (Int32.ofNat i))] [.int (g 70 27), .int (Int32.ofNat i)] g u (fun big n0 => sg_rk_47 big n0 g u a (Int32.ofNat i)) ?_
    refine q_ic_ge rfl (fun (hc0 : (g 70 27) ≤ (Int32.ofNat i)) => ?_) (fun hc0 => absurd (show (g 70 27) ≤ (Int32.ofNat i) from by rw [hn]; exact (q_le (by omega) (by omega)).mpr (by omega)) hc0)
    refine q_ret 2 (some (.int a), g, u) (fun _ _ => rfl) ?_
    rfl
  | succ k ih =>
    intro i a hi
    refine q_step 3 13 [(0, .ref 70), (1, .int a), (2, .int (Int32.ofNat i))] [.int (g 70 27), .int (Int32.ofNat i)] g u (fun big n0 => sg_rk_47 big n0 g u a (Int32.ofNat i)) ?_
    refine q_ic_ge rfl (fun hc0 => absurd (show (g 70 27) ≤ (Int32.ofNat i) from hc0) (fun z => by rw [hn] at z; exact absurd ((q_le (by omega) (by omega)).mp z) (by omega))) (fun (hc0 : ¬ ((g 70 27) ≤ (Int32.ofNat i))) => ?_)
    refine q_step 4 20 [(0, .ref 70), (1, .int a), (2, .int (Int32.ofNat i))] [.int (0 : Int32), .int (Int32.ofNat i), .ref 70, .int a] g u (fun big n0 => sg_rk_48 big n0 g u a (Int32.ofNat i)) ?_
    refine q_call (M2 := 184) (rest := [.int a]) (b_rf0 g u hn h6 (by omega) hw) (fun _ _ => rfl) ?_
    refine q_call (M2 := 186) (rest := [.int a]) (b_rabs _ _ _) (fun _ _ => rfl) ?_
    refine q_step 3 29 [(0, .ref 70), (1, .int a), (2, .int (Int32.ofNat i))] [.int (1 : Int32), .int (Int32.ofNat i), .ref 70, .int (s_abs (s_rf (g 70 2) (g 75) (g 76) (g 71) n 0 i)), .int a] g u (fun big n0 => sg_rk_49 big n0 g u a (Int32.ofNat i) a (s_abs (s_rf (g 70 2) (g 75) (g 76) (g 71) n 0 i))) ?_
    refine q_call (M2 := 184) (rest := [.int (s_abs (s_rf (g 70 2) (g 75) (g 76) (g 71) n 0 i)), .int a]) (b_rf1 g u hn h6 (by omega) hw) (fun _ _ => rfl) ?_
    refine q_call (M2 := 186) (rest := [.int (s_abs (s_rf (g 70 2) (g 75) (g 76) (g 71) n 0 i)), .int a]) (b_rabs _ _ _) (fun _ _ => rfl) ?_
    refine q_step 5 8 [(0, .ref 70), (1, .int (a + ((s_abs (s_rf (g 70 2) (g 75) (g 76) (g 71) n 0 i)) + (s_abs (s_rf (g 70 2) (g 75) (g 76) (g 71) n 1 i))))), (2, .int ((Int32.ofNat i) + (1 : Int32)))] [] g u (fun big n0 => sg_rk_50 big n0 g u a (Int32.ofNat i) a (s_abs (s_rf (g 70 2) (g 75) (g 76) (g 71) n 0 i)) (s_abs (s_rf (g 70 2) (g 75) (g 76) (g 71) n 1 i))) ?_
    rw [s_ct_s (P := p_str (s_rf (g 70 2) (g 75) (g 76) (g 71) n 0) (s_rf (g 70 2) (g 75) (g 76) (g 71) n 1)) (i := i) (v := s_abs ((s_rf (g 70 2) (g 75) (g 76) (g 71) n 0) i) + s_abs ((s_rf (g 70 2) (g 75) (g 76) (g 71) n 1) i)) rfl, q_succ]
    exact ih (i + 1) _ (by omega)
theorem r_strain {n W H : Nat} {g r : qM} (u : qW) (h : w_ok n W H r) (hs : w_sm n (s_start g) r) (h5 : n ≤ 5) : w_BS w_fr 195 [.ref 70] g u (.int (f_str n r)) := by
  refine w_bs (mm := m_195) rfl (Nat.le_of_ble_eq_true rfl) rfl ?_
  refine q_step 1 1 [(0, .ref 70)] [.ref 70] g u (fun big n0 => sg_rk_51 big n0 g u) ?_
  refine q_call (M2 := 172) (rest := []) (b_starts g u) (fun _ _ => rfl) ?_
  refine q_step 4 8 [(0, .ref 70), (1, .int (0 : Int32)), (2, .int (0 : Int32))] [] (s_start g) u (fun big n0 => sg_rk_52 big n0 (s_start g) u) ?_
  refine q_EV.imp (rs_l (s_start g) u (w_w0 h hs).1 (by omega) (w_w0 h hs).2.2 n 0 0 (by omega)) (fun R e => ⟨s_start g, u, ?_, s_start_fr⟩)
  rw [e]
  refine congrArg (fun v => (some (Value.int v), s_start g, u)) (s_ct_cg n 0 0 (fun p _ hp => ?_))
  have hp : p < n := by omega
  unfold p_str
  rw [w_fo_r h hs hp 0 (by decide), w_fo_r h hs hp 1 (by decide)]
theorem hg_l (g : qM) (u : qW) {n : Nat} (hn : g 70 4 = Int32.ofNat n) (h6 : n ≤ 6) : ∀ k i a, i + k = n → q_EV m_205 4 [(0, .ref 70), (1, .int a), (2, .int (Int32.ofNat i))] [] g u (fun R => R = (some (.int (s_ct (p_hvs g) k i a)), g, u)) := by
  intro k
  induction k with
  | zero =>
    intro i a hi
    refine q_step 3 9 [(0, .ref 70), (1, .int a), (2, .int (Int32.ofNat i))] [.int (g 70 4), .int (Int32.ofNat i)] g u (fun big n0 => sg_rk_53 big n0 g u a (Int32.ofNat i)) ?_
    refine q_ic_ge rfl (fun (hc0 : (g 70 4) ≤ (Int32.ofNat i)) => ?_) (fun hc0 => absurd (show (g 70 4) ≤ (Int32.ofNat i) from by rw [hn]; exact (q_le (by omega) (by omega)).mpr (by omega)) hc0)
    refine q_ret 2 (some (.int a), g, u) (fun _ _ => rfl) ?_
    rfl
  | succ k ih =>
    intro i a hi
    refine q_step 3 9 [(0, .ref 70), (1, .int a), (2, .int (Int32.ofNat i))] [.int (g 70 4), .int (Int32.ofNat i)] g u (fun big n0 => sg_rk_53 big n0 g u a (Int32.ofNat i)) ?_
    refine q_ic_ge rfl (fun hc0 => absurd (show (g 70 4) ≤ (Int32.ofNat i) from hc0) (fun z => by rw [hn] at z; exact absurd ((q_le (by omega) (by omega)).mp z) (by omega))) (fun (hc0 : ¬ ((g 70 4) ≤ (Int32.ofNat i))) => ?_)
    refine q_step 6 21 [(0, .ref 70), (1, .int a), (2, .int (Int32.ofNat i))] [.int ((15 : Int32) + (Int32.ofNat i)), .ref 71, .int a] g u (fun big n0 => sg_rk_54 big n0 g u a (Int32.ofNat i)) ?_
    refine q_iald (j := (15 + i)) (s_rixn (K := 15) (i := i) (by omega)) rfl rfl ?_
    refine q_step 1 24 [(0, .ref 70), (1, .int a), (2, .int (Int32.ofNat i))] [.int (Int8.toInt32 (Int8.ofInt (-4))), .int (g 71 (15 + i)), .int a] g u (fun big n0 => sg_rk_55 big n0 g u a (Int32.ofNat i) a (g 71 (15 + i))) ?_
    refine q_ic_eq rfl (fun (hc1 : (g 71 (15 + i)) = (Int8.toInt32 (Int8.ofInt (-4)))) => ?_) (fun (hc1 : ¬ ((g 71 (15 + i)) = (Int8.toInt32 (Int8.ofInt (-4))))) => ?_)
    · refine q_step 1 32 [(0, .ref 70), (1, .int a), (2, .int (Int32.ofNat i))] [.int (0 : Int32), .int a] g u (fun big n0 => sg_rk_56 big n0 g u a (Int32.ofNat i) a) ?_
      refine q_call (M2 := 164) (rest := [.int a]) (b_flag0 _ _) (fun _ _ => rfl) ?_
      refine q_step 4 4 [(0, .ref 70), (1, .int (a + (0 : Int32))), (2, .int ((Int32.ofNat i) + (1 : Int32)))] [] g u (fun big n0 => sg_rk_57 big n0 g u a (Int32.ofNat i) a) ?_
      rw [s_ct_s (P := p_hvs g) (i := i) (by unfold p_hvs; exact if_pos hc1), q_succ]
      exact ih (i + 1) _ (by omega)
    · refine q_step 2 32 [(0, .ref 70), (1, .int a), (2, .int (Int32.ofNat i))] [.int (1 : Int32), .int a] g u (fun big n0 => sg_rk_58 big n0 g u a (Int32.ofNat i) a) ?_
      refine q_call (M2 := 164) (rest := [.int a]) (b_flag1 _ _) (fun _ _ => rfl) ?_
      refine q_step 4 4 [(0, .ref 70), (1, .int (a + (1 : Int32))), (2, .int ((Int32.ofNat i) + (1 : Int32)))] [] g u (fun big n0 => sg_rk_59 big n0 g u a (Int32.ofNat i) a) ?_
      rw [s_ct_s (P := p_hvs g) (i := i) (by unfold p_hvs; exact if_neg hc1), q_succ]
      exact ih (i + 1) _ (by omega)
theorem b_hvs (g : qM) (u : qW) {n : Nat} (hn : g 70 4 = Int32.ofNat n) (h6 : n ≤ 6) : q_BS 205 [.ref 70] g u (some (.int (s_ct (p_hvs g) n 0 0)), g, u) := by
  refine q_bx (mm := m_205) rfl (Nat.le_of_ble_eq_true rfl) rfl ?_
  refine q_step 4 4 [(0, .ref 70), (1, .int (0 : Int32)), (2, .int (0 : Int32))] [] g u (fun big n0 => sg_rk_60 big n0 g u) ?_
  exact hg_l g u hn h6 n 0 0 (by omega)
theorem raa (u : qW) {n m : Nat} (h6 : n ≤ 6) (hm : m ≤ 60)  {Q : Option Value × qM × qW → Prop} : ∀ k i g, i + k = m → g 70 27 = Int32.ofNat n → g 70 2 ≠ 0 → q_EV m_204 18 [(0, .ref 70), (1, .int (Int32.ofNat m)), (2, .int (Int32.ofNat m))] [] (s_rit n k g) u Q → q_EV m_204 2 [(0, .ref 70), (1, .int (Int32.ofNat m)), (2, .int (Int32.ofNat i))] [] g u Q := by
  intro k
  induction k with
  | zero =>
    intro i g hi hn hw hk
    have e : i = m := by omega
    subst e
    refine q_step 2 4 [(0, .ref 70), (1, .int (Int32.ofNat i)), (2, .int (Int32.ofNat i))] [.int (Int32.ofNat i), .int (Int32.ofNat i)] g u (fun big n0 => sg_rk_61 big n0 g u (Int32.ofNat i) (Int32.ofNat i)) ?_
    refine q_ic_ge rfl (fun (hc0 : (Int32.ofNat i) ≤ (Int32.ofNat i)) => ?_) (fun hc0 => absurd (show (Int32.ofNat i) ≤ (Int32.ofNat i) from (q_le (by omega) (by omega)).mpr (by omega)) hc0)
    exact hk
  | succ k ih =>
    intro i g hi hn hw hk
    refine q_step 2 4 [(0, .ref 70), (1, .int (Int32.ofNat m)), (2, .int (Int32.ofNat i))] [.int (Int32.ofNat m), .int (Int32.ofNat i)] g u (fun big n0 => sg_rk_61 big n0 g u (Int32.ofNat m) (Int32.ofNat i)) ?_
    refine q_ic_ge rfl (fun hc0 => absurd (show (Int32.ofNat m) ≤ (Int32.ofNat i) from hc0) (fun z => absurd ((q_le (by omega) (by omega)).mp z) (by omega))) (fun (hc0 : ¬ ((Int32.ofNat m) ≤ (Int32.ofNat i))) => ?_)
    refine q_step 1 8 [(0, .ref 70), (1, .int (Int32.ofNat m)), (2, .int (Int32.ofNat i))] [.ref 70] g u (fun big n0 => sg_rk_62 big n0 g u (Int32.ofNat m) (Int32.ofNat i)) ?_
    refine q_call (M2 := 191) (rest := []) (b_rsteps g u hn h6 hw) (fun _ _ => rfl) ?_
    refine q_step 3 2 [(0, .ref 70), (1, .int (Int32.ofNat m)), (2, .int ((Int32.ofNat i) + (1 : Int32)))] [] (s_rst n g) u (fun big n0 => sg_rk_63 big n0 (s_rst n g) u (Int32.ofNat m) (Int32.ofNat i) (s_ran n g)) ?_
    rw [q_succ]
    exact ih (i + 1) (s_rst n g) (by omega) (by rw [s_rst_g (by omega)]; exact hn) (by rw [s_rst_g (by omega)]; exact hw) hk
theorem r_aat {n W H : Nat} {g r : qM} (u : qW) (h : w_ok n W H r) (hs : w_sm n g r) {m : Nat} (hm : m ≤ 60) (hg : ∀ p, p < n → g 78 p = r 78 p) (hp4 : g 70 4 = Int32.ofNat n) (hst : ∀ p, p < n → g 71 (15 + p) = r 78 p) : q_BS 204 [.ref 70, .int (Int32.ofNat m)] g u (some (.int (if f_at n (s_rit n m r) = f_hav n r then 1 else 0)), s_rit n m g, u) := by
  refine q_bx (mm := m_204) rfl (Nat.le_of_ble_eq_true rfl) rfl ?_
  refine q_step 2 2 [(0, .ref 70), (1, .int (Int32.ofNat m)), (2, .int (0 : Int32))] [] g u (fun big n0 => sg_rk_64 big n0 g u (Int32.ofNat m)) ?_
  refine raa u h.1.2.2.2.2 hm m 0 g (by omega) (w_w0 h hs).1 (w_w0 h hs).2.2 ?_
  refine q_step 1 19 [(0, .ref 70), (1, .int (Int32.ofNat m)), (2, .int (Int32.ofNat m))] [.ref 70] (s_rit n m g) u (fun big n0 => sg_rk_65 big n0 (s_rit n m g) u (Int32.ofNat m) (Int32.ofNat m)) ?_
  have hag := b_ratg (s_rit n m g) u (by rw [s_rit_g (by omega)]; exact (w_w0 h hs).1) h.1.2.2.2.2
  rw [show s_ct (fun p => if (s_rit n m g) 78 p = i_none then (0 : Int32) else if (s_rit n m g) 75 p = (s_rit n m g) 78 p then 1 else 0) n 0 0 = f_at n (s_rit n m r) from w_at_r (w_sm_rit m g r h hs) (fun p hp => by rw [s_rit_g (by omega), s_rit_g (by omega)]; exact hg p hp)] at hag
  refine q_call (M2 := 197) (rest := []) (hag) (fun _ _ => rfl) ?_
  refine q_step 1 23 [(0, .ref 70), (1, .int (Int32.ofNat m)), (2, .int (Int32.ofNat m))] [.ref 70, .int (f_at n (s_rit n m r))] (s_rit n m g) u (fun big n0 => sg_rk_66 big n0 (s_rit n m g) u (Int32.ofNat m) (Int32.ofNat m) (f_at n (s_rit n m r))) ?_
  have hav := b_hvs (s_rit n m g) u (by rw [s_rit_g (by omega)]; exact hp4) h.1.2.2.2.2
  rw [w_hvs (g := (s_rit n m g)) (r := r) (fun p hp => by rw [s_rit_g (by omega)]; exact hst p hp)] at hav
  refine q_call (M2 := 205) (rest := [.int (f_at n (s_rit n m r))]) (hav) (fun _ _ => rfl) ?_
  refine q_ic_ne rfl (fun (hc0 : (f_at n (s_rit n m r)) = (f_hav n r)) => ?_) (fun (hc0 : ¬ ((f_at n (s_rit n m r)) = (f_hav n r))) => ?_)
  · refine q_ret 3 (some (.int (1 : Int32)), (s_rit n m g), u) (fun _ _ => rfl) ?_
    rw [if_pos hc0]
  · refine q_ret 2 (some (.int (0 : Int32)), (s_rit n m g), u) (fun _ _ => rfl) ?_
    rw [if_neg hc0]
theorem rgo (u : qW) {n m : Nat} (h6 : n ≤ 6) (hm : m ≤ 60)  {Q : Option Value × qM × qW → Prop} : ∀ k i g, i + k = m → g 70 27 = Int32.ofNat n → g 70 2 ≠ 0 → q_EV m_196 54 [(0, .ref 70), (1, .int (Int32.ofNat m)), (2, .int (Int32.ofNat m))] [] (s_rit n k g) u Q → q_EV m_196 38 [(0, .ref 70), (1, .int (Int32.ofNat m)), (2, .int (Int32.ofNat i))] [] g u Q := by
  intro k
  induction k with
  | zero =>
    intro i g hi hn hw hk
    have e : i = m := by omega
    subst e
    refine q_step 2 40 [(0, .ref 70), (1, .int (Int32.ofNat i)), (2, .int (Int32.ofNat i))] [.int (Int32.ofNat i), .int (Int32.ofNat i)] g u (fun big n0 => sg_rk_67 big n0 g u (Int32.ofNat i) (Int32.ofNat i)) ?_
    refine q_ic_ge rfl (fun (hc0 : (Int32.ofNat i) ≤ (Int32.ofNat i)) => ?_) (fun hc0 => absurd (show (Int32.ofNat i) ≤ (Int32.ofNat i) from (q_le (by omega) (by omega)).mpr (by omega)) hc0)
    exact hk
  | succ k ih =>
    intro i g hi hn hw hk
    refine q_step 2 40 [(0, .ref 70), (1, .int (Int32.ofNat m)), (2, .int (Int32.ofNat i))] [.int (Int32.ofNat m), .int (Int32.ofNat i)] g u (fun big n0 => sg_rk_67 big n0 g u (Int32.ofNat m) (Int32.ofNat i)) ?_
    refine q_ic_ge rfl (fun hc0 => absurd (show (Int32.ofNat m) ≤ (Int32.ofNat i) from hc0) (fun z => absurd ((q_le (by omega) (by omega)).mp z) (by omega))) (fun (hc0 : ¬ ((Int32.ofNat m) ≤ (Int32.ofNat i))) => ?_)
    refine q_step 1 44 [(0, .ref 70), (1, .int (Int32.ofNat m)), (2, .int (Int32.ofNat i))] [.ref 70] g u (fun big n0 => sg_rk_68 big n0 g u (Int32.ofNat m) (Int32.ofNat i)) ?_
    refine q_call (M2 := 191) (rest := []) (b_rsteps g u hn h6 hw) (fun _ _ => rfl) ?_
    refine q_step 3 38 [(0, .ref 70), (1, .int (Int32.ofNat m)), (2, .int ((Int32.ofNat i) + (1 : Int32)))] [] (s_rst n g) u (fun big n0 => sg_rk_69 big n0 (s_rst n g) u (Int32.ofNat m) (Int32.ofNat i) (s_ran n g)) ?_
    rw [q_succ]
    exact ih (i + 1) (s_rst n g) (by omega) (by rw [s_rst_g (by omega)]; exact hn) (by rw [s_rst_g (by omega)]; exact hw) hk
theorem s_rgo_eq (n m : Nat) (g : qM) : (q_up (q_up (q_up (q_up (q_up (q_up (q_up (q_up (q_up (q_up (q_up (s_rit n m (s_start g)) 71 0 ((s_rit n m (s_start g)) 75 0)) 71 5 ((s_rit n m (s_start g)) 76 0)) 71 1 ((s_rit n m (s_start g)) 75 1)) 71 6 ((s_rit n m (s_start g)) 76 1)) 71 2 ((s_rit n m (s_start g)) 75 2)) 71 7 ((s_rit n m (s_start g)) 76 2)) 71 3 ((s_rit n m (s_start g)) 75 3)) 71 8 ((s_rit n m (s_start g)) 76 3)) 71 4 ((s_rit n m (s_start g)) 75 4)) 71 9 ((s_rit n m (s_start g)) 76 4)) 71 26 (((s_rit n m (s_start g)) 71 26) + (Int32.ofNat m))) = s_rgo n m g := by
  funext a j
  have e71 : s_rit n m (s_start g) 71 = g 71 := s_rit_g (by omega) m (s_start g)
  by_cases ha : a = 71
  · subst ha
    simp only [q_up_eq, s_rgo, if_true, true_and]
    rcases (show j = 0 ∨ j = 1 ∨ j = 2 ∨ j = 3 ∨ j = 4 ∨ j = 5 ∨ j = 6 ∨ j = 7 ∨ j = 8 ∨ j = 9 ∨ j = 26 ∨ (10 ≤ j ∧ j ≠ 26) by omega) with e | e | e | e | e | e | e | e | e | e | e | e
    all_goals first
      | (subst e; simp [e71]; done)
      | (simp [e71, show ¬ j < 5 by omega, show ¬ j < 10 by omega, show ¬ j = 26 by omega, show ¬ j = 0 by omega, show ¬ j = 1 by omega, show ¬ j = 2 by omega, show ¬ j = 3 by omega, show ¬ j = 4 by omega, show ¬ j = 5 by omega, show ¬ j = 6 by omega, show ¬ j = 7 by omega, show ¬ j = 8 by omega, show ¬ j = 9 by omega]; done)
  · simp only [q_up_eq, s_rgo, if_neg ha]
    simp [ha]
theorem r_go {n W H : Nat} {g r : qM} (u : qW) (h : w_ok n W H r) (hs : w_sm n (s_start g) r) (h5 : n ≤ 5) {m : Nat} (hm : m ≤ 60) (hg : ∀ p, p < n → g 71 (15 + p) = r 78 p) (hq : ¬ 999 < g 71 26 + Int32.ofNat m) : q_BS 196 [.ref 70, .int (Int32.ofNat m)] g u (some (.int (f_at n (s_rit n m r))), s_rgo n m g, u) := by
  refine q_bx (mm := m_196) rfl (Nat.le_of_ble_eq_true rfl) rfl ?_
  refine q_step 4 6 [(0, .ref 70), (1, .int (Int32.ofNat m))] [.long (60 : Int64), .long (0 : Int64), .long (Int32.toInt64 (Int32.ofNat m))] g u (fun big n0 => sg_rk_70 big n0 g u (Int32.ofNat m)) ?_
  refine q_call (M2 := 149) (rest := []) (b_in1 (m := m) (lo := 0) (hi := 60) g u (by omega) (by omega) (by omega)) (fun _ _ => rfl) ?_
  refine q_step 8 26 [(0, .ref 70), (1, .int (Int32.ofNat m))] [.int (999 : Int32), .int ((g 71 26) + (Int32.ofNat m))] g u (fun big n0 => sg_rk_71 big n0 g u (Int32.ofNat m)) ?_
  refine q_ic_le rfl (fun (hc0 : ((g 71 26) + (Int32.ofNat m)) ≤ (999 : Int32)) => ?_) (fun hc0 => absurd (show ((g 71 26) + (Int32.ofNat m)) ≤ (999 : Int32) from Int32.not_lt.mp hq) hc0)
  refine q_step 1 33 [(0, .ref 70), (1, .int (Int32.ofNat m))] [.ref 70] g u (fun big n0 => sg_rk_72 big n0 g u (Int32.ofNat m)) ?_
  refine q_call (M2 := 172) (rest := []) (b_starts g u) (fun _ _ => rfl) ?_
  refine q_step 2 38 [(0, .ref 70), (1, .int (Int32.ofNat m)), (2, .int (0 : Int32))] [] (s_start g) u (fun big n0 => sg_rk_73 big n0 (s_start g) u (Int32.ofNat m)) ?_
  refine rgo u (by omega) hm m 0 (s_start g) (by omega) (w_w0 h hs).1 (w_w0 h hs).2.2 ?_
  refine q_step 40 75 [(0, .ref 70), (1, .int (Int32.ofNat m)), (2, .int (1 : Int32))] [] (q_up (q_up (q_up (s_rit n m (s_start g)) 71 0 ((s_rit n m (s_start g)) 75 0)) 71 5 ((s_rit n m (s_start g)) 76 0)) 71 1 ((s_rit n m (s_start g)) 75 1)) u (fun big n0 => sg_rk_74 big n0 (s_rit n m (s_start g)) u (Int32.ofNat m) (Int32.ofNat m)) ?_
  refine q_step 40 61 [(0, .ref 70), (1, .int (Int32.ofNat m)), (2, .int (3 : Int32))] [] (q_up (q_up (q_up (q_up (q_up (q_up (s_rit n m (s_start g)) 71 0 ((s_rit n m (s_start g)) 75 0)) 71 5 ((s_rit n m (s_start g)) 76 0)) 71 1 ((s_rit n m (s_start g)) 75 1)) 71 6 ((s_rit n m (s_start g)) 76 1)) 71 2 ((s_rit n m (s_start g)) 75 2)) 71 7 ((s_rit n m (s_start g)) 76 2)) u (fun big n0 => sg_rk_75 big n0 (q_up (q_up (q_up (s_rit n m (s_start g)) 71 0 ((s_rit n m (s_start g)) 75 0)) 71 5 ((s_rit n m (s_start g)) 76 0)) 71 1 ((s_rit n m (s_start g)) 75 1)) u (Int32.ofNat m)) ?_
  refine q_step 40 82 [(0, .ref 70), (1, .int (Int32.ofNat m)), (2, .int (4 : Int32))] [.int (9 : Int32), .ref 71] (q_up (q_up (q_up (q_up (q_up (q_up (q_up (q_up (q_up (s_rit n m (s_start g)) 71 0 ((s_rit n m (s_start g)) 75 0)) 71 5 ((s_rit n m (s_start g)) 76 0)) 71 1 ((s_rit n m (s_start g)) 75 1)) 71 6 ((s_rit n m (s_start g)) 76 1)) 71 2 ((s_rit n m (s_start g)) 75 2)) 71 7 ((s_rit n m (s_start g)) 76 2)) 71 3 ((s_rit n m (s_start g)) 75 3)) 71 8 ((s_rit n m (s_start g)) 76 3)) 71 4 ((s_rit n m (s_start g)) 75 4)) u (fun big n0 => sg_rk_76 big n0 (q_up (q_up (q_up (q_up (q_up (q_up (s_rit n m (s_start g)) 71 0 ((s_rit n m (s_start g)) 75 0)) 71 5 ((s_rit n m (s_start g)) 76 0)) 71 1 ((s_rit n m (s_start g)) 75 1)) 71 6 ((s_rit n m (s_start g)) 76 1)) 71 2 ((s_rit n m (s_start g)) 75 2)) 71 7 ((s_rit n m (s_start g)) 76 2)) u (Int32.ofNat m)) ?_
  refine q_step 19 107 [(0, .ref 70), (1, .int (Int32.ofNat m)), (2, .int (5 : Int32))] [.ref 70] (q_up (q_up (q_up (q_up (q_up (q_up (q_up (q_up (q_up (q_up (q_up (s_rit n m (s_start g)) 71 0 ((s_rit n m (s_start g)) 75 0)) 71 5 ((s_rit n m (s_start g)) 76 0)) 71 1 ((s_rit n m (s_start g)) 75 1)) 71 6 ((s_rit n m (s_start g)) 76 1)) 71 2 ((s_rit n m (s_start g)) 75 2)) 71 7 ((s_rit n m (s_start g)) 76 2)) 71 3 ((s_rit n m (s_start g)) 75 3)) 71 8 ((s_rit n m (s_start g)) 76 3)) 71 4 ((s_rit n m (s_start g)) 75 4)) 71 9 ((s_rit n m (s_start g)) 76 4)) 71 26 (((s_rit n m (s_start g)) 71 26) + (Int32.ofNat m))) u (fun big n0 => sg_rk_77 big n0 (q_up (q_up (q_up (q_up (q_up (q_up (q_up (q_up (q_up (s_rit n m (s_start g)) 71 0 ((s_rit n m (s_start g)) 75 0)) 71 5 ((s_rit n m (s_start g)) 76 0)) 71 1 ((s_rit n m (s_start g)) 75 1)) 71 6 ((s_rit n m (s_start g)) 76 1)) 71 2 ((s_rit n m (s_start g)) 75 2)) 71 7 ((s_rit n m (s_start g)) 76 2)) 71 3 ((s_rit n m (s_start g)) 75 3)) 71 8 ((s_rit n m (s_start g)) 76 3)) 71 4 ((s_rit n m (s_start g)) 75 4)) u (Int32.ofNat m)) ?_
  rw [show (q_up (q_up (q_up (q_up (q_up (q_up (q_up (q_up (q_up (q_up (q_up (s_rit n m (s_start g)) 71 0 ((s_rit n m (s_start g)) 75 0)) 71 5 ((s_rit n m (s_start g)) 76 0)) 71 1 ((s_rit n m (s_start g)) 75 1)) 71 6 ((s_rit n m (s_start g)) 76 1)) 71 2 ((s_rit n m (s_start g)) 75 2)) 71 7 ((s_rit n m (s_start g)) 76 2)) 71 3 ((s_rit n m (s_start g)) 75 3)) 71 8 ((s_rit n m (s_start g)) 76 3)) 71 4 ((s_rit n m (s_start g)) 75 4)) 71 9 ((s_rit n m (s_start g)) 76 4)) 71 26 (((s_rit n m (s_start g)) 71 26) + (Int32.ofNat m))) = s_rgo n m g from s_rgo_eq n m g]
  have hag := b_ratg (s_rgo n m g) u (by show (s_rit n m (s_start g)) 70 27 = _; rw [s_rit_g (by omega)]; exact (w_w0 h hs).1) (by omega)
  rw [show s_ct (fun p => if (s_rgo n m g) 78 p = i_none then (0 : Int32) else if (s_rgo n m g) 75 p = (s_rgo n m g) 78 p then 1 else 0) n 0 0 = f_at n (s_rit n m r) from w_at_r (g := (s_rit n m (s_start g))) (w_sm_rit m _ r h hs) (fun p hp => by rw [s_rit_g (by omega), s_rit_g (by omega), w_st78 h5 hp]; exact hg p hp)] at hag
  refine q_call (M2 := 197) (rest := []) (hag) (fun _ _ => rfl) ?_
  refine q_ret 1 (some (.int (f_at n (s_rit n m r))), (s_rgo n m g), u) (fun _ _ => rfl) ?_
  rfl
end
section
/-! AGAIN: marks. -/
theorem q_div {a b : Nat} (ha : a < 1000000) (hb : b < 1000000) : Int32.ofNat a / Int32.ofNat b = Int32.ofNat (a / b) := by
  apply q_inj
  have hl := Nat.div_le_self a b
  rw [Int32.toInt_div, q_nat ha, q_nat hb, q_nat (by omega)]
  show Int.bmod ((a / b : Nat) : Int) _ = ((a / b : Nat) : Int)
  generalize a / b = x at hl ⊢
  exact Int.bmod_eq_of_le (by omega) (by omega)
theorem q_sb {a b : Nat} (ha : a < 1000000) (hb : b ≤ a) : Int32.ofNat a - Int32.ofNat b = Int32.ofNat (a - b) := by
  apply q_inj
  rw [s_sub (by rw [q_nat ha, q_nat (by omega)]; omega) (by rw [q_nat ha, q_nat (by omega)]; omega), q_nat ha, q_nat (by omega), q_nat (by omega)]
  omega
theorem q_mul (a b : Nat) : Int32.ofNat a * Int32.ofNat b = Int32.ofNat (a * b) := (Int32.ofNat_mul a b).symm
theorem q_add (a b : Nat) : Int32.ofNat a + Int32.ofNat b = Int32.ofNat (a + b) := (Int32.ofNat_add a b).symm
theorem q_rem {a b : Nat} (ha : a < 1000000) (hb : b < 1000000) : Int32.ofNat a - Int32.ofNat a / Int32.ofNat b * Int32.ofNat b = Int32.ofNat (a % b) := by
  have hl := Nat.div_mul_le_self a b
  rw [q_div ha hb, q_mul, q_sb ha hl]
  congr 1
  have := Nat.div_add_mod' a b
  omega
/-- a number by its digits -/
def n_f (B : Nat) (d : Nat → Nat) : Nat → Nat → Nat → Nat
  | 0, _, a => a
  | k + 1, i, a => n_f B d k (i + 1) (a * B + d i)
theorem n_dig {B a a' d d' : Nat} (h : d < B) (h' : d' < B) : a * B + d = a' * B + d' ↔ a = a' ∧ d = d' := by
  constructor
  · intro e
    have hB : 0 < B := by omega
    have e1 : (d + a * B) / B = a := by rw [Nat.add_mul_div_right d a hB, Nat.div_eq_of_lt h, Nat.zero_add]
    have e2 : (d' + a' * B) / B = a' := by rw [Nat.add_mul_div_right d' a' hB, Nat.div_eq_of_lt h', Nat.zero_add]
    have e3 : a = a' := by
      rw [← e1, ← e2]
      congr 1
      omega
    subst e3
    exact ⟨rfl, by omega⟩
  · rintro ⟨rfl, rfl⟩
    rfl
theorem n_f_inj {B : Nat} {d d' : Nat → Nat} : ∀ k i a a', (∀ j, i ≤ j → j < i + k → d j < B ∧ d' j < B) → (n_f B d k i a = n_f B d' k i a' ↔ a = a' ∧ ∀ j, i ≤ j → j < i + k → d j = d' j)
  | 0, i, a, a', _ => ⟨fun h => ⟨h, fun j h1 h2 => by omega⟩, fun h => h.1⟩
  | k + 1, i, a, a', h => by
    have h0 := h i (Nat.le_refl _) (by omega)
    rw [n_f, n_f, n_f_inj k (i + 1) _ _ (fun j h1 h2 => h j (by omega) (by omega)), n_dig h0.1 h0.2]
    constructor
    · rintro ⟨⟨e1, e2⟩, e3⟩
      refine ⟨e1, fun j h1 h2 => ?_⟩
      by_cases q : j = i
      · rw [q, e2]
      · exact e3 j (by omega) (by omega)
    · rintro ⟨e1, e2⟩
      exact ⟨⟨e1, e2 i (Nat.le_refl _) (by omega)⟩, fun j h1 h2 => e2 j (by omega) (by omega)⟩
theorem n_f_lt {B : Nat} {d : Nat → Nat} (hB : 0 < B) : ∀ k i a, (∀ j, i ≤ j → j < i + k → d j < B) → n_f B d k i a < (a + 1) * B ^ k
  | 0, i, a, _ => by rw [n_f, Nat.pow_zero]; omega
  | k + 1, i, a, h => by
    have h0 := h i (Nat.le_refl _) (by omega)
    have ih := n_f_lt hB k (i + 1) (a * B + d i) (fun j h1 h2 => h j (by omega) (by omega))
    rw [n_f]
    refine Nat.lt_of_lt_of_le ih ?_
    rw [Nat.pow_succ, Nat.mul_comm (B ^ k) B, ← Nat.mul_assoc]
    refine Nat.mul_le_mul_right _ ?_
    rw [Nat.add_mul]
    omega
/-- the class's mark, the reference's rows -/
def s_mkf (c mo : Nat → Int32) : Nat → Nat → Int64 → Int64
  | 0, _, a => a
  | k + 1, i, a => s_mkf c mo k (i + 1) (a * (128 : Int64) + Int32.toInt64 (c i * (4 : Int32)) + Int32.toInt64 (mo i))
def s_rwf (m : Int32) (f : Nat → Int32) : Nat → Nat → Int32 → Int32
  | 0, _, a => a
  | k + 1, i, a => s_rwf m f k (i + 1) (a * m + f i)
theorem s_i64 {x : Nat} (h : x < 1000000) : Int32.toInt64 (Int32.ofNat x) = Int64.ofNat x := by
  apply Int64.toInt_inj.mp
  rw [Int32.toInt_toInt64, q_nat h, Int64.toInt_ofNat_of_lt (by omega)]
theorem s_mkf_n {c mo : Nat → Int32} {C M : Nat → Nat} : ∀ k i a, (∀ j, i ≤ j → j < i + k → c j = Int32.ofNat (C j) ∧ mo j = Int32.ofNat (M j) ∧ C j < 25 ∧ M j < 4) → s_mkf c mo k i (Int64.ofNat a) = Int64.ofNat (n_f 128 (fun j => C j * 4 + M j) k i a)
  | 0, _, _, _ => rfl
  | k + 1, i, a, h => by
    obtain ⟨h1, h2, h3, h4⟩ := h i (Nat.le_refl _) (by omega)
    rw [s_mkf, n_f, ← s_mkf_n k (i + 1) _ (fun j a b => h j (by omega) (by omega)), h1, h2]
    rw [show (4 : Int32) = Int32.ofNat 4 from rfl, q_mul, s_i64 (by omega), s_i64 (by omega), show (128 : Int64) = Int64.ofNat 128 from rfl, ← Int64.ofNat_mul, ← Int64.ofNat_add, ← Int64.ofNat_add, Nat.add_assoc]
theorem s_rwf_n {f : Nat → Int32} {F : Nat → Nat} {B : Nat} : ∀ k i a, (∀ j, i ≤ j → j < i + k → f j = Int32.ofNat (F j)) → s_rwf (Int32.ofNat B) f k i (Int32.ofNat a) = Int32.ofNat (n_f B F k i a)
  | 0, _, _, _ => rfl
  | k + 1, i, a, h => by
    rw [s_rwf, n_f, ← s_rwf_n k (i + 1) _ (fun j a b => h j (by omega) (by omega)), h i (Nat.le_refl _) (by omega), q_mul, q_add]
def f_mk (n : Nat) (r : qM) : Int64 := s_mkf (r 75) (r 76) n 0 0
def f_cr (n : Nat) (r : qM) : Int32 := s_rwf 25 (r 75) n 0 0
def f_mr (n : Nat) (r : qM) : Int32 := s_rwf 4 (r 76) n 0 0
theorem s_mkf_cg {c c' mo mo' : Nat → Int32} : ∀ k i a, (∀ j, i ≤ j → j < i + k → c j = c' j ∧ mo j = mo' j) → s_mkf c mo k i a = s_mkf c' mo' k i a
  | 0, _, _, _ => rfl
  | k + 1, i, a, h => by
    rw [s_mkf, s_mkf, (h i (Nat.le_refl _) (by omega)).1, (h i (Nat.le_refl _) (by omega)).2, s_mkf_cg k (i + 1) _ (fun j a b => h j (by omega) (by omega))]
theorem s_rwf_cg {m : Int32} {f f' : Nat → Int32} : ∀ k i a, (∀ j, i ≤ j → j < i + k → f j = f' j) → s_rwf m f k i a = s_rwf m f' k i a
  | 0, _, _, _ => rfl
  | k + 1, i, a, h => by
    rw [s_rwf, s_rwf, h i (Nat.le_refl _) (by omega), s_rwf_cg k (i + 1) _ (fun j a b => h j (by omega) (by omega))]
theorem w_dig {n W H : Nat} {r : qM} (h : w_ok n W H r) : ∀ p, p < n → r 75 p = Int32.ofNat (r 75 p).toInt.toNat ∧ r 76 p = Int32.ofNat (r 76 p).toInt.toNat ∧ (r 75 p).toInt.toNat < 25 ∧ (r 76 p).toInt.toNat < 4 := fun p hp => by
  have hWH : W * H ≤ 25 := Nat.le_trans (Nat.mul_le_mul h.1.2.1 h.1.2.2.2.1) (Nat.le_refl 25)
  obtain ⟨C, hC, e⟩ := h.2.2.2.2.1 p hp
  have e2 : (r 75 p).toInt.toNat = C := by rw [e, q_nat (by omega)]; omega
  refine ⟨by rw [e2]; exact e, ?_, by omega, ?_⟩
  · rcases h.2.2.2.2.2.2.2.1 p hp with z | z | z | z <;> rw [z] <;> rfl
  · rcases h.2.2.2.2.2.2.2.1 p hp with z | z | z | z <;> rw [z] <;> decide
/-- marks tell CELLS and MOODS apart, as the rows do -/
theorem w_mk {n W H : Nat} {r r' : qM} (h : w_ok n W H r) (h' : w_ok n W H r') : (f_cr n r = f_cr n r' ∧ f_mr n r = f_mr n r') ↔ f_mk n r = f_mk n r' := by
  have d := w_dig h
  have d' := w_dig h'
  have h6 := h.1.2.2.2.2
  have pw : ∀ B, 0 < B → B ^ n ≤ B ^ 6 := fun B hB => Nat.pow_le_pow_right hB h6
  unfold f_cr f_mr f_mk
  have a1 := s_rwf_n (f := r 75) (F := fun p => (r 75 p).toInt.toNat) (B := 25) n 0 0 (fun j _ hj => (d j (by omega)).1)
  have a1' := s_rwf_n (f := r' 75) (F := fun p => (r' 75 p).toInt.toNat) (B := 25) n 0 0 (fun j _ hj => (d' j (by omega)).1)
  have a2 := s_rwf_n (f := r 76) (F := fun p => (r 76 p).toInt.toNat) (B := 4) n 0 0 (fun j _ hj => (d j (by omega)).2.1)
  have a2' := s_rwf_n (f := r' 76) (F := fun p => (r' 76 p).toInt.toNat) (B := 4) n 0 0 (fun j _ hj => (d' j (by omega)).2.1)
  have a3 := s_mkf_n (c := r 75) (mo := r 76) (C := fun p => (r 75 p).toInt.toNat) (M := fun p => (r 76 p).toInt.toNat) n 0 0 (fun j _ hj => d j (by omega))
  have a3' := s_mkf_n (c := r' 75) (mo := r' 76) (C := fun p => (r' 75 p).toInt.toNat) (M := fun p => (r' 76 p).toInt.toNat) n 0 0 (fun j _ hj => d' j (by omega))
  have b1 := n_f_lt (B := 25) (d := fun p => (r 75 p).toInt.toNat) (by omega) n 0 0 (fun j _ hj => (d j (by omega)).2.2.1)
  have b1' := n_f_lt (B := 25) (d := fun p => (r' 75 p).toInt.toNat) (by omega) n 0 0 (fun j _ hj => (d' j (by omega)).2.2.1)
  have b2 := n_f_lt (B := 4) (d := fun p => (r 76 p).toInt.toNat) (by omega) n 0 0 (fun j _ hj => (d j (by omega)).2.2.2)
  have b2' := n_f_lt (B := 4) (d := fun p => (r' 76 p).toInt.toNat) (by omega) n 0 0 (fun j _ hj => (d' j (by omega)).2.2.2)
  have dd : ∀ j, 0 ≤ j → j < 0 + n → (r 75 j).toInt.toNat * 4 + (r 76 j).toInt.toNat < 128 ∧ (r' 75 j).toInt.toNat * 4 + (r' 76 j).toInt.toNat < 128 := fun j _ hj => by
    have x := d j (by omega)
    have y := d' j (by omega)
    omega
  have b3 := n_f_lt (B := 128) (d := fun p => (r 75 p).toInt.toNat * 4 + (r 76 p).toInt.toNat) (by omega) n 0 0 (fun j x y => (dd j x y).1)
  have b3' := n_f_lt (B := 128) (d := fun p => (r' 75 p).toInt.toNat * 4 + (r' 76 p).toInt.toNat) (by omega) n 0 0 (fun j x y => (dd j x y).2)
  have p1 := pw 25 (by omega)
  have p2 := pw 4 (by omega)
  have p3 := pw 128 (by omega)
  have x1 : (25 : Nat) ^ 6 = 244140625 := rfl
  have x2 : (4 : Nat) ^ 6 = 4096 := rfl
  have x3 : (128 : Nat) ^ 6 = 4398046511104 := rfl
  have i32 : ∀ a b : Nat, a < 2147483648 → b < 2147483648 → (Int32.ofNat a = Int32.ofNat b ↔ a = b) := fun a b ha hb => ⟨fun e => by
    have z := congrArg Int32.toInt e
    rw [Int32.toInt_ofNat_of_lt (by omega), Int32.toInt_ofNat_of_lt (by omega)] at z
    omega, fun e => by rw [e]⟩
  have i64 : ∀ a b : Nat, a < 4398046511104 → b < 4398046511104 → (Int64.ofNat a = Int64.ofNat b ↔ a = b) := fun a b ha hb => ⟨fun e => by
    have z := congrArg Int64.toInt e
    rw [Int64.toInt_ofNat_of_lt (by omega), Int64.toInt_ofNat_of_lt (by omega)] at z
    omega, fun e => by rw [e]⟩
  rw [show s_rwf 25 (r 75) n 0 0 = Int32.ofNat _ from a1, show s_rwf 25 (r' 75) n 0 0 = Int32.ofNat _ from a1', show s_rwf 4 (r 76) n 0 0 = Int32.ofNat _ from a2, show s_rwf 4 (r' 76) n 0 0 = Int32.ofNat _ from a2', show s_mkf (r 75) (r 76) n 0 0 = Int64.ofNat _ from a3, show s_mkf (r' 75) (r' 76) n 0 0 = Int64.ofNat _ from a3']
  rw [i32 _ _ (by omega) (by omega), i32 _ _ (by omega) (by omega), i64 _ _ (by omega) (by omega), n_f_inj n 0 0 0 (fun j _ hj => ⟨(d j (by omega)).2.2.1, (d' j (by omega)).2.2.1⟩), n_f_inj n 0 0 0 (fun j _ hj => ⟨(d j (by omega)).2.2.2, (d' j (by omega)).2.2.2⟩), n_f_inj n 0 0 0 dd]
  constructor
  · rintro ⟨⟨_, e1⟩, ⟨_, e2⟩⟩
    exact ⟨rfl, fun j x y => by
      show (r 75 j).toInt.toNat * 4 + (r 76 j).toInt.toNat = (r' 75 j).toInt.toNat * 4 + (r' 76 j).toInt.toNat
      have e1 : (r 75 j).toInt.toNat = (r' 75 j).toInt.toNat := e1 j x y
      have e2 : (r 76 j).toInt.toNat = (r' 76 j).toInt.toNat := e2 j x y
      rw [e1, e2]⟩
  · rintro ⟨_, e⟩
    have key : ∀ j, 0 ≤ j → j < 0 + n → (r 75 j).toInt.toNat = (r' 75 j).toInt.toNat ∧ (r 76 j).toInt.toNat = (r' 76 j).toInt.toNat := fun j x y => by
      have e0 : (r 75 j).toInt.toNat * 4 + (r 76 j).toInt.toNat = (r' 75 j).toInt.toNat * 4 + (r' 76 j).toInt.toNat := e j x y
      have u1 := (d j (by omega)).2.2.2
      have u2 := (d' j (by omega)).2.2.2
      omega
    exact ⟨⟨rfl, fun j x y => (key j x y).1⟩, ⟨rfl, fun j x y => (key j x y).2⟩⟩
/-- the first that is the same as i -/
def f_in (M : Nat → Int64) (i : Nat) : Nat → Nat → Option Nat
  | 0, _ => none
  | k + 1, j => if M j = M i then some j else f_in M i k (j + 1)
def f_ou (M : Nat → Int64) : Nat → Nat → Option (Nat × Nat)
  | 0, _ => none
  | k + 1, i => match f_in M i i 0 with
    | some j => some (j, i - j)
    | none => f_ou M k (i + 1)
theorem f_in_lt {M : Nat → Int64} {i : Nat} : ∀ k j x, f_in M i k j = some x → j ≤ x ∧ x < j + k
  | 0, _, _, h => by cases h
  | k + 1, j, x, h => by
    unfold f_in at h
    split at h
    · cases h
      omega
    · have := f_in_lt k (j + 1) x h
      omega
theorem f_ou_lt {M : Nat → Int64} : ∀ k i a b, f_ou M k i = some (a, b) → a + b < i + k ∧ a ≤ i + k
  | 0, _, _, _, h => by cases h
  | k + 1, i, a, b, h => by
    unfold f_ou at h
    split at h
    · rename_i j hj
      cases h
      have := f_in_lt _ _ _ hj
      omega
    · have := f_ou_lt k (i + 1) a b h
      omega
def f_enc : Option (Nat × Nat) → Int32
  | none => i_none
  | some (a, b) => Int32.ofNat (a * 1024 + b)
/-- what again() answers -/
def f_ag (n : Nat) (r : qM) : Option (Nat × Nat) := f_ou (fun j => f_mk n (s_rit n j r)) 61 0
def f_agw (w : Nat) : Option (Nat × Nat) → Int32
  | none => i_none
  | some (a, b) => if w = 0 then Int32.ofNat a else Int32.ofNat b
theorem s_lcmp0 {x y : Int64} : lg_cmp x y = 0 ↔ x = y := by
  constructor
  · intro h
    apply Int64.toInt_inj.mp
    have h1 : ¬ x < y := fun z => by
      rw [← s_cmpl, h] at z
      exact absurd z (by decide)
    have h2 : ¬ y < x := fun z => by
      rw [← s_cmpg, h] at z
      exact absurd z (by decide)
    rw [Int64.lt_iff_toInt_lt] at h1 h2
    omega
  · rintro rfl
    unfold lg_cmp
    rw [if_neg (fun z => by
      have z : x < x := z
      rw [Int64.lt_iff_toInt_lt] at z
      omega), if_pos rfl]
theorem s_rit_add {n : Nat} (k : Nat) (r : qM) : s_rst n (s_rit n k r) = s_rit n (k + 1) r := (s_rit_s n k r).symm
/-- the rows of i, as the reference counts them up -/
def s_agm (g : qM) (i : Nat) (x y : Int32) : qM := q_up (q_up g 82 i x) 83 i y
theorem s_agm_s {g : qM} {i : Nat} {x y x' y' : Int32} : q_up (q_up (s_agm g i x y) 82 i x') 83 i y' = s_agm g i x' y' := by
  funext a j
  unfold s_agm
  simp only [q_up_eq]
  by_cases h1 : a = 83
  · by_cases h2 : j = i
    · simp [h1, h2]
    · simp [h1, h2]
  · by_cases h2 : a = 82
    · by_cases h3 : j = i
      · simp [h2, h3]
      · simp [h2, h3]
    · simp [h1, h2]
theorem s_agm_x {g : qM} {i : Nat} {x y : Int32} : (s_agm g i x y) 82 i = x := by
  unfold s_agm
  rw [q_up_ne (by omega), q_up_at, if_pos rfl]
theorem s_agm_y {g : qM} {i : Nat} {x y : Int32} : (s_agm g i x y) 83 i = y := by
  unfold s_agm
  rw [q_up_at, if_pos rfl]
theorem s_agm_xo {g : qM} {i j : Nat} {x y : Int32} (h : j ≠ i) : (s_agm g i x y) 82 j = g 82 j := by
  unfold s_agm
  rw [q_up_ne (by omega), q_up_at, if_neg h]
theorem s_agm_yo {g : qM} {i j : Nat} {x y : Int32} (h : j ≠ i) : (s_agm g i x y) 83 j = g 83 j := by
  unfold s_agm
  rw [q_up_at, if_neg h, q_up_ne (by omega)]
theorem q_none_ne {j : Nat} (h : j < 1000000) : Int32.ofNat j ≠ i_none := fun z => by
  have e := congrArg Int32.toInt z
  rw [q_nat h] at e
  have e2 : i_none.toInt = -4 := by decide
  omega
theorem sg_ag_1 (big : Nat → List Value → qM → qW → qR) (n0 : Nat) (G : qM) (U : qW) (v0 : Int64) (v1 : Int32) : qm_run pm_m big m_86 (n0 + 3) 4 [(0, .ref 35), (1, .long v0), (3, .int v1)] [] G U = qm_run pm_m big m_86 n0 9 [(0, .ref 35), (1, .long v0), (3, .int v1)] [.int (G 35 3), .int v1] G U := rfl
theorem sg_ag_2 (big : Nat → List Value → qM → qW → qR) (n0 : Nat) (G : qM) (U : qW) (v0 : Int64) (v1 : Int32) : qm_run pm_m big m_86 (n0 + 6) 12 [(0, .ref 35), (1, .long v0), (3, .int v1)] [] G U = qm_run pm_m big m_86 n0 22 [(0, .ref 35), (1, .long v0), (3, .int v1)] [.int v1, .ref 36, .long (v0 * (128 : Int64))] G U := rfl
theorem sg_ag_3 (big : Nat → List Value → qM → qW → qR) (n0 : Nat) (G : qM) (U : qW) (v0 : Int64) (v1 : Int32) (v2 : Int64) (v3 : Int32) : qm_run pm_m big m_86 (n0 + 7) 23 [(0, .ref 35), (1, .long v0), (3, .int v1)] [.int v3, .long v2] G U = qm_run pm_m big m_86 n0 32 [(0, .ref 35), (1, .long v0), (3, .int v1)] [.int v1, .ref 37, .long (v2 + (Int32.toInt64 (v3 * (4 : Int32))))] G U := rfl
theorem sg_ag_4 (big : Nat → List Value → qM → qW → qR) (n0 : Nat) (G : qM) (U : qW) (v0 : Int64) (v1 : Int32) (v2 : Int64) (v3 : Int32) : qm_run pm_m big m_86 (n0 + 5) 33 [(0, .ref 35), (1, .long v0), (3, .int v1)] [.int v3, .long v2] G U = qm_run pm_m big m_86 n0 4 [(0, .ref 35), (1, .long (v2 + (Int32.toInt64 v3))), (3, .int (v1 + (1 : Int32)))] [] G U := rfl
theorem sg_ag_5 (big : Nat → List Value → qM → qW → qR) (n0 : Nat) (G : qM) (U : qW) : qm_run pm_m big m_86 (n0 + 4) 0 [(0, .ref 35)] [] G U = qm_run pm_m big m_86 n0 4 [(0, .ref 35), (1, .long (0 : Int64)), (3, .int (0 : Int32))] [] G U := rfl
theorem sg_ag_6 (big : Nat → List Value → qM → qW → qR) (n0 : Nat) (G : qM) (U : qW) (v0 : Int32) (v1 : Int64) (v2 : Int32) : qm_run pm_m big m_85 (n0 + 2) 27 [(0, .ref 34), (1, .ref 20), (2, .int v0), (3, .long v1), (5, .int v2)] [] G U = qm_run pm_m big m_85 n0 30 [(0, .ref 34), (1, .ref 20), (2, .int v0), (3, .long v1), (5, .int v2)] [.int v0, .int v2] G U := rfl
theorem sg_ag_7 (big : Nat → List Value → qM → qW → qR) (n0 : Nat) (G : qM) (U : qW) (v0 : Int32) (v1 : Int64) (v2 : Int32) : qm_run pm_m big m_85 (n0 + 3) 33 [(0, .ref 34), (1, .ref 20), (2, .int v0), (3, .long v1), (5, .int v2)] [] G U = qm_run pm_m big m_85 n0 39 [(0, .ref 34), (1, .ref 20), (2, .int v0), (3, .long v1), (5, .int v2)] [.int v2, .ref 43] G U := rfl
theorem sg_ag_8 (big : Nat → List Value → qM → qW → qR) (n0 : Nat) (G : qM) (U : qW) (v0 : Int32) (v1 : Int64) (v2 : Int32) (v3 : Int64) : qm_run pm_m big m_85 (n0 + 2) 40 [(0, .ref 34), (1, .ref 20), (2, .int v0), (3, .long v1), (5, .int v2)] [.long v3] G U = qm_run pm_m big m_85 n0 42 [(0, .ref 34), (1, .ref 20), (2, .int v0), (3, .long v1), (5, .int v2)] [.int (lg_cmp v3 v1)] G U := rfl
theorem sg_ag_9 (big : Nat → List Value → qM → qW → qR) (n0 : Nat) (G : qM) (U : qW) (v0 : Int32) (v1 : Int64) (v2 : Int32) : qm_run pm_m big m_85 (n0 + 2) 57 [(0, .ref 34), (1, .ref 20), (2, .int v0), (3, .long v1), (5, .int v2)] [] G U = qm_run pm_m big m_85 n0 27 [(0, .ref 34), (1, .ref 20), (2, .int v0), (3, .long v1), (5, .int (v2 + (1 : Int32)))] [] G U := rfl
theorem sg_ag_10 (big : Nat → List Value → qM → qW → qR) (n0 : Nat) (G : qM) (U : qW) (v0 : Int32) : qm_run pm_m big m_85 (n0 + 2) 10 [(0, .ref 34), (1, .ref 20), (2, .int v0)] [] G U = qm_run pm_m big m_85 n0 13 [(0, .ref 34), (1, .ref 20), (2, .int v0)] [.int (60 : Int32), .int v0] G U := rfl
theorem sg_ag_11 (big : Nat → List Value → qM → qW → qR) (n0 : Nat) (G : qM) (U : qW) (v0 : Int32) : qm_run pm_m big m_85 (n0 + 2) 16 [(0, .ref 34), (1, .ref 20), (2, .int v0)] [] G U = qm_run pm_m big m_85 n0 20 [(0, .ref 34), (1, .ref 20), (2, .int v0)] [.ref 35] G U := rfl
theorem sg_ag_12 (big : Nat → List Value → qM → qW → qR) (n0 : Nat) (G : qM) (U : qW) (v0 : Int32) (v1 : Int64) : qm_run pm_m big m_85 (n0 + 3) 23 [(0, .ref 34), (1, .ref 20), (2, .int v0)] [.long v1] G U = qm_run pm_m big m_85 n0 27 [(0, .ref 34), (1, .ref 20), (2, .int v0), (3, .long v1), (5, .int (0 : Int32))] [] G U := rfl
theorem sg_ag_13 (big : Nat → List Value → qM → qW → qR) (n0 : Nat) (G : qM) (U : qW) (v0 : Int32) (v1 : Int64) (v2 : Int32) : qm_run pm_m big m_85 (n0 + 4) 63 [(0, .ref 34), (1, .ref 20), (2, .int v0), (3, .long v1), (5, .int v2)] [] G U = qm_run pm_m big m_85 n0 69 [(0, .ref 34), (1, .ref 20), (2, .int v0), (3, .long v1), (5, .int v2)] [.long v1, .int v0, .ref 43] G U := rfl
theorem sg_ag_14 (big : Nat → List Value → qM → qW → qR) (n0 : Nat) (G : qM) (U : qW) (v0 : Int32) (v1 : Int64) (v2 : Int32) : qm_run pm_m big m_85 (n0 + 4) 70 [(0, .ref 34), (1, .ref 20), (2, .int v0), (3, .long v1), (5, .int v2)] [] G U = qm_run pm_m big m_85 n0 78 [(0, .ref 34), (1, .ref 20), (2, .int v0), (3, .long v1), (5, .int v2)] [.ref 35, .ref 28] G U := rfl
theorem sg_ag_15 (big : Nat → List Value → qM → qW → qR) (n0 : Nat) (G : qM) (U : qW) (v0 : Int32) (v1 : Int64) (v2 : Int32) : qm_run pm_m big m_85 (n0 + 2) 81 [(0, .ref 34), (1, .ref 20), (2, .int v0), (3, .long v1), (5, .int v2)] [] G U = qm_run pm_m big m_85 n0 10 [(0, .ref 34), (1, .ref 20), (2, .int (v0 + (1 : Int32))), (3, .long v1), (5, .int v2)] [] G U := rfl
theorem sg_ag_16 (big : Nat → List Value → qM → qW → qR) (n0 : Nat) (G : qM) (U : qW) : qm_run pm_m big m_85 (n0 + 3) 0 [(0, .ref 34), (1, .ref 20)] [] G U = qm_run pm_m big m_85 n0 5 [(0, .ref 34), (1, .ref 20)] [.ref 20, .ref 35] G U := rfl
theorem sg_ag_17 (big : Nat → List Value → qM → qW → qR) (n0 : Nat) (G : qM) (U : qW) : qm_run pm_m big m_85 (n0 + 2) 8 [(0, .ref 34), (1, .ref 20)] [] G U = qm_run pm_m big m_85 n0 10 [(0, .ref 34), (1, .ref 20), (2, .int (0 : Int32))] [] G U := rfl
theorem sg_ag_18 (big : Nat → List Value → qM → qW → qR) (n0 : Nat) (G : qM) (U : qW) : qm_run pm_m big m_84 (n0 + 1) 0 [(0, .ref 8), (1, .int (0 : Int32))] [] G U = qm_run pm_m big m_84 n0 1 [(0, .ref 8), (1, .int (0 : Int32))] [.int (0 : Int32)] G U := rfl
theorem sg_ag_19 (big : Nat → List Value → qM → qW → qR) (n0 : Nat) (G : qM) (U : qW) : qm_run pm_m big m_84 (n0 + 5) 4 [(0, .ref 8), (1, .int (0 : Int32))] [.int (1 : Int32)] G U = qm_run pm_m big m_84 n0 17 [(0, .ref 8), (1, .int (0 : Int32))] [.ref 20, .ref 34] G U := rfl
theorem sg_ag_20 (big : Nat → List Value → qM → qW → qR) (n0 : Nat) (G : qM) (U : qW) (v0 : Int32) : qm_run pm_m big m_84 (n0 + 3) 20 [(0, .ref 8), (1, .int (0 : Int32))] [.int v0] G U = qm_run pm_m big m_84 n0 24 [(0, .ref 8), (1, .int (0 : Int32)), (2, .int v0)] [.int (Int8.toInt32 (Int8.ofInt (-4))), .int v0] G U := rfl
theorem sg_ag_21 (big : Nat → List Value → qM → qW → qR) (n0 : Nat) (G : qM) (U : qW) (v0 : Int32) : qm_run pm_m big m_84 (n0 + 3) 30 [(0, .ref 8), (1, .int (0 : Int32)), (2, .int v0)] [] G U = qm_run pm_m big m_84 n0 35 [(0, .ref 8), (1, .int (0 : Int32)), (2, .int v0)] [.int v0] G U := rfl
theorem sg_ag_22 (big : Nat → List Value → qM → qW → qR) (n0 : Nat) (G : qM) (U : qW) : qm_run pm_m big m_84 (n0 + 1) 0 [(0, .ref 8), (1, .int (1 : Int32))] [] G U = qm_run pm_m big m_84 n0 1 [(0, .ref 8), (1, .int (1 : Int32))] [.int (1 : Int32)] G U := rfl
theorem sg_ag_23 (big : Nat → List Value → qM → qW → qR) (n0 : Nat) (G : qM) (U : qW) : qm_run pm_m big m_84 (n0 + 5) 4 [(0, .ref 8), (1, .int (1 : Int32))] [.int (1 : Int32)] G U = qm_run pm_m big m_84 n0 17 [(0, .ref 8), (1, .int (1 : Int32))] [.ref 20, .ref 34] G U := rfl
theorem sg_ag_24 (big : Nat → List Value → qM → qW → qR) (n0 : Nat) (G : qM) (U : qW) (v0 : Int32) : qm_run pm_m big m_84 (n0 + 3) 20 [(0, .ref 8), (1, .int (1 : Int32))] [.int v0] G U = qm_run pm_m big m_84 n0 24 [(0, .ref 8), (1, .int (1 : Int32)), (2, .int v0)] [.int (Int8.toInt32 (Int8.ofInt (-4))), .int v0] G U := rfl
theorem sg_ag_25 (big : Nat → List Value → qM → qW → qR) (n0 : Nat) (G : qM) (U : qW) (v0 : Int32) : qm_run pm_m big m_84 (n0 + 3) 30 [(0, .ref 8), (1, .int (1 : Int32)), (2, .int v0)] [] G U = qm_run pm_m big m_84 n0 42 [(0, .ref 8), (1, .int (1 : Int32)), (2, .int v0)] [.int v0] G U := rfl
theorem sg_ag_26 (big : Nat → List Value → qM → qW → qR) (n0 : Nat) (G : qM) (U : qW) (v0 : Int32) (v1 : Int32) : qm_run pm_m big m_200 (n0 + 3) 40 [(0, .ref 70), (1, .int (0 : Int32)), (2, .int v0), (3, .int v1)] [] G U = qm_run pm_m big m_200 n0 45 [(0, .ref 70), (1, .int (0 : Int32)), (2, .int v0), (3, .int v1)] [.int (G 70 27), .int v1] G U := rfl
theorem sg_ag_27 (big : Nat → List Value → qM → qW → qR) (n0 : Nat) (G : qM) (U : qW) (v0 : Int32) (v1 : Int32) : qm_run pm_m big m_200 (n0 + 6) 48 [(0, .ref 70), (1, .int (0 : Int32)), (2, .int v0), (3, .int v1)] [] G U = qm_run pm_m big m_200 n0 58 [(0, .ref 70), (1, .int (0 : Int32)), (2, .int v0), (3, .int v1)] [.int v0, .ref 82, .int v0, .ref 82] G U := rfl
theorem sg_ag_28 (big : Nat → List Value → qM → qW → qR) (n0 : Nat) (G : qM) (U : qW) (v0 : Int32) (v1 : Int32) (v2 : Int32) (v3 : Int32) : qm_run pm_m big m_200 (n0 + 5) 59 [(0, .ref 70), (1, .int (0 : Int32)), (2, .int v0), (3, .int v1)] [.int v3, .int v2, .ref 82] G U = qm_run pm_m big m_200 n0 67 [(0, .ref 70), (1, .int (0 : Int32)), (2, .int v0), (3, .int v1)] [.int v1, .ref 75, .int (v3 * (25 : Int32)), .int v2, .ref 82] G U := rfl
theorem sg_ag_29 (big : Nat → List Value → qM → qW → qR) (n0 : Nat) (G : qM) (U : qW) (v0 : Int32) (v1 : Int32) (v2 : Int32) (v3 : Int32) (v4 : Int32) : qm_run pm_m big m_200 (n0 + 1) 68 [(0, .ref 70), (1, .int (0 : Int32)), (2, .int v0), (3, .int v1)] [.int v4, .int v3, .int v2, .ref 82] G U = qm_run pm_m big m_200 n0 69 [(0, .ref 70), (1, .int (0 : Int32)), (2, .int v0), (3, .int v1)] [.int (v3 + v4), .int v2, .ref 82] G U := rfl
theorem sg_ag_30 (big : Nat → List Value → qM → qW → qR) (n0 : Nat) (G : qM) (U : qW) (v0 : Int32) (v1 : Int32) : qm_run pm_m big m_200 (n0 + 6) 70 [(0, .ref 70), (1, .int (0 : Int32)), (2, .int v0), (3, .int v1)] [] G U = qm_run pm_m big m_200 n0 80 [(0, .ref 70), (1, .int (0 : Int32)), (2, .int v0), (3, .int v1)] [.int v0, .ref 83, .int v0, .ref 83] G U := rfl
theorem sg_ag_31 (big : Nat → List Value → qM → qW → qR) (n0 : Nat) (G : qM) (U : qW) (v0 : Int32) (v1 : Int32) (v2 : Int32) (v3 : Int32) : qm_run pm_m big m_200 (n0 + 5) 81 [(0, .ref 70), (1, .int (0 : Int32)), (2, .int v0), (3, .int v1)] [.int v3, .int v2, .ref 83] G U = qm_run pm_m big m_200 n0 88 [(0, .ref 70), (1, .int (0 : Int32)), (2, .int v0), (3, .int v1)] [.int v1, .ref 76, .int (v3 * (4 : Int32)), .int v2, .ref 83] G U := rfl
theorem sg_ag_32 (big : Nat → List Value → qM → qW → qR) (n0 : Nat) (G : qM) (U : qW) (v0 : Int32) (v1 : Int32) (v2 : Int32) (v3 : Int32) (v4 : Int32) : qm_run pm_m big m_200 (n0 + 1) 89 [(0, .ref 70), (1, .int (0 : Int32)), (2, .int v0), (3, .int v1)] [.int v4, .int v3, .int v2, .ref 83] G U = qm_run pm_m big m_200 n0 90 [(0, .ref 70), (1, .int (0 : Int32)), (2, .int v0), (3, .int v1)] [.int (v3 + v4), .int v2, .ref 83] G U := rfl
theorem sg_ag_33 (big : Nat → List Value → qM → qW → qR) (n0 : Nat) (G : qM) (U : qW) (v0 : Int32) (v1 : Int32) : qm_run pm_m big m_200 (n0 + 2) 91 [(0, .ref 70), (1, .int (0 : Int32)), (2, .int v0), (3, .int v1)] [] G U = qm_run pm_m big m_200 n0 40 [(0, .ref 70), (1, .int (0 : Int32)), (2, .int v0), (3, .int (v1 + (1 : Int32)))] [] G U := rfl
theorem sg_ag_34 (big : Nat → List Value → qM → qW → qR) (n0 : Nat) (G : qM) (U : qW) (v0 : Int32) (v1 : Int32) : qm_run pm_m big m_200 (n0 + 2) 99 [(0, .ref 70), (1, .int (0 : Int32)), (2, .int v0), (3, .int v1)] [] G U = qm_run pm_m big m_200 n0 101 [(0, .ref 70), (1, .int (0 : Int32)), (2, .int v0), (3, .int v1)] [.int v0, .int v1] G U := rfl
theorem sg_ag_35 (big : Nat → List Value → qM → qW → qR) (n0 : Nat) (G : qM) (U : qW) (v0 : Int32) (v1 : Int32) : qm_run pm_m big m_200 (n0 + 3) 104 [(0, .ref 70), (1, .int (0 : Int32)), (2, .int v0), (3, .int v1)] [] G U = qm_run pm_m big m_200 n0 109 [(0, .ref 70), (1, .int (0 : Int32)), (2, .int v0), (3, .int v1)] [.int v1, .ref 82] G U := rfl
theorem sg_ag_36 (big : Nat → List Value → qM → qW → qR) (n0 : Nat) (G : qM) (U : qW) (v0 : Int32) (v1 : Int32) (v2 : Int32) : qm_run pm_m big m_200 (n0 + 3) 110 [(0, .ref 70), (1, .int (0 : Int32)), (2, .int v0), (3, .int v1)] [.int v2] G U = qm_run pm_m big m_200 n0 115 [(0, .ref 70), (1, .int (0 : Int32)), (2, .int v0), (3, .int v1)] [.int v0, .ref 82, .int v2] G U := rfl
theorem sg_ag_37 (big : Nat → List Value → qM → qW → qR) (n0 : Nat) (G : qM) (U : qW) (v0 : Int32) (v1 : Int32) : qm_run pm_m big m_200 (n0 + 3) 119 [(0, .ref 70), (1, .int (0 : Int32)), (2, .int v0), (3, .int v1)] [] G U = qm_run pm_m big m_200 n0 124 [(0, .ref 70), (1, .int (0 : Int32)), (2, .int v0), (3, .int v1)] [.int v1, .ref 83] G U := rfl
theorem sg_ag_38 (big : Nat → List Value → qM → qW → qR) (n0 : Nat) (G : qM) (U : qW) (v0 : Int32) (v1 : Int32) (v2 : Int32) : qm_run pm_m big m_200 (n0 + 3) 125 [(0, .ref 70), (1, .int (0 : Int32)), (2, .int v0), (3, .int v1)] [.int v2] G U = qm_run pm_m big m_200 n0 130 [(0, .ref 70), (1, .int (0 : Int32)), (2, .int v0), (3, .int v1)] [.int v0, .ref 83, .int v2] G U := rfl
theorem sg_ag_39 (big : Nat → List Value → qM → qW → qR) (n0 : Nat) (G : qM) (U : qW) (v0 : Int32) (v1 : Int32) : qm_run pm_m big m_200 (n0 + 2) 146 [(0, .ref 70), (1, .int (0 : Int32)), (2, .int v0), (3, .int v1)] [] G U = qm_run pm_m big m_200 n0 99 [(0, .ref 70), (1, .int (0 : Int32)), (2, .int v0), (3, .int (v1 + (1 : Int32)))] [] G U := rfl
theorem sg_ag_40 (big : Nat → List Value → qM → qW → qR) (n0 : Nat) (G : qM) (U : qW) (v0 : Int32) : qm_run pm_m big m_200 (n0 + 2) 18 [(0, .ref 70), (1, .int (0 : Int32)), (2, .int v0)] [] G U = qm_run pm_m big m_200 n0 21 [(0, .ref 70), (1, .int (0 : Int32)), (2, .int v0)] [.int (60 : Int32), .int v0] G U := rfl
theorem sg_ag_41 (big : Nat → List Value → qM → qW → qR) (n0 : Nat) (G : qM) (U : qW) (v0 : Int32) : qm_run pm_m big m_200 (n0 + 4) 24 [(0, .ref 70), (1, .int (0 : Int32)), (2, .int v0)] [] G U = qm_run pm_m big m_200 n0 30 [(0, .ref 70), (1, .int (0 : Int32)), (2, .int v0)] [.int (0 : Int32), .int v0, .ref 82] G U := rfl
theorem sg_ag_42 (big : Nat → List Value → qM → qW → qR) (n0 : Nat) (G : qM) (U : qW) (v0 : Int32) : qm_run pm_m big m_200 (n0 + 4) 31 [(0, .ref 70), (1, .int (0 : Int32)), (2, .int v0)] [] G U = qm_run pm_m big m_200 n0 37 [(0, .ref 70), (1, .int (0 : Int32)), (2, .int v0)] [.int (0 : Int32), .int v0, .ref 83] G U := rfl
theorem sg_ag_43 (big : Nat → List Value → qM → qW → qR) (n0 : Nat) (G : qM) (U : qW) (v0 : Int32) : qm_run pm_m big m_200 (n0 + 2) 38 [(0, .ref 70), (1, .int (0 : Int32)), (2, .int v0)] [] G U = qm_run pm_m big m_200 n0 40 [(0, .ref 70), (1, .int (0 : Int32)), (2, .int v0), (3, .int (0 : Int32))] [] G U := rfl
theorem sg_ag_44 (big : Nat → List Value → qM → qW → qR) (n0 : Nat) (G : qM) (U : qW) (v0 : Int32) (v1 : Int32) : qm_run pm_m big m_200 (n0 + 2) 97 [(0, .ref 70), (1, .int (0 : Int32)), (2, .int v0), (3, .int v1)] [] G U = qm_run pm_m big m_200 n0 99 [(0, .ref 70), (1, .int (0 : Int32)), (2, .int v0), (3, .int (0 : Int32))] [] G U := rfl
theorem sg_ag_45 (big : Nat → List Value → qM → qW → qR) (n0 : Nat) (G : qM) (U : qW) (v0 : Int32) (v1 : Int32) : qm_run pm_m big m_200 (n0 + 1) 152 [(0, .ref 70), (1, .int (0 : Int32)), (2, .int v0), (3, .int v1)] [] G U = qm_run pm_m big m_200 n0 153 [(0, .ref 70), (1, .int (0 : Int32)), (2, .int v0), (3, .int v1)] [.ref 70] G U := rfl
theorem sg_ag_46 (big : Nat → List Value → qM → qW → qR) (n0 : Nat) (G : qM) (U : qW) (v0 : Int32) (v1 : Int32) (v2 : Int32) : qm_run pm_m big m_200 (n0 + 3) 156 [(0, .ref 70), (1, .int (0 : Int32)), (2, .int v0), (3, .int v1)] [.int v2] G U = qm_run pm_m big m_200 n0 18 [(0, .ref 70), (1, .int (0 : Int32)), (2, .int (v0 + (1 : Int32))), (3, .int v1)] [] G U := rfl
theorem sg_ag_47 (big : Nat → List Value → qM → qW → qR) (n0 : Nat) (G : qM) (U : qW) : qm_run pm_m big m_200 (n0 + 4) 0 [(0, .ref 70), (1, .int (0 : Int32))] [] G U = qm_run pm_m big m_200 n0 4 [(0, .ref 70), (1, .int (0 : Int32))] [.long (1 : Int64), .long (0 : Int64), .long (0 : Int64)] G U := rfl
theorem sg_ag_48 (big : Nat → List Value → qM → qW → qR) (n0 : Nat) (G : qM) (U : qW) : qm_run pm_m big m_200 (n0 + 2) 7 [(0, .ref 70), (1, .int (0 : Int32))] [.int (1 : Int32)] G U = qm_run pm_m big m_200 n0 13 [(0, .ref 70), (1, .int (0 : Int32))] [.ref 70] G U := rfl
theorem sg_ag_49 (big : Nat → List Value → qM → qW → qR) (n0 : Nat) (G : qM) (U : qW) : qm_run pm_m big m_200 (n0 + 2) 16 [(0, .ref 70), (1, .int (0 : Int32))] [] G U = qm_run pm_m big m_200 n0 18 [(0, .ref 70), (1, .int (0 : Int32)), (2, .int (0 : Int32))] [] G U := rfl
theorem sg_ag_50 (big : Nat → List Value → qM → qW → qR) (n0 : Nat) (G : qM) (U : qW) (v0 : Int32) (v1 : Int32) : qm_run pm_m big m_200 (n0 + 3) 40 [(0, .ref 70), (1, .int (1 : Int32)), (2, .int v0), (3, .int v1)] [] G U = qm_run pm_m big m_200 n0 45 [(0, .ref 70), (1, .int (1 : Int32)), (2, .int v0), (3, .int v1)] [.int (G 70 27), .int v1] G U := rfl
theorem sg_ag_51 (big : Nat → List Value → qM → qW → qR) (n0 : Nat) (G : qM) (U : qW) (v0 : Int32) (v1 : Int32) : qm_run pm_m big m_200 (n0 + 6) 48 [(0, .ref 70), (1, .int (1 : Int32)), (2, .int v0), (3, .int v1)] [] G U = qm_run pm_m big m_200 n0 58 [(0, .ref 70), (1, .int (1 : Int32)), (2, .int v0), (3, .int v1)] [.int v0, .ref 82, .int v0, .ref 82] G U := rfl
theorem sg_ag_52 (big : Nat → List Value → qM → qW → qR) (n0 : Nat) (G : qM) (U : qW) (v0 : Int32) (v1 : Int32) (v2 : Int32) (v3 : Int32) : qm_run pm_m big m_200 (n0 + 5) 59 [(0, .ref 70), (1, .int (1 : Int32)), (2, .int v0), (3, .int v1)] [.int v3, .int v2, .ref 82] G U = qm_run pm_m big m_200 n0 67 [(0, .ref 70), (1, .int (1 : Int32)), (2, .int v0), (3, .int v1)] [.int v1, .ref 75, .int (v3 * (25 : Int32)), .int v2, .ref 82] G U := rfl
theorem sg_ag_53 (big : Nat → List Value → qM → qW → qR) (n0 : Nat) (G : qM) (U : qW) (v0 : Int32) (v1 : Int32) (v2 : Int32) (v3 : Int32) (v4 : Int32) : qm_run pm_m big m_200 (n0 + 1) 68 [(0, .ref 70), (1, .int (1 : Int32)), (2, .int v0), (3, .int v1)] [.int v4, .int v3, .int v2, .ref 82] G U = qm_run pm_m big m_200 n0 69 [(0, .ref 70), (1, .int (1 : Int32)), (2, .int v0), (3, .int v1)] [.int (v3 + v4), .int v2, .ref 82] G U := rfl
theorem sg_ag_54 (big : Nat → List Value → qM → qW → qR) (n0 : Nat) (G : qM) (U : qW) (v0 : Int32) (v1 : Int32) : qm_run pm_m big m_200 (n0 + 6) 70 [(0, .ref 70), (1, .int (1 : Int32)), (2, .int v0), (3, .int v1)] [] G U = qm_run pm_m big m_200 n0 80 [(0, .ref 70), (1, .int (1 : Int32)), (2, .int v0), (3, .int v1)] [.int v0, .ref 83, .int v0, .ref 83] G U := rfl
theorem sg_ag_55 (big : Nat → List Value → qM → qW → qR) (n0 : Nat) (G : qM) (U : qW) (v0 : Int32) (v1 : Int32) (v2 : Int32) (v3 : Int32) : qm_run pm_m big m_200 (n0 + 5) 81 [(0, .ref 70), (1, .int (1 : Int32)), (2, .int v0), (3, .int v1)] [.int v3, .int v2, .ref 83] G U = qm_run pm_m big m_200 n0 88 [(0, .ref 70), (1, .int (1 : Int32)), (2, .int v0), (3, .int v1)] [.int v1, .ref 76, .int (v3 * (4 : Int32)), .int v2, .ref 83] G U := rfl
theorem sg_ag_56 (big : Nat → List Value → qM → qW → qR) (n0 : Nat) (G : qM) (U : qW) (v0 : Int32) (v1 : Int32) (v2 : Int32) (v3 : Int32) (v4 : Int32) : qm_run pm_m big m_200 (n0 + 1) 89 [(0, .ref 70), (1, .int (1 : Int32)), (2, .int v0), (3, .int v1)] [.int v4, .int v3, .int v2, .ref 83] G U = qm_run pm_m big m_200 n0 90 [(0, .ref 70), (1, .int (1 : Int32)), (2, .int v0), (3, .int v1)] [.int (v3 + v4), .int v2, .ref 83] G U := rfl
theorem sg_ag_57 (big : Nat → List Value → qM → qW → qR) (n0 : Nat) (G : qM) (U : qW) (v0 : Int32) (v1 : Int32) : qm_run pm_m big m_200 (n0 + 2) 91 [(0, .ref 70), (1, .int (1 : Int32)), (2, .int v0), (3, .int v1)] [] G U = qm_run pm_m big m_200 n0 40 [(0, .ref 70), (1, .int (1 : Int32)), (2, .int v0), (3, .int (v1 + (1 : Int32)))] [] G U := rfl
theorem sg_ag_58 (big : Nat → List Value → qM → qW → qR) (n0 : Nat) (G : qM) (U : qW) (v0 : Int32) (v1 : Int32) : qm_run pm_m big m_200 (n0 + 2) 99 [(0, .ref 70), (1, .int (1 : Int32)), (2, .int v0), (3, .int v1)] [] G U = qm_run pm_m big m_200 n0 101 [(0, .ref 70), (1, .int (1 : Int32)), (2, .int v0), (3, .int v1)] [.int v0, .int v1] G U := rfl
theorem sg_ag_59 (big : Nat → List Value → qM → qW → qR) (n0 : Nat) (G : qM) (U : qW) (v0 : Int32) (v1 : Int32) : qm_run pm_m big m_200 (n0 + 3) 104 [(0, .ref 70), (1, .int (1 : Int32)), (2, .int v0), (3, .int v1)] [] G U = qm_run pm_m big m_200 n0 109 [(0, .ref 70), (1, .int (1 : Int32)), (2, .int v0), (3, .int v1)] [.int v1, .ref 82] G U := rfl
theorem sg_ag_60 (big : Nat → List Value → qM → qW → qR) (n0 : Nat) (G : qM) (U : qW) (v0 : Int32) (v1 : Int32) (v2 : Int32) : qm_run pm_m big m_200 (n0 + 3) 110 [(0, .ref 70), (1, .int (1 : Int32)), (2, .int v0), (3, .int v1)] [.int v2] G U = qm_run pm_m big m_200 n0 115 [(0, .ref 70), (1, .int (1 : Int32)), (2, .int v0), (3, .int v1)] [.int v0, .ref 82, .int v2] G U := rfl
theorem sg_ag_61 (big : Nat → List Value → qM → qW → qR) (n0 : Nat) (G : qM) (U : qW) (v0 : Int32) (v1 : Int32) : qm_run pm_m big m_200 (n0 + 3) 119 [(0, .ref 70), (1, .int (1 : Int32)), (2, .int v0), (3, .int v1)] [] G U = qm_run pm_m big m_200 n0 124 [(0, .ref 70), (1, .int (1 : Int32)), (2, .int v0), (3, .int v1)] [.int v1, .ref 83] G U := rfl
theorem sg_ag_62 (big : Nat → List Value → qM → qW → qR) (n0 : Nat) (G : qM) (U : qW) (v0 : Int32) (v1 : Int32) (v2 : Int32) : qm_run pm_m big m_200 (n0 + 3) 125 [(0, .ref 70), (1, .int (1 : Int32)), (2, .int v0), (3, .int v1)] [.int v2] G U = qm_run pm_m big m_200 n0 130 [(0, .ref 70), (1, .int (1 : Int32)), (2, .int v0), (3, .int v1)] [.int v0, .ref 83, .int v2] G U := rfl
theorem sg_ag_63 (big : Nat → List Value → qM → qW → qR) (n0 : Nat) (G : qM) (U : qW) (v0 : Int32) (v1 : Int32) : qm_run pm_m big m_200 (n0 + 2) 146 [(0, .ref 70), (1, .int (1 : Int32)), (2, .int v0), (3, .int v1)] [] G U = qm_run pm_m big m_200 n0 99 [(0, .ref 70), (1, .int (1 : Int32)), (2, .int v0), (3, .int (v1 + (1 : Int32)))] [] G U := rfl
theorem sg_ag_64 (big : Nat → List Value → qM → qW → qR) (n0 : Nat) (G : qM) (U : qW) (v0 : Int32) : qm_run pm_m big m_200 (n0 + 2) 18 [(0, .ref 70), (1, .int (1 : Int32)), (2, .int v0)] [] G U = qm_run pm_m big m_200 n0 21 [(0, .ref 70), (1, .int (1 : Int32)), (2, .int v0)] [.int (60 : Int32), .int v0] G U := rfl
theorem sg_ag_65 (big : Nat → List Value → qM → qW → qR) (n0 : Nat) (G : qM) (U : qW) (v0 : Int32) : qm_run pm_m big m_200 (n0 + 4) 24 [(0, .ref 70), (1, .int (1 : Int32)), (2, .int v0)] [] G U = qm_run pm_m big m_200 n0 30 [(0, .ref 70), (1, .int (1 : Int32)), (2, .int v0)] [.int (0 : Int32), .int v0, .ref 82] G U := rfl
theorem sg_ag_66 (big : Nat → List Value → qM → qW → qR) (n0 : Nat) (G : qM) (U : qW) (v0 : Int32) : qm_run pm_m big m_200 (n0 + 4) 31 [(0, .ref 70), (1, .int (1 : Int32)), (2, .int v0)] [] G U = qm_run pm_m big m_200 n0 37 [(0, .ref 70), (1, .int (1 : Int32)), (2, .int v0)] [.int (0 : Int32), .int v0, .ref 83] G U := rfl
theorem sg_ag_67 (big : Nat → List Value → qM → qW → qR) (n0 : Nat) (G : qM) (U : qW) (v0 : Int32) : qm_run pm_m big m_200 (n0 + 2) 38 [(0, .ref 70), (1, .int (1 : Int32)), (2, .int v0)] [] G U = qm_run pm_m big m_200 n0 40 [(0, .ref 70), (1, .int (1 : Int32)), (2, .int v0), (3, .int (0 : Int32))] [] G U := rfl
theorem sg_ag_68 (big : Nat → List Value → qM → qW → qR) (n0 : Nat) (G : qM) (U : qW) (v0 : Int32) (v1 : Int32) : qm_run pm_m big m_200 (n0 + 2) 97 [(0, .ref 70), (1, .int (1 : Int32)), (2, .int v0), (3, .int v1)] [] G U = qm_run pm_m big m_200 n0 99 [(0, .ref 70), (1, .int (1 : Int32)), (2, .int v0), (3, .int (0 : Int32))] [] G U := rfl
theorem sg_ag_69 (big : Nat → List Value → qM → qW → qR) (n0 : Nat) (G : qM) (U : qW) (v0 : Int32) (v1 : Int32) : qm_run pm_m big m_200 (n0 + 1) 152 [(0, .ref 70), (1, .int (1 : Int32)), (2, .int v0), (3, .int v1)] [] G U = qm_run pm_m big m_200 n0 153 [(0, .ref 70), (1, .int (1 : Int32)), (2, .int v0), (3, .int v1)] [.ref 70] G U := rfl
theorem sg_ag_70 (big : Nat → List Value → qM → qW → qR) (n0 : Nat) (G : qM) (U : qW) (v0 : Int32) (v1 : Int32) (v2 : Int32) : qm_run pm_m big m_200 (n0 + 3) 156 [(0, .ref 70), (1, .int (1 : Int32)), (2, .int v0), (3, .int v1)] [.int v2] G U = qm_run pm_m big m_200 n0 18 [(0, .ref 70), (1, .int (1 : Int32)), (2, .int (v0 + (1 : Int32))), (3, .int v1)] [] G U := rfl
theorem sg_ag_71 (big : Nat → List Value → qM → qW → qR) (n0 : Nat) (G : qM) (U : qW) : qm_run pm_m big m_200 (n0 + 4) 0 [(0, .ref 70), (1, .int (1 : Int32))] [] G U = qm_run pm_m big m_200 n0 4 [(0, .ref 70), (1, .int (1 : Int32))] [.long (1 : Int64), .long (0 : Int64), .long (1 : Int64)] G U := rfl
theorem sg_ag_72 (big : Nat → List Value → qM → qW → qR) (n0 : Nat) (G : qM) (U : qW) : qm_run pm_m big m_200 (n0 + 2) 7 [(0, .ref 70), (1, .int (1 : Int32))] [.int (1 : Int32)] G U = qm_run pm_m big m_200 n0 13 [(0, .ref 70), (1, .int (1 : Int32))] [.ref 70] G U := rfl
theorem sg_ag_73 (big : Nat → List Value → qM → qW → qR) (n0 : Nat) (G : qM) (U : qW) : qm_run pm_m big m_200 (n0 + 2) 16 [(0, .ref 70), (1, .int (1 : Int32))] [] G U = qm_run pm_m big m_200 n0 18 [(0, .ref 70), (1, .int (1 : Int32)), (2, .int (0 : Int32))] [] G U := rfl
theorem mk_l (g : qM) (u : qW) {n : Nat} (hn : g 35 3 = Int32.ofNat n) (h6 : n ≤ 6) : ∀ k i a, i + k = n → q_EV m_86 4 [(0, .ref 35), (1, .long a), (3, .int (Int32.ofNat i))] [] g u (fun R => R = (some (.long (s_mkf (g 36) (g 37) k i a)), g, u)) := by
  intro k
  induction k with
  | zero =>
    intro i a hi
    refine q_step 3 9 [(0, .ref 35), (1, .long a), (3, .int (Int32.ofNat i))] [.int (g 35 3), .int (Int32.ofNat i)] g u (fun big n0 => sg_ag_1 big n0 g u a (Int32.ofNat i)) ?_
    refine q_ic_ge rfl (fun (hc0 : (g 35 3) ≤ (Int32.ofNat i)) => ?_) (fun hc0 => absurd (show (g 35 3) ≤ (Int32.ofNat i) from by rw [hn]; exact (q_le (by omega) (by omega)).mpr (by omega)) hc0)
    refine q_ret 2 (some (.long a), g, u) (fun _ _ => rfl) ?_
    rfl
  | succ k ih =>
    intro i a hi
    refine q_step 3 9 [(0, .ref 35), (1, .long a), (3, .int (Int32.ofNat i))] [.int (g 35 3), .int (Int32.ofNat i)] g u (fun big n0 => sg_ag_1 big n0 g u a (Int32.ofNat i)) ?_
    refine q_ic_ge rfl (fun hc0 => absurd (show (g 35 3) ≤ (Int32.ofNat i) from hc0) (fun z => by rw [hn] at z; exact absurd ((q_le (by omega) (by omega)).mp z) (by omega))) (fun (hc0 : ¬ ((g 35 3) ≤ (Int32.ofNat i))) => ?_)
    refine q_step 6 22 [(0, .ref 35), (1, .long a), (3, .int (Int32.ofNat i))] [.int (Int32.ofNat i), .ref 36, .long (a * (128 : Int64))] g u (fun big n0 => sg_ag_2 big n0 g u a (Int32.ofNat i)) ?_
    refine q_iald (j := i) (q_ixn (by omega) (by omega)) rfl rfl ?_
    refine q_step 7 32 [(0, .ref 35), (1, .long a), (3, .int (Int32.ofNat i))] [.int (Int32.ofNat i), .ref 37, .long ((a * (128 : Int64)) + (Int32.toInt64 ((g 36 i) * (4 : Int32))))] g u (fun big n0 => sg_ag_3 big n0 g u a (Int32.ofNat i) (a * (128 : Int64)) (g 36 i)) ?_
    refine q_iald (j := i) (q_ixn (by omega) (by omega)) rfl rfl ?_
    refine q_step 5 4 [(0, .ref 35), (1, .long (((a * (128 : Int64)) + (Int32.toInt64 ((g 36 i) * (4 : Int32)))) + (Int32.toInt64 (g 37 i)))), (3, .int ((Int32.ofNat i) + (1 : Int32)))] [] g u (fun big n0 => sg_ag_4 big n0 g u a (Int32.ofNat i) ((a * (128 : Int64)) + (Int32.toInt64 ((g 36 i) * (4 : Int32)))) (g 37 i)) ?_
    rw [q_succ, s_mkf]
    exact ih (i + 1) _ (by omega)
theorem b_mark (g : qM) (u : qW) {n : Nat} (hn : g 35 3 = Int32.ofNat n) (h6 : n ≤ 6) : q_BS 86 [.ref 35] g u (some (.long (s_mkf (g 36) (g 37) n 0 0)), g, u) := by
  refine q_bx (mm := m_86) rfl (Nat.le_of_ble_eq_true rfl) rfl ?_
  refine q_step 4 4 [(0, .ref 35), (1, .long (0 : Int64)), (3, .int (0 : Int32))] [] g u (fun big n0 => sg_ag_5 big n0 g u) ?_
  exact mk_l g u hn h6 n 0 0 (by omega)
theorem c_mark {n W H : Nat} {g r : qM} (u : qW) (h : w_ok n W H r) (hc : w_cs 35 n g r) : q_BS 86 [.ref 35] g u (some (.long (f_mk n r)), g, u) := by
  have e := b_mark g u (n := n) (hc.1.1.trans h.2.1) h.1.2.2.2.2
  rw [show s_mkf (g 36) (g 37) n 0 0 = f_mk n r from s_mkf_cg n 0 0 (fun j _ hj => ⟨(hc.2.2 j (by omega)).1, (hc.2.2 j (by omega)).2.1⟩)] at e
  exact e
theorem fr_in (g : qM) (u : qW) {Mk : Nat → Int64} {i : Nat} (hi : i ≤ 60) (hu : ∀ j, j < i → u j = Mk j) {Q : Option Value × qM × qW → Prop} : ∀ k j, j + k = i → (f_in Mk i k j = none → q_EV m_85 63 [(0, .ref 34), (1, .ref 20), (2, .int (Int32.ofNat i)), (3, .long (Mk i)), (5, .int (Int32.ofNat i))] [] g u Q) → (∀ x, f_in Mk i k j = some x → Q (some (.int (Int32.ofNat x * (1024 : Int32) + Int32.ofNat i - Int32.ofNat x)), g, u)) → q_EV m_85 27 [(0, .ref 34), (1, .ref 20), (2, .int (Int32.ofNat i)), (3, .long (Mk i)), (5, .int (Int32.ofNat j))] [] g u Q := by
  intro k
  induction k with
  | zero =>
    intro j hj hk hs
    have e : j = i := by omega
    subst e
    refine q_step 2 30 [(0, .ref 34), (1, .ref 20), (2, .int (Int32.ofNat j)), (3, .long (Mk j)), (5, .int (Int32.ofNat j))] [.int (Int32.ofNat j), .int (Int32.ofNat j)] g u (fun big n0 => sg_ag_6 big n0 g u (Int32.ofNat j) (Mk j) (Int32.ofNat j)) ?_
    refine q_ic_ge rfl (fun (hc0 : (Int32.ofNat j) ≤ (Int32.ofNat j)) => ?_) (fun hc0 => absurd (show (Int32.ofNat j) ≤ (Int32.ofNat j) from (q_le (by omega) (by omega)).mpr (by omega)) hc0)
    exact hk rfl
  | succ k ih =>
    intro j hj hk hs
    refine q_step 2 30 [(0, .ref 34), (1, .ref 20), (2, .int (Int32.ofNat i)), (3, .long (Mk i)), (5, .int (Int32.ofNat j))] [.int (Int32.ofNat i), .int (Int32.ofNat j)] g u (fun big n0 => sg_ag_6 big n0 g u (Int32.ofNat i) (Mk i) (Int32.ofNat j)) ?_
    refine q_ic_ge rfl (fun hc0 => absurd (show (Int32.ofNat i) ≤ (Int32.ofNat j) from hc0) (fun z => absurd ((q_le (by omega) (by omega)).mp z) (by omega))) (fun (hc0 : ¬ ((Int32.ofNat i) ≤ (Int32.ofNat j))) => ?_)
    refine q_step 3 39 [(0, .ref 34), (1, .ref 20), (2, .int (Int32.ofNat i)), (3, .long (Mk i)), (5, .int (Int32.ofNat j))] [.int (Int32.ofNat j), .ref 43] g u (fun big n0 => sg_ag_7 big n0 g u (Int32.ofNat i) (Mk i) (Int32.ofNat j)) ?_
    refine q_lald (j := j) (q_ixn (by omega) (by omega)) rfl rfl ?_
    refine q_step 2 42 [(0, .ref 34), (1, .ref 20), (2, .int (Int32.ofNat i)), (3, .long (Mk i)), (5, .int (Int32.ofNat j))] [.int (lg_cmp (u j) (Mk i))] g u (fun big n0 => sg_ag_8 big n0 g u (Int32.ofNat i) (Mk i) (Int32.ofNat j) (u j)) ?_
    refine q_if_ne rfl (fun (hc1 : (lg_cmp (u j) (Mk i)) = 0) => ?_) (fun (hc1 : ¬ ((lg_cmp (u j) (Mk i)) = 0)) => ?_)
    · refine q_ret 8 (some (.int ((((Int32.ofNat j) * (1024 : Int32)) + (Int32.ofNat i)) - (Int32.ofNat j))), g, u) (fun _ _ => rfl) ?_
      exact hs j (by rw [f_in, if_pos ((hu j (by omega)).symm.trans (s_lcmp0.mp hc1))])
    · refine q_step 2 27 [(0, .ref 34), (1, .ref 20), (2, .int (Int32.ofNat i)), (3, .long (Mk i)), (5, .int ((Int32.ofNat j) + (1 : Int32)))] [] g u (fun big n0 => sg_ag_9 big n0 g u (Int32.ofNat i) (Mk i) (Int32.ofNat j)) ?_
      have e : f_in Mk i (k + 1) j = f_in Mk i k (j + 1) := by rw [f_in, if_neg (fun z => hc1 (s_lcmp0.mpr ((hu j (by omega)).trans z)))]
      rw [q_succ]
      exact ih (j + 1) (by omega) (fun z => hk (e.trans z)) (fun x z => hs x (e.trans z))
theorem fr_ou {n W H : Nat} {r : qM} (h : w_ok n W H r) : ∀ k i g u, i + k = 61 → w_cs 35 n g (s_rit n i r) → (∀ j, j < i → u j = f_mk n (s_rit n j r)) → q_EV m_85 10 [(0, .ref 34), (1, .ref 20), (2, .int (Int32.ofNat i))] [] g u (w_po w_fc g (.int (f_enc (f_ou (fun j => f_mk n (s_rit n j r)) k i)))) := by
  intro k
  induction k with
  | zero =>
    intro i g u hi hc hu
    refine q_step 2 13 [(0, .ref 34), (1, .ref 20), (2, .int (Int32.ofNat i))] [.int (60 : Int32), .int (Int32.ofNat i)] g u (fun big n0 => sg_ag_10 big n0 g u (Int32.ofNat i)) ?_
    refine q_ic_gt rfl (fun (hc0 : (60 : Int32) < (Int32.ofNat i)) => ?_) (fun hc0 => absurd (show (60 : Int32) < (Int32.ofNat i) from by rw [show i = 61 by omega]; decide) hc0)
    refine q_ret 2 (some (.int (Int8.toInt32 (Int8.ofInt (-4)))), g, u) (fun _ _ => rfl) ?_
    exact ⟨g, u, rfl, w_fc_rfl g⟩
  | succ k ih =>
    intro i g u hi hc hu
    refine q_step 2 13 [(0, .ref 34), (1, .ref 20), (2, .int (Int32.ofNat i))] [.int (60 : Int32), .int (Int32.ofNat i)] g u (fun big n0 => sg_ag_10 big n0 g u (Int32.ofNat i)) ?_
    refine q_ic_gt rfl (fun hc0 => absurd (show (60 : Int32) < (Int32.ofNat i) from hc0) (fun z => by have z1 := (q_lt (i := 60) (j := i) (by omega) (by omega)).mp z; omega)) (fun (hc0 : ¬ ((60 : Int32) < (Int32.ofNat i))) => ?_)
    refine q_step 2 20 [(0, .ref 34), (1, .ref 20), (2, .int (Int32.ofNat i))] [.ref 35] g u (fun big n0 => sg_ag_11 big n0 g u (Int32.ofNat i)) ?_
    refine q_call (M2 := 86) (rest := []) (c_mark u (w_ok_rit i r h) hc) (fun _ _ => rfl) ?_
    refine q_step 3 27 [(0, .ref 34), (1, .ref 20), (2, .int (Int32.ofNat i)), (3, .long (f_mk n (s_rit n i r))), (5, .int (0 : Int32))] [] g u (fun big n0 => sg_ag_12 big n0 g u (Int32.ofNat i) (f_mk n (s_rit n i r))) ?_
    refine fr_in g u (Mk := (fun j => f_mk n (s_rit n j r))) (by omega) hu i 0 (by omega) (fun hz => ?_) (fun x hx => ?_)
    · refine q_step 4 69 [(0, .ref 34), (1, .ref 20), (2, .int (Int32.ofNat i)), (3, .long (f_mk n (s_rit n i r))), (5, .int (Int32.ofNat i))] [.long (f_mk n (s_rit n i r)), .int (Int32.ofNat i), .ref 43] g u (fun big n0 => sg_ag_13 big n0 g u (Int32.ofNat i) (f_mk n (s_rit n i r)) (Int32.ofNat i)) ?_
      refine q_last (j := i) (q_ixn (by omega) (by omega)) rfl rfl ?_
      refine q_step 4 78 [(0, .ref 34), (1, .ref 20), (2, .int (Int32.ofNat i)), (3, .long (f_mk n (s_rit n i r))), (5, .int (Int32.ofNat i))] [.ref 35, .ref 28] g (q_uw u i (f_mk n (s_rit n i r))) (fun big n0 => sg_ag_14 big n0 g (q_uw u i (f_mk n (s_rit n i r))) (Int32.ofNat i) (f_mk n (s_rit n i r)) (Int32.ofNat i)) ?_
      refine q_call (M2 := 68) (rest := []) (c_st35 (q_uw u i (f_mk n (s_rit n i r))) (w_ok_rit i r h) hc) (fun _ _ => rfl) ?_
      refine q_step 2 10 [(0, .ref 34), (1, .ref 20), (2, .int ((Int32.ofNat i) + (1 : Int32))), (3, .long (f_mk n (s_rit n i r))), (5, .int (Int32.ofNat i))] [] (s_step 35 n g) (q_uw u i (f_mk n (s_rit n i r))) (fun big n0 => sg_ag_15 big n0 (s_step 35 n g) (q_uw u i (f_mk n (s_rit n i r))) (Int32.ofNat i) (f_mk n (s_rit n i r)) (Int32.ofNat i)) ?_
      refine q_weak [(0, .ref 34), (1, .ref 20), (2, .int ((Int32.ofNat i) + (1 : Int32)))] (q_sub.cons rfl (q_sub.cons rfl (q_sub.cons rfl q_sub.nil))) ?_
      have w := w_step35 (w_ok_rit i r h) hc
      rw [q_succ]
      have e : f_ou (fun j => f_mk n (s_rit n j r)) (k + 1) i = f_ou (fun j => f_mk n (s_rit n j r)) k (i + 1) := by rw [f_ou, hz]
      refine q_EV.imp (ih (i + 1) (s_step 35 n g) _ (by omega) (by rw [← s_rit_add]; exact w.2.1) (fun j hj => ?_)) (fun R z => w_po_c s_step_35 (by rw [e]) z)
      unfold q_uw
      by_cases hji : j = i
      · rw [hji, Nat.beq_refl]
      · rw [show Nat.beq j i = false from by
          cases q : Nat.beq j i with
          | true => exact absurd (Nat.eq_of_beq_eq_true q) hji
          | false => rfl]
        exact hu j (by omega)
    · have hl := f_in_lt _ _ _ hx
      have e : f_ou (fun j => f_mk n (s_rit n j r)) (k + 1) i = some (x, i - x) := by rw [f_ou, hx]
      refine ⟨g, u, ?_, w_fc_rfl g⟩
      rw [e, show (1024 : Int32) = Int32.ofNat 1024 from rfl, q_mul, q_add, q_sb (by omega) (by omega), show x * 1024 + i - x = x * 1024 + (i - x) by omega]
      rfl
theorem c_fr85 {n W H : Nat} {g r : qM} (u : qW) (h : w_ok n W H r) (hc : w_cs 20 n g r) : w_BS w_fc 85 [.ref 34, .ref 20] g u (.int (f_enc (f_ag n r))) := by
  refine w_bs (mm := m_85) rfl (Nat.le_of_ble_eq_true rfl) rfl ?_
  have h5 : n ≤ 6 := h.1.2.2.2.2
  have hy := w_cpy (a := 35) (b := 20) h5 (by omega) hc
  refine q_step 3 5 [(0, .ref 34), (1, .ref 20)] [.ref 20, .ref 35] g u (fun big n0 => sg_ag_16 big n0 g u) ?_
  refine q_call (M2 := 41) (rest := []) (b_cpy35_20 _ _) (fun _ _ => rfl) ?_
  refine q_step 2 10 [(0, .ref 34), (1, .ref 20), (2, .int (0 : Int32))] [] (s_cpy 35 20 g) u (fun big n0 => sg_ag_17 big n0 (s_cpy 35 20 g) u) ?_
  exact q_EV.imp (fr_ou h 61 0 (s_cpy 35 20 g) u (by omega) hy (fun j hj => by omega)) (fun R z => w_po_c w_cpy_fc rfl z)
def d_upper (x : Int32) (g : qM) : Int32 := (x / (1024 : Int32))
theorem b_upper (x : Int32) (g : qM) (u : qW) : q_BS 87 [.int x] g u (some (.int (d_upper x g)), g, u) := by
  refine q_bx (mm := m_87) rfl (Nat.le_of_ble_eq_true rfl) rfl ?_
  refine q_ret 4 (some (.int (x / (1024 : Int32))), g, u) (fun _ _ => rfl) ?_
  unfold d_upper
  rfl
def d_lower (x : Int32) (g : qM) : Int32 := (x - x / (1024 : Int32) * (1024 : Int32))
theorem b_lower (x : Int32) (g : qM) (u : qW) : q_BS 88 [.int x] g u (some (.int (d_lower x g)), g, u) := by
  refine q_bx (mm := m_88) rfl (Nat.le_of_ble_eq_true rfl) rfl ?_
  refine q_ret 4 (some (.int (x - x / (1024 : Int32) * (1024 : Int32))), g, u) (fun _ _ => rfl) ?_
  unfold d_lower
  rfl
theorem b_up {a b : Nat} (g : qM) (u : qW) (ha : a < 900) (hb : b < 1024) : q_BS 87 [.int (Int32.ofNat (a * 1024 + b))] g u (some (.int (Int32.ofNat a)), g, u) := by
  have e := b_upper (Int32.ofNat (a * 1024 + b)) g u
  rw [show d_upper (Int32.ofNat (a * 1024 + b)) g = Int32.ofNat a from by
    show Int32.ofNat (a * 1024 + b) / Int32.ofNat 1024 = _
    rw [q_div (by omega) (by omega)]
    congr 1
    omega] at e
  exact e
theorem b_lo {a b : Nat} (g : qM) (u : qW) (ha : a < 900) (hb : b < 1024) : q_BS 88 [.int (Int32.ofNat (a * 1024 + b))] g u (some (.int (Int32.ofNat b)), g, u) := by
  have e := b_lower (Int32.ofNat (a * 1024 + b)) g u
  rw [show d_lower (Int32.ofNat (a * 1024 + b)) g = Int32.ofNat b from by
    show Int32.ofNat (a * 1024 + b) - Int32.ofNat (a * 1024 + b) / Int32.ofNat 1024 * Int32.ofNat 1024 = _
    rw [q_rem (by omega) (by omega)]
    congr 1
    omega] at e
  exact e
theorem c_again0 {n W H : Nat} {g r : qM} (u : qW) (h : w_ok n W H r) (hc : w_cs 20 n g r) : w_BS w_fc 84 [.ref 8, .int (0 : Int32)] g u (.int (f_agw 0 (f_ag n r))) := by
  refine w_bs (mm := m_84) rfl (Nat.le_of_ble_eq_true rfl) rfl ?_
  obtain ⟨g1, u1, hb, hf⟩ := c_fr85 u h hc
  cases hF : f_ag n r with
  | none =>
    rw [hF] at hb
    refine q_step 1 1 [(0, .ref 8), (1, .int (0 : Int32))] [.int (0 : Int32)] g u (fun big n0 => sg_ag_18 big n0 g u) ?_
    refine q_call (M2 := 57) (rest := []) (show q_BS 57 [.int (0 : Int32)] g u (some (.int 1), g, u) from b_isHalf 0 g u) (fun _ _ => rfl) ?_
    refine q_step 5 17 [(0, .ref 8), (1, .int (0 : Int32))] [.ref 20, .ref 34] g u (fun big n0 => sg_ag_19 big n0 g u) ?_
    refine q_call (M2 := 85) (rest := []) (hb) (fun _ _ => rfl) ?_
    refine q_ret 6 (some (.int (Int8.toInt32 (Int8.ofInt (-4)))), g1, u1) (fun _ _ => rfl) ?_
    exact ⟨g1, u1, rfl, hf⟩
  | some z =>
    obtain ⟨a, b⟩ := z
    rw [hF] at hb
    have hl := f_ou_lt 61 0 a b hF
    refine q_step 1 1 [(0, .ref 8), (1, .int (0 : Int32))] [.int (0 : Int32)] g u (fun big n0 => sg_ag_18 big n0 g u) ?_
    refine q_call (M2 := 57) (rest := []) (show q_BS 57 [.int (0 : Int32)] g u (some (.int 1), g, u) from b_isHalf 0 g u) (fun _ _ => rfl) ?_
    refine q_step 5 17 [(0, .ref 8), (1, .int (0 : Int32))] [.ref 20, .ref 34] g u (fun big n0 => sg_ag_19 big n0 g u) ?_
    refine q_call (M2 := 85) (rest := []) (hb) (fun _ _ => rfl) ?_
    refine q_step 3 24 [(0, .ref 8), (1, .int (0 : Int32)), (2, .int (Int32.ofNat (a * 1024 + b)))] [.int (Int8.toInt32 (Int8.ofInt (-4))), .int (Int32.ofNat (a * 1024 + b))] g1 u1 (fun big n0 => sg_ag_20 big n0 g1 u1 (Int32.ofNat (a * 1024 + b))) ?_
    refine q_ic_ne rfl (fun hc0 => absurd (show (Int32.ofNat (a * 1024 + b)) = (Int8.toInt32 (Int8.ofInt (-4))) from hc0) (q_none_ne (by omega))) (fun (hc0 : ¬ ((Int32.ofNat (a * 1024 + b)) = (Int8.toInt32 (Int8.ofInt (-4))))) => ?_)
    refine q_step 3 35 [(0, .ref 8), (1, .int (0 : Int32)), (2, .int (Int32.ofNat (a * 1024 + b)))] [.int (Int32.ofNat (a * 1024 + b))] g1 u1 (fun big n0 => sg_ag_21 big n0 g1 u1 (Int32.ofNat (a * 1024 + b))) ?_
    refine q_call (M2 := 87) (rest := []) (b_up g1 u1 (by omega) (by omega)) (fun _ _ => rfl) ?_
    refine q_ret 2 (some (.int (Int32.ofNat a)), g1, u1) (fun _ _ => rfl) ?_
    exact ⟨g1, u1, rfl, hf⟩
theorem c_again1 {n W H : Nat} {g r : qM} (u : qW) (h : w_ok n W H r) (hc : w_cs 20 n g r) : w_BS w_fc 84 [.ref 8, .int (1 : Int32)] g u (.int (f_agw 1 (f_ag n r))) := by
  refine w_bs (mm := m_84) rfl (Nat.le_of_ble_eq_true rfl) rfl ?_
  obtain ⟨g1, u1, hb, hf⟩ := c_fr85 u h hc
  cases hF : f_ag n r with
  | none =>
    rw [hF] at hb
    refine q_step 1 1 [(0, .ref 8), (1, .int (1 : Int32))] [.int (1 : Int32)] g u (fun big n0 => sg_ag_22 big n0 g u) ?_
    refine q_call (M2 := 57) (rest := []) (show q_BS 57 [.int (1 : Int32)] g u (some (.int 1), g, u) from b_isHalf 1 g u) (fun _ _ => rfl) ?_
    refine q_step 5 17 [(0, .ref 8), (1, .int (1 : Int32))] [.ref 20, .ref 34] g u (fun big n0 => sg_ag_23 big n0 g u) ?_
    refine q_call (M2 := 85) (rest := []) (hb) (fun _ _ => rfl) ?_
    refine q_ret 6 (some (.int (Int8.toInt32 (Int8.ofInt (-4)))), g1, u1) (fun _ _ => rfl) ?_
    exact ⟨g1, u1, rfl, hf⟩
  | some z =>
    obtain ⟨a, b⟩ := z
    rw [hF] at hb
    have hl := f_ou_lt 61 0 a b hF
    refine q_step 1 1 [(0, .ref 8), (1, .int (1 : Int32))] [.int (1 : Int32)] g u (fun big n0 => sg_ag_22 big n0 g u) ?_
    refine q_call (M2 := 57) (rest := []) (show q_BS 57 [.int (1 : Int32)] g u (some (.int 1), g, u) from b_isHalf 1 g u) (fun _ _ => rfl) ?_
    refine q_step 5 17 [(0, .ref 8), (1, .int (1 : Int32))] [.ref 20, .ref 34] g u (fun big n0 => sg_ag_23 big n0 g u) ?_
    refine q_call (M2 := 85) (rest := []) (hb) (fun _ _ => rfl) ?_
    refine q_step 3 24 [(0, .ref 8), (1, .int (1 : Int32)), (2, .int (Int32.ofNat (a * 1024 + b)))] [.int (Int8.toInt32 (Int8.ofInt (-4))), .int (Int32.ofNat (a * 1024 + b))] g1 u1 (fun big n0 => sg_ag_24 big n0 g1 u1 (Int32.ofNat (a * 1024 + b))) ?_
    refine q_ic_ne rfl (fun hc0 => absurd (show (Int32.ofNat (a * 1024 + b)) = (Int8.toInt32 (Int8.ofInt (-4))) from hc0) (q_none_ne (by omega))) (fun (hc0 : ¬ ((Int32.ofNat (a * 1024 + b)) = (Int8.toInt32 (Int8.ofInt (-4))))) => ?_)
    refine q_step 3 42 [(0, .ref 8), (1, .int (1 : Int32)), (2, .int (Int32.ofNat (a * 1024 + b)))] [.int (Int32.ofNat (a * 1024 + b))] g1 u1 (fun big n0 => sg_ag_25 big n0 g1 u1 (Int32.ofNat (a * 1024 + b))) ?_
    refine q_call (M2 := 88) (rest := []) (b_lo g1 u1 (by omega) (by omega)) (fun _ _ => rfl) ?_
    refine q_ret 1 (some (.int (Int32.ofNat b)), g1, u1) (fun _ _ => rfl) ?_
    exact ⟨g1, u1, rfl, hf⟩
theorem ra1_0 (g : qM) (u : qW) {n i : Nat} (hi : i ≤ 60) (hn : g 70 27 = Int32.ofNat n) (h6 : n ≤ 6) {Q : Option Value × qM × qW → Prop} : ∀ k p x y, p + k = n → q_EV m_200 97 [(0, .ref 70), (1, .int (0 : Int32)), (2, .int (Int32.ofNat i)), (3, .int (Int32.ofNat n))] [] (s_agm g i (s_rwf 25 (g 75) k p x) (s_rwf 4 (g 76) k p y)) u Q → q_EV m_200 40 [(0, .ref 70), (1, .int (0 : Int32)), (2, .int (Int32.ofNat i)), (3, .int (Int32.ofNat p))] [] (s_agm g i x y) u Q := by
  intro k
  induction k with
  | zero =>
    intro p x y hp hk
    have e : p = n := by omega
    subst e
    refine q_step 3 45 [(0, .ref 70), (1, .int (0 : Int32)), (2, .int (Int32.ofNat i)), (3, .int (Int32.ofNat p))] [.int (g 70 27), .int (Int32.ofNat p)] (s_agm g i x y) u (fun big n0 => sg_ag_26 big n0 (s_agm g i x y) u (Int32.ofNat i) (Int32.ofNat p)) ?_
    refine q_ic_ge rfl (fun (hc0 : (g 70 27) ≤ (Int32.ofNat p)) => ?_) (fun hc0 => absurd (show (g 70 27) ≤ (Int32.ofNat p) from by rw [hn]; exact (q_le (by omega) (by omega)).mpr (by omega)) hc0)
    exact hk
  | succ k ih =>
    intro p x y hp hk
    refine q_step 3 45 [(0, .ref 70), (1, .int (0 : Int32)), (2, .int (Int32.ofNat i)), (3, .int (Int32.ofNat p))] [.int (g 70 27), .int (Int32.ofNat p)] (s_agm g i x y) u (fun big n0 => sg_ag_26 big n0 (s_agm g i x y) u (Int32.ofNat i) (Int32.ofNat p)) ?_
    refine q_ic_ge rfl (fun hc0 => absurd (show (g 70 27) ≤ (Int32.ofNat p) from hc0) (fun z => by rw [hn] at z; exact absurd ((q_le (by omega) (by omega)).mp z) (by omega))) (fun (hc0 : ¬ ((g 70 27) ≤ (Int32.ofNat p))) => ?_)
    refine q_step 6 58 [(0, .ref 70), (1, .int (0 : Int32)), (2, .int (Int32.ofNat i)), (3, .int (Int32.ofNat p))] [.int (Int32.ofNat i), .ref 82, .int (Int32.ofNat i), .ref 82] (s_agm g i x y) u (fun big n0 => sg_ag_27 big n0 (s_agm g i x y) u (Int32.ofNat i) (Int32.ofNat p)) ?_
    refine q_iald (j := i) (q_ixn (by omega) (by omega)) rfl rfl ?_
    refine q_step 5 67 [(0, .ref 70), (1, .int (0 : Int32)), (2, .int (Int32.ofNat i)), (3, .int (Int32.ofNat p))] [.int (Int32.ofNat p), .ref 75, .int (((s_agm g i x y) 82 i) * (25 : Int32)), .int (Int32.ofNat i), .ref 82] (s_agm g i x y) u (fun big n0 => sg_ag_28 big n0 (s_agm g i x y) u (Int32.ofNat i) (Int32.ofNat p) (Int32.ofNat i) ((s_agm g i x y) 82 i)) ?_
    refine q_iald (j := p) (q_ixn (by omega) (by omega)) rfl rfl ?_
    refine q_step 1 69 [(0, .ref 70), (1, .int (0 : Int32)), (2, .int (Int32.ofNat i)), (3, .int (Int32.ofNat p))] [.int ((((s_agm g i x y) 82 i) * (25 : Int32)) + (g 75 p)), .int (Int32.ofNat i), .ref 82] (s_agm g i x y) u (fun big n0 => sg_ag_29 big n0 (s_agm g i x y) u (Int32.ofNat i) (Int32.ofNat p) (Int32.ofNat i) (((s_agm g i x y) 82 i) * (25 : Int32)) (g 75 p)) ?_
    refine q_iast (j := i) (q_ixn (by omega) (by omega)) rfl rfl ?_
    refine q_step 6 80 [(0, .ref 70), (1, .int (0 : Int32)), (2, .int (Int32.ofNat i)), (3, .int (Int32.ofNat p))] [.int (Int32.ofNat i), .ref 83, .int (Int32.ofNat i), .ref 83] (q_up (s_agm g i x y) 82 i ((((s_agm g i x y) 82 i) * (25 : Int32)) + (g 75 p))) u (fun big n0 => sg_ag_30 big n0 (q_up (s_agm g i x y) 82 i ((((s_agm g i x y) 82 i) * (25 : Int32)) + (g 75 p))) u (Int32.ofNat i) (Int32.ofNat p)) ?_
    refine q_iald (j := i) (q_ixn (by omega) (by omega)) rfl rfl ?_
    refine q_step 5 88 [(0, .ref 70), (1, .int (0 : Int32)), (2, .int (Int32.ofNat i)), (3, .int (Int32.ofNat p))] [.int (Int32.ofNat p), .ref 76, .int (((s_agm g i x y) 83 i) * (4 : Int32)), .int (Int32.ofNat i), .ref 83] (q_up (s_agm g i x y) 82 i ((((s_agm g i x y) 82 i) * (25 : Int32)) + (g 75 p))) u (fun big n0 => sg_ag_31 big n0 (q_up (s_agm g i x y) 82 i ((((s_agm g i x y) 82 i) * (25 : Int32)) + (g 75 p))) u (Int32.ofNat i) (Int32.ofNat p) (Int32.ofNat i) ((s_agm g i x y) 83 i)) ?_
    refine q_iald (j := p) (q_ixn (by omega) (by omega)) rfl rfl ?_
    refine q_step 1 90 [(0, .ref 70), (1, .int (0 : Int32)), (2, .int (Int32.ofNat i)), (3, .int (Int32.ofNat p))] [.int ((((s_agm g i x y) 83 i) * (4 : Int32)) + (g 76 p)), .int (Int32.ofNat i), .ref 83] (q_up (s_agm g i x y) 82 i ((((s_agm g i x y) 82 i) * (25 : Int32)) + (g 75 p))) u (fun big n0 => sg_ag_32 big n0 (q_up (s_agm g i x y) 82 i ((((s_agm g i x y) 82 i) * (25 : Int32)) + (g 75 p))) u (Int32.ofNat i) (Int32.ofNat p) (Int32.ofNat i) (((s_agm g i x y) 83 i) * (4 : Int32)) (g 76 p)) ?_
    refine q_iast (j := i) (q_ixn (by omega) (by omega)) rfl rfl ?_
    refine q_step 2 40 [(0, .ref 70), (1, .int (0 : Int32)), (2, .int (Int32.ofNat i)), (3, .int ((Int32.ofNat p) + (1 : Int32)))] [] (q_up (q_up (s_agm g i x y) 82 i ((((s_agm g i x y) 82 i) * (25 : Int32)) + (g 75 p))) 83 i ((((s_agm g i x y) 83 i) * (4 : Int32)) + (g 76 p))) u (fun big n0 => sg_ag_33 big n0 (q_up (q_up (s_agm g i x y) 82 i ((((s_agm g i x y) 82 i) * (25 : Int32)) + (g 75 p))) 83 i ((((s_agm g i x y) 83 i) * (4 : Int32)) + (g 76 p))) u (Int32.ofNat i) (Int32.ofNat p)) ?_
    rw [q_succ, show (q_up (q_up (s_agm g i x y) 82 i ((((s_agm g i x y) 82 i) * (25 : Int32)) + (g 75 p))) 83 i ((((s_agm g i x y) 83 i) * (4 : Int32)) + (g 76 p))) = s_agm g i (x * (25 : Int32) + g 75 p) (y * (4 : Int32) + g 76 p) from by
      rw [s_agm_x, s_agm_y]
      exact s_agm_s]
    exact ih (p + 1) _ _ (by omega) hk
theorem ra2_0 (g : qM) (u : qW) {Mk : Nat → Int64} {i : Nat} (hi : i ≤ 60) (hm : ∀ j, j < i → ((g 82 j = g 82 i ∧ g 83 j = g 83 i) ↔ Mk j = Mk i)) {Q : Option Value × qM × qW → Prop} : ∀ k j, j + k = i → (f_in Mk i k j = none → q_EV m_200 152 [(0, .ref 70), (1, .int (0 : Int32)), (2, .int (Int32.ofNat i)), (3, .int (Int32.ofNat i))] [] g u Q) → (∀ x, f_in Mk i k j = some x → Q (some (.int (Int32.ofNat x)), g, u)) → q_EV m_200 99 [(0, .ref 70), (1, .int (0 : Int32)), (2, .int (Int32.ofNat i)), (3, .int (Int32.ofNat j))] [] g u Q := by
  intro k
  induction k with
  | zero =>
    intro j hj hk hs
    have e : j = i := by omega
    subst e
    refine q_step 2 101 [(0, .ref 70), (1, .int (0 : Int32)), (2, .int (Int32.ofNat j)), (3, .int (Int32.ofNat j))] [.int (Int32.ofNat j), .int (Int32.ofNat j)] g u (fun big n0 => sg_ag_34 big n0 g u (Int32.ofNat j) (Int32.ofNat j)) ?_
    refine q_ic_ge rfl (fun (hc0 : (Int32.ofNat j) ≤ (Int32.ofNat j)) => ?_) (fun hc0 => absurd (show (Int32.ofNat j) ≤ (Int32.ofNat j) from (q_le (by omega) (by omega)).mpr (by omega)) hc0)
    exact hk rfl
  | succ k ih =>
    intro j hj hk hs
    refine q_step 2 101 [(0, .ref 70), (1, .int (0 : Int32)), (2, .int (Int32.ofNat i)), (3, .int (Int32.ofNat j))] [.int (Int32.ofNat i), .int (Int32.ofNat j)] g u (fun big n0 => sg_ag_34 big n0 g u (Int32.ofNat i) (Int32.ofNat j)) ?_
    refine q_ic_ge rfl (fun hc0 => absurd (show (Int32.ofNat i) ≤ (Int32.ofNat j) from hc0) (fun z => absurd ((q_le (by omega) (by omega)).mp z) (by omega))) (fun (hc0 : ¬ ((Int32.ofNat i) ≤ (Int32.ofNat j))) => ?_)
    refine q_step 3 109 [(0, .ref 70), (1, .int (0 : Int32)), (2, .int (Int32.ofNat i)), (3, .int (Int32.ofNat j))] [.int (Int32.ofNat j), .ref 82] g u (fun big n0 => sg_ag_35 big n0 g u (Int32.ofNat i) (Int32.ofNat j)) ?_
    refine q_iald (j := j) (q_ixn (by omega) (by omega)) rfl rfl ?_
    refine q_step 3 115 [(0, .ref 70), (1, .int (0 : Int32)), (2, .int (Int32.ofNat i)), (3, .int (Int32.ofNat j))] [.int (Int32.ofNat i), .ref 82, .int (g 82 j)] g u (fun big n0 => sg_ag_36 big n0 g u (Int32.ofNat i) (Int32.ofNat j) (g 82 j)) ?_
    refine q_iald (j := i) (q_ixn (by omega) (by omega)) rfl rfl ?_
    refine q_ic_ne rfl (fun (hc1 : (g 82 j) = (g 82 i)) => ?_) (fun (hc1 : ¬ ((g 82 j) = (g 82 i))) => ?_)
    · refine q_step 3 124 [(0, .ref 70), (1, .int (0 : Int32)), (2, .int (Int32.ofNat i)), (3, .int (Int32.ofNat j))] [.int (Int32.ofNat j), .ref 83] g u (fun big n0 => sg_ag_37 big n0 g u (Int32.ofNat i) (Int32.ofNat j)) ?_
      refine q_iald (j := j) (q_ixn (by omega) (by omega)) rfl rfl ?_
      refine q_step 3 130 [(0, .ref 70), (1, .int (0 : Int32)), (2, .int (Int32.ofNat i)), (3, .int (Int32.ofNat j))] [.int (Int32.ofNat i), .ref 83, .int (g 83 j)] g u (fun big n0 => sg_ag_38 big n0 g u (Int32.ofNat i) (Int32.ofNat j) (g 83 j)) ?_
      refine q_iald (j := i) (q_ixn (by omega) (by omega)) rfl rfl ?_
      refine q_ic_ne rfl (fun (hc2 : (g 83 j) = (g 83 i)) => ?_) (fun (hc2 : ¬ ((g 83 j) = (g 83 i))) => ?_)
      · refine q_ret 5 (some (.int (Int32.ofNat j)), g, u) (fun _ _ => rfl) ?_
        exact hs j (by rw [f_in, if_pos ((hm j (by omega)).mp ⟨hc1, hc2⟩)])
      · refine q_step 2 99 [(0, .ref 70), (1, .int (0 : Int32)), (2, .int (Int32.ofNat i)), (3, .int ((Int32.ofNat j) + (1 : Int32)))] [] g u (fun big n0 => sg_ag_39 big n0 g u (Int32.ofNat i) (Int32.ofNat j)) ?_
        have e : f_in Mk i (k + 1) j = f_in Mk i k (j + 1) := by rw [f_in, if_neg (fun z => hc2 ((hm j (by omega)).mpr z).2)]
        rw [q_succ]
        exact ih (j + 1) (by omega) (fun z => hk (e.trans z)) (fun x z => hs x (e.trans z))
    · refine q_step 2 99 [(0, .ref 70), (1, .int (0 : Int32)), (2, .int (Int32.ofNat i)), (3, .int ((Int32.ofNat j) + (1 : Int32)))] [] g u (fun big n0 => sg_ag_39 big n0 g u (Int32.ofNat i) (Int32.ofNat j)) ?_
      have e : f_in Mk i (k + 1) j = f_in Mk i k (j + 1) := by rw [f_in, if_neg (fun z => hc1 ((hm j (by omega)).mpr z).1)]
      rw [q_succ]
      exact ih (j + 1) (by omega) (fun z => hk (e.trans z)) (fun x z => hs x (e.trans z))
theorem ra3_0 (u : qW) {n W H : Nat} {r : qM} (h : w_ok n W H r) : ∀ k i g, i + k = 61 → w_sm n g (s_rit n i r) → (∀ j, j < i → g 82 j = f_cr n (s_rit n j r) ∧ g 83 j = f_mr n (s_rit n j r)) → q_EV m_200 18 [(0, .ref 70), (1, .int (0 : Int32)), (2, .int (Int32.ofNat i))] [] g u (w_po w_fr g (.int (f_agw 0 (f_ou (fun j => f_mk n (s_rit n j r)) k i)))) := by
  intro k
  induction k with
  | zero =>
    intro i g hi hs hv
    refine q_step 2 21 [(0, .ref 70), (1, .int (0 : Int32)), (2, .int (Int32.ofNat i))] [.int (60 : Int32), .int (Int32.ofNat i)] g u (fun big n0 => sg_ag_40 big n0 g u (Int32.ofNat i)) ?_
    refine q_ic_gt rfl (fun (hc0 : (60 : Int32) < (Int32.ofNat i)) => ?_) (fun hc0 => absurd (show (60 : Int32) < (Int32.ofNat i) from by rw [show i = 61 by omega]; decide) hc0)
    refine q_ret 2 (some (.int (Int8.toInt32 (Int8.ofInt (-4)))), g, u) (fun _ _ => rfl) ?_
    exact ⟨g, u, rfl, w_fr_rfl g⟩
  | succ k ih =>
    intro i g hi hs hv
    refine q_step 2 21 [(0, .ref 70), (1, .int (0 : Int32)), (2, .int (Int32.ofNat i))] [.int (60 : Int32), .int (Int32.ofNat i)] g u (fun big n0 => sg_ag_40 big n0 g u (Int32.ofNat i)) ?_
    refine q_ic_gt rfl (fun hc0 => absurd (show (60 : Int32) < (Int32.ofNat i) from hc0) (fun z => by have z1 := (q_lt (i := 60) (j := i) (by omega) (by omega)).mp z; omega)) (fun (hc0 : ¬ ((60 : Int32) < (Int32.ofNat i))) => ?_)
    refine q_step 4 30 [(0, .ref 70), (1, .int (0 : Int32)), (2, .int (Int32.ofNat i))] [.int (0 : Int32), .int (Int32.ofNat i), .ref 82] g u (fun big n0 => sg_ag_41 big n0 g u (Int32.ofNat i)) ?_
    refine q_iast (j := i) (q_ixn (by omega) (by omega)) rfl rfl ?_
    refine q_step 4 37 [(0, .ref 70), (1, .int (0 : Int32)), (2, .int (Int32.ofNat i))] [.int (0 : Int32), .int (Int32.ofNat i), .ref 83] (q_up g 82 i (0 : Int32)) u (fun big n0 => sg_ag_42 big n0 (q_up g 82 i (0 : Int32)) u (Int32.ofNat i)) ?_
    refine q_iast (j := i) (q_ixn (by omega) (by omega)) rfl rfl ?_
    refine q_step 2 40 [(0, .ref 70), (1, .int (0 : Int32)), (2, .int (Int32.ofNat i)), (3, .int (0 : Int32))] [] (q_up (q_up g 82 i (0 : Int32)) 83 i (0 : Int32)) u (fun big n0 => sg_ag_43 big n0 (q_up (q_up g 82 i (0 : Int32)) 83 i (0 : Int32)) u (Int32.ofNat i)) ?_
    rw [show (q_up (q_up g 82 i (0 : Int32)) 83 i (0 : Int32)) = s_agm g i 0 0 from rfl]
    have hX : s_rwf 25 (g 75) n 0 0 = f_cr n (s_rit n i r) := s_rwf_cg n 0 0 (fun j _ hj => (hs.2.2 j (by omega)).1)
    have hY : s_rwf 4 (g 76) n 0 0 = f_mr n (s_rit n i r) := s_rwf_cg n 0 0 (fun j _ hj => (hs.2.2 j (by omega)).2.1)
    refine ra1_0 g u (by omega) (w_w0 (w_ok_rit i r h) hs).1 h.1.2.2.2.2 n 0 0 0 (by omega) ?_
    rw [hX, hY]
    generalize hg2 : s_agm g i (f_cr n (s_rit n i r)) (f_mr n (s_rit n i r)) = g2
    have hs2 : w_sm n g2 (s_rit n i r) := by rw [← hg2]; exact hs
    have hfr2 : w_fr g g2 := by rw [← hg2]; exact (w_fr_rfl g).up (by omega) |>.up (by omega)
    have hm2 : ∀ j, j ≤ i → g2 82 j = f_cr n (s_rit n j r) ∧ g2 83 j = f_mr n (s_rit n j r) := fun j hj => by
      rw [← hg2]
      by_cases e : j = i
      · rw [e, s_agm_x, s_agm_y]
        exact ⟨rfl, rfl⟩
      · rw [s_agm_xo e, s_agm_yo e]
        exact hv j (by omega)
    refine q_step 2 99 [(0, .ref 70), (1, .int (0 : Int32)), (2, .int (Int32.ofNat i)), (3, .int (0 : Int32))] [] g2 u (fun big n0 => sg_ag_44 big n0 g2 u (Int32.ofNat i) (Int32.ofNat n)) ?_
    refine ra2_0 g2 u (Mk := (fun j => f_mk n (s_rit n j r))) (by omega) (fun j hj => by rw [(hm2 j (by omega)).1, (hm2 j (by omega)).2, (hm2 i (Nat.le_refl _)).1, (hm2 i (Nat.le_refl _)).2]; exact w_mk (w_ok_rit j r h) (w_ok_rit i r h)) i 0 (by omega) (fun hz => ?_) (fun x hx => ?_)
    · refine q_step 1 153 [(0, .ref 70), (1, .int (0 : Int32)), (2, .int (Int32.ofNat i)), (3, .int (Int32.ofNat i))] [.ref 70] g2 u (fun big n0 => sg_ag_45 big n0 g2 u (Int32.ofNat i) (Int32.ofNat i)) ?_
      refine q_call (M2 := 191) (rest := []) (c_rst u (w_ok_rit i r h) hs2) (fun _ _ => rfl) ?_
      refine q_step 3 18 [(0, .ref 70), (1, .int (0 : Int32)), (2, .int ((Int32.ofNat i) + (1 : Int32))), (3, .int (Int32.ofNat i))] [] (s_rst n g2) u (fun big n0 => sg_ag_46 big n0 (s_rst n g2) u (Int32.ofNat i) (Int32.ofNat i) (s_ran n g2)) ?_
      refine q_weak [(0, .ref 70), (1, .int (0 : Int32)), (2, .int ((Int32.ofNat i) + (1 : Int32)))] (q_sub.cons rfl (q_sub.cons rfl (q_sub.cons rfl q_sub.nil))) ?_
      rw [q_succ]
      have e : f_ou (fun j => f_mk n (s_rit n j r)) (k + 1) i = f_ou (fun j => f_mk n (s_rit n j r)) k (i + 1) := by rw [f_ou, hz]
      exact q_EV.imp (ih (i + 1) (s_rst n g2) (by omega) (by rw [← s_rit_add]; exact (w_sm_rst (w_ok_rit i r h) hs2).1) (fun j hj => by rw [s_rst_g (by omega), s_rst_g (by omega)]; exact hm2 j (by omega))) (fun R z => w_po_r (hfr2.trans s_rst_fr) (by rw [e]) z)
    · have hl := f_in_lt _ _ _ hx
      have e : f_ou (fun j => f_mk n (s_rit n j r)) (k + 1) i = some (x, i - x) := by rw [f_ou, hx]
      refine ⟨g2, u, ?_, hfr2⟩
      rw [e]
      rfl
theorem r_again0 {n W H : Nat} {g r : qM} (u : qW) (h : w_ok n W H r) (hs : w_sm n (s_start g) r) (h5 : n ≤ 5) : w_BS w_fr 200 [.ref 70, .int (0 : Int32)] g u (.int (f_agw 0 (f_ag n r))) := by
  refine w_bs (mm := m_200) rfl (Nat.le_of_ble_eq_true rfl) rfl ?_
  refine q_step 4 4 [(0, .ref 70), (1, .int (0 : Int32))] [.long (1 : Int64), .long (0 : Int64), .long (0 : Int64)] g u (fun big n0 => sg_ag_47 big n0 g u) ?_
  refine q_call (M2 := 149) (rest := []) (show q_BS 149 [.long (0 : Int64), .long (0 : Int64), .long (1 : Int64)] g u (some (.int 1), g, u) from b_in _ _ _ _ _) (fun _ _ => rfl) ?_
  refine q_step 2 13 [(0, .ref 70), (1, .int (0 : Int32))] [.ref 70] g u (fun big n0 => sg_ag_48 big n0 g u) ?_
  refine q_call (M2 := 172) (rest := []) (b_starts g u) (fun _ _ => rfl) ?_
  refine q_step 2 18 [(0, .ref 70), (1, .int (0 : Int32)), (2, .int (0 : Int32))] [] (s_start g) u (fun big n0 => sg_ag_49 big n0 (s_start g) u) ?_
  exact q_EV.imp (ra3_0 u h 61 0 (s_start g) (by omega) hs (fun j hj => by omega)) (fun R z => w_po_r s_start_fr rfl z)
theorem ra1_1 (g : qM) (u : qW) {n i : Nat} (hi : i ≤ 60) (hn : g 70 27 = Int32.ofNat n) (h6 : n ≤ 6) {Q : Option Value × qM × qW → Prop} : ∀ k p x y, p + k = n → q_EV m_200 97 [(0, .ref 70), (1, .int (1 : Int32)), (2, .int (Int32.ofNat i)), (3, .int (Int32.ofNat n))] [] (s_agm g i (s_rwf 25 (g 75) k p x) (s_rwf 4 (g 76) k p y)) u Q → q_EV m_200 40 [(0, .ref 70), (1, .int (1 : Int32)), (2, .int (Int32.ofNat i)), (3, .int (Int32.ofNat p))] [] (s_agm g i x y) u Q := by
  intro k
  induction k with
  | zero =>
    intro p x y hp hk
    have e : p = n := by omega
    subst e
    refine q_step 3 45 [(0, .ref 70), (1, .int (1 : Int32)), (2, .int (Int32.ofNat i)), (3, .int (Int32.ofNat p))] [.int (g 70 27), .int (Int32.ofNat p)] (s_agm g i x y) u (fun big n0 => sg_ag_50 big n0 (s_agm g i x y) u (Int32.ofNat i) (Int32.ofNat p)) ?_
    refine q_ic_ge rfl (fun (hc0 : (g 70 27) ≤ (Int32.ofNat p)) => ?_) (fun hc0 => absurd (show (g 70 27) ≤ (Int32.ofNat p) from by rw [hn]; exact (q_le (by omega) (by omega)).mpr (by omega)) hc0)
    exact hk
  | succ k ih =>
    intro p x y hp hk
    refine q_step 3 45 [(0, .ref 70), (1, .int (1 : Int32)), (2, .int (Int32.ofNat i)), (3, .int (Int32.ofNat p))] [.int (g 70 27), .int (Int32.ofNat p)] (s_agm g i x y) u (fun big n0 => sg_ag_50 big n0 (s_agm g i x y) u (Int32.ofNat i) (Int32.ofNat p)) ?_
    refine q_ic_ge rfl (fun hc0 => absurd (show (g 70 27) ≤ (Int32.ofNat p) from hc0) (fun z => by rw [hn] at z; exact absurd ((q_le (by omega) (by omega)).mp z) (by omega))) (fun (hc0 : ¬ ((g 70 27) ≤ (Int32.ofNat p))) => ?_)
    refine q_step 6 58 [(0, .ref 70), (1, .int (1 : Int32)), (2, .int (Int32.ofNat i)), (3, .int (Int32.ofNat p))] [.int (Int32.ofNat i), .ref 82, .int (Int32.ofNat i), .ref 82] (s_agm g i x y) u (fun big n0 => sg_ag_51 big n0 (s_agm g i x y) u (Int32.ofNat i) (Int32.ofNat p)) ?_
    refine q_iald (j := i) (q_ixn (by omega) (by omega)) rfl rfl ?_
    refine q_step 5 67 [(0, .ref 70), (1, .int (1 : Int32)), (2, .int (Int32.ofNat i)), (3, .int (Int32.ofNat p))] [.int (Int32.ofNat p), .ref 75, .int (((s_agm g i x y) 82 i) * (25 : Int32)), .int (Int32.ofNat i), .ref 82] (s_agm g i x y) u (fun big n0 => sg_ag_52 big n0 (s_agm g i x y) u (Int32.ofNat i) (Int32.ofNat p) (Int32.ofNat i) ((s_agm g i x y) 82 i)) ?_
    refine q_iald (j := p) (q_ixn (by omega) (by omega)) rfl rfl ?_
    refine q_step 1 69 [(0, .ref 70), (1, .int (1 : Int32)), (2, .int (Int32.ofNat i)), (3, .int (Int32.ofNat p))] [.int ((((s_agm g i x y) 82 i) * (25 : Int32)) + (g 75 p)), .int (Int32.ofNat i), .ref 82] (s_agm g i x y) u (fun big n0 => sg_ag_53 big n0 (s_agm g i x y) u (Int32.ofNat i) (Int32.ofNat p) (Int32.ofNat i) (((s_agm g i x y) 82 i) * (25 : Int32)) (g 75 p)) ?_
    refine q_iast (j := i) (q_ixn (by omega) (by omega)) rfl rfl ?_
    refine q_step 6 80 [(0, .ref 70), (1, .int (1 : Int32)), (2, .int (Int32.ofNat i)), (3, .int (Int32.ofNat p))] [.int (Int32.ofNat i), .ref 83, .int (Int32.ofNat i), .ref 83] (q_up (s_agm g i x y) 82 i ((((s_agm g i x y) 82 i) * (25 : Int32)) + (g 75 p))) u (fun big n0 => sg_ag_54 big n0 (q_up (s_agm g i x y) 82 i ((((s_agm g i x y) 82 i) * (25 : Int32)) + (g 75 p))) u (Int32.ofNat i) (Int32.ofNat p)) ?_
    refine q_iald (j := i) (q_ixn (by omega) (by omega)) rfl rfl ?_
    refine q_step 5 88 [(0, .ref 70), (1, .int (1 : Int32)), (2, .int (Int32.ofNat i)), (3, .int (Int32.ofNat p))] [.int (Int32.ofNat p), .ref 76, .int (((s_agm g i x y) 83 i) * (4 : Int32)), .int (Int32.ofNat i), .ref 83] (q_up (s_agm g i x y) 82 i ((((s_agm g i x y) 82 i) * (25 : Int32)) + (g 75 p))) u (fun big n0 => sg_ag_55 big n0 (q_up (s_agm g i x y) 82 i ((((s_agm g i x y) 82 i) * (25 : Int32)) + (g 75 p))) u (Int32.ofNat i) (Int32.ofNat p) (Int32.ofNat i) ((s_agm g i x y) 83 i)) ?_
    refine q_iald (j := p) (q_ixn (by omega) (by omega)) rfl rfl ?_
    refine q_step 1 90 [(0, .ref 70), (1, .int (1 : Int32)), (2, .int (Int32.ofNat i)), (3, .int (Int32.ofNat p))] [.int ((((s_agm g i x y) 83 i) * (4 : Int32)) + (g 76 p)), .int (Int32.ofNat i), .ref 83] (q_up (s_agm g i x y) 82 i ((((s_agm g i x y) 82 i) * (25 : Int32)) + (g 75 p))) u (fun big n0 => sg_ag_56 big n0 (q_up (s_agm g i x y) 82 i ((((s_agm g i x y) 82 i) * (25 : Int32)) + (g 75 p))) u (Int32.ofNat i) (Int32.ofNat p) (Int32.ofNat i) (((s_agm g i x y) 83 i) * (4 : Int32)) (g 76 p)) ?_
    refine q_iast (j := i) (q_ixn (by omega) (by omega)) rfl rfl ?_
    refine q_step 2 40 [(0, .ref 70), (1, .int (1 : Int32)), (2, .int (Int32.ofNat i)), (3, .int ((Int32.ofNat p) + (1 : Int32)))] [] (q_up (q_up (s_agm g i x y) 82 i ((((s_agm g i x y) 82 i) * (25 : Int32)) + (g 75 p))) 83 i ((((s_agm g i x y) 83 i) * (4 : Int32)) + (g 76 p))) u (fun big n0 => sg_ag_57 big n0 (q_up (q_up (s_agm g i x y) 82 i ((((s_agm g i x y) 82 i) * (25 : Int32)) + (g 75 p))) 83 i ((((s_agm g i x y) 83 i) * (4 : Int32)) + (g 76 p))) u (Int32.ofNat i) (Int32.ofNat p)) ?_
    rw [q_succ, show (q_up (q_up (s_agm g i x y) 82 i ((((s_agm g i x y) 82 i) * (25 : Int32)) + (g 75 p))) 83 i ((((s_agm g i x y) 83 i) * (4 : Int32)) + (g 76 p))) = s_agm g i (x * (25 : Int32) + g 75 p) (y * (4 : Int32) + g 76 p) from by
      rw [s_agm_x, s_agm_y]
      exact s_agm_s]
    exact ih (p + 1) _ _ (by omega) hk
theorem ra2_1 (g : qM) (u : qW) {Mk : Nat → Int64} {i : Nat} (hi : i ≤ 60) (hm : ∀ j, j < i → ((g 82 j = g 82 i ∧ g 83 j = g 83 i) ↔ Mk j = Mk i)) {Q : Option Value × qM × qW → Prop} : ∀ k j, j + k = i → (f_in Mk i k j = none → q_EV m_200 152 [(0, .ref 70), (1, .int (1 : Int32)), (2, .int (Int32.ofNat i)), (3, .int (Int32.ofNat i))] [] g u Q) → (∀ x, f_in Mk i k j = some x → Q (some (.int (Int32.ofNat i - Int32.ofNat x)), g, u)) → q_EV m_200 99 [(0, .ref 70), (1, .int (1 : Int32)), (2, .int (Int32.ofNat i)), (3, .int (Int32.ofNat j))] [] g u Q := by
  intro k
  induction k with
  | zero =>
    intro j hj hk hs
    have e : j = i := by omega
    subst e
    refine q_step 2 101 [(0, .ref 70), (1, .int (1 : Int32)), (2, .int (Int32.ofNat j)), (3, .int (Int32.ofNat j))] [.int (Int32.ofNat j), .int (Int32.ofNat j)] g u (fun big n0 => sg_ag_58 big n0 g u (Int32.ofNat j) (Int32.ofNat j)) ?_
    refine q_ic_ge rfl (fun (hc0 : (Int32.ofNat j) ≤ (Int32.ofNat j)) => ?_) (fun hc0 => absurd (show (Int32.ofNat j) ≤ (Int32.ofNat j) from (q_le (by omega) (by omega)).mpr (by omega)) hc0)
    exact hk rfl
  | succ k ih =>
    intro j hj hk hs
    refine q_step 2 101 [(0, .ref 70), (1, .int (1 : Int32)), (2, .int (Int32.ofNat i)), (3, .int (Int32.ofNat j))] [.int (Int32.ofNat i), .int (Int32.ofNat j)] g u (fun big n0 => sg_ag_58 big n0 g u (Int32.ofNat i) (Int32.ofNat j)) ?_
    refine q_ic_ge rfl (fun hc0 => absurd (show (Int32.ofNat i) ≤ (Int32.ofNat j) from hc0) (fun z => absurd ((q_le (by omega) (by omega)).mp z) (by omega))) (fun (hc0 : ¬ ((Int32.ofNat i) ≤ (Int32.ofNat j))) => ?_)
    refine q_step 3 109 [(0, .ref 70), (1, .int (1 : Int32)), (2, .int (Int32.ofNat i)), (3, .int (Int32.ofNat j))] [.int (Int32.ofNat j), .ref 82] g u (fun big n0 => sg_ag_59 big n0 g u (Int32.ofNat i) (Int32.ofNat j)) ?_
    refine q_iald (j := j) (q_ixn (by omega) (by omega)) rfl rfl ?_
    refine q_step 3 115 [(0, .ref 70), (1, .int (1 : Int32)), (2, .int (Int32.ofNat i)), (3, .int (Int32.ofNat j))] [.int (Int32.ofNat i), .ref 82, .int (g 82 j)] g u (fun big n0 => sg_ag_60 big n0 g u (Int32.ofNat i) (Int32.ofNat j) (g 82 j)) ?_
    refine q_iald (j := i) (q_ixn (by omega) (by omega)) rfl rfl ?_
    refine q_ic_ne rfl (fun (hc1 : (g 82 j) = (g 82 i)) => ?_) (fun (hc1 : ¬ ((g 82 j) = (g 82 i))) => ?_)
    · refine q_step 3 124 [(0, .ref 70), (1, .int (1 : Int32)), (2, .int (Int32.ofNat i)), (3, .int (Int32.ofNat j))] [.int (Int32.ofNat j), .ref 83] g u (fun big n0 => sg_ag_61 big n0 g u (Int32.ofNat i) (Int32.ofNat j)) ?_
      refine q_iald (j := j) (q_ixn (by omega) (by omega)) rfl rfl ?_
      refine q_step 3 130 [(0, .ref 70), (1, .int (1 : Int32)), (2, .int (Int32.ofNat i)), (3, .int (Int32.ofNat j))] [.int (Int32.ofNat i), .ref 83, .int (g 83 j)] g u (fun big n0 => sg_ag_62 big n0 g u (Int32.ofNat i) (Int32.ofNat j) (g 83 j)) ?_
      refine q_iald (j := i) (q_ixn (by omega) (by omega)) rfl rfl ?_
      refine q_ic_ne rfl (fun (hc2 : (g 83 j) = (g 83 i)) => ?_) (fun (hc2 : ¬ ((g 83 j) = (g 83 i))) => ?_)
      · refine q_ret 6 (some (.int ((Int32.ofNat i) - (Int32.ofNat j))), g, u) (fun _ _ => rfl) ?_
        exact hs j (by rw [f_in, if_pos ((hm j (by omega)).mp ⟨hc1, hc2⟩)])
      · refine q_step 2 99 [(0, .ref 70), (1, .int (1 : Int32)), (2, .int (Int32.ofNat i)), (3, .int ((Int32.ofNat j) + (1 : Int32)))] [] g u (fun big n0 => sg_ag_63 big n0 g u (Int32.ofNat i) (Int32.ofNat j)) ?_
        have e : f_in Mk i (k + 1) j = f_in Mk i k (j + 1) := by rw [f_in, if_neg (fun z => hc2 ((hm j (by omega)).mpr z).2)]
        rw [q_succ]
        exact ih (j + 1) (by omega) (fun z => hk (e.trans z)) (fun x z => hs x (e.trans z))
    · refine q_step 2 99 [(0, .ref 70), (1, .int (1 : Int32)), (2, .int (Int32.ofNat i)), (3, .int ((Int32.ofNat j) + (1 : Int32)))] [] g u (fun big n0 => sg_ag_63 big n0 g u (Int32.ofNat i) (Int32.ofNat j)) ?_
      have e : f_in Mk i (k + 1) j = f_in Mk i k (j + 1) := by rw [f_in, if_neg (fun z => hc1 ((hm j (by omega)).mpr z).1)]
      rw [q_succ]
      exact ih (j + 1) (by omega) (fun z => hk (e.trans z)) (fun x z => hs x (e.trans z))
theorem ra3_1 (u : qW) {n W H : Nat} {r : qM} (h : w_ok n W H r) : ∀ k i g, i + k = 61 → w_sm n g (s_rit n i r) → (∀ j, j < i → g 82 j = f_cr n (s_rit n j r) ∧ g 83 j = f_mr n (s_rit n j r)) → q_EV m_200 18 [(0, .ref 70), (1, .int (1 : Int32)), (2, .int (Int32.ofNat i))] [] g u (w_po w_fr g (.int (f_agw 1 (f_ou (fun j => f_mk n (s_rit n j r)) k i)))) := by
  intro k
  induction k with
  | zero =>
    intro i g hi hs hv
    refine q_step 2 21 [(0, .ref 70), (1, .int (1 : Int32)), (2, .int (Int32.ofNat i))] [.int (60 : Int32), .int (Int32.ofNat i)] g u (fun big n0 => sg_ag_64 big n0 g u (Int32.ofNat i)) ?_
    refine q_ic_gt rfl (fun (hc0 : (60 : Int32) < (Int32.ofNat i)) => ?_) (fun hc0 => absurd (show (60 : Int32) < (Int32.ofNat i) from by rw [show i = 61 by omega]; decide) hc0)
    refine q_ret 2 (some (.int (Int8.toInt32 (Int8.ofInt (-4)))), g, u) (fun _ _ => rfl) ?_
    exact ⟨g, u, rfl, w_fr_rfl g⟩
  | succ k ih =>
    intro i g hi hs hv
    refine q_step 2 21 [(0, .ref 70), (1, .int (1 : Int32)), (2, .int (Int32.ofNat i))] [.int (60 : Int32), .int (Int32.ofNat i)] g u (fun big n0 => sg_ag_64 big n0 g u (Int32.ofNat i)) ?_
    refine q_ic_gt rfl (fun hc0 => absurd (show (60 : Int32) < (Int32.ofNat i) from hc0) (fun z => by have z1 := (q_lt (i := 60) (j := i) (by omega) (by omega)).mp z; omega)) (fun (hc0 : ¬ ((60 : Int32) < (Int32.ofNat i))) => ?_)
    refine q_step 4 30 [(0, .ref 70), (1, .int (1 : Int32)), (2, .int (Int32.ofNat i))] [.int (0 : Int32), .int (Int32.ofNat i), .ref 82] g u (fun big n0 => sg_ag_65 big n0 g u (Int32.ofNat i)) ?_
    refine q_iast (j := i) (q_ixn (by omega) (by omega)) rfl rfl ?_
    refine q_step 4 37 [(0, .ref 70), (1, .int (1 : Int32)), (2, .int (Int32.ofNat i))] [.int (0 : Int32), .int (Int32.ofNat i), .ref 83] (q_up g 82 i (0 : Int32)) u (fun big n0 => sg_ag_66 big n0 (q_up g 82 i (0 : Int32)) u (Int32.ofNat i)) ?_
    refine q_iast (j := i) (q_ixn (by omega) (by omega)) rfl rfl ?_
    refine q_step 2 40 [(0, .ref 70), (1, .int (1 : Int32)), (2, .int (Int32.ofNat i)), (3, .int (0 : Int32))] [] (q_up (q_up g 82 i (0 : Int32)) 83 i (0 : Int32)) u (fun big n0 => sg_ag_67 big n0 (q_up (q_up g 82 i (0 : Int32)) 83 i (0 : Int32)) u (Int32.ofNat i)) ?_
    rw [show (q_up (q_up g 82 i (0 : Int32)) 83 i (0 : Int32)) = s_agm g i 0 0 from rfl]
    have hX : s_rwf 25 (g 75) n 0 0 = f_cr n (s_rit n i r) := s_rwf_cg n 0 0 (fun j _ hj => (hs.2.2 j (by omega)).1)
    have hY : s_rwf 4 (g 76) n 0 0 = f_mr n (s_rit n i r) := s_rwf_cg n 0 0 (fun j _ hj => (hs.2.2 j (by omega)).2.1)
    refine ra1_1 g u (by omega) (w_w0 (w_ok_rit i r h) hs).1 h.1.2.2.2.2 n 0 0 0 (by omega) ?_
    rw [hX, hY]
    generalize hg2 : s_agm g i (f_cr n (s_rit n i r)) (f_mr n (s_rit n i r)) = g2
    have hs2 : w_sm n g2 (s_rit n i r) := by rw [← hg2]; exact hs
    have hfr2 : w_fr g g2 := by rw [← hg2]; exact (w_fr_rfl g).up (by omega) |>.up (by omega)
    have hm2 : ∀ j, j ≤ i → g2 82 j = f_cr n (s_rit n j r) ∧ g2 83 j = f_mr n (s_rit n j r) := fun j hj => by
      rw [← hg2]
      by_cases e : j = i
      · rw [e, s_agm_x, s_agm_y]
        exact ⟨rfl, rfl⟩
      · rw [s_agm_xo e, s_agm_yo e]
        exact hv j (by omega)
    refine q_step 2 99 [(0, .ref 70), (1, .int (1 : Int32)), (2, .int (Int32.ofNat i)), (3, .int (0 : Int32))] [] g2 u (fun big n0 => sg_ag_68 big n0 g2 u (Int32.ofNat i) (Int32.ofNat n)) ?_
    refine ra2_1 g2 u (Mk := (fun j => f_mk n (s_rit n j r))) (by omega) (fun j hj => by rw [(hm2 j (by omega)).1, (hm2 j (by omega)).2, (hm2 i (Nat.le_refl _)).1, (hm2 i (Nat.le_refl _)).2]; exact w_mk (w_ok_rit j r h) (w_ok_rit i r h)) i 0 (by omega) (fun hz => ?_) (fun x hx => ?_)
    · refine q_step 1 153 [(0, .ref 70), (1, .int (1 : Int32)), (2, .int (Int32.ofNat i)), (3, .int (Int32.ofNat i))] [.ref 70] g2 u (fun big n0 => sg_ag_69 big n0 g2 u (Int32.ofNat i) (Int32.ofNat i)) ?_
      refine q_call (M2 := 191) (rest := []) (c_rst u (w_ok_rit i r h) hs2) (fun _ _ => rfl) ?_
      refine q_step 3 18 [(0, .ref 70), (1, .int (1 : Int32)), (2, .int ((Int32.ofNat i) + (1 : Int32))), (3, .int (Int32.ofNat i))] [] (s_rst n g2) u (fun big n0 => sg_ag_70 big n0 (s_rst n g2) u (Int32.ofNat i) (Int32.ofNat i) (s_ran n g2)) ?_
      refine q_weak [(0, .ref 70), (1, .int (1 : Int32)), (2, .int ((Int32.ofNat i) + (1 : Int32)))] (q_sub.cons rfl (q_sub.cons rfl (q_sub.cons rfl q_sub.nil))) ?_
      rw [q_succ]
      have e : f_ou (fun j => f_mk n (s_rit n j r)) (k + 1) i = f_ou (fun j => f_mk n (s_rit n j r)) k (i + 1) := by rw [f_ou, hz]
      exact q_EV.imp (ih (i + 1) (s_rst n g2) (by omega) (by rw [← s_rit_add]; exact (w_sm_rst (w_ok_rit i r h) hs2).1) (fun j hj => by rw [s_rst_g (by omega), s_rst_g (by omega)]; exact hm2 j (by omega))) (fun R z => w_po_r (hfr2.trans s_rst_fr) (by rw [e]) z)
    · have hl := f_in_lt _ _ _ hx
      have e : f_ou (fun j => f_mk n (s_rit n j r)) (k + 1) i = some (x, i - x) := by rw [f_ou, hx]
      refine ⟨g2, u, ?_, hfr2⟩
      rw [e]
      rw [q_sb (by omega) (by omega)]
      rfl
theorem r_again1 {n W H : Nat} {g r : qM} (u : qW) (h : w_ok n W H r) (hs : w_sm n (s_start g) r) (h5 : n ≤ 5) : w_BS w_fr 200 [.ref 70, .int (1 : Int32)] g u (.int (f_agw 1 (f_ag n r))) := by
  refine w_bs (mm := m_200) rfl (Nat.le_of_ble_eq_true rfl) rfl ?_
  refine q_step 4 4 [(0, .ref 70), (1, .int (1 : Int32))] [.long (1 : Int64), .long (0 : Int64), .long (1 : Int64)] g u (fun big n0 => sg_ag_71 big n0 g u) ?_
  refine q_call (M2 := 149) (rest := []) (show q_BS 149 [.long (1 : Int64), .long (0 : Int64), .long (1 : Int64)] g u (some (.int 1), g, u) from b_in _ _ _ _ _) (fun _ _ => rfl) ?_
  refine q_step 2 13 [(0, .ref 70), (1, .int (1 : Int32))] [.ref 70] g u (fun big n0 => sg_ag_72 big n0 g u) ?_
  refine q_call (M2 := 172) (rest := []) (b_starts g u) (fun _ _ => rfl) ?_
  refine q_step 2 18 [(0, .ref 70), (1, .int (1 : Int32)), (2, .int (0 : Int32))] [] (s_start g) u (fun big n0 => sg_ag_73 big n0 (s_start g) u) ?_
  exact q_EV.imp (ra3_1 u h 61 0 (s_start g) (by omega) hs (fun j hj => by omega)) (fun R z => w_po_r s_start_fr rfl z)
end
section
/-! OUT and CALM. -/
theorem s_or00 (a : Int32) : a ||| (0 : Int32) = a := by
  apply Int32.toBitVec_inj.mp
  simp
theorem s_wl_w1 {c : Nat → Int32} {x : Int32} : ∀ k i f, i + k ≤ 6 → (∀ p q, i ≤ p → p < i + k → i ≤ q → q < i + k → p ≠ q → c p ≠ c q) → s_wl c x k i f = if s_w1 c x k i = i_none then f else s_w1 c x k i
  | 0, _, _, _, _ => by
    rw [s_wl, s_w1, if_pos rfl]
  | k + 1, i, f, h6, hd => by
    have ih := s_wl_w1 (c := c) (x := x) k (i + 1) (if c i = x then Int32.ofNat i else f) (by omega) (fun p q a b d e => hd p q (by omega) (by omega) (by omega) (by omega))
    rw [s_wl, s_w1, ih]
    by_cases hx : c i = x
    · rw [if_pos hx, if_pos hx, if_neg (s_none_ne (by omega))]
      have hn : ∀ k j, i + 1 ≤ j → j + k = i + 1 + k + (j - (i + 1)) → (∀ q, j ≤ q → q < j + k → c q ≠ x) → s_w1 c x k j = i_none := by
        intro k
        induction k with
        | zero => intro j _ _ _; rfl
        | succ k ihk =>
          intro j h1 h2 h3
          rw [s_w1, if_neg (h3 j (Nat.le_refl _) (by omega))]
          exact ihk (j + 1) (by omega) (by omega) (fun q a b => h3 q (by omega) (by omega))
      rw [hn k (i + 1) (Nat.le_refl _) (by omega) (fun q a b z => hd q i (by omega) (by omega) (Nat.le_refl _) (by omega) (by omega) (z.trans hx.symm)), if_pos rfl]
    · rw [if_neg hx, if_neg hx]
theorem s_w1_some {c : Nat → Int32} {x : Int32} : ∀ k i, i + k ≤ 6 → (s_w1 c x k i = i_none ∧ ∀ q, i ≤ q → q < i + k → c q ≠ x) ∨ ∃ q, i ≤ q ∧ q < i + k ∧ c q = x ∧ s_w1 c x k i = Int32.ofNat q
  | 0, i, _ => Or.inl ⟨rfl, fun q h1 h2 => by omega⟩
  | k + 1, i, h => by
    rw [s_w1]
    by_cases hx : c i = x
    · rw [if_pos hx]
      exact Or.inr ⟨i, Nat.le_refl _, by omega, hx, rfl⟩
    · rw [if_neg hx]
      rcases s_w1_some (c := c) (x := x) k (i + 1) (by omega) with ⟨h1, h2⟩ | ⟨q, h1, h2, h3, h4⟩
      · refine Or.inl ⟨h1, fun q a b => ?_⟩
        by_cases e : q = i
        · rw [e]
          exact hx
        · exact h2 q (by omega) (by omega)
      · exact Or.inr ⟨q, by omega, by omega, h3, h4⟩
theorem s_w1_cg {c c' : Nat → Int32} {x : Int32} : ∀ k i, (∀ j, i ≤ j → j < i + k → c j = c' j) → s_w1 c x k i = s_w1 c' x k i
  | 0, _, _ => rfl
  | k + 1, i, h => by
    rw [s_w1, s_w1, h i (Nat.le_refl _) (by omega), s_w1_cg k (i + 1) (fun j a b => h j (by omega) (by omega))]
/-- who is in a CELL, as r has it -/
def f_who (n : Nat) (r : qM) (x : Int32) : Int32 := s_w1 (r 75) x n 0
theorem w_who_r {n W H : Nat} {g r : qM} (h : w_ok n W H r) (hs : w_sm n g r) (x : Int32) : s_wl (g 75) x n 0 i_none = f_who n r x := by
  rw [s_wl_cg (c' := r 75) n 0 _ (fun j _ hj => (hs.2.2 j (by omega)).1), s_wl_w1 n 0 _ (by have := h.1.2.2.2.2; omega) (fun p q _ a _ b => h.2.2.2.2.2.1 p q (by omega) (by omega))]
  unfold f_who
  split
  · rename_i e
    exact e.symm
  · rfl
theorem w_who_c {n : Nat} {T : Nat} {g r : qM} (hc : w_cs T n g r) (x : Int32) : s_w1 (g (T + 1)) x n 0 = f_who n r x := s_w1_cg n 0 (fun j _ hj => (hc.2.2 j (by omega)).1)
/-! what a search keeps of its trial -/
def w_tr (n : Nat) (g r : qM) : Prop := (g 35 3 = r 70 27 ∧ g 35 0 = r 70 2 ∧ g 35 1 = r 70 3 ∧ g 35 2 = r 71 20 ∧ g 35 4 = r 71 25) ∧ (∀ d, 1 ≤ d → d ≤ 4 → g 40 d = r 71 (20 + d)) ∧ ∀ p, p < n → g 38 p = r 77 p
theorem w_cs_tr {n : Nat} {g r : qM} (h : w_cs 35 n g r) : w_tr n g r := ⟨h.1, h.2.1, fun p hp => (h.2.2 p hp).2.2⟩
theorem w_cpl {n : Nat} {g r : qM} (h6 : n ≤ 6) (hc : w_cs 20 n g r) (ht : w_tr n g r) : w_cs 35 n (s_cpl 35 20 g) r := by
  obtain ⟨⟨t1, t2, t3, t4, t5⟩, t6, t7⟩ := ht
  have e35 : s_cpl 35 20 g 35 = g 35 := s_cpl_o (by omega)
  have e38 : s_cpl 35 20 g 38 = g 38 := s_cpl_o (by omega)
  have e40 : s_cpl 35 20 g 40 = g 40 := s_cpl_o (by omega)
  refine ⟨⟨?_, ?_, ?_, ?_, ?_⟩, fun d a b => ?_, fun p hp => ⟨?_, ?_, ?_⟩⟩
  · rw [e35]; exact t1
  · rw [e35]; exact t2
  · rw [e35]; exact t3
  · rw [e35]; exact t4
  · rw [e35]; exact t5
  · show s_cpl 35 20 g 40 d = _
    rw [e40]; exact t6 d a b
  · exact (s_cpl_1 (a := 35) (b := 20) (j := p) (by omega)).trans (hc.2.2 p hp).1
  · exact (s_cpl_2 (a := 35) (b := 20) (j := p) (by omega) (by omega)).trans (hc.2.2 p hp).2.1
  · show s_cpl 35 20 g 38 p = _
    rw [e38]; exact t7 p hp
theorem s_step_f {n : Nat} {g : qM} {j : Nat} (h : j ≠ 5) : s_step 35 n g 35 j = g 35 j := by
  unfold s_step
  rw [q_up_at, if_neg h]
  rfl
theorem w_tr_cg {n : Nat} {g g' r : qM} (h : w_tr n g r) (h1 : ∀ j, j ≠ 5 → g' 35 j = g 35 j) (h2 : g' 38 = g 38) (h3 : g' 40 = g 40) : w_tr n g' r := by
  obtain ⟨⟨t1, t2, t3, t4, t5⟩, t6, t7⟩ := h
  refine ⟨⟨?_, ?_, ?_, ?_, ?_⟩, fun d a b => ?_, fun p hp => ?_⟩
  · rw [h1 3 (by omega)]; exact t1
  · rw [h1 0 (by omega)]; exact t2
  · rw [h1 1 (by omega)]; exact t3
  · rw [h1 2 (by omega)]; exact t4
  · rw [h1 4 (by omega)]; exact t5
  · rw [h3]; exact t6 d a b
  · rw [h2]; exact t7 p hp
theorem w_tr_step {n m : Nat} {g r : qM} (h : w_tr n g r) : w_tr n (s_step 35 m g) r := w_tr_cg h (fun j hj => s_step_f hj) (s_step_g (by omega) (by omega)) (s_step_g (by omega) (by omega))
theorem w_tr_tss {n m : Nat} {r : qM} : ∀ k g, w_tr n g r → w_tr n (s_tss 35 m k g) r
  | 0, _, h => h
  | k + 1, g, h => by
    unfold s_tss
    split
    · exact w_tr_step h
    · exact w_tr_tss k _ (w_tr_step h)
theorem w_tr_cpl {n : Nat} {g r : qM} (h : w_tr n g r) : w_tr n (s_cpl 35 20 g) r := w_tr_cg h (fun j _ => by rw [s_cpl_o (by omega)]) (s_cpl_o (by omega)) (s_cpl_o (by omega))
theorem w_cs_fc {n : Nat} {g g' r : qM} (hf : w_fc g g') (h : w_cs 20 n g r) : w_cs 20 n g' r := by
  have e : ∀ b, b < 28 → g' b = g b := fun b hb => hf b (Or.inl hb)
  obtain ⟨⟨t1, t2, t3, t4, t5⟩, t6, t7⟩ := h
  refine ⟨⟨?_, ?_, ?_, ?_, ?_⟩, fun d a b => ?_, fun p hp => ⟨?_, ?_, ?_⟩⟩
  · rw [e 20 (by omega)]; exact t1
  · rw [e 20 (by omega)]; exact t2
  · rw [e 20 (by omega)]; exact t3
  · rw [e 20 (by omega)]; exact t4
  · rw [e 20 (by omega)]; exact t5
  · show g' 25 d = _
    rw [e 25 (by omega)]; exact t6 d a b
  · show g' 21 p = _
    rw [e 21 (by omega)]; exact (t7 p hp).1
  · show g' 22 p = _
    rw [e 22 (by omega)]; exact (t7 p hp).2.1
  · show g' 23 p = _
    rw [e 23 (by omega)]; exact (t7 p hp).2.2
/-! one taken out -/
def s_pi (p m j : Nat) : Nat := if p ≤ j ∧ j < m then j + 1 else j
def s_sh (p m : Nat) (f : Nat → Int32) (j : Nat) : Int32 := f (s_pi p m j)
def s_drp (p i : Nat) (g : qM) : qM := fun a j => if a = 36 then s_sh p i (g 36) j else if a = 37 then s_sh p i (g 37) j else if a = 38 then s_sh p i (g 38) j else if a = 39 then s_sh p i (g 39) j else g a j
def s_rdr (p i : Nat) (g : qM) : qM := fun a j => if a = 75 then s_sh p i (g 75) j else if a = 76 then s_sh p i (g 76) j else if a = 77 then s_sh p i (g 77) j else g a j
theorem s_sh_0 {p : Nat} {f : Nat → Int32} {j : Nat} : s_sh p p f j = f j := by
  unfold s_sh s_pi
  rw [if_neg (by omega)]
theorem s_sh_r {p i : Nat} {f : Nat → Int32} : s_sh p i f (i + 1) = f (i + 1) := by
  unfold s_sh s_pi
  rw [if_neg (by omega)]
theorem s_sh_s {p i j : Nat} {f : Nat → Int32} (hp : p ≤ i) : (if j = i then f (i + 1) else s_sh p i f j) = s_sh p (i + 1) f j := by
  unfold s_sh s_pi
  by_cases e : j = i
  · subst e
    rw [if_pos rfl, if_pos (by omega)]
  · rw [if_neg e]
    by_cases c : p ≤ j ∧ j < i
    · rw [if_pos c, if_pos (by omega)]
    · rw [if_neg c, if_neg (by omega)]
theorem s_drp_0 {p : Nat} {g : qM} : s_drp p p g = g := by
  funext a j
  unfold s_drp
  simp only [s_sh_0]
  by_cases h1 : a = 36
  · rw [if_pos h1, h1]
  · by_cases h2 : a = 37
    · rw [if_neg h1, if_pos h2, h2]
    · by_cases h3 : a = 38
      · rw [if_neg h1, if_neg h2, if_pos h3, h3]
      · by_cases h4 : a = 39
        · rw [if_neg h1, if_neg h2, if_neg h3, if_pos h4, h4]
        · rw [if_neg h1, if_neg h2, if_neg h3, if_neg h4]
theorem s_rdr_0 {p : Nat} {g : qM} : s_rdr p p g = g := by
  funext a j
  unfold s_rdr
  simp only [s_sh_0]
  by_cases h1 : a = 75
  · rw [if_pos h1, h1]
  · by_cases h2 : a = 76
    · rw [if_neg h1, if_pos h2, h2]
    · by_cases h3 : a = 77
      · rw [if_neg h1, if_neg h2, if_pos h3, h3]
      · rw [if_neg h1, if_neg h2, if_neg h3]
theorem s_drp_s {p i : Nat} {g : qM} (hp : p ≤ i) : q_up (q_up (q_up (q_up (s_drp p i g) 36 i ((s_drp p i g) 36 (i + 1))) 37 i ((s_drp p i g) 37 (i + 1))) 38 i ((s_drp p i g) 38 (i + 1))) 39 i ((s_drp p i g) 39 (i + 1)) = s_drp p (i + 1) g := by
  rw [show (s_drp p i g) 36 (i + 1) = g 36 (i + 1) from s_sh_r, show (s_drp p i g) 37 (i + 1) = g 37 (i + 1) from s_sh_r, show (s_drp p i g) 38 (i + 1) = g 38 (i + 1) from s_sh_r, show (s_drp p i g) 39 (i + 1) = g 39 (i + 1) from s_sh_r]
  funext a j
  simp only [q_up_eq]
  by_cases h4 : a = 39
  · subst h4
    simp only [true_and, show ¬ (39 : Nat) = 38 by omega, show ¬ (39 : Nat) = 37 by omega, show ¬ (39 : Nat) = 36 by omega, false_and, if_false]
    exact s_sh_s hp
  · by_cases h3 : a = 38
    · subst h3
      simp only [true_and, h4, show ¬ (38 : Nat) = 37 by omega, show ¬ (38 : Nat) = 36 by omega, false_and, if_false]
      exact s_sh_s hp
    · by_cases h2 : a = 37
      · subst h2
        simp only [true_and, h3, h4, show ¬ (37 : Nat) = 36 by omega, false_and, if_false]
        exact s_sh_s hp
      · by_cases h1 : a = 36
        · subst h1
          simp only [true_and, h2, h3, h4, false_and, if_false]
          exact s_sh_s hp
        · unfold s_drp
          simp only [h1, h2, h3, h4, false_and, if_false]
theorem s_rdr_s {p i : Nat} {g : qM} (hp : p ≤ i) : q_up (q_up (q_up (s_rdr p i g) 75 i ((s_rdr p i g) 75 (i + 1))) 76 i ((s_rdr p i g) 76 (i + 1))) 77 i ((s_rdr p i g) 77 (i + 1)) = s_rdr p (i + 1) g := by
  rw [show (s_rdr p i g) 75 (i + 1) = g 75 (i + 1) from s_sh_r, show (s_rdr p i g) 76 (i + 1) = g 76 (i + 1) from s_sh_r, show (s_rdr p i g) 77 (i + 1) = g 77 (i + 1) from s_sh_r]
  funext a j
  simp only [q_up_eq]
  by_cases h3 : a = 77
  · subst h3
    simp only [true_and, show ¬ (77 : Nat) = 76 by omega, show ¬ (77 : Nat) = 75 by omega, false_and, if_false]
    exact s_sh_s hp
  · by_cases h2 : a = 76
    · subst h2
      simp only [true_and, h3, show ¬ (76 : Nat) = 75 by omega, false_and, if_false]
      exact s_sh_s hp
    · by_cases h1 : a = 75
      · subst h1
        simp only [true_and, h2, h3, false_and, if_false]
        exact s_sh_s hp
      · unfold s_rdr
        simp only [h1, h2, h3, false_and, if_false]
def gh_out (n p : Nat) (r : qM) : qM := fun a j => if a = 75 then s_sh p (n - 1) (r 75) j else if a = 76 then s_sh p (n - 1) (r 76) j else if a = 77 then s_sh p (n - 1) (r 77) j else if a = 70 then (if j = 27 then Int32.ofNat (n - 1) else r 70 j) else r a j
theorem s_pi_lt {n p j : Nat} (hj : j < n - 1) : s_pi p (n - 1) j < n := by
  unfold s_pi
  split <;> omega
theorem s_pi_ne {n p i j : Nat} (hi : i < n - 1) (hj : j < n - 1) (h : i ≠ j) : s_pi p (n - 1) i ≠ s_pi p (n - 1) j := by
  unfold s_pi
  split <;> split <;> omega
theorem w_ok_out {n W H p : Nat} {r : qM} (h : w_ok n W H r) : w_ok (n - 1) W H (gh_out n p r) := by
  obtain ⟨⟨b1, b2, b3, b4, b5⟩, h1, h2, h3, h4, h5, h6, h7, h8⟩ := h
  exact ⟨⟨b1, b2, b3, b4, by omega⟩, rfl, h2, h3, fun q hq => h4 _ (s_pi_lt hq), fun q q' hq hq' hne => h5 _ _ (s_pi_lt hq) (s_pi_lt hq') (s_pi_ne hq hq' hne), fun q hq => h6 _ (s_pi_lt hq), fun q hq => h7 _ (s_pi_lt hq), fun q hq => h8 _ (s_pi_lt hq)⟩
theorem w_cs_out {n W H p : Nat} {g r : qM} (hn : 1 ≤ n) (h : w_ok n W H r) (hc : w_cs 35 n g r) : w_cs 35 (n - 1) (q_up (s_drp p (n - 1) g) 35 3 (g 35 3 - 1)) (gh_out n p r) := by
  obtain ⟨⟨c1, c2, c3, c4, c5⟩, c6, c7⟩ := hc
  refine ⟨⟨?_, c2, c3, c4, c5⟩, fun d a b => c6 d a b, fun q hq => ⟨(c7 _ (s_pi_lt hq)).1, (c7 _ (s_pi_lt hq)).2.1, (c7 _ (s_pi_lt hq)).2.2⟩⟩
  show g 35 3 - 1 = Int32.ofNat (n - 1)
  rw [c1, h.2.1]
  exact q_sb (a := n) (b := 1) (by have := h.1.2.2.2.2; omega) hn
theorem w_sm_out {n W H p : Nat} {g r : qM} (hn : 1 ≤ n) (h : w_ok n W H r) (hs : w_sm n g r) (h4 : g 70 4 = Int32.ofNat n) : w_sm (n - 1) (q_up (s_rdr p (n - 1) g) 70 27 (g 70 4 - 1)) (gh_out n p r) := by
  obtain ⟨⟨c1, c2, c3, c4, c5⟩, c6, c7⟩ := hs
  refine ⟨⟨?_, c2, c3, c4, c5⟩, fun d a b => c6 d a b, fun q hq => ⟨(c7 _ (s_pi_lt hq)).1, (c7 _ (s_pi_lt hq)).2.1, (c7 _ (s_pi_lt hq)).2.2⟩⟩
  show g 70 4 - 1 = Int32.ofNat (n - 1)
  rw [h4]
  exact q_sb (a := n) (b := 1) (by have := h.1.2.2.2.2; omega) hn
def p_out (n : Nat) (r : qM) (p : Nat) : Int32 := if s_ran (n - 1) (gh_out n p r) = 0 then 1 else 0
def f_out (n : Nat) (r : qM) : Int32 := s_bs (p_out n r) n 0 0
theorem s_drp_o {p i b : Nat} {g : qM} (h : b < 36 ∨ 39 < b) : s_drp p i g b = g b := by
  funext j
  unfold s_drp
  rw [if_neg (by omega), if_neg (by omega), if_neg (by omega), if_neg (by omega)]
theorem s_rdr_o {p i b : Nat} {g : qM} (h : b < 75 ∨ 77 < b) : s_rdr p i g b = g b := by
  funext j
  unfold s_rdr
  rw [if_neg (by omega), if_neg (by omega), if_neg (by omega)]
theorem s_rdr_fr {p i : Nat} {g : qM} : w_fr g (s_rdr p i g) := ⟨fun b hb => s_rdr_o (by omega), fun j _ => by rw [s_rdr_o (by omega)]⟩
/-! one put elsewhere -/
def p_can (n : Nat) (r : qM) (p c : Nat) : Int32 := if Int32.ofNat c = r 75 p then 1 else if s_bit (r 71 20) (Int32.ofNat c) = 0 then (if f_who n r (Int32.ofNat c) = i_none then 1 else 0) else 0
def p_calm (n : Nat) (r : qM) (p c : Nat) : Int32 := if p_can n r p c = 0 then 0 else if s_ran n (q_up r 75 p (Int32.ofNat c)) = 0 then 1 else 0
def f_calm (n W H : Nat) (r : qM) (p : Nat) : Int32 := s_bs (p_calm n r p) (W * H) 0 0
theorem w_can {n W H p c : Nat} {r : qM} (h : w_ok n W H r) (hp : p < n) (hc : c < W * H) : p_can n r p c = if s_op (r 71 20) (Int32.ofNat c) = 0 then 0 else if f_who n r (Int32.ofNat c) = i_none then 1 else if f_who n r (Int32.ofNat c) = Int32.ofNat p then 1 else 0 := by
  have hWH : W * H ≤ 25 := Nat.le_trans (Nat.mul_le_mul h.1.2.1 h.1.2.2.2.1) (Nat.le_refl 25)
  have h6 := h.1.2.2.2.2
  have hop : s_op (r 71 20) (Int32.ofNat c) = if s_bit (r 71 20) (Int32.ofNat c) = 0 then 1 else 0 := by
    unfold s_op
    rw [if_neg (s_none_ne (by omega))]
  unfold p_can
  rw [hop]
  by_cases e : Int32.ofNat c = r 75 p
  · have hw := h.2.2.2.2.2.2.1 p hp
    rw [← e] at hw
    rw [if_pos e, if_pos hw, if_neg (show ¬ (1 : Int32) = 0 by decide)]
    rcases s_w1_some (c := r 75) (x := Int32.ofNat c) n 0 (by omega) with ⟨h1, h2⟩ | ⟨q, h1, h2, h3, h4⟩
    · exact absurd e.symm (h2 p (Nat.zero_le _) (by omega))
    · have hq : q = p := by
        by_cases z : q = p
        · exact z
        · exact absurd (h3.trans e) (h.2.2.2.2.2.1 q p (by omega) hp z)
      unfold f_who
      rw [h4, hq, if_neg (s_none_ne (by omega)), if_pos rfl]
  · rw [if_neg e]
    by_cases hw : s_bit (r 71 20) (Int32.ofNat c) = 0
    · rw [if_pos hw, if_pos hw, if_neg (show ¬ (1 : Int32) = 0 by decide)]
      by_cases hn : f_who n r (Int32.ofNat c) = i_none
      · rw [if_pos hn, if_pos hn]
      · rw [if_neg hn, if_neg hn, if_neg (fun z => ?_)]
        rcases s_w1_some (c := r 75) (x := Int32.ofNat c) n 0 (by omega) with ⟨h1, h2⟩ | ⟨q, h1, h2, h3, h4⟩
        · exact hn h1
        · unfold f_who at z
          rw [h4] at z
          have := (q_eq (by omega) (by omega)).mp z
          subst this
          exact e h3.symm
    · rw [if_neg hw, if_neg hw, if_pos rfl]
theorem w_ok_put {n W H p c : Nat} {r : qM} (h : w_ok n W H r) (hp : p < n) (hc : c < W * H) (hcan : ¬ p_can n r p c = 0) : w_ok n W H (q_up r 75 p (Int32.ofNat c)) := by
  have h6 := h.1.2.2.2.2
  have hfree : s_bit (r 71 20) (Int32.ofNat c) = 0 ∧ ∀ q, q < n → q ≠ p → r 75 q ≠ Int32.ofNat c := by
    unfold p_can at hcan
    by_cases e : Int32.ofNat c = r 75 p
    · exact ⟨by rw [e]; exact h.2.2.2.2.2.2.1 p hp, fun q hq hne => by rw [e]; exact h.2.2.2.2.2.1 q p hq hp hne⟩
    · rw [if_neg e] at hcan
      by_cases hw : s_bit (r 71 20) (Int32.ofNat c) = 0
      · rw [if_pos hw] at hcan
        by_cases hn : f_who n r (Int32.ofNat c) = i_none
        · rcases s_w1_some (c := r 75) (x := Int32.ofNat c) n 0 (by omega) with ⟨h1, h2⟩ | ⟨q, h1, h2, h3, h4⟩
          · exact ⟨hw, fun q hq _ => h2 q (Nat.zero_le _) (by omega)⟩
          · unfold f_who at hn
            rw [h4] at hn
            exact absurd hn (s_none_ne (by omega))
        · rw [if_neg hn] at hcan
          exact absurd rfl hcan
      · rw [if_neg hw] at hcan
        exact absurd rfl hcan
  have e75 : ∀ q, q_up r 75 p (Int32.ofNat c) 75 q = if q = p then Int32.ofNat c else r 75 q := fun q => q_up_at
  obtain ⟨b, h1, h2, h3, h4, h5, h6, h7, h8⟩ := h
  refine ⟨b, h1, h2, h3, fun q hq => ?_, fun q q' hq hq' hne => ?_, fun q hq => ?_, h7, h8⟩
  · rw [e75]
    split
    · exact ⟨c, hc, rfl⟩
    · exact h4 q hq
  · rw [e75, e75]
    by_cases z : q = p
    · rw [if_pos z, if_neg (by omega)]
      exact (hfree.2 q' hq' (by omega)).symm
    · rw [if_neg z]
      by_cases z' : q' = p
      · rw [if_pos z']
        exact hfree.2 q hq z
      · rw [if_neg z']
        exact h5 q q' hq hq' hne
  · show s_bit (r 71 20) (q_up r 75 p (Int32.ofNat c) 75 q) = 0
    rw [e75]
    split
    · exact hfree.1
    · exact h6 q hq
theorem w_cs_put {n p : Nat} {x : Int32} {g r : qM} (hc : w_cs 35 n g r) : w_cs 35 n (q_up g 36 p x) (q_up r 75 p x) := by
  obtain ⟨c1, c6, c7⟩ := hc
  refine ⟨c1, fun d a b => c6 d a b, fun q hq => ⟨?_, (c7 q hq).2.1, (c7 q hq).2.2⟩⟩
  rw [q_up_at, q_up_at, show g 36 q = r 75 q from (c7 q hq).1]
theorem w_sm_put {n p : Nat} {x : Int32} {g r : qM} (hs : w_sm n g r) : w_sm n (q_up g 75 p x) (q_up r 75 p x) := by
  obtain ⟨c1, c6, c7⟩ := hs
  refine ⟨c1, fun d a b => c6 d a b, fun q hq => ⟨?_, (c7 q hq).2.1, (c7 q hq).2.2⟩⟩
  rw [q_up_at, q_up_at, (c7 q hq).1]
theorem w_size {n W H : Nat} {r : qM} (h : w_ok n W H r) : r 70 2 * r 70 3 = Int32.ofNat (W * H) := by
  rw [h.2.2.1, h.2.2.2.1, q_mul]
theorem w_WH {n W H : Nat} {r : qM} (h : w_ok n W H r) : W * H ≤ 25 := Nat.le_trans (Nat.mul_le_mul h.1.2.1 h.1.2.2.2.1) (Nat.le_refl 25)
theorem d_hw_iff {x : Int32} {g : qM} : d_hasWall x g = 0 ↔ s_bit (g 20 2) x = 0 := by
  unfold d_hasWall s_bit
  split
  · rename_i e
    exact ⟨fun _ => e, fun _ => rfl⟩
  · rename_i e
    exact ⟨fun z => absurd z (by decide), fun z => absurd z e⟩
theorem sg_oc_1 (big : Nat → List Value → qM → qW → qR) (n0 : Nat) (G : qM) (U : qW) (v0 : Int32) (v1 : Int32) : qm_run pm_m big m_103 (n0 + 5) 2 [(0, .ref 35), (1, .int v0), (2, .int v1)] [] G U = qm_run pm_m big m_103 n0 9 [(0, .ref 35), (1, .int v0), (2, .int v1)] [.int (G 35 3), .int (v1 + (1 : Int32))] G U := rfl
theorem sg_oc_2 (big : Nat → List Value → qM → qW → qR) (n0 : Nat) (G : qM) (U : qW) (v0 : Int32) (v1 : Int32) : qm_run pm_m big m_103 (n0 + 8) 12 [(0, .ref 35), (1, .int v0), (2, .int v1)] [] G U = qm_run pm_m big m_103 n0 24 [(0, .ref 35), (1, .int v0), (2, .int v1)] [.int (v1 + (1 : Int32)), .ref 36, .int v1, .ref 36] G U := rfl
theorem sg_oc_3 (big : Nat → List Value → qM → qW → qR) (n0 : Nat) (G : qM) (U : qW) (v0 : Int32) (v1 : Int32) : qm_run pm_m big m_103 (n0 + 8) 26 [(0, .ref 35), (1, .int v0), (2, .int v1)] [] G U = qm_run pm_m big m_103 n0 38 [(0, .ref 35), (1, .int v0), (2, .int v1)] [.int (v1 + (1 : Int32)), .ref 37, .int v1, .ref 37] G U := rfl
theorem sg_oc_4 (big : Nat → List Value → qM → qW → qR) (n0 : Nat) (G : qM) (U : qW) (v0 : Int32) (v1 : Int32) : qm_run pm_m big m_103 (n0 + 8) 40 [(0, .ref 35), (1, .int v0), (2, .int v1)] [] G U = qm_run pm_m big m_103 n0 52 [(0, .ref 35), (1, .int v0), (2, .int v1)] [.int (v1 + (1 : Int32)), .ref 38, .int v1, .ref 38] G U := rfl
theorem sg_oc_5 (big : Nat → List Value → qM → qW → qR) (n0 : Nat) (G : qM) (U : qW) (v0 : Int32) (v1 : Int32) : qm_run pm_m big m_103 (n0 + 8) 54 [(0, .ref 35), (1, .int v0), (2, .int v1)] [] G U = qm_run pm_m big m_103 n0 66 [(0, .ref 35), (1, .int v0), (2, .int v1)] [.int (v1 + (1 : Int32)), .ref 39, .int v1, .ref 39] G U := rfl
theorem sg_oc_6 (big : Nat → List Value → qM → qW → qR) (n0 : Nat) (G : qM) (U : qW) (v0 : Int32) (v1 : Int32) : qm_run pm_m big m_103 (n0 + 2) 68 [(0, .ref 35), (1, .int v0), (2, .int v1)] [] G U = qm_run pm_m big m_103 n0 2 [(0, .ref 35), (1, .int v0), (2, .int (v1 + (1 : Int32)))] [] G U := rfl
theorem sg_oc_7 (big : Nat → List Value → qM → qW → qR) (n0 : Nat) (G : qM) (U : qW) (v0 : Int32) : qm_run pm_m big m_103 (n0 + 2) 0 [(0, .ref 35), (1, .int v0)] [] G U = qm_run pm_m big m_103 n0 2 [(0, .ref 35), (1, .int v0), (2, .int v0)] [] G U := rfl
theorem sg_oc_8 (big : Nat → List Value → qM → qW → qR) (n0 : Nat) (G : qM) (U : qW) (v0 : Int32) (v1 : Int32) : qm_run pm_m big m_102 (n0 + 3) 4 [(0, .ref 34), (1, .ref 20), (2, .int v0), (3, .int v1)] [] G U = qm_run pm_m big m_102 n0 9 [(0, .ref 34), (1, .ref 20), (2, .int v0), (3, .int v1)] [.int (G 20 3), .int v1] G U := rfl
theorem sg_oc_9 (big : Nat → List Value → qM → qW → qR) (n0 : Nat) (G : qM) (U : qW) (v0 : Int32) (v1 : Int32) : qm_run pm_m big m_102 (n0 + 3) 12 [(0, .ref 34), (1, .ref 20), (2, .int v0), (3, .int v1)] [] G U = qm_run pm_m big m_102 n0 17 [(0, .ref 34), (1, .ref 20), (2, .int v0), (3, .int v1)] [.ref 20, .ref 35] G U := rfl
theorem sg_oc_10 (big : Nat → List Value → qM → qW → qR) (n0 : Nat) (G : qM) (U : qW) (v0 : Int32) (v1 : Int32) : qm_run pm_m big m_102 (n0 + 3) 20 [(0, .ref 34), (1, .ref 20), (2, .int v0), (3, .int v1)] [] G U = qm_run pm_m big m_102 n0 25 [(0, .ref 34), (1, .ref 20), (2, .int v0), (3, .int v1)] [.int v1, .ref 35] G U := rfl
theorem sg_oc_11 (big : Nat → List Value → qM → qW → qR) (n0 : Nat) (G : qM) (U : qW) (v0 : Int32) (v1 : Int32) : qm_run pm_m big m_102 (n0 + 2) 28 [(0, .ref 34), (1, .ref 20), (2, .int v0), (3, .int v1)] [] G U = qm_run pm_m big m_102 n0 30 [(0, .ref 34), (1, .ref 20), (2, .int v0), (3, .int v1)] [.ref 34, .int v0] G U := rfl
theorem sg_oc_12 (big : Nat → List Value → qM → qW → qR) (n0 : Nat) (G : qM) (U : qW) (v0 : Int32) (v1 : Int32) (v2 : Int32) : qm_run pm_m big m_102 (n0 + 9) 33 [(0, .ref 34), (1, .ref 20), (2, .int v0), (3, .int v1)] [.int (1 : Int32), .int v2] G U = qm_run pm_m big m_102 n0 4 [(0, .ref 34), (1, .ref 20), (2, .int (v2 ||| ((1 : Int32) <<< (v1 &&& 31)))), (3, .int (v1 + (1 : Int32)))] [] G U := rfl
theorem sg_oc_13 (big : Nat → List Value → qM → qW → qR) (n0 : Nat) (G : qM) (U : qW) (v0 : Int32) (v1 : Int32) (v2 : Int32) : qm_run pm_m big m_102 (n0 + 6) 33 [(0, .ref 34), (1, .ref 20), (2, .int v0), (3, .int v1)] [.int (0 : Int32), .int v2] G U = qm_run pm_m big m_102 n0 4 [(0, .ref 34), (1, .ref 20), (2, .int (v2 ||| (0 : Int32))), (3, .int (v1 + (1 : Int32)))] [] G U := rfl
theorem sg_oc_14 (big : Nat → List Value → qM → qW → qR) (n0 : Nat) (G : qM) (U : qW) : qm_run pm_m big m_102 (n0 + 4) 0 [(0, .ref 34), (1, .ref 20)] [] G U = qm_run pm_m big m_102 n0 4 [(0, .ref 34), (1, .ref 20), (2, .int (0 : Int32)), (3, .int (0 : Int32))] [] G U := rfl
theorem sg_oc_15 (big : Nat → List Value → qM → qW → qR) (n0 : Nat) (G : qM) (U : qW) : qm_run pm_m big m_101 (n0 + 4) 0 [(0, .ref 8)] [] G U = qm_run pm_m big m_101 n0 8 [(0, .ref 8)] [.ref 20, .ref 34] G U := rfl
theorem sg_oc_16 (big : Nat → List Value → qM → qW → qR) (n0 : Nat) (G : qM) (U : qW) (v0 : Int32) (v1 : Int32) (v2 : Int32) : qm_run pm_m big m_206 (n0 + 5) 18 [(0, .ref 70), (1, .int v0), (2, .int v1), (3, .int v2)] [] G U = qm_run pm_m big m_206 n0 25 [(0, .ref 70), (1, .int v0), (2, .int v1), (3, .int v2)] [.int (G 70 4), .int (v2 + (1 : Int32))] G U := rfl
theorem sg_oc_17 (big : Nat → List Value → qM → qW → qR) (n0 : Nat) (G : qM) (U : qW) (v0 : Int32) (v1 : Int32) (v2 : Int32) : qm_run pm_m big m_206 (n0 + 8) 28 [(0, .ref 70), (1, .int v0), (2, .int v1), (3, .int v2)] [] G U = qm_run pm_m big m_206 n0 40 [(0, .ref 70), (1, .int v0), (2, .int v1), (3, .int v2)] [.int (v2 + (1 : Int32)), .ref 75, .int v2, .ref 75] G U := rfl
theorem sg_oc_18 (big : Nat → List Value → qM → qW → qR) (n0 : Nat) (G : qM) (U : qW) (v0 : Int32) (v1 : Int32) (v2 : Int32) : qm_run pm_m big m_206 (n0 + 8) 42 [(0, .ref 70), (1, .int v0), (2, .int v1), (3, .int v2)] [] G U = qm_run pm_m big m_206 n0 54 [(0, .ref 70), (1, .int v0), (2, .int v1), (3, .int v2)] [.int (v2 + (1 : Int32)), .ref 76, .int v2, .ref 76] G U := rfl
theorem sg_oc_19 (big : Nat → List Value → qM → qW → qR) (n0 : Nat) (G : qM) (U : qW) (v0 : Int32) (v1 : Int32) (v2 : Int32) : qm_run pm_m big m_206 (n0 + 8) 56 [(0, .ref 70), (1, .int v0), (2, .int v1), (3, .int v2)] [] G U = qm_run pm_m big m_206 n0 68 [(0, .ref 70), (1, .int v0), (2, .int v1), (3, .int v2)] [.int (v2 + (1 : Int32)), .ref 77, .int v2, .ref 77] G U := rfl
theorem sg_oc_20 (big : Nat → List Value → qM → qW → qR) (n0 : Nat) (G : qM) (U : qW) (v0 : Int32) (v1 : Int32) (v2 : Int32) : qm_run pm_m big m_206 (n0 + 2) 70 [(0, .ref 70), (1, .int v0), (2, .int v1), (3, .int v2)] [] G U = qm_run pm_m big m_206 n0 18 [(0, .ref 70), (1, .int v0), (2, .int v1), (3, .int (v2 + (1 : Int32)))] [] G U := rfl
theorem sg_oc_21 (big : Nat → List Value → qM → qW → qR) (n0 : Nat) (G : qM) (U : qW) (v0 : Int32) (v1 : Int32) : qm_run pm_m big m_206 (n0 + 3) 4 [(0, .ref 70), (1, .int v0), (2, .int v1)] [] G U = qm_run pm_m big m_206 n0 9 [(0, .ref 70), (1, .int v0), (2, .int v1)] [.int (G 70 4), .int v1] G U := rfl
theorem sg_oc_22 (big : Nat → List Value → qM → qW → qR) (n0 : Nat) (G : qM) (U : qW) (v0 : Int32) (v1 : Int32) : qm_run pm_m big m_206 (n0 + 1) 12 [(0, .ref 70), (1, .int v0), (2, .int v1)] [] G U = qm_run pm_m big m_206 n0 13 [(0, .ref 70), (1, .int v0), (2, .int v1)] [.ref 70] G U := rfl
theorem sg_oc_23 (big : Nat → List Value → qM → qW → qR) (n0 : Nat) (G : qM) (U : qW) (v0 : Int32) (v1 : Int32) : qm_run pm_m big m_206 (n0 + 2) 16 [(0, .ref 70), (1, .int v0), (2, .int v1)] [] G U = qm_run pm_m big m_206 n0 18 [(0, .ref 70), (1, .int v0), (2, .int v1), (3, .int v1)] [] G U := rfl
theorem sg_oc_24 (big : Nat → List Value → qM → qW → qR) (n0 : Nat) (G : qM) (U : qW) (v0 : Int32) (v1 : Int32) (v2 : Int32) : qm_run pm_m big m_206 (n0 + 8) 76 [(0, .ref 70), (1, .int v0), (2, .int v1), (3, .int v2)] [] G U = qm_run pm_m big m_206 n0 88 [(0, .ref 70), (1, .int v0), (2, .int v1), (3, .int v2)] [.ref 70, .int v0] (q_up G 70 27 ((G 70 4) - (1 : Int32))) U := rfl
theorem sg_oc_25 (big : Nat → List Value → qM → qW → qR) (n0 : Nat) (G : qM) (U : qW) (v0 : Int32) (v1 : Int32) (v2 : Int32) (v3 : Int32) : qm_run pm_m big m_206 (n0 + 2) 94 [(0, .ref 70), (1, .int v0), (2, .int v1), (3, .int v2)] [.int v3] G U = qm_run pm_m big m_206 n0 99 [(0, .ref 70), (1, .int v0), (2, .int v1), (3, .int v2)] [.int (1 : Int32), .int v3] G U := rfl
theorem sg_oc_26 (big : Nat → List Value → qM → qW → qR) (n0 : Nat) (G : qM) (U : qW) (v0 : Int32) (v1 : Int32) (v2 : Int32) (v3 : Int32) : qm_run pm_m big m_206 (n0 + 6) 102 [(0, .ref 70), (1, .int v0), (2, .int v1), (3, .int v2)] [.int (1 : Int32), .int v3] G U = qm_run pm_m big m_206 n0 4 [(0, .ref 70), (1, .int (v3 ||| ((1 : Int32) <<< (v1 &&& 31)))), (2, .int (v1 + (1 : Int32))), (3, .int v2)] [] G U := rfl
theorem sg_oc_27 (big : Nat → List Value → qM → qW → qR) (n0 : Nat) (G : qM) (U : qW) (v0 : Int32) (v1 : Int32) (v2 : Int32) (v3 : Int32) : qm_run pm_m big m_206 (n0 + 1) 98 [(0, .ref 70), (1, .int v0), (2, .int v1), (3, .int v2)] [.int v3] G U = qm_run pm_m big m_206 n0 99 [(0, .ref 70), (1, .int v0), (2, .int v1), (3, .int v2)] [.int (0 : Int32), .int v3] G U := rfl
theorem sg_oc_28 (big : Nat → List Value → qM → qW → qR) (n0 : Nat) (G : qM) (U : qW) (v0 : Int32) (v1 : Int32) (v2 : Int32) (v3 : Int32) : qm_run pm_m big m_206 (n0 + 6) 102 [(0, .ref 70), (1, .int v0), (2, .int v1), (3, .int v2)] [.int (0 : Int32), .int v3] G U = qm_run pm_m big m_206 n0 4 [(0, .ref 70), (1, .int (v3 ||| ((0 : Int32) <<< (v1 &&& 31)))), (2, .int (v1 + (1 : Int32))), (3, .int v2)] [] G U := rfl
theorem sg_oc_29 (big : Nat → List Value → qM → qW → qR) (n0 : Nat) (G : qM) (U : qW) : qm_run pm_m big m_206 (n0 + 4) 0 [(0, .ref 70)] [] G U = qm_run pm_m big m_206 n0 4 [(0, .ref 70), (1, .int (0 : Int32)), (2, .int (0 : Int32))] [] G U := rfl
theorem sg_oc_30 (big : Nat → List Value → qM → qW → qR) (n0 : Nat) (G : qM) (U : qW) (v0 : Int32) : qm_run pm_m big m_28 (n0 + 2) 0 [(0, .ref 20), (1, .int v0)] [] G U = qm_run pm_m big m_28 n0 2 [(0, .ref 20), (1, .int v0)] [.int v0, .ref 20] G U := rfl
theorem sg_oc_31 (big : Nat → List Value → qM → qW → qR) (n0 : Nat) (G : qM) (U : qW) (v0 : Int32) : qm_run pm_m big m_28 (n0 + 2) 8 [(0, .ref 20), (1, .int v0)] [] G U = qm_run pm_m big m_28 n0 10 [(0, .ref 20), (1, .int v0)] [.int v0, .ref 20] G U := rfl
theorem sg_oc_32 (big : Nat → List Value → qM → qW → qR) (n0 : Nat) (G : qM) (U : qW) (v0 : Int32) (v1 : Int32) : qm_run pm_m big m_28 (n0 + 1) 13 [(0, .ref 20), (1, .int v0)] [.int v1] G U = qm_run pm_m big m_28 n0 15 [(0, .ref 20), (1, .int v0)] [.int (Int8.toInt32 (Int8.ofInt (-4))), .int v1] G U := rfl
theorem sg_oc_33 (big : Nat → List Value → qM → qW → qR) (n0 : Nat) (G : qM) (U : qW) (v0 : Int32) (v1 : Int32) : qm_run pm_m big m_50 (n0 + 4) 0 [(0, .ref 20), (1, .int v0), (2, .int v1)] [] G U = qm_run pm_m big m_50 n0 6 [(0, .ref 20), (1, .int v0), (2, .int v1)] [.int v0, .ref 21, .int v1] G U := rfl
theorem sg_oc_34 (big : Nat → List Value → qM → qW → qR) (n0 : Nat) (G : qM) (U : qW) (v0 : Int32) (v1 : Int32) : qm_run pm_m big m_50 (n0 + 2) 10 [(0, .ref 20), (1, .int v0), (2, .int v1)] [] G U = qm_run pm_m big m_50 n0 12 [(0, .ref 20), (1, .int v0), (2, .int v1)] [.int v1, .ref 20] G U := rfl
theorem sg_oc_35 (big : Nat → List Value → qM → qW → qR) (n0 : Nat) (G : qM) (U : qW) (v0 : Int32) (v1 : Int32) (v2 : Int32) : qm_run pm_m big m_105 (n0 + 2) 13 [(0, .ref 34), (1, .ref 20), (2, .int v0), (3, .int v1), (4, .int v2)] [] G U = qm_run pm_m big m_105 n0 16 [(0, .ref 34), (1, .ref 20), (2, .int v0), (3, .int v1), (4, .int v2)] [.ref 20, .int v2] G U := rfl
theorem sg_oc_36 (big : Nat → List Value → qM → qW → qR) (n0 : Nat) (G : qM) (U : qW) (v0 : Int32) (v1 : Int32) (v2 : Int32) : qm_run pm_m big m_105 (n0 + 3) 22 [(0, .ref 34), (1, .ref 20), (2, .int v0), (3, .int v1), (4, .int v2)] [] G U = qm_run pm_m big m_105 n0 26 [(0, .ref 34), (1, .ref 20), (2, .int v0), (3, .int v1), (4, .int v2)] [.int v2, .int v0, .ref 20] G U := rfl
theorem sg_oc_37 (big : Nat → List Value → qM → qW → qR) (n0 : Nat) (G : qM) (U : qW) (v0 : Int32) (v1 : Int32) (v2 : Int32) : qm_run pm_m big m_105 (n0 + 3) 29 [(0, .ref 34), (1, .ref 20), (2, .int v0), (3, .int v1), (4, .int v2)] [.int (0 : Int32)] G U = qm_run pm_m big m_105 n0 13 [(0, .ref 34), (1, .ref 20), (2, .int v0), (3, .int v1), (4, .int (v2 + (1 : Int32)))] [] G U := rfl
theorem sg_oc_38 (big : Nat → List Value → qM → qW → qR) (n0 : Nat) (G : qM) (U : qW) (v0 : Int32) (v1 : Int32) (v2 : Int32) : qm_run pm_m big m_105 (n0 + 4) 29 [(0, .ref 34), (1, .ref 20), (2, .int v0), (3, .int v1), (4, .int v2)] [.int (1 : Int32)] G U = qm_run pm_m big m_105 n0 37 [(0, .ref 34), (1, .ref 20), (2, .int v0), (3, .int v1), (4, .int v2)] [.ref 20, .ref 35] G U := rfl
theorem sg_oc_39 (big : Nat → List Value → qM → qW → qR) (n0 : Nat) (G : qM) (U : qW) (v0 : Int32) (v1 : Int32) (v2 : Int32) : qm_run pm_m big m_105 (n0 + 5) 40 [(0, .ref 34), (1, .ref 20), (2, .int v0), (3, .int v1), (4, .int v2)] [] G U = qm_run pm_m big m_105 n0 50 [(0, .ref 34), (1, .ref 20), (2, .int v0), (3, .int v1), (4, .int v2)] [.int v2, .int v0, .ref 36] G U := rfl
theorem sg_oc_40 (big : Nat → List Value → qM → qW → qR) (n0 : Nat) (G : qM) (U : qW) (v0 : Int32) (v1 : Int32) (v2 : Int32) : qm_run pm_m big m_105 (n0 + 2) 51 [(0, .ref 34), (1, .ref 20), (2, .int v0), (3, .int v1), (4, .int v2)] [] G U = qm_run pm_m big m_105 n0 53 [(0, .ref 34), (1, .ref 20), (2, .int v0), (3, .int v1), (4, .int v2)] [.ref 34, .int v1] G U := rfl
theorem sg_oc_41 (big : Nat → List Value → qM → qW → qR) (n0 : Nat) (G : qM) (U : qW) (v0 : Int32) (v1 : Int32) (v2 : Int32) (v3 : Int32) : qm_run pm_m big m_105 (n0 + 9) 56 [(0, .ref 34), (1, .ref 20), (2, .int v0), (3, .int v1), (4, .int v2)] [.int (1 : Int32), .int v3] G U = qm_run pm_m big m_105 n0 13 [(0, .ref 34), (1, .ref 20), (2, .int v0), (3, .int (v3 ||| ((1 : Int32) <<< (v2 &&& 31)))), (4, .int (v2 + (1 : Int32)))] [] G U := rfl
theorem sg_oc_42 (big : Nat → List Value → qM → qW → qR) (n0 : Nat) (G : qM) (U : qW) (v0 : Int32) (v1 : Int32) (v2 : Int32) (v3 : Int32) : qm_run pm_m big m_105 (n0 + 6) 56 [(0, .ref 34), (1, .ref 20), (2, .int v0), (3, .int v1), (4, .int v2)] [.int (0 : Int32), .int v3] G U = qm_run pm_m big m_105 n0 13 [(0, .ref 34), (1, .ref 20), (2, .int v0), (3, .int (v3 ||| (0 : Int32))), (4, .int (v2 + (1 : Int32)))] [] G U := rfl
theorem sg_oc_43 (big : Nat → List Value → qM → qW → qR) (n0 : Nat) (G : qM) (U : qW) (v0 : Int32) : qm_run pm_m big m_105 (n0 + 3) 0 [(0, .ref 34), (1, .ref 20), (2, .int v0)] [] G U = qm_run pm_m big m_105 n0 5 [(0, .ref 34), (1, .ref 20), (2, .int v0)] [.ref 20, .ref 35] G U := rfl
theorem sg_oc_44 (big : Nat → List Value → qM → qW → qR) (n0 : Nat) (G : qM) (U : qW) (v0 : Int32) : qm_run pm_m big m_105 (n0 + 4) 8 [(0, .ref 34), (1, .ref 20), (2, .int v0)] [] G U = qm_run pm_m big m_105 n0 13 [(0, .ref 34), (1, .ref 20), (2, .int v0), (3, .int (0 : Int32)), (4, .int (0 : Int32))] [] G U := rfl
theorem sg_oc_45 (big : Nat → List Value → qM → qW → qR) (n0 : Nat) (G : qM) (U : qW) (v0 : Int32) : qm_run pm_m big m_104 (n0 + 3) 0 [(0, .ref 8), (1, .int v0)] [] G U = qm_run pm_m big m_104 n0 5 [(0, .ref 8), (1, .int v0)] [.int v0, .ref 20] G U := rfl
theorem sg_oc_46 (big : Nat → List Value → qM → qW → qR) (n0 : Nat) (G : qM) (U : qW) (v0 : Int32) : qm_run pm_m big m_104 (n0 + 6) 8 [(0, .ref 8), (1, .int v0)] [.int (1 : Int32)] G U = qm_run pm_m big m_104 n0 20 [(0, .ref 8), (1, .int v0)] [.int v0, .ref 20, .ref 34] G U := rfl
theorem sg_oc_47 (big : Nat → List Value → qM → qW → qR) (n0 : Nat) (G : qM) (U : qW) (v0 : Int32) (v1 : Int32) (v2 : Int32) : qm_run pm_m big m_207 (n0 + 6) 14 [(0, .ref 70), (1, .int v0), (2, .int v1), (3, .int v2)] [] G U = qm_run pm_m big m_207 n0 24 [(0, .ref 70), (1, .int v0), (2, .int v1), (3, .int v2)] [.int ((G 70 2) * (G 70 3)), .int v2] G U := rfl
theorem sg_oc_48 (big : Nat → List Value → qM → qW → qR) (n0 : Nat) (G : qM) (U : qW) (v0 : Int32) (v1 : Int32) (v2 : Int32) : qm_run pm_m big m_207 (n0 + 1) 27 [(0, .ref 70), (1, .int v0), (2, .int v1), (3, .int v2)] [] G U = qm_run pm_m big m_207 n0 28 [(0, .ref 70), (1, .int v0), (2, .int v1), (3, .int v2)] [.ref 70] G U := rfl
theorem sg_oc_49 (big : Nat → List Value → qM → qW → qR) (n0 : Nat) (G : qM) (U : qW) (v0 : Int32) (v1 : Int32) (v2 : Int32) : qm_run pm_m big m_207 (n0 + 2) 31 [(0, .ref 70), (1, .int v0), (2, .int v1), (3, .int v2)] [] G U = qm_run pm_m big m_207 n0 33 [(0, .ref 70), (1, .int v0), (2, .int v1), (3, .int v2)] [.int v2, .ref 70] G U := rfl
theorem sg_oc_50 (big : Nat → List Value → qM → qW → qR) (n0 : Nat) (G : qM) (U : qW) (v0 : Int32) (v1 : Int32) (v2 : Int32) (v3 : Int32) : qm_run pm_m big m_207 (n0 + 3) 36 [(0, .ref 70), (1, .int v0), (2, .int v1), (3, .int v2)] [.int v3] G U = qm_run pm_m big m_207 n0 40 [(0, .ref 70), (1, .int v0), (2, .int v1), (3, .int v2), (4, .int v3)] [.int v2, .ref 70] G U := rfl
theorem sg_oc_51 (big : Nat → List Value → qM → qW → qR) (n0 : Nat) (G : qM) (U : qW) (v0 : Int32) (v1 : Int32) (v2 : Int32) (v3 : Int32) : qm_run pm_m big m_207 (n0 + 2) 86 [(0, .ref 70), (1, .int v0), (2, .int v1), (3, .int v2), (4, .int v3)] [] G U = qm_run pm_m big m_207 n0 14 [(0, .ref 70), (1, .int v0), (2, .int v1), (3, .int (v2 + (1 : Int32))), (4, .int v3)] [] G U := rfl
theorem sg_oc_52 (big : Nat → List Value → qM → qW → qR) (n0 : Nat) (G : qM) (U : qW) (v0 : Int32) (v1 : Int32) (v2 : Int32) (v3 : Int32) : qm_run pm_m big m_207 (n0 + 2) 46 [(0, .ref 70), (1, .int v0), (2, .int v1), (3, .int v2), (4, .int v3)] [] G U = qm_run pm_m big m_207 n0 50 [(0, .ref 70), (1, .int v0), (2, .int v1), (3, .int v2), (4, .int v3)] [.int (Int8.toInt32 (Int8.ofInt (-4))), .int v3] G U := rfl
theorem sg_oc_53 (big : Nat → List Value → qM → qW → qR) (n0 : Nat) (G : qM) (U : qW) (v0 : Int32) (v1 : Int32) (v2 : Int32) (v3 : Int32) : qm_run pm_m big m_207 (n0 + 4) 59 [(0, .ref 70), (1, .int v0), (2, .int v1), (3, .int v2), (4, .int v3)] [] G U = qm_run pm_m big m_207 n0 65 [(0, .ref 70), (1, .int v0), (2, .int v1), (3, .int v2), (4, .int v3)] [.int v2, .int v0, .ref 75] G U := rfl
theorem sg_oc_54 (big : Nat → List Value → qM → qW → qR) (n0 : Nat) (G : qM) (U : qW) (v0 : Int32) (v1 : Int32) (v2 : Int32) (v3 : Int32) : qm_run pm_m big m_207 (n0 + 2) 66 [(0, .ref 70), (1, .int v0), (2, .int v1), (3, .int v2), (4, .int v3)] [] G U = qm_run pm_m big m_207 n0 68 [(0, .ref 70), (1, .int v0), (2, .int v1), (3, .int v2), (4, .int v3)] [.ref 70, .int v1] G U := rfl
theorem sg_oc_55 (big : Nat → List Value → qM → qW → qR) (n0 : Nat) (G : qM) (U : qW) (v0 : Int32) (v1 : Int32) (v2 : Int32) (v3 : Int32) (v4 : Int32) : qm_run pm_m big m_207 (n0 + 2) 74 [(0, .ref 70), (1, .int v0), (2, .int v1), (3, .int v2), (4, .int v3)] [.int v4] G U = qm_run pm_m big m_207 n0 79 [(0, .ref 70), (1, .int v0), (2, .int v1), (3, .int v2), (4, .int v3)] [.int (1 : Int32), .int v4] G U := rfl
theorem sg_oc_56 (big : Nat → List Value → qM → qW → qR) (n0 : Nat) (G : qM) (U : qW) (v0 : Int32) (v1 : Int32) (v2 : Int32) (v3 : Int32) (v4 : Int32) : qm_run pm_m big m_207 (n0 + 6) 82 [(0, .ref 70), (1, .int v0), (2, .int v1), (3, .int v2), (4, .int v3)] [.int (1 : Int32), .int v4] G U = qm_run pm_m big m_207 n0 14 [(0, .ref 70), (1, .int v0), (2, .int (v4 ||| ((1 : Int32) <<< (v2 &&& 31)))), (3, .int (v2 + (1 : Int32))), (4, .int v3)] [] G U := rfl
theorem sg_oc_57 (big : Nat → List Value → qM → qW → qR) (n0 : Nat) (G : qM) (U : qW) (v0 : Int32) (v1 : Int32) (v2 : Int32) (v3 : Int32) (v4 : Int32) : qm_run pm_m big m_207 (n0 + 1) 78 [(0, .ref 70), (1, .int v0), (2, .int v1), (3, .int v2), (4, .int v3)] [.int v4] G U = qm_run pm_m big m_207 n0 79 [(0, .ref 70), (1, .int v0), (2, .int v1), (3, .int v2), (4, .int v3)] [.int (0 : Int32), .int v4] G U := rfl
theorem sg_oc_58 (big : Nat → List Value → qM → qW → qR) (n0 : Nat) (G : qM) (U : qW) (v0 : Int32) (v1 : Int32) (v2 : Int32) (v3 : Int32) (v4 : Int32) : qm_run pm_m big m_207 (n0 + 6) 82 [(0, .ref 70), (1, .int v0), (2, .int v1), (3, .int v2), (4, .int v3)] [.int (0 : Int32), .int v4] G U = qm_run pm_m big m_207 n0 14 [(0, .ref 70), (1, .int v0), (2, .int (v4 ||| ((0 : Int32) <<< (v2 &&& 31)))), (3, .int (v2 + (1 : Int32))), (4, .int v3)] [] G U := rfl
theorem sg_oc_59 (big : Nat → List Value → qM → qW → qR) (n0 : Nat) (G : qM) (U : qW) (v0 : Int32) (v1 : Int32) (v2 : Int32) (v3 : Int32) : qm_run pm_m big m_207 (n0 + 2) 53 [(0, .ref 70), (1, .int v0), (2, .int v1), (3, .int v2), (4, .int v3)] [] G U = qm_run pm_m big m_207 n0 56 [(0, .ref 70), (1, .int v0), (2, .int v1), (3, .int v2), (4, .int v3)] [.int v0, .int v3] G U := rfl
theorem sg_oc_60 (big : Nat → List Value → qM → qW → qR) (n0 : Nat) (G : qM) (U : qW) (v0 : Int32) : qm_run pm_m big m_207 (n0 + 2) 0 [(0, .ref 70), (1, .int v0)] [] G U = qm_run pm_m big m_207 n0 2 [(0, .ref 70), (1, .int v0)] [.int v0, .ref 70] G U := rfl
theorem sg_oc_61 (big : Nat → List Value → qM → qW → qR) (n0 : Nat) (G : qM) (U : qW) (v0 : Int32) : qm_run pm_m big m_207 (n0 + 5) 5 [(0, .ref 70), (1, .int v0)] [.int (1 : Int32)] G U = qm_run pm_m big m_207 n0 14 [(0, .ref 70), (1, .int v0), (2, .int (0 : Int32)), (3, .int (0 : Int32))] [] G U := rfl
theorem dr_l (g : qM) (u : qW) {n p : Nat} (hn : g 35 3 = Int32.ofNat n) (h6 : n ≤ 6) : ∀ k i, i + k + 1 = n → p ≤ i → q_EV m_103 2 [(0, .ref 35), (1, .int (Int32.ofNat p)), (2, .int (Int32.ofNat i))] [] (s_drp p i g) u (fun R => R = (none, q_up (s_drp p (n - 1) g) 35 3 (g 35 3 - 1), u)) := by
  intro k
  induction k with
  | zero =>
    intro i hi hp
    refine q_step 5 9 [(0, .ref 35), (1, .int (Int32.ofNat p)), (2, .int (Int32.ofNat i))] [.int (g 35 3), .int ((Int32.ofNat i) + (1 : Int32))] (s_drp p i g) u (fun big n0 => sg_oc_1 big n0 (s_drp p i g) u (Int32.ofNat p) (Int32.ofNat i)) ?_
    refine q_ic_ge rfl (fun (hc0 : (g 35 3) ≤ ((Int32.ofNat i) + (1 : Int32))) => ?_) (fun hc0 => absurd (show (g 35 3) ≤ ((Int32.ofNat i) + (1 : Int32)) from by rw [hn, q_succ]; exact (q_le (by omega) (by omega)).mpr (by omega)) hc0)
    refine q_ret 7 (none, (q_up (s_drp p i g) 35 3 ((g 35 3) - (1 : Int32))), u) (fun _ _ => rfl) ?_
    rw [show n - 1 = i by omega]
  | succ k ih =>
    intro i hi hp
    refine q_step 5 9 [(0, .ref 35), (1, .int (Int32.ofNat p)), (2, .int (Int32.ofNat i))] [.int (g 35 3), .int ((Int32.ofNat i) + (1 : Int32))] (s_drp p i g) u (fun big n0 => sg_oc_1 big n0 (s_drp p i g) u (Int32.ofNat p) (Int32.ofNat i)) ?_
    refine q_ic_ge rfl (fun hc0 => absurd (show (g 35 3) ≤ ((Int32.ofNat i) + (1 : Int32)) from hc0) (fun z => by rw [hn, q_succ] at z; exact absurd ((q_le (by omega) (by omega)).mp z) (by omega))) (fun (hc0 : ¬ ((g 35 3) ≤ ((Int32.ofNat i) + (1 : Int32)))) => ?_)
    refine q_step 8 24 [(0, .ref 35), (1, .int (Int32.ofNat p)), (2, .int (Int32.ofNat i))] [.int ((Int32.ofNat i) + (1 : Int32)), .ref 36, .int (Int32.ofNat i), .ref 36] (s_drp p i g) u (fun big n0 => sg_oc_2 big n0 (s_drp p i g) u (Int32.ofNat p) (Int32.ofNat i)) ?_
    refine q_iald (j := (i + 1)) (by rw [q_succ]; exact q_ixn (by omega) (by omega)) rfl rfl ?_
    refine q_iast (j := i) (q_ixn (by omega) (by omega)) rfl rfl ?_
    refine q_step 8 38 [(0, .ref 35), (1, .int (Int32.ofNat p)), (2, .int (Int32.ofNat i))] [.int ((Int32.ofNat i) + (1 : Int32)), .ref 37, .int (Int32.ofNat i), .ref 37] (q_up (s_drp p i g) 36 i ((s_drp p i g) 36 (i + 1))) u (fun big n0 => sg_oc_3 big n0 (q_up (s_drp p i g) 36 i ((s_drp p i g) 36 (i + 1))) u (Int32.ofNat p) (Int32.ofNat i)) ?_
    refine q_iald (j := (i + 1)) (by rw [q_succ]; exact q_ixn (by omega) (by omega)) rfl rfl ?_
    refine q_iast (j := i) (q_ixn (by omega) (by omega)) rfl rfl ?_
    refine q_step 8 52 [(0, .ref 35), (1, .int (Int32.ofNat p)), (2, .int (Int32.ofNat i))] [.int ((Int32.ofNat i) + (1 : Int32)), .ref 38, .int (Int32.ofNat i), .ref 38] (q_up (q_up (s_drp p i g) 36 i ((s_drp p i g) 36 (i + 1))) 37 i ((s_drp p i g) 37 (i + 1))) u (fun big n0 => sg_oc_4 big n0 (q_up (q_up (s_drp p i g) 36 i ((s_drp p i g) 36 (i + 1))) 37 i ((s_drp p i g) 37 (i + 1))) u (Int32.ofNat p) (Int32.ofNat i)) ?_
    refine q_iald (j := (i + 1)) (by rw [q_succ]; exact q_ixn (by omega) (by omega)) rfl rfl ?_
    refine q_iast (j := i) (q_ixn (by omega) (by omega)) rfl rfl ?_
    refine q_step 8 66 [(0, .ref 35), (1, .int (Int32.ofNat p)), (2, .int (Int32.ofNat i))] [.int ((Int32.ofNat i) + (1 : Int32)), .ref 39, .int (Int32.ofNat i), .ref 39] (q_up (q_up (q_up (s_drp p i g) 36 i ((s_drp p i g) 36 (i + 1))) 37 i ((s_drp p i g) 37 (i + 1))) 38 i ((s_drp p i g) 38 (i + 1))) u (fun big n0 => sg_oc_5 big n0 (q_up (q_up (q_up (s_drp p i g) 36 i ((s_drp p i g) 36 (i + 1))) 37 i ((s_drp p i g) 37 (i + 1))) 38 i ((s_drp p i g) 38 (i + 1))) u (Int32.ofNat p) (Int32.ofNat i)) ?_
    refine q_iald (j := (i + 1)) (by rw [q_succ]; exact q_ixn (by omega) (by omega)) rfl rfl ?_
    refine q_iast (j := i) (q_ixn (by omega) (by omega)) rfl rfl ?_
    refine q_step 2 2 [(0, .ref 35), (1, .int (Int32.ofNat p)), (2, .int ((Int32.ofNat i) + (1 : Int32)))] [] (q_up (q_up (q_up (q_up (s_drp p i g) 36 i ((s_drp p i g) 36 (i + 1))) 37 i ((s_drp p i g) 37 (i + 1))) 38 i ((s_drp p i g) 38 (i + 1))) 39 i ((s_drp p i g) 39 (i + 1))) u (fun big n0 => sg_oc_6 big n0 (q_up (q_up (q_up (q_up (s_drp p i g) 36 i ((s_drp p i g) 36 (i + 1))) 37 i ((s_drp p i g) 37 (i + 1))) 38 i ((s_drp p i g) 38 (i + 1))) 39 i ((s_drp p i g) 39 (i + 1))) u (Int32.ofNat p) (Int32.ofNat i)) ?_
    rw [q_succ, show (q_up (q_up (q_up (q_up (s_drp p i g) 36 i ((s_drp p i g) 36 (i + 1))) 37 i ((s_drp p i g) 37 (i + 1))) 38 i ((s_drp p i g) 38 (i + 1))) 39 i ((s_drp p i g) 39 (i + 1))) = s_drp p (i + 1) g from s_drp_s hp]
    exact ih (i + 1) (by omega) (by omega)
theorem b_drop (g : qM) (u : qW) {n p : Nat} (hn : g 35 3 = Int32.ofNat n) (h6 : n ≤ 6) (hp : p < n) : q_BS 103 [.ref 35, .int (Int32.ofNat p)] g u (none, q_up (s_drp p (n - 1) g) 35 3 (g 35 3 - 1), u) := by
  refine q_bx (mm := m_103) rfl (Nat.le_of_ble_eq_true rfl) rfl ?_
  refine q_step 2 2 [(0, .ref 35), (1, .int (Int32.ofNat p)), (2, .int (Int32.ofNat p))] [] g u (fun big n0 => sg_oc_7 big n0 g u (Int32.ofNat p)) ?_
  have e := dr_l g u (p := p) hn h6 (n - 1 - p) p (by omega) (Nat.le_refl _)
  rw [s_drp_0] at e
  exact e
theorem to_l (u : qW) {n W H : Nat} {r : qM} (h : w_ok n W H r) (h5 : n ≤ 6) : ∀ k i a g, i + k = n → w_cs 20 n g r → q_EV m_102 4 [(0, .ref 34), (1, .ref 20), (2, .int a), (3, .int (Int32.ofNat i))] [] g u (w_po w_fc g (.int (s_bs (p_out n r) k i a))) := by
  intro k
  induction k with
  | zero =>
    intro i a g hi hc
    refine q_step 3 9 [(0, .ref 34), (1, .ref 20), (2, .int a), (3, .int (Int32.ofNat i))] [.int (g 20 3), .int (Int32.ofNat i)] g u (fun big n0 => sg_oc_8 big n0 g u a (Int32.ofNat i)) ?_
    refine q_ic_ge rfl (fun (hc0 : (g 20 3) ≤ (Int32.ofNat i)) => ?_) (fun hc0 => absurd (show (g 20 3) ≤ (Int32.ofNat i) from by rw [hc.1.1, h.2.1]; exact (q_le (by omega) (by omega)).mpr (by omega)) hc0)
    refine q_ret 2 (some (.int a), g, u) (fun _ _ => rfl) ?_
    exact ⟨g, u, rfl, w_fc_rfl g⟩
  | succ k ih =>
    intro i a g hi hc
    refine q_step 3 9 [(0, .ref 34), (1, .ref 20), (2, .int a), (3, .int (Int32.ofNat i))] [.int (g 20 3), .int (Int32.ofNat i)] g u (fun big n0 => sg_oc_8 big n0 g u a (Int32.ofNat i)) ?_
    refine q_ic_ge rfl (fun hc0 => absurd (show (g 20 3) ≤ (Int32.ofNat i) from hc0) (fun z => by rw [hc.1.1, h.2.1] at z; exact absurd ((q_le (by omega) (by omega)).mp z) (by omega))) (fun (hc0 : ¬ ((g 20 3) ≤ (Int32.ofNat i))) => ?_)
    refine q_step 3 17 [(0, .ref 34), (1, .ref 20), (2, .int a), (3, .int (Int32.ofNat i))] [.ref 20, .ref 35] g u (fun big n0 => sg_oc_9 big n0 g u a (Int32.ofNat i)) ?_
    have hy := w_cpy (a := 35) (b := 20) h5 (by omega) hc
    refine q_call (M2 := 41) (rest := []) (b_cpy35_20 _ _) (fun _ _ => rfl) ?_
    refine q_step 3 25 [(0, .ref 34), (1, .ref 20), (2, .int a), (3, .int (Int32.ofNat i))] [.int (Int32.ofNat i), .ref 35] (s_cpy 35 20 g) u (fun big n0 => sg_oc_10 big n0 (s_cpy 35 20 g) u a (Int32.ofNat i)) ?_
    have ho := w_ok_out (p := i) h
    have hd := w_cs_out (p := i) (by omega) h hy
    refine q_call (M2 := 103) (rest := []) (b_drop (s_cpy 35 20 g) u (hy.1.1.trans h.2.1) h5 (by omega)) (fun _ _ => rfl) ?_
    refine q_step 2 30 [(0, .ref 34), (1, .ref 20), (2, .int a), (3, .int (Int32.ofNat i))] [.ref 34, .int a] (q_up (s_drp i (n - 1) (s_cpy 35 20 g)) 35 3 ((s_cpy 35 20 g) 35 3 - 1)) u (fun big n0 => sg_oc_11 big n0 (q_up (s_drp i (n - 1) (s_cpy 35 20 g)) 35 3 ((s_cpy 35 20 g) 35 3 - 1)) u a (Int32.ofNat i)) ?_
    by_cases hc1 : s_ran (n - 1) (gh_out n i r) = 0
    · refine q_call (M2 := 83) (rest := [.int a]) (show q_BS 83 [.ref 34] (q_up (s_drp i (n - 1) (s_cpy 35 20 g)) 35 3 ((s_cpy 35 20 g) 35 3 - 1)) u (some (.int (1 : Int32)), s_step 35 (n - 1) (q_up (s_drp i (n - 1) (s_cpy 35 20 g)) 35 3 ((s_cpy 35 20 g) 35 3 - 1)), u) from by have e := c_tar u ho hd; rw [if_pos hc1] at e; exact e) (fun _ _ => rfl) ?_
      refine q_step 9 4 [(0, .ref 34), (1, .ref 20), (2, .int (a ||| ((1 : Int32) <<< ((Int32.ofNat i) &&& 31)))), (3, .int ((Int32.ofNat i) + (1 : Int32)))] [] (s_step 35 (n - 1) (q_up (s_drp i (n - 1) (s_cpy 35 20 g)) 35 3 ((s_cpy 35 20 g) 35 3 - 1))) u (fun big n0 => sg_oc_12 big n0 (s_step 35 (n - 1) (q_up (s_drp i (n - 1) (s_cpy 35 20 g)) 35 3 ((s_cpy 35 20 g) 35 3 - 1))) u a (Int32.ofNat i) a) ?_
      have e : p_out n r i = 1 := by
        unfold p_out
        rw [if_pos hc1]
      rw [s_bs_1 e, q_succ]
      exact q_EV.imp (ih (i + 1) _ (s_step 35 (n - 1) (q_up (s_drp i (n - 1) (s_cpy 35 20 g)) 35 3 ((s_cpy 35 20 g) 35 3 - 1))) (by omega) (w_cs_fc (w_fc.trans (w_fc.up (w_fc.trans w_cpy_fc (fun b hb => s_drp_o (by omega))) (by omega)) s_step_35) hc)) (fun R z => w_po_c (w_fc.trans (w_fc.up (w_fc.trans w_cpy_fc (fun b hb => s_drp_o (by omega))) (by omega)) s_step_35) rfl z)
    · refine q_call (M2 := 83) (rest := [.int a]) (show q_BS 83 [.ref 34] (q_up (s_drp i (n - 1) (s_cpy 35 20 g)) 35 3 ((s_cpy 35 20 g) 35 3 - 1)) u (some (.int (0 : Int32)), s_step 35 (n - 1) (q_up (s_drp i (n - 1) (s_cpy 35 20 g)) 35 3 ((s_cpy 35 20 g) 35 3 - 1)), u) from by have e := c_tar u ho hd; rw [if_neg hc1] at e; exact e) (fun _ _ => rfl) ?_
      refine q_step 6 4 [(0, .ref 34), (1, .ref 20), (2, .int (a ||| (0 : Int32))), (3, .int ((Int32.ofNat i) + (1 : Int32)))] [] (s_step 35 (n - 1) (q_up (s_drp i (n - 1) (s_cpy 35 20 g)) 35 3 ((s_cpy 35 20 g) 35 3 - 1))) u (fun big n0 => sg_oc_13 big n0 (s_step 35 (n - 1) (q_up (s_drp i (n - 1) (s_cpy 35 20 g)) 35 3 ((s_cpy 35 20 g) 35 3 - 1))) u a (Int32.ofNat i) a) ?_
      have e : p_out n r i = 0 := by
        unfold p_out
        rw [if_neg hc1]
      rw [s_bs_0 e, q_succ, s_or00]
      exact q_EV.imp (ih (i + 1) _ (s_step 35 (n - 1) (q_up (s_drp i (n - 1) (s_cpy 35 20 g)) 35 3 ((s_cpy 35 20 g) 35 3 - 1))) (by omega) (w_cs_fc (w_fc.trans (w_fc.up (w_fc.trans w_cpy_fc (fun b hb => s_drp_o (by omega))) (by omega)) s_step_35) hc)) (fun R z => w_po_c (w_fc.trans (w_fc.up (w_fc.trans w_cpy_fc (fun b hb => s_drp_o (by omega))) (by omega)) s_step_35) rfl z)
theorem c_out102 {n W H : Nat} {g r : qM} (u : qW) (h : w_ok n W H r) (hc : w_cs 20 n g r) : w_BS w_fc 102 [.ref 34, .ref 20] g u (.int (f_out n r)) := by
  refine w_bs (mm := m_102) rfl (Nat.le_of_ble_eq_true rfl) rfl ?_
  refine q_step 4 4 [(0, .ref 34), (1, .ref 20), (2, .int (0 : Int32)), (3, .int (0 : Int32))] [] g u (fun big n0 => sg_oc_14 big n0 g u) ?_
  exact to_l u h h.1.2.2.2.2 n 0 0 g (by omega) hc
theorem c_out {n W H : Nat} {g r : qM} (u : qW) (h : w_ok n W H r) (hc : w_cs 20 n g r) : w_BS w_fc 101 [.ref 8] g u (.int (f_out n r)) := by
  refine w_bs (mm := m_101) rfl (Nat.le_of_ble_eq_true rfl) rfl ?_
  refine q_step 4 8 [(0, .ref 8)] [.ref 20, .ref 34] g u (fun big n0 => sg_oc_15 big n0 g u) ?_
  obtain ⟨g1, u1, hb, hf⟩ := c_out102 u h hc
  refine q_call (M2 := 102) (rest := []) (hb) (fun _ _ => rfl) ?_
  refine q_ret 1 (some (.int (f_out n r)), g1, u1) (fun _ _ => rfl) ?_
  exact ⟨g1, u1, rfl, hf⟩
theorem ro_l (g : qM) (u : qW) {n p : Nat} {a : Int32} (hn : g 70 4 = Int32.ofNat n) (h6 : n ≤ 6) {Q : Option Value × qM × qW → Prop} (hk : q_EV m_206 76 [(0, .ref 70), (1, .int a), (2, .int (Int32.ofNat p)), (3, .int (Int32.ofNat (n - 1)))] [] (s_rdr p (n - 1) g) u Q) : ∀ k i, i + k + 1 = n → p ≤ i → q_EV m_206 18 [(0, .ref 70), (1, .int a), (2, .int (Int32.ofNat p)), (3, .int (Int32.ofNat i))] [] (s_rdr p i g) u Q := by
  intro k
  induction k with
  | zero =>
    intro i hi hp
    rw [show n - 1 = i by omega] at hk
    refine q_step 5 25 [(0, .ref 70), (1, .int a), (2, .int (Int32.ofNat p)), (3, .int (Int32.ofNat i))] [.int (g 70 4), .int ((Int32.ofNat i) + (1 : Int32))] (s_rdr p i g) u (fun big n0 => sg_oc_16 big n0 (s_rdr p i g) u a (Int32.ofNat p) (Int32.ofNat i)) ?_
    refine q_ic_ge rfl (fun (hc0 : (g 70 4) ≤ ((Int32.ofNat i) + (1 : Int32))) => ?_) (fun hc0 => absurd (show (g 70 4) ≤ ((Int32.ofNat i) + (1 : Int32)) from by rw [hn, q_succ]; exact (q_le (by omega) (by omega)).mpr (by omega)) hc0)
    exact hk
  | succ k ih =>
    intro i hi hp
    refine q_step 5 25 [(0, .ref 70), (1, .int a), (2, .int (Int32.ofNat p)), (3, .int (Int32.ofNat i))] [.int (g 70 4), .int ((Int32.ofNat i) + (1 : Int32))] (s_rdr p i g) u (fun big n0 => sg_oc_16 big n0 (s_rdr p i g) u a (Int32.ofNat p) (Int32.ofNat i)) ?_
    refine q_ic_ge rfl (fun hc0 => absurd (show (g 70 4) ≤ ((Int32.ofNat i) + (1 : Int32)) from hc0) (fun z => by rw [hn, q_succ] at z; exact absurd ((q_le (by omega) (by omega)).mp z) (by omega))) (fun (hc0 : ¬ ((g 70 4) ≤ ((Int32.ofNat i) + (1 : Int32)))) => ?_)
    refine q_step 8 40 [(0, .ref 70), (1, .int a), (2, .int (Int32.ofNat p)), (3, .int (Int32.ofNat i))] [.int ((Int32.ofNat i) + (1 : Int32)), .ref 75, .int (Int32.ofNat i), .ref 75] (s_rdr p i g) u (fun big n0 => sg_oc_17 big n0 (s_rdr p i g) u a (Int32.ofNat p) (Int32.ofNat i)) ?_
    refine q_iald (j := (i + 1)) (by rw [q_succ]; exact q_ixn (by omega) (by omega)) rfl rfl ?_
    refine q_iast (j := i) (q_ixn (by omega) (by omega)) rfl rfl ?_
    refine q_step 8 54 [(0, .ref 70), (1, .int a), (2, .int (Int32.ofNat p)), (3, .int (Int32.ofNat i))] [.int ((Int32.ofNat i) + (1 : Int32)), .ref 76, .int (Int32.ofNat i), .ref 76] (q_up (s_rdr p i g) 75 i ((s_rdr p i g) 75 (i + 1))) u (fun big n0 => sg_oc_18 big n0 (q_up (s_rdr p i g) 75 i ((s_rdr p i g) 75 (i + 1))) u a (Int32.ofNat p) (Int32.ofNat i)) ?_
    refine q_iald (j := (i + 1)) (by rw [q_succ]; exact q_ixn (by omega) (by omega)) rfl rfl ?_
    refine q_iast (j := i) (q_ixn (by omega) (by omega)) rfl rfl ?_
    refine q_step 8 68 [(0, .ref 70), (1, .int a), (2, .int (Int32.ofNat p)), (3, .int (Int32.ofNat i))] [.int ((Int32.ofNat i) + (1 : Int32)), .ref 77, .int (Int32.ofNat i), .ref 77] (q_up (q_up (s_rdr p i g) 75 i ((s_rdr p i g) 75 (i + 1))) 76 i ((s_rdr p i g) 76 (i + 1))) u (fun big n0 => sg_oc_19 big n0 (q_up (q_up (s_rdr p i g) 75 i ((s_rdr p i g) 75 (i + 1))) 76 i ((s_rdr p i g) 76 (i + 1))) u a (Int32.ofNat p) (Int32.ofNat i)) ?_
    refine q_iald (j := (i + 1)) (by rw [q_succ]; exact q_ixn (by omega) (by omega)) rfl rfl ?_
    refine q_iast (j := i) (q_ixn (by omega) (by omega)) rfl rfl ?_
    refine q_step 2 18 [(0, .ref 70), (1, .int a), (2, .int (Int32.ofNat p)), (3, .int ((Int32.ofNat i) + (1 : Int32)))] [] (q_up (q_up (q_up (s_rdr p i g) 75 i ((s_rdr p i g) 75 (i + 1))) 76 i ((s_rdr p i g) 76 (i + 1))) 77 i ((s_rdr p i g) 77 (i + 1))) u (fun big n0 => sg_oc_20 big n0 (q_up (q_up (q_up (s_rdr p i g) 75 i ((s_rdr p i g) 75 (i + 1))) 76 i ((s_rdr p i g) 76 (i + 1))) 77 i ((s_rdr p i g) 77 (i + 1))) u a (Int32.ofNat p) (Int32.ofNat i)) ?_
    rw [q_succ, show (q_up (q_up (q_up (s_rdr p i g) 75 i ((s_rdr p i g) 75 (i + 1))) 76 i ((s_rdr p i g) 76 (i + 1))) 77 i ((s_rdr p i g) 77 (i + 1))) = s_rdr p (i + 1) g from s_rdr_s hp]
    exact ih (i + 1) (by omega) (by omega)
theorem ro_o (u : qW) {n W H : Nat} {r : qM} (h : w_ok n W H r) (h5 : n ≤ 5) : ∀ k i a g, i + k = n → w_sm n (s_start g) r → q_EV m_206 4 [(0, .ref 70), (1, .int a), (2, .int (Int32.ofNat i))] [] g u (w_po w_fr g (.int (s_bs (p_out n r) k i a))) := by
  intro k
  induction k with
  | zero =>
    intro i a g hi hs
    refine q_step 3 9 [(0, .ref 70), (1, .int a), (2, .int (Int32.ofNat i))] [.int (g 70 4), .int (Int32.ofNat i)] g u (fun big n0 => sg_oc_21 big n0 g u a (Int32.ofNat i)) ?_
    refine q_ic_ge rfl (fun (hc0 : (g 70 4) ≤ (Int32.ofNat i)) => ?_) (fun hc0 => absurd (show (g 70 4) ≤ (Int32.ofNat i) from by rw [w_pl h hs]; exact (q_le (by omega) (by omega)).mpr (by omega)) hc0)
    refine q_ret 2 (some (.int a), g, u) (fun _ _ => rfl) ?_
    exact ⟨g, u, rfl, w_fr_rfl g⟩
  | succ k ih =>
    intro i a g hi hs
    refine q_step 3 9 [(0, .ref 70), (1, .int a), (2, .int (Int32.ofNat i))] [.int (g 70 4), .int (Int32.ofNat i)] g u (fun big n0 => sg_oc_21 big n0 g u a (Int32.ofNat i)) ?_
    refine q_ic_ge rfl (fun hc0 => absurd (show (g 70 4) ≤ (Int32.ofNat i) from hc0) (fun z => by rw [w_pl h hs] at z; exact absurd ((q_le (by omega) (by omega)).mp z) (by omega))) (fun (hc0 : ¬ ((g 70 4) ≤ (Int32.ofNat i))) => ?_)
    refine q_step 1 13 [(0, .ref 70), (1, .int a), (2, .int (Int32.ofNat i))] [.ref 70] g u (fun big n0 => sg_oc_22 big n0 g u a (Int32.ofNat i)) ?_
    refine q_call (M2 := 172) (rest := []) (b_starts g u) (fun _ _ => rfl) ?_
    refine q_step 2 18 [(0, .ref 70), (1, .int a), (2, .int (Int32.ofNat i)), (3, .int (Int32.ofNat i))] [] (s_start g) u (fun big n0 => sg_oc_23 big n0 (s_start g) u a (Int32.ofNat i)) ?_
    have h4 : (s_start g) 70 4 = Int32.ofNat n := (show g 70 4 = Int32.ofNat n from w_pl h hs)
    have ho := w_ok_out (p := i) h
    have hd := w_sm_out (p := i) (by omega) h hs h4
    have hfr : w_fr g (s_rst (n - 1) (q_up (s_rdr i (n - 1) (s_start g)) 70 27 ((s_start g) 70 4 - 1))) := (s_start_fr.trans (s_rdr_fr.up27)).trans s_rst_fr
    have key := ro_l (s_start g) u (a := a) (Q := w_po w_fr g (.int (s_bs (p_out n r) (k + 1) i a))) (p := i) h4 (by omega) ?_ (n - 1 - i) i (by omega) (Nat.le_refl _)
    · rw [s_rdr_0] at key
      exact key
    · refine q_step 8 88 [(0, .ref 70), (1, .int a), (2, .int (Int32.ofNat i)), (3, .int (Int32.ofNat (n - 1)))] [.ref 70, .int a] (q_up (s_rdr i (n - 1) (s_start g)) 70 27 (((s_start g) 70 4) - (1 : Int32))) u (fun big n0 => sg_oc_24 big n0 (s_rdr i (n - 1) (s_start g)) u a (Int32.ofNat i) (Int32.ofNat (n - 1))) ?_
      by_cases hc0 : s_ran (n - 1) (gh_out n i r) = 0
      · have hz := (w_sm_rst ho hd).2.2
        refine q_call (M2 := 191) (rest := [.int a]) (c_rst u ho hd) (fun _ _ => rfl) ?_
        refine q_if_ne rfl (fun (hc1 : (s_ran (n - 1) (q_up (s_rdr i (n - 1) (s_start g)) 70 27 ((s_start g) 70 4 - 1))) = 0) => ?_) (fun hc1 => absurd (show (s_ran (n - 1) (q_up (s_rdr i (n - 1) (s_start g)) 70 27 ((s_start g) 70 4 - 1))) = 0 from hz.mpr hc0) hc1)
        refine q_step 2 99 [(0, .ref 70), (1, .int a), (2, .int (Int32.ofNat i)), (3, .int (Int32.ofNat (n - 1)))] [.int (1 : Int32), .int a] (s_rst (n - 1) (q_up (s_rdr i (n - 1) (s_start g)) 70 27 ((s_start g) 70 4 - 1))) u (fun big n0 => sg_oc_25 big n0 (s_rst (n - 1) (q_up (s_rdr i (n - 1) (s_start g)) 70 27 ((s_start g) 70 4 - 1))) u a (Int32.ofNat i) (Int32.ofNat (n - 1)) a) ?_
        refine q_call (M2 := 164) (rest := [.int a]) (b_flag1 _ _) (fun _ _ => rfl) ?_
        refine q_step 6 4 [(0, .ref 70), (1, .int (a ||| ((1 : Int32) <<< ((Int32.ofNat i) &&& 31)))), (2, .int ((Int32.ofNat i) + (1 : Int32))), (3, .int (Int32.ofNat (n - 1)))] [] (s_rst (n - 1) (q_up (s_rdr i (n - 1) (s_start g)) 70 27 ((s_start g) 70 4 - 1))) u (fun big n0 => sg_oc_26 big n0 (s_rst (n - 1) (q_up (s_rdr i (n - 1) (s_start g)) 70 27 ((s_start g) 70 4 - 1))) u a (Int32.ofNat i) (Int32.ofNat (n - 1)) a) ?_
        refine q_weak [(0, .ref 70), (1, .int (a ||| ((1 : Int32) <<< ((Int32.ofNat i) &&& 31)))), (2, .int ((Int32.ofNat i) + (1 : Int32)))] (q_sub.cons rfl (q_sub.cons rfl (q_sub.cons rfl q_sub.nil))) ?_
        have e : p_out n r i = 1 := by
          unfold p_out
          rw [if_pos hc0]
        rw [s_bs_1 e, q_succ]
        exact q_EV.imp (ih (i + 1) _ (s_rst (n - 1) (q_up (s_rdr i (n - 1) (s_start g)) 70 27 ((s_start g) 70 4 - 1))) (by omega) (w_st_sm hfr h5 hs)) (fun R z => w_po_r hfr rfl z)
      · have hz := (w_sm_rst ho hd).2.2
        refine q_call (M2 := 191) (rest := [.int a]) (c_rst u ho hd) (fun _ _ => rfl) ?_
        refine q_if_ne rfl (fun hc1 => absurd (show (s_ran (n - 1) (q_up (s_rdr i (n - 1) (s_start g)) 70 27 ((s_start g) 70 4 - 1))) = 0 from hc1) (fun z => hc0 (hz.mp z))) (fun (hc1 : ¬ ((s_ran (n - 1) (q_up (s_rdr i (n - 1) (s_start g)) 70 27 ((s_start g) 70 4 - 1))) = 0)) => ?_)
        refine q_step 1 99 [(0, .ref 70), (1, .int a), (2, .int (Int32.ofNat i)), (3, .int (Int32.ofNat (n - 1)))] [.int (0 : Int32), .int a] (s_rst (n - 1) (q_up (s_rdr i (n - 1) (s_start g)) 70 27 ((s_start g) 70 4 - 1))) u (fun big n0 => sg_oc_27 big n0 (s_rst (n - 1) (q_up (s_rdr i (n - 1) (s_start g)) 70 27 ((s_start g) 70 4 - 1))) u a (Int32.ofNat i) (Int32.ofNat (n - 1)) a) ?_
        refine q_call (M2 := 164) (rest := [.int a]) (b_flag0 _ _) (fun _ _ => rfl) ?_
        refine q_step 6 4 [(0, .ref 70), (1, .int (a ||| ((0 : Int32) <<< ((Int32.ofNat i) &&& 31)))), (2, .int ((Int32.ofNat i) + (1 : Int32))), (3, .int (Int32.ofNat (n - 1)))] [] (s_rst (n - 1) (q_up (s_rdr i (n - 1) (s_start g)) 70 27 ((s_start g) 70 4 - 1))) u (fun big n0 => sg_oc_28 big n0 (s_rst (n - 1) (q_up (s_rdr i (n - 1) (s_start g)) 70 27 ((s_start g) 70 4 - 1))) u a (Int32.ofNat i) (Int32.ofNat (n - 1)) a) ?_
        refine q_weak [(0, .ref 70), (1, .int (a ||| ((0 : Int32) <<< ((Int32.ofNat i) &&& 31)))), (2, .int ((Int32.ofNat i) + (1 : Int32)))] (q_sub.cons rfl (q_sub.cons rfl (q_sub.cons rfl q_sub.nil))) ?_
        have e : p_out n r i = 0 := by
          unfold p_out
          rw [if_neg hc0]
        rw [s_bs_0 e, q_succ, s_or0]
        exact q_EV.imp (ih (i + 1) _ (s_rst (n - 1) (q_up (s_rdr i (n - 1) (s_start g)) 70 27 ((s_start g) 70 4 - 1))) (by omega) (w_st_sm hfr h5 hs)) (fun R z => w_po_r hfr rfl z)
theorem r_out {n W H : Nat} {g r : qM} (u : qW) (h : w_ok n W H r) (hs : w_sm n (s_start g) r) (h5 : n ≤ 5) : w_BS w_fr 206 [.ref 70] g u (.int (f_out n r)) := by
  refine w_bs (mm := m_206) rfl (Nat.le_of_ble_eq_true rfl) rfl ?_
  refine q_step 4 4 [(0, .ref 70), (1, .int (0 : Int32)), (2, .int (0 : Int32))] [] g u (fun big n0 => sg_oc_29 big n0 g u) ?_
  exact ro_o u h h5 n 0 0 g (by omega) hs
def d_isFree (x : Int32) (n : Nat) (g : qM) : Int32 := (if (d_hasWall x g) = 0 then (if (s_w1 (g 21) x n 0) = (Int8.toInt32 (Int8.ofInt (-4))) then (1 : Int32) else (0 : Int32)) else (0 : Int32))
theorem b_isFree (x : Int32) (n : Nat) (g : qM) (u : qW) (hn : g 20 3 = Int32.ofNat n) (h6 : n ≤ 6) : q_BS 28 [.ref 20, .int x] g u (some (.int (d_isFree x n g)), g, u) := by
  refine q_bx (mm := m_28) rfl (Nat.le_of_ble_eq_true rfl) rfl ?_
  refine q_step 2 2 [(0, .ref 20), (1, .int x)] [.int x, .ref 20] g u (fun big n0 => sg_oc_30 big n0 g u x) ?_
  refine q_call (M2 := 29) (rest := []) (b_hasWall _ _ _) (fun _ _ => rfl) ?_
  refine q_if_ne rfl (fun (hc0 : (d_hasWall x g) = 0) => ?_) (fun (hc0 : ¬ ((d_hasWall x g) = 0)) => ?_)
  · refine q_step 2 10 [(0, .ref 20), (1, .int x)] [.int x, .ref 20] g u (fun big n0 => sg_oc_31 big n0 g u x) ?_
    refine q_call (M2 := 30) (rest := []) (b_who20 x g u hn h6) (fun _ _ => rfl) ?_
    refine q_step 1 15 [(0, .ref 20), (1, .int x)] [.int (Int8.toInt32 (Int8.ofInt (-4))), .int (s_w1 (g 21) x n 0)] g u (fun big n0 => sg_oc_32 big n0 g u x (s_w1 (g 21) x n 0)) ?_
    refine q_ic_ne rfl (fun (hc1 : (s_w1 (g 21) x n 0) = (Int8.toInt32 (Int8.ofInt (-4)))) => ?_) (fun (hc1 : ¬ ((s_w1 (g 21) x n 0) = (Int8.toInt32 (Int8.ofInt (-4))))) => ?_)
    · refine q_ret 3 (some (.int (1 : Int32)), g, u) (fun _ _ => rfl) ?_
      unfold d_isFree
      rw [if_pos hc0, if_pos hc1]
    · refine q_ret 2 (some (.int (0 : Int32)), g, u) (fun _ _ => rfl) ?_
      unfold d_isFree
      rw [if_pos hc0, if_neg hc1]
  · refine q_ret 2 (some (.int (0 : Int32)), g, u) (fun _ _ => rfl) ?_
    unfold d_isFree
    rw [if_neg hc0]
def d_canHold (p : Nat) (x : Int32) (n : Nat) (g : qM) : Int32 := (if x = (g 21 p) then (1 : Int32) else (if (d_isFree x n g) = 0 then (0 : Int32) else (1 : Int32)))
theorem b_canHold (p : Nat) (x : Int32) (n : Nat) (g : qM) (u : qW) (hn : g 20 3 = Int32.ofNat n) (h6 : n ≤ 6) (hp : p < 6) : q_BS 50 [.ref 20, .int (Int32.ofNat p), .int x] g u (some (.int (d_canHold p x n g)), g, u) := by
  refine q_bx (mm := m_50) rfl (Nat.le_of_ble_eq_true rfl) rfl ?_
  refine q_step 4 6 [(0, .ref 20), (1, .int (Int32.ofNat p)), (2, .int x)] [.int (Int32.ofNat p), .ref 21, .int x] g u (fun big n0 => sg_oc_33 big n0 g u (Int32.ofNat p) x) ?_
  refine q_iald (j := p) (q_ixn (by omega) (by omega)) rfl rfl ?_
  refine q_ic_eq rfl (fun (hc0 : x = (g 21 p)) => ?_) (fun (hc0 : ¬ (x = (g 21 p))) => ?_)
  · refine q_ret 3 (some (.int (1 : Int32)), g, u) (fun _ _ => rfl) ?_
    unfold d_canHold
    rw [if_pos hc0]
  · refine q_step 2 12 [(0, .ref 20), (1, .int (Int32.ofNat p)), (2, .int x)] [.int x, .ref 20] g u (fun big n0 => sg_oc_34 big n0 g u (Int32.ofNat p) x) ?_
    refine q_call (M2 := 28) (rest := []) (b_isFree x n g u hn h6) (fun _ _ => rfl) ?_
    refine q_if_eq rfl (fun (hc1 : (d_isFree x n g) = 0) => ?_) (fun (hc1 : ¬ ((d_isFree x n g) = 0)) => ?_)
    · refine q_ret 2 (some (.int (0 : Int32)), g, u) (fun _ _ => rfl) ?_
      unfold d_canHold
      rw [if_neg hc0, if_pos hc1]
    · refine q_ret 3 (some (.int (1 : Int32)), g, u) (fun _ _ => rfl) ?_
      unfold d_canHold
      rw [if_neg hc0, if_neg hc1]
theorem w_canc {n p c : Nat} {g r : qM} (hc : w_cs 20 n g r) (hp : p < n) : d_canHold p (Int32.ofNat c) n g = p_can n r p c := by
  unfold d_canHold p_can d_isFree
  rw [(hc.2.2 p hp).1, w_who_c (T := 20) hc]
  by_cases e : Int32.ofNat c = r 75 p
  · rw [if_pos e, if_pos e]
  · rw [if_neg e, if_neg e]
    by_cases hw : s_bit (r 71 20) (Int32.ofNat c) = 0
    · rw [if_pos hw, if_pos (d_hw_iff.mpr (by rw [hc.1.2.2.2.1]; exact hw))]
      by_cases hn : f_who n r (Int32.ofNat c) = i_none
      · rw [if_pos hn, if_neg (show ¬ (1 : Int32) = 0 by decide)]
      · rw [if_neg hn, if_pos rfl]
    · rw [if_neg hw, if_neg (show ¬ d_hasWall (Int32.ofNat c) g = 0 from fun z => hw (by rw [← hc.1.2.2.2.1]; exact d_hw_iff.mp z)), if_pos rfl]
theorem p_can_01 (n : Nat) (r : qM) (p c : Nat) : p_can n r p c = 0 ∨ p_can n r p c = 1 := by
  unfold p_can
  split
  · exact Or.inr rfl
  · split
    · exact s_01 _
    · exact Or.inl rfl
theorem cl_l (u : qW) {n W H p : Nat} {r : qM} (h : w_ok n W H r) (hp : p < n) : ∀ k i a g, i + k = W * H → w_cs 20 n g r → w_tr n g r → q_EV m_105 13 [(0, .ref 34), (1, .ref 20), (2, .int (Int32.ofNat p)), (3, .int a), (4, .int (Int32.ofNat i))] [] g u (w_po w_fc g (.int (s_bs (p_calm n r p) k i a))) := by
  intro k
  induction k with
  | zero =>
    intro i a g hi hc ht
    refine q_step 2 16 [(0, .ref 34), (1, .ref 20), (2, .int (Int32.ofNat p)), (3, .int a), (4, .int (Int32.ofNat i))] [.ref 20, .int (Int32.ofNat i)] g u (fun big n0 => sg_oc_35 big n0 g u (Int32.ofNat p) a (Int32.ofNat i)) ?_
    have hWH := w_WH h
    refine q_call (M2 := 39) (rest := [.int (Int32.ofNat i)]) (b_size _ _) (fun _ _ => rfl) ?_
    refine q_ic_ge rfl (fun (hc0 : (d_size g) ≤ (Int32.ofNat i)) => ?_) (fun hc0 => absurd (show (d_size g) ≤ (Int32.ofNat i) from by unfold d_size; rw [hc.1.2.1, hc.1.2.2.1, w_size h]; exact (q_le (by omega) (by omega)).mpr (by omega)) hc0)
    refine q_ret 2 (some (.int a), g, u) (fun _ _ => rfl) ?_
    exact ⟨g, u, rfl, w_fc_rfl g⟩
  | succ k ih =>
    intro i a g hi hc ht
    refine q_step 2 16 [(0, .ref 34), (1, .ref 20), (2, .int (Int32.ofNat p)), (3, .int a), (4, .int (Int32.ofNat i))] [.ref 20, .int (Int32.ofNat i)] g u (fun big n0 => sg_oc_35 big n0 g u (Int32.ofNat p) a (Int32.ofNat i)) ?_
    have hWH := w_WH h
    have h5 : n ≤ 6 := h.1.2.2.2.2
    refine q_call (M2 := 39) (rest := [.int (Int32.ofNat i)]) (b_size _ _) (fun _ _ => rfl) ?_
    refine q_ic_ge rfl (fun hc0 => absurd (show (d_size g) ≤ (Int32.ofNat i) from hc0) (fun z => by unfold d_size at z; rw [hc.1.2.1, hc.1.2.2.1, w_size h] at z; exact absurd ((q_le (by omega) (by omega)).mp z) (by omega))) (fun (hc0 : ¬ ((d_size g) ≤ (Int32.ofNat i))) => ?_)
    refine q_step 3 26 [(0, .ref 34), (1, .ref 20), (2, .int (Int32.ofNat p)), (3, .int a), (4, .int (Int32.ofNat i))] [.int (Int32.ofNat i), .int (Int32.ofNat p), .ref 20] g u (fun big n0 => sg_oc_36 big n0 g u (Int32.ofNat p) a (Int32.ofNat i)) ?_
    by_cases hc1 : p_can n r p i = 0
    · refine q_call (M2 := 50) (rest := []) (show q_BS 50 [.ref 20, .int (Int32.ofNat p), .int (Int32.ofNat i)] g u (some (.int (0 : Int32)), g, u) from by
    have e := b_canHold p (Int32.ofNat i) n g u (hc.1.1.trans h.2.1) h5 (by omega)
    rw [w_canc hc hp, hc1] at e
    exact e) (fun _ _ => rfl) ?_
      refine q_step 3 13 [(0, .ref 34), (1, .ref 20), (2, .int (Int32.ofNat p)), (3, .int a), (4, .int ((Int32.ofNat i) + (1 : Int32)))] [] g u (fun big n0 => sg_oc_37 big n0 g u (Int32.ofNat p) a (Int32.ofNat i)) ?_
      have e : p_calm n r p i = 0 := by
        unfold p_calm
        rw [if_pos hc1]
      rw [s_bs_0 e, q_succ]
      exact ih (i + 1) _ g (by omega) hc ht
    · refine q_call (M2 := 50) (rest := []) (show q_BS 50 [.ref 20, .int (Int32.ofNat p), .int (Int32.ofNat i)] g u (some (.int (1 : Int32)), g, u) from by
    have e := b_canHold p (Int32.ofNat i) n g u (hc.1.1.trans h.2.1) h5 (by omega)
    rw [w_canc hc hp, (p_can_01 n r p i).resolve_left hc1] at e
    exact e) (fun _ _ => rfl) ?_
      refine q_step 4 37 [(0, .ref 34), (1, .ref 20), (2, .int (Int32.ofNat p)), (3, .int a), (4, .int (Int32.ofNat i))] [.ref 20, .ref 35] g u (fun big n0 => sg_oc_38 big n0 g u (Int32.ofNat p) a (Int32.ofNat i)) ?_
      refine q_call (M2 := 42) (rest := []) (b_cpl35_20 _ _) (fun _ _ => rfl) ?_
      refine q_step 5 50 [(0, .ref 34), (1, .ref 20), (2, .int (Int32.ofNat p)), (3, .int a), (4, .int (Int32.ofNat i))] [.int (Int32.ofNat i), .int (Int32.ofNat p), .ref 36] (s_cpl 35 20 g) u (fun big n0 => sg_oc_39 big n0 (s_cpl 35 20 g) u (Int32.ofNat p) a (Int32.ofNat i)) ?_
      refine q_iast (j := p) (q_ixn (by omega) (by omega)) rfl rfl ?_
      refine q_step 2 53 [(0, .ref 34), (1, .ref 20), (2, .int (Int32.ofNat p)), (3, .int a), (4, .int (Int32.ofNat i))] [.ref 34, .int a] (q_up (s_cpl 35 20 g) 36 p (Int32.ofNat i)) u (fun big n0 => sg_oc_40 big n0 (q_up (s_cpl 35 20 g) 36 p (Int32.ofNat i)) u (Int32.ofNat p) a (Int32.ofNat i)) ?_
      by_cases hc2 : s_ran n (q_up r 75 p (Int32.ofNat i)) = 0
      · refine q_call (M2 := 83) (rest := [.int a]) (show q_BS 83 [.ref 34] (q_up (s_cpl 35 20 g) 36 p (Int32.ofNat i)) u (some (.int (1 : Int32)), s_step 35 n (q_up (s_cpl 35 20 g) 36 p (Int32.ofNat i)), u) from by have e := c_tar u (w_ok_put h hp (c := i) (by omega) hc1) (w_cs_put (w_cpl h5 hc ht)); rw [if_pos hc2] at e; exact e) (fun _ _ => rfl) ?_
        refine q_step 9 13 [(0, .ref 34), (1, .ref 20), (2, .int (Int32.ofNat p)), (3, .int (a ||| ((1 : Int32) <<< ((Int32.ofNat i) &&& 31)))), (4, .int ((Int32.ofNat i) + (1 : Int32)))] [] (s_step 35 n (q_up (s_cpl 35 20 g) 36 p (Int32.ofNat i))) u (fun big n0 => sg_oc_41 big n0 (s_step 35 n (q_up (s_cpl 35 20 g) 36 p (Int32.ofNat i))) u (Int32.ofNat p) a (Int32.ofNat i) a) ?_
        have e : p_calm n r p i = 1 := by
          unfold p_calm
          rw [if_neg hc1, if_pos hc2]
        rw [s_bs_1 e, q_succ]
        exact q_EV.imp (ih (i + 1) _ (s_step 35 n (q_up (s_cpl 35 20 g) 36 p (Int32.ofNat i))) (by omega) (w_cs_fc (w_fc.trans (w_fc.up w_cpl_fc (by omega)) s_step_35) hc) (w_tr_step (w_tr_cpl ht))) (fun R z => w_po_c (w_fc.trans (w_fc.up w_cpl_fc (by omega)) s_step_35) rfl z)
      · refine q_call (M2 := 83) (rest := [.int a]) (show q_BS 83 [.ref 34] (q_up (s_cpl 35 20 g) 36 p (Int32.ofNat i)) u (some (.int (0 : Int32)), s_step 35 n (q_up (s_cpl 35 20 g) 36 p (Int32.ofNat i)), u) from by have e := c_tar u (w_ok_put h hp (c := i) (by omega) hc1) (w_cs_put (w_cpl h5 hc ht)); rw [if_neg hc2] at e; exact e) (fun _ _ => rfl) ?_
        refine q_step 6 13 [(0, .ref 34), (1, .ref 20), (2, .int (Int32.ofNat p)), (3, .int (a ||| (0 : Int32))), (4, .int ((Int32.ofNat i) + (1 : Int32)))] [] (s_step 35 n (q_up (s_cpl 35 20 g) 36 p (Int32.ofNat i))) u (fun big n0 => sg_oc_42 big n0 (s_step 35 n (q_up (s_cpl 35 20 g) 36 p (Int32.ofNat i))) u (Int32.ofNat p) a (Int32.ofNat i) a) ?_
        have e : p_calm n r p i = 0 := by
          unfold p_calm
          rw [if_neg hc1, if_neg hc2]
        rw [s_bs_0 e, q_succ, s_or00]
        exact q_EV.imp (ih (i + 1) _ (s_step 35 n (q_up (s_cpl 35 20 g) 36 p (Int32.ofNat i))) (by omega) (w_cs_fc (w_fc.trans (w_fc.up w_cpl_fc (by omega)) s_step_35) hc) (w_tr_step (w_tr_cpl ht))) (fun R z => w_po_c (w_fc.trans (w_fc.up w_cpl_fc (by omega)) s_step_35) rfl z)
theorem c_calm105 {n W H : Nat} {g r : qM} (u : qW) (h : w_ok n W H r) (hc : w_cs 20 n g r) {p : Nat} (hp : p < n) : w_BS w_fc 105 [.ref 34, .ref 20, .int (Int32.ofNat p)] g u (.int (f_calm n W H r p)) := by
  refine w_bs (mm := m_105) rfl (Nat.le_of_ble_eq_true rfl) rfl ?_
  have h5 : n ≤ 6 := h.1.2.2.2.2
  have hy := w_cpy (a := 35) (b := 20) h5 (by omega) hc
  refine q_step 3 5 [(0, .ref 34), (1, .ref 20), (2, .int (Int32.ofNat p))] [.ref 20, .ref 35] g u (fun big n0 => sg_oc_43 big n0 g u (Int32.ofNat p)) ?_
  refine q_call (M2 := 41) (rest := []) (b_cpy35_20 _ _) (fun _ _ => rfl) ?_
  refine q_step 4 13 [(0, .ref 34), (1, .ref 20), (2, .int (Int32.ofNat p)), (3, .int (0 : Int32)), (4, .int (0 : Int32))] [] (s_cpy 35 20 g) u (fun big n0 => sg_oc_44 big n0 (s_cpy 35 20 g) u (Int32.ofNat p)) ?_
  exact q_EV.imp (cl_l u h hp (W * H) 0 0 (s_cpy 35 20 g) (by omega) (w_cs_fc w_cpy_fc hc) (w_cs_tr hy)) (fun R z => w_po_c w_cpy_fc rfl z)
theorem c_calm {n W H : Nat} {g r : qM} (u : qW) (h : w_ok n W H r) (hc : w_cs 20 n g r) {p : Nat} (hp : p < n) : w_BS w_fc 104 [.ref 8, .int (Int32.ofNat p)] g u (.int (f_calm n W H r p)) := by
  refine w_bs (mm := m_104) rfl (Nat.le_of_ble_eq_true rfl) rfl ?_
  refine q_step 3 5 [(0, .ref 8), (1, .int (Int32.ofNat p))] [.int (Int32.ofNat p), .ref 20] g u (fun big n0 => sg_oc_45 big n0 g u (Int32.ofNat p)) ?_
  refine q_call (M2 := 40) (rest := []) (b_hasOne1 g u (hc.1.1.trans h.2.1) h.1.2.2.2.2 hp) (fun _ _ => rfl) ?_
  refine q_step 6 20 [(0, .ref 8), (1, .int (Int32.ofNat p))] [.int (Int32.ofNat p), .ref 20, .ref 34] g u (fun big n0 => sg_oc_46 big n0 g u (Int32.ofNat p)) ?_
  obtain ⟨g1, u1, hb, hf⟩ := c_calm105 u h hc hp
  refine q_call (M2 := 105) (rest := []) (hb) (fun _ _ => rfl) ?_
  refine q_ret 2 (some (.int (f_calm n W H r p)), g1, u1) (fun _ _ => rfl) ?_
  exact ⟨g1, u1, rfl, hf⟩
theorem rc_l (u : qW) {n W H p : Nat} {r : qM} (h : w_ok n W H r) (h5 : n ≤ 5) (hp : p < n) : ∀ k i a g, i + k = W * H → w_sm n (s_start g) r → q_EV m_207 14 [(0, .ref 70), (1, .int (Int32.ofNat p)), (2, .int a), (3, .int (Int32.ofNat i))] [] g u (w_po w_fr g (.int (s_bs (p_calm n r p) k i a))) := by
  intro k
  induction k with
  | zero =>
    intro i a g hi hs
    have hWH := w_WH h
    have hz2 : g 70 2 * g 70 3 = Int32.ofNat (W * H) := by
      have e1 : g 70 2 = r 70 2 := hs.1.2.1
      have e2 : g 70 3 = r 70 3 := hs.1.2.2.1
      rw [e1, e2, w_size h]
    refine q_step 6 24 [(0, .ref 70), (1, .int (Int32.ofNat p)), (2, .int a), (3, .int (Int32.ofNat i))] [.int ((g 70 2) * (g 70 3)), .int (Int32.ofNat i)] g u (fun big n0 => sg_oc_47 big n0 g u (Int32.ofNat p) a (Int32.ofNat i)) ?_
    refine q_ic_ge rfl (fun (hc0 : ((g 70 2) * (g 70 3)) ≤ (Int32.ofNat i)) => ?_) (fun hc0 => absurd (show ((g 70 2) * (g 70 3)) ≤ (Int32.ofNat i) from by rw [hz2]; exact (q_le (by omega) (by omega)).mpr (by omega)) hc0)
    refine q_ret 2 (some (.int a), g, u) (fun _ _ => rfl) ?_
    exact ⟨g, u, rfl, w_fr_rfl g⟩
  | succ k ih =>
    intro i a g hi hs
    have hWH := w_WH h
    have hz2 : g 70 2 * g 70 3 = Int32.ofNat (W * H) := by
      have e1 : g 70 2 = r 70 2 := hs.1.2.1
      have e2 : g 70 3 = r 70 3 := hs.1.2.2.1
      rw [e1, e2, w_size h]
    refine q_step 6 24 [(0, .ref 70), (1, .int (Int32.ofNat p)), (2, .int a), (3, .int (Int32.ofNat i))] [.int ((g 70 2) * (g 70 3)), .int (Int32.ofNat i)] g u (fun big n0 => sg_oc_47 big n0 g u (Int32.ofNat p) a (Int32.ofNat i)) ?_
    refine q_ic_ge rfl (fun hc0 => absurd (show ((g 70 2) * (g 70 3)) ≤ (Int32.ofNat i) from hc0) (fun z => by rw [hz2] at z; exact absurd ((q_le (by omega) (by omega)).mp z) (by omega))) (fun (hc0 : ¬ (((g 70 2) * (g 70 3)) ≤ (Int32.ofNat i))) => ?_)
    refine q_step 1 28 [(0, .ref 70), (1, .int (Int32.ofNat p)), (2, .int a), (3, .int (Int32.ofNat i))] [.ref 70] g u (fun big n0 => sg_oc_48 big n0 g u (Int32.ofNat p) a (Int32.ofNat i)) ?_
    refine q_call (M2 := 172) (rest := []) (b_starts g u) (fun _ _ => rfl) ?_
    refine q_step 2 33 [(0, .ref 70), (1, .int (Int32.ofNat p)), (2, .int a), (3, .int (Int32.ofNat i))] [.int (Int32.ofNat i), .ref 70] (s_start g) u (fun big n0 => sg_oc_49 big n0 (s_start g) u (Int32.ofNat p) a (Int32.ofNat i)) ?_
    have hwho := b_rwho (s_start g) u (Int32.ofNat i) (w_w0 h hs).1 (w_w0 h hs).2.1
    rw [w_who_r h hs] at hwho
    refine q_call (M2 := 173) (rest := []) (hwho) (fun _ _ => rfl) ?_
    refine q_step 3 40 [(0, .ref 70), (1, .int (Int32.ofNat p)), (2, .int a), (3, .int (Int32.ofNat i)), (4, .int (f_who n r (Int32.ofNat i)))] [.int (Int32.ofNat i), .ref 70] (s_start g) u (fun big n0 => sg_oc_50 big n0 (s_start g) u (Int32.ofNat p) a (Int32.ofNat i) (f_who n r (Int32.ofNat i))) ?_
    refine q_call (M2 := 177) (rest := []) (b_open (Int32.ofNat i) (s_start g) u) (fun _ _ => rfl) ?_
    refine q_if_eq rfl (fun (hc1 : (s_op ((s_start g) 71 20) (Int32.ofNat i)) = 0) => ?_) (fun (hc1 : ¬ ((s_op ((s_start g) 71 20) (Int32.ofNat i)) = 0)) => ?_)
    · refine q_step 2 14 [(0, .ref 70), (1, .int (Int32.ofNat p)), (2, .int a), (3, .int ((Int32.ofNat i) + (1 : Int32))), (4, .int (f_who n r (Int32.ofNat i)))] [] (s_start g) u (fun big n0 => sg_oc_51 big n0 (s_start g) u (Int32.ofNat p) a (Int32.ofNat i) (f_who n r (Int32.ofNat i))) ?_
      refine q_weak [(0, .ref 70), (1, .int (Int32.ofNat p)), (2, .int a), (3, .int ((Int32.ofNat i) + (1 : Int32)))] (q_sub.cons rfl (q_sub.cons rfl (q_sub.cons rfl (q_sub.cons rfl q_sub.nil)))) ?_
      have e : p_calm n r p i = 0 := by
        have hcan := w_can h hp (c := i) (by omega)
        rw [show s_op (r 71 20) (Int32.ofNat i) = s_op ((s_start g) 71 20) (Int32.ofNat i) from by rw [hs.1.2.2.2.1], if_pos hc1] at hcan
        unfold p_calm
        rw [hcan, if_pos rfl]
      rw [s_bs_0 e, q_succ]
      exact q_EV.imp (ih (i + 1) _ (s_start g) (by omega) (w_st_sm s_start_fr h5 hs)) (fun R z => w_po_r s_start_fr rfl z)
    · refine q_step 2 50 [(0, .ref 70), (1, .int (Int32.ofNat p)), (2, .int a), (3, .int (Int32.ofNat i)), (4, .int (f_who n r (Int32.ofNat i)))] [.int (Int8.toInt32 (Int8.ofInt (-4))), .int (f_who n r (Int32.ofNat i))] (s_start g) u (fun big n0 => sg_oc_52 big n0 (s_start g) u (Int32.ofNat p) a (Int32.ofNat i) (f_who n r (Int32.ofNat i))) ?_
      refine q_ic_eq rfl (fun (hc2 : (f_who n r (Int32.ofNat i)) = (Int8.toInt32 (Int8.ofInt (-4)))) => ?_) (fun (hc2 : ¬ ((f_who n r (Int32.ofNat i)) = (Int8.toInt32 (Int8.ofInt (-4))))) => ?_)
      · refine q_step 4 65 [(0, .ref 70), (1, .int (Int32.ofNat p)), (2, .int a), (3, .int (Int32.ofNat i)), (4, .int (f_who n r (Int32.ofNat i)))] [.int (Int32.ofNat i), .int (Int32.ofNat p), .ref 75] (s_start g) u (fun big n0 => sg_oc_53 big n0 (s_start g) u (Int32.ofNat p) a (Int32.ofNat i) (f_who n r (Int32.ofNat i))) ?_
        refine q_iast (j := p) (q_ixn (by omega) (by omega)) rfl rfl ?_
        refine q_step 2 68 [(0, .ref 70), (1, .int (Int32.ofNat p)), (2, .int a), (3, .int (Int32.ofNat i)), (4, .int (f_who n r (Int32.ofNat i)))] [.ref 70, .int a] (q_up (s_start g) 75 p (Int32.ofNat i)) u (fun big n0 => sg_oc_54 big n0 (q_up (s_start g) 75 p (Int32.ofNat i)) u (Int32.ofNat p) a (Int32.ofNat i) (f_who n r (Int32.ofNat i))) ?_
        have hcan : p_can n r p i = 1 := by
          have hcan := w_can h hp (c := i) (by omega)
          rw [show s_op (r 71 20) (Int32.ofNat i) = s_op ((s_start g) 71 20) (Int32.ofNat i) from by rw [hs.1.2.2.2.1], if_neg hc1, if_pos hc2] at hcan
          exact hcan
        have hop := w_ok_put h hp (c := i) (by omega) (by rw [hcan]; decide)
        have hsp := w_sm_put (p := p) (x := Int32.ofNat i) hs
        have hz := (w_sm_rst hop hsp).2.2
        have hfr : w_fr g (s_rst n (q_up (s_start g) 75 p (Int32.ofNat i))) := (s_start_fr.up (by omega)).trans s_rst_fr
        by_cases hc3 : s_ran n (q_up r 75 p (Int32.ofNat i)) = 0
        · refine q_call (M2 := 191) (rest := [.int a]) (c_rst u hop hsp) (fun _ _ => rfl) ?_
          refine q_if_ne rfl (fun (hc4 : (s_ran n (q_up (s_start g) 75 p (Int32.ofNat i))) = 0) => ?_) (fun hc4 => absurd (show (s_ran n (q_up (s_start g) 75 p (Int32.ofNat i))) = 0 from hz.mpr hc3) hc4)
          refine q_step 2 79 [(0, .ref 70), (1, .int (Int32.ofNat p)), (2, .int a), (3, .int (Int32.ofNat i)), (4, .int (f_who n r (Int32.ofNat i)))] [.int (1 : Int32), .int a] (s_rst n (q_up (s_start g) 75 p (Int32.ofNat i))) u (fun big n0 => sg_oc_55 big n0 (s_rst n (q_up (s_start g) 75 p (Int32.ofNat i))) u (Int32.ofNat p) a (Int32.ofNat i) (f_who n r (Int32.ofNat i)) a) ?_
          refine q_call (M2 := 164) (rest := [.int a]) (b_flag1 _ _) (fun _ _ => rfl) ?_
          refine q_step 6 14 [(0, .ref 70), (1, .int (Int32.ofNat p)), (2, .int (a ||| ((1 : Int32) <<< ((Int32.ofNat i) &&& 31)))), (3, .int ((Int32.ofNat i) + (1 : Int32))), (4, .int (f_who n r (Int32.ofNat i)))] [] (s_rst n (q_up (s_start g) 75 p (Int32.ofNat i))) u (fun big n0 => sg_oc_56 big n0 (s_rst n (q_up (s_start g) 75 p (Int32.ofNat i))) u (Int32.ofNat p) a (Int32.ofNat i) (f_who n r (Int32.ofNat i)) a) ?_
          refine q_weak [(0, .ref 70), (1, .int (Int32.ofNat p)), (2, .int (a ||| ((1 : Int32) <<< ((Int32.ofNat i) &&& 31)))), (3, .int ((Int32.ofNat i) + (1 : Int32)))] (q_sub.cons rfl (q_sub.cons rfl (q_sub.cons rfl (q_sub.cons rfl q_sub.nil)))) ?_
          have e : p_calm n r p i = 1 := by
            unfold p_calm
            rw [hcan, if_neg (by decide), if_pos hc3]
          rw [s_bs_1 e, q_succ]
          exact q_EV.imp (ih (i + 1) _ (s_rst n (q_up (s_start g) 75 p (Int32.ofNat i))) (by omega) (w_st_sm hfr h5 hs)) (fun R z => w_po_r hfr rfl z)
        · refine q_call (M2 := 191) (rest := [.int a]) (c_rst u hop hsp) (fun _ _ => rfl) ?_
          refine q_if_ne rfl (fun hc4 => absurd (show (s_ran n (q_up (s_start g) 75 p (Int32.ofNat i))) = 0 from hc4) (fun z => hc3 (hz.mp z))) (fun (hc4 : ¬ ((s_ran n (q_up (s_start g) 75 p (Int32.ofNat i))) = 0)) => ?_)
          refine q_step 1 79 [(0, .ref 70), (1, .int (Int32.ofNat p)), (2, .int a), (3, .int (Int32.ofNat i)), (4, .int (f_who n r (Int32.ofNat i)))] [.int (0 : Int32), .int a] (s_rst n (q_up (s_start g) 75 p (Int32.ofNat i))) u (fun big n0 => sg_oc_57 big n0 (s_rst n (q_up (s_start g) 75 p (Int32.ofNat i))) u (Int32.ofNat p) a (Int32.ofNat i) (f_who n r (Int32.ofNat i)) a) ?_
          refine q_call (M2 := 164) (rest := [.int a]) (b_flag0 _ _) (fun _ _ => rfl) ?_
          refine q_step 6 14 [(0, .ref 70), (1, .int (Int32.ofNat p)), (2, .int (a ||| ((0 : Int32) <<< ((Int32.ofNat i) &&& 31)))), (3, .int ((Int32.ofNat i) + (1 : Int32))), (4, .int (f_who n r (Int32.ofNat i)))] [] (s_rst n (q_up (s_start g) 75 p (Int32.ofNat i))) u (fun big n0 => sg_oc_58 big n0 (s_rst n (q_up (s_start g) 75 p (Int32.ofNat i))) u (Int32.ofNat p) a (Int32.ofNat i) (f_who n r (Int32.ofNat i)) a) ?_
          refine q_weak [(0, .ref 70), (1, .int (Int32.ofNat p)), (2, .int (a ||| ((0 : Int32) <<< ((Int32.ofNat i) &&& 31)))), (3, .int ((Int32.ofNat i) + (1 : Int32)))] (q_sub.cons rfl (q_sub.cons rfl (q_sub.cons rfl (q_sub.cons rfl q_sub.nil)))) ?_
          have e : p_calm n r p i = 0 := by
            unfold p_calm
            rw [hcan, if_neg (by decide), if_neg hc3]
          rw [s_bs_0 e, q_succ, s_or0]
          exact q_EV.imp (ih (i + 1) _ (s_rst n (q_up (s_start g) 75 p (Int32.ofNat i))) (by omega) (w_st_sm hfr h5 hs)) (fun R z => w_po_r hfr rfl z)
      · refine q_step 2 56 [(0, .ref 70), (1, .int (Int32.ofNat p)), (2, .int a), (3, .int (Int32.ofNat i)), (4, .int (f_who n r (Int32.ofNat i)))] [.int (Int32.ofNat p), .int (f_who n r (Int32.ofNat i))] (s_start g) u (fun big n0 => sg_oc_59 big n0 (s_start g) u (Int32.ofNat p) a (Int32.ofNat i) (f_who n r (Int32.ofNat i))) ?_
        refine q_ic_ne rfl (fun (hc3 : (f_who n r (Int32.ofNat i)) = (Int32.ofNat p)) => ?_) (fun (hc3 : ¬ ((f_who n r (Int32.ofNat i)) = (Int32.ofNat p))) => ?_)
        · refine q_step 4 65 [(0, .ref 70), (1, .int (Int32.ofNat p)), (2, .int a), (3, .int (Int32.ofNat i)), (4, .int (f_who n r (Int32.ofNat i)))] [.int (Int32.ofNat i), .int (Int32.ofNat p), .ref 75] (s_start g) u (fun big n0 => sg_oc_53 big n0 (s_start g) u (Int32.ofNat p) a (Int32.ofNat i) (f_who n r (Int32.ofNat i))) ?_
          refine q_iast (j := p) (q_ixn (by omega) (by omega)) rfl rfl ?_
          refine q_step 2 68 [(0, .ref 70), (1, .int (Int32.ofNat p)), (2, .int a), (3, .int (Int32.ofNat i)), (4, .int (f_who n r (Int32.ofNat i)))] [.ref 70, .int a] (q_up (s_start g) 75 p (Int32.ofNat i)) u (fun big n0 => sg_oc_54 big n0 (q_up (s_start g) 75 p (Int32.ofNat i)) u (Int32.ofNat p) a (Int32.ofNat i) (f_who n r (Int32.ofNat i))) ?_
          have hcan : p_can n r p i = 1 := by
            have hcan := w_can h hp (c := i) (by omega)
            rw [show s_op (r 71 20) (Int32.ofNat i) = s_op ((s_start g) 71 20) (Int32.ofNat i) from by rw [hs.1.2.2.2.1], if_neg hc1, if_neg hc2, if_pos hc3] at hcan
            exact hcan
          have hop := w_ok_put h hp (c := i) (by omega) (by rw [hcan]; decide)
          have hsp := w_sm_put (p := p) (x := Int32.ofNat i) hs
          have hz := (w_sm_rst hop hsp).2.2
          have hfr : w_fr g (s_rst n (q_up (s_start g) 75 p (Int32.ofNat i))) := (s_start_fr.up (by omega)).trans s_rst_fr
          by_cases hc4 : s_ran n (q_up r 75 p (Int32.ofNat i)) = 0
          · refine q_call (M2 := 191) (rest := [.int a]) (c_rst u hop hsp) (fun _ _ => rfl) ?_
            refine q_if_ne rfl (fun (hc5 : (s_ran n (q_up (s_start g) 75 p (Int32.ofNat i))) = 0) => ?_) (fun hc5 => absurd (show (s_ran n (q_up (s_start g) 75 p (Int32.ofNat i))) = 0 from hz.mpr hc4) hc5)
            refine q_step 2 79 [(0, .ref 70), (1, .int (Int32.ofNat p)), (2, .int a), (3, .int (Int32.ofNat i)), (4, .int (f_who n r (Int32.ofNat i)))] [.int (1 : Int32), .int a] (s_rst n (q_up (s_start g) 75 p (Int32.ofNat i))) u (fun big n0 => sg_oc_55 big n0 (s_rst n (q_up (s_start g) 75 p (Int32.ofNat i))) u (Int32.ofNat p) a (Int32.ofNat i) (f_who n r (Int32.ofNat i)) a) ?_
            refine q_call (M2 := 164) (rest := [.int a]) (b_flag1 _ _) (fun _ _ => rfl) ?_
            refine q_step 6 14 [(0, .ref 70), (1, .int (Int32.ofNat p)), (2, .int (a ||| ((1 : Int32) <<< ((Int32.ofNat i) &&& 31)))), (3, .int ((Int32.ofNat i) + (1 : Int32))), (4, .int (f_who n r (Int32.ofNat i)))] [] (s_rst n (q_up (s_start g) 75 p (Int32.ofNat i))) u (fun big n0 => sg_oc_56 big n0 (s_rst n (q_up (s_start g) 75 p (Int32.ofNat i))) u (Int32.ofNat p) a (Int32.ofNat i) (f_who n r (Int32.ofNat i)) a) ?_
            refine q_weak [(0, .ref 70), (1, .int (Int32.ofNat p)), (2, .int (a ||| ((1 : Int32) <<< ((Int32.ofNat i) &&& 31)))), (3, .int ((Int32.ofNat i) + (1 : Int32)))] (q_sub.cons rfl (q_sub.cons rfl (q_sub.cons rfl (q_sub.cons rfl q_sub.nil)))) ?_
            have e : p_calm n r p i = 1 := by
              unfold p_calm
              rw [hcan, if_neg (by decide), if_pos hc4]
            rw [s_bs_1 e, q_succ]
            exact q_EV.imp (ih (i + 1) _ (s_rst n (q_up (s_start g) 75 p (Int32.ofNat i))) (by omega) (w_st_sm hfr h5 hs)) (fun R z => w_po_r hfr rfl z)
          · refine q_call (M2 := 191) (rest := [.int a]) (c_rst u hop hsp) (fun _ _ => rfl) ?_
            refine q_if_ne rfl (fun hc5 => absurd (show (s_ran n (q_up (s_start g) 75 p (Int32.ofNat i))) = 0 from hc5) (fun z => hc4 (hz.mp z))) (fun (hc5 : ¬ ((s_ran n (q_up (s_start g) 75 p (Int32.ofNat i))) = 0)) => ?_)
            refine q_step 1 79 [(0, .ref 70), (1, .int (Int32.ofNat p)), (2, .int a), (3, .int (Int32.ofNat i)), (4, .int (f_who n r (Int32.ofNat i)))] [.int (0 : Int32), .int a] (s_rst n (q_up (s_start g) 75 p (Int32.ofNat i))) u (fun big n0 => sg_oc_57 big n0 (s_rst n (q_up (s_start g) 75 p (Int32.ofNat i))) u (Int32.ofNat p) a (Int32.ofNat i) (f_who n r (Int32.ofNat i)) a) ?_
            refine q_call (M2 := 164) (rest := [.int a]) (b_flag0 _ _) (fun _ _ => rfl) ?_
            refine q_step 6 14 [(0, .ref 70), (1, .int (Int32.ofNat p)), (2, .int (a ||| ((0 : Int32) <<< ((Int32.ofNat i) &&& 31)))), (3, .int ((Int32.ofNat i) + (1 : Int32))), (4, .int (f_who n r (Int32.ofNat i)))] [] (s_rst n (q_up (s_start g) 75 p (Int32.ofNat i))) u (fun big n0 => sg_oc_58 big n0 (s_rst n (q_up (s_start g) 75 p (Int32.ofNat i))) u (Int32.ofNat p) a (Int32.ofNat i) (f_who n r (Int32.ofNat i)) a) ?_
            refine q_weak [(0, .ref 70), (1, .int (Int32.ofNat p)), (2, .int (a ||| ((0 : Int32) <<< ((Int32.ofNat i) &&& 31)))), (3, .int ((Int32.ofNat i) + (1 : Int32)))] (q_sub.cons rfl (q_sub.cons rfl (q_sub.cons rfl (q_sub.cons rfl q_sub.nil)))) ?_
            have e : p_calm n r p i = 0 := by
              unfold p_calm
              rw [hcan, if_neg (by decide), if_neg hc4]
            rw [s_bs_0 e, q_succ, s_or0]
            exact q_EV.imp (ih (i + 1) _ (s_rst n (q_up (s_start g) 75 p (Int32.ofNat i))) (by omega) (w_st_sm hfr h5 hs)) (fun R z => w_po_r hfr rfl z)
        · refine q_step 2 14 [(0, .ref 70), (1, .int (Int32.ofNat p)), (2, .int a), (3, .int ((Int32.ofNat i) + (1 : Int32))), (4, .int (f_who n r (Int32.ofNat i)))] [] (s_start g) u (fun big n0 => sg_oc_51 big n0 (s_start g) u (Int32.ofNat p) a (Int32.ofNat i) (f_who n r (Int32.ofNat i))) ?_
          refine q_weak [(0, .ref 70), (1, .int (Int32.ofNat p)), (2, .int a), (3, .int ((Int32.ofNat i) + (1 : Int32)))] (q_sub.cons rfl (q_sub.cons rfl (q_sub.cons rfl (q_sub.cons rfl q_sub.nil)))) ?_
          have e : p_calm n r p i = 0 := by
            have hcan := w_can h hp (c := i) (by omega)
            rw [show s_op (r 71 20) (Int32.ofNat i) = s_op ((s_start g) 71 20) (Int32.ofNat i) from by rw [hs.1.2.2.2.1], if_neg hc1, if_neg hc2, if_neg hc3] at hcan
            unfold p_calm
            rw [hcan, if_pos rfl]
          rw [s_bs_0 e, q_succ]
          exact q_EV.imp (ih (i + 1) _ (s_start g) (by omega) (w_st_sm s_start_fr h5 hs)) (fun R z => w_po_r s_start_fr rfl z)
theorem r_calm {n W H : Nat} {g r : qM} (u : qW) (h : w_ok n W H r) (hs : w_sm n (s_start g) r) (h5 : n ≤ 5) {p : Nat} (hp : p < n) : w_BS w_fr 207 [.ref 70, .int (Int32.ofNat p)] g u (.int (f_calm n W H r p)) := by
  refine w_bs (mm := m_207) rfl (Nat.le_of_ble_eq_true rfl) rfl ?_
  refine q_step 2 2 [(0, .ref 70), (1, .int (Int32.ofNat p))] [.int (Int32.ofNat p), .ref 70] g u (fun big n0 => sg_oc_60 big n0 g u (Int32.ofNat p)) ?_
  refine q_call (M2 := 169) (rest := []) (b_risOne1 g u (w_pl h hs) (by omega) hp) (fun _ _ => rfl) ?_
  refine q_step 5 14 [(0, .ref 70), (1, .int (Int32.ofNat p)), (2, .int (0 : Int32)), (3, .int (0 : Int32))] [] g u (fun big n0 => sg_oc_61 big n0 g u (Int32.ofNat p)) ?_
  exact rc_l u h h5 hp (W * H) 0 0 g (by omega) hs
end
