theorem sg_tp_1 (big : Nat → List Value → qM → qW → qR) (n0 : Nat) (G : qM) (U : qW) (v0 : Int32) : qm_run pm_m big m_11 (n0 + 5) 0 [(0, .ref 9), (1, .int v0)] [] G U = qm_run pm_m big m_11 n0 9 [(0, .ref 9), (1, .int v0)] [.int (160 : Int32), .int (G 9 1)] G U := rfl
theorem sg_tp_2 (big : Nat → List Value → qM → qW → qR) (n0 : Nat) (G : qM) (U : qW) (v0 : Int32) : qm_run pm_m big m_11 (n0 + 6) 14 [(0, .ref 9), (1, .int v0)] [] G U = qm_run pm_m big m_11 n0 24 [(0, .ref 9), (1, .int v0)] [.int (Int8.toInt32 (Int32.toInt8 v0)), .int (G 9 1), .ref 10] G U := rfl
theorem sg_tp_3 (big : Nat → List Value → qM → qW → qR) (n0 : Nat) (G : qM) (U : qW) (v0 : Int32) : qm_run pm_m big m_10 (n0 + 1) 0 [(0, .ref 8), (1, .int v0)] [] G U = qm_run pm_m big m_10 n0 1 [(0, .ref 8), (1, .int v0)] [.int v0] G U := rfl
theorem sg_tp_4 (big : Nat → List Value → qM → qW → qR) (n0 : Nat) (G : qM) (U : qW) (v0 : Int32) : qm_run pm_m big m_10 (n0 + 2) 4 [(0, .ref 8), (1, .int v0)] [] G U = qm_run pm_m big m_10 n0 7 [(0, .ref 8), (1, .int v0)] [.int (127 : Int32), .int v0] G U := rfl
theorem sg_tp_5 (big : Nat → List Value → qM → qW → qR) (n0 : Nat) (G : qM) (U : qW) (v0 : Int32) : qm_run pm_m big m_10 (n0 + 3) 12 [(0, .ref 8), (1, .int v0)] [] G U = qm_run pm_m big m_10 n0 17 [(0, .ref 8), (1, .int v0)] [.int v0, .ref 9] G U := rfl
theorem sg_tp_6 (big : Nat → List Value → qM → qW → qR) (n0 : Nat) (G : qM) (U : qW) (v0 : Int32) : qm_run pm_m big m_12 (n0 + 5) 0 [(0, .ref 8), (1, .int v0)] [] G U = qm_run pm_m big m_12 n0 9 [(0, .ref 8), (1, .int v0), (2, .int (G 9 1))] [.int v0] G U := rfl
theorem sg_tp_7 (big : Nat → List Value → qM → qW → qR) (n0 : Nat) (G : qM) (U : qW) (v0 : Int32) (v1 : Int32) : qm_run pm_m big m_12 (n0 + 2) 12 [(0, .ref 8), (1, .int v0), (2, .int v1)] [] G U = qm_run pm_m big m_12 n0 14 [(0, .ref 8), (1, .int v0), (2, .int v1)] [.int v1, .int v0] G U := rfl
theorem sg_tp_8 (big : Nat → List Value → qM → qW → qR) (n0 : Nat) (G : qM) (U : qW) (v0 : Int32) : qm_run pm_m big m_148 (n0 + 4) 0 [(0, .ref 70), (1, .int v0)] [] G U = qm_run pm_m big m_148 n0 6 [(0, .ref 70), (1, .int v0)] [.long (127 : Int64), .long (0 : Int64), .long (Int32.toInt64 v0)] G U := rfl
theorem sg_tp_9 (big : Nat → List Value → qM → qW → qR) (n0 : Nat) (G : qM) (U : qW) (v0 : Int32) : qm_run pm_m big m_148 (n0 + 3) 14 [(0, .ref 70), (1, .int v0)] [] G U = qm_run pm_m big m_148 n0 21 [(0, .ref 70), (1, .int v0)] [.int (160 : Int32), .int (G 70 13)] G U := rfl
theorem sg_tp_10 (big : Nat → List Value → qM → qW → qR) (n0 : Nat) (G : qM) (U : qW) (v0 : Int32) : qm_run pm_m big m_148 (n0 + 5) 27 [(0, .ref 70), (1, .int v0)] [] G U = qm_run pm_m big m_148 n0 36 [(0, .ref 70), (1, .int v0)] [.int v0, .int (G 70 13), .ref 74] G U := rfl
theorem sg_tp_11 (big : Nat → List Value → qM → qW → qR) (n0 : Nat) (G : qM) (U : qW) (v0 : Int32) : qm_run pm_m big m_150 (n0 + 6) 0 [(0, .ref 70), (1, .int v0)] [] G U = qm_run pm_m big m_150 n0 8 [(0, .ref 70), (1, .int v0)] [.long (Int32.toInt64 (G 70 13)), .long (0 : Int64), .long (Int32.toInt64 v0)] G U := rfl
theorem s_ixs {x : Int32} {s : Nat} (hx : x = Int32.ofNat s) (hs : s ≤ 160) (h : x < 160) : q_ix x s 160 := by
  rw [hx] at h ⊢
  have h1 := Int32.lt_iff_toInt_lt.mp h
  have e : (160 : Int32).toInt = 160 := rfl
  rw [q_nat (by omega)] at h1
  exact q_ixn (by omega) (by omega)
theorem s_ixr {x : Int32} {s : Nat} (hx : x = Int32.ofNat s) (hs : s ≤ 160) (h : ¬ x = 160) : q_ix x s 160 := by
  rw [hx] at h ⊢
  have h1 : s ≠ 160 := fun z => h (by rw [z]; rfl)
  exact q_ixn (by omega) (by omega)
def d_append (x : Int32) (s : Nat) (g : qM) (u : qW) : Option Value × qM × qW := (if (g 9 1) < (160 : Int32) then (some (.int (1 : Int32)), (q_up (q_up g 10 s (Int8.toInt32 (Int32.toInt8 (Int8.toInt32 (Int32.toInt8 x))))) 9 1 ((g 9 1) + (1 : Int32))), u) else (some (.int (0 : Int32)), g, u))
theorem b_append (x : Int32) (s : Nat) (g : qM) (u : qW) (hx : g 9 1 = Int32.ofNat s) (hs : s ≤ 160) : q_BS 11 [.ref 9, .int x] g u (d_append x s g u) := by
  refine q_bx (mm := m_11) rfl (Nat.le_of_ble_eq_true rfl) rfl ?_
  refine q_step 5 9 [(0, .ref 9), (1, .int x)] [.int (160 : Int32), .int (g 9 1)] g u (fun big n0 => sg_tp_1 big n0 g u x) ?_
  refine q_ic_lt rfl (fun (hc0 : (g 9 1) < (160 : Int32)) => ?_) (fun (hc0 : ¬ ((g 9 1) < (160 : Int32))) => ?_)
  · refine q_step 6 24 [(0, .ref 9), (1, .int x)] [.int (Int8.toInt32 (Int32.toInt8 x)), .int (g 9 1), .ref 10] g u (fun big n0 => sg_tp_2 big n0 g u x) ?_
    refine q_bast1 (j := s) (s_ixs hx hs (by assumption)) rfl rfl ?_
    refine q_ret 8 (some (.int (1 : Int32)), (q_up (q_up g 10 s (Int8.toInt32 (Int32.toInt8 (Int8.toInt32 (Int32.toInt8 x))))) 9 1 ((g 9 1) + (1 : Int32))), u) (fun _ _ => rfl) ?_
    unfold d_append
    rw [if_pos hc0]
  · refine q_ret 2 (some (.int (0 : Int32)), g, u) (fun _ _ => rfl) ?_
    unfold d_append
    rw [if_neg hc0]
def d_feed (x : Int32) (s : Nat) (g : qM) (u : qW) : Option Value × qM × qW := (if x < 0 then (some (.int (Int32.ofInt (-1))), g, u) else (if x ≤ (127 : Int32) then (if (g 9 1) < (160 : Int32) then (some (.int ((q_up (q_up g 10 s (Int8.toInt32 (Int32.toInt8 (Int8.toInt32 (Int32.toInt8 x))))) 9 1 ((g 9 1) + (1 : Int32))) 9 1)), (q_up (q_up g 10 s (Int8.toInt32 (Int32.toInt8 (Int8.toInt32 (Int32.toInt8 x))))) 9 1 ((g 9 1) + (1 : Int32))), u) else (some (.int (Int8.toInt32 (Int8.ofInt (-3)))), g, u)) else (some (.int (Int32.ofInt (-1))), g, u)))
theorem b_feed (x : Int32) (s : Nat) (g : qM) (u : qW) (hx : g 9 1 = Int32.ofNat s) (hs : s ≤ 160) : q_BS 10 [.ref 8, .int x] g u (d_feed x s g u) := by
  refine q_bx (mm := m_10) rfl (Nat.le_of_ble_eq_true rfl) rfl ?_
  refine q_step 1 1 [(0, .ref 8), (1, .int x)] [.int x] g u (fun big n0 => sg_tp_3 big n0 g u x) ?_
  refine q_if_lt rfl (fun (hc0 : x < 0) => ?_) (fun (hc0 : ¬ (x < 0)) => ?_)
  · refine q_ret 2 (some (.int (Int32.ofInt (-1))), g, u) (fun _ _ => rfl) ?_
    unfold d_feed
    rw [if_pos hc0]
  · refine q_step 2 7 [(0, .ref 8), (1, .int x)] [.int (127 : Int32), .int x] g u (fun big n0 => sg_tp_4 big n0 g u x) ?_
    refine q_ic_le rfl (fun (hc1 : x ≤ (127 : Int32)) => ?_) (fun (hc1 : ¬ (x ≤ (127 : Int32))) => ?_)
    · refine q_step 3 17 [(0, .ref 8), (1, .int x)] [.int x, .ref 9] g u (fun big n0 => sg_tp_5 big n0 g u x) ?_
      by_cases hc2 : (g 9 1) < (160 : Int32)
      · refine q_call (M2 := 11) (rest := []) (show q_BS 11 [.ref 9, .int x] g u (some (.int 1), (q_up (q_up g 10 s (Int8.toInt32 (Int32.toInt8 (Int8.toInt32 (Int32.toInt8 x))))) 9 1 ((g 9 1) + (1 : Int32))), u) from by have e := b_append x s g u hx hs; unfold d_append at e; rw [if_pos hc2] at e; exact e) (fun _ _ => rfl) ?_
        refine q_ret 6 (some (.int ((q_up (q_up g 10 s (Int8.toInt32 (Int32.toInt8 (Int8.toInt32 (Int32.toInt8 x))))) 9 1 ((g 9 1) + (1 : Int32))) 9 1)), (q_up (q_up g 10 s (Int8.toInt32 (Int32.toInt8 (Int8.toInt32 (Int32.toInt8 x))))) 9 1 ((g 9 1) + (1 : Int32))), u) (fun _ _ => rfl) ?_
        unfold d_feed
        rw [if_neg hc0, if_pos hc1, if_pos hc2]
      · refine q_call (M2 := 11) (rest := []) (show q_BS 11 [.ref 9, .int x] g u (some (.int 0), g, u) from by have e := b_append x s g u hx hs; unfold d_append at e; rw [if_neg hc2] at e; exact e) (fun _ _ => rfl) ?_
        refine q_ret 3 (some (.int (Int8.toInt32 (Int8.ofInt (-3)))), g, u) (fun _ _ => rfl) ?_
        unfold d_feed
        rw [if_neg hc0, if_pos hc1, if_neg hc2]
    · refine q_ret 2 (some (.int (Int32.ofInt (-1))), g, u) (fun _ _ => rfl) ?_
      unfold d_feed
      rw [if_neg hc0, if_neg hc1]
def d_end (x : Int32) (g : qM) (u : qW) : Option Value × qM × qW := (if x < 0 then (some (.int (Int32.ofInt (-1))), g, u) else (if x ≤ (g 9 1) then (some (.int (g 9 1)), (q_up g 9 1 x), u) else (some (.int (Int32.ofInt (-1))), g, u)))
theorem b_end (x : Int32) (g : qM) (u : qW) : q_BS 12 [.ref 8, .int x] g u (d_end x g u) := by
  refine q_bx (mm := m_12) rfl (Nat.le_of_ble_eq_true rfl) rfl ?_
  refine q_step 5 9 [(0, .ref 8), (1, .int x), (2, .int (g 9 1))] [.int x] g u (fun big n0 => sg_tp_6 big n0 g u x) ?_
  refine q_if_lt rfl (fun (hc0 : x < 0) => ?_) (fun (hc0 : ¬ (x < 0)) => ?_)
  · refine q_ret 2 (some (.int (Int32.ofInt (-1))), g, u) (fun _ _ => rfl) ?_
    unfold d_end
    rw [if_pos hc0]
  · refine q_step 2 14 [(0, .ref 8), (1, .int x), (2, .int (g 9 1))] [.int (g 9 1), .int x] g u (fun big n0 => sg_tp_7 big n0 g u x (g 9 1)) ?_
    refine q_ic_le rfl (fun (hc1 : x ≤ (g 9 1)) => ?_) (fun (hc1 : ¬ (x ≤ (g 9 1))) => ?_)
    · refine q_ret 6 (some (.int (g 9 1)), (q_up g 9 1 x), u) (fun _ _ => rfl) ?_
      unfold d_end
      rw [if_neg hc0, if_pos hc1]
    · refine q_ret 2 (some (.int (Int32.ofInt (-1))), g, u) (fun _ _ => rfl) ?_
      unfold d_end
      rw [if_neg hc0, if_neg hc1]
def d_rfeed (x : Int32) (s : Nat) (g : qM) (u : qW) : Option Value × qM × qW := (if (s_in (Int32.toInt64 x) (0 : Int64) (127 : Int64)) = 0 then (some (.int (Int32.ofInt (-1))), g, u) else (if (g 70 13) = (160 : Int32) then (some (.int (Int8.toInt32 (Int8.ofInt (-3)))), g, u) else (some (.int ((g 70 13) + (1 : Int32))), (q_up (q_up g 74 s x) 70 13 ((g 70 13) + (1 : Int32))), u)))
theorem b_rfeed (x : Int32) (s : Nat) (g : qM) (u : qW) (hx : g 70 13 = Int32.ofNat s) (hs : s ≤ 160) : q_BS 148 [.ref 70, .int x] g u (d_rfeed x s g u) := by
  refine q_bx (mm := m_148) rfl (Nat.le_of_ble_eq_true rfl) rfl ?_
  refine q_step 4 6 [(0, .ref 70), (1, .int x)] [.long (127 : Int64), .long (0 : Int64), .long (Int32.toInt64 x)] g u (fun big n0 => sg_tp_8 big n0 g u x) ?_
  refine q_call (M2 := 149) (rest := []) (b_in _ _ _ _ _) (fun _ _ => rfl) ?_
  refine q_if_ne rfl (fun (hc0 : (s_in (Int32.toInt64 x) (0 : Int64) (127 : Int64)) = 0) => ?_) (fun (hc0 : ¬ ((s_in (Int32.toInt64 x) (0 : Int64) (127 : Int64)) = 0)) => ?_)
  · refine q_ret 2 (some (.int (Int32.ofInt (-1))), g, u) (fun _ _ => rfl) ?_
    unfold d_rfeed
    rw [if_pos hc0]
  · refine q_step 3 21 [(0, .ref 70), (1, .int x)] [.int (160 : Int32), .int (g 70 13)] g u (fun big n0 => sg_tp_9 big n0 g u x) ?_
    refine q_ic_ne rfl (fun (hc1 : (g 70 13) = (160 : Int32)) => ?_) (fun (hc1 : ¬ ((g 70 13) = (160 : Int32))) => ?_)
    · refine q_ret 2 (some (.int (Int8.toInt32 (Int8.ofInt (-3)))), g, u) (fun _ _ => rfl) ?_
      unfold d_rfeed
      rw [if_neg hc0, if_pos hc1]
    · refine q_step 5 36 [(0, .ref 70), (1, .int x)] [.int x, .int (g 70 13), .ref 74] g u (fun big n0 => sg_tp_10 big n0 g u x) ?_
      refine q_iast (j := s) (s_ixr hx hs (by assumption)) rfl rfl ?_
      refine q_ret 9 (some (.int ((g 70 13) + (1 : Int32))), (q_up (q_up g 74 s x) 70 13 ((g 70 13) + (1 : Int32))), u) (fun _ _ => rfl) ?_
      unfold d_rfeed
      rw [if_neg hc0, if_neg hc1]
def d_rend (x : Int32) (g : qM) (u : qW) : Option Value × qM × qW := (if (s_in (Int32.toInt64 x) (0 : Int64) (Int32.toInt64 (g 70 13))) = 0 then (some (.int (Int32.ofInt (-1))), g, u) else (some (.int (g 70 13)), (q_up g 70 13 x), u))
theorem b_rend (x : Int32) (g : qM) (u : qW) : q_BS 150 [.ref 70, .int x] g u (d_rend x g u) := by
  refine q_bx (mm := m_150) rfl (Nat.le_of_ble_eq_true rfl) rfl ?_
  refine q_step 6 8 [(0, .ref 70), (1, .int x)] [.long (Int32.toInt64 (g 70 13)), .long (0 : Int64), .long (Int32.toInt64 x)] g u (fun big n0 => sg_tp_11 big n0 g u x) ?_
  refine q_call (M2 := 149) (rest := []) (b_in _ _ _ _ _) (fun _ _ => rfl) ?_
  refine q_if_ne rfl (fun (hc0 : (s_in (Int32.toInt64 x) (0 : Int64) (Int32.toInt64 (g 70 13))) = 0) => ?_) (fun (hc0 : ¬ ((s_in (Int32.toInt64 x) (0 : Int64) (Int32.toInt64 (g 70 13))) = 0)) => ?_)
  · refine q_ret 2 (some (.int (Int32.ofInt (-1))), g, u) (fun _ _ => rfl) ?_
    unfold d_rend
    rw [if_pos hc0]
  · refine q_ret 8 (some (.int (g 70 13)), (q_up g 70 13 x), u) (fun _ _ => rfl) ?_
    unfold d_rend
    rw [if_neg hc0]
