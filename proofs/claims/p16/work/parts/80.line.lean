/-! A LINE of the class. -/
def o_line (b : Nat → Int32) (s f p : Nat) (k : Int32) (r : qM) : tO :=
  if k = 0 then o_bad 1 f r else if k = 1 then (if t_ln b f (p - f) = 0 then o_town b s f p r else if t_ln b f (p - f) = 1 then o_pull b s f p r else if t_ln b f (p - f) = 2 then o_press b s f p r else if t_ln b f (p - f) = 3 then o_wall b s p r else if t_ln b f (p - f) = 4 then o_one b s f p r 0 else if t_ln b f (p - f) = 5 then o_one b s f p r 1 else if t_ln b f (p - f) = 6 then o_goal b s p r else o_bad 2 f r) else o_bad 2 f r
/-- a line and its end -/
def o_fin (b : Nat → Int32) (s : Nat) (o : tO) : tO := if o.1 = 0 then (if t_et b s o.2.2.1 3 = 0 then o_ok (t_pl b s o.2.2.1) o.2.2.2 else o_bad (t_et b s o.2.2.1 3) (t_fi b s o.2.2.1) o.2.2.2) else o
theorem t_isy {c : Prop} [Decidable c] {b : Nat → Int32} {f l : Nat} {n : List Int32} (h : ¬ (if c then t_is b f l n else 0) = 0) : c ∧ t_is b f l n = 1 := by
  by_cases e : c
  · rw [if_pos e] at h
    exact ⟨e, (t_is_01 n).resolve_left h⟩
  · rw [if_neg e] at h
    exact absurd rfl h
theorem t_isz {c : Prop} [Decidable c] {b : Nat → Int32} {f l : Nat} {n : List Int32} (h : (if c then t_is b f l n else 0) = 0) (e : c) : ¬ t_is b f l n = 1 := by
  rw [if_pos e] at h
  rw [h]
  decide
/-- which line it is -/
theorem o_line_of {b : Nat → Int32} {s f p k : Nat} {r : qM} (hk : k < 7) (h : t_is b f (p - f) (t_nm k) = 1) : o_line b s f p 1 r = if k = 0 then o_town b s f p r else if k = 1 then o_pull b s f p r else if k = 2 then o_press b s f p r else if k = 3 then o_wall b s p r else if k = 4 then o_one b s f p r 0 else if k = 5 then o_one b s f p r 1 else o_goal b s p r := by
  have e := t_ln_of hk h
  have q : ∀ j, j < 7 → (t_ln b f (p - f) = Int32.ofNat j ↔ k = j) := fun j hj => by rw [e]; exact q_eq (by omega) (by omega)
  have q0 : t_ln b f (p - f) = 0 ↔ k = 0 := q 0 (by omega)
  have q1 : t_ln b f (p - f) = 1 ↔ k = 1 := q 1 (by omega)
  have q2 : t_ln b f (p - f) = 2 ↔ k = 2 := q 2 (by omega)
  have q3 : t_ln b f (p - f) = 3 ↔ k = 3 := q 3 (by omega)
  have q4 : t_ln b f (p - f) = 4 ↔ k = 4 := q 4 (by omega)
  have q5 : t_ln b f (p - f) = 5 ↔ k = 5 := q 5 (by omega)
  have q6 : t_ln b f (p - f) = 6 ↔ k = 6 := q 6 (by omega)
  unfold o_line
  rw [if_neg (by decide), if_pos rfl]
  by_cases h0 : k = 0
  · rw [if_pos (q0.mpr h0), if_pos h0]
  rw [if_neg (fun z => h0 (q0.mp z)), if_neg h0]
  by_cases h1 : k = 1
  · rw [if_pos (q1.mpr h1), if_pos h1]
  rw [if_neg (fun z => h1 (q1.mp z)), if_neg h1]
  by_cases h2 : k = 2
  · rw [if_pos (q2.mpr h2), if_pos h2]
  rw [if_neg (fun z => h2 (q2.mp z)), if_neg h2]
  by_cases h3 : k = 3
  · rw [if_pos (q3.mpr h3), if_pos h3]
  rw [if_neg (fun z => h3 (q3.mp z)), if_neg h3]
  by_cases h4 : k = 4
  · rw [if_pos (q4.mpr h4), if_pos h4]
  rw [if_neg (fun z => h4 (q4.mp z)), if_neg h4]
  by_cases h5 : k = 5
  · rw [if_pos (q5.mpr h5), if_pos h5]
  rw [if_neg (fun z => h5 (q5.mp z)), if_neg h5, if_pos (q6.mpr (by omega))]
theorem o_line_no {b : Nat → Int32} {s f p : Nat} {k : Int32} {r : qM} (h0 : ¬ k = 0) (h : k = 1 → ∀ j, j < 7 → ¬ t_is b f (p - f) (t_nm j) = 1) : o_line b s f p k r = o_bad 2 f r := by
  unfold o_line
  rw [if_neg h0]
  by_cases e : k = 1
  · rw [if_pos e, t_ln_no (h e), if_neg (by decide), if_neg (by decide), if_neg (by decide), if_neg (by decide), if_neg (by decide), if_neg (by decide), if_neg (by decide)]
  · rw [if_neg e]
theorem sg_tl_1 (big : Nat → List Value → qM → qW → qR) (n0 : Nat) (G : qM) (U : qW) : qm_run pm_m big m_19 (n0 + 3) 0 [(0, .ref 11)] [] G U = qm_run pm_m big m_19 n0 7 [(0, .ref 11)] [.int (G 9 2)] G U := rfl
theorem sg_tl_2 (big : Nat → List Value → qM → qW → qR) (n0 : Nat) (G : qM) (U : qW) : qm_run pm_m big m_19 (n0 + 5) 10 [(0, .ref 11)] [] G U = qm_run pm_m big m_19 n0 19 [(0, .ref 11)] [.int (G 9 3), .int (1 : Int32), .ref 11] G U := rfl
theorem sg_tl_3 (big : Nat → List Value → qM → qW → qR) (n0 : Nat) (G : qM) (U : qW) : qm_run pm_m big m_19 (n0 + 3) 25 [(0, .ref 11)] [] G U = qm_run pm_m big m_19 n0 31 [(0, .ref 11)] [.ref 1, .ref 9] G U := rfl
theorem sg_tl_4 (big : Nat → List Value → qM → qW → qR) (n0 : Nat) (G : qM) (U : qW) : qm_run pm_m big m_19 (n0 + 3) 44 [(0, .ref 11)] [] G U = qm_run pm_m big m_19 n0 50 [(0, .ref 11)] [.ref 2, .ref 9] G U := rfl
theorem sg_tl_5 (big : Nat → List Value → qM → qW → qR) (n0 : Nat) (G : qM) (U : qW) : qm_run pm_m big m_19 (n0 + 3) 63 [(0, .ref 11)] [] G U = qm_run pm_m big m_19 n0 69 [(0, .ref 11)] [.ref 3, .ref 9] G U := rfl
theorem sg_tl_6 (big : Nat → List Value → qM → qW → qR) (n0 : Nat) (G : qM) (U : qW) : qm_run pm_m big m_19 (n0 + 3) 83 [(0, .ref 11)] [] G U = qm_run pm_m big m_19 n0 89 [(0, .ref 11)] [.ref 4, .ref 9] G U := rfl
theorem sg_tl_7 (big : Nat → List Value → qM → qW → qR) (n0 : Nat) (G : qM) (U : qW) : qm_run pm_m big m_19 (n0 + 3) 103 [(0, .ref 11)] [] G U = qm_run pm_m big m_19 n0 109 [(0, .ref 11)] [.ref 5, .ref 9] G U := rfl
theorem sg_tl_8 (big : Nat → List Value → qM → qW → qR) (n0 : Nat) (G : qM) (U : qW) : qm_run pm_m big m_19 (n0 + 3) 122 [(0, .ref 11)] [] G U = qm_run pm_m big m_19 n0 128 [(0, .ref 11)] [.ref 6, .ref 9] G U := rfl
theorem sg_tl_9 (big : Nat → List Value → qM → qW → qR) (n0 : Nat) (G : qM) (U : qW) : qm_run pm_m big m_19 (n0 + 3) 141 [(0, .ref 11)] [] G U = qm_run pm_m big m_19 n0 147 [(0, .ref 11)] [.ref 7, .ref 9] G U := rfl
theorem sg_tl_10 (big : Nat → List Value → qM → qW → qR) (n0 : Nat) (G : qM) (U : qW) : qm_run pm_m big m_19 (n0 + 5) 160 [(0, .ref 11)] [] G U = qm_run pm_m big m_19 n0 169 [(0, .ref 11)] [.int (G 9 3), .int (2 : Int32), .ref 11] G U := rfl
theorem sg_tl_11 (big : Nat → List Value → qM → qW → qR) (n0 : Nat) (G : qM) (U : qW) : qm_run pm_m big m_19 (n0 + 1) 153 [(0, .ref 11)] [] G U = qm_run pm_m big m_19 n0 154 [(0, .ref 11)] [.ref 11] G U := rfl
theorem sg_tl_12 (big : Nat → List Value → qM → qW → qR) (n0 : Nat) (G : qM) (U : qW) : qm_run pm_m big m_19 (n0 + 1) 134 [(0, .ref 11)] [] G U = qm_run pm_m big m_19 n0 135 [(0, .ref 11)] [.ref 11] G U := rfl
theorem sg_tl_13 (big : Nat → List Value → qM → qW → qR) (n0 : Nat) (G : qM) (U : qW) : qm_run pm_m big m_19 (n0 + 1) 115 [(0, .ref 11)] [] G U = qm_run pm_m big m_19 n0 116 [(0, .ref 11)] [.ref 11] G U := rfl
theorem sg_tl_14 (big : Nat → List Value → qM → qW → qR) (n0 : Nat) (G : qM) (U : qW) : qm_run pm_m big m_19 (n0 + 2) 95 [(0, .ref 11)] [] G U = qm_run pm_m big m_19 n0 97 [(0, .ref 11)] [.int (1 : Int32), .ref 11] G U := rfl
theorem sg_tl_15 (big : Nat → List Value → qM → qW → qR) (n0 : Nat) (G : qM) (U : qW) : qm_run pm_m big m_19 (n0 + 2) 75 [(0, .ref 11)] [] G U = qm_run pm_m big m_19 n0 77 [(0, .ref 11)] [.int (0 : Int32), .ref 11] G U := rfl
theorem sg_tl_16 (big : Nat → List Value → qM → qW → qR) (n0 : Nat) (G : qM) (U : qW) : qm_run pm_m big m_19 (n0 + 1) 56 [(0, .ref 11)] [] G U = qm_run pm_m big m_19 n0 57 [(0, .ref 11)] [.ref 11] G U := rfl
theorem sg_tl_17 (big : Nat → List Value → qM → qW → qR) (n0 : Nat) (G : qM) (U : qW) : qm_run pm_m big m_19 (n0 + 1) 37 [(0, .ref 11)] [] G U = qm_run pm_m big m_19 n0 38 [(0, .ref 11)] [.ref 11] G U := rfl
theorem sg_tl_18 (big : Nat → List Value → qM → qW → qR) (n0 : Nat) (G : qM) (U : qW) : qm_run pm_m big m_36 (n0 + 2) 0 [(0, .ref 11)] [] G U = qm_run pm_m big m_36 n0 2 [(0, .ref 11)] [.int (3 : Int32), .ref 11] G U := rfl
theorem c_line {s f p : Nat} {r : qM} (g : qM) (u : qW) (hc : k_cc s f p r g) (hfp : f ≤ p) : ∃ R, q_BS 19 [.ref 11] g u R ∧ ∃ g', R = (none, g', u) ∧ k_pc s (o_line (g 10) s f p (g 9 2) r) g g' := by
  refine q_bs (mm := m_19) rfl (Nat.le_of_ble_eq_true rfl) rfl ?_
  have hc0 := hc
  obtain ⟨⟨hs, h160, hp5, hp, h2, hf⟩, hd, hn⟩ := hc0
  refine q_step 3 7 [(0, .ref 11)] [.int (g 9 2)] g u (fun big n0 => sg_tl_1 big n0 g u) ?_
  refine q_if_ne rfl (fun (hc50 : (g 9 2) = 0) => ?_) (fun (hc50 : ¬ ((g 9 2) = 0)) => ?_)
  · refine q_step 5 19 [(0, .ref 11)] [.int (g 9 3), .int (1 : Int32), .ref 11] g u (fun big n0 => sg_tl_2 big n0 g u) ?_
    refine q_call (M2 := 20) (rest := []) (b_refuse _ _ _ _) (fun _ _ => rfl) ?_
    refine q_ret 2 (none, (q_up (q_up g 11 2 (1 : Int32)) 11 3 (g 9 3)), u) (fun _ _ => rfl) ?_
    have e : o_line (g 10) s f p (g 9 2) r = o_bad 1 f r := by unfold o_line; rw [if_pos hc50]
    rw [e]
    exact ⟨_, rfl, k_pc_bad (((k_ft_rfl g).up (by omega)).up (by omega)) (by decide) rfl hf⟩
  · refine q_step 3 31 [(0, .ref 11)] [.ref 1, .ref 9] g u (fun big n0 => sg_tl_3 big n0 g u) ?_
    refine q_call (M2 := 21) (rest := []) (c_isn0 g u hf hp5 hfp (by omega)) (fun _ _ => rfl) ?_
    refine q_if_eq rfl (fun (hc51 : (if g 9 2 = 1 then t_is (g 10) f (p - f) (t_nm 0) else 0) = 0) => ?_) (fun (hc51 : ¬ ((if g 9 2 = 1 then t_is (g 10) f (p - f) (t_nm 0) else 0) = 0)) => ?_)
    · refine q_step 3 50 [(0, .ref 11)] [.ref 2, .ref 9] g u (fun big n0 => sg_tl_4 big n0 g u) ?_
      refine q_call (M2 := 21) (rest := []) (c_isn3 g u hf hp5 hfp (by omega)) (fun _ _ => rfl) ?_
      refine q_if_eq rfl (fun (hc52 : (if g 9 2 = 1 then t_is (g 10) f (p - f) (t_nm 3) else 0) = 0) => ?_) (fun (hc52 : ¬ ((if g 9 2 = 1 then t_is (g 10) f (p - f) (t_nm 3) else 0) = 0)) => ?_)
      · refine q_step 3 69 [(0, .ref 11)] [.ref 3, .ref 9] g u (fun big n0 => sg_tl_5 big n0 g u) ?_
        refine q_call (M2 := 21) (rest := []) (c_isn4 g u hf hp5 hfp (by omega)) (fun _ _ => rfl) ?_
        refine q_if_eq rfl (fun (hc53 : (if g 9 2 = 1 then t_is (g 10) f (p - f) (t_nm 4) else 0) = 0) => ?_) (fun (hc53 : ¬ ((if g 9 2 = 1 then t_is (g 10) f (p - f) (t_nm 4) else 0) = 0)) => ?_)
        · refine q_step 3 89 [(0, .ref 11)] [.ref 4, .ref 9] g u (fun big n0 => sg_tl_6 big n0 g u) ?_
          refine q_call (M2 := 21) (rest := []) (c_isn5 g u hf hp5 hfp (by omega)) (fun _ _ => rfl) ?_
          refine q_if_eq rfl (fun (hc54 : (if g 9 2 = 1 then t_is (g 10) f (p - f) (t_nm 5) else 0) = 0) => ?_) (fun (hc54 : ¬ ((if g 9 2 = 1 then t_is (g 10) f (p - f) (t_nm 5) else 0) = 0)) => ?_)
          · refine q_step 3 109 [(0, .ref 11)] [.ref 5, .ref 9] g u (fun big n0 => sg_tl_7 big n0 g u) ?_
            refine q_call (M2 := 21) (rest := []) (c_isn1 g u hf hp5 hfp (by omega)) (fun _ _ => rfl) ?_
            refine q_if_eq rfl (fun (hc55 : (if g 9 2 = 1 then t_is (g 10) f (p - f) (t_nm 1) else 0) = 0) => ?_) (fun (hc55 : ¬ ((if g 9 2 = 1 then t_is (g 10) f (p - f) (t_nm 1) else 0) = 0)) => ?_)
            · refine q_step 3 128 [(0, .ref 11)] [.ref 6, .ref 9] g u (fun big n0 => sg_tl_8 big n0 g u) ?_
              refine q_call (M2 := 21) (rest := []) (c_isn2 g u hf hp5 hfp (by omega)) (fun _ _ => rfl) ?_
              refine q_if_eq rfl (fun (hc56 : (if g 9 2 = 1 then t_is (g 10) f (p - f) (t_nm 2) else 0) = 0) => ?_) (fun (hc56 : ¬ ((if g 9 2 = 1 then t_is (g 10) f (p - f) (t_nm 2) else 0) = 0)) => ?_)
              · refine q_step 3 147 [(0, .ref 11)] [.ref 7, .ref 9] g u (fun big n0 => sg_tl_9 big n0 g u) ?_
                refine q_call (M2 := 21) (rest := []) (c_isn6 g u hf hp5 hfp (by omega)) (fun _ _ => rfl) ?_
                refine q_if_eq rfl (fun (hc57 : (if g 9 2 = 1 then t_is (g 10) f (p - f) (t_nm 6) else 0) = 0) => ?_) (fun (hc57 : ¬ ((if g 9 2 = 1 then t_is (g 10) f (p - f) (t_nm 6) else 0) = 0)) => ?_)
                · refine q_step 5 169 [(0, .ref 11)] [.int (g 9 3), .int (2 : Int32), .ref 11] g u (fun big n0 => sg_tl_10 big n0 g u) ?_
                  refine q_call (M2 := 20) (rest := []) (b_refuse _ _ _ _) (fun _ _ => rfl) ?_
                  refine q_ret 1 (none, (q_up (q_up g 11 2 (2 : Int32)) 11 3 (g 9 3)), u) (fun _ _ => rfl) ?_
                  have e : o_line (g 10) s f p (g 9 2) r = o_bad 2 f r := o_line_no hc50 (fun z j hj => by
                    rcases (show j = 0 ∨ j = 1 ∨ j = 2 ∨ j = 3 ∨ j = 4 ∨ j = 5 ∨ j = 6 by omega) with e | e | e | e | e | e | e
                    · rw [e]; exact t_isz hc51 z
                    · rw [e]; exact t_isz hc55 z
                    · rw [e]; exact t_isz hc56 z
                    · rw [e]; exact t_isz hc52 z
                    · rw [e]; exact t_isz hc53 z
                    · rw [e]; exact t_isz hc54 z
                    · rw [e]; exact t_isz hc57 z)
                  rw [e]
                  exact ⟨_, rfl, k_pc_bad (((k_ft_rfl g).up (by omega)).up (by omega)) (by decide) rfl hf⟩
                · refine q_step 1 154 [(0, .ref 11)] [.ref 11] g u (fun big n0 => sg_tl_11 big n0 g u) ?_
                  obtain ⟨_, hq, g1, rfl, hk⟩ := c_lgoal g u hc
                  refine q_call (M2 := 35) (rest := []) (hq) (fun _ _ => rfl) ?_
                  refine q_ret 2 (none, g1, u) (fun _ _ => rfl) ?_
                  have y := t_isy hc57
                  rw [y.1, o_line_of (k := 6) (by omega) y.2]
                  exact ⟨_, rfl, hk⟩
              · refine q_step 1 135 [(0, .ref 11)] [.ref 11] g u (fun big n0 => sg_tl_12 big n0 g u) ?_
                obtain ⟨_, hq, g1, rfl, hk⟩ := c_lpress g u hc
                refine q_call (M2 := 34) (rest := []) (hq) (fun _ _ => rfl) ?_
                refine q_ret 2 (none, g1, u) (fun _ _ => rfl) ?_
                have y := t_isy hc56
                rw [y.1, o_line_of (k := 2) (by omega) y.2]
                exact ⟨_, rfl, hk⟩
            · refine q_step 1 116 [(0, .ref 11)] [.ref 11] g u (fun big n0 => sg_tl_13 big n0 g u) ?_
              obtain ⟨_, hq, g1, rfl, hk⟩ := c_lpull g u hc
              refine q_call (M2 := 33) (rest := []) (hq) (fun _ _ => rfl) ?_
              refine q_ret 2 (none, g1, u) (fun _ _ => rfl) ?_
              have y := t_isy hc55
              rw [y.1, o_line_of (k := 1) (by omega) y.2]
              exact ⟨_, rfl, hk⟩
          · refine q_step 2 97 [(0, .ref 11)] [.int (1 : Int32), .ref 11] g u (fun big n0 => sg_tl_14 big n0 g u) ?_
            obtain ⟨_, hq, g1, rfl, hk⟩ := c_lone (1 : Int32) g u hc
            refine q_call (M2 := 31) (rest := []) (hq) (fun _ _ => rfl) ?_
            refine q_ret 2 (none, g1, u) (fun _ _ => rfl) ?_
            have y := t_isy hc54
            rw [y.1, o_line_of (k := 5) (by omega) y.2]
            exact ⟨_, rfl, hk⟩
        · refine q_step 2 77 [(0, .ref 11)] [.int (0 : Int32), .ref 11] g u (fun big n0 => sg_tl_15 big n0 g u) ?_
          obtain ⟨_, hq, g1, rfl, hk⟩ := c_lone (0 : Int32) g u hc
          refine q_call (M2 := 31) (rest := []) (hq) (fun _ _ => rfl) ?_
          refine q_ret 2 (none, g1, u) (fun _ _ => rfl) ?_
          have y := t_isy hc53
          rw [y.1, o_line_of (k := 4) (by omega) y.2]
          exact ⟨_, rfl, hk⟩
      · refine q_step 1 57 [(0, .ref 11)] [.ref 11] g u (fun big n0 => sg_tl_16 big n0 g u) ?_
        obtain ⟨_, hq, g1, rfl, hk⟩ := c_lwall g u hc
        refine q_call (M2 := 26) (rest := []) (hq) (fun _ _ => rfl) ?_
        refine q_ret 2 (none, g1, u) (fun _ _ => rfl) ?_
        have y := t_isy hc52
        rw [y.1, o_line_of (k := 3) (by omega) y.2]
        exact ⟨_, rfl, hk⟩
    · refine q_step 1 38 [(0, .ref 11)] [.ref 11] g u (fun big n0 => sg_tl_17 big n0 g u) ?_
      obtain ⟨_, hq, g1, rfl, hk⟩ := c_ltown g u hc
      refine q_call (M2 := 22) (rest := []) (hq) (fun _ _ => rfl) ?_
      refine q_ret 2 (none, g1, u) (fun _ _ => rfl) ?_
      have y := t_isy hc51
      rw [y.1, o_line_of (k := 0) (by omega) y.2]
      exact ⟨_, rfl, hk⟩
theorem c_stopf (g : qM) (u : qW) (h2 : ¬ g 11 2 = 0) : q_BS 36 [.ref 11] g u (none, g, u) := by
  refine q_bx (mm := m_36) rfl (Nat.le_of_ble_eq_true rfl) rfl ?_
  refine q_step 2 2 [(0, .ref 11)] [.int (3 : Int32), .ref 11] g u (fun big n0 => sg_tl_18 big n0 g u) ?_
  refine q_call (M2 := 25) (rest := []) (c_tokf _ _ _ h2) (fun _ _ => rfl) ?_
  refine q_ret 2 (none, g, u) (fun _ _ => rfl) ?_
  rfl
theorem c_stop {b : Nat → Int32} {s p : Nat} (g : qM) (u : qW) (h : k_tk b s p g) : ∃ R, q_BS 36 [.ref 11] g u R ∧ ∃ g', R = (none, g', u) ∧ k_f9 g g' ∧ g' 9 5 = Int32.ofNat (t_pl b s p) ∧ g' 11 2 = t_et b s p 3 ∧ (¬ t_et b s p 3 = 0 → g' 11 3 = Int32.ofNat (t_fi b s p)) := by
  refine q_bs (mm := m_36) rfl (Nat.le_of_ble_eq_true rfl) rfl ?_
  obtain ⟨hb, hs, h160, hp5, hp, h2⟩ := h
  subst hb
  refine q_step 2 2 [(0, .ref 11)] [.int (3 : Int32), .ref 11] g u (fun big n0 => sg_tl_18 big n0 g u) ?_
  obtain ⟨_, hq, g1, rfl, hf9, h92, h93, h95, h94, h112, h113⟩ := c_tok g u hs h160 hp5 hp h2 3
  refine q_call (M2 := 25) (rest := []) (hq) (fun _ _ => rfl) ?_
  refine q_ret 2 (none, g1, u) (fun _ _ => rfl) ?_
  exact ⟨_, rfl, hf9, h95, h112, h113⟩
