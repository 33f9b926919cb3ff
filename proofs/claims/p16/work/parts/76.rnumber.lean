/-! NUMBERS of the text, the reference. -/
def k_f70 (h h' : qM) : Prop := (∀ a, a ≠ 70 → h' a = h a) ∧ (∀ j, j < 14 ∨ 19 < j → h' 70 j = h 70 j)
theorem k_f70_rfl (h : qM) : k_f70 h h := ⟨fun _ _ => rfl, fun _ _ => rfl⟩
theorem k_f70.trans {a b c : qM} (h1 : k_f70 a b) (h2 : k_f70 b c) : k_f70 a c := ⟨fun x h => (h2.1 x h).trans (h1.1 x h), fun x h => (h2.2 x h).trans (h1.2 x h)⟩
theorem k_f70.up {g g' : qM} (h : k_f70 g g') {j : Nat} {x : Int32} (hj : 14 ≤ j ∧ j ≤ 19) : k_f70 g (q_up g' 70 j x) := by
  refine ⟨fun a h1 => ?_, fun i hi => ?_⟩
  · rw [q_up_ne h1]
    exact h.1 a h1
  · rw [q_up_eq, if_neg (by omega)]
    exact h.2 i hi
theorem k_f70_70 (p f k v e a : Int32) (g : qM) : k_f70 g (s_70 p f k v e a g) := by
  refine ⟨fun b h => s_70_o h, fun j h => ?_⟩
  unfold s_70
  rw [if_pos rfl, if_neg (by omega), if_neg (by omega), if_neg (by omega), if_neg (by omega), if_neg (by omega), if_neg (by omega)]
/-- the bytes -/
def k_b (b : Nat → Int32) (s : Nat) (h : qM) : Prop := h 70 13 = Int32.ofNat s ∧ s ≤ 160 ∧ ∀ j, j < s → h 74 j = b j ∧ 0 ≤ (b j).toInt
theorem k_b.fr {b : Nat → Int32} {s : Nat} {h h' : qM} (hb : k_b b s h) (hf : k_f70 h h') : k_b b s h' := ⟨(hf.2 13 (by omega)).trans hb.1, hb.2.1, fun j hj => by rw [hf.1 74 (by decide)]; exact hb.2.2 j hj⟩
/-- the token from p on is looked at -/
def k_la (b : Nat → Int32) (s p : Nat) (h : qM) : Prop := (t_ki b s p = 0 ∧ h 70 18 = 1 ∧ h 70 19 = Int32.ofNat (t_fi b s p)) ∨ (¬ t_ki b s p = 0 ∧ h 70 18 = 0 ∧ h 70 14 = Int32.ofNat (t_pl b s p) ∧ h 70 15 = Int32.ofNat (t_fi b s p) ∧ h 70 16 = (if t_ki b s p = 4 then 0 else t_ki b s p) ∧ (t_ki b s p = 2 → h 70 17 = t_va b s p))
theorem r_nextb {b : Nat → Int32} {s p : Nat} (h : qM) (u : qW) (hb : k_b b s h) (hp14 : h 70 14 = Int32.ofNat p) (hp : p ≤ s) (hf : h 70 18 = 0) : ∃ h', q_BS 152 [.ref 70] h u (none, h', u) ∧ k_f70 h h' ∧ k_la b s p h' := by
  have hc : ∀ j, j < s → h 74 j = b j := fun j hj => (hb.2.2 j hj).1
  obtain ⟨_, hq, k, v, e, a, rfl, hh⟩ := r_next h u hb.1 hb.2.1 hp14 hp hf (fun j hj => by rw [hc j hj]; exact (hb.2.2 j hj).2)
  refine ⟨_, hq, k_f70_70 _ _ _ _ _ _ h, ?_⟩
  rw [t_ki_c hc hp, t_fi_c hc hp, t_va_c hc hp] at hh
  unfold k_la
  rw [t_pl_c hc hp, t_fi_c hc hp]
  rcases hh with hh | hh
  · exact Or.inl ⟨hh.1, hh.2.1, hh.2.2⟩
  · exact Or.inr ⟨hh.1, hh.2.1, rfl, rfl, hh.2.2.1, hh.2.2.2⟩
theorem t_er_pos {b : Nat → Int32} {s p : Nat} {lo hi : Int32} (h : ¬ t_er b s p lo hi = 0) : 0 < t_er b s p lo hi := by
  revert h
  unfold t_er
  repeat' split
  all_goals first
    | exact fun z => absurd rfl z
    | exact fun _ => by decide
theorem s_in_32 {x lo hi : Int32} : ¬ s_in x.toInt64 lo.toInt64 hi.toInt64 = 0 ↔ ¬ x < lo ∧ ¬ hi < x := by
  rw [s_in_iff, Int32.toInt_toInt64, Int32.toInt_toInt64, Int32.toInt_toInt64, Int32.lt_iff_toInt_lt, Int32.lt_iff_toInt_lt]
  omega
theorem sg_rn_1 (big : Nat → List Value → qM → qW → qR) (n0 : Nat) (G : qM) (U : qW) (v0 : Int32) (v1 : Int32) : qm_run pm_m big m_161 (n0 + 2) 0 [(0, .ref 70), (1, .int v0), (2, .int v1)] [] G U = qm_run pm_m big m_161 n0 4 [(0, .ref 70), (1, .int v0), (2, .int v1)] [.int (G 70 18)] G U := rfl
theorem sg_rn_2 (big : Nat → List Value → qM → qW → qR) (n0 : Nat) (G : qM) (U : qW) (v0 : Int32) (v1 : Int32) : qm_run pm_m big m_161 (n0 + 2) 25 [(0, .ref 70), (1, .int v0), (2, .int v1)] [] G U = qm_run pm_m big m_161 n0 29 [(0, .ref 70), (1, .int v0), (2, .int v1)] [.int (G 70 18)] G U := rfl
theorem sg_rn_3 (big : Nat → List Value → qM → qW → qR) (n0 : Nat) (G : qM) (U : qW) (v0 : Int32) (v1 : Int32) : qm_run pm_m big m_161 (n0 + 2) 49 [(0, .ref 70), (1, .int v0), (2, .int v1)] [] G U = qm_run pm_m big m_161 n0 53 [(0, .ref 70), (1, .int v0), (2, .int v1)] [.int (G 70 18)] G U := rfl
theorem sg_rn_4 (big : Nat → List Value → qM → qW → qR) (n0 : Nat) (G : qM) (U : qW) (v0 : Int32) (v1 : Int32) : qm_run pm_m big m_161 (n0 + 4) 7 [(0, .ref 70), (1, .int v0), (2, .int v1)] [] G U = qm_run pm_m big m_161 n0 13 [(0, .ref 70), (1, .int v0), (2, .int v1)] [.int (2 : Int32), .int (G 70 16), .ref 70] G U := rfl
theorem sg_rn_5 (big : Nat → List Value → qM → qW → qR) (n0 : Nat) (G : qM) (U : qW) (v0 : Int32) (v1 : Int32) : qm_run pm_m big m_161 (n0 + 3) 16 [(0, .ref 70), (1, .int v0), (2, .int v1)] [.ref 70] G U = qm_run pm_m big m_161 n0 22 [(0, .ref 70), (1, .int v0), (2, .int v1)] [.int (2 : Int32), .int (1 : Int32), .ref 70] G U := rfl
theorem sg_rn_6 (big : Nat → List Value → qM → qW → qR) (n0 : Nat) (G : qM) (U : qW) (v0 : Int32) (v1 : Int32) : qm_run pm_m big m_161 (n0 + 8) 32 [(0, .ref 70), (1, .int v0), (2, .int v1)] [] G U = qm_run pm_m big m_161 n0 42 [(0, .ref 70), (1, .int v0), (2, .int v1)] [.long (Int32.toInt64 v1), .long (Int32.toInt64 v0), .long (Int32.toInt64 (G 70 17)), .ref 70] G U := rfl
theorem sg_rn_7 (big : Nat → List Value → qM → qW → qR) (n0 : Nat) (G : qM) (U : qW) (v0 : Int32) (v1 : Int32) (v2 : Int32) : qm_run pm_m big m_161 (n0 + 1) 45 [(0, .ref 70), (1, .int v0), (2, .int v1)] [.int v2, .ref 70] G U = qm_run pm_m big m_161 n0 46 [(0, .ref 70), (1, .int v0), (2, .int v1)] [.int (3 : Int32), .int v2, .ref 70] G U := rfl
theorem sg_rn_8 (big : Nat → List Value → qM → qW → qR) (n0 : Nat) (G : qM) (U : qW) (v0 : Int32) (v1 : Int32) : qm_run pm_m big m_161 (n0 + 2) 20 [(0, .ref 70), (1, .int v0), (2, .int v1)] [.ref 70] G U = qm_run pm_m big m_161 n0 22 [(0, .ref 70), (1, .int v0), (2, .int v1)] [.int (2 : Int32), .int (0 : Int32), .ref 70] G U := rfl
theorem sg_rn_9 (big : Nat → List Value → qM → qW → qR) (n0 : Nat) (G : qM) (U : qW) (v0 : Int32) (v1 : Int32) : qm_run pm_m big m_160 (n0 + 3) 0 [(0, .ref 70), (1, .int v0), (2, .int v1)] [] G U = qm_run pm_m big m_160 n0 3 [(0, .ref 70), (1, .int v0), (2, .int v1)] [.int v1, .int v0, .ref 70] G U := rfl
theorem sg_rn_10 (big : Nat → List Value → qM → qW → qR) (n0 : Nat) (G : qM) (U : qW) (v0 : Int32) (v1 : Int32) (v2 : Int32) : qm_run pm_m big m_160 (n0 + 2) 6 [(0, .ref 70), (1, .int v0), (2, .int v1)] [.int v2] G U = qm_run pm_m big m_160 n0 8 [(0, .ref 70), (1, .int v0), (2, .int v1), (3, .int v2)] [.ref 70] G U := rfl
theorem sg_rn_11 (big : Nat → List Value → qM → qW → qR) (n0 : Nat) (G : qM) (U : qW) (v0 : Int32) (v1 : Int32) : qm_run pm_m big m_160 (n0 + 2) 6 [(0, .ref 70), (1, .int v0), (2, .int v1)] [.int (0 : Int32)] G U = qm_run pm_m big m_160 n0 8 [(0, .ref 70), (1, .int v0), (2, .int v1), (3, .int (0 : Int32))] [.ref 70] G U := rfl
theorem r_lookedf (lo hi : Int32) (g : qM) (u : qW) (hf : ¬ g 70 18 = 0) : q_BS 161 [.ref 70, .int lo, .int hi] g u (some (.int 0), g, u) := by
  refine q_bx (mm := m_161) rfl (Nat.le_of_ble_eq_true rfl) rfl ?_
  refine q_step 2 4 [(0, .ref 70), (1, .int lo), (2, .int hi)] [.int (g 70 18)] g u (fun big n0 => sg_rn_1 big n0 g u lo hi) ?_
  refine q_if_ne rfl (fun hc0 => absurd (show (g 70 18) = 0 from hc0) (hf)) (fun (hc0 : ¬ ((g 70 18) = 0)) => ?_)
  refine q_step 2 29 [(0, .ref 70), (1, .int lo), (2, .int hi)] [.int (g 70 18)] g u (fun big n0 => sg_rn_2 big n0 g u lo hi) ?_
  refine q_if_ne rfl (fun hc1 => absurd (show (g 70 18) = 0 from hc1) (hf)) (fun (hc1 : ¬ ((g 70 18) = 0)) => ?_)
  refine q_step 2 53 [(0, .ref 70), (1, .int lo), (2, .int hi)] [.int (g 70 18)] g u (fun big n0 => sg_rn_3 big n0 g u lo hi) ?_
  refine q_if_ne rfl (fun hc2 => absurd (show (g 70 18) = 0 from hc2) (hf)) (fun (hc2 : ¬ ((g 70 18) = 0)) => ?_)
  refine q_ret 2 (some (.int (0 : Int32)), g, u) (fun _ _ => rfl) ?_
  rfl
theorem r_looked {b : Nat → Int32} {s p : Nat} (g : qM) (u : qW) (hb : k_b b s g) (hp : p ≤ s) (hl : k_la b s p g) (lo hi : Int32) : ∃ R, q_BS 161 [.ref 70, .int lo, .int hi] g u R ∧ ∃ g', R = (some (.int (if (t_er b s p lo hi) = 0 then (t_va b s p) else 0)), g', u) ∧ k_f70 g g' ∧ ((t_er b s p lo hi) = 0 → g' = g) ∧ (¬ (t_er b s p lo hi) = 0 → g' 70 18 = (t_er b s p lo hi) ∧ g' 70 19 = Int32.ofNat (t_fi b s p)) := by
  rcases hl with ⟨k0, h18, h19⟩ | ⟨k0, h18, h14, h15, h16, h17⟩
  · have er : (t_er b s p lo hi) = 1 := by unfold t_er; rw [if_neg (by rw [k0]; decide), if_pos k0]
    refine ⟨_, r_lookedf lo hi g u (by rw [h18]; decide), g, ?_, k_f70_rfl g, fun _ => rfl, fun _ => ⟨h18.trans er.symm, h19⟩⟩
    rw [er, if_neg (by decide)]
  refine q_bs (mm := m_161) rfl (Nat.le_of_ble_eq_true rfl) rfl ?_
  refine q_step 2 4 [(0, .ref 70), (1, .int lo), (2, .int hi)] [.int (g 70 18)] g u (fun big n0 => sg_rn_1 big n0 g u lo hi) ?_
  refine q_if_ne rfl (fun (hc0 : (g 70 18) = 0) => ?_) (fun hc0 => absurd (show (g 70 18) = 0 from h18) hc0)
  refine q_step 4 13 [(0, .ref 70), (1, .int lo), (2, .int hi)] [.int (2 : Int32), .int (g 70 16), .ref 70] g u (fun big n0 => sg_rn_4 big n0 g u lo hi) ?_
  refine q_ic_ne rfl (fun (hc1 : (g 70 16) = (2 : Int32)) => ?_) (fun (hc1 : ¬ ((g 70 16) = (2 : Int32))) => ?_)
  · refine q_step 3 22 [(0, .ref 70), (1, .int lo), (2, .int hi)] [.int (2 : Int32), .int (1 : Int32), .ref 70] g u (fun big n0 => sg_rn_5 big n0 g u lo hi) ?_
    refine q_call (M2 := 154) (rest := []) (b_needs1 _ _ _) (fun _ _ => rfl) ?_
    refine q_step 2 29 [(0, .ref 70), (1, .int lo), (2, .int hi)] [.int (g 70 18)] g u (fun big n0 => sg_rn_2 big n0 g u lo hi) ?_
    refine q_if_ne rfl (fun (hc2 : (g 70 18) = 0) => ?_) (fun hc2 => absurd (show (g 70 18) = 0 from h18) hc2)
    refine q_step 8 42 [(0, .ref 70), (1, .int lo), (2, .int hi)] [.long (Int32.toInt64 hi), .long (Int32.toInt64 lo), .long (Int32.toInt64 (g 70 17)), .ref 70] g u (fun big n0 => sg_rn_6 big n0 g u lo hi) ?_
    refine q_call (M2 := 149) (rest := [.ref 70]) (b_in _ _ _ _ _) (fun _ _ => rfl) ?_
    refine q_step 1 46 [(0, .ref 70), (1, .int lo), (2, .int hi)] [.int (3 : Int32), .int (s_in (Int32.toInt64 (g 70 17)) (Int32.toInt64 lo) (Int32.toInt64 hi)), .ref 70] g u (fun big n0 => sg_rn_7 big n0 g u lo hi (s_in (Int32.toInt64 (g 70 17)) (Int32.toInt64 lo) (Int32.toInt64 hi))) ?_
    by_cases hc3 : (s_in (Int32.toInt64 (g 70 17)) (Int32.toInt64 lo) (Int32.toInt64 hi)) = 0
    · refine q_call (M2 := 154) (rest := []) (by rw [hc3]; exact b_needs0 _ _ _ h18) (fun _ _ => rfl) ?_
      refine q_step 2 53 [(0, .ref 70), (1, .int lo), (2, .int hi)] [.int (3 : Int32)] (q_up (q_up g 70 18 (3 : Int32)) 70 19 (g 70 15)) u (fun big n0 => sg_rn_3 big n0 (q_up (q_up g 70 18 (3 : Int32)) 70 19 (g 70 15)) u lo hi) ?_
      refine q_if_ne rfl (fun hc4 => absurd (show (3 : Int32) = 0 from hc4) (by decide)) (fun (hc4 : ¬ ((3 : Int32) = 0)) => ?_)
      refine q_ret 2 (some (.int (0 : Int32)), (q_up (q_up g 70 18 (3 : Int32)) 70 19 (g 70 15)), u) (fun _ _ => rfl) ?_
      have e2 : (t_ki b s p) = 2 := by
        have z := h16.symm.trans hc1
        by_cases e4 : (t_ki b s p) = 4
        · rw [if_pos e4] at z
          exact absurd z (by decide)
        · rw [if_neg e4] at z
          exact z
      have er : (t_er b s p lo hi) = 3 := by
        unfold t_er
        rw [if_pos e2]
        by_cases x1 : (t_va b s p) < lo
        · rw [if_pos x1]
        · rw [if_neg x1]
          by_cases x2 : hi < (t_va b s p)
          · rw [if_pos x2]
          · exact absurd hc3 (s_in_32.mpr (by rw [h17 e2]; exact ⟨x1, x2⟩))
      rw [er, if_neg (by decide)]
      exact ⟨_, rfl, ((k_f70_rfl g).up (by omega)).up (by omega), fun z => absurd z (by decide), fun _ => ⟨rfl, h15⟩⟩
    · refine q_call (M2 := 154) (rest := []) (by rw [(s_in_01 _ _ _).resolve_left hc3]; exact b_needs1 _ _ _) (fun _ _ => rfl) ?_
      refine q_step 2 53 [(0, .ref 70), (1, .int lo), (2, .int hi)] [.int (g 70 18)] g u (fun big n0 => sg_rn_3 big n0 g u lo hi) ?_
      refine q_if_ne rfl (fun (hc4 : (g 70 18) = 0) => ?_) (fun hc4 => absurd (show (g 70 18) = 0 from h18) hc4)
      refine q_ret 4 (some (.int (g 70 17)), g, u) (fun _ _ => rfl) ?_
      have e2 : (t_ki b s p) = 2 := by
        have z := h16.symm.trans hc1
        by_cases e4 : (t_ki b s p) = 4
        · rw [if_pos e4] at z
          exact absurd z (by decide)
        · rw [if_neg e4] at z
          exact z
      have er : (t_er b s p lo hi) = 0 := by
        have z := s_in_32.mp hc3
        rw [h17 e2] at z
        unfold t_er
        rw [if_pos e2, if_neg z.1, if_neg z.2]
      rw [er, if_pos rfl, h17 e2]
      exact ⟨_, rfl, k_f70_rfl g, fun _ => rfl, fun z => absurd rfl z⟩
  · refine q_step 2 22 [(0, .ref 70), (1, .int lo), (2, .int hi)] [.int (2 : Int32), .int (0 : Int32), .ref 70] g u (fun big n0 => sg_rn_8 big n0 g u lo hi) ?_
    refine q_call (M2 := 154) (rest := []) (b_needs0 _ _ _ h18) (fun _ _ => rfl) ?_
    refine q_step 2 29 [(0, .ref 70), (1, .int lo), (2, .int hi)] [.int (2 : Int32)] (q_up (q_up g 70 18 (2 : Int32)) 70 19 (g 70 15)) u (fun big n0 => sg_rn_2 big n0 (q_up (q_up g 70 18 (2 : Int32)) 70 19 (g 70 15)) u lo hi) ?_
    refine q_if_ne rfl (fun hc2 => absurd (show (2 : Int32) = 0 from hc2) (by decide)) (fun (hc2 : ¬ ((2 : Int32) = 0)) => ?_)
    refine q_step 2 53 [(0, .ref 70), (1, .int lo), (2, .int hi)] [.int (2 : Int32)] (q_up (q_up g 70 18 (2 : Int32)) 70 19 (g 70 15)) u (fun big n0 => sg_rn_3 big n0 (q_up (q_up g 70 18 (2 : Int32)) 70 19 (g 70 15)) u lo hi) ?_
    refine q_if_ne rfl (fun hc3 => absurd (show (2 : Int32) = 0 from hc3) (by decide)) (fun (hc3 : ¬ ((2 : Int32) = 0)) => ?_)
    refine q_ret 2 (some (.int (0 : Int32)), (q_up (q_up g 70 18 (2 : Int32)) 70 19 (g 70 15)), u) (fun _ _ => rfl) ?_
    have e2 : ¬ (t_ki b s p) = 2 := fun z => hc1 (h16.trans (by rw [z]; rfl))
    have er : (t_er b s p lo hi) = 2 := by unfold t_er; rw [if_neg e2, if_neg k0]
    rw [er, if_neg (by decide)]
    exact ⟨_, rfl, ((k_f70_rfl g).up (by omega)).up (by omega), fun z => absurd z (by decide), fun _ => ⟨rfl, h15⟩⟩
theorem r_num {b : Nat → Int32} {s p : Nat} (g : qM) (u : qW) (hb : k_b b s g) (hp : p ≤ s) (hl : k_la b s p g) (lo hi : Int32) : ∃ R, q_BS 160 [.ref 70, .int lo, .int hi] g u R ∧ ∃ g', R = (some (.int (if (t_er b s p lo hi) = 0 then (t_va b s p) else 0)), g', u) ∧ k_f70 g g' ∧ ((t_er b s p lo hi) = 0 → k_la b s (t_pl b s p) g') ∧ (¬ (t_er b s p lo hi) = 0 → g' 70 18 = (t_er b s p lo hi) ∧ g' 70 19 = Int32.ofNat (t_fi b s p)) := by
  refine q_bs (mm := m_160) rfl (Nat.le_of_ble_eq_true rfl) rfl ?_
  refine q_step 3 3 [(0, .ref 70), (1, .int lo), (2, .int hi)] [.int hi, .int lo, .ref 70] g u (fun big n0 => sg_rn_9 big n0 g u lo hi) ?_
  obtain ⟨_, hq, g1, rfl, hf1, h0, h1⟩ := r_looked g u hb hp hl lo hi
  refine q_call (M2 := 161) (rest := []) (hq) (fun _ _ => rfl) ?_
  refine q_step 2 8 [(0, .ref 70), (1, .int lo), (2, .int hi), (3, .int (if (t_er b s p lo hi) = 0 then (t_va b s p) else 0))] [.ref 70] g1 u (fun big n0 => sg_rn_10 big n0 g1 u lo hi (if (t_er b s p lo hi) = 0 then (t_va b s p) else 0)) ?_
  by_cases hc0 : (t_er b s p lo hi) = 0
  · have e1 := h0 hc0
    subst e1
    have hr : ¬ t_ki b s p = 0 ∧ g1 70 18 = 0 ∧ g1 70 14 = Int32.ofNat (t_pl b s p) := by
      rcases hl with z | z
      · exfalso
        unfold t_er at hc0
        rw [if_neg (by rw [z.1]; decide), if_pos z.1] at hc0
        exact absurd hc0 (by decide)
      · exact ⟨z.1, z.2.1, z.2.2.1⟩
    obtain ⟨g2, hq2, hf2, hl2⟩ := r_nextb g1 u hb hr.2.2 (t_pl_b hp).2.1 hr.2.1
    refine q_call (M2 := 152) (rest := []) (hq2) (fun _ _ => rfl) ?_
    refine q_ret 2 (some (.int (if (t_er b s p lo hi) = 0 then (t_va b s p) else 0)), g2, u) (fun _ _ => rfl) ?_
    exact ⟨_, rfl, hf2, fun _ => hl2, fun z => absurd hc0 z⟩
  · refine q_call (M2 := 152) (rest := []) (r_nextf g1 u (by rw [(h1 hc0).1]; exact t_er_pos hc0)) (fun _ _ => rfl) ?_
    refine q_ret 2 (some (.int (if (t_er b s p lo hi) = 0 then (t_va b s p) else 0)), g1, u) (fun _ _ => rfl) ?_
    exact ⟨_, rfl, hf1, fun z => absurd z hc0, h1⟩
theorem r_numf (lo hi : Int32) (g : qM) (u : qW) (hf : 0 < g 70 18) : q_BS 160 [.ref 70, .int lo, .int hi] g u (some (.int 0), g, u) := by
  refine q_bx (mm := m_160) rfl (Nat.le_of_ble_eq_true rfl) rfl ?_
  refine q_step 3 3 [(0, .ref 70), (1, .int lo), (2, .int hi)] [.int hi, .int lo, .ref 70] g u (fun big n0 => sg_rn_9 big n0 g u lo hi) ?_
  refine q_call (M2 := 161) (rest := []) (r_lookedf _ _ _ _ (fun z => absurd (z ▸ hf) (by decide))) (fun _ _ => rfl) ?_
  refine q_step 2 8 [(0, .ref 70), (1, .int lo), (2, .int hi), (3, .int (0 : Int32))] [.ref 70] g u (fun big n0 => sg_rn_11 big n0 g u lo hi) ?_
  refine q_call (M2 := 152) (rest := []) (r_nextf _ _ hf) (fun _ _ => rfl) ?_
  refine q_ret 2 (some (.int (0 : Int32)), g, u) (fun _ _ => rfl) ?_
  rfl
