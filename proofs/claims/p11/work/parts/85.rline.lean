section
/-! LINES of the reference, whole. -/
theorem k_ixa {a n : Nat} (h : a + n < 44) : q_ix (Int32.ofNat a + Int32.ofNat n) (a + n) 44 := by
  rw [← Int32.ofNat_add]
  exact q_ixn h (by omega)
theorem r_freek {b : Nat → Int32} {s p : Nat} {r : qM} (g : qM) (u : qW) (hr : k_rs b s p r g) (hn : k_dn r) (h : t_er b s p 0 24 = 0 ∧ s_bit (r 73 20) (t_va b s p) = 0 ∧ t_hit (r 73) (t_va b s p) (t_n r) = 0) : ∃ g', q_BS 162 [.ref 70] g u (some (.int (t_va b s p)), g', u) ∧ k_fR g g' ∧ k_rs b s (t_pl b s p) (q_up r 70 10 (t_max (r 70 10) (t_va b s p))) g' := by
  obtain ⟨_, hq, c, g', rfl, hf, hh⟩ := r_free g u hr hn
  rcases hh with ⟨_, _, _, e, l⟩ | ⟨e, a, ep, _, _, hk⟩
  · subst e
    exact ⟨g', hq, hf, l⟩
  · exfalso
    have z := hk (fun _ _ _ => o_ok 0 r)
    unfold o_free at z
    rw [o_num, if_pos h.1, if_pos h.2.1, if_pos h.2.2] at z
    have y : (0 : Int32) = e := congrArg (fun o : tO => o.1) z
    rw [← y] at ep
    exact absurd ep (by decide)
theorem r_freee {b : Nat → Int32} {s p : Nat} {r : qM} (g : qM) (u : qW) (hr : k_rs b s p r g) (hn : k_dn r) (h : ¬ (t_er b s p 0 24 = 0 ∧ s_bit (r 73 20) (t_va b s p) = 0 ∧ t_hit (r 73) (t_va b s p) (t_n r) = 0)) : ∃ c g' e a, q_BS 162 [.ref 70] g u (some (.int c), g', u) ∧ k_fR g g' ∧ 0 < e ∧ g' 70 18 = e ∧ g' 70 19 = Int32.ofNat a ∧ ∀ k, o_free b s p r k = o_bad e a r := by
  obtain ⟨_, hq, c, g', rfl, hf, hh⟩ := r_free g u hr hn
  rcases hh with ⟨e1, e2, e3, _, _⟩ | ⟨e, a, ep, x, y, hk⟩
  · exact absurd ⟨e1, e2, e3⟩ h
  · exact ⟨c, g', e, a, hq, hf, ep, x, y, hk⟩
theorem k_pos {x : Int32} (h : 0 < x) : ¬ x = 0 := fun y => by
  rw [y] at h
  exact absurd h (by decide)
theorem t_et3 {b : Nat → Int32} {s p : Nat} (h : t_ki b s p = 3) : t_et b s p 3 = 0 := t_et_0.mpr h
theorem t_et0 {b : Nat → Int32} {s p : Nat} (h : t_ki b s p = 0) : t_et b s p 3 = 1 := by
  unfold t_et
  rw [if_neg (by rw [h]; decide), if_pos h]
theorem t_et2 {b : Nat → Int32} {s p : Nat} (h : ¬ t_ki b s p = 0) (h3 : ¬ t_ki b s p = 3) : t_et b s p 3 = 2 := by
  unfold t_et
  rw [if_neg h3, if_neg h]
theorem o_fin_bad {b : Nat → Int32} {s a : Nat} {e : Int32} {r : qM} (h : ¬ e = 0) : o_fin b s (o_bad e a r) = o_bad e a r := by
  unfold o_fin
  exact if_neg h
theorem t_ln_rng {b : Nat → Int32} {f l : Nat} : t_ln b f l = 0 ∨ t_ln b f l = 1 ∨ t_ln b f l = 2 ∨ t_ln b f l = 3 ∨ t_ln b f l = 4 ∨ t_ln b f l = 5 ∨ t_ln b f l = 6 ∨ t_ln b f l = Int32.ofInt (-4) := by
  unfold t_ln
  repeat' split
  all_goals first
    | exact Or.inl rfl
    | exact Or.inr (Or.inl rfl)
    | exact Or.inr (Or.inr (Or.inl rfl))
    | exact Or.inr (Or.inr (Or.inr (Or.inl rfl)))
    | exact Or.inr (Or.inr (Or.inr (Or.inr (Or.inl rfl))))
    | exact Or.inr (Or.inr (Or.inr (Or.inr (Or.inr (Or.inl rfl)))))
    | exact Or.inr (Or.inr (Or.inr (Or.inr (Or.inr (Or.inr (Or.inl rfl))))))
    | exact Or.inr (Or.inr (Or.inr (Or.inr (Or.inr (Or.inr (Or.inr rfl))))))
theorem sg_rm_1 (big : Nat → List Value → qM → qW → qR) (n0 : Nat) (G : qM) (U : qW) : qm_run pm_m big m_159 (n0 + 3) 0 [(0, .ref 70), (1, .int (3 : Int32))] [] G U = qm_run pm_m big m_159 n0 116 [(0, .ref 70), (1, .int (3 : Int32))] [.ref 70] G U := rfl
theorem sg_rm_2 (big : Nat → List Value → qM → qW → qR) (n0 : Nat) (G : qM) (U : qW) (v0 : Int32) : qm_run pm_m big m_159 (n0 + 8) 119 [(0, .ref 70), (1, .int (3 : Int32))] [.int v0] G U = qm_run pm_m big m_159 n0 132 [(0, .ref 70), (1, .int (3 : Int32)), (2, .int v0)] [.int (G 70 18), .int (G 73 20), .int (20 : Int32), .ref 73] G U := rfl
theorem sg_rm_3 (big : Nat → List Value → qM → qW → qR) (n0 : Nat) (G : qM) (U : qW) (v0 : Int32) : qm_run pm_m big m_165 (n0 + 1) 0 [(0, .ref 70), (1, .int v0)] [] G U = qm_run pm_m big m_165 n0 1 [(0, .ref 70), (1, .int v0)] [.ref 70] G U := rfl
theorem sg_rm_4 (big : Nat → List Value → qM → qW → qR) (n0 : Nat) (G : qM) (U : qW) (v0 : Int32) (v1 : Int32) : qm_run pm_m big m_165 (n0 + 4) 4 [(0, .ref 70), (1, .int v0)] [.int v1] G U = qm_run pm_m big m_165 n0 8 [(0, .ref 70), (1, .int v0), (2, .int v1)] [.int (3 : Int32), .int (0 : Int32), .ref 70] G U := rfl
theorem sg_rm_5 (big : Nat → List Value → qM → qW → qR) (n0 : Nat) (G : qM) (U : qW) (v0 : Int32) (v1 : Int32) (v2 : Int32) : qm_run pm_m big m_165 (n0 + 3) 11 [(0, .ref 70), (1, .int v0), (2, .int v1)] [.int v2] G U = qm_run pm_m big m_165 n0 16 [(0, .ref 70), (1, .int v0), (2, .int v1), (3, .int v2)] [.int (G 70 18)] G U := rfl
theorem sg_rm_6 (big : Nat → List Value → qM → qW → qR) (n0 : Nat) (G : qM) (U : qW) (v0 : Int32) (v1 : Int32) (v2 : Int32) : qm_run pm_m big m_165 (n0 + 7) 19 [(0, .ref 70), (1, .int v0), (2, .int v1), (3, .int v2)] [] G U = qm_run pm_m big m_165 n0 30 [(0, .ref 70), (1, .int v0), (2, .int v1), (3, .int v2)] [.int v1, .int ((0 : Int32) + (G 70 8)), .ref 73] G U := rfl
theorem sg_rm_7 (big : Nat → List Value → qM → qW → qR) (n0 : Nat) (G : qM) (U : qW) (v0 : Int32) (v1 : Int32) (v2 : Int32) : qm_run pm_m big m_165 (n0 + 7) 31 [(0, .ref 70), (1, .int v0), (2, .int v1), (3, .int v2)] [] G U = qm_run pm_m big m_165 n0 42 [(0, .ref 70), (1, .int v0), (2, .int v1), (3, .int v2)] [.int v2, .int ((5 : Int32) + (G 70 8)), .ref 73] G U := rfl
theorem sg_rm_8 (big : Nat → List Value → qM → qW → qR) (n0 : Nat) (G : qM) (U : qW) (v0 : Int32) (v1 : Int32) (v2 : Int32) : qm_run pm_m big m_165 (n0 + 7) 43 [(0, .ref 70), (1, .int v0), (2, .int v1), (3, .int v2)] [] G U = qm_run pm_m big m_165 n0 55 [(0, .ref 70), (1, .int v0), (2, .int v1), (3, .int v2)] [.int v0, .int ((10 : Int32) + (G 70 8)), .ref 73] G U := rfl
theorem sg_rm_9 (big : Nat → List Value → qM → qW → qR) (n0 : Nat) (G : qM) (U : qW) (v0 : Int32) (v1 : Int32) : qm_run pm_m big m_165 (n0 + 3) 11 [(0, .ref 70), (1, .int v0), (2, .int v1)] [.int (0 : Int32)] G U = qm_run pm_m big m_165 n0 16 [(0, .ref 70), (1, .int v0), (2, .int v1), (3, .int (0 : Int32))] [.int (G 70 18)] G U := rfl
theorem sg_rm_10 (big : Nat → List Value → qM → qW → qR) (n0 : Nat) (G : qM) (U : qW) : qm_run pm_m big m_163 (n0 + 3) 0 [(0, .ref 70)] [] G U = qm_run pm_m big m_163 n0 3 [(0, .ref 70)] [.int (4 : Int32), .int (0 : Int32), .ref 70] G U := rfl
theorem sg_rm_11 (big : Nat → List Value → qM → qW → qR) (n0 : Nat) (G : qM) (U : qW) (v0 : Int32) : qm_run pm_m big m_163 (n0 + 3) 6 [(0, .ref 70)] [.int v0] G U = qm_run pm_m big m_163 n0 11 [(0, .ref 70), (1, .int v0)] [.int (G 70 18)] G U := rfl
theorem sg_rm_12 (big : Nat → List Value → qM → qW → qR) (n0 : Nat) (G : qM) (U : qW) (v0 : Int32) : qm_run pm_m big m_163 (n0 + 6) 14 [(0, .ref 70), (1, .int v0)] [] G U = qm_run pm_m big m_163 n0 23 [(0, .ref 70), (1, .int v0)] [.int ((15 : Int32) + v0), .ref 73, .ref 70] G U := rfl
theorem sg_rm_13 (big : Nat → List Value → qM → qW → qR) (n0 : Nat) (G : qM) (U : qW) (v0 : Int32) (v1 : Int32) : qm_run pm_m big m_163 (n0 + 1) 24 [(0, .ref 70), (1, .int v0)] [.int v1, .ref 70] G U = qm_run pm_m big m_163 n0 26 [(0, .ref 70), (1, .int v0)] [.int (Int8.toInt32 (Int8.ofInt (-4))), .int v1, .ref 70] G U := rfl
theorem sg_rm_14 (big : Nat → List Value → qM → qW → qR) (n0 : Nat) (G : qM) (U : qW) (v0 : Int32) : qm_run pm_m big m_163 (n0 + 3) 29 [(0, .ref 70), (1, .int v0)] [.ref 70] G U = qm_run pm_m big m_163 n0 35 [(0, .ref 70), (1, .int v0)] [.int (4 : Int32), .int (1 : Int32), .ref 70] G U := rfl
theorem sg_rm_15 (big : Nat → List Value → qM → qW → qR) (n0 : Nat) (G : qM) (U : qW) (v0 : Int32) : qm_run pm_m big m_163 (n0 + 1) 38 [(0, .ref 70), (1, .int v0)] [] G U = qm_run pm_m big m_163 n0 39 [(0, .ref 70), (1, .int v0)] [.ref 70] G U := rfl
theorem sg_rm_16 (big : Nat → List Value → qM → qW → qR) (n0 : Nat) (G : qM) (U : qW) (v0 : Int32) : qm_run pm_m big m_163 (n0 + 3) 42 [(0, .ref 70), (1, .int v0)] [] G U = qm_run pm_m big m_163 n0 46 [(0, .ref 70), (1, .int v0)] [.int (24 : Int32), .int (0 : Int32), .ref 70] G U := rfl
theorem sg_rm_17 (big : Nat → List Value → qM → qW → qR) (n0 : Nat) (G : qM) (U : qW) (v0 : Int32) (v1 : Int32) : qm_run pm_m big m_163 (n0 + 3) 49 [(0, .ref 70), (1, .int v0)] [.int v1] G U = qm_run pm_m big m_163 n0 54 [(0, .ref 70), (1, .int v0), (2, .int v1)] [.int (G 70 18)] G U := rfl
theorem sg_rm_18 (big : Nat → List Value → qM → qW → qR) (n0 : Nat) (G : qM) (U : qW) (v0 : Int32) (v1 : Int32) : qm_run pm_m big m_163 (n0 + 4) 57 [(0, .ref 70), (1, .int v0), (2, .int v1)] [] G U = qm_run pm_m big m_163 n0 63 [(0, .ref 70), (1, .int v0), (2, .int v1)] [.int (G 70 11), .int v0, .ref 70] G U := rfl
theorem sg_rm_19 (big : Nat → List Value → qM → qW → qR) (n0 : Nat) (G : qM) (U : qW) (v0 : Int32) (v1 : Int32) : qm_run pm_m big m_163 (n0 + 7) 70 [(0, .ref 70), (1, .int v0), (2, .int v1)] [.ref 70] G U = qm_run pm_m big m_163 n0 83 [(0, .ref 70), (1, .int v0), (2, .int v1)] [.int (G 70 10), .int v1, .ref 70] (q_up G 70 11 (G 70 11)) U := rfl
theorem sg_rm_20 (big : Nat → List Value → qM → qW → qR) (n0 : Nat) (G : qM) (U : qW) (v0 : Int32) (v1 : Int32) : qm_run pm_m big m_163 (n0 + 9) 90 [(0, .ref 70), (1, .int v0), (2, .int v1)] [.ref 70] G U = qm_run pm_m big m_163 n0 106 [(0, .ref 70), (1, .int v0), (2, .int v1)] [.int v1, .int ((15 : Int32) + v0), .ref 73] (q_up G 70 10 (G 70 10)) U := rfl
theorem sg_rm_21 (big : Nat → List Value → qM → qW → qR) (n0 : Nat) (G : qM) (U : qW) (v0 : Int32) (v1 : Int32) : qm_run pm_m big m_163 (n0 + 9) 86 [(0, .ref 70), (1, .int v0), (2, .int v1)] [.ref 70] G U = qm_run pm_m big m_163 n0 106 [(0, .ref 70), (1, .int v0), (2, .int v1)] [.int v1, .int ((15 : Int32) + v0), .ref 73] (q_up G 70 10 v1) U := rfl
theorem sg_rm_22 (big : Nat → List Value → qM → qW → qR) (n0 : Nat) (G : qM) (U : qW) (v0 : Int32) (v1 : Int32) : qm_run pm_m big m_163 (n0 + 7) 66 [(0, .ref 70), (1, .int v0), (2, .int v1)] [.ref 70] G U = qm_run pm_m big m_163 n0 83 [(0, .ref 70), (1, .int v0), (2, .int v1)] [.int (G 70 10), .int v1, .ref 70] (q_up G 70 11 v0) U := rfl
theorem sg_rm_23 (big : Nat → List Value → qM → qW → qR) (n0 : Nat) (G : qM) (U : qW) (v0 : Int32) : qm_run pm_m big m_163 (n0 + 3) 49 [(0, .ref 70), (1, .int v0)] [.int (0 : Int32)] G U = qm_run pm_m big m_163 n0 54 [(0, .ref 70), (1, .int v0), (2, .int (0 : Int32))] [.int (G 70 18)] G U := rfl
theorem sg_rm_24 (big : Nat → List Value → qM → qW → qR) (n0 : Nat) (G : qM) (U : qW) (v0 : Int32) : qm_run pm_m big m_163 (n0 + 2) 33 [(0, .ref 70), (1, .int v0)] [.ref 70] G U = qm_run pm_m big m_163 n0 35 [(0, .ref 70), (1, .int v0)] [.int (4 : Int32), .int (0 : Int32), .ref 70] G U := rfl
theorem sg_rm_25 (big : Nat → List Value → qM → qW → qR) (n0 : Nat) (G : qM) (U : qW) : qm_run pm_m big m_163 (n0 + 3) 6 [(0, .ref 70)] [.int (0 : Int32)] G U = qm_run pm_m big m_163 n0 11 [(0, .ref 70), (1, .int (0 : Int32))] [.int (G 70 18)] G U := rfl
theorem sg_rm_26 (big : Nat → List Value → qM → qW → qR) (n0 : Nat) (G : qM) (U : qW) : qm_run pm_m big m_163 (n0 + 1) 38 [(0, .ref 70), (1, .int (0 : Int32))] [] G U = qm_run pm_m big m_163 n0 39 [(0, .ref 70), (1, .int (0 : Int32))] [.ref 70] G U := rfl
theorem sg_rm_27 (big : Nat → List Value → qM → qW → qR) (n0 : Nat) (G : qM) (U : qW) : qm_run pm_m big m_163 (n0 + 3) 42 [(0, .ref 70), (1, .int (0 : Int32))] [] G U = qm_run pm_m big m_163 n0 46 [(0, .ref 70), (1, .int (0 : Int32))] [.int (24 : Int32), .int (0 : Int32), .ref 70] G U := rfl
theorem sg_rm_28 (big : Nat → List Value → qM → qW → qR) (n0 : Nat) (G : qM) (U : qW) : qm_run pm_m big m_163 (n0 + 3) 49 [(0, .ref 70), (1, .int (0 : Int32))] [.int (0 : Int32)] G U = qm_run pm_m big m_163 n0 54 [(0, .ref 70), (1, .int (0 : Int32)), (2, .int (0 : Int32))] [.int (G 70 18)] G U := rfl
theorem sg_rm_29 (big : Nat → List Value → qM → qW → qR) (n0 : Nat) (G : qM) (U : qW) : qm_run pm_m big m_159 (n0 + 7) 0 [(0, .ref 70), (1, .int (4 : Int32))] [] G U = qm_run pm_m big m_159 n0 165 [(0, .ref 70), (1, .int (4 : Int32))] [.int (0 : Int32), .ref 70] G U := rfl
theorem sg_rm_30 (big : Nat → List Value → qM → qW → qR) (n0 : Nat) (G : qM) (U : qW) : qm_run pm_m big m_159 (n0 + 8) 0 [(0, .ref 70), (1, .int (5 : Int32))] [] G U = qm_run pm_m big m_159 n0 165 [(0, .ref 70), (1, .int (5 : Int32))] [.int (1 : Int32), .ref 70] G U := rfl
theorem sg_rm_31 (big : Nat → List Value → qM → qW → qR) (n0 : Nat) (G : qM) (U : qW) : qm_run pm_m big m_159 (n0 + 3) 0 [(0, .ref 70), (1, .int (6 : Int32))] [] G U = qm_run pm_m big m_159 n0 148 [(0, .ref 70), (1, .int (6 : Int32))] [.ref 70] G U := rfl
theorem sg_rm_32 (big : Nat → List Value → qM → qW → qR) (n0 : Nat) (G : qM) (U : qW) (v0 : Int32) : qm_run pm_m big m_155 (n0 + 2) 124 [(0, .ref 70), (1, .int v0)] [] G U = qm_run pm_m big m_155 n0 128 [(0, .ref 70), (1, .int v0)] [.int (G 70 18)] G U := rfl
theorem sg_rm_33 (big : Nat → List Value → qM → qW → qR) (n0 : Nat) (G : qM) (U : qW) (v0 : Int32) : qm_run pm_m big m_155 (n0 + 4) 131 [(0, .ref 70), (1, .int v0)] [] G U = qm_run pm_m big m_155 n0 137 [(0, .ref 70), (1, .int v0)] [.int (3 : Int32), .int (G 70 16), .ref 70] G U := rfl
theorem sg_rm_34 (big : Nat → List Value → qM → qW → qR) (n0 : Nat) (G : qM) (U : qW) (v0 : Int32) : qm_run pm_m big m_155 (n0 + 3) 140 [(0, .ref 70), (1, .int v0)] [.ref 70] G U = qm_run pm_m big m_155 n0 146 [(0, .ref 70), (1, .int v0)] [.int (2 : Int32), .int (1 : Int32), .ref 70] G U := rfl
theorem sg_rm_35 (big : Nat → List Value → qM → qW → qR) (n0 : Nat) (G : qM) (U : qW) (v0 : Int32) : qm_run pm_m big m_155 (n0 + 1) 149 [(0, .ref 70), (1, .int v0)] [] G U = qm_run pm_m big m_155 n0 150 [(0, .ref 70), (1, .int v0)] [.ref 70] G U := rfl
theorem sg_rm_36 (big : Nat → List Value → qM → qW → qR) (n0 : Nat) (G : qM) (U : qW) (v0 : Int32) : qm_run pm_m big m_155 (n0 + 2) 144 [(0, .ref 70), (1, .int v0)] [.ref 70] G U = qm_run pm_m big m_155 n0 146 [(0, .ref 70), (1, .int v0)] [.int (2 : Int32), .int (0 : Int32), .ref 70] G U := rfl
theorem sg_rm_37 (big : Nat → List Value → qM → qW → qR) (n0 : Nat) (G : qM) (U : qW) : qm_run pm_m big m_155 (n0 + 3) 0 [(0, .ref 70)] [] G U = qm_run pm_m big m_155 n0 5 [(0, .ref 70)] [.int (1 : Int32), .int (G 70 16)] G U := rfl
theorem sg_rm_38 (big : Nat → List Value → qM → qW → qR) (n0 : Nat) (G : qM) (U : qW) : qm_run pm_m big m_155 (n0 + 1) 8 [(0, .ref 70)] [] G U = qm_run pm_m big m_155 n0 9 [(0, .ref 70)] [.ref 70] G U := rfl
theorem sg_rm_39 (big : Nat → List Value → qM → qW → qR) (n0 : Nat) (G : qM) (U : qW) : qm_run pm_m big m_155 (n0 + 9) 12 [(0, .ref 70)] [.int (0 : Int32)] G U = qm_run pm_m big m_155 n0 31 [(0, .ref 70), (1, .int (0 : Int32))] [.int (2 : Int32), .int (1 : Int32), .ref 70] G U := rfl
theorem sg_rm_40 (big : Nat → List Value → qM → qW → qR) (n0 : Nat) (G : qM) (U : qW) : qm_run pm_m big m_155 (n0 + 10) 34 [(0, .ref 70), (1, .int (0 : Int32))] [] G U = qm_run pm_m big m_155 n0 59 [(0, .ref 70), (1, .int (0 : Int32))] [.int (5 : Int32), .int (1 : Int32), .ref 70] G U := rfl
theorem sg_rm_41 (big : Nat → List Value → qM → qW → qR) (n0 : Nat) (G : qM) (U : qW) : qm_run pm_m big m_155 (n0 + 2) 62 [(0, .ref 70), (1, .int (0 : Int32))] [] G U = qm_run pm_m big m_155 n0 66 [(0, .ref 70), (1, .int (0 : Int32))] [.int (G 70 18)] G U := rfl
theorem sg_rm_42 (big : Nat → List Value → qM → qW → qR) (n0 : Nat) (G : qM) (U : qW) : qm_run pm_m big m_155 (n0 + 10) 69 [(0, .ref 70), (1, .int (0 : Int32))] [] G U = qm_run pm_m big m_155 n0 83 [(0, .ref 70), (1, .int (0 : Int32))] [.int (((G 70 9) >>> ((0 : Int32) &&& 31)) &&& (1 : Int32)), .ref 70] G U := rfl
theorem sg_rm_43 (big : Nat → List Value → qM → qW → qR) (n0 : Nat) (G : qM) (U : qW) : qm_run pm_m big m_155 (n0 + 3) 86 [(0, .ref 70), (1, .int (0 : Int32))] [.ref 70] G U = qm_run pm_m big m_155 n0 92 [(0, .ref 70), (1, .int (0 : Int32))] [.int (4 : Int32), .int (1 : Int32), .ref 70] G U := rfl
theorem sg_rm_44 (big : Nat → List Value → qM → qW → qR) (n0 : Nat) (G : qM) (U : qW) : qm_run pm_m big m_155 (n0 + 9) 95 [(0, .ref 70), (1, .int (0 : Int32))] [] G U = qm_run pm_m big m_155 n0 108 [(0, .ref 70), (1, .int (0 : Int32))] [.ref 70] (q_up G 70 9 ((G 70 9) ||| ((1 : Int32) <<< ((0 : Int32) &&& 31)))) U := rfl
theorem sg_rm_45 (big : Nat → List Value → qM → qW → qR) (n0 : Nat) (G : qM) (U : qW) : qm_run pm_m big m_155 (n0 + 2) 111 [(0, .ref 70), (1, .int (0 : Int32))] [] G U = qm_run pm_m big m_155 n0 115 [(0, .ref 70), (1, .int (0 : Int32))] [.int (G 70 18)] G U := rfl
theorem sg_rm_46 (big : Nat → List Value → qM → qW → qR) (n0 : Nat) (G : qM) (U : qW) : qm_run pm_m big m_155 (n0 + 2) 119 [(0, .ref 70), (1, .int (0 : Int32))] [] G U = qm_run pm_m big m_155 n0 121 [(0, .ref 70), (1, .int (0 : Int32))] [.int (0 : Int32), .ref 70] G U := rfl
theorem sg_rm_47 (big : Nat → List Value → qM → qW → qR) (n0 : Nat) (G : qM) (U : qW) : qm_run pm_m big m_155 (n0 + 2) 90 [(0, .ref 70), (1, .int (0 : Int32))] [.ref 70] G U = qm_run pm_m big m_155 n0 92 [(0, .ref 70), (1, .int (0 : Int32))] [.int (4 : Int32), .int (0 : Int32), .ref 70] G U := rfl
theorem sg_rm_48 (big : Nat → List Value → qM → qW → qR) (n0 : Nat) (G : qM) (U : qW) : qm_run pm_m big m_155 (n0 + 9) 12 [(0, .ref 70)] [.int (1 : Int32)] G U = qm_run pm_m big m_155 n0 31 [(0, .ref 70), (1, .int (1 : Int32))] [.int (2 : Int32), .int (1 : Int32), .ref 70] G U := rfl
theorem sg_rm_49 (big : Nat → List Value → qM → qW → qR) (n0 : Nat) (G : qM) (U : qW) : qm_run pm_m big m_155 (n0 + 10) 34 [(0, .ref 70), (1, .int (1 : Int32))] [] G U = qm_run pm_m big m_155 n0 59 [(0, .ref 70), (1, .int (1 : Int32))] [.int (5 : Int32), .int (1 : Int32), .ref 70] G U := rfl
theorem sg_rm_50 (big : Nat → List Value → qM → qW → qR) (n0 : Nat) (G : qM) (U : qW) : qm_run pm_m big m_155 (n0 + 2) 62 [(0, .ref 70), (1, .int (1 : Int32))] [] G U = qm_run pm_m big m_155 n0 66 [(0, .ref 70), (1, .int (1 : Int32))] [.int (G 70 18)] G U := rfl
theorem sg_rm_51 (big : Nat → List Value → qM → qW → qR) (n0 : Nat) (G : qM) (U : qW) : qm_run pm_m big m_155 (n0 + 10) 69 [(0, .ref 70), (1, .int (1 : Int32))] [] G U = qm_run pm_m big m_155 n0 83 [(0, .ref 70), (1, .int (1 : Int32))] [.int (((G 70 9) >>> ((1 : Int32) &&& 31)) &&& (1 : Int32)), .ref 70] G U := rfl
theorem sg_rm_52 (big : Nat → List Value → qM → qW → qR) (n0 : Nat) (G : qM) (U : qW) : qm_run pm_m big m_155 (n0 + 3) 86 [(0, .ref 70), (1, .int (1 : Int32))] [.ref 70] G U = qm_run pm_m big m_155 n0 92 [(0, .ref 70), (1, .int (1 : Int32))] [.int (4 : Int32), .int (1 : Int32), .ref 70] G U := rfl
theorem sg_rm_53 (big : Nat → List Value → qM → qW → qR) (n0 : Nat) (G : qM) (U : qW) : qm_run pm_m big m_155 (n0 + 9) 95 [(0, .ref 70), (1, .int (1 : Int32))] [] G U = qm_run pm_m big m_155 n0 108 [(0, .ref 70), (1, .int (1 : Int32))] [.ref 70] (q_up G 70 9 ((G 70 9) ||| ((1 : Int32) <<< ((1 : Int32) &&& 31)))) U := rfl
theorem sg_rm_54 (big : Nat → List Value → qM → qW → qR) (n0 : Nat) (G : qM) (U : qW) : qm_run pm_m big m_155 (n0 + 2) 111 [(0, .ref 70), (1, .int (1 : Int32))] [] G U = qm_run pm_m big m_155 n0 115 [(0, .ref 70), (1, .int (1 : Int32))] [.int (G 70 18)] G U := rfl
theorem sg_rm_55 (big : Nat → List Value → qM → qW → qR) (n0 : Nat) (G : qM) (U : qW) : qm_run pm_m big m_155 (n0 + 2) 119 [(0, .ref 70), (1, .int (1 : Int32))] [] G U = qm_run pm_m big m_155 n0 121 [(0, .ref 70), (1, .int (1 : Int32))] [.int (1 : Int32), .ref 70] G U := rfl
theorem sg_rm_56 (big : Nat → List Value → qM → qW → qR) (n0 : Nat) (G : qM) (U : qW) : qm_run pm_m big m_155 (n0 + 2) 90 [(0, .ref 70), (1, .int (1 : Int32))] [.ref 70] G U = qm_run pm_m big m_155 n0 92 [(0, .ref 70), (1, .int (1 : Int32))] [.int (4 : Int32), .int (0 : Int32), .ref 70] G U := rfl
theorem sg_rm_57 (big : Nat → List Value → qM → qW → qR) (n0 : Nat) (G : qM) (U : qW) : qm_run pm_m big m_155 (n0 + 9) 12 [(0, .ref 70)] [.int (2 : Int32)] G U = qm_run pm_m big m_155 n0 31 [(0, .ref 70), (1, .int (2 : Int32))] [.int (2 : Int32), .int (1 : Int32), .ref 70] G U := rfl
theorem sg_rm_58 (big : Nat → List Value → qM → qW → qR) (n0 : Nat) (G : qM) (U : qW) : qm_run pm_m big m_155 (n0 + 10) 34 [(0, .ref 70), (1, .int (2 : Int32))] [] G U = qm_run pm_m big m_155 n0 59 [(0, .ref 70), (1, .int (2 : Int32))] [.int (5 : Int32), .int (1 : Int32), .ref 70] G U := rfl
theorem sg_rm_59 (big : Nat → List Value → qM → qW → qR) (n0 : Nat) (G : qM) (U : qW) : qm_run pm_m big m_155 (n0 + 2) 62 [(0, .ref 70), (1, .int (2 : Int32))] [] G U = qm_run pm_m big m_155 n0 66 [(0, .ref 70), (1, .int (2 : Int32))] [.int (G 70 18)] G U := rfl
theorem sg_rm_60 (big : Nat → List Value → qM → qW → qR) (n0 : Nat) (G : qM) (U : qW) : qm_run pm_m big m_155 (n0 + 10) 69 [(0, .ref 70), (1, .int (2 : Int32))] [] G U = qm_run pm_m big m_155 n0 83 [(0, .ref 70), (1, .int (2 : Int32))] [.int (((G 70 9) >>> ((2 : Int32) &&& 31)) &&& (1 : Int32)), .ref 70] G U := rfl
theorem sg_rm_61 (big : Nat → List Value → qM → qW → qR) (n0 : Nat) (G : qM) (U : qW) : qm_run pm_m big m_155 (n0 + 3) 86 [(0, .ref 70), (1, .int (2 : Int32))] [.ref 70] G U = qm_run pm_m big m_155 n0 92 [(0, .ref 70), (1, .int (2 : Int32))] [.int (4 : Int32), .int (1 : Int32), .ref 70] G U := rfl
theorem sg_rm_62 (big : Nat → List Value → qM → qW → qR) (n0 : Nat) (G : qM) (U : qW) : qm_run pm_m big m_155 (n0 + 9) 95 [(0, .ref 70), (1, .int (2 : Int32))] [] G U = qm_run pm_m big m_155 n0 108 [(0, .ref 70), (1, .int (2 : Int32))] [.ref 70] (q_up G 70 9 ((G 70 9) ||| ((1 : Int32) <<< ((2 : Int32) &&& 31)))) U := rfl
theorem sg_rm_63 (big : Nat → List Value → qM → qW → qR) (n0 : Nat) (G : qM) (U : qW) : qm_run pm_m big m_155 (n0 + 2) 111 [(0, .ref 70), (1, .int (2 : Int32))] [] G U = qm_run pm_m big m_155 n0 115 [(0, .ref 70), (1, .int (2 : Int32))] [.int (G 70 18)] G U := rfl
theorem sg_rm_64 (big : Nat → List Value → qM → qW → qR) (n0 : Nat) (G : qM) (U : qW) : qm_run pm_m big m_155 (n0 + 2) 119 [(0, .ref 70), (1, .int (2 : Int32))] [] G U = qm_run pm_m big m_155 n0 121 [(0, .ref 70), (1, .int (2 : Int32))] [.int (2 : Int32), .ref 70] G U := rfl
theorem sg_rm_65 (big : Nat → List Value → qM → qW → qR) (n0 : Nat) (G : qM) (U : qW) : qm_run pm_m big m_155 (n0 + 2) 90 [(0, .ref 70), (1, .int (2 : Int32))] [.ref 70] G U = qm_run pm_m big m_155 n0 92 [(0, .ref 70), (1, .int (2 : Int32))] [.int (4 : Int32), .int (0 : Int32), .ref 70] G U := rfl
theorem sg_rm_66 (big : Nat → List Value → qM → qW → qR) (n0 : Nat) (G : qM) (U : qW) : qm_run pm_m big m_155 (n0 + 9) 12 [(0, .ref 70)] [.int (3 : Int32)] G U = qm_run pm_m big m_155 n0 31 [(0, .ref 70), (1, .int (3 : Int32))] [.int (2 : Int32), .int (1 : Int32), .ref 70] G U := rfl
theorem sg_rm_67 (big : Nat → List Value → qM → qW → qR) (n0 : Nat) (G : qM) (U : qW) : qm_run pm_m big m_155 (n0 + 10) 34 [(0, .ref 70), (1, .int (3 : Int32))] [] G U = qm_run pm_m big m_155 n0 59 [(0, .ref 70), (1, .int (3 : Int32))] [.int (5 : Int32), .int (1 : Int32), .ref 70] G U := rfl
theorem sg_rm_68 (big : Nat → List Value → qM → qW → qR) (n0 : Nat) (G : qM) (U : qW) : qm_run pm_m big m_155 (n0 + 2) 62 [(0, .ref 70), (1, .int (3 : Int32))] [] G U = qm_run pm_m big m_155 n0 66 [(0, .ref 70), (1, .int (3 : Int32))] [.int (G 70 18)] G U := rfl
theorem sg_rm_69 (big : Nat → List Value → qM → qW → qR) (n0 : Nat) (G : qM) (U : qW) : qm_run pm_m big m_155 (n0 + 4) 69 [(0, .ref 70), (1, .int (3 : Int32))] [] G U = qm_run pm_m big m_155 n0 108 [(0, .ref 70), (1, .int (3 : Int32))] [.ref 70] G U := rfl
theorem sg_rm_70 (big : Nat → List Value → qM → qW → qR) (n0 : Nat) (G : qM) (U : qW) : qm_run pm_m big m_155 (n0 + 2) 111 [(0, .ref 70), (1, .int (3 : Int32))] [] G U = qm_run pm_m big m_155 n0 115 [(0, .ref 70), (1, .int (3 : Int32))] [.int (G 70 18)] G U := rfl
theorem sg_rm_71 (big : Nat → List Value → qM → qW → qR) (n0 : Nat) (G : qM) (U : qW) : qm_run pm_m big m_155 (n0 + 2) 119 [(0, .ref 70), (1, .int (3 : Int32))] [] G U = qm_run pm_m big m_155 n0 121 [(0, .ref 70), (1, .int (3 : Int32))] [.int (3 : Int32), .ref 70] G U := rfl
theorem sg_rm_72 (big : Nat → List Value → qM → qW → qR) (n0 : Nat) (G : qM) (U : qW) : qm_run pm_m big m_155 (n0 + 9) 12 [(0, .ref 70)] [.int (4 : Int32)] G U = qm_run pm_m big m_155 n0 31 [(0, .ref 70), (1, .int (4 : Int32))] [.int (2 : Int32), .int (1 : Int32), .ref 70] G U := rfl
theorem sg_rm_73 (big : Nat → List Value → qM → qW → qR) (n0 : Nat) (G : qM) (U : qW) : qm_run pm_m big m_155 (n0 + 7) 34 [(0, .ref 70), (1, .int (4 : Int32))] [] G U = qm_run pm_m big m_155 n0 50 [(0, .ref 70), (1, .int (4 : Int32))] [.int (5 : Int32), .int (G 70 8), .ref 70] G U := rfl
theorem sg_rm_74 (big : Nat → List Value → qM → qW → qR) (n0 : Nat) (G : qM) (U : qW) : qm_run pm_m big m_155 (n0 + 2) 57 [(0, .ref 70), (1, .int (4 : Int32))] [.ref 70] G U = qm_run pm_m big m_155 n0 59 [(0, .ref 70), (1, .int (4 : Int32))] [.int (5 : Int32), .int (0 : Int32), .ref 70] G U := rfl
theorem sg_rm_75 (big : Nat → List Value → qM → qW → qR) (n0 : Nat) (G : qM) (U : qW) : qm_run pm_m big m_155 (n0 + 2) 62 [(0, .ref 70), (1, .int (4 : Int32))] [] G U = qm_run pm_m big m_155 n0 66 [(0, .ref 70), (1, .int (4 : Int32))] [.int (G 70 18)] G U := rfl
theorem sg_rm_76 (big : Nat → List Value → qM → qW → qR) (n0 : Nat) (G : qM) (U : qW) : qm_run pm_m big m_155 (n0 + 1) 107 [(0, .ref 70), (1, .int (4 : Int32))] [] G U = qm_run pm_m big m_155 n0 108 [(0, .ref 70), (1, .int (4 : Int32))] [.ref 70] G U := rfl
theorem sg_rm_77 (big : Nat → List Value → qM → qW → qR) (n0 : Nat) (G : qM) (U : qW) : qm_run pm_m big m_155 (n0 + 2) 111 [(0, .ref 70), (1, .int (4 : Int32))] [] G U = qm_run pm_m big m_155 n0 115 [(0, .ref 70), (1, .int (4 : Int32))] [.int (G 70 18)] G U := rfl
theorem sg_rm_78 (big : Nat → List Value → qM → qW → qR) (n0 : Nat) (G : qM) (U : qW) : qm_run pm_m big m_155 (n0 + 3) 53 [(0, .ref 70), (1, .int (4 : Int32))] [.ref 70] G U = qm_run pm_m big m_155 n0 59 [(0, .ref 70), (1, .int (4 : Int32))] [.int (5 : Int32), .int (1 : Int32), .ref 70] G U := rfl
theorem sg_rm_79 (big : Nat → List Value → qM → qW → qR) (n0 : Nat) (G : qM) (U : qW) : qm_run pm_m big m_155 (n0 + 4) 69 [(0, .ref 70), (1, .int (4 : Int32))] [] G U = qm_run pm_m big m_155 n0 108 [(0, .ref 70), (1, .int (4 : Int32))] [.ref 70] G U := rfl
theorem sg_rm_80 (big : Nat → List Value → qM → qW → qR) (n0 : Nat) (G : qM) (U : qW) : qm_run pm_m big m_155 (n0 + 2) 119 [(0, .ref 70), (1, .int (4 : Int32))] [] G U = qm_run pm_m big m_155 n0 121 [(0, .ref 70), (1, .int (4 : Int32))] [.int (4 : Int32), .ref 70] G U := rfl
theorem sg_rm_81 (big : Nat → List Value → qM → qW → qR) (n0 : Nat) (G : qM) (U : qW) : qm_run pm_m big m_155 (n0 + 9) 12 [(0, .ref 70)] [.int (5 : Int32)] G U = qm_run pm_m big m_155 n0 31 [(0, .ref 70), (1, .int (5 : Int32))] [.int (2 : Int32), .int (1 : Int32), .ref 70] G U := rfl
theorem sg_rm_82 (big : Nat → List Value → qM → qW → qR) (n0 : Nat) (G : qM) (U : qW) : qm_run pm_m big m_155 (n0 + 10) 34 [(0, .ref 70), (1, .int (5 : Int32))] [] G U = qm_run pm_m big m_155 n0 50 [(0, .ref 70), (1, .int (5 : Int32))] [.int (5 : Int32), .int (G 70 8), .ref 70] G U := rfl
theorem sg_rm_83 (big : Nat → List Value → qM → qW → qR) (n0 : Nat) (G : qM) (U : qW) : qm_run pm_m big m_155 (n0 + 2) 57 [(0, .ref 70), (1, .int (5 : Int32))] [.ref 70] G U = qm_run pm_m big m_155 n0 59 [(0, .ref 70), (1, .int (5 : Int32))] [.int (5 : Int32), .int (0 : Int32), .ref 70] G U := rfl
theorem sg_rm_84 (big : Nat → List Value → qM → qW → qR) (n0 : Nat) (G : qM) (U : qW) : qm_run pm_m big m_155 (n0 + 2) 62 [(0, .ref 70), (1, .int (5 : Int32))] [] G U = qm_run pm_m big m_155 n0 66 [(0, .ref 70), (1, .int (5 : Int32))] [.int (G 70 18)] G U := rfl
theorem sg_rm_85 (big : Nat → List Value → qM → qW → qR) (n0 : Nat) (G : qM) (U : qW) : qm_run pm_m big m_155 (n0 + 1) 107 [(0, .ref 70), (1, .int (5 : Int32))] [] G U = qm_run pm_m big m_155 n0 108 [(0, .ref 70), (1, .int (5 : Int32))] [.ref 70] G U := rfl
theorem sg_rm_86 (big : Nat → List Value → qM → qW → qR) (n0 : Nat) (G : qM) (U : qW) : qm_run pm_m big m_155 (n0 + 2) 111 [(0, .ref 70), (1, .int (5 : Int32))] [] G U = qm_run pm_m big m_155 n0 115 [(0, .ref 70), (1, .int (5 : Int32))] [.int (G 70 18)] G U := rfl
theorem sg_rm_87 (big : Nat → List Value → qM → qW → qR) (n0 : Nat) (G : qM) (U : qW) : qm_run pm_m big m_155 (n0 + 3) 53 [(0, .ref 70), (1, .int (5 : Int32))] [.ref 70] G U = qm_run pm_m big m_155 n0 59 [(0, .ref 70), (1, .int (5 : Int32))] [.int (5 : Int32), .int (1 : Int32), .ref 70] G U := rfl
theorem sg_rm_88 (big : Nat → List Value → qM → qW → qR) (n0 : Nat) (G : qM) (U : qW) : qm_run pm_m big m_155 (n0 + 4) 69 [(0, .ref 70), (1, .int (5 : Int32))] [] G U = qm_run pm_m big m_155 n0 108 [(0, .ref 70), (1, .int (5 : Int32))] [.ref 70] G U := rfl
theorem sg_rm_89 (big : Nat → List Value → qM → qW → qR) (n0 : Nat) (G : qM) (U : qW) : qm_run pm_m big m_155 (n0 + 2) 119 [(0, .ref 70), (1, .int (5 : Int32))] [] G U = qm_run pm_m big m_155 n0 121 [(0, .ref 70), (1, .int (5 : Int32))] [.int (5 : Int32), .ref 70] G U := rfl
theorem sg_rm_90 (big : Nat → List Value → qM → qW → qR) (n0 : Nat) (G : qM) (U : qW) : qm_run pm_m big m_155 (n0 + 9) 12 [(0, .ref 70)] [.int (6 : Int32)] G U = qm_run pm_m big m_155 n0 31 [(0, .ref 70), (1, .int (6 : Int32))] [.int (2 : Int32), .int (1 : Int32), .ref 70] G U := rfl
theorem sg_rm_91 (big : Nat → List Value → qM → qW → qR) (n0 : Nat) (G : qM) (U : qW) : qm_run pm_m big m_155 (n0 + 10) 34 [(0, .ref 70), (1, .int (6 : Int32))] [] G U = qm_run pm_m big m_155 n0 59 [(0, .ref 70), (1, .int (6 : Int32))] [.int (5 : Int32), .int (1 : Int32), .ref 70] G U := rfl
theorem sg_rm_92 (big : Nat → List Value → qM → qW → qR) (n0 : Nat) (G : qM) (U : qW) : qm_run pm_m big m_155 (n0 + 2) 62 [(0, .ref 70), (1, .int (6 : Int32))] [] G U = qm_run pm_m big m_155 n0 66 [(0, .ref 70), (1, .int (6 : Int32))] [.int (G 70 18)] G U := rfl
theorem sg_rm_93 (big : Nat → List Value → qM → qW → qR) (n0 : Nat) (G : qM) (U : qW) : qm_run pm_m big m_155 (n0 + 4) 69 [(0, .ref 70), (1, .int (6 : Int32))] [] G U = qm_run pm_m big m_155 n0 108 [(0, .ref 70), (1, .int (6 : Int32))] [.ref 70] G U := rfl
theorem sg_rm_94 (big : Nat → List Value → qM → qW → qR) (n0 : Nat) (G : qM) (U : qW) : qm_run pm_m big m_155 (n0 + 2) 111 [(0, .ref 70), (1, .int (6 : Int32))] [] G U = qm_run pm_m big m_155 n0 115 [(0, .ref 70), (1, .int (6 : Int32))] [.int (G 70 18)] G U := rfl
theorem sg_rm_95 (big : Nat → List Value → qM → qW → qR) (n0 : Nat) (G : qM) (U : qW) : qm_run pm_m big m_155 (n0 + 2) 119 [(0, .ref 70), (1, .int (6 : Int32))] [] G U = qm_run pm_m big m_155 n0 121 [(0, .ref 70), (1, .int (6 : Int32))] [.int (6 : Int32), .ref 70] G U := rfl
theorem sg_rm_96 (big : Nat → List Value → qM → qW → qR) (n0 : Nat) (G : qM) (U : qW) : qm_run pm_m big m_155 (n0 + 8) 12 [(0, .ref 70)] [.int (Int32.ofInt (-4))] G U = qm_run pm_m big m_155 n0 31 [(0, .ref 70), (1, .int (Int32.ofInt (-4)))] [.int (2 : Int32), .int (0 : Int32), .ref 70] G U := rfl
theorem sg_rm_97 (big : Nat → List Value → qM → qW → qR) (n0 : Nat) (G : qM) (U : qW) : qm_run pm_m big m_155 (n0 + 10) 34 [(0, .ref 70), (1, .int (Int32.ofInt (-4)))] [] G U = qm_run pm_m big m_155 n0 59 [(0, .ref 70), (1, .int (Int32.ofInt (-4)))] [.int (5 : Int32), .int (1 : Int32), .ref 70] G U := rfl
theorem sg_rm_98 (big : Nat → List Value → qM → qW → qR) (n0 : Nat) (G : qM) (U : qW) : qm_run pm_m big m_155 (n0 + 2) 62 [(0, .ref 70), (1, .int (Int32.ofInt (-4)))] [] G U = qm_run pm_m big m_155 n0 66 [(0, .ref 70), (1, .int (Int32.ofInt (-4)))] [.int (G 70 18)] G U := rfl
theorem sg_rm_99 (big : Nat → List Value → qM → qW → qR) (n0 : Nat) (G : qM) (U : qW) : qm_run pm_m big m_155 (n0 + 1) 107 [(0, .ref 70), (1, .int (Int32.ofInt (-4)))] [] G U = qm_run pm_m big m_155 n0 108 [(0, .ref 70), (1, .int (Int32.ofInt (-4)))] [.ref 70] G U := rfl
theorem sg_rm_100 (big : Nat → List Value → qM → qW → qR) (n0 : Nat) (G : qM) (U : qW) : qm_run pm_m big m_155 (n0 + 2) 111 [(0, .ref 70), (1, .int (Int32.ofInt (-4)))] [] G U = qm_run pm_m big m_155 n0 115 [(0, .ref 70), (1, .int (Int32.ofInt (-4)))] [.int (G 70 18)] G U := rfl
theorem sg_rm_101 (big : Nat → List Value → qM → qW → qR) (n0 : Nat) (G : qM) (U : qW) : qm_run pm_m big m_155 (n0 + 8) 15 [(0, .ref 70)] [] G U = qm_run pm_m big m_155 n0 31 [(0, .ref 70), (1, .int (Int8.toInt32 (Int8.ofInt (-4))))] [.int (2 : Int32), .int (0 : Int32), .ref 70] G U := rfl
theorem sg_rm_102 (big : Nat → List Value → qM → qW → qR) (n0 : Nat) (G : qM) (U : qW) : qm_run pm_m big m_155 (n0 + 10) 34 [(0, .ref 70), (1, .int (Int8.toInt32 (Int8.ofInt (-4))))] [] G U = qm_run pm_m big m_155 n0 59 [(0, .ref 70), (1, .int (Int8.toInt32 (Int8.ofInt (-4))))] [.int (5 : Int32), .int (1 : Int32), .ref 70] G U := rfl
theorem sg_rm_103 (big : Nat → List Value → qM → qW → qR) (n0 : Nat) (G : qM) (U : qW) : qm_run pm_m big m_155 (n0 + 2) 62 [(0, .ref 70), (1, .int (Int8.toInt32 (Int8.ofInt (-4))))] [] G U = qm_run pm_m big m_155 n0 66 [(0, .ref 70), (1, .int (Int8.toInt32 (Int8.ofInt (-4))))] [.int (G 70 18)] G U := rfl
theorem sg_rm_104 (big : Nat → List Value → qM → qW → qR) (n0 : Nat) (G : qM) (U : qW) : qm_run pm_m big m_155 (n0 + 1) 107 [(0, .ref 70), (1, .int (Int8.toInt32 (Int8.ofInt (-4))))] [] G U = qm_run pm_m big m_155 n0 108 [(0, .ref 70), (1, .int (Int8.toInt32 (Int8.ofInt (-4))))] [.ref 70] G U := rfl
theorem sg_rm_105 (big : Nat → List Value → qM → qW → qR) (n0 : Nat) (G : qM) (U : qW) : qm_run pm_m big m_155 (n0 + 2) 111 [(0, .ref 70), (1, .int (Int8.toInt32 (Int8.ofInt (-4))))] [] G U = qm_run pm_m big m_155 n0 115 [(0, .ref 70), (1, .int (Int8.toInt32 (Int8.ofInt (-4))))] [.int (G 70 18)] G U := rfl
theorem r_lwall {b : Nat → Int32} {s p : Nat} {r : qM} (g : qM) (u : qW) (hr : k_rs b s p r g) (hn : k_dn r) : ∃ R, q_BS 159 [.ref 70, .int (3 : Int32)] g u R ∧ ∃ g', R = (none, g', u) ∧ k_rc b s (o_wall b s p r) g g' := by
  refine q_bs (mm := m_159) rfl (Nat.le_of_ble_eq_true rfl) rfl ?_
  refine q_step 3 116 [(0, .ref 70), (1, .int (3 : Int32))] [.ref 70] g u (fun big n0 => sg_rm_1 big n0 g u) ?_
  by_cases hc0 : t_er b s p 0 24 = 0 ∧ s_bit (r 73 20) (t_va b s p) = 0 ∧ t_hit (r 73) (t_va b s p) (t_n r) = 0
  · obtain ⟨g1, q1, f1, l1⟩ := r_freek g u hr hn hc0
    refine q_call (M2 := 162) (rest := []) (q1) (fun _ _ => rfl) ?_
    refine q_step 8 132 [(0, .ref 70), (1, .int (3 : Int32)), (2, .int (t_va b s p))] [.int (g1 70 18), .int (g1 73 20), .int (20 : Int32), .ref 73] g1 u (fun big n0 => sg_rm_2 big n0 g1 u (t_va b s p)) ?_
    refine q_if_ne rfl (fun (hc1 : (g1 70 18) = 0) => ?_) (fun (hc1 : ¬ ((g1 70 18) = 0)) => ?_)
    · refine q_ret 8 (none, (q_up g1 73 20 ((g1 73 20) ||| ((1 : Int32) <<< ((t_va b s p) &&& 31)))), u) (fun _ _ => rfl) ?_
      have e20 : g1 73 20 = (q_up r 70 10 (t_max (r 70 10) (t_va b s p))) 73 20 := l1.2.2.2.1 20 (by omega)
      unfold o_wall o_free
      rw [o_num, if_pos hc0.1, if_pos hc0.2.1, if_pos hc0.2.2]
      rw [e20]
      exact ⟨_, rfl, k_rc_ok (((k_fR_rfl g).trans f1).up (by omega)) (l1.up (by omega))⟩
    · refine q_ret 5 (none, (q_up g1 73 20 ((g1 73 20) ||| (0 : Int32))), u) (fun _ _ => rfl) ?_
      have e20 : g1 73 20 = (q_up r 70 10 (t_max (r 70 10) (t_va b s p))) 73 20 := l1.2.2.2.1 20 (by omega)
      unfold o_wall o_free
      rw [o_num, if_pos hc0.1, if_pos hc0.2.1, if_pos hc0.2.2]
      exact ⟨_, rfl, k_rc_okx (((k_fR_rfl g).trans f1).up (by omega)) l1.2.1 (l1.2.2.1.up (by omega)) hc1⟩
  · obtain ⟨c, g1, e, a, q1, f1, ep, x1, y1, hk⟩ := r_freee g u hr hn hc0
    refine q_call (M2 := 162) (rest := []) (q1) (fun _ _ => rfl) ?_
    refine q_step 8 132 [(0, .ref 70), (1, .int (3 : Int32)), (2, .int c)] [.int (g1 70 18), .int (g1 73 20), .int (20 : Int32), .ref 73] g1 u (fun big n0 => sg_rm_2 big n0 g1 u c) ?_
    refine q_if_ne rfl (fun hc1 => absurd (show (g1 70 18) = 0 from hc1) (k_pos (by rw [x1]; exact ep))) (fun (hc1 : ¬ ((g1 70 18) = 0)) => ?_)
    refine q_ret 5 (none, (q_up g1 73 20 ((g1 73 20) ||| (0 : Int32))), u) (fun _ _ => rfl) ?_
    unfold o_wall
    rw [hk]
    exact ⟨_, rfl, k_rc_bad (((k_fR_rfl g).trans f1).up (by omega)) ep x1 y1⟩
theorem r_one {b : Nat → Int32} {s p : Nat} {r : qM} (g : qM) (u : qW) (hr : k_rs b s p r g) (hn : k_dn r) (hlt : t_n r < 5) (st : Int32) : ∃ R, q_BS 165 [.ref 70, .int st] g u R ∧ ∃ g', R = (none, g', u) ∧ k_rc b s (i_one b s p r st) g g' := by
  refine q_bs (mm := m_165) rfl (Nat.le_of_ble_eq_true rfl) rfl ?_
  refine q_step 1 1 [(0, .ref 70), (1, .int st)] [.ref 70] g u (fun big n0 => sg_rm_3 big n0 g u st) ?_
  by_cases hc0 : t_er b s p 0 24 = 0 ∧ s_bit (r 73 20) (t_va b s p) = 0 ∧ t_hit (r 73) (t_va b s p) (t_n r) = 0
  · obtain ⟨g1, q1, f1, l1⟩ := r_freek g u hr hn hc0
    refine q_call (M2 := 162) (rest := []) (q1) (fun _ _ => rfl) ?_
    refine q_step 4 8 [(0, .ref 70), (1, .int st), (2, .int (t_va b s p))] [.int (3 : Int32), .int (0 : Int32), .ref 70] g1 u (fun big n0 => sg_rm_4 big n0 g1 u st (t_va b s p)) ?_
    by_cases hc1 : t_er b s (t_pl b s p) (0 : Int32) (3 : Int32) = 0
    · obtain ⟨g2, q2, f2, l2⟩ := r_numk (g := g1) u l1 hc1
      have h8n : g2 70 8 = Int32.ofNat (t_n r) := (l2.2.2.2.2 8 (by omega) (by omega)).trans hn.1
      have e8 : g2 70 8 = (q_up r 70 10 (t_max (r 70 10) (t_va b s p))) 70 8 := l2.2.2.2.2 8 (by omega) (by omega)
      refine q_call (M2 := 160) (rest := []) (q2) (fun _ _ => rfl) ?_
      refine q_step 3 16 [(0, .ref 70), (1, .int st), (2, .int (t_va b s p)), (3, .int (t_va b s (t_pl b s p)))] [.int (g2 70 18)] g2 u (fun big n0 => sg_rm_5 big n0 g2 u st (t_va b s p) (t_va b s (t_pl b s p))) ?_
      refine q_if_ne rfl (fun (hc2 : (g2 70 18) = 0) => ?_) (fun (hc2 : ¬ ((g2 70 18) = 0)) => ?_)
      · refine q_step 7 30 [(0, .ref 70), (1, .int st), (2, .int (t_va b s p)), (3, .int (t_va b s (t_pl b s p)))] [.int (t_va b s p), .int ((0 : Int32) + (g2 70 8)), .ref 73] g2 u (fun big n0 => sg_rm_6 big n0 g2 u st (t_va b s p) (t_va b s (t_pl b s p))) ?_
        refine q_iast (j := (t_n r)) (by rw [h8n, Int32.zero_add]; exact q_ixn (by omega) (by omega)) rfl rfl ?_
        refine q_step 7 42 [(0, .ref 70), (1, .int st), (2, .int (t_va b s p)), (3, .int (t_va b s (t_pl b s p)))] [.int (t_va b s (t_pl b s p)), .int ((5 : Int32) + (g2 70 8)), .ref 73] (q_up g2 73 (t_n r) (t_va b s p)) u (fun big n0 => sg_rm_7 big n0 (q_up g2 73 (t_n r) (t_va b s p)) u st (t_va b s p) (t_va b s (t_pl b s p))) ?_
        refine q_iast (j := (5 + t_n r)) (by rw [h8n]; exact k_ixa (a := 5) (by omega)) rfl rfl ?_
        refine q_step 7 55 [(0, .ref 70), (1, .int st), (2, .int (t_va b s p)), (3, .int (t_va b s (t_pl b s p)))] [.int st, .int ((10 : Int32) + (g2 70 8)), .ref 73] (q_up (q_up g2 73 (t_n r) (t_va b s p)) 73 (5 + t_n r) (t_va b s (t_pl b s p))) u (fun big n0 => sg_rm_8 big n0 (q_up (q_up g2 73 (t_n r) (t_va b s p)) 73 (5 + t_n r) (t_va b s (t_pl b s p))) u st (t_va b s p) (t_va b s (t_pl b s p))) ?_
        refine q_iast (j := (10 + t_n r)) (by rw [h8n]; exact k_ixa (a := 10) (by omega)) rfl rfl ?_
        refine q_ret 7 (none, (q_up (q_up (q_up (q_up g2 73 (t_n r) (t_va b s p)) 73 (5 + t_n r) (t_va b s (t_pl b s p))) 73 (10 + t_n r) st) 70 8 ((g2 70 8) + (1 : Int32))), u) (fun _ _ => rfl) ?_
        unfold i_one o_free
        rw [o_num, if_pos hc0.1, if_pos hc0.2.1, if_pos hc0.2.2]
        try dsimp only
        rw [o_num, if_pos hc1]
        rw [e8]
        exact ⟨_, rfl, k_rc_ok (((((((k_fR_rfl g).trans f1).trans f2.R).up (by omega)).up (by omega)).up (by omega)).up (by omega)) ((((l2.up (by omega)).up (by omega)).up (by omega)).up (by omega))⟩
      · refine q_ret 1 (none, g2, u) (fun _ _ => rfl) ?_
        unfold i_one o_free
        rw [o_num, if_pos hc0.1, if_pos hc0.2.1, if_pos hc0.2.2]
        try dsimp only
        rw [o_num, if_pos hc1]
        exact ⟨_, rfl, k_rc_okx (((k_fR_rfl g).trans f1).trans f2.R) l2.2.1 l2.2.2.1 hc2⟩
    · obtain ⟨g2, q2, f2, x2, y2⟩ := r_nume (g := g1) u l1 hc1
      refine q_call (M2 := 160) (rest := []) (q2) (fun _ _ => rfl) ?_
      refine q_step 3 16 [(0, .ref 70), (1, .int st), (2, .int (t_va b s p)), (3, .int (0 : Int32))] [.int (g2 70 18)] g2 u (fun big n0 => sg_rm_9 big n0 g2 u st (t_va b s p)) ?_
      refine q_if_ne rfl (fun hc2 => absurd (show (g2 70 18) = 0 from hc2) (k_pos (by rw [x2]; exact t_er_pos hc1))) (fun (hc2 : ¬ ((g2 70 18) = 0)) => ?_)
      refine q_ret 1 (none, g2, u) (fun _ _ => rfl) ?_
      unfold i_one o_free
      rw [o_num, if_pos hc0.1, if_pos hc0.2.1, if_pos hc0.2.2]
      try dsimp only
      rw [o_num, if_neg hc1]
      exact ⟨_, rfl, k_rc_bad (((k_fR_rfl g).trans f1).trans f2.R) (t_er_pos hc1) x2 y2⟩
  · obtain ⟨c, g1, e, a, q1, f1, ep, x1, y1, hk⟩ := r_freee g u hr hn hc0
    refine q_call (M2 := 162) (rest := []) (q1) (fun _ _ => rfl) ?_
    refine q_step 4 8 [(0, .ref 70), (1, .int st), (2, .int c)] [.int (3 : Int32), .int (0 : Int32), .ref 70] g1 u (fun big n0 => sg_rm_4 big n0 g1 u st c) ?_
    refine q_call (M2 := 160) (rest := []) (r_numf (0 : Int32) (3 : Int32) _ _ (show 0 < (g1 70 18) from (by rw [x1]; exact ep))) (fun _ _ => rfl) ?_
    refine q_step 3 16 [(0, .ref 70), (1, .int st), (2, .int c), (3, .int (0 : Int32))] [.int (g1 70 18)] g1 u (fun big n0 => sg_rm_9 big n0 g1 u st c) ?_
    refine q_if_ne rfl (fun hc1 => absurd (show (g1 70 18) = 0 from hc1) (k_pos (by rw [x1]; exact ep))) (fun (hc1 : ¬ ((g1 70 18) = 0)) => ?_)
    refine q_ret 1 (none, g1, u) (fun _ _ => rfl) ?_
    unfold i_one
    rw [hk]
    exact ⟨_, rfl, k_rc_bad ((k_fR_rfl g).trans f1) ep x1 y1⟩
theorem r_goal {b : Nat → Int32} {s p : Nat} {r : qM} (g : qM) (u : qW) (hr : k_rs b s p r g) (hn : k_dn r) : ∃ R, q_BS 163 [.ref 70] g u R ∧ ∃ g', R = (none, g', u) ∧ k_rc b s (o_goal b s p r) g g' := by
  refine q_bs (mm := m_163) rfl (Nat.le_of_ble_eq_true rfl) rfl ?_
  refine q_step 3 3 [(0, .ref 70)] [.int (4 : Int32), .int (0 : Int32), .ref 70] g u (fun big n0 => sg_rm_10 big n0 g u) ?_
  by_cases hc0 : t_er b s p (0 : Int32) (4 : Int32) = 0
  · obtain ⟨q1, z18, z14, z15⟩ := r_lookk u hr hc0
    obtain ⟨v, w1, w2, w3⟩ := k_nat (a := 0) (b := 4) (by omega) (by omega) (t_er_rng hc0)
    have ev : ((t_va b s p)).toInt.toNat = v := by rw [w3, q_nat (by omega)]; rfl
    have hix : q_ix ((15 : Int32) + (t_va b s p)) (15 + (Int32.toInt (t_va b s p)).toNat) 44 := by rw [ev, w3]; exact k_ixa (a := 15) (by omega)
    have e15 : g 73 (15 + (Int32.toInt (t_va b s p)).toNat) = r 73 (15 + (Int32.toInt (t_va b s p)).toNat) := hr.2.2.2.1 _ (by omega)
    refine q_call (M2 := 161) (rest := []) (q1) (fun _ _ => rfl) ?_
    refine q_step 3 11 [(0, .ref 70), (1, .int (t_va b s p))] [.int (g 70 18)] g u (fun big n0 => sg_rm_11 big n0 g u (t_va b s p)) ?_
    refine q_if_ne rfl (fun (hc1 : (g 70 18) = 0) => ?_) (fun hc1 => absurd (show (g 70 18) = 0 from z18) hc1)
    refine q_step 6 23 [(0, .ref 70), (1, .int (t_va b s p))] [.int ((15 : Int32) + (t_va b s p)), .ref 73, .ref 70] g u (fun big n0 => sg_rm_12 big n0 g u (t_va b s p)) ?_
    refine q_iald (j := (15 + (Int32.toInt (t_va b s p)).toNat)) (hix) rfl rfl ?_
    refine q_step 1 26 [(0, .ref 70), (1, .int (t_va b s p))] [.int (Int8.toInt32 (Int8.ofInt (-4))), .int (g 73 (15 + (Int32.toInt (t_va b s p)).toNat)), .ref 70] g u (fun big n0 => sg_rm_13 big n0 g u (t_va b s p) (g 73 (15 + (Int32.toInt (t_va b s p)).toNat))) ?_
    refine q_ic_ne rfl (fun (hc2 : (g 73 (15 + (Int32.toInt (t_va b s p)).toNat)) = (Int8.toInt32 (Int8.ofInt (-4)))) => ?_) (fun (hc2 : ¬ ((g 73 (15 + (Int32.toInt (t_va b s p)).toNat)) = (Int8.toInt32 (Int8.ofInt (-4))))) => ?_)
    · refine q_step 3 35 [(0, .ref 70), (1, .int (t_va b s p))] [.int (4 : Int32), .int (1 : Int32), .ref 70] g u (fun big n0 => sg_rm_14 big n0 g u (t_va b s p)) ?_
      refine q_call (M2 := 154) (rest := []) (b_needs1 _ _ _) (fun _ _ => rfl) ?_
      refine q_step 1 39 [(0, .ref 70), (1, .int (t_va b s p))] [.ref 70] g u (fun big n0 => sg_rm_15 big n0 g u (t_va b s p)) ?_
      obtain ⟨g1, q2, f1, l1x⟩ := r_nextb (b := b) (p := t_pl b s p) g u hr.1 z14 (t_pl_b hr.2.1).2.1 z18
      have l1 : k_rs b s (t_pl b s p) r g1 := ⟨hr.1.fr f1, (t_pl_b hr.2.1).2.1, l1x, hr.2.2.2.f70 f1⟩
      refine q_call (M2 := 152) (rest := []) (q2) (fun _ _ => rfl) ?_
      refine q_step 3 46 [(0, .ref 70), (1, .int (t_va b s p))] [.int (24 : Int32), .int (0 : Int32), .ref 70] g1 u (fun big n0 => sg_rm_16 big n0 g1 u (t_va b s p)) ?_
      by_cases hc3 : t_er b s (t_pl b s p) (0 : Int32) (24 : Int32) = 0
      · obtain ⟨g2, q2, f2, l2⟩ := r_numk (g := g1) u l1 hc3
        refine q_call (M2 := 160) (rest := []) (q2) (fun _ _ => rfl) ?_
        refine q_step 3 54 [(0, .ref 70), (1, .int (t_va b s p)), (2, .int (t_va b s (t_pl b s p)))] [.int (g2 70 18)] g2 u (fun big n0 => sg_rm_17 big n0 g2 u (t_va b s p) (t_va b s (t_pl b s p))) ?_
        refine q_if_ne rfl (fun (hc4 : (g2 70 18) = 0) => ?_) (fun (hc4 : ¬ ((g2 70 18) = 0)) => ?_)
        · refine q_step 4 63 [(0, .ref 70), (1, .int (t_va b s p)), (2, .int (t_va b s (t_pl b s p)))] [.int (g2 70 11), .int (t_va b s p), .ref 70] g2 u (fun big n0 => sg_rm_18 big n0 g2 u (t_va b s p) (t_va b s (t_pl b s p))) ?_
          refine q_ic_le rfl (fun (hc5 : (t_va b s p) ≤ (g2 70 11)) => ?_) (fun (hc5 : ¬ ((t_va b s p) ≤ (g2 70 11))) => ?_)
          · refine q_step 7 83 [(0, .ref 70), (1, .int (t_va b s p)), (2, .int (t_va b s (t_pl b s p)))] [.int (g2 70 10), .int (t_va b s (t_pl b s p)), .ref 70] (q_up g2 70 11 (g2 70 11)) u (fun big n0 => sg_rm_19 big n0 g2 u (t_va b s p) (t_va b s (t_pl b s p))) ?_
            refine q_ic_le rfl (fun (hc6 : (t_va b s (t_pl b s p)) ≤ (g2 70 10)) => ?_) (fun (hc6 : ¬ ((t_va b s (t_pl b s p)) ≤ (g2 70 10))) => ?_)
            · refine q_step 9 106 [(0, .ref 70), (1, .int (t_va b s p)), (2, .int (t_va b s (t_pl b s p)))] [.int (t_va b s (t_pl b s p)), .int ((15 : Int32) + (t_va b s p)), .ref 73] (q_up (q_up g2 70 11 (g2 70 11)) 70 10 (g2 70 10)) u (fun big n0 => sg_rm_20 big n0 (q_up g2 70 11 (g2 70 11)) u (t_va b s p) (t_va b s (t_pl b s p))) ?_
              refine q_iast (j := (15 + (Int32.toInt (t_va b s p)).toNat)) (hix) rfl rfl ?_
              refine q_ret 1 (none, (q_up (q_up (q_up g2 70 11 (g2 70 11)) 70 10 (g2 70 10)) 73 (15 + (Int32.toInt (t_va b s p)).toNat) (t_va b s (t_pl b s p))), u) (fun _ _ => rfl) ?_
              unfold o_goal
              rw [o_num, if_pos hc0]
              rw [if_pos (show r 73 (15 + (Int32.toInt (t_va b s p)).toNat) = Int32.ofInt (-4) from e15.symm.trans hc2)]
              rw [o_num, if_pos hc3]
              have e11 : g2 70 11 = r 70 11 := l2.2.2.2.2 11 (by omega) (by omega)
              have e10 : g2 70 10 = r 70 10 := l2.2.2.2.2 10 (by omega) (by omega)
              have m1 : (g2 70 11) = t_max (r 70 11) (t_va b s p) := by
                unfold t_max
                rw [← e11, if_pos hc5]
              have m2 : (g2 70 10) = t_max (r 70 10) (t_va b s (t_pl b s p)) := by
                unfold t_max
                rw [← e10, if_pos hc6]
              rw [← m1, ← m2]
              exact ⟨_, rfl, k_rc_ok ((((((k_fR_rfl g).trans f1.R).trans f2.R).up (by omega)).up (by omega)).up (by omega)) (((l2.up (by omega)).up (by omega)).up (by omega))⟩
            · refine q_step 9 106 [(0, .ref 70), (1, .int (t_va b s p)), (2, .int (t_va b s (t_pl b s p)))] [.int (t_va b s (t_pl b s p)), .int ((15 : Int32) + (t_va b s p)), .ref 73] (q_up (q_up g2 70 11 (g2 70 11)) 70 10 (t_va b s (t_pl b s p))) u (fun big n0 => sg_rm_21 big n0 (q_up g2 70 11 (g2 70 11)) u (t_va b s p) (t_va b s (t_pl b s p))) ?_
              refine q_iast (j := (15 + (Int32.toInt (t_va b s p)).toNat)) (hix) rfl rfl ?_
              refine q_ret 1 (none, (q_up (q_up (q_up g2 70 11 (g2 70 11)) 70 10 (t_va b s (t_pl b s p))) 73 (15 + (Int32.toInt (t_va b s p)).toNat) (t_va b s (t_pl b s p))), u) (fun _ _ => rfl) ?_
              unfold o_goal
              rw [o_num, if_pos hc0]
              rw [if_pos (show r 73 (15 + (Int32.toInt (t_va b s p)).toNat) = Int32.ofInt (-4) from e15.symm.trans hc2)]
              rw [o_num, if_pos hc3]
              have e11 : g2 70 11 = r 70 11 := l2.2.2.2.2 11 (by omega) (by omega)
              have e10 : g2 70 10 = r 70 10 := l2.2.2.2.2 10 (by omega) (by omega)
              have m1 : (g2 70 11) = t_max (r 70 11) (t_va b s p) := by
                unfold t_max
                rw [← e11, if_pos hc5]
              have m2 : (t_va b s (t_pl b s p)) = t_max (r 70 10) (t_va b s (t_pl b s p)) := by
                unfold t_max
                rw [← e10, if_neg hc6]
              rw [← m1, ← m2]
              exact ⟨_, rfl, k_rc_ok ((((((k_fR_rfl g).trans f1.R).trans f2.R).up (by omega)).up (by omega)).up (by omega)) (((l2.up (by omega)).up (by omega)).up (by omega))⟩
          · refine q_step 7 83 [(0, .ref 70), (1, .int (t_va b s p)), (2, .int (t_va b s (t_pl b s p)))] [.int (g2 70 10), .int (t_va b s (t_pl b s p)), .ref 70] (q_up g2 70 11 (t_va b s p)) u (fun big n0 => sg_rm_22 big n0 g2 u (t_va b s p) (t_va b s (t_pl b s p))) ?_
            refine q_ic_le rfl (fun (hc6 : (t_va b s (t_pl b s p)) ≤ (g2 70 10)) => ?_) (fun (hc6 : ¬ ((t_va b s (t_pl b s p)) ≤ (g2 70 10))) => ?_)
            · refine q_step 9 106 [(0, .ref 70), (1, .int (t_va b s p)), (2, .int (t_va b s (t_pl b s p)))] [.int (t_va b s (t_pl b s p)), .int ((15 : Int32) + (t_va b s p)), .ref 73] (q_up (q_up g2 70 11 (t_va b s p)) 70 10 (g2 70 10)) u (fun big n0 => sg_rm_20 big n0 (q_up g2 70 11 (t_va b s p)) u (t_va b s p) (t_va b s (t_pl b s p))) ?_
              refine q_iast (j := (15 + (Int32.toInt (t_va b s p)).toNat)) (hix) rfl rfl ?_
              refine q_ret 1 (none, (q_up (q_up (q_up g2 70 11 (t_va b s p)) 70 10 (g2 70 10)) 73 (15 + (Int32.toInt (t_va b s p)).toNat) (t_va b s (t_pl b s p))), u) (fun _ _ => rfl) ?_
              unfold o_goal
              rw [o_num, if_pos hc0]
              rw [if_pos (show r 73 (15 + (Int32.toInt (t_va b s p)).toNat) = Int32.ofInt (-4) from e15.symm.trans hc2)]
              rw [o_num, if_pos hc3]
              have e11 : g2 70 11 = r 70 11 := l2.2.2.2.2 11 (by omega) (by omega)
              have e10 : g2 70 10 = r 70 10 := l2.2.2.2.2 10 (by omega) (by omega)
              have m1 : (t_va b s p) = t_max (r 70 11) (t_va b s p) := by
                unfold t_max
                rw [← e11, if_neg hc5]
              have m2 : (g2 70 10) = t_max (r 70 10) (t_va b s (t_pl b s p)) := by
                unfold t_max
                rw [← e10, if_pos hc6]
              rw [← m1, ← m2]
              exact ⟨_, rfl, k_rc_ok ((((((k_fR_rfl g).trans f1.R).trans f2.R).up (by omega)).up (by omega)).up (by omega)) (((l2.up (by omega)).up (by omega)).up (by omega))⟩
            · refine q_step 9 106 [(0, .ref 70), (1, .int (t_va b s p)), (2, .int (t_va b s (t_pl b s p)))] [.int (t_va b s (t_pl b s p)), .int ((15 : Int32) + (t_va b s p)), .ref 73] (q_up (q_up g2 70 11 (t_va b s p)) 70 10 (t_va b s (t_pl b s p))) u (fun big n0 => sg_rm_21 big n0 (q_up g2 70 11 (t_va b s p)) u (t_va b s p) (t_va b s (t_pl b s p))) ?_
              refine q_iast (j := (15 + (Int32.toInt (t_va b s p)).toNat)) (hix) rfl rfl ?_
              refine q_ret 1 (none, (q_up (q_up (q_up g2 70 11 (t_va b s p)) 70 10 (t_va b s (t_pl b s p))) 73 (15 + (Int32.toInt (t_va b s p)).toNat) (t_va b s (t_pl b s p))), u) (fun _ _ => rfl) ?_
              unfold o_goal
              rw [o_num, if_pos hc0]
              rw [if_pos (show r 73 (15 + (Int32.toInt (t_va b s p)).toNat) = Int32.ofInt (-4) from e15.symm.trans hc2)]
              rw [o_num, if_pos hc3]
              have e11 : g2 70 11 = r 70 11 := l2.2.2.2.2 11 (by omega) (by omega)
              have e10 : g2 70 10 = r 70 10 := l2.2.2.2.2 10 (by omega) (by omega)
              have m1 : (t_va b s p) = t_max (r 70 11) (t_va b s p) := by
                unfold t_max
                rw [← e11, if_neg hc5]
              have m2 : (t_va b s (t_pl b s p)) = t_max (r 70 10) (t_va b s (t_pl b s p)) := by
                unfold t_max
                rw [← e10, if_neg hc6]
              rw [← m1, ← m2]
              exact ⟨_, rfl, k_rc_ok ((((((k_fR_rfl g).trans f1.R).trans f2.R).up (by omega)).up (by omega)).up (by omega)) (((l2.up (by omega)).up (by omega)).up (by omega))⟩
        · refine q_ret 1 (none, g2, u) (fun _ _ => rfl) ?_
          unfold o_goal
          rw [o_num, if_pos hc0]
          rw [if_pos (show r 73 (15 + (Int32.toInt (t_va b s p)).toNat) = Int32.ofInt (-4) from e15.symm.trans hc2)]
          rw [o_num, if_pos hc3]
          exact ⟨_, rfl, k_rc_okx (((k_fR_rfl g).trans f1.R).trans f2.R) l2.2.1 l2.2.2.1 hc4⟩
      · obtain ⟨g2, q2, f2, x2, y2⟩ := r_nume (g := g1) u l1 hc3
        refine q_call (M2 := 160) (rest := []) (q2) (fun _ _ => rfl) ?_
        refine q_step 3 54 [(0, .ref 70), (1, .int (t_va b s p)), (2, .int (0 : Int32))] [.int (g2 70 18)] g2 u (fun big n0 => sg_rm_23 big n0 g2 u (t_va b s p)) ?_
        refine q_if_ne rfl (fun hc4 => absurd (show (g2 70 18) = 0 from hc4) (k_pos (by rw [x2]; exact t_er_pos hc3))) (fun (hc4 : ¬ ((g2 70 18) = 0)) => ?_)
        refine q_ret 1 (none, g2, u) (fun _ _ => rfl) ?_
        unfold o_goal
        rw [o_num, if_pos hc0]
        rw [if_pos (show r 73 (15 + (Int32.toInt (t_va b s p)).toNat) = Int32.ofInt (-4) from e15.symm.trans hc2)]
        rw [o_num, if_neg hc3]
        exact ⟨_, rfl, k_rc_bad (((k_fR_rfl g).trans f1.R).trans f2.R) (t_er_pos hc3) x2 y2⟩
    · refine q_step 2 35 [(0, .ref 70), (1, .int (t_va b s p))] [.int (4 : Int32), .int (0 : Int32), .ref 70] g u (fun big n0 => sg_rm_24 big n0 g u (t_va b s p)) ?_
      refine q_call (M2 := 154) (rest := []) (b_needs0 _ _ _ z18) (fun _ _ => rfl) ?_
      refine q_step 1 39 [(0, .ref 70), (1, .int (t_va b s p))] [.ref 70] (q_up (q_up g 70 18 (4 : Int32)) 70 19 (g 70 15)) u (fun big n0 => sg_rm_15 big n0 (q_up (q_up g 70 18 (4 : Int32)) 70 19 (g 70 15)) u (t_va b s p)) ?_
      refine q_call (M2 := 152) (rest := []) (r_nextf _ _ (show (0 : Int32) < 4 by decide)) (fun _ _ => rfl) ?_
      refine q_step 3 46 [(0, .ref 70), (1, .int (t_va b s p))] [.int (24 : Int32), .int (0 : Int32), .ref 70] (q_up (q_up g 70 18 (4 : Int32)) 70 19 (g 70 15)) u (fun big n0 => sg_rm_16 big n0 (q_up (q_up g 70 18 (4 : Int32)) 70 19 (g 70 15)) u (t_va b s p)) ?_
      refine q_call (M2 := 160) (rest := []) (r_numf (0 : Int32) (24 : Int32) _ _ (show 0 < (4 : Int32) from (show (0 : Int32) < 4 by decide))) (fun _ _ => rfl) ?_
      refine q_step 3 54 [(0, .ref 70), (1, .int (t_va b s p)), (2, .int (0 : Int32))] [.int (4 : Int32)] (q_up (q_up g 70 18 (4 : Int32)) 70 19 (g 70 15)) u (fun big n0 => sg_rm_23 big n0 (q_up (q_up g 70 18 (4 : Int32)) 70 19 (g 70 15)) u (t_va b s p)) ?_
      refine q_if_ne rfl (fun hc3 => absurd (show (4 : Int32) = 0 from hc3) (k_pos (show (0 : Int32) < 4 by decide))) (fun (hc3 : ¬ ((4 : Int32) = 0)) => ?_)
      refine q_ret 1 (none, (q_up (q_up g 70 18 (4 : Int32)) 70 19 (g 70 15)), u) (fun _ _ => rfl) ?_
      unfold o_goal
      rw [o_num, if_pos hc0]
      rw [if_neg (show ¬ r 73 (15 + (Int32.toInt (t_va b s p)).toNat) = Int32.ofInt (-4) from fun z => hc2 (e15.trans z))]
      exact ⟨_, rfl, k_rc_bad (((k_fR_rfl g).up (by omega)).up (by omega)) (by decide) rfl z15⟩
  · obtain ⟨g1, q1, f1, x1, y1⟩ := r_looke u hr hc0
    refine q_call (M2 := 161) (rest := []) (q1) (fun _ _ => rfl) ?_
    refine q_step 3 11 [(0, .ref 70), (1, .int (0 : Int32))] [.int (g1 70 18)] g1 u (fun big n0 => sg_rm_25 big n0 g1 u) ?_
    refine q_if_ne rfl (fun hc1 => absurd (show (g1 70 18) = 0 from hc1) (k_pos (by rw [x1]; exact t_er_pos hc0))) (fun (hc1 : ¬ ((g1 70 18) = 0)) => ?_)
    refine q_step 1 39 [(0, .ref 70), (1, .int (0 : Int32))] [.ref 70] g1 u (fun big n0 => sg_rm_26 big n0 g1 u) ?_
    refine q_call (M2 := 152) (rest := []) (r_nextf _ _ (by rw [x1]; exact t_er_pos hc0)) (fun _ _ => rfl) ?_
    refine q_step 3 46 [(0, .ref 70), (1, .int (0 : Int32))] [.int (24 : Int32), .int (0 : Int32), .ref 70] g1 u (fun big n0 => sg_rm_27 big n0 g1 u) ?_
    refine q_call (M2 := 160) (rest := []) (r_numf (0 : Int32) (24 : Int32) _ _ (show 0 < (g1 70 18) from (by rw [x1]; exact t_er_pos hc0))) (fun _ _ => rfl) ?_
    refine q_step 3 54 [(0, .ref 70), (1, .int (0 : Int32)), (2, .int (0 : Int32))] [.int (g1 70 18)] g1 u (fun big n0 => sg_rm_28 big n0 g1 u) ?_
    refine q_if_ne rfl (fun hc2 => absurd (show (g1 70 18) = 0 from hc2) (k_pos (by rw [x1]; exact t_er_pos hc0))) (fun (hc2 : ¬ ((g1 70 18) = 0)) => ?_)
    refine q_ret 1 (none, g1, u) (fun _ _ => rfl) ?_
    unfold o_goal
    rw [o_num, if_neg hc0]
    exact ⟨_, rfl, k_rc_bad ((k_fR_rfl g).trans f1.R) (t_er_pos hc0) x1 y1⟩
theorem r_lat {b : Nat → Int32} {s p : Nat} {r : qM} (g : qM) (u : qW) (hr : k_rs b s p r g) (hn : k_dn r) (hlt : t_n r < 5) : ∃ R, q_BS 159 [.ref 70, .int (4 : Int32)] g u R ∧ ∃ g', R = (none, g', u) ∧ k_rc b s (i_one b s p r 0) g g' := by
  refine q_bs (mm := m_159) rfl (Nat.le_of_ble_eq_true rfl) rfl ?_
  refine q_step 7 165 [(0, .ref 70), (1, .int (4 : Int32))] [.int (0 : Int32), .ref 70] g u (fun big n0 => sg_rm_29 big n0 g u) ?_
  refine q_call (M2 := 164) (rest := [.ref 70]) (b_flag0 _ _) (fun _ _ => rfl) ?_
  obtain ⟨_, q1, g1, rfl, h1⟩ := r_one g u hr hn hlt 0
  refine q_call (M2 := 165) (rest := []) (q1) (fun _ _ => rfl) ?_
  refine q_ret 1 (none, g1, u) (fun _ _ => rfl) ?_
  exact ⟨_, rfl, h1⟩
theorem r_lstill {b : Nat → Int32} {s p : Nat} {r : qM} (g : qM) (u : qW) (hr : k_rs b s p r g) (hn : k_dn r) (hlt : t_n r < 5) : ∃ R, q_BS 159 [.ref 70, .int (5 : Int32)] g u R ∧ ∃ g', R = (none, g', u) ∧ k_rc b s (i_one b s p r 1) g g' := by
  refine q_bs (mm := m_159) rfl (Nat.le_of_ble_eq_true rfl) rfl ?_
  refine q_step 8 165 [(0, .ref 70), (1, .int (5 : Int32))] [.int (1 : Int32), .ref 70] g u (fun big n0 => sg_rm_30 big n0 g u) ?_
  refine q_call (M2 := 164) (rest := [.ref 70]) (b_flag1 _ _) (fun _ _ => rfl) ?_
  obtain ⟨_, q1, g1, rfl, h1⟩ := r_one g u hr hn hlt 1
  refine q_call (M2 := 165) (rest := []) (q1) (fun _ _ => rfl) ?_
  refine q_ret 1 (none, g1, u) (fun _ _ => rfl) ?_
  exact ⟨_, rfl, h1⟩
theorem r_lgoal {b : Nat → Int32} {s p : Nat} {r : qM} (g : qM) (u : qW) (hr : k_rs b s p r g) (hn : k_dn r) : ∃ R, q_BS 159 [.ref 70, .int (6 : Int32)] g u R ∧ ∃ g', R = (none, g', u) ∧ k_rc b s (o_goal b s p r) g g' := by
  refine q_bs (mm := m_159) rfl (Nat.le_of_ble_eq_true rfl) rfl ?_
  refine q_step 3 148 [(0, .ref 70), (1, .int (6 : Int32))] [.ref 70] g u (fun big n0 => sg_rm_31 big n0 g u) ?_
  obtain ⟨_, q1, g1, rfl, h1⟩ := r_goal g u hr hn
  refine q_call (M2 := 163) (rest := []) (q1) (fun _ _ => rfl) ?_
  refine q_ret 2 (none, g1, u) (fun _ _ => rfl) ?_
  exact ⟨_, rfl, h1⟩
theorem r_tail {b : Nat → Int32} {s : Nat} {oo : tO} {g0 : qM} (g : qM) (u : qW) (hb : k_b b s g) (hc : k_rc b s oo g0 g) (v : Int32) : q_EV m_155 124 [(0, .ref 70), (1, .int v)] [] g u (fun R => ∃ g', R = (none, g', u) ∧ k_rc b s (o_fin b s oo) g0 g') := by
  refine q_step 2 128 [(0, .ref 70), (1, .int v)] [.int (g 70 18)] g u (fun big n0 => sg_rm_32 big n0 g u v) ?_
  refine q_if_ne rfl (fun (hc0 : (g 70 18) = 0) => ?_) (fun (hc0 : ¬ ((g 70 18) = 0)) => ?_)
  · refine q_step 4 137 [(0, .ref 70), (1, .int v)] [.int (3 : Int32), .int (g 70 16), .ref 70] g u (fun big n0 => sg_rm_33 big n0 g u v) ?_
    refine q_ic_ne rfl (fun (hc1 : (g 70 16) = (3 : Int32)) => ?_) (fun (hc1 : ¬ ((g 70 16) = (3 : Int32))) => ?_)
    · refine q_step 3 146 [(0, .ref 70), (1, .int v)] [.int (2 : Int32), .int (1 : Int32), .ref 70] g u (fun big n0 => sg_rm_34 big n0 g u v) ?_
      have e0 : oo.1 = 0 := Classical.byContradiction (fun z => k_pos (hc.2.1 z).1 ((hc.2.1 z).2.1.symm.trans hc0))
      obtain ⟨zp, zl, zd⟩ := hc.2.2 e0
      obtain ⟨k0, _, z14, z15, z16, _⟩ := zl.resolve_left (fun z => absurd (hc0.symm.trans z.2.1) (by decide))
      refine q_call (M2 := 154) (rest := []) (b_needs1 _ _ _) (fun _ _ => rfl) ?_
      refine q_step 1 150 [(0, .ref 70), (1, .int v)] [.ref 70] g u (fun big n0 => sg_rm_35 big n0 g u v) ?_
      obtain ⟨g1, q1, f1, l1⟩ := r_nextb (b := b) (p := t_pl b s oo.2.2.1) g u hb z14 (t_pl_b zp).2.1 hc0
      refine q_call (M2 := 152) (rest := []) (q1) (fun _ _ => rfl) ?_
      refine q_ret 1 (none, g1, u) (fun _ _ => rfl) ?_
      have k3 : t_ki b s oo.2.2.1 = 3 := by
        have z := z16.symm.trans hc1
        by_cases e4 : t_ki b s oo.2.2.1 = 4
        · rw [if_pos e4] at z
          exact absurd z (by decide)
        · rw [if_neg e4] at z
          exact z
      unfold o_fin
      rw [if_pos e0, if_pos (t_et3 k3)]
      exact ⟨_, rfl, k_rc_ok (hc.1.trans f1.R) ⟨hb.fr f1, (t_pl_b zp).2.1, l1, (zd hc0).f70 f1⟩⟩
    · refine q_step 2 146 [(0, .ref 70), (1, .int v)] [.int (2 : Int32), .int (0 : Int32), .ref 70] g u (fun big n0 => sg_rm_36 big n0 g u v) ?_
      have e0 : oo.1 = 0 := Classical.byContradiction (fun z => k_pos (hc.2.1 z).1 ((hc.2.1 z).2.1.symm.trans hc0))
      obtain ⟨zp, zl, zd⟩ := hc.2.2 e0
      obtain ⟨k0, _, z14, z15, z16, _⟩ := zl.resolve_left (fun z => absurd (hc0.symm.trans z.2.1) (by decide))
      refine q_call (M2 := 154) (rest := []) (b_needs0 _ _ _ hc0) (fun _ _ => rfl) ?_
      refine q_step 1 150 [(0, .ref 70), (1, .int v)] [.ref 70] (q_up (q_up g 70 18 (2 : Int32)) 70 19 (g 70 15)) u (fun big n0 => sg_rm_35 big n0 (q_up (q_up g 70 18 (2 : Int32)) 70 19 (g 70 15)) u v) ?_
      refine q_call (M2 := 152) (rest := []) (r_nextf _ _ (show (0 : Int32) < 2 by decide)) (fun _ _ => rfl) ?_
      refine q_ret 1 (none, (q_up (q_up g 70 18 (2 : Int32)) 70 19 (g 70 15)), u) (fun _ _ => rfl) ?_
      have k3 : ¬ t_ki b s oo.2.2.1 = 3 := fun z => hc1 (z16.trans (by rw [z]; rfl))
      unfold o_fin
      rw [if_pos e0, t_et2 k0 k3, if_neg (by decide)]
      exact ⟨_, rfl, k_rc_bad ((hc.1.up (by omega)).up (by omega)) (by decide) rfl z15⟩
  · refine q_step 1 150 [(0, .ref 70), (1, .int v)] [.ref 70] g u (fun big n0 => sg_rm_35 big n0 g u v) ?_
    have hpos : 0 < g 70 18 := by
      by_cases e0 : oo.1 = 0
      · rcases (hc.2.2 e0).2.1 with z | z
        · rw [z.2.1]; decide
        · exact absurd z.2.1 hc0
      · rw [(hc.2.1 e0).2.1]; exact (hc.2.1 e0).1
    refine q_call (M2 := 152) (rest := []) (r_nextf g u hpos) (fun _ _ => rfl) ?_
    refine q_ret 1 (none, g, u) (fun _ _ => rfl) ?_
    refine ⟨_, rfl, ?_⟩
    by_cases e0 : oo.1 = 0
    · obtain ⟨zp, zl, zd⟩ := hc.2.2 e0
      rcases zl with z | z
      · unfold o_fin
        rw [if_pos e0, t_et0 z.1, if_neg (by decide)]
        exact k_rc_bad hc.1 (by decide) z.2.1 z.2.2
      · exact absurd z.2.1 hc0
    · unfold o_fin
      rw [if_neg e0]
      exact hc
theorem r_rl0 {b : Nat → Int32} {s p : Nat} {r : qM} (g : qM) (u : qW) (hb : k_b b s g) (hp : p ≤ s) (hf0 : g 70 18 = 0) (h14 : g 70 14 = Int32.ofNat (t_pl b s p)) (h15 : g 70 15 = Int32.ofNat (t_fi b s p)) (h16 : g 70 16 = 1) (hln : t_ln b (t_fi b s p) ((t_pl b s p) - (t_fi b s p)) = (0 : Int32)) (hd : k_dh r g) (hn : k_dn r) : ∃ R, q_BS 155 [.ref 70] g u R ∧ ∃ g', R = (none, g', u) ∧ k_rc b s (o_fin b s (o_town b s (t_fi b s p) (t_pl b s p) r)) g g' := by
  refine q_bs (mm := m_155) rfl (Nat.le_of_ble_eq_true rfl) rfl ?_
  refine q_step 3 5 [(0, .ref 70)] [.int (1 : Int32), .int (g 70 16)] g u (fun big n0 => sg_rm_37 big n0 g u) ?_
  refine q_ic_ne rfl (fun (hc0 : (g 70 16) = (1 : Int32)) => ?_) (fun hc0 => absurd (show (g 70 16) = (1 : Int32) from h16) hc0)
  refine q_step 1 9 [(0, .ref 70)] [.ref 70] g u (fun big n0 => sg_rm_38 big n0 g u) ?_
  have hln2 : q_BS 156 [.ref 70] g u (some (.int (0 : Int32)), g, u) := by
    have z := r_line g u hb.1 hb.2.1 h15 h14 (t_pl_b hp).1 (t_pl_b hp).2.1
    rw [t_ln_c (s := s) (fun j hj => (hb.2.2 j hj).1) (by have := t_pl_b (b := b) hp; omega), hln] at z
    exact z
  refine q_call (M2 := 156) (rest := []) (hln2) (fun _ _ => rfl) ?_
  refine q_step 9 31 [(0, .ref 70), (1, .int (0 : Int32))] [.int (2 : Int32), .int (1 : Int32), .ref 70] g u (fun big n0 => sg_rm_39 big n0 g u) ?_
  refine q_call (M2 := 154) (rest := []) (b_needs1 _ _ _) (fun _ _ => rfl) ?_
  refine q_step 10 59 [(0, .ref 70), (1, .int (0 : Int32))] [.int (5 : Int32), .int (1 : Int32), .ref 70] g u (fun big n0 => sg_rm_40 big n0 g u) ?_
  refine q_call (M2 := 154) (rest := []) (b_needs1 _ _ _) (fun _ _ => rfl) ?_
  refine q_step 2 66 [(0, .ref 70), (1, .int (0 : Int32))] [.int (g 70 18)] g u (fun big n0 => sg_rm_41 big n0 g u) ?_
  refine q_if_ne rfl (fun (hc1 : (g 70 18) = 0) => ?_) (fun hc1 => absurd (show (g 70 18) = 0 from hf0) hc1)
  refine q_step 10 83 [(0, .ref 70), (1, .int (0 : Int32))] [.int (((g 70 9) >>> ((0 : Int32) &&& 31)) &&& (1 : Int32)), .ref 70] g u (fun big n0 => sg_rm_42 big n0 g u) ?_
  refine q_if_ne rfl (fun (hc2 : (((g 70 9) >>> ((0 : Int32) &&& 31)) &&& (1 : Int32)) = 0) => ?_) (fun (hc2 : ¬ ((((g 70 9) >>> ((0 : Int32) &&& 31)) &&& (1 : Int32)) = 0)) => ?_)
  · refine q_step 3 92 [(0, .ref 70), (1, .int (0 : Int32))] [.int (4 : Int32), .int (1 : Int32), .ref 70] g u (fun big n0 => sg_rm_43 big n0 g u) ?_
    refine q_call (M2 := 154) (rest := []) (b_needs1 _ _ _) (fun _ _ => rfl) ?_
    refine q_step 9 108 [(0, .ref 70), (1, .int (0 : Int32))] [.ref 70] (q_up g 70 9 ((g 70 9) ||| ((1 : Int32) <<< ((0 : Int32) &&& 31)))) u (fun big n0 => sg_rm_44 big n0 g u) ?_
    obtain ⟨g1, q1, f1, l1⟩ := r_nextb (b := b) (p := (t_pl b s p)) (q_up g 70 9 ((g 70 9) ||| ((1 : Int32) <<< ((0 : Int32) &&& 31)))) u (hb.R ((k_fR_rfl g).up (by omega))) h14 (t_pl_b hp).2.1 hf0
    refine q_call (M2 := 152) (rest := []) (q1) (fun _ _ => rfl) ?_
    refine q_step 2 115 [(0, .ref 70), (1, .int (0 : Int32))] [.int (g1 70 18)] g1 u (fun big n0 => sg_rm_45 big n0 g1 u) ?_
    refine q_if_le rfl (fun (hc3 : (g1 70 18) ≤ 0) => ?_) (fun (hc3 : ¬ ((g1 70 18) ≤ 0)) => ?_)
    · refine q_step 2 121 [(0, .ref 70), (1, .int (0 : Int32))] [.int (0 : Int32), .ref 70] g1 u (fun big n0 => sg_rm_46 big n0 g1 u) ?_
      have hfl : t_fl 0 r = 0 := by
        have e9 : g 70 9 = r 70 9 := hd.2 9 (by omega) (by omega)
        unfold t_fl
        rw [← e9]
        exact hc2
      have eo : o_town b s (t_fi b s p) (t_pl b s p) r = i_town b s (t_pl b s p) r (r_fl 0 r) := by
        unfold o_town
        rw [if_pos hfl]
        rfl
      have hd1 : k_dh (r_fl 0 r) g1 := by
        have z := hd.up (a := 70) (j := 9) (x := g 70 9 ||| ((1 : Int32) <<< ((0 : Int32) &&& 31)))
        have e9 : g 70 9 = r 70 9 := hd.2 9 (by omega) (by omega)
        have y := z.f70 f1
        rw [show q_up r 70 9 (g 70 9 ||| ((1 : Int32) <<< ((0 : Int32) &&& 31))) = r_fl 0 r from by unfold r_fl; rw [e9]; rfl] at y
        exact y
      have hrs : k_rs b s (t_pl b s p) (r_fl 0 r) g1 := ⟨(hb.R ((k_fR_rfl g).up (by omega))).fr f1, (t_pl_b hp).2.1, l1, hd1⟩
      obtain ⟨_, q2, g2, rfl, c2⟩ := r_ltown g1 u hrs r
      refine q_call (M2 := 159) (rest := []) (q2) (fun _ _ => rfl) ?_
      rw [eo]
      exact r_tail g2 u (((hb.R ((k_fR_rfl g).up (by omega))).fr f1).R c2.1) ⟨(((k_fR_rfl g).up (by omega)).trans f1.R).trans c2.1, c2.2⟩ _
    · refine q_ret 1 (none, g1, u) (fun _ _ => rfl) ?_
      have hfl : t_fl 0 r = 0 := by
        have e9 : g 70 9 = r 70 9 := hd.2 9 (by omega) (by omega)
        unfold t_fl
        rw [← e9]
        exact hc2
      have eo : o_town b s (t_fi b s p) (t_pl b s p) r = i_town b s (t_pl b s p) r (r_fl 0 r) := by
        unfold o_town
        rw [if_pos hfl]
        rfl
      have l2 := l1.resolve_right (fun z => hc3 (by rw [z.2.1]; decide))
      have ew : o_town b s (t_fi b s p) (t_pl b s p) r = o_bad 1 (t_fi b s (t_pl b s p)) r := by
        rw [eo]
        unfold i_town
        rw [o_num0 l2.1]
      rw [ew, o_fin_bad (by decide)]
      exact ⟨_, rfl, k_rc_bad (((k_fR_rfl g).up (by omega)).trans f1.R) (by decide) l2.2.1 l2.2.2⟩
  · refine q_step 2 92 [(0, .ref 70), (1, .int (0 : Int32))] [.int (4 : Int32), .int (0 : Int32), .ref 70] g u (fun big n0 => sg_rm_47 big n0 g u) ?_
    refine q_call (M2 := 154) (rest := []) (b_needs0 _ _ _ hf0) (fun _ _ => rfl) ?_
    refine q_step 9 108 [(0, .ref 70), (1, .int (0 : Int32))] [.ref 70] (q_up (q_up (q_up g 70 18 (4 : Int32)) 70 19 (g 70 15)) 70 9 ((g 70 9) ||| ((1 : Int32) <<< ((0 : Int32) &&& 31)))) u (fun big n0 => sg_rm_44 big n0 (q_up (q_up g 70 18 (4 : Int32)) 70 19 (g 70 15)) u) ?_
    refine q_call (M2 := 152) (rest := []) (r_nextf _ _ (show (0 : Int32) < 4 by decide)) (fun _ _ => rfl) ?_
    refine q_step 2 115 [(0, .ref 70), (1, .int (0 : Int32))] [.int (4 : Int32)] (q_up (q_up (q_up g 70 18 (4 : Int32)) 70 19 (g 70 15)) 70 9 ((g 70 9) ||| ((1 : Int32) <<< ((0 : Int32) &&& 31)))) u (fun big n0 => sg_rm_45 big n0 (q_up (q_up (q_up g 70 18 (4 : Int32)) 70 19 (g 70 15)) 70 9 ((g 70 9) ||| ((1 : Int32) <<< ((0 : Int32) &&& 31)))) u) ?_
    refine q_if_le rfl (fun hc3 => absurd (show (4 : Int32) ≤ 0 from hc3) (by decide)) (fun (hc3 : ¬ ((4 : Int32) ≤ 0)) => ?_)
    refine q_ret 1 (none, (q_up (q_up (q_up g 70 18 (4 : Int32)) 70 19 (g 70 15)) 70 9 ((g 70 9) ||| ((1 : Int32) <<< ((0 : Int32) &&& 31)))), u) (fun _ _ => rfl) ?_
    have hfl : ¬ t_fl 0 r = 0 := by
      have e9 : g 70 9 = r 70 9 := hd.2 9 (by omega) (by omega)
      unfold t_fl
      rw [← e9]
      exact hc2
    have eo : o_town b s (t_fi b s p) (t_pl b s p) r = o_bad 4 (t_fi b s p) r := by
      unfold o_town
      rw [if_neg hfl]
    rw [eo, o_fin_bad (by decide)]
    exact ⟨_, rfl, k_rc_bad ((((k_fR_rfl g).up (by omega)).up (by omega)).up (by omega)) (by decide) rfl h15⟩
theorem r_rl1 {b : Nat → Int32} {s p : Nat} {r : qM} (g : qM) (u : qW) (hb : k_b b s g) (hp : p ≤ s) (hf0 : g 70 18 = 0) (h14 : g 70 14 = Int32.ofNat (t_pl b s p)) (h15 : g 70 15 = Int32.ofNat (t_fi b s p)) (h16 : g 70 16 = 1) (hln : t_ln b (t_fi b s p) ((t_pl b s p) - (t_fi b s p)) = (1 : Int32)) (hd : k_dh r g) (hn : k_dn r) : ∃ R, q_BS 155 [.ref 70] g u R ∧ ∃ g', R = (none, g', u) ∧ k_rc b s (o_fin b s (o_pull b s (t_fi b s p) (t_pl b s p) r)) g g' := by
  refine q_bs (mm := m_155) rfl (Nat.le_of_ble_eq_true rfl) rfl ?_
  refine q_step 3 5 [(0, .ref 70)] [.int (1 : Int32), .int (g 70 16)] g u (fun big n0 => sg_rm_37 big n0 g u) ?_
  refine q_ic_ne rfl (fun (hc0 : (g 70 16) = (1 : Int32)) => ?_) (fun hc0 => absurd (show (g 70 16) = (1 : Int32) from h16) hc0)
  refine q_step 1 9 [(0, .ref 70)] [.ref 70] g u (fun big n0 => sg_rm_38 big n0 g u) ?_
  have hln2 : q_BS 156 [.ref 70] g u (some (.int (1 : Int32)), g, u) := by
    have z := r_line g u hb.1 hb.2.1 h15 h14 (t_pl_b hp).1 (t_pl_b hp).2.1
    rw [t_ln_c (s := s) (fun j hj => (hb.2.2 j hj).1) (by have := t_pl_b (b := b) hp; omega), hln] at z
    exact z
  refine q_call (M2 := 156) (rest := []) (hln2) (fun _ _ => rfl) ?_
  refine q_step 9 31 [(0, .ref 70), (1, .int (1 : Int32))] [.int (2 : Int32), .int (1 : Int32), .ref 70] g u (fun big n0 => sg_rm_48 big n0 g u) ?_
  refine q_call (M2 := 154) (rest := []) (b_needs1 _ _ _) (fun _ _ => rfl) ?_
  refine q_step 10 59 [(0, .ref 70), (1, .int (1 : Int32))] [.int (5 : Int32), .int (1 : Int32), .ref 70] g u (fun big n0 => sg_rm_49 big n0 g u) ?_
  refine q_call (M2 := 154) (rest := []) (b_needs1 _ _ _) (fun _ _ => rfl) ?_
  refine q_step 2 66 [(0, .ref 70), (1, .int (1 : Int32))] [.int (g 70 18)] g u (fun big n0 => sg_rm_50 big n0 g u) ?_
  refine q_if_ne rfl (fun (hc1 : (g 70 18) = 0) => ?_) (fun hc1 => absurd (show (g 70 18) = 0 from hf0) hc1)
  refine q_step 10 83 [(0, .ref 70), (1, .int (1 : Int32))] [.int (((g 70 9) >>> ((1 : Int32) &&& 31)) &&& (1 : Int32)), .ref 70] g u (fun big n0 => sg_rm_51 big n0 g u) ?_
  refine q_if_ne rfl (fun (hc2 : (((g 70 9) >>> ((1 : Int32) &&& 31)) &&& (1 : Int32)) = 0) => ?_) (fun (hc2 : ¬ ((((g 70 9) >>> ((1 : Int32) &&& 31)) &&& (1 : Int32)) = 0)) => ?_)
  · refine q_step 3 92 [(0, .ref 70), (1, .int (1 : Int32))] [.int (4 : Int32), .int (1 : Int32), .ref 70] g u (fun big n0 => sg_rm_52 big n0 g u) ?_
    refine q_call (M2 := 154) (rest := []) (b_needs1 _ _ _) (fun _ _ => rfl) ?_
    refine q_step 9 108 [(0, .ref 70), (1, .int (1 : Int32))] [.ref 70] (q_up g 70 9 ((g 70 9) ||| ((1 : Int32) <<< ((1 : Int32) &&& 31)))) u (fun big n0 => sg_rm_53 big n0 g u) ?_
    obtain ⟨g1, q1, f1, l1⟩ := r_nextb (b := b) (p := (t_pl b s p)) (q_up g 70 9 ((g 70 9) ||| ((1 : Int32) <<< ((1 : Int32) &&& 31)))) u (hb.R ((k_fR_rfl g).up (by omega))) h14 (t_pl_b hp).2.1 hf0
    refine q_call (M2 := 152) (rest := []) (q1) (fun _ _ => rfl) ?_
    refine q_step 2 115 [(0, .ref 70), (1, .int (1 : Int32))] [.int (g1 70 18)] g1 u (fun big n0 => sg_rm_54 big n0 g1 u) ?_
    refine q_if_le rfl (fun (hc3 : (g1 70 18) ≤ 0) => ?_) (fun (hc3 : ¬ ((g1 70 18) ≤ 0)) => ?_)
    · refine q_step 2 121 [(0, .ref 70), (1, .int (1 : Int32))] [.int (1 : Int32), .ref 70] g1 u (fun big n0 => sg_rm_55 big n0 g1 u) ?_
      have hfl : t_fl 1 r = 0 := by
        have e9 : g 70 9 = r 70 9 := hd.2 9 (by omega) (by omega)
        unfold t_fl
        rw [← e9]
        exact hc2
      have eo : o_pull b s (t_fi b s p) (t_pl b s p) r = i_pull b s (t_pl b s p) r (r_fl 1 r) := by
        unfold o_pull
        rw [if_pos hfl]
        rfl
      have hd1 : k_dh (r_fl 1 r) g1 := by
        have z := hd.up (a := 70) (j := 9) (x := g 70 9 ||| ((1 : Int32) <<< ((1 : Int32) &&& 31)))
        have e9 : g 70 9 = r 70 9 := hd.2 9 (by omega) (by omega)
        have y := z.f70 f1
        rw [show q_up r 70 9 (g 70 9 ||| ((1 : Int32) <<< ((1 : Int32) &&& 31))) = r_fl 1 r from by unfold r_fl; rw [e9]; rfl] at y
        exact y
      have hrs : k_rs b s (t_pl b s p) (r_fl 1 r) g1 := ⟨(hb.R ((k_fR_rfl g).up (by omega))).fr f1, (t_pl_b hp).2.1, l1, hd1⟩
      obtain ⟨_, q2, g2, rfl, c2⟩ := r_lpull g1 u hrs r
      refine q_call (M2 := 159) (rest := []) (q2) (fun _ _ => rfl) ?_
      rw [eo]
      exact r_tail g2 u (((hb.R ((k_fR_rfl g).up (by omega))).fr f1).R c2.1) ⟨(((k_fR_rfl g).up (by omega)).trans f1.R).trans c2.1, c2.2⟩ _
    · refine q_ret 1 (none, g1, u) (fun _ _ => rfl) ?_
      have hfl : t_fl 1 r = 0 := by
        have e9 : g 70 9 = r 70 9 := hd.2 9 (by omega) (by omega)
        unfold t_fl
        rw [← e9]
        exact hc2
      have eo : o_pull b s (t_fi b s p) (t_pl b s p) r = i_pull b s (t_pl b s p) r (r_fl 1 r) := by
        unfold o_pull
        rw [if_pos hfl]
        rfl
      have l2 := l1.resolve_right (fun z => hc3 (by rw [z.2.1]; decide))
      have ew : o_pull b s (t_fi b s p) (t_pl b s p) r = o_bad 1 (t_fi b s (t_pl b s p)) r := by
        rw [eo]
        unfold i_pull
        rw [o_num0 l2.1]
      rw [ew, o_fin_bad (by decide)]
      exact ⟨_, rfl, k_rc_bad (((k_fR_rfl g).up (by omega)).trans f1.R) (by decide) l2.2.1 l2.2.2⟩
  · refine q_step 2 92 [(0, .ref 70), (1, .int (1 : Int32))] [.int (4 : Int32), .int (0 : Int32), .ref 70] g u (fun big n0 => sg_rm_56 big n0 g u) ?_
    refine q_call (M2 := 154) (rest := []) (b_needs0 _ _ _ hf0) (fun _ _ => rfl) ?_
    refine q_step 9 108 [(0, .ref 70), (1, .int (1 : Int32))] [.ref 70] (q_up (q_up (q_up g 70 18 (4 : Int32)) 70 19 (g 70 15)) 70 9 ((g 70 9) ||| ((1 : Int32) <<< ((1 : Int32) &&& 31)))) u (fun big n0 => sg_rm_53 big n0 (q_up (q_up g 70 18 (4 : Int32)) 70 19 (g 70 15)) u) ?_
    refine q_call (M2 := 152) (rest := []) (r_nextf _ _ (show (0 : Int32) < 4 by decide)) (fun _ _ => rfl) ?_
    refine q_step 2 115 [(0, .ref 70), (1, .int (1 : Int32))] [.int (4 : Int32)] (q_up (q_up (q_up g 70 18 (4 : Int32)) 70 19 (g 70 15)) 70 9 ((g 70 9) ||| ((1 : Int32) <<< ((1 : Int32) &&& 31)))) u (fun big n0 => sg_rm_54 big n0 (q_up (q_up (q_up g 70 18 (4 : Int32)) 70 19 (g 70 15)) 70 9 ((g 70 9) ||| ((1 : Int32) <<< ((1 : Int32) &&& 31)))) u) ?_
    refine q_if_le rfl (fun hc3 => absurd (show (4 : Int32) ≤ 0 from hc3) (by decide)) (fun (hc3 : ¬ ((4 : Int32) ≤ 0)) => ?_)
    refine q_ret 1 (none, (q_up (q_up (q_up g 70 18 (4 : Int32)) 70 19 (g 70 15)) 70 9 ((g 70 9) ||| ((1 : Int32) <<< ((1 : Int32) &&& 31)))), u) (fun _ _ => rfl) ?_
    have hfl : ¬ t_fl 1 r = 0 := by
      have e9 : g 70 9 = r 70 9 := hd.2 9 (by omega) (by omega)
      unfold t_fl
      rw [← e9]
      exact hc2
    have eo : o_pull b s (t_fi b s p) (t_pl b s p) r = o_bad 4 (t_fi b s p) r := by
      unfold o_pull
      rw [if_neg hfl]
    rw [eo, o_fin_bad (by decide)]
    exact ⟨_, rfl, k_rc_bad ((((k_fR_rfl g).up (by omega)).up (by omega)).up (by omega)) (by decide) rfl h15⟩
theorem r_rl2 {b : Nat → Int32} {s p : Nat} {r : qM} (g : qM) (u : qW) (hb : k_b b s g) (hp : p ≤ s) (hf0 : g 70 18 = 0) (h14 : g 70 14 = Int32.ofNat (t_pl b s p)) (h15 : g 70 15 = Int32.ofNat (t_fi b s p)) (h16 : g 70 16 = 1) (hln : t_ln b (t_fi b s p) ((t_pl b s p) - (t_fi b s p)) = (2 : Int32)) (hd : k_dh r g) (hn : k_dn r) : ∃ R, q_BS 155 [.ref 70] g u R ∧ ∃ g', R = (none, g', u) ∧ k_rc b s (o_fin b s (o_press b s (t_fi b s p) (t_pl b s p) r)) g g' := by
  refine q_bs (mm := m_155) rfl (Nat.le_of_ble_eq_true rfl) rfl ?_
  refine q_step 3 5 [(0, .ref 70)] [.int (1 : Int32), .int (g 70 16)] g u (fun big n0 => sg_rm_37 big n0 g u) ?_
  refine q_ic_ne rfl (fun (hc0 : (g 70 16) = (1 : Int32)) => ?_) (fun hc0 => absurd (show (g 70 16) = (1 : Int32) from h16) hc0)
  refine q_step 1 9 [(0, .ref 70)] [.ref 70] g u (fun big n0 => sg_rm_38 big n0 g u) ?_
  have hln2 : q_BS 156 [.ref 70] g u (some (.int (2 : Int32)), g, u) := by
    have z := r_line g u hb.1 hb.2.1 h15 h14 (t_pl_b hp).1 (t_pl_b hp).2.1
    rw [t_ln_c (s := s) (fun j hj => (hb.2.2 j hj).1) (by have := t_pl_b (b := b) hp; omega), hln] at z
    exact z
  refine q_call (M2 := 156) (rest := []) (hln2) (fun _ _ => rfl) ?_
  refine q_step 9 31 [(0, .ref 70), (1, .int (2 : Int32))] [.int (2 : Int32), .int (1 : Int32), .ref 70] g u (fun big n0 => sg_rm_57 big n0 g u) ?_
  refine q_call (M2 := 154) (rest := []) (b_needs1 _ _ _) (fun _ _ => rfl) ?_
  refine q_step 10 59 [(0, .ref 70), (1, .int (2 : Int32))] [.int (5 : Int32), .int (1 : Int32), .ref 70] g u (fun big n0 => sg_rm_58 big n0 g u) ?_
  refine q_call (M2 := 154) (rest := []) (b_needs1 _ _ _) (fun _ _ => rfl) ?_
  refine q_step 2 66 [(0, .ref 70), (1, .int (2 : Int32))] [.int (g 70 18)] g u (fun big n0 => sg_rm_59 big n0 g u) ?_
  refine q_if_ne rfl (fun (hc1 : (g 70 18) = 0) => ?_) (fun hc1 => absurd (show (g 70 18) = 0 from hf0) hc1)
  refine q_step 10 83 [(0, .ref 70), (1, .int (2 : Int32))] [.int (((g 70 9) >>> ((2 : Int32) &&& 31)) &&& (1 : Int32)), .ref 70] g u (fun big n0 => sg_rm_60 big n0 g u) ?_
  refine q_if_ne rfl (fun (hc2 : (((g 70 9) >>> ((2 : Int32) &&& 31)) &&& (1 : Int32)) = 0) => ?_) (fun (hc2 : ¬ ((((g 70 9) >>> ((2 : Int32) &&& 31)) &&& (1 : Int32)) = 0)) => ?_)
  · refine q_step 3 92 [(0, .ref 70), (1, .int (2 : Int32))] [.int (4 : Int32), .int (1 : Int32), .ref 70] g u (fun big n0 => sg_rm_61 big n0 g u) ?_
    refine q_call (M2 := 154) (rest := []) (b_needs1 _ _ _) (fun _ _ => rfl) ?_
    refine q_step 9 108 [(0, .ref 70), (1, .int (2 : Int32))] [.ref 70] (q_up g 70 9 ((g 70 9) ||| ((1 : Int32) <<< ((2 : Int32) &&& 31)))) u (fun big n0 => sg_rm_62 big n0 g u) ?_
    obtain ⟨g1, q1, f1, l1⟩ := r_nextb (b := b) (p := (t_pl b s p)) (q_up g 70 9 ((g 70 9) ||| ((1 : Int32) <<< ((2 : Int32) &&& 31)))) u (hb.R ((k_fR_rfl g).up (by omega))) h14 (t_pl_b hp).2.1 hf0
    refine q_call (M2 := 152) (rest := []) (q1) (fun _ _ => rfl) ?_
    refine q_step 2 115 [(0, .ref 70), (1, .int (2 : Int32))] [.int (g1 70 18)] g1 u (fun big n0 => sg_rm_63 big n0 g1 u) ?_
    refine q_if_le rfl (fun (hc3 : (g1 70 18) ≤ 0) => ?_) (fun (hc3 : ¬ ((g1 70 18) ≤ 0)) => ?_)
    · refine q_step 2 121 [(0, .ref 70), (1, .int (2 : Int32))] [.int (2 : Int32), .ref 70] g1 u (fun big n0 => sg_rm_64 big n0 g1 u) ?_
      have hfl : t_fl 2 r = 0 := by
        have e9 : g 70 9 = r 70 9 := hd.2 9 (by omega) (by omega)
        unfold t_fl
        rw [← e9]
        exact hc2
      have eo : o_press b s (t_fi b s p) (t_pl b s p) r = i_press b s (t_pl b s p) r (r_fl 2 r) := by
        unfold o_press
        rw [if_pos hfl]
        rfl
      have hd1 : k_dh (r_fl 2 r) g1 := by
        have z := hd.up (a := 70) (j := 9) (x := g 70 9 ||| ((1 : Int32) <<< ((2 : Int32) &&& 31)))
        have e9 : g 70 9 = r 70 9 := hd.2 9 (by omega) (by omega)
        have y := z.f70 f1
        rw [show q_up r 70 9 (g 70 9 ||| ((1 : Int32) <<< ((2 : Int32) &&& 31))) = r_fl 2 r from by unfold r_fl; rw [e9]; rfl] at y
        exact y
      have hrs : k_rs b s (t_pl b s p) (r_fl 2 r) g1 := ⟨(hb.R ((k_fR_rfl g).up (by omega))).fr f1, (t_pl_b hp).2.1, l1, hd1⟩
      obtain ⟨_, q2, g2, rfl, c2⟩ := r_lpress g1 u hrs r
      refine q_call (M2 := 159) (rest := []) (q2) (fun _ _ => rfl) ?_
      rw [eo]
      exact r_tail g2 u (((hb.R ((k_fR_rfl g).up (by omega))).fr f1).R c2.1) ⟨(((k_fR_rfl g).up (by omega)).trans f1.R).trans c2.1, c2.2⟩ _
    · refine q_ret 1 (none, g1, u) (fun _ _ => rfl) ?_
      have hfl : t_fl 2 r = 0 := by
        have e9 : g 70 9 = r 70 9 := hd.2 9 (by omega) (by omega)
        unfold t_fl
        rw [← e9]
        exact hc2
      have eo : o_press b s (t_fi b s p) (t_pl b s p) r = i_press b s (t_pl b s p) r (r_fl 2 r) := by
        unfold o_press
        rw [if_pos hfl]
        rfl
      have l2 := l1.resolve_right (fun z => hc3 (by rw [z.2.1]; decide))
      have ew : o_press b s (t_fi b s p) (t_pl b s p) r = o_bad 1 (t_fi b s (t_pl b s p)) r := by
        rw [eo]
        unfold i_press
        rw [o_num0 l2.1]
      rw [ew, o_fin_bad (by decide)]
      exact ⟨_, rfl, k_rc_bad (((k_fR_rfl g).up (by omega)).trans f1.R) (by decide) l2.2.1 l2.2.2⟩
  · refine q_step 2 92 [(0, .ref 70), (1, .int (2 : Int32))] [.int (4 : Int32), .int (0 : Int32), .ref 70] g u (fun big n0 => sg_rm_65 big n0 g u) ?_
    refine q_call (M2 := 154) (rest := []) (b_needs0 _ _ _ hf0) (fun _ _ => rfl) ?_
    refine q_step 9 108 [(0, .ref 70), (1, .int (2 : Int32))] [.ref 70] (q_up (q_up (q_up g 70 18 (4 : Int32)) 70 19 (g 70 15)) 70 9 ((g 70 9) ||| ((1 : Int32) <<< ((2 : Int32) &&& 31)))) u (fun big n0 => sg_rm_62 big n0 (q_up (q_up g 70 18 (4 : Int32)) 70 19 (g 70 15)) u) ?_
    refine q_call (M2 := 152) (rest := []) (r_nextf _ _ (show (0 : Int32) < 4 by decide)) (fun _ _ => rfl) ?_
    refine q_step 2 115 [(0, .ref 70), (1, .int (2 : Int32))] [.int (4 : Int32)] (q_up (q_up (q_up g 70 18 (4 : Int32)) 70 19 (g 70 15)) 70 9 ((g 70 9) ||| ((1 : Int32) <<< ((2 : Int32) &&& 31)))) u (fun big n0 => sg_rm_63 big n0 (q_up (q_up (q_up g 70 18 (4 : Int32)) 70 19 (g 70 15)) 70 9 ((g 70 9) ||| ((1 : Int32) <<< ((2 : Int32) &&& 31)))) u) ?_
    refine q_if_le rfl (fun hc3 => absurd (show (4 : Int32) ≤ 0 from hc3) (by decide)) (fun (hc3 : ¬ ((4 : Int32) ≤ 0)) => ?_)
    refine q_ret 1 (none, (q_up (q_up (q_up g 70 18 (4 : Int32)) 70 19 (g 70 15)) 70 9 ((g 70 9) ||| ((1 : Int32) <<< ((2 : Int32) &&& 31)))), u) (fun _ _ => rfl) ?_
    have hfl : ¬ t_fl 2 r = 0 := by
      have e9 : g 70 9 = r 70 9 := hd.2 9 (by omega) (by omega)
      unfold t_fl
      rw [← e9]
      exact hc2
    have eo : o_press b s (t_fi b s p) (t_pl b s p) r = o_bad 4 (t_fi b s p) r := by
      unfold o_press
      rw [if_neg hfl]
    rw [eo, o_fin_bad (by decide)]
    exact ⟨_, rfl, k_rc_bad ((((k_fR_rfl g).up (by omega)).up (by omega)).up (by omega)) (by decide) rfl h15⟩
theorem r_rl3 {b : Nat → Int32} {s p : Nat} {r : qM} (g : qM) (u : qW) (hb : k_b b s g) (hp : p ≤ s) (hf0 : g 70 18 = 0) (h14 : g 70 14 = Int32.ofNat (t_pl b s p)) (h15 : g 70 15 = Int32.ofNat (t_fi b s p)) (h16 : g 70 16 = 1) (hln : t_ln b (t_fi b s p) ((t_pl b s p) - (t_fi b s p)) = (3 : Int32)) (hd : k_dh r g) (hn : k_dn r) : ∃ R, q_BS 155 [.ref 70] g u R ∧ ∃ g', R = (none, g', u) ∧ k_rc b s (o_fin b s (o_wall b s (t_pl b s p) r)) g g' := by
  refine q_bs (mm := m_155) rfl (Nat.le_of_ble_eq_true rfl) rfl ?_
  refine q_step 3 5 [(0, .ref 70)] [.int (1 : Int32), .int (g 70 16)] g u (fun big n0 => sg_rm_37 big n0 g u) ?_
  refine q_ic_ne rfl (fun (hc0 : (g 70 16) = (1 : Int32)) => ?_) (fun hc0 => absurd (show (g 70 16) = (1 : Int32) from h16) hc0)
  refine q_step 1 9 [(0, .ref 70)] [.ref 70] g u (fun big n0 => sg_rm_38 big n0 g u) ?_
  have hln2 : q_BS 156 [.ref 70] g u (some (.int (3 : Int32)), g, u) := by
    have z := r_line g u hb.1 hb.2.1 h15 h14 (t_pl_b hp).1 (t_pl_b hp).2.1
    rw [t_ln_c (s := s) (fun j hj => (hb.2.2 j hj).1) (by have := t_pl_b (b := b) hp; omega), hln] at z
    exact z
  refine q_call (M2 := 156) (rest := []) (hln2) (fun _ _ => rfl) ?_
  refine q_step 9 31 [(0, .ref 70), (1, .int (3 : Int32))] [.int (2 : Int32), .int (1 : Int32), .ref 70] g u (fun big n0 => sg_rm_66 big n0 g u) ?_
  refine q_call (M2 := 154) (rest := []) (b_needs1 _ _ _) (fun _ _ => rfl) ?_
  refine q_step 10 59 [(0, .ref 70), (1, .int (3 : Int32))] [.int (5 : Int32), .int (1 : Int32), .ref 70] g u (fun big n0 => sg_rm_67 big n0 g u) ?_
  refine q_call (M2 := 154) (rest := []) (b_needs1 _ _ _) (fun _ _ => rfl) ?_
  refine q_step 2 66 [(0, .ref 70), (1, .int (3 : Int32))] [.int (g 70 18)] g u (fun big n0 => sg_rm_68 big n0 g u) ?_
  refine q_if_ne rfl (fun (hc1 : (g 70 18) = 0) => ?_) (fun hc1 => absurd (show (g 70 18) = 0 from hf0) hc1)
  refine q_step 4 108 [(0, .ref 70), (1, .int (3 : Int32))] [.ref 70] g u (fun big n0 => sg_rm_69 big n0 g u) ?_
  obtain ⟨g1, q1, f1, l1⟩ := r_nextb (b := b) (p := (t_pl b s p)) g u (hb.R (k_fR_rfl g)) h14 (t_pl_b hp).2.1 hf0
  refine q_call (M2 := 152) (rest := []) (q1) (fun _ _ => rfl) ?_
  refine q_step 2 115 [(0, .ref 70), (1, .int (3 : Int32))] [.int (g1 70 18)] g1 u (fun big n0 => sg_rm_70 big n0 g1 u) ?_
  refine q_if_le rfl (fun (hc2 : (g1 70 18) ≤ 0) => ?_) (fun (hc2 : ¬ ((g1 70 18) ≤ 0)) => ?_)
  · refine q_step 2 121 [(0, .ref 70), (1, .int (3 : Int32))] [.int (3 : Int32), .ref 70] g1 u (fun big n0 => sg_rm_71 big n0 g1 u) ?_
    have eo : o_wall b s (t_pl b s p) r = o_wall b s (t_pl b s p) r := rfl
    have hrs : k_rs b s (t_pl b s p) r g1 := ⟨(hb.R (k_fR_rfl g)).fr f1, (t_pl_b hp).2.1, l1, hd.f70 f1⟩
    obtain ⟨_, q2, g2, rfl, c2⟩ := r_lwall g1 u hrs hn
    refine q_call (M2 := 159) (rest := []) (q2) (fun _ _ => rfl) ?_
    rw [eo]
    exact r_tail g2 u (((hb.R (k_fR_rfl g)).fr f1).R c2.1) ⟨((k_fR_rfl g).trans f1.R).trans c2.1, c2.2⟩ _
  · refine q_ret 1 (none, g1, u) (fun _ _ => rfl) ?_
    have eo : o_wall b s (t_pl b s p) r = o_wall b s (t_pl b s p) r := rfl
    have l2 := l1.resolve_right (fun z => hc2 (by rw [z.2.1]; decide))
    have ew : o_wall b s (t_pl b s p) r = o_bad 1 (t_fi b s (t_pl b s p)) r := by
      rw [eo]
      unfold o_wall o_free
      rw [o_num0 l2.1]
    rw [ew, o_fin_bad (by decide)]
    exact ⟨_, rfl, k_rc_bad ((k_fR_rfl g).trans f1.R) (by decide) l2.2.1 l2.2.2⟩
theorem r_rl4 {b : Nat → Int32} {s p : Nat} {r : qM} (g : qM) (u : qW) (hb : k_b b s g) (hp : p ≤ s) (hf0 : g 70 18 = 0) (h14 : g 70 14 = Int32.ofNat (t_pl b s p)) (h15 : g 70 15 = Int32.ofNat (t_fi b s p)) (h16 : g 70 16 = 1) (hln : t_ln b (t_fi b s p) ((t_pl b s p) - (t_fi b s p)) = (4 : Int32)) (hd : k_dh r g) (hn : k_dn r) : ∃ R, q_BS 155 [.ref 70] g u R ∧ ∃ g', R = (none, g', u) ∧ k_rc b s (o_fin b s (o_one b s (t_fi b s p) (t_pl b s p) r 0)) g g' := by
  refine q_bs (mm := m_155) rfl (Nat.le_of_ble_eq_true rfl) rfl ?_
  refine q_step 3 5 [(0, .ref 70)] [.int (1 : Int32), .int (g 70 16)] g u (fun big n0 => sg_rm_37 big n0 g u) ?_
  refine q_ic_ne rfl (fun (hc0 : (g 70 16) = (1 : Int32)) => ?_) (fun hc0 => absurd (show (g 70 16) = (1 : Int32) from h16) hc0)
  refine q_step 1 9 [(0, .ref 70)] [.ref 70] g u (fun big n0 => sg_rm_38 big n0 g u) ?_
  have hln2 : q_BS 156 [.ref 70] g u (some (.int (4 : Int32)), g, u) := by
    have z := r_line g u hb.1 hb.2.1 h15 h14 (t_pl_b hp).1 (t_pl_b hp).2.1
    rw [t_ln_c (s := s) (fun j hj => (hb.2.2 j hj).1) (by have := t_pl_b (b := b) hp; omega), hln] at z
    exact z
  refine q_call (M2 := 156) (rest := []) (hln2) (fun _ _ => rfl) ?_
  refine q_step 9 31 [(0, .ref 70), (1, .int (4 : Int32))] [.int (2 : Int32), .int (1 : Int32), .ref 70] g u (fun big n0 => sg_rm_72 big n0 g u) ?_
  refine q_call (M2 := 154) (rest := []) (b_needs1 _ _ _) (fun _ _ => rfl) ?_
  refine q_step 7 50 [(0, .ref 70), (1, .int (4 : Int32))] [.int (5 : Int32), .int (g 70 8), .ref 70] g u (fun big n0 => sg_rm_73 big n0 g u) ?_
  refine q_ic_ge rfl (fun (hc1 : (5 : Int32) ≤ (g 70 8)) => ?_) (fun (hc1 : ¬ ((5 : Int32) ≤ (g 70 8))) => ?_)
  · refine q_step 2 59 [(0, .ref 70), (1, .int (4 : Int32))] [.int (5 : Int32), .int (0 : Int32), .ref 70] g u (fun big n0 => sg_rm_74 big n0 g u) ?_
    refine q_call (M2 := 154) (rest := []) (b_needs0 _ _ _ hf0) (fun _ _ => rfl) ?_
    refine q_step 2 66 [(0, .ref 70), (1, .int (4 : Int32))] [.int (5 : Int32)] (q_up (q_up g 70 18 (5 : Int32)) 70 19 (g 70 15)) u (fun big n0 => sg_rm_75 big n0 (q_up (q_up g 70 18 (5 : Int32)) 70 19 (g 70 15)) u) ?_
    refine q_if_ne rfl (fun hc2 => absurd (show (5 : Int32) = 0 from hc2) (by decide)) (fun (hc2 : ¬ ((5 : Int32) = 0)) => ?_)
    refine q_step 1 108 [(0, .ref 70), (1, .int (4 : Int32))] [.ref 70] (q_up (q_up g 70 18 (5 : Int32)) 70 19 (g 70 15)) u (fun big n0 => sg_rm_76 big n0 (q_up (q_up g 70 18 (5 : Int32)) 70 19 (g 70 15)) u) ?_
    refine q_call (M2 := 152) (rest := []) (r_nextf _ _ (show (0 : Int32) < 5 by decide)) (fun _ _ => rfl) ?_
    refine q_step 2 115 [(0, .ref 70), (1, .int (4 : Int32))] [.int (5 : Int32)] (q_up (q_up g 70 18 (5 : Int32)) 70 19 (g 70 15)) u (fun big n0 => sg_rm_77 big n0 (q_up (q_up g 70 18 (5 : Int32)) 70 19 (g 70 15)) u) ?_
    refine q_if_le rfl (fun hc3 => absurd (show (5 : Int32) ≤ 0 from hc3) (by decide)) (fun (hc3 : ¬ ((5 : Int32) ≤ 0)) => ?_)
    refine q_ret 1 (none, (q_up (q_up g 70 18 (5 : Int32)) 70 19 (g 70 15)), u) (fun _ _ => rfl) ?_
    have h8 : ¬ r 70 8 < 5 := by
      have e8 : g 70 8 = r 70 8 := hd.2 8 (by omega) (by omega)
      have z := hc1
      rw [e8] at z
      exact fun y => Int32.not_lt.mpr z y
    have eo : o_one b s (t_fi b s p) (t_pl b s p) r 0 = o_bad 5 (t_fi b s p) r := by
      unfold o_one
      rw [if_neg h8]
    rw [eo, o_fin_bad (by decide)]
    exact ⟨_, rfl, k_rc_bad (((k_fR_rfl g).up (by omega)).up (by omega)) (by decide) rfl h15⟩
  · refine q_step 3 59 [(0, .ref 70), (1, .int (4 : Int32))] [.int (5 : Int32), .int (1 : Int32), .ref 70] g u (fun big n0 => sg_rm_78 big n0 g u) ?_
    refine q_call (M2 := 154) (rest := []) (b_needs1 _ _ _) (fun _ _ => rfl) ?_
    refine q_step 2 66 [(0, .ref 70), (1, .int (4 : Int32))] [.int (g 70 18)] g u (fun big n0 => sg_rm_75 big n0 g u) ?_
    refine q_if_ne rfl (fun (hc2 : (g 70 18) = 0) => ?_) (fun hc2 => absurd (show (g 70 18) = 0 from hf0) hc2)
    refine q_step 4 108 [(0, .ref 70), (1, .int (4 : Int32))] [.ref 70] g u (fun big n0 => sg_rm_79 big n0 g u) ?_
    obtain ⟨g1, q1, f1, l1⟩ := r_nextb (b := b) (p := (t_pl b s p)) g u (hb.R (k_fR_rfl g)) h14 (t_pl_b hp).2.1 hf0
    refine q_call (M2 := 152) (rest := []) (q1) (fun _ _ => rfl) ?_
    refine q_step 2 115 [(0, .ref 70), (1, .int (4 : Int32))] [.int (g1 70 18)] g1 u (fun big n0 => sg_rm_77 big n0 g1 u) ?_
    refine q_if_le rfl (fun (hc3 : (g1 70 18) ≤ 0) => ?_) (fun (hc3 : ¬ ((g1 70 18) ≤ 0)) => ?_)
    · refine q_step 2 121 [(0, .ref 70), (1, .int (4 : Int32))] [.int (4 : Int32), .ref 70] g1 u (fun big n0 => sg_rm_80 big n0 g1 u) ?_
      have h8 : r 70 8 < 5 := by
        have e8 : g 70 8 = r 70 8 := hd.2 8 (by omega) (by omega)
        have z := hc1
        rw [e8] at z
        exact Int32.not_le.mp z
      have eo : o_one b s (t_fi b s p) (t_pl b s p) r 0 = i_one b s (t_pl b s p) r 0 := by
        unfold o_one
        rw [if_pos h8]
        rfl
      have hrs : k_rs b s (t_pl b s p) r g1 := ⟨(hb.R (k_fR_rfl g)).fr f1, (t_pl_b hp).2.1, l1, hd.f70 f1⟩
      obtain ⟨_, q2, g2, rfl, c2⟩ := r_lat g1 u hrs hn (k_n5 hn h8)
      refine q_call (M2 := 159) (rest := []) (q2) (fun _ _ => rfl) ?_
      rw [eo]
      exact r_tail g2 u (((hb.R (k_fR_rfl g)).fr f1).R c2.1) ⟨((k_fR_rfl g).trans f1.R).trans c2.1, c2.2⟩ _
    · refine q_ret 1 (none, g1, u) (fun _ _ => rfl) ?_
      have h8 : r 70 8 < 5 := by
        have e8 : g 70 8 = r 70 8 := hd.2 8 (by omega) (by omega)
        have z := hc1
        rw [e8] at z
        exact Int32.not_le.mp z
      have eo : o_one b s (t_fi b s p) (t_pl b s p) r 0 = i_one b s (t_pl b s p) r 0 := by
        unfold o_one
        rw [if_pos h8]
        rfl
      have l2 := l1.resolve_right (fun z => hc3 (by rw [z.2.1]; decide))
      have ew : o_one b s (t_fi b s p) (t_pl b s p) r 0 = o_bad 1 (t_fi b s (t_pl b s p)) r := by
        rw [eo]
        unfold i_one o_free
        rw [o_num0 l2.1]
      rw [ew, o_fin_bad (by decide)]
      exact ⟨_, rfl, k_rc_bad ((k_fR_rfl g).trans f1.R) (by decide) l2.2.1 l2.2.2⟩
theorem r_rl5 {b : Nat → Int32} {s p : Nat} {r : qM} (g : qM) (u : qW) (hb : k_b b s g) (hp : p ≤ s) (hf0 : g 70 18 = 0) (h14 : g 70 14 = Int32.ofNat (t_pl b s p)) (h15 : g 70 15 = Int32.ofNat (t_fi b s p)) (h16 : g 70 16 = 1) (hln : t_ln b (t_fi b s p) ((t_pl b s p) - (t_fi b s p)) = (5 : Int32)) (hd : k_dh r g) (hn : k_dn r) : ∃ R, q_BS 155 [.ref 70] g u R ∧ ∃ g', R = (none, g', u) ∧ k_rc b s (o_fin b s (o_one b s (t_fi b s p) (t_pl b s p) r 1)) g g' := by
  refine q_bs (mm := m_155) rfl (Nat.le_of_ble_eq_true rfl) rfl ?_
  refine q_step 3 5 [(0, .ref 70)] [.int (1 : Int32), .int (g 70 16)] g u (fun big n0 => sg_rm_37 big n0 g u) ?_
  refine q_ic_ne rfl (fun (hc0 : (g 70 16) = (1 : Int32)) => ?_) (fun hc0 => absurd (show (g 70 16) = (1 : Int32) from h16) hc0)
  refine q_step 1 9 [(0, .ref 70)] [.ref 70] g u (fun big n0 => sg_rm_38 big n0 g u) ?_
  have hln2 : q_BS 156 [.ref 70] g u (some (.int (5 : Int32)), g, u) := by
    have z := r_line g u hb.1 hb.2.1 h15 h14 (t_pl_b hp).1 (t_pl_b hp).2.1
    rw [t_ln_c (s := s) (fun j hj => (hb.2.2 j hj).1) (by have := t_pl_b (b := b) hp; omega), hln] at z
    exact z
  refine q_call (M2 := 156) (rest := []) (hln2) (fun _ _ => rfl) ?_
  refine q_step 9 31 [(0, .ref 70), (1, .int (5 : Int32))] [.int (2 : Int32), .int (1 : Int32), .ref 70] g u (fun big n0 => sg_rm_81 big n0 g u) ?_
  refine q_call (M2 := 154) (rest := []) (b_needs1 _ _ _) (fun _ _ => rfl) ?_
  refine q_step 10 50 [(0, .ref 70), (1, .int (5 : Int32))] [.int (5 : Int32), .int (g 70 8), .ref 70] g u (fun big n0 => sg_rm_82 big n0 g u) ?_
  refine q_ic_ge rfl (fun (hc1 : (5 : Int32) ≤ (g 70 8)) => ?_) (fun (hc1 : ¬ ((5 : Int32) ≤ (g 70 8))) => ?_)
  · refine q_step 2 59 [(0, .ref 70), (1, .int (5 : Int32))] [.int (5 : Int32), .int (0 : Int32), .ref 70] g u (fun big n0 => sg_rm_83 big n0 g u) ?_
    refine q_call (M2 := 154) (rest := []) (b_needs0 _ _ _ hf0) (fun _ _ => rfl) ?_
    refine q_step 2 66 [(0, .ref 70), (1, .int (5 : Int32))] [.int (5 : Int32)] (q_up (q_up g 70 18 (5 : Int32)) 70 19 (g 70 15)) u (fun big n0 => sg_rm_84 big n0 (q_up (q_up g 70 18 (5 : Int32)) 70 19 (g 70 15)) u) ?_
    refine q_if_ne rfl (fun hc2 => absurd (show (5 : Int32) = 0 from hc2) (by decide)) (fun (hc2 : ¬ ((5 : Int32) = 0)) => ?_)
    refine q_step 1 108 [(0, .ref 70), (1, .int (5 : Int32))] [.ref 70] (q_up (q_up g 70 18 (5 : Int32)) 70 19 (g 70 15)) u (fun big n0 => sg_rm_85 big n0 (q_up (q_up g 70 18 (5 : Int32)) 70 19 (g 70 15)) u) ?_
    refine q_call (M2 := 152) (rest := []) (r_nextf _ _ (show (0 : Int32) < 5 by decide)) (fun _ _ => rfl) ?_
    refine q_step 2 115 [(0, .ref 70), (1, .int (5 : Int32))] [.int (5 : Int32)] (q_up (q_up g 70 18 (5 : Int32)) 70 19 (g 70 15)) u (fun big n0 => sg_rm_86 big n0 (q_up (q_up g 70 18 (5 : Int32)) 70 19 (g 70 15)) u) ?_
    refine q_if_le rfl (fun hc3 => absurd (show (5 : Int32) ≤ 0 from hc3) (by decide)) (fun (hc3 : ¬ ((5 : Int32) ≤ 0)) => ?_)
    refine q_ret 1 (none, (q_up (q_up g 70 18 (5 : Int32)) 70 19 (g 70 15)), u) (fun _ _ => rfl) ?_
    have h8 : ¬ r 70 8 < 5 := by
      have e8 : g 70 8 = r 70 8 := hd.2 8 (by omega) (by omega)
      have z := hc1
      rw [e8] at z
      exact fun y => Int32.not_lt.mpr z y
    have eo : o_one b s (t_fi b s p) (t_pl b s p) r 1 = o_bad 5 (t_fi b s p) r := by
      unfold o_one
      rw [if_neg h8]
    rw [eo, o_fin_bad (by decide)]
    exact ⟨_, rfl, k_rc_bad (((k_fR_rfl g).up (by omega)).up (by omega)) (by decide) rfl h15⟩
  · refine q_step 3 59 [(0, .ref 70), (1, .int (5 : Int32))] [.int (5 : Int32), .int (1 : Int32), .ref 70] g u (fun big n0 => sg_rm_87 big n0 g u) ?_
    refine q_call (M2 := 154) (rest := []) (b_needs1 _ _ _) (fun _ _ => rfl) ?_
    refine q_step 2 66 [(0, .ref 70), (1, .int (5 : Int32))] [.int (g 70 18)] g u (fun big n0 => sg_rm_84 big n0 g u) ?_
    refine q_if_ne rfl (fun (hc2 : (g 70 18) = 0) => ?_) (fun hc2 => absurd (show (g 70 18) = 0 from hf0) hc2)
    refine q_step 4 108 [(0, .ref 70), (1, .int (5 : Int32))] [.ref 70] g u (fun big n0 => sg_rm_88 big n0 g u) ?_
    obtain ⟨g1, q1, f1, l1⟩ := r_nextb (b := b) (p := (t_pl b s p)) g u (hb.R (k_fR_rfl g)) h14 (t_pl_b hp).2.1 hf0
    refine q_call (M2 := 152) (rest := []) (q1) (fun _ _ => rfl) ?_
    refine q_step 2 115 [(0, .ref 70), (1, .int (5 : Int32))] [.int (g1 70 18)] g1 u (fun big n0 => sg_rm_86 big n0 g1 u) ?_
    refine q_if_le rfl (fun (hc3 : (g1 70 18) ≤ 0) => ?_) (fun (hc3 : ¬ ((g1 70 18) ≤ 0)) => ?_)
    · refine q_step 2 121 [(0, .ref 70), (1, .int (5 : Int32))] [.int (5 : Int32), .ref 70] g1 u (fun big n0 => sg_rm_89 big n0 g1 u) ?_
      have h8 : r 70 8 < 5 := by
        have e8 : g 70 8 = r 70 8 := hd.2 8 (by omega) (by omega)
        have z := hc1
        rw [e8] at z
        exact Int32.not_le.mp z
      have eo : o_one b s (t_fi b s p) (t_pl b s p) r 1 = i_one b s (t_pl b s p) r 1 := by
        unfold o_one
        rw [if_pos h8]
        rfl
      have hrs : k_rs b s (t_pl b s p) r g1 := ⟨(hb.R (k_fR_rfl g)).fr f1, (t_pl_b hp).2.1, l1, hd.f70 f1⟩
      obtain ⟨_, q2, g2, rfl, c2⟩ := r_lstill g1 u hrs hn (k_n5 hn h8)
      refine q_call (M2 := 159) (rest := []) (q2) (fun _ _ => rfl) ?_
      rw [eo]
      exact r_tail g2 u (((hb.R (k_fR_rfl g)).fr f1).R c2.1) ⟨((k_fR_rfl g).trans f1.R).trans c2.1, c2.2⟩ _
    · refine q_ret 1 (none, g1, u) (fun _ _ => rfl) ?_
      have h8 : r 70 8 < 5 := by
        have e8 : g 70 8 = r 70 8 := hd.2 8 (by omega) (by omega)
        have z := hc1
        rw [e8] at z
        exact Int32.not_le.mp z
      have eo : o_one b s (t_fi b s p) (t_pl b s p) r 1 = i_one b s (t_pl b s p) r 1 := by
        unfold o_one
        rw [if_pos h8]
        rfl
      have l2 := l1.resolve_right (fun z => hc3 (by rw [z.2.1]; decide))
      have ew : o_one b s (t_fi b s p) (t_pl b s p) r 1 = o_bad 1 (t_fi b s (t_pl b s p)) r := by
        rw [eo]
        unfold i_one o_free
        rw [o_num0 l2.1]
      rw [ew, o_fin_bad (by decide)]
      exact ⟨_, rfl, k_rc_bad ((k_fR_rfl g).trans f1.R) (by decide) l2.2.1 l2.2.2⟩
theorem r_rl6 {b : Nat → Int32} {s p : Nat} {r : qM} (g : qM) (u : qW) (hb : k_b b s g) (hp : p ≤ s) (hf0 : g 70 18 = 0) (h14 : g 70 14 = Int32.ofNat (t_pl b s p)) (h15 : g 70 15 = Int32.ofNat (t_fi b s p)) (h16 : g 70 16 = 1) (hln : t_ln b (t_fi b s p) ((t_pl b s p) - (t_fi b s p)) = (6 : Int32)) (hd : k_dh r g) (hn : k_dn r) : ∃ R, q_BS 155 [.ref 70] g u R ∧ ∃ g', R = (none, g', u) ∧ k_rc b s (o_fin b s (o_goal b s (t_pl b s p) r)) g g' := by
  refine q_bs (mm := m_155) rfl (Nat.le_of_ble_eq_true rfl) rfl ?_
  refine q_step 3 5 [(0, .ref 70)] [.int (1 : Int32), .int (g 70 16)] g u (fun big n0 => sg_rm_37 big n0 g u) ?_
  refine q_ic_ne rfl (fun (hc0 : (g 70 16) = (1 : Int32)) => ?_) (fun hc0 => absurd (show (g 70 16) = (1 : Int32) from h16) hc0)
  refine q_step 1 9 [(0, .ref 70)] [.ref 70] g u (fun big n0 => sg_rm_38 big n0 g u) ?_
  have hln2 : q_BS 156 [.ref 70] g u (some (.int (6 : Int32)), g, u) := by
    have z := r_line g u hb.1 hb.2.1 h15 h14 (t_pl_b hp).1 (t_pl_b hp).2.1
    rw [t_ln_c (s := s) (fun j hj => (hb.2.2 j hj).1) (by have := t_pl_b (b := b) hp; omega), hln] at z
    exact z
  refine q_call (M2 := 156) (rest := []) (hln2) (fun _ _ => rfl) ?_
  refine q_step 9 31 [(0, .ref 70), (1, .int (6 : Int32))] [.int (2 : Int32), .int (1 : Int32), .ref 70] g u (fun big n0 => sg_rm_90 big n0 g u) ?_
  refine q_call (M2 := 154) (rest := []) (b_needs1 _ _ _) (fun _ _ => rfl) ?_
  refine q_step 10 59 [(0, .ref 70), (1, .int (6 : Int32))] [.int (5 : Int32), .int (1 : Int32), .ref 70] g u (fun big n0 => sg_rm_91 big n0 g u) ?_
  refine q_call (M2 := 154) (rest := []) (b_needs1 _ _ _) (fun _ _ => rfl) ?_
  refine q_step 2 66 [(0, .ref 70), (1, .int (6 : Int32))] [.int (g 70 18)] g u (fun big n0 => sg_rm_92 big n0 g u) ?_
  refine q_if_ne rfl (fun (hc1 : (g 70 18) = 0) => ?_) (fun hc1 => absurd (show (g 70 18) = 0 from hf0) hc1)
  refine q_step 4 108 [(0, .ref 70), (1, .int (6 : Int32))] [.ref 70] g u (fun big n0 => sg_rm_93 big n0 g u) ?_
  obtain ⟨g1, q1, f1, l1⟩ := r_nextb (b := b) (p := (t_pl b s p)) g u (hb.R (k_fR_rfl g)) h14 (t_pl_b hp).2.1 hf0
  refine q_call (M2 := 152) (rest := []) (q1) (fun _ _ => rfl) ?_
  refine q_step 2 115 [(0, .ref 70), (1, .int (6 : Int32))] [.int (g1 70 18)] g1 u (fun big n0 => sg_rm_94 big n0 g1 u) ?_
  refine q_if_le rfl (fun (hc2 : (g1 70 18) ≤ 0) => ?_) (fun (hc2 : ¬ ((g1 70 18) ≤ 0)) => ?_)
  · refine q_step 2 121 [(0, .ref 70), (1, .int (6 : Int32))] [.int (6 : Int32), .ref 70] g1 u (fun big n0 => sg_rm_95 big n0 g1 u) ?_
    have eo : o_goal b s (t_pl b s p) r = o_goal b s (t_pl b s p) r := rfl
    have hrs : k_rs b s (t_pl b s p) r g1 := ⟨(hb.R (k_fR_rfl g)).fr f1, (t_pl_b hp).2.1, l1, hd.f70 f1⟩
    obtain ⟨_, q2, g2, rfl, c2⟩ := r_lgoal g1 u hrs hn
    refine q_call (M2 := 159) (rest := []) (q2) (fun _ _ => rfl) ?_
    rw [eo]
    exact r_tail g2 u (((hb.R (k_fR_rfl g)).fr f1).R c2.1) ⟨((k_fR_rfl g).trans f1.R).trans c2.1, c2.2⟩ _
  · refine q_ret 1 (none, g1, u) (fun _ _ => rfl) ?_
    have eo : o_goal b s (t_pl b s p) r = o_goal b s (t_pl b s p) r := rfl
    have l2 := l1.resolve_right (fun z => hc2 (by rw [z.2.1]; decide))
    have ew : o_goal b s (t_pl b s p) r = o_bad 1 (t_fi b s (t_pl b s p)) r := by
      rw [eo]
      unfold o_goal
      rw [o_num0 l2.1]
    rw [ew, o_fin_bad (by decide)]
    exact ⟨_, rfl, k_rc_bad ((k_fR_rfl g).trans f1.R) (by decide) l2.2.1 l2.2.2⟩
theorem r_rln {b : Nat → Int32} {s p : Nat} {r : qM} (g : qM) (u : qW) (hb : k_b b s g) (hp : p ≤ s) (hf0 : g 70 18 = 0) (h14 : g 70 14 = Int32.ofNat (t_pl b s p)) (h15 : g 70 15 = Int32.ofNat (t_fi b s p)) (h16 : g 70 16 = 1) (hln : t_ln b (t_fi b s p) ((t_pl b s p) - (t_fi b s p)) = (Int32.ofInt (-4))) (hd : k_dh r g) (hn : k_dn r) : ∃ R, q_BS 155 [.ref 70] g u R ∧ ∃ g', R = (none, g', u) ∧ k_rc b s (o_fin b s (o_bad 2 (t_fi b s p) r)) g g' := by
  refine q_bs (mm := m_155) rfl (Nat.le_of_ble_eq_true rfl) rfl ?_
  refine q_step 3 5 [(0, .ref 70)] [.int (1 : Int32), .int (g 70 16)] g u (fun big n0 => sg_rm_37 big n0 g u) ?_
  refine q_ic_ne rfl (fun (hc0 : (g 70 16) = (1 : Int32)) => ?_) (fun hc0 => absurd (show (g 70 16) = (1 : Int32) from h16) hc0)
  refine q_step 1 9 [(0, .ref 70)] [.ref 70] g u (fun big n0 => sg_rm_38 big n0 g u) ?_
  have hln2 : q_BS 156 [.ref 70] g u (some (.int (Int32.ofInt (-4))), g, u) := by
    have z := r_line g u hb.1 hb.2.1 h15 h14 (t_pl_b hp).1 (t_pl_b hp).2.1
    rw [t_ln_c (s := s) (fun j hj => (hb.2.2 j hj).1) (by have := t_pl_b (b := b) hp; omega), hln] at z
    exact z
  refine q_call (M2 := 156) (rest := []) (hln2) (fun _ _ => rfl) ?_
  refine q_step 8 31 [(0, .ref 70), (1, .int (Int32.ofInt (-4)))] [.int (2 : Int32), .int (0 : Int32), .ref 70] g u (fun big n0 => sg_rm_96 big n0 g u) ?_
  refine q_call (M2 := 154) (rest := []) (b_needs0 _ _ _ hf0) (fun _ _ => rfl) ?_
  refine q_step 10 59 [(0, .ref 70), (1, .int (Int32.ofInt (-4)))] [.int (5 : Int32), .int (1 : Int32), .ref 70] (q_up (q_up g 70 18 (2 : Int32)) 70 19 (g 70 15)) u (fun big n0 => sg_rm_97 big n0 (q_up (q_up g 70 18 (2 : Int32)) 70 19 (g 70 15)) u) ?_
  refine q_call (M2 := 154) (rest := []) (b_needs1 _ _ _) (fun _ _ => rfl) ?_
  refine q_step 2 66 [(0, .ref 70), (1, .int (Int32.ofInt (-4)))] [.int (2 : Int32)] (q_up (q_up g 70 18 (2 : Int32)) 70 19 (g 70 15)) u (fun big n0 => sg_rm_98 big n0 (q_up (q_up g 70 18 (2 : Int32)) 70 19 (g 70 15)) u) ?_
  refine q_if_ne rfl (fun hc1 => absurd (show (2 : Int32) = 0 from hc1) (by decide)) (fun (hc1 : ¬ ((2 : Int32) = 0)) => ?_)
  refine q_step 1 108 [(0, .ref 70), (1, .int (Int32.ofInt (-4)))] [.ref 70] (q_up (q_up g 70 18 (2 : Int32)) 70 19 (g 70 15)) u (fun big n0 => sg_rm_99 big n0 (q_up (q_up g 70 18 (2 : Int32)) 70 19 (g 70 15)) u) ?_
  refine q_call (M2 := 152) (rest := []) (r_nextf _ _ (show (0 : Int32) < 2 by decide)) (fun _ _ => rfl) ?_
  refine q_step 2 115 [(0, .ref 70), (1, .int (Int32.ofInt (-4)))] [.int (2 : Int32)] (q_up (q_up g 70 18 (2 : Int32)) 70 19 (g 70 15)) u (fun big n0 => sg_rm_100 big n0 (q_up (q_up g 70 18 (2 : Int32)) 70 19 (g 70 15)) u) ?_
  refine q_if_le rfl (fun hc2 => absurd (show (2 : Int32) ≤ 0 from hc2) (by decide)) (fun (hc2 : ¬ ((2 : Int32) ≤ 0)) => ?_)
  refine q_ret 1 (none, (q_up (q_up g 70 18 (2 : Int32)) 70 19 (g 70 15)), u) (fun _ _ => rfl) ?_
  rw [o_fin_bad (by decide)]
  exact ⟨_, rfl, k_rc_bad (((k_fR_rfl g).up (by omega)).up (by omega)) (by decide) rfl h15⟩
theorem r_rlx {b : Nat → Int32} {s p : Nat} {r : qM} (g : qM) (u : qW) (hb : k_b b s g) (hp : p ≤ s) (hf0 : g 70 18 = 0) (h14 : g 70 14 = Int32.ofNat (t_pl b s p)) (h15 : g 70 15 = Int32.ofNat (t_fi b s p)) (h16 : ¬ g 70 16 = 1) (hd : k_dh r g) (hn : k_dn r) : ∃ R, q_BS 155 [.ref 70] g u R ∧ ∃ g', R = (none, g', u) ∧ k_rc b s (o_bad 2 (t_fi b s p) r) g g' := by
  refine q_bs (mm := m_155) rfl (Nat.le_of_ble_eq_true rfl) rfl ?_
  refine q_step 3 5 [(0, .ref 70)] [.int (1 : Int32), .int (g 70 16)] g u (fun big n0 => sg_rm_37 big n0 g u) ?_
  refine q_ic_ne rfl (fun hc0 => absurd (show (g 70 16) = (1 : Int32) from hc0) (h16)) (fun (hc0 : ¬ ((g 70 16) = (1 : Int32))) => ?_)
  refine q_step 8 31 [(0, .ref 70), (1, .int (Int8.toInt32 (Int8.ofInt (-4))))] [.int (2 : Int32), .int (0 : Int32), .ref 70] g u (fun big n0 => sg_rm_101 big n0 g u) ?_
  refine q_call (M2 := 154) (rest := []) (b_needs0 _ _ _ hf0) (fun _ _ => rfl) ?_
  refine q_step 10 59 [(0, .ref 70), (1, .int (Int8.toInt32 (Int8.ofInt (-4))))] [.int (5 : Int32), .int (1 : Int32), .ref 70] (q_up (q_up g 70 18 (2 : Int32)) 70 19 (g 70 15)) u (fun big n0 => sg_rm_102 big n0 (q_up (q_up g 70 18 (2 : Int32)) 70 19 (g 70 15)) u) ?_
  refine q_call (M2 := 154) (rest := []) (b_needs1 _ _ _) (fun _ _ => rfl) ?_
  refine q_step 2 66 [(0, .ref 70), (1, .int (Int8.toInt32 (Int8.ofInt (-4))))] [.int (2 : Int32)] (q_up (q_up g 70 18 (2 : Int32)) 70 19 (g 70 15)) u (fun big n0 => sg_rm_103 big n0 (q_up (q_up g 70 18 (2 : Int32)) 70 19 (g 70 15)) u) ?_
  refine q_if_ne rfl (fun hc1 => absurd (show (2 : Int32) = 0 from hc1) (by decide)) (fun (hc1 : ¬ ((2 : Int32) = 0)) => ?_)
  refine q_step 1 108 [(0, .ref 70), (1, .int (Int8.toInt32 (Int8.ofInt (-4))))] [.ref 70] (q_up (q_up g 70 18 (2 : Int32)) 70 19 (g 70 15)) u (fun big n0 => sg_rm_104 big n0 (q_up (q_up g 70 18 (2 : Int32)) 70 19 (g 70 15)) u) ?_
  refine q_call (M2 := 152) (rest := []) (r_nextf _ _ (show (0 : Int32) < 2 by decide)) (fun _ _ => rfl) ?_
  refine q_step 2 115 [(0, .ref 70), (1, .int (Int8.toInt32 (Int8.ofInt (-4))))] [.int (2 : Int32)] (q_up (q_up g 70 18 (2 : Int32)) 70 19 (g 70 15)) u (fun big n0 => sg_rm_105 big n0 (q_up (q_up g 70 18 (2 : Int32)) 70 19 (g 70 15)) u) ?_
  refine q_if_le rfl (fun hc2 => absurd (show (2 : Int32) ≤ 0 from hc2) (by decide)) (fun (hc2 : ¬ ((2 : Int32) ≤ 0)) => ?_)
  refine q_ret 1 (none, (q_up (q_up g 70 18 (2 : Int32)) 70 19 (g 70 15)), u) (fun _ _ => rfl) ?_
  exact ⟨_, rfl, k_rc_bad (((k_fR_rfl g).up (by omega)).up (by omega)) (by decide) rfl h15⟩
end
section
/-! TEXT of the reference. -/
def t_d0 (j : Nat) : Int32 := if (15 ≤ j ∧ j < 20) ∨ j < 5 then i_none else 0
theorem t_fi4 {b : Nat → Int32} {s p : Nat} (hp : p ≤ s) (h : t_ki b s p = 4) : t_fi b s p = s := by
  have z := (t_fi_b (b := b) hp).2
  rcases Nat.lt_or_ge (t_fi b s p) s with q | q
  · exfalso
    have e : t_k0 b s p = t_kd (b (t_fi b s p)) := by unfold t_k0; rw [if_neg (by omega)]
    unfold t_ki at h
    rw [e] at h
    rcases t_kd_4 (b (t_fi b s p)) with y | y | y | y <;> rw [y] at h <;> revert h
    · rw [if_neg (by decide)]; decide
    · rw [if_neg (by decide)]; decide
    · rw [if_pos rfl]; split <;> decide
    · rw [if_neg (by decide)]; decide
  · omega
/-- behind the loop, the reference -/
def k_ar (s : Nat) (o : tO × Nat) (g0 g' : qM) (v : Int32) : Prop := k_fR g0 g' ∧ (¬ o.1.1 = 0 → 0 < o.1.1 ∧ g' 70 18 = o.1.1 ∧ g' 70 19 = Int32.ofNat o.1.2.1) ∧ (o.1.1 = 0 → g' 70 18 = 0 ∧ k_dh o.1.2.2.2 g' ∧ g' 70 15 = Int32.ofNat s ∧ v = Int32.ofNat o.2)
theorem sg_rx_1 (big : Nat → List Value → qM → qW → qR) (n0 : Nat) (G : qM) (U : qW) (v0 : Int32) : qm_run pm_m big m_146 (n0 + 2) 2 [(0, .ref 70), (1, .int v0)] [] G U = qm_run pm_m big m_146 n0 5 [(0, .ref 70), (1, .int v0)] [.int (44 : Int32), .int v0] G U := rfl
theorem sg_rx_2 (big : Nat → List Value → qM → qW → qR) (n0 : Nat) (G : qM) (U : qW) (v0 : Int32) : qm_run pm_m big m_146 (n0 + 5) 8 [(0, .ref 70), (1, .int v0)] [] G U = qm_run pm_m big m_146 n0 16 [(0, .ref 70), (1, .int v0)] [.int (15 : Int32), .int v0, .int v0, .ref 73] G U := rfl
theorem sg_rx_3 (big : Nat → List Value → qM → qW → qR) (n0 : Nat) (G : qM) (U : qW) (v0 : Int32) (v1 : Int32) : qm_run pm_m big m_146 (n0 + 2) 25 [(0, .ref 70), (1, .int v0)] [.int v1, .ref 73] G U = qm_run pm_m big m_146 n0 27 [(0, .ref 70), (1, .int v0)] [.int (5 : Int32), .int v0, .int v1, .ref 73] G U := rfl
theorem sg_rx_4 (big : Nat → List Value → qM → qW → qR) (n0 : Nat) (G : qM) (U : qW) (v0 : Int32) (v1 : Int32) : qm_run pm_m big m_146 (n0 + 1) 35 [(0, .ref 70), (1, .int v0)] [.int v1, .ref 73] G U = qm_run pm_m big m_146 n0 36 [(0, .ref 70), (1, .int v0)] [.int (0 : Int32), .int v1, .ref 73] G U := rfl
theorem sg_rx_5 (big : Nat → List Value → qM → qW → qR) (n0 : Nat) (G : qM) (U : qW) (v0 : Int32) : qm_run pm_m big m_146 (n0 + 2) 37 [(0, .ref 70), (1, .int v0)] [] G U = qm_run pm_m big m_146 n0 2 [(0, .ref 70), (1, .int (v0 + (1 : Int32)))] [] G U := rfl
theorem sg_rx_6 (big : Nat → List Value → qM → qW → qR) (n0 : Nat) (G : qM) (U : qW) (v0 : Int32) (v1 : Int32) : qm_run pm_m big m_146 (n0 + 2) 30 [(0, .ref 70), (1, .int v0)] [.int v1, .ref 73] G U = qm_run pm_m big m_146 n0 36 [(0, .ref 70), (1, .int v0)] [.int (Int8.toInt32 (Int8.ofInt (-4))), .int v1, .ref 73] G U := rfl
theorem sg_rx_7 (big : Nat → List Value → qM → qW → qR) (n0 : Nat) (G : qM) (U : qW) (v0 : Int32) (v1 : Int32) : qm_run pm_m big m_146 (n0 + 2) 19 [(0, .ref 70), (1, .int v0)] [.int v1, .ref 73] G U = qm_run pm_m big m_146 n0 22 [(0, .ref 70), (1, .int v0)] [.int (20 : Int32), .int v0, .int v1, .ref 73] G U := rfl
theorem sg_rx_8 (big : Nat → List Value → qM → qW → qR) (n0 : Nat) (G : qM) (U : qW) : qm_run pm_m big m_146 (n0 + 2) 0 [(0, .ref 70)] [] G U = qm_run pm_m big m_146 n0 2 [(0, .ref 70), (1, .int (0 : Int32))] [] G U := rfl
theorem sg_rx_9 (big : Nat → List Value → qM → qW → qR) (n0 : Nat) (G : qM) (U : qW) (v0 : Int32) : qm_run pm_m big m_146 (n0 + 40) 43 [(0, .ref 70), (1, .int v0)] [] G U = qm_run pm_m big m_146 n0 60 [(0, .ref 70), (1, .int (2 : Int32))] [.int (2 : Int32), .int (4 : Int32), .int (23 : Int32), .ref 73] (q_up (q_up G 73 21 (4 : Int32)) 73 22 (3 : Int32)) U := rfl
theorem sg_rx_10 (big : Nat → List Value → qM → qW → qR) (n0 : Nat) (G : qM) (U : qW) (v0 : Int32) : qm_run pm_m big m_147 (n0 + 2) 2 [(0, .ref 70), (1, .int v0)] [] G U = qm_run pm_m big m_147 n0 5 [(0, .ref 70), (1, .int v0)] [.int (44 : Int32), .int v0] G U := rfl
theorem sg_rx_11 (big : Nat → List Value → qM → qW → qR) (n0 : Nat) (G : qM) (U : qW) (v0 : Int32) : qm_run pm_m big m_147 (n0 + 6) 8 [(0, .ref 70), (1, .int v0)] [] G U = qm_run pm_m big m_147 n0 18 [(0, .ref 70), (1, .int v0)] [.int v0, .ref 73, .int v0, .ref 71] G U := rfl
theorem sg_rx_12 (big : Nat → List Value → qM → qW → qR) (n0 : Nat) (G : qM) (U : qW) (v0 : Int32) : qm_run pm_m big m_147 (n0 + 2) 20 [(0, .ref 70), (1, .int v0)] [] G U = qm_run pm_m big m_147 n0 2 [(0, .ref 70), (1, .int (v0 + (1 : Int32)))] [] G U := rfl
theorem sg_rx_13 (big : Nat → List Value → qM → qW → qR) (n0 : Nat) (G : qM) (U : qW) : qm_run pm_m big m_147 (n0 + 2) 0 [(0, .ref 70)] [] G U = qm_run pm_m big m_147 n0 2 [(0, .ref 70), (1, .int (0 : Int32))] [] G U := rfl
theorem sg_rx_14 (big : Nat → List Value → qM → qW → qR) (n0 : Nat) (G : qM) (U : qW) (v0 : Int32) : qm_run pm_m big m_151 (n0 + 2) 20 [(0, .ref 70), (1, .int v0)] [] G U = qm_run pm_m big m_151 n0 24 [(0, .ref 70), (1, .int v0)] [.int (G 70 18)] G U := rfl
theorem sg_rx_15 (big : Nat → List Value → qM → qW → qR) (n0 : Nat) (G : qM) (U : qW) (v0 : Int32) : qm_run pm_m big m_151 (n0 + 2) 27 [(0, .ref 70), (1, .int v0)] [] G U = qm_run pm_m big m_151 n0 31 [(0, .ref 70), (1, .int v0)] [.int (G 70 16)] G U := rfl
theorem sg_rx_16 (big : Nat → List Value → qM → qW → qR) (n0 : Nat) (G : qM) (U : qW) (v0 : Int32) : qm_run pm_m big m_151 (n0 + 1) 34 [(0, .ref 70), (1, .int v0)] [] G U = qm_run pm_m big m_151 n0 35 [(0, .ref 70), (1, .int v0)] [.ref 70] G U := rfl
theorem sg_rx_17 (big : Nat → List Value → qM → qW → qR) (n0 : Nat) (G : qM) (U : qW) (v0 : Int32) : qm_run pm_m big m_151 (n0 + 2) 38 [(0, .ref 70), (1, .int v0)] [] G U = qm_run pm_m big m_151 n0 20 [(0, .ref 70), (1, .int (v0 + (1 : Int32)))] [] G U := rfl
theorem sg_rx_18 (big : Nat → List Value → qM → qW → qR) (n0 : Nat) (G : qM) (U : qW) (v0 : Int32) : qm_run pm_m big m_151 (n0 + 2) 44 [(0, .ref 70), (1, .int v0)] [] G U = qm_run pm_m big m_151 n0 48 [(0, .ref 70), (1, .int v0)] [.int (G 70 18)] G U := rfl
theorem sg_rx_19 (big : Nat → List Value → qM → qW → qR) (n0 : Nat) (G : qM) (U : qW) (v0 : Int32) : qm_run pm_m big m_151 (n0 + 8) 51 [(0, .ref 70), (1, .int v0)] [] G U = qm_run pm_m big m_151 n0 65 [(0, .ref 70), (1, .int v0)] [.int ((G 70 6) * (G 70 7)), .int (G 70 10), .ref 70] G U := rfl
theorem sg_rx_20 (big : Nat → List Value → qM → qW → qR) (n0 : Nat) (G : qM) (U : qW) (v0 : Int32) : qm_run pm_m big m_151 (n0 + 2) 83 [(0, .ref 70), (1, .int v0)] [.ref 70] G U = qm_run pm_m big m_151 n0 86 [(0, .ref 70), (1, .int v0)] [.int (6 : Int32), .int (0 : Int32), .ref 70] G U := rfl
theorem sg_rx_21 (big : Nat → List Value → qM → qW → qR) (n0 : Nat) (G : qM) (U : qW) (v0 : Int32) : qm_run pm_m big m_151 (n0 + 5) 89 [(0, .ref 70), (1, .int v0)] [] G U = qm_run pm_m big m_151 n0 98 [(0, .ref 70), (1, .int v0)] [.int (G 70 18)] (q_up G 70 13 (0 : Int32)) U := rfl
theorem sg_rx_22 (big : Nat → List Value → qM → qW → qR) (n0 : Nat) (G : qM) (U : qW) (v0 : Int32) : qm_run pm_m big m_151 (n0 + 4) 68 [(0, .ref 70), (1, .int v0)] [.ref 70] G U = qm_run pm_m big m_151 n0 76 [(0, .ref 70), (1, .int v0)] [.int (G 70 8), .int (G 70 11), .ref 70] G U := rfl
theorem sg_rx_23 (big : Nat → List Value → qM → qW → qR) (n0 : Nat) (G : qM) (U : qW) (v0 : Int32) : qm_run pm_m big m_151 (n0 + 3) 79 [(0, .ref 70), (1, .int v0)] [.ref 70] G U = qm_run pm_m big m_151 n0 86 [(0, .ref 70), (1, .int v0)] [.int (6 : Int32), .int (1 : Int32), .ref 70] G U := rfl
theorem sg_rx_24 (big : Nat → List Value → qM → qW → qR) (n0 : Nat) (G : qM) (U : qW) (v0 : Int32) : qm_run pm_m big m_151 (n0 + 1) 109 [(0, .ref 70), (1, .int v0)] [] G U = qm_run pm_m big m_151 n0 110 [(0, .ref 70), (1, .int v0)] [.ref 70] G U := rfl
theorem sg_rx_25 (big : Nat → List Value → qM → qW → qR) (n0 : Nat) (G : qM) (U : qW) : qm_run pm_m big m_151 (n0 + 9) 0 [(0, .ref 70)] [] G U = qm_run pm_m big m_151 n0 13 [(0, .ref 70), (1, .int (0 : Int32))] [.ref 70] (q_up (q_up G 70 18 (0 : Int32)) 70 14 (0 : Int32)) U := rfl
theorem sg_rx_26 (big : Nat → List Value → qM → qW → qR) (n0 : Nat) (G : qM) (U : qW) : qm_run pm_m big m_151 (n0 + 1) 16 [(0, .ref 70), (1, .int (0 : Int32))] [] G U = qm_run pm_m big m_151 n0 17 [(0, .ref 70), (1, .int (0 : Int32))] [.ref 70] G U := rfl
theorem r_rline {b : Nat → Int32} {s p : Nat} {r : qM} (g : qM) (u : qW) (hb : k_b b s g) (hp : p ≤ s) (hl : k_la b s p g) (hf0 : g 70 18 = 0) (h4 : ¬ t_ki b s p = 4) (hd : k_dh r g) (hn : k_dn r) : ∃ g', q_BS 155 [.ref 70] g u (none, g', u) ∧ k_rc b s (o_fin b s (o_line b s (t_fi b s p) (t_pl b s p) (t_ki b s p) r)) g g' := by
  obtain ⟨k0, _, z14, z15, z16, _⟩ := hl.resolve_left (fun z => absurd (hf0.symm.trans z.2.1) (by decide))
  rw [if_neg h4] at z16
  by_cases k1 : (t_ki b s p) = 1
  · have h16 : g 70 16 = 1 := z16.trans k1
    rcases t_ln_rng (b := b) (f := (t_fi b s p)) (l := (t_pl b s p) - (t_fi b s p)) with e | e | e | e | e | e | e | e
    · have eo : o_line b s (t_fi b s p) (t_pl b s p) (t_ki b s p) r = o_town b s (t_fi b s p) (t_pl b s p) r := by
        unfold o_line
        rw [if_neg k0, if_pos k1, e, if_pos rfl]
      obtain ⟨_, q, g', rfl, h⟩ := r_rl0 g u hb hp hf0 z14 z15 h16 e hd hn
      rw [eo]
      exact ⟨g', q, h⟩
    · have eo : o_line b s (t_fi b s p) (t_pl b s p) (t_ki b s p) r = o_pull b s (t_fi b s p) (t_pl b s p) r := by
        unfold o_line
        rw [if_neg k0, if_pos k1, e, if_neg (by decide), if_pos rfl]
      obtain ⟨_, q, g', rfl, h⟩ := r_rl1 g u hb hp hf0 z14 z15 h16 e hd hn
      rw [eo]
      exact ⟨g', q, h⟩
    · have eo : o_line b s (t_fi b s p) (t_pl b s p) (t_ki b s p) r = o_press b s (t_fi b s p) (t_pl b s p) r := by
        unfold o_line
        rw [if_neg k0, if_pos k1, e, if_neg (by decide), if_neg (by decide), if_pos rfl]
      obtain ⟨_, q, g', rfl, h⟩ := r_rl2 g u hb hp hf0 z14 z15 h16 e hd hn
      rw [eo]
      exact ⟨g', q, h⟩
    · have eo : o_line b s (t_fi b s p) (t_pl b s p) (t_ki b s p) r = o_wall b s (t_pl b s p) r := by
        unfold o_line
        rw [if_neg k0, if_pos k1, e, if_neg (by decide), if_neg (by decide), if_neg (by decide), if_pos rfl]
      obtain ⟨_, q, g', rfl, h⟩ := r_rl3 g u hb hp hf0 z14 z15 h16 e hd hn
      rw [eo]
      exact ⟨g', q, h⟩
    · have eo : o_line b s (t_fi b s p) (t_pl b s p) (t_ki b s p) r = o_one b s (t_fi b s p) (t_pl b s p) r 0 := by
        unfold o_line
        rw [if_neg k0, if_pos k1, e, if_neg (by decide), if_neg (by decide), if_neg (by decide), if_neg (by decide), if_pos rfl]
      obtain ⟨_, q, g', rfl, h⟩ := r_rl4 g u hb hp hf0 z14 z15 h16 e hd hn
      rw [eo]
      exact ⟨g', q, h⟩
    · have eo : o_line b s (t_fi b s p) (t_pl b s p) (t_ki b s p) r = o_one b s (t_fi b s p) (t_pl b s p) r 1 := by
        unfold o_line
        rw [if_neg k0, if_pos k1, e, if_neg (by decide), if_neg (by decide), if_neg (by decide), if_neg (by decide), if_neg (by decide), if_pos rfl]
      obtain ⟨_, q, g', rfl, h⟩ := r_rl5 g u hb hp hf0 z14 z15 h16 e hd hn
      rw [eo]
      exact ⟨g', q, h⟩
    · have eo : o_line b s (t_fi b s p) (t_pl b s p) (t_ki b s p) r = o_goal b s (t_pl b s p) r := by
        unfold o_line
        rw [if_neg k0, if_pos k1, e, if_neg (by decide), if_neg (by decide), if_neg (by decide), if_neg (by decide), if_neg (by decide), if_neg (by decide), if_pos rfl]
      obtain ⟨_, q, g', rfl, h⟩ := r_rl6 g u hb hp hf0 z14 z15 h16 e hd hn
      rw [eo]
      exact ⟨g', q, h⟩
    · have eo : o_line b s (t_fi b s p) (t_pl b s p) (t_ki b s p) r = o_bad 2 (t_fi b s p) r := by
        unfold o_line
        rw [if_neg k0, if_pos k1, e, if_neg (by decide), if_neg (by decide), if_neg (by decide), if_neg (by decide), if_neg (by decide), if_neg (by decide), if_neg (by decide)]
      obtain ⟨_, q, g', rfl, h⟩ := r_rln g u hb hp hf0 z14 z15 h16 e hd hn
      rw [eo]
      exact ⟨g', q, h⟩
  · have eo : o_line b s (t_fi b s p) (t_pl b s p) (t_ki b s p) r = o_bad 2 (t_fi b s p) r := by
      unfold o_line
      rw [if_neg k0, if_neg k1]
    obtain ⟨_, q, g', rfl, h⟩ := r_rlx g u hb hp hf0 z14 z15 (fun z => k1 (z16.symm.trans z)) hd hn
    rw [eo, o_fin_bad (by decide)]
    exact ⟨g', q, h⟩
theorem fd_l (g : qM) (u : qW) {Q : Option Value × qM × qW → Prop} (hQ : q_EV m_146 43 [(0, .ref 70), (1, .int (Int32.ofNat 44))] [] (s_row_ 73 t_d0 44 g) u Q) : ∀ k i, i + k = 44 → q_EV m_146 2 [(0, .ref 70), (1, .int (Int32.ofNat i))] [] (s_row_ 73 t_d0 i g) u Q := by
  intro k
  induction k with
  | zero =>
    intro i hi
    have e : i = 44 := by omega
    subst e
    refine q_step 2 5 [(0, .ref 70), (1, .int (Int32.ofNat 44))] [.int (44 : Int32), .int (Int32.ofNat 44)] (s_row_ 73 t_d0 44 g) u (fun big n0 => sg_rx_1 big n0 (s_row_ 73 t_d0 44 g) u (Int32.ofNat 44)) ?_
    refine q_ic_ge rfl (fun (hc0 : (44 : Int32) ≤ (Int32.ofNat 44)) => ?_) (fun hc0 => absurd (show (44 : Int32) ≤ (Int32.ofNat 44) from by decide) hc0)
    exact hQ
  | succ k ih =>
    intro i hi
    refine q_step 2 5 [(0, .ref 70), (1, .int (Int32.ofNat i))] [.int (44 : Int32), .int (Int32.ofNat i)] (s_row_ 73 t_d0 i g) u (fun big n0 => sg_rx_1 big n0 (s_row_ 73 t_d0 i g) u (Int32.ofNat i)) ?_
    refine q_ic_ge rfl (fun hc0 => absurd (show (44 : Int32) ≤ (Int32.ofNat i) from hc0) (fun z => by rw [show (44 : Int32) = Int32.ofNat 44 from rfl, q_le (by omega) (by omega)] at z; omega)) (fun (hc0 : ¬ ((44 : Int32) ≤ (Int32.ofNat i))) => ?_)
    refine q_step 5 16 [(0, .ref 70), (1, .int (Int32.ofNat i))] [.int (15 : Int32), .int (Int32.ofNat i), .int (Int32.ofNat i), .ref 73] (s_row_ 73 t_d0 i g) u (fun big n0 => sg_rx_2 big n0 (s_row_ 73 t_d0 i g) u (Int32.ofNat i)) ?_
    refine q_ic_lt rfl (fun (hc1 : (Int32.ofNat i) < (15 : Int32)) => ?_) (fun (hc1 : ¬ ((Int32.ofNat i) < (15 : Int32))) => ?_)
    · refine q_step 2 27 [(0, .ref 70), (1, .int (Int32.ofNat i))] [.int (5 : Int32), .int (Int32.ofNat i), .int (Int32.ofNat i), .ref 73] (s_row_ 73 t_d0 i g) u (fun big n0 => sg_rx_3 big n0 (s_row_ 73 t_d0 i g) u (Int32.ofNat i) (Int32.ofNat i)) ?_
      refine q_ic_ge rfl (fun (hc2 : (5 : Int32) ≤ (Int32.ofNat i)) => ?_) (fun (hc2 : ¬ ((5 : Int32) ≤ (Int32.ofNat i))) => ?_)
      · refine q_step 1 36 [(0, .ref 70), (1, .int (Int32.ofNat i))] [.int (0 : Int32), .int (Int32.ofNat i), .ref 73] (s_row_ 73 t_d0 i g) u (fun big n0 => sg_rx_4 big n0 (s_row_ 73 t_d0 i g) u (Int32.ofNat i) (Int32.ofNat i)) ?_
        refine q_iast (j := i) (q_ixn (by omega) (by omega)) rfl rfl ?_
        refine q_step 2 2 [(0, .ref 70), (1, .int ((Int32.ofNat i) + (1 : Int32)))] [] (q_up (s_row_ 73 t_d0 i g) 73 i (0 : Int32)) u (fun big n0 => sg_rx_5 big n0 (q_up (s_row_ 73 t_d0 i g) 73 i (0 : Int32)) u (Int32.ofNat i)) ?_
        have d1 : i < 15 := by
          have z := hc1
          rw [show (15 : Int32) = Int32.ofNat 15 from rfl, q_lt (by omega) (by omega)] at z
          exact z
        have d2 : 5 ≤ i := by
          have z := hc2
          rw [show (5 : Int32) = Int32.ofNat 5 from rfl, q_le (by omega) (by omega)] at z
          exact z
        have e : t_d0 i = (0 : Int32) := by
          unfold t_d0
          rw [if_neg (by omega)]
        have z := ih (i + 1) (by omega)
        rw [← s_row_s, e] at z
        rw [q_succ]
        exact z
      · refine q_step 2 36 [(0, .ref 70), (1, .int (Int32.ofNat i))] [.int (Int8.toInt32 (Int8.ofInt (-4))), .int (Int32.ofNat i), .ref 73] (s_row_ 73 t_d0 i g) u (fun big n0 => sg_rx_6 big n0 (s_row_ 73 t_d0 i g) u (Int32.ofNat i) (Int32.ofNat i)) ?_
        refine q_iast (j := i) (q_ixn (by omega) (by omega)) rfl rfl ?_
        refine q_step 2 2 [(0, .ref 70), (1, .int ((Int32.ofNat i) + (1 : Int32)))] [] (q_up (s_row_ 73 t_d0 i g) 73 i (Int8.toInt32 (Int8.ofInt (-4)))) u (fun big n0 => sg_rx_5 big n0 (q_up (s_row_ 73 t_d0 i g) 73 i (Int8.toInt32 (Int8.ofInt (-4)))) u (Int32.ofNat i)) ?_
        have d1 : i < 15 := by
          have z := hc1
          rw [show (15 : Int32) = Int32.ofNat 15 from rfl, q_lt (by omega) (by omega)] at z
          exact z
        have d2 : ¬ 5 ≤ i := by
          have z := hc2
          rw [show (5 : Int32) = Int32.ofNat 5 from rfl, q_le (by omega) (by omega)] at z
          exact z
        have e : t_d0 i = (Int8.toInt32 (Int8.ofInt (-4))) := by
          unfold t_d0
          rw [if_pos (by omega)]
        have z := ih (i + 1) (by omega)
        rw [← s_row_s, e] at z
        rw [q_succ]
        exact z
    · refine q_step 2 22 [(0, .ref 70), (1, .int (Int32.ofNat i))] [.int (20 : Int32), .int (Int32.ofNat i), .int (Int32.ofNat i), .ref 73] (s_row_ 73 t_d0 i g) u (fun big n0 => sg_rx_7 big n0 (s_row_ 73 t_d0 i g) u (Int32.ofNat i) (Int32.ofNat i)) ?_
      refine q_ic_lt rfl (fun (hc2 : (Int32.ofNat i) < (20 : Int32)) => ?_) (fun (hc2 : ¬ ((Int32.ofNat i) < (20 : Int32))) => ?_)
      · refine q_step 2 36 [(0, .ref 70), (1, .int (Int32.ofNat i))] [.int (Int8.toInt32 (Int8.ofInt (-4))), .int (Int32.ofNat i), .ref 73] (s_row_ 73 t_d0 i g) u (fun big n0 => sg_rx_6 big n0 (s_row_ 73 t_d0 i g) u (Int32.ofNat i) (Int32.ofNat i)) ?_
        refine q_iast (j := i) (q_ixn (by omega) (by omega)) rfl rfl ?_
        refine q_step 2 2 [(0, .ref 70), (1, .int ((Int32.ofNat i) + (1 : Int32)))] [] (q_up (s_row_ 73 t_d0 i g) 73 i (Int8.toInt32 (Int8.ofInt (-4)))) u (fun big n0 => sg_rx_5 big n0 (q_up (s_row_ 73 t_d0 i g) 73 i (Int8.toInt32 (Int8.ofInt (-4)))) u (Int32.ofNat i)) ?_
        have d1 : ¬ i < 15 := by
          have z := hc1
          rw [show (15 : Int32) = Int32.ofNat 15 from rfl, q_lt (by omega) (by omega)] at z
          exact z
        have d2 : i < 20 := by
          have z := hc2
          rw [show (20 : Int32) = Int32.ofNat 20 from rfl, q_lt (by omega) (by omega)] at z
          exact z
        have e : t_d0 i = (Int8.toInt32 (Int8.ofInt (-4))) := by
          unfold t_d0
          rw [if_pos (by omega)]
        have z := ih (i + 1) (by omega)
        rw [← s_row_s, e] at z
        rw [q_succ]
        exact z
      · refine q_step 2 27 [(0, .ref 70), (1, .int (Int32.ofNat i))] [.int (5 : Int32), .int (Int32.ofNat i), .int (Int32.ofNat i), .ref 73] (s_row_ 73 t_d0 i g) u (fun big n0 => sg_rx_3 big n0 (s_row_ 73 t_d0 i g) u (Int32.ofNat i) (Int32.ofNat i)) ?_
        refine q_ic_ge rfl (fun (hc3 : (5 : Int32) ≤ (Int32.ofNat i)) => ?_) (fun (hc3 : ¬ ((5 : Int32) ≤ (Int32.ofNat i))) => ?_)
        · refine q_step 1 36 [(0, .ref 70), (1, .int (Int32.ofNat i))] [.int (0 : Int32), .int (Int32.ofNat i), .ref 73] (s_row_ 73 t_d0 i g) u (fun big n0 => sg_rx_4 big n0 (s_row_ 73 t_d0 i g) u (Int32.ofNat i) (Int32.ofNat i)) ?_
          refine q_iast (j := i) (q_ixn (by omega) (by omega)) rfl rfl ?_
          refine q_step 2 2 [(0, .ref 70), (1, .int ((Int32.ofNat i) + (1 : Int32)))] [] (q_up (s_row_ 73 t_d0 i g) 73 i (0 : Int32)) u (fun big n0 => sg_rx_5 big n0 (q_up (s_row_ 73 t_d0 i g) 73 i (0 : Int32)) u (Int32.ofNat i)) ?_
          have d1 : ¬ i < 15 := by
            have z := hc1
            rw [show (15 : Int32) = Int32.ofNat 15 from rfl, q_lt (by omega) (by omega)] at z
            exact z
          have d2 : ¬ i < 20 := by
            have z := hc2
            rw [show (20 : Int32) = Int32.ofNat 20 from rfl, q_lt (by omega) (by omega)] at z
            exact z
          have d3 : 5 ≤ i := by
            have z := hc3
            rw [show (5 : Int32) = Int32.ofNat 5 from rfl, q_le (by omega) (by omega)] at z
            exact z
          have e : t_d0 i = (0 : Int32) := by
            unfold t_d0
            rw [if_neg (by omega)]
          have z := ih (i + 1) (by omega)
          rw [← s_row_s, e] at z
          rw [q_succ]
          exact z
        · refine q_step 2 36 [(0, .ref 70), (1, .int (Int32.ofNat i))] [.int (Int8.toInt32 (Int8.ofInt (-4))), .int (Int32.ofNat i), .ref 73] (s_row_ 73 t_d0 i g) u (fun big n0 => sg_rx_6 big n0 (s_row_ 73 t_d0 i g) u (Int32.ofNat i) (Int32.ofNat i)) ?_
          refine q_iast (j := i) (q_ixn (by omega) (by omega)) rfl rfl ?_
          refine q_step 2 2 [(0, .ref 70), (1, .int ((Int32.ofNat i) + (1 : Int32)))] [] (q_up (s_row_ 73 t_d0 i g) 73 i (Int8.toInt32 (Int8.ofInt (-4)))) u (fun big n0 => sg_rx_5 big n0 (q_up (s_row_ 73 t_d0 i g) 73 i (Int8.toInt32 (Int8.ofInt (-4)))) u (Int32.ofNat i)) ?_
          have d1 : ¬ i < 15 := by
            have z := hc1
            rw [show (15 : Int32) = Int32.ofNat 15 from rfl, q_lt (by omega) (by omega)] at z
            exact z
          have d2 : ¬ i < 20 := by
            have z := hc2
            rw [show (20 : Int32) = Int32.ofNat 20 from rfl, q_lt (by omega) (by omega)] at z
            exact z
          have d3 : ¬ 5 ≤ i := by
            have z := hc3
            rw [show (5 : Int32) = Int32.ofNat 5 from rfl, q_le (by omega) (by omega)] at z
            exact z
          have e : t_d0 i = (Int8.toInt32 (Int8.ofInt (-4))) := by
            unfold t_d0
            rw [if_pos (by omega)]
          have z := ih (i + 1) (by omega)
          rw [← s_row_s, e] at z
          rw [q_succ]
          exact z
def s_fdr (g : qM) : qM := (q_up (q_up (q_up (q_up (q_up (q_up (q_up (q_up (q_up (q_up (s_row_ 73 t_d0 44 g) 73 21 (4 : Int32)) 73 22 (3 : Int32)) 73 23 (2 : Int32)) 73 24 (1 : Int32)) 70 6 (3 : Int32)) 70 7 (3 : Int32)) 70 8 (0 : Int32)) 70 9 (0 : Int32)) 70 10 (Int8.toInt32 (Int8.ofInt (-4)))) 70 11 (Int8.toInt32 (Int8.ofInt (-4))))
theorem r_first (g : qM) (u : qW) : q_BS 146 [.ref 70] g u (none, s_fdr g, u) := by
  refine q_bx (mm := m_146) rfl (Nat.le_of_ble_eq_true rfl) rfl ?_
  refine q_step 2 2 [(0, .ref 70), (1, .int (0 : Int32))] [] g u (fun big n0 => sg_rx_8 big n0 g u) ?_
  have hh : q_EV m_146 43 [(0, .ref 70), (1, .int (Int32.ofNat 44))] [] (s_row_ 73 t_d0 44 g) u (fun R => R = (none, s_fdr g, u)) := by
    refine q_step 40 60 [(0, .ref 70), (1, .int (2 : Int32))] [.int (2 : Int32), .int (4 : Int32), .int (23 : Int32), .ref 73] (q_up (q_up (s_row_ 73 t_d0 44 g) 73 21 (4 : Int32)) 73 22 (3 : Int32)) u (fun big n0 => sg_rx_9 big n0 (s_row_ 73 t_d0 44 g) u (Int32.ofNat 44)) ?_
    refine q_ret 40 (none, (q_up (q_up (q_up (q_up (q_up (q_up (q_up (q_up (q_up (q_up (s_row_ 73 t_d0 44 g) 73 21 (4 : Int32)) 73 22 (3 : Int32)) 73 23 (2 : Int32)) 73 24 (1 : Int32)) 70 6 (3 : Int32)) 70 7 (3 : Int32)) 70 8 (0 : Int32)) 70 9 (0 : Int32)) 70 10 (Int8.toInt32 (Int8.ofInt (-4)))) 70 11 (Int8.toInt32 (Int8.ofInt (-4)))), u) (fun _ _ => rfl) ?_
    rfl
  have z := fd_l g u hh 44 0 (by omega)
  rw [s_row_0] at z
  exact z
theorem s_fdr_d (g : qM) : k_dh t_r0 (s_fdr g) := by
  refine ⟨fun j hj => ?_, fun j h1 h2 => ?_⟩
  · by_cases e1 : j = 21
    · subst e1; rfl
    by_cases e2 : j = 22
    · subst e2; rfl
    by_cases e3 : j = 23
    · subst e3; rfl
    by_cases e4 : j = 24
    · subst e4; rfl
    unfold s_fdr
    rw [q_up_ne (by decide), q_up_ne (by decide), q_up_ne (by decide), q_up_ne (by decide), q_up_ne (by decide), q_up_ne (by decide), q_up_at, if_neg e4, q_up_at, if_neg e3, q_up_at, if_neg e2, q_up_at, if_neg e1]
    show (if (73 : Nat) = 73 then (if j < 44 then t_d0 j else g 73 j) else g 73 j) = (if (73 : Nat) = 73 then (if (15 ≤ j ∧ j < 20) ∨ j < 5 then i_none else if 21 ≤ j ∧ j ≤ 24 then Int32.ofNat (25 - j) else 0) else _)
    rw [if_pos rfl, if_pos hj, if_pos rfl]
    unfold t_d0
    by_cases c : (15 ≤ j ∧ j < 20) ∨ j < 5
    · rw [if_pos c, if_pos c]
    · rw [if_neg c, if_neg c, if_neg (by omega)]
  · rcases (show j = 6 ∨ j = 7 ∨ j = 8 ∨ j = 9 ∨ j = 10 ∨ j = 11 by omega) with e | e | e | e | e | e <;> (subst e; rfl)
theorem k_fR.row {g g' : qM} (h : k_fR g g') {f : Nat → Int32} {n : Nat} : k_fR g (s_row_ 73 f n g') := by
  refine ⟨fun b h1 h2 => ?_, fun j hj => h.2 j hj⟩
  funext i
  show (if b = 73 then _ else g' b i) = _
  rw [if_neg h2, h.1 b h1 h2]
theorem s_fdr_R (g : qM) : k_fR g (s_fdr g) := by
  unfold s_fdr
  repeat (first | exact k_fR_rfl g | refine k_fR.up ?_ (by omega) | refine k_fR.row ?_)
theorem kd_l (g : qM) (u : qW) {Q : Option Value × qM × qW → Prop} (hQ : q_EV m_147 26 [(0, .ref 70), (1, .int (Int32.ofNat 44))] [] (s_row_ 71 (g 73) 44 g) u Q) : ∀ k i, i + k = 44 → q_EV m_147 2 [(0, .ref 70), (1, .int (Int32.ofNat i))] [] (s_row_ 71 (g 73) i g) u Q := by
  intro k
  induction k with
  | zero =>
    intro i hi
    have e : i = 44 := by omega
    subst e
    refine q_step 2 5 [(0, .ref 70), (1, .int (Int32.ofNat 44))] [.int (44 : Int32), .int (Int32.ofNat 44)] (s_row_ 71 (g 73) 44 g) u (fun big n0 => sg_rx_10 big n0 (s_row_ 71 (g 73) 44 g) u (Int32.ofNat 44)) ?_
    refine q_ic_ge rfl (fun (hc0 : (44 : Int32) ≤ (Int32.ofNat 44)) => ?_) (fun hc0 => absurd (show (44 : Int32) ≤ (Int32.ofNat 44) from by decide) hc0)
    exact hQ
  | succ k ih =>
    intro i hi
    refine q_step 2 5 [(0, .ref 70), (1, .int (Int32.ofNat i))] [.int (44 : Int32), .int (Int32.ofNat i)] (s_row_ 71 (g 73) i g) u (fun big n0 => sg_rx_10 big n0 (s_row_ 71 (g 73) i g) u (Int32.ofNat i)) ?_
    refine q_ic_ge rfl (fun hc0 => absurd (show (44 : Int32) ≤ (Int32.ofNat i) from hc0) (fun z => by rw [show (44 : Int32) = Int32.ofNat 44 from rfl, q_le (by omega) (by omega)] at z; omega)) (fun (hc0 : ¬ ((44 : Int32) ≤ (Int32.ofNat i))) => ?_)
    refine q_step 6 18 [(0, .ref 70), (1, .int (Int32.ofNat i))] [.int (Int32.ofNat i), .ref 73, .int (Int32.ofNat i), .ref 71] (s_row_ 71 (g 73) i g) u (fun big n0 => sg_rx_11 big n0 (s_row_ 71 (g 73) i g) u (Int32.ofNat i)) ?_
    refine q_iald (j := i) (q_ixn (by omega) (by omega)) rfl rfl ?_
    refine q_iast (j := i) (q_ixn (by omega) (by omega)) rfl rfl ?_
    refine q_step 2 2 [(0, .ref 70), (1, .int ((Int32.ofNat i) + (1 : Int32)))] [] (q_up (s_row_ 71 (g 73) i g) 71 i ((s_row_ 71 (g 73) i g) 73 i)) u (fun big n0 => sg_rx_12 big n0 (q_up (s_row_ 71 (g 73) i g) 71 i ((s_row_ 71 (g 73) i g) 73 i)) u (Int32.ofNat i)) ?_
    have z := ih (i + 1) (by omega)
    rw [← s_row_s] at z
    rw [q_succ]
    exact z
def s_kdr (g : qM) : qM := (q_up (q_up (q_up (q_up (q_up (s_row_ 71 (g 73) 44 g) 70 2 ((s_row_ 71 (g 73) 44 g) 70 6)) 70 3 ((s_row_ 71 (g 73) 44 g) 70 7)) 70 4 ((s_row_ 71 (g 73) 44 g) 70 8)) 72 0 ((0 : Int32) &&& 1)) 72 1 ((0 : Int32) &&& 1))
theorem r_keepd (g : qM) (u : qW) : q_BS 147 [.ref 70] g u (none, s_kdr g, u) := by
  refine q_bx (mm := m_147) rfl (Nat.le_of_ble_eq_true rfl) rfl ?_
  refine q_step 2 2 [(0, .ref 70), (1, .int (0 : Int32))] [] g u (fun big n0 => sg_rx_13 big n0 g u) ?_
  have hh : q_EV m_147 26 [(0, .ref 70), (1, .int (Int32.ofNat 44))] [] (s_row_ 71 (g 73) 44 g) u (fun R => R = (none, s_kdr g, u)) := by
    refine q_ret 23 (none, (q_up (q_up (q_up (q_up (q_up (s_row_ 71 (g 73) 44 g) 70 2 ((s_row_ 71 (g 73) 44 g) 70 6)) 70 3 ((s_row_ 71 (g 73) 44 g) 70 7)) 70 4 ((s_row_ 71 (g 73) 44 g) 70 8)) 72 0 ((0 : Int32) &&& 1)) 72 1 ((0 : Int32) &&& 1)), u) (fun _ _ => rfl) ?_
    rfl
  have z := kd_l g u hh 44 0 (by omega)
  rw [s_row_0] at z
  exact z
theorem tx_bad {Q : Option Value × qM × qW → Prop} (g : qM) (u : qW) (v : Int32) (hf : ¬ g 70 18 = 0) (hQ : q_EV m_151 44 [(0, .ref 70), (1, .int v)] [] g u Q) : q_EV m_151 20 [(0, .ref 70), (1, .int v)] [] g u Q := by
  refine q_step 2 24 [(0, .ref 70), (1, .int v)] [.int (g 70 18)] g u (fun big n0 => sg_rx_14 big n0 g u v) ?_
  refine q_if_ne rfl (fun hc0 => absurd (show (g 70 18) = 0 from hc0) (hf)) (fun (hc0 : ¬ ((g 70 18) = 0)) => ?_)
  exact hQ
theorem tx_l {b : Nat → Int32} {s : Nat} (u : qW) {Q : Option Value × qM × qW → Prop} : ∀ k p m r g g0, k_fR g0 g → k_b b s g → p ≤ s → k_la b s p g → (g 70 18 = 0 → k_dh r g) → k_dn r → s < p + k → (∀ g' v, k_ar s (o_tape b s k p m r) g0 g' v → q_EV m_151 44 [(0, .ref 70), (1, .int v)] [] g' u Q) → q_EV m_151 20 [(0, .ref 70), (1, .int (Int32.ofNat m))] [] g u Q := by
  intro k
  induction k with
  | zero =>
    intro p m r g g0 hfr hb hp hl hd hn hk
    omega
  | succ k ih =>
    intro p m r g g0 hfr hb hp hl hd hn hk hQ
    have hps := (t_pl_b (b := b) hp).2.1
    refine q_step 2 24 [(0, .ref 70), (1, .int (Int32.ofNat m))] [.int (g 70 18)] g u (fun big n0 => sg_rx_14 big n0 g u (Int32.ofNat m)) ?_
    refine q_if_ne rfl (fun (hc0 : (g 70 18) = 0) => ?_) (fun (hc0 : ¬ ((g 70 18) = 0)) => ?_)
    · refine q_step 2 31 [(0, .ref 70), (1, .int (Int32.ofNat m))] [.int (g 70 16)] g u (fun big n0 => sg_rx_15 big n0 g u (Int32.ofNat m)) ?_
      refine q_if_eq rfl (fun (hc1 : (g 70 16) = 0) => ?_) (fun (hc1 : ¬ ((g 70 16) = 0)) => ?_)
      · obtain ⟨k0, _, z14, z15, z16, _⟩ := hl.resolve_left (fun z => absurd (hc0.symm.trans z.2.1) (by decide))
        have k4 : t_ki b s p = 4 := by
          by_cases e4 : t_ki b s p = 4
          · exact e4
          · rw [if_neg e4] at z16
            exact absurd (z16.symm.trans hc1) k0
        refine hQ g _ ?_
        rw [o_tape, if_pos k4]
        exact ⟨hfr, fun z => absurd rfl z, fun _ => ⟨hc0, hd hc0, z15.trans (by rw [t_fi4 hp k4]), rfl⟩⟩
      · refine q_step 1 35 [(0, .ref 70), (1, .int (Int32.ofNat m))] [.ref 70] g u (fun big n0 => sg_rx_16 big n0 g u (Int32.ofNat m)) ?_
        have k4 : ¬ t_ki b s p = 4 := fun z => by
          rcases hl with y | y
          · exact absurd (hc0.symm.trans y.2.1) (by decide)
          · exact hc1 (y.2.2.2.2.1.trans (if_pos z))
        obtain ⟨g1, q1, c1⟩ := r_rline g u hb hp hl hc0 k4 (hd hc0) hn
        refine q_call (M2 := 155) (rest := []) (q1) (fun _ _ => rfl) ?_
        refine q_step 2 20 [(0, .ref 70), (1, .int ((Int32.ofNat m) + (1 : Int32)))] [] g1 u (fun big n0 => sg_rx_17 big n0 g1 u (Int32.ofNat m)) ?_
        by_cases e2 : (o_fin b s (o_line b s (t_fi b s p) (t_pl b s p) (t_ki b s p) r)).1 = 0
        · have zo := k_on_fin (b := b) (k_on_line (b := b) (f := t_fi b s p) (k := t_ki b s p) hn hps) e2
          obtain ⟨zp, zl, zd⟩ := c1.2.2 e2
          have hlt := (t_pl_b (b := b) hp).2.2 (t_ki_fi k4)
          have hfi := (t_fi_b (b := b) hp).1
          rw [q_succ]
          refine ih _ (m + 1) _ g1 g0 (hfr.trans c1.1) (hb.R c1.1) zp zl zd zo.1 (by omega) (fun g' v hg => hQ g' v ?_)
          rw [o_tape, if_neg k4, if_pos e2]
          exact hg
        · obtain ⟨y1, y2, y3⟩ := c1.2.1 e2
          refine tx_bad g1 u _ (by rw [y2]; exact e2) (hQ g1 _ ?_)
          rw [o_tape, if_neg k4, if_neg e2]
          exact ⟨hfr.trans c1.1, fun _ => ⟨y1, y2, y3⟩, fun z => absurd z e2⟩
    · have z := hl.resolve_right (fun z => hc0 z.2.1)
      have eo : (o_fin b s (o_line b s (t_fi b s p) (t_pl b s p) (t_ki b s p) r)) = o_bad 1 (t_fi b s p) r := by
        rw [z.1]
        unfold o_line
        rw [if_pos rfl, o_fin_bad (by decide)]
      refine hQ g _ ?_
      rw [o_tape, if_neg (by rw [z.1]; decide), eo, if_neg (show ¬ (o_bad 1 (t_fi b s p) r).1 = 0 from (by decide : ¬ (1 : Int32) = 0))]
      exact ⟨hfr, fun _ => ⟨(by decide : (0 : Int32) < 1), z.2.1, z.2.2⟩, fun y => absurd y (by decide : ¬ (1 : Int32) = 0)⟩
theorem tx_e {s : Nat} {oo : tO × Nat} {g0 : qM} (g : qM) (u : qW) (v : Int32) (ha : k_ar s oo g0 g v) : q_EV m_151 44 [(0, .ref 70), (1, .int v)] [] g u (fun R => ∃ g', R = (some (.int (t_ans (o_end s oo.1, oo.2))), g', u) ∧ (∀ a, a < 70 ∨ 73 < a → g' a = g0 a) ∧ (∀ j, 44 ≤ j → g' 71 j = g0 71 j) ∧ (∀ j, j < 2 ∨ j = 5 ∨ j = 12 ∨ 19 < j → g' 70 j = g0 70 j) ∧ g' 70 13 = 0 ∧ g' 70 18 = (o_end s oo.1).1 ∧ (¬ (o_end s oo.1).1 = 0 → g' 71 = g0 71 ∧ g' 72 = g0 72 ∧ ∀ j, j < 6 → g' 70 j = g0 70 j) ∧ ((o_end s oo.1).1 = 0 → g' 72 0 = 0 ∧ g' 72 1 = 0 ∧ (∀ j, j < 44 → g' 71 j = (o_end s oo.1).2.2.2 73 j) ∧ g' 70 2 = (o_end s oo.1).2.2.2 70 6 ∧ g' 70 3 = (o_end s oo.1).2.2.2 70 7 ∧ g' 70 4 = (o_end s oo.1).2.2.2 70 8)) := by
  refine q_step 2 48 [(0, .ref 70), (1, .int v)] [.int (g 70 18)] g u (fun big n0 => sg_rx_18 big n0 g u v) ?_
  refine q_if_ne rfl (fun (hc0 : (g 70 18) = 0) => ?_) (fun (hc0 : ¬ ((g 70 18) = 0)) => ?_)
  · refine q_step 8 65 [(0, .ref 70), (1, .int v)] [.int ((g 70 6) * (g 70 7)), .int (g 70 10), .ref 70] g u (fun big n0 => sg_rx_19 big n0 g u v) ?_
    refine q_ic_ge rfl (fun (hc1 : ((g 70 6) * (g 70 7)) ≤ (g 70 10)) => ?_) (fun (hc1 : ¬ (((g 70 6) * (g 70 7)) ≤ (g 70 10))) => ?_)
    · refine q_step 2 86 [(0, .ref 70), (1, .int v)] [.int (6 : Int32), .int (0 : Int32), .ref 70] g u (fun big n0 => sg_rx_20 big n0 g u v) ?_
      refine q_call (M2 := 154) (rest := []) (b_needs0 _ _ _ hc0) (fun _ _ => rfl) ?_
      refine q_step 5 98 [(0, .ref 70), (1, .int v)] [.int (6 : Int32)] (q_up (q_up (q_up g 70 18 (6 : Int32)) 70 19 (g 70 15)) 70 13 (0 : Int32)) u (fun big n0 => sg_rx_21 big n0 (q_up (q_up g 70 18 (6 : Int32)) 70 19 (g 70 15)) u v) ?_
      refine q_if_le rfl (fun hc2 => absurd (show (6 : Int32) ≤ 0 from hc2) (by decide)) (fun (hc2 : ¬ ((6 : Int32) ≤ 0)) => ?_)
      refine q_ret 5 (some (.int ((Int8.toInt32 (Int8.ofInt (-10))) - (g 70 15))), (q_up (q_up (q_up g 70 18 (6 : Int32)) 70 19 (g 70 15)) 70 13 (0 : Int32)), u) (fun _ _ => rfl) ?_
      have e0 : oo.1.1 = 0 := Classical.byContradiction (fun z => k_pos (ha.2.1 z).1 ((ha.2.1 z).2.1.symm.trans hc0))
      obtain ⟨_, hd, h15, hv⟩ := ha.2.2 e0
      have e10 := hd.2 10 (by omega) (by omega)
      have e11 := hd.2 11 (by omega) (by omega)
      have e6 := hd.2 6 (by omega) (by omega)
      have e7 := hd.2 7 (by omega) (by omega)
      have e8 := hd.2 8 (by omega) (by omega)
      have ec : ¬ (oo.1.2.2.2 70 10 < oo.1.2.2.2 70 6 * oo.1.2.2.2 70 7 ∧ oo.1.2.2.2 70 11 < oo.1.2.2.2 70 8) := fun z => absurd z.1 (by rw [← e10, ← e6, ← e7]; exact Int32.not_lt.mpr hc1)
      have eo : o_end s oo.1 = o_bad 6 s oo.1.2.2.2 := by unfold o_end; rw [if_pos e0, if_neg ec]
      rw [eo]
      have ea : t_ans (o_bad 6 s oo.1.2.2.2, oo.2) = (Int32.ofInt (-10)) - (g 70 15) := by unfold t_ans; rw [if_neg (show ¬ (o_bad 6 s oo.1.2.2.2, oo.2).1.1 = 0 from (by decide : ¬ (6 : Int32) = 0)), h15]; rfl
      rw [ea]
      refine ⟨_, rfl, fun a h => ?_, fun j hj => ?_, fun j hj => ?_, rfl, ?_, fun _ => ⟨?_, ?_, fun j hj => ?_⟩, fun z => absurd z (by decide : ¬ (6 : Int32) = 0)⟩
      · rw [q_up_ne (by omega), q_up_ne (by omega), q_up_ne (by omega)]
        exact ha.1.1 a (by omega) (by omega)
      · rw [q_up_ne (by decide), q_up_ne (by decide), q_up_ne (by decide)]
        exact congrFun (ha.1.1 71 (by decide) (by decide)) j
      · rw [q_up_at, if_neg (by omega), q_up_at, if_neg (by omega), q_up_at, if_neg (by omega)]
        exact ha.1.2 j (by omega)
      · rfl
      · rw [q_up_ne (by decide), q_up_ne (by decide), q_up_ne (by decide)]
        exact ha.1.1 71 (by decide) (by decide)
      · rw [q_up_ne (by decide), q_up_ne (by decide), q_up_ne (by decide)]
        exact ha.1.1 72 (by decide) (by decide)
      · rw [q_up_at, if_neg (by omega), q_up_at, if_neg (by omega), q_up_at, if_neg (by omega)]
        exact ha.1.2 j (by omega)
    · refine q_step 4 76 [(0, .ref 70), (1, .int v)] [.int (g 70 8), .int (g 70 11), .ref 70] g u (fun big n0 => sg_rx_22 big n0 g u v) ?_
      refine q_ic_ge rfl (fun (hc2 : (g 70 8) ≤ (g 70 11)) => ?_) (fun (hc2 : ¬ ((g 70 8) ≤ (g 70 11))) => ?_)
      · refine q_step 2 86 [(0, .ref 70), (1, .int v)] [.int (6 : Int32), .int (0 : Int32), .ref 70] g u (fun big n0 => sg_rx_20 big n0 g u v) ?_
        refine q_call (M2 := 154) (rest := []) (b_needs0 _ _ _ hc0) (fun _ _ => rfl) ?_
        refine q_step 5 98 [(0, .ref 70), (1, .int v)] [.int (6 : Int32)] (q_up (q_up (q_up g 70 18 (6 : Int32)) 70 19 (g 70 15)) 70 13 (0 : Int32)) u (fun big n0 => sg_rx_21 big n0 (q_up (q_up g 70 18 (6 : Int32)) 70 19 (g 70 15)) u v) ?_
        refine q_if_le rfl (fun hc3 => absurd (show (6 : Int32) ≤ 0 from hc3) (by decide)) (fun (hc3 : ¬ ((6 : Int32) ≤ 0)) => ?_)
        refine q_ret 5 (some (.int ((Int8.toInt32 (Int8.ofInt (-10))) - (g 70 15))), (q_up (q_up (q_up g 70 18 (6 : Int32)) 70 19 (g 70 15)) 70 13 (0 : Int32)), u) (fun _ _ => rfl) ?_
        have e0 : oo.1.1 = 0 := Classical.byContradiction (fun z => k_pos (ha.2.1 z).1 ((ha.2.1 z).2.1.symm.trans hc0))
        obtain ⟨_, hd, h15, hv⟩ := ha.2.2 e0
        have e10 := hd.2 10 (by omega) (by omega)
        have e11 := hd.2 11 (by omega) (by omega)
        have e6 := hd.2 6 (by omega) (by omega)
        have e7 := hd.2 7 (by omega) (by omega)
        have e8 := hd.2 8 (by omega) (by omega)
        have ec : ¬ (oo.1.2.2.2 70 10 < oo.1.2.2.2 70 6 * oo.1.2.2.2 70 7 ∧ oo.1.2.2.2 70 11 < oo.1.2.2.2 70 8) := fun z => absurd z.2 (by rw [← e11, ← e8]; exact Int32.not_lt.mpr hc2)
        have eo : o_end s oo.1 = o_bad 6 s oo.1.2.2.2 := by unfold o_end; rw [if_pos e0, if_neg ec]
        rw [eo]
        have ea : t_ans (o_bad 6 s oo.1.2.2.2, oo.2) = (Int32.ofInt (-10)) - (g 70 15) := by unfold t_ans; rw [if_neg (show ¬ (o_bad 6 s oo.1.2.2.2, oo.2).1.1 = 0 from (by decide : ¬ (6 : Int32) = 0)), h15]; rfl
        rw [ea]
        refine ⟨_, rfl, fun a h => ?_, fun j hj => ?_, fun j hj => ?_, rfl, ?_, fun _ => ⟨?_, ?_, fun j hj => ?_⟩, fun z => absurd z (by decide : ¬ (6 : Int32) = 0)⟩
        · rw [q_up_ne (by omega), q_up_ne (by omega), q_up_ne (by omega)]
          exact ha.1.1 a (by omega) (by omega)
        · rw [q_up_ne (by decide), q_up_ne (by decide), q_up_ne (by decide)]
          exact congrFun (ha.1.1 71 (by decide) (by decide)) j
        · rw [q_up_at, if_neg (by omega), q_up_at, if_neg (by omega), q_up_at, if_neg (by omega)]
          exact ha.1.2 j (by omega)
        · rfl
        · rw [q_up_ne (by decide), q_up_ne (by decide), q_up_ne (by decide)]
          exact ha.1.1 71 (by decide) (by decide)
        · rw [q_up_ne (by decide), q_up_ne (by decide), q_up_ne (by decide)]
          exact ha.1.1 72 (by decide) (by decide)
        · rw [q_up_at, if_neg (by omega), q_up_at, if_neg (by omega), q_up_at, if_neg (by omega)]
          exact ha.1.2 j (by omega)
      · refine q_step 3 86 [(0, .ref 70), (1, .int v)] [.int (6 : Int32), .int (1 : Int32), .ref 70] g u (fun big n0 => sg_rx_23 big n0 g u v) ?_
        refine q_call (M2 := 154) (rest := []) (b_needs1 _ _ _) (fun _ _ => rfl) ?_
        refine q_step 5 98 [(0, .ref 70), (1, .int v)] [.int (g 70 18)] (q_up g 70 13 (0 : Int32)) u (fun big n0 => sg_rx_21 big n0 g u v) ?_
        refine q_if_le rfl (fun (hc3 : (g 70 18) ≤ 0) => ?_) (fun hc3 => absurd (show (g 70 18) ≤ 0 from by rw [hc0]; decide) hc3)
        refine q_step 1 110 [(0, .ref 70), (1, .int v)] [.ref 70] (q_up g 70 13 (0 : Int32)) u (fun big n0 => sg_rx_24 big n0 (q_up g 70 13 (0 : Int32)) u v) ?_
        refine q_call (M2 := 147) (rest := []) (r_keepd _ _) (fun _ _ => rfl) ?_
        refine q_ret 2 (some (.int v), (s_kdr (q_up g 70 13 (0 : Int32))), u) (fun _ _ => rfl) ?_
        have e0 : oo.1.1 = 0 := Classical.byContradiction (fun z => k_pos (ha.2.1 z).1 ((ha.2.1 z).2.1.symm.trans hc0))
        obtain ⟨_, hd, h15, hv⟩ := ha.2.2 e0
        have e10 := hd.2 10 (by omega) (by omega)
        have e11 := hd.2 11 (by omega) (by omega)
        have e6 := hd.2 6 (by omega) (by omega)
        have e7 := hd.2 7 (by omega) (by omega)
        have e8 := hd.2 8 (by omega) (by omega)
        have ec : oo.1.2.2.2 70 10 < oo.1.2.2.2 70 6 * oo.1.2.2.2 70 7 ∧ oo.1.2.2.2 70 11 < oo.1.2.2.2 70 8 := by
          rw [← e10, ← e11, ← e6, ← e7, ← e8]
          exact ⟨Int32.not_le.mp hc1, Int32.not_le.mp hc2⟩
        have eo : o_end s oo.1 = oo.1 := by unfold o_end; rw [if_pos e0, if_pos ec]
        rw [eo]
        have ea : t_ans (oo.1, oo.2) = v := by unfold t_ans; rw [if_pos e0, hv]
        rw [ea]
        refine ⟨_, rfl, fun a h => ?_, fun j hj => ?_, fun j hj => ?_, ?_, ?_, fun z => absurd e0 z, fun _ => ⟨rfl, rfl, fun j hj => ?_, ?_, ?_, ?_⟩⟩
        · unfold s_kdr
          rw [q_up_ne (by omega), q_up_ne (by omega), q_up_ne (by omega), q_up_ne (by omega), q_up_ne (by omega)]
          funext i
          show (if a = 71 then _ else q_up g 70 13 0 a i) = _
          rw [if_neg (by omega), q_up_ne (by omega), ha.1.1 a (by omega) (by omega)]
        · unfold s_kdr
          rw [q_up_ne (by omega), q_up_ne (by omega), q_up_ne (by omega), q_up_ne (by omega), q_up_ne (by omega)]
          show (if (71 : Nat) = 71 then (if j < 44 then _ else q_up g 70 13 0 71 j) else _) = _
          rw [if_pos rfl, if_neg (by omega), q_up_ne (by omega), ha.1.1 71 (by decide) (by decide)]
        · unfold s_kdr
          rw [q_up_ne (by omega), q_up_ne (by omega), q_up_at, if_neg (by omega), q_up_at, if_neg (by omega), q_up_at, if_neg (by omega)]
          show q_up g 70 13 0 70 j = _
          rw [q_up_at, if_neg (by omega)]
          exact ha.1.2 j (by omega)
        · rfl
        · exact hc0.trans e0.symm
        · unfold s_kdr
          rw [q_up_ne (by omega), q_up_ne (by omega), q_up_ne (by omega), q_up_ne (by omega), q_up_ne (by omega)]
          show (if (71 : Nat) = 71 then (if j < 44 then q_up g 70 13 0 73 j else _) else _) = _
          rw [if_pos rfl, if_pos hj, q_up_ne (by decide)]
          exact hd.1 j hj
        · exact e6
        · exact e7
        · exact e8
  · refine q_step 5 98 [(0, .ref 70), (1, .int v)] [.int (g 70 18)] (q_up g 70 13 (0 : Int32)) u (fun big n0 => sg_rx_21 big n0 g u v) ?_
    refine q_if_le rfl (fun hc1 => absurd (show (g 70 18) ≤ 0 from hc1) (fun z => absurd z (Int32.not_le.mpr (by have e0 : ¬ oo.1.1 = 0 := fun y => hc0 (ha.2.2 y).1; rw [(ha.2.1 e0).2.1]; exact (ha.2.1 e0).1)))) (fun (hc1 : ¬ ((g 70 18) ≤ 0)) => ?_)
    refine q_ret 5 (some (.int ((Int8.toInt32 (Int8.ofInt (-10))) - (g 70 19))), (q_up g 70 13 (0 : Int32)), u) (fun _ _ => rfl) ?_
    have e0 : ¬ oo.1.1 = 0 := fun y => hc0 (ha.2.2 y).1
    obtain ⟨y1, y2, y3⟩ := ha.2.1 e0
    have eo : o_end s oo.1 = oo.1 := by unfold o_end; rw [if_neg e0]
    rw [eo]
    have ea : t_ans (oo.1, oo.2) = (Int32.ofInt (-10)) - (g 70 19) := by unfold t_ans; rw [if_neg e0, y3]
    rw [ea]
    refine ⟨_, rfl, fun a h => ?_, fun j hj => ?_, fun j hj => ?_, rfl, ?_, fun _ => ⟨?_, ?_, fun j hj => ?_⟩, fun z => absurd z e0⟩
    · rw [q_up_ne (by omega)]
      exact ha.1.1 a (by omega) (by omega)
    · rw [q_up_ne (by decide)]
      exact congrFun (ha.1.1 71 (by decide) (by decide)) j
    · rw [q_up_at, if_neg (by omega)]
      exact ha.1.2 j (by omega)
    · rw [q_up_at, if_neg (by decide)]
      exact y2
    · rw [q_up_ne (by decide)]
      exact ha.1.1 71 (by decide) (by decide)
    · rw [q_up_ne (by decide)]
      exact ha.1.1 72 (by decide) (by decide)
    · rw [q_up_at, if_neg (by omega)]
      exact ha.1.2 j (by omega)
theorem r_text {b : Nat → Int32} {s : Nat} (g : qM) (u : qW) (hb : k_b b s g) : ∃ R, q_BS 151 [.ref 70] g u R ∧ ∃ g', R = (some (.int (t_ans (o_text b s))), g', u) ∧ (∀ a, a < 70 ∨ 73 < a → g' a = g a) ∧ (∀ j, 44 ≤ j → g' 71 j = g 71 j) ∧ (∀ j, j < 2 ∨ j = 5 ∨ j = 12 ∨ 19 < j → g' 70 j = g 70 j) ∧ g' 70 13 = 0 ∧ g' 70 18 = (o_text b s).1.1 ∧ (¬ (o_text b s).1.1 = 0 → g' 71 = g 71 ∧ g' 72 = g 72 ∧ ∀ j, j < 6 → g' 70 j = g 70 j) ∧ ((o_text b s).1.1 = 0 → g' 72 0 = 0 ∧ g' 72 1 = 0 ∧ (∀ j, j < 44 → g' 71 j = (o_text b s).1.2.2.2 73 j) ∧ g' 70 2 = (o_text b s).1.2.2.2 70 6 ∧ g' 70 3 = (o_text b s).1.2.2.2 70 7 ∧ g' 70 4 = (o_text b s).1.2.2.2 70 8) := by
  refine q_bs (mm := m_151) rfl (Nat.le_of_ble_eq_true rfl) rfl ?_
  refine q_step 9 13 [(0, .ref 70), (1, .int (0 : Int32))] [.ref 70] (q_up (q_up g 70 18 (0 : Int32)) 70 14 (0 : Int32)) u (fun big n0 => sg_rx_25 big n0 g u) ?_
  have hR0 : k_fR g (q_up (q_up g 70 18 0) 70 14 0) := ((k_fR_rfl g).up (by omega)).up (by omega)
  have hR1 := hR0.trans (s_fdr_R (q_up (q_up g 70 18 0) 70 14 0))
  have hd1 := s_fdr_d (q_up (q_up g 70 18 0) 70 14 0)
  refine q_call (M2 := 146) (rest := []) (r_first _ _) (fun _ _ => rfl) ?_
  refine q_step 1 17 [(0, .ref 70), (1, .int (0 : Int32))] [.ref 70] (s_fdr (q_up (q_up g 70 18 (0 : Int32)) 70 14 (0 : Int32))) u (fun big n0 => sg_rx_26 big n0 (s_fdr (q_up (q_up g 70 18 (0 : Int32)) 70 14 (0 : Int32))) u) ?_
  obtain ⟨g1, q1, f1, l1⟩ := r_nextb (b := b) (p := 0) (s_fdr (q_up (q_up g 70 18 (0 : Int32)) 70 14 (0 : Int32))) u (hb.R hR1) rfl (Nat.zero_le s) rfl
  refine q_call (M2 := 152) (rest := []) (q1) (fun _ _ => rfl) ?_
  exact tx_l u (b := b) (s := s) (s + 1) 0 0 t_r0 g1 g (hR1.trans f1.R) ((hb.R hR1).fr f1) (Nat.zero_le s) l1 (fun _ => hd1.f70 f1) k_dn0 (by omega) (fun g' v hg => tx_e g' u v hg)
end
section
/-! MORE NUMBERS that are not as told. -/
theorem sg_bb_1 (big : Nat → List Value → qM → qW → qR) (n0 : Nat) (G : qM) (U : qW) (v0 : Int32) (v1 : Int32) : qm_run pm_m big m_220 (n0 + 4) 0 [(0, .int v0), (1, .int v1)] [] G U = qm_run pm_m big m_220 n0 6 [(0, .int v0), (1, .int v1)] [.long (3 : Int64), .long (0 : Int64), .long (Int32.toInt64 v0)] G U := rfl
theorem sg_bb_2 (big : Nat → List Value → qM → qW → qR) (n0 : Nat) (G : qM) (U : qW) (v0 : Int32) (v1 : Int32) : qm_run pm_m big m_220 (n0 + 4) 12 [(0, .int v0), (1, .int v1)] [] G U = qm_run pm_m big m_220 n0 18 [(0, .int v0), (1, .int v1)] [.long (2 : Int64), .long (0 : Int64), .long (Int32.toInt64 v1)] G U := rfl
theorem sg_bb_3 (big : Nat → List Value → qM → qW → qR) (n0 : Nat) (G : qM) (U : qW) (v0 : Int32) (v1 : Int32) : qm_run pm_m big m_52 (n0 + 3) 0 [(0, .ref 8), (1, .int v0), (2, .int v1)] [] G U = qm_run pm_m big m_52 n0 5 [(0, .ref 8), (1, .int v0), (2, .int v1)] [.int v0, .ref 20] G U := rfl
theorem sg_bb_4 (big : Nat → List Value → qM → qW → qR) (n0 : Nat) (G : qM) (U : qW) (v0 : Int32) (v1 : Int32) : qm_run pm_m big m_52 (n0 + 2) 11 [(0, .ref 8), (1, .int v0), (2, .int v1)] [] G U = qm_run pm_m big m_52 n0 14 [(0, .ref 8), (1, .int v0), (2, .int v1)] [.int (Int8.toInt32 (Int8.ofInt (-4))), .int v1] G U := rfl
theorem sg_bb_5 (big : Nat → List Value → qM → qW → qR) (n0 : Nat) (G : qM) (U : qW) (v0 : Int32) (v1 : Int32) : qm_run pm_m big m_52 (n0 + 3) 17 [(0, .ref 8), (1, .int v0), (2, .int v1)] [] G U = qm_run pm_m big m_52 n0 22 [(0, .ref 8), (1, .int v0), (2, .int v1)] [.int v1, .ref 20] G U := rfl
theorem sg_bb_6 (big : Nat → List Value → qM → qW → qR) (n0 : Nat) (G : qM) (U : qW) (v0 : Int32) (v1 : Int32) : qm_run pm_m big m_179 (n0 + 2) 0 [(0, .ref 70), (1, .int v0), (2, .int v1)] [] G U = qm_run pm_m big m_179 n0 2 [(0, .ref 70), (1, .int v0), (2, .int v1)] [.int v0, .ref 70] G U := rfl
theorem sg_bb_7 (big : Nat → List Value → qM → qW → qR) (n0 : Nat) (G : qM) (U : qW) (v0 : Int32) (v1 : Int32) : qm_run pm_m big m_179 (n0 + 2) 8 [(0, .ref 70), (1, .int v0), (2, .int v1)] [] G U = qm_run pm_m big m_179 n0 11 [(0, .ref 70), (1, .int v0), (2, .int v1)] [.int (Int8.toInt32 (Int8.ofInt (-4))), .int v1] G U := rfl
theorem sg_bb_8 (big : Nat → List Value → qM → qW → qR) (n0 : Nat) (G : qM) (U : qW) (v0 : Int32) (v1 : Int32) : qm_run pm_m big m_179 (n0 + 2) 14 [(0, .ref 70), (1, .int v0), (2, .int v1)] [] G U = qm_run pm_m big m_179 n0 16 [(0, .ref 70), (1, .int v0), (2, .int v1)] [.int v1, .ref 70] G U := rfl
theorem sg_bb_9 (big : Nat → List Value → qM → qW → qR) (n0 : Nat) (G : qM) (U : qW) (v0 : Int32) (v1 : Int32) (v2 : Int32) : qm_run pm_m big m_130 (n0 + 1) 0 [(0, .ref 8), (1, .int v0), (2, .int v1), (3, .int v2)] [] G U = qm_run pm_m big m_130 n0 1 [(0, .ref 8), (1, .int v0), (2, .int v1), (3, .int v2)] [.int v0] G U := rfl
theorem sg_bb_10 (big : Nat → List Value → qM → qW → qR) (n0 : Nat) (G : qM) (U : qW) (v0 : Int32) (v1 : Int32) (v2 : Int32) : qm_run pm_m big m_130 (n0 + 1) 7 [(0, .ref 8), (1, .int v0), (2, .int v1), (3, .int v2)] [] G U = qm_run pm_m big m_130 n0 8 [(0, .ref 8), (1, .int v0), (2, .int v1), (3, .int v2)] [.int v1] G U := rfl
theorem sg_bb_11 (big : Nat → List Value → qM → qW → qR) (n0 : Nat) (G : qM) (U : qW) (v0 : Int32) (v1 : Int32) (v2 : Int32) : qm_run pm_m big m_130 (n0 + 2) 14 [(0, .ref 8), (1, .int v0), (2, .int v1), (3, .int v2)] [] G U = qm_run pm_m big m_130 n0 17 [(0, .ref 8), (1, .int v0), (2, .int v1), (3, .int v2)] [.int (40 : Int32), .int v2] G U := rfl
theorem sg_bb_12 (big : Nat → List Value → qM → qW → qR) (n0 : Nat) (G : qM) (U : qW) (v0 : Int32) (v1 : Int32) (v2 : Int32) : qm_run pm_m big m_219 (n0 + 2) 0 [(0, .ref 70), (1, .int v0), (2, .int v1), (3, .int v2)] [] G U = qm_run pm_m big m_219 n0 2 [(0, .ref 70), (1, .int v0), (2, .int v1), (3, .int v2)] [.int v1, .int v0] G U := rfl
theorem sg_bb_13 (big : Nat → List Value → qM → qW → qR) (n0 : Nat) (G : qM) (U : qW) (v0 : Int32) (v1 : Int32) (v2 : Int32) : qm_run pm_m big m_219 (n0 + 2) 8 [(0, .ref 70), (1, .int v0), (2, .int v1), (3, .int v2)] [] G U = qm_run pm_m big m_219 n0 11 [(0, .ref 70), (1, .int v0), (2, .int v1), (3, .int v2)] [.int (40 : Int32), .int v2] G U := rfl
theorem sg_bb_14 (big : Nat → List Value → qM → qW → qR) (n0 : Nat) (G : qM) (U : qW) (v0 : Int32) (v1 : Int32) (v2 : Int32) : qm_run pm_m big m_134 (n0 + 1) 0 [(0, .ref 8), (1, .int v0), (2, .int v1), (3, .int v2)] [] G U = qm_run pm_m big m_134 n0 1 [(0, .ref 8), (1, .int v0), (2, .int v1), (3, .int v2)] [.int v0] G U := rfl
theorem sg_bb_15 (big : Nat → List Value → qM → qW → qR) (n0 : Nat) (G : qM) (U : qW) (v0 : Int32) (v1 : Int32) (v2 : Int32) : qm_run pm_m big m_221 (n0 + 2) 0 [(0, .ref 70), (1, .int v0), (2, .int v1), (3, .int v2)] [] G U = qm_run pm_m big m_221 n0 2 [(0, .ref 70), (1, .int v0), (2, .int v1), (3, .int v2)] [.int (0 : Int32), .int v0] G U := rfl
theorem sg_bb_16 (big : Nat → List Value → qM → qW → qR) (n0 : Nat) (G : qM) (U : qW) (v0 : Int32) (v1 : Int32) (v2 : Int32) (v3 : Int32) : qm_run pm_m big m_138 (n0 + 1) 0 [(0, .ref 8), (1, .int v0), (2, .int v1), (3, .int v2), (4, .int v3)] [] G U = qm_run pm_m big m_138 n0 1 [(0, .ref 8), (1, .int v0), (2, .int v1), (3, .int v2), (4, .int v3)] [.int v0] G U := rfl
theorem sg_bb_17 (big : Nat → List Value → qM → qW → qR) (n0 : Nat) (G : qM) (U : qW) (v0 : Int32) (v1 : Int32) (v2 : Int32) (v3 : Int32) : qm_run pm_m big m_138 (n0 + 1) 7 [(0, .ref 8), (1, .int v0), (2, .int v1), (3, .int v2), (4, .int v3)] [] G U = qm_run pm_m big m_138 n0 8 [(0, .ref 8), (1, .int v0), (2, .int v1), (3, .int v2), (4, .int v3)] [.int v1] G U := rfl
theorem sg_bb_18 (big : Nat → List Value → qM → qW → qR) (n0 : Nat) (G : qM) (U : qW) (v0 : Int32) (v1 : Int32) (v2 : Int32) (v3 : Int32) : qm_run pm_m big m_138 (n0 + 1) 14 [(0, .ref 8), (1, .int v0), (2, .int v1), (3, .int v2), (4, .int v3)] [] G U = qm_run pm_m big m_138 n0 16 [(0, .ref 8), (1, .int v0), (2, .int v1), (3, .int v2), (4, .int v3)] [.int v3] G U := rfl
theorem sg_bb_19 (big : Nat → List Value → qM → qW → qR) (n0 : Nat) (G : qM) (U : qW) (v0 : Int32) (v1 : Int32) (v2 : Int32) (v3 : Int32) : qm_run pm_m big m_138 (n0 + 2) 19 [(0, .ref 8), (1, .int v0), (2, .int v1), (3, .int v2), (4, .int v3)] [] G U = qm_run pm_m big m_138 n0 23 [(0, .ref 8), (1, .int v0), (2, .int v1), (3, .int v2), (4, .int v3)] [.int (20 : Int32), .int v3] G U := rfl
theorem sg_bb_20 (big : Nat → List Value → qM → qW → qR) (n0 : Nat) (G : qM) (U : qW) (v0 : Int32) (v1 : Int32) (v2 : Int32) (v3 : Int32) : qm_run pm_m big m_222 (n0 + 2) 0 [(0, .ref 70), (1, .int v0), (2, .int v1), (3, .int v2), (4, .int v3)] [] G U = qm_run pm_m big m_222 n0 2 [(0, .ref 70), (1, .int v0), (2, .int v1), (3, .int v2), (4, .int v3)] [.int v1, .int v0] G U := rfl
theorem sg_bb_21 (big : Nat → List Value → qM → qW → qR) (n0 : Nat) (G : qM) (U : qW) (v0 : Int32) (v1 : Int32) (v2 : Int32) (v3 : Int32) : qm_run pm_m big m_222 (n0 + 4) 8 [(0, .ref 70), (1, .int v0), (2, .int v1), (3, .int v2), (4, .int v3)] [] G U = qm_run pm_m big m_222 n0 15 [(0, .ref 70), (1, .int v0), (2, .int v1), (3, .int v2), (4, .int v3)] [.long (20 : Int64), .long (0 : Int64), .long (Int32.toInt64 v3)] G U := rfl
theorem sg_bb_22 (big : Nat → List Value → qM → qW → qR) (n0 : Nat) (G : qM) (U : qW) (v0 : Int32) : qm_run pm_m big m_44 (n0 + 1) 0 [(0, .ref 8), (1, .int v0)] [] G U = qm_run pm_m big m_44 n0 1 [(0, .ref 8), (1, .int v0)] [.int v0] G U := rfl
theorem sg_bb_23 (big : Nat → List Value → qM → qW → qR) (n0 : Nat) (G : qM) (U : qW) (v0 : Int32) : qm_run pm_m big m_44 (n0 + 6) 88 [(0, .ref 8), (1, .int v0)] [] G U = qm_run pm_m big m_44 n0 96 [(0, .ref 8), (1, .int v0), (2, .int (v0 - (10 : Int32)))] [.int (10 : Int32), .int v0] G U := rfl
theorem sg_bb_24 (big : Nat → List Value → qM → qW → qR) (n0 : Nat) (G : qM) (U : qW) (v0 : Int32) (v1 : Int32) : qm_run pm_m big m_44 (n0 + 2) 99 [(0, .ref 8), (1, .int v0), (2, .int v1)] [] G U = qm_run pm_m big m_44 n0 101 [(0, .ref 8), (1, .int v0), (2, .int v1)] [.int (4 : Int32), .int v1] G U := rfl
theorem sg_bb_25 (big : Nat → List Value → qM → qW → qR) (n0 : Nat) (G : qM) (U : qW) (v0 : Int32) : qm_run pm_m big m_167 (n0 + 1) 0 [(0, .ref 70), (1, .int v0)] [] G U = qm_run pm_m big m_167 n0 1 [(0, .ref 70), (1, .int v0)] [.int v0] G U := rfl
theorem sg_bb_26 (big : Nat → List Value → qM → qW → qR) (n0 : Nat) (G : qM) (U : qW) (v0 : Int32) : qm_run pm_m big m_167 (n0 + 6) 79 [(0, .ref 70), (1, .int v0)] [] G U = qm_run pm_m big m_167 n0 88 [(0, .ref 70), (1, .int v0)] [.long (4 : Int64), .long (1 : Int64), .long (Int32.toInt64 (v0 - (10 : Int32)))] G U := rfl
theorem sg_bb_27 (big : Nat → List Value → qM → qW → qR) (n0 : Nat) (G : qM) (U : qW) (v0 : Int32) (v1 : Int32) : qm_run pm_m big m_45 (n0 + 3) 0 [(0, .ref 8), (1, .int v0), (2, .int v1)] [] G U = qm_run pm_m big m_45 n0 5 [(0, .ref 8), (1, .int v0), (2, .int v1)] [.int v0, .ref 20] G U := rfl
theorem sg_bb_28 (big : Nat → List Value → qM → qW → qR) (n0 : Nat) (G : qM) (U : qW) (v0 : Int32) (v1 : Int32) : qm_run pm_m big m_45 (n0 + 2) 8 [(0, .ref 8), (1, .int v0), (2, .int v1)] [.int (1 : Int32)] G U = qm_run pm_m big m_45 n0 14 [(0, .ref 8), (1, .int v0), (2, .int v1)] [.int v1] G U := rfl
theorem sg_bb_29 (big : Nat → List Value → qM → qW → qR) (n0 : Nat) (G : qM) (U : qW) (v0 : Int32) (v1 : Int32) : qm_run pm_m big m_168 (n0 + 2) 0 [(0, .ref 70), (1, .int v0), (2, .int v1)] [] G U = qm_run pm_m big m_168 n0 2 [(0, .ref 70), (1, .int v0), (2, .int v1)] [.int v0, .ref 70] G U := rfl
theorem sg_bb_30 (big : Nat → List Value → qM → qW → qR) (n0 : Nat) (G : qM) (U : qW) (v0 : Int32) (v1 : Int32) : qm_run pm_m big m_168 (n0 + 4) 8 [(0, .ref 70), (1, .int v0), (2, .int v1)] [] G U = qm_run pm_m big m_168 n0 14 [(0, .ref 70), (1, .int v0), (2, .int v1)] [.long (3 : Int64), .long (0 : Int64), .long (Int32.toInt64 v1)] G U := rfl
def d_risSh (x : Int32) (y : Int32) (g : qM) : Int32 := (if (s_in (Int32.toInt64 x) (0 : Int64) (3 : Int64)) = 0 then (0 : Int32) else (if (s_in (Int32.toInt64 y) (0 : Int64) (2 : Int64)) = 0 then (0 : Int32) else (1 : Int32)))
theorem b_risSh (x : Int32) (y : Int32) (g : qM) (u : qW) : q_BS 220 [.int x, .int y] g u (some (.int (d_risSh x y g)), g, u) := by
  refine q_bx (mm := m_220) rfl (Nat.le_of_ble_eq_true rfl) rfl ?_
  refine q_step 4 6 [(0, .int x), (1, .int y)] [.long (3 : Int64), .long (0 : Int64), .long (Int32.toInt64 x)] g u (fun big n0 => sg_bb_1 big n0 g u x y) ?_
  refine q_call (M2 := 149) (rest := []) (b_in _ _ _ _ _) (fun _ _ => rfl) ?_
  refine q_if_eq rfl (fun (hc0 : (s_in (Int32.toInt64 x) (0 : Int64) (3 : Int64)) = 0) => ?_) (fun (hc0 : ¬ ((s_in (Int32.toInt64 x) (0 : Int64) (3 : Int64)) = 0)) => ?_)
  · refine q_ret 2 (some (.int (0 : Int32)), g, u) (fun _ _ => rfl) ?_
    unfold d_risSh
    rw [if_pos hc0]
  · refine q_step 4 18 [(0, .int x), (1, .int y)] [.long (2 : Int64), .long (0 : Int64), .long (Int32.toInt64 y)] g u (fun big n0 => sg_bb_2 big n0 g u x y) ?_
    refine q_call (M2 := 149) (rest := []) (b_in _ _ _ _ _) (fun _ _ => rfl) ?_
    refine q_if_eq rfl (fun (hc1 : (s_in (Int32.toInt64 y) (0 : Int64) (2 : Int64)) = 0) => ?_) (fun (hc1 : ¬ ((s_in (Int32.toInt64 y) (0 : Int64) (2 : Int64)) = 0)) => ?_)
    · refine q_ret 2 (some (.int (0 : Int32)), g, u) (fun _ _ => rfl) ?_
      unfold d_risSh
      rw [if_neg hc0, if_pos hc1]
    · refine q_ret 3 (some (.int (1 : Int32)), g, u) (fun _ _ => rfl) ?_
      unfold d_risSh
      rw [if_neg hc0, if_neg hc1]
theorem risSh_1 {x y : Int32} {g : qM} (h : ¬ d_risSh x y g = 0) : v_rg 0 3 x ∧ v_rg 0 2 y := by
  unfold d_risSh at h
  by_cases e : s_in (Int32.toInt64 x) (0 : Int64) (3 : Int64) = 0
  · rw [if_pos e] at h
    exact absurd rfl h
  · rw [if_neg e] at h
    by_cases e1 : s_in (Int32.toInt64 y) (0 : Int64) (2 : Int64) = 0
    · rw [if_pos e1] at h
      exact absurd rfl h
    · exact ⟨vr_r (lo := 0) (hi := 3) (by omega) (by omega) e, vr_r (lo := 0) (hi := 2) (by omega) (by omega) e1⟩
theorem cb_goal {n W H : Nat} (g : qM) (u : qW) (hn : g 20 3 = Int32.ofNat n) (hW : g 20 0 = Int32.ofNat W) (hH : g 20 1 = Int32.ofNat H) (h6 : n ≤ 6) (h25 : W * H ≤ 25) (x : Int32) (y : Int32) (hb : ¬ (v_one n x ∧ (y = i_none ∨ v_one (W * H) y))) : q_BS 52 [.ref 8, .int x, .int y] g u (some (.int (Int32.ofInt (-1))), g, u) := by
  refine q_bx (mm := m_52) rfl (Nat.le_of_ble_eq_true rfl) rfl ?_
  refine q_step 3 5 [(0, .ref 8), (1, .int x), (2, .int y)] [.int x, .ref 20] g u (fun big n0 => sg_bb_3 big n0 g u x y) ?_
  refine q_call (M2 := 40) (rest := []) (b_hasOne _ _ _) (fun _ _ => rfl) ?_
  refine q_if_eq rfl (fun (hc0 : (d_hasOne x g) = 0) => ?_) (fun (hc0 : ¬ ((d_hasOne x g) = 0)) => ?_)
  · refine q_ret 2 (some (.int (Int32.ofInt (-1))), g, u) (fun _ _ => rfl) ?_
    rfl
  · refine q_step 2 14 [(0, .ref 8), (1, .int x), (2, .int y)] [.int (Int8.toInt32 (Int8.ofInt (-4))), .int y] g u (fun big n0 => sg_bb_4 big n0 g u x y) ?_
    refine q_ic_eq rfl (fun (hc1 : y = (Int8.toInt32 (Int8.ofInt (-4)))) => ?_) (fun (hc1 : ¬ (y = (Int8.toInt32 (Int8.ofInt (-4))))) => ?_)
    · exact absurd (show v_one n x ∧ (y = i_none ∨ v_one (W * H) y) from ⟨vo_c hn h6 hc0, Or.inl hc1⟩) hb
    · refine q_step 3 22 [(0, .ref 8), (1, .int x), (2, .int y)] [.int y, .ref 20] g u (fun big n0 => sg_bb_5 big n0 g u x y) ?_
      refine q_call (M2 := 38) (rest := []) (b_hasCell _ _ _) (fun _ _ => rfl) ?_
      refine q_if_ne rfl (fun (hc2 : (d_hasCell y g) = 0) => ?_) (fun (hc2 : ¬ ((d_hasCell y g) = 0)) => ?_)
      · refine q_ret 2 (some (.int (Int32.ofInt (-1))), g, u) (fun _ _ => rfl) ?_
        rfl
      · exact absurd (show v_one n x ∧ (y = i_none ∨ v_one (W * H) y) from ⟨vo_c hn h6 hc0, Or.inr (vc_c hW hH h25 hc2)⟩) hb
theorem rb_goal {n W H : Nat} (g : qM) (u : qW) (hn : g 70 4 = Int32.ofNat n) (hW : g 70 2 = Int32.ofNat W) (hH : g 70 3 = Int32.ofNat H) (h6 : n ≤ 6) (h25 : W * H ≤ 25) (x : Int32) (y : Int32) (hb : ¬ (v_one n x ∧ (y = i_none ∨ v_one (W * H) y))) : q_BS 179 [.ref 70, .int x, .int y] g u (some (.int (Int32.ofInt (-1))), g, u) := by
  refine q_bx (mm := m_179) rfl (Nat.le_of_ble_eq_true rfl) rfl ?_
  refine q_step 2 2 [(0, .ref 70), (1, .int x), (2, .int y)] [.int x, .ref 70] g u (fun big n0 => sg_bb_6 big n0 g u x y) ?_
  refine q_call (M2 := 169) (rest := []) (b_risOne _ _ _) (fun _ _ => rfl) ?_
  refine q_if_eq rfl (fun (hc0 : (d_risOne x g) = 0) => ?_) (fun (hc0 : ¬ ((d_risOne x g) = 0)) => ?_)
  · refine q_ret 2 (some (.int (Int32.ofInt (-1))), g, u) (fun _ _ => rfl) ?_
    rfl
  · refine q_step 2 11 [(0, .ref 70), (1, .int x), (2, .int y)] [.int (Int8.toInt32 (Int8.ofInt (-4))), .int y] g u (fun big n0 => sg_bb_7 big n0 g u x y) ?_
    refine q_ic_eq rfl (fun (hc1 : y = (Int8.toInt32 (Int8.ofInt (-4)))) => ?_) (fun (hc1 : ¬ (y = (Int8.toInt32 (Int8.ofInt (-4))))) => ?_)
    · exact absurd (show v_one n x ∧ (y = i_none ∨ v_one (W * H) y) from ⟨vo_r hn h6 hc0, Or.inl hc1⟩) hb
    · refine q_step 2 16 [(0, .ref 70), (1, .int x), (2, .int y)] [.int y, .ref 70] g u (fun big n0 => sg_bb_8 big n0 g u x y) ?_
      refine q_call (M2 := 171) (rest := []) (b_risCell _ _ _) (fun _ _ => rfl) ?_
      refine q_if_eq rfl (fun (hc2 : (d_risCell y g) = 0) => ?_) (fun (hc2 : ¬ ((d_risCell y g) = 0)) => ?_)
      · refine q_ret 2 (some (.int (Int32.ofInt (-1))), g, u) (fun _ _ => rfl) ?_
        rfl
      · exact absurd (show v_one n x ∧ (y = i_none ∨ v_one (W * H) y) from ⟨vo_r hn h6 hc0, Or.inr (vc_r hW hH h25 hc2)⟩) hb
theorem cb_sheet {n W H : Nat} (g : qM) (u : qW) (hn : g 20 3 = Int32.ofNat n) (hW : g 20 0 = Int32.ofNat W) (hH : g 20 1 = Int32.ofNat H) (h6 : n ≤ 6) (h25 : W * H ≤ 25) (x : Int32) (y : Int32) (z : Int32) (hb : ¬ (v_rg 0 3 x ∧ v_rg 0 2 y ∧ z ≤ (40 : Int32))) : q_BS 130 [.ref 8, .int x, .int y, .int z] g u (some (.int (Int32.ofInt (-1))), g, u) := by
  refine q_bx (mm := m_130) rfl (Nat.le_of_ble_eq_true rfl) rfl ?_
  refine q_step 1 1 [(0, .ref 8), (1, .int x), (2, .int y), (3, .int z)] [.int x] g u (fun big n0 => sg_bb_9 big n0 g u x y z) ?_
  refine q_call (M2 := 131) (rest := []) (b_isSheet _ _ _) (fun _ _ => rfl) ?_
  refine q_if_eq rfl (fun (hc0 : (d_isSheet x g) = 0) => ?_) (fun (hc0 : ¬ ((d_isSheet x g) = 0)) => ?_)
  · refine q_ret 2 (some (.int (Int32.ofInt (-1))), g, u) (fun _ _ => rfl) ?_
    rfl
  · refine q_step 1 8 [(0, .ref 8), (1, .int x), (2, .int y), (3, .int z)] [.int y] g u (fun big n0 => sg_bb_10 big n0 g u x y z) ?_
    refine q_call (M2 := 132) (rest := []) (b_isLane _ _ _) (fun _ _ => rfl) ?_
    refine q_if_eq rfl (fun (hc1 : (d_isLane y g) = 0) => ?_) (fun (hc1 : ¬ ((d_isLane y g) = 0)) => ?_)
    · refine q_ret 2 (some (.int (Int32.ofInt (-1))), g, u) (fun _ _ => rfl) ?_
      rfl
    · refine q_step 2 17 [(0, .ref 8), (1, .int x), (2, .int y), (3, .int z)] [.int (40 : Int32), .int z] g u (fun big n0 => sg_bb_11 big n0 g u x y z) ?_
      refine q_ic_le rfl (fun (hc2 : z ≤ (40 : Int32)) => ?_) (fun (hc2 : ¬ (z ≤ (40 : Int32))) => ?_)
      · exact absurd (show v_rg 0 3 x ∧ v_rg 0 2 y ∧ z ≤ (40 : Int32) from ⟨vr_sheet hc0, vr_lane hc1, hc2⟩) hb
      · refine q_ret 2 (some (.int (Int32.ofInt (-1))), g, u) (fun _ _ => rfl) ?_
        rfl
theorem rb_sheet {n W H : Nat} (g : qM) (u : qW) (hn : g 70 4 = Int32.ofNat n) (hW : g 70 2 = Int32.ofNat W) (hH : g 70 3 = Int32.ofNat H) (h6 : n ≤ 6) (h25 : W * H ≤ 25) (x : Int32) (y : Int32) (z : Int32) (hb : ¬ (v_rg 0 3 x ∧ v_rg 0 2 y ∧ z ≤ (40 : Int32))) : q_BS 219 [.ref 70, .int x, .int y, .int z] g u (some (.int (Int32.ofInt (-1))), g, u) := by
  refine q_bx (mm := m_219) rfl (Nat.le_of_ble_eq_true rfl) rfl ?_
  refine q_step 2 2 [(0, .ref 70), (1, .int x), (2, .int y), (3, .int z)] [.int y, .int x] g u (fun big n0 => sg_bb_12 big n0 g u x y z) ?_
  refine q_call (M2 := 220) (rest := []) (b_risSh _ _ _ _) (fun _ _ => rfl) ?_
  refine q_if_eq rfl (fun (hc0 : (d_risSh x y g) = 0) => ?_) (fun (hc0 : ¬ ((d_risSh x y g) = 0)) => ?_)
  · refine q_ret 2 (some (.int (Int32.ofInt (-1))), g, u) (fun _ _ => rfl) ?_
    rfl
  · refine q_step 2 11 [(0, .ref 70), (1, .int x), (2, .int y), (3, .int z)] [.int (40 : Int32), .int z] g u (fun big n0 => sg_bb_13 big n0 g u x y z) ?_
    refine q_ic_le rfl (fun (hc1 : z ≤ (40 : Int32)) => ?_) (fun (hc1 : ¬ (z ≤ (40 : Int32))) => ?_)
    · exact absurd (show v_rg 0 3 x ∧ v_rg 0 2 y ∧ z ≤ (40 : Int32) from ⟨(risSh_1 hc0).1, (risSh_1 hc0).2, hc1⟩) hb
    · refine q_ret 2 (some (.int (Int32.ofInt (-1))), g, u) (fun _ _ => rfl) ?_
      rfl
theorem cb_lay {n W H : Nat} (g : qM) (u : qW) (hn : g 20 3 = Int32.ofNat n) (hW : g 20 0 = Int32.ofNat W) (hH : g 20 1 = Int32.ofNat H) (h6 : n ≤ 6) (h25 : W * H ≤ 25) (x : Int32) (y : Int32) (z : Int32) (hb : ¬ (v_rg 0 3 x)) : q_BS 134 [.ref 8, .int x, .int y, .int z] g u (some (.int (Int32.ofInt (-1))), g, u) := by
  refine q_bx (mm := m_134) rfl (Nat.le_of_ble_eq_true rfl) rfl ?_
  refine q_step 1 1 [(0, .ref 8), (1, .int x), (2, .int y), (3, .int z)] [.int x] g u (fun big n0 => sg_bb_14 big n0 g u x y z) ?_
  refine q_call (M2 := 131) (rest := []) (b_isSheet _ _ _) (fun _ _ => rfl) ?_
  refine q_if_ne rfl (fun (hc0 : (d_isSheet x g) = 0) => ?_) (fun (hc0 : ¬ ((d_isSheet x g) = 0)) => ?_)
  · refine q_ret 2 (some (.int (Int32.ofInt (-1))), g, u) (fun _ _ => rfl) ?_
    rfl
  · exact absurd (vr_sheet hc0) hb
theorem rb_lay {n W H : Nat} (g : qM) (u : qW) (hn : g 70 4 = Int32.ofNat n) (hW : g 70 2 = Int32.ofNat W) (hH : g 70 3 = Int32.ofNat H) (h6 : n ≤ 6) (h25 : W * H ≤ 25) (x : Int32) (y : Int32) (z : Int32) (hb : ¬ (v_rg 0 3 x)) : q_BS 221 [.ref 70, .int x, .int y, .int z] g u (some (.int (Int32.ofInt (-1))), g, u) := by
  refine q_bx (mm := m_221) rfl (Nat.le_of_ble_eq_true rfl) rfl ?_
  refine q_step 2 2 [(0, .ref 70), (1, .int x), (2, .int y), (3, .int z)] [.int (0 : Int32), .int x] g u (fun big n0 => sg_bb_15 big n0 g u x y z) ?_
  refine q_call (M2 := 220) (rest := []) (b_risSh _ _ _ _) (fun _ _ => rfl) ?_
  refine q_if_ne rfl (fun (hc0 : (d_risSh x (0 : Int32) g) = 0) => ?_) (fun (hc0 : ¬ ((d_risSh x (0 : Int32) g) = 0)) => ?_)
  · refine q_ret 2 (some (.int (Int32.ofInt (-1))), g, u) (fun _ _ => rfl) ?_
    rfl
  · exact absurd ((risSh_1 hc0).1) hb
theorem cb_read {n W H : Nat} (g : qM) (u : qW) (hn : g 20 3 = Int32.ofNat n) (hW : g 20 0 = Int32.ofNat W) (hH : g 20 1 = Int32.ofNat H) (h6 : n ≤ 6) (h25 : W * H ≤ 25) (x : Int32) (y : Int32) (z : Int32) (w : Int32) (hb : ¬ (v_rg 0 3 x ∧ v_rg 0 2 y ∧ v_rg 0 20 w)) : q_BS 138 [.ref 8, .int x, .int y, .int z, .int w] g u (some (.int (Int32.ofInt (-1))), g, u) := by
  refine q_bx (mm := m_138) rfl (Nat.le_of_ble_eq_true rfl) rfl ?_
  refine q_step 1 1 [(0, .ref 8), (1, .int x), (2, .int y), (3, .int z), (4, .int w)] [.int x] g u (fun big n0 => sg_bb_16 big n0 g u x y z w) ?_
  refine q_call (M2 := 131) (rest := []) (b_isSheet _ _ _) (fun _ _ => rfl) ?_
  refine q_if_eq rfl (fun (hc0 : (d_isSheet x g) = 0) => ?_) (fun (hc0 : ¬ ((d_isSheet x g) = 0)) => ?_)
  · refine q_ret 2 (some (.int (Int32.ofInt (-1))), g, u) (fun _ _ => rfl) ?_
    rfl
  · refine q_step 1 8 [(0, .ref 8), (1, .int x), (2, .int y), (3, .int z), (4, .int w)] [.int y] g u (fun big n0 => sg_bb_17 big n0 g u x y z w) ?_
    refine q_call (M2 := 132) (rest := []) (b_isLane _ _ _) (fun _ _ => rfl) ?_
    refine q_if_eq rfl (fun (hc1 : (d_isLane y g) = 0) => ?_) (fun (hc1 : ¬ ((d_isLane y g) = 0)) => ?_)
    · refine q_ret 2 (some (.int (Int32.ofInt (-1))), g, u) (fun _ _ => rfl) ?_
      rfl
    · refine q_step 1 16 [(0, .ref 8), (1, .int x), (2, .int y), (3, .int z), (4, .int w)] [.int w] g u (fun big n0 => sg_bb_18 big n0 g u x y z w) ?_
      refine q_if_lt rfl (fun (hc2 : w < 0) => ?_) (fun (hc2 : ¬ (w < 0)) => ?_)
      · refine q_ret 2 (some (.int (Int32.ofInt (-1))), g, u) (fun _ _ => rfl) ?_
        rfl
      · refine q_step 2 23 [(0, .ref 8), (1, .int x), (2, .int y), (3, .int z), (4, .int w)] [.int (20 : Int32), .int w] g u (fun big n0 => sg_bb_19 big n0 g u x y z w) ?_
        refine q_ic_le rfl (fun (hc3 : w ≤ (20 : Int32)) => ?_) (fun (hc3 : ¬ (w ≤ (20 : Int32))) => ?_)
        · exact absurd (show v_rg 0 3 x ∧ v_rg 0 2 y ∧ v_rg 0 20 w from ⟨vr_sheet hc0, vr_lane hc1, vr_c' (lo := 0) (hi := 20) (by omega) (by omega) hc2 hc3⟩) hb
        · refine q_ret 2 (some (.int (Int32.ofInt (-1))), g, u) (fun _ _ => rfl) ?_
          rfl
theorem rb_read {n W H : Nat} (g : qM) (u : qW) (hn : g 70 4 = Int32.ofNat n) (hW : g 70 2 = Int32.ofNat W) (hH : g 70 3 = Int32.ofNat H) (h6 : n ≤ 6) (h25 : W * H ≤ 25) (x : Int32) (y : Int32) (z : Int32) (w : Int32) (hb : ¬ (v_rg 0 3 x ∧ v_rg 0 2 y ∧ v_rg 0 20 w)) : q_BS 222 [.ref 70, .int x, .int y, .int z, .int w] g u (some (.int (Int32.ofInt (-1))), g, u) := by
  refine q_bx (mm := m_222) rfl (Nat.le_of_ble_eq_true rfl) rfl ?_
  refine q_step 2 2 [(0, .ref 70), (1, .int x), (2, .int y), (3, .int z), (4, .int w)] [.int y, .int x] g u (fun big n0 => sg_bb_20 big n0 g u x y z w) ?_
  refine q_call (M2 := 220) (rest := []) (b_risSh _ _ _ _) (fun _ _ => rfl) ?_
  refine q_if_eq rfl (fun (hc0 : (d_risSh x y g) = 0) => ?_) (fun (hc0 : ¬ ((d_risSh x y g) = 0)) => ?_)
  · refine q_ret 2 (some (.int (Int32.ofInt (-1))), g, u) (fun _ _ => rfl) ?_
    rfl
  · refine q_step 4 15 [(0, .ref 70), (1, .int x), (2, .int y), (3, .int z), (4, .int w)] [.long (20 : Int64), .long (0 : Int64), .long (Int32.toInt64 w)] g u (fun big n0 => sg_bb_21 big n0 g u x y z w) ?_
    refine q_call (M2 := 149) (rest := []) (b_in _ _ _ _ _) (fun _ _ => rfl) ?_
    refine q_if_ne rfl (fun (hc1 : (s_in (Int32.toInt64 w) (0 : Int64) (20 : Int64)) = 0) => ?_) (fun (hc1 : ¬ ((s_in (Int32.toInt64 w) (0 : Int64) (20 : Int64)) = 0)) => ?_)
    · refine q_ret 2 (some (.int (Int32.ofInt (-1))), g, u) (fun _ _ => rfl) ?_
      rfl
    · exact absurd (show v_rg 0 3 x ∧ v_rg 0 2 y ∧ v_rg 0 20 w from ⟨(risSh_1 hc0).1, (risSh_1 hc0).2, vr_r (lo := 0) (hi := 20) (by omega) (by omega) hc1⟩) hb
theorem v_1114 {x : Int32} (h1 : ¬ x ≤ 10) (h2 : ¬ (4 : Int32) < x - 10) : v_rg 11 14 x := by
  rw [Int32.le_iff_toInt_le] at h1
  rw [Int32.lt_iff_toInt_lt] at h2
  have z4 : (4 : Int32).toInt = 4 := rfl
  have z10 : (10 : Int32).toInt = 10 := rfl
  have hb := Int32.toInt_lt x
  rw [s_sub (by omega) (by omega)] at h2
  exact v_nat (by omega) (by omega)
theorem v_1114r {x : Int32} (h : ¬ s_in (Int32.toInt64 (x - 10)) 1 4 = 0) (hx : x.toInt < 0 ∨ 5 < x.toInt) : v_rg 11 14 x := by
  have z := s_in_i.mp h
  have z1 : (1 : Int64).toInt = 1 := rfl
  have z4 : (4 : Int64).toInt = 4 := rfl
  have z10 : (10 : Int32).toInt = 10 := rfl
  have hb := Int32.toInt_lt x
  have hl := Int32.le_toInt x
  rw [z1, z4] at z
  have e : x = (x - 10) + 10 := (Int32.sub_add_cancel x 10).symm
  have e2 : x.toInt = (x - 10).toInt + 10 := by
    have y := congrArg Int32.toInt e
    rw [s_add (by omega) (by omega), z10] at y
    exact y
  exact v_nat (by omega) (by omega)
theorem cb_rule (g : qM) (u : qW) (x : Int32) (hx : x.toInt < 0 ∨ 5 < x.toInt) (hb : ¬ v_rg 11 14 x) : q_BS 44 [.ref 8, .int x] g u (some (.int (Int32.ofInt (-1))), g, u) := by
  refine q_bx (mm := m_44) rfl (Nat.le_of_ble_eq_true rfl) rfl ?_
  refine q_step 1 1 [(0, .ref 8), (1, .int x)] [.int x] g u (fun big n0 => sg_bb_22 big n0 g u x) ?_
  refine q_tswd (tgt := 88) rfl (hx) (by decide) ?_
  refine q_step 6 96 [(0, .ref 8), (1, .int x), (2, .int (x - (10 : Int32)))] [.int (10 : Int32), .int x] g u (fun big n0 => sg_bb_23 big n0 g u x) ?_
  refine q_ic_le rfl (fun (hc0 : x ≤ (10 : Int32)) => ?_) (fun (hc0 : ¬ (x ≤ (10 : Int32))) => ?_)
  · refine q_ret 2 (some (.int (Int32.ofInt (-1))), g, u) (fun _ _ => rfl) ?_
    rfl
  · refine q_step 2 101 [(0, .ref 8), (1, .int x), (2, .int (x - (10 : Int32)))] [.int (4 : Int32), .int (x - (10 : Int32))] g u (fun big n0 => sg_bb_24 big n0 g u x (x - (10 : Int32))) ?_
    refine q_ic_gt rfl (fun (hc1 : (4 : Int32) < (x - (10 : Int32))) => ?_) (fun (hc1 : ¬ ((4 : Int32) < (x - (10 : Int32)))) => ?_)
    · refine q_ret 2 (some (.int (Int32.ofInt (-1))), g, u) (fun _ _ => rfl) ?_
      rfl
    · exact absurd (v_1114 hc0 hc1) hb
theorem rb_rule (g : qM) (u : qW) (x : Int32) (hx : x.toInt < 0 ∨ 5 < x.toInt) (hb : ¬ v_rg 11 14 x) : q_BS 167 [.ref 70, .int x] g u (some (.int (Int32.ofInt (-1))), g, u) := by
  refine q_bx (mm := m_167) rfl (Nat.le_of_ble_eq_true rfl) rfl ?_
  refine q_step 1 1 [(0, .ref 70), (1, .int x)] [.int x] g u (fun big n0 => sg_bb_25 big n0 g u x) ?_
  refine q_tswd (tgt := 79) rfl (hx) (by decide) ?_
  refine q_step 6 88 [(0, .ref 70), (1, .int x)] [.long (4 : Int64), .long (1 : Int64), .long (Int32.toInt64 (x - (10 : Int32)))] g u (fun big n0 => sg_bb_26 big n0 g u x) ?_
  refine q_call (M2 := 149) (rest := []) (b_in _ _ _ _ _) (fun _ _ => rfl) ?_
  refine q_if_eq rfl (fun (hc0 : (s_in (Int32.toInt64 (x - (10 : Int32))) (1 : Int64) (4 : Int64)) = 0) => ?_) (fun (hc0 : ¬ ((s_in (Int32.toInt64 (x - (10 : Int32))) (1 : Int64) (4 : Int64)) = 0)) => ?_)
  · refine q_ret 2 (some (.int (Int32.ofInt (-1))), g, u) (fun _ _ => rfl) ?_
    rfl
  · exact absurd (v_1114r hc0 hx) hb
theorem cb_one {n : Nat} (g : qM) (u : qW) (hn : g 20 3 = Int32.ofNat n) (h6 : n ≤ 6) (x y : Int32) (hb : ¬ v_one n x) : q_BS 45 [.ref 8, .int x, .int y] g u (some (.int (Int32.ofInt (-1))), g, u) := by
  refine q_bx (mm := m_45) rfl (Nat.le_of_ble_eq_true rfl) rfl ?_
  refine q_step 3 5 [(0, .ref 8), (1, .int x), (2, .int y)] [.int x, .ref 20] g u (fun big n0 => sg_bb_27 big n0 g u x y) ?_
  refine q_call (M2 := 40) (rest := []) (b_hasOne _ _ _) (fun _ _ => rfl) ?_
  refine q_if_ne rfl (fun (hc0 : (d_hasOne x g) = 0) => ?_) (fun (hc0 : ¬ ((d_hasOne x g) = 0)) => ?_)
  · refine q_ret 2 (some (.int (Int32.ofInt (-1))), g, u) (fun _ _ => rfl) ?_
    rfl
  · exact absurd (vo_c hn h6 hc0) hb
theorem cb_one2 {n p : Nat} (g : qM) (u : qW) (hn : g 20 3 = Int32.ofNat n) (h6 : n ≤ 6) (hp : p < n) (y : Int32) (hx : y.toInt < 0 ∨ 3 < y.toInt) : q_BS 45 [.ref 8, .int (Int32.ofNat p), .int y] g u (some (.int (Int32.ofInt (-1))), g, u) := by
  refine q_bx (mm := m_45) rfl (Nat.le_of_ble_eq_true rfl) rfl ?_
  refine q_step 3 5 [(0, .ref 8), (1, .int (Int32.ofNat p)), (2, .int y)] [.int (Int32.ofNat p), .ref 20] g u (fun big n0 => sg_bb_27 big n0 g u (Int32.ofNat p) y) ?_
  refine q_call (M2 := 40) (rest := []) (b_hasOne1 g u hn h6 hp) (fun _ _ => rfl) ?_
  refine q_step 2 14 [(0, .ref 8), (1, .int (Int32.ofNat p)), (2, .int y)] [.int y] g u (fun big n0 => sg_bb_28 big n0 g u (Int32.ofNat p) y) ?_
  refine q_tswd (tgt := 84) rfl (hx) (by decide) ?_
  refine q_ret 2 (some (.int (Int32.ofInt (-1))), g, u) (fun _ _ => rfl) ?_
  rfl
theorem rb_one {n : Nat} (g : qM) (u : qW) (hn : g 70 4 = Int32.ofNat n) (h6 : n ≤ 6) (x y : Int32) (hb : ¬ (v_one n x ∧ v_rg 0 3 y)) : q_BS 168 [.ref 70, .int x, .int y] g u (some (.int (Int32.ofInt (-1))), g, u) := by
  refine q_bx (mm := m_168) rfl (Nat.le_of_ble_eq_true rfl) rfl ?_
  refine q_step 2 2 [(0, .ref 70), (1, .int x), (2, .int y)] [.int x, .ref 70] g u (fun big n0 => sg_bb_29 big n0 g u x y) ?_
  refine q_call (M2 := 169) (rest := []) (b_risOne _ _ _) (fun _ _ => rfl) ?_
  refine q_if_eq rfl (fun (hc0 : (d_risOne x g) = 0) => ?_) (fun (hc0 : ¬ ((d_risOne x g) = 0)) => ?_)
  · refine q_ret 2 (some (.int (Int32.ofInt (-1))), g, u) (fun _ _ => rfl) ?_
    rfl
  · refine q_step 4 14 [(0, .ref 70), (1, .int x), (2, .int y)] [.long (3 : Int64), .long (0 : Int64), .long (Int32.toInt64 y)] g u (fun big n0 => sg_bb_30 big n0 g u x y) ?_
    refine q_call (M2 := 149) (rest := []) (b_in _ _ _ _ _) (fun _ _ => rfl) ?_
    refine q_if_eq rfl (fun (hc1 : (s_in (Int32.toInt64 y) (0 : Int64) (3 : Int64)) = 0) => ?_) (fun (hc1 : ¬ ((s_in (Int32.toInt64 y) (0 : Int64) (3 : Int64)) = 0)) => ?_)
    · refine q_ret 2 (some (.int (Int32.ofInt (-1))), g, u) (fun _ _ => rfl) ?_
      rfl
    · exact absurd ⟨vo_r hn h6 hc0, vr_r (lo := 0) (hi := 3) (by omega) (by omega) hc1⟩ hb
end
section
/-! THE RELATION of all cells. -/
/-- a town's rows tell the same as st, and are in order -/
def TT (n W H z : Nat) (f c m s go pu so sw st : Nat → Int32) : Prop := (f 0 = Int32.ofNat W ∧ f 1 = Int32.ofNat H ∧ f 2 = st 20 ∧ f 3 = Int32.ofNat n ∧ f 4 = st 25 ∧ f 5 = st 26 ∧ f 6 = Int32.ofNat z ∧ st 27 = Int32.ofNat z) ∧ (2 ≤ W ∧ W ≤ 5 ∧ 2 ≤ H ∧ H ≤ 5 ∧ n ≤ 5 ∧ z ≤ 8) ∧ (∃ t, t ≤ 999 ∧ st 26 = Int32.ofNat t) ∧ (∀ d, 1 ≤ d → d ≤ 4 → pu d = st (20 + d)) ∧ (∀ p, p < n → c p = st p ∧ m p = st (5 + p) ∧ s p = st (10 + p) ∧ go p = st (15 + p)) ∧ (∀ k, k < z → so k = st (28 + 2 * k) ∧ sw k = st (29 + 2 * k) ∧ ∃ q, q < n ∧ so k = Int32.ofNat q) ∧ (∀ p, p < n → ∃ C, C < W * H ∧ st p = Int32.ofNat C) ∧ (∀ p q, p < n → q < n → p ≠ q → st p ≠ st q) ∧ (∀ p, p < n → s_bit (st 20) (st p) = 0) ∧ (∀ q, q < 5 → st (5 + q) = 0 ∨ st (5 + q) = 1 ∨ st (5 + q) = 2 ∨ st (5 + q) = 3) ∧ (∀ p, p < n → st (10 + p) = 0 ∨ st (10 + p) = 1)
theorem q_up_s {g : qM} {a j : Nat} {x : Int32} : q_up g a j x a = s_set (g a) j x := by
  funext i
  rw [q_up_at]
  rfl
theorem TT.cg {n W H z : Nat} {f c m s go pu so sw st st' : Nat → Int32} (h : TT n W H z f c m s go pu so sw st) (e : ∀ j, j < 44 → st' j = st j) : TT n W H z f c m s go pu so sw st' := by
  obtain ⟨t1, t2, t3, t4, t5, t6, t7, t8, t9, t10, t11⟩ := h
  unfold TT
  rw [e 20 (by omega), e 25 (by omega), e 26 (by omega), e 27 (by omega)]
  refine ⟨t1, t2, t3, fun d h1 h2 => ?_, fun p hp => ?_, fun k hk => ?_, fun p hp => ?_, fun p q hp hq hpq => ?_, fun p hp => ?_, fun q hq => ?_, fun p hp => ?_⟩
  · rw [e (20 + d) (by omega)]; exact t4 d h1 h2
  · rw [e p (by omega), e (5 + p) (by omega), e (10 + p) (by omega), e (15 + p) (by omega)]; exact t5 p hp
  · rw [e (28 + 2 * k) (by omega), e (29 + 2 * k) (by omega)]; exact t6 k hk
  · rw [e p (by omega)]; exact t7 p hp
  · rw [e p (by omega), e q (by omega)]; exact t8 p q hp hq hpq
  · rw [e p (by omega)]; exact t9 p hp
  · rw [e (5 + q) (by omega)]; exact t10 q hq
  · rw [e (10 + p) (by omega)]; exact t11 p hp
section TTU
variable {n W H z : Nat} {f c m s go pu so sw st : Nat → Int32}
theorem TT.mood (h : TT n W H z f c m s go pu so sw st) {p : Nat} {v : Int32} (hp : p < n) (hv : v = 0 ∨ v = 1 ∨ v = 2 ∨ v = 3) : TT n W H z f c (s_set m p v) s go pu so sw (s_set st (5 + p) v) := by
  obtain ⟨t1, t2, t3, t4, t5, t6, t7, t8, t9, t10, t11⟩ := h
  unfold TT
  rw [s_set_ne st v (show 20 ≠ 5 + p by omega), s_set_ne st v (show 25 ≠ 5 + p by omega), s_set_ne st v (show 26 ≠ 5 + p by omega), s_set_ne st v (show 27 ≠ 5 + p by omega)]
  refine ⟨t1, t2, t3, fun d h1 h2 => ?_, fun q hq => ?_, fun k hk => ?_, fun q hq => ?_, fun q r hq hr hqr => ?_, fun q hq => ?_, fun q hq => ?_, fun q hq => ?_⟩
  · rw [s_set_ne _ _ (by omega)]; exact t4 d h1 h2
  · rw [s_set_ne st v (show q ≠ 5 + p by omega), s_set_ne st v (show 10 + q ≠ 5 + p by omega), s_set_ne st v (show 15 + q ≠ 5 + p by omega)]
    have y := t5 q hq
    by_cases e : q = p
    · subst e
      rw [s_set_i, s_set_i]
      exact ⟨y.1, rfl, y.2.2⟩
    · rw [s_set_ne _ _ e, s_set_ne _ _ (show 5 + q ≠ 5 + p by omega)]
      exact y
  · rw [s_set_ne _ _ (by omega), s_set_ne _ _ (by omega)]; exact t6 k hk
  · rw [s_set_ne _ _ (by omega)]; exact t7 q hq
  · rw [s_set_ne _ _ (by omega), s_set_ne _ _ (by omega)]; exact t8 q r hq hr hqr
  · rw [s_set_ne _ _ (by omega)]; exact t9 q hq
  · by_cases e : q = p
    · subst e
      rw [s_set_i]
      exact hv
    · rw [s_set_ne _ _ (by omega)]; exact t10 q hq
  · rw [s_set_ne _ _ (by omega)]; exact t11 q hq
theorem TT.hold (h : TT n W H z f c m s go pu so sw st) {p : Nat} {v : Int32} (hp : p < n) (hv : v = 0 ∨ v = 1) : TT n W H z f c m (s_set s p v) go pu so sw (s_set st (10 + p) v) := by
  obtain ⟨t1, t2, t3, t4, t5, t6, t7, t8, t9, t10, t11⟩ := h
  unfold TT
  rw [s_set_ne st v (show 20 ≠ 10 + p by omega), s_set_ne st v (show 25 ≠ 10 + p by omega), s_set_ne st v (show 26 ≠ 10 + p by omega), s_set_ne st v (show 27 ≠ 10 + p by omega)]
  refine ⟨t1, t2, t3, fun d h1 h2 => ?_, fun q hq => ?_, fun k hk => ?_, fun q hq => ?_, fun q r hq hr hqr => ?_, fun q hq => ?_, fun q hq => ?_, fun q hq => ?_⟩
  · rw [s_set_ne _ _ (by omega)]; exact t4 d h1 h2
  · rw [s_set_ne st v (show q ≠ 10 + p by omega), s_set_ne st v (show 5 + q ≠ 10 + p by omega), s_set_ne st v (show 15 + q ≠ 10 + p by omega)]
    have y := t5 q hq
    by_cases e : q = p
    · subst e
      rw [s_set_i, s_set_i]
      exact ⟨y.1, y.2.1, rfl, y.2.2.2⟩
    · rw [s_set_ne _ _ e, s_set_ne _ _ (show 10 + q ≠ 10 + p by omega)]
      exact y
  · rw [s_set_ne _ _ (by omega), s_set_ne _ _ (by omega)]; exact t6 k hk
  · rw [s_set_ne _ _ (by omega)]; exact t7 q hq
  · rw [s_set_ne _ _ (by omega), s_set_ne _ _ (by omega)]; exact t8 q r hq hr hqr
  · rw [s_set_ne _ _ (by omega)]; exact t9 q hq
  · rw [s_set_ne _ _ (by omega)]; exact t10 q hq
  · by_cases e : q = p
    · subst e
      rw [s_set_i]
      exact hv
    · rw [s_set_ne _ _ (by omega)]; exact t11 q hq
theorem TT.goal (h : TT n W H z f c m s go pu so sw st) {p : Nat} {v : Int32} (hp : p < n) : TT n W H z f c m s (s_set go p v) pu so sw (s_set st (15 + p) v) := by
  obtain ⟨t1, t2, t3, t4, t5, t6, t7, t8, t9, t10, t11⟩ := h
  unfold TT
  rw [s_set_ne st v (show 20 ≠ 15 + p by omega), s_set_ne st v (show 25 ≠ 15 + p by omega), s_set_ne st v (show 26 ≠ 15 + p by omega), s_set_ne st v (show 27 ≠ 15 + p by omega)]
  refine ⟨t1, t2, t3, fun d h1 h2 => ?_, fun q hq => ?_, fun k hk => ?_, fun q hq => ?_, fun q r hq hr hqr => ?_, fun q hq => ?_, fun q hq => ?_, fun q hq => ?_⟩
  · rw [s_set_ne _ _ (by omega)]; exact t4 d h1 h2
  · rw [s_set_ne st v (show q ≠ 15 + p by omega), s_set_ne st v (show 5 + q ≠ 15 + p by omega), s_set_ne st v (show 10 + q ≠ 15 + p by omega)]
    have y := t5 q hq
    by_cases e : q = p
    · subst e
      rw [s_set_i, s_set_i]
      exact ⟨y.1, y.2.1, y.2.2.1, rfl⟩
    · rw [s_set_ne _ _ e, s_set_ne _ _ (show 15 + q ≠ 15 + p by omega)]
      exact y
  · rw [s_set_ne _ _ (by omega), s_set_ne _ _ (by omega)]; exact t6 k hk
  · rw [s_set_ne _ _ (by omega)]; exact t7 q hq
  · rw [s_set_ne _ _ (by omega), s_set_ne _ _ (by omega)]; exact t8 q r hq hr hqr
  · rw [s_set_ne _ _ (by omega)]; exact t9 q hq
  · rw [s_set_ne _ _ (by omega)]; exact t10 q hq
  · rw [s_set_ne _ _ (by omega)]; exact t11 q hq
theorem TT.put (h : TT n W H z f c m s go pu so sw st) {p C : Nat} (hp : p < n) (hC : C < W * H) (hw : s_bit (st 20) (Int32.ofNat C) = 0) (hd : ∀ q, q < n → q ≠ p → st q ≠ Int32.ofNat C) : TT n W H z f (s_set c p (Int32.ofNat C)) m s go pu so sw (s_set st p (Int32.ofNat C)) := by
  obtain ⟨t1, t2, t3, t4, t5, t6, t7, t8, t9, t10, t11⟩ := h
  unfold TT
  rw [s_set_ne st _ (show 20 ≠ p by omega), s_set_ne st _ (show 25 ≠ p by omega), s_set_ne st _ (show 26 ≠ p by omega), s_set_ne st _ (show 27 ≠ p by omega)]
  refine ⟨t1, t2, t3, fun d h1 h2 => ?_, fun q hq => ?_, fun k hk => ?_, fun q hq => ?_, fun q r hq hr hqr => ?_, fun q hq => ?_, fun q hq => ?_, fun q hq => ?_⟩
  · rw [s_set_ne _ _ (by omega)]; exact t4 d h1 h2
  · rw [s_set_ne st _ (show 5 + q ≠ p by omega), s_set_ne st _ (show 10 + q ≠ p by omega), s_set_ne st _ (show 15 + q ≠ p by omega)]
    have y := t5 q hq
    by_cases e : q = p
    · subst e
      rw [s_set_i, s_set_i]
      exact ⟨rfl, y.2⟩
    · rw [s_set_ne _ _ e, s_set_ne _ _ e]
      exact y
  · rw [s_set_ne _ _ (by omega), s_set_ne _ _ (by omega)]; exact t6 k hk
  · by_cases e : q = p
    · subst e
      rw [s_set_i]
      exact ⟨C, hC, rfl⟩
    · rw [s_set_ne _ _ e]; exact t7 q hq
  · by_cases e : q = p
    · subst e
      rw [s_set_i, s_set_ne _ _ (Ne.symm hqr)]
      exact fun y => hd r hr (Ne.symm hqr) y.symm
    · by_cases e2 : r = p
      · subst e2
        rw [s_set_i, s_set_ne _ _ e]
        exact hd q hq e
      · rw [s_set_ne _ _ e, s_set_ne _ _ e2]; exact t8 q r hq hr hqr
  · by_cases e : q = p
    · subst e
      rw [s_set_i]
      exact hw
    · rw [s_set_ne _ _ e]; exact t9 q hq
  · rw [s_set_ne _ _ (by omega)]; exact t10 q hq
  · rw [s_set_ne _ _ (by omega)]; exact t11 q hq
theorem TT.wall (h : TT n W H z f c m s go pu so sw st) {v : Int32} (hv : ∀ p, p < n → s_bit v (st p) = 0) : TT n W H z (s_set f 2 v) c m s go pu so sw (s_set st 20 v) := by
  obtain ⟨t1, t2, t3, t4, t5, t6, t7, t8, t9, t10, t11⟩ := h
  unfold TT
  rw [s_set_i, s_set_i, s_set_ne f v (show 0 ≠ 2 by omega), s_set_ne f v (show 1 ≠ 2 by omega), s_set_ne f v (show 3 ≠ 2 by omega), s_set_ne f v (show 4 ≠ 2 by omega), s_set_ne f v (show 5 ≠ 2 by omega), s_set_ne f v (show 6 ≠ 2 by omega), s_set_ne st v (show 25 ≠ 20 by omega), s_set_ne st v (show 26 ≠ 20 by omega), s_set_ne st v (show 27 ≠ 20 by omega)]
  refine ⟨⟨t1.1, t1.2.1, rfl, t1.2.2.2⟩, t2, t3, fun d h1 h2 => ?_, fun q hq => ?_, fun k hk => ?_, fun q hq => ?_, fun q r hq hr hqr => ?_, fun q hq => ?_, fun q hq => ?_, fun q hq => ?_⟩
  · rw [s_set_ne _ _ (by omega)]; exact t4 d h1 h2
  · rw [s_set_ne st _ (show q ≠ 20 by omega), s_set_ne st _ (show 5 + q ≠ 20 by omega), s_set_ne st _ (show 10 + q ≠ 20 by omega), s_set_ne st _ (show 15 + q ≠ 20 by omega)]
    exact t5 q hq
  · rw [s_set_ne _ _ (by omega), s_set_ne _ _ (by omega)]; exact t6 k hk
  · rw [s_set_ne _ _ (by omega)]; exact t7 q hq
  · rw [s_set_ne _ _ (by omega), s_set_ne _ _ (by omega)]; exact t8 q r hq hr hqr
  · rw [s_set_ne _ _ (by omega)]; exact hv q hq
  · rw [s_set_ne _ _ (by omega)]; exact t10 q hq
  · rw [s_set_ne _ _ (by omega)]; exact t11 q hq
theorem TT.press (h : TT n W H z f c m s go pu so sw st) {v : Int32} : TT n W H z (s_set f 4 v) c m s go pu so sw (s_set st 25 v) := by
  obtain ⟨t1, t2, t3, t4, t5, t6, t7, t8, t9, t10, t11⟩ := h
  unfold TT
  rw [s_set_i, s_set_i, s_set_ne f v (show 0 ≠ 4 by omega), s_set_ne f v (show 1 ≠ 4 by omega), s_set_ne f v (show 2 ≠ 4 by omega), s_set_ne f v (show 3 ≠ 4 by omega), s_set_ne f v (show 5 ≠ 4 by omega), s_set_ne f v (show 6 ≠ 4 by omega), s_set_ne st v (show 20 ≠ 25 by omega), s_set_ne st v (show 26 ≠ 25 by omega), s_set_ne st v (show 27 ≠ 25 by omega)]
  refine ⟨⟨t1.1, t1.2.1, t1.2.2.1, t1.2.2.2.1, rfl, t1.2.2.2.2.2⟩, t2, t3, fun d h1 h2 => ?_, fun q hq => ?_, fun k hk => ?_, fun q hq => ?_, fun q r hq hr hqr => ?_, fun q hq => ?_, fun q hq => ?_, fun q hq => ?_⟩
  · rw [s_set_ne _ _ (by omega)]; exact t4 d h1 h2
  · rw [s_set_ne st _ (show q ≠ 25 by omega), s_set_ne st _ (show 5 + q ≠ 25 by omega), s_set_ne st _ (show 10 + q ≠ 25 by omega), s_set_ne st _ (show 15 + q ≠ 25 by omega)]
    exact t5 q hq
  · rw [s_set_ne _ _ (by omega), s_set_ne _ _ (by omega)]; exact t6 k hk
  · rw [s_set_ne _ _ (by omega)]; exact t7 q hq
  · rw [s_set_ne _ _ (by omega), s_set_ne _ _ (by omega)]; exact t8 q r hq hr hqr
  · rw [s_set_ne _ _ (by omega)]; exact t9 q hq
  · rw [s_set_ne _ _ (by omega)]; exact t10 q hq
  · rw [s_set_ne _ _ (by omega)]; exact t11 q hq
theorem TT.pull (h : TT n W H z f c m s go pu so sw st) {e : Nat} {v : Int32} (he : 1 ≤ e ∧ e ≤ 4) : TT n W H z f c m s go (s_set pu e v) so sw (s_set st (20 + e) v) := by
  obtain ⟨t1, t2, t3, t4, t5, t6, t7, t8, t9, t10, t11⟩ := h
  unfold TT
  rw [s_set_ne st v (show 20 ≠ 20 + e by omega), s_set_ne st v (show 25 ≠ 20 + e by omega), s_set_ne st v (show 26 ≠ 20 + e by omega), s_set_ne st v (show 27 ≠ 20 + e by omega)]
  refine ⟨t1, t2, t3, fun d h1 h2 => ?_, fun q hq => ?_, fun k hk => ?_, fun q hq => ?_, fun q r hq hr hqr => ?_, fun q hq => ?_, fun q hq => ?_, fun q hq => ?_⟩
  · by_cases x : d = e
    · subst x
      rw [s_set_i, s_set_i]
    · rw [s_set_ne _ _ x, s_set_ne _ _ (show 20 + d ≠ 20 + e by omega)]; exact t4 d h1 h2
  · rw [s_set_ne st _ (show q ≠ 20 + e by omega), s_set_ne st _ (show 5 + q ≠ 20 + e by omega), s_set_ne st _ (show 10 + q ≠ 20 + e by omega), s_set_ne st _ (show 15 + q ≠ 20 + e by omega)]
    exact t5 q hq
  · rw [s_set_ne _ _ (by omega), s_set_ne _ _ (by omega)]; exact t6 k hk
  · rw [s_set_ne _ _ (by omega)]; exact t7 q hq
  · rw [s_set_ne _ _ (by omega), s_set_ne _ _ (by omega)]; exact t8 q r hq hr hqr
  · rw [s_set_ne _ _ (by omega)]; exact t9 q hq
  · rw [s_set_ne _ _ (by omega)]; exact t10 q hq
  · rw [s_set_ne _ _ (by omega)]; exact t11 q hq
theorem TT.forget (h : TT n W H z f c m s go pu so sw st) {y : Nat} (hy : y ≤ z) : TT n W H y (s_set f 6 (Int32.ofNat y)) c m s go pu so sw (s_set st 27 (Int32.ofNat y)) := by
  obtain ⟨t1, t2, t3, t4, t5, t6, t7, t8, t9, t10, t11⟩ := h
  unfold TT
  rw [s_set_i, s_set_i, s_set_ne f _ (show 0 ≠ 6 by omega), s_set_ne f _ (show 1 ≠ 6 by omega), s_set_ne f _ (show 2 ≠ 6 by omega), s_set_ne f _ (show 3 ≠ 6 by omega), s_set_ne f _ (show 4 ≠ 6 by omega), s_set_ne f _ (show 5 ≠ 6 by omega), s_set_ne st _ (show 20 ≠ 27 by omega), s_set_ne st _ (show 25 ≠ 27 by omega), s_set_ne st _ (show 26 ≠ 27 by omega)]
  refine ⟨⟨t1.1, t1.2.1, t1.2.2.1, t1.2.2.2.1, t1.2.2.2.2.1, t1.2.2.2.2.2.1, rfl, rfl⟩, ⟨t2.1, t2.2.1, t2.2.2.1, t2.2.2.2.1, t2.2.2.2.2.1, by omega⟩, t3, fun d h1 h2 => ?_, fun q hq => ?_, fun k hk => ?_, fun q hq => ?_, fun q r hq hr hqr => ?_, fun q hq => ?_, fun q hq => ?_, fun q hq => ?_⟩
  · rw [s_set_ne _ _ (by omega)]; exact t4 d h1 h2
  · rw [s_set_ne st _ (show q ≠ 27 by omega), s_set_ne st _ (show 5 + q ≠ 27 by omega), s_set_ne st _ (show 10 + q ≠ 27 by omega), s_set_ne st _ (show 15 + q ≠ 27 by omega)]
    exact t5 q hq
  · rw [s_set_ne _ _ (by omega), s_set_ne _ _ (by omega)]; exact t6 k (by omega)
  · rw [s_set_ne _ _ (by omega)]; exact t7 q hq
  · rw [s_set_ne _ _ (by omega), s_set_ne _ _ (by omega)]; exact t8 q r hq hr hqr
  · rw [s_set_ne _ _ (by omega)]; exact t9 q hq
  · rw [s_set_ne _ _ (by omega)]; exact t10 q hq
  · rw [s_set_ne _ _ (by omega)]; exact t11 q hq
theorem TT.see (h : TT n W H z f c m s go pu so sw st) {p y : Nat} (hp : p < n) (hz : z < 8) : TT n W H (z + 1) (s_set f 6 (Int32.ofNat (z + 1))) c m s go pu (s_set so z (Int32.ofNat p)) (s_set sw z (Int32.ofNat y)) (s_set (s_set (s_set st (28 + 2 * z) (Int32.ofNat p)) (29 + 2 * z) (Int32.ofNat y)) 27 (Int32.ofNat (z + 1))) := by
  obtain ⟨t1, t2, t3, t4, t5, t6, t7, t8, t9, t10, t11⟩ := h
  have e : ∀ j, j < 27 → s_set (s_set (s_set st (28 + 2 * z) (Int32.ofNat p)) (29 + 2 * z) (Int32.ofNat y)) 27 (Int32.ofNat (z + 1)) j = st j := fun j hj => by
    rw [s_set_ne _ _ (by omega), s_set_ne _ _ (by omega), s_set_ne _ _ (by omega)]
  unfold TT
  rw [s_set_i, s_set_i, s_set_ne f _ (show 0 ≠ 6 by omega), s_set_ne f _ (show 1 ≠ 6 by omega), s_set_ne f _ (show 2 ≠ 6 by omega), s_set_ne f _ (show 3 ≠ 6 by omega), s_set_ne f _ (show 4 ≠ 6 by omega), s_set_ne f _ (show 5 ≠ 6 by omega), e 20 (by omega), e 25 (by omega), e 26 (by omega)]
  refine ⟨⟨t1.1, t1.2.1, t1.2.2.1, t1.2.2.2.1, t1.2.2.2.2.1, t1.2.2.2.2.2.1, rfl, rfl⟩, ⟨t2.1, t2.2.1, t2.2.2.1, t2.2.2.2.1, t2.2.2.2.2.1, by omega⟩, t3, fun d h1 h2 => ?_, fun q hq => ?_, fun k hk => ?_, fun q hq => ?_, fun q r hq hr hqr => ?_, fun q hq => ?_, fun q hq => ?_, fun q hq => ?_⟩
  · rw [e _ (by omega)]; exact t4 d h1 h2
  · rw [e _ (by omega), e _ (by omega), e _ (by omega), e _ (by omega)]
    exact t5 q hq
  · rw [s_set_ne _ _ (show 28 + 2 * k ≠ 27 by omega), s_set_ne _ _ (show 28 + 2 * k ≠ 29 + 2 * z by omega), s_set_ne _ _ (show 29 + 2 * k ≠ 27 by omega)]
    by_cases x : k = z
    · subst x
      rw [s_set_i, s_set_i, s_set_i, s_set_i]
      exact ⟨rfl, rfl, p, hp, rfl⟩
    · rw [s_set_ne _ _ x, s_set_ne _ _ x, s_set_ne _ _ (show 28 + 2 * k ≠ 28 + 2 * z by omega), s_set_ne _ _ (show 29 + 2 * k ≠ 29 + 2 * z by omega), s_set_ne _ _ (show 29 + 2 * k ≠ 28 + 2 * z by omega)]
      exact t6 k (by omega)
  · rw [e _ (by omega)]; exact t7 q hq
  · rw [e _ (by omega), e _ (by omega)]; exact t8 q r hq hr hqr
  · rw [e _ (by omega)]; exact t9 q hq
  · rw [e _ (by omega)]; exact t10 q hq
  · rw [e _ (by omega)]; exact t11 q hq
end TTU
/-! the other parts -/
def w_KK (n W H : Nat) (g : qM) : Prop := (∃ m, m < 4 ∧ g 8 7 = Int32.ofNat m ∧ (g 72 0 = 0 ↔ m % 2 = 0) ∧ (g 72 1 = 0 ↔ m / 2 = 0)) ∧ (¬ g 72 0 = 0 → ∃ z, TT n W H z (g 45) (g 46) (g 47) (g 48) (g 49) (g 50) (g 51) (g 52) (fun j => g 71 (44 + j))) ∧ (¬ g 72 1 = 0 → ∃ z, TT n W H z (g 53) (g 54) (g 55) (g 56) (g 57) (g 58) (g 59) (g 60) (fun j => g 71 (88 + j)))
def w_P (g : qM) : Prop := ∃ s, s ≤ 160 ∧ g 9 1 = Int32.ofNat s ∧ g 70 13 = Int32.ofNat s ∧ ∀ j, j < s → g 74 j = g 10 j ∧ 0 ≤ (g 10 j).toInt
def w_S (k : Nat) (g : qM) : Prop := (g 84 k = i_none ∧ g (62 + 2 * k) 1 = Int32.ofInt (-1)) ∨ ∃ l v, l ≤ 2 ∧ v ≤ 40 ∧ g 84 k = Int32.ofNat l ∧ g (62 + 2 * k) 2 = Int32.ofNat l ∧ g (62 + 2 * k) 1 = Int32.ofNat v ∧ g 85 k = Int32.ofNat v ∧ ∀ j, j < 40 → g (63 + 2 * k) j = g 86 (40 * k + j)
def w_N (n W H : Nat) (g : qM) : Prop := g 70 4 = Int32.ofNat n ∧ g 70 2 = Int32.ofNat W ∧ g 70 3 = Int32.ofNat H
def w_TT (n W H z : Nat) (g : qM) : Prop := TT n W H z (g 20) (g 21) (g 22) (g 23) (g 24) (g 25) (g 26) (g 27) (g 71)
def w_R4 (n W H z : Nat) (g : qM) : Prop := w_N n W H g ∧ w_TT n W H z g ∧ w_KK n W H g ∧ w_P g ∧ g 11 2 = g 70 18 ∧ ∀ k, k < 4 → w_S k g
def w_R (g : qM) : Prop := ∃ n W H z, w_R4 n W H z g
/-- what stands outside the town is the same -/
def w_fo (g g' : qM) : Prop := (∀ a, a = 10 ∨ (45 ≤ a ∧ a ≤ 69) ∨ a = 72 ∨ a = 74 ∨ (84 ≤ a ∧ a ≤ 86) → g' a = g a) ∧ (g' 8 7 = g 8 7 ∧ g' 9 1 = g 9 1 ∧ g' 11 2 = g 11 2) ∧ (∀ j, j = 2 ∨ j = 3 ∨ j = 4 ∨ j = 13 ∨ j = 18 → g' 70 j = g 70 j) ∧ ∀ j, 44 ≤ j → g' 71 j = g 71 j
theorem w_fo_rfl (g : qM) : w_fo g g := ⟨fun _ _ => rfl, ⟨rfl, rfl, rfl⟩, fun _ _ => rfl, fun _ _ => rfl⟩
theorem w_fo.trans {a b c : qM} (h1 : w_fo a b) (h2 : w_fo b c) : w_fo a c := ⟨fun x h => (h2.1 x h).trans (h1.1 x h), ⟨h2.2.1.1.trans h1.2.1.1, h2.2.1.2.1.trans h1.2.1.2.1, h2.2.1.2.2.trans h1.2.1.2.2⟩, fun x h => (h2.2.2.1 x h).trans (h1.2.2.1 x h), fun x h => (h2.2.2.2 x h).trans (h1.2.2.2 x h)⟩
theorem w_fo.up {g g' : qM} (h : w_fo g g') {a j : Nat} {x : Int32} (ha : (a = 8 ∧ j ≠ 7) ∨ (12 ≤ a ∧ a ≤ 43) ∨ (a = 70 ∧ j ≠ 2 ∧ j ≠ 3 ∧ j ≠ 4 ∧ j ≠ 13 ∧ j ≠ 18) ∨ (a = 71 ∧ j < 44) ∨ a = 73 ∨ (75 ≤ a ∧ a ≤ 83) ∨ a = 87) : w_fo g (q_up g' a j x) := by
  refine ⟨fun b hb => ?_, ⟨?_, ?_, ?_⟩, fun i hi => ?_, fun i hi => ?_⟩
  · rw [q_up_ne (by omega)]; exact h.1 b hb
  · rw [q_up_eq, if_neg (by omega)]; exact h.2.1.1
  · rw [q_up_ne (by omega)]; exact h.2.1.2.1
  · rw [q_up_ne (by omega)]; exact h.2.1.2.2
  · rw [q_up_eq, if_neg (by omega)]; exact h.2.2.1 i hi
  · rw [q_up_eq, if_neg (by omega)]; exact h.2.2.2 i hi
theorem w_fc.fo {g g' : qM} (h : w_fc g g') : w_fo g g' := ⟨fun a ha => h a (by omega), ⟨by rw [h 8 (by omega)], by rw [h 9 (by omega)], by rw [h 11 (by omega)]⟩, fun j _ => by rw [h 70 (by omega)], fun j _ => by rw [h 71 (by omega)]⟩
theorem w_fr.fo {g g' : qM} (h : w_fr g g') : w_fo g g' := ⟨fun a ha => h.1 a (by omega), ⟨by rw [h.1 8 (by omega)], by rw [h.1 9 (by omega)], by rw [h.1 11 (by omega)]⟩, fun j hj => h.2 j (by omega), fun j _ => by rw [h.1 71 (by omega)]⟩
theorem w_KK.fo {n W H : Nat} {g g' : qM} (h : w_KK n W H g) (e : w_fo g g') : w_KK n W H g' := by
  unfold w_KK
  rw [e.2.1.1, e.1 72 (by omega), e.1 45 (by omega), e.1 46 (by omega), e.1 47 (by omega), e.1 48 (by omega), e.1 49 (by omega), e.1 50 (by omega), e.1 51 (by omega), e.1 52 (by omega), e.1 53 (by omega), e.1 54 (by omega), e.1 55 (by omega), e.1 56 (by omega), e.1 57 (by omega), e.1 58 (by omega), e.1 59 (by omega), e.1 60 (by omega), show (fun j => g' 71 (44 + j)) = (fun j => g 71 (44 + j)) from funext (fun j => e.2.2.2 _ (by omega)), show (fun j => g' 71 (88 + j)) = (fun j => g 71 (88 + j)) from funext (fun j => e.2.2.2 _ (by omega))]
  exact h
theorem w_R4.town {n W H z y : Nat} {g g' : qM} (h : w_R4 n W H z g) (e : w_fo g g') (hT : w_TT n W H y g') : w_R4 n W H y g' := by
  obtain ⟨hN, _, hK, hP, hF, hS⟩ := h
  refine ⟨⟨(e.2.2.1 4 (by omega)).trans hN.1, (e.2.2.1 2 (by omega)).trans hN.2.1, (e.2.2.1 3 (by omega)).trans hN.2.2⟩, hT, hK.fo e, ?_, ?_, fun k hk => ?_⟩
  · obtain ⟨s, h1, h2, h3, h4⟩ := hP
    refine ⟨s, h1, e.2.1.2.1.trans h2, (e.2.2.1 13 (by omega)).trans h3, fun j hj => ?_⟩
    rw [e.1 74 (by omega), e.1 10 (by omega)]
    exact h4 j hj
  · rw [e.2.1.2.2, e.2.2.1 18 (by omega)]
    exact hF
  · have z := hS k hk
    unfold w_S at z ⊢
    rw [e.1 84 (by omega), e.1 85 (by omega), e.1 86 (by omega), e.1 (62 + 2 * k) (by omega), e.1 (63 + 2 * k) (by omega)]
    exact z
theorem w_TT.same {n W H z : Nat} {g g' : qM} (h : w_TT n W H z g) (e1 : ∀ a, 20 ≤ a → a ≤ 27 → g' a = g a) (e2 : g' 71 = g 71) : w_TT n W H z g' := by
  unfold w_TT
  rw [e1 20 (by omega) (by omega), e1 21 (by omega) (by omega), e1 22 (by omega) (by omega), e1 23 (by omega) (by omega), e1 24 (by omega) (by omega), e1 25 (by omega) (by omega), e1 26 (by omega) (by omega), e1 27 (by omega) (by omega), e2]
  exact h
theorem w_R4.fc {n W H z : Nat} {g g' : qM} (h : w_R4 n W H z g) (e : w_fc g g') : w_R4 n W H z g' := h.town e.fo (h.2.1.same (fun a h1 h2 => e a (by omega)) (e 71 (by omega)))
theorem w_R4.fr {n W H z : Nat} {g g' : qM} (h : w_R4 n W H z g) (e : w_fr g g') : w_R4 n W H z g' := h.town e.fo (h.2.1.same (fun a h1 h2 => e.1 a (by omega)) (e.1 71 (by omega)))
/-! what the searches want of the relation -/
theorem w_R4.ok {n W H z : Nat} {g : qM} (h : w_R4 n W H z g) : w_ok n W H (s_start g) := by
  obtain ⟨hN, ⟨t1, t2, t3, t4, t5, t6, t7, t8, t9, t10, t11⟩, _⟩ := h
  have e75 : ∀ p, p < n → s_start g 75 p = g 71 p := fun p hp => by
    have h5 := t2.2.2.2.2.1
    show (if p < 5 then g 71 p else g 75 p) = _
    rw [if_pos (by omega)]
  have e76 : ∀ p, p < n → s_start g 76 p = g 71 (5 + p) := fun p hp => by
    have h5 := t2.2.2.2.2.1
    show (if p < 5 then g 71 (5 + p) else g 76 p) = _
    rw [if_pos (by omega)]
  have e77 : ∀ p, p < n → s_start g 77 p = g 71 (10 + p) := fun p hp => by
    have h5 := t2.2.2.2.2.1
    show (if p < 5 then g 71 (10 + p) else g 77 p) = _
    rw [if_pos (by omega)]
  refine ⟨⟨t2.1, t2.2.1, t2.2.2.1, t2.2.2.2.1, by omega⟩, hN.1, hN.2.1, hN.2.2, fun p hp => ?_, fun p q hp hq hpq => ?_, fun p hp => ?_, fun p hp => ?_, fun p hp => ?_⟩
  · rw [e75 p hp]; exact t7 p hp
  · rw [e75 p hp, e75 q hq]; exact t8 p q hp hq hpq
  · rw [e75 p hp]; exact t9 p hp
  · rw [e76 p hp]; exact t10 p (by omega)
  · rw [e77 p hp]; exact t11 p hp
theorem w_R4.cs {n W H z : Nat} {g : qM} (h : w_R4 n W H z g) : w_cs 20 n g (s_start g) := by
  obtain ⟨hN, ⟨t1, t2, t3, t4, t5, t6, t7, t8, t9, t10, t11⟩, _⟩ := h
  refine ⟨⟨t1.2.2.2.1.trans hN.1.symm, t1.1.trans hN.2.1.symm, t1.2.1.trans hN.2.2.symm, t1.2.2.1, t1.2.2.2.2.1⟩, t4, fun p hp => ⟨?_, ?_, ?_⟩⟩
  · exact (t5 p hp).1.trans (if_pos (show p < 5 by omega)).symm
  · exact (t5 p hp).2.1.trans (if_pos (show p < 5 by omega)).symm
  · exact (t5 p hp).2.2.1.trans (if_pos (show p < 5 by omega)).symm
theorem w_R4.n5 {n W H z : Nat} {g : qM} (h : w_R4 n W H z g) : n ≤ 5 := h.2.1.2.1.2.2.2.2.1
theorem w_R4.wh {n W H z : Nat} {g : qM} (h : w_R4 n W H z g) : W * H ≤ 25 := (k_wh ⟨h.2.1.2.1.2.1, h.2.1.2.1.2.2.2.1⟩).2
theorem w_R4.hgo {n W H z : Nat} {g : qM} (h : w_R4 n W H z g) : ∀ p, p < n → g 24 p = s_start g 78 p := fun p hp => (h.2.1.2.2.2.2.1 p hp).2.2.2.trans (if_pos (show p < 5 by have := h.n5; omega)).symm
/-- the reference's start, behind the class's search -/
theorem w_sms {n : Nat} {g g1 : qM} (h5 : n ≤ 5) (e : w_fc g g1) : w_sm n (s_start g1) (s_start g) ∧ (∀ p, p < n → g1 71 (15 + p) = s_start g 78 p) ∧ g1 71 = g 71 ∧ g1 70 = g 70 := by
  have e71 : g1 71 = g 71 := e 71 (by omega)
  have e70 : g1 70 = g 70 := e 70 (by omega)
  refine ⟨⟨⟨?_, ?_, ?_, ?_, ?_⟩, fun d _ _ => ?_, fun p hp => ⟨?_, ?_, ?_⟩⟩, fun p hp => ?_, e71, e70⟩
  · show g1 70 4 = g 70 4; rw [e70]
  · show g1 70 2 = g 70 2; rw [e70]
  · show g1 70 3 = g 70 3; rw [e70]
  · show g1 71 20 = g 71 20; rw [e71]
  · show g1 71 25 = g 71 25; rw [e71]
  · show g1 71 (20 + d) = g 71 (20 + d); rw [e71]
  · show (if p < 5 then g1 71 p else g1 75 p) = (if p < 5 then g 71 p else g 75 p); rw [if_pos (by omega), if_pos (by omega), e71]
  · show (if p < 5 then g1 71 (5 + p) else g1 76 p) = (if p < 5 then g 71 (5 + p) else g 76 p); rw [if_pos (by omega), if_pos (by omega), e71]
  · show (if p < 5 then g1 71 (10 + p) else g1 77 p) = (if p < 5 then g 71 (10 + p) else g 77 p); rw [if_pos (by omega), if_pos (by omega), e71]
  · show g1 71 (15 + p) = (if p < 5 then g 71 (15 + p) else g 78 p); rw [if_pos (by omega), e71]
theorem w_sms0 {n : Nat} {g : qM} (h5 : n ≤ 5) : w_sm n (s_start g) (s_start g) ∧ (∀ p, p < n → g 71 (15 + p) = s_start g 78 p) := ⟨w_sm_rfl n _, (w_sms h5 (w_fc_rfl g)).2.1⟩
/-! both sides of a call -/
def w_2 (Mc Mr : Nat) (as : List Value) (g : qM) (u : qW) : Prop := ∃ (v : Int32) (g1 : qM) (u1 : qW) (g2 : qM) (u2 : qW), q_BS Mc (.ref 8 :: as) g u (some (.int v), g1, u1) ∧ q_BS Mr (.ref 70 :: as) g1 u1 (some (.int v), g2, u2) ∧ w_R g2
theorem w_2n {Mc Mr : Nat} {as : List Value} {g : qM} {u : qW} {n W H z : Nat} {v : Int32} (h : w_R4 n W H z g) (h1 : q_BS Mc (.ref 8 :: as) g u (some (.int v), g, u)) (h2 : q_BS Mr (.ref 70 :: as) g u (some (.int v), g, u)) : w_2 Mc Mr as g u := ⟨v, g, u, g, u, h1, h2, n, W, H, z, h⟩
theorem w_2s {Mc Mr : Nat} {as : List Value} {g : qM} {u : qW} {n W H z : Nat} {v : Int32} (h : w_R4 n W H z g) (h1 : w_BS w_fc Mc (.ref 8 :: as) g u (.int v)) (h2 : ∀ g1 u1, w_fc g g1 → w_BS w_fr Mr (.ref 70 :: as) g1 u1 (.int v)) : w_2 Mc Mr as g u := by
  obtain ⟨g1, u1, q1, f1⟩ := h1
  obtain ⟨g2, u2, q2, f2⟩ := h2 g1 u1 f1
  exact ⟨v, g1, u1, g2, u2, q1, q2, n, W, H, z, (h.fc f1).fr f2⟩
/-- the same of a long -/
def w_2l (Mc Mr : Nat) (as : List Value) (g : qM) (u : qW) : Prop := ∃ (v : Int64) (g1 : qM) (u1 : qW) (g2 : qM) (u2 : qW), q_BS Mc (.ref 8 :: as) g u (some (.long v), g1, u1) ∧ q_BS Mr (.ref 70 :: as) g1 u1 (some (.long v), g2, u2) ∧ w_R g2
theorem w_2nl {Mc Mr : Nat} {as : List Value} {g : qM} {u : qW} {n W H z : Nat} {v : Int64} (h : w_R4 n W H z g) (h1 : q_BS Mc (.ref 8 :: as) g u (some (.long v), g, u)) (h2 : q_BS Mr (.ref 70 :: as) g u (some (.long v), g, u)) : w_2l Mc Mr as g u := ⟨v, g, u, g, u, h1, h2, n, W, H, z, h⟩
theorem w_2sl {Mc Mr : Nat} {as : List Value} {g : qM} {u : qW} {n W H z : Nat} {v : Int64} (h : w_R4 n W H z g) (h1 : w_BS w_fc Mc (.ref 8 :: as) g u (.long v)) (h2 : ∀ g1 u1, w_fc g g1 → w_BS w_fr Mr (.ref 70 :: as) g1 u1 (.long v)) : w_2l Mc Mr as g u := by
  obtain ⟨g1, u1, q1, f1⟩ := h1
  obtain ⟨g2, u2, q2, f2⟩ := h2 g1 u1 f1
  exact ⟨v, g1, u1, g2, u2, q1, q2, n, W, H, z, (h.fc f1).fr f2⟩
end
