/-! LINES of the reference, whole. -/
theorem k_ixa {a n : Nat} (h : a + n < 44) : q_ix (Int32.ofNat a + Int32.ofNat n) (a + n) 44 := by
  rw [← Int32.ofNat_add]
  exact q_ixn h (by omega)
theorem r_freek {b : Nat → Int32} {s p : Nat} {r : qM} (g : qM) (u : qW) (hr : k_rs b s p r g) (hn : k_dn r) (h : t_er b s p 0 24 = 0 ∧ s_bit (r 73 20) (t_va b s p) = 0 ∧ t_hit (r 73) (t_va b s p) (t_n r) = 0) : ∃ g', q_BS 162 [.ref 70] g u (some (.int (t_va b s p)), g', u) ∧ k_fR g g' ∧ k_rs b s (t_pl b s p) (q_up r 70 10 (t_max (r 70 10) (t_va b s p))) g' := by
  obtain ⟨_, hq, c, g', rfl, hf, hh⟩ := r_free g u hr hn
  rcases hh with ⟨_, _, _, e, l⟩ | ⟨e, a, ep, _, _, hk⟩
  · subst e
    exact ⟨g', hq, hf, l⟩
  · exfalso
    have z := hk (fun _ _ _ => o_ok 0 r)
    unfold o_free at z
    rw [o_num, if_pos h.1, if_pos h.2.1, if_pos h.2.2] at z
    have y : (0 : Int32) = e := congrArg (fun o : tO => o.1) z
    rw [← y] at ep
    exact absurd ep (by decide)
theorem r_freee {b : Nat → Int32} {s p : Nat} {r : qM} (g : qM) (u : qW) (hr : k_rs b s p r g) (hn : k_dn r) (h : ¬ (t_er b s p 0 24 = 0 ∧ s_bit (r 73 20) (t_va b s p) = 0 ∧ t_hit (r 73) (t_va b s p) (t_n r) = 0)) : ∃ c g' e a, q_BS 162 [.ref 70] g u (some (.int c), g', u) ∧ k_fR g g' ∧ 0 < e ∧ g' 70 18 = e ∧ g' 70 19 = Int32.ofNat a ∧ ∀ k, o_free b s p r k = o_bad e a r := by
  obtain ⟨_, hq, c, g', rfl, hf, hh⟩ := r_free g u hr hn
  rcases hh with ⟨e1, e2, e3, _, _⟩ | ⟨e, a, ep, x, y, hk⟩
  · exact absurd ⟨e1, e2, e3⟩ h
  · exact ⟨c, g', e, a, hq, hf, ep, x, y, hk⟩
theorem k_pos {x : Int32} (h : 0 < x) : ¬ x = 0 := fun y => by
  rw [y] at h
  exact absurd h (by decide)
theorem t_et3 {b : Nat → Int32} {s p : Nat} (h : t_ki b s p = 3) : t_et b s p 3 = 0 := t_et_0.mpr h
theorem t_et0 {b : Nat → Int32} {s p : Nat} (h : t_ki b s p = 0) : t_et b s p 3 = 1 := by
  unfold t_et
  rw [if_neg (by rw [h]; decide), if_pos h]
theorem t_et2 {b : Nat → Int32} {s p : Nat} (h : ¬ t_ki b s p = 0) (h3 : ¬ t_ki b s p = 3) : t_et b s p 3 = 2 := by
  unfold t_et
  rw [if_neg h3, if_neg h]
theorem o_fin_bad {b : Nat → Int32} {s a : Nat} {e : Int32} {r : qM} (h : ¬ e = 0) : o_fin b s (o_bad e a r) = o_bad e a r := by
  unfold o_fin
  exact if_neg h
theorem t_ln_rng {b : Nat → Int32} {f l : Nat} : t_ln b f l = 0 ∨ t_ln b f l = 1 ∨ t_ln b f l = 2 ∨ t_ln b f l = 3 ∨ t_ln b f l = 4 ∨ t_ln b f l = 5 ∨ t_ln b f l = 6 ∨ t_ln b f l = Int32.ofInt (-4) := by
  unfold t_ln
  repeat' split
  all_goals first
    | exact Or.inl rfl
    | exact Or.inr (Or.inl rfl)
    | exact Or.inr (Or.inr (Or.inl rfl))
    | exact Or.inr (Or.inr (Or.inr (Or.inl rfl)))
    | exact Or.inr (Or.inr (Or.inr (Or.inr (Or.inl rfl))))
    | exact Or.inr (Or.inr (Or.inr (Or.inr (Or.inr (Or.inl rfl)))))
    | exact Or.inr (Or.inr (Or.inr (Or.inr (Or.inr (Or.inr (Or.inl rfl))))))
    | exact Or.inr (Or.inr (Or.inr (Or.inr (Or.inr (Or.inr (Or.inr rfl))))))
theorem sg_rm_1 (big : Nat → List Value → qM → qW → qR) (n0 : Nat) (G : qM) (U : qW) : qm_run pm_m big m_159 (n0 + 3) 0 [(0, .ref 70), (1, .int (3 : Int32))] [] G U = qm_run pm_m big m_159 n0 116 [(0, .ref 70), (1, .int (3 : Int32))] [.ref 70] G U := rfl
theorem sg_rm_2 (big : Nat → List Value → qM → qW → qR) (n0 : Nat) (G : qM) (U : qW) (v0 : Int32) : qm_run pm_m big m_159 (n0 + 8) 119 [(0, .ref 70), (1, .int (3 : Int32))] [.int v0] G U = qm_run pm_m big m_159 n0 132 [(0, .ref 70), (1, .int (3 : Int32)), (2, .int v0)] [.int (G 70 18), .int (G 73 20), .int (20 : Int32), .ref 73] G U := rfl
theorem sg_rm_3 (big : Nat → List Value → qM → qW → qR) (n0 : Nat) (G : qM) (U : qW) (v0 : Int32) : qm_run pm_m big m_165 (n0 + 1) 0 [(0, .ref 70), (1, .int v0)] [] G U = qm_run pm_m big m_165 n0 1 [(0, .ref 70), (1, .int v0)] [.ref 70] G U := rfl
theorem sg_rm_4 (big : Nat → List Value → qM → qW → qR) (n0 : Nat) (G : qM) (U : qW) (v0 : Int32) (v1 : Int32) : qm_run pm_m big m_165 (n0 + 4) 4 [(0, .ref 70), (1, .int v0)] [.int v1] G U = qm_run pm_m big m_165 n0 8 [(0, .ref 70), (1, .int v0), (2, .int v1)] [.int (3 : Int32), .int (0 : Int32), .ref 70] G U := rfl
theorem sg_rm_5 (big : Nat → List Value → qM → qW → qR) (n0 : Nat) (G : qM) (U : qW) (v0 : Int32) (v1 : Int32) (v2 : Int32) : qm_run pm_m big m_165 (n0 + 3) 11 [(0, .ref 70), (1, .int v0), (2, .int v1)] [.int v2] G U = qm_run pm_m big m_165 n0 16 [(0, .ref 70), (1, .int v0), (2, .int v1), (3, .int v2)] [.int (G 70 18)] G U := rfl
theorem sg_rm_6 (big : Nat → List Value → qM → qW → qR) (n0 : Nat) (G : qM) (U : qW) (v0 : Int32) (v1 : Int32) (v2 : Int32) : qm_run pm_m big m_165 (n0 + 7) 19 [(0, .ref 70), (1, .int v0), (2, .int v1), (3, .int v2)] [] G U = qm_run pm_m big m_165 n0 30 [(0, .ref 70), (1, .int v0), (2, .int v1), (3, .int v2)] [.int v1, .int ((0 : Int32) + (G 70 8)), .ref 73] G U := rfl
theorem sg_rm_7 (big : Nat → List Value → qM → qW → qR) (n0 : Nat) (G : qM) (U : qW) (v0 : Int32) (v1 : Int32) (v2 : Int32) : qm_run pm_m big m_165 (n0 + 7) 31 [(0, .ref 70), (1, .int v0), (2, .int v1), (3, .int v2)] [] G U = qm_run pm_m big m_165 n0 42 [(0, .ref 70), (1, .int v0), (2, .int v1), (3, .int v2)] [.int v2, .int ((5 : Int32) + (G 70 8)), .ref 73] G U := rfl
theorem sg_rm_8 (big : Nat → List Value → qM → qW → qR) (n0 : Nat) (G : qM) (U : qW) (v0 : Int32) (v1 : Int32) (v2 : Int32) : qm_run pm_m big m_165 (n0 + 7) 43 [(0, .ref 70), (1, .int v0), (2, .int v1), (3, .int v2)] [] G U = qm_run pm_m big m_165 n0 55 [(0, .ref 70), (1, .int v0), (2, .int v1), (3, .int v2)] [.int v0, .int ((10 : Int32) + (G 70 8)), .ref 73] G U := rfl
theorem sg_rm_9 (big : Nat → List Value → qM → qW → qR) (n0 : Nat) (G : qM) (U : qW) (v0 : Int32) (v1 : Int32) : qm_run pm_m big m_165 (n0 + 3) 11 [(0, .ref 70), (1, .int v0), (2, .int v1)] [.int (0 : Int32)] G U = qm_run pm_m big m_165 n0 16 [(0, .ref 70), (1, .int v0), (2, .int v1), (3, .int (0 : Int32))] [.int (G 70 18)] G U := rfl
theorem sg_rm_10 (big : Nat → List Value → qM → qW → qR) (n0 : Nat) (G : qM) (U : qW) : qm_run pm_m big m_163 (n0 + 3) 0 [(0, .ref 70)] [] G U = qm_run pm_m big m_163 n0 3 [(0, .ref 70)] [.int (4 : Int32), .int (0 : Int32), .ref 70] G U := rfl
theorem sg_rm_11 (big : Nat → List Value → qM → qW → qR) (n0 : Nat) (G : qM) (U : qW) (v0 : Int32) : qm_run pm_m big m_163 (n0 + 3) 6 [(0, .ref 70)] [.int v0] G U = qm_run pm_m big m_163 n0 11 [(0, .ref 70), (1, .int v0)] [.int (G 70 18)] G U := rfl
theorem sg_rm_12 (big : Nat → List Value → qM → qW → qR) (n0 : Nat) (G : qM) (U : qW) (v0 : Int32) : qm_run pm_m big m_163 (n0 + 6) 14 [(0, .ref 70), (1, .int v0)] [] G U = qm_run pm_m big m_163 n0 23 [(0, .ref 70), (1, .int v0)] [.int ((15 : Int32) + v0), .ref 73, .ref 70] G U := rfl
theorem sg_rm_13 (big : Nat → List Value → qM → qW → qR) (n0 : Nat) (G : qM) (U : qW) (v0 : Int32) (v1 : Int32) : qm_run pm_m big m_163 (n0 + 1) 24 [(0, .ref 70), (1, .int v0)] [.int v1, .ref 70] G U = qm_run pm_m big m_163 n0 26 [(0, .ref 70), (1, .int v0)] [.int (Int8.toInt32 (Int8.ofInt (-4))), .int v1, .ref 70] G U := rfl
theorem sg_rm_14 (big : Nat → List Value → qM → qW → qR) (n0 : Nat) (G : qM) (U : qW) (v0 : Int32) : qm_run pm_m big m_163 (n0 + 3) 29 [(0, .ref 70), (1, .int v0)] [.ref 70] G U = qm_run pm_m big m_163 n0 35 [(0, .ref 70), (1, .int v0)] [.int (4 : Int32), .int (1 : Int32), .ref 70] G U := rfl
theorem sg_rm_15 (big : Nat → List Value → qM → qW → qR) (n0 : Nat) (G : qM) (U : qW) (v0 : Int32) : qm_run pm_m big m_163 (n0 + 1) 38 [(0, .ref 70), (1, .int v0)] [] G U = qm_run pm_m big m_163 n0 39 [(0, .ref 70), (1, .int v0)] [.ref 70] G U := rfl
theorem sg_rm_16 (big : Nat → List Value → qM → qW → qR) (n0 : Nat) (G : qM) (U : qW) (v0 : Int32) : qm_run pm_m big m_163 (n0 + 3) 42 [(0, .ref 70), (1, .int v0)] [] G U = qm_run pm_m big m_163 n0 46 [(0, .ref 70), (1, .int v0)] [.int (24 : Int32), .int (0 : Int32), .ref 70] G U := rfl
theorem sg_rm_17 (big : Nat → List Value → qM → qW → qR) (n0 : Nat) (G : qM) (U : qW) (v0 : Int32) (v1 : Int32) : qm_run pm_m big m_163 (n0 + 3) 49 [(0, .ref 70), (1, .int v0)] [.int v1] G U = qm_run pm_m big m_163 n0 54 [(0, .ref 70), (1, .int v0), (2, .int v1)] [.int (G 70 18)] G U := rfl
theorem sg_rm_18 (big : Nat → List Value → qM → qW → qR) (n0 : Nat) (G : qM) (U : qW) (v0 : Int32) (v1 : Int32) : qm_run pm_m big m_163 (n0 + 4) 57 [(0, .ref 70), (1, .int v0), (2, .int v1)] [] G U = qm_run pm_m big m_163 n0 63 [(0, .ref 70), (1, .int v0), (2, .int v1)] [.int (G 70 11), .int v0, .ref 70] G U := rfl
theorem sg_rm_19 (big : Nat → List Value → qM → qW → qR) (n0 : Nat) (G : qM) (U : qW) (v0 : Int32) (v1 : Int32) : qm_run pm_m big m_163 (n0 + 7) 70 [(0, .ref 70), (1, .int v0), (2, .int v1)] [.ref 70] G U = qm_run pm_m big m_163 n0 83 [(0, .ref 70), (1, .int v0), (2, .int v1)] [.int (G 70 10), .int v1, .ref 70] (q_up G 70 11 (G 70 11)) U := rfl
theorem sg_rm_20 (big : Nat → List Value → qM → qW → qR) (n0 : Nat) (G : qM) (U : qW) (v0 : Int32) (v1 : Int32) : qm_run pm_m big m_163 (n0 + 9) 90 [(0, .ref 70), (1, .int v0), (2, .int v1)] [.ref 70] G U = qm_run pm_m big m_163 n0 106 [(0, .ref 70), (1, .int v0), (2, .int v1)] [.int v1, .int ((15 : Int32) + v0), .ref 73] (q_up G 70 10 (G 70 10)) U := rfl
theorem sg_rm_21 (big : Nat → List Value → qM → qW → qR) (n0 : Nat) (G : qM) (U : qW) (v0 : Int32) (v1 : Int32) : qm_run pm_m big m_163 (n0 + 9) 86 [(0, .ref 70), (1, .int v0), (2, .int v1)] [.ref 70] G U = qm_run pm_m big m_163 n0 106 [(0, .ref 70), (1, .int v0), (2, .int v1)] [.int v1, .int ((15 : Int32) + v0), .ref 73] (q_up G 70 10 v1) U := rfl
theorem sg_rm_22 (big : Nat → List Value → qM → qW → qR) (n0 : Nat) (G : qM) (U : qW) (v0 : Int32) (v1 : Int32) : qm_run pm_m big m_163 (n0 + 7) 66 [(0, .ref 70), (1, .int v0), (2, .int v1)] [.ref 70] G U = qm_run pm_m big m_163 n0 83 [(0, .ref 70), (1, .int v0), (2, .int v1)] [.int (G 70 10), .int v1, .ref 70] (q_up G 70 11 v0) U := rfl
theorem sg_rm_23 (big : Nat → List Value → qM → qW → qR) (n0 : Nat) (G : qM) (U : qW) (v0 : Int32) : qm_run pm_m big m_163 (n0 + 3) 49 [(0, .ref 70), (1, .int v0)] [.int (0 : Int32)] G U = qm_run pm_m big m_163 n0 54 [(0, .ref 70), (1, .int v0), (2, .int (0 : Int32))] [.int (G 70 18)] G U := rfl
theorem sg_rm_24 (big : Nat → List Value → qM → qW → qR) (n0 : Nat) (G : qM) (U : qW) (v0 : Int32) : qm_run pm_m big m_163 (n0 + 2) 33 [(0, .ref 70), (1, .int v0)] [.ref 70] G U = qm_run pm_m big m_163 n0 35 [(0, .ref 70), (1, .int v0)] [.int (4 : Int32), .int (0 : Int32), .ref 70] G U := rfl
theorem sg_rm_25 (big : Nat → List Value → qM → qW → qR) (n0 : Nat) (G : qM) (U : qW) : qm_run pm_m big m_163 (n0 + 3) 6 [(0, .ref 70)] [.int (0 : Int32)] G U = qm_run pm_m big m_163 n0 11 [(0, .ref 70), (1, .int (0 : Int32))] [.int (G 70 18)] G U := rfl
theorem sg_rm_26 (big : Nat → List Value → qM → qW → qR) (n0 : Nat) (G : qM) (U : qW) : qm_run pm_m big m_163 (n0 + 1) 38 [(0, .ref 70), (1, .int (0 : Int32))] [] G U = qm_run pm_m big m_163 n0 39 [(0, .ref 70), (1, .int (0 : Int32))] [.ref 70] G U := rfl
theorem sg_rm_27 (big : Nat → List Value → qM → qW → qR) (n0 : Nat) (G : qM) (U : qW) : qm_run pm_m big m_163 (n0 + 3) 42 [(0, .ref 70), (1, .int (0 : Int32))] [] G U = qm_run pm_m big m_163 n0 46 [(0, .ref 70), (1, .int (0 : Int32))] [.int (24 : Int32), .int (0 : Int32), .ref 70] G U := rfl
theorem sg_rm_28 (big : Nat → List Value → qM → qW → qR) (n0 : Nat) (G : qM) (U : qW) : qm_run pm_m big m_163 (n0 + 3) 49 [(0, .ref 70), (1, .int (0 : Int32))] [.int (0 : Int32)] G U = qm_run pm_m big m_163 n0 54 [(0, .ref 70), (1, .int (0 : Int32)), (2, .int (0 : Int32))] [.int (G 70 18)] G U := rfl
theorem sg_rm_29 (big : Nat → List Value → qM → qW → qR) (n0 : Nat) (G : qM) (U : qW) : qm_run pm_m big m_159 (n0 + 7) 0 [(0, .ref 70), (1, .int (4 : Int32))] [] G U = qm_run pm_m big m_159 n0 165 [(0, .ref 70), (1, .int (4 : Int32))] [.int (0 : Int32), .ref 70] G U := rfl
theorem sg_rm_30 (big : Nat → List Value → qM → qW → qR) (n0 : Nat) (G : qM) (U : qW) : qm_run pm_m big m_159 (n0 + 8) 0 [(0, .ref 70), (1, .int (5 : Int32))] [] G U = qm_run pm_m big m_159 n0 165 [(0, .ref 70), (1, .int (5 : Int32))] [.int (1 : Int32), .ref 70] G U := rfl
theorem sg_rm_31 (big : Nat → List Value → qM → qW → qR) (n0 : Nat) (G : qM) (U : qW) : qm_run pm_m big m_159 (n0 + 3) 0 [(0, .ref 70), (1, .int (6 : Int32))] [] G U = qm_run pm_m big m_159 n0 148 [(0, .ref 70), (1, .int (6 : Int32))] [.ref 70] G U := rfl
theorem sg_rm_32 (big : Nat → List Value → qM → qW → qR) (n0 : Nat) (G : qM) (U : qW) (v0 : Int32) : qm_run pm_m big m_155 (n0 + 2) 124 [(0, .ref 70), (1, .int v0)] [] G U = qm_run pm_m big m_155 n0 128 [(0, .ref 70), (1, .int v0)] [.int (G 70 18)] G U := rfl
theorem sg_rm_33 (big : Nat → List Value → qM → qW → qR) (n0 : Nat) (G : qM) (U : qW) (v0 : Int32) : qm_run pm_m big m_155 (n0 + 4) 131 [(0, .ref 70), (1, .int v0)] [] G U = qm_run pm_m big m_155 n0 137 [(0, .ref 70), (1, .int v0)] [.int (3 : Int32), .int (G 70 16), .ref 70] G U := rfl
theorem sg_rm_34 (big : Nat → List Value → qM → qW → qR) (n0 : Nat) (G : qM) (U : qW) (v0 : Int32) : qm_run pm_m big m_155 (n0 + 3) 140 [(0, .ref 70), (1, .int v0)] [.ref 70] G U = qm_run pm_m big m_155 n0 146 [(0, .ref 70), (1, .int v0)] [.int (2 : Int32), .int (1 : Int32), .ref 70] G U := rfl
theorem sg_rm_35 (big : Nat → List Value → qM → qW → qR) (n0 : Nat) (G : qM) (U : qW) (v0 : Int32) : qm_run pm_m big m_155 (n0 + 1) 149 [(0, .ref 70), (1, .int v0)] [] G U = qm_run pm_m big m_155 n0 150 [(0, .ref 70), (1, .int v0)] [.ref 70] G U := rfl
theorem sg_rm_36 (big : Nat → List Value → qM → qW → qR) (n0 : Nat) (G : qM) (U : qW) (v0 : Int32) : qm_run pm_m big m_155 (n0 + 2) 144 [(0, .ref 70), (1, .int v0)] [.ref 70] G U = qm_run pm_m big m_155 n0 146 [(0, .ref 70), (1, .int v0)] [.int (2 : Int32), .int (0 : Int32), .ref 70] G U := rfl
theorem sg_rm_37 (big : Nat → List Value → qM → qW → qR) (n0 : Nat) (G : qM) (U : qW) : qm_run pm_m big m_155 (n0 + 3) 0 [(0, .ref 70)] [] G U = qm_run pm_m big m_155 n0 5 [(0, .ref 70)] [.int (1 : Int32), .int (G 70 16)] G U := rfl
theorem sg_rm_38 (big : Nat → List Value → qM → qW → qR) (n0 : Nat) (G : qM) (U : qW) : qm_run pm_m big m_155 (n0 + 1) 8 [(0, .ref 70)] [] G U = qm_run pm_m big m_155 n0 9 [(0, .ref 70)] [.ref 70] G U := rfl
theorem sg_rm_39 (big : Nat → List Value → qM → qW → qR) (n0 : Nat) (G : qM) (U : qW) : qm_run pm_m big m_155 (n0 + 9) 12 [(0, .ref 70)] [.int (0 : Int32)] G U = qm_run pm_m big m_155 n0 31 [(0, .ref 70), (1, .int (0 : Int32))] [.int (2 : Int32), .int (1 : Int32), .ref 70] G U := rfl
theorem sg_rm_40 (big : Nat → List Value → qM → qW → qR) (n0 : Nat) (G : qM) (U : qW) : qm_run pm_m big m_155 (n0 + 10) 34 [(0, .ref 70), (1, .int (0 : Int32))] [] G U = qm_run pm_m big m_155 n0 59 [(0, .ref 70), (1, .int (0 : Int32))] [.int (5 : Int32), .int (1 : Int32), .ref 70] G U := rfl
theorem sg_rm_41 (big : Nat → List Value → qM → qW → qR) (n0 : Nat) (G : qM) (U : qW) : qm_run pm_m big m_155 (n0 + 2) 62 [(0, .ref 70), (1, .int (0 : Int32))] [] G U = qm_run pm_m big m_155 n0 66 [(0, .ref 70), (1, .int (0 : Int32))] [.int (G 70 18)] G U := rfl
theorem sg_rm_42 (big : Nat → List Value → qM → qW → qR) (n0 : Nat) (G : qM) (U : qW) : qm_run pm_m big m_155 (n0 + 10) 69 [(0, .ref 70), (1, .int (0 : Int32))] [] G U = qm_run pm_m big m_155 n0 83 [(0, .ref 70), (1, .int (0 : Int32))] [.int (((G 70 9) >>> ((0 : Int32) &&& 31)) &&& (1 : Int32)), .ref 70] G U := rfl
theorem sg_rm_43 (big : Nat → List Value → qM → qW → qR) (n0 : Nat) (G : qM) (U : qW) : qm_run pm_m big m_155 (n0 + 3) 86 [(0, .ref 70), (1, .int (0 : Int32))] [.ref 70] G U = qm_run pm_m big m_155 n0 92 [(0, .ref 70), (1, .int (0 : Int32))] [.int (4 : Int32), .int (1 : Int32), .ref 70] G U := rfl
theorem sg_rm_44 (big : Nat → List Value → qM → qW → qR) (n0 : Nat) (G : qM) (U : qW) : qm_run pm_m big m_155 (n0 + 9) 95 [(0, .ref 70), (1, .int (0 : Int32))] [] G U = qm_run pm_m big m_155 n0 108 [(0, .ref 70), (1, .int (0 : Int32))] [.ref 70] (q_up G 70 9 ((G 70 9) ||| ((1 : Int32) <<< ((0 : Int32) &&& 31)))) U := rfl
theorem sg_rm_45 (big : Nat → List Value → qM → qW → qR) (n0 : Nat) (G : qM) (U : qW) : qm_run pm_m big m_155 (n0 + 2) 111 [(0, .ref 70), (1, .int (0 : Int32))] [] G U = qm_run pm_m big m_155 n0 115 [(0, .ref 70), (1, .int (0 : Int32))] [.int (G 70 18)] G U := rfl
theorem sg_rm_46 (big : Nat → List Value → qM → qW → qR) (n0 : Nat) (G : qM) (U : qW) : qm_run pm_m big m_155 (n0 + 2) 119 [(0, .ref 70), (1, .int (0 : Int32))] [] G U = qm_run pm_m big m_155 n0 121 [(0, .ref 70), (1, .int (0 : Int32))] [.int (0 : Int32), .ref 70] G U := rfl
theorem sg_rm_47 (big : Nat → List Value → qM → qW → qR) (n0 : Nat) (G : qM) (U : qW) : qm_run pm_m big m_155 (n0 + 2) 90 [(0, .ref 70), (1, .int (0 : Int32))] [.ref 70] G U = qm_run pm_m big m_155 n0 92 [(0, .ref 70), (1, .int (0 : Int32))] [.int (4 : Int32), .int (0 : Int32), .ref 70] G U := rfl
theorem sg_rm_48 (big : Nat → List Value → qM → qW → qR) (n0 : Nat) (G : qM) (U : qW) : qm_run pm_m big m_155 (n0 + 9) 12 [(0, .ref 70)] [.int (1 : Int32)] G U = qm_run pm_m big m_155 n0 31 [(0, .ref 70), (1, .int (1 : Int32))] [.int (2 : Int32), .int (1 : Int32), .ref 70] G U := rfl
theorem sg_rm_49 (big : Nat → List Value → qM → qW → qR) (n0 : Nat) (G : qM) (U : qW) : qm_run pm_m big m_155 (n0 + 10) 34 [(0, .ref 70), (1, .int (1 : Int32))] [] G U = qm_run pm_m big m_155 n0 59 [(0, .ref 70), (1, .int (1 : Int32))] [.int (5 : Int32), .int (1 : Int32), .ref 70] G U := rfl
theorem sg_rm_50 (big : Nat → List Value → qM → qW → qR) (n0 : Nat) (G : qM) (U : qW) : qm_run pm_m big m_155 (n0 + 2) 62 [(0, .ref 70), (1, .int (1 : Int32))] [] G U = qm_run pm_m big m_155 n0 66 [(0, .ref 70), (1, .int (1 : Int32))] [.int (G 70 18)] G U := rfl
theorem sg_rm_51 (big : Nat → List Value → qM → qW → qR) (n0 : Nat) (G : qM) (U : qW) : qm_run pm_m big m_155 (n0 + 10) 69 [(0, .ref 70), (1, .int (1 : Int32))] [] G U = qm_run pm_m big m_155 n0 83 [(0, .ref 70), (1, .int (1 : Int32))] [.int (((G 70 9) >>> ((1 : Int32) &&& 31)) &&& (1 : Int32)), .ref 70] G U := rfl
theorem sg_rm_52 (big : Nat → List Value → qM → qW → qR) (n0 : Nat) (G : qM) (U : qW) : qm_run pm_m big m_155 (n0 + 3) 86 [(0, .ref 70), (1, .int (1 : Int32))] [.ref 70] G U = qm_run pm_m big m_155 n0 92 [(0, .ref 70), (1, .int (1 : Int32))] [.int (4 : Int32), .int (1 : Int32), .ref 70] G U := rfl
theorem sg_rm_53 (big : Nat → List Value → qM → qW → qR) (n0 : Nat) (G : qM) (U : qW) : qm_run pm_m big m_155 (n0 + 9) 95 [(0, .ref 70), (1, .int (1 : Int32))] [] G U = qm_run pm_m big m_155 n0 108 [(0, .ref 70), (1, .int (1 : Int32))] [.ref 70] (q_up G 70 9 ((G 70 9) ||| ((1 : Int32) <<< ((1 : Int32) &&& 31)))) U := rfl
theorem sg_rm_54 (big : Nat → List Value → qM → qW → qR) (n0 : Nat) (G : qM) (U : qW) : qm_run pm_m big m_155 (n0 + 2) 111 [(0, .ref 70), (1, .int (1 : Int32))] [] G U = qm_run pm_m big m_155 n0 115 [(0, .ref 70), (1, .int (1 : Int32))] [.int (G 70 18)] G U := rfl
theorem sg_rm_55 (big : Nat → List Value → qM → qW → qR) (n0 : Nat) (G : qM) (U : qW) : qm_run pm_m big m_155 (n0 + 2) 119 [(0, .ref 70), (1, .int (1 : Int32))] [] G U = qm_run pm_m big m_155 n0 121 [(0, .ref 70), (1, .int (1 : Int32))] [.int (1 : Int32), .ref 70] G U := rfl
theorem sg_rm_56 (big : Nat → List Value → qM → qW → qR) (n0 : Nat) (G : qM) (U : qW) : qm_run pm_m big m_155 (n0 + 2) 90 [(0, .ref 70), (1, .int (1 : Int32))] [.ref 70] G U = qm_run pm_m big m_155 n0 92 [(0, .ref 70), (1, .int (1 : Int32))] [.int (4 : Int32), .int (0 : Int32), .ref 70] G U := rfl
theorem sg_rm_57 (big : Nat → List Value → qM → qW → qR) (n0 : Nat) (G : qM) (U : qW) : qm_run pm_m big m_155 (n0 + 9) 12 [(0, .ref 70)] [.int (2 : Int32)] G U = qm_run pm_m big m_155 n0 31 [(0, .ref 70), (1, .int (2 : Int32))] [.int (2 : Int32), .int (1 : Int32), .ref 70] G U := rfl
theorem sg_rm_58 (big : Nat → List Value → qM → qW → qR) (n0 : Nat) (G : qM) (U : qW) : qm_run pm_m big m_155 (n0 + 10) 34 [(0, .ref 70), (1, .int (2 : Int32))] [] G U = qm_run pm_m big m_155 n0 59 [(0, .ref 70), (1, .int (2 : Int32))] [.int (5 : Int32), .int (1 : Int32), .ref 70] G U := rfl
theorem sg_rm_59 (big : Nat → List Value → qM → qW → qR) (n0 : Nat) (G : qM) (U : qW) : qm_run pm_m big m_155 (n0 + 2) 62 [(0, .ref 70), (1, .int (2 : Int32))] [] G U = qm_run pm_m big m_155 n0 66 [(0, .ref 70), (1, .int (2 : Int32))] [.int (G 70 18)] G U := rfl
theorem sg_rm_60 (big : Nat → List Value → qM → qW → qR) (n0 : Nat) (G : qM) (U : qW) : qm_run pm_m big m_155 (n0 + 10) 69 [(0, .ref 70), (1, .int (2 : Int32))] [] G U = qm_run pm_m big m_155 n0 83 [(0, .ref 70), (1, .int (2 : Int32))] [.int (((G 70 9) >>> ((2 : Int32) &&& 31)) &&& (1 : Int32)), .ref 70] G U := rfl
theorem sg_rm_61 (big : Nat → List Value → qM → qW → qR) (n0 : Nat) (G : qM) (U : qW) : qm_run pm_m big m_155 (n0 + 3) 86 [(0, .ref 70), (1, .int (2 : Int32))] [.ref 70] G U = qm_run pm_m big m_155 n0 92 [(0, .ref 70), (1, .int (2 : Int32))] [.int (4 : Int32), .int (1 : Int32), .ref 70] G U := rfl
theorem sg_rm_62 (big : Nat → List Value → qM → qW → qR) (n0 : Nat) (G : qM) (U : qW) : qm_run pm_m big m_155 (n0 + 9) 95 [(0, .ref 70), (1, .int (2 : Int32))] [] G U = qm_run pm_m big m_155 n0 108 [(0, .ref 70), (1, .int (2 : Int32))] [.ref 70] (q_up G 70 9 ((G 70 9) ||| ((1 : Int32) <<< ((2 : Int32) &&& 31)))) U := rfl
theorem sg_rm_63 (big : Nat → List Value → qM → qW → qR) (n0 : Nat) (G : qM) (U : qW) : qm_run pm_m big m_155 (n0 + 2) 111 [(0, .ref 70), (1, .int (2 : Int32))] [] G U = qm_run pm_m big m_155 n0 115 [(0, .ref 70), (1, .int (2 : Int32))] [.int (G 70 18)] G U := rfl
theorem sg_rm_64 (big : Nat → List Value → qM → qW → qR) (n0 : Nat) (G : qM) (U : qW) : qm_run pm_m big m_155 (n0 + 2) 119 [(0, .ref 70), (1, .int (2 : Int32))] [] G U = qm_run pm_m big m_155 n0 121 [(0, .ref 70), (1, .int (2 : Int32))] [.int (2 : Int32), .ref 70] G U := rfl
theorem sg_rm_65 (big : Nat → List Value → qM → qW → qR) (n0 : Nat) (G : qM) (U : qW) : qm_run pm_m big m_155 (n0 + 2) 90 [(0, .ref 70), (1, .int (2 : Int32))] [.ref 70] G U = qm_run pm_m big m_155 n0 92 [(0, .ref 70), (1, .int (2 : Int32))] [.int (4 : Int32), .int (0 : Int32), .ref 70] G U := rfl
theorem sg_rm_66 (big : Nat → List Value → qM → qW → qR) (n0 : Nat) (G : qM) (U : qW) : qm_run pm_m big m_155 (n0 + 9) 12 [(0, .ref 70)] [.int (3 : Int32)] G U = qm_run pm_m big m_155 n0 31 [(0, .ref 70), (1, .int (3 : Int32))] [.int (2 : Int32), .int (1 : Int32), .ref 70] G U := rfl
theorem sg_rm_67 (big : Nat → List Value → qM → qW → qR) (n0 : Nat) (G : qM) (U : qW) : qm_run pm_m big m_155 (n0 + 10) 34 [(0, .ref 70), (1, .int (3 : Int32))] [] G U = qm_run pm_m big m_155 n0 59 [(0, .ref 70), (1, .int (3 : Int32))] [.int (5 : Int32), .int (1 : Int32), .ref 70] G U := rfl
theorem sg_rm_68 (big : Nat → List Value → qM → qW → qR) (n0 : Nat) (G : qM) (U : qW) : qm_run pm_m big m_155 (n0 + 2) 62 [(0, .ref 70), (1, .int (3 : Int32))] [] G U = qm_run pm_m big m_155 n0 66 [(0, .ref 70), (1, .int (3 : Int32))] [.int (G 70 18)] G U := rfl
theorem sg_rm_69 (big : Nat → List Value → qM → qW → qR) (n0 : Nat) (G : qM) (U : qW) : qm_run pm_m big m_155 (n0 + 4) 69 [(0, .ref 70), (1, .int (3 : Int32))] [] G U = qm_run pm_m big m_155 n0 108 [(0, .ref 70), (1, .int (3 : Int32))] [.ref 70] G U := rfl
theorem sg_rm_70 (big : Nat → List Value → qM → qW → qR) (n0 : Nat) (G : qM) (U : qW) : qm_run pm_m big m_155 (n0 + 2) 111 [(0, .ref 70), (1, .int (3 : Int32))] [] G U = qm_run pm_m big m_155 n0 115 [(0, .ref 70), (1, .int (3 : Int32))] [.int (G 70 18)] G U := rfl
theorem sg_rm_71 (big : Nat → List Value → qM → qW → qR) (n0 : Nat) (G : qM) (U : qW) : qm_run pm_m big m_155 (n0 + 2) 119 [(0, .ref 70), (1, .int (3 : Int32))] [] G U = qm_run pm_m big m_155 n0 121 [(0, .ref 70), (1, .int (3 : Int32))] [.int (3 : Int32), .ref 70] G U := rfl
theorem sg_rm_72 (big : Nat → List Value → qM → qW → qR) (n0 : Nat) (G : qM) (U : qW) : qm_run pm_m big m_155 (n0 + 9) 12 [(0, .ref 70)] [.int (4 : Int32)] G U = qm_run pm_m big m_155 n0 31 [(0, .ref 70), (1, .int (4 : Int32))] [.int (2 : Int32), .int (1 : Int32), .ref 70] G U := rfl
theorem sg_rm_73 (big : Nat → List Value → qM → qW → qR) (n0 : Nat) (G : qM) (U : qW) : qm_run pm_m big m_155 (n0 + 7) 34 [(0, .ref 70), (1, .int (4 : Int32))] [] G U = qm_run pm_m big m_155 n0 50 [(0, .ref 70), (1, .int (4 : Int32))] [.int (5 : Int32), .int (G 70 8), .ref 70] G U := rfl
theorem sg_rm_74 (big : Nat → List Value → qM → qW → qR) (n0 : Nat) (G : qM) (U : qW) : qm_run pm_m big m_155 (n0 + 2) 57 [(0, .ref 70), (1, .int (4 : Int32))] [.ref 70] G U = qm_run pm_m big m_155 n0 59 [(0, .ref 70), (1, .int (4 : Int32))] [.int (5 : Int32), .int (0 : Int32), .ref 70] G U := rfl
theorem sg_rm_75 (big : Nat → List Value → qM → qW → qR) (n0 : Nat) (G : qM) (U : qW) : qm_run pm_m big m_155 (n0 + 2) 62 [(0, .ref 70), (1, .int (4 : Int32))] [] G U = qm_run pm_m big m_155 n0 66 [(0, .ref 70), (1, .int (4 : Int32))] [.int (G 70 18)] G U := rfl
theorem sg_rm_76 (big : Nat → List Value → qM → qW → qR) (n0 : Nat) (G : qM) (U : qW) : qm_run pm_m big m_155 (n0 + 1) 107 [(0, .ref 70), (1, .int (4 : Int32))] [] G U = qm_run pm_m big m_155 n0 108 [(0, .ref 70), (1, .int (4 : Int32))] [.ref 70] G U := rfl
theorem sg_rm_77 (big : Nat → List Value → qM → qW → qR) (n0 : Nat) (G : qM) (U : qW) : qm_run pm_m big m_155 (n0 + 2) 111 [(0, .ref 70), (1, .int (4 : Int32))] [] G U = qm_run pm_m big m_155 n0 115 [(0, .ref 70), (1, .int (4 : Int32))] [.int (G 70 18)] G U := rfl
theorem sg_rm_78 (big : Nat → List Value → qM → qW → qR) (n0 : Nat) (G : qM) (U : qW) : qm_run pm_m big m_155 (n0 + 3) 53 [(0, .ref 70), (1, .int (4 : Int32))] [.ref 70] G U = qm_run pm_m big m_155 n0 59 [(0, .ref 70), (1, .int (4 : Int32))] [.int (5 : Int32), .int (1 : Int32), .ref 70] G U := rfl
theorem sg_rm_79 (big : Nat → List Value → qM → qW → qR) (n0 : Nat) (G : qM) (U : qW) : qm_run pm_m big m_155 (n0 + 4) 69 [(0, .ref 70), (1, .int (4 : Int32))] [] G U = qm_run pm_m big m_155 n0 108 [(0, .ref 70), (1, .int (4 : Int32))] [.ref 70] G U := rfl
theorem sg_rm_80 (big : Nat → List Value → qM → qW → qR) (n0 : Nat) (G : qM) (U : qW) : qm_run pm_m big m_155 (n0 + 2) 119 [(0, .ref 70), (1, .int (4 : Int32))] [] G U = qm_run pm_m big m_155 n0 121 [(0, .ref 70), (1, .int (4 : Int32))] [.int (4 : Int32), .ref 70] G U := rfl
theorem sg_rm_81 (big : Nat → List Value → qM → qW → qR) (n0 : Nat) (G : qM) (U : qW) : qm_run pm_m big m_155 (n0 + 9) 12 [(0, .ref 70)] [.int (5 : Int32)] G U = qm_run pm_m big m_155 n0 31 [(0, .ref 70), (1, .int (5 : Int32))] [.int (2 : Int32), .int (1 : Int32), .ref 70] G U := rfl
theorem sg_rm_82 (big : Nat → List Value → qM → qW → qR) (n0 : Nat) (G : qM) (U : qW) : qm_run pm_m big m_155 (n0 + 10) 34 [(0, .ref 70), (1, .int (5 : Int32))] [] G U = qm_run pm_m big m_155 n0 50 [(0, .ref 70), (1, .int (5 : Int32))] [.int (5 : Int32), .int (G 70 8), .ref 70] G U := rfl
theorem sg_rm_83 (big : Nat → List Value → qM → qW → qR) (n0 : Nat) (G : qM) (U : qW) : qm_run pm_m big m_155 (n0 + 2) 57 [(0, .ref 70), (1, .int (5 : Int32))] [.ref 70] G U = qm_run pm_m big m_155 n0 59 [(0, .ref 70), (1, .int (5 : Int32))] [.int (5 : Int32), .int (0 : Int32), .ref 70] G U := rfl
theorem sg_rm_84 (big : Nat → List Value → qM → qW → qR) (n0 : Nat) (G : qM) (U : qW) : qm_run pm_m big m_155 (n0 + 2) 62 [(0, .ref 70), (1, .int (5 : Int32))] [] G U = qm_run pm_m big m_155 n0 66 [(0, .ref 70), (1, .int (5 : Int32))] [.int (G 70 18)] G U := rfl
theorem sg_rm_85 (big : Nat → List Value → qM → qW → qR) (n0 : Nat) (G : qM) (U : qW) : qm_run pm_m big m_155 (n0 + 1) 107 [(0, .ref 70), (1, .int (5 : Int32))] [] G U = qm_run pm_m big m_155 n0 108 [(0, .ref 70), (1, .int (5 : Int32))] [.ref 70] G U := rfl
theorem sg_rm_86 (big : Nat → List Value → qM → qW → qR) (n0 : Nat) (G : qM) (U : qW) : qm_run pm_m big m_155 (n0 + 2) 111 [(0, .ref 70), (1, .int (5 : Int32))] [] G U = qm_run pm_m big m_155 n0 115 [(0, .ref 70), (1, .int (5 : Int32))] [.int (G 70 18)] G U := rfl
theorem sg_rm_87 (big : Nat → List Value → qM → qW → qR) (n0 : Nat) (G : qM) (U : qW) : qm_run pm_m big m_155 (n0 + 3) 53 [(0, .ref 70), (1, .int (5 : Int32))] [.ref 70] G U = qm_run pm_m big m_155 n0 59 [(0, .ref 70), (1, .int (5 : Int32))] [.int (5 : Int32), .int (1 : Int32), .ref 70] G U := rfl
theorem sg_rm_88 (big : Nat → List Value → qM → qW → qR) (n0 : Nat) (G : qM) (U : qW) : qm_run pm_m big m_155 (n0 + 4) 69 [(0, .ref 70), (1, .int (5 : Int32))] [] G U = qm_run pm_m big m_155 n0 108 [(0, .ref 70), (1, .int (5 : Int32))] [.ref 70] G U := rfl
theorem sg_rm_89 (big : Nat → List Value → qM → qW → qR) (n0 : Nat) (G : qM) (U : qW) : qm_run pm_m big m_155 (n0 + 2) 119 [(0, .ref 70), (1, .int (5 : Int32))] [] G U = qm_run pm_m big m_155 n0 121 [(0, .ref 70), (1, .int (5 : Int32))] [.int (5 : Int32), .ref 70] G U := rfl
theorem sg_rm_90 (big : Nat → List Value → qM → qW → qR) (n0 : Nat) (G : qM) (U : qW) : qm_run pm_m big m_155 (n0 + 9) 12 [(0, .ref 70)] [.int (6 : Int32)] G U = qm_run pm_m big m_155 n0 31 [(0, .ref 70), (1, .int (6 : Int32))] [.int (2 : Int32), .int (1 : Int32), .ref 70] G U := rfl
theorem sg_rm_91 (big : Nat → List Value → qM → qW → qR) (n0 : Nat) (G : qM) (U : qW) : qm_run pm_m big m_155 (n0 + 10) 34 [(0, .ref 70), (1, .int (6 : Int32))] [] G U = qm_run pm_m big m_155 n0 59 [(0, .ref 70), (1, .int (6 : Int32))] [.int (5 : Int32), .int (1 : Int32), .ref 70] G U := rfl
theorem sg_rm_92 (big : Nat → List Value → qM → qW → qR) (n0 : Nat) (G : qM) (U : qW) : qm_run pm_m big m_155 (n0 + 2) 62 [(0, .ref 70), (1, .int (6 : Int32))] [] G U = qm_run pm_m big m_155 n0 66 [(0, .ref 70), (1, .int (6 : Int32))] [.int (G 70 18)] G U := rfl
theorem sg_rm_93 (big : Nat → List Value → qM → qW → qR) (n0 : Nat) (G : qM) (U : qW) : qm_run pm_m big m_155 (n0 + 4) 69 [(0, .ref 70), (1, .int (6 : Int32))] [] G U = qm_run pm_m big m_155 n0 108 [(0, .ref 70), (1, .int (6 : Int32))] [.ref 70] G U := rfl
theorem sg_rm_94 (big : Nat → List Value → qM → qW → qR) (n0 : Nat) (G : qM) (U : qW) : qm_run pm_m big m_155 (n0 + 2) 111 [(0, .ref 70), (1, .int (6 : Int32))] [] G U = qm_run pm_m big m_155 n0 115 [(0, .ref 70), (1, .int (6 : Int32))] [.int (G 70 18)] G U := rfl
theorem sg_rm_95 (big : Nat → List Value → qM → qW → qR) (n0 : Nat) (G : qM) (U : qW) : qm_run pm_m big m_155 (n0 + 2) 119 [(0, .ref 70), (1, .int (6 : Int32))] [] G U = qm_run pm_m big m_155 n0 121 [(0, .ref 70), (1, .int (6 : Int32))] [.int (6 : Int32), .ref 70] G U := rfl
theorem sg_rm_96 (big : Nat → List Value → qM → qW → qR) (n0 : Nat) (G : qM) (U : qW) : qm_run pm_m big m_155 (n0 + 8) 12 [(0, .ref 70)] [.int (Int32.ofInt (-4))] G U = qm_run pm_m big m_155 n0 31 [(0, .ref 70), (1, .int (Int32.ofInt (-4)))] [.int (2 : Int32), .int (0 : Int32), .ref 70] G U := rfl
theorem sg_rm_97 (big : Nat → List Value → qM → qW → qR) (n0 : Nat) (G : qM) (U : qW) : qm_run pm_m big m_155 (n0 + 10) 34 [(0, .ref 70), (1, .int (Int32.ofInt (-4)))] [] G U = qm_run pm_m big m_155 n0 59 [(0, .ref 70), (1, .int (Int32.ofInt (-4)))] [.int (5 : Int32), .int (1 : Int32), .ref 70] G U := rfl
theorem sg_rm_98 (big : Nat → List Value → qM → qW → qR) (n0 : Nat) (G : qM) (U : qW) : qm_run pm_m big m_155 (n0 + 2) 62 [(0, .ref 70), (1, .int (Int32.ofInt (-4)))] [] G U = qm_run pm_m big m_155 n0 66 [(0, .ref 70), (1, .int (Int32.ofInt (-4)))] [.int (G 70 18)] G U := rfl
theorem sg_rm_99 (big : Nat → List Value → qM → qW → qR) (n0 : Nat) (G : qM) (U : qW) : qm_run pm_m big m_155 (n0 + 1) 107 [(0, .ref 70), (1, .int (Int32.ofInt (-4)))] [] G U = qm_run pm_m big m_155 n0 108 [(0, .ref 70), (1, .int (Int32.ofInt (-4)))] [.ref 70] G U := rfl
theorem sg_rm_100 (big : Nat → List Value → qM → qW → qR) (n0 : Nat) (G : qM) (U : qW) : qm_run pm_m big m_155 (n0 + 2) 111 [(0, .ref 70), (1, .int (Int32.ofInt (-4)))] [] G U = qm_run pm_m big m_155 n0 115 [(0, .ref 70), (1, .int (Int32.ofInt (-4)))] [.int (G 70 18)] G U := rfl
theorem sg_rm_101 (big : Nat → List Value → qM → qW → qR) (n0 : Nat) (G : qM) (U : qW) : qm_run pm_m big m_155 (n0 + 8) 15 [(0, .ref 70)] [] G U = qm_run pm_m big m_155 n0 31 [(0, .ref 70), (1, .int (Int8.toInt32 (Int8.ofInt (-4))))] [.int (2 : Int32), .int (0 : Int32), .ref 70] G U := rfl
theorem sg_rm_102 (big : Nat → List Value → qM → qW → qR) (n0 : Nat) (G : qM) (U : qW) : qm_run pm_m big m_155 (n0 + 10) 34 [(0, .ref 70), (1, .int (Int8.toInt32 (Int8.ofInt (-4))))] [] G U = qm_run pm_m big m_155 n0 59 [(0, .ref 70), (1, .int (Int8.toInt32 (Int8.ofInt (-4))))] [.int (5 : Int32), .int (1 : Int32), .ref 70] G U := rfl
theorem sg_rm_103 (big : Nat → List Value → qM → qW → qR) (n0 : Nat) (G : qM) (U : qW) : qm_run pm_m big m_155 (n0 + 2) 62 [(0, .ref 70), (1, .int (Int8.toInt32 (Int8.ofInt (-4))))] [] G U = qm_run pm_m big m_155 n0 66 [(0, .ref 70), (1, .int (Int8.toInt32 (Int8.ofInt (-4))))] [.int (G 70 18)] G U := rfl
theorem sg_rm_104 (big : Nat → List Value → qM → qW → qR) (n0 : Nat) (G : qM) (U : qW) : qm_run pm_m big m_155 (n0 + 1) 107 [(0, .ref 70), (1, .int (Int8.toInt32 (Int8.ofInt (-4))))] [] G U = qm_run pm_m big m_155 n0 108 [(0, .ref 70), (1, .int (Int8.toInt32 (Int8.ofInt (-4))))] [.ref 70] G U := rfl
theorem sg_rm_105 (big : Nat → List Value → qM → qW → qR) (n0 : Nat) (G : qM) (U : qW) : qm_run pm_m big m_155 (n0 + 2) 111 [(0, .ref 70), (1, .int (Int8.toInt32 (Int8.ofInt (-4))))] [] G U = qm_run pm_m big m_155 n0 115 [(0, .ref 70), (1, .int (Int8.toInt32 (Int8.ofInt (-4))))] [.int (G 70 18)] G U := rfl
theorem r_lwall {b : Nat → Int32} {s p : Nat} {r : qM} (g : qM) (u : qW) (hr : k_rs b s p r g) (hn : k_dn r) : ∃ R, q_BS 159 [.ref 70, .int (3 : Int32)] g u R ∧ ∃ g', R = (none, g', u) ∧ k_rc b s (o_wall b s p r) g g' := by
  refine q_bs (mm := m_159) rfl (Nat.le_of_ble_eq_true rfl) rfl ?_
  refine q_step 3 116 [(0, .ref 70), (1, .int (3 : Int32))] [.ref 70] g u (fun big n0 => sg_rm_1 big n0 g u) ?_
  by_cases hc0 : t_er b s p 0 24 = 0 ∧ s_bit (r 73 20) (t_va b s p) = 0 ∧ t_hit (r 73) (t_va b s p) (t_n r) = 0
  · obtain ⟨g1, q1, f1, l1⟩ := r_freek g u hr hn hc0
    refine q_call (M2 := 162) (rest := []) (q1) (fun _ _ => rfl) ?_
    refine q_step 8 132 [(0, .ref 70), (1, .int (3 : Int32)), (2, .int (t_va b s p))] [.int (g1 70 18), .int (g1 73 20), .int (20 : Int32), .ref 73] g1 u (fun big n0 => sg_rm_2 big n0 g1 u (t_va b s p)) ?_
    refine q_if_ne rfl (fun (hc1 : (g1 70 18) = 0) => ?_) (fun (hc1 : ¬ ((g1 70 18) = 0)) => ?_)
    · refine q_ret 8 (none, (q_up g1 73 20 ((g1 73 20) ||| ((1 : Int32) <<< ((t_va b s p) &&& 31)))), u) (fun _ _ => rfl) ?_
      have e20 : g1 73 20 = (q_up r 70 10 (t_max (r 70 10) (t_va b s p))) 73 20 := l1.2.2.2.1 20 (by omega)
      unfold o_wall o_free
      rw [o_num, if_pos hc0.1, if_pos hc0.2.1, if_pos hc0.2.2]
      rw [e20]
      exact ⟨_, rfl, k_rc_ok (((k_fR_rfl g).trans f1).up (by omega)) (l1.up (by omega))⟩
    · refine q_ret 5 (none, (q_up g1 73 20 ((g1 73 20) ||| (0 : Int32))), u) (fun _ _ => rfl) ?_
      have e20 : g1 73 20 = (q_up r 70 10 (t_max (r 70 10) (t_va b s p))) 73 20 := l1.2.2.2.1 20 (by omega)
      unfold o_wall o_free
      rw [o_num, if_pos hc0.1, if_pos hc0.2.1, if_pos hc0.2.2]
      exact ⟨_, rfl, k_rc_okx (((k_fR_rfl g).trans f1).up (by omega)) l1.2.1 (l1.2.2.1.up (by omega)) hc1⟩
  · obtain ⟨c, g1, e, a, q1, f1, ep, x1, y1, hk⟩ := r_freee g u hr hn hc0
    refine q_call (M2 := 162) (rest := []) (q1) (fun _ _ => rfl) ?_
    refine q_step 8 132 [(0, .ref 70), (1, .int (3 : Int32)), (2, .int c)] [.int (g1 70 18), .int (g1 73 20), .int (20 : Int32), .ref 73] g1 u (fun big n0 => sg_rm_2 big n0 g1 u c) ?_
    refine q_if_ne rfl (fun hc1 => absurd (show (g1 70 18) = 0 from hc1) (k_pos (by rw [x1]; exact ep))) (fun (hc1 : ¬ ((g1 70 18) = 0)) => ?_)
    refine q_ret 5 (none, (q_up g1 73 20 ((g1 73 20) ||| (0 : Int32))), u) (fun _ _ => rfl) ?_
    unfold o_wall
    rw [hk]
    exact ⟨_, rfl, k_rc_bad (((k_fR_rfl g).trans f1).up (by omega)) ep x1 y1⟩
theorem r_one {b : Nat → Int32} {s p : Nat} {r : qM} (g : qM) (u : qW) (hr : k_rs b s p r g) (hn : k_dn r) (hlt : t_n r < 5) (st : Int32) : ∃ R, q_BS 165 [.ref 70, .int st] g u R ∧ ∃ g', R = (none, g', u) ∧ k_rc b s (i_one b s p r st) g g' := by
  refine q_bs (mm := m_165) rfl (Nat.le_of_ble_eq_true rfl) rfl ?_
  refine q_step 1 1 [(0, .ref 70), (1, .int st)] [.ref 70] g u (fun big n0 => sg_rm_3 big n0 g u st) ?_
  by_cases hc0 : t_er b s p 0 24 = 0 ∧ s_bit (r 73 20) (t_va b s p) = 0 ∧ t_hit (r 73) (t_va b s p) (t_n r) = 0
  · obtain ⟨g1, q1, f1, l1⟩ := r_freek g u hr hn hc0
    refine q_call (M2 := 162) (rest := []) (q1) (fun _ _ => rfl) ?_
    refine q_step 4 8 [(0, .ref 70), (1, .int st), (2, .int (t_va b s p))] [.int (3 : Int32), .int (0 : Int32), .ref 70] g1 u (fun big n0 => sg_rm_4 big n0 g1 u st (t_va b s p)) ?_
    by_cases hc1 : t_er b s (t_pl b s p) (0 : Int32) (3 : Int32) = 0
    · obtain ⟨g2, q2, f2, l2⟩ := r_numk (g := g1) u l1 hc1
      have h8n : g2 70 8 = Int32.ofNat (t_n r) := (l2.2.2.2.2 8 (by omega) (by omega)).trans hn.1
      have e8 : g2 70 8 = (q_up r 70 10 (t_max (r 70 10) (t_va b s p))) 70 8 := l2.2.2.2.2 8 (by omega) (by omega)
      refine q_call (M2 := 160) (rest := []) (q2) (fun _ _ => rfl) ?_
      refine q_step 3 16 [(0, .ref 70), (1, .int st), (2, .int (t_va b s p)), (3, .int (t_va b s (t_pl b s p)))] [.int (g2 70 18)] g2 u (fun big n0 => sg_rm_5 big n0 g2 u st (t_va b s p) (t_va b s (t_pl b s p))) ?_
      refine q_if_ne rfl (fun (hc2 : (g2 70 18) = 0) => ?_) (fun (hc2 : ¬ ((g2 70 18) = 0)) => ?_)
      · refine q_step 7 30 [(0, .ref 70), (1, .int st), (2, .int (t_va b s p)), (3, .int (t_va b s (t_pl b s p)))] [.int (t_va b s p), .int ((0 : Int32) + (g2 70 8)), .ref 73] g2 u (fun big n0 => sg_rm_6 big n0 g2 u st (t_va b s p) (t_va b s (t_pl b s p))) ?_
        refine q_iast (j := (t_n r)) (by rw [h8n, Int32.zero_add]; exact q_ixn (by omega) (by omega)) rfl rfl ?_
        refine q_step 7 42 [(0, .ref 70), (1, .int st), (2, .int (t_va b s p)), (3, .int (t_va b s (t_pl b s p)))] [.int (t_va b s (t_pl b s p)), .int ((5 : Int32) + (g2 70 8)), .ref 73] (q_up g2 73 (t_n r) (t_va b s p)) u (fun big n0 => sg_rm_7 big n0 (q_up g2 73 (t_n r) (t_va b s p)) u st (t_va b s p) (t_va b s (t_pl b s p))) ?_
        refine q_iast (j := (5 + t_n r)) (by rw [h8n]; exact k_ixa (a := 5) (by omega)) rfl rfl ?_
        refine q_step 7 55 [(0, .ref 70), (1, .int st), (2, .int (t_va b s p)), (3, .int (t_va b s (t_pl b s p)))] [.int st, .int ((10 : Int32) + (g2 70 8)), .ref 73] (q_up (q_up g2 73 (t_n r) (t_va b s p)) 73 (5 + t_n r) (t_va b s (t_pl b s p))) u (fun big n0 => sg_rm_8 big n0 (q_up (q_up g2 73 (t_n r) (t_va b s p)) 73 (5 + t_n r) (t_va b s (t_pl b s p))) u st (t_va b s p) (t_va b s (t_pl b s p))) ?_
        refine q_iast (j := (10 + t_n r)) (by rw [h8n]; exact k_ixa (a := 10) (by omega)) rfl rfl ?_
        refine q_ret 7 (none, (q_up (q_up (q_up (q_up g2 73 (t_n r) (t_va b s p)) 73 (5 + t_n r) (t_va b s (t_pl b s p))) 73 (10 + t_n r) st) 70 8 ((g2 70 8) + (1 : Int32))), u) (fun _ _ => rfl) ?_
        unfold i_one o_free
        rw [o_num, if_pos hc0.1, if_pos hc0.2.1, if_pos hc0.2.2]
        try dsimp only
        rw [o_num, if_pos hc1]
        rw [e8]
        exact ⟨_, rfl, k_rc_ok (((((((k_fR_rfl g).trans f1).trans f2.R).up (by omega)).up (by omega)).up (by omega)).up (by omega)) ((((l2.up (by omega)).up (by omega)).up (by omega)).up (by omega))⟩
      · refine q_ret 1 (none, g2, u) (fun _ _ => rfl) ?_
        unfold i_one o_free
        rw [o_num, if_pos hc0.1, if_pos hc0.2.1, if_pos hc0.2.2]
        try dsimp only
        rw [o_num, if_pos hc1]
        exact ⟨_, rfl, k_rc_okx (((k_fR_rfl g).trans f1).trans f2.R) l2.2.1 l2.2.2.1 hc2⟩
    · obtain ⟨g2, q2, f2, x2, y2⟩ := r_nume (g := g1) u l1 hc1
      refine q_call (M2 := 160) (rest := []) (q2) (fun _ _ => rfl) ?_
      refine q_step 3 16 [(0, .ref 70), (1, .int st), (2, .int (t_va b s p)), (3, .int (0 : Int32))] [.int (g2 70 18)] g2 u (fun big n0 => sg_rm_9 big n0 g2 u st (t_va b s p)) ?_
      refine q_if_ne rfl (fun hc2 => absurd (show (g2 70 18) = 0 from hc2) (k_pos (by rw [x2]; exact t_er_pos hc1))) (fun (hc2 : ¬ ((g2 70 18) = 0)) => ?_)
      refine q_ret 1 (none, g2, u) (fun _ _ => rfl) ?_
      unfold i_one o_free
      rw [o_num, if_pos hc0.1, if_pos hc0.2.1, if_pos hc0.2.2]
      try dsimp only
      rw [o_num, if_neg hc1]
      exact ⟨_, rfl, k_rc_bad (((k_fR_rfl g).trans f1).trans f2.R) (t_er_pos hc1) x2 y2⟩
  · obtain ⟨c, g1, e, a, q1, f1, ep, x1, y1, hk⟩ := r_freee g u hr hn hc0
    refine q_call (M2 := 162) (rest := []) (q1) (fun _ _ => rfl) ?_
    refine q_step 4 8 [(0, .ref 70), (1, .int st), (2, .int c)] [.int (3 : Int32), .int (0 : Int32), .ref 70] g1 u (fun big n0 => sg_rm_4 big n0 g1 u st c) ?_
    refine q_call (M2 := 160) (rest := []) (r_numf (0 : Int32) (3 : Int32) _ _ (show 0 < (g1 70 18) from (by rw [x1]; exact ep))) (fun _ _ => rfl) ?_
    refine q_step 3 16 [(0, .ref 70), (1, .int st), (2, .int c), (3, .int (0 : Int32))] [.int (g1 70 18)] g1 u (fun big n0 => sg_rm_9 big n0 g1 u st c) ?_
    refine q_if_ne rfl (fun hc1 => absurd (show (g1 70 18) = 0 from hc1) (k_pos (by rw [x1]; exact ep))) (fun (hc1 : ¬ ((g1 70 18) = 0)) => ?_)
    refine q_ret 1 (none, g1, u) (fun _ _ => rfl) ?_
    unfold i_one
    rw [hk]
    exact ⟨_, rfl, k_rc_bad ((k_fR_rfl g).trans f1) ep x1 y1⟩
theorem r_goal {b : Nat → Int32} {s p : Nat} {r : qM} (g : qM) (u : qW) (hr : k_rs b s p r g) (hn : k_dn r) : ∃ R, q_BS 163 [.ref 70] g u R ∧ ∃ g', R = (none, g', u) ∧ k_rc b s (o_goal b s p r) g g' := by
  refine q_bs (mm := m_163) rfl (Nat.le_of_ble_eq_true rfl) rfl ?_
  refine q_step 3 3 [(0, .ref 70)] [.int (4 : Int32), .int (0 : Int32), .ref 70] g u (fun big n0 => sg_rm_10 big n0 g u) ?_
  by_cases hc0 : t_er b s p (0 : Int32) (4 : Int32) = 0
  · obtain ⟨q1, z18, z14, z15⟩ := r_lookk u hr hc0
    obtain ⟨v, w1, w2, w3⟩ := k_nat (a := 0) (b := 4) (by omega) (by omega) (t_er_rng hc0)
    have ev : ((t_va b s p)).toInt.toNat = v := by rw [w3, q_nat (by omega)]; rfl
    have hix : q_ix ((15 : Int32) + (t_va b s p)) (15 + (Int32.toInt (t_va b s p)).toNat) 44 := by rw [ev, w3]; exact k_ixa (a := 15) (by omega)
    have e15 : g 73 (15 + (Int32.toInt (t_va b s p)).toNat) = r 73 (15 + (Int32.toInt (t_va b s p)).toNat) := hr.2.2.2.1 _ (by omega)
    refine q_call (M2 := 161) (rest := []) (q1) (fun _ _ => rfl) ?_
    refine q_step 3 11 [(0, .ref 70), (1, .int (t_va b s p))] [.int (g 70 18)] g u (fun big n0 => sg_rm_11 big n0 g u (t_va b s p)) ?_
    refine q_if_ne rfl (fun (hc1 : (g 70 18) = 0) => ?_) (fun hc1 => absurd (show (g 70 18) = 0 from z18) hc1)
    refine q_step 6 23 [(0, .ref 70), (1, .int (t_va b s p))] [.int ((15 : Int32) + (t_va b s p)), .ref 73, .ref 70] g u (fun big n0 => sg_rm_12 big n0 g u (t_va b s p)) ?_
    refine q_iald (j := (15 + (Int32.toInt (t_va b s p)).toNat)) (hix) rfl rfl ?_
    refine q_step 1 26 [(0, .ref 70), (1, .int (t_va b s p))] [.int (Int8.toInt32 (Int8.ofInt (-4))), .int (g 73 (15 + (Int32.toInt (t_va b s p)).toNat)), .ref 70] g u (fun big n0 => sg_rm_13 big n0 g u (t_va b s p) (g 73 (15 + (Int32.toInt (t_va b s p)).toNat))) ?_
    refine q_ic_ne rfl (fun (hc2 : (g 73 (15 + (Int32.toInt (t_va b s p)).toNat)) = (Int8.toInt32 (Int8.ofInt (-4)))) => ?_) (fun (hc2 : ¬ ((g 73 (15 + (Int32.toInt (t_va b s p)).toNat)) = (Int8.toInt32 (Int8.ofInt (-4))))) => ?_)
    · refine q_step 3 35 [(0, .ref 70), (1, .int (t_va b s p))] [.int (4 : Int32), .int (1 : Int32), .ref 70] g u (fun big n0 => sg_rm_14 big n0 g u (t_va b s p)) ?_
      refine q_call (M2 := 154) (rest := []) (b_needs1 _ _ _) (fun _ _ => rfl) ?_
      refine q_step 1 39 [(0, .ref 70), (1, .int (t_va b s p))] [.ref 70] g u (fun big n0 => sg_rm_15 big n0 g u (t_va b s p)) ?_
      obtain ⟨g1, q2, f1, l1x⟩ := r_nextb (b := b) (p := t_pl b s p) g u hr.1 z14 (t_pl_b hr.2.1).2.1 z18
      have l1 : k_rs b s (t_pl b s p) r g1 := ⟨hr.1.fr f1, (t_pl_b hr.2.1).2.1, l1x, hr.2.2.2.f70 f1⟩
      refine q_call (M2 := 152) (rest := []) (q2) (fun _ _ => rfl) ?_
      refine q_step 3 46 [(0, .ref 70), (1, .int (t_va b s p))] [.int (24 : Int32), .int (0 : Int32), .ref 70] g1 u (fun big n0 => sg_rm_16 big n0 g1 u (t_va b s p)) ?_
      by_cases hc3 : t_er b s (t_pl b s p) (0 : Int32) (24 : Int32) = 0
      · obtain ⟨g2, q2, f2, l2⟩ := r_numk (g := g1) u l1 hc3
        refine q_call (M2 := 160) (rest := []) (q2) (fun _ _ => rfl) ?_
        refine q_step 3 54 [(0, .ref 70), (1, .int (t_va b s p)), (2, .int (t_va b s (t_pl b s p)))] [.int (g2 70 18)] g2 u (fun big n0 => sg_rm_17 big n0 g2 u (t_va b s p) (t_va b s (t_pl b s p))) ?_
        refine q_if_ne rfl (fun (hc4 : (g2 70 18) = 0) => ?_) (fun (hc4 : ¬ ((g2 70 18) = 0)) => ?_)
        · refine q_step 4 63 [(0, .ref 70), (1, .int (t_va b s p)), (2, .int (t_va b s (t_pl b s p)))] [.int (g2 70 11), .int (t_va b s p), .ref 70] g2 u (fun big n0 => sg_rm_18 big n0 g2 u (t_va b s p) (t_va b s (t_pl b s p))) ?_
          refine q_ic_le rfl (fun (hc5 : (t_va b s p) ≤ (g2 70 11)) => ?_) (fun (hc5 : ¬ ((t_va b s p) ≤ (g2 70 11))) => ?_)
          · refine q_step 7 83 [(0, .ref 70), (1, .int (t_va b s p)), (2, .int (t_va b s (t_pl b s p)))] [.int (g2 70 10), .int (t_va b s (t_pl b s p)), .ref 70] (q_up g2 70 11 (g2 70 11)) u (fun big n0 => sg_rm_19 big n0 g2 u (t_va b s p) (t_va b s (t_pl b s p))) ?_
            refine q_ic_le rfl (fun (hc6 : (t_va b s (t_pl b s p)) ≤ (g2 70 10)) => ?_) (fun (hc6 : ¬ ((t_va b s (t_pl b s p)) ≤ (g2 70 10))) => ?_)
            · refine q_step 9 106 [(0, .ref 70), (1, .int (t_va b s p)), (2, .int (t_va b s (t_pl b s p)))] [.int (t_va b s (t_pl b s p)), .int ((15 : Int32) + (t_va b s p)), .ref 73] (q_up (q_up g2 70 11 (g2 70 11)) 70 10 (g2 70 10)) u (fun big n0 => sg_rm_20 big n0 (q_up g2 70 11 (g2 70 11)) u (t_va b s p) (t_va b s (t_pl b s p))) ?_
              refine q_iast (j := (15 + (Int32.toInt (t_va b s p)).toNat)) (hix) rfl rfl ?_
              refine q_ret 1 (none, (q_up (q_up (q_up g2 70 11 (g2 70 11)) 70 10 (g2 70 10)) 73 (15 + (Int32.toInt (t_va b s p)).toNat) (t_va b s (t_pl b s p))), u) (fun _ _ => rfl) ?_
              unfold o_goal
              rw [o_num, if_pos hc0]
              rw [if_pos (show r 73 (15 + (Int32.toInt (t_va b s p)).toNat) = Int32.ofInt (-4) from e15.symm.trans hc2)]
              rw [o_num, if_pos hc3]
              have e11 : g2 70 11 = r 70 11 := l2.2.2.2.2 11 (by omega) (by omega)
              have e10 : g2 70 10 = r 70 10 := l2.2.2.2.2 10 (by omega) (by omega)
              have m1 : (g2 70 11) = t_max (r 70 11) (t_va b s p) := by
                unfold t_max
                rw [← e11, if_pos hc5]
              have m2 : (g2 70 10) = t_max (r 70 10) (t_va b s (t_pl b s p)) := by
                unfold t_max
                rw [← e10, if_pos hc6]
              rw [← m1, ← m2]
              exact ⟨_, rfl, k_rc_ok ((((((k_fR_rfl g).trans f1.R).trans f2.R).up (by omega)).up (by omega)).up (by omega)) (((l2.up (by omega)).up (by omega)).up (by omega))⟩
            · refine q_step 9 106 [(0, .ref 70), (1, .int (t_va b s p)), (2, .int (t_va b s (t_pl b s p)))] [.int (t_va b s (t_pl b s p)), .int ((15 : Int32) + (t_va b s p)), .ref 73] (q_up (q_up g2 70 11 (g2 70 11)) 70 10 (t_va b s (t_pl b s p))) u (fun big n0 => sg_rm_21 big n0 (q_up g2 70 11 (g2 70 11)) u (t_va b s p) (t_va b s (t_pl b s p))) ?_
              refine q_iast (j := (15 + (Int32.toInt (t_va b s p)).toNat)) (hix) rfl rfl ?_
              refine q_ret 1 (none, (q_up (q_up (q_up g2 70 11 (g2 70 11)) 70 10 (t_va b s (t_pl b s p))) 73 (15 + (Int32.toInt (t_va b s p)).toNat) (t_va b s (t_pl b s p))), u) (fun _ _ => rfl) ?_
              unfold o_goal
              rw [o_num, if_pos hc0]
              rw [if_pos (show r 73 (15 + (Int32.toInt (t_va b s p)).toNat) = Int32.ofInt (-4) from e15.symm.trans hc2)]
              rw [o_num, if_pos hc3]
              have e11 : g2 70 11 = r 70 11 := l2.2.2.2.2 11 (by omega) (by omega)
              have e10 : g2 70 10 = r 70 10 := l2.2.2.2.2 10 (by omega) (by omega)
              have m1 : (g2 70 11) = t_max (r 70 11) (t_va b s p) := by
                unfold t_max
                rw [← e11, if_pos hc5]
              have m2 : (t_va b s (t_pl b s p)) = t_max (r 70 10) (t_va b s (t_pl b s p)) := by
                unfold t_max
                rw [← e10, if_neg hc6]
              rw [← m1, ← m2]
              exact ⟨_, rfl, k_rc_ok ((((((k_fR_rfl g).trans f1.R).trans f2.R).up (by omega)).up (by omega)).up (by omega)) (((l2.up (by omega)).up (by omega)).up (by omega))⟩
          · refine q_step 7 83 [(0, .ref 70), (1, .int (t_va b s p)), (2, .int (t_va b s (t_pl b s p)))] [.int (g2 70 10), .int (t_va b s (t_pl b s p)), .ref 70] (q_up g2 70 11 (t_va b s p)) u (fun big n0 => sg_rm_22 big n0 g2 u (t_va b s p) (t_va b s (t_pl b s p))) ?_
            refine q_ic_le rfl (fun (hc6 : (t_va b s (t_pl b s p)) ≤ (g2 70 10)) => ?_) (fun (hc6 : ¬ ((t_va b s (t_pl b s p)) ≤ (g2 70 10))) => ?_)
            · refine q_step 9 106 [(0, .ref 70), (1, .int (t_va b s p)), (2, .int (t_va b s (t_pl b s p)))] [.int (t_va b s (t_pl b s p)), .int ((15 : Int32) + (t_va b s p)), .ref 73] (q_up (q_up g2 70 11 (t_va b s p)) 70 10 (g2 70 10)) u (fun big n0 => sg_rm_20 big n0 (q_up g2 70 11 (t_va b s p)) u (t_va b s p) (t_va b s (t_pl b s p))) ?_
              refine q_iast (j := (15 + (Int32.toInt (t_va b s p)).toNat)) (hix) rfl rfl ?_
              refine q_ret 1 (none, (q_up (q_up (q_up g2 70 11 (t_va b s p)) 70 10 (g2 70 10)) 73 (15 + (Int32.toInt (t_va b s p)).toNat) (t_va b s (t_pl b s p))), u) (fun _ _ => rfl) ?_
              unfold o_goal
              rw [o_num, if_pos hc0]
              rw [if_pos (show r 73 (15 + (Int32.toInt (t_va b s p)).toNat) = Int32.ofInt (-4) from e15.symm.trans hc2)]
              rw [o_num, if_pos hc3]
              have e11 : g2 70 11 = r 70 11 := l2.2.2.2.2 11 (by omega) (by omega)
              have e10 : g2 70 10 = r 70 10 := l2.2.2.2.2 10 (by omega) (by omega)
              have m1 : (t_va b s p) = t_max (r 70 11) (t_va b s p) := by
                unfold t_max
                rw [← e11, if_neg hc5]
              have m2 : (g2 70 10) = t_max (r 70 10) (t_va b s (t_pl b s p)) := by
                unfold t_max
                rw [← e10, if_pos hc6]
              rw [← m1, ← m2]
              exact ⟨_, rfl, k_rc_ok ((((((k_fR_rfl g).trans f1.R).trans f2.R).up (by omega)).up (by omega)).up (by omega)) (((l2.up (by omega)).up (by omega)).up (by omega))⟩
            · refine q_step 9 106 [(0, .ref 70), (1, .int (t_va b s p)), (2, .int (t_va b s (t_pl b s p)))] [.int (t_va b s (t_pl b s p)), .int ((15 : Int32) + (t_va b s p)), .ref 73] (q_up (q_up g2 70 11 (t_va b s p)) 70 10 (t_va b s (t_pl b s p))) u (fun big n0 => sg_rm_21 big n0 (q_up g2 70 11 (t_va b s p)) u (t_va b s p) (t_va b s (t_pl b s p))) ?_
              refine q_iast (j := (15 + (Int32.toInt (t_va b s p)).toNat)) (hix) rfl rfl ?_
              refine q_ret 1 (none, (q_up (q_up (q_up g2 70 11 (t_va b s p)) 70 10 (t_va b s (t_pl b s p))) 73 (15 + (Int32.toInt (t_va b s p)).toNat) (t_va b s (t_pl b s p))), u) (fun _ _ => rfl) ?_
              unfold o_goal
              rw [o_num, if_pos hc0]
              rw [if_pos (show r 73 (15 + (Int32.toInt (t_va b s p)).toNat) = Int32.ofInt (-4) from e15.symm.trans hc2)]
              rw [o_num, if_pos hc3]
              have e11 : g2 70 11 = r 70 11 := l2.2.2.2.2 11 (by omega) (by omega)
              have e10 : g2 70 10 = r 70 10 := l2.2.2.2.2 10 (by omega) (by omega)
              have m1 : (t_va b s p) = t_max (r 70 11) (t_va b s p) := by
                unfold t_max
                rw [← e11, if_neg hc5]
              have m2 : (t_va b s (t_pl b s p)) = t_max (r 70 10) (t_va b s (t_pl b s p)) := by
                unfold t_max
                rw [← e10, if_neg hc6]
              rw [← m1, ← m2]
              exact ⟨_, rfl, k_rc_ok ((((((k_fR_rfl g).trans f1.R).trans f2.R).up (by omega)).up (by omega)).up (by omega)) (((l2.up (by omega)).up (by omega)).up (by omega))⟩
        · refine q_ret 1 (none, g2, u) (fun _ _ => rfl) ?_
          unfold o_goal
          rw [o_num, if_pos hc0]
          rw [if_pos (show r 73 (15 + (Int32.toInt (t_va b s p)).toNat) = Int32.ofInt (-4) from e15.symm.trans hc2)]
          rw [o_num, if_pos hc3]
          exact ⟨_, rfl, k_rc_okx (((k_fR_rfl g).trans f1.R).trans f2.R) l2.2.1 l2.2.2.1 hc4⟩
      · obtain ⟨g2, q2, f2, x2, y2⟩ := r_nume (g := g1) u l1 hc3
        refine q_call (M2 := 160) (rest := []) (q2) (fun _ _ => rfl) ?_
        refine q_step 3 54 [(0, .ref 70), (1, .int (t_va b s p)), (2, .int (0 : Int32))] [.int (g2 70 18)] g2 u (fun big n0 => sg_rm_23 big n0 g2 u (t_va b s p)) ?_
        refine q_if_ne rfl (fun hc4 => absurd (show (g2 70 18) = 0 from hc4) (k_pos (by rw [x2]; exact t_er_pos hc3))) (fun (hc4 : ¬ ((g2 70 18) = 0)) => ?_)
        refine q_ret 1 (none, g2, u) (fun _ _ => rfl) ?_
        unfold o_goal
        rw [o_num, if_pos hc0]
        rw [if_pos (show r 73 (15 + (Int32.toInt (t_va b s p)).toNat) = Int32.ofInt (-4) from e15.symm.trans hc2)]
        rw [o_num, if_neg hc3]
        exact ⟨_, rfl, k_rc_bad (((k_fR_rfl g).trans f1.R).trans f2.R) (t_er_pos hc3) x2 y2⟩
    · refine q_step 2 35 [(0, .ref 70), (1, .int (t_va b s p))] [.int (4 : Int32), .int (0 : Int32), .ref 70] g u (fun big n0 => sg_rm_24 big n0 g u (t_va b s p)) ?_
      refine q_call (M2 := 154) (rest := []) (b_needs0 _ _ _ z18) (fun _ _ => rfl) ?_
      refine q_step 1 39 [(0, .ref 70), (1, .int (t_va b s p))] [.ref 70] (q_up (q_up g 70 18 (4 : Int32)) 70 19 (g 70 15)) u (fun big n0 => sg_rm_15 big n0 (q_up (q_up g 70 18 (4 : Int32)) 70 19 (g 70 15)) u (t_va b s p)) ?_
      refine q_call (M2 := 152) (rest := []) (r_nextf _ _ (show (0 : Int32) < 4 by decide)) (fun _ _ => rfl) ?_
      refine q_step 3 46 [(0, .ref 70), (1, .int (t_va b s p))] [.int (24 : Int32), .int (0 : Int32), .ref 70] (q_up (q_up g 70 18 (4 : Int32)) 70 19 (g 70 15)) u (fun big n0 => sg_rm_16 big n0 (q_up (q_up g 70 18 (4 : Int32)) 70 19 (g 70 15)) u (t_va b s p)) ?_
      refine q_call (M2 := 160) (rest := []) (r_numf (0 : Int32) (24 : Int32) _ _ (show 0 < (4 : Int32) from (show (0 : Int32) < 4 by decide))) (fun _ _ => rfl) ?_
      refine q_step 3 54 [(0, .ref 70), (1, .int (t_va b s p)), (2, .int (0 : Int32))] [.int (4 : Int32)] (q_up (q_up g 70 18 (4 : Int32)) 70 19 (g 70 15)) u (fun big n0 => sg_rm_23 big n0 (q_up (q_up g 70 18 (4 : Int32)) 70 19 (g 70 15)) u (t_va b s p)) ?_
      refine q_if_ne rfl (fun hc3 => absurd (show (4 : Int32) = 0 from hc3) (k_pos (show (0 : Int32) < 4 by decide))) (fun (hc3 : ¬ ((4 : Int32) = 0)) => ?_)
      refine q_ret 1 (none, (q_up (q_up g 70 18 (4 : Int32)) 70 19 (g 70 15)), u) (fun _ _ => rfl) ?_
      unfold o_goal
      rw [o_num, if_pos hc0]
      rw [if_neg (show ¬ r 73 (15 + (Int32.toInt (t_va b s p)).toNat) = Int32.ofInt (-4) from fun z => hc2 (e15.trans z))]
      exact ⟨_, rfl, k_rc_bad (((k_fR_rfl g).up (by omega)).up (by omega)) (by decide) rfl z15⟩
  · obtain ⟨g1, q1, f1, x1, y1⟩ := r_looke u hr hc0
    refine q_call (M2 := 161) (rest := []) (q1) (fun _ _ => rfl) ?_
    refine q_step 3 11 [(0, .ref 70), (1, .int (0 : Int32))] [.int (g1 70 18)] g1 u (fun big n0 => sg_rm_25 big n0 g1 u) ?_
    refine q_if_ne rfl (fun hc1 => absurd (show (g1 70 18) = 0 from hc1) (k_pos (by rw [x1]; exact t_er_pos hc0))) (fun (hc1 : ¬ ((g1 70 18) = 0)) => ?_)
    refine q_step 1 39 [(0, .ref 70), (1, .int (0 : Int32))] [.ref 70] g1 u (fun big n0 => sg_rm_26 big n0 g1 u) ?_
    refine q_call (M2 := 152) (rest := []) (r_nextf _ _ (by rw [x1]; exact t_er_pos hc0)) (fun _ _ => rfl) ?_
    refine q_step 3 46 [(0, .ref 70), (1, .int (0 : Int32))] [.int (24 : Int32), .int (0 : Int32), .ref 70] g1 u (fun big n0 => sg_rm_27 big n0 g1 u) ?_
    refine q_call (M2 := 160) (rest := []) (r_numf (0 : Int32) (24 : Int32) _ _ (show 0 < (g1 70 18) from (by rw [x1]; exact t_er_pos hc0))) (fun _ _ => rfl) ?_
    refine q_step 3 54 [(0, .ref 70), (1, .int (0 : Int32)), (2, .int (0 : Int32))] [.int (g1 70 18)] g1 u (fun big n0 => sg_rm_28 big n0 g1 u) ?_
    refine q_if_ne rfl (fun hc2 => absurd (show (g1 70 18) = 0 from hc2) (k_pos (by rw [x1]; exact t_er_pos hc0))) (fun (hc2 : ¬ ((g1 70 18) = 0)) => ?_)
    refine q_ret 1 (none, g1, u) (fun _ _ => rfl) ?_
    unfold o_goal
    rw [o_num, if_neg hc0]
    exact ⟨_, rfl, k_rc_bad ((k_fR_rfl g).trans f1.R) (t_er_pos hc0) x1 y1⟩
theorem r_lat {b : Nat → Int32} {s p : Nat} {r : qM} (g : qM) (u : qW) (hr : k_rs b s p r g) (hn : k_dn r) (hlt : t_n r < 5) : ∃ R, q_BS 159 [.ref 70, .int (4 : Int32)] g u R ∧ ∃ g', R = (none, g', u) ∧ k_rc b s (i_one b s p r 0) g g' := by
  refine q_bs (mm := m_159) rfl (Nat.le_of_ble_eq_true rfl) rfl ?_
  refine q_step 7 165 [(0, .ref 70), (1, .int (4 : Int32))] [.int (0 : Int32), .ref 70] g u (fun big n0 => sg_rm_29 big n0 g u) ?_
  refine q_call (M2 := 164) (rest := [.ref 70]) (b_flag0 _ _) (fun _ _ => rfl) ?_
  obtain ⟨_, q1, g1, rfl, h1⟩ := r_one g u hr hn hlt 0
  refine q_call (M2 := 165) (rest := []) (q1) (fun _ _ => rfl) ?_
  refine q_ret 1 (none, g1, u) (fun _ _ => rfl) ?_
  exact ⟨_, rfl, h1⟩
theorem r_lstill {b : Nat → Int32} {s p : Nat} {r : qM} (g : qM) (u : qW) (hr : k_rs b s p r g) (hn : k_dn r) (hlt : t_n r < 5) : ∃ R, q_BS 159 [.ref 70, .int (5 : Int32)] g u R ∧ ∃ g', R = (none, g', u) ∧ k_rc b s (i_one b s p r 1) g g' := by
  refine q_bs (mm := m_159) rfl (Nat.le_of_ble_eq_true rfl) rfl ?_
  refine q_step 8 165 [(0, .ref 70), (1, .int (5 : Int32))] [.int (1 : Int32), .ref 70] g u (fun big n0 => sg_rm_30 big n0 g u) ?_
  refine q_call (M2 := 164) (rest := [.ref 70]) (b_flag1 _ _) (fun _ _ => rfl) ?_
  obtain ⟨_, q1, g1, rfl, h1⟩ := r_one g u hr hn hlt 1
  refine q_call (M2 := 165) (rest := []) (q1) (fun _ _ => rfl) ?_
  refine q_ret 1 (none, g1, u) (fun _ _ => rfl) ?_
  exact ⟨_, rfl, h1⟩
theorem r_lgoal {b : Nat → Int32} {s p : Nat} {r : qM} (g : qM) (u : qW) (hr : k_rs b s p r g) (hn : k_dn r) : ∃ R, q_BS 159 [.ref 70, .int (6 : Int32)] g u R ∧ ∃ g', R = (none, g', u) ∧ k_rc b s (o_goal b s p r) g g' := by
  refine q_bs (mm := m_159) rfl (Nat.le_of_ble_eq_true rfl) rfl ?_
  refine q_step 3 148 [(0, .ref 70), (1, .int (6 : Int32))] [.ref 70] g u (fun big n0 => sg_rm_31 big n0 g u) ?_
  obtain ⟨_, q1, g1, rfl, h1⟩ := r_goal g u hr hn
  refine q_call (M2 := 163) (rest := []) (q1) (fun _ _ => rfl) ?_
  refine q_ret 2 (none, g1, u) (fun _ _ => rfl) ?_
  exact ⟨_, rfl, h1⟩
theorem r_tail {b : Nat → Int32} {s : Nat} {oo : tO} {g0 : qM} (g : qM) (u : qW) (hb : k_b b s g) (hc : k_rc b s oo g0 g) (v : Int32) : q_EV m_155 124 [(0, .ref 70), (1, .int v)] [] g u (fun R => ∃ g', R = (none, g', u) ∧ k_rc b s (o_fin b s oo) g0 g') := by
  refine q_step 2 128 [(0, .ref 70), (1, .int v)] [.int (g 70 18)] g u (fun big n0 => sg_rm_32 big n0 g u v) ?_
  refine q_if_ne rfl (fun (hc0 : (g 70 18) = 0) => ?_) (fun (hc0 : ¬ ((g 70 18) = 0)) => ?_)
  · refine q_step 4 137 [(0, .ref 70), (1, .int v)] [.int (3 : Int32), .int (g 70 16), .ref 70] g u (fun big n0 => sg_rm_33 big n0 g u v) ?_
    refine q_ic_ne rfl (fun (hc1 : (g 70 16) = (3 : Int32)) => ?_) (fun (hc1 : ¬ ((g 70 16) = (3 : Int32))) => ?_)
    · refine q_step 3 146 [(0, .ref 70), (1, .int v)] [.int (2 : Int32), .int (1 : Int32), .ref 70] g u (fun big n0 => sg_rm_34 big n0 g u v) ?_
      have e0 : oo.1 = 0 := Classical.byContradiction (fun z => k_pos (hc.2.1 z).1 ((hc.2.1 z).2.1.symm.trans hc0))
      obtain ⟨zp, zl, zd⟩ := hc.2.2 e0
      obtain ⟨k0, _, z14, z15, z16, _⟩ := zl.resolve_left (fun z => absurd (hc0.symm.trans z.2.1) (by decide))
      refine q_call (M2 := 154) (rest := []) (b_needs1 _ _ _) (fun _ _ => rfl) ?_
      refine q_step 1 150 [(0, .ref 70), (1, .int v)] [.ref 70] g u (fun big n0 => sg_rm_35 big n0 g u v) ?_
      obtain ⟨g1, q1, f1, l1⟩ := r_nextb (b := b) (p := t_pl b s oo.2.2.1) g u hb z14 (t_pl_b zp).2.1 hc0
      refine q_call (M2 := 152) (rest := []) (q1) (fun _ _ => rfl) ?_
      refine q_ret 1 (none, g1, u) (fun _ _ => rfl) ?_
      have k3 : t_ki b s oo.2.2.1 = 3 := by
        have z := z16.symm.trans hc1
        by_cases e4 : t_ki b s oo.2.2.1 = 4
        · rw [if_pos e4] at z
          exact absurd z (by decide)
        · rw [if_neg e4] at z
          exact z
      unfold o_fin
      rw [if_pos e0, if_pos (t_et3 k3)]
      exact ⟨_, rfl, k_rc_ok (hc.1.trans f1.R) ⟨hb.fr f1, (t_pl_b zp).2.1, l1, (zd hc0).f70 f1⟩⟩
    · refine q_step 2 146 [(0, .ref 70), (1, .int v)] [.int (2 : Int32), .int (0 : Int32), .ref 70] g u (fun big n0 => sg_rm_36 big n0 g u v) ?_
      have e0 : oo.1 = 0 := Classical.byContradiction (fun z => k_pos (hc.2.1 z).1 ((hc.2.1 z).2.1.symm.trans hc0))
      obtain ⟨zp, zl, zd⟩ := hc.2.2 e0
      obtain ⟨k0, _, z14, z15, z16, _⟩ := zl.resolve_left (fun z => absurd (hc0.symm.trans z.2.1) (by decide))
      refine q_call (M2 := 154) (rest := []) (b_needs0 _ _ _ hc0) (fun _ _ => rfl) ?_
      refine q_step 1 150 [(0, .ref 70), (1, .int v)] [.ref 70] (q_up (q_up g 70 18 (2 : Int32)) 70 19 (g 70 15)) u (fun big n0 => sg_rm_35 big n0 (q_up (q_up g 70 18 (2 : Int32)) 70 19 (g 70 15)) u v) ?_
      refine q_call (M2 := 152) (rest := []) (r_nextf _ _ (show (0 : Int32) < 2 by decide)) (fun _ _ => rfl) ?_
      refine q_ret 1 (none, (q_up (q_up g 70 18 (2 : Int32)) 70 19 (g 70 15)), u) (fun _ _ => rfl) ?_
      have k3 : ¬ t_ki b s oo.2.2.1 = 3 := fun z => hc1 (z16.trans (by rw [z]; rfl))
      unfold o_fin
      rw [if_pos e0, t_et2 k0 k3, if_neg (by decide)]
      exact ⟨_, rfl, k_rc_bad ((hc.1.up (by omega)).up (by omega)) (by decide) rfl z15⟩
  · refine q_step 1 150 [(0, .ref 70), (1, .int v)] [.ref 70] g u (fun big n0 => sg_rm_35 big n0 g u v) ?_
    have hpos : 0 < g 70 18 := by
      by_cases e0 : oo.1 = 0
      · rcases (hc.2.2 e0).2.1 with z | z
        · rw [z.2.1]; decide
        · exact absurd z.2.1 hc0
      · rw [(hc.2.1 e0).2.1]; exact (hc.2.1 e0).1
    refine q_call (M2 := 152) (rest := []) (r_nextf g u hpos) (fun _ _ => rfl) ?_
    refine q_ret 1 (none, g, u) (fun _ _ => rfl) ?_
    refine ⟨_, rfl, ?_⟩
    by_cases e0 : oo.1 = 0
    · obtain ⟨zp, zl, zd⟩ := hc.2.2 e0
      rcases zl with z | z
      · unfold o_fin
        rw [if_pos e0, t_et0 z.1, if_neg (by decide)]
        exact k_rc_bad hc.1 (by decide) z.2.1 z.2.2
      · exact absurd z.2.1 hc0
    · unfold o_fin
      rw [if_neg e0]
      exact hc
theorem r_rl0 {b : Nat → Int32} {s p : Nat} {r : qM} (g : qM) (u : qW) (hb : k_b b s g) (hp : p ≤ s) (hf0 : g 70 18 = 0) (h14 : g 70 14 = Int32.ofNat (t_pl b s p)) (h15 : g 70 15 = Int32.ofNat (t_fi b s p)) (h16 : g 70 16 = 1) (hln : t_ln b (t_fi b s p) ((t_pl b s p) - (t_fi b s p)) = (0 : Int32)) (hd : k_dh r g) (hn : k_dn r) : ∃ R, q_BS 155 [.ref 70] g u R ∧ ∃ g', R = (none, g', u) ∧ k_rc b s (o_fin b s (o_town b s (t_fi b s p) (t_pl b s p) r)) g g' := by
  refine q_bs (mm := m_155) rfl (Nat.le_of_ble_eq_true rfl) rfl ?_
  refine q_step 3 5 [(0, .ref 70)] [.int (1 : Int32), .int (g 70 16)] g u (fun big n0 => sg_rm_37 big n0 g u) ?_
  refine q_ic_ne rfl (fun (hc0 : (g 70 16) = (1 : Int32)) => ?_) (fun hc0 => absurd (show (g 70 16) = (1 : Int32) from h16) hc0)
  refine q_step 1 9 [(0, .ref 70)] [.ref 70] g u (fun big n0 => sg_rm_38 big n0 g u) ?_
  have hln2 : q_BS 156 [.ref 70] g u (some (.int (0 : Int32)), g, u) := by
    have z := r_line g u hb.1 hb.2.1 h15 h14 (t_pl_b hp).1 (t_pl_b hp).2.1
    rw [t_ln_c (s := s) (fun j hj => (hb.2.2 j hj).1) (by have := t_pl_b (b := b) hp; omega), hln] at z
    exact z
  refine q_call (M2 := 156) (rest := []) (hln2) (fun _ _ => rfl) ?_
  refine q_step 9 31 [(0, .ref 70), (1, .int (0 : Int32))] [.int (2 : Int32), .int (1 : Int32), .ref 70] g u (fun big n0 => sg_rm_39 big n0 g u) ?_
  refine q_call (M2 := 154) (rest := []) (b_needs1 _ _ _) (fun _ _ => rfl) ?_
  refine q_step 10 59 [(0, .ref 70), (1, .int (0 : Int32))] [.int (5 : Int32), .int (1 : Int32), .ref 70] g u (fun big n0 => sg_rm_40 big n0 g u) ?_
  refine q_call (M2 := 154) (rest := []) (b_needs1 _ _ _) (fun _ _ => rfl) ?_
  refine q_step 2 66 [(0, .ref 70), (1, .int (0 : Int32))] [.int (g 70 18)] g u (fun big n0 => sg_rm_41 big n0 g u) ?_
  refine q_if_ne rfl (fun (hc1 : (g 70 18) = 0) => ?_) (fun hc1 => absurd (show (g 70 18) = 0 from hf0) hc1)
  refine q_step 10 83 [(0, .ref 70), (1, .int (0 : Int32))] [.int (((g 70 9) >>> ((0 : Int32) &&& 31)) &&& (1 : Int32)), .ref 70] g u (fun big n0 => sg_rm_42 big n0 g u) ?_
  refine q_if_ne rfl (fun (hc2 : (((g 70 9) >>> ((0 : Int32) &&& 31)) &&& (1 : Int32)) = 0) => ?_) (fun (hc2 : ¬ ((((g 70 9) >>> ((0 : Int32) &&& 31)) &&& (1 : Int32)) = 0)) => ?_)
  · refine q_step 3 92 [(0, .ref 70), (1, .int (0 : Int32))] [.int (4 : Int32), .int (1 : Int32), .ref 70] g u (fun big n0 => sg_rm_43 big n0 g u) ?_
    refine q_call (M2 := 154) (rest := []) (b_needs1 _ _ _) (fun _ _ => rfl) ?_
    refine q_step 9 108 [(0, .ref 70), (1, .int (0 : Int32))] [.ref 70] (q_up g 70 9 ((g 70 9) ||| ((1 : Int32) <<< ((0 : Int32) &&& 31)))) u (fun big n0 => sg_rm_44 big n0 g u) ?_
    obtain ⟨g1, q1, f1, l1⟩ := r_nextb (b := b) (p := (t_pl b s p)) (q_up g 70 9 ((g 70 9) ||| ((1 : Int32) <<< ((0 : Int32) &&& 31)))) u (hb.R ((k_fR_rfl g).up (by omega))) h14 (t_pl_b hp).2.1 hf0
    refine q_call (M2 := 152) (rest := []) (q1) (fun _ _ => rfl) ?_
    refine q_step 2 115 [(0, .ref 70), (1, .int (0 : Int32))] [.int (g1 70 18)] g1 u (fun big n0 => sg_rm_45 big n0 g1 u) ?_
    refine q_if_le rfl (fun (hc3 : (g1 70 18) ≤ 0) => ?_) (fun (hc3 : ¬ ((g1 70 18) ≤ 0)) => ?_)
    · refine q_step 2 121 [(0, .ref 70), (1, .int (0 : Int32))] [.int (0 : Int32), .ref 70] g1 u (fun big n0 => sg_rm_46 big n0 g1 u) ?_
      have hfl : t_fl 0 r = 0 := by
        have e9 : g 70 9 = r 70 9 := hd.2 9 (by omega) (by omega)
        unfold t_fl
        rw [← e9]
        exact hc2
      have eo : o_town b s (t_fi b s p) (t_pl b s p) r = i_town b s (t_pl b s p) r (r_fl 0 r) := by
        unfold o_town
        rw [if_pos hfl]
        rfl
      have hd1 : k_dh (r_fl 0 r) g1 := by
        have z := hd.up (a := 70) (j := 9) (x := g 70 9 ||| ((1 : Int32) <<< ((0 : Int32) &&& 31)))
        have e9 : g 70 9 = r 70 9 := hd.2 9 (by omega) (by omega)
        have y := z.f70 f1
        rw [show q_up r 70 9 (g 70 9 ||| ((1 : Int32) <<< ((0 : Int32) &&& 31))) = r_fl 0 r from by unfold r_fl; rw [e9]; rfl] at y
        exact y
      have hrs : k_rs b s (t_pl b s p) (r_fl 0 r) g1 := ⟨(hb.R ((k_fR_rfl g).up (by omega))).fr f1, (t_pl_b hp).2.1, l1, hd1⟩
      obtain ⟨_, q2, g2, rfl, c2⟩ := r_ltown g1 u hrs r
      refine q_call (M2 := 159) (rest := []) (q2) (fun _ _ => rfl) ?_
      rw [eo]
      exact r_tail g2 u (((hb.R ((k_fR_rfl g).up (by omega))).fr f1).R c2.1) ⟨(((k_fR_rfl g).up (by omega)).trans f1.R).trans c2.1, c2.2⟩ _
    · refine q_ret 1 (none, g1, u) (fun _ _ => rfl) ?_
      have hfl : t_fl 0 r = 0 := by
        have e9 : g 70 9 = r 70 9 := hd.2 9 (by omega) (by omega)
        unfold t_fl
        rw [← e9]
        exact hc2
      have eo : o_town b s (t_fi b s p) (t_pl b s p) r = i_town b s (t_pl b s p) r (r_fl 0 r) := by
        unfold o_town
        rw [if_pos hfl]
        rfl
      have l2 := l1.resolve_right (fun z => hc3 (by rw [z.2.1]; decide))
      have ew : o_town b s (t_fi b s p) (t_pl b s p) r = o_bad 1 (t_fi b s (t_pl b s p)) r := by
        rw [eo]
        unfold i_town
        rw [o_num0 l2.1]
      rw [ew, o_fin_bad (by decide)]
      exact ⟨_, rfl, k_rc_bad (((k_fR_rfl g).up (by omega)).trans f1.R) (by decide) l2.2.1 l2.2.2⟩
  · refine q_step 2 92 [(0, .ref 70), (1, .int (0 : Int32))] [.int (4 : Int32), .int (0 : Int32), .ref 70] g u (fun big n0 => sg_rm_47 big n0 g u) ?_
    refine q_call (M2 := 154) (rest := []) (b_needs0 _ _ _ hf0) (fun _ _ => rfl) ?_
    refine q_step 9 108 [(0, .ref 70), (1, .int (0 : Int32))] [.ref 70] (q_up (q_up (q_up g 70 18 (4 : Int32)) 70 19 (g 70 15)) 70 9 ((g 70 9) ||| ((1 : Int32) <<< ((0 : Int32) &&& 31)))) u (fun big n0 => sg_rm_44 big n0 (q_up (q_up g 70 18 (4 : Int32)) 70 19 (g 70 15)) u) ?_
    refine q_call (M2 := 152) (rest := []) (r_nextf _ _ (show (0 : Int32) < 4 by decide)) (fun _ _ => rfl) ?_
    refine q_step 2 115 [(0, .ref 70), (1, .int (0 : Int32))] [.int (4 : Int32)] (q_up (q_up (q_up g 70 18 (4 : Int32)) 70 19 (g 70 15)) 70 9 ((g 70 9) ||| ((1 : Int32) <<< ((0 : Int32) &&& 31)))) u (fun big n0 => sg_rm_45 big n0 (q_up (q_up (q_up g 70 18 (4 : Int32)) 70 19 (g 70 15)) 70 9 ((g 70 9) ||| ((1 : Int32) <<< ((0 : Int32) &&& 31)))) u) ?_
    refine q_if_le rfl (fun hc3 => absurd (show (4 : Int32) ≤ 0 from hc3) (by decide)) (fun (hc3 : ¬ ((4 : Int32) ≤ 0)) => ?_)
    refine q_ret 1 (none, (q_up (q_up (q_up g 70 18 (4 : Int32)) 70 19 (g 70 15)) 70 9 ((g 70 9) ||| ((1 : Int32) <<< ((0 : Int32) &&& 31)))), u) (fun _ _ => rfl) ?_
    have hfl : ¬ t_fl 0 r = 0 := by
      have e9 : g 70 9 = r 70 9 := hd.2 9 (by omega) (by omega)
      unfold t_fl
      rw [← e9]
      exact hc2
    have eo : o_town b s (t_fi b s p) (t_pl b s p) r = o_bad 4 (t_fi b s p) r := by
      unfold o_town
      rw [if_neg hfl]
    rw [eo, o_fin_bad (by decide)]
    exact ⟨_, rfl, k_rc_bad ((((k_fR_rfl g).up (by omega)).up (by omega)).up (by omega)) (by decide) rfl h15⟩
theorem r_rl1 {b : Nat → Int32} {s p : Nat} {r : qM} (g : qM) (u : qW) (hb : k_b b s g) (hp : p ≤ s) (hf0 : g 70 18 = 0) (h14 : g 70 14 = Int32.ofNat (t_pl b s p)) (h15 : g 70 15 = Int32.ofNat (t_fi b s p)) (h16 : g 70 16 = 1) (hln : t_ln b (t_fi b s p) ((t_pl b s p) - (t_fi b s p)) = (1 : Int32)) (hd : k_dh r g) (hn : k_dn r) : ∃ R, q_BS 155 [.ref 70] g u R ∧ ∃ g', R = (none, g', u) ∧ k_rc b s (o_fin b s (o_pull b s (t_fi b s p) (t_pl b s p) r)) g g' := by
  refine q_bs (mm := m_155) rfl (Nat.le_of_ble_eq_true rfl) rfl ?_
  refine q_step 3 5 [(0, .ref 70)] [.int (1 : Int32), .int (g 70 16)] g u (fun big n0 => sg_rm_37 big n0 g u) ?_
  refine q_ic_ne rfl (fun (hc0 : (g 70 16) = (1 : Int32)) => ?_) (fun hc0 => absurd (show (g 70 16) = (1 : Int32) from h16) hc0)
  refine q_step 1 9 [(0, .ref 70)] [.ref 70] g u (fun big n0 => sg_rm_38 big n0 g u) ?_
  have hln2 : q_BS 156 [.ref 70] g u (some (.int (1 : Int32)), g, u) := by
    have z := r_line g u hb.1 hb.2.1 h15 h14 (t_pl_b hp).1 (t_pl_b hp).2.1
    rw [t_ln_c (s := s) (fun j hj => (hb.2.2 j hj).1) (by have := t_pl_b (b := b) hp; omega), hln] at z
    exact z
  refine q_call (M2 := 156) (rest := []) (hln2) (fun _ _ => rfl) ?_
  refine q_step 9 31 [(0, .ref 70), (1, .int (1 : Int32))] [.int (2 : Int32), .int (1 : Int32), .ref 70] g u (fun big n0 => sg_rm_48 big n0 g u) ?_
  refine q_call (M2 := 154) (rest := []) (b_needs1 _ _ _) (fun _ _ => rfl) ?_
  refine q_step 10 59 [(0, .ref 70), (1, .int (1 : Int32))] [.int (5 : Int32), .int (1 : Int32), .ref 70] g u (fun big n0 => sg_rm_49 big n0 g u) ?_
  refine q_call (M2 := 154) (rest := []) (b_needs1 _ _ _) (fun _ _ => rfl) ?_
  refine q_step 2 66 [(0, .ref 70), (1, .int (1 : Int32))] [.int (g 70 18)] g u (fun big n0 => sg_rm_50 big n0 g u) ?_
  refine q_if_ne rfl (fun (hc1 : (g 70 18) = 0) => ?_) (fun hc1 => absurd (show (g 70 18) = 0 from hf0) hc1)
  refine q_step 10 83 [(0, .ref 70), (1, .int (1 : Int32))] [.int (((g 70 9) >>> ((1 : Int32) &&& 31)) &&& (1 : Int32)), .ref 70] g u (fun big n0 => sg_rm_51 big n0 g u) ?_
  refine q_if_ne rfl (fun (hc2 : (((g 70 9) >>> ((1 : Int32) &&& 31)) &&& (1 : Int32)) = 0) => ?_) (fun (hc2 : ¬ ((((g 70 9) >>> ((1 : Int32) &&& 31)) &&& (1 : Int32)) = 0)) => ?_)
  · refine q_step 3 92 [(0, .ref 70), (1, .int (1 : Int32))] [.int (4 : Int32), .int (1 : Int32), .ref 70] g u (fun big n0 => sg_rm_52 big n0 g u) ?_
    refine q_call (M2 := 154) (rest := []) (b_needs1 _ _ _) (fun _ _ => rfl) ?_
    refine q_step 9 108 [(0, .ref 70), (1, .int (1 : Int32))] [.ref 70] (q_up g 70 9 ((g 70 9) ||| ((1 : Int32) <<< ((1 : Int32) &&& 31)))) u (fun big n0 => sg_rm_53 big n0 g u) ?_
    obtain ⟨g1, q1, f1, l1⟩ := r_nextb (b := b) (p := (t_pl b s p)) (q_up g 70 9 ((g 70 9) ||| ((1 : Int32) <<< ((1 : Int32) &&& 31)))) u (hb.R ((k_fR_rfl g).up (by omega))) h14 (t_pl_b hp).2.1 hf0
    refine q_call (M2 := 152) (rest := []) (q1) (fun _ _ => rfl) ?_
    refine q_step 2 115 [(0, .ref 70), (1, .int (1 : Int32))] [.int (g1 70 18)] g1 u (fun big n0 => sg_rm_54 big n0 g1 u) ?_
    refine q_if_le rfl (fun (hc3 : (g1 70 18) ≤ 0) => ?_) (fun (hc3 : ¬ ((g1 70 18) ≤ 0)) => ?_)
    · refine q_step 2 121 [(0, .ref 70), (1, .int (1 : Int32))] [.int (1 : Int32), .ref 70] g1 u (fun big n0 => sg_rm_55 big n0 g1 u) ?_
      have hfl : t_fl 1 r = 0 := by
        have e9 : g 70 9 = r 70 9 := hd.2 9 (by omega) (by omega)
        unfold t_fl
        rw [← e9]
        exact hc2
      have eo : o_pull b s (t_fi b s p) (t_pl b s p) r = i_pull b s (t_pl b s p) r (r_fl 1 r) := by
        unfold o_pull
        rw [if_pos hfl]
        rfl
      have hd1 : k_dh (r_fl 1 r) g1 := by
        have z := hd.up (a := 70) (j := 9) (x := g 70 9 ||| ((1 : Int32) <<< ((1 : Int32) &&& 31)))
        have e9 : g 70 9 = r 70 9 := hd.2 9 (by omega) (by omega)
        have y := z.f70 f1
        rw [show q_up r 70 9 (g 70 9 ||| ((1 : Int32) <<< ((1 : Int32) &&& 31))) = r_fl 1 r from by unfold r_fl; rw [e9]; rfl] at y
        exact y
      have hrs : k_rs b s (t_pl b s p) (r_fl 1 r) g1 := ⟨(hb.R ((k_fR_rfl g).up (by omega))).fr f1, (t_pl_b hp).2.1, l1, hd1⟩
      obtain ⟨_, q2, g2, rfl, c2⟩ := r_lpull g1 u hrs r
      refine q_call (M2 := 159) (rest := []) (q2) (fun _ _ => rfl) ?_
      rw [eo]
      exact r_tail g2 u (((hb.R ((k_fR_rfl g).up (by omega))).fr f1).R c2.1) ⟨(((k_fR_rfl g).up (by omega)).trans f1.R).trans c2.1, c2.2⟩ _
    · refine q_ret 1 (none, g1, u) (fun _ _ => rfl) ?_
      have hfl : t_fl 1 r = 0 := by
        have e9 : g 70 9 = r 70 9 := hd.2 9 (by omega) (by omega)
        unfold t_fl
        rw [← e9]
        exact hc2
      have eo : o_pull b s (t_fi b s p) (t_pl b s p) r = i_pull b s (t_pl b s p) r (r_fl 1 r) := by
        unfold o_pull
        rw [if_pos hfl]
        rfl
      have l2 := l1.resolve_right (fun z => hc3 (by rw [z.2.1]; decide))
      have ew : o_pull b s (t_fi b s p) (t_pl b s p) r = o_bad 1 (t_fi b s (t_pl b s p)) r := by
        rw [eo]
        unfold i_pull
        rw [o_num0 l2.1]
      rw [ew, o_fin_bad (by decide)]
      exact ⟨_, rfl, k_rc_bad (((k_fR_rfl g).up (by omega)).trans f1.R) (by decide) l2.2.1 l2.2.2⟩
  · refine q_step 2 92 [(0, .ref 70), (1, .int (1 : Int32))] [.int (4 : Int32), .int (0 : Int32), .ref 70] g u (fun big n0 => sg_rm_56 big n0 g u) ?_
    refine q_call (M2 := 154) (rest := []) (b_needs0 _ _ _ hf0) (fun _ _ => rfl) ?_
    refine q_step 9 108 [(0, .ref 70), (1, .int (1 : Int32))] [.ref 70] (q_up (q_up (q_up g 70 18 (4 : Int32)) 70 19 (g 70 15)) 70 9 ((g 70 9) ||| ((1 : Int32) <<< ((1 : Int32) &&& 31)))) u (fun big n0 => sg_rm_53 big n0 (q_up (q_up g 70 18 (4 : Int32)) 70 19 (g 70 15)) u) ?_
    refine q_call (M2 := 152) (rest := []) (r_nextf _ _ (show (0 : Int32) < 4 by decide)) (fun _ _ => rfl) ?_
    refine q_step 2 115 [(0, .ref 70), (1, .int (1 : Int32))] [.int (4 : Int32)] (q_up (q_up (q_up g 70 18 (4 : Int32)) 70 19 (g 70 15)) 70 9 ((g 70 9) ||| ((1 : Int32) <<< ((1 : Int32) &&& 31)))) u (fun big n0 => sg_rm_54 big n0 (q_up (q_up (q_up g 70 18 (4 : Int32)) 70 19 (g 70 15)) 70 9 ((g 70 9) ||| ((1 : Int32) <<< ((1 : Int32) &&& 31)))) u) ?_
    refine q_if_le rfl (fun hc3 => absurd (show (4 : Int32) ≤ 0 from hc3) (by decide)) (fun (hc3 : ¬ ((4 : Int32) ≤ 0)) => ?_)
    refine q_ret 1 (none, (q_up (q_up (q_up g 70 18 (4 : Int32)) 70 19 (g 70 15)) 70 9 ((g 70 9) ||| ((1 : Int32) <<< ((1 : Int32) &&& 31)))), u) (fun _ _ => rfl) ?_
    have hfl : ¬ t_fl 1 r = 0 := by
      have e9 : g 70 9 = r 70 9 := hd.2 9 (by omega) (by omega)
      unfold t_fl
      rw [← e9]
      exact hc2
    have eo : o_pull b s (t_fi b s p) (t_pl b s p) r = o_bad 4 (t_fi b s p) r := by
      unfold o_pull
      rw [if_neg hfl]
    rw [eo, o_fin_bad (by decide)]
    exact ⟨_, rfl, k_rc_bad ((((k_fR_rfl g).up (by omega)).up (by omega)).up (by omega)) (by decide) rfl h15⟩
theorem r_rl2 {b : Nat → Int32} {s p : Nat} {r : qM} (g : qM) (u : qW) (hb : k_b b s g) (hp : p ≤ s) (hf0 : g 70 18 = 0) (h14 : g 70 14 = Int32.ofNat (t_pl b s p)) (h15 : g 70 15 = Int32.ofNat (t_fi b s p)) (h16 : g 70 16 = 1) (hln : t_ln b (t_fi b s p) ((t_pl b s p) - (t_fi b s p)) = (2 : Int32)) (hd : k_dh r g) (hn : k_dn r) : ∃ R, q_BS 155 [.ref 70] g u R ∧ ∃ g', R = (none, g', u) ∧ k_rc b s (o_fin b s (o_press b s (t_fi b s p) (t_pl b s p) r)) g g' := by
  refine q_bs (mm := m_155) rfl (Nat.le_of_ble_eq_true rfl) rfl ?_
  refine q_step 3 5 [(0, .ref 70)] [.int (1 : Int32), .int (g 70 16)] g u (fun big n0 => sg_rm_37 big n0 g u) ?_
  refine q_ic_ne rfl (fun (hc0 : (g 70 16) = (1 : Int32)) => ?_) (fun hc0 => absurd (show (g 70 16) = (1 : Int32) from h16) hc0)
  refine q_step 1 9 [(0, .ref 70)] [.ref 70] g u (fun big n0 => sg_rm_38 big n0 g u) ?_
  have hln2 : q_BS 156 [.ref 70] g u (some (.int (2 : Int32)), g, u) := by
    have z := r_line g u hb.1 hb.2.1 h15 h14 (t_pl_b hp).1 (t_pl_b hp).2.1
    rw [t_ln_c (s := s) (fun j hj => (hb.2.2 j hj).1) (by have := t_pl_b (b := b) hp; omega), hln] at z
    exact z
  refine q_call (M2 := 156) (rest := []) (hln2) (fun _ _ => rfl) ?_
  refine q_step 9 31 [(0, .ref 70), (1, .int (2 : Int32))] [.int (2 : Int32), .int (1 : Int32), .ref 70] g u (fun big n0 => sg_rm_57 big n0 g u) ?_
  refine q_call (M2 := 154) (rest := []) (b_needs1 _ _ _) (fun _ _ => rfl) ?_
  refine q_step 10 59 [(0, .ref 70), (1, .int (2 : Int32))] [.int (5 : Int32), .int (1 : Int32), .ref 70] g u (fun big n0 => sg_rm_58 big n0 g u) ?_
  refine q_call (M2 := 154) (rest := []) (b_needs1 _ _ _) (fun _ _ => rfl) ?_
  refine q_step 2 66 [(0, .ref 70), (1, .int (2 : Int32))] [.int (g 70 18)] g u (fun big n0 => sg_rm_59 big n0 g u) ?_
  refine q_if_ne rfl (fun (hc1 : (g 70 18) = 0) => ?_) (fun hc1 => absurd (show (g 70 18) = 0 from hf0) hc1)
  refine q_step 10 83 [(0, .ref 70), (1, .int (2 : Int32))] [.int (((g 70 9) >>> ((2 : Int32) &&& 31)) &&& (1 : Int32)), .ref 70] g u (fun big n0 => sg_rm_60 big n0 g u) ?_
  refine q_if_ne rfl (fun (hc2 : (((g 70 9) >>> ((2 : Int32) &&& 31)) &&& (1 : Int32)) = 0) => ?_) (fun (hc2 : ¬ ((((g 70 9) >>> ((2 : Int32) &&& 31)) &&& (1 : Int32)) = 0)) => ?_)
  · refine q_step 3 92 [(0, .ref 70), (1, .int (2 : Int32))] [.int (4 : Int32), .int (1 : Int32), .ref 70] g u (fun big n0 => sg_rm_61 big n0 g u) ?_
    refine q_call (M2 := 154) (rest := []) (b_needs1 _ _ _) (fun _ _ => rfl) ?_
    refine q_step 9 108 [(0, .ref 70), (1, .int (2 : Int32))] [.ref 70] (q_up g 70 9 ((g 70 9) ||| ((1 : Int32) <<< ((2 : Int32) &&& 31)))) u (fun big n0 => sg_rm_62 big n0 g u) ?_
    obtain ⟨g1, q1, f1, l1⟩ := r_nextb (b := b) (p := (t_pl b s p)) (q_up g 70 9 ((g 70 9) ||| ((1 : Int32) <<< ((2 : Int32) &&& 31)))) u (hb.R ((k_fR_rfl g).up (by omega))) h14 (t_pl_b hp).2.1 hf0
    refine q_call (M2 := 152) (rest := []) (q1) (fun _ _ => rfl) ?_
    refine q_step 2 115 [(0, .ref 70), (1, .int (2 : Int32))] [.int (g1 70 18)] g1 u (fun big n0 => sg_rm_63 big n0 g1 u) ?_
    refine q_if_le rfl (fun (hc3 : (g1 70 18) ≤ 0) => ?_) (fun (hc3 : ¬ ((g1 70 18) ≤ 0)) => ?_)
    · refine q_step 2 121 [(0, .ref 70), (1, .int (2 : Int32))] [.int (2 : Int32), .ref 70] g1 u (fun big n0 => sg_rm_64 big n0 g1 u) ?_
      have hfl : t_fl 2 r = 0 := by
        have e9 : g 70 9 = r 70 9 := hd.2 9 (by omega) (by omega)
        unfold t_fl
        rw [← e9]
        exact hc2
      have eo : o_press b s (t_fi b s p) (t_pl b s p) r = i_press b s (t_pl b s p) r (r_fl 2 r) := by
        unfold o_press
        rw [if_pos hfl]
        rfl
      have hd1 : k_dh (r_fl 2 r) g1 := by
        have z := hd.up (a := 70) (j := 9) (x := g 70 9 ||| ((1 : Int32) <<< ((2 : Int32) &&& 31)))
        have e9 : g 70 9 = r 70 9 := hd.2 9 (by omega) (by omega)
        have y := z.f70 f1
        rw [show q_up r 70 9 (g 70 9 ||| ((1 : Int32) <<< ((2 : Int32) &&& 31))) = r_fl 2 r from by unfold r_fl; rw [e9]; rfl] at y
        exact y
      have hrs : k_rs b s (t_pl b s p) (r_fl 2 r) g1 := ⟨(hb.R ((k_fR_rfl g).up (by omega))).fr f1, (t_pl_b hp).2.1, l1, hd1⟩
      obtain ⟨_, q2, g2, rfl, c2⟩ := r_lpress g1 u hrs r
      refine q_call (M2 := 159) (rest := []) (q2) (fun _ _ => rfl) ?_
      rw [eo]
      exact r_tail g2 u (((hb.R ((k_fR_rfl g).up (by omega))).fr f1).R c2.1) ⟨(((k_fR_rfl g).up (by omega)).trans f1.R).trans c2.1, c2.2⟩ _
    · refine q_ret 1 (none, g1, u) (fun _ _ => rfl) ?_
      have hfl : t_fl 2 r = 0 := by
        have e9 : g 70 9 = r 70 9 := hd.2 9 (by omega) (by omega)
        unfold t_fl
        rw [← e9]
        exact hc2
      have eo : o_press b s (t_fi b s p) (t_pl b s p) r = i_press b s (t_pl b s p) r (r_fl 2 r) := by
        unfold o_press
        rw [if_pos hfl]
        rfl
      have l2 := l1.resolve_right (fun z => hc3 (by rw [z.2.1]; decide))
      have ew : o_press b s (t_fi b s p) (t_pl b s p) r = o_bad 1 (t_fi b s (t_pl b s p)) r := by
        rw [eo]
        unfold i_press
        rw [o_num0 l2.1]
      rw [ew, o_fin_bad (by decide)]
      exact ⟨_, rfl, k_rc_bad (((k_fR_rfl g).up (by omega)).trans f1.R) (by decide) l2.2.1 l2.2.2⟩
  · refine q_step 2 92 [(0, .ref 70), (1, .int (2 : Int32))] [.int (4 : Int32), .int (0 : Int32), .ref 70] g u (fun big n0 => sg_rm_65 big n0 g u) ?_
    refine q_call (M2 := 154) (rest := []) (b_needs0 _ _ _ hf0) (fun _ _ => rfl) ?_
    refine q_step 9 108 [(0, .ref 70), (1, .int (2 : Int32))] [.ref 70] (q_up (q_up (q_up g 70 18 (4 : Int32)) 70 19 (g 70 15)) 70 9 ((g 70 9) ||| ((1 : Int32) <<< ((2 : Int32) &&& 31)))) u (fun big n0 => sg_rm_62 big n0 (q_up (q_up g 70 18 (4 : Int32)) 70 19 (g 70 15)) u) ?_
    refine q_call (M2 := 152) (rest := []) (r_nextf _ _ (show (0 : Int32) < 4 by decide)) (fun _ _ => rfl) ?_
    refine q_step 2 115 [(0, .ref 70), (1, .int (2 : Int32))] [.int (4 : Int32)] (q_up (q_up (q_up g 70 18 (4 : Int32)) 70 19 (g 70 15)) 70 9 ((g 70 9) ||| ((1 : Int32) <<< ((2 : Int32) &&& 31)))) u (fun big n0 => sg_rm_63 big n0 (q_up (q_up (q_up g 70 18 (4 : Int32)) 70 19 (g 70 15)) 70 9 ((g 70 9) ||| ((1 : Int32) <<< ((2 : Int32) &&& 31)))) u) ?_
    refine q_if_le rfl (fun hc3 => absurd (show (4 : Int32) ≤ 0 from hc3) (by decide)) (fun (hc3 : ¬ ((4 : Int32) ≤ 0)) => ?_)
    refine q_ret 1 (none, (q_up (q_up (q_up g 70 18 (4 : Int32)) 70 19 (g 70 15)) 70 9 ((g 70 9) ||| ((1 : Int32) <<< ((2 : Int32) &&& 31)))), u) (fun _ _ => rfl) ?_
    have hfl : ¬ t_fl 2 r = 0 := by
      have e9 : g 70 9 = r 70 9 := hd.2 9 (by omega) (by omega)
      unfold t_fl
      rw [← e9]
      exact hc2
    have eo : o_press b s (t_fi b s p) (t_pl b s p) r = o_bad 4 (t_fi b s p) r := by
      unfold o_press
      rw [if_neg hfl]
    rw [eo, o_fin_bad (by decide)]
    exact ⟨_, rfl, k_rc_bad ((((k_fR_rfl g).up (by omega)).up (by omega)).up (by omega)) (by decide) rfl h15⟩
theorem r_rl3 {b : Nat → Int32} {s p : Nat} {r : qM} (g : qM) (u : qW) (hb : k_b b s g) (hp : p ≤ s) (hf0 : g 70 18 = 0) (h14 : g 70 14 = Int32.ofNat (t_pl b s p)) (h15 : g 70 15 = Int32.ofNat (t_fi b s p)) (h16 : g 70 16 = 1) (hln : t_ln b (t_fi b s p) ((t_pl b s p) - (t_fi b s p)) = (3 : Int32)) (hd : k_dh r g) (hn : k_dn r) : ∃ R, q_BS 155 [.ref 70] g u R ∧ ∃ g', R = (none, g', u) ∧ k_rc b s (o_fin b s (o_wall b s (t_pl b s p) r)) g g' := by
  refine q_bs (mm := m_155) rfl (Nat.le_of_ble_eq_true rfl) rfl ?_
  refine q_step 3 5 [(0, .ref 70)] [.int (1 : Int32), .int (g 70 16)] g u (fun big n0 => sg_rm_37 big n0 g u) ?_
  refine q_ic_ne rfl (fun (hc0 : (g 70 16) = (1 : Int32)) => ?_) (fun hc0 => absurd (show (g 70 16) = (1 : Int32) from h16) hc0)
  refine q_step 1 9 [(0, .ref 70)] [.ref 70] g u (fun big n0 => sg_rm_38 big n0 g u) ?_
  have hln2 : q_BS 156 [.ref 70] g u (some (.int (3 : Int32)), g, u) := by
    have z := r_line g u hb.1 hb.2.1 h15 h14 (t_pl_b hp).1 (t_pl_b hp).2.1
    rw [t_ln_c (s := s) (fun j hj => (hb.2.2 j hj).1) (by have := t_pl_b (b := b) hp; omega), hln] at z
    exact z
  refine q_call (M2 := 156) (rest := []) (hln2) (fun _ _ => rfl) ?_
  refine q_step 9 31 [(0, .ref 70), (1, .int (3 : Int32))] [.int (2 : Int32), .int (1 : Int32), .ref 70] g u (fun big n0 => sg_rm_66 big n0 g u) ?_
  refine q_call (M2 := 154) (rest := []) (b_needs1 _ _ _) (fun _ _ => rfl) ?_
  refine q_step 10 59 [(0, .ref 70), (1, .int (3 : Int32))] [.int (5 : Int32), .int (1 : Int32), .ref 70] g u (fun big n0 => sg_rm_67 big n0 g u) ?_
  refine q_call (M2 := 154) (rest := []) (b_needs1 _ _ _) (fun _ _ => rfl) ?_
  refine q_step 2 66 [(0, .ref 70), (1, .int (3 : Int32))] [.int (g 70 18)] g u (fun big n0 => sg_rm_68 big n0 g u) ?_
  refine q_if_ne rfl (fun (hc1 : (g 70 18) = 0) => ?_) (fun hc1 => absurd (show (g 70 18) = 0 from hf0) hc1)
  refine q_step 4 108 [(0, .ref 70), (1, .int (3 : Int32))] [.ref 70] g u (fun big n0 => sg_rm_69 big n0 g u) ?_
  obtain ⟨g1, q1, f1, l1⟩ := r_nextb (b := b) (p := (t_pl b s p)) g u (hb.R (k_fR_rfl g)) h14 (t_pl_b hp).2.1 hf0
  refine q_call (M2 := 152) (rest := []) (q1) (fun _ _ => rfl) ?_
  refine q_step 2 115 [(0, .ref 70), (1, .int (3 : Int32))] [.int (g1 70 18)] g1 u (fun big n0 => sg_rm_70 big n0 g1 u) ?_
  refine q_if_le rfl (fun (hc2 : (g1 70 18) ≤ 0) => ?_) (fun (hc2 : ¬ ((g1 70 18) ≤ 0)) => ?_)
  · refine q_step 2 121 [(0, .ref 70), (1, .int (3 : Int32))] [.int (3 : Int32), .ref 70] g1 u (fun big n0 => sg_rm_71 big n0 g1 u) ?_
    have eo : o_wall b s (t_pl b s p) r = o_wall b s (t_pl b s p) r := rfl
    have hrs : k_rs b s (t_pl b s p) r g1 := ⟨(hb.R (k_fR_rfl g)).fr f1, (t_pl_b hp).2.1, l1, hd.f70 f1⟩
    obtain ⟨_, q2, g2, rfl, c2⟩ := r_lwall g1 u hrs hn
    refine q_call (M2 := 159) (rest := []) (q2) (fun _ _ => rfl) ?_
    rw [eo]
    exact r_tail g2 u (((hb.R (k_fR_rfl g)).fr f1).R c2.1) ⟨((k_fR_rfl g).trans f1.R).trans c2.1, c2.2⟩ _
  · refine q_ret 1 (none, g1, u) (fun _ _ => rfl) ?_
    have eo : o_wall b s (t_pl b s p) r = o_wall b s (t_pl b s p) r := rfl
    have l2 := l1.resolve_right (fun z => hc2 (by rw [z.2.1]; decide))
    have ew : o_wall b s (t_pl b s p) r = o_bad 1 (t_fi b s (t_pl b s p)) r := by
      rw [eo]
      unfold o_wall o_free
      rw [o_num0 l2.1]
    rw [ew, o_fin_bad (by decide)]
    exact ⟨_, rfl, k_rc_bad ((k_fR_rfl g).trans f1.R) (by decide) l2.2.1 l2.2.2⟩
theorem r_rl4 {b : Nat → Int32} {s p : Nat} {r : qM} (g : qM) (u : qW) (hb : k_b b s g) (hp : p ≤ s) (hf0 : g 70 18 = 0) (h14 : g 70 14 = Int32.ofNat (t_pl b s p)) (h15 : g 70 15 = Int32.ofNat (t_fi b s p)) (h16 : g 70 16 = 1) (hln : t_ln b (t_fi b s p) ((t_pl b s p) - (t_fi b s p)) = (4 : Int32)) (hd : k_dh r g) (hn : k_dn r) : ∃ R, q_BS 155 [.ref 70] g u R ∧ ∃ g', R = (none, g', u) ∧ k_rc b s (o_fin b s (o_one b s (t_fi b s p) (t_pl b s p) r 0)) g g' := by
  refine q_bs (mm := m_155) rfl (Nat.le_of_ble_eq_true rfl) rfl ?_
  refine q_step 3 5 [(0, .ref 70)] [.int (1 : Int32), .int (g 70 16)] g u (fun big n0 => sg_rm_37 big n0 g u) ?_
  refine q_ic_ne rfl (fun (hc0 : (g 70 16) = (1 : Int32)) => ?_) (fun hc0 => absurd (show (g 70 16) = (1 : Int32) from h16) hc0)
  refine q_step 1 9 [(0, .ref 70)] [.ref 70] g u (fun big n0 => sg_rm_38 big n0 g u) ?_
  have hln2 : q_BS 156 [.ref 70] g u (some (.int (4 : Int32)), g, u) := by
    have z := r_line g u hb.1 hb.2.1 h15 h14 (t_pl_b hp).1 (t_pl_b hp).2.1
    rw [t_ln_c (s := s) (fun j hj => (hb.2.2 j hj).1) (by have := t_pl_b (b := b) hp; omega), hln] at z
    exact z
  refine q_call (M2 := 156) (rest := []) (hln2) (fun _ _ => rfl) ?_
  refine q_step 9 31 [(0, .ref 70), (1, .int (4 : Int32))] [.int (2 : Int32), .int (1 : Int32), .ref 70] g u (fun big n0 => sg_rm_72 big n0 g u) ?_
  refine q_call (M2 := 154) (rest := []) (b_needs1 _ _ _) (fun _ _ => rfl) ?_
  refine q_step 7 50 [(0, .ref 70), (1, .int (4 : Int32))] [.int (5 : Int32), .int (g 70 8), .ref 70] g u (fun big n0 => sg_rm_73 big n0 g u) ?_
  refine q_ic_ge rfl (fun (hc1 : (5 : Int32) ≤ (g 70 8)) => ?_) (fun (hc1 : ¬ ((5 : Int32) ≤ (g 70 8))) => ?_)
  · refine q_step 2 59 [(0, .ref 70), (1, .int (4 : Int32))] [.int (5 : Int32), .int (0 : Int32), .ref 70] g u (fun big n0 => sg_rm_74 big n0 g u) ?_
    refine q_call (M2 := 154) (rest := []) (b_needs0 _ _ _ hf0) (fun _ _ => rfl) ?_
    refine q_step 2 66 [(0, .ref 70), (1, .int (4 : Int32))] [.int (5 : Int32)] (q_up (q_up g 70 18 (5 : Int32)) 70 19 (g 70 15)) u (fun big n0 => sg_rm_75 big n0 (q_up (q_up g 70 18 (5 : Int32)) 70 19 (g 70 15)) u) ?_
    refine q_if_ne rfl (fun hc2 => absurd (show (5 : Int32) = 0 from hc2) (by decide)) (fun (hc2 : ¬ ((5 : Int32) = 0)) => ?_)
    refine q_step 1 108 [(0, .ref 70), (1, .int (4 : Int32))] [.ref 70] (q_up (q_up g 70 18 (5 : Int32)) 70 19 (g 70 15)) u (fun big n0 => sg_rm_76 big n0 (q_up (q_up g 70 18 (5 : Int32)) 70 19 (g 70 15)) u) ?_
    refine q_call (M2 := 152) (rest := []) (r_nextf _ _ (show (0 : Int32) < 5 by decide)) (fun _ _ => rfl) ?_
    refine q_step 2 115 [(0, .ref 70), (1, .int (4 : Int32))] [.int (5 : Int32)] (q_up (q_up g 70 18 (5 : Int32)) 70 19 (g 70 15)) u (fun big n0 => sg_rm_77 big n0 (q_up (q_up g 70 18 (5 : Int32)) 70 19 (g 70 15)) u) ?_
    refine q_if_le rfl (fun hc3 => absurd (show (5 : Int32) ≤ 0 from hc3) (by decide)) (fun (hc3 : ¬ ((5 : Int32) ≤ 0)) => ?_)
    refine q_ret 1 (none, (q_up (q_up g 70 18 (5 : Int32)) 70 19 (g 70 15)), u) (fun _ _ => rfl) ?_
    have h8 : ¬ r 70 8 < 5 := by
      have e8 : g 70 8 = r 70 8 := hd.2 8 (by omega) (by omega)
      have z := hc1
      rw [e8] at z
      exact fun y => Int32.not_lt.mpr z y
    have eo : o_one b s (t_fi b s p) (t_pl b s p) r 0 = o_bad 5 (t_fi b s p) r := by
      unfold o_one
      rw [if_neg h8]
    rw [eo, o_fin_bad (by decide)]
    exact ⟨_, rfl, k_rc_bad (((k_fR_rfl g).up (by omega)).up (by omega)) (by decide) rfl h15⟩
  · refine q_step 3 59 [(0, .ref 70), (1, .int (4 : Int32))] [.int (5 : Int32), .int (1 : Int32), .ref 70] g u (fun big n0 => sg_rm_78 big n0 g u) ?_
    refine q_call (M2 := 154) (rest := []) (b_needs1 _ _ _) (fun _ _ => rfl) ?_
    refine q_step 2 66 [(0, .ref 70), (1, .int (4 : Int32))] [.int (g 70 18)] g u (fun big n0 => sg_rm_75 big n0 g u) ?_
    refine q_if_ne rfl (fun (hc2 : (g 70 18) = 0) => ?_) (fun hc2 => absurd (show (g 70 18) = 0 from hf0) hc2)
    refine q_step 4 108 [(0, .ref 70), (1, .int (4 : Int32))] [.ref 70] g u (fun big n0 => sg_rm_79 big n0 g u) ?_
    obtain ⟨g1, q1, f1, l1⟩ := r_nextb (b := b) (p := (t_pl b s p)) g u (hb.R (k_fR_rfl g)) h14 (t_pl_b hp).2.1 hf0
    refine q_call (M2 := 152) (rest := []) (q1) (fun _ _ => rfl) ?_
    refine q_step 2 115 [(0, .ref 70), (1, .int (4 : Int32))] [.int (g1 70 18)] g1 u (fun big n0 => sg_rm_77 big n0 g1 u) ?_
    refine q_if_le rfl (fun (hc3 : (g1 70 18) ≤ 0) => ?_) (fun (hc3 : ¬ ((g1 70 18) ≤ 0)) => ?_)
    · refine q_step 2 121 [(0, .ref 70), (1, .int (4 : Int32))] [.int (4 : Int32), .ref 70] g1 u (fun big n0 => sg_rm_80 big n0 g1 u) ?_
      have h8 : r 70 8 < 5 := by
        have e8 : g 70 8 = r 70 8 := hd.2 8 (by omega) (by omega)
        have z := hc1
        rw [e8] at z
        exact Int32.not_le.mp z
      have eo : o_one b s (t_fi b s p) (t_pl b s p) r 0 = i_one b s (t_pl b s p) r 0 := by
        unfold o_one
        rw [if_pos h8]
        rfl
      have hrs : k_rs b s (t_pl b s p) r g1 := ⟨(hb.R (k_fR_rfl g)).fr f1, (t_pl_b hp).2.1, l1, hd.f70 f1⟩
      obtain ⟨_, q2, g2, rfl, c2⟩ := r_lat g1 u hrs hn (k_n5 hn h8)
      refine q_call (M2 := 159) (rest := []) (q2) (fun _ _ => rfl) ?_
      rw [eo]
      exact r_tail g2 u (((hb.R (k_fR_rfl g)).fr f1).R c2.1) ⟨((k_fR_rfl g).trans f1.R).trans c2.1, c2.2⟩ _
    · refine q_ret 1 (none, g1, u) (fun _ _ => rfl) ?_
      have h8 : r 70 8 < 5 := by
        have e8 : g 70 8 = r 70 8 := hd.2 8 (by omega) (by omega)
        have z := hc1
        rw [e8] at z
        exact Int32.not_le.mp z
      have eo : o_one b s (t_fi b s p) (t_pl b s p) r 0 = i_one b s (t_pl b s p) r 0 := by
        unfold o_one
        rw [if_pos h8]
        rfl
      have l2 := l1.resolve_right (fun z => hc3 (by rw [z.2.1]; decide))
      have ew : o_one b s (t_fi b s p) (t_pl b s p) r 0 = o_bad 1 (t_fi b s (t_pl b s p)) r := by
        rw [eo]
        unfold i_one o_free
        rw [o_num0 l2.1]
      rw [ew, o_fin_bad (by decide)]
      exact ⟨_, rfl, k_rc_bad ((k_fR_rfl g).trans f1.R) (by decide) l2.2.1 l2.2.2⟩
theorem r_rl5 {b : Nat → Int32} {s p : Nat} {r : qM} (g : qM) (u : qW) (hb : k_b b s g) (hp : p ≤ s) (hf0 : g 70 18 = 0) (h14 : g 70 14 = Int32.ofNat (t_pl b s p)) (h15 : g 70 15 = Int32.ofNat (t_fi b s p)) (h16 : g 70 16 = 1) (hln : t_ln b (t_fi b s p) ((t_pl b s p) - (t_fi b s p)) = (5 : Int32)) (hd : k_dh r g) (hn : k_dn r) : ∃ R, q_BS 155 [.ref 70] g u R ∧ ∃ g', R = (none, g', u) ∧ k_rc b s (o_fin b s (o_one b s (t_fi b s p) (t_pl b s p) r 1)) g g' := by
  refine q_bs (mm := m_155) rfl (Nat.le_of_ble_eq_true rfl) rfl ?_
  refine q_step 3 5 [(0, .ref 70)] [.int (1 : Int32), .int (g 70 16)] g u (fun big n0 => sg_rm_37 big n0 g u) ?_
  refine q_ic_ne rfl (fun (hc0 : (g 70 16) = (1 : Int32)) => ?_) (fun hc0 => absurd (show (g 70 16) = (1 : Int32) from h16) hc0)
  refine q_step 1 9 [(0, .ref 70)] [.ref 70] g u (fun big n0 => sg_rm_38 big n0 g u) ?_
  have hln2 : q_BS 156 [.ref 70] g u (some (.int (5 : Int32)), g, u) := by
    have z := r_line g u hb.1 hb.2.1 h15 h14 (t_pl_b hp).1 (t_pl_b hp).2.1
    rw [t_ln_c (s := s) (fun j hj => (hb.2.2 j hj).1) (by have := t_pl_b (b := b) hp; omega), hln] at z
    exact z
  refine q_call (M2 := 156) (rest := []) (hln2) (fun _ _ => rfl) ?_
  refine q_step 9 31 [(0, .ref 70), (1, .int (5 : Int32))] [.int (2 : Int32), .int (1 : Int32), .ref 70] g u (fun big n0 => sg_rm_81 big n0 g u) ?_
  refine q_call (M2 := 154) (rest := []) (b_needs1 _ _ _) (fun _ _ => rfl) ?_
  refine q_step 10 50 [(0, .ref 70), (1, .int (5 : Int32))] [.int (5 : Int32), .int (g 70 8), .ref 70] g u (fun big n0 => sg_rm_82 big n0 g u) ?_
  refine q_ic_ge rfl (fun (hc1 : (5 : Int32) ≤ (g 70 8)) => ?_) (fun (hc1 : ¬ ((5 : Int32) ≤ (g 70 8))) => ?_)
  · refine q_step 2 59 [(0, .ref 70), (1, .int (5 : Int32))] [.int (5 : Int32), .int (0 : Int32), .ref 70] g u (fun big n0 => sg_rm_83 big n0 g u) ?_
    refine q_call (M2 := 154) (rest := []) (b_needs0 _ _ _ hf0) (fun _ _ => rfl) ?_
    refine q_step 2 66 [(0, .ref 70), (1, .int (5 : Int32))] [.int (5 : Int32)] (q_up (q_up g 70 18 (5 : Int32)) 70 19 (g 70 15)) u (fun big n0 => sg_rm_84 big n0 (q_up (q_up g 70 18 (5 : Int32)) 70 19 (g 70 15)) u) ?_
    refine q_if_ne rfl (fun hc2 => absurd (show (5 : Int32) = 0 from hc2) (by decide)) (fun (hc2 : ¬ ((5 : Int32) = 0)) => ?_)
    refine q_step 1 108 [(0, .ref 70), (1, .int (5 : Int32))] [.ref 70] (q_up (q_up g 70 18 (5 : Int32)) 70 19 (g 70 15)) u (fun big n0 => sg_rm_85 big n0 (q_up (q_up g 70 18 (5 : Int32)) 70 19 (g 70 15)) u) ?_
    refine q_call (M2 := 152) (rest := []) (r_nextf _ _ (show (0 : Int32) < 5 by decide)) (fun _ _ => rfl) ?_
    refine q_step 2 115 [(0, .ref 70), (1, .int (5 : Int32))] [.int (5 : Int32)] (q_up (q_up g 70 18 (5 : Int32)) 70 19 (g 70 15)) u (fun big n0 => sg_rm_86 big n0 (q_up (q_up g 70 18 (5 : Int32)) 70 19 (g 70 15)) u) ?_
    refine q_if_le rfl (fun hc3 => absurd (show (5 : Int32) ≤ 0 from hc3) (by decide)) (fun (hc3 : ¬ ((5 : Int32) ≤ 0)) => ?_)
    refine q_ret 1 (none, (q_up (q_up g 70 18 (5 : Int32)) 70 19 (g 70 15)), u) (fun _ _ => rfl) ?_
    have h8 : ¬ r 70 8 < 5 := by
      have e8 : g 70 8 = r 70 8 := hd.2 8 (by omega) (by omega)
      have z := hc1
      rw [e8] at z
      exact fun y => Int32.not_lt.mpr z y
    have eo : o_one b s (t_fi b s p) (t_pl b s p) r 1 = o_bad 5 (t_fi b s p) r := by
      unfold o_one
      rw [if_neg h8]
    rw [eo, o_fin_bad (by decide)]
    exact ⟨_, rfl, k_rc_bad (((k_fR_rfl g).up (by omega)).up (by omega)) (by decide) rfl h15⟩
  · refine q_step 3 59 [(0, .ref 70), (1, .int (5 : Int32))] [.int (5 : Int32), .int (1 : Int32), .ref 70] g u (fun big n0 => sg_rm_87 big n0 g u) ?_
    refine q_call (M2 := 154) (rest := []) (b_needs1 _ _ _) (fun _ _ => rfl) ?_
    refine q_step 2 66 [(0, .ref 70), (1, .int (5 : Int32))] [.int (g 70 18)] g u (fun big n0 => sg_rm_84 big n0 g u) ?_
    refine q_if_ne rfl (fun (hc2 : (g 70 18) = 0) => ?_) (fun hc2 => absurd (show (g 70 18) = 0 from hf0) hc2)
    refine q_step 4 108 [(0, .ref 70), (1, .int (5 : Int32))] [.ref 70] g u (fun big n0 => sg_rm_88 big n0 g u) ?_
    obtain ⟨g1, q1, f1, l1⟩ := r_nextb (b := b) (p := (t_pl b s p)) g u (hb.R (k_fR_rfl g)) h14 (t_pl_b hp).2.1 hf0
    refine q_call (M2 := 152) (rest := []) (q1) (fun _ _ => rfl) ?_
    refine q_step 2 115 [(0, .ref 70), (1, .int (5 : Int32))] [.int (g1 70 18)] g1 u (fun big n0 => sg_rm_86 big n0 g1 u) ?_
    refine q_if_le rfl (fun (hc3 : (g1 70 18) ≤ 0) => ?_) (fun (hc3 : ¬ ((g1 70 18) ≤ 0)) => ?_)
    · refine q_step 2 121 [(0, .ref 70), (1, .int (5 : Int32))] [.int (5 : Int32), .ref 70] g1 u (fun big n0 => sg_rm_89 big n0 g1 u) ?_
      have h8 : r 70 8 < 5 := by
        have e8 : g 70 8 = r 70 8 := hd.2 8 (by omega) (by omega)
        have z := hc1
        rw [e8] at z
        exact Int32.not_le.mp z
      have eo : o_one b s (t_fi b s p) (t_pl b s p) r 1 = i_one b s (t_pl b s p) r 1 := by
        unfold o_one
        rw [if_pos h8]
        rfl
      have hrs : k_rs b s (t_pl b s p) r g1 := ⟨(hb.R (k_fR_rfl g)).fr f1, (t_pl_b hp).2.1, l1, hd.f70 f1⟩
      obtain ⟨_, q2, g2, rfl, c2⟩ := r_lstill g1 u hrs hn (k_n5 hn h8)
      refine q_call (M2 := 159) (rest := []) (q2) (fun _ _ => rfl) ?_
      rw [eo]
      exact r_tail g2 u (((hb.R (k_fR_rfl g)).fr f1).R c2.1) ⟨((k_fR_rfl g).trans f1.R).trans c2.1, c2.2⟩ _
    · refine q_ret 1 (none, g1, u) (fun _ _ => rfl) ?_
      have h8 : r 70 8 < 5 := by
        have e8 : g 70 8 = r 70 8 := hd.2 8 (by omega) (by omega)
        have z := hc1
        rw [e8] at z
        exact Int32.not_le.mp z
      have eo : o_one b s (t_fi b s p) (t_pl b s p) r 1 = i_one b s (t_pl b s p) r 1 := by
        unfold o_one
        rw [if_pos h8]
        rfl
      have l2 := l1.resolve_right (fun z => hc3 (by rw [z.2.1]; decide))
      have ew : o_one b s (t_fi b s p) (t_pl b s p) r 1 = o_bad 1 (t_fi b s (t_pl b s p)) r := by
        rw [eo]
        unfold i_one o_free
        rw [o_num0 l2.1]
      rw [ew, o_fin_bad (by decide)]
      exact ⟨_, rfl, k_rc_bad ((k_fR_rfl g).trans f1.R) (by decide) l2.2.1 l2.2.2⟩
theorem r_rl6 {b : Nat → Int32} {s p : Nat} {r : qM} (g : qM) (u : qW) (hb : k_b b s g) (hp : p ≤ s) (hf0 : g 70 18 = 0) (h14 : g 70 14 = Int32.ofNat (t_pl b s p)) (h15 : g 70 15 = Int32.ofNat (t_fi b s p)) (h16 : g 70 16 = 1) (hln : t_ln b (t_fi b s p) ((t_pl b s p) - (t_fi b s p)) = (6 : Int32)) (hd : k_dh r g) (hn : k_dn r) : ∃ R, q_BS 155 [.ref 70] g u R ∧ ∃ g', R = (none, g', u) ∧ k_rc b s (o_fin b s (o_goal b s (t_pl b s p) r)) g g' := by
  refine q_bs (mm := m_155) rfl (Nat.le_of_ble_eq_true rfl) rfl ?_
  refine q_step 3 5 [(0, .ref 70)] [.int (1 : Int32), .int (g 70 16)] g u (fun big n0 => sg_rm_37 big n0 g u) ?_
  refine q_ic_ne rfl (fun (hc0 : (g 70 16) = (1 : Int32)) => ?_) (fun hc0 => absurd (show (g 70 16) = (1 : Int32) from h16) hc0)
  refine q_step 1 9 [(0, .ref 70)] [.ref 70] g u (fun big n0 => sg_rm_38 big n0 g u) ?_
  have hln2 : q_BS 156 [.ref 70] g u (some (.int (6 : Int32)), g, u) := by
    have z := r_line g u hb.1 hb.2.1 h15 h14 (t_pl_b hp).1 (t_pl_b hp).2.1
    rw [t_ln_c (s := s) (fun j hj => (hb.2.2 j hj).1) (by have := t_pl_b (b := b) hp; omega), hln] at z
    exact z
  refine q_call (M2 := 156) (rest := []) (hln2) (fun _ _ => rfl) ?_
  refine q_step 9 31 [(0, .ref 70), (1, .int (6 : Int32))] [.int (2 : Int32), .int (1 : Int32), .ref 70] g u (fun big n0 => sg_rm_90 big n0 g u) ?_
  refine q_call (M2 := 154) (rest := []) (b_needs1 _ _ _) (fun _ _ => rfl) ?_
  refine q_step 10 59 [(0, .ref 70), (1, .int (6 : Int32))] [.int (5 : Int32), .int (1 : Int32), .ref 70] g u (fun big n0 => sg_rm_91 big n0 g u) ?_
  refine q_call (M2 := 154) (rest := []) (b_needs1 _ _ _) (fun _ _ => rfl) ?_
  refine q_step 2 66 [(0, .ref 70), (1, .int (6 : Int32))] [.int (g 70 18)] g u (fun big n0 => sg_rm_92 big n0 g u) ?_
  refine q_if_ne rfl (fun (hc1 : (g 70 18) = 0) => ?_) (fun hc1 => absurd (show (g 70 18) = 0 from hf0) hc1)
  refine q_step 4 108 [(0, .ref 70), (1, .int (6 : Int32))] [.ref 70] g u (fun big n0 => sg_rm_93 big n0 g u) ?_
  obtain ⟨g1, q1, f1, l1⟩ := r_nextb (b := b) (p := (t_pl b s p)) g u (hb.R (k_fR_rfl g)) h14 (t_pl_b hp).2.1 hf0
  refine q_call (M2 := 152) (rest := []) (q1) (fun _ _ => rfl) ?_
  refine q_step 2 115 [(0, .ref 70), (1, .int (6 : Int32))] [.int (g1 70 18)] g1 u (fun big n0 => sg_rm_94 big n0 g1 u) ?_
  refine q_if_le rfl (fun (hc2 : (g1 70 18) ≤ 0) => ?_) (fun (hc2 : ¬ ((g1 70 18) ≤ 0)) => ?_)
  · refine q_step 2 121 [(0, .ref 70), (1, .int (6 : Int32))] [.int (6 : Int32), .ref 70] g1 u (fun big n0 => sg_rm_95 big n0 g1 u) ?_
    have eo : o_goal b s (t_pl b s p) r = o_goal b s (t_pl b s p) r := rfl
    have hrs : k_rs b s (t_pl b s p) r g1 := ⟨(hb.R (k_fR_rfl g)).fr f1, (t_pl_b hp).2.1, l1, hd.f70 f1⟩
    obtain ⟨_, q2, g2, rfl, c2⟩ := r_lgoal g1 u hrs hn
    refine q_call (M2 := 159) (rest := []) (q2) (fun _ _ => rfl) ?_
    rw [eo]
    exact r_tail g2 u (((hb.R (k_fR_rfl g)).fr f1).R c2.1) ⟨((k_fR_rfl g).trans f1.R).trans c2.1, c2.2⟩ _
  · refine q_ret 1 (none, g1, u) (fun _ _ => rfl) ?_
    have eo : o_goal b s (t_pl b s p) r = o_goal b s (t_pl b s p) r := rfl
    have l2 := l1.resolve_right (fun z => hc2 (by rw [z.2.1]; decide))
    have ew : o_goal b s (t_pl b s p) r = o_bad 1 (t_fi b s (t_pl b s p)) r := by
      rw [eo]
      unfold o_goal
      rw [o_num0 l2.1]
    rw [ew, o_fin_bad (by decide)]
    exact ⟨_, rfl, k_rc_bad ((k_fR_rfl g).trans f1.R) (by decide) l2.2.1 l2.2.2⟩
theorem r_rln {b : Nat → Int32} {s p : Nat} {r : qM} (g : qM) (u : qW) (hb : k_b b s g) (hp : p ≤ s) (hf0 : g 70 18 = 0) (h14 : g 70 14 = Int32.ofNat (t_pl b s p)) (h15 : g 70 15 = Int32.ofNat (t_fi b s p)) (h16 : g 70 16 = 1) (hln : t_ln b (t_fi b s p) ((t_pl b s p) - (t_fi b s p)) = (Int32.ofInt (-4))) (hd : k_dh r g) (hn : k_dn r) : ∃ R, q_BS 155 [.ref 70] g u R ∧ ∃ g', R = (none, g', u) ∧ k_rc b s (o_fin b s (o_bad 2 (t_fi b s p) r)) g g' := by
  refine q_bs (mm := m_155) rfl (Nat.le_of_ble_eq_true rfl) rfl ?_
  refine q_step 3 5 [(0, .ref 70)] [.int (1 : Int32), .int (g 70 16)] g u (fun big n0 => sg_rm_37 big n0 g u) ?_
  refine q_ic_ne rfl (fun (hc0 : (g 70 16) = (1 : Int32)) => ?_) (fun hc0 => absurd (show (g 70 16) = (1 : Int32) from h16) hc0)
  refine q_step 1 9 [(0, .ref 70)] [.ref 70] g u (fun big n0 => sg_rm_38 big n0 g u) ?_
  have hln2 : q_BS 156 [.ref 70] g u (some (.int (Int32.ofInt (-4))), g, u) := by
    have z := r_line g u hb.1 hb.2.1 h15 h14 (t_pl_b hp).1 (t_pl_b hp).2.1
    rw [t_ln_c (s := s) (fun j hj => (hb.2.2 j hj).1) (by have := t_pl_b (b := b) hp; omega), hln] at z
    exact z
  refine q_call (M2 := 156) (rest := []) (hln2) (fun _ _ => rfl) ?_
  refine q_step 8 31 [(0, .ref 70), (1, .int (Int32.ofInt (-4)))] [.int (2 : Int32), .int (0 : Int32), .ref 70] g u (fun big n0 => sg_rm_96 big n0 g u) ?_
  refine q_call (M2 := 154) (rest := []) (b_needs0 _ _ _ hf0) (fun _ _ => rfl) ?_
  refine q_step 10 59 [(0, .ref 70), (1, .int (Int32.ofInt (-4)))] [.int (5 : Int32), .int (1 : Int32), .ref 70] (q_up (q_up g 70 18 (2 : Int32)) 70 19 (g 70 15)) u (fun big n0 => sg_rm_97 big n0 (q_up (q_up g 70 18 (2 : Int32)) 70 19 (g 70 15)) u) ?_
  refine q_call (M2 := 154) (rest := []) (b_needs1 _ _ _) (fun _ _ => rfl) ?_
  refine q_step 2 66 [(0, .ref 70), (1, .int (Int32.ofInt (-4)))] [.int (2 : Int32)] (q_up (q_up g 70 18 (2 : Int32)) 70 19 (g 70 15)) u (fun big n0 => sg_rm_98 big n0 (q_up (q_up g 70 18 (2 : Int32)) 70 19 (g 70 15)) u) ?_
  refine q_if_ne rfl (fun hc1 => absurd (show (2 : Int32) = 0 from hc1) (by decide)) (fun (hc1 : ¬ ((2 : Int32) = 0)) => ?_)
  refine q_step 1 108 [(0, .ref 70), (1, .int (Int32.ofInt (-4)))] [.ref 70] (q_up (q_up g 70 18 (2 : Int32)) 70 19 (g 70 15)) u (fun big n0 => sg_rm_99 big n0 (q_up (q_up g 70 18 (2 : Int32)) 70 19 (g 70 15)) u) ?_
  refine q_call (M2 := 152) (rest := []) (r_nextf _ _ (show (0 : Int32) < 2 by decide)) (fun _ _ => rfl) ?_
  refine q_step 2 115 [(0, .ref 70), (1, .int (Int32.ofInt (-4)))] [.int (2 : Int32)] (q_up (q_up g 70 18 (2 : Int32)) 70 19 (g 70 15)) u (fun big n0 => sg_rm_100 big n0 (q_up (q_up g 70 18 (2 : Int32)) 70 19 (g 70 15)) u) ?_
  refine q_if_le rfl (fun hc2 => absurd (show (2 : Int32) ≤ 0 from hc2) (by decide)) (fun (hc2 : ¬ ((2 : Int32) ≤ 0)) => ?_)
  refine q_ret 1 (none, (q_up (q_up g 70 18 (2 : Int32)) 70 19 (g 70 15)), u) (fun _ _ => rfl) ?_
  rw [o_fin_bad (by decide)]
  exact ⟨_, rfl, k_rc_bad (((k_fR_rfl g).up (by omega)).up (by omega)) (by decide) rfl h15⟩
theorem r_rlx {b : Nat → Int32} {s p : Nat} {r : qM} (g : qM) (u : qW) (hb : k_b b s g) (hp : p ≤ s) (hf0 : g 70 18 = 0) (h14 : g 70 14 = Int32.ofNat (t_pl b s p)) (h15 : g 70 15 = Int32.ofNat (t_fi b s p)) (h16 : ¬ g 70 16 = 1) (hd : k_dh r g) (hn : k_dn r) : ∃ R, q_BS 155 [.ref 70] g u R ∧ ∃ g', R = (none, g', u) ∧ k_rc b s (o_bad 2 (t_fi b s p) r) g g' := by
  refine q_bs (mm := m_155) rfl (Nat.le_of_ble_eq_true rfl) rfl ?_
  refine q_step 3 5 [(0, .ref 70)] [.int (1 : Int32), .int (g 70 16)] g u (fun big n0 => sg_rm_37 big n0 g u) ?_
  refine q_ic_ne rfl (fun hc0 => absurd (show (g 70 16) = (1 : Int32) from hc0) (h16)) (fun (hc0 : ¬ ((g 70 16) = (1 : Int32))) => ?_)
  refine q_step 8 31 [(0, .ref 70), (1, .int (Int8.toInt32 (Int8.ofInt (-4))))] [.int (2 : Int32), .int (0 : Int32), .ref 70] g u (fun big n0 => sg_rm_101 big n0 g u) ?_
  refine q_call (M2 := 154) (rest := []) (b_needs0 _ _ _ hf0) (fun _ _ => rfl) ?_
  refine q_step 10 59 [(0, .ref 70), (1, .int (Int8.toInt32 (Int8.ofInt (-4))))] [.int (5 : Int32), .int (1 : Int32), .ref 70] (q_up (q_up g 70 18 (2 : Int32)) 70 19 (g 70 15)) u (fun big n0 => sg_rm_102 big n0 (q_up (q_up g 70 18 (2 : Int32)) 70 19 (g 70 15)) u) ?_
  refine q_call (M2 := 154) (rest := []) (b_needs1 _ _ _) (fun _ _ => rfl) ?_
  refine q_step 2 66 [(0, .ref 70), (1, .int (Int8.toInt32 (Int8.ofInt (-4))))] [.int (2 : Int32)] (q_up (q_up g 70 18 (2 : Int32)) 70 19 (g 70 15)) u (fun big n0 => sg_rm_103 big n0 (q_up (q_up g 70 18 (2 : Int32)) 70 19 (g 70 15)) u) ?_
  refine q_if_ne rfl (fun hc1 => absurd (show (2 : Int32) = 0 from hc1) (by decide)) (fun (hc1 : ¬ ((2 : Int32) = 0)) => ?_)
  refine q_step 1 108 [(0, .ref 70), (1, .int (Int8.toInt32 (Int8.ofInt (-4))))] [.ref 70] (q_up (q_up g 70 18 (2 : Int32)) 70 19 (g 70 15)) u (fun big n0 => sg_rm_104 big n0 (q_up (q_up g 70 18 (2 : Int32)) 70 19 (g 70 15)) u) ?_
  refine q_call (M2 := 152) (rest := []) (r_nextf _ _ (show (0 : Int32) < 2 by decide)) (fun _ _ => rfl) ?_
  refine q_step 2 115 [(0, .ref 70), (1, .int (Int8.toInt32 (Int8.ofInt (-4))))] [.int (2 : Int32)] (q_up (q_up g 70 18 (2 : Int32)) 70 19 (g 70 15)) u (fun big n0 => sg_rm_105 big n0 (q_up (q_up g 70 18 (2 : Int32)) 70 19 (g 70 15)) u) ?_
  refine q_if_le rfl (fun hc2 => absurd (show (2 : Int32) ≤ 0 from hc2) (by decide)) (fun (hc2 : ¬ ((2 : Int32) ≤ 0)) => ?_)
  refine q_ret 1 (none, (q_up (q_up g 70 18 (2 : Int32)) 70 19 (g 70 15)), u) (fun _ _ => rfl) ?_
  exact ⟨_, rfl, k_rc_bad (((k_fR_rfl g).up (by omega)).up (by omega)) (by decide) rfl h15⟩
