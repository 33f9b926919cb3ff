/-! READ of the reference. -/
theorem s_m71_cg {f f' : Nat → Int32} {g : qM} (h : ∀ q, q < 5 → f q = f' q) : s_m71 f g = s_m71 f' g := by
  funext a j
  unfold s_m71
  by_cases ha : a = 71
  · rw [if_pos ha, if_pos ha]
    by_cases l : 5 ≤ j ∧ j < 10
    · rw [if_pos l, if_pos l, h (j - 5) (by omega)]
    · rw [if_neg l, if_neg l]
  · rw [if_neg ha, if_neg ha]
theorem s_m71_at {f : Nat → Int32} {g : qM} {p : Nat} (hp : p < 5) : s_m71 f g 71 (5 + p) = f p := by
  unfold s_m71
  rw [if_pos rfl, if_pos (by omega), show 5 + p - 5 = p by omega]
theorem lp_i {f : Int32} {a b : Nat} (ha : a < 1000) (hb : b < 1000) : ((Int32.toInt64 f + Int64.ofNat a) + Int64.ofNat b).toInt = f.toInt + a + b := by
  have h1 := Int32.toInt_lt f
  have h2 := Int32.le_toInt f
  have e : (Int32.toInt64 f + Int64.ofNat a).toInt = f.toInt + a := by
    rw [Int64.toInt_add, Int32.toInt_toInt64, q_l64 (by omega)]
    exact Int.bmod_eq_of_le (by omega) (by omega)
  rw [Int64.toInt_add, e, q_l64 (by omega)]
  exact Int.bmod_eq_of_le (by omega) (by omega)
theorem n_tl_0 {n j : Nat} {row : Nat → Int32} (h6 : n ≤ 6) (h1 : v_one n (row j)) (h2 : v_rg 0 3 (row (j + 1))) : n_tl n row j ≠ 0 := by
  obtain ⟨p, hp, e⟩ := h1
  obtain ⟨m, _, hm, e2⟩ := h2
  unfold n_tl
  rw [e, e2, if_neg (fun z => by
    have z := Int32.lt_iff_toInt_lt.mp z
    rw [q_nat (by omega)] at z
    have e : (0 : Int32).toInt = 0 := rfl
    omega), if_neg (fun z => absurd ((q_le (by omega) (by omega)).mp z) (by omega)), if_neg (fun z => by
    have z := Int32.lt_iff_toInt_lt.mp z
    rw [q_nat (by omega)] at z
    have e : (0 : Int32).toInt = 0 := rfl
    omega), if_neg (show ¬ (3 : Int32) < Int32.ofNat m from fun z => absurd ((q_lt (i := 3) (j := m) (by omega) (by omega)).mp z) (by omega))]
  decide
def s_had (g : qM) : qM := q_up (q_up (q_up (q_up (q_up g 87 0 (g 71 5)) 87 1 (g 71 6)) 87 2 (g 71 7)) 87 3 (g 71 8)) 87 4 (g 71 9)
theorem s_had_o {b : Nat} {g : qM} (h : b ≠ 87) : s_had g b = g b := by
  unfold s_had
  rw [q_up_ne h, q_up_ne h, q_up_ne h, q_up_ne h, q_up_ne h]
theorem s_had_q {q : Nat} {g : qM} (h : q < 5) : s_had g 87 q = g 71 (5 + q) := by
  unfold s_had
  simp only [q_up_at]
  rcases (show q = 0 ∨ q = 1 ∨ q = 2 ∨ q = 3 ∨ q = 4 by omega) with e | e | e | e | e <;> subst e <;> rfl
theorem q_ex {mm : pm_M} {M : Nat} {as : List Value} {g : qM} {u : qW} {v : Option Value} {F : Int32 → qM} (hm : pm_m M = some mm) (hw : pm_words as ≤ pm_ml mm) (hl : as.length = pm_n mm) (hE : q_EV mm 0 (lv_args 0 as) [] g u (fun R => ∃ x, R = (v, F x, u))) : ∃ x, q_BS M as g u (v, F x, u) := by
  obtain ⟨R, hR, x, e⟩ := q_bs hm hw hl hE
  rw [e] at hR
  exact ⟨x, hR⟩
