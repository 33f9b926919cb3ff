/-! WISHES are alike: the class's sums of pairs, the reference's sums one by one. -/
/-- a number from lo to hi -/
def s_rg (x : Int32) (lo hi : Int) : Prop := lo ≤ x.toInt ∧ x.toInt ≤ hi
theorem s_cr_fin : (List.range 4).all (fun W => (List.range 25).all (fun C => decide (0 ≤ (s_col (Int32.ofNat (W + 2)) (Int32.ofNat C)).toInt ∧ (s_col (Int32.ofNat (W + 2)) (Int32.ofNat C)).toInt ≤ 4 ∧ 0 ≤ (s_row (Int32.ofNat (W + 2)) (Int32.ofNat C)).toInt ∧ (s_row (Int32.ofNat (W + 2)) (Int32.ofNat C)).toInt ≤ 12))) = true := by decide +kernel
theorem s_cr {w c : Int32} (hw : s_rg w 2 5) (hc : s_rg c 0 24) : s_rg (s_col w c) 0 4 ∧ s_rg (s_row w c) 0 12 := by
  obtain ⟨h1, h2⟩ := hw
  obtain ⟨h3, h4⟩ := hc
  have e1 : w = Int32.ofNat ((w.toInt.toNat - 2) + 2) := by
    rw [show (w.toInt.toNat - 2) + 2 = w.toInt.toNat by omega]
    exact q_of (by omega)
  have e2 : c = Int32.ofNat c.toInt.toNat := q_of h3
  have h := List.all_eq_true.mp (List.all_eq_true.mp s_cr_fin (w.toInt.toNat - 2) (List.mem_range.mpr (by omega))) c.toInt.toNat (List.mem_range.mpr (by omega))
  rw [← e1, ← e2] at h
  have h := of_decide_eq_true h
  exact ⟨⟨h.1, h.2.1⟩, ⟨h.2.2.1, h.2.2.2⟩⟩
theorem s_neg {x : Int32} (h1 : -2147483648 < x.toInt) : (-x).toInt = -x.toInt := by
  have := Int32.toInt_lt x
  rw [Int32.toInt_neg]
  exact Int.bmod_eq_of_le (by omega) (by omega)
theorem s_ge0 {x : Int32} : (0 ≤ x) ↔ 0 ≤ x.toInt := by
  rw [Int32.le_iff_toInt_le]
  exact Iff.rfl
theorem s_le0 {x : Int32} : (x ≤ 0) ↔ x.toInt ≤ 0 := by
  rw [Int32.le_iff_toInt_le]
  exact Iff.rfl
theorem s_abs_i {x : Int32} (h1 : -2147483648 < x.toInt) : (s_abs x).toInt = if 0 ≤ x.toInt then x.toInt else -x.toInt := by
  unfold s_abs
  by_cases h : 0 ≤ x.toInt
  · rw [if_pos (s_ge0.mpr h), if_pos h]
  · rw [if_neg (fun z => h (s_ge0.mp z)), if_neg h, s_neg h1]
theorem s_abs_sub {x y : Int32} {a b : Int} (hx : s_rg x 0 24) (hy : s_rg y 0 24) : s_abs (x - y) = s_abs (y - x) ∧ 0 ≤ (s_abs (x - y)).toInt ∧ (s_abs (x - y)).toInt ≤ 24 ∧ ((s_abs (x - y)).toInt = 0 → x = y) := by
  obtain ⟨h1, h2⟩ := hx
  obtain ⟨h3, h4⟩ := hy
  have e1 : (x - y).toInt = x.toInt - y.toInt := s_sub (by omega) (by omega)
  have e2 : (y - x).toInt = y.toInt - x.toInt := s_sub (by omega) (by omega)
  have a1 := s_abs_i (x := x - y) (by omega)
  have a2 := s_abs_i (x := y - x) (by omega)
  rw [e1] at a1
  rw [e2] at a2
  refine ⟨q_inj ?_, ?_, ?_, ?_⟩
  · rw [a1, a2]
    split <;> split <;> omega
  · rw [a1]
    split <;> omega
  · rw [a1]
    split <;> omega
  · intro z
    rw [a1] at z
    apply q_inj
    split at z <;> omega
theorem s_cmp_sgn (x : Int32) : s_cmp x 0 = s_sgn x := by
  unfold s_cmp s_sgn
  by_cases h1 : 0 ≤ x
  · rw [if_pos h1]
    by_cases h2 : x = 0
    · rw [if_pos h2, h2]
      rfl
    · have h3 : ¬ x ≤ 0 := fun z => h2 (q_inj (by
        have := s_ge0.mp h1
        have := s_le0.mp z
        have e : (0 : Int32).toInt = 0 := rfl
        omega))
      rw [if_neg h2, if_neg h3]
  · have h3 : x ≤ 0 := s_le0.mpr (by
      have : ¬ 0 ≤ x.toInt := fun z => h1 (s_ge0.mpr z)
      omega)
    rw [if_neg h1, if_pos h3, if_neg h1]
theorem s_cmp_neg {x y : Int32} (hx : s_rg x 0 24) (hy : s_rg y 0 24) : s_cmp (x - y) 0 = -(s_cmp (y - x) 0) := by
  obtain ⟨h1, h2⟩ := hx
  obtain ⟨h3, h4⟩ := hy
  have e1 : (x - y).toInt = x.toInt - y.toInt := s_sub (by omega) (by omega)
  have e2 : (y - x).toInt = y.toInt - x.toInt := s_sub (by omega) (by omega)
  have e : (0 : Int32).toInt = 0 := rfl
  unfold s_cmp
  rcases Int.lt_trichotomy x.toInt y.toInt with h | h | h
  · rw [if_neg (fun z => by have := s_ge0.mp z; omega), if_pos (s_ge0.mpr (by omega)), if_neg (fun z => by rw [z, e] at e2; omega)]
    decide
  · rw [if_pos (s_ge0.mpr (by omega)), if_pos (q_inj (by omega)), if_pos (s_ge0.mpr (by omega)), if_pos (q_inj (by omega))]
    decide
  · rw [if_pos (s_ge0.mpr (by omega)), if_neg (fun z => by rw [z, e] at e1; omega), if_neg (fun z => by have := s_ge0.mp z; omega)]
    decide
theorem s_far_b {w x y : Int32} (hw : s_rg w 2 5) (hx : s_rg x 0 24) (hy : s_rg y 0 24) : s_far w x y = s_far w y x ∧ 0 ≤ (s_far w x y).toInt ∧ (s_far w x y).toInt ≤ 48 ∧ ((s_far w x y).toInt = 0 → s_col w y = s_col w x ∧ s_row w y = s_row w x) := by
  obtain ⟨⟨a1, a2⟩, ⟨a3, a4⟩⟩ := s_cr hw hx
  obtain ⟨⟨b1, b2⟩, ⟨b3, b4⟩⟩ := s_cr hw hy
  obtain ⟨c1, c2, c3, c4⟩ := s_abs_sub (a := 0) (b := 0) (x := s_col w y) (y := s_col w x) ⟨by omega, by omega⟩ ⟨by omega, by omega⟩
  obtain ⟨d1, d2, d3, d4⟩ := s_abs_sub (a := 0) (b := 0) (x := s_row w y) (y := s_row w x) ⟨by omega, by omega⟩ ⟨by omega, by omega⟩
  have e : (s_far w x y).toInt = (s_abs (s_col w y - s_col w x)).toInt + (s_abs (s_row w y - s_row w x)).toInt := s_add (by omega) (by omega)
  refine ⟨?_, by omega, by omega, fun z => ⟨c4 (by omega), d4 (by omega)⟩⟩
  unfold s_far
  rw [c1, d1]
section Wish
variable {w : Int32} {c mo pl pr : Nat → Int32} {n : Nat}
theorem s_str_sym (hw : s_rg w 2 5) {p q : Nat} (hp : s_rg (c p) 0 24) (hq : s_rg (c q) 0 24) : s_str w c mo pl p q = s_str w c mo pl q p := by
  unfold s_str
  rw [(s_far_b hw hp hq).1]
  by_cases h1 : mo p = 0
  · rw [if_pos h1]
    split
    · rfl
    · first
        | rfl
        | rw [if_pos h1]
  · rw [if_neg h1]
    by_cases h2 : mo q = 0
    · rw [if_pos h2, if_pos h2]
    · rw [if_neg h2, if_neg h2, if_neg h1]
      by_cases h3 : mo p = mo q
      · rw [if_pos h3, if_pos h3.symm]
      · rw [if_neg h3, if_neg (show ¬ mo q = mo p from fun z => h3 z.symm)]
theorem s_pe_neg (hw : s_rg w 2 5) {p q : Nat} (hp : s_rg (c p) 0 24) (hq : s_rg (c q) 0 24) : s_pe w c mo pl p q = -(s_pe w c mo pl q p) := by
  obtain ⟨⟨a1, a2⟩, _⟩ := s_cr hw hp
  obtain ⟨⟨b1, b2⟩, _⟩ := s_cr hw hq
  unfold s_pe
  rw [s_str_sym hw hp hq, s_cmp_neg (x := s_col w (c q)) (y := s_col w (c p)) ⟨by omega, by omega⟩ ⟨by omega, by omega⟩, Int32.mul_neg]
theorem s_ps_neg (hw : s_rg w 2 5) {p q : Nat} (hp : s_rg (c p) 0 24) (hq : s_rg (c q) 0 24) : s_ps w c mo pl p q = -(s_ps w c mo pl q p) := by
  obtain ⟨_, ⟨a1, a2⟩⟩ := s_cr hw hp
  obtain ⟨_, ⟨b1, b2⟩⟩ := s_cr hw hq
  unfold s_ps
  rw [s_str_sym hw hp hq, s_cmp_neg (x := s_row w (c q)) (y := s_row w (c p)) ⟨by omega, by omega⟩ ⟨by omega, by omega⟩, Int32.mul_neg]
/-- one term of the reference is that of the class -/
theorem s_rt_e (hw : s_rg w 2 5) (hpl : ∀ d, 1 ≤ d → d ≤ 4 → pr (20 + d) = pl d) {p q : Nat} (hpq : q ≠ p) (hp : s_rg (c p) 0 24) (hq : s_rg (c q) 0 24) (so : Int32) : s_rt w c mo pr so p q = if so = 0 then s_pe w c mo pl p q else s_ps w c mo pl p q := by
  obtain ⟨f1, f2, f3, f4⟩ := s_far_b hw hp hq
  unfold s_rt s_pe s_ps
  rw [if_neg hpq]
  by_cases h1 : mo p = 0
  · rw [if_pos h1, s_str_p h1, Int32.zero_mul, Int32.zero_mul]
    split <;> rfl
  · rw [if_neg h1]
    by_cases h2 : mo q = 0
    · rw [if_pos h2, s_str_q h2, Int32.zero_mul, Int32.zero_mul]
      split <;> rfl
    · rw [if_neg h2, ← f1]
      have z1 : (1 : Int64).toInt = 1 := rfl
      have z4 : (4 : Int64).toInt = 4 := rfl
      by_cases h3 : s_in (s_far w (c p) (c q)).toInt64 1 4 = 0
      · rw [if_pos h3]
        have h4 : ¬ ((1 : Int) ≤ (s_far w (c p) (c q)).toInt ∧ (s_far w (c p) (c q)).toInt ≤ 4) := fun z => (s_in_i (lo := 1) (hi := 4)).mpr ⟨by omega, by omega⟩ h3
        by_cases h5 : (s_far w (c p) (c q)).toInt = 0
        · obtain ⟨g1, g2⟩ := f4 h5
          rw [g1, g2]
          have e : ∀ x : Int32, s_cmp (x - x) 0 = 0 := fun x => by
            rw [Int32.sub_self]
            rfl
          rw [e, e, Int32.mul_zero]
          split <;> rfl
        · have h6 : ¬ s_far w (c p) (c q) ≤ 4 := fun z => by
            have := Int32.le_iff_toInt_le.mp z
            have e4 : (4 : Int32).toInt = 4 := rfl
            omega
          unfold s_str
          rw [if_neg h1, if_neg h2, if_neg h6, Int32.zero_mul, Int32.zero_mul]
          split <;> rfl
      · rw [if_neg h3]
        have h4 := (s_in_i (lo := 1) (hi := 4)).mp h3
        rw [z1, z4] at h4
        have e5 : ((21 : Int32) + s_far w (c p) (c q) - 1).toInt.toNat = 20 + (s_far w (c p) (c q)).toInt.toNat := by
          rw [s_pli h4.1 h4.2]
          omega
        rw [e5, hpl _ (by omega) (by omega)]
        have h6 : s_far w (c p) (c q) ≤ 4 := Int32.le_iff_toInt_le.mpr (by
          have e4 : (4 : Int32).toInt = 4 := rfl
          omega)
        unfold s_str
        rw [if_neg h1, if_neg h2, if_pos h6, s_cmp_sgn, s_cmp_sgn]
        by_cases h7 : mo p = mo q
        · rw [if_pos h7, if_pos h7.symm]
          by_cases h8 : so = 0
          · rw [if_pos h8, if_pos h8, Int32.mul_neg, Int32.neg_mul]
          · rw [if_neg h8, if_neg h8, Int32.mul_neg, Int32.neg_mul]
        · rw [if_neg h7, if_neg (show ¬ mo q = mo p from fun z => h7 z.symm)]
          by_cases h8 : so = 0
          · rw [if_pos h8, if_pos h8]
          · rw [if_neg h8, if_neg h8]
end Wish
theorem s_A_eq (e : Nat → Nat → Int32) (n p : Nat) (hn : n ≤ 6) (hp : p < n) : s_A e n p = s_sf (fun q => if q = p then 0 else if q < p then -(e q p) else e p q) n 0 := by
  rcases (show n = 1 ∨ n = 2 ∨ n = 3 ∨ n = 4 ∨ n = 5 ∨ n = 6 by omega) with h | h | h | h | h | h
  · subst h
    obtain rfl : p = 0 := by omega
    simp [s_A, s_sf, s_K]
  · subst h
    rcases (show p = 0 ∨ p = 1 by omega) with h | h
    · subst h
      simp [s_A, s_sf, s_K]
    · subst h
      simp [s_A, s_sf, s_K]
  · subst h
    rcases (show p = 0 ∨ p = 1 ∨ p = 2 by omega) with h | h | h
    · subst h
      simp [s_A, s_sf, s_K]
    · subst h
      simp [s_A, s_sf, s_K]
    · subst h
      simp [s_A, s_sf, s_K]
  · subst h
    rcases (show p = 0 ∨ p = 1 ∨ p = 2 ∨ p = 3 by omega) with h | h | h | h
    · subst h
      simp [s_A, s_sf, s_K]
    · subst h
      simp [s_A, s_sf, s_K]
    · subst h
      simp [s_A, s_sf, s_K]
    · subst h
      simp [s_A, s_sf, s_K]
  · subst h
    rcases (show p = 0 ∨ p = 1 ∨ p = 2 ∨ p = 3 ∨ p = 4 by omega) with h | h | h | h | h
    · subst h
      simp [s_A, s_sf, s_K]
    · subst h
      simp [s_A, s_sf, s_K]
    · subst h
      simp [s_A, s_sf, s_K]
    · subst h
      simp [s_A, s_sf, s_K]
    · subst h
      simp [s_A, s_sf, s_K]
  · subst h
    rcases (show p = 0 ∨ p = 1 ∨ p = 2 ∨ p = 3 ∨ p = 4 ∨ p = 5 by omega) with h | h | h | h | h | h
    · subst h
      simp [s_A, s_sf, s_K]
    · subst h
      simp [s_A, s_sf, s_K]
    · subst h
      simp [s_A, s_sf, s_K]
    · subst h
      simp [s_A, s_sf, s_K]
    · subst h
      simp [s_A, s_sf, s_K]
    · subst h
      simp [s_A, s_sf, s_K]
theorem s_sf_cg {f f' : Nat → Int32} : ∀ k q, (∀ i, q ≤ i → i < q + k → f i = f' i) → s_sf f k q = s_sf f' k q
  | 0, _, _ => rfl
  | k + 1, q, h => by
    show f q + s_sf f k (q + 1) = f' q + s_sf f' k (q + 1)
    rw [h q (Nat.le_refl _) (by omega), s_sf_cg k (q + 1) (fun i h1 h2 => h i (by omega) (by omega))]
theorem s_force {w : Int32} {c mo pl pr : Nat → Int32} {n : Nat} (h6 : n ≤ 6) (hw : s_rg w 2 5) (hc : ∀ p, p < n → s_rg (c p) 0 24) (hpl : ∀ d, 1 ≤ d → d ≤ 4 → pr (20 + d) = pl d) {p : Nat} (hp : p < n) : s_A (s_pe w c mo pl) n p = s_sf (s_rt w c mo pr 0 p) n 0 ∧ s_A (s_ps w c mo pl) n p = s_sf (s_rt w c mo pr 1 p) n 0 := by
  refine ⟨?_, ?_⟩
  · rw [s_A_eq _ n p h6 hp]
    apply s_sf_cg
    intro q _ hq
    have hq : q < n := by omega
    by_cases e : q = p
    · rw [if_pos e]
      exact (if_pos e).symm
    · rw [if_neg e, s_rt_e hw hpl e (hc p hp) (hc q hq), if_pos (show (0 : Int32) = 0 from rfl)]
      split
      · rw [s_pe_neg hw (hc p hp) (hc q hq)]
      · rfl
  · rw [s_A_eq _ n p h6 hp]
    apply s_sf_cg
    intro q _ hq
    have hq : q < n := by omega
    by_cases e : q = p
    · rw [if_pos e]
      exact (if_pos e).symm
    · rw [if_neg e, s_rt_e hw hpl e (hc p hp) (hc q hq), if_neg (show ¬ (1 : Int32) = 0 by decide)]
      split
      · rw [s_ps_neg hw (hc p hp) (hc q hq)]
      · rfl
theorem s_rway2_eq (s : Int32) : s_rway2 s = s_way2 s := by
  unfold s_rway2 s_way2
  by_cases h : s = 0
  · rw [if_pos h, h]
    rfl
  · rw [if_neg h]
    by_cases h2 : s ≤ 0
    · rw [if_pos h2, if_pos h2, if_neg (fun z => h (q_inj (by
        have := s_ge0.mp z
        have := s_le0.mp h2
        have e : (0 : Int32).toInt = 0 := rfl
        omega)))]
    · rw [if_neg h2, if_neg h2]
theorem s_rway_eq (e s : Int32) : s_rway e s = s_way e s := by
  unfold s_rway s_way
  rw [s_rway2_eq]
/-- WISHES are alike -/
theorem s_wish {w : Int32} {c mo st pl pr : Nat → Int32} {n : Nat} {g : qM} (h6 : n ≤ 6) (hw : s_rg w 2 5) (hc : ∀ p, p < n → s_rg (c p) 0 24) (hst : ∀ p, p < n → st p = 0 ∨ st p = 1) (hpl : ∀ d, 1 ≤ d → d ≤ 4 → pr (20 + d) = pl d) {p : Nat} (hp : p < n) : s_wf st (s_H w c mo pl n g) p = s_rw w c mo st pr n p := by
  obtain ⟨f1, f2⟩ := s_force (mo := mo) h6 hw hc hpl hp
  have e1 : s_H w c mo pl n g 31 p = s_rf w c mo pr n 0 p := by
    unfold s_rf
    rw [← f1]
    show (if p < n then (0 : Int32) else g 31 p) + s_A (s_pe w c mo pl) n p = 0 + s_A (s_pe w c mo pl) n p
    rw [if_pos hp]
  have e2 : s_H w c mo pl n g 32 p = s_rf w c mo pr n 1 p := by
    unfold s_rf
    rw [← f2]
    show (if p < n then (0 : Int32) else g 32 p) + s_A (s_ps w c mo pl) n p = 0 + s_A (s_ps w c mo pl) n p
    rw [if_pos hp]
  unfold s_wf s_rw
  rw [e1, e2]
  rcases hst p hp with h | h
  · rw [if_pos h, if_neg (by rw [h]; decide), if_neg (by rw [h]; decide), s_rway_eq]
  · rw [if_neg (by rw [h]; decide), if_pos h, if_pos h]
    rfl
