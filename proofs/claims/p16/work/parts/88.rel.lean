/-! THE RELATION of all cells. -/
/-- a town's rows tell the same as st, and are in order -/
def TT (n W H z : Nat) (f c m s go pu so sw st : Nat → Int32) : Prop := (f 0 = Int32.ofNat W ∧ f 1 = Int32.ofNat H ∧ f 2 = st 20 ∧ f 3 = Int32.ofNat n ∧ f 4 = st 25 ∧ f 5 = st 26 ∧ f 6 = Int32.ofNat z ∧ st 27 = Int32.ofNat z) ∧ (2 ≤ W ∧ W ≤ 5 ∧ 2 ≤ H ∧ H ≤ 5 ∧ n ≤ 5 ∧ z ≤ 8) ∧ (∃ t, t ≤ 999 ∧ st 26 = Int32.ofNat t) ∧ (∀ d, 1 ≤ d → d ≤ 4 → pu d = st (20 + d)) ∧ (∀ p, p < n → c p = st p ∧ m p = st (5 + p) ∧ s p = st (10 + p) ∧ go p = st (15 + p)) ∧ (∀ k, k < z → so k = st (28 + 2 * k) ∧ sw k = st (29 + 2 * k) ∧ ∃ q, q < n ∧ so k = Int32.ofNat q) ∧ (∀ p, p < n → ∃ C, C < W * H ∧ st p = Int32.ofNat C) ∧ (∀ p q, p < n → q < n → p ≠ q → st p ≠ st q) ∧ (∀ p, p < n → s_bit (st 20) (st p) = 0) ∧ (∀ q, q < 5 → st (5 + q) = 0 ∨ st (5 + q) = 1 ∨ st (5 + q) = 2 ∨ st (5 + q) = 3) ∧ (∀ p, p < n → st (10 + p) = 0 ∨ st (10 + p) = 1)
theorem q_up_s {g : qM} {a j : Nat} {x : Int32} : q_up g a j x a = s_set (g a) j x := by
  funext i
  rw [q_up_at]
  rfl
theorem TT.cg {n W H z : Nat} {f c m s go pu so sw st st' : Nat → Int32} (h : TT n W H z f c m s go pu so sw st) (e : ∀ j, j < 44 → st' j = st j) : TT n W H z f c m s go pu so sw st' := by
  obtain ⟨t1, t2, t3, t4, t5, t6, t7, t8, t9, t10, t11⟩ := h
  unfold TT
  rw [e 20 (by omega), e 25 (by omega), e 26 (by omega), e 27 (by omega)]
  refine ⟨t1, t2, t3, fun d h1 h2 => ?_, fun p hp => ?_, fun k hk => ?_, fun p hp => ?_, fun p q hp hq hpq => ?_, fun p hp => ?_, fun q hq => ?_, fun p hp => ?_⟩
  · rw [e (20 + d) (by omega)]; exact t4 d h1 h2
  · rw [e p (by omega), e (5 + p) (by omega), e (10 + p) (by omega), e (15 + p) (by omega)]; exact t5 p hp
  · rw [e (28 + 2 * k) (by omega), e (29 + 2 * k) (by omega)]; exact t6 k hk
  · rw [e p (by omega)]; exact t7 p hp
  · rw [e p (by omega), e q (by omega)]; exact t8 p q hp hq hpq
  · rw [e p (by omega)]; exact t9 p hp
  · rw [e (5 + q) (by omega)]; exact t10 q hq
  · rw [e (10 + p) (by omega)]; exact t11 p hp
section TTU
variable {n W H z : Nat} {f c m s go pu so sw st : Nat → Int32}
theorem TT.mood (h : TT n W H z f c m s go pu so sw st) {p : Nat} {v : Int32} (hp : p < n) (hv : v = 0 ∨ v = 1 ∨ v = 2 ∨ v = 3) : TT n W H z f c (s_set m p v) s go pu so sw (s_set st (5 + p) v) := by
  obtain ⟨t1, t2, t3, t4, t5, t6, t7, t8, t9, t10, t11⟩ := h
  unfold TT
  rw [s_set_ne st v (show 20 ≠ 5 + p by omega), s_set_ne st v (show 25 ≠ 5 + p by omega), s_set_ne st v (show 26 ≠ 5 + p by omega), s_set_ne st v (show 27 ≠ 5 + p by omega)]
  refine ⟨t1, t2, t3, fun d h1 h2 => ?_, fun q hq => ?_, fun k hk => ?_, fun q hq => ?_, fun q r hq hr hqr => ?_, fun q hq => ?_, fun q hq => ?_, fun q hq => ?_⟩
  · rw [s_set_ne _ _ (by omega)]; exact t4 d h1 h2
  · rw [s_set_ne st v (show q ≠ 5 + p by omega), s_set_ne st v (show 10 + q ≠ 5 + p by omega), s_set_ne st v (show 15 + q ≠ 5 + p by omega)]
    have y := t5 q hq
    by_cases e : q = p
    · subst e
      rw [s_set_i, s_set_i]
      exact ⟨y.1, rfl, y.2.2⟩
    · rw [s_set_ne _ _ e, s_set_ne _ _ (show 5 + q ≠ 5 + p by omega)]
      exact y
  · rw [s_set_ne _ _ (by omega), s_set_ne _ _ (by omega)]; exact t6 k hk
  · rw [s_set_ne _ _ (by omega)]; exact t7 q hq
  · rw [s_set_ne _ _ (by omega), s_set_ne _ _ (by omega)]; exact t8 q r hq hr hqr
  · rw [s_set_ne _ _ (by omega)]; exact t9 q hq
  · by_cases e : q = p
    · subst e
      rw [s_set_i]
      exact hv
    · rw [s_set_ne _ _ (by omega)]; exact t10 q hq
  · rw [s_set_ne _ _ (by omega)]; exact t11 q hq
theorem TT.hold (h : TT n W H z f c m s go pu so sw st) {p : Nat} {v : Int32} (hp : p < n) (hv : v = 0 ∨ v = 1) : TT n W H z f c m (s_set s p v) go pu so sw (s_set st (10 + p) v) := by
  obtain ⟨t1, t2, t3, t4, t5, t6, t7, t8, t9, t10, t11⟩ := h
  unfold TT
  rw [s_set_ne st v (show 20 ≠ 10 + p by omega), s_set_ne st v (show 25 ≠ 10 + p by omega), s_set_ne st v (show 26 ≠ 10 + p by omega), s_set_ne st v (show 27 ≠ 10 + p by omega)]
  refine ⟨t1, t2, t3, fun d h1 h2 => ?_, fun q hq => ?_, fun k hk => ?_, fun q hq => ?_, fun q r hq hr hqr => ?_, fun q hq => ?_, fun q hq => ?_, fun q hq => ?_⟩
  · rw [s_set_ne _ _ (by omega)]; exact t4 d h1 h2
  · rw [s_set_ne st v (show q ≠ 10 + p by omega), s_set_ne st v (show 5 + q ≠ 10 + p by omega), s_set_ne st v (show 15 + q ≠ 10 + p by omega)]
    have y := t5 q hq
    by_cases e : q = p
    · subst e
      rw [s_set_i, s_set_i]
      exact ⟨y.1, y.2.1, rfl, y.2.2.2⟩
    · rw [s_set_ne _ _ e, s_set_ne _ _ (show 10 + q ≠ 10 + p by omega)]
      exact y
  · rw [s_set_ne _ _ (by omega), s_set_ne _ _ (by omega)]; exact t6 k hk
  · rw [s_set_ne _ _ (by omega)]; exact t7 q hq
  · rw [s_set_ne _ _ (by omega), s_set_ne _ _ (by omega)]; exact t8 q r hq hr hqr
  · rw [s_set_ne _ _ (by omega)]; exact t9 q hq
  · rw [s_set_ne _ _ (by omega)]; exact t10 q hq
  · by_cases e : q = p
    · subst e
      rw [s_set_i]
      exact hv
    · rw [s_set_ne _ _ (by omega)]; exact t11 q hq
theorem TT.goal (h : TT n W H z f c m s go pu so sw st) {p : Nat} {v : Int32} (hp : p < n) : TT n W H z f c m s (s_set go p v) pu so sw (s_set st (15 + p) v) := by
  obtain ⟨t1, t2, t3, t4, t5, t6, t7, t8, t9, t10, t11⟩ := h
  unfold TT
  rw [s_set_ne st v (show 20 ≠ 15 + p by omega), s_set_ne st v (show 25 ≠ 15 + p by omega), s_set_ne st v (show 26 ≠ 15 + p by omega), s_set_ne st v (show 27 ≠ 15 + p by omega)]
  refine ⟨t1, t2, t3, fun d h1 h2 => ?_, fun q hq => ?_, fun k hk => ?_, fun q hq => ?_, fun q r hq hr hqr => ?_, fun q hq => ?_, fun q hq => ?_, fun q hq => ?_⟩
  · rw [s_set_ne _ _ (by omega)]; exact t4 d h1 h2
  · rw [s_set_ne st v (show q ≠ 15 + p by omega), s_set_ne st v (show 5 + q ≠ 15 + p by omega), s_set_ne st v (show 10 + q ≠ 15 + p by omega)]
    have y := t5 q hq
    by_cases e : q = p
    · subst e
      rw [s_set_i, s_set_i]
      exact ⟨y.1, y.2.1, y.2.2.1, rfl⟩
    · rw [s_set_ne _ _ e, s_set_ne _ _ (show 15 + q ≠ 15 + p by omega)]
      exact y
  · rw [s_set_ne _ _ (by omega), s_set_ne _ _ (by omega)]; exact t6 k hk
  · rw [s_set_ne _ _ (by omega)]; exact t7 q hq
  · rw [s_set_ne _ _ (by omega), s_set_ne _ _ (by omega)]; exact t8 q r hq hr hqr
  · rw [s_set_ne _ _ (by omega)]; exact t9 q hq
  · rw [s_set_ne _ _ (by omega)]; exact t10 q hq
  · rw [s_set_ne _ _ (by omega)]; exact t11 q hq
theorem TT.put (h : TT n W H z f c m s go pu so sw st) {p C : Nat} (hp : p < n) (hC : C < W * H) (hw : s_bit (st 20) (Int32.ofNat C) = 0) (hd : ∀ q, q < n → q ≠ p → st q ≠ Int32.ofNat C) : TT n W H z f (s_set c p (Int32.ofNat C)) m s go pu so sw (s_set st p (Int32.ofNat C)) := by
  obtain ⟨t1, t2, t3, t4, t5, t6, t7, t8, t9, t10, t11⟩ := h
  unfold TT
  rw [s_set_ne st _ (show 20 ≠ p by omega), s_set_ne st _ (show 25 ≠ p by omega), s_set_ne st _ (show 26 ≠ p by omega), s_set_ne st _ (show 27 ≠ p by omega)]
  refine ⟨t1, t2, t3, fun d h1 h2 => ?_, fun q hq => ?_, fun k hk => ?_, fun q hq => ?_, fun q r hq hr hqr => ?_, fun q hq => ?_, fun q hq => ?_, fun q hq => ?_⟩
  · rw [s_set_ne _ _ (by omega)]; exact t4 d h1 h2
  · rw [s_set_ne st _ (show 5 + q ≠ p by omega), s_set_ne st _ (show 10 + q ≠ p by omega), s_set_ne st _ (show 15 + q ≠ p by omega)]
    have y := t5 q hq
    by_cases e : q = p
    · subst e
      rw [s_set_i, s_set_i]
      exact ⟨rfl, y.2⟩
    · rw [s_set_ne _ _ e, s_set_ne _ _ e]
      exact y
  · rw [s_set_ne _ _ (by omega), s_set_ne _ _ (by omega)]; exact t6 k hk
  · by_cases e : q = p
    · subst e
      rw [s_set_i]
      exact ⟨C, hC, rfl⟩
    · rw [s_set_ne _ _ e]; exact t7 q hq
  · by_cases e : q = p
    · subst e
      rw [s_set_i, s_set_ne _ _ (Ne.symm hqr)]
      exact fun y => hd r hr (Ne.symm hqr) y.symm
    · by_cases e2 : r = p
      · subst e2
        rw [s_set_i, s_set_ne _ _ e]
        exact hd q hq e
      · rw [s_set_ne _ _ e, s_set_ne _ _ e2]; exact t8 q r hq hr hqr
  · by_cases e : q = p
    · subst e
      rw [s_set_i]
      exact hw
    · rw [s_set_ne _ _ e]; exact t9 q hq
  · rw [s_set_ne _ _ (by omega)]; exact t10 q hq
  · rw [s_set_ne _ _ (by omega)]; exact t11 q hq
theorem TT.wall (h : TT n W H z f c m s go pu so sw st) {v : Int32} (hv : ∀ p, p < n → s_bit v (st p) = 0) : TT n W H z (s_set f 2 v) c m s go pu so sw (s_set st 20 v) := by
  obtain ⟨t1, t2, t3, t4, t5, t6, t7, t8, t9, t10, t11⟩ := h
  unfold TT
  rw [s_set_i, s_set_i, s_set_ne f v (show 0 ≠ 2 by omega), s_set_ne f v (show 1 ≠ 2 by omega), s_set_ne f v (show 3 ≠ 2 by omega), s_set_ne f v (show 4 ≠ 2 by omega), s_set_ne f v (show 5 ≠ 2 by omega), s_set_ne f v (show 6 ≠ 2 by omega), s_set_ne st v (show 25 ≠ 20 by omega), s_set_ne st v (show 26 ≠ 20 by omega), s_set_ne st v (show 27 ≠ 20 by omega)]
  refine ⟨⟨t1.1, t1.2.1, rfl, t1.2.2.2⟩, t2, t3, fun d h1 h2 => ?_, fun q hq => ?_, fun k hk => ?_, fun q hq => ?_, fun q r hq hr hqr => ?_, fun q hq => ?_, fun q hq => ?_, fun q hq => ?_⟩
  · rw [s_set_ne _ _ (by omega)]; exact t4 d h1 h2
  · rw [s_set_ne st _ (show q ≠ 20 by omega), s_set_ne st _ (show 5 + q ≠ 20 by omega), s_set_ne st _ (show 10 + q ≠ 20 by omega), s_set_ne st _ (show 15 + q ≠ 20 by omega)]
    exact t5 q hq
  · rw [s_set_ne _ _ (by omega), s_set_ne _ _ (by omega)]; exact t6 k hk
  · rw [s_set_ne _ _ (by omega)]; exact t7 q hq
  · rw [s_set_ne _ _ (by omega), s_set_ne _ _ (by omega)]; exact t8 q r hq hr hqr
  · rw [s_set_ne _ _ (by omega)]; exact hv q hq
  · rw [s_set_ne _ _ (by omega)]; exact t10 q hq
  · rw [s_set_ne _ _ (by omega)]; exact t11 q hq
theorem TT.press (h : TT n W H z f c m s go pu so sw st) {v : Int32} : TT n W H z (s_set f 4 v) c m s go pu so sw (s_set st 25 v) := by
  obtain ⟨t1, t2, t3, t4, t5, t6, t7, t8, t9, t10, t11⟩ := h
  unfold TT
  rw [s_set_i, s_set_i, s_set_ne f v (show 0 ≠ 4 by omega), s_set_ne f v (show 1 ≠ 4 by omega), s_set_ne f v (show 2 ≠ 4 by omega), s_set_ne f v (show 3 ≠ 4 by omega), s_set_ne f v (show 5 ≠ 4 by omega), s_set_ne f v (show 6 ≠ 4 by omega), s_set_ne st v (show 20 ≠ 25 by omega), s_set_ne st v (show 26 ≠ 25 by omega), s_set_ne st v (show 27 ≠ 25 by omega)]
  refine ⟨⟨t1.1, t1.2.1, t1.2.2.1, t1.2.2.2.1, rfl, t1.2.2.2.2.2⟩, t2, t3, fun d h1 h2 => ?_, fun q hq => ?_, fun k hk => ?_, fun q hq => ?_, fun q r hq hr hqr => ?_, fun q hq => ?_, fun q hq => ?_, fun q hq => ?_⟩
  · rw [s_set_ne _ _ (by omega)]; exact t4 d h1 h2
  · rw [s_set_ne st _ (show q ≠ 25 by omega), s_set_ne st _ (show 5 + q ≠ 25 by omega), s_set_ne st _ (show 10 + q ≠ 25 by omega), s_set_ne st _ (show 15 + q ≠ 25 by omega)]
    exact t5 q hq
  · rw [s_set_ne _ _ (by omega), s_set_ne _ _ (by omega)]; exact t6 k hk
  · rw [s_set_ne _ _ (by omega)]; exact t7 q hq
  · rw [s_set_ne _ _ (by omega), s_set_ne _ _ (by omega)]; exact t8 q r hq hr hqr
  · rw [s_set_ne _ _ (by omega)]; exact t9 q hq
  · rw [s_set_ne _ _ (by omega)]; exact t10 q hq
  · rw [s_set_ne _ _ (by omega)]; exact t11 q hq
theorem TT.pull (h : TT n W H z f c m s go pu so sw st) {e : Nat} {v : Int32} (he : 1 ≤ e ∧ e ≤ 4) : TT n W H z f c m s go (s_set pu e v) so sw (s_set st (20 + e) v) := by
  obtain ⟨t1, t2, t3, t4, t5, t6, t7, t8, t9, t10, t11⟩ := h
  unfold TT
  rw [s_set_ne st v (show 20 ≠ 20 + e by omega), s_set_ne st v (show 25 ≠ 20 + e by omega), s_set_ne st v (show 26 ≠ 20 + e by omega), s_set_ne st v (show 27 ≠ 20 + e by omega)]
  refine ⟨t1, t2, t3, fun d h1 h2 => ?_, fun q hq => ?_, fun k hk => ?_, fun q hq => ?_, fun q r hq hr hqr => ?_, fun q hq => ?_, fun q hq => ?_, fun q hq => ?_⟩
  · by_cases x : d = e
    · subst x
      rw [s_set_i, s_set_i]
    · rw [s_set_ne _ _ x, s_set_ne _ _ (show 20 + d ≠ 20 + e by omega)]; exact t4 d h1 h2
  · rw [s_set_ne st _ (show q ≠ 20 + e by omega), s_set_ne st _ (show 5 + q ≠ 20 + e by omega), s_set_ne st _ (show 10 + q ≠ 20 + e by omega), s_set_ne st _ (show 15 + q ≠ 20 + e by omega)]
    exact t5 q hq
  · rw [s_set_ne _ _ (by omega), s_set_ne _ _ (by omega)]; exact t6 k hk
  · rw [s_set_ne _ _ (by omega)]; exact t7 q hq
  · rw [s_set_ne _ _ (by omega), s_set_ne _ _ (by omega)]; exact t8 q r hq hr hqr
  · rw [s_set_ne _ _ (by omega)]; exact t9 q hq
  · rw [s_set_ne _ _ (by omega)]; exact t10 q hq
  · rw [s_set_ne _ _ (by omega)]; exact t11 q hq
theorem TT.forget (h : TT n W H z f c m s go pu so sw st) {y : Nat} (hy : y ≤ z) : TT n W H y (s_set f 6 (Int32.ofNat y)) c m s go pu so sw (s_set st 27 (Int32.ofNat y)) := by
  obtain ⟨t1, t2, t3, t4, t5, t6, t7, t8, t9, t10, t11⟩ := h
  unfold TT
  rw [s_set_i, s_set_i, s_set_ne f _ (show 0 ≠ 6 by omega), s_set_ne f _ (show 1 ≠ 6 by omega), s_set_ne f _ (show 2 ≠ 6 by omega), s_set_ne f _ (show 3 ≠ 6 by omega), s_set_ne f _ (show 4 ≠ 6 by omega), s_set_ne f _ (show 5 ≠ 6 by omega), s_set_ne st _ (show 20 ≠ 27 by omega), s_set_ne st _ (show 25 ≠ 27 by omega), s_set_ne st _ (show 26 ≠ 27 by omega)]
  refine ⟨⟨t1.1, t1.2.1, t1.2.2.1, t1.2.2.2.1, t1.2.2.2.2.1, t1.2.2.2.2.2.1, rfl, rfl⟩, ⟨t2.1, t2.2.1, t2.2.2.1, t2.2.2.2.1, t2.2.2.2.2.1, by omega⟩, t3, fun d h1 h2 => ?_, fun q hq => ?_, fun k hk => ?_, fun q hq => ?_, fun q r hq hr hqr => ?_, fun q hq => ?_, fun q hq => ?_, fun q hq => ?_⟩
  · rw [s_set_ne _ _ (by omega)]; exact t4 d h1 h2
  · rw [s_set_ne st _ (show q ≠ 27 by omega), s_set_ne st _ (show 5 + q ≠ 27 by omega), s_set_ne st _ (show 10 + q ≠ 27 by omega), s_set_ne st _ (show 15 + q ≠ 27 by omega)]
    exact t5 q hq
  · rw [s_set_ne _ _ (by omega), s_set_ne _ _ (by omega)]; exact t6 k (by omega)
  · rw [s_set_ne _ _ (by omega)]; exact t7 q hq
  · rw [s_set_ne _ _ (by omega), s_set_ne _ _ (by omega)]; exact t8 q r hq hr hqr
  · rw [s_set_ne _ _ (by omega)]; exact t9 q hq
  · rw [s_set_ne _ _ (by omega)]; exact t10 q hq
  · rw [s_set_ne _ _ (by omega)]; exact t11 q hq
theorem TT.see (h : TT n W H z f c m s go pu so sw st) {p y : Nat} (hp : p < n) (hz : z < 8) : TT n W H (z + 1) (s_set f 6 (Int32.ofNat (z + 1))) c m s go pu (s_set so z (Int32.ofNat p)) (s_set sw z (Int32.ofNat y)) (s_set (s_set (s_set st (28 + 2 * z) (Int32.ofNat p)) (29 + 2 * z) (Int32.ofNat y)) 27 (Int32.ofNat (z + 1))) := by
  obtain ⟨t1, t2, t3, t4, t5, t6, t7, t8, t9, t10, t11⟩ := h
  have e : ∀ j, j < 27 → s_set (s_set (s_set st (28 + 2 * z) (Int32.ofNat p)) (29 + 2 * z) (Int32.ofNat y)) 27 (Int32.ofNat (z + 1)) j = st j := fun j hj => by
    rw [s_set_ne _ _ (by omega), s_set_ne _ _ (by omega), s_set_ne _ _ (by omega)]
  unfold TT
  rw [s_set_i, s_set_i, s_set_ne f _ (show 0 ≠ 6 by omega), s_set_ne f _ (show 1 ≠ 6 by omega), s_set_ne f _ (show 2 ≠ 6 by omega), s_set_ne f _ (show 3 ≠ 6 by omega), s_set_ne f _ (show 4 ≠ 6 by omega), s_set_ne f _ (show 5 ≠ 6 by omega), e 20 (by omega), e 25 (by omega), e 26 (by omega)]
  refine ⟨⟨t1.1, t1.2.1, t1.2.2.1, t1.2.2.2.1, t1.2.2.2.2.1, t1.2.2.2.2.2.1, rfl, rfl⟩, ⟨t2.1, t2.2.1, t2.2.2.1, t2.2.2.2.1, t2.2.2.2.2.1, by omega⟩, t3, fun d h1 h2 => ?_, fun q hq => ?_, fun k hk => ?_, fun q hq => ?_, fun q r hq hr hqr => ?_, fun q hq => ?_, fun q hq => ?_, fun q hq => ?_⟩
  · rw [e _ (by omega)]; exact t4 d h1 h2
  · rw [e _ (by omega), e _ (by omega), e _ (by omega), e _ (by omega)]
    exact t5 q hq
  · rw [s_set_ne _ _ (show 28 + 2 * k ≠ 27 by omega), s_set_ne _ _ (show 28 + 2 * k ≠ 29 + 2 * z by omega), s_set_ne _ _ (show 29 + 2 * k ≠ 27 by omega)]
    by_cases x : k = z
    · subst x
      rw [s_set_i, s_set_i, s_set_i, s_set_i]
      exact ⟨rfl, rfl, p, hp, rfl⟩
    · rw [s_set_ne _ _ x, s_set_ne _ _ x, s_set_ne _ _ (show 28 + 2 * k ≠ 28 + 2 * z by omega), s_set_ne _ _ (show 29 + 2 * k ≠ 29 + 2 * z by omega), s_set_ne _ _ (show 29 + 2 * k ≠ 28 + 2 * z by omega)]
      exact t6 k (by omega)
  · rw [e _ (by omega)]; exact t7 q hq
  · rw [e _ (by omega), e _ (by omega)]; exact t8 q r hq hr hqr
  · rw [e _ (by omega)]; exact t9 q hq
  · rw [e _ (by omega)]; exact t10 q hq
  · rw [e _ (by omega)]; exact t11 q hq
end TTU
/-! the other parts -/
def w_KK (n W H : Nat) (g : qM) : Prop := (∃ m, m < 4 ∧ g 8 7 = Int32.ofNat m ∧ (g 72 0 = 0 ↔ m % 2 = 0) ∧ (g 72 1 = 0 ↔ m / 2 = 0)) ∧ (¬ g 72 0 = 0 → ∃ z, TT n W H z (g 45) (g 46) (g 47) (g 48) (g 49) (g 50) (g 51) (g 52) (fun j => g 71 (44 + j))) ∧ (¬ g 72 1 = 0 → ∃ z, TT n W H z (g 53) (g 54) (g 55) (g 56) (g 57) (g 58) (g 59) (g 60) (fun j => g 71 (88 + j)))
def w_P (g : qM) : Prop := ∃ s, s ≤ 160 ∧ g 9 1 = Int32.ofNat s ∧ g 70 13 = Int32.ofNat s ∧ ∀ j, j < s → g 74 j = g 10 j ∧ 0 ≤ (g 10 j).toInt
def w_S (k : Nat) (g : qM) : Prop := (g 84 k = i_none ∧ g (62 + 2 * k) 1 = Int32.ofInt (-1)) ∨ ∃ l v, l ≤ 2 ∧ v ≤ 40 ∧ g 84 k = Int32.ofNat l ∧ g (62 + 2 * k) 2 = Int32.ofNat l ∧ g (62 + 2 * k) 1 = Int32.ofNat v ∧ g 85 k = Int32.ofNat v ∧ ∀ j, j < 40 → g (63 + 2 * k) j = g 86 (40 * k + j)
def w_N (n W H : Nat) (g : qM) : Prop := g 70 4 = Int32.ofNat n ∧ g 70 2 = Int32.ofNat W ∧ g 70 3 = Int32.ofNat H
def w_TT (n W H z : Nat) (g : qM) : Prop := TT n W H z (g 20) (g 21) (g 22) (g 23) (g 24) (g 25) (g 26) (g 27) (g 71)
def w_R4 (n W H z : Nat) (g : qM) : Prop := w_N n W H g ∧ w_TT n W H z g ∧ w_KK n W H g ∧ w_P g ∧ g 11 2 = g 70 18 ∧ ∀ k, k < 4 → w_S k g
def w_R (g : qM) : Prop := ∃ n W H z, w_R4 n W H z g
/-- what stands outside the town is the same -/
def w_fo (g g' : qM) : Prop := (∀ a, a = 10 ∨ (45 ≤ a ∧ a ≤ 69) ∨ a = 72 ∨ a = 74 ∨ (84 ≤ a ∧ a ≤ 86) → g' a = g a) ∧ (g' 8 7 = g 8 7 ∧ g' 9 1 = g 9 1 ∧ g' 11 2 = g 11 2) ∧ (∀ j, j = 2 ∨ j = 3 ∨ j = 4 ∨ j = 13 ∨ j = 18 → g' 70 j = g 70 j) ∧ ∀ j, 44 ≤ j → g' 71 j = g 71 j
theorem w_fo_rfl (g : qM) : w_fo g g := ⟨fun _ _ => rfl, ⟨rfl, rfl, rfl⟩, fun _ _ => rfl, fun _ _ => rfl⟩
theorem w_fo.trans {a b c : qM} (h1 : w_fo a b) (h2 : w_fo b c) : w_fo a c := ⟨fun x h => (h2.1 x h).trans (h1.1 x h), ⟨h2.2.1.1.trans h1.2.1.1, h2.2.1.2.1.trans h1.2.1.2.1, h2.2.1.2.2.trans h1.2.1.2.2⟩, fun x h => (h2.2.2.1 x h).trans (h1.2.2.1 x h), fun x h => (h2.2.2.2 x h).trans (h1.2.2.2 x h)⟩
theorem w_fo.up {g g' : qM} (h : w_fo g g') {a j : Nat} {x : Int32} (ha : (a = 8 ∧ j ≠ 7) ∨ (12 ≤ a ∧ a ≤ 43) ∨ (a = 70 ∧ j ≠ 2 ∧ j ≠ 3 ∧ j ≠ 4 ∧ j ≠ 13 ∧ j ≠ 18) ∨ (a = 71 ∧ j < 44) ∨ a = 73 ∨ (75 ≤ a ∧ a ≤ 83) ∨ a = 87) : w_fo g (q_up g' a j x) := by
  refine ⟨fun b hb => ?_, ⟨?_, ?_, ?_⟩, fun i hi => ?_, fun i hi => ?_⟩
  · rw [q_up_ne (by omega)]; exact h.1 b hb
  · rw [q_up_eq, if_neg (by omega)]; exact h.2.1.1
  · rw [q_up_ne (by omega)]; exact h.2.1.2.1
  · rw [q_up_ne (by omega)]; exact h.2.1.2.2
  · rw [q_up_eq, if_neg (by omega)]; exact h.2.2.1 i hi
  · rw [q_up_eq, if_neg (by omega)]; exact h.2.2.2 i hi
theorem w_fc.fo {g g' : qM} (h : w_fc g g') : w_fo g g' := ⟨fun a ha => h a (by omega), ⟨by rw [h 8 (by omega)], by rw [h 9 (by omega)], by rw [h 11 (by omega)]⟩, fun j _ => by rw [h 70 (by omega)], fun j _ => by rw [h 71 (by omega)]⟩
theorem w_fr.fo {g g' : qM} (h : w_fr g g') : w_fo g g' := ⟨fun a ha => h.1 a (by omega), ⟨by rw [h.1 8 (by omega)], by rw [h.1 9 (by omega)], by rw [h.1 11 (by omega)]⟩, fun j hj => h.2 j (by omega), fun j _ => by rw [h.1 71 (by omega)]⟩
theorem w_KK.fo {n W H : Nat} {g g' : qM} (h : w_KK n W H g) (e : w_fo g g') : w_KK n W H g' := by
  unfold w_KK
  rw [e.2.1.1, e.1 72 (by omega), e.1 45 (by omega), e.1 46 (by omega), e.1 47 (by omega), e.1 48 (by omega), e.1 49 (by omega), e.1 50 (by omega), e.1 51 (by omega), e.1 52 (by omega), e.1 53 (by omega), e.1 54 (by omega), e.1 55 (by omega), e.1 56 (by omega), e.1 57 (by omega), e.1 58 (by omega), e.1 59 (by omega), e.1 60 (by omega), show (fun j => g' 71 (44 + j)) = (fun j => g 71 (44 + j)) from funext (fun j => e.2.2.2 _ (by omega)), show (fun j => g' 71 (88 + j)) = (fun j => g 71 (88 + j)) from funext (fun j => e.2.2.2 _ (by omega))]
  exact h
theorem w_R4.town {n W H z y : Nat} {g g' : qM} (h : w_R4 n W H z g) (e : w_fo g g') (hT : w_TT n W H y g') : w_R4 n W H y g' := by
  obtain ⟨hN, _, hK, hP, hF, hS⟩ := h
  refine ⟨⟨(e.2.2.1 4 (by omega)).trans hN.1, (e.2.2.1 2 (by omega)).trans hN.2.1, (e.2.2.1 3 (by omega)).trans hN.2.2⟩, hT, hK.fo e, ?_, ?_, fun k hk => ?_⟩
  · obtain ⟨s, h1, h2, h3, h4⟩ := hP
    refine ⟨s, h1, e.2.1.2.1.trans h2, (e.2.2.1 13 (by omega)).trans h3, fun j hj => ?_⟩
    rw [e.1 74 (by omega), e.1 10 (by omega)]
    exact h4 j hj
  · rw [e.2.1.2.2, e.2.2.1 18 (by omega)]
    exact hF
  · have z := hS k hk
    unfold w_S at z ⊢
    rw [e.1 84 (by omega), e.1 85 (by omega), e.1 86 (by omega), e.1 (62 + 2 * k) (by omega), e.1 (63 + 2 * k) (by omega)]
    exact z
theorem w_TT.same {n W H z : Nat} {g g' : qM} (h : w_TT n W H z g) (e1 : ∀ a, 20 ≤ a → a ≤ 27 → g' a = g a) (e2 : g' 71 = g 71) : w_TT n W H z g' := by
  unfold w_TT
  rw [e1 20 (by omega) (by omega), e1 21 (by omega) (by omega), e1 22 (by omega) (by omega), e1 23 (by omega) (by omega), e1 24 (by omega) (by omega), e1 25 (by omega) (by omega), e1 26 (by omega) (by omega), e1 27 (by omega) (by omega), e2]
  exact h
theorem w_R4.fc {n W H z : Nat} {g g' : qM} (h : w_R4 n W H z g) (e : w_fc g g') : w_R4 n W H z g' := h.town e.fo (h.2.1.same (fun a h1 h2 => e a (by omega)) (e 71 (by omega)))
theorem w_R4.fr {n W H z : Nat} {g g' : qM} (h : w_R4 n W H z g) (e : w_fr g g') : w_R4 n W H z g' := h.town e.fo (h.2.1.same (fun a h1 h2 => e.1 a (by omega)) (e.1 71 (by omega)))
/-! what the searches want of the relation -/
theorem w_R4.ok {n W H z : Nat} {g : qM} (h : w_R4 n W H z g) : w_ok n W H (s_start g) := by
  obtain ⟨hN, ⟨t1, t2, t3, t4, t5, t6, t7, t8, t9, t10, t11⟩, _⟩ := h
  have e75 : ∀ p, p < n → s_start g 75 p = g 71 p := fun p hp => by
    have h5 := t2.2.2.2.2.1
    show (if p < 5 then g 71 p else g 75 p) = _
    rw [if_pos (by omega)]
  have e76 : ∀ p, p < n → s_start g 76 p = g 71 (5 + p) := fun p hp => by
    have h5 := t2.2.2.2.2.1
    show (if p < 5 then g 71 (5 + p) else g 76 p) = _
    rw [if_pos (by omega)]
  have e77 : ∀ p, p < n → s_start g 77 p = g 71 (10 + p) := fun p hp => by
    have h5 := t2.2.2.2.2.1
    show (if p < 5 then g 71 (10 + p) else g 77 p) = _
    rw [if_pos (by omega)]
  refine ⟨⟨t2.1, t2.2.1, t2.2.2.1, t2.2.2.2.1, by omega⟩, hN.1, hN.2.1, hN.2.2, fun p hp => ?_, fun p q hp hq hpq => ?_, fun p hp => ?_, fun p hp => ?_, fun p hp => ?_⟩
  · rw [e75 p hp]; exact t7 p hp
  · rw [e75 p hp, e75 q hq]; exact t8 p q hp hq hpq
  · rw [e75 p hp]; exact t9 p hp
  · rw [e76 p hp]; exact t10 p (by omega)
  · rw [e77 p hp]; exact t11 p hp
theorem w_R4.cs {n W H z : Nat} {g : qM} (h : w_R4 n W H z g) : w_cs 20 n g (s_start g) := by
  obtain ⟨hN, ⟨t1, t2, t3, t4, t5, t6, t7, t8, t9, t10, t11⟩, _⟩ := h
  refine ⟨⟨t1.2.2.2.1.trans hN.1.symm, t1.1.trans hN.2.1.symm, t1.2.1.trans hN.2.2.symm, t1.2.2.1, t1.2.2.2.2.1⟩, t4, fun p hp => ⟨?_, ?_, ?_⟩⟩
  · exact (t5 p hp).1.trans (if_pos (show p < 5 by omega)).symm
  · exact (t5 p hp).2.1.trans (if_pos (show p < 5 by omega)).symm
  · exact (t5 p hp).2.2.1.trans (if_pos (show p < 5 by omega)).symm
theorem w_R4.n5 {n W H z : Nat} {g : qM} (h : w_R4 n W H z g) : n ≤ 5 := h.2.1.2.1.2.2.2.2.1
theorem w_R4.wh {n W H z : Nat} {g : qM} (h : w_R4 n W H z g) : W * H ≤ 25 := (k_wh ⟨h.2.1.2.1.2.1, h.2.1.2.1.2.2.2.1⟩).2
theorem w_R4.hgo {n W H z : Nat} {g : qM} (h : w_R4 n W H z g) : ∀ p, p < n → g 24 p = s_start g 78 p := fun p hp => (h.2.1.2.2.2.2.1 p hp).2.2.2.trans (if_pos (show p < 5 by have := h.n5; omega)).symm
/-- the reference's start, behind the class's search -/
theorem w_sms {n : Nat} {g g1 : qM} (h5 : n ≤ 5) (e : w_fc g g1) : w_sm n (s_start g1) (s_start g) ∧ (∀ p, p < n → g1 71 (15 + p) = s_start g 78 p) ∧ g1 71 = g 71 ∧ g1 70 = g 70 := by
  have e71 : g1 71 = g 71 := e 71 (by omega)
  have e70 : g1 70 = g 70 := e 70 (by omega)
  refine ⟨⟨⟨?_, ?_, ?_, ?_, ?_⟩, fun d _ _ => ?_, fun p hp => ⟨?_, ?_, ?_⟩⟩, fun p hp => ?_, e71, e70⟩
  · show g1 70 4 = g 70 4; rw [e70]
  · show g1 70 2 = g 70 2; rw [e70]
  · show g1 70 3 = g 70 3; rw [e70]
  · show g1 71 20 = g 71 20; rw [e71]
  · show g1 71 25 = g 71 25; rw [e71]
  · show g1 71 (20 + d) = g 71 (20 + d); rw [e71]
  · show (if p < 5 then g1 71 p else g1 75 p) = (if p < 5 then g 71 p else g 75 p); rw [if_pos (by omega), if_pos (by omega), e71]
  · show (if p < 5 then g1 71 (5 + p) else g1 76 p) = (if p < 5 then g 71 (5 + p) else g 76 p); rw [if_pos (by omega), if_pos (by omega), e71]
  · show (if p < 5 then g1 71 (10 + p) else g1 77 p) = (if p < 5 then g 71 (10 + p) else g 77 p); rw [if_pos (by omega), if_pos (by omega), e71]
  · show g1 71 (15 + p) = (if p < 5 then g 71 (15 + p) else g 78 p); rw [if_pos (by omega), e71]
theorem w_sms0 {n : Nat} {g : qM} (h5 : n ≤ 5) : w_sm n (s_start g) (s_start g) ∧ (∀ p, p < n → g 71 (15 + p) = s_start g 78 p) := ⟨w_sm_rfl n _, (w_sms h5 (w_fc_rfl g)).2.1⟩
/-! both sides of a call -/
def w_2 (Mc Mr : Nat) (as : List Value) (g : qM) (u : qW) : Prop := ∃ (v : Int32) (g1 : qM) (u1 : qW) (g2 : qM) (u2 : qW), q_BS Mc (.ref 8 :: as) g u (some (.int v), g1, u1) ∧ q_BS Mr (.ref 70 :: as) g1 u1 (some (.int v), g2, u2) ∧ w_R g2
theorem w_2n {Mc Mr : Nat} {as : List Value} {g : qM} {u : qW} {n W H z : Nat} {v : Int32} (h : w_R4 n W H z g) (h1 : q_BS Mc (.ref 8 :: as) g u (some (.int v), g, u)) (h2 : q_BS Mr (.ref 70 :: as) g u (some (.int v), g, u)) : w_2 Mc Mr as g u := ⟨v, g, u, g, u, h1, h2, n, W, H, z, h⟩
theorem w_2s {Mc Mr : Nat} {as : List Value} {g : qM} {u : qW} {n W H z : Nat} {v : Int32} (h : w_R4 n W H z g) (h1 : w_BS w_fc Mc (.ref 8 :: as) g u (.int v)) (h2 : ∀ g1 u1, w_fc g g1 → w_BS w_fr Mr (.ref 70 :: as) g1 u1 (.int v)) : w_2 Mc Mr as g u := by
  obtain ⟨g1, u1, q1, f1⟩ := h1
  obtain ⟨g2, u2, q2, f2⟩ := h2 g1 u1 f1
  exact ⟨v, g1, u1, g2, u2, q1, q2, n, W, H, z, (h.fc f1).fr f2⟩
/-- the same of a long -/
def w_2l (Mc Mr : Nat) (as : List Value) (g : qM) (u : qW) : Prop := ∃ (v : Int64) (g1 : qM) (u1 : qW) (g2 : qM) (u2 : qW), q_BS Mc (.ref 8 :: as) g u (some (.long v), g1, u1) ∧ q_BS Mr (.ref 70 :: as) g1 u1 (some (.long v), g2, u2) ∧ w_R g2
theorem w_2nl {Mc Mr : Nat} {as : List Value} {g : qM} {u : qW} {n W H z : Nat} {v : Int64} (h : w_R4 n W H z g) (h1 : q_BS Mc (.ref 8 :: as) g u (some (.long v), g, u)) (h2 : q_BS Mr (.ref 70 :: as) g u (some (.long v), g, u)) : w_2l Mc Mr as g u := ⟨v, g, u, g, u, h1, h2, n, W, H, z, h⟩
theorem w_2sl {Mc Mr : Nat} {as : List Value} {g : qM} {u : qW} {n W H z : Nat} {v : Int64} (h : w_R4 n W H z g) (h1 : w_BS w_fc Mc (.ref 8 :: as) g u (.long v)) (h2 : ∀ g1 u1, w_fc g g1 → w_BS w_fr Mr (.ref 70 :: as) g1 u1 (.long v)) : w_2l Mc Mr as g u := by
  obtain ⟨g1, u1, q1, f1⟩ := h1
  obtain ⟨g2, u2, q2, f2⟩ := h2 g1 u1 f1
  exact ⟨v, g1, u1, g2, u2, q1, q2, n, W, H, z, (h.fc f1).fr f2⟩
