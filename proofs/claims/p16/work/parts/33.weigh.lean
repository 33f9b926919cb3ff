theorem s_sf_0 {f : Nat → Int32} (h : ∀ q, f q = 0) : ∀ k q, s_sf f k q = 0
  | 0, _ => rfl
  | k + 1, q => by
    show f q + s_sf f k (q + 1) = 0
    rw [h q, s_sf_0 h k (q + 1)]
    rfl
theorem s_str_p {w : Int32} {c mo pl : Nat → Int32} {p q : Nat} (h : mo p = 0) : s_str w c mo pl p q = 0 := if_pos h
theorem s_str_q {w : Int32} {c mo pl : Nat → Int32} {p q : Nat} (h : mo q = 0) : s_str w c mo pl p q = 0 := by
  unfold s_str
  split
  · rfl
  · first
      | rfl
      | rw [if_pos h]
theorem s_K_0 {e : Nat → Nat → Int32} {p q j : Nat} (h : e p q = 0) : s_K e p q j = 0 := by
  unfold s_K
  rw [h]
  split
  · rfl
  · split <;> rfl
theorem s_wp_acc {w : Int32} {c mo pl : Nat → Int32} {n p q : Nat} {g : qM} {A B : Nat → Int32} (hp : p < n) (hq : q < n) (h1 : ¬ mo p = 0) (h2 : ¬ mo q = 0) : s_wpm mo pl (s_acc (s_W1 w c n g) A B) p q = s_acc (s_W1 w c n g) (fun j => A j + s_K (s_pe w c mo pl) p q j) (fun j => B j + s_K (s_ps w c mo pl) p q j) := by
  have e1 : ∀ j, j < n → (s_acc (s_W1 w c n g) A B) 29 j = s_col w (c j) := fun j hj => if_pos hj
  have e2 : ∀ j, j < n → (s_acc (s_W1 w c n g) A B) 30 j = s_row w (c j) := fun j hj => if_pos hj
  unfold s_wpm
  rw [s_acc_acc, e1 p hp, e1 q hq, e2 p hp, e2 q hq]
  unfold s_K s_pe s_ps s_str s_far
  rw [if_neg h1, if_neg h2]
/-- the sums of all pairs, as the class adds them -/
def s_A (e : Nat → Nat → Int32) (n j : Nat) : Int32 := s_sf (fun p => s_sf (fun q => s_K e p q j) (n - 1 - p) (p + 1)) n 0
def s_H (w : Int32) (c mo pl : Nat → Int32) (n : Nat) (g : qM) : qM := s_acc (s_W1 w c n g) (s_A (s_pe w c mo pl) n) (s_A (s_ps w c mo pl) n)
def s_wf (st : Nat → Int32) (H : qM) (j : Nat) : Int32 := if st j = 0 then s_way (H 31 j) (H 32 j) else 4
/-- the cells behind weigh -/
def s_weigh (w : Int32) (c mo st pl : Nat → Int32) (n : Nat) (g : qM) : qM := s_W4 (s_wf st (s_H w c mo pl n g)) n (s_H w c mo pl n g)
theorem w1_20 (g : qM) (u : qW) {Q : Option Value × qM × qW → Prop} {n : Nat} (hn : g 20 3 = Int32.ofNat n) (h6 : n ≤ 6) (hw : ¬ g 20 0 ≤ 0) : ∀ k i, i + k = n → q_EV m_58 64 [(0, .ref 28), (1, .ref 20), (2, .int (0 : Int32))] [] (s_W1 (g 20 0) (g 21) n g) u Q → q_EV m_58 2 [(0, .ref 28), (1, .ref 20), (2, .int (Int32.ofNat i))] [] (s_W1 (g 20 0) (g 21) i g) u Q := by
  intro k
  induction k with
  | zero =>
    intro i hi hE
    refine q_step 3 7 [(0, .ref 28), (1, .ref 20), (2, .int (Int32.ofNat i))] [.int (g 20 3), .int (Int32.ofNat i)] (s_W1 (g 20 0) (g 21) i g) u (fun _ _ => rfl) ?_
    refine q_ic_ge rfl (fun (hc0 : (g 20 3) ≤ (Int32.ofNat i)) => ?_) (fun hc0 => absurd (show (g 20 3) ≤ (Int32.ofNat i) from by rw [hn, q_le (by omega) (by omega)]; omega) hc0)
    refine q_step 2 64 [(0, .ref 28), (1, .ref 20), (2, .int (0 : Int32))] [] (s_W1 (g 20 0) (g 21) i g) u (fun _ _ => rfl) ?_
    have e : i = n := by omega
    subst e
    exact hE
  | succ k ih =>
    intro i hi hE
    refine q_step 3 7 [(0, .ref 28), (1, .ref 20), (2, .int (Int32.ofNat i))] [.int (g 20 3), .int (Int32.ofNat i)] (s_W1 (g 20 0) (g 21) i g) u (fun _ _ => rfl) ?_
    refine q_ic_ge rfl (fun hc0 => absurd (show (g 20 3) ≤ (Int32.ofNat i) from hc0) (fun z => by rw [hn, q_le (by omega) (by omega)] at z; omega)) (fun (hc0 : ¬ ((g 20 3) ≤ (Int32.ofNat i))) => ?_)
    refine q_step 7 21 [(0, .ref 28), (1, .ref 20), (2, .int (Int32.ofNat i))] [.int (Int32.ofNat i), .ref 21, .ref 20, .int (Int32.ofNat i), .ref 29] (s_W1 (g 20 0) (g 21) i g) u (fun _ _ => rfl) ?_
    refine q_iald (j := i) (q_ixn (by omega) (by omega)) rfl rfl ?_
    refine q_call (M2 := 59) (rest := [.int (Int32.ofNat i), .ref 29]) (b_col20 _ _ _ hw) (fun _ _ => rfl) ?_
    refine q_iast (j := i) (q_ixn (by omega) (by omega)) rfl rfl ?_
    refine q_step 7 37 [(0, .ref 28), (1, .ref 20), (2, .int (Int32.ofNat i))] [.int (Int32.ofNat i), .ref 21, .ref 20, .int (Int32.ofNat i), .ref 30] (q_up (s_W1 (g 20 0) (g 21) i g) 29 i (s_col (g 20 0) (g 21 i))) u (fun _ _ => rfl) ?_
    refine q_iald (j := i) (q_ixn (by omega) (by omega)) rfl rfl ?_
    refine q_call (M2 := 60) (rest := [.int (Int32.ofNat i), .ref 30]) (b_row20 _ _ _ hw) (fun _ _ => rfl) ?_
    refine q_iast (j := i) (q_ixn (by omega) (by omega)) rfl rfl ?_
    refine q_step 4 48 [(0, .ref 28), (1, .ref 20), (2, .int (Int32.ofNat i))] [.int (0 : Int32), .int (Int32.ofNat i), .ref 31] (q_up (q_up (s_W1 (g 20 0) (g 21) i g) 29 i (s_col (g 20 0) (g 21 i))) 30 i (s_row (g 20 0) (g 21 i))) u (fun _ _ => rfl) ?_
    refine q_iast (j := i) (q_ixn (by omega) (by omega)) rfl rfl ?_
    refine q_step 4 55 [(0, .ref 28), (1, .ref 20), (2, .int (Int32.ofNat i))] [.int (0 : Int32), .int (Int32.ofNat i), .ref 32] (q_up (q_up (q_up (s_W1 (g 20 0) (g 21) i g) 29 i (s_col (g 20 0) (g 21 i))) 30 i (s_row (g 20 0) (g 21 i))) 31 i (0 : Int32)) u (fun _ _ => rfl) ?_
    refine q_iast (j := i) (q_ixn (by omega) (by omega)) rfl rfl ?_
    refine q_step 2 2 [(0, .ref 28), (1, .ref 20), (2, .int ((Int32.ofNat i) + (1 : Int32)))] [] (q_up (q_up (q_up (q_up (s_W1 (g 20 0) (g 21) i g) 29 i (s_col (g 20 0) (g 21 i))) 30 i (s_row (g 20 0) (g 21 i))) 31 i (0 : Int32)) 32 i (0 : Int32)) u (fun _ _ => rfl) ?_
    rw [q_succ, s_W1_s]
    exact ih (i + 1) (by omega) hE
theorem w3_20 (g : qM) (u : qW) {Q : Option Value × qM × qW → Prop} {n : Nat} (hn : g 20 3 = Int32.ofNat n) (h6 : n ≤ 6) (hf : ∀ p q, p < n → q < n → 0 ≤ (s_far (g 20 0) ((g 21) p) ((g 21) q)).toInt) {p : Nat} (hp : p < n) : ∀ k q (A B : Nat → Int32), q + k = n → p < q → (∀ x, q_EV m_58 115 [(0, .ref 28), (1, .ref 20), (2, .int (Int32.ofNat p)), (3, .int x)] [] (s_acc (s_W1 (g 20 0) (g 21) n g) (fun j => A j + s_sf (fun q => s_K (s_pe (g 20 0) (g 21) (g 22) (g 25)) p q j) k q) (fun j => B j + s_sf (fun q => s_K (s_ps (g 20 0) (g 21) (g 22) (g 25)) p q j) k q)) u Q) → q_EV m_58 76 [(0, .ref 28), (1, .ref 20), (2, .int (Int32.ofNat p)), (3, .int (Int32.ofNat q))] [] (s_acc (s_W1 (g 20 0) (g 21) n g) A B) u Q := by
  intro k
  induction k with
  | zero =>
    intro q A B hq hpq hE
    refine q_step 3 81 [(0, .ref 28), (1, .ref 20), (2, .int (Int32.ofNat p)), (3, .int (Int32.ofNat q))] [.int (g 20 3), .int (Int32.ofNat q)] (s_acc (s_W1 (g 20 0) (g 21) n g) A B) u (fun _ _ => rfl) ?_
    refine q_ic_ge rfl (fun (hc0 : (g 20 3) ≤ (Int32.ofNat q)) => ?_) (fun hc0 => absurd (show (g 20 3) ≤ (Int32.ofNat q) from by rw [hn, q_le (by omega) (by omega)]; omega) hc0)
    have e := hE (Int32.ofNat q)
    simp only [s_sf, Int32.add_zero] at e
    exact e
  | succ k ih =>
    intro q A B hq hpq hE
    refine q_step 3 81 [(0, .ref 28), (1, .ref 20), (2, .int (Int32.ofNat p)), (3, .int (Int32.ofNat q))] [.int (g 20 3), .int (Int32.ofNat q)] (s_acc (s_W1 (g 20 0) (g 21) n g) A B) u (fun _ _ => rfl) ?_
    refine q_ic_ge rfl (fun hc0 => absurd (show (g 20 3) ≤ (Int32.ofNat q) from hc0) (fun z => by rw [hn, q_le (by omega) (by omega)] at z; omega)) (fun (hc0 : ¬ ((g 20 3) ≤ (Int32.ofNat q))) => ?_)
    refine q_step 3 89 [(0, .ref 28), (1, .ref 20), (2, .int (Int32.ofNat p)), (3, .int (Int32.ofNat q))] [.int (Int32.ofNat p), .ref 22] (s_acc (s_W1 (g 20 0) (g 21) n g) A B) u (fun _ _ => rfl) ?_
    refine q_iald (j := p) (q_ixn (by omega) (by omega)) rfl rfl ?_
    refine q_if_eq rfl (fun (hc1 : (g 22 p) = 0) => ?_) (fun (hc1 : ¬ ((g 22 p) = 0)) => ?_)
    · have e := hE (Int32.ofNat q)
      rw [show (fun j => A j + s_sf (fun q => s_K (s_pe (g 20 0) (g 21) (g 22) (g 25)) p q j) (k + 1) q) = A from funext fun j => by rw [s_sf_0 (fun q => s_K_0 (by unfold s_pe; rw [s_str_p hc1, Int32.zero_mul])), Int32.add_zero], show (fun j => B j + s_sf (fun q => s_K (s_ps (g 20 0) (g 21) (g 22) (g 25)) p q j) (k + 1) q) = B from funext fun j => by rw [s_sf_0 (fun q => s_K_0 (by unfold s_ps; rw [s_str_p hc1, Int32.zero_mul])), Int32.add_zero]] at e
      exact e
    · refine q_step 3 98 [(0, .ref 28), (1, .ref 20), (2, .int (Int32.ofNat p)), (3, .int (Int32.ofNat q))] [.int (Int32.ofNat q), .ref 22] (s_acc (s_W1 (g 20 0) (g 21) n g) A B) u (fun _ _ => rfl) ?_
      refine q_iald (j := q) (q_ixn (by omega) (by omega)) rfl rfl ?_
      refine q_if_eq rfl (fun (hc2 : (g 22 q) = 0) => ?_) (fun (hc2 : ¬ ((g 22 q) = 0)) => ?_)
      · refine q_step 2 76 [(0, .ref 28), (1, .ref 20), (2, .int (Int32.ofNat p)), (3, .int ((Int32.ofNat q) + (1 : Int32)))] [] (s_acc (s_W1 (g 20 0) (g 21) n g) A B) u (fun _ _ => rfl) ?_
        rw [q_succ]
        refine ih (q + 1) A B (by omega) (by omega) (fun x => ?_)
        have e := hE x
        rw [show (fun j => A j + s_sf (fun q => s_K (s_pe (g 20 0) (g 21) (g 22) (g 25)) p q j) (k + 1) q) = fun j => A j + s_sf (fun q => s_K (s_pe (g 20 0) (g 21) (g 22) (g 25)) p q j) k (q + 1) from funext fun j => by rw [s_sf, s_K_0 (by unfold s_pe; rw [s_str_q hc2, Int32.zero_mul]), Int32.zero_add], show (fun j => B j + s_sf (fun q => s_K (s_ps (g 20 0) (g 21) (g 22) (g 25)) p q j) (k + 1) q) = fun j => B j + s_sf (fun q => s_K (s_ps (g 20 0) (g 21) (g 22) (g 25)) p q j) k (q + 1) from funext fun j => by rw [s_sf, s_K_0 (by unfold s_ps; rw [s_str_q hc2, Int32.zero_mul]), Int32.zero_add]] at e
        exact e
      · refine q_step 4 106 [(0, .ref 28), (1, .ref 20), (2, .int (Int32.ofNat p)), (3, .int (Int32.ofNat q))] [.int (Int32.ofNat q), .int (Int32.ofNat p), .ref 20, .ref 28] (s_acc (s_W1 (g 20 0) (g 21) n g) A B) u (fun _ _ => rfl) ?_
        have hb : q_BS 61 [.ref 28, .ref 20, .int (Int32.ofNat p), .int (Int32.ofNat q)] (s_acc (s_W1 (g 20 0) (g 21) n g) A B) u (none, s_acc (s_W1 (g 20 0) (g 21) n g) (fun j => A j + s_K (s_pe (g 20 0) (g 21) (g 22) (g 25)) p q j) (fun j => B j + s_K (s_ps (g 20 0) (g 21) (g 22) (g 25)) p q j), u) := by
          have e1 : ∀ j, j < n → (s_acc (s_W1 (g 20 0) (g 21) n g) A B) 29 j = s_col (g 20 0) ((g 21) j) := fun j hj => if_pos hj
          have e2 : ∀ j, j < n → (s_acc (s_W1 (g 20 0) (g 21) n g) A B) 30 j = s_row (g 20 0) ((g 21) j) := fun j hj => if_pos hj
          have h := b_wp20 (p := p) (q := q) (s_acc (s_W1 (g 20 0) (g 21) n g) A B) u (by omega) (by omega) (by omega) (by rw [e1 p (by omega), e1 q (by omega), e2 p (by omega), e2 q (by omega)]; exact hf p q (by omega) (by omega))
          rw [show s_wpm ((s_acc (s_W1 (g 20 0) (g 21) n g) A B) 22) ((s_acc (s_W1 (g 20 0) (g 21) n g) A B) 25) (s_acc (s_W1 (g 20 0) (g 21) n g) A B) p q = _ from s_wp_acc (mo := (g 22)) (pl := (g 25)) (by omega) (by omega) hc1 hc2] at h
          exact h
        refine q_call (M2 := 61) (rest := []) (hb) (fun _ _ => rfl) ?_
        refine q_step 2 76 [(0, .ref 28), (1, .ref 20), (2, .int (Int32.ofNat p)), (3, .int ((Int32.ofNat q) + (1 : Int32)))] [] (s_acc (s_W1 (g 20 0) (g 21) n g) (fun j => A j + s_K (s_pe (g 20 0) (g 21) (g 22) (g 25)) p q j) (fun j => B j + s_K (s_ps (g 20 0) (g 21) (g 22) (g 25)) p q j)) u (fun _ _ => rfl) ?_
        rw [q_succ]
        refine ih (q + 1) _ _ (by omega) (by omega) (fun x => ?_)
        have e := hE x
        simp only [s_sf, ← Int32.add_assoc] at e
        exact e
theorem w2_20 (g : qM) (u : qW) {Q : Option Value × qM × qW → Prop} {n : Nat} (hn : g 20 3 = Int32.ofNat n) (h6 : n ≤ 6) (hf : ∀ p q, p < n → q < n → 0 ≤ (s_far (g 20 0) ((g 21) p) ((g 21) q)).toInt) : ∀ k p x (A B : Nat → Int32), p + k = n → (∀ x, q_EV m_58 123 [(0, .ref 28), (1, .ref 20), (2, .int (0 : Int32)), (3, .int x)] [] (s_acc (s_W1 (g 20 0) (g 21) n g) (fun j => A j + s_sf (fun p => s_sf (fun q => s_K (s_pe (g 20 0) (g 21) (g 22) (g 25)) p q j) (n - 1 - p) (p + 1)) k p) (fun j => B j + s_sf (fun p => s_sf (fun q => s_K (s_ps (g 20 0) (g 21) (g 22) (g 25)) p q j) (n - 1 - p) (p + 1)) k p)) u Q) → q_EV m_58 64 [(0, .ref 28), (1, .ref 20), (2, .int (Int32.ofNat p)), (3, .int x)] [] (s_acc (s_W1 (g 20 0) (g 21) n g) A B) u Q := by
  intro k
  induction k with
  | zero =>
    intro p x A B hp hE
    refine q_step 3 69 [(0, .ref 28), (1, .ref 20), (2, .int (Int32.ofNat p)), (3, .int x)] [.int (g 20 3), .int (Int32.ofNat p)] (s_acc (s_W1 (g 20 0) (g 21) n g) A B) u (fun _ _ => rfl) ?_
    refine q_ic_ge rfl (fun (hc0 : (g 20 3) ≤ (Int32.ofNat p)) => ?_) (fun hc0 => absurd (show (g 20 3) ≤ (Int32.ofNat p) from by rw [hn, q_le (by omega) (by omega)]; omega) hc0)
    refine q_step 2 123 [(0, .ref 28), (1, .ref 20), (2, .int (0 : Int32)), (3, .int x)] [] (s_acc (s_W1 (g 20 0) (g 21) n g) A B) u (fun _ _ => rfl) ?_
    have e := hE x
    simp only [s_sf, Int32.add_zero] at e
    exact e
  | succ k ih =>
    intro p x A B hp hE
    refine q_step 3 69 [(0, .ref 28), (1, .ref 20), (2, .int (Int32.ofNat p)), (3, .int x)] [.int (g 20 3), .int (Int32.ofNat p)] (s_acc (s_W1 (g 20 0) (g 21) n g) A B) u (fun _ _ => rfl) ?_
    refine q_ic_ge rfl (fun hc0 => absurd (show (g 20 3) ≤ (Int32.ofNat p) from hc0) (fun z => by rw [hn, q_le (by omega) (by omega)] at z; omega)) (fun (hc0 : ¬ ((g 20 3) ≤ (Int32.ofNat p))) => ?_)
    refine q_step 4 76 [(0, .ref 28), (1, .ref 20), (2, .int (Int32.ofNat p)), (3, .int ((Int32.ofNat p) + (1 : Int32)))] [] (s_acc (s_W1 (g 20 0) (g 21) n g) A B) u (fun _ _ => rfl) ?_
    rw [q_succ]
    refine w3_20 g u hn h6 hf (p := p) (by omega) (n - 1 - p) (p + 1) A B (by omega) (by omega) (fun x => ?_)
    refine q_step 2 64 [(0, .ref 28), (1, .ref 20), (2, .int ((Int32.ofNat p) + (1 : Int32))), (3, .int x)] [] (s_acc (s_W1 (g 20 0) (g 21) n g) (fun j => A j + s_sf (fun q => s_K (s_pe (g 20 0) (g 21) (g 22) (g 25)) p q j) (n - 1 - p) (p + 1)) (fun j => B j + s_sf (fun q => s_K (s_ps (g 20 0) (g 21) (g 22) (g 25)) p q j) (n - 1 - p) (p + 1))) u (fun _ _ => rfl) ?_
    rw [q_succ]
    refine ih (p + 1) x _ _ (by omega) (fun x => ?_)
    have e := hE x
    simp only [s_sf, ← Int32.add_assoc] at e
    exact e
theorem w4a_20 (H : qM) (u : qW) {n : Nat} (hn : H 20 3 = Int32.ofNat n) (h6 : n ≤ 6) : ∀ k i, i + k = n → q_EV m_58 123 [(0, .ref 28), (1, .ref 20), (2, .int (Int32.ofNat i))] [] (s_W4 (s_wf (H 23) H) i H) u (fun R => R = (none, s_W4 (s_wf (H 23) H) n H, u)) := by
  intro k
  induction k with
  | zero =>
    intro i hi
    refine q_step 3 128 [(0, .ref 28), (1, .ref 20), (2, .int (Int32.ofNat i))] [.int (H 20 3), .int (Int32.ofNat i)] (s_W4 (s_wf (H 23) H) i H) u (fun _ _ => rfl) ?_
    refine q_ic_ge rfl (fun (hc0 : (H 20 3) ≤ (Int32.ofNat i)) => ?_) (fun hc0 => absurd (show (H 20 3) ≤ (Int32.ofNat i) from by rw [hn, q_le (by omega) (by omega)]; omega) hc0)
    refine q_ret 1 (none, (s_W4 (s_wf (H 23) H) i H), u) (fun _ _ => rfl) ?_
    have e : i = n := by omega
    subst e
    rfl
  | succ k ih =>
    intro i hi
    refine q_step 3 128 [(0, .ref 28), (1, .ref 20), (2, .int (Int32.ofNat i))] [.int (H 20 3), .int (Int32.ofNat i)] (s_W4 (s_wf (H 23) H) i H) u (fun _ _ => rfl) ?_
    refine q_ic_ge rfl (fun hc0 => absurd (show (H 20 3) ≤ (Int32.ofNat i) from hc0) (fun z => by rw [hn, q_le (by omega) (by omega)] at z; omega)) (fun (hc0 : ¬ ((H 20 3) ≤ (Int32.ofNat i))) => ?_)
    refine q_step 6 141 [(0, .ref 28), (1, .ref 20), (2, .int (Int32.ofNat i))] [.int (Int32.ofNat i), .ref 23, .int (Int32.ofNat i), .ref 33] (s_W4 (s_wf (H 23) H) i H) u (fun _ _ => rfl) ?_
    refine q_iald (j := i) (q_ixn (by omega) (by omega)) rfl rfl ?_
    refine q_if_eq rfl (fun (hc1 : (H 23 i) = 0) => ?_) (fun (hc1 : ¬ ((H 23 i) = 0)) => ?_)
    · refine q_step 3 154 [(0, .ref 28), (1, .ref 20), (2, .int (Int32.ofNat i))] [.int (Int32.ofNat i), .ref 31, .int (Int32.ofNat i), .ref 33] (s_W4 (s_wf (H 23) H) i H) u (fun _ _ => rfl) ?_
      refine q_iald (j := i) (q_ixn (by omega) (by omega)) rfl rfl ?_
      refine q_step 3 160 [(0, .ref 28), (1, .ref 20), (2, .int (Int32.ofNat i))] [.int (Int32.ofNat i), .ref 32, .int (H 31 i), .int (Int32.ofNat i), .ref 33] (s_W4 (s_wf (H 23) H) i H) u (fun _ _ => rfl) ?_
      refine q_iald (j := i) (q_ixn (by omega) (by omega)) rfl rfl ?_
      refine q_call (M2 := 64) (rest := [.int (Int32.ofNat i), .ref 33]) (b_wayBy _ _ _ _) (fun _ _ => rfl) ?_
      refine q_iast (j := i) (q_ixn (by omega) (by omega)) rfl rfl ?_
      refine q_step 2 123 [(0, .ref 28), (1, .ref 20), (2, .int ((Int32.ofNat i) + (1 : Int32)))] [] (q_up (s_W4 (s_wf (H 23) H) i H) 33 i (s_way (H 31 i) (H 32 i))) u (fun _ _ => rfl) ?_
      rw [q_succ, show (s_way (H 31 i) (H 32 i)) = (s_wf (H 23) H) i from (if_pos hc1).symm, s_W4_s]
      exact ih (i + 1) (by omega)
    · refine q_step 2 164 [(0, .ref 28), (1, .ref 20), (2, .int (Int32.ofNat i))] [.int (4 : Int32), .int (Int32.ofNat i), .ref 33] (s_W4 (s_wf (H 23) H) i H) u (fun _ _ => rfl) ?_
      refine q_iast (j := i) (q_ixn (by omega) (by omega)) rfl rfl ?_
      refine q_step 2 123 [(0, .ref 28), (1, .ref 20), (2, .int ((Int32.ofNat i) + (1 : Int32)))] [] (q_up (s_W4 (s_wf (H 23) H) i H) 33 i (4 : Int32)) u (fun _ _ => rfl) ?_
      rw [q_succ, show (4 : Int32) = (s_wf (H 23) H) i from (if_neg hc1).symm, s_W4_s]
      exact ih (i + 1) (by omega)
theorem w4b_20 (H : qM) (u : qW) {n : Nat} (hn : H 20 3 = Int32.ofNat n) (h6 : n ≤ 6) (x : Int32) : ∀ k i, i + k = n → q_EV m_58 123 [(0, .ref 28), (1, .ref 20), (2, .int (Int32.ofNat i)), (3, .int x)] [] (s_W4 (s_wf (H 23) H) i H) u (fun R => R = (none, s_W4 (s_wf (H 23) H) n H, u)) := by
  intro k
  induction k with
  | zero =>
    intro i hi
    refine q_step 3 128 [(0, .ref 28), (1, .ref 20), (2, .int (Int32.ofNat i)), (3, .int x)] [.int (H 20 3), .int (Int32.ofNat i)] (s_W4 (s_wf (H 23) H) i H) u (fun _ _ => rfl) ?_
    refine q_ic_ge rfl (fun (hc0 : (H 20 3) ≤ (Int32.ofNat i)) => ?_) (fun hc0 => absurd (show (H 20 3) ≤ (Int32.ofNat i) from by rw [hn, q_le (by omega) (by omega)]; omega) hc0)
    refine q_ret 1 (none, (s_W4 (s_wf (H 23) H) i H), u) (fun _ _ => rfl) ?_
    have e : i = n := by omega
    subst e
    rfl
  | succ k ih =>
    intro i hi
    refine q_step 3 128 [(0, .ref 28), (1, .ref 20), (2, .int (Int32.ofNat i)), (3, .int x)] [.int (H 20 3), .int (Int32.ofNat i)] (s_W4 (s_wf (H 23) H) i H) u (fun _ _ => rfl) ?_
    refine q_ic_ge rfl (fun hc0 => absurd (show (H 20 3) ≤ (Int32.ofNat i) from hc0) (fun z => by rw [hn, q_le (by omega) (by omega)] at z; omega)) (fun (hc0 : ¬ ((H 20 3) ≤ (Int32.ofNat i))) => ?_)
    refine q_step 6 141 [(0, .ref 28), (1, .ref 20), (2, .int (Int32.ofNat i)), (3, .int x)] [.int (Int32.ofNat i), .ref 23, .int (Int32.ofNat i), .ref 33] (s_W4 (s_wf (H 23) H) i H) u (fun _ _ => rfl) ?_
    refine q_iald (j := i) (q_ixn (by omega) (by omega)) rfl rfl ?_
    refine q_if_eq rfl (fun (hc1 : (H 23 i) = 0) => ?_) (fun (hc1 : ¬ ((H 23 i) = 0)) => ?_)
    · refine q_step 3 154 [(0, .ref 28), (1, .ref 20), (2, .int (Int32.ofNat i)), (3, .int x)] [.int (Int32.ofNat i), .ref 31, .int (Int32.ofNat i), .ref 33] (s_W4 (s_wf (H 23) H) i H) u (fun _ _ => rfl) ?_
      refine q_iald (j := i) (q_ixn (by omega) (by omega)) rfl rfl ?_
      refine q_step 3 160 [(0, .ref 28), (1, .ref 20), (2, .int (Int32.ofNat i)), (3, .int x)] [.int (Int32.ofNat i), .ref 32, .int (H 31 i), .int (Int32.ofNat i), .ref 33] (s_W4 (s_wf (H 23) H) i H) u (fun _ _ => rfl) ?_
      refine q_iald (j := i) (q_ixn (by omega) (by omega)) rfl rfl ?_
      refine q_call (M2 := 64) (rest := [.int (Int32.ofNat i), .ref 33]) (b_wayBy _ _ _ _) (fun _ _ => rfl) ?_
      refine q_iast (j := i) (q_ixn (by omega) (by omega)) rfl rfl ?_
      refine q_step 2 123 [(0, .ref 28), (1, .ref 20), (2, .int ((Int32.ofNat i) + (1 : Int32))), (3, .int x)] [] (q_up (s_W4 (s_wf (H 23) H) i H) 33 i (s_way (H 31 i) (H 32 i))) u (fun _ _ => rfl) ?_
      rw [q_succ, show (s_way (H 31 i) (H 32 i)) = (s_wf (H 23) H) i from (if_pos hc1).symm, s_W4_s]
      exact ih (i + 1) (by omega)
    · refine q_step 2 164 [(0, .ref 28), (1, .ref 20), (2, .int (Int32.ofNat i)), (3, .int x)] [.int (4 : Int32), .int (Int32.ofNat i), .ref 33] (s_W4 (s_wf (H 23) H) i H) u (fun _ _ => rfl) ?_
      refine q_iast (j := i) (q_ixn (by omega) (by omega)) rfl rfl ?_
      refine q_step 2 123 [(0, .ref 28), (1, .ref 20), (2, .int ((Int32.ofNat i) + (1 : Int32))), (3, .int x)] [] (q_up (s_W4 (s_wf (H 23) H) i H) 33 i (4 : Int32)) u (fun _ _ => rfl) ?_
      rw [q_succ, show (4 : Int32) = (s_wf (H 23) H) i from (if_neg hc1).symm, s_W4_s]
      exact ih (i + 1) (by omega)
theorem b_weigh20 (g : qM) (u : qW) {n : Nat} (hn : g 20 3 = Int32.ofNat n) (h6 : n ≤ 6) (hw : ¬ g 20 0 ≤ 0) (hf : ∀ p q, p < n → q < n → 0 ≤ (s_far (g 20 0) ((g 21) p) ((g 21) q)).toInt) : q_BS 58 [.ref 28, .ref 20] g u (none, s_weigh (g 20 0) (g 21) (g 22) (g 23) (g 25) n g, u) := by
  refine q_bx (mm := m_58) rfl (Nat.le_of_ble_eq_true rfl) rfl ?_
  refine q_step 2 2 [(0, .ref 28), (1, .ref 20), (2, .int (0 : Int32))] [] g u (fun _ _ => rfl) ?_
  suffices hE : q_EV m_58 64 [(0, .ref 28), (1, .ref 20), (2, .int (0 : Int32))] [] (s_W1 (g 20 0) (g 21) n g) u (fun R' => R' = (none, s_weigh (g 20 0) (g 21) (g 22) (g 23) (g 25) n g, u)) by
    have key := w1_20 g u hn h6 hw n 0 (by omega) hE
    rw [s_W1_0] at key
    exact key
  by_cases h0 : n = 0
  · refine q_step 3 69 [(0, .ref 28), (1, .ref 20), (2, .int (0 : Int32))] [.int (g 20 3), .int (0 : Int32)] (s_W1 (g 20 0) (g 21) n g) u (fun _ _ => rfl) ?_
    refine q_ic_ge rfl (fun (hc0 : (g 20 3) ≤ (0 : Int32)) => ?_) (fun hc0 => absurd (show (g 20 3) ≤ (0 : Int32) from by rw [hn, h0]; decide) hc0)
    refine q_step 2 123 [(0, .ref 28), (1, .ref 20), (2, .int (0 : Int32))] [] (s_W1 (g 20 0) (g 21) n g) u (fun _ _ => rfl) ?_
    have e := w4a_20 (s_H (g 20 0) (g 21) (g 22) (g 25) n g) u hn h6 n 0 (by omega)
    rw [s_W4_0] at e
    subst h0
    have e2 : s_H (g 20 0) (g 21) (g 22) (g 25) 0 g = s_W1 (g 20 0) (g 21) 0 g := s_acc_0 _
    rw [← e2]
    exact e
  · refine q_step 3 69 [(0, .ref 28), (1, .ref 20), (2, .int (0 : Int32))] [.int (g 20 3), .int (0 : Int32)] (s_W1 (g 20 0) (g 21) n g) u (fun _ _ => rfl) ?_
    refine q_ic_ge rfl (fun hc0 => absurd (show (g 20 3) ≤ (0 : Int32) from hc0) (fun z => by rw [hn] at z; have z2 := (q_le (i := n) (j := 0) (by omega) (by omega)).mp z; omega)) (fun (hc0 : ¬ ((g 20 3) ≤ (0 : Int32))) => ?_)
    refine q_step 4 76 [(0, .ref 28), (1, .ref 20), (2, .int (0 : Int32)), (3, .int (1 : Int32))] [] (s_W1 (g 20 0) (g 21) n g) u (fun _ _ => rfl) ?_
    rw [← s_acc_0 (s_W1 (g 20 0) (g 21) n g)]
    refine w3_20 g u hn h6 hf (p := 0) (by omega) (n - 1 - 0) (0 + 1) (fun _ => 0) (fun _ => 0) (by omega) (by omega) (fun x => ?_)
    refine q_step 2 64 [(0, .ref 28), (1, .ref 20), (2, .int (1 : Int32)), (3, .int x)] [] (s_acc (s_W1 (g 20 0) (g 21) n g) (fun j => 0 + s_sf (fun q => s_K (s_pe (g 20 0) (g 21) (g 22) (g 25)) 0 q j) (n - 1 - 0) (0 + 1)) (fun j => 0 + s_sf (fun q => s_K (s_ps (g 20 0) (g 21) (g 22) (g 25)) 0 q j) (n - 1 - 0) (0 + 1))) u (fun _ _ => rfl) ?_
    refine w2_20 g u hn h6 hf (n - 1) 1 x _ _ (by omega) (fun x => ?_)
    have e := w4b_20 (s_H (g 20 0) (g 21) (g 22) (g 25) n g) u hn h6 x n 0 (by omega)
    rw [s_W4_0] at e
    obtain ⟨m, rfl⟩ : ∃ m, n = m + 1 := ⟨n - 1, by omega⟩
    simp only [Int32.zero_add]
    exact e
theorem w1_35 (g : qM) (u : qW) {Q : Option Value × qM × qW → Prop} {n : Nat} (hn : g 35 3 = Int32.ofNat n) (h6 : n ≤ 6) (hw : ¬ g 35 0 ≤ 0) : ∀ k i, i + k = n → q_EV m_58 64 [(0, .ref 28), (1, .ref 35), (2, .int (0 : Int32))] [] (s_W1 (g 35 0) (g 36) n g) u Q → q_EV m_58 2 [(0, .ref 28), (1, .ref 35), (2, .int (Int32.ofNat i))] [] (s_W1 (g 35 0) (g 36) i g) u Q := by
  intro k
  induction k with
  | zero =>
    intro i hi hE
    refine q_step 3 7 [(0, .ref 28), (1, .ref 35), (2, .int (Int32.ofNat i))] [.int (g 35 3), .int (Int32.ofNat i)] (s_W1 (g 35 0) (g 36) i g) u (fun _ _ => rfl) ?_
    refine q_ic_ge rfl (fun (hc0 : (g 35 3) ≤ (Int32.ofNat i)) => ?_) (fun hc0 => absurd (show (g 35 3) ≤ (Int32.ofNat i) from by rw [hn, q_le (by omega) (by omega)]; omega) hc0)
    refine q_step 2 64 [(0, .ref 28), (1, .ref 35), (2, .int (0 : Int32))] [] (s_W1 (g 35 0) (g 36) i g) u (fun _ _ => rfl) ?_
    have e : i = n := by omega
    subst e
    exact hE
  | succ k ih =>
    intro i hi hE
    refine q_step 3 7 [(0, .ref 28), (1, .ref 35), (2, .int (Int32.ofNat i))] [.int (g 35 3), .int (Int32.ofNat i)] (s_W1 (g 35 0) (g 36) i g) u (fun _ _ => rfl) ?_
    refine q_ic_ge rfl (fun hc0 => absurd (show (g 35 3) ≤ (Int32.ofNat i) from hc0) (fun z => by rw [hn, q_le (by omega) (by omega)] at z; omega)) (fun (hc0 : ¬ ((g 35 3) ≤ (Int32.ofNat i))) => ?_)
    refine q_step 7 21 [(0, .ref 28), (1, .ref 35), (2, .int (Int32.ofNat i))] [.int (Int32.ofNat i), .ref 36, .ref 35, .int (Int32.ofNat i), .ref 29] (s_W1 (g 35 0) (g 36) i g) u (fun _ _ => rfl) ?_
    refine q_iald (j := i) (q_ixn (by omega) (by omega)) rfl rfl ?_
    refine q_call (M2 := 59) (rest := [.int (Int32.ofNat i), .ref 29]) (b_col35 _ _ _ hw) (fun _ _ => rfl) ?_
    refine q_iast (j := i) (q_ixn (by omega) (by omega)) rfl rfl ?_
    refine q_step 7 37 [(0, .ref 28), (1, .ref 35), (2, .int (Int32.ofNat i))] [.int (Int32.ofNat i), .ref 36, .ref 35, .int (Int32.ofNat i), .ref 30] (q_up (s_W1 (g 35 0) (g 36) i g) 29 i (s_col (g 35 0) (g 36 i))) u (fun _ _ => rfl) ?_
    refine q_iald (j := i) (q_ixn (by omega) (by omega)) rfl rfl ?_
    refine q_call (M2 := 60) (rest := [.int (Int32.ofNat i), .ref 30]) (b_row35 _ _ _ hw) (fun _ _ => rfl) ?_
    refine q_iast (j := i) (q_ixn (by omega) (by omega)) rfl rfl ?_
    refine q_step 4 48 [(0, .ref 28), (1, .ref 35), (2, .int (Int32.ofNat i))] [.int (0 : Int32), .int (Int32.ofNat i), .ref 31] (q_up (q_up (s_W1 (g 35 0) (g 36) i g) 29 i (s_col (g 35 0) (g 36 i))) 30 i (s_row (g 35 0) (g 36 i))) u (fun _ _ => rfl) ?_
    refine q_iast (j := i) (q_ixn (by omega) (by omega)) rfl rfl ?_
    refine q_step 4 55 [(0, .ref 28), (1, .ref 35), (2, .int (Int32.ofNat i))] [.int (0 : Int32), .int (Int32.ofNat i), .ref 32] (q_up (q_up (q_up (s_W1 (g 35 0) (g 36) i g) 29 i (s_col (g 35 0) (g 36 i))) 30 i (s_row (g 35 0) (g 36 i))) 31 i (0 : Int32)) u (fun _ _ => rfl) ?_
    refine q_iast (j := i) (q_ixn (by omega) (by omega)) rfl rfl ?_
    refine q_step 2 2 [(0, .ref 28), (1, .ref 35), (2, .int ((Int32.ofNat i) + (1 : Int32)))] [] (q_up (q_up (q_up (q_up (s_W1 (g 35 0) (g 36) i g) 29 i (s_col (g 35 0) (g 36 i))) 30 i (s_row (g 35 0) (g 36 i))) 31 i (0 : Int32)) 32 i (0 : Int32)) u (fun _ _ => rfl) ?_
    rw [q_succ, s_W1_s]
    exact ih (i + 1) (by omega) hE
theorem w3_35 (g : qM) (u : qW) {Q : Option Value × qM × qW → Prop} {n : Nat} (hn : g 35 3 = Int32.ofNat n) (h6 : n ≤ 6) (hf : ∀ p q, p < n → q < n → 0 ≤ (s_far (g 35 0) ((g 36) p) ((g 36) q)).toInt) {p : Nat} (hp : p < n) : ∀ k q (A B : Nat → Int32), q + k = n → p < q → (∀ x, q_EV m_58 115 [(0, .ref 28), (1, .ref 35), (2, .int (Int32.ofNat p)), (3, .int x)] [] (s_acc (s_W1 (g 35 0) (g 36) n g) (fun j => A j + s_sf (fun q => s_K (s_pe (g 35 0) (g 36) (g 37) (g 40)) p q j) k q) (fun j => B j + s_sf (fun q => s_K (s_ps (g 35 0) (g 36) (g 37) (g 40)) p q j) k q)) u Q) → q_EV m_58 76 [(0, .ref 28), (1, .ref 35), (2, .int (Int32.ofNat p)), (3, .int (Int32.ofNat q))] [] (s_acc (s_W1 (g 35 0) (g 36) n g) A B) u Q := by
  intro k
  induction k with
  | zero =>
    intro q A B hq hpq hE
    refine q_step 3 81 [(0, .ref 28), (1, .ref 35), (2, .int (Int32.ofNat p)), (3, .int (Int32.ofNat q))] [.int (g 35 3), .int (Int32.ofNat q)] (s_acc (s_W1 (g 35 0) (g 36) n g) A B) u (fun _ _ => rfl) ?_
    refine q_ic_ge rfl (fun (hc0 : (g 35 3) ≤ (Int32.ofNat q)) => ?_) (fun hc0 => absurd (show (g 35 3) ≤ (Int32.ofNat q) from by rw [hn, q_le (by omega) (by omega)]; omega) hc0)
    have e := hE (Int32.ofNat q)
    simp only [s_sf, Int32.add_zero] at e
    exact e
  | succ k ih =>
    intro q A B hq hpq hE
    refine q_step 3 81 [(0, .ref 28), (1, .ref 35), (2, .int (Int32.ofNat p)), (3, .int (Int32.ofNat q))] [.int (g 35 3), .int (Int32.ofNat q)] (s_acc (s_W1 (g 35 0) (g 36) n g) A B) u (fun _ _ => rfl) ?_
    refine q_ic_ge rfl (fun hc0 => absurd (show (g 35 3) ≤ (Int32.ofNat q) from hc0) (fun z => by rw [hn, q_le (by omega) (by omega)] at z; omega)) (fun (hc0 : ¬ ((g 35 3) ≤ (Int32.ofNat q))) => ?_)
    refine q_step 3 89 [(0, .ref 28), (1, .ref 35), (2, .int (Int32.ofNat p)), (3, .int (Int32.ofNat q))] [.int (Int32.ofNat p), .ref 37] (s_acc (s_W1 (g 35 0) (g 36) n g) A B) u (fun _ _ => rfl) ?_
    refine q_iald (j := p) (q_ixn (by omega) (by omega)) rfl rfl ?_
    refine q_if_eq rfl (fun (hc1 : (g 37 p) = 0) => ?_) (fun (hc1 : ¬ ((g 37 p) = 0)) => ?_)
    · have e := hE (Int32.ofNat q)
      rw [show (fun j => A j + s_sf (fun q => s_K (s_pe (g 35 0) (g 36) (g 37) (g 40)) p q j) (k + 1) q) = A from funext fun j => by rw [s_sf_0 (fun q => s_K_0 (by unfold s_pe; rw [s_str_p hc1, Int32.zero_mul])), Int32.add_zero], show (fun j => B j + s_sf (fun q => s_K (s_ps (g 35 0) (g 36) (g 37) (g 40)) p q j) (k + 1) q) = B from funext fun j => by rw [s_sf_0 (fun q => s_K_0 (by unfold s_ps; rw [s_str_p hc1, Int32.zero_mul])), Int32.add_zero]] at e
      exact e
    · refine q_step 3 98 [(0, .ref 28), (1, .ref 35), (2, .int (Int32.ofNat p)), (3, .int (Int32.ofNat q))] [.int (Int32.ofNat q), .ref 37] (s_acc (s_W1 (g 35 0) (g 36) n g) A B) u (fun _ _ => rfl) ?_
      refine q_iald (j := q) (q_ixn (by omega) (by omega)) rfl rfl ?_
      refine q_if_eq rfl (fun (hc2 : (g 37 q) = 0) => ?_) (fun (hc2 : ¬ ((g 37 q) = 0)) => ?_)
      · refine q_step 2 76 [(0, .ref 28), (1, .ref 35), (2, .int (Int32.ofNat p)), (3, .int ((Int32.ofNat q) + (1 : Int32)))] [] (s_acc (s_W1 (g 35 0) (g 36) n g) A B) u (fun _ _ => rfl) ?_
        rw [q_succ]
        refine ih (q + 1) A B (by omega) (by omega) (fun x => ?_)
        have e := hE x
        rw [show (fun j => A j + s_sf (fun q => s_K (s_pe (g 35 0) (g 36) (g 37) (g 40)) p q j) (k + 1) q) = fun j => A j + s_sf (fun q => s_K (s_pe (g 35 0) (g 36) (g 37) (g 40)) p q j) k (q + 1) from funext fun j => by rw [s_sf, s_K_0 (by unfold s_pe; rw [s_str_q hc2, Int32.zero_mul]), Int32.zero_add], show (fun j => B j + s_sf (fun q => s_K (s_ps (g 35 0) (g 36) (g 37) (g 40)) p q j) (k + 1) q) = fun j => B j + s_sf (fun q => s_K (s_ps (g 35 0) (g 36) (g 37) (g 40)) p q j) k (q + 1) from funext fun j => by rw [s_sf, s_K_0 (by unfold s_ps; rw [s_str_q hc2, Int32.zero_mul]), Int32.zero_add]] at e
        exact e
      · refine q_step 4 106 [(0, .ref 28), (1, .ref 35), (2, .int (Int32.ofNat p)), (3, .int (Int32.ofNat q))] [.int (Int32.ofNat q), .int (Int32.ofNat p), .ref 35, .ref 28] (s_acc (s_W1 (g 35 0) (g 36) n g) A B) u (fun _ _ => rfl) ?_
        have hb : q_BS 61 [.ref 28, .ref 35, .int (Int32.ofNat p), .int (Int32.ofNat q)] (s_acc (s_W1 (g 35 0) (g 36) n g) A B) u (none, s_acc (s_W1 (g 35 0) (g 36) n g) (fun j => A j + s_K (s_pe (g 35 0) (g 36) (g 37) (g 40)) p q j) (fun j => B j + s_K (s_ps (g 35 0) (g 36) (g 37) (g 40)) p q j), u) := by
          have e1 : ∀ j, j < n → (s_acc (s_W1 (g 35 0) (g 36) n g) A B) 29 j = s_col (g 35 0) ((g 36) j) := fun j hj => if_pos hj
          have e2 : ∀ j, j < n → (s_acc (s_W1 (g 35 0) (g 36) n g) A B) 30 j = s_row (g 35 0) ((g 36) j) := fun j hj => if_pos hj
          have h := b_wp35 (p := p) (q := q) (s_acc (s_W1 (g 35 0) (g 36) n g) A B) u (by omega) (by omega) (by omega) (by rw [e1 p (by omega), e1 q (by omega), e2 p (by omega), e2 q (by omega)]; exact hf p q (by omega) (by omega))
          rw [show s_wpm ((s_acc (s_W1 (g 35 0) (g 36) n g) A B) 37) ((s_acc (s_W1 (g 35 0) (g 36) n g) A B) 40) (s_acc (s_W1 (g 35 0) (g 36) n g) A B) p q = _ from s_wp_acc (mo := (g 37)) (pl := (g 40)) (by omega) (by omega) hc1 hc2] at h
          exact h
        refine q_call (M2 := 61) (rest := []) (hb) (fun _ _ => rfl) ?_
        refine q_step 2 76 [(0, .ref 28), (1, .ref 35), (2, .int (Int32.ofNat p)), (3, .int ((Int32.ofNat q) + (1 : Int32)))] [] (s_acc (s_W1 (g 35 0) (g 36) n g) (fun j => A j + s_K (s_pe (g 35 0) (g 36) (g 37) (g 40)) p q j) (fun j => B j + s_K (s_ps (g 35 0) (g 36) (g 37) (g 40)) p q j)) u (fun _ _ => rfl) ?_
        rw [q_succ]
        refine ih (q + 1) _ _ (by omega) (by omega) (fun x => ?_)
        have e := hE x
        simp only [s_sf, ← Int32.add_assoc] at e
        exact e
theorem w2_35 (g : qM) (u : qW) {Q : Option Value × qM × qW → Prop} {n : Nat} (hn : g 35 3 = Int32.ofNat n) (h6 : n ≤ 6) (hf : ∀ p q, p < n → q < n → 0 ≤ (s_far (g 35 0) ((g 36) p) ((g 36) q)).toInt) : ∀ k p x (A B : Nat → Int32), p + k = n → (∀ x, q_EV m_58 123 [(0, .ref 28), (1, .ref 35), (2, .int (0 : Int32)), (3, .int x)] [] (s_acc (s_W1 (g 35 0) (g 36) n g) (fun j => A j + s_sf (fun p => s_sf (fun q => s_K (s_pe (g 35 0) (g 36) (g 37) (g 40)) p q j) (n - 1 - p) (p + 1)) k p) (fun j => B j + s_sf (fun p => s_sf (fun q => s_K (s_ps (g 35 0) (g 36) (g 37) (g 40)) p q j) (n - 1 - p) (p + 1)) k p)) u Q) → q_EV m_58 64 [(0, .ref 28), (1, .ref 35), (2, .int (Int32.ofNat p)), (3, .int x)] [] (s_acc (s_W1 (g 35 0) (g 36) n g) A B) u Q := by
  intro k
  induction k with
  | zero =>
    intro p x A B hp hE
    refine q_step 3 69 [(0, .ref 28), (1, .ref 35), (2, .int (Int32.ofNat p)), (3, .int x)] [.int (g 35 3), .int (Int32.ofNat p)] (s_acc (s_W1 (g 35 0) (g 36) n g) A B) u (fun _ _ => rfl) ?_
    refine q_ic_ge rfl (fun (hc0 : (g 35 3) ≤ (Int32.ofNat p)) => ?_) (fun hc0 => absurd (show (g 35 3) ≤ (Int32.ofNat p) from by rw [hn, q_le (by omega) (by omega)]; omega) hc0)
    refine q_step 2 123 [(0, .ref 28), (1, .ref 35), (2, .int (0 : Int32)), (3, .int x)] [] (s_acc (s_W1 (g 35 0) (g 36) n g) A B) u (fun _ _ => rfl) ?_
    have e := hE x
    simp only [s_sf, Int32.add_zero] at e
    exact e
  | succ k ih =>
    intro p x A B hp hE
    refine q_step 3 69 [(0, .ref 28), (1, .ref 35), (2, .int (Int32.ofNat p)), (3, .int x)] [.int (g 35 3), .int (Int32.ofNat p)] (s_acc (s_W1 (g 35 0) (g 36) n g) A B) u (fun _ _ => rfl) ?_
    refine q_ic_ge rfl (fun hc0 => absurd (show (g 35 3) ≤ (Int32.ofNat p) from hc0) (fun z => by rw [hn, q_le (by omega) (by omega)] at z; omega)) (fun (hc0 : ¬ ((g 35 3) ≤ (Int32.ofNat p))) => ?_)
    refine q_step 4 76 [(0, .ref 28), (1, .ref 35), (2, .int (Int32.ofNat p)), (3, .int ((Int32.ofNat p) + (1 : Int32)))] [] (s_acc (s_W1 (g 35 0) (g 36) n g) A B) u (fun _ _ => rfl) ?_
    rw [q_succ]
    refine w3_35 g u hn h6 hf (p := p) (by omega) (n - 1 - p) (p + 1) A B (by omega) (by omega) (fun x => ?_)
    refine q_step 2 64 [(0, .ref 28), (1, .ref 35), (2, .int ((Int32.ofNat p) + (1 : Int32))), (3, .int x)] [] (s_acc (s_W1 (g 35 0) (g 36) n g) (fun j => A j + s_sf (fun q => s_K (s_pe (g 35 0) (g 36) (g 37) (g 40)) p q j) (n - 1 - p) (p + 1)) (fun j => B j + s_sf (fun q => s_K (s_ps (g 35 0) (g 36) (g 37) (g 40)) p q j) (n - 1 - p) (p + 1))) u (fun _ _ => rfl) ?_
    rw [q_succ]
    refine ih (p + 1) x _ _ (by omega) (fun x => ?_)
    have e := hE x
    simp only [s_sf, ← Int32.add_assoc] at e
    exact e
theorem w4a_35 (H : qM) (u : qW) {n : Nat} (hn : H 35 3 = Int32.ofNat n) (h6 : n ≤ 6) : ∀ k i, i + k = n → q_EV m_58 123 [(0, .ref 28), (1, .ref 35), (2, .int (Int32.ofNat i))] [] (s_W4 (s_wf (H 38) H) i H) u (fun R => R = (none, s_W4 (s_wf (H 38) H) n H, u)) := by
  intro k
  induction k with
  | zero =>
    intro i hi
    refine q_step 3 128 [(0, .ref 28), (1, .ref 35), (2, .int (Int32.ofNat i))] [.int (H 35 3), .int (Int32.ofNat i)] (s_W4 (s_wf (H 38) H) i H) u (fun _ _ => rfl) ?_
    refine q_ic_ge rfl (fun (hc0 : (H 35 3) ≤ (Int32.ofNat i)) => ?_) (fun hc0 => absurd (show (H 35 3) ≤ (Int32.ofNat i) from by rw [hn, q_le (by omega) (by omega)]; omega) hc0)
    refine q_ret 1 (none, (s_W4 (s_wf (H 38) H) i H), u) (fun _ _ => rfl) ?_
    have e : i = n := by omega
    subst e
    rfl
  | succ k ih =>
    intro i hi
    refine q_step 3 128 [(0, .ref 28), (1, .ref 35), (2, .int (Int32.ofNat i))] [.int (H 35 3), .int (Int32.ofNat i)] (s_W4 (s_wf (H 38) H) i H) u (fun _ _ => rfl) ?_
    refine q_ic_ge rfl (fun hc0 => absurd (show (H 35 3) ≤ (Int32.ofNat i) from hc0) (fun z => by rw [hn, q_le (by omega) (by omega)] at z; omega)) (fun (hc0 : ¬ ((H 35 3) ≤ (Int32.ofNat i))) => ?_)
    refine q_step 6 141 [(0, .ref 28), (1, .ref 35), (2, .int (Int32.ofNat i))] [.int (Int32.ofNat i), .ref 38, .int (Int32.ofNat i), .ref 33] (s_W4 (s_wf (H 38) H) i H) u (fun _ _ => rfl) ?_
    refine q_iald (j := i) (q_ixn (by omega) (by omega)) rfl rfl ?_
    refine q_if_eq rfl (fun (hc1 : (H 38 i) = 0) => ?_) (fun (hc1 : ¬ ((H 38 i) = 0)) => ?_)
    · refine q_step 3 154 [(0, .ref 28), (1, .ref 35), (2, .int (Int32.ofNat i))] [.int (Int32.ofNat i), .ref 31, .int (Int32.ofNat i), .ref 33] (s_W4 (s_wf (H 38) H) i H) u (fun _ _ => rfl) ?_
      refine q_iald (j := i) (q_ixn (by omega) (by omega)) rfl rfl ?_
      refine q_step 3 160 [(0, .ref 28), (1, .ref 35), (2, .int (Int32.ofNat i))] [.int (Int32.ofNat i), .ref 32, .int (H 31 i), .int (Int32.ofNat i), .ref 33] (s_W4 (s_wf (H 38) H) i H) u (fun _ _ => rfl) ?_
      refine q_iald (j := i) (q_ixn (by omega) (by omega)) rfl rfl ?_
      refine q_call (M2 := 64) (rest := [.int (Int32.ofNat i), .ref 33]) (b_wayBy _ _ _ _) (fun _ _ => rfl) ?_
      refine q_iast (j := i) (q_ixn (by omega) (by omega)) rfl rfl ?_
      refine q_step 2 123 [(0, .ref 28), (1, .ref 35), (2, .int ((Int32.ofNat i) + (1 : Int32)))] [] (q_up (s_W4 (s_wf (H 38) H) i H) 33 i (s_way (H 31 i) (H 32 i))) u (fun _ _ => rfl) ?_
      rw [q_succ, show (s_way (H 31 i) (H 32 i)) = (s_wf (H 38) H) i from (if_pos hc1).symm, s_W4_s]
      exact ih (i + 1) (by omega)
    · refine q_step 2 164 [(0, .ref 28), (1, .ref 35), (2, .int (Int32.ofNat i))] [.int (4 : Int32), .int (Int32.ofNat i), .ref 33] (s_W4 (s_wf (H 38) H) i H) u (fun _ _ => rfl) ?_
      refine q_iast (j := i) (q_ixn (by omega) (by omega)) rfl rfl ?_
      refine q_step 2 123 [(0, .ref 28), (1, .ref 35), (2, .int ((Int32.ofNat i) + (1 : Int32)))] [] (q_up (s_W4 (s_wf (H 38) H) i H) 33 i (4 : Int32)) u (fun _ _ => rfl) ?_
      rw [q_succ, show (4 : Int32) = (s_wf (H 38) H) i from (if_neg hc1).symm, s_W4_s]
      exact ih (i + 1) (by omega)
theorem w4b_35 (H : qM) (u : qW) {n : Nat} (hn : H 35 3 = Int32.ofNat n) (h6 : n ≤ 6) (x : Int32) : ∀ k i, i + k = n → q_EV m_58 123 [(0, .ref 28), (1, .ref 35), (2, .int (Int32.ofNat i)), (3, .int x)] [] (s_W4 (s_wf (H 38) H) i H) u (fun R => R = (none, s_W4 (s_wf (H 38) H) n H, u)) := by
  intro k
  induction k with
  | zero =>
    intro i hi
    refine q_step 3 128 [(0, .ref 28), (1, .ref 35), (2, .int (Int32.ofNat i)), (3, .int x)] [.int (H 35 3), .int (Int32.ofNat i)] (s_W4 (s_wf (H 38) H) i H) u (fun _ _ => rfl) ?_
    refine q_ic_ge rfl (fun (hc0 : (H 35 3) ≤ (Int32.ofNat i)) => ?_) (fun hc0 => absurd (show (H 35 3) ≤ (Int32.ofNat i) from by rw [hn, q_le (by omega) (by omega)]; omega) hc0)
    refine q_ret 1 (none, (s_W4 (s_wf (H 38) H) i H), u) (fun _ _ => rfl) ?_
    have e : i = n := by omega
    subst e
    rfl
  | succ k ih =>
    intro i hi
    refine q_step 3 128 [(0, .ref 28), (1, .ref 35), (2, .int (Int32.ofNat i)), (3, .int x)] [.int (H 35 3), .int (Int32.ofNat i)] (s_W4 (s_wf (H 38) H) i H) u (fun _ _ => rfl) ?_
    refine q_ic_ge rfl (fun hc0 => absurd (show (H 35 3) ≤ (Int32.ofNat i) from hc0) (fun z => by rw [hn, q_le (by omega) (by omega)] at z; omega)) (fun (hc0 : ¬ ((H 35 3) ≤ (Int32.ofNat i))) => ?_)
    refine q_step 6 141 [(0, .ref 28), (1, .ref 35), (2, .int (Int32.ofNat i)), (3, .int x)] [.int (Int32.ofNat i), .ref 38, .int (Int32.ofNat i), .ref 33] (s_W4 (s_wf (H 38) H) i H) u (fun _ _ => rfl) ?_
    refine q_iald (j := i) (q_ixn (by omega) (by omega)) rfl rfl ?_
    refine q_if_eq rfl (fun (hc1 : (H 38 i) = 0) => ?_) (fun (hc1 : ¬ ((H 38 i) = 0)) => ?_)
    · refine q_step 3 154 [(0, .ref 28), (1, .ref 35), (2, .int (Int32.ofNat i)), (3, .int x)] [.int (Int32.ofNat i), .ref 31, .int (Int32.ofNat i), .ref 33] (s_W4 (s_wf (H 38) H) i H) u (fun _ _ => rfl) ?_
      refine q_iald (j := i) (q_ixn (by omega) (by omega)) rfl rfl ?_
      refine q_step 3 160 [(0, .ref 28), (1, .ref 35), (2, .int (Int32.ofNat i)), (3, .int x)] [.int (Int32.ofNat i), .ref 32, .int (H 31 i), .int (Int32.ofNat i), .ref 33] (s_W4 (s_wf (H 38) H) i H) u (fun _ _ => rfl) ?_
      refine q_iald (j := i) (q_ixn (by omega) (by omega)) rfl rfl ?_
      refine q_call (M2 := 64) (rest := [.int (Int32.ofNat i), .ref 33]) (b_wayBy _ _ _ _) (fun _ _ => rfl) ?_
      refine q_iast (j := i) (q_ixn (by omega) (by omega)) rfl rfl ?_
      refine q_step 2 123 [(0, .ref 28), (1, .ref 35), (2, .int ((Int32.ofNat i) + (1 : Int32))), (3, .int x)] [] (q_up (s_W4 (s_wf (H 38) H) i H) 33 i (s_way (H 31 i) (H 32 i))) u (fun _ _ => rfl) ?_
      rw [q_succ, show (s_way (H 31 i) (H 32 i)) = (s_wf (H 38) H) i from (if_pos hc1).symm, s_W4_s]
      exact ih (i + 1) (by omega)
    · refine q_step 2 164 [(0, .ref 28), (1, .ref 35), (2, .int (Int32.ofNat i)), (3, .int x)] [.int (4 : Int32), .int (Int32.ofNat i), .ref 33] (s_W4 (s_wf (H 38) H) i H) u (fun _ _ => rfl) ?_
      refine q_iast (j := i) (q_ixn (by omega) (by omega)) rfl rfl ?_
      refine q_step 2 123 [(0, .ref 28), (1, .ref 35), (2, .int ((Int32.ofNat i) + (1 : Int32))), (3, .int x)] [] (q_up (s_W4 (s_wf (H 38) H) i H) 33 i (4 : Int32)) u (fun _ _ => rfl) ?_
      rw [q_succ, show (4 : Int32) = (s_wf (H 38) H) i from (if_neg hc1).symm, s_W4_s]
      exact ih (i + 1) (by omega)
theorem b_weigh35 (g : qM) (u : qW) {n : Nat} (hn : g 35 3 = Int32.ofNat n) (h6 : n ≤ 6) (hw : ¬ g 35 0 ≤ 0) (hf : ∀ p q, p < n → q < n → 0 ≤ (s_far (g 35 0) ((g 36) p) ((g 36) q)).toInt) : q_BS 58 [.ref 28, .ref 35] g u (none, s_weigh (g 35 0) (g 36) (g 37) (g 38) (g 40) n g, u) := by
  refine q_bx (mm := m_58) rfl (Nat.le_of_ble_eq_true rfl) rfl ?_
  refine q_step 2 2 [(0, .ref 28), (1, .ref 35), (2, .int (0 : Int32))] [] g u (fun _ _ => rfl) ?_
  suffices hE : q_EV m_58 64 [(0, .ref 28), (1, .ref 35), (2, .int (0 : Int32))] [] (s_W1 (g 35 0) (g 36) n g) u (fun R' => R' = (none, s_weigh (g 35 0) (g 36) (g 37) (g 38) (g 40) n g, u)) by
    have key := w1_35 g u hn h6 hw n 0 (by omega) hE
    rw [s_W1_0] at key
    exact key
  by_cases h0 : n = 0
  · refine q_step 3 69 [(0, .ref 28), (1, .ref 35), (2, .int (0 : Int32))] [.int (g 35 3), .int (0 : Int32)] (s_W1 (g 35 0) (g 36) n g) u (fun _ _ => rfl) ?_
    refine q_ic_ge rfl (fun (hc0 : (g 35 3) ≤ (0 : Int32)) => ?_) (fun hc0 => absurd (show (g 35 3) ≤ (0 : Int32) from by rw [hn, h0]; decide) hc0)
    refine q_step 2 123 [(0, .ref 28), (1, .ref 35), (2, .int (0 : Int32))] [] (s_W1 (g 35 0) (g 36) n g) u (fun _ _ => rfl) ?_
    have e := w4a_35 (s_H (g 35 0) (g 36) (g 37) (g 40) n g) u hn h6 n 0 (by omega)
    rw [s_W4_0] at e
    subst h0
    have e2 : s_H (g 35 0) (g 36) (g 37) (g 40) 0 g = s_W1 (g 35 0) (g 36) 0 g := s_acc_0 _
    rw [← e2]
    exact e
  · refine q_step 3 69 [(0, .ref 28), (1, .ref 35), (2, .int (0 : Int32))] [.int (g 35 3), .int (0 : Int32)] (s_W1 (g 35 0) (g 36) n g) u (fun _ _ => rfl) ?_
    refine q_ic_ge rfl (fun hc0 => absurd (show (g 35 3) ≤ (0 : Int32) from hc0) (fun z => by rw [hn] at z; have z2 := (q_le (i := n) (j := 0) (by omega) (by omega)).mp z; omega)) (fun (hc0 : ¬ ((g 35 3) ≤ (0 : Int32))) => ?_)
    refine q_step 4 76 [(0, .ref 28), (1, .ref 35), (2, .int (0 : Int32)), (3, .int (1 : Int32))] [] (s_W1 (g 35 0) (g 36) n g) u (fun _ _ => rfl) ?_
    rw [← s_acc_0 (s_W1 (g 35 0) (g 36) n g)]
    refine w3_35 g u hn h6 hf (p := 0) (by omega) (n - 1 - 0) (0 + 1) (fun _ => 0) (fun _ => 0) (by omega) (by omega) (fun x => ?_)
    refine q_step 2 64 [(0, .ref 28), (1, .ref 35), (2, .int (1 : Int32)), (3, .int x)] [] (s_acc (s_W1 (g 35 0) (g 36) n g) (fun j => 0 + s_sf (fun q => s_K (s_pe (g 35 0) (g 36) (g 37) (g 40)) 0 q j) (n - 1 - 0) (0 + 1)) (fun j => 0 + s_sf (fun q => s_K (s_ps (g 35 0) (g 36) (g 37) (g 40)) 0 q j) (n - 1 - 0) (0 + 1))) u (fun _ _ => rfl) ?_
    refine w2_35 g u hn h6 hf (n - 1) 1 x _ _ (by omega) (fun x => ?_)
    have e := w4b_35 (s_H (g 35 0) (g 36) (g 37) (g 40) n g) u hn h6 x n 0 (by omega)
    rw [s_W4_0] at e
    obtain ⟨m, rfl⟩ : ∃ m, n = m + 1 := ⟨n - 1, by omega⟩
    simp only [Int32.zero_add]
    exact e
