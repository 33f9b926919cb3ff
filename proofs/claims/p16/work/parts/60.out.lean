/-! OUT and CALM. -/
theorem s_or00 (a : Int32) : a ||| (0 : Int32) = a := by
  apply Int32.toBitVec_inj.mp
  simp
theorem s_wl_w1 {c : Nat → Int32} {x : Int32} : ∀ k i f, i + k ≤ 6 → (∀ p q, i ≤ p → p < i + k → i ≤ q → q < i + k → p ≠ q → c p ≠ c q) → s_wl c x k i f = if s_w1 c x k i = i_none then f else s_w1 c x k i
  | 0, _, _, _, _ => by
    rw [s_wl, s_w1, if_pos rfl]
  | k + 1, i, f, h6, hd => by
    have ih := s_wl_w1 (c := c) (x := x) k (i + 1) (if c i = x then Int32.ofNat i else f) (by omega) (fun p q a b d e => hd p q (by omega) (by omega) (by omega) (by omega))
    rw [s_wl, s_w1, ih]
    by_cases hx : c i = x
    · rw [if_pos hx, if_pos hx, if_neg (s_none_ne (by omega))]
      have hn : ∀ k j, i + 1 ≤ j → j + k = i + 1 + k + (j - (i + 1)) → (∀ q, j ≤ q → q < j + k → c q ≠ x) → s_w1 c x k j = i_none := by
        intro k
        induction k with
        | zero => intro j _ _ _; rfl
        | succ k ihk =>
          intro j h1 h2 h3
          rw [s_w1, if_neg (h3 j (Nat.le_refl _) (by omega))]
          exact ihk (j + 1) (by omega) (by omega) (fun q a b => h3 q (by omega) (by omega))
      rw [hn k (i + 1) (Nat.le_refl _) (by omega) (fun q a b z => hd q i (by omega) (by omega) (Nat.le_refl _) (by omega) (by omega) (z.trans hx.symm)), if_pos rfl]
    · rw [if_neg hx, if_neg hx]
theorem s_w1_some {c : Nat → Int32} {x : Int32} : ∀ k i, i + k ≤ 6 → (s_w1 c x k i = i_none ∧ ∀ q, i ≤ q → q < i + k → c q ≠ x) ∨ ∃ q, i ≤ q ∧ q < i + k ∧ c q = x ∧ s_w1 c x k i = Int32.ofNat q
  | 0, i, _ => Or.inl ⟨rfl, fun q h1 h2 => by omega⟩
  | k + 1, i, h => by
    rw [s_w1]
    by_cases hx : c i = x
    · rw [if_pos hx]
      exact Or.inr ⟨i, Nat.le_refl _, by omega, hx, rfl⟩
    · rw [if_neg hx]
      rcases s_w1_some (c := c) (x := x) k (i + 1) (by omega) with ⟨h1, h2⟩ | ⟨q, h1, h2, h3, h4⟩
      · refine Or.inl ⟨h1, fun q a b => ?_⟩
        by_cases e : q = i
        · rw [e]
          exact hx
        · exact h2 q (by omega) (by omega)
      · exact Or.inr ⟨q, by omega, by omega, h3, h4⟩
theorem s_w1_cg {c c' : Nat → Int32} {x : Int32} : ∀ k i, (∀ j, i ≤ j → j < i + k → c j = c' j) → s_w1 c x k i = s_w1 c' x k i
  | 0, _, _ => rfl
  | k + 1, i, h => by
    rw [s_w1, s_w1, h i (Nat.le_refl _) (by omega), s_w1_cg k (i + 1) (fun j a b => h j (by omega) (by omega))]
/-- who is in a CELL, as r has it -/
def f_who (n : Nat) (r : qM) (x : Int32) : Int32 := s_w1 (r 75) x n 0
theorem w_who_r {n W H : Nat} {g r : qM} (h : w_ok n W H r) (hs : w_sm n g r) (x : Int32) : s_wl (g 75) x n 0 i_none = f_who n r x := by
  rw [s_wl_cg (c' := r 75) n 0 _ (fun j _ hj => (hs.2.2 j (by omega)).1), s_wl_w1 n 0 _ (by have := h.1.2.2.2.2; omega) (fun p q _ a _ b => h.2.2.2.2.2.1 p q (by omega) (by omega))]
  unfold f_who
  split
  · rename_i e
    exact e.symm
  · rfl
theorem w_who_c {n : Nat} {T : Nat} {g r : qM} (hc : w_cs T n g r) (x : Int32) : s_w1 (g (T + 1)) x n 0 = f_who n r x := s_w1_cg n 0 (fun j _ hj => (hc.2.2 j (by omega)).1)
/-! what a search keeps of its trial -/
def w_tr (n : Nat) (g r : qM) : Prop := (g 35 3 = r 70 27 ∧ g 35 0 = r 70 2 ∧ g 35 1 = r 70 3 ∧ g 35 2 = r 71 20 ∧ g 35 4 = r 71 25) ∧ (∀ d, 1 ≤ d → d ≤ 4 → g 40 d = r 71 (20 + d)) ∧ ∀ p, p < n → g 38 p = r 77 p
theorem w_cs_tr {n : Nat} {g r : qM} (h : w_cs 35 n g r) : w_tr n g r := ⟨h.1, h.2.1, fun p hp => (h.2.2 p hp).2.2⟩
theorem w_cpl {n : Nat} {g r : qM} (h6 : n ≤ 6) (hc : w_cs 20 n g r) (ht : w_tr n g r) : w_cs 35 n (s_cpl 35 20 g) r := by
  obtain ⟨⟨t1, t2, t3, t4, t5⟩, t6, t7⟩ := ht
  have e35 : s_cpl 35 20 g 35 = g 35 := s_cpl_o (by omega)
  have e38 : s_cpl 35 20 g 38 = g 38 := s_cpl_o (by omega)
  have e40 : s_cpl 35 20 g 40 = g 40 := s_cpl_o (by omega)
  refine ⟨⟨?_, ?_, ?_, ?_, ?_⟩, fun d a b => ?_, fun p hp => ⟨?_, ?_, ?_⟩⟩
  · rw [e35]; exact t1
  · rw [e35]; exact t2
  · rw [e35]; exact t3
  · rw [e35]; exact t4
  · rw [e35]; exact t5
  · show s_cpl 35 20 g 40 d = _
    rw [e40]; exact t6 d a b
  · exact (s_cpl_1 (a := 35) (b := 20) (j := p) (by omega)).trans (hc.2.2 p hp).1
  · exact (s_cpl_2 (a := 35) (b := 20) (j := p) (by omega) (by omega)).trans (hc.2.2 p hp).2.1
  · show s_cpl 35 20 g 38 p = _
    rw [e38]; exact t7 p hp
theorem s_step_f {n : Nat} {g : qM} {j : Nat} (h : j ≠ 5) : s_step 35 n g 35 j = g 35 j := by
  unfold s_step
  rw [q_up_at, if_neg h]
  rfl
theorem w_tr_cg {n : Nat} {g g' r : qM} (h : w_tr n g r) (h1 : ∀ j, j ≠ 5 → g' 35 j = g 35 j) (h2 : g' 38 = g 38) (h3 : g' 40 = g 40) : w_tr n g' r := by
  obtain ⟨⟨t1, t2, t3, t4, t5⟩, t6, t7⟩ := h
  refine ⟨⟨?_, ?_, ?_, ?_, ?_⟩, fun d a b => ?_, fun p hp => ?_⟩
  · rw [h1 3 (by omega)]; exact t1
  · rw [h1 0 (by omega)]; exact t2
  · rw [h1 1 (by omega)]; exact t3
  · rw [h1 2 (by omega)]; exact t4
  · rw [h1 4 (by omega)]; exact t5
  · rw [h3]; exact t6 d a b
  · rw [h2]; exact t7 p hp
theorem w_tr_step {n m : Nat} {g r : qM} (h : w_tr n g r) : w_tr n (s_step 35 m g) r := w_tr_cg h (fun j hj => s_step_f hj) (s_step_g (by omega) (by omega)) (s_step_g (by omega) (by omega))
theorem w_tr_tss {n m : Nat} {r : qM} : ∀ k g, w_tr n g r → w_tr n (s_tss 35 m k g) r
  | 0, _, h => h
  | k + 1, g, h => by
    unfold s_tss
    split
    · exact w_tr_step h
    · exact w_tr_tss k _ (w_tr_step h)
theorem w_tr_cpl {n : Nat} {g r : qM} (h : w_tr n g r) : w_tr n (s_cpl 35 20 g) r := w_tr_cg h (fun j _ => by rw [s_cpl_o (by omega)]) (s_cpl_o (by omega)) (s_cpl_o (by omega))
theorem w_cs_fc {n : Nat} {g g' r : qM} (hf : w_fc g g') (h : w_cs 20 n g r) : w_cs 20 n g' r := by
  have e : ∀ b, b < 28 → g' b = g b := fun b hb => hf b (Or.inl hb)
  obtain ⟨⟨t1, t2, t3, t4, t5⟩, t6, t7⟩ := h
  refine ⟨⟨?_, ?_, ?_, ?_, ?_⟩, fun d a b => ?_, fun p hp => ⟨?_, ?_, ?_⟩⟩
  · rw [e 20 (by omega)]; exact t1
  · rw [e 20 (by omega)]; exact t2
  · rw [e 20 (by omega)]; exact t3
  · rw [e 20 (by omega)]; exact t4
  · rw [e 20 (by omega)]; exact t5
  · show g' 25 d = _
    rw [e 25 (by omega)]; exact t6 d a b
  · show g' 21 p = _
    rw [e 21 (by omega)]; exact (t7 p hp).1
  · show g' 22 p = _
    rw [e 22 (by omega)]; exact (t7 p hp).2.1
  · show g' 23 p = _
    rw [e 23 (by omega)]; exact (t7 p hp).2.2
/-! one taken out -/
def s_pi (p m j : Nat) : Nat := if p ≤ j ∧ j < m then j + 1 else j
def s_sh (p m : Nat) (f : Nat → Int32) (j : Nat) : Int32 := f (s_pi p m j)
def s_drp (p i : Nat) (g : qM) : qM := fun a j => if a = 36 then s_sh p i (g 36) j else if a = 37 then s_sh p i (g 37) j else if a = 38 then s_sh p i (g 38) j else if a = 39 then s_sh p i (g 39) j else g a j
def s_rdr (p i : Nat) (g : qM) : qM := fun a j => if a = 75 then s_sh p i (g 75) j else if a = 76 then s_sh p i (g 76) j else if a = 77 then s_sh p i (g 77) j else g a j
theorem s_sh_0 {p : Nat} {f : Nat → Int32} {j : Nat} : s_sh p p f j = f j := by
  unfold s_sh s_pi
  rw [if_neg (by omega)]
theorem s_sh_r {p i : Nat} {f : Nat → Int32} : s_sh p i f (i + 1) = f (i + 1) := by
  unfold s_sh s_pi
  rw [if_neg (by omega)]
theorem s_sh_s {p i j : Nat} {f : Nat → Int32} (hp : p ≤ i) : (if j = i then f (i + 1) else s_sh p i f j) = s_sh p (i + 1) f j := by
  unfold s_sh s_pi
  by_cases e : j = i
  · subst e
    rw [if_pos rfl, if_pos (by omega)]
  · rw [if_neg e]
    by_cases c : p ≤ j ∧ j < i
    · rw [if_pos c, if_pos (by omega)]
    · rw [if_neg c, if_neg (by omega)]
theorem s_drp_0 {p : Nat} {g : qM} : s_drp p p g = g := by
  funext a j
  unfold s_drp
  simp only [s_sh_0]
  by_cases h1 : a = 36
  · rw [if_pos h1, h1]
  · by_cases h2 : a = 37
    · rw [if_neg h1, if_pos h2, h2]
    · by_cases h3 : a = 38
      · rw [if_neg h1, if_neg h2, if_pos h3, h3]
      · by_cases h4 : a = 39
        · rw [if_neg h1, if_neg h2, if_neg h3, if_pos h4, h4]
        · rw [if_neg h1, if_neg h2, if_neg h3, if_neg h4]
theorem s_rdr_0 {p : Nat} {g : qM} : s_rdr p p g = g := by
  funext a j
  unfold s_rdr
  simp only [s_sh_0]
  by_cases h1 : a = 75
  · rw [if_pos h1, h1]
  · by_cases h2 : a = 76
    · rw [if_neg h1, if_pos h2, h2]
    · by_cases h3 : a = 77
      · rw [if_neg h1, if_neg h2, if_pos h3, h3]
      · rw [if_neg h1, if_neg h2, if_neg h3]
theorem s_drp_s {p i : Nat} {g : qM} (hp : p ≤ i) : q_up (q_up (q_up (q_up (s_drp p i g) 36 i ((s_drp p i g) 36 (i + 1))) 37 i ((s_drp p i g) 37 (i + 1))) 38 i ((s_drp p i g) 38 (i + 1))) 39 i ((s_drp p i g) 39 (i + 1)) = s_drp p (i + 1) g := by
  rw [show (s_drp p i g) 36 (i + 1) = g 36 (i + 1) from s_sh_r, show (s_drp p i g) 37 (i + 1) = g 37 (i + 1) from s_sh_r, show (s_drp p i g) 38 (i + 1) = g 38 (i + 1) from s_sh_r, show (s_drp p i g) 39 (i + 1) = g 39 (i + 1) from s_sh_r]
  funext a j
  simp only [q_up_eq]
  by_cases h4 : a = 39
  · subst h4
    simp only [true_and, show ¬ (39 : Nat) = 38 by omega, show ¬ (39 : Nat) = 37 by omega, show ¬ (39 : Nat) = 36 by omega, false_and, if_false]
    exact s_sh_s hp
  · by_cases h3 : a = 38
    · subst h3
      simp only [true_and, h4, show ¬ (38 : Nat) = 37 by omega, show ¬ (38 : Nat) = 36 by omega, false_and, if_false]
      exact s_sh_s hp
    · by_cases h2 : a = 37
      · subst h2
        simp only [true_and, h3, h4, show ¬ (37 : Nat) = 36 by omega, false_and, if_false]
        exact s_sh_s hp
      · by_cases h1 : a = 36
        · subst h1
          simp only [true_and, h2, h3, h4, false_and, if_false]
          exact s_sh_s hp
        · unfold s_drp
          simp only [h1, h2, h3, h4, false_and, if_false]
theorem s_rdr_s {p i : Nat} {g : qM} (hp : p ≤ i) : q_up (q_up (q_up (s_rdr p i g) 75 i ((s_rdr p i g) 75 (i + 1))) 76 i ((s_rdr p i g) 76 (i + 1))) 77 i ((s_rdr p i g) 77 (i + 1)) = s_rdr p (i + 1) g := by
  rw [show (s_rdr p i g) 75 (i + 1) = g 75 (i + 1) from s_sh_r, show (s_rdr p i g) 76 (i + 1) = g 76 (i + 1) from s_sh_r, show (s_rdr p i g) 77 (i + 1) = g 77 (i + 1) from s_sh_r]
  funext a j
  simp only [q_up_eq]
  by_cases h3 : a = 77
  · subst h3
    simp only [true_and, show ¬ (77 : Nat) = 76 by omega, show ¬ (77 : Nat) = 75 by omega, false_and, if_false]
    exact s_sh_s hp
  · by_cases h2 : a = 76
    · subst h2
      simp only [true_and, h3, show ¬ (76 : Nat) = 75 by omega, false_and, if_false]
      exact s_sh_s hp
    · by_cases h1 : a = 75
      · subst h1
        simp only [true_and, h2, h3, false_and, if_false]
        exact s_sh_s hp
      · unfold s_rdr
        simp only [h1, h2, h3, false_and, if_false]
def gh_out (n p : Nat) (r : qM) : qM := fun a j => if a = 75 then s_sh p (n - 1) (r 75) j else if a = 76 then s_sh p (n - 1) (r 76) j else if a = 77 then s_sh p (n - 1) (r 77) j else if a = 70 then (if j = 27 then Int32.ofNat (n - 1) else r 70 j) else r a j
theorem s_pi_lt {n p j : Nat} (hj : j < n - 1) : s_pi p (n - 1) j < n := by
  unfold s_pi
  split <;> omega
theorem s_pi_ne {n p i j : Nat} (hi : i < n - 1) (hj : j < n - 1) (h : i ≠ j) : s_pi p (n - 1) i ≠ s_pi p (n - 1) j := by
  unfold s_pi
  split <;> split <;> omega
theorem w_ok_out {n W H p : Nat} {r : qM} (h : w_ok n W H r) : w_ok (n - 1) W H (gh_out n p r) := by
  obtain ⟨⟨b1, b2, b3, b4, b5⟩, h1, h2, h3, h4, h5, h6, h7, h8⟩ := h
  exact ⟨⟨b1, b2, b3, b4, by omega⟩, rfl, h2, h3, fun q hq => h4 _ (s_pi_lt hq), fun q q' hq hq' hne => h5 _ _ (s_pi_lt hq) (s_pi_lt hq') (s_pi_ne hq hq' hne), fun q hq => h6 _ (s_pi_lt hq), fun q hq => h7 _ (s_pi_lt hq), fun q hq => h8 _ (s_pi_lt hq)⟩
theorem w_cs_out {n W H p : Nat} {g r : qM} (hn : 1 ≤ n) (h : w_ok n W H r) (hc : w_cs 35 n g r) : w_cs 35 (n - 1) (q_up (s_drp p (n - 1) g) 35 3 (g 35 3 - 1)) (gh_out n p r) := by
  obtain ⟨⟨c1, c2, c3, c4, c5⟩, c6, c7⟩ := hc
  refine ⟨⟨?_, c2, c3, c4, c5⟩, fun d a b => c6 d a b, fun q hq => ⟨(c7 _ (s_pi_lt hq)).1, (c7 _ (s_pi_lt hq)).2.1, (c7 _ (s_pi_lt hq)).2.2⟩⟩
  show g 35 3 - 1 = Int32.ofNat (n - 1)
  rw [c1, h.2.1]
  exact q_sb (a := n) (b := 1) (by have := h.1.2.2.2.2; omega) hn
theorem w_sm_out {n W H p : Nat} {g r : qM} (hn : 1 ≤ n) (h : w_ok n W H r) (hs : w_sm n g r) (h4 : g 70 4 = Int32.ofNat n) : w_sm (n - 1) (q_up (s_rdr p (n - 1) g) 70 27 (g 70 4 - 1)) (gh_out n p r) := by
  obtain ⟨⟨c1, c2, c3, c4, c5⟩, c6, c7⟩ := hs
  refine ⟨⟨?_, c2, c3, c4, c5⟩, fun d a b => c6 d a b, fun q hq => ⟨(c7 _ (s_pi_lt hq)).1, (c7 _ (s_pi_lt hq)).2.1, (c7 _ (s_pi_lt hq)).2.2⟩⟩
  show g 70 4 - 1 = Int32.ofNat (n - 1)
  rw [h4]
  exact q_sb (a := n) (b := 1) (by have := h.1.2.2.2.2; omega) hn
def p_out (n : Nat) (r : qM) (p : Nat) : Int32 := if s_ran (n - 1) (gh_out n p r) = 0 then 1 else 0
def f_out (n : Nat) (r : qM) : Int32 := s_bs (p_out n r) n 0 0
theorem s_drp_o {p i b : Nat} {g : qM} (h : b < 36 ∨ 39 < b) : s_drp p i g b = g b := by
  funext j
  unfold s_drp
  rw [if_neg (by omega), if_neg (by omega), if_neg (by omega), if_neg (by omega)]
theorem s_rdr_o {p i b : Nat} {g : qM} (h : b < 75 ∨ 77 < b) : s_rdr p i g b = g b := by
  funext j
  unfold s_rdr
  rw [if_neg (by omega), if_neg (by omega), if_neg (by omega)]
theorem s_rdr_fr {p i : Nat} {g : qM} : w_fr g (s_rdr p i g) := ⟨fun b hb => s_rdr_o (by omega), fun j _ => by rw [s_rdr_o (by omega)]⟩
/-! one put elsewhere -/
def p_can (n : Nat) (r : qM) (p c : Nat) : Int32 := if Int32.ofNat c = r 75 p then 1 else if s_bit (r 71 20) (Int32.ofNat c) = 0 then (if f_who n r (Int32.ofNat c) = i_none then 1 else 0) else 0
def p_calm (n : Nat) (r : qM) (p c : Nat) : Int32 := if p_can n r p c = 0 then 0 else if s_ran n (q_up r 75 p (Int32.ofNat c)) = 0 then 1 else 0
def f_calm (n W H : Nat) (r : qM) (p : Nat) : Int32 := s_bs (p_calm n r p) (W * H) 0 0
theorem w_can {n W H p c : Nat} {r : qM} (h : w_ok n W H r) (hp : p < n) (hc : c < W * H) : p_can n r p c = if s_op (r 71 20) (Int32.ofNat c) = 0 then 0 else if f_who n r (Int32.ofNat c) = i_none then 1 else if f_who n r (Int32.ofNat c) = Int32.ofNat p then 1 else 0 := by
  have hWH : W * H ≤ 25 := Nat.le_trans (Nat.mul_le_mul h.1.2.1 h.1.2.2.2.1) (Nat.le_refl 25)
  have h6 := h.1.2.2.2.2
  have hop : s_op (r 71 20) (Int32.ofNat c) = if s_bit (r 71 20) (Int32.ofNat c) = 0 then 1 else 0 := by
    unfold s_op
    rw [if_neg (s_none_ne (by omega))]
  unfold p_can
  rw [hop]
  by_cases e : Int32.ofNat c = r 75 p
  · have hw := h.2.2.2.2.2.2.1 p hp
    rw [← e] at hw
    rw [if_pos e, if_pos hw, if_neg (show ¬ (1 : Int32) = 0 by decide)]
    rcases s_w1_some (c := r 75) (x := Int32.ofNat c) n 0 (by omega) with ⟨h1, h2⟩ | ⟨q, h1, h2, h3, h4⟩
    · exact absurd e.symm (h2 p (Nat.zero_le _) (by omega))
    · have hq : q = p := by
        by_cases z : q = p
        · exact z
        · exact absurd (h3.trans e) (h.2.2.2.2.2.1 q p (by omega) hp z)
      unfold f_who
      rw [h4, hq, if_neg (s_none_ne (by omega)), if_pos rfl]
  · rw [if_neg e]
    by_cases hw : s_bit (r 71 20) (Int32.ofNat c) = 0
    · rw [if_pos hw, if_pos hw, if_neg (show ¬ (1 : Int32) = 0 by decide)]
      by_cases hn : f_who n r (Int32.ofNat c) = i_none
      · rw [if_pos hn, if_pos hn]
      · rw [if_neg hn, if_neg hn, if_neg (fun z => ?_)]
        rcases s_w1_some (c := r 75) (x := Int32.ofNat c) n 0 (by omega) with ⟨h1, h2⟩ | ⟨q, h1, h2, h3, h4⟩
        · exact hn h1
        · unfold f_who at z
          rw [h4] at z
          have := (q_eq (by omega) (by omega)).mp z
          subst this
          exact e h3.symm
    · rw [if_neg hw, if_neg hw, if_pos rfl]
theorem w_ok_put {n W H p c : Nat} {r : qM} (h : w_ok n W H r) (hp : p < n) (hc : c < W * H) (hcan : ¬ p_can n r p c = 0) : w_ok n W H (q_up r 75 p (Int32.ofNat c)) := by
  have h6 := h.1.2.2.2.2
  have hfree : s_bit (r 71 20) (Int32.ofNat c) = 0 ∧ ∀ q, q < n → q ≠ p → r 75 q ≠ Int32.ofNat c := by
    unfold p_can at hcan
    by_cases e : Int32.ofNat c = r 75 p
    · exact ⟨by rw [e]; exact h.2.2.2.2.2.2.1 p hp, fun q hq hne => by rw [e]; exact h.2.2.2.2.2.1 q p hq hp hne⟩
    · rw [if_neg e] at hcan
      by_cases hw : s_bit (r 71 20) (Int32.ofNat c) = 0
      · rw [if_pos hw] at hcan
        by_cases hn : f_who n r (Int32.ofNat c) = i_none
        · rcases s_w1_some (c := r 75) (x := Int32.ofNat c) n 0 (by omega) with ⟨h1, h2⟩ | ⟨q, h1, h2, h3, h4⟩
          · exact ⟨hw, fun q hq _ => h2 q (Nat.zero_le _) (by omega)⟩
          · unfold f_who at hn
            rw [h4] at hn
            exact absurd hn (s_none_ne (by omega))
        · rw [if_neg hn] at hcan
          exact absurd rfl hcan
      · rw [if_neg hw] at hcan
        exact absurd rfl hcan
  have e75 : ∀ q, q_up r 75 p (Int32.ofNat c) 75 q = if q = p then Int32.ofNat c else r 75 q := fun q => q_up_at
  obtain ⟨b, h1, h2, h3, h4, h5, h6, h7, h8⟩ := h
  refine ⟨b, h1, h2, h3, fun q hq => ?_, fun q q' hq hq' hne => ?_, fun q hq => ?_, h7, h8⟩
  · rw [e75]
    split
    · exact ⟨c, hc, rfl⟩
    · exact h4 q hq
  · rw [e75, e75]
    by_cases z : q = p
    · rw [if_pos z, if_neg (by omega)]
      exact (hfree.2 q' hq' (by omega)).symm
    · rw [if_neg z]
      by_cases z' : q' = p
      · rw [if_pos z']
        exact hfree.2 q hq z
      · rw [if_neg z']
        exact h5 q q' hq hq' hne
  · show s_bit (r 71 20) (q_up r 75 p (Int32.ofNat c) 75 q) = 0
    rw [e75]
    split
    · exact hfree.1
    · exact h6 q hq
theorem w_cs_put {n p : Nat} {x : Int32} {g r : qM} (hc : w_cs 35 n g r) : w_cs 35 n (q_up g 36 p x) (q_up r 75 p x) := by
  obtain ⟨c1, c6, c7⟩ := hc
  refine ⟨c1, fun d a b => c6 d a b, fun q hq => ⟨?_, (c7 q hq).2.1, (c7 q hq).2.2⟩⟩
  rw [q_up_at, q_up_at, show g 36 q = r 75 q from (c7 q hq).1]
theorem w_sm_put {n p : Nat} {x : Int32} {g r : qM} (hs : w_sm n g r) : w_sm n (q_up g 75 p x) (q_up r 75 p x) := by
  obtain ⟨c1, c6, c7⟩ := hs
  refine ⟨c1, fun d a b => c6 d a b, fun q hq => ⟨?_, (c7 q hq).2.1, (c7 q hq).2.2⟩⟩
  rw [q_up_at, q_up_at, (c7 q hq).1]
theorem w_size {n W H : Nat} {r : qM} (h : w_ok n W H r) : r 70 2 * r 70 3 = Int32.ofNat (W * H) := by
  rw [h.2.2.1, h.2.2.2.1, q_mul]
theorem w_WH {n W H : Nat} {r : qM} (h : w_ok n W H r) : W * H ≤ 25 := Nat.le_trans (Nat.mul_le_mul h.1.2.1 h.1.2.2.2.1) (Nat.le_refl 25)
theorem d_hw_iff {x : Int32} {g : qM} : d_hasWall x g = 0 ↔ s_bit (g 20 2) x = 0 := by
  unfold d_hasWall s_bit
  split
  · rename_i e
    exact ⟨fun _ => e, fun _ => rfl⟩
  · rename_i e
    exact ⟨fun z => absurd z (by decide), fun z => absurd z e⟩
theorem sg_oc_1 (big : Nat → List Value → qM → qW → qR) (n0 : Nat) (G : qM) (U : qW) (v0 : Int32) (v1 : Int32) : qm_run pm_m big m_103 (n0 + 5) 2 [(0, .ref 35), (1, .int v0), (2, .int v1)] [] G U = qm_run pm_m big m_103 n0 9 [(0, .ref 35), (1, .int v0), (2, .int v1)] [.int (G 35 3), .int (v1 + (1 : Int32))] G U := rfl
theorem sg_oc_2 (big : Nat → List Value → qM → qW → qR) (n0 : Nat) (G : qM) (U : qW) (v0 : Int32) (v1 : Int32) : qm_run pm_m big m_103 (n0 + 8) 12 [(0, .ref 35), (1, .int v0), (2, .int v1)] [] G U = qm_run pm_m big m_103 n0 24 [(0, .ref 35), (1, .int v0), (2, .int v1)] [.int (v1 + (1 : Int32)), .ref 36, .int v1, .ref 36] G U := rfl
theorem sg_oc_3 (big : Nat → List Value → qM → qW → qR) (n0 : Nat) (G : qM) (U : qW) (v0 : Int32) (v1 : Int32) : qm_run pm_m big m_103 (n0 + 8) 26 [(0, .ref 35), (1, .int v0), (2, .int v1)] [] G U = qm_run pm_m big m_103 n0 38 [(0, .ref 35), (1, .int v0), (2, .int v1)] [.int (v1 + (1 : Int32)), .ref 37, .int v1, .ref 37] G U := rfl
theorem sg_oc_4 (big : Nat → List Value → qM → qW → qR) (n0 : Nat) (G : qM) (U : qW) (v0 : Int32) (v1 : Int32) : qm_run pm_m big m_103 (n0 + 8) 40 [(0, .ref 35), (1, .int v0), (2, .int v1)] [] G U = qm_run pm_m big m_103 n0 52 [(0, .ref 35), (1, .int v0), (2, .int v1)] [.int (v1 + (1 : Int32)), .ref 38, .int v1, .ref 38] G U := rfl
theorem sg_oc_5 (big : Nat → List Value → qM → qW → qR) (n0 : Nat) (G : qM) (U : qW) (v0 : Int32) (v1 : Int32) : qm_run pm_m big m_103 (n0 + 8) 54 [(0, .ref 35), (1, .int v0), (2, .int v1)] [] G U = qm_run pm_m big m_103 n0 66 [(0, .ref 35), (1, .int v0), (2, .int v1)] [.int (v1 + (1 : Int32)), .ref 39, .int v1, .ref 39] G U := rfl
theorem sg_oc_6 (big : Nat → List Value → qM → qW → qR) (n0 : Nat) (G : qM) (U : qW) (v0 : Int32) (v1 : Int32) : qm_run pm_m big m_103 (n0 + 2) 68 [(0, .ref 35), (1, .int v0), (2, .int v1)] [] G U = qm_run pm_m big m_103 n0 2 [(0, .ref 35), (1, .int v0), (2, .int (v1 + (1 : Int32)))] [] G U := rfl
theorem sg_oc_7 (big : Nat → List Value → qM → qW → qR) (n0 : Nat) (G : qM) (U : qW) (v0 : Int32) : qm_run pm_m big m_103 (n0 + 2) 0 [(0, .ref 35), (1, .int v0)] [] G U = qm_run pm_m big m_103 n0 2 [(0, .ref 35), (1, .int v0), (2, .int v0)] [] G U := rfl
theorem sg_oc_8 (big : Nat → List Value → qM → qW → qR) (n0 : Nat) (G : qM) (U : qW) (v0 : Int32) (v1 : Int32) : qm_run pm_m big m_102 (n0 + 3) 4 [(0, .ref 34), (1, .ref 20), (2, .int v0), (3, .int v1)] [] G U = qm_run pm_m big m_102 n0 9 [(0, .ref 34), (1, .ref 20), (2, .int v0), (3, .int v1)] [.int (G 20 3), .int v1] G U := rfl
theorem sg_oc_9 (big : Nat → List Value → qM → qW → qR) (n0 : Nat) (G : qM) (U : qW) (v0 : Int32) (v1 : Int32) : qm_run pm_m big m_102 (n0 + 3) 12 [(0, .ref 34), (1, .ref 20), (2, .int v0), (3, .int v1)] [] G U = qm_run pm_m big m_102 n0 17 [(0, .ref 34), (1, .ref 20), (2, .int v0), (3, .int v1)] [.ref 20, .ref 35] G U := rfl
theorem sg_oc_10 (big : Nat → List Value → qM → qW → qR) (n0 : Nat) (G : qM) (U : qW) (v0 : Int32) (v1 : Int32) : qm_run pm_m big m_102 (n0 + 3) 20 [(0, .ref 34), (1, .ref 20), (2, .int v0), (3, .int v1)] [] G U = qm_run pm_m big m_102 n0 25 [(0, .ref 34), (1, .ref 20), (2, .int v0), (3, .int v1)] [.int v1, .ref 35] G U := rfl
theorem sg_oc_11 (big : Nat → List Value → qM → qW → qR) (n0 : Nat) (G : qM) (U : qW) (v0 : Int32) (v1 : Int32) : qm_run pm_m big m_102 (n0 + 2) 28 [(0, .ref 34), (1, .ref 20), (2, .int v0), (3, .int v1)] [] G U = qm_run pm_m big m_102 n0 30 [(0, .ref 34), (1, .ref 20), (2, .int v0), (3, .int v1)] [.ref 34, .int v0] G U := rfl
theorem sg_oc_12 (big : Nat → List Value → qM → qW → qR) (n0 : Nat) (G : qM) (U : qW) (v0 : Int32) (v1 : Int32) (v2 : Int32) : qm_run pm_m big m_102 (n0 + 9) 33 [(0, .ref 34), (1, .ref 20), (2, .int v0), (3, .int v1)] [.int (1 : Int32), .int v2] G U = qm_run pm_m big m_102 n0 4 [(0, .ref 34), (1, .ref 20), (2, .int (v2 ||| ((1 : Int32) <<< (v1 &&& 31)))), (3, .int (v1 + (1 : Int32)))] [] G U := rfl
theorem sg_oc_13 (big : Nat → List Value → qM → qW → qR) (n0 : Nat) (G : qM) (U : qW) (v0 : Int32) (v1 : Int32) (v2 : Int32) : qm_run pm_m big m_102 (n0 + 6) 33 [(0, .ref 34), (1, .ref 20), (2, .int v0), (3, .int v1)] [.int (0 : Int32), .int v2] G U = qm_run pm_m big m_102 n0 4 [(0, .ref 34), (1, .ref 20), (2, .int (v2 ||| (0 : Int32))), (3, .int (v1 + (1 : Int32)))] [] G U := rfl
theorem sg_oc_14 (big : Nat → List Value → qM → qW → qR) (n0 : Nat) (G : qM) (U : qW) : qm_run pm_m big m_102 (n0 + 4) 0 [(0, .ref 34), (1, .ref 20)] [] G U = qm_run pm_m big m_102 n0 4 [(0, .ref 34), (1, .ref 20), (2, .int (0 : Int32)), (3, .int (0 : Int32))] [] G U := rfl
theorem sg_oc_15 (big : Nat → List Value → qM → qW → qR) (n0 : Nat) (G : qM) (U : qW) : qm_run pm_m big m_101 (n0 + 4) 0 [(0, .ref 8)] [] G U = qm_run pm_m big m_101 n0 8 [(0, .ref 8)] [.ref 20, .ref 34] G U := rfl
theorem sg_oc_16 (big : Nat → List Value → qM → qW → qR) (n0 : Nat) (G : qM) (U : qW) (v0 : Int32) (v1 : Int32) (v2 : Int32) : qm_run pm_m big m_206 (n0 + 5) 18 [(0, .ref 70), (1, .int v0), (2, .int v1), (3, .int v2)] [] G U = qm_run pm_m big m_206 n0 25 [(0, .ref 70), (1, .int v0), (2, .int v1), (3, .int v2)] [.int (G 70 4), .int (v2 + (1 : Int32))] G U := rfl
theorem sg_oc_17 (big : Nat → List Value → qM → qW → qR) (n0 : Nat) (G : qM) (U : qW) (v0 : Int32) (v1 : Int32) (v2 : Int32) : qm_run pm_m big m_206 (n0 + 8) 28 [(0, .ref 70), (1, .int v0), (2, .int v1), (3, .int v2)] [] G U = qm_run pm_m big m_206 n0 40 [(0, .ref 70), (1, .int v0), (2, .int v1), (3, .int v2)] [.int (v2 + (1 : Int32)), .ref 75, .int v2, .ref 75] G U := rfl
theorem sg_oc_18 (big : Nat → List Value → qM → qW → qR) (n0 : Nat) (G : qM) (U : qW) (v0 : Int32) (v1 : Int32) (v2 : Int32) : qm_run pm_m big m_206 (n0 + 8) 42 [(0, .ref 70), (1, .int v0), (2, .int v1), (3, .int v2)] [] G U = qm_run pm_m big m_206 n0 54 [(0, .ref 70), (1, .int v0), (2, .int v1), (3, .int v2)] [.int (v2 + (1 : Int32)), .ref 76, .int v2, .ref 76] G U := rfl
theorem sg_oc_19 (big : Nat → List Value → qM → qW → qR) (n0 : Nat) (G : qM) (U : qW) (v0 : Int32) (v1 : Int32) (v2 : Int32) : qm_run pm_m big m_206 (n0 + 8) 56 [(0, .ref 70), (1, .int v0), (2, .int v1), (3, .int v2)] [] G U = qm_run pm_m big m_206 n0 68 [(0, .ref 70), (1, .int v0), (2, .int v1), (3, .int v2)] [.int (v2 + (1 : Int32)), .ref 77, .int v2, .ref 77] G U := rfl
theorem sg_oc_20 (big : Nat → List Value → qM → qW → qR) (n0 : Nat) (G : qM) (U : qW) (v0 : Int32) (v1 : Int32) (v2 : Int32) : qm_run pm_m big m_206 (n0 + 2) 70 [(0, .ref 70), (1, .int v0), (2, .int v1), (3, .int v2)] [] G U = qm_run pm_m big m_206 n0 18 [(0, .ref 70), (1, .int v0), (2, .int v1), (3, .int (v2 + (1 : Int32)))] [] G U := rfl
theorem sg_oc_21 (big : Nat → List Value → qM → qW → qR) (n0 : Nat) (G : qM) (U : qW) (v0 : Int32) (v1 : Int32) : qm_run pm_m big m_206 (n0 + 3) 4 [(0, .ref 70), (1, .int v0), (2, .int v1)] [] G U = qm_run pm_m big m_206 n0 9 [(0, .ref 70), (1, .int v0), (2, .int v1)] [.int (G 70 4), .int v1] G U := rfl
theorem sg_oc_22 (big : Nat → List Value → qM → qW → qR) (n0 : Nat) (G : qM) (U : qW) (v0 : Int32) (v1 : Int32) : qm_run pm_m big m_206 (n0 + 1) 12 [(0, .ref 70), (1, .int v0), (2, .int v1)] [] G U = qm_run pm_m big m_206 n0 13 [(0, .ref 70), (1, .int v0), (2, .int v1)] [.ref 70] G U := rfl
theorem sg_oc_23 (big : Nat → List Value → qM → qW → qR) (n0 : Nat) (G : qM) (U : qW) (v0 : Int32) (v1 : Int32) : qm_run pm_m big m_206 (n0 + 2) 16 [(0, .ref 70), (1, .int v0), (2, .int v1)] [] G U = qm_run pm_m big m_206 n0 18 [(0, .ref 70), (1, .int v0), (2, .int v1), (3, .int v1)] [] G U := rfl
theorem sg_oc_24 (big : Nat → List Value → qM → qW → qR) (n0 : Nat) (G : qM) (U : qW) (v0 : Int32) (v1 : Int32) (v2 : Int32) : qm_run pm_m big m_206 (n0 + 8) 76 [(0, .ref 70), (1, .int v0), (2, .int v1), (3, .int v2)] [] G U = qm_run pm_m big m_206 n0 88 [(0, .ref 70), (1, .int v0), (2, .int v1), (3, .int v2)] [.ref 70, .int v0] (q_up G 70 27 ((G 70 4) - (1 : Int32))) U := rfl
theorem sg_oc_25 (big : Nat → List Value → qM → qW → qR) (n0 : Nat) (G : qM) (U : qW) (v0 : Int32) (v1 : Int32) (v2 : Int32) (v3 : Int32) : qm_run pm_m big m_206 (n0 + 2) 94 [(0, .ref 70), (1, .int v0), (2, .int v1), (3, .int v2)] [.int v3] G U = qm_run pm_m big m_206 n0 99 [(0, .ref 70), (1, .int v0), (2, .int v1), (3, .int v2)] [.int (1 : Int32), .int v3] G U := rfl
theorem sg_oc_26 (big : Nat → List Value → qM → qW → qR) (n0 : Nat) (G : qM) (U : qW) (v0 : Int32) (v1 : Int32) (v2 : Int32) (v3 : Int32) : qm_run pm_m big m_206 (n0 + 6) 102 [(0, .ref 70), (1, .int v0), (2, .int v1), (3, .int v2)] [.int (1 : Int32), .int v3] G U = qm_run pm_m big m_206 n0 4 [(0, .ref 70), (1, .int (v3 ||| ((1 : Int32) <<< (v1 &&& 31)))), (2, .int (v1 + (1 : Int32))), (3, .int v2)] [] G U := rfl
theorem sg_oc_27 (big : Nat → List Value → qM → qW → qR) (n0 : Nat) (G : qM) (U : qW) (v0 : Int32) (v1 : Int32) (v2 : Int32) (v3 : Int32) : qm_run pm_m big m_206 (n0 + 1) 98 [(0, .ref 70), (1, .int v0), (2, .int v1), (3, .int v2)] [.int v3] G U = qm_run pm_m big m_206 n0 99 [(0, .ref 70), (1, .int v0), (2, .int v1), (3, .int v2)] [.int (0 : Int32), .int v3] G U := rfl
theorem sg_oc_28 (big : Nat → List Value → qM → qW → qR) (n0 : Nat) (G : qM) (U : qW) (v0 : Int32) (v1 : Int32) (v2 : Int32) (v3 : Int32) : qm_run pm_m big m_206 (n0 + 6) 102 [(0, .ref 70), (1, .int v0), (2, .int v1), (3, .int v2)] [.int (0 : Int32), .int v3] G U = qm_run pm_m big m_206 n0 4 [(0, .ref 70), (1, .int (v3 ||| ((0 : Int32) <<< (v1 &&& 31)))), (2, .int (v1 + (1 : Int32))), (3, .int v2)] [] G U := rfl
theorem sg_oc_29 (big : Nat → List Value → qM → qW → qR) (n0 : Nat) (G : qM) (U : qW) : qm_run pm_m big m_206 (n0 + 4) 0 [(0, .ref 70)] [] G U = qm_run pm_m big m_206 n0 4 [(0, .ref 70), (1, .int (0 : Int32)), (2, .int (0 : Int32))] [] G U := rfl
theorem sg_oc_30 (big : Nat → List Value → qM → qW → qR) (n0 : Nat) (G : qM) (U : qW) (v0 : Int32) : qm_run pm_m big m_28 (n0 + 2) 0 [(0, .ref 20), (1, .int v0)] [] G U = qm_run pm_m big m_28 n0 2 [(0, .ref 20), (1, .int v0)] [.int v0, .ref 20] G U := rfl
theorem sg_oc_31 (big : Nat → List Value → qM → qW → qR) (n0 : Nat) (G : qM) (U : qW) (v0 : Int32) : qm_run pm_m big m_28 (n0 + 2) 8 [(0, .ref 20), (1, .int v0)] [] G U = qm_run pm_m big m_28 n0 10 [(0, .ref 20), (1, .int v0)] [.int v0, .ref 20] G U := rfl
theorem sg_oc_32 (big : Nat → List Value → qM → qW → qR) (n0 : Nat) (G : qM) (U : qW) (v0 : Int32) (v1 : Int32) : qm_run pm_m big m_28 (n0 + 1) 13 [(0, .ref 20), (1, .int v0)] [.int v1] G U = qm_run pm_m big m_28 n0 15 [(0, .ref 20), (1, .int v0)] [.int (Int8.toInt32 (Int8.ofInt (-4))), .int v1] G U := rfl
theorem sg_oc_33 (big : Nat → List Value → qM → qW → qR) (n0 : Nat) (G : qM) (U : qW) (v0 : Int32) (v1 : Int32) : qm_run pm_m big m_50 (n0 + 4) 0 [(0, .ref 20), (1, .int v0), (2, .int v1)] [] G U = qm_run pm_m big m_50 n0 6 [(0, .ref 20), (1, .int v0), (2, .int v1)] [.int v0, .ref 21, .int v1] G U := rfl
theorem sg_oc_34 (big : Nat → List Value → qM → qW → qR) (n0 : Nat) (G : qM) (U : qW) (v0 : Int32) (v1 : Int32) : qm_run pm_m big m_50 (n0 + 2) 10 [(0, .ref 20), (1, .int v0), (2, .int v1)] [] G U = qm_run pm_m big m_50 n0 12 [(0, .ref 20), (1, .int v0), (2, .int v1)] [.int v1, .ref 20] G U := rfl
theorem sg_oc_35 (big : Nat → List Value → qM → qW → qR) (n0 : Nat) (G : qM) (U : qW) (v0 : Int32) (v1 : Int32) (v2 : Int32) : qm_run pm_m big m_105 (n0 + 2) 13 [(0, .ref 34), (1, .ref 20), (2, .int v0), (3, .int v1), (4, .int v2)] [] G U = qm_run pm_m big m_105 n0 16 [(0, .ref 34), (1, .ref 20), (2, .int v0), (3, .int v1), (4, .int v2)] [.ref 20, .int v2] G U := rfl
theorem sg_oc_36 (big : Nat → List Value → qM → qW → qR) (n0 : Nat) (G : qM) (U : qW) (v0 : Int32) (v1 : Int32) (v2 : Int32) : qm_run pm_m big m_105 (n0 + 3) 22 [(0, .ref 34), (1, .ref 20), (2, .int v0), (3, .int v1), (4, .int v2)] [] G U = qm_run pm_m big m_105 n0 26 [(0, .ref 34), (1, .ref 20), (2, .int v0), (3, .int v1), (4, .int v2)] [.int v2, .int v0, .ref 20] G U := rfl
theorem sg_oc_37 (big : Nat → List Value → qM → qW → qR) (n0 : Nat) (G : qM) (U : qW) (v0 : Int32) (v1 : Int32) (v2 : Int32) : qm_run pm_m big m_105 (n0 + 3) 29 [(0, .ref 34), (1, .ref 20), (2, .int v0), (3, .int v1), (4, .int v2)] [.int (0 : Int32)] G U = qm_run pm_m big m_105 n0 13 [(0, .ref 34), (1, .ref 20), (2, .int v0), (3, .int v1), (4, .int (v2 + (1 : Int32)))] [] G U := rfl
theorem sg_oc_38 (big : Nat → List Value → qM → qW → qR) (n0 : Nat) (G : qM) (U : qW) (v0 : Int32) (v1 : Int32) (v2 : Int32) : qm_run pm_m big m_105 (n0 + 4) 29 [(0, .ref 34), (1, .ref 20), (2, .int v0), (3, .int v1), (4, .int v2)] [.int (1 : Int32)] G U = qm_run pm_m big m_105 n0 37 [(0, .ref 34), (1, .ref 20), (2, .int v0), (3, .int v1), (4, .int v2)] [.ref 20, .ref 35] G U := rfl
theorem sg_oc_39 (big : Nat → List Value → qM → qW → qR) (n0 : Nat) (G : qM) (U : qW) (v0 : Int32) (v1 : Int32) (v2 : Int32) : qm_run pm_m big m_105 (n0 + 5) 40 [(0, .ref 34), (1, .ref 20), (2, .int v0), (3, .int v1), (4, .int v2)] [] G U = qm_run pm_m big m_105 n0 50 [(0, .ref 34), (1, .ref 20), (2, .int v0), (3, .int v1), (4, .int v2)] [.int v2, .int v0, .ref 36] G U := rfl
theorem sg_oc_40 (big : Nat → List Value → qM → qW → qR) (n0 : Nat) (G : qM) (U : qW) (v0 : Int32) (v1 : Int32) (v2 : Int32) : qm_run pm_m big m_105 (n0 + 2) 51 [(0, .ref 34), (1, .ref 20), (2, .int v0), (3, .int v1), (4, .int v2)] [] G U = qm_run pm_m big m_105 n0 53 [(0, .ref 34), (1, .ref 20), (2, .int v0), (3, .int v1), (4, .int v2)] [.ref 34, .int v1] G U := rfl
theorem sg_oc_41 (big : Nat → List Value → qM → qW → qR) (n0 : Nat) (G : qM) (U : qW) (v0 : Int32) (v1 : Int32) (v2 : Int32) (v3 : Int32) : qm_run pm_m big m_105 (n0 + 9) 56 [(0, .ref 34), (1, .ref 20), (2, .int v0), (3, .int v1), (4, .int v2)] [.int (1 : Int32), .int v3] G U = qm_run pm_m big m_105 n0 13 [(0, .ref 34), (1, .ref 20), (2, .int v0), (3, .int (v3 ||| ((1 : Int32) <<< (v2 &&& 31)))), (4, .int (v2 + (1 : Int32)))] [] G U := rfl
theorem sg_oc_42 (big : Nat → List Value → qM → qW → qR) (n0 : Nat) (G : qM) (U : qW) (v0 : Int32) (v1 : Int32) (v2 : Int32) (v3 : Int32) : qm_run pm_m big m_105 (n0 + 6) 56 [(0, .ref 34), (1, .ref 20), (2, .int v0), (3, .int v1), (4, .int v2)] [.int (0 : Int32), .int v3] G U = qm_run pm_m big m_105 n0 13 [(0, .ref 34), (1, .ref 20), (2, .int v0), (3, .int (v3 ||| (0 : Int32))), (4, .int (v2 + (1 : Int32)))] [] G U := rfl
theorem sg_oc_43 (big : Nat → List Value → qM → qW → qR) (n0 : Nat) (G : qM) (U : qW) (v0 : Int32) : qm_run pm_m big m_105 (n0 + 3) 0 [(0, .ref 34), (1, .ref 20), (2, .int v0)] [] G U = qm_run pm_m big m_105 n0 5 [(0, .ref 34), (1, .ref 20), (2, .int v0)] [.ref 20, .ref 35] G U := rfl
theorem sg_oc_44 (big : Nat → List Value → qM → qW → qR) (n0 : Nat) (G : qM) (U : qW) (v0 : Int32) : qm_run pm_m big m_105 (n0 + 4) 8 [(0, .ref 34), (1, .ref 20), (2, .int v0)] [] G U = qm_run pm_m big m_105 n0 13 [(0, .ref 34), (1, .ref 20), (2, .int v0), (3, .int (0 : Int32)), (4, .int (0 : Int32))] [] G U := rfl
theorem sg_oc_45 (big : Nat → List Value → qM → qW → qR) (n0 : Nat) (G : qM) (U : qW) (v0 : Int32) : qm_run pm_m big m_104 (n0 + 3) 0 [(0, .ref 8), (1, .int v0)] [] G U = qm_run pm_m big m_104 n0 5 [(0, .ref 8), (1, .int v0)] [.int v0, .ref 20] G U := rfl
theorem sg_oc_46 (big : Nat → List Value → qM → qW → qR) (n0 : Nat) (G : qM) (U : qW) (v0 : Int32) : qm_run pm_m big m_104 (n0 + 6) 8 [(0, .ref 8), (1, .int v0)] [.int (1 : Int32)] G U = qm_run pm_m big m_104 n0 20 [(0, .ref 8), (1, .int v0)] [.int v0, .ref 20, .ref 34] G U := rfl
theorem sg_oc_47 (big : Nat → List Value → qM → qW → qR) (n0 : Nat) (G : qM) (U : qW) (v0 : Int32) (v1 : Int32) (v2 : Int32) : qm_run pm_m big m_207 (n0 + 6) 14 [(0, .ref 70), (1, .int v0), (2, .int v1), (3, .int v2)] [] G U = qm_run pm_m big m_207 n0 24 [(0, .ref 70), (1, .int v0), (2, .int v1), (3, .int v2)] [.int ((G 70 2) * (G 70 3)), .int v2] G U := rfl
theorem sg_oc_48 (big : Nat → List Value → qM → qW → qR) (n0 : Nat) (G : qM) (U : qW) (v0 : Int32) (v1 : Int32) (v2 : Int32) : qm_run pm_m big m_207 (n0 + 1) 27 [(0, .ref 70), (1, .int v0), (2, .int v1), (3, .int v2)] [] G U = qm_run pm_m big m_207 n0 28 [(0, .ref 70), (1, .int v0), (2, .int v1), (3, .int v2)] [.ref 70] G U := rfl
theorem sg_oc_49 (big : Nat → List Value → qM → qW → qR) (n0 : Nat) (G : qM) (U : qW) (v0 : Int32) (v1 : Int32) (v2 : Int32) : qm_run pm_m big m_207 (n0 + 2) 31 [(0, .ref 70), (1, .int v0), (2, .int v1), (3, .int v2)] [] G U = qm_run pm_m big m_207 n0 33 [(0, .ref 70), (1, .int v0), (2, .int v1), (3, .int v2)] [.int v2, .ref 70] G U := rfl
theorem sg_oc_50 (big : Nat → List Value → qM → qW → qR) (n0 : Nat) (G : qM) (U : qW) (v0 : Int32) (v1 : Int32) (v2 : Int32) (v3 : Int32) : qm_run pm_m big m_207 (n0 + 3) 36 [(0, .ref 70), (1, .int v0), (2, .int v1), (3, .int v2)] [.int v3] G U = qm_run pm_m big m_207 n0 40 [(0, .ref 70), (1, .int v0), (2, .int v1), (3, .int v2), (4, .int v3)] [.int v2, .ref 70] G U := rfl
theorem sg_oc_51 (big : Nat → List Value → qM → qW → qR) (n0 : Nat) (G : qM) (U : qW) (v0 : Int32) (v1 : Int32) (v2 : Int32) (v3 : Int32) : qm_run pm_m big m_207 (n0 + 2) 86 [(0, .ref 70), (1, .int v0), (2, .int v1), (3, .int v2), (4, .int v3)] [] G U = qm_run pm_m big m_207 n0 14 [(0, .ref 70), (1, .int v0), (2, .int v1), (3, .int (v2 + (1 : Int32))), (4, .int v3)] [] G U := rfl
theorem sg_oc_52 (big : Nat → List Value → qM → qW → qR) (n0 : Nat) (G : qM) (U : qW) (v0 : Int32) (v1 : Int32) (v2 : Int32) (v3 : Int32) : qm_run pm_m big m_207 (n0 + 2) 46 [(0, .ref 70), (1, .int v0), (2, .int v1), (3, .int v2), (4, .int v3)] [] G U = qm_run pm_m big m_207 n0 50 [(0, .ref 70), (1, .int v0), (2, .int v1), (3, .int v2), (4, .int v3)] [.int (Int8.toInt32 (Int8.ofInt (-4))), .int v3] G U := rfl
theorem sg_oc_53 (big : Nat → List Value → qM → qW → qR) (n0 : Nat) (G : qM) (U : qW) (v0 : Int32) (v1 : Int32) (v2 : Int32) (v3 : Int32) : qm_run pm_m big m_207 (n0 + 4) 59 [(0, .ref 70), (1, .int v0), (2, .int v1), (3, .int v2), (4, .int v3)] [] G U = qm_run pm_m big m_207 n0 65 [(0, .ref 70), (1, .int v0), (2, .int v1), (3, .int v2), (4, .int v3)] [.int v2, .int v0, .ref 75] G U := rfl
theorem sg_oc_54 (big : Nat → List Value → qM → qW → qR) (n0 : Nat) (G : qM) (U : qW) (v0 : Int32) (v1 : Int32) (v2 : Int32) (v3 : Int32) : qm_run pm_m big m_207 (n0 + 2) 66 [(0, .ref 70), (1, .int v0), (2, .int v1), (3, .int v2), (4, .int v3)] [] G U = qm_run pm_m big m_207 n0 68 [(0, .ref 70), (1, .int v0), (2, .int v1), (3, .int v2), (4, .int v3)] [.ref 70, .int v1] G U := rfl
theorem sg_oc_55 (big : Nat → List Value → qM → qW → qR) (n0 : Nat) (G : qM) (U : qW) (v0 : Int32) (v1 : Int32) (v2 : Int32) (v3 : Int32) (v4 : Int32) : qm_run pm_m big m_207 (n0 + 2) 74 [(0, .ref 70), (1, .int v0), (2, .int v1), (3, .int v2), (4, .int v3)] [.int v4] G U = qm_run pm_m big m_207 n0 79 [(0, .ref 70), (1, .int v0), (2, .int v1), (3, .int v2), (4, .int v3)] [.int (1 : Int32), .int v4] G U := rfl
theorem sg_oc_56 (big : Nat → List Value → qM → qW → qR) (n0 : Nat) (G : qM) (U : qW) (v0 : Int32) (v1 : Int32) (v2 : Int32) (v3 : Int32) (v4 : Int32) : qm_run pm_m big m_207 (n0 + 6) 82 [(0, .ref 70), (1, .int v0), (2, .int v1), (3, .int v2), (4, .int v3)] [.int (1 : Int32), .int v4] G U = qm_run pm_m big m_207 n0 14 [(0, .ref 70), (1, .int v0), (2, .int (v4 ||| ((1 : Int32) <<< (v2 &&& 31)))), (3, .int (v2 + (1 : Int32))), (4, .int v3)] [] G U := rfl
theorem sg_oc_57 (big : Nat → List Value → qM → qW → qR) (n0 : Nat) (G : qM) (U : qW) (v0 : Int32) (v1 : Int32) (v2 : Int32) (v3 : Int32) (v4 : Int32) : qm_run pm_m big m_207 (n0 + 1) 78 [(0, .ref 70), (1, .int v0), (2, .int v1), (3, .int v2), (4, .int v3)] [.int v4] G U = qm_run pm_m big m_207 n0 79 [(0, .ref 70), (1, .int v0), (2, .int v1), (3, .int v2), (4, .int v3)] [.int (0 : Int32), .int v4] G U := rfl
theorem sg_oc_58 (big : Nat → List Value → qM → qW → qR) (n0 : Nat) (G : qM) (U : qW) (v0 : Int32) (v1 : Int32) (v2 : Int32) (v3 : Int32) (v4 : Int32) : qm_run pm_m big m_207 (n0 + 6) 82 [(0, .ref 70), (1, .int v0), (2, .int v1), (3, .int v2), (4, .int v3)] [.int (0 : Int32), .int v4] G U = qm_run pm_m big m_207 n0 14 [(0, .ref 70), (1, .int v0), (2, .int (v4 ||| ((0 : Int32) <<< (v2 &&& 31)))), (3, .int (v2 + (1 : Int32))), (4, .int v3)] [] G U := rfl
theorem sg_oc_59 (big : Nat → List Value → qM → qW → qR) (n0 : Nat) (G : qM) (U : qW) (v0 : Int32) (v1 : Int32) (v2 : Int32) (v3 : Int32) : qm_run pm_m big m_207 (n0 + 2) 53 [(0, .ref 70), (1, .int v0), (2, .int v1), (3, .int v2), (4, .int v3)] [] G U = qm_run pm_m big m_207 n0 56 [(0, .ref 70), (1, .int v0), (2, .int v1), (3, .int v2), (4, .int v3)] [.int v0, .int v3] G U := rfl
theorem sg_oc_60 (big : Nat → List Value → qM → qW → qR) (n0 : Nat) (G : qM) (U : qW) (v0 : Int32) : qm_run pm_m big m_207 (n0 + 2) 0 [(0, .ref 70), (1, .int v0)] [] G U = qm_run pm_m big m_207 n0 2 [(0, .ref 70), (1, .int v0)] [.int v0, .ref 70] G U := rfl
theorem sg_oc_61 (big : Nat → List Value → qM → qW → qR) (n0 : Nat) (G : qM) (U : qW) (v0 : Int32) : qm_run pm_m big m_207 (n0 + 5) 5 [(0, .ref 70), (1, .int v0)] [.int (1 : Int32)] G U = qm_run pm_m big m_207 n0 14 [(0, .ref 70), (1, .int v0), (2, .int (0 : Int32)), (3, .int (0 : Int32))] [] G U := rfl
theorem dr_l (g : qM) (u : qW) {n p : Nat} (hn : g 35 3 = Int32.ofNat n) (h6 : n ≤ 6) : ∀ k i, i + k + 1 = n → p ≤ i → q_EV m_103 2 [(0, .ref 35), (1, .int (Int32.ofNat p)), (2, .int (Int32.ofNat i))] [] (s_drp p i g) u (fun R => R = (none, q_up (s_drp p (n - 1) g) 35 3 (g 35 3 - 1), u)) := by
  intro k
  induction k with
  | zero =>
    intro i hi hp
    refine q_step 5 9 [(0, .ref 35), (1, .int (Int32.ofNat p)), (2, .int (Int32.ofNat i))] [.int (g 35 3), .int ((Int32.ofNat i) + (1 : Int32))] (s_drp p i g) u (fun big n0 => sg_oc_1 big n0 (s_drp p i g) u (Int32.ofNat p) (Int32.ofNat i)) ?_
    refine q_ic_ge rfl (fun (hc0 : (g 35 3) ≤ ((Int32.ofNat i) + (1 : Int32))) => ?_) (fun hc0 => absurd (show (g 35 3) ≤ ((Int32.ofNat i) + (1 : Int32)) from by rw [hn, q_succ]; exact (q_le (by omega) (by omega)).mpr (by omega)) hc0)
    refine q_ret 7 (none, (q_up (s_drp p i g) 35 3 ((g 35 3) - (1 : Int32))), u) (fun _ _ => rfl) ?_
    rw [show n - 1 = i by omega]
  | succ k ih =>
    intro i hi hp
    refine q_step 5 9 [(0, .ref 35), (1, .int (Int32.ofNat p)), (2, .int (Int32.ofNat i))] [.int (g 35 3), .int ((Int32.ofNat i) + (1 : Int32))] (s_drp p i g) u (fun big n0 => sg_oc_1 big n0 (s_drp p i g) u (Int32.ofNat p) (Int32.ofNat i)) ?_
    refine q_ic_ge rfl (fun hc0 => absurd (show (g 35 3) ≤ ((Int32.ofNat i) + (1 : Int32)) from hc0) (fun z => by rw [hn, q_succ] at z; exact absurd ((q_le (by omega) (by omega)).mp z) (by omega))) (fun (hc0 : ¬ ((g 35 3) ≤ ((Int32.ofNat i) + (1 : Int32)))) => ?_)
    refine q_step 8 24 [(0, .ref 35), (1, .int (Int32.ofNat p)), (2, .int (Int32.ofNat i))] [.int ((Int32.ofNat i) + (1 : Int32)), .ref 36, .int (Int32.ofNat i), .ref 36] (s_drp p i g) u (fun big n0 => sg_oc_2 big n0 (s_drp p i g) u (Int32.ofNat p) (Int32.ofNat i)) ?_
    refine q_iald (j := (i + 1)) (by rw [q_succ]; exact q_ixn (by omega) (by omega)) rfl rfl ?_
    refine q_iast (j := i) (q_ixn (by omega) (by omega)) rfl rfl ?_
    refine q_step 8 38 [(0, .ref 35), (1, .int (Int32.ofNat p)), (2, .int (Int32.ofNat i))] [.int ((Int32.ofNat i) + (1 : Int32)), .ref 37, .int (Int32.ofNat i), .ref 37] (q_up (s_drp p i g) 36 i ((s_drp p i g) 36 (i + 1))) u (fun big n0 => sg_oc_3 big n0 (q_up (s_drp p i g) 36 i ((s_drp p i g) 36 (i + 1))) u (Int32.ofNat p) (Int32.ofNat i)) ?_
    refine q_iald (j := (i + 1)) (by rw [q_succ]; exact q_ixn (by omega) (by omega)) rfl rfl ?_
    refine q_iast (j := i) (q_ixn (by omega) (by omega)) rfl rfl ?_
    refine q_step 8 52 [(0, .ref 35), (1, .int (Int32.ofNat p)), (2, .int (Int32.ofNat i))] [.int ((Int32.ofNat i) + (1 : Int32)), .ref 38, .int (Int32.ofNat i), .ref 38] (q_up (q_up (s_drp p i g) 36 i ((s_drp p i g) 36 (i + 1))) 37 i ((s_drp p i g) 37 (i + 1))) u (fun big n0 => sg_oc_4 big n0 (q_up (q_up (s_drp p i g) 36 i ((s_drp p i g) 36 (i + 1))) 37 i ((s_drp p i g) 37 (i + 1))) u (Int32.ofNat p) (Int32.ofNat i)) ?_
    refine q_iald (j := (i + 1)) (by rw [q_succ]; exact q_ixn (by omega) (by omega)) rfl rfl ?_
    refine q_iast (j := i) (q_ixn (by omega) (by omega)) rfl rfl ?_
    refine q_step 8 66 [(0, .ref 35), (1, .int (Int32.ofNat p)), (2, .int (Int32.ofNat i))] [.int ((Int32.ofNat i) + (1 : Int32)), .ref 39, .int (Int32.ofNat i), .ref 39] (q_up (q_up (q_up (s_drp p i g) 36 i ((s_drp p i g) 36 (i + 1))) 37 i ((s_drp p i g) 37 (i + 1))) 38 i ((s_drp p i g) 38 (i + 1))) u (fun big n0 => sg_oc_5 big n0 (q_up (q_up (q_up (s_drp p i g) 36 i ((s_drp p i g) 36 (i + 1))) 37 i ((s_drp p i g) 37 (i + 1))) 38 i ((s_drp p i g) 38 (i + 1))) u (Int32.ofNat p) (Int32.ofNat i)) ?_
    refine q_iald (j := (i + 1)) (by rw [q_succ]; exact q_ixn (by omega) (by omega)) rfl rfl ?_
    refine q_iast (j := i) (q_ixn (by omega) (by omega)) rfl rfl ?_
    refine q_step 2 2 [(0, .ref 35), (1, .int (Int32.ofNat p)), (2, .int ((Int32.ofNat i) + (1 : Int32)))] [] (q_up (q_up (q_up (q_up (s_drp p i g) 36 i ((s_drp p i g) 36 (i + 1))) 37 i ((s_drp p i g) 37 (i + 1))) 38 i ((s_drp p i g) 38 (i + 1))) 39 i ((s_drp p i g) 39 (i + 1))) u (fun big n0 => sg_oc_6 big n0 (q_up (q_up (q_up (q_up (s_drp p i g) 36 i ((s_drp p i g) 36 (i + 1))) 37 i ((s_drp p i g) 37 (i + 1))) 38 i ((s_drp p i g) 38 (i + 1))) 39 i ((s_drp p i g) 39 (i + 1))) u (Int32.ofNat p) (Int32.ofNat i)) ?_
    rw [q_succ, show (q_up (q_up (q_up (q_up (s_drp p i g) 36 i ((s_drp p i g) 36 (i + 1))) 37 i ((s_drp p i g) 37 (i + 1))) 38 i ((s_drp p i g) 38 (i + 1))) 39 i ((s_drp p i g) 39 (i + 1))) = s_drp p (i + 1) g from s_drp_s hp]
    exact ih (i + 1) (by omega) (by omega)
theorem b_drop (g : qM) (u : qW) {n p : Nat} (hn : g 35 3 = Int32.ofNat n) (h6 : n ≤ 6) (hp : p < n) : q_BS 103 [.ref 35, .int (Int32.ofNat p)] g u (none, q_up (s_drp p (n - 1) g) 35 3 (g 35 3 - 1), u) := by
  refine q_bx (mm := m_103) rfl (Nat.le_of_ble_eq_true rfl) rfl ?_
  refine q_step 2 2 [(0, .ref 35), (1, .int (Int32.ofNat p)), (2, .int (Int32.ofNat p))] [] g u (fun big n0 => sg_oc_7 big n0 g u (Int32.ofNat p)) ?_
  have e := dr_l g u (p := p) hn h6 (n - 1 - p) p (by omega) (Nat.le_refl _)
  rw [s_drp_0] at e
  exact e
theorem to_l (u : qW) {n W H : Nat} {r : qM} (h : w_ok n W H r) (h5 : n ≤ 6) : ∀ k i a g, i + k = n → w_cs 20 n g r → q_EV m_102 4 [(0, .ref 34), (1, .ref 20), (2, .int a), (3, .int (Int32.ofNat i))] [] g u (w_po w_fc g (.int (s_bs (p_out n r) k i a))) := by
  intro k
  induction k with
  | zero =>
    intro i a g hi hc
    refine q_step 3 9 [(0, .ref 34), (1, .ref 20), (2, .int a), (3, .int (Int32.ofNat i))] [.int (g 20 3), .int (Int32.ofNat i)] g u (fun big n0 => sg_oc_8 big n0 g u a (Int32.ofNat i)) ?_
    refine q_ic_ge rfl (fun (hc0 : (g 20 3) ≤ (Int32.ofNat i)) => ?_) (fun hc0 => absurd (show (g 20 3) ≤ (Int32.ofNat i) from by rw [hc.1.1, h.2.1]; exact (q_le (by omega) (by omega)).mpr (by omega)) hc0)
    refine q_ret 2 (some (.int a), g, u) (fun _ _ => rfl) ?_
    exact ⟨g, u, rfl, w_fc_rfl g⟩
  | succ k ih =>
    intro i a g hi hc
    refine q_step 3 9 [(0, .ref 34), (1, .ref 20), (2, .int a), (3, .int (Int32.ofNat i))] [.int (g 20 3), .int (Int32.ofNat i)] g u (fun big n0 => sg_oc_8 big n0 g u a (Int32.ofNat i)) ?_
    refine q_ic_ge rfl (fun hc0 => absurd (show (g 20 3) ≤ (Int32.ofNat i) from hc0) (fun z => by rw [hc.1.1, h.2.1] at z; exact absurd ((q_le (by omega) (by omega)).mp z) (by omega))) (fun (hc0 : ¬ ((g 20 3) ≤ (Int32.ofNat i))) => ?_)
    refine q_step 3 17 [(0, .ref 34), (1, .ref 20), (2, .int a), (3, .int (Int32.ofNat i))] [.ref 20, .ref 35] g u (fun big n0 => sg_oc_9 big n0 g u a (Int32.ofNat i)) ?_
    have hy := w_cpy (a := 35) (b := 20) h5 (by omega) hc
    refine q_call (M2 := 41) (rest := []) (b_cpy35_20 _ _) (fun _ _ => rfl) ?_
    refine q_step 3 25 [(0, .ref 34), (1, .ref 20), (2, .int a), (3, .int (Int32.ofNat i))] [.int (Int32.ofNat i), .ref 35] (s_cpy 35 20 g) u (fun big n0 => sg_oc_10 big n0 (s_cpy 35 20 g) u a (Int32.ofNat i)) ?_
    have ho := w_ok_out (p := i) h
    have hd := w_cs_out (p := i) (by omega) h hy
    refine q_call (M2 := 103) (rest := []) (b_drop (s_cpy 35 20 g) u (hy.1.1.trans h.2.1) h5 (by omega)) (fun _ _ => rfl) ?_
    refine q_step 2 30 [(0, .ref 34), (1, .ref 20), (2, .int a), (3, .int (Int32.ofNat i))] [.ref 34, .int a] (q_up (s_drp i (n - 1) (s_cpy 35 20 g)) 35 3 ((s_cpy 35 20 g) 35 3 - 1)) u (fun big n0 => sg_oc_11 big n0 (q_up (s_drp i (n - 1) (s_cpy 35 20 g)) 35 3 ((s_cpy 35 20 g) 35 3 - 1)) u a (Int32.ofNat i)) ?_
    by_cases hc1 : s_ran (n - 1) (gh_out n i r) = 0
    · refine q_call (M2 := 83) (rest := [.int a]) (show q_BS 83 [.ref 34] (q_up (s_drp i (n - 1) (s_cpy 35 20 g)) 35 3 ((s_cpy 35 20 g) 35 3 - 1)) u (some (.int (1 : Int32)), s_step 35 (n - 1) (q_up (s_drp i (n - 1) (s_cpy 35 20 g)) 35 3 ((s_cpy 35 20 g) 35 3 - 1)), u) from by have e := c_tar u ho hd; rw [if_pos hc1] at e; exact e) (fun _ _ => rfl) ?_
      refine q_step 9 4 [(0, .ref 34), (1, .ref 20), (2, .int (a ||| ((1 : Int32) <<< ((Int32.ofNat i) &&& 31)))), (3, .int ((Int32.ofNat i) + (1 : Int32)))] [] (s_step 35 (n - 1) (q_up (s_drp i (n - 1) (s_cpy 35 20 g)) 35 3 ((s_cpy 35 20 g) 35 3 - 1))) u (fun big n0 => sg_oc_12 big n0 (s_step 35 (n - 1) (q_up (s_drp i (n - 1) (s_cpy 35 20 g)) 35 3 ((s_cpy 35 20 g) 35 3 - 1))) u a (Int32.ofNat i) a) ?_
      have e : p_out n r i = 1 := by
        unfold p_out
        rw [if_pos hc1]
      rw [s_bs_1 e, q_succ]
      exact q_EV.imp (ih (i + 1) _ (s_step 35 (n - 1) (q_up (s_drp i (n - 1) (s_cpy 35 20 g)) 35 3 ((s_cpy 35 20 g) 35 3 - 1))) (by omega) (w_cs_fc (w_fc.trans (w_fc.up (w_fc.trans w_cpy_fc (fun b hb => s_drp_o (by omega))) (by omega)) s_step_35) hc)) (fun R z => w_po_c (w_fc.trans (w_fc.up (w_fc.trans w_cpy_fc (fun b hb => s_drp_o (by omega))) (by omega)) s_step_35) rfl z)
    · refine q_call (M2 := 83) (rest := [.int a]) (show q_BS 83 [.ref 34] (q_up (s_drp i (n - 1) (s_cpy 35 20 g)) 35 3 ((s_cpy 35 20 g) 35 3 - 1)) u (some (.int (0 : Int32)), s_step 35 (n - 1) (q_up (s_drp i (n - 1) (s_cpy 35 20 g)) 35 3 ((s_cpy 35 20 g) 35 3 - 1)), u) from by have e := c_tar u ho hd; rw [if_neg hc1] at e; exact e) (fun _ _ => rfl) ?_
      refine q_step 6 4 [(0, .ref 34), (1, .ref 20), (2, .int (a ||| (0 : Int32))), (3, .int ((Int32.ofNat i) + (1 : Int32)))] [] (s_step 35 (n - 1) (q_up (s_drp i (n - 1) (s_cpy 35 20 g)) 35 3 ((s_cpy 35 20 g) 35 3 - 1))) u (fun big n0 => sg_oc_13 big n0 (s_step 35 (n - 1) (q_up (s_drp i (n - 1) (s_cpy 35 20 g)) 35 3 ((s_cpy 35 20 g) 35 3 - 1))) u a (Int32.ofNat i) a) ?_
      have e : p_out n r i = 0 := by
        unfold p_out
        rw [if_neg hc1]
      rw [s_bs_0 e, q_succ, s_or00]
      exact q_EV.imp (ih (i + 1) _ (s_step 35 (n - 1) (q_up (s_drp i (n - 1) (s_cpy 35 20 g)) 35 3 ((s_cpy 35 20 g) 35 3 - 1))) (by omega) (w_cs_fc (w_fc.trans (w_fc.up (w_fc.trans w_cpy_fc (fun b hb => s_drp_o (by omega))) (by omega)) s_step_35) hc)) (fun R z => w_po_c (w_fc.trans (w_fc.up (w_fc.trans w_cpy_fc (fun b hb => s_drp_o (by omega))) (by omega)) s_step_35) rfl z)
theorem c_out102 {n W H : Nat} {g r : qM} (u : qW) (h : w_ok n W H r) (hc : w_cs 20 n g r) : w_BS w_fc 102 [.ref 34, .ref 20] g u (.int (f_out n r)) := by
  refine w_bs (mm := m_102) rfl (Nat.le_of_ble_eq_true rfl) rfl ?_
  refine q_step 4 4 [(0, .ref 34), (1, .ref 20), (2, .int (0 : Int32)), (3, .int (0 : Int32))] [] g u (fun big n0 => sg_oc_14 big n0 g u) ?_
  exact to_l u h h.1.2.2.2.2 n 0 0 g (by omega) hc
theorem c_out {n W H : Nat} {g r : qM} (u : qW) (h : w_ok n W H r) (hc : w_cs 20 n g r) : w_BS w_fc 101 [.ref 8] g u (.int (f_out n r)) := by
  refine w_bs (mm := m_101) rfl (Nat.le_of_ble_eq_true rfl) rfl ?_
  refine q_step 4 8 [(0, .ref 8)] [.ref 20, .ref 34] g u (fun big n0 => sg_oc_15 big n0 g u) ?_
  obtain ⟨g1, u1, hb, hf⟩ := c_out102 u h hc
  refine q_call (M2 := 102) (rest := []) (hb) (fun _ _ => rfl) ?_
  refine q_ret 1 (some (.int (f_out n r)), g1, u1) (fun _ _ => rfl) ?_
  exact ⟨g1, u1, rfl, hf⟩
theorem ro_l (g : qM) (u : qW) {n p : Nat} {a : Int32} (hn : g 70 4 = Int32.ofNat n) (h6 : n ≤ 6) {Q : Option Value × qM × qW → Prop} (hk : q_EV m_206 76 [(0, .ref 70), (1, .int a), (2, .int (Int32.ofNat p)), (3, .int (Int32.ofNat (n - 1)))] [] (s_rdr p (n - 1) g) u Q) : ∀ k i, i + k + 1 = n → p ≤ i → q_EV m_206 18 [(0, .ref 70), (1, .int a), (2, .int (Int32.ofNat p)), (3, .int (Int32.ofNat i))] [] (s_rdr p i g) u Q := by
  intro k
  induction k with
  | zero =>
    intro i hi hp
    rw [show n - 1 = i by omega] at hk
    refine q_step 5 25 [(0, .ref 70), (1, .int a), (2, .int (Int32.ofNat p)), (3, .int (Int32.ofNat i))] [.int (g 70 4), .int ((Int32.ofNat i) + (1 : Int32))] (s_rdr p i g) u (fun big n0 => sg_oc_16 big n0 (s_rdr p i g) u a (Int32.ofNat p) (Int32.ofNat i)) ?_
    refine q_ic_ge rfl (fun (hc0 : (g 70 4) ≤ ((Int32.ofNat i) + (1 : Int32))) => ?_) (fun hc0 => absurd (show (g 70 4) ≤ ((Int32.ofNat i) + (1 : Int32)) from by rw [hn, q_succ]; exact (q_le (by omega) (by omega)).mpr (by omega)) hc0)
    exact hk
  | succ k ih =>
    intro i hi hp
    refine q_step 5 25 [(0, .ref 70), (1, .int a), (2, .int (Int32.ofNat p)), (3, .int (Int32.ofNat i))] [.int (g 70 4), .int ((Int32.ofNat i) + (1 : Int32))] (s_rdr p i g) u (fun big n0 => sg_oc_16 big n0 (s_rdr p i g) u a (Int32.ofNat p) (Int32.ofNat i)) ?_
    refine q_ic_ge rfl (fun hc0 => absurd (show (g 70 4) ≤ ((Int32.ofNat i) + (1 : Int32)) from hc0) (fun z => by rw [hn, q_succ] at z; exact absurd ((q_le (by omega) (by omega)).mp z) (by omega))) (fun (hc0 : ¬ ((g 70 4) ≤ ((Int32.ofNat i) + (1 : Int32)))) => ?_)
    refine q_step 8 40 [(0, .ref 70), (1, .int a), (2, .int (Int32.ofNat p)), (3, .int (Int32.ofNat i))] [.int ((Int32.ofNat i) + (1 : Int32)), .ref 75, .int (Int32.ofNat i), .ref 75] (s_rdr p i g) u (fun big n0 => sg_oc_17 big n0 (s_rdr p i g) u a (Int32.ofNat p) (Int32.ofNat i)) ?_
    refine q_iald (j := (i + 1)) (by rw [q_succ]; exact q_ixn (by omega) (by omega)) rfl rfl ?_
    refine q_iast (j := i) (q_ixn (by omega) (by omega)) rfl rfl ?_
    refine q_step 8 54 [(0, .ref 70), (1, .int a), (2, .int (Int32.ofNat p)), (3, .int (Int32.ofNat i))] [.int ((Int32.ofNat i) + (1 : Int32)), .ref 76, .int (Int32.ofNat i), .ref 76] (q_up (s_rdr p i g) 75 i ((s_rdr p i g) 75 (i + 1))) u (fun big n0 => sg_oc_18 big n0 (q_up (s_rdr p i g) 75 i ((s_rdr p i g) 75 (i + 1))) u a (Int32.ofNat p) (Int32.ofNat i)) ?_
    refine q_iald (j := (i + 1)) (by rw [q_succ]; exact q_ixn (by omega) (by omega)) rfl rfl ?_
    refine q_iast (j := i) (q_ixn (by omega) (by omega)) rfl rfl ?_
    refine q_step 8 68 [(0, .ref 70), (1, .int a), (2, .int (Int32.ofNat p)), (3, .int (Int32.ofNat i))] [.int ((Int32.ofNat i) + (1 : Int32)), .ref 77, .int (Int32.ofNat i), .ref 77] (q_up (q_up (s_rdr p i g) 75 i ((s_rdr p i g) 75 (i + 1))) 76 i ((s_rdr p i g) 76 (i + 1))) u (fun big n0 => sg_oc_19 big n0 (q_up (q_up (s_rdr p i g) 75 i ((s_rdr p i g) 75 (i + 1))) 76 i ((s_rdr p i g) 76 (i + 1))) u a (Int32.ofNat p) (Int32.ofNat i)) ?_
    refine q_iald (j := (i + 1)) (by rw [q_succ]; exact q_ixn (by omega) (by omega)) rfl rfl ?_
    refine q_iast (j := i) (q_ixn (by omega) (by omega)) rfl rfl ?_
    refine q_step 2 18 [(0, .ref 70), (1, .int a), (2, .int (Int32.ofNat p)), (3, .int ((Int32.ofNat i) + (1 : Int32)))] [] (q_up (q_up (q_up (s_rdr p i g) 75 i ((s_rdr p i g) 75 (i + 1))) 76 i ((s_rdr p i g) 76 (i + 1))) 77 i ((s_rdr p i g) 77 (i + 1))) u (fun big n0 => sg_oc_20 big n0 (q_up (q_up (q_up (s_rdr p i g) 75 i ((s_rdr p i g) 75 (i + 1))) 76 i ((s_rdr p i g) 76 (i + 1))) 77 i ((s_rdr p i g) 77 (i + 1))) u a (Int32.ofNat p) (Int32.ofNat i)) ?_
    rw [q_succ, show (q_up (q_up (q_up (s_rdr p i g) 75 i ((s_rdr p i g) 75 (i + 1))) 76 i ((s_rdr p i g) 76 (i + 1))) 77 i ((s_rdr p i g) 77 (i + 1))) = s_rdr p (i + 1) g from s_rdr_s hp]
    exact ih (i + 1) (by omega) (by omega)
theorem ro_o (u : qW) {n W H : Nat} {r : qM} (h : w_ok n W H r) (h5 : n ≤ 5) : ∀ k i a g, i + k = n → w_sm n (s_start g) r → q_EV m_206 4 [(0, .ref 70), (1, .int a), (2, .int (Int32.ofNat i))] [] g u (w_po w_fr g (.int (s_bs (p_out n r) k i a))) := by
  intro k
  induction k with
  | zero =>
    intro i a g hi hs
    refine q_step 3 9 [(0, .ref 70), (1, .int a), (2, .int (Int32.ofNat i))] [.int (g 70 4), .int (Int32.ofNat i)] g u (fun big n0 => sg_oc_21 big n0 g u a (Int32.ofNat i)) ?_
    refine q_ic_ge rfl (fun (hc0 : (g 70 4) ≤ (Int32.ofNat i)) => ?_) (fun hc0 => absurd (show (g 70 4) ≤ (Int32.ofNat i) from by rw [w_pl h hs]; exact (q_le (by omega) (by omega)).mpr (by omega)) hc0)
    refine q_ret 2 (some (.int a), g, u) (fun _ _ => rfl) ?_
    exact ⟨g, u, rfl, w_fr_rfl g⟩
  | succ k ih =>
    intro i a g hi hs
    refine q_step 3 9 [(0, .ref 70), (1, .int a), (2, .int (Int32.ofNat i))] [.int (g 70 4), .int (Int32.ofNat i)] g u (fun big n0 => sg_oc_21 big n0 g u a (Int32.ofNat i)) ?_
    refine q_ic_ge rfl (fun hc0 => absurd (show (g 70 4) ≤ (Int32.ofNat i) from hc0) (fun z => by rw [w_pl h hs] at z; exact absurd ((q_le (by omega) (by omega)).mp z) (by omega))) (fun (hc0 : ¬ ((g 70 4) ≤ (Int32.ofNat i))) => ?_)
    refine q_step 1 13 [(0, .ref 70), (1, .int a), (2, .int (Int32.ofNat i))] [.ref 70] g u (fun big n0 => sg_oc_22 big n0 g u a (Int32.ofNat i)) ?_
    refine q_call (M2 := 172) (rest := []) (b_starts g u) (fun _ _ => rfl) ?_
    refine q_step 2 18 [(0, .ref 70), (1, .int a), (2, .int (Int32.ofNat i)), (3, .int (Int32.ofNat i))] [] (s_start g) u (fun big n0 => sg_oc_23 big n0 (s_start g) u a (Int32.ofNat i)) ?_
    have h4 : (s_start g) 70 4 = Int32.ofNat n := (show g 70 4 = Int32.ofNat n from w_pl h hs)
    have ho := w_ok_out (p := i) h
    have hd := w_sm_out (p := i) (by omega) h hs h4
    have hfr : w_fr g (s_rst (n - 1) (q_up (s_rdr i (n - 1) (s_start g)) 70 27 ((s_start g) 70 4 - 1))) := (s_start_fr.trans (s_rdr_fr.up27)).trans s_rst_fr
    have key := ro_l (s_start g) u (a := a) (Q := w_po w_fr g (.int (s_bs (p_out n r) (k + 1) i a))) (p := i) h4 (by omega) ?_ (n - 1 - i) i (by omega) (Nat.le_refl _)
    · rw [s_rdr_0] at key
      exact key
    · refine q_step 8 88 [(0, .ref 70), (1, .int a), (2, .int (Int32.ofNat i)), (3, .int (Int32.ofNat (n - 1)))] [.ref 70, .int a] (q_up (s_rdr i (n - 1) (s_start g)) 70 27 (((s_start g) 70 4) - (1 : Int32))) u (fun big n0 => sg_oc_24 big n0 (s_rdr i (n - 1) (s_start g)) u a (Int32.ofNat i) (Int32.ofNat (n - 1))) ?_
      by_cases hc0 : s_ran (n - 1) (gh_out n i r) = 0
      · have hz := (w_sm_rst ho hd).2.2
        refine q_call (M2 := 191) (rest := [.int a]) (c_rst u ho hd) (fun _ _ => rfl) ?_
        refine q_if_ne rfl (fun (hc1 : (s_ran (n - 1) (q_up (s_rdr i (n - 1) (s_start g)) 70 27 ((s_start g) 70 4 - 1))) = 0) => ?_) (fun hc1 => absurd (show (s_ran (n - 1) (q_up (s_rdr i (n - 1) (s_start g)) 70 27 ((s_start g) 70 4 - 1))) = 0 from hz.mpr hc0) hc1)
        refine q_step 2 99 [(0, .ref 70), (1, .int a), (2, .int (Int32.ofNat i)), (3, .int (Int32.ofNat (n - 1)))] [.int (1 : Int32), .int a] (s_rst (n - 1) (q_up (s_rdr i (n - 1) (s_start g)) 70 27 ((s_start g) 70 4 - 1))) u (fun big n0 => sg_oc_25 big n0 (s_rst (n - 1) (q_up (s_rdr i (n - 1) (s_start g)) 70 27 ((s_start g) 70 4 - 1))) u a (Int32.ofNat i) (Int32.ofNat (n - 1)) a) ?_
        refine q_call (M2 := 164) (rest := [.int a]) (b_flag1 _ _) (fun _ _ => rfl) ?_
        refine q_step 6 4 [(0, .ref 70), (1, .int (a ||| ((1 : Int32) <<< ((Int32.ofNat i) &&& 31)))), (2, .int ((Int32.ofNat i) + (1 : Int32))), (3, .int (Int32.ofNat (n - 1)))] [] (s_rst (n - 1) (q_up (s_rdr i (n - 1) (s_start g)) 70 27 ((s_start g) 70 4 - 1))) u (fun big n0 => sg_oc_26 big n0 (s_rst (n - 1) (q_up (s_rdr i (n - 1) (s_start g)) 70 27 ((s_start g) 70 4 - 1))) u a (Int32.ofNat i) (Int32.ofNat (n - 1)) a) ?_
        refine q_weak [(0, .ref 70), (1, .int (a ||| ((1 : Int32) <<< ((Int32.ofNat i) &&& 31)))), (2, .int ((Int32.ofNat i) + (1 : Int32)))] (q_sub.cons rfl (q_sub.cons rfl (q_sub.cons rfl q_sub.nil))) ?_
        have e : p_out n r i = 1 := by
          unfold p_out
          rw [if_pos hc0]
        rw [s_bs_1 e, q_succ]
        exact q_EV.imp (ih (i + 1) _ (s_rst (n - 1) (q_up (s_rdr i (n - 1) (s_start g)) 70 27 ((s_start g) 70 4 - 1))) (by omega) (w_st_sm hfr h5 hs)) (fun R z => w_po_r hfr rfl z)
      · have hz := (w_sm_rst ho hd).2.2
        refine q_call (M2 := 191) (rest := [.int a]) (c_rst u ho hd) (fun _ _ => rfl) ?_
        refine q_if_ne rfl (fun hc1 => absurd (show (s_ran (n - 1) (q_up (s_rdr i (n - 1) (s_start g)) 70 27 ((s_start g) 70 4 - 1))) = 0 from hc1) (fun z => hc0 (hz.mp z))) (fun (hc1 : ¬ ((s_ran (n - 1) (q_up (s_rdr i (n - 1) (s_start g)) 70 27 ((s_start g) 70 4 - 1))) = 0)) => ?_)
        refine q_step 1 99 [(0, .ref 70), (1, .int a), (2, .int (Int32.ofNat i)), (3, .int (Int32.ofNat (n - 1)))] [.int (0 : Int32), .int a] (s_rst (n - 1) (q_up (s_rdr i (n - 1) (s_start g)) 70 27 ((s_start g) 70 4 - 1))) u (fun big n0 => sg_oc_27 big n0 (s_rst (n - 1) (q_up (s_rdr i (n - 1) (s_start g)) 70 27 ((s_start g) 70 4 - 1))) u a (Int32.ofNat i) (Int32.ofNat (n - 1)) a) ?_
        refine q_call (M2 := 164) (rest := [.int a]) (b_flag0 _ _) (fun _ _ => rfl) ?_
        refine q_step 6 4 [(0, .ref 70), (1, .int (a ||| ((0 : Int32) <<< ((Int32.ofNat i) &&& 31)))), (2, .int ((Int32.ofNat i) + (1 : Int32))), (3, .int (Int32.ofNat (n - 1)))] [] (s_rst (n - 1) (q_up (s_rdr i (n - 1) (s_start g)) 70 27 ((s_start g) 70 4 - 1))) u (fun big n0 => sg_oc_28 big n0 (s_rst (n - 1) (q_up (s_rdr i (n - 1) (s_start g)) 70 27 ((s_start g) 70 4 - 1))) u a (Int32.ofNat i) (Int32.ofNat (n - 1)) a) ?_
        refine q_weak [(0, .ref 70), (1, .int (a ||| ((0 : Int32) <<< ((Int32.ofNat i) &&& 31)))), (2, .int ((Int32.ofNat i) + (1 : Int32)))] (q_sub.cons rfl (q_sub.cons rfl (q_sub.cons rfl q_sub.nil))) ?_
        have e : p_out n r i = 0 := by
          unfold p_out
          rw [if_neg hc0]
        rw [s_bs_0 e, q_succ, s_or0]
        exact q_EV.imp (ih (i + 1) _ (s_rst (n - 1) (q_up (s_rdr i (n - 1) (s_start g)) 70 27 ((s_start g) 70 4 - 1))) (by omega) (w_st_sm hfr h5 hs)) (fun R z => w_po_r hfr rfl z)
theorem r_out {n W H : Nat} {g r : qM} (u : qW) (h : w_ok n W H r) (hs : w_sm n (s_start g) r) (h5 : n ≤ 5) : w_BS w_fr 206 [.ref 70] g u (.int (f_out n r)) := by
  refine w_bs (mm := m_206) rfl (Nat.le_of_ble_eq_true rfl) rfl ?_
  refine q_step 4 4 [(0, .ref 70), (1, .int (0 : Int32)), (2, .int (0 : Int32))] [] g u (fun big n0 => sg_oc_29 big n0 g u) ?_
  exact ro_o u h h5 n 0 0 g (by omega) hs
def d_isFree (x : Int32) (n : Nat) (g : qM) : Int32 := (if (d_hasWall x g) = 0 then (if (s_w1 (g 21) x n 0) = (Int8.toInt32 (Int8.ofInt (-4))) then (1 : Int32) else (0 : Int32)) else (0 : Int32))
theorem b_isFree (x : Int32) (n : Nat) (g : qM) (u : qW) (hn : g 20 3 = Int32.ofNat n) (h6 : n ≤ 6) : q_BS 28 [.ref 20, .int x] g u (some (.int (d_isFree x n g)), g, u) := by
  refine q_bx (mm := m_28) rfl (Nat.le_of_ble_eq_true rfl) rfl ?_
  refine q_step 2 2 [(0, .ref 20), (1, .int x)] [.int x, .ref 20] g u (fun big n0 => sg_oc_30 big n0 g u x) ?_
  refine q_call (M2 := 29) (rest := []) (b_hasWall _ _ _) (fun _ _ => rfl) ?_
  refine q_if_ne rfl (fun (hc0 : (d_hasWall x g) = 0) => ?_) (fun (hc0 : ¬ ((d_hasWall x g) = 0)) => ?_)
  · refine q_step 2 10 [(0, .ref 20), (1, .int x)] [.int x, .ref 20] g u (fun big n0 => sg_oc_31 big n0 g u x) ?_
    refine q_call (M2 := 30) (rest := []) (b_who20 x g u hn h6) (fun _ _ => rfl) ?_
    refine q_step 1 15 [(0, .ref 20), (1, .int x)] [.int (Int8.toInt32 (Int8.ofInt (-4))), .int (s_w1 (g 21) x n 0)] g u (fun big n0 => sg_oc_32 big n0 g u x (s_w1 (g 21) x n 0)) ?_
    refine q_ic_ne rfl (fun (hc1 : (s_w1 (g 21) x n 0) = (Int8.toInt32 (Int8.ofInt (-4)))) => ?_) (fun (hc1 : ¬ ((s_w1 (g 21) x n 0) = (Int8.toInt32 (Int8.ofInt (-4))))) => ?_)
    · refine q_ret 3 (some (.int (1 : Int32)), g, u) (fun _ _ => rfl) ?_
      unfold d_isFree
      rw [if_pos hc0, if_pos hc1]
    · refine q_ret 2 (some (.int (0 : Int32)), g, u) (fun _ _ => rfl) ?_
      unfold d_isFree
      rw [if_pos hc0, if_neg hc1]
  · refine q_ret 2 (some (.int (0 : Int32)), g, u) (fun _ _ => rfl) ?_
    unfold d_isFree
    rw [if_neg hc0]
def d_canHold (p : Nat) (x : Int32) (n : Nat) (g : qM) : Int32 := (if x = (g 21 p) then (1 : Int32) else (if (d_isFree x n g) = 0 then (0 : Int32) else (1 : Int32)))
theorem b_canHold (p : Nat) (x : Int32) (n : Nat) (g : qM) (u : qW) (hn : g 20 3 = Int32.ofNat n) (h6 : n ≤ 6) (hp : p < 6) : q_BS 50 [.ref 20, .int (Int32.ofNat p), .int x] g u (some (.int (d_canHold p x n g)), g, u) := by
  refine q_bx (mm := m_50) rfl (Nat.le_of_ble_eq_true rfl) rfl ?_
  refine q_step 4 6 [(0, .ref 20), (1, .int (Int32.ofNat p)), (2, .int x)] [.int (Int32.ofNat p), .ref 21, .int x] g u (fun big n0 => sg_oc_33 big n0 g u (Int32.ofNat p) x) ?_
  refine q_iald (j := p) (q_ixn (by omega) (by omega)) rfl rfl ?_
  refine q_ic_eq rfl (fun (hc0 : x = (g 21 p)) => ?_) (fun (hc0 : ¬ (x = (g 21 p))) => ?_)
  · refine q_ret 3 (some (.int (1 : Int32)), g, u) (fun _ _ => rfl) ?_
    unfold d_canHold
    rw [if_pos hc0]
  · refine q_step 2 12 [(0, .ref 20), (1, .int (Int32.ofNat p)), (2, .int x)] [.int x, .ref 20] g u (fun big n0 => sg_oc_34 big n0 g u (Int32.ofNat p) x) ?_
    refine q_call (M2 := 28) (rest := []) (b_isFree x n g u hn h6) (fun _ _ => rfl) ?_
    refine q_if_eq rfl (fun (hc1 : (d_isFree x n g) = 0) => ?_) (fun (hc1 : ¬ ((d_isFree x n g) = 0)) => ?_)
    · refine q_ret 2 (some (.int (0 : Int32)), g, u) (fun _ _ => rfl) ?_
      unfold d_canHold
      rw [if_neg hc0, if_pos hc1]
    · refine q_ret 3 (some (.int (1 : Int32)), g, u) (fun _ _ => rfl) ?_
      unfold d_canHold
      rw [if_neg hc0, if_neg hc1]
theorem w_canc {n p c : Nat} {g r : qM} (hc : w_cs 20 n g r) (hp : p < n) : d_canHold p (Int32.ofNat c) n g = p_can n r p c := by
  unfold d_canHold p_can d_isFree
  rw [(hc.2.2 p hp).1, w_who_c (T := 20) hc]
  by_cases e : Int32.ofNat c = r 75 p
  · rw [if_pos e, if_pos e]
  · rw [if_neg e, if_neg e]
    by_cases hw : s_bit (r 71 20) (Int32.ofNat c) = 0
    · rw [if_pos hw, if_pos (d_hw_iff.mpr (by rw [hc.1.2.2.2.1]; exact hw))]
      by_cases hn : f_who n r (Int32.ofNat c) = i_none
      · rw [if_pos hn, if_neg (show ¬ (1 : Int32) = 0 by decide)]
      · rw [if_neg hn, if_pos rfl]
    · rw [if_neg hw, if_neg (show ¬ d_hasWall (Int32.ofNat c) g = 0 from fun z => hw (by rw [← hc.1.2.2.2.1]; exact d_hw_iff.mp z)), if_pos rfl]
theorem p_can_01 (n : Nat) (r : qM) (p c : Nat) : p_can n r p c = 0 ∨ p_can n r p c = 1 := by
  unfold p_can
  split
  · exact Or.inr rfl
  · split
    · exact s_01 _
    · exact Or.inl rfl
theorem cl_l (u : qW) {n W H p : Nat} {r : qM} (h : w_ok n W H r) (hp : p < n) : ∀ k i a g, i + k = W * H → w_cs 20 n g r → w_tr n g r → q_EV m_105 13 [(0, .ref 34), (1, .ref 20), (2, .int (Int32.ofNat p)), (3, .int a), (4, .int (Int32.ofNat i))] [] g u (w_po w_fc g (.int (s_bs (p_calm n r p) k i a))) := by
  intro k
  induction k with
  | zero =>
    intro i a g hi hc ht
    refine q_step 2 16 [(0, .ref 34), (1, .ref 20), (2, .int (Int32.ofNat p)), (3, .int a), (4, .int (Int32.ofNat i))] [.ref 20, .int (Int32.ofNat i)] g u (fun big n0 => sg_oc_35 big n0 g u (Int32.ofNat p) a (Int32.ofNat i)) ?_
    have hWH := w_WH h
    refine q_call (M2 := 39) (rest := [.int (Int32.ofNat i)]) (b_size _ _) (fun _ _ => rfl) ?_
    refine q_ic_ge rfl (fun (hc0 : (d_size g) ≤ (Int32.ofNat i)) => ?_) (fun hc0 => absurd (show (d_size g) ≤ (Int32.ofNat i) from by unfold d_size; rw [hc.1.2.1, hc.1.2.2.1, w_size h]; exact (q_le (by omega) (by omega)).mpr (by omega)) hc0)
    refine q_ret 2 (some (.int a), g, u) (fun _ _ => rfl) ?_
    exact ⟨g, u, rfl, w_fc_rfl g⟩
  | succ k ih =>
    intro i a g hi hc ht
    refine q_step 2 16 [(0, .ref 34), (1, .ref 20), (2, .int (Int32.ofNat p)), (3, .int a), (4, .int (Int32.ofNat i))] [.ref 20, .int (Int32.ofNat i)] g u (fun big n0 => sg_oc_35 big n0 g u (Int32.ofNat p) a (Int32.ofNat i)) ?_
    have hWH := w_WH h
    have h5 : n ≤ 6 := h.1.2.2.2.2
    refine q_call (M2 := 39) (rest := [.int (Int32.ofNat i)]) (b_size _ _) (fun _ _ => rfl) ?_
    refine q_ic_ge rfl (fun hc0 => absurd (show (d_size g) ≤ (Int32.ofNat i) from hc0) (fun z => by unfold d_size at z; rw [hc.1.2.1, hc.1.2.2.1, w_size h] at z; exact absurd ((q_le (by omega) (by omega)).mp z) (by omega))) (fun (hc0 : ¬ ((d_size g) ≤ (Int32.ofNat i))) => ?_)
    refine q_step 3 26 [(0, .ref 34), (1, .ref 20), (2, .int (Int32.ofNat p)), (3, .int a), (4, .int (Int32.ofNat i))] [.int (Int32.ofNat i), .int (Int32.ofNat p), .ref 20] g u (fun big n0 => sg_oc_36 big n0 g u (Int32.ofNat p) a (Int32.ofNat i)) ?_
    by_cases hc1 : p_can n r p i = 0
    · refine q_call (M2 := 50) (rest := []) (show q_BS 50 [.ref 20, .int (Int32.ofNat p), .int (Int32.ofNat i)] g u (some (.int (0 : Int32)), g, u) from by
    have e := b_canHold p (Int32.ofNat i) n g u (hc.1.1.trans h.2.1) h5 (by omega)
    rw [w_canc hc hp, hc1] at e
    exact e) (fun _ _ => rfl) ?_
      refine q_step 3 13 [(0, .ref 34), (1, .ref 20), (2, .int (Int32.ofNat p)), (3, .int a), (4, .int ((Int32.ofNat i) + (1 : Int32)))] [] g u (fun big n0 => sg_oc_37 big n0 g u (Int32.ofNat p) a (Int32.ofNat i)) ?_
      have e : p_calm n r p i = 0 := by
        unfold p_calm
        rw [if_pos hc1]
      rw [s_bs_0 e, q_succ]
      exact ih (i + 1) _ g (by omega) hc ht
    · refine q_call (M2 := 50) (rest := []) (show q_BS 50 [.ref 20, .int (Int32.ofNat p), .int (Int32.ofNat i)] g u (some (.int (1 : Int32)), g, u) from by
    have e := b_canHold p (Int32.ofNat i) n g u (hc.1.1.trans h.2.1) h5 (by omega)
    rw [w_canc hc hp, (p_can_01 n r p i).resolve_left hc1] at e
    exact e) (fun _ _ => rfl) ?_
      refine q_step 4 37 [(0, .ref 34), (1, .ref 20), (2, .int (Int32.ofNat p)), (3, .int a), (4, .int (Int32.ofNat i))] [.ref 20, .ref 35] g u (fun big n0 => sg_oc_38 big n0 g u (Int32.ofNat p) a (Int32.ofNat i)) ?_
      refine q_call (M2 := 42) (rest := []) (b_cpl35_20 _ _) (fun _ _ => rfl) ?_
      refine q_step 5 50 [(0, .ref 34), (1, .ref 20), (2, .int (Int32.ofNat p)), (3, .int a), (4, .int (Int32.ofNat i))] [.int (Int32.ofNat i), .int (Int32.ofNat p), .ref 36] (s_cpl 35 20 g) u (fun big n0 => sg_oc_39 big n0 (s_cpl 35 20 g) u (Int32.ofNat p) a (Int32.ofNat i)) ?_
      refine q_iast (j := p) (q_ixn (by omega) (by omega)) rfl rfl ?_
      refine q_step 2 53 [(0, .ref 34), (1, .ref 20), (2, .int (Int32.ofNat p)), (3, .int a), (4, .int (Int32.ofNat i))] [.ref 34, .int a] (q_up (s_cpl 35 20 g) 36 p (Int32.ofNat i)) u (fun big n0 => sg_oc_40 big n0 (q_up (s_cpl 35 20 g) 36 p (Int32.ofNat i)) u (Int32.ofNat p) a (Int32.ofNat i)) ?_
      by_cases hc2 : s_ran n (q_up r 75 p (Int32.ofNat i)) = 0
      · refine q_call (M2 := 83) (rest := [.int a]) (show q_BS 83 [.ref 34] (q_up (s_cpl 35 20 g) 36 p (Int32.ofNat i)) u (some (.int (1 : Int32)), s_step 35 n (q_up (s_cpl 35 20 g) 36 p (Int32.ofNat i)), u) from by have e := c_tar u (w_ok_put h hp (c := i) (by omega) hc1) (w_cs_put (w_cpl h5 hc ht)); rw [if_pos hc2] at e; exact e) (fun _ _ => rfl) ?_
        refine q_step 9 13 [(0, .ref 34), (1, .ref 20), (2, .int (Int32.ofNat p)), (3, .int (a ||| ((1 : Int32) <<< ((Int32.ofNat i) &&& 31)))), (4, .int ((Int32.ofNat i) + (1 : Int32)))] [] (s_step 35 n (q_up (s_cpl 35 20 g) 36 p (Int32.ofNat i))) u (fun big n0 => sg_oc_41 big n0 (s_step 35 n (q_up (s_cpl 35 20 g) 36 p (Int32.ofNat i))) u (Int32.ofNat p) a (Int32.ofNat i) a) ?_
        have e : p_calm n r p i = 1 := by
          unfold p_calm
          rw [if_neg hc1, if_pos hc2]
        rw [s_bs_1 e, q_succ]
        exact q_EV.imp (ih (i + 1) _ (s_step 35 n (q_up (s_cpl 35 20 g) 36 p (Int32.ofNat i))) (by omega) (w_cs_fc (w_fc.trans (w_fc.up w_cpl_fc (by omega)) s_step_35) hc) (w_tr_step (w_tr_cpl ht))) (fun R z => w_po_c (w_fc.trans (w_fc.up w_cpl_fc (by omega)) s_step_35) rfl z)
      · refine q_call (M2 := 83) (rest := [.int a]) (show q_BS 83 [.ref 34] (q_up (s_cpl 35 20 g) 36 p (Int32.ofNat i)) u (some (.int (0 : Int32)), s_step 35 n (q_up (s_cpl 35 20 g) 36 p (Int32.ofNat i)), u) from by have e := c_tar u (w_ok_put h hp (c := i) (by omega) hc1) (w_cs_put (w_cpl h5 hc ht)); rw [if_neg hc2] at e; exact e) (fun _ _ => rfl) ?_
        refine q_step 6 13 [(0, .ref 34), (1, .ref 20), (2, .int (Int32.ofNat p)), (3, .int (a ||| (0 : Int32))), (4, .int ((Int32.ofNat i) + (1 : Int32)))] [] (s_step 35 n (q_up (s_cpl 35 20 g) 36 p (Int32.ofNat i))) u (fun big n0 => sg_oc_42 big n0 (s_step 35 n (q_up (s_cpl 35 20 g) 36 p (Int32.ofNat i))) u (Int32.ofNat p) a (Int32.ofNat i) a) ?_
        have e : p_calm n r p i = 0 := by
          unfold p_calm
          rw [if_neg hc1, if_neg hc2]
        rw [s_bs_0 e, q_succ, s_or00]
        exact q_EV.imp (ih (i + 1) _ (s_step 35 n (q_up (s_cpl 35 20 g) 36 p (Int32.ofNat i))) (by omega) (w_cs_fc (w_fc.trans (w_fc.up w_cpl_fc (by omega)) s_step_35) hc) (w_tr_step (w_tr_cpl ht))) (fun R z => w_po_c (w_fc.trans (w_fc.up w_cpl_fc (by omega)) s_step_35) rfl z)
theorem c_calm105 {n W H : Nat} {g r : qM} (u : qW) (h : w_ok n W H r) (hc : w_cs 20 n g r) {p : Nat} (hp : p < n) : w_BS w_fc 105 [.ref 34, .ref 20, .int (Int32.ofNat p)] g u (.int (f_calm n W H r p)) := by
  refine w_bs (mm := m_105) rfl (Nat.le_of_ble_eq_true rfl) rfl ?_
  have h5 : n ≤ 6 := h.1.2.2.2.2
  have hy := w_cpy (a := 35) (b := 20) h5 (by omega) hc
  refine q_step 3 5 [(0, .ref 34), (1, .ref 20), (2, .int (Int32.ofNat p))] [.ref 20, .ref 35] g u (fun big n0 => sg_oc_43 big n0 g u (Int32.ofNat p)) ?_
  refine q_call (M2 := 41) (rest := []) (b_cpy35_20 _ _) (fun _ _ => rfl) ?_
  refine q_step 4 13 [(0, .ref 34), (1, .ref 20), (2, .int (Int32.ofNat p)), (3, .int (0 : Int32)), (4, .int (0 : Int32))] [] (s_cpy 35 20 g) u (fun big n0 => sg_oc_44 big n0 (s_cpy 35 20 g) u (Int32.ofNat p)) ?_
  exact q_EV.imp (cl_l u h hp (W * H) 0 0 (s_cpy 35 20 g) (by omega) (w_cs_fc w_cpy_fc hc) (w_cs_tr hy)) (fun R z => w_po_c w_cpy_fc rfl z)
theorem c_calm {n W H : Nat} {g r : qM} (u : qW) (h : w_ok n W H r) (hc : w_cs 20 n g r) {p : Nat} (hp : p < n) : w_BS w_fc 104 [.ref 8, .int (Int32.ofNat p)] g u (.int (f_calm n W H r p)) := by
  refine w_bs (mm := m_104) rfl (Nat.le_of_ble_eq_true rfl) rfl ?_
  refine q_step 3 5 [(0, .ref 8), (1, .int (Int32.ofNat p))] [.int (Int32.ofNat p), .ref 20] g u (fun big n0 => sg_oc_45 big n0 g u (Int32.ofNat p)) ?_
  refine q_call (M2 := 40) (rest := []) (b_hasOne1 g u (hc.1.1.trans h.2.1) h.1.2.2.2.2 hp) (fun _ _ => rfl) ?_
  refine q_step 6 20 [(0, .ref 8), (1, .int (Int32.ofNat p))] [.int (Int32.ofNat p), .ref 20, .ref 34] g u (fun big n0 => sg_oc_46 big n0 g u (Int32.ofNat p)) ?_
  obtain ⟨g1, u1, hb, hf⟩ := c_calm105 u h hc hp
  refine q_call (M2 := 105) (rest := []) (hb) (fun _ _ => rfl) ?_
  refine q_ret 2 (some (.int (f_calm n W H r p)), g1, u1) (fun _ _ => rfl) ?_
  exact ⟨g1, u1, rfl, hf⟩
theorem rc_l (u : qW) {n W H p : Nat} {r : qM} (h : w_ok n W H r) (h5 : n ≤ 5) (hp : p < n) : ∀ k i a g, i + k = W * H → w_sm n (s_start g) r → q_EV m_207 14 [(0, .ref 70), (1, .int (Int32.ofNat p)), (2, .int a), (3, .int (Int32.ofNat i))] [] g u (w_po w_fr g (.int (s_bs (p_calm n r p) k i a))) := by
  intro k
  induction k with
  | zero =>
    intro i a g hi hs
    have hWH := w_WH h
    have hz2 : g 70 2 * g 70 3 = Int32.ofNat (W * H) := by
      have e1 : g 70 2 = r 70 2 := hs.1.2.1
      have e2 : g 70 3 = r 70 3 := hs.1.2.2.1
      rw [e1, e2, w_size h]
    refine q_step 6 24 [(0, .ref 70), (1, .int (Int32.ofNat p)), (2, .int a), (3, .int (Int32.ofNat i))] [.int ((g 70 2) * (g 70 3)), .int (Int32.ofNat i)] g u (fun big n0 => sg_oc_47 big n0 g u (Int32.ofNat p) a (Int32.ofNat i)) ?_
    refine q_ic_ge rfl (fun (hc0 : ((g 70 2) * (g 70 3)) ≤ (Int32.ofNat i)) => ?_) (fun hc0 => absurd (show ((g 70 2) * (g 70 3)) ≤ (Int32.ofNat i) from by rw [hz2]; exact (q_le (by omega) (by omega)).mpr (by omega)) hc0)
    refine q_ret 2 (some (.int a), g, u) (fun _ _ => rfl) ?_
    exact ⟨g, u, rfl, w_fr_rfl g⟩
  | succ k ih =>
    intro i a g hi hs
    have hWH := w_WH h
    have hz2 : g 70 2 * g 70 3 = Int32.ofNat (W * H) := by
      have e1 : g 70 2 = r 70 2 := hs.1.2.1
      have e2 : g 70 3 = r 70 3 := hs.1.2.2.1
      rw [e1, e2, w_size h]
    refine q_step 6 24 [(0, .ref 70), (1, .int (Int32.ofNat p)), (2, .int a), (3, .int (Int32.ofNat i))] [.int ((g 70 2) * (g 70 3)), .int (Int32.ofNat i)] g u (fun big n0 => sg_oc_47 big n0 g u (Int32.ofNat p) a (Int32.ofNat i)) ?_
    refine q_ic_ge rfl (fun hc0 => absurd (show ((g 70 2) * (g 70 3)) ≤ (Int32.ofNat i) from hc0) (fun z => by rw [hz2] at z; exact absurd ((q_le (by omega) (by omega)).mp z) (by omega))) (fun (hc0 : ¬ (((g 70 2) * (g 70 3)) ≤ (Int32.ofNat i))) => ?_)
    refine q_step 1 28 [(0, .ref 70), (1, .int (Int32.ofNat p)), (2, .int a), (3, .int (Int32.ofNat i))] [.ref 70] g u (fun big n0 => sg_oc_48 big n0 g u (Int32.ofNat p) a (Int32.ofNat i)) ?_
    refine q_call (M2 := 172) (rest := []) (b_starts g u) (fun _ _ => rfl) ?_
    refine q_step 2 33 [(0, .ref 70), (1, .int (Int32.ofNat p)), (2, .int a), (3, .int (Int32.ofNat i))] [.int (Int32.ofNat i), .ref 70] (s_start g) u (fun big n0 => sg_oc_49 big n0 (s_start g) u (Int32.ofNat p) a (Int32.ofNat i)) ?_
    have hwho := b_rwho (s_start g) u (Int32.ofNat i) (w_w0 h hs).1 (w_w0 h hs).2.1
    rw [w_who_r h hs] at hwho
    refine q_call (M2 := 173) (rest := []) (hwho) (fun _ _ => rfl) ?_
    refine q_step 3 40 [(0, .ref 70), (1, .int (Int32.ofNat p)), (2, .int a), (3, .int (Int32.ofNat i)), (4, .int (f_who n r (Int32.ofNat i)))] [.int (Int32.ofNat i), .ref 70] (s_start g) u (fun big n0 => sg_oc_50 big n0 (s_start g) u (Int32.ofNat p) a (Int32.ofNat i) (f_who n r (Int32.ofNat i))) ?_
    refine q_call (M2 := 177) (rest := []) (b_open (Int32.ofNat i) (s_start g) u) (fun _ _ => rfl) ?_
    refine q_if_eq rfl (fun (hc1 : (s_op ((s_start g) 71 20) (Int32.ofNat i)) = 0) => ?_) (fun (hc1 : ¬ ((s_op ((s_start g) 71 20) (Int32.ofNat i)) = 0)) => ?_)
    · refine q_step 2 14 [(0, .ref 70), (1, .int (Int32.ofNat p)), (2, .int a), (3, .int ((Int32.ofNat i) + (1 : Int32))), (4, .int (f_who n r (Int32.ofNat i)))] [] (s_start g) u (fun big n0 => sg_oc_51 big n0 (s_start g) u (Int32.ofNat p) a (Int32.ofNat i) (f_who n r (Int32.ofNat i))) ?_
      refine q_weak [(0, .ref 70), (1, .int (Int32.ofNat p)), (2, .int a), (3, .int ((Int32.ofNat i) + (1 : Int32)))] (q_sub.cons rfl (q_sub.cons rfl (q_sub.cons rfl (q_sub.cons rfl q_sub.nil)))) ?_
      have e : p_calm n r p i = 0 := by
        have hcan := w_can h hp (c := i) (by omega)
        rw [show s_op (r 71 20) (Int32.ofNat i) = s_op ((s_start g) 71 20) (Int32.ofNat i) from by rw [hs.1.2.2.2.1], if_pos hc1] at hcan
        unfold p_calm
        rw [hcan, if_pos rfl]
      rw [s_bs_0 e, q_succ]
      exact q_EV.imp (ih (i + 1) _ (s_start g) (by omega) (w_st_sm s_start_fr h5 hs)) (fun R z => w_po_r s_start_fr rfl z)
    · refine q_step 2 50 [(0, .ref 70), (1, .int (Int32.ofNat p)), (2, .int a), (3, .int (Int32.ofNat i)), (4, .int (f_who n r (Int32.ofNat i)))] [.int (Int8.toInt32 (Int8.ofInt (-4))), .int (f_who n r (Int32.ofNat i))] (s_start g) u (fun big n0 => sg_oc_52 big n0 (s_start g) u (Int32.ofNat p) a (Int32.ofNat i) (f_who n r (Int32.ofNat i))) ?_
      refine q_ic_eq rfl (fun (hc2 : (f_who n r (Int32.ofNat i)) = (Int8.toInt32 (Int8.ofInt (-4)))) => ?_) (fun (hc2 : ¬ ((f_who n r (Int32.ofNat i)) = (Int8.toInt32 (Int8.ofInt (-4))))) => ?_)
      · refine q_step 4 65 [(0, .ref 70), (1, .int (Int32.ofNat p)), (2, .int a), (3, .int (Int32.ofNat i)), (4, .int (f_who n r (Int32.ofNat i)))] [.int (Int32.ofNat i), .int (Int32.ofNat p), .ref 75] (s_start g) u (fun big n0 => sg_oc_53 big n0 (s_start g) u (Int32.ofNat p) a (Int32.ofNat i) (f_who n r (Int32.ofNat i))) ?_
        refine q_iast (j := p) (q_ixn (by omega) (by omega)) rfl rfl ?_
        refine q_step 2 68 [(0, .ref 70), (1, .int (Int32.ofNat p)), (2, .int a), (3, .int (Int32.ofNat i)), (4, .int (f_who n r (Int32.ofNat i)))] [.ref 70, .int a] (q_up (s_start g) 75 p (Int32.ofNat i)) u (fun big n0 => sg_oc_54 big n0 (q_up (s_start g) 75 p (Int32.ofNat i)) u (Int32.ofNat p) a (Int32.ofNat i) (f_who n r (Int32.ofNat i))) ?_
        have hcan : p_can n r p i = 1 := by
          have hcan := w_can h hp (c := i) (by omega)
          rw [show s_op (r 71 20) (Int32.ofNat i) = s_op ((s_start g) 71 20) (Int32.ofNat i) from by rw [hs.1.2.2.2.1], if_neg hc1, if_pos hc2] at hcan
          exact hcan
        have hop := w_ok_put h hp (c := i) (by omega) (by rw [hcan]; decide)
        have hsp := w_sm_put (p := p) (x := Int32.ofNat i) hs
        have hz := (w_sm_rst hop hsp).2.2
        have hfr : w_fr g (s_rst n (q_up (s_start g) 75 p (Int32.ofNat i))) := (s_start_fr.up (by omega)).trans s_rst_fr
        by_cases hc3 : s_ran n (q_up r 75 p (Int32.ofNat i)) = 0
        · refine q_call (M2 := 191) (rest := [.int a]) (c_rst u hop hsp) (fun _ _ => rfl) ?_
          refine q_if_ne rfl (fun (hc4 : (s_ran n (q_up (s_start g) 75 p (Int32.ofNat i))) = 0) => ?_) (fun hc4 => absurd (show (s_ran n (q_up (s_start g) 75 p (Int32.ofNat i))) = 0 from hz.mpr hc3) hc4)
          refine q_step 2 79 [(0, .ref 70), (1, .int (Int32.ofNat p)), (2, .int a), (3, .int (Int32.ofNat i)), (4, .int (f_who n r (Int32.ofNat i)))] [.int (1 : Int32), .int a] (s_rst n (q_up (s_start g) 75 p (Int32.ofNat i))) u (fun big n0 => sg_oc_55 big n0 (s_rst n (q_up (s_start g) 75 p (Int32.ofNat i))) u (Int32.ofNat p) a (Int32.ofNat i) (f_who n r (Int32.ofNat i)) a) ?_
          refine q_call (M2 := 164) (rest := [.int a]) (b_flag1 _ _) (fun _ _ => rfl) ?_
          refine q_step 6 14 [(0, .ref 70), (1, .int (Int32.ofNat p)), (2, .int (a ||| ((1 : Int32) <<< ((Int32.ofNat i) &&& 31)))), (3, .int ((Int32.ofNat i) + (1 : Int32))), (4, .int (f_who n r (Int32.ofNat i)))] [] (s_rst n (q_up (s_start g) 75 p (Int32.ofNat i))) u (fun big n0 => sg_oc_56 big n0 (s_rst n (q_up (s_start g) 75 p (Int32.ofNat i))) u (Int32.ofNat p) a (Int32.ofNat i) (f_who n r (Int32.ofNat i)) a) ?_
          refine q_weak [(0, .ref 70), (1, .int (Int32.ofNat p)), (2, .int (a ||| ((1 : Int32) <<< ((Int32.ofNat i) &&& 31)))), (3, .int ((Int32.ofNat i) + (1 : Int32)))] (q_sub.cons rfl (q_sub.cons rfl (q_sub.cons rfl (q_sub.cons rfl q_sub.nil)))) ?_
          have e : p_calm n r p i = 1 := by
            unfold p_calm
            rw [hcan, if_neg (by decide), if_pos hc3]
          rw [s_bs_1 e, q_succ]
          exact q_EV.imp (ih (i + 1) _ (s_rst n (q_up (s_start g) 75 p (Int32.ofNat i))) (by omega) (w_st_sm hfr h5 hs)) (fun R z => w_po_r hfr rfl z)
        · refine q_call (M2 := 191) (rest := [.int a]) (c_rst u hop hsp) (fun _ _ => rfl) ?_
          refine q_if_ne rfl (fun hc4 => absurd (show (s_ran n (q_up (s_start g) 75 p (Int32.ofNat i))) = 0 from hc4) (fun z => hc3 (hz.mp z))) (fun (hc4 : ¬ ((s_ran n (q_up (s_start g) 75 p (Int32.ofNat i))) = 0)) => ?_)
          refine q_step 1 79 [(0, .ref 70), (1, .int (Int32.ofNat p)), (2, .int a), (3, .int (Int32.ofNat i)), (4, .int (f_who n r (Int32.ofNat i)))] [.int (0 : Int32), .int a] (s_rst n (q_up (s_start g) 75 p (Int32.ofNat i))) u (fun big n0 => sg_oc_57 big n0 (s_rst n (q_up (s_start g) 75 p (Int32.ofNat i))) u (Int32.ofNat p) a (Int32.ofNat i) (f_who n r (Int32.ofNat i)) a) ?_
          refine q_call (M2 := 164) (rest := [.int a]) (b_flag0 _ _) (fun _ _ => rfl) ?_
          refine q_step 6 14 [(0, .ref 70), (1, .int (Int32.ofNat p)), (2, .int (a ||| ((0 : Int32) <<< ((Int32.ofNat i) &&& 31)))), (3, .int ((Int32.ofNat i) + (1 : Int32))), (4, .int (f_who n r (Int32.ofNat i)))] [] (s_rst n (q_up (s_start g) 75 p (Int32.ofNat i))) u (fun big n0 => sg_oc_58 big n0 (s_rst n (q_up (s_start g) 75 p (Int32.ofNat i))) u (Int32.ofNat p) a (Int32.ofNat i) (f_who n r (Int32.ofNat i)) a) ?_
          refine q_weak [(0, .ref 70), (1, .int (Int32.ofNat p)), (2, .int (a ||| ((0 : Int32) <<< ((Int32.ofNat i) &&& 31)))), (3, .int ((Int32.ofNat i) + (1 : Int32)))] (q_sub.cons rfl (q_sub.cons rfl (q_sub.cons rfl (q_sub.cons rfl q_sub.nil)))) ?_
          have e : p_calm n r p i = 0 := by
            unfold p_calm
            rw [hcan, if_neg (by decide), if_neg hc3]
          rw [s_bs_0 e, q_succ, s_or0]
          exact q_EV.imp (ih (i + 1) _ (s_rst n (q_up (s_start g) 75 p (Int32.ofNat i))) (by omega) (w_st_sm hfr h5 hs)) (fun R z => w_po_r hfr rfl z)
      · refine q_step 2 56 [(0, .ref 70), (1, .int (Int32.ofNat p)), (2, .int a), (3, .int (Int32.ofNat i)), (4, .int (f_who n r (Int32.ofNat i)))] [.int (Int32.ofNat p), .int (f_who n r (Int32.ofNat i))] (s_start g) u (fun big n0 => sg_oc_59 big n0 (s_start g) u (Int32.ofNat p) a (Int32.ofNat i) (f_who n r (Int32.ofNat i))) ?_
        refine q_ic_ne rfl (fun (hc3 : (f_who n r (Int32.ofNat i)) = (Int32.ofNat p)) => ?_) (fun (hc3 : ¬ ((f_who n r (Int32.ofNat i)) = (Int32.ofNat p))) => ?_)
        · refine q_step 4 65 [(0, .ref 70), (1, .int (Int32.ofNat p)), (2, .int a), (3, .int (Int32.ofNat i)), (4, .int (f_who n r (Int32.ofNat i)))] [.int (Int32.ofNat i), .int (Int32.ofNat p), .ref 75] (s_start g) u (fun big n0 => sg_oc_53 big n0 (s_start g) u (Int32.ofNat p) a (Int32.ofNat i) (f_who n r (Int32.ofNat i))) ?_
          refine q_iast (j := p) (q_ixn (by omega) (by omega)) rfl rfl ?_
          refine q_step 2 68 [(0, .ref 70), (1, .int (Int32.ofNat p)), (2, .int a), (3, .int (Int32.ofNat i)), (4, .int (f_who n r (Int32.ofNat i)))] [.ref 70, .int a] (q_up (s_start g) 75 p (Int32.ofNat i)) u (fun big n0 => sg_oc_54 big n0 (q_up (s_start g) 75 p (Int32.ofNat i)) u (Int32.ofNat p) a (Int32.ofNat i) (f_who n r (Int32.ofNat i))) ?_
          have hcan : p_can n r p i = 1 := by
            have hcan := w_can h hp (c := i) (by omega)
            rw [show s_op (r 71 20) (Int32.ofNat i) = s_op ((s_start g) 71 20) (Int32.ofNat i) from by rw [hs.1.2.2.2.1], if_neg hc1, if_neg hc2, if_pos hc3] at hcan
            exact hcan
          have hop := w_ok_put h hp (c := i) (by omega) (by rw [hcan]; decide)
          have hsp := w_sm_put (p := p) (x := Int32.ofNat i) hs
          have hz := (w_sm_rst hop hsp).2.2
          have hfr : w_fr g (s_rst n (q_up (s_start g) 75 p (Int32.ofNat i))) := (s_start_fr.up (by omega)).trans s_rst_fr
          by_cases hc4 : s_ran n (q_up r 75 p (Int32.ofNat i)) = 0
          · refine q_call (M2 := 191) (rest := [.int a]) (c_rst u hop hsp) (fun _ _ => rfl) ?_
            refine q_if_ne rfl (fun (hc5 : (s_ran n (q_up (s_start g) 75 p (Int32.ofNat i))) = 0) => ?_) (fun hc5 => absurd (show (s_ran n (q_up (s_start g) 75 p (Int32.ofNat i))) = 0 from hz.mpr hc4) hc5)
            refine q_step 2 79 [(0, .ref 70), (1, .int (Int32.ofNat p)), (2, .int a), (3, .int (Int32.ofNat i)), (4, .int (f_who n r (Int32.ofNat i)))] [.int (1 : Int32), .int a] (s_rst n (q_up (s_start g) 75 p (Int32.ofNat i))) u (fun big n0 => sg_oc_55 big n0 (s_rst n (q_up (s_start g) 75 p (Int32.ofNat i))) u (Int32.ofNat p) a (Int32.ofNat i) (f_who n r (Int32.ofNat i)) a) ?_
            refine q_call (M2 := 164) (rest := [.int a]) (b_flag1 _ _) (fun _ _ => rfl) ?_
            refine q_step 6 14 [(0, .ref 70), (1, .int (Int32.ofNat p)), (2, .int (a ||| ((1 : Int32) <<< ((Int32.ofNat i) &&& 31)))), (3, .int ((Int32.ofNat i) + (1 : Int32))), (4, .int (f_who n r (Int32.ofNat i)))] [] (s_rst n (q_up (s_start g) 75 p (Int32.ofNat i))) u (fun big n0 => sg_oc_56 big n0 (s_rst n (q_up (s_start g) 75 p (Int32.ofNat i))) u (Int32.ofNat p) a (Int32.ofNat i) (f_who n r (Int32.ofNat i)) a) ?_
            refine q_weak [(0, .ref 70), (1, .int (Int32.ofNat p)), (2, .int (a ||| ((1 : Int32) <<< ((Int32.ofNat i) &&& 31)))), (3, .int ((Int32.ofNat i) + (1 : Int32)))] (q_sub.cons rfl (q_sub.cons rfl (q_sub.cons rfl (q_sub.cons rfl q_sub.nil)))) ?_
            have e : p_calm n r p i = 1 := by
              unfold p_calm
              rw [hcan, if_neg (by decide), if_pos hc4]
            rw [s_bs_1 e, q_succ]
            exact q_EV.imp (ih (i + 1) _ (s_rst n (q_up (s_start g) 75 p (Int32.ofNat i))) (by omega) (w_st_sm hfr h5 hs)) (fun R z => w_po_r hfr rfl z)
          · refine q_call (M2 := 191) (rest := [.int a]) (c_rst u hop hsp) (fun _ _ => rfl) ?_
            refine q_if_ne rfl (fun hc5 => absurd (show (s_ran n (q_up (s_start g) 75 p (Int32.ofNat i))) = 0 from hc5) (fun z => hc4 (hz.mp z))) (fun (hc5 : ¬ ((s_ran n (q_up (s_start g) 75 p (Int32.ofNat i))) = 0)) => ?_)
            refine q_step 1 79 [(0, .ref 70), (1, .int (Int32.ofNat p)), (2, .int a), (3, .int (Int32.ofNat i)), (4, .int (f_who n r (Int32.ofNat i)))] [.int (0 : Int32), .int a] (s_rst n (q_up (s_start g) 75 p (Int32.ofNat i))) u (fun big n0 => sg_oc_57 big n0 (s_rst n (q_up (s_start g) 75 p (Int32.ofNat i))) u (Int32.ofNat p) a (Int32.ofNat i) (f_who n r (Int32.ofNat i)) a) ?_
            refine q_call (M2 := 164) (rest := [.int a]) (b_flag0 _ _) (fun _ _ => rfl) ?_
            refine q_step 6 14 [(0, .ref 70), (1, .int (Int32.ofNat p)), (2, .int (a ||| ((0 : Int32) <<< ((Int32.ofNat i) &&& 31)))), (3, .int ((Int32.ofNat i) + (1 : Int32))), (4, .int (f_who n r (Int32.ofNat i)))] [] (s_rst n (q_up (s_start g) 75 p (Int32.ofNat i))) u (fun big n0 => sg_oc_58 big n0 (s_rst n (q_up (s_start g) 75 p (Int32.ofNat i))) u (Int32.ofNat p) a (Int32.ofNat i) (f_who n r (Int32.ofNat i)) a) ?_
            refine q_weak [(0, .ref 70), (1, .int (Int32.ofNat p)), (2, .int (a ||| ((0 : Int32) <<< ((Int32.ofNat i) &&& 31)))), (3, .int ((Int32.ofNat i) + (1 : Int32)))] (q_sub.cons rfl (q_sub.cons rfl (q_sub.cons rfl (q_sub.cons rfl q_sub.nil)))) ?_
            have e : p_calm n r p i = 0 := by
              unfold p_calm
              rw [hcan, if_neg (by decide), if_neg hc4]
            rw [s_bs_0 e, q_succ, s_or0]
            exact q_EV.imp (ih (i + 1) _ (s_rst n (q_up (s_start g) 75 p (Int32.ofNat i))) (by omega) (w_st_sm hfr h5 hs)) (fun R z => w_po_r hfr rfl z)
        · refine q_step 2 14 [(0, .ref 70), (1, .int (Int32.ofNat p)), (2, .int a), (3, .int ((Int32.ofNat i) + (1 : Int32))), (4, .int (f_who n r (Int32.ofNat i)))] [] (s_start g) u (fun big n0 => sg_oc_51 big n0 (s_start g) u (Int32.ofNat p) a (Int32.ofNat i) (f_who n r (Int32.ofNat i))) ?_
          refine q_weak [(0, .ref 70), (1, .int (Int32.ofNat p)), (2, .int a), (3, .int ((Int32.ofNat i) + (1 : Int32)))] (q_sub.cons rfl (q_sub.cons rfl (q_sub.cons rfl (q_sub.cons rfl q_sub.nil)))) ?_
          have e : p_calm n r p i = 0 := by
            have hcan := w_can h hp (c := i) (by omega)
            rw [show s_op (r 71 20) (Int32.ofNat i) = s_op ((s_start g) 71 20) (Int32.ofNat i) from by rw [hs.1.2.2.2.1], if_neg hc1, if_neg hc2, if_neg hc3] at hcan
            unfold p_calm
            rw [hcan, if_pos rfl]
          rw [s_bs_0 e, q_succ]
          exact q_EV.imp (ih (i + 1) _ (s_start g) (by omega) (w_st_sm s_start_fr h5 hs)) (fun R z => w_po_r s_start_fr rfl z)
theorem r_calm {n W H : Nat} {g r : qM} (u : qW) (h : w_ok n W H r) (hs : w_sm n (s_start g) r) (h5 : n ≤ 5) {p : Nat} (hp : p < n) : w_BS w_fr 207 [.ref 70, .int (Int32.ofNat p)] g u (.int (f_calm n W H r p)) := by
  refine w_bs (mm := m_207) rfl (Nat.le_of_ble_eq_true rfl) rfl ?_
  refine q_step 2 2 [(0, .ref 70), (1, .int (Int32.ofNat p))] [.int (Int32.ofNat p), .ref 70] g u (fun big n0 => sg_oc_60 big n0 g u (Int32.ofNat p)) ?_
  refine q_call (M2 := 169) (rest := []) (b_risOne1 g u (w_pl h hs) (by omega) hp) (fun _ _ => rfl) ?_
  refine q_step 5 14 [(0, .ref 70), (1, .int (Int32.ofNat p)), (2, .int (0 : Int32)), (3, .int (0 : Int32))] [] g u (fun big n0 => sg_oc_61 big n0 g u (Int32.ofNat p)) ?_
  exact rc_l u h h5 hp (W * H) 0 0 g (by omega) hs
