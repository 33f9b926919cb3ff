/-! BOTH SIDES of images and counts. -/
theorem TT.cgc {n W H z : Nat} {f c m s go pu so sw st f' c' m' s' go' pu' so' sw' : Nat → Int32} (h : TT n W H z f c m s go pu so sw st) (e0 : ∀ j, j < 7 → f' j = f j) (e1 : ∀ j, j < 6 → c' j = c j) (e2 : ∀ j, j < 6 → m' j = m j) (e3 : ∀ j, j < 6 → s' j = s j) (e4 : ∀ j, j < 6 → go' j = go j) (e5 : ∀ j, j < 5 → pu' j = pu j) (e6 : ∀ j, j < 8 → so' j = so j) (e7 : ∀ j, j < 8 → sw' j = sw j) : TT n W H z f' c' m' s' go' pu' so' sw' st := by
  obtain ⟨t1, t2, t3, t4, t5, t6, t7⟩ := h
  unfold TT
  rw [e0 0 (by omega), e0 1 (by omega), e0 2 (by omega), e0 3 (by omega), e0 4 (by omega), e0 5 (by omega), e0 6 (by omega)]
  refine ⟨t1, t2, t3, fun d h1 h2 => ?_, fun p hp => ?_, fun k hk => ?_, t7⟩
  · rw [e5 d (by omega)]; exact t4 d h1 h2
  · rw [e1 p (by omega), e2 p (by omega), e3 p (by omega), e4 p (by omega)]; exact t5 p hp
  · rw [e6 k (by omega), e7 k (by omega)]; exact t6 k hk
theorem TT.copy {n W H z a b : Nat} {g : qM} {st : Nat → Int32} (hd : a + 7 < b ∨ b + 7 < a) (h : TT n W H z (g b) (g (b + 1)) (g (b + 2)) (g (b + 3)) (g (b + 4)) (g (b + 5)) (g (b + 6)) (g (b + 7)) st) : TT n W H z (s_cpy a b g a) (s_cpy a b g (a + 1)) (s_cpy a b g (a + 2)) (s_cpy a b g (a + 3)) (s_cpy a b g (a + 4)) (s_cpy a b g (a + 5)) (s_cpy a b g (a + 6)) (s_cpy a b g (a + 7)) st := h.cgc (fun j hj => s_cpy_f hj) (fun j hj => s_cpy_1 hj hd) (fun j hj => s_cpy_2 hj hd) (fun j hj => s_cpy_3 hj hd) (fun j hj => s_cpy_4 hj hd) (fun j hj => s_cpy_5 hj hd) (fun j hj => s_cpy_6 hj hd) (fun j hj => s_cpy_7 hj hd)
theorem TT.moods {n W H z : Nat} {f c m s go pu so sw st F G : Nat → Int32} (h : TT n W H z f c m s go pu so sw st) (hF : ∀ p, p < n → F p = G p) (hG : ∀ q, q < 5 → G q = 0 ∨ G q = 1 ∨ G q = 2 ∨ G q = 3) : TT n W H z f c F s go pu so sw (fun j => if 5 ≤ j ∧ j < 10 then G (j - 5) else st j) := by
  obtain ⟨t1, t2, t3, t4, t5, t6, t7, t8, t9, t10, t11⟩ := h
  have e : ∀ j, ¬ (5 ≤ j ∧ j < 10) → (fun j => if 5 ≤ j ∧ j < 10 then G (j - 5) else st j) j = st j := fun j hj => if_neg hj
  have e5 : ∀ q, q < 5 → (fun j => if 5 ≤ j ∧ j < 10 then G (j - 5) else st j) (5 + q) = G q := fun q hq => by
    show (if 5 ≤ 5 + q ∧ 5 + q < 10 then G (5 + q - 5) else st (5 + q)) = G q
    rw [if_pos (by omega), show 5 + q - 5 = q by omega]
  generalize (fun j => if 5 ≤ j ∧ j < 10 then G (j - 5) else st j) = st' at e e5
  unfold TT
  rw [e 20 (by omega), e 25 (by omega), e 26 (by omega), e 27 (by omega)]
  refine ⟨t1, t2, t3, fun d h1 h2 => ?_, fun q hq => ?_, fun k hk => ?_, fun q hq => ?_, fun q r hq hr hqr => ?_, fun q hq => ?_, fun q hq => ?_, fun q hq => ?_⟩
  · rw [e _ (by omega)]; exact t4 d h1 h2
  · rw [e q (by omega), e5 q (by omega), e (10 + q) (by omega), e (15 + q) (by omega)]
    exact ⟨(t5 q hq).1, hF q hq, (t5 q hq).2.2⟩
  · rw [e _ (by omega), e _ (by omega)]; exact t6 k hk
  · rw [e _ (by omega)]; exact t7 q hq
  · rw [e _ (by omega), e _ (by omega)]; exact t8 q r hq hr hqr
  · rw [e _ (by omega)]; exact t9 q hq
  · rw [e5 q hq]; exact hG q hq
  · rw [e _ (by omega)]; exact t11 q hq
/-- what stands outside images, sheets is the same -/
def w_fi (g g' : qM) : Prop := (∀ a, a = 9 ∨ a = 10 ∨ a = 11 ∨ (20 ≤ a ∧ a ≤ 27) ∨ a = 70 ∨ a = 74 → g' a = g a) ∧ ∀ j, j < 44 → g' 71 j = g 71 j
theorem w_R4.img {n W H z : Nat} {g g' : qM} (h : w_R4 n W H z g) (e : w_fi g g') (hK : w_KK n W H g') (hS : ∀ k, k < 4 → w_S k g') : w_R4 n W H z g' := by
  obtain ⟨hN, hT, _, hP, hF, _⟩ := h
  refine ⟨?_, ?_, hK, ?_, ?_, hS⟩
  · unfold w_N; rw [e.1 70 (by omega)]; exact hN
  · unfold w_TT
    rw [e.1 20 (by omega), e.1 21 (by omega), e.1 22 (by omega), e.1 23 (by omega), e.1 24 (by omega), e.1 25 (by omega), e.1 26 (by omega), e.1 27 (by omega)]
    exact hT.cg e.2
  · unfold w_P; rw [e.1 9 (by omega), e.1 70 (by omega), e.1 74 (by omega), e.1 10 (by omega)]; exact hP
  · rw [e.1 11 (by omega), e.1 70 (by omega)]; exact hF
theorem w_S.cg {k : Nat} {g g' : qM} (h : w_S k g) (e1 : g' 84 k = g 84 k) (e2 : g' 85 k = g 85 k) (e3 : g' (62 + 2 * k) = g (62 + 2 * k)) (e4 : g' (63 + 2 * k) = g (63 + 2 * k)) (e5 : ∀ j, j < 40 → g' 86 (40 * k + j) = g 86 (40 * k + j)) : w_S k g' := by
  unfold w_S
  rw [e1, e2, e3, e4]
  rcases h with h | ⟨l, v, a1, a2, a3, a4, a5, a6, a7⟩
  · exact Or.inl h
  · exact Or.inr ⟨l, v, a1, a2, a3, a4, a5, a6, fun j hj => by rw [e5 j hj]; exact a7 j hj⟩
theorem w_KK.cg {n W H : Nat} {g g' : qM} (h : w_KK n W H g) (e8 : g' 8 7 = g 8 7) (e72 : g' 72 = g 72) (e : ∀ a, 45 ≤ a → a ≤ 60 → g' a = g a) (e71 : ∀ j, 44 ≤ j → g' 71 j = g 71 j) : w_KK n W H g' := by
  unfold w_KK
  rw [e8, e72, e 45 (by omega) (by omega), e 46 (by omega) (by omega), e 47 (by omega) (by omega), e 48 (by omega) (by omega), e 49 (by omega) (by omega), e 50 (by omega) (by omega), e 51 (by omega) (by omega), e 52 (by omega) (by omega), e 53 (by omega) (by omega), e 54 (by omega) (by omega), e 55 (by omega) (by omega), e 56 (by omega) (by omega), e 57 (by omega) (by omega), e 58 (by omega) (by omega), e 59 (by omega) (by omega), e 60 (by omega) (by omega), show (fun j => g' 71 (44 + j)) = (fun j => g 71 (44 + j)) from funext (fun j => e71 _ (by omega)), show (fun j => g' 71 (88 + j)) = (fun j => g 71 (88 + j)) from funext (fun j => e71 _ (by omega))]
  exact h
theorem k_bits : ∀ m, m < 4 → (s_bit (Int32.ofNat m) 0 = Int32.ofNat (m % 2) ∧ s_bit (Int32.ofNat m) 1 = Int32.ofNat (m / 2) ∧ (Int32.ofNat m ||| ((1 : Int32) <<< ((0 : Int32) &&& 31))) = Int32.ofNat (m / 2 * 2 + 1) ∧ (Int32.ofNat m ||| ((1 : Int32) <<< ((1 : Int32) &&& 31))) = Int32.ofNat (m % 2 + 2)) := fun m hm => by
  have z : (List.range 4).all (fun m => decide (s_bit (Int32.ofNat m) 0 = Int32.ofNat (m % 2) ∧ s_bit (Int32.ofNat m) 1 = Int32.ofNat (m / 2) ∧ (Int32.ofNat m ||| ((1 : Int32) <<< ((0 : Int32) &&& 31))) = Int32.ofNat (m / 2 * 2 + 1) ∧ (Int32.ofNat m ||| ((1 : Int32) <<< ((1 : Int32) &&& 31))) = Int32.ofNat (m % 2 + 2))) = true := by decide +kernel
  exact of_decide_eq_true (List.all_eq_true.mp z m (List.mem_range.mpr hm))
theorem f_rd_cg {tl tl' : Nat → Nat} {z j0 : Nat} (h : ∀ j, j + 1 < z → tl j = tl' j) : ∀ k i, f_rd tl z j0 k i = f_rd tl' z j0 k i
  | 0, _ => rfl
  | k + 1, i => by
    unfold f_rd
    by_cases e : z ≤ j0 + 2 * i + 1
    · rw [if_pos e, if_pos e]
    · rw [if_neg e, if_neg e, h (j0 + 2 * i) (by omega), f_rd_cg h k (i + 1)]
theorem n_tl_cg {n j : Nat} {row row' : Nat → Int32} (h1 : row j = row' j) (h2 : row (j + 1) = row' (j + 1)) : n_tl n row j = n_tl n row' j := by
  unfold n_tl
  rw [h1, h2]
theorem f_ws_cg {row row' : Nat → Int32} {j0 : Nat} : ∀ k i f, (∀ x, i ≤ x → x < i + k → row (j0 + 2 * x) = row' (j0 + 2 * x) ∧ row (j0 + 2 * x + 1) = row' (j0 + 2 * x + 1)) → f_ws row j0 k i f = f_ws row' j0 k i f
  | 0, _, _, _ => rfl
  | k + 1, i, f, h => by
    unfold f_ws
    rw [(h i (by omega) (by omega)).1, (h i (by omega) (by omega)).2]
    exact f_ws_cg k (i + 1) _ (fun x h1 h2 => h x (by omega) (by omega))
/-- MOODS read into both: alike, and in order -/
theorem f_ws_ok {row : Nat → Int32} {j0 n : Nat} (h5 : n ≤ 5) : ∀ k i f f', (∀ x, i ≤ x → x < i + k → n_tl n row (j0 + 2 * x) ≠ 0) → (∀ p, p < n → f p = f' p) → (∀ q, q < 5 → f' q = 0 ∨ f' q = 1 ∨ f' q = 2 ∨ f' q = 3) → (∀ p, p < n → f_ws row j0 k i f p = f_ws row j0 k i f' p) ∧ ∀ q, q < 5 → f_ws row j0 k i f' q = 0 ∨ f_ws row j0 k i f' q = 1 ∨ f_ws row j0 k i f' q = 2 ∨ f_ws row j0 k i f' q = 3
  | 0, _, _, _, _, h1, h2 => ⟨h1, h2⟩
  | k + 1, i, f, f', h, h1, h2 => by
    unfold f_ws
    obtain ⟨⟨p0, hp0, e0⟩, m, hm, em⟩ := n_tl_1 (by omega) (h i (by omega) (by omega))
    have ep : (row (j0 + 2 * i)).toInt.toNat = p0 := by rw [e0, q_nat (by omega)]; rfl
    rw [ep, em]
    refine f_ws_ok h5 k (i + 1) _ _ (fun x h3 h4 => h x (by omega) (by omega)) (fun p hp => ?_) (fun q hq => ?_)
    · by_cases e : p = p0
      · rw [e, s_set_i, s_set_i]
      · rw [s_set_ne _ _ e, s_set_ne _ _ e]
        exact h1 p hp
    · by_cases e : q = p0
      · rw [e, s_set_i]
        rcases (show m = 0 ∨ m = 1 ∨ m = 2 ∨ m = 3 by omega) with y | y | y | y
        · exact Or.inl (by rw [y]; rfl)
        · exact Or.inr (Or.inl (by rw [y]; rfl))
        · exact Or.inr (Or.inr (Or.inl (by rw [y]; rfl)))
        · exact Or.inr (Or.inr (Or.inr (by rw [y]; rfl)))
      · rw [s_set_ne _ _ e]
        exact h2 q hq
theorem k_lane {l : Nat} {g : qM} (hl : l ≤ 2) : d_isLane (Int32.ofNat l) g = 1 := by
  unfold d_isLane
  rw [if_neg (show ¬ Int32.ofNat l < 0 from fun y => absurd ((q_lt (j := 0) (by omega) (by omega)).mp y) (by omega)), if_neg (show ¬ (2 : Int32) < Int32.ofNat l from fun y => absurd ((q_lt (i := 2) (by omega) (by omega)).mp y) (by omega))]
theorem k_nne {l : Nat} (h : l < 1000) : ¬ Int32.ofNat l = i_none := fun y => by
  have := congrArg Int32.toInt y
  rw [q_nat (by omega), show (i_none : Int32).toInt = -4 from by decide] at this
  omega
theorem k_nm1 {l : Nat} (h : l < 1000) : ¬ Int32.ofNat l = Int32.ofInt (-1) := fun y => by
  have := congrArg Int32.toInt y
  rw [q_nat (by omega), show (Int32.ofInt (-1)).toInt = -1 from by decide] at this
  omega
theorem k_f0 (f : Int32) : f + ((2 : Int32) * (0 : Int32)) = f := by
  rw [show (2 : Int32) * (0 : Int32) = 0 from by decide, Int32.add_zero]
theorem pr_count (x : Int32) (g : qM) (u : qW) (h : w_R g) : w_2 143 224 [.int x] g u := by
  obtain ⟨n, W, H, z, h⟩ := h
  have h5 := h.n5
  have h25 := h.wh
  have ok := h.ok
  have cs := h.cs
  have hgo := h.hgo
  obtain ⟨hn, hW, hH⟩ := h.1
  have hn2 : g 20 3 = Int32.ofNat n := h.2.1.1.2.2.2.1
  have hW2 : g 20 0 = Int32.ofNat W := h.2.1.1.1
  have hH2 : g 20 1 = Int32.ofNat H := h.2.1.1.2.1
  by_cases hx : x.toInt < 0 ∨ 6 < x.toInt
  · exact ⟨_, _, _, _, _, cb_count g u hx, rg_countb u ok (w_sms0 h5).1 hn h5 hx, n, W, H, z, h.fr s_start_fr⟩
  · obtain ⟨m, m0, m1, rfl⟩ : v_rg 0 6 x := v_nat (by omega) (by omega)
    rcases (show m = 0 ∨ m = 1 ∨ m = 2 ∨ m = 3 ∨ m = 4 ∨ m = 5 ∨ m = 6 by omega) with e | e | e | e | e | e | e
    · subst e
      have ea : s_ct (fun p => if g 21 p = g 24 p then (1 : Int32) else 0) n 0 0 = f_at n (s_start g) := by
        exact w_at_c ok cs hgo
      have q := rg_count0 u ok (w_sms0 h5).1 hn h5
      rw [← ea] at q
      exact ⟨_, _, _, _, _, cg_count0 g u hn2 (by omega), q, n, W, H, z, h.fr s_start_fr⟩
    · subst e
      have ea : s_ct (fun p => if g 24 p = i_none then (0 : Int32) else 1) n 0 0 = s_ct (p_hvs (s_start g)) n 0 0 := by
        exact s_ct_cg n 0 0 (fun p _ hp => by
          have hp : p < n := by omega
          unfold p_hvs
          rw [show s_start g 71 (15 + p) = g 24 p from (h.2.1.2.2.2.2.1 p hp).2.2.2.symm])
      have q := rg_count1 u ok (w_sms0 h5).1 hn h5
      rw [← ea] at q
      exact ⟨_, _, _, _, _, cg_count1 g u hn2 (by omega), q, n, W, H, z, h.fr s_start_fr⟩
    · subst e
      have ea : g 20 6 = g 71 27 := by
        exact h.2.1.1.2.2.2.2.2.2.1.trans h.2.1.1.2.2.2.2.2.2.2.symm
      have q := rg_count2 u ok (w_sms0 h5).1 hn h5
      rw [← ea] at q
      exact ⟨_, _, _, _, _, cg_count2 g u hn2 (by omega), q, n, W, H, z, h.fr s_start_fr⟩
    · subst e
      have ea : d_bc (g 8 7) g = ((if g 72 0 = 0 then (0 : Int32) else 1) + (if g 72 1 = 0 then (0 : Int32) else 1)) := by
        obtain ⟨⟨mm, k1, k2, k3, k4⟩, _⟩ := h.2.2.1
        rw [k2]
        rcases (show mm = 0 ∨ mm = 1 ∨ mm = 2 ∨ mm = 3 by omega) with e | e | e | e
        · subst e; rw [if_pos (k3.mpr rfl), if_pos (k4.mpr rfl)]; unfold d_bc; decide
        · subst e; rw [if_neg (fun y => absurd (k3.mp y) (by omega)), if_pos (k4.mpr rfl)]; unfold d_bc; decide
        · subst e; rw [if_pos (k3.mpr rfl), if_neg (fun y => absurd (k4.mp y) (by omega))]; unfold d_bc; decide
        · subst e; rw [if_neg (fun y => absurd (k3.mp y) (by omega)), if_neg (fun y => absurd (k4.mp y) (by omega))]; unfold d_bc; decide
      have q := rg_count3 u ok (w_sms0 h5).1 hn h5
      rw [← ea] at q
      exact ⟨_, _, _, _, _, cg_count3 g u hn2 (by omega), q, n, W, H, z, h.fr s_start_fr⟩
    · subst e
      have ea : g 9 1 = g 70 13 := by
        obtain ⟨s, s1, s2, s3, _⟩ := h.2.2.2.1
        exact s2.trans s3.symm
      have q := rg_count4 u ok (w_sms0 h5).1 hn h5
      rw [← ea] at q
      exact ⟨_, _, _, _, _, cg_count4 g u hn2 (by omega), q, n, W, H, z, h.fr s_start_fr⟩
    · subst e
      have ea : (if d_isNothing0 g = 0 then g 62 1 else i_none) = (if g 84 0 = i_none then i_none else g 85 0) := by
        unfold d_isNothing0
        rcases h.2.2.2.2.2 0 (by omega) with ⟨a1, a2⟩ | ⟨l, v, a1, a2, a3, a4, a5, a6, a7⟩
        · rw [show g 62 1 = _ from a2, if_pos rfl, if_neg (by decide), if_pos a1]
        · rw [show g 62 1 = Int32.ofNat v from a5, if_neg (k_nm1 (by omega)), if_pos rfl, a3, if_neg (k_nne (by omega)), a6]
      have q := rg_count5 u ok (w_sms0 h5).1 hn h5
      rw [← ea] at q
      exact ⟨_, _, _, _, _, cg_count5 g u hn2 (by omega), q, n, W, H, z, h.fr s_start_fr⟩
    · subst e
      have ea : s_ct (fun p => if g 22 p = 0 then (1 : Int32) else 0) n 0 0 = s_ct (p_nom (s_start g)) n 0 0 := by
        exact s_ct_cg n 0 0 (fun p _ hp => by
          have hp : p < n := by omega
          unfold p_nom
          rw [show s_start g 71 (5 + p) = g 22 p from (h.2.1.2.2.2.2.1 p hp).2.1.symm])
      have q := rg_count6 u ok (w_sms0 h5).1 hn h5
      rw [← ea] at q
      exact ⟨_, _, _, _, _, cg_count6 g u hn2 (by omega), q, n, W, H, z, h.fr s_start_fr⟩
theorem pr_torn (g : qM) (u : qW) (h : w_R g) : q_BS 142 [.ref 8] g u (some (.int (d_torn g)), g, u) ∧ q_BS 223 [.ref 70] g u (some (.int (d_rtorn g)), g, u) := ⟨b_torn g u, b_rtorn g u⟩
theorem pr_keep0 (g : qM) (u : qW) (h : w_R g) : w_2 128 216 [.int (0 : Int32)] g u := by
  obtain ⟨n, W, H, z, h⟩ := h
  obtain ⟨⟨m, m4, k0, ka, kb1⟩, kc, kd⟩ := h.2.2.1
  have kb := kd
  have zz := k_bits m m4
  have q1 := cg_keep0 g u
  rw [k0, zz.1, zz.2.2.1] at q1
  have q2 := rg_keep0 (q_up (s_cpy 45 20 g) 8 7 (Int32.ofNat (m / 2 * 2 + 1))) u
  have ea : (if (q_up (s_cpy 45 20 g) 8 7 (Int32.ofNat (m / 2 * 2 + 1))) 72 0 = 0 then (0 : Int32) else 1) = Int32.ofNat (m % 2) := by
    rw [q_up_ne (by decide), s_cpy_o (by omega)]
    rcases (show m = 0 ∨ m = 1 ∨ m = 2 ∨ m = 3 by omega) with e | e | e | e <;> subst e
    · rw [if_pos (ka.mpr rfl)]; rfl
    · rw [if_neg (fun y => absurd (ka.mp y) (by omega))]; rfl
    · rw [if_pos (ka.mpr rfl)]; rfl
    · rw [if_neg (fun y => absurd (ka.mp y) (by omega))]; rfl
  rw [ea] at q2
  have eo : ∀ a, a ≠ 71 → (s_cps 44 0 44 (q_up (q_up (s_cpy 45 20 g) 8 7 (Int32.ofNat (m / 2 * 2 + 1))) 72 0 1)) a = (q_up (q_up (s_cpy 45 20 g) 8 7 (Int32.ofNat (m / 2 * 2 + 1))) 72 0 1) a := fun a ha => by
    funext j
    show (if a = 71 then _ else (q_up (q_up (s_cpy 45 20 g) 8 7 (Int32.ofNat (m / 2 * 2 + 1))) 72 0 1) a j) = _
    rw [if_neg ha]
  have e72o : (s_cps 44 0 44 (q_up (q_up (s_cpy 45 20 g) 8 7 (Int32.ofNat (m / 2 * 2 + 1))) 72 0 1)) 72 1 = g 72 1 := by
    rw [eo 72 (by decide), q_up_at, if_neg (by decide), q_up_ne (by decide), s_cpy_o (by omega)]
  refine ⟨_, _, _, _, _, q1, q2, n, W, H, z, h.img ⟨fun a ha => ?_, fun j hj => ?_⟩ ⟨⟨(m / 2 * 2 + 1), by omega, ?_, ?_, ?_⟩, ?_, ?_⟩ (fun k hk => ?_)⟩
  · rw [eo a (by omega), q_up_ne (by omega), q_up_ne (by omega), s_cpy_o (by omega)]
  · show (if (71 : Nat) = 71 then (if 44 ≤ j ∧ j < 44 + 44 then _ else (q_up (q_up (s_cpy 45 20 g) 8 7 (Int32.ofNat (m / 2 * 2 + 1))) 72 0 1) 71 j) else _) = _
    rw [if_pos rfl, if_neg (by omega), q_up_ne (by decide), q_up_ne (by decide), s_cpy_o (by omega)]
  · rw [eo 8 (by decide), q_up_ne (by decide), q_up_at, if_pos rfl]
  · exact ⟨fun y => absurd (show (1 : Int32) = 0 from y) (by decide), fun y => absurd y (by omega)⟩
  · rw [e72o, kb1]; omega
  · have hh : True := trivial
    intro hx
    refine ⟨z, ?_⟩
    have y := TT.copy (a := 45) (b := 20) (g := g) (by omega) h.2.1
    rw [eo 45 (by decide), eo 46 (by decide), eo 47 (by decide), eo 48 (by decide), eo 49 (by decide), eo 50 (by decide), eo 51 (by decide), eo 52 (by decide)]
    rw [q_up_ne (by decide), q_up_ne (by decide), q_up_ne (by decide), q_up_ne (by decide), q_up_ne (by decide), q_up_ne (by decide), q_up_ne (by decide), q_up_ne (by decide), q_up_ne (by decide), q_up_ne (by decide), q_up_ne (by decide), q_up_ne (by decide), q_up_ne (by decide), q_up_ne (by decide), q_up_ne (by decide), q_up_ne (by decide)]
    refine y.cg (fun j hj => ?_)
    show (if (71 : Nat) = 71 then (if 44 ≤ 44 + j ∧ 44 + j < 44 + 44 then (q_up (q_up (s_cpy 45 20 g) 8 7 (Int32.ofNat (m / 2 * 2 + 1))) 72 0 1) 71 (44 + j - 44 + 0) else _) else _) = g 71 j
    rw [if_pos rfl, if_pos (by omega), q_up_ne (by decide), q_up_ne (by decide), s_cpy_o (by omega), show 44 + j - 44 + 0 = j by omega]
  · have e53 : ∀ a, 53 ≤ a → a ≤ 60 → (s_cps 44 0 44 (q_up (q_up (s_cpy 45 20 g) 8 7 (Int32.ofNat (m / 2 * 2 + 1))) 72 0 1)) a = g a := fun a h1 h2 => by
      rw [eo a (by omega), q_up_ne (by omega), q_up_ne (by omega), s_cpy_o (by omega)]
    intro hx
    obtain ⟨y, hy⟩ := kb (fun e => hx (e72o.trans e))
    refine ⟨y, ?_⟩
    rw [e53 53 (by omega) (by omega), e53 54 (by omega) (by omega), e53 55 (by omega) (by omega), e53 56 (by omega) (by omega), e53 57 (by omega) (by omega), e53 58 (by omega) (by omega), e53 59 (by omega) (by omega), e53 60 (by omega) (by omega)]
    refine hy.cg (fun j hj => ?_)
    show (if (71 : Nat) = 71 then (if 44 ≤ 88 + j ∧ 88 + j < 44 + 44 then _ else (q_up (q_up (s_cpy 45 20 g) 8 7 (Int32.ofNat (m / 2 * 2 + 1))) 72 0 1) 71 (88 + j)) else _) = _
    rw [if_pos rfl, if_neg (by omega), q_up_ne (by decide), q_up_ne (by decide), s_cpy_o (by omega)]
  · refine (h.2.2.2.2.2 k hk).cg ?_ ?_ ?_ ?_ (fun j hj => ?_)
    · rw [eo 84 (by decide), q_up_ne (by decide), q_up_ne (by decide), s_cpy_o (by omega)]
    · rw [eo 85 (by decide), q_up_ne (by decide), q_up_ne (by decide), s_cpy_o (by omega)]
    · rw [eo (62 + 2 * k) (by omega), q_up_ne (by omega), q_up_ne (by omega), s_cpy_o (by omega)]
    · rw [eo (63 + 2 * k) (by omega), q_up_ne (by omega), q_up_ne (by omega), s_cpy_o (by omega)]
    · rw [eo 86 (by decide), q_up_ne (by decide), q_up_ne (by decide), s_cpy_o (by omega)]
theorem pr_back0 (g : qM) (u : qW) (h : w_R g) : w_2 129 218 [.int (0 : Int32)] g u := by
  obtain ⟨n, W, H, z, h⟩ := h
  obtain ⟨⟨m, m4, k0, ka, kb⟩, kc, kd⟩ := h.2.2.1
  have zz := (k_bits m m4).1
  by_cases hx : g 72 0 = 0
  · have hm := ka.mp hx
    exact w_2n h (cg_back0n g u (by rw [k0, zz, hm]; rfl)) (rg_back0n g u hx)
  · have hm : m % 2 = 1 := by
      have : ¬ m % 2 = 0 := fun y => hx (ka.mpr y)
      omega
    obtain ⟨y, hy⟩ := kc hx
    have q1 := cg_back0 g u (by rw [k0, zz, hm]; decide)
    have q2 := rg_back0 (s_cpy 20 45 g) u (by rw [s_cpy_o (by omega)]; exact hx)
    have ea : (s_cps 0 44 44 (s_cpy 20 45 g)) 71 26 = s_cpy 20 45 g 20 5 := by
      rw [show s_cpy 20 45 g 20 5 = g 45 5 from s_cpy_f (by omega), hy.1.2.2.2.2.2.1]
      show (if (71 : Nat) = 71 then (if 0 ≤ 26 ∧ 26 < 0 + 44 then (s_cpy 20 45 g) 71 (26 - 0 + 44) else _) else _) = g 71 (44 + 26)
      rw [if_pos rfl, if_pos (by omega), s_cpy_o (by omega)]
    rw [ea] at q2
    have eo : ∀ a, a ≠ 71 → (s_cps 0 44 44 (s_cpy 20 45 g)) a = s_cpy 20 45 g a := fun a ha => by
      funext j
      show (if a = 71 then _ else (s_cpy 20 45 g) a j) = _
      rw [if_neg ha]
    refine ⟨_, _, _, _, _, q1, q2, n, W, H, y, h.town ⟨fun a ha => ?_, ⟨?_, ?_, ?_⟩, fun j hj => ?_, fun j hj => ?_⟩ ?_⟩
    · rw [eo a (by omega), s_cpy_o (by omega)]
    · rw [eo 8 (by decide), s_cpy_o (by omega)]
    · rw [eo 9 (by decide), s_cpy_o (by omega)]
    · rw [eo 11 (by decide), s_cpy_o (by omega)]
    · rw [eo 70 (by decide), s_cpy_o (by omega)]
    · show (if (71 : Nat) = 71 then (if 0 ≤ j ∧ j < 0 + 44 then _ else (s_cpy 20 45 g) 71 j) else _) = _
      rw [if_pos rfl, if_neg (by omega), s_cpy_o (by omega)]
    · unfold w_TT
      rw [eo 20 (by decide), eo 21 (by decide), eo 22 (by decide), eo 23 (by decide), eo 24 (by decide), eo 25 (by decide), eo 26 (by decide), eo 27 (by decide)]
      refine (TT.copy (a := 20) (b := 45) (g := g) (by omega) hy).cg (fun j hj => ?_)
      show (if (71 : Nat) = 71 then (if 0 ≤ j ∧ j < 0 + 44 then (s_cpy 20 45 g) 71 (j - 0 + 44) else _) else _) = g 71 (44 + j)
      rw [if_pos rfl, if_pos (by omega), s_cpy_o (by omega), show j - 0 + 44 = 44 + j by omega]
theorem pr_keep1 (g : qM) (u : qW) (h : w_R g) : w_2 128 216 [.int (1 : Int32)] g u := by
  obtain ⟨n, W, H, z, h⟩ := h
  obtain ⟨⟨m, m4, k0, ka, kb1⟩, kc, kd⟩ := h.2.2.1
  have kb := kc
  have zz := k_bits m m4
  have q1 := cg_keep1 g u
  rw [k0, zz.2.1, zz.2.2.2] at q1
  have q2 := rg_keep1 (q_up (s_cpy 53 20 g) 8 7 (Int32.ofNat (m % 2 + 2))) u
  have ea : (if (q_up (s_cpy 53 20 g) 8 7 (Int32.ofNat (m % 2 + 2))) 72 1 = 0 then (0 : Int32) else 1) = Int32.ofNat (m / 2) := by
    rw [q_up_ne (by decide), s_cpy_o (by omega)]
    rcases (show m = 0 ∨ m = 1 ∨ m = 2 ∨ m = 3 by omega) with e | e | e | e <;> subst e
    · rw [if_pos (kb1.mpr rfl)]; rfl
    · rw [if_pos (kb1.mpr rfl)]; rfl
    · rw [if_neg (fun y => absurd (kb1.mp y) (by omega))]; rfl
    · rw [if_neg (fun y => absurd (kb1.mp y) (by omega))]; rfl
  rw [ea] at q2
  have eo : ∀ a, a ≠ 71 → (s_cps 88 0 44 (q_up (q_up (s_cpy 53 20 g) 8 7 (Int32.ofNat (m % 2 + 2))) 72 1 1)) a = (q_up (q_up (s_cpy 53 20 g) 8 7 (Int32.ofNat (m % 2 + 2))) 72 1 1) a := fun a ha => by
    funext j
    show (if a = 71 then _ else (q_up (q_up (s_cpy 53 20 g) 8 7 (Int32.ofNat (m % 2 + 2))) 72 1 1) a j) = _
    rw [if_neg ha]
  have e72o : (s_cps 88 0 44 (q_up (q_up (s_cpy 53 20 g) 8 7 (Int32.ofNat (m % 2 + 2))) 72 1 1)) 72 0 = g 72 0 := by
    rw [eo 72 (by decide), q_up_at, if_neg (by decide), q_up_ne (by decide), s_cpy_o (by omega)]
  refine ⟨_, _, _, _, _, q1, q2, n, W, H, z, h.img ⟨fun a ha => ?_, fun j hj => ?_⟩ ⟨⟨(m % 2 + 2), by omega, ?_, ?_, ?_⟩, ?_, ?_⟩ (fun k hk => ?_)⟩
  · rw [eo a (by omega), q_up_ne (by omega), q_up_ne (by omega), s_cpy_o (by omega)]
  · show (if (71 : Nat) = 71 then (if 88 ≤ j ∧ j < 88 + 44 then _ else (q_up (q_up (s_cpy 53 20 g) 8 7 (Int32.ofNat (m % 2 + 2))) 72 1 1) 71 j) else _) = _
    rw [if_pos rfl, if_neg (by omega), q_up_ne (by decide), q_up_ne (by decide), s_cpy_o (by omega)]
  · rw [eo 8 (by decide), q_up_ne (by decide), q_up_at, if_pos rfl]
  · rw [e72o, ka]; omega
  · exact ⟨fun y => absurd (show (1 : Int32) = 0 from y) (by decide), fun y => absurd y (by omega)⟩
  · have e53 : ∀ a, 45 ≤ a → a ≤ 52 → (s_cps 88 0 44 (q_up (q_up (s_cpy 53 20 g) 8 7 (Int32.ofNat (m % 2 + 2))) 72 1 1)) a = g a := fun a h1 h2 => by
      rw [eo a (by omega), q_up_ne (by omega), q_up_ne (by omega), s_cpy_o (by omega)]
    intro hx
    obtain ⟨y, hy⟩ := kb (fun e => hx (e72o.trans e))
    refine ⟨y, ?_⟩
    rw [e53 45 (by omega) (by omega), e53 46 (by omega) (by omega), e53 47 (by omega) (by omega), e53 48 (by omega) (by omega), e53 49 (by omega) (by omega), e53 50 (by omega) (by omega), e53 51 (by omega) (by omega), e53 52 (by omega) (by omega)]
    refine hy.cg (fun j hj => ?_)
    show (if (71 : Nat) = 71 then (if 88 ≤ 44 + j ∧ 44 + j < 88 + 44 then _ else (q_up (q_up (s_cpy 53 20 g) 8 7 (Int32.ofNat (m % 2 + 2))) 72 1 1) 71 (44 + j)) else _) = _
    rw [if_pos rfl, if_neg (by omega), q_up_ne (by decide), q_up_ne (by decide), s_cpy_o (by omega)]
  · have hh : True := trivial
    intro hx
    refine ⟨z, ?_⟩
    have y := TT.copy (a := 53) (b := 20) (g := g) (by omega) h.2.1
    rw [eo 53 (by decide), eo 54 (by decide), eo 55 (by decide), eo 56 (by decide), eo 57 (by decide), eo 58 (by decide), eo 59 (by decide), eo 60 (by decide)]
    rw [q_up_ne (by decide), q_up_ne (by decide), q_up_ne (by decide), q_up_ne (by decide), q_up_ne (by decide), q_up_ne (by decide), q_up_ne (by decide), q_up_ne (by decide), q_up_ne (by decide), q_up_ne (by decide), q_up_ne (by decide), q_up_ne (by decide), q_up_ne (by decide), q_up_ne (by decide), q_up_ne (by decide), q_up_ne (by decide)]
    refine y.cg (fun j hj => ?_)
    show (if (71 : Nat) = 71 then (if 88 ≤ 88 + j ∧ 88 + j < 88 + 44 then (q_up (q_up (s_cpy 53 20 g) 8 7 (Int32.ofNat (m % 2 + 2))) 72 1 1) 71 (88 + j - 88 + 0) else _) else _) = g 71 j
    rw [if_pos rfl, if_pos (by omega), q_up_ne (by decide), q_up_ne (by decide), s_cpy_o (by omega), show 88 + j - 88 + 0 = j by omega]
  · refine (h.2.2.2.2.2 k hk).cg ?_ ?_ ?_ ?_ (fun j hj => ?_)
    · rw [eo 84 (by decide), q_up_ne (by decide), q_up_ne (by decide), s_cpy_o (by omega)]
    · rw [eo 85 (by decide), q_up_ne (by decide), q_up_ne (by decide), s_cpy_o (by omega)]
    · rw [eo (62 + 2 * k) (by omega), q_up_ne (by omega), q_up_ne (by omega), s_cpy_o (by omega)]
    · rw [eo (63 + 2 * k) (by omega), q_up_ne (by omega), q_up_ne (by omega), s_cpy_o (by omega)]
    · rw [eo 86 (by decide), q_up_ne (by decide), q_up_ne (by decide), s_cpy_o (by omega)]
theorem pr_back1 (g : qM) (u : qW) (h : w_R g) : w_2 129 218 [.int (1 : Int32)] g u := by
  obtain ⟨n, W, H, z, h⟩ := h
  obtain ⟨⟨m, m4, k0, ka, kb⟩, kc, kd⟩ := h.2.2.1
  have zz := (k_bits m m4).2.1
  by_cases hx : g 72 1 = 0
  · have hm := kb.mp hx
    exact w_2n h (cg_back1n g u (by rw [k0, zz, hm]; rfl)) (rg_back1n g u hx)
  · have hm : m / 2 = 1 := by
      have : ¬ m / 2 = 0 := fun y => hx (kb.mpr y)
      omega
    obtain ⟨y, hy⟩ := kd hx
    have q1 := cg_back1 g u (by rw [k0, zz, hm]; decide)
    have q2 := rg_back1 (s_cpy 20 53 g) u (by rw [s_cpy_o (by omega)]; exact hx)
    have ea : (s_cps 0 88 44 (s_cpy 20 53 g)) 71 26 = s_cpy 20 53 g 20 5 := by
      rw [show s_cpy 20 53 g 20 5 = g 53 5 from s_cpy_f (by omega), hy.1.2.2.2.2.2.1]
      show (if (71 : Nat) = 71 then (if 0 ≤ 26 ∧ 26 < 0 + 44 then (s_cpy 20 53 g) 71 (26 - 0 + 88) else _) else _) = g 71 (88 + 26)
      rw [if_pos rfl, if_pos (by omega), s_cpy_o (by omega)]
    rw [ea] at q2
    have eo : ∀ a, a ≠ 71 → (s_cps 0 88 44 (s_cpy 20 53 g)) a = s_cpy 20 53 g a := fun a ha => by
      funext j
      show (if a = 71 then _ else (s_cpy 20 53 g) a j) = _
      rw [if_neg ha]
    refine ⟨_, _, _, _, _, q1, q2, n, W, H, y, h.town ⟨fun a ha => ?_, ⟨?_, ?_, ?_⟩, fun j hj => ?_, fun j hj => ?_⟩ ?_⟩
    · rw [eo a (by omega), s_cpy_o (by omega)]
    · rw [eo 8 (by decide), s_cpy_o (by omega)]
    · rw [eo 9 (by decide), s_cpy_o (by omega)]
    · rw [eo 11 (by decide), s_cpy_o (by omega)]
    · rw [eo 70 (by decide), s_cpy_o (by omega)]
    · show (if (71 : Nat) = 71 then (if 0 ≤ j ∧ j < 0 + 44 then _ else (s_cpy 20 53 g) 71 j) else _) = _
      rw [if_pos rfl, if_neg (by omega), s_cpy_o (by omega)]
    · unfold w_TT
      rw [eo 20 (by decide), eo 21 (by decide), eo 22 (by decide), eo 23 (by decide), eo 24 (by decide), eo 25 (by decide), eo 26 (by decide), eo 27 (by decide)]
      refine (TT.copy (a := 20) (b := 53) (g := g) (by omega) hy).cg (fun j hj => ?_)
      show (if (71 : Nat) = 71 then (if 0 ≤ j ∧ j < 0 + 44 then (s_cpy 20 53 g) 71 (j - 0 + 88) else _) else _) = g 71 (88 + j)
      rw [if_pos rfl, if_pos (by omega), s_cpy_o (by omega), show j - 0 + 88 = 88 + j by omega]
theorem pr_keep (x : Int32) (g : qM) (u : qW) (h : w_R g) : w_2 128 216 [.int x] g u := by
  obtain ⟨n, W, H, z, h⟩ := h
  have h5 := h.n5
  have h25 := h.wh
  have ok := h.ok
  have cs := h.cs
  have hgo := h.hgo
  obtain ⟨hn, hW, hH⟩ := h.1
  have hn2 : g 20 3 = Int32.ofNat n := h.2.1.1.2.2.2.1
  have hW2 : g 20 0 = Int32.ofNat W := h.2.1.1.1
  have hH2 : g 20 1 = Int32.ofNat H := h.2.1.1.2.1
  by_cases hb : v_rg 0 1 x
  · obtain ⟨m, m0, m1, rfl⟩ := hb
    rcases (show m = 0 ∨ m = 1 by omega) with e | e
    · subst e
      exact pr_keep0 g u ⟨n, W, H, z, h⟩
    · subst e
      exact pr_keep1 g u ⟨n, W, H, z, h⟩
  · exact w_2n h (cb_keep g u hn2 hW2 hH2 (by omega) h25 x hb) (rb_keep g u hn hW hH (by omega) h25 x hb)
theorem pr_back (x : Int32) (g : qM) (u : qW) (h : w_R g) : w_2 129 218 [.int x] g u := by
  obtain ⟨n, W, H, z, h⟩ := h
  have h5 := h.n5
  have h25 := h.wh
  have ok := h.ok
  have cs := h.cs
  have hgo := h.hgo
  obtain ⟨hn, hW, hH⟩ := h.1
  have hn2 : g 20 3 = Int32.ofNat n := h.2.1.1.2.2.2.1
  have hW2 : g 20 0 = Int32.ofNat W := h.2.1.1.1
  have hH2 : g 20 1 = Int32.ofNat H := h.2.1.1.2.1
  by_cases hb : v_rg 0 1 x
  · obtain ⟨m, m0, m1, rfl⟩ := hb
    rcases (show m = 0 ∨ m = 1 by omega) with e | e
    · subst e
      exact pr_back0 g u ⟨n, W, H, z, h⟩
    · subst e
      exact pr_back1 g u ⟨n, W, H, z, h⟩
  · exact w_2n h (cb_back g u hn2 hW2 hH2 (by omega) h25 x hb) (rb_back g u hn hW hH (by omega) h25 x hb)
