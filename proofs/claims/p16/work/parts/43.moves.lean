/-! MOVES are alike. -/
theorem s_none_ne {j : Nat} (h : j < 1000) : Int32.ofNat j ≠ i_none := fun z => by
  have e := congrArg Int32.toInt z
  rw [q_nat (by omega)] at e
  have e2 : (i_none : Int32).toInt = -4 := by decide
  omega
theorem s_wl_none {c : Nat → Int32} {x : Int32} : ∀ k i f, i + k ≤ 6 → (s_wl c x k i f = i_none ↔ f = i_none ∧ ∀ q, i ≤ q → q < i + k → c q ≠ x)
  | 0, i, f, _ => ⟨fun h => ⟨h, fun q h1 h2 => by omega⟩, fun h => h.1⟩
  | k + 1, i, f, hk => by
    unfold s_wl
    rw [s_wl_none k (i + 1) _ (by omega)]
    by_cases h : c i = x
    · rw [if_pos h]
      constructor
      · intro z
        exact absurd z.1 (s_none_ne (by omega))
      · intro z
        exact absurd h (z.2 i (Nat.le_refl _) (by omega))
    · rw [if_neg h]
      constructor
      · intro z
        refine ⟨z.1, fun q h1 h2 => ?_⟩
        by_cases e : q = i
        · rw [e]
          exact h
        · exact z.2 q (by omega) (by omega)
      · intro z
        exact ⟨z.1, fun q h1 h2 => z.2 q (by omega) (by omega)⟩
theorem s_geo_ok {W H C y : Nat} (hW : 2 ≤ W) (hW5 : W ≤ 5) (hH : 2 ≤ H) (hH5 : H ≤ 5) (hC : C < W * H) (hy : y < 5) : ((¬ Int32.ofNat y = 4 ∧ (¬ s_col (Int32.ofNat W) (Int32.ofNat C) + s_cx (Int32.ofNat y) < 0 ∧ ¬ Int32.ofNat W ≤ s_col (Int32.ofNat W) (Int32.ofNat C) + s_cx (Int32.ofNat y) ∧ ¬ s_row (Int32.ofNat W) (Int32.ofNat C) + s_cy (Int32.ofNat y) < 0 ∧ ¬ Int32.ofNat H ≤ s_row (Int32.ofNat W) (Int32.ofNat C) + s_cy (Int32.ofNat y))) → ∃ D, D < W * H ∧ s_to (Int32.ofNat W) (Int32.ofNat H) (Int32.ofNat C) (Int32.ofNat y) = Int32.ofNat D ∧ (s_row (Int32.ofNat W) (Int32.ofNat C) + s_cy (Int32.ofNat y)) * Int32.ofNat W + (s_col (Int32.ofNat W) (Int32.ofNat C) + s_cx (Int32.ofNat y)) = Int32.ofNat D ∧ s_col (Int32.ofNat W) (Int32.ofNat D) = s_col (Int32.ofNat W) (Int32.ofNat C) + s_cx (Int32.ofNat y) ∧ s_row (Int32.ofNat W) (Int32.ofNat D) = s_row (Int32.ofNat W) (Int32.ofNat C) + s_cy (Int32.ofNat y)) ∧ (¬ (¬ Int32.ofNat y = 4 ∧ (¬ s_col (Int32.ofNat W) (Int32.ofNat C) + s_cx (Int32.ofNat y) < 0 ∧ ¬ Int32.ofNat W ≤ s_col (Int32.ofNat W) (Int32.ofNat C) + s_cx (Int32.ofNat y) ∧ ¬ s_row (Int32.ofNat W) (Int32.ofNat C) + s_cy (Int32.ofNat y) < 0 ∧ ¬ Int32.ofNat H ≤ s_row (Int32.ofNat W) (Int32.ofNat C) + s_cy (Int32.ofNat y))) → s_to (Int32.ofNat W) (Int32.ofNat H) (Int32.ofNat C) (Int32.ofNat y) = i_none) := by
  have hWH : W * H ≤ 25 := Nat.le_trans (Nat.mul_le_mul hW5 hH5) (Nat.le_refl 25)
  have h := List.all_eq_true.mp (List.all_eq_true.mp (List.all_eq_true.mp (List.all_eq_true.mp s_geo_fin (W - 2) (List.mem_range.mpr (by omega))) (H - 2) (List.mem_range.mpr (by omega))) C (List.mem_range.mpr (by omega))) y (List.mem_range.mpr hy)
  rw [show W - 2 + 2 = W by omega, show H - 2 + 2 = H by omega] at h
  unfold s_geo at h
  rw [Bool.or_eq_true] at h
  rcases h with h | h
  · exact absurd hC (of_decide_eq_true h)
  · dsimp only at h
    refine ⟨fun z => ?_, fun z => ?_⟩
    · rw [decide_eq_true z] at h
      simp only [Bool.and_eq_true, decide_eq_true_eq] at h
      obtain ⟨h1, h2, h3, h4, h5, h6, h7⟩ := h
      have e := q_of h3
      refine ⟨_, ?_, e, ?_, ?_, ?_⟩
      · omega
      · rw [← e]
        exact h2
      · rw [← e]
        exact h5
      · rw [← e]
        exact h6
    · rw [decide_eq_false z] at h
      exact of_decide_eq_true h
def s_rel (W H n : Nat) (wl : Int32) (wy : Nat → Int32) (i : Nat) (c X Y : Nat → Int32) (t wn : Int32) (c' wt : Nat → Int32) (an : Int32) : Prop :=
  (∀ p, p < n → c' p = c p) ∧ (∀ p, p < n → X p = s_col (Int32.ofNat W) (c p)) ∧ (∀ p, p < n → Y p = s_row (Int32.ofNat W) (c p)) ∧ (∀ p, p < n → ∃ C, C < W * H ∧ c p = Int32.ofNat C) ∧ (∀ p q, p < n → q < n → p ≠ q → c p ≠ c q) ∧ (∀ p, p < n → s_bit wl (c p) = 0) ∧ (∀ N, N < 25 → (s_bit t (Int32.ofNat N) = 0 ↔ s_bit wl (Int32.ofNat N) = 0 ∧ ∀ q, q < n → c q ≠ Int32.ofNat N)) ∧ (∀ j, j < 25 → (s_bit wn (Int32.ofNat j) = 0 ↔ ¬ (j < i ∧ wt j ≠ 4))) ∧ (∀ j, j < i → wt j = 4 ∨ wt j = wy j) ∧ (wn = 0 ↔ an = 0)
theorem s_set_i (f : Nat → Int32) (i : Nat) (x : Int32) : s_set f i x i = x := if_pos rfl
theorem s_set_ne (f : Nat → Int32) {i j : Nat} (x : Int32) (h : j ≠ i) : s_set f i x j = f j := if_neg h
theorem s_bit_0 (x : Int32) : s_bit 0 x = 0 := by
  unfold s_bit
  rw [← Int32.toBitVec_inj, Int32.toBitVec_and, Int32.toBitVec_shiftRight]
  simp
section Rel
variable {W H n : Nat} {wl : Int32} {wy : Nat → Int32} {i : Nat} {c X Y : Nat → Int32} {t wn : Int32} {c' wt : Nat → Int32} {an : Int32}
theorem s_rel_no (hr : s_rel W H n wl wy i c X Y t wn c' wt an) : s_rel W H n wl wy (i + 1) c X Y t wn c' (s_set wt i 4) an := by
  obtain ⟨r1, r2, r3, r4, r5, r6, r7, r8, r9, r10⟩ := hr
  refine ⟨r1, r2, r3, r4, r5, r6, r7, fun j hj => ?_, fun j hj => ?_, r10⟩
  · rw [r8 j hj]
    by_cases e : j = i
    · subst e
      rw [s_set_i]
      constructor
      · intro _ z
        exact z.2 rfl
      · intro _ z
        omega
    · rw [s_set_ne _ _ e]
      constructor
      · intro h z
        exact h ⟨by omega, z.2⟩
      · intro h z
        exact h ⟨by omega, z.2⟩
  · by_cases e : j = i
    · subst e
      rw [s_set_i]
      exact Or.inl rfl
    · rw [s_set_ne _ _ e]
      exact r9 j (by omega)
theorem s_rel_go (hr : s_rel W H n wl wy i c X Y t wn c' wt an) (hi : i < n) (h6 : n ≤ 6) (hWH : W * H ≤ 25) {C D : Nat} (hC : C < W * H) (ec : c i = Int32.ofNat C) (hD : D < W * H) (hw4 : ¬ wy i = 4) (e1 : s_col (Int32.ofNat W) (Int32.ofNat D) = X i + s_cx (wy i)) (e2 : s_row (Int32.ofNat W) (Int32.ofNat D) = Y i + s_cy (wy i)) (hb : s_bit t (Int32.ofNat D) = 0) : s_rel W H n wl wy (i + 1) (s_set c i (Int32.ofNat D)) (s_set X i (X i + s_cx (wy i))) (s_set Y i (Y i + s_cy (wy i))) ((t &&& (((1 : Int32) <<< (c i &&& 31)) ^^^ Int32.ofInt (-1))) ||| ((1 : Int32) <<< (Int32.ofNat D &&& 31))) (wn ||| ((1 : Int32) <<< (Int32.ofNat i &&& 31))) (s_set c' i (Int32.ofNat D)) (s_set wt i (wy i)) 1 := by
  obtain ⟨r1, r2, r3, r4, r5, r6, r7, r8, r9, r10⟩ := hr
  have b1 := (r7 D (by omega)).mp hb
  refine ⟨fun p hp => ?_, fun p hp => ?_, fun p hp => ?_, fun p hp => ?_, fun p q hp hq hpq => ?_, fun p hp => ?_, fun N hN => ?_, fun j hj => ?_, fun j hj => ?_, ?_⟩
  · by_cases e : p = i
    · rw [e, s_set_i, s_set_i]
    · rw [s_set_ne _ _ e, s_set_ne _ _ e, r1 p hp]
  · by_cases e : p = i
    · rw [e, s_set_i, s_set_i, e1]
    · rw [s_set_ne _ _ e, s_set_ne _ _ e, r2 p hp]
  · by_cases e : p = i
    · rw [e, s_set_i, s_set_i, e2]
    · rw [s_set_ne _ _ e, s_set_ne _ _ e, r3 p hp]
  · by_cases e : p = i
    · exact ⟨D, hD, by rw [e, s_set_i]⟩
    · rw [s_set_ne _ _ e]
      exact r4 p hp
  · by_cases e : p = i
    · have e' : q ≠ i := fun z => hpq (e.trans z.symm)
      rw [e, s_set_i, s_set_ne _ _ e']
      exact fun z => b1.2 q hq z.symm
    · by_cases e' : q = i
      · rw [e', s_set_i, s_set_ne _ _ e]
        exact b1.2 p hp
      · rw [s_set_ne _ _ e, s_set_ne _ _ e']
        exact r5 p q hp hq hpq
  · by_cases e : p = i
    · rw [e, s_set_i]
      exact b1.1
    · rw [s_set_ne _ _ e]
      exact r6 p hp
  · rw [ec, s_bit_mv (by omega) (by omega) hN]
    constructor
    · intro ⟨h1, h2⟩
      rcases h1 with h1 | h1
      · obtain ⟨h3, h4⟩ := (r7 N hN).mp h1
        refine ⟨h3, fun q hq => ?_⟩
        by_cases e : q = i
        · rw [e, s_set_i]
          exact fun z => h2 ((q_eq (by omega) (by omega)).mp z).symm
        · rw [s_set_ne _ _ e]
          exact h4 q hq
      · refine ⟨by rw [h1, ← ec]; exact r6 i hi, fun q hq => ?_⟩
        by_cases e : q = i
        · rw [e, s_set_i]
          exact fun z => h2 ((q_eq (by omega) (by omega)).mp z).symm
        · rw [s_set_ne _ _ e, h1, ← ec]
          exact r5 q i hq hi e
    · intro ⟨h1, h2⟩
      have h3 := h2 i hi
      rw [s_set_i] at h3
      refine ⟨?_, fun z => h3 (by rw [z])⟩
      by_cases e : N = C
      · exact Or.inr e
      · refine Or.inl ((r7 N hN).mpr ⟨h1, fun q hq => ?_⟩)
        by_cases e' : q = i
        · rw [e', ec]
          exact fun z => e ((q_eq (by omega) (by omega)).mp z).symm
        · have := h2 q hq
          rw [s_set_ne _ _ e'] at this
          exact this
  · rw [s_bit_or (by omega) hj, r8 j hj]
    by_cases e : j = i
    · subst e
      rw [s_set_i]
      constructor
      · intro z
        exact absurd rfl z.2
      · intro z
        exact absurd ⟨by omega, hw4⟩ z
    · rw [s_set_ne _ _ e]
      constructor
      · intro z y
        exact z.1 ⟨by omega, y.2⟩
      · intro z
        exact ⟨fun y => z ⟨by omega, y.2⟩, e⟩
  · by_cases e : j = i
    · rw [e, s_set_i]
      exact Or.inr rfl
    · rw [s_set_ne _ _ e]
      exact r9 j (by omega)
  · constructor
    · intro z
      have h1 := (s_bit_or (t := wn) (M := i) (N := i) (by omega) (by omega)).mp (by rw [z]; exact s_bit_0 _)
      exact absurd rfl h1.2
    · intro z
      exact absurd z (by decide)
end Rel
/-- the moves of both, all of them -/
theorem s_moves {W H n : Nat} {wl : Int32} {wy : Nat → Int32} (hW : 2 ≤ W) (hW5 : W ≤ 5) (hH : 2 ≤ H) (hH5 : H ≤ 5) (h6 : n ≤ 6) (hy : ∀ p, p < n → ∃ y, y < 5 ∧ wy p = Int32.ofNat y) : ∀ k i c X Y t wn c' wt an, i + k = n → s_rel W H n wl wy i c X Y t wn c' wt an → s_rel W H n wl wy n (s_mv (Int32.ofNat W) (Int32.ofNat H) wy k i c X Y t wn).1 (s_mv (Int32.ofNat W) (Int32.ofNat H) wy k i c X Y t wn).2.1 (s_mv (Int32.ofNat W) (Int32.ofNat H) wy k i c X Y t wn).2.2.1 (s_mv (Int32.ofNat W) (Int32.ofNat H) wy k i c X Y t wn).2.2.2.1 (s_mv (Int32.ofNat W) (Int32.ofNat H) wy k i c X Y t wn).2.2.2.2 (s_rm (Int32.ofNat W) (Int32.ofNat H) wl wy n k i c' wt an).1 (s_rm (Int32.ofNat W) (Int32.ofNat H) wl wy n k i c' wt an).2.1 (s_rm (Int32.ofNat W) (Int32.ofNat H) wl wy n k i c' wt an).2.2
  | 0, i, c, X, Y, t, wn, c', wt, an, hi, hr => by
    have e : i = n := by omega
    subst e
    exact hr
  | k + 1, i, c, X, Y, t, wn, c', wt, an, hi, hr => by
    have hWH : W * H ≤ 25 := Nat.le_trans (Nat.mul_le_mul hW5 hH5) (Nat.le_refl 25)
    have hin : i < n := by omega
    have hr' := hr
    obtain ⟨r1, r2, r3, r4, r5, r6, r7, r8, r9, r10⟩ := hr'
    obtain ⟨C, hC, ec⟩ := r4 i hin
    obtain ⟨y, hy5, ey⟩ := hy i hin
    obtain ⟨g1, g2⟩ := s_geo_ok hW hW5 hH hH5 hC hy5
    rw [← ec, ← ey, ← r2 i hin, ← r3 i hin] at g1 g2
    have hwl : ∀ D, D < W * H → (s_wl c' (Int32.ofNat D) n 0 i_none = i_none ↔ ∀ q, q < n → c q ≠ Int32.ofNat D) := fun D hD => by
      rw [s_wl_none n 0 _ (by omega)]
      constructor
      · intro z q hq
        rw [← r1 q hq]
        exact z.2 q (Nat.zero_le _) (by omega)
      · intro z
        exact ⟨rfl, fun q _ hq => by rw [r1 q (by omega)]; exact z q (by omega)⟩
    by_cases hgo : s_gc (Int32.ofNat W) (Int32.ofNat H) (wy i) (X i) (Y i) t
    · obtain ⟨D, hD, d1, d2, d3, d4⟩ := g1 ⟨hgo.1, hgo.2.1⟩
      have hb := hgo.2.2
      rw [d2] at hb
      obtain ⟨b1, b2⟩ := (r7 D (by omega)).mp hb
      rw [s_mv_go hgo, d2]
      unfold s_rm
      rw [r1 i hin, d1, if_neg (show ¬ s_op wl (Int32.ofNat D) = 0 by
        unfold s_op
        rw [if_neg (s_none_ne (by omega)), if_pos b1]
        decide), if_pos ((hwl D hD).mpr b2)]
      exact s_moves hW hW5 hH hH5 h6 hy k (i + 1) _ _ _ _ _ _ _ _ (by omega) (s_rel_go hr hin h6 hWH hC ec hD hgo.1 d3 d4 hb)
    · rw [s_mv_no hgo]
      have hno : s_rm (Int32.ofNat W) (Int32.ofNat H) wl wy n (k + 1) i c' wt an = s_rm (Int32.ofNat W) (Int32.ofNat H) wl wy n k (i + 1) c' (s_set wt i 4) an := by
        show (if s_op wl (s_to (Int32.ofNat W) (Int32.ofNat H) (c' i) (wy i)) = 0 then _ else if s_wl c' (s_to (Int32.ofNat W) (Int32.ofNat H) (c' i) (wy i)) n 0 i_none = i_none then _ else _) = _
        rw [r1 i hin]
        by_cases hcond : ¬ wy i = 4 ∧ (¬ X i + s_cx (wy i) < 0 ∧ ¬ Int32.ofNat W ≤ X i + s_cx (wy i) ∧ ¬ Y i + s_cy (wy i) < 0 ∧ ¬ Int32.ofNat H ≤ Y i + s_cy (wy i))
        · obtain ⟨D, hD, d1, d2, d3, d4⟩ := g1 hcond
          rw [d1]
          by_cases hop : s_op wl (Int32.ofNat D) = 0
          · rw [if_pos hop]
          · rw [if_neg hop]
            have hbw : s_bit wl (Int32.ofNat D) = 0 := by
              unfold s_op at hop
              rw [if_neg (s_none_ne (by omega))] at hop
              by_cases z : s_bit wl (Int32.ofNat D) = 0
              · exact z
              · rw [if_neg z] at hop
                exact absurd rfl hop
            rw [if_neg (fun z => hgo ⟨hcond.1, hcond.2, by rw [d2]; exact (r7 D (by omega)).mpr ⟨hbw, (hwl D hD).mp z⟩⟩)]
        · rw [g2 hcond, if_pos (show s_op wl i_none = 0 from if_pos rfl)]
      rw [hno]
      exact s_moves hW hW5 hH hH5 h6 hy k (i + 1) _ _ _ _ _ _ _ _ (by omega) (s_rel_no hr)
