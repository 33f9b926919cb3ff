section
/-! BITS of an int, by places 0 to 24. -/
theorem s_shr_fin : (List.range 25).all (fun N => decide ((Int32.ofNat N &&& 31).toBitVec.smod 32 = BitVec.ofNat 32 N)) = true := by decide +kernel
theorem s_and1 (v : BitVec 32) (N : Nat) (hN : N < 32) : v.sshiftRight N &&& 1#32 = 0#32 ↔ v.getLsbD N = false := by
  constructor
  · intro h
    have h1 := congrArg (fun b => b.getLsbD 0) h
    simp only [BitVec.getLsbD_and, BitVec.getLsbD_sshiftRight] at h1
    simpa [hN] using h1
  · intro h
    apply BitVec.eq_of_getLsbD_eq
    intro i hi
    simp only [BitVec.getLsbD_and, BitVec.getLsbD_sshiftRight]
    by_cases e : i = 0
    · subst e
      rw [if_pos (by omega), Nat.add_zero, h]
      simp
    · have : (1#32).getLsbD i = false := by
        rw [BitVec.getLsbD_one]
        simp [e]
      rw [this]
      simp
theorem s_bit_l {t : Int32} {N : Nat} (hN : N < 25) : s_bit t (Int32.ofNat N) = 0 ↔ t.toBitVec.getLsbD N = false := by
  have h := of_decide_eq_true (List.all_eq_true.mp s_shr_fin N (List.mem_range.mpr hN))
  unfold s_bit
  rw [← Int32.toBitVec_inj, Int32.toBitVec_and, Int32.toBitVec_shiftRight, h]
  show t.toBitVec.sshiftRight (BitVec.ofNat 32 N).toNat &&& 1#32 = 0#32 ↔ _
  rw [BitVec.toNat_ofNat, Nat.mod_eq_of_lt (by omega)]
  exact s_and1 _ _ (by omega)
theorem s_one_fin : (List.range 25).all (fun M => (List.range 25).all (fun N => decide (((1 : Int32) <<< (Int32.ofNat M &&& 31)).toBitVec.getLsbD N = decide (N = M)))) = true := by decide +kernel
theorem s_one {M N : Nat} (hM : M < 25) (hN : N < 25) : ((1 : Int32) <<< (Int32.ofNat M &&& 31)).toBitVec.getLsbD N = decide (N = M) := of_decide_eq_true (List.all_eq_true.mp (List.all_eq_true.mp s_one_fin M (List.mem_range.mpr hM)) N (List.mem_range.mpr hN))
theorem s_m1_fin : (List.range 25).all (fun N => decide ((Int32.ofInt (-1)).toBitVec.getLsbD N = true)) = true := by decide +kernel
theorem s_bit_or {t : Int32} {M N : Nat} (hM : M < 25) (hN : N < 25) : s_bit (t ||| ((1 : Int32) <<< (Int32.ofNat M &&& 31))) (Int32.ofNat N) = 0 ↔ s_bit t (Int32.ofNat N) = 0 ∧ N ≠ M := by
  rw [s_bit_l hN, s_bit_l hN, Int32.toBitVec_or, BitVec.getLsbD_or, s_one hM hN]
  simp
theorem s_bit_mv {t : Int32} {K M N : Nat} (hK : K < 25) (hM : M < 25) (hN : N < 25) : s_bit ((t &&& (((1 : Int32) <<< (Int32.ofNat K &&& 31)) ^^^ Int32.ofInt (-1))) ||| ((1 : Int32) <<< (Int32.ofNat M &&& 31))) (Int32.ofNat N) = 0 ↔ (s_bit t (Int32.ofNat N) = 0 ∨ N = K) ∧ N ≠ M := by
  have h1 := of_decide_eq_true (List.all_eq_true.mp s_m1_fin N (List.mem_range.mpr hN))
  rw [s_bit_or hM hN, s_bit_l hN, s_bit_l hN, Int32.toBitVec_and, BitVec.getLsbD_and, Int32.toBitVec_xor, BitVec.getLsbD_xor, s_one hK hN, h1]
  simp
  intro _
  cases t.toBitVec.getLsbD N <;> simp
/-! CELLS BESIDE: the class by columns and rows, the reference by numbers (all towns, cells and ways). -/
def s_geo (W H C y : Nat) : Bool := decide (¬ C < W * H) || (let w := Int32.ofNat W; let h := Int32.ofNat H; let c := Int32.ofNat C; let way := Int32.ofNat y; let x := s_col w c + s_cx way; let r := s_row w c + s_cy way; let to := s_to w h c way
  (match decide (¬ way = 4 ∧ (¬ x < 0 ∧ ¬ w ≤ x ∧ ¬ r < 0 ∧ ¬ h ≤ r)) with
  | true => decide (¬ to = i_none) && (decide (r * w + x = to) && (decide (0 ≤ to.toInt) && (decide (to.toInt < ((W * H : Nat) : Int)) && (decide (s_col w to = x) && (decide (s_row w to = r) && decide (¬ to = c))))))
  | false => decide (to = i_none)))
theorem s_geo_fin : (List.range 4).all (fun W => (List.range 4).all (fun H => (List.range 25).all (fun C => (List.range 5).all (fun y => s_geo (W + 2) (H + 2) C y)))) = true := by decide +kernel
end
section
/-! MOVES are alike. -/
theorem s_none_ne {j : Nat} (h : j < 1000) : Int32.ofNat j ≠ i_none := fun z => by
  have e := congrArg Int32.toInt z
  rw [q_nat (by omega)] at e
  have e2 : (i_none : Int32).toInt = -4 := by decide
  omega
theorem s_wl_none {c : Nat → Int32} {x : Int32} : ∀ k i f, i + k ≤ 6 → (s_wl c x k i f = i_none ↔ f = i_none ∧ ∀ q, i ≤ q → q < i + k → c q ≠ x)
  | 0, i, f, _ => ⟨fun h => ⟨h, fun q h1 h2 => by omega⟩, fun h => h.1⟩
  | k + 1, i, f, hk => by
    unfold s_wl
    rw [s_wl_none k (i + 1) _ (by omega)]
    by_cases h : c i = x
    · rw [if_pos h]
      constructor
      · intro z
        exact absurd z.1 (s_none_ne (by omega))
      · intro z
        exact absurd h (z.2 i (Nat.le_refl _) (by omega))
    · rw [if_neg h]
      constructor
      · intro z
        refine ⟨z.1, fun q h1 h2 => ?_⟩
        by_cases e : q = i
        · rw [e]
          exact h
        · exact z.2 q (by omega) (by omega)
      · intro z
        exact ⟨z.1, fun q h1 h2 => z.2 q (by omega) (by omega)⟩
theorem s_geo_ok {W H C y : Nat} (hW : 2 ≤ W) (hW5 : W ≤ 5) (hH : 2 ≤ H) (hH5 : H ≤ 5) (hC : C < W * H) (hy : y < 5) : ((¬ Int32.ofNat y = 4 ∧ (¬ s_col (Int32.ofNat W) (Int32.ofNat C) + s_cx (Int32.ofNat y) < 0 ∧ ¬ Int32.ofNat W ≤ s_col (Int32.ofNat W) (Int32.ofNat C) + s_cx (Int32.ofNat y) ∧ ¬ s_row (Int32.ofNat W) (Int32.ofNat C) + s_cy (Int32.ofNat y) < 0 ∧ ¬ Int32.ofNat H ≤ s_row (Int32.ofNat W) (Int32.ofNat C) + s_cy (Int32.ofNat y))) → ∃ D, D < W * H ∧ s_to (Int32.ofNat W) (Int32.ofNat H) (Int32.ofNat C) (Int32.ofNat y) = Int32.ofNat D ∧ (s_row (Int32.ofNat W) (Int32.ofNat C) + s_cy (Int32.ofNat y)) * Int32.ofNat W + (s_col (Int32.ofNat W) (Int32.ofNat C) + s_cx (Int32.ofNat y)) = Int32.ofNat D ∧ s_col (Int32.ofNat W) (Int32.ofNat D) = s_col (Int32.ofNat W) (Int32.ofNat C) + s_cx (Int32.ofNat y) ∧ s_row (Int32.ofNat W) (Int32.ofNat D) = s_row (Int32.ofNat W) (Int32.ofNat C) + s_cy (Int32.ofNat y)) ∧ (¬ (¬ Int32.ofNat y = 4 ∧ (¬ s_col (Int32.ofNat W) (Int32.ofNat C) + s_cx (Int32.ofNat y) < 0 ∧ ¬ Int32.ofNat W ≤ s_col (Int32.ofNat W) (Int32.ofNat C) + s_cx (Int32.ofNat y) ∧ ¬ s_row (Int32.ofNat W) (Int32.ofNat C) + s_cy (Int32.ofNat y) < 0 ∧ ¬ Int32.ofNat H ≤ s_row (Int32.ofNat W) (Int32.ofNat C) + s_cy (Int32.ofNat y))) → s_to (Int32.ofNat W) (Int32.ofNat H) (Int32.ofNat C) (Int32.ofNat y) = i_none) := by
  have hWH : W * H ≤ 25 := Nat.le_trans (Nat.mul_le_mul hW5 hH5) (Nat.le_refl 25)
  have h := List.all_eq_true.mp (List.all_eq_true.mp (List.all_eq_true.mp (List.all_eq_true.mp s_geo_fin (W - 2) (List.mem_range.mpr (by omega))) (H - 2) (List.mem_range.mpr (by omega))) C (List.mem_range.mpr (by omega))) y (List.mem_range.mpr hy)
  rw [show W - 2 + 2 = W by omega, show H - 2 + 2 = H by omega] at h
  unfold s_geo at h
  rw [Bool.or_eq_true] at h
  rcases h with h | h
  · exact absurd hC (of_decide_eq_true h)
  · dsimp only at h
    refine ⟨fun z => ?_, fun z => ?_⟩
    · rw [decide_eq_true z] at h
      simp only [Bool.and_eq_true, decide_eq_true_eq] at h
      obtain ⟨h1, h2, h3, h4, h5, h6, h7⟩ := h
      have e := q_of h3
      refine ⟨_, ?_, e, ?_, ?_, ?_⟩
      · omega
      · rw [← e]
        exact h2
      · rw [← e]
        exact h5
      · rw [← e]
        exact h6
    · rw [decide_eq_false z] at h
      exact of_decide_eq_true h
def s_rel (W H n : Nat) (wl : Int32) (wy : Nat → Int32) (i : Nat) (c X Y : Nat → Int32) (t wn : Int32) (c' wt : Nat → Int32) (an : Int32) : Prop :=
  (∀ p, p < n → c' p = c p) ∧ (∀ p, p < n → X p = s_col (Int32.ofNat W) (c p)) ∧ (∀ p, p < n → Y p = s_row (Int32.ofNat W) (c p)) ∧ (∀ p, p < n → ∃ C, C < W * H ∧ c p = Int32.ofNat C) ∧ (∀ p q, p < n → q < n → p ≠ q → c p ≠ c q) ∧ (∀ p, p < n → s_bit wl (c p) = 0) ∧ (∀ N, N < 25 → (s_bit t (Int32.ofNat N) = 0 ↔ s_bit wl (Int32.ofNat N) = 0 ∧ ∀ q, q < n → c q ≠ Int32.ofNat N)) ∧ (∀ j, j < 25 → (s_bit wn (Int32.ofNat j) = 0 ↔ ¬ (j < i ∧ wt j ≠ 4))) ∧ (∀ j, j < i → wt j = 4 ∨ wt j = wy j) ∧ (wn = 0 ↔ an = 0)
theorem s_set_i (f : Nat → Int32) (i : Nat) (x : Int32) : s_set f i x i = x := if_pos rfl
theorem s_set_ne (f : Nat → Int32) {i j : Nat} (x : Int32) (h : j ≠ i) : s_set f i x j = f j := if_neg h
theorem s_bit_0 (x : Int32) : s_bit 0 x = 0 := by
  unfold s_bit
  rw [← Int32.toBitVec_inj, Int32.toBitVec_and, Int32.toBitVec_shiftRight]
  simp
section Rel
variable {W H n : Nat} {wl : Int32} {wy : Nat → Int32} {i : Nat} {c X Y : Nat → Int32} {t wn : Int32} {c' wt : Nat → Int32} {an : Int32}
theorem s_rel_no (hr : s_rel W H n wl wy i c X Y t wn c' wt an) : s_rel W H n wl wy (i + 1) c X Y t wn c' (s_set wt i 4) an := by
  obtain ⟨r1, r2, r3, r4, r5, r6, r7, r8, r9, r10⟩ := hr
  refine ⟨r1, r2, r3, r4, r5, r6, r7, fun j hj => ?_, fun j hj => ?_, r10⟩
  · rw [r8 j hj]
    by_cases e : j = i
    · subst e
      rw [s_set_i]
      constructor
      · intro _ z
        exact z.2 rfl
      · intro _ z
        omega
    · rw [s_set_ne _ _ e]
      constructor
      · intro h z
        exact h ⟨by omega, z.2⟩
      · intro h z
        exact h ⟨by omega, z.2⟩
  · by_cases e : j = i
    · subst e
      rw [s_set_i]
      exact Or.inl rfl
    · rw [s_set_ne _ _ e]
      exact r9 j (by omega)
theorem s_rel_go (hr : s_rel W H n wl wy i c X Y t wn c' wt an) (hi : i < n) (h6 : n ≤ 6) (hWH : W * H ≤ 25) {C D : Nat} (hC : C < W * H) (ec : c i = Int32.ofNat C) (hD : D < W * H) (hw4 : ¬ wy i = 4) (e1 : s_col (Int32.ofNat W) (Int32.ofNat D) = X i + s_cx (wy i)) (e2 : s_row (Int32.ofNat W) (Int32.ofNat D) = Y i + s_cy (wy i)) (hb : s_bit t (Int32.ofNat D) = 0) : s_rel W H n wl wy (i + 1) (s_set c i (Int32.ofNat D)) (s_set X i (X i + s_cx (wy i))) (s_set Y i (Y i + s_cy (wy i))) ((t &&& (((1 : Int32) <<< (c i &&& 31)) ^^^ Int32.ofInt (-1))) ||| ((1 : Int32) <<< (Int32.ofNat D &&& 31))) (wn ||| ((1 : Int32) <<< (Int32.ofNat i &&& 31))) (s_set c' i (Int32.ofNat D)) (s_set wt i (wy i)) 1 := by
  obtain ⟨r1, r2, r3, r4, r5, r6, r7, r8, r9, r10⟩ := hr
  have b1 := (r7 D (by omega)).mp hb
  refine ⟨fun p hp => ?_, fun p hp => ?_, fun p hp => ?_, fun p hp => ?_, fun p q hp hq hpq => ?_, fun p hp => ?_, fun N hN => ?_, fun j hj => ?_, fun j hj => ?_, ?_⟩
  · by_cases e : p = i
    · rw [e, s_set_i, s_set_i]
    · rw [s_set_ne _ _ e, s_set_ne _ _ e, r1 p hp]
  · by_cases e : p = i
    · rw [e, s_set_i, s_set_i, e1]
    · rw [s_set_ne _ _ e, s_set_ne _ _ e, r2 p hp]
  · by_cases e : p = i
    · rw [e, s_set_i, s_set_i, e2]
    · rw [s_set_ne _ _ e, s_set_ne _ _ e, r3 p hp]
  · by_cases e : p = i
    · exact ⟨D, hD, by rw [e, s_set_i]⟩
    · rw [s_set_ne _ _ e]
      exact r4 p hp
  · by_cases e : p = i
    · have e' : q ≠ i := fun z => hpq (e.trans z.symm)
      rw [e, s_set_i, s_set_ne _ _ e']
      exact fun z => b1.2 q hq z.symm
    · by_cases e' : q = i
      · rw [e', s_set_i, s_set_ne _ _ e]
        exact b1.2 p hp
      · rw [s_set_ne _ _ e, s_set_ne _ _ e']
        exact r5 p q hp hq hpq
  · by_cases e : p = i
    · rw [e, s_set_i]
      exact b1.1
    · rw [s_set_ne _ _ e]
      exact r6 p hp
  · rw [ec, s_bit_mv (by omega) (by omega) hN]
    constructor
    · intro ⟨h1, h2⟩
      rcases h1 with h1 | h1
      · obtain ⟨h3, h4⟩ := (r7 N hN).mp h1
        refine ⟨h3, fun q hq => ?_⟩
        by_cases e : q = i
        · rw [e, s_set_i]
          exact fun z => h2 ((q_eq (by omega) (by omega)).mp z).symm
        · rw [s_set_ne _ _ e]
          exact h4 q hq
      · refine ⟨by rw [h1, ← ec]; exact r6 i hi, fun q hq => ?_⟩
        by_cases e : q = i
        · rw [e, s_set_i]
          exact fun z => h2 ((q_eq (by omega) (by omega)).mp z).symm
        · rw [s_set_ne _ _ e, h1, ← ec]
          exact r5 q i hq hi e
    · intro ⟨h1, h2⟩
      have h3 := h2 i hi
      rw [s_set_i] at h3
      refine ⟨?_, fun z => h3 (by rw [z])⟩
      by_cases e : N = C
      · exact Or.inr e
      · refine Or.inl ((r7 N hN).mpr ⟨h1, fun q hq => ?_⟩)
        by_cases e' : q = i
        · rw [e', ec]
          exact fun z => e ((q_eq (by omega) (by omega)).mp z).symm
        · have := h2 q hq
          rw [s_set_ne _ _ e'] at this
          exact this
  · rw [s_bit_or (by omega) hj, r8 j hj]
    by_cases e : j = i
    · subst e
      rw [s_set_i]
      constructor
      · intro z
        exact absurd rfl z.2
      · intro z
        exact absurd ⟨by omega, hw4⟩ z
    · rw [s_set_ne _ _ e]
      constructor
      · intro z y
        exact z.1 ⟨by omega, y.2⟩
      · intro z
        exact ⟨fun y => z ⟨by omega, y.2⟩, e⟩
  · by_cases e : j = i
    · rw [e, s_set_i]
      exact Or.inr rfl
    · rw [s_set_ne _ _ e]
      exact r9 j (by omega)
  · constructor
    · intro z
      have h1 := (s_bit_or (t := wn) (M := i) (N := i) (by omega) (by omega)).mp (by rw [z]; exact s_bit_0 _)
      exact absurd rfl h1.2
    · intro z
      exact absurd z (by decide)
end Rel
/-- the moves of both, all of them -/
theorem s_moves {W H n : Nat} {wl : Int32} {wy : Nat → Int32} (hW : 2 ≤ W) (hW5 : W ≤ 5) (hH : 2 ≤ H) (hH5 : H ≤ 5) (h6 : n ≤ 6) (hy : ∀ p, p < n → ∃ y, y < 5 ∧ wy p = Int32.ofNat y) : ∀ k i c X Y t wn c' wt an, i + k = n → s_rel W H n wl wy i c X Y t wn c' wt an → s_rel W H n wl wy n (s_mv (Int32.ofNat W) (Int32.ofNat H) wy k i c X Y t wn).1 (s_mv (Int32.ofNat W) (Int32.ofNat H) wy k i c X Y t wn).2.1 (s_mv (Int32.ofNat W) (Int32.ofNat H) wy k i c X Y t wn).2.2.1 (s_mv (Int32.ofNat W) (Int32.ofNat H) wy k i c X Y t wn).2.2.2.1 (s_mv (Int32.ofNat W) (Int32.ofNat H) wy k i c X Y t wn).2.2.2.2 (s_rm (Int32.ofNat W) (Int32.ofNat H) wl wy n k i c' wt an).1 (s_rm (Int32.ofNat W) (Int32.ofNat H) wl wy n k i c' wt an).2.1 (s_rm (Int32.ofNat W) (Int32.ofNat H) wl wy n k i c' wt an).2.2
  | 0, i, c, X, Y, t, wn, c', wt, an, hi, hr => by
    have e : i = n := by omega
    subst e
    exact hr
  | k + 1, i, c, X, Y, t, wn, c', wt, an, hi, hr => by
    have hWH : W * H ≤ 25 := Nat.le_trans (Nat.mul_le_mul hW5 hH5) (Nat.le_refl 25)
    have hin : i < n := by omega
    have hr' := hr
    obtain ⟨r1, r2, r3, r4, r5, r6, r7, r8, r9, r10⟩ := hr'
    obtain ⟨C, hC, ec⟩ := r4 i hin
    obtain ⟨y, hy5, ey⟩ := hy i hin
    obtain ⟨g1, g2⟩ := s_geo_ok hW hW5 hH hH5 hC hy5
    rw [← ec, ← ey, ← r2 i hin, ← r3 i hin] at g1 g2
    have hwl : ∀ D, D < W * H → (s_wl c' (Int32.ofNat D) n 0 i_none = i_none ↔ ∀ q, q < n → c q ≠ Int32.ofNat D) := fun D hD => by
      rw [s_wl_none n 0 _ (by omega)]
      constructor
      · intro z q hq
        rw [← r1 q hq]
        exact z.2 q (Nat.zero_le _) (by omega)
      · intro z
        exact ⟨rfl, fun q _ hq => by rw [r1 q (by omega)]; exact z q (by omega)⟩
    by_cases hgo : s_gc (Int32.ofNat W) (Int32.ofNat H) (wy i) (X i) (Y i) t
    · obtain ⟨D, hD, d1, d2, d3, d4⟩ := g1 ⟨hgo.1, hgo.2.1⟩
      have hb := hgo.2.2
      rw [d2] at hb
      obtain ⟨b1, b2⟩ := (r7 D (by omega)).mp hb
      rw [s_mv_go hgo, d2]
      unfold s_rm
      rw [r1 i hin, d1, if_neg (show ¬ s_op wl (Int32.ofNat D) = 0 by
        unfold s_op
        rw [if_neg (s_none_ne (by omega)), if_pos b1]
        decide), if_pos ((hwl D hD).mpr b2)]
      exact s_moves hW hW5 hH hH5 h6 hy k (i + 1) _ _ _ _ _ _ _ _ (by omega) (s_rel_go hr hin h6 hWH hC ec hD hgo.1 d3 d4 hb)
    · rw [s_mv_no hgo]
      have hno : s_rm (Int32.ofNat W) (Int32.ofNat H) wl wy n (k + 1) i c' wt an = s_rm (Int32.ofNat W) (Int32.ofNat H) wl wy n k (i + 1) c' (s_set wt i 4) an := by
        show (if s_op wl (s_to (Int32.ofNat W) (Int32.ofNat H) (c' i) (wy i)) = 0 then _ else if s_wl c' (s_to (Int32.ofNat W) (Int32.ofNat H) (c' i) (wy i)) n 0 i_none = i_none then _ else _) = _
        rw [r1 i hin]
        by_cases hcond : ¬ wy i = 4 ∧ (¬ X i + s_cx (wy i) < 0 ∧ ¬ Int32.ofNat W ≤ X i + s_cx (wy i) ∧ ¬ Y i + s_cy (wy i) < 0 ∧ ¬ Int32.ofNat H ≤ Y i + s_cy (wy i))
        · obtain ⟨D, hD, d1, d2, d3, d4⟩ := g1 hcond
          rw [d1]
          by_cases hop : s_op wl (Int32.ofNat D) = 0
          · rw [if_pos hop]
          · rw [if_neg hop]
            have hbw : s_bit wl (Int32.ofNat D) = 0 := by
              unfold s_op at hop
              rw [if_neg (s_none_ne (by omega))] at hop
              by_cases z : s_bit wl (Int32.ofNat D) = 0
              · exact z
              · rw [if_neg z] at hop
                exact absurd rfl hop
            rw [if_neg (fun z => hgo ⟨hcond.1, hcond.2, by rw [d2]; exact (r7 D (by omega)).mpr ⟨hbw, (hwl D hD).mp z⟩⟩)]
        · rw [g2 hcond, if_pos (show s_op wl i_none = 0 from if_pos rfl)]
      rw [hno]
      exact s_moves hW hW5 hH hH5 h6 hy k (i + 1) _ _ _ _ _ _ _ _ (by omega) (s_rel_no hr)
end
section
/-! FLIPS are alike. -/
def s_adj (X Y : Nat → Int32) (p q : Nat) : Int32 := if s_abs (X q - X p) + s_abs (Y q - Y p) = 1 then 1 else 0
theorem s_nx_app {X Y : Nat → Int32} {p : Nat} : ∀ k q a, s_nx X Y p (k + 1) q a = s_nx X Y p k q a + s_adj X Y p (q + k)
  | 0, q, a => rfl
  | k + 1, q, a => by
    show s_nx X Y p (k + 1) (q + 1) (a + s_adj X Y p q) = s_nx X Y p k (q + 1) (a + s_adj X Y p q) + s_adj X Y p (q + (k + 1))
    rw [s_nx_app k (q + 1) _, show q + 1 + k = q + (k + 1) by omega]
def s_adjf (W H C D : Nat) : Bool := decide (¬ C < W * H) || (decide (¬ D < W * H) || decide ((if s_abs (s_col (Int32.ofNat W) (Int32.ofNat D) - s_col (Int32.ofNat W) (Int32.ofNat C)) + s_abs (s_row (Int32.ofNat W) (Int32.ofNat D) - s_row (Int32.ofNat W) (Int32.ofNat C)) = 1 then (1 : Int32) else 0) = (if Int32.ofNat D = s_to (Int32.ofNat W) (Int32.ofNat H) (Int32.ofNat C) 0 then (1 : Int32) else 0) + (if Int32.ofNat D = s_to (Int32.ofNat W) (Int32.ofNat H) (Int32.ofNat C) 1 then (1 : Int32) else 0) + (if Int32.ofNat D = s_to (Int32.ofNat W) (Int32.ofNat H) (Int32.ofNat C) 2 then (1 : Int32) else 0) + (if Int32.ofNat D = s_to (Int32.ofNat W) (Int32.ofNat H) (Int32.ofNat C) 3 then (1 : Int32) else 0)))
theorem s_adj_fin : (List.range 4).all (fun W => (List.range 4).all (fun H => (List.range 25).all (fun C => (List.range 25).all (fun D => s_adjf (W + 2) (H + 2) C D)))) = true := by decide +kernel
theorem s_oc_s {c : Nat → Int32} {k : Nat} {x : Int32} (hk : k + 1 ≤ 6) (hd : ∀ q, q < k → c q ≠ c k) (hn : c k ≠ i_none) : s_oc c (k + 1) x = s_oc c k x + (if c k = x then 1 else 0) := by
  unfold s_oc
  by_cases h1 : x = i_none
  · rw [if_pos h1, if_pos h1, if_neg (fun z => hn (z.trans h1))]
    rfl
  · rw [if_neg h1, if_neg h1]
    by_cases h2 : c k = x
    · rw [if_pos h2, if_neg (fun z => ((s_wl_none (k + 1) 0 i_none (by omega)).mp z).2 k (Nat.zero_le _) (by omega) h2), if_pos ((s_wl_none k 0 i_none (by omega)).mpr ⟨rfl, fun q _ hq => by rw [← h2]; exact hd q (by omega)⟩)]
      rfl
    · rw [if_neg h2, Int32.add_zero]
      by_cases h3 : s_wl c x k 0 i_none = i_none
      · have h4 := ((s_wl_none k 0 i_none (by omega)).mp h3).2
        rw [if_pos h3, if_pos ((s_wl_none (k + 1) 0 i_none (by omega)).mpr ⟨rfl, fun q _ hq => by
          by_cases e : q = k
          · rw [e]
            exact h2
          · exact h4 q (Nat.zero_le _) (by omega)⟩)]
      · rw [if_neg h3, if_neg (fun z => h3 ((s_wl_none k 0 i_none (by omega)).mpr ⟨rfl, fun q _ hq => ((s_wl_none (k + 1) 0 i_none (by omega)).mp z).2 q (Nat.zero_le _) (by omega)⟩))]
theorem s_add4 (z a b c d e f g h : Int32) : z + (a + e) + (b + f) + (c + g) + (d + h) = z + a + b + c + d + (e + f + g + h) := by
  first
    | ac_rfl
    | grind
theorem s_count {W H n : Nat} (hW : 2 ≤ W) (hW5 : W ≤ 5) (hH : 2 ≤ H) (hH5 : H ≤ 5) (h6 : n ≤ 6) {c X Y : Nat → Int32} (hX : ∀ p, p < n → X p = s_col (Int32.ofNat W) (c p)) (hY : ∀ p, p < n → Y p = s_row (Int32.ofNat W) (c p)) (hc : ∀ p, p < n → ∃ C, C < W * H ∧ c p = Int32.ofNat C) (hd : ∀ p q, p < n → q < n → p ≠ q → c p ≠ c q) {p : Nat} (hp : p < n) : s_nx X Y p n 0 0 = s_cn (Int32.ofNat W) (Int32.ofNat H) c n p := by
  have hWH : W * H ≤ 25 := Nat.le_trans (Nat.mul_le_mul hW5 hH5) (Nat.le_refl 25)
  obtain ⟨C, hC, ec⟩ := hc p hp
  have key : ∀ k, k ≤ n → s_nx X Y p k 0 0 = s_cn (Int32.ofNat W) (Int32.ofNat H) c k p := by
    intro k
    induction k with
    | zero =>
      intro _
      have e : ∀ x, s_oc c 0 x = 0 := fun x => by
        unfold s_oc
        split
        · rfl
        · exact if_pos rfl
      unfold s_cn
      rw [e, e, e, e]
      rfl
    | succ k ih =>
      intro hk
      obtain ⟨D, hD, ed⟩ := hc k (by omega)
      have hs : ∀ x, s_oc c (k + 1) x = s_oc c k x + (if c k = x then 1 else 0) := fun x => s_oc_s (by omega) (fun q hq => hd q k (by omega) (by omega) (by omega)) (by rw [ed]; exact s_none_ne (by omega))
      have hf := List.all_eq_true.mp (List.all_eq_true.mp (List.all_eq_true.mp (List.all_eq_true.mp s_adj_fin (W - 2) (List.mem_range.mpr (by omega))) (H - 2) (List.mem_range.mpr (by omega))) C (List.mem_range.mpr (by omega))) D (List.mem_range.mpr (by omega))
      rw [show W - 2 + 2 = W by omega, show H - 2 + 2 = H by omega] at hf
      unfold s_adjf at hf
      rw [Bool.or_eq_true, Bool.or_eq_true] at hf
      rcases hf with hf | hf | hf
      · exact absurd hC (of_decide_eq_true hf)
      · exact absurd hD (of_decide_eq_true hf)
      · have hf := of_decide_eq_true hf
        rw [s_nx_app, Nat.zero_add, ih (by omega)]
        unfold s_cn s_adj
        rw [hs, hs, hs, hs, s_add4, hX k (by omega), hX p hp, hY k (by omega), hY p hp, ec, ed, hf]
  exact key n (Nat.le_refl _)
theorem s_fl_1 {pr : Int32} {X Y : Nat → Int32} {n : Nat} : ∀ k i mo fl j, (s_fl pr X Y n k i mo fl).1 j = if (i ≤ j ∧ j < i + k) ∧ (¬ mo j = 0 ∧ ¬ s_nx X Y j n 0 0 < pr) then s_fo (mo j) else mo j
  | 0, i, mo, fl, j => by
    rw [if_neg (fun z => by omega)]
    rfl
  | k + 1, i, mo, fl, j => by
    unfold s_fl
    by_cases h1 : mo i = 0
    · rw [if_pos h1, s_fl_1 k (i + 1) mo fl j]
      by_cases e : j = i
      · subst e
        rw [if_neg (fun z => by omega), if_neg (fun z => z.2.1 h1)]
      · have q : ((i + 1 ≤ j ∧ j < i + 1 + k) ∧ (¬ mo j = 0 ∧ ¬ s_nx X Y j n 0 0 < pr)) = ((i ≤ j ∧ j < i + (k + 1)) ∧ (¬ mo j = 0 ∧ ¬ s_nx X Y j n 0 0 < pr)) := propext ⟨fun z => ⟨by omega, z.2⟩, fun z => ⟨by omega, z.2⟩⟩
        simp only [q]
    · rw [if_neg h1]
      by_cases h2 : s_nx X Y i n 0 0 < pr
      · rw [if_pos h2, s_fl_1 k (i + 1) mo fl j]
        by_cases e : j = i
        · subst e
          rw [if_neg (fun z => by omega), if_neg (fun z => z.2.2 h2)]
        · have q : ((i + 1 ≤ j ∧ j < i + 1 + k) ∧ (¬ mo j = 0 ∧ ¬ s_nx X Y j n 0 0 < pr)) = ((i ≤ j ∧ j < i + (k + 1)) ∧ (¬ mo j = 0 ∧ ¬ s_nx X Y j n 0 0 < pr)) := propext ⟨fun z => ⟨by omega, z.2⟩, fun z => ⟨by omega, z.2⟩⟩
          simp only [q]
      · rw [if_neg h2, s_fl_1 k (i + 1) _ _ j]
        by_cases e : j = i
        · subst e
          rw [if_neg (fun z => by omega), s_set_i, if_pos ⟨by omega, h1, h2⟩]
        · rw [s_set_ne _ _ e]
          have q : ((i + 1 ≤ j ∧ j < i + 1 + k) ∧ (¬ mo j = 0 ∧ ¬ s_nx X Y j n 0 0 < pr)) = ((i ≤ j ∧ j < i + (k + 1)) ∧ (¬ mo j = 0 ∧ ¬ s_nx X Y j n 0 0 < pr)) := propext ⟨fun z => ⟨by omega, z.2⟩, fun z => ⟨by omega, z.2⟩⟩
          simp only [q]
theorem s_fl_2 {pr : Int32} {X Y : Nat → Int32} {n : Nat} : ∀ k i mo fl, i + k ≤ 6 → ((s_fl pr X Y n k i mo fl).2 = 0 ↔ fl = 0 ∧ ∀ j, i ≤ j → j < i + k → ¬ (¬ mo j = 0 ∧ ¬ s_nx X Y j n 0 0 < pr))
  | 0, i, mo, fl, _ => ⟨fun h => ⟨h, fun j h1 h2 => by omega⟩, fun h => h.1⟩
  | k + 1, i, mo, fl, hk => by
    have no : ¬ (¬ mo i = 0 ∧ ¬ s_nx X Y i n 0 0 < pr) → ((fl = 0 ∧ ∀ j, i + 1 ≤ j → j < i + 1 + k → ¬ (¬ mo j = 0 ∧ ¬ s_nx X Y j n 0 0 < pr)) ↔ (fl = 0 ∧ ∀ j, i ≤ j → j < i + (k + 1) → ¬ (¬ mo j = 0 ∧ ¬ s_nx X Y j n 0 0 < pr))) := fun hn => ⟨fun z => ⟨z.1, fun j h1 h2 => by
      by_cases e : j = i
      · rw [e]
        exact hn
      · exact z.2 j (by omega) (by omega)⟩, fun z => ⟨z.1, fun j h1 h2 => z.2 j (by omega) (by omega)⟩⟩
    unfold s_fl
    by_cases h1 : mo i = 0
    · rw [if_pos h1, s_fl_2 k (i + 1) mo fl (by omega)]
      exact no (fun z => z.1 h1)
    · rw [if_neg h1]
      by_cases h2 : s_nx X Y i n 0 0 < pr
      · rw [if_pos h2, s_fl_2 k (i + 1) mo fl (by omega)]
        exact no (fun z => z.2 h2)
      · rw [if_neg h2, s_fl_2 k (i + 1) _ _ (by omega)]
        constructor
        · intro z
          have h3 := (s_bit_or (t := fl) (M := i) (N := i) (by omega) (by omega)).mp (by rw [z.1]; exact s_bit_0 _)
          exact absurd rfl h3.2
        · intro z
          exact absurd ⟨h1, h2⟩ (z.2 i (Nat.le_refl _) (by omega))
theorem s_ra_0 {fl : Nat → Int32} : ∀ k i an, s_ra fl k i an = 0 ↔ an = 0 ∧ ∀ j, i ≤ j → j < i + k → ¬ fl j = 1
  | 0, i, an => ⟨fun h => ⟨h, fun j h1 h2 => by omega⟩, fun h => h.1⟩
  | k + 1, i, an => by
    unfold s_ra
    rw [s_ra_0 k (i + 1) _]
    by_cases h1 : an = 0
    · rw [if_pos h1]
      by_cases h2 : fl i = 1
      · rw [if_pos h2]
        exact ⟨fun z => absurd z.1 (by decide), fun z => absurd h2 (z.2 i (Nat.le_refl _) (by omega))⟩
      · rw [if_neg h2]
        exact ⟨fun z => ⟨h1, fun j a b => by
          by_cases e : j = i
          · rw [e]
            exact h2
          · exact z.2 j (by omega) (by omega)⟩, fun z => ⟨rfl, fun j a b => z.2 j (by omega) (by omega)⟩⟩
    · rw [if_neg h1]
      exact ⟨fun z => absurd z.1 (by decide), fun z => absurd z.1 h1⟩
theorem s_fo_fd {x : Int32} (h : x = 0 ∨ x = 1 ∨ x = 2 ∨ x = 3) : s_fo x = s_fd x := by
  rcases h with h | h | h | h <;> (rw [h]; decide)
theorem s_fd_4 {x : Int32} (h : x = 0 ∨ x = 1 ∨ x = 2 ∨ x = 3) : s_fd x = 0 ∨ s_fd x = 1 ∨ s_fd x = 2 ∨ s_fd x = 3 := by
  rcases h with h | h | h | h <;> (rw [h]; decide)
end
section
/-! A STEP is alike on both sides. -/
theorem s_rm_cg {w h wl : Int32} {wy wy' : Nat → Int32} {n : Nat} : ∀ k i c wt an, (∀ j, i ≤ j → j < i + k → wy j = wy' j) → s_rm w h wl wy n k i c wt an = s_rm w h wl wy' n k i c wt an
  | 0, _, _, _, _, _ => rfl
  | k + 1, i, c, wt, an, hh => by
    have e := hh i (Nat.le_refl _) (by omega)
    have ih := fun c wt an => s_rm_cg (w := w) (h := h) (wl := wl) (n := n) k (i + 1) c wt an (fun j h1 h2 => hh j (by omega) (by omega))
    unfold s_rm
    rw [e, ih, ih]
theorem s_wl_cg {c c' : Nat → Int32} {x : Int32} : ∀ k i f, (∀ j, i ≤ j → j < i + k → c j = c' j) → s_wl c x k i f = s_wl c' x k i f
  | 0, _, _, _ => rfl
  | k + 1, i, f, hh => by
    unfold s_wl
    rw [hh i (Nat.le_refl _) (by omega), s_wl_cg k (i + 1) _ (fun j h1 h2 => hh j (by omega) (by omega))]
theorem s_cn_cg {w h : Int32} {c c' : Nat → Int32} {n p : Nat} (hc : ∀ j, j < n → c j = c' j) (hp : p < n) : s_cn w h c n p = s_cn w h c' n p := by
  have e : ∀ x, s_oc c n x = s_oc c' n x := fun x => by
    unfold s_oc
    rw [s_wl_cg n 0 _ (fun j _ h2 => hc j (by omega))]
  unfold s_cn
  rw [hc p hp, e, e, e, e]
theorem s_tk_bits {c : Nat → Int32} {N : Nat} (hN : N < 25) : ∀ k i t, (∀ q, i ≤ q → q < i + k → ∃ C, C < 25 ∧ c q = Int32.ofNat C) → (s_bit (s_tk c k i t) (Int32.ofNat N) = 0 ↔ s_bit t (Int32.ofNat N) = 0 ∧ ∀ q, i ≤ q → q < i + k → c q ≠ Int32.ofNat N)
  | 0, i, t, _ => ⟨fun h => ⟨h, fun q h1 h2 => by omega⟩, fun h => h.1⟩
  | k + 1, i, t, hc => by
    obtain ⟨C, hC, ec⟩ := hc i (Nat.le_refl _) (by omega)
    unfold s_tk
    rw [s_tk_bits hN k (i + 1) _ (fun q h1 h2 => hc q (by omega) (by omega)), ec, s_bit_or hC hN]
    constructor
    · intro ⟨⟨h1, h2⟩, h3⟩
      refine ⟨h1, fun q a b => ?_⟩
      by_cases e : q = i
      · rw [e, ec]
        exact fun z => h2 ((q_eq (by omega) (by omega)).mp z).symm
      · exact h3 q (by omega) (by omega)
    · intro ⟨h1, h2⟩
      refine ⟨⟨h1, fun z => h2 i (Nat.le_refl _) (by omega) (by rw [ec, z])⟩, fun q a b => h2 q (by omega) (by omega)⟩
/-- both sides tell of one town -/
def s_vw (T n W H : Nat) (g r : qM) : Prop := g T 3 = Int32.ofNat n ∧ r 70 27 = Int32.ofNat n ∧ g T 0 = Int32.ofNat W ∧ g T 1 = Int32.ofNat H ∧ r 70 2 = Int32.ofNat W ∧ r 70 3 = Int32.ofNat H ∧ r 71 20 = g T 2 ∧ r 71 25 = g T 4 ∧ (∀ d, 1 ≤ d → d ≤ 4 → r 71 (20 + d) = g (T + 5) d) ∧ (∀ p, p < n → r 75 p = g (T + 1) p) ∧ (∀ p, p < n → r 76 p = g (T + 2) p) ∧ (∀ p, p < n → r 77 p = g (T + 3) p)
/-- what holds of a town -/
def s_iv (T n W H : Nat) (g : qM) : Prop := (∀ p, p < n → ∃ C, C < W * H ∧ g (T + 1) p = Int32.ofNat C) ∧ (∀ p q, p < n → q < n → p ≠ q → g (T + 1) p ≠ g (T + 1) q) ∧ (∀ p, p < n → s_bit (g T 2) (g (T + 1) p) = 0) ∧ (∀ p, p < n → g (T + 2) p = 0 ∨ g (T + 2) p = 1 ∨ g (T + 2) p = 2 ∨ g (T + 2) p = 3) ∧ (∀ p, p < n → g (T + 3) p = 0 ∨ g (T + 3) p = 1)
theorem s_y5 {x : Int32} (h : x = 0 ∨ x = 1 ∨ x = 2 ∨ x = 3 ∨ x = 4) : ∃ y, y < 5 ∧ x = Int32.ofNat y := by
  rcases h with h | h | h | h | h
  · exact ⟨0, by omega, h⟩
  · exact ⟨1, by omega, h⟩
  · exact ⟨2, by omega, h⟩
  · exact ⟨3, by omega, h⟩
  · exact ⟨4, by omega, h⟩
theorem s_rgw {W : Nat} (hW : 2 ≤ W) (hW5 : W ≤ 5) : s_rg (Int32.ofNat W) 2 5 := ⟨by rw [q_nat (by omega)]; omega, by rw [q_nat (by omega)]; omega⟩
theorem s_rgc {C n : Nat} (h : C < n) (hn : n ≤ 25) : s_rg (Int32.ofNat C) 0 24 := ⟨by rw [q_nat (by omega)]; omega, by rw [q_nat (by omega)]; omega⟩
theorem s_rw_cg {w : Int32} {c c' mo mo' st st' pl : Nat → Int32} {n p : Nat} (h6 : n ≤ 6) (hp : p < n) (hc : ∀ q, q < n → c q = c' q) (hm : ∀ q, q < n → mo q = mo' q) (hs : ∀ q, q < n → st q = st' q) : s_rw w c mo st pl n p = s_rw w c' mo' st' pl n p := by
  have e : ∀ so, s_rf w c mo pl n so p = s_rf w c' mo' pl n so p := fun so => by
    unfold s_rf
    rw [s_sf_cg n 0 (fun q _ hq => by
      have hq : q < n := by omega
      unfold s_rt
      rw [hc q hq, hc p hp, hm q hq, hm p hp])]
    rfl
  unfold s_rw
  rw [hs p hp, e, e]
theorem s_same_20 {n W H : Nat} {g r : qM} (hW : 2 ≤ W) (hW5 : W ≤ 5) (hH : 2 ≤ H) (hH5 : H ≤ 5) (h6 : n ≤ 6) (hv : s_vw 20 n W H g r) (hi : s_iv 20 n W H g) : s_vw 20 n W H (s_step 20 n g) (s_rst n r) ∧ s_iv 20 n W H (s_step 20 n g) ∧ (∀ p, p < n → s_step 20 n g 33 p = s_rst n r 79 p) ∧ (∀ p, p < n → (s_bit (s_step 20 n g 28 5) (Int32.ofNat p) = 0 ↔ s_rst n r 80 p = 4) ∧ (s_rst n r 80 p = 4 ∨ s_rst n r 80 p = s_rst n r 79 p)) ∧ ((s_step 20 n g 28 5 = 0 ∧ s_step 20 n g 28 6 = 0) ↔ s_ran n r = 0) := by
  obtain ⟨v1, v2, v3, v4, v5, v6, v7, v8, v9, v10, v11, v12⟩ := hv
  obtain ⟨i1, i2, i3, i4, i5⟩ := hi
  have hWH : W * H ≤ 25 := Nat.le_trans (Nat.mul_le_mul hW5 hH5) (Nat.le_refl 25)
  have rw5 : ∀ p, s_rw (r 70 2) (r 75) (r 76) (r 77) (r 71) n p = 0 ∨ s_rw (r 70 2) (r 75) (r 76) (r 77) (r 71) n p = 1 ∨ s_rw (r 70 2) (r 75) (r 76) (r 77) (r 71) n p = 2 ∨ s_rw (r 70 2) (r 75) (r 76) (r 77) (r 71) n p = 3 ∨ s_rw (r 70 2) (r 75) (r 76) (r 77) (r 71) n p = 4 := fun p => s_rway_5 _ _
  -- the wishes
  have wy0 : ∀ p, p < n → s_wg 20 n g 33 p = s_wf (g 23) (s_H (g 20 0) (g 21) (g 22) (g 25) n g) p := fun p hp => if_pos hp
  have wy1 : ∀ p, p < n → s_r1 n r 79 p = s_rw (r 70 2) (r 75) (r 76) (r 77) (r 71) n p := fun p hp => if_pos hp
  have wy : ∀ p, p < n → s_wg 20 n g 33 p = s_r1 n r 79 p := fun p hp => by
    rw [wy0 p hp, wy1 p hp, s_wish h6 (by rw [v3]; exact s_rgw hW hW5) (fun q hq => by
      obtain ⟨C, hC, ec⟩ := i1 q hq
      rw [ec]
      exact s_rgc hC hWH) i5 v9 hp, v3, ← v5]
    exact s_rw_cg h6 hp (fun q hq => (v10 q hq).symm) (fun q hq => (v11 q hq).symm) (fun q hq => (v12 q hq).symm)
  have hy : ∀ p, p < n → ∃ y, y < 5 ∧ s_wg 20 n g 33 p = Int32.ofNat y := fun p hp => by
    rw [wy0 p hp]
    exact s_y5 (s_wf_5 _ _ _)
  -- the moves
  have hr0 : s_rel W H n (g 20 2) (s_wg 20 n g 33) 0 (g 21) (s_wg 20 n g 29) (s_wg 20 n g 30) (s_tk (g 21) n 0 (g 20 2)) 0 (r 75) (r 80) 0 := by
    refine ⟨v10, fun p hp => ?_, fun p hp => ?_, i1, i2, i3, fun N hN => ?_, fun j hj => ?_, fun j hj => by omega, ⟨fun _ => rfl, fun _ => rfl⟩⟩
    · rw [← v3]
      exact if_pos hp
    · rw [← v3]
      exact if_pos hp
    · rw [s_tk_bits hN n 0 _ (fun q _ hq => by
        obtain ⟨C, hC, ec⟩ := i1 q (by omega)
        exact ⟨C, by omega, ec⟩)]
      exact ⟨fun z => ⟨z.1, fun q hq => z.2 q (Nat.zero_le _) (by omega)⟩, fun z => ⟨z.1, fun q _ hq => z.2 q (by omega)⟩⟩
    · exact ⟨fun _ z => by omega, fun _ => s_bit_0 _⟩
  have hm := s_moves hW hW5 hH hH5 h6 hy n 0 _ _ _ _ _ _ _ _ (by omega) hr0
  rw [s_rm_cg n 0 _ _ _ (fun j _ hj => wy j (by omega))] at hm
  rw [show s_rm (Int32.ofNat W) (Int32.ofNat H) (g 20 2) (s_r1 n r 79) n n 0 (r 75) (r 80) 0 = s_rS n r by unfold s_rS; rw [v5, v6, v7]] at hm
  obtain ⟨m1, m2, m3, m4, m5, m6, m7, m8, m9, m10⟩ := hm
  -- the class's cells behind
  have hS : s_mv (s_wg 20 n g 20 0) (s_wg 20 n g 20 1) (s_wg 20 n g 33) n 0 (s_wg 20 n g 21) (s_wg 20 n g 29) (s_wg 20 n g 30) (s_tk (s_wg 20 n g 21) n 0 (s_wg 20 n g 20 2)) 0 = s_mv (Int32.ofNat W) (Int32.ofNat H) (s_wg 20 n g 33) n 0 (g 21) (s_wg 20 n g 29) (s_wg 20 n g 30) (s_tk (g 21) n 0 (g 20 2)) 0 := by
    show s_mv (g 20 0) (g 20 1) _ n 0 (g 21) _ _ _ 0 = _
    rw [v3, v4]
    rfl
  generalize hSS : s_mv (Int32.ofNat W) (Int32.ofNat H) (s_wg 20 n g 33) n 0 (g 21) (s_wg 20 n g 29) (s_wg 20 n g 30) (s_tk (g 21) n 0 (g 20 2)) 0 = S at hS m1 m2 m3 m4 m5 m6 m7 m8 m9 m10
  have hmove : s_move 20 n (s_wg 20 n g) = s_M4 21 S.1 S.2.1 S.2.2.1 S.2.2.2.2 (s_wg 20 n g) := by
    unfold s_move
    rw [hS]
  have hcnt : ∀ p, p < n → s_nx S.2.1 S.2.2.1 p n 0 0 = s_cn (r 70 2) (r 70 3) (s_rS n r).1 n p := fun p hp => by
    rw [s_count hW hW5 hH hH5 h6 m2 m3 m4 m5 hp, v5, v6]
    exact s_cn_cg (fun j hj => (m1 j hj).symm) hp
  have hstep : s_step 20 n g = q_up (s_flip 20 n (s_M4 21 S.1 S.2.1 S.2.2.1 S.2.2.2.2 (s_wg 20 n g))) 20 5 (g 20 5 + 1) := by
    unfold s_step
    rw [hmove]
  -- who flips
  have hfl : ∀ p, p < n → s_r3 n r 81 p = if s_pr (r 70 2) (r 70 3) (r 71 25) (s_rS n r).1 (r 76) n p = 0 then (0 : Int32) else 1 := fun p hp => if_pos hp
  have hpr : ∀ p, p < n → (s_r3 n r 81 p = 1 ↔ ¬ g 20 4 ≤ 0 ∧ (¬ g 22 p = 0 ∧ ¬ s_nx S.2.1 S.2.2.1 p n 0 0 < g 20 4)) := fun p hp => by
    rw [hfl p hp, hcnt p hp, ← v8]
    unfold s_pr
    rw [v11 p hp]
    have hz : g 22 p ≤ 0 ↔ g 22 p = 0 := by
      rcases i4 p hp with e | e | e | e <;> (rw [e]; decide)
    by_cases h1 : g 22 p = 0
    · rw [if_pos (hz.mpr h1), if_pos rfl]
      exact ⟨fun z => absurd z (by decide), fun z => absurd h1 z.2.1⟩
    · rw [if_neg (fun z => h1 (hz.mp z))]
      by_cases h2 : r 71 25 ≤ 0
      · rw [if_pos h2, if_pos rfl]
        exact ⟨fun z => absurd z (by decide), fun z => absurd h2 z.1⟩
      · rw [if_neg h2]
        by_cases h3 : s_cn (r 70 2) (r 70 3) (s_rS n r).1 n p < r 71 25
        · rw [if_pos h3, if_pos rfl]
          exact ⟨fun z => absurd z (by decide), fun z => absurd h3 z.2.2⟩
        · rw [if_neg h3, if_neg (by decide)]
          exact ⟨fun _ => ⟨h2, h1, h3⟩, fun _ => rfl⟩
  have hmood : ∀ p, p < n → s_step 20 n g 22 p = if s_r3 n r 81 p = 1 then s_fo (g 22 p) else g 22 p := fun p hp => by
    rw [hstep]
    show (if g 20 4 ≤ 0 then g 22 else (s_fl (g 20 4) S.2.1 S.2.2.1 n n 0 (g 22) 0).1) p = _
    by_cases h1 : g 20 4 ≤ 0
    · rw [if_pos h1, if_neg (fun z => ((hpr p hp).mp z).1 h1)]
    · rw [if_neg h1, s_fl_1]
      by_cases h2 : ¬ g 22 p = 0 ∧ ¬ s_nx S.2.1 S.2.2.1 p n 0 0 < g 20 4
      · rw [if_pos ⟨by omega, h2⟩, if_pos ((hpr p hp).mpr ⟨h1, h2⟩)]
      · rw [if_neg (fun z => h2 z.2), if_neg (fun z => h2 ((hpr p hp).mp z).2)]
  have hrm : ∀ p, p < n → s_rst n r 76 p = if s_r3 n r 81 p = 1 then s_fd (r 76 p) else r 76 p := fun p hp => if_pos hp
  have hc : ∀ p, p < n → s_step 20 n g 21 p = S.1 p := fun p hp => by
    rw [hstep]
    rfl
  refine ⟨⟨?_, ?_, ?_, ?_, ?_, ?_, ?_, ?_, ?_, ?_, ?_, ?_⟩, ⟨?_, ?_, ?_, ?_, ?_⟩, ?_, ?_, ?_⟩
  · exact v1
  · exact v2
  · exact v3
  · exact v4
  · exact v5
  · exact v6
  · exact v7
  · exact v8
  · exact v9
  · exact fun p hp => by
      rw [hc p hp]
      exact m1 p hp
  · exact fun p hp => by
      rw [hrm p hp, hmood p hp, v11 p hp, s_fo_fd (i4 p hp)]
  · exact v12
  · exact fun p hp => by
      rw [hc p hp]
      exact m4 p hp
  · exact fun p q hp hq hpq => by
      rw [hc p hp, hc q hq]
      exact m5 p q hp hq hpq
  · exact fun p hp => by
      rw [hc p hp]
      exact m6 p hp
  · exact fun p hp => by
      rw [hmood p hp]
      split
      · rw [s_fo_fd (i4 p hp)]
        exact s_fd_4 (i4 p hp)
      · exact i4 p hp
  · exact i5
  · exact fun p hp => by
      rw [hstep]
      exact wy p hp
  · exact fun p hp => by
      refine ⟨?_, ?_⟩
      · rw [hstep]
        show s_bit S.2.2.2.2 (Int32.ofNat p) = 0 ↔ (s_rS n r).2.1 p = 4
        rw [m8 p (by omega)]
        constructor
        · intro z
          by_cases e : (s_rS n r).2.1 p = 4
          · exact e
          · exact absurd ⟨hp, e⟩ z
        · intro z y
          exact y.2 z
      · show (s_rS n r).2.1 p = 4 ∨ (s_rS n r).2.1 p = s_r1 n r 79 p
        rcases m9 p hp with e | e
        · exact Or.inl e
        · exact Or.inr (e.trans (wy p hp))
  · unfold s_ran
    rw [s_ra_0 n 0 _, hstep]
    show (S.2.2.2.2 = 0 ∧ (if g 20 4 ≤ 0 then (0 : Int32) else (s_fl (g 20 4) S.2.1 S.2.2.1 n n 0 (g 22) 0).2) = 0) ↔ _
    rw [m10]
    refine and_congr Iff.rfl ?_
    by_cases h1 : g 20 4 ≤ 0
    · rw [if_pos h1]
      exact ⟨fun _ j _ hj z => ((hpr j (by omega)).mp z).1 h1, fun _ => rfl⟩
    · rw [if_neg h1, s_fl_2 n 0 _ _ (by omega)]
      exact ⟨fun z j a hj y => z.2 j a hj ((hpr j (by omega)).mp y).2, fun z => ⟨rfl, fun j a hj y => z j a hj ((hpr j (by omega)).mpr ⟨h1, y⟩)⟩⟩
theorem s_same_35 {n W H : Nat} {g r : qM} (hW : 2 ≤ W) (hW5 : W ≤ 5) (hH : 2 ≤ H) (hH5 : H ≤ 5) (h6 : n ≤ 6) (hv : s_vw 35 n W H g r) (hi : s_iv 35 n W H g) : s_vw 35 n W H (s_step 35 n g) (s_rst n r) ∧ s_iv 35 n W H (s_step 35 n g) ∧ (∀ p, p < n → s_step 35 n g 33 p = s_rst n r 79 p) ∧ (∀ p, p < n → (s_bit (s_step 35 n g 28 5) (Int32.ofNat p) = 0 ↔ s_rst n r 80 p = 4) ∧ (s_rst n r 80 p = 4 ∨ s_rst n r 80 p = s_rst n r 79 p)) ∧ ((s_step 35 n g 28 5 = 0 ∧ s_step 35 n g 28 6 = 0) ↔ s_ran n r = 0) := by
  obtain ⟨v1, v2, v3, v4, v5, v6, v7, v8, v9, v10, v11, v12⟩ := hv
  obtain ⟨i1, i2, i3, i4, i5⟩ := hi
  have hWH : W * H ≤ 25 := Nat.le_trans (Nat.mul_le_mul hW5 hH5) (Nat.le_refl 25)
  have rw5 : ∀ p, s_rw (r 70 2) (r 75) (r 76) (r 77) (r 71) n p = 0 ∨ s_rw (r 70 2) (r 75) (r 76) (r 77) (r 71) n p = 1 ∨ s_rw (r 70 2) (r 75) (r 76) (r 77) (r 71) n p = 2 ∨ s_rw (r 70 2) (r 75) (r 76) (r 77) (r 71) n p = 3 ∨ s_rw (r 70 2) (r 75) (r 76) (r 77) (r 71) n p = 4 := fun p => s_rway_5 _ _
  -- the wishes
  have wy0 : ∀ p, p < n → s_wg 35 n g 33 p = s_wf (g 38) (s_H (g 35 0) (g 36) (g 37) (g 40) n g) p := fun p hp => if_pos hp
  have wy1 : ∀ p, p < n → s_r1 n r 79 p = s_rw (r 70 2) (r 75) (r 76) (r 77) (r 71) n p := fun p hp => if_pos hp
  have wy : ∀ p, p < n → s_wg 35 n g 33 p = s_r1 n r 79 p := fun p hp => by
    rw [wy0 p hp, wy1 p hp, s_wish h6 (by rw [v3]; exact s_rgw hW hW5) (fun q hq => by
      obtain ⟨C, hC, ec⟩ := i1 q hq
      rw [ec]
      exact s_rgc hC hWH) i5 v9 hp, v3, ← v5]
    exact s_rw_cg h6 hp (fun q hq => (v10 q hq).symm) (fun q hq => (v11 q hq).symm) (fun q hq => (v12 q hq).symm)
  have hy : ∀ p, p < n → ∃ y, y < 5 ∧ s_wg 35 n g 33 p = Int32.ofNat y := fun p hp => by
    rw [wy0 p hp]
    exact s_y5 (s_wf_5 _ _ _)
  -- the moves
  have hr0 : s_rel W H n (g 35 2) (s_wg 35 n g 33) 0 (g 36) (s_wg 35 n g 29) (s_wg 35 n g 30) (s_tk (g 36) n 0 (g 35 2)) 0 (r 75) (r 80) 0 := by
    refine ⟨v10, fun p hp => ?_, fun p hp => ?_, i1, i2, i3, fun N hN => ?_, fun j hj => ?_, fun j hj => by omega, ⟨fun _ => rfl, fun _ => rfl⟩⟩
    · rw [← v3]
      exact if_pos hp
    · rw [← v3]
      exact if_pos hp
    · rw [s_tk_bits hN n 0 _ (fun q _ hq => by
        obtain ⟨C, hC, ec⟩ := i1 q (by omega)
        exact ⟨C, by omega, ec⟩)]
      exact ⟨fun z => ⟨z.1, fun q hq => z.2 q (Nat.zero_le _) (by omega)⟩, fun z => ⟨z.1, fun q _ hq => z.2 q (by omega)⟩⟩
    · exact ⟨fun _ z => by omega, fun _ => s_bit_0 _⟩
  have hm := s_moves hW hW5 hH hH5 h6 hy n 0 _ _ _ _ _ _ _ _ (by omega) hr0
  rw [s_rm_cg n 0 _ _ _ (fun j _ hj => wy j (by omega))] at hm
  rw [show s_rm (Int32.ofNat W) (Int32.ofNat H) (g 35 2) (s_r1 n r 79) n n 0 (r 75) (r 80) 0 = s_rS n r by unfold s_rS; rw [v5, v6, v7]] at hm
  obtain ⟨m1, m2, m3, m4, m5, m6, m7, m8, m9, m10⟩ := hm
  -- the class's cells behind
  have hS : s_mv (s_wg 35 n g 35 0) (s_wg 35 n g 35 1) (s_wg 35 n g 33) n 0 (s_wg 35 n g 36) (s_wg 35 n g 29) (s_wg 35 n g 30) (s_tk (s_wg 35 n g 36) n 0 (s_wg 35 n g 35 2)) 0 = s_mv (Int32.ofNat W) (Int32.ofNat H) (s_wg 35 n g 33) n 0 (g 36) (s_wg 35 n g 29) (s_wg 35 n g 30) (s_tk (g 36) n 0 (g 35 2)) 0 := by
    show s_mv (g 35 0) (g 35 1) _ n 0 (g 36) _ _ _ 0 = _
    rw [v3, v4]
    rfl
  generalize hSS : s_mv (Int32.ofNat W) (Int32.ofNat H) (s_wg 35 n g 33) n 0 (g 36) (s_wg 35 n g 29) (s_wg 35 n g 30) (s_tk (g 36) n 0 (g 35 2)) 0 = S at hS m1 m2 m3 m4 m5 m6 m7 m8 m9 m10
  have hmove : s_move 35 n (s_wg 35 n g) = s_M4 36 S.1 S.2.1 S.2.2.1 S.2.2.2.2 (s_wg 35 n g) := by
    unfold s_move
    rw [hS]
  have hcnt : ∀ p, p < n → s_nx S.2.1 S.2.2.1 p n 0 0 = s_cn (r 70 2) (r 70 3) (s_rS n r).1 n p := fun p hp => by
    rw [s_count hW hW5 hH hH5 h6 m2 m3 m4 m5 hp, v5, v6]
    exact s_cn_cg (fun j hj => (m1 j hj).symm) hp
  have hstep : s_step 35 n g = q_up (s_flip 35 n (s_M4 36 S.1 S.2.1 S.2.2.1 S.2.2.2.2 (s_wg 35 n g))) 35 5 (g 35 5 + 1) := by
    unfold s_step
    rw [hmove]
  -- who flips
  have hfl : ∀ p, p < n → s_r3 n r 81 p = if s_pr (r 70 2) (r 70 3) (r 71 25) (s_rS n r).1 (r 76) n p = 0 then (0 : Int32) else 1 := fun p hp => if_pos hp
  have hpr : ∀ p, p < n → (s_r3 n r 81 p = 1 ↔ ¬ g 35 4 ≤ 0 ∧ (¬ g 37 p = 0 ∧ ¬ s_nx S.2.1 S.2.2.1 p n 0 0 < g 35 4)) := fun p hp => by
    rw [hfl p hp, hcnt p hp, ← v8]
    unfold s_pr
    rw [v11 p hp]
    have hz : g 37 p ≤ 0 ↔ g 37 p = 0 := by
      rcases i4 p hp with e | e | e | e <;> (rw [e]; decide)
    by_cases h1 : g 37 p = 0
    · rw [if_pos (hz.mpr h1), if_pos rfl]
      exact ⟨fun z => absurd z (by decide), fun z => absurd h1 z.2.1⟩
    · rw [if_neg (fun z => h1 (hz.mp z))]
      by_cases h2 : r 71 25 ≤ 0
      · rw [if_pos h2, if_pos rfl]
        exact ⟨fun z => absurd z (by decide), fun z => absurd h2 z.1⟩
      · rw [if_neg h2]
        by_cases h3 : s_cn (r 70 2) (r 70 3) (s_rS n r).1 n p < r 71 25
        · rw [if_pos h3, if_pos rfl]
          exact ⟨fun z => absurd z (by decide), fun z => absurd h3 z.2.2⟩
        · rw [if_neg h3, if_neg (by decide)]
          exact ⟨fun _ => ⟨h2, h1, h3⟩, fun _ => rfl⟩
  have hmood : ∀ p, p < n → s_step 35 n g 37 p = if s_r3 n r 81 p = 1 then s_fo (g 37 p) else g 37 p := fun p hp => by
    rw [hstep]
    show (if g 35 4 ≤ 0 then g 37 else (s_fl (g 35 4) S.2.1 S.2.2.1 n n 0 (g 37) 0).1) p = _
    by_cases h1 : g 35 4 ≤ 0
    · rw [if_pos h1, if_neg (fun z => ((hpr p hp).mp z).1 h1)]
    · rw [if_neg h1, s_fl_1]
      by_cases h2 : ¬ g 37 p = 0 ∧ ¬ s_nx S.2.1 S.2.2.1 p n 0 0 < g 35 4
      · rw [if_pos ⟨by omega, h2⟩, if_pos ((hpr p hp).mpr ⟨h1, h2⟩)]
      · rw [if_neg (fun z => h2 z.2), if_neg (fun z => h2 ((hpr p hp).mp z).2)]
  have hrm : ∀ p, p < n → s_rst n r 76 p = if s_r3 n r 81 p = 1 then s_fd (r 76 p) else r 76 p := fun p hp => if_pos hp
  have hc : ∀ p, p < n → s_step 35 n g 36 p = S.1 p := fun p hp => by
    rw [hstep]
    rfl
  refine ⟨⟨?_, ?_, ?_, ?_, ?_, ?_, ?_, ?_, ?_, ?_, ?_, ?_⟩, ⟨?_, ?_, ?_, ?_, ?_⟩, ?_, ?_, ?_⟩
  · exact v1
  · exact v2
  · exact v3
  · exact v4
  · exact v5
  · exact v6
  · exact v7
  · exact v8
  · exact v9
  · exact fun p hp => by
      rw [hc p hp]
      exact m1 p hp
  · exact fun p hp => by
      rw [hrm p hp, hmood p hp, v11 p hp, s_fo_fd (i4 p hp)]
  · exact v12
  · exact fun p hp => by
      rw [hc p hp]
      exact m4 p hp
  · exact fun p q hp hq hpq => by
      rw [hc p hp, hc q hq]
      exact m5 p q hp hq hpq
  · exact fun p hp => by
      rw [hc p hp]
      exact m6 p hp
  · exact fun p hp => by
      rw [hmood p hp]
      split
      · rw [s_fo_fd (i4 p hp)]
        exact s_fd_4 (i4 p hp)
      · exact i4 p hp
  · exact i5
  · exact fun p hp => by
      rw [hstep]
      exact wy p hp
  · exact fun p hp => by
      refine ⟨?_, ?_⟩
      · rw [hstep]
        show s_bit S.2.2.2.2 (Int32.ofNat p) = 0 ↔ (s_rS n r).2.1 p = 4
        rw [m8 p (by omega)]
        constructor
        · intro z
          by_cases e : (s_rS n r).2.1 p = 4
          · exact e
          · exact absurd ⟨hp, e⟩ z
        · intro z y
          exact y.2 z
      · show (s_rS n r).2.1 p = 4 ∨ (s_rS n r).2.1 p = s_r1 n r 79 p
        rcases m9 p hp with e | e
        · exact Or.inl e
        · exact Or.inr (e.trans (wy p hp))
  · unfold s_ran
    rw [s_ra_0 n 0 _, hstep]
    show (S.2.2.2.2 = 0 ∧ (if g 35 4 ≤ 0 then (0 : Int32) else (s_fl (g 35 4) S.2.1 S.2.2.1 n n 0 (g 37) 0).2) = 0) ↔ _
    rw [m10]
    refine and_congr Iff.rfl ?_
    by_cases h1 : g 35 4 ≤ 0
    · rw [if_pos h1]
      exact ⟨fun _ j _ hj z => ((hpr j (by omega)).mp z).1 h1, fun _ => rfl⟩
    · rw [if_neg h1, s_fl_2 n 0 _ _ (by omega)]
      exact ⟨fun z j a hj y => z.2 j a hj ((hpr j (by omega)).mp y).2, fun z => ⟨rfl, fun j a hj y => z j a hj ((hpr j (by omega)).mpr ⟨h1, y⟩)⟩⟩
end
section
/-! STEPS of the class, one behind another (it ends early where a STEP changes nothing). -/
def s_tw (T n W H : Nat) (g : qM) : Prop := g T 3 = Int32.ofNat n ∧ g T 0 = Int32.ofNat W ∧ g T 1 = Int32.ofNat H ∧ s_iv T n W H g
/-- a reference's cells that tell of the town T -/
def s_mk (T : Nat) (g : qM) : qM := fun a j => if a = 70 then (if j = 27 then g T 3 else if j = 2 then g T 0 else if j = 3 then g T 1 else 0) else if a = 71 then (if j = 20 then g T 2 else if j = 25 then g T 4 else g (T + 5) (j - 20)) else if a = 75 then g (T + 1) j else if a = 76 then g (T + 2) j else if a = 77 then g (T + 3) j else 0
theorem s_mk_vw {T n W H : Nat} {g : qM} (h : s_tw T n W H g) : s_vw T n W H g (s_mk T g) := by
  obtain ⟨h1, h2, h3, _⟩ := h
  refine ⟨h1, h1, h2, h3, h2, h3, rfl, rfl, fun d h4 h5 => ?_, fun p _ => rfl, fun p _ => rfl, fun p _ => rfl⟩
  show (if 20 + d = 20 then g T 2 else if 20 + d = 25 then g T 4 else g (T + 5) (20 + d - 20)) = g (T + 5) d
  rw [if_neg (by omega), if_neg (by omega), show 20 + d - 20 = d by omega]
theorem s_tw_far {T n W H : Nat} {g : qM} (hW : 2 ≤ W) (hW5 : W ≤ 5) (hH5 : H ≤ 5) (h : s_tw T n W H g) : (¬ g T 0 ≤ 0) ∧ ∀ p q, p < n → q < n → 0 ≤ (s_far (g T 0) (g (T + 1) p) (g (T + 1) q)).toInt := by
  obtain ⟨_, h2, _, h4⟩ := h
  have hWH : W * H ≤ 25 := Nat.le_trans (Nat.mul_le_mul hW5 hH5) (Nat.le_refl 25)
  rw [h2]
  refine ⟨fun z => ?_, fun p q hp hq => ?_⟩
  · have := s_le0.mp z
    rw [q_nat (by omega)] at this
    omega
  · obtain ⟨C, hC, ec⟩ := h4.1 p hp
    obtain ⟨D, hD, ed⟩ := h4.1 q hq
    rw [ec, ed]
    exact (s_far_b (s_rgw hW hW5) (s_rgc hC hWH) (s_rgc hD hWH)).2.1
/-- the cells behind k STEPS at most, the town's count of STEPS aside -/
def s_tss (T n : Nat) : Nat → qM → qM
  | 0, g => g
  | k + 1, g => if s_step T n g 28 5 = 0 ∧ s_step T n g 28 6 = 0 then s_step T n g else s_tss T n k (s_step T n g)
theorem sg_tss_1 (big : Nat → List Value → qM → qW → qR) (n0 : Nat) (G : qM) (U : qW) (v0 : Int32) (v1 : Int32) (v2 : Int32) : qm_run pm_m big m_76 (n0 + 2) 10 [(0, .ref 28), (1, .ref 20), (2, .int v0), (3, .int v1), (4, .int v2)] [] G U = qm_run pm_m big m_76 n0 13 [(0, .ref 28), (1, .ref 20), (2, .int v0), (3, .int v1), (4, .int v2)] [.int v0, .int v2] G U := rfl
theorem sg_tss_2 (big : Nat → List Value → qM → qW → qR) (n0 : Nat) (G : qM) (U : qW) (v0 : Int32) (v1 : Int32) (v2 : Int32) : qm_run pm_m big m_76 (n0 + 2) 16 [(0, .ref 28), (1, .ref 20), (2, .int v0), (3, .int v1), (4, .int v2)] [] G U = qm_run pm_m big m_76 n0 18 [(0, .ref 28), (1, .ref 20), (2, .int v0), (3, .int v1), (4, .int v2)] [.ref 20, .ref 28] G U := rfl
theorem sg_tss_3 (big : Nat → List Value → qM → qW → qR) (n0 : Nat) (G : qM) (U : qW) (v0 : Int32) (v1 : Int32) (v2 : Int32) : qm_run pm_m big m_76 (n0 + 1) 21 [(0, .ref 28), (1, .ref 20), (2, .int v0), (3, .int v1), (4, .int v2)] [] G U = qm_run pm_m big m_76 n0 22 [(0, .ref 28), (1, .ref 20), (2, .int v0), (3, .int v1), (4, .int v2)] [.ref 28] G U := rfl
theorem sg_tss_4 (big : Nat → List Value → qM → qW → qR) (n0 : Nat) (G : qM) (U : qW) (v0 : Int32) (v1 : Int32) (v2 : Int32) : qm_run pm_m big m_76 (n0 + 2) 31 [(0, .ref 28), (1, .ref 20), (2, .int v0), (3, .int v1), (4, .int v2)] [] G U = qm_run pm_m big m_76 n0 10 [(0, .ref 28), (1, .ref 20), (2, .int v0), (3, .int v1), (4, .int (v2 + (1 : Int32)))] [] G U := rfl
theorem sg_tss_5 (big : Nat → List Value → qM → qW → qR) (n0 : Nat) (G : qM) (U : qW) (v0 : Int32) : qm_run pm_m big m_76 (n0 + 7) 0 [(0, .ref 28), (1, .ref 20), (2, .int v0)] [] G U = qm_run pm_m big m_76 n0 10 [(0, .ref 28), (1, .ref 20), (2, .int v0), (3, .int ((G 20 5) + v0)), (4, .int (0 : Int32))] [] G U := rfl
theorem sg_tss_6 (big : Nat → List Value → qM → qW → qR) (n0 : Nat) (G : qM) (U : qW) (v0 : Int32) (v1 : Int32) (v2 : Int32) : qm_run pm_m big m_76 (n0 + 2) 10 [(0, .ref 28), (1, .ref 35), (2, .int v0), (3, .int v1), (4, .int v2)] [] G U = qm_run pm_m big m_76 n0 13 [(0, .ref 28), (1, .ref 35), (2, .int v0), (3, .int v1), (4, .int v2)] [.int v0, .int v2] G U := rfl
theorem sg_tss_7 (big : Nat → List Value → qM → qW → qR) (n0 : Nat) (G : qM) (U : qW) (v0 : Int32) (v1 : Int32) (v2 : Int32) : qm_run pm_m big m_76 (n0 + 2) 16 [(0, .ref 28), (1, .ref 35), (2, .int v0), (3, .int v1), (4, .int v2)] [] G U = qm_run pm_m big m_76 n0 18 [(0, .ref 28), (1, .ref 35), (2, .int v0), (3, .int v1), (4, .int v2)] [.ref 35, .ref 28] G U := rfl
theorem sg_tss_8 (big : Nat → List Value → qM → qW → qR) (n0 : Nat) (G : qM) (U : qW) (v0 : Int32) (v1 : Int32) (v2 : Int32) : qm_run pm_m big m_76 (n0 + 1) 21 [(0, .ref 28), (1, .ref 35), (2, .int v0), (3, .int v1), (4, .int v2)] [] G U = qm_run pm_m big m_76 n0 22 [(0, .ref 28), (1, .ref 35), (2, .int v0), (3, .int v1), (4, .int v2)] [.ref 28] G U := rfl
theorem sg_tss_9 (big : Nat → List Value → qM → qW → qR) (n0 : Nat) (G : qM) (U : qW) (v0 : Int32) (v1 : Int32) (v2 : Int32) : qm_run pm_m big m_76 (n0 + 2) 31 [(0, .ref 28), (1, .ref 35), (2, .int v0), (3, .int v1), (4, .int v2)] [] G U = qm_run pm_m big m_76 n0 10 [(0, .ref 28), (1, .ref 35), (2, .int v0), (3, .int v1), (4, .int (v2 + (1 : Int32)))] [] G U := rfl
theorem sg_tss_10 (big : Nat → List Value → qM → qW → qR) (n0 : Nat) (G : qM) (U : qW) (v0 : Int32) : qm_run pm_m big m_76 (n0 + 7) 0 [(0, .ref 28), (1, .ref 35), (2, .int v0)] [] G U = qm_run pm_m big m_76 n0 10 [(0, .ref 28), (1, .ref 35), (2, .int v0), (3, .int ((G 35 5) + v0)), (4, .int (0 : Int32))] [] G U := rfl
theorem s_tw_step20 {n W H : Nat} {g : qM} (hW : 2 ≤ W) (hW5 : W ≤ 5) (hH : 2 ≤ H) (hH5 : H ≤ 5) (h6 : n ≤ 6) (h : s_tw 20 n W H g) : s_tw 20 n W H (s_step 20 n g) := by
  obtain ⟨a, b, _⟩ := s_same_20 hW hW5 hH hH5 h6 (s_mk_vw h) h.2.2.2
  exact ⟨a.1, a.2.2.1, a.2.2.2.1, b⟩
theorem b_st20 (u : qW) {n W H : Nat} {g : qM} (hW : 2 ≤ W) (hW5 : W ≤ 5) (hH : 2 ≤ H) (hH5 : H ≤ 5) (h6 : n ≤ 6) (h : s_tw 20 n W H g) : q_BS 68 [.ref 28, .ref 20] g u (none, s_step 20 n g, u) := b_step20 g u h.1 h6 (s_tw_far hW hW5 hH5 h).1 (s_tw_far hW hW5 hH5 h).2
theorem ts_20 (u : qW) {n W H m : Nat} {la : Int32} (hW : 2 ≤ W) (hW5 : W ≤ 5) (hH : 2 ≤ H) (hH5 : H ≤ 5) (h6 : n ≤ 6) (hm : m ≤ 60) : ∀ k i g, i + k = m → s_tw 20 n W H g → q_EV m_76 10 [(0, .ref 28), (1, .ref 20), (2, .int (Int32.ofNat m)), (3, .int la), (4, .int (Int32.ofNat i))] [] g u (fun R => R = (none, q_up (s_tss 20 n k g) 20 5 la, u)) := by
  intro k
  induction k with
  | zero =>
    intro i g hi hg
    refine q_step 2 13 [(0, .ref 28), (1, .ref 20), (2, .int (Int32.ofNat m)), (3, .int la), (4, .int (Int32.ofNat i))] [.int (Int32.ofNat m), .int (Int32.ofNat i)] g u (fun big n0 => sg_tss_1 big n0 g u (Int32.ofNat m) la (Int32.ofNat i)) ?_
    refine q_ic_ge rfl (fun (hc0 : (Int32.ofNat m) ≤ (Int32.ofNat i)) => ?_) (fun hc0 => absurd (show (Int32.ofNat m) ≤ (Int32.ofNat i) from by rw [q_le (by omega) (by omega)]; omega) hc0)
    refine q_ret 4 (none, (q_up g 20 5 la), u) (fun _ _ => rfl) ?_
    rfl
  | succ k ih =>
    intro i g hi hg
    refine q_step 2 13 [(0, .ref 28), (1, .ref 20), (2, .int (Int32.ofNat m)), (3, .int la), (4, .int (Int32.ofNat i))] [.int (Int32.ofNat m), .int (Int32.ofNat i)] g u (fun big n0 => sg_tss_1 big n0 g u (Int32.ofNat m) la (Int32.ofNat i)) ?_
    refine q_ic_ge rfl (fun hc0 => absurd (show (Int32.ofNat m) ≤ (Int32.ofNat i) from hc0) (fun z => by rw [q_le (by omega) (by omega)] at z; omega)) (fun (hc0 : ¬ ((Int32.ofNat m) ≤ (Int32.ofNat i))) => ?_)
    refine q_step 2 18 [(0, .ref 28), (1, .ref 20), (2, .int (Int32.ofNat m)), (3, .int la), (4, .int (Int32.ofNat i))] [.ref 20, .ref 28] g u (fun big n0 => sg_tss_2 big n0 g u (Int32.ofNat m) la (Int32.ofNat i)) ?_
    refine q_call (M2 := 68) (rest := []) (b_st20 u hW hW5 hH hH5 h6 hg) (fun _ _ => rfl) ?_
    refine q_step 1 22 [(0, .ref 28), (1, .ref 20), (2, .int (Int32.ofNat m)), (3, .int la), (4, .int (Int32.ofNat i))] [.ref 28] (s_step 20 n g) u (fun big n0 => sg_tss_3 big n0 (s_step 20 n g) u (Int32.ofNat m) la (Int32.ofNat i)) ?_
    refine q_call (M2 := 77) (rest := []) (b_changed (s_step 20 n g) u) (fun _ _ => rfl) ?_
    refine q_if_eq rfl (fun (hc1 : (if (s_step 20 n g) 28 5 = 0 then (if (s_step 20 n g) 28 6 = 0 then (1 : Int32) else 0) else 0) = 0) => ?_) (fun (hc1 : ¬ ((if (s_step 20 n g) 28 5 = 0 then (if (s_step 20 n g) 28 6 = 0 then (1 : Int32) else 0) else 0) = 0)) => ?_)
    · refine q_step 2 10 [(0, .ref 28), (1, .ref 20), (2, .int (Int32.ofNat m)), (3, .int la), (4, .int ((Int32.ofNat i) + (1 : Int32)))] [] (s_step 20 n g) u (fun big n0 => sg_tss_4 big n0 (s_step 20 n g) u (Int32.ofNat m) la (Int32.ofNat i)) ?_
      have e : ¬ ((s_step 20 n g) 28 5 = 0 ∧ (s_step 20 n g) 28 6 = 0) := fun z => by
        have q := hc1
        rw [if_pos z.1, if_pos z.2] at q
        exact absurd q (by decide)
      unfold s_tss
      rw [if_neg e, q_succ]
      exact ih (i + 1) (s_step 20 n g) (by omega) (s_tw_step20 hW hW5 hH hH5 h6 hg)
    · refine q_ret 5 (none, (q_up (s_step 20 n g) 20 5 la), u) (fun _ _ => rfl) ?_
      have e : (s_step 20 n g) 28 5 = 0 ∧ (s_step 20 n g) 28 6 = 0 := by
        by_cases a : (s_step 20 n g) 28 5 = 0
        · by_cases b : (s_step 20 n g) 28 6 = 0
          · exact ⟨a, b⟩
          · exact absurd (by rw [if_pos a, if_neg b]) hc1
        · exact absurd (by rw [if_neg a]) hc1
      unfold s_tss
      rw [if_pos e]
theorem b_tss20 (u : qW) {n W H m : Nat} {g : qM} (hW : 2 ≤ W) (hW5 : W ≤ 5) (hH : 2 ≤ H) (hH5 : H ≤ 5) (h6 : n ≤ 6) (hm : m ≤ 60) (h : s_tw 20 n W H g) : q_BS 76 [.ref 28, .ref 20, .int (Int32.ofNat m)] g u (none, q_up (s_tss 20 n m g) 20 5 (g 20 5 + Int32.ofNat m), u) := by
  refine q_bx (mm := m_76) rfl (Nat.le_of_ble_eq_true rfl) rfl ?_
  refine q_step 7 10 [(0, .ref 28), (1, .ref 20), (2, .int (Int32.ofNat m)), (3, .int ((g 20 5) + (Int32.ofNat m))), (4, .int (0 : Int32))] [] g u (fun big n0 => sg_tss_5 big n0 g u (Int32.ofNat m)) ?_
  exact ts_20 u hW hW5 hH hH5 h6 hm m 0 g (by omega) h
theorem s_tw_step35 {n W H : Nat} {g : qM} (hW : 2 ≤ W) (hW5 : W ≤ 5) (hH : 2 ≤ H) (hH5 : H ≤ 5) (h6 : n ≤ 6) (h : s_tw 35 n W H g) : s_tw 35 n W H (s_step 35 n g) := by
  obtain ⟨a, b, _⟩ := s_same_35 hW hW5 hH hH5 h6 (s_mk_vw h) h.2.2.2
  exact ⟨a.1, a.2.2.1, a.2.2.2.1, b⟩
theorem b_st35 (u : qW) {n W H : Nat} {g : qM} (hW : 2 ≤ W) (hW5 : W ≤ 5) (hH : 2 ≤ H) (hH5 : H ≤ 5) (h6 : n ≤ 6) (h : s_tw 35 n W H g) : q_BS 68 [.ref 28, .ref 35] g u (none, s_step 35 n g, u) := b_step35 g u h.1 h6 (s_tw_far hW hW5 hH5 h).1 (s_tw_far hW hW5 hH5 h).2
theorem ts_35 (u : qW) {n W H m : Nat} {la : Int32} (hW : 2 ≤ W) (hW5 : W ≤ 5) (hH : 2 ≤ H) (hH5 : H ≤ 5) (h6 : n ≤ 6) (hm : m ≤ 60) : ∀ k i g, i + k = m → s_tw 35 n W H g → q_EV m_76 10 [(0, .ref 28), (1, .ref 35), (2, .int (Int32.ofNat m)), (3, .int la), (4, .int (Int32.ofNat i))] [] g u (fun R => R = (none, q_up (s_tss 35 n k g) 35 5 la, u)) := by
  intro k
  induction k with
  | zero =>
    intro i g hi hg
    refine q_step 2 13 [(0, .ref 28), (1, .ref 35), (2, .int (Int32.ofNat m)), (3, .int la), (4, .int (Int32.ofNat i))] [.int (Int32.ofNat m), .int (Int32.ofNat i)] g u (fun big n0 => sg_tss_6 big n0 g u (Int32.ofNat m) la (Int32.ofNat i)) ?_
    refine q_ic_ge rfl (fun (hc0 : (Int32.ofNat m) ≤ (Int32.ofNat i)) => ?_) (fun hc0 => absurd (show (Int32.ofNat m) ≤ (Int32.ofNat i) from by rw [q_le (by omega) (by omega)]; omega) hc0)
    refine q_ret 4 (none, (q_up g 35 5 la), u) (fun _ _ => rfl) ?_
    rfl
  | succ k ih =>
    intro i g hi hg
    refine q_step 2 13 [(0, .ref 28), (1, .ref 35), (2, .int (Int32.ofNat m)), (3, .int la), (4, .int (Int32.ofNat i))] [.int (Int32.ofNat m), .int (Int32.ofNat i)] g u (fun big n0 => sg_tss_6 big n0 g u (Int32.ofNat m) la (Int32.ofNat i)) ?_
    refine q_ic_ge rfl (fun hc0 => absurd (show (Int32.ofNat m) ≤ (Int32.ofNat i) from hc0) (fun z => by rw [q_le (by omega) (by omega)] at z; omega)) (fun (hc0 : ¬ ((Int32.ofNat m) ≤ (Int32.ofNat i))) => ?_)
    refine q_step 2 18 [(0, .ref 28), (1, .ref 35), (2, .int (Int32.ofNat m)), (3, .int la), (4, .int (Int32.ofNat i))] [.ref 35, .ref 28] g u (fun big n0 => sg_tss_7 big n0 g u (Int32.ofNat m) la (Int32.ofNat i)) ?_
    refine q_call (M2 := 68) (rest := []) (b_st35 u hW hW5 hH hH5 h6 hg) (fun _ _ => rfl) ?_
    refine q_step 1 22 [(0, .ref 28), (1, .ref 35), (2, .int (Int32.ofNat m)), (3, .int la), (4, .int (Int32.ofNat i))] [.ref 28] (s_step 35 n g) u (fun big n0 => sg_tss_8 big n0 (s_step 35 n g) u (Int32.ofNat m) la (Int32.ofNat i)) ?_
    refine q_call (M2 := 77) (rest := []) (b_changed (s_step 35 n g) u) (fun _ _ => rfl) ?_
    refine q_if_eq rfl (fun (hc1 : (if (s_step 35 n g) 28 5 = 0 then (if (s_step 35 n g) 28 6 = 0 then (1 : Int32) else 0) else 0) = 0) => ?_) (fun (hc1 : ¬ ((if (s_step 35 n g) 28 5 = 0 then (if (s_step 35 n g) 28 6 = 0 then (1 : Int32) else 0) else 0) = 0)) => ?_)
    · refine q_step 2 10 [(0, .ref 28), (1, .ref 35), (2, .int (Int32.ofNat m)), (3, .int la), (4, .int ((Int32.ofNat i) + (1 : Int32)))] [] (s_step 35 n g) u (fun big n0 => sg_tss_9 big n0 (s_step 35 n g) u (Int32.ofNat m) la (Int32.ofNat i)) ?_
      have e : ¬ ((s_step 35 n g) 28 5 = 0 ∧ (s_step 35 n g) 28 6 = 0) := fun z => by
        have q := hc1
        rw [if_pos z.1, if_pos z.2] at q
        exact absurd q (by decide)
      unfold s_tss
      rw [if_neg e, q_succ]
      exact ih (i + 1) (s_step 35 n g) (by omega) (s_tw_step35 hW hW5 hH hH5 h6 hg)
    · refine q_ret 5 (none, (q_up (s_step 35 n g) 35 5 la), u) (fun _ _ => rfl) ?_
      have e : (s_step 35 n g) 28 5 = 0 ∧ (s_step 35 n g) 28 6 = 0 := by
        by_cases a : (s_step 35 n g) 28 5 = 0
        · by_cases b : (s_step 35 n g) 28 6 = 0
          · exact ⟨a, b⟩
          · exact absurd (by rw [if_pos a, if_neg b]) hc1
        · exact absurd (by rw [if_neg a]) hc1
      unfold s_tss
      rw [if_pos e]
theorem b_tss35 (u : qW) {n W H m : Nat} {g : qM} (hW : 2 ≤ W) (hW5 : W ≤ 5) (hH : 2 ≤ H) (hH5 : H ≤ 5) (h6 : n ≤ 6) (hm : m ≤ 60) (h : s_tw 35 n W H g) : q_BS 76 [.ref 28, .ref 35, .int (Int32.ofNat m)] g u (none, q_up (s_tss 35 n m g) 35 5 (g 35 5 + Int32.ofNat m), u) := by
  refine q_bx (mm := m_76) rfl (Nat.le_of_ble_eq_true rfl) rfl ?_
  refine q_step 7 10 [(0, .ref 28), (1, .ref 35), (2, .int (Int32.ofNat m)), (3, .int ((g 35 5) + (Int32.ofNat m))), (4, .int (0 : Int32))] [] g u (fun big n0 => sg_tss_10 big n0 g u (Int32.ofNat m)) ?_
  exact ts_35 u hW hW5 hH hH5 h6 hm m 0 g (by omega) h
end
section
/-! STEPS are alike, also where the class ends early. -/
def s_rit (n : Nat) : Nat → qM → qM
  | 0, r => r
  | k + 1, r => s_rit n k (s_rst n r)
theorem s_rit_s (n : Nat) : ∀ k r, s_rit n k (s_rst n r) = s_rst n (s_rit n k r)
  | 0, _ => rfl
  | k + 1, r => s_rit_s n k (s_rst n r)
theorem s_rm_1 {w h wl : Int32} {wy : Nat → Int32} {n : Nat} : ∀ k i c wt, (s_rm w h wl wy n k i c wt 1).2.2 = 1
  | 0, _, _, _ => rfl
  | k + 1, i, c, wt => by
    unfold s_rm
    split
    · exact s_rm_1 k (i + 1) _ _
    · split
      · exact s_rm_1 k (i + 1) _ _
      · exact s_rm_1 k (i + 1) _ _
theorem s_rm_0 {w h wl : Int32} {wy : Nat → Int32} {n : Nat} : ∀ k i c wt an, (s_rm w h wl wy n k i c wt an).2.2 = 0 → (s_rm w h wl wy n k i c wt an).1 = c
  | 0, _, _, _, _, _ => rfl
  | k + 1, i, c, wt, an, hz => by
    unfold s_rm at hz ⊢
    split
    · rename_i h1
      rw [if_pos h1] at hz
      exact s_rm_0 k (i + 1) _ _ _ hz
    · rename_i h1
      rw [if_neg h1] at hz
      split
      · rename_i h2
        rw [if_pos h2, s_rm_1] at hz
        exact absurd hz (by decide)
      · rename_i h2
        rw [if_neg h2] at hz
        exact s_rm_0 k (i + 1) _ _ _ hz
theorem s_rest_r {n : Nat} {r : qM} (h : s_ran n r = 0) : ∀ p, p < n → s_rst n r 75 p = r 75 p ∧ s_rst n r 76 p = r 76 p := by
  obtain ⟨h1, h2⟩ := (s_ra_0 n 0 _).mp h
  intro p hp
  refine ⟨?_, ?_⟩
  · show (s_rS n r).1 p = r 75 p
    rw [show (s_rS n r).1 = r 75 from s_rm_0 n 0 _ _ _ h1]
  · show (if p < n then (if s_r3 n r 81 p = 1 then s_fd (r 76 p) else r 76 p) else _) = r 76 p
    rw [if_pos hp, if_neg (h2 p (Nat.zero_le _) (by omega))]
theorem s_rest_20 {n W H : Nat} {g : qM} (hW : 2 ≤ W) (hW5 : W ≤ 5) (hH : 2 ≤ H) (hH5 : H ≤ 5) (h6 : n ≤ 6) (hi : s_iv 20 n W H g) (h0 : s_step 20 n g 28 5 = 0 ∧ s_step 20 n g 28 6 = 0) : ∀ k r, s_vw 20 n W H g r → s_vw 20 n W H g (s_rit n k r)
  | 0, r, hv => hv
  | k + 1, r, hv => by
    have hs := s_same_20 hW hW5 hH hH5 h6 hv hi
    have hr := s_rest_r (hs.2.2.2.2.mp h0)
    obtain ⟨v1, v2, v3, v4, v5, v6, v7, v8, v9, v10, v11, v12⟩ := hv
    exact s_rest_20 hW hW5 hH hH5 h6 hi h0 k (s_rst n r) ⟨v1, v2, v3, v4, v5, v6, v7, v8, v9, fun p hp => (hr p hp).1.trans (v10 p hp), fun p hp => (hr p hp).2.trans (v11 p hp), v12⟩
/-- k STEPS of the class, k STEPS of the reference -/
theorem s_steps_20 {n W H : Nat} (hW : 2 ≤ W) (hW5 : W ≤ 5) (hH : 2 ≤ H) (hH5 : H ≤ 5) (h6 : n ≤ 6) : ∀ k g r, s_vw 20 n W H g r → s_iv 20 n W H g → s_vw 20 n W H (s_tss 20 n k g) (s_rit n k r) ∧ s_iv 20 n W H (s_tss 20 n k g)
  | 0, g, r, hv, hi => ⟨hv, hi⟩
  | k + 1, g, r, hv, hi => by
    unfold s_tss
    split
    · rename_i h0
      have hs := s_same_20 hW hW5 hH hH5 h6 (s_rest_20 hW hW5 hH hH5 h6 hi h0 k r hv) hi
      refine ⟨?_, hs.2.1⟩
      show s_vw 20 n W H (s_step 20 n g) (s_rit n k (s_rst n r))
      rw [s_rit_s]
      exact hs.1
    · have hs := s_same_20 hW hW5 hH hH5 h6 hv hi
      exact s_steps_20 hW hW5 hH hH5 h6 k _ _ hs.1 hs.2.1
theorem s_rest_35 {n W H : Nat} {g : qM} (hW : 2 ≤ W) (hW5 : W ≤ 5) (hH : 2 ≤ H) (hH5 : H ≤ 5) (h6 : n ≤ 6) (hi : s_iv 35 n W H g) (h0 : s_step 35 n g 28 5 = 0 ∧ s_step 35 n g 28 6 = 0) : ∀ k r, s_vw 35 n W H g r → s_vw 35 n W H g (s_rit n k r)
  | 0, r, hv => hv
  | k + 1, r, hv => by
    have hs := s_same_35 hW hW5 hH hH5 h6 hv hi
    have hr := s_rest_r (hs.2.2.2.2.mp h0)
    obtain ⟨v1, v2, v3, v4, v5, v6, v7, v8, v9, v10, v11, v12⟩ := hv
    exact s_rest_35 hW hW5 hH hH5 h6 hi h0 k (s_rst n r) ⟨v1, v2, v3, v4, v5, v6, v7, v8, v9, fun p hp => (hr p hp).1.trans (v10 p hp), fun p hp => (hr p hp).2.trans (v11 p hp), v12⟩
/-- k STEPS of the class, k STEPS of the reference -/
theorem s_steps_35 {n W H : Nat} (hW : 2 ≤ W) (hW5 : W ≤ 5) (hH : 2 ≤ H) (hH5 : H ≤ 5) (h6 : n ≤ 6) : ∀ k g r, s_vw 35 n W H g r → s_iv 35 n W H g → s_vw 35 n W H (s_tss 35 n k g) (s_rit n k r) ∧ s_iv 35 n W H (s_tss 35 n k g)
  | 0, g, r, hv, hi => ⟨hv, hi⟩
  | k + 1, g, r, hv, hi => by
    unfold s_tss
    split
    · rename_i h0
      have hs := s_same_35 hW hW5 hH hH5 h6 (s_rest_35 hW hW5 hH hH5 h6 hi h0 k r hv) hi
      refine ⟨?_, hs.2.1⟩
      show s_vw 35 n W H (s_step 35 n g) (s_rit n k (s_rst n r))
      rw [s_rit_s]
      exact hs.1
    · have hs := s_same_35 hW hW5 hH hH5 h6 hv hi
      exact s_steps_35 hW hW5 hH hH5 h6 k _ _ hs.1 hs.2.1
end
section
/-! A boolean answer that isn't a constant. -/
theorem q_retb {mm : pm_M} {pc : Nat} {lv : pm_L} {g : qM} {u : qW} {Q : Option Value × qM × qW → Prop} {v : Int32} (hv : v = 0 ∨ v = 1) (hrt : pm_rt mm = some .boolean) (he : pm_at mm pc = some (.ireturn, 0, 0, 0)) (e : Q (some (.int v), g, u)) : q_EV mm pc lv [.int v] g u Q := by
  refine q_ret 1 (some (.int v), g, u) (fun big n => ?_) e
  show (match pm_at mm pc with
    | some e => qm_step pm_m big mm (qm_run pm_m big mm n) e pc lv [.int v] g u
    | none => none) = _
  rw [he]
  show qm_ret mm [.int v] g u = _
  unfold qm_ret
  rw [hrt]
  rcases hv with rfl | rfl <;> rfl
end
section
theorem sg_ca_1 (big : Nat → List Value → qM → qW → qR) (n0 : Nat) (G : qM) (U : qW) (v0 : Int32) : qm_run pm_m big m_40 (n0 + 1) 0 [(0, .ref 20), (1, .int v0)] [] G U = qm_run pm_m big m_40 n0 1 [(0, .ref 20), (1, .int v0)] [.int v0] G U := rfl
theorem sg_ca_2 (big : Nat → List Value → qM → qW → qR) (n0 : Nat) (G : qM) (U : qW) (v0 : Int32) : qm_run pm_m big m_40 (n0 + 3) 4 [(0, .ref 20), (1, .int v0)] [] G U = qm_run pm_m big m_40 n0 9 [(0, .ref 20), (1, .int v0)] [.int (G 20 3), .int v0] G U := rfl
theorem sg_ca_3 (big : Nat → List Value → qM → qW → qR) (n0 : Nat) (G : qM) (U : qW) (v0 : Int32) : qm_run pm_m big m_38 (n0 + 1) 0 [(0, .ref 20), (1, .int v0)] [] G U = qm_run pm_m big m_38 n0 1 [(0, .ref 20), (1, .int v0)] [.int v0] G U := rfl
theorem sg_ca_4 (big : Nat → List Value → qM → qW → qR) (n0 : Nat) (G : qM) (U : qW) (v0 : Int32) : qm_run pm_m big m_38 (n0 + 2) 4 [(0, .ref 20), (1, .int v0)] [] G U = qm_run pm_m big m_38 n0 6 [(0, .ref 20), (1, .int v0)] [.ref 20, .int v0] G U := rfl
theorem sg_ca_5 (big : Nat → List Value → qM → qW → qR) (n0 : Nat) (G : qM) (U : qW) (v0 : Int32) : qm_run pm_m big m_29 (n0 + 6) 0 [(0, .ref 20), (1, .int v0)] [] G U = qm_run pm_m big m_29 n0 8 [(0, .ref 20), (1, .int v0)] [.int (((G 20 2) >>> (v0 &&& 31)) &&& (1 : Int32))] G U := rfl
theorem sg_ca_6 (big : Nat → List Value → qM → qW → qR) (n0 : Nat) (G : qM) (U : qW) (v0 : Int32) : qm_run pm_m big m_48 (n0 + 1) 0 [(0, .int v0)] [] G U = qm_run pm_m big m_48 n0 1 [(0, .int v0)] [.int v0] G U := rfl
theorem sg_ca_7 (big : Nat → List Value → qM → qW → qR) (n0 : Nat) (G : qM) (U : qW) (v0 : Int32) : qm_run pm_m big m_48 (n0 + 2) 4 [(0, .int v0)] [] G U = qm_run pm_m big m_48 n0 6 [(0, .int v0)] [.int (3 : Int32), .int v0] G U := rfl
theorem sg_ca_8 (big : Nat → List Value → qM → qW → qR) (n0 : Nat) (G : qM) (U : qW) (v0 : Int32) : qm_run pm_m big m_57 (n0 + 1) 0 [(0, .int v0)] [] G U = qm_run pm_m big m_57 n0 1 [(0, .int v0)] [.int v0] G U := rfl
theorem sg_ca_9 (big : Nat → List Value → qM → qW → qR) (n0 : Nat) (G : qM) (U : qW) (v0 : Int32) : qm_run pm_m big m_57 (n0 + 2) 4 [(0, .int v0)] [] G U = qm_run pm_m big m_57 n0 6 [(0, .int v0)] [.int (1 : Int32), .int v0] G U := rfl
theorem sg_ca_10 (big : Nat → List Value → qM → qW → qR) (n0 : Nat) (G : qM) (U : qW) (v0 : Int32) : qm_run pm_m big m_90 (n0 + 1) 0 [(0, .int v0)] [] G U = qm_run pm_m big m_90 n0 1 [(0, .int v0)] [.int v0] G U := rfl
theorem sg_ca_11 (big : Nat → List Value → qM → qW → qR) (n0 : Nat) (G : qM) (U : qW) (v0 : Int32) : qm_run pm_m big m_90 (n0 + 2) 4 [(0, .int v0)] [] G U = qm_run pm_m big m_90 n0 7 [(0, .int v0)] [.int (12 : Int32), .int v0] G U := rfl
theorem sg_ca_12 (big : Nat → List Value → qM → qW → qR) (n0 : Nat) (G : qM) (U : qW) (v0 : Int32) : qm_run pm_m big m_131 (n0 + 1) 0 [(0, .int v0)] [] G U = qm_run pm_m big m_131 n0 1 [(0, .int v0)] [.int v0] G U := rfl
theorem sg_ca_13 (big : Nat → List Value → qM → qW → qR) (n0 : Nat) (G : qM) (U : qW) (v0 : Int32) : qm_run pm_m big m_131 (n0 + 2) 4 [(0, .int v0)] [] G U = qm_run pm_m big m_131 n0 6 [(0, .int v0)] [.int (4 : Int32), .int v0] G U := rfl
theorem sg_ca_14 (big : Nat → List Value → qM → qW → qR) (n0 : Nat) (G : qM) (U : qW) (v0 : Int32) : qm_run pm_m big m_132 (n0 + 1) 0 [(0, .int v0)] [] G U = qm_run pm_m big m_132 n0 1 [(0, .int v0)] [.int v0] G U := rfl
theorem sg_ca_15 (big : Nat → List Value → qM → qW → qR) (n0 : Nat) (G : qM) (U : qW) (v0 : Int32) : qm_run pm_m big m_132 (n0 + 2) 4 [(0, .int v0)] [] G U = qm_run pm_m big m_132 n0 6 [(0, .int v0)] [.int (2 : Int32), .int v0] G U := rfl
theorem sg_ca_16 (big : Nat → List Value → qM → qW → qR) (n0 : Nat) (G : qM) (U : qW) (v0 : Int32) : qm_run pm_m big m_55 (n0 + 1) 0 [(0, .ref 8), (1, .int v0)] [] G U = qm_run pm_m big m_55 n0 1 [(0, .ref 8), (1, .int v0)] [.int v0] G U := rfl
theorem sg_ca_17 (big : Nat → List Value → qM → qW → qR) (n0 : Nat) (G : qM) (U : qW) (v0 : Int32) : qm_run pm_m big m_55 (n0 + 2) 4 [(0, .ref 8), (1, .int v0)] [] G U = qm_run pm_m big m_55 n0 6 [(0, .ref 8), (1, .int v0)] [.int (4 : Int32), .int v0] G U := rfl
theorem sg_ca_18 (big : Nat → List Value → qM → qW → qR) (n0 : Nat) (G : qM) (U : qW) (v0 : Int32) (v1 : Int32) : qm_run pm_m big m_51 (n0 + 3) 0 [(0, .ref 8), (1, .int v0), (2, .int v1)] [] G U = qm_run pm_m big m_51 n0 5 [(0, .ref 8), (1, .int v0), (2, .int v1)] [.int v0, .ref 20] G U := rfl
theorem sg_ca_19 (big : Nat → List Value → qM → qW → qR) (n0 : Nat) (G : qM) (U : qW) (v0 : Int32) (v1 : Int32) : qm_run pm_m big m_51 (n0 + 4) 13 [(0, .ref 8), (1, .int v0), (2, .int v1)] [] G U = qm_run pm_m big m_51 n0 21 [(0, .ref 8), (1, .int v0), (2, .int v1)] [.int v0, .ref 23] G U := rfl
theorem sg_ca_20 (big : Nat → List Value → qM → qW → qR) (n0 : Nat) (G : qM) (U : qW) (v0 : Int32) (v1 : Int32) (v2 : Int32) : qm_run pm_m big m_51 (n0 + 6) 22 [(0, .ref 8), (1, .int v0), (2, .int v1)] [.int v2] G U = qm_run pm_m big m_51 n0 32 [(0, .ref 8), (1, .int v0), (2, .int v1), (3, .int v2)] [.int v1, .int v0, .ref 23] G U := rfl
theorem sg_ca_21 (big : Nat → List Value → qM → qW → qR) (n0 : Nat) (G : qM) (U : qW) (v0 : Int32) (v1 : Int32) (v2 : Int32) (v3 : Int32) : qm_run pm_m big m_51 (n0 + 1) 39 [(0, .ref 8), (1, .int v0), (2, .int v1), (3, .int v2)] [.int v3, .ref 23] G U = qm_run pm_m big m_51 n0 40 [(0, .ref 8), (1, .int v0), (2, .int v1), (3, .int v2)] [.int (0 : Int32), .int v3, .ref 23] G U := rfl
theorem sg_ca_22 (big : Nat → List Value → qM → qW → qR) (n0 : Nat) (G : qM) (U : qW) (v0 : Int32) (v1 : Int32) (v2 : Int32) (v3 : Int32) : qm_run pm_m big m_51 (n0 + 2) 35 [(0, .ref 8), (1, .int v0), (2, .int v1), (3, .int v2)] [.int v3, .ref 23] G U = qm_run pm_m big m_51 n0 40 [(0, .ref 8), (1, .int v0), (2, .int v1), (3, .int v2)] [.int (1 : Int32), .int v3, .ref 23] G U := rfl
theorem sg_ca_23 (big : Nat → List Value → qM → qW → qR) (n0 : Nat) (G : qM) (U : qW) (v0 : Int32) (v1 : Int32) : qm_run pm_m big m_47 (n0 + 3) 0 [(0, .ref 8), (1, .int v0), (2, .int v1)] [] G U = qm_run pm_m big m_47 n0 5 [(0, .ref 8), (1, .int v0), (2, .int v1)] [.int v0, .ref 20] G U := rfl
theorem sg_ca_24 (big : Nat → List Value → qM → qW → qR) (n0 : Nat) (G : qM) (U : qW) (v0 : Int32) (v1 : Int32) : qm_run pm_m big m_47 (n0 + 1) 11 [(0, .ref 8), (1, .int v0), (2, .int v1)] [] G U = qm_run pm_m big m_47 n0 12 [(0, .ref 8), (1, .int v0), (2, .int v1)] [.int v1] G U := rfl
theorem sg_ca_25 (big : Nat → List Value → qM → qW → qR) (n0 : Nat) (G : qM) (U : qW) (v0 : Int32) (v1 : Int32) : qm_run pm_m big m_47 (n0 + 4) 20 [(0, .ref 8), (1, .int v0), (2, .int v1)] [] G U = qm_run pm_m big m_47 n0 28 [(0, .ref 8), (1, .int v0), (2, .int v1)] [.int v0, .ref 22] G U := rfl
theorem sg_ca_26 (big : Nat → List Value → qM → qW → qR) (n0 : Nat) (G : qM) (U : qW) (v0 : Int32) (v1 : Int32) (v2 : Int32) : qm_run pm_m big m_47 (n0 + 6) 29 [(0, .ref 8), (1, .int v0), (2, .int v1)] [.int v2] G U = qm_run pm_m big m_47 n0 39 [(0, .ref 8), (1, .int v0), (2, .int v1), (3, .int v2)] [.int v1, .int v0, .ref 22] G U := rfl
theorem sg_ca_27 (big : Nat → List Value → qM → qW → qR) (n0 : Nat) (G : qM) (U : qW) (v0 : Int32) (v1 : Int32) : qm_run pm_m big m_52 (n0 + 3) 0 [(0, .ref 8), (1, .int v0), (2, .int v1)] [] G U = qm_run pm_m big m_52 n0 5 [(0, .ref 8), (1, .int v0), (2, .int v1)] [.int v0, .ref 20] G U := rfl
theorem sg_ca_28 (big : Nat → List Value → qM → qW → qR) (n0 : Nat) (G : qM) (U : qW) (v0 : Int32) (v1 : Int32) : qm_run pm_m big m_52 (n0 + 2) 11 [(0, .ref 8), (1, .int v0), (2, .int v1)] [] G U = qm_run pm_m big m_52 n0 14 [(0, .ref 8), (1, .int v0), (2, .int v1)] [.int (Int8.toInt32 (Int8.ofInt (-4))), .int v1] G U := rfl
theorem sg_ca_29 (big : Nat → List Value → qM → qW → qR) (n0 : Nat) (G : qM) (U : qW) (v0 : Int32) (v1 : Int32) : qm_run pm_m big m_52 (n0 + 4) 30 [(0, .ref 8), (1, .int v0), (2, .int v1)] [] G U = qm_run pm_m big m_52 n0 38 [(0, .ref 8), (1, .int v0), (2, .int v1)] [.int v0, .ref 24] G U := rfl
theorem sg_ca_30 (big : Nat → List Value → qM → qW → qR) (n0 : Nat) (G : qM) (U : qW) (v0 : Int32) (v1 : Int32) (v2 : Int32) : qm_run pm_m big m_52 (n0 + 6) 39 [(0, .ref 8), (1, .int v0), (2, .int v1)] [.int v2] G U = qm_run pm_m big m_52 n0 49 [(0, .ref 8), (1, .int v0), (2, .int v1), (3, .int v2)] [.int v1, .int v0, .ref 24] G U := rfl
theorem sg_ca_31 (big : Nat → List Value → qM → qW → qR) (n0 : Nat) (G : qM) (U : qW) (v0 : Int32) (v1 : Int32) : qm_run pm_m big m_52 (n0 + 3) 17 [(0, .ref 8), (1, .int v0), (2, .int v1)] [] G U = qm_run pm_m big m_52 n0 22 [(0, .ref 8), (1, .int v0), (2, .int v1)] [.int v1, .ref 20] G U := rfl
theorem sg_ca_32 (big : Nat → List Value → qM → qW → qR) (n0 : Nat) (G : qM) (U : qW) (v0 : Int32) (v1 : Int32) : qm_run pm_m big m_54 (n0 + 2) 0 [(0, .ref 8), (1, .int v0), (2, .int v1)] [] G U = qm_run pm_m big m_54 n0 2 [(0, .ref 8), (1, .int v0), (2, .int v1)] [.int (1 : Int32), .int v0] G U := rfl
theorem sg_ca_33 (big : Nat → List Value → qM → qW → qR) (n0 : Nat) (G : qM) (U : qW) (v0 : Int32) (v1 : Int32) : qm_run pm_m big m_54 (n0 + 2) 5 [(0, .ref 8), (1, .int v0), (2, .int v1)] [] G U = qm_run pm_m big m_54 n0 7 [(0, .ref 8), (1, .int v0), (2, .int v1)] [.int (4 : Int32), .int v0] G U := rfl
theorem sg_ca_34 (big : Nat → List Value → qM → qW → qR) (n0 : Nat) (G : qM) (U : qW) (v0 : Int32) (v1 : Int32) : qm_run pm_m big m_54 (n0 + 1) 10 [(0, .ref 8), (1, .int v0), (2, .int v1)] [] G U = qm_run pm_m big m_54 n0 11 [(0, .ref 8), (1, .int v0), (2, .int v1)] [.int v1] G U := rfl
theorem sg_ca_35 (big : Nat → List Value → qM → qW → qR) (n0 : Nat) (G : qM) (U : qW) (v0 : Int32) (v1 : Int32) : qm_run pm_m big m_54 (n0 + 2) 14 [(0, .ref 8), (1, .int v0), (2, .int v1)] [] G U = qm_run pm_m big m_54 n0 17 [(0, .ref 8), (1, .int v0), (2, .int v1)] [.int (9 : Int32), .int v1] G U := rfl
theorem sg_ca_36 (big : Nat → List Value → qM → qW → qR) (n0 : Nat) (G : qM) (U : qW) (v0 : Int32) (v1 : Int32) : qm_run pm_m big m_54 (n0 + 4) 22 [(0, .ref 8), (1, .int v0), (2, .int v1)] [] G U = qm_run pm_m big m_54 n0 30 [(0, .ref 8), (1, .int v0), (2, .int v1)] [.int v0, .ref 25] G U := rfl
theorem sg_ca_37 (big : Nat → List Value → qM → qW → qR) (n0 : Nat) (G : qM) (U : qW) (v0 : Int32) (v1 : Int32) (v2 : Int32) : qm_run pm_m big m_54 (n0 + 6) 31 [(0, .ref 8), (1, .int v0), (2, .int v1)] [.int v2] G U = qm_run pm_m big m_54 n0 41 [(0, .ref 8), (1, .int v0), (2, .int v1), (3, .int v2)] [.int v1, .int v0, .ref 25] G U := rfl
theorem sg_ca_38 (big : Nat → List Value → qM → qW → qR) (n0 : Nat) (G : qM) (U : qW) (v0 : Int32) : qm_run pm_m big m_119 (n0 + 5) 0 [(0, .ref 8), (1, .int v0)] [] G U = qm_run pm_m big m_119 n0 9 [(0, .ref 8), (1, .int v0), (2, .int (G 20 6))] [.int v0] G U := rfl
theorem sg_ca_39 (big : Nat → List Value → qM → qW → qR) (n0 : Nat) (G : qM) (U : qW) (v0 : Int32) (v1 : Int32) : qm_run pm_m big m_119 (n0 + 2) 12 [(0, .ref 8), (1, .int v0), (2, .int v1)] [] G U = qm_run pm_m big m_119 n0 14 [(0, .ref 8), (1, .int v0), (2, .int v1)] [.int v1, .int v0] G U := rfl
def d_hasOne (p : Int32) (g : qM) : Int32 := (if p < 0 then (0 : Int32) else (if (g 20 3) ≤ p then (0 : Int32) else (1 : Int32)))
theorem b_hasOne (p : Int32) (g : qM) (u : qW) : q_BS 40 [.ref 20, .int p] g u (some (.int (d_hasOne p g)), g, u) := by
  refine q_bx (mm := m_40) rfl (Nat.le_of_ble_eq_true rfl) rfl ?_
  refine q_step 1 1 [(0, .ref 20), (1, .int p)] [.int p] g u (fun big n0 => sg_ca_1 big n0 g u p) ?_
  refine q_if_lt rfl (fun (hc0 : p < 0) => ?_) (fun (hc0 : ¬ (p < 0)) => ?_)
  · refine q_ret 2 (some (.int (0 : Int32)), g, u) (fun _ _ => rfl) ?_
    unfold d_hasOne
    rw [if_pos hc0]
  · refine q_step 3 9 [(0, .ref 20), (1, .int p)] [.int (g 20 3), .int p] g u (fun big n0 => sg_ca_2 big n0 g u p) ?_
    refine q_ic_ge rfl (fun (hc1 : (g 20 3) ≤ p) => ?_) (fun (hc1 : ¬ ((g 20 3) ≤ p)) => ?_)
    · refine q_ret 2 (some (.int (0 : Int32)), g, u) (fun _ _ => rfl) ?_
      unfold d_hasOne
      rw [if_neg hc0, if_pos hc1]
    · refine q_ret 3 (some (.int (1 : Int32)), g, u) (fun _ _ => rfl) ?_
      unfold d_hasOne
      rw [if_neg hc0, if_neg hc1]
def d_size (g : qM) : Int32 := ((g 20 0) * (g 20 1))
theorem b_size (g : qM) (u : qW) : q_BS 39 [.ref 20] g u (some (.int (d_size g)), g, u) := by
  refine q_bx (mm := m_39) rfl (Nat.le_of_ble_eq_true rfl) rfl ?_
  refine q_ret 6 (some (.int ((g 20 0) * (g 20 1))), g, u) (fun _ _ => rfl) ?_
  unfold d_size
  rfl
def d_hasCell (x : Int32) (g : qM) : Int32 := (if x < 0 then (0 : Int32) else (if (d_size g) ≤ x then (0 : Int32) else (1 : Int32)))
theorem b_hasCell (x : Int32) (g : qM) (u : qW) : q_BS 38 [.ref 20, .int x] g u (some (.int (d_hasCell x g)), g, u) := by
  refine q_bx (mm := m_38) rfl (Nat.le_of_ble_eq_true rfl) rfl ?_
  refine q_step 1 1 [(0, .ref 20), (1, .int x)] [.int x] g u (fun big n0 => sg_ca_3 big n0 g u x) ?_
  refine q_if_lt rfl (fun (hc0 : x < 0) => ?_) (fun (hc0 : ¬ (x < 0)) => ?_)
  · refine q_ret 2 (some (.int (0 : Int32)), g, u) (fun _ _ => rfl) ?_
    unfold d_hasCell
    rw [if_pos hc0]
  · refine q_step 2 6 [(0, .ref 20), (1, .int x)] [.ref 20, .int x] g u (fun big n0 => sg_ca_4 big n0 g u x) ?_
    refine q_call (M2 := 39) (rest := [.int x]) (b_size _ _) (fun _ _ => rfl) ?_
    refine q_ic_ge rfl (fun (hc1 : (d_size g) ≤ x) => ?_) (fun (hc1 : ¬ ((d_size g) ≤ x)) => ?_)
    · refine q_ret 2 (some (.int (0 : Int32)), g, u) (fun _ _ => rfl) ?_
      unfold d_hasCell
      rw [if_neg hc0, if_pos hc1]
    · refine q_ret 3 (some (.int (1 : Int32)), g, u) (fun _ _ => rfl) ?_
      unfold d_hasCell
      rw [if_neg hc0, if_neg hc1]
def d_hasWall (x : Int32) (g : qM) : Int32 := (if (((g 20 2) >>> (x &&& 31)) &&& (1 : Int32)) = 0 then (0 : Int32) else (1 : Int32))
theorem b_hasWall (x : Int32) (g : qM) (u : qW) : q_BS 29 [.ref 20, .int x] g u (some (.int (d_hasWall x g)), g, u) := by
  refine q_bx (mm := m_29) rfl (Nat.le_of_ble_eq_true rfl) rfl ?_
  refine q_step 6 8 [(0, .ref 20), (1, .int x)] [.int (((g 20 2) >>> (x &&& 31)) &&& (1 : Int32))] g u (fun big n0 => sg_ca_5 big n0 g u x) ?_
  refine q_if_eq rfl (fun (hc0 : (((g 20 2) >>> (x &&& 31)) &&& (1 : Int32)) = 0) => ?_) (fun (hc0 : ¬ ((((g 20 2) >>> (x &&& 31)) &&& (1 : Int32)) = 0)) => ?_)
  · refine q_ret 2 (some (.int (0 : Int32)), g, u) (fun _ _ => rfl) ?_
    unfold d_hasWall
    rw [if_pos hc0]
  · refine q_ret 3 (some (.int (1 : Int32)), g, u) (fun _ _ => rfl) ?_
    unfold d_hasWall
    rw [if_neg hc0]
def d_isMood (x : Int32) (g : qM) : Int32 := (if x < 0 then (0 : Int32) else (if (3 : Int32) < x then (0 : Int32) else (1 : Int32)))
theorem b_isMood (x : Int32) (g : qM) (u : qW) : q_BS 48 [.int x] g u (some (.int (d_isMood x g)), g, u) := by
  refine q_bx (mm := m_48) rfl (Nat.le_of_ble_eq_true rfl) rfl ?_
  refine q_step 1 1 [(0, .int x)] [.int x] g u (fun big n0 => sg_ca_6 big n0 g u x) ?_
  refine q_if_lt rfl (fun (hc0 : x < 0) => ?_) (fun (hc0 : ¬ (x < 0)) => ?_)
  · refine q_ret 2 (some (.int (0 : Int32)), g, u) (fun _ _ => rfl) ?_
    unfold d_isMood
    rw [if_pos hc0]
  · refine q_step 2 6 [(0, .int x)] [.int (3 : Int32), .int x] g u (fun big n0 => sg_ca_7 big n0 g u x) ?_
    refine q_ic_gt rfl (fun (hc1 : (3 : Int32) < x) => ?_) (fun (hc1 : ¬ ((3 : Int32) < x)) => ?_)
    · refine q_ret 2 (some (.int (0 : Int32)), g, u) (fun _ _ => rfl) ?_
      unfold d_isMood
      rw [if_neg hc0, if_pos hc1]
    · refine q_ret 3 (some (.int (1 : Int32)), g, u) (fun _ _ => rfl) ?_
      unfold d_isMood
      rw [if_neg hc0, if_neg hc1]
def d_isHalf (x : Int32) (g : qM) : Int32 := (if x = 0 then (1 : Int32) else (if x = (1 : Int32) then (1 : Int32) else (0 : Int32)))
theorem b_isHalf (x : Int32) (g : qM) (u : qW) : q_BS 57 [.int x] g u (some (.int (d_isHalf x g)), g, u) := by
  refine q_bx (mm := m_57) rfl (Nat.le_of_ble_eq_true rfl) rfl ?_
  refine q_step 1 1 [(0, .int x)] [.int x] g u (fun big n0 => sg_ca_8 big n0 g u x) ?_
  refine q_if_eq rfl (fun (hc0 : x = 0) => ?_) (fun (hc0 : ¬ (x = 0)) => ?_)
  · refine q_ret 3 (some (.int (1 : Int32)), g, u) (fun _ _ => rfl) ?_
    unfold d_isHalf
    rw [if_pos hc0]
  · refine q_step 2 6 [(0, .int x)] [.int (1 : Int32), .int x] g u (fun big n0 => sg_ca_9 big n0 g u x) ?_
    refine q_ic_ne rfl (fun (hc1 : x = (1 : Int32)) => ?_) (fun (hc1 : ¬ (x = (1 : Int32))) => ?_)
    · refine q_ret 3 (some (.int (1 : Int32)), g, u) (fun _ _ => rfl) ?_
      unfold d_isHalf
      rw [if_neg hc0, if_pos hc1]
    · refine q_ret 2 (some (.int (0 : Int32)), g, u) (fun _ _ => rfl) ?_
      unfold d_isHalf
      rw [if_neg hc0, if_neg hc1]
def d_isSearched (x : Int32) (g : qM) : Int32 := (if x < 0 then (0 : Int32) else (if (12 : Int32) < x then (0 : Int32) else (1 : Int32)))
theorem b_isSearched (x : Int32) (g : qM) (u : qW) : q_BS 90 [.int x] g u (some (.int (d_isSearched x g)), g, u) := by
  refine q_bx (mm := m_90) rfl (Nat.le_of_ble_eq_true rfl) rfl ?_
  refine q_step 1 1 [(0, .int x)] [.int x] g u (fun big n0 => sg_ca_10 big n0 g u x) ?_
  refine q_if_lt rfl (fun (hc0 : x < 0) => ?_) (fun (hc0 : ¬ (x < 0)) => ?_)
  · refine q_ret 2 (some (.int (0 : Int32)), g, u) (fun _ _ => rfl) ?_
    unfold d_isSearched
    rw [if_pos hc0]
  · refine q_step 2 7 [(0, .int x)] [.int (12 : Int32), .int x] g u (fun big n0 => sg_ca_11 big n0 g u x) ?_
    refine q_ic_gt rfl (fun (hc1 : (12 : Int32) < x) => ?_) (fun (hc1 : ¬ ((12 : Int32) < x)) => ?_)
    · refine q_ret 2 (some (.int (0 : Int32)), g, u) (fun _ _ => rfl) ?_
      unfold d_isSearched
      rw [if_neg hc0, if_pos hc1]
    · refine q_ret 3 (some (.int (1 : Int32)), g, u) (fun _ _ => rfl) ?_
      unfold d_isSearched
      rw [if_neg hc0, if_neg hc1]
def d_isSheet (x : Int32) (g : qM) : Int32 := (if x < 0 then (0 : Int32) else (if (4 : Int32) ≤ x then (0 : Int32) else (1 : Int32)))
theorem b_isSheet (x : Int32) (g : qM) (u : qW) : q_BS 131 [.int x] g u (some (.int (d_isSheet x g)), g, u) := by
  refine q_bx (mm := m_131) rfl (Nat.le_of_ble_eq_true rfl) rfl ?_
  refine q_step 1 1 [(0, .int x)] [.int x] g u (fun big n0 => sg_ca_12 big n0 g u x) ?_
  refine q_if_lt rfl (fun (hc0 : x < 0) => ?_) (fun (hc0 : ¬ (x < 0)) => ?_)
  · refine q_ret 2 (some (.int (0 : Int32)), g, u) (fun _ _ => rfl) ?_
    unfold d_isSheet
    rw [if_pos hc0]
  · refine q_step 2 6 [(0, .int x)] [.int (4 : Int32), .int x] g u (fun big n0 => sg_ca_13 big n0 g u x) ?_
    refine q_ic_ge rfl (fun (hc1 : (4 : Int32) ≤ x) => ?_) (fun (hc1 : ¬ ((4 : Int32) ≤ x)) => ?_)
    · refine q_ret 2 (some (.int (0 : Int32)), g, u) (fun _ _ => rfl) ?_
      unfold d_isSheet
      rw [if_neg hc0, if_pos hc1]
    · refine q_ret 3 (some (.int (1 : Int32)), g, u) (fun _ _ => rfl) ?_
      unfold d_isSheet
      rw [if_neg hc0, if_neg hc1]
def d_isLane (x : Int32) (g : qM) : Int32 := (if x < 0 then (0 : Int32) else (if (2 : Int32) < x then (0 : Int32) else (1 : Int32)))
theorem b_isLane (x : Int32) (g : qM) (u : qW) : q_BS 132 [.int x] g u (some (.int (d_isLane x g)), g, u) := by
  refine q_bx (mm := m_132) rfl (Nat.le_of_ble_eq_true rfl) rfl ?_
  refine q_step 1 1 [(0, .int x)] [.int x] g u (fun big n0 => sg_ca_14 big n0 g u x) ?_
  refine q_if_lt rfl (fun (hc0 : x < 0) => ?_) (fun (hc0 : ¬ (x < 0)) => ?_)
  · refine q_ret 2 (some (.int (0 : Int32)), g, u) (fun _ _ => rfl) ?_
    unfold d_isLane
    rw [if_pos hc0]
  · refine q_step 2 6 [(0, .int x)] [.int (2 : Int32), .int x] g u (fun big n0 => sg_ca_15 big n0 g u x) ?_
    refine q_ic_gt rfl (fun (hc1 : (2 : Int32) < x) => ?_) (fun (hc1 : ¬ ((2 : Int32) < x)) => ?_)
    · refine q_ret 2 (some (.int (0 : Int32)), g, u) (fun _ _ => rfl) ?_
      unfold d_isLane
      rw [if_neg hc0, if_pos hc1]
    · refine q_ret 3 (some (.int (1 : Int32)), g, u) (fun _ _ => rfl) ?_
      unfold d_isLane
      rw [if_neg hc0, if_neg hc1]
def d_fault (g : qM) : Int32 := (g 11 2)
theorem b_fault (g : qM) (u : qW) : q_BS 43 [.ref 8] g u (some (.int (d_fault g)), g, u) := by
  refine q_bx (mm := m_43) rfl (Nat.le_of_ble_eq_true rfl) rfl ?_
  refine q_ret 4 (some (.int (g 11 2)), g, u) (fun _ _ => rfl) ?_
  unfold d_fault
  rfl
def d_torn (g : qM) : Int32 := (g 8 8)
theorem b_torn (g : qM) (u : qW) : q_BS 142 [.ref 8] g u (some (.int (d_torn g)), g, u) := by
  refine q_bx (mm := m_142) rfl (Nat.le_of_ble_eq_true rfl) rfl ?_
  refine q_ret 3 (some (.int (g 8 8)), g, u) (fun _ _ => rfl) ?_
  unfold d_torn
  rfl
def d_press (x : Int32) (g : qM) (u : qW) : Option Value × qM × qW := (if x < 0 then (some (.int (Int32.ofInt (-1))), g, u) else (if x ≤ (4 : Int32) then (some (.int (g 20 4)), (q_up g 20 4 x), u) else (some (.int (Int32.ofInt (-1))), g, u)))
theorem b_press (x : Int32) (g : qM) (u : qW) : q_BS 55 [.ref 8, .int x] g u (d_press x g u) := by
  refine q_bx (mm := m_55) rfl (Nat.le_of_ble_eq_true rfl) rfl ?_
  refine q_step 1 1 [(0, .ref 8), (1, .int x)] [.int x] g u (fun big n0 => sg_ca_16 big n0 g u x) ?_
  refine q_if_lt rfl (fun (hc0 : x < 0) => ?_) (fun (hc0 : ¬ (x < 0)) => ?_)
  · refine q_ret 2 (some (.int (Int32.ofInt (-1))), g, u) (fun _ _ => rfl) ?_
    unfold d_press
    rw [if_pos hc0]
  · refine q_step 2 6 [(0, .ref 8), (1, .int x)] [.int (4 : Int32), .int x] g u (fun big n0 => sg_ca_17 big n0 g u x) ?_
    refine q_ic_le rfl (fun (hc1 : x ≤ (4 : Int32)) => ?_) (fun (hc1 : ¬ (x ≤ (4 : Int32))) => ?_)
    · refine q_ret 10 (some (.int (g 20 4)), (q_up g 20 4 x), u) (fun _ _ => rfl) ?_
      unfold d_press
      rw [if_neg hc0, if_pos hc1]
    · refine q_ret 2 (some (.int (Int32.ofInt (-1))), g, u) (fun _ _ => rfl) ?_
      unfold d_press
      rw [if_neg hc0, if_neg hc1]
def d_rfault (g : qM) : Int32 := (g 70 18)
theorem b_rfault (g : qM) (u : qW) : q_BS 166 [.ref 70] g u (some (.int (d_rfault g)), g, u) := by
  refine q_bx (mm := m_166) rfl (Nat.le_of_ble_eq_true rfl) rfl ?_
  refine q_ret 3 (some (.int (g 70 18)), g, u) (fun _ _ => rfl) ?_
  unfold d_rfault
  rfl
def d_rtorn (g : qM) : Int32 := (g 70 33)
theorem b_rtorn (g : qM) (u : qW) : q_BS 223 [.ref 70] g u (some (.int (d_rtorn g)), g, u) := by
  refine q_bx (mm := m_223) rfl (Nat.le_of_ble_eq_true rfl) rfl ?_
  refine q_ret 3 (some (.int (g 70 33)), g, u) (fun _ _ => rfl) ?_
  unfold d_rtorn
  rfl
theorem s_hasOne {p : Int32} {g : qM} (h : ¬ d_hasOne p g = 0) : 0 ≤ p.toInt ∧ p.toInt < (g 20 3).toInt := by
  unfold d_hasOne at h
  by_cases h1 : p < 0
  · rw [if_pos h1] at h
    exact absurd rfl h
  · rw [if_neg h1] at h
    have e : (0 : Int32).toInt = 0 := rfl
    have h2 : ¬ p.toInt < 0 := fun z => h1 (Int32.lt_iff_toInt_lt.mpr (by omega))
    by_cases h3 : g 20 3 ≤ p
    · rw [if_pos h3] at h
      exact absurd rfl h
    · have h4 : ¬ (g 20 3).toInt ≤ p.toInt := fun z => h3 (Int32.le_iff_toInt_le.mpr z)
      omega
theorem s_onei {p : Int32} {g : qM} {n : Nat} (hn : g 20 3 = Int32.ofNat n) (h6 : n ≤ 6) (h : ¬ d_hasOne p g = 0) : q_ix p p.toInt.toNat 6 := by
  obtain ⟨h1, h2⟩ := s_hasOne h
  rw [hn, q_nat (by omega)] at h2
  exact q_ixi h1 (by omega)
theorem s_pulli {x : Int32} (h1 : ¬ x < 1) (h2 : ¬ 4 < x) : q_ix x x.toInt.toNat 5 := by
  have e1 : (1 : Int32).toInt = 1 := rfl
  have e4 : (4 : Int32).toInt = 4 := rfl
  have a : ¬ x.toInt < 1 := fun z => h1 (Int32.lt_iff_toInt_lt.mpr (by omega))
  have b : ¬ 4 < x.toInt := fun z => h2 (Int32.lt_iff_toInt_lt.mpr (by omega))
  exact q_ixi (by omega) (by omega)
def d_hold (p : Int32) (y : Int32) (g : qM) (u : qW) : Option Value × qM × qW := (if (d_hasOne p g) = 0 then (some (.int (Int32.ofInt (-1))), g, u) else (if y = 0 then (some (.int (g 23 p.toInt.toNat)), (q_up g 23 p.toInt.toNat (0 : Int32)), u) else (some (.int (g 23 p.toInt.toNat)), (q_up g 23 p.toInt.toNat (1 : Int32)), u)))
theorem b_hold (p : Int32) (y : Int32) (g : qM) (u : qW) {n : Nat} (hn : g 20 3 = Int32.ofNat n) (h6 : n ≤ 6) : q_BS 51 [.ref 8, .int p, .int y] g u (d_hold p y g u) := by
  refine q_bx (mm := m_51) rfl (Nat.le_of_ble_eq_true rfl) rfl ?_
  refine q_step 3 5 [(0, .ref 8), (1, .int p), (2, .int y)] [.int p, .ref 20] g u (fun big n0 => sg_ca_18 big n0 g u p y) ?_
  refine q_call (M2 := 40) (rest := []) (b_hasOne _ _ _) (fun _ _ => rfl) ?_
  refine q_if_ne rfl (fun (hc0 : (d_hasOne p g) = 0) => ?_) (fun (hc0 : ¬ ((d_hasOne p g) = 0)) => ?_)
  · refine q_ret 2 (some (.int (Int32.ofInt (-1))), g, u) (fun _ _ => rfl) ?_
    unfold d_hold
    rw [if_pos hc0]
  · refine q_step 4 21 [(0, .ref 8), (1, .int p), (2, .int y)] [.int p, .ref 23] g u (fun big n0 => sg_ca_19 big n0 g u p y) ?_
    refine q_iald (j := p.toInt.toNat) (s_onei hn h6 (by assumption)) rfl rfl ?_
    refine q_step 6 32 [(0, .ref 8), (1, .int p), (2, .int y), (3, .int (g 23 p.toInt.toNat))] [.int y, .int p, .ref 23] g u (fun big n0 => sg_ca_20 big n0 g u p y (g 23 p.toInt.toNat)) ?_
    refine q_if_eq rfl (fun (hc1 : y = 0) => ?_) (fun (hc1 : ¬ (y = 0)) => ?_)
    · refine q_step 1 40 [(0, .ref 8), (1, .int p), (2, .int y), (3, .int (g 23 p.toInt.toNat))] [.int (0 : Int32), .int p, .ref 23] g u (fun big n0 => sg_ca_21 big n0 g u p y (g 23 p.toInt.toNat) p) ?_
      refine q_iast (j := p.toInt.toNat) (s_onei hn h6 (by assumption)) rfl rfl ?_
      refine q_ret 2 (some (.int (g 23 p.toInt.toNat)), (q_up g 23 p.toInt.toNat (0 : Int32)), u) (fun _ _ => rfl) ?_
      unfold d_hold
      rw [if_neg hc0, if_pos hc1]
    · refine q_step 2 40 [(0, .ref 8), (1, .int p), (2, .int y), (3, .int (g 23 p.toInt.toNat))] [.int (1 : Int32), .int p, .ref 23] g u (fun big n0 => sg_ca_22 big n0 g u p y (g 23 p.toInt.toNat) p) ?_
      refine q_iast (j := p.toInt.toNat) (s_onei hn h6 (by assumption)) rfl rfl ?_
      refine q_ret 2 (some (.int (g 23 p.toInt.toNat)), (q_up g 23 p.toInt.toNat (1 : Int32)), u) (fun _ _ => rfl) ?_
      unfold d_hold
      rw [if_neg hc0, if_neg hc1]
def d_mood (p : Int32) (y : Int32) (g : qM) (u : qW) : Option Value × qM × qW := (if (d_hasOne p g) = 0 then (some (.int (Int32.ofInt (-1))), g, u) else (if (d_isMood y g) = 0 then (some (.int (Int32.ofInt (-1))), g, u) else (some (.int (g 22 p.toInt.toNat)), (q_up g 22 p.toInt.toNat y), u)))
theorem b_mood (p : Int32) (y : Int32) (g : qM) (u : qW) {n : Nat} (hn : g 20 3 = Int32.ofNat n) (h6 : n ≤ 6) : q_BS 47 [.ref 8, .int p, .int y] g u (d_mood p y g u) := by
  refine q_bx (mm := m_47) rfl (Nat.le_of_ble_eq_true rfl) rfl ?_
  refine q_step 3 5 [(0, .ref 8), (1, .int p), (2, .int y)] [.int p, .ref 20] g u (fun big n0 => sg_ca_23 big n0 g u p y) ?_
  refine q_call (M2 := 40) (rest := []) (b_hasOne _ _ _) (fun _ _ => rfl) ?_
  refine q_if_eq rfl (fun (hc0 : (d_hasOne p g) = 0) => ?_) (fun (hc0 : ¬ ((d_hasOne p g) = 0)) => ?_)
  · refine q_ret 2 (some (.int (Int32.ofInt (-1))), g, u) (fun _ _ => rfl) ?_
    unfold d_mood
    rw [if_pos hc0]
  · refine q_step 1 12 [(0, .ref 8), (1, .int p), (2, .int y)] [.int y] g u (fun big n0 => sg_ca_24 big n0 g u p y) ?_
    refine q_call (M2 := 48) (rest := []) (b_isMood _ _ _) (fun _ _ => rfl) ?_
    refine q_if_ne rfl (fun (hc1 : (d_isMood y g) = 0) => ?_) (fun (hc1 : ¬ ((d_isMood y g) = 0)) => ?_)
    · refine q_ret 2 (some (.int (Int32.ofInt (-1))), g, u) (fun _ _ => rfl) ?_
      unfold d_mood
      rw [if_neg hc0, if_pos hc1]
    · refine q_step 4 28 [(0, .ref 8), (1, .int p), (2, .int y)] [.int p, .ref 22] g u (fun big n0 => sg_ca_25 big n0 g u p y) ?_
      refine q_iald (j := p.toInt.toNat) (s_onei hn h6 (by assumption)) rfl rfl ?_
      refine q_step 6 39 [(0, .ref 8), (1, .int p), (2, .int y), (3, .int (g 22 p.toInt.toNat))] [.int y, .int p, .ref 22] g u (fun big n0 => sg_ca_26 big n0 g u p y (g 22 p.toInt.toNat)) ?_
      refine q_iast (j := p.toInt.toNat) (s_onei hn h6 (by assumption)) rfl rfl ?_
      refine q_ret 2 (some (.int (g 22 p.toInt.toNat)), (q_up g 22 p.toInt.toNat y), u) (fun _ _ => rfl) ?_
      unfold d_mood
      rw [if_neg hc0, if_neg hc1]
def d_goal (p : Int32) (y : Int32) (g : qM) (u : qW) : Option Value × qM × qW := (if (d_hasOne p g) = 0 then (some (.int (Int32.ofInt (-1))), g, u) else (if y = (Int8.toInt32 (Int8.ofInt (-4))) then (some (.int (g 24 p.toInt.toNat)), (q_up g 24 p.toInt.toNat y), u) else (if (d_hasCell y g) = 0 then (some (.int (Int32.ofInt (-1))), g, u) else (some (.int (g 24 p.toInt.toNat)), (q_up g 24 p.toInt.toNat y), u))))
theorem b_goal (p : Int32) (y : Int32) (g : qM) (u : qW) {n : Nat} (hn : g 20 3 = Int32.ofNat n) (h6 : n ≤ 6) : q_BS 52 [.ref 8, .int p, .int y] g u (d_goal p y g u) := by
  refine q_bx (mm := m_52) rfl (Nat.le_of_ble_eq_true rfl) rfl ?_
  refine q_step 3 5 [(0, .ref 8), (1, .int p), (2, .int y)] [.int p, .ref 20] g u (fun big n0 => sg_ca_27 big n0 g u p y) ?_
  refine q_call (M2 := 40) (rest := []) (b_hasOne _ _ _) (fun _ _ => rfl) ?_
  refine q_if_eq rfl (fun (hc0 : (d_hasOne p g) = 0) => ?_) (fun (hc0 : ¬ ((d_hasOne p g) = 0)) => ?_)
  · refine q_ret 2 (some (.int (Int32.ofInt (-1))), g, u) (fun _ _ => rfl) ?_
    unfold d_goal
    rw [if_pos hc0]
  · refine q_step 2 14 [(0, .ref 8), (1, .int p), (2, .int y)] [.int (Int8.toInt32 (Int8.ofInt (-4))), .int y] g u (fun big n0 => sg_ca_28 big n0 g u p y) ?_
    refine q_ic_eq rfl (fun (hc1 : y = (Int8.toInt32 (Int8.ofInt (-4)))) => ?_) (fun (hc1 : ¬ (y = (Int8.toInt32 (Int8.ofInt (-4))))) => ?_)
    · refine q_step 4 38 [(0, .ref 8), (1, .int p), (2, .int y)] [.int p, .ref 24] g u (fun big n0 => sg_ca_29 big n0 g u p y) ?_
      refine q_iald (j := p.toInt.toNat) (s_onei hn h6 (by assumption)) rfl rfl ?_
      refine q_step 6 49 [(0, .ref 8), (1, .int p), (2, .int y), (3, .int (g 24 p.toInt.toNat))] [.int y, .int p, .ref 24] g u (fun big n0 => sg_ca_30 big n0 g u p y (g 24 p.toInt.toNat)) ?_
      refine q_iast (j := p.toInt.toNat) (s_onei hn h6 (by assumption)) rfl rfl ?_
      refine q_ret 2 (some (.int (g 24 p.toInt.toNat)), (q_up g 24 p.toInt.toNat y), u) (fun _ _ => rfl) ?_
      unfold d_goal
      rw [if_neg hc0, if_pos hc1]
    · refine q_step 3 22 [(0, .ref 8), (1, .int p), (2, .int y)] [.int y, .ref 20] g u (fun big n0 => sg_ca_31 big n0 g u p y) ?_
      refine q_call (M2 := 38) (rest := []) (b_hasCell _ _ _) (fun _ _ => rfl) ?_
      refine q_if_ne rfl (fun (hc2 : (d_hasCell y g) = 0) => ?_) (fun (hc2 : ¬ ((d_hasCell y g) = 0)) => ?_)
      · refine q_ret 2 (some (.int (Int32.ofInt (-1))), g, u) (fun _ _ => rfl) ?_
        unfold d_goal
        rw [if_neg hc0, if_neg hc1, if_pos hc2]
      · refine q_step 4 38 [(0, .ref 8), (1, .int p), (2, .int y)] [.int p, .ref 24] g u (fun big n0 => sg_ca_29 big n0 g u p y) ?_
        refine q_iald (j := p.toInt.toNat) (s_onei hn h6 (by assumption)) rfl rfl ?_
        refine q_step 6 49 [(0, .ref 8), (1, .int p), (2, .int y), (3, .int (g 24 p.toInt.toNat))] [.int y, .int p, .ref 24] g u (fun big n0 => sg_ca_30 big n0 g u p y (g 24 p.toInt.toNat)) ?_
        refine q_iast (j := p.toInt.toNat) (s_onei hn h6 (by assumption)) rfl rfl ?_
        refine q_ret 2 (some (.int (g 24 p.toInt.toNat)), (q_up g 24 p.toInt.toNat y), u) (fun _ _ => rfl) ?_
        unfold d_goal
        rw [if_neg hc0, if_neg hc1, if_neg hc2]
def d_pull (x : Int32) (y : Int32) (g : qM) (u : qW) : Option Value × qM × qW := (if x < (1 : Int32) then (some (.int (Int32.ofInt (-1))), g, u) else (if (4 : Int32) < x then (some (.int (Int32.ofInt (-1))), g, u) else (if y < 0 then (some (.int (Int32.ofInt (-1))), g, u) else (if y ≤ (9 : Int32) then (some (.int (g 25 x.toInt.toNat)), (q_up g 25 x.toInt.toNat y), u) else (some (.int (Int32.ofInt (-1))), g, u)))))
theorem b_pull (x : Int32) (y : Int32) (g : qM) (u : qW) : q_BS 54 [.ref 8, .int x, .int y] g u (d_pull x y g u) := by
  refine q_bx (mm := m_54) rfl (Nat.le_of_ble_eq_true rfl) rfl ?_
  refine q_step 2 2 [(0, .ref 8), (1, .int x), (2, .int y)] [.int (1 : Int32), .int x] g u (fun big n0 => sg_ca_32 big n0 g u x y) ?_
  refine q_ic_lt rfl (fun (hc0 : x < (1 : Int32)) => ?_) (fun (hc0 : ¬ (x < (1 : Int32))) => ?_)
  · refine q_ret 2 (some (.int (Int32.ofInt (-1))), g, u) (fun _ _ => rfl) ?_
    unfold d_pull
    rw [if_pos hc0]
  · refine q_step 2 7 [(0, .ref 8), (1, .int x), (2, .int y)] [.int (4 : Int32), .int x] g u (fun big n0 => sg_ca_33 big n0 g u x y) ?_
    refine q_ic_gt rfl (fun (hc1 : (4 : Int32) < x) => ?_) (fun (hc1 : ¬ ((4 : Int32) < x)) => ?_)
    · refine q_ret 2 (some (.int (Int32.ofInt (-1))), g, u) (fun _ _ => rfl) ?_
      unfold d_pull
      rw [if_neg hc0, if_pos hc1]
    · refine q_step 1 11 [(0, .ref 8), (1, .int x), (2, .int y)] [.int y] g u (fun big n0 => sg_ca_34 big n0 g u x y) ?_
      refine q_if_lt rfl (fun (hc2 : y < 0) => ?_) (fun (hc2 : ¬ (y < 0)) => ?_)
      · refine q_ret 2 (some (.int (Int32.ofInt (-1))), g, u) (fun _ _ => rfl) ?_
        unfold d_pull
        rw [if_neg hc0, if_neg hc1, if_pos hc2]
      · refine q_step 2 17 [(0, .ref 8), (1, .int x), (2, .int y)] [.int (9 : Int32), .int y] g u (fun big n0 => sg_ca_35 big n0 g u x y) ?_
        refine q_ic_le rfl (fun (hc3 : y ≤ (9 : Int32)) => ?_) (fun (hc3 : ¬ (y ≤ (9 : Int32))) => ?_)
        · refine q_step 4 30 [(0, .ref 8), (1, .int x), (2, .int y)] [.int x, .ref 25] g u (fun big n0 => sg_ca_36 big n0 g u x y) ?_
          refine q_iald (j := x.toInt.toNat) (s_pulli (by assumption) (by assumption)) rfl rfl ?_
          refine q_step 6 41 [(0, .ref 8), (1, .int x), (2, .int y), (3, .int (g 25 x.toInt.toNat))] [.int y, .int x, .ref 25] g u (fun big n0 => sg_ca_37 big n0 g u x y (g 25 x.toInt.toNat)) ?_
          refine q_iast (j := x.toInt.toNat) (s_pulli (by assumption) (by assumption)) rfl rfl ?_
          refine q_ret 2 (some (.int (g 25 x.toInt.toNat)), (q_up g 25 x.toInt.toNat y), u) (fun _ _ => rfl) ?_
          unfold d_pull
          rw [if_neg hc0, if_neg hc1, if_neg hc2, if_pos hc3]
        · refine q_ret 2 (some (.int (Int32.ofInt (-1))), g, u) (fun _ _ => rfl) ?_
          unfold d_pull
          rw [if_neg hc0, if_neg hc1, if_neg hc2, if_neg hc3]
def d_forget (x : Int32) (g : qM) (u : qW) : Option Value × qM × qW := (if x < 0 then (some (.int (Int32.ofInt (-1))), g, u) else (if x ≤ (g 20 6) then (some (.int (g 20 6)), (q_up g 20 6 x), u) else (some (.int (Int32.ofInt (-1))), g, u)))
theorem b_forget (x : Int32) (g : qM) (u : qW) : q_BS 119 [.ref 8, .int x] g u (d_forget x g u) := by
  refine q_bx (mm := m_119) rfl (Nat.le_of_ble_eq_true rfl) rfl ?_
  refine q_step 5 9 [(0, .ref 8), (1, .int x), (2, .int (g 20 6))] [.int x] g u (fun big n0 => sg_ca_38 big n0 g u x) ?_
  refine q_if_lt rfl (fun (hc0 : x < 0) => ?_) (fun (hc0 : ¬ (x < 0)) => ?_)
  · refine q_ret 2 (some (.int (Int32.ofInt (-1))), g, u) (fun _ _ => rfl) ?_
    unfold d_forget
    rw [if_pos hc0]
  · refine q_step 2 14 [(0, .ref 8), (1, .int x), (2, .int (g 20 6))] [.int (g 20 6), .int x] g u (fun big n0 => sg_ca_39 big n0 g u x (g 20 6)) ?_
    refine q_ic_le rfl (fun (hc1 : x ≤ (g 20 6)) => ?_) (fun (hc1 : ¬ (x ≤ (g 20 6))) => ?_)
    · refine q_ret 6 (some (.int (g 20 6)), (q_up g 20 6 x), u) (fun _ _ => rfl) ?_
      unfold d_forget
      rw [if_neg hc0, if_pos hc1]
    · refine q_ret 2 (some (.int (Int32.ofInt (-1))), g, u) (fun _ _ => rfl) ?_
      unfold d_forget
      rw [if_neg hc0, if_neg hc1]
end
section
theorem sg_rc_1 (big : Nat → List Value → qM → qW → qR) (n0 : Nat) (G : qM) (U : qW) (v0 : Int32) : qm_run pm_m big m_169 (n0 + 8) 0 [(0, .ref 70), (1, .int v0)] [] G U = qm_run pm_m big m_169 n0 10 [(0, .ref 70), (1, .int v0)] [.long (Int32.toInt64 ((G 70 4) - (1 : Int32))), .long (0 : Int64), .long (Int32.toInt64 v0)] G U := rfl
theorem sg_rc_2 (big : Nat → List Value → qM → qW → qR) (n0 : Nat) (G : qM) (U : qW) (v0 : Int32) : qm_run pm_m big m_171 (n0 + 11) 0 [(0, .ref 70), (1, .int v0)] [] G U = qm_run pm_m big m_171 n0 15 [(0, .ref 70), (1, .int v0)] [.long (Int32.toInt64 (((G 70 2) * (G 70 3)) - (1 : Int32))), .long (0 : Int64), .long (Int32.toInt64 v0)] G U := rfl
theorem sg_rc_3 (big : Nat → List Value → qM → qW → qR) (n0 : Nat) (G : qM) (U : qW) (v0 : Int32) (v1 : Int32) : qm_run pm_m big m_175 (n0 + 3) 0 [(0, .ref 70), (1, .int v0), (2, .int v1)] [] G U = qm_run pm_m big m_175 n0 5 [(0, .ref 70), (1, .int v0), (2, .int v1)] [.int v0, .ref 71] G U := rfl
theorem sg_rc_4 (big : Nat → List Value → qM → qW → qR) (n0 : Nat) (G : qM) (U : qW) (v0 : Int32) (v1 : Int32) (v2 : Int32) : qm_run pm_m big m_175 (n0 + 5) 6 [(0, .ref 70), (1, .int v0), (2, .int v1)] [.int v2] G U = qm_run pm_m big m_175 n0 13 [(0, .ref 70), (1, .int v0), (2, .int v1), (3, .int v2)] [.int v1, .int v0, .ref 71] G U := rfl
theorem sg_rc_5 (big : Nat → List Value → qM → qW → qR) (n0 : Nat) (G : qM) (U : qW) (v0 : Int32) (v1 : Int32) : qm_run pm_m big m_178 (n0 + 2) 0 [(0, .ref 70), (1, .int v0), (2, .int v1)] [] G U = qm_run pm_m big m_178 n0 2 [(0, .ref 70), (1, .int v0), (2, .int v1)] [.int v0, .ref 70] G U := rfl
theorem sg_rc_6 (big : Nat → List Value → qM → qW → qR) (n0 : Nat) (G : qM) (U : qW) (v0 : Int32) (v1 : Int32) : qm_run pm_m big m_178 (n0 + 5) 8 [(0, .ref 70), (1, .int v0), (2, .int v1)] [] G U = qm_run pm_m big m_178 n0 14 [(0, .ref 70), (1, .int v0), (2, .int v1)] [.int v1, .int ((10 : Int32) + v0), .ref 70] G U := rfl
theorem sg_rc_7 (big : Nat → List Value → qM → qW → qR) (n0 : Nat) (G : qM) (U : qW) (v0 : Int32) (v1 : Int32) : qm_run pm_m big m_174 (n0 + 2) 0 [(0, .ref 70), (1, .int v0), (2, .int v1)] [] G U = qm_run pm_m big m_174 n0 2 [(0, .ref 70), (1, .int v0), (2, .int v1)] [.int v0, .ref 70] G U := rfl
theorem sg_rc_8 (big : Nat → List Value → qM → qW → qR) (n0 : Nat) (G : qM) (U : qW) (v0 : Int32) (v1 : Int32) : qm_run pm_m big m_174 (n0 + 4) 8 [(0, .ref 70), (1, .int v0), (2, .int v1)] [] G U = qm_run pm_m big m_174 n0 14 [(0, .ref 70), (1, .int v0), (2, .int v1)] [.long (3 : Int64), .long (0 : Int64), .long (Int32.toInt64 v1)] G U := rfl
theorem sg_rc_9 (big : Nat → List Value → qM → qW → qR) (n0 : Nat) (G : qM) (U : qW) (v0 : Int32) (v1 : Int32) : qm_run pm_m big m_174 (n0 + 5) 20 [(0, .ref 70), (1, .int v0), (2, .int v1)] [] G U = qm_run pm_m big m_174 n0 25 [(0, .ref 70), (1, .int v0), (2, .int v1)] [.int v1, .int ((5 : Int32) + v0), .ref 70] G U := rfl
theorem sg_rc_10 (big : Nat → List Value → qM → qW → qR) (n0 : Nat) (G : qM) (U : qW) (v0 : Int32) (v1 : Int32) : qm_run pm_m big m_179 (n0 + 2) 0 [(0, .ref 70), (1, .int v0), (2, .int v1)] [] G U = qm_run pm_m big m_179 n0 2 [(0, .ref 70), (1, .int v0), (2, .int v1)] [.int v0, .ref 70] G U := rfl
theorem sg_rc_11 (big : Nat → List Value → qM → qW → qR) (n0 : Nat) (G : qM) (U : qW) (v0 : Int32) (v1 : Int32) : qm_run pm_m big m_179 (n0 + 2) 8 [(0, .ref 70), (1, .int v0), (2, .int v1)] [] G U = qm_run pm_m big m_179 n0 11 [(0, .ref 70), (1, .int v0), (2, .int v1)] [.int (Int8.toInt32 (Int8.ofInt (-4))), .int v1] G U := rfl
theorem sg_rc_12 (big : Nat → List Value → qM → qW → qR) (n0 : Nat) (G : qM) (U : qW) (v0 : Int32) (v1 : Int32) : qm_run pm_m big m_179 (n0 + 5) 22 [(0, .ref 70), (1, .int v0), (2, .int v1)] [] G U = qm_run pm_m big m_179 n0 28 [(0, .ref 70), (1, .int v0), (2, .int v1)] [.int v1, .int ((15 : Int32) + v0), .ref 70] G U := rfl
theorem sg_rc_13 (big : Nat → List Value → qM → qW → qR) (n0 : Nat) (G : qM) (U : qW) (v0 : Int32) (v1 : Int32) : qm_run pm_m big m_179 (n0 + 2) 14 [(0, .ref 70), (1, .int v0), (2, .int v1)] [] G U = qm_run pm_m big m_179 n0 16 [(0, .ref 70), (1, .int v0), (2, .int v1)] [.int v1, .ref 70] G U := rfl
theorem sg_rc_14 (big : Nat → List Value → qM → qW → qR) (n0 : Nat) (G : qM) (U : qW) (v0 : Int32) : qm_run pm_m big m_182 (n0 + 4) 0 [(0, .ref 70), (1, .int v0)] [] G U = qm_run pm_m big m_182 n0 6 [(0, .ref 70), (1, .int v0)] [.long (4 : Int64), .long (0 : Int64), .long (Int32.toInt64 v0)] G U := rfl
theorem sg_rc_15 (big : Nat → List Value → qM → qW → qR) (n0 : Nat) (G : qM) (U : qW) (v0 : Int32) : qm_run pm_m big m_182 (n0 + 3) 12 [(0, .ref 70), (1, .int v0)] [] G U = qm_run pm_m big m_182 n0 16 [(0, .ref 70), (1, .int v0)] [.int v0, .int (25 : Int32), .ref 70] G U := rfl
theorem sg_rc_16 (big : Nat → List Value → qM → qW → qR) (n0 : Nat) (G : qM) (U : qW) (v0 : Int32) : qm_run pm_m big m_213 (n0 + 8) 0 [(0, .ref 70), (1, .int v0)] [] G U = qm_run pm_m big m_213 n0 11 [(0, .ref 70), (1, .int v0)] [.long (Int32.toInt64 (G 71 27)), .long (0 : Int64), .long (Int32.toInt64 v0)] G U := rfl
theorem sg_rc_17 (big : Nat → List Value → qM → qW → qR) (n0 : Nat) (G : qM) (U : qW) (v0 : Int32) : qm_run pm_m big m_213 (n0 + 3) 17 [(0, .ref 70), (1, .int v0)] [] G U = qm_run pm_m big m_213 n0 21 [(0, .ref 70), (1, .int v0)] [.int v0, .int (27 : Int32), .ref 70] G U := rfl
def d_risOne (p : Int32) (g : qM) : Int32 := (s_in (Int32.toInt64 p) (0 : Int64) (Int32.toInt64 ((g 70 4) - (1 : Int32))))
theorem b_risOne (p : Int32) (g : qM) (u : qW) : q_BS 169 [.ref 70, .int p] g u (some (.int (d_risOne p g)), g, u) := by
  refine q_bx (mm := m_169) rfl (Nat.le_of_ble_eq_true rfl) rfl ?_
  refine q_step 8 10 [(0, .ref 70), (1, .int p)] [.long (Int32.toInt64 ((g 70 4) - (1 : Int32))), .long (0 : Int64), .long (Int32.toInt64 p)] g u (fun big n0 => sg_rc_1 big n0 g u p) ?_
  refine q_call (M2 := 149) (rest := []) (b_in _ _ _ _ _) (fun _ _ => rfl) ?_
  refine q_retb (s_in_01 _ _ _) rfl rfl ?_
  unfold d_risOne
  rfl
def d_risCell (x : Int32) (g : qM) : Int32 := (s_in (Int32.toInt64 x) (0 : Int64) (Int32.toInt64 (((g 70 2) * (g 70 3)) - (1 : Int32))))
theorem b_risCell (x : Int32) (g : qM) (u : qW) : q_BS 171 [.ref 70, .int x] g u (some (.int (d_risCell x g)), g, u) := by
  refine q_bx (mm := m_171) rfl (Nat.le_of_ble_eq_true rfl) rfl ?_
  refine q_step 11 15 [(0, .ref 70), (1, .int x)] [.long (Int32.toInt64 (((g 70 2) * (g 70 3)) - (1 : Int32))), .long (0 : Int64), .long (Int32.toInt64 x)] g u (fun big n0 => sg_rc_2 big n0 g u x) ?_
  refine q_call (M2 := 149) (rest := []) (b_in _ _ _ _ _) (fun _ _ => rfl) ?_
  refine q_retb (s_in_01 _ _ _) rfl rfl ?_
  unfold d_risCell
  rfl
def d_rbec (k : Int32) (v : Int32) (j : Nat) (g : qM) (u : qW) : Option Value × qM × qW := (some (.int (g 71 j)), (q_up g 71 j v), u)
theorem b_rbec (k : Int32) (v : Int32) (j : Nat) (g : qM) (u : qW) (hk : q_ix k j 132) : q_BS 175 [.ref 70, .int k, .int v] g u (d_rbec k v j g u) := by
  refine q_bx (mm := m_175) rfl (Nat.le_of_ble_eq_true rfl) rfl ?_
  refine q_step 3 5 [(0, .ref 70), (1, .int k), (2, .int v)] [.int k, .ref 71] g u (fun big n0 => sg_rc_3 big n0 g u k v) ?_
  refine q_iald (j := j) (hk) rfl rfl ?_
  refine q_step 5 13 [(0, .ref 70), (1, .int k), (2, .int v), (3, .int (g 71 j))] [.int v, .int k, .ref 71] g u (fun big n0 => sg_rc_4 big n0 g u k v (g 71 j)) ?_
  refine q_iast (j := j) (hk) rfl rfl ?_
  refine q_ret 2 (some (.int (g 71 j)), (q_up g 71 j v), u) (fun _ _ => rfl) ?_
  unfold d_rbec
  rfl
theorem s_risOne {p : Int32} {g : qM} {n : Nat} (hn : g 70 4 = Int32.ofNat n) (h6 : n ≤ 6) (h : ¬ d_risOne p g = 0) : 0 ≤ p.toInt ∧ p.toInt < (n : Int) := by
  unfold d_risOne at h
  have h1 := s_in_i.mp h
  rw [Int32.toInt_toInt64, hn] at h1
  have e : (Int32.ofNat n - 1).toInt = (n : Int) - 1 := by
    have z : (1 : Int32).toInt = 1 := rfl
    rw [s_sub (by rw [q_nat (by omega), z]; omega) (by rw [q_nat (by omega), z]; omega), q_nat (by omega), z]
  have z0 : (0 : Int64).toInt = 0 := rfl
  omega
theorem s_rix {p : Int32} {K : Nat} (hK : K ≤ 100) (h1 : 0 ≤ p.toInt) (h2 : p.toInt ≤ 20) : q_ix (Int32.ofNat K + p) (K + p.toInt.toNat) 132 := by
  have e : (Int32.ofNat K + p).toInt = (K : Int) + p.toInt := by
    rw [s_add (by rw [q_nat (by omega)]; omega) (by rw [q_nat (by omega)]; omega), q_nat (by omega)]
  refine ⟨fun z => ?_, ?_, by omega⟩
  · have := Int32.lt_iff_toInt_lt.mp z
    have z0 : (0 : Int32).toInt = 0 := rfl
    omega
  · show (Int32.ofNat K + p).toInt.toNat = _
    rw [e]
    omega
def d_rhold (p : Int32) (y : Int32) (g : qM) (u : qW) : Option Value × qM × qW := (if (d_risOne p g) = 0 then (some (.int (Int32.ofInt (-1))), g, u) else (some (.int (g 71 (10 + p.toInt.toNat))), (q_up g 71 (10 + p.toInt.toNat) (if y = 0 then (0 : Int32) else 1)), u))
theorem b_rhold (p : Int32) (y : Int32) (g : qM) (u : qW) {n : Nat} (hn : g 70 4 = Int32.ofNat n) (h6 : n ≤ 6) : q_BS 178 [.ref 70, .int p, .int y] g u (d_rhold p y g u) := by
  refine q_bx (mm := m_178) rfl (Nat.le_of_ble_eq_true rfl) rfl ?_
  refine q_step 2 2 [(0, .ref 70), (1, .int p), (2, .int y)] [.int p, .ref 70] g u (fun big n0 => sg_rc_5 big n0 g u p y) ?_
  refine q_call (M2 := 169) (rest := []) (b_risOne _ _ _) (fun _ _ => rfl) ?_
  refine q_if_eq rfl (fun (hc0 : (d_risOne p g) = 0) => ?_) (fun (hc0 : ¬ ((d_risOne p g) = 0)) => ?_)
  · refine q_ret 2 (some (.int (Int32.ofInt (-1))), g, u) (fun _ _ => rfl) ?_
    unfold d_rhold
    rw [if_pos hc0]
  · refine q_step 5 14 [(0, .ref 70), (1, .int p), (2, .int y)] [.int y, .int ((10 : Int32) + p), .ref 70] g u (fun big n0 => sg_rc_6 big n0 g u p y) ?_
    refine q_call (M2 := 164) (rest := [.int ((10 : Int32) + p), .ref 70]) (b_flag _ _ _) (fun _ _ => rfl) ?_
    have hix : q_ix ((10 : Int32) + p) (10 + p.toInt.toNat) 132 := by
      have hz := s_risOne hn h6 hc0
      exact s_rix (K := 10) (by omega) hz.1 (by omega)
    refine q_call (M2 := 175) (rest := []) (b_rbec ((10 : Int32) + p) (if y = 0 then (0 : Int32) else 1) (10 + p.toInt.toNat) g u hix) (fun _ _ => rfl) ?_
    refine q_ret 2 (some (.int (g 71 (10 + p.toInt.toNat))), (q_up g 71 (10 + p.toInt.toNat) (if y = 0 then (0 : Int32) else 1)), u) (fun _ _ => rfl) ?_
    unfold d_rhold
    rw [if_neg hc0]
def d_rmood (p : Int32) (y : Int32) (g : qM) (u : qW) : Option Value × qM × qW := (if (d_risOne p g) = 0 then (some (.int (Int32.ofInt (-1))), g, u) else (if (s_in (Int32.toInt64 y) (0 : Int64) (3 : Int64)) = 0 then (some (.int (Int32.ofInt (-1))), g, u) else (some (.int (g 71 (5 + p.toInt.toNat))), (q_up g 71 (5 + p.toInt.toNat) y), u)))
theorem b_rmood (p : Int32) (y : Int32) (g : qM) (u : qW) {n : Nat} (hn : g 70 4 = Int32.ofNat n) (h6 : n ≤ 6) : q_BS 174 [.ref 70, .int p, .int y] g u (d_rmood p y g u) := by
  refine q_bx (mm := m_174) rfl (Nat.le_of_ble_eq_true rfl) rfl ?_
  refine q_step 2 2 [(0, .ref 70), (1, .int p), (2, .int y)] [.int p, .ref 70] g u (fun big n0 => sg_rc_7 big n0 g u p y) ?_
  refine q_call (M2 := 169) (rest := []) (b_risOne _ _ _) (fun _ _ => rfl) ?_
  refine q_if_eq rfl (fun (hc0 : (d_risOne p g) = 0) => ?_) (fun (hc0 : ¬ ((d_risOne p g) = 0)) => ?_)
  · refine q_ret 2 (some (.int (Int32.ofInt (-1))), g, u) (fun _ _ => rfl) ?_
    unfold d_rmood
    rw [if_pos hc0]
  · refine q_step 4 14 [(0, .ref 70), (1, .int p), (2, .int y)] [.long (3 : Int64), .long (0 : Int64), .long (Int32.toInt64 y)] g u (fun big n0 => sg_rc_8 big n0 g u p y) ?_
    refine q_call (M2 := 149) (rest := []) (b_in _ _ _ _ _) (fun _ _ => rfl) ?_
    refine q_if_eq rfl (fun (hc1 : (s_in (Int32.toInt64 y) (0 : Int64) (3 : Int64)) = 0) => ?_) (fun (hc1 : ¬ ((s_in (Int32.toInt64 y) (0 : Int64) (3 : Int64)) = 0)) => ?_)
    · refine q_ret 2 (some (.int (Int32.ofInt (-1))), g, u) (fun _ _ => rfl) ?_
      unfold d_rmood
      rw [if_neg hc0, if_pos hc1]
    · refine q_step 5 25 [(0, .ref 70), (1, .int p), (2, .int y)] [.int y, .int ((5 : Int32) + p), .ref 70] g u (fun big n0 => sg_rc_9 big n0 g u p y) ?_
      have hix : q_ix ((5 : Int32) + p) (5 + p.toInt.toNat) 132 := by
        have hz := s_risOne hn h6 hc0
        exact s_rix (K := 5) (by omega) hz.1 (by omega)
      refine q_call (M2 := 175) (rest := []) (b_rbec ((5 : Int32) + p) y (5 + p.toInt.toNat) g u hix) (fun _ _ => rfl) ?_
      refine q_ret 2 (some (.int (g 71 (5 + p.toInt.toNat))), (q_up g 71 (5 + p.toInt.toNat) y), u) (fun _ _ => rfl) ?_
      unfold d_rmood
      rw [if_neg hc0, if_neg hc1]
def d_rgoal (p : Int32) (y : Int32) (g : qM) (u : qW) : Option Value × qM × qW := (if (d_risOne p g) = 0 then (some (.int (Int32.ofInt (-1))), g, u) else (if y = (Int8.toInt32 (Int8.ofInt (-4))) then (some (.int (g 71 (15 + p.toInt.toNat))), (q_up g 71 (15 + p.toInt.toNat) y), u) else (if (d_risCell y g) = 0 then (some (.int (Int32.ofInt (-1))), g, u) else (some (.int (g 71 (15 + p.toInt.toNat))), (q_up g 71 (15 + p.toInt.toNat) y), u))))
theorem b_rgoal (p : Int32) (y : Int32) (g : qM) (u : qW) {n : Nat} (hn : g 70 4 = Int32.ofNat n) (h6 : n ≤ 6) : q_BS 179 [.ref 70, .int p, .int y] g u (d_rgoal p y g u) := by
  refine q_bx (mm := m_179) rfl (Nat.le_of_ble_eq_true rfl) rfl ?_
  refine q_step 2 2 [(0, .ref 70), (1, .int p), (2, .int y)] [.int p, .ref 70] g u (fun big n0 => sg_rc_10 big n0 g u p y) ?_
  refine q_call (M2 := 169) (rest := []) (b_risOne _ _ _) (fun _ _ => rfl) ?_
  refine q_if_eq rfl (fun (hc0 : (d_risOne p g) = 0) => ?_) (fun (hc0 : ¬ ((d_risOne p g) = 0)) => ?_)
  · refine q_ret 2 (some (.int (Int32.ofInt (-1))), g, u) (fun _ _ => rfl) ?_
    unfold d_rgoal
    rw [if_pos hc0]
  · refine q_step 2 11 [(0, .ref 70), (1, .int p), (2, .int y)] [.int (Int8.toInt32 (Int8.ofInt (-4))), .int y] g u (fun big n0 => sg_rc_11 big n0 g u p y) ?_
    refine q_ic_eq rfl (fun (hc1 : y = (Int8.toInt32 (Int8.ofInt (-4)))) => ?_) (fun (hc1 : ¬ (y = (Int8.toInt32 (Int8.ofInt (-4))))) => ?_)
    · refine q_step 5 28 [(0, .ref 70), (1, .int p), (2, .int y)] [.int y, .int ((15 : Int32) + p), .ref 70] g u (fun big n0 => sg_rc_12 big n0 g u p y) ?_
      have hix : q_ix ((15 : Int32) + p) (15 + p.toInt.toNat) 132 := by
        have hz := s_risOne hn h6 hc0
        exact s_rix (K := 15) (by omega) hz.1 (by omega)
      refine q_call (M2 := 175) (rest := []) (b_rbec ((15 : Int32) + p) y (15 + p.toInt.toNat) g u hix) (fun _ _ => rfl) ?_
      refine q_ret 2 (some (.int (g 71 (15 + p.toInt.toNat))), (q_up g 71 (15 + p.toInt.toNat) y), u) (fun _ _ => rfl) ?_
      unfold d_rgoal
      rw [if_neg hc0, if_pos hc1]
    · refine q_step 2 16 [(0, .ref 70), (1, .int p), (2, .int y)] [.int y, .ref 70] g u (fun big n0 => sg_rc_13 big n0 g u p y) ?_
      refine q_call (M2 := 171) (rest := []) (b_risCell _ _ _) (fun _ _ => rfl) ?_
      refine q_if_eq rfl (fun (hc2 : (d_risCell y g) = 0) => ?_) (fun (hc2 : ¬ ((d_risCell y g) = 0)) => ?_)
      · refine q_ret 2 (some (.int (Int32.ofInt (-1))), g, u) (fun _ _ => rfl) ?_
        unfold d_rgoal
        rw [if_neg hc0, if_neg hc1, if_pos hc2]
      · refine q_step 5 28 [(0, .ref 70), (1, .int p), (2, .int y)] [.int y, .int ((15 : Int32) + p), .ref 70] g u (fun big n0 => sg_rc_12 big n0 g u p y) ?_
        have hix : q_ix ((15 : Int32) + p) (15 + p.toInt.toNat) 132 := by
          have hz := s_risOne hn h6 hc0
          exact s_rix (K := 15) (by omega) hz.1 (by omega)
        refine q_call (M2 := 175) (rest := []) (b_rbec ((15 : Int32) + p) y (15 + p.toInt.toNat) g u hix) (fun _ _ => rfl) ?_
        refine q_ret 2 (some (.int (g 71 (15 + p.toInt.toNat))), (q_up g 71 (15 + p.toInt.toNat) y), u) (fun _ _ => rfl) ?_
        unfold d_rgoal
        rw [if_neg hc0, if_neg hc1, if_neg hc2]
def d_rpress (y : Int32) (g : qM) (u : qW) : Option Value × qM × qW := (if (s_in (Int32.toInt64 y) (0 : Int64) (4 : Int64)) = 0 then (some (.int (Int32.ofInt (-1))), g, u) else (some (.int (g 71 25)), (q_up g 71 25 y), u))
theorem b_rpress (y : Int32) (g : qM) (u : qW) : q_BS 182 [.ref 70, .int y] g u (d_rpress y g u) := by
  refine q_bx (mm := m_182) rfl (Nat.le_of_ble_eq_true rfl) rfl ?_
  refine q_step 4 6 [(0, .ref 70), (1, .int y)] [.long (4 : Int64), .long (0 : Int64), .long (Int32.toInt64 y)] g u (fun big n0 => sg_rc_14 big n0 g u y) ?_
  refine q_call (M2 := 149) (rest := []) (b_in _ _ _ _ _) (fun _ _ => rfl) ?_
  refine q_if_eq rfl (fun (hc0 : (s_in (Int32.toInt64 y) (0 : Int64) (4 : Int64)) = 0) => ?_) (fun (hc0 : ¬ ((s_in (Int32.toInt64 y) (0 : Int64) (4 : Int64)) = 0)) => ?_)
  · refine q_ret 2 (some (.int (Int32.ofInt (-1))), g, u) (fun _ _ => rfl) ?_
    unfold d_rpress
    rw [if_pos hc0]
  · refine q_step 3 16 [(0, .ref 70), (1, .int y)] [.int y, .int (25 : Int32), .ref 70] g u (fun big n0 => sg_rc_15 big n0 g u y) ?_
    refine q_call (M2 := 175) (rest := []) (b_rbec (25 : Int32) y 25 g u (q_ixn (j := 25) (n := 132) (by decide) (by decide))) (fun _ _ => rfl) ?_
    refine q_ret 2 (some (.int (g 71 25)), (q_up g 71 25 y), u) (fun _ _ => rfl) ?_
    unfold d_rpress
    rw [if_neg hc0]
def d_rforget (y : Int32) (g : qM) (u : qW) : Option Value × qM × qW := (if (s_in (Int32.toInt64 y) (0 : Int64) (Int32.toInt64 (g 71 27))) = 0 then (some (.int (Int32.ofInt (-1))), g, u) else (some (.int (g 71 27)), (q_up g 71 27 y), u))
theorem b_rforget (y : Int32) (g : qM) (u : qW) : q_BS 213 [.ref 70, .int y] g u (d_rforget y g u) := by
  refine q_bx (mm := m_213) rfl (Nat.le_of_ble_eq_true rfl) rfl ?_
  refine q_step 8 11 [(0, .ref 70), (1, .int y)] [.long (Int32.toInt64 (g 71 27)), .long (0 : Int64), .long (Int32.toInt64 y)] g u (fun big n0 => sg_rc_16 big n0 g u y) ?_
  refine q_call (M2 := 149) (rest := []) (b_in _ _ _ _ _) (fun _ _ => rfl) ?_
  refine q_if_eq rfl (fun (hc0 : (s_in (Int32.toInt64 y) (0 : Int64) (Int32.toInt64 (g 71 27))) = 0) => ?_) (fun (hc0 : ¬ ((s_in (Int32.toInt64 y) (0 : Int64) (Int32.toInt64 (g 71 27))) = 0)) => ?_)
  · refine q_ret 2 (some (.int (Int32.ofInt (-1))), g, u) (fun _ _ => rfl) ?_
    unfold d_rforget
    rw [if_pos hc0]
  · refine q_step 3 21 [(0, .ref 70), (1, .int y)] [.int y, .int (27 : Int32), .ref 70] g u (fun big n0 => sg_rc_17 big n0 g u y) ?_
    refine q_call (M2 := 175) (rest := []) (b_rbec (27 : Int32) y 27 g u (q_ixn (j := 27) (n := 132) (by decide) (by decide))) (fun _ _ => rfl) ?_
    refine q_ret 2 (some (.int (g 71 27)), (q_up g 71 27 y), u) (fun _ _ => rfl) ?_
    unfold d_rforget
    rw [if_neg hc0]
end
