/-! FLIPS are alike. -/
def s_adj (X Y : Nat → Int32) (p q : Nat) : Int32 := if s_abs (X q - X p) + s_abs (Y q - Y p) = 1 then 1 else 0
theorem s_nx_app {X Y : Nat → Int32} {p : Nat} : ∀ k q a, s_nx X Y p (k + 1) q a = s_nx X Y p k q a + s_adj X Y p (q + k)
  | 0, q, a => rfl
  | k + 1, q, a => by
    show s_nx X Y p (k + 1) (q + 1) (a + s_adj X Y p q) = s_nx X Y p k (q + 1) (a + s_adj X Y p q) + s_adj X Y p (q + (k + 1))
    rw [s_nx_app k (q + 1) _, show q + 1 + k = q + (k + 1) by omega]
def s_adjf (W H C D : Nat) : Bool := decide (¬ C < W * H) || (decide (¬ D < W * H) || decide ((if s_abs (s_col (Int32.ofNat W) (Int32.ofNat D) - s_col (Int32.ofNat W) (Int32.ofNat C)) + s_abs (s_row (Int32.ofNat W) (Int32.ofNat D) - s_row (Int32.ofNat W) (Int32.ofNat C)) = 1 then (1 : Int32) else 0) = (if Int32.ofNat D = s_to (Int32.ofNat W) (Int32.ofNat H) (Int32.ofNat C) 0 then (1 : Int32) else 0) + (if Int32.ofNat D = s_to (Int32.ofNat W) (Int32.ofNat H) (Int32.ofNat C) 1 then (1 : Int32) else 0) + (if Int32.ofNat D = s_to (Int32.ofNat W) (Int32.ofNat H) (Int32.ofNat C) 2 then (1 : Int32) else 0) + (if Int32.ofNat D = s_to (Int32.ofNat W) (Int32.ofNat H) (Int32.ofNat C) 3 then (1 : Int32) else 0)))
theorem s_adj_fin : (List.range 4).all (fun W => (List.range 4).all (fun H => (List.range 25).all (fun C => (List.range 25).all (fun D => s_adjf (W + 2) (H + 2) C D)))) = true := by decide +kernel
theorem s_oc_s {c : Nat → Int32} {k : Nat} {x : Int32} (hk : k + 1 ≤ 6) (hd : ∀ q, q < k → c q ≠ c k) (hn : c k ≠ i_none) : s_oc c (k + 1) x = s_oc c k x + (if c k = x then 1 else 0) := by
  unfold s_oc
  by_cases h1 : x = i_none
  · rw [if_pos h1, if_pos h1, if_neg (fun z => hn (z.trans h1))]
    rfl
  · rw [if_neg h1, if_neg h1]
    by_cases h2 : c k = x
    · rw [if_pos h2, if_neg (fun z => ((s_wl_none (k + 1) 0 i_none (by omega)).mp z).2 k (Nat.zero_le _) (by omega) h2), if_pos ((s_wl_none k 0 i_none (by omega)).mpr ⟨rfl, fun q _ hq => by rw [← h2]; exact hd q (by omega)⟩)]
      rfl
    · rw [if_neg h2, Int32.add_zero]
      by_cases h3 : s_wl c x k 0 i_none = i_none
      · have h4 := ((s_wl_none k 0 i_none (by omega)).mp h3).2
        rw [if_pos h3, if_pos ((s_wl_none (k + 1) 0 i_none (by omega)).mpr ⟨rfl, fun q _ hq => by
          by_cases e : q = k
          · rw [e]
            exact h2
          · exact h4 q (Nat.zero_le _) (by omega)⟩)]
      · rw [if_neg h3, if_neg (fun z => h3 ((s_wl_none k 0 i_none (by omega)).mpr ⟨rfl, fun q _ hq => ((s_wl_none (k + 1) 0 i_none (by omega)).mp z).2 q (Nat.zero_le _) (by omega)⟩))]
theorem s_add4 (z a b c d e f g h : Int32) : z + (a + e) + (b + f) + (c + g) + (d + h) = z + a + b + c + d + (e + f + g + h) := by
  first
    | ac_rfl
    | grind
theorem s_count {W H n : Nat} (hW : 2 ≤ W) (hW5 : W ≤ 5) (hH : 2 ≤ H) (hH5 : H ≤ 5) (h6 : n ≤ 6) {c X Y : Nat → Int32} (hX : ∀ p, p < n → X p = s_col (Int32.ofNat W) (c p)) (hY : ∀ p, p < n → Y p = s_row (Int32.ofNat W) (c p)) (hc : ∀ p, p < n → ∃ C, C < W * H ∧ c p = Int32.ofNat C) (hd : ∀ p q, p < n → q < n → p ≠ q → c p ≠ c q) {p : Nat} (hp : p < n) : s_nx X Y p n 0 0 = s_cn (Int32.ofNat W) (Int32.ofNat H) c n p := by
  have hWH : W * H ≤ 25 := Nat.le_trans (Nat.mul_le_mul hW5 hH5) (Nat.le_refl 25)
  obtain ⟨C, hC, ec⟩ := hc p hp
  have key : ∀ k, k ≤ n → s_nx X Y p k 0 0 = s_cn (Int32.ofNat W) (Int32.ofNat H) c k p := by
    intro k
    induction k with
    | zero =>
      intro _
      have e : ∀ x, s_oc c 0 x = 0 := fun x => by
        unfold s_oc
        split
        · rfl
        · exact if_pos rfl
      unfold s_cn
      rw [e, e, e, e]
      rfl
    | succ k ih =>
      intro hk
      obtain ⟨D, hD, ed⟩ := hc k (by omega)
      have hs : ∀ x, s_oc c (k + 1) x = s_oc c k x + (if c k = x then 1 else 0) := fun x => s_oc_s (by omega) (fun q hq => hd q k (by omega) (by omega) (by omega)) (by rw [ed]; exact s_none_ne (by omega))
      have hf := List.all_eq_true.mp (List.all_eq_true.mp (List.all_eq_true.mp (List.all_eq_true.mp s_adj_fin (W - 2) (List.mem_range.mpr (by omega))) (H - 2) (List.mem_range.mpr (by omega))) C (List.mem_range.mpr (by omega))) D (List.mem_range.mpr (by omega))
      rw [show W - 2 + 2 = W by omega, show H - 2 + 2 = H by omega] at hf
      unfold s_adjf at hf
      rw [Bool.or_eq_true, Bool.or_eq_true] at hf
      rcases hf with hf | hf | hf
      · exact absurd hC (of_decide_eq_true hf)
      · exact absurd hD (of_decide_eq_true hf)
      · have hf := of_decide_eq_true hf
        rw [s_nx_app, Nat.zero_add, ih (by omega)]
        unfold s_cn s_adj
        rw [hs, hs, hs, hs, s_add4, hX k (by omega), hX p hp, hY k (by omega), hY p hp, ec, ed, hf]
  exact key n (Nat.le_refl _)
theorem s_fl_1 {pr : Int32} {X Y : Nat → Int32} {n : Nat} : ∀ k i mo fl j, (s_fl pr X Y n k i mo fl).1 j = if (i ≤ j ∧ j < i + k) ∧ (¬ mo j = 0 ∧ ¬ s_nx X Y j n 0 0 < pr) then s_fo (mo j) else mo j
  | 0, i, mo, fl, j => by
    rw [if_neg (fun z => by omega)]
    rfl
  | k + 1, i, mo, fl, j => by
    unfold s_fl
    by_cases h1 : mo i = 0
    · rw [if_pos h1, s_fl_1 k (i + 1) mo fl j]
      by_cases e : j = i
      · subst e
        rw [if_neg (fun z => by omega), if_neg (fun z => z.2.1 h1)]
      · have q : ((i + 1 ≤ j ∧ j < i + 1 + k) ∧ (¬ mo j = 0 ∧ ¬ s_nx X Y j n 0 0 < pr)) = ((i ≤ j ∧ j < i + (k + 1)) ∧ (¬ mo j = 0 ∧ ¬ s_nx X Y j n 0 0 < pr)) := propext ⟨fun z => ⟨by omega, z.2⟩, fun z => ⟨by omega, z.2⟩⟩
        simp only [q]
    · rw [if_neg h1]
      by_cases h2 : s_nx X Y i n 0 0 < pr
      · rw [if_pos h2, s_fl_1 k (i + 1) mo fl j]
        by_cases e : j = i
        · subst e
          rw [if_neg (fun z => by omega), if_neg (fun z => z.2.2 h2)]
        · have q : ((i + 1 ≤ j ∧ j < i + 1 + k) ∧ (¬ mo j = 0 ∧ ¬ s_nx X Y j n 0 0 < pr)) = ((i ≤ j ∧ j < i + (k + 1)) ∧ (¬ mo j = 0 ∧ ¬ s_nx X Y j n 0 0 < pr)) := propext ⟨fun z => ⟨by omega, z.2⟩, fun z => ⟨by omega, z.2⟩⟩
          simp only [q]
      · rw [if_neg h2, s_fl_1 k (i + 1) _ _ j]
        by_cases e : j = i
        · subst e
          rw [if_neg (fun z => by omega), s_set_i, if_pos ⟨by omega, h1, h2⟩]
        · rw [s_set_ne _ _ e]
          have q : ((i + 1 ≤ j ∧ j < i + 1 + k) ∧ (¬ mo j = 0 ∧ ¬ s_nx X Y j n 0 0 < pr)) = ((i ≤ j ∧ j < i + (k + 1)) ∧ (¬ mo j = 0 ∧ ¬ s_nx X Y j n 0 0 < pr)) := propext ⟨fun z => ⟨by omega, z.2⟩, fun z => ⟨by omega, z.2⟩⟩
          simp only [q]
theorem s_fl_2 {pr : Int32} {X Y : Nat → Int32} {n : Nat} : ∀ k i mo fl, i + k ≤ 6 → ((s_fl pr X Y n k i mo fl).2 = 0 ↔ fl = 0 ∧ ∀ j, i ≤ j → j < i + k → ¬ (¬ mo j = 0 ∧ ¬ s_nx X Y j n 0 0 < pr))
  | 0, i, mo, fl, _ => ⟨fun h => ⟨h, fun j h1 h2 => by omega⟩, fun h => h.1⟩
  | k + 1, i, mo, fl, hk => by
    have no : ¬ (¬ mo i = 0 ∧ ¬ s_nx X Y i n 0 0 < pr) → ((fl = 0 ∧ ∀ j, i + 1 ≤ j → j < i + 1 + k → ¬ (¬ mo j = 0 ∧ ¬ s_nx X Y j n 0 0 < pr)) ↔ (fl = 0 ∧ ∀ j, i ≤ j → j < i + (k + 1) → ¬ (¬ mo j = 0 ∧ ¬ s_nx X Y j n 0 0 < pr))) := fun hn => ⟨fun z => ⟨z.1, fun j h1 h2 => by
      by_cases e : j = i
      · rw [e]
        exact hn
      · exact z.2 j (by omega) (by omega)⟩, fun z => ⟨z.1, fun j h1 h2 => z.2 j (by omega) (by omega)⟩⟩
    unfold s_fl
    by_cases h1 : mo i = 0
    · rw [if_pos h1, s_fl_2 k (i + 1) mo fl (by omega)]
      exact no (fun z => z.1 h1)
    · rw [if_neg h1]
      by_cases h2 : s_nx X Y i n 0 0 < pr
      · rw [if_pos h2, s_fl_2 k (i + 1) mo fl (by omega)]
        exact no (fun z => z.2 h2)
      · rw [if_neg h2, s_fl_2 k (i + 1) _ _ (by omega)]
        constructor
        · intro z
          have h3 := (s_bit_or (t := fl) (M := i) (N := i) (by omega) (by omega)).mp (by rw [z.1]; exact s_bit_0 _)
          exact absurd rfl h3.2
        · intro z
          exact absurd ⟨h1, h2⟩ (z.2 i (Nat.le_refl _) (by omega))
theorem s_ra_0 {fl : Nat → Int32} : ∀ k i an, s_ra fl k i an = 0 ↔ an = 0 ∧ ∀ j, i ≤ j → j < i + k → ¬ fl j = 1
  | 0, i, an => ⟨fun h => ⟨h, fun j h1 h2 => by omega⟩, fun h => h.1⟩
  | k + 1, i, an => by
    unfold s_ra
    rw [s_ra_0 k (i + 1) _]
    by_cases h1 : an = 0
    · rw [if_pos h1]
      by_cases h2 : fl i = 1
      · rw [if_pos h2]
        exact ⟨fun z => absurd z.1 (by decide), fun z => absurd h2 (z.2 i (Nat.le_refl _) (by omega))⟩
      · rw [if_neg h2]
        exact ⟨fun z => ⟨h1, fun j a b => by
          by_cases e : j = i
          · rw [e]
            exact h2
          · exact z.2 j (by omega) (by omega)⟩, fun z => ⟨rfl, fun j a b => z.2 j (by omega) (by omega)⟩⟩
    · rw [if_neg h1]
      exact ⟨fun z => absurd z.1 (by decide), fun z => absurd z.1 h1⟩
theorem s_fo_fd {x : Int32} (h : x = 0 ∨ x = 1 ∨ x = 2 ∨ x = 3) : s_fo x = s_fd x := by
  rcases h with h | h | h | h <;> (rw [h]; decide)
theorem s_fd_4 {x : Int32} (h : x = 0 ∨ x = 1 ∨ x = 2 ∨ x = 3) : s_fd x = 0 ∨ s_fd x = 1 ∨ s_fd x = 2 ∨ s_fd x = 3 := by
  rcases h with h | h | h | h <;> (rw [h]; decide)
