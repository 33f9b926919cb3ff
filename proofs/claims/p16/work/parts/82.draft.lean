/-! THE DRAFT in order: what its numbers are. -/
def k_dm (r : qM) : Prop := (∃ W H, 2 ≤ W ∧ W ≤ 5 ∧ 2 ≤ H ∧ H ≤ 5 ∧ r 70 6 = Int32.ofNat W ∧ r 70 7 = Int32.ofNat H) ∧ (∀ p, p < t_n r → (∃ C, C < 25 ∧ r 73 p = Int32.ofNat C) ∧ (r 73 (5 + p) = 0 ∨ r 73 (5 + p) = 1 ∨ r 73 (5 + p) = 2 ∨ r 73 (5 + p) = 3) ∧ (r 73 (10 + p) = 0 ∨ r 73 (10 + p) = 1)) ∧ (∀ p q, p < t_n r → q < t_n r → p ≠ q → r 73 p ≠ r 73 q) ∧ (∀ p, p < t_n r → s_bit (r 73 20) (r 73 p) = 0) ∧ (∀ q, q < 5 → r 73 (15 + q) = Int32.ofInt (-4) ∨ ∃ C, C < 25 ∧ r 73 (15 + q) = Int32.ofNat C) ∧ (∀ c, 25 ≤ c → (r 73 20).toBitVec.getLsbD c = false) ∧ (∀ N : Nat, (r 70 10).toInt < N ↔ (∀ p, p < t_n r → (r 73 p).toInt < N) ∧ (∀ q, q < 5 → (r 73 (15 + q)).toInt < N) ∧ ∀ c, c < 25 → ¬ s_bit (r 73 20) (Int32.ofNat c) = 0 → c < N) ∧ (∀ n : Nat, (r 70 11).toInt < n ↔ ∀ q, q < 5 → r 73 (15 + q) ≠ Int32.ofInt (-4) → q < n) ∧ (∀ q, q < 5 → r 73 (5 + q) = 0 ∨ r 73 (5 + q) = 1 ∨ r 73 (5 + q) = 2 ∨ r 73 (5 + q) = 3) ∧ r 73 26 = 0 ∧ r 73 27 = 0
theorem k_dm.o {r r' : qM} (h : k_dm r) (hn : k_dn r) (h6 : r' 70 6 = r 70 6) (h7 : r' 70 7 = r 70 7) (h8 : r' 70 8 = r 70 8) (h10 : r' 70 10 = r 70 10) (h11 : r' 70 11 = r 70 11) (h73 : ∀ j, j ≤ 20 ∨ j = 26 ∨ j = 27 → r' 73 j = r 73 j) : k_dm r' := by
  have e : t_n r' = t_n r := by unfold t_n; rw [h8]
  have h5 := hn.2.1
  obtain ⟨d1, d2, d3, d4, d5, d6, d7, d8, d9, d10⟩ := h
  unfold k_dm
  rw [e, h6, h7, h10, h11, h73 20 (by omega)]
  refine ⟨d1, fun p hp => ?_, fun p q hp hq => ?_, fun p hp => ?_, fun q hq => ?_, d6, fun N => ?_, fun n => ?_, fun q hq => ?_, ?_⟩
  · rw [h73 p (by omega), h73 (5 + p) (by omega), h73 (10 + p) (by omega)]
    exact d2 p hp
  · rw [h73 p (by omega), h73 q (by omega)]
    exact d3 p q hp hq
  · rw [h73 p (by omega)]
    exact d4 p hp
  · rw [h73 (15 + q) (by omega)]
    exact d5 q hq
  · rw [d7 N]
    refine ⟨fun z => ⟨fun p hp => ?_, fun q hq => ?_, z.2.2⟩, fun z => ⟨fun p hp => ?_, fun q hq => ?_, z.2.2⟩⟩
    · rw [h73 p (by omega)]; exact z.1 p hp
    · rw [h73 (15 + q) (by omega)]; exact z.2.1 q hq
    · rw [← h73 p (by omega)]; exact z.1 p hp
    · rw [← h73 (15 + q) (by omega)]; exact z.2.1 q hq
  · rw [d8 n]
    refine ⟨fun z q hq y => ?_, fun z q hq y => ?_⟩
    · rw [h73 (15 + q) (by omega)] at y; exact z q hq y
    · rw [← h73 (15 + q) (by omega)] at y; exact z q hq y
  · rw [h73 (5 + q) (by omega)]
    exact d9 q hq
  · rw [h73 26 (by omega), h73 27 (by omega)]
    exact d10
theorem t_max_lt {x y : Int32} {N : Int} : (t_max x y).toInt < N ↔ x.toInt < N ∧ y.toInt < N := by
  unfold t_max
  by_cases e : y ≤ x
  · rw [if_pos e]
    have := Int32.le_iff_toInt_le.mp e
    omega
  · rw [if_neg e]
    have : ¬ y.toInt ≤ x.toInt := fun z => e (Int32.le_iff_toInt_le.mpr z)
    omega
theorem k_nat {v : Int32} {a b : Nat} (hb : b < 1000) (ha : a < 1000) (h : ¬ v < Int32.ofNat a ∧ ¬ Int32.ofNat b < v) : ∃ n, a ≤ n ∧ n ≤ b ∧ v = Int32.ofNat n := by
  rw [Int32.lt_iff_toInt_lt, Int32.lt_iff_toInt_lt, q_nat (by omega), q_nat (by omega)] at h
  exact ⟨v.toInt.toNat, by omega, by omega, q_of (by omega)⟩
theorem k_m4 : (Int32.ofInt (-4)).toInt = -4 := by decide
theorem k_dm.wall {r : qM} {C : Nat} (h : k_dm r) (hn : k_dn r) (hC : C < 25) (hb : s_bit (r 73 20) (Int32.ofNat C) = 0) (hh : t_hit (r 73) (Int32.ofNat C) (t_n r) = 0) : k_dm (q_up (q_up r 70 10 (t_max (r 70 10) (Int32.ofNat C))) 73 20 (r 73 20 ||| ((1 : Int32) <<< (Int32.ofNat C &&& 31)))) := by
  have h5 := hn.2.1
  obtain ⟨d1, d2, d3, d4, d5, d6, d7, d8, d9, d10⟩ := h
  rw [t_hit_0] at hh
  have e73 : ∀ j, j < 20 → q_up (q_up r 70 10 (t_max (r 70 10) (Int32.ofNat C))) 73 20 (r 73 20 ||| ((1 : Int32) <<< (Int32.ofNat C &&& 31))) 73 j = r 73 j := fun j hj => by
    rw [q_up_at, if_neg (by omega), q_up_ne (by decide)]
  have e20 : q_up (q_up r 70 10 (t_max (r 70 10) (Int32.ofNat C))) 73 20 (r 73 20 ||| ((1 : Int32) <<< (Int32.ofNat C &&& 31))) 73 20 = (r 73 20 ||| ((1 : Int32) <<< (Int32.ofNat C &&& 31))) := rfl
  refine ⟨d1, fun p hp => ?_, fun p q hp hq => ?_, fun p hp => ?_, fun q hq => ?_, fun c hc => ?_, fun N => ?_, fun n => ?_, fun q hq => ?_, ?_⟩
  · have hp : p < t_n r := hp
    rw [e73 p (by omega), e73 (5 + p) (by omega), e73 (10 + p) (by omega)]
    exact d2 p hp
  · have hp : p < t_n r := hp
    have hq : q < t_n r := hq
    rw [e73 p (by omega), e73 q (by omega)]
    exact d3 p q hp hq
  · have hp : p < t_n r := hp
    rw [e73 p (by omega), e20]
    obtain ⟨D, hD, eD⟩ := (d2 p hp).1
    have z := d4 p hp
    rw [eD] at z ⊢
    refine (s_bit_or hC hD).mpr ⟨z, fun y => hh p hp ?_⟩
    rw [eD, y]
  · rw [e73 (15 + q) (by omega)]
    exact d5 q hq
  · rw [e20, Int32.toBitVec_or, BitVec.getLsbD_or, d6 c hc]
    have z : (List.range 25).all (fun C => (List.range 7).all (fun i => decide (((1 : Int32) <<< (Int32.ofNat C &&& 31)).toBitVec.getLsbD (25 + i) = false))) = true := by decide +kernel
    rcases Nat.lt_or_ge c 32 with y | y
    · have := of_decide_eq_true (List.all_eq_true.mp (List.all_eq_true.mp z C (List.mem_range.mpr hC)) (c - 25) (List.mem_range.mpr (by omega)))
      rw [show 25 + (c - 25) = c by omega] at this
      rw [this]
      rfl
    · rw [BitVec.getLsbD_of_ge _ _ y]
      rfl
  · show (t_max (r 70 10) (Int32.ofNat C)).toInt < (N : Int) ↔ _
    rw [t_max_lt, d7 N, q_nat (by omega), e20]
    refine ⟨fun z => ⟨fun p hp => ?_, fun q hq => ?_, fun c hc hx => ?_⟩, fun z => ⟨⟨fun p hp => ?_, fun q hq => ?_, fun c hc hx => ?_⟩, ?_⟩⟩
    · have hp : p < t_n r := hp
      rw [e73 p (by omega)]; exact z.1.1 p hp
    · rw [e73 (15 + q) (by omega)]; exact z.1.2.1 q hq
    · by_cases e : c = C
      · omega
      · exact z.1.2.2 c hc (fun y => hx ((s_bit_or hC hc).mpr ⟨y, e⟩))
    · rw [← e73 p (by omega)]; exact z.1 p hp
    · rw [← e73 (15 + q) (by omega)]; exact z.2.1 q hq
    · exact z.2.2 c hc (fun y => hx ((s_bit_or hC hc).mp y).1)
    · have := z.2.2 C hC (fun y => ((s_bit_or hC hC).mp y).2 rfl)
      omega
  · show (r 70 11).toInt < (n : Int) ↔ _
    rw [d8 n]
    refine ⟨fun z q hq y => ?_, fun z q hq y => ?_⟩
    · rw [e73 (15 + q) (by omega)] at y; exact z q hq y
    · rw [← e73 (15 + q) (by omega)] at y; exact z q hq y
  · rw [e73 (5 + q) (by omega)]
    exact d9 q hq
  · exact d10
theorem k_dm.one {r : qM} {C : Nat} {m st : Int32} (h : k_dm r) (hn : k_dn r) (hlt : t_n r < 5) (hC : C < 25) (hb : s_bit (r 73 20) (Int32.ofNat C) = 0) (hh : t_hit (r 73) (Int32.ofNat C) (t_n r) = 0) (hm : m = 0 ∨ m = 1 ∨ m = 2 ∨ m = 3) (hst : st = 0 ∨ st = 1) : k_dm (q_up (q_up (q_up (q_up (q_up r 70 10 (t_max (r 70 10) (Int32.ofNat C))) 73 (t_n r) (Int32.ofNat C)) 73 (5 + t_n r) m) 73 (10 + t_n r) st) 70 8 (r 70 8 + 1)) := by
  obtain ⟨d1, d2, d3, d4, d5, d6, d7, d8, d9, d10⟩ := h
  rw [t_hit_0] at hh
  generalize er : q_up (q_up (q_up (q_up (q_up r 70 10 (t_max (r 70 10) (Int32.ofNat C))) 73 (t_n r) (Int32.ofNat C)) 73 (5 + t_n r) m) 73 (10 + t_n r) st) 70 8 (r 70 8 + 1) = r'
  have en : t_n r' = t_n r + 1 := by
    rw [← er]
    show (r 70 8 + 1).toInt.toNat = t_n r + 1
    rw [hn.1, k_n1 (by omega)]
  have e73 : ∀ j, r' 73 j = if j = 10 + t_n r then st else if j = 5 + t_n r then m else if j = t_n r then Int32.ofNat C else r 73 j := fun j => by
    rw [← er, q_up_ne (by decide), q_up_at, q_up_at, q_up_at, q_up_ne (by decide)]
  have e0 : ∀ p, p < t_n r → r' 73 p = r 73 p := fun p hp => by
    rw [e73, if_neg (by omega), if_neg (by omega), if_neg (by omega)]
  have en0 : r' 73 (t_n r) = Int32.ofNat C := by
    rw [e73, if_neg (by omega), if_neg (by omega), if_pos rfl]
  have eg : ∀ j, 15 ≤ j → r' 73 j = r 73 j := fun j hj => by
    rw [e73, if_neg (by omega), if_neg (by omega), if_neg (by omega)]
  have e6 : r' 70 6 = r 70 6 := by rw [← er]; rfl
  have e7 : r' 70 7 = r 70 7 := by rw [← er]; rfl
  have e10 : r' 70 10 = t_max (r 70 10) (Int32.ofNat C) := by rw [← er]; rfl
  have e11 : r' 70 11 = r 70 11 := by rw [← er]; rfl
  unfold k_dm
  rw [e6, e7, e10, e11, eg 20 (by omega), en]
  refine ⟨d1, fun p hp => ?_, fun p q hp hq hpq => ?_, fun p hp => ?_, fun q hq => ?_, d6, fun N => ?_, fun n => ?_, fun q hq => ?_, ?_⟩
  · by_cases e : p = t_n r
    · subst e
      rw [en0, e73 (5 + t_n r), if_neg (by omega), if_pos rfl, e73 (10 + t_n r), if_pos rfl]
      exact ⟨⟨C, hC, rfl⟩, hm, hst⟩
    · rw [e0 p (by omega), e73 (5 + p), if_neg (by omega), if_neg (by omega), if_neg (by omega), e73 (10 + p), if_neg (by omega), if_neg (by omega), if_neg (by omega)]
      exact d2 p (by omega)
  · by_cases e : p = t_n r
    · subst e
      rw [en0, e0 q (by omega)]
      exact fun y => hh q (by omega) y.symm
    · by_cases e2 : q = t_n r
      · subst e2
        rw [en0, e0 p (by omega)]
        exact hh p (by omega)
      · rw [e0 p (by omega), e0 q (by omega)]
        exact d3 p q (by omega) (by omega) hpq
  · by_cases e : p = t_n r
    · subst e
      rw [en0]
      exact hb
    · rw [e0 p (by omega)]
      exact d4 p (by omega)
  · rw [eg (15 + q) (by omega)]
    exact d5 q hq
  · rw [t_max_lt, d7 N, q_nat (by omega)]
    refine ⟨fun z => ⟨fun p hp => ?_, fun q hq => ?_, z.1.2.2⟩, fun z => ⟨⟨fun p hp => ?_, fun q hq => ?_, z.2.2⟩, ?_⟩⟩
    · by_cases e : p = t_n r
      · subst e
        rw [en0, q_nat (by omega)]
        omega
      · rw [e0 p (by omega)]
        exact z.1.1 p (by omega)
    · rw [eg (15 + q) (by omega)]
      exact z.1.2.1 q hq
    · rw [← e0 p hp]
      exact z.1 p (by omega)
    · rw [← eg (15 + q) (by omega)]
      exact z.2.1 q hq
    · have := z.1 (t_n r) (by omega)
      rw [en0, q_nat (by omega)] at this
      omega
  · rw [d8 n]
    refine ⟨fun z q hq y => ?_, fun z q hq y => ?_⟩
    · rw [eg (15 + q) (by omega)] at y; exact z q hq y
    · rw [← eg (15 + q) (by omega)] at y; exact z q hq y
  · rw [e73 (5 + q), if_neg (by omega)]
    by_cases e : q = t_n r
    · subst e
      rw [if_pos rfl]
      exact hm
    · rw [if_neg (by omega), if_neg (by omega)]
      exact d9 q hq
  · rw [eg 26 (by omega), eg 27 (by omega)]
    exact d10
theorem k_dm.goal {r : qM} {C v : Nat} (h : k_dm r) (hn : k_dn r) (hC : C < 25) (hv : v < 5) (hg : r 73 (15 + v) = Int32.ofInt (-4)) : k_dm (q_up (q_up (q_up r 70 11 (t_max (r 70 11) (Int32.ofNat v))) 70 10 (t_max (r 70 10) (Int32.ofNat C))) 73 (15 + v) (Int32.ofNat C)) := by
  have h5 := hn.2.1
  obtain ⟨d1, d2, d3, d4, d5, d6, d7, d8, d9, d10⟩ := h
  generalize er : q_up (q_up (q_up r 70 11 (t_max (r 70 11) (Int32.ofNat v))) 70 10 (t_max (r 70 10) (Int32.ofNat C))) 73 (15 + v) (Int32.ofNat C) = r'
  have en : t_n r' = t_n r := by rw [← er]; rfl
  have e73 : ∀ j, r' 73 j = if j = 15 + v then Int32.ofNat C else r 73 j := fun j => by
    rw [← er, q_up_at, q_up_ne (by decide), q_up_ne (by decide)]
  have e0 : ∀ j, j ≠ 15 + v → r' 73 j = r 73 j := fun j hj => by rw [e73, if_neg hj]
  have ev : r' 73 (15 + v) = Int32.ofNat C := by rw [e73, if_pos rfl]
  have e6 : r' 70 6 = r 70 6 := by rw [← er]; rfl
  have e7 : r' 70 7 = r 70 7 := by rw [← er]; rfl
  have e10 : r' 70 10 = t_max (r 70 10) (Int32.ofNat C) := by rw [← er]; rfl
  have e11 : r' 70 11 = t_max (r 70 11) (Int32.ofNat v) := by rw [← er]; rfl
  have nC : ¬ Int32.ofNat C = Int32.ofInt (-4) := fun y => by
    have := congrArg Int32.toInt y
    rw [q_nat (by omega), k_m4] at this
    omega
  unfold k_dm
  rw [e6, e7, e10, e11, e0 20 (by omega), en]
  refine ⟨d1, fun p hp => ?_, fun p q hp hq => ?_, fun p hp => ?_, fun q hq => ?_, d6, fun N => ?_, fun n => ?_, fun q hq => ?_, ?_⟩
  · rw [e0 p (by omega), e0 (5 + p) (by omega), e0 (10 + p) (by omega)]
    exact d2 p hp
  · rw [e0 p (by omega), e0 q (by omega)]
    exact d3 p q hp hq
  · rw [e0 p (by omega)]
    exact d4 p hp
  · by_cases e : q = v
    · rw [e, ev]
      exact Or.inr ⟨C, hC, rfl⟩
    · rw [e0 (15 + q) (by omega)]
      exact d5 q hq
  · rw [t_max_lt, d7 N, q_nat (by omega)]
    refine ⟨fun z => ⟨fun p hp => ?_, fun q hq => ?_, z.1.2.2⟩, fun z => ⟨⟨fun p hp => ?_, fun q hq => ?_, z.2.2⟩, ?_⟩⟩
    · rw [e0 p (by omega)]; exact z.1.1 p hp
    · by_cases e : q = v
      · rw [e, ev, q_nat (by omega)]
        omega
      · rw [e0 (15 + q) (by omega)]; exact z.1.2.1 q hq
    · rw [← e0 p (by omega)]; exact z.1 p hp
    · by_cases e : q = v
      · rw [e, hg, k_m4]
        omega
      · rw [← e0 (15 + q) (by omega)]; exact z.2.1 q hq
    · have := z.2.1 v hv
      rw [ev, q_nat (by omega)] at this
      omega
  · rw [t_max_lt, d8 n, q_nat (by omega)]
    refine ⟨fun z q hq y => ?_, fun z => ⟨fun q hq y => ?_, ?_⟩⟩
    · by_cases e : q = v
      · omega
      · rw [e0 (15 + q) (by omega)] at y
        exact z.1 q hq y
    · by_cases e : q = v
      · rw [e] at y
        exact absurd hg y
      · rw [← e0 (15 + q) (by omega)] at y
        exact z q hq y
    · have := z v hv (by rw [ev]; exact nC)
      omega
  · rw [e0 (5 + q) (by omega)]
    exact d9 q hq
  · rw [e0 26 (by omega), e0 27 (by omega)]
    exact d10
/-! outcomes keep the draft in order -/
def k_om (o : tO) : Prop := o.1 = 0 → k_dm o.2.2.2
theorem k_om_bad {a : Nat} {e : Int32} {r : qM} (he : ¬ e = 0) : k_om (o_bad e a r) := fun z => absurd z he
theorem k_om_ok {p : Nat} {r : qM} (h : k_dm r) : k_om (o_ok p r) := fun _ => h
theorem k_om_num {b : Nat → Int32} {s p : Nat} {lo hi : Int32} {r : qM} {k : Int32 → Nat → tO} (h : ¬ t_va b s p < lo ∧ ¬ hi < t_va b s p → k_om (k (t_va b s p) (t_pl b s p))) : k_om (o_num b s p lo hi r k) := by
  unfold o_num
  by_cases e : t_er b s p lo hi = 0
  · rw [if_pos e]
    exact h (t_er_rng e)
  · rw [if_neg e]
    exact k_om_bad e
theorem k_om_town {b : Nat → Int32} {s f p : Nat} {r : qM} (h : k_dm r) (hn : k_dn r) : k_om (o_town b s f p r) := by
  unfold o_town
  split
  · refine k_om_num (fun h1 => k_om_num (fun h2 => k_om_ok ?_))
    obtain ⟨W, w1, w2, w3⟩ := k_nat (a := 2) (b := 5) (by omega) (by omega) h1
    obtain ⟨H, w4, w5, w6⟩ := k_nat (a := 2) (b := 5) (by omega) (by omega) h2
    exact ⟨⟨W, H, w1, w2, w4, w5, w3, w6⟩, h.2⟩
  · exact k_om_bad (by decide)
theorem k_om_press {b : Nat → Int32} {s f p : Nat} {r : qM} (h : k_dm r) (hn : k_dn r) : k_om (o_press b s f p r) := by
  unfold o_press
  split
  · refine k_om_num (fun h1 => k_om_ok (h.o hn rfl rfl rfl rfl rfl (fun j hj => ?_)))
    rw [q_up_at, if_neg (by omega)]
    rfl
  · exact k_om_bad (by decide)
theorem k_om_pull {b : Nat → Int32} {s f p : Nat} {r : qM} (h : k_dm r) (hn : k_dn r) : k_om (o_pull b s f p r) := by
  unfold o_pull
  split
  · refine k_om_num (fun h1 => k_om_num (fun h1 => k_om_num (fun h1 => k_om_num (fun h1 => k_om_ok (h.o hn rfl rfl rfl rfl rfl (fun j hj => ?_))))))
    rw [q_up_at, if_neg (by omega), q_up_at, if_neg (by omega), q_up_at, if_neg (by omega), q_up_at, if_neg (by omega)]
    rfl
  · exact k_om_bad (by decide)
theorem k_om_free {b : Nat → Int32} {s p : Nat} {r : qM} {k : Int32 → Nat → qM → tO} (h : ∀ C, C < 25 → s_bit (r 73 20) (Int32.ofNat C) = 0 → t_hit (r 73) (Int32.ofNat C) (t_n r) = 0 → k_om (k (Int32.ofNat C) (t_pl b s p) (q_up r 70 10 (t_max (r 70 10) (Int32.ofNat C))))) : k_om (o_free b s p r k) := by
  unfold o_free
  refine k_om_num (fun h1 => ?_)
  obtain ⟨C, w1, w2, w3⟩ := k_nat (a := 0) (b := 24) (by omega) (by omega) h1
  rw [w3]
  split
  · rename_i e1
    split
    · rename_i e2
      exact h C (by omega) e1 e2
    · exact k_om_bad (by decide)
  · exact k_om_bad (by decide)
theorem k_om_wall {b : Nat → Int32} {s p : Nat} {r : qM} (h : k_dm r) (hn : k_dn r) : k_om (o_wall b s p r) := k_om_free (fun C hC e1 e2 => k_om_ok (h.wall hn hC e1 e2))
theorem k_om_one {b : Nat → Int32} {s f p : Nat} {r : qM} {st : Int32} (h : k_dm r) (hn : k_dn r) (hst : st = 0 ∨ st = 1) : k_om (o_one b s f p r st) := by
  unfold o_one
  by_cases e : r 70 8 < 5
  · rw [if_pos e]
    refine k_om_free (fun C hC e1 e2 => k_om_num (fun h1 => k_om_ok ?_))
    obtain ⟨M, w1, w2, w3⟩ := k_nat (a := 0) (b := 3) (by omega) (by omega) h1
    refine h.one hn (k_n5 hn e) hC e1 e2 ?_ hst
    rw [w3]
    rcases (show M = 0 ∨ M = 1 ∨ M = 2 ∨ M = 3 by omega) with e | e | e | e
    · exact Or.inl (by rw [e]; rfl)
    · exact Or.inr (Or.inl (by rw [e]; rfl))
    · exact Or.inr (Or.inr (Or.inl (by rw [e]; rfl)))
    · exact Or.inr (Or.inr (Or.inr (by rw [e]; rfl)))
  · rw [if_neg e]
    exact k_om_bad (by decide)
theorem k_om_goal {b : Nat → Int32} {s p : Nat} {r : qM} (h : k_dm r) (hn : k_dn r) : k_om (o_goal b s p r) := by
  unfold o_goal
  refine k_om_num (fun h1 => ?_)
  obtain ⟨v, w1, w2, w3⟩ := k_nat (a := 0) (b := 4) (by omega) (by omega) h1
  have ev : (Int32.ofNat v).toInt.toNat = v := by rw [q_nat (by omega)]; rfl
  rw [w3, ev]
  split
  · rename_i e1
    refine k_om_num (fun h2 => k_om_ok ?_)
    obtain ⟨C, w4, w5, w6⟩ := k_nat (a := 0) (b := 24) (by omega) (by omega) h2
    rw [w6]
    exact h.goal hn (by omega) (by omega) e1
  · exact k_om_bad (by decide)
theorem k_om_line {b : Nat → Int32} {s f p : Nat} {k : Int32} {r : qM} (h : k_dm r) (hn : k_dn r) : k_om (o_line b s f p k r) := by
  unfold o_line
  by_cases e0 : k = 0
  · rw [if_pos e0]
    exact k_om_bad (by decide)
  rw [if_neg e0]
  by_cases e1 : k = 1
  · rw [if_pos e1]
    by_cases x0 : t_ln b f (p - f) = 0
    · rw [if_pos x0]
      exact k_om_town h hn
    rw [if_neg x0]
    by_cases x1 : t_ln b f (p - f) = 1
    · rw [if_pos x1]
      exact k_om_pull h hn
    rw [if_neg x1]
    by_cases x2 : t_ln b f (p - f) = 2
    · rw [if_pos x2]
      exact k_om_press h hn
    rw [if_neg x2]
    by_cases x3 : t_ln b f (p - f) = 3
    · rw [if_pos x3]
      exact k_om_wall h hn
    rw [if_neg x3]
    by_cases x4 : t_ln b f (p - f) = 4
    · rw [if_pos x4]
      exact k_om_one h hn (Or.inl rfl)
    rw [if_neg x4]
    by_cases x5 : t_ln b f (p - f) = 5
    · rw [if_pos x5]
      exact k_om_one h hn (Or.inr rfl)
    rw [if_neg x5]
    by_cases x6 : t_ln b f (p - f) = 6
    · rw [if_pos x6]
      exact k_om_goal h hn
    rw [if_neg x6]
    exact k_om_bad (by decide)
  · rw [if_neg e1]
    exact k_om_bad (by decide)
theorem k_om_fin {b : Nat → Int32} {s : Nat} {o : tO} (h : k_om o) : k_om (o_fin b s o) := by
  unfold o_fin
  by_cases e : o.1 = 0
  · rw [if_pos e]
    split
    · exact k_om_ok (h e)
    · rename_i e2
      exact k_om_bad e2
  · rw [if_neg e]
    exact h
/-! the tape's outcome keeps the draft in order -/
theorem k_tp {b : Nat → Int32} {s : Nat} : ∀ k p m r, k_dn r → k_dm r → p ≤ s → (o_tape b s k p m r).1.1 = 0 → k_dn (o_tape b s k p m r).1.2.2.2 ∧ k_dm (o_tape b s k p m r).1.2.2.2 := by
  intro k
  induction k with
  | zero =>
    intro p m r hn hm hp _
    exact ⟨hn, hm⟩
  | succ k ih =>
    intro p m r hn hm hp
    unfold o_tape
    by_cases e : t_ki b s p = 4
    · rw [if_pos e]
      exact fun _ => ⟨hn, hm⟩
    · rw [if_neg e]
      have hp2 := (t_pl_b (b := b) hp).2.1
      by_cases e2 : (o_fin b s (o_line b s (t_fi b s p) (t_pl b s p) (t_ki b s p) r)).1 = 0
      · rw [if_pos e2]
        have z := k_on_fin (b := b) (k_on_line (b := b) (f := t_fi b s p) (k := t_ki b s p) hn hp2) e2
        exact ih _ _ _ z.1 (k_om_fin (k_om_line hm hn) e2) z.2.2
      · rw [if_neg e2]
        exact fun z => absurd z e2
/-- the first draft -/
def t_r0 : qM := fun a j => if a = 73 then (if (15 ≤ j ∧ j < 20) ∨ j < 5 then i_none else if 21 ≤ j ∧ j ≤ 24 then Int32.ofNat (25 - j) else 0) else if a = 70 then (if j = 6 ∨ j = 7 then 3 else if j = 10 ∨ j = 11 then i_none else 0) else 0
theorem k_dn0 : k_dn t_r0 := ⟨rfl, Nat.zero_le _, 0, by omega, rfl⟩
theorem t_n0 : t_n t_r0 = 0 := rfl
theorem k_dm0 : k_dm t_r0 := by
  have z : ∀ c, c < 25 → s_bit (t_r0 73 20) (Int32.ofNat c) = 0 := fun c hc => by
    rw [s_bit_l hc]
    show (0 : Int32).toBitVec.getLsbD c = false
    rw [show (0 : Int32).toBitVec = 0#32 from rfl, BitVec.getLsbD_zero]
  have g : ∀ q, q < 5 → t_r0 73 (15 + q) = Int32.ofInt (-4) := fun q hq => by
    show (if (73 : Nat) = 73 then (if (15 ≤ 15 + q ∧ 15 + q < 20) ∨ 15 + q < 5 then i_none else if 21 ≤ 15 + q ∧ 15 + q ≤ 24 then Int32.ofNat (25 - (15 + q)) else 0) else _) = _
    rw [if_pos rfl, if_pos (Or.inl (by omega))]
    rfl
  have hi : (t_r0 70 10).toInt = -4 := by decide
  have ho : (t_r0 70 11).toInt = -4 := by decide
  refine ⟨⟨3, 3, by omega, by omega, by omega, by omega, rfl, rfl⟩, fun p hp => absurd hp (Nat.not_lt_zero _), fun p q hp => absurd hp (Nat.not_lt_zero _), fun p hp => absurd hp (Nat.not_lt_zero _), fun q hq => Or.inl (g q hq), fun c hc => ?_, fun N => ?_, fun n => ?_, fun q hq => Or.inl ?_, rfl, rfl⟩
  · show (0 : Int32).toBitVec.getLsbD c = false
    rw [show (0 : Int32).toBitVec = 0#32 from rfl, BitVec.getLsbD_zero]
  · rw [hi]
    refine ⟨fun _ => ⟨fun p hp => absurd hp (Nat.not_lt_zero _), fun q hq => ?_, fun c hc y => absurd (z c hc) y⟩, fun _ => by omega⟩
    rw [g q hq, k_m4]
    omega
  · rw [ho]
    exact ⟨fun _ q hq y => absurd (g q hq) y, fun _ => by omega⟩
  · show (if (73 : Nat) = 73 then (if (15 ≤ 5 + q ∧ 5 + q < 20) ∨ 5 + q < 5 then i_none else if 21 ≤ 5 + q ∧ 5 + q ≤ 24 then Int32.ofNat (25 - (5 + q)) else 0) else _) = _
    rw [if_pos rfl, if_neg (by omega), if_neg (by omega)]
