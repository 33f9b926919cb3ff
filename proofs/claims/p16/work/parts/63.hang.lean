/-! HANG. -/
/-- one more, still, in the CELL c, of the MOOD m -/
def gh_ha (n c m : Nat) (r : qM) : qM := q_up (q_up (q_up (q_up (q_up r 75 n (Int32.ofNat c)) 76 n (Int32.ofNat m)) 77 n 1) 78 n i_none) 70 27 (Int32.ofNat (n + 1))
theorem w_who_none {n W H c : Nat} {r : qM} (h : w_ok n W H r) (hn : f_who n r (Int32.ofNat c) = i_none) : ∀ q, q < n → r 75 q ≠ Int32.ofNat c := fun q hq => by
  have h6 := h.1.2.2.2.2
  rcases s_w1_some (c := r 75) (x := Int32.ofNat c) n 0 (by omega) with ⟨h1, h2⟩ | ⟨q', h1, h2, h3, h4⟩
  · exact h2 q (Nat.zero_le _) (by omega)
  · unfold f_who at hn
    rw [h4] at hn
    exact absurd hn (s_none_ne (by omega))
theorem w_ok_ha {n W H c m : Nat} {r : qM} (h : w_ok n W H r) (h5 : n ≤ 5) (hc : c < W * H) (hw : s_bit (r 71 20) (Int32.ofNat c) = 0) (hn : f_who n r (Int32.ofNat c) = i_none) (hm : 1 ≤ m ∧ m ≤ 3) : w_ok (n + 1) W H (gh_ha n c m r) := by
  have hno := w_who_none h hn
  obtain ⟨⟨b1, b2, b3, b4, b5⟩, h1, h2, h3, h4, h5', h6, h7, h8⟩ := h
  have e75 : ∀ p, gh_ha n c m r 75 p = if p = n then Int32.ofNat c else r 75 p := fun p => by
    unfold gh_ha
    rw [q_up_ne (by omega), q_up_ne (by omega), q_up_ne (by omega), q_up_ne (by omega), q_up_at]
  have e76 : ∀ p, gh_ha n c m r 76 p = if p = n then Int32.ofNat m else r 76 p := fun p => by
    unfold gh_ha
    rw [q_up_ne (by omega), q_up_ne (by omega), q_up_ne (by omega), q_up_at, q_up_ne (by omega)]
  have e77 : ∀ p, gh_ha n c m r 77 p = if p = n then 1 else r 77 p := fun p => by
    unfold gh_ha
    rw [q_up_ne (by omega), q_up_ne (by omega), q_up_at, q_up_ne (by omega), q_up_ne (by omega)]
  refine ⟨⟨b1, b2, b3, b4, by omega⟩, rfl, h2, h3, fun p hp => ?_, fun p q hp hq hpq => ?_, fun p hp => ?_, fun p hp => ?_, fun p hp => ?_⟩
  · rw [e75]
    split
    · exact ⟨c, hc, rfl⟩
    · exact h4 p (by omega)
  · rw [e75, e75]
    by_cases z : p = n
    · rw [if_pos z, if_neg (by omega)]
      exact (hno q (by omega)).symm
    · rw [if_neg z]
      by_cases z' : q = n
      · rw [if_pos z']
        exact hno p (by omega)
      · rw [if_neg z']
        exact h5' p q (by omega) (by omega) hpq
  · rw [e75]
    show s_bit (r 71 20) _ = 0
    split
    · exact hw
    · exact h6 p (by omega)
  · rw [e76]
    split
    · rcases (show m = 1 ∨ m = 2 ∨ m = 3 by omega) with e | e | e <;> subst e
      · exact Or.inr (Or.inl rfl)
      · exact Or.inr (Or.inr (Or.inl rfl))
      · exact Or.inr (Or.inr (Or.inr rfl))
    · exact h7 p (by omega)
  · rw [e77]
    split
    · exact Or.inr rfl
    · exact h8 p (by omega)
/-- the class's trial with one more -/
def s_mor (n : Nat) (x y z : Int32) (g : qM) : qM := q_up (q_up (q_up (q_up g 36 n x) 37 n y) 38 n z) 35 3 (g 35 3 + 1)
theorem s_mor_fc {n : Nat} {x y z : Int32} {g : qM} : w_fc g (s_mor n x y z g) := by
  unfold s_mor
  exact ((((w_fc_rfl g).up (by omega)).up (by omega)).up (by omega)).up (by omega)
theorem w_cs_ha {n c m : Nat} {g r : qM} (hn : g 35 3 = Int32.ofNat n) (hc : w_cs 35 n g r) : w_cs 35 (n + 1) (s_mor n (Int32.ofNat c) (Int32.ofNat m) 1 (q_up g 39 n i_none)) (gh_ha n c m r) := by
  obtain ⟨⟨c1, c2, c3, c4, c5⟩, c6, c7⟩ := hc
  refine ⟨⟨?_, c2, c3, c4, c5⟩, fun d a b => c6 d a b, fun p hp => ⟨?_, ?_, ?_⟩⟩
  · show g 35 3 + 1 = Int32.ofNat (n + 1)
    rw [hn, q_succ]
  · unfold s_mor gh_ha
    rw [show 35 + 1 = 36 from rfl, q_up_ne (by omega), q_up_ne (by omega), q_up_ne (by omega), q_up_at, q_up_ne (by omega), q_up_ne (by omega), q_up_ne (by omega), q_up_ne (by omega), q_up_ne (by omega), q_up_at]
    by_cases e : p = n
    · rw [if_pos e, if_pos e]
    · rw [if_neg e, if_neg e]
      exact (c7 p (by omega)).1
  · unfold s_mor gh_ha
    rw [show 35 + 2 = 37 from rfl, q_up_ne (by omega), q_up_ne (by omega), q_up_at, q_up_ne (by omega), q_up_ne (by omega), q_up_ne (by omega), q_up_ne (by omega), q_up_ne (by omega), q_up_at, q_up_ne (by omega)]
    by_cases e : p = n
    · rw [if_pos e, if_pos e]
    · rw [if_neg e, if_neg e]
      exact (c7 p (by omega)).2.1
  · unfold s_mor gh_ha
    rw [show 35 + 3 = 38 from rfl, q_up_ne (by omega), q_up_at, q_up_ne (by omega), q_up_ne (by omega), q_up_ne (by omega), q_up_ne (by omega), q_up_ne (by omega), q_up_at, q_up_ne (by omega), q_up_ne (by omega)]
    by_cases e : p = n
    · rw [if_pos e, if_pos e]
    · rw [if_neg e, if_neg e]
      exact (c7 p (by omega)).2.2
theorem w_sm_ha {n c m : Nat} {g r : qM} (h4 : g 70 4 = Int32.ofNat n) (hs : w_sm n g r) : w_sm (n + 1) (q_up (q_up (q_up (q_up (q_up g 75 n (Int32.ofNat c)) 76 n (Int32.ofNat m)) 77 n 1) 78 n i_none) 70 27 (g 70 4 + 1)) (gh_ha n c m r) := by
  obtain ⟨⟨c1, c2, c3, c4, c5⟩, c6, c7⟩ := hs
  refine ⟨⟨?_, c2, c3, c4, c5⟩, fun d a b => c6 d a b, fun p hp => ⟨?_, ?_, ?_⟩⟩
  · show g 70 4 + 1 = Int32.ofNat (n + 1)
    rw [h4, q_succ]
  · unfold gh_ha
    rw [q_up_ne (by omega), q_up_ne (by omega), q_up_ne (by omega), q_up_ne (by omega), q_up_at, q_up_ne (by omega), q_up_ne (by omega), q_up_ne (by omega), q_up_ne (by omega), q_up_at]
    by_cases e : p = n
    · rw [if_pos e, if_pos e]
    · rw [if_neg e, if_neg e]
      exact (c7 p (by omega)).1
  · unfold gh_ha
    rw [q_up_ne (by omega), q_up_ne (by omega), q_up_ne (by omega), q_up_at, q_up_ne (by omega), q_up_ne (by omega), q_up_ne (by omega), q_up_ne (by omega), q_up_at, q_up_ne (by omega)]
    by_cases e : p = n
    · rw [if_pos e, if_pos e]
    · rw [if_neg e, if_neg e]
      exact (c7 p (by omega)).2.1
  · unfold gh_ha
    rw [q_up_ne (by omega), q_up_ne (by omega), q_up_at, q_up_ne (by omega), q_up_ne (by omega), q_up_ne (by omega), q_up_ne (by omega), q_up_at, q_up_ne (by omega), q_up_ne (by omega)]
    by_cases e : p = n
    · rw [if_pos e, if_pos e]
    · rw [if_neg e, if_neg e]
      exact (c7 p (by omega)).2.2
theorem gh_ha_78 {n c m p : Nat} {r : qM} : gh_ha n c m r 78 p = if p = n then i_none else r 78 p := by
  unfold gh_ha
  rw [q_up_ne (by omega), q_up_at, q_up_ne (by omega), q_up_ne (by omega), q_up_ne (by omega)]
theorem p_at_01 (r : qM) (p : Nat) : p_at r p = 0 ∨ p_at r p = 1 := by
  unfold p_at
  split
  · exact Or.inl rfl
  · exact s_01 _
/-- how many are where they should be, as a number -/
def n_at (n : Nat) (r : qM) : Nat := n_ct (p_at r) n 0 0
theorem f_at_n (n : Nat) (r : qM) : f_at n r = Int32.ofNat (n_at n r) := s_ct_n (p_at_01 r) n 0 0
theorem n_at_le (n : Nat) (r : qM) : n_at n r ≤ n := by
  have e := n_ct_le (P := p_at r) n 0 0
  rw [Nat.zero_add] at e
  exact e
/-- a CELL is free -/
def p_fr (n : Nat) (r : qM) (c : Nat) : Nat := if s_bit (r 71 20) (Int32.ofNat c) = 0 then (if f_who n r (Int32.ofNat c) = i_none then 1 else 0) else 0
def n_hg (n t m : Nat) (r : qM) (c : Nat) : Nat := n_at (n + 1) (s_rit (n + 1) t (gh_ha n c m r))
def f_h1 (F A : Nat → Nat) (c : Nat) (b : Option (Nat × Nat)) : Option (Nat × Nat) := if F c = 0 then b else match b with
  | none => some (c, A c)
  | some (x, t) => if t < A c then some (c, A c) else some (x, t)
def f_hb (F A : Nat → Nat) : Nat → Nat → Option (Nat × Nat) → Option (Nat × Nat)
  | 0, _, b => b
  | k + 1, c, b => f_hb F A k (c + 1) (f_h1 F A c b)
def f_hang (n W H t m : Nat) (r : qM) : Option (Nat × Nat) := f_hb (p_fr n r) (n_hg n t m r) (W * H) 0 none
def n_hok (N : Nat) (b : Option (Nat × Nat)) : Prop := ∀ x t, b = some (x, t) → x < N ∧ t ≤ 6
theorem n_hok_1 {F A : Nat → Nat} {N c : Nat} {b : Option (Nat × Nat)} (hA : A c ≤ 6) (hc : c < N) (hb : n_hok N b) : n_hok N (f_h1 F A c b) := by
  unfold f_h1
  split
  · exact hb
  · match b, hb with
    | none, _ => intro x t e; cases e; exact ⟨hc, hA⟩
    | some (y, s), hb =>
      intro x t e
      have e : (if s < A c then some (c, A c) else some (y, s)) = some (x, t) := e
      split at e
      · cases e; exact ⟨hc, hA⟩
      · exact hb x t e
def e_hm : Option (Nat × Nat) → Int32
  | none => Int32.ofInt (-1)
  | some (_, t) => Int32.ofNat t
def e_hf : Option (Nat × Nat) → Int32
  | none => i_none
  | some (c, _) => Int32.ofNat c
theorem f_h1_no {F A : Nat → Nat} {c : Nat} {b : Option (Nat × Nat)} (h : F c = 0) : f_h1 F A c b = b := if_pos h
theorem f_h1_new {F A : Nat → Nat} {c : Nat} {b : Option (Nat × Nat)} (h : F c ≠ 0) (hb : ∀ x t, b = some (x, t) → t < A c) : f_h1 F A c b = some (c, A c) := by
  unfold f_h1
  rw [if_neg h]
  match b, hb with
  | none, _ => rfl
  | some (x, t), hb => exact if_pos (hb x t rfl)
theorem f_h1_old {F A : Nat → Nat} {c x t : Nat} {b : Option (Nat × Nat)} (h : F c ≠ 0) (e : b = some (x, t)) (ht : ¬ t < A c) : f_h1 F A c b = b := by
  unfold f_h1
  rw [if_neg h]
  subst e
  exact if_neg ht
theorem e_hm_lt {N a : Nat} {b : Option (Nat × Nat)} (ha : a ≤ 6) (hb : n_hok N b) : (¬ Int32.ofNat a ≤ e_hm b ↔ ∀ x t, b = some (x, t) → t < a) := by
  match b, hb with
  | none, _ =>
    refine ⟨fun _ x t e => (by cases e), fun _ z => ?_⟩
    have z : Int32.ofNat a ≤ Int32.ofInt (-1) := z
    rw [Int32.le_iff_toInt_le, q_nat (by omega)] at z
    have e : (Int32.ofInt (-1)).toInt = -1 := rfl
    omega
  | some (x, t), hb =>
    have h1 := hb x t rfl
    show ¬ Int32.ofNat a ≤ Int32.ofNat t ↔ _
    rw [q_le (by omega) (by omega)]
    exact ⟨fun z x' t' e => by cases e; omega, fun z => by have := z x t rfl; omega⟩
theorem p_fr_iff {n c : Nat} {r : qM} : p_fr n r c ≠ 0 ↔ s_bit (r 71 20) (Int32.ofNat c) = 0 ∧ f_who n r (Int32.ofNat c) = i_none := by
  unfold p_fr
  by_cases h1 : s_bit (r 71 20) (Int32.ofNat c) = 0
  · rw [if_pos h1]
    by_cases h2 : f_who n r (Int32.ofNat c) = i_none
    · rw [if_pos h2]
      exact ⟨fun _ => ⟨h1, h2⟩, fun _ => by decide⟩
    · rw [if_neg h2]
      exact ⟨fun z => absurd rfl z, fun z => absurd z.2 h2⟩
  · rw [if_neg h1]
    exact ⟨fun z => absurd rfl z, fun z => absurd z.1 h1⟩
theorem sg_ha_1 (big : Nat → List Value → qM → qW → qR) (n0 : Nat) (G : qM) (U : qW) (v0 : Int32) (v1 : Int32) (v2 : Int32) : qm_run pm_m big m_32 (n0 + 5) 0 [(0, .ref 35), (1, .int v0), (2, .int v1), (3, .int v2)] [] G U = qm_run pm_m big m_32 n0 9 [(0, .ref 35), (1, .int v0), (2, .int v1), (3, .int v2)] [.int (6 : Int32), .int (G 35 3)] G U := rfl
theorem sg_ha_2 (big : Nat → List Value → qM → qW → qR) (n0 : Nat) (G : qM) (U : qW) (v0 : Int32) (v1 : Int32) (v2 : Int32) : qm_run pm_m big m_32 (n0 + 5) 12 [(0, .ref 35), (1, .int v0), (2, .int v1), (3, .int v2)] [] G U = qm_run pm_m big m_32 n0 21 [(0, .ref 35), (1, .int v0), (2, .int v1), (3, .int v2)] [.int v0, .int (G 35 3), .ref 36] G U := rfl
theorem sg_ha_3 (big : Nat → List Value → qM → qW → qR) (n0 : Nat) (G : qM) (U : qW) (v0 : Int32) (v1 : Int32) (v2 : Int32) : qm_run pm_m big m_32 (n0 + 5) 22 [(0, .ref 35), (1, .int v0), (2, .int v1), (3, .int v2)] [] G U = qm_run pm_m big m_32 n0 31 [(0, .ref 35), (1, .int v0), (2, .int v1), (3, .int v2)] [.int v1, .int (G 35 3), .ref 37] G U := rfl
theorem sg_ha_4 (big : Nat → List Value → qM → qW → qR) (n0 : Nat) (G : qM) (U : qW) (v0 : Int32) (v1 : Int32) (v2 : Int32) : qm_run pm_m big m_32 (n0 + 5) 32 [(0, .ref 35), (1, .int v0), (2, .int v1), (3, .int v2)] [] G U = qm_run pm_m big m_32 n0 41 [(0, .ref 35), (1, .int v0), (2, .int v1), (3, .int v2)] [.int v2, .int (G 35 3), .ref 38] G U := rfl
theorem sg_ha_5 (big : Nat → List Value → qM → qW → qR) (n0 : Nat) (G : qM) (U : qW) (v0 : Int32) (v1 : Int32) (v2 : Int32) (v3 : Int32) : qm_run pm_m big m_111 (n0 + 2) 7 [(0, .ref 34), (1, .ref 20), (2, .int v0), (3, .int v1), (4, .int v2), (5, .int v3)] [] G U = qm_run pm_m big m_111 n0 10 [(0, .ref 34), (1, .ref 20), (2, .int v0), (3, .int v1), (4, .int v2), (5, .int v3)] [.ref 20, .int v3] G U := rfl
theorem sg_ha_6 (big : Nat → List Value → qM → qW → qR) (n0 : Nat) (G : qM) (U : qW) (v0 : Int32) (v1 : Int32) (v2 : Int32) (v3 : Int32) : qm_run pm_m big m_111 (n0 + 2) 16 [(0, .ref 34), (1, .ref 20), (2, .int v0), (3, .int v1), (4, .int v2), (5, .int v3)] [] G U = qm_run pm_m big m_111 n0 19 [(0, .ref 34), (1, .ref 20), (2, .int v0), (3, .int v1), (4, .int v2), (5, .int v3)] [.int v3, .ref 20] G U := rfl
theorem sg_ha_7 (big : Nat → List Value → qM → qW → qR) (n0 : Nat) (G : qM) (U : qW) (v0 : Int32) (v1 : Int32) (v2 : Int32) (v3 : Int32) : qm_run pm_m big m_111 (n0 + 3) 22 [(0, .ref 34), (1, .ref 20), (2, .int v0), (3, .int v1), (4, .int v2), (5, .int v3)] [.int (0 : Int32)] G U = qm_run pm_m big m_111 n0 7 [(0, .ref 34), (1, .ref 20), (2, .int v0), (3, .int v1), (4, .int v2), (5, .int (v3 + (1 : Int32)))] [] G U := rfl
theorem sg_ha_8 (big : Nat → List Value → qM → qW → qR) (n0 : Nat) (G : qM) (U : qW) (v0 : Int32) (v1 : Int32) (v2 : Int32) (v3 : Int32) : qm_run pm_m big m_111 (n0 + 4) 22 [(0, .ref 34), (1, .ref 20), (2, .int v0), (3, .int v1), (4, .int v2), (5, .int v3)] [.int (1 : Int32)] G U = qm_run pm_m big m_111 n0 30 [(0, .ref 34), (1, .ref 20), (2, .int v0), (3, .int v1), (4, .int v2), (5, .int v3)] [.ref 20, .ref 35] G U := rfl
theorem sg_ha_9 (big : Nat → List Value → qM → qW → qR) (n0 : Nat) (G : qM) (U : qW) (v0 : Int32) (v1 : Int32) (v2 : Int32) (v3 : Int32) : qm_run pm_m big m_111 (n0 + 6) 33 [(0, .ref 34), (1, .ref 20), (2, .int v0), (3, .int v1), (4, .int v2), (5, .int v3)] [] G U = qm_run pm_m big m_111 n0 46 [(0, .ref 34), (1, .ref 20), (2, .int v0), (3, .int v1), (4, .int v2), (5, .int v3)] [.int (Int8.toInt32 (Int8.ofInt (-4))), .int (G 20 3), .ref 39] G U := rfl
theorem sg_ha_10 (big : Nat → List Value → qM → qW → qR) (n0 : Nat) (G : qM) (U : qW) (v0 : Int32) (v1 : Int32) (v2 : Int32) (v3 : Int32) : qm_run pm_m big m_111 (n0 + 5) 47 [(0, .ref 34), (1, .ref 20), (2, .int v0), (3, .int v1), (4, .int v2), (5, .int v3)] [] G U = qm_run pm_m big m_111 n0 55 [(0, .ref 34), (1, .ref 20), (2, .int v0), (3, .int v1), (4, .int v2), (5, .int v3)] [.int (1 : Int32), .int v0, .int v3, .ref 35] G U := rfl
theorem sg_ha_11 (big : Nat → List Value → qM → qW → qR) (n0 : Nat) (G : qM) (U : qW) (v0 : Int32) (v1 : Int32) (v2 : Int32) (v3 : Int32) : qm_run pm_m big m_111 (n0 + 5) 58 [(0, .ref 34), (1, .ref 20), (2, .int v0), (3, .int v1), (4, .int v2), (5, .int v3)] [] G U = qm_run pm_m big m_111 n0 67 [(0, .ref 34), (1, .ref 20), (2, .int v0), (3, .int v1), (4, .int v2), (5, .int v3)] [.int v1, .ref 35, .ref 28] G U := rfl
theorem sg_ha_12 (big : Nat → List Value → qM → qW → qR) (n0 : Nat) (G : qM) (U : qW) (v0 : Int32) (v1 : Int32) (v2 : Int32) (v3 : Int32) : qm_run pm_m big m_111 (n0 + 2) 70 [(0, .ref 34), (1, .ref 20), (2, .int v0), (3, .int v1), (4, .int v2), (5, .int v3)] [] G U = qm_run pm_m big m_111 n0 74 [(0, .ref 34), (1, .ref 20), (2, .int v0), (3, .int v1), (4, .int v2), (5, .int v3)] [.ref 35] G U := rfl
theorem sg_ha_13 (big : Nat → List Value → qM → qW → qR) (n0 : Nat) (G : qM) (U : qW) (v0 : Int32) (v1 : Int32) (v2 : Int32) (v3 : Int32) (v4 : Int32) : qm_run pm_m big m_111 (n0 + 3) 77 [(0, .ref 34), (1, .ref 20), (2, .int v0), (3, .int v1), (4, .int v2), (5, .int v3)] [.int v4] G U = qm_run pm_m big m_111 n0 83 [(0, .ref 34), (1, .ref 20), (2, .int v0), (3, .int v1), (4, .int v2), (5, .int v3), (6, .int v4)] [.int (Int8.toInt32 (Int8.ofInt (-4))), .int v2] G U := rfl
theorem sg_ha_14 (big : Nat → List Value → qM → qW → qR) (n0 : Nat) (G : qM) (U : qW) (v0 : Int32) (v1 : Int32) (v2 : Int32) (v3 : Int32) (v4 : Int32) : qm_run pm_m big m_111 (n0 + 8) 96 [(0, .ref 34), (1, .ref 20), (2, .int v0), (3, .int v1), (4, .int v2), (5, .int v3), (6, .int v4)] [] G U = qm_run pm_m big m_111 n0 7 [(0, .ref 34), (1, .ref 20), (2, .int v0), (3, .int v1), (4, .int ((v3 * (1024 : Int32)) + v4)), (5, .int (v3 + (1 : Int32))), (6, .int v4)] [] G U := rfl
theorem sg_ha_15 (big : Nat → List Value → qM → qW → qR) (n0 : Nat) (G : qM) (U : qW) (v0 : Int32) (v1 : Int32) (v2 : Int32) (v3 : Int32) (v4 : Int32) : qm_run pm_m big m_111 (n0 + 2) 86 [(0, .ref 34), (1, .ref 20), (2, .int v0), (3, .int v1), (4, .int v2), (5, .int v3), (6, .int v4)] [] G U = qm_run pm_m big m_111 n0 90 [(0, .ref 34), (1, .ref 20), (2, .int v0), (3, .int v1), (4, .int v2), (5, .int v3), (6, .int v4)] [.int v2, .int v4] G U := rfl
theorem sg_ha_16 (big : Nat → List Value → qM → qW → qR) (n0 : Nat) (G : qM) (U : qW) (v0 : Int32) (v1 : Int32) (v2 : Int32) (v3 : Int32) (v4 : Int32) : qm_run pm_m big m_111 (n0 + 2) 107 [(0, .ref 34), (1, .ref 20), (2, .int v0), (3, .int v1), (4, .int v2), (5, .int v3), (6, .int v4)] [] G U = qm_run pm_m big m_111 n0 7 [(0, .ref 34), (1, .ref 20), (2, .int v0), (3, .int v1), (4, .int v2), (5, .int (v3 + (1 : Int32))), (6, .int v4)] [] G U := rfl
theorem sg_ha_17 (big : Nat → List Value → qM → qW → qR) (n0 : Nat) (G : qM) (U : qW) (v0 : Int32) (v1 : Int32) : qm_run pm_m big m_111 (n0 + 4) 0 [(0, .ref 34), (1, .ref 20), (2, .int v0), (3, .int v1)] [] G U = qm_run pm_m big m_111 n0 7 [(0, .ref 34), (1, .ref 20), (2, .int v0), (3, .int v1), (4, .int (Int8.toInt32 (Int8.ofInt (-4)))), (5, .int (0 : Int32))] [] G U := rfl
theorem sg_ha_18 (big : Nat → List Value → qM → qW → qR) (n0 : Nat) (G : qM) (U : qW) (v0 : Int32) (v1 : Int32) : qm_run pm_m big m_110 (n0 + 2) 0 [(0, .ref 8), (1, .int v0), (2, .int v1), (3, .int (0 : Int32))] [] G U = qm_run pm_m big m_110 n0 2 [(0, .ref 8), (1, .int v0), (2, .int v1), (3, .int (0 : Int32))] [.int (1 : Int32), .int v0] G U := rfl
theorem sg_ha_19 (big : Nat → List Value → qM → qW → qR) (n0 : Nat) (G : qM) (U : qW) (v0 : Int32) (v1 : Int32) : qm_run pm_m big m_110 (n0 + 2) 5 [(0, .ref 8), (1, .int v0), (2, .int v1), (3, .int (0 : Int32))] [] G U = qm_run pm_m big m_110 n0 7 [(0, .ref 8), (1, .int v0), (2, .int v1), (3, .int (0 : Int32))] [.int (3 : Int32), .int v0] G U := rfl
theorem sg_ha_20 (big : Nat → List Value → qM → qW → qR) (n0 : Nat) (G : qM) (U : qW) (v0 : Int32) (v1 : Int32) : qm_run pm_m big m_110 (n0 + 1) 10 [(0, .ref 8), (1, .int v0), (2, .int v1), (3, .int (0 : Int32))] [] G U = qm_run pm_m big m_110 n0 11 [(0, .ref 8), (1, .int v0), (2, .int v1), (3, .int (0 : Int32))] [.int v1] G U := rfl
theorem sg_ha_21 (big : Nat → List Value → qM → qW → qR) (n0 : Nat) (G : qM) (U : qW) (v0 : Int32) (v1 : Int32) : qm_run pm_m big m_110 (n0 + 2) 14 [(0, .ref 8), (1, .int v0), (2, .int v1), (3, .int (0 : Int32))] [.int (1 : Int32)] G U = qm_run pm_m big m_110 n0 18 [(0, .ref 8), (1, .int v0), (2, .int v1), (3, .int (0 : Int32))] [.int (0 : Int32)] G U := rfl
theorem sg_ha_22 (big : Nat → List Value → qM → qW → qR) (n0 : Nat) (G : qM) (U : qW) (v0 : Int32) (v1 : Int32) : qm_run pm_m big m_110 (n0 + 7) 21 [(0, .ref 8), (1, .int v0), (2, .int v1), (3, .int (0 : Int32))] [.int (1 : Int32)] G U = qm_run pm_m big m_110 n0 36 [(0, .ref 8), (1, .int v0), (2, .int v1), (3, .int (0 : Int32))] [.int v1, .int v0, .ref 20, .ref 34] G U := rfl
theorem sg_ha_23 (big : Nat → List Value → qM → qW → qR) (n0 : Nat) (G : qM) (U : qW) (v0 : Int32) (v1 : Int32) (v2 : Int32) : qm_run pm_m big m_110 (n0 + 3) 39 [(0, .ref 8), (1, .int v0), (2, .int v1), (3, .int (0 : Int32))] [.int v2] G U = qm_run pm_m big m_110 n0 45 [(0, .ref 8), (1, .int v0), (2, .int v1), (3, .int (0 : Int32)), (4, .int v2)] [.int (Int8.toInt32 (Int8.ofInt (-4))), .int v2] G U := rfl
theorem sg_ha_24 (big : Nat → List Value → qM → qW → qR) (n0 : Nat) (G : qM) (U : qW) (v0 : Int32) (v1 : Int32) (v2 : Int32) : qm_run pm_m big m_110 (n0 + 3) 51 [(0, .ref 8), (1, .int v0), (2, .int v1), (3, .int (0 : Int32)), (4, .int v2)] [] G U = qm_run pm_m big m_110 n0 57 [(0, .ref 8), (1, .int v0), (2, .int v1), (3, .int (0 : Int32)), (4, .int v2)] [.int v2] G U := rfl
theorem sg_ha_25 (big : Nat → List Value → qM → qW → qR) (n0 : Nat) (G : qM) (U : qW) (v0 : Int32) (v1 : Int32) : qm_run pm_m big m_110 (n0 + 2) 0 [(0, .ref 8), (1, .int v0), (2, .int v1), (3, .int (1 : Int32))] [] G U = qm_run pm_m big m_110 n0 2 [(0, .ref 8), (1, .int v0), (2, .int v1), (3, .int (1 : Int32))] [.int (1 : Int32), .int v0] G U := rfl
theorem sg_ha_26 (big : Nat → List Value → qM → qW → qR) (n0 : Nat) (G : qM) (U : qW) (v0 : Int32) (v1 : Int32) : qm_run pm_m big m_110 (n0 + 2) 5 [(0, .ref 8), (1, .int v0), (2, .int v1), (3, .int (1 : Int32))] [] G U = qm_run pm_m big m_110 n0 7 [(0, .ref 8), (1, .int v0), (2, .int v1), (3, .int (1 : Int32))] [.int (3 : Int32), .int v0] G U := rfl
theorem sg_ha_27 (big : Nat → List Value → qM → qW → qR) (n0 : Nat) (G : qM) (U : qW) (v0 : Int32) (v1 : Int32) : qm_run pm_m big m_110 (n0 + 1) 10 [(0, .ref 8), (1, .int v0), (2, .int v1), (3, .int (1 : Int32))] [] G U = qm_run pm_m big m_110 n0 11 [(0, .ref 8), (1, .int v0), (2, .int v1), (3, .int (1 : Int32))] [.int v1] G U := rfl
theorem sg_ha_28 (big : Nat → List Value → qM → qW → qR) (n0 : Nat) (G : qM) (U : qW) (v0 : Int32) (v1 : Int32) : qm_run pm_m big m_110 (n0 + 2) 14 [(0, .ref 8), (1, .int v0), (2, .int v1), (3, .int (1 : Int32))] [.int (1 : Int32)] G U = qm_run pm_m big m_110 n0 18 [(0, .ref 8), (1, .int v0), (2, .int v1), (3, .int (1 : Int32))] [.int (1 : Int32)] G U := rfl
theorem sg_ha_29 (big : Nat → List Value → qM → qW → qR) (n0 : Nat) (G : qM) (U : qW) (v0 : Int32) (v1 : Int32) : qm_run pm_m big m_110 (n0 + 7) 21 [(0, .ref 8), (1, .int v0), (2, .int v1), (3, .int (1 : Int32))] [.int (1 : Int32)] G U = qm_run pm_m big m_110 n0 36 [(0, .ref 8), (1, .int v0), (2, .int v1), (3, .int (1 : Int32))] [.int v1, .int v0, .ref 20, .ref 34] G U := rfl
theorem sg_ha_30 (big : Nat → List Value → qM → qW → qR) (n0 : Nat) (G : qM) (U : qW) (v0 : Int32) (v1 : Int32) (v2 : Int32) : qm_run pm_m big m_110 (n0 + 3) 39 [(0, .ref 8), (1, .int v0), (2, .int v1), (3, .int (1 : Int32))] [.int v2] G U = qm_run pm_m big m_110 n0 45 [(0, .ref 8), (1, .int v0), (2, .int v1), (3, .int (1 : Int32)), (4, .int v2)] [.int (Int8.toInt32 (Int8.ofInt (-4))), .int v2] G U := rfl
theorem sg_ha_31 (big : Nat → List Value → qM → qW → qR) (n0 : Nat) (G : qM) (U : qW) (v0 : Int32) (v1 : Int32) (v2 : Int32) : qm_run pm_m big m_110 (n0 + 3) 51 [(0, .ref 8), (1, .int v0), (2, .int v1), (3, .int (1 : Int32)), (4, .int v2)] [] G U = qm_run pm_m big m_110 n0 65 [(0, .ref 8), (1, .int v0), (2, .int v1), (3, .int (1 : Int32)), (4, .int v2)] [.int v2] G U := rfl
theorem sg_ha_32 (big : Nat → List Value → qM → qW → qR) (n0 : Nat) (G : qM) (U : qW) (v0 : Int32) (v1 : Int32) (v2 : Int32) (v3 : Int32) (v4 : Int32) (v5 : Int32) : qm_run pm_m big m_209 (n0 + 2) 139 [(0, .ref 70), (1, .int v0), (2, .int v1), (3, .int (0 : Int32)), (4, .int v2), (5, .int v3), (6, .int v4), (7, .int v5)] [] G U = qm_run pm_m big m_209 n0 142 [(0, .ref 70), (1, .int v0), (2, .int v1), (3, .int (0 : Int32)), (4, .int v2), (5, .int v3), (6, .int v4), (7, .int v5)] [.int v1, .int v5] G U := rfl
theorem sg_ha_33 (big : Nat → List Value → qM → qW → qR) (n0 : Nat) (G : qM) (U : qW) (v0 : Int32) (v1 : Int32) (v2 : Int32) (v3 : Int32) (v4 : Int32) (v5 : Int32) : qm_run pm_m big m_209 (n0 + 1) 145 [(0, .ref 70), (1, .int v0), (2, .int v1), (3, .int (0 : Int32)), (4, .int v2), (5, .int v3), (6, .int v4), (7, .int v5)] [] G U = qm_run pm_m big m_209 n0 146 [(0, .ref 70), (1, .int v0), (2, .int v1), (3, .int (0 : Int32)), (4, .int v2), (5, .int v3), (6, .int v4), (7, .int v5)] [.ref 70] G U := rfl
theorem sg_ha_34 (big : Nat → List Value → qM → qW → qR) (n0 : Nat) (G : qM) (U : qW) (v0 : Int32) (v1 : Int32) (v2 : Int32) (v3 : Int32) (v4 : Int32) (v5 : Int32) (v6 : Int32) : qm_run pm_m big m_209 (n0 + 3) 149 [(0, .ref 70), (1, .int v0), (2, .int v1), (3, .int (0 : Int32)), (4, .int v2), (5, .int v3), (6, .int v4), (7, .int v5)] [.int v6] G U = qm_run pm_m big m_209 n0 139 [(0, .ref 70), (1, .int v0), (2, .int v1), (3, .int (0 : Int32)), (4, .int v2), (5, .int v3), (6, .int v4), (7, .int (v5 + (1 : Int32)))] [] G U := rfl
theorem sg_ha_35 (big : Nat → List Value → qM → qW → qR) (n0 : Nat) (G : qM) (U : qW) (v0 : Int32) (v1 : Int32) (v2 : Int32) (v3 : Int32) (v4 : Int32) : qm_run pm_m big m_209 (n0 + 6) 46 [(0, .ref 70), (1, .int v0), (2, .int v1), (3, .int (0 : Int32)), (4, .int v2), (5, .int v3), (6, .int v4)] [] G U = qm_run pm_m big m_209 n0 57 [(0, .ref 70), (1, .int v0), (2, .int v1), (3, .int (0 : Int32)), (4, .int v2), (5, .int v3), (6, .int v4)] [.int ((G 70 2) * (G 70 3)), .int v4] G U := rfl
theorem sg_ha_36 (big : Nat → List Value → qM → qW → qR) (n0 : Nat) (G : qM) (U : qW) (v0 : Int32) (v1 : Int32) (v2 : Int32) (v3 : Int32) (v4 : Int32) : qm_run pm_m big m_209 (n0 + 2) 200 [(0, .ref 70), (1, .int v0), (2, .int v1), (3, .int (0 : Int32)), (4, .int v2), (5, .int v3), (6, .int v4)] [] G U = qm_run pm_m big m_209 n0 204 [(0, .ref 70), (1, .int v0), (2, .int v1), (3, .int (0 : Int32)), (4, .int v2), (5, .int v3), (6, .int v4)] [.int (Int8.toInt32 (Int8.ofInt (-4))), .int v3] G U := rfl
theorem sg_ha_37 (big : Nat → List Value → qM → qW → qR) (n0 : Nat) (G : qM) (U : qW) (v0 : Int32) (v1 : Int32) (v2 : Int32) (v3 : Int32) (v4 : Int32) : qm_run pm_m big m_209 (n0 + 1) 60 [(0, .ref 70), (1, .int v0), (2, .int v1), (3, .int (0 : Int32)), (4, .int v2), (5, .int v3), (6, .int v4)] [] G U = qm_run pm_m big m_209 n0 61 [(0, .ref 70), (1, .int v0), (2, .int v1), (3, .int (0 : Int32)), (4, .int v2), (5, .int v3), (6, .int v4)] [.ref 70] G U := rfl
theorem sg_ha_38 (big : Nat → List Value → qM → qW → qR) (n0 : Nat) (G : qM) (U : qW) (v0 : Int32) (v1 : Int32) (v2 : Int32) (v3 : Int32) (v4 : Int32) : qm_run pm_m big m_209 (n0 + 2) 64 [(0, .ref 70), (1, .int v0), (2, .int v1), (3, .int (0 : Int32)), (4, .int v2), (5, .int v3), (6, .int v4)] [] G U = qm_run pm_m big m_209 n0 67 [(0, .ref 70), (1, .int v0), (2, .int v1), (3, .int (0 : Int32)), (4, .int v2), (5, .int v3), (6, .int v4)] [.int v4, .ref 70] G U := rfl
theorem sg_ha_39 (big : Nat → List Value → qM → qW → qR) (n0 : Nat) (G : qM) (U : qW) (v0 : Int32) (v1 : Int32) (v2 : Int32) (v3 : Int32) (v4 : Int32) : qm_run pm_m big m_209 (n0 + 2) 194 [(0, .ref 70), (1, .int v0), (2, .int v1), (3, .int (0 : Int32)), (4, .int v2), (5, .int v3), (6, .int v4)] [] G U = qm_run pm_m big m_209 n0 46 [(0, .ref 70), (1, .int v0), (2, .int v1), (3, .int (0 : Int32)), (4, .int v2), (5, .int v3), (6, .int (v4 + (1 : Int32)))] [] G U := rfl
theorem sg_ha_40 (big : Nat → List Value → qM → qW → qR) (n0 : Nat) (G : qM) (U : qW) (v0 : Int32) (v1 : Int32) (v2 : Int32) (v3 : Int32) (v4 : Int32) : qm_run pm_m big m_209 (n0 + 2) 73 [(0, .ref 70), (1, .int v0), (2, .int v1), (3, .int (0 : Int32)), (4, .int v2), (5, .int v3), (6, .int v4)] [] G U = qm_run pm_m big m_209 n0 76 [(0, .ref 70), (1, .int v0), (2, .int v1), (3, .int (0 : Int32)), (4, .int v2), (5, .int v3), (6, .int v4)] [.int v4, .ref 70] G U := rfl
theorem sg_ha_41 (big : Nat → List Value → qM → qW → qR) (n0 : Nat) (G : qM) (U : qW) (v0 : Int32) (v1 : Int32) (v2 : Int32) (v3 : Int32) (v4 : Int32) (v5 : Int32) : qm_run pm_m big m_209 (n0 + 1) 79 [(0, .ref 70), (1, .int v0), (2, .int v1), (3, .int (0 : Int32)), (4, .int v2), (5, .int v3), (6, .int v4)] [.int v5] G U = qm_run pm_m big m_209 n0 81 [(0, .ref 70), (1, .int v0), (2, .int v1), (3, .int (0 : Int32)), (4, .int v2), (5, .int v3), (6, .int v4)] [.int (Int8.toInt32 (Int8.ofInt (-4))), .int v5] G U := rfl
theorem sg_ha_42 (big : Nat → List Value → qM → qW → qR) (n0 : Nat) (G : qM) (U : qW) (v0 : Int32) (v1 : Int32) (v2 : Int32) (v3 : Int32) (v4 : Int32) : qm_run pm_m big m_209 (n0 + 5) 84 [(0, .ref 70), (1, .int v0), (2, .int v1), (3, .int (0 : Int32)), (4, .int v2), (5, .int v3), (6, .int v4)] [] G U = qm_run pm_m big m_209 n0 94 [(0, .ref 70), (1, .int v0), (2, .int v1), (3, .int (0 : Int32)), (4, .int v2), (5, .int v3), (6, .int v4)] [.int v4, .int (G 70 4), .ref 75] G U := rfl
theorem sg_ha_43 (big : Nat → List Value → qM → qW → qR) (n0 : Nat) (G : qM) (U : qW) (v0 : Int32) (v1 : Int32) (v2 : Int32) (v3 : Int32) (v4 : Int32) : qm_run pm_m big m_209 (n0 + 5) 95 [(0, .ref 70), (1, .int v0), (2, .int v1), (3, .int (0 : Int32)), (4, .int v2), (5, .int v3), (6, .int v4)] [] G U = qm_run pm_m big m_209 n0 104 [(0, .ref 70), (1, .int v0), (2, .int v1), (3, .int (0 : Int32)), (4, .int v2), (5, .int v3), (6, .int v4)] [.int v0, .int (G 70 4), .ref 76] G U := rfl
theorem sg_ha_44 (big : Nat → List Value → qM → qW → qR) (n0 : Nat) (G : qM) (U : qW) (v0 : Int32) (v1 : Int32) (v2 : Int32) (v3 : Int32) (v4 : Int32) : qm_run pm_m big m_209 (n0 + 5) 105 [(0, .ref 70), (1, .int v0), (2, .int v1), (3, .int (0 : Int32)), (4, .int v2), (5, .int v3), (6, .int v4)] [] G U = qm_run pm_m big m_209 n0 114 [(0, .ref 70), (1, .int v0), (2, .int v1), (3, .int (0 : Int32)), (4, .int v2), (5, .int v3), (6, .int v4)] [.int (1 : Int32), .int (G 70 4), .ref 77] G U := rfl
theorem sg_ha_45 (big : Nat → List Value → qM → qW → qR) (n0 : Nat) (G : qM) (U : qW) (v0 : Int32) (v1 : Int32) (v2 : Int32) (v3 : Int32) (v4 : Int32) : qm_run pm_m big m_209 (n0 + 5) 115 [(0, .ref 70), (1, .int v0), (2, .int v1), (3, .int (0 : Int32)), (4, .int v2), (5, .int v3), (6, .int v4)] [] G U = qm_run pm_m big m_209 n0 125 [(0, .ref 70), (1, .int v0), (2, .int v1), (3, .int (0 : Int32)), (4, .int v2), (5, .int v3), (6, .int v4)] [.int (Int8.toInt32 (Int8.ofInt (-4))), .int (G 70 4), .ref 78] G U := rfl
theorem sg_ha_46 (big : Nat → List Value → qM → qW → qR) (n0 : Nat) (G : qM) (U : qW) (v0 : Int32) (v1 : Int32) (v2 : Int32) (v3 : Int32) (v4 : Int32) : qm_run pm_m big m_209 (n0 + 8) 126 [(0, .ref 70), (1, .int v0), (2, .int v1), (3, .int (0 : Int32)), (4, .int v2), (5, .int v3), (6, .int v4)] [] G U = qm_run pm_m big m_209 n0 139 [(0, .ref 70), (1, .int v0), (2, .int v1), (3, .int (0 : Int32)), (4, .int v2), (5, .int v3), (6, .int v4), (7, .int (0 : Int32))] [] (q_up G 70 27 ((G 70 4) + (1 : Int32))) U := rfl
theorem sg_ha_47 (big : Nat → List Value → qM → qW → qR) (n0 : Nat) (G : qM) (U : qW) (v0 : Int32) (v1 : Int32) (v2 : Int32) (v3 : Int32) (v4 : Int32) (v5 : Int32) : qm_run pm_m big m_209 (n0 + 1) 156 [(0, .ref 70), (1, .int v0), (2, .int v1), (3, .int (0 : Int32)), (4, .int v2), (5, .int v3), (6, .int v4), (7, .int v5)] [] G U = qm_run pm_m big m_209 n0 157 [(0, .ref 70), (1, .int v0), (2, .int v1), (3, .int (0 : Int32)), (4, .int v2), (5, .int v3), (6, .int v4), (7, .int v5)] [.ref 70] G U := rfl
theorem sg_ha_48 (big : Nat → List Value → qM → qW → qR) (n0 : Nat) (G : qM) (U : qW) (v0 : Int32) (v1 : Int32) (v2 : Int32) (v3 : Int32) (v4 : Int32) (v5 : Int32) (v6 : Int32) : qm_run pm_m big m_209 (n0 + 1) 160 [(0, .ref 70), (1, .int v0), (2, .int v1), (3, .int (0 : Int32)), (4, .int v2), (5, .int v3), (6, .int v4), (7, .int v5)] [.int v6] G U = qm_run pm_m big m_209 n0 162 [(0, .ref 70), (1, .int v0), (2, .int v1), (3, .int (0 : Int32)), (4, .int v2), (5, .int v3), (6, .int v4), (7, .int v5)] [.int v2, .int v6] G U := rfl
theorem sg_ha_49 (big : Nat → List Value → qM → qW → qR) (n0 : Nat) (G : qM) (U : qW) (v0 : Int32) (v1 : Int32) (v2 : Int32) (v3 : Int32) (v4 : Int32) (v5 : Int32) : qm_run pm_m big m_209 (n0 + 3) 170 [(0, .ref 70), (1, .int v0), (2, .int v1), (3, .int (0 : Int32)), (4, .int v2), (5, .int v3), (6, .int v4), (7, .int v5)] [] G U = qm_run pm_m big m_209 n0 175 [(0, .ref 70), (1, .int v0), (2, .int v1), (3, .int (0 : Int32)), (4, .int v2), (5, .int v3), (6, .int v4), (7, .int v5)] [.ref 70] G U := rfl
theorem sg_ha_50 (big : Nat → List Value → qM → qW → qR) (n0 : Nat) (G : qM) (U : qW) (v0 : Int32) (v1 : Int32) (v2 : Int32) (v3 : Int32) (v4 : Int32) (v5 : Int32) (v6 : Int32) : qm_run pm_m big m_209 (n0 + 1) 178 [(0, .ref 70), (1, .int v0), (2, .int v1), (3, .int (0 : Int32)), (4, .int v2), (5, .int v3), (6, .int v4), (7, .int v5)] [.int v6] G U = qm_run pm_m big m_209 n0 180 [(0, .ref 70), (1, .int v0), (2, .int v1), (3, .int (0 : Int32)), (4, .int v2), (5, .int v3), (6, .int v4), (7, .int v5)] [.int v2, .int v6] G U := rfl
theorem sg_ha_51 (big : Nat → List Value → qM → qW → qR) (n0 : Nat) (G : qM) (U : qW) (v0 : Int32) (v1 : Int32) (v2 : Int32) (v3 : Int32) (v4 : Int32) (v5 : Int32) : qm_run pm_m big m_209 (n0 + 4) 190 [(0, .ref 70), (1, .int v0), (2, .int v1), (3, .int (0 : Int32)), (4, .int v2), (5, .int v3), (6, .int v4), (7, .int v5)] [] G U = qm_run pm_m big m_209 n0 46 [(0, .ref 70), (1, .int v0), (2, .int v1), (3, .int (0 : Int32)), (4, .int v2), (5, .int v3), (6, .int (v4 + (1 : Int32))), (7, .int v5)] [] G U := rfl
theorem sg_ha_52 (big : Nat → List Value → qM → qW → qR) (n0 : Nat) (G : qM) (U : qW) (v0 : Int32) (v1 : Int32) (v2 : Int32) (v3 : Int32) (v4 : Int32) (v5 : Int32) : qm_run pm_m big m_209 (n0 + 4) 165 [(0, .ref 70), (1, .int v0), (2, .int v1), (3, .int (0 : Int32)), (4, .int v2), (5, .int v3), (6, .int v4), (7, .int v5)] [] G U = qm_run pm_m big m_209 n0 175 [(0, .ref 70), (1, .int v0), (2, .int v1), (3, .int (0 : Int32)), (4, .int v2), (5, .int v4), (6, .int v4), (7, .int v5)] [.ref 70] G U := rfl
theorem sg_ha_53 (big : Nat → List Value → qM → qW → qR) (n0 : Nat) (G : qM) (U : qW) (v0 : Int32) (v1 : Int32) (v2 : Int32) (v3 : Int32) (v4 : Int32) (v5 : Int32) : qm_run pm_m big m_209 (n0 + 1) 183 [(0, .ref 70), (1, .int v0), (2, .int v1), (3, .int (0 : Int32)), (4, .int v2), (5, .int v3), (6, .int v4), (7, .int v5)] [] G U = qm_run pm_m big m_209 n0 184 [(0, .ref 70), (1, .int v0), (2, .int v1), (3, .int (0 : Int32)), (4, .int v2), (5, .int v3), (6, .int v4), (7, .int v5)] [.ref 70] G U := rfl
theorem sg_ha_54 (big : Nat → List Value → qM → qW → qR) (n0 : Nat) (G : qM) (U : qW) (v0 : Int32) (v1 : Int32) (v2 : Int32) (v3 : Int32) (v4 : Int32) (v5 : Int32) (v6 : Int32) : qm_run pm_m big m_209 (n0 + 4) 187 [(0, .ref 70), (1, .int v0), (2, .int v1), (3, .int (0 : Int32)), (4, .int v2), (5, .int v3), (6, .int v4), (7, .int v5)] [.int v6] G U = qm_run pm_m big m_209 n0 46 [(0, .ref 70), (1, .int v0), (2, .int v1), (3, .int (0 : Int32)), (4, .int v6), (5, .int v3), (6, .int (v4 + (1 : Int32))), (7, .int v5)] [] G U := rfl
theorem sg_ha_55 (big : Nat → List Value → qM → qW → qR) (n0 : Nat) (G : qM) (U : qW) (v0 : Int32) (v1 : Int32) : qm_run pm_m big m_209 (n0 + 4) 0 [(0, .ref 70), (1, .int v0), (2, .int v1), (3, .int (0 : Int32))] [] G U = qm_run pm_m big m_209 n0 6 [(0, .ref 70), (1, .int v0), (2, .int v1), (3, .int (0 : Int32))] [.long (3 : Int64), .long (1 : Int64), .long (Int32.toInt64 v0)] G U := rfl
theorem sg_ha_56 (big : Nat → List Value → qM → qW → qR) (n0 : Nat) (G : qM) (U : qW) (v0 : Int32) (v1 : Int32) : qm_run pm_m big m_209 (n0 + 5) 9 [(0, .ref 70), (1, .int v0), (2, .int v1), (3, .int (0 : Int32))] [.int (1 : Int32)] G U = qm_run pm_m big m_209 n0 18 [(0, .ref 70), (1, .int v0), (2, .int v1), (3, .int (0 : Int32))] [.long (12 : Int64), .long (0 : Int64), .long (Int32.toInt64 v1)] G U := rfl
theorem sg_ha_57 (big : Nat → List Value → qM → qW → qR) (n0 : Nat) (G : qM) (U : qW) (v0 : Int32) (v1 : Int32) : qm_run pm_m big m_209 (n0 + 5) 21 [(0, .ref 70), (1, .int v0), (2, .int v1), (3, .int (0 : Int32))] [.int (1 : Int32)] G U = qm_run pm_m big m_209 n0 28 [(0, .ref 70), (1, .int v0), (2, .int v1), (3, .int (0 : Int32))] [.long (1 : Int64), .long (0 : Int64), .long (0 : Int64)] G U := rfl
theorem sg_ha_58 (big : Nat → List Value → qM → qW → qR) (n0 : Nat) (G : qM) (U : qW) (v0 : Int32) (v1 : Int32) : qm_run pm_m big m_209 (n0 + 7) 31 [(0, .ref 70), (1, .int v0), (2, .int v1), (3, .int (0 : Int32))] [.int (1 : Int32)] G U = qm_run pm_m big m_209 n0 46 [(0, .ref 70), (1, .int v0), (2, .int v1), (3, .int (0 : Int32)), (4, .int (Int32.ofInt (-1))), (5, .int (Int8.toInt32 (Int8.ofInt (-4)))), (6, .int (0 : Int32))] [] G U := rfl
theorem sg_ha_59 (big : Nat → List Value → qM → qW → qR) (n0 : Nat) (G : qM) (U : qW) (v0 : Int32) (v1 : Int32) (v2 : Int32) (v3 : Int32) (v4 : Int32) (v5 : Int32) : qm_run pm_m big m_209 (n0 + 2) 139 [(0, .ref 70), (1, .int v0), (2, .int v1), (3, .int (1 : Int32)), (4, .int v2), (5, .int v3), (6, .int v4), (7, .int v5)] [] G U = qm_run pm_m big m_209 n0 142 [(0, .ref 70), (1, .int v0), (2, .int v1), (3, .int (1 : Int32)), (4, .int v2), (5, .int v3), (6, .int v4), (7, .int v5)] [.int v1, .int v5] G U := rfl
theorem sg_ha_60 (big : Nat → List Value → qM → qW → qR) (n0 : Nat) (G : qM) (U : qW) (v0 : Int32) (v1 : Int32) (v2 : Int32) (v3 : Int32) (v4 : Int32) (v5 : Int32) : qm_run pm_m big m_209 (n0 + 1) 145 [(0, .ref 70), (1, .int v0), (2, .int v1), (3, .int (1 : Int32)), (4, .int v2), (5, .int v3), (6, .int v4), (7, .int v5)] [] G U = qm_run pm_m big m_209 n0 146 [(0, .ref 70), (1, .int v0), (2, .int v1), (3, .int (1 : Int32)), (4, .int v2), (5, .int v3), (6, .int v4), (7, .int v5)] [.ref 70] G U := rfl
theorem sg_ha_61 (big : Nat → List Value → qM → qW → qR) (n0 : Nat) (G : qM) (U : qW) (v0 : Int32) (v1 : Int32) (v2 : Int32) (v3 : Int32) (v4 : Int32) (v5 : Int32) (v6 : Int32) : qm_run pm_m big m_209 (n0 + 3) 149 [(0, .ref 70), (1, .int v0), (2, .int v1), (3, .int (1 : Int32)), (4, .int v2), (5, .int v3), (6, .int v4), (7, .int v5)] [.int v6] G U = qm_run pm_m big m_209 n0 139 [(0, .ref 70), (1, .int v0), (2, .int v1), (3, .int (1 : Int32)), (4, .int v2), (5, .int v3), (6, .int v4), (7, .int (v5 + (1 : Int32)))] [] G U := rfl
theorem sg_ha_62 (big : Nat → List Value → qM → qW → qR) (n0 : Nat) (G : qM) (U : qW) (v0 : Int32) (v1 : Int32) (v2 : Int32) (v3 : Int32) (v4 : Int32) : qm_run pm_m big m_209 (n0 + 6) 46 [(0, .ref 70), (1, .int v0), (2, .int v1), (3, .int (1 : Int32)), (4, .int v2), (5, .int v3), (6, .int v4)] [] G U = qm_run pm_m big m_209 n0 57 [(0, .ref 70), (1, .int v0), (2, .int v1), (3, .int (1 : Int32)), (4, .int v2), (5, .int v3), (6, .int v4)] [.int ((G 70 2) * (G 70 3)), .int v4] G U := rfl
theorem sg_ha_63 (big : Nat → List Value → qM → qW → qR) (n0 : Nat) (G : qM) (U : qW) (v0 : Int32) (v1 : Int32) (v2 : Int32) (v3 : Int32) (v4 : Int32) : qm_run pm_m big m_209 (n0 + 2) 200 [(0, .ref 70), (1, .int v0), (2, .int v1), (3, .int (1 : Int32)), (4, .int v2), (5, .int v3), (6, .int v4)] [] G U = qm_run pm_m big m_209 n0 204 [(0, .ref 70), (1, .int v0), (2, .int v1), (3, .int (1 : Int32)), (4, .int v2), (5, .int v3), (6, .int v4)] [.int (Int8.toInt32 (Int8.ofInt (-4))), .int v3] G U := rfl
theorem sg_ha_64 (big : Nat → List Value → qM → qW → qR) (n0 : Nat) (G : qM) (U : qW) (v0 : Int32) (v1 : Int32) (v2 : Int32) (v3 : Int32) (v4 : Int32) : qm_run pm_m big m_209 (n0 + 1) 60 [(0, .ref 70), (1, .int v0), (2, .int v1), (3, .int (1 : Int32)), (4, .int v2), (5, .int v3), (6, .int v4)] [] G U = qm_run pm_m big m_209 n0 61 [(0, .ref 70), (1, .int v0), (2, .int v1), (3, .int (1 : Int32)), (4, .int v2), (5, .int v3), (6, .int v4)] [.ref 70] G U := rfl
theorem sg_ha_65 (big : Nat → List Value → qM → qW → qR) (n0 : Nat) (G : qM) (U : qW) (v0 : Int32) (v1 : Int32) (v2 : Int32) (v3 : Int32) (v4 : Int32) : qm_run pm_m big m_209 (n0 + 2) 64 [(0, .ref 70), (1, .int v0), (2, .int v1), (3, .int (1 : Int32)), (4, .int v2), (5, .int v3), (6, .int v4)] [] G U = qm_run pm_m big m_209 n0 67 [(0, .ref 70), (1, .int v0), (2, .int v1), (3, .int (1 : Int32)), (4, .int v2), (5, .int v3), (6, .int v4)] [.int v4, .ref 70] G U := rfl
theorem sg_ha_66 (big : Nat → List Value → qM → qW → qR) (n0 : Nat) (G : qM) (U : qW) (v0 : Int32) (v1 : Int32) (v2 : Int32) (v3 : Int32) (v4 : Int32) : qm_run pm_m big m_209 (n0 + 2) 194 [(0, .ref 70), (1, .int v0), (2, .int v1), (3, .int (1 : Int32)), (4, .int v2), (5, .int v3), (6, .int v4)] [] G U = qm_run pm_m big m_209 n0 46 [(0, .ref 70), (1, .int v0), (2, .int v1), (3, .int (1 : Int32)), (4, .int v2), (5, .int v3), (6, .int (v4 + (1 : Int32)))] [] G U := rfl
theorem sg_ha_67 (big : Nat → List Value → qM → qW → qR) (n0 : Nat) (G : qM) (U : qW) (v0 : Int32) (v1 : Int32) (v2 : Int32) (v3 : Int32) (v4 : Int32) : qm_run pm_m big m_209 (n0 + 2) 73 [(0, .ref 70), (1, .int v0), (2, .int v1), (3, .int (1 : Int32)), (4, .int v2), (5, .int v3), (6, .int v4)] [] G U = qm_run pm_m big m_209 n0 76 [(0, .ref 70), (1, .int v0), (2, .int v1), (3, .int (1 : Int32)), (4, .int v2), (5, .int v3), (6, .int v4)] [.int v4, .ref 70] G U := rfl
theorem sg_ha_68 (big : Nat → List Value → qM → qW → qR) (n0 : Nat) (G : qM) (U : qW) (v0 : Int32) (v1 : Int32) (v2 : Int32) (v3 : Int32) (v4 : Int32) (v5 : Int32) : qm_run pm_m big m_209 (n0 + 1) 79 [(0, .ref 70), (1, .int v0), (2, .int v1), (3, .int (1 : Int32)), (4, .int v2), (5, .int v3), (6, .int v4)] [.int v5] G U = qm_run pm_m big m_209 n0 81 [(0, .ref 70), (1, .int v0), (2, .int v1), (3, .int (1 : Int32)), (4, .int v2), (5, .int v3), (6, .int v4)] [.int (Int8.toInt32 (Int8.ofInt (-4))), .int v5] G U := rfl
theorem sg_ha_69 (big : Nat → List Value → qM → qW → qR) (n0 : Nat) (G : qM) (U : qW) (v0 : Int32) (v1 : Int32) (v2 : Int32) (v3 : Int32) (v4 : Int32) : qm_run pm_m big m_209 (n0 + 5) 84 [(0, .ref 70), (1, .int v0), (2, .int v1), (3, .int (1 : Int32)), (4, .int v2), (5, .int v3), (6, .int v4)] [] G U = qm_run pm_m big m_209 n0 94 [(0, .ref 70), (1, .int v0), (2, .int v1), (3, .int (1 : Int32)), (4, .int v2), (5, .int v3), (6, .int v4)] [.int v4, .int (G 70 4), .ref 75] G U := rfl
theorem sg_ha_70 (big : Nat → List Value → qM → qW → qR) (n0 : Nat) (G : qM) (U : qW) (v0 : Int32) (v1 : Int32) (v2 : Int32) (v3 : Int32) (v4 : Int32) : qm_run pm_m big m_209 (n0 + 5) 95 [(0, .ref 70), (1, .int v0), (2, .int v1), (3, .int (1 : Int32)), (4, .int v2), (5, .int v3), (6, .int v4)] [] G U = qm_run pm_m big m_209 n0 104 [(0, .ref 70), (1, .int v0), (2, .int v1), (3, .int (1 : Int32)), (4, .int v2), (5, .int v3), (6, .int v4)] [.int v0, .int (G 70 4), .ref 76] G U := rfl
theorem sg_ha_71 (big : Nat → List Value → qM → qW → qR) (n0 : Nat) (G : qM) (U : qW) (v0 : Int32) (v1 : Int32) (v2 : Int32) (v3 : Int32) (v4 : Int32) : qm_run pm_m big m_209 (n0 + 5) 105 [(0, .ref 70), (1, .int v0), (2, .int v1), (3, .int (1 : Int32)), (4, .int v2), (5, .int v3), (6, .int v4)] [] G U = qm_run pm_m big m_209 n0 114 [(0, .ref 70), (1, .int v0), (2, .int v1), (3, .int (1 : Int32)), (4, .int v2), (5, .int v3), (6, .int v4)] [.int (1 : Int32), .int (G 70 4), .ref 77] G U := rfl
theorem sg_ha_72 (big : Nat → List Value → qM → qW → qR) (n0 : Nat) (G : qM) (U : qW) (v0 : Int32) (v1 : Int32) (v2 : Int32) (v3 : Int32) (v4 : Int32) : qm_run pm_m big m_209 (n0 + 5) 115 [(0, .ref 70), (1, .int v0), (2, .int v1), (3, .int (1 : Int32)), (4, .int v2), (5, .int v3), (6, .int v4)] [] G U = qm_run pm_m big m_209 n0 125 [(0, .ref 70), (1, .int v0), (2, .int v1), (3, .int (1 : Int32)), (4, .int v2), (5, .int v3), (6, .int v4)] [.int (Int8.toInt32 (Int8.ofInt (-4))), .int (G 70 4), .ref 78] G U := rfl
theorem sg_ha_73 (big : Nat → List Value → qM → qW → qR) (n0 : Nat) (G : qM) (U : qW) (v0 : Int32) (v1 : Int32) (v2 : Int32) (v3 : Int32) (v4 : Int32) : qm_run pm_m big m_209 (n0 + 8) 126 [(0, .ref 70), (1, .int v0), (2, .int v1), (3, .int (1 : Int32)), (4, .int v2), (5, .int v3), (6, .int v4)] [] G U = qm_run pm_m big m_209 n0 139 [(0, .ref 70), (1, .int v0), (2, .int v1), (3, .int (1 : Int32)), (4, .int v2), (5, .int v3), (6, .int v4), (7, .int (0 : Int32))] [] (q_up G 70 27 ((G 70 4) + (1 : Int32))) U := rfl
theorem sg_ha_74 (big : Nat → List Value → qM → qW → qR) (n0 : Nat) (G : qM) (U : qW) (v0 : Int32) (v1 : Int32) (v2 : Int32) (v3 : Int32) (v4 : Int32) (v5 : Int32) : qm_run pm_m big m_209 (n0 + 1) 156 [(0, .ref 70), (1, .int v0), (2, .int v1), (3, .int (1 : Int32)), (4, .int v2), (5, .int v3), (6, .int v4), (7, .int v5)] [] G U = qm_run pm_m big m_209 n0 157 [(0, .ref 70), (1, .int v0), (2, .int v1), (3, .int (1 : Int32)), (4, .int v2), (5, .int v3), (6, .int v4), (7, .int v5)] [.ref 70] G U := rfl
theorem sg_ha_75 (big : Nat → List Value → qM → qW → qR) (n0 : Nat) (G : qM) (U : qW) (v0 : Int32) (v1 : Int32) (v2 : Int32) (v3 : Int32) (v4 : Int32) (v5 : Int32) (v6 : Int32) : qm_run pm_m big m_209 (n0 + 1) 160 [(0, .ref 70), (1, .int v0), (2, .int v1), (3, .int (1 : Int32)), (4, .int v2), (5, .int v3), (6, .int v4), (7, .int v5)] [.int v6] G U = qm_run pm_m big m_209 n0 162 [(0, .ref 70), (1, .int v0), (2, .int v1), (3, .int (1 : Int32)), (4, .int v2), (5, .int v3), (6, .int v4), (7, .int v5)] [.int v2, .int v6] G U := rfl
theorem sg_ha_76 (big : Nat → List Value → qM → qW → qR) (n0 : Nat) (G : qM) (U : qW) (v0 : Int32) (v1 : Int32) (v2 : Int32) (v3 : Int32) (v4 : Int32) (v5 : Int32) : qm_run pm_m big m_209 (n0 + 3) 170 [(0, .ref 70), (1, .int v0), (2, .int v1), (3, .int (1 : Int32)), (4, .int v2), (5, .int v3), (6, .int v4), (7, .int v5)] [] G U = qm_run pm_m big m_209 n0 175 [(0, .ref 70), (1, .int v0), (2, .int v1), (3, .int (1 : Int32)), (4, .int v2), (5, .int v3), (6, .int v4), (7, .int v5)] [.ref 70] G U := rfl
theorem sg_ha_77 (big : Nat → List Value → qM → qW → qR) (n0 : Nat) (G : qM) (U : qW) (v0 : Int32) (v1 : Int32) (v2 : Int32) (v3 : Int32) (v4 : Int32) (v5 : Int32) (v6 : Int32) : qm_run pm_m big m_209 (n0 + 1) 178 [(0, .ref 70), (1, .int v0), (2, .int v1), (3, .int (1 : Int32)), (4, .int v2), (5, .int v3), (6, .int v4), (7, .int v5)] [.int v6] G U = qm_run pm_m big m_209 n0 180 [(0, .ref 70), (1, .int v0), (2, .int v1), (3, .int (1 : Int32)), (4, .int v2), (5, .int v3), (6, .int v4), (7, .int v5)] [.int v2, .int v6] G U := rfl
theorem sg_ha_78 (big : Nat → List Value → qM → qW → qR) (n0 : Nat) (G : qM) (U : qW) (v0 : Int32) (v1 : Int32) (v2 : Int32) (v3 : Int32) (v4 : Int32) (v5 : Int32) : qm_run pm_m big m_209 (n0 + 4) 190 [(0, .ref 70), (1, .int v0), (2, .int v1), (3, .int (1 : Int32)), (4, .int v2), (5, .int v3), (6, .int v4), (7, .int v5)] [] G U = qm_run pm_m big m_209 n0 46 [(0, .ref 70), (1, .int v0), (2, .int v1), (3, .int (1 : Int32)), (4, .int v2), (5, .int v3), (6, .int (v4 + (1 : Int32))), (7, .int v5)] [] G U := rfl
theorem sg_ha_79 (big : Nat → List Value → qM → qW → qR) (n0 : Nat) (G : qM) (U : qW) (v0 : Int32) (v1 : Int32) (v2 : Int32) (v3 : Int32) (v4 : Int32) (v5 : Int32) : qm_run pm_m big m_209 (n0 + 4) 165 [(0, .ref 70), (1, .int v0), (2, .int v1), (3, .int (1 : Int32)), (4, .int v2), (5, .int v3), (6, .int v4), (7, .int v5)] [] G U = qm_run pm_m big m_209 n0 175 [(0, .ref 70), (1, .int v0), (2, .int v1), (3, .int (1 : Int32)), (4, .int v2), (5, .int v4), (6, .int v4), (7, .int v5)] [.ref 70] G U := rfl
theorem sg_ha_80 (big : Nat → List Value → qM → qW → qR) (n0 : Nat) (G : qM) (U : qW) (v0 : Int32) (v1 : Int32) (v2 : Int32) (v3 : Int32) (v4 : Int32) (v5 : Int32) : qm_run pm_m big m_209 (n0 + 1) 183 [(0, .ref 70), (1, .int v0), (2, .int v1), (3, .int (1 : Int32)), (4, .int v2), (5, .int v3), (6, .int v4), (7, .int v5)] [] G U = qm_run pm_m big m_209 n0 184 [(0, .ref 70), (1, .int v0), (2, .int v1), (3, .int (1 : Int32)), (4, .int v2), (5, .int v3), (6, .int v4), (7, .int v5)] [.ref 70] G U := rfl
theorem sg_ha_81 (big : Nat → List Value → qM → qW → qR) (n0 : Nat) (G : qM) (U : qW) (v0 : Int32) (v1 : Int32) (v2 : Int32) (v3 : Int32) (v4 : Int32) (v5 : Int32) (v6 : Int32) : qm_run pm_m big m_209 (n0 + 4) 187 [(0, .ref 70), (1, .int v0), (2, .int v1), (3, .int (1 : Int32)), (4, .int v2), (5, .int v3), (6, .int v4), (7, .int v5)] [.int v6] G U = qm_run pm_m big m_209 n0 46 [(0, .ref 70), (1, .int v0), (2, .int v1), (3, .int (1 : Int32)), (4, .int v6), (5, .int v3), (6, .int (v4 + (1 : Int32))), (7, .int v5)] [] G U := rfl
theorem sg_ha_82 (big : Nat → List Value → qM → qW → qR) (n0 : Nat) (G : qM) (U : qW) (v0 : Int32) (v1 : Int32) : qm_run pm_m big m_209 (n0 + 4) 0 [(0, .ref 70), (1, .int v0), (2, .int v1), (3, .int (1 : Int32))] [] G U = qm_run pm_m big m_209 n0 6 [(0, .ref 70), (1, .int v0), (2, .int v1), (3, .int (1 : Int32))] [.long (3 : Int64), .long (1 : Int64), .long (Int32.toInt64 v0)] G U := rfl
theorem sg_ha_83 (big : Nat → List Value → qM → qW → qR) (n0 : Nat) (G : qM) (U : qW) (v0 : Int32) (v1 : Int32) : qm_run pm_m big m_209 (n0 + 5) 9 [(0, .ref 70), (1, .int v0), (2, .int v1), (3, .int (1 : Int32))] [.int (1 : Int32)] G U = qm_run pm_m big m_209 n0 18 [(0, .ref 70), (1, .int v0), (2, .int v1), (3, .int (1 : Int32))] [.long (12 : Int64), .long (0 : Int64), .long (Int32.toInt64 v1)] G U := rfl
theorem sg_ha_84 (big : Nat → List Value → qM → qW → qR) (n0 : Nat) (G : qM) (U : qW) (v0 : Int32) (v1 : Int32) : qm_run pm_m big m_209 (n0 + 5) 21 [(0, .ref 70), (1, .int v0), (2, .int v1), (3, .int (1 : Int32))] [.int (1 : Int32)] G U = qm_run pm_m big m_209 n0 28 [(0, .ref 70), (1, .int v0), (2, .int v1), (3, .int (1 : Int32))] [.long (1 : Int64), .long (0 : Int64), .long (1 : Int64)] G U := rfl
theorem sg_ha_85 (big : Nat → List Value → qM → qW → qR) (n0 : Nat) (G : qM) (U : qW) (v0 : Int32) (v1 : Int32) : qm_run pm_m big m_209 (n0 + 7) 31 [(0, .ref 70), (1, .int v0), (2, .int v1), (3, .int (1 : Int32))] [.int (1 : Int32)] G U = qm_run pm_m big m_209 n0 46 [(0, .ref 70), (1, .int v0), (2, .int v1), (3, .int (1 : Int32)), (4, .int (Int32.ofInt (-1))), (5, .int (Int8.toInt32 (Int8.ofInt (-4)))), (6, .int (0 : Int32))] [] G U := rfl
theorem b_add35 (x y z : Int32) (g : qM) (u : qW) {n : Nat} (hn : g 35 3 = Int32.ofNat n) (h5 : n ≤ 5) : q_BS 32 [.ref 35, .int x, .int y, .int z] g u (none, s_mor n x y z g, u) := by
  refine q_bx (mm := m_32) rfl (Nat.le_of_ble_eq_true rfl) rfl ?_
  refine q_step 5 9 [(0, .ref 35), (1, .int x), (2, .int y), (3, .int z)] [.int (6 : Int32), .int (g 35 3)] g u (fun big n0 => sg_ha_1 big n0 g u x y z) ?_
  refine q_ic_ge rfl (fun hc0 => absurd (show (6 : Int32) ≤ (g 35 3) from hc0) (fun z => by rw [hn] at z; exact absurd ((q_le (i := 6) (j := n) (by omega) (by omega)).mp z) (by omega))) (fun (hc0 : ¬ ((6 : Int32) ≤ (g 35 3))) => ?_)
  refine q_step 5 21 [(0, .ref 35), (1, .int x), (2, .int y), (3, .int z)] [.int x, .int (g 35 3), .ref 36] g u (fun big n0 => sg_ha_2 big n0 g u x y z) ?_
  refine q_iast (j := n) (by rw [hn]; exact q_ixn (by omega) (by omega)) rfl rfl ?_
  refine q_step 5 31 [(0, .ref 35), (1, .int x), (2, .int y), (3, .int z)] [.int y, .int (g 35 3), .ref 37] (q_up g 36 n x) u (fun big n0 => sg_ha_3 big n0 (q_up g 36 n x) u x y z) ?_
  refine q_iast (j := n) (by rw [hn]; exact q_ixn (by omega) (by omega)) rfl rfl ?_
  refine q_step 5 41 [(0, .ref 35), (1, .int x), (2, .int y), (3, .int z)] [.int z, .int (g 35 3), .ref 38] (q_up (q_up g 36 n x) 37 n y) u (fun big n0 => sg_ha_4 big n0 (q_up (q_up g 36 n x) 37 n y) u x y z) ?_
  refine q_iast (j := n) (by rw [hn]; exact q_ixn (by omega) (by omega)) rfl rfl ?_
  refine q_ret 7 (none, (q_up (q_up (q_up (q_up g 36 n x) 37 n y) 38 n z) 35 3 ((g 35 3) + (1 : Int32))), u) (fun _ _ => rfl) ?_
  rfl
theorem w_frc {n c : Nat} {g r : qM} (hc : w_cs 20 n g r) : d_isFree (Int32.ofNat c) n g = if p_fr n r c = 0 then 0 else 1 := by
  unfold d_isFree p_fr
  rw [w_who_c (T := 20) hc]
  by_cases hw : s_bit (r 71 20) (Int32.ofNat c) = 0
  · rw [if_pos hw, if_pos (d_hw_iff.mpr (by rw [hc.1.2.2.2.1]; exact hw))]
    by_cases hn : f_who n r (Int32.ofNat c) = i_none
    · rw [if_pos hn, if_pos hn, if_neg (by decide)]
    · rw [if_neg hn, if_neg hn, if_pos rfl]
  · rw [if_neg hw, if_neg (show ¬ d_hasWall (Int32.ofNat c) g = 0 from fun z => hw (by rw [← hc.1.2.2.2.1]; exact d_hw_iff.mp z)), if_pos rfl]
theorem f_enc_none {N : Nat} {b : Option (Nat × Nat)} (h25 : N ≤ 25) (hN : n_hok N b) (h : f_enc b = i_none) : b = none := by
  match b, hN, h with
  | none, _, _ => rfl
  | some (x, s), hN, h =>
    have h : Int32.ofNat (x * 1024 + s) = i_none := h
    have h1 := hN x s rfl
    exact absurd h (q_none_ne (by omega))
theorem f_enc_some {b : Option (Nat × Nat)} (h : ¬ f_enc b = i_none) : ∃ x s, b = some (x, s) := by
  match b, h with
  | none, h => exact absurd rfl h
  | some (x, s), _ => exact ⟨x, s, rfl⟩
theorem bn_l (u : qW) {n W H m t : Nat} {r : qM} (h : w_ok n W H r) (h5 : n ≤ 5) (hm : 1 ≤ m ∧ m ≤ 3) (ht : t ≤ 60) (hWH : W * H ≤ 25) : ∀ k c b g, c + k = W * H → w_cs 20 n g r → (∀ p, p < n → g 24 p = r 78 p) → n_hok (W * H) b → q_EV m_111 7 [(0, .ref 34), (1, .ref 20), (2, .int (Int32.ofNat m)), (3, .int (Int32.ofNat t)), (4, .int (f_enc b)), (5, .int (Int32.ofNat c))] [] g u (w_po w_fc g (.int (f_enc (f_hb (p_fr n r) (n_hg n t m r) k c b)))) := by
  intro k
  induction k with
  | zero =>
    intro c b g hi hc hg hb
    refine q_step 2 10 [(0, .ref 34), (1, .ref 20), (2, .int (Int32.ofNat m)), (3, .int (Int32.ofNat t)), (4, .int (f_enc b)), (5, .int (Int32.ofNat c))] [.ref 20, .int (Int32.ofNat c)] g u (fun big n0 => sg_ha_5 big n0 g u (Int32.ofNat m) (Int32.ofNat t) (f_enc b) (Int32.ofNat c)) ?_
    refine q_call (M2 := 39) (rest := [.int (Int32.ofNat c)]) (b_size _ _) (fun _ _ => rfl) ?_
    refine q_ic_ge rfl (fun (hc0 : (d_size g) ≤ (Int32.ofNat c)) => ?_) (fun hc0 => absurd (show (d_size g) ≤ (Int32.ofNat c) from by unfold d_size; rw [hc.1.2.1, hc.1.2.2.1, w_size h]; exact (q_le (by omega) (by omega)).mpr (by omega)) hc0)
    refine q_ret 2 (some (.int (f_enc b)), g, u) (fun _ _ => rfl) ?_
    exact ⟨g, u, rfl, w_fc_rfl g⟩
  | succ k ih =>
    intro c b g hi hc hg hb
    refine q_step 2 10 [(0, .ref 34), (1, .ref 20), (2, .int (Int32.ofNat m)), (3, .int (Int32.ofNat t)), (4, .int (f_enc b)), (5, .int (Int32.ofNat c))] [.ref 20, .int (Int32.ofNat c)] g u (fun big n0 => sg_ha_5 big n0 g u (Int32.ofNat m) (Int32.ofNat t) (f_enc b) (Int32.ofNat c)) ?_
    refine q_call (M2 := 39) (rest := [.int (Int32.ofNat c)]) (b_size _ _) (fun _ _ => rfl) ?_
    refine q_ic_ge rfl (fun hc0 => absurd (show (d_size g) ≤ (Int32.ofNat c) from hc0) (fun z => by unfold d_size at z; rw [hc.1.2.1, hc.1.2.2.1, w_size h] at z; exact absurd ((q_le (by omega) (by omega)).mp z) (by omega))) (fun (hc0 : ¬ ((d_size g) ≤ (Int32.ofNat c))) => ?_)
    refine q_step 2 19 [(0, .ref 34), (1, .ref 20), (2, .int (Int32.ofNat m)), (3, .int (Int32.ofNat t)), (4, .int (f_enc b)), (5, .int (Int32.ofNat c))] [.int (Int32.ofNat c), .ref 20] g u (fun big n0 => sg_ha_6 big n0 g u (Int32.ofNat m) (Int32.ofNat t) (f_enc b) (Int32.ofNat c)) ?_
    by_cases hc1 : p_fr n r c = 0
    · refine q_call (M2 := 28) (rest := []) (show q_BS 28 [.ref 20, .int (Int32.ofNat c)] g u (some (.int (0 : Int32)), g, u) from by have e := b_isFree (Int32.ofNat c) n g u (hc.1.1.trans h.2.1) (by omega); rw [w_frc hc, if_pos hc1] at e; exact e) (fun _ _ => rfl) ?_
      refine q_step 3 7 [(0, .ref 34), (1, .ref 20), (2, .int (Int32.ofNat m)), (3, .int (Int32.ofNat t)), (4, .int (f_enc b)), (5, .int ((Int32.ofNat c) + (1 : Int32)))] [] g u (fun big n0 => sg_ha_7 big n0 g u (Int32.ofNat m) (Int32.ofNat t) (f_enc b) (Int32.ofNat c)) ?_
      have e : f_h1 (p_fr n r) (n_hg n t m r) c b = b := f_h1_no hc1
      rw [q_succ, f_hb, e]
      exact ih (c + 1) b g (by omega) hc hg hb
    · refine q_call (M2 := 28) (rest := []) (show q_BS 28 [.ref 20, .int (Int32.ofNat c)] g u (some (.int (1 : Int32)), g, u) from by have e := b_isFree (Int32.ofNat c) n g u (hc.1.1.trans h.2.1) (by omega); rw [w_frc hc, if_neg hc1] at e; exact e) (fun _ _ => rfl) ?_
      refine q_step 4 30 [(0, .ref 34), (1, .ref 20), (2, .int (Int32.ofNat m)), (3, .int (Int32.ofNat t)), (4, .int (f_enc b)), (5, .int (Int32.ofNat c))] [.ref 20, .ref 35] g u (fun big n0 => sg_ha_8 big n0 g u (Int32.ofNat m) (Int32.ofNat t) (f_enc b) (Int32.ofNat c)) ?_
      have hfr := p_fr_iff.mp hc1
      have hy := w_cpy (a := 35) (b := 20) (by omega) (by omega) hc
      have hx : q_ix ((s_cpy 35 20 g) 20 3) n 6 := by rw [s_cpy_o (by omega), hc.1.1, h.2.1]; exact q_ixn (by omega) (by omega)
      refine q_call (M2 := 41) (rest := []) (b_cpy35_20 _ _) (fun _ _ => rfl) ?_
      refine q_step 6 46 [(0, .ref 34), (1, .ref 20), (2, .int (Int32.ofNat m)), (3, .int (Int32.ofNat t)), (4, .int (f_enc b)), (5, .int (Int32.ofNat c))] [.int (Int8.toInt32 (Int8.ofInt (-4))), .int ((s_cpy 35 20 g) 20 3), .ref 39] (s_cpy 35 20 g) u (fun big n0 => sg_ha_9 big n0 (s_cpy 35 20 g) u (Int32.ofNat m) (Int32.ofNat t) (f_enc b) (Int32.ofNat c)) ?_
      refine q_iast (j := n) (hx) rfl rfl ?_
      refine q_step 5 55 [(0, .ref 34), (1, .ref 20), (2, .int (Int32.ofNat m)), (3, .int (Int32.ofNat t)), (4, .int (f_enc b)), (5, .int (Int32.ofNat c))] [.int (1 : Int32), .int (Int32.ofNat m), .int (Int32.ofNat c), .ref 35] (q_up (s_cpy 35 20 g) 39 n (Int8.toInt32 (Int8.ofInt (-4)))) u (fun big n0 => sg_ha_10 big n0 (q_up (s_cpy 35 20 g) 39 n (Int8.toInt32 (Int8.ofInt (-4)))) u (Int32.ofNat m) (Int32.ofNat t) (f_enc b) (Int32.ofNat c)) ?_
      have h3 : (s_cpy 35 20 g) 35 3 = Int32.ofNat n := hy.1.1.trans h.2.1
      have hok := w_ok_ha (c := c) (m := m) h h5 (by omega) hfr.1 hfr.2 hm
      have hcs := w_cs_ha (c := c) (m := m) h3 hy
      refine q_call (M2 := 32) (rest := []) (b_add35 (Int32.ofNat c) (Int32.ofNat m) 1 (q_up (s_cpy 35 20 g) 39 n (Int8.toInt32 (Int8.ofInt (-4)))) u (n := n) h3 h5) (fun _ _ => rfl) ?_
      refine q_step 5 67 [(0, .ref 34), (1, .ref 20), (2, .int (Int32.ofNat m)), (3, .int (Int32.ofNat t)), (4, .int (f_enc b)), (5, .int (Int32.ofNat c))] [.int (Int32.ofNat t), .ref 35, .ref 28] (s_mor n (Int32.ofNat c) (Int32.ofNat m) 1 (q_up (s_cpy 35 20 g) 39 n (Int8.toInt32 (Int8.ofInt (-4))))) u (fun big n0 => sg_ha_11 big n0 (s_mor n (Int32.ofNat c) (Int32.ofNat m) 1 (q_up (s_cpy 35 20 g) 39 n (Int8.toInt32 (Int8.ofInt (-4))))) u (Int32.ofNat m) (Int32.ofNat t) (f_enc b) (Int32.ofNat c)) ?_
      refine q_call (M2 := 76) (rest := []) (c_tss35 u hok hcs ht) (fun _ _ => rfl) ?_
      refine q_step 2 74 [(0, .ref 34), (1, .ref 20), (2, .int (Int32.ofNat m)), (3, .int (Int32.ofNat t)), (4, .int (f_enc b)), (5, .int (Int32.ofNat c))] [.ref 35] (q_up (s_tss 35 (n + 1) t (s_mor n (Int32.ofNat c) (Int32.ofNat m) 1 (q_up (s_cpy 35 20 g) 39 n (Int8.toInt32 (Int8.ofInt (-4)))))) 35 5 ((s_mor n (Int32.ofNat c) (Int32.ofNat m) 1 (q_up (s_cpy 35 20 g) 39 n (Int8.toInt32 (Int8.ofInt (-4))))) 35 5 + Int32.ofNat t)) u (fun big n0 => sg_ha_12 big n0 (q_up (s_tss 35 (n + 1) t (s_mor n (Int32.ofNat c) (Int32.ofNat m) 1 (q_up (s_cpy 35 20 g) 39 n (Int8.toInt32 (Int8.ofInt (-4)))))) 35 5 ((s_mor n (Int32.ofNat c) (Int32.ofNat m) 1 (q_up (s_cpy 35 20 g) 39 n (Int8.toInt32 (Int8.ofInt (-4))))) 35 5 + Int32.ofNat t)) u (Int32.ofNat m) (Int32.ofNat t) (f_enc b) (Int32.ofNat c)) ?_
      have hcs4 : w_cs 35 (n + 1) (q_up (s_tss 35 (n + 1) t (s_mor n (Int32.ofNat c) (Int32.ofNat m) 1 (q_up (s_cpy 35 20 g) 39 n (Int8.toInt32 (Int8.ofInt (-4)))))) 35 5 ((s_mor n (Int32.ofNat c) (Int32.ofNat m) 1 (q_up (s_cpy 35 20 g) 39 n (Int8.toInt32 (Int8.ofInt (-4))))) 35 5 + Int32.ofNat t)) (s_rit (n + 1) t (gh_ha n c m r)) := w_up35 (w_tss35 hok hcs t)
      have hg4 : ∀ p, p < n + 1 → (q_up (s_tss 35 (n + 1) t (s_mor n (Int32.ofNat c) (Int32.ofNat m) 1 (q_up (s_cpy 35 20 g) 39 n (Int8.toInt32 (Int8.ofInt (-4)))))) 35 5 ((s_mor n (Int32.ofNat c) (Int32.ofNat m) 1 (q_up (s_cpy 35 20 g) 39 n (Int8.toInt32 (Int8.ofInt (-4))))) 35 5 + Int32.ofNat t)) 39 p = s_rit (n + 1) t (gh_ha n c m r) 78 p := fun p hp => by
        rw [s_rit_g (by omega), gh_ha_78, q_up_ne (by omega)]
        refine (congrFun (s_tss_go (T := 35) (Or.inr rfl) t (s_mor n (Int32.ofNat c) (Int32.ofNat m) 1 (q_up (s_cpy 35 20 g) 39 n (Int8.toInt32 (Int8.ofInt (-4)))))) p).trans ?_
        show q_up (s_cpy 35 20 g) 39 n i_none 39 p = _
        rw [q_up_at]
        split
        · rfl
        · rw [show (s_cpy 35 20 g) 39 p = g 24 p from s_cpy_4 (a := 35) (b := 20) (by omega) (by omega)]
          exact hg p (by omega)
      have hag := b_atg35 (q_up (s_tss 35 (n + 1) t (s_mor n (Int32.ofNat c) (Int32.ofNat m) 1 (q_up (s_cpy 35 20 g) 39 n (Int8.toInt32 (Int8.ofInt (-4)))))) 35 5 ((s_mor n (Int32.ofNat c) (Int32.ofNat m) 1 (q_up (s_cpy 35 20 g) 39 n (Int8.toInt32 (Int8.ofInt (-4))))) 35 5 + Int32.ofNat t)) u (hcs4.1.1.trans (w_ok_rit t _ hok).2.1) (by omega)
      rw [w_at_c (T := 35) (w_ok_rit t _ hok) hcs4 hg4, f_at_n] at hag
      have hA : n_hg n t m r c ≤ 6 := Nat.le_trans (n_at_le (n + 1) _) (by omega)
      have hfc : w_fc g (q_up (s_tss 35 (n + 1) t (s_mor n (Int32.ofNat c) (Int32.ofNat m) 1 (q_up (s_cpy 35 20 g) 39 n (Int8.toInt32 (Int8.ofInt (-4)))))) 35 5 ((s_mor n (Int32.ofNat c) (Int32.ofNat m) 1 (q_up (s_cpy 35 20 g) 39 n (Int8.toInt32 (Int8.ofInt (-4))))) 35 5 + Int32.ofNat t)) := w_fc.up (w_fc.trans (w_fc.trans (w_fc.up w_cpy_fc (by omega)) s_mor_fc) (s_tss_35 t _)) (by omega)
      refine q_call (M2 := 78) (rest := []) (hag) (fun _ _ => rfl) ?_
      refine q_step 3 83 [(0, .ref 34), (1, .ref 20), (2, .int (Int32.ofNat m)), (3, .int (Int32.ofNat t)), (4, .int (f_enc b)), (5, .int (Int32.ofNat c)), (6, .int (Int32.ofNat (n_hg n t m r c)))] [.int (Int8.toInt32 (Int8.ofInt (-4))), .int (f_enc b)] (q_up (s_tss 35 (n + 1) t (s_mor n (Int32.ofNat c) (Int32.ofNat m) 1 (q_up (s_cpy 35 20 g) 39 n (Int8.toInt32 (Int8.ofInt (-4)))))) 35 5 ((s_mor n (Int32.ofNat c) (Int32.ofNat m) 1 (q_up (s_cpy 35 20 g) 39 n (Int8.toInt32 (Int8.ofInt (-4))))) 35 5 + Int32.ofNat t)) u (fun big n0 => sg_ha_13 big n0 (q_up (s_tss 35 (n + 1) t (s_mor n (Int32.ofNat c) (Int32.ofNat m) 1 (q_up (s_cpy 35 20 g) 39 n (Int8.toInt32 (Int8.ofInt (-4)))))) 35 5 ((s_mor n (Int32.ofNat c) (Int32.ofNat m) 1 (q_up (s_cpy 35 20 g) 39 n (Int8.toInt32 (Int8.ofInt (-4))))) 35 5 + Int32.ofNat t)) u (Int32.ofNat m) (Int32.ofNat t) (f_enc b) (Int32.ofNat c) (Int32.ofNat (n_hg n t m r c))) ?_
      refine q_ic_eq rfl (fun (hc2 : (f_enc b) = (Int8.toInt32 (Int8.ofInt (-4)))) => ?_) (fun (hc2 : ¬ ((f_enc b) = (Int8.toInt32 (Int8.ofInt (-4))))) => ?_)
      · refine q_step 8 7 [(0, .ref 34), (1, .ref 20), (2, .int (Int32.ofNat m)), (3, .int (Int32.ofNat t)), (4, .int (((Int32.ofNat c) * (1024 : Int32)) + (Int32.ofNat (n_hg n t m r c)))), (5, .int ((Int32.ofNat c) + (1 : Int32))), (6, .int (Int32.ofNat (n_hg n t m r c)))] [] (q_up (s_tss 35 (n + 1) t (s_mor n (Int32.ofNat c) (Int32.ofNat m) 1 (q_up (s_cpy 35 20 g) 39 n (Int8.toInt32 (Int8.ofInt (-4)))))) 35 5 ((s_mor n (Int32.ofNat c) (Int32.ofNat m) 1 (q_up (s_cpy 35 20 g) 39 n (Int8.toInt32 (Int8.ofInt (-4))))) 35 5 + Int32.ofNat t)) u (fun big n0 => sg_ha_14 big n0 (q_up (s_tss 35 (n + 1) t (s_mor n (Int32.ofNat c) (Int32.ofNat m) 1 (q_up (s_cpy 35 20 g) 39 n (Int8.toInt32 (Int8.ofInt (-4)))))) 35 5 ((s_mor n (Int32.ofNat c) (Int32.ofNat m) 1 (q_up (s_cpy 35 20 g) 39 n (Int8.toInt32 (Int8.ofInt (-4))))) 35 5 + Int32.ofNat t)) u (Int32.ofNat m) (Int32.ofNat t) (f_enc b) (Int32.ofNat c) (Int32.ofNat (n_hg n t m r c))) ?_
        have eb : b = none := f_enc_none hWH hb hc2
        have e : f_h1 (p_fr n r) (n_hg n t m r) c b = (some (c, n_hg n t m r c)) := f_h1_new hc1 (fun x t e => by rw [eb] at e; cases e)
        refine q_weak [(0, .ref 34), (1, .ref 20), (2, .int (Int32.ofNat m)), (3, .int (Int32.ofNat t)), (4, .int (((Int32.ofNat c) * (1024 : Int32)) + (Int32.ofNat (n_hg n t m r c)))), (5, .int ((Int32.ofNat c) + (1 : Int32)))] (q_sub.cons rfl (q_sub.cons rfl (q_sub.cons rfl (q_sub.cons rfl (q_sub.cons rfl (q_sub.cons rfl q_sub.nil)))))) ?_
        rw [q_succ, f_hb, e, show Int32.ofNat c * (1024 : Int32) + Int32.ofNat (n_hg n t m r c) = f_enc (some (c, n_hg n t m r c)) from by rw [show (1024 : Int32) = Int32.ofNat 1024 from rfl, q_mul, q_add]; rfl]
        exact q_EV.imp (ih (c + 1) (some (c, n_hg n t m r c)) _ (by omega) (w_cs_fc hfc hc) (fun p hp => by rw [hfc 24 (by omega)]; exact hg p hp) (by rw [← e]; exact n_hok_1 hA (by omega) hb)) (fun R z => w_po_c hfc rfl z)
      · refine q_step 2 90 [(0, .ref 34), (1, .ref 20), (2, .int (Int32.ofNat m)), (3, .int (Int32.ofNat t)), (4, .int (f_enc b)), (5, .int (Int32.ofNat c)), (6, .int (Int32.ofNat (n_hg n t m r c)))] [.int (f_enc b), .int (Int32.ofNat (n_hg n t m r c))] (q_up (s_tss 35 (n + 1) t (s_mor n (Int32.ofNat c) (Int32.ofNat m) 1 (q_up (s_cpy 35 20 g) 39 n (Int8.toInt32 (Int8.ofInt (-4)))))) 35 5 ((s_mor n (Int32.ofNat c) (Int32.ofNat m) 1 (q_up (s_cpy 35 20 g) 39 n (Int8.toInt32 (Int8.ofInt (-4))))) 35 5 + Int32.ofNat t)) u (fun big n0 => sg_ha_15 big n0 (q_up (s_tss 35 (n + 1) t (s_mor n (Int32.ofNat c) (Int32.ofNat m) 1 (q_up (s_cpy 35 20 g) 39 n (Int8.toInt32 (Int8.ofInt (-4)))))) 35 5 ((s_mor n (Int32.ofNat c) (Int32.ofNat m) 1 (q_up (s_cpy 35 20 g) 39 n (Int8.toInt32 (Int8.ofInt (-4))))) 35 5 + Int32.ofNat t)) u (Int32.ofNat m) (Int32.ofNat t) (f_enc b) (Int32.ofNat c) (Int32.ofNat (n_hg n t m r c))) ?_
        obtain ⟨x, s, ebs⟩ := f_enc_some hc2
        have hxs := hb x s ebs
        have hlo := b_lo (a := x) (b := s) (q_up (s_tss 35 (n + 1) t (s_mor n (Int32.ofNat c) (Int32.ofNat m) 1 (q_up (s_cpy 35 20 g) 39 n (Int8.toInt32 (Int8.ofInt (-4)))))) 35 5 ((s_mor n (Int32.ofNat c) (Int32.ofNat m) 1 (q_up (s_cpy 35 20 g) 39 n (Int8.toInt32 (Int8.ofInt (-4))))) 35 5 + Int32.ofNat t)) u (by omega) (by omega)
        rw [show Int32.ofNat (x * 1024 + s) = f_enc b from by rw [ebs]; rfl] at hlo
        refine q_call (M2 := 88) (rest := [.int (Int32.ofNat (n_hg n t m r c))]) (hlo) (fun _ _ => rfl) ?_
        refine q_ic_le rfl (fun (hc3 : (Int32.ofNat (n_hg n t m r c)) ≤ (Int32.ofNat s)) => ?_) (fun (hc3 : ¬ ((Int32.ofNat (n_hg n t m r c)) ≤ (Int32.ofNat s))) => ?_)
        · refine q_step 2 7 [(0, .ref 34), (1, .ref 20), (2, .int (Int32.ofNat m)), (3, .int (Int32.ofNat t)), (4, .int (f_enc b)), (5, .int ((Int32.ofNat c) + (1 : Int32))), (6, .int (Int32.ofNat (n_hg n t m r c)))] [] (q_up (s_tss 35 (n + 1) t (s_mor n (Int32.ofNat c) (Int32.ofNat m) 1 (q_up (s_cpy 35 20 g) 39 n (Int8.toInt32 (Int8.ofInt (-4)))))) 35 5 ((s_mor n (Int32.ofNat c) (Int32.ofNat m) 1 (q_up (s_cpy 35 20 g) 39 n (Int8.toInt32 (Int8.ofInt (-4))))) 35 5 + Int32.ofNat t)) u (fun big n0 => sg_ha_16 big n0 (q_up (s_tss 35 (n + 1) t (s_mor n (Int32.ofNat c) (Int32.ofNat m) 1 (q_up (s_cpy 35 20 g) 39 n (Int8.toInt32 (Int8.ofInt (-4)))))) 35 5 ((s_mor n (Int32.ofNat c) (Int32.ofNat m) 1 (q_up (s_cpy 35 20 g) 39 n (Int8.toInt32 (Int8.ofInt (-4))))) 35 5 + Int32.ofNat t)) u (Int32.ofNat m) (Int32.ofNat t) (f_enc b) (Int32.ofNat c) (Int32.ofNat (n_hg n t m r c))) ?_
          have e : f_h1 (p_fr n r) (n_hg n t m r) c b = b := f_h1_old hc1 ebs (by have z := (q_le (by omega) (by omega)).mp hc3; omega)
          refine q_weak [(0, .ref 34), (1, .ref 20), (2, .int (Int32.ofNat m)), (3, .int (Int32.ofNat t)), (4, .int (f_enc b)), (5, .int ((Int32.ofNat c) + (1 : Int32)))] (q_sub.cons rfl (q_sub.cons rfl (q_sub.cons rfl (q_sub.cons rfl (q_sub.cons rfl (q_sub.cons rfl q_sub.nil)))))) ?_
          rw [q_succ, f_hb, e]
          exact q_EV.imp (ih (c + 1) b _ (by omega) (w_cs_fc hfc hc) (fun p hp => by rw [hfc 24 (by omega)]; exact hg p hp) hb) (fun R z => w_po_c hfc rfl z)
        · refine q_step 8 7 [(0, .ref 34), (1, .ref 20), (2, .int (Int32.ofNat m)), (3, .int (Int32.ofNat t)), (4, .int (((Int32.ofNat c) * (1024 : Int32)) + (Int32.ofNat (n_hg n t m r c)))), (5, .int ((Int32.ofNat c) + (1 : Int32))), (6, .int (Int32.ofNat (n_hg n t m r c)))] [] (q_up (s_tss 35 (n + 1) t (s_mor n (Int32.ofNat c) (Int32.ofNat m) 1 (q_up (s_cpy 35 20 g) 39 n (Int8.toInt32 (Int8.ofInt (-4)))))) 35 5 ((s_mor n (Int32.ofNat c) (Int32.ofNat m) 1 (q_up (s_cpy 35 20 g) 39 n (Int8.toInt32 (Int8.ofInt (-4))))) 35 5 + Int32.ofNat t)) u (fun big n0 => sg_ha_14 big n0 (q_up (s_tss 35 (n + 1) t (s_mor n (Int32.ofNat c) (Int32.ofNat m) 1 (q_up (s_cpy 35 20 g) 39 n (Int8.toInt32 (Int8.ofInt (-4)))))) 35 5 ((s_mor n (Int32.ofNat c) (Int32.ofNat m) 1 (q_up (s_cpy 35 20 g) 39 n (Int8.toInt32 (Int8.ofInt (-4))))) 35 5 + Int32.ofNat t)) u (Int32.ofNat m) (Int32.ofNat t) (f_enc b) (Int32.ofNat c) (Int32.ofNat (n_hg n t m r c))) ?_
          have e : f_h1 (p_fr n r) (n_hg n t m r) c b = (some (c, n_hg n t m r c)) := f_h1_new hc1 (fun x2 t2 e2 => by
            rw [ebs] at e2
            cases e2
            have z : ¬ n_hg n t m r c ≤ s := fun y => hc3 ((q_le (by omega) (by omega)).mpr y)
            omega)
          refine q_weak [(0, .ref 34), (1, .ref 20), (2, .int (Int32.ofNat m)), (3, .int (Int32.ofNat t)), (4, .int (((Int32.ofNat c) * (1024 : Int32)) + (Int32.ofNat (n_hg n t m r c)))), (5, .int ((Int32.ofNat c) + (1 : Int32)))] (q_sub.cons rfl (q_sub.cons rfl (q_sub.cons rfl (q_sub.cons rfl (q_sub.cons rfl (q_sub.cons rfl q_sub.nil)))))) ?_
          rw [q_succ, f_hb, e, show Int32.ofNat c * (1024 : Int32) + Int32.ofNat (n_hg n t m r c) = f_enc (some (c, n_hg n t m r c)) from by rw [show (1024 : Int32) = Int32.ofNat 1024 from rfl, q_mul, q_add]; rfl]
          exact q_EV.imp (ih (c + 1) (some (c, n_hg n t m r c)) _ (by omega) (w_cs_fc hfc hc) (fun p hp => by rw [hfc 24 (by omega)]; exact hg p hp) (by rw [← e]; exact n_hok_1 hA (by omega) hb)) (fun R z => w_po_c hfc rfl z)
theorem c_nail111 {n W H : Nat} {g r : qM} (u : qW) (h : w_ok n W H r) (hc : w_cs 20 n g r) {m t : Nat} (h5 : n ≤ 5) (hm : 1 ≤ m ∧ m ≤ 3) (ht : t ≤ 60) (hg : ∀ p, p < n → g 24 p = r 78 p) : w_BS w_fc 111 [.ref 34, .ref 20, .int (Int32.ofNat m), .int (Int32.ofNat t)] g u (.int (f_enc (f_hang n W H t m r))) := by
  refine w_bs (mm := m_111) rfl (Nat.le_of_ble_eq_true rfl) rfl ?_
  refine q_step 4 7 [(0, .ref 34), (1, .ref 20), (2, .int (Int32.ofNat m)), (3, .int (Int32.ofNat t)), (4, .int (Int8.toInt32 (Int8.ofInt (-4)))), (5, .int (0 : Int32))] [] g u (fun big n0 => sg_ha_17 big n0 g u (Int32.ofNat m) (Int32.ofNat t)) ?_
  exact bn_l u h h5 hm ht (w_WH h) (W * H) 0 none g (by omega) hc hg (fun x t e => by cases e)
theorem f_hb_ok {F A : Nat → Nat} {N : Nat} (hA : ∀ c, A c ≤ 6) : ∀ k c b, c + k = N → n_hok N b → n_hok N (f_hb F A k c b)
  | 0, _, _, _, h => h
  | k + 1, c, b, hc, h => f_hb_ok hA k (c + 1) _ (by omega) (n_hok_1 (hA c) (by omega) h)
theorem c_hang0 {n W H : Nat} {g r : qM} (u : qW) (h : w_ok n W H r) (hc : w_cs 20 n g r) {m t : Nat} (h5 : n ≤ 5) (hm : 1 ≤ m ∧ m ≤ 3) (ht : t ≤ 12) (hg : ∀ p, p < n → g 24 p = r 78 p) : w_BS w_fc 110 [.ref 8, .int (Int32.ofNat m), .int (Int32.ofNat t), .int (0 : Int32)] g u (.int (f_agw 0 (f_hang n W H t m r))) := by
  refine w_bs (mm := m_110) rfl (Nat.le_of_ble_eq_true rfl) rfl ?_
  obtain ⟨g1, u1, hb, hf⟩ := c_nail111 u h hc (m := m) (t := t) h5 hm (by omega) hg
  have hWH := w_WH h
  have hok : n_hok (W * H) (f_hang n W H t m r) := f_hb_ok (fun c => Nat.le_trans (n_at_le (n + 1) _) (by omega)) (W * H) 0 none (by omega) (fun x t e => by cases e)
  cases hF : f_hang n W H t m r with
  | none =>
    rw [hF] at hb
    refine q_step 2 2 [(0, .ref 8), (1, .int (Int32.ofNat m)), (2, .int (Int32.ofNat t)), (3, .int (0 : Int32))] [.int (1 : Int32), .int (Int32.ofNat m)] g u (fun big n0 => sg_ha_18 big n0 g u (Int32.ofNat m) (Int32.ofNat t)) ?_
    refine q_ic_lt rfl (fun hc0 => absurd (show (Int32.ofNat m) < (1 : Int32) from hc0) (fun z => absurd ((q_lt (i := m) (j := 1) (by omega) (by omega)).mp z) (by omega))) (fun (hc0 : ¬ ((Int32.ofNat m) < (1 : Int32))) => ?_)
    refine q_step 2 7 [(0, .ref 8), (1, .int (Int32.ofNat m)), (2, .int (Int32.ofNat t)), (3, .int (0 : Int32))] [.int (3 : Int32), .int (Int32.ofNat m)] g u (fun big n0 => sg_ha_19 big n0 g u (Int32.ofNat m) (Int32.ofNat t)) ?_
    refine q_ic_gt rfl (fun hc1 => absurd (show (3 : Int32) < (Int32.ofNat m) from hc1) (fun z => absurd ((q_lt (i := 3) (j := m) (by omega) (by omega)).mp z) (by omega))) (fun (hc1 : ¬ ((3 : Int32) < (Int32.ofNat m))) => ?_)
    refine q_step 1 11 [(0, .ref 8), (1, .int (Int32.ofNat m)), (2, .int (Int32.ofNat t)), (3, .int (0 : Int32))] [.int (Int32.ofNat t)] g u (fun big n0 => sg_ha_20 big n0 g u (Int32.ofNat m) (Int32.ofNat t)) ?_
    refine q_call (M2 := 90) (rest := []) (b_srch1 g u ht) (fun _ _ => rfl) ?_
    refine q_step 2 18 [(0, .ref 8), (1, .int (Int32.ofNat m)), (2, .int (Int32.ofNat t)), (3, .int (0 : Int32))] [.int (0 : Int32)] g u (fun big n0 => sg_ha_21 big n0 g u (Int32.ofNat m) (Int32.ofNat t)) ?_
    refine q_call (M2 := 57) (rest := []) (show q_BS 57 [.int (0 : Int32)] g u (some (.int 1), g, u) from b_isHalf 0 g u) (fun _ _ => rfl) ?_
    refine q_step 7 36 [(0, .ref 8), (1, .int (Int32.ofNat m)), (2, .int (Int32.ofNat t)), (3, .int (0 : Int32))] [.int (Int32.ofNat t), .int (Int32.ofNat m), .ref 20, .ref 34] g u (fun big n0 => sg_ha_22 big n0 g u (Int32.ofNat m) (Int32.ofNat t)) ?_
    refine q_call (M2 := 111) (rest := []) (hb) (fun _ _ => rfl) ?_
    refine q_ret 6 (some (.int (Int8.toInt32 (Int8.ofInt (-4)))), g1, u1) (fun _ _ => rfl) ?_
    exact ⟨g1, u1, rfl, hf⟩
  | some z =>
    obtain ⟨a, b⟩ := z
    rw [hF] at hb
    have hl := hok a b hF
    refine q_step 2 2 [(0, .ref 8), (1, .int (Int32.ofNat m)), (2, .int (Int32.ofNat t)), (3, .int (0 : Int32))] [.int (1 : Int32), .int (Int32.ofNat m)] g u (fun big n0 => sg_ha_18 big n0 g u (Int32.ofNat m) (Int32.ofNat t)) ?_
    refine q_ic_lt rfl (fun hc0 => absurd (show (Int32.ofNat m) < (1 : Int32) from hc0) (fun z => absurd ((q_lt (i := m) (j := 1) (by omega) (by omega)).mp z) (by omega))) (fun (hc0 : ¬ ((Int32.ofNat m) < (1 : Int32))) => ?_)
    refine q_step 2 7 [(0, .ref 8), (1, .int (Int32.ofNat m)), (2, .int (Int32.ofNat t)), (3, .int (0 : Int32))] [.int (3 : Int32), .int (Int32.ofNat m)] g u (fun big n0 => sg_ha_19 big n0 g u (Int32.ofNat m) (Int32.ofNat t)) ?_
    refine q_ic_gt rfl (fun hc1 => absurd (show (3 : Int32) < (Int32.ofNat m) from hc1) (fun z => absurd ((q_lt (i := 3) (j := m) (by omega) (by omega)).mp z) (by omega))) (fun (hc1 : ¬ ((3 : Int32) < (Int32.ofNat m))) => ?_)
    refine q_step 1 11 [(0, .ref 8), (1, .int (Int32.ofNat m)), (2, .int (Int32.ofNat t)), (3, .int (0 : Int32))] [.int (Int32.ofNat t)] g u (fun big n0 => sg_ha_20 big n0 g u (Int32.ofNat m) (Int32.ofNat t)) ?_
    refine q_call (M2 := 90) (rest := []) (b_srch1 g u ht) (fun _ _ => rfl) ?_
    refine q_step 2 18 [(0, .ref 8), (1, .int (Int32.ofNat m)), (2, .int (Int32.ofNat t)), (3, .int (0 : Int32))] [.int (0 : Int32)] g u (fun big n0 => sg_ha_21 big n0 g u (Int32.ofNat m) (Int32.ofNat t)) ?_
    refine q_call (M2 := 57) (rest := []) (show q_BS 57 [.int (0 : Int32)] g u (some (.int 1), g, u) from b_isHalf 0 g u) (fun _ _ => rfl) ?_
    refine q_step 7 36 [(0, .ref 8), (1, .int (Int32.ofNat m)), (2, .int (Int32.ofNat t)), (3, .int (0 : Int32))] [.int (Int32.ofNat t), .int (Int32.ofNat m), .ref 20, .ref 34] g u (fun big n0 => sg_ha_22 big n0 g u (Int32.ofNat m) (Int32.ofNat t)) ?_
    refine q_call (M2 := 111) (rest := []) (hb) (fun _ _ => rfl) ?_
    refine q_step 3 45 [(0, .ref 8), (1, .int (Int32.ofNat m)), (2, .int (Int32.ofNat t)), (3, .int (0 : Int32)), (4, .int (Int32.ofNat (a * 1024 + b)))] [.int (Int8.toInt32 (Int8.ofInt (-4))), .int (Int32.ofNat (a * 1024 + b))] g1 u1 (fun big n0 => sg_ha_23 big n0 g1 u1 (Int32.ofNat m) (Int32.ofNat t) (Int32.ofNat (a * 1024 + b))) ?_
    refine q_ic_ne rfl (fun hc2 => absurd (show (Int32.ofNat (a * 1024 + b)) = (Int8.toInt32 (Int8.ofInt (-4))) from hc2) (q_none_ne (by omega))) (fun (hc2 : ¬ ((Int32.ofNat (a * 1024 + b)) = (Int8.toInt32 (Int8.ofInt (-4))))) => ?_)
    refine q_step 3 57 [(0, .ref 8), (1, .int (Int32.ofNat m)), (2, .int (Int32.ofNat t)), (3, .int (0 : Int32)), (4, .int (Int32.ofNat (a * 1024 + b)))] [.int (Int32.ofNat (a * 1024 + b))] g1 u1 (fun big n0 => sg_ha_24 big n0 g1 u1 (Int32.ofNat m) (Int32.ofNat t) (Int32.ofNat (a * 1024 + b))) ?_
    refine q_call (M2 := 87) (rest := []) (b_up g1 u1 (by omega) (by omega)) (fun _ _ => rfl) ?_
    refine q_ret 2 (some (.int (Int32.ofNat a)), g1, u1) (fun _ _ => rfl) ?_
    exact ⟨g1, u1, rfl, hf⟩
theorem c_hang1 {n W H : Nat} {g r : qM} (u : qW) (h : w_ok n W H r) (hc : w_cs 20 n g r) {m t : Nat} (h5 : n ≤ 5) (hm : 1 ≤ m ∧ m ≤ 3) (ht : t ≤ 12) (hg : ∀ p, p < n → g 24 p = r 78 p) : w_BS w_fc 110 [.ref 8, .int (Int32.ofNat m), .int (Int32.ofNat t), .int (1 : Int32)] g u (.int (f_agw 1 (f_hang n W H t m r))) := by
  refine w_bs (mm := m_110) rfl (Nat.le_of_ble_eq_true rfl) rfl ?_
  obtain ⟨g1, u1, hb, hf⟩ := c_nail111 u h hc (m := m) (t := t) h5 hm (by omega) hg
  have hWH := w_WH h
  have hok : n_hok (W * H) (f_hang n W H t m r) := f_hb_ok (fun c => Nat.le_trans (n_at_le (n + 1) _) (by omega)) (W * H) 0 none (by omega) (fun x t e => by cases e)
  cases hF : f_hang n W H t m r with
  | none =>
    rw [hF] at hb
    refine q_step 2 2 [(0, .ref 8), (1, .int (Int32.ofNat m)), (2, .int (Int32.ofNat t)), (3, .int (1 : Int32))] [.int (1 : Int32), .int (Int32.ofNat m)] g u (fun big n0 => sg_ha_25 big n0 g u (Int32.ofNat m) (Int32.ofNat t)) ?_
    refine q_ic_lt rfl (fun hc0 => absurd (show (Int32.ofNat m) < (1 : Int32) from hc0) (fun z => absurd ((q_lt (i := m) (j := 1) (by omega) (by omega)).mp z) (by omega))) (fun (hc0 : ¬ ((Int32.ofNat m) < (1 : Int32))) => ?_)
    refine q_step 2 7 [(0, .ref 8), (1, .int (Int32.ofNat m)), (2, .int (Int32.ofNat t)), (3, .int (1 : Int32))] [.int (3 : Int32), .int (Int32.ofNat m)] g u (fun big n0 => sg_ha_26 big n0 g u (Int32.ofNat m) (Int32.ofNat t)) ?_
    refine q_ic_gt rfl (fun hc1 => absurd (show (3 : Int32) < (Int32.ofNat m) from hc1) (fun z => absurd ((q_lt (i := 3) (j := m) (by omega) (by omega)).mp z) (by omega))) (fun (hc1 : ¬ ((3 : Int32) < (Int32.ofNat m))) => ?_)
    refine q_step 1 11 [(0, .ref 8), (1, .int (Int32.ofNat m)), (2, .int (Int32.ofNat t)), (3, .int (1 : Int32))] [.int (Int32.ofNat t)] g u (fun big n0 => sg_ha_27 big n0 g u (Int32.ofNat m) (Int32.ofNat t)) ?_
    refine q_call (M2 := 90) (rest := []) (b_srch1 g u ht) (fun _ _ => rfl) ?_
    refine q_step 2 18 [(0, .ref 8), (1, .int (Int32.ofNat m)), (2, .int (Int32.ofNat t)), (3, .int (1 : Int32))] [.int (1 : Int32)] g u (fun big n0 => sg_ha_28 big n0 g u (Int32.ofNat m) (Int32.ofNat t)) ?_
    refine q_call (M2 := 57) (rest := []) (show q_BS 57 [.int (1 : Int32)] g u (some (.int 1), g, u) from b_isHalf 1 g u) (fun _ _ => rfl) ?_
    refine q_step 7 36 [(0, .ref 8), (1, .int (Int32.ofNat m)), (2, .int (Int32.ofNat t)), (3, .int (1 : Int32))] [.int (Int32.ofNat t), .int (Int32.ofNat m), .ref 20, .ref 34] g u (fun big n0 => sg_ha_29 big n0 g u (Int32.ofNat m) (Int32.ofNat t)) ?_
    refine q_call (M2 := 111) (rest := []) (hb) (fun _ _ => rfl) ?_
    refine q_ret 6 (some (.int (Int8.toInt32 (Int8.ofInt (-4)))), g1, u1) (fun _ _ => rfl) ?_
    exact ⟨g1, u1, rfl, hf⟩
  | some z =>
    obtain ⟨a, b⟩ := z
    rw [hF] at hb
    have hl := hok a b hF
    refine q_step 2 2 [(0, .ref 8), (1, .int (Int32.ofNat m)), (2, .int (Int32.ofNat t)), (3, .int (1 : Int32))] [.int (1 : Int32), .int (Int32.ofNat m)] g u (fun big n0 => sg_ha_25 big n0 g u (Int32.ofNat m) (Int32.ofNat t)) ?_
    refine q_ic_lt rfl (fun hc0 => absurd (show (Int32.ofNat m) < (1 : Int32) from hc0) (fun z => absurd ((q_lt (i := m) (j := 1) (by omega) (by omega)).mp z) (by omega))) (fun (hc0 : ¬ ((Int32.ofNat m) < (1 : Int32))) => ?_)
    refine q_step 2 7 [(0, .ref 8), (1, .int (Int32.ofNat m)), (2, .int (Int32.ofNat t)), (3, .int (1 : Int32))] [.int (3 : Int32), .int (Int32.ofNat m)] g u (fun big n0 => sg_ha_26 big n0 g u (Int32.ofNat m) (Int32.ofNat t)) ?_
    refine q_ic_gt rfl (fun hc1 => absurd (show (3 : Int32) < (Int32.ofNat m) from hc1) (fun z => absurd ((q_lt (i := 3) (j := m) (by omega) (by omega)).mp z) (by omega))) (fun (hc1 : ¬ ((3 : Int32) < (Int32.ofNat m))) => ?_)
    refine q_step 1 11 [(0, .ref 8), (1, .int (Int32.ofNat m)), (2, .int (Int32.ofNat t)), (3, .int (1 : Int32))] [.int (Int32.ofNat t)] g u (fun big n0 => sg_ha_27 big n0 g u (Int32.ofNat m) (Int32.ofNat t)) ?_
    refine q_call (M2 := 90) (rest := []) (b_srch1 g u ht) (fun _ _ => rfl) ?_
    refine q_step 2 18 [(0, .ref 8), (1, .int (Int32.ofNat m)), (2, .int (Int32.ofNat t)), (3, .int (1 : Int32))] [.int (1 : Int32)] g u (fun big n0 => sg_ha_28 big n0 g u (Int32.ofNat m) (Int32.ofNat t)) ?_
    refine q_call (M2 := 57) (rest := []) (show q_BS 57 [.int (1 : Int32)] g u (some (.int 1), g, u) from b_isHalf 1 g u) (fun _ _ => rfl) ?_
    refine q_step 7 36 [(0, .ref 8), (1, .int (Int32.ofNat m)), (2, .int (Int32.ofNat t)), (3, .int (1 : Int32))] [.int (Int32.ofNat t), .int (Int32.ofNat m), .ref 20, .ref 34] g u (fun big n0 => sg_ha_29 big n0 g u (Int32.ofNat m) (Int32.ofNat t)) ?_
    refine q_call (M2 := 111) (rest := []) (hb) (fun _ _ => rfl) ?_
    refine q_step 3 45 [(0, .ref 8), (1, .int (Int32.ofNat m)), (2, .int (Int32.ofNat t)), (3, .int (1 : Int32)), (4, .int (Int32.ofNat (a * 1024 + b)))] [.int (Int8.toInt32 (Int8.ofInt (-4))), .int (Int32.ofNat (a * 1024 + b))] g1 u1 (fun big n0 => sg_ha_30 big n0 g1 u1 (Int32.ofNat m) (Int32.ofNat t) (Int32.ofNat (a * 1024 + b))) ?_
    refine q_ic_ne rfl (fun hc2 => absurd (show (Int32.ofNat (a * 1024 + b)) = (Int8.toInt32 (Int8.ofInt (-4))) from hc2) (q_none_ne (by omega))) (fun (hc2 : ¬ ((Int32.ofNat (a * 1024 + b)) = (Int8.toInt32 (Int8.ofInt (-4))))) => ?_)
    refine q_step 3 65 [(0, .ref 8), (1, .int (Int32.ofNat m)), (2, .int (Int32.ofNat t)), (3, .int (1 : Int32)), (4, .int (Int32.ofNat (a * 1024 + b)))] [.int (Int32.ofNat (a * 1024 + b))] g1 u1 (fun big n0 => sg_ha_31 big n0 g1 u1 (Int32.ofNat m) (Int32.ofNat t) (Int32.ofNat (a * 1024 + b))) ?_
    refine q_call (M2 := 88) (rest := []) (b_lo g1 u1 (by omega) (by omega)) (fun _ _ => rfl) ?_
    refine q_ret 1 (some (.int (Int32.ofNat b)), g1, u1) (fun _ _ => rfl) ?_
    exact ⟨g1, u1, rfl, hf⟩
theorem rhg_0 (u : qW) {n m : Nat} (h6 : n ≤ 6) (hm : m ≤ 60) {k1 k6 : Nat} {x4 x5 : Int32} {Q : Option Value × qM × qW → Prop} : ∀ k i g, i + k = m → g 70 27 = Int32.ofNat n → g 70 2 ≠ 0 → q_EV m_209 156 [(0, .ref 70), (1, .int (Int32.ofNat k1)), (2, .int (Int32.ofNat m)), (3, .int (0 : Int32)), (4, .int x4), (5, .int x5), (6, .int (Int32.ofNat k6)), (7, .int (Int32.ofNat m))] [] (s_rit n k g) u Q → q_EV m_209 139 [(0, .ref 70), (1, .int (Int32.ofNat k1)), (2, .int (Int32.ofNat m)), (3, .int (0 : Int32)), (4, .int x4), (5, .int x5), (6, .int (Int32.ofNat k6)), (7, .int (Int32.ofNat i))] [] g u Q := by
  intro k
  induction k with
  | zero =>
    intro i g hi hn hw hk
    have e : i = m := by omega
    subst e
    refine q_step 2 142 [(0, .ref 70), (1, .int (Int32.ofNat k1)), (2, .int (Int32.ofNat i)), (3, .int (0 : Int32)), (4, .int x4), (5, .int x5), (6, .int (Int32.ofNat k6)), (7, .int (Int32.ofNat i))] [.int (Int32.ofNat i), .int (Int32.ofNat i)] g u (fun big n0 => sg_ha_32 big n0 g u (Int32.ofNat k1) (Int32.ofNat i) x4 x5 (Int32.ofNat k6) (Int32.ofNat i)) ?_
    refine q_ic_ge rfl (fun (hc0 : (Int32.ofNat i) ≤ (Int32.ofNat i)) => ?_) (fun hc0 => absurd (show (Int32.ofNat i) ≤ (Int32.ofNat i) from (q_le (by omega) (by omega)).mpr (by omega)) hc0)
    exact hk
  | succ k ih =>
    intro i g hi hn hw hk
    refine q_step 2 142 [(0, .ref 70), (1, .int (Int32.ofNat k1)), (2, .int (Int32.ofNat m)), (3, .int (0 : Int32)), (4, .int x4), (5, .int x5), (6, .int (Int32.ofNat k6)), (7, .int (Int32.ofNat i))] [.int (Int32.ofNat m), .int (Int32.ofNat i)] g u (fun big n0 => sg_ha_32 big n0 g u (Int32.ofNat k1) (Int32.ofNat m) x4 x5 (Int32.ofNat k6) (Int32.ofNat i)) ?_
    refine q_ic_ge rfl (fun hc0 => absurd (show (Int32.ofNat m) ≤ (Int32.ofNat i) from hc0) (fun z => absurd ((q_le (by omega) (by omega)).mp z) (by omega))) (fun (hc0 : ¬ ((Int32.ofNat m) ≤ (Int32.ofNat i))) => ?_)
    refine q_step 1 146 [(0, .ref 70), (1, .int (Int32.ofNat k1)), (2, .int (Int32.ofNat m)), (3, .int (0 : Int32)), (4, .int x4), (5, .int x5), (6, .int (Int32.ofNat k6)), (7, .int (Int32.ofNat i))] [.ref 70] g u (fun big n0 => sg_ha_33 big n0 g u (Int32.ofNat k1) (Int32.ofNat m) x4 x5 (Int32.ofNat k6) (Int32.ofNat i)) ?_
    refine q_call (M2 := 191) (rest := []) (b_rsteps g u hn h6 hw) (fun _ _ => rfl) ?_
    refine q_step 3 139 [(0, .ref 70), (1, .int (Int32.ofNat k1)), (2, .int (Int32.ofNat m)), (3, .int (0 : Int32)), (4, .int x4), (5, .int x5), (6, .int (Int32.ofNat k6)), (7, .int ((Int32.ofNat i) + (1 : Int32)))] [] (s_rst n g) u (fun big n0 => sg_ha_34 big n0 (s_rst n g) u (Int32.ofNat k1) (Int32.ofNat m) x4 x5 (Int32.ofNat k6) (Int32.ofNat i) (s_ran n g)) ?_
    rw [q_succ]
    exact ih (i + 1) (s_rst n g) (by omega) (by rw [s_rst_g (by omega)]; exact hn) (by rw [s_rst_g (by omega)]; exact hw) hk
theorem rh_0 (u : qW) {n W H m t : Nat} {r : qM} (h : w_ok n W H r) (h5 : n ≤ 5) (hm : 1 ≤ m ∧ m ≤ 3) (ht : t ≤ 60) (hWH : W * H ≤ 25) : ∀ k c b g, c + k = W * H → w_sm n (s_start g) r → (∀ p, p < n → g 71 (15 + p) = r 78 p) → n_hok (W * H) b → q_EV m_209 46 [(0, .ref 70), (1, .int (Int32.ofNat m)), (2, .int (Int32.ofNat t)), (3, .int (0 : Int32)), (4, .int (e_hm b)), (5, .int (e_hf b)), (6, .int (Int32.ofNat c))] [] g u (w_po w_fr g (.int (f_agw 0 (f_hb (p_fr n r) (n_hg n t m r) k c b)))) := by
  intro k
  induction k with
  | zero =>
    intro c b g hi hs hg hb
    have hz2 : g 70 2 * g 70 3 = Int32.ofNat (W * H) := by
      have e1 : g 70 2 = r 70 2 := hs.1.2.1
      have e2 : g 70 3 = r 70 3 := hs.1.2.2.1
      rw [e1, e2, w_size h]
    have h4 : (s_start g) 70 4 = Int32.ofNat n := (show g 70 4 = Int32.ofNat n from w_pl h hs)
    refine q_step 6 57 [(0, .ref 70), (1, .int (Int32.ofNat m)), (2, .int (Int32.ofNat t)), (3, .int (0 : Int32)), (4, .int (e_hm b)), (5, .int (e_hf b)), (6, .int (Int32.ofNat c))] [.int ((g 70 2) * (g 70 3)), .int (Int32.ofNat c)] g u (fun big n0 => sg_ha_35 big n0 g u (Int32.ofNat m) (Int32.ofNat t) (e_hm b) (e_hf b) (Int32.ofNat c)) ?_
    refine q_ic_ge rfl (fun (hc0 : ((g 70 2) * (g 70 3)) ≤ (Int32.ofNat c)) => ?_) (fun hc0 => absurd (show ((g 70 2) * (g 70 3)) ≤ (Int32.ofNat c) from by rw [hz2]; exact (q_le (by omega) (by omega)).mpr (by omega)) hc0)
    cases b with
    | none => 
      refine q_ret 6 (some (.int (Int8.toInt32 (Int8.ofInt (-4)))), g, u) (fun _ _ => rfl) ?_
      exact ⟨g, u, rfl, w_fr_rfl g⟩
    | some z => 
      obtain ⟨x, s⟩ := z
      have hbx := hb x s rfl
      refine q_step 2 204 [(0, .ref 70), (1, .int (Int32.ofNat m)), (2, .int (Int32.ofNat t)), (3, .int (0 : Int32)), (4, .int (Int32.ofNat s)), (5, .int (Int32.ofNat x)), (6, .int (Int32.ofNat c))] [.int (Int8.toInt32 (Int8.ofInt (-4))), .int (Int32.ofNat x)] g u (fun big n0 => sg_ha_36 big n0 g u (Int32.ofNat m) (Int32.ofNat t) (Int32.ofNat s) (Int32.ofNat x) (Int32.ofNat c)) ?_
      refine q_ic_ne rfl (fun hc0 => absurd (show (Int32.ofNat x) = (Int8.toInt32 (Int8.ofInt (-4))) from hc0) (q_none_ne (by omega))) (fun (hc0 : ¬ ((Int32.ofNat x) = (Int8.toInt32 (Int8.ofInt (-4))))) => ?_)
      refine q_ret 5 (some (.int (Int32.ofNat x)), g, u) (fun _ _ => rfl) ?_
      exact ⟨g, u, rfl, w_fr_rfl g⟩
  | succ k ih =>
    intro c b g hi hs hg hb
    have hz2 : g 70 2 * g 70 3 = Int32.ofNat (W * H) := by
      have e1 : g 70 2 = r 70 2 := hs.1.2.1
      have e2 : g 70 3 = r 70 3 := hs.1.2.2.1
      rw [e1, e2, w_size h]
    have h4 : (s_start g) 70 4 = Int32.ofNat n := (show g 70 4 = Int32.ofNat n from w_pl h hs)
    refine q_step 6 57 [(0, .ref 70), (1, .int (Int32.ofNat m)), (2, .int (Int32.ofNat t)), (3, .int (0 : Int32)), (4, .int (e_hm b)), (5, .int (e_hf b)), (6, .int (Int32.ofNat c))] [.int ((g 70 2) * (g 70 3)), .int (Int32.ofNat c)] g u (fun big n0 => sg_ha_35 big n0 g u (Int32.ofNat m) (Int32.ofNat t) (e_hm b) (e_hf b) (Int32.ofNat c)) ?_
    refine q_ic_ge rfl (fun hc0 => absurd (show ((g 70 2) * (g 70 3)) ≤ (Int32.ofNat c) from hc0) (fun z => by rw [hz2] at z; exact absurd ((q_le (by omega) (by omega)).mp z) (by omega))) (fun (hc0 : ¬ (((g 70 2) * (g 70 3)) ≤ (Int32.ofNat c))) => ?_)
    refine q_step 1 61 [(0, .ref 70), (1, .int (Int32.ofNat m)), (2, .int (Int32.ofNat t)), (3, .int (0 : Int32)), (4, .int (e_hm b)), (5, .int (e_hf b)), (6, .int (Int32.ofNat c))] [.ref 70] g u (fun big n0 => sg_ha_37 big n0 g u (Int32.ofNat m) (Int32.ofNat t) (e_hm b) (e_hf b) (Int32.ofNat c)) ?_
    refine q_call (M2 := 172) (rest := []) (b_starts g u) (fun _ _ => rfl) ?_
    refine q_step 2 67 [(0, .ref 70), (1, .int (Int32.ofNat m)), (2, .int (Int32.ofNat t)), (3, .int (0 : Int32)), (4, .int (e_hm b)), (5, .int (e_hf b)), (6, .int (Int32.ofNat c))] [.int (Int32.ofNat c), .ref 70] (s_start g) u (fun big n0 => sg_ha_38 big n0 (s_start g) u (Int32.ofNat m) (Int32.ofNat t) (e_hm b) (e_hf b) (Int32.ofNat c)) ?_
    refine q_call (M2 := 177) (rest := []) (b_open (Int32.ofNat c) (s_start g) u) (fun _ _ => rfl) ?_
    refine q_if_eq rfl (fun (hc1 : (s_op ((s_start g) 71 20) (Int32.ofNat c)) = 0) => ?_) (fun (hc1 : ¬ ((s_op ((s_start g) 71 20) (Int32.ofNat c)) = 0)) => ?_)
    · refine q_step 2 46 [(0, .ref 70), (1, .int (Int32.ofNat m)), (2, .int (Int32.ofNat t)), (3, .int (0 : Int32)), (4, .int (e_hm b)), (5, .int (e_hf b)), (6, .int ((Int32.ofNat c) + (1 : Int32)))] [] (s_start g) u (fun big n0 => sg_ha_39 big n0 (s_start g) u (Int32.ofNat m) (Int32.ofNat t) (e_hm b) (e_hf b) (Int32.ofNat c)) ?_
      have hop0 : ¬ s_bit (r 71 20) (Int32.ofNat c) = 0 := fun z => by
        have q := hc1
        rw [show (s_start g) 71 20 = r 71 20 from hs.1.2.2.2.1] at q
        unfold s_op at q
        rw [if_neg (s_none_ne (by omega)), if_pos z] at q
        exact absurd q (by decide)
      have e : f_h1 (p_fr n r) (n_hg n t m r) c b = b := f_h1_no (Classical.byContradiction (fun y => (fun z => hop0 z.1) (p_fr_iff.mp y)))
      rw [q_succ, f_hb, e]
      exact q_EV.imp (ih (c + 1) b (s_start g) (by omega) (w_st_sm s_start_fr h5 hs) (fun p hp => by rw [s_start_fr.1 71 (by omega)]; exact hg p hp) hb) (fun R z => w_po_r s_start_fr rfl z)
    · refine q_step 2 76 [(0, .ref 70), (1, .int (Int32.ofNat m)), (2, .int (Int32.ofNat t)), (3, .int (0 : Int32)), (4, .int (e_hm b)), (5, .int (e_hf b)), (6, .int (Int32.ofNat c))] [.int (Int32.ofNat c), .ref 70] (s_start g) u (fun big n0 => sg_ha_40 big n0 (s_start g) u (Int32.ofNat m) (Int32.ofNat t) (e_hm b) (e_hf b) (Int32.ofNat c)) ?_
      have hwho := b_rwho (s_start g) u (Int32.ofNat c) (w_w0 h hs).1 (w_w0 h hs).2.1
      rw [w_who_r h hs] at hwho
      refine q_call (M2 := 173) (rest := []) (hwho) (fun _ _ => rfl) ?_
      refine q_step 1 81 [(0, .ref 70), (1, .int (Int32.ofNat m)), (2, .int (Int32.ofNat t)), (3, .int (0 : Int32)), (4, .int (e_hm b)), (5, .int (e_hf b)), (6, .int (Int32.ofNat c))] [.int (Int8.toInt32 (Int8.ofInt (-4))), .int (f_who n r (Int32.ofNat c))] (s_start g) u (fun big n0 => sg_ha_41 big n0 (s_start g) u (Int32.ofNat m) (Int32.ofNat t) (e_hm b) (e_hf b) (Int32.ofNat c) (f_who n r (Int32.ofNat c))) ?_
      refine q_ic_ne rfl (fun (hc2 : (f_who n r (Int32.ofNat c)) = (Int8.toInt32 (Int8.ofInt (-4)))) => ?_) (fun (hc2 : ¬ ((f_who n r (Int32.ofNat c)) = (Int8.toInt32 (Int8.ofInt (-4))))) => ?_)
      · refine q_step 5 94 [(0, .ref 70), (1, .int (Int32.ofNat m)), (2, .int (Int32.ofNat t)), (3, .int (0 : Int32)), (4, .int (e_hm b)), (5, .int (e_hf b)), (6, .int (Int32.ofNat c))] [.int (Int32.ofNat c), .int ((s_start g) 70 4), .ref 75] (s_start g) u (fun big n0 => sg_ha_42 big n0 (s_start g) u (Int32.ofNat m) (Int32.ofNat t) (e_hm b) (e_hf b) (Int32.ofNat c)) ?_
        refine q_iast (j := n) (by rw [h4]; exact q_ixn (by omega) (by omega)) rfl rfl ?_
        refine q_step 5 104 [(0, .ref 70), (1, .int (Int32.ofNat m)), (2, .int (Int32.ofNat t)), (3, .int (0 : Int32)), (4, .int (e_hm b)), (5, .int (e_hf b)), (6, .int (Int32.ofNat c))] [.int (Int32.ofNat m), .int ((s_start g) 70 4), .ref 76] (q_up (s_start g) 75 n (Int32.ofNat c)) u (fun big n0 => sg_ha_43 big n0 (q_up (s_start g) 75 n (Int32.ofNat c)) u (Int32.ofNat m) (Int32.ofNat t) (e_hm b) (e_hf b) (Int32.ofNat c)) ?_
        refine q_iast (j := n) (by rw [h4]; exact q_ixn (by omega) (by omega)) rfl rfl ?_
        refine q_step 5 114 [(0, .ref 70), (1, .int (Int32.ofNat m)), (2, .int (Int32.ofNat t)), (3, .int (0 : Int32)), (4, .int (e_hm b)), (5, .int (e_hf b)), (6, .int (Int32.ofNat c))] [.int (1 : Int32), .int ((s_start g) 70 4), .ref 77] (q_up (q_up (s_start g) 75 n (Int32.ofNat c)) 76 n (Int32.ofNat m)) u (fun big n0 => sg_ha_44 big n0 (q_up (q_up (s_start g) 75 n (Int32.ofNat c)) 76 n (Int32.ofNat m)) u (Int32.ofNat m) (Int32.ofNat t) (e_hm b) (e_hf b) (Int32.ofNat c)) ?_
        refine q_iast (j := n) (by rw [h4]; exact q_ixn (by omega) (by omega)) rfl rfl ?_
        refine q_step 5 125 [(0, .ref 70), (1, .int (Int32.ofNat m)), (2, .int (Int32.ofNat t)), (3, .int (0 : Int32)), (4, .int (e_hm b)), (5, .int (e_hf b)), (6, .int (Int32.ofNat c))] [.int (Int8.toInt32 (Int8.ofInt (-4))), .int ((s_start g) 70 4), .ref 78] (q_up (q_up (q_up (s_start g) 75 n (Int32.ofNat c)) 76 n (Int32.ofNat m)) 77 n (1 : Int32)) u (fun big n0 => sg_ha_45 big n0 (q_up (q_up (q_up (s_start g) 75 n (Int32.ofNat c)) 76 n (Int32.ofNat m)) 77 n (1 : Int32)) u (Int32.ofNat m) (Int32.ofNat t) (e_hm b) (e_hf b) (Int32.ofNat c)) ?_
        refine q_iast (j := n) (by rw [h4]; exact q_ixn (by omega) (by omega)) rfl rfl ?_
        refine q_step 8 139 [(0, .ref 70), (1, .int (Int32.ofNat m)), (2, .int (Int32.ofNat t)), (3, .int (0 : Int32)), (4, .int (e_hm b)), (5, .int (e_hf b)), (6, .int (Int32.ofNat c)), (7, .int (0 : Int32))] [] (q_up (q_up (q_up (q_up (q_up (s_start g) 75 n (Int32.ofNat c)) 76 n (Int32.ofNat m)) 77 n (1 : Int32)) 78 n (Int8.toInt32 (Int8.ofInt (-4)))) 70 27 (((s_start g) 70 4) + (1 : Int32))) u (fun big n0 => sg_ha_46 big n0 (q_up (q_up (q_up (q_up (s_start g) 75 n (Int32.ofNat c)) 76 n (Int32.ofNat m)) 77 n (1 : Int32)) 78 n (Int8.toInt32 (Int8.ofInt (-4)))) u (Int32.ofNat m) (Int32.ofNat t) (e_hm b) (e_hf b) (Int32.ofNat c)) ?_
        rw [show (q_up (q_up (q_up (q_up (q_up (s_start g) 75 n (Int32.ofNat c)) 76 n (Int32.ofNat m)) 77 n (1 : Int32)) 78 n (Int8.toInt32 (Int8.ofInt (-4)))) 70 27 (((s_start g) 70 4) + (1 : Int32))) = (q_up (q_up (q_up (q_up (q_up (s_start g) 75 n (Int32.ofNat c)) 76 n (Int32.ofNat m)) 77 n (1 : Int32)) 78 n (Int8.toInt32 (Int8.ofInt (-4)))) 70 27 ((s_start g) 70 4 + (1 : Int32))) from rfl]
        have hbit : s_bit (r 71 20) (Int32.ofNat c) = 0 := by
          have q := hc1
          rw [show (s_start g) 71 20 = r 71 20 from hs.1.2.2.2.1] at q
          unfold s_op at q
          rw [if_neg (s_none_ne (by omega))] at q
          by_cases z : s_bit (r 71 20) (Int32.ofNat c) = 0
          · exact z
          · rw [if_neg z] at q
            exact absurd rfl q
        have hfr := p_fr_iff.mpr ⟨hbit, hc2⟩
        have hok := w_ok_ha (c := c) (m := m) h h5 (by omega) hbit hc2 hm
        have hsm := w_sm_ha (c := c) (m := m) h4 hs
        have hf : w_fr g (s_rit (n + 1) t (q_up (q_up (q_up (q_up (q_up (s_start g) 75 n (Int32.ofNat c)) 76 n (Int32.ofNat m)) 77 n (1 : Int32)) 78 n (Int8.toInt32 (Int8.ofInt (-4)))) 70 27 ((s_start g) 70 4 + (1 : Int32)))) := ((((((s_start_fr (g := g)).up (by omega)).up (by omega)).up (by omega)).up (by omega)).up27).trans (w_rit_fr t _)
        have hA : n_hg n t m r c ≤ 6 := Nat.le_trans (n_at_le (n + 1) _) (by omega)
        refine rhg_0 u (n := n + 1) (by omega) ht t 0 (q_up (q_up (q_up (q_up (q_up (s_start g) 75 n (Int32.ofNat c)) 76 n (Int32.ofNat m)) 77 n (1 : Int32)) 78 n (Int8.toInt32 (Int8.ofInt (-4)))) 70 27 ((s_start g) 70 4 + (1 : Int32))) (by omega) (w_w0 hok hsm).1 (w_w0 hok hsm).2.2 ?_
        have hag := b_ratg (s_rit (n + 1) t (q_up (q_up (q_up (q_up (q_up (s_start g) 75 n (Int32.ofNat c)) 76 n (Int32.ofNat m)) 77 n (1 : Int32)) 78 n (Int8.toInt32 (Int8.ofInt (-4)))) 70 27 ((s_start g) 70 4 + (1 : Int32)))) u (n := n + 1) (by rw [s_rit_g (by omega)]; exact (w_w0 hok hsm).1) (by omega)
        rw [show s_ct (fun p => if (s_rit (n + 1) t (q_up (q_up (q_up (q_up (q_up (s_start g) 75 n (Int32.ofNat c)) 76 n (Int32.ofNat m)) 77 n (1 : Int32)) 78 n (Int8.toInt32 (Int8.ofInt (-4)))) 70 27 ((s_start g) 70 4 + (1 : Int32)))) 78 p = i_none then (0 : Int32) else if (s_rit (n + 1) t (q_up (q_up (q_up (q_up (q_up (s_start g) 75 n (Int32.ofNat c)) 76 n (Int32.ofNat m)) 77 n (1 : Int32)) 78 n (Int8.toInt32 (Int8.ofInt (-4)))) 70 27 ((s_start g) 70 4 + (1 : Int32)))) 75 p = (s_rit (n + 1) t (q_up (q_up (q_up (q_up (q_up (s_start g) 75 n (Int32.ofNat c)) 76 n (Int32.ofNat m)) 77 n (1 : Int32)) 78 n (Int8.toInt32 (Int8.ofInt (-4)))) 70 27 ((s_start g) 70 4 + (1 : Int32)))) 78 p then 1 else 0) (n + 1) 0 0 = f_at (n + 1) (s_rit (n + 1) t (gh_ha n c m r)) from w_at_r (w_sm_rit t _ _ hok hsm) (fun p hp => by
          rw [s_rit_g (by omega), s_rit_g (by omega), gh_ha_78, q_up_ne (by omega), q_up_at]
          split
          · rfl
          · rw [q_up_ne (by omega), q_up_ne (by omega), q_up_ne (by omega), w_st78 h5 (by omega)]
            exact hg p (by omega)), f_at_n] at hag
        refine q_step 1 157 [(0, .ref 70), (1, .int (Int32.ofNat m)), (2, .int (Int32.ofNat t)), (3, .int (0 : Int32)), (4, .int (e_hm b)), (5, .int (e_hf b)), (6, .int (Int32.ofNat c)), (7, .int (Int32.ofNat t))] [.ref 70] (s_rit (n + 1) t (q_up (q_up (q_up (q_up (q_up (s_start g) 75 n (Int32.ofNat c)) 76 n (Int32.ofNat m)) 77 n (1 : Int32)) 78 n (Int8.toInt32 (Int8.ofInt (-4)))) 70 27 ((s_start g) 70 4 + (1 : Int32)))) u (fun big n0 => sg_ha_47 big n0 (s_rit (n + 1) t (q_up (q_up (q_up (q_up (q_up (s_start g) 75 n (Int32.ofNat c)) 76 n (Int32.ofNat m)) 77 n (1 : Int32)) 78 n (Int8.toInt32 (Int8.ofInt (-4)))) 70 27 ((s_start g) 70 4 + (1 : Int32)))) u (Int32.ofNat m) (Int32.ofNat t) (e_hm b) (e_hf b) (Int32.ofNat c) (Int32.ofNat t)) ?_
        refine q_call (M2 := 197) (rest := []) (hag) (fun _ _ => rfl) ?_
        refine q_step 1 162 [(0, .ref 70), (1, .int (Int32.ofNat m)), (2, .int (Int32.ofNat t)), (3, .int (0 : Int32)), (4, .int (e_hm b)), (5, .int (e_hf b)), (6, .int (Int32.ofNat c)), (7, .int (Int32.ofNat t))] [.int (e_hm b), .int (Int32.ofNat (n_hg n t m r c))] (s_rit (n + 1) t (q_up (q_up (q_up (q_up (q_up (s_start g) 75 n (Int32.ofNat c)) 76 n (Int32.ofNat m)) 77 n (1 : Int32)) 78 n (Int8.toInt32 (Int8.ofInt (-4)))) 70 27 ((s_start g) 70 4 + (1 : Int32)))) u (fun big n0 => sg_ha_48 big n0 (s_rit (n + 1) t (q_up (q_up (q_up (q_up (q_up (s_start g) 75 n (Int32.ofNat c)) 76 n (Int32.ofNat m)) 77 n (1 : Int32)) 78 n (Int8.toInt32 (Int8.ofInt (-4)))) 70 27 ((s_start g) 70 4 + (1 : Int32)))) u (Int32.ofNat m) (Int32.ofNat t) (e_hm b) (e_hf b) (Int32.ofNat c) (Int32.ofNat t) (Int32.ofNat (n_hg n t m r c))) ?_
        refine q_ic_le rfl (fun (hc0 : (Int32.ofNat (n_hg n t m r c)) ≤ (e_hm b)) => ?_) (fun (hc0 : ¬ ((Int32.ofNat (n_hg n t m r c)) ≤ (e_hm b))) => ?_)
        · refine q_step 3 175 [(0, .ref 70), (1, .int (Int32.ofNat m)), (2, .int (Int32.ofNat t)), (3, .int (0 : Int32)), (4, .int (e_hm b)), (5, .int (e_hf b)), (6, .int (Int32.ofNat c)), (7, .int (Int32.ofNat t))] [.ref 70] (s_rit (n + 1) t (q_up (q_up (q_up (q_up (q_up (s_start g) 75 n (Int32.ofNat c)) 76 n (Int32.ofNat m)) 77 n (1 : Int32)) 78 n (Int8.toInt32 (Int8.ofInt (-4)))) 70 27 ((s_start g) 70 4 + (1 : Int32)))) u (fun big n0 => sg_ha_49 big n0 (s_rit (n + 1) t (q_up (q_up (q_up (q_up (q_up (s_start g) 75 n (Int32.ofNat c)) 76 n (Int32.ofNat m)) 77 n (1 : Int32)) 78 n (Int8.toInt32 (Int8.ofInt (-4)))) 70 27 ((s_start g) 70 4 + (1 : Int32)))) u (Int32.ofNat m) (Int32.ofNat t) (e_hm b) (e_hf b) (Int32.ofNat c) (Int32.ofNat t)) ?_
          refine q_call (M2 := 197) (rest := []) (hag) (fun _ _ => rfl) ?_
          refine q_step 1 180 [(0, .ref 70), (1, .int (Int32.ofNat m)), (2, .int (Int32.ofNat t)), (3, .int (0 : Int32)), (4, .int (e_hm b)), (5, .int (e_hf b)), (6, .int (Int32.ofNat c)), (7, .int (Int32.ofNat t))] [.int (e_hm b), .int (Int32.ofNat (n_hg n t m r c))] (s_rit (n + 1) t (q_up (q_up (q_up (q_up (q_up (s_start g) 75 n (Int32.ofNat c)) 76 n (Int32.ofNat m)) 77 n (1 : Int32)) 78 n (Int8.toInt32 (Int8.ofInt (-4)))) 70 27 ((s_start g) 70 4 + (1 : Int32)))) u (fun big n0 => sg_ha_50 big n0 (s_rit (n + 1) t (q_up (q_up (q_up (q_up (q_up (s_start g) 75 n (Int32.ofNat c)) 76 n (Int32.ofNat m)) 77 n (1 : Int32)) 78 n (Int8.toInt32 (Int8.ofInt (-4)))) 70 27 ((s_start g) 70 4 + (1 : Int32)))) u (Int32.ofNat m) (Int32.ofNat t) (e_hm b) (e_hf b) (Int32.ofNat c) (Int32.ofNat t) (Int32.ofNat (n_hg n t m r c))) ?_
          refine q_ic_le rfl (fun (hc1 : (Int32.ofNat (n_hg n t m r c)) ≤ (e_hm b)) => ?_) (fun hc1 => absurd (show (Int32.ofNat (n_hg n t m r c)) ≤ (e_hm b) from hc0) hc1)
          refine q_step 4 46 [(0, .ref 70), (1, .int (Int32.ofNat m)), (2, .int (Int32.ofNat t)), (3, .int (0 : Int32)), (4, .int (e_hm b)), (5, .int (e_hf b)), (6, .int ((Int32.ofNat c) + (1 : Int32))), (7, .int (Int32.ofNat t))] [] (s_rit (n + 1) t (q_up (q_up (q_up (q_up (q_up (s_start g) 75 n (Int32.ofNat c)) 76 n (Int32.ofNat m)) 77 n (1 : Int32)) 78 n (Int8.toInt32 (Int8.ofInt (-4)))) 70 27 ((s_start g) 70 4 + (1 : Int32)))) u (fun big n0 => sg_ha_51 big n0 (s_rit (n + 1) t (q_up (q_up (q_up (q_up (q_up (s_start g) 75 n (Int32.ofNat c)) 76 n (Int32.ofNat m)) 77 n (1 : Int32)) 78 n (Int8.toInt32 (Int8.ofInt (-4)))) 70 27 ((s_start g) 70 4 + (1 : Int32)))) u (Int32.ofNat m) (Int32.ofNat t) (e_hm b) (e_hf b) (Int32.ofNat c) (Int32.ofNat t)) ?_
          refine q_weak [(0, .ref 70), (1, .int (Int32.ofNat m)), (2, .int (Int32.ofNat t)), (3, .int (0 : Int32)), (4, .int (e_hm b)), (5, .int (e_hf b)), (6, .int ((Int32.ofNat c) + (1 : Int32)))] (q_sub.cons rfl (q_sub.cons rfl (q_sub.cons rfl (q_sub.cons rfl (q_sub.cons rfl (q_sub.cons rfl (q_sub.cons rfl q_sub.nil))))))) ?_
          have hle : ∃ x s, b = some (x, s) ∧ ¬ s < n_hg n t m r c := Classical.byContradiction (fun y => (e_hm_lt hA hb).mpr (fun x s e => Classical.byContradiction (fun z => y ⟨x, s, e, z⟩)) hc0)
          obtain ⟨x, s, ebs, hns⟩ := hle
          have e : f_h1 (p_fr n r) (n_hg n t m r) c b = b := f_h1_old hfr ebs hns
          rw [q_succ, f_hb, e]
          exact q_EV.imp (ih (c + 1) b _ (by omega) (w_st_sm hf h5 hs) (fun p hp => by rw [hf.1 71 (by omega)]; exact hg p hp) hb) (fun R z => w_po_r hf rfl z)
        · refine q_step 4 175 [(0, .ref 70), (1, .int (Int32.ofNat m)), (2, .int (Int32.ofNat t)), (3, .int (0 : Int32)), (4, .int (e_hm b)), (5, .int (Int32.ofNat c)), (6, .int (Int32.ofNat c)), (7, .int (Int32.ofNat t))] [.ref 70] (s_rit (n + 1) t (q_up (q_up (q_up (q_up (q_up (s_start g) 75 n (Int32.ofNat c)) 76 n (Int32.ofNat m)) 77 n (1 : Int32)) 78 n (Int8.toInt32 (Int8.ofInt (-4)))) 70 27 ((s_start g) 70 4 + (1 : Int32)))) u (fun big n0 => sg_ha_52 big n0 (s_rit (n + 1) t (q_up (q_up (q_up (q_up (q_up (s_start g) 75 n (Int32.ofNat c)) 76 n (Int32.ofNat m)) 77 n (1 : Int32)) 78 n (Int8.toInt32 (Int8.ofInt (-4)))) 70 27 ((s_start g) 70 4 + (1 : Int32)))) u (Int32.ofNat m) (Int32.ofNat t) (e_hm b) (e_hf b) (Int32.ofNat c) (Int32.ofNat t)) ?_
          refine q_call (M2 := 197) (rest := []) (hag) (fun _ _ => rfl) ?_
          refine q_step 1 180 [(0, .ref 70), (1, .int (Int32.ofNat m)), (2, .int (Int32.ofNat t)), (3, .int (0 : Int32)), (4, .int (e_hm b)), (5, .int (Int32.ofNat c)), (6, .int (Int32.ofNat c)), (7, .int (Int32.ofNat t))] [.int (e_hm b), .int (Int32.ofNat (n_hg n t m r c))] (s_rit (n + 1) t (q_up (q_up (q_up (q_up (q_up (s_start g) 75 n (Int32.ofNat c)) 76 n (Int32.ofNat m)) 77 n (1 : Int32)) 78 n (Int8.toInt32 (Int8.ofInt (-4)))) 70 27 ((s_start g) 70 4 + (1 : Int32)))) u (fun big n0 => sg_ha_50 big n0 (s_rit (n + 1) t (q_up (q_up (q_up (q_up (q_up (s_start g) 75 n (Int32.ofNat c)) 76 n (Int32.ofNat m)) 77 n (1 : Int32)) 78 n (Int8.toInt32 (Int8.ofInt (-4)))) 70 27 ((s_start g) 70 4 + (1 : Int32)))) u (Int32.ofNat m) (Int32.ofNat t) (e_hm b) (Int32.ofNat c) (Int32.ofNat c) (Int32.ofNat t) (Int32.ofNat (n_hg n t m r c))) ?_
          refine q_ic_le rfl (fun hc1 => absurd (show (Int32.ofNat (n_hg n t m r c)) ≤ (e_hm b) from hc1) (hc0)) (fun (hc1 : ¬ ((Int32.ofNat (n_hg n t m r c)) ≤ (e_hm b))) => ?_)
          refine q_step 1 184 [(0, .ref 70), (1, .int (Int32.ofNat m)), (2, .int (Int32.ofNat t)), (3, .int (0 : Int32)), (4, .int (e_hm b)), (5, .int (Int32.ofNat c)), (6, .int (Int32.ofNat c)), (7, .int (Int32.ofNat t))] [.ref 70] (s_rit (n + 1) t (q_up (q_up (q_up (q_up (q_up (s_start g) 75 n (Int32.ofNat c)) 76 n (Int32.ofNat m)) 77 n (1 : Int32)) 78 n (Int8.toInt32 (Int8.ofInt (-4)))) 70 27 ((s_start g) 70 4 + (1 : Int32)))) u (fun big n0 => sg_ha_53 big n0 (s_rit (n + 1) t (q_up (q_up (q_up (q_up (q_up (s_start g) 75 n (Int32.ofNat c)) 76 n (Int32.ofNat m)) 77 n (1 : Int32)) 78 n (Int8.toInt32 (Int8.ofInt (-4)))) 70 27 ((s_start g) 70 4 + (1 : Int32)))) u (Int32.ofNat m) (Int32.ofNat t) (e_hm b) (Int32.ofNat c) (Int32.ofNat c) (Int32.ofNat t)) ?_
          refine q_call (M2 := 197) (rest := []) (hag) (fun _ _ => rfl) ?_
          refine q_step 4 46 [(0, .ref 70), (1, .int (Int32.ofNat m)), (2, .int (Int32.ofNat t)), (3, .int (0 : Int32)), (4, .int (Int32.ofNat (n_hg n t m r c))), (5, .int (Int32.ofNat c)), (6, .int ((Int32.ofNat c) + (1 : Int32))), (7, .int (Int32.ofNat t))] [] (s_rit (n + 1) t (q_up (q_up (q_up (q_up (q_up (s_start g) 75 n (Int32.ofNat c)) 76 n (Int32.ofNat m)) 77 n (1 : Int32)) 78 n (Int8.toInt32 (Int8.ofInt (-4)))) 70 27 ((s_start g) 70 4 + (1 : Int32)))) u (fun big n0 => sg_ha_54 big n0 (s_rit (n + 1) t (q_up (q_up (q_up (q_up (q_up (s_start g) 75 n (Int32.ofNat c)) 76 n (Int32.ofNat m)) 77 n (1 : Int32)) 78 n (Int8.toInt32 (Int8.ofInt (-4)))) 70 27 ((s_start g) 70 4 + (1 : Int32)))) u (Int32.ofNat m) (Int32.ofNat t) (e_hm b) (Int32.ofNat c) (Int32.ofNat c) (Int32.ofNat t) (Int32.ofNat (n_hg n t m r c))) ?_
          refine q_weak [(0, .ref 70), (1, .int (Int32.ofNat m)), (2, .int (Int32.ofNat t)), (3, .int (0 : Int32)), (4, .int (Int32.ofNat (n_hg n t m r c))), (5, .int (Int32.ofNat c)), (6, .int ((Int32.ofNat c) + (1 : Int32)))] (q_sub.cons rfl (q_sub.cons rfl (q_sub.cons rfl (q_sub.cons rfl (q_sub.cons rfl (q_sub.cons rfl (q_sub.cons rfl q_sub.nil))))))) ?_
          have e : f_h1 (p_fr n r) (n_hg n t m r) c b = (some (c, n_hg n t m r c)) := f_h1_new hfr ((e_hm_lt hA hb).mp hc0)
          rw [q_succ, f_hb, e]
          exact q_EV.imp (ih (c + 1) (some (c, n_hg n t m r c)) _ (by omega) (w_st_sm hf h5 hs) (fun p hp => by rw [hf.1 71 (by omega)]; exact hg p hp) (by rw [← e]; exact n_hok_1 hA (by omega) hb)) (fun R z => w_po_r hf rfl z)
      · refine q_step 2 46 [(0, .ref 70), (1, .int (Int32.ofNat m)), (2, .int (Int32.ofNat t)), (3, .int (0 : Int32)), (4, .int (e_hm b)), (5, .int (e_hf b)), (6, .int ((Int32.ofNat c) + (1 : Int32)))] [] (s_start g) u (fun big n0 => sg_ha_39 big n0 (s_start g) u (Int32.ofNat m) (Int32.ofNat t) (e_hm b) (e_hf b) (Int32.ofNat c)) ?_
        have e : f_h1 (p_fr n r) (n_hg n t m r) c b = b := f_h1_no (Classical.byContradiction (fun y => (fun z => hc2 z.2) (p_fr_iff.mp y)))
        rw [q_succ, f_hb, e]
        exact q_EV.imp (ih (c + 1) b (s_start g) (by omega) (w_st_sm s_start_fr h5 hs) (fun p hp => by rw [s_start_fr.1 71 (by omega)]; exact hg p hp) hb) (fun R z => w_po_r s_start_fr rfl z)
theorem r_hang0 {n W H : Nat} {g r : qM} (u : qW) (h : w_ok n W H r) (hs : w_sm n (s_start g) r) (h5 : n ≤ 5) {m t : Nat} (hm : 1 ≤ m ∧ m ≤ 3) (ht : t ≤ 12) (hg : ∀ p, p < n → g 71 (15 + p) = r 78 p) : w_BS w_fr 209 [.ref 70, .int (Int32.ofNat m), .int (Int32.ofNat t), .int (0 : Int32)] g u (.int (f_agw 0 (f_hang n W H t m r))) := by
  refine w_bs (mm := m_209) rfl (Nat.le_of_ble_eq_true rfl) rfl ?_
  refine q_step 4 6 [(0, .ref 70), (1, .int (Int32.ofNat m)), (2, .int (Int32.ofNat t)), (3, .int (0 : Int32))] [.long (3 : Int64), .long (1 : Int64), .long (Int32.toInt64 (Int32.ofNat m))] g u (fun big n0 => sg_ha_55 big n0 g u (Int32.ofNat m) (Int32.ofNat t)) ?_
  refine q_call (M2 := 149) (rest := []) (b_in1 (m := m) (lo := 1) (hi := 3) g u (by omega) (by omega) (by omega)) (fun _ _ => rfl) ?_
  refine q_step 5 18 [(0, .ref 70), (1, .int (Int32.ofNat m)), (2, .int (Int32.ofNat t)), (3, .int (0 : Int32))] [.long (12 : Int64), .long (0 : Int64), .long (Int32.toInt64 (Int32.ofNat t))] g u (fun big n0 => sg_ha_56 big n0 g u (Int32.ofNat m) (Int32.ofNat t)) ?_
  refine q_call (M2 := 149) (rest := []) (b_in1 (m := t) (lo := 0) (hi := 12) g u (by omega) (by omega) (by omega)) (fun _ _ => rfl) ?_
  refine q_step 5 28 [(0, .ref 70), (1, .int (Int32.ofNat m)), (2, .int (Int32.ofNat t)), (3, .int (0 : Int32))] [.long (1 : Int64), .long (0 : Int64), .long (0 : Int64)] g u (fun big n0 => sg_ha_57 big n0 g u (Int32.ofNat m) (Int32.ofNat t)) ?_
  refine q_call (M2 := 149) (rest := []) (show q_BS 149 [.long (0 : Int64), .long (0 : Int64), .long (1 : Int64)] g u (some (.int 1), g, u) from b_in _ _ _ _ _) (fun _ _ => rfl) ?_
  refine q_step 7 46 [(0, .ref 70), (1, .int (Int32.ofNat m)), (2, .int (Int32.ofNat t)), (3, .int (0 : Int32)), (4, .int (Int32.ofInt (-1))), (5, .int (Int8.toInt32 (Int8.ofInt (-4)))), (6, .int (0 : Int32))] [] g u (fun big n0 => sg_ha_58 big n0 g u (Int32.ofNat m) (Int32.ofNat t)) ?_
  exact rh_0 u h h5 hm (by omega) (w_WH h) (W * H) 0 none g (by omega) hs hg (fun x t e => by cases e)
theorem rhg_1 (u : qW) {n m : Nat} (h6 : n ≤ 6) (hm : m ≤ 60) {k1 k6 : Nat} {x4 x5 : Int32} {Q : Option Value × qM × qW → Prop} : ∀ k i g, i + k = m → g 70 27 = Int32.ofNat n → g 70 2 ≠ 0 → q_EV m_209 156 [(0, .ref 70), (1, .int (Int32.ofNat k1)), (2, .int (Int32.ofNat m)), (3, .int (1 : Int32)), (4, .int x4), (5, .int x5), (6, .int (Int32.ofNat k6)), (7, .int (Int32.ofNat m))] [] (s_rit n k g) u Q → q_EV m_209 139 [(0, .ref 70), (1, .int (Int32.ofNat k1)), (2, .int (Int32.ofNat m)), (3, .int (1 : Int32)), (4, .int x4), (5, .int x5), (6, .int (Int32.ofNat k6)), (7, .int (Int32.ofNat i))] [] g u Q := by
  intro k
  induction k with
  | zero =>
    intro i g hi hn hw hk
    have e : i = m := by omega
    subst e
    refine q_step 2 142 [(0, .ref 70), (1, .int (Int32.ofNat k1)), (2, .int (Int32.ofNat i)), (3, .int (1 : Int32)), (4, .int x4), (5, .int x5), (6, .int (Int32.ofNat k6)), (7, .int (Int32.ofNat i))] [.int (Int32.ofNat i), .int (Int32.ofNat i)] g u (fun big n0 => sg_ha_59 big n0 g u (Int32.ofNat k1) (Int32.ofNat i) x4 x5 (Int32.ofNat k6) (Int32.ofNat i)) ?_
    refine q_ic_ge rfl (fun (hc0 : (Int32.ofNat i) ≤ (Int32.ofNat i)) => ?_) (fun hc0 => absurd (show (Int32.ofNat i) ≤ (Int32.ofNat i) from (q_le (by omega) (by omega)).mpr (by omega)) hc0)
    exact hk
  | succ k ih =>
    intro i g hi hn hw hk
    refine q_step 2 142 [(0, .ref 70), (1, .int (Int32.ofNat k1)), (2, .int (Int32.ofNat m)), (3, .int (1 : Int32)), (4, .int x4), (5, .int x5), (6, .int (Int32.ofNat k6)), (7, .int (Int32.ofNat i))] [.int (Int32.ofNat m), .int (Int32.ofNat i)] g u (fun big n0 => sg_ha_59 big n0 g u (Int32.ofNat k1) (Int32.ofNat m) x4 x5 (Int32.ofNat k6) (Int32.ofNat i)) ?_
    refine q_ic_ge rfl (fun hc0 => absurd (show (Int32.ofNat m) ≤ (Int32.ofNat i) from hc0) (fun z => absurd ((q_le (by omega) (by omega)).mp z) (by omega))) (fun (hc0 : ¬ ((Int32.ofNat m) ≤ (Int32.ofNat i))) => ?_)
    refine q_step 1 146 [(0, .ref 70), (1, .int (Int32.ofNat k1)), (2, .int (Int32.ofNat m)), (3, .int (1 : Int32)), (4, .int x4), (5, .int x5), (6, .int (Int32.ofNat k6)), (7, .int (Int32.ofNat i))] [.ref 70] g u (fun big n0 => sg_ha_60 big n0 g u (Int32.ofNat k1) (Int32.ofNat m) x4 x5 (Int32.ofNat k6) (Int32.ofNat i)) ?_
    refine q_call (M2 := 191) (rest := []) (b_rsteps g u hn h6 hw) (fun _ _ => rfl) ?_
    refine q_step 3 139 [(0, .ref 70), (1, .int (Int32.ofNat k1)), (2, .int (Int32.ofNat m)), (3, .int (1 : Int32)), (4, .int x4), (5, .int x5), (6, .int (Int32.ofNat k6)), (7, .int ((Int32.ofNat i) + (1 : Int32)))] [] (s_rst n g) u (fun big n0 => sg_ha_61 big n0 (s_rst n g) u (Int32.ofNat k1) (Int32.ofNat m) x4 x5 (Int32.ofNat k6) (Int32.ofNat i) (s_ran n g)) ?_
    rw [q_succ]
    exact ih (i + 1) (s_rst n g) (by omega) (by rw [s_rst_g (by omega)]; exact hn) (by rw [s_rst_g (by omega)]; exact hw) hk
theorem rh_1 (u : qW) {n W H m t : Nat} {r : qM} (h : w_ok n W H r) (h5 : n ≤ 5) (hm : 1 ≤ m ∧ m ≤ 3) (ht : t ≤ 60) (hWH : W * H ≤ 25) : ∀ k c b g, c + k = W * H → w_sm n (s_start g) r → (∀ p, p < n → g 71 (15 + p) = r 78 p) → n_hok (W * H) b → q_EV m_209 46 [(0, .ref 70), (1, .int (Int32.ofNat m)), (2, .int (Int32.ofNat t)), (3, .int (1 : Int32)), (4, .int (e_hm b)), (5, .int (e_hf b)), (6, .int (Int32.ofNat c))] [] g u (w_po w_fr g (.int (f_agw 1 (f_hb (p_fr n r) (n_hg n t m r) k c b)))) := by
  intro k
  induction k with
  | zero =>
    intro c b g hi hs hg hb
    have hz2 : g 70 2 * g 70 3 = Int32.ofNat (W * H) := by
      have e1 : g 70 2 = r 70 2 := hs.1.2.1
      have e2 : g 70 3 = r 70 3 := hs.1.2.2.1
      rw [e1, e2, w_size h]
    have h4 : (s_start g) 70 4 = Int32.ofNat n := (show g 70 4 = Int32.ofNat n from w_pl h hs)
    refine q_step 6 57 [(0, .ref 70), (1, .int (Int32.ofNat m)), (2, .int (Int32.ofNat t)), (3, .int (1 : Int32)), (4, .int (e_hm b)), (5, .int (e_hf b)), (6, .int (Int32.ofNat c))] [.int ((g 70 2) * (g 70 3)), .int (Int32.ofNat c)] g u (fun big n0 => sg_ha_62 big n0 g u (Int32.ofNat m) (Int32.ofNat t) (e_hm b) (e_hf b) (Int32.ofNat c)) ?_
    refine q_ic_ge rfl (fun (hc0 : ((g 70 2) * (g 70 3)) ≤ (Int32.ofNat c)) => ?_) (fun hc0 => absurd (show ((g 70 2) * (g 70 3)) ≤ (Int32.ofNat c) from by rw [hz2]; exact (q_le (by omega) (by omega)).mpr (by omega)) hc0)
    cases b with
    | none => 
      refine q_ret 6 (some (.int (Int8.toInt32 (Int8.ofInt (-4)))), g, u) (fun _ _ => rfl) ?_
      exact ⟨g, u, rfl, w_fr_rfl g⟩
    | some z => 
      obtain ⟨x, s⟩ := z
      have hbx := hb x s rfl
      refine q_step 2 204 [(0, .ref 70), (1, .int (Int32.ofNat m)), (2, .int (Int32.ofNat t)), (3, .int (1 : Int32)), (4, .int (Int32.ofNat s)), (5, .int (Int32.ofNat x)), (6, .int (Int32.ofNat c))] [.int (Int8.toInt32 (Int8.ofInt (-4))), .int (Int32.ofNat x)] g u (fun big n0 => sg_ha_63 big n0 g u (Int32.ofNat m) (Int32.ofNat t) (Int32.ofNat s) (Int32.ofNat x) (Int32.ofNat c)) ?_
      refine q_ic_ne rfl (fun hc0 => absurd (show (Int32.ofNat x) = (Int8.toInt32 (Int8.ofInt (-4))) from hc0) (q_none_ne (by omega))) (fun (hc0 : ¬ ((Int32.ofNat x) = (Int8.toInt32 (Int8.ofInt (-4))))) => ?_)
      refine q_ret 4 (some (.int (Int32.ofNat s)), g, u) (fun _ _ => rfl) ?_
      exact ⟨g, u, rfl, w_fr_rfl g⟩
  | succ k ih =>
    intro c b g hi hs hg hb
    have hz2 : g 70 2 * g 70 3 = Int32.ofNat (W * H) := by
      have e1 : g 70 2 = r 70 2 := hs.1.2.1
      have e2 : g 70 3 = r 70 3 := hs.1.2.2.1
      rw [e1, e2, w_size h]
    have h4 : (s_start g) 70 4 = Int32.ofNat n := (show g 70 4 = Int32.ofNat n from w_pl h hs)
    refine q_step 6 57 [(0, .ref 70), (1, .int (Int32.ofNat m)), (2, .int (Int32.ofNat t)), (3, .int (1 : Int32)), (4, .int (e_hm b)), (5, .int (e_hf b)), (6, .int (Int32.ofNat c))] [.int ((g 70 2) * (g 70 3)), .int (Int32.ofNat c)] g u (fun big n0 => sg_ha_62 big n0 g u (Int32.ofNat m) (Int32.ofNat t) (e_hm b) (e_hf b) (Int32.ofNat c)) ?_
    refine q_ic_ge rfl (fun hc0 => absurd (show ((g 70 2) * (g 70 3)) ≤ (Int32.ofNat c) from hc0) (fun z => by rw [hz2] at z; exact absurd ((q_le (by omega) (by omega)).mp z) (by omega))) (fun (hc0 : ¬ (((g 70 2) * (g 70 3)) ≤ (Int32.ofNat c))) => ?_)
    refine q_step 1 61 [(0, .ref 70), (1, .int (Int32.ofNat m)), (2, .int (Int32.ofNat t)), (3, .int (1 : Int32)), (4, .int (e_hm b)), (5, .int (e_hf b)), (6, .int (Int32.ofNat c))] [.ref 70] g u (fun big n0 => sg_ha_64 big n0 g u (Int32.ofNat m) (Int32.ofNat t) (e_hm b) (e_hf b) (Int32.ofNat c)) ?_
    refine q_call (M2 := 172) (rest := []) (b_starts g u) (fun _ _ => rfl) ?_
    refine q_step 2 67 [(0, .ref 70), (1, .int (Int32.ofNat m)), (2, .int (Int32.ofNat t)), (3, .int (1 : Int32)), (4, .int (e_hm b)), (5, .int (e_hf b)), (6, .int (Int32.ofNat c))] [.int (Int32.ofNat c), .ref 70] (s_start g) u (fun big n0 => sg_ha_65 big n0 (s_start g) u (Int32.ofNat m) (Int32.ofNat t) (e_hm b) (e_hf b) (Int32.ofNat c)) ?_
    refine q_call (M2 := 177) (rest := []) (b_open (Int32.ofNat c) (s_start g) u) (fun _ _ => rfl) ?_
    refine q_if_eq rfl (fun (hc1 : (s_op ((s_start g) 71 20) (Int32.ofNat c)) = 0) => ?_) (fun (hc1 : ¬ ((s_op ((s_start g) 71 20) (Int32.ofNat c)) = 0)) => ?_)
    · refine q_step 2 46 [(0, .ref 70), (1, .int (Int32.ofNat m)), (2, .int (Int32.ofNat t)), (3, .int (1 : Int32)), (4, .int (e_hm b)), (5, .int (e_hf b)), (6, .int ((Int32.ofNat c) + (1 : Int32)))] [] (s_start g) u (fun big n0 => sg_ha_66 big n0 (s_start g) u (Int32.ofNat m) (Int32.ofNat t) (e_hm b) (e_hf b) (Int32.ofNat c)) ?_
      have hop0 : ¬ s_bit (r 71 20) (Int32.ofNat c) = 0 := fun z => by
        have q := hc1
        rw [show (s_start g) 71 20 = r 71 20 from hs.1.2.2.2.1] at q
        unfold s_op at q
        rw [if_neg (s_none_ne (by omega)), if_pos z] at q
        exact absurd q (by decide)
      have e : f_h1 (p_fr n r) (n_hg n t m r) c b = b := f_h1_no (Classical.byContradiction (fun y => (fun z => hop0 z.1) (p_fr_iff.mp y)))
      rw [q_succ, f_hb, e]
      exact q_EV.imp (ih (c + 1) b (s_start g) (by omega) (w_st_sm s_start_fr h5 hs) (fun p hp => by rw [s_start_fr.1 71 (by omega)]; exact hg p hp) hb) (fun R z => w_po_r s_start_fr rfl z)
    · refine q_step 2 76 [(0, .ref 70), (1, .int (Int32.ofNat m)), (2, .int (Int32.ofNat t)), (3, .int (1 : Int32)), (4, .int (e_hm b)), (5, .int (e_hf b)), (6, .int (Int32.ofNat c))] [.int (Int32.ofNat c), .ref 70] (s_start g) u (fun big n0 => sg_ha_67 big n0 (s_start g) u (Int32.ofNat m) (Int32.ofNat t) (e_hm b) (e_hf b) (Int32.ofNat c)) ?_
      have hwho := b_rwho (s_start g) u (Int32.ofNat c) (w_w0 h hs).1 (w_w0 h hs).2.1
      rw [w_who_r h hs] at hwho
      refine q_call (M2 := 173) (rest := []) (hwho) (fun _ _ => rfl) ?_
      refine q_step 1 81 [(0, .ref 70), (1, .int (Int32.ofNat m)), (2, .int (Int32.ofNat t)), (3, .int (1 : Int32)), (4, .int (e_hm b)), (5, .int (e_hf b)), (6, .int (Int32.ofNat c))] [.int (Int8.toInt32 (Int8.ofInt (-4))), .int (f_who n r (Int32.ofNat c))] (s_start g) u (fun big n0 => sg_ha_68 big n0 (s_start g) u (Int32.ofNat m) (Int32.ofNat t) (e_hm b) (e_hf b) (Int32.ofNat c) (f_who n r (Int32.ofNat c))) ?_
      refine q_ic_ne rfl (fun (hc2 : (f_who n r (Int32.ofNat c)) = (Int8.toInt32 (Int8.ofInt (-4)))) => ?_) (fun (hc2 : ¬ ((f_who n r (Int32.ofNat c)) = (Int8.toInt32 (Int8.ofInt (-4))))) => ?_)
      · refine q_step 5 94 [(0, .ref 70), (1, .int (Int32.ofNat m)), (2, .int (Int32.ofNat t)), (3, .int (1 : Int32)), (4, .int (e_hm b)), (5, .int (e_hf b)), (6, .int (Int32.ofNat c))] [.int (Int32.ofNat c), .int ((s_start g) 70 4), .ref 75] (s_start g) u (fun big n0 => sg_ha_69 big n0 (s_start g) u (Int32.ofNat m) (Int32.ofNat t) (e_hm b) (e_hf b) (Int32.ofNat c)) ?_
        refine q_iast (j := n) (by rw [h4]; exact q_ixn (by omega) (by omega)) rfl rfl ?_
        refine q_step 5 104 [(0, .ref 70), (1, .int (Int32.ofNat m)), (2, .int (Int32.ofNat t)), (3, .int (1 : Int32)), (4, .int (e_hm b)), (5, .int (e_hf b)), (6, .int (Int32.ofNat c))] [.int (Int32.ofNat m), .int ((s_start g) 70 4), .ref 76] (q_up (s_start g) 75 n (Int32.ofNat c)) u (fun big n0 => sg_ha_70 big n0 (q_up (s_start g) 75 n (Int32.ofNat c)) u (Int32.ofNat m) (Int32.ofNat t) (e_hm b) (e_hf b) (Int32.ofNat c)) ?_
        refine q_iast (j := n) (by rw [h4]; exact q_ixn (by omega) (by omega)) rfl rfl ?_
        refine q_step 5 114 [(0, .ref 70), (1, .int (Int32.ofNat m)), (2, .int (Int32.ofNat t)), (3, .int (1 : Int32)), (4, .int (e_hm b)), (5, .int (e_hf b)), (6, .int (Int32.ofNat c))] [.int (1 : Int32), .int ((s_start g) 70 4), .ref 77] (q_up (q_up (s_start g) 75 n (Int32.ofNat c)) 76 n (Int32.ofNat m)) u (fun big n0 => sg_ha_71 big n0 (q_up (q_up (s_start g) 75 n (Int32.ofNat c)) 76 n (Int32.ofNat m)) u (Int32.ofNat m) (Int32.ofNat t) (e_hm b) (e_hf b) (Int32.ofNat c)) ?_
        refine q_iast (j := n) (by rw [h4]; exact q_ixn (by omega) (by omega)) rfl rfl ?_
        refine q_step 5 125 [(0, .ref 70), (1, .int (Int32.ofNat m)), (2, .int (Int32.ofNat t)), (3, .int (1 : Int32)), (4, .int (e_hm b)), (5, .int (e_hf b)), (6, .int (Int32.ofNat c))] [.int (Int8.toInt32 (Int8.ofInt (-4))), .int ((s_start g) 70 4), .ref 78] (q_up (q_up (q_up (s_start g) 75 n (Int32.ofNat c)) 76 n (Int32.ofNat m)) 77 n (1 : Int32)) u (fun big n0 => sg_ha_72 big n0 (q_up (q_up (q_up (s_start g) 75 n (Int32.ofNat c)) 76 n (Int32.ofNat m)) 77 n (1 : Int32)) u (Int32.ofNat m) (Int32.ofNat t) (e_hm b) (e_hf b) (Int32.ofNat c)) ?_
        refine q_iast (j := n) (by rw [h4]; exact q_ixn (by omega) (by omega)) rfl rfl ?_
        refine q_step 8 139 [(0, .ref 70), (1, .int (Int32.ofNat m)), (2, .int (Int32.ofNat t)), (3, .int (1 : Int32)), (4, .int (e_hm b)), (5, .int (e_hf b)), (6, .int (Int32.ofNat c)), (7, .int (0 : Int32))] [] (q_up (q_up (q_up (q_up (q_up (s_start g) 75 n (Int32.ofNat c)) 76 n (Int32.ofNat m)) 77 n (1 : Int32)) 78 n (Int8.toInt32 (Int8.ofInt (-4)))) 70 27 (((s_start g) 70 4) + (1 : Int32))) u (fun big n0 => sg_ha_73 big n0 (q_up (q_up (q_up (q_up (s_start g) 75 n (Int32.ofNat c)) 76 n (Int32.ofNat m)) 77 n (1 : Int32)) 78 n (Int8.toInt32 (Int8.ofInt (-4)))) u (Int32.ofNat m) (Int32.ofNat t) (e_hm b) (e_hf b) (Int32.ofNat c)) ?_
        rw [show (q_up (q_up (q_up (q_up (q_up (s_start g) 75 n (Int32.ofNat c)) 76 n (Int32.ofNat m)) 77 n (1 : Int32)) 78 n (Int8.toInt32 (Int8.ofInt (-4)))) 70 27 (((s_start g) 70 4) + (1 : Int32))) = (q_up (q_up (q_up (q_up (q_up (s_start g) 75 n (Int32.ofNat c)) 76 n (Int32.ofNat m)) 77 n (1 : Int32)) 78 n (Int8.toInt32 (Int8.ofInt (-4)))) 70 27 ((s_start g) 70 4 + (1 : Int32))) from rfl]
        have hbit : s_bit (r 71 20) (Int32.ofNat c) = 0 := by
          have q := hc1
          rw [show (s_start g) 71 20 = r 71 20 from hs.1.2.2.2.1] at q
          unfold s_op at q
          rw [if_neg (s_none_ne (by omega))] at q
          by_cases z : s_bit (r 71 20) (Int32.ofNat c) = 0
          · exact z
          · rw [if_neg z] at q
            exact absurd rfl q
        have hfr := p_fr_iff.mpr ⟨hbit, hc2⟩
        have hok := w_ok_ha (c := c) (m := m) h h5 (by omega) hbit hc2 hm
        have hsm := w_sm_ha (c := c) (m := m) h4 hs
        have hf : w_fr g (s_rit (n + 1) t (q_up (q_up (q_up (q_up (q_up (s_start g) 75 n (Int32.ofNat c)) 76 n (Int32.ofNat m)) 77 n (1 : Int32)) 78 n (Int8.toInt32 (Int8.ofInt (-4)))) 70 27 ((s_start g) 70 4 + (1 : Int32)))) := ((((((s_start_fr (g := g)).up (by omega)).up (by omega)).up (by omega)).up (by omega)).up27).trans (w_rit_fr t _)
        have hA : n_hg n t m r c ≤ 6 := Nat.le_trans (n_at_le (n + 1) _) (by omega)
        refine rhg_1 u (n := n + 1) (by omega) ht t 0 (q_up (q_up (q_up (q_up (q_up (s_start g) 75 n (Int32.ofNat c)) 76 n (Int32.ofNat m)) 77 n (1 : Int32)) 78 n (Int8.toInt32 (Int8.ofInt (-4)))) 70 27 ((s_start g) 70 4 + (1 : Int32))) (by omega) (w_w0 hok hsm).1 (w_w0 hok hsm).2.2 ?_
        have hag := b_ratg (s_rit (n + 1) t (q_up (q_up (q_up (q_up (q_up (s_start g) 75 n (Int32.ofNat c)) 76 n (Int32.ofNat m)) 77 n (1 : Int32)) 78 n (Int8.toInt32 (Int8.ofInt (-4)))) 70 27 ((s_start g) 70 4 + (1 : Int32)))) u (n := n + 1) (by rw [s_rit_g (by omega)]; exact (w_w0 hok hsm).1) (by omega)
        rw [show s_ct (fun p => if (s_rit (n + 1) t (q_up (q_up (q_up (q_up (q_up (s_start g) 75 n (Int32.ofNat c)) 76 n (Int32.ofNat m)) 77 n (1 : Int32)) 78 n (Int8.toInt32 (Int8.ofInt (-4)))) 70 27 ((s_start g) 70 4 + (1 : Int32)))) 78 p = i_none then (0 : Int32) else if (s_rit (n + 1) t (q_up (q_up (q_up (q_up (q_up (s_start g) 75 n (Int32.ofNat c)) 76 n (Int32.ofNat m)) 77 n (1 : Int32)) 78 n (Int8.toInt32 (Int8.ofInt (-4)))) 70 27 ((s_start g) 70 4 + (1 : Int32)))) 75 p = (s_rit (n + 1) t (q_up (q_up (q_up (q_up (q_up (s_start g) 75 n (Int32.ofNat c)) 76 n (Int32.ofNat m)) 77 n (1 : Int32)) 78 n (Int8.toInt32 (Int8.ofInt (-4)))) 70 27 ((s_start g) 70 4 + (1 : Int32)))) 78 p then 1 else 0) (n + 1) 0 0 = f_at (n + 1) (s_rit (n + 1) t (gh_ha n c m r)) from w_at_r (w_sm_rit t _ _ hok hsm) (fun p hp => by
          rw [s_rit_g (by omega), s_rit_g (by omega), gh_ha_78, q_up_ne (by omega), q_up_at]
          split
          · rfl
          · rw [q_up_ne (by omega), q_up_ne (by omega), q_up_ne (by omega), w_st78 h5 (by omega)]
            exact hg p (by omega)), f_at_n] at hag
        refine q_step 1 157 [(0, .ref 70), (1, .int (Int32.ofNat m)), (2, .int (Int32.ofNat t)), (3, .int (1 : Int32)), (4, .int (e_hm b)), (5, .int (e_hf b)), (6, .int (Int32.ofNat c)), (7, .int (Int32.ofNat t))] [.ref 70] (s_rit (n + 1) t (q_up (q_up (q_up (q_up (q_up (s_start g) 75 n (Int32.ofNat c)) 76 n (Int32.ofNat m)) 77 n (1 : Int32)) 78 n (Int8.toInt32 (Int8.ofInt (-4)))) 70 27 ((s_start g) 70 4 + (1 : Int32)))) u (fun big n0 => sg_ha_74 big n0 (s_rit (n + 1) t (q_up (q_up (q_up (q_up (q_up (s_start g) 75 n (Int32.ofNat c)) 76 n (Int32.ofNat m)) 77 n (1 : Int32)) 78 n (Int8.toInt32 (Int8.ofInt (-4)))) 70 27 ((s_start g) 70 4 + (1 : Int32)))) u (Int32.ofNat m) (Int32.ofNat t) (e_hm b) (e_hf b) (Int32.ofNat c) (Int32.ofNat t)) ?_
        refine q_call (M2 := 197) (rest := []) (hag) (fun _ _ => rfl) ?_
        refine q_step 1 162 [(0, .ref 70), (1, .int (Int32.ofNat m)), (2, .int (Int32.ofNat t)), (3, .int (1 : Int32)), (4, .int (e_hm b)), (5, .int (e_hf b)), (6, .int (Int32.ofNat c)), (7, .int (Int32.ofNat t))] [.int (e_hm b), .int (Int32.ofNat (n_hg n t m r c))] (s_rit (n + 1) t (q_up (q_up (q_up (q_up (q_up (s_start g) 75 n (Int32.ofNat c)) 76 n (Int32.ofNat m)) 77 n (1 : Int32)) 78 n (Int8.toInt32 (Int8.ofInt (-4)))) 70 27 ((s_start g) 70 4 + (1 : Int32)))) u (fun big n0 => sg_ha_75 big n0 (s_rit (n + 1) t (q_up (q_up (q_up (q_up (q_up (s_start g) 75 n (Int32.ofNat c)) 76 n (Int32.ofNat m)) 77 n (1 : Int32)) 78 n (Int8.toInt32 (Int8.ofInt (-4)))) 70 27 ((s_start g) 70 4 + (1 : Int32)))) u (Int32.ofNat m) (Int32.ofNat t) (e_hm b) (e_hf b) (Int32.ofNat c) (Int32.ofNat t) (Int32.ofNat (n_hg n t m r c))) ?_
        refine q_ic_le rfl (fun (hc0 : (Int32.ofNat (n_hg n t m r c)) ≤ (e_hm b)) => ?_) (fun (hc0 : ¬ ((Int32.ofNat (n_hg n t m r c)) ≤ (e_hm b))) => ?_)
        · refine q_step 3 175 [(0, .ref 70), (1, .int (Int32.ofNat m)), (2, .int (Int32.ofNat t)), (3, .int (1 : Int32)), (4, .int (e_hm b)), (5, .int (e_hf b)), (6, .int (Int32.ofNat c)), (7, .int (Int32.ofNat t))] [.ref 70] (s_rit (n + 1) t (q_up (q_up (q_up (q_up (q_up (s_start g) 75 n (Int32.ofNat c)) 76 n (Int32.ofNat m)) 77 n (1 : Int32)) 78 n (Int8.toInt32 (Int8.ofInt (-4)))) 70 27 ((s_start g) 70 4 + (1 : Int32)))) u (fun big n0 => sg_ha_76 big n0 (s_rit (n + 1) t (q_up (q_up (q_up (q_up (q_up (s_start g) 75 n (Int32.ofNat c)) 76 n (Int32.ofNat m)) 77 n (1 : Int32)) 78 n (Int8.toInt32 (Int8.ofInt (-4)))) 70 27 ((s_start g) 70 4 + (1 : Int32)))) u (Int32.ofNat m) (Int32.ofNat t) (e_hm b) (e_hf b) (Int32.ofNat c) (Int32.ofNat t)) ?_
          refine q_call (M2 := 197) (rest := []) (hag) (fun _ _ => rfl) ?_
          refine q_step 1 180 [(0, .ref 70), (1, .int (Int32.ofNat m)), (2, .int (Int32.ofNat t)), (3, .int (1 : Int32)), (4, .int (e_hm b)), (5, .int (e_hf b)), (6, .int (Int32.ofNat c)), (7, .int (Int32.ofNat t))] [.int (e_hm b), .int (Int32.ofNat (n_hg n t m r c))] (s_rit (n + 1) t (q_up (q_up (q_up (q_up (q_up (s_start g) 75 n (Int32.ofNat c)) 76 n (Int32.ofNat m)) 77 n (1 : Int32)) 78 n (Int8.toInt32 (Int8.ofInt (-4)))) 70 27 ((s_start g) 70 4 + (1 : Int32)))) u (fun big n0 => sg_ha_77 big n0 (s_rit (n + 1) t (q_up (q_up (q_up (q_up (q_up (s_start g) 75 n (Int32.ofNat c)) 76 n (Int32.ofNat m)) 77 n (1 : Int32)) 78 n (Int8.toInt32 (Int8.ofInt (-4)))) 70 27 ((s_start g) 70 4 + (1 : Int32)))) u (Int32.ofNat m) (Int32.ofNat t) (e_hm b) (e_hf b) (Int32.ofNat c) (Int32.ofNat t) (Int32.ofNat (n_hg n t m r c))) ?_
          refine q_ic_le rfl (fun (hc1 : (Int32.ofNat (n_hg n t m r c)) ≤ (e_hm b)) => ?_) (fun hc1 => absurd (show (Int32.ofNat (n_hg n t m r c)) ≤ (e_hm b) from hc0) hc1)
          refine q_step 4 46 [(0, .ref 70), (1, .int (Int32.ofNat m)), (2, .int (Int32.ofNat t)), (3, .int (1 : Int32)), (4, .int (e_hm b)), (5, .int (e_hf b)), (6, .int ((Int32.ofNat c) + (1 : Int32))), (7, .int (Int32.ofNat t))] [] (s_rit (n + 1) t (q_up (q_up (q_up (q_up (q_up (s_start g) 75 n (Int32.ofNat c)) 76 n (Int32.ofNat m)) 77 n (1 : Int32)) 78 n (Int8.toInt32 (Int8.ofInt (-4)))) 70 27 ((s_start g) 70 4 + (1 : Int32)))) u (fun big n0 => sg_ha_78 big n0 (s_rit (n + 1) t (q_up (q_up (q_up (q_up (q_up (s_start g) 75 n (Int32.ofNat c)) 76 n (Int32.ofNat m)) 77 n (1 : Int32)) 78 n (Int8.toInt32 (Int8.ofInt (-4)))) 70 27 ((s_start g) 70 4 + (1 : Int32)))) u (Int32.ofNat m) (Int32.ofNat t) (e_hm b) (e_hf b) (Int32.ofNat c) (Int32.ofNat t)) ?_
          refine q_weak [(0, .ref 70), (1, .int (Int32.ofNat m)), (2, .int (Int32.ofNat t)), (3, .int (1 : Int32)), (4, .int (e_hm b)), (5, .int (e_hf b)), (6, .int ((Int32.ofNat c) + (1 : Int32)))] (q_sub.cons rfl (q_sub.cons rfl (q_sub.cons rfl (q_sub.cons rfl (q_sub.cons rfl (q_sub.cons rfl (q_sub.cons rfl q_sub.nil))))))) ?_
          have hle : ∃ x s, b = some (x, s) ∧ ¬ s < n_hg n t m r c := Classical.byContradiction (fun y => (e_hm_lt hA hb).mpr (fun x s e => Classical.byContradiction (fun z => y ⟨x, s, e, z⟩)) hc0)
          obtain ⟨x, s, ebs, hns⟩ := hle
          have e : f_h1 (p_fr n r) (n_hg n t m r) c b = b := f_h1_old hfr ebs hns
          rw [q_succ, f_hb, e]
          exact q_EV.imp (ih (c + 1) b _ (by omega) (w_st_sm hf h5 hs) (fun p hp => by rw [hf.1 71 (by omega)]; exact hg p hp) hb) (fun R z => w_po_r hf rfl z)
        · refine q_step 4 175 [(0, .ref 70), (1, .int (Int32.ofNat m)), (2, .int (Int32.ofNat t)), (3, .int (1 : Int32)), (4, .int (e_hm b)), (5, .int (Int32.ofNat c)), (6, .int (Int32.ofNat c)), (7, .int (Int32.ofNat t))] [.ref 70] (s_rit (n + 1) t (q_up (q_up (q_up (q_up (q_up (s_start g) 75 n (Int32.ofNat c)) 76 n (Int32.ofNat m)) 77 n (1 : Int32)) 78 n (Int8.toInt32 (Int8.ofInt (-4)))) 70 27 ((s_start g) 70 4 + (1 : Int32)))) u (fun big n0 => sg_ha_79 big n0 (s_rit (n + 1) t (q_up (q_up (q_up (q_up (q_up (s_start g) 75 n (Int32.ofNat c)) 76 n (Int32.ofNat m)) 77 n (1 : Int32)) 78 n (Int8.toInt32 (Int8.ofInt (-4)))) 70 27 ((s_start g) 70 4 + (1 : Int32)))) u (Int32.ofNat m) (Int32.ofNat t) (e_hm b) (e_hf b) (Int32.ofNat c) (Int32.ofNat t)) ?_
          refine q_call (M2 := 197) (rest := []) (hag) (fun _ _ => rfl) ?_
          refine q_step 1 180 [(0, .ref 70), (1, .int (Int32.ofNat m)), (2, .int (Int32.ofNat t)), (3, .int (1 : Int32)), (4, .int (e_hm b)), (5, .int (Int32.ofNat c)), (6, .int (Int32.ofNat c)), (7, .int (Int32.ofNat t))] [.int (e_hm b), .int (Int32.ofNat (n_hg n t m r c))] (s_rit (n + 1) t (q_up (q_up (q_up (q_up (q_up (s_start g) 75 n (Int32.ofNat c)) 76 n (Int32.ofNat m)) 77 n (1 : Int32)) 78 n (Int8.toInt32 (Int8.ofInt (-4)))) 70 27 ((s_start g) 70 4 + (1 : Int32)))) u (fun big n0 => sg_ha_77 big n0 (s_rit (n + 1) t (q_up (q_up (q_up (q_up (q_up (s_start g) 75 n (Int32.ofNat c)) 76 n (Int32.ofNat m)) 77 n (1 : Int32)) 78 n (Int8.toInt32 (Int8.ofInt (-4)))) 70 27 ((s_start g) 70 4 + (1 : Int32)))) u (Int32.ofNat m) (Int32.ofNat t) (e_hm b) (Int32.ofNat c) (Int32.ofNat c) (Int32.ofNat t) (Int32.ofNat (n_hg n t m r c))) ?_
          refine q_ic_le rfl (fun hc1 => absurd (show (Int32.ofNat (n_hg n t m r c)) ≤ (e_hm b) from hc1) (hc0)) (fun (hc1 : ¬ ((Int32.ofNat (n_hg n t m r c)) ≤ (e_hm b))) => ?_)
          refine q_step 1 184 [(0, .ref 70), (1, .int (Int32.ofNat m)), (2, .int (Int32.ofNat t)), (3, .int (1 : Int32)), (4, .int (e_hm b)), (5, .int (Int32.ofNat c)), (6, .int (Int32.ofNat c)), (7, .int (Int32.ofNat t))] [.ref 70] (s_rit (n + 1) t (q_up (q_up (q_up (q_up (q_up (s_start g) 75 n (Int32.ofNat c)) 76 n (Int32.ofNat m)) 77 n (1 : Int32)) 78 n (Int8.toInt32 (Int8.ofInt (-4)))) 70 27 ((s_start g) 70 4 + (1 : Int32)))) u (fun big n0 => sg_ha_80 big n0 (s_rit (n + 1) t (q_up (q_up (q_up (q_up (q_up (s_start g) 75 n (Int32.ofNat c)) 76 n (Int32.ofNat m)) 77 n (1 : Int32)) 78 n (Int8.toInt32 (Int8.ofInt (-4)))) 70 27 ((s_start g) 70 4 + (1 : Int32)))) u (Int32.ofNat m) (Int32.ofNat t) (e_hm b) (Int32.ofNat c) (Int32.ofNat c) (Int32.ofNat t)) ?_
          refine q_call (M2 := 197) (rest := []) (hag) (fun _ _ => rfl) ?_
          refine q_step 4 46 [(0, .ref 70), (1, .int (Int32.ofNat m)), (2, .int (Int32.ofNat t)), (3, .int (1 : Int32)), (4, .int (Int32.ofNat (n_hg n t m r c))), (5, .int (Int32.ofNat c)), (6, .int ((Int32.ofNat c) + (1 : Int32))), (7, .int (Int32.ofNat t))] [] (s_rit (n + 1) t (q_up (q_up (q_up (q_up (q_up (s_start g) 75 n (Int32.ofNat c)) 76 n (Int32.ofNat m)) 77 n (1 : Int32)) 78 n (Int8.toInt32 (Int8.ofInt (-4)))) 70 27 ((s_start g) 70 4 + (1 : Int32)))) u (fun big n0 => sg_ha_81 big n0 (s_rit (n + 1) t (q_up (q_up (q_up (q_up (q_up (s_start g) 75 n (Int32.ofNat c)) 76 n (Int32.ofNat m)) 77 n (1 : Int32)) 78 n (Int8.toInt32 (Int8.ofInt (-4)))) 70 27 ((s_start g) 70 4 + (1 : Int32)))) u (Int32.ofNat m) (Int32.ofNat t) (e_hm b) (Int32.ofNat c) (Int32.ofNat c) (Int32.ofNat t) (Int32.ofNat (n_hg n t m r c))) ?_
          refine q_weak [(0, .ref 70), (1, .int (Int32.ofNat m)), (2, .int (Int32.ofNat t)), (3, .int (1 : Int32)), (4, .int (Int32.ofNat (n_hg n t m r c))), (5, .int (Int32.ofNat c)), (6, .int ((Int32.ofNat c) + (1 : Int32)))] (q_sub.cons rfl (q_sub.cons rfl (q_sub.cons rfl (q_sub.cons rfl (q_sub.cons rfl (q_sub.cons rfl (q_sub.cons rfl q_sub.nil))))))) ?_
          have e : f_h1 (p_fr n r) (n_hg n t m r) c b = (some (c, n_hg n t m r c)) := f_h1_new hfr ((e_hm_lt hA hb).mp hc0)
          rw [q_succ, f_hb, e]
          exact q_EV.imp (ih (c + 1) (some (c, n_hg n t m r c)) _ (by omega) (w_st_sm hf h5 hs) (fun p hp => by rw [hf.1 71 (by omega)]; exact hg p hp) (by rw [← e]; exact n_hok_1 hA (by omega) hb)) (fun R z => w_po_r hf rfl z)
      · refine q_step 2 46 [(0, .ref 70), (1, .int (Int32.ofNat m)), (2, .int (Int32.ofNat t)), (3, .int (1 : Int32)), (4, .int (e_hm b)), (5, .int (e_hf b)), (6, .int ((Int32.ofNat c) + (1 : Int32)))] [] (s_start g) u (fun big n0 => sg_ha_66 big n0 (s_start g) u (Int32.ofNat m) (Int32.ofNat t) (e_hm b) (e_hf b) (Int32.ofNat c)) ?_
        have e : f_h1 (p_fr n r) (n_hg n t m r) c b = b := f_h1_no (Classical.byContradiction (fun y => (fun z => hc2 z.2) (p_fr_iff.mp y)))
        rw [q_succ, f_hb, e]
        exact q_EV.imp (ih (c + 1) b (s_start g) (by omega) (w_st_sm s_start_fr h5 hs) (fun p hp => by rw [s_start_fr.1 71 (by omega)]; exact hg p hp) hb) (fun R z => w_po_r s_start_fr rfl z)
theorem r_hang1 {n W H : Nat} {g r : qM} (u : qW) (h : w_ok n W H r) (hs : w_sm n (s_start g) r) (h5 : n ≤ 5) {m t : Nat} (hm : 1 ≤ m ∧ m ≤ 3) (ht : t ≤ 12) (hg : ∀ p, p < n → g 71 (15 + p) = r 78 p) : w_BS w_fr 209 [.ref 70, .int (Int32.ofNat m), .int (Int32.ofNat t), .int (1 : Int32)] g u (.int (f_agw 1 (f_hang n W H t m r))) := by
  refine w_bs (mm := m_209) rfl (Nat.le_of_ble_eq_true rfl) rfl ?_
  refine q_step 4 6 [(0, .ref 70), (1, .int (Int32.ofNat m)), (2, .int (Int32.ofNat t)), (3, .int (1 : Int32))] [.long (3 : Int64), .long (1 : Int64), .long (Int32.toInt64 (Int32.ofNat m))] g u (fun big n0 => sg_ha_82 big n0 g u (Int32.ofNat m) (Int32.ofNat t)) ?_
  refine q_call (M2 := 149) (rest := []) (b_in1 (m := m) (lo := 1) (hi := 3) g u (by omega) (by omega) (by omega)) (fun _ _ => rfl) ?_
  refine q_step 5 18 [(0, .ref 70), (1, .int (Int32.ofNat m)), (2, .int (Int32.ofNat t)), (3, .int (1 : Int32))] [.long (12 : Int64), .long (0 : Int64), .long (Int32.toInt64 (Int32.ofNat t))] g u (fun big n0 => sg_ha_83 big n0 g u (Int32.ofNat m) (Int32.ofNat t)) ?_
  refine q_call (M2 := 149) (rest := []) (b_in1 (m := t) (lo := 0) (hi := 12) g u (by omega) (by omega) (by omega)) (fun _ _ => rfl) ?_
  refine q_step 5 28 [(0, .ref 70), (1, .int (Int32.ofNat m)), (2, .int (Int32.ofNat t)), (3, .int (1 : Int32))] [.long (1 : Int64), .long (0 : Int64), .long (1 : Int64)] g u (fun big n0 => sg_ha_84 big n0 g u (Int32.ofNat m) (Int32.ofNat t)) ?_
  refine q_call (M2 := 149) (rest := []) (show q_BS 149 [.long (1 : Int64), .long (0 : Int64), .long (1 : Int64)] g u (some (.int 1), g, u) from b_in _ _ _ _ _) (fun _ _ => rfl) ?_
  refine q_step 7 46 [(0, .ref 70), (1, .int (Int32.ofNat m)), (2, .int (Int32.ofNat t)), (3, .int (1 : Int32)), (4, .int (Int32.ofInt (-1))), (5, .int (Int8.toInt32 (Int8.ofInt (-4)))), (6, .int (0 : Int32))] [] g u (fun big n0 => sg_ha_85 big n0 g u (Int32.ofNat m) (Int32.ofNat t)) ?_
  exact rh_1 u h h5 hm (by omega) (w_WH h) (W * H) 0 none g (by omega) hs hg (fun x t e => by cases e)
