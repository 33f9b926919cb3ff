section
/-! ROWS OF MOODS, and setting(). -/
def s_dg (row len i : Int32) : Int32 := (row >>> (((2 : Int32) * ((len - (1 : Int32)) - i)) &&& 31)) &&& (3 : Int32)
def s_rows (x : Int32) : Int32 := (1 : Int32) <<< (((2 : Int32) * x) &&& 31)
theorem s_and3 (x : Int32) : x &&& 3 = 0 ∨ x &&& 3 = 1 ∨ x &&& 3 = 2 ∨ x &&& 3 = 3 := by
  have h : (x &&& 3).toBitVec.toNat < 4 := by
    show (x.toBitVec &&& 3#32).toNat < 4
    rw [BitVec.toNat_and]
    exact Nat.lt_of_le_of_lt Nat.and_le_right (by decide)
  have key : ∀ (y z : Int32), y.toBitVec.toNat = z.toBitVec.toNat → y = z := fun y z e => Int32.toBitVec_inj.mp (BitVec.eq_of_toNat_eq e)
  rcases (show (x &&& 3).toBitVec.toNat = 0 ∨ (x &&& 3).toBitVec.toNat = 1 ∨ (x &&& 3).toBitVec.toNat = 2 ∨ (x &&& 3).toBitVec.toNat = 3 by omega) with e | e | e | e
  · exact Or.inl (key _ 0 (by rw [e]; rfl))
  · exact Or.inr (Or.inl (key _ 1 (by rw [e]; rfl)))
  · exact Or.inr (Or.inr (Or.inl (key _ 2 (by rw [e]; rfl))))
  · exact Or.inr (Or.inr (Or.inr (key _ 3 (by rw [e]; rfl))))
theorem s_dg_4 (row len i : Int32) : s_dg row len i = 0 ∨ s_dg row len i = 1 ∨ s_dg row len i = 2 ∨ s_dg row len i = 3 := s_and3 _
theorem s_rows_n {n : Nat} (h : n ≤ 6) : s_rows (Int32.ofNat n) = Int32.ofNat (4 ^ n) := by
  rcases (show n = 0 ∨ n = 1 ∨ n = 2 ∨ n = 3 ∨ n = 4 ∨ n = 5 ∨ n = 6 by omega) with e | e | e | e | e | e | e <;> subst e <;> decide +kernel
theorem s_4n {n : Nat} (h : n ≤ 6) : 4 ^ n ≤ 4096 := Nat.pow_le_pow_right (n := 4) (by omega) h
def f_md (n row p : Nat) : Int32 := s_dg (Int32.ofNat row) (Int32.ofNat n) (Int32.ofNat p)
/-- r with the MOODS of a row -/
def gh_mo (n row : Nat) (r : qM) : qM := s_row_ 76 (f_md n row) n r
theorem w_ok_mo {n W H row : Nat} {r : qM} (h : w_ok n W H r) : w_ok n W H (gh_mo n row r) := by
  obtain ⟨b, h1, h2, h3, h4, h5, h6, h7, h8⟩ := h
  refine ⟨b, h1, h2, h3, h4, h5, h6, fun p hp => ?_, h8⟩
  show (if p < n then f_md n row p else r 76 p) = 0 ∨ (if p < n then f_md n row p else r 76 p) = 1 ∨ (if p < n then f_md n row p else r 76 p) = 2 ∨ (if p < n then f_md n row p else r 76 p) = 3
  rw [if_pos hp]
  exact s_dg_4 _ _ _
theorem w_cs_mo {n row : Nat} {g r : qM} (hc : w_cs 35 n g r) : w_cs 35 n (s_row_ 37 (f_md n row) n g) (gh_mo n row r) := by
  obtain ⟨c1, c6, c7⟩ := hc
  refine ⟨c1, fun d a b => c6 d a b, fun p hp => ⟨(c7 p hp).1, ?_, (c7 p hp).2.2⟩⟩
  show (if p < n then f_md n row p else g 37 p) = (if p < n then f_md n row p else r 76 p)
  rw [if_pos hp, if_pos hp]
theorem w_sm_mo {n row : Nat} {g r : qM} (hs : w_sm n g r) : w_sm n (s_row_ 76 (f_md n row) n g) (gh_mo n row r) := by
  obtain ⟨c1, c6, c7⟩ := hs
  refine ⟨c1, fun d a b => c6 d a b, fun p hp => ⟨(c7 p hp).1, ?_, (c7 p hp).2.2⟩⟩
  show (if p < n then f_md n row p else g 76 p) = (if p < n then f_md n row p else r 76 p)
  rw [if_pos hp, if_pos hp]
/-- how many of k from i on for whom P -/
def n_ct (P : Nat → Int32) : Nat → Nat → Nat → Nat
  | 0, _, a => a
  | k + 1, i, a => n_ct P k (i + 1) (if P i = 0 then a else a + 1)
theorem s_ct_n {P : Nat → Int32} (hP : ∀ p, P p = 0 ∨ P p = 1) : ∀ k i a, s_ct P k i (Int32.ofNat a) = Int32.ofNat (n_ct P k i a)
  | 0, _, _ => rfl
  | k + 1, i, a => by
    rw [s_ct, n_ct]
    rcases hP i with e | e
    · rw [e, if_pos rfl, Int32.add_zero, s_ct_n hP k (i + 1) a]
    · rw [e, if_neg (by decide), q_succ, s_ct_n hP k (i + 1) (a + 1)]
theorem n_ct_le {P : Nat → Int32} : ∀ k i a, n_ct P k i a ≤ a + k
  | 0, _, _ => Nat.le_refl _
  | k + 1, i, a => by
    rw [n_ct]
    have := n_ct_le (P := P) k (i + 1) (if P i = 0 then a else a + 1)
    split at this <;> (split; all_goals first | omega | contradiction)
def p_un (n : Nat) (r : qM) (row p : Nat) : Int32 := if r 76 p = f_md n row p then 0 else 1
def n_un (n : Nat) (r : qM) (row : Nat) : Nat := n_ct (p_un n r row) n 0 0
theorem n_un_le (n : Nat) (r : qM) (row : Nat) : n_un n r row ≤ n := by
  have e := n_ct_le (P := p_un n r row) n 0 0
  rw [Nat.zero_add] at e
  exact e
theorem p_un_01 (n : Nat) (r : qM) (row p : Nat) : p_un n r row p = 0 ∨ p_un n r row p = 1 := s_10 _
def p_unc (g : qM) (row : Int32) (p : Nat) : Int32 := if g 22 p = s_dg row (g 20 3) (Int32.ofNat p) then 0 else 1
theorem w_un_c {n W H row : Nat} {g r : qM} (h : w_ok n W H r) (hc : w_cs 20 n g r) : s_ct (p_unc g (Int32.ofNat row)) n 0 0 = Int32.ofNat (n_un n r row) := by
  have e := s_ct_n (p_un_01 n r row) n 0 0
  refine Eq.trans (s_ct_cg n 0 0 (fun p _ hp => ?_)) e
  unfold p_unc p_un f_md
  rw [(hc.2.2 p (by omega)).2.1, hc.1.1, h.2.1]
/-- by a row of MOODS all are where they should be, behind m STEPS -/
def p_rch (n m : Nat) (r : qM) (row : Nat) : Int32 := if f_at n (s_rit n m (gh_mo n row r)) = f_hav n r then 1 else 0
theorem p_rch_01 (n m : Nat) (r : qM) (row : Nat) : p_rch n m r row = 0 ∨ p_rch n m r row = 1 := s_01 _
def s_rgm (n row : Nat) (g : qM) : qM := s_row_ 37 (f_md n row) n (s_cpl 35 20 g)
def s_rgg (n m row : Nat) (g : qM) : qM := q_up (s_tss 35 n m (s_rgm n row g)) 35 5 (s_rgm n row g 35 5 + Int32.ofNat m)
theorem s_row_o {A b i : Nat} {f : Nat → Int32} {g : qM} (h : b ≠ A) : s_row_ A f i g b = g b := by
  funext j
  unfold s_row_
  rw [if_neg h]
theorem w_tr_up {n : Nat} {g r : qM} {x : Int32} (h : w_tr n g r) : w_tr n (q_up g 35 5 x) r := h
theorem s_rgg_fc {n m row : Nat} {g : qM} : w_fc g (s_rgg n m row g) := w_fc.up (w_fc.trans (w_fc.trans w_cpl_fc (fun b hb => s_row_o (by omega))) (s_tss_35 m _)) (by omega)
theorem s_rgg_tr {n m row : Nat} {g r : qM} (h : w_tr n g r) : w_tr n (s_rgg n m row g) r := w_tr_up (w_tr_tss m (s_rgm n row g) (w_tr_cg (w_tr_cpl h) (fun j _ => by unfold s_rgm; rw [s_row_o (by omega)]) (s_row_o (by omega)) (s_row_o (by omega))))
theorem s_rgg_go {n m row : Nat} {g : qM} : s_rgg n m row g 39 = g 39 := by
  have e2 : s_rgm n row g 39 = g 39 := by
    unfold s_rgm
    rw [s_row_o (by omega), s_cpl_o (by omega)]
  unfold s_rgg
  rw [q_up_ne (by omega)]
  exact (s_tss_go (T := 35) (Or.inr rfl) m (s_rgm n row g)).trans e2
/-! the fewest changed, of several the first row -/
def f_si (U R : Nat → Nat) (c : Nat) : Nat → Nat → Option Nat
  | 0, _ => none
  | k + 1, row => if U row = c ∧ R row ≠ 0 then some row else f_si U R c k (row + 1)
def f_so (U R : Nat → Nat) (N : Nat) : Nat → Nat → Option Nat
  | 0, _ => none
  | k + 1, c => match f_si U R c N 0 with
    | some row => some row
    | none => f_so U R N k (c + 1)
def f_sb (U R : Nat → Nat) (row : Nat) (b : Option (Nat × Nat)) : Option (Nat × Nat) := match b with
  | none => if R row ≠ 0 then some (U row, row) else none
  | some (c, x) => if U row < c ∧ R row ≠ 0 then some (U row, row) else some (c, x)
def f_sr (U R : Nat → Nat) : Nat → Nat → Option (Nat × Nat) → Option (Nat × Nat)
  | 0, _, b => b
  | k + 1, row, b => f_sr U R k (row + 1) (f_sb U R row b)
def n_best (U R : Nat → Nat) (N row : Nat) : Prop := row < N ∧ R row ≠ 0 ∧ ∀ y, y < N → R y ≠ 0 → U row < U y ∨ (U row = U y ∧ row ≤ y)
theorem n_best_one {U R : Nat → Nat} {N x y : Nat} (hx : n_best U R N x) (hy : n_best U R N y) : x = y := by
  have a := hx.2.2 y hy.1 hy.2.1
  have b := hy.2.2 x hx.1 hx.2.1
  omega
theorem f_si_ok {U R : Nat → Nat} {c : Nat} : ∀ k row, (∀ x, f_si U R c k row = some x → row ≤ x ∧ x < row + k ∧ U x = c ∧ R x ≠ 0 ∧ ∀ y, row ≤ y → y < x → ¬ (U y = c ∧ R y ≠ 0)) ∧ (f_si U R c k row = none → ∀ y, row ≤ y → y < row + k → ¬ (U y = c ∧ R y ≠ 0))
  | 0, row => ⟨fun x h => (by cases h), fun _ y a b => by omega⟩
  | k + 1, row => by
    obtain ⟨i1, i2⟩ := f_si_ok (U := U) (R := R) (c := c) k (row + 1)
    rw [f_si]
    by_cases e : U row = c ∧ R row ≠ 0
    · rw [if_pos e]
      exact ⟨fun x h => by cases h; exact ⟨Nat.le_refl _, by omega, e.1, e.2, fun y a b => by omega⟩, fun h => by cases h⟩
    · rw [if_neg e]
      refine ⟨fun x h => ?_, fun h y a b => ?_⟩
      · obtain ⟨a, b, c', d, f⟩ := i1 x h
        exact ⟨by omega, by omega, c', d, fun y p q => by
          by_cases z : y = row
          · rw [z]; exact e
          · exact f y (by omega) q⟩
      · by_cases z : y = row
        · rw [z]; exact e
        · exact i2 h y (by omega) (by omega)
theorem f_so_ok {U R : Nat → Nat} {N : Nat} : ∀ k c, (∀ y, y < N → R y ≠ 0 → c ≤ U y) → (∀ x, f_so U R N k c = some x → n_best U R N x) ∧ (f_so U R N k c = none → ∀ y, y < N → R y ≠ 0 → c + k ≤ U y)
  | 0, c, h => ⟨fun x e => (by cases e), fun _ y a b => by have := h y a b; omega⟩
  | k + 1, c, h => by
    obtain ⟨s1, s2⟩ := f_si_ok (U := U) (R := R) (c := c) N 0
    rw [f_so]
    cases e : f_si U R c N 0 with
    | some row =>
      obtain ⟨a, b, d, f, i⟩ := s1 row e
      refine ⟨fun x hx => ?_, fun hx => by cases hx⟩
      cases hx
      refine ⟨by omega, f, fun y hy hR => ?_⟩
      have := h y hy hR
      by_cases z : U y = c
      · refine Or.inr ⟨by omega, ?_⟩
        by_cases q : row ≤ y
        · exact q
        · exact absurd ⟨z, hR⟩ (i y (by omega) (by omega))
      · exact Or.inl (by omega)
    | none =>
      have s2 := s2 e
      obtain ⟨i1, i2⟩ := f_so_ok (U := U) (R := R) (N := N) k (c + 1) (fun y hy hR => by
        have a := h y hy hR
        have b := s2 y (Nat.zero_le _) (by omega)
        by_cases z : U y = c
        · exact absurd ⟨z, hR⟩ b
        · omega)
      exact ⟨i1, fun hx y hy hR => by have := i2 hx y hy hR; omega⟩
def n_bo (U R : Nat → Nat) (N : Nat) : Option (Nat × Nat) → Prop
  | none => ∀ y, y < N → ¬ R y ≠ 0
  | some (c, x) => c = U x ∧ n_best U R N x
theorem f_sr_ok {U R : Nat → Nat} : ∀ k row b, n_bo U R row b → n_bo U R (row + k) (f_sr U R k row b)
  | 0, _, _, h => h
  | k + 1, row, b, h => by
    rw [f_sr, show row + (k + 1) = row + 1 + k by omega]
    refine f_sr_ok k (row + 1) _ ?_
    match b, h with
    | none, h =>
      show n_bo U R (row + 1) (if R row ≠ 0 then some (U row, row) else none)
      by_cases e : R row ≠ 0
      · rw [if_pos e]
        refine ⟨rfl, by omega, e, fun y hy hR => ?_⟩
        by_cases z : y = row
        · rw [z]; exact Or.inr ⟨rfl, Nat.le_refl _⟩
        · exact absurd hR (h y (by omega))
      · rw [if_neg e]
        intro y hy
        by_cases z : y = row
        · rw [z]; exact e
        · exact h y (by omega)
    | some (c, x), h =>
      obtain ⟨h1, h2, h3, h4⟩ := h
      show n_bo U R (row + 1) (if U row < c ∧ R row ≠ 0 then some (U row, row) else some (c, x))
      by_cases e : U row < c ∧ R row ≠ 0
      · rw [if_pos e]
        refine ⟨rfl, by omega, e.2, fun y hy hR => ?_⟩
        by_cases z : y = row
        · rw [z]; exact Or.inr ⟨rfl, Nat.le_refl _⟩
        · have := h4 y (by omega) hR
          exact Or.inl (by omega)
      · rw [if_neg e]
        refine ⟨h1, by omega, h3, fun y hy hR => ?_⟩
        by_cases z : y = row
        · subst z
          have e' : ¬ U y < c := fun q => e ⟨q, hR⟩
          by_cases q : U x = U y
          · exact Or.inr ⟨q, by omega⟩
          · exact Or.inl (by omega)
        · exact h4 y (by omega) hR
/-- both ways come to one -/
theorem f_sr_so {U R : Nat → Nat} {N K : Nat} (hU : ∀ y, y < N → U y < K) : f_sr U R N 0 none = (f_so U R N K 0).map (fun x => (U x, x)) := by
  have a := f_sr_ok (U := U) (R := R) N 0 none (fun y hy => by omega)
  rw [Nat.zero_add] at a
  obtain ⟨s1, s2⟩ := f_so_ok (U := U) (R := R) (N := N) K 0 (fun _ _ _ => Nat.zero_le _)
  cases e : f_so U R N K 0 with
  | some x =>
    have hx := s1 x e
    cases e2 : f_sr U R N 0 none with
    | some z =>
      obtain ⟨c, y⟩ := z
      rw [e2] at a
      obtain ⟨h1, h2⟩ := a
      have := n_best_one hx h2
      subst this
      rw [h1]
      rfl
    | none =>
      rw [e2] at a
      exact absurd hx.2.1 (a x hx.1)
  | none =>
    have hx := s2 e
    cases e2 : f_sr U R N 0 none with
    | some z =>
      obtain ⟨c, y⟩ := z
      rw [e2] at a
      obtain ⟨h1, h2⟩ := a
      have p := hx y h2.1 h2.2.1
      have q := hU y h2.1
      omega
    | none => rfl
def n_rch (n m : Nat) (r : qM) (row : Nat) : Nat := (p_rch n m r row).toInt.toNat
theorem n_rch_iff {n m : Nat} {r : qM} {row : Nat} : n_rch n m r row ≠ 0 ↔ p_rch n m r row ≠ 0 := by
  unfold n_rch
  rcases p_rch_01 n m r row with e | e <;> rw [e] <;> decide
/-- what setting() finds -/
def f_set (n m : Nat) (r : qM) : Option Nat := f_so (n_un n r) (n_rch n m r) (4 ^ n) (n + 1) 0
def e_row : Option Nat → Int32
  | none => i_none
  | some x => Int32.ofNat x
def f_set0 (n : Nat) (r : qM) : Option Nat → Int32
  | none => i_none
  | some x => Int32.ofNat (n_un n r x)
def f_setp (n p : Nat) : Option Nat → Int32
  | none => i_none
  | some x => f_md n x p
def e_few : Option (Nat × Nat) → Int32
  | none => 1000000
  | some (c, _) => Int32.ofNat c
def e_fnd : Option (Nat × Nat) → Int32
  | none => i_none
  | some (_, x) => Int32.ofNat x
def p_ust (g : qM) (row : Int32) (p : Nat) : Int32 := if s_dg row (g 70 4) (Int32.ofNat p) = g 71 (5 + p) then 0 else 1
theorem f_set_lt {n m : Nat} {r : qM} {x : Nat} (h : f_set n m r = some x) : x < 4 ^ n := ((f_so_ok (n + 1) 0 (fun _ _ _ => Nat.zero_le _)).1 x h).1
theorem n_fewlt {U : Nat → Nat} {N a : Nat} {b : Option (Nat × Nat)} (ha : a < 1000) (hb : ∀ c x, b = some (c, x) → c = U x ∧ x < N) (hU : ∀ x, U x < 1000) : Int32.ofNat a < e_few b ↔ (∀ c x, b = some (c, x) → a < c) := by
  match b, hb with
  | none, _ =>
    refine ⟨fun _ c x z => (by cases z), fun _ => ?_⟩
    show Int32.ofNat a < 1000000
    rw [Int32.lt_iff_toInt_lt, q_nat (by omega)]
    have e : (1000000 : Int32).toInt = 1000000 := rfl
    omega
  | some (c, x), hb =>
    have h1 := (hb c x rfl).1
    have h2 := hU x
    show Int32.ofNat a < Int32.ofNat c ↔ _
    rw [q_lt (by omega) (by omega)]
    exact ⟨fun z c' x' e => by cases e; exact z, fun z => z c x rfl⟩
theorem n_few1 {U R : Nat → Nat} {row : Nat} {b : Option (Nat × Nat)} (hR : R row ≠ 0) (hl : ∀ c x, b = some (c, x) → U row < c) : f_sb U R row b = some (U row, row) := by
  match b, hl with
  | none, _ => exact if_pos hR
  | some (c, x), hl => exact if_pos ⟨hl c x rfl, hR⟩
theorem n_few0 {U R : Nat → Nat} {row : Nat} {b : Option (Nat × Nat)} (h : ¬ R row ≠ 0 ∨ ¬ ∀ c x, b = some (c, x) → U row < c) : f_sb U R row b = b := by
  match b, h with
  | none, h =>
    rcases h with h | h
    · exact if_neg h
    · exact absurd (fun c x z => by cases z) h
  | some (c, x), h =>
    rcases h with h | h
    · exact if_neg (fun z => h z.2)
    · exact if_neg (fun z => h (fun c' x' e => by cases e; exact z.1))
theorem sg_se_1 (big : Nat → List Value → qM → qW → qR) (n0 : Nat) (G : qM) (U : qW) (v0 : Int32) (v1 : Int32) : qm_run pm_m big m_95 (n0 + 4) 0 [(0, .ref 20), (1, .int v0), (2, .int v1)] [] G U = qm_run pm_m big m_95 n0 6 [(0, .ref 20), (1, .int v0), (2, .int v1)] [.int (G 20 3), .int v1, .int v0] G U := rfl
theorem sg_se_2 (big : Nat → List Value → qM → qW → qR) (n0 : Nat) (G : qM) (U : qW) (v0 : Int32) (v1 : Int32) : qm_run pm_m big m_95 (n0 + 4) 0 [(0, .ref 35), (1, .int v0), (2, .int v1)] [] G U = qm_run pm_m big m_95 n0 6 [(0, .ref 35), (1, .int v0), (2, .int v1)] [.int (G 35 3), .int v1, .int v0] G U := rfl
theorem sg_se_3 (big : Nat → List Value → qM → qW → qR) (n0 : Nat) (G : qM) (U : qW) (v0 : Int32) (v1 : Int32) (v2 : Int32) : qm_run pm_m big m_94 (n0 + 3) 4 [(0, .ref 20), (1, .int v0), (2, .int v1), (3, .int v2)] [] G U = qm_run pm_m big m_94 n0 9 [(0, .ref 20), (1, .int v0), (2, .int v1), (3, .int v2)] [.int (G 20 3), .int v2] G U := rfl
theorem sg_se_4 (big : Nat → List Value → qM → qW → qR) (n0 : Nat) (G : qM) (U : qW) (v0 : Int32) (v1 : Int32) (v2 : Int32) : qm_run pm_m big m_94 (n0 + 4) 12 [(0, .ref 20), (1, .int v0), (2, .int v1), (3, .int v2)] [] G U = qm_run pm_m big m_94 n0 18 [(0, .ref 20), (1, .int v0), (2, .int v1), (3, .int v2)] [.int v2, .ref 22, .int v1] G U := rfl
theorem sg_se_5 (big : Nat → List Value → qM → qW → qR) (n0 : Nat) (G : qM) (U : qW) (v0 : Int32) (v1 : Int32) (v2 : Int32) (v3 : Int32) (v4 : Int32) : qm_run pm_m big m_94 (n0 + 3) 19 [(0, .ref 20), (1, .int v0), (2, .int v1), (3, .int v2)] [.int v4, .int v3] G U = qm_run pm_m big m_94 n0 22 [(0, .ref 20), (1, .int v0), (2, .int v1), (3, .int v2)] [.int v2, .int v0, .ref 20, .int v4, .int v3] G U := rfl
theorem sg_se_6 (big : Nat → List Value → qM → qW → qR) (n0 : Nat) (G : qM) (U : qW) (v0 : Int32) (v1 : Int32) (v2 : Int32) (v3 : Int32) : qm_run pm_m big m_94 (n0 + 5) 32 [(0, .ref 20), (1, .int v0), (2, .int v1), (3, .int v2)] [.int v3] G U = qm_run pm_m big m_94 n0 4 [(0, .ref 20), (1, .int v0), (2, .int (v3 + (0 : Int32))), (3, .int (v2 + (1 : Int32)))] [] G U := rfl
theorem sg_se_7 (big : Nat → List Value → qM → qW → qR) (n0 : Nat) (G : qM) (U : qW) (v0 : Int32) (v1 : Int32) (v2 : Int32) (v3 : Int32) : qm_run pm_m big m_94 (n0 + 6) 28 [(0, .ref 20), (1, .int v0), (2, .int v1), (3, .int v2)] [.int v3] G U = qm_run pm_m big m_94 n0 4 [(0, .ref 20), (1, .int v0), (2, .int (v3 + (1 : Int32))), (3, .int (v2 + (1 : Int32)))] [] G U := rfl
theorem sg_se_8 (big : Nat → List Value → qM → qW → qR) (n0 : Nat) (G : qM) (U : qW) (v0 : Int32) : qm_run pm_m big m_94 (n0 + 4) 0 [(0, .ref 20), (1, .int v0)] [] G U = qm_run pm_m big m_94 n0 4 [(0, .ref 20), (1, .int v0), (2, .int (0 : Int32)), (3, .int (0 : Int32))] [] G U := rfl
theorem sg_se_9 (big : Nat → List Value → qM → qW → qR) (n0 : Nat) (G : qM) (U : qW) (v0 : Int32) (v1 : Int32) : qm_run pm_m big m_98 (n0 + 3) 2 [(0, .ref 35), (1, .int v0), (2, .int v1)] [] G U = qm_run pm_m big m_98 n0 7 [(0, .ref 35), (1, .int v0), (2, .int v1)] [.int (G 35 3), .int v1] G U := rfl
theorem sg_se_10 (big : Nat → List Value → qM → qW → qR) (n0 : Nat) (G : qM) (U : qW) (v0 : Int32) (v1 : Int32) : qm_run pm_m big m_98 (n0 + 6) 10 [(0, .ref 35), (1, .int v0), (2, .int v1)] [] G U = qm_run pm_m big m_98 n0 18 [(0, .ref 35), (1, .int v0), (2, .int v1)] [.int v1, .int v0, .ref 35, .int v1, .ref 37] G U := rfl
theorem sg_se_11 (big : Nat → List Value → qM → qW → qR) (n0 : Nat) (G : qM) (U : qW) (v0 : Int32) (v1 : Int32) : qm_run pm_m big m_98 (n0 + 2) 22 [(0, .ref 35), (1, .int v0), (2, .int v1)] [] G U = qm_run pm_m big m_98 n0 2 [(0, .ref 35), (1, .int v0), (2, .int (v1 + (1 : Int32)))] [] G U := rfl
theorem sg_se_12 (big : Nat → List Value → qM → qW → qR) (n0 : Nat) (G : qM) (U : qW) (v0 : Int32) : qm_run pm_m big m_98 (n0 + 2) 0 [(0, .ref 35), (1, .int v0)] [] G U = qm_run pm_m big m_98 n0 2 [(0, .ref 35), (1, .int v0), (2, .int (0 : Int32))] [] G U := rfl
theorem sg_se_13 (big : Nat → List Value → qM → qW → qR) (n0 : Nat) (G : qM) (U : qW) : qm_run pm_m big m_99 (n0 + 1) 0 [(0, .ref 35)] [] G U = qm_run pm_m big m_99 n0 1 [(0, .ref 35)] [.ref 35] G U := rfl
theorem sg_se_14 (big : Nat → List Value → qM → qW → qR) (n0 : Nat) (G : qM) (U : qW) (v0 : Int32) : qm_run pm_m big m_99 (n0 + 1) 4 [(0, .ref 35)] [.int v0] G U = qm_run pm_m big m_99 n0 5 [(0, .ref 35)] [.ref 35, .int v0] G U := rfl
theorem sg_se_15 (big : Nat → List Value → qM → qW → qR) (n0 : Nat) (G : qM) (U : qW) (v0 : Int32) (v1 : Int32) : qm_run pm_m big m_97 (n0 + 3) 0 [(0, .ref 34), (1, .ref 20), (2, .int v0), (3, .int v1)] [] G U = qm_run pm_m big m_97 n0 5 [(0, .ref 34), (1, .ref 20), (2, .int v0), (3, .int v1)] [.ref 20, .ref 35] G U := rfl
theorem sg_se_16 (big : Nat → List Value → qM → qW → qR) (n0 : Nat) (G : qM) (U : qW) (v0 : Int32) (v1 : Int32) : qm_run pm_m big m_97 (n0 + 3) 8 [(0, .ref 34), (1, .ref 20), (2, .int v0), (3, .int v1)] [] G U = qm_run pm_m big m_97 n0 13 [(0, .ref 34), (1, .ref 20), (2, .int v0), (3, .int v1)] [.int v0, .ref 35] G U := rfl
theorem sg_se_17 (big : Nat → List Value → qM → qW → qR) (n0 : Nat) (G : qM) (U : qW) (v0 : Int32) (v1 : Int32) : qm_run pm_m big m_97 (n0 + 5) 16 [(0, .ref 34), (1, .ref 20), (2, .int v0), (3, .int v1)] [] G U = qm_run pm_m big m_97 n0 25 [(0, .ref 34), (1, .ref 20), (2, .int v0), (3, .int v1)] [.int v1, .ref 35, .ref 28] G U := rfl
theorem sg_se_18 (big : Nat → List Value → qM → qW → qR) (n0 : Nat) (G : qM) (U : qW) (v0 : Int32) (v1 : Int32) : qm_run pm_m big m_97 (n0 + 2) 28 [(0, .ref 34), (1, .ref 20), (2, .int v0), (3, .int v1)] [] G U = qm_run pm_m big m_97 n0 32 [(0, .ref 34), (1, .ref 20), (2, .int v0), (3, .int v1)] [.ref 35] G U := rfl
theorem sg_se_19 (big : Nat → List Value → qM → qW → qR) (n0 : Nat) (G : qM) (U : qW) (v0 : Int32) (v1 : Int32) (v2 : Int32) : qm_run pm_m big m_92 (n0 + 3) 21 [(0, .ref 34), (1, .ref 20), (2, .int v0), (3, .int v1), (4, .int v2)] [] G U = qm_run pm_m big m_92 n0 27 [(0, .ref 34), (1, .ref 20), (2, .int v0), (3, .int v1), (4, .int v2)] [.int (G 20 3), .int v2] G U := rfl
theorem sg_se_20 (big : Nat → List Value → qM → qW → qR) (n0 : Nat) (G : qM) (U : qW) (v0 : Int32) (v1 : Int32) (v2 : Int32) : qm_run pm_m big m_92 (n0 + 2) 33 [(0, .ref 34), (1, .ref 20), (2, .int v0), (3, .int v1), (4, .int v2)] [] G U = qm_run pm_m big m_92 n0 36 [(0, .ref 34), (1, .ref 20), (2, .int v0), (3, .int v1), (4, .int v2)] [.int v2, .ref 20] G U := rfl
theorem sg_se_21 (big : Nat → List Value → qM → qW → qR) (n0 : Nat) (G : qM) (U : qW) (v0 : Int32) (v1 : Int32) (v2 : Int32) (v3 : Int32) : qm_run pm_m big m_92 (n0 + 1) 39 [(0, .ref 34), (1, .ref 20), (2, .int v0), (3, .int v1), (4, .int v2)] [.int v3] G U = qm_run pm_m big m_92 n0 40 [(0, .ref 34), (1, .ref 20), (2, .int v0), (3, .int v1), (4, .int v2)] [.int v1, .int v3] G U := rfl
theorem sg_se_22 (big : Nat → List Value → qM → qW → qR) (n0 : Nat) (G : qM) (U : qW) (v0 : Int32) (v1 : Int32) (v2 : Int32) : qm_run pm_m big m_92 (n0 + 4) 43 [(0, .ref 34), (1, .ref 20), (2, .int v0), (3, .int v1), (4, .int v2)] [] G U = qm_run pm_m big m_92 n0 48 [(0, .ref 34), (1, .ref 20), (2, .int v0), (3, .int v1), (4, .int v2)] [.int v0, .int v2, .ref 20, .ref 34] G U := rfl
theorem sg_se_23 (big : Nat → List Value → qM → qW → qR) (n0 : Nat) (G : qM) (U : qW) (v0 : Int32) (v1 : Int32) (v2 : Int32) : qm_run pm_m big m_92 (n0 + 3) 51 [(0, .ref 34), (1, .ref 20), (2, .int v0), (3, .int v1), (4, .int v2)] [.int (0 : Int32)] G U = qm_run pm_m big m_92 n0 21 [(0, .ref 34), (1, .ref 20), (2, .int v0), (3, .int v1), (4, .int (v2 + (1 : Int32)))] [] G U := rfl
theorem sg_se_24 (big : Nat → List Value → qM → qW → qR) (n0 : Nat) (G : qM) (U : qW) (v0 : Int32) (v1 : Int32) (v2 : Int32) : qm_run pm_m big m_92 (n0 + 2) 57 [(0, .ref 34), (1, .ref 20), (2, .int v0), (3, .int v1), (4, .int v2)] [] G U = qm_run pm_m big m_92 n0 21 [(0, .ref 34), (1, .ref 20), (2, .int v0), (3, .int v1), (4, .int (v2 + (1 : Int32)))] [] G U := rfl
theorem sg_se_25 (big : Nat → List Value → qM → qW → qR) (n0 : Nat) (G : qM) (U : qW) (v0 : Int32) (v1 : Int32) : qm_run pm_m big m_92 (n0 + 3) 10 [(0, .ref 34), (1, .ref 20), (2, .int v0), (3, .int v1)] [] G U = qm_run pm_m big m_92 n0 15 [(0, .ref 34), (1, .ref 20), (2, .int v0), (3, .int v1)] [.int (G 20 3), .int v1] G U := rfl
theorem sg_se_26 (big : Nat → List Value → qM → qW → qR) (n0 : Nat) (G : qM) (U : qW) (v0 : Int32) (v1 : Int32) : qm_run pm_m big m_92 (n0 + 2) 18 [(0, .ref 34), (1, .ref 20), (2, .int v0), (3, .int v1)] [] G U = qm_run pm_m big m_92 n0 21 [(0, .ref 34), (1, .ref 20), (2, .int v0), (3, .int v1), (4, .int (0 : Int32))] [] G U := rfl
theorem sg_se_27 (big : Nat → List Value → qM → qW → qR) (n0 : Nat) (G : qM) (U : qW) (v0 : Int32) (v1 : Int32) (v2 : Int32) : qm_run pm_m big m_92 (n0 + 2) 63 [(0, .ref 34), (1, .ref 20), (2, .int v0), (3, .int v1), (4, .int v2)] [] G U = qm_run pm_m big m_92 n0 10 [(0, .ref 34), (1, .ref 20), (2, .int v0), (3, .int (v1 + (1 : Int32))), (4, .int v2)] [] G U := rfl
theorem sg_se_28 (big : Nat → List Value → qM → qW → qR) (n0 : Nat) (G : qM) (U : qW) (v0 : Int32) : qm_run pm_m big m_92 (n0 + 3) 0 [(0, .ref 34), (1, .ref 20), (2, .int v0)] [] G U = qm_run pm_m big m_92 n0 5 [(0, .ref 34), (1, .ref 20), (2, .int v0)] [.ref 20, .ref 35] G U := rfl
theorem sg_se_29 (big : Nat → List Value → qM → qW → qR) (n0 : Nat) (G : qM) (U : qW) (v0 : Int32) : qm_run pm_m big m_92 (n0 + 2) 8 [(0, .ref 34), (1, .ref 20), (2, .int v0)] [] G U = qm_run pm_m big m_92 n0 10 [(0, .ref 34), (1, .ref 20), (2, .int v0), (3, .int (0 : Int32))] [] G U := rfl
theorem sg_se_30 (big : Nat → List Value → qM → qW → qR) (n0 : Nat) (G : qM) (U : qW) (v0 : Int32) : qm_run pm_m big m_91 (n0 + 1) 0 [(0, .ref 8), (1, .int v0)] [] G U = qm_run pm_m big m_91 n0 1 [(0, .ref 8), (1, .int v0)] [.int v0] G U := rfl
theorem sg_se_31 (big : Nat → List Value → qM → qW → qR) (n0 : Nat) (G : qM) (U : qW) (v0 : Int32) : qm_run pm_m big m_91 (n0 + 2) 4 [(0, .ref 8), (1, .int v0)] [] G U = qm_run pm_m big m_91 n0 7 [(0, .ref 8), (1, .int v0)] [.int (10 : Int32), .int v0] G U := rfl
theorem sg_se_32 (big : Nat → List Value → qM → qW → qR) (n0 : Nat) (G : qM) (U : qW) (v0 : Int32) : qm_run pm_m big m_91 (n0 + 5) 10 [(0, .ref 8), (1, .int v0)] [] G U = qm_run pm_m big m_91 n0 18 [(0, .ref 8), (1, .int v0)] [.int (v0 - (10 : Int32)), .ref 20] G U := rfl
theorem sg_se_33 (big : Nat → List Value → qM → qW → qR) (n0 : Nat) (G : qM) (U : qW) (v0 : Int32) : qm_run pm_m big m_89 (n0 + 1) 0 [(0, .ref 8), (1, .int v0), (2, .int (0 : Int32))] [] G U = qm_run pm_m big m_89 n0 1 [(0, .ref 8), (1, .int v0), (2, .int (0 : Int32))] [.int v0] G U := rfl
theorem sg_se_34 (big : Nat → List Value → qM → qW → qR) (n0 : Nat) (G : qM) (U : qW) (v0 : Int32) : qm_run pm_m big m_89 (n0 + 3) 4 [(0, .ref 8), (1, .int v0), (2, .int (0 : Int32))] [.int (1 : Int32)] G U = qm_run pm_m big m_89 n0 9 [(0, .ref 8), (1, .int v0), (2, .int (0 : Int32))] [.int (0 : Int32), .ref 8] G U := rfl
theorem sg_se_35 (big : Nat → List Value → qM → qW → qR) (n0 : Nat) (G : qM) (U : qW) (v0 : Int32) : qm_run pm_m big m_89 (n0 + 6) 12 [(0, .ref 8), (1, .int v0), (2, .int (0 : Int32))] [.int (1 : Int32)] G U = qm_run pm_m big m_89 n0 26 [(0, .ref 8), (1, .int v0), (2, .int (0 : Int32))] [.int v0, .ref 20, .ref 34] G U := rfl
theorem sg_se_36 (big : Nat → List Value → qM → qW → qR) (n0 : Nat) (G : qM) (U : qW) (v0 : Int32) (v1 : Int32) : qm_run pm_m big m_89 (n0 + 3) 29 [(0, .ref 8), (1, .int v0), (2, .int (0 : Int32))] [.int v1] G U = qm_run pm_m big m_89 n0 33 [(0, .ref 8), (1, .int v0), (2, .int (0 : Int32)), (3, .int v1)] [.int (Int8.toInt32 (Int8.ofInt (-4))), .int v1] G U := rfl
theorem sg_se_37 (big : Nat → List Value → qM → qW → qR) (n0 : Nat) (G : qM) (U : qW) (v0 : Int32) (v1 : Int32) : qm_run pm_m big m_89 (n0 + 5) 39 [(0, .ref 8), (1, .int v0), (2, .int (0 : Int32)), (3, .int v1)] [] G U = qm_run pm_m big m_89 n0 48 [(0, .ref 8), (1, .int v0), (2, .int (0 : Int32)), (3, .int v1)] [.int v1, .ref 20] G U := rfl
theorem sg_se_38 (big : Nat → List Value → qM → qW → qR) (n0 : Nat) (G : qM) (U : qW) (v0 : Int32) (v1 : Int32) : qm_run pm_m big m_89 (n0 + 1) 0 [(0, .ref 8), (1, .int v0), (2, .int v1)] [] G U = qm_run pm_m big m_89 n0 1 [(0, .ref 8), (1, .int v0), (2, .int v1)] [.int v0] G U := rfl
theorem sg_se_39 (big : Nat → List Value → qM → qW → qR) (n0 : Nat) (G : qM) (U : qW) (v0 : Int32) (v1 : Int32) : qm_run pm_m big m_89 (n0 + 3) 4 [(0, .ref 8), (1, .int v0), (2, .int v1)] [.int (1 : Int32)] G U = qm_run pm_m big m_89 n0 9 [(0, .ref 8), (1, .int v0), (2, .int v1)] [.int v1, .ref 8] G U := rfl
theorem sg_se_40 (big : Nat → List Value → qM → qW → qR) (n0 : Nat) (G : qM) (U : qW) (v0 : Int32) (v1 : Int32) : qm_run pm_m big m_89 (n0 + 6) 12 [(0, .ref 8), (1, .int v0), (2, .int v1)] [.int (1 : Int32)] G U = qm_run pm_m big m_89 n0 26 [(0, .ref 8), (1, .int v0), (2, .int v1)] [.int v0, .ref 20, .ref 34] G U := rfl
theorem sg_se_41 (big : Nat → List Value → qM → qW → qR) (n0 : Nat) (G : qM) (U : qW) (v0 : Int32) (v1 : Int32) (v2 : Int32) : qm_run pm_m big m_89 (n0 + 3) 29 [(0, .ref 8), (1, .int v0), (2, .int v1)] [.int v2] G U = qm_run pm_m big m_89 n0 33 [(0, .ref 8), (1, .int v0), (2, .int v1), (3, .int v2)] [.int (Int8.toInt32 (Int8.ofInt (-4))), .int v2] G U := rfl
theorem sg_se_42 (big : Nat → List Value → qM → qW → qR) (n0 : Nat) (G : qM) (U : qW) (v0 : Int32) (v1 : Int32) (v2 : Int32) : qm_run pm_m big m_89 (n0 + 1) 39 [(0, .ref 8), (1, .int v0), (2, .int v1), (3, .int v2)] [] G U = qm_run pm_m big m_89 n0 40 [(0, .ref 8), (1, .int v0), (2, .int v1), (3, .int v2)] [.int v1] G U := rfl
theorem sg_se_43 (big : Nat → List Value → qM → qW → qR) (n0 : Nat) (G : qM) (U : qW) (v0 : Int32) (v1 : Int32) (v2 : Int32) : qm_run pm_m big m_89 (n0 + 6) 54 [(0, .ref 8), (1, .int v0), (2, .int v1), (3, .int v2)] [] G U = qm_run pm_m big m_89 n0 63 [(0, .ref 8), (1, .int v0), (2, .int v1), (3, .int v2)] [.int (v1 - (10 : Int32)), .int v2, .ref 20] G U := rfl
theorem sg_se_44 (big : Nat → List Value → qM → qW → qR) (n0 : Nat) (G : qM) (U : qW) (v0 : Int32) (v1 : Int32) (v2 : Int32) (v3 : Int32) (v4 : Int32) (v5 : Int32) : qm_run pm_m big m_201 (n0 + 3) 61 [(0, .ref 70), (1, .int v0), (2, .int (0 : Int32)), (3, .int v1), (4, .int v2), (5, .int v3), (6, .int v4), (7, .int v5)] [] G U = qm_run pm_m big m_201 n0 67 [(0, .ref 70), (1, .int v0), (2, .int (0 : Int32)), (3, .int v1), (4, .int v2), (5, .int v3), (6, .int v4), (7, .int v5)] [.int (G 70 4), .int v5] G U := rfl
theorem sg_se_45 (big : Nat → List Value → qM → qW → qR) (n0 : Nat) (G : qM) (U : qW) (v0 : Int32) (v1 : Int32) (v2 : Int32) (v3 : Int32) (v4 : Int32) (v5 : Int32) : qm_run pm_m big m_201 (n0 + 4) 70 [(0, .ref 70), (1, .int v0), (2, .int (0 : Int32)), (3, .int v1), (4, .int v2), (5, .int v3), (6, .int v4), (7, .int v5)] [] G U = qm_run pm_m big m_201 n0 77 [(0, .ref 70), (1, .int v0), (2, .int (0 : Int32)), (3, .int v1), (4, .int v2), (5, .int v3), (6, .int v4), (7, .int v5)] [.int v5, .int v3, .ref 70, .int v4] G U := rfl
theorem sg_se_46 (big : Nat → List Value → qM → qW → qR) (n0 : Nat) (G : qM) (U : qW) (v0 : Int32) (v1 : Int32) (v2 : Int32) (v3 : Int32) (v4 : Int32) (v5 : Int32) (v6 : Int32) (v7 : Int32) : qm_run pm_m big m_201 (n0 + 5) 80 [(0, .ref 70), (1, .int v0), (2, .int (0 : Int32)), (3, .int v1), (4, .int v2), (5, .int v3), (6, .int v4), (7, .int v5)] [.int v7, .int v6] G U = qm_run pm_m big m_201 n0 88 [(0, .ref 70), (1, .int v0), (2, .int (0 : Int32)), (3, .int v1), (4, .int v2), (5, .int v3), (6, .int v4), (7, .int v5)] [.int ((5 : Int32) + v5), .ref 71, .int v7, .int v6] G U := rfl
theorem sg_se_47 (big : Nat → List Value → qM → qW → qR) (n0 : Nat) (G : qM) (U : qW) (v0 : Int32) (v1 : Int32) (v2 : Int32) (v3 : Int32) (v4 : Int32) (v5 : Int32) (v6 : Int32) : qm_run pm_m big m_201 (n0 + 1) 96 [(0, .ref 70), (1, .int v0), (2, .int (0 : Int32)), (3, .int v1), (4, .int v2), (5, .int v3), (6, .int v4), (7, .int v5)] [.int v6] G U = qm_run pm_m big m_201 n0 97 [(0, .ref 70), (1, .int v0), (2, .int (0 : Int32)), (3, .int v1), (4, .int v2), (5, .int v3), (6, .int v4), (7, .int v5)] [.int (0 : Int32), .int v6] G U := rfl
theorem sg_se_48 (big : Nat → List Value → qM → qW → qR) (n0 : Nat) (G : qM) (U : qW) (v0 : Int32) (v1 : Int32) (v2 : Int32) (v3 : Int32) (v4 : Int32) (v5 : Int32) (v6 : Int32) : qm_run pm_m big m_201 (n0 + 8) 100 [(0, .ref 70), (1, .int v0), (2, .int (0 : Int32)), (3, .int v1), (4, .int v2), (5, .int v3), (6, .int v4), (7, .int v5)] [.int (0 : Int32), .int v6] G U = qm_run pm_m big m_201 n0 114 [(0, .ref 70), (1, .int v0), (2, .int (0 : Int32)), (3, .int v1), (4, .int v2), (5, .int v3), (6, .int (v6 + (0 : Int32))), (7, .int v5)] [.int v5, .int v3, .ref 70, .int v5, .ref 76] G U := rfl
theorem sg_se_49 (big : Nat → List Value → qM → qW → qR) (n0 : Nat) (G : qM) (U : qW) (v0 : Int32) (v1 : Int32) (v2 : Int32) (v3 : Int32) (v4 : Int32) (v5 : Int32) : qm_run pm_m big m_201 (n0 + 2) 118 [(0, .ref 70), (1, .int v0), (2, .int (0 : Int32)), (3, .int v1), (4, .int v2), (5, .int v3), (6, .int v4), (7, .int v5)] [] G U = qm_run pm_m big m_201 n0 61 [(0, .ref 70), (1, .int v0), (2, .int (0 : Int32)), (3, .int v1), (4, .int v2), (5, .int v3), (6, .int v4), (7, .int (v5 + (1 : Int32)))] [] G U := rfl
theorem sg_se_50 (big : Nat → List Value → qM → qW → qR) (n0 : Nat) (G : qM) (U : qW) (v0 : Int32) (v1 : Int32) (v2 : Int32) (v3 : Int32) (v4 : Int32) (v5 : Int32) (v6 : Int32) : qm_run pm_m big m_201 (n0 + 2) 92 [(0, .ref 70), (1, .int v0), (2, .int (0 : Int32)), (3, .int v1), (4, .int v2), (5, .int v3), (6, .int v4), (7, .int v5)] [.int v6] G U = qm_run pm_m big m_201 n0 97 [(0, .ref 70), (1, .int v0), (2, .int (0 : Int32)), (3, .int v1), (4, .int v2), (5, .int v3), (6, .int v4), (7, .int v5)] [.int (1 : Int32), .int v6] G U := rfl
theorem sg_se_51 (big : Nat → List Value → qM → qW → qR) (n0 : Nat) (G : qM) (U : qW) (v0 : Int32) (v1 : Int32) (v2 : Int32) (v3 : Int32) (v4 : Int32) (v5 : Int32) (v6 : Int32) : qm_run pm_m big m_201 (n0 + 8) 100 [(0, .ref 70), (1, .int v0), (2, .int (0 : Int32)), (3, .int v1), (4, .int v2), (5, .int v3), (6, .int v4), (7, .int v5)] [.int (1 : Int32), .int v6] G U = qm_run pm_m big m_201 n0 114 [(0, .ref 70), (1, .int v0), (2, .int (0 : Int32)), (3, .int v1), (4, .int v2), (5, .int v3), (6, .int (v6 + (1 : Int32))), (7, .int v5)] [.int v5, .int v3, .ref 70, .int v5, .ref 76] G U := rfl
theorem sg_se_52 (big : Nat → List Value → qM → qW → qR) (n0 : Nat) (G : qM) (U : qW) (v0 : Int32) (v1 : Int32) (v2 : Int32) (v3 : Int32) : qm_run pm_m big m_201 (n0 + 3) 39 [(0, .ref 70), (1, .int v0), (2, .int (0 : Int32)), (3, .int v1), (4, .int v2), (5, .int v3)] [] G U = qm_run pm_m big m_201 n0 45 [(0, .ref 70), (1, .int v0), (2, .int (0 : Int32)), (3, .int v1), (4, .int v2), (5, .int v3)] [.int (G 70 4), .int v3] G U := rfl
theorem sg_se_53 (big : Nat → List Value → qM → qW → qR) (n0 : Nat) (G : qM) (U : qW) (v0 : Int32) (v1 : Int32) (v2 : Int32) (v3 : Int32) : qm_run pm_m big m_201 (n0 + 2) 151 [(0, .ref 70), (1, .int v0), (2, .int (0 : Int32)), (3, .int v1), (4, .int v2), (5, .int v3)] [] G U = qm_run pm_m big m_201 n0 155 [(0, .ref 70), (1, .int v0), (2, .int (0 : Int32)), (3, .int v1), (4, .int v2), (5, .int v3)] [.int (Int8.toInt32 (Int8.ofInt (-4))), .int v2] G U := rfl
theorem sg_se_54 (big : Nat → List Value → qM → qW → qR) (n0 : Nat) (G : qM) (U : qW) (v0 : Int32) (v1 : Int32) (v2 : Int32) (v3 : Int32) : qm_run pm_m big m_201 (n0 + 3) 51 [(0, .ref 70), (1, .int v0), (2, .int (0 : Int32)), (3, .int v1), (4, .int v2), (5, .int v3)] [] G U = qm_run pm_m big m_201 n0 55 [(0, .ref 70), (1, .int v0), (2, .int (0 : Int32)), (3, .int v1), (4, .int v2), (5, .int v3), (6, .int (0 : Int32))] [.ref 70] G U := rfl
theorem sg_se_55 (big : Nat → List Value → qM → qW → qR) (n0 : Nat) (G : qM) (U : qW) (v0 : Int32) (v1 : Int32) (v2 : Int32) (v3 : Int32) : qm_run pm_m big m_201 (n0 + 2) 58 [(0, .ref 70), (1, .int v0), (2, .int (0 : Int32)), (3, .int v1), (4, .int v2), (5, .int v3), (6, .int (0 : Int32))] [] G U = qm_run pm_m big m_201 n0 61 [(0, .ref 70), (1, .int v0), (2, .int (0 : Int32)), (3, .int v1), (4, .int v2), (5, .int v3), (6, .int (0 : Int32)), (7, .int (0 : Int32))] [] G U := rfl
theorem sg_se_56 (big : Nat → List Value → qM → qW → qR) (n0 : Nat) (G : qM) (U : qW) (v0 : Int32) (v1 : Int32) (v2 : Int32) (v3 : Int32) (v4 : Int32) (v5 : Int32) : qm_run pm_m big m_201 (n0 + 2) 124 [(0, .ref 70), (1, .int v0), (2, .int (0 : Int32)), (3, .int v1), (4, .int v2), (5, .int v3), (6, .int v4), (7, .int v5)] [] G U = qm_run pm_m big m_201 n0 127 [(0, .ref 70), (1, .int v0), (2, .int (0 : Int32)), (3, .int v1), (4, .int v2), (5, .int v3), (6, .int v4), (7, .int v5)] [.int v1, .int v4] G U := rfl
theorem sg_se_57 (big : Nat → List Value → qM → qW → qR) (n0 : Nat) (G : qM) (U : qW) (v0 : Int32) (v1 : Int32) (v2 : Int32) (v3 : Int32) (v4 : Int32) (v5 : Int32) : qm_run pm_m big m_201 (n0 + 2) 145 [(0, .ref 70), (1, .int v0), (2, .int (0 : Int32)), (3, .int v1), (4, .int v2), (5, .int v3), (6, .int v4), (7, .int v5)] [] G U = qm_run pm_m big m_201 n0 39 [(0, .ref 70), (1, .int v0), (2, .int (0 : Int32)), (3, .int v1), (4, .int v2), (5, .int (v3 + (1 : Int32))), (6, .int v4), (7, .int v5)] [] G U := rfl
theorem sg_se_58 (big : Nat → List Value → qM → qW → qR) (n0 : Nat) (G : qM) (U : qW) (v0 : Int32) (v1 : Int32) (v2 : Int32) (v3 : Int32) (v4 : Int32) (v5 : Int32) : qm_run pm_m big m_201 (n0 + 2) 130 [(0, .ref 70), (1, .int v0), (2, .int (0 : Int32)), (3, .int v1), (4, .int v2), (5, .int v3), (6, .int v4), (7, .int v5)] [] G U = qm_run pm_m big m_201 n0 132 [(0, .ref 70), (1, .int v0), (2, .int (0 : Int32)), (3, .int v1), (4, .int v2), (5, .int v3), (6, .int v4), (7, .int v5)] [.int v0, .ref 70] G U := rfl
theorem sg_se_59 (big : Nat → List Value → qM → qW → qR) (n0 : Nat) (G : qM) (U : qW) (v0 : Int32) (v1 : Int32) (v2 : Int32) (v3 : Int32) (v4 : Int32) (v5 : Int32) : qm_run pm_m big m_201 (n0 + 3) 135 [(0, .ref 70), (1, .int v0), (2, .int (0 : Int32)), (3, .int v1), (4, .int v2), (5, .int v3), (6, .int v4), (7, .int v5)] [.int (0 : Int32)] G U = qm_run pm_m big m_201 n0 39 [(0, .ref 70), (1, .int v0), (2, .int (0 : Int32)), (3, .int v1), (4, .int v2), (5, .int (v3 + (1 : Int32))), (6, .int v4), (7, .int v5)] [] G U := rfl
theorem sg_se_60 (big : Nat → List Value → qM → qW → qR) (n0 : Nat) (G : qM) (U : qW) (v0 : Int32) (v1 : Int32) (v2 : Int32) (v3 : Int32) (v4 : Int32) (v5 : Int32) : qm_run pm_m big m_201 (n0 + 7) 135 [(0, .ref 70), (1, .int v0), (2, .int (0 : Int32)), (3, .int v1), (4, .int v2), (5, .int v3), (6, .int v4), (7, .int v5)] [.int (1 : Int32)] G U = qm_run pm_m big m_201 n0 39 [(0, .ref 70), (1, .int v0), (2, .int (0 : Int32)), (3, .int v4), (4, .int v3), (5, .int (v3 + (1 : Int32))), (6, .int v4), (7, .int v5)] [] G U := rfl
theorem sg_se_61 (big : Nat → List Value → qM → qW → qR) (n0 : Nat) (G : qM) (U : qW) (v0 : Int32) : qm_run pm_m big m_201 (n0 + 4) 0 [(0, .ref 70), (1, .int v0), (2, .int (0 : Int32))] [] G U = qm_run pm_m big m_201 n0 6 [(0, .ref 70), (1, .int v0), (2, .int (0 : Int32))] [.long (12 : Int64), .long (0 : Int64), .long (Int32.toInt64 v0)] G U := rfl
theorem sg_se_62 (big : Nat → List Value → qM → qW → qR) (n0 : Nat) (G : qM) (U : qW) (v0 : Int32) : qm_run pm_m big m_201 (n0 + 9) 9 [(0, .ref 70), (1, .int v0), (2, .int (0 : Int32))] [.int (1 : Int32)] G U = qm_run pm_m big m_201 n0 39 [(0, .ref 70), (1, .int v0), (2, .int (0 : Int32)), (3, .int (1000000 : Int32)), (4, .int (Int8.toInt32 (Int8.ofInt (-4)))), (5, .int (0 : Int32))] [] G U := rfl
theorem sg_se_63 (big : Nat → List Value → qM → qW → qR) (n0 : Nat) (G : qM) (U : qW) (v0 : Int32) (v1 : Int32) (v2 : Int32) (v3 : Int32) (v4 : Int32) (v5 : Int32) (v6 : Int32) : qm_run pm_m big m_201 (n0 + 3) 61 [(0, .ref 70), (1, .int v0), (2, .int v1), (3, .int v2), (4, .int v3), (5, .int v4), (6, .int v5), (7, .int v6)] [] G U = qm_run pm_m big m_201 n0 67 [(0, .ref 70), (1, .int v0), (2, .int v1), (3, .int v2), (4, .int v3), (5, .int v4), (6, .int v5), (7, .int v6)] [.int (G 70 4), .int v6] G U := rfl
theorem sg_se_64 (big : Nat → List Value → qM → qW → qR) (n0 : Nat) (G : qM) (U : qW) (v0 : Int32) (v1 : Int32) (v2 : Int32) (v3 : Int32) (v4 : Int32) (v5 : Int32) (v6 : Int32) : qm_run pm_m big m_201 (n0 + 4) 70 [(0, .ref 70), (1, .int v0), (2, .int v1), (3, .int v2), (4, .int v3), (5, .int v4), (6, .int v5), (7, .int v6)] [] G U = qm_run pm_m big m_201 n0 77 [(0, .ref 70), (1, .int v0), (2, .int v1), (3, .int v2), (4, .int v3), (5, .int v4), (6, .int v5), (7, .int v6)] [.int v6, .int v4, .ref 70, .int v5] G U := rfl
theorem sg_se_65 (big : Nat → List Value → qM → qW → qR) (n0 : Nat) (G : qM) (U : qW) (v0 : Int32) (v1 : Int32) (v2 : Int32) (v3 : Int32) (v4 : Int32) (v5 : Int32) (v6 : Int32) (v7 : Int32) (v8 : Int32) : qm_run pm_m big m_201 (n0 + 5) 80 [(0, .ref 70), (1, .int v0), (2, .int v1), (3, .int v2), (4, .int v3), (5, .int v4), (6, .int v5), (7, .int v6)] [.int v8, .int v7] G U = qm_run pm_m big m_201 n0 88 [(0, .ref 70), (1, .int v0), (2, .int v1), (3, .int v2), (4, .int v3), (5, .int v4), (6, .int v5), (7, .int v6)] [.int ((5 : Int32) + v6), .ref 71, .int v8, .int v7] G U := rfl
theorem sg_se_66 (big : Nat → List Value → qM → qW → qR) (n0 : Nat) (G : qM) (U : qW) (v0 : Int32) (v1 : Int32) (v2 : Int32) (v3 : Int32) (v4 : Int32) (v5 : Int32) (v6 : Int32) (v7 : Int32) : qm_run pm_m big m_201 (n0 + 1) 96 [(0, .ref 70), (1, .int v0), (2, .int v1), (3, .int v2), (4, .int v3), (5, .int v4), (6, .int v5), (7, .int v6)] [.int v7] G U = qm_run pm_m big m_201 n0 97 [(0, .ref 70), (1, .int v0), (2, .int v1), (3, .int v2), (4, .int v3), (5, .int v4), (6, .int v5), (7, .int v6)] [.int (0 : Int32), .int v7] G U := rfl
theorem sg_se_67 (big : Nat → List Value → qM → qW → qR) (n0 : Nat) (G : qM) (U : qW) (v0 : Int32) (v1 : Int32) (v2 : Int32) (v3 : Int32) (v4 : Int32) (v5 : Int32) (v6 : Int32) (v7 : Int32) : qm_run pm_m big m_201 (n0 + 8) 100 [(0, .ref 70), (1, .int v0), (2, .int v1), (3, .int v2), (4, .int v3), (5, .int v4), (6, .int v5), (7, .int v6)] [.int (0 : Int32), .int v7] G U = qm_run pm_m big m_201 n0 114 [(0, .ref 70), (1, .int v0), (2, .int v1), (3, .int v2), (4, .int v3), (5, .int v4), (6, .int (v7 + (0 : Int32))), (7, .int v6)] [.int v6, .int v4, .ref 70, .int v6, .ref 76] G U := rfl
theorem sg_se_68 (big : Nat → List Value → qM → qW → qR) (n0 : Nat) (G : qM) (U : qW) (v0 : Int32) (v1 : Int32) (v2 : Int32) (v3 : Int32) (v4 : Int32) (v5 : Int32) (v6 : Int32) : qm_run pm_m big m_201 (n0 + 2) 118 [(0, .ref 70), (1, .int v0), (2, .int v1), (3, .int v2), (4, .int v3), (5, .int v4), (6, .int v5), (7, .int v6)] [] G U = qm_run pm_m big m_201 n0 61 [(0, .ref 70), (1, .int v0), (2, .int v1), (3, .int v2), (4, .int v3), (5, .int v4), (6, .int v5), (7, .int (v6 + (1 : Int32)))] [] G U := rfl
theorem sg_se_69 (big : Nat → List Value → qM → qW → qR) (n0 : Nat) (G : qM) (U : qW) (v0 : Int32) (v1 : Int32) (v2 : Int32) (v3 : Int32) (v4 : Int32) (v5 : Int32) (v6 : Int32) (v7 : Int32) : qm_run pm_m big m_201 (n0 + 2) 92 [(0, .ref 70), (1, .int v0), (2, .int v1), (3, .int v2), (4, .int v3), (5, .int v4), (6, .int v5), (7, .int v6)] [.int v7] G U = qm_run pm_m big m_201 n0 97 [(0, .ref 70), (1, .int v0), (2, .int v1), (3, .int v2), (4, .int v3), (5, .int v4), (6, .int v5), (7, .int v6)] [.int (1 : Int32), .int v7] G U := rfl
theorem sg_se_70 (big : Nat → List Value → qM → qW → qR) (n0 : Nat) (G : qM) (U : qW) (v0 : Int32) (v1 : Int32) (v2 : Int32) (v3 : Int32) (v4 : Int32) (v5 : Int32) (v6 : Int32) (v7 : Int32) : qm_run pm_m big m_201 (n0 + 8) 100 [(0, .ref 70), (1, .int v0), (2, .int v1), (3, .int v2), (4, .int v3), (5, .int v4), (6, .int v5), (7, .int v6)] [.int (1 : Int32), .int v7] G U = qm_run pm_m big m_201 n0 114 [(0, .ref 70), (1, .int v0), (2, .int v1), (3, .int v2), (4, .int v3), (5, .int v4), (6, .int (v7 + (1 : Int32))), (7, .int v6)] [.int v6, .int v4, .ref 70, .int v6, .ref 76] G U := rfl
theorem sg_se_71 (big : Nat → List Value → qM → qW → qR) (n0 : Nat) (G : qM) (U : qW) (v0 : Int32) (v1 : Int32) (v2 : Int32) (v3 : Int32) (v4 : Int32) : qm_run pm_m big m_201 (n0 + 3) 39 [(0, .ref 70), (1, .int v0), (2, .int v1), (3, .int v2), (4, .int v3), (5, .int v4)] [] G U = qm_run pm_m big m_201 n0 45 [(0, .ref 70), (1, .int v0), (2, .int v1), (3, .int v2), (4, .int v3), (5, .int v4)] [.int (G 70 4), .int v4] G U := rfl
theorem sg_se_72 (big : Nat → List Value → qM → qW → qR) (n0 : Nat) (G : qM) (U : qW) (v0 : Int32) (v1 : Int32) (v2 : Int32) (v3 : Int32) (v4 : Int32) : qm_run pm_m big m_201 (n0 + 2) 151 [(0, .ref 70), (1, .int v0), (2, .int v1), (3, .int v2), (4, .int v3), (5, .int v4)] [] G U = qm_run pm_m big m_201 n0 155 [(0, .ref 70), (1, .int v0), (2, .int v1), (3, .int v2), (4, .int v3), (5, .int v4)] [.int (Int8.toInt32 (Int8.ofInt (-4))), .int v3] G U := rfl
theorem sg_se_73 (big : Nat → List Value → qM → qW → qR) (n0 : Nat) (G : qM) (U : qW) (v0 : Int32) (v1 : Int32) (v2 : Int32) (v3 : Int32) (v4 : Int32) : qm_run pm_m big m_201 (n0 + 1) 163 [(0, .ref 70), (1, .int v0), (2, .int v1), (3, .int v2), (4, .int v3), (5, .int v4)] [] G U = qm_run pm_m big m_201 n0 164 [(0, .ref 70), (1, .int v0), (2, .int v1), (3, .int v2), (4, .int v3), (5, .int v4)] [.int v1] G U := rfl
theorem sg_se_74 (big : Nat → List Value → qM → qW → qR) (n0 : Nat) (G : qM) (U : qW) (v0 : Int32) (v1 : Int32) (v2 : Int32) (v3 : Int32) (v4 : Int32) : qm_run pm_m big m_201 (n0 + 5) 171 [(0, .ref 70), (1, .int v0), (2, .int v1), (3, .int v2), (4, .int v3), (5, .int v4)] [] G U = qm_run pm_m big m_201 n0 178 [(0, .ref 70), (1, .int v0), (2, .int v1), (3, .int v2), (4, .int v3), (5, .int v4)] [.int (v1 - (10 : Int32)), .int v3, .ref 70] G U := rfl
theorem sg_se_75 (big : Nat → List Value → qM → qW → qR) (n0 : Nat) (G : qM) (U : qW) (v0 : Int32) (v1 : Int32) (v2 : Int32) (v3 : Int32) (v4 : Int32) : qm_run pm_m big m_201 (n0 + 3) 51 [(0, .ref 70), (1, .int v0), (2, .int v1), (3, .int v2), (4, .int v3), (5, .int v4)] [] G U = qm_run pm_m big m_201 n0 55 [(0, .ref 70), (1, .int v0), (2, .int v1), (3, .int v2), (4, .int v3), (5, .int v4), (6, .int (0 : Int32))] [.ref 70] G U := rfl
theorem sg_se_76 (big : Nat → List Value → qM → qW → qR) (n0 : Nat) (G : qM) (U : qW) (v0 : Int32) (v1 : Int32) (v2 : Int32) (v3 : Int32) (v4 : Int32) : qm_run pm_m big m_201 (n0 + 2) 58 [(0, .ref 70), (1, .int v0), (2, .int v1), (3, .int v2), (4, .int v3), (5, .int v4), (6, .int (0 : Int32))] [] G U = qm_run pm_m big m_201 n0 61 [(0, .ref 70), (1, .int v0), (2, .int v1), (3, .int v2), (4, .int v3), (5, .int v4), (6, .int (0 : Int32)), (7, .int (0 : Int32))] [] G U := rfl
theorem sg_se_77 (big : Nat → List Value → qM → qW → qR) (n0 : Nat) (G : qM) (U : qW) (v0 : Int32) (v1 : Int32) (v2 : Int32) (v3 : Int32) (v4 : Int32) (v5 : Int32) (v6 : Int32) : qm_run pm_m big m_201 (n0 + 2) 124 [(0, .ref 70), (1, .int v0), (2, .int v1), (3, .int v2), (4, .int v3), (5, .int v4), (6, .int v5), (7, .int v6)] [] G U = qm_run pm_m big m_201 n0 127 [(0, .ref 70), (1, .int v0), (2, .int v1), (3, .int v2), (4, .int v3), (5, .int v4), (6, .int v5), (7, .int v6)] [.int v2, .int v5] G U := rfl
theorem sg_se_78 (big : Nat → List Value → qM → qW → qR) (n0 : Nat) (G : qM) (U : qW) (v0 : Int32) (v1 : Int32) (v2 : Int32) (v3 : Int32) (v4 : Int32) (v5 : Int32) (v6 : Int32) : qm_run pm_m big m_201 (n0 + 2) 145 [(0, .ref 70), (1, .int v0), (2, .int v1), (3, .int v2), (4, .int v3), (5, .int v4), (6, .int v5), (7, .int v6)] [] G U = qm_run pm_m big m_201 n0 39 [(0, .ref 70), (1, .int v0), (2, .int v1), (3, .int v2), (4, .int v3), (5, .int (v4 + (1 : Int32))), (6, .int v5), (7, .int v6)] [] G U := rfl
theorem sg_se_79 (big : Nat → List Value → qM → qW → qR) (n0 : Nat) (G : qM) (U : qW) (v0 : Int32) (v1 : Int32) (v2 : Int32) (v3 : Int32) (v4 : Int32) (v5 : Int32) (v6 : Int32) : qm_run pm_m big m_201 (n0 + 2) 130 [(0, .ref 70), (1, .int v0), (2, .int v1), (3, .int v2), (4, .int v3), (5, .int v4), (6, .int v5), (7, .int v6)] [] G U = qm_run pm_m big m_201 n0 132 [(0, .ref 70), (1, .int v0), (2, .int v1), (3, .int v2), (4, .int v3), (5, .int v4), (6, .int v5), (7, .int v6)] [.int v0, .ref 70] G U := rfl
theorem sg_se_80 (big : Nat → List Value → qM → qW → qR) (n0 : Nat) (G : qM) (U : qW) (v0 : Int32) (v1 : Int32) (v2 : Int32) (v3 : Int32) (v4 : Int32) (v5 : Int32) (v6 : Int32) : qm_run pm_m big m_201 (n0 + 3) 135 [(0, .ref 70), (1, .int v0), (2, .int v1), (3, .int v2), (4, .int v3), (5, .int v4), (6, .int v5), (7, .int v6)] [.int (0 : Int32)] G U = qm_run pm_m big m_201 n0 39 [(0, .ref 70), (1, .int v0), (2, .int v1), (3, .int v2), (4, .int v3), (5, .int (v4 + (1 : Int32))), (6, .int v5), (7, .int v6)] [] G U := rfl
theorem sg_se_81 (big : Nat → List Value → qM → qW → qR) (n0 : Nat) (G : qM) (U : qW) (v0 : Int32) (v1 : Int32) (v2 : Int32) (v3 : Int32) (v4 : Int32) (v5 : Int32) (v6 : Int32) : qm_run pm_m big m_201 (n0 + 7) 135 [(0, .ref 70), (1, .int v0), (2, .int v1), (3, .int v2), (4, .int v3), (5, .int v4), (6, .int v5), (7, .int v6)] [.int (1 : Int32)] G U = qm_run pm_m big m_201 n0 39 [(0, .ref 70), (1, .int v0), (2, .int v1), (3, .int v5), (4, .int v4), (5, .int (v4 + (1 : Int32))), (6, .int v5), (7, .int v6)] [] G U := rfl
theorem sg_se_82 (big : Nat → List Value → qM → qW → qR) (n0 : Nat) (G : qM) (U : qW) (v0 : Int32) (v1 : Int32) : qm_run pm_m big m_201 (n0 + 4) 0 [(0, .ref 70), (1, .int v0), (2, .int v1)] [] G U = qm_run pm_m big m_201 n0 6 [(0, .ref 70), (1, .int v0), (2, .int v1)] [.long (12 : Int64), .long (0 : Int64), .long (Int32.toInt64 v0)] G U := rfl
theorem sg_se_83 (big : Nat → List Value → qM → qW → qR) (n0 : Nat) (G : qM) (U : qW) (v0 : Int32) (v1 : Int32) : qm_run pm_m big m_201 (n0 + 2) 9 [(0, .ref 70), (1, .int v0), (2, .int v1)] [.int (1 : Int32)] G U = qm_run pm_m big m_201 n0 13 [(0, .ref 70), (1, .int v0), (2, .int v1)] [.int v1] G U := rfl
theorem sg_se_84 (big : Nat → List Value → qM → qW → qR) (n0 : Nat) (G : qM) (U : qW) (v0 : Int32) (v1 : Int32) : qm_run pm_m big m_201 (n0 + 4) 16 [(0, .ref 70), (1, .int v0), (2, .int v1)] [] G U = qm_run pm_m big m_201 n0 21 [(0, .ref 70), (1, .int v0), (2, .int v1)] [.int (v1 - (10 : Int32)), .ref 70] G U := rfl
theorem sg_se_85 (big : Nat → List Value → qM → qW → qR) (n0 : Nat) (G : qM) (U : qW) (v0 : Int32) (v1 : Int32) : qm_run pm_m big m_201 (n0 + 7) 24 [(0, .ref 70), (1, .int v0), (2, .int v1)] [.int (1 : Int32)] G U = qm_run pm_m big m_201 n0 39 [(0, .ref 70), (1, .int v0), (2, .int v1), (3, .int (1000000 : Int32)), (4, .int (Int8.toInt32 (Int8.ofInt (-4)))), (5, .int (0 : Int32))] [] G U := rfl
theorem b_dig (x y z : Int32) (g : qM) (u : qW) : q_BS 96 [.int x, .int y, .int z] g u (some (.int (s_dg x z y)), g, u) := by
  refine q_bx (mm := m_96) rfl (Nat.le_of_ble_eq_true rfl) rfl ?_
  refine q_ret 12 (some (.int ((x >>> (((2 : Int32) * ((z - (1 : Int32)) - y)) &&& 31)) &&& (3 : Int32))), g, u) (fun _ _ => rfl) ?_
  rfl
theorem b_mir20 (x y : Int32) (g : qM) (u : qW) : q_BS 95 [.ref 20, .int x, .int y] g u (some (.int (s_dg x (g 20 3) y)), g, u) := by
  refine q_bx (mm := m_95) rfl (Nat.le_of_ble_eq_true rfl) rfl ?_
  refine q_step 4 6 [(0, .ref 20), (1, .int x), (2, .int y)] [.int (g 20 3), .int y, .int x] g u (fun big n0 => sg_se_1 big n0 g u x y) ?_
  refine q_call (M2 := 96) (rest := []) (b_dig _ _ _ _ _) (fun _ _ => rfl) ?_
  refine q_ret 1 (some (.int (s_dg x (g 20 3) y)), g, u) (fun _ _ => rfl) ?_
  rfl
theorem b_mir35 (x y : Int32) (g : qM) (u : qW) : q_BS 95 [.ref 35, .int x, .int y] g u (some (.int (s_dg x (g 35 3) y)), g, u) := by
  refine q_bx (mm := m_95) rfl (Nat.le_of_ble_eq_true rfl) rfl ?_
  refine q_step 4 6 [(0, .ref 35), (1, .int x), (2, .int y)] [.int (g 35 3), .int y, .int x] g u (fun big n0 => sg_se_2 big n0 g u x y) ?_
  refine q_call (M2 := 96) (rest := []) (b_dig _ _ _ _ _) (fun _ _ => rfl) ?_
  refine q_ret 1 (some (.int (s_dg x (g 35 3) y)), g, u) (fun _ _ => rfl) ?_
  rfl
theorem b_rows (x : Int32) (g : qM) (u : qW) : q_BS 93 [.int x] g u (some (.int (s_rows x)), g, u) := by
  refine q_bx (mm := m_93) rfl (Nat.le_of_ble_eq_true rfl) rfl ?_
  refine q_ret 6 (some (.int ((1 : Int32) <<< (((2 : Int32) * x) &&& 31))), g, u) (fun _ _ => rfl) ?_
  rfl
theorem b_rrows (x : Int32) (g : qM) (u : qW) : q_BS 202 [.int x] g u (some (.int (s_rows x)), g, u) := by
  refine q_bx (mm := m_202) rfl (Nat.le_of_ble_eq_true rfl) rfl ?_
  refine q_ret 6 (some (.int ((1 : Int32) <<< (((2 : Int32) * x) &&& 31))), g, u) (fun _ _ => rfl) ?_
  rfl
theorem b_mby (x y : Int32) (g : qM) (u : qW) : q_BS 203 [.ref 70, .int x, .int y] g u (some (.int (s_dg x (g 70 4) y)), g, u) := by
  refine q_bx (mm := m_203) rfl (Nat.le_of_ble_eq_true rfl) rfl ?_
  refine q_ret 13 (some (.int ((x >>> (((2 : Int32) * (((g 70 4) - (1 : Int32)) - y)) &&& 31)) &&& (3 : Int32))), g, u) (fun _ _ => rfl) ?_
  rfl
theorem un_l (x : Int32) (g : qM) (u : qW) {n : Nat} (hn : g 20 3 = Int32.ofNat n) (h6 : n ≤ 6) : ∀ k i a, i + k = n → q_EV m_94 4 [(0, .ref 20), (1, .int x), (2, .int a), (3, .int (Int32.ofNat i))] [] g u (fun R => R = (some (.int (s_ct (p_unc g x) k i a)), g, u)) := by
  intro k
  induction k with
  | zero =>
    intro i a hi
    refine q_step 3 9 [(0, .ref 20), (1, .int x), (2, .int a), (3, .int (Int32.ofNat i))] [.int (g 20 3), .int (Int32.ofNat i)] g u (fun big n0 => sg_se_3 big n0 g u x a (Int32.ofNat i)) ?_
    refine q_ic_ge rfl (fun (hc0 : (g 20 3) ≤ (Int32.ofNat i)) => ?_) (fun hc0 => absurd (show (g 20 3) ≤ (Int32.ofNat i) from by rw [hn]; exact (q_le (by omega) (by omega)).mpr (by omega)) hc0)
    refine q_ret 2 (some (.int a), g, u) (fun _ _ => rfl) ?_
    rfl
  | succ k ih =>
    intro i a hi
    refine q_step 3 9 [(0, .ref 20), (1, .int x), (2, .int a), (3, .int (Int32.ofNat i))] [.int (g 20 3), .int (Int32.ofNat i)] g u (fun big n0 => sg_se_3 big n0 g u x a (Int32.ofNat i)) ?_
    refine q_ic_ge rfl (fun hc0 => absurd (show (g 20 3) ≤ (Int32.ofNat i) from hc0) (fun z => by rw [hn] at z; exact absurd ((q_le (by omega) (by omega)).mp z) (by omega))) (fun (hc0 : ¬ ((g 20 3) ≤ (Int32.ofNat i))) => ?_)
    refine q_step 4 18 [(0, .ref 20), (1, .int x), (2, .int a), (3, .int (Int32.ofNat i))] [.int (Int32.ofNat i), .ref 22, .int a] g u (fun big n0 => sg_se_4 big n0 g u x a (Int32.ofNat i)) ?_
    refine q_iald (j := i) (q_ixn (by omega) (by omega)) rfl rfl ?_
    refine q_step 3 22 [(0, .ref 20), (1, .int x), (2, .int a), (3, .int (Int32.ofNat i))] [.int (Int32.ofNat i), .int x, .ref 20, .int (g 22 i), .int a] g u (fun big n0 => sg_se_5 big n0 g u x a (Int32.ofNat i) a (g 22 i)) ?_
    refine q_call (M2 := 95) (rest := [.int (g 22 i), .int a]) (b_mir20 x (Int32.ofNat i) g u) (fun _ _ => rfl) ?_
    refine q_ic_eq rfl (fun (hc1 : (g 22 i) = (s_dg x (g 20 3) (Int32.ofNat i))) => ?_) (fun (hc1 : ¬ ((g 22 i) = (s_dg x (g 20 3) (Int32.ofNat i)))) => ?_)
    · refine q_step 5 4 [(0, .ref 20), (1, .int x), (2, .int (a + (0 : Int32))), (3, .int ((Int32.ofNat i) + (1 : Int32)))] [] g u (fun big n0 => sg_se_6 big n0 g u x a (Int32.ofNat i) a) ?_
      rw [s_ct_s (P := p_unc g x) (i := i) (by unfold p_unc; exact if_pos hc1), q_succ]
      exact ih (i + 1) _ (by omega)
    · refine q_step 6 4 [(0, .ref 20), (1, .int x), (2, .int (a + (1 : Int32))), (3, .int ((Int32.ofNat i) + (1 : Int32)))] [] g u (fun big n0 => sg_se_7 big n0 g u x a (Int32.ofNat i) a) ?_
      rw [s_ct_s (P := p_unc g x) (i := i) (by unfold p_unc; exact if_neg hc1), q_succ]
      exact ih (i + 1) _ (by omega)
theorem b_un (x : Int32) (g : qM) (u : qW) {n : Nat} (hn : g 20 3 = Int32.ofNat n) (h6 : n ≤ 6) : q_BS 94 [.ref 20, .int x] g u (some (.int (s_ct (p_unc g x) n 0 0)), g, u) := by
  refine q_bx (mm := m_94) rfl (Nat.le_of_ble_eq_true rfl) rfl ?_
  refine q_step 4 4 [(0, .ref 20), (1, .int x), (2, .int (0 : Int32)), (3, .int (0 : Int32))] [] g u (fun big n0 => sg_se_8 big n0 g u x) ?_
  exact un_l x g u hn h6 n 0 0 (by omega)
theorem c_un {n W H row : Nat} {g r : qM} (u : qW) (h : w_ok n W H r) (hc : w_cs 20 n g r) : q_BS 94 [.ref 20, .int (Int32.ofNat row)] g u (some (.int (Int32.ofNat (n_un n r row))), g, u) := by
  have e := b_un (Int32.ofNat row) g u (hc.1.1.trans h.2.1) h.1.2.2.2.2
  rw [w_un_c h hc] at e
  exact e
theorem sm_l (g : qM) (u : qW) {n row : Nat} (hn : g 35 3 = Int32.ofNat n) (h6 : n ≤ 6) : ∀ k i, i + k = n → q_EV m_98 2 [(0, .ref 35), (1, .int (Int32.ofNat row)), (2, .int (Int32.ofNat i))] [] (s_row_ 37 (f_md n row) i g) u (fun R => R = (none, s_row_ 37 (f_md n row) n g, u)) := by
  intro k
  induction k with
  | zero =>
    intro i hi
    refine q_step 3 7 [(0, .ref 35), (1, .int (Int32.ofNat row)), (2, .int (Int32.ofNat i))] [.int (g 35 3), .int (Int32.ofNat i)] (s_row_ 37 (f_md n row) i g) u (fun big n0 => sg_se_9 big n0 (s_row_ 37 (f_md n row) i g) u (Int32.ofNat row) (Int32.ofNat i)) ?_
    refine q_ic_ge rfl (fun (hc0 : (g 35 3) ≤ (Int32.ofNat i)) => ?_) (fun hc0 => absurd (show (g 35 3) ≤ (Int32.ofNat i) from by rw [hn]; exact (q_le (by omega) (by omega)).mpr (by omega)) hc0)
    refine q_ret 1 (none, (s_row_ 37 (f_md n row) i g), u) (fun _ _ => rfl) ?_
    rw [show i = n by omega]
  | succ k ih =>
    intro i hi
    refine q_step 3 7 [(0, .ref 35), (1, .int (Int32.ofNat row)), (2, .int (Int32.ofNat i))] [.int (g 35 3), .int (Int32.ofNat i)] (s_row_ 37 (f_md n row) i g) u (fun big n0 => sg_se_9 big n0 (s_row_ 37 (f_md n row) i g) u (Int32.ofNat row) (Int32.ofNat i)) ?_
    refine q_ic_ge rfl (fun hc0 => absurd (show (g 35 3) ≤ (Int32.ofNat i) from hc0) (fun z => by rw [hn] at z; exact absurd ((q_le (by omega) (by omega)).mp z) (by omega))) (fun (hc0 : ¬ ((g 35 3) ≤ (Int32.ofNat i))) => ?_)
    refine q_step 6 18 [(0, .ref 35), (1, .int (Int32.ofNat row)), (2, .int (Int32.ofNat i))] [.int (Int32.ofNat i), .int (Int32.ofNat row), .ref 35, .int (Int32.ofNat i), .ref 37] (s_row_ 37 (f_md n row) i g) u (fun big n0 => sg_se_10 big n0 (s_row_ 37 (f_md n row) i g) u (Int32.ofNat row) (Int32.ofNat i)) ?_
    have e := b_mir35 (Int32.ofNat row) (Int32.ofNat i) (s_row_ 37 (f_md n row) i g) u
    rw [show (s_row_ 37 (f_md n row) i g) 35 3 = Int32.ofNat n from hn] at e
    refine q_call (M2 := 95) (rest := [.int (Int32.ofNat i), .ref 37]) (e) (fun _ _ => rfl) ?_
    refine q_iast (j := i) (q_ixn (by omega) (by omega)) rfl rfl ?_
    refine q_step 2 2 [(0, .ref 35), (1, .int (Int32.ofNat row)), (2, .int ((Int32.ofNat i) + (1 : Int32)))] [] (q_up (s_row_ 37 (f_md n row) i g) 37 i (f_md n row i)) u (fun big n0 => sg_se_11 big n0 (q_up (s_row_ 37 (f_md n row) i g) 37 i (f_md n row i)) u (Int32.ofNat row) (Int32.ofNat i)) ?_
    rw [q_succ, show q_up (s_row_ 37 (f_md n row) i g) 37 i (f_md n row i) = s_row_ 37 (f_md n row) (i + 1) g from s_row_s]
    exact ih (i + 1) (by omega)
theorem b_sm (g : qM) (u : qW) {n row : Nat} (hn : g 35 3 = Int32.ofNat n) (h6 : n ≤ 6) : q_BS 98 [.ref 35, .int (Int32.ofNat row)] g u (none, s_row_ 37 (f_md n row) n g, u) := by
  refine q_bx (mm := m_98) rfl (Nat.le_of_ble_eq_true rfl) rfl ?_
  refine q_step 2 2 [(0, .ref 35), (1, .int (Int32.ofNat row)), (2, .int (0 : Int32))] [] g u (fun big n0 => sg_se_12 big n0 g u (Int32.ofNat row)) ?_
  have e := sm_l g u (row := row) hn h6 n 0 (by omega)
  rw [s_row_0] at e
  exact e
theorem c_all {n W H : Nat} {g r : qM} (u : qW) (h : w_ok n W H r) (hc : w_cs 35 n g r) (hg : ∀ p, p < n → g 39 p = r 78 p) : q_BS 99 [.ref 35] g u (some (.int (if f_at n r = f_hav n r then (1 : Int32) else 0)), g, u) := by
  refine q_bx (mm := m_99) rfl (Nat.le_of_ble_eq_true rfl) rfl ?_
  refine q_step 1 1 [(0, .ref 35)] [.ref 35] g u (fun big n0 => sg_se_13 big n0 g u) ?_
  have hag := b_atg35 g u (hc.1.1.trans h.2.1) h.1.2.2.2.2
  rw [w_at_c (T := 35) h hc hg] at hag
  refine q_call (M2 := 78) (rest := []) (hag) (fun _ _ => rfl) ?_
  refine q_step 1 5 [(0, .ref 35)] [.ref 35, .int (f_at n r)] g u (fun big n0 => sg_se_14 big n0 g u (f_at n r)) ?_
  have hwg := b_wig35 g u (hc.1.1.trans h.2.1) h.1.2.2.2.2
  rw [w_hav_c (T := 35) (r := r) hg] at hwg
  refine q_call (M2 := 100) (rest := [.int (f_at n r)]) (hwg) (fun _ _ => rfl) ?_
  refine q_ic_ne rfl (fun (hc0 : (f_at n r) = (f_hav n r)) => ?_) (fun (hc0 : ¬ ((f_at n r) = (f_hav n r))) => ?_)
  · refine q_ret 3 (some (.int (1 : Int32)), g, u) (fun _ _ => rfl) ?_
    rw [if_pos hc0]
  · refine q_ret 2 (some (.int (0 : Int32)), g, u) (fun _ _ => rfl) ?_
    rw [if_neg hc0]
theorem c_rg {n W H m row : Nat} {g r : qM} (u : qW) (h : w_ok n W H r) (hm : m ≤ 60) (hc : w_cs 20 n g r) (ht : w_tr n g r) (hg : ∀ p, p < n → g 39 p = r 78 p) : q_BS 97 [.ref 34, .ref 20, .int (Int32.ofNat row), .int (Int32.ofNat m)] g u (some (.int (p_rch n m r row)), (s_rgg n m row g), u) := by
  refine q_bx (mm := m_97) rfl (Nat.le_of_ble_eq_true rfl) rfl ?_
  have hy := w_cpl h.1.2.2.2.2 hc ht
  refine q_step 3 5 [(0, .ref 34), (1, .ref 20), (2, .int (Int32.ofNat row)), (3, .int (Int32.ofNat m))] [.ref 20, .ref 35] g u (fun big n0 => sg_se_15 big n0 g u (Int32.ofNat row) (Int32.ofNat m)) ?_
  refine q_call (M2 := 42) (rest := []) (b_cpl35_20 _ _) (fun _ _ => rfl) ?_
  refine q_step 3 13 [(0, .ref 34), (1, .ref 20), (2, .int (Int32.ofNat row)), (3, .int (Int32.ofNat m))] [.int (Int32.ofNat row), .ref 35] (s_cpl 35 20 g) u (fun big n0 => sg_se_16 big n0 (s_cpl 35 20 g) u (Int32.ofNat row) (Int32.ofNat m)) ?_
  refine q_call (M2 := 98) (rest := []) (b_sm (row := row) (s_cpl 35 20 g) u (hy.1.1.trans h.2.1) h.1.2.2.2.2) (fun _ _ => rfl) ?_
  refine q_step 5 25 [(0, .ref 34), (1, .ref 20), (2, .int (Int32.ofNat row)), (3, .int (Int32.ofNat m))] [.int (Int32.ofNat m), .ref 35, .ref 28] (s_rgm n row g) u (fun big n0 => sg_se_17 big n0 (s_rgm n row g) u (Int32.ofNat row) (Int32.ofNat m)) ?_
  refine q_call (M2 := 76) (rest := []) (c_tss35 u (w_ok_mo h) (w_cs_mo hy) hm) (fun _ _ => rfl) ?_
  refine q_step 2 32 [(0, .ref 34), (1, .ref 20), (2, .int (Int32.ofNat row)), (3, .int (Int32.ofNat m))] [.ref 35] (s_rgg n m row g) u (fun big n0 => sg_se_18 big n0 (s_rgg n m row g) u (Int32.ofNat row) (Int32.ofNat m)) ?_
  have hal := c_all (g := (s_rgg n m row g)) u (w_ok_rit m _ (w_ok_mo (row := row) h)) (w_up35 (w_tss35 (w_ok_mo h) (w_cs_mo hy) m)) (fun p hp => by rw [s_rgg_go, s_rit_g (by omega)]; exact hg p hp)
  rw [f_hav_rit, show f_hav n (gh_mo n row r) = f_hav n r from rfl] at hal
  refine q_call (M2 := 99) (rest := []) (hal) (fun _ _ => rfl) ?_
  refine q_retb (p_rch_01 _ _ _ _) rfl rfl ?_
  rfl
theorem fc_in (u : qW) {n W H m : Nat} {r : qM} (h : w_ok n W H r) (hm : m ≤ 60) (h6 : n ≤ 6) (h4n : 4 ^ n ≤ 4096) {c : Nat} (hcn : c ≤ n) {Q : Option Value × qM × qW → Prop} : ∀ k row g, row + k = 4 ^ n → w_cs 20 n g r → w_tr n g r → (∀ p, p < n → g 39 p = r 78 p) → (f_si (n_un n r) (n_rch n m r) c k row = none → ∀ g2, w_fc g g2 → w_cs 20 n g2 r → w_tr n g2 r → (∀ p, p < n → g2 39 p = r 78 p) → q_EV m_92 63 [(0, .ref 34), (1, .ref 20), (2, .int (Int32.ofNat m)), (3, .int (Int32.ofNat c)), (4, .int (Int32.ofNat (4 ^ n)))] [] g2 u Q) → (∀ x g2, f_si (n_un n r) (n_rch n m r) c k row = some x → w_fc g g2 → Q (some (.int (Int32.ofNat x)), g2, u)) → q_EV m_92 21 [(0, .ref 34), (1, .ref 20), (2, .int (Int32.ofNat m)), (3, .int (Int32.ofNat c)), (4, .int (Int32.ofNat row))] [] g u Q := by
  intro k
  induction k with
  | zero =>
    intro row g hrow hc ht hg hk hs
    refine q_step 3 27 [(0, .ref 34), (1, .ref 20), (2, .int (Int32.ofNat m)), (3, .int (Int32.ofNat c)), (4, .int (Int32.ofNat row))] [.int (g 20 3), .int (Int32.ofNat row)] g u (fun big n0 => sg_se_19 big n0 g u (Int32.ofNat m) (Int32.ofNat c) (Int32.ofNat row)) ?_
    refine q_call (M2 := 93) (rest := [.int (Int32.ofNat row)]) (b_rows _ _ _) (fun _ _ => rfl) ?_
    refine q_ic_ge rfl (fun (hc0 : (s_rows (g 20 3)) ≤ (Int32.ofNat row)) => ?_) (fun hc0 => absurd (show (s_rows (g 20 3)) ≤ (Int32.ofNat row) from by rw [hc.1.1, h.2.1, s_rows_n h6]; exact (q_le (by omega) (by omega)).mpr (by omega)) hc0)
    have e : row = 4 ^ n := by omega
    rw [e]
    exact hk rfl g (w_fc_rfl g) hc ht hg
  | succ k ih =>
    intro row g hrow hc ht hg hk hs
    refine q_step 3 27 [(0, .ref 34), (1, .ref 20), (2, .int (Int32.ofNat m)), (3, .int (Int32.ofNat c)), (4, .int (Int32.ofNat row))] [.int (g 20 3), .int (Int32.ofNat row)] g u (fun big n0 => sg_se_19 big n0 g u (Int32.ofNat m) (Int32.ofNat c) (Int32.ofNat row)) ?_
    refine q_call (M2 := 93) (rest := [.int (Int32.ofNat row)]) (b_rows _ _ _) (fun _ _ => rfl) ?_
    refine q_ic_ge rfl (fun hc0 => absurd (show (s_rows (g 20 3)) ≤ (Int32.ofNat row) from hc0) (fun z => by rw [hc.1.1, h.2.1, s_rows_n h6] at z; exact absurd ((q_le (by omega) (by omega)).mp z) (by omega))) (fun (hc0 : ¬ ((s_rows (g 20 3)) ≤ (Int32.ofNat row))) => ?_)
    refine q_step 2 36 [(0, .ref 34), (1, .ref 20), (2, .int (Int32.ofNat m)), (3, .int (Int32.ofNat c)), (4, .int (Int32.ofNat row))] [.int (Int32.ofNat row), .ref 20] g u (fun big n0 => sg_se_20 big n0 g u (Int32.ofNat m) (Int32.ofNat c) (Int32.ofNat row)) ?_
    refine q_call (M2 := 94) (rest := []) (c_un u h hc) (fun _ _ => rfl) ?_
    refine q_step 1 40 [(0, .ref 34), (1, .ref 20), (2, .int (Int32.ofNat m)), (3, .int (Int32.ofNat c)), (4, .int (Int32.ofNat row))] [.int (Int32.ofNat c), .int (Int32.ofNat (n_un n r row))] g u (fun big n0 => sg_se_21 big n0 g u (Int32.ofNat m) (Int32.ofNat c) (Int32.ofNat row) (Int32.ofNat (n_un n r row))) ?_
    refine q_ic_ne rfl (fun (hc1 : (Int32.ofNat (n_un n r row)) = (Int32.ofNat c)) => ?_) (fun (hc1 : ¬ ((Int32.ofNat (n_un n r row)) = (Int32.ofNat c))) => ?_)
    · refine q_step 4 48 [(0, .ref 34), (1, .ref 20), (2, .int (Int32.ofNat m)), (3, .int (Int32.ofNat c)), (4, .int (Int32.ofNat row))] [.int (Int32.ofNat m), .int (Int32.ofNat row), .ref 20, .ref 34] g u (fun big n0 => sg_se_22 big n0 g u (Int32.ofNat m) (Int32.ofNat c) (Int32.ofNat row)) ?_
      by_cases hc2 : p_rch n m r row = 0
      · refine q_call (M2 := 97) (rest := []) (show q_BS 97 [.ref 34, .ref 20, .int (Int32.ofNat row), .int (Int32.ofNat m)] g u (some (.int (0 : Int32)), (s_rgg n m row g), u) from by have e := c_rg (row := row) u h hm hc ht hg; rw [hc2] at e; exact e) (fun _ _ => rfl) ?_
        refine q_step 3 21 [(0, .ref 34), (1, .ref 20), (2, .int (Int32.ofNat m)), (3, .int (Int32.ofNat c)), (4, .int ((Int32.ofNat row) + (1 : Int32)))] [] (s_rgg n m row g) u (fun big n0 => sg_se_23 big n0 (s_rgg n m row g) u (Int32.ofNat m) (Int32.ofNat c) (Int32.ofNat row)) ?_
        have e : f_si (n_un n r) (n_rch n m r) c (k + 1) row = f_si (n_un n r) (n_rch n m r) c k (row + 1) := by rw [f_si, if_neg (fun z => n_rch_iff.mp z.2 hc2)]
        rw [q_succ]
        exact ih (row + 1) (s_rgg n m row g) (by omega) (w_cs_fc s_rgg_fc hc) (s_rgg_tr ht) (fun p hp => by rw [s_rgg_go]; exact hg p hp) (fun z g2 f1 => hk (e.trans z) g2 (w_fc.trans s_rgg_fc f1)) (fun x g2 z f1 => hs x g2 (e.trans z) (w_fc.trans s_rgg_fc f1))
      · refine q_call (M2 := 97) (rest := []) (show q_BS 97 [.ref 34, .ref 20, .int (Int32.ofNat row), .int (Int32.ofNat m)] g u (some (.int (1 : Int32)), (s_rgg n m row g), u) from by have e := c_rg (row := row) u h hm hc ht hg; rw [(p_rch_01 n m r row).resolve_left hc2] at e; exact e) (fun _ _ => rfl) ?_
        refine q_ret 3 (some (.int (Int32.ofNat row)), (s_rgg n m row g), u) (fun _ _ => rfl) ?_
        exact hs row _ (by rw [f_si, if_pos ⟨by have z := (q_eq (by have := n_un_le n r row; omega) (by omega)).mp hc1; exact z, n_rch_iff.mpr hc2⟩]) s_rgg_fc
    · refine q_step 2 21 [(0, .ref 34), (1, .ref 20), (2, .int (Int32.ofNat m)), (3, .int (Int32.ofNat c)), (4, .int ((Int32.ofNat row) + (1 : Int32)))] [] g u (fun big n0 => sg_se_24 big n0 g u (Int32.ofNat m) (Int32.ofNat c) (Int32.ofNat row)) ?_
      have e : f_si (n_un n r) (n_rch n m r) c (k + 1) row = f_si (n_un n r) (n_rch n m r) c k (row + 1) := by rw [f_si, if_neg (fun z => hc1 (by rw [z.1]))]
      rw [q_succ]
      exact ih (row + 1) g (by omega) hc ht hg (fun z => hk (e.trans z)) (fun x g2 z => hs x g2 (e.trans z))
theorem fc_ou (u : qW) {n W H m : Nat} {r : qM} (h : w_ok n W H r) (hm : m ≤ 60) (h6 : n ≤ 6) (h4n : 4 ^ n ≤ 4096) : ∀ k c g, c + k = n + 1 → w_cs 20 n g r → w_tr n g r → (∀ p, p < n → g 39 p = r 78 p) → q_EV m_92 10 [(0, .ref 34), (1, .ref 20), (2, .int (Int32.ofNat m)), (3, .int (Int32.ofNat c))] [] g u (w_po w_fc g (.int (e_row (f_so (n_un n r) (n_rch n m r) (4 ^ n) k c)))) := by
  intro k
  induction k with
  | zero =>
    intro c g hi hc ht hg
    refine q_step 3 15 [(0, .ref 34), (1, .ref 20), (2, .int (Int32.ofNat m)), (3, .int (Int32.ofNat c))] [.int (g 20 3), .int (Int32.ofNat c)] g u (fun big n0 => sg_se_25 big n0 g u (Int32.ofNat m) (Int32.ofNat c)) ?_
    refine q_ic_gt rfl (fun (hc0 : (g 20 3) < (Int32.ofNat c)) => ?_) (fun hc0 => absurd (show (g 20 3) < (Int32.ofNat c) from by rw [hc.1.1, h.2.1]; exact (q_lt (by omega) (by omega)).mpr (by omega)) hc0)
    refine q_ret 2 (some (.int (Int8.toInt32 (Int8.ofInt (-4)))), g, u) (fun _ _ => rfl) ?_
    exact ⟨g, u, rfl, w_fc_rfl g⟩
  | succ k ih =>
    intro c g hi hc ht hg
    refine q_step 3 15 [(0, .ref 34), (1, .ref 20), (2, .int (Int32.ofNat m)), (3, .int (Int32.ofNat c))] [.int (g 20 3), .int (Int32.ofNat c)] g u (fun big n0 => sg_se_25 big n0 g u (Int32.ofNat m) (Int32.ofNat c)) ?_
    refine q_ic_gt rfl (fun hc0 => absurd (show (g 20 3) < (Int32.ofNat c) from hc0) (fun z => by rw [hc.1.1, h.2.1] at z; exact absurd ((q_lt (by omega) (by omega)).mp z) (by omega))) (fun (hc0 : ¬ ((g 20 3) < (Int32.ofNat c))) => ?_)
    refine q_step 2 21 [(0, .ref 34), (1, .ref 20), (2, .int (Int32.ofNat m)), (3, .int (Int32.ofNat c)), (4, .int (0 : Int32))] [] g u (fun big n0 => sg_se_26 big n0 g u (Int32.ofNat m) (Int32.ofNat c)) ?_
    refine fc_in u h hm h6 h4n (c := c) (by omega) (4 ^ n) 0 g (by omega) hc ht hg (fun hz g2 f1 hc2 ht2 hg2 => ?_) (fun x g2 hx f1 => ?_)
    · refine q_step 2 10 [(0, .ref 34), (1, .ref 20), (2, .int (Int32.ofNat m)), (3, .int ((Int32.ofNat c) + (1 : Int32))), (4, .int (Int32.ofNat (4 ^ n)))] [] g2 u (fun big n0 => sg_se_27 big n0 g2 u (Int32.ofNat m) (Int32.ofNat c) (Int32.ofNat (4 ^ n))) ?_
      refine q_weak [(0, .ref 34), (1, .ref 20), (2, .int (Int32.ofNat m)), (3, .int ((Int32.ofNat c) + (1 : Int32)))] (q_sub.cons rfl (q_sub.cons rfl (q_sub.cons rfl (q_sub.cons rfl q_sub.nil)))) ?_
      have e : f_so (n_un n r) (n_rch n m r) (4 ^ n) (k + 1) c = f_so (n_un n r) (n_rch n m r) (4 ^ n) k (c + 1) := by rw [f_so, hz]
      rw [q_succ]
      exact q_EV.imp (ih (c + 1) g2 (by omega) hc2 ht2 hg2) (fun R z => w_po_c f1 (by rw [e]) z)
    · exact ⟨g2, u, by rw [f_so, hx]; rfl, f1⟩
theorem c_few92 {n W H : Nat} {g r : qM} (u : qW) (h : w_ok n W H r) (hc : w_cs 20 n g r) {m : Nat} (hm : m ≤ 60) (hgo : ∀ p, p < n → g 24 p = r 78 p) : w_BS w_fc 92 [.ref 34, .ref 20, .int (Int32.ofNat m)] g u (.int (e_row (f_set n m r))) := by
  refine w_bs (mm := m_92) rfl (Nat.le_of_ble_eq_true rfl) rfl ?_
  have h5 : n ≤ 6 := h.1.2.2.2.2
  have hy := w_cpy (a := 35) (b := 20) h5 (by omega) hc
  refine q_step 3 5 [(0, .ref 34), (1, .ref 20), (2, .int (Int32.ofNat m))] [.ref 20, .ref 35] g u (fun big n0 => sg_se_28 big n0 g u (Int32.ofNat m)) ?_
  refine q_call (M2 := 41) (rest := []) (b_cpy35_20 _ _) (fun _ _ => rfl) ?_
  refine q_step 2 10 [(0, .ref 34), (1, .ref 20), (2, .int (Int32.ofNat m)), (3, .int (0 : Int32))] [] (s_cpy 35 20 g) u (fun big n0 => sg_se_29 big n0 (s_cpy 35 20 g) u (Int32.ofNat m)) ?_
  exact q_EV.imp (fc_ou u h hm h5 (s_4n h5) (n + 1) 0 (s_cpy 35 20 g) (by omega) (w_cs_fc w_cpy_fc hc) (w_cs_tr hy) (fun p hp => by rw [show s_cpy 35 20 g 39 p = g 24 p from s_cpy_4 (a := 35) (b := 20) (by omega) (by omega)]; exact hgo p hp)) (fun R z => w_po_c w_cpy_fc rfl z)
theorem b_srch1 {m : Nat} (g : qM) (u : qW) (hm : m ≤ 12) : q_BS 90 [.int (Int32.ofNat m)] g u (some (.int 1), g, u) := by
  have e : d_isSearched (Int32.ofNat m) g = 1 := by
    unfold d_isSearched
    rw [if_neg (fun z => by
      have z := Int32.lt_iff_toInt_lt.mp z
      rw [q_nat (by omega)] at z
      have e : (0 : Int32).toInt = 0 := rfl
      omega), if_neg (show ¬ (12 : Int32) < Int32.ofNat m from fun z => absurd ((q_lt (i := 12) (j := m) (by omega) (by omega)).mp z) (by omega))]
  have h := b_isSearched (Int32.ofNat m) g u
  rw [e] at h
  exact h
theorem b_tot0 (g : qM) (u : qW) : q_BS 91 [.ref 8, .int (0 : Int32)] g u (some (.int 1), g, u) := by
  refine q_bx (mm := m_91) rfl (Nat.le_of_ble_eq_true rfl) rfl ?_
  refine q_ret 5 (some (.int (1 : Int32)), g, u) (fun _ _ => rfl) ?_
  rfl
theorem b_tot1 (g : qM) (u : qW) {n p : Nat} (hn : g 20 3 = Int32.ofNat n) (h6 : n ≤ 6) (hp : p < n) : q_BS 91 [.ref 8, .int (Int32.ofNat (10 + p))] g u (some (.int 1), g, u) := by
  refine q_bx (mm := m_91) rfl (Nat.le_of_ble_eq_true rfl) rfl ?_
  refine q_step 1 1 [(0, .ref 8), (1, .int (Int32.ofNat (10 + p)))] [.int (Int32.ofNat (10 + p))] g u (fun big n0 => sg_se_30 big n0 g u (Int32.ofNat (10 + p))) ?_
  refine q_if_eq rfl (fun hc0 => absurd (show (Int32.ofNat (10 + p)) = 0 from hc0) (fun z => absurd ((q_eq (i := 10 + p) (j := 0) (by omega) (by omega)).mp z) (by omega))) (fun (hc0 : ¬ ((Int32.ofNat (10 + p)) = 0)) => ?_)
  refine q_step 2 7 [(0, .ref 8), (1, .int (Int32.ofNat (10 + p)))] [.int (10 : Int32), .int (Int32.ofNat (10 + p))] g u (fun big n0 => sg_se_31 big n0 g u (Int32.ofNat (10 + p))) ?_
  refine q_ic_lt rfl (fun hc1 => absurd (show (Int32.ofNat (10 + p)) < (10 : Int32) from hc1) (fun z => absurd ((q_lt (i := 10 + p) (j := 10) (by omega) (by omega)).mp z) (by omega))) (fun (hc1 : ¬ ((Int32.ofNat (10 + p)) < (10 : Int32))) => ?_)
  refine q_step 5 18 [(0, .ref 8), (1, .int (Int32.ofNat (10 + p)))] [.int ((Int32.ofNat (10 + p)) - (10 : Int32)), .ref 20] g u (fun big n0 => sg_se_32 big n0 g u (Int32.ofNat (10 + p))) ?_
  refine q_call (M2 := 40) (rest := []) (by rw [show (Int32.ofNat (10 + p)) - (10 : Int32) = Int32.ofNat p from by rw [show (10 : Int32) = Int32.ofNat 10 from rfl, q_sb (by omega) (by omega)]; congr 1; omega]; exact b_hasOne1 g u hn h6 hp) (fun _ _ => rfl) ?_
  refine q_ret 4 (some (.int (1 : Int32)), g, u) (fun _ _ => rfl) ?_
  rfl
theorem c_set0 {n W H : Nat} {g r : qM} (u : qW) (h : w_ok n W H r) (hc : w_cs 20 n g r) {m : Nat} (hm : m ≤ 12) (hgo : ∀ p, p < n → g 24 p = r 78 p) : w_BS w_fc 89 [.ref 8, .int (Int32.ofNat m), .int (0 : Int32)] g u (.int (f_set0 n r (f_set n m r))) := by
  refine w_bs (mm := m_89) rfl (Nat.le_of_ble_eq_true rfl) rfl ?_
  have h5 : n ≤ 6 := h.1.2.2.2.2
  have h4n := s_4n h5
  obtain ⟨g1, u1, hb, hf⟩ := c_few92 u h hc (m := m) (by omega) hgo
  have hcf := w_cs_fc hf hc
  cases hF : f_set n m r with
  | none =>
    rw [hF] at hb
    refine q_step 1 1 [(0, .ref 8), (1, .int (Int32.ofNat m)), (2, .int (0 : Int32))] [.int (Int32.ofNat m)] g u (fun big n0 => sg_se_33 big n0 g u (Int32.ofNat m)) ?_
    refine q_call (M2 := 90) (rest := []) (b_srch1 g u hm) (fun _ _ => rfl) ?_
    refine q_step 3 9 [(0, .ref 8), (1, .int (Int32.ofNat m)), (2, .int (0 : Int32))] [.int (0 : Int32), .ref 8] g u (fun big n0 => sg_se_34 big n0 g u (Int32.ofNat m)) ?_
    refine q_call (M2 := 91) (rest := []) (b_tot0 g u) (fun _ _ => rfl) ?_
    refine q_step 6 26 [(0, .ref 8), (1, .int (Int32.ofNat m)), (2, .int (0 : Int32))] [.int (Int32.ofNat m), .ref 20, .ref 34] g u (fun big n0 => sg_se_35 big n0 g u (Int32.ofNat m)) ?_
    refine q_call (M2 := 92) (rest := []) (hb) (fun _ _ => rfl) ?_
    refine q_ret 6 (some (.int (Int8.toInt32 (Int8.ofInt (-4)))), g1, u1) (fun _ _ => rfl) ?_
    exact ⟨g1, u1, rfl, hf⟩
  | some x =>
    rw [hF] at hb
    have hx := f_set_lt hF
    refine q_step 1 1 [(0, .ref 8), (1, .int (Int32.ofNat m)), (2, .int (0 : Int32))] [.int (Int32.ofNat m)] g u (fun big n0 => sg_se_33 big n0 g u (Int32.ofNat m)) ?_
    refine q_call (M2 := 90) (rest := []) (b_srch1 g u hm) (fun _ _ => rfl) ?_
    refine q_step 3 9 [(0, .ref 8), (1, .int (Int32.ofNat m)), (2, .int (0 : Int32))] [.int (0 : Int32), .ref 8] g u (fun big n0 => sg_se_34 big n0 g u (Int32.ofNat m)) ?_
    refine q_call (M2 := 91) (rest := []) (b_tot0 g u) (fun _ _ => rfl) ?_
    refine q_step 6 26 [(0, .ref 8), (1, .int (Int32.ofNat m)), (2, .int (0 : Int32))] [.int (Int32.ofNat m), .ref 20, .ref 34] g u (fun big n0 => sg_se_35 big n0 g u (Int32.ofNat m)) ?_
    refine q_call (M2 := 92) (rest := []) (hb) (fun _ _ => rfl) ?_
    refine q_step 3 33 [(0, .ref 8), (1, .int (Int32.ofNat m)), (2, .int (0 : Int32)), (3, .int (Int32.ofNat x))] [.int (Int8.toInt32 (Int8.ofInt (-4))), .int (Int32.ofNat x)] g1 u1 (fun big n0 => sg_se_36 big n0 g1 u1 (Int32.ofNat m) (Int32.ofNat x)) ?_
    refine q_ic_ne rfl (fun hc0 => absurd (show (Int32.ofNat x) = (Int8.toInt32 (Int8.ofInt (-4))) from hc0) (q_none_ne (by omega))) (fun (hc0 : ¬ ((Int32.ofNat x) = (Int8.toInt32 (Int8.ofInt (-4))))) => ?_)
    refine q_step 5 48 [(0, .ref 8), (1, .int (Int32.ofNat m)), (2, .int (0 : Int32)), (3, .int (Int32.ofNat x))] [.int (Int32.ofNat x), .ref 20] g1 u1 (fun big n0 => sg_se_37 big n0 g1 u1 (Int32.ofNat m) (Int32.ofNat x)) ?_
    refine q_call (M2 := 94) (rest := []) (c_un u1 h hcf) (fun _ _ => rfl) ?_
    refine q_ret 2 (some (.int (Int32.ofNat (n_un n r x))), g1, u1) (fun _ _ => rfl) ?_
    exact ⟨g1, u1, rfl, hf⟩
theorem c_set1 {n W H : Nat} {g r : qM} (u : qW) (h : w_ok n W H r) (hc : w_cs 20 n g r) {m : Nat} (hm : m ≤ 12) (hgo : ∀ p, p < n → g 24 p = r 78 p) {p : Nat} (hp : p < n) : w_BS w_fc 89 [.ref 8, .int (Int32.ofNat m), .int (Int32.ofNat (10 + p))] g u (.int (f_setp n p (f_set n m r))) := by
  refine w_bs (mm := m_89) rfl (Nat.le_of_ble_eq_true rfl) rfl ?_
  have h5 : n ≤ 6 := h.1.2.2.2.2
  have h4n := s_4n h5
  obtain ⟨g1, u1, hb, hf⟩ := c_few92 u h hc (m := m) (by omega) hgo
  have hcf := w_cs_fc hf hc
  cases hF : f_set n m r with
  | none =>
    rw [hF] at hb
    refine q_step 1 1 [(0, .ref 8), (1, .int (Int32.ofNat m)), (2, .int (Int32.ofNat (10 + p)))] [.int (Int32.ofNat m)] g u (fun big n0 => sg_se_38 big n0 g u (Int32.ofNat m) (Int32.ofNat (10 + p))) ?_
    refine q_call (M2 := 90) (rest := []) (b_srch1 g u hm) (fun _ _ => rfl) ?_
    refine q_step 3 9 [(0, .ref 8), (1, .int (Int32.ofNat m)), (2, .int (Int32.ofNat (10 + p)))] [.int (Int32.ofNat (10 + p)), .ref 8] g u (fun big n0 => sg_se_39 big n0 g u (Int32.ofNat m) (Int32.ofNat (10 + p))) ?_
    refine q_call (M2 := 91) (rest := []) (b_tot1 g u (hc.1.1.trans h.2.1) h5 hp) (fun _ _ => rfl) ?_
    refine q_step 6 26 [(0, .ref 8), (1, .int (Int32.ofNat m)), (2, .int (Int32.ofNat (10 + p)))] [.int (Int32.ofNat m), .ref 20, .ref 34] g u (fun big n0 => sg_se_40 big n0 g u (Int32.ofNat m) (Int32.ofNat (10 + p))) ?_
    refine q_call (M2 := 92) (rest := []) (hb) (fun _ _ => rfl) ?_
    refine q_ret 6 (some (.int (Int8.toInt32 (Int8.ofInt (-4)))), g1, u1) (fun _ _ => rfl) ?_
    exact ⟨g1, u1, rfl, hf⟩
  | some x =>
    rw [hF] at hb
    have hx := f_set_lt hF
    refine q_step 1 1 [(0, .ref 8), (1, .int (Int32.ofNat m)), (2, .int (Int32.ofNat (10 + p)))] [.int (Int32.ofNat m)] g u (fun big n0 => sg_se_38 big n0 g u (Int32.ofNat m) (Int32.ofNat (10 + p))) ?_
    refine q_call (M2 := 90) (rest := []) (b_srch1 g u hm) (fun _ _ => rfl) ?_
    refine q_step 3 9 [(0, .ref 8), (1, .int (Int32.ofNat m)), (2, .int (Int32.ofNat (10 + p)))] [.int (Int32.ofNat (10 + p)), .ref 8] g u (fun big n0 => sg_se_39 big n0 g u (Int32.ofNat m) (Int32.ofNat (10 + p))) ?_
    refine q_call (M2 := 91) (rest := []) (b_tot1 g u (hc.1.1.trans h.2.1) h5 hp) (fun _ _ => rfl) ?_
    refine q_step 6 26 [(0, .ref 8), (1, .int (Int32.ofNat m)), (2, .int (Int32.ofNat (10 + p)))] [.int (Int32.ofNat m), .ref 20, .ref 34] g u (fun big n0 => sg_se_40 big n0 g u (Int32.ofNat m) (Int32.ofNat (10 + p))) ?_
    refine q_call (M2 := 92) (rest := []) (hb) (fun _ _ => rfl) ?_
    refine q_step 3 33 [(0, .ref 8), (1, .int (Int32.ofNat m)), (2, .int (Int32.ofNat (10 + p))), (3, .int (Int32.ofNat x))] [.int (Int8.toInt32 (Int8.ofInt (-4))), .int (Int32.ofNat x)] g1 u1 (fun big n0 => sg_se_41 big n0 g1 u1 (Int32.ofNat m) (Int32.ofNat (10 + p)) (Int32.ofNat x)) ?_
    refine q_ic_ne rfl (fun hc0 => absurd (show (Int32.ofNat x) = (Int8.toInt32 (Int8.ofInt (-4))) from hc0) (q_none_ne (by omega))) (fun (hc0 : ¬ ((Int32.ofNat x) = (Int8.toInt32 (Int8.ofInt (-4))))) => ?_)
    refine q_step 1 40 [(0, .ref 8), (1, .int (Int32.ofNat m)), (2, .int (Int32.ofNat (10 + p))), (3, .int (Int32.ofNat x))] [.int (Int32.ofNat (10 + p))] g1 u1 (fun big n0 => sg_se_42 big n0 g1 u1 (Int32.ofNat m) (Int32.ofNat (10 + p)) (Int32.ofNat x)) ?_
    refine q_if_ne rfl (fun hc1 => absurd (show (Int32.ofNat (10 + p)) = 0 from hc1) (fun z => absurd ((q_eq (i := 10 + p) (j := 0) (by omega) (by omega)).mp z) (by omega))) (fun (hc1 : ¬ ((Int32.ofNat (10 + p)) = 0)) => ?_)
    refine q_step 6 63 [(0, .ref 8), (1, .int (Int32.ofNat m)), (2, .int (Int32.ofNat (10 + p))), (3, .int (Int32.ofNat x))] [.int ((Int32.ofNat (10 + p)) - (10 : Int32)), .int (Int32.ofNat x), .ref 20] g1 u1 (fun big n0 => sg_se_43 big n0 g1 u1 (Int32.ofNat m) (Int32.ofNat (10 + p)) (Int32.ofNat x)) ?_
    have hmr := b_mir20 (Int32.ofNat x) ((Int32.ofNat (10 + p)) - (10 : Int32)) g1 u1
    rw [show s_dg (Int32.ofNat x) (g1 20 3) ((Int32.ofNat (10 + p)) - (10 : Int32)) = f_md n x p from by
      rw [hcf.1.1, h.2.1, show (Int32.ofNat (10 + p)) - (10 : Int32) = Int32.ofNat p from by rw [show (10 : Int32) = Int32.ofNat 10 from rfl, q_sb (by omega) (by omega)]; congr 1; omega]
      rfl] at hmr
    refine q_call (M2 := 95) (rest := []) (hmr) (fun _ _ => rfl) ?_
    refine q_ret 1 (some (.int (f_md n x p)), g1, u1) (fun _ _ => rfl) ?_
    exact ⟨g1, u1, rfl, hf⟩
theorem w_ust {n W H row : Nat} {g r : qM} (h : w_ok n W H r) (hs : w_sm n (s_start g) r) (h5 : n ≤ 5) : ∀ p, p < n → p_ust g (Int32.ofNat row) p = p_un n r row p := fun p hp => by
  have e : g 71 (5 + p) = r 76 p := by
    rw [← (hs.2.2 p hp).2.1]
    show _ = (if p < 5 then g 71 (5 + p) else g 76 p)
    rw [if_pos (by omega)]
  unfold p_ust p_un f_md
  rw [w_pl h hs, e]
  by_cases z : r 76 p = s_dg (Int32.ofNat row) (Int32.ofNat n) (Int32.ofNat p)
  · rw [if_pos z, if_pos z.symm]
  · rw [if_neg z, if_neg (fun y => z y.symm)]
theorem rse_0 (g : qM) (u : qW) {n m row : Nat} {f d : Int32} (hn : g 70 4 = Int32.ofNat n) (h5 : n ≤ 5) {Q : Option Value × qM × qW → Prop} : ∀ k i a, i + k = n → q_EV m_201 124 [(0, .ref 70), (1, .int (Int32.ofNat m)), (2, .int (0 : Int32)), (3, .int f), (4, .int d), (5, .int (Int32.ofNat row)), (6, .int (s_ct (p_ust g (Int32.ofNat row)) k i a)), (7, .int (Int32.ofNat n))] [] (s_row_ 76 (f_md n row) n (s_start g)) u Q → q_EV m_201 61 [(0, .ref 70), (1, .int (Int32.ofNat m)), (2, .int (0 : Int32)), (3, .int f), (4, .int d), (5, .int (Int32.ofNat row)), (6, .int a), (7, .int (Int32.ofNat i))] [] (s_row_ 76 (f_md n row) i (s_start g)) u Q := by
  intro k
  induction k with
  | zero =>
    intro i a hi hk
    have e : n = i := by omega
    subst e
    refine q_step 3 67 [(0, .ref 70), (1, .int (Int32.ofNat m)), (2, .int (0 : Int32)), (3, .int f), (4, .int d), (5, .int (Int32.ofNat row)), (6, .int a), (7, .int (Int32.ofNat n))] [.int ((s_start g) 70 4), .int (Int32.ofNat n)] (s_row_ 76 (f_md n row) n (s_start g)) u (fun big n0 => sg_se_44 big n0 (s_row_ 76 (f_md n row) n (s_start g)) u (Int32.ofNat m) f d (Int32.ofNat row) a (Int32.ofNat n)) ?_
    refine q_ic_ge rfl (fun (hc0 : ((s_start g) 70 4) ≤ (Int32.ofNat n)) => ?_) (fun hc0 => absurd (show ((s_start g) 70 4) ≤ (Int32.ofNat n) from by rw [show (s_start g) 70 4 = _ from hn]; exact (q_le (by omega) (by omega)).mpr (by omega)) hc0)
    exact hk
  | succ k ih =>
    intro i a hi hk
    refine q_step 3 67 [(0, .ref 70), (1, .int (Int32.ofNat m)), (2, .int (0 : Int32)), (3, .int f), (4, .int d), (5, .int (Int32.ofNat row)), (6, .int a), (7, .int (Int32.ofNat i))] [.int ((s_start g) 70 4), .int (Int32.ofNat i)] (s_row_ 76 (f_md n row) i (s_start g)) u (fun big n0 => sg_se_44 big n0 (s_row_ 76 (f_md n row) i (s_start g)) u (Int32.ofNat m) f d (Int32.ofNat row) a (Int32.ofNat i)) ?_
    refine q_ic_ge rfl (fun hc0 => absurd (show ((s_start g) 70 4) ≤ (Int32.ofNat i) from hc0) (fun z => by rw [show (s_start g) 70 4 = _ from hn] at z; exact absurd ((q_le (by omega) (by omega)).mp z) (by omega))) (fun (hc0 : ¬ (((s_start g) 70 4) ≤ (Int32.ofNat i))) => ?_)
    refine q_step 4 77 [(0, .ref 70), (1, .int (Int32.ofNat m)), (2, .int (0 : Int32)), (3, .int f), (4, .int d), (5, .int (Int32.ofNat row)), (6, .int a), (7, .int (Int32.ofNat i))] [.int (Int32.ofNat i), .int (Int32.ofNat row), .ref 70, .int a] (s_row_ 76 (f_md n row) i (s_start g)) u (fun big n0 => sg_se_45 big n0 (s_row_ 76 (f_md n row) i (s_start g)) u (Int32.ofNat m) f d (Int32.ofNat row) a (Int32.ofNat i)) ?_
    refine q_call (M2 := 203) (rest := [.int a]) (b_mby (Int32.ofNat row) (Int32.ofNat i) (s_row_ 76 (f_md n row) i (s_start g)) u) (fun _ _ => rfl) ?_
    refine q_step 5 88 [(0, .ref 70), (1, .int (Int32.ofNat m)), (2, .int (0 : Int32)), (3, .int f), (4, .int d), (5, .int (Int32.ofNat row)), (6, .int a), (7, .int (Int32.ofNat i))] [.int ((5 : Int32) + (Int32.ofNat i)), .ref 71, .int (s_dg (Int32.ofNat row) (g 70 4) (Int32.ofNat i)), .int a] (s_row_ 76 (f_md n row) i (s_start g)) u (fun big n0 => sg_se_46 big n0 (s_row_ 76 (f_md n row) i (s_start g)) u (Int32.ofNat m) f d (Int32.ofNat row) a (Int32.ofNat i) a (s_dg (Int32.ofNat row) (g 70 4) (Int32.ofNat i))) ?_
    refine q_iald (j := (5 + i)) (s_rixn (K := 5) (i := i) (by omega)) rfl rfl ?_
    refine q_ic_eq rfl (fun (hc1 : (s_dg (Int32.ofNat row) (g 70 4) (Int32.ofNat i)) = ((s_start g) 71 (5 + i))) => ?_) (fun (hc1 : ¬ ((s_dg (Int32.ofNat row) (g 70 4) (Int32.ofNat i)) = ((s_start g) 71 (5 + i)))) => ?_)
    · refine q_step 1 97 [(0, .ref 70), (1, .int (Int32.ofNat m)), (2, .int (0 : Int32)), (3, .int f), (4, .int d), (5, .int (Int32.ofNat row)), (6, .int a), (7, .int (Int32.ofNat i))] [.int (0 : Int32), .int a] (s_row_ 76 (f_md n row) i (s_start g)) u (fun big n0 => sg_se_47 big n0 (s_row_ 76 (f_md n row) i (s_start g)) u (Int32.ofNat m) f d (Int32.ofNat row) a (Int32.ofNat i) a) ?_
      refine q_call (M2 := 164) (rest := [.int a]) (b_flag0 _ _) (fun _ _ => rfl) ?_
      refine q_step 8 114 [(0, .ref 70), (1, .int (Int32.ofNat m)), (2, .int (0 : Int32)), (3, .int f), (4, .int d), (5, .int (Int32.ofNat row)), (6, .int (a + (0 : Int32))), (7, .int (Int32.ofNat i))] [.int (Int32.ofNat i), .int (Int32.ofNat row), .ref 70, .int (Int32.ofNat i), .ref 76] (s_row_ 76 (f_md n row) i (s_start g)) u (fun big n0 => sg_se_48 big n0 (s_row_ 76 (f_md n row) i (s_start g)) u (Int32.ofNat m) f d (Int32.ofNat row) a (Int32.ofNat i) a) ?_
      refine q_call (M2 := 203) (rest := [.int (Int32.ofNat i), .ref 76]) (b_mby (Int32.ofNat row) (Int32.ofNat i) (s_row_ 76 (f_md n row) i (s_start g)) u) (fun _ _ => rfl) ?_
      refine q_iast (j := i) (q_ixn (by omega) (by omega)) rfl rfl ?_
      refine q_step 2 61 [(0, .ref 70), (1, .int (Int32.ofNat m)), (2, .int (0 : Int32)), (3, .int f), (4, .int d), (5, .int (Int32.ofNat row)), (6, .int (a + (0 : Int32))), (7, .int ((Int32.ofNat i) + (1 : Int32)))] [] (q_up (s_row_ 76 (f_md n row) i (s_start g)) 76 i (s_dg (Int32.ofNat row) (g 70 4) (Int32.ofNat i))) u (fun big n0 => sg_se_49 big n0 (q_up (s_row_ 76 (f_md n row) i (s_start g)) 76 i (s_dg (Int32.ofNat row) (g 70 4) (Int32.ofNat i))) u (Int32.ofNat m) f d (Int32.ofNat row) (a + (0 : Int32)) (Int32.ofNat i)) ?_
      rw [s_ct_s (P := p_ust g (Int32.ofNat row)) (i := i) (by unfold p_ust; exact if_pos hc1)] at hk
      rw [q_succ, show (q_up (s_row_ 76 (f_md n row) i (s_start g)) 76 i (s_dg (Int32.ofNat row) (g 70 4) (Int32.ofNat i))) = (s_row_ 76 (f_md n row) (i + 1) (s_start g)) from by
        rw [hn]
        exact s_row_s]
      exact ih (i + 1) _ (by omega) hk
    · refine q_step 2 97 [(0, .ref 70), (1, .int (Int32.ofNat m)), (2, .int (0 : Int32)), (3, .int f), (4, .int d), (5, .int (Int32.ofNat row)), (6, .int a), (7, .int (Int32.ofNat i))] [.int (1 : Int32), .int a] (s_row_ 76 (f_md n row) i (s_start g)) u (fun big n0 => sg_se_50 big n0 (s_row_ 76 (f_md n row) i (s_start g)) u (Int32.ofNat m) f d (Int32.ofNat row) a (Int32.ofNat i) a) ?_
      refine q_call (M2 := 164) (rest := [.int a]) (b_flag1 _ _) (fun _ _ => rfl) ?_
      refine q_step 8 114 [(0, .ref 70), (1, .int (Int32.ofNat m)), (2, .int (0 : Int32)), (3, .int f), (4, .int d), (5, .int (Int32.ofNat row)), (6, .int (a + (1 : Int32))), (7, .int (Int32.ofNat i))] [.int (Int32.ofNat i), .int (Int32.ofNat row), .ref 70, .int (Int32.ofNat i), .ref 76] (s_row_ 76 (f_md n row) i (s_start g)) u (fun big n0 => sg_se_51 big n0 (s_row_ 76 (f_md n row) i (s_start g)) u (Int32.ofNat m) f d (Int32.ofNat row) a (Int32.ofNat i) a) ?_
      refine q_call (M2 := 203) (rest := [.int (Int32.ofNat i), .ref 76]) (b_mby (Int32.ofNat row) (Int32.ofNat i) (s_row_ 76 (f_md n row) i (s_start g)) u) (fun _ _ => rfl) ?_
      refine q_iast (j := i) (q_ixn (by omega) (by omega)) rfl rfl ?_
      refine q_step 2 61 [(0, .ref 70), (1, .int (Int32.ofNat m)), (2, .int (0 : Int32)), (3, .int f), (4, .int d), (5, .int (Int32.ofNat row)), (6, .int (a + (1 : Int32))), (7, .int ((Int32.ofNat i) + (1 : Int32)))] [] (q_up (s_row_ 76 (f_md n row) i (s_start g)) 76 i (s_dg (Int32.ofNat row) (g 70 4) (Int32.ofNat i))) u (fun big n0 => sg_se_49 big n0 (q_up (s_row_ 76 (f_md n row) i (s_start g)) 76 i (s_dg (Int32.ofNat row) (g 70 4) (Int32.ofNat i))) u (Int32.ofNat m) f d (Int32.ofNat row) (a + (1 : Int32)) (Int32.ofNat i)) ?_
      rw [s_ct_s (P := p_ust g (Int32.ofNat row)) (i := i) (by unfold p_ust; exact if_neg hc1)] at hk
      rw [q_succ, show (q_up (s_row_ 76 (f_md n row) i (s_start g)) 76 i (s_dg (Int32.ofNat row) (g 70 4) (Int32.ofNat i))) = (s_row_ 76 (f_md n row) (i + 1) (s_start g)) from by
        rw [hn]
        exact s_row_s]
      exact ih (i + 1) _ (by omega) hk
theorem rso_0 (u : qW) {n W H m : Nat} {r : qM} (h : w_ok n W H r) (hm : m ≤ 60) (h5 : n ≤ 5) (h6 : n ≤ 6) (h4n : 4 ^ n ≤ 4096) : ∀ k row b g, row + k = 4 ^ n → w_sm n (s_start g) r → (∀ p, p < n → g 71 (15 + p) = r 78 p) → (∀ c x, b = some (c, x) → c = n_un n r x ∧ x < 4 ^ n) → q_EV m_201 39 [(0, .ref 70), (1, .int (Int32.ofNat m)), (2, .int (0 : Int32)), (3, .int (e_few b)), (4, .int (e_fnd b)), (5, .int (Int32.ofNat row))] [] g u (w_po w_fr g (.int (f_set0 n r ((f_sr (n_un n r) (n_rch n m r) k row b).map (fun z => z.2))))) := by
  intro k
  induction k with
  | zero =>
    intro row b g hrow hs hg hb
    have hn : g 70 4 = Int32.ofNat n := w_pl h hs
    refine q_step 3 45 [(0, .ref 70), (1, .int (Int32.ofNat m)), (2, .int (0 : Int32)), (3, .int (e_few b)), (4, .int (e_fnd b)), (5, .int (Int32.ofNat row))] [.int (g 70 4), .int (Int32.ofNat row)] g u (fun big n0 => sg_se_52 big n0 g u (Int32.ofNat m) (e_few b) (e_fnd b) (Int32.ofNat row)) ?_
    refine q_call (M2 := 202) (rest := [.int (Int32.ofNat row)]) (b_rrows _ _ _) (fun _ _ => rfl) ?_
    refine q_ic_ge rfl (fun (hc0 : (s_rows (g 70 4)) ≤ (Int32.ofNat row)) => ?_) (fun hc0 => absurd (show (s_rows (g 70 4)) ≤ (Int32.ofNat row) from by rw [hn, s_rows_n h6]; exact (q_le (by omega) (by omega)).mpr (by omega)) hc0)
    cases b with
    | none => 
      refine q_ret 6 (some (.int (Int8.toInt32 (Int8.ofInt (-4)))), g, u) (fun _ _ => rfl) ?_
      exact ⟨g, u, rfl, w_fr_rfl g⟩
    | some z => 
      obtain ⟨c, x⟩ := z
      have hbx := hb c x rfl
      refine q_step 2 155 [(0, .ref 70), (1, .int (Int32.ofNat m)), (2, .int (0 : Int32)), (3, .int (Int32.ofNat c)), (4, .int (Int32.ofNat x)), (5, .int (Int32.ofNat row))] [.int (Int8.toInt32 (Int8.ofInt (-4))), .int (Int32.ofNat x)] g u (fun big n0 => sg_se_53 big n0 g u (Int32.ofNat m) (Int32.ofNat c) (Int32.ofNat x) (Int32.ofNat row)) ?_
      refine q_ic_ne rfl (fun hc0 => absurd (show (Int32.ofNat x) = (Int8.toInt32 (Int8.ofInt (-4))) from hc0) (q_none_ne (by omega))) (fun (hc0 : ¬ ((Int32.ofNat x) = (Int8.toInt32 (Int8.ofInt (-4))))) => ?_)
      refine q_ret 5 (some (.int (Int32.ofNat c)), g, u) (fun _ _ => rfl) ?_
      exact ⟨g, u, by rw [hbx.1]; rfl, w_fr_rfl g⟩
  | succ k ih =>
    intro row b g hrow hs hg hb
    have hn : g 70 4 = Int32.ofNat n := w_pl h hs
    refine q_step 3 45 [(0, .ref 70), (1, .int (Int32.ofNat m)), (2, .int (0 : Int32)), (3, .int (e_few b)), (4, .int (e_fnd b)), (5, .int (Int32.ofNat row))] [.int (g 70 4), .int (Int32.ofNat row)] g u (fun big n0 => sg_se_52 big n0 g u (Int32.ofNat m) (e_few b) (e_fnd b) (Int32.ofNat row)) ?_
    refine q_call (M2 := 202) (rest := [.int (Int32.ofNat row)]) (b_rrows _ _ _) (fun _ _ => rfl) ?_
    refine q_ic_ge rfl (fun hc0 => absurd (show (s_rows (g 70 4)) ≤ (Int32.ofNat row) from hc0) (fun z => by rw [hn, s_rows_n h6] at z; exact absurd ((q_le (by omega) (by omega)).mp z) (by omega))) (fun (hc0 : ¬ ((s_rows (g 70 4)) ≤ (Int32.ofNat row))) => ?_)
    refine q_step 3 55 [(0, .ref 70), (1, .int (Int32.ofNat m)), (2, .int (0 : Int32)), (3, .int (e_few b)), (4, .int (e_fnd b)), (5, .int (Int32.ofNat row)), (6, .int (0 : Int32))] [.ref 70] g u (fun big n0 => sg_se_54 big n0 g u (Int32.ofNat m) (e_few b) (e_fnd b) (Int32.ofNat row)) ?_
    refine q_call (M2 := 172) (rest := []) (b_starts g u) (fun _ _ => rfl) ?_
    refine q_step 2 61 [(0, .ref 70), (1, .int (Int32.ofNat m)), (2, .int (0 : Int32)), (3, .int (e_few b)), (4, .int (e_fnd b)), (5, .int (Int32.ofNat row)), (6, .int (0 : Int32)), (7, .int (0 : Int32))] [] (s_start g) u (fun big n0 => sg_se_55 big n0 (s_start g) u (Int32.ofNat m) (e_few b) (e_fnd b) (Int32.ofNat row)) ?_
    have hct : s_ct (p_ust g (Int32.ofNat row)) n 0 0 = Int32.ofNat (n_un n r row) := (s_ct_cg n 0 0 (fun p _ hp => w_ust h hs h5 p (by omega))).trans (s_ct_n (p_un_01 n r row) n 0 0)
    have hul := n_un_le n r row
    have key := rse_0 g u (m := m) (row := row) (f := e_few b) (d := e_fnd b) hn h5 (Q := w_po w_fr g (.int (f_set0 n r ((f_sr (n_un n r) (n_rch n m r) (k + 1) row b).map (fun z => z.2))))) n 0 0 (by omega)
    rw [s_row_0, hct] at key
    refine key ?_
    have hul2 : n_un n r row < 1000 := by omega
    have hfr1 : w_fr g (s_row_ 76 (f_md n row) n (s_start g)) := s_start_fr.trans ⟨fun b hb => s_row_o (by omega), fun j _ => by rw [s_row_o (by omega)]⟩
    have hfr2 : w_fr g (s_rit n m (s_row_ 76 (f_md n row) n (s_start g))) := hfr1.trans (w_rit_fr m _)
    refine q_step 2 127 [(0, .ref 70), (1, .int (Int32.ofNat m)), (2, .int (0 : Int32)), (3, .int (e_few b)), (4, .int (e_fnd b)), (5, .int (Int32.ofNat row)), (6, .int (Int32.ofNat (n_un n r row))), (7, .int (Int32.ofNat n))] [.int (e_few b), .int (Int32.ofNat (n_un n r row))] (s_row_ 76 (f_md n row) n (s_start g)) u (fun big n0 => sg_se_56 big n0 (s_row_ 76 (f_md n row) n (s_start g)) u (Int32.ofNat m) (e_few b) (e_fnd b) (Int32.ofNat row) (Int32.ofNat (n_un n r row)) (Int32.ofNat n)) ?_
    refine q_ic_ge rfl (fun (hc0 : (e_few b) ≤ (Int32.ofNat (n_un n r row))) => ?_) (fun (hc0 : ¬ ((e_few b) ≤ (Int32.ofNat (n_un n r row)))) => ?_)
    · refine q_step 2 39 [(0, .ref 70), (1, .int (Int32.ofNat m)), (2, .int (0 : Int32)), (3, .int (e_few b)), (4, .int (e_fnd b)), (5, .int ((Int32.ofNat row) + (1 : Int32))), (6, .int (Int32.ofNat (n_un n r row))), (7, .int (Int32.ofNat n))] [] (s_row_ 76 (f_md n row) n (s_start g)) u (fun big n0 => sg_se_57 big n0 (s_row_ 76 (f_md n row) n (s_start g)) u (Int32.ofNat m) (e_few b) (e_fnd b) (Int32.ofNat row) (Int32.ofNat (n_un n r row)) (Int32.ofNat n)) ?_
      refine q_weak [(0, .ref 70), (1, .int (Int32.ofNat m)), (2, .int (0 : Int32)), (3, .int (e_few b)), (4, .int (e_fnd b)), (5, .int ((Int32.ofNat row) + (1 : Int32)))] (q_sub.cons rfl (q_sub.cons rfl (q_sub.cons rfl (q_sub.cons rfl (q_sub.cons rfl (q_sub.cons rfl q_sub.nil)))))) ?_
      have e : f_sr (n_un n r) (n_rch n m r) (k + 1) row b = f_sr (n_un n r) (n_rch n m r) k (row + 1) b := by
        rw [f_sr]
        exact congrArg (f_sr (n_un n r) (n_rch n m r) k (row + 1)) (n_few0 (Or.inr (fun z => (Int32.not_lt.mpr hc0) ((n_fewlt hul2 hb (fun x => by have := n_un_le n r x; omega)).mpr z))))
      rw [e, q_succ]
      exact q_EV.imp (ih (row + 1) b (s_row_ 76 (f_md n row) n (s_start g)) (by omega) (w_st_sm hfr1 h5 hs) (fun p hp => by rw [hfr1.1 71 (by omega)]; exact hg p hp) hb) (fun R z => w_po_r hfr1 rfl z)
    · refine q_step 2 132 [(0, .ref 70), (1, .int (Int32.ofNat m)), (2, .int (0 : Int32)), (3, .int (e_few b)), (4, .int (e_fnd b)), (5, .int (Int32.ofNat row)), (6, .int (Int32.ofNat (n_un n r row))), (7, .int (Int32.ofNat n))] [.int (Int32.ofNat m), .ref 70] (s_row_ 76 (f_md n row) n (s_start g)) u (fun big n0 => sg_se_58 big n0 (s_row_ 76 (f_md n row) n (s_start g)) u (Int32.ofNat m) (e_few b) (e_fnd b) (Int32.ofNat row) (Int32.ofNat (n_un n r row)) (Int32.ofNat n)) ?_
      by_cases hc1 : p_rch n m r row = 0
      · refine q_call (M2 := 204) (rest := []) (show q_BS 204 [.ref 70, .int (Int32.ofNat m)] (s_row_ 76 (f_md n row) n (s_start g)) u (some (.int (0 : Int32)), (s_rit n m (s_row_ 76 (f_md n row) n (s_start g))), u) from by
    have e := r_aat (g := (s_row_ 76 (f_md n row) n (s_start g))) u (w_ok_mo (row := row) h) (w_sm_mo hs) hm (fun p hp => (w_st78 h5 hp).trans (hg p hp)) hn hg
    rw [show (if f_at n (s_rit n m (gh_mo n row r)) = f_hav n (gh_mo n row r) then (1 : Int32) else 0) = p_rch n m r row from rfl, hc1] at e
    exact e) (fun _ _ => rfl) ?_
        refine q_step 3 39 [(0, .ref 70), (1, .int (Int32.ofNat m)), (2, .int (0 : Int32)), (3, .int (e_few b)), (4, .int (e_fnd b)), (5, .int ((Int32.ofNat row) + (1 : Int32))), (6, .int (Int32.ofNat (n_un n r row))), (7, .int (Int32.ofNat n))] [] (s_rit n m (s_row_ 76 (f_md n row) n (s_start g))) u (fun big n0 => sg_se_59 big n0 (s_rit n m (s_row_ 76 (f_md n row) n (s_start g))) u (Int32.ofNat m) (e_few b) (e_fnd b) (Int32.ofNat row) (Int32.ofNat (n_un n r row)) (Int32.ofNat n)) ?_
        refine q_weak [(0, .ref 70), (1, .int (Int32.ofNat m)), (2, .int (0 : Int32)), (3, .int (e_few b)), (4, .int (e_fnd b)), (5, .int ((Int32.ofNat row) + (1 : Int32)))] (q_sub.cons rfl (q_sub.cons rfl (q_sub.cons rfl (q_sub.cons rfl (q_sub.cons rfl (q_sub.cons rfl q_sub.nil)))))) ?_
        have e : f_sr (n_un n r) (n_rch n m r) (k + 1) row b = f_sr (n_un n r) (n_rch n m r) k (row + 1) b := by
          rw [f_sr]
          exact congrArg (f_sr (n_un n r) (n_rch n m r) k (row + 1)) (n_few0 (Or.inl (fun z => n_rch_iff.mp z hc1)))
        rw [e, q_succ]
        exact q_EV.imp (ih (row + 1) b (s_rit n m (s_row_ 76 (f_md n row) n (s_start g))) (by omega) (w_st_sm hfr2 h5 hs) (fun p hp => by rw [hfr2.1 71 (by omega)]; exact hg p hp) hb) (fun R z => w_po_r hfr2 rfl z)
      · refine q_call (M2 := 204) (rest := []) (show q_BS 204 [.ref 70, .int (Int32.ofNat m)] (s_row_ 76 (f_md n row) n (s_start g)) u (some (.int (1 : Int32)), (s_rit n m (s_row_ 76 (f_md n row) n (s_start g))), u) from by
    have e := r_aat (g := (s_row_ 76 (f_md n row) n (s_start g))) u (w_ok_mo (row := row) h) (w_sm_mo hs) hm (fun p hp => (w_st78 h5 hp).trans (hg p hp)) hn hg
    rw [show (if f_at n (s_rit n m (gh_mo n row r)) = f_hav n (gh_mo n row r) then (1 : Int32) else 0) = p_rch n m r row from rfl, (p_rch_01 n m r row).resolve_left hc1] at e
    exact e) (fun _ _ => rfl) ?_
        refine q_step 7 39 [(0, .ref 70), (1, .int (Int32.ofNat m)), (2, .int (0 : Int32)), (3, .int (Int32.ofNat (n_un n r row))), (4, .int (Int32.ofNat row)), (5, .int ((Int32.ofNat row) + (1 : Int32))), (6, .int (Int32.ofNat (n_un n r row))), (7, .int (Int32.ofNat n))] [] (s_rit n m (s_row_ 76 (f_md n row) n (s_start g))) u (fun big n0 => sg_se_60 big n0 (s_rit n m (s_row_ 76 (f_md n row) n (s_start g))) u (Int32.ofNat m) (e_few b) (e_fnd b) (Int32.ofNat row) (Int32.ofNat (n_un n r row)) (Int32.ofNat n)) ?_
        refine q_weak [(0, .ref 70), (1, .int (Int32.ofNat m)), (2, .int (0 : Int32)), (3, .int (Int32.ofNat (n_un n r row))), (4, .int (Int32.ofNat row)), (5, .int ((Int32.ofNat row) + (1 : Int32)))] (q_sub.cons rfl (q_sub.cons rfl (q_sub.cons rfl (q_sub.cons rfl (q_sub.cons rfl (q_sub.cons rfl q_sub.nil)))))) ?_
        have e : f_sr (n_un n r) (n_rch n m r) (k + 1) row b = f_sr (n_un n r) (n_rch n m r) k (row + 1) (some (n_un n r row, row)) := by
          rw [f_sr]
          exact congrArg (f_sr (n_un n r) (n_rch n m r) k (row + 1)) (n_few1 (n_rch_iff.mpr hc1) ((n_fewlt hul2 hb (fun x => by have := n_un_le n r x; omega)).mp (Int32.not_le.mp hc0)))
        rw [e, q_succ]
        exact q_EV.imp (ih (row + 1) (some (n_un n r row, row)) (s_rit n m (s_row_ 76 (f_md n row) n (s_start g))) (by omega) (w_st_sm hfr2 h5 hs) (fun p hp => by rw [hfr2.1 71 (by omega)]; exact hg p hp) (fun c x z => by cases z; exact ⟨rfl, by omega⟩)) (fun R z => w_po_r hfr2 rfl z)
theorem r_set0 {n W H : Nat} {g r : qM} (u : qW) (h : w_ok n W H r) (hs : w_sm n (s_start g) r) (h5 : n ≤ 5) {m : Nat} (hm : m ≤ 12) (hg : ∀ p, p < n → g 71 (15 + p) = r 78 p) : w_BS w_fr 201 [.ref 70, .int (Int32.ofNat m), .int (0 : Int32)] g u (.int (f_set0 n r (f_set n m r))) := by
  refine w_bs (mm := m_201) rfl (Nat.le_of_ble_eq_true rfl) rfl ?_
  refine q_step 4 6 [(0, .ref 70), (1, .int (Int32.ofNat m)), (2, .int (0 : Int32))] [.long (12 : Int64), .long (0 : Int64), .long (Int32.toInt64 (Int32.ofNat m))] g u (fun big n0 => sg_se_61 big n0 g u (Int32.ofNat m)) ?_
  refine q_call (M2 := 149) (rest := []) (b_in1 (m := m) (lo := 0) (hi := 12) g u (by omega) (by omega) (by omega)) (fun _ _ => rfl) ?_
  refine q_step 9 39 [(0, .ref 70), (1, .int (Int32.ofNat m)), (2, .int (0 : Int32)), (3, .int (1000000 : Int32)), (4, .int (Int8.toInt32 (Int8.ofInt (-4)))), (5, .int (0 : Int32))] [] g u (fun big n0 => sg_se_62 big n0 g u (Int32.ofNat m)) ?_
  have key := rso_0 u h (m := m) (by omega) h5 (by omega) (s_4n (by omega)) (4 ^ n) 0 none g (by omega) hs hg (fun c x z => by cases z)
  rw [f_sr_so (K := n + 1) (fun y _ => Nat.lt_succ_of_le (n_un_le n r y)), Option.map_map, show ((fun z => z.2) ∘ fun x => (n_un n r x, x)) = (id : Nat → Nat) from rfl, Option.map_id] at key
  exact key
theorem rse_1 {q : Nat} (g : qM) (u : qW) {n m row : Nat} {f d : Int32} (hn : g 70 4 = Int32.ofNat n) (h5 : n ≤ 5) {Q : Option Value × qM × qW → Prop} : ∀ k i a, i + k = n → q_EV m_201 124 [(0, .ref 70), (1, .int (Int32.ofNat m)), (2, .int (Int32.ofNat (10 + q))), (3, .int f), (4, .int d), (5, .int (Int32.ofNat row)), (6, .int (s_ct (p_ust g (Int32.ofNat row)) k i a)), (7, .int (Int32.ofNat n))] [] (s_row_ 76 (f_md n row) n (s_start g)) u Q → q_EV m_201 61 [(0, .ref 70), (1, .int (Int32.ofNat m)), (2, .int (Int32.ofNat (10 + q))), (3, .int f), (4, .int d), (5, .int (Int32.ofNat row)), (6, .int a), (7, .int (Int32.ofNat i))] [] (s_row_ 76 (f_md n row) i (s_start g)) u Q := by
  intro k
  induction k with
  | zero =>
    intro i a hi hk
    have e : n = i := by omega
    subst e
    refine q_step 3 67 [(0, .ref 70), (1, .int (Int32.ofNat m)), (2, .int (Int32.ofNat (10 + q))), (3, .int f), (4, .int d), (5, .int (Int32.ofNat row)), (6, .int a), (7, .int (Int32.ofNat n))] [.int ((s_start g) 70 4), .int (Int32.ofNat n)] (s_row_ 76 (f_md n row) n (s_start g)) u (fun big n0 => sg_se_63 big n0 (s_row_ 76 (f_md n row) n (s_start g)) u (Int32.ofNat m) (Int32.ofNat (10 + q)) f d (Int32.ofNat row) a (Int32.ofNat n)) ?_
    refine q_ic_ge rfl (fun (hc0 : ((s_start g) 70 4) ≤ (Int32.ofNat n)) => ?_) (fun hc0 => absurd (show ((s_start g) 70 4) ≤ (Int32.ofNat n) from by rw [show (s_start g) 70 4 = _ from hn]; exact (q_le (by omega) (by omega)).mpr (by omega)) hc0)
    exact hk
  | succ k ih =>
    intro i a hi hk
    refine q_step 3 67 [(0, .ref 70), (1, .int (Int32.ofNat m)), (2, .int (Int32.ofNat (10 + q))), (3, .int f), (4, .int d), (5, .int (Int32.ofNat row)), (6, .int a), (7, .int (Int32.ofNat i))] [.int ((s_start g) 70 4), .int (Int32.ofNat i)] (s_row_ 76 (f_md n row) i (s_start g)) u (fun big n0 => sg_se_63 big n0 (s_row_ 76 (f_md n row) i (s_start g)) u (Int32.ofNat m) (Int32.ofNat (10 + q)) f d (Int32.ofNat row) a (Int32.ofNat i)) ?_
    refine q_ic_ge rfl (fun hc0 => absurd (show ((s_start g) 70 4) ≤ (Int32.ofNat i) from hc0) (fun z => by rw [show (s_start g) 70 4 = _ from hn] at z; exact absurd ((q_le (by omega) (by omega)).mp z) (by omega))) (fun (hc0 : ¬ (((s_start g) 70 4) ≤ (Int32.ofNat i))) => ?_)
    refine q_step 4 77 [(0, .ref 70), (1, .int (Int32.ofNat m)), (2, .int (Int32.ofNat (10 + q))), (3, .int f), (4, .int d), (5, .int (Int32.ofNat row)), (6, .int a), (7, .int (Int32.ofNat i))] [.int (Int32.ofNat i), .int (Int32.ofNat row), .ref 70, .int a] (s_row_ 76 (f_md n row) i (s_start g)) u (fun big n0 => sg_se_64 big n0 (s_row_ 76 (f_md n row) i (s_start g)) u (Int32.ofNat m) (Int32.ofNat (10 + q)) f d (Int32.ofNat row) a (Int32.ofNat i)) ?_
    refine q_call (M2 := 203) (rest := [.int a]) (b_mby (Int32.ofNat row) (Int32.ofNat i) (s_row_ 76 (f_md n row) i (s_start g)) u) (fun _ _ => rfl) ?_
    refine q_step 5 88 [(0, .ref 70), (1, .int (Int32.ofNat m)), (2, .int (Int32.ofNat (10 + q))), (3, .int f), (4, .int d), (5, .int (Int32.ofNat row)), (6, .int a), (7, .int (Int32.ofNat i))] [.int ((5 : Int32) + (Int32.ofNat i)), .ref 71, .int (s_dg (Int32.ofNat row) (g 70 4) (Int32.ofNat i)), .int a] (s_row_ 76 (f_md n row) i (s_start g)) u (fun big n0 => sg_se_65 big n0 (s_row_ 76 (f_md n row) i (s_start g)) u (Int32.ofNat m) (Int32.ofNat (10 + q)) f d (Int32.ofNat row) a (Int32.ofNat i) a (s_dg (Int32.ofNat row) (g 70 4) (Int32.ofNat i))) ?_
    refine q_iald (j := (5 + i)) (s_rixn (K := 5) (i := i) (by omega)) rfl rfl ?_
    refine q_ic_eq rfl (fun (hc1 : (s_dg (Int32.ofNat row) (g 70 4) (Int32.ofNat i)) = ((s_start g) 71 (5 + i))) => ?_) (fun (hc1 : ¬ ((s_dg (Int32.ofNat row) (g 70 4) (Int32.ofNat i)) = ((s_start g) 71 (5 + i)))) => ?_)
    · refine q_step 1 97 [(0, .ref 70), (1, .int (Int32.ofNat m)), (2, .int (Int32.ofNat (10 + q))), (3, .int f), (4, .int d), (5, .int (Int32.ofNat row)), (6, .int a), (7, .int (Int32.ofNat i))] [.int (0 : Int32), .int a] (s_row_ 76 (f_md n row) i (s_start g)) u (fun big n0 => sg_se_66 big n0 (s_row_ 76 (f_md n row) i (s_start g)) u (Int32.ofNat m) (Int32.ofNat (10 + q)) f d (Int32.ofNat row) a (Int32.ofNat i) a) ?_
      refine q_call (M2 := 164) (rest := [.int a]) (b_flag0 _ _) (fun _ _ => rfl) ?_
      refine q_step 8 114 [(0, .ref 70), (1, .int (Int32.ofNat m)), (2, .int (Int32.ofNat (10 + q))), (3, .int f), (4, .int d), (5, .int (Int32.ofNat row)), (6, .int (a + (0 : Int32))), (7, .int (Int32.ofNat i))] [.int (Int32.ofNat i), .int (Int32.ofNat row), .ref 70, .int (Int32.ofNat i), .ref 76] (s_row_ 76 (f_md n row) i (s_start g)) u (fun big n0 => sg_se_67 big n0 (s_row_ 76 (f_md n row) i (s_start g)) u (Int32.ofNat m) (Int32.ofNat (10 + q)) f d (Int32.ofNat row) a (Int32.ofNat i) a) ?_
      refine q_call (M2 := 203) (rest := [.int (Int32.ofNat i), .ref 76]) (b_mby (Int32.ofNat row) (Int32.ofNat i) (s_row_ 76 (f_md n row) i (s_start g)) u) (fun _ _ => rfl) ?_
      refine q_iast (j := i) (q_ixn (by omega) (by omega)) rfl rfl ?_
      refine q_step 2 61 [(0, .ref 70), (1, .int (Int32.ofNat m)), (2, .int (Int32.ofNat (10 + q))), (3, .int f), (4, .int d), (5, .int (Int32.ofNat row)), (6, .int (a + (0 : Int32))), (7, .int ((Int32.ofNat i) + (1 : Int32)))] [] (q_up (s_row_ 76 (f_md n row) i (s_start g)) 76 i (s_dg (Int32.ofNat row) (g 70 4) (Int32.ofNat i))) u (fun big n0 => sg_se_68 big n0 (q_up (s_row_ 76 (f_md n row) i (s_start g)) 76 i (s_dg (Int32.ofNat row) (g 70 4) (Int32.ofNat i))) u (Int32.ofNat m) (Int32.ofNat (10 + q)) f d (Int32.ofNat row) (a + (0 : Int32)) (Int32.ofNat i)) ?_
      rw [s_ct_s (P := p_ust g (Int32.ofNat row)) (i := i) (by unfold p_ust; exact if_pos hc1)] at hk
      rw [q_succ, show (q_up (s_row_ 76 (f_md n row) i (s_start g)) 76 i (s_dg (Int32.ofNat row) (g 70 4) (Int32.ofNat i))) = (s_row_ 76 (f_md n row) (i + 1) (s_start g)) from by
        rw [hn]
        exact s_row_s]
      exact ih (i + 1) _ (by omega) hk
    · refine q_step 2 97 [(0, .ref 70), (1, .int (Int32.ofNat m)), (2, .int (Int32.ofNat (10 + q))), (3, .int f), (4, .int d), (5, .int (Int32.ofNat row)), (6, .int a), (7, .int (Int32.ofNat i))] [.int (1 : Int32), .int a] (s_row_ 76 (f_md n row) i (s_start g)) u (fun big n0 => sg_se_69 big n0 (s_row_ 76 (f_md n row) i (s_start g)) u (Int32.ofNat m) (Int32.ofNat (10 + q)) f d (Int32.ofNat row) a (Int32.ofNat i) a) ?_
      refine q_call (M2 := 164) (rest := [.int a]) (b_flag1 _ _) (fun _ _ => rfl) ?_
      refine q_step 8 114 [(0, .ref 70), (1, .int (Int32.ofNat m)), (2, .int (Int32.ofNat (10 + q))), (3, .int f), (4, .int d), (5, .int (Int32.ofNat row)), (6, .int (a + (1 : Int32))), (7, .int (Int32.ofNat i))] [.int (Int32.ofNat i), .int (Int32.ofNat row), .ref 70, .int (Int32.ofNat i), .ref 76] (s_row_ 76 (f_md n row) i (s_start g)) u (fun big n0 => sg_se_70 big n0 (s_row_ 76 (f_md n row) i (s_start g)) u (Int32.ofNat m) (Int32.ofNat (10 + q)) f d (Int32.ofNat row) a (Int32.ofNat i) a) ?_
      refine q_call (M2 := 203) (rest := [.int (Int32.ofNat i), .ref 76]) (b_mby (Int32.ofNat row) (Int32.ofNat i) (s_row_ 76 (f_md n row) i (s_start g)) u) (fun _ _ => rfl) ?_
      refine q_iast (j := i) (q_ixn (by omega) (by omega)) rfl rfl ?_
      refine q_step 2 61 [(0, .ref 70), (1, .int (Int32.ofNat m)), (2, .int (Int32.ofNat (10 + q))), (3, .int f), (4, .int d), (5, .int (Int32.ofNat row)), (6, .int (a + (1 : Int32))), (7, .int ((Int32.ofNat i) + (1 : Int32)))] [] (q_up (s_row_ 76 (f_md n row) i (s_start g)) 76 i (s_dg (Int32.ofNat row) (g 70 4) (Int32.ofNat i))) u (fun big n0 => sg_se_68 big n0 (q_up (s_row_ 76 (f_md n row) i (s_start g)) 76 i (s_dg (Int32.ofNat row) (g 70 4) (Int32.ofNat i))) u (Int32.ofNat m) (Int32.ofNat (10 + q)) f d (Int32.ofNat row) (a + (1 : Int32)) (Int32.ofNat i)) ?_
      rw [s_ct_s (P := p_ust g (Int32.ofNat row)) (i := i) (by unfold p_ust; exact if_neg hc1)] at hk
      rw [q_succ, show (q_up (s_row_ 76 (f_md n row) i (s_start g)) 76 i (s_dg (Int32.ofNat row) (g 70 4) (Int32.ofNat i))) = (s_row_ 76 (f_md n row) (i + 1) (s_start g)) from by
        rw [hn]
        exact s_row_s]
      exact ih (i + 1) _ (by omega) hk
theorem rso_1 {q : Nat} (u : qW) {n W H m : Nat} {r : qM} (h : w_ok n W H r) (hm : m ≤ 60) (h5 : n ≤ 5) (h6 : n ≤ 6) (h4n : 4 ^ n ≤ 4096) (hq : q < n) : ∀ k row b g, row + k = 4 ^ n → w_sm n (s_start g) r → (∀ p, p < n → g 71 (15 + p) = r 78 p) → (∀ c x, b = some (c, x) → c = n_un n r x ∧ x < 4 ^ n) → q_EV m_201 39 [(0, .ref 70), (1, .int (Int32.ofNat m)), (2, .int (Int32.ofNat (10 + q))), (3, .int (e_few b)), (4, .int (e_fnd b)), (5, .int (Int32.ofNat row))] [] g u (w_po w_fr g (.int (f_setp n q ((f_sr (n_un n r) (n_rch n m r) k row b).map (fun z => z.2))))) := by
  intro k
  induction k with
  | zero =>
    intro row b g hrow hs hg hb
    have hn : g 70 4 = Int32.ofNat n := w_pl h hs
    refine q_step 3 45 [(0, .ref 70), (1, .int (Int32.ofNat m)), (2, .int (Int32.ofNat (10 + q))), (3, .int (e_few b)), (4, .int (e_fnd b)), (5, .int (Int32.ofNat row))] [.int (g 70 4), .int (Int32.ofNat row)] g u (fun big n0 => sg_se_71 big n0 g u (Int32.ofNat m) (Int32.ofNat (10 + q)) (e_few b) (e_fnd b) (Int32.ofNat row)) ?_
    refine q_call (M2 := 202) (rest := [.int (Int32.ofNat row)]) (b_rrows _ _ _) (fun _ _ => rfl) ?_
    refine q_ic_ge rfl (fun (hc0 : (s_rows (g 70 4)) ≤ (Int32.ofNat row)) => ?_) (fun hc0 => absurd (show (s_rows (g 70 4)) ≤ (Int32.ofNat row) from by rw [hn, s_rows_n h6]; exact (q_le (by omega) (by omega)).mpr (by omega)) hc0)
    cases b with
    | none => 
      refine q_ret 6 (some (.int (Int8.toInt32 (Int8.ofInt (-4)))), g, u) (fun _ _ => rfl) ?_
      exact ⟨g, u, rfl, w_fr_rfl g⟩
    | some z => 
      obtain ⟨c, x⟩ := z
      have hbx := hb c x rfl
      refine q_step 2 155 [(0, .ref 70), (1, .int (Int32.ofNat m)), (2, .int (Int32.ofNat (10 + q))), (3, .int (Int32.ofNat c)), (4, .int (Int32.ofNat x)), (5, .int (Int32.ofNat row))] [.int (Int8.toInt32 (Int8.ofInt (-4))), .int (Int32.ofNat x)] g u (fun big n0 => sg_se_72 big n0 g u (Int32.ofNat m) (Int32.ofNat (10 + q)) (Int32.ofNat c) (Int32.ofNat x) (Int32.ofNat row)) ?_
      refine q_ic_ne rfl (fun hc0 => absurd (show (Int32.ofNat x) = (Int8.toInt32 (Int8.ofInt (-4))) from hc0) (q_none_ne (by omega))) (fun (hc0 : ¬ ((Int32.ofNat x) = (Int8.toInt32 (Int8.ofInt (-4))))) => ?_)
      refine q_step 1 164 [(0, .ref 70), (1, .int (Int32.ofNat m)), (2, .int (Int32.ofNat (10 + q))), (3, .int (Int32.ofNat c)), (4, .int (Int32.ofNat x)), (5, .int (Int32.ofNat row))] [.int (Int32.ofNat (10 + q))] g u (fun big n0 => sg_se_73 big n0 g u (Int32.ofNat m) (Int32.ofNat (10 + q)) (Int32.ofNat c) (Int32.ofNat x) (Int32.ofNat row)) ?_
      refine q_if_ne rfl (fun hc1 => absurd (show (Int32.ofNat (10 + q)) = 0 from hc1) (fun z => absurd ((q_eq (i := 10 + q) (j := 0) (by omega) (by omega)).mp z) (by omega))) (fun (hc1 : ¬ ((Int32.ofNat (10 + q)) = 0)) => ?_)
      refine q_step 5 178 [(0, .ref 70), (1, .int (Int32.ofNat m)), (2, .int (Int32.ofNat (10 + q))), (3, .int (Int32.ofNat c)), (4, .int (Int32.ofNat x)), (5, .int (Int32.ofNat row))] [.int ((Int32.ofNat (10 + q)) - (10 : Int32)), .int (Int32.ofNat x), .ref 70] g u (fun big n0 => sg_se_74 big n0 g u (Int32.ofNat m) (Int32.ofNat (10 + q)) (Int32.ofNat c) (Int32.ofNat x) (Int32.ofNat row)) ?_
      have hmb := b_mby (Int32.ofNat x) ((Int32.ofNat (10 + q)) - (10 : Int32)) g u
      rw [show s_dg (Int32.ofNat x) (g 70 4) ((Int32.ofNat (10 + q)) - (10 : Int32)) = f_md n x q from by
      rw [hn, show (Int32.ofNat (10 + q)) - (10 : Int32) = Int32.ofNat q from by rw [show (10 : Int32) = Int32.ofNat 10 from rfl, q_sb (by omega) (by omega)]; congr 1; omega]
      rfl] at hmb
      refine q_call (M2 := 203) (rest := []) (hmb) (fun _ _ => rfl) ?_
      refine q_ret 1 (some (.int (f_md n x q)), g, u) (fun _ _ => rfl) ?_
      exact ⟨g, u, rfl, w_fr_rfl g⟩
  | succ k ih =>
    intro row b g hrow hs hg hb
    have hn : g 70 4 = Int32.ofNat n := w_pl h hs
    refine q_step 3 45 [(0, .ref 70), (1, .int (Int32.ofNat m)), (2, .int (Int32.ofNat (10 + q))), (3, .int (e_few b)), (4, .int (e_fnd b)), (5, .int (Int32.ofNat row))] [.int (g 70 4), .int (Int32.ofNat row)] g u (fun big n0 => sg_se_71 big n0 g u (Int32.ofNat m) (Int32.ofNat (10 + q)) (e_few b) (e_fnd b) (Int32.ofNat row)) ?_
    refine q_call (M2 := 202) (rest := [.int (Int32.ofNat row)]) (b_rrows _ _ _) (fun _ _ => rfl) ?_
    refine q_ic_ge rfl (fun hc0 => absurd (show (s_rows (g 70 4)) ≤ (Int32.ofNat row) from hc0) (fun z => by rw [hn, s_rows_n h6] at z; exact absurd ((q_le (by omega) (by omega)).mp z) (by omega))) (fun (hc0 : ¬ ((s_rows (g 70 4)) ≤ (Int32.ofNat row))) => ?_)
    refine q_step 3 55 [(0, .ref 70), (1, .int (Int32.ofNat m)), (2, .int (Int32.ofNat (10 + q))), (3, .int (e_few b)), (4, .int (e_fnd b)), (5, .int (Int32.ofNat row)), (6, .int (0 : Int32))] [.ref 70] g u (fun big n0 => sg_se_75 big n0 g u (Int32.ofNat m) (Int32.ofNat (10 + q)) (e_few b) (e_fnd b) (Int32.ofNat row)) ?_
    refine q_call (M2 := 172) (rest := []) (b_starts g u) (fun _ _ => rfl) ?_
    refine q_step 2 61 [(0, .ref 70), (1, .int (Int32.ofNat m)), (2, .int (Int32.ofNat (10 + q))), (3, .int (e_few b)), (4, .int (e_fnd b)), (5, .int (Int32.ofNat row)), (6, .int (0 : Int32)), (7, .int (0 : Int32))] [] (s_start g) u (fun big n0 => sg_se_76 big n0 (s_start g) u (Int32.ofNat m) (Int32.ofNat (10 + q)) (e_few b) (e_fnd b) (Int32.ofNat row)) ?_
    have hct : s_ct (p_ust g (Int32.ofNat row)) n 0 0 = Int32.ofNat (n_un n r row) := (s_ct_cg n 0 0 (fun p _ hp => w_ust h hs h5 p (by omega))).trans (s_ct_n (p_un_01 n r row) n 0 0)
    have hul := n_un_le n r row
    have key := rse_1 (q := q) g u (m := m) (row := row) (f := e_few b) (d := e_fnd b) hn h5 (Q := w_po w_fr g (.int (f_setp n q ((f_sr (n_un n r) (n_rch n m r) (k + 1) row b).map (fun z => z.2))))) n 0 0 (by omega)
    rw [s_row_0, hct] at key
    refine key ?_
    have hul2 : n_un n r row < 1000 := by omega
    have hfr1 : w_fr g (s_row_ 76 (f_md n row) n (s_start g)) := s_start_fr.trans ⟨fun b hb => s_row_o (by omega), fun j _ => by rw [s_row_o (by omega)]⟩
    have hfr2 : w_fr g (s_rit n m (s_row_ 76 (f_md n row) n (s_start g))) := hfr1.trans (w_rit_fr m _)
    refine q_step 2 127 [(0, .ref 70), (1, .int (Int32.ofNat m)), (2, .int (Int32.ofNat (10 + q))), (3, .int (e_few b)), (4, .int (e_fnd b)), (5, .int (Int32.ofNat row)), (6, .int (Int32.ofNat (n_un n r row))), (7, .int (Int32.ofNat n))] [.int (e_few b), .int (Int32.ofNat (n_un n r row))] (s_row_ 76 (f_md n row) n (s_start g)) u (fun big n0 => sg_se_77 big n0 (s_row_ 76 (f_md n row) n (s_start g)) u (Int32.ofNat m) (Int32.ofNat (10 + q)) (e_few b) (e_fnd b) (Int32.ofNat row) (Int32.ofNat (n_un n r row)) (Int32.ofNat n)) ?_
    refine q_ic_ge rfl (fun (hc0 : (e_few b) ≤ (Int32.ofNat (n_un n r row))) => ?_) (fun (hc0 : ¬ ((e_few b) ≤ (Int32.ofNat (n_un n r row)))) => ?_)
    · refine q_step 2 39 [(0, .ref 70), (1, .int (Int32.ofNat m)), (2, .int (Int32.ofNat (10 + q))), (3, .int (e_few b)), (4, .int (e_fnd b)), (5, .int ((Int32.ofNat row) + (1 : Int32))), (6, .int (Int32.ofNat (n_un n r row))), (7, .int (Int32.ofNat n))] [] (s_row_ 76 (f_md n row) n (s_start g)) u (fun big n0 => sg_se_78 big n0 (s_row_ 76 (f_md n row) n (s_start g)) u (Int32.ofNat m) (Int32.ofNat (10 + q)) (e_few b) (e_fnd b) (Int32.ofNat row) (Int32.ofNat (n_un n r row)) (Int32.ofNat n)) ?_
      refine q_weak [(0, .ref 70), (1, .int (Int32.ofNat m)), (2, .int (Int32.ofNat (10 + q))), (3, .int (e_few b)), (4, .int (e_fnd b)), (5, .int ((Int32.ofNat row) + (1 : Int32)))] (q_sub.cons rfl (q_sub.cons rfl (q_sub.cons rfl (q_sub.cons rfl (q_sub.cons rfl (q_sub.cons rfl q_sub.nil)))))) ?_
      have e : f_sr (n_un n r) (n_rch n m r) (k + 1) row b = f_sr (n_un n r) (n_rch n m r) k (row + 1) b := by
        rw [f_sr]
        exact congrArg (f_sr (n_un n r) (n_rch n m r) k (row + 1)) (n_few0 (Or.inr (fun z => (Int32.not_lt.mpr hc0) ((n_fewlt hul2 hb (fun x => by have := n_un_le n r x; omega)).mpr z))))
      rw [e, q_succ]
      exact q_EV.imp (ih (row + 1) b (s_row_ 76 (f_md n row) n (s_start g)) (by omega) (w_st_sm hfr1 h5 hs) (fun p hp => by rw [hfr1.1 71 (by omega)]; exact hg p hp) hb) (fun R z => w_po_r hfr1 rfl z)
    · refine q_step 2 132 [(0, .ref 70), (1, .int (Int32.ofNat m)), (2, .int (Int32.ofNat (10 + q))), (3, .int (e_few b)), (4, .int (e_fnd b)), (5, .int (Int32.ofNat row)), (6, .int (Int32.ofNat (n_un n r row))), (7, .int (Int32.ofNat n))] [.int (Int32.ofNat m), .ref 70] (s_row_ 76 (f_md n row) n (s_start g)) u (fun big n0 => sg_se_79 big n0 (s_row_ 76 (f_md n row) n (s_start g)) u (Int32.ofNat m) (Int32.ofNat (10 + q)) (e_few b) (e_fnd b) (Int32.ofNat row) (Int32.ofNat (n_un n r row)) (Int32.ofNat n)) ?_
      by_cases hc1 : p_rch n m r row = 0
      · refine q_call (M2 := 204) (rest := []) (show q_BS 204 [.ref 70, .int (Int32.ofNat m)] (s_row_ 76 (f_md n row) n (s_start g)) u (some (.int (0 : Int32)), (s_rit n m (s_row_ 76 (f_md n row) n (s_start g))), u) from by
    have e := r_aat (g := (s_row_ 76 (f_md n row) n (s_start g))) u (w_ok_mo (row := row) h) (w_sm_mo hs) hm (fun p hp => (w_st78 h5 hp).trans (hg p hp)) hn hg
    rw [show (if f_at n (s_rit n m (gh_mo n row r)) = f_hav n (gh_mo n row r) then (1 : Int32) else 0) = p_rch n m r row from rfl, hc1] at e
    exact e) (fun _ _ => rfl) ?_
        refine q_step 3 39 [(0, .ref 70), (1, .int (Int32.ofNat m)), (2, .int (Int32.ofNat (10 + q))), (3, .int (e_few b)), (4, .int (e_fnd b)), (5, .int ((Int32.ofNat row) + (1 : Int32))), (6, .int (Int32.ofNat (n_un n r row))), (7, .int (Int32.ofNat n))] [] (s_rit n m (s_row_ 76 (f_md n row) n (s_start g))) u (fun big n0 => sg_se_80 big n0 (s_rit n m (s_row_ 76 (f_md n row) n (s_start g))) u (Int32.ofNat m) (Int32.ofNat (10 + q)) (e_few b) (e_fnd b) (Int32.ofNat row) (Int32.ofNat (n_un n r row)) (Int32.ofNat n)) ?_
        refine q_weak [(0, .ref 70), (1, .int (Int32.ofNat m)), (2, .int (Int32.ofNat (10 + q))), (3, .int (e_few b)), (4, .int (e_fnd b)), (5, .int ((Int32.ofNat row) + (1 : Int32)))] (q_sub.cons rfl (q_sub.cons rfl (q_sub.cons rfl (q_sub.cons rfl (q_sub.cons rfl (q_sub.cons rfl q_sub.nil)))))) ?_
        have e : f_sr (n_un n r) (n_rch n m r) (k + 1) row b = f_sr (n_un n r) (n_rch n m r) k (row + 1) b := by
          rw [f_sr]
          exact congrArg (f_sr (n_un n r) (n_rch n m r) k (row + 1)) (n_few0 (Or.inl (fun z => n_rch_iff.mp z hc1)))
        rw [e, q_succ]
        exact q_EV.imp (ih (row + 1) b (s_rit n m (s_row_ 76 (f_md n row) n (s_start g))) (by omega) (w_st_sm hfr2 h5 hs) (fun p hp => by rw [hfr2.1 71 (by omega)]; exact hg p hp) hb) (fun R z => w_po_r hfr2 rfl z)
      · refine q_call (M2 := 204) (rest := []) (show q_BS 204 [.ref 70, .int (Int32.ofNat m)] (s_row_ 76 (f_md n row) n (s_start g)) u (some (.int (1 : Int32)), (s_rit n m (s_row_ 76 (f_md n row) n (s_start g))), u) from by
    have e := r_aat (g := (s_row_ 76 (f_md n row) n (s_start g))) u (w_ok_mo (row := row) h) (w_sm_mo hs) hm (fun p hp => (w_st78 h5 hp).trans (hg p hp)) hn hg
    rw [show (if f_at n (s_rit n m (gh_mo n row r)) = f_hav n (gh_mo n row r) then (1 : Int32) else 0) = p_rch n m r row from rfl, (p_rch_01 n m r row).resolve_left hc1] at e
    exact e) (fun _ _ => rfl) ?_
        refine q_step 7 39 [(0, .ref 70), (1, .int (Int32.ofNat m)), (2, .int (Int32.ofNat (10 + q))), (3, .int (Int32.ofNat (n_un n r row))), (4, .int (Int32.ofNat row)), (5, .int ((Int32.ofNat row) + (1 : Int32))), (6, .int (Int32.ofNat (n_un n r row))), (7, .int (Int32.ofNat n))] [] (s_rit n m (s_row_ 76 (f_md n row) n (s_start g))) u (fun big n0 => sg_se_81 big n0 (s_rit n m (s_row_ 76 (f_md n row) n (s_start g))) u (Int32.ofNat m) (Int32.ofNat (10 + q)) (e_few b) (e_fnd b) (Int32.ofNat row) (Int32.ofNat (n_un n r row)) (Int32.ofNat n)) ?_
        refine q_weak [(0, .ref 70), (1, .int (Int32.ofNat m)), (2, .int (Int32.ofNat (10 + q))), (3, .int (Int32.ofNat (n_un n r row))), (4, .int (Int32.ofNat row)), (5, .int ((Int32.ofNat row) + (1 : Int32)))] (q_sub.cons rfl (q_sub.cons rfl (q_sub.cons rfl (q_sub.cons rfl (q_sub.cons rfl (q_sub.cons rfl q_sub.nil)))))) ?_
        have e : f_sr (n_un n r) (n_rch n m r) (k + 1) row b = f_sr (n_un n r) (n_rch n m r) k (row + 1) (some (n_un n r row, row)) := by
          rw [f_sr]
          exact congrArg (f_sr (n_un n r) (n_rch n m r) k (row + 1)) (n_few1 (n_rch_iff.mpr hc1) ((n_fewlt hul2 hb (fun x => by have := n_un_le n r x; omega)).mp (Int32.not_le.mp hc0)))
        rw [e, q_succ]
        exact q_EV.imp (ih (row + 1) (some (n_un n r row, row)) (s_rit n m (s_row_ 76 (f_md n row) n (s_start g))) (by omega) (w_st_sm hfr2 h5 hs) (fun p hp => by rw [hfr2.1 71 (by omega)]; exact hg p hp) (fun c x z => by cases z; exact ⟨rfl, by omega⟩)) (fun R z => w_po_r hfr2 rfl z)
theorem r_set1 {n W H : Nat} {g r : qM} (u : qW) (h : w_ok n W H r) (hs : w_sm n (s_start g) r) (h5 : n ≤ 5) {m : Nat} (hm : m ≤ 12) (hg : ∀ p, p < n → g 71 (15 + p) = r 78 p) {q : Nat} (hq : q < n) : w_BS w_fr 201 [.ref 70, .int (Int32.ofNat m), .int (Int32.ofNat (10 + q))] g u (.int (f_setp n q (f_set n m r))) := by
  refine w_bs (mm := m_201) rfl (Nat.le_of_ble_eq_true rfl) rfl ?_
  refine q_step 4 6 [(0, .ref 70), (1, .int (Int32.ofNat m)), (2, .int (Int32.ofNat (10 + q)))] [.long (12 : Int64), .long (0 : Int64), .long (Int32.toInt64 (Int32.ofNat m))] g u (fun big n0 => sg_se_82 big n0 g u (Int32.ofNat m) (Int32.ofNat (10 + q))) ?_
  refine q_call (M2 := 149) (rest := []) (b_in1 (m := m) (lo := 0) (hi := 12) g u (by omega) (by omega) (by omega)) (fun _ _ => rfl) ?_
  refine q_step 2 13 [(0, .ref 70), (1, .int (Int32.ofNat m)), (2, .int (Int32.ofNat (10 + q)))] [.int (Int32.ofNat (10 + q))] g u (fun big n0 => sg_se_83 big n0 g u (Int32.ofNat m) (Int32.ofNat (10 + q))) ?_
  refine q_if_eq rfl (fun hc0 => absurd (show (Int32.ofNat (10 + q)) = 0 from hc0) (fun z => absurd ((q_eq (i := 10 + q) (j := 0) (by omega) (by omega)).mp z) (by omega))) (fun (hc0 : ¬ ((Int32.ofNat (10 + q)) = 0)) => ?_)
  refine q_step 4 21 [(0, .ref 70), (1, .int (Int32.ofNat m)), (2, .int (Int32.ofNat (10 + q)))] [.int ((Int32.ofNat (10 + q)) - (10 : Int32)), .ref 70] g u (fun big n0 => sg_se_84 big n0 g u (Int32.ofNat m) (Int32.ofNat (10 + q))) ?_
  refine q_call (M2 := 169) (rest := []) (by rw [show (Int32.ofNat (10 + q)) - (10 : Int32) = Int32.ofNat q from by rw [show (10 : Int32) = Int32.ofNat 10 from rfl, q_sb (by omega) (by omega)]; congr 1; omega]; exact b_risOne1 g u (w_pl h hs) (by omega) hq) (fun _ _ => rfl) ?_
  refine q_step 7 39 [(0, .ref 70), (1, .int (Int32.ofNat m)), (2, .int (Int32.ofNat (10 + q))), (3, .int (1000000 : Int32)), (4, .int (Int8.toInt32 (Int8.ofInt (-4)))), (5, .int (0 : Int32))] [] g u (fun big n0 => sg_se_85 big n0 g u (Int32.ofNat m) (Int32.ofNat (10 + q))) ?_
  have key := rso_1 u h (m := m) (by omega) h5 (by omega) (s_4n (by omega)) hq (4 ^ n) 0 none g (by omega) hs hg (fun c x z => by cases z)
  rw [f_sr_so (K := n + 1) (fun y _ => Nat.lt_succ_of_le (n_un_le n r y)), Option.map_map, show ((fun z => z.2) ∘ fun x => (n_un n r x, x)) = (id : Nat → Nat) from rfl, Option.map_id] at key
  exact key
end
section
/-! NURSE. -/
theorem w_ok_md {n W H p : Nat} {x : Int32} {r : qM} (h : w_ok n W H r) (hx : x = 0 ∨ x = 1 ∨ x = 2 ∨ x = 3) : w_ok n W H (q_up r 76 p x) := by
  obtain ⟨b, h1, h2, h3, h4, h5, h6, h7, h8⟩ := h
  refine ⟨b, h1, h2, h3, h4, h5, h6, fun q hq => ?_, h8⟩
  rw [q_up_at]
  split
  · exact hx
  · exact h7 q hq
theorem w_cs_md {n p : Nat} {x : Int32} {g r : qM} (hc : w_cs 35 n g r) : w_cs 35 n (q_up g 37 p x) (q_up r 76 p x) := by
  obtain ⟨c1, c6, c7⟩ := hc
  refine ⟨c1, fun d a b => c6 d a b, fun q hq => ⟨(c7 q hq).1, ?_, (c7 q hq).2.2⟩⟩
  rw [q_up_at, q_up_at, show g 37 q = r 76 q from (c7 q hq).2.1]
theorem w_sm_md {n p : Nat} {x : Int32} {g r : qM} (hs : w_sm n g r) : w_sm n (q_up g 76 p x) (q_up r 76 p x) := by
  obtain ⟨c1, c6, c7⟩ := hs
  refine ⟨c1, fun d a b => c6 d a b, fun q hq => ⟨(c7 q hq).1, ?_, (c7 q hq).2.2⟩⟩
  rw [q_up_at, q_up_at, (c7 q hq).2.1]
theorem w_tr_m {n p : Nat} {x : Int32} {g r : qM} (h : w_tr n g r) : w_tr n (q_up g 37 p x) r := h
/-- k STEPS from i on, his MOOD set ahead of each -/
def f_nu (n p row s : Nat) : Nat → Nat → qM → qM
  | 0, _, r => r
  | k + 1, i, r => f_nu n p row s k (i + 1) (s_rst n (q_up r 76 p (f_md s row i)))
theorem w_ok_nu {n W H p row s : Nat} : ∀ k i r, w_ok n W H r → w_ok n W H (f_nu n p row s k i r)
  | 0, _, _, h => h
  | k + 1, i, _, h => w_ok_nu k (i + 1) _ (w_ok_rst (w_ok_md h (s_dg_4 _ _ _)))
/-- how far two are -/
def f_far (r : qM) (a b : Nat) : Int32 := s_far (r 70 2) (r 75 b) (r 75 a)
def n_nur (n p a b : Nat) (r : qM) (s row : Nat) : Nat := if (1 : Int32) < f_far (f_nu n p row s s 0 r) a b then 1 else 0
def f_fi (R : Nat → Nat) : Nat → Nat → Option Nat
  | 0, _ => none
  | k + 1, row => if R row = 0 then f_fi R k (row + 1) else some row
def f_nof (R : Nat → Nat → Nat) : Nat → Nat → Option (Nat × Nat)
  | 0, _ => none
  | k + 1, s => match f_fi (R s) (4 ^ s) 0 with
    | some row => some (s, row)
    | none => f_nof R k (s + 1)
theorem f_fi_lt {R : Nat → Nat} : ∀ k row x, f_fi R k row = some x → x < row + k
  | 0, _, _, h => by cases h
  | k + 1, row, x, h => by
    unfold f_fi at h
    split at h
    · have := f_fi_lt k (row + 1) x h
      omega
    · cases h
      omega
theorem f_nof_lt {R : Nat → Nat → Nat} : ∀ k s a b, f_nof R k s = some (a, b) → a < s + k ∧ b < 4 ^ a
  | 0, _, _, _, h => by cases h
  | k + 1, s, a, b, h => by
    unfold f_nof at h
    split at h
    · rename_i row hr
      cases h
      have := f_fi_lt _ _ _ hr
      exact ⟨by omega, by omega⟩
    · have := f_nof_lt k (s + 1) a b h
      exact ⟨by omega, this.2⟩
def f_nur (n p a b : Nat) (r : qM) : Option (Nat × Nat) := f_nof (n_nur n p a b r) 5 0
/-- what nurse() answers: w 0, or 10 and i -/
def f_nuw (w : Nat) : Option (Nat × Nat) → Int32
  | none => i_none
  | some (s, row) => if w = 0 then Int32.ofNat s else if w - 10 < s then f_md s row (w - 10) else i_none
theorem s_44 {s : Nat} (h : s ≤ 4) : 4 ^ s ≤ 256 := Nat.pow_le_pow_right (n := 4) (by omega) h
theorem n_nur_iff {n p a b : Nat} {r : qM} {s row : Nat} : n_nur n p a b r s row = 0 ↔ f_far (f_nu n p row s s 0 r) a b ≤ 1 := by
  unfold n_nur
  split
  · rename_i h
    exact ⟨fun z => absurd z (by decide), fun z => absurd h (Int32.not_lt.mpr z)⟩
  · rename_i h
    exact ⟨fun _ => Int32.not_lt.mp h, fun _ => rfl⟩
theorem f_nuw_y {w s row : Nat} (h0 : w ≠ 0) (h : w - 10 < s) : f_nuw w (some (s, row)) = f_md s row (w - 10) := by
  show (if w = 0 then Int32.ofNat s else if w - 10 < s then f_md s row (w - 10) else i_none) = _
  rw [if_neg h0, if_pos h]
theorem f_nuw_n {w s row : Nat} (h0 : w ≠ 0) (h : ¬ w - 10 < s) : f_nuw w (some (s, row)) = i_none := by
  show (if w = 0 then Int32.ofNat s else if w - 10 < s then f_md s row (w - 10) else i_none) = _
  rw [if_neg h0, if_neg h]
theorem sg_nu_1 (big : Nat → List Value → qM → qW → qR) (n0 : Nat) (G : qM) (U : qW) (v0 : Int32) (v1 : Int32) : qm_run pm_m big m_109 (n0 + 4) 0 [(0, .ref 35), (1, .int v0), (2, .int v1)] [] G U = qm_run pm_m big m_109 n0 6 [(0, .ref 35), (1, .int v0), (2, .int v1)] [.int v0, .ref 36, .ref 35] G U := rfl
theorem sg_nu_2 (big : Nat → List Value → qM → qW → qR) (n0 : Nat) (G : qM) (U : qW) (v0 : Int32) (v1 : Int32) (v2 : Int32) : qm_run pm_m big m_109 (n0 + 4) 10 [(0, .ref 35), (1, .int v0), (2, .int v1)] [.int v2] G U = qm_run pm_m big m_109 n0 16 [(0, .ref 35), (1, .int v0), (2, .int v1)] [.int v1, .ref 36, .ref 35, .int v2] G U := rfl
theorem sg_nu_3 (big : Nat → List Value → qM → qW → qR) (n0 : Nat) (G : qM) (U : qW) (v0 : Int32) (v1 : Int32) (v2 : Int32) (v3 : Int32) : qm_run pm_m big m_109 (n0 + 1) 20 [(0, .ref 35), (1, .int v0), (2, .int v1)] [.int v3, .int v2] G U = qm_run pm_m big m_109 n0 21 [(0, .ref 35), (1, .int v0), (2, .int v1)] [.int (v2 - v3)] G U := rfl
theorem sg_nu_4 (big : Nat → List Value → qM → qW → qR) (n0 : Nat) (G : qM) (U : qW) (v0 : Int32) (v1 : Int32) (v2 : Int32) : qm_run pm_m big m_109 (n0 + 4) 24 [(0, .ref 35), (1, .int v0), (2, .int v1)] [.int v2] G U = qm_run pm_m big m_109 n0 30 [(0, .ref 35), (1, .int v0), (2, .int v1)] [.int v0, .ref 36, .ref 35, .int v2] G U := rfl
theorem sg_nu_5 (big : Nat → List Value → qM → qW → qR) (n0 : Nat) (G : qM) (U : qW) (v0 : Int32) (v1 : Int32) (v2 : Int32) (v3 : Int32) : qm_run pm_m big m_109 (n0 + 4) 34 [(0, .ref 35), (1, .int v0), (2, .int v1)] [.int v3, .int v2] G U = qm_run pm_m big m_109 n0 40 [(0, .ref 35), (1, .int v0), (2, .int v1)] [.int v1, .ref 36, .ref 35, .int v3, .int v2] G U := rfl
theorem sg_nu_6 (big : Nat → List Value → qM → qW → qR) (n0 : Nat) (G : qM) (U : qW) (v0 : Int32) (v1 : Int32) (v2 : Int32) (v3 : Int32) (v4 : Int32) : qm_run pm_m big m_109 (n0 + 1) 44 [(0, .ref 35), (1, .int v0), (2, .int v1)] [.int v4, .int v3, .int v2] G U = qm_run pm_m big m_109 n0 45 [(0, .ref 35), (1, .int v0), (2, .int v1)] [.int (v3 - v4), .int v2] G U := rfl
theorem sg_nu_7 (big : Nat → List Value → qM → qW → qR) (n0 : Nat) (G : qM) (U : qW) (v0 : Int32) (v1 : Int32) (v2 : Int32) (v3 : Int32) : qm_run pm_m big m_108 (n0 + 2) 11 [(0, .ref 34), (1, .ref 20), (2, .int v0), (3, .int v1), (4, .int v2), (5, .int v3)] [] G U = qm_run pm_m big m_108 n0 15 [(0, .ref 34), (1, .ref 20), (2, .int v0), (3, .int v1), (4, .int v2), (5, .int v3)] [.int v2, .int v3] G U := rfl
theorem sg_nu_8 (big : Nat → List Value → qM → qW → qR) (n0 : Nat) (G : qM) (U : qW) (v0 : Int32) (v1 : Int32) (v2 : Int32) (v3 : Int32) : qm_run pm_m big m_108 (n0 + 7) 18 [(0, .ref 34), (1, .ref 20), (2, .int v0), (3, .int v1), (4, .int v2), (5, .int v3)] [] G U = qm_run pm_m big m_108 n0 31 [(0, .ref 34), (1, .ref 20), (2, .int v0), (3, .int v1), (4, .int v2), (5, .int v3)] [.int v2, .int v3, .int v1, .int v0, .ref 37] G U := rfl
theorem sg_nu_9 (big : Nat → List Value → qM → qW → qR) (n0 : Nat) (G : qM) (U : qW) (v0 : Int32) (v1 : Int32) (v2 : Int32) (v3 : Int32) : qm_run pm_m big m_108 (n0 + 4) 35 [(0, .ref 34), (1, .ref 20), (2, .int v0), (3, .int v1), (4, .int v2), (5, .int v3)] [] G U = qm_run pm_m big m_108 n0 43 [(0, .ref 34), (1, .ref 20), (2, .int v0), (3, .int v1), (4, .int v2), (5, .int v3)] [.ref 35, .ref 28] G U := rfl
theorem sg_nu_10 (big : Nat → List Value → qM → qW → qR) (n0 : Nat) (G : qM) (U : qW) (v0 : Int32) (v1 : Int32) (v2 : Int32) (v3 : Int32) : qm_run pm_m big m_108 (n0 + 2) 46 [(0, .ref 34), (1, .ref 20), (2, .int v0), (3, .int v1), (4, .int v2), (5, .int v3)] [] G U = qm_run pm_m big m_108 n0 11 [(0, .ref 34), (1, .ref 20), (2, .int v0), (3, .int v1), (4, .int v2), (5, .int (v3 + (1 : Int32)))] [] G U := rfl
theorem sg_nu_11 (big : Nat → List Value → qM → qW → qR) (n0 : Nat) (G : qM) (U : qW) (v0 : Int32) (v1 : Int32) (v2 : Int32) : qm_run pm_m big m_108 (n0 + 3) 0 [(0, .ref 34), (1, .ref 20), (2, .int v0), (3, .int v1), (4, .int v2)] [] G U = qm_run pm_m big m_108 n0 5 [(0, .ref 34), (1, .ref 20), (2, .int v0), (3, .int v1), (4, .int v2)] [.ref 20, .ref 35] G U := rfl
theorem sg_nu_12 (big : Nat → List Value → qM → qW → qR) (n0 : Nat) (G : qM) (U : qW) (v0 : Int32) (v1 : Int32) (v2 : Int32) : qm_run pm_m big m_108 (n0 + 2) 8 [(0, .ref 34), (1, .ref 20), (2, .int v0), (3, .int v1), (4, .int v2)] [] G U = qm_run pm_m big m_108 n0 11 [(0, .ref 34), (1, .ref 20), (2, .int v0), (3, .int v1), (4, .int v2), (5, .int (0 : Int32))] [] G U := rfl
theorem sg_nu_13 (big : Nat → List Value → qM → qW → qR) (n0 : Nat) (G : qM) (U : qW) (v0 : Int32) (v1 : Int32) (v2 : Int32) (v3 : Int32) (v4 : Int32) : qm_run pm_m big m_107 (n0 + 2) 20 [(0, .ref 34), (1, .ref 20), (2, .int v0), (3, .int v1), (4, .int v2), (5, .int v3), (6, .int v4)] [] G U = qm_run pm_m big m_107 n0 24 [(0, .ref 34), (1, .ref 20), (2, .int v0), (3, .int v1), (4, .int v2), (5, .int v3), (6, .int v4)] [.int v3, .int v4] G U := rfl
theorem sg_nu_14 (big : Nat → List Value → qM → qW → qR) (n0 : Nat) (G : qM) (U : qW) (v0 : Int32) (v1 : Int32) (v2 : Int32) (v3 : Int32) (v4 : Int32) : qm_run pm_m big m_107 (n0 + 5) 30 [(0, .ref 34), (1, .ref 20), (2, .int v0), (3, .int v1), (4, .int v2), (5, .int v3), (6, .int v4)] [] G U = qm_run pm_m big m_107 n0 37 [(0, .ref 34), (1, .ref 20), (2, .int v0), (3, .int v1), (4, .int v2), (5, .int v3), (6, .int v4)] [.int v3, .int v4, .int v0, .ref 20, .ref 34] G U := rfl
theorem sg_nu_15 (big : Nat → List Value → qM → qW → qR) (n0 : Nat) (G : qM) (U : qW) (v0 : Int32) (v1 : Int32) (v2 : Int32) (v3 : Int32) (v4 : Int32) : qm_run pm_m big m_107 (n0 + 4) 40 [(0, .ref 34), (1, .ref 20), (2, .int v0), (3, .int v1), (4, .int v2), (5, .int v3), (6, .int v4)] [] G U = qm_run pm_m big m_107 n0 47 [(0, .ref 34), (1, .ref 20), (2, .int v0), (3, .int v1), (4, .int v2), (5, .int v3), (6, .int v4)] [.int v2, .int v1, .ref 35] G U := rfl
theorem sg_nu_16 (big : Nat → List Value → qM → qW → qR) (n0 : Nat) (G : qM) (U : qW) (v0 : Int32) (v1 : Int32) (v2 : Int32) (v3 : Int32) (v4 : Int32) (v5 : Int32) : qm_run pm_m big m_107 (n0 + 1) 50 [(0, .ref 34), (1, .ref 20), (2, .int v0), (3, .int v1), (4, .int v2), (5, .int v3), (6, .int v4)] [.int v5] G U = qm_run pm_m big m_107 n0 51 [(0, .ref 34), (1, .ref 20), (2, .int v0), (3, .int v1), (4, .int v2), (5, .int v3), (6, .int v4)] [.int (1 : Int32), .int v5] G U := rfl
theorem sg_nu_17 (big : Nat → List Value → qM → qW → qR) (n0 : Nat) (G : qM) (U : qW) (v0 : Int32) (v1 : Int32) (v2 : Int32) (v3 : Int32) (v4 : Int32) : qm_run pm_m big m_107 (n0 + 2) 64 [(0, .ref 34), (1, .ref 20), (2, .int v0), (3, .int v1), (4, .int v2), (5, .int v3), (6, .int v4)] [] G U = qm_run pm_m big m_107 n0 20 [(0, .ref 34), (1, .ref 20), (2, .int v0), (3, .int v1), (4, .int v2), (5, .int v3), (6, .int (v4 + (1 : Int32)))] [] G U := rfl
theorem sg_nu_18 (big : Nat → List Value → qM → qW → qR) (n0 : Nat) (G : qM) (U : qW) (v0 : Int32) (v1 : Int32) (v2 : Int32) (v3 : Int32) : qm_run pm_m big m_107 (n0 + 2) 11 [(0, .ref 34), (1, .ref 20), (2, .int v0), (3, .int v1), (4, .int v2), (5, .int v3)] [] G U = qm_run pm_m big m_107 n0 14 [(0, .ref 34), (1, .ref 20), (2, .int v0), (3, .int v1), (4, .int v2), (5, .int v3)] [.int (4 : Int32), .int v3] G U := rfl
theorem sg_nu_19 (big : Nat → List Value → qM → qW → qR) (n0 : Nat) (G : qM) (U : qW) (v0 : Int32) (v1 : Int32) (v2 : Int32) (v3 : Int32) : qm_run pm_m big m_107 (n0 + 2) 17 [(0, .ref 34), (1, .ref 20), (2, .int v0), (3, .int v1), (4, .int v2), (5, .int v3)] [] G U = qm_run pm_m big m_107 n0 20 [(0, .ref 34), (1, .ref 20), (2, .int v0), (3, .int v1), (4, .int v2), (5, .int v3), (6, .int (0 : Int32))] [] G U := rfl
theorem sg_nu_20 (big : Nat → List Value → qM → qW → qR) (n0 : Nat) (G : qM) (U : qW) (v0 : Int32) (v1 : Int32) (v2 : Int32) (v3 : Int32) (v4 : Int32) : qm_run pm_m big m_107 (n0 + 2) 70 [(0, .ref 34), (1, .ref 20), (2, .int v0), (3, .int v1), (4, .int v2), (5, .int v3), (6, .int v4)] [] G U = qm_run pm_m big m_107 n0 11 [(0, .ref 34), (1, .ref 20), (2, .int v0), (3, .int v1), (4, .int v2), (5, .int (v3 + (1 : Int32))), (6, .int v4)] [] G U := rfl
theorem sg_nu_21 (big : Nat → List Value → qM → qW → qR) (n0 : Nat) (G : qM) (U : qW) (v0 : Int32) (v1 : Int32) (v2 : Int32) : qm_run pm_m big m_107 (n0 + 3) 0 [(0, .ref 34), (1, .ref 20), (2, .int v0), (3, .int v1), (4, .int v2)] [] G U = qm_run pm_m big m_107 n0 5 [(0, .ref 34), (1, .ref 20), (2, .int v0), (3, .int v1), (4, .int v2)] [.ref 20, .ref 35] G U := rfl
theorem sg_nu_22 (big : Nat → List Value → qM → qW → qR) (n0 : Nat) (G : qM) (U : qW) (v0 : Int32) (v1 : Int32) (v2 : Int32) : qm_run pm_m big m_107 (n0 + 2) 8 [(0, .ref 34), (1, .ref 20), (2, .int v0), (3, .int v1), (4, .int v2)] [] G U = qm_run pm_m big m_107 n0 11 [(0, .ref 34), (1, .ref 20), (2, .int v0), (3, .int v1), (4, .int v2), (5, .int (0 : Int32))] [] G U := rfl
theorem sg_nu_23 (big : Nat → List Value → qM → qW → qR) (n0 : Nat) (G : qM) (U : qW) (v0 : Int32) (v1 : Int32) (v2 : Int32) : qm_run pm_m big m_106 (n0 + 3) 0 [(0, .ref 8), (1, .int v0), (2, .int v1), (3, .int v2), (4, .int (0 : Int32))] [] G U = qm_run pm_m big m_106 n0 5 [(0, .ref 8), (1, .int v0), (2, .int v1), (3, .int v2), (4, .int (0 : Int32))] [.int v0, .ref 20] G U := rfl
theorem sg_nu_24 (big : Nat → List Value → qM → qW → qR) (n0 : Nat) (G : qM) (U : qW) (v0 : Int32) (v1 : Int32) (v2 : Int32) : qm_run pm_m big m_106 (n0 + 4) 8 [(0, .ref 8), (1, .int v0), (2, .int v1), (3, .int v2), (4, .int (0 : Int32))] [.int (1 : Int32)] G U = qm_run pm_m big m_106 n0 16 [(0, .ref 8), (1, .int v0), (2, .int v1), (3, .int v2), (4, .int (0 : Int32))] [.int v1, .ref 20] G U := rfl
theorem sg_nu_25 (big : Nat → List Value → qM → qW → qR) (n0 : Nat) (G : qM) (U : qW) (v0 : Int32) (v1 : Int32) (v2 : Int32) : qm_run pm_m big m_106 (n0 + 4) 19 [(0, .ref 8), (1, .int v0), (2, .int v1), (3, .int v2), (4, .int (0 : Int32))] [.int (1 : Int32)] G U = qm_run pm_m big m_106 n0 27 [(0, .ref 8), (1, .int v0), (2, .int v1), (3, .int v2), (4, .int (0 : Int32))] [.int v2, .ref 20] G U := rfl
theorem sg_nu_26 (big : Nat → List Value → qM → qW → qR) (n0 : Nat) (G : qM) (U : qW) (v0 : Int32) (v1 : Int32) (v2 : Int32) : qm_run pm_m big m_106 (n0 + 3) 30 [(0, .ref 8), (1, .int v0), (2, .int v1), (3, .int v2), (4, .int (0 : Int32))] [.int (1 : Int32)] G U = qm_run pm_m big m_106 n0 35 [(0, .ref 8), (1, .int v0), (2, .int v1), (3, .int v2), (4, .int (0 : Int32))] [.int v1, .int v0] G U := rfl
theorem sg_nu_27 (big : Nat → List Value → qM → qW → qR) (n0 : Nat) (G : qM) (U : qW) (v0 : Int32) (v1 : Int32) (v2 : Int32) : qm_run pm_m big m_106 (n0 + 2) 38 [(0, .ref 8), (1, .int v0), (2, .int v1), (3, .int v2), (4, .int (0 : Int32))] [] G U = qm_run pm_m big m_106 n0 40 [(0, .ref 8), (1, .int v0), (2, .int v1), (3, .int v2), (4, .int (0 : Int32))] [.int v2, .int v0] G U := rfl
theorem sg_nu_28 (big : Nat → List Value → qM → qW → qR) (n0 : Nat) (G : qM) (U : qW) (v0 : Int32) (v1 : Int32) (v2 : Int32) : qm_run pm_m big m_106 (n0 + 2) 43 [(0, .ref 8), (1, .int v0), (2, .int v1), (3, .int v2), (4, .int (0 : Int32))] [] G U = qm_run pm_m big m_106 n0 45 [(0, .ref 8), (1, .int v0), (2, .int v1), (3, .int v2), (4, .int (0 : Int32))] [.int v2, .int v1] G U := rfl
theorem sg_nu_29 (big : Nat → List Value → qM → qW → qR) (n0 : Nat) (G : qM) (U : qW) (v0 : Int32) (v1 : Int32) (v2 : Int32) : qm_run pm_m big m_106 (n0 + 13) 50 [(0, .ref 8), (1, .int v0), (2, .int v1), (3, .int v2), (4, .int (0 : Int32))] [] G U = qm_run pm_m big m_106 n0 88 [(0, .ref 8), (1, .int v0), (2, .int v1), (3, .int v2), (4, .int (0 : Int32)), (5, .int ((0 : Int32) - (10 : Int32)))] [.int v2, .int v1, .int v0, .ref 20, .ref 34] G U := rfl
theorem sg_nu_30 (big : Nat → List Value → qM → qW → qR) (n0 : Nat) (G : qM) (U : qW) (v0 : Int32) (v1 : Int32) (v2 : Int32) (v3 : Int32) : qm_run pm_m big m_106 (n0 + 3) 91 [(0, .ref 8), (1, .int v0), (2, .int v1), (3, .int v2), (4, .int (0 : Int32)), (5, .int ((0 : Int32) - (10 : Int32)))] [.int v3] G U = qm_run pm_m big m_106 n0 97 [(0, .ref 8), (1, .int v0), (2, .int v1), (3, .int v2), (4, .int (0 : Int32)), (5, .int ((0 : Int32) - (10 : Int32))), (6, .int v3)] [.int (Int8.toInt32 (Int8.ofInt (-4))), .int v3] G U := rfl
theorem sg_nu_31 (big : Nat → List Value → qM → qW → qR) (n0 : Nat) (G : qM) (U : qW) (v0 : Int32) (v1 : Int32) (v2 : Int32) (v3 : Int32) : qm_run pm_m big m_106 (n0 + 1) 103 [(0, .ref 8), (1, .int v0), (2, .int v1), (3, .int v2), (4, .int (0 : Int32)), (5, .int ((0 : Int32) - (10 : Int32))), (6, .int v3)] [] G U = qm_run pm_m big m_106 n0 105 [(0, .ref 8), (1, .int v0), (2, .int v1), (3, .int v2), (4, .int (0 : Int32)), (5, .int ((0 : Int32) - (10 : Int32))), (6, .int v3)] [.int v3] G U := rfl
theorem sg_nu_32 (big : Nat → List Value → qM → qW → qR) (n0 : Nat) (G : qM) (U : qW) (v0 : Int32) (v1 : Int32) (v2 : Int32) : qm_run pm_m big m_106 (n0 + 3) 0 [(0, .ref 8), (1, .int v0), (2, .int v1), (3, .int v2), (4, .int (10 : Int32))] [] G U = qm_run pm_m big m_106 n0 5 [(0, .ref 8), (1, .int v0), (2, .int v1), (3, .int v2), (4, .int (10 : Int32))] [.int v0, .ref 20] G U := rfl
theorem sg_nu_33 (big : Nat → List Value → qM → qW → qR) (n0 : Nat) (G : qM) (U : qW) (v0 : Int32) (v1 : Int32) (v2 : Int32) : qm_run pm_m big m_106 (n0 + 4) 8 [(0, .ref 8), (1, .int v0), (2, .int v1), (3, .int v2), (4, .int (10 : Int32))] [.int (1 : Int32)] G U = qm_run pm_m big m_106 n0 16 [(0, .ref 8), (1, .int v0), (2, .int v1), (3, .int v2), (4, .int (10 : Int32))] [.int v1, .ref 20] G U := rfl
theorem sg_nu_34 (big : Nat → List Value → qM → qW → qR) (n0 : Nat) (G : qM) (U : qW) (v0 : Int32) (v1 : Int32) (v2 : Int32) : qm_run pm_m big m_106 (n0 + 4) 19 [(0, .ref 8), (1, .int v0), (2, .int v1), (3, .int v2), (4, .int (10 : Int32))] [.int (1 : Int32)] G U = qm_run pm_m big m_106 n0 27 [(0, .ref 8), (1, .int v0), (2, .int v1), (3, .int v2), (4, .int (10 : Int32))] [.int v2, .ref 20] G U := rfl
theorem sg_nu_35 (big : Nat → List Value → qM → qW → qR) (n0 : Nat) (G : qM) (U : qW) (v0 : Int32) (v1 : Int32) (v2 : Int32) : qm_run pm_m big m_106 (n0 + 3) 30 [(0, .ref 8), (1, .int v0), (2, .int v1), (3, .int v2), (4, .int (10 : Int32))] [.int (1 : Int32)] G U = qm_run pm_m big m_106 n0 35 [(0, .ref 8), (1, .int v0), (2, .int v1), (3, .int v2), (4, .int (10 : Int32))] [.int v1, .int v0] G U := rfl
theorem sg_nu_36 (big : Nat → List Value → qM → qW → qR) (n0 : Nat) (G : qM) (U : qW) (v0 : Int32) (v1 : Int32) (v2 : Int32) : qm_run pm_m big m_106 (n0 + 2) 38 [(0, .ref 8), (1, .int v0), (2, .int v1), (3, .int v2), (4, .int (10 : Int32))] [] G U = qm_run pm_m big m_106 n0 40 [(0, .ref 8), (1, .int v0), (2, .int v1), (3, .int v2), (4, .int (10 : Int32))] [.int v2, .int v0] G U := rfl
theorem sg_nu_37 (big : Nat → List Value → qM → qW → qR) (n0 : Nat) (G : qM) (U : qW) (v0 : Int32) (v1 : Int32) (v2 : Int32) : qm_run pm_m big m_106 (n0 + 2) 43 [(0, .ref 8), (1, .int v0), (2, .int v1), (3, .int v2), (4, .int (10 : Int32))] [] G U = qm_run pm_m big m_106 n0 45 [(0, .ref 8), (1, .int v0), (2, .int v1), (3, .int v2), (4, .int (10 : Int32))] [.int v2, .int v1] G U := rfl
theorem sg_nu_38 (big : Nat → List Value → qM → qW → qR) (n0 : Nat) (G : qM) (U : qW) (v0 : Int32) (v1 : Int32) (v2 : Int32) : qm_run pm_m big m_106 (n0 + 19) 50 [(0, .ref 8), (1, .int v0), (2, .int v1), (3, .int v2), (4, .int (10 : Int32))] [] G U = qm_run pm_m big m_106 n0 88 [(0, .ref 8), (1, .int v0), (2, .int v1), (3, .int v2), (4, .int (10 : Int32)), (5, .int (0 : Int32))] [.int v2, .int v1, .int v0, .ref 20, .ref 34] G U := rfl
theorem sg_nu_39 (big : Nat → List Value → qM → qW → qR) (n0 : Nat) (G : qM) (U : qW) (v0 : Int32) (v1 : Int32) (v2 : Int32) (v3 : Int32) : qm_run pm_m big m_106 (n0 + 3) 91 [(0, .ref 8), (1, .int v0), (2, .int v1), (3, .int v2), (4, .int (10 : Int32)), (5, .int (0 : Int32))] [.int v3] G U = qm_run pm_m big m_106 n0 97 [(0, .ref 8), (1, .int v0), (2, .int v1), (3, .int v2), (4, .int (10 : Int32)), (5, .int (0 : Int32)), (6, .int v3)] [.int (Int8.toInt32 (Int8.ofInt (-4))), .int v3] G U := rfl
theorem sg_nu_40 (big : Nat → List Value → qM → qW → qR) (n0 : Nat) (G : qM) (U : qW) (v0 : Int32) (v1 : Int32) (v2 : Int32) (v3 : Int32) : qm_run pm_m big m_106 (n0 + 1) 103 [(0, .ref 8), (1, .int v0), (2, .int v1), (3, .int v2), (4, .int (10 : Int32)), (5, .int (0 : Int32)), (6, .int v3)] [] G U = qm_run pm_m big m_106 n0 105 [(0, .ref 8), (1, .int v0), (2, .int v1), (3, .int v2), (4, .int (10 : Int32)), (5, .int (0 : Int32)), (6, .int v3)] [.int v3] G U := rfl
theorem sg_nu_41 (big : Nat → List Value → qM → qW → qR) (n0 : Nat) (G : qM) (U : qW) (v0 : Int32) (v1 : Int32) (v2 : Int32) (v3 : Int32) (v4 : Int32) : qm_run pm_m big m_106 (n0 + 5) 108 [(0, .ref 8), (1, .int v0), (2, .int v1), (3, .int v2), (4, .int (10 : Int32)), (5, .int (0 : Int32)), (6, .int v3)] [.int v4] G U = qm_run pm_m big m_106 n0 122 [(0, .ref 8), (1, .int v0), (2, .int v1), (3, .int v2), (4, .int (10 : Int32)), (5, .int (0 : Int32)), (6, .int v3), (7, .int v4)] [.int v4, .int (0 : Int32)] G U := rfl
theorem sg_nu_42 (big : Nat → List Value → qM → qW → qR) (n0 : Nat) (G : qM) (U : qW) (v0 : Int32) (v1 : Int32) (v2 : Int32) (v3 : Int32) (v4 : Int32) : qm_run pm_m big m_106 (n0 + 1) 125 [(0, .ref 8), (1, .int v0), (2, .int v1), (3, .int v2), (4, .int (10 : Int32)), (5, .int (0 : Int32)), (6, .int v3), (7, .int v4)] [] G U = qm_run pm_m big m_106 n0 127 [(0, .ref 8), (1, .int v0), (2, .int v1), (3, .int v2), (4, .int (10 : Int32)), (5, .int (0 : Int32)), (6, .int v3), (7, .int v4)] [.int v3] G U := rfl
theorem sg_nu_43 (big : Nat → List Value → qM → qW → qR) (n0 : Nat) (G : qM) (U : qW) (v0 : Int32) (v1 : Int32) (v2 : Int32) (v3 : Int32) (v4 : Int32) (v5 : Int32) : qm_run pm_m big m_106 (n0 + 2) 130 [(0, .ref 8), (1, .int v0), (2, .int v1), (3, .int v2), (4, .int (10 : Int32)), (5, .int (0 : Int32)), (6, .int v3), (7, .int v4)] [.int v5] G U = qm_run pm_m big m_106 n0 134 [(0, .ref 8), (1, .int v0), (2, .int v1), (3, .int v2), (4, .int (10 : Int32)), (5, .int (0 : Int32)), (6, .int v3), (7, .int v4)] [.int v4, .int (0 : Int32), .int v5] G U := rfl
theorem sg_nu_44 (big : Nat → List Value → qM → qW → qR) (n0 : Nat) (G : qM) (U : qW) (v0 : Int32) (v1 : Int32) (v2 : Int32) : qm_run pm_m big m_106 (n0 + 3) 0 [(0, .ref 8), (1, .int v0), (2, .int v1), (3, .int v2), (4, .int (11 : Int32))] [] G U = qm_run pm_m big m_106 n0 5 [(0, .ref 8), (1, .int v0), (2, .int v1), (3, .int v2), (4, .int (11 : Int32))] [.int v0, .ref 20] G U := rfl
theorem sg_nu_45 (big : Nat → List Value → qM → qW → qR) (n0 : Nat) (G : qM) (U : qW) (v0 : Int32) (v1 : Int32) (v2 : Int32) : qm_run pm_m big m_106 (n0 + 4) 8 [(0, .ref 8), (1, .int v0), (2, .int v1), (3, .int v2), (4, .int (11 : Int32))] [.int (1 : Int32)] G U = qm_run pm_m big m_106 n0 16 [(0, .ref 8), (1, .int v0), (2, .int v1), (3, .int v2), (4, .int (11 : Int32))] [.int v1, .ref 20] G U := rfl
theorem sg_nu_46 (big : Nat → List Value → qM → qW → qR) (n0 : Nat) (G : qM) (U : qW) (v0 : Int32) (v1 : Int32) (v2 : Int32) : qm_run pm_m big m_106 (n0 + 4) 19 [(0, .ref 8), (1, .int v0), (2, .int v1), (3, .int v2), (4, .int (11 : Int32))] [.int (1 : Int32)] G U = qm_run pm_m big m_106 n0 27 [(0, .ref 8), (1, .int v0), (2, .int v1), (3, .int v2), (4, .int (11 : Int32))] [.int v2, .ref 20] G U := rfl
theorem sg_nu_47 (big : Nat → List Value → qM → qW → qR) (n0 : Nat) (G : qM) (U : qW) (v0 : Int32) (v1 : Int32) (v2 : Int32) : qm_run pm_m big m_106 (n0 + 3) 30 [(0, .ref 8), (1, .int v0), (2, .int v1), (3, .int v2), (4, .int (11 : Int32))] [.int (1 : Int32)] G U = qm_run pm_m big m_106 n0 35 [(0, .ref 8), (1, .int v0), (2, .int v1), (3, .int v2), (4, .int (11 : Int32))] [.int v1, .int v0] G U := rfl
theorem sg_nu_48 (big : Nat → List Value → qM → qW → qR) (n0 : Nat) (G : qM) (U : qW) (v0 : Int32) (v1 : Int32) (v2 : Int32) : qm_run pm_m big m_106 (n0 + 2) 38 [(0, .ref 8), (1, .int v0), (2, .int v1), (3, .int v2), (4, .int (11 : Int32))] [] G U = qm_run pm_m big m_106 n0 40 [(0, .ref 8), (1, .int v0), (2, .int v1), (3, .int v2), (4, .int (11 : Int32))] [.int v2, .int v0] G U := rfl
theorem sg_nu_49 (big : Nat → List Value → qM → qW → qR) (n0 : Nat) (G : qM) (U : qW) (v0 : Int32) (v1 : Int32) (v2 : Int32) : qm_run pm_m big m_106 (n0 + 2) 43 [(0, .ref 8), (1, .int v0), (2, .int v1), (3, .int v2), (4, .int (11 : Int32))] [] G U = qm_run pm_m big m_106 n0 45 [(0, .ref 8), (1, .int v0), (2, .int v1), (3, .int v2), (4, .int (11 : Int32))] [.int v2, .int v1] G U := rfl
theorem sg_nu_50 (big : Nat → List Value → qM → qW → qR) (n0 : Nat) (G : qM) (U : qW) (v0 : Int32) (v1 : Int32) (v2 : Int32) : qm_run pm_m big m_106 (n0 + 19) 50 [(0, .ref 8), (1, .int v0), (2, .int v1), (3, .int v2), (4, .int (11 : Int32))] [] G U = qm_run pm_m big m_106 n0 88 [(0, .ref 8), (1, .int v0), (2, .int v1), (3, .int v2), (4, .int (11 : Int32)), (5, .int (1 : Int32))] [.int v2, .int v1, .int v0, .ref 20, .ref 34] G U := rfl
theorem sg_nu_51 (big : Nat → List Value → qM → qW → qR) (n0 : Nat) (G : qM) (U : qW) (v0 : Int32) (v1 : Int32) (v2 : Int32) (v3 : Int32) : qm_run pm_m big m_106 (n0 + 3) 91 [(0, .ref 8), (1, .int v0), (2, .int v1), (3, .int v2), (4, .int (11 : Int32)), (5, .int (1 : Int32))] [.int v3] G U = qm_run pm_m big m_106 n0 97 [(0, .ref 8), (1, .int v0), (2, .int v1), (3, .int v2), (4, .int (11 : Int32)), (5, .int (1 : Int32)), (6, .int v3)] [.int (Int8.toInt32 (Int8.ofInt (-4))), .int v3] G U := rfl
theorem sg_nu_52 (big : Nat → List Value → qM → qW → qR) (n0 : Nat) (G : qM) (U : qW) (v0 : Int32) (v1 : Int32) (v2 : Int32) (v3 : Int32) : qm_run pm_m big m_106 (n0 + 1) 103 [(0, .ref 8), (1, .int v0), (2, .int v1), (3, .int v2), (4, .int (11 : Int32)), (5, .int (1 : Int32)), (6, .int v3)] [] G U = qm_run pm_m big m_106 n0 105 [(0, .ref 8), (1, .int v0), (2, .int v1), (3, .int v2), (4, .int (11 : Int32)), (5, .int (1 : Int32)), (6, .int v3)] [.int v3] G U := rfl
theorem sg_nu_53 (big : Nat → List Value → qM → qW → qR) (n0 : Nat) (G : qM) (U : qW) (v0 : Int32) (v1 : Int32) (v2 : Int32) (v3 : Int32) (v4 : Int32) : qm_run pm_m big m_106 (n0 + 5) 108 [(0, .ref 8), (1, .int v0), (2, .int v1), (3, .int v2), (4, .int (11 : Int32)), (5, .int (1 : Int32)), (6, .int v3)] [.int v4] G U = qm_run pm_m big m_106 n0 122 [(0, .ref 8), (1, .int v0), (2, .int v1), (3, .int v2), (4, .int (11 : Int32)), (5, .int (1 : Int32)), (6, .int v3), (7, .int v4)] [.int v4, .int (1 : Int32)] G U := rfl
theorem sg_nu_54 (big : Nat → List Value → qM → qW → qR) (n0 : Nat) (G : qM) (U : qW) (v0 : Int32) (v1 : Int32) (v2 : Int32) (v3 : Int32) (v4 : Int32) : qm_run pm_m big m_106 (n0 + 1) 125 [(0, .ref 8), (1, .int v0), (2, .int v1), (3, .int v2), (4, .int (11 : Int32)), (5, .int (1 : Int32)), (6, .int v3), (7, .int v4)] [] G U = qm_run pm_m big m_106 n0 127 [(0, .ref 8), (1, .int v0), (2, .int v1), (3, .int v2), (4, .int (11 : Int32)), (5, .int (1 : Int32)), (6, .int v3), (7, .int v4)] [.int v3] G U := rfl
theorem sg_nu_55 (big : Nat → List Value → qM → qW → qR) (n0 : Nat) (G : qM) (U : qW) (v0 : Int32) (v1 : Int32) (v2 : Int32) (v3 : Int32) (v4 : Int32) (v5 : Int32) : qm_run pm_m big m_106 (n0 + 2) 130 [(0, .ref 8), (1, .int v0), (2, .int v1), (3, .int v2), (4, .int (11 : Int32)), (5, .int (1 : Int32)), (6, .int v3), (7, .int v4)] [.int v5] G U = qm_run pm_m big m_106 n0 134 [(0, .ref 8), (1, .int v0), (2, .int v1), (3, .int v2), (4, .int (11 : Int32)), (5, .int (1 : Int32)), (6, .int v3), (7, .int v4)] [.int v4, .int (1 : Int32), .int v5] G U := rfl
theorem sg_nu_56 (big : Nat → List Value → qM → qW → qR) (n0 : Nat) (G : qM) (U : qW) (v0 : Int32) (v1 : Int32) (v2 : Int32) : qm_run pm_m big m_106 (n0 + 3) 0 [(0, .ref 8), (1, .int v0), (2, .int v1), (3, .int v2), (4, .int (12 : Int32))] [] G U = qm_run pm_m big m_106 n0 5 [(0, .ref 8), (1, .int v0), (2, .int v1), (3, .int v2), (4, .int (12 : Int32))] [.int v0, .ref 20] G U := rfl
theorem sg_nu_57 (big : Nat → List Value → qM → qW → qR) (n0 : Nat) (G : qM) (U : qW) (v0 : Int32) (v1 : Int32) (v2 : Int32) : qm_run pm_m big m_106 (n0 + 4) 8 [(0, .ref 8), (1, .int v0), (2, .int v1), (3, .int v2), (4, .int (12 : Int32))] [.int (1 : Int32)] G U = qm_run pm_m big m_106 n0 16 [(0, .ref 8), (1, .int v0), (2, .int v1), (3, .int v2), (4, .int (12 : Int32))] [.int v1, .ref 20] G U := rfl
theorem sg_nu_58 (big : Nat → List Value → qM → qW → qR) (n0 : Nat) (G : qM) (U : qW) (v0 : Int32) (v1 : Int32) (v2 : Int32) : qm_run pm_m big m_106 (n0 + 4) 19 [(0, .ref 8), (1, .int v0), (2, .int v1), (3, .int v2), (4, .int (12 : Int32))] [.int (1 : Int32)] G U = qm_run pm_m big m_106 n0 27 [(0, .ref 8), (1, .int v0), (2, .int v1), (3, .int v2), (4, .int (12 : Int32))] [.int v2, .ref 20] G U := rfl
theorem sg_nu_59 (big : Nat → List Value → qM → qW → qR) (n0 : Nat) (G : qM) (U : qW) (v0 : Int32) (v1 : Int32) (v2 : Int32) : qm_run pm_m big m_106 (n0 + 3) 30 [(0, .ref 8), (1, .int v0), (2, .int v1), (3, .int v2), (4, .int (12 : Int32))] [.int (1 : Int32)] G U = qm_run pm_m big m_106 n0 35 [(0, .ref 8), (1, .int v0), (2, .int v1), (3, .int v2), (4, .int (12 : Int32))] [.int v1, .int v0] G U := rfl
theorem sg_nu_60 (big : Nat → List Value → qM → qW → qR) (n0 : Nat) (G : qM) (U : qW) (v0 : Int32) (v1 : Int32) (v2 : Int32) : qm_run pm_m big m_106 (n0 + 2) 38 [(0, .ref 8), (1, .int v0), (2, .int v1), (3, .int v2), (4, .int (12 : Int32))] [] G U = qm_run pm_m big m_106 n0 40 [(0, .ref 8), (1, .int v0), (2, .int v1), (3, .int v2), (4, .int (12 : Int32))] [.int v2, .int v0] G U := rfl
theorem sg_nu_61 (big : Nat → List Value → qM → qW → qR) (n0 : Nat) (G : qM) (U : qW) (v0 : Int32) (v1 : Int32) (v2 : Int32) : qm_run pm_m big m_106 (n0 + 2) 43 [(0, .ref 8), (1, .int v0), (2, .int v1), (3, .int v2), (4, .int (12 : Int32))] [] G U = qm_run pm_m big m_106 n0 45 [(0, .ref 8), (1, .int v0), (2, .int v1), (3, .int v2), (4, .int (12 : Int32))] [.int v2, .int v1] G U := rfl
theorem sg_nu_62 (big : Nat → List Value → qM → qW → qR) (n0 : Nat) (G : qM) (U : qW) (v0 : Int32) (v1 : Int32) (v2 : Int32) : qm_run pm_m big m_106 (n0 + 19) 50 [(0, .ref 8), (1, .int v0), (2, .int v1), (3, .int v2), (4, .int (12 : Int32))] [] G U = qm_run pm_m big m_106 n0 88 [(0, .ref 8), (1, .int v0), (2, .int v1), (3, .int v2), (4, .int (12 : Int32)), (5, .int (2 : Int32))] [.int v2, .int v1, .int v0, .ref 20, .ref 34] G U := rfl
theorem sg_nu_63 (big : Nat → List Value → qM → qW → qR) (n0 : Nat) (G : qM) (U : qW) (v0 : Int32) (v1 : Int32) (v2 : Int32) (v3 : Int32) : qm_run pm_m big m_106 (n0 + 3) 91 [(0, .ref 8), (1, .int v0), (2, .int v1), (3, .int v2), (4, .int (12 : Int32)), (5, .int (2 : Int32))] [.int v3] G U = qm_run pm_m big m_106 n0 97 [(0, .ref 8), (1, .int v0), (2, .int v1), (3, .int v2), (4, .int (12 : Int32)), (5, .int (2 : Int32)), (6, .int v3)] [.int (Int8.toInt32 (Int8.ofInt (-4))), .int v3] G U := rfl
theorem sg_nu_64 (big : Nat → List Value → qM → qW → qR) (n0 : Nat) (G : qM) (U : qW) (v0 : Int32) (v1 : Int32) (v2 : Int32) (v3 : Int32) : qm_run pm_m big m_106 (n0 + 1) 103 [(0, .ref 8), (1, .int v0), (2, .int v1), (3, .int v2), (4, .int (12 : Int32)), (5, .int (2 : Int32)), (6, .int v3)] [] G U = qm_run pm_m big m_106 n0 105 [(0, .ref 8), (1, .int v0), (2, .int v1), (3, .int v2), (4, .int (12 : Int32)), (5, .int (2 : Int32)), (6, .int v3)] [.int v3] G U := rfl
theorem sg_nu_65 (big : Nat → List Value → qM → qW → qR) (n0 : Nat) (G : qM) (U : qW) (v0 : Int32) (v1 : Int32) (v2 : Int32) (v3 : Int32) (v4 : Int32) : qm_run pm_m big m_106 (n0 + 5) 108 [(0, .ref 8), (1, .int v0), (2, .int v1), (3, .int v2), (4, .int (12 : Int32)), (5, .int (2 : Int32)), (6, .int v3)] [.int v4] G U = qm_run pm_m big m_106 n0 122 [(0, .ref 8), (1, .int v0), (2, .int v1), (3, .int v2), (4, .int (12 : Int32)), (5, .int (2 : Int32)), (6, .int v3), (7, .int v4)] [.int v4, .int (2 : Int32)] G U := rfl
theorem sg_nu_66 (big : Nat → List Value → qM → qW → qR) (n0 : Nat) (G : qM) (U : qW) (v0 : Int32) (v1 : Int32) (v2 : Int32) (v3 : Int32) (v4 : Int32) : qm_run pm_m big m_106 (n0 + 1) 125 [(0, .ref 8), (1, .int v0), (2, .int v1), (3, .int v2), (4, .int (12 : Int32)), (5, .int (2 : Int32)), (6, .int v3), (7, .int v4)] [] G U = qm_run pm_m big m_106 n0 127 [(0, .ref 8), (1, .int v0), (2, .int v1), (3, .int v2), (4, .int (12 : Int32)), (5, .int (2 : Int32)), (6, .int v3), (7, .int v4)] [.int v3] G U := rfl
theorem sg_nu_67 (big : Nat → List Value → qM → qW → qR) (n0 : Nat) (G : qM) (U : qW) (v0 : Int32) (v1 : Int32) (v2 : Int32) (v3 : Int32) (v4 : Int32) (v5 : Int32) : qm_run pm_m big m_106 (n0 + 2) 130 [(0, .ref 8), (1, .int v0), (2, .int v1), (3, .int v2), (4, .int (12 : Int32)), (5, .int (2 : Int32)), (6, .int v3), (7, .int v4)] [.int v5] G U = qm_run pm_m big m_106 n0 134 [(0, .ref 8), (1, .int v0), (2, .int v1), (3, .int v2), (4, .int (12 : Int32)), (5, .int (2 : Int32)), (6, .int v3), (7, .int v4)] [.int v4, .int (2 : Int32), .int v5] G U := rfl
theorem sg_nu_68 (big : Nat → List Value → qM → qW → qR) (n0 : Nat) (G : qM) (U : qW) (v0 : Int32) (v1 : Int32) (v2 : Int32) : qm_run pm_m big m_106 (n0 + 3) 0 [(0, .ref 8), (1, .int v0), (2, .int v1), (3, .int v2), (4, .int (13 : Int32))] [] G U = qm_run pm_m big m_106 n0 5 [(0, .ref 8), (1, .int v0), (2, .int v1), (3, .int v2), (4, .int (13 : Int32))] [.int v0, .ref 20] G U := rfl
theorem sg_nu_69 (big : Nat → List Value → qM → qW → qR) (n0 : Nat) (G : qM) (U : qW) (v0 : Int32) (v1 : Int32) (v2 : Int32) : qm_run pm_m big m_106 (n0 + 4) 8 [(0, .ref 8), (1, .int v0), (2, .int v1), (3, .int v2), (4, .int (13 : Int32))] [.int (1 : Int32)] G U = qm_run pm_m big m_106 n0 16 [(0, .ref 8), (1, .int v0), (2, .int v1), (3, .int v2), (4, .int (13 : Int32))] [.int v1, .ref 20] G U := rfl
theorem sg_nu_70 (big : Nat → List Value → qM → qW → qR) (n0 : Nat) (G : qM) (U : qW) (v0 : Int32) (v1 : Int32) (v2 : Int32) : qm_run pm_m big m_106 (n0 + 4) 19 [(0, .ref 8), (1, .int v0), (2, .int v1), (3, .int v2), (4, .int (13 : Int32))] [.int (1 : Int32)] G U = qm_run pm_m big m_106 n0 27 [(0, .ref 8), (1, .int v0), (2, .int v1), (3, .int v2), (4, .int (13 : Int32))] [.int v2, .ref 20] G U := rfl
theorem sg_nu_71 (big : Nat → List Value → qM → qW → qR) (n0 : Nat) (G : qM) (U : qW) (v0 : Int32) (v1 : Int32) (v2 : Int32) : qm_run pm_m big m_106 (n0 + 3) 30 [(0, .ref 8), (1, .int v0), (2, .int v1), (3, .int v2), (4, .int (13 : Int32))] [.int (1 : Int32)] G U = qm_run pm_m big m_106 n0 35 [(0, .ref 8), (1, .int v0), (2, .int v1), (3, .int v2), (4, .int (13 : Int32))] [.int v1, .int v0] G U := rfl
theorem sg_nu_72 (big : Nat → List Value → qM → qW → qR) (n0 : Nat) (G : qM) (U : qW) (v0 : Int32) (v1 : Int32) (v2 : Int32) : qm_run pm_m big m_106 (n0 + 2) 38 [(0, .ref 8), (1, .int v0), (2, .int v1), (3, .int v2), (4, .int (13 : Int32))] [] G U = qm_run pm_m big m_106 n0 40 [(0, .ref 8), (1, .int v0), (2, .int v1), (3, .int v2), (4, .int (13 : Int32))] [.int v2, .int v0] G U := rfl
theorem sg_nu_73 (big : Nat → List Value → qM → qW → qR) (n0 : Nat) (G : qM) (U : qW) (v0 : Int32) (v1 : Int32) (v2 : Int32) : qm_run pm_m big m_106 (n0 + 2) 43 [(0, .ref 8), (1, .int v0), (2, .int v1), (3, .int v2), (4, .int (13 : Int32))] [] G U = qm_run pm_m big m_106 n0 45 [(0, .ref 8), (1, .int v0), (2, .int v1), (3, .int v2), (4, .int (13 : Int32))] [.int v2, .int v1] G U := rfl
theorem sg_nu_74 (big : Nat → List Value → qM → qW → qR) (n0 : Nat) (G : qM) (U : qW) (v0 : Int32) (v1 : Int32) (v2 : Int32) : qm_run pm_m big m_106 (n0 + 19) 50 [(0, .ref 8), (1, .int v0), (2, .int v1), (3, .int v2), (4, .int (13 : Int32))] [] G U = qm_run pm_m big m_106 n0 88 [(0, .ref 8), (1, .int v0), (2, .int v1), (3, .int v2), (4, .int (13 : Int32)), (5, .int (3 : Int32))] [.int v2, .int v1, .int v0, .ref 20, .ref 34] G U := rfl
theorem sg_nu_75 (big : Nat → List Value → qM → qW → qR) (n0 : Nat) (G : qM) (U : qW) (v0 : Int32) (v1 : Int32) (v2 : Int32) (v3 : Int32) : qm_run pm_m big m_106 (n0 + 3) 91 [(0, .ref 8), (1, .int v0), (2, .int v1), (3, .int v2), (4, .int (13 : Int32)), (5, .int (3 : Int32))] [.int v3] G U = qm_run pm_m big m_106 n0 97 [(0, .ref 8), (1, .int v0), (2, .int v1), (3, .int v2), (4, .int (13 : Int32)), (5, .int (3 : Int32)), (6, .int v3)] [.int (Int8.toInt32 (Int8.ofInt (-4))), .int v3] G U := rfl
theorem sg_nu_76 (big : Nat → List Value → qM → qW → qR) (n0 : Nat) (G : qM) (U : qW) (v0 : Int32) (v1 : Int32) (v2 : Int32) (v3 : Int32) : qm_run pm_m big m_106 (n0 + 1) 103 [(0, .ref 8), (1, .int v0), (2, .int v1), (3, .int v2), (4, .int (13 : Int32)), (5, .int (3 : Int32)), (6, .int v3)] [] G U = qm_run pm_m big m_106 n0 105 [(0, .ref 8), (1, .int v0), (2, .int v1), (3, .int v2), (4, .int (13 : Int32)), (5, .int (3 : Int32)), (6, .int v3)] [.int v3] G U := rfl
theorem sg_nu_77 (big : Nat → List Value → qM → qW → qR) (n0 : Nat) (G : qM) (U : qW) (v0 : Int32) (v1 : Int32) (v2 : Int32) (v3 : Int32) (v4 : Int32) : qm_run pm_m big m_106 (n0 + 5) 108 [(0, .ref 8), (1, .int v0), (2, .int v1), (3, .int v2), (4, .int (13 : Int32)), (5, .int (3 : Int32)), (6, .int v3)] [.int v4] G U = qm_run pm_m big m_106 n0 122 [(0, .ref 8), (1, .int v0), (2, .int v1), (3, .int v2), (4, .int (13 : Int32)), (5, .int (3 : Int32)), (6, .int v3), (7, .int v4)] [.int v4, .int (3 : Int32)] G U := rfl
theorem sg_nu_78 (big : Nat → List Value → qM → qW → qR) (n0 : Nat) (G : qM) (U : qW) (v0 : Int32) (v1 : Int32) (v2 : Int32) (v3 : Int32) (v4 : Int32) : qm_run pm_m big m_106 (n0 + 1) 125 [(0, .ref 8), (1, .int v0), (2, .int v1), (3, .int v2), (4, .int (13 : Int32)), (5, .int (3 : Int32)), (6, .int v3), (7, .int v4)] [] G U = qm_run pm_m big m_106 n0 127 [(0, .ref 8), (1, .int v0), (2, .int v1), (3, .int v2), (4, .int (13 : Int32)), (5, .int (3 : Int32)), (6, .int v3), (7, .int v4)] [.int v3] G U := rfl
theorem sg_nu_79 (big : Nat → List Value → qM → qW → qR) (n0 : Nat) (G : qM) (U : qW) (v0 : Int32) (v1 : Int32) (v2 : Int32) (v3 : Int32) (v4 : Int32) (v5 : Int32) : qm_run pm_m big m_106 (n0 + 2) 130 [(0, .ref 8), (1, .int v0), (2, .int v1), (3, .int v2), (4, .int (13 : Int32)), (5, .int (3 : Int32)), (6, .int v3), (7, .int v4)] [.int v5] G U = qm_run pm_m big m_106 n0 134 [(0, .ref 8), (1, .int v0), (2, .int v1), (3, .int v2), (4, .int (13 : Int32)), (5, .int (3 : Int32)), (6, .int v3), (7, .int v4)] [.int v4, .int (3 : Int32), .int v5] G U := rfl
theorem sg_nu_80 (big : Nat → List Value → qM → qW → qR) (n0 : Nat) (G : qM) (U : qW) (v0 : Int32) (v1 : Int32) (v2 : Int32) (v3 : Int32) (v4 : Int32) (v5 : Int32) (v6 : Int32) : qm_run pm_m big m_208 (n0 + 2) 102 [(0, .ref 70), (1, .int v0), (2, .int v1), (3, .int v2), (4, .int v3), (5, .int (1 : Int32)), (6, .int v4), (7, .int v5), (8, .int v6)] [] G U = qm_run pm_m big m_208 n0 106 [(0, .ref 70), (1, .int v0), (2, .int v1), (3, .int v2), (4, .int v3), (5, .int (1 : Int32)), (6, .int v4), (7, .int v5), (8, .int v6)] [.int v4, .int v6] G U := rfl
theorem sg_nu_81 (big : Nat → List Value → qM → qW → qR) (n0 : Nat) (G : qM) (U : qW) (v0 : Int32) (v1 : Int32) (v2 : Int32) (v3 : Int32) (v4 : Int32) (v5 : Int32) (v6 : Int32) : qm_run pm_m big m_208 (n0 + 14) 109 [(0, .ref 70), (1, .int v0), (2, .int v1), (3, .int v2), (4, .int v3), (5, .int (1 : Int32)), (6, .int v4), (7, .int v5), (8, .int v6)] [] G U = qm_run pm_m big m_208 n0 128 [(0, .ref 70), (1, .int v0), (2, .int v1), (3, .int v2), (4, .int v3), (5, .int (1 : Int32)), (6, .int v4), (7, .int v5), (8, .int v6)] [.int ((v5 >>> (((2 : Int32) * ((v4 - (1 : Int32)) - v6)) &&& 31)) &&& (3 : Int32)), .int v0, .ref 76] G U := rfl
theorem sg_nu_82 (big : Nat → List Value → qM → qW → qR) (n0 : Nat) (G : qM) (U : qW) (v0 : Int32) (v1 : Int32) (v2 : Int32) (v3 : Int32) (v4 : Int32) (v5 : Int32) (v6 : Int32) : qm_run pm_m big m_208 (n0 + 1) 129 [(0, .ref 70), (1, .int v0), (2, .int v1), (3, .int v2), (4, .int v3), (5, .int (1 : Int32)), (6, .int v4), (7, .int v5), (8, .int v6)] [] G U = qm_run pm_m big m_208 n0 130 [(0, .ref 70), (1, .int v0), (2, .int v1), (3, .int v2), (4, .int v3), (5, .int (1 : Int32)), (6, .int v4), (7, .int v5), (8, .int v6)] [.ref 70] G U := rfl
theorem sg_nu_83 (big : Nat → List Value → qM → qW → qR) (n0 : Nat) (G : qM) (U : qW) (v0 : Int32) (v1 : Int32) (v2 : Int32) (v3 : Int32) (v4 : Int32) (v5 : Int32) (v6 : Int32) (v7 : Int32) : qm_run pm_m big m_208 (n0 + 3) 133 [(0, .ref 70), (1, .int v0), (2, .int v1), (3, .int v2), (4, .int v3), (5, .int (1 : Int32)), (6, .int v4), (7, .int v5), (8, .int v6)] [.int v7] G U = qm_run pm_m big m_208 n0 102 [(0, .ref 70), (1, .int v0), (2, .int v1), (3, .int v2), (4, .int v3), (5, .int (1 : Int32)), (6, .int v4), (7, .int v5), (8, .int (v6 + (1 : Int32)))] [] G U := rfl
theorem sg_nu_84 (big : Nat → List Value → qM → qW → qR) (n0 : Nat) (G : qM) (U : qW) (v0 : Int32) (v1 : Int32) (v2 : Int32) (v3 : Int32) (v4 : Int32) (v5 : Int32) : qm_run pm_m big m_208 (n0 + 2) 85 [(0, .ref 70), (1, .int v0), (2, .int v1), (3, .int v2), (4, .int v3), (5, .int (1 : Int32)), (6, .int v4), (7, .int v5)] [] G U = qm_run pm_m big m_208 n0 89 [(0, .ref 70), (1, .int v0), (2, .int v1), (3, .int v2), (4, .int v3), (5, .int (1 : Int32)), (6, .int v4), (7, .int v5)] [.int v4, .int v5] G U := rfl
theorem sg_nu_85 (big : Nat → List Value → qM → qW → qR) (n0 : Nat) (G : qM) (U : qW) (v0 : Int32) (v1 : Int32) (v2 : Int32) (v3 : Int32) (v4 : Int32) (v5 : Int32) : qm_run pm_m big m_208 (n0 + 1) 95 [(0, .ref 70), (1, .int v0), (2, .int v1), (3, .int v2), (4, .int v3), (5, .int (1 : Int32)), (6, .int v4), (7, .int v5)] [] G U = qm_run pm_m big m_208 n0 96 [(0, .ref 70), (1, .int v0), (2, .int v1), (3, .int v2), (4, .int v3), (5, .int (1 : Int32)), (6, .int v4), (7, .int v5)] [.ref 70] G U := rfl
theorem sg_nu_86 (big : Nat → List Value → qM → qW → qR) (n0 : Nat) (G : qM) (U : qW) (v0 : Int32) (v1 : Int32) (v2 : Int32) (v3 : Int32) (v4 : Int32) (v5 : Int32) : qm_run pm_m big m_208 (n0 + 2) 99 [(0, .ref 70), (1, .int v0), (2, .int v1), (3, .int v2), (4, .int v3), (5, .int (1 : Int32)), (6, .int v4), (7, .int v5)] [] G U = qm_run pm_m big m_208 n0 102 [(0, .ref 70), (1, .int v0), (2, .int v1), (3, .int v2), (4, .int v3), (5, .int (1 : Int32)), (6, .int v4), (7, .int v5), (8, .int (0 : Int32))] [] G U := rfl
theorem sg_nu_87 (big : Nat → List Value → qM → qW → qR) (n0 : Nat) (G : qM) (U : qW) (v0 : Int32) (v1 : Int32) (v2 : Int32) (v3 : Int32) (v4 : Int32) (v5 : Int32) (v6 : Int32) : qm_run pm_m big m_208 (n0 + 3) 140 [(0, .ref 70), (1, .int v0), (2, .int v1), (3, .int v2), (4, .int v3), (5, .int (1 : Int32)), (6, .int v4), (7, .int v5), (8, .int v6)] [] G U = qm_run pm_m big m_208 n0 143 [(0, .ref 70), (1, .int v0), (2, .int v1), (3, .int v2), (4, .int v3), (5, .int (1 : Int32)), (6, .int v4), (7, .int v5), (8, .int v6)] [.int v2, .int v1, .ref 70] G U := rfl
theorem sg_nu_88 (big : Nat → List Value → qM → qW → qR) (n0 : Nat) (G : qM) (U : qW) (v0 : Int32) (v1 : Int32) (v2 : Int32) (v3 : Int32) (v4 : Int32) (v5 : Int32) (v6 : Int32) (v7 : Int32) : qm_run pm_m big m_208 (n0 + 1) 146 [(0, .ref 70), (1, .int v0), (2, .int v1), (3, .int v2), (4, .int v3), (5, .int (1 : Int32)), (6, .int v4), (7, .int v5), (8, .int v6)] [.int v7] G U = qm_run pm_m big m_208 n0 147 [(0, .ref 70), (1, .int v0), (2, .int v1), (3, .int v2), (4, .int v3), (5, .int (1 : Int32)), (6, .int v4), (7, .int v5), (8, .int v6)] [.int (1 : Int32), .int v7] G U := rfl
theorem sg_nu_89 (big : Nat → List Value → qM → qW → qR) (n0 : Nat) (G : qM) (U : qW) (v0 : Int32) (v1 : Int32) (v2 : Int32) (v3 : Int32) (v4 : Int32) (v5 : Int32) (v6 : Int32) : qm_run pm_m big m_208 (n0 + 2) 193 [(0, .ref 70), (1, .int v0), (2, .int v1), (3, .int v2), (4, .int v3), (5, .int (1 : Int32)), (6, .int v4), (7, .int v5), (8, .int v6)] [] G U = qm_run pm_m big m_208 n0 85 [(0, .ref 70), (1, .int v0), (2, .int v1), (3, .int v2), (4, .int v3), (5, .int (1 : Int32)), (6, .int v4), (7, .int (v5 + (1 : Int32))), (8, .int v6)] [] G U := rfl
theorem sg_nu_90 (big : Nat → List Value → qM → qW → qR) (n0 : Nat) (G : qM) (U : qW) (v0 : Int32) (v1 : Int32) (v2 : Int32) (v3 : Int32) (v4 : Int32) : qm_run pm_m big m_208 (n0 + 2) 76 [(0, .ref 70), (1, .int v0), (2, .int v1), (3, .int v2), (4, .int v3), (5, .int (1 : Int32)), (6, .int v4)] [] G U = qm_run pm_m big m_208 n0 79 [(0, .ref 70), (1, .int v0), (2, .int v1), (3, .int v2), (4, .int v3), (5, .int (1 : Int32)), (6, .int v4)] [.int (4 : Int32), .int v4] G U := rfl
theorem sg_nu_91 (big : Nat → List Value → qM → qW → qR) (n0 : Nat) (G : qM) (U : qW) (v0 : Int32) (v1 : Int32) (v2 : Int32) (v3 : Int32) (v4 : Int32) : qm_run pm_m big m_208 (n0 + 2) 82 [(0, .ref 70), (1, .int v0), (2, .int v1), (3, .int v2), (4, .int v3), (5, .int (1 : Int32)), (6, .int v4)] [] G U = qm_run pm_m big m_208 n0 85 [(0, .ref 70), (1, .int v0), (2, .int v1), (3, .int v2), (4, .int v3), (5, .int (1 : Int32)), (6, .int v4), (7, .int (0 : Int32))] [] G U := rfl
theorem sg_nu_92 (big : Nat → List Value → qM → qW → qR) (n0 : Nat) (G : qM) (U : qW) (v0 : Int32) (v1 : Int32) (v2 : Int32) (v3 : Int32) (v4 : Int32) (v5 : Int32) : qm_run pm_m big m_208 (n0 + 2) 199 [(0, .ref 70), (1, .int v0), (2, .int v1), (3, .int v2), (4, .int v3), (5, .int (1 : Int32)), (6, .int v4), (7, .int v5)] [] G U = qm_run pm_m big m_208 n0 76 [(0, .ref 70), (1, .int v0), (2, .int v1), (3, .int v2), (4, .int v3), (5, .int (1 : Int32)), (6, .int (v4 + (1 : Int32))), (7, .int v5)] [] G U := rfl
theorem sg_nu_93 (big : Nat → List Value → qM → qW → qR) (n0 : Nat) (G : qM) (U : qW) (v0 : Int32) (v1 : Int32) (v2 : Int32) : qm_run pm_m big m_208 (n0 + 2) 0 [(0, .ref 70), (1, .int v0), (2, .int v1), (3, .int v2), (4, .int (0 : Int32))] [] G U = qm_run pm_m big m_208 n0 2 [(0, .ref 70), (1, .int v0), (2, .int v1), (3, .int v2), (4, .int (0 : Int32))] [.int v1, .int v0] G U := rfl
theorem sg_nu_94 (big : Nat → List Value → qM → qW → qR) (n0 : Nat) (G : qM) (U : qW) (v0 : Int32) (v1 : Int32) (v2 : Int32) : qm_run pm_m big m_208 (n0 + 2) 5 [(0, .ref 70), (1, .int v0), (2, .int v1), (3, .int v2), (4, .int (0 : Int32))] [] G U = qm_run pm_m big m_208 n0 7 [(0, .ref 70), (1, .int v0), (2, .int v1), (3, .int v2), (4, .int (0 : Int32))] [.int v2, .int v0] G U := rfl
theorem sg_nu_95 (big : Nat → List Value → qM → qW → qR) (n0 : Nat) (G : qM) (U : qW) (v0 : Int32) (v1 : Int32) (v2 : Int32) : qm_run pm_m big m_208 (n0 + 2) 10 [(0, .ref 70), (1, .int v0), (2, .int v1), (3, .int v2), (4, .int (0 : Int32))] [] G U = qm_run pm_m big m_208 n0 12 [(0, .ref 70), (1, .int v0), (2, .int v1), (3, .int v2), (4, .int (0 : Int32))] [.int v2, .int v1] G U := rfl
theorem sg_nu_96 (big : Nat → List Value → qM → qW → qR) (n0 : Nat) (G : qM) (U : qW) (v0 : Int32) (v1 : Int32) (v2 : Int32) : qm_run pm_m big m_208 (n0 + 5) 15 [(0, .ref 70), (1, .int v0), (2, .int v1), (3, .int v2), (4, .int (0 : Int32))] [] G U = qm_run pm_m big m_208 n0 24 [(0, .ref 70), (1, .int v0), (2, .int v1), (3, .int v2), (4, .int (0 : Int32)), (5, .int (1 : Int32))] [.int v0, .ref 70] G U := rfl
theorem sg_nu_97 (big : Nat → List Value → qM → qW → qR) (n0 : Nat) (G : qM) (U : qW) (v0 : Int32) (v1 : Int32) (v2 : Int32) : qm_run pm_m big m_208 (n0 + 3) 27 [(0, .ref 70), (1, .int v0), (2, .int v1), (3, .int v2), (4, .int (0 : Int32)), (5, .int (1 : Int32))] [.int (1 : Int32)] G U = qm_run pm_m big m_208 n0 32 [(0, .ref 70), (1, .int v0), (2, .int v1), (3, .int v2), (4, .int (0 : Int32)), (5, .int (1 : Int32))] [.int v1, .ref 70] G U := rfl
theorem sg_nu_98 (big : Nat → List Value → qM → qW → qR) (n0 : Nat) (G : qM) (U : qW) (v0 : Int32) (v1 : Int32) (v2 : Int32) : qm_run pm_m big m_208 (n0 + 3) 35 [(0, .ref 70), (1, .int v0), (2, .int v1), (3, .int v2), (4, .int (0 : Int32)), (5, .int (1 : Int32))] [.int (1 : Int32)] G U = qm_run pm_m big m_208 n0 40 [(0, .ref 70), (1, .int v0), (2, .int v1), (3, .int v2), (4, .int (0 : Int32)), (5, .int (1 : Int32))] [.int v2, .ref 70] G U := rfl
theorem sg_nu_99 (big : Nat → List Value → qM → qW → qR) (n0 : Nat) (G : qM) (U : qW) (v0 : Int32) (v1 : Int32) (v2 : Int32) : qm_run pm_m big m_208 (n0 + 7) 43 [(0, .ref 70), (1, .int v0), (2, .int v1), (3, .int v2), (4, .int (0 : Int32)), (5, .int (1 : Int32))] [.int (1 : Int32)] G U = qm_run pm_m big m_208 n0 76 [(0, .ref 70), (1, .int v0), (2, .int v1), (3, .int v2), (4, .int (0 : Int32)), (5, .int (1 : Int32)), (6, .int (0 : Int32))] [] G U := rfl
theorem sg_nu_100 (big : Nat → List Value → qM → qW → qR) (n0 : Nat) (G : qM) (U : qW) (v0 : Int32) (v1 : Int32) (v2 : Int32) : qm_run pm_m big m_208 (n0 + 2) 0 [(0, .ref 70), (1, .int v0), (2, .int v1), (3, .int v2), (4, .int (10 : Int32))] [] G U = qm_run pm_m big m_208 n0 2 [(0, .ref 70), (1, .int v0), (2, .int v1), (3, .int v2), (4, .int (10 : Int32))] [.int v1, .int v0] G U := rfl
theorem sg_nu_101 (big : Nat → List Value → qM → qW → qR) (n0 : Nat) (G : qM) (U : qW) (v0 : Int32) (v1 : Int32) (v2 : Int32) : qm_run pm_m big m_208 (n0 + 2) 5 [(0, .ref 70), (1, .int v0), (2, .int v1), (3, .int v2), (4, .int (10 : Int32))] [] G U = qm_run pm_m big m_208 n0 7 [(0, .ref 70), (1, .int v0), (2, .int v1), (3, .int v2), (4, .int (10 : Int32))] [.int v2, .int v0] G U := rfl
theorem sg_nu_102 (big : Nat → List Value → qM → qW → qR) (n0 : Nat) (G : qM) (U : qW) (v0 : Int32) (v1 : Int32) (v2 : Int32) : qm_run pm_m big m_208 (n0 + 2) 10 [(0, .ref 70), (1, .int v0), (2, .int v1), (3, .int v2), (4, .int (10 : Int32))] [] G U = qm_run pm_m big m_208 n0 12 [(0, .ref 70), (1, .int v0), (2, .int v1), (3, .int v2), (4, .int (10 : Int32))] [.int v2, .int v1] G U := rfl
theorem sg_nu_103 (big : Nat → List Value → qM → qW → qR) (n0 : Nat) (G : qM) (U : qW) (v0 : Int32) (v1 : Int32) (v2 : Int32) : qm_run pm_m big m_208 (n0 + 5) 15 [(0, .ref 70), (1, .int v0), (2, .int v1), (3, .int v2), (4, .int (10 : Int32))] [] G U = qm_run pm_m big m_208 n0 24 [(0, .ref 70), (1, .int v0), (2, .int v1), (3, .int v2), (4, .int (10 : Int32)), (5, .int (1 : Int32))] [.int v0, .ref 70] G U := rfl
theorem sg_nu_104 (big : Nat → List Value → qM → qW → qR) (n0 : Nat) (G : qM) (U : qW) (v0 : Int32) (v1 : Int32) (v2 : Int32) : qm_run pm_m big m_208 (n0 + 3) 27 [(0, .ref 70), (1, .int v0), (2, .int v1), (3, .int v2), (4, .int (10 : Int32)), (5, .int (1 : Int32))] [.int (1 : Int32)] G U = qm_run pm_m big m_208 n0 32 [(0, .ref 70), (1, .int v0), (2, .int v1), (3, .int v2), (4, .int (10 : Int32)), (5, .int (1 : Int32))] [.int v1, .ref 70] G U := rfl
theorem sg_nu_105 (big : Nat → List Value → qM → qW → qR) (n0 : Nat) (G : qM) (U : qW) (v0 : Int32) (v1 : Int32) (v2 : Int32) : qm_run pm_m big m_208 (n0 + 3) 35 [(0, .ref 70), (1, .int v0), (2, .int v1), (3, .int v2), (4, .int (10 : Int32)), (5, .int (1 : Int32))] [.int (1 : Int32)] G U = qm_run pm_m big m_208 n0 40 [(0, .ref 70), (1, .int v0), (2, .int v1), (3, .int v2), (4, .int (10 : Int32)), (5, .int (1 : Int32))] [.int v2, .ref 70] G U := rfl
theorem sg_nu_106 (big : Nat → List Value → qM → qW → qR) (n0 : Nat) (G : qM) (U : qW) (v0 : Int32) (v1 : Int32) (v2 : Int32) : qm_run pm_m big m_208 (n0 + 9) 43 [(0, .ref 70), (1, .int v0), (2, .int v1), (3, .int v2), (4, .int (10 : Int32)), (5, .int (1 : Int32))] [.int (1 : Int32)] G U = qm_run pm_m big m_208 n0 65 [(0, .ref 70), (1, .int v0), (2, .int v1), (3, .int v2), (4, .int (10 : Int32)), (5, .int (1 : Int32))] [.long (13 : Int64), .long (10 : Int64), .long (10 : Int64)] G U := rfl
theorem sg_nu_107 (big : Nat → List Value → qM → qW → qR) (n0 : Nat) (G : qM) (U : qW) (v0 : Int32) (v1 : Int32) (v2 : Int32) : qm_run pm_m big m_208 (n0 + 3) 68 [(0, .ref 70), (1, .int v0), (2, .int v1), (3, .int v2), (4, .int (10 : Int32)), (5, .int (1 : Int32))] [.int (1 : Int32)] G U = qm_run pm_m big m_208 n0 76 [(0, .ref 70), (1, .int v0), (2, .int v1), (3, .int v2), (4, .int (10 : Int32)), (5, .int (1 : Int32)), (6, .int (0 : Int32))] [] G U := rfl
theorem sg_nu_108 (big : Nat → List Value → qM → qW → qR) (n0 : Nat) (G : qM) (U : qW) (v0 : Int32) (v1 : Int32) (v2 : Int32) (v3 : Int32) (v4 : Int32) : qm_run pm_m big m_208 (n0 + 6) 150 [(0, .ref 70), (1, .int v0), (2, .int v1), (3, .int v2), (4, .int (10 : Int32)), (5, .int (1 : Int32)), (6, .int v3), (7, .int v4)] [] G U = qm_run pm_m big m_208 n0 167 [(0, .ref 70), (1, .int v0), (2, .int v1), (3, .int v2), (4, .int (10 : Int32)), (5, .int (1 : Int32)), (6, .int v3), (7, .int v4)] [.int v3, .int (0 : Int32)] G U := rfl
theorem sg_nu_109 (big : Nat → List Value → qM → qW → qR) (n0 : Nat) (G : qM) (U : qW) (v0 : Int32) (v1 : Int32) (v2 : Int32) : qm_run pm_m big m_208 (n0 + 2) 0 [(0, .ref 70), (1, .int v0), (2, .int v1), (3, .int v2), (4, .int (11 : Int32))] [] G U = qm_run pm_m big m_208 n0 2 [(0, .ref 70), (1, .int v0), (2, .int v1), (3, .int v2), (4, .int (11 : Int32))] [.int v1, .int v0] G U := rfl
theorem sg_nu_110 (big : Nat → List Value → qM → qW → qR) (n0 : Nat) (G : qM) (U : qW) (v0 : Int32) (v1 : Int32) (v2 : Int32) : qm_run pm_m big m_208 (n0 + 2) 5 [(0, .ref 70), (1, .int v0), (2, .int v1), (3, .int v2), (4, .int (11 : Int32))] [] G U = qm_run pm_m big m_208 n0 7 [(0, .ref 70), (1, .int v0), (2, .int v1), (3, .int v2), (4, .int (11 : Int32))] [.int v2, .int v0] G U := rfl
theorem sg_nu_111 (big : Nat → List Value → qM → qW → qR) (n0 : Nat) (G : qM) (U : qW) (v0 : Int32) (v1 : Int32) (v2 : Int32) : qm_run pm_m big m_208 (n0 + 2) 10 [(0, .ref 70), (1, .int v0), (2, .int v1), (3, .int v2), (4, .int (11 : Int32))] [] G U = qm_run pm_m big m_208 n0 12 [(0, .ref 70), (1, .int v0), (2, .int v1), (3, .int v2), (4, .int (11 : Int32))] [.int v2, .int v1] G U := rfl
theorem sg_nu_112 (big : Nat → List Value → qM → qW → qR) (n0 : Nat) (G : qM) (U : qW) (v0 : Int32) (v1 : Int32) (v2 : Int32) : qm_run pm_m big m_208 (n0 + 5) 15 [(0, .ref 70), (1, .int v0), (2, .int v1), (3, .int v2), (4, .int (11 : Int32))] [] G U = qm_run pm_m big m_208 n0 24 [(0, .ref 70), (1, .int v0), (2, .int v1), (3, .int v2), (4, .int (11 : Int32)), (5, .int (1 : Int32))] [.int v0, .ref 70] G U := rfl
theorem sg_nu_113 (big : Nat → List Value → qM → qW → qR) (n0 : Nat) (G : qM) (U : qW) (v0 : Int32) (v1 : Int32) (v2 : Int32) : qm_run pm_m big m_208 (n0 + 3) 27 [(0, .ref 70), (1, .int v0), (2, .int v1), (3, .int v2), (4, .int (11 : Int32)), (5, .int (1 : Int32))] [.int (1 : Int32)] G U = qm_run pm_m big m_208 n0 32 [(0, .ref 70), (1, .int v0), (2, .int v1), (3, .int v2), (4, .int (11 : Int32)), (5, .int (1 : Int32))] [.int v1, .ref 70] G U := rfl
theorem sg_nu_114 (big : Nat → List Value → qM → qW → qR) (n0 : Nat) (G : qM) (U : qW) (v0 : Int32) (v1 : Int32) (v2 : Int32) : qm_run pm_m big m_208 (n0 + 3) 35 [(0, .ref 70), (1, .int v0), (2, .int v1), (3, .int v2), (4, .int (11 : Int32)), (5, .int (1 : Int32))] [.int (1 : Int32)] G U = qm_run pm_m big m_208 n0 40 [(0, .ref 70), (1, .int v0), (2, .int v1), (3, .int v2), (4, .int (11 : Int32)), (5, .int (1 : Int32))] [.int v2, .ref 70] G U := rfl
theorem sg_nu_115 (big : Nat → List Value → qM → qW → qR) (n0 : Nat) (G : qM) (U : qW) (v0 : Int32) (v1 : Int32) (v2 : Int32) : qm_run pm_m big m_208 (n0 + 9) 43 [(0, .ref 70), (1, .int v0), (2, .int v1), (3, .int v2), (4, .int (11 : Int32)), (5, .int (1 : Int32))] [.int (1 : Int32)] G U = qm_run pm_m big m_208 n0 65 [(0, .ref 70), (1, .int v0), (2, .int v1), (3, .int v2), (4, .int (11 : Int32)), (5, .int (1 : Int32))] [.long (13 : Int64), .long (10 : Int64), .long (11 : Int64)] G U := rfl
theorem sg_nu_116 (big : Nat → List Value → qM → qW → qR) (n0 : Nat) (G : qM) (U : qW) (v0 : Int32) (v1 : Int32) (v2 : Int32) : qm_run pm_m big m_208 (n0 + 3) 68 [(0, .ref 70), (1, .int v0), (2, .int v1), (3, .int v2), (4, .int (11 : Int32)), (5, .int (1 : Int32))] [.int (1 : Int32)] G U = qm_run pm_m big m_208 n0 76 [(0, .ref 70), (1, .int v0), (2, .int v1), (3, .int v2), (4, .int (11 : Int32)), (5, .int (1 : Int32)), (6, .int (0 : Int32))] [] G U := rfl
theorem sg_nu_117 (big : Nat → List Value → qM → qW → qR) (n0 : Nat) (G : qM) (U : qW) (v0 : Int32) (v1 : Int32) (v2 : Int32) (v3 : Int32) (v4 : Int32) : qm_run pm_m big m_208 (n0 + 6) 150 [(0, .ref 70), (1, .int v0), (2, .int v1), (3, .int v2), (4, .int (11 : Int32)), (5, .int (1 : Int32)), (6, .int v3), (7, .int v4)] [] G U = qm_run pm_m big m_208 n0 167 [(0, .ref 70), (1, .int v0), (2, .int v1), (3, .int v2), (4, .int (11 : Int32)), (5, .int (1 : Int32)), (6, .int v3), (7, .int v4)] [.int v3, .int (1 : Int32)] G U := rfl
theorem sg_nu_118 (big : Nat → List Value → qM → qW → qR) (n0 : Nat) (G : qM) (U : qW) (v0 : Int32) (v1 : Int32) (v2 : Int32) : qm_run pm_m big m_208 (n0 + 2) 0 [(0, .ref 70), (1, .int v0), (2, .int v1), (3, .int v2), (4, .int (12 : Int32))] [] G U = qm_run pm_m big m_208 n0 2 [(0, .ref 70), (1, .int v0), (2, .int v1), (3, .int v2), (4, .int (12 : Int32))] [.int v1, .int v0] G U := rfl
theorem sg_nu_119 (big : Nat → List Value → qM → qW → qR) (n0 : Nat) (G : qM) (U : qW) (v0 : Int32) (v1 : Int32) (v2 : Int32) : qm_run pm_m big m_208 (n0 + 2) 5 [(0, .ref 70), (1, .int v0), (2, .int v1), (3, .int v2), (4, .int (12 : Int32))] [] G U = qm_run pm_m big m_208 n0 7 [(0, .ref 70), (1, .int v0), (2, .int v1), (3, .int v2), (4, .int (12 : Int32))] [.int v2, .int v0] G U := rfl
theorem sg_nu_120 (big : Nat → List Value → qM → qW → qR) (n0 : Nat) (G : qM) (U : qW) (v0 : Int32) (v1 : Int32) (v2 : Int32) : qm_run pm_m big m_208 (n0 + 2) 10 [(0, .ref 70), (1, .int v0), (2, .int v1), (3, .int v2), (4, .int (12 : Int32))] [] G U = qm_run pm_m big m_208 n0 12 [(0, .ref 70), (1, .int v0), (2, .int v1), (3, .int v2), (4, .int (12 : Int32))] [.int v2, .int v1] G U := rfl
theorem sg_nu_121 (big : Nat → List Value → qM → qW → qR) (n0 : Nat) (G : qM) (U : qW) (v0 : Int32) (v1 : Int32) (v2 : Int32) : qm_run pm_m big m_208 (n0 + 5) 15 [(0, .ref 70), (1, .int v0), (2, .int v1), (3, .int v2), (4, .int (12 : Int32))] [] G U = qm_run pm_m big m_208 n0 24 [(0, .ref 70), (1, .int v0), (2, .int v1), (3, .int v2), (4, .int (12 : Int32)), (5, .int (1 : Int32))] [.int v0, .ref 70] G U := rfl
theorem sg_nu_122 (big : Nat → List Value → qM → qW → qR) (n0 : Nat) (G : qM) (U : qW) (v0 : Int32) (v1 : Int32) (v2 : Int32) : qm_run pm_m big m_208 (n0 + 3) 27 [(0, .ref 70), (1, .int v0), (2, .int v1), (3, .int v2), (4, .int (12 : Int32)), (5, .int (1 : Int32))] [.int (1 : Int32)] G U = qm_run pm_m big m_208 n0 32 [(0, .ref 70), (1, .int v0), (2, .int v1), (3, .int v2), (4, .int (12 : Int32)), (5, .int (1 : Int32))] [.int v1, .ref 70] G U := rfl
theorem sg_nu_123 (big : Nat → List Value → qM → qW → qR) (n0 : Nat) (G : qM) (U : qW) (v0 : Int32) (v1 : Int32) (v2 : Int32) : qm_run pm_m big m_208 (n0 + 3) 35 [(0, .ref 70), (1, .int v0), (2, .int v1), (3, .int v2), (4, .int (12 : Int32)), (5, .int (1 : Int32))] [.int (1 : Int32)] G U = qm_run pm_m big m_208 n0 40 [(0, .ref 70), (1, .int v0), (2, .int v1), (3, .int v2), (4, .int (12 : Int32)), (5, .int (1 : Int32))] [.int v2, .ref 70] G U := rfl
theorem sg_nu_124 (big : Nat → List Value → qM → qW → qR) (n0 : Nat) (G : qM) (U : qW) (v0 : Int32) (v1 : Int32) (v2 : Int32) : qm_run pm_m big m_208 (n0 + 9) 43 [(0, .ref 70), (1, .int v0), (2, .int v1), (3, .int v2), (4, .int (12 : Int32)), (5, .int (1 : Int32))] [.int (1 : Int32)] G U = qm_run pm_m big m_208 n0 65 [(0, .ref 70), (1, .int v0), (2, .int v1), (3, .int v2), (4, .int (12 : Int32)), (5, .int (1 : Int32))] [.long (13 : Int64), .long (10 : Int64), .long (12 : Int64)] G U := rfl
theorem sg_nu_125 (big : Nat → List Value → qM → qW → qR) (n0 : Nat) (G : qM) (U : qW) (v0 : Int32) (v1 : Int32) (v2 : Int32) : qm_run pm_m big m_208 (n0 + 3) 68 [(0, .ref 70), (1, .int v0), (2, .int v1), (3, .int v2), (4, .int (12 : Int32)), (5, .int (1 : Int32))] [.int (1 : Int32)] G U = qm_run pm_m big m_208 n0 76 [(0, .ref 70), (1, .int v0), (2, .int v1), (3, .int v2), (4, .int (12 : Int32)), (5, .int (1 : Int32)), (6, .int (0 : Int32))] [] G U := rfl
theorem sg_nu_126 (big : Nat → List Value → qM → qW → qR) (n0 : Nat) (G : qM) (U : qW) (v0 : Int32) (v1 : Int32) (v2 : Int32) (v3 : Int32) (v4 : Int32) : qm_run pm_m big m_208 (n0 + 6) 150 [(0, .ref 70), (1, .int v0), (2, .int v1), (3, .int v2), (4, .int (12 : Int32)), (5, .int (1 : Int32)), (6, .int v3), (7, .int v4)] [] G U = qm_run pm_m big m_208 n0 167 [(0, .ref 70), (1, .int v0), (2, .int v1), (3, .int v2), (4, .int (12 : Int32)), (5, .int (1 : Int32)), (6, .int v3), (7, .int v4)] [.int v3, .int (2 : Int32)] G U := rfl
theorem sg_nu_127 (big : Nat → List Value → qM → qW → qR) (n0 : Nat) (G : qM) (U : qW) (v0 : Int32) (v1 : Int32) (v2 : Int32) : qm_run pm_m big m_208 (n0 + 2) 0 [(0, .ref 70), (1, .int v0), (2, .int v1), (3, .int v2), (4, .int (13 : Int32))] [] G U = qm_run pm_m big m_208 n0 2 [(0, .ref 70), (1, .int v0), (2, .int v1), (3, .int v2), (4, .int (13 : Int32))] [.int v1, .int v0] G U := rfl
theorem sg_nu_128 (big : Nat → List Value → qM → qW → qR) (n0 : Nat) (G : qM) (U : qW) (v0 : Int32) (v1 : Int32) (v2 : Int32) : qm_run pm_m big m_208 (n0 + 2) 5 [(0, .ref 70), (1, .int v0), (2, .int v1), (3, .int v2), (4, .int (13 : Int32))] [] G U = qm_run pm_m big m_208 n0 7 [(0, .ref 70), (1, .int v0), (2, .int v1), (3, .int v2), (4, .int (13 : Int32))] [.int v2, .int v0] G U := rfl
theorem sg_nu_129 (big : Nat → List Value → qM → qW → qR) (n0 : Nat) (G : qM) (U : qW) (v0 : Int32) (v1 : Int32) (v2 : Int32) : qm_run pm_m big m_208 (n0 + 2) 10 [(0, .ref 70), (1, .int v0), (2, .int v1), (3, .int v2), (4, .int (13 : Int32))] [] G U = qm_run pm_m big m_208 n0 12 [(0, .ref 70), (1, .int v0), (2, .int v1), (3, .int v2), (4, .int (13 : Int32))] [.int v2, .int v1] G U := rfl
theorem sg_nu_130 (big : Nat → List Value → qM → qW → qR) (n0 : Nat) (G : qM) (U : qW) (v0 : Int32) (v1 : Int32) (v2 : Int32) : qm_run pm_m big m_208 (n0 + 5) 15 [(0, .ref 70), (1, .int v0), (2, .int v1), (3, .int v2), (4, .int (13 : Int32))] [] G U = qm_run pm_m big m_208 n0 24 [(0, .ref 70), (1, .int v0), (2, .int v1), (3, .int v2), (4, .int (13 : Int32)), (5, .int (1 : Int32))] [.int v0, .ref 70] G U := rfl
theorem sg_nu_131 (big : Nat → List Value → qM → qW → qR) (n0 : Nat) (G : qM) (U : qW) (v0 : Int32) (v1 : Int32) (v2 : Int32) : qm_run pm_m big m_208 (n0 + 3) 27 [(0, .ref 70), (1, .int v0), (2, .int v1), (3, .int v2), (4, .int (13 : Int32)), (5, .int (1 : Int32))] [.int (1 : Int32)] G U = qm_run pm_m big m_208 n0 32 [(0, .ref 70), (1, .int v0), (2, .int v1), (3, .int v2), (4, .int (13 : Int32)), (5, .int (1 : Int32))] [.int v1, .ref 70] G U := rfl
theorem sg_nu_132 (big : Nat → List Value → qM → qW → qR) (n0 : Nat) (G : qM) (U : qW) (v0 : Int32) (v1 : Int32) (v2 : Int32) : qm_run pm_m big m_208 (n0 + 3) 35 [(0, .ref 70), (1, .int v0), (2, .int v1), (3, .int v2), (4, .int (13 : Int32)), (5, .int (1 : Int32))] [.int (1 : Int32)] G U = qm_run pm_m big m_208 n0 40 [(0, .ref 70), (1, .int v0), (2, .int v1), (3, .int v2), (4, .int (13 : Int32)), (5, .int (1 : Int32))] [.int v2, .ref 70] G U := rfl
theorem sg_nu_133 (big : Nat → List Value → qM → qW → qR) (n0 : Nat) (G : qM) (U : qW) (v0 : Int32) (v1 : Int32) (v2 : Int32) : qm_run pm_m big m_208 (n0 + 9) 43 [(0, .ref 70), (1, .int v0), (2, .int v1), (3, .int v2), (4, .int (13 : Int32)), (5, .int (1 : Int32))] [.int (1 : Int32)] G U = qm_run pm_m big m_208 n0 65 [(0, .ref 70), (1, .int v0), (2, .int v1), (3, .int v2), (4, .int (13 : Int32)), (5, .int (1 : Int32))] [.long (13 : Int64), .long (10 : Int64), .long (13 : Int64)] G U := rfl
theorem sg_nu_134 (big : Nat → List Value → qM → qW → qR) (n0 : Nat) (G : qM) (U : qW) (v0 : Int32) (v1 : Int32) (v2 : Int32) : qm_run pm_m big m_208 (n0 + 3) 68 [(0, .ref 70), (1, .int v0), (2, .int v1), (3, .int v2), (4, .int (13 : Int32)), (5, .int (1 : Int32))] [.int (1 : Int32)] G U = qm_run pm_m big m_208 n0 76 [(0, .ref 70), (1, .int v0), (2, .int v1), (3, .int v2), (4, .int (13 : Int32)), (5, .int (1 : Int32)), (6, .int (0 : Int32))] [] G U := rfl
theorem sg_nu_135 (big : Nat → List Value → qM → qW → qR) (n0 : Nat) (G : qM) (U : qW) (v0 : Int32) (v1 : Int32) (v2 : Int32) (v3 : Int32) (v4 : Int32) : qm_run pm_m big m_208 (n0 + 6) 150 [(0, .ref 70), (1, .int v0), (2, .int v1), (3, .int v2), (4, .int (13 : Int32)), (5, .int (1 : Int32)), (6, .int v3), (7, .int v4)] [] G U = qm_run pm_m big m_208 n0 167 [(0, .ref 70), (1, .int v0), (2, .int v1), (3, .int v2), (4, .int (13 : Int32)), (5, .int (1 : Int32)), (6, .int v3), (7, .int v4)] [.int v3, .int (3 : Int32)] G U := rfl
theorem b_fb (g : qM) (u : qW) {a b : Nat} (ha : a < 6) (hb : b < 6) (hw : ¬ g 35 0 ≤ 0) : q_BS 109 [.ref 35, .int (Int32.ofNat a), .int (Int32.ofNat b)] g u (some (.int (s_far (g 35 0) (g 36 b) (g 36 a))), g, u) := by
  refine q_bx (mm := m_109) rfl (Nat.le_of_ble_eq_true rfl) rfl ?_
  refine q_step 4 6 [(0, .ref 35), (1, .int (Int32.ofNat a)), (2, .int (Int32.ofNat b))] [.int (Int32.ofNat a), .ref 36, .ref 35] g u (fun big n0 => sg_nu_1 big n0 g u (Int32.ofNat a) (Int32.ofNat b)) ?_
  refine q_iald (j := a) (q_ixn (by omega) (by omega)) rfl rfl ?_
  refine q_call (M2 := 59) (rest := []) (b_col35 _ _ _ hw) (fun _ _ => rfl) ?_
  refine q_step 4 16 [(0, .ref 35), (1, .int (Int32.ofNat a)), (2, .int (Int32.ofNat b))] [.int (Int32.ofNat b), .ref 36, .ref 35, .int (s_col (g 35 0) (g 36 a))] g u (fun big n0 => sg_nu_2 big n0 g u (Int32.ofNat a) (Int32.ofNat b) (s_col (g 35 0) (g 36 a))) ?_
  refine q_iald (j := b) (q_ixn (by omega) (by omega)) rfl rfl ?_
  refine q_call (M2 := 59) (rest := [.int (s_col (g 35 0) (g 36 a))]) (b_col35 _ _ _ hw) (fun _ _ => rfl) ?_
  refine q_step 1 21 [(0, .ref 35), (1, .int (Int32.ofNat a)), (2, .int (Int32.ofNat b))] [.int ((s_col (g 35 0) (g 36 a)) - (s_col (g 35 0) (g 36 b)))] g u (fun big n0 => sg_nu_3 big n0 g u (Int32.ofNat a) (Int32.ofNat b) (s_col (g 35 0) (g 36 a)) (s_col (g 35 0) (g 36 b))) ?_
  refine q_call (M2 := 62) (rest := []) (b_abs _ _ _) (fun _ _ => rfl) ?_
  refine q_step 4 30 [(0, .ref 35), (1, .int (Int32.ofNat a)), (2, .int (Int32.ofNat b))] [.int (Int32.ofNat a), .ref 36, .ref 35, .int (s_abs ((s_col (g 35 0) (g 36 a)) - (s_col (g 35 0) (g 36 b))))] g u (fun big n0 => sg_nu_4 big n0 g u (Int32.ofNat a) (Int32.ofNat b) (s_abs ((s_col (g 35 0) (g 36 a)) - (s_col (g 35 0) (g 36 b))))) ?_
  refine q_iald (j := a) (q_ixn (by omega) (by omega)) rfl rfl ?_
  refine q_call (M2 := 60) (rest := [.int (s_abs ((s_col (g 35 0) (g 36 a)) - (s_col (g 35 0) (g 36 b))))]) (b_row35 _ _ _ hw) (fun _ _ => rfl) ?_
  refine q_step 4 40 [(0, .ref 35), (1, .int (Int32.ofNat a)), (2, .int (Int32.ofNat b))] [.int (Int32.ofNat b), .ref 36, .ref 35, .int (s_row (g 35 0) (g 36 a)), .int (s_abs ((s_col (g 35 0) (g 36 a)) - (s_col (g 35 0) (g 36 b))))] g u (fun big n0 => sg_nu_5 big n0 g u (Int32.ofNat a) (Int32.ofNat b) (s_abs ((s_col (g 35 0) (g 36 a)) - (s_col (g 35 0) (g 36 b)))) (s_row (g 35 0) (g 36 a))) ?_
  refine q_iald (j := b) (q_ixn (by omega) (by omega)) rfl rfl ?_
  refine q_call (M2 := 60) (rest := [.int (s_row (g 35 0) (g 36 a)), .int (s_abs ((s_col (g 35 0) (g 36 a)) - (s_col (g 35 0) (g 36 b))))]) (b_row35 _ _ _ hw) (fun _ _ => rfl) ?_
  refine q_step 1 45 [(0, .ref 35), (1, .int (Int32.ofNat a)), (2, .int (Int32.ofNat b))] [.int ((s_row (g 35 0) (g 36 a)) - (s_row (g 35 0) (g 36 b))), .int (s_abs ((s_col (g 35 0) (g 36 a)) - (s_col (g 35 0) (g 36 b))))] g u (fun big n0 => sg_nu_6 big n0 g u (Int32.ofNat a) (Int32.ofNat b) (s_abs ((s_col (g 35 0) (g 36 a)) - (s_col (g 35 0) (g 36 b)))) (s_row (g 35 0) (g 36 a)) (s_row (g 35 0) (g 36 b))) ?_
  refine q_call (M2 := 62) (rest := [.int (s_abs ((s_col (g 35 0) (g 36 a)) - (s_col (g 35 0) (g 36 b))))]) (b_abs _ _ _) (fun _ _ => rfl) ?_
  refine q_ret 2 (some (.int ((s_abs ((s_col (g 35 0) (g 36 a)) - (s_col (g 35 0) (g 36 b)))) + (s_abs ((s_row (g 35 0) (g 36 a)) - (s_row (g 35 0) (g 36 b)))))), g, u) (fun _ _ => rfl) ?_
  rfl
theorem nt_l (u : qW) {n W H p row s : Nat} {r : qM} (h6 : n ≤ 6) (hp : p < n) (hs : s ≤ 4) : ∀ k i g r1, i + k = s → w_ok n W H r1 → w_cs 35 n g r1 → w_tr n g r → q_EV m_108 11 [(0, .ref 34), (1, .ref 20), (2, .int (Int32.ofNat p)), (3, .int (Int32.ofNat row)), (4, .int (Int32.ofNat s)), (5, .int (Int32.ofNat i))] [] g u (fun R => ∃ g', R = (none, g', u) ∧ w_cs 35 n g' (f_nu n p row s k i r1) ∧ w_fc g g' ∧ w_tr n g' r) := by
  intro k
  induction k with
  | zero =>
    intro i g r1 hi h hc ht
    refine q_step 2 15 [(0, .ref 34), (1, .ref 20), (2, .int (Int32.ofNat p)), (3, .int (Int32.ofNat row)), (4, .int (Int32.ofNat s)), (5, .int (Int32.ofNat i))] [.int (Int32.ofNat s), .int (Int32.ofNat i)] g u (fun big n0 => sg_nu_7 big n0 g u (Int32.ofNat p) (Int32.ofNat row) (Int32.ofNat s) (Int32.ofNat i)) ?_
    refine q_ic_ge rfl (fun (hc0 : (Int32.ofNat s) ≤ (Int32.ofNat i)) => ?_) (fun hc0 => absurd (show (Int32.ofNat s) ≤ (Int32.ofNat i) from by exact (q_le (by omega) (by omega)).mpr (by omega)) hc0)
    refine q_ret 1 (none, g, u) (fun _ _ => rfl) ?_
    exact ⟨g, rfl, hc, w_fc_rfl g, ht⟩
  | succ k ih =>
    intro i g r1 hi h hc ht
    refine q_step 2 15 [(0, .ref 34), (1, .ref 20), (2, .int (Int32.ofNat p)), (3, .int (Int32.ofNat row)), (4, .int (Int32.ofNat s)), (5, .int (Int32.ofNat i))] [.int (Int32.ofNat s), .int (Int32.ofNat i)] g u (fun big n0 => sg_nu_7 big n0 g u (Int32.ofNat p) (Int32.ofNat row) (Int32.ofNat s) (Int32.ofNat i)) ?_
    refine q_ic_ge rfl (fun hc0 => absurd (show (Int32.ofNat s) ≤ (Int32.ofNat i) from hc0) (fun z => by exact absurd ((q_le (by omega) (by omega)).mp z) (by omega))) (fun (hc0 : ¬ ((Int32.ofNat s) ≤ (Int32.ofNat i))) => ?_)
    refine q_step 7 31 [(0, .ref 34), (1, .ref 20), (2, .int (Int32.ofNat p)), (3, .int (Int32.ofNat row)), (4, .int (Int32.ofNat s)), (5, .int (Int32.ofNat i))] [.int (Int32.ofNat s), .int (Int32.ofNat i), .int (Int32.ofNat row), .int (Int32.ofNat p), .ref 37] g u (fun big n0 => sg_nu_8 big n0 g u (Int32.ofNat p) (Int32.ofNat row) (Int32.ofNat s) (Int32.ofNat i)) ?_
    refine q_call (M2 := 96) (rest := [.int (Int32.ofNat p), .ref 37]) (b_dig (Int32.ofNat row) (Int32.ofNat i) (Int32.ofNat s) g u) (fun _ _ => rfl) ?_
    refine q_iast (j := p) (q_ixn (by omega) (by omega)) rfl rfl ?_
    refine q_step 4 43 [(0, .ref 34), (1, .ref 20), (2, .int (Int32.ofNat p)), (3, .int (Int32.ofNat row)), (4, .int (Int32.ofNat s)), (5, .int (Int32.ofNat i))] [.ref 35, .ref 28] (q_up g 37 p (f_md s row i)) u (fun big n0 => sg_nu_9 big n0 (q_up g 37 p (f_md s row i)) u (Int32.ofNat p) (Int32.ofNat row) (Int32.ofNat s) (Int32.ofNat i)) ?_
    have hk := w_ok_md (p := p) h (s_dg_4 (Int32.ofNat row) (Int32.ofNat s) (Int32.ofNat i))
    have hd := w_cs_md (p := p) (x := f_md s row i) hc
    refine q_call (M2 := 68) (rest := []) (c_st35 u hk hd) (fun _ _ => rfl) ?_
    refine q_step 2 11 [(0, .ref 34), (1, .ref 20), (2, .int (Int32.ofNat p)), (3, .int (Int32.ofNat row)), (4, .int (Int32.ofNat s)), (5, .int ((Int32.ofNat i) + (1 : Int32)))] [] (s_step 35 n (q_up g 37 p (f_md s row i))) u (fun big n0 => sg_nu_10 big n0 (s_step 35 n (q_up g 37 p (f_md s row i))) u (Int32.ofNat p) (Int32.ofNat row) (Int32.ofNat s) (Int32.ofNat i)) ?_
    have hf : w_fc g (s_step 35 n (q_up g 37 p (f_md s row i))) := w_fc.trans ((w_fc_rfl g).up (by omega)) s_step_35
    rw [q_succ]
    exact q_EV.imp (ih (i + 1) _ _ (by omega) (w_ok_rst hk) (w_step35 hk hd).2.1 (w_tr_step (w_tr_m ht))) (fun R z => by
      obtain ⟨g', e, a, b, c⟩ := z
      exact ⟨g', e, a, w_fc.trans hf b, c⟩)
theorem c_nt {n W H p row s : Nat} {g r : qM} (u : qW) (h : w_ok n W H r) (hp : p < n) (hs : s ≤ 4) (hc : w_cs 20 n g r) (ht : w_tr n g r) : ∃ g', q_BS 108 [.ref 34, .ref 20, .int (Int32.ofNat p), .int (Int32.ofNat row), .int (Int32.ofNat s)] g u (none, g', u) ∧ w_cs 35 n g' (f_nu n p row s s 0 r) ∧ w_fc g g' ∧ w_tr n g' r := by
  have hy := w_cpl h.1.2.2.2.2 hc ht
  obtain ⟨R, hR, g', e, a, b, c⟩ : ∃ R, q_BS 108 [.ref 34, .ref 20, .int (Int32.ofNat p), .int (Int32.ofNat row), .int (Int32.ofNat s)] g u R ∧ ∃ g', R = (none, g', u) ∧ w_cs 35 n g' (f_nu n p row s s 0 r) ∧ w_fc (s_cpl 35 20 g) g' ∧ w_tr n g' r := by
    refine q_bs (mm := m_108) rfl (Nat.le_of_ble_eq_true rfl) rfl ?_
    refine q_step 3 5 [(0, .ref 34), (1, .ref 20), (2, .int (Int32.ofNat p)), (3, .int (Int32.ofNat row)), (4, .int (Int32.ofNat s))] [.ref 20, .ref 35] g u (fun big n0 => sg_nu_11 big n0 g u (Int32.ofNat p) (Int32.ofNat row) (Int32.ofNat s)) ?_
    refine q_call (M2 := 42) (rest := []) (b_cpl35_20 _ _) (fun _ _ => rfl) ?_
    refine q_step 2 11 [(0, .ref 34), (1, .ref 20), (2, .int (Int32.ofNat p)), (3, .int (Int32.ofNat row)), (4, .int (Int32.ofNat s)), (5, .int (0 : Int32))] [] (s_cpl 35 20 g) u (fun big n0 => sg_nu_12 big n0 (s_cpl 35 20 g) u (Int32.ofNat p) (Int32.ofNat row) (Int32.ofNat s)) ?_
    exact nt_l u h.1.2.2.2.2 hp hs s 0 (s_cpl 35 20 g) r (by omega) h hy (w_tr_cpl ht)
  rw [e] at hR
  exact ⟨g', hR, a, w_fc.trans w_cpl_fc b, c⟩
theorem sp_in (u : qW) {n W H p a b : Nat} {r : qM} (h : w_ok n W H r) (hp : p < n) (ha : a < n) (hb : b < n) {s : Nat} (hs4 : s ≤ 4) (h4 : 4 ^ s ≤ 256) {Q : Option Value × qM × qW → Prop} : ∀ k row g, row + k = 4 ^ s → w_cs 20 n g r → w_tr n g r → (f_fi ((n_nur n p a b r) s) k row = none → ∀ g2, w_fc g g2 → w_cs 20 n g2 r → w_tr n g2 r → q_EV m_107 70 [(0, .ref 34), (1, .ref 20), (2, .int (Int32.ofNat p)), (3, .int (Int32.ofNat a)), (4, .int (Int32.ofNat b)), (5, .int (Int32.ofNat s)), (6, .int (Int32.ofNat (4 ^ s)))] [] g2 u Q) → (∀ x g2, f_fi ((n_nur n p a b r) s) k row = some x → w_fc g g2 → Q (some (.int (Int32.ofNat s * (1024 : Int32) + Int32.ofNat x)), g2, u)) → q_EV m_107 20 [(0, .ref 34), (1, .ref 20), (2, .int (Int32.ofNat p)), (3, .int (Int32.ofNat a)), (4, .int (Int32.ofNat b)), (5, .int (Int32.ofNat s)), (6, .int (Int32.ofNat row))] [] g u Q := by
  intro k
  induction k with
  | zero =>
    intro row g hrow hc ht hk hs
    refine q_step 2 24 [(0, .ref 34), (1, .ref 20), (2, .int (Int32.ofNat p)), (3, .int (Int32.ofNat a)), (4, .int (Int32.ofNat b)), (5, .int (Int32.ofNat s)), (6, .int (Int32.ofNat row))] [.int (Int32.ofNat s), .int (Int32.ofNat row)] g u (fun big n0 => sg_nu_13 big n0 g u (Int32.ofNat p) (Int32.ofNat a) (Int32.ofNat b) (Int32.ofNat s) (Int32.ofNat row)) ?_
    refine q_call (M2 := 93) (rest := [.int (Int32.ofNat row)]) (b_rows _ _ _) (fun _ _ => rfl) ?_
    refine q_ic_ge rfl (fun (hc0 : (s_rows (Int32.ofNat s)) ≤ (Int32.ofNat row)) => ?_) (fun hc0 => absurd (show (s_rows (Int32.ofNat s)) ≤ (Int32.ofNat row) from by rw [s_rows_n (by omega)]; exact (q_le (by omega) (by omega)).mpr (by omega)) hc0)
    have e : row = 4 ^ s := by omega
    rw [e]
    exact hk rfl g (w_fc_rfl g) hc ht
  | succ k ih =>
    intro row g hrow hc ht hk hs
    refine q_step 2 24 [(0, .ref 34), (1, .ref 20), (2, .int (Int32.ofNat p)), (3, .int (Int32.ofNat a)), (4, .int (Int32.ofNat b)), (5, .int (Int32.ofNat s)), (6, .int (Int32.ofNat row))] [.int (Int32.ofNat s), .int (Int32.ofNat row)] g u (fun big n0 => sg_nu_13 big n0 g u (Int32.ofNat p) (Int32.ofNat a) (Int32.ofNat b) (Int32.ofNat s) (Int32.ofNat row)) ?_
    refine q_call (M2 := 93) (rest := [.int (Int32.ofNat row)]) (b_rows _ _ _) (fun _ _ => rfl) ?_
    refine q_ic_ge rfl (fun hc0 => absurd (show (s_rows (Int32.ofNat s)) ≤ (Int32.ofNat row) from hc0) (fun z => by rw [s_rows_n (by omega)] at z; exact absurd ((q_le (by omega) (by omega)).mp z) (by omega))) (fun (hc0 : ¬ ((s_rows (Int32.ofNat s)) ≤ (Int32.ofNat row))) => ?_)
    refine q_step 5 37 [(0, .ref 34), (1, .ref 20), (2, .int (Int32.ofNat p)), (3, .int (Int32.ofNat a)), (4, .int (Int32.ofNat b)), (5, .int (Int32.ofNat s)), (6, .int (Int32.ofNat row))] [.int (Int32.ofNat s), .int (Int32.ofNat row), .int (Int32.ofNat p), .ref 20, .ref 34] g u (fun big n0 => sg_nu_14 big n0 g u (Int32.ofNat p) (Int32.ofNat a) (Int32.ofNat b) (Int32.ofNat s) (Int32.ofNat row)) ?_
    obtain ⟨g1, hnt, hc1, hf1, ht1⟩ := c_nt (row := row) u h hp hs4 hc ht
    have hkn := w_ok_nu (p := p) (row := row) (s := s) s 0 r h
    have hfb := b_fb g1 u (a := a) (b := b) (by have := h.1.2.2.2.2; omega) (by have := h.1.2.2.2.2; omega) (s_tw_far h.1.1 h.1.2.1 h.1.2.2.2.1 (w_tws hkn hc1)).1
    rw [show s_far (g1 35 0) (g1 36 b) (g1 36 a) = f_far (f_nu n p row s s 0 r) a b from by unfold f_far; rw [hc1.1.2.1, show g1 36 b = _ from (hc1.2.2 b hb).1, show g1 36 a = _ from (hc1.2.2 a ha).1]] at hfb
    refine q_call (M2 := 108) (rest := []) (hnt) (fun _ _ => rfl) ?_
    refine q_step 4 47 [(0, .ref 34), (1, .ref 20), (2, .int (Int32.ofNat p)), (3, .int (Int32.ofNat a)), (4, .int (Int32.ofNat b)), (5, .int (Int32.ofNat s)), (6, .int (Int32.ofNat row))] [.int (Int32.ofNat b), .int (Int32.ofNat a), .ref 35] g1 u (fun big n0 => sg_nu_15 big n0 g1 u (Int32.ofNat p) (Int32.ofNat a) (Int32.ofNat b) (Int32.ofNat s) (Int32.ofNat row)) ?_
    refine q_call (M2 := 109) (rest := []) (hfb) (fun _ _ => rfl) ?_
    refine q_step 1 51 [(0, .ref 34), (1, .ref 20), (2, .int (Int32.ofNat p)), (3, .int (Int32.ofNat a)), (4, .int (Int32.ofNat b)), (5, .int (Int32.ofNat s)), (6, .int (Int32.ofNat row))] [.int (1 : Int32), .int (f_far (f_nu n p row s s 0 r) a b)] g1 u (fun big n0 => sg_nu_16 big n0 g1 u (Int32.ofNat p) (Int32.ofNat a) (Int32.ofNat b) (Int32.ofNat s) (Int32.ofNat row) (f_far (f_nu n p row s s 0 r) a b)) ?_
    refine q_ic_le rfl (fun (hc1 : (f_far (f_nu n p row s s 0 r) a b) ≤ (1 : Int32)) => ?_) (fun (hc1 : ¬ ((f_far (f_nu n p row s s 0 r) a b) ≤ (1 : Int32))) => ?_)
    · refine q_step 2 20 [(0, .ref 34), (1, .ref 20), (2, .int (Int32.ofNat p)), (3, .int (Int32.ofNat a)), (4, .int (Int32.ofNat b)), (5, .int (Int32.ofNat s)), (6, .int ((Int32.ofNat row) + (1 : Int32)))] [] g1 u (fun big n0 => sg_nu_17 big n0 g1 u (Int32.ofNat p) (Int32.ofNat a) (Int32.ofNat b) (Int32.ofNat s) (Int32.ofNat row)) ?_
      have e : f_fi ((n_nur n p a b r) s) (k + 1) row = f_fi ((n_nur n p a b r) s) k (row + 1) := by rw [f_fi, if_pos (n_nur_iff.mpr hc1)]
      rw [q_succ]
      exact ih (row + 1) g1 (by omega) (w_cs_fc hf1 hc) ht1 (fun z g2 f1 => hk (e.trans z) g2 (w_fc.trans hf1 f1)) (fun x g2 z f1 => hs x g2 (e.trans z) (w_fc.trans hf1 f1))
    · refine q_ret 6 (some (.int (((Int32.ofNat s) * (1024 : Int32)) + (Int32.ofNat row))), g1, u) (fun _ _ => rfl) ?_
      exact hs row g1 (by rw [f_fi, if_neg (fun z => hc1 (n_nur_iff.mp z))]) hf1
theorem sp_ou (u : qW) {n W H p a b : Nat} {r : qM} (h : w_ok n W H r) (hp : p < n) (ha : a < n) (hb : b < n) : ∀ k s g, s + k = 5 → w_cs 20 n g r → w_tr n g r → q_EV m_107 11 [(0, .ref 34), (1, .ref 20), (2, .int (Int32.ofNat p)), (3, .int (Int32.ofNat a)), (4, .int (Int32.ofNat b)), (5, .int (Int32.ofNat s))] [] g u (w_po w_fc g (.int (f_enc (f_nof (n_nur n p a b r) k s)))) := by
  intro k
  induction k with
  | zero =>
    intro s g hi hc ht
    refine q_step 2 14 [(0, .ref 34), (1, .ref 20), (2, .int (Int32.ofNat p)), (3, .int (Int32.ofNat a)), (4, .int (Int32.ofNat b)), (5, .int (Int32.ofNat s))] [.int (4 : Int32), .int (Int32.ofNat s)] g u (fun big n0 => sg_nu_18 big n0 g u (Int32.ofNat p) (Int32.ofNat a) (Int32.ofNat b) (Int32.ofNat s)) ?_
    refine q_ic_gt rfl (fun (hc0 : (4 : Int32) < (Int32.ofNat s)) => ?_) (fun hc0 => absurd (show (4 : Int32) < (Int32.ofNat s) from by rw [show s = 5 by omega]; decide) hc0)
    refine q_ret 2 (some (.int (Int8.toInt32 (Int8.ofInt (-4)))), g, u) (fun _ _ => rfl) ?_
    exact ⟨g, u, rfl, w_fc_rfl g⟩
  | succ k ih =>
    intro s g hi hc ht
    refine q_step 2 14 [(0, .ref 34), (1, .ref 20), (2, .int (Int32.ofNat p)), (3, .int (Int32.ofNat a)), (4, .int (Int32.ofNat b)), (5, .int (Int32.ofNat s))] [.int (4 : Int32), .int (Int32.ofNat s)] g u (fun big n0 => sg_nu_18 big n0 g u (Int32.ofNat p) (Int32.ofNat a) (Int32.ofNat b) (Int32.ofNat s)) ?_
    refine q_ic_gt rfl (fun hc0 => absurd (show (4 : Int32) < (Int32.ofNat s) from hc0) (fun z => by have z1 := (q_lt (i := 4) (j := s) (by omega) (by omega)).mp z; omega)) (fun (hc0 : ¬ ((4 : Int32) < (Int32.ofNat s))) => ?_)
    refine q_step 2 20 [(0, .ref 34), (1, .ref 20), (2, .int (Int32.ofNat p)), (3, .int (Int32.ofNat a)), (4, .int (Int32.ofNat b)), (5, .int (Int32.ofNat s)), (6, .int (0 : Int32))] [] g u (fun big n0 => sg_nu_19 big n0 g u (Int32.ofNat p) (Int32.ofNat a) (Int32.ofNat b) (Int32.ofNat s)) ?_
    refine sp_in u h hp ha hb (s := s) (by omega) (s_44 (by omega)) (4 ^ s) 0 g (by omega) hc ht (fun hz g2 f1 hc2 ht2 => ?_) (fun x g2 hx f1 => ?_)
    · refine q_step 2 11 [(0, .ref 34), (1, .ref 20), (2, .int (Int32.ofNat p)), (3, .int (Int32.ofNat a)), (4, .int (Int32.ofNat b)), (5, .int ((Int32.ofNat s) + (1 : Int32))), (6, .int (Int32.ofNat (4 ^ s)))] [] g2 u (fun big n0 => sg_nu_20 big n0 g2 u (Int32.ofNat p) (Int32.ofNat a) (Int32.ofNat b) (Int32.ofNat s) (Int32.ofNat (4 ^ s))) ?_
      refine q_weak [(0, .ref 34), (1, .ref 20), (2, .int (Int32.ofNat p)), (3, .int (Int32.ofNat a)), (4, .int (Int32.ofNat b)), (5, .int ((Int32.ofNat s) + (1 : Int32)))] (q_sub.cons rfl (q_sub.cons rfl (q_sub.cons rfl (q_sub.cons rfl (q_sub.cons rfl (q_sub.cons rfl q_sub.nil)))))) ?_
      have e : f_nof (n_nur n p a b r) (k + 1) s = f_nof (n_nur n p a b r) k (s + 1) := by rw [f_nof, hz]
      rw [q_succ]
      exact q_EV.imp (ih (s + 1) g2 (by omega) hc2 ht2) (fun R z => w_po_c f1 (by rw [e]) z)
    · exact ⟨g2, u, by rw [f_nof, hx, show (1024 : Int32) = Int32.ofNat 1024 from rfl, q_mul, q_add]; rfl, f1⟩
theorem c_par107 {n W H : Nat} {g r : qM} (u : qW) (h : w_ok n W H r) (hc : w_cs 20 n g r) {p a b : Nat} (hp : p < n) (ha : a < n) (hb : b < n) : w_BS w_fc 107 [.ref 34, .ref 20, .int (Int32.ofNat p), .int (Int32.ofNat a), .int (Int32.ofNat b)] g u (.int (f_enc (f_nur n p a b r))) := by
  refine w_bs (mm := m_107) rfl (Nat.le_of_ble_eq_true rfl) rfl ?_
  have h5 : n ≤ 6 := h.1.2.2.2.2
  have hy := w_cpy (a := 35) (b := 20) h5 (by omega) hc
  refine q_step 3 5 [(0, .ref 34), (1, .ref 20), (2, .int (Int32.ofNat p)), (3, .int (Int32.ofNat a)), (4, .int (Int32.ofNat b))] [.ref 20, .ref 35] g u (fun big n0 => sg_nu_21 big n0 g u (Int32.ofNat p) (Int32.ofNat a) (Int32.ofNat b)) ?_
  refine q_call (M2 := 41) (rest := []) (b_cpy35_20 _ _) (fun _ _ => rfl) ?_
  refine q_step 2 11 [(0, .ref 34), (1, .ref 20), (2, .int (Int32.ofNat p)), (3, .int (Int32.ofNat a)), (4, .int (Int32.ofNat b)), (5, .int (0 : Int32))] [] (s_cpy 35 20 g) u (fun big n0 => sg_nu_22 big n0 (s_cpy 35 20 g) u (Int32.ofNat p) (Int32.ofNat a) (Int32.ofNat b)) ?_
  exact q_EV.imp (sp_ou u h hp ha hb 5 0 (s_cpy 35 20 g) (by omega) (w_cs_fc w_cpy_fc hc) (w_cs_tr hy)) (fun R z => w_po_c w_cpy_fc rfl z)
theorem c_nurse0 {n W H : Nat} {g r : qM} (u : qW) (h : w_ok n W H r) (hc : w_cs 20 n g r) {p a b : Nat} (hp : p < n) (ha : a < n) (hb : b < n) (hpa : p ≠ a) (hpb : p ≠ b) (hab : a ≠ b) : w_BS w_fc 106 [.ref 8, .int (Int32.ofNat p), .int (Int32.ofNat a), .int (Int32.ofNat b), .int (0 : Int32)] g u (.int (f_nuw 0 (f_nur n p a b r))) := by
  refine w_bs (mm := m_106) rfl (Nat.le_of_ble_eq_true rfl) rfl ?_
  have h5 : n ≤ 6 := h.1.2.2.2.2
  obtain ⟨g1, u1, hbb, hf⟩ := c_par107 u h hc hp ha hb
  cases hF : f_nur n p a b r with
  | none =>
    rw [hF] at hbb
    refine q_step 3 5 [(0, .ref 8), (1, .int (Int32.ofNat p)), (2, .int (Int32.ofNat a)), (3, .int (Int32.ofNat b)), (4, .int (0 : Int32))] [.int (Int32.ofNat p), .ref 20] g u (fun big n0 => sg_nu_23 big n0 g u (Int32.ofNat p) (Int32.ofNat a) (Int32.ofNat b)) ?_
    refine q_call (M2 := 40) (rest := []) (b_hasOne1 g u (hc.1.1.trans h.2.1) h.1.2.2.2.2 hp) (fun _ _ => rfl) ?_
    refine q_step 4 16 [(0, .ref 8), (1, .int (Int32.ofNat p)), (2, .int (Int32.ofNat a)), (3, .int (Int32.ofNat b)), (4, .int (0 : Int32))] [.int (Int32.ofNat a), .ref 20] g u (fun big n0 => sg_nu_24 big n0 g u (Int32.ofNat p) (Int32.ofNat a) (Int32.ofNat b)) ?_
    refine q_call (M2 := 40) (rest := []) (b_hasOne1 g u (hc.1.1.trans h.2.1) h.1.2.2.2.2 ha) (fun _ _ => rfl) ?_
    refine q_step 4 27 [(0, .ref 8), (1, .int (Int32.ofNat p)), (2, .int (Int32.ofNat a)), (3, .int (Int32.ofNat b)), (4, .int (0 : Int32))] [.int (Int32.ofNat b), .ref 20] g u (fun big n0 => sg_nu_25 big n0 g u (Int32.ofNat p) (Int32.ofNat a) (Int32.ofNat b)) ?_
    refine q_call (M2 := 40) (rest := []) (b_hasOne1 g u (hc.1.1.trans h.2.1) h.1.2.2.2.2 hb) (fun _ _ => rfl) ?_
    refine q_step 3 35 [(0, .ref 8), (1, .int (Int32.ofNat p)), (2, .int (Int32.ofNat a)), (3, .int (Int32.ofNat b)), (4, .int (0 : Int32))] [.int (Int32.ofNat a), .int (Int32.ofNat p)] g u (fun big n0 => sg_nu_26 big n0 g u (Int32.ofNat p) (Int32.ofNat a) (Int32.ofNat b)) ?_
    refine q_ic_eq rfl (fun hc0 => absurd (show (Int32.ofNat p) = (Int32.ofNat a) from hc0) (fun z => hpa ((q_eq (by omega) (by omega)).mp z))) (fun (hc0 : ¬ ((Int32.ofNat p) = (Int32.ofNat a))) => ?_)
    refine q_step 2 40 [(0, .ref 8), (1, .int (Int32.ofNat p)), (2, .int (Int32.ofNat a)), (3, .int (Int32.ofNat b)), (4, .int (0 : Int32))] [.int (Int32.ofNat b), .int (Int32.ofNat p)] g u (fun big n0 => sg_nu_27 big n0 g u (Int32.ofNat p) (Int32.ofNat a) (Int32.ofNat b)) ?_
    refine q_ic_eq rfl (fun hc1 => absurd (show (Int32.ofNat p) = (Int32.ofNat b) from hc1) (fun z => hpb ((q_eq (by omega) (by omega)).mp z))) (fun (hc1 : ¬ ((Int32.ofNat p) = (Int32.ofNat b))) => ?_)
    refine q_step 2 45 [(0, .ref 8), (1, .int (Int32.ofNat p)), (2, .int (Int32.ofNat a)), (3, .int (Int32.ofNat b)), (4, .int (0 : Int32))] [.int (Int32.ofNat b), .int (Int32.ofNat a)] g u (fun big n0 => sg_nu_28 big n0 g u (Int32.ofNat p) (Int32.ofNat a) (Int32.ofNat b)) ?_
    refine q_ic_ne rfl (fun hc2 => absurd (show (Int32.ofNat a) = (Int32.ofNat b) from hc2) (fun z => hab ((q_eq (by omega) (by omega)).mp z))) (fun (hc2 : ¬ ((Int32.ofNat a) = (Int32.ofNat b))) => ?_)
    refine q_step 13 88 [(0, .ref 8), (1, .int (Int32.ofNat p)), (2, .int (Int32.ofNat a)), (3, .int (Int32.ofNat b)), (4, .int (0 : Int32)), (5, .int ((0 : Int32) - (10 : Int32)))] [.int (Int32.ofNat b), .int (Int32.ofNat a), .int (Int32.ofNat p), .ref 20, .ref 34] g u (fun big n0 => sg_nu_29 big n0 g u (Int32.ofNat p) (Int32.ofNat a) (Int32.ofNat b)) ?_
    refine q_call (M2 := 107) (rest := []) (hbb) (fun _ _ => rfl) ?_
    refine q_ret 6 (some (.int (Int8.toInt32 (Int8.ofInt (-4)))), g1, u1) (fun _ _ => rfl) ?_
    exact ⟨g1, u1, rfl, hf⟩
  | some z =>
    obtain ⟨s, row⟩ := z
    rw [hF] at hbb
    have hl := f_nof_lt 5 0 s row hF
    have h44 := s_44 (s := s) (by omega)
    refine q_step 3 5 [(0, .ref 8), (1, .int (Int32.ofNat p)), (2, .int (Int32.ofNat a)), (3, .int (Int32.ofNat b)), (4, .int (0 : Int32))] [.int (Int32.ofNat p), .ref 20] g u (fun big n0 => sg_nu_23 big n0 g u (Int32.ofNat p) (Int32.ofNat a) (Int32.ofNat b)) ?_
    refine q_call (M2 := 40) (rest := []) (b_hasOne1 g u (hc.1.1.trans h.2.1) h.1.2.2.2.2 hp) (fun _ _ => rfl) ?_
    refine q_step 4 16 [(0, .ref 8), (1, .int (Int32.ofNat p)), (2, .int (Int32.ofNat a)), (3, .int (Int32.ofNat b)), (4, .int (0 : Int32))] [.int (Int32.ofNat a), .ref 20] g u (fun big n0 => sg_nu_24 big n0 g u (Int32.ofNat p) (Int32.ofNat a) (Int32.ofNat b)) ?_
    refine q_call (M2 := 40) (rest := []) (b_hasOne1 g u (hc.1.1.trans h.2.1) h.1.2.2.2.2 ha) (fun _ _ => rfl) ?_
    refine q_step 4 27 [(0, .ref 8), (1, .int (Int32.ofNat p)), (2, .int (Int32.ofNat a)), (3, .int (Int32.ofNat b)), (4, .int (0 : Int32))] [.int (Int32.ofNat b), .ref 20] g u (fun big n0 => sg_nu_25 big n0 g u (Int32.ofNat p) (Int32.ofNat a) (Int32.ofNat b)) ?_
    refine q_call (M2 := 40) (rest := []) (b_hasOne1 g u (hc.1.1.trans h.2.1) h.1.2.2.2.2 hb) (fun _ _ => rfl) ?_
    refine q_step 3 35 [(0, .ref 8), (1, .int (Int32.ofNat p)), (2, .int (Int32.ofNat a)), (3, .int (Int32.ofNat b)), (4, .int (0 : Int32))] [.int (Int32.ofNat a), .int (Int32.ofNat p)] g u (fun big n0 => sg_nu_26 big n0 g u (Int32.ofNat p) (Int32.ofNat a) (Int32.ofNat b)) ?_
    refine q_ic_eq rfl (fun hc0 => absurd (show (Int32.ofNat p) = (Int32.ofNat a) from hc0) (fun z => hpa ((q_eq (by omega) (by omega)).mp z))) (fun (hc0 : ¬ ((Int32.ofNat p) = (Int32.ofNat a))) => ?_)
    refine q_step 2 40 [(0, .ref 8), (1, .int (Int32.ofNat p)), (2, .int (Int32.ofNat a)), (3, .int (Int32.ofNat b)), (4, .int (0 : Int32))] [.int (Int32.ofNat b), .int (Int32.ofNat p)] g u (fun big n0 => sg_nu_27 big n0 g u (Int32.ofNat p) (Int32.ofNat a) (Int32.ofNat b)) ?_
    refine q_ic_eq rfl (fun hc1 => absurd (show (Int32.ofNat p) = (Int32.ofNat b) from hc1) (fun z => hpb ((q_eq (by omega) (by omega)).mp z))) (fun (hc1 : ¬ ((Int32.ofNat p) = (Int32.ofNat b))) => ?_)
    refine q_step 2 45 [(0, .ref 8), (1, .int (Int32.ofNat p)), (2, .int (Int32.ofNat a)), (3, .int (Int32.ofNat b)), (4, .int (0 : Int32))] [.int (Int32.ofNat b), .int (Int32.ofNat a)] g u (fun big n0 => sg_nu_28 big n0 g u (Int32.ofNat p) (Int32.ofNat a) (Int32.ofNat b)) ?_
    refine q_ic_ne rfl (fun hc2 => absurd (show (Int32.ofNat a) = (Int32.ofNat b) from hc2) (fun z => hab ((q_eq (by omega) (by omega)).mp z))) (fun (hc2 : ¬ ((Int32.ofNat a) = (Int32.ofNat b))) => ?_)
    refine q_step 13 88 [(0, .ref 8), (1, .int (Int32.ofNat p)), (2, .int (Int32.ofNat a)), (3, .int (Int32.ofNat b)), (4, .int (0 : Int32)), (5, .int ((0 : Int32) - (10 : Int32)))] [.int (Int32.ofNat b), .int (Int32.ofNat a), .int (Int32.ofNat p), .ref 20, .ref 34] g u (fun big n0 => sg_nu_29 big n0 g u (Int32.ofNat p) (Int32.ofNat a) (Int32.ofNat b)) ?_
    refine q_call (M2 := 107) (rest := []) (hbb) (fun _ _ => rfl) ?_
    refine q_step 3 97 [(0, .ref 8), (1, .int (Int32.ofNat p)), (2, .int (Int32.ofNat a)), (3, .int (Int32.ofNat b)), (4, .int (0 : Int32)), (5, .int ((0 : Int32) - (10 : Int32))), (6, .int (Int32.ofNat (s * 1024 + row)))] [.int (Int8.toInt32 (Int8.ofInt (-4))), .int (Int32.ofNat (s * 1024 + row))] g1 u1 (fun big n0 => sg_nu_30 big n0 g1 u1 (Int32.ofNat p) (Int32.ofNat a) (Int32.ofNat b) (Int32.ofNat (s * 1024 + row))) ?_
    refine q_ic_ne rfl (fun hc3 => absurd (show (Int32.ofNat (s * 1024 + row)) = (Int8.toInt32 (Int8.ofInt (-4))) from hc3) (q_none_ne (by omega))) (fun (hc3 : ¬ ((Int32.ofNat (s * 1024 + row)) = (Int8.toInt32 (Int8.ofInt (-4))))) => ?_)
    refine q_step 1 105 [(0, .ref 8), (1, .int (Int32.ofNat p)), (2, .int (Int32.ofNat a)), (3, .int (Int32.ofNat b)), (4, .int (0 : Int32)), (5, .int ((0 : Int32) - (10 : Int32))), (6, .int (Int32.ofNat (s * 1024 + row)))] [.int (Int32.ofNat (s * 1024 + row))] g1 u1 (fun big n0 => sg_nu_31 big n0 g1 u1 (Int32.ofNat p) (Int32.ofNat a) (Int32.ofNat b) (Int32.ofNat (s * 1024 + row))) ?_
    refine q_call (M2 := 87) (rest := []) (b_up g1 u1 (by omega) (by omega)) (fun _ _ => rfl) ?_
    refine q_ret 5 (some (.int (Int32.ofNat s)), g1, u1) (fun _ _ => rfl) ?_
    exact ⟨g1, u1, rfl, hf⟩
theorem c_nurse10 {n W H : Nat} {g r : qM} (u : qW) (h : w_ok n W H r) (hc : w_cs 20 n g r) {p a b : Nat} (hp : p < n) (ha : a < n) (hb : b < n) (hpa : p ≠ a) (hpb : p ≠ b) (hab : a ≠ b) : w_BS w_fc 106 [.ref 8, .int (Int32.ofNat p), .int (Int32.ofNat a), .int (Int32.ofNat b), .int (10 : Int32)] g u (.int (f_nuw 10 (f_nur n p a b r))) := by
  refine w_bs (mm := m_106) rfl (Nat.le_of_ble_eq_true rfl) rfl ?_
  have h5 : n ≤ 6 := h.1.2.2.2.2
  obtain ⟨g1, u1, hbb, hf⟩ := c_par107 u h hc hp ha hb
  cases hF : f_nur n p a b r with
  | none =>
    rw [hF] at hbb
    refine q_step 3 5 [(0, .ref 8), (1, .int (Int32.ofNat p)), (2, .int (Int32.ofNat a)), (3, .int (Int32.ofNat b)), (4, .int (10 : Int32))] [.int (Int32.ofNat p), .ref 20] g u (fun big n0 => sg_nu_32 big n0 g u (Int32.ofNat p) (Int32.ofNat a) (Int32.ofNat b)) ?_
    refine q_call (M2 := 40) (rest := []) (b_hasOne1 g u (hc.1.1.trans h.2.1) h.1.2.2.2.2 hp) (fun _ _ => rfl) ?_
    refine q_step 4 16 [(0, .ref 8), (1, .int (Int32.ofNat p)), (2, .int (Int32.ofNat a)), (3, .int (Int32.ofNat b)), (4, .int (10 : Int32))] [.int (Int32.ofNat a), .ref 20] g u (fun big n0 => sg_nu_33 big n0 g u (Int32.ofNat p) (Int32.ofNat a) (Int32.ofNat b)) ?_
    refine q_call (M2 := 40) (rest := []) (b_hasOne1 g u (hc.1.1.trans h.2.1) h.1.2.2.2.2 ha) (fun _ _ => rfl) ?_
    refine q_step 4 27 [(0, .ref 8), (1, .int (Int32.ofNat p)), (2, .int (Int32.ofNat a)), (3, .int (Int32.ofNat b)), (4, .int (10 : Int32))] [.int (Int32.ofNat b), .ref 20] g u (fun big n0 => sg_nu_34 big n0 g u (Int32.ofNat p) (Int32.ofNat a) (Int32.ofNat b)) ?_
    refine q_call (M2 := 40) (rest := []) (b_hasOne1 g u (hc.1.1.trans h.2.1) h.1.2.2.2.2 hb) (fun _ _ => rfl) ?_
    refine q_step 3 35 [(0, .ref 8), (1, .int (Int32.ofNat p)), (2, .int (Int32.ofNat a)), (3, .int (Int32.ofNat b)), (4, .int (10 : Int32))] [.int (Int32.ofNat a), .int (Int32.ofNat p)] g u (fun big n0 => sg_nu_35 big n0 g u (Int32.ofNat p) (Int32.ofNat a) (Int32.ofNat b)) ?_
    refine q_ic_eq rfl (fun hc0 => absurd (show (Int32.ofNat p) = (Int32.ofNat a) from hc0) (fun z => hpa ((q_eq (by omega) (by omega)).mp z))) (fun (hc0 : ¬ ((Int32.ofNat p) = (Int32.ofNat a))) => ?_)
    refine q_step 2 40 [(0, .ref 8), (1, .int (Int32.ofNat p)), (2, .int (Int32.ofNat a)), (3, .int (Int32.ofNat b)), (4, .int (10 : Int32))] [.int (Int32.ofNat b), .int (Int32.ofNat p)] g u (fun big n0 => sg_nu_36 big n0 g u (Int32.ofNat p) (Int32.ofNat a) (Int32.ofNat b)) ?_
    refine q_ic_eq rfl (fun hc1 => absurd (show (Int32.ofNat p) = (Int32.ofNat b) from hc1) (fun z => hpb ((q_eq (by omega) (by omega)).mp z))) (fun (hc1 : ¬ ((Int32.ofNat p) = (Int32.ofNat b))) => ?_)
    refine q_step 2 45 [(0, .ref 8), (1, .int (Int32.ofNat p)), (2, .int (Int32.ofNat a)), (3, .int (Int32.ofNat b)), (4, .int (10 : Int32))] [.int (Int32.ofNat b), .int (Int32.ofNat a)] g u (fun big n0 => sg_nu_37 big n0 g u (Int32.ofNat p) (Int32.ofNat a) (Int32.ofNat b)) ?_
    refine q_ic_ne rfl (fun hc2 => absurd (show (Int32.ofNat a) = (Int32.ofNat b) from hc2) (fun z => hab ((q_eq (by omega) (by omega)).mp z))) (fun (hc2 : ¬ ((Int32.ofNat a) = (Int32.ofNat b))) => ?_)
    refine q_step 19 88 [(0, .ref 8), (1, .int (Int32.ofNat p)), (2, .int (Int32.ofNat a)), (3, .int (Int32.ofNat b)), (4, .int (10 : Int32)), (5, .int (0 : Int32))] [.int (Int32.ofNat b), .int (Int32.ofNat a), .int (Int32.ofNat p), .ref 20, .ref 34] g u (fun big n0 => sg_nu_38 big n0 g u (Int32.ofNat p) (Int32.ofNat a) (Int32.ofNat b)) ?_
    refine q_call (M2 := 107) (rest := []) (hbb) (fun _ _ => rfl) ?_
    refine q_ret 6 (some (.int (Int8.toInt32 (Int8.ofInt (-4)))), g1, u1) (fun _ _ => rfl) ?_
    exact ⟨g1, u1, rfl, hf⟩
  | some z =>
    obtain ⟨s, row⟩ := z
    rw [hF] at hbb
    have hl := f_nof_lt 5 0 s row hF
    have h44 := s_44 (s := s) (by omega)
    refine q_step 3 5 [(0, .ref 8), (1, .int (Int32.ofNat p)), (2, .int (Int32.ofNat a)), (3, .int (Int32.ofNat b)), (4, .int (10 : Int32))] [.int (Int32.ofNat p), .ref 20] g u (fun big n0 => sg_nu_32 big n0 g u (Int32.ofNat p) (Int32.ofNat a) (Int32.ofNat b)) ?_
    refine q_call (M2 := 40) (rest := []) (b_hasOne1 g u (hc.1.1.trans h.2.1) h.1.2.2.2.2 hp) (fun _ _ => rfl) ?_
    refine q_step 4 16 [(0, .ref 8), (1, .int (Int32.ofNat p)), (2, .int (Int32.ofNat a)), (3, .int (Int32.ofNat b)), (4, .int (10 : Int32))] [.int (Int32.ofNat a), .ref 20] g u (fun big n0 => sg_nu_33 big n0 g u (Int32.ofNat p) (Int32.ofNat a) (Int32.ofNat b)) ?_
    refine q_call (M2 := 40) (rest := []) (b_hasOne1 g u (hc.1.1.trans h.2.1) h.1.2.2.2.2 ha) (fun _ _ => rfl) ?_
    refine q_step 4 27 [(0, .ref 8), (1, .int (Int32.ofNat p)), (2, .int (Int32.ofNat a)), (3, .int (Int32.ofNat b)), (4, .int (10 : Int32))] [.int (Int32.ofNat b), .ref 20] g u (fun big n0 => sg_nu_34 big n0 g u (Int32.ofNat p) (Int32.ofNat a) (Int32.ofNat b)) ?_
    refine q_call (M2 := 40) (rest := []) (b_hasOne1 g u (hc.1.1.trans h.2.1) h.1.2.2.2.2 hb) (fun _ _ => rfl) ?_
    refine q_step 3 35 [(0, .ref 8), (1, .int (Int32.ofNat p)), (2, .int (Int32.ofNat a)), (3, .int (Int32.ofNat b)), (4, .int (10 : Int32))] [.int (Int32.ofNat a), .int (Int32.ofNat p)] g u (fun big n0 => sg_nu_35 big n0 g u (Int32.ofNat p) (Int32.ofNat a) (Int32.ofNat b)) ?_
    refine q_ic_eq rfl (fun hc0 => absurd (show (Int32.ofNat p) = (Int32.ofNat a) from hc0) (fun z => hpa ((q_eq (by omega) (by omega)).mp z))) (fun (hc0 : ¬ ((Int32.ofNat p) = (Int32.ofNat a))) => ?_)
    refine q_step 2 40 [(0, .ref 8), (1, .int (Int32.ofNat p)), (2, .int (Int32.ofNat a)), (3, .int (Int32.ofNat b)), (4, .int (10 : Int32))] [.int (Int32.ofNat b), .int (Int32.ofNat p)] g u (fun big n0 => sg_nu_36 big n0 g u (Int32.ofNat p) (Int32.ofNat a) (Int32.ofNat b)) ?_
    refine q_ic_eq rfl (fun hc1 => absurd (show (Int32.ofNat p) = (Int32.ofNat b) from hc1) (fun z => hpb ((q_eq (by omega) (by omega)).mp z))) (fun (hc1 : ¬ ((Int32.ofNat p) = (Int32.ofNat b))) => ?_)
    refine q_step 2 45 [(0, .ref 8), (1, .int (Int32.ofNat p)), (2, .int (Int32.ofNat a)), (3, .int (Int32.ofNat b)), (4, .int (10 : Int32))] [.int (Int32.ofNat b), .int (Int32.ofNat a)] g u (fun big n0 => sg_nu_37 big n0 g u (Int32.ofNat p) (Int32.ofNat a) (Int32.ofNat b)) ?_
    refine q_ic_ne rfl (fun hc2 => absurd (show (Int32.ofNat a) = (Int32.ofNat b) from hc2) (fun z => hab ((q_eq (by omega) (by omega)).mp z))) (fun (hc2 : ¬ ((Int32.ofNat a) = (Int32.ofNat b))) => ?_)
    refine q_step 19 88 [(0, .ref 8), (1, .int (Int32.ofNat p)), (2, .int (Int32.ofNat a)), (3, .int (Int32.ofNat b)), (4, .int (10 : Int32)), (5, .int (0 : Int32))] [.int (Int32.ofNat b), .int (Int32.ofNat a), .int (Int32.ofNat p), .ref 20, .ref 34] g u (fun big n0 => sg_nu_38 big n0 g u (Int32.ofNat p) (Int32.ofNat a) (Int32.ofNat b)) ?_
    refine q_call (M2 := 107) (rest := []) (hbb) (fun _ _ => rfl) ?_
    refine q_step 3 97 [(0, .ref 8), (1, .int (Int32.ofNat p)), (2, .int (Int32.ofNat a)), (3, .int (Int32.ofNat b)), (4, .int (10 : Int32)), (5, .int (0 : Int32)), (6, .int (Int32.ofNat (s * 1024 + row)))] [.int (Int8.toInt32 (Int8.ofInt (-4))), .int (Int32.ofNat (s * 1024 + row))] g1 u1 (fun big n0 => sg_nu_39 big n0 g1 u1 (Int32.ofNat p) (Int32.ofNat a) (Int32.ofNat b) (Int32.ofNat (s * 1024 + row))) ?_
    refine q_ic_ne rfl (fun hc3 => absurd (show (Int32.ofNat (s * 1024 + row)) = (Int8.toInt32 (Int8.ofInt (-4))) from hc3) (q_none_ne (by omega))) (fun (hc3 : ¬ ((Int32.ofNat (s * 1024 + row)) = (Int8.toInt32 (Int8.ofInt (-4))))) => ?_)
    refine q_step 1 105 [(0, .ref 8), (1, .int (Int32.ofNat p)), (2, .int (Int32.ofNat a)), (3, .int (Int32.ofNat b)), (4, .int (10 : Int32)), (5, .int (0 : Int32)), (6, .int (Int32.ofNat (s * 1024 + row)))] [.int (Int32.ofNat (s * 1024 + row))] g1 u1 (fun big n0 => sg_nu_40 big n0 g1 u1 (Int32.ofNat p) (Int32.ofNat a) (Int32.ofNat b) (Int32.ofNat (s * 1024 + row))) ?_
    refine q_call (M2 := 87) (rest := []) (b_up g1 u1 (by omega) (by omega)) (fun _ _ => rfl) ?_
    refine q_step 5 122 [(0, .ref 8), (1, .int (Int32.ofNat p)), (2, .int (Int32.ofNat a)), (3, .int (Int32.ofNat b)), (4, .int (10 : Int32)), (5, .int (0 : Int32)), (6, .int (Int32.ofNat (s * 1024 + row))), (7, .int (Int32.ofNat s))] [.int (Int32.ofNat s), .int (0 : Int32)] g1 u1 (fun big n0 => sg_nu_41 big n0 g1 u1 (Int32.ofNat p) (Int32.ofNat a) (Int32.ofNat b) (Int32.ofNat (s * 1024 + row)) (Int32.ofNat s)) ?_
    refine q_ic_ge rfl (fun (hc4 : (Int32.ofNat s) ≤ (0 : Int32)) => ?_) (fun (hc4 : ¬ ((Int32.ofNat s) ≤ (0 : Int32))) => ?_)
    · refine q_ret 2 (some (.int (Int8.toInt32 (Int8.ofInt (-4)))), g1, u1) (fun _ _ => rfl) ?_
      refine ⟨g1, u1, ?_, hf⟩
      have z := (q_le (i := s) (j := 0) (by omega) (by omega)).mp hc4
      rw [f_nuw_n (w := 10) (by omega) (by omega)]
    · refine q_step 1 127 [(0, .ref 8), (1, .int (Int32.ofNat p)), (2, .int (Int32.ofNat a)), (3, .int (Int32.ofNat b)), (4, .int (10 : Int32)), (5, .int (0 : Int32)), (6, .int (Int32.ofNat (s * 1024 + row))), (7, .int (Int32.ofNat s))] [.int (Int32.ofNat (s * 1024 + row))] g1 u1 (fun big n0 => sg_nu_42 big n0 g1 u1 (Int32.ofNat p) (Int32.ofNat a) (Int32.ofNat b) (Int32.ofNat (s * 1024 + row)) (Int32.ofNat s)) ?_
      refine q_call (M2 := 88) (rest := []) (b_lo g1 u1 (by omega) (by omega)) (fun _ _ => rfl) ?_
      refine q_step 2 134 [(0, .ref 8), (1, .int (Int32.ofNat p)), (2, .int (Int32.ofNat a)), (3, .int (Int32.ofNat b)), (4, .int (10 : Int32)), (5, .int (0 : Int32)), (6, .int (Int32.ofNat (s * 1024 + row))), (7, .int (Int32.ofNat s))] [.int (Int32.ofNat s), .int (0 : Int32), .int (Int32.ofNat row)] g1 u1 (fun big n0 => sg_nu_43 big n0 g1 u1 (Int32.ofNat p) (Int32.ofNat a) (Int32.ofNat b) (Int32.ofNat (s * 1024 + row)) (Int32.ofNat s) (Int32.ofNat row)) ?_
      refine q_call (M2 := 96) (rest := []) (b_dig _ _ _ _ _) (fun _ _ => rfl) ?_
      refine q_ret 2 (some (.int (s_dg (Int32.ofNat row) (Int32.ofNat s) (0 : Int32))), g1, u1) (fun _ _ => rfl) ?_
      refine ⟨g1, u1, ?_, hf⟩
      have z : 0 < s := by
        have z1 : ¬ s ≤ 0 := fun q => hc4 ((q_le (i := s) (j := 0) (by omega) (by omega)).mpr q)
        omega
      rw [f_nuw_y (w := 10) (by omega) z]
      rfl
theorem c_nurse11 {n W H : Nat} {g r : qM} (u : qW) (h : w_ok n W H r) (hc : w_cs 20 n g r) {p a b : Nat} (hp : p < n) (ha : a < n) (hb : b < n) (hpa : p ≠ a) (hpb : p ≠ b) (hab : a ≠ b) : w_BS w_fc 106 [.ref 8, .int (Int32.ofNat p), .int (Int32.ofNat a), .int (Int32.ofNat b), .int (11 : Int32)] g u (.int (f_nuw 11 (f_nur n p a b r))) := by
  refine w_bs (mm := m_106) rfl (Nat.le_of_ble_eq_true rfl) rfl ?_
  have h5 : n ≤ 6 := h.1.2.2.2.2
  obtain ⟨g1, u1, hbb, hf⟩ := c_par107 u h hc hp ha hb
  cases hF : f_nur n p a b r with
  | none =>
    rw [hF] at hbb
    refine q_step 3 5 [(0, .ref 8), (1, .int (Int32.ofNat p)), (2, .int (Int32.ofNat a)), (3, .int (Int32.ofNat b)), (4, .int (11 : Int32))] [.int (Int32.ofNat p), .ref 20] g u (fun big n0 => sg_nu_44 big n0 g u (Int32.ofNat p) (Int32.ofNat a) (Int32.ofNat b)) ?_
    refine q_call (M2 := 40) (rest := []) (b_hasOne1 g u (hc.1.1.trans h.2.1) h.1.2.2.2.2 hp) (fun _ _ => rfl) ?_
    refine q_step 4 16 [(0, .ref 8), (1, .int (Int32.ofNat p)), (2, .int (Int32.ofNat a)), (3, .int (Int32.ofNat b)), (4, .int (11 : Int32))] [.int (Int32.ofNat a), .ref 20] g u (fun big n0 => sg_nu_45 big n0 g u (Int32.ofNat p) (Int32.ofNat a) (Int32.ofNat b)) ?_
    refine q_call (M2 := 40) (rest := []) (b_hasOne1 g u (hc.1.1.trans h.2.1) h.1.2.2.2.2 ha) (fun _ _ => rfl) ?_
    refine q_step 4 27 [(0, .ref 8), (1, .int (Int32.ofNat p)), (2, .int (Int32.ofNat a)), (3, .int (Int32.ofNat b)), (4, .int (11 : Int32))] [.int (Int32.ofNat b), .ref 20] g u (fun big n0 => sg_nu_46 big n0 g u (Int32.ofNat p) (Int32.ofNat a) (Int32.ofNat b)) ?_
    refine q_call (M2 := 40) (rest := []) (b_hasOne1 g u (hc.1.1.trans h.2.1) h.1.2.2.2.2 hb) (fun _ _ => rfl) ?_
    refine q_step 3 35 [(0, .ref 8), (1, .int (Int32.ofNat p)), (2, .int (Int32.ofNat a)), (3, .int (Int32.ofNat b)), (4, .int (11 : Int32))] [.int (Int32.ofNat a), .int (Int32.ofNat p)] g u (fun big n0 => sg_nu_47 big n0 g u (Int32.ofNat p) (Int32.ofNat a) (Int32.ofNat b)) ?_
    refine q_ic_eq rfl (fun hc0 => absurd (show (Int32.ofNat p) = (Int32.ofNat a) from hc0) (fun z => hpa ((q_eq (by omega) (by omega)).mp z))) (fun (hc0 : ¬ ((Int32.ofNat p) = (Int32.ofNat a))) => ?_)
    refine q_step 2 40 [(0, .ref 8), (1, .int (Int32.ofNat p)), (2, .int (Int32.ofNat a)), (3, .int (Int32.ofNat b)), (4, .int (11 : Int32))] [.int (Int32.ofNat b), .int (Int32.ofNat p)] g u (fun big n0 => sg_nu_48 big n0 g u (Int32.ofNat p) (Int32.ofNat a) (Int32.ofNat b)) ?_
    refine q_ic_eq rfl (fun hc1 => absurd (show (Int32.ofNat p) = (Int32.ofNat b) from hc1) (fun z => hpb ((q_eq (by omega) (by omega)).mp z))) (fun (hc1 : ¬ ((Int32.ofNat p) = (Int32.ofNat b))) => ?_)
    refine q_step 2 45 [(0, .ref 8), (1, .int (Int32.ofNat p)), (2, .int (Int32.ofNat a)), (3, .int (Int32.ofNat b)), (4, .int (11 : Int32))] [.int (Int32.ofNat b), .int (Int32.ofNat a)] g u (fun big n0 => sg_nu_49 big n0 g u (Int32.ofNat p) (Int32.ofNat a) (Int32.ofNat b)) ?_
    refine q_ic_ne rfl (fun hc2 => absurd (show (Int32.ofNat a) = (Int32.ofNat b) from hc2) (fun z => hab ((q_eq (by omega) (by omega)).mp z))) (fun (hc2 : ¬ ((Int32.ofNat a) = (Int32.ofNat b))) => ?_)
    refine q_step 19 88 [(0, .ref 8), (1, .int (Int32.ofNat p)), (2, .int (Int32.ofNat a)), (3, .int (Int32.ofNat b)), (4, .int (11 : Int32)), (5, .int (1 : Int32))] [.int (Int32.ofNat b), .int (Int32.ofNat a), .int (Int32.ofNat p), .ref 20, .ref 34] g u (fun big n0 => sg_nu_50 big n0 g u (Int32.ofNat p) (Int32.ofNat a) (Int32.ofNat b)) ?_
    refine q_call (M2 := 107) (rest := []) (hbb) (fun _ _ => rfl) ?_
    refine q_ret 6 (some (.int (Int8.toInt32 (Int8.ofInt (-4)))), g1, u1) (fun _ _ => rfl) ?_
    exact ⟨g1, u1, rfl, hf⟩
  | some z =>
    obtain ⟨s, row⟩ := z
    rw [hF] at hbb
    have hl := f_nof_lt 5 0 s row hF
    have h44 := s_44 (s := s) (by omega)
    refine q_step 3 5 [(0, .ref 8), (1, .int (Int32.ofNat p)), (2, .int (Int32.ofNat a)), (3, .int (Int32.ofNat b)), (4, .int (11 : Int32))] [.int (Int32.ofNat p), .ref 20] g u (fun big n0 => sg_nu_44 big n0 g u (Int32.ofNat p) (Int32.ofNat a) (Int32.ofNat b)) ?_
    refine q_call (M2 := 40) (rest := []) (b_hasOne1 g u (hc.1.1.trans h.2.1) h.1.2.2.2.2 hp) (fun _ _ => rfl) ?_
    refine q_step 4 16 [(0, .ref 8), (1, .int (Int32.ofNat p)), (2, .int (Int32.ofNat a)), (3, .int (Int32.ofNat b)), (4, .int (11 : Int32))] [.int (Int32.ofNat a), .ref 20] g u (fun big n0 => sg_nu_45 big n0 g u (Int32.ofNat p) (Int32.ofNat a) (Int32.ofNat b)) ?_
    refine q_call (M2 := 40) (rest := []) (b_hasOne1 g u (hc.1.1.trans h.2.1) h.1.2.2.2.2 ha) (fun _ _ => rfl) ?_
    refine q_step 4 27 [(0, .ref 8), (1, .int (Int32.ofNat p)), (2, .int (Int32.ofNat a)), (3, .int (Int32.ofNat b)), (4, .int (11 : Int32))] [.int (Int32.ofNat b), .ref 20] g u (fun big n0 => sg_nu_46 big n0 g u (Int32.ofNat p) (Int32.ofNat a) (Int32.ofNat b)) ?_
    refine q_call (M2 := 40) (rest := []) (b_hasOne1 g u (hc.1.1.trans h.2.1) h.1.2.2.2.2 hb) (fun _ _ => rfl) ?_
    refine q_step 3 35 [(0, .ref 8), (1, .int (Int32.ofNat p)), (2, .int (Int32.ofNat a)), (3, .int (Int32.ofNat b)), (4, .int (11 : Int32))] [.int (Int32.ofNat a), .int (Int32.ofNat p)] g u (fun big n0 => sg_nu_47 big n0 g u (Int32.ofNat p) (Int32.ofNat a) (Int32.ofNat b)) ?_
    refine q_ic_eq rfl (fun hc0 => absurd (show (Int32.ofNat p) = (Int32.ofNat a) from hc0) (fun z => hpa ((q_eq (by omega) (by omega)).mp z))) (fun (hc0 : ¬ ((Int32.ofNat p) = (Int32.ofNat a))) => ?_)
    refine q_step 2 40 [(0, .ref 8), (1, .int (Int32.ofNat p)), (2, .int (Int32.ofNat a)), (3, .int (Int32.ofNat b)), (4, .int (11 : Int32))] [.int (Int32.ofNat b), .int (Int32.ofNat p)] g u (fun big n0 => sg_nu_48 big n0 g u (Int32.ofNat p) (Int32.ofNat a) (Int32.ofNat b)) ?_
    refine q_ic_eq rfl (fun hc1 => absurd (show (Int32.ofNat p) = (Int32.ofNat b) from hc1) (fun z => hpb ((q_eq (by omega) (by omega)).mp z))) (fun (hc1 : ¬ ((Int32.ofNat p) = (Int32.ofNat b))) => ?_)
    refine q_step 2 45 [(0, .ref 8), (1, .int (Int32.ofNat p)), (2, .int (Int32.ofNat a)), (3, .int (Int32.ofNat b)), (4, .int (11 : Int32))] [.int (Int32.ofNat b), .int (Int32.ofNat a)] g u (fun big n0 => sg_nu_49 big n0 g u (Int32.ofNat p) (Int32.ofNat a) (Int32.ofNat b)) ?_
    refine q_ic_ne rfl (fun hc2 => absurd (show (Int32.ofNat a) = (Int32.ofNat b) from hc2) (fun z => hab ((q_eq (by omega) (by omega)).mp z))) (fun (hc2 : ¬ ((Int32.ofNat a) = (Int32.ofNat b))) => ?_)
    refine q_step 19 88 [(0, .ref 8), (1, .int (Int32.ofNat p)), (2, .int (Int32.ofNat a)), (3, .int (Int32.ofNat b)), (4, .int (11 : Int32)), (5, .int (1 : Int32))] [.int (Int32.ofNat b), .int (Int32.ofNat a), .int (Int32.ofNat p), .ref 20, .ref 34] g u (fun big n0 => sg_nu_50 big n0 g u (Int32.ofNat p) (Int32.ofNat a) (Int32.ofNat b)) ?_
    refine q_call (M2 := 107) (rest := []) (hbb) (fun _ _ => rfl) ?_
    refine q_step 3 97 [(0, .ref 8), (1, .int (Int32.ofNat p)), (2, .int (Int32.ofNat a)), (3, .int (Int32.ofNat b)), (4, .int (11 : Int32)), (5, .int (1 : Int32)), (6, .int (Int32.ofNat (s * 1024 + row)))] [.int (Int8.toInt32 (Int8.ofInt (-4))), .int (Int32.ofNat (s * 1024 + row))] g1 u1 (fun big n0 => sg_nu_51 big n0 g1 u1 (Int32.ofNat p) (Int32.ofNat a) (Int32.ofNat b) (Int32.ofNat (s * 1024 + row))) ?_
    refine q_ic_ne rfl (fun hc3 => absurd (show (Int32.ofNat (s * 1024 + row)) = (Int8.toInt32 (Int8.ofInt (-4))) from hc3) (q_none_ne (by omega))) (fun (hc3 : ¬ ((Int32.ofNat (s * 1024 + row)) = (Int8.toInt32 (Int8.ofInt (-4))))) => ?_)
    refine q_step 1 105 [(0, .ref 8), (1, .int (Int32.ofNat p)), (2, .int (Int32.ofNat a)), (3, .int (Int32.ofNat b)), (4, .int (11 : Int32)), (5, .int (1 : Int32)), (6, .int (Int32.ofNat (s * 1024 + row)))] [.int (Int32.ofNat (s * 1024 + row))] g1 u1 (fun big n0 => sg_nu_52 big n0 g1 u1 (Int32.ofNat p) (Int32.ofNat a) (Int32.ofNat b) (Int32.ofNat (s * 1024 + row))) ?_
    refine q_call (M2 := 87) (rest := []) (b_up g1 u1 (by omega) (by omega)) (fun _ _ => rfl) ?_
    refine q_step 5 122 [(0, .ref 8), (1, .int (Int32.ofNat p)), (2, .int (Int32.ofNat a)), (3, .int (Int32.ofNat b)), (4, .int (11 : Int32)), (5, .int (1 : Int32)), (6, .int (Int32.ofNat (s * 1024 + row))), (7, .int (Int32.ofNat s))] [.int (Int32.ofNat s), .int (1 : Int32)] g1 u1 (fun big n0 => sg_nu_53 big n0 g1 u1 (Int32.ofNat p) (Int32.ofNat a) (Int32.ofNat b) (Int32.ofNat (s * 1024 + row)) (Int32.ofNat s)) ?_
    refine q_ic_ge rfl (fun (hc4 : (Int32.ofNat s) ≤ (1 : Int32)) => ?_) (fun (hc4 : ¬ ((Int32.ofNat s) ≤ (1 : Int32))) => ?_)
    · refine q_ret 2 (some (.int (Int8.toInt32 (Int8.ofInt (-4)))), g1, u1) (fun _ _ => rfl) ?_
      refine ⟨g1, u1, ?_, hf⟩
      have z := (q_le (i := s) (j := 1) (by omega) (by omega)).mp hc4
      rw [f_nuw_n (w := 11) (by omega) (by omega)]
    · refine q_step 1 127 [(0, .ref 8), (1, .int (Int32.ofNat p)), (2, .int (Int32.ofNat a)), (3, .int (Int32.ofNat b)), (4, .int (11 : Int32)), (5, .int (1 : Int32)), (6, .int (Int32.ofNat (s * 1024 + row))), (7, .int (Int32.ofNat s))] [.int (Int32.ofNat (s * 1024 + row))] g1 u1 (fun big n0 => sg_nu_54 big n0 g1 u1 (Int32.ofNat p) (Int32.ofNat a) (Int32.ofNat b) (Int32.ofNat (s * 1024 + row)) (Int32.ofNat s)) ?_
      refine q_call (M2 := 88) (rest := []) (b_lo g1 u1 (by omega) (by omega)) (fun _ _ => rfl) ?_
      refine q_step 2 134 [(0, .ref 8), (1, .int (Int32.ofNat p)), (2, .int (Int32.ofNat a)), (3, .int (Int32.ofNat b)), (4, .int (11 : Int32)), (5, .int (1 : Int32)), (6, .int (Int32.ofNat (s * 1024 + row))), (7, .int (Int32.ofNat s))] [.int (Int32.ofNat s), .int (1 : Int32), .int (Int32.ofNat row)] g1 u1 (fun big n0 => sg_nu_55 big n0 g1 u1 (Int32.ofNat p) (Int32.ofNat a) (Int32.ofNat b) (Int32.ofNat (s * 1024 + row)) (Int32.ofNat s) (Int32.ofNat row)) ?_
      refine q_call (M2 := 96) (rest := []) (b_dig _ _ _ _ _) (fun _ _ => rfl) ?_
      refine q_ret 2 (some (.int (s_dg (Int32.ofNat row) (Int32.ofNat s) (1 : Int32))), g1, u1) (fun _ _ => rfl) ?_
      refine ⟨g1, u1, ?_, hf⟩
      have z : 1 < s := by
        have z1 : ¬ s ≤ 1 := fun q => hc4 ((q_le (i := s) (j := 1) (by omega) (by omega)).mpr q)
        omega
      rw [f_nuw_y (w := 11) (by omega) z]
      rfl
theorem c_nurse12 {n W H : Nat} {g r : qM} (u : qW) (h : w_ok n W H r) (hc : w_cs 20 n g r) {p a b : Nat} (hp : p < n) (ha : a < n) (hb : b < n) (hpa : p ≠ a) (hpb : p ≠ b) (hab : a ≠ b) : w_BS w_fc 106 [.ref 8, .int (Int32.ofNat p), .int (Int32.ofNat a), .int (Int32.ofNat b), .int (12 : Int32)] g u (.int (f_nuw 12 (f_nur n p a b r))) := by
  refine w_bs (mm := m_106) rfl (Nat.le_of_ble_eq_true rfl) rfl ?_
  have h5 : n ≤ 6 := h.1.2.2.2.2
  obtain ⟨g1, u1, hbb, hf⟩ := c_par107 u h hc hp ha hb
  cases hF : f_nur n p a b r with
  | none =>
    rw [hF] at hbb
    refine q_step 3 5 [(0, .ref 8), (1, .int (Int32.ofNat p)), (2, .int (Int32.ofNat a)), (3, .int (Int32.ofNat b)), (4, .int (12 : Int32))] [.int (Int32.ofNat p), .ref 20] g u (fun big n0 => sg_nu_56 big n0 g u (Int32.ofNat p) (Int32.ofNat a) (Int32.ofNat b)) ?_
    refine q_call (M2 := 40) (rest := []) (b_hasOne1 g u (hc.1.1.trans h.2.1) h.1.2.2.2.2 hp) (fun _ _ => rfl) ?_
    refine q_step 4 16 [(0, .ref 8), (1, .int (Int32.ofNat p)), (2, .int (Int32.ofNat a)), (3, .int (Int32.ofNat b)), (4, .int (12 : Int32))] [.int (Int32.ofNat a), .ref 20] g u (fun big n0 => sg_nu_57 big n0 g u (Int32.ofNat p) (Int32.ofNat a) (Int32.ofNat b)) ?_
    refine q_call (M2 := 40) (rest := []) (b_hasOne1 g u (hc.1.1.trans h.2.1) h.1.2.2.2.2 ha) (fun _ _ => rfl) ?_
    refine q_step 4 27 [(0, .ref 8), (1, .int (Int32.ofNat p)), (2, .int (Int32.ofNat a)), (3, .int (Int32.ofNat b)), (4, .int (12 : Int32))] [.int (Int32.ofNat b), .ref 20] g u (fun big n0 => sg_nu_58 big n0 g u (Int32.ofNat p) (Int32.ofNat a) (Int32.ofNat b)) ?_
    refine q_call (M2 := 40) (rest := []) (b_hasOne1 g u (hc.1.1.trans h.2.1) h.1.2.2.2.2 hb) (fun _ _ => rfl) ?_
    refine q_step 3 35 [(0, .ref 8), (1, .int (Int32.ofNat p)), (2, .int (Int32.ofNat a)), (3, .int (Int32.ofNat b)), (4, .int (12 : Int32))] [.int (Int32.ofNat a), .int (Int32.ofNat p)] g u (fun big n0 => sg_nu_59 big n0 g u (Int32.ofNat p) (Int32.ofNat a) (Int32.ofNat b)) ?_
    refine q_ic_eq rfl (fun hc0 => absurd (show (Int32.ofNat p) = (Int32.ofNat a) from hc0) (fun z => hpa ((q_eq (by omega) (by omega)).mp z))) (fun (hc0 : ¬ ((Int32.ofNat p) = (Int32.ofNat a))) => ?_)
    refine q_step 2 40 [(0, .ref 8), (1, .int (Int32.ofNat p)), (2, .int (Int32.ofNat a)), (3, .int (Int32.ofNat b)), (4, .int (12 : Int32))] [.int (Int32.ofNat b), .int (Int32.ofNat p)] g u (fun big n0 => sg_nu_60 big n0 g u (Int32.ofNat p) (Int32.ofNat a) (Int32.ofNat b)) ?_
    refine q_ic_eq rfl (fun hc1 => absurd (show (Int32.ofNat p) = (Int32.ofNat b) from hc1) (fun z => hpb ((q_eq (by omega) (by omega)).mp z))) (fun (hc1 : ¬ ((Int32.ofNat p) = (Int32.ofNat b))) => ?_)
    refine q_step 2 45 [(0, .ref 8), (1, .int (Int32.ofNat p)), (2, .int (Int32.ofNat a)), (3, .int (Int32.ofNat b)), (4, .int (12 : Int32))] [.int (Int32.ofNat b), .int (Int32.ofNat a)] g u (fun big n0 => sg_nu_61 big n0 g u (Int32.ofNat p) (Int32.ofNat a) (Int32.ofNat b)) ?_
    refine q_ic_ne rfl (fun hc2 => absurd (show (Int32.ofNat a) = (Int32.ofNat b) from hc2) (fun z => hab ((q_eq (by omega) (by omega)).mp z))) (fun (hc2 : ¬ ((Int32.ofNat a) = (Int32.ofNat b))) => ?_)
    refine q_step 19 88 [(0, .ref 8), (1, .int (Int32.ofNat p)), (2, .int (Int32.ofNat a)), (3, .int (Int32.ofNat b)), (4, .int (12 : Int32)), (5, .int (2 : Int32))] [.int (Int32.ofNat b), .int (Int32.ofNat a), .int (Int32.ofNat p), .ref 20, .ref 34] g u (fun big n0 => sg_nu_62 big n0 g u (Int32.ofNat p) (Int32.ofNat a) (Int32.ofNat b)) ?_
    refine q_call (M2 := 107) (rest := []) (hbb) (fun _ _ => rfl) ?_
    refine q_ret 6 (some (.int (Int8.toInt32 (Int8.ofInt (-4)))), g1, u1) (fun _ _ => rfl) ?_
    exact ⟨g1, u1, rfl, hf⟩
  | some z =>
    obtain ⟨s, row⟩ := z
    rw [hF] at hbb
    have hl := f_nof_lt 5 0 s row hF
    have h44 := s_44 (s := s) (by omega)
    refine q_step 3 5 [(0, .ref 8), (1, .int (Int32.ofNat p)), (2, .int (Int32.ofNat a)), (3, .int (Int32.ofNat b)), (4, .int (12 : Int32))] [.int (Int32.ofNat p), .ref 20] g u (fun big n0 => sg_nu_56 big n0 g u (Int32.ofNat p) (Int32.ofNat a) (Int32.ofNat b)) ?_
    refine q_call (M2 := 40) (rest := []) (b_hasOne1 g u (hc.1.1.trans h.2.1) h.1.2.2.2.2 hp) (fun _ _ => rfl) ?_
    refine q_step 4 16 [(0, .ref 8), (1, .int (Int32.ofNat p)), (2, .int (Int32.ofNat a)), (3, .int (Int32.ofNat b)), (4, .int (12 : Int32))] [.int (Int32.ofNat a), .ref 20] g u (fun big n0 => sg_nu_57 big n0 g u (Int32.ofNat p) (Int32.ofNat a) (Int32.ofNat b)) ?_
    refine q_call (M2 := 40) (rest := []) (b_hasOne1 g u (hc.1.1.trans h.2.1) h.1.2.2.2.2 ha) (fun _ _ => rfl) ?_
    refine q_step 4 27 [(0, .ref 8), (1, .int (Int32.ofNat p)), (2, .int (Int32.ofNat a)), (3, .int (Int32.ofNat b)), (4, .int (12 : Int32))] [.int (Int32.ofNat b), .ref 20] g u (fun big n0 => sg_nu_58 big n0 g u (Int32.ofNat p) (Int32.ofNat a) (Int32.ofNat b)) ?_
    refine q_call (M2 := 40) (rest := []) (b_hasOne1 g u (hc.1.1.trans h.2.1) h.1.2.2.2.2 hb) (fun _ _ => rfl) ?_
    refine q_step 3 35 [(0, .ref 8), (1, .int (Int32.ofNat p)), (2, .int (Int32.ofNat a)), (3, .int (Int32.ofNat b)), (4, .int (12 : Int32))] [.int (Int32.ofNat a), .int (Int32.ofNat p)] g u (fun big n0 => sg_nu_59 big n0 g u (Int32.ofNat p) (Int32.ofNat a) (Int32.ofNat b)) ?_
    refine q_ic_eq rfl (fun hc0 => absurd (show (Int32.ofNat p) = (Int32.ofNat a) from hc0) (fun z => hpa ((q_eq (by omega) (by omega)).mp z))) (fun (hc0 : ¬ ((Int32.ofNat p) = (Int32.ofNat a))) => ?_)
    refine q_step 2 40 [(0, .ref 8), (1, .int (Int32.ofNat p)), (2, .int (Int32.ofNat a)), (3, .int (Int32.ofNat b)), (4, .int (12 : Int32))] [.int (Int32.ofNat b), .int (Int32.ofNat p)] g u (fun big n0 => sg_nu_60 big n0 g u (Int32.ofNat p) (Int32.ofNat a) (Int32.ofNat b)) ?_
    refine q_ic_eq rfl (fun hc1 => absurd (show (Int32.ofNat p) = (Int32.ofNat b) from hc1) (fun z => hpb ((q_eq (by omega) (by omega)).mp z))) (fun (hc1 : ¬ ((Int32.ofNat p) = (Int32.ofNat b))) => ?_)
    refine q_step 2 45 [(0, .ref 8), (1, .int (Int32.ofNat p)), (2, .int (Int32.ofNat a)), (3, .int (Int32.ofNat b)), (4, .int (12 : Int32))] [.int (Int32.ofNat b), .int (Int32.ofNat a)] g u (fun big n0 => sg_nu_61 big n0 g u (Int32.ofNat p) (Int32.ofNat a) (Int32.ofNat b)) ?_
    refine q_ic_ne rfl (fun hc2 => absurd (show (Int32.ofNat a) = (Int32.ofNat b) from hc2) (fun z => hab ((q_eq (by omega) (by omega)).mp z))) (fun (hc2 : ¬ ((Int32.ofNat a) = (Int32.ofNat b))) => ?_)
    refine q_step 19 88 [(0, .ref 8), (1, .int (Int32.ofNat p)), (2, .int (Int32.ofNat a)), (3, .int (Int32.ofNat b)), (4, .int (12 : Int32)), (5, .int (2 : Int32))] [.int (Int32.ofNat b), .int (Int32.ofNat a), .int (Int32.ofNat p), .ref 20, .ref 34] g u (fun big n0 => sg_nu_62 big n0 g u (Int32.ofNat p) (Int32.ofNat a) (Int32.ofNat b)) ?_
    refine q_call (M2 := 107) (rest := []) (hbb) (fun _ _ => rfl) ?_
    refine q_step 3 97 [(0, .ref 8), (1, .int (Int32.ofNat p)), (2, .int (Int32.ofNat a)), (3, .int (Int32.ofNat b)), (4, .int (12 : Int32)), (5, .int (2 : Int32)), (6, .int (Int32.ofNat (s * 1024 + row)))] [.int (Int8.toInt32 (Int8.ofInt (-4))), .int (Int32.ofNat (s * 1024 + row))] g1 u1 (fun big n0 => sg_nu_63 big n0 g1 u1 (Int32.ofNat p) (Int32.ofNat a) (Int32.ofNat b) (Int32.ofNat (s * 1024 + row))) ?_
    refine q_ic_ne rfl (fun hc3 => absurd (show (Int32.ofNat (s * 1024 + row)) = (Int8.toInt32 (Int8.ofInt (-4))) from hc3) (q_none_ne (by omega))) (fun (hc3 : ¬ ((Int32.ofNat (s * 1024 + row)) = (Int8.toInt32 (Int8.ofInt (-4))))) => ?_)
    refine q_step 1 105 [(0, .ref 8), (1, .int (Int32.ofNat p)), (2, .int (Int32.ofNat a)), (3, .int (Int32.ofNat b)), (4, .int (12 : Int32)), (5, .int (2 : Int32)), (6, .int (Int32.ofNat (s * 1024 + row)))] [.int (Int32.ofNat (s * 1024 + row))] g1 u1 (fun big n0 => sg_nu_64 big n0 g1 u1 (Int32.ofNat p) (Int32.ofNat a) (Int32.ofNat b) (Int32.ofNat (s * 1024 + row))) ?_
    refine q_call (M2 := 87) (rest := []) (b_up g1 u1 (by omega) (by omega)) (fun _ _ => rfl) ?_
    refine q_step 5 122 [(0, .ref 8), (1, .int (Int32.ofNat p)), (2, .int (Int32.ofNat a)), (3, .int (Int32.ofNat b)), (4, .int (12 : Int32)), (5, .int (2 : Int32)), (6, .int (Int32.ofNat (s * 1024 + row))), (7, .int (Int32.ofNat s))] [.int (Int32.ofNat s), .int (2 : Int32)] g1 u1 (fun big n0 => sg_nu_65 big n0 g1 u1 (Int32.ofNat p) (Int32.ofNat a) (Int32.ofNat b) (Int32.ofNat (s * 1024 + row)) (Int32.ofNat s)) ?_
    refine q_ic_ge rfl (fun (hc4 : (Int32.ofNat s) ≤ (2 : Int32)) => ?_) (fun (hc4 : ¬ ((Int32.ofNat s) ≤ (2 : Int32))) => ?_)
    · refine q_ret 2 (some (.int (Int8.toInt32 (Int8.ofInt (-4)))), g1, u1) (fun _ _ => rfl) ?_
      refine ⟨g1, u1, ?_, hf⟩
      have z := (q_le (i := s) (j := 2) (by omega) (by omega)).mp hc4
      rw [f_nuw_n (w := 12) (by omega) (by omega)]
    · refine q_step 1 127 [(0, .ref 8), (1, .int (Int32.ofNat p)), (2, .int (Int32.ofNat a)), (3, .int (Int32.ofNat b)), (4, .int (12 : Int32)), (5, .int (2 : Int32)), (6, .int (Int32.ofNat (s * 1024 + row))), (7, .int (Int32.ofNat s))] [.int (Int32.ofNat (s * 1024 + row))] g1 u1 (fun big n0 => sg_nu_66 big n0 g1 u1 (Int32.ofNat p) (Int32.ofNat a) (Int32.ofNat b) (Int32.ofNat (s * 1024 + row)) (Int32.ofNat s)) ?_
      refine q_call (M2 := 88) (rest := []) (b_lo g1 u1 (by omega) (by omega)) (fun _ _ => rfl) ?_
      refine q_step 2 134 [(0, .ref 8), (1, .int (Int32.ofNat p)), (2, .int (Int32.ofNat a)), (3, .int (Int32.ofNat b)), (4, .int (12 : Int32)), (5, .int (2 : Int32)), (6, .int (Int32.ofNat (s * 1024 + row))), (7, .int (Int32.ofNat s))] [.int (Int32.ofNat s), .int (2 : Int32), .int (Int32.ofNat row)] g1 u1 (fun big n0 => sg_nu_67 big n0 g1 u1 (Int32.ofNat p) (Int32.ofNat a) (Int32.ofNat b) (Int32.ofNat (s * 1024 + row)) (Int32.ofNat s) (Int32.ofNat row)) ?_
      refine q_call (M2 := 96) (rest := []) (b_dig _ _ _ _ _) (fun _ _ => rfl) ?_
      refine q_ret 2 (some (.int (s_dg (Int32.ofNat row) (Int32.ofNat s) (2 : Int32))), g1, u1) (fun _ _ => rfl) ?_
      refine ⟨g1, u1, ?_, hf⟩
      have z : 2 < s := by
        have z1 : ¬ s ≤ 2 := fun q => hc4 ((q_le (i := s) (j := 2) (by omega) (by omega)).mpr q)
        omega
      rw [f_nuw_y (w := 12) (by omega) z]
      rfl
theorem c_nurse13 {n W H : Nat} {g r : qM} (u : qW) (h : w_ok n W H r) (hc : w_cs 20 n g r) {p a b : Nat} (hp : p < n) (ha : a < n) (hb : b < n) (hpa : p ≠ a) (hpb : p ≠ b) (hab : a ≠ b) : w_BS w_fc 106 [.ref 8, .int (Int32.ofNat p), .int (Int32.ofNat a), .int (Int32.ofNat b), .int (13 : Int32)] g u (.int (f_nuw 13 (f_nur n p a b r))) := by
  refine w_bs (mm := m_106) rfl (Nat.le_of_ble_eq_true rfl) rfl ?_
  have h5 : n ≤ 6 := h.1.2.2.2.2
  obtain ⟨g1, u1, hbb, hf⟩ := c_par107 u h hc hp ha hb
  cases hF : f_nur n p a b r with
  | none =>
    rw [hF] at hbb
    refine q_step 3 5 [(0, .ref 8), (1, .int (Int32.ofNat p)), (2, .int (Int32.ofNat a)), (3, .int (Int32.ofNat b)), (4, .int (13 : Int32))] [.int (Int32.ofNat p), .ref 20] g u (fun big n0 => sg_nu_68 big n0 g u (Int32.ofNat p) (Int32.ofNat a) (Int32.ofNat b)) ?_
    refine q_call (M2 := 40) (rest := []) (b_hasOne1 g u (hc.1.1.trans h.2.1) h.1.2.2.2.2 hp) (fun _ _ => rfl) ?_
    refine q_step 4 16 [(0, .ref 8), (1, .int (Int32.ofNat p)), (2, .int (Int32.ofNat a)), (3, .int (Int32.ofNat b)), (4, .int (13 : Int32))] [.int (Int32.ofNat a), .ref 20] g u (fun big n0 => sg_nu_69 big n0 g u (Int32.ofNat p) (Int32.ofNat a) (Int32.ofNat b)) ?_
    refine q_call (M2 := 40) (rest := []) (b_hasOne1 g u (hc.1.1.trans h.2.1) h.1.2.2.2.2 ha) (fun _ _ => rfl) ?_
    refine q_step 4 27 [(0, .ref 8), (1, .int (Int32.ofNat p)), (2, .int (Int32.ofNat a)), (3, .int (Int32.ofNat b)), (4, .int (13 : Int32))] [.int (Int32.ofNat b), .ref 20] g u (fun big n0 => sg_nu_70 big n0 g u (Int32.ofNat p) (Int32.ofNat a) (Int32.ofNat b)) ?_
    refine q_call (M2 := 40) (rest := []) (b_hasOne1 g u (hc.1.1.trans h.2.1) h.1.2.2.2.2 hb) (fun _ _ => rfl) ?_
    refine q_step 3 35 [(0, .ref 8), (1, .int (Int32.ofNat p)), (2, .int (Int32.ofNat a)), (3, .int (Int32.ofNat b)), (4, .int (13 : Int32))] [.int (Int32.ofNat a), .int (Int32.ofNat p)] g u (fun big n0 => sg_nu_71 big n0 g u (Int32.ofNat p) (Int32.ofNat a) (Int32.ofNat b)) ?_
    refine q_ic_eq rfl (fun hc0 => absurd (show (Int32.ofNat p) = (Int32.ofNat a) from hc0) (fun z => hpa ((q_eq (by omega) (by omega)).mp z))) (fun (hc0 : ¬ ((Int32.ofNat p) = (Int32.ofNat a))) => ?_)
    refine q_step 2 40 [(0, .ref 8), (1, .int (Int32.ofNat p)), (2, .int (Int32.ofNat a)), (3, .int (Int32.ofNat b)), (4, .int (13 : Int32))] [.int (Int32.ofNat b), .int (Int32.ofNat p)] g u (fun big n0 => sg_nu_72 big n0 g u (Int32.ofNat p) (Int32.ofNat a) (Int32.ofNat b)) ?_
    refine q_ic_eq rfl (fun hc1 => absurd (show (Int32.ofNat p) = (Int32.ofNat b) from hc1) (fun z => hpb ((q_eq (by omega) (by omega)).mp z))) (fun (hc1 : ¬ ((Int32.ofNat p) = (Int32.ofNat b))) => ?_)
    refine q_step 2 45 [(0, .ref 8), (1, .int (Int32.ofNat p)), (2, .int (Int32.ofNat a)), (3, .int (Int32.ofNat b)), (4, .int (13 : Int32))] [.int (Int32.ofNat b), .int (Int32.ofNat a)] g u (fun big n0 => sg_nu_73 big n0 g u (Int32.ofNat p) (Int32.ofNat a) (Int32.ofNat b)) ?_
    refine q_ic_ne rfl (fun hc2 => absurd (show (Int32.ofNat a) = (Int32.ofNat b) from hc2) (fun z => hab ((q_eq (by omega) (by omega)).mp z))) (fun (hc2 : ¬ ((Int32.ofNat a) = (Int32.ofNat b))) => ?_)
    refine q_step 19 88 [(0, .ref 8), (1, .int (Int32.ofNat p)), (2, .int (Int32.ofNat a)), (3, .int (Int32.ofNat b)), (4, .int (13 : Int32)), (5, .int (3 : Int32))] [.int (Int32.ofNat b), .int (Int32.ofNat a), .int (Int32.ofNat p), .ref 20, .ref 34] g u (fun big n0 => sg_nu_74 big n0 g u (Int32.ofNat p) (Int32.ofNat a) (Int32.ofNat b)) ?_
    refine q_call (M2 := 107) (rest := []) (hbb) (fun _ _ => rfl) ?_
    refine q_ret 6 (some (.int (Int8.toInt32 (Int8.ofInt (-4)))), g1, u1) (fun _ _ => rfl) ?_
    exact ⟨g1, u1, rfl, hf⟩
  | some z =>
    obtain ⟨s, row⟩ := z
    rw [hF] at hbb
    have hl := f_nof_lt 5 0 s row hF
    have h44 := s_44 (s := s) (by omega)
    refine q_step 3 5 [(0, .ref 8), (1, .int (Int32.ofNat p)), (2, .int (Int32.ofNat a)), (3, .int (Int32.ofNat b)), (4, .int (13 : Int32))] [.int (Int32.ofNat p), .ref 20] g u (fun big n0 => sg_nu_68 big n0 g u (Int32.ofNat p) (Int32.ofNat a) (Int32.ofNat b)) ?_
    refine q_call (M2 := 40) (rest := []) (b_hasOne1 g u (hc.1.1.trans h.2.1) h.1.2.2.2.2 hp) (fun _ _ => rfl) ?_
    refine q_step 4 16 [(0, .ref 8), (1, .int (Int32.ofNat p)), (2, .int (Int32.ofNat a)), (3, .int (Int32.ofNat b)), (4, .int (13 : Int32))] [.int (Int32.ofNat a), .ref 20] g u (fun big n0 => sg_nu_69 big n0 g u (Int32.ofNat p) (Int32.ofNat a) (Int32.ofNat b)) ?_
    refine q_call (M2 := 40) (rest := []) (b_hasOne1 g u (hc.1.1.trans h.2.1) h.1.2.2.2.2 ha) (fun _ _ => rfl) ?_
    refine q_step 4 27 [(0, .ref 8), (1, .int (Int32.ofNat p)), (2, .int (Int32.ofNat a)), (3, .int (Int32.ofNat b)), (4, .int (13 : Int32))] [.int (Int32.ofNat b), .ref 20] g u (fun big n0 => sg_nu_70 big n0 g u (Int32.ofNat p) (Int32.ofNat a) (Int32.ofNat b)) ?_
    refine q_call (M2 := 40) (rest := []) (b_hasOne1 g u (hc.1.1.trans h.2.1) h.1.2.2.2.2 hb) (fun _ _ => rfl) ?_
    refine q_step 3 35 [(0, .ref 8), (1, .int (Int32.ofNat p)), (2, .int (Int32.ofNat a)), (3, .int (Int32.ofNat b)), (4, .int (13 : Int32))] [.int (Int32.ofNat a), .int (Int32.ofNat p)] g u (fun big n0 => sg_nu_71 big n0 g u (Int32.ofNat p) (Int32.ofNat a) (Int32.ofNat b)) ?_
    refine q_ic_eq rfl (fun hc0 => absurd (show (Int32.ofNat p) = (Int32.ofNat a) from hc0) (fun z => hpa ((q_eq (by omega) (by omega)).mp z))) (fun (hc0 : ¬ ((Int32.ofNat p) = (Int32.ofNat a))) => ?_)
    refine q_step 2 40 [(0, .ref 8), (1, .int (Int32.ofNat p)), (2, .int (Int32.ofNat a)), (3, .int (Int32.ofNat b)), (4, .int (13 : Int32))] [.int (Int32.ofNat b), .int (Int32.ofNat p)] g u (fun big n0 => sg_nu_72 big n0 g u (Int32.ofNat p) (Int32.ofNat a) (Int32.ofNat b)) ?_
    refine q_ic_eq rfl (fun hc1 => absurd (show (Int32.ofNat p) = (Int32.ofNat b) from hc1) (fun z => hpb ((q_eq (by omega) (by omega)).mp z))) (fun (hc1 : ¬ ((Int32.ofNat p) = (Int32.ofNat b))) => ?_)
    refine q_step 2 45 [(0, .ref 8), (1, .int (Int32.ofNat p)), (2, .int (Int32.ofNat a)), (3, .int (Int32.ofNat b)), (4, .int (13 : Int32))] [.int (Int32.ofNat b), .int (Int32.ofNat a)] g u (fun big n0 => sg_nu_73 big n0 g u (Int32.ofNat p) (Int32.ofNat a) (Int32.ofNat b)) ?_
    refine q_ic_ne rfl (fun hc2 => absurd (show (Int32.ofNat a) = (Int32.ofNat b) from hc2) (fun z => hab ((q_eq (by omega) (by omega)).mp z))) (fun (hc2 : ¬ ((Int32.ofNat a) = (Int32.ofNat b))) => ?_)
    refine q_step 19 88 [(0, .ref 8), (1, .int (Int32.ofNat p)), (2, .int (Int32.ofNat a)), (3, .int (Int32.ofNat b)), (4, .int (13 : Int32)), (5, .int (3 : Int32))] [.int (Int32.ofNat b), .int (Int32.ofNat a), .int (Int32.ofNat p), .ref 20, .ref 34] g u (fun big n0 => sg_nu_74 big n0 g u (Int32.ofNat p) (Int32.ofNat a) (Int32.ofNat b)) ?_
    refine q_call (M2 := 107) (rest := []) (hbb) (fun _ _ => rfl) ?_
    refine q_step 3 97 [(0, .ref 8), (1, .int (Int32.ofNat p)), (2, .int (Int32.ofNat a)), (3, .int (Int32.ofNat b)), (4, .int (13 : Int32)), (5, .int (3 : Int32)), (6, .int (Int32.ofNat (s * 1024 + row)))] [.int (Int8.toInt32 (Int8.ofInt (-4))), .int (Int32.ofNat (s * 1024 + row))] g1 u1 (fun big n0 => sg_nu_75 big n0 g1 u1 (Int32.ofNat p) (Int32.ofNat a) (Int32.ofNat b) (Int32.ofNat (s * 1024 + row))) ?_
    refine q_ic_ne rfl (fun hc3 => absurd (show (Int32.ofNat (s * 1024 + row)) = (Int8.toInt32 (Int8.ofInt (-4))) from hc3) (q_none_ne (by omega))) (fun (hc3 : ¬ ((Int32.ofNat (s * 1024 + row)) = (Int8.toInt32 (Int8.ofInt (-4))))) => ?_)
    refine q_step 1 105 [(0, .ref 8), (1, .int (Int32.ofNat p)), (2, .int (Int32.ofNat a)), (3, .int (Int32.ofNat b)), (4, .int (13 : Int32)), (5, .int (3 : Int32)), (6, .int (Int32.ofNat (s * 1024 + row)))] [.int (Int32.ofNat (s * 1024 + row))] g1 u1 (fun big n0 => sg_nu_76 big n0 g1 u1 (Int32.ofNat p) (Int32.ofNat a) (Int32.ofNat b) (Int32.ofNat (s * 1024 + row))) ?_
    refine q_call (M2 := 87) (rest := []) (b_up g1 u1 (by omega) (by omega)) (fun _ _ => rfl) ?_
    refine q_step 5 122 [(0, .ref 8), (1, .int (Int32.ofNat p)), (2, .int (Int32.ofNat a)), (3, .int (Int32.ofNat b)), (4, .int (13 : Int32)), (5, .int (3 : Int32)), (6, .int (Int32.ofNat (s * 1024 + row))), (7, .int (Int32.ofNat s))] [.int (Int32.ofNat s), .int (3 : Int32)] g1 u1 (fun big n0 => sg_nu_77 big n0 g1 u1 (Int32.ofNat p) (Int32.ofNat a) (Int32.ofNat b) (Int32.ofNat (s * 1024 + row)) (Int32.ofNat s)) ?_
    refine q_ic_ge rfl (fun (hc4 : (Int32.ofNat s) ≤ (3 : Int32)) => ?_) (fun (hc4 : ¬ ((Int32.ofNat s) ≤ (3 : Int32))) => ?_)
    · refine q_ret 2 (some (.int (Int8.toInt32 (Int8.ofInt (-4)))), g1, u1) (fun _ _ => rfl) ?_
      refine ⟨g1, u1, ?_, hf⟩
      have z := (q_le (i := s) (j := 3) (by omega) (by omega)).mp hc4
      rw [f_nuw_n (w := 13) (by omega) (by omega)]
    · refine q_step 1 127 [(0, .ref 8), (1, .int (Int32.ofNat p)), (2, .int (Int32.ofNat a)), (3, .int (Int32.ofNat b)), (4, .int (13 : Int32)), (5, .int (3 : Int32)), (6, .int (Int32.ofNat (s * 1024 + row))), (7, .int (Int32.ofNat s))] [.int (Int32.ofNat (s * 1024 + row))] g1 u1 (fun big n0 => sg_nu_78 big n0 g1 u1 (Int32.ofNat p) (Int32.ofNat a) (Int32.ofNat b) (Int32.ofNat (s * 1024 + row)) (Int32.ofNat s)) ?_
      refine q_call (M2 := 88) (rest := []) (b_lo g1 u1 (by omega) (by omega)) (fun _ _ => rfl) ?_
      refine q_step 2 134 [(0, .ref 8), (1, .int (Int32.ofNat p)), (2, .int (Int32.ofNat a)), (3, .int (Int32.ofNat b)), (4, .int (13 : Int32)), (5, .int (3 : Int32)), (6, .int (Int32.ofNat (s * 1024 + row))), (7, .int (Int32.ofNat s))] [.int (Int32.ofNat s), .int (3 : Int32), .int (Int32.ofNat row)] g1 u1 (fun big n0 => sg_nu_79 big n0 g1 u1 (Int32.ofNat p) (Int32.ofNat a) (Int32.ofNat b) (Int32.ofNat (s * 1024 + row)) (Int32.ofNat s) (Int32.ofNat row)) ?_
      refine q_call (M2 := 96) (rest := []) (b_dig _ _ _ _ _) (fun _ _ => rfl) ?_
      refine q_ret 2 (some (.int (s_dg (Int32.ofNat row) (Int32.ofNat s) (3 : Int32))), g1, u1) (fun _ _ => rfl) ?_
      refine ⟨g1, u1, ?_, hf⟩
      have z : 3 < s := by
        have z1 : ¬ s ≤ 3 := fun q => hc4 ((q_le (i := s) (j := 3) (by omega) (by omega)).mpr q)
        omega
      rw [f_nuw_y (w := 13) (by omega) z]
      rfl
theorem rn1 (u : qW) {n W H p a b : Nat} {wh : Int32} {s row : Nat} (h6 : n ≤ 6) (hp : p < n) (hs4 : s ≤ 4) {Q : Option Value × qM × qW → Prop} : ∀ k i g r1, i + k = s → w_ok n W H r1 → w_sm n g r1 → (∀ g2, w_fr g g2 → w_sm n g2 (f_nu n p row s k i r1) → q_EV m_208 140 [(0, .ref 70), (1, .int (Int32.ofNat p)), (2, .int (Int32.ofNat a)), (3, .int (Int32.ofNat b)), (4, .int wh), (5, .int (1 : Int32)), (6, .int (Int32.ofNat s)), (7, .int (Int32.ofNat row)), (8, .int (Int32.ofNat s))] [] g2 u Q) → q_EV m_208 102 [(0, .ref 70), (1, .int (Int32.ofNat p)), (2, .int (Int32.ofNat a)), (3, .int (Int32.ofNat b)), (4, .int wh), (5, .int (1 : Int32)), (6, .int (Int32.ofNat s)), (7, .int (Int32.ofNat row)), (8, .int (Int32.ofNat i))] [] g u Q := by
  intro k
  induction k with
  | zero =>
    intro i g r1 hi h hs hk
    refine q_step 2 106 [(0, .ref 70), (1, .int (Int32.ofNat p)), (2, .int (Int32.ofNat a)), (3, .int (Int32.ofNat b)), (4, .int wh), (5, .int (1 : Int32)), (6, .int (Int32.ofNat s)), (7, .int (Int32.ofNat row)), (8, .int (Int32.ofNat i))] [.int (Int32.ofNat s), .int (Int32.ofNat i)] g u (fun big n0 => sg_nu_80 big n0 g u (Int32.ofNat p) (Int32.ofNat a) (Int32.ofNat b) wh (Int32.ofNat s) (Int32.ofNat row) (Int32.ofNat i)) ?_
    refine q_ic_ge rfl (fun (hc0 : (Int32.ofNat s) ≤ (Int32.ofNat i)) => ?_) (fun hc0 => absurd (show (Int32.ofNat s) ≤ (Int32.ofNat i) from by exact (q_le (by omega) (by omega)).mpr (by omega)) hc0)
    have e : i = s := by omega
    rw [e]
    exact hk g (w_fr_rfl g) hs
  | succ k ih =>
    intro i g r1 hi h hs hk
    refine q_step 2 106 [(0, .ref 70), (1, .int (Int32.ofNat p)), (2, .int (Int32.ofNat a)), (3, .int (Int32.ofNat b)), (4, .int wh), (5, .int (1 : Int32)), (6, .int (Int32.ofNat s)), (7, .int (Int32.ofNat row)), (8, .int (Int32.ofNat i))] [.int (Int32.ofNat s), .int (Int32.ofNat i)] g u (fun big n0 => sg_nu_80 big n0 g u (Int32.ofNat p) (Int32.ofNat a) (Int32.ofNat b) wh (Int32.ofNat s) (Int32.ofNat row) (Int32.ofNat i)) ?_
    refine q_ic_ge rfl (fun hc0 => absurd (show (Int32.ofNat s) ≤ (Int32.ofNat i) from hc0) (fun z => by exact absurd ((q_le (by omega) (by omega)).mp z) (by omega))) (fun (hc0 : ¬ ((Int32.ofNat s) ≤ (Int32.ofNat i))) => ?_)
    refine q_step 14 128 [(0, .ref 70), (1, .int (Int32.ofNat p)), (2, .int (Int32.ofNat a)), (3, .int (Int32.ofNat b)), (4, .int wh), (5, .int (1 : Int32)), (6, .int (Int32.ofNat s)), (7, .int (Int32.ofNat row)), (8, .int (Int32.ofNat i))] [.int (((Int32.ofNat row) >>> (((2 : Int32) * (((Int32.ofNat s) - (1 : Int32)) - (Int32.ofNat i))) &&& 31)) &&& (3 : Int32)), .int (Int32.ofNat p), .ref 76] g u (fun big n0 => sg_nu_81 big n0 g u (Int32.ofNat p) (Int32.ofNat a) (Int32.ofNat b) wh (Int32.ofNat s) (Int32.ofNat row) (Int32.ofNat i)) ?_
    refine q_iast (j := p) (q_ixn (by omega) (by omega)) rfl rfl ?_
    refine q_step 1 130 [(0, .ref 70), (1, .int (Int32.ofNat p)), (2, .int (Int32.ofNat a)), (3, .int (Int32.ofNat b)), (4, .int wh), (5, .int (1 : Int32)), (6, .int (Int32.ofNat s)), (7, .int (Int32.ofNat row)), (8, .int (Int32.ofNat i))] [.ref 70] (q_up g 76 p (((Int32.ofNat row) >>> (((2 : Int32) * (((Int32.ofNat s) - (1 : Int32)) - (Int32.ofNat i))) &&& 31)) &&& (3 : Int32))) u (fun big n0 => sg_nu_82 big n0 (q_up g 76 p (((Int32.ofNat row) >>> (((2 : Int32) * (((Int32.ofNat s) - (1 : Int32)) - (Int32.ofNat i))) &&& 31)) &&& (3 : Int32))) u (Int32.ofNat p) (Int32.ofNat a) (Int32.ofNat b) wh (Int32.ofNat s) (Int32.ofNat row) (Int32.ofNat i)) ?_
    rw [show (q_up g 76 p (((Int32.ofNat row) >>> (((2 : Int32) * (((Int32.ofNat s) - (1 : Int32)) - (Int32.ofNat i))) &&& 31)) &&& (3 : Int32))) = (q_up g 76 p (f_md s row i)) from rfl]
    have hk1 := w_ok_md (p := p) h (s_dg_4 (Int32.ofNat row) (Int32.ofNat s) (Int32.ofNat i))
    have hd := w_sm_md (p := p) (x := f_md s row i) hs
    refine q_call (M2 := 191) (rest := []) (c_rst u hk1 hd) (fun _ _ => rfl) ?_
    refine q_step 3 102 [(0, .ref 70), (1, .int (Int32.ofNat p)), (2, .int (Int32.ofNat a)), (3, .int (Int32.ofNat b)), (4, .int wh), (5, .int (1 : Int32)), (6, .int (Int32.ofNat s)), (7, .int (Int32.ofNat row)), (8, .int ((Int32.ofNat i) + (1 : Int32)))] [] (s_rst n (q_up g 76 p (f_md s row i))) u (fun big n0 => sg_nu_83 big n0 (s_rst n (q_up g 76 p (f_md s row i))) u (Int32.ofNat p) (Int32.ofNat a) (Int32.ofNat b) wh (Int32.ofNat s) (Int32.ofNat row) (Int32.ofNat i) (s_ran n (q_up g 76 p (f_md s row i)))) ?_
    rw [q_succ]
    have hf : w_fr g (s_rst n (q_up g 76 p (f_md s row i))) := ((w_fr_rfl g).up (by omega)).trans s_rst_fr
    exact ih (i + 1) _ _ (by omega) (w_ok_rst hk1) (w_sm_rst hk1 hd).1 (fun g2 f1 h1 => hk g2 (hf.trans f1) h1)
theorem rn2 (u : qW) {n W H p a b : Nat} {wh : Int32} {r : qM} (h : w_ok n W H r) (h5 : n ≤ 5) (hp : p < n) (ha : a < n) (hb : b < n) {s : Nat} (hs4 : s ≤ 4) (h4 : 4 ^ s ≤ 256) {Q : Option Value × qM × qW → Prop} : ∀ k row g, row + k = 4 ^ s → w_sm n (s_start g) r → (f_fi ((n_nur n p a b r) s) k row = none → ∀ g2, w_fr g g2 → w_sm n (s_start g2) r → q_EV m_208 199 [(0, .ref 70), (1, .int (Int32.ofNat p)), (2, .int (Int32.ofNat a)), (3, .int (Int32.ofNat b)), (4, .int wh), (5, .int (1 : Int32)), (6, .int (Int32.ofNat s)), (7, .int (Int32.ofNat (4 ^ s)))] [] g2 u Q) → (∀ x g2, f_fi ((n_nur n p a b r) s) k row = some x → w_fr g g2 → q_EV m_208 150 [(0, .ref 70), (1, .int (Int32.ofNat p)), (2, .int (Int32.ofNat a)), (3, .int (Int32.ofNat b)), (4, .int wh), (5, .int (1 : Int32)), (6, .int (Int32.ofNat s)), (7, .int (Int32.ofNat x))] [] g2 u Q) → q_EV m_208 85 [(0, .ref 70), (1, .int (Int32.ofNat p)), (2, .int (Int32.ofNat a)), (3, .int (Int32.ofNat b)), (4, .int wh), (5, .int (1 : Int32)), (6, .int (Int32.ofNat s)), (7, .int (Int32.ofNat row))] [] g u Q := by
  intro k
  induction k with
  | zero =>
    intro row g hrow hs hk hf
    refine q_step 2 89 [(0, .ref 70), (1, .int (Int32.ofNat p)), (2, .int (Int32.ofNat a)), (3, .int (Int32.ofNat b)), (4, .int wh), (5, .int (1 : Int32)), (6, .int (Int32.ofNat s)), (7, .int (Int32.ofNat row))] [.int (Int32.ofNat s), .int (Int32.ofNat row)] g u (fun big n0 => sg_nu_84 big n0 g u (Int32.ofNat p) (Int32.ofNat a) (Int32.ofNat b) wh (Int32.ofNat s) (Int32.ofNat row)) ?_
    refine q_call (M2 := 202) (rest := [.int (Int32.ofNat row)]) (b_rrows _ _ _) (fun _ _ => rfl) ?_
    refine q_ic_ge rfl (fun (hc0 : (s_rows (Int32.ofNat s)) ≤ (Int32.ofNat row)) => ?_) (fun hc0 => absurd (show (s_rows (Int32.ofNat s)) ≤ (Int32.ofNat row) from by rw [s_rows_n (by omega)]; exact (q_le (by omega) (by omega)).mpr (by omega)) hc0)
    have e : row = 4 ^ s := by omega
    rw [e]
    exact hk rfl g (w_fr_rfl g) hs
  | succ k ih =>
    intro row g hrow hs hk hf
    refine q_step 2 89 [(0, .ref 70), (1, .int (Int32.ofNat p)), (2, .int (Int32.ofNat a)), (3, .int (Int32.ofNat b)), (4, .int wh), (5, .int (1 : Int32)), (6, .int (Int32.ofNat s)), (7, .int (Int32.ofNat row))] [.int (Int32.ofNat s), .int (Int32.ofNat row)] g u (fun big n0 => sg_nu_84 big n0 g u (Int32.ofNat p) (Int32.ofNat a) (Int32.ofNat b) wh (Int32.ofNat s) (Int32.ofNat row)) ?_
    refine q_call (M2 := 202) (rest := [.int (Int32.ofNat row)]) (b_rrows _ _ _) (fun _ _ => rfl) ?_
    refine q_ic_ge rfl (fun hc0 => absurd (show (s_rows (Int32.ofNat s)) ≤ (Int32.ofNat row) from hc0) (fun z => by rw [s_rows_n (by omega)] at z; exact absurd ((q_le (by omega) (by omega)).mp z) (by omega))) (fun (hc0 : ¬ ((s_rows (Int32.ofNat s)) ≤ (Int32.ofNat row))) => ?_)
    refine q_step 1 96 [(0, .ref 70), (1, .int (Int32.ofNat p)), (2, .int (Int32.ofNat a)), (3, .int (Int32.ofNat b)), (4, .int wh), (5, .int (1 : Int32)), (6, .int (Int32.ofNat s)), (7, .int (Int32.ofNat row))] [.ref 70] g u (fun big n0 => sg_nu_85 big n0 g u (Int32.ofNat p) (Int32.ofNat a) (Int32.ofNat b) wh (Int32.ofNat s) (Int32.ofNat row)) ?_
    refine q_call (M2 := 172) (rest := []) (b_starts g u) (fun _ _ => rfl) ?_
    refine q_step 2 102 [(0, .ref 70), (1, .int (Int32.ofNat p)), (2, .int (Int32.ofNat a)), (3, .int (Int32.ofNat b)), (4, .int wh), (5, .int (1 : Int32)), (6, .int (Int32.ofNat s)), (7, .int (Int32.ofNat row)), (8, .int (0 : Int32))] [] (s_start g) u (fun big n0 => sg_nu_86 big n0 (s_start g) u (Int32.ofNat p) (Int32.ofNat a) (Int32.ofNat b) wh (Int32.ofNat s) (Int32.ofNat row)) ?_
    refine rn1 u (by omega) hp hs4 s 0 (s_start g) r (by omega) h hs (fun g2 f1 h1 => ?_)
    have hkn := w_ok_nu (p := p) (row := row) (s := s) s 0 r h
    have hap := b_apart g2 u (p := a) (q := b) (by omega) (by omega) (w_w0 hkn h1).2.2
    rw [show s_far (g2 70 2) (g2 75 b) (g2 75 a) = f_far (f_nu n p row s s 0 r) a b from by unfold f_far; rw [h1.1.2.1, (h1.2.2 b hb).1, (h1.2.2 a ha).1]] at hap
    have hfr := s_start_fr.trans f1
    refine q_step 3 143 [(0, .ref 70), (1, .int (Int32.ofNat p)), (2, .int (Int32.ofNat a)), (3, .int (Int32.ofNat b)), (4, .int wh), (5, .int (1 : Int32)), (6, .int (Int32.ofNat s)), (7, .int (Int32.ofNat row)), (8, .int (Int32.ofNat s))] [.int (Int32.ofNat b), .int (Int32.ofNat a), .ref 70] g2 u (fun big n0 => sg_nu_87 big n0 g2 u (Int32.ofNat p) (Int32.ofNat a) (Int32.ofNat b) wh (Int32.ofNat s) (Int32.ofNat row) (Int32.ofNat s)) ?_
    refine q_call (M2 := 185) (rest := []) (hap) (fun _ _ => rfl) ?_
    refine q_step 1 147 [(0, .ref 70), (1, .int (Int32.ofNat p)), (2, .int (Int32.ofNat a)), (3, .int (Int32.ofNat b)), (4, .int wh), (5, .int (1 : Int32)), (6, .int (Int32.ofNat s)), (7, .int (Int32.ofNat row)), (8, .int (Int32.ofNat s))] [.int (1 : Int32), .int (f_far (f_nu n p row s s 0 r) a b)] g2 u (fun big n0 => sg_nu_88 big n0 g2 u (Int32.ofNat p) (Int32.ofNat a) (Int32.ofNat b) wh (Int32.ofNat s) (Int32.ofNat row) (Int32.ofNat s) (f_far (f_nu n p row s s 0 r) a b)) ?_
    refine q_ic_le rfl (fun (hc0 : (f_far (f_nu n p row s s 0 r) a b) ≤ (1 : Int32)) => ?_) (fun (hc0 : ¬ ((f_far (f_nu n p row s s 0 r) a b) ≤ (1 : Int32))) => ?_)
    · refine q_step 2 85 [(0, .ref 70), (1, .int (Int32.ofNat p)), (2, .int (Int32.ofNat a)), (3, .int (Int32.ofNat b)), (4, .int wh), (5, .int (1 : Int32)), (6, .int (Int32.ofNat s)), (7, .int ((Int32.ofNat row) + (1 : Int32))), (8, .int (Int32.ofNat s))] [] g2 u (fun big n0 => sg_nu_89 big n0 g2 u (Int32.ofNat p) (Int32.ofNat a) (Int32.ofNat b) wh (Int32.ofNat s) (Int32.ofNat row) (Int32.ofNat s)) ?_
      refine q_weak [(0, .ref 70), (1, .int (Int32.ofNat p)), (2, .int (Int32.ofNat a)), (3, .int (Int32.ofNat b)), (4, .int wh), (5, .int (1 : Int32)), (6, .int (Int32.ofNat s)), (7, .int ((Int32.ofNat row) + (1 : Int32)))] (q_sub.cons rfl (q_sub.cons rfl (q_sub.cons rfl (q_sub.cons rfl (q_sub.cons rfl (q_sub.cons rfl (q_sub.cons rfl (q_sub.cons rfl q_sub.nil)))))))) ?_
      have e : f_fi ((n_nur n p a b r) s) (k + 1) row = f_fi ((n_nur n p a b r) s) k (row + 1) := by rw [f_fi, if_pos (n_nur_iff.mpr hc0)]
      rw [q_succ]
      exact ih (row + 1) g2 (by omega) (w_st_sm hfr h5 hs) (fun z g3 f3 => hk (e.trans z) g3 (hfr.trans f3)) (fun x g3 z f3 => hf x g3 (e.trans z) (hfr.trans f3))
    · refine q_weak [(0, .ref 70), (1, .int (Int32.ofNat p)), (2, .int (Int32.ofNat a)), (3, .int (Int32.ofNat b)), (4, .int wh), (5, .int (1 : Int32)), (6, .int (Int32.ofNat s)), (7, .int (Int32.ofNat row))] (q_sub.cons rfl (q_sub.cons rfl (q_sub.cons rfl (q_sub.cons rfl (q_sub.cons rfl (q_sub.cons rfl (q_sub.cons rfl (q_sub.cons rfl q_sub.nil)))))))) ?_
      exact hf row g2 (by rw [f_fi, if_neg (fun z => hc0 (n_nur_iff.mp z))]) hfr
theorem rn3 (u : qW) {n W H p a b : Nat} {wh : Int32} {r : qM} (h : w_ok n W H r) (h5 : n ≤ 5) (hp : p < n) (ha : a < n) (hb : b < n) {Q : Option Value × qM × qW → Prop} : ∀ k s g, s + k = 5 → w_sm n (s_start g) r → (f_nof (n_nur n p a b r) k s = none → ∀ g2, w_fr g g2 → q_EV m_208 205 [(0, .ref 70), (1, .int (Int32.ofNat p)), (2, .int (Int32.ofNat a)), (3, .int (Int32.ofNat b)), (4, .int wh), (5, .int (1 : Int32)), (6, .int (Int32.ofNat 5))] [] g2 u Q) → (∀ t x g2, f_nof (n_nur n p a b r) k s = some (t, x) → w_fr g g2 → q_EV m_208 150 [(0, .ref 70), (1, .int (Int32.ofNat p)), (2, .int (Int32.ofNat a)), (3, .int (Int32.ofNat b)), (4, .int wh), (5, .int (1 : Int32)), (6, .int (Int32.ofNat t)), (7, .int (Int32.ofNat x))] [] g2 u Q) → q_EV m_208 76 [(0, .ref 70), (1, .int (Int32.ofNat p)), (2, .int (Int32.ofNat a)), (3, .int (Int32.ofNat b)), (4, .int wh), (5, .int (1 : Int32)), (6, .int (Int32.ofNat s))] [] g u Q := by
  intro k
  induction k with
  | zero =>
    intro s g hi hs hk hf
    refine q_step 2 79 [(0, .ref 70), (1, .int (Int32.ofNat p)), (2, .int (Int32.ofNat a)), (3, .int (Int32.ofNat b)), (4, .int wh), (5, .int (1 : Int32)), (6, .int (Int32.ofNat s))] [.int (4 : Int32), .int (Int32.ofNat s)] g u (fun big n0 => sg_nu_90 big n0 g u (Int32.ofNat p) (Int32.ofNat a) (Int32.ofNat b) wh (Int32.ofNat s)) ?_
    refine q_ic_gt rfl (fun (hc0 : (4 : Int32) < (Int32.ofNat s)) => ?_) (fun hc0 => absurd (show (4 : Int32) < (Int32.ofNat s) from by rw [show s = 5 by omega]; decide) hc0)
    have e : s = 5 := by omega
    rw [e]
    exact hk rfl g (w_fr_rfl g)
  | succ k ih =>
    intro s g hi hs hk hf
    refine q_step 2 79 [(0, .ref 70), (1, .int (Int32.ofNat p)), (2, .int (Int32.ofNat a)), (3, .int (Int32.ofNat b)), (4, .int wh), (5, .int (1 : Int32)), (6, .int (Int32.ofNat s))] [.int (4 : Int32), .int (Int32.ofNat s)] g u (fun big n0 => sg_nu_90 big n0 g u (Int32.ofNat p) (Int32.ofNat a) (Int32.ofNat b) wh (Int32.ofNat s)) ?_
    refine q_ic_gt rfl (fun hc0 => absurd (show (4 : Int32) < (Int32.ofNat s) from hc0) (fun z => by have z1 := (q_lt (i := 4) (j := s) (by omega) (by omega)).mp z; omega)) (fun (hc0 : ¬ ((4 : Int32) < (Int32.ofNat s))) => ?_)
    refine q_step 2 85 [(0, .ref 70), (1, .int (Int32.ofNat p)), (2, .int (Int32.ofNat a)), (3, .int (Int32.ofNat b)), (4, .int wh), (5, .int (1 : Int32)), (6, .int (Int32.ofNat s)), (7, .int (0 : Int32))] [] g u (fun big n0 => sg_nu_91 big n0 g u (Int32.ofNat p) (Int32.ofNat a) (Int32.ofNat b) wh (Int32.ofNat s)) ?_
    refine rn2 u h h5 hp ha hb (s := s) (by omega) (s_44 (by omega)) (4 ^ s) 0 g (by omega) hs (fun hz g2 f1 h1 => ?_) (fun x g2 hx f1 => ?_)
    · refine q_step 2 76 [(0, .ref 70), (1, .int (Int32.ofNat p)), (2, .int (Int32.ofNat a)), (3, .int (Int32.ofNat b)), (4, .int wh), (5, .int (1 : Int32)), (6, .int ((Int32.ofNat s) + (1 : Int32))), (7, .int (Int32.ofNat (4 ^ s)))] [] g2 u (fun big n0 => sg_nu_92 big n0 g2 u (Int32.ofNat p) (Int32.ofNat a) (Int32.ofNat b) wh (Int32.ofNat s) (Int32.ofNat (4 ^ s))) ?_
      refine q_weak [(0, .ref 70), (1, .int (Int32.ofNat p)), (2, .int (Int32.ofNat a)), (3, .int (Int32.ofNat b)), (4, .int wh), (5, .int (1 : Int32)), (6, .int ((Int32.ofNat s) + (1 : Int32)))] (q_sub.cons rfl (q_sub.cons rfl (q_sub.cons rfl (q_sub.cons rfl (q_sub.cons rfl (q_sub.cons rfl (q_sub.cons rfl q_sub.nil))))))) ?_
      have e : f_nof (n_nur n p a b r) (k + 1) s = f_nof (n_nur n p a b r) k (s + 1) := by rw [f_nof, hz]
      rw [q_succ]
      exact ih (s + 1) g2 (by omega) h1 (fun z g3 f3 => hk (e.trans z) g3 (f1.trans f3)) (fun t x g3 z f3 => hf t x g3 (e.trans z) (f1.trans f3))
    · exact hf s x g2 (by rw [f_nof, hx]) f1
theorem r_nurse0 {n W H : Nat} {g r : qM} (u : qW) (h : w_ok n W H r) (hs : w_sm n (s_start g) r) (h5 : n ≤ 5) {p a b : Nat} (hp : p < n) (ha : a < n) (hb : b < n) (hpa : p ≠ a) (hpb : p ≠ b) (hab : a ≠ b) : w_BS w_fr 208 [.ref 70, .int (Int32.ofNat p), .int (Int32.ofNat a), .int (Int32.ofNat b), .int (0 : Int32)] g u (.int (f_nuw 0 (f_nur n p a b r))) := by
  refine w_bs (mm := m_208) rfl (Nat.le_of_ble_eq_true rfl) rfl ?_
  refine q_step 2 2 [(0, .ref 70), (1, .int (Int32.ofNat p)), (2, .int (Int32.ofNat a)), (3, .int (Int32.ofNat b)), (4, .int (0 : Int32))] [.int (Int32.ofNat a), .int (Int32.ofNat p)] g u (fun big n0 => sg_nu_93 big n0 g u (Int32.ofNat p) (Int32.ofNat a) (Int32.ofNat b)) ?_
  refine q_ic_eq rfl (fun hc0 => absurd (show (Int32.ofNat p) = (Int32.ofNat a) from hc0) (fun z => hpa ((q_eq (by omega) (by omega)).mp z))) (fun (hc0 : ¬ ((Int32.ofNat p) = (Int32.ofNat a))) => ?_)
  refine q_step 2 7 [(0, .ref 70), (1, .int (Int32.ofNat p)), (2, .int (Int32.ofNat a)), (3, .int (Int32.ofNat b)), (4, .int (0 : Int32))] [.int (Int32.ofNat b), .int (Int32.ofNat p)] g u (fun big n0 => sg_nu_94 big n0 g u (Int32.ofNat p) (Int32.ofNat a) (Int32.ofNat b)) ?_
  refine q_ic_eq rfl (fun hc1 => absurd (show (Int32.ofNat p) = (Int32.ofNat b) from hc1) (fun z => hpb ((q_eq (by omega) (by omega)).mp z))) (fun (hc1 : ¬ ((Int32.ofNat p) = (Int32.ofNat b))) => ?_)
  refine q_step 2 12 [(0, .ref 70), (1, .int (Int32.ofNat p)), (2, .int (Int32.ofNat a)), (3, .int (Int32.ofNat b)), (4, .int (0 : Int32))] [.int (Int32.ofNat b), .int (Int32.ofNat a)] g u (fun big n0 => sg_nu_95 big n0 g u (Int32.ofNat p) (Int32.ofNat a) (Int32.ofNat b)) ?_
  refine q_ic_eq rfl (fun hc2 => absurd (show (Int32.ofNat a) = (Int32.ofNat b) from hc2) (fun z => hab ((q_eq (by omega) (by omega)).mp z))) (fun (hc2 : ¬ ((Int32.ofNat a) = (Int32.ofNat b))) => ?_)
  refine q_step 5 24 [(0, .ref 70), (1, .int (Int32.ofNat p)), (2, .int (Int32.ofNat a)), (3, .int (Int32.ofNat b)), (4, .int (0 : Int32)), (5, .int (1 : Int32))] [.int (Int32.ofNat p), .ref 70] g u (fun big n0 => sg_nu_96 big n0 g u (Int32.ofNat p) (Int32.ofNat a) (Int32.ofNat b)) ?_
  refine q_call (M2 := 169) (rest := []) (b_risOne1 g u (w_pl h hs) (by omega) hp) (fun _ _ => rfl) ?_
  refine q_step 3 32 [(0, .ref 70), (1, .int (Int32.ofNat p)), (2, .int (Int32.ofNat a)), (3, .int (Int32.ofNat b)), (4, .int (0 : Int32)), (5, .int (1 : Int32))] [.int (Int32.ofNat a), .ref 70] g u (fun big n0 => sg_nu_97 big n0 g u (Int32.ofNat p) (Int32.ofNat a) (Int32.ofNat b)) ?_
  refine q_call (M2 := 169) (rest := []) (b_risOne1 g u (w_pl h hs) (by omega) ha) (fun _ _ => rfl) ?_
  refine q_step 3 40 [(0, .ref 70), (1, .int (Int32.ofNat p)), (2, .int (Int32.ofNat a)), (3, .int (Int32.ofNat b)), (4, .int (0 : Int32)), (5, .int (1 : Int32))] [.int (Int32.ofNat b), .ref 70] g u (fun big n0 => sg_nu_98 big n0 g u (Int32.ofNat p) (Int32.ofNat a) (Int32.ofNat b)) ?_
  refine q_call (M2 := 169) (rest := []) (b_risOne1 g u (w_pl h hs) (by omega) hb) (fun _ _ => rfl) ?_
  refine q_step 7 76 [(0, .ref 70), (1, .int (Int32.ofNat p)), (2, .int (Int32.ofNat a)), (3, .int (Int32.ofNat b)), (4, .int (0 : Int32)), (5, .int (1 : Int32)), (6, .int (0 : Int32))] [] g u (fun big n0 => sg_nu_99 big n0 g u (Int32.ofNat p) (Int32.ofNat a) (Int32.ofNat b)) ?_
  refine rn3 u h h5 hp ha hb (wh := 0) 5 0 g (by omega) hs (fun hz g2 f1 => ?_) (fun s row g2 hz f1 => ?_)
  · refine q_ret 2 (some (.int (Int8.toInt32 (Int8.ofInt (-4)))), g2, u) (fun _ _ => rfl) ?_
    exact ⟨g2, u, by rw [show f_nur n p a b r = none from hz]; rfl, f1⟩
  · have hl := f_nof_lt 5 0 s row hz
    refine q_ret 5 (some (.int (Int32.ofNat s)), g2, u) (fun _ _ => rfl) ?_
    refine ⟨g2, u, ?_, f1⟩
    rw [show f_nur n p a b r = some (s, row) from hz]
    rfl
theorem r_nurse10 {n W H : Nat} {g r : qM} (u : qW) (h : w_ok n W H r) (hs : w_sm n (s_start g) r) (h5 : n ≤ 5) {p a b : Nat} (hp : p < n) (ha : a < n) (hb : b < n) (hpa : p ≠ a) (hpb : p ≠ b) (hab : a ≠ b) : w_BS w_fr 208 [.ref 70, .int (Int32.ofNat p), .int (Int32.ofNat a), .int (Int32.ofNat b), .int (10 : Int32)] g u (.int (f_nuw 10 (f_nur n p a b r))) := by
  refine w_bs (mm := m_208) rfl (Nat.le_of_ble_eq_true rfl) rfl ?_
  refine q_step 2 2 [(0, .ref 70), (1, .int (Int32.ofNat p)), (2, .int (Int32.ofNat a)), (3, .int (Int32.ofNat b)), (4, .int (10 : Int32))] [.int (Int32.ofNat a), .int (Int32.ofNat p)] g u (fun big n0 => sg_nu_100 big n0 g u (Int32.ofNat p) (Int32.ofNat a) (Int32.ofNat b)) ?_
  refine q_ic_eq rfl (fun hc0 => absurd (show (Int32.ofNat p) = (Int32.ofNat a) from hc0) (fun z => hpa ((q_eq (by omega) (by omega)).mp z))) (fun (hc0 : ¬ ((Int32.ofNat p) = (Int32.ofNat a))) => ?_)
  refine q_step 2 7 [(0, .ref 70), (1, .int (Int32.ofNat p)), (2, .int (Int32.ofNat a)), (3, .int (Int32.ofNat b)), (4, .int (10 : Int32))] [.int (Int32.ofNat b), .int (Int32.ofNat p)] g u (fun big n0 => sg_nu_101 big n0 g u (Int32.ofNat p) (Int32.ofNat a) (Int32.ofNat b)) ?_
  refine q_ic_eq rfl (fun hc1 => absurd (show (Int32.ofNat p) = (Int32.ofNat b) from hc1) (fun z => hpb ((q_eq (by omega) (by omega)).mp z))) (fun (hc1 : ¬ ((Int32.ofNat p) = (Int32.ofNat b))) => ?_)
  refine q_step 2 12 [(0, .ref 70), (1, .int (Int32.ofNat p)), (2, .int (Int32.ofNat a)), (3, .int (Int32.ofNat b)), (4, .int (10 : Int32))] [.int (Int32.ofNat b), .int (Int32.ofNat a)] g u (fun big n0 => sg_nu_102 big n0 g u (Int32.ofNat p) (Int32.ofNat a) (Int32.ofNat b)) ?_
  refine q_ic_eq rfl (fun hc2 => absurd (show (Int32.ofNat a) = (Int32.ofNat b) from hc2) (fun z => hab ((q_eq (by omega) (by omega)).mp z))) (fun (hc2 : ¬ ((Int32.ofNat a) = (Int32.ofNat b))) => ?_)
  refine q_step 5 24 [(0, .ref 70), (1, .int (Int32.ofNat p)), (2, .int (Int32.ofNat a)), (3, .int (Int32.ofNat b)), (4, .int (10 : Int32)), (5, .int (1 : Int32))] [.int (Int32.ofNat p), .ref 70] g u (fun big n0 => sg_nu_103 big n0 g u (Int32.ofNat p) (Int32.ofNat a) (Int32.ofNat b)) ?_
  refine q_call (M2 := 169) (rest := []) (b_risOne1 g u (w_pl h hs) (by omega) hp) (fun _ _ => rfl) ?_
  refine q_step 3 32 [(0, .ref 70), (1, .int (Int32.ofNat p)), (2, .int (Int32.ofNat a)), (3, .int (Int32.ofNat b)), (4, .int (10 : Int32)), (5, .int (1 : Int32))] [.int (Int32.ofNat a), .ref 70] g u (fun big n0 => sg_nu_104 big n0 g u (Int32.ofNat p) (Int32.ofNat a) (Int32.ofNat b)) ?_
  refine q_call (M2 := 169) (rest := []) (b_risOne1 g u (w_pl h hs) (by omega) ha) (fun _ _ => rfl) ?_
  refine q_step 3 40 [(0, .ref 70), (1, .int (Int32.ofNat p)), (2, .int (Int32.ofNat a)), (3, .int (Int32.ofNat b)), (4, .int (10 : Int32)), (5, .int (1 : Int32))] [.int (Int32.ofNat b), .ref 70] g u (fun big n0 => sg_nu_105 big n0 g u (Int32.ofNat p) (Int32.ofNat a) (Int32.ofNat b)) ?_
  refine q_call (M2 := 169) (rest := []) (b_risOne1 g u (w_pl h hs) (by omega) hb) (fun _ _ => rfl) ?_
  refine q_step 9 65 [(0, .ref 70), (1, .int (Int32.ofNat p)), (2, .int (Int32.ofNat a)), (3, .int (Int32.ofNat b)), (4, .int (10 : Int32)), (5, .int (1 : Int32))] [.long (13 : Int64), .long (10 : Int64), .long (10 : Int64)] g u (fun big n0 => sg_nu_106 big n0 g u (Int32.ofNat p) (Int32.ofNat a) (Int32.ofNat b)) ?_
  refine q_call (M2 := 149) (rest := []) (show q_BS 149 [.long (10 : Int64), .long (10 : Int64), .long (13 : Int64)] g u (some (.int 1), g, u) from b_in _ _ _ _ _) (fun _ _ => rfl) ?_
  refine q_step 3 76 [(0, .ref 70), (1, .int (Int32.ofNat p)), (2, .int (Int32.ofNat a)), (3, .int (Int32.ofNat b)), (4, .int (10 : Int32)), (5, .int (1 : Int32)), (6, .int (0 : Int32))] [] g u (fun big n0 => sg_nu_107 big n0 g u (Int32.ofNat p) (Int32.ofNat a) (Int32.ofNat b)) ?_
  refine rn3 u h h5 hp ha hb (wh := 10) 5 0 g (by omega) hs (fun hz g2 f1 => ?_) (fun s row g2 hz f1 => ?_)
  · refine q_ret 2 (some (.int (Int8.toInt32 (Int8.ofInt (-4)))), g2, u) (fun _ _ => rfl) ?_
    exact ⟨g2, u, by rw [show f_nur n p a b r = none from hz]; rfl, f1⟩
  · have hl := f_nof_lt 5 0 s row hz
    refine q_step 6 167 [(0, .ref 70), (1, .int (Int32.ofNat p)), (2, .int (Int32.ofNat a)), (3, .int (Int32.ofNat b)), (4, .int (10 : Int32)), (5, .int (1 : Int32)), (6, .int (Int32.ofNat s)), (7, .int (Int32.ofNat row))] [.int (Int32.ofNat s), .int (0 : Int32)] g2 u (fun big n0 => sg_nu_108 big n0 g2 u (Int32.ofNat p) (Int32.ofNat a) (Int32.ofNat b) (Int32.ofNat s) (Int32.ofNat row)) ?_
    refine q_ic_ge rfl (fun (hc0 : (Int32.ofNat s) ≤ (0 : Int32)) => ?_) (fun (hc0 : ¬ ((Int32.ofNat s) ≤ (0 : Int32))) => ?_)
    · refine q_ret 2 (some (.int (Int8.toInt32 (Int8.ofInt (-4)))), g2, u) (fun _ _ => rfl) ?_
      refine ⟨g2, u, ?_, f1⟩
      rw [show f_nur n p a b r = some (s, row) from hz]
      have z := (q_le (i := s) (j := 0) (by omega) (by omega)).mp hc0
      rw [f_nuw_n (w := 10) (by omega) (by omega)]
    · refine q_ret 15 (some (.int (((Int32.ofNat row) >>> (((2 : Int32) * (((Int32.ofNat s) - (1 : Int32)) - (0 : Int32))) &&& 31)) &&& (3 : Int32))), g2, u) (fun _ _ => rfl) ?_
      refine ⟨g2, u, ?_, f1⟩
      rw [show f_nur n p a b r = some (s, row) from hz]
      have z : 0 < s := by
        have z1 : ¬ s ≤ 0 := fun q => hc0 ((q_le (i := s) (j := 0) (by omega) (by omega)).mpr q)
        omega
      rw [f_nuw_y (w := 10) (by omega) z]
      rfl
theorem r_nurse11 {n W H : Nat} {g r : qM} (u : qW) (h : w_ok n W H r) (hs : w_sm n (s_start g) r) (h5 : n ≤ 5) {p a b : Nat} (hp : p < n) (ha : a < n) (hb : b < n) (hpa : p ≠ a) (hpb : p ≠ b) (hab : a ≠ b) : w_BS w_fr 208 [.ref 70, .int (Int32.ofNat p), .int (Int32.ofNat a), .int (Int32.ofNat b), .int (11 : Int32)] g u (.int (f_nuw 11 (f_nur n p a b r))) := by
  refine w_bs (mm := m_208) rfl (Nat.le_of_ble_eq_true rfl) rfl ?_
  refine q_step 2 2 [(0, .ref 70), (1, .int (Int32.ofNat p)), (2, .int (Int32.ofNat a)), (3, .int (Int32.ofNat b)), (4, .int (11 : Int32))] [.int (Int32.ofNat a), .int (Int32.ofNat p)] g u (fun big n0 => sg_nu_109 big n0 g u (Int32.ofNat p) (Int32.ofNat a) (Int32.ofNat b)) ?_
  refine q_ic_eq rfl (fun hc0 => absurd (show (Int32.ofNat p) = (Int32.ofNat a) from hc0) (fun z => hpa ((q_eq (by omega) (by omega)).mp z))) (fun (hc0 : ¬ ((Int32.ofNat p) = (Int32.ofNat a))) => ?_)
  refine q_step 2 7 [(0, .ref 70), (1, .int (Int32.ofNat p)), (2, .int (Int32.ofNat a)), (3, .int (Int32.ofNat b)), (4, .int (11 : Int32))] [.int (Int32.ofNat b), .int (Int32.ofNat p)] g u (fun big n0 => sg_nu_110 big n0 g u (Int32.ofNat p) (Int32.ofNat a) (Int32.ofNat b)) ?_
  refine q_ic_eq rfl (fun hc1 => absurd (show (Int32.ofNat p) = (Int32.ofNat b) from hc1) (fun z => hpb ((q_eq (by omega) (by omega)).mp z))) (fun (hc1 : ¬ ((Int32.ofNat p) = (Int32.ofNat b))) => ?_)
  refine q_step 2 12 [(0, .ref 70), (1, .int (Int32.ofNat p)), (2, .int (Int32.ofNat a)), (3, .int (Int32.ofNat b)), (4, .int (11 : Int32))] [.int (Int32.ofNat b), .int (Int32.ofNat a)] g u (fun big n0 => sg_nu_111 big n0 g u (Int32.ofNat p) (Int32.ofNat a) (Int32.ofNat b)) ?_
  refine q_ic_eq rfl (fun hc2 => absurd (show (Int32.ofNat a) = (Int32.ofNat b) from hc2) (fun z => hab ((q_eq (by omega) (by omega)).mp z))) (fun (hc2 : ¬ ((Int32.ofNat a) = (Int32.ofNat b))) => ?_)
  refine q_step 5 24 [(0, .ref 70), (1, .int (Int32.ofNat p)), (2, .int (Int32.ofNat a)), (3, .int (Int32.ofNat b)), (4, .int (11 : Int32)), (5, .int (1 : Int32))] [.int (Int32.ofNat p), .ref 70] g u (fun big n0 => sg_nu_112 big n0 g u (Int32.ofNat p) (Int32.ofNat a) (Int32.ofNat b)) ?_
  refine q_call (M2 := 169) (rest := []) (b_risOne1 g u (w_pl h hs) (by omega) hp) (fun _ _ => rfl) ?_
  refine q_step 3 32 [(0, .ref 70), (1, .int (Int32.ofNat p)), (2, .int (Int32.ofNat a)), (3, .int (Int32.ofNat b)), (4, .int (11 : Int32)), (5, .int (1 : Int32))] [.int (Int32.ofNat a), .ref 70] g u (fun big n0 => sg_nu_113 big n0 g u (Int32.ofNat p) (Int32.ofNat a) (Int32.ofNat b)) ?_
  refine q_call (M2 := 169) (rest := []) (b_risOne1 g u (w_pl h hs) (by omega) ha) (fun _ _ => rfl) ?_
  refine q_step 3 40 [(0, .ref 70), (1, .int (Int32.ofNat p)), (2, .int (Int32.ofNat a)), (3, .int (Int32.ofNat b)), (4, .int (11 : Int32)), (5, .int (1 : Int32))] [.int (Int32.ofNat b), .ref 70] g u (fun big n0 => sg_nu_114 big n0 g u (Int32.ofNat p) (Int32.ofNat a) (Int32.ofNat b)) ?_
  refine q_call (M2 := 169) (rest := []) (b_risOne1 g u (w_pl h hs) (by omega) hb) (fun _ _ => rfl) ?_
  refine q_step 9 65 [(0, .ref 70), (1, .int (Int32.ofNat p)), (2, .int (Int32.ofNat a)), (3, .int (Int32.ofNat b)), (4, .int (11 : Int32)), (5, .int (1 : Int32))] [.long (13 : Int64), .long (10 : Int64), .long (11 : Int64)] g u (fun big n0 => sg_nu_115 big n0 g u (Int32.ofNat p) (Int32.ofNat a) (Int32.ofNat b)) ?_
  refine q_call (M2 := 149) (rest := []) (show q_BS 149 [.long (11 : Int64), .long (10 : Int64), .long (13 : Int64)] g u (some (.int 1), g, u) from b_in _ _ _ _ _) (fun _ _ => rfl) ?_
  refine q_step 3 76 [(0, .ref 70), (1, .int (Int32.ofNat p)), (2, .int (Int32.ofNat a)), (3, .int (Int32.ofNat b)), (4, .int (11 : Int32)), (5, .int (1 : Int32)), (6, .int (0 : Int32))] [] g u (fun big n0 => sg_nu_116 big n0 g u (Int32.ofNat p) (Int32.ofNat a) (Int32.ofNat b)) ?_
  refine rn3 u h h5 hp ha hb (wh := 11) 5 0 g (by omega) hs (fun hz g2 f1 => ?_) (fun s row g2 hz f1 => ?_)
  · refine q_ret 2 (some (.int (Int8.toInt32 (Int8.ofInt (-4)))), g2, u) (fun _ _ => rfl) ?_
    exact ⟨g2, u, by rw [show f_nur n p a b r = none from hz]; rfl, f1⟩
  · have hl := f_nof_lt 5 0 s row hz
    refine q_step 6 167 [(0, .ref 70), (1, .int (Int32.ofNat p)), (2, .int (Int32.ofNat a)), (3, .int (Int32.ofNat b)), (4, .int (11 : Int32)), (5, .int (1 : Int32)), (6, .int (Int32.ofNat s)), (7, .int (Int32.ofNat row))] [.int (Int32.ofNat s), .int (1 : Int32)] g2 u (fun big n0 => sg_nu_117 big n0 g2 u (Int32.ofNat p) (Int32.ofNat a) (Int32.ofNat b) (Int32.ofNat s) (Int32.ofNat row)) ?_
    refine q_ic_ge rfl (fun (hc0 : (Int32.ofNat s) ≤ (1 : Int32)) => ?_) (fun (hc0 : ¬ ((Int32.ofNat s) ≤ (1 : Int32))) => ?_)
    · refine q_ret 2 (some (.int (Int8.toInt32 (Int8.ofInt (-4)))), g2, u) (fun _ _ => rfl) ?_
      refine ⟨g2, u, ?_, f1⟩
      rw [show f_nur n p a b r = some (s, row) from hz]
      have z := (q_le (i := s) (j := 1) (by omega) (by omega)).mp hc0
      rw [f_nuw_n (w := 11) (by omega) (by omega)]
    · refine q_ret 15 (some (.int (((Int32.ofNat row) >>> (((2 : Int32) * (((Int32.ofNat s) - (1 : Int32)) - (1 : Int32))) &&& 31)) &&& (3 : Int32))), g2, u) (fun _ _ => rfl) ?_
      refine ⟨g2, u, ?_, f1⟩
      rw [show f_nur n p a b r = some (s, row) from hz]
      have z : 1 < s := by
        have z1 : ¬ s ≤ 1 := fun q => hc0 ((q_le (i := s) (j := 1) (by omega) (by omega)).mpr q)
        omega
      rw [f_nuw_y (w := 11) (by omega) z]
      rfl
theorem r_nurse12 {n W H : Nat} {g r : qM} (u : qW) (h : w_ok n W H r) (hs : w_sm n (s_start g) r) (h5 : n ≤ 5) {p a b : Nat} (hp : p < n) (ha : a < n) (hb : b < n) (hpa : p ≠ a) (hpb : p ≠ b) (hab : a ≠ b) : w_BS w_fr 208 [.ref 70, .int (Int32.ofNat p), .int (Int32.ofNat a), .int (Int32.ofNat b), .int (12 : Int32)] g u (.int (f_nuw 12 (f_nur n p a b r))) := by
  refine w_bs (mm := m_208) rfl (Nat.le_of_ble_eq_true rfl) rfl ?_
  refine q_step 2 2 [(0, .ref 70), (1, .int (Int32.ofNat p)), (2, .int (Int32.ofNat a)), (3, .int (Int32.ofNat b)), (4, .int (12 : Int32))] [.int (Int32.ofNat a), .int (Int32.ofNat p)] g u (fun big n0 => sg_nu_118 big n0 g u (Int32.ofNat p) (Int32.ofNat a) (Int32.ofNat b)) ?_
  refine q_ic_eq rfl (fun hc0 => absurd (show (Int32.ofNat p) = (Int32.ofNat a) from hc0) (fun z => hpa ((q_eq (by omega) (by omega)).mp z))) (fun (hc0 : ¬ ((Int32.ofNat p) = (Int32.ofNat a))) => ?_)
  refine q_step 2 7 [(0, .ref 70), (1, .int (Int32.ofNat p)), (2, .int (Int32.ofNat a)), (3, .int (Int32.ofNat b)), (4, .int (12 : Int32))] [.int (Int32.ofNat b), .int (Int32.ofNat p)] g u (fun big n0 => sg_nu_119 big n0 g u (Int32.ofNat p) (Int32.ofNat a) (Int32.ofNat b)) ?_
  refine q_ic_eq rfl (fun hc1 => absurd (show (Int32.ofNat p) = (Int32.ofNat b) from hc1) (fun z => hpb ((q_eq (by omega) (by omega)).mp z))) (fun (hc1 : ¬ ((Int32.ofNat p) = (Int32.ofNat b))) => ?_)
  refine q_step 2 12 [(0, .ref 70), (1, .int (Int32.ofNat p)), (2, .int (Int32.ofNat a)), (3, .int (Int32.ofNat b)), (4, .int (12 : Int32))] [.int (Int32.ofNat b), .int (Int32.ofNat a)] g u (fun big n0 => sg_nu_120 big n0 g u (Int32.ofNat p) (Int32.ofNat a) (Int32.ofNat b)) ?_
  refine q_ic_eq rfl (fun hc2 => absurd (show (Int32.ofNat a) = (Int32.ofNat b) from hc2) (fun z => hab ((q_eq (by omega) (by omega)).mp z))) (fun (hc2 : ¬ ((Int32.ofNat a) = (Int32.ofNat b))) => ?_)
  refine q_step 5 24 [(0, .ref 70), (1, .int (Int32.ofNat p)), (2, .int (Int32.ofNat a)), (3, .int (Int32.ofNat b)), (4, .int (12 : Int32)), (5, .int (1 : Int32))] [.int (Int32.ofNat p), .ref 70] g u (fun big n0 => sg_nu_121 big n0 g u (Int32.ofNat p) (Int32.ofNat a) (Int32.ofNat b)) ?_
  refine q_call (M2 := 169) (rest := []) (b_risOne1 g u (w_pl h hs) (by omega) hp) (fun _ _ => rfl) ?_
  refine q_step 3 32 [(0, .ref 70), (1, .int (Int32.ofNat p)), (2, .int (Int32.ofNat a)), (3, .int (Int32.ofNat b)), (4, .int (12 : Int32)), (5, .int (1 : Int32))] [.int (Int32.ofNat a), .ref 70] g u (fun big n0 => sg_nu_122 big n0 g u (Int32.ofNat p) (Int32.ofNat a) (Int32.ofNat b)) ?_
  refine q_call (M2 := 169) (rest := []) (b_risOne1 g u (w_pl h hs) (by omega) ha) (fun _ _ => rfl) ?_
  refine q_step 3 40 [(0, .ref 70), (1, .int (Int32.ofNat p)), (2, .int (Int32.ofNat a)), (3, .int (Int32.ofNat b)), (4, .int (12 : Int32)), (5, .int (1 : Int32))] [.int (Int32.ofNat b), .ref 70] g u (fun big n0 => sg_nu_123 big n0 g u (Int32.ofNat p) (Int32.ofNat a) (Int32.ofNat b)) ?_
  refine q_call (M2 := 169) (rest := []) (b_risOne1 g u (w_pl h hs) (by omega) hb) (fun _ _ => rfl) ?_
  refine q_step 9 65 [(0, .ref 70), (1, .int (Int32.ofNat p)), (2, .int (Int32.ofNat a)), (3, .int (Int32.ofNat b)), (4, .int (12 : Int32)), (5, .int (1 : Int32))] [.long (13 : Int64), .long (10 : Int64), .long (12 : Int64)] g u (fun big n0 => sg_nu_124 big n0 g u (Int32.ofNat p) (Int32.ofNat a) (Int32.ofNat b)) ?_
  refine q_call (M2 := 149) (rest := []) (show q_BS 149 [.long (12 : Int64), .long (10 : Int64), .long (13 : Int64)] g u (some (.int 1), g, u) from b_in _ _ _ _ _) (fun _ _ => rfl) ?_
  refine q_step 3 76 [(0, .ref 70), (1, .int (Int32.ofNat p)), (2, .int (Int32.ofNat a)), (3, .int (Int32.ofNat b)), (4, .int (12 : Int32)), (5, .int (1 : Int32)), (6, .int (0 : Int32))] [] g u (fun big n0 => sg_nu_125 big n0 g u (Int32.ofNat p) (Int32.ofNat a) (Int32.ofNat b)) ?_
  refine rn3 u h h5 hp ha hb (wh := 12) 5 0 g (by omega) hs (fun hz g2 f1 => ?_) (fun s row g2 hz f1 => ?_)
  · refine q_ret 2 (some (.int (Int8.toInt32 (Int8.ofInt (-4)))), g2, u) (fun _ _ => rfl) ?_
    exact ⟨g2, u, by rw [show f_nur n p a b r = none from hz]; rfl, f1⟩
  · have hl := f_nof_lt 5 0 s row hz
    refine q_step 6 167 [(0, .ref 70), (1, .int (Int32.ofNat p)), (2, .int (Int32.ofNat a)), (3, .int (Int32.ofNat b)), (4, .int (12 : Int32)), (5, .int (1 : Int32)), (6, .int (Int32.ofNat s)), (7, .int (Int32.ofNat row))] [.int (Int32.ofNat s), .int (2 : Int32)] g2 u (fun big n0 => sg_nu_126 big n0 g2 u (Int32.ofNat p) (Int32.ofNat a) (Int32.ofNat b) (Int32.ofNat s) (Int32.ofNat row)) ?_
    refine q_ic_ge rfl (fun (hc0 : (Int32.ofNat s) ≤ (2 : Int32)) => ?_) (fun (hc0 : ¬ ((Int32.ofNat s) ≤ (2 : Int32))) => ?_)
    · refine q_ret 2 (some (.int (Int8.toInt32 (Int8.ofInt (-4)))), g2, u) (fun _ _ => rfl) ?_
      refine ⟨g2, u, ?_, f1⟩
      rw [show f_nur n p a b r = some (s, row) from hz]
      have z := (q_le (i := s) (j := 2) (by omega) (by omega)).mp hc0
      rw [f_nuw_n (w := 12) (by omega) (by omega)]
    · refine q_ret 15 (some (.int (((Int32.ofNat row) >>> (((2 : Int32) * (((Int32.ofNat s) - (1 : Int32)) - (2 : Int32))) &&& 31)) &&& (3 : Int32))), g2, u) (fun _ _ => rfl) ?_
      refine ⟨g2, u, ?_, f1⟩
      rw [show f_nur n p a b r = some (s, row) from hz]
      have z : 2 < s := by
        have z1 : ¬ s ≤ 2 := fun q => hc0 ((q_le (i := s) (j := 2) (by omega) (by omega)).mpr q)
        omega
      rw [f_nuw_y (w := 12) (by omega) z]
      rfl
theorem r_nurse13 {n W H : Nat} {g r : qM} (u : qW) (h : w_ok n W H r) (hs : w_sm n (s_start g) r) (h5 : n ≤ 5) {p a b : Nat} (hp : p < n) (ha : a < n) (hb : b < n) (hpa : p ≠ a) (hpb : p ≠ b) (hab : a ≠ b) : w_BS w_fr 208 [.ref 70, .int (Int32.ofNat p), .int (Int32.ofNat a), .int (Int32.ofNat b), .int (13 : Int32)] g u (.int (f_nuw 13 (f_nur n p a b r))) := by
  refine w_bs (mm := m_208) rfl (Nat.le_of_ble_eq_true rfl) rfl ?_
  refine q_step 2 2 [(0, .ref 70), (1, .int (Int32.ofNat p)), (2, .int (Int32.ofNat a)), (3, .int (Int32.ofNat b)), (4, .int (13 : Int32))] [.int (Int32.ofNat a), .int (Int32.ofNat p)] g u (fun big n0 => sg_nu_127 big n0 g u (Int32.ofNat p) (Int32.ofNat a) (Int32.ofNat b)) ?_
  refine q_ic_eq rfl (fun hc0 => absurd (show (Int32.ofNat p) = (Int32.ofNat a) from hc0) (fun z => hpa ((q_eq (by omega) (by omega)).mp z))) (fun (hc0 : ¬ ((Int32.ofNat p) = (Int32.ofNat a))) => ?_)
  refine q_step 2 7 [(0, .ref 70), (1, .int (Int32.ofNat p)), (2, .int (Int32.ofNat a)), (3, .int (Int32.ofNat b)), (4, .int (13 : Int32))] [.int (Int32.ofNat b), .int (Int32.ofNat p)] g u (fun big n0 => sg_nu_128 big n0 g u (Int32.ofNat p) (Int32.ofNat a) (Int32.ofNat b)) ?_
  refine q_ic_eq rfl (fun hc1 => absurd (show (Int32.ofNat p) = (Int32.ofNat b) from hc1) (fun z => hpb ((q_eq (by omega) (by omega)).mp z))) (fun (hc1 : ¬ ((Int32.ofNat p) = (Int32.ofNat b))) => ?_)
  refine q_step 2 12 [(0, .ref 70), (1, .int (Int32.ofNat p)), (2, .int (Int32.ofNat a)), (3, .int (Int32.ofNat b)), (4, .int (13 : Int32))] [.int (Int32.ofNat b), .int (Int32.ofNat a)] g u (fun big n0 => sg_nu_129 big n0 g u (Int32.ofNat p) (Int32.ofNat a) (Int32.ofNat b)) ?_
  refine q_ic_eq rfl (fun hc2 => absurd (show (Int32.ofNat a) = (Int32.ofNat b) from hc2) (fun z => hab ((q_eq (by omega) (by omega)).mp z))) (fun (hc2 : ¬ ((Int32.ofNat a) = (Int32.ofNat b))) => ?_)
  refine q_step 5 24 [(0, .ref 70), (1, .int (Int32.ofNat p)), (2, .int (Int32.ofNat a)), (3, .int (Int32.ofNat b)), (4, .int (13 : Int32)), (5, .int (1 : Int32))] [.int (Int32.ofNat p), .ref 70] g u (fun big n0 => sg_nu_130 big n0 g u (Int32.ofNat p) (Int32.ofNat a) (Int32.ofNat b)) ?_
  refine q_call (M2 := 169) (rest := []) (b_risOne1 g u (w_pl h hs) (by omega) hp) (fun _ _ => rfl) ?_
  refine q_step 3 32 [(0, .ref 70), (1, .int (Int32.ofNat p)), (2, .int (Int32.ofNat a)), (3, .int (Int32.ofNat b)), (4, .int (13 : Int32)), (5, .int (1 : Int32))] [.int (Int32.ofNat a), .ref 70] g u (fun big n0 => sg_nu_131 big n0 g u (Int32.ofNat p) (Int32.ofNat a) (Int32.ofNat b)) ?_
  refine q_call (M2 := 169) (rest := []) (b_risOne1 g u (w_pl h hs) (by omega) ha) (fun _ _ => rfl) ?_
  refine q_step 3 40 [(0, .ref 70), (1, .int (Int32.ofNat p)), (2, .int (Int32.ofNat a)), (3, .int (Int32.ofNat b)), (4, .int (13 : Int32)), (5, .int (1 : Int32))] [.int (Int32.ofNat b), .ref 70] g u (fun big n0 => sg_nu_132 big n0 g u (Int32.ofNat p) (Int32.ofNat a) (Int32.ofNat b)) ?_
  refine q_call (M2 := 169) (rest := []) (b_risOne1 g u (w_pl h hs) (by omega) hb) (fun _ _ => rfl) ?_
  refine q_step 9 65 [(0, .ref 70), (1, .int (Int32.ofNat p)), (2, .int (Int32.ofNat a)), (3, .int (Int32.ofNat b)), (4, .int (13 : Int32)), (5, .int (1 : Int32))] [.long (13 : Int64), .long (10 : Int64), .long (13 : Int64)] g u (fun big n0 => sg_nu_133 big n0 g u (Int32.ofNat p) (Int32.ofNat a) (Int32.ofNat b)) ?_
  refine q_call (M2 := 149) (rest := []) (show q_BS 149 [.long (13 : Int64), .long (10 : Int64), .long (13 : Int64)] g u (some (.int 1), g, u) from b_in _ _ _ _ _) (fun _ _ => rfl) ?_
  refine q_step 3 76 [(0, .ref 70), (1, .int (Int32.ofNat p)), (2, .int (Int32.ofNat a)), (3, .int (Int32.ofNat b)), (4, .int (13 : Int32)), (5, .int (1 : Int32)), (6, .int (0 : Int32))] [] g u (fun big n0 => sg_nu_134 big n0 g u (Int32.ofNat p) (Int32.ofNat a) (Int32.ofNat b)) ?_
  refine rn3 u h h5 hp ha hb (wh := 13) 5 0 g (by omega) hs (fun hz g2 f1 => ?_) (fun s row g2 hz f1 => ?_)
  · refine q_ret 2 (some (.int (Int8.toInt32 (Int8.ofInt (-4)))), g2, u) (fun _ _ => rfl) ?_
    exact ⟨g2, u, by rw [show f_nur n p a b r = none from hz]; rfl, f1⟩
  · have hl := f_nof_lt 5 0 s row hz
    refine q_step 6 167 [(0, .ref 70), (1, .int (Int32.ofNat p)), (2, .int (Int32.ofNat a)), (3, .int (Int32.ofNat b)), (4, .int (13 : Int32)), (5, .int (1 : Int32)), (6, .int (Int32.ofNat s)), (7, .int (Int32.ofNat row))] [.int (Int32.ofNat s), .int (3 : Int32)] g2 u (fun big n0 => sg_nu_135 big n0 g2 u (Int32.ofNat p) (Int32.ofNat a) (Int32.ofNat b) (Int32.ofNat s) (Int32.ofNat row)) ?_
    refine q_ic_ge rfl (fun (hc0 : (Int32.ofNat s) ≤ (3 : Int32)) => ?_) (fun (hc0 : ¬ ((Int32.ofNat s) ≤ (3 : Int32))) => ?_)
    · refine q_ret 2 (some (.int (Int8.toInt32 (Int8.ofInt (-4)))), g2, u) (fun _ _ => rfl) ?_
      refine ⟨g2, u, ?_, f1⟩
      rw [show f_nur n p a b r = some (s, row) from hz]
      have z := (q_le (i := s) (j := 3) (by omega) (by omega)).mp hc0
      rw [f_nuw_n (w := 13) (by omega) (by omega)]
    · refine q_ret 15 (some (.int (((Int32.ofNat row) >>> (((2 : Int32) * (((Int32.ofNat s) - (1 : Int32)) - (3 : Int32))) &&& 31)) &&& (3 : Int32))), g2, u) (fun _ _ => rfl) ?_
      refine ⟨g2, u, ?_, f1⟩
      rw [show f_nur n p a b r = some (s, row) from hz]
      have z : 3 < s := by
        have z1 : ¬ s ≤ 3 := fun q => hc0 ((q_le (i := s) (j := 3) (by omega) (by omega)).mpr q)
        omega
      rw [f_nuw_y (w := 13) (by omega) z]
      rfl
end
section
/-! HANG. -/
/-- one more, still, in the CELL c, of the MOOD m -/
def gh_ha (n c m : Nat) (r : qM) : qM := q_up (q_up (q_up (q_up (q_up r 75 n (Int32.ofNat c)) 76 n (Int32.ofNat m)) 77 n 1) 78 n i_none) 70 27 (Int32.ofNat (n + 1))
theorem w_who_none {n W H c : Nat} {r : qM} (h : w_ok n W H r) (hn : f_who n r (Int32.ofNat c) = i_none) : ∀ q, q < n → r 75 q ≠ Int32.ofNat c := fun q hq => by
  have h6 := h.1.2.2.2.2
  rcases s_w1_some (c := r 75) (x := Int32.ofNat c) n 0 (by omega) with ⟨h1, h2⟩ | ⟨q', h1, h2, h3, h4⟩
  · exact h2 q (Nat.zero_le _) (by omega)
  · unfold f_who at hn
    rw [h4] at hn
    exact absurd hn (s_none_ne (by omega))
theorem w_ok_ha {n W H c m : Nat} {r : qM} (h : w_ok n W H r) (h5 : n ≤ 5) (hc : c < W * H) (hw : s_bit (r 71 20) (Int32.ofNat c) = 0) (hn : f_who n r (Int32.ofNat c) = i_none) (hm : 1 ≤ m ∧ m ≤ 3) : w_ok (n + 1) W H (gh_ha n c m r) := by
  have hno := w_who_none h hn
  obtain ⟨⟨b1, b2, b3, b4, b5⟩, h1, h2, h3, h4, h5', h6, h7, h8⟩ := h
  have e75 : ∀ p, gh_ha n c m r 75 p = if p = n then Int32.ofNat c else r 75 p := fun p => by
    unfold gh_ha
    rw [q_up_ne (by omega), q_up_ne (by omega), q_up_ne (by omega), q_up_ne (by omega), q_up_at]
  have e76 : ∀ p, gh_ha n c m r 76 p = if p = n then Int32.ofNat m else r 76 p := fun p => by
    unfold gh_ha
    rw [q_up_ne (by omega), q_up_ne (by omega), q_up_ne (by omega), q_up_at, q_up_ne (by omega)]
  have e77 : ∀ p, gh_ha n c m r 77 p = if p = n then 1 else r 77 p := fun p => by
    unfold gh_ha
    rw [q_up_ne (by omega), q_up_ne (by omega), q_up_at, q_up_ne (by omega), q_up_ne (by omega)]
  refine ⟨⟨b1, b2, b3, b4, by omega⟩, rfl, h2, h3, fun p hp => ?_, fun p q hp hq hpq => ?_, fun p hp => ?_, fun p hp => ?_, fun p hp => ?_⟩
  · rw [e75]
    split
    · exact ⟨c, hc, rfl⟩
    · exact h4 p (by omega)
  · rw [e75, e75]
    by_cases z : p = n
    · rw [if_pos z, if_neg (by omega)]
      exact (hno q (by omega)).symm
    · rw [if_neg z]
      by_cases z' : q = n
      · rw [if_pos z']
        exact hno p (by omega)
      · rw [if_neg z']
        exact h5' p q (by omega) (by omega) hpq
  · rw [e75]
    show s_bit (r 71 20) _ = 0
    split
    · exact hw
    · exact h6 p (by omega)
  · rw [e76]
    split
    · rcases (show m = 1 ∨ m = 2 ∨ m = 3 by omega) with e | e | e <;> subst e
      · exact Or.inr (Or.inl rfl)
      · exact Or.inr (Or.inr (Or.inl rfl))
      · exact Or.inr (Or.inr (Or.inr rfl))
    · exact h7 p (by omega)
  · rw [e77]
    split
    · exact Or.inr rfl
    · exact h8 p (by omega)
/-- the class's trial with one more -/
def s_mor (n : Nat) (x y z : Int32) (g : qM) : qM := q_up (q_up (q_up (q_up g 36 n x) 37 n y) 38 n z) 35 3 (g 35 3 + 1)
theorem s_mor_fc {n : Nat} {x y z : Int32} {g : qM} : w_fc g (s_mor n x y z g) := by
  unfold s_mor
  exact ((((w_fc_rfl g).up (by omega)).up (by omega)).up (by omega)).up (by omega)
theorem w_cs_ha {n c m : Nat} {g r : qM} (hn : g 35 3 = Int32.ofNat n) (hc : w_cs 35 n g r) : w_cs 35 (n + 1) (s_mor n (Int32.ofNat c) (Int32.ofNat m) 1 (q_up g 39 n i_none)) (gh_ha n c m r) := by
  obtain ⟨⟨c1, c2, c3, c4, c5⟩, c6, c7⟩ := hc
  refine ⟨⟨?_, c2, c3, c4, c5⟩, fun d a b => c6 d a b, fun p hp => ⟨?_, ?_, ?_⟩⟩
  · show g 35 3 + 1 = Int32.ofNat (n + 1)
    rw [hn, q_succ]
  · unfold s_mor gh_ha
    rw [show 35 + 1 = 36 from rfl, q_up_ne (by omega), q_up_ne (by omega), q_up_ne (by omega), q_up_at, q_up_ne (by omega), q_up_ne (by omega), q_up_ne (by omega), q_up_ne (by omega), q_up_ne (by omega), q_up_at]
    by_cases e : p = n
    · rw [if_pos e, if_pos e]
    · rw [if_neg e, if_neg e]
      exact (c7 p (by omega)).1
  · unfold s_mor gh_ha
    rw [show 35 + 2 = 37 from rfl, q_up_ne (by omega), q_up_ne (by omega), q_up_at, q_up_ne (by omega), q_up_ne (by omega), q_up_ne (by omega), q_up_ne (by omega), q_up_ne (by omega), q_up_at, q_up_ne (by omega)]
    by_cases e : p = n
    · rw [if_pos e, if_pos e]
    · rw [if_neg e, if_neg e]
      exact (c7 p (by omega)).2.1
  · unfold s_mor gh_ha
    rw [show 35 + 3 = 38 from rfl, q_up_ne (by omega), q_up_at, q_up_ne (by omega), q_up_ne (by omega), q_up_ne (by omega), q_up_ne (by omega), q_up_ne (by omega), q_up_at, q_up_ne (by omega), q_up_ne (by omega)]
    by_cases e : p = n
    · rw [if_pos e, if_pos e]
    · rw [if_neg e, if_neg e]
      exact (c7 p (by omega)).2.2
theorem w_sm_ha {n c m : Nat} {g r : qM} (h4 : g 70 4 = Int32.ofNat n) (hs : w_sm n g r) : w_sm (n + 1) (q_up (q_up (q_up (q_up (q_up g 75 n (Int32.ofNat c)) 76 n (Int32.ofNat m)) 77 n 1) 78 n i_none) 70 27 (g 70 4 + 1)) (gh_ha n c m r) := by
  obtain ⟨⟨c1, c2, c3, c4, c5⟩, c6, c7⟩ := hs
  refine ⟨⟨?_, c2, c3, c4, c5⟩, fun d a b => c6 d a b, fun p hp => ⟨?_, ?_, ?_⟩⟩
  · show g 70 4 + 1 = Int32.ofNat (n + 1)
    rw [h4, q_succ]
  · unfold gh_ha
    rw [q_up_ne (by omega), q_up_ne (by omega), q_up_ne (by omega), q_up_ne (by omega), q_up_at, q_up_ne (by omega), q_up_ne (by omega), q_up_ne (by omega), q_up_ne (by omega), q_up_at]
    by_cases e : p = n
    · rw [if_pos e, if_pos e]
    · rw [if_neg e, if_neg e]
      exact (c7 p (by omega)).1
  · unfold gh_ha
    rw [q_up_ne (by omega), q_up_ne (by omega), q_up_ne (by omega), q_up_at, q_up_ne (by omega), q_up_ne (by omega), q_up_ne (by omega), q_up_ne (by omega), q_up_at, q_up_ne (by omega)]
    by_cases e : p = n
    · rw [if_pos e, if_pos e]
    · rw [if_neg e, if_neg e]
      exact (c7 p (by omega)).2.1
  · unfold gh_ha
    rw [q_up_ne (by omega), q_up_ne (by omega), q_up_at, q_up_ne (by omega), q_up_ne (by omega), q_up_ne (by omega), q_up_ne (by omega), q_up_at, q_up_ne (by omega), q_up_ne (by omega)]
    by_cases e : p = n
    · rw [if_pos e, if_pos e]
    · rw [if_neg e, if_neg e]
      exact (c7 p (by omega)).2.2
theorem gh_ha_78 {n c m p : Nat} {r : qM} : gh_ha n c m r 78 p = if p = n then i_none else r 78 p := by
  unfold gh_ha
  rw [q_up_ne (by omega), q_up_at, q_up_ne (by omega), q_up_ne (by omega), q_up_ne (by omega)]
theorem p_at_01 (r : qM) (p : Nat) : p_at r p = 0 ∨ p_at r p = 1 := by
  unfold p_at
  split
  · exact Or.inl rfl
  · exact s_01 _
/-- how many are where they should be, as a number -/
def n_at (n : Nat) (r : qM) : Nat := n_ct (p_at r) n 0 0
theorem f_at_n (n : Nat) (r : qM) : f_at n r = Int32.ofNat (n_at n r) := s_ct_n (p_at_01 r) n 0 0
theorem n_at_le (n : Nat) (r : qM) : n_at n r ≤ n := by
  have e := n_ct_le (P := p_at r) n 0 0
  rw [Nat.zero_add] at e
  exact e
/-- a CELL is free -/
def p_fr (n : Nat) (r : qM) (c : Nat) : Nat := if s_bit (r 71 20) (Int32.ofNat c) = 0 then (if f_who n r (Int32.ofNat c) = i_none then 1 else 0) else 0
def n_hg (n t m : Nat) (r : qM) (c : Nat) : Nat := n_at (n + 1) (s_rit (n + 1) t (gh_ha n c m r))
def f_h1 (F A : Nat → Nat) (c : Nat) (b : Option (Nat × Nat)) : Option (Nat × Nat) := if F c = 0 then b else match b with
  | none => some (c, A c)
  | some (x, t) => if t < A c then some (c, A c) else some (x, t)
def f_hb (F A : Nat → Nat) : Nat → Nat → Option (Nat × Nat) → Option (Nat × Nat)
  | 0, _, b => b
  | k + 1, c, b => f_hb F A k (c + 1) (f_h1 F A c b)
def f_hang (n W H t m : Nat) (r : qM) : Option (Nat × Nat) := f_hb (p_fr n r) (n_hg n t m r) (W * H) 0 none
def n_hok (N : Nat) (b : Option (Nat × Nat)) : Prop := ∀ x t, b = some (x, t) → x < N ∧ t ≤ 6
theorem n_hok_1 {F A : Nat → Nat} {N c : Nat} {b : Option (Nat × Nat)} (hA : A c ≤ 6) (hc : c < N) (hb : n_hok N b) : n_hok N (f_h1 F A c b) := by
  unfold f_h1
  split
  · exact hb
  · match b, hb with
    | none, _ => intro x t e; cases e; exact ⟨hc, hA⟩
    | some (y, s), hb =>
      intro x t e
      have e : (if s < A c then some (c, A c) else some (y, s)) = some (x, t) := e
      split at e
      · cases e; exact ⟨hc, hA⟩
      · exact hb x t e
def e_hm : Option (Nat × Nat) → Int32
  | none => Int32.ofInt (-1)
  | some (_, t) => Int32.ofNat t
def e_hf : Option (Nat × Nat) → Int32
  | none => i_none
  | some (c, _) => Int32.ofNat c
theorem f_h1_no {F A : Nat → Nat} {c : Nat} {b : Option (Nat × Nat)} (h : F c = 0) : f_h1 F A c b = b := if_pos h
theorem f_h1_new {F A : Nat → Nat} {c : Nat} {b : Option (Nat × Nat)} (h : F c ≠ 0) (hb : ∀ x t, b = some (x, t) → t < A c) : f_h1 F A c b = some (c, A c) := by
  unfold f_h1
  rw [if_neg h]
  match b, hb with
  | none, _ => rfl
  | some (x, t), hb => exact if_pos (hb x t rfl)
theorem f_h1_old {F A : Nat → Nat} {c x t : Nat} {b : Option (Nat × Nat)} (h : F c ≠ 0) (e : b = some (x, t)) (ht : ¬ t < A c) : f_h1 F A c b = b := by
  unfold f_h1
  rw [if_neg h]
  subst e
  exact if_neg ht
theorem e_hm_lt {N a : Nat} {b : Option (Nat × Nat)} (ha : a ≤ 6) (hb : n_hok N b) : (¬ Int32.ofNat a ≤ e_hm b ↔ ∀ x t, b = some (x, t) → t < a) := by
  match b, hb with
  | none, _ =>
    refine ⟨fun _ x t e => (by cases e), fun _ z => ?_⟩
    have z : Int32.ofNat a ≤ Int32.ofInt (-1) := z
    rw [Int32.le_iff_toInt_le, q_nat (by omega)] at z
    have e : (Int32.ofInt (-1)).toInt = -1 := rfl
    omega
  | some (x, t), hb =>
    have h1 := hb x t rfl
    show ¬ Int32.ofNat a ≤ Int32.ofNat t ↔ _
    rw [q_le (by omega) (by omega)]
    exact ⟨fun z x' t' e => by cases e; omega, fun z => by have := z x t rfl; omega⟩
theorem p_fr_iff {n c : Nat} {r : qM} : p_fr n r c ≠ 0 ↔ s_bit (r 71 20) (Int32.ofNat c) = 0 ∧ f_who n r (Int32.ofNat c) = i_none := by
  unfold p_fr
  by_cases h1 : s_bit (r 71 20) (Int32.ofNat c) = 0
  · rw [if_pos h1]
    by_cases h2 : f_who n r (Int32.ofNat c) = i_none
    · rw [if_pos h2]
      exact ⟨fun _ => ⟨h1, h2⟩, fun _ => by decide⟩
    · rw [if_neg h2]
      exact ⟨fun z => absurd rfl z, fun z => absurd z.2 h2⟩
  · rw [if_neg h1]
    exact ⟨fun z => absurd rfl z, fun z => absurd z.1 h1⟩
theorem sg_ha_1 (big : Nat → List Value → qM → qW → qR) (n0 : Nat) (G : qM) (U : qW) (v0 : Int32) (v1 : Int32) (v2 : Int32) : qm_run pm_m big m_32 (n0 + 5) 0 [(0, .ref 35), (1, .int v0), (2, .int v1), (3, .int v2)] [] G U = qm_run pm_m big m_32 n0 9 [(0, .ref 35), (1, .int v0), (2, .int v1), (3, .int v2)] [.int (6 : Int32), .int (G 35 3)] G U := rfl
theorem sg_ha_2 (big : Nat → List Value → qM → qW → qR) (n0 : Nat) (G : qM) (U : qW) (v0 : Int32) (v1 : Int32) (v2 : Int32) : qm_run pm_m big m_32 (n0 + 5) 12 [(0, .ref 35), (1, .int v0), (2, .int v1), (3, .int v2)] [] G U = qm_run pm_m big m_32 n0 21 [(0, .ref 35), (1, .int v0), (2, .int v1), (3, .int v2)] [.int v0, .int (G 35 3), .ref 36] G U := rfl
theorem sg_ha_3 (big : Nat → List Value → qM → qW → qR) (n0 : Nat) (G : qM) (U : qW) (v0 : Int32) (v1 : Int32) (v2 : Int32) : qm_run pm_m big m_32 (n0 + 5) 22 [(0, .ref 35), (1, .int v0), (2, .int v1), (3, .int v2)] [] G U = qm_run pm_m big m_32 n0 31 [(0, .ref 35), (1, .int v0), (2, .int v1), (3, .int v2)] [.int v1, .int (G 35 3), .ref 37] G U := rfl
theorem sg_ha_4 (big : Nat → List Value → qM → qW → qR) (n0 : Nat) (G : qM) (U : qW) (v0 : Int32) (v1 : Int32) (v2 : Int32) : qm_run pm_m big m_32 (n0 + 5) 32 [(0, .ref 35), (1, .int v0), (2, .int v1), (3, .int v2)] [] G U = qm_run pm_m big m_32 n0 41 [(0, .ref 35), (1, .int v0), (2, .int v1), (3, .int v2)] [.int v2, .int (G 35 3), .ref 38] G U := rfl
theorem sg_ha_5 (big : Nat → List Value → qM → qW → qR) (n0 : Nat) (G : qM) (U : qW) (v0 : Int32) (v1 : Int32) (v2 : Int32) (v3 : Int32) : qm_run pm_m big m_111 (n0 + 2) 7 [(0, .ref 34), (1, .ref 20), (2, .int v0), (3, .int v1), (4, .int v2), (5, .int v3)] [] G U = qm_run pm_m big m_111 n0 10 [(0, .ref 34), (1, .ref 20), (2, .int v0), (3, .int v1), (4, .int v2), (5, .int v3)] [.ref 20, .int v3] G U := rfl
theorem sg_ha_6 (big : Nat → List Value → qM → qW → qR) (n0 : Nat) (G : qM) (U : qW) (v0 : Int32) (v1 : Int32) (v2 : Int32) (v3 : Int32) : qm_run pm_m big m_111 (n0 + 2) 16 [(0, .ref 34), (1, .ref 20), (2, .int v0), (3, .int v1), (4, .int v2), (5, .int v3)] [] G U = qm_run pm_m big m_111 n0 19 [(0, .ref 34), (1, .ref 20), (2, .int v0), (3, .int v1), (4, .int v2), (5, .int v3)] [.int v3, .ref 20] G U := rfl
theorem sg_ha_7 (big : Nat → List Value → qM → qW → qR) (n0 : Nat) (G : qM) (U : qW) (v0 : Int32) (v1 : Int32) (v2 : Int32) (v3 : Int32) : qm_run pm_m big m_111 (n0 + 3) 22 [(0, .ref 34), (1, .ref 20), (2, .int v0), (3, .int v1), (4, .int v2), (5, .int v3)] [.int (0 : Int32)] G U = qm_run pm_m big m_111 n0 7 [(0, .ref 34), (1, .ref 20), (2, .int v0), (3, .int v1), (4, .int v2), (5, .int (v3 + (1 : Int32)))] [] G U := rfl
theorem sg_ha_8 (big : Nat → List Value → qM → qW → qR) (n0 : Nat) (G : qM) (U : qW) (v0 : Int32) (v1 : Int32) (v2 : Int32) (v3 : Int32) : qm_run pm_m big m_111 (n0 + 4) 22 [(0, .ref 34), (1, .ref 20), (2, .int v0), (3, .int v1), (4, .int v2), (5, .int v3)] [.int (1 : Int32)] G U = qm_run pm_m big m_111 n0 30 [(0, .ref 34), (1, .ref 20), (2, .int v0), (3, .int v1), (4, .int v2), (5, .int v3)] [.ref 20, .ref 35] G U := rfl
theorem sg_ha_9 (big : Nat → List Value → qM → qW → qR) (n0 : Nat) (G : qM) (U : qW) (v0 : Int32) (v1 : Int32) (v2 : Int32) (v3 : Int32) : qm_run pm_m big m_111 (n0 + 6) 33 [(0, .ref 34), (1, .ref 20), (2, .int v0), (3, .int v1), (4, .int v2), (5, .int v3)] [] G U = qm_run pm_m big m_111 n0 46 [(0, .ref 34), (1, .ref 20), (2, .int v0), (3, .int v1), (4, .int v2), (5, .int v3)] [.int (Int8.toInt32 (Int8.ofInt (-4))), .int (G 20 3), .ref 39] G U := rfl
theorem sg_ha_10 (big : Nat → List Value → qM → qW → qR) (n0 : Nat) (G : qM) (U : qW) (v0 : Int32) (v1 : Int32) (v2 : Int32) (v3 : Int32) : qm_run pm_m big m_111 (n0 + 5) 47 [(0, .ref 34), (1, .ref 20), (2, .int v0), (3, .int v1), (4, .int v2), (5, .int v3)] [] G U = qm_run pm_m big m_111 n0 55 [(0, .ref 34), (1, .ref 20), (2, .int v0), (3, .int v1), (4, .int v2), (5, .int v3)] [.int (1 : Int32), .int v0, .int v3, .ref 35] G U := rfl
theorem sg_ha_11 (big : Nat → List Value → qM → qW → qR) (n0 : Nat) (G : qM) (U : qW) (v0 : Int32) (v1 : Int32) (v2 : Int32) (v3 : Int32) : qm_run pm_m big m_111 (n0 + 5) 58 [(0, .ref 34), (1, .ref 20), (2, .int v0), (3, .int v1), (4, .int v2), (5, .int v3)] [] G U = qm_run pm_m big m_111 n0 67 [(0, .ref 34), (1, .ref 20), (2, .int v0), (3, .int v1), (4, .int v2), (5, .int v3)] [.int v1, .ref 35, .ref 28] G U := rfl
theorem sg_ha_12 (big : Nat → List Value → qM → qW → qR) (n0 : Nat) (G : qM) (U : qW) (v0 : Int32) (v1 : Int32) (v2 : Int32) (v3 : Int32) : qm_run pm_m big m_111 (n0 + 2) 70 [(0, .ref 34), (1, .ref 20), (2, .int v0), (3, .int v1), (4, .int v2), (5, .int v3)] [] G U = qm_run pm_m big m_111 n0 74 [(0, .ref 34), (1, .ref 20), (2, .int v0), (3, .int v1), (4, .int v2), (5, .int v3)] [.ref 35] G U := rfl
theorem sg_ha_13 (big : Nat → List Value → qM → qW → qR) (n0 : Nat) (G : qM) (U : qW) (v0 : Int32) (v1 : Int32) (v2 : Int32) (v3 : Int32) (v4 : Int32) : qm_run pm_m big m_111 (n0 + 3) 77 [(0, .ref 34), (1, .ref 20), (2, .int v0), (3, .int v1), (4, .int v2), (5, .int v3)] [.int v4] G U = qm_run pm_m big m_111 n0 83 [(0, .ref 34), (1, .ref 20), (2, .int v0), (3, .int v1), (4, .int v2), (5, .int v3), (6, .int v4)] [.int (Int8.toInt32 (Int8.ofInt (-4))), .int v2] G U := rfl
theorem sg_ha_14 (big : Nat → List Value → qM → qW → qR) (n0 : Nat) (G : qM) (U : qW) (v0 : Int32) (v1 : Int32) (v2 : Int32) (v3 : Int32) (v4 : Int32) : qm_run pm_m big m_111 (n0 + 8) 96 [(0, .ref 34), (1, .ref 20), (2, .int v0), (3, .int v1), (4, .int v2), (5, .int v3), (6, .int v4)] [] G U = qm_run pm_m big m_111 n0 7 [(0, .ref 34), (1, .ref 20), (2, .int v0), (3, .int v1), (4, .int ((v3 * (1024 : Int32)) + v4)), (5, .int (v3 + (1 : Int32))), (6, .int v4)] [] G U := rfl
theorem sg_ha_15 (big : Nat → List Value → qM → qW → qR) (n0 : Nat) (G : qM) (U : qW) (v0 : Int32) (v1 : Int32) (v2 : Int32) (v3 : Int32) (v4 : Int32) : qm_run pm_m big m_111 (n0 + 2) 86 [(0, .ref 34), (1, .ref 20), (2, .int v0), (3, .int v1), (4, .int v2), (5, .int v3), (6, .int v4)] [] G U = qm_run pm_m big m_111 n0 90 [(0, .ref 34), (1, .ref 20), (2, .int v0), (3, .int v1), (4, .int v2), (5, .int v3), (6, .int v4)] [.int v2, .int v4] G U := rfl
theorem sg_ha_16 (big : Nat → List Value → qM → qW → qR) (n0 : Nat) (G : qM) (U : qW) (v0 : Int32) (v1 : Int32) (v2 : Int32) (v3 : Int32) (v4 : Int32) : qm_run pm_m big m_111 (n0 + 2) 107 [(0, .ref 34), (1, .ref 20), (2, .int v0), (3, .int v1), (4, .int v2), (5, .int v3), (6, .int v4)] [] G U = qm_run pm_m big m_111 n0 7 [(0, .ref 34), (1, .ref 20), (2, .int v0), (3, .int v1), (4, .int v2), (5, .int (v3 + (1 : Int32))), (6, .int v4)] [] G U := rfl
theorem sg_ha_17 (big : Nat → List Value → qM → qW → qR) (n0 : Nat) (G : qM) (U : qW) (v0 : Int32) (v1 : Int32) : qm_run pm_m big m_111 (n0 + 4) 0 [(0, .ref 34), (1, .ref 20), (2, .int v0), (3, .int v1)] [] G U = qm_run pm_m big m_111 n0 7 [(0, .ref 34), (1, .ref 20), (2, .int v0), (3, .int v1), (4, .int (Int8.toInt32 (Int8.ofInt (-4)))), (5, .int (0 : Int32))] [] G U := rfl
theorem sg_ha_18 (big : Nat → List Value → qM → qW → qR) (n0 : Nat) (G : qM) (U : qW) (v0 : Int32) (v1 : Int32) : qm_run pm_m big m_110 (n0 + 2) 0 [(0, .ref 8), (1, .int v0), (2, .int v1), (3, .int (0 : Int32))] [] G U = qm_run pm_m big m_110 n0 2 [(0, .ref 8), (1, .int v0), (2, .int v1), (3, .int (0 : Int32))] [.int (1 : Int32), .int v0] G U := rfl
theorem sg_ha_19 (big : Nat → List Value → qM → qW → qR) (n0 : Nat) (G : qM) (U : qW) (v0 : Int32) (v1 : Int32) : qm_run pm_m big m_110 (n0 + 2) 5 [(0, .ref 8), (1, .int v0), (2, .int v1), (3, .int (0 : Int32))] [] G U = qm_run pm_m big m_110 n0 7 [(0, .ref 8), (1, .int v0), (2, .int v1), (3, .int (0 : Int32))] [.int (3 : Int32), .int v0] G U := rfl
theorem sg_ha_20 (big : Nat → List Value → qM → qW → qR) (n0 : Nat) (G : qM) (U : qW) (v0 : Int32) (v1 : Int32) : qm_run pm_m big m_110 (n0 + 1) 10 [(0, .ref 8), (1, .int v0), (2, .int v1), (3, .int (0 : Int32))] [] G U = qm_run pm_m big m_110 n0 11 [(0, .ref 8), (1, .int v0), (2, .int v1), (3, .int (0 : Int32))] [.int v1] G U := rfl
theorem sg_ha_21 (big : Nat → List Value → qM → qW → qR) (n0 : Nat) (G : qM) (U : qW) (v0 : Int32) (v1 : Int32) : qm_run pm_m big m_110 (n0 + 2) 14 [(0, .ref 8), (1, .int v0), (2, .int v1), (3, .int (0 : Int32))] [.int (1 : Int32)] G U = qm_run pm_m big m_110 n0 18 [(0, .ref 8), (1, .int v0), (2, .int v1), (3, .int (0 : Int32))] [.int (0 : Int32)] G U := rfl
theorem sg_ha_22 (big : Nat → List Value → qM → qW → qR) (n0 : Nat) (G : qM) (U : qW) (v0 : Int32) (v1 : Int32) : qm_run pm_m big m_110 (n0 + 7) 21 [(0, .ref 8), (1, .int v0), (2, .int v1), (3, .int (0 : Int32))] [.int (1 : Int32)] G U = qm_run pm_m big m_110 n0 36 [(0, .ref 8), (1, .int v0), (2, .int v1), (3, .int (0 : Int32))] [.int v1, .int v0, .ref 20, .ref 34] G U := rfl
theorem sg_ha_23 (big : Nat → List Value → qM → qW → qR) (n0 : Nat) (G : qM) (U : qW) (v0 : Int32) (v1 : Int32) (v2 : Int32) : qm_run pm_m big m_110 (n0 + 3) 39 [(0, .ref 8), (1, .int v0), (2, .int v1), (3, .int (0 : Int32))] [.int v2] G U = qm_run pm_m big m_110 n0 45 [(0, .ref 8), (1, .int v0), (2, .int v1), (3, .int (0 : Int32)), (4, .int v2)] [.int (Int8.toInt32 (Int8.ofInt (-4))), .int v2] G U := rfl
theorem sg_ha_24 (big : Nat → List Value → qM → qW → qR) (n0 : Nat) (G : qM) (U : qW) (v0 : Int32) (v1 : Int32) (v2 : Int32) : qm_run pm_m big m_110 (n0 + 3) 51 [(0, .ref 8), (1, .int v0), (2, .int v1), (3, .int (0 : Int32)), (4, .int v2)] [] G U = qm_run pm_m big m_110 n0 57 [(0, .ref 8), (1, .int v0), (2, .int v1), (3, .int (0 : Int32)), (4, .int v2)] [.int v2] G U := rfl
theorem sg_ha_25 (big : Nat → List Value → qM → qW → qR) (n0 : Nat) (G : qM) (U : qW) (v0 : Int32) (v1 : Int32) : qm_run pm_m big m_110 (n0 + 2) 0 [(0, .ref 8), (1, .int v0), (2, .int v1), (3, .int (1 : Int32))] [] G U = qm_run pm_m big m_110 n0 2 [(0, .ref 8), (1, .int v0), (2, .int v1), (3, .int (1 : Int32))] [.int (1 : Int32), .int v0] G U := rfl
theorem sg_ha_26 (big : Nat → List Value → qM → qW → qR) (n0 : Nat) (G : qM) (U : qW) (v0 : Int32) (v1 : Int32) : qm_run pm_m big m_110 (n0 + 2) 5 [(0, .ref 8), (1, .int v0), (2, .int v1), (3, .int (1 : Int32))] [] G U = qm_run pm_m big m_110 n0 7 [(0, .ref 8), (1, .int v0), (2, .int v1), (3, .int (1 : Int32))] [.int (3 : Int32), .int v0] G U := rfl
theorem sg_ha_27 (big : Nat → List Value → qM → qW → qR) (n0 : Nat) (G : qM) (U : qW) (v0 : Int32) (v1 : Int32) : qm_run pm_m big m_110 (n0 + 1) 10 [(0, .ref 8), (1, .int v0), (2, .int v1), (3, .int (1 : Int32))] [] G U = qm_run pm_m big m_110 n0 11 [(0, .ref 8), (1, .int v0), (2, .int v1), (3, .int (1 : Int32))] [.int v1] G U := rfl
theorem sg_ha_28 (big : Nat → List Value → qM → qW → qR) (n0 : Nat) (G : qM) (U : qW) (v0 : Int32) (v1 : Int32) : qm_run pm_m big m_110 (n0 + 2) 14 [(0, .ref 8), (1, .int v0), (2, .int v1), (3, .int (1 : Int32))] [.int (1 : Int32)] G U = qm_run pm_m big m_110 n0 18 [(0, .ref 8), (1, .int v0), (2, .int v1), (3, .int (1 : Int32))] [.int (1 : Int32)] G U := rfl
theorem sg_ha_29 (big : Nat → List Value → qM → qW → qR) (n0 : Nat) (G : qM) (U : qW) (v0 : Int32) (v1 : Int32) : qm_run pm_m big m_110 (n0 + 7) 21 [(0, .ref 8), (1, .int v0), (2, .int v1), (3, .int (1 : Int32))] [.int (1 : Int32)] G U = qm_run pm_m big m_110 n0 36 [(0, .ref 8), (1, .int v0), (2, .int v1), (3, .int (1 : Int32))] [.int v1, .int v0, .ref 20, .ref 34] G U := rfl
theorem sg_ha_30 (big : Nat → List Value → qM → qW → qR) (n0 : Nat) (G : qM) (U : qW) (v0 : Int32) (v1 : Int32) (v2 : Int32) : qm_run pm_m big m_110 (n0 + 3) 39 [(0, .ref 8), (1, .int v0), (2, .int v1), (3, .int (1 : Int32))] [.int v2] G U = qm_run pm_m big m_110 n0 45 [(0, .ref 8), (1, .int v0), (2, .int v1), (3, .int (1 : Int32)), (4, .int v2)] [.int (Int8.toInt32 (Int8.ofInt (-4))), .int v2] G U := rfl
theorem sg_ha_31 (big : Nat → List Value → qM → qW → qR) (n0 : Nat) (G : qM) (U : qW) (v0 : Int32) (v1 : Int32) (v2 : Int32) : qm_run pm_m big m_110 (n0 + 3) 51 [(0, .ref 8), (1, .int v0), (2, .int v1), (3, .int (1 : Int32)), (4, .int v2)] [] G U = qm_run pm_m big m_110 n0 65 [(0, .ref 8), (1, .int v0), (2, .int v1), (3, .int (1 : Int32)), (4, .int v2)] [.int v2] G U := rfl
theorem sg_ha_32 (big : Nat → List Value → qM → qW → qR) (n0 : Nat) (G : qM) (U : qW) (v0 : Int32) (v1 : Int32) (v2 : Int32) (v3 : Int32) (v4 : Int32) (v5 : Int32) : qm_run pm_m big m_209 (n0 + 2) 139 [(0, .ref 70), (1, .int v0), (2, .int v1), (3, .int (0 : Int32)), (4, .int v2), (5, .int v3), (6, .int v4), (7, .int v5)] [] G U = qm_run pm_m big m_209 n0 142 [(0, .ref 70), (1, .int v0), (2, .int v1), (3, .int (0 : Int32)), (4, .int v2), (5, .int v3), (6, .int v4), (7, .int v5)] [.int v1, .int v5] G U := rfl
theorem sg_ha_33 (big : Nat → List Value → qM → qW → qR) (n0 : Nat) (G : qM) (U : qW) (v0 : Int32) (v1 : Int32) (v2 : Int32) (v3 : Int32) (v4 : Int32) (v5 : Int32) : qm_run pm_m big m_209 (n0 + 1) 145 [(0, .ref 70), (1, .int v0), (2, .int v1), (3, .int (0 : Int32)), (4, .int v2), (5, .int v3), (6, .int v4), (7, .int v5)] [] G U = qm_run pm_m big m_209 n0 146 [(0, .ref 70), (1, .int v0), (2, .int v1), (3, .int (0 : Int32)), (4, .int v2), (5, .int v3), (6, .int v4), (7, .int v5)] [.ref 70] G U := rfl
theorem sg_ha_34 (big : Nat → List Value → qM → qW → qR) (n0 : Nat) (G : qM) (U : qW) (v0 : Int32) (v1 : Int32) (v2 : Int32) (v3 : Int32) (v4 : Int32) (v5 : Int32) (v6 : Int32) : qm_run pm_m big m_209 (n0 + 3) 149 [(0, .ref 70), (1, .int v0), (2, .int v1), (3, .int (0 : Int32)), (4, .int v2), (5, .int v3), (6, .int v4), (7, .int v5)] [.int v6] G U = qm_run pm_m big m_209 n0 139 [(0, .ref 70), (1, .int v0), (2, .int v1), (3, .int (0 : Int32)), (4, .int v2), (5, .int v3), (6, .int v4), (7, .int (v5 + (1 : Int32)))] [] G U := rfl
theorem sg_ha_35 (big : Nat → List Value → qM → qW → qR) (n0 : Nat) (G : qM) (U : qW) (v0 : Int32) (v1 : Int32) (v2 : Int32) (v3 : Int32) (v4 : Int32) : qm_run pm_m big m_209 (n0 + 6) 46 [(0, .ref 70), (1, .int v0), (2, .int v1), (3, .int (0 : Int32)), (4, .int v2), (5, .int v3), (6, .int v4)] [] G U = qm_run pm_m big m_209 n0 57 [(0, .ref 70), (1, .int v0), (2, .int v1), (3, .int (0 : Int32)), (4, .int v2), (5, .int v3), (6, .int v4)] [.int ((G 70 2) * (G 70 3)), .int v4] G U := rfl
theorem sg_ha_36 (big : Nat → List Value → qM → qW → qR) (n0 : Nat) (G : qM) (U : qW) (v0 : Int32) (v1 : Int32) (v2 : Int32) (v3 : Int32) (v4 : Int32) : qm_run pm_m big m_209 (n0 + 2) 200 [(0, .ref 70), (1, .int v0), (2, .int v1), (3, .int (0 : Int32)), (4, .int v2), (5, .int v3), (6, .int v4)] [] G U = qm_run pm_m big m_209 n0 204 [(0, .ref 70), (1, .int v0), (2, .int v1), (3, .int (0 : Int32)), (4, .int v2), (5, .int v3), (6, .int v4)] [.int (Int8.toInt32 (Int8.ofInt (-4))), .int v3] G U := rfl
theorem sg_ha_37 (big : Nat → List Value → qM → qW → qR) (n0 : Nat) (G : qM) (U : qW) (v0 : Int32) (v1 : Int32) (v2 : Int32) (v3 : Int32) (v4 : Int32) : qm_run pm_m big m_209 (n0 + 1) 60 [(0, .ref 70), (1, .int v0), (2, .int v1), (3, .int (0 : Int32)), (4, .int v2), (5, .int v3), (6, .int v4)] [] G U = qm_run pm_m big m_209 n0 61 [(0, .ref 70), (1, .int v0), (2, .int v1), (3, .int (0 : Int32)), (4, .int v2), (5, .int v3), (6, .int v4)] [.ref 70] G U := rfl
theorem sg_ha_38 (big : Nat → List Value → qM → qW → qR) (n0 : Nat) (G : qM) (U : qW) (v0 : Int32) (v1 : Int32) (v2 : Int32) (v3 : Int32) (v4 : Int32) : qm_run pm_m big m_209 (n0 + 2) 64 [(0, .ref 70), (1, .int v0), (2, .int v1), (3, .int (0 : Int32)), (4, .int v2), (5, .int v3), (6, .int v4)] [] G U = qm_run pm_m big m_209 n0 67 [(0, .ref 70), (1, .int v0), (2, .int v1), (3, .int (0 : Int32)), (4, .int v2), (5, .int v3), (6, .int v4)] [.int v4, .ref 70] G U := rfl
theorem sg_ha_39 (big : Nat → List Value → qM → qW → qR) (n0 : Nat) (G : qM) (U : qW) (v0 : Int32) (v1 : Int32) (v2 : Int32) (v3 : Int32) (v4 : Int32) : qm_run pm_m big m_209 (n0 + 2) 194 [(0, .ref 70), (1, .int v0), (2, .int v1), (3, .int (0 : Int32)), (4, .int v2), (5, .int v3), (6, .int v4)] [] G U = qm_run pm_m big m_209 n0 46 [(0, .ref 70), (1, .int v0), (2, .int v1), (3, .int (0 : Int32)), (4, .int v2), (5, .int v3), (6, .int (v4 + (1 : Int32)))] [] G U := rfl
theorem sg_ha_40 (big : Nat → List Value → qM → qW → qR) (n0 : Nat) (G : qM) (U : qW) (v0 : Int32) (v1 : Int32) (v2 : Int32) (v3 : Int32) (v4 : Int32) : qm_run pm_m big m_209 (n0 + 2) 73 [(0, .ref 70), (1, .int v0), (2, .int v1), (3, .int (0 : Int32)), (4, .int v2), (5, .int v3), (6, .int v4)] [] G U = qm_run pm_m big m_209 n0 76 [(0, .ref 70), (1, .int v0), (2, .int v1), (3, .int (0 : Int32)), (4, .int v2), (5, .int v3), (6, .int v4)] [.int v4, .ref 70] G U := rfl
theorem sg_ha_41 (big : Nat → List Value → qM → qW → qR) (n0 : Nat) (G : qM) (U : qW) (v0 : Int32) (v1 : Int32) (v2 : Int32) (v3 : Int32) (v4 : Int32) (v5 : Int32) : qm_run pm_m big m_209 (n0 + 1) 79 [(0, .ref 70), (1, .int v0), (2, .int v1), (3, .int (0 : Int32)), (4, .int v2), (5, .int v3), (6, .int v4)] [.int v5] G U = qm_run pm_m big m_209 n0 81 [(0, .ref 70), (1, .int v0), (2, .int v1), (3, .int (0 : Int32)), (4, .int v2), (5, .int v3), (6, .int v4)] [.int (Int8.toInt32 (Int8.ofInt (-4))), .int v5] G U := rfl
theorem sg_ha_42 (big : Nat → List Value → qM → qW → qR) (n0 : Nat) (G : qM) (U : qW) (v0 : Int32) (v1 : Int32) (v2 : Int32) (v3 : Int32) (v4 : Int32) : qm_run pm_m big m_209 (n0 + 5) 84 [(0, .ref 70), (1, .int v0), (2, .int v1), (3, .int (0 : Int32)), (4, .int v2), (5, .int v3), (6, .int v4)] [] G U = qm_run pm_m big m_209 n0 94 [(0, .ref 70), (1, .int v0), (2, .int v1), (3, .int (0 : Int32)), (4, .int v2), (5, .int v3), (6, .int v4)] [.int v4, .int (G 70 4), .ref 75] G U := rfl
theorem sg_ha_43 (big : Nat → List Value → qM → qW → qR) (n0 : Nat) (G : qM) (U : qW) (v0 : Int32) (v1 : Int32) (v2 : Int32) (v3 : Int32) (v4 : Int32) : qm_run pm_m big m_209 (n0 + 5) 95 [(0, .ref 70), (1, .int v0), (2, .int v1), (3, .int (0 : Int32)), (4, .int v2), (5, .int v3), (6, .int v4)] [] G U = qm_run pm_m big m_209 n0 104 [(0, .ref 70), (1, .int v0), (2, .int v1), (3, .int (0 : Int32)), (4, .int v2), (5, .int v3), (6, .int v4)] [.int v0, .int (G 70 4), .ref 76] G U := rfl
theorem sg_ha_44 (big : Nat → List Value → qM → qW → qR) (n0 : Nat) (G : qM) (U : qW) (v0 : Int32) (v1 : Int32) (v2 : Int32) (v3 : Int32) (v4 : Int32) : qm_run pm_m big m_209 (n0 + 5) 105 [(0, .ref 70), (1, .int v0), (2, .int v1), (3, .int (0 : Int32)), (4, .int v2), (5, .int v3), (6, .int v4)] [] G U = qm_run pm_m big m_209 n0 114 [(0, .ref 70), (1, .int v0), (2, .int v1), (3, .int (0 : Int32)), (4, .int v2), (5, .int v3), (6, .int v4)] [.int (1 : Int32), .int (G 70 4), .ref 77] G U := rfl
theorem sg_ha_45 (big : Nat → List Value → qM → qW → qR) (n0 : Nat) (G : qM) (U : qW) (v0 : Int32) (v1 : Int32) (v2 : Int32) (v3 : Int32) (v4 : Int32) : qm_run pm_m big m_209 (n0 + 5) 115 [(0, .ref 70), (1, .int v0), (2, .int v1), (3, .int (0 : Int32)), (4, .int v2), (5, .int v3), (6, .int v4)] [] G U = qm_run pm_m big m_209 n0 125 [(0, .ref 70), (1, .int v0), (2, .int v1), (3, .int (0 : Int32)), (4, .int v2), (5, .int v3), (6, .int v4)] [.int (Int8.toInt32 (Int8.ofInt (-4))), .int (G 70 4), .ref 78] G U := rfl
theorem sg_ha_46 (big : Nat → List Value → qM → qW → qR) (n0 : Nat) (G : qM) (U : qW) (v0 : Int32) (v1 : Int32) (v2 : Int32) (v3 : Int32) (v4 : Int32) : qm_run pm_m big m_209 (n0 + 8) 126 [(0, .ref 70), (1, .int v0), (2, .int v1), (3, .int (0 : Int32)), (4, .int v2), (5, .int v3), (6, .int v4)] [] G U = qm_run pm_m big m_209 n0 139 [(0, .ref 70), (1, .int v0), (2, .int v1), (3, .int (0 : Int32)), (4, .int v2), (5, .int v3), (6, .int v4), (7, .int (0 : Int32))] [] (q_up G 70 27 ((G 70 4) + (1 : Int32))) U := rfl
theorem sg_ha_47 (big : Nat → List Value → qM → qW → qR) (n0 : Nat) (G : qM) (U : qW) (v0 : Int32) (v1 : Int32) (v2 : Int32) (v3 : Int32) (v4 : Int32) (v5 : Int32) : qm_run pm_m big m_209 (n0 + 1) 156 [(0, .ref 70), (1, .int v0), (2, .int v1), (3, .int (0 : Int32)), (4, .int v2), (5, .int v3), (6, .int v4), (7, .int v5)] [] G U = qm_run pm_m big m_209 n0 157 [(0, .ref 70), (1, .int v0), (2, .int v1), (3, .int (0 : Int32)), (4, .int v2), (5, .int v3), (6, .int v4), (7, .int v5)] [.ref 70] G U := rfl
theorem sg_ha_48 (big : Nat → List Value → qM → qW → qR) (n0 : Nat) (G : qM) (U : qW) (v0 : Int32) (v1 : Int32) (v2 : Int32) (v3 : Int32) (v4 : Int32) (v5 : Int32) (v6 : Int32) : qm_run pm_m big m_209 (n0 + 1) 160 [(0, .ref 70), (1, .int v0), (2, .int v1), (3, .int (0 : Int32)), (4, .int v2), (5, .int v3), (6, .int v4), (7, .int v5)] [.int v6] G U = qm_run pm_m big m_209 n0 162 [(0, .ref 70), (1, .int v0), (2, .int v1), (3, .int (0 : Int32)), (4, .int v2), (5, .int v3), (6, .int v4), (7, .int v5)] [.int v2, .int v6] G U := rfl
theorem sg_ha_49 (big : Nat → List Value → qM → qW → qR) (n0 : Nat) (G : qM) (U : qW) (v0 : Int32) (v1 : Int32) (v2 : Int32) (v3 : Int32) (v4 : Int32) (v5 : Int32) : qm_run pm_m big m_209 (n0 + 3) 170 [(0, .ref 70), (1, .int v0), (2, .int v1), (3, .int (0 : Int32)), (4, .int v2), (5, .int v3), (6, .int v4), (7, .int v5)] [] G U = qm_run pm_m big m_209 n0 175 [(0, .ref 70), (1, .int v0), (2, .int v1), (3, .int (0 : Int32)), (4, .int v2), (5, .int v3), (6, .int v4), (7, .int v5)] [.ref 70] G U := rfl
theorem sg_ha_50 (big : Nat → List Value → qM → qW → qR) (n0 : Nat) (G : qM) (U : qW) (v0 : Int32) (v1 : Int32) (v2 : Int32) (v3 : Int32) (v4 : Int32) (v5 : Int32) (v6 : Int32) : qm_run pm_m big m_209 (n0 + 1) 178 [(0, .ref 70), (1, .int v0), (2, .int v1), (3, .int (0 : Int32)), (4, .int v2), (5, .int v3), (6, .int v4), (7, .int v5)] [.int v6] G U = qm_run pm_m big m_209 n0 180 [(0, .ref 70), (1, .int v0), (2, .int v1), (3, .int (0 : Int32)), (4, .int v2), (5, .int v3), (6, .int v4), (7, .int v5)] [.int v2, .int v6] G U := rfl
theorem sg_ha_51 (big : Nat → List Value → qM → qW → qR) (n0 : Nat) (G : qM) (U : qW) (v0 : Int32) (v1 : Int32) (v2 : Int32) (v3 : Int32) (v4 : Int32) (v5 : Int32) : qm_run pm_m big m_209 (n0 + 4) 190 [(0, .ref 70), (1, .int v0), (2, .int v1), (3, .int (0 : Int32)), (4, .int v2), (5, .int v3), (6, .int v4), (7, .int v5)] [] G U = qm_run pm_m big m_209 n0 46 [(0, .ref 70), (1, .int v0), (2, .int v1), (3, .int (0 : Int32)), (4, .int v2), (5, .int v3), (6, .int (v4 + (1 : Int32))), (7, .int v5)] [] G U := rfl
theorem sg_ha_52 (big : Nat → List Value → qM → qW → qR) (n0 : Nat) (G : qM) (U : qW) (v0 : Int32) (v1 : Int32) (v2 : Int32) (v3 : Int32) (v4 : Int32) (v5 : Int32) : qm_run pm_m big m_209 (n0 + 4) 165 [(0, .ref 70), (1, .int v0), (2, .int v1), (3, .int (0 : Int32)), (4, .int v2), (5, .int v3), (6, .int v4), (7, .int v5)] [] G U = qm_run pm_m big m_209 n0 175 [(0, .ref 70), (1, .int v0), (2, .int v1), (3, .int (0 : Int32)), (4, .int v2), (5, .int v4), (6, .int v4), (7, .int v5)] [.ref 70] G U := rfl
theorem sg_ha_53 (big : Nat → List Value → qM → qW → qR) (n0 : Nat) (G : qM) (U : qW) (v0 : Int32) (v1 : Int32) (v2 : Int32) (v3 : Int32) (v4 : Int32) (v5 : Int32) : qm_run pm_m big m_209 (n0 + 1) 183 [(0, .ref 70), (1, .int v0), (2, .int v1), (3, .int (0 : Int32)), (4, .int v2), (5, .int v3), (6, .int v4), (7, .int v5)] [] G U = qm_run pm_m big m_209 n0 184 [(0, .ref 70), (1, .int v0), (2, .int v1), (3, .int (0 : Int32)), (4, .int v2), (5, .int v3), (6, .int v4), (7, .int v5)] [.ref 70] G U := rfl
theorem sg_ha_54 (big : Nat → List Value → qM → qW → qR) (n0 : Nat) (G : qM) (U : qW) (v0 : Int32) (v1 : Int32) (v2 : Int32) (v3 : Int32) (v4 : Int32) (v5 : Int32) (v6 : Int32) : qm_run pm_m big m_209 (n0 + 4) 187 [(0, .ref 70), (1, .int v0), (2, .int v1), (3, .int (0 : Int32)), (4, .int v2), (5, .int v3), (6, .int v4), (7, .int v5)] [.int v6] G U = qm_run pm_m big m_209 n0 46 [(0, .ref 70), (1, .int v0), (2, .int v1), (3, .int (0 : Int32)), (4, .int v6), (5, .int v3), (6, .int (v4 + (1 : Int32))), (7, .int v5)] [] G U := rfl
theorem sg_ha_55 (big : Nat → List Value → qM → qW → qR) (n0 : Nat) (G : qM) (U : qW) (v0 : Int32) (v1 : Int32) : qm_run pm_m big m_209 (n0 + 4) 0 [(0, .ref 70), (1, .int v0), (2, .int v1), (3, .int (0 : Int32))] [] G U = qm_run pm_m big m_209 n0 6 [(0, .ref 70), (1, .int v0), (2, .int v1), (3, .int (0 : Int32))] [.long (3 : Int64), .long (1 : Int64), .long (Int32.toInt64 v0)] G U := rfl
theorem sg_ha_56 (big : Nat → List Value → qM → qW → qR) (n0 : Nat) (G : qM) (U : qW) (v0 : Int32) (v1 : Int32) : qm_run pm_m big m_209 (n0 + 5) 9 [(0, .ref 70), (1, .int v0), (2, .int v1), (3, .int (0 : Int32))] [.int (1 : Int32)] G U = qm_run pm_m big m_209 n0 18 [(0, .ref 70), (1, .int v0), (2, .int v1), (3, .int (0 : Int32))] [.long (12 : Int64), .long (0 : Int64), .long (Int32.toInt64 v1)] G U := rfl
theorem sg_ha_57 (big : Nat → List Value → qM → qW → qR) (n0 : Nat) (G : qM) (U : qW) (v0 : Int32) (v1 : Int32) : qm_run pm_m big m_209 (n0 + 5) 21 [(0, .ref 70), (1, .int v0), (2, .int v1), (3, .int (0 : Int32))] [.int (1 : Int32)] G U = qm_run pm_m big m_209 n0 28 [(0, .ref 70), (1, .int v0), (2, .int v1), (3, .int (0 : Int32))] [.long (1 : Int64), .long (0 : Int64), .long (0 : Int64)] G U := rfl
theorem sg_ha_58 (big : Nat → List Value → qM → qW → qR) (n0 : Nat) (G : qM) (U : qW) (v0 : Int32) (v1 : Int32) : qm_run pm_m big m_209 (n0 + 7) 31 [(0, .ref 70), (1, .int v0), (2, .int v1), (3, .int (0 : Int32))] [.int (1 : Int32)] G U = qm_run pm_m big m_209 n0 46 [(0, .ref 70), (1, .int v0), (2, .int v1), (3, .int (0 : Int32)), (4, .int (Int32.ofInt (-1))), (5, .int (Int8.toInt32 (Int8.ofInt (-4)))), (6, .int (0 : Int32))] [] G U := rfl
theorem sg_ha_59 (big : Nat → List Value → qM → qW → qR) (n0 : Nat) (G : qM) (U : qW) (v0 : Int32) (v1 : Int32) (v2 : Int32) (v3 : Int32) (v4 : Int32) (v5 : Int32) : qm_run pm_m big m_209 (n0 + 2) 139 [(0, .ref 70), (1, .int v0), (2, .int v1), (3, .int (1 : Int32)), (4, .int v2), (5, .int v3), (6, .int v4), (7, .int v5)] [] G U = qm_run pm_m big m_209 n0 142 [(0, .ref 70), (1, .int v0), (2, .int v1), (3, .int (1 : Int32)), (4, .int v2), (5, .int v3), (6, .int v4), (7, .int v5)] [.int v1, .int v5] G U := rfl
theorem sg_ha_60 (big : Nat → List Value → qM → qW → qR) (n0 : Nat) (G : qM) (U : qW) (v0 : Int32) (v1 : Int32) (v2 : Int32) (v3 : Int32) (v4 : Int32) (v5 : Int32) : qm_run pm_m big m_209 (n0 + 1) 145 [(0, .ref 70), (1, .int v0), (2, .int v1), (3, .int (1 : Int32)), (4, .int v2), (5, .int v3), (6, .int v4), (7, .int v5)] [] G U = qm_run pm_m big m_209 n0 146 [(0, .ref 70), (1, .int v0), (2, .int v1), (3, .int (1 : Int32)), (4, .int v2), (5, .int v3), (6, .int v4), (7, .int v5)] [.ref 70] G U := rfl
theorem sg_ha_61 (big : Nat → List Value → qM → qW → qR) (n0 : Nat) (G : qM) (U : qW) (v0 : Int32) (v1 : Int32) (v2 : Int32) (v3 : Int32) (v4 : Int32) (v5 : Int32) (v6 : Int32) : qm_run pm_m big m_209 (n0 + 3) 149 [(0, .ref 70), (1, .int v0), (2, .int v1), (3, .int (1 : Int32)), (4, .int v2), (5, .int v3), (6, .int v4), (7, .int v5)] [.int v6] G U = qm_run pm_m big m_209 n0 139 [(0, .ref 70), (1, .int v0), (2, .int v1), (3, .int (1 : Int32)), (4, .int v2), (5, .int v3), (6, .int v4), (7, .int (v5 + (1 : Int32)))] [] G U := rfl
theorem sg_ha_62 (big : Nat → List Value → qM → qW → qR) (n0 : Nat) (G : qM) (U : qW) (v0 : Int32) (v1 : Int32) (v2 : Int32) (v3 : Int32) (v4 : Int32) : qm_run pm_m big m_209 (n0 + 6) 46 [(0, .ref 70), (1, .int v0), (2, .int v1), (3, .int (1 : Int32)), (4, .int v2), (5, .int v3), (6, .int v4)] [] G U = qm_run pm_m big m_209 n0 57 [(0, .ref 70), (1, .int v0), (2, .int v1), (3, .int (1 : Int32)), (4, .int v2), (5, .int v3), (6, .int v4)] [.int ((G 70 2) * (G 70 3)), .int v4] G U := rfl
theorem sg_ha_63 (big : Nat → List Value → qM → qW → qR) (n0 : Nat) (G : qM) (U : qW) (v0 : Int32) (v1 : Int32) (v2 : Int32) (v3 : Int32) (v4 : Int32) : qm_run pm_m big m_209 (n0 + 2) 200 [(0, .ref 70), (1, .int v0), (2, .int v1), (3, .int (1 : Int32)), (4, .int v2), (5, .int v3), (6, .int v4)] [] G U = qm_run pm_m big m_209 n0 204 [(0, .ref 70), (1, .int v0), (2, .int v1), (3, .int (1 : Int32)), (4, .int v2), (5, .int v3), (6, .int v4)] [.int (Int8.toInt32 (Int8.ofInt (-4))), .int v3] G U := rfl
theorem sg_ha_64 (big : Nat → List Value → qM → qW → qR) (n0 : Nat) (G : qM) (U : qW) (v0 : Int32) (v1 : Int32) (v2 : Int32) (v3 : Int32) (v4 : Int32) : qm_run pm_m big m_209 (n0 + 1) 60 [(0, .ref 70), (1, .int v0), (2, .int v1), (3, .int (1 : Int32)), (4, .int v2), (5, .int v3), (6, .int v4)] [] G U = qm_run pm_m big m_209 n0 61 [(0, .ref 70), (1, .int v0), (2, .int v1), (3, .int (1 : Int32)), (4, .int v2), (5, .int v3), (6, .int v4)] [.ref 70] G U := rfl
theorem sg_ha_65 (big : Nat → List Value → qM → qW → qR) (n0 : Nat) (G : qM) (U : qW) (v0 : Int32) (v1 : Int32) (v2 : Int32) (v3 : Int32) (v4 : Int32) : qm_run pm_m big m_209 (n0 + 2) 64 [(0, .ref 70), (1, .int v0), (2, .int v1), (3, .int (1 : Int32)), (4, .int v2), (5, .int v3), (6, .int v4)] [] G U = qm_run pm_m big m_209 n0 67 [(0, .ref 70), (1, .int v0), (2, .int v1), (3, .int (1 : Int32)), (4, .int v2), (5, .int v3), (6, .int v4)] [.int v4, .ref 70] G U := rfl
theorem sg_ha_66 (big : Nat → List Value → qM → qW → qR) (n0 : Nat) (G : qM) (U : qW) (v0 : Int32) (v1 : Int32) (v2 : Int32) (v3 : Int32) (v4 : Int32) : qm_run pm_m big m_209 (n0 + 2) 194 [(0, .ref 70), (1, .int v0), (2, .int v1), (3, .int (1 : Int32)), (4, .int v2), (5, .int v3), (6, .int v4)] [] G U = qm_run pm_m big m_209 n0 46 [(0, .ref 70), (1, .int v0), (2, .int v1), (3, .int (1 : Int32)), (4, .int v2), (5, .int v3), (6, .int (v4 + (1 : Int32)))] [] G U := rfl
theorem sg_ha_67 (big : Nat → List Value → qM → qW → qR) (n0 : Nat) (G : qM) (U : qW) (v0 : Int32) (v1 : Int32) (v2 : Int32) (v3 : Int32) (v4 : Int32) : qm_run pm_m big m_209 (n0 + 2) 73 [(0, .ref 70), (1, .int v0), (2, .int v1), (3, .int (1 : Int32)), (4, .int v2), (5, .int v3), (6, .int v4)] [] G U = qm_run pm_m big m_209 n0 76 [(0, .ref 70), (1, .int v0), (2, .int v1), (3, .int (1 : Int32)), (4, .int v2), (5, .int v3), (6, .int v4)] [.int v4, .ref 70] G U := rfl
theorem sg_ha_68 (big : Nat → List Value → qM → qW → qR) (n0 : Nat) (G : qM) (U : qW) (v0 : Int32) (v1 : Int32) (v2 : Int32) (v3 : Int32) (v4 : Int32) (v5 : Int32) : qm_run pm_m big m_209 (n0 + 1) 79 [(0, .ref 70), (1, .int v0), (2, .int v1), (3, .int (1 : Int32)), (4, .int v2), (5, .int v3), (6, .int v4)] [.int v5] G U = qm_run pm_m big m_209 n0 81 [(0, .ref 70), (1, .int v0), (2, .int v1), (3, .int (1 : Int32)), (4, .int v2), (5, .int v3), (6, .int v4)] [.int (Int8.toInt32 (Int8.ofInt (-4))), .int v5] G U := rfl
theorem sg_ha_69 (big : Nat → List Value → qM → qW → qR) (n0 : Nat) (G : qM) (U : qW) (v0 : Int32) (v1 : Int32) (v2 : Int32) (v3 : Int32) (v4 : Int32) : qm_run pm_m big m_209 (n0 + 5) 84 [(0, .ref 70), (1, .int v0), (2, .int v1), (3, .int (1 : Int32)), (4, .int v2), (5, .int v3), (6, .int v4)] [] G U = qm_run pm_m big m_209 n0 94 [(0, .ref 70), (1, .int v0), (2, .int v1), (3, .int (1 : Int32)), (4, .int v2), (5, .int v3), (6, .int v4)] [.int v4, .int (G 70 4), .ref 75] G U := rfl
theorem sg_ha_70 (big : Nat → List Value → qM → qW → qR) (n0 : Nat) (G : qM) (U : qW) (v0 : Int32) (v1 : Int32) (v2 : Int32) (v3 : Int32) (v4 : Int32) : qm_run pm_m big m_209 (n0 + 5) 95 [(0, .ref 70), (1, .int v0), (2, .int v1), (3, .int (1 : Int32)), (4, .int v2), (5, .int v3), (6, .int v4)] [] G U = qm_run pm_m big m_209 n0 104 [(0, .ref 70), (1, .int v0), (2, .int v1), (3, .int (1 : Int32)), (4, .int v2), (5, .int v3), (6, .int v4)] [.int v0, .int (G 70 4), .ref 76] G U := rfl
theorem sg_ha_71 (big : Nat → List Value → qM → qW → qR) (n0 : Nat) (G : qM) (U : qW) (v0 : Int32) (v1 : Int32) (v2 : Int32) (v3 : Int32) (v4 : Int32) : qm_run pm_m big m_209 (n0 + 5) 105 [(0, .ref 70), (1, .int v0), (2, .int v1), (3, .int (1 : Int32)), (4, .int v2), (5, .int v3), (6, .int v4)] [] G U = qm_run pm_m big m_209 n0 114 [(0, .ref 70), (1, .int v0), (2, .int v1), (3, .int (1 : Int32)), (4, .int v2), (5, .int v3), (6, .int v4)] [.int (1 : Int32), .int (G 70 4), .ref 77] G U := rfl
theorem sg_ha_72 (big : Nat → List Value → qM → qW → qR) (n0 : Nat) (G : qM) (U : qW) (v0 : Int32) (v1 : Int32) (v2 : Int32) (v3 : Int32) (v4 : Int32) : qm_run pm_m big m_209 (n0 + 5) 115 [(0, .ref 70), (1, .int v0), (2, .int v1), (3, .int (1 : Int32)), (4, .int v2), (5, .int v3), (6, .int v4)] [] G U = qm_run pm_m big m_209 n0 125 [(0, .ref 70), (1, .int v0), (2, .int v1), (3, .int (1 : Int32)), (4, .int v2), (5, .int v3), (6, .int v4)] [.int (Int8.toInt32 (Int8.ofInt (-4))), .int (G 70 4), .ref 78] G U := rfl
theorem sg_ha_73 (big : Nat → List Value → qM → qW → qR) (n0 : Nat) (G : qM) (U : qW) (v0 : Int32) (v1 : Int32) (v2 : Int32) (v3 : Int32) (v4 : Int32) : qm_run pm_m big m_209 (n0 + 8) 126 [(0, .ref 70), (1, .int v0), (2, .int v1), (3, .int (1 : Int32)), (4, .int v2), (5, .int v3), (6, .int v4)] [] G U = qm_run pm_m big m_209 n0 139 [(0, .ref 70), (1, .int v0), (2, .int v1), (3, .int (1 : Int32)), (4, .int v2), (5, .int v3), (6, .int v4), (7, .int (0 : Int32))] [] (q_up G 70 27 ((G 70 4) + (1 : Int32))) U := rfl
theorem sg_ha_74 (big : Nat → List Value → qM → qW → qR) (n0 : Nat) (G : qM) (U : qW) (v0 : Int32) (v1 : Int32) (v2 : Int32) (v3 : Int32) (v4 : Int32) (v5 : Int32) : qm_run pm_m big m_209 (n0 + 1) 156 [(0, .ref 70), (1, .int v0), (2, .int v1), (3, .int (1 : Int32)), (4, .int v2), (5, .int v3), (6, .int v4), (7, .int v5)] [] G U = qm_run pm_m big m_209 n0 157 [(0, .ref 70), (1, .int v0), (2, .int v1), (3, .int (1 : Int32)), (4, .int v2), (5, .int v3), (6, .int v4), (7, .int v5)] [.ref 70] G U := rfl
theorem sg_ha_75 (big : Nat → List Value → qM → qW → qR) (n0 : Nat) (G : qM) (U : qW) (v0 : Int32) (v1 : Int32) (v2 : Int32) (v3 : Int32) (v4 : Int32) (v5 : Int32) (v6 : Int32) : qm_run pm_m big m_209 (n0 + 1) 160 [(0, .ref 70), (1, .int v0), (2, .int v1), (3, .int (1 : Int32)), (4, .int v2), (5, .int v3), (6, .int v4), (7, .int v5)] [.int v6] G U = qm_run pm_m big m_209 n0 162 [(0, .ref 70), (1, .int v0), (2, .int v1), (3, .int (1 : Int32)), (4, .int v2), (5, .int v3), (6, .int v4), (7, .int v5)] [.int v2, .int v6] G U := rfl
theorem sg_ha_76 (big : Nat → List Value → qM → qW → qR) (n0 : Nat) (G : qM) (U : qW) (v0 : Int32) (v1 : Int32) (v2 : Int32) (v3 : Int32) (v4 : Int32) (v5 : Int32) : qm_run pm_m big m_209 (n0 + 3) 170 [(0, .ref 70), (1, .int v0), (2, .int v1), (3, .int (1 : Int32)), (4, .int v2), (5, .int v3), (6, .int v4), (7, .int v5)] [] G U = qm_run pm_m big m_209 n0 175 [(0, .ref 70), (1, .int v0), (2, .int v1), (3, .int (1 : Int32)), (4, .int v2), (5, .int v3), (6, .int v4), (7, .int v5)] [.ref 70] G U := rfl
theorem sg_ha_77 (big : Nat → List Value → qM → qW → qR) (n0 : Nat) (G : qM) (U : qW) (v0 : Int32) (v1 : Int32) (v2 : Int32) (v3 : Int32) (v4 : Int32) (v5 : Int32) (v6 : Int32) : qm_run pm_m big m_209 (n0 + 1) 178 [(0, .ref 70), (1, .int v0), (2, .int v1), (3, .int (1 : Int32)), (4, .int v2), (5, .int v3), (6, .int v4), (7, .int v5)] [.int v6] G U = qm_run pm_m big m_209 n0 180 [(0, .ref 70), (1, .int v0), (2, .int v1), (3, .int (1 : Int32)), (4, .int v2), (5, .int v3), (6, .int v4), (7, .int v5)] [.int v2, .int v6] G U := rfl
theorem sg_ha_78 (big : Nat → List Value → qM → qW → qR) (n0 : Nat) (G : qM) (U : qW) (v0 : Int32) (v1 : Int32) (v2 : Int32) (v3 : Int32) (v4 : Int32) (v5 : Int32) : qm_run pm_m big m_209 (n0 + 4) 190 [(0, .ref 70), (1, .int v0), (2, .int v1), (3, .int (1 : Int32)), (4, .int v2), (5, .int v3), (6, .int v4), (7, .int v5)] [] G U = qm_run pm_m big m_209 n0 46 [(0, .ref 70), (1, .int v0), (2, .int v1), (3, .int (1 : Int32)), (4, .int v2), (5, .int v3), (6, .int (v4 + (1 : Int32))), (7, .int v5)] [] G U := rfl
theorem sg_ha_79 (big : Nat → List Value → qM → qW → qR) (n0 : Nat) (G : qM) (U : qW) (v0 : Int32) (v1 : Int32) (v2 : Int32) (v3 : Int32) (v4 : Int32) (v5 : Int32) : qm_run pm_m big m_209 (n0 + 4) 165 [(0, .ref 70), (1, .int v0), (2, .int v1), (3, .int (1 : Int32)), (4, .int v2), (5, .int v3), (6, .int v4), (7, .int v5)] [] G U = qm_run pm_m big m_209 n0 175 [(0, .ref 70), (1, .int v0), (2, .int v1), (3, .int (1 : Int32)), (4, .int v2), (5, .int v4), (6, .int v4), (7, .int v5)] [.ref 70] G U := rfl
theorem sg_ha_80 (big : Nat → List Value → qM → qW → qR) (n0 : Nat) (G : qM) (U : qW) (v0 : Int32) (v1 : Int32) (v2 : Int32) (v3 : Int32) (v4 : Int32) (v5 : Int32) : qm_run pm_m big m_209 (n0 + 1) 183 [(0, .ref 70), (1, .int v0), (2, .int v1), (3, .int (1 : Int32)), (4, .int v2), (5, .int v3), (6, .int v4), (7, .int v5)] [] G U = qm_run pm_m big m_209 n0 184 [(0, .ref 70), (1, .int v0), (2, .int v1), (3, .int (1 : Int32)), (4, .int v2), (5, .int v3), (6, .int v4), (7, .int v5)] [.ref 70] G U := rfl
theorem sg_ha_81 (big : Nat → List Value → qM → qW → qR) (n0 : Nat) (G : qM) (U : qW) (v0 : Int32) (v1 : Int32) (v2 : Int32) (v3 : Int32) (v4 : Int32) (v5 : Int32) (v6 : Int32) : qm_run pm_m big m_209 (n0 + 4) 187 [(0, .ref 70), (1, .int v0), (2, .int v1), (3, .int (1 : Int32)), (4, .int v2), (5, .int v3), (6, .int v4), (7, .int v5)] [.int v6] G U = qm_run pm_m big m_209 n0 46 [(0, .ref 70), (1, .int v0), (2, .int v1), (3, .int (1 : Int32)), (4, .int v6), (5, .int v3), (6, .int (v4 + (1 : Int32))), (7, .int v5)] [] G U := rfl
theorem sg_ha_82 (big : Nat → List Value → qM → qW → qR) (n0 : Nat) (G : qM) (U : qW) (v0 : Int32) (v1 : Int32) : qm_run pm_m big m_209 (n0 + 4) 0 [(0, .ref 70), (1, .int v0), (2, .int v1), (3, .int (1 : Int32))] [] G U = qm_run pm_m big m_209 n0 6 [(0, .ref 70), (1, .int v0), (2, .int v1), (3, .int (1 : Int32))] [.long (3 : Int64), .long (1 : Int64), .long (Int32.toInt64 v0)] G U := rfl
theorem sg_ha_83 (big : Nat → List Value → qM → qW → qR) (n0 : Nat) (G : qM) (U : qW) (v0 : Int32) (v1 : Int32) : qm_run pm_m big m_209 (n0 + 5) 9 [(0, .ref 70), (1, .int v0), (2, .int v1), (3, .int (1 : Int32))] [.int (1 : Int32)] G U = qm_run pm_m big m_209 n0 18 [(0, .ref 70), (1, .int v0), (2, .int v1), (3, .int (1 : Int32))] [.long (12 : Int64), .long (0 : Int64), .long (Int32.toInt64 v1)] G U := rfl
theorem sg_ha_84 (big : Nat → List Value → qM → qW → qR) (n0 : Nat) (G : qM) (U : qW) (v0 : Int32) (v1 : Int32) : qm_run pm_m big m_209 (n0 + 5) 21 [(0, .ref 70), (1, .int v0), (2, .int v1), (3, .int (1 : Int32))] [.int (1 : Int32)] G U = qm_run pm_m big m_209 n0 28 [(0, .ref 70), (1, .int v0), (2, .int v1), (3, .int (1 : Int32))] [.long (1 : Int64), .long (0 : Int64), .long (1 : Int64)] G U := rfl
theorem sg_ha_85 (big : Nat → List Value → qM → qW → qR) (n0 : Nat) (G : qM) (U : qW) (v0 : Int32) (v1 : Int32) : qm_run pm_m big m_209 (n0 + 7) 31 [(0, .ref 70), (1, .int v0), (2, .int v1), (3, .int (1 : Int32))] [.int (1 : Int32)] G U = qm_run pm_m big m_209 n0 46 [(0, .ref 70), (1, .int v0), (2, .int v1), (3, .int (1 : Int32)), (4, .int (Int32.ofInt (-1))), (5, .int (Int8.toInt32 (Int8.ofInt (-4)))), (6, .int (0 : Int32))] [] G U := rfl
theorem b_add35 (x y z : Int32) (g : qM) (u : qW) {n : Nat} (hn : g 35 3 = Int32.ofNat n) (h5 : n ≤ 5) : q_BS 32 [.ref 35, .int x, .int y, .int z] g u (none, s_mor n x y z g, u) := by
  refine q_bx (mm := m_32) rfl (Nat.le_of_ble_eq_true rfl) rfl ?_
  refine q_step 5 9 [(0, .ref 35), (1, .int x), (2, .int y), (3, .int z)] [.int (6 : Int32), .int (g 35 3)] g u (fun big n0 => sg_ha_1 big n0 g u x y z) ?_
  refine q_ic_ge rfl (fun hc0 => absurd (show (6 : Int32) ≤ (g 35 3) from hc0) (fun z => by rw [hn] at z; exact absurd ((q_le (i := 6) (j := n) (by omega) (by omega)).mp z) (by omega))) (fun (hc0 : ¬ ((6 : Int32) ≤ (g 35 3))) => ?_)
  refine q_step 5 21 [(0, .ref 35), (1, .int x), (2, .int y), (3, .int z)] [.int x, .int (g 35 3), .ref 36] g u (fun big n0 => sg_ha_2 big n0 g u x y z) ?_
  refine q_iast (j := n) (by rw [hn]; exact q_ixn (by omega) (by omega)) rfl rfl ?_
  refine q_step 5 31 [(0, .ref 35), (1, .int x), (2, .int y), (3, .int z)] [.int y, .int (g 35 3), .ref 37] (q_up g 36 n x) u (fun big n0 => sg_ha_3 big n0 (q_up g 36 n x) u x y z) ?_
  refine q_iast (j := n) (by rw [hn]; exact q_ixn (by omega) (by omega)) rfl rfl ?_
  refine q_step 5 41 [(0, .ref 35), (1, .int x), (2, .int y), (3, .int z)] [.int z, .int (g 35 3), .ref 38] (q_up (q_up g 36 n x) 37 n y) u (fun big n0 => sg_ha_4 big n0 (q_up (q_up g 36 n x) 37 n y) u x y z) ?_
  refine q_iast (j := n) (by rw [hn]; exact q_ixn (by omega) (by omega)) rfl rfl ?_
  refine q_ret 7 (none, (q_up (q_up (q_up (q_up g 36 n x) 37 n y) 38 n z) 35 3 ((g 35 3) + (1 : Int32))), u) (fun _ _ => rfl) ?_
  rfl
theorem w_frc {n c : Nat} {g r : qM} (hc : w_cs 20 n g r) : d_isFree (Int32.ofNat c) n g = if p_fr n r c = 0 then 0 else 1 := by
  unfold d_isFree p_fr
  rw [w_who_c (T := 20) hc]
  by_cases hw : s_bit (r 71 20) (Int32.ofNat c) = 0
  · rw [if_pos hw, if_pos (d_hw_iff.mpr (by rw [hc.1.2.2.2.1]; exact hw))]
    by_cases hn : f_who n r (Int32.ofNat c) = i_none
    · rw [if_pos hn, if_pos hn, if_neg (by decide)]
    · rw [if_neg hn, if_neg hn, if_pos rfl]
  · rw [if_neg hw, if_neg (show ¬ d_hasWall (Int32.ofNat c) g = 0 from fun z => hw (by rw [← hc.1.2.2.2.1]; exact d_hw_iff.mp z)), if_pos rfl]
theorem f_enc_none {N : Nat} {b : Option (Nat × Nat)} (h25 : N ≤ 25) (hN : n_hok N b) (h : f_enc b = i_none) : b = none := by
  match b, hN, h with
  | none, _, _ => rfl
  | some (x, s), hN, h =>
    have h : Int32.ofNat (x * 1024 + s) = i_none := h
    have h1 := hN x s rfl
    exact absurd h (q_none_ne (by omega))
theorem f_enc_some {b : Option (Nat × Nat)} (h : ¬ f_enc b = i_none) : ∃ x s, b = some (x, s) := by
  match b, h with
  | none, h => exact absurd rfl h
  | some (x, s), _ => exact ⟨x, s, rfl⟩
theorem bn_l (u : qW) {n W H m t : Nat} {r : qM} (h : w_ok n W H r) (h5 : n ≤ 5) (hm : 1 ≤ m ∧ m ≤ 3) (ht : t ≤ 60) (hWH : W * H ≤ 25) : ∀ k c b g, c + k = W * H → w_cs 20 n g r → (∀ p, p < n → g 24 p = r 78 p) → n_hok (W * H) b → q_EV m_111 7 [(0, .ref 34), (1, .ref 20), (2, .int (Int32.ofNat m)), (3, .int (Int32.ofNat t)), (4, .int (f_enc b)), (5, .int (Int32.ofNat c))] [] g u (w_po w_fc g (.int (f_enc (f_hb (p_fr n r) (n_hg n t m r) k c b)))) := by
  intro k
  induction k with
  | zero =>
    intro c b g hi hc hg hb
    refine q_step 2 10 [(0, .ref 34), (1, .ref 20), (2, .int (Int32.ofNat m)), (3, .int (Int32.ofNat t)), (4, .int (f_enc b)), (5, .int (Int32.ofNat c))] [.ref 20, .int (Int32.ofNat c)] g u (fun big n0 => sg_ha_5 big n0 g u (Int32.ofNat m) (Int32.ofNat t) (f_enc b) (Int32.ofNat c)) ?_
    refine q_call (M2 := 39) (rest := [.int (Int32.ofNat c)]) (b_size _ _) (fun _ _ => rfl) ?_
    refine q_ic_ge rfl (fun (hc0 : (d_size g) ≤ (Int32.ofNat c)) => ?_) (fun hc0 => absurd (show (d_size g) ≤ (Int32.ofNat c) from by unfold d_size; rw [hc.1.2.1, hc.1.2.2.1, w_size h]; exact (q_le (by omega) (by omega)).mpr (by omega)) hc0)
    refine q_ret 2 (some (.int (f_enc b)), g, u) (fun _ _ => rfl) ?_
    exact ⟨g, u, rfl, w_fc_rfl g⟩
  | succ k ih =>
    intro c b g hi hc hg hb
    refine q_step 2 10 [(0, .ref 34), (1, .ref 20), (2, .int (Int32.ofNat m)), (3, .int (Int32.ofNat t)), (4, .int (f_enc b)), (5, .int (Int32.ofNat c))] [.ref 20, .int (Int32.ofNat c)] g u (fun big n0 => sg_ha_5 big n0 g u (Int32.ofNat m) (Int32.ofNat t) (f_enc b) (Int32.ofNat c)) ?_
    refine q_call (M2 := 39) (rest := [.int (Int32.ofNat c)]) (b_size _ _) (fun _ _ => rfl) ?_
    refine q_ic_ge rfl (fun hc0 => absurd (show (d_size g) ≤ (Int32.ofNat c) from hc0) (fun z => by unfold d_size at z; rw [hc.1.2.1, hc.1.2.2.1, w_size h] at z; exact absurd ((q_le (by omega) (by omega)).mp z) (by omega))) (fun (hc0 : ¬ ((d_size g) ≤ (Int32.ofNat c))) => ?_)
    refine q_step 2 19 [(0, .ref 34), (1, .ref 20), (2, .int (Int32.ofNat m)), (3, .int (Int32.ofNat t)), (4, .int (f_enc b)), (5, .int (Int32.ofNat c))] [.int (Int32.ofNat c), .ref 20] g u (fun big n0 => sg_ha_6 big n0 g u (Int32.ofNat m) (Int32.ofNat t) (f_enc b) (Int32.ofNat c)) ?_
    by_cases hc1 : p_fr n r c = 0
    · refine q_call (M2 := 28) (rest := []) (show q_BS 28 [.ref 20, .int (Int32.ofNat c)] g u (some (.int (0 : Int32)), g, u) from by have e := b_isFree (Int32.ofNat c) n g u (hc.1.1.trans h.2.1) (by omega); rw [w_frc hc, if_pos hc1] at e; exact e) (fun _ _ => rfl) ?_
      refine q_step 3 7 [(0, .ref 34), (1, .ref 20), (2, .int (Int32.ofNat m)), (3, .int (Int32.ofNat t)), (4, .int (f_enc b)), (5, .int ((Int32.ofNat c) + (1 : Int32)))] [] g u (fun big n0 => sg_ha_7 big n0 g u (Int32.ofNat m) (Int32.ofNat t) (f_enc b) (Int32.ofNat c)) ?_
      have e : f_h1 (p_fr n r) (n_hg n t m r) c b = b := f_h1_no hc1
      rw [q_succ, f_hb, e]
      exact ih (c + 1) b g (by omega) hc hg hb
    · refine q_call (M2 := 28) (rest := []) (show q_BS 28 [.ref 20, .int (Int32.ofNat c)] g u (some (.int (1 : Int32)), g, u) from by have e := b_isFree (Int32.ofNat c) n g u (hc.1.1.trans h.2.1) (by omega); rw [w_frc hc, if_neg hc1] at e; exact e) (fun _ _ => rfl) ?_
      refine q_step 4 30 [(0, .ref 34), (1, .ref 20), (2, .int (Int32.ofNat m)), (3, .int (Int32.ofNat t)), (4, .int (f_enc b)), (5, .int (Int32.ofNat c))] [.ref 20, .ref 35] g u (fun big n0 => sg_ha_8 big n0 g u (Int32.ofNat m) (Int32.ofNat t) (f_enc b) (Int32.ofNat c)) ?_
      have hfr := p_fr_iff.mp hc1
      have hy := w_cpy (a := 35) (b := 20) (by omega) (by omega) hc
      have hx : q_ix ((s_cpy 35 20 g) 20 3) n 6 := by rw [s_cpy_o (by omega), hc.1.1, h.2.1]; exact q_ixn (by omega) (by omega)
      refine q_call (M2 := 41) (rest := []) (b_cpy35_20 _ _) (fun _ _ => rfl) ?_
      refine q_step 6 46 [(0, .ref 34), (1, .ref 20), (2, .int (Int32.ofNat m)), (3, .int (Int32.ofNat t)), (4, .int (f_enc b)), (5, .int (Int32.ofNat c))] [.int (Int8.toInt32 (Int8.ofInt (-4))), .int ((s_cpy 35 20 g) 20 3), .ref 39] (s_cpy 35 20 g) u (fun big n0 => sg_ha_9 big n0 (s_cpy 35 20 g) u (Int32.ofNat m) (Int32.ofNat t) (f_enc b) (Int32.ofNat c)) ?_
      refine q_iast (j := n) (hx) rfl rfl ?_
      refine q_step 5 55 [(0, .ref 34), (1, .ref 20), (2, .int (Int32.ofNat m)), (3, .int (Int32.ofNat t)), (4, .int (f_enc b)), (5, .int (Int32.ofNat c))] [.int (1 : Int32), .int (Int32.ofNat m), .int (Int32.ofNat c), .ref 35] (q_up (s_cpy 35 20 g) 39 n (Int8.toInt32 (Int8.ofInt (-4)))) u (fun big n0 => sg_ha_10 big n0 (q_up (s_cpy 35 20 g) 39 n (Int8.toInt32 (Int8.ofInt (-4)))) u (Int32.ofNat m) (Int32.ofNat t) (f_enc b) (Int32.ofNat c)) ?_
      have h3 : (s_cpy 35 20 g) 35 3 = Int32.ofNat n := hy.1.1.trans h.2.1
      have hok := w_ok_ha (c := c) (m := m) h h5 (by omega) hfr.1 hfr.2 hm
      have hcs := w_cs_ha (c := c) (m := m) h3 hy
      refine q_call (M2 := 32) (rest := []) (b_add35 (Int32.ofNat c) (Int32.ofNat m) 1 (q_up (s_cpy 35 20 g) 39 n (Int8.toInt32 (Int8.ofInt (-4)))) u (n := n) h3 h5) (fun _ _ => rfl) ?_
      refine q_step 5 67 [(0, .ref 34), (1, .ref 20), (2, .int (Int32.ofNat m)), (3, .int (Int32.ofNat t)), (4, .int (f_enc b)), (5, .int (Int32.ofNat c))] [.int (Int32.ofNat t), .ref 35, .ref 28] (s_mor n (Int32.ofNat c) (Int32.ofNat m) 1 (q_up (s_cpy 35 20 g) 39 n (Int8.toInt32 (Int8.ofInt (-4))))) u (fun big n0 => sg_ha_11 big n0 (s_mor n (Int32.ofNat c) (Int32.ofNat m) 1 (q_up (s_cpy 35 20 g) 39 n (Int8.toInt32 (Int8.ofInt (-4))))) u (Int32.ofNat m) (Int32.ofNat t) (f_enc b) (Int32.ofNat c)) ?_
      refine q_call (M2 := 76) (rest := []) (c_tss35 u hok hcs ht) (fun _ _ => rfl) ?_
      refine q_step 2 74 [(0, .ref 34), (1, .ref 20), (2, .int (Int32.ofNat m)), (3, .int (Int32.ofNat t)), (4, .int (f_enc b)), (5, .int (Int32.ofNat c))] [.ref 35] (q_up (s_tss 35 (n + 1) t (s_mor n (Int32.ofNat c) (Int32.ofNat m) 1 (q_up (s_cpy 35 20 g) 39 n (Int8.toInt32 (Int8.ofInt (-4)))))) 35 5 ((s_mor n (Int32.ofNat c) (Int32.ofNat m) 1 (q_up (s_cpy 35 20 g) 39 n (Int8.toInt32 (Int8.ofInt (-4))))) 35 5 + Int32.ofNat t)) u (fun big n0 => sg_ha_12 big n0 (q_up (s_tss 35 (n + 1) t (s_mor n (Int32.ofNat c) (Int32.ofNat m) 1 (q_up (s_cpy 35 20 g) 39 n (Int8.toInt32 (Int8.ofInt (-4)))))) 35 5 ((s_mor n (Int32.ofNat c) (Int32.ofNat m) 1 (q_up (s_cpy 35 20 g) 39 n (Int8.toInt32 (Int8.ofInt (-4))))) 35 5 + Int32.ofNat t)) u (Int32.ofNat m) (Int32.ofNat t) (f_enc b) (Int32.ofNat c)) ?_
      have hcs4 : w_cs 35 (n + 1) (q_up (s_tss 35 (n + 1) t (s_mor n (Int32.ofNat c) (Int32.ofNat m) 1 (q_up (s_cpy 35 20 g) 39 n (Int8.toInt32 (Int8.ofInt (-4)))))) 35 5 ((s_mor n (Int32.ofNat c) (Int32.ofNat m) 1 (q_up (s_cpy 35 20 g) 39 n (Int8.toInt32 (Int8.ofInt (-4))))) 35 5 + Int32.ofNat t)) (s_rit (n + 1) t (gh_ha n c m r)) := w_up35 (w_tss35 hok hcs t)
      have hg4 : ∀ p, p < n + 1 → (q_up (s_tss 35 (n + 1) t (s_mor n (Int32.ofNat c) (Int32.ofNat m) 1 (q_up (s_cpy 35 20 g) 39 n (Int8.toInt32 (Int8.ofInt (-4)))))) 35 5 ((s_mor n (Int32.ofNat c) (Int32.ofNat m) 1 (q_up (s_cpy 35 20 g) 39 n (Int8.toInt32 (Int8.ofInt (-4))))) 35 5 + Int32.ofNat t)) 39 p = s_rit (n + 1) t (gh_ha n c m r) 78 p := fun p hp => by
        rw [s_rit_g (by omega), gh_ha_78, q_up_ne (by omega)]
        refine (congrFun (s_tss_go (T := 35) (Or.inr rfl) t (s_mor n (Int32.ofNat c) (Int32.ofNat m) 1 (q_up (s_cpy 35 20 g) 39 n (Int8.toInt32 (Int8.ofInt (-4)))))) p).trans ?_
        show q_up (s_cpy 35 20 g) 39 n i_none 39 p = _
        rw [q_up_at]
        split
        · rfl
        · rw [show (s_cpy 35 20 g) 39 p = g 24 p from s_cpy_4 (a := 35) (b := 20) (by omega) (by omega)]
          exact hg p (by omega)
      have hag := b_atg35 (q_up (s_tss 35 (n + 1) t (s_mor n (Int32.ofNat c) (Int32.ofNat m) 1 (q_up (s_cpy 35 20 g) 39 n (Int8.toInt32 (Int8.ofInt (-4)))))) 35 5 ((s_mor n (Int32.ofNat c) (Int32.ofNat m) 1 (q_up (s_cpy 35 20 g) 39 n (Int8.toInt32 (Int8.ofInt (-4))))) 35 5 + Int32.ofNat t)) u (hcs4.1.1.trans (w_ok_rit t _ hok).2.1) (by omega)
      rw [w_at_c (T := 35) (w_ok_rit t _ hok) hcs4 hg4, f_at_n] at hag
      have hA : n_hg n t m r c ≤ 6 := Nat.le_trans (n_at_le (n + 1) _) (by omega)
      have hfc : w_fc g (q_up (s_tss 35 (n + 1) t (s_mor n (Int32.ofNat c) (Int32.ofNat m) 1 (q_up (s_cpy 35 20 g) 39 n (Int8.toInt32 (Int8.ofInt (-4)))))) 35 5 ((s_mor n (Int32.ofNat c) (Int32.ofNat m) 1 (q_up (s_cpy 35 20 g) 39 n (Int8.toInt32 (Int8.ofInt (-4))))) 35 5 + Int32.ofNat t)) := w_fc.up (w_fc.trans (w_fc.trans (w_fc.up w_cpy_fc (by omega)) s_mor_fc) (s_tss_35 t _)) (by omega)
      refine q_call (M2 := 78) (rest := []) (hag) (fun _ _ => rfl) ?_
      refine q_step 3 83 [(0, .ref 34), (1, .ref 20), (2, .int (Int32.ofNat m)), (3, .int (Int32.ofNat t)), (4, .int (f_enc b)), (5, .int (Int32.ofNat c)), (6, .int (Int32.ofNat (n_hg n t m r c)))] [.int (Int8.toInt32 (Int8.ofInt (-4))), .int (f_enc b)] (q_up (s_tss 35 (n + 1) t (s_mor n (Int32.ofNat c) (Int32.ofNat m) 1 (q_up (s_cpy 35 20 g) 39 n (Int8.toInt32 (Int8.ofInt (-4)))))) 35 5 ((s_mor n (Int32.ofNat c) (Int32.ofNat m) 1 (q_up (s_cpy 35 20 g) 39 n (Int8.toInt32 (Int8.ofInt (-4))))) 35 5 + Int32.ofNat t)) u (fun big n0 => sg_ha_13 big n0 (q_up (s_tss 35 (n + 1) t (s_mor n (Int32.ofNat c) (Int32.ofNat m) 1 (q_up (s_cpy 35 20 g) 39 n (Int8.toInt32 (Int8.ofInt (-4)))))) 35 5 ((s_mor n (Int32.ofNat c) (Int32.ofNat m) 1 (q_up (s_cpy 35 20 g) 39 n (Int8.toInt32 (Int8.ofInt (-4))))) 35 5 + Int32.ofNat t)) u (Int32.ofNat m) (Int32.ofNat t) (f_enc b) (Int32.ofNat c) (Int32.ofNat (n_hg n t m r c))) ?_
      refine q_ic_eq rfl (fun (hc2 : (f_enc b) = (Int8.toInt32 (Int8.ofInt (-4)))) => ?_) (fun (hc2 : ¬ ((f_enc b) = (Int8.toInt32 (Int8.ofInt (-4))))) => ?_)
      · refine q_step 8 7 [(0, .ref 34), (1, .ref 20), (2, .int (Int32.ofNat m)), (3, .int (Int32.ofNat t)), (4, .int (((Int32.ofNat c) * (1024 : Int32)) + (Int32.ofNat (n_hg n t m r c)))), (5, .int ((Int32.ofNat c) + (1 : Int32))), (6, .int (Int32.ofNat (n_hg n t m r c)))] [] (q_up (s_tss 35 (n + 1) t (s_mor n (Int32.ofNat c) (Int32.ofNat m) 1 (q_up (s_cpy 35 20 g) 39 n (Int8.toInt32 (Int8.ofInt (-4)))))) 35 5 ((s_mor n (Int32.ofNat c) (Int32.ofNat m) 1 (q_up (s_cpy 35 20 g) 39 n (Int8.toInt32 (Int8.ofInt (-4))))) 35 5 + Int32.ofNat t)) u (fun big n0 => sg_ha_14 big n0 (q_up (s_tss 35 (n + 1) t (s_mor n (Int32.ofNat c) (Int32.ofNat m) 1 (q_up (s_cpy 35 20 g) 39 n (Int8.toInt32 (Int8.ofInt (-4)))))) 35 5 ((s_mor n (Int32.ofNat c) (Int32.ofNat m) 1 (q_up (s_cpy 35 20 g) 39 n (Int8.toInt32 (Int8.ofInt (-4))))) 35 5 + Int32.ofNat t)) u (Int32.ofNat m) (Int32.ofNat t) (f_enc b) (Int32.ofNat c) (Int32.ofNat (n_hg n t m r c))) ?_
        have eb : b = none := f_enc_none hWH hb hc2
        have e : f_h1 (p_fr n r) (n_hg n t m r) c b = (some (c, n_hg n t m r c)) := f_h1_new hc1 (fun x t e => by rw [eb] at e; cases e)
        refine q_weak [(0, .ref 34), (1, .ref 20), (2, .int (Int32.ofNat m)), (3, .int (Int32.ofNat t)), (4, .int (((Int32.ofNat c) * (1024 : Int32)) + (Int32.ofNat (n_hg n t m r c)))), (5, .int ((Int32.ofNat c) + (1 : Int32)))] (q_sub.cons rfl (q_sub.cons rfl (q_sub.cons rfl (q_sub.cons rfl (q_sub.cons rfl (q_sub.cons rfl q_sub.nil)))))) ?_
        rw [q_succ, f_hb, e, show Int32.ofNat c * (1024 : Int32) + Int32.ofNat (n_hg n t m r c) = f_enc (some (c, n_hg n t m r c)) from by rw [show (1024 : Int32) = Int32.ofNat 1024 from rfl, q_mul, q_add]; rfl]
        exact q_EV.imp (ih (c + 1) (some (c, n_hg n t m r c)) _ (by omega) (w_cs_fc hfc hc) (fun p hp => by rw [hfc 24 (by omega)]; exact hg p hp) (by rw [← e]; exact n_hok_1 hA (by omega) hb)) (fun R z => w_po_c hfc rfl z)
      · refine q_step 2 90 [(0, .ref 34), (1, .ref 20), (2, .int (Int32.ofNat m)), (3, .int (Int32.ofNat t)), (4, .int (f_enc b)), (5, .int (Int32.ofNat c)), (6, .int (Int32.ofNat (n_hg n t m r c)))] [.int (f_enc b), .int (Int32.ofNat (n_hg n t m r c))] (q_up (s_tss 35 (n + 1) t (s_mor n (Int32.ofNat c) (Int32.ofNat m) 1 (q_up (s_cpy 35 20 g) 39 n (Int8.toInt32 (Int8.ofInt (-4)))))) 35 5 ((s_mor n (Int32.ofNat c) (Int32.ofNat m) 1 (q_up (s_cpy 35 20 g) 39 n (Int8.toInt32 (Int8.ofInt (-4))))) 35 5 + Int32.ofNat t)) u (fun big n0 => sg_ha_15 big n0 (q_up (s_tss 35 (n + 1) t (s_mor n (Int32.ofNat c) (Int32.ofNat m) 1 (q_up (s_cpy 35 20 g) 39 n (Int8.toInt32 (Int8.ofInt (-4)))))) 35 5 ((s_mor n (Int32.ofNat c) (Int32.ofNat m) 1 (q_up (s_cpy 35 20 g) 39 n (Int8.toInt32 (Int8.ofInt (-4))))) 35 5 + Int32.ofNat t)) u (Int32.ofNat m) (Int32.ofNat t) (f_enc b) (Int32.ofNat c) (Int32.ofNat (n_hg n t m r c))) ?_
        obtain ⟨x, s, ebs⟩ := f_enc_some hc2
        have hxs := hb x s ebs
        have hlo := b_lo (a := x) (b := s) (q_up (s_tss 35 (n + 1) t (s_mor n (Int32.ofNat c) (Int32.ofNat m) 1 (q_up (s_cpy 35 20 g) 39 n (Int8.toInt32 (Int8.ofInt (-4)))))) 35 5 ((s_mor n (Int32.ofNat c) (Int32.ofNat m) 1 (q_up (s_cpy 35 20 g) 39 n (Int8.toInt32 (Int8.ofInt (-4))))) 35 5 + Int32.ofNat t)) u (by omega) (by omega)
        rw [show Int32.ofNat (x * 1024 + s) = f_enc b from by rw [ebs]; rfl] at hlo
        refine q_call (M2 := 88) (rest := [.int (Int32.ofNat (n_hg n t m r c))]) (hlo) (fun _ _ => rfl) ?_
        refine q_ic_le rfl (fun (hc3 : (Int32.ofNat (n_hg n t m r c)) ≤ (Int32.ofNat s)) => ?_) (fun (hc3 : ¬ ((Int32.ofNat (n_hg n t m r c)) ≤ (Int32.ofNat s))) => ?_)
        · refine q_step 2 7 [(0, .ref 34), (1, .ref 20), (2, .int (Int32.ofNat m)), (3, .int (Int32.ofNat t)), (4, .int (f_enc b)), (5, .int ((Int32.ofNat c) + (1 : Int32))), (6, .int (Int32.ofNat (n_hg n t m r c)))] [] (q_up (s_tss 35 (n + 1) t (s_mor n (Int32.ofNat c) (Int32.ofNat m) 1 (q_up (s_cpy 35 20 g) 39 n (Int8.toInt32 (Int8.ofInt (-4)))))) 35 5 ((s_mor n (Int32.ofNat c) (Int32.ofNat m) 1 (q_up (s_cpy 35 20 g) 39 n (Int8.toInt32 (Int8.ofInt (-4))))) 35 5 + Int32.ofNat t)) u (fun big n0 => sg_ha_16 big n0 (q_up (s_tss 35 (n + 1) t (s_mor n (Int32.ofNat c) (Int32.ofNat m) 1 (q_up (s_cpy 35 20 g) 39 n (Int8.toInt32 (Int8.ofInt (-4)))))) 35 5 ((s_mor n (Int32.ofNat c) (Int32.ofNat m) 1 (q_up (s_cpy 35 20 g) 39 n (Int8.toInt32 (Int8.ofInt (-4))))) 35 5 + Int32.ofNat t)) u (Int32.ofNat m) (Int32.ofNat t) (f_enc b) (Int32.ofNat c) (Int32.ofNat (n_hg n t m r c))) ?_
          have e : f_h1 (p_fr n r) (n_hg n t m r) c b = b := f_h1_old hc1 ebs (by have z := (q_le (by omega) (by omega)).mp hc3; omega)
          refine q_weak [(0, .ref 34), (1, .ref 20), (2, .int (Int32.ofNat m)), (3, .int (Int32.ofNat t)), (4, .int (f_enc b)), (5, .int ((Int32.ofNat c) + (1 : Int32)))] (q_sub.cons rfl (q_sub.cons rfl (q_sub.cons rfl (q_sub.cons rfl (q_sub.cons rfl (q_sub.cons rfl q_sub.nil)))))) ?_
          rw [q_succ, f_hb, e]
          exact q_EV.imp (ih (c + 1) b _ (by omega) (w_cs_fc hfc hc) (fun p hp => by rw [hfc 24 (by omega)]; exact hg p hp) hb) (fun R z => w_po_c hfc rfl z)
        · refine q_step 8 7 [(0, .ref 34), (1, .ref 20), (2, .int (Int32.ofNat m)), (3, .int (Int32.ofNat t)), (4, .int (((Int32.ofNat c) * (1024 : Int32)) + (Int32.ofNat (n_hg n t m r c)))), (5, .int ((Int32.ofNat c) + (1 : Int32))), (6, .int (Int32.ofNat (n_hg n t m r c)))] [] (q_up (s_tss 35 (n + 1) t (s_mor n (Int32.ofNat c) (Int32.ofNat m) 1 (q_up (s_cpy 35 20 g) 39 n (Int8.toInt32 (Int8.ofInt (-4)))))) 35 5 ((s_mor n (Int32.ofNat c) (Int32.ofNat m) 1 (q_up (s_cpy 35 20 g) 39 n (Int8.toInt32 (Int8.ofInt (-4))))) 35 5 + Int32.ofNat t)) u (fun big n0 => sg_ha_14 big n0 (q_up (s_tss 35 (n + 1) t (s_mor n (Int32.ofNat c) (Int32.ofNat m) 1 (q_up (s_cpy 35 20 g) 39 n (Int8.toInt32 (Int8.ofInt (-4)))))) 35 5 ((s_mor n (Int32.ofNat c) (Int32.ofNat m) 1 (q_up (s_cpy 35 20 g) 39 n (Int8.toInt32 (Int8.ofInt (-4))))) 35 5 + Int32.ofNat t)) u (Int32.ofNat m) (Int32.ofNat t) (f_enc b) (Int32.ofNat c) (Int32.ofNat (n_hg n t m r c))) ?_
          have e : f_h1 (p_fr n r) (n_hg n t m r) c b = (some (c, n_hg n t m r c)) := f_h1_new hc1 (fun x2 t2 e2 => by
            rw [ebs] at e2
            cases e2
            have z : ¬ n_hg n t m r c ≤ s := fun y => hc3 ((q_le (by omega) (by omega)).mpr y)
            omega)
          refine q_weak [(0, .ref 34), (1, .ref 20), (2, .int (Int32.ofNat m)), (3, .int (Int32.ofNat t)), (4, .int (((Int32.ofNat c) * (1024 : Int32)) + (Int32.ofNat (n_hg n t m r c)))), (5, .int ((Int32.ofNat c) + (1 : Int32)))] (q_sub.cons rfl (q_sub.cons rfl (q_sub.cons rfl (q_sub.cons rfl (q_sub.cons rfl (q_sub.cons rfl q_sub.nil)))))) ?_
          rw [q_succ, f_hb, e, show Int32.ofNat c * (1024 : Int32) + Int32.ofNat (n_hg n t m r c) = f_enc (some (c, n_hg n t m r c)) from by rw [show (1024 : Int32) = Int32.ofNat 1024 from rfl, q_mul, q_add]; rfl]
          exact q_EV.imp (ih (c + 1) (some (c, n_hg n t m r c)) _ (by omega) (w_cs_fc hfc hc) (fun p hp => by rw [hfc 24 (by omega)]; exact hg p hp) (by rw [← e]; exact n_hok_1 hA (by omega) hb)) (fun R z => w_po_c hfc rfl z)
theorem c_nail111 {n W H : Nat} {g r : qM} (u : qW) (h : w_ok n W H r) (hc : w_cs 20 n g r) {m t : Nat} (h5 : n ≤ 5) (hm : 1 ≤ m ∧ m ≤ 3) (ht : t ≤ 60) (hg : ∀ p, p < n → g 24 p = r 78 p) : w_BS w_fc 111 [.ref 34, .ref 20, .int (Int32.ofNat m), .int (Int32.ofNat t)] g u (.int (f_enc (f_hang n W H t m r))) := by
  refine w_bs (mm := m_111) rfl (Nat.le_of_ble_eq_true rfl) rfl ?_
  refine q_step 4 7 [(0, .ref 34), (1, .ref 20), (2, .int (Int32.ofNat m)), (3, .int (Int32.ofNat t)), (4, .int (Int8.toInt32 (Int8.ofInt (-4)))), (5, .int (0 : Int32))] [] g u (fun big n0 => sg_ha_17 big n0 g u (Int32.ofNat m) (Int32.ofNat t)) ?_
  exact bn_l u h h5 hm ht (w_WH h) (W * H) 0 none g (by omega) hc hg (fun x t e => by cases e)
theorem f_hb_ok {F A : Nat → Nat} {N : Nat} (hA : ∀ c, A c ≤ 6) : ∀ k c b, c + k = N → n_hok N b → n_hok N (f_hb F A k c b)
  | 0, _, _, _, h => h
  | k + 1, c, b, hc, h => f_hb_ok hA k (c + 1) _ (by omega) (n_hok_1 (hA c) (by omega) h)
theorem c_hang0 {n W H : Nat} {g r : qM} (u : qW) (h : w_ok n W H r) (hc : w_cs 20 n g r) {m t : Nat} (h5 : n ≤ 5) (hm : 1 ≤ m ∧ m ≤ 3) (ht : t ≤ 12) (hg : ∀ p, p < n → g 24 p = r 78 p) : w_BS w_fc 110 [.ref 8, .int (Int32.ofNat m), .int (Int32.ofNat t), .int (0 : Int32)] g u (.int (f_agw 0 (f_hang n W H t m r))) := by
  refine w_bs (mm := m_110) rfl (Nat.le_of_ble_eq_true rfl) rfl ?_
  obtain ⟨g1, u1, hb, hf⟩ := c_nail111 u h hc (m := m) (t := t) h5 hm (by omega) hg
  have hWH := w_WH h
  have hok : n_hok (W * H) (f_hang n W H t m r) := f_hb_ok (fun c => Nat.le_trans (n_at_le (n + 1) _) (by omega)) (W * H) 0 none (by omega) (fun x t e => by cases e)
  cases hF : f_hang n W H t m r with
  | none =>
    rw [hF] at hb
    refine q_step 2 2 [(0, .ref 8), (1, .int (Int32.ofNat m)), (2, .int (Int32.ofNat t)), (3, .int (0 : Int32))] [.int (1 : Int32), .int (Int32.ofNat m)] g u (fun big n0 => sg_ha_18 big n0 g u (Int32.ofNat m) (Int32.ofNat t)) ?_
    refine q_ic_lt rfl (fun hc0 => absurd (show (Int32.ofNat m) < (1 : Int32) from hc0) (fun z => absurd ((q_lt (i := m) (j := 1) (by omega) (by omega)).mp z) (by omega))) (fun (hc0 : ¬ ((Int32.ofNat m) < (1 : Int32))) => ?_)
    refine q_step 2 7 [(0, .ref 8), (1, .int (Int32.ofNat m)), (2, .int (Int32.ofNat t)), (3, .int (0 : Int32))] [.int (3 : Int32), .int (Int32.ofNat m)] g u (fun big n0 => sg_ha_19 big n0 g u (Int32.ofNat m) (Int32.ofNat t)) ?_
    refine q_ic_gt rfl (fun hc1 => absurd (show (3 : Int32) < (Int32.ofNat m) from hc1) (fun z => absurd ((q_lt (i := 3) (j := m) (by omega) (by omega)).mp z) (by omega))) (fun (hc1 : ¬ ((3 : Int32) < (Int32.ofNat m))) => ?_)
    refine q_step 1 11 [(0, .ref 8), (1, .int (Int32.ofNat m)), (2, .int (Int32.ofNat t)), (3, .int (0 : Int32))] [.int (Int32.ofNat t)] g u (fun big n0 => sg_ha_20 big n0 g u (Int32.ofNat m) (Int32.ofNat t)) ?_
    refine q_call (M2 := 90) (rest := []) (b_srch1 g u ht) (fun _ _ => rfl) ?_
    refine q_step 2 18 [(0, .ref 8), (1, .int (Int32.ofNat m)), (2, .int (Int32.ofNat t)), (3, .int (0 : Int32))] [.int (0 : Int32)] g u (fun big n0 => sg_ha_21 big n0 g u (Int32.ofNat m) (Int32.ofNat t)) ?_
    refine q_call (M2 := 57) (rest := []) (show q_BS 57 [.int (0 : Int32)] g u (some (.int 1), g, u) from b_isHalf 0 g u) (fun _ _ => rfl) ?_
    refine q_step 7 36 [(0, .ref 8), (1, .int (Int32.ofNat m)), (2, .int (Int32.ofNat t)), (3, .int (0 : Int32))] [.int (Int32.ofNat t), .int (Int32.ofNat m), .ref 20, .ref 34] g u (fun big n0 => sg_ha_22 big n0 g u (Int32.ofNat m) (Int32.ofNat t)) ?_
    refine q_call (M2 := 111) (rest := []) (hb) (fun _ _ => rfl) ?_
    refine q_ret 6 (some (.int (Int8.toInt32 (Int8.ofInt (-4)))), g1, u1) (fun _ _ => rfl) ?_
    exact ⟨g1, u1, rfl, hf⟩
  | some z =>
    obtain ⟨a, b⟩ := z
    rw [hF] at hb
    have hl := hok a b hF
    refine q_step 2 2 [(0, .ref 8), (1, .int (Int32.ofNat m)), (2, .int (Int32.ofNat t)), (3, .int (0 : Int32))] [.int (1 : Int32), .int (Int32.ofNat m)] g u (fun big n0 => sg_ha_18 big n0 g u (Int32.ofNat m) (Int32.ofNat t)) ?_
    refine q_ic_lt rfl (fun hc0 => absurd (show (Int32.ofNat m) < (1 : Int32) from hc0) (fun z => absurd ((q_lt (i := m) (j := 1) (by omega) (by omega)).mp z) (by omega))) (fun (hc0 : ¬ ((Int32.ofNat m) < (1 : Int32))) => ?_)
    refine q_step 2 7 [(0, .ref 8), (1, .int (Int32.ofNat m)), (2, .int (Int32.ofNat t)), (3, .int (0 : Int32))] [.int (3 : Int32), .int (Int32.ofNat m)] g u (fun big n0 => sg_ha_19 big n0 g u (Int32.ofNat m) (Int32.ofNat t)) ?_
    refine q_ic_gt rfl (fun hc1 => absurd (show (3 : Int32) < (Int32.ofNat m) from hc1) (fun z => absurd ((q_lt (i := 3) (j := m) (by omega) (by omega)).mp z) (by omega))) (fun (hc1 : ¬ ((3 : Int32) < (Int32.ofNat m))) => ?_)
    refine q_step 1 11 [(0, .ref 8), (1, .int (Int32.ofNat m)), (2, .int (Int32.ofNat t)), (3, .int (0 : Int32))] [.int (Int32.ofNat t)] g u (fun big n0 => sg_ha_20 big n0 g u (Int32.ofNat m) (Int32.ofNat t)) ?_
    refine q_call (M2 := 90) (rest := []) (b_srch1 g u ht) (fun _ _ => rfl) ?_
    refine q_step 2 18 [(0, .ref 8), (1, .int (Int32.ofNat m)), (2, .int (Int32.ofNat t)), (3, .int (0 : Int32))] [.int (0 : Int32)] g u (fun big n0 => sg_ha_21 big n0 g u (Int32.ofNat m) (Int32.ofNat t)) ?_
    refine q_call (M2 := 57) (rest := []) (show q_BS 57 [.int (0 : Int32)] g u (some (.int 1), g, u) from b_isHalf 0 g u) (fun _ _ => rfl) ?_
    refine q_step 7 36 [(0, .ref 8), (1, .int (Int32.ofNat m)), (2, .int (Int32.ofNat t)), (3, .int (0 : Int32))] [.int (Int32.ofNat t), .int (Int32.ofNat m), .ref 20, .ref 34] g u (fun big n0 => sg_ha_22 big n0 g u (Int32.ofNat m) (Int32.ofNat t)) ?_
    refine q_call (M2 := 111) (rest := []) (hb) (fun _ _ => rfl) ?_
    refine q_step 3 45 [(0, .ref 8), (1, .int (Int32.ofNat m)), (2, .int (Int32.ofNat t)), (3, .int (0 : Int32)), (4, .int (Int32.ofNat (a * 1024 + b)))] [.int (Int8.toInt32 (Int8.ofInt (-4))), .int (Int32.ofNat (a * 1024 + b))] g1 u1 (fun big n0 => sg_ha_23 big n0 g1 u1 (Int32.ofNat m) (Int32.ofNat t) (Int32.ofNat (a * 1024 + b))) ?_
    refine q_ic_ne rfl (fun hc2 => absurd (show (Int32.ofNat (a * 1024 + b)) = (Int8.toInt32 (Int8.ofInt (-4))) from hc2) (q_none_ne (by omega))) (fun (hc2 : ¬ ((Int32.ofNat (a * 1024 + b)) = (Int8.toInt32 (Int8.ofInt (-4))))) => ?_)
    refine q_step 3 57 [(0, .ref 8), (1, .int (Int32.ofNat m)), (2, .int (Int32.ofNat t)), (3, .int (0 : Int32)), (4, .int (Int32.ofNat (a * 1024 + b)))] [.int (Int32.ofNat (a * 1024 + b))] g1 u1 (fun big n0 => sg_ha_24 big n0 g1 u1 (Int32.ofNat m) (Int32.ofNat t) (Int32.ofNat (a * 1024 + b))) ?_
    refine q_call (M2 := 87) (rest := []) (b_up g1 u1 (by omega) (by omega)) (fun _ _ => rfl) ?_
    refine q_ret 2 (some (.int (Int32.ofNat a)), g1, u1) (fun _ _ => rfl) ?_
    exact ⟨g1, u1, rfl, hf⟩
theorem c_hang1 {n W H : Nat} {g r : qM} (u : qW) (h : w_ok n W H r) (hc : w_cs 20 n g r) {m t : Nat} (h5 : n ≤ 5) (hm : 1 ≤ m ∧ m ≤ 3) (ht : t ≤ 12) (hg : ∀ p, p < n → g 24 p = r 78 p) : w_BS w_fc 110 [.ref 8, .int (Int32.ofNat m), .int (Int32.ofNat t), .int (1 : Int32)] g u (.int (f_agw 1 (f_hang n W H t m r))) := by
  refine w_bs (mm := m_110) rfl (Nat.le_of_ble_eq_true rfl) rfl ?_
  obtain ⟨g1, u1, hb, hf⟩ := c_nail111 u h hc (m := m) (t := t) h5 hm (by omega) hg
  have hWH := w_WH h
  have hok : n_hok (W * H) (f_hang n W H t m r) := f_hb_ok (fun c => Nat.le_trans (n_at_le (n + 1) _) (by omega)) (W * H) 0 none (by omega) (fun x t e => by cases e)
  cases hF : f_hang n W H t m r with
  | none =>
    rw [hF] at hb
    refine q_step 2 2 [(0, .ref 8), (1, .int (Int32.ofNat m)), (2, .int (Int32.ofNat t)), (3, .int (1 : Int32))] [.int (1 : Int32), .int (Int32.ofNat m)] g u (fun big n0 => sg_ha_25 big n0 g u (Int32.ofNat m) (Int32.ofNat t)) ?_
    refine q_ic_lt rfl (fun hc0 => absurd (show (Int32.ofNat m) < (1 : Int32) from hc0) (fun z => absurd ((q_lt (i := m) (j := 1) (by omega) (by omega)).mp z) (by omega))) (fun (hc0 : ¬ ((Int32.ofNat m) < (1 : Int32))) => ?_)
    refine q_step 2 7 [(0, .ref 8), (1, .int (Int32.ofNat m)), (2, .int (Int32.ofNat t)), (3, .int (1 : Int32))] [.int (3 : Int32), .int (Int32.ofNat m)] g u (fun big n0 => sg_ha_26 big n0 g u (Int32.ofNat m) (Int32.ofNat t)) ?_
    refine q_ic_gt rfl (fun hc1 => absurd (show (3 : Int32) < (Int32.ofNat m) from hc1) (fun z => absurd ((q_lt (i := 3) (j := m) (by omega) (by omega)).mp z) (by omega))) (fun (hc1 : ¬ ((3 : Int32) < (Int32.ofNat m))) => ?_)
    refine q_step 1 11 [(0, .ref 8), (1, .int (Int32.ofNat m)), (2, .int (Int32.ofNat t)), (3, .int (1 : Int32))] [.int (Int32.ofNat t)] g u (fun big n0 => sg_ha_27 big n0 g u (Int32.ofNat m) (Int32.ofNat t)) ?_
    refine q_call (M2 := 90) (rest := []) (b_srch1 g u ht) (fun _ _ => rfl) ?_
    refine q_step 2 18 [(0, .ref 8), (1, .int (Int32.ofNat m)), (2, .int (Int32.ofNat t)), (3, .int (1 : Int32))] [.int (1 : Int32)] g u (fun big n0 => sg_ha_28 big n0 g u (Int32.ofNat m) (Int32.ofNat t)) ?_
    refine q_call (M2 := 57) (rest := []) (show q_BS 57 [.int (1 : Int32)] g u (some (.int 1), g, u) from b_isHalf 1 g u) (fun _ _ => rfl) ?_
    refine q_step 7 36 [(0, .ref 8), (1, .int (Int32.ofNat m)), (2, .int (Int32.ofNat t)), (3, .int (1 : Int32))] [.int (Int32.ofNat t), .int (Int32.ofNat m), .ref 20, .ref 34] g u (fun big n0 => sg_ha_29 big n0 g u (Int32.ofNat m) (Int32.ofNat t)) ?_
    refine q_call (M2 := 111) (rest := []) (hb) (fun _ _ => rfl) ?_
    refine q_ret 6 (some (.int (Int8.toInt32 (Int8.ofInt (-4)))), g1, u1) (fun _ _ => rfl) ?_
    exact ⟨g1, u1, rfl, hf⟩
  | some z =>
    obtain ⟨a, b⟩ := z
    rw [hF] at hb
    have hl := hok a b hF
    refine q_step 2 2 [(0, .ref 8), (1, .int (Int32.ofNat m)), (2, .int (Int32.ofNat t)), (3, .int (1 : Int32))] [.int (1 : Int32), .int (Int32.ofNat m)] g u (fun big n0 => sg_ha_25 big n0 g u (Int32.ofNat m) (Int32.ofNat t)) ?_
    refine q_ic_lt rfl (fun hc0 => absurd (show (Int32.ofNat m) < (1 : Int32) from hc0) (fun z => absurd ((q_lt (i := m) (j := 1) (by omega) (by omega)).mp z) (by omega))) (fun (hc0 : ¬ ((Int32.ofNat m) < (1 : Int32))) => ?_)
    refine q_step 2 7 [(0, .ref 8), (1, .int (Int32.ofNat m)), (2, .int (Int32.ofNat t)), (3, .int (1 : Int32))] [.int (3 : Int32), .int (Int32.ofNat m)] g u (fun big n0 => sg_ha_26 big n0 g u (Int32.ofNat m) (Int32.ofNat t)) ?_
    refine q_ic_gt rfl (fun hc1 => absurd (show (3 : Int32) < (Int32.ofNat m) from hc1) (fun z => absurd ((q_lt (i := 3) (j := m) (by omega) (by omega)).mp z) (by omega))) (fun (hc1 : ¬ ((3 : Int32) < (Int32.ofNat m))) => ?_)
    refine q_step 1 11 [(0, .ref 8), (1, .int (Int32.ofNat m)), (2, .int (Int32.ofNat t)), (3, .int (1 : Int32))] [.int (Int32.ofNat t)] g u (fun big n0 => sg_ha_27 big n0 g u (Int32.ofNat m) (Int32.ofNat t)) ?_
    refine q_call (M2 := 90) (rest := []) (b_srch1 g u ht) (fun _ _ => rfl) ?_
    refine q_step 2 18 [(0, .ref 8), (1, .int (Int32.ofNat m)), (2, .int (Int32.ofNat t)), (3, .int (1 : Int32))] [.int (1 : Int32)] g u (fun big n0 => sg_ha_28 big n0 g u (Int32.ofNat m) (Int32.ofNat t)) ?_
    refine q_call (M2 := 57) (rest := []) (show q_BS 57 [.int (1 : Int32)] g u (some (.int 1), g, u) from b_isHalf 1 g u) (fun _ _ => rfl) ?_
    refine q_step 7 36 [(0, .ref 8), (1, .int (Int32.ofNat m)), (2, .int (Int32.ofNat t)), (3, .int (1 : Int32))] [.int (Int32.ofNat t), .int (Int32.ofNat m), .ref 20, .ref 34] g u (fun big n0 => sg_ha_29 big n0 g u (Int32.ofNat m) (Int32.ofNat t)) ?_
    refine q_call (M2 := 111) (rest := []) (hb) (fun _ _ => rfl) ?_
    refine q_step 3 45 [(0, .ref 8), (1, .int (Int32.ofNat m)), (2, .int (Int32.ofNat t)), (3, .int (1 : Int32)), (4, .int (Int32.ofNat (a * 1024 + b)))] [.int (Int8.toInt32 (Int8.ofInt (-4))), .int (Int32.ofNat (a * 1024 + b))] g1 u1 (fun big n0 => sg_ha_30 big n0 g1 u1 (Int32.ofNat m) (Int32.ofNat t) (Int32.ofNat (a * 1024 + b))) ?_
    refine q_ic_ne rfl (fun hc2 => absurd (show (Int32.ofNat (a * 1024 + b)) = (Int8.toInt32 (Int8.ofInt (-4))) from hc2) (q_none_ne (by omega))) (fun (hc2 : ¬ ((Int32.ofNat (a * 1024 + b)) = (Int8.toInt32 (Int8.ofInt (-4))))) => ?_)
    refine q_step 3 65 [(0, .ref 8), (1, .int (Int32.ofNat m)), (2, .int (Int32.ofNat t)), (3, .int (1 : Int32)), (4, .int (Int32.ofNat (a * 1024 + b)))] [.int (Int32.ofNat (a * 1024 + b))] g1 u1 (fun big n0 => sg_ha_31 big n0 g1 u1 (Int32.ofNat m) (Int32.ofNat t) (Int32.ofNat (a * 1024 + b))) ?_
    refine q_call (M2 := 88) (rest := []) (b_lo g1 u1 (by omega) (by omega)) (fun _ _ => rfl) ?_
    refine q_ret 1 (some (.int (Int32.ofNat b)), g1, u1) (fun _ _ => rfl) ?_
    exact ⟨g1, u1, rfl, hf⟩
theorem rhg_0 (u : qW) {n m : Nat} (h6 : n ≤ 6) (hm : m ≤ 60) {k1 k6 : Nat} {x4 x5 : Int32} {Q : Option Value × qM × qW → Prop} : ∀ k i g, i + k = m → g 70 27 = Int32.ofNat n → g 70 2 ≠ 0 → q_EV m_209 156 [(0, .ref 70), (1, .int (Int32.ofNat k1)), (2, .int (Int32.ofNat m)), (3, .int (0 : Int32)), (4, .int x4), (5, .int x5), (6, .int (Int32.ofNat k6)), (7, .int (Int32.ofNat m))] [] (s_rit n k g) u Q → q_EV m_209 139 [(0, .ref 70), (1, .int (Int32.ofNat k1)), (2, .int (Int32.ofNat m)), (3, .int (0 : Int32)), (4, .int x4), (5, .int x5), (6, .int (Int32.ofNat k6)), (7, .int (Int32.ofNat i))] [] g u Q := by
  intro k
  induction k with
  | zero =>
    intro i g hi hn hw hk
    have e : i = m := by omega
    subst e
    refine q_step 2 142 [(0, .ref 70), (1, .int (Int32.ofNat k1)), (2, .int (Int32.ofNat i)), (3, .int (0 : Int32)), (4, .int x4), (5, .int x5), (6, .int (Int32.ofNat k6)), (7, .int (Int32.ofNat i))] [.int (Int32.ofNat i), .int (Int32.ofNat i)] g u (fun big n0 => sg_ha_32 big n0 g u (Int32.ofNat k1) (Int32.ofNat i) x4 x5 (Int32.ofNat k6) (Int32.ofNat i)) ?_
    refine q_ic_ge rfl (fun (hc0 : (Int32.ofNat i) ≤ (Int32.ofNat i)) => ?_) (fun hc0 => absurd (show (Int32.ofNat i) ≤ (Int32.ofNat i) from (q_le (by omega) (by omega)).mpr (by omega)) hc0)
    exact hk
  | succ k ih =>
    intro i g hi hn hw hk
    refine q_step 2 142 [(0, .ref 70), (1, .int (Int32.ofNat k1)), (2, .int (Int32.ofNat m)), (3, .int (0 : Int32)), (4, .int x4), (5, .int x5), (6, .int (Int32.ofNat k6)), (7, .int (Int32.ofNat i))] [.int (Int32.ofNat m), .int (Int32.ofNat i)] g u (fun big n0 => sg_ha_32 big n0 g u (Int32.ofNat k1) (Int32.ofNat m) x4 x5 (Int32.ofNat k6) (Int32.ofNat i)) ?_
    refine q_ic_ge rfl (fun hc0 => absurd (show (Int32.ofNat m) ≤ (Int32.ofNat i) from hc0) (fun z => absurd ((q_le (by omega) (by omega)).mp z) (by omega))) (fun (hc0 : ¬ ((Int32.ofNat m) ≤ (Int32.ofNat i))) => ?_)
    refine q_step 1 146 [(0, .ref 70), (1, .int (Int32.ofNat k1)), (2, .int (Int32.ofNat m)), (3, .int (0 : Int32)), (4, .int x4), (5, .int x5), (6, .int (Int32.ofNat k6)), (7, .int (Int32.ofNat i))] [.ref 70] g u (fun big n0 => sg_ha_33 big n0 g u (Int32.ofNat k1) (Int32.ofNat m) x4 x5 (Int32.ofNat k6) (Int32.ofNat i)) ?_
    refine q_call (M2 := 191) (rest := []) (b_rsteps g u hn h6 hw) (fun _ _ => rfl) ?_
    refine q_step 3 139 [(0, .ref 70), (1, .int (Int32.ofNat k1)), (2, .int (Int32.ofNat m)), (3, .int (0 : Int32)), (4, .int x4), (5, .int x5), (6, .int (Int32.ofNat k6)), (7, .int ((Int32.ofNat i) + (1 : Int32)))] [] (s_rst n g) u (fun big n0 => sg_ha_34 big n0 (s_rst n g) u (Int32.ofNat k1) (Int32.ofNat m) x4 x5 (Int32.ofNat k6) (Int32.ofNat i) (s_ran n g)) ?_
    rw [q_succ]
    exact ih (i + 1) (s_rst n g) (by omega) (by rw [s_rst_g (by omega)]; exact hn) (by rw [s_rst_g (by omega)]; exact hw) hk
theorem rh_0 (u : qW) {n W H m t : Nat} {r : qM} (h : w_ok n W H r) (h5 : n ≤ 5) (hm : 1 ≤ m ∧ m ≤ 3) (ht : t ≤ 60) (hWH : W * H ≤ 25) : ∀ k c b g, c + k = W * H → w_sm n (s_start g) r → (∀ p, p < n → g 71 (15 + p) = r 78 p) → n_hok (W * H) b → q_EV m_209 46 [(0, .ref 70), (1, .int (Int32.ofNat m)), (2, .int (Int32.ofNat t)), (3, .int (0 : Int32)), (4, .int (e_hm b)), (5, .int (e_hf b)), (6, .int (Int32.ofNat c))] [] g u (w_po w_fr g (.int (f_agw 0 (f_hb (p_fr n r) (n_hg n t m r) k c b)))) := by
  intro k
  induction k with
  | zero =>
    intro c b g hi hs hg hb
    have hz2 : g 70 2 * g 70 3 = Int32.ofNat (W * H) := by
      have e1 : g 70 2 = r 70 2 := hs.1.2.1
      have e2 : g 70 3 = r 70 3 := hs.1.2.2.1
      rw [e1, e2, w_size h]
    have h4 : (s_start g) 70 4 = Int32.ofNat n := (show g 70 4 = Int32.ofNat n from w_pl h hs)
    refine q_step 6 57 [(0, .ref 70), (1, .int (Int32.ofNat m)), (2, .int (Int32.ofNat t)), (3, .int (0 : Int32)), (4, .int (e_hm b)), (5, .int (e_hf b)), (6, .int (Int32.ofNat c))] [.int ((g 70 2) * (g 70 3)), .int (Int32.ofNat c)] g u (fun big n0 => sg_ha_35 big n0 g u (Int32.ofNat m) (Int32.ofNat t) (e_hm b) (e_hf b) (Int32.ofNat c)) ?_
    refine q_ic_ge rfl (fun (hc0 : ((g 70 2) * (g 70 3)) ≤ (Int32.ofNat c)) => ?_) (fun hc0 => absurd (show ((g 70 2) * (g 70 3)) ≤ (Int32.ofNat c) from by rw [hz2]; exact (q_le (by omega) (by omega)).mpr (by omega)) hc0)
    cases b with
    | none => 
      refine q_ret 6 (some (.int (Int8.toInt32 (Int8.ofInt (-4)))), g, u) (fun _ _ => rfl) ?_
      exact ⟨g, u, rfl, w_fr_rfl g⟩
    | some z => 
      obtain ⟨x, s⟩ := z
      have hbx := hb x s rfl
      refine q_step 2 204 [(0, .ref 70), (1, .int (Int32.ofNat m)), (2, .int (Int32.ofNat t)), (3, .int (0 : Int32)), (4, .int (Int32.ofNat s)), (5, .int (Int32.ofNat x)), (6, .int (Int32.ofNat c))] [.int (Int8.toInt32 (Int8.ofInt (-4))), .int (Int32.ofNat x)] g u (fun big n0 => sg_ha_36 big n0 g u (Int32.ofNat m) (Int32.ofNat t) (Int32.ofNat s) (Int32.ofNat x) (Int32.ofNat c)) ?_
      refine q_ic_ne rfl (fun hc0 => absurd (show (Int32.ofNat x) = (Int8.toInt32 (Int8.ofInt (-4))) from hc0) (q_none_ne (by omega))) (fun (hc0 : ¬ ((Int32.ofNat x) = (Int8.toInt32 (Int8.ofInt (-4))))) => ?_)
      refine q_ret 5 (some (.int (Int32.ofNat x)), g, u) (fun _ _ => rfl) ?_
      exact ⟨g, u, rfl, w_fr_rfl g⟩
  | succ k ih =>
    intro c b g hi hs hg hb
    have hz2 : g 70 2 * g 70 3 = Int32.ofNat (W * H) := by
      have e1 : g 70 2 = r 70 2 := hs.1.2.1
      have e2 : g 70 3 = r 70 3 := hs.1.2.2.1
      rw [e1, e2, w_size h]
    have h4 : (s_start g) 70 4 = Int32.ofNat n := (show g 70 4 = Int32.ofNat n from w_pl h hs)
    refine q_step 6 57 [(0, .ref 70), (1, .int (Int32.ofNat m)), (2, .int (Int32.ofNat t)), (3, .int (0 : Int32)), (4, .int (e_hm b)), (5, .int (e_hf b)), (6, .int (Int32.ofNat c))] [.int ((g 70 2) * (g 70 3)), .int (Int32.ofNat c)] g u (fun big n0 => sg_ha_35 big n0 g u (Int32.ofNat m) (Int32.ofNat t) (e_hm b) (e_hf b) (Int32.ofNat c)) ?_
    refine q_ic_ge rfl (fun hc0 => absurd (show ((g 70 2) * (g 70 3)) ≤ (Int32.ofNat c) from hc0) (fun z => by rw [hz2] at z; exact absurd ((q_le (by omega) (by omega)).mp z) (by omega))) (fun (hc0 : ¬ (((g 70 2) * (g 70 3)) ≤ (Int32.ofNat c))) => ?_)
    refine q_step 1 61 [(0, .ref 70), (1, .int (Int32.ofNat m)), (2, .int (Int32.ofNat t)), (3, .int (0 : Int32)), (4, .int (e_hm b)), (5, .int (e_hf b)), (6, .int (Int32.ofNat c))] [.ref 70] g u (fun big n0 => sg_ha_37 big n0 g u (Int32.ofNat m) (Int32.ofNat t) (e_hm b) (e_hf b) (Int32.ofNat c)) ?_
    refine q_call (M2 := 172) (rest := []) (b_starts g u) (fun _ _ => rfl) ?_
    refine q_step 2 67 [(0, .ref 70), (1, .int (Int32.ofNat m)), (2, .int (Int32.ofNat t)), (3, .int (0 : Int32)), (4, .int (e_hm b)), (5, .int (e_hf b)), (6, .int (Int32.ofNat c))] [.int (Int32.ofNat c), .ref 70] (s_start g) u (fun big n0 => sg_ha_38 big n0 (s_start g) u (Int32.ofNat m) (Int32.ofNat t) (e_hm b) (e_hf b) (Int32.ofNat c)) ?_
    refine q_call (M2 := 177) (rest := []) (b_open (Int32.ofNat c) (s_start g) u) (fun _ _ => rfl) ?_
    refine q_if_eq rfl (fun (hc1 : (s_op ((s_start g) 71 20) (Int32.ofNat c)) = 0) => ?_) (fun (hc1 : ¬ ((s_op ((s_start g) 71 20) (Int32.ofNat c)) = 0)) => ?_)
    · refine q_step 2 46 [(0, .ref 70), (1, .int (Int32.ofNat m)), (2, .int (Int32.ofNat t)), (3, .int (0 : Int32)), (4, .int (e_hm b)), (5, .int (e_hf b)), (6, .int ((Int32.ofNat c) + (1 : Int32)))] [] (s_start g) u (fun big n0 => sg_ha_39 big n0 (s_start g) u (Int32.ofNat m) (Int32.ofNat t) (e_hm b) (e_hf b) (Int32.ofNat c)) ?_
      have hop0 : ¬ s_bit (r 71 20) (Int32.ofNat c) = 0 := fun z => by
        have q := hc1
        rw [show (s_start g) 71 20 = r 71 20 from hs.1.2.2.2.1] at q
        unfold s_op at q
        rw [if_neg (s_none_ne (by omega)), if_pos z] at q
        exact absurd q (by decide)
      have e : f_h1 (p_fr n r) (n_hg n t m r) c b = b := f_h1_no (Classical.byContradiction (fun y => (fun z => hop0 z.1) (p_fr_iff.mp y)))
      rw [q_succ, f_hb, e]
      exact q_EV.imp (ih (c + 1) b (s_start g) (by omega) (w_st_sm s_start_fr h5 hs) (fun p hp => by rw [s_start_fr.1 71 (by omega)]; exact hg p hp) hb) (fun R z => w_po_r s_start_fr rfl z)
    · refine q_step 2 76 [(0, .ref 70), (1, .int (Int32.ofNat m)), (2, .int (Int32.ofNat t)), (3, .int (0 : Int32)), (4, .int (e_hm b)), (5, .int (e_hf b)), (6, .int (Int32.ofNat c))] [.int (Int32.ofNat c), .ref 70] (s_start g) u (fun big n0 => sg_ha_40 big n0 (s_start g) u (Int32.ofNat m) (Int32.ofNat t) (e_hm b) (e_hf b) (Int32.ofNat c)) ?_
      have hwho := b_rwho (s_start g) u (Int32.ofNat c) (w_w0 h hs).1 (w_w0 h hs).2.1
      rw [w_who_r h hs] at hwho
      refine q_call (M2 := 173) (rest := []) (hwho) (fun _ _ => rfl) ?_
      refine q_step 1 81 [(0, .ref 70), (1, .int (Int32.ofNat m)), (2, .int (Int32.ofNat t)), (3, .int (0 : Int32)), (4, .int (e_hm b)), (5, .int (e_hf b)), (6, .int (Int32.ofNat c))] [.int (Int8.toInt32 (Int8.ofInt (-4))), .int (f_who n r (Int32.ofNat c))] (s_start g) u (fun big n0 => sg_ha_41 big n0 (s_start g) u (Int32.ofNat m) (Int32.ofNat t) (e_hm b) (e_hf b) (Int32.ofNat c) (f_who n r (Int32.ofNat c))) ?_
      refine q_ic_ne rfl (fun (hc2 : (f_who n r (Int32.ofNat c)) = (Int8.toInt32 (Int8.ofInt (-4)))) => ?_) (fun (hc2 : ¬ ((f_who n r (Int32.ofNat c)) = (Int8.toInt32 (Int8.ofInt (-4))))) => ?_)
      · refine q_step 5 94 [(0, .ref 70), (1, .int (Int32.ofNat m)), (2, .int (Int32.ofNat t)), (3, .int (0 : Int32)), (4, .int (e_hm b)), (5, .int (e_hf b)), (6, .int (Int32.ofNat c))] [.int (Int32.ofNat c), .int ((s_start g) 70 4), .ref 75] (s_start g) u (fun big n0 => sg_ha_42 big n0 (s_start g) u (Int32.ofNat m) (Int32.ofNat t) (e_hm b) (e_hf b) (Int32.ofNat c)) ?_
        refine q_iast (j := n) (by rw [h4]; exact q_ixn (by omega) (by omega)) rfl rfl ?_
        refine q_step 5 104 [(0, .ref 70), (1, .int (Int32.ofNat m)), (2, .int (Int32.ofNat t)), (3, .int (0 : Int32)), (4, .int (e_hm b)), (5, .int (e_hf b)), (6, .int (Int32.ofNat c))] [.int (Int32.ofNat m), .int ((s_start g) 70 4), .ref 76] (q_up (s_start g) 75 n (Int32.ofNat c)) u (fun big n0 => sg_ha_43 big n0 (q_up (s_start g) 75 n (Int32.ofNat c)) u (Int32.ofNat m) (Int32.ofNat t) (e_hm b) (e_hf b) (Int32.ofNat c)) ?_
        refine q_iast (j := n) (by rw [h4]; exact q_ixn (by omega) (by omega)) rfl rfl ?_
        refine q_step 5 114 [(0, .ref 70), (1, .int (Int32.ofNat m)), (2, .int (Int32.ofNat t)), (3, .int (0 : Int32)), (4, .int (e_hm b)), (5, .int (e_hf b)), (6, .int (Int32.ofNat c))] [.int (1 : Int32), .int ((s_start g) 70 4), .ref 77] (q_up (q_up (s_start g) 75 n (Int32.ofNat c)) 76 n (Int32.ofNat m)) u (fun big n0 => sg_ha_44 big n0 (q_up (q_up (s_start g) 75 n (Int32.ofNat c)) 76 n (Int32.ofNat m)) u (Int32.ofNat m) (Int32.ofNat t) (e_hm b) (e_hf b) (Int32.ofNat c)) ?_
        refine q_iast (j := n) (by rw [h4]; exact q_ixn (by omega) (by omega)) rfl rfl ?_
        refine q_step 5 125 [(0, .ref 70), (1, .int (Int32.ofNat m)), (2, .int (Int32.ofNat t)), (3, .int (0 : Int32)), (4, .int (e_hm b)), (5, .int (e_hf b)), (6, .int (Int32.ofNat c))] [.int (Int8.toInt32 (Int8.ofInt (-4))), .int ((s_start g) 70 4), .ref 78] (q_up (q_up (q_up (s_start g) 75 n (Int32.ofNat c)) 76 n (Int32.ofNat m)) 77 n (1 : Int32)) u (fun big n0 => sg_ha_45 big n0 (q_up (q_up (q_up (s_start g) 75 n (Int32.ofNat c)) 76 n (Int32.ofNat m)) 77 n (1 : Int32)) u (Int32.ofNat m) (Int32.ofNat t) (e_hm b) (e_hf b) (Int32.ofNat c)) ?_
        refine q_iast (j := n) (by rw [h4]; exact q_ixn (by omega) (by omega)) rfl rfl ?_
        refine q_step 8 139 [(0, .ref 70), (1, .int (Int32.ofNat m)), (2, .int (Int32.ofNat t)), (3, .int (0 : Int32)), (4, .int (e_hm b)), (5, .int (e_hf b)), (6, .int (Int32.ofNat c)), (7, .int (0 : Int32))] [] (q_up (q_up (q_up (q_up (q_up (s_start g) 75 n (Int32.ofNat c)) 76 n (Int32.ofNat m)) 77 n (1 : Int32)) 78 n (Int8.toInt32 (Int8.ofInt (-4)))) 70 27 (((s_start g) 70 4) + (1 : Int32))) u (fun big n0 => sg_ha_46 big n0 (q_up (q_up (q_up (q_up (s_start g) 75 n (Int32.ofNat c)) 76 n (Int32.ofNat m)) 77 n (1 : Int32)) 78 n (Int8.toInt32 (Int8.ofInt (-4)))) u (Int32.ofNat m) (Int32.ofNat t) (e_hm b) (e_hf b) (Int32.ofNat c)) ?_
        rw [show (q_up (q_up (q_up (q_up (q_up (s_start g) 75 n (Int32.ofNat c)) 76 n (Int32.ofNat m)) 77 n (1 : Int32)) 78 n (Int8.toInt32 (Int8.ofInt (-4)))) 70 27 (((s_start g) 70 4) + (1 : Int32))) = (q_up (q_up (q_up (q_up (q_up (s_start g) 75 n (Int32.ofNat c)) 76 n (Int32.ofNat m)) 77 n (1 : Int32)) 78 n (Int8.toInt32 (Int8.ofInt (-4)))) 70 27 ((s_start g) 70 4 + (1 : Int32))) from rfl]
        have hbit : s_bit (r 71 20) (Int32.ofNat c) = 0 := by
          have q := hc1
          rw [show (s_start g) 71 20 = r 71 20 from hs.1.2.2.2.1] at q
          unfold s_op at q
          rw [if_neg (s_none_ne (by omega))] at q
          by_cases z : s_bit (r 71 20) (Int32.ofNat c) = 0
          · exact z
          · rw [if_neg z] at q
            exact absurd rfl q
        have hfr := p_fr_iff.mpr ⟨hbit, hc2⟩
        have hok := w_ok_ha (c := c) (m := m) h h5 (by omega) hbit hc2 hm
        have hsm := w_sm_ha (c := c) (m := m) h4 hs
        have hf : w_fr g (s_rit (n + 1) t (q_up (q_up (q_up (q_up (q_up (s_start g) 75 n (Int32.ofNat c)) 76 n (Int32.ofNat m)) 77 n (1 : Int32)) 78 n (Int8.toInt32 (Int8.ofInt (-4)))) 70 27 ((s_start g) 70 4 + (1 : Int32)))) := ((((((s_start_fr (g := g)).up (by omega)).up (by omega)).up (by omega)).up (by omega)).up27).trans (w_rit_fr t _)
        have hA : n_hg n t m r c ≤ 6 := Nat.le_trans (n_at_le (n + 1) _) (by omega)
        refine rhg_0 u (n := n + 1) (by omega) ht t 0 (q_up (q_up (q_up (q_up (q_up (s_start g) 75 n (Int32.ofNat c)) 76 n (Int32.ofNat m)) 77 n (1 : Int32)) 78 n (Int8.toInt32 (Int8.ofInt (-4)))) 70 27 ((s_start g) 70 4 + (1 : Int32))) (by omega) (w_w0 hok hsm).1 (w_w0 hok hsm).2.2 ?_
        have hag := b_ratg (s_rit (n + 1) t (q_up (q_up (q_up (q_up (q_up (s_start g) 75 n (Int32.ofNat c)) 76 n (Int32.ofNat m)) 77 n (1 : Int32)) 78 n (Int8.toInt32 (Int8.ofInt (-4)))) 70 27 ((s_start g) 70 4 + (1 : Int32)))) u (n := n + 1) (by rw [s_rit_g (by omega)]; exact (w_w0 hok hsm).1) (by omega)
        rw [show s_ct (fun p => if (s_rit (n + 1) t (q_up (q_up (q_up (q_up (q_up (s_start g) 75 n (Int32.ofNat c)) 76 n (Int32.ofNat m)) 77 n (1 : Int32)) 78 n (Int8.toInt32 (Int8.ofInt (-4)))) 70 27 ((s_start g) 70 4 + (1 : Int32)))) 78 p = i_none then (0 : Int32) else if (s_rit (n + 1) t (q_up (q_up (q_up (q_up (q_up (s_start g) 75 n (Int32.ofNat c)) 76 n (Int32.ofNat m)) 77 n (1 : Int32)) 78 n (Int8.toInt32 (Int8.ofInt (-4)))) 70 27 ((s_start g) 70 4 + (1 : Int32)))) 75 p = (s_rit (n + 1) t (q_up (q_up (q_up (q_up (q_up (s_start g) 75 n (Int32.ofNat c)) 76 n (Int32.ofNat m)) 77 n (1 : Int32)) 78 n (Int8.toInt32 (Int8.ofInt (-4)))) 70 27 ((s_start g) 70 4 + (1 : Int32)))) 78 p then 1 else 0) (n + 1) 0 0 = f_at (n + 1) (s_rit (n + 1) t (gh_ha n c m r)) from w_at_r (w_sm_rit t _ _ hok hsm) (fun p hp => by
          rw [s_rit_g (by omega), s_rit_g (by omega), gh_ha_78, q_up_ne (by omega), q_up_at]
          split
          · rfl
          · rw [q_up_ne (by omega), q_up_ne (by omega), q_up_ne (by omega), w_st78 h5 (by omega)]
            exact hg p (by omega)), f_at_n] at hag
        refine q_step 1 157 [(0, .ref 70), (1, .int (Int32.ofNat m)), (2, .int (Int32.ofNat t)), (3, .int (0 : Int32)), (4, .int (e_hm b)), (5, .int (e_hf b)), (6, .int (Int32.ofNat c)), (7, .int (Int32.ofNat t))] [.ref 70] (s_rit (n + 1) t (q_up (q_up (q_up (q_up (q_up (s_start g) 75 n (Int32.ofNat c)) 76 n (Int32.ofNat m)) 77 n (1 : Int32)) 78 n (Int8.toInt32 (Int8.ofInt (-4)))) 70 27 ((s_start g) 70 4 + (1 : Int32)))) u (fun big n0 => sg_ha_47 big n0 (s_rit (n + 1) t (q_up (q_up (q_up (q_up (q_up (s_start g) 75 n (Int32.ofNat c)) 76 n (Int32.ofNat m)) 77 n (1 : Int32)) 78 n (Int8.toInt32 (Int8.ofInt (-4)))) 70 27 ((s_start g) 70 4 + (1 : Int32)))) u (Int32.ofNat m) (Int32.ofNat t) (e_hm b) (e_hf b) (Int32.ofNat c) (Int32.ofNat t)) ?_
        refine q_call (M2 := 197) (rest := []) (hag) (fun _ _ => rfl) ?_
        refine q_step 1 162 [(0, .ref 70), (1, .int (Int32.ofNat m)), (2, .int (Int32.ofNat t)), (3, .int (0 : Int32)), (4, .int (e_hm b)), (5, .int (e_hf b)), (6, .int (Int32.ofNat c)), (7, .int (Int32.ofNat t))] [.int (e_hm b), .int (Int32.ofNat (n_hg n t m r c))] (s_rit (n + 1) t (q_up (q_up (q_up (q_up (q_up (s_start g) 75 n (Int32.ofNat c)) 76 n (Int32.ofNat m)) 77 n (1 : Int32)) 78 n (Int8.toInt32 (Int8.ofInt (-4)))) 70 27 ((s_start g) 70 4 + (1 : Int32)))) u (fun big n0 => sg_ha_48 big n0 (s_rit (n + 1) t (q_up (q_up (q_up (q_up (q_up (s_start g) 75 n (Int32.ofNat c)) 76 n (Int32.ofNat m)) 77 n (1 : Int32)) 78 n (Int8.toInt32 (Int8.ofInt (-4)))) 70 27 ((s_start g) 70 4 + (1 : Int32)))) u (Int32.ofNat m) (Int32.ofNat t) (e_hm b) (e_hf b) (Int32.ofNat c) (Int32.ofNat t) (Int32.ofNat (n_hg n t m r c))) ?_
        refine q_ic_le rfl (fun (hc0 : (Int32.ofNat (n_hg n t m r c)) ≤ (e_hm b)) => ?_) (fun (hc0 : ¬ ((Int32.ofNat (n_hg n t m r c)) ≤ (e_hm b))) => ?_)
        · refine q_step 3 175 [(0, .ref 70), (1, .int (Int32.ofNat m)), (2, .int (Int32.ofNat t)), (3, .int (0 : Int32)), (4, .int (e_hm b)), (5, .int (e_hf b)), (6, .int (Int32.ofNat c)), (7, .int (Int32.ofNat t))] [.ref 70] (s_rit (n + 1) t (q_up (q_up (q_up (q_up (q_up (s_start g) 75 n (Int32.ofNat c)) 76 n (Int32.ofNat m)) 77 n (1 : Int32)) 78 n (Int8.toInt32 (Int8.ofInt (-4)))) 70 27 ((s_start g) 70 4 + (1 : Int32)))) u (fun big n0 => sg_ha_49 big n0 (s_rit (n + 1) t (q_up (q_up (q_up (q_up (q_up (s_start g) 75 n (Int32.ofNat c)) 76 n (Int32.ofNat m)) 77 n (1 : Int32)) 78 n (Int8.toInt32 (Int8.ofInt (-4)))) 70 27 ((s_start g) 70 4 + (1 : Int32)))) u (Int32.ofNat m) (Int32.ofNat t) (e_hm b) (e_hf b) (Int32.ofNat c) (Int32.ofNat t)) ?_
          refine q_call (M2 := 197) (rest := []) (hag) (fun _ _ => rfl) ?_
          refine q_step 1 180 [(0, .ref 70), (1, .int (Int32.ofNat m)), (2, .int (Int32.ofNat t)), (3, .int (0 : Int32)), (4, .int (e_hm b)), (5, .int (e_hf b)), (6, .int (Int32.ofNat c)), (7, .int (Int32.ofNat t))] [.int (e_hm b), .int (Int32.ofNat (n_hg n t m r c))] (s_rit (n + 1) t (q_up (q_up (q_up (q_up (q_up (s_start g) 75 n (Int32.ofNat c)) 76 n (Int32.ofNat m)) 77 n (1 : Int32)) 78 n (Int8.toInt32 (Int8.ofInt (-4)))) 70 27 ((s_start g) 70 4 + (1 : Int32)))) u (fun big n0 => sg_ha_50 big n0 (s_rit (n + 1) t (q_up (q_up (q_up (q_up (q_up (s_start g) 75 n (Int32.ofNat c)) 76 n (Int32.ofNat m)) 77 n (1 : Int32)) 78 n (Int8.toInt32 (Int8.ofInt (-4)))) 70 27 ((s_start g) 70 4 + (1 : Int32)))) u (Int32.ofNat m) (Int32.ofNat t) (e_hm b) (e_hf b) (Int32.ofNat c) (Int32.ofNat t) (Int32.ofNat (n_hg n t m r c))) ?_
          refine q_ic_le rfl (fun (hc1 : (Int32.ofNat (n_hg n t m r c)) ≤ (e_hm b)) => ?_) (fun hc1 => absurd (show (Int32.ofNat (n_hg n t m r c)) ≤ (e_hm b) from hc0) hc1)
          refine q_step 4 46 [(0, .ref 70), (1, .int (Int32.ofNat m)), (2, .int (Int32.ofNat t)), (3, .int (0 : Int32)), (4, .int (e_hm b)), (5, .int (e_hf b)), (6, .int ((Int32.ofNat c) + (1 : Int32))), (7, .int (Int32.ofNat t))] [] (s_rit (n + 1) t (q_up (q_up (q_up (q_up (q_up (s_start g) 75 n (Int32.ofNat c)) 76 n (Int32.ofNat m)) 77 n (1 : Int32)) 78 n (Int8.toInt32 (Int8.ofInt (-4)))) 70 27 ((s_start g) 70 4 + (1 : Int32)))) u (fun big n0 => sg_ha_51 big n0 (s_rit (n + 1) t (q_up (q_up (q_up (q_up (q_up (s_start g) 75 n (Int32.ofNat c)) 76 n (Int32.ofNat m)) 77 n (1 : Int32)) 78 n (Int8.toInt32 (Int8.ofInt (-4)))) 70 27 ((s_start g) 70 4 + (1 : Int32)))) u (Int32.ofNat m) (Int32.ofNat t) (e_hm b) (e_hf b) (Int32.ofNat c) (Int32.ofNat t)) ?_
          refine q_weak [(0, .ref 70), (1, .int (Int32.ofNat m)), (2, .int (Int32.ofNat t)), (3, .int (0 : Int32)), (4, .int (e_hm b)), (5, .int (e_hf b)), (6, .int ((Int32.ofNat c) + (1 : Int32)))] (q_sub.cons rfl (q_sub.cons rfl (q_sub.cons rfl (q_sub.cons rfl (q_sub.cons rfl (q_sub.cons rfl (q_sub.cons rfl q_sub.nil))))))) ?_
          have hle : ∃ x s, b = some (x, s) ∧ ¬ s < n_hg n t m r c := Classical.byContradiction (fun y => (e_hm_lt hA hb).mpr (fun x s e => Classical.byContradiction (fun z => y ⟨x, s, e, z⟩)) hc0)
          obtain ⟨x, s, ebs, hns⟩ := hle
          have e : f_h1 (p_fr n r) (n_hg n t m r) c b = b := f_h1_old hfr ebs hns
          rw [q_succ, f_hb, e]
          exact q_EV.imp (ih (c + 1) b _ (by omega) (w_st_sm hf h5 hs) (fun p hp => by rw [hf.1 71 (by omega)]; exact hg p hp) hb) (fun R z => w_po_r hf rfl z)
        · refine q_step 4 175 [(0, .ref 70), (1, .int (Int32.ofNat m)), (2, .int (Int32.ofNat t)), (3, .int (0 : Int32)), (4, .int (e_hm b)), (5, .int (Int32.ofNat c)), (6, .int (Int32.ofNat c)), (7, .int (Int32.ofNat t))] [.ref 70] (s_rit (n + 1) t (q_up (q_up (q_up (q_up (q_up (s_start g) 75 n (Int32.ofNat c)) 76 n (Int32.ofNat m)) 77 n (1 : Int32)) 78 n (Int8.toInt32 (Int8.ofInt (-4)))) 70 27 ((s_start g) 70 4 + (1 : Int32)))) u (fun big n0 => sg_ha_52 big n0 (s_rit (n + 1) t (q_up (q_up (q_up (q_up (q_up (s_start g) 75 n (Int32.ofNat c)) 76 n (Int32.ofNat m)) 77 n (1 : Int32)) 78 n (Int8.toInt32 (Int8.ofInt (-4)))) 70 27 ((s_start g) 70 4 + (1 : Int32)))) u (Int32.ofNat m) (Int32.ofNat t) (e_hm b) (e_hf b) (Int32.ofNat c) (Int32.ofNat t)) ?_
          refine q_call (M2 := 197) (rest := []) (hag) (fun _ _ => rfl) ?_
          refine q_step 1 180 [(0, .ref 70), (1, .int (Int32.ofNat m)), (2, .int (Int32.ofNat t)), (3, .int (0 : Int32)), (4, .int (e_hm b)), (5, .int (Int32.ofNat c)), (6, .int (Int32.ofNat c)), (7, .int (Int32.ofNat t))] [.int (e_hm b), .int (Int32.ofNat (n_hg n t m r c))] (s_rit (n + 1) t (q_up (q_up (q_up (q_up (q_up (s_start g) 75 n (Int32.ofNat c)) 76 n (Int32.ofNat m)) 77 n (1 : Int32)) 78 n (Int8.toInt32 (Int8.ofInt (-4)))) 70 27 ((s_start g) 70 4 + (1 : Int32)))) u (fun big n0 => sg_ha_50 big n0 (s_rit (n + 1) t (q_up (q_up (q_up (q_up (q_up (s_start g) 75 n (Int32.ofNat c)) 76 n (Int32.ofNat m)) 77 n (1 : Int32)) 78 n (Int8.toInt32 (Int8.ofInt (-4)))) 70 27 ((s_start g) 70 4 + (1 : Int32)))) u (Int32.ofNat m) (Int32.ofNat t) (e_hm b) (Int32.ofNat c) (Int32.ofNat c) (Int32.ofNat t) (Int32.ofNat (n_hg n t m r c))) ?_
          refine q_ic_le rfl (fun hc1 => absurd (show (Int32.ofNat (n_hg n t m r c)) ≤ (e_hm b) from hc1) (hc0)) (fun (hc1 : ¬ ((Int32.ofNat (n_hg n t m r c)) ≤ (e_hm b))) => ?_)
          refine q_step 1 184 [(0, .ref 70), (1, .int (Int32.ofNat m)), (2, .int (Int32.ofNat t)), (3, .int (0 : Int32)), (4, .int (e_hm b)), (5, .int (Int32.ofNat c)), (6, .int (Int32.ofNat c)), (7, .int (Int32.ofNat t))] [.ref 70] (s_rit (n + 1) t (q_up (q_up (q_up (q_up (q_up (s_start g) 75 n (Int32.ofNat c)) 76 n (Int32.ofNat m)) 77 n (1 : Int32)) 78 n (Int8.toInt32 (Int8.ofInt (-4)))) 70 27 ((s_start g) 70 4 + (1 : Int32)))) u (fun big n0 => sg_ha_53 big n0 (s_rit (n + 1) t (q_up (q_up (q_up (q_up (q_up (s_start g) 75 n (Int32.ofNat c)) 76 n (Int32.ofNat m)) 77 n (1 : Int32)) 78 n (Int8.toInt32 (Int8.ofInt (-4)))) 70 27 ((s_start g) 70 4 + (1 : Int32)))) u (Int32.ofNat m) (Int32.ofNat t) (e_hm b) (Int32.ofNat c) (Int32.ofNat c) (Int32.ofNat t)) ?_
          refine q_call (M2 := 197) (rest := []) (hag) (fun _ _ => rfl) ?_
          refine q_step 4 46 [(0, .ref 70), (1, .int (Int32.ofNat m)), (2, .int (Int32.ofNat t)), (3, .int (0 : Int32)), (4, .int (Int32.ofNat (n_hg n t m r c))), (5, .int (Int32.ofNat c)), (6, .int ((Int32.ofNat c) + (1 : Int32))), (7, .int (Int32.ofNat t))] [] (s_rit (n + 1) t (q_up (q_up (q_up (q_up (q_up (s_start g) 75 n (Int32.ofNat c)) 76 n (Int32.ofNat m)) 77 n (1 : Int32)) 78 n (Int8.toInt32 (Int8.ofInt (-4)))) 70 27 ((s_start g) 70 4 + (1 : Int32)))) u (fun big n0 => sg_ha_54 big n0 (s_rit (n + 1) t (q_up (q_up (q_up (q_up (q_up (s_start g) 75 n (Int32.ofNat c)) 76 n (Int32.ofNat m)) 77 n (1 : Int32)) 78 n (Int8.toInt32 (Int8.ofInt (-4)))) 70 27 ((s_start g) 70 4 + (1 : Int32)))) u (Int32.ofNat m) (Int32.ofNat t) (e_hm b) (Int32.ofNat c) (Int32.ofNat c) (Int32.ofNat t) (Int32.ofNat (n_hg n t m r c))) ?_
          refine q_weak [(0, .ref 70), (1, .int (Int32.ofNat m)), (2, .int (Int32.ofNat t)), (3, .int (0 : Int32)), (4, .int (Int32.ofNat (n_hg n t m r c))), (5, .int (Int32.ofNat c)), (6, .int ((Int32.ofNat c) + (1 : Int32)))] (q_sub.cons rfl (q_sub.cons rfl (q_sub.cons rfl (q_sub.cons rfl (q_sub.cons rfl (q_sub.cons rfl (q_sub.cons rfl q_sub.nil))))))) ?_
          have e : f_h1 (p_fr n r) (n_hg n t m r) c b = (some (c, n_hg n t m r c)) := f_h1_new hfr ((e_hm_lt hA hb).mp hc0)
          rw [q_succ, f_hb, e]
          exact q_EV.imp (ih (c + 1) (some (c, n_hg n t m r c)) _ (by omega) (w_st_sm hf h5 hs) (fun p hp => by rw [hf.1 71 (by omega)]; exact hg p hp) (by rw [← e]; exact n_hok_1 hA (by omega) hb)) (fun R z => w_po_r hf rfl z)
      · refine q_step 2 46 [(0, .ref 70), (1, .int (Int32.ofNat m)), (2, .int (Int32.ofNat t)), (3, .int (0 : Int32)), (4, .int (e_hm b)), (5, .int (e_hf b)), (6, .int ((Int32.ofNat c) + (1 : Int32)))] [] (s_start g) u (fun big n0 => sg_ha_39 big n0 (s_start g) u (Int32.ofNat m) (Int32.ofNat t) (e_hm b) (e_hf b) (Int32.ofNat c)) ?_
        have e : f_h1 (p_fr n r) (n_hg n t m r) c b = b := f_h1_no (Classical.byContradiction (fun y => (fun z => hc2 z.2) (p_fr_iff.mp y)))
        rw [q_succ, f_hb, e]
        exact q_EV.imp (ih (c + 1) b (s_start g) (by omega) (w_st_sm s_start_fr h5 hs) (fun p hp => by rw [s_start_fr.1 71 (by omega)]; exact hg p hp) hb) (fun R z => w_po_r s_start_fr rfl z)
theorem r_hang0 {n W H : Nat} {g r : qM} (u : qW) (h : w_ok n W H r) (hs : w_sm n (s_start g) r) (h5 : n ≤ 5) {m t : Nat} (hm : 1 ≤ m ∧ m ≤ 3) (ht : t ≤ 12) (hg : ∀ p, p < n → g 71 (15 + p) = r 78 p) : w_BS w_fr 209 [.ref 70, .int (Int32.ofNat m), .int (Int32.ofNat t), .int (0 : Int32)] g u (.int (f_agw 0 (f_hang n W H t m r))) := by
  refine w_bs (mm := m_209) rfl (Nat.le_of_ble_eq_true rfl) rfl ?_
  refine q_step 4 6 [(0, .ref 70), (1, .int (Int32.ofNat m)), (2, .int (Int32.ofNat t)), (3, .int (0 : Int32))] [.long (3 : Int64), .long (1 : Int64), .long (Int32.toInt64 (Int32.ofNat m))] g u (fun big n0 => sg_ha_55 big n0 g u (Int32.ofNat m) (Int32.ofNat t)) ?_
  refine q_call (M2 := 149) (rest := []) (b_in1 (m := m) (lo := 1) (hi := 3) g u (by omega) (by omega) (by omega)) (fun _ _ => rfl) ?_
  refine q_step 5 18 [(0, .ref 70), (1, .int (Int32.ofNat m)), (2, .int (Int32.ofNat t)), (3, .int (0 : Int32))] [.long (12 : Int64), .long (0 : Int64), .long (Int32.toInt64 (Int32.ofNat t))] g u (fun big n0 => sg_ha_56 big n0 g u (Int32.ofNat m) (Int32.ofNat t)) ?_
  refine q_call (M2 := 149) (rest := []) (b_in1 (m := t) (lo := 0) (hi := 12) g u (by omega) (by omega) (by omega)) (fun _ _ => rfl) ?_
  refine q_step 5 28 [(0, .ref 70), (1, .int (Int32.ofNat m)), (2, .int (Int32.ofNat t)), (3, .int (0 : Int32))] [.long (1 : Int64), .long (0 : Int64), .long (0 : Int64)] g u (fun big n0 => sg_ha_57 big n0 g u (Int32.ofNat m) (Int32.ofNat t)) ?_
  refine q_call (M2 := 149) (rest := []) (show q_BS 149 [.long (0 : Int64), .long (0 : Int64), .long (1 : Int64)] g u (some (.int 1), g, u) from b_in _ _ _ _ _) (fun _ _ => rfl) ?_
  refine q_step 7 46 [(0, .ref 70), (1, .int (Int32.ofNat m)), (2, .int (Int32.ofNat t)), (3, .int (0 : Int32)), (4, .int (Int32.ofInt (-1))), (5, .int (Int8.toInt32 (Int8.ofInt (-4)))), (6, .int (0 : Int32))] [] g u (fun big n0 => sg_ha_58 big n0 g u (Int32.ofNat m) (Int32.ofNat t)) ?_
  exact rh_0 u h h5 hm (by omega) (w_WH h) (W * H) 0 none g (by omega) hs hg (fun x t e => by cases e)
theorem rhg_1 (u : qW) {n m : Nat} (h6 : n ≤ 6) (hm : m ≤ 60) {k1 k6 : Nat} {x4 x5 : Int32} {Q : Option Value × qM × qW → Prop} : ∀ k i g, i + k = m → g 70 27 = Int32.ofNat n → g 70 2 ≠ 0 → q_EV m_209 156 [(0, .ref 70), (1, .int (Int32.ofNat k1)), (2, .int (Int32.ofNat m)), (3, .int (1 : Int32)), (4, .int x4), (5, .int x5), (6, .int (Int32.ofNat k6)), (7, .int (Int32.ofNat m))] [] (s_rit n k g) u Q → q_EV m_209 139 [(0, .ref 70), (1, .int (Int32.ofNat k1)), (2, .int (Int32.ofNat m)), (3, .int (1 : Int32)), (4, .int x4), (5, .int x5), (6, .int (Int32.ofNat k6)), (7, .int (Int32.ofNat i))] [] g u Q := by
  intro k
  induction k with
  | zero =>
    intro i g hi hn hw hk
    have e : i = m := by omega
    subst e
    refine q_step 2 142 [(0, .ref 70), (1, .int (Int32.ofNat k1)), (2, .int (Int32.ofNat i)), (3, .int (1 : Int32)), (4, .int x4), (5, .int x5), (6, .int (Int32.ofNat k6)), (7, .int (Int32.ofNat i))] [.int (Int32.ofNat i), .int (Int32.ofNat i)] g u (fun big n0 => sg_ha_59 big n0 g u (Int32.ofNat k1) (Int32.ofNat i) x4 x5 (Int32.ofNat k6) (Int32.ofNat i)) ?_
    refine q_ic_ge rfl (fun (hc0 : (Int32.ofNat i) ≤ (Int32.ofNat i)) => ?_) (fun hc0 => absurd (show (Int32.ofNat i) ≤ (Int32.ofNat i) from (q_le (by omega) (by omega)).mpr (by omega)) hc0)
    exact hk
  | succ k ih =>
    intro i g hi hn hw hk
    refine q_step 2 142 [(0, .ref 70), (1, .int (Int32.ofNat k1)), (2, .int (Int32.ofNat m)), (3, .int (1 : Int32)), (4, .int x4), (5, .int x5), (6, .int (Int32.ofNat k6)), (7, .int (Int32.ofNat i))] [.int (Int32.ofNat m), .int (Int32.ofNat i)] g u (fun big n0 => sg_ha_59 big n0 g u (Int32.ofNat k1) (Int32.ofNat m) x4 x5 (Int32.ofNat k6) (Int32.ofNat i)) ?_
    refine q_ic_ge rfl (fun hc0 => absurd (show (Int32.ofNat m) ≤ (Int32.ofNat i) from hc0) (fun z => absurd ((q_le (by omega) (by omega)).mp z) (by omega))) (fun (hc0 : ¬ ((Int32.ofNat m) ≤ (Int32.ofNat i))) => ?_)
    refine q_step 1 146 [(0, .ref 70), (1, .int (Int32.ofNat k1)), (2, .int (Int32.ofNat m)), (3, .int (1 : Int32)), (4, .int x4), (5, .int x5), (6, .int (Int32.ofNat k6)), (7, .int (Int32.ofNat i))] [.ref 70] g u (fun big n0 => sg_ha_60 big n0 g u (Int32.ofNat k1) (Int32.ofNat m) x4 x5 (Int32.ofNat k6) (Int32.ofNat i)) ?_
    refine q_call (M2 := 191) (rest := []) (b_rsteps g u hn h6 hw) (fun _ _ => rfl) ?_
    refine q_step 3 139 [(0, .ref 70), (1, .int (Int32.ofNat k1)), (2, .int (Int32.ofNat m)), (3, .int (1 : Int32)), (4, .int x4), (5, .int x5), (6, .int (Int32.ofNat k6)), (7, .int ((Int32.ofNat i) + (1 : Int32)))] [] (s_rst n g) u (fun big n0 => sg_ha_61 big n0 (s_rst n g) u (Int32.ofNat k1) (Int32.ofNat m) x4 x5 (Int32.ofNat k6) (Int32.ofNat i) (s_ran n g)) ?_
    rw [q_succ]
    exact ih (i + 1) (s_rst n g) (by omega) (by rw [s_rst_g (by omega)]; exact hn) (by rw [s_rst_g (by omega)]; exact hw) hk
theorem rh_1 (u : qW) {n W H m t : Nat} {r : qM} (h : w_ok n W H r) (h5 : n ≤ 5) (hm : 1 ≤ m ∧ m ≤ 3) (ht : t ≤ 60) (hWH : W * H ≤ 25) : ∀ k c b g, c + k = W * H → w_sm n (s_start g) r → (∀ p, p < n → g 71 (15 + p) = r 78 p) → n_hok (W * H) b → q_EV m_209 46 [(0, .ref 70), (1, .int (Int32.ofNat m)), (2, .int (Int32.ofNat t)), (3, .int (1 : Int32)), (4, .int (e_hm b)), (5, .int (e_hf b)), (6, .int (Int32.ofNat c))] [] g u (w_po w_fr g (.int (f_agw 1 (f_hb (p_fr n r) (n_hg n t m r) k c b)))) := by
  intro k
  induction k with
  | zero =>
    intro c b g hi hs hg hb
    have hz2 : g 70 2 * g 70 3 = Int32.ofNat (W * H) := by
      have e1 : g 70 2 = r 70 2 := hs.1.2.1
      have e2 : g 70 3 = r 70 3 := hs.1.2.2.1
      rw [e1, e2, w_size h]
    have h4 : (s_start g) 70 4 = Int32.ofNat n := (show g 70 4 = Int32.ofNat n from w_pl h hs)
    refine q_step 6 57 [(0, .ref 70), (1, .int (Int32.ofNat m)), (2, .int (Int32.ofNat t)), (3, .int (1 : Int32)), (4, .int (e_hm b)), (5, .int (e_hf b)), (6, .int (Int32.ofNat c))] [.int ((g 70 2) * (g 70 3)), .int (Int32.ofNat c)] g u (fun big n0 => sg_ha_62 big n0 g u (Int32.ofNat m) (Int32.ofNat t) (e_hm b) (e_hf b) (Int32.ofNat c)) ?_
    refine q_ic_ge rfl (fun (hc0 : ((g 70 2) * (g 70 3)) ≤ (Int32.ofNat c)) => ?_) (fun hc0 => absurd (show ((g 70 2) * (g 70 3)) ≤ (Int32.ofNat c) from by rw [hz2]; exact (q_le (by omega) (by omega)).mpr (by omega)) hc0)
    cases b with
    | none => 
      refine q_ret 6 (some (.int (Int8.toInt32 (Int8.ofInt (-4)))), g, u) (fun _ _ => rfl) ?_
      exact ⟨g, u, rfl, w_fr_rfl g⟩
    | some z => 
      obtain ⟨x, s⟩ := z
      have hbx := hb x s rfl
      refine q_step 2 204 [(0, .ref 70), (1, .int (Int32.ofNat m)), (2, .int (Int32.ofNat t)), (3, .int (1 : Int32)), (4, .int (Int32.ofNat s)), (5, .int (Int32.ofNat x)), (6, .int (Int32.ofNat c))] [.int (Int8.toInt32 (Int8.ofInt (-4))), .int (Int32.ofNat x)] g u (fun big n0 => sg_ha_63 big n0 g u (Int32.ofNat m) (Int32.ofNat t) (Int32.ofNat s) (Int32.ofNat x) (Int32.ofNat c)) ?_
      refine q_ic_ne rfl (fun hc0 => absurd (show (Int32.ofNat x) = (Int8.toInt32 (Int8.ofInt (-4))) from hc0) (q_none_ne (by omega))) (fun (hc0 : ¬ ((Int32.ofNat x) = (Int8.toInt32 (Int8.ofInt (-4))))) => ?_)
      refine q_ret 4 (some (.int (Int32.ofNat s)), g, u) (fun _ _ => rfl) ?_
      exact ⟨g, u, rfl, w_fr_rfl g⟩
  | succ k ih =>
    intro c b g hi hs hg hb
    have hz2 : g 70 2 * g 70 3 = Int32.ofNat (W * H) := by
      have e1 : g 70 2 = r 70 2 := hs.1.2.1
      have e2 : g 70 3 = r 70 3 := hs.1.2.2.1
      rw [e1, e2, w_size h]
    have h4 : (s_start g) 70 4 = Int32.ofNat n := (show g 70 4 = Int32.ofNat n from w_pl h hs)
    refine q_step 6 57 [(0, .ref 70), (1, .int (Int32.ofNat m)), (2, .int (Int32.ofNat t)), (3, .int (1 : Int32)), (4, .int (e_hm b)), (5, .int (e_hf b)), (6, .int (Int32.ofNat c))] [.int ((g 70 2) * (g 70 3)), .int (Int32.ofNat c)] g u (fun big n0 => sg_ha_62 big n0 g u (Int32.ofNat m) (Int32.ofNat t) (e_hm b) (e_hf b) (Int32.ofNat c)) ?_
    refine q_ic_ge rfl (fun hc0 => absurd (show ((g 70 2) * (g 70 3)) ≤ (Int32.ofNat c) from hc0) (fun z => by rw [hz2] at z; exact absurd ((q_le (by omega) (by omega)).mp z) (by omega))) (fun (hc0 : ¬ (((g 70 2) * (g 70 3)) ≤ (Int32.ofNat c))) => ?_)
    refine q_step 1 61 [(0, .ref 70), (1, .int (Int32.ofNat m)), (2, .int (Int32.ofNat t)), (3, .int (1 : Int32)), (4, .int (e_hm b)), (5, .int (e_hf b)), (6, .int (Int32.ofNat c))] [.ref 70] g u (fun big n0 => sg_ha_64 big n0 g u (Int32.ofNat m) (Int32.ofNat t) (e_hm b) (e_hf b) (Int32.ofNat c)) ?_
    refine q_call (M2 := 172) (rest := []) (b_starts g u) (fun _ _ => rfl) ?_
    refine q_step 2 67 [(0, .ref 70), (1, .int (Int32.ofNat m)), (2, .int (Int32.ofNat t)), (3, .int (1 : Int32)), (4, .int (e_hm b)), (5, .int (e_hf b)), (6, .int (Int32.ofNat c))] [.int (Int32.ofNat c), .ref 70] (s_start g) u (fun big n0 => sg_ha_65 big n0 (s_start g) u (Int32.ofNat m) (Int32.ofNat t) (e_hm b) (e_hf b) (Int32.ofNat c)) ?_
    refine q_call (M2 := 177) (rest := []) (b_open (Int32.ofNat c) (s_start g) u) (fun _ _ => rfl) ?_
    refine q_if_eq rfl (fun (hc1 : (s_op ((s_start g) 71 20) (Int32.ofNat c)) = 0) => ?_) (fun (hc1 : ¬ ((s_op ((s_start g) 71 20) (Int32.ofNat c)) = 0)) => ?_)
    · refine q_step 2 46 [(0, .ref 70), (1, .int (Int32.ofNat m)), (2, .int (Int32.ofNat t)), (3, .int (1 : Int32)), (4, .int (e_hm b)), (5, .int (e_hf b)), (6, .int ((Int32.ofNat c) + (1 : Int32)))] [] (s_start g) u (fun big n0 => sg_ha_66 big n0 (s_start g) u (Int32.ofNat m) (Int32.ofNat t) (e_hm b) (e_hf b) (Int32.ofNat c)) ?_
      have hop0 : ¬ s_bit (r 71 20) (Int32.ofNat c) = 0 := fun z => by
        have q := hc1
        rw [show (s_start g) 71 20 = r 71 20 from hs.1.2.2.2.1] at q
        unfold s_op at q
        rw [if_neg (s_none_ne (by omega)), if_pos z] at q
        exact absurd q (by decide)
      have e : f_h1 (p_fr n r) (n_hg n t m r) c b = b := f_h1_no (Classical.byContradiction (fun y => (fun z => hop0 z.1) (p_fr_iff.mp y)))
      rw [q_succ, f_hb, e]
      exact q_EV.imp (ih (c + 1) b (s_start g) (by omega) (w_st_sm s_start_fr h5 hs) (fun p hp => by rw [s_start_fr.1 71 (by omega)]; exact hg p hp) hb) (fun R z => w_po_r s_start_fr rfl z)
    · refine q_step 2 76 [(0, .ref 70), (1, .int (Int32.ofNat m)), (2, .int (Int32.ofNat t)), (3, .int (1 : Int32)), (4, .int (e_hm b)), (5, .int (e_hf b)), (6, .int (Int32.ofNat c))] [.int (Int32.ofNat c), .ref 70] (s_start g) u (fun big n0 => sg_ha_67 big n0 (s_start g) u (Int32.ofNat m) (Int32.ofNat t) (e_hm b) (e_hf b) (Int32.ofNat c)) ?_
      have hwho := b_rwho (s_start g) u (Int32.ofNat c) (w_w0 h hs).1 (w_w0 h hs).2.1
      rw [w_who_r h hs] at hwho
      refine q_call (M2 := 173) (rest := []) (hwho) (fun _ _ => rfl) ?_
      refine q_step 1 81 [(0, .ref 70), (1, .int (Int32.ofNat m)), (2, .int (Int32.ofNat t)), (3, .int (1 : Int32)), (4, .int (e_hm b)), (5, .int (e_hf b)), (6, .int (Int32.ofNat c))] [.int (Int8.toInt32 (Int8.ofInt (-4))), .int (f_who n r (Int32.ofNat c))] (s_start g) u (fun big n0 => sg_ha_68 big n0 (s_start g) u (Int32.ofNat m) (Int32.ofNat t) (e_hm b) (e_hf b) (Int32.ofNat c) (f_who n r (Int32.ofNat c))) ?_
      refine q_ic_ne rfl (fun (hc2 : (f_who n r (Int32.ofNat c)) = (Int8.toInt32 (Int8.ofInt (-4)))) => ?_) (fun (hc2 : ¬ ((f_who n r (Int32.ofNat c)) = (Int8.toInt32 (Int8.ofInt (-4))))) => ?_)
      · refine q_step 5 94 [(0, .ref 70), (1, .int (Int32.ofNat m)), (2, .int (Int32.ofNat t)), (3, .int (1 : Int32)), (4, .int (e_hm b)), (5, .int (e_hf b)), (6, .int (Int32.ofNat c))] [.int (Int32.ofNat c), .int ((s_start g) 70 4), .ref 75] (s_start g) u (fun big n0 => sg_ha_69 big n0 (s_start g) u (Int32.ofNat m) (Int32.ofNat t) (e_hm b) (e_hf b) (Int32.ofNat c)) ?_
        refine q_iast (j := n) (by rw [h4]; exact q_ixn (by omega) (by omega)) rfl rfl ?_
        refine q_step 5 104 [(0, .ref 70), (1, .int (Int32.ofNat m)), (2, .int (Int32.ofNat t)), (3, .int (1 : Int32)), (4, .int (e_hm b)), (5, .int (e_hf b)), (6, .int (Int32.ofNat c))] [.int (Int32.ofNat m), .int ((s_start g) 70 4), .ref 76] (q_up (s_start g) 75 n (Int32.ofNat c)) u (fun big n0 => sg_ha_70 big n0 (q_up (s_start g) 75 n (Int32.ofNat c)) u (Int32.ofNat m) (Int32.ofNat t) (e_hm b) (e_hf b) (Int32.ofNat c)) ?_
        refine q_iast (j := n) (by rw [h4]; exact q_ixn (by omega) (by omega)) rfl rfl ?_
        refine q_step 5 114 [(0, .ref 70), (1, .int (Int32.ofNat m)), (2, .int (Int32.ofNat t)), (3, .int (1 : Int32)), (4, .int (e_hm b)), (5, .int (e_hf b)), (6, .int (Int32.ofNat c))] [.int (1 : Int32), .int ((s_start g) 70 4), .ref 77] (q_up (q_up (s_start g) 75 n (Int32.ofNat c)) 76 n (Int32.ofNat m)) u (fun big n0 => sg_ha_71 big n0 (q_up (q_up (s_start g) 75 n (Int32.ofNat c)) 76 n (Int32.ofNat m)) u (Int32.ofNat m) (Int32.ofNat t) (e_hm b) (e_hf b) (Int32.ofNat c)) ?_
        refine q_iast (j := n) (by rw [h4]; exact q_ixn (by omega) (by omega)) rfl rfl ?_
        refine q_step 5 125 [(0, .ref 70), (1, .int (Int32.ofNat m)), (2, .int (Int32.ofNat t)), (3, .int (1 : Int32)), (4, .int (e_hm b)), (5, .int (e_hf b)), (6, .int (Int32.ofNat c))] [.int (Int8.toInt32 (Int8.ofInt (-4))), .int ((s_start g) 70 4), .ref 78] (q_up (q_up (q_up (s_start g) 75 n (Int32.ofNat c)) 76 n (Int32.ofNat m)) 77 n (1 : Int32)) u (fun big n0 => sg_ha_72 big n0 (q_up (q_up (q_up (s_start g) 75 n (Int32.ofNat c)) 76 n (Int32.ofNat m)) 77 n (1 : Int32)) u (Int32.ofNat m) (Int32.ofNat t) (e_hm b) (e_hf b) (Int32.ofNat c)) ?_
        refine q_iast (j := n) (by rw [h4]; exact q_ixn (by omega) (by omega)) rfl rfl ?_
        refine q_step 8 139 [(0, .ref 70), (1, .int (Int32.ofNat m)), (2, .int (Int32.ofNat t)), (3, .int (1 : Int32)), (4, .int (e_hm b)), (5, .int (e_hf b)), (6, .int (Int32.ofNat c)), (7, .int (0 : Int32))] [] (q_up (q_up (q_up (q_up (q_up (s_start g) 75 n (Int32.ofNat c)) 76 n (Int32.ofNat m)) 77 n (1 : Int32)) 78 n (Int8.toInt32 (Int8.ofInt (-4)))) 70 27 (((s_start g) 70 4) + (1 : Int32))) u (fun big n0 => sg_ha_73 big n0 (q_up (q_up (q_up (q_up (s_start g) 75 n (Int32.ofNat c)) 76 n (Int32.ofNat m)) 77 n (1 : Int32)) 78 n (Int8.toInt32 (Int8.ofInt (-4)))) u (Int32.ofNat m) (Int32.ofNat t) (e_hm b) (e_hf b) (Int32.ofNat c)) ?_
        rw [show (q_up (q_up (q_up (q_up (q_up (s_start g) 75 n (Int32.ofNat c)) 76 n (Int32.ofNat m)) 77 n (1 : Int32)) 78 n (Int8.toInt32 (Int8.ofInt (-4)))) 70 27 (((s_start g) 70 4) + (1 : Int32))) = (q_up (q_up (q_up (q_up (q_up (s_start g) 75 n (Int32.ofNat c)) 76 n (Int32.ofNat m)) 77 n (1 : Int32)) 78 n (Int8.toInt32 (Int8.ofInt (-4)))) 70 27 ((s_start g) 70 4 + (1 : Int32))) from rfl]
        have hbit : s_bit (r 71 20) (Int32.ofNat c) = 0 := by
          have q := hc1
          rw [show (s_start g) 71 20 = r 71 20 from hs.1.2.2.2.1] at q
          unfold s_op at q
          rw [if_neg (s_none_ne (by omega))] at q
          by_cases z : s_bit (r 71 20) (Int32.ofNat c) = 0
          · exact z
          · rw [if_neg z] at q
            exact absurd rfl q
        have hfr := p_fr_iff.mpr ⟨hbit, hc2⟩
        have hok := w_ok_ha (c := c) (m := m) h h5 (by omega) hbit hc2 hm
        have hsm := w_sm_ha (c := c) (m := m) h4 hs
        have hf : w_fr g (s_rit (n + 1) t (q_up (q_up (q_up (q_up (q_up (s_start g) 75 n (Int32.ofNat c)) 76 n (Int32.ofNat m)) 77 n (1 : Int32)) 78 n (Int8.toInt32 (Int8.ofInt (-4)))) 70 27 ((s_start g) 70 4 + (1 : Int32)))) := ((((((s_start_fr (g := g)).up (by omega)).up (by omega)).up (by omega)).up (by omega)).up27).trans (w_rit_fr t _)
        have hA : n_hg n t m r c ≤ 6 := Nat.le_trans (n_at_le (n + 1) _) (by omega)
        refine rhg_1 u (n := n + 1) (by omega) ht t 0 (q_up (q_up (q_up (q_up (q_up (s_start g) 75 n (Int32.ofNat c)) 76 n (Int32.ofNat m)) 77 n (1 : Int32)) 78 n (Int8.toInt32 (Int8.ofInt (-4)))) 70 27 ((s_start g) 70 4 + (1 : Int32))) (by omega) (w_w0 hok hsm).1 (w_w0 hok hsm).2.2 ?_
        have hag := b_ratg (s_rit (n + 1) t (q_up (q_up (q_up (q_up (q_up (s_start g) 75 n (Int32.ofNat c)) 76 n (Int32.ofNat m)) 77 n (1 : Int32)) 78 n (Int8.toInt32 (Int8.ofInt (-4)))) 70 27 ((s_start g) 70 4 + (1 : Int32)))) u (n := n + 1) (by rw [s_rit_g (by omega)]; exact (w_w0 hok hsm).1) (by omega)
        rw [show s_ct (fun p => if (s_rit (n + 1) t (q_up (q_up (q_up (q_up (q_up (s_start g) 75 n (Int32.ofNat c)) 76 n (Int32.ofNat m)) 77 n (1 : Int32)) 78 n (Int8.toInt32 (Int8.ofInt (-4)))) 70 27 ((s_start g) 70 4 + (1 : Int32)))) 78 p = i_none then (0 : Int32) else if (s_rit (n + 1) t (q_up (q_up (q_up (q_up (q_up (s_start g) 75 n (Int32.ofNat c)) 76 n (Int32.ofNat m)) 77 n (1 : Int32)) 78 n (Int8.toInt32 (Int8.ofInt (-4)))) 70 27 ((s_start g) 70 4 + (1 : Int32)))) 75 p = (s_rit (n + 1) t (q_up (q_up (q_up (q_up (q_up (s_start g) 75 n (Int32.ofNat c)) 76 n (Int32.ofNat m)) 77 n (1 : Int32)) 78 n (Int8.toInt32 (Int8.ofInt (-4)))) 70 27 ((s_start g) 70 4 + (1 : Int32)))) 78 p then 1 else 0) (n + 1) 0 0 = f_at (n + 1) (s_rit (n + 1) t (gh_ha n c m r)) from w_at_r (w_sm_rit t _ _ hok hsm) (fun p hp => by
          rw [s_rit_g (by omega), s_rit_g (by omega), gh_ha_78, q_up_ne (by omega), q_up_at]
          split
          · rfl
          · rw [q_up_ne (by omega), q_up_ne (by omega), q_up_ne (by omega), w_st78 h5 (by omega)]
            exact hg p (by omega)), f_at_n] at hag
        refine q_step 1 157 [(0, .ref 70), (1, .int (Int32.ofNat m)), (2, .int (Int32.ofNat t)), (3, .int (1 : Int32)), (4, .int (e_hm b)), (5, .int (e_hf b)), (6, .int (Int32.ofNat c)), (7, .int (Int32.ofNat t))] [.ref 70] (s_rit (n + 1) t (q_up (q_up (q_up (q_up (q_up (s_start g) 75 n (Int32.ofNat c)) 76 n (Int32.ofNat m)) 77 n (1 : Int32)) 78 n (Int8.toInt32 (Int8.ofInt (-4)))) 70 27 ((s_start g) 70 4 + (1 : Int32)))) u (fun big n0 => sg_ha_74 big n0 (s_rit (n + 1) t (q_up (q_up (q_up (q_up (q_up (s_start g) 75 n (Int32.ofNat c)) 76 n (Int32.ofNat m)) 77 n (1 : Int32)) 78 n (Int8.toInt32 (Int8.ofInt (-4)))) 70 27 ((s_start g) 70 4 + (1 : Int32)))) u (Int32.ofNat m) (Int32.ofNat t) (e_hm b) (e_hf b) (Int32.ofNat c) (Int32.ofNat t)) ?_
        refine q_call (M2 := 197) (rest := []) (hag) (fun _ _ => rfl) ?_
        refine q_step 1 162 [(0, .ref 70), (1, .int (Int32.ofNat m)), (2, .int (Int32.ofNat t)), (3, .int (1 : Int32)), (4, .int (e_hm b)), (5, .int (e_hf b)), (6, .int (Int32.ofNat c)), (7, .int (Int32.ofNat t))] [.int (e_hm b), .int (Int32.ofNat (n_hg n t m r c))] (s_rit (n + 1) t (q_up (q_up (q_up (q_up (q_up (s_start g) 75 n (Int32.ofNat c)) 76 n (Int32.ofNat m)) 77 n (1 : Int32)) 78 n (Int8.toInt32 (Int8.ofInt (-4)))) 70 27 ((s_start g) 70 4 + (1 : Int32)))) u (fun big n0 => sg_ha_75 big n0 (s_rit (n + 1) t (q_up (q_up (q_up (q_up (q_up (s_start g) 75 n (Int32.ofNat c)) 76 n (Int32.ofNat m)) 77 n (1 : Int32)) 78 n (Int8.toInt32 (Int8.ofInt (-4)))) 70 27 ((s_start g) 70 4 + (1 : Int32)))) u (Int32.ofNat m) (Int32.ofNat t) (e_hm b) (e_hf b) (Int32.ofNat c) (Int32.ofNat t) (Int32.ofNat (n_hg n t m r c))) ?_
        refine q_ic_le rfl (fun (hc0 : (Int32.ofNat (n_hg n t m r c)) ≤ (e_hm b)) => ?_) (fun (hc0 : ¬ ((Int32.ofNat (n_hg n t m r c)) ≤ (e_hm b))) => ?_)
        · refine q_step 3 175 [(0, .ref 70), (1, .int (Int32.ofNat m)), (2, .int (Int32.ofNat t)), (3, .int (1 : Int32)), (4, .int (e_hm b)), (5, .int (e_hf b)), (6, .int (Int32.ofNat c)), (7, .int (Int32.ofNat t))] [.ref 70] (s_rit (n + 1) t (q_up (q_up (q_up (q_up (q_up (s_start g) 75 n (Int32.ofNat c)) 76 n (Int32.ofNat m)) 77 n (1 : Int32)) 78 n (Int8.toInt32 (Int8.ofInt (-4)))) 70 27 ((s_start g) 70 4 + (1 : Int32)))) u (fun big n0 => sg_ha_76 big n0 (s_rit (n + 1) t (q_up (q_up (q_up (q_up (q_up (s_start g) 75 n (Int32.ofNat c)) 76 n (Int32.ofNat m)) 77 n (1 : Int32)) 78 n (Int8.toInt32 (Int8.ofInt (-4)))) 70 27 ((s_start g) 70 4 + (1 : Int32)))) u (Int32.ofNat m) (Int32.ofNat t) (e_hm b) (e_hf b) (Int32.ofNat c) (Int32.ofNat t)) ?_
          refine q_call (M2 := 197) (rest := []) (hag) (fun _ _ => rfl) ?_
          refine q_step 1 180 [(0, .ref 70), (1, .int (Int32.ofNat m)), (2, .int (Int32.ofNat t)), (3, .int (1 : Int32)), (4, .int (e_hm b)), (5, .int (e_hf b)), (6, .int (Int32.ofNat c)), (7, .int (Int32.ofNat t))] [.int (e_hm b), .int (Int32.ofNat (n_hg n t m r c))] (s_rit (n + 1) t (q_up (q_up (q_up (q_up (q_up (s_start g) 75 n (Int32.ofNat c)) 76 n (Int32.ofNat m)) 77 n (1 : Int32)) 78 n (Int8.toInt32 (Int8.ofInt (-4)))) 70 27 ((s_start g) 70 4 + (1 : Int32)))) u (fun big n0 => sg_ha_77 big n0 (s_rit (n + 1) t (q_up (q_up (q_up (q_up (q_up (s_start g) 75 n (Int32.ofNat c)) 76 n (Int32.ofNat m)) 77 n (1 : Int32)) 78 n (Int8.toInt32 (Int8.ofInt (-4)))) 70 27 ((s_start g) 70 4 + (1 : Int32)))) u (Int32.ofNat m) (Int32.ofNat t) (e_hm b) (e_hf b) (Int32.ofNat c) (Int32.ofNat t) (Int32.ofNat (n_hg n t m r c))) ?_
          refine q_ic_le rfl (fun (hc1 : (Int32.ofNat (n_hg n t m r c)) ≤ (e_hm b)) => ?_) (fun hc1 => absurd (show (Int32.ofNat (n_hg n t m r c)) ≤ (e_hm b) from hc0) hc1)
          refine q_step 4 46 [(0, .ref 70), (1, .int (Int32.ofNat m)), (2, .int (Int32.ofNat t)), (3, .int (1 : Int32)), (4, .int (e_hm b)), (5, .int (e_hf b)), (6, .int ((Int32.ofNat c) + (1 : Int32))), (7, .int (Int32.ofNat t))] [] (s_rit (n + 1) t (q_up (q_up (q_up (q_up (q_up (s_start g) 75 n (Int32.ofNat c)) 76 n (Int32.ofNat m)) 77 n (1 : Int32)) 78 n (Int8.toInt32 (Int8.ofInt (-4)))) 70 27 ((s_start g) 70 4 + (1 : Int32)))) u (fun big n0 => sg_ha_78 big n0 (s_rit (n + 1) t (q_up (q_up (q_up (q_up (q_up (s_start g) 75 n (Int32.ofNat c)) 76 n (Int32.ofNat m)) 77 n (1 : Int32)) 78 n (Int8.toInt32 (Int8.ofInt (-4)))) 70 27 ((s_start g) 70 4 + (1 : Int32)))) u (Int32.ofNat m) (Int32.ofNat t) (e_hm b) (e_hf b) (Int32.ofNat c) (Int32.ofNat t)) ?_
          refine q_weak [(0, .ref 70), (1, .int (Int32.ofNat m)), (2, .int (Int32.ofNat t)), (3, .int (1 : Int32)), (4, .int (e_hm b)), (5, .int (e_hf b)), (6, .int ((Int32.ofNat c) + (1 : Int32)))] (q_sub.cons rfl (q_sub.cons rfl (q_sub.cons rfl (q_sub.cons rfl (q_sub.cons rfl (q_sub.cons rfl (q_sub.cons rfl q_sub.nil))))))) ?_
          have hle : ∃ x s, b = some (x, s) ∧ ¬ s < n_hg n t m r c := Classical.byContradiction (fun y => (e_hm_lt hA hb).mpr (fun x s e => Classical.byContradiction (fun z => y ⟨x, s, e, z⟩)) hc0)
          obtain ⟨x, s, ebs, hns⟩ := hle
          have e : f_h1 (p_fr n r) (n_hg n t m r) c b = b := f_h1_old hfr ebs hns
          rw [q_succ, f_hb, e]
          exact q_EV.imp (ih (c + 1) b _ (by omega) (w_st_sm hf h5 hs) (fun p hp => by rw [hf.1 71 (by omega)]; exact hg p hp) hb) (fun R z => w_po_r hf rfl z)
        · refine q_step 4 175 [(0, .ref 70), (1, .int (Int32.ofNat m)), (2, .int (Int32.ofNat t)), (3, .int (1 : Int32)), (4, .int (e_hm b)), (5, .int (Int32.ofNat c)), (6, .int (Int32.ofNat c)), (7, .int (Int32.ofNat t))] [.ref 70] (s_rit (n + 1) t (q_up (q_up (q_up (q_up (q_up (s_start g) 75 n (Int32.ofNat c)) 76 n (Int32.ofNat m)) 77 n (1 : Int32)) 78 n (Int8.toInt32 (Int8.ofInt (-4)))) 70 27 ((s_start g) 70 4 + (1 : Int32)))) u (fun big n0 => sg_ha_79 big n0 (s_rit (n + 1) t (q_up (q_up (q_up (q_up (q_up (s_start g) 75 n (Int32.ofNat c)) 76 n (Int32.ofNat m)) 77 n (1 : Int32)) 78 n (Int8.toInt32 (Int8.ofInt (-4)))) 70 27 ((s_start g) 70 4 + (1 : Int32)))) u (Int32.ofNat m) (Int32.ofNat t) (e_hm b) (e_hf b) (Int32.ofNat c) (Int32.ofNat t)) ?_
          refine q_call (M2 := 197) (rest := []) (hag) (fun _ _ => rfl) ?_
          refine q_step 1 180 [(0, .ref 70), (1, .int (Int32.ofNat m)), (2, .int (Int32.ofNat t)), (3, .int (1 : Int32)), (4, .int (e_hm b)), (5, .int (Int32.ofNat c)), (6, .int (Int32.ofNat c)), (7, .int (Int32.ofNat t))] [.int (e_hm b), .int (Int32.ofNat (n_hg n t m r c))] (s_rit (n + 1) t (q_up (q_up (q_up (q_up (q_up (s_start g) 75 n (Int32.ofNat c)) 76 n (Int32.ofNat m)) 77 n (1 : Int32)) 78 n (Int8.toInt32 (Int8.ofInt (-4)))) 70 27 ((s_start g) 70 4 + (1 : Int32)))) u (fun big n0 => sg_ha_77 big n0 (s_rit (n + 1) t (q_up (q_up (q_up (q_up (q_up (s_start g) 75 n (Int32.ofNat c)) 76 n (Int32.ofNat m)) 77 n (1 : Int32)) 78 n (Int8.toInt32 (Int8.ofInt (-4)))) 70 27 ((s_start g) 70 4 + (1 : Int32)))) u (Int32.ofNat m) (Int32.ofNat t) (e_hm b) (Int32.ofNat c) (Int32.ofNat c) (Int32.ofNat t) (Int32.ofNat (n_hg n t m r c))) ?_
          refine q_ic_le rfl (fun hc1 => absurd (show (Int32.ofNat (n_hg n t m r c)) ≤ (e_hm b) from hc1) (hc0)) (fun (hc1 : ¬ ((Int32.ofNat (n_hg n t m r c)) ≤ (e_hm b))) => ?_)
          refine q_step 1 184 [(0, .ref 70), (1, .int (Int32.ofNat m)), (2, .int (Int32.ofNat t)), (3, .int (1 : Int32)), (4, .int (e_hm b)), (5, .int (Int32.ofNat c)), (6, .int (Int32.ofNat c)), (7, .int (Int32.ofNat t))] [.ref 70] (s_rit (n + 1) t (q_up (q_up (q_up (q_up (q_up (s_start g) 75 n (Int32.ofNat c)) 76 n (Int32.ofNat m)) 77 n (1 : Int32)) 78 n (Int8.toInt32 (Int8.ofInt (-4)))) 70 27 ((s_start g) 70 4 + (1 : Int32)))) u (fun big n0 => sg_ha_80 big n0 (s_rit (n + 1) t (q_up (q_up (q_up (q_up (q_up (s_start g) 75 n (Int32.ofNat c)) 76 n (Int32.ofNat m)) 77 n (1 : Int32)) 78 n (Int8.toInt32 (Int8.ofInt (-4)))) 70 27 ((s_start g) 70 4 + (1 : Int32)))) u (Int32.ofNat m) (Int32.ofNat t) (e_hm b) (Int32.ofNat c) (Int32.ofNat c) (Int32.ofNat t)) ?_
          refine q_call (M2 := 197) (rest := []) (hag) (fun _ _ => rfl) ?_
          refine q_step 4 46 [(0, .ref 70), (1, .int (Int32.ofNat m)), (2, .int (Int32.ofNat t)), (3, .int (1 : Int32)), (4, .int (Int32.ofNat (n_hg n t m r c))), (5, .int (Int32.ofNat c)), (6, .int ((Int32.ofNat c) + (1 : Int32))), (7, .int (Int32.ofNat t))] [] (s_rit (n + 1) t (q_up (q_up (q_up (q_up (q_up (s_start g) 75 n (Int32.ofNat c)) 76 n (Int32.ofNat m)) 77 n (1 : Int32)) 78 n (Int8.toInt32 (Int8.ofInt (-4)))) 70 27 ((s_start g) 70 4 + (1 : Int32)))) u (fun big n0 => sg_ha_81 big n0 (s_rit (n + 1) t (q_up (q_up (q_up (q_up (q_up (s_start g) 75 n (Int32.ofNat c)) 76 n (Int32.ofNat m)) 77 n (1 : Int32)) 78 n (Int8.toInt32 (Int8.ofInt (-4)))) 70 27 ((s_start g) 70 4 + (1 : Int32)))) u (Int32.ofNat m) (Int32.ofNat t) (e_hm b) (Int32.ofNat c) (Int32.ofNat c) (Int32.ofNat t) (Int32.ofNat (n_hg n t m r c))) ?_
          refine q_weak [(0, .ref 70), (1, .int (Int32.ofNat m)), (2, .int (Int32.ofNat t)), (3, .int (1 : Int32)), (4, .int (Int32.ofNat (n_hg n t m r c))), (5, .int (Int32.ofNat c)), (6, .int ((Int32.ofNat c) + (1 : Int32)))] (q_sub.cons rfl (q_sub.cons rfl (q_sub.cons rfl (q_sub.cons rfl (q_sub.cons rfl (q_sub.cons rfl (q_sub.cons rfl q_sub.nil))))))) ?_
          have e : f_h1 (p_fr n r) (n_hg n t m r) c b = (some (c, n_hg n t m r c)) := f_h1_new hfr ((e_hm_lt hA hb).mp hc0)
          rw [q_succ, f_hb, e]
          exact q_EV.imp (ih (c + 1) (some (c, n_hg n t m r c)) _ (by omega) (w_st_sm hf h5 hs) (fun p hp => by rw [hf.1 71 (by omega)]; exact hg p hp) (by rw [← e]; exact n_hok_1 hA (by omega) hb)) (fun R z => w_po_r hf rfl z)
      · refine q_step 2 46 [(0, .ref 70), (1, .int (Int32.ofNat m)), (2, .int (Int32.ofNat t)), (3, .int (1 : Int32)), (4, .int (e_hm b)), (5, .int (e_hf b)), (6, .int ((Int32.ofNat c) + (1 : Int32)))] [] (s_start g) u (fun big n0 => sg_ha_66 big n0 (s_start g) u (Int32.ofNat m) (Int32.ofNat t) (e_hm b) (e_hf b) (Int32.ofNat c)) ?_
        have e : f_h1 (p_fr n r) (n_hg n t m r) c b = b := f_h1_no (Classical.byContradiction (fun y => (fun z => hc2 z.2) (p_fr_iff.mp y)))
        rw [q_succ, f_hb, e]
        exact q_EV.imp (ih (c + 1) b (s_start g) (by omega) (w_st_sm s_start_fr h5 hs) (fun p hp => by rw [s_start_fr.1 71 (by omega)]; exact hg p hp) hb) (fun R z => w_po_r s_start_fr rfl z)
theorem r_hang1 {n W H : Nat} {g r : qM} (u : qW) (h : w_ok n W H r) (hs : w_sm n (s_start g) r) (h5 : n ≤ 5) {m t : Nat} (hm : 1 ≤ m ∧ m ≤ 3) (ht : t ≤ 12) (hg : ∀ p, p < n → g 71 (15 + p) = r 78 p) : w_BS w_fr 209 [.ref 70, .int (Int32.ofNat m), .int (Int32.ofNat t), .int (1 : Int32)] g u (.int (f_agw 1 (f_hang n W H t m r))) := by
  refine w_bs (mm := m_209) rfl (Nat.le_of_ble_eq_true rfl) rfl ?_
  refine q_step 4 6 [(0, .ref 70), (1, .int (Int32.ofNat m)), (2, .int (Int32.ofNat t)), (3, .int (1 : Int32))] [.long (3 : Int64), .long (1 : Int64), .long (Int32.toInt64 (Int32.ofNat m))] g u (fun big n0 => sg_ha_82 big n0 g u (Int32.ofNat m) (Int32.ofNat t)) ?_
  refine q_call (M2 := 149) (rest := []) (b_in1 (m := m) (lo := 1) (hi := 3) g u (by omega) (by omega) (by omega)) (fun _ _ => rfl) ?_
  refine q_step 5 18 [(0, .ref 70), (1, .int (Int32.ofNat m)), (2, .int (Int32.ofNat t)), (3, .int (1 : Int32))] [.long (12 : Int64), .long (0 : Int64), .long (Int32.toInt64 (Int32.ofNat t))] g u (fun big n0 => sg_ha_83 big n0 g u (Int32.ofNat m) (Int32.ofNat t)) ?_
  refine q_call (M2 := 149) (rest := []) (b_in1 (m := t) (lo := 0) (hi := 12) g u (by omega) (by omega) (by omega)) (fun _ _ => rfl) ?_
  refine q_step 5 28 [(0, .ref 70), (1, .int (Int32.ofNat m)), (2, .int (Int32.ofNat t)), (3, .int (1 : Int32))] [.long (1 : Int64), .long (0 : Int64), .long (1 : Int64)] g u (fun big n0 => sg_ha_84 big n0 g u (Int32.ofNat m) (Int32.ofNat t)) ?_
  refine q_call (M2 := 149) (rest := []) (show q_BS 149 [.long (1 : Int64), .long (0 : Int64), .long (1 : Int64)] g u (some (.int 1), g, u) from b_in _ _ _ _ _) (fun _ _ => rfl) ?_
  refine q_step 7 46 [(0, .ref 70), (1, .int (Int32.ofNat m)), (2, .int (Int32.ofNat t)), (3, .int (1 : Int32)), (4, .int (Int32.ofInt (-1))), (5, .int (Int8.toInt32 (Int8.ofInt (-4)))), (6, .int (0 : Int32))] [] g u (fun big n0 => sg_ha_85 big n0 g u (Int32.ofNat m) (Int32.ofNat t)) ?_
  exact rh_1 u h h5 hm (by omega) (w_WH h) (W * H) 0 none g (by omega) hs hg (fun x t e => by cases e)
end
section
/-! ODDS: rows of moods told by a function. -/
def gh_row (n : Nat) (f : Nat → Int32) (r : qM) : qM := s_row_ 76 f n r
theorem w_ok_row {n W H : Nat} {f : Nat → Int32} {r : qM} (hf : ∀ p, p < n → f p = 0 ∨ f p = 1 ∨ f p = 2 ∨ f p = 3) (h : w_ok n W H r) : w_ok n W H (gh_row n f r) := by
  obtain ⟨b, h1, h2, h3, h4, h5, h6, h7, h8⟩ := h
  refine ⟨b, h1, h2, h3, h4, h5, h6, fun p hp => ?_, h8⟩
  show (if p < n then f p else r 76 p) = 0 ∨ (if p < n then f p else r 76 p) = 1 ∨ (if p < n then f p else r 76 p) = 2 ∨ (if p < n then f p else r 76 p) = 3
  rw [if_pos hp]
  exact hf p hp
theorem w_cs_row {n : Nat} {f f' : Nat → Int32} {g r : qM} (hff : ∀ p, p < n → f' p = f p) (hc : w_cs 35 n g r) : w_cs 35 n (s_row_ 37 f' n g) (gh_row n f r) := by
  obtain ⟨c1, c6, c7⟩ := hc
  refine ⟨c1, fun d a b => c6 d a b, fun p hp => ⟨(c7 p hp).1, ?_, (c7 p hp).2.2⟩⟩
  show (if p < n then f' p else g 37 p) = (if p < n then f p else r 76 p)
  rw [if_pos hp, if_pos hp, hff p hp]
theorem w_sm_row {n : Nat} {f f' : Nat → Int32} {g r : qM} (hff : ∀ p, p < n → f' p = f p) (hs : w_sm n g r) : w_sm n (s_row_ 76 f' n g) (gh_row n f r) := by
  obtain ⟨c1, c6, c7⟩ := hs
  refine ⟨c1, fun d a b => c6 d a b, fun p hp => ⟨(c7 p hp).1, ?_, (c7 p hp).2.2⟩⟩
  show (if p < n then f' p else g 76 p) = (if p < n then f p else r 76 p)
  rw [if_pos hp, if_pos hp, hff p hp]
def s_rfm (f : Nat → Int32) (n : Nat) (g : qM) : qM := s_row_ 37 f n (s_cpl 35 20 g)
def s_rfg (f : Nat → Int32) (n t : Nat) (g : qM) : qM := q_up (s_tss 35 n t (s_rfm f n g)) 35 5 (s_rfm f n g 35 5 + Int32.ofNat t)
theorem s_rfm_fc {f : Nat → Int32} {n : Nat} {g : qM} : w_fc g (s_rfm f n g) := w_fc.trans w_cpl_fc (fun b hb => s_row_o (by omega))
theorem s_rfg_fc {f : Nat → Int32} {n t : Nat} {g : qM} : w_fc g (s_rfg f n t g) := w_fc.up (w_fc.trans s_rfm_fc (s_tss_35 t _)) (by omega)
theorem s_rfm_tr {f : Nat → Int32} {n : Nat} {g r : qM} (h : w_tr n g r) : w_tr n (s_rfm f n g) r := w_tr_cg (w_tr_cpl h) (fun j _ => by unfold s_rfm; rw [s_row_o (by omega)]) (by unfold s_rfm; exact s_row_o (by omega)) (by unfold s_rfm; exact s_row_o (by omega))
theorem s_rfg_tr {f : Nat → Int32} {n t : Nat} {g r : qM} (h : w_tr n g r) : w_tr n (s_rfg f n t g) r := w_tr_up (w_tr_tss t (s_rfm f n g) (s_rfm_tr h))
theorem s_rfg_go {f : Nat → Int32} {n t : Nat} {g : qM} : s_rfg f n t g 39 = g 39 := by
  have e2 : s_rfm f n g 39 = g 39 := by
    unfold s_rfm
    rw [s_row_o (by omega), s_cpl_o (by omega)]
  unfold s_rfg
  rw [q_up_ne (by omega)]
  exact (s_tss_go (T := 35) (Or.inr rfl) t (s_rfm f n g)).trans e2
theorem s_row_k {A i : Nat} {f : Nat → Int32} {g : qM} (h : f i = g A i) : s_row_ A f (i + 1) g = s_row_ A f i g := by
  funext a j
  unfold s_row_
  by_cases ha : a = A
  · subst ha
    rw [if_pos rfl, if_pos rfl]
    by_cases e : j = i
    · subst e
      rw [if_pos (by omega), if_neg (by omega), h]
    · by_cases l : j < i
      · rw [if_pos (by omega), if_pos l]
      · rw [if_neg (by omega), if_neg l]
  · rw [if_neg ha, if_neg ha]
theorem s_row_r {A i : Nat} {f : Nat → Int32} {g : qM} : s_row_ A f i g A i = g A i := by
  unfold s_row_
  rw [if_pos rfl, if_neg (by omega)]
theorem s_row_cg {A i : Nat} {f f' : Nat → Int32} {g : qM} (h : ∀ p, p < i → f p = f' p) : s_row_ A f i g = s_row_ A f' i g := by
  funext a j
  unfold s_row_
  by_cases ha : a = A
  · rw [if_pos ha, if_pos ha]
    by_cases l : j < i
    · rw [if_pos l, if_pos l, h j l]
    · rw [if_neg l, if_neg l]
  · rw [if_neg ha, if_neg ha]
/-! numbers: sums, products -/
def n_pr (f : Nat → Nat) : Nat → Nat → Nat → Nat
  | 0, _, a => a
  | k + 1, i, a => n_pr f k (i + 1) (a * f i)
def n_su (f : Nat → Nat) : Nat → Nat → Nat → Nat
  | 0, _, a => a
  | k + 1, i, a => n_su f k (i + 1) (a + f i)
theorem n_pr_mul {f : Nat → Nat} : ∀ k i a, n_pr f k i a = a * n_pr f k i 1
  | 0, _, a => (Nat.mul_one a).symm
  | k + 1, i, a => by
    rw [n_pr, n_pr, n_pr_mul k (i + 1) (a * f i), n_pr_mul k (i + 1) (1 * f i), Nat.one_mul, Nat.mul_assoc]
theorem n_pr_app {f : Nat → Nat} : ∀ k i a, n_pr f (k + 1) i a = n_pr f k i a * f (i + k)
  | 0, _, _ => rfl
  | k + 1, i, a => by
    rw [n_pr, n_pr_app k (i + 1) (a * f i), n_pr, show i + 1 + k = i + (k + 1) by omega]
theorem n_su_add {f : Nat → Nat} : ∀ k i a, n_su f k i a = a + n_su f k i 0
  | 0, _, _ => rfl
  | k + 1, i, a => by
    rw [n_su, n_su, n_su_add k (i + 1) (a + f i), n_su_add k (i + 1) (0 + f i), Nat.zero_add, Nat.add_assoc]
theorem n_su_app {f : Nat → Nat} : ∀ k m i, n_su f (k + m) i 0 = n_su f k i 0 + n_su f m (i + k) 0
  | 0, m, i => by rw [Nat.zero_add, Nat.add_zero, n_su, Nat.zero_add]
  | k + 1, m, i => by
    rw [show k + 1 + m = (k + m) + 1 by omega, n_su, n_su_add (k + m) (i + 1) (0 + f i), n_su_app k m (i + 1), n_su, n_su_add k (i + 1) (0 + f i), show i + 1 + k = i + (k + 1) by omega]
    exact (Nat.add_assoc _ _ _).symm
theorem n_su_cg {f f' : Nat → Nat} : ∀ k i j, (∀ x, x < k → f (i + x) = f' (j + x)) → n_su f k i 0 = n_su f' k j 0
  | 0, _, _, _ => rfl
  | k + 1, i, j, h => by
    have h0 := h 0 (by omega)
    rw [Nat.add_zero, Nat.add_zero] at h0
    rw [n_su, n_su, n_su_add, n_su_add k (j + 1), h0, n_su_cg k (i + 1) (j + 1) (fun x hx => by
      have := h (x + 1) (by omega)
      rw [show i + 1 + x = i + (x + 1) by omega, show j + 1 + x = j + (x + 1) by omega]
      exact this)]
theorem n_su_mul {f : Nat → Nat} {c : Nat} : ∀ k i, n_su (fun x => f x * c) k i 0 = n_su f k i 0 * c
  | 0, _ => by rw [n_su, n_su, Nat.zero_mul]
  | k + 1, i => by
    rw [n_su, n_su, n_su_add, n_su_add k (i + 1) (0 + f i), n_su_mul k (i + 1), Nat.zero_add, Nat.zero_add, Nat.add_mul]
theorem n_pr_cg {f f' : Nat → Nat} : ∀ k i a, (∀ j, i ≤ j → j < i + k → f j = f' j) → n_pr f k i a = n_pr f' k i a
  | 0, _, _, _ => rfl
  | k + 1, i, a, h => by
    rw [n_pr, n_pr, h i (Nat.le_refl _) (by omega), n_pr_cg k (i + 1) _ (fun j a b => h j (by omega) (by omega))]
theorem n_pr_le {f : Nat → Nat} : ∀ k i a, (∀ j, f j ≤ 10) → n_pr f k i a ≤ a * 10 ^ k
  | 0, _, a, _ => by rw [n_pr, Nat.pow_zero, Nat.mul_one]; exact Nat.le_refl _
  | k + 1, i, a, h => by
    rw [n_pr]
    refine Nat.le_trans (n_pr_le k (i + 1) (a * f i) h) ?_
    rw [Nat.pow_succ, Nat.mul_comm (10 ^ k) 10, ← Nat.mul_assoc]
    exact Nat.mul_le_mul_right _ (Nat.mul_le_mul_left _ (h i))
theorem n_su_le {f : Nat → Nat} {M : Nat} (h : ∀ j, f j ≤ M) : ∀ k i, n_su f k i 0 ≤ k * M
  | 0, _ => by rw [n_su, Nat.zero_mul]; exact Nat.le_refl _
  | k + 1, i => by
    rw [n_su, n_su_add, Nat.zero_add, Nat.add_mul, Nat.one_mul, Nat.add_comm]
    exact Nat.add_le_add (n_su_le h k (i + 1)) (h i)
/-- bit p of a row -/
def n_bit (row p : Nat) : Bool := Nat.beq (row / 2 ^ p % 2) 1
/-- all settings of the bits below k, each with its weight -/
def n_T (w : Nat → Bool → Nat) (A : (Nat → Bool) → Nat) : Nat → (Nat → Bool) → Nat
  | 0, β => A β
  | k + 1, β => w k false * n_T w A k (fun p => if p = k then false else β p) + w k true * n_T w A k (fun p => if p = k then true else β p)
def n_mix (k row : Nat) (β : Nat → Bool) (p : Nat) : Bool := if p < k then n_bit row p else β p
theorem n_bit_lt {row k : Nat} (h : row < 2 ^ k) : n_bit row k = false := by
  unfold n_bit
  rw [Nat.div_eq_of_lt h]
  rfl
theorem n_bit_hi {row k : Nat} (h : row < 2 ^ k) : n_bit (2 ^ k + row) k = true := by
  unfold n_bit
  have hp : 0 < 2 ^ k := Nat.two_pow_pos k
  rw [Nat.add_comm, show row + 2 ^ k = row + 1 * 2 ^ k by rw [Nat.one_mul], Nat.add_mul_div_right _ _ hp, Nat.div_eq_of_lt h]
  rfl
theorem n_bit_lo {row k p : Nat} (h : p < k) : n_bit (2 ^ k + row) p = n_bit row p := by
  unfold n_bit
  have hp : 0 < 2 ^ p := Nat.two_pow_pos p
  have e : 2 ^ k = 2 * 2 ^ (k - p - 1) * 2 ^ p := by
    rw [Nat.mul_comm 2, Nat.mul_assoc, ← Nat.pow_succ', ← Nat.pow_add]
    congr 1
    omega
  rw [e, Nat.add_comm, Nat.add_mul_div_right _ _ hp, Nat.add_mul_mod_self_left]
theorem n_T_rows {w : Nat → Bool → Nat} {A : (Nat → Bool) → Nat} : ∀ k β, n_su (fun row => n_pr (fun p => w p (n_bit row p)) k 0 1 * A (n_mix k row β)) (2 ^ k) 0 0 = n_T w A k β
  | 0, β => by
    rw [show (2 : Nat) ^ 0 = 0 + 1 from rfl, n_su, n_su, n_pr, n_T, Nat.zero_add, Nat.one_mul]
    congr 1
  | k + 1, β => by
    rw [show (2 : Nat) ^ (k + 1) = 2 ^ k + 2 ^ k by rw [Nat.pow_succ]; omega, n_su_app, n_T, ← n_T_rows k, ← n_T_rows k, Nat.zero_add, Nat.mul_comm (w k false), Nat.mul_comm (w k true), ← n_su_mul, ← n_su_mul]
    congr 1
    · refine n_su_cg (2 ^ k) 0 0 (fun row hr => ?_)
      rw [Nat.zero_add, n_pr_app, Nat.zero_add, n_bit_lt hr]
      rw [Nat.mul_assoc, Nat.mul_comm (w k false), ← Nat.mul_assoc]
      congr 2
      congr 1
      funext p
      unfold n_mix
      by_cases e : p = k
      · subst e
        rw [if_pos (by omega), if_neg (by omega), n_bit_lt hr]
        show false = if p = p then false else β p
        rw [if_pos rfl]
      · by_cases l : p < k
        · rw [if_pos (by omega), if_pos l]
        · rw [if_neg (by omega), if_neg l]
          show β p = if p = k then false else β p
          rw [if_neg e]
    · refine n_su_cg (2 ^ k) (2 ^ k) 0 (fun row hr => ?_)
      rw [Nat.zero_add, n_pr_app, Nat.zero_add, n_bit_hi hr]
      rw [Nat.mul_assoc, Nat.mul_comm (w k true), ← Nat.mul_assoc]
      congr 2
      · exact n_pr_cg k 0 1 (fun j _ hj => by
          show w j (n_bit (2 ^ k + row) j) = w j (n_bit row j)
          rw [n_bit_lo (by omega)])
      · congr 1
        funext p
        unfold n_mix
        by_cases e : p = k
        · subst e
          rw [if_pos (by omega), if_neg (by omega), n_bit_hi hr]
          show true = if p = p then true else β p
          rw [if_pos rfl]
        · by_cases l : p < k
          · rw [if_pos (by omega), if_pos l, n_bit_lo l]
          · rw [if_neg (by omega), if_neg l]
            show β p = if p = k then true else β p
            rw [if_neg e]
theorem n_T_cg {w : Nat → Bool → Nat} {A : (Nat → Bool) → Nat} {z : Nat} (hA : ∀ β b, A (fun p => if p = z then b else β p) = A β) : ∀ k β b, k ≤ z → n_T w A k (fun p => if p = z then b else β p) = n_T w A k β
  | 0, β, b, _ => hA β b
  | k + 1, β, b, hz => by
    have sw : ∀ c : Bool, (fun p => if p = k then c else (fun p => if p = z then b else β p) p) = (fun p => if p = z then b else (fun p => if p = k then c else β p) p) := fun c => by
      funext p
      by_cases e : p = k
      · subst e
        show (if p = p then c else _) = (if p = z then b else (if p = p then c else β p))
        rw [if_pos rfl, if_neg (by omega), if_pos rfl]
      · by_cases e2 : p = z
        · show (if p = k then c else (if p = z then b else β p)) = (if p = z then b else (if p = k then c else β p))
          rw [if_neg e, if_pos e2, if_pos e2]
        · show (if p = k then c else (if p = z then b else β p)) = (if p = z then b else (if p = k then c else β p))
          rw [if_neg e, if_neg e2, if_neg e2, if_neg e]
    rw [n_T, n_T, sw false, sw true, n_T_cg hA k _ b (by omega), n_T_cg hA k _ b (by omega)]
/-- the reference counts those without MOOD ten times: sums as many times as large -/
theorem n_T_ten {wc wr : Nat → Bool → Nat} {A : (Nat → Bool) → Nat} {Z : Nat → Prop} [DecidablePred Z] (hA : ∀ z, Z z → ∀ β b, A (fun p => if p = z then b else β p) = A β) (hz : ∀ z, Z z → wc z false = 1 ∧ wc z true = 0 ∧ wr z false + wr z true = 10) (hn : ∀ z, ¬ Z z → ∀ b, wc z b = wr z b) : ∀ k β, n_T wr A k β = n_pr (fun p => if Z p then 10 else 1) k 0 1 * n_T wc A k β
  | 0, β => by rw [n_T, n_T, n_pr, Nat.one_mul]
  | k + 1, β => by
    have ih := n_T_ten hA hz hn k
    rw [n_pr_app, Nat.zero_add]
    by_cases e : Z k
    · rw [if_pos e]
      obtain ⟨h1, h2, h3⟩ := hz k e
      have a1 := n_T_cg (w := wr) (hA k e) k β true (Nat.le_refl _)
      have a0 := n_T_cg (w := wr) (hA k e) k β false (Nat.le_refl _)
      have c0 := n_T_cg (w := wc) (hA k e) k β false (Nat.le_refl _)
      rw [n_T, n_T, a1, a0, c0, h1, h2, Nat.one_mul, Nat.zero_mul, Nat.add_zero, ← Nat.add_mul, h3, ih β, Nat.mul_comm 10, Nat.mul_assoc, Nat.mul_assoc, Nat.mul_comm 10]
    · rw [if_neg e, Nat.mul_one, n_T, n_T, ih, ih, hn k e false, hn k e true, Nat.mul_add, ← Nat.mul_assoc, ← Nat.mul_assoc, ← Nat.mul_assoc, ← Nat.mul_assoc, Nat.mul_comm (wr k false), Nat.mul_comm (wr k true)]
/-! the bits as the machine has them -/
theorem s_bitn_fin : (List.range 64).all (fun row => (List.range 6).all (fun p => decide (s_bit (Int32.ofNat row) (Int32.ofNat p) = if n_bit row p then 1 else 0))) = true := by decide +kernel
theorem s_bitn {row p : Nat} (hr : row < 64) (hp : p < 6) : s_bit (Int32.ofNat row) (Int32.ofNat p) = if n_bit row p then 1 else 0 := of_decide_eq_true (List.all_eq_true.mp (List.all_eq_true.mp s_bitn_fin row (List.mem_range.mpr hr)) p (List.mem_range.mpr hp))
/-- a MOOD flipped or not -/
def f_flb (r : qM) (β : Nat → Bool) (p : Nat) : Int32 := if β p then s_fo (r 76 p) else r 76 p
def n_oA (n t : Nat) (r : qM) (β : Nat → Bool) : Nat := if f_at n (s_rit n t (gh_row n (f_flb r β) r)) = f_hav n r then 1 else 0
def n_wc (r : qM) (v p : Nat) (b : Bool) : Nat := if r 76 p = 0 then (if b then 0 else 1) else (if b then v else 10 - v)
def n_wr (v : Nat) (b : Bool) : Nat := if b then v else 10 - v
/-- the class's sum and whole; the reference's -/
def n_odc (n v t : Nat) (r : qM) : Nat := n_su (fun row => n_pr (fun p => n_wc r v p (n_bit row p)) n 0 1 * n_oA n t r (n_bit row)) (2 ^ n) 0 0
def n_odr (n v t : Nat) (r : qM) : Nat := n_su (fun row => n_pr (fun p => n_wr v (n_bit row p)) n 0 1 * n_oA n t r (n_bit row)) (2 ^ n) 0 0
def n_whc (n : Nat) (r : qM) : Nat := n_pr (fun p => if r 76 p = 0 then 1 else 10) n 0 1
theorem n_oA_cg {n t : Nat} {r : qM} {β β' : Nat → Bool} (h : ∀ p, p < n → f_flb r β p = f_flb r β' p) : n_oA n t r β = n_oA n t r β' := by
  unfold n_oA gh_row
  rw [s_row_cg (A := 76) (g := r) h]
theorem n_oA_mix {n t : Nat} {r : qM} (row : Nat) (β : Nat → Bool) : n_oA n t r (n_mix n row β) = n_oA n t r (n_bit row) := n_oA_cg (fun p hp => by
  unfold f_flb n_mix
  rw [if_pos hp])
theorem n_od_ten {n v t : Nat} (hv : v ≤ 10) (r : qM) : n_odr n v t r = n_pr (fun p => if r 76 p = 0 then 10 else 1) n 0 1 * n_odc n v t r := by
  have a := n_T_rows (w := fun p b => n_wr v b) (A := n_oA n t r) n (fun _ => false)
  have b := n_T_rows (w := fun p b => n_wc r v p b) (A := n_oA n t r) n (fun _ => false)
  simp only [n_oA_mix] at a b
  unfold n_odr n_odc
  rw [a, b]
  refine n_T_ten (Z := fun p => r 76 p = 0) (fun z hz β b => ?_) (fun z hz => ?_) (fun z hz b => ?_) n (fun _ => false)
  · refine n_oA_cg (fun p hp => ?_)
    unfold f_flb
    by_cases e : p = z
    · subst e
      have h0 : s_fo (r 76 p) = r 76 p := by
        rw [show r 76 p = 0 from hz]
        rfl
      rw [h0]
      split <;> split <;> rfl
    · show (if (if p = z then b else β p) = true then s_fo (r 76 p) else r 76 p) = if β p = true then s_fo (r 76 p) else r 76 p
      rw [if_neg e]
  · refine ⟨?_, ?_, ?_⟩
    · show (if r 76 z = 0 then (if false = true then 0 else 1) else _) = 1
      rw [if_pos hz]
      rfl
    · show (if r 76 z = 0 then (if true = true then 0 else 1) else _) = 0
      rw [if_pos hz]
      rfl
    · show (if false = true then v else 10 - v) + (if true = true then v else 10 - v) = 10
      rw [if_neg (by decide), if_pos rfl]
      omega
  · show (if r 76 z = 0 then _ else (if b = true then v else 10 - v)) = (if b = true then v else 10 - v)
    rw [if_neg hz]
theorem n_wh_ten (n : Nat) (r : qM) : 10 ^ n = n_pr (fun p => if r 76 p = 0 then 10 else 1) n 0 1 * n_whc n r := by
  unfold n_whc
  induction n with
  | zero => rfl
  | succ k ih =>
    rw [n_pr_app, n_pr_app, Nat.zero_add, Nat.pow_succ, ih]
    by_cases e : r 76 k = 0
    · rw [if_pos e, if_pos e, Nat.mul_one]
      rw [Nat.mul_assoc, Nat.mul_assoc, Nat.mul_comm 10]
    · rw [if_neg e, if_neg e, Nat.mul_one, Nat.mul_assoc]
/-! the greatest common divisor -/
def n_eu : Nat → Nat → Nat → Nat
  | 0, a, _ => a
  | k + 1, a, b => if b = 0 then a else n_eu k b (a % b)
theorem n_eu_0 : ∀ k a, n_eu k a 0 = a
  | 0, _ => rfl
  | _ + 1, _ => rfl
theorem n_eu_ok : ∀ j k a b, b < 2 ^ j → 2 * j ≤ k → n_eu k a b = Nat.gcd a b
  | 0, k, a, b, hb, _ => by
    have : b = 0 := by rw [Nat.pow_zero] at hb; omega
    subst this
    rw [n_eu_0, Nat.gcd_zero_right]
  | j + 1, k, a, b, hb, hk => by
    obtain ⟨m, rfl⟩ : ∃ m, k = m + 1 + 1 := ⟨k - 2, by omega⟩
    rw [n_eu]
    by_cases e : b = 0
    · rw [if_pos e, e, Nat.gcd_zero_right]
    · rw [if_neg e, n_eu, show Nat.gcd a b = Nat.gcd b (a % b) by rw [Nat.gcd_comm b, ← Nat.gcd_rec, Nat.gcd_comm]]
      by_cases e2 : a % b = 0
      · rw [if_pos e2, e2, Nat.gcd_zero_right]
      · rw [if_neg e2, show Nat.gcd b (a % b) = Nat.gcd (a % b) (b % (a % b)) by rw [Nat.gcd_comm (a % b), ← Nat.gcd_rec, Nat.gcd_comm]]
        refine n_eu_ok j m (a % b) (b % (a % b)) ?_ (by omega)
        have h1 : a % b < b := Nat.mod_lt _ (by omega)
        have h2 : b % (a % b) < a % b := Nat.mod_lt _ (by omega)
        have h3 : b % (a % b) + (a % b) ≤ b := by
          have := Nat.mod_add_div b (a % b)
          have hq : 1 ≤ b / (a % b) := (Nat.one_le_div_iff (by omega)).mpr (by omega)
          have := Nat.mul_le_mul_left (a % b) hq
          omega
        rw [Nat.pow_succ] at hb
        omega
/-- the fraction in lowest terms: w 0 above, 1 below -/
def f_od (w n v t : Nat) (r : qM) : Int64 := Int64.ofNat ((if w = 0 then n_odc n v t r else n_whc n r) / Nat.gcd (n_odc n v t r) (n_whc n r))
theorem n_bnd {n : Nat} (h : n ≤ 6) : 2 ^ n ≤ 64 ∧ 10 ^ n ≤ 1000000 := ⟨Nat.pow_le_pow_right (n := 2) (by omega) h, Nat.pow_le_pow_right (n := 10) (by omega) h⟩
theorem n_wh_pos (n : Nat) (r : qM) : 0 < n_whc n r := by
  have h := n_wh_ten n r
  have p : 0 < 10 ^ n := Nat.pow_pos (by omega)
  by_cases e : n_whc n r = 0
  · rw [e, Nat.mul_zero] at h
    omega
  · omega
theorem n_wh_le {n : Nat} (h : n ≤ 6) (r : qM) : n_whc n r ≤ 1000000 := by
  have := n_pr_le (f := fun p => if r 76 p = 0 then 1 else 10) n 0 1 (fun j => by
    show (if r 76 j = 0 then 1 else 10) ≤ 10
    split <;> omega)
  unfold n_whc
  have b := (n_bnd h).2
  omega
theorem n_oA_le (n t : Nat) (r : qM) (β : Nat → Bool) : n_oA n t r β ≤ 1 := by
  unfold n_oA
  split <;> omega
theorem n_wc_le {r : qM} {v p : Nat} {b : Bool} (hv : v ≤ 10) : n_wc r v p b ≤ 10 := by
  unfold n_wc
  split <;> split <;> omega
theorem n_wr_le {v : Nat} {b : Bool} (hv : v ≤ 10) : n_wr v b ≤ 10 := by
  unfold n_wr
  split <;> omega
theorem n_odc_le {n v t : Nat} (h : n ≤ 6) (hv : v ≤ 10) (r : qM) : n_odc n v t r ≤ 64000000 := by
  have a := n_su_le (f := fun row => n_pr (fun p => n_wc r v p (n_bit row p)) n 0 1 * n_oA n t r (n_bit row)) (M := 1000000) (fun row => by
    have x := n_pr_le (f := fun p => n_wc r v p (n_bit row p)) n 0 1 (fun j => n_wc_le hv)
    have y := n_oA_le n t r (n_bit row)
    have b := (n_bnd h).2
    refine Nat.le_trans (Nat.mul_le_mul x y) ?_
    omega) (2 ^ n) 0
  have b := (n_bnd h).1
  unfold n_odc
  omega
theorem n_odr_le {n v t : Nat} (h : n ≤ 6) (hv : v ≤ 10) (r : qM) : n_odr n v t r ≤ 64000000 := by
  have a := n_su_le (f := fun row => n_pr (fun p => n_wr v (n_bit row p)) n 0 1 * n_oA n t r (n_bit row)) (M := 1000000) (fun row => by
    have x := n_pr_le (f := fun p => n_wr v (n_bit row p)) n 0 1 (fun j => n_wr_le hv)
    have y := n_oA_le n t r (n_bit row)
    have b := (n_bnd h).2
    refine Nat.le_trans (Nat.mul_le_mul x y) ?_
    omega) (2 ^ n) 0
  have b := (n_bnd h).1
  unfold n_odr
  omega
/-- both fractions are one -/
theorem n_od_same {n v t : Nat} (hv : v ≤ 10) (r : qM) : n_odr n v t r / Nat.gcd (10 ^ n) (n_odr n v t r) = n_odc n v t r / Nat.gcd (n_odc n v t r) (n_whc n r) ∧ 10 ^ n / Nat.gcd (10 ^ n) (n_odr n v t r) = n_whc n r / Nat.gcd (n_odc n v t r) (n_whc n r) := by
  have h1 := n_od_ten (t := t) (n := n) hv r
  have h2 := n_wh_ten n r
  generalize hc : n_pr (fun p => if r 76 p = 0 then 10 else 1) n 0 1 = c at h1 h2
  have hp : 0 < 10 ^ n := Nat.pow_pos (by omega)
  have hcp : 0 < c := by
    by_cases e : c = 0
    · rw [e, Nat.zero_mul] at h2
      omega
    · omega
  rw [h1, h2, Nat.gcd_mul_left, Nat.gcd_comm (n_whc n r), Nat.mul_div_mul_left _ _ hcp, Nat.mul_div_mul_left _ _ hcp]
  exact ⟨rfl, rfl⟩
/-! longs -/
theorem q_l64 {a : Nat} (h : a < 1000000000) : (Int64.ofNat a).toInt = (a : Int) := Int64.toInt_ofNat_of_lt (by omega)
theorem q_ldv {a b : Nat} (ha : a < 1000000000) (hb : b < 1000000000) : Int64.ofNat a / Int64.ofNat b = Int64.ofNat (a / b) := by
  apply Int64.toInt_inj.mp
  have hl := Nat.div_le_self a b
  rw [Int64.toInt_div, q_l64 ha, q_l64 hb, q_l64 (by omega)]
  show Int.bmod ((a / b : Nat) : Int) _ = ((a / b : Nat) : Int)
  generalize a / b = x at hl ⊢
  exact Int.bmod_eq_of_le (by omega) (by omega)
theorem q_lsb {a b : Nat} (ha : a < 1000000000) (hb : b ≤ a) : Int64.ofNat a - Int64.ofNat b = Int64.ofNat (a - b) := by
  apply Int64.toInt_inj.mp
  rw [Int64.toInt_sub, q_l64 ha, q_l64 (by omega), q_l64 (by omega)]
  rw [show ((a - b : Nat) : Int) = (a : Int) - (b : Int) by omega]
  exact Int.bmod_eq_of_le (by omega) (by omega)
theorem q_lrm {a b : Nat} (ha : a < 1000000000) (hb : b < 1000000000) : Int64.ofNat a - Int64.ofNat a / Int64.ofNat b * Int64.ofNat b = Int64.ofNat (a % b) := by
  have hl := Nat.div_mul_le_self a b
  rw [q_ldv ha hb, ← Int64.ofNat_mul, q_lsb ha hl]
  congr 1
  have := Nat.div_add_mod' a b
  omega
theorem q_leq {a b : Nat} (ha : a < 1000000000) (hb : b < 1000000000) : Int64.ofNat a = Int64.ofNat b ↔ a = b := ⟨fun e => by
  have z := congrArg Int64.toInt e
  rw [q_l64 ha, q_l64 hb] at z
  omega, fun e => by rw [e]⟩
theorem s_lgt {a : Nat} (ha : a < 1000000000) : (lg_cmp (Int64.ofNat a) 0 ≤ 0) ↔ a = 0 := by
  have e : ¬ (0 < lg_cmp (Int64.ofNat a) 0) ↔ a = 0 := by
    rw [s_cmpg, Int64.lt_iff_toInt_lt, q_l64 ha]
    have z : (0 : Int64).toInt = 0 := rfl
    omega
  rw [← e]
  exact Int32.not_lt.symm
theorem s_rows2 {n : Nat} (h : n ≤ 6) : (1 : Int32) <<< (Int32.ofNat n &&& 31) = Int32.ofNat (2 ^ n) := by
  rcases (show n = 0 ∨ n = 1 ∨ n = 2 ∨ n = 3 ∨ n = 4 ∨ n = 5 ∨ n = 6 by omega) with e | e | e | e | e | e | e <;> subst e <;> decide +kernel
section EVL
variable {mm : pm_M} {pc : Nat} {lv : pm_L} {st : List Value} {g : qM} {u : qW} {Q : Option Value × qM × qW → Prop}
theorem q_ldiv {x y : Int64} (hy : y ≠ 0) (he : pm_at mm pc = some (.ldiv, 0, 0, 0)) (hE : q_EV mm (pc + 1) lv (.long (x / y) :: st) g u Q) : q_EV mm pc lv (.long y :: .long x :: st) g u Q := by
  refine q_step 1 (pc + 1) lv (.long (x / y) :: st) g u (fun big n => ?_) hE
  show (match pm_at mm pc with
    | some e => qm_step pm_m big mm (qm_run pm_m big mm n) e pc lv (.long y :: .long x :: st) g u
    | none => none) = _
  rw [he]
  show qm_blz (qm_run pm_m big mm n) (fun x y => x / y) pc lv (.long y :: .long x :: st) g u = _
  unfold qm_blz
  dsimp only
  rw [if_neg hy]
theorem q_lrem {x y : Int64} (hy : y ≠ 0) (he : pm_at mm pc = some (.lrem, 0, 0, 0)) (hE : q_EV mm (pc + 1) lv (.long (x - x / y * y) :: st) g u Q) : q_EV mm pc lv (.long y :: .long x :: st) g u Q := by
  refine q_step 1 (pc + 1) lv (.long (x - x / y * y) :: st) g u (fun big n => ?_) hE
  show (match pm_at mm pc with
    | some e => qm_step pm_m big mm (qm_run pm_m big mm n) e pc lv (.long y :: .long x :: st) g u
    | none => none) = _
  rw [he]
  show qm_blz (qm_run pm_m big mm n) (fun x y => x - x / y * y) pc lv (.long y :: .long x :: st) g u = _
  unfold qm_blz
  dsimp only
  rw [if_neg hy]
end EVL
def n_wtc (n v : Nat) (r : qM) (row : Nat) : Nat := n_pr (fun p => n_wc r v p (n_bit row p)) n 0 1
def n_wtr (n v : Nat) (row : Nat) : Nat := n_pr (fun p => n_wr v (n_bit row p)) n 0 1
theorem n_wtc_le {n v : Nat} (h : n ≤ 6) (hv : v ≤ 10) (r : qM) (row : Nat) : n_wtc n v r row ≤ 1000000 := by
  have x := n_pr_le (f := fun p => n_wc r v p (n_bit row p)) n 0 1 (fun j => n_wc_le hv)
  have b := (n_bnd h).2
  unfold n_wtc
  rw [Nat.one_mul] at x
  exact Nat.le_trans x b
theorem n_wtr_le {n v : Nat} (h : n ≤ 6) (hv : v ≤ 10) (row : Nat) : n_wtr n v row ≤ 1000000 := by
  have x := n_pr_le (f := fun p => n_wr v (n_bit row p)) n 0 1 (fun j => n_wr_le hv)
  have b := (n_bnd h).2
  unfold n_wtr
  rw [Nat.one_mul] at x
  exact Nat.le_trans x b
theorem f_flb_4 {n W H : Nat} {r : qM} (h : w_ok n W H r) (β : Nat → Bool) : ∀ p, p < n → f_flb r β p = 0 ∨ f_flb r β p = 1 ∨ f_flb r β p = 2 ∨ f_flb r β p = 3 := fun p hp => by
  unfold f_flb
  split
  · rw [s_fo_fd (h.2.2.2.2.2.2.2.1 p hp)]
    exact s_fd_4 (h.2.2.2.2.2.2.2.1 p hp)
  · exact h.2.2.2.2.2.2.2.1 p hp
theorem n_oA_01 (n t : Nat) (r : qM) (β : Nat → Bool) : n_oA n t r β = 0 ∨ n_oA n t r β = 1 := by
  unfold n_oA
  split
  · exact Or.inr rfl
  · exact Or.inl rfl
theorem n_oA_i (n t : Nat) (r : qM) (β : Nat → Bool) : (if f_at n (s_rit n t (gh_row n (f_flb r β) r)) = f_hav n r then (1 : Int32) else 0) = if n_oA n t r β = 0 then 0 else 1 := by
  unfold n_oA
  by_cases e : f_at n (s_rit n t (gh_row n (f_flb r β) r)) = f_hav n r
  · rw [if_pos e, if_pos e, if_neg (by decide)]
  · rw [if_neg e, if_neg e, if_pos rfl]
theorem s_bit_01 (t x : Int32) : s_bit t x = 0 ∨ s_bit t x = 1 := by
  rcases s_and3 (s_bit t x) with e | e | e | e
  all_goals
    have k : s_bit t x &&& 3 = s_bit t x := by
      unfold s_bit
      apply Int32.toBitVec_inj.mp
      show (_ &&& 1#32) &&& 3#32 = _ &&& 1#32
      rw [BitVec.and_assoc]
      rfl
    rw [k] at e
  · exact Or.inl e
  · exact Or.inr e
  all_goals
    exfalso
    have h : (s_bit t x).toBitVec.toNat ≤ 1 := by
      unfold s_bit
      show (_ &&& 1#32).toNat ≤ 1
      rw [BitVec.toNat_and]
      exact Nat.and_le_right
    rw [e] at h
    exact absurd h (by decide)
theorem n_bit_t {row p : Nat} (hr : row < 64) (hp : p < 6) (h : ¬ s_bit (Int32.ofNat row) (Int32.ofNat p) = 0) : n_bit row p = true := by
  rw [s_bitn hr hp] at h
  by_cases e : n_bit row p = true
  · exact e
  · rw [if_neg e] at h
    exact absurd rfl h
theorem n_bit_f {row p : Nat} (hr : row < 64) (hp : p < 6) (h : s_bit (Int32.ofNat row) (Int32.ofNat p) = 0) : n_bit row p = false := by
  rw [s_bitn hr hp] at h
  by_cases e : n_bit row p = true
  · rw [if_pos e] at h
    exact absurd h (by decide)
  · exact Bool.eq_false_iff.mpr e
theorem sg_od_1 (big : Nat → List Value → qM → qW → qR) (n0 : Nat) (G : qM) (U : qW) (v0 : Int32) (v1 : Int32) (v2 : Int64) (v3 : Int32) : qm_run pm_m big m_114 (n0 + 3) 5 [(0, .ref 20), (1, .int v0), (2, .int v1), (3, .long v2), (5, .int v3)] [] G U = qm_run pm_m big m_114 n0 11 [(0, .ref 20), (1, .int v0), (2, .int v1), (3, .long v2), (5, .int v3)] [.int (G 20 3), .int v3] G U := rfl
theorem sg_od_2 (big : Nat → List Value → qM → qW → qR) (n0 : Nat) (G : qM) (U : qW) (v0 : Int32) (v1 : Int32) (v2 : Int64) (v3 : Int32) : qm_run pm_m big m_114 (n0 + 5) 14 [(0, .ref 20), (1, .int v0), (2, .int v1), (3, .long v2), (5, .int v3)] [] G U = qm_run pm_m big m_114 n0 20 [(0, .ref 20), (1, .int v0), (2, .int v1), (3, .long v2), (5, .int v3)] [.int ((v1 >>> (v3 &&& 31)) &&& (1 : Int32))] G U := rfl
theorem sg_od_3 (big : Nat → List Value → qM → qW → qR) (n0 : Nat) (G : qM) (U : qW) (v0 : Int32) (v1 : Int32) (v2 : Int64) (v3 : Int32) : qm_run pm_m big m_114 (n0 + 5) 27 [(0, .ref 20), (1, .int v0), (2, .int v1), (3, .long v2), (5, .int v3)] [] G U = qm_run pm_m big m_114 n0 36 [(0, .ref 20), (1, .int v0), (2, .int v1), (3, .long v2), (5, .int v3), (6, .int (0 : Int32))] [.int v3, .ref 22] G U := rfl
theorem sg_od_4 (big : Nat → List Value → qM → qW → qR) (n0 : Nat) (G : qM) (U : qW) (v0 : Int32) (v1 : Int32) (v2 : Int64) (v3 : Int32) : qm_run pm_m big m_114 (n0 + 9) 40 [(0, .ref 20), (1, .int v0), (2, .int v1), (3, .long v2), (5, .int v3), (6, .int (0 : Int32))] [] G U = qm_run pm_m big m_114 n0 5 [(0, .ref 20), (1, .int v0), (2, .int v1), (3, .long (v2 * (1 : Int64))), (5, .int (v3 + (1 : Int32))), (6, .int (0 : Int32))] [] G U := rfl
theorem sg_od_5 (big : Nat → List Value → qM → qW → qR) (n0 : Nat) (G : qM) (U : qW) (v0 : Int32) (v1 : Int32) (v2 : Int64) (v3 : Int32) : qm_run pm_m big m_114 (n0 + 11) 56 [(0, .ref 20), (1, .int v0), (2, .int v1), (3, .long v2), (5, .int v3), (6, .int (0 : Int32))] [] G U = qm_run pm_m big m_114 n0 5 [(0, .ref 20), (1, .int v0), (2, .int v1), (3, .long (v2 * (Int32.toInt64 ((10 : Int32) - v0)))), (5, .int (v3 + (1 : Int32))), (6, .int (0 : Int32))] [] G U := rfl
theorem sg_od_6 (big : Nat → List Value → qM → qW → qR) (n0 : Nat) (G : qM) (U : qW) (v0 : Int32) (v1 : Int32) (v2 : Int64) (v3 : Int32) : qm_run pm_m big m_114 (n0 + 6) 23 [(0, .ref 20), (1, .int v0), (2, .int v1), (3, .long v2), (5, .int v3)] [] G U = qm_run pm_m big m_114 n0 36 [(0, .ref 20), (1, .int v0), (2, .int v1), (3, .long v2), (5, .int v3), (6, .int (1 : Int32))] [.int v3, .ref 22] G U := rfl
theorem sg_od_7 (big : Nat → List Value → qM → qW → qR) (n0 : Nat) (G : qM) (U : qW) (v0 : Int32) (v1 : Int32) (v2 : Int64) (v3 : Int32) : qm_run pm_m big m_114 (n0 + 10) 40 [(0, .ref 20), (1, .int v0), (2, .int v1), (3, .long v2), (5, .int v3), (6, .int (1 : Int32))] [] G U = qm_run pm_m big m_114 n0 5 [(0, .ref 20), (1, .int v0), (2, .int v1), (3, .long (v2 * (0 : Int64))), (5, .int (v3 + (1 : Int32))), (6, .int (1 : Int32))] [] G U := rfl
theorem sg_od_8 (big : Nat → List Value → qM → qW → qR) (n0 : Nat) (G : qM) (U : qW) (v0 : Int32) (v1 : Int32) (v2 : Int64) (v3 : Int32) : qm_run pm_m big m_114 (n0 + 10) 56 [(0, .ref 20), (1, .int v0), (2, .int v1), (3, .long v2), (5, .int v3), (6, .int (1 : Int32))] [] G U = qm_run pm_m big m_114 n0 5 [(0, .ref 20), (1, .int v0), (2, .int v1), (3, .long (v2 * (Int32.toInt64 v0))), (5, .int (v3 + (1 : Int32))), (6, .int (1 : Int32))] [] G U := rfl
theorem sg_od_9 (big : Nat → List Value → qM → qW → qR) (n0 : Nat) (G : qM) (U : qW) (v0 : Int32) (v1 : Int32) : qm_run pm_m big m_114 (n0 + 4) 0 [(0, .ref 20), (1, .int v0), (2, .int v1)] [] G U = qm_run pm_m big m_114 n0 5 [(0, .ref 20), (1, .int v0), (2, .int v1), (3, .long (1 : Int64)), (5, .int (0 : Int32))] [] G U := rfl
theorem sg_od_10 (big : Nat → List Value → qM → qW → qR) (n0 : Nat) (G : qM) (U : qW) (v0 : Int64) (v1 : Int32) : qm_run pm_m big m_116 (n0 + 3) 4 [(0, .ref 20), (1, .long v0), (3, .int v1)] [] G U = qm_run pm_m big m_116 n0 9 [(0, .ref 20), (1, .long v0), (3, .int v1)] [.int (G 20 3), .int v1] G U := rfl
theorem sg_od_11 (big : Nat → List Value → qM → qW → qR) (n0 : Nat) (G : qM) (U : qW) (v0 : Int64) (v1 : Int32) : qm_run pm_m big m_116 (n0 + 4) 12 [(0, .ref 20), (1, .long v0), (3, .int v1)] [] G U = qm_run pm_m big m_116 n0 18 [(0, .ref 20), (1, .long v0), (3, .int v1)] [.int v1, .ref 22, .long v0] G U := rfl
theorem sg_od_12 (big : Nat → List Value → qM → qW → qR) (n0 : Nat) (G : qM) (U : qW) (v0 : Int64) (v1 : Int32) (v2 : Int64) : qm_run pm_m big m_116 (n0 + 6) 22 [(0, .ref 20), (1, .long v0), (3, .int v1)] [.long v2] G U = qm_run pm_m big m_116 n0 4 [(0, .ref 20), (1, .long (v2 * (1 : Int64))), (3, .int (v1 + (1 : Int32)))] [] G U := rfl
theorem sg_od_13 (big : Nat → List Value → qM → qW → qR) (n0 : Nat) (G : qM) (U : qW) (v0 : Int64) (v1 : Int32) (v2 : Int64) : qm_run pm_m big m_116 (n0 + 5) 26 [(0, .ref 20), (1, .long v0), (3, .int v1)] [.long v2] G U = qm_run pm_m big m_116 n0 4 [(0, .ref 20), (1, .long (v2 * (10 : Int64))), (3, .int (v1 + (1 : Int32)))] [] G U := rfl
theorem sg_od_14 (big : Nat → List Value → qM → qW → qR) (n0 : Nat) (G : qM) (U : qW) : qm_run pm_m big m_116 (n0 + 4) 0 [(0, .ref 20)] [] G U = qm_run pm_m big m_116 n0 4 [(0, .ref 20), (1, .long (1 : Int64)), (3, .int (0 : Int32))] [] G U := rfl
theorem sg_od_15 (big : Nat → List Value → qM → qW → qR) (n0 : Nat) (G : qM) (U : qW) (v0 : Int32) (v1 : Int32) : qm_run pm_m big m_115 (n0 + 3) 10 [(0, .ref 34), (1, .ref 20), (2, .int v0), (3, .int v1)] [] G U = qm_run pm_m big m_115 n0 15 [(0, .ref 34), (1, .ref 20), (2, .int v0), (3, .int v1)] [.int (G 20 3), .int v1] G U := rfl
theorem sg_od_16 (big : Nat → List Value → qM → qW → qR) (n0 : Nat) (G : qM) (U : qW) (v0 : Int32) (v1 : Int32) : qm_run pm_m big m_115 (n0 + 5) 18 [(0, .ref 34), (1, .ref 20), (2, .int v0), (3, .int v1)] [] G U = qm_run pm_m big m_115 n0 23 [(0, .ref 34), (1, .ref 20), (2, .int v0), (3, .int v1)] [.int ((v0 >>> (v1 &&& 31)) &&& (1 : Int32))] G U := rfl
theorem sg_od_17 (big : Nat → List Value → qM → qW → qR) (n0 : Nat) (G : qM) (U : qW) (v0 : Int32) (v1 : Int32) : qm_run pm_m big m_115 (n0 + 2) 44 [(0, .ref 34), (1, .ref 20), (2, .int v0), (3, .int v1)] [] G U = qm_run pm_m big m_115 n0 10 [(0, .ref 34), (1, .ref 20), (2, .int v0), (3, .int (v1 + (1 : Int32)))] [] G U := rfl
theorem sg_od_18 (big : Nat → List Value → qM → qW → qR) (n0 : Nat) (G : qM) (U : qW) (v0 : Int32) (v1 : Int32) : qm_run pm_m big m_115 (n0 + 7) 26 [(0, .ref 34), (1, .ref 20), (2, .int v0), (3, .int v1)] [] G U = qm_run pm_m big m_115 n0 39 [(0, .ref 34), (1, .ref 20), (2, .int v0), (3, .int v1)] [.int v1, .ref 22, .int v1, .ref 37] G U := rfl
theorem sg_od_19 (big : Nat → List Value → qM → qW → qR) (n0 : Nat) (G : qM) (U : qW) (v0 : Int32) : qm_run pm_m big m_115 (n0 + 3) 0 [(0, .ref 34), (1, .ref 20), (2, .int v0)] [] G U = qm_run pm_m big m_115 n0 5 [(0, .ref 34), (1, .ref 20), (2, .int v0)] [.ref 20, .ref 35] G U := rfl
theorem sg_od_20 (big : Nat → List Value → qM → qW → qR) (n0 : Nat) (G : qM) (U : qW) (v0 : Int32) : qm_run pm_m big m_115 (n0 + 2) 8 [(0, .ref 34), (1, .ref 20), (2, .int v0)] [] G U = qm_run pm_m big m_115 n0 10 [(0, .ref 34), (1, .ref 20), (2, .int v0), (3, .int (0 : Int32))] [] G U := rfl
theorem sg_od_21 (big : Nat → List Value → qM → qW → qR) (n0 : Nat) (G : qM) (U : qW) (v0 : Int32) (v1 : Int32) (v2 : Int64) (v3 : Int32) : qm_run pm_m big m_113 (n0 + 5) 14 [(0, .ref 34), (1, .ref 20), (2, .int v0), (3, .int v1), (4, .long v2), (6, .int v3)] [] G U = qm_run pm_m big m_113 n0 22 [(0, .ref 34), (1, .ref 20), (2, .int v0), (3, .int v1), (4, .long v2), (6, .int v3)] [.int ((1 : Int32) <<< ((G 20 3) &&& 31)), .int v3] G U := rfl
theorem sg_od_22 (big : Nat → List Value → qM → qW → qR) (n0 : Nat) (G : qM) (U : qW) (v0 : Int32) (v1 : Int32) (v2 : Int64) (v3 : Int32) : qm_run pm_m big m_113 (n0 + 3) 25 [(0, .ref 34), (1, .ref 20), (2, .int v0), (3, .int v1), (4, .long v2), (6, .int v3)] [] G U = qm_run pm_m big m_113 n0 29 [(0, .ref 34), (1, .ref 20), (2, .int v0), (3, .int v1), (4, .long v2), (6, .int v3)] [.int v3, .int v0, .ref 20] G U := rfl
theorem sg_od_23 (big : Nat → List Value → qM → qW → qR) (n0 : Nat) (G : qM) (U : qW) (v0 : Int32) (v1 : Int32) (v2 : Int64) (v3 : Int32) (v4 : Int64) : qm_run pm_m big m_113 (n0 + 4) 32 [(0, .ref 34), (1, .ref 20), (2, .int v0), (3, .int v1), (4, .long v2), (6, .int v3)] [.long v4] G U = qm_run pm_m big m_113 n0 38 [(0, .ref 34), (1, .ref 20), (2, .int v0), (3, .int v1), (4, .long v2), (6, .int v3), (7, .long v4)] [.int (lg_cmp v4 (0 : Int64))] G U := rfl
theorem sg_od_24 (big : Nat → List Value → qM → qW → qR) (n0 : Nat) (G : qM) (U : qW) (v0 : Int32) (v1 : Int32) (v2 : Int64) (v3 : Int32) (v4 : Int64) : qm_run pm_m big m_113 (n0 + 2) 81 [(0, .ref 34), (1, .ref 20), (2, .int v0), (3, .int v1), (4, .long v2), (6, .int v3), (7, .long v4)] [] G U = qm_run pm_m big m_113 n0 14 [(0, .ref 34), (1, .ref 20), (2, .int v0), (3, .int v1), (4, .long v2), (6, .int (v3 + (1 : Int32))), (7, .long v4)] [] G U := rfl
theorem sg_od_25 (big : Nat → List Value → qM → qW → qR) (n0 : Nat) (G : qM) (U : qW) (v0 : Int32) (v1 : Int32) (v2 : Int64) (v3 : Int32) (v4 : Int64) : qm_run pm_m big m_113 (n0 + 3) 41 [(0, .ref 34), (1, .ref 20), (2, .int v0), (3, .int v1), (4, .long v2), (6, .int v3), (7, .long v4)] [] G U = qm_run pm_m big m_113 n0 45 [(0, .ref 34), (1, .ref 20), (2, .int v0), (3, .int v1), (4, .long v2), (6, .int v3), (7, .long v4)] [.int v3, .ref 20, .ref 34] G U := rfl
theorem sg_od_26 (big : Nat → List Value → qM → qW → qR) (n0 : Nat) (G : qM) (U : qW) (v0 : Int32) (v1 : Int32) (v2 : Int64) (v3 : Int32) (v4 : Int64) : qm_run pm_m big m_113 (n0 + 5) 48 [(0, .ref 34), (1, .ref 20), (2, .int v0), (3, .int v1), (4, .long v2), (6, .int v3), (7, .long v4)] [] G U = qm_run pm_m big m_113 n0 57 [(0, .ref 34), (1, .ref 20), (2, .int v0), (3, .int v1), (4, .long v2), (6, .int v3), (7, .long v4)] [.int v1, .ref 35, .ref 28] G U := rfl
theorem sg_od_27 (big : Nat → List Value → qM → qW → qR) (n0 : Nat) (G : qM) (U : qW) (v0 : Int32) (v1 : Int32) (v2 : Int64) (v3 : Int32) (v4 : Int64) : qm_run pm_m big m_113 (n0 + 3) 60 [(0, .ref 34), (1, .ref 20), (2, .int v0), (3, .int v1), (4, .long v2), (6, .int v3), (7, .long v4)] [] G U = qm_run pm_m big m_113 n0 66 [(0, .ref 34), (1, .ref 20), (2, .int v0), (3, .int v1), (4, .long v2), (6, .int v3), (7, .long v4)] [.ref 35, .long v2] G U := rfl
theorem sg_od_28 (big : Nat → List Value → qM → qW → qR) (n0 : Nat) (G : qM) (U : qW) (v0 : Int32) (v1 : Int32) (v2 : Int64) (v3 : Int32) (v4 : Int64) (v5 : Int64) : qm_run pm_m big m_113 (n0 + 6) 69 [(0, .ref 34), (1, .ref 20), (2, .int v0), (3, .int v1), (4, .long v2), (6, .int v3), (7, .long v4)] [.int (0 : Int32), .long v5] G U = qm_run pm_m big m_113 n0 14 [(0, .ref 34), (1, .ref 20), (2, .int v0), (3, .int v1), (4, .long (v5 + (0 : Int64))), (6, .int (v3 + (1 : Int32))), (7, .long v4)] [] G U := rfl
theorem sg_od_29 (big : Nat → List Value → qM → qW → qR) (n0 : Nat) (G : qM) (U : qW) (v0 : Int32) (v1 : Int32) (v2 : Int64) (v3 : Int32) (v4 : Int64) (v5 : Int64) : qm_run pm_m big m_113 (n0 + 7) 69 [(0, .ref 34), (1, .ref 20), (2, .int v0), (3, .int v1), (4, .long v2), (6, .int v3), (7, .long v4)] [.int (1 : Int32), .long v5] G U = qm_run pm_m big m_113 n0 14 [(0, .ref 34), (1, .ref 20), (2, .int v0), (3, .int v1), (4, .long (v5 + v4)), (6, .int (v3 + (1 : Int32))), (7, .long v4)] [] G U := rfl
theorem sg_od_30 (big : Nat → List Value → qM → qW → qR) (n0 : Nat) (G : qM) (U : qW) (v0 : Int32) (v1 : Int32) : qm_run pm_m big m_113 (n0 + 3) 0 [(0, .ref 34), (1, .ref 20), (2, .int v0), (3, .int v1)] [] G U = qm_run pm_m big m_113 n0 5 [(0, .ref 34), (1, .ref 20), (2, .int v0), (3, .int v1)] [.ref 20, .ref 35] G U := rfl
theorem sg_od_31 (big : Nat → List Value → qM → qW → qR) (n0 : Nat) (G : qM) (U : qW) (v0 : Int32) (v1 : Int32) : qm_run pm_m big m_113 (n0 + 4) 8 [(0, .ref 34), (1, .ref 20), (2, .int v0), (3, .int v1)] [] G U = qm_run pm_m big m_113 n0 14 [(0, .ref 34), (1, .ref 20), (2, .int v0), (3, .int v1), (4, .long (0 : Int64)), (6, .int (0 : Int32))] [] G U := rfl
theorem sg_od_32 (big : Nat → List Value → qM → qW → qR) (n0 : Nat) (G : qM) (U : qW) (v0 : Int64) (v1 : Int64) (v2 : Int64) (v3 : Int64) (v4 : Int32) : qm_run pm_m big m_117 (n0 + 2) 9 [(0, .long v0), (2, .long v1), (4, .long v2), (6, .long v3), (8, .int v4)] [] G U = qm_run pm_m big m_117 n0 13 [(0, .long v0), (2, .long v1), (4, .long v2), (6, .long v3), (8, .int v4)] [.int (100 : Int32), .int v4] G U := rfl
theorem sg_od_33 (big : Nat → List Value → qM → qW → qR) (n0 : Nat) (G : qM) (U : qW) (v0 : Int64) (v1 : Int64) (v2 : Int64) (v3 : Int64) (v4 : Int32) : qm_run pm_m big m_117 (n0 + 3) 16 [(0, .long v0), (2, .long v1), (4, .long v2), (6, .long v3), (8, .int v4)] [] G U = qm_run pm_m big m_117 n0 20 [(0, .long v0), (2, .long v1), (4, .long v2), (6, .long v3), (8, .int v4)] [.int (lg_cmp v3 (0 : Int64))] G U := rfl
theorem sg_od_34 (big : Nat → List Value → qM → qW → qR) (n0 : Nat) (G : qM) (U : qW) (v0 : Int64) (v1 : Int64) (v2 : Int64) (v3 : Int64) (v4 : Int32) : qm_run pm_m big m_117 (n0 + 2) 23 [(0, .long v0), (2, .long v1), (4, .long v2), (6, .long v3), (8, .int v4)] [] G U = qm_run pm_m big m_117 n0 27 [(0, .long v0), (2, .long v1), (4, .long v2), (6, .long v3), (8, .int v4)] [.long v3, .long v2] G U := rfl
theorem sg_od_35 (big : Nat → List Value → qM → qW → qR) (n0 : Nat) (G : qM) (U : qW) (v0 : Int64) (v1 : Int64) (v2 : Int64) (v3 : Int64) (v4 : Int32) (v5 : Int64) : qm_run pm_m big m_117 (n0 + 7) 28 [(0, .long v0), (2, .long v1), (4, .long v2), (6, .long v3), (8, .int v4)] [.long v5] G U = qm_run pm_m big m_117 n0 9 [(0, .long v0), (2, .long v1), (4, .long v3), (6, .long v5), (8, .int (v4 + (1 : Int32))), (9, .long v5)] [] G U := rfl
theorem sg_od_36 (big : Nat → List Value → qM → qW → qR) (n0 : Nat) (G : qM) (U : qW) (v0 : Int64) (v1 : Int64) : qm_run pm_m big m_117 (n0 + 6) 0 [(0, .long v0), (2, .long v1)] [] G U = qm_run pm_m big m_117 n0 9 [(0, .long v0), (2, .long v1), (4, .long v0), (6, .long v1), (8, .int (0 : Int32))] [] G U := rfl
theorem sg_od_37 (big : Nat → List Value → qM → qW → qR) (n0 : Nat) (G : qM) (U : qW) (v0 : Int32) (v1 : Int32) : qm_run pm_m big m_112 (n0 + 1) 0 [(0, .ref 8), (1, .int v0), (2, .int v1), (3, .int (0 : Int32))] [] G U = qm_run pm_m big m_112 n0 1 [(0, .ref 8), (1, .int v0), (2, .int v1), (3, .int (0 : Int32))] [.int v0] G U := rfl
theorem sg_od_38 (big : Nat → List Value → qM → qW → qR) (n0 : Nat) (G : qM) (U : qW) (v0 : Int32) (v1 : Int32) : qm_run pm_m big m_112 (n0 + 2) 4 [(0, .ref 8), (1, .int v0), (2, .int v1), (3, .int (0 : Int32))] [] G U = qm_run pm_m big m_112 n0 7 [(0, .ref 8), (1, .int v0), (2, .int v1), (3, .int (0 : Int32))] [.int (10 : Int32), .int v0] G U := rfl
theorem sg_od_39 (big : Nat → List Value → qM → qW → qR) (n0 : Nat) (G : qM) (U : qW) (v0 : Int32) (v1 : Int32) : qm_run pm_m big m_112 (n0 + 1) 10 [(0, .ref 8), (1, .int v0), (2, .int v1), (3, .int (0 : Int32))] [] G U = qm_run pm_m big m_112 n0 11 [(0, .ref 8), (1, .int v0), (2, .int v1), (3, .int (0 : Int32))] [.int v1] G U := rfl
theorem sg_od_40 (big : Nat → List Value → qM → qW → qR) (n0 : Nat) (G : qM) (U : qW) (v0 : Int32) (v1 : Int32) : qm_run pm_m big m_112 (n0 + 2) 14 [(0, .ref 8), (1, .int v0), (2, .int v1), (3, .int (0 : Int32))] [.int (1 : Int32)] G U = qm_run pm_m big m_112 n0 18 [(0, .ref 8), (1, .int v0), (2, .int v1), (3, .int (0 : Int32))] [.int (0 : Int32)] G U := rfl
theorem sg_od_41 (big : Nat → List Value → qM → qW → qR) (n0 : Nat) (G : qM) (U : qW) (v0 : Int32) (v1 : Int32) : qm_run pm_m big m_112 (n0 + 7) 21 [(0, .ref 8), (1, .int v0), (2, .int v1), (3, .int (0 : Int32))] [.int (1 : Int32)] G U = qm_run pm_m big m_112 n0 38 [(0, .ref 8), (1, .int v0), (2, .int v1), (3, .int (0 : Int32))] [.int v1, .int v0, .ref 20, .ref 34] G U := rfl
theorem sg_od_42 (big : Nat → List Value → qM → qW → qR) (n0 : Nat) (G : qM) (U : qW) (v0 : Int32) (v1 : Int32) (v2 : Int64) : qm_run pm_m big m_112 (n0 + 3) 41 [(0, .ref 8), (1, .int v0), (2, .int v1), (3, .int (0 : Int32))] [.long v2] G U = qm_run pm_m big m_112 n0 47 [(0, .ref 8), (1, .int v0), (2, .int v1), (3, .int (0 : Int32)), (4, .long v2)] [.ref 20] G U := rfl
theorem sg_od_43 (big : Nat → List Value → qM → qW → qR) (n0 : Nat) (G : qM) (U : qW) (v0 : Int32) (v1 : Int32) (v2 : Int64) (v3 : Int64) : qm_run pm_m big m_112 (n0 + 3) 50 [(0, .ref 8), (1, .int v0), (2, .int v1), (3, .int (0 : Int32)), (4, .long v2)] [.long v3] G U = qm_run pm_m big m_112 n0 56 [(0, .ref 8), (1, .int v0), (2, .int v1), (3, .int (0 : Int32)), (4, .long v2), (6, .long v3)] [.long v3, .long v2] G U := rfl
theorem sg_od_44 (big : Nat → List Value → qM → qW → qR) (n0 : Nat) (G : qM) (U : qW) (v0 : Int32) (v1 : Int32) (v2 : Int64) (v3 : Int64) (v4 : Int64) : qm_run pm_m big m_112 (n0 + 9) 59 [(0, .ref 8), (1, .int v0), (2, .int v1), (3, .int (0 : Int32)), (4, .long v2), (6, .long v3)] [.long v4] G U = qm_run pm_m big m_112 n0 78 [(0, .ref 8), (1, .int v0), (2, .int v1), (3, .int (0 : Int32)), (4, .long v2), (6, .long v3), (8, .long v4), (10, .long v2)] [.int (lg_cmp v4 (0 : Int64))] G U := rfl
theorem sg_od_45 (big : Nat → List Value → qM → qW → qR) (n0 : Nat) (G : qM) (U : qW) (v0 : Int32) (v1 : Int32) (v2 : Int64) (v3 : Int64) (v4 : Int64) (v5 : Int64) : qm_run pm_m big m_112 (n0 + 2) 81 [(0, .ref 8), (1, .int v0), (2, .int v1), (3, .int (0 : Int32)), (4, .long v2), (6, .long v3), (8, .long v4), (10, .long v5)] [] G U = qm_run pm_m big m_112 n0 85 [(0, .ref 8), (1, .int v0), (2, .int v1), (3, .int (0 : Int32)), (4, .long v2), (6, .long v3), (8, .long v4), (10, .long v5)] [.long v4, .long v5] G U := rfl
theorem sg_od_46 (big : Nat → List Value → qM → qW → qR) (n0 : Nat) (G : qM) (U : qW) (v0 : Int32) (v1 : Int32) : qm_run pm_m big m_112 (n0 + 1) 0 [(0, .ref 8), (1, .int v0), (2, .int v1), (3, .int (1 : Int32))] [] G U = qm_run pm_m big m_112 n0 1 [(0, .ref 8), (1, .int v0), (2, .int v1), (3, .int (1 : Int32))] [.int v0] G U := rfl
theorem sg_od_47 (big : Nat → List Value → qM → qW → qR) (n0 : Nat) (G : qM) (U : qW) (v0 : Int32) (v1 : Int32) : qm_run pm_m big m_112 (n0 + 2) 4 [(0, .ref 8), (1, .int v0), (2, .int v1), (3, .int (1 : Int32))] [] G U = qm_run pm_m big m_112 n0 7 [(0, .ref 8), (1, .int v0), (2, .int v1), (3, .int (1 : Int32))] [.int (10 : Int32), .int v0] G U := rfl
theorem sg_od_48 (big : Nat → List Value → qM → qW → qR) (n0 : Nat) (G : qM) (U : qW) (v0 : Int32) (v1 : Int32) : qm_run pm_m big m_112 (n0 + 1) 10 [(0, .ref 8), (1, .int v0), (2, .int v1), (3, .int (1 : Int32))] [] G U = qm_run pm_m big m_112 n0 11 [(0, .ref 8), (1, .int v0), (2, .int v1), (3, .int (1 : Int32))] [.int v1] G U := rfl
theorem sg_od_49 (big : Nat → List Value → qM → qW → qR) (n0 : Nat) (G : qM) (U : qW) (v0 : Int32) (v1 : Int32) : qm_run pm_m big m_112 (n0 + 2) 14 [(0, .ref 8), (1, .int v0), (2, .int v1), (3, .int (1 : Int32))] [.int (1 : Int32)] G U = qm_run pm_m big m_112 n0 18 [(0, .ref 8), (1, .int v0), (2, .int v1), (3, .int (1 : Int32))] [.int (1 : Int32)] G U := rfl
theorem sg_od_50 (big : Nat → List Value → qM → qW → qR) (n0 : Nat) (G : qM) (U : qW) (v0 : Int32) (v1 : Int32) : qm_run pm_m big m_112 (n0 + 7) 21 [(0, .ref 8), (1, .int v0), (2, .int v1), (3, .int (1 : Int32))] [.int (1 : Int32)] G U = qm_run pm_m big m_112 n0 38 [(0, .ref 8), (1, .int v0), (2, .int v1), (3, .int (1 : Int32))] [.int v1, .int v0, .ref 20, .ref 34] G U := rfl
theorem sg_od_51 (big : Nat → List Value → qM → qW → qR) (n0 : Nat) (G : qM) (U : qW) (v0 : Int32) (v1 : Int32) (v2 : Int64) : qm_run pm_m big m_112 (n0 + 3) 41 [(0, .ref 8), (1, .int v0), (2, .int v1), (3, .int (1 : Int32))] [.long v2] G U = qm_run pm_m big m_112 n0 47 [(0, .ref 8), (1, .int v0), (2, .int v1), (3, .int (1 : Int32)), (4, .long v2)] [.ref 20] G U := rfl
theorem sg_od_52 (big : Nat → List Value → qM → qW → qR) (n0 : Nat) (G : qM) (U : qW) (v0 : Int32) (v1 : Int32) (v2 : Int64) (v3 : Int64) : qm_run pm_m big m_112 (n0 + 3) 50 [(0, .ref 8), (1, .int v0), (2, .int v1), (3, .int (1 : Int32)), (4, .long v2)] [.long v3] G U = qm_run pm_m big m_112 n0 56 [(0, .ref 8), (1, .int v0), (2, .int v1), (3, .int (1 : Int32)), (4, .long v2), (6, .long v3)] [.long v3, .long v2] G U := rfl
theorem sg_od_53 (big : Nat → List Value → qM → qW → qR) (n0 : Nat) (G : qM) (U : qW) (v0 : Int32) (v1 : Int32) (v2 : Int64) (v3 : Int64) (v4 : Int64) : qm_run pm_m big m_112 (n0 + 8) 59 [(0, .ref 8), (1, .int v0), (2, .int v1), (3, .int (1 : Int32)), (4, .long v2), (6, .long v3)] [.long v4] G U = qm_run pm_m big m_112 n0 78 [(0, .ref 8), (1, .int v0), (2, .int v1), (3, .int (1 : Int32)), (4, .long v2), (6, .long v3), (8, .long v4), (10, .long v3)] [.int (lg_cmp v4 (0 : Int64))] G U := rfl
theorem sg_od_54 (big : Nat → List Value → qM → qW → qR) (n0 : Nat) (G : qM) (U : qW) (v0 : Int32) (v1 : Int32) (v2 : Int64) (v3 : Int64) (v4 : Int64) (v5 : Int64) : qm_run pm_m big m_112 (n0 + 2) 81 [(0, .ref 8), (1, .int v0), (2, .int v1), (3, .int (1 : Int32)), (4, .long v2), (6, .long v3), (8, .long v4), (10, .long v5)] [] G U = qm_run pm_m big m_112 n0 85 [(0, .ref 8), (1, .int v0), (2, .int v1), (3, .int (1 : Int32)), (4, .long v2), (6, .long v3), (8, .long v4), (10, .long v5)] [.long v4, .long v5] G U := rfl
theorem sg_od_55 (big : Nat → List Value → qM → qW → qR) (n0 : Nat) (G : qM) (U : qW) (v0 : Int64) (v1 : Int64) (v2 : Int64) (v3 : Int64) : qm_run pm_m big m_211 (n0 + 3) 6 [(0, .long v0), (2, .long v1), (4, .long v2), (6, .long v3)] [] G U = qm_run pm_m big m_211 n0 10 [(0, .long v0), (2, .long v1), (4, .long v2), (6, .long v3)] [.int (lg_cmp v3 (0 : Int64))] G U := rfl
theorem sg_od_56 (big : Nat → List Value → qM → qW → qR) (n0 : Nat) (G : qM) (U : qW) (v0 : Int64) (v1 : Int64) (v2 : Int64) (v3 : Int64) : qm_run pm_m big m_211 (n0 + 2) 13 [(0, .long v0), (2, .long v1), (4, .long v2), (6, .long v3)] [] G U = qm_run pm_m big m_211 n0 17 [(0, .long v0), (2, .long v1), (4, .long v2), (6, .long v3)] [.long v3, .long v2] G U := rfl
theorem sg_od_57 (big : Nat → List Value → qM → qW → qR) (n0 : Nat) (G : qM) (U : qW) (v0 : Int64) (v1 : Int64) (v2 : Int64) (v3 : Int64) (v4 : Int64) : qm_run pm_m big m_211 (n0 + 6) 18 [(0, .long v0), (2, .long v1), (4, .long v2), (6, .long v3)] [.long v4] G U = qm_run pm_m big m_211 n0 6 [(0, .long v0), (2, .long v1), (4, .long v3), (6, .long v4), (8, .long v4)] [] G U := rfl
theorem sg_od_58 (big : Nat → List Value → qM → qW → qR) (n0 : Nat) (G : qM) (U : qW) (v0 : Int64) (v1 : Int64) : qm_run pm_m big m_211 (n0 + 4) 0 [(0, .long v0), (2, .long v1)] [] G U = qm_run pm_m big m_211 n0 6 [(0, .long v0), (2, .long v1), (4, .long v0), (6, .long v1)] [] G U := rfl
theorem sg_od_59 (big : Nat → List Value → qM → qW → qR) (n0 : Nat) (G : qM) (U : qW) (v0 : Int32) (v1 : Int32) (v2 : Int32) (v3 : Int64) (v4 : Int64) (v5 : Int32) : qm_run pm_m big m_210 (n0 + 3) 47 [(0, .ref 70), (1, .int v0), (2, .int v1), (3, .int v2), (4, .long v3), (6, .long v4), (8, .int v5)] [] G U = qm_run pm_m big m_210 n0 53 [(0, .ref 70), (1, .int v0), (2, .int v1), (3, .int v2), (4, .long v3), (6, .long v4), (8, .int v5)] [.int (G 70 4), .int v5] G U := rfl
theorem sg_od_60 (big : Nat → List Value → qM → qW → qR) (n0 : Nat) (G : qM) (U : qW) (v0 : Int32) (v1 : Int32) (v2 : Int32) (v3 : Int64) (v4 : Int64) (v5 : Int32) : qm_run pm_m big m_210 (n0 + 6) 56 [(0, .ref 70), (1, .int v0), (2, .int v1), (3, .int v2), (4, .long v3), (6, .long v4), (8, .int v5)] [] G U = qm_run pm_m big m_210 n0 47 [(0, .ref 70), (1, .int v0), (2, .int v1), (3, .int v2), (4, .long v3), (6, .long (v4 * (10 : Int64))), (8, .int (v5 + (1 : Int32)))] [] G U := rfl
theorem sg_od_61 (big : Nat → List Value → qM → qW → qR) (n0 : Nat) (G : qM) (U : qW) (v0 : Int32) (v1 : Int32) (v2 : Int32) (v3 : Int64) (v4 : Int64) (v5 : Int32) (v6 : Int64) (v7 : Int32) : qm_run pm_m big m_210 (n0 + 3) 94 [(0, .ref 70), (1, .int v0), (2, .int v1), (3, .int v2), (4, .long v3), (6, .long v4), (8, .int v5), (9, .long v6), (11, .int v7)] [] G U = qm_run pm_m big m_210 n0 100 [(0, .ref 70), (1, .int v0), (2, .int v1), (3, .int v2), (4, .long v3), (6, .long v4), (8, .int v5), (9, .long v6), (11, .int v7)] [.int (G 70 4), .int v7] G U := rfl
theorem sg_od_62 (big : Nat → List Value → qM → qW → qR) (n0 : Nat) (G : qM) (U : qW) (v0 : Int32) (v1 : Int32) (v2 : Int32) (v3 : Int64) (v4 : Int64) (v5 : Int32) (v6 : Int64) (v7 : Int32) : qm_run pm_m big m_210 (n0 + 6) 103 [(0, .ref 70), (1, .int v0), (2, .int v1), (3, .int v2), (4, .long v3), (6, .long v4), (8, .int v5), (9, .long v6), (11, .int v7)] [] G U = qm_run pm_m big m_210 n0 111 [(0, .ref 70), (1, .int v0), (2, .int v1), (3, .int v2), (4, .long v3), (6, .long v4), (8, .int v5), (9, .long v6), (11, .int v7)] [.int (1 : Int32), .int ((v5 >>> (v7 &&& 31)) &&& (1 : Int32))] G U := rfl
theorem sg_od_63 (big : Nat → List Value → qM → qW → qR) (n0 : Nat) (G : qM) (U : qW) (v0 : Int32) (v1 : Int32) (v2 : Int32) (v3 : Int64) (v4 : Int64) (v5 : Int32) (v6 : Int64) (v7 : Int32) : qm_run pm_m big m_210 (n0 + 19) 114 [(0, .ref 70), (1, .int v0), (2, .int v1), (3, .int v2), (4, .long v3), (6, .long v4), (8, .int v5), (9, .long v6), (11, .int v7)] [] G U = qm_run pm_m big m_210 n0 158 [(0, .ref 70), (1, .int v0), (2, .int v1), (3, .int v2), (4, .long v3), (6, .long v4), (8, .int v5), (9, .long (v6 * (Int32.toInt64 v0))), (11, .int v7), (12, .int (1 : Int32))] [.int v7, .ref 76, .int v7, .ref 76] G U := rfl
theorem sg_od_64 (big : Nat → List Value → qM → qW → qR) (n0 : Nat) (G : qM) (U : qW) (v0 : Int32) (v1 : Int32) (v2 : Int32) (v3 : Int64) (v4 : Int64) (v5 : Int32) (v6 : Int64) (v7 : Int32) (v8 : Int32) (v9 : Int32) : qm_run pm_m big m_210 (n0 + 1) 162 [(0, .ref 70), (1, .int v0), (2, .int v1), (3, .int v2), (4, .long v3), (6, .long v4), (8, .int v5), (9, .long v6), (11, .int v7), (12, .int (1 : Int32))] [.int v9, .int v8, .ref 76] G U = qm_run pm_m big m_210 n0 172 [(0, .ref 70), (1, .int v0), (2, .int v1), (3, .int v2), (4, .long v3), (6, .long v4), (8, .int v5), (9, .long v6), (11, .int v7), (12, .int (1 : Int32))] [.int v9, .int v8, .ref 76] G U := rfl
theorem sg_od_65 (big : Nat → List Value → qM → qW → qR) (n0 : Nat) (G : qM) (U : qW) (v0 : Int32) (v1 : Int32) (v2 : Int32) (v3 : Int64) (v4 : Int64) (v5 : Int32) (v6 : Int64) (v7 : Int32) : qm_run pm_m big m_210 (n0 + 2) 173 [(0, .ref 70), (1, .int v0), (2, .int v1), (3, .int v2), (4, .long v3), (6, .long v4), (8, .int v5), (9, .long v6), (11, .int v7), (12, .int (1 : Int32))] [] G U = qm_run pm_m big m_210 n0 94 [(0, .ref 70), (1, .int v0), (2, .int v1), (3, .int v2), (4, .long v3), (6, .long v4), (8, .int v5), (9, .long v6), (11, .int (v7 + (1 : Int32))), (12, .int (1 : Int32))] [] G U := rfl
theorem sg_od_66 (big : Nat → List Value → qM → qW → qR) (n0 : Nat) (G : qM) (U : qW) (v0 : Int32) (v1 : Int32) (v2 : Int32) (v3 : Int64) (v4 : Int64) (v5 : Int32) (v6 : Int64) (v7 : Int32) : qm_run pm_m big m_210 (n0 + 19) 118 [(0, .ref 70), (1, .int v0), (2, .int v1), (3, .int v2), (4, .long v3), (6, .long v4), (8, .int v5), (9, .long v6), (11, .int v7)] [] G U = qm_run pm_m big m_210 n0 171 [(0, .ref 70), (1, .int v0), (2, .int v1), (3, .int v2), (4, .long v3), (6, .long v4), (8, .int v5), (9, .long (v6 * (Int32.toInt64 ((10 : Int32) - v0)))), (11, .int v7), (12, .int (0 : Int32))] [.int v7, .ref 76, .int v7, .ref 76] G U := rfl
theorem sg_od_67 (big : Nat → List Value → qM → qW → qR) (n0 : Nat) (G : qM) (U : qW) (v0 : Int32) (v1 : Int32) (v2 : Int32) (v3 : Int64) (v4 : Int64) (v5 : Int32) (v6 : Int64) (v7 : Int32) : qm_run pm_m big m_210 (n0 + 2) 173 [(0, .ref 70), (1, .int v0), (2, .int v1), (3, .int v2), (4, .long v3), (6, .long v4), (8, .int v5), (9, .long v6), (11, .int v7), (12, .int (0 : Int32))] [] G U = qm_run pm_m big m_210 n0 94 [(0, .ref 70), (1, .int v0), (2, .int v1), (3, .int v2), (4, .long v3), (6, .long v4), (8, .int v5), (9, .long v6), (11, .int (v7 + (1 : Int32))), (12, .int (0 : Int32))] [] G U := rfl
theorem sg_od_68 (big : Nat → List Value → qM → qW → qR) (n0 : Nat) (G : qM) (U : qW) (v0 : Int32) (v1 : Int32) (v2 : Int32) (v3 : Int64) (v4 : Int64) (v5 : Int32) : qm_run pm_m big m_210 (n0 + 5) 73 [(0, .ref 70), (1, .int v0), (2, .int v1), (3, .int v2), (4, .long v3), (6, .long v4), (8, .int v5)] [] G U = qm_run pm_m big m_210 n0 81 [(0, .ref 70), (1, .int v0), (2, .int v1), (3, .int v2), (4, .long v3), (6, .long v4), (8, .int v5)] [.int ((1 : Int32) <<< ((G 70 4) &&& 31)), .int v5] G U := rfl
theorem sg_od_69 (big : Nat → List Value → qM → qW → qR) (n0 : Nat) (G : qM) (U : qW) (v0 : Int32) (v1 : Int32) (v2 : Int32) (v3 : Int64) (v4 : Int64) (v5 : Int32) : qm_run pm_m big m_210 (n0 + 3) 84 [(0, .ref 70), (1, .int v0), (2, .int v1), (3, .int v2), (4, .long v3), (6, .long v4), (8, .int v5)] [] G U = qm_run pm_m big m_210 n0 88 [(0, .ref 70), (1, .int v0), (2, .int v1), (3, .int v2), (4, .long v3), (6, .long v4), (8, .int v5), (9, .long (1 : Int64))] [.ref 70] G U := rfl
theorem sg_od_70 (big : Nat → List Value → qM → qW → qR) (n0 : Nat) (G : qM) (U : qW) (v0 : Int32) (v1 : Int32) (v2 : Int32) (v3 : Int64) (v4 : Int64) (v5 : Int32) : qm_run pm_m big m_210 (n0 + 2) 91 [(0, .ref 70), (1, .int v0), (2, .int v1), (3, .int v2), (4, .long v3), (6, .long v4), (8, .int v5), (9, .long (1 : Int64))] [] G U = qm_run pm_m big m_210 n0 94 [(0, .ref 70), (1, .int v0), (2, .int v1), (3, .int v2), (4, .long v3), (6, .long v4), (8, .int v5), (9, .long (1 : Int64)), (11, .int (0 : Int32))] [] G U := rfl
theorem sg_od_71 (big : Nat → List Value → qM → qW → qR) (n0 : Nat) (G : qM) (U : qW) (v0 : Int32) (v1 : Int32) (v2 : Int32) (v3 : Int64) (v4 : Int64) (v5 : Int32) (v6 : Int64) (v7 : Int32) : qm_run pm_m big m_210 (n0 + 4) 179 [(0, .ref 70), (1, .int v0), (2, .int v1), (3, .int v2), (4, .long v3), (6, .long v4), (8, .int v5), (9, .long v6), (11, .int v7)] [] G U = qm_run pm_m big m_210 n0 185 [(0, .ref 70), (1, .int v0), (2, .int v1), (3, .int v2), (4, .long v3), (6, .long v4), (8, .int v5), (9, .long v6), (11, .int v7)] [.int (lg_cmp v6 (0 : Int64)), .long v3] G U := rfl
theorem sg_od_72 (big : Nat → List Value → qM → qW → qR) (n0 : Nat) (G : qM) (U : qW) (v0 : Int32) (v1 : Int32) (v2 : Int32) (v3 : Int64) (v4 : Int64) (v5 : Int32) (v6 : Int64) (v7 : Int32) (v8 : Int64) : qm_run pm_m big m_210 (n0 + 5) 201 [(0, .ref 70), (1, .int v0), (2, .int v1), (3, .int v2), (4, .long v3), (6, .long v4), (8, .int v5), (9, .long v6), (11, .int v7)] [.long v8] G U = qm_run pm_m big m_210 n0 73 [(0, .ref 70), (1, .int v0), (2, .int v1), (3, .int v2), (4, .long (v8 + (0 : Int64))), (6, .long v4), (8, .int (v5 + (1 : Int32))), (9, .long v6), (11, .int v7)] [] G U := rfl
theorem sg_od_73 (big : Nat → List Value → qM → qW → qR) (n0 : Nat) (G : qM) (U : qW) (v0 : Int32) (v1 : Int32) (v2 : Int32) (v3 : Int64) (v4 : Int64) (v5 : Int32) (v6 : Int64) (v7 : Int32) (v8 : Int64) : qm_run pm_m big m_210 (n0 + 2) 188 [(0, .ref 70), (1, .int v0), (2, .int v1), (3, .int v2), (4, .long v3), (6, .long v4), (8, .int v5), (9, .long v6), (11, .int v7)] [.long v8] G U = qm_run pm_m big m_210 n0 190 [(0, .ref 70), (1, .int v0), (2, .int v1), (3, .int v2), (4, .long v3), (6, .long v4), (8, .int v5), (9, .long v6), (11, .int v7)] [.int v1, .ref 70, .long v8] G U := rfl
theorem sg_od_74 (big : Nat → List Value → qM → qW → qR) (n0 : Nat) (G : qM) (U : qW) (v0 : Int32) (v1 : Int32) (v2 : Int32) (v3 : Int64) (v4 : Int64) (v5 : Int32) (v6 : Int64) (v7 : Int32) (v8 : Int64) : qm_run pm_m big m_210 (n0 + 6) 193 [(0, .ref 70), (1, .int v0), (2, .int v1), (3, .int v2), (4, .long v3), (6, .long v4), (8, .int v5), (9, .long v6), (11, .int v7)] [.int (0 : Int32), .long v8] G U = qm_run pm_m big m_210 n0 73 [(0, .ref 70), (1, .int v0), (2, .int v1), (3, .int v2), (4, .long (v8 + (0 : Int64))), (6, .long v4), (8, .int (v5 + (1 : Int32))), (9, .long v6), (11, .int v7)] [] G U := rfl
theorem sg_od_75 (big : Nat → List Value → qM → qW → qR) (n0 : Nat) (G : qM) (U : qW) (v0 : Int32) (v1 : Int32) (v2 : Int32) (v3 : Int64) (v4 : Int64) (v5 : Int32) (v6 : Int64) (v7 : Int32) (v8 : Int64) : qm_run pm_m big m_210 (n0 + 7) 193 [(0, .ref 70), (1, .int v0), (2, .int v1), (3, .int v2), (4, .long v3), (6, .long v4), (8, .int v5), (9, .long v6), (11, .int v7)] [.int (1 : Int32), .long v8] G U = qm_run pm_m big m_210 n0 73 [(0, .ref 70), (1, .int v0), (2, .int v1), (3, .int v2), (4, .long (v8 + v6)), (6, .long v4), (8, .int (v5 + (1 : Int32))), (9, .long v6), (11, .int v7)] [] G U := rfl
theorem sg_od_76 (big : Nat → List Value → qM → qW → qR) (n0 : Nat) (G : qM) (U : qW) (v0 : Int32) (v1 : Int32) : qm_run pm_m big m_210 (n0 + 4) 0 [(0, .ref 70), (1, .int v0), (2, .int v1), (3, .int (0 : Int32))] [] G U = qm_run pm_m big m_210 n0 6 [(0, .ref 70), (1, .int v0), (2, .int v1), (3, .int (0 : Int32))] [.long (10 : Int64), .long (0 : Int64), .long (Int32.toInt64 v0)] G U := rfl
theorem sg_od_77 (big : Nat → List Value → qM → qW → qR) (n0 : Nat) (G : qM) (U : qW) (v0 : Int32) (v1 : Int32) : qm_run pm_m big m_210 (n0 + 5) 9 [(0, .ref 70), (1, .int v0), (2, .int v1), (3, .int (0 : Int32))] [.int (1 : Int32)] G U = qm_run pm_m big m_210 n0 18 [(0, .ref 70), (1, .int v0), (2, .int v1), (3, .int (0 : Int32))] [.long (12 : Int64), .long (0 : Int64), .long (Int32.toInt64 v1)] G U := rfl
theorem sg_od_78 (big : Nat → List Value → qM → qW → qR) (n0 : Nat) (G : qM) (U : qW) (v0 : Int32) (v1 : Int32) : qm_run pm_m big m_210 (n0 + 5) 21 [(0, .ref 70), (1, .int v0), (2, .int v1), (3, .int (0 : Int32))] [.int (1 : Int32)] G U = qm_run pm_m big m_210 n0 28 [(0, .ref 70), (1, .int v0), (2, .int v1), (3, .int (0 : Int32))] [.long (1 : Int64), .long (0 : Int64), .long (0 : Int64)] G U := rfl
theorem sg_od_79 (big : Nat → List Value → qM → qW → qR) (n0 : Nat) (G : qM) (U : qW) (v0 : Int32) (v1 : Int32) : qm_run pm_m big m_210 (n0 + 7) 31 [(0, .ref 70), (1, .int v0), (2, .int v1), (3, .int (0 : Int32))] [.int (1 : Int32)] G U = qm_run pm_m big m_210 n0 47 [(0, .ref 70), (1, .int v0), (2, .int v1), (3, .int (0 : Int32)), (4, .long (0 : Int64)), (6, .long (1 : Int64)), (8, .int (0 : Int32))] [] G U := rfl
theorem sg_od_80 (big : Nat → List Value → qM → qW → qR) (n0 : Nat) (G : qM) (U : qW) (v0 : Int32) (v1 : Int32) (v2 : Int64) (v3 : Int64) (v4 : Int32) : qm_run pm_m big m_210 (n0 + 2) 70 [(0, .ref 70), (1, .int v0), (2, .int v1), (3, .int (0 : Int32)), (4, .long v2), (6, .long v3), (8, .int v4)] [] G U = qm_run pm_m big m_210 n0 73 [(0, .ref 70), (1, .int v0), (2, .int v1), (3, .int (0 : Int32)), (4, .long v2), (6, .long v3), (8, .int (0 : Int32))] [] G U := rfl
theorem sg_od_81 (big : Nat → List Value → qM → qW → qR) (n0 : Nat) (G : qM) (U : qW) (v0 : Int32) (v1 : Int32) (v2 : Int64) (v3 : Int64) (v4 : Int32) : qm_run pm_m big m_210 (n0 + 2) 211 [(0, .ref 70), (1, .int v0), (2, .int v1), (3, .int (0 : Int32)), (4, .long v2), (6, .long v3), (8, .int v4)] [] G U = qm_run pm_m big m_210 n0 215 [(0, .ref 70), (1, .int v0), (2, .int v1), (3, .int (0 : Int32)), (4, .long v2), (6, .long v3), (8, .int v4)] [.long v2, .long v3] G U := rfl
theorem sg_od_82 (big : Nat → List Value → qM → qW → qR) (n0 : Nat) (G : qM) (U : qW) (v0 : Int32) (v1 : Int32) (v2 : Int64) (v3 : Int64) (v4 : Int32) (v5 : Int64) : qm_run pm_m big m_210 (n0 + 5) 218 [(0, .ref 70), (1, .int v0), (2, .int v1), (3, .int (0 : Int32)), (4, .long v2), (6, .long v3), (8, .int v4)] [.long v5] G U = qm_run pm_m big m_210 n0 228 [(0, .ref 70), (1, .int v0), (2, .int v1), (3, .int (0 : Int32)), (4, .long v2), (6, .long v3), (8, .long v5)] [.long v5, .long v2] G U := rfl
theorem sg_od_83 (big : Nat → List Value → qM → qW → qR) (n0 : Nat) (G : qM) (U : qW) (v0 : Int32) (v1 : Int32) : qm_run pm_m big m_210 (n0 + 4) 0 [(0, .ref 70), (1, .int v0), (2, .int v1), (3, .int (1 : Int32))] [] G U = qm_run pm_m big m_210 n0 6 [(0, .ref 70), (1, .int v0), (2, .int v1), (3, .int (1 : Int32))] [.long (10 : Int64), .long (0 : Int64), .long (Int32.toInt64 v0)] G U := rfl
theorem sg_od_84 (big : Nat → List Value → qM → qW → qR) (n0 : Nat) (G : qM) (U : qW) (v0 : Int32) (v1 : Int32) : qm_run pm_m big m_210 (n0 + 5) 9 [(0, .ref 70), (1, .int v0), (2, .int v1), (3, .int (1 : Int32))] [.int (1 : Int32)] G U = qm_run pm_m big m_210 n0 18 [(0, .ref 70), (1, .int v0), (2, .int v1), (3, .int (1 : Int32))] [.long (12 : Int64), .long (0 : Int64), .long (Int32.toInt64 v1)] G U := rfl
theorem sg_od_85 (big : Nat → List Value → qM → qW → qR) (n0 : Nat) (G : qM) (U : qW) (v0 : Int32) (v1 : Int32) : qm_run pm_m big m_210 (n0 + 5) 21 [(0, .ref 70), (1, .int v0), (2, .int v1), (3, .int (1 : Int32))] [.int (1 : Int32)] G U = qm_run pm_m big m_210 n0 28 [(0, .ref 70), (1, .int v0), (2, .int v1), (3, .int (1 : Int32))] [.long (1 : Int64), .long (0 : Int64), .long (1 : Int64)] G U := rfl
theorem sg_od_86 (big : Nat → List Value → qM → qW → qR) (n0 : Nat) (G : qM) (U : qW) (v0 : Int32) (v1 : Int32) : qm_run pm_m big m_210 (n0 + 7) 31 [(0, .ref 70), (1, .int v0), (2, .int v1), (3, .int (1 : Int32))] [.int (1 : Int32)] G U = qm_run pm_m big m_210 n0 47 [(0, .ref 70), (1, .int v0), (2, .int v1), (3, .int (1 : Int32)), (4, .long (0 : Int64)), (6, .long (1 : Int64)), (8, .int (0 : Int32))] [] G U := rfl
theorem sg_od_87 (big : Nat → List Value → qM → qW → qR) (n0 : Nat) (G : qM) (U : qW) (v0 : Int32) (v1 : Int32) (v2 : Int64) (v3 : Int64) (v4 : Int32) : qm_run pm_m big m_210 (n0 + 2) 70 [(0, .ref 70), (1, .int v0), (2, .int v1), (3, .int (1 : Int32)), (4, .long v2), (6, .long v3), (8, .int v4)] [] G U = qm_run pm_m big m_210 n0 73 [(0, .ref 70), (1, .int v0), (2, .int v1), (3, .int (1 : Int32)), (4, .long v2), (6, .long v3), (8, .int (0 : Int32))] [] G U := rfl
theorem sg_od_88 (big : Nat → List Value → qM → qW → qR) (n0 : Nat) (G : qM) (U : qW) (v0 : Int32) (v1 : Int32) (v2 : Int64) (v3 : Int64) (v4 : Int32) : qm_run pm_m big m_210 (n0 + 2) 211 [(0, .ref 70), (1, .int v0), (2, .int v1), (3, .int (1 : Int32)), (4, .long v2), (6, .long v3), (8, .int v4)] [] G U = qm_run pm_m big m_210 n0 215 [(0, .ref 70), (1, .int v0), (2, .int v1), (3, .int (1 : Int32)), (4, .long v2), (6, .long v3), (8, .int v4)] [.long v2, .long v3] G U := rfl
theorem sg_od_89 (big : Nat → List Value → qM → qW → qR) (n0 : Nat) (G : qM) (U : qW) (v0 : Int32) (v1 : Int32) (v2 : Int64) (v3 : Int64) (v4 : Int32) (v5 : Int64) : qm_run pm_m big m_210 (n0 + 5) 218 [(0, .ref 70), (1, .int v0), (2, .int v1), (3, .int (1 : Int32)), (4, .long v2), (6, .long v3), (8, .int v4)] [.long v5] G U = qm_run pm_m big m_210 n0 236 [(0, .ref 70), (1, .int v0), (2, .int v1), (3, .int (1 : Int32)), (4, .long v2), (6, .long v3), (8, .long v5)] [.long v5, .long v3] G U := rfl
theorem wo_l {n W H v : Nat} {g r : qM} (u : qW) (h : w_ok n W H r) (hc : w_cs 20 n g r) (h6 : n ≤ 6) (hv : v ≤ 10) {row : Nat} (hr : row < 64) : ∀ k i a, i + k = n → q_EV m_114 5 [(0, .ref 20), (1, .int (Int32.ofNat v)), (2, .int (Int32.ofNat row)), (3, .long (Int64.ofNat a)), (5, .int (Int32.ofNat i))] [] g u (fun R => R = (some (.long (Int64.ofNat (n_pr (fun p => n_wc r v p (n_bit row p)) k i a))), g, u)) := by
  intro k
  induction k with
  | zero =>
    intro i a hi
    refine q_step 3 11 [(0, .ref 20), (1, .int (Int32.ofNat v)), (2, .int (Int32.ofNat row)), (3, .long (Int64.ofNat a)), (5, .int (Int32.ofNat i))] [.int (g 20 3), .int (Int32.ofNat i)] g u (fun big n0 => sg_od_1 big n0 g u (Int32.ofNat v) (Int32.ofNat row) (Int64.ofNat a) (Int32.ofNat i)) ?_
    refine q_ic_ge rfl (fun (hc0 : (g 20 3) ≤ (Int32.ofNat i)) => ?_) (fun hc0 => absurd (show (g 20 3) ≤ (Int32.ofNat i) from by rw [hc.1.1, h.2.1]; exact (q_le (by omega) (by omega)).mpr (by omega)) hc0)
    refine q_ret 2 (some (.long (Int64.ofNat a)), g, u) (fun _ _ => rfl) ?_
    rfl
  | succ k ih =>
    intro i a hi
    refine q_step 3 11 [(0, .ref 20), (1, .int (Int32.ofNat v)), (2, .int (Int32.ofNat row)), (3, .long (Int64.ofNat a)), (5, .int (Int32.ofNat i))] [.int (g 20 3), .int (Int32.ofNat i)] g u (fun big n0 => sg_od_1 big n0 g u (Int32.ofNat v) (Int32.ofNat row) (Int64.ofNat a) (Int32.ofNat i)) ?_
    refine q_ic_ge rfl (fun hc0 => absurd (show (g 20 3) ≤ (Int32.ofNat i) from hc0) (fun z => by rw [hc.1.1, h.2.1] at z; exact absurd ((q_le (by omega) (by omega)).mp z) (by omega))) (fun (hc0 : ¬ ((g 20 3) ≤ (Int32.ofNat i))) => ?_)
    refine q_step 5 20 [(0, .ref 20), (1, .int (Int32.ofNat v)), (2, .int (Int32.ofNat row)), (3, .long (Int64.ofNat a)), (5, .int (Int32.ofNat i))] [.int (((Int32.ofNat row) >>> ((Int32.ofNat i) &&& 31)) &&& (1 : Int32))] g u (fun big n0 => sg_od_2 big n0 g u (Int32.ofNat v) (Int32.ofNat row) (Int64.ofNat a) (Int32.ofNat i)) ?_
    refine q_if_eq rfl (fun (hc1 : (((Int32.ofNat row) >>> ((Int32.ofNat i) &&& 31)) &&& (1 : Int32)) = 0) => ?_) (fun (hc1 : ¬ ((((Int32.ofNat row) >>> ((Int32.ofNat i) &&& 31)) &&& (1 : Int32)) = 0)) => ?_)
    · refine q_step 5 36 [(0, .ref 20), (1, .int (Int32.ofNat v)), (2, .int (Int32.ofNat row)), (3, .long (Int64.ofNat a)), (5, .int (Int32.ofNat i)), (6, .int (0 : Int32))] [.int (Int32.ofNat i), .ref 22] g u (fun big n0 => sg_od_3 big n0 g u (Int32.ofNat v) (Int32.ofNat row) (Int64.ofNat a) (Int32.ofNat i)) ?_
      refine q_iald (j := i) (q_ixn (by omega) (by omega)) rfl rfl ?_
      refine q_if_ne rfl (fun (hc2 : (g 22 i) = 0) => ?_) (fun (hc2 : ¬ ((g 22 i) = 0)) => ?_)
      · refine q_step 9 5 [(0, .ref 20), (1, .int (Int32.ofNat v)), (2, .int (Int32.ofNat row)), (3, .long ((Int64.ofNat a) * (1 : Int64))), (5, .int ((Int32.ofNat i) + (1 : Int32))), (6, .int (0 : Int32))] [] g u (fun big n0 => sg_od_4 big n0 g u (Int32.ofNat v) (Int32.ofNat row) (Int64.ofNat a) (Int32.ofNat i)) ?_
        refine q_weak [(0, .ref 20), (1, .int (Int32.ofNat v)), (2, .int (Int32.ofNat row)), (3, .long ((Int64.ofNat a) * (1 : Int64))), (5, .int ((Int32.ofNat i) + (1 : Int32)))] (q_sub.cons rfl (q_sub.cons rfl (q_sub.cons rfl (q_sub.cons rfl (q_sub.cons rfl q_sub.nil))))) ?_
        have hm : g 22 i = r 76 i := (hc.2.2 i (by omega)).2.1
        have hw : n_wc r v i (n_bit row i) = 1 := by
          unfold n_wc
          rw [n_bit_f (by omega) (by omega) (show s_bit (Int32.ofNat row) (Int32.ofNat i) = 0 from hc1), if_pos (by rw [← hm]; exact hc2)]
          rfl
        rw [show ((Int64.ofNat a) * (1 : Int64)) = Int64.ofNat (a * 1) from by
          rw [Int64.ofNat_mul] <;> rfl]
        rw [q_succ, n_pr, hw]
        exact ih (i + 1) _ (by omega)
      · refine q_step 11 5 [(0, .ref 20), (1, .int (Int32.ofNat v)), (2, .int (Int32.ofNat row)), (3, .long ((Int64.ofNat a) * (Int32.toInt64 ((10 : Int32) - (Int32.ofNat v))))), (5, .int ((Int32.ofNat i) + (1 : Int32))), (6, .int (0 : Int32))] [] g u (fun big n0 => sg_od_5 big n0 g u (Int32.ofNat v) (Int32.ofNat row) (Int64.ofNat a) (Int32.ofNat i)) ?_
        refine q_weak [(0, .ref 20), (1, .int (Int32.ofNat v)), (2, .int (Int32.ofNat row)), (3, .long ((Int64.ofNat a) * (Int32.toInt64 ((10 : Int32) - (Int32.ofNat v))))), (5, .int ((Int32.ofNat i) + (1 : Int32)))] (q_sub.cons rfl (q_sub.cons rfl (q_sub.cons rfl (q_sub.cons rfl (q_sub.cons rfl q_sub.nil))))) ?_
        have hm : g 22 i = r 76 i := (hc.2.2 i (by omega)).2.1
        have hw : n_wc r v i (n_bit row i) = (10 - v) := by
          unfold n_wc
          rw [n_bit_f (by omega) (by omega) (show s_bit (Int32.ofNat row) (Int32.ofNat i) = 0 from hc1), if_neg (by rw [← hm]; exact hc2)]
          rfl
        rw [show ((Int64.ofNat a) * (Int32.toInt64 ((10 : Int32) - (Int32.ofNat v)))) = Int64.ofNat (a * (10 - v)) from by
          rw [show (10 : Int32) - Int32.ofNat v = Int32.ofNat (10 - v) from q_sb (a := 10) (b := v) (by omega) (by omega), s_i64 (by omega), Int64.ofNat_mul] <;> rfl]
        rw [q_succ, n_pr, hw]
        exact ih (i + 1) _ (by omega)
    · refine q_step 6 36 [(0, .ref 20), (1, .int (Int32.ofNat v)), (2, .int (Int32.ofNat row)), (3, .long (Int64.ofNat a)), (5, .int (Int32.ofNat i)), (6, .int (1 : Int32))] [.int (Int32.ofNat i), .ref 22] g u (fun big n0 => sg_od_6 big n0 g u (Int32.ofNat v) (Int32.ofNat row) (Int64.ofNat a) (Int32.ofNat i)) ?_
      refine q_iald (j := i) (q_ixn (by omega) (by omega)) rfl rfl ?_
      refine q_if_ne rfl (fun (hc2 : (g 22 i) = 0) => ?_) (fun (hc2 : ¬ ((g 22 i) = 0)) => ?_)
      · refine q_step 10 5 [(0, .ref 20), (1, .int (Int32.ofNat v)), (2, .int (Int32.ofNat row)), (3, .long ((Int64.ofNat a) * (0 : Int64))), (5, .int ((Int32.ofNat i) + (1 : Int32))), (6, .int (1 : Int32))] [] g u (fun big n0 => sg_od_7 big n0 g u (Int32.ofNat v) (Int32.ofNat row) (Int64.ofNat a) (Int32.ofNat i)) ?_
        refine q_weak [(0, .ref 20), (1, .int (Int32.ofNat v)), (2, .int (Int32.ofNat row)), (3, .long ((Int64.ofNat a) * (0 : Int64))), (5, .int ((Int32.ofNat i) + (1 : Int32)))] (q_sub.cons rfl (q_sub.cons rfl (q_sub.cons rfl (q_sub.cons rfl (q_sub.cons rfl q_sub.nil))))) ?_
        have hm : g 22 i = r 76 i := (hc.2.2 i (by omega)).2.1
        have hw : n_wc r v i (n_bit row i) = 0 := by
          unfold n_wc
          rw [n_bit_t (by omega) (by omega) (show ¬ s_bit (Int32.ofNat row) (Int32.ofNat i) = 0 from hc1), if_pos (by rw [← hm]; exact hc2)]
          rfl
        rw [show ((Int64.ofNat a) * (0 : Int64)) = Int64.ofNat (a * 0) from by
          rw [Int64.ofNat_mul] <;> rfl]
        rw [q_succ, n_pr, hw]
        exact ih (i + 1) _ (by omega)
      · refine q_step 10 5 [(0, .ref 20), (1, .int (Int32.ofNat v)), (2, .int (Int32.ofNat row)), (3, .long ((Int64.ofNat a) * (Int32.toInt64 (Int32.ofNat v)))), (5, .int ((Int32.ofNat i) + (1 : Int32))), (6, .int (1 : Int32))] [] g u (fun big n0 => sg_od_8 big n0 g u (Int32.ofNat v) (Int32.ofNat row) (Int64.ofNat a) (Int32.ofNat i)) ?_
        refine q_weak [(0, .ref 20), (1, .int (Int32.ofNat v)), (2, .int (Int32.ofNat row)), (3, .long ((Int64.ofNat a) * (Int32.toInt64 (Int32.ofNat v)))), (5, .int ((Int32.ofNat i) + (1 : Int32)))] (q_sub.cons rfl (q_sub.cons rfl (q_sub.cons rfl (q_sub.cons rfl (q_sub.cons rfl q_sub.nil))))) ?_
        have hm : g 22 i = r 76 i := (hc.2.2 i (by omega)).2.1
        have hw : n_wc r v i (n_bit row i) = v := by
          unfold n_wc
          rw [n_bit_t (by omega) (by omega) (show ¬ s_bit (Int32.ofNat row) (Int32.ofNat i) = 0 from hc1), if_neg (by rw [← hm]; exact hc2)]
          rfl
        rw [show ((Int64.ofNat a) * (Int32.toInt64 (Int32.ofNat v))) = Int64.ofNat (a * v) from by
          rw [s_i64 (by omega), Int64.ofNat_mul] <;> rfl]
        rw [q_succ, n_pr, hw]
        exact ih (i + 1) _ (by omega)
theorem c_wof {n W H v : Nat} {g r : qM} (u : qW) (h : w_ok n W H r) (hc : w_cs 20 n g r) (h6 : n ≤ 6) (hv : v ≤ 10) {row : Nat} (hr : row < 64) : q_BS 114 [.ref 20, .int (Int32.ofNat v), .int (Int32.ofNat row)] g u (some (.long (Int64.ofNat (n_wtc n v r row))), g, u) := by
  refine q_bx (mm := m_114) rfl (Nat.le_of_ble_eq_true rfl) rfl ?_
  refine q_step 4 5 [(0, .ref 20), (1, .int (Int32.ofNat v)), (2, .int (Int32.ofNat row)), (3, .long (1 : Int64)), (5, .int (0 : Int32))] [] g u (fun big n0 => sg_od_9 big n0 g u (Int32.ofNat v) (Int32.ofNat row)) ?_
  exact wo_l u h hc h6 hv hr n 0 1 (by omega)
theorem wa_l {n W H : Nat} {g r : qM} (u : qW) (h : w_ok n W H r) (hc : w_cs 20 n g r) (h6 : n ≤ 6) : ∀ k i a, i + k = n → q_EV m_116 4 [(0, .ref 20), (1, .long (Int64.ofNat a)), (3, .int (Int32.ofNat i))] [] g u (fun R => R = (some (.long (Int64.ofNat (n_pr (fun p => if r 76 p = 0 then 1 else 10) k i a))), g, u)) := by
  intro k
  induction k with
  | zero =>
    intro i a hi
    refine q_step 3 9 [(0, .ref 20), (1, .long (Int64.ofNat a)), (3, .int (Int32.ofNat i))] [.int (g 20 3), .int (Int32.ofNat i)] g u (fun big n0 => sg_od_10 big n0 g u (Int64.ofNat a) (Int32.ofNat i)) ?_
    refine q_ic_ge rfl (fun (hc0 : (g 20 3) ≤ (Int32.ofNat i)) => ?_) (fun hc0 => absurd (show (g 20 3) ≤ (Int32.ofNat i) from by rw [hc.1.1, h.2.1]; exact (q_le (by omega) (by omega)).mpr (by omega)) hc0)
    refine q_ret 2 (some (.long (Int64.ofNat a)), g, u) (fun _ _ => rfl) ?_
    rfl
  | succ k ih =>
    intro i a hi
    refine q_step 3 9 [(0, .ref 20), (1, .long (Int64.ofNat a)), (3, .int (Int32.ofNat i))] [.int (g 20 3), .int (Int32.ofNat i)] g u (fun big n0 => sg_od_10 big n0 g u (Int64.ofNat a) (Int32.ofNat i)) ?_
    refine q_ic_ge rfl (fun hc0 => absurd (show (g 20 3) ≤ (Int32.ofNat i) from hc0) (fun z => by rw [hc.1.1, h.2.1] at z; exact absurd ((q_le (by omega) (by omega)).mp z) (by omega))) (fun (hc0 : ¬ ((g 20 3) ≤ (Int32.ofNat i))) => ?_)
    refine q_step 4 18 [(0, .ref 20), (1, .long (Int64.ofNat a)), (3, .int (Int32.ofNat i))] [.int (Int32.ofNat i), .ref 22, .long (Int64.ofNat a)] g u (fun big n0 => sg_od_11 big n0 g u (Int64.ofNat a) (Int32.ofNat i)) ?_
    refine q_iald (j := i) (q_ixn (by omega) (by omega)) rfl rfl ?_
    refine q_if_ne rfl (fun (hc1 : (g 22 i) = 0) => ?_) (fun (hc1 : ¬ ((g 22 i) = 0)) => ?_)
    · refine q_step 6 4 [(0, .ref 20), (1, .long ((Int64.ofNat a) * (1 : Int64))), (3, .int ((Int32.ofNat i) + (1 : Int32)))] [] g u (fun big n0 => sg_od_12 big n0 g u (Int64.ofNat a) (Int32.ofNat i) (Int64.ofNat a)) ?_
      have hm : g 22 i = r 76 i := (hc.2.2 i (by omega)).2.1
      rw [show ((Int64.ofNat a) * (1 : Int64)) = Int64.ofNat (a * 1) from by
        rw [Int64.ofNat_mul] <;> rfl]
      rw [q_succ, n_pr, if_pos (by rw [← hm]; exact hc1)]
      exact ih (i + 1) _ (by omega)
    · refine q_step 5 4 [(0, .ref 20), (1, .long ((Int64.ofNat a) * (10 : Int64))), (3, .int ((Int32.ofNat i) + (1 : Int32)))] [] g u (fun big n0 => sg_od_13 big n0 g u (Int64.ofNat a) (Int32.ofNat i) (Int64.ofNat a)) ?_
      have hm : g 22 i = r 76 i := (hc.2.2 i (by omega)).2.1
      rw [show ((Int64.ofNat a) * (10 : Int64)) = Int64.ofNat (a * 10) from by
        rw [Int64.ofNat_mul] <;> rfl]
      rw [q_succ, n_pr, if_neg (by rw [← hm]; exact hc1)]
      exact ih (i + 1) _ (by omega)
theorem c_waf {n W H : Nat} {g r : qM} (u : qW) (h : w_ok n W H r) (hc : w_cs 20 n g r) : q_BS 116 [.ref 20] g u (some (.long (Int64.ofNat (n_whc n r))), g, u) := by
  refine q_bx (mm := m_116) rfl (Nat.le_of_ble_eq_true rfl) rfl ?_
  refine q_step 4 4 [(0, .ref 20), (1, .long (1 : Int64)), (3, .int (0 : Int32))] [] g u (fun big n0 => sg_od_14 big n0 g u) ?_
  exact wa_l u h hc h.1.2.2.2.2 n 0 1 (by omega)
theorem ft_l {n W H : Nat} {g r : qM} (u : qW) (h : w_ok n W H r) (hc : w_cs 20 n g r) (h6 : n ≤ 6) {row : Nat} (hr : row < 64) : ∀ k i, i + k = n → q_EV m_115 10 [(0, .ref 34), (1, .ref 20), (2, .int (Int32.ofNat row)), (3, .int (Int32.ofNat i))] [] (s_row_ 37 (f_flb r (n_bit row)) i (s_cpl 35 20 g)) u (fun R => R = (none, s_rfm (f_flb r (n_bit row)) n g, u)) := by
  intro k
  induction k with
  | zero =>
    intro i hi
    refine q_step 3 15 [(0, .ref 34), (1, .ref 20), (2, .int (Int32.ofNat row)), (3, .int (Int32.ofNat i))] [.int (g 20 3), .int (Int32.ofNat i)] (s_row_ 37 (f_flb r (n_bit row)) i (s_cpl 35 20 g)) u (fun big n0 => sg_od_15 big n0 (s_row_ 37 (f_flb r (n_bit row)) i (s_cpl 35 20 g)) u (Int32.ofNat row) (Int32.ofNat i)) ?_
    refine q_ic_ge rfl (fun (hc0 : (g 20 3) ≤ (Int32.ofNat i)) => ?_) (fun hc0 => absurd (show (g 20 3) ≤ (Int32.ofNat i) from by rw [hc.1.1, h.2.1]; exact (q_le (by omega) (by omega)).mpr (by omega)) hc0)
    refine q_ret 1 (none, (s_row_ 37 (f_flb r (n_bit row)) i (s_cpl 35 20 g)), u) (fun _ _ => rfl) ?_
    rw [show i = n by omega]
    rfl
  | succ k ih =>
    intro i hi
    refine q_step 3 15 [(0, .ref 34), (1, .ref 20), (2, .int (Int32.ofNat row)), (3, .int (Int32.ofNat i))] [.int (g 20 3), .int (Int32.ofNat i)] (s_row_ 37 (f_flb r (n_bit row)) i (s_cpl 35 20 g)) u (fun big n0 => sg_od_15 big n0 (s_row_ 37 (f_flb r (n_bit row)) i (s_cpl 35 20 g)) u (Int32.ofNat row) (Int32.ofNat i)) ?_
    refine q_ic_ge rfl (fun hc0 => absurd (show (g 20 3) ≤ (Int32.ofNat i) from hc0) (fun z => by rw [hc.1.1, h.2.1] at z; exact absurd ((q_le (by omega) (by omega)).mp z) (by omega))) (fun (hc0 : ¬ ((g 20 3) ≤ (Int32.ofNat i))) => ?_)
    refine q_step 5 23 [(0, .ref 34), (1, .ref 20), (2, .int (Int32.ofNat row)), (3, .int (Int32.ofNat i))] [.int (((Int32.ofNat row) >>> ((Int32.ofNat i) &&& 31)) &&& (1 : Int32))] (s_row_ 37 (f_flb r (n_bit row)) i (s_cpl 35 20 g)) u (fun big n0 => sg_od_16 big n0 (s_row_ 37 (f_flb r (n_bit row)) i (s_cpl 35 20 g)) u (Int32.ofNat row) (Int32.ofNat i)) ?_
    refine q_if_eq rfl (fun (hc1 : (((Int32.ofNat row) >>> ((Int32.ofNat i) &&& 31)) &&& (1 : Int32)) = 0) => ?_) (fun (hc1 : ¬ ((((Int32.ofNat row) >>> ((Int32.ofNat i) &&& 31)) &&& (1 : Int32)) = 0)) => ?_)
    · refine q_step 2 10 [(0, .ref 34), (1, .ref 20), (2, .int (Int32.ofNat row)), (3, .int ((Int32.ofNat i) + (1 : Int32)))] [] (s_row_ 37 (f_flb r (n_bit row)) i (s_cpl 35 20 g)) u (fun big n0 => sg_od_17 big n0 (s_row_ 37 (f_flb r (n_bit row)) i (s_cpl 35 20 g)) u (Int32.ofNat row) (Int32.ofNat i)) ?_
      have hm : g 22 i = r 76 i := (hc.2.2 i (by omega)).2.1
      have hF : f_flb r (n_bit row) i = (s_cpl 35 20 g) 37 i := by
        unfold f_flb
        rw [n_bit_f (by omega) (by omega) (show s_bit (Int32.ofNat row) (Int32.ofNat i) = 0 from hc1), if_neg (by decide), ← hm]
        exact (s_cpl_2 (a := 35) (b := 20) (by omega) (by omega)).symm
      rw [q_succ, ← s_row_k hF]
      exact ih (i + 1) (by omega)
    · refine q_step 7 39 [(0, .ref 34), (1, .ref 20), (2, .int (Int32.ofNat row)), (3, .int (Int32.ofNat i))] [.int (Int32.ofNat i), .ref 22, .int (Int32.ofNat i), .ref 37] (s_row_ 37 (f_flb r (n_bit row)) i (s_cpl 35 20 g)) u (fun big n0 => sg_od_18 big n0 (s_row_ 37 (f_flb r (n_bit row)) i (s_cpl 35 20 g)) u (Int32.ofNat row) (Int32.ofNat i)) ?_
      refine q_iald (j := i) (q_ixn (by omega) (by omega)) rfl rfl ?_
      refine q_call (M2 := 72) (rest := [.int (Int32.ofNat i), .ref 37]) (b_flipOf _ _ _) (fun _ _ => rfl) ?_
      refine q_iast (j := i) (q_ixn (by omega) (by omega)) rfl rfl ?_
      refine q_step 2 10 [(0, .ref 34), (1, .ref 20), (2, .int (Int32.ofNat row)), (3, .int ((Int32.ofNat i) + (1 : Int32)))] [] (q_up (s_row_ 37 (f_flb r (n_bit row)) i (s_cpl 35 20 g)) 37 i (s_fo (g 22 i))) u (fun big n0 => sg_od_17 big n0 (q_up (s_row_ 37 (f_flb r (n_bit row)) i (s_cpl 35 20 g)) 37 i (s_fo (g 22 i))) u (Int32.ofNat row) (Int32.ofNat i)) ?_
      have hm : g 22 i = r 76 i := (hc.2.2 i (by omega)).2.1
      have hF : f_flb r (n_bit row) i = s_fo (g 22 i) := by
        unfold f_flb
        rw [n_bit_t (by omega) (by omega) (show ¬ s_bit (Int32.ofNat row) (Int32.ofNat i) = 0 from hc1), if_pos rfl, hm]
      rw [q_succ, show (q_up (s_row_ 37 (f_flb r (n_bit row)) i (s_cpl 35 20 g)) 37 i (s_fo (g 22 i))) = s_row_ 37 (f_flb r (n_bit row)) (i + 1) (s_cpl 35 20 g) from by
        rw [← hF]
        exact s_row_s]
      exact ih (i + 1) (by omega)
theorem c_flt {n W H : Nat} {g r : qM} (u : qW) (h : w_ok n W H r) (hc : w_cs 20 n g r) {row : Nat} (hr : row < 64) : q_BS 115 [.ref 34, .ref 20, .int (Int32.ofNat row)] g u (none, s_rfm (f_flb r (n_bit row)) n g, u) := by
  refine q_bx (mm := m_115) rfl (Nat.le_of_ble_eq_true rfl) rfl ?_
  refine q_step 3 5 [(0, .ref 34), (1, .ref 20), (2, .int (Int32.ofNat row))] [.ref 20, .ref 35] g u (fun big n0 => sg_od_19 big n0 g u (Int32.ofNat row)) ?_
  refine q_call (M2 := 42) (rest := []) (b_cpl35_20 _ _) (fun _ _ => rfl) ?_
  refine q_step 2 10 [(0, .ref 34), (1, .ref 20), (2, .int (Int32.ofNat row)), (3, .int (0 : Int32))] [] (s_cpl 35 20 g) u (fun big n0 => sg_od_20 big n0 (s_cpl 35 20 g) u (Int32.ofNat row)) ?_
  have e := ft_l u h hc h.1.2.2.2.2 hr n 0 (by omega)
  rw [s_row_0] at e
  exact e
theorem wg_l (u : qW) {n W H v t : Nat} {r : qM} (h : w_ok n W H r) (h6 : n ≤ 6) (h2n : 2 ^ n ≤ 64) (hv : v ≤ 10) (ht0 : t ≤ 60) : ∀ k row a g, row + k = 2 ^ n → w_cs 20 n g r → w_tr n g r → (∀ p, p < n → g 39 p = r 78 p) → q_EV m_113 14 [(0, .ref 34), (1, .ref 20), (2, .int (Int32.ofNat v)), (3, .int (Int32.ofNat t)), (4, .long (Int64.ofNat a)), (6, .int (Int32.ofNat row))] [] g u (w_po w_fc g (.long (Int64.ofNat (n_su (fun row => n_wtc n v r row * n_oA n t r (n_bit row)) k row a)))) := by
  intro k
  induction k with
  | zero =>
    intro row a g hi hc ht hg
    refine q_step 5 22 [(0, .ref 34), (1, .ref 20), (2, .int (Int32.ofNat v)), (3, .int (Int32.ofNat t)), (4, .long (Int64.ofNat a)), (6, .int (Int32.ofNat row))] [.int ((1 : Int32) <<< ((g 20 3) &&& 31)), .int (Int32.ofNat row)] g u (fun big n0 => sg_od_21 big n0 g u (Int32.ofNat v) (Int32.ofNat t) (Int64.ofNat a) (Int32.ofNat row)) ?_
    refine q_ic_ge rfl (fun (hc0 : ((1 : Int32) <<< ((g 20 3) &&& 31)) ≤ (Int32.ofNat row)) => ?_) (fun hc0 => absurd (show ((1 : Int32) <<< ((g 20 3) &&& 31)) ≤ (Int32.ofNat row) from by rw [hc.1.1, h.2.1, s_rows2 h6]; exact (q_le (by omega) (by omega)).mpr (by omega)) hc0)
    refine q_ret 2 (some (.long (Int64.ofNat a)), g, u) (fun _ _ => rfl) ?_
    exact ⟨g, u, rfl, w_fc_rfl g⟩
  | succ k ih =>
    intro row a g hi hc ht hg
    refine q_step 5 22 [(0, .ref 34), (1, .ref 20), (2, .int (Int32.ofNat v)), (3, .int (Int32.ofNat t)), (4, .long (Int64.ofNat a)), (6, .int (Int32.ofNat row))] [.int ((1 : Int32) <<< ((g 20 3) &&& 31)), .int (Int32.ofNat row)] g u (fun big n0 => sg_od_21 big n0 g u (Int32.ofNat v) (Int32.ofNat t) (Int64.ofNat a) (Int32.ofNat row)) ?_
    refine q_ic_ge rfl (fun hc0 => absurd (show ((1 : Int32) <<< ((g 20 3) &&& 31)) ≤ (Int32.ofNat row) from hc0) (fun z => by rw [hc.1.1, h.2.1, s_rows2 h6] at z; exact absurd ((q_le (by omega) (by omega)).mp z) (by omega))) (fun (hc0 : ¬ (((1 : Int32) <<< ((g 20 3) &&& 31)) ≤ (Int32.ofNat row))) => ?_)
    refine q_step 3 29 [(0, .ref 34), (1, .ref 20), (2, .int (Int32.ofNat v)), (3, .int (Int32.ofNat t)), (4, .long (Int64.ofNat a)), (6, .int (Int32.ofNat row))] [.int (Int32.ofNat row), .int (Int32.ofNat v), .ref 20] g u (fun big n0 => sg_od_22 big n0 g u (Int32.ofNat v) (Int32.ofNat t) (Int64.ofNat a) (Int32.ofNat row)) ?_
    have hwl := n_wtc_le h6 hv r row
    refine q_call (M2 := 114) (rest := []) (c_wof u h hc h6 hv (row := row) (by omega)) (fun _ _ => rfl) ?_
    refine q_step 4 38 [(0, .ref 34), (1, .ref 20), (2, .int (Int32.ofNat v)), (3, .int (Int32.ofNat t)), (4, .long (Int64.ofNat a)), (6, .int (Int32.ofNat row)), (7, .long (Int64.ofNat (n_wtc n v r row)))] [.int (lg_cmp (Int64.ofNat (n_wtc n v r row)) (0 : Int64))] g u (fun big n0 => sg_od_23 big n0 g u (Int32.ofNat v) (Int32.ofNat t) (Int64.ofNat a) (Int32.ofNat row) (Int64.ofNat (n_wtc n v r row))) ?_
    refine q_if_le rfl (fun (hc1 : (lg_cmp (Int64.ofNat (n_wtc n v r row)) (0 : Int64)) ≤ 0) => ?_) (fun (hc1 : ¬ ((lg_cmp (Int64.ofNat (n_wtc n v r row)) (0 : Int64)) ≤ 0)) => ?_)
    · refine q_step 2 14 [(0, .ref 34), (1, .ref 20), (2, .int (Int32.ofNat v)), (3, .int (Int32.ofNat t)), (4, .long (Int64.ofNat a)), (6, .int ((Int32.ofNat row) + (1 : Int32))), (7, .long (Int64.ofNat (n_wtc n v r row)))] [] g u (fun big n0 => sg_od_24 big n0 g u (Int32.ofNat v) (Int32.ofNat t) (Int64.ofNat a) (Int32.ofNat row) (Int64.ofNat (n_wtc n v r row))) ?_
      refine q_weak [(0, .ref 34), (1, .ref 20), (2, .int (Int32.ofNat v)), (3, .int (Int32.ofNat t)), (4, .long (Int64.ofNat a)), (6, .int ((Int32.ofNat row) + (1 : Int32)))] (q_sub.cons rfl (q_sub.cons rfl (q_sub.cons rfl (q_sub.cons rfl (q_sub.cons rfl (q_sub.cons rfl q_sub.nil)))))) ?_
      have hz : n_wtc n v r row = 0 := (s_lgt (by omega)).mp hc1
      rw [q_succ, n_su, hz, Nat.zero_mul, Nat.add_zero]
      exact ih (row + 1) a g (by omega) hc ht hg
    · refine q_step 3 45 [(0, .ref 34), (1, .ref 20), (2, .int (Int32.ofNat v)), (3, .int (Int32.ofNat t)), (4, .long (Int64.ofNat a)), (6, .int (Int32.ofNat row)), (7, .long (Int64.ofNat (n_wtc n v r row)))] [.int (Int32.ofNat row), .ref 20, .ref 34] g u (fun big n0 => sg_od_25 big n0 g u (Int32.ofNat v) (Int32.ofNat t) (Int64.ofNat a) (Int32.ofNat row) (Int64.ofNat (n_wtc n v r row))) ?_
      have hy := w_cpl h6 hc ht
      refine q_call (M2 := 115) (rest := []) (c_flt u h hc (row := row) (by omega)) (fun _ _ => rfl) ?_
      refine q_step 5 57 [(0, .ref 34), (1, .ref 20), (2, .int (Int32.ofNat v)), (3, .int (Int32.ofNat t)), (4, .long (Int64.ofNat a)), (6, .int (Int32.ofNat row)), (7, .long (Int64.ofNat (n_wtc n v r row)))] [.int (Int32.ofNat t), .ref 35, .ref 28] (s_rfm (f_flb r (n_bit row)) n g) u (fun big n0 => sg_od_26 big n0 (s_rfm (f_flb r (n_bit row)) n g) u (Int32.ofNat v) (Int32.ofNat t) (Int64.ofNat a) (Int32.ofNat row) (Int64.ofNat (n_wtc n v r row))) ?_
      refine q_call (M2 := 76) (rest := []) (c_tss35 u (w_ok_row (f_flb_4 h (n_bit row)) h) (w_cs_row (fun p _ => rfl) hy) ht0) (fun _ _ => rfl) ?_
      refine q_step 3 66 [(0, .ref 34), (1, .ref 20), (2, .int (Int32.ofNat v)), (3, .int (Int32.ofNat t)), (4, .long (Int64.ofNat a)), (6, .int (Int32.ofNat row)), (7, .long (Int64.ofNat (n_wtc n v r row)))] [.ref 35, .long (Int64.ofNat a)] (s_rfg (f_flb r (n_bit row)) n t g) u (fun big n0 => sg_od_27 big n0 (s_rfg (f_flb r (n_bit row)) n t g) u (Int32.ofNat v) (Int32.ofNat t) (Int64.ofNat a) (Int32.ofNat row) (Int64.ofNat (n_wtc n v r row))) ?_
      by_cases hc2 : n_oA n t r (n_bit row) = 0
      · have hal := c_all (g := (s_rfg (f_flb r (n_bit row)) n t g)) u (w_ok_rit t _ (w_ok_row (f_flb_4 h (n_bit row)) h)) (w_up35 (w_tss35 (w_ok_row (f_flb_4 h (n_bit row)) h) (w_cs_row (fun p _ => rfl) hy) t)) (fun p hp => by rw [s_rfg_go, s_rit_g (by omega)]; exact hg p hp)
        rw [f_hav_rit, show f_hav n (gh_row n (f_flb r (n_bit row)) r) = f_hav n r from rfl, n_oA_i, if_pos hc2] at hal
        refine q_call (M2 := 99) (rest := [.long (Int64.ofNat a)]) (hal) (fun _ _ => rfl) ?_
        refine q_step 6 14 [(0, .ref 34), (1, .ref 20), (2, .int (Int32.ofNat v)), (3, .int (Int32.ofNat t)), (4, .long ((Int64.ofNat a) + (0 : Int64))), (6, .int ((Int32.ofNat row) + (1 : Int32))), (7, .long (Int64.ofNat (n_wtc n v r row)))] [] (s_rfg (f_flb r (n_bit row)) n t g) u (fun big n0 => sg_od_28 big n0 (s_rfg (f_flb r (n_bit row)) n t g) u (Int32.ofNat v) (Int32.ofNat t) (Int64.ofNat a) (Int32.ofNat row) (Int64.ofNat (n_wtc n v r row)) (Int64.ofNat a)) ?_
        refine q_weak [(0, .ref 34), (1, .ref 20), (2, .int (Int32.ofNat v)), (3, .int (Int32.ofNat t)), (4, .long ((Int64.ofNat a) + (0 : Int64))), (6, .int ((Int32.ofNat row) + (1 : Int32)))] (q_sub.cons rfl (q_sub.cons rfl (q_sub.cons rfl (q_sub.cons rfl (q_sub.cons rfl (q_sub.cons rfl q_sub.nil)))))) ?_
        rw [q_succ, n_su, hc2, Nat.mul_zero, Nat.add_zero, show ((Int64.ofNat a) + (0 : Int64)) = Int64.ofNat a from Int64.add_zero _]
        exact q_EV.imp (ih (row + 1) a _ (by omega) (w_cs_fc s_rfg_fc hc) (s_rfg_tr ht) (fun p hp => by rw [s_rfg_go]; exact hg p hp)) (fun R z => w_po_c s_rfg_fc rfl z)
      · have hal := c_all (g := (s_rfg (f_flb r (n_bit row)) n t g)) u (w_ok_rit t _ (w_ok_row (f_flb_4 h (n_bit row)) h)) (w_up35 (w_tss35 (w_ok_row (f_flb_4 h (n_bit row)) h) (w_cs_row (fun p _ => rfl) hy) t)) (fun p hp => by rw [s_rfg_go, s_rit_g (by omega)]; exact hg p hp)
        rw [f_hav_rit, show f_hav n (gh_row n (f_flb r (n_bit row)) r) = f_hav n r from rfl, n_oA_i, if_neg hc2] at hal
        refine q_call (M2 := 99) (rest := [.long (Int64.ofNat a)]) (hal) (fun _ _ => rfl) ?_
        refine q_step 7 14 [(0, .ref 34), (1, .ref 20), (2, .int (Int32.ofNat v)), (3, .int (Int32.ofNat t)), (4, .long ((Int64.ofNat a) + (Int64.ofNat (n_wtc n v r row)))), (6, .int ((Int32.ofNat row) + (1 : Int32))), (7, .long (Int64.ofNat (n_wtc n v r row)))] [] (s_rfg (f_flb r (n_bit row)) n t g) u (fun big n0 => sg_od_29 big n0 (s_rfg (f_flb r (n_bit row)) n t g) u (Int32.ofNat v) (Int32.ofNat t) (Int64.ofNat a) (Int32.ofNat row) (Int64.ofNat (n_wtc n v r row)) (Int64.ofNat a)) ?_
        refine q_weak [(0, .ref 34), (1, .ref 20), (2, .int (Int32.ofNat v)), (3, .int (Int32.ofNat t)), (4, .long ((Int64.ofNat a) + (Int64.ofNat (n_wtc n v r row)))), (6, .int ((Int32.ofNat row) + (1 : Int32)))] (q_sub.cons rfl (q_sub.cons rfl (q_sub.cons rfl (q_sub.cons rfl (q_sub.cons rfl (q_sub.cons rfl q_sub.nil)))))) ?_
        rw [q_succ, n_su, (n_oA_01 n t r (n_bit row)).resolve_left hc2, Nat.mul_one, show ((Int64.ofNat a) + (Int64.ofNat (n_wtc n v r row))) = Int64.ofNat (a + n_wtc n v r row) from (Int64.ofNat_add _ _).symm]
        exact q_EV.imp (ih (row + 1) _ _ (by omega) (w_cs_fc s_rfg_fc hc) (s_rfg_tr ht) (fun p hp => by rw [s_rfg_go]; exact hg p hp)) (fun R z => w_po_c s_rfg_fc rfl z)
theorem c_wag113 {n W H : Nat} {g r : qM} (u : qW) (h : w_ok n W H r) (hc : w_cs 20 n g r) {v t : Nat} (hv : v ≤ 10) (ht0 : t ≤ 60) (hgo : ∀ p, p < n → g 24 p = r 78 p) : w_BS w_fc 113 [.ref 34, .ref 20, .int (Int32.ofNat v), .int (Int32.ofNat t)] g u (.long (Int64.ofNat (n_odc n v t r))) := by
  refine w_bs (mm := m_113) rfl (Nat.le_of_ble_eq_true rfl) rfl ?_
  have h5 : n ≤ 6 := h.1.2.2.2.2
  have hy := w_cpy (a := 35) (b := 20) h5 (by omega) hc
  refine q_step 3 5 [(0, .ref 34), (1, .ref 20), (2, .int (Int32.ofNat v)), (3, .int (Int32.ofNat t))] [.ref 20, .ref 35] g u (fun big n0 => sg_od_30 big n0 g u (Int32.ofNat v) (Int32.ofNat t)) ?_
  refine q_call (M2 := 41) (rest := []) (b_cpy35_20 _ _) (fun _ _ => rfl) ?_
  refine q_step 4 14 [(0, .ref 34), (1, .ref 20), (2, .int (Int32.ofNat v)), (3, .int (Int32.ofNat t)), (4, .long (0 : Int64)), (6, .int (0 : Int32))] [] (s_cpy 35 20 g) u (fun big n0 => sg_od_31 big n0 (s_cpy 35 20 g) u (Int32.ofNat v) (Int32.ofNat t)) ?_
  exact q_EV.imp (wg_l u h h5 (n_bnd h5).1 hv ht0 (2 ^ n) 0 0 (s_cpy 35 20 g) (by omega) (w_cs_fc w_cpy_fc hc) (w_cs_tr hy) (fun p hp => by rw [show s_cpy 35 20 g 39 p = g 24 p from s_cpy_4 (a := 35) (b := 20) (by omega) (by omega)]; exact hgo p hp)) (fun R z => w_po_c w_cpy_fc rfl z)
theorem cd_l (g : qM) (u : qW) {x y : Int64} : ∀ k i a b, i + k = 100 → a < 1000000000 → b < 1000000000 → q_EV m_117 9 [(0, .long x), (2, .long y), (4, .long (Int64.ofNat a)), (6, .long (Int64.ofNat b)), (8, .int (Int32.ofNat i))] [] g u (fun R => R = (some (.long (Int64.ofNat (n_eu k a b))), g, u)) := by
  intro k
  induction k with
  | zero =>
    intro i a b hi ha hb
    refine q_step 2 13 [(0, .long x), (2, .long y), (4, .long (Int64.ofNat a)), (6, .long (Int64.ofNat b)), (8, .int (Int32.ofNat i))] [.int (100 : Int32), .int (Int32.ofNat i)] g u (fun big n0 => sg_od_32 big n0 g u x y (Int64.ofNat a) (Int64.ofNat b) (Int32.ofNat i)) ?_
    refine q_ic_ge rfl (fun (hc0 : (100 : Int32) ≤ (Int32.ofNat i)) => ?_) (fun hc0 => absurd (show (100 : Int32) ≤ (Int32.ofNat i) from (q_le (i := 100) (j := i) (by omega) (by omega)).mpr (by omega)) hc0)
    refine q_ret 2 (some (.long (Int64.ofNat a)), g, u) (fun _ _ => rfl) ?_
    rfl
  | succ k ih =>
    intro i a b hi ha hb
    refine q_step 2 13 [(0, .long x), (2, .long y), (4, .long (Int64.ofNat a)), (6, .long (Int64.ofNat b)), (8, .int (Int32.ofNat i))] [.int (100 : Int32), .int (Int32.ofNat i)] g u (fun big n0 => sg_od_32 big n0 g u x y (Int64.ofNat a) (Int64.ofNat b) (Int32.ofNat i)) ?_
    refine q_ic_ge rfl (fun hc0 => absurd (show (100 : Int32) ≤ (Int32.ofNat i) from hc0) (fun z => absurd ((q_le (i := 100) (j := i) (by omega) (by omega)).mp z) (by omega))) (fun (hc0 : ¬ ((100 : Int32) ≤ (Int32.ofNat i))) => ?_)
    refine q_step 3 20 [(0, .long x), (2, .long y), (4, .long (Int64.ofNat a)), (6, .long (Int64.ofNat b)), (8, .int (Int32.ofNat i))] [.int (lg_cmp (Int64.ofNat b) (0 : Int64))] g u (fun big n0 => sg_od_33 big n0 g u x y (Int64.ofNat a) (Int64.ofNat b) (Int32.ofNat i)) ?_
    refine q_if_eq rfl (fun (hc1 : (lg_cmp (Int64.ofNat b) (0 : Int64)) = 0) => ?_) (fun (hc1 : ¬ ((lg_cmp (Int64.ofNat b) (0 : Int64)) = 0)) => ?_)
    · refine q_ret 2 (some (.long (Int64.ofNat a)), g, u) (fun _ _ => rfl) ?_
      have e : b = 0 := (q_leq hb (by omega)).mp (s_lcmp0.mp hc1)
      rw [n_eu, if_pos e]
    · refine q_step 2 27 [(0, .long x), (2, .long y), (4, .long (Int64.ofNat a)), (6, .long (Int64.ofNat b)), (8, .int (Int32.ofNat i))] [.long (Int64.ofNat b), .long (Int64.ofNat a)] g u (fun big n0 => sg_od_34 big n0 g u x y (Int64.ofNat a) (Int64.ofNat b) (Int32.ofNat i)) ?_
      refine q_lrem (fun z => hc1 (s_lcmp0.mpr z)) rfl ?_
      refine q_step 7 9 [(0, .long x), (2, .long y), (4, .long (Int64.ofNat b)), (6, .long ((Int64.ofNat a) - (Int64.ofNat a) / (Int64.ofNat b) * (Int64.ofNat b))), (8, .int ((Int32.ofNat i) + (1 : Int32))), (9, .long ((Int64.ofNat a) - (Int64.ofNat a) / (Int64.ofNat b) * (Int64.ofNat b)))] [] g u (fun big n0 => sg_od_35 big n0 g u x y (Int64.ofNat a) (Int64.ofNat b) (Int32.ofNat i) ((Int64.ofNat a) - (Int64.ofNat a) / (Int64.ofNat b) * (Int64.ofNat b))) ?_
      refine q_weak [(0, .long x), (2, .long y), (4, .long (Int64.ofNat b)), (6, .long ((Int64.ofNat a) - (Int64.ofNat a) / (Int64.ofNat b) * (Int64.ofNat b))), (8, .int ((Int32.ofNat i) + (1 : Int32)))] (q_sub.cons rfl (q_sub.cons rfl (q_sub.cons rfl (q_sub.cons rfl (q_sub.cons rfl q_sub.nil))))) ?_
      have e : ¬ b = 0 := fun z => hc1 (s_lcmp0.mpr (by rw [z]; rfl))
      rw [q_succ, n_eu, if_neg e, show ((Int64.ofNat a) - (Int64.ofNat a) / (Int64.ofNat b) * (Int64.ofNat b)) = Int64.ofNat (a % b) from q_lrm ha hb]
      exact ih (i + 1) b (a % b) (by omega) hb (by have := Nat.mod_lt a (show 0 < b by omega); omega)
theorem b_cd (g : qM) (u : qW) {a b : Nat} (ha : a < 1000000000) (hb : b < 1048576) : q_BS 117 [.long (Int64.ofNat a), .long (Int64.ofNat b)] g u (some (.long (Int64.ofNat (Nat.gcd a b))), g, u) := by
  refine q_bx (mm := m_117) rfl (Nat.le_of_ble_eq_true rfl) rfl ?_
  refine q_step 6 9 [(0, .long (Int64.ofNat a)), (2, .long (Int64.ofNat b)), (4, .long (Int64.ofNat a)), (6, .long (Int64.ofNat b)), (8, .int (0 : Int32))] [] g u (fun big n0 => sg_od_36 big n0 g u (Int64.ofNat a) (Int64.ofNat b)) ?_
  have e := cd_l g u (x := Int64.ofNat a) (y := Int64.ofNat b) 100 0 a b (by omega) ha (by omega)
  rw [n_eu_ok 20 100 a b hb (by omega)] at e
  exact e
theorem c_odds0 {n W H : Nat} {g r : qM} (u : qW) (h : w_ok n W H r) (hc : w_cs 20 n g r) {v t : Nat} (hv : v ≤ 10) (ht0 : t ≤ 12) (hgo : ∀ p, p < n → g 24 p = r 78 p) : w_BS w_fc 112 [.ref 8, .int (Int32.ofNat v), .int (Int32.ofNat t), .int (0 : Int32)] g u (.long (f_od 0 n v t r)) := by
  refine w_bs (mm := m_112) rfl (Nat.le_of_ble_eq_true rfl) rfl ?_
  refine q_step 1 1 [(0, .ref 8), (1, .int (Int32.ofNat v)), (2, .int (Int32.ofNat t)), (3, .int (0 : Int32))] [.int (Int32.ofNat v)] g u (fun big n0 => sg_od_37 big n0 g u (Int32.ofNat v) (Int32.ofNat t)) ?_
  refine q_if_lt rfl (fun hc0 => absurd (show (Int32.ofNat v) < 0 from hc0) (fun z => by have z := Int32.lt_iff_toInt_lt.mp z; rw [q_nat (by omega)] at z; have e : (0 : Int32).toInt = 0 := rfl; omega)) (fun (hc0 : ¬ ((Int32.ofNat v) < 0)) => ?_)
  refine q_step 2 7 [(0, .ref 8), (1, .int (Int32.ofNat v)), (2, .int (Int32.ofNat t)), (3, .int (0 : Int32))] [.int (10 : Int32), .int (Int32.ofNat v)] g u (fun big n0 => sg_od_38 big n0 g u (Int32.ofNat v) (Int32.ofNat t)) ?_
  refine q_ic_gt rfl (fun hc1 => absurd (show (10 : Int32) < (Int32.ofNat v) from hc1) (fun z => absurd ((q_lt (i := 10) (j := v) (by omega) (by omega)).mp z) (by omega))) (fun (hc1 : ¬ ((10 : Int32) < (Int32.ofNat v))) => ?_)
  refine q_step 1 11 [(0, .ref 8), (1, .int (Int32.ofNat v)), (2, .int (Int32.ofNat t)), (3, .int (0 : Int32))] [.int (Int32.ofNat t)] g u (fun big n0 => sg_od_39 big n0 g u (Int32.ofNat v) (Int32.ofNat t)) ?_
  refine q_call (M2 := 90) (rest := []) (b_srch1 g u ht0) (fun _ _ => rfl) ?_
  refine q_step 2 18 [(0, .ref 8), (1, .int (Int32.ofNat v)), (2, .int (Int32.ofNat t)), (3, .int (0 : Int32))] [.int (0 : Int32)] g u (fun big n0 => sg_od_40 big n0 g u (Int32.ofNat v) (Int32.ofNat t)) ?_
  refine q_call (M2 := 57) (rest := []) (show q_BS 57 [.int (0 : Int32)] g u (some (.int 1), g, u) from b_isHalf 0 g u) (fun _ _ => rfl) ?_
  refine q_step 7 38 [(0, .ref 8), (1, .int (Int32.ofNat v)), (2, .int (Int32.ofNat t)), (3, .int (0 : Int32))] [.int (Int32.ofNat t), .int (Int32.ofNat v), .ref 20, .ref 34] g u (fun big n0 => sg_od_41 big n0 g u (Int32.ofNat v) (Int32.ofNat t)) ?_
  obtain ⟨g1, u1, hb, hf⟩ := c_wag113 u h hc hv (t := t) (by omega) hgo
  have hcf := w_cs_fc hf hc
  have h6 : n ≤ 6 := h.1.2.2.2.2
  have l1 := n_odc_le (t := t) h6 hv r
  have l2 := n_wh_le h6 r
  have l3 := n_wh_pos n r
  have l4 : 0 < (Nat.gcd (n_odc n v t r) (n_whc n r)) := Nat.gcd_pos_of_pos_right _ l3
  have l5 : (Nat.gcd (n_odc n v t r) (n_whc n r)) ≤ n_whc n r := Nat.gcd_le_right _ l3
  refine q_call (M2 := 113) (rest := []) (hb) (fun _ _ => rfl) ?_
  refine q_step 3 47 [(0, .ref 8), (1, .int (Int32.ofNat v)), (2, .int (Int32.ofNat t)), (3, .int (0 : Int32)), (4, .long (Int64.ofNat (n_odc n v t r)))] [.ref 20] g1 u1 (fun big n0 => sg_od_42 big n0 g1 u1 (Int32.ofNat v) (Int32.ofNat t) (Int64.ofNat (n_odc n v t r))) ?_
  refine q_call (M2 := 116) (rest := []) (c_waf u1 h hcf) (fun _ _ => rfl) ?_
  refine q_step 3 56 [(0, .ref 8), (1, .int (Int32.ofNat v)), (2, .int (Int32.ofNat t)), (3, .int (0 : Int32)), (4, .long (Int64.ofNat (n_odc n v t r))), (6, .long (Int64.ofNat (n_whc n r)))] [.long (Int64.ofNat (n_whc n r)), .long (Int64.ofNat (n_odc n v t r))] g1 u1 (fun big n0 => sg_od_43 big n0 g1 u1 (Int32.ofNat v) (Int32.ofNat t) (Int64.ofNat (n_odc n v t r)) (Int64.ofNat (n_whc n r))) ?_
  refine q_call (M2 := 117) (rest := []) (b_cd g1 u1 (by omega) (by omega)) (fun _ _ => rfl) ?_
  refine q_step 9 78 [(0, .ref 8), (1, .int (Int32.ofNat v)), (2, .int (Int32.ofNat t)), (3, .int (0 : Int32)), (4, .long (Int64.ofNat (n_odc n v t r))), (6, .long (Int64.ofNat (n_whc n r))), (8, .long (Int64.ofNat (Nat.gcd (n_odc n v t r) (n_whc n r)))), (10, .long (Int64.ofNat (n_odc n v t r)))] [.int (lg_cmp (Int64.ofNat (Nat.gcd (n_odc n v t r) (n_whc n r))) (0 : Int64))] g1 u1 (fun big n0 => sg_od_44 big n0 g1 u1 (Int32.ofNat v) (Int32.ofNat t) (Int64.ofNat (n_odc n v t r)) (Int64.ofNat (n_whc n r)) (Int64.ofNat (Nat.gcd (n_odc n v t r) (n_whc n r)))) ?_
  refine q_if_le rfl (fun hc2 => absurd (show (lg_cmp (Int64.ofNat (Nat.gcd (n_odc n v t r) (n_whc n r))) (0 : Int64)) ≤ 0 from hc2) (fun z => absurd ((s_lgt (by omega)).mp z) (by omega))) (fun (hc2 : ¬ ((lg_cmp (Int64.ofNat (Nat.gcd (n_odc n v t r) (n_whc n r))) (0 : Int64)) ≤ 0)) => ?_)
  refine q_step 2 85 [(0, .ref 8), (1, .int (Int32.ofNat v)), (2, .int (Int32.ofNat t)), (3, .int (0 : Int32)), (4, .long (Int64.ofNat (n_odc n v t r))), (6, .long (Int64.ofNat (n_whc n r))), (8, .long (Int64.ofNat (Nat.gcd (n_odc n v t r) (n_whc n r)))), (10, .long (Int64.ofNat (n_odc n v t r)))] [.long (Int64.ofNat (Nat.gcd (n_odc n v t r) (n_whc n r))), .long (Int64.ofNat (n_odc n v t r))] g1 u1 (fun big n0 => sg_od_45 big n0 g1 u1 (Int32.ofNat v) (Int32.ofNat t) (Int64.ofNat (n_odc n v t r)) (Int64.ofNat (n_whc n r)) (Int64.ofNat (Nat.gcd (n_odc n v t r) (n_whc n r))) (Int64.ofNat (n_odc n v t r))) ?_
  refine q_ldiv (fun z => absurd ((q_leq (b := 0) (by omega) (by omega)).mp z) (by omega)) rfl ?_
  refine q_ret 2 (some (.long ((Int64.ofNat (n_odc n v t r)) / (Int64.ofNat (Nat.gcd (n_odc n v t r) (n_whc n r))))), g1, u1) (fun _ _ => rfl) ?_
  exact ⟨g1, u1, by rw [q_ldv (by omega) (by omega)]; rfl, hf⟩
theorem c_odds1 {n W H : Nat} {g r : qM} (u : qW) (h : w_ok n W H r) (hc : w_cs 20 n g r) {v t : Nat} (hv : v ≤ 10) (ht0 : t ≤ 12) (hgo : ∀ p, p < n → g 24 p = r 78 p) : w_BS w_fc 112 [.ref 8, .int (Int32.ofNat v), .int (Int32.ofNat t), .int (1 : Int32)] g u (.long (f_od 1 n v t r)) := by
  refine w_bs (mm := m_112) rfl (Nat.le_of_ble_eq_true rfl) rfl ?_
  refine q_step 1 1 [(0, .ref 8), (1, .int (Int32.ofNat v)), (2, .int (Int32.ofNat t)), (3, .int (1 : Int32))] [.int (Int32.ofNat v)] g u (fun big n0 => sg_od_46 big n0 g u (Int32.ofNat v) (Int32.ofNat t)) ?_
  refine q_if_lt rfl (fun hc0 => absurd (show (Int32.ofNat v) < 0 from hc0) (fun z => by have z := Int32.lt_iff_toInt_lt.mp z; rw [q_nat (by omega)] at z; have e : (0 : Int32).toInt = 0 := rfl; omega)) (fun (hc0 : ¬ ((Int32.ofNat v) < 0)) => ?_)
  refine q_step 2 7 [(0, .ref 8), (1, .int (Int32.ofNat v)), (2, .int (Int32.ofNat t)), (3, .int (1 : Int32))] [.int (10 : Int32), .int (Int32.ofNat v)] g u (fun big n0 => sg_od_47 big n0 g u (Int32.ofNat v) (Int32.ofNat t)) ?_
  refine q_ic_gt rfl (fun hc1 => absurd (show (10 : Int32) < (Int32.ofNat v) from hc1) (fun z => absurd ((q_lt (i := 10) (j := v) (by omega) (by omega)).mp z) (by omega))) (fun (hc1 : ¬ ((10 : Int32) < (Int32.ofNat v))) => ?_)
  refine q_step 1 11 [(0, .ref 8), (1, .int (Int32.ofNat v)), (2, .int (Int32.ofNat t)), (3, .int (1 : Int32))] [.int (Int32.ofNat t)] g u (fun big n0 => sg_od_48 big n0 g u (Int32.ofNat v) (Int32.ofNat t)) ?_
  refine q_call (M2 := 90) (rest := []) (b_srch1 g u ht0) (fun _ _ => rfl) ?_
  refine q_step 2 18 [(0, .ref 8), (1, .int (Int32.ofNat v)), (2, .int (Int32.ofNat t)), (3, .int (1 : Int32))] [.int (1 : Int32)] g u (fun big n0 => sg_od_49 big n0 g u (Int32.ofNat v) (Int32.ofNat t)) ?_
  refine q_call (M2 := 57) (rest := []) (show q_BS 57 [.int (1 : Int32)] g u (some (.int 1), g, u) from b_isHalf 1 g u) (fun _ _ => rfl) ?_
  refine q_step 7 38 [(0, .ref 8), (1, .int (Int32.ofNat v)), (2, .int (Int32.ofNat t)), (3, .int (1 : Int32))] [.int (Int32.ofNat t), .int (Int32.ofNat v), .ref 20, .ref 34] g u (fun big n0 => sg_od_50 big n0 g u (Int32.ofNat v) (Int32.ofNat t)) ?_
  obtain ⟨g1, u1, hb, hf⟩ := c_wag113 u h hc hv (t := t) (by omega) hgo
  have hcf := w_cs_fc hf hc
  have h6 : n ≤ 6 := h.1.2.2.2.2
  have l1 := n_odc_le (t := t) h6 hv r
  have l2 := n_wh_le h6 r
  have l3 := n_wh_pos n r
  have l4 : 0 < (Nat.gcd (n_odc n v t r) (n_whc n r)) := Nat.gcd_pos_of_pos_right _ l3
  have l5 : (Nat.gcd (n_odc n v t r) (n_whc n r)) ≤ n_whc n r := Nat.gcd_le_right _ l3
  refine q_call (M2 := 113) (rest := []) (hb) (fun _ _ => rfl) ?_
  refine q_step 3 47 [(0, .ref 8), (1, .int (Int32.ofNat v)), (2, .int (Int32.ofNat t)), (3, .int (1 : Int32)), (4, .long (Int64.ofNat (n_odc n v t r)))] [.ref 20] g1 u1 (fun big n0 => sg_od_51 big n0 g1 u1 (Int32.ofNat v) (Int32.ofNat t) (Int64.ofNat (n_odc n v t r))) ?_
  refine q_call (M2 := 116) (rest := []) (c_waf u1 h hcf) (fun _ _ => rfl) ?_
  refine q_step 3 56 [(0, .ref 8), (1, .int (Int32.ofNat v)), (2, .int (Int32.ofNat t)), (3, .int (1 : Int32)), (4, .long (Int64.ofNat (n_odc n v t r))), (6, .long (Int64.ofNat (n_whc n r)))] [.long (Int64.ofNat (n_whc n r)), .long (Int64.ofNat (n_odc n v t r))] g1 u1 (fun big n0 => sg_od_52 big n0 g1 u1 (Int32.ofNat v) (Int32.ofNat t) (Int64.ofNat (n_odc n v t r)) (Int64.ofNat (n_whc n r))) ?_
  refine q_call (M2 := 117) (rest := []) (b_cd g1 u1 (by omega) (by omega)) (fun _ _ => rfl) ?_
  refine q_step 8 78 [(0, .ref 8), (1, .int (Int32.ofNat v)), (2, .int (Int32.ofNat t)), (3, .int (1 : Int32)), (4, .long (Int64.ofNat (n_odc n v t r))), (6, .long (Int64.ofNat (n_whc n r))), (8, .long (Int64.ofNat (Nat.gcd (n_odc n v t r) (n_whc n r)))), (10, .long (Int64.ofNat (n_whc n r)))] [.int (lg_cmp (Int64.ofNat (Nat.gcd (n_odc n v t r) (n_whc n r))) (0 : Int64))] g1 u1 (fun big n0 => sg_od_53 big n0 g1 u1 (Int32.ofNat v) (Int32.ofNat t) (Int64.ofNat (n_odc n v t r)) (Int64.ofNat (n_whc n r)) (Int64.ofNat (Nat.gcd (n_odc n v t r) (n_whc n r)))) ?_
  refine q_if_le rfl (fun hc2 => absurd (show (lg_cmp (Int64.ofNat (Nat.gcd (n_odc n v t r) (n_whc n r))) (0 : Int64)) ≤ 0 from hc2) (fun z => absurd ((s_lgt (by omega)).mp z) (by omega))) (fun (hc2 : ¬ ((lg_cmp (Int64.ofNat (Nat.gcd (n_odc n v t r) (n_whc n r))) (0 : Int64)) ≤ 0)) => ?_)
  refine q_step 2 85 [(0, .ref 8), (1, .int (Int32.ofNat v)), (2, .int (Int32.ofNat t)), (3, .int (1 : Int32)), (4, .long (Int64.ofNat (n_odc n v t r))), (6, .long (Int64.ofNat (n_whc n r))), (8, .long (Int64.ofNat (Nat.gcd (n_odc n v t r) (n_whc n r)))), (10, .long (Int64.ofNat (n_whc n r)))] [.long (Int64.ofNat (Nat.gcd (n_odc n v t r) (n_whc n r))), .long (Int64.ofNat (n_whc n r))] g1 u1 (fun big n0 => sg_od_54 big n0 g1 u1 (Int32.ofNat v) (Int32.ofNat t) (Int64.ofNat (n_odc n v t r)) (Int64.ofNat (n_whc n r)) (Int64.ofNat (Nat.gcd (n_odc n v t r) (n_whc n r))) (Int64.ofNat (n_whc n r))) ?_
  refine q_ldiv (fun z => absurd ((q_leq (b := 0) (by omega) (by omega)).mp z) (by omega)) rfl ?_
  refine q_ret 2 (some (.long ((Int64.ofNat (n_whc n r)) / (Int64.ofNat (Nat.gcd (n_odc n v t r) (n_whc n r))))), g1, u1) (fun _ _ => rfl) ?_
  exact ⟨g1, u1, by rw [q_ldv (by omega) (by omega)]; rfl, hf⟩
theorem rcm_l (g : qM) (u : qW) {x y : Int64} : ∀ m a b, b < m → a < 1000000000 → b < 1000000000 → q_EV m_211 6 [(0, .long x), (2, .long y), (4, .long (Int64.ofNat a)), (6, .long (Int64.ofNat b))] [] g u (fun R => R = (some (.long (Int64.ofNat (Nat.gcd a b))), g, u)) := by
  intro m
  induction m with
  | zero => exact fun a b hm => absurd hm (Nat.not_lt_zero _)
  | succ m ih =>
    intro a b hm ha hb
    refine q_step 3 10 [(0, .long x), (2, .long y), (4, .long (Int64.ofNat a)), (6, .long (Int64.ofNat b))] [.int (lg_cmp (Int64.ofNat b) (0 : Int64))] g u (fun big n0 => sg_od_55 big n0 g u x y (Int64.ofNat a) (Int64.ofNat b)) ?_
    refine q_if_eq rfl (fun (hc0 : (lg_cmp (Int64.ofNat b) (0 : Int64)) = 0) => ?_) (fun (hc0 : ¬ ((lg_cmp (Int64.ofNat b) (0 : Int64)) = 0)) => ?_)
    · refine q_ret 2 (some (.long (Int64.ofNat a)), g, u) (fun _ _ => rfl) ?_
      have e : b = 0 := (q_leq hb (by omega)).mp (s_lcmp0.mp hc0)
      rw [e, Nat.gcd_zero_right]
    · refine q_step 2 17 [(0, .long x), (2, .long y), (4, .long (Int64.ofNat a)), (6, .long (Int64.ofNat b))] [.long (Int64.ofNat b), .long (Int64.ofNat a)] g u (fun big n0 => sg_od_56 big n0 g u x y (Int64.ofNat a) (Int64.ofNat b)) ?_
      refine q_lrem (fun z => hc0 (s_lcmp0.mpr z)) rfl ?_
      refine q_step 6 6 [(0, .long x), (2, .long y), (4, .long (Int64.ofNat b)), (6, .long ((Int64.ofNat a) - (Int64.ofNat a) / (Int64.ofNat b) * (Int64.ofNat b))), (8, .long ((Int64.ofNat a) - (Int64.ofNat a) / (Int64.ofNat b) * (Int64.ofNat b)))] [] g u (fun big n0 => sg_od_57 big n0 g u x y (Int64.ofNat a) (Int64.ofNat b) ((Int64.ofNat a) - (Int64.ofNat a) / (Int64.ofNat b) * (Int64.ofNat b))) ?_
      refine q_weak [(0, .long x), (2, .long y), (4, .long (Int64.ofNat b)), (6, .long ((Int64.ofNat a) - (Int64.ofNat a) / (Int64.ofNat b) * (Int64.ofNat b)))] (q_sub.cons rfl (q_sub.cons rfl (q_sub.cons rfl (q_sub.cons rfl q_sub.nil)))) ?_
      have e : ¬ b = 0 := fun z => hc0 (s_lcmp0.mpr (by rw [z]; rfl))
      have hl := Nat.mod_lt a (show 0 < b by omega)
      rw [show Nat.gcd a b = Nat.gcd b (a % b) by rw [Nat.gcd_comm b, ← Nat.gcd_rec, Nat.gcd_comm], show ((Int64.ofNat a) - (Int64.ofNat a) / (Int64.ofNat b) * (Int64.ofNat b)) = Int64.ofNat (a % b) from q_lrm ha hb]
      exact ih b (a % b) (by omega) hb (by omega)
theorem b_rcm (g : qM) (u : qW) {a b : Nat} (ha : a < 1000000000) (hb : b < 1000000000) : q_BS 211 [.long (Int64.ofNat a), .long (Int64.ofNat b)] g u (some (.long (Int64.ofNat (Nat.gcd a b))), g, u) := by
  refine q_bx (mm := m_211) rfl (Nat.le_of_ble_eq_true rfl) rfl ?_
  refine q_step 4 6 [(0, .long (Int64.ofNat a)), (2, .long (Int64.ofNat b)), (4, .long (Int64.ofNat a)), (6, .long (Int64.ofNat b))] [] g u (fun big n0 => sg_od_58 big n0 g u (Int64.ofNat a) (Int64.ofNat b)) ?_
  exact rcm_l g u (b + 1) a b (by omega) ha hb
theorem ro1 (g : qM) (u : qW) {n v t : Nat} {wh : Int32} (hn : g 70 4 = Int32.ofNat n) (h6 : n ≤ 6) {Q : Option Value × qM × qW → Prop} : ∀ k i a, i + k = n → (q_EV m_210 70 [(0, .ref 70), (1, .int (Int32.ofNat v)), (2, .int (Int32.ofNat t)), (3, .int wh), (4, .long (0 : Int64)), (6, .long (Int64.ofNat (a * 10 ^ k))), (8, .int (Int32.ofNat n))] [] g u Q) → q_EV m_210 47 [(0, .ref 70), (1, .int (Int32.ofNat v)), (2, .int (Int32.ofNat t)), (3, .int wh), (4, .long (0 : Int64)), (6, .long (Int64.ofNat a)), (8, .int (Int32.ofNat i))] [] g u Q := by
  intro k
  induction k with
  | zero =>
    intro i a hi hk
    refine q_step 3 53 [(0, .ref 70), (1, .int (Int32.ofNat v)), (2, .int (Int32.ofNat t)), (3, .int wh), (4, .long (0 : Int64)), (6, .long (Int64.ofNat a)), (8, .int (Int32.ofNat i))] [.int (g 70 4), .int (Int32.ofNat i)] g u (fun big n0 => sg_od_59 big n0 g u (Int32.ofNat v) (Int32.ofNat t) wh (0 : Int64) (Int64.ofNat a) (Int32.ofNat i)) ?_
    refine q_ic_ge rfl (fun (hc0 : (g 70 4) ≤ (Int32.ofNat i)) => ?_) (fun hc0 => absurd (show (g 70 4) ≤ (Int32.ofNat i) from by rw [hn]; exact (q_le (by omega) (by omega)).mpr (by omega)) hc0)
    rw [Nat.pow_zero, Nat.mul_one] at hk
    rw [show i = n by omega]
    exact hk
  | succ k ih =>
    intro i a hi hk
    refine q_step 3 53 [(0, .ref 70), (1, .int (Int32.ofNat v)), (2, .int (Int32.ofNat t)), (3, .int wh), (4, .long (0 : Int64)), (6, .long (Int64.ofNat a)), (8, .int (Int32.ofNat i))] [.int (g 70 4), .int (Int32.ofNat i)] g u (fun big n0 => sg_od_59 big n0 g u (Int32.ofNat v) (Int32.ofNat t) wh (0 : Int64) (Int64.ofNat a) (Int32.ofNat i)) ?_
    refine q_ic_ge rfl (fun hc0 => absurd (show (g 70 4) ≤ (Int32.ofNat i) from hc0) (fun z => by rw [hn] at z; exact absurd ((q_le (by omega) (by omega)).mp z) (by omega))) (fun (hc0 : ¬ ((g 70 4) ≤ (Int32.ofNat i))) => ?_)
    refine q_step 6 47 [(0, .ref 70), (1, .int (Int32.ofNat v)), (2, .int (Int32.ofNat t)), (3, .int wh), (4, .long (0 : Int64)), (6, .long ((Int64.ofNat a) * (10 : Int64))), (8, .int ((Int32.ofNat i) + (1 : Int32)))] [] g u (fun big n0 => sg_od_60 big n0 g u (Int32.ofNat v) (Int32.ofNat t) wh (0 : Int64) (Int64.ofNat a) (Int32.ofNat i)) ?_
    rw [q_succ, show (Int64.ofNat a) * (10 : Int64) = Int64.ofNat (a * 10) from (Int64.ofNat_mul a 10).symm]
    exact ih (i + 1) (a * 10) (by omega) (by rw [Nat.mul_assoc, Nat.mul_comm 10, ← Nat.pow_succ]; exact hk)
theorem ro2 {n W H v t : Nat} {wh : Int32} {g r : qM} (u : qW) (h : w_ok n W H r) (hs : w_sm n (s_start g) r) (h5 : n ≤ 5) (hv : v ≤ 10) {sm al row : Nat} (hr : row < 64) {Q : Option Value × qM × qW → Prop} : ∀ k i a, i + k = n → (q_EV m_210 179 [(0, .ref 70), (1, .int (Int32.ofNat v)), (2, .int (Int32.ofNat t)), (3, .int wh), (4, .long (Int64.ofNat sm)), (6, .long (Int64.ofNat al)), (8, .int (Int32.ofNat row)), (9, .long (Int64.ofNat (n_pr (fun p => n_wr v (n_bit row p)) k i a))), (11, .int (Int32.ofNat n))] [] (s_row_ 76 (f_flb r (n_bit row)) n (s_start g)) u Q) → q_EV m_210 94 [(0, .ref 70), (1, .int (Int32.ofNat v)), (2, .int (Int32.ofNat t)), (3, .int wh), (4, .long (Int64.ofNat sm)), (6, .long (Int64.ofNat al)), (8, .int (Int32.ofNat row)), (9, .long (Int64.ofNat a)), (11, .int (Int32.ofNat i))] [] (s_row_ 76 (f_flb r (n_bit row)) i (s_start g)) u Q := by
  intro k
  induction k with
  | zero =>
    intro i a hi hk
    refine q_step 3 100 [(0, .ref 70), (1, .int (Int32.ofNat v)), (2, .int (Int32.ofNat t)), (3, .int wh), (4, .long (Int64.ofNat sm)), (6, .long (Int64.ofNat al)), (8, .int (Int32.ofNat row)), (9, .long (Int64.ofNat a)), (11, .int (Int32.ofNat i))] [.int ((s_start g) 70 4), .int (Int32.ofNat i)] (s_row_ 76 (f_flb r (n_bit row)) i (s_start g)) u (fun big n0 => sg_od_61 big n0 (s_row_ 76 (f_flb r (n_bit row)) i (s_start g)) u (Int32.ofNat v) (Int32.ofNat t) wh (Int64.ofNat sm) (Int64.ofNat al) (Int32.ofNat row) (Int64.ofNat a) (Int32.ofNat i)) ?_
    refine q_ic_ge rfl (fun (hc0 : ((s_start g) 70 4) ≤ (Int32.ofNat i)) => ?_) (fun hc0 => absurd (show ((s_start g) 70 4) ≤ (Int32.ofNat i) from by rw [show (s_start g) 70 4 = Int32.ofNat n from (show g 70 4 = Int32.ofNat n from w_pl h hs)]; exact (q_le (by omega) (by omega)).mpr (by omega)) hc0)
    have e : i = n := by omega
    rw [e]
    rw [e] at hk
    exact hk
  | succ k ih =>
    intro i a hi hk
    refine q_step 3 100 [(0, .ref 70), (1, .int (Int32.ofNat v)), (2, .int (Int32.ofNat t)), (3, .int wh), (4, .long (Int64.ofNat sm)), (6, .long (Int64.ofNat al)), (8, .int (Int32.ofNat row)), (9, .long (Int64.ofNat a)), (11, .int (Int32.ofNat i))] [.int ((s_start g) 70 4), .int (Int32.ofNat i)] (s_row_ 76 (f_flb r (n_bit row)) i (s_start g)) u (fun big n0 => sg_od_61 big n0 (s_row_ 76 (f_flb r (n_bit row)) i (s_start g)) u (Int32.ofNat v) (Int32.ofNat t) wh (Int64.ofNat sm) (Int64.ofNat al) (Int32.ofNat row) (Int64.ofNat a) (Int32.ofNat i)) ?_
    refine q_ic_ge rfl (fun hc0 => absurd (show ((s_start g) 70 4) ≤ (Int32.ofNat i) from hc0) (fun z => by rw [show (s_start g) 70 4 = Int32.ofNat n from (show g 70 4 = Int32.ofNat n from w_pl h hs)] at z; exact absurd ((q_le (by omega) (by omega)).mp z) (by omega))) (fun (hc0 : ¬ (((s_start g) 70 4) ≤ (Int32.ofNat i))) => ?_)
    refine q_step 6 111 [(0, .ref 70), (1, .int (Int32.ofNat v)), (2, .int (Int32.ofNat t)), (3, .int wh), (4, .long (Int64.ofNat sm)), (6, .long (Int64.ofNat al)), (8, .int (Int32.ofNat row)), (9, .long (Int64.ofNat a)), (11, .int (Int32.ofNat i))] [.int (1 : Int32), .int (((Int32.ofNat row) >>> ((Int32.ofNat i) &&& 31)) &&& (1 : Int32))] (s_row_ 76 (f_flb r (n_bit row)) i (s_start g)) u (fun big n0 => sg_od_62 big n0 (s_row_ 76 (f_flb r (n_bit row)) i (s_start g)) u (Int32.ofNat v) (Int32.ofNat t) wh (Int64.ofNat sm) (Int64.ofNat al) (Int32.ofNat row) (Int64.ofNat a) (Int32.ofNat i)) ?_
    refine q_ic_ne rfl (fun (hc1 : (((Int32.ofNat row) >>> ((Int32.ofNat i) &&& 31)) &&& (1 : Int32)) = (1 : Int32)) => ?_) (fun (hc1 : ¬ ((((Int32.ofNat row) >>> ((Int32.ofNat i) &&& 31)) &&& (1 : Int32)) = (1 : Int32))) => ?_)
    · refine q_step 19 158 [(0, .ref 70), (1, .int (Int32.ofNat v)), (2, .int (Int32.ofNat t)), (3, .int wh), (4, .long (Int64.ofNat sm)), (6, .long (Int64.ofNat al)), (8, .int (Int32.ofNat row)), (9, .long ((Int64.ofNat a) * (Int32.toInt64 (Int32.ofNat v)))), (11, .int (Int32.ofNat i)), (12, .int (1 : Int32))] [.int (Int32.ofNat i), .ref 76, .int (Int32.ofNat i), .ref 76] (s_row_ 76 (f_flb r (n_bit row)) i (s_start g)) u (fun big n0 => sg_od_63 big n0 (s_row_ 76 (f_flb r (n_bit row)) i (s_start g)) u (Int32.ofNat v) (Int32.ofNat t) wh (Int64.ofNat sm) (Int64.ofNat al) (Int32.ofNat row) (Int64.ofNat a) (Int32.ofNat i)) ?_
      refine q_iald (j := i) (q_ixn (by omega) (by omega)) rfl rfl ?_
      refine q_call (M2 := 194) (rest := [.int (Int32.ofNat i), .ref 76]) (b_fd _ _ _) (fun _ _ => rfl) ?_
      refine q_step 1 172 [(0, .ref 70), (1, .int (Int32.ofNat v)), (2, .int (Int32.ofNat t)), (3, .int wh), (4, .long (Int64.ofNat sm)), (6, .long (Int64.ofNat al)), (8, .int (Int32.ofNat row)), (9, .long ((Int64.ofNat a) * (Int32.toInt64 (Int32.ofNat v)))), (11, .int (Int32.ofNat i)), (12, .int (1 : Int32))] [.int (s_fd ((s_row_ 76 (f_flb r (n_bit row)) i (s_start g)) 76 i)), .int (Int32.ofNat i), .ref 76] (s_row_ 76 (f_flb r (n_bit row)) i (s_start g)) u (fun big n0 => sg_od_64 big n0 (s_row_ 76 (f_flb r (n_bit row)) i (s_start g)) u (Int32.ofNat v) (Int32.ofNat t) wh (Int64.ofNat sm) (Int64.ofNat al) (Int32.ofNat row) ((Int64.ofNat a) * (Int32.toInt64 (Int32.ofNat v))) (Int32.ofNat i) (Int32.ofNat i) (s_fd ((s_row_ 76 (f_flb r (n_bit row)) i (s_start g)) 76 i))) ?_
      refine q_iast (j := i) (q_ixn (by omega) (by omega)) rfl rfl ?_
      refine q_step 2 94 [(0, .ref 70), (1, .int (Int32.ofNat v)), (2, .int (Int32.ofNat t)), (3, .int wh), (4, .long (Int64.ofNat sm)), (6, .long (Int64.ofNat al)), (8, .int (Int32.ofNat row)), (9, .long ((Int64.ofNat a) * (Int32.toInt64 (Int32.ofNat v)))), (11, .int ((Int32.ofNat i) + (1 : Int32))), (12, .int (1 : Int32))] [] (q_up (s_row_ 76 (f_flb r (n_bit row)) i (s_start g)) 76 i (s_fd ((s_row_ 76 (f_flb r (n_bit row)) i (s_start g)) 76 i))) u (fun big n0 => sg_od_65 big n0 (q_up (s_row_ 76 (f_flb r (n_bit row)) i (s_start g)) 76 i (s_fd ((s_row_ 76 (f_flb r (n_bit row)) i (s_start g)) 76 i))) u (Int32.ofNat v) (Int32.ofNat t) wh (Int64.ofNat sm) (Int64.ofNat al) (Int32.ofNat row) ((Int64.ofNat a) * (Int32.toInt64 (Int32.ofNat v))) (Int32.ofNat i)) ?_
      refine q_weak [(0, .ref 70), (1, .int (Int32.ofNat v)), (2, .int (Int32.ofNat t)), (3, .int wh), (4, .long (Int64.ofNat sm)), (6, .long (Int64.ofNat al)), (8, .int (Int32.ofNat row)), (9, .long ((Int64.ofNat a) * (Int32.toInt64 (Int32.ofNat v)))), (11, .int ((Int32.ofNat i) + (1 : Int32)))] (q_sub.cons rfl (q_sub.cons rfl (q_sub.cons rfl (q_sub.cons rfl (q_sub.cons rfl (q_sub.cons rfl (q_sub.cons rfl (q_sub.cons rfl (q_sub.cons rfl q_sub.nil))))))))) ?_
      have hbt : n_bit row i = true := n_bit_t (by omega) (by omega) (by rw [show s_bit (Int32.ofNat row) (Int32.ofNat i) = 1 from hc1]; decide)
      have hF : f_flb r (n_bit row) i = s_fo (r 76 i) := by
        unfold f_flb
        rw [hbt]
        rfl
      have hw : n_wr v (n_bit row i) = v := by
        unfold n_wr
        rw [hbt]
        rfl
      rw [show ((Int64.ofNat a) * (Int32.toInt64 (Int32.ofNat v))) = Int64.ofNat (a * v) from by
        rw [s_i64 (by omega), Int64.ofNat_mul] <;> rfl]
      rw [show (q_up (s_row_ 76 (f_flb r (n_bit row)) i (s_start g)) 76 i (s_fd ((s_row_ 76 (f_flb r (n_bit row)) i (s_start g)) 76 i))) = (s_row_ 76 (f_flb r (n_bit row)) (i + 1) (s_start g)) from by
        rw [s_row_r, (hs.2.2 i (by omega)).2.1, ← s_fo_fd (h.2.2.2.2.2.2.2.1 i (by omega)), ← hF]
        exact s_row_s]
      rw [n_pr, hw] at hk
      rw [q_succ]
      exact ih (i + 1) _ (by omega) hk
    · refine q_step 19 171 [(0, .ref 70), (1, .int (Int32.ofNat v)), (2, .int (Int32.ofNat t)), (3, .int wh), (4, .long (Int64.ofNat sm)), (6, .long (Int64.ofNat al)), (8, .int (Int32.ofNat row)), (9, .long ((Int64.ofNat a) * (Int32.toInt64 ((10 : Int32) - (Int32.ofNat v))))), (11, .int (Int32.ofNat i)), (12, .int (0 : Int32))] [.int (Int32.ofNat i), .ref 76, .int (Int32.ofNat i), .ref 76] (s_row_ 76 (f_flb r (n_bit row)) i (s_start g)) u (fun big n0 => sg_od_66 big n0 (s_row_ 76 (f_flb r (n_bit row)) i (s_start g)) u (Int32.ofNat v) (Int32.ofNat t) wh (Int64.ofNat sm) (Int64.ofNat al) (Int32.ofNat row) (Int64.ofNat a) (Int32.ofNat i)) ?_
      refine q_iald (j := i) (q_ixn (by omega) (by omega)) rfl rfl ?_
      refine q_iast (j := i) (q_ixn (by omega) (by omega)) rfl rfl ?_
      refine q_step 2 94 [(0, .ref 70), (1, .int (Int32.ofNat v)), (2, .int (Int32.ofNat t)), (3, .int wh), (4, .long (Int64.ofNat sm)), (6, .long (Int64.ofNat al)), (8, .int (Int32.ofNat row)), (9, .long ((Int64.ofNat a) * (Int32.toInt64 ((10 : Int32) - (Int32.ofNat v))))), (11, .int ((Int32.ofNat i) + (1 : Int32))), (12, .int (0 : Int32))] [] (q_up (s_row_ 76 (f_flb r (n_bit row)) i (s_start g)) 76 i ((s_row_ 76 (f_flb r (n_bit row)) i (s_start g)) 76 i)) u (fun big n0 => sg_od_67 big n0 (q_up (s_row_ 76 (f_flb r (n_bit row)) i (s_start g)) 76 i ((s_row_ 76 (f_flb r (n_bit row)) i (s_start g)) 76 i)) u (Int32.ofNat v) (Int32.ofNat t) wh (Int64.ofNat sm) (Int64.ofNat al) (Int32.ofNat row) ((Int64.ofNat a) * (Int32.toInt64 ((10 : Int32) - (Int32.ofNat v)))) (Int32.ofNat i)) ?_
      refine q_weak [(0, .ref 70), (1, .int (Int32.ofNat v)), (2, .int (Int32.ofNat t)), (3, .int wh), (4, .long (Int64.ofNat sm)), (6, .long (Int64.ofNat al)), (8, .int (Int32.ofNat row)), (9, .long ((Int64.ofNat a) * (Int32.toInt64 ((10 : Int32) - (Int32.ofNat v))))), (11, .int ((Int32.ofNat i) + (1 : Int32)))] (q_sub.cons rfl (q_sub.cons rfl (q_sub.cons rfl (q_sub.cons rfl (q_sub.cons rfl (q_sub.cons rfl (q_sub.cons rfl (q_sub.cons rfl (q_sub.cons rfl q_sub.nil))))))))) ?_
      have hbt : n_bit row i = false := n_bit_f (by omega) (by omega) ((s_bit_01 _ _).resolve_right hc1)
      have hF : f_flb r (n_bit row) i = r 76 i := by
        unfold f_flb
        rw [hbt]
        rfl
      have hw : n_wr v (n_bit row i) = (10 - v) := by
        unfold n_wr
        rw [hbt]
        rfl
      rw [show ((Int64.ofNat a) * (Int32.toInt64 ((10 : Int32) - (Int32.ofNat v)))) = Int64.ofNat (a * (10 - v)) from by
        rw [show (10 : Int32) - Int32.ofNat v = Int32.ofNat (10 - v) from q_sb (a := 10) (b := v) (by omega) (by omega), s_i64 (by omega), Int64.ofNat_mul] <;> rfl]
      rw [show (q_up (s_row_ 76 (f_flb r (n_bit row)) i (s_start g)) 76 i ((s_row_ 76 (f_flb r (n_bit row)) i (s_start g)) 76 i)) = (s_row_ 76 (f_flb r (n_bit row)) (i + 1) (s_start g)) from by
        rw [s_row_r, (hs.2.2 i (by omega)).2.1, ← hF]
        exact s_row_s]
      rw [n_pr, hw] at hk
      rw [q_succ]
      exact ih (i + 1) _ (by omega) hk
theorem ro3 {n W H v t : Nat} {wh : Int32} {r : qM} (u : qW) (h : w_ok n W H r) (h5 : n ≤ 5) (h6 : n ≤ 6) (h2n : 2 ^ n ≤ 64) (hv : v ≤ 10) (ht0 : t ≤ 60) {al : Nat} {Q : Option Value × qM × qW → Prop} : ∀ k row a g, row + k = 2 ^ n → w_sm n (s_start g) r → (∀ p, p < n → g 71 (15 + p) = r 78 p) → (∀ g2, w_fr g g2 → q_EV m_210 211 [(0, .ref 70), (1, .int (Int32.ofNat v)), (2, .int (Int32.ofNat t)), (3, .int wh), (4, .long (Int64.ofNat (n_su (fun row => n_wtr n v row * n_oA n t r (n_bit row)) k row a))), (6, .long (Int64.ofNat al)), (8, .int (Int32.ofNat (2 ^ n)))] [] g2 u Q) → q_EV m_210 73 [(0, .ref 70), (1, .int (Int32.ofNat v)), (2, .int (Int32.ofNat t)), (3, .int wh), (4, .long (Int64.ofNat a)), (6, .long (Int64.ofNat al)), (8, .int (Int32.ofNat row))] [] g u Q := by
  intro k
  induction k with
  | zero =>
    intro row a g hi hs hg hk
    refine q_step 5 81 [(0, .ref 70), (1, .int (Int32.ofNat v)), (2, .int (Int32.ofNat t)), (3, .int wh), (4, .long (Int64.ofNat a)), (6, .long (Int64.ofNat al)), (8, .int (Int32.ofNat row))] [.int ((1 : Int32) <<< ((g 70 4) &&& 31)), .int (Int32.ofNat row)] g u (fun big n0 => sg_od_68 big n0 g u (Int32.ofNat v) (Int32.ofNat t) wh (Int64.ofNat a) (Int64.ofNat al) (Int32.ofNat row)) ?_
    refine q_ic_ge rfl (fun (hc0 : ((1 : Int32) <<< ((g 70 4) &&& 31)) ≤ (Int32.ofNat row)) => ?_) (fun hc0 => absurd (show ((1 : Int32) <<< ((g 70 4) &&& 31)) ≤ (Int32.ofNat row) from by rw [w_pl h hs, s_rows2 h6]; exact (q_le (by omega) (by omega)).mpr (by omega)) hc0)
    have e : row = 2 ^ n := by omega
    rw [e]
    exact hk g (w_fr_rfl g)
  | succ k ih =>
    intro row a g hi hs hg hk
    have hn : g 70 4 = Int32.ofNat n := w_pl h hs
    refine q_step 5 81 [(0, .ref 70), (1, .int (Int32.ofNat v)), (2, .int (Int32.ofNat t)), (3, .int wh), (4, .long (Int64.ofNat a)), (6, .long (Int64.ofNat al)), (8, .int (Int32.ofNat row))] [.int ((1 : Int32) <<< ((g 70 4) &&& 31)), .int (Int32.ofNat row)] g u (fun big n0 => sg_od_68 big n0 g u (Int32.ofNat v) (Int32.ofNat t) wh (Int64.ofNat a) (Int64.ofNat al) (Int32.ofNat row)) ?_
    refine q_ic_ge rfl (fun hc0 => absurd (show ((1 : Int32) <<< ((g 70 4) &&& 31)) ≤ (Int32.ofNat row) from hc0) (fun z => by rw [w_pl h hs, s_rows2 h6] at z; exact absurd ((q_le (by omega) (by omega)).mp z) (by omega))) (fun (hc0 : ¬ (((1 : Int32) <<< ((g 70 4) &&& 31)) ≤ (Int32.ofNat row))) => ?_)
    refine q_step 3 88 [(0, .ref 70), (1, .int (Int32.ofNat v)), (2, .int (Int32.ofNat t)), (3, .int wh), (4, .long (Int64.ofNat a)), (6, .long (Int64.ofNat al)), (8, .int (Int32.ofNat row)), (9, .long (1 : Int64))] [.ref 70] g u (fun big n0 => sg_od_69 big n0 g u (Int32.ofNat v) (Int32.ofNat t) wh (Int64.ofNat a) (Int64.ofNat al) (Int32.ofNat row)) ?_
    refine q_call (M2 := 172) (rest := []) (b_starts g u) (fun _ _ => rfl) ?_
    refine q_step 2 94 [(0, .ref 70), (1, .int (Int32.ofNat v)), (2, .int (Int32.ofNat t)), (3, .int wh), (4, .long (Int64.ofNat a)), (6, .long (Int64.ofNat al)), (8, .int (Int32.ofNat row)), (9, .long (1 : Int64)), (11, .int (0 : Int32))] [] (s_start g) u (fun big n0 => sg_od_70 big n0 (s_start g) u (Int32.ofNat v) (Int32.ofNat t) wh (Int64.ofNat a) (Int64.ofNat al) (Int32.ofNat row)) ?_
    have hwl := n_wtr_le h6 hv row
    have key := ro2 (wh := wh) (t := t) u h hs h5 hv (sm := a) (al := al) (row := row) (by omega) (Q := Q) n 0 1 (by omega)
    rw [s_row_0] at key
    refine key ?_
    rw [show n_pr (fun p => n_wr v (n_bit row p)) n 0 1 = n_wtr n v row from rfl]
    have hfr1 : w_fr g (s_row_ 76 (f_flb r (n_bit row)) n (s_start g)) := s_start_fr.trans ⟨fun b hb => s_row_o (by omega), fun j _ => by rw [s_row_o (by omega)]⟩
    have hfr2 : w_fr g (s_rit n t (s_row_ 76 (f_flb r (n_bit row)) n (s_start g))) := hfr1.trans (w_rit_fr t _)
    refine q_step 4 185 [(0, .ref 70), (1, .int (Int32.ofNat v)), (2, .int (Int32.ofNat t)), (3, .int wh), (4, .long (Int64.ofNat a)), (6, .long (Int64.ofNat al)), (8, .int (Int32.ofNat row)), (9, .long (Int64.ofNat (n_wtr n v row))), (11, .int (Int32.ofNat n))] [.int (lg_cmp (Int64.ofNat (n_wtr n v row)) (0 : Int64)), .long (Int64.ofNat a)] (s_row_ 76 (f_flb r (n_bit row)) n (s_start g)) u (fun big n0 => sg_od_71 big n0 (s_row_ 76 (f_flb r (n_bit row)) n (s_start g)) u (Int32.ofNat v) (Int32.ofNat t) wh (Int64.ofNat a) (Int64.ofNat al) (Int32.ofNat row) (Int64.ofNat (n_wtr n v row)) (Int32.ofNat n)) ?_
    refine q_if_le rfl (fun (hc0 : (lg_cmp (Int64.ofNat (n_wtr n v row)) (0 : Int64)) ≤ 0) => ?_) (fun (hc0 : ¬ ((lg_cmp (Int64.ofNat (n_wtr n v row)) (0 : Int64)) ≤ 0)) => ?_)
    · refine q_step 5 73 [(0, .ref 70), (1, .int (Int32.ofNat v)), (2, .int (Int32.ofNat t)), (3, .int wh), (4, .long ((Int64.ofNat a) + (0 : Int64))), (6, .long (Int64.ofNat al)), (8, .int ((Int32.ofNat row) + (1 : Int32))), (9, .long (Int64.ofNat (n_wtr n v row))), (11, .int (Int32.ofNat n))] [] (s_row_ 76 (f_flb r (n_bit row)) n (s_start g)) u (fun big n0 => sg_od_72 big n0 (s_row_ 76 (f_flb r (n_bit row)) n (s_start g)) u (Int32.ofNat v) (Int32.ofNat t) wh (Int64.ofNat a) (Int64.ofNat al) (Int32.ofNat row) (Int64.ofNat (n_wtr n v row)) (Int32.ofNat n) (Int64.ofNat a)) ?_
      refine q_weak [(0, .ref 70), (1, .int (Int32.ofNat v)), (2, .int (Int32.ofNat t)), (3, .int wh), (4, .long ((Int64.ofNat a) + (0 : Int64))), (6, .long (Int64.ofNat al)), (8, .int ((Int32.ofNat row) + (1 : Int32)))] (q_sub.cons rfl (q_sub.cons rfl (q_sub.cons rfl (q_sub.cons rfl (q_sub.cons rfl (q_sub.cons rfl (q_sub.cons rfl q_sub.nil))))))) ?_
      have hz : n_wtr n v row = 0 := (s_lgt (by omega)).mp hc0
      have e : n_su (fun row => n_wtr n v row * n_oA n t r (n_bit row)) (k + 1) row a = n_su (fun row => n_wtr n v row * n_oA n t r (n_bit row)) k (row + 1) a := by
        show n_su (fun row => n_wtr n v row * n_oA n t r (n_bit row)) k (row + 1) (a + n_wtr n v row * n_oA n t r (n_bit row)) = _
        rw [hz, Nat.zero_mul]
        rfl
      rw [e] at hk
      rw [q_succ, show ((Int64.ofNat a) + (0 : Int64)) = Int64.ofNat a from Int64.add_zero _]
      exact ih (row + 1) _ (s_row_ 76 (f_flb r (n_bit row)) n (s_start g)) (by omega) (w_st_sm hfr1 h5 hs) (fun p hp => by rw [hfr1.1 71 (by omega)]; exact hg p hp) (fun g2 f2 => hk g2 (hfr1.trans f2))
    · refine q_step 2 190 [(0, .ref 70), (1, .int (Int32.ofNat v)), (2, .int (Int32.ofNat t)), (3, .int wh), (4, .long (Int64.ofNat a)), (6, .long (Int64.ofNat al)), (8, .int (Int32.ofNat row)), (9, .long (Int64.ofNat (n_wtr n v row))), (11, .int (Int32.ofNat n))] [.int (Int32.ofNat t), .ref 70, .long (Int64.ofNat a)] (s_row_ 76 (f_flb r (n_bit row)) n (s_start g)) u (fun big n0 => sg_od_73 big n0 (s_row_ 76 (f_flb r (n_bit row)) n (s_start g)) u (Int32.ofNat v) (Int32.ofNat t) wh (Int64.ofNat a) (Int64.ofNat al) (Int32.ofNat row) (Int64.ofNat (n_wtr n v row)) (Int32.ofNat n) (Int64.ofNat a)) ?_
      by_cases hc1 : n_oA n t r (n_bit row) = 0
      · have haa := r_aat (g := (s_row_ 76 (f_flb r (n_bit row)) n (s_start g))) u (w_ok_row (f_flb_4 h (n_bit row)) h) (w_sm_row (fun p _ => rfl) hs) ht0 (fun p hp => (w_st78 h5 hp).trans (hg p hp)) hn hg
        rw [show f_hav n (gh_row n (f_flb r (n_bit row)) r) = f_hav n r from rfl, n_oA_i, if_pos hc1] at haa
        refine q_call (M2 := 204) (rest := [.long (Int64.ofNat a)]) (haa) (fun _ _ => rfl) ?_
        refine q_step 6 73 [(0, .ref 70), (1, .int (Int32.ofNat v)), (2, .int (Int32.ofNat t)), (3, .int wh), (4, .long ((Int64.ofNat a) + (0 : Int64))), (6, .long (Int64.ofNat al)), (8, .int ((Int32.ofNat row) + (1 : Int32))), (9, .long (Int64.ofNat (n_wtr n v row))), (11, .int (Int32.ofNat n))] [] (s_rit n t (s_row_ 76 (f_flb r (n_bit row)) n (s_start g))) u (fun big n0 => sg_od_74 big n0 (s_rit n t (s_row_ 76 (f_flb r (n_bit row)) n (s_start g))) u (Int32.ofNat v) (Int32.ofNat t) wh (Int64.ofNat a) (Int64.ofNat al) (Int32.ofNat row) (Int64.ofNat (n_wtr n v row)) (Int32.ofNat n) (Int64.ofNat a)) ?_
        refine q_weak [(0, .ref 70), (1, .int (Int32.ofNat v)), (2, .int (Int32.ofNat t)), (3, .int wh), (4, .long ((Int64.ofNat a) + (0 : Int64))), (6, .long (Int64.ofNat al)), (8, .int ((Int32.ofNat row) + (1 : Int32)))] (q_sub.cons rfl (q_sub.cons rfl (q_sub.cons rfl (q_sub.cons rfl (q_sub.cons rfl (q_sub.cons rfl (q_sub.cons rfl q_sub.nil))))))) ?_
        have e : n_su (fun row => n_wtr n v row * n_oA n t r (n_bit row)) (k + 1) row a = n_su (fun row => n_wtr n v row * n_oA n t r (n_bit row)) k (row + 1) a := by
          show n_su (fun row => n_wtr n v row * n_oA n t r (n_bit row)) k (row + 1) (a + n_wtr n v row * n_oA n t r (n_bit row)) = _
          rw [hc1, Nat.mul_zero]
          rfl
        rw [e] at hk
        rw [q_succ, show ((Int64.ofNat a) + (0 : Int64)) = Int64.ofNat a from Int64.add_zero _]
        exact ih (row + 1) _ (s_rit n t (s_row_ 76 (f_flb r (n_bit row)) n (s_start g))) (by omega) (w_st_sm hfr2 h5 hs) (fun p hp => by rw [hfr2.1 71 (by omega)]; exact hg p hp) (fun g2 f2 => hk g2 (hfr2.trans f2))
      · have haa := r_aat (g := (s_row_ 76 (f_flb r (n_bit row)) n (s_start g))) u (w_ok_row (f_flb_4 h (n_bit row)) h) (w_sm_row (fun p _ => rfl) hs) ht0 (fun p hp => (w_st78 h5 hp).trans (hg p hp)) hn hg
        rw [show f_hav n (gh_row n (f_flb r (n_bit row)) r) = f_hav n r from rfl, n_oA_i, if_neg hc1] at haa
        refine q_call (M2 := 204) (rest := [.long (Int64.ofNat a)]) (haa) (fun _ _ => rfl) ?_
        refine q_step 7 73 [(0, .ref 70), (1, .int (Int32.ofNat v)), (2, .int (Int32.ofNat t)), (3, .int wh), (4, .long ((Int64.ofNat a) + (Int64.ofNat (n_wtr n v row)))), (6, .long (Int64.ofNat al)), (8, .int ((Int32.ofNat row) + (1 : Int32))), (9, .long (Int64.ofNat (n_wtr n v row))), (11, .int (Int32.ofNat n))] [] (s_rit n t (s_row_ 76 (f_flb r (n_bit row)) n (s_start g))) u (fun big n0 => sg_od_75 big n0 (s_rit n t (s_row_ 76 (f_flb r (n_bit row)) n (s_start g))) u (Int32.ofNat v) (Int32.ofNat t) wh (Int64.ofNat a) (Int64.ofNat al) (Int32.ofNat row) (Int64.ofNat (n_wtr n v row)) (Int32.ofNat n) (Int64.ofNat a)) ?_
        refine q_weak [(0, .ref 70), (1, .int (Int32.ofNat v)), (2, .int (Int32.ofNat t)), (3, .int wh), (4, .long ((Int64.ofNat a) + (Int64.ofNat (n_wtr n v row)))), (6, .long (Int64.ofNat al)), (8, .int ((Int32.ofNat row) + (1 : Int32)))] (q_sub.cons rfl (q_sub.cons rfl (q_sub.cons rfl (q_sub.cons rfl (q_sub.cons rfl (q_sub.cons rfl (q_sub.cons rfl q_sub.nil))))))) ?_
        have e : n_su (fun row => n_wtr n v row * n_oA n t r (n_bit row)) (k + 1) row a = n_su (fun row => n_wtr n v row * n_oA n t r (n_bit row)) k (row + 1) (a + n_wtr n v row) := by
          show n_su (fun row => n_wtr n v row * n_oA n t r (n_bit row)) k (row + 1) (a + n_wtr n v row * n_oA n t r (n_bit row)) = _
          rw [(n_oA_01 n t r (n_bit row)).resolve_left hc1, Nat.mul_one]
        rw [e] at hk
        rw [q_succ, show ((Int64.ofNat a) + (Int64.ofNat (n_wtr n v row))) = Int64.ofNat (a + n_wtr n v row) from (Int64.ofNat_add _ _).symm]
        exact ih (row + 1) _ (s_rit n t (s_row_ 76 (f_flb r (n_bit row)) n (s_start g))) (by omega) (w_st_sm hfr2 h5 hs) (fun p hp => by rw [hfr2.1 71 (by omega)]; exact hg p hp) (fun g2 f2 => hk g2 (hfr2.trans f2))
theorem r_odds0 {n W H : Nat} {g r : qM} (u : qW) (h : w_ok n W H r) (hs : w_sm n (s_start g) r) (h5 : n ≤ 5) {v t : Nat} (hv : v ≤ 10) (ht0 : t ≤ 12) (hg : ∀ p, p < n → g 71 (15 + p) = r 78 p) : w_BS w_fr 210 [.ref 70, .int (Int32.ofNat v), .int (Int32.ofNat t), .int (0 : Int32)] g u (.long (f_od 0 n v t r)) := by
  refine w_bs (mm := m_210) rfl (Nat.le_of_ble_eq_true rfl) rfl ?_
  refine q_step 4 6 [(0, .ref 70), (1, .int (Int32.ofNat v)), (2, .int (Int32.ofNat t)), (3, .int (0 : Int32))] [.long (10 : Int64), .long (0 : Int64), .long (Int32.toInt64 (Int32.ofNat v))] g u (fun big n0 => sg_od_76 big n0 g u (Int32.ofNat v) (Int32.ofNat t)) ?_
  refine q_call (M2 := 149) (rest := []) (b_in1 (m := v) (lo := 0) (hi := 10) g u (by omega) (by omega) (by omega)) (fun _ _ => rfl) ?_
  refine q_step 5 18 [(0, .ref 70), (1, .int (Int32.ofNat v)), (2, .int (Int32.ofNat t)), (3, .int (0 : Int32))] [.long (12 : Int64), .long (0 : Int64), .long (Int32.toInt64 (Int32.ofNat t))] g u (fun big n0 => sg_od_77 big n0 g u (Int32.ofNat v) (Int32.ofNat t)) ?_
  refine q_call (M2 := 149) (rest := []) (b_in1 (m := t) (lo := 0) (hi := 12) g u (by omega) (by omega) (by omega)) (fun _ _ => rfl) ?_
  refine q_step 5 28 [(0, .ref 70), (1, .int (Int32.ofNat v)), (2, .int (Int32.ofNat t)), (3, .int (0 : Int32))] [.long (1 : Int64), .long (0 : Int64), .long (0 : Int64)] g u (fun big n0 => sg_od_78 big n0 g u (Int32.ofNat v) (Int32.ofNat t)) ?_
  refine q_call (M2 := 149) (rest := []) (show q_BS 149 [.long (0 : Int64), .long (0 : Int64), .long (1 : Int64)] g u (some (.int 1), g, u) from b_in _ _ _ _ _) (fun _ _ => rfl) ?_
  refine q_step 7 47 [(0, .ref 70), (1, .int (Int32.ofNat v)), (2, .int (Int32.ofNat t)), (3, .int (0 : Int32)), (4, .long (0 : Int64)), (6, .long (1 : Int64)), (8, .int (0 : Int32))] [] g u (fun big n0 => sg_od_79 big n0 g u (Int32.ofNat v) (Int32.ofNat t)) ?_
  refine ro1 g u (wh := 0) (t := t) (v := v) (w_pl h hs) (by omega) n 0 1 (by omega) ?_
  refine q_step 2 73 [(0, .ref 70), (1, .int (Int32.ofNat v)), (2, .int (Int32.ofNat t)), (3, .int (0 : Int32)), (4, .long (0 : Int64)), (6, .long (Int64.ofNat (1 * 10 ^ n))), (8, .int (0 : Int32))] [] g u (fun big n0 => sg_od_80 big n0 g u (Int32.ofNat v) (Int32.ofNat t) (0 : Int64) (Int64.ofNat (1 * 10 ^ n)) (Int32.ofNat n)) ?_
  rw [Nat.one_mul]
  refine ro3 (wh := 0) (al := 10 ^ n) u h h5 (by omega) (n_bnd (show n ≤ 6 by omega)).1 hv (by omega) (2 ^ n) 0 0 g (by omega) hs hg (fun g2 hf => ?_)
  rw [show n_su (fun row => n_wtr n v row * n_oA n t r (n_bit row)) (2 ^ n) 0 0 = n_odr n v t r from rfl]
  have l1 := n_odr_le (t := t) (show n ≤ 6 by omega) hv r
  have l2 := (n_bnd (show n ≤ 6 by omega)).2
  have l3 : 0 < 10 ^ n := Nat.pow_pos (by omega)
  have l4 : 0 < Nat.gcd (10 ^ n) (n_odr n v t r) := Nat.gcd_pos_of_pos_left _ l3
  have l5 : Nat.gcd (10 ^ n) (n_odr n v t r) ≤ 10 ^ n := Nat.gcd_le_left _ l3
  have hsm := n_od_same (t := t) (n := n) hv r
  refine q_step 2 215 [(0, .ref 70), (1, .int (Int32.ofNat v)), (2, .int (Int32.ofNat t)), (3, .int (0 : Int32)), (4, .long (Int64.ofNat (n_odr n v t r))), (6, .long (Int64.ofNat (10 ^ n))), (8, .int (Int32.ofNat (2 ^ n)))] [.long (Int64.ofNat (n_odr n v t r)), .long (Int64.ofNat (10 ^ n))] g2 u (fun big n0 => sg_od_81 big n0 g2 u (Int32.ofNat v) (Int32.ofNat t) (Int64.ofNat (n_odr n v t r)) (Int64.ofNat (10 ^ n)) (Int32.ofNat (2 ^ n))) ?_
  refine q_call (M2 := 211) (rest := []) (b_rcm g2 u (by omega) (by omega)) (fun _ _ => rfl) ?_
  refine q_step 5 228 [(0, .ref 70), (1, .int (Int32.ofNat v)), (2, .int (Int32.ofNat t)), (3, .int (0 : Int32)), (4, .long (Int64.ofNat (n_odr n v t r))), (6, .long (Int64.ofNat (10 ^ n))), (8, .long (Int64.ofNat (Nat.gcd (10 ^ n) (n_odr n v t r))))] [.long (Int64.ofNat (Nat.gcd (10 ^ n) (n_odr n v t r))), .long (Int64.ofNat (n_odr n v t r))] g2 u (fun big n0 => sg_od_82 big n0 g2 u (Int32.ofNat v) (Int32.ofNat t) (Int64.ofNat (n_odr n v t r)) (Int64.ofNat (10 ^ n)) (Int32.ofNat (2 ^ n)) (Int64.ofNat (Nat.gcd (10 ^ n) (n_odr n v t r)))) ?_
  refine q_ldiv (fun z => absurd ((q_leq (b := 0) (by omega) (by omega)).mp z) (by omega)) rfl ?_
  refine q_ret 2 (some (.long ((Int64.ofNat (n_odr n v t r)) / (Int64.ofNat (Nat.gcd (10 ^ n) (n_odr n v t r))))), g2, u) (fun _ _ => rfl) ?_
  exact ⟨g2, u, by rw [q_ldv (by omega) (by omega), hsm.1]; rfl, hf⟩
theorem r_odds1 {n W H : Nat} {g r : qM} (u : qW) (h : w_ok n W H r) (hs : w_sm n (s_start g) r) (h5 : n ≤ 5) {v t : Nat} (hv : v ≤ 10) (ht0 : t ≤ 12) (hg : ∀ p, p < n → g 71 (15 + p) = r 78 p) : w_BS w_fr 210 [.ref 70, .int (Int32.ofNat v), .int (Int32.ofNat t), .int (1 : Int32)] g u (.long (f_od 1 n v t r)) := by
  refine w_bs (mm := m_210) rfl (Nat.le_of_ble_eq_true rfl) rfl ?_
  refine q_step 4 6 [(0, .ref 70), (1, .int (Int32.ofNat v)), (2, .int (Int32.ofNat t)), (3, .int (1 : Int32))] [.long (10 : Int64), .long (0 : Int64), .long (Int32.toInt64 (Int32.ofNat v))] g u (fun big n0 => sg_od_83 big n0 g u (Int32.ofNat v) (Int32.ofNat t)) ?_
  refine q_call (M2 := 149) (rest := []) (b_in1 (m := v) (lo := 0) (hi := 10) g u (by omega) (by omega) (by omega)) (fun _ _ => rfl) ?_
  refine q_step 5 18 [(0, .ref 70), (1, .int (Int32.ofNat v)), (2, .int (Int32.ofNat t)), (3, .int (1 : Int32))] [.long (12 : Int64), .long (0 : Int64), .long (Int32.toInt64 (Int32.ofNat t))] g u (fun big n0 => sg_od_84 big n0 g u (Int32.ofNat v) (Int32.ofNat t)) ?_
  refine q_call (M2 := 149) (rest := []) (b_in1 (m := t) (lo := 0) (hi := 12) g u (by omega) (by omega) (by omega)) (fun _ _ => rfl) ?_
  refine q_step 5 28 [(0, .ref 70), (1, .int (Int32.ofNat v)), (2, .int (Int32.ofNat t)), (3, .int (1 : Int32))] [.long (1 : Int64), .long (0 : Int64), .long (1 : Int64)] g u (fun big n0 => sg_od_85 big n0 g u (Int32.ofNat v) (Int32.ofNat t)) ?_
  refine q_call (M2 := 149) (rest := []) (show q_BS 149 [.long (1 : Int64), .long (0 : Int64), .long (1 : Int64)] g u (some (.int 1), g, u) from b_in _ _ _ _ _) (fun _ _ => rfl) ?_
  refine q_step 7 47 [(0, .ref 70), (1, .int (Int32.ofNat v)), (2, .int (Int32.ofNat t)), (3, .int (1 : Int32)), (4, .long (0 : Int64)), (6, .long (1 : Int64)), (8, .int (0 : Int32))] [] g u (fun big n0 => sg_od_86 big n0 g u (Int32.ofNat v) (Int32.ofNat t)) ?_
  refine ro1 g u (wh := 1) (t := t) (v := v) (w_pl h hs) (by omega) n 0 1 (by omega) ?_
  refine q_step 2 73 [(0, .ref 70), (1, .int (Int32.ofNat v)), (2, .int (Int32.ofNat t)), (3, .int (1 : Int32)), (4, .long (0 : Int64)), (6, .long (Int64.ofNat (1 * 10 ^ n))), (8, .int (0 : Int32))] [] g u (fun big n0 => sg_od_87 big n0 g u (Int32.ofNat v) (Int32.ofNat t) (0 : Int64) (Int64.ofNat (1 * 10 ^ n)) (Int32.ofNat n)) ?_
  rw [Nat.one_mul]
  refine ro3 (wh := 1) (al := 10 ^ n) u h h5 (by omega) (n_bnd (show n ≤ 6 by omega)).1 hv (by omega) (2 ^ n) 0 0 g (by omega) hs hg (fun g2 hf => ?_)
  rw [show n_su (fun row => n_wtr n v row * n_oA n t r (n_bit row)) (2 ^ n) 0 0 = n_odr n v t r from rfl]
  have l1 := n_odr_le (t := t) (show n ≤ 6 by omega) hv r
  have l2 := (n_bnd (show n ≤ 6 by omega)).2
  have l3 : 0 < 10 ^ n := Nat.pow_pos (by omega)
  have l4 : 0 < Nat.gcd (10 ^ n) (n_odr n v t r) := Nat.gcd_pos_of_pos_left _ l3
  have l5 : Nat.gcd (10 ^ n) (n_odr n v t r) ≤ 10 ^ n := Nat.gcd_le_left _ l3
  have hsm := n_od_same (t := t) (n := n) hv r
  refine q_step 2 215 [(0, .ref 70), (1, .int (Int32.ofNat v)), (2, .int (Int32.ofNat t)), (3, .int (1 : Int32)), (4, .long (Int64.ofNat (n_odr n v t r))), (6, .long (Int64.ofNat (10 ^ n))), (8, .int (Int32.ofNat (2 ^ n)))] [.long (Int64.ofNat (n_odr n v t r)), .long (Int64.ofNat (10 ^ n))] g2 u (fun big n0 => sg_od_88 big n0 g2 u (Int32.ofNat v) (Int32.ofNat t) (Int64.ofNat (n_odr n v t r)) (Int64.ofNat (10 ^ n)) (Int32.ofNat (2 ^ n))) ?_
  refine q_call (M2 := 211) (rest := []) (b_rcm g2 u (by omega) (by omega)) (fun _ _ => rfl) ?_
  refine q_step 5 236 [(0, .ref 70), (1, .int (Int32.ofNat v)), (2, .int (Int32.ofNat t)), (3, .int (1 : Int32)), (4, .long (Int64.ofNat (n_odr n v t r))), (6, .long (Int64.ofNat (10 ^ n))), (8, .long (Int64.ofNat (Nat.gcd (10 ^ n) (n_odr n v t r))))] [.long (Int64.ofNat (Nat.gcd (10 ^ n) (n_odr n v t r))), .long (Int64.ofNat (10 ^ n))] g2 u (fun big n0 => sg_od_89 big n0 g2 u (Int32.ofNat v) (Int32.ofNat t) (Int64.ofNat (n_odr n v t r)) (Int64.ofNat (10 ^ n)) (Int32.ofNat (2 ^ n)) (Int64.ofNat (Nat.gcd (10 ^ n) (n_odr n v t r)))) ?_
  refine q_ldiv (fun z => absurd ((q_leq (b := 0) (by omega) (by omega)).mp z) (by omega)) rfl ?_
  refine q_ret 1 (some (.long ((Int64.ofNat (10 ^ n)) / (Int64.ofNat (Nat.gcd (10 ^ n) (n_odr n v t r))))), g2, u) (fun _ _ => rfl) ?_
  exact ⟨g2, u, by rw [q_ldv (by omega) (by omega), hsm.2]; rfl, hf⟩
end
