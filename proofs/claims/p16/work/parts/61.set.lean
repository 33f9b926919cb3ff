/-! ROWS OF MOODS, and setting(). -/
def s_dg (row len i : Int32) : Int32 := (row >>> (((2 : Int32) * ((len - (1 : Int32)) - i)) &&& 31)) &&& (3 : Int32)
def s_rows (x : Int32) : Int32 := (1 : Int32) <<< (((2 : Int32) * x) &&& 31)
theorem s_and3 (x : Int32) : x &&& 3 = 0 ∨ x &&& 3 = 1 ∨ x &&& 3 = 2 ∨ x &&& 3 = 3 := by
  have h : (x &&& 3).toBitVec.toNat < 4 := by
    show (x.toBitVec &&& 3#32).toNat < 4
    rw [BitVec.toNat_and]
    exact Nat.lt_of_le_of_lt Nat.and_le_right (by decide)
  have key : ∀ (y z : Int32), y.toBitVec.toNat = z.toBitVec.toNat → y = z := fun y z e => Int32.toBitVec_inj.mp (BitVec.eq_of_toNat_eq e)
  rcases (show (x &&& 3).toBitVec.toNat = 0 ∨ (x &&& 3).toBitVec.toNat = 1 ∨ (x &&& 3).toBitVec.toNat = 2 ∨ (x &&& 3).toBitVec.toNat = 3 by omega) with e | e | e | e
  · exact Or.inl (key _ 0 (by rw [e]; rfl))
  · exact Or.inr (Or.inl (key _ 1 (by rw [e]; rfl)))
  · exact Or.inr (Or.inr (Or.inl (key _ 2 (by rw [e]; rfl))))
  · exact Or.inr (Or.inr (Or.inr (key _ 3 (by rw [e]; rfl))))
theorem s_dg_4 (row len i : Int32) : s_dg row len i = 0 ∨ s_dg row len i = 1 ∨ s_dg row len i = 2 ∨ s_dg row len i = 3 := s_and3 _
theorem s_rows_n {n : Nat} (h : n ≤ 6) : s_rows (Int32.ofNat n) = Int32.ofNat (4 ^ n) := by
  rcases (show n = 0 ∨ n = 1 ∨ n = 2 ∨ n = 3 ∨ n = 4 ∨ n = 5 ∨ n = 6 by omega) with e | e | e | e | e | e | e <;> subst e <;> decide +kernel
theorem s_4n {n : Nat} (h : n ≤ 6) : 4 ^ n ≤ 4096 := Nat.pow_le_pow_right (n := 4) (by omega) h
def f_md (n row p : Nat) : Int32 := s_dg (Int32.ofNat row) (Int32.ofNat n) (Int32.ofNat p)
/-- r with the MOODS of a row -/
def gh_mo (n row : Nat) (r : qM) : qM := s_row_ 76 (f_md n row) n r
theorem w_ok_mo {n W H row : Nat} {r : qM} (h : w_ok n W H r) : w_ok n W H (gh_mo n row r) := by
  obtain ⟨b, h1, h2, h3, h4, h5, h6, h7, h8⟩ := h
  refine ⟨b, h1, h2, h3, h4, h5, h6, fun p hp => ?_, h8⟩
  show (if p < n then f_md n row p else r 76 p) = 0 ∨ (if p < n then f_md n row p else r 76 p) = 1 ∨ (if p < n then f_md n row p else r 76 p) = 2 ∨ (if p < n then f_md n row p else r 76 p) = 3
  rw [if_pos hp]
  exact s_dg_4 _ _ _
theorem w_cs_mo {n row : Nat} {g r : qM} (hc : w_cs 35 n g r) : w_cs 35 n (s_row_ 37 (f_md n row) n g) (gh_mo n row r) := by
  obtain ⟨c1, c6, c7⟩ := hc
  refine ⟨c1, fun d a b => c6 d a b, fun p hp => ⟨(c7 p hp).1, ?_, (c7 p hp).2.2⟩⟩
  show (if p < n then f_md n row p else g 37 p) = (if p < n then f_md n row p else r 76 p)
  rw [if_pos hp, if_pos hp]
theorem w_sm_mo {n row : Nat} {g r : qM} (hs : w_sm n g r) : w_sm n (s_row_ 76 (f_md n row) n g) (gh_mo n row r) := by
  obtain ⟨c1, c6, c7⟩ := hs
  refine ⟨c1, fun d a b => c6 d a b, fun p hp => ⟨(c7 p hp).1, ?_, (c7 p hp).2.2⟩⟩
  show (if p < n then f_md n row p else g 76 p) = (if p < n then f_md n row p else r 76 p)
  rw [if_pos hp, if_pos hp]
/-- how many of k from i on for whom P -/
def n_ct (P : Nat → Int32) : Nat → Nat → Nat → Nat
  | 0, _, a => a
  | k + 1, i, a => n_ct P k (i + 1) (if P i = 0 then a else a + 1)
theorem s_ct_n {P : Nat → Int32} (hP : ∀ p, P p = 0 ∨ P p = 1) : ∀ k i a, s_ct P k i (Int32.ofNat a) = Int32.ofNat (n_ct P k i a)
  | 0, _, _ => rfl
  | k + 1, i, a => by
    rw [s_ct, n_ct]
    rcases hP i with e | e
    · rw [e, if_pos rfl, Int32.add_zero, s_ct_n hP k (i + 1) a]
    · rw [e, if_neg (by decide), q_succ, s_ct_n hP k (i + 1) (a + 1)]
theorem n_ct_le {P : Nat → Int32} : ∀ k i a, n_ct P k i a ≤ a + k
  | 0, _, _ => Nat.le_refl _
  | k + 1, i, a => by
    rw [n_ct]
    have := n_ct_le (P := P) k (i + 1) (if P i = 0 then a else a + 1)
    split at this <;> (split; all_goals first | omega | contradiction)
def p_un (n : Nat) (r : qM) (row p : Nat) : Int32 := if r 76 p = f_md n row p then 0 else 1
def n_un (n : Nat) (r : qM) (row : Nat) : Nat := n_ct (p_un n r row) n 0 0
theorem n_un_le (n : Nat) (r : qM) (row : Nat) : n_un n r row ≤ n := by
  have e := n_ct_le (P := p_un n r row) n 0 0
  rw [Nat.zero_add] at e
  exact e
theorem p_un_01 (n : Nat) (r : qM) (row p : Nat) : p_un n r row p = 0 ∨ p_un n r row p = 1 := s_10 _
def p_unc (g : qM) (row : Int32) (p : Nat) : Int32 := if g 22 p = s_dg row (g 20 3) (Int32.ofNat p) then 0 else 1
theorem w_un_c {n W H row : Nat} {g r : qM} (h : w_ok n W H r) (hc : w_cs 20 n g r) : s_ct (p_unc g (Int32.ofNat row)) n 0 0 = Int32.ofNat (n_un n r row) := by
  have e := s_ct_n (p_un_01 n r row) n 0 0
  refine Eq.trans (s_ct_cg n 0 0 (fun p _ hp => ?_)) e
  unfold p_unc p_un f_md
  rw [(hc.2.2 p (by omega)).2.1, hc.1.1, h.2.1]
/-- by a row of MOODS all are where they should be, behind m STEPS -/
def p_rch (n m : Nat) (r : qM) (row : Nat) : Int32 := if f_at n (s_rit n m (gh_mo n row r)) = f_hav n r then 1 else 0
theorem p_rch_01 (n m : Nat) (r : qM) (row : Nat) : p_rch n m r row = 0 ∨ p_rch n m r row = 1 := s_01 _
def s_rgm (n row : Nat) (g : qM) : qM := s_row_ 37 (f_md n row) n (s_cpl 35 20 g)
def s_rgg (n m row : Nat) (g : qM) : qM := q_up (s_tss 35 n m (s_rgm n row g)) 35 5 (s_rgm n row g 35 5 + Int32.ofNat m)
theorem s_row_o {A b i : Nat} {f : Nat → Int32} {g : qM} (h : b ≠ A) : s_row_ A f i g b = g b := by
  funext j
  unfold s_row_
  rw [if_neg h]
theorem w_tr_up {n : Nat} {g r : qM} {x : Int32} (h : w_tr n g r) : w_tr n (q_up g 35 5 x) r := h
theorem s_rgg_fc {n m row : Nat} {g : qM} : w_fc g (s_rgg n m row g) := w_fc.up (w_fc.trans (w_fc.trans w_cpl_fc (fun b hb => s_row_o (by omega))) (s_tss_35 m _)) (by omega)
theorem s_rgg_tr {n m row : Nat} {g r : qM} (h : w_tr n g r) : w_tr n (s_rgg n m row g) r := w_tr_up (w_tr_tss m (s_rgm n row g) (w_tr_cg (w_tr_cpl h) (fun j _ => by unfold s_rgm; rw [s_row_o (by omega)]) (s_row_o (by omega)) (s_row_o (by omega))))
theorem s_rgg_go {n m row : Nat} {g : qM} : s_rgg n m row g 39 = g 39 := by
  have e2 : s_rgm n row g 39 = g 39 := by
    unfold s_rgm
    rw [s_row_o (by omega), s_cpl_o (by omega)]
  unfold s_rgg
  rw [q_up_ne (by omega)]
  exact (s_tss_go (T := 35) (Or.inr rfl) m (s_rgm n row g)).trans e2
/-! the fewest changed, of several the first row -/
def f_si (U R : Nat → Nat) (c : Nat) : Nat → Nat → Option Nat
  | 0, _ => none
  | k + 1, row => if U row = c ∧ R row ≠ 0 then some row else f_si U R c k (row + 1)
def f_so (U R : Nat → Nat) (N : Nat) : Nat → Nat → Option Nat
  | 0, _ => none
  | k + 1, c => match f_si U R c N 0 with
    | some row => some row
    | none => f_so U R N k (c + 1)
def f_sb (U R : Nat → Nat) (row : Nat) (b : Option (Nat × Nat)) : Option (Nat × Nat) := match b with
  | none => if R row ≠ 0 then some (U row, row) else none
  | some (c, x) => if U row < c ∧ R row ≠ 0 then some (U row, row) else some (c, x)
def f_sr (U R : Nat → Nat) : Nat → Nat → Option (Nat × Nat) → Option (Nat × Nat)
  | 0, _, b => b
  | k + 1, row, b => f_sr U R k (row + 1) (f_sb U R row b)
def n_best (U R : Nat → Nat) (N row : Nat) : Prop := row < N ∧ R row ≠ 0 ∧ ∀ y, y < N → R y ≠ 0 → U row < U y ∨ (U row = U y ∧ row ≤ y)
theorem n_best_one {U R : Nat → Nat} {N x y : Nat} (hx : n_best U R N x) (hy : n_best U R N y) : x = y := by
  have a := hx.2.2 y hy.1 hy.2.1
  have b := hy.2.2 x hx.1 hx.2.1
  omega
theorem f_si_ok {U R : Nat → Nat} {c : Nat} : ∀ k row, (∀ x, f_si U R c k row = some x → row ≤ x ∧ x < row + k ∧ U x = c ∧ R x ≠ 0 ∧ ∀ y, row ≤ y → y < x → ¬ (U y = c ∧ R y ≠ 0)) ∧ (f_si U R c k row = none → ∀ y, row ≤ y → y < row + k → ¬ (U y = c ∧ R y ≠ 0))
  | 0, row => ⟨fun x h => (by cases h), fun _ y a b => by omega⟩
  | k + 1, row => by
    obtain ⟨i1, i2⟩ := f_si_ok (U := U) (R := R) (c := c) k (row + 1)
    rw [f_si]
    by_cases e : U row = c ∧ R row ≠ 0
    · rw [if_pos e]
      exact ⟨fun x h => by cases h; exact ⟨Nat.le_refl _, by omega, e.1, e.2, fun y a b => by omega⟩, fun h => by cases h⟩
    · rw [if_neg e]
      refine ⟨fun x h => ?_, fun h y a b => ?_⟩
      · obtain ⟨a, b, c', d, f⟩ := i1 x h
        exact ⟨by omega, by omega, c', d, fun y p q => by
          by_cases z : y = row
          · rw [z]; exact e
          · exact f y (by omega) q⟩
      · by_cases z : y = row
        · rw [z]; exact e
        · exact i2 h y (by omega) (by omega)
theorem f_so_ok {U R : Nat → Nat} {N : Nat} : ∀ k c, (∀ y, y < N → R y ≠ 0 → c ≤ U y) → (∀ x, f_so U R N k c = some x → n_best U R N x) ∧ (f_so U R N k c = none → ∀ y, y < N → R y ≠ 0 → c + k ≤ U y)
  | 0, c, h => ⟨fun x e => (by cases e), fun _ y a b => by have := h y a b; omega⟩
  | k + 1, c, h => by
    obtain ⟨s1, s2⟩ := f_si_ok (U := U) (R := R) (c := c) N 0
    rw [f_so]
    cases e : f_si U R c N 0 with
    | some row =>
      obtain ⟨a, b, d, f, i⟩ := s1 row e
      refine ⟨fun x hx => ?_, fun hx => by cases hx⟩
      cases hx
      refine ⟨by omega, f, fun y hy hR => ?_⟩
      have := h y hy hR
      by_cases z : U y = c
      · refine Or.inr ⟨by omega, ?_⟩
        by_cases q : row ≤ y
        · exact q
        · exact absurd ⟨z, hR⟩ (i y (by omega) (by omega))
      · exact Or.inl (by omega)
    | none =>
      have s2 := s2 e
      obtain ⟨i1, i2⟩ := f_so_ok (U := U) (R := R) (N := N) k (c + 1) (fun y hy hR => by
        have a := h y hy hR
        have b := s2 y (Nat.zero_le _) (by omega)
        by_cases z : U y = c
        · exact absurd ⟨z, hR⟩ b
        · omega)
      exact ⟨i1, fun hx y hy hR => by have := i2 hx y hy hR; omega⟩
def n_bo (U R : Nat → Nat) (N : Nat) : Option (Nat × Nat) → Prop
  | none => ∀ y, y < N → ¬ R y ≠ 0
  | some (c, x) => c = U x ∧ n_best U R N x
theorem f_sr_ok {U R : Nat → Nat} : ∀ k row b, n_bo U R row b → n_bo U R (row + k) (f_sr U R k row b)
  | 0, _, _, h => h
  | k + 1, row, b, h => by
    rw [f_sr, show row + (k + 1) = row + 1 + k by omega]
    refine f_sr_ok k (row + 1) _ ?_
    match b, h with
    | none, h =>
      show n_bo U R (row + 1) (if R row ≠ 0 then some (U row, row) else none)
      by_cases e : R row ≠ 0
      · rw [if_pos e]
        refine ⟨rfl, by omega, e, fun y hy hR => ?_⟩
        by_cases z : y = row
        · rw [z]; exact Or.inr ⟨rfl, Nat.le_refl _⟩
        · exact absurd hR (h y (by omega))
      · rw [if_neg e]
        intro y hy
        by_cases z : y = row
        · rw [z]; exact e
        · exact h y (by omega)
    | some (c, x), h =>
      obtain ⟨h1, h2, h3, h4⟩ := h
      show n_bo U R (row + 1) (if U row < c ∧ R row ≠ 0 then some (U row, row) else some (c, x))
      by_cases e : U row < c ∧ R row ≠ 0
      · rw [if_pos e]
        refine ⟨rfl, by omega, e.2, fun y hy hR => ?_⟩
        by_cases z : y = row
        · rw [z]; exact Or.inr ⟨rfl, Nat.le_refl _⟩
        · have := h4 y (by omega) hR
          exact Or.inl (by omega)
      · rw [if_neg e]
        refine ⟨h1, by omega, h3, fun y hy hR => ?_⟩
        by_cases z : y = row
        · subst z
          have e' : ¬ U y < c := fun q => e ⟨q, hR⟩
          by_cases q : U x = U y
          · exact Or.inr ⟨q, by omega⟩
          · exact Or.inl (by omega)
        · exact h4 y (by omega) hR
/-- both ways come to one -/
theorem f_sr_so {U R : Nat → Nat} {N K : Nat} (hU : ∀ y, y < N → U y < K) : f_sr U R N 0 none = (f_so U R N K 0).map (fun x => (U x, x)) := by
  have a := f_sr_ok (U := U) (R := R) N 0 none (fun y hy => by omega)
  rw [Nat.zero_add] at a
  obtain ⟨s1, s2⟩ := f_so_ok (U := U) (R := R) (N := N) K 0 (fun _ _ _ => Nat.zero_le _)
  cases e : f_so U R N K 0 with
  | some x =>
    have hx := s1 x e
    cases e2 : f_sr U R N 0 none with
    | some z =>
      obtain ⟨c, y⟩ := z
      rw [e2] at a
      obtain ⟨h1, h2⟩ := a
      have := n_best_one hx h2
      subst this
      rw [h1]
      rfl
    | none =>
      rw [e2] at a
      exact absurd hx.2.1 (a x hx.1)
  | none =>
    have hx := s2 e
    cases e2 : f_sr U R N 0 none with
    | some z =>
      obtain ⟨c, y⟩ := z
      rw [e2] at a
      obtain ⟨h1, h2⟩ := a
      have p := hx y h2.1 h2.2.1
      have q := hU y h2.1
      omega
    | none => rfl
def n_rch (n m : Nat) (r : qM) (row : Nat) : Nat := (p_rch n m r row).toInt.toNat
theorem n_rch_iff {n m : Nat} {r : qM} {row : Nat} : n_rch n m r row ≠ 0 ↔ p_rch n m r row ≠ 0 := by
  unfold n_rch
  rcases p_rch_01 n m r row with e | e <;> rw [e] <;> decide
/-- what setting() finds -/
def f_set (n m : Nat) (r : qM) : Option Nat := f_so (n_un n r) (n_rch n m r) (4 ^ n) (n + 1) 0
def e_row : Option Nat → Int32
  | none => i_none
  | some x => Int32.ofNat x
def f_set0 (n : Nat) (r : qM) : Option Nat → Int32
  | none => i_none
  | some x => Int32.ofNat (n_un n r x)
def f_setp (n p : Nat) : Option Nat → Int32
  | none => i_none
  | some x => f_md n x p
def e_few : Option (Nat × Nat) → Int32
  | none => 1000000
  | some (c, _) => Int32.ofNat c
def e_fnd : Option (Nat × Nat) → Int32
  | none => i_none
  | some (_, x) => Int32.ofNat x
def p_ust (g : qM) (row : Int32) (p : Nat) : Int32 := if s_dg row (g 70 4) (Int32.ofNat p) = g 71 (5 + p) then 0 else 1
theorem f_set_lt {n m : Nat} {r : qM} {x : Nat} (h : f_set n m r = some x) : x < 4 ^ n := ((f_so_ok (n + 1) 0 (fun _ _ _ => Nat.zero_le _)).1 x h).1
theorem n_fewlt {U : Nat → Nat} {N a : Nat} {b : Option (Nat × Nat)} (ha : a < 1000) (hb : ∀ c x, b = some (c, x) → c = U x ∧ x < N) (hU : ∀ x, U x < 1000) : Int32.ofNat a < e_few b ↔ (∀ c x, b = some (c, x) → a < c) := by
  match b, hb with
  | none, _ =>
    refine ⟨fun _ c x z => (by cases z), fun _ => ?_⟩
    show Int32.ofNat a < 1000000
    rw [Int32.lt_iff_toInt_lt, q_nat (by omega)]
    have e : (1000000 : Int32).toInt = 1000000 := rfl
    omega
  | some (c, x), hb =>
    have h1 := (hb c x rfl).1
    have h2 := hU x
    show Int32.ofNat a < Int32.ofNat c ↔ _
    rw [q_lt (by omega) (by omega)]
    exact ⟨fun z c' x' e => by cases e; exact z, fun z => z c x rfl⟩
theorem n_few1 {U R : Nat → Nat} {row : Nat} {b : Option (Nat × Nat)} (hR : R row ≠ 0) (hl : ∀ c x, b = some (c, x) → U row < c) : f_sb U R row b = some (U row, row) := by
  match b, hl with
  | none, _ => exact if_pos hR
  | some (c, x), hl => exact if_pos ⟨hl c x rfl, hR⟩
theorem n_few0 {U R : Nat → Nat} {row : Nat} {b : Option (Nat × Nat)} (h : ¬ R row ≠ 0 ∨ ¬ ∀ c x, b = some (c, x) → U row < c) : f_sb U R row b = b := by
  match b, h with
  | none, h =>
    rcases h with h | h
    · exact if_neg h
    · exact absurd (fun c x z => by cases z) h
  | some (c, x), h =>
    rcases h with h | h
    · exact if_neg (fun z => h z.2)
    · exact if_neg (fun z => h (fun c' x' e => by cases e; exact z.1))
theorem sg_se_1 (big : Nat → List Value → qM → qW → qR) (n0 : Nat) (G : qM) (U : qW) (v0 : Int32) (v1 : Int32) : qm_run pm_m big m_95 (n0 + 4) 0 [(0, .ref 20), (1, .int v0), (2, .int v1)] [] G U = qm_run pm_m big m_95 n0 6 [(0, .ref 20), (1, .int v0), (2, .int v1)] [.int (G 20 3), .int v1, .int v0] G U := rfl
theorem sg_se_2 (big : Nat → List Value → qM → qW → qR) (n0 : Nat) (G : qM) (U : qW) (v0 : Int32) (v1 : Int32) : qm_run pm_m big m_95 (n0 + 4) 0 [(0, .ref 35), (1, .int v0), (2, .int v1)] [] G U = qm_run pm_m big m_95 n0 6 [(0, .ref 35), (1, .int v0), (2, .int v1)] [.int (G 35 3), .int v1, .int v0] G U := rfl
theorem sg_se_3 (big : Nat → List Value → qM → qW → qR) (n0 : Nat) (G : qM) (U : qW) (v0 : Int32) (v1 : Int32) (v2 : Int32) : qm_run pm_m big m_94 (n0 + 3) 4 [(0, .ref 20), (1, .int v0), (2, .int v1), (3, .int v2)] [] G U = qm_run pm_m big m_94 n0 9 [(0, .ref 20), (1, .int v0), (2, .int v1), (3, .int v2)] [.int (G 20 3), .int v2] G U := rfl
theorem sg_se_4 (big : Nat → List Value → qM → qW → qR) (n0 : Nat) (G : qM) (U : qW) (v0 : Int32) (v1 : Int32) (v2 : Int32) : qm_run pm_m big m_94 (n0 + 4) 12 [(0, .ref 20), (1, .int v0), (2, .int v1), (3, .int v2)] [] G U = qm_run pm_m big m_94 n0 18 [(0, .ref 20), (1, .int v0), (2, .int v1), (3, .int v2)] [.int v2, .ref 22, .int v1] G U := rfl
theorem sg_se_5 (big : Nat → List Value → qM → qW → qR) (n0 : Nat) (G : qM) (U : qW) (v0 : Int32) (v1 : Int32) (v2 : Int32) (v3 : Int32) (v4 : Int32) : qm_run pm_m big m_94 (n0 + 3) 19 [(0, .ref 20), (1, .int v0), (2, .int v1), (3, .int v2)] [.int v4, .int v3] G U = qm_run pm_m big m_94 n0 22 [(0, .ref 20), (1, .int v0), (2, .int v1), (3, .int v2)] [.int v2, .int v0, .ref 20, .int v4, .int v3] G U := rfl
theorem sg_se_6 (big : Nat → List Value → qM → qW → qR) (n0 : Nat) (G : qM) (U : qW) (v0 : Int32) (v1 : Int32) (v2 : Int32) (v3 : Int32) : qm_run pm_m big m_94 (n0 + 5) 32 [(0, .ref 20), (1, .int v0), (2, .int v1), (3, .int v2)] [.int v3] G U = qm_run pm_m big m_94 n0 4 [(0, .ref 20), (1, .int v0), (2, .int (v3 + (0 : Int32))), (3, .int (v2 + (1 : Int32)))] [] G U := rfl
theorem sg_se_7 (big : Nat → List Value → qM → qW → qR) (n0 : Nat) (G : qM) (U : qW) (v0 : Int32) (v1 : Int32) (v2 : Int32) (v3 : Int32) : qm_run pm_m big m_94 (n0 + 6) 28 [(0, .ref 20), (1, .int v0), (2, .int v1), (3, .int v2)] [.int v3] G U = qm_run pm_m big m_94 n0 4 [(0, .ref 20), (1, .int v0), (2, .int (v3 + (1 : Int32))), (3, .int (v2 + (1 : Int32)))] [] G U := rfl
theorem sg_se_8 (big : Nat → List Value → qM → qW → qR) (n0 : Nat) (G : qM) (U : qW) (v0 : Int32) : qm_run pm_m big m_94 (n0 + 4) 0 [(0, .ref 20), (1, .int v0)] [] G U = qm_run pm_m big m_94 n0 4 [(0, .ref 20), (1, .int v0), (2, .int (0 : Int32)), (3, .int (0 : Int32))] [] G U := rfl
theorem sg_se_9 (big : Nat → List Value → qM → qW → qR) (n0 : Nat) (G : qM) (U : qW) (v0 : Int32) (v1 : Int32) : qm_run pm_m big m_98 (n0 + 3) 2 [(0, .ref 35), (1, .int v0), (2, .int v1)] [] G U = qm_run pm_m big m_98 n0 7 [(0, .ref 35), (1, .int v0), (2, .int v1)] [.int (G 35 3), .int v1] G U := rfl
theorem sg_se_10 (big : Nat → List Value → qM → qW → qR) (n0 : Nat) (G : qM) (U : qW) (v0 : Int32) (v1 : Int32) : qm_run pm_m big m_98 (n0 + 6) 10 [(0, .ref 35), (1, .int v0), (2, .int v1)] [] G U = qm_run pm_m big m_98 n0 18 [(0, .ref 35), (1, .int v0), (2, .int v1)] [.int v1, .int v0, .ref 35, .int v1, .ref 37] G U := rfl
theorem sg_se_11 (big : Nat → List Value → qM → qW → qR) (n0 : Nat) (G : qM) (U : qW) (v0 : Int32) (v1 : Int32) : qm_run pm_m big m_98 (n0 + 2) 22 [(0, .ref 35), (1, .int v0), (2, .int v1)] [] G U = qm_run pm_m big m_98 n0 2 [(0, .ref 35), (1, .int v0), (2, .int (v1 + (1 : Int32)))] [] G U := rfl
theorem sg_se_12 (big : Nat → List Value → qM → qW → qR) (n0 : Nat) (G : qM) (U : qW) (v0 : Int32) : qm_run pm_m big m_98 (n0 + 2) 0 [(0, .ref 35), (1, .int v0)] [] G U = qm_run pm_m big m_98 n0 2 [(0, .ref 35), (1, .int v0), (2, .int (0 : Int32))] [] G U := rfl
theorem sg_se_13 (big : Nat → List Value → qM → qW → qR) (n0 : Nat) (G : qM) (U : qW) : qm_run pm_m big m_99 (n0 + 1) 0 [(0, .ref 35)] [] G U = qm_run pm_m big m_99 n0 1 [(0, .ref 35)] [.ref 35] G U := rfl
theorem sg_se_14 (big : Nat → List Value → qM → qW → qR) (n0 : Nat) (G : qM) (U : qW) (v0 : Int32) : qm_run pm_m big m_99 (n0 + 1) 4 [(0, .ref 35)] [.int v0] G U = qm_run pm_m big m_99 n0 5 [(0, .ref 35)] [.ref 35, .int v0] G U := rfl
theorem sg_se_15 (big : Nat → List Value → qM → qW → qR) (n0 : Nat) (G : qM) (U : qW) (v0 : Int32) (v1 : Int32) : qm_run pm_m big m_97 (n0 + 3) 0 [(0, .ref 34), (1, .ref 20), (2, .int v0), (3, .int v1)] [] G U = qm_run pm_m big m_97 n0 5 [(0, .ref 34), (1, .ref 20), (2, .int v0), (3, .int v1)] [.ref 20, .ref 35] G U := rfl
theorem sg_se_16 (big : Nat → List Value → qM → qW → qR) (n0 : Nat) (G : qM) (U : qW) (v0 : Int32) (v1 : Int32) : qm_run pm_m big m_97 (n0 + 3) 8 [(0, .ref 34), (1, .ref 20), (2, .int v0), (3, .int v1)] [] G U = qm_run pm_m big m_97 n0 13 [(0, .ref 34), (1, .ref 20), (2, .int v0), (3, .int v1)] [.int v0, .ref 35] G U := rfl
theorem sg_se_17 (big : Nat → List Value → qM → qW → qR) (n0 : Nat) (G : qM) (U : qW) (v0 : Int32) (v1 : Int32) : qm_run pm_m big m_97 (n0 + 5) 16 [(0, .ref 34), (1, .ref 20), (2, .int v0), (3, .int v1)] [] G U = qm_run pm_m big m_97 n0 25 [(0, .ref 34), (1, .ref 20), (2, .int v0), (3, .int v1)] [.int v1, .ref 35, .ref 28] G U := rfl
theorem sg_se_18 (big : Nat → List Value → qM → qW → qR) (n0 : Nat) (G : qM) (U : qW) (v0 : Int32) (v1 : Int32) : qm_run pm_m big m_97 (n0 + 2) 28 [(0, .ref 34), (1, .ref 20), (2, .int v0), (3, .int v1)] [] G U = qm_run pm_m big m_97 n0 32 [(0, .ref 34), (1, .ref 20), (2, .int v0), (3, .int v1)] [.ref 35] G U := rfl
theorem sg_se_19 (big : Nat → List Value → qM → qW → qR) (n0 : Nat) (G : qM) (U : qW) (v0 : Int32) (v1 : Int32) (v2 : Int32) : qm_run pm_m big m_92 (n0 + 3) 21 [(0, .ref 34), (1, .ref 20), (2, .int v0), (3, .int v1), (4, .int v2)] [] G U = qm_run pm_m big m_92 n0 27 [(0, .ref 34), (1, .ref 20), (2, .int v0), (3, .int v1), (4, .int v2)] [.int (G 20 3), .int v2] G U := rfl
theorem sg_se_20 (big : Nat → List Value → qM → qW → qR) (n0 : Nat) (G : qM) (U : qW) (v0 : Int32) (v1 : Int32) (v2 : Int32) : qm_run pm_m big m_92 (n0 + 2) 33 [(0, .ref 34), (1, .ref 20), (2, .int v0), (3, .int v1), (4, .int v2)] [] G U = qm_run pm_m big m_92 n0 36 [(0, .ref 34), (1, .ref 20), (2, .int v0), (3, .int v1), (4, .int v2)] [.int v2, .ref 20] G U := rfl
theorem sg_se_21 (big : Nat → List Value → qM → qW → qR) (n0 : Nat) (G : qM) (U : qW) (v0 : Int32) (v1 : Int32) (v2 : Int32) (v3 : Int32) : qm_run pm_m big m_92 (n0 + 1) 39 [(0, .ref 34), (1, .ref 20), (2, .int v0), (3, .int v1), (4, .int v2)] [.int v3] G U = qm_run pm_m big m_92 n0 40 [(0, .ref 34), (1, .ref 20), (2, .int v0), (3, .int v1), (4, .int v2)] [.int v1, .int v3] G U := rfl
theorem sg_se_22 (big : Nat → List Value → qM → qW → qR) (n0 : Nat) (G : qM) (U : qW) (v0 : Int32) (v1 : Int32) (v2 : Int32) : qm_run pm_m big m_92 (n0 + 4) 43 [(0, .ref 34), (1, .ref 20), (2, .int v0), (3, .int v1), (4, .int v2)] [] G U = qm_run pm_m big m_92 n0 48 [(0, .ref 34), (1, .ref 20), (2, .int v0), (3, .int v1), (4, .int v2)] [.int v0, .int v2, .ref 20, .ref 34] G U := rfl
theorem sg_se_23 (big : Nat → List Value → qM → qW → qR) (n0 : Nat) (G : qM) (U : qW) (v0 : Int32) (v1 : Int32) (v2 : Int32) : qm_run pm_m big m_92 (n0 + 3) 51 [(0, .ref 34), (1, .ref 20), (2, .int v0), (3, .int v1), (4, .int v2)] [.int (0 : Int32)] G U = qm_run pm_m big m_92 n0 21 [(0, .ref 34), (1, .ref 20), (2, .int v0), (3, .int v1), (4, .int (v2 + (1 : Int32)))] [] G U := rfl
theorem sg_se_24 (big : Nat → List Value → qM → qW → qR) (n0 : Nat) (G : qM) (U : qW) (v0 : Int32) (v1 : Int32) (v2 : Int32) : qm_run pm_m big m_92 (n0 + 2) 57 [(0, .ref 34), (1, .ref 20), (2, .int v0), (3, .int v1), (4, .int v2)] [] G U = qm_run pm_m big m_92 n0 21 [(0, .ref 34), (1, .ref 20), (2, .int v0), (3, .int v1), (4, .int (v2 + (1 : Int32)))] [] G U := rfl
theorem sg_se_25 (big : Nat → List Value → qM → qW → qR) (n0 : Nat) (G : qM) (U : qW) (v0 : Int32) (v1 : Int32) : qm_run pm_m big m_92 (n0 + 3) 10 [(0, .ref 34), (1, .ref 20), (2, .int v0), (3, .int v1)] [] G U = qm_run pm_m big m_92 n0 15 [(0, .ref 34), (1, .ref 20), (2, .int v0), (3, .int v1)] [.int (G 20 3), .int v1] G U := rfl
theorem sg_se_26 (big : Nat → List Value → qM → qW → qR) (n0 : Nat) (G : qM) (U : qW) (v0 : Int32) (v1 : Int32) : qm_run pm_m big m_92 (n0 + 2) 18 [(0, .ref 34), (1, .ref 20), (2, .int v0), (3, .int v1)] [] G U = qm_run pm_m big m_92 n0 21 [(0, .ref 34), (1, .ref 20), (2, .int v0), (3, .int v1), (4, .int (0 : Int32))] [] G U := rfl
theorem sg_se_27 (big : Nat → List Value → qM → qW → qR) (n0 : Nat) (G : qM) (U : qW) (v0 : Int32) (v1 : Int32) (v2 : Int32) : qm_run pm_m big m_92 (n0 + 2) 63 [(0, .ref 34), (1, .ref 20), (2, .int v0), (3, .int v1), (4, .int v2)] [] G U = qm_run pm_m big m_92 n0 10 [(0, .ref 34), (1, .ref 20), (2, .int v0), (3, .int (v1 + (1 : Int32))), (4, .int v2)] [] G U := rfl
theorem sg_se_28 (big : Nat → List Value → qM → qW → qR) (n0 : Nat) (G : qM) (U : qW) (v0 : Int32) : qm_run pm_m big m_92 (n0 + 3) 0 [(0, .ref 34), (1, .ref 20), (2, .int v0)] [] G U = qm_run pm_m big m_92 n0 5 [(0, .ref 34), (1, .ref 20), (2, .int v0)] [.ref 20, .ref 35] G U := rfl
theorem sg_se_29 (big : Nat → List Value → qM → qW → qR) (n0 : Nat) (G : qM) (U : qW) (v0 : Int32) : qm_run pm_m big m_92 (n0 + 2) 8 [(0, .ref 34), (1, .ref 20), (2, .int v0)] [] G U = qm_run pm_m big m_92 n0 10 [(0, .ref 34), (1, .ref 20), (2, .int v0), (3, .int (0 : Int32))] [] G U := rfl
theorem sg_se_30 (big : Nat → List Value → qM → qW → qR) (n0 : Nat) (G : qM) (U : qW) (v0 : Int32) : qm_run pm_m big m_91 (n0 + 1) 0 [(0, .ref 8), (1, .int v0)] [] G U = qm_run pm_m big m_91 n0 1 [(0, .ref 8), (1, .int v0)] [.int v0] G U := rfl
theorem sg_se_31 (big : Nat → List Value → qM → qW → qR) (n0 : Nat) (G : qM) (U : qW) (v0 : Int32) : qm_run pm_m big m_91 (n0 + 2) 4 [(0, .ref 8), (1, .int v0)] [] G U = qm_run pm_m big m_91 n0 7 [(0, .ref 8), (1, .int v0)] [.int (10 : Int32), .int v0] G U := rfl
theorem sg_se_32 (big : Nat → List Value → qM → qW → qR) (n0 : Nat) (G : qM) (U : qW) (v0 : Int32) : qm_run pm_m big m_91 (n0 + 5) 10 [(0, .ref 8), (1, .int v0)] [] G U = qm_run pm_m big m_91 n0 18 [(0, .ref 8), (1, .int v0)] [.int (v0 - (10 : Int32)), .ref 20] G U := rfl
theorem sg_se_33 (big : Nat → List Value → qM → qW → qR) (n0 : Nat) (G : qM) (U : qW) (v0 : Int32) : qm_run pm_m big m_89 (n0 + 1) 0 [(0, .ref 8), (1, .int v0), (2, .int (0 : Int32))] [] G U = qm_run pm_m big m_89 n0 1 [(0, .ref 8), (1, .int v0), (2, .int (0 : Int32))] [.int v0] G U := rfl
theorem sg_se_34 (big : Nat → List Value → qM → qW → qR) (n0 : Nat) (G : qM) (U : qW) (v0 : Int32) : qm_run pm_m big m_89 (n0 + 3) 4 [(0, .ref 8), (1, .int v0), (2, .int (0 : Int32))] [.int (1 : Int32)] G U = qm_run pm_m big m_89 n0 9 [(0, .ref 8), (1, .int v0), (2, .int (0 : Int32))] [.int (0 : Int32), .ref 8] G U := rfl
theorem sg_se_35 (big : Nat → List Value → qM → qW → qR) (n0 : Nat) (G : qM) (U : qW) (v0 : Int32) : qm_run pm_m big m_89 (n0 + 6) 12 [(0, .ref 8), (1, .int v0), (2, .int (0 : Int32))] [.int (1 : Int32)] G U = qm_run pm_m big m_89 n0 26 [(0, .ref 8), (1, .int v0), (2, .int (0 : Int32))] [.int v0, .ref 20, .ref 34] G U := rfl
theorem sg_se_36 (big : Nat → List Value → qM → qW → qR) (n0 : Nat) (G : qM) (U : qW) (v0 : Int32) (v1 : Int32) : qm_run pm_m big m_89 (n0 + 3) 29 [(0, .ref 8), (1, .int v0), (2, .int (0 : Int32))] [.int v1] G U = qm_run pm_m big m_89 n0 33 [(0, .ref 8), (1, .int v0), (2, .int (0 : Int32)), (3, .int v1)] [.int (Int8.toInt32 (Int8.ofInt (-4))), .int v1] G U := rfl
theorem sg_se_37 (big : Nat → List Value → qM → qW → qR) (n0 : Nat) (G : qM) (U : qW) (v0 : Int32) (v1 : Int32) : qm_run pm_m big m_89 (n0 + 5) 39 [(0, .ref 8), (1, .int v0), (2, .int (0 : Int32)), (3, .int v1)] [] G U = qm_run pm_m big m_89 n0 48 [(0, .ref 8), (1, .int v0), (2, .int (0 : Int32)), (3, .int v1)] [.int v1, .ref 20] G U := rfl
theorem sg_se_38 (big : Nat → List Value → qM → qW → qR) (n0 : Nat) (G : qM) (U : qW) (v0 : Int32) (v1 : Int32) : qm_run pm_m big m_89 (n0 + 1) 0 [(0, .ref 8), (1, .int v0), (2, .int v1)] [] G U = qm_run pm_m big m_89 n0 1 [(0, .ref 8), (1, .int v0), (2, .int v1)] [.int v0] G U := rfl
theorem sg_se_39 (big : Nat → List Value → qM → qW → qR) (n0 : Nat) (G : qM) (U : qW) (v0 : Int32) (v1 : Int32) : qm_run pm_m big m_89 (n0 + 3) 4 [(0, .ref 8), (1, .int v0), (2, .int v1)] [.int (1 : Int32)] G U = qm_run pm_m big m_89 n0 9 [(0, .ref 8), (1, .int v0), (2, .int v1)] [.int v1, .ref 8] G U := rfl
theorem sg_se_40 (big : Nat → List Value → qM → qW → qR) (n0 : Nat) (G : qM) (U : qW) (v0 : Int32) (v1 : Int32) : qm_run pm_m big m_89 (n0 + 6) 12 [(0, .ref 8), (1, .int v0), (2, .int v1)] [.int (1 : Int32)] G U = qm_run pm_m big m_89 n0 26 [(0, .ref 8), (1, .int v0), (2, .int v1)] [.int v0, .ref 20, .ref 34] G U := rfl
theorem sg_se_41 (big : Nat → List Value → qM → qW → qR) (n0 : Nat) (G : qM) (U : qW) (v0 : Int32) (v1 : Int32) (v2 : Int32) : qm_run pm_m big m_89 (n0 + 3) 29 [(0, .ref 8), (1, .int v0), (2, .int v1)] [.int v2] G U = qm_run pm_m big m_89 n0 33 [(0, .ref 8), (1, .int v0), (2, .int v1), (3, .int v2)] [.int (Int8.toInt32 (Int8.ofInt (-4))), .int v2] G U := rfl
theorem sg_se_42 (big : Nat → List Value → qM → qW → qR) (n0 : Nat) (G : qM) (U : qW) (v0 : Int32) (v1 : Int32) (v2 : Int32) : qm_run pm_m big m_89 (n0 + 1) 39 [(0, .ref 8), (1, .int v0), (2, .int v1), (3, .int v2)] [] G U = qm_run pm_m big m_89 n0 40 [(0, .ref 8), (1, .int v0), (2, .int v1), (3, .int v2)] [.int v1] G U := rfl
theorem sg_se_43 (big : Nat → List Value → qM → qW → qR) (n0 : Nat) (G : qM) (U : qW) (v0 : Int32) (v1 : Int32) (v2 : Int32) : qm_run pm_m big m_89 (n0 + 6) 54 [(0, .ref 8), (1, .int v0), (2, .int v1), (3, .int v2)] [] G U = qm_run pm_m big m_89 n0 63 [(0, .ref 8), (1, .int v0), (2, .int v1), (3, .int v2)] [.int (v1 - (10 : Int32)), .int v2, .ref 20] G U := rfl
theorem sg_se_44 (big : Nat → List Value → qM → qW → qR) (n0 : Nat) (G : qM) (U : qW) (v0 : Int32) (v1 : Int32) (v2 : Int32) (v3 : Int32) (v4 : Int32) (v5 : Int32) : qm_run pm_m big m_201 (n0 + 3) 61 [(0, .ref 70), (1, .int v0), (2, .int (0 : Int32)), (3, .int v1), (4, .int v2), (5, .int v3), (6, .int v4), (7, .int v5)] [] G U = qm_run pm_m big m_201 n0 67 [(0, .ref 70), (1, .int v0), (2, .int (0 : Int32)), (3, .int v1), (4, .int v2), (5, .int v3), (6, .int v4), (7, .int v5)] [.int (G 70 4), .int v5] G U := rfl
theorem sg_se_45 (big : Nat → List Value → qM → qW → qR) (n0 : Nat) (G : qM) (U : qW) (v0 : Int32) (v1 : Int32) (v2 : Int32) (v3 : Int32) (v4 : Int32) (v5 : Int32) : qm_run pm_m big m_201 (n0 + 4) 70 [(0, .ref 70), (1, .int v0), (2, .int (0 : Int32)), (3, .int v1), (4, .int v2), (5, .int v3), (6, .int v4), (7, .int v5)] [] G U = qm_run pm_m big m_201 n0 77 [(0, .ref 70), (1, .int v0), (2, .int (0 : Int32)), (3, .int v1), (4, .int v2), (5, .int v3), (6, .int v4), (7, .int v5)] [.int v5, .int v3, .ref 70, .int v4] G U := rfl
theorem sg_se_46 (big : Nat → List Value → qM → qW → qR) (n0 : Nat) (G : qM) (U : qW) (v0 : Int32) (v1 : Int32) (v2 : Int32) (v3 : Int32) (v4 : Int32) (v5 : Int32) (v6 : Int32) (v7 : Int32) : qm_run pm_m big m_201 (n0 + 5) 80 [(0, .ref 70), (1, .int v0), (2, .int (0 : Int32)), (3, .int v1), (4, .int v2), (5, .int v3), (6, .int v4), (7, .int v5)] [.int v7, .int v6] G U = qm_run pm_m big m_201 n0 88 [(0, .ref 70), (1, .int v0), (2, .int (0 : Int32)), (3, .int v1), (4, .int v2), (5, .int v3), (6, .int v4), (7, .int v5)] [.int ((5 : Int32) + v5), .ref 71, .int v7, .int v6] G U := rfl
theorem sg_se_47 (big : Nat → List Value → qM → qW → qR) (n0 : Nat) (G : qM) (U : qW) (v0 : Int32) (v1 : Int32) (v2 : Int32) (v3 : Int32) (v4 : Int32) (v5 : Int32) (v6 : Int32) : qm_run pm_m big m_201 (n0 + 1) 96 [(0, .ref 70), (1, .int v0), (2, .int (0 : Int32)), (3, .int v1), (4, .int v2), (5, .int v3), (6, .int v4), (7, .int v5)] [.int v6] G U = qm_run pm_m big m_201 n0 97 [(0, .ref 70), (1, .int v0), (2, .int (0 : Int32)), (3, .int v1), (4, .int v2), (5, .int v3), (6, .int v4), (7, .int v5)] [.int (0 : Int32), .int v6] G U := rfl
theorem sg_se_48 (big : Nat → List Value → qM → qW → qR) (n0 : Nat) (G : qM) (U : qW) (v0 : Int32) (v1 : Int32) (v2 : Int32) (v3 : Int32) (v4 : Int32) (v5 : Int32) (v6 : Int32) : qm_run pm_m big m_201 (n0 + 8) 100 [(0, .ref 70), (1, .int v0), (2, .int (0 : Int32)), (3, .int v1), (4, .int v2), (5, .int v3), (6, .int v4), (7, .int v5)] [.int (0 : Int32), .int v6] G U = qm_run pm_m big m_201 n0 114 [(0, .ref 70), (1, .int v0), (2, .int (0 : Int32)), (3, .int v1), (4, .int v2), (5, .int v3), (6, .int (v6 + (0 : Int32))), (7, .int v5)] [.int v5, .int v3, .ref 70, .int v5, .ref 76] G U := rfl
theorem sg_se_49 (big : Nat → List Value → qM → qW → qR) (n0 : Nat) (G : qM) (U : qW) (v0 : Int32) (v1 : Int32) (v2 : Int32) (v3 : Int32) (v4 : Int32) (v5 : Int32) : qm_run pm_m big m_201 (n0 + 2) 118 [(0, .ref 70), (1, .int v0), (2, .int (0 : Int32)), (3, .int v1), (4, .int v2), (5, .int v3), (6, .int v4), (7, .int v5)] [] G U = qm_run pm_m big m_201 n0 61 [(0, .ref 70), (1, .int v0), (2, .int (0 : Int32)), (3, .int v1), (4, .int v2), (5, .int v3), (6, .int v4), (7, .int (v5 + (1 : Int32)))] [] G U := rfl
theorem sg_se_50 (big : Nat → List Value → qM → qW → qR) (n0 : Nat) (G : qM) (U : qW) (v0 : Int32) (v1 : Int32) (v2 : Int32) (v3 : Int32) (v4 : Int32) (v5 : Int32) (v6 : Int32) : qm_run pm_m big m_201 (n0 + 2) 92 [(0, .ref 70), (1, .int v0), (2, .int (0 : Int32)), (3, .int v1), (4, .int v2), (5, .int v3), (6, .int v4), (7, .int v5)] [.int v6] G U = qm_run pm_m big m_201 n0 97 [(0, .ref 70), (1, .int v0), (2, .int (0 : Int32)), (3, .int v1), (4, .int v2), (5, .int v3), (6, .int v4), (7, .int v5)] [.int (1 : Int32), .int v6] G U := rfl
theorem sg_se_51 (big : Nat → List Value → qM → qW → qR) (n0 : Nat) (G : qM) (U : qW) (v0 : Int32) (v1 : Int32) (v2 : Int32) (v3 : Int32) (v4 : Int32) (v5 : Int32) (v6 : Int32) : qm_run pm_m big m_201 (n0 + 8) 100 [(0, .ref 70), (1, .int v0), (2, .int (0 : Int32)), (3, .int v1), (4, .int v2), (5, .int v3), (6, .int v4), (7, .int v5)] [.int (1 : Int32), .int v6] G U = qm_run pm_m big m_201 n0 114 [(0, .ref 70), (1, .int v0), (2, .int (0 : Int32)), (3, .int v1), (4, .int v2), (5, .int v3), (6, .int (v6 + (1 : Int32))), (7, .int v5)] [.int v5, .int v3, .ref 70, .int v5, .ref 76] G U := rfl
theorem sg_se_52 (big : Nat → List Value → qM → qW → qR) (n0 : Nat) (G : qM) (U : qW) (v0 : Int32) (v1 : Int32) (v2 : Int32) (v3 : Int32) : qm_run pm_m big m_201 (n0 + 3) 39 [(0, .ref 70), (1, .int v0), (2, .int (0 : Int32)), (3, .int v1), (4, .int v2), (5, .int v3)] [] G U = qm_run pm_m big m_201 n0 45 [(0, .ref 70), (1, .int v0), (2, .int (0 : Int32)), (3, .int v1), (4, .int v2), (5, .int v3)] [.int (G 70 4), .int v3] G U := rfl
theorem sg_se_53 (big : Nat → List Value → qM → qW → qR) (n0 : Nat) (G : qM) (U : qW) (v0 : Int32) (v1 : Int32) (v2 : Int32) (v3 : Int32) : qm_run pm_m big m_201 (n0 + 2) 151 [(0, .ref 70), (1, .int v0), (2, .int (0 : Int32)), (3, .int v1), (4, .int v2), (5, .int v3)] [] G U = qm_run pm_m big m_201 n0 155 [(0, .ref 70), (1, .int v0), (2, .int (0 : Int32)), (3, .int v1), (4, .int v2), (5, .int v3)] [.int (Int8.toInt32 (Int8.ofInt (-4))), .int v2] G U := rfl
theorem sg_se_54 (big : Nat → List Value → qM → qW → qR) (n0 : Nat) (G : qM) (U : qW) (v0 : Int32) (v1 : Int32) (v2 : Int32) (v3 : Int32) : qm_run pm_m big m_201 (n0 + 3) 51 [(0, .ref 70), (1, .int v0), (2, .int (0 : Int32)), (3, .int v1), (4, .int v2), (5, .int v3)] [] G U = qm_run pm_m big m_201 n0 55 [(0, .ref 70), (1, .int v0), (2, .int (0 : Int32)), (3, .int v1), (4, .int v2), (5, .int v3), (6, .int (0 : Int32))] [.ref 70] G U := rfl
theorem sg_se_55 (big : Nat → List Value → qM → qW → qR) (n0 : Nat) (G : qM) (U : qW) (v0 : Int32) (v1 : Int32) (v2 : Int32) (v3 : Int32) : qm_run pm_m big m_201 (n0 + 2) 58 [(0, .ref 70), (1, .int v0), (2, .int (0 : Int32)), (3, .int v1), (4, .int v2), (5, .int v3), (6, .int (0 : Int32))] [] G U = qm_run pm_m big m_201 n0 61 [(0, .ref 70), (1, .int v0), (2, .int (0 : Int32)), (3, .int v1), (4, .int v2), (5, .int v3), (6, .int (0 : Int32)), (7, .int (0 : Int32))] [] G U := rfl
theorem sg_se_56 (big : Nat → List Value → qM → qW → qR) (n0 : Nat) (G : qM) (U : qW) (v0 : Int32) (v1 : Int32) (v2 : Int32) (v3 : Int32) (v4 : Int32) (v5 : Int32) : qm_run pm_m big m_201 (n0 + 2) 124 [(0, .ref 70), (1, .int v0), (2, .int (0 : Int32)), (3, .int v1), (4, .int v2), (5, .int v3), (6, .int v4), (7, .int v5)] [] G U = qm_run pm_m big m_201 n0 127 [(0, .ref 70), (1, .int v0), (2, .int (0 : Int32)), (3, .int v1), (4, .int v2), (5, .int v3), (6, .int v4), (7, .int v5)] [.int v1, .int v4] G U := rfl
theorem sg_se_57 (big : Nat → List Value → qM → qW → qR) (n0 : Nat) (G : qM) (U : qW) (v0 : Int32) (v1 : Int32) (v2 : Int32) (v3 : Int32) (v4 : Int32) (v5 : Int32) : qm_run pm_m big m_201 (n0 + 2) 145 [(0, .ref 70), (1, .int v0), (2, .int (0 : Int32)), (3, .int v1), (4, .int v2), (5, .int v3), (6, .int v4), (7, .int v5)] [] G U = qm_run pm_m big m_201 n0 39 [(0, .ref 70), (1, .int v0), (2, .int (0 : Int32)), (3, .int v1), (4, .int v2), (5, .int (v3 + (1 : Int32))), (6, .int v4), (7, .int v5)] [] G U := rfl
theorem sg_se_58 (big : Nat → List Value → qM → qW → qR) (n0 : Nat) (G : qM) (U : qW) (v0 : Int32) (v1 : Int32) (v2 : Int32) (v3 : Int32) (v4 : Int32) (v5 : Int32) : qm_run pm_m big m_201 (n0 + 2) 130 [(0, .ref 70), (1, .int v0), (2, .int (0 : Int32)), (3, .int v1), (4, .int v2), (5, .int v3), (6, .int v4), (7, .int v5)] [] G U = qm_run pm_m big m_201 n0 132 [(0, .ref 70), (1, .int v0), (2, .int (0 : Int32)), (3, .int v1), (4, .int v2), (5, .int v3), (6, .int v4), (7, .int v5)] [.int v0, .ref 70] G U := rfl
theorem sg_se_59 (big : Nat → List Value → qM → qW → qR) (n0 : Nat) (G : qM) (U : qW) (v0 : Int32) (v1 : Int32) (v2 : Int32) (v3 : Int32) (v4 : Int32) (v5 : Int32) : qm_run pm_m big m_201 (n0 + 3) 135 [(0, .ref 70), (1, .int v0), (2, .int (0 : Int32)), (3, .int v1), (4, .int v2), (5, .int v3), (6, .int v4), (7, .int v5)] [.int (0 : Int32)] G U = qm_run pm_m big m_201 n0 39 [(0, .ref 70), (1, .int v0), (2, .int (0 : Int32)), (3, .int v1), (4, .int v2), (5, .int (v3 + (1 : Int32))), (6, .int v4), (7, .int v5)] [] G U := rfl
theorem sg_se_60 (big : Nat → List Value → qM → qW → qR) (n0 : Nat) (G : qM) (U : qW) (v0 : Int32) (v1 : Int32) (v2 : Int32) (v3 : Int32) (v4 : Int32) (v5 : Int32) : qm_run pm_m big m_201 (n0 + 7) 135 [(0, .ref 70), (1, .int v0), (2, .int (0 : Int32)), (3, .int v1), (4, .int v2), (5, .int v3), (6, .int v4), (7, .int v5)] [.int (1 : Int32)] G U = qm_run pm_m big m_201 n0 39 [(0, .ref 70), (1, .int v0), (2, .int (0 : Int32)), (3, .int v4), (4, .int v3), (5, .int (v3 + (1 : Int32))), (6, .int v4), (7, .int v5)] [] G U := rfl
theorem sg_se_61 (big : Nat → List Value → qM → qW → qR) (n0 : Nat) (G : qM) (U : qW) (v0 : Int32) : qm_run pm_m big m_201 (n0 + 4) 0 [(0, .ref 70), (1, .int v0), (2, .int (0 : Int32))] [] G U = qm_run pm_m big m_201 n0 6 [(0, .ref 70), (1, .int v0), (2, .int (0 : Int32))] [.long (12 : Int64), .long (0 : Int64), .long (Int32.toInt64 v0)] G U := rfl
theorem sg_se_62 (big : Nat → List Value → qM → qW → qR) (n0 : Nat) (G : qM) (U : qW) (v0 : Int32) : qm_run pm_m big m_201 (n0 + 9) 9 [(0, .ref 70), (1, .int v0), (2, .int (0 : Int32))] [.int (1 : Int32)] G U = qm_run pm_m big m_201 n0 39 [(0, .ref 70), (1, .int v0), (2, .int (0 : Int32)), (3, .int (1000000 : Int32)), (4, .int (Int8.toInt32 (Int8.ofInt (-4)))), (5, .int (0 : Int32))] [] G U := rfl
theorem sg_se_63 (big : Nat → List Value → qM → qW → qR) (n0 : Nat) (G : qM) (U : qW) (v0 : Int32) (v1 : Int32) (v2 : Int32) (v3 : Int32) (v4 : Int32) (v5 : Int32) (v6 : Int32) : qm_run pm_m big m_201 (n0 + 3) 61 [(0, .ref 70), (1, .int v0), (2, .int v1), (3, .int v2), (4, .int v3), (5, .int v4), (6, .int v5), (7, .int v6)] [] G U = qm_run pm_m big m_201 n0 67 [(0, .ref 70), (1, .int v0), (2, .int v1), (3, .int v2), (4, .int v3), (5, .int v4), (6, .int v5), (7, .int v6)] [.int (G 70 4), .int v6] G U := rfl
theorem sg_se_64 (big : Nat → List Value → qM → qW → qR) (n0 : Nat) (G : qM) (U : qW) (v0 : Int32) (v1 : Int32) (v2 : Int32) (v3 : Int32) (v4 : Int32) (v5 : Int32) (v6 : Int32) : qm_run pm_m big m_201 (n0 + 4) 70 [(0, .ref 70), (1, .int v0), (2, .int v1), (3, .int v2), (4, .int v3), (5, .int v4), (6, .int v5), (7, .int v6)] [] G U = qm_run pm_m big m_201 n0 77 [(0, .ref 70), (1, .int v0), (2, .int v1), (3, .int v2), (4, .int v3), (5, .int v4), (6, .int v5), (7, .int v6)] [.int v6, .int v4, .ref 70, .int v5] G U := rfl
theorem sg_se_65 (big : Nat → List Value → qM → qW → qR) (n0 : Nat) (G : qM) (U : qW) (v0 : Int32) (v1 : Int32) (v2 : Int32) (v3 : Int32) (v4 : Int32) (v5 : Int32) (v6 : Int32) (v7 : Int32) (v8 : Int32) : qm_run pm_m big m_201 (n0 + 5) 80 [(0, .ref 70), (1, .int v0), (2, .int v1), (3, .int v2), (4, .int v3), (5, .int v4), (6, .int v5), (7, .int v6)] [.int v8, .int v7] G U = qm_run pm_m big m_201 n0 88 [(0, .ref 70), (1, .int v0), (2, .int v1), (3, .int v2), (4, .int v3), (5, .int v4), (6, .int v5), (7, .int v6)] [.int ((5 : Int32) + v6), .ref 71, .int v8, .int v7] G U := rfl
theorem sg_se_66 (big : Nat → List Value → qM → qW → qR) (n0 : Nat) (G : qM) (U : qW) (v0 : Int32) (v1 : Int32) (v2 : Int32) (v3 : Int32) (v4 : Int32) (v5 : Int32) (v6 : Int32) (v7 : Int32) : qm_run pm_m big m_201 (n0 + 1) 96 [(0, .ref 70), (1, .int v0), (2, .int v1), (3, .int v2), (4, .int v3), (5, .int v4), (6, .int v5), (7, .int v6)] [.int v7] G U = qm_run pm_m big m_201 n0 97 [(0, .ref 70), (1, .int v0), (2, .int v1), (3, .int v2), (4, .int v3), (5, .int v4), (6, .int v5), (7, .int v6)] [.int (0 : Int32), .int v7] G U := rfl
theorem sg_se_67 (big : Nat → List Value → qM → qW → qR) (n0 : Nat) (G : qM) (U : qW) (v0 : Int32) (v1 : Int32) (v2 : Int32) (v3 : Int32) (v4 : Int32) (v5 : Int32) (v6 : Int32) (v7 : Int32) : qm_run pm_m big m_201 (n0 + 8) 100 [(0, .ref 70), (1, .int v0), (2, .int v1), (3, .int v2), (4, .int v3), (5, .int v4), (6, .int v5), (7, .int v6)] [.int (0 : Int32), .int v7] G U = qm_run pm_m big m_201 n0 114 [(0, .ref 70), (1, .int v0), (2, .int v1), (3, .int v2), (4, .int v3), (5, .int v4), (6, .int (v7 + (0 : Int32))), (7, .int v6)] [.int v6, .int v4, .ref 70, .int v6, .ref 76] G U := rfl
theorem sg_se_68 (big : Nat → List Value → qM → qW → qR) (n0 : Nat) (G : qM) (U : qW) (v0 : Int32) (v1 : Int32) (v2 : Int32) (v3 : Int32) (v4 : Int32) (v5 : Int32) (v6 : Int32) : qm_run pm_m big m_201 (n0 + 2) 118 [(0, .ref 70), (1, .int v0), (2, .int v1), (3, .int v2), (4, .int v3), (5, .int v4), (6, .int v5), (7, .int v6)] [] G U = qm_run pm_m big m_201 n0 61 [(0, .ref 70), (1, .int v0), (2, .int v1), (3, .int v2), (4, .int v3), (5, .int v4), (6, .int v5), (7, .int (v6 + (1 : Int32)))] [] G U := rfl
theorem sg_se_69 (big : Nat → List Value → qM → qW → qR) (n0 : Nat) (G : qM) (U : qW) (v0 : Int32) (v1 : Int32) (v2 : Int32) (v3 : Int32) (v4 : Int32) (v5 : Int32) (v6 : Int32) (v7 : Int32) : qm_run pm_m big m_201 (n0 + 2) 92 [(0, .ref 70), (1, .int v0), (2, .int v1), (3, .int v2), (4, .int v3), (5, .int v4), (6, .int v5), (7, .int v6)] [.int v7] G U = qm_run pm_m big m_201 n0 97 [(0, .ref 70), (1, .int v0), (2, .int v1), (3, .int v2), (4, .int v3), (5, .int v4), (6, .int v5), (7, .int v6)] [.int (1 : Int32), .int v7] G U := rfl
theorem sg_se_70 (big : Nat → List Value → qM → qW → qR) (n0 : Nat) (G : qM) (U : qW) (v0 : Int32) (v1 : Int32) (v2 : Int32) (v3 : Int32) (v4 : Int32) (v5 : Int32) (v6 : Int32) (v7 : Int32) : qm_run pm_m big m_201 (n0 + 8) 100 [(0, .ref 70), (1, .int v0), (2, .int v1), (3, .int v2), (4, .int v3), (5, .int v4), (6, .int v5), (7, .int v6)] [.int (1 : Int32), .int v7] G U = qm_run pm_m big m_201 n0 114 [(0, .ref 70), (1, .int v0), (2, .int v1), (3, .int v2), (4, .int v3), (5, .int v4), (6, .int (v7 + (1 : Int32))), (7, .int v6)] [.int v6, .int v4, .ref 70, .int v6, .ref 76] G U := rfl
theorem sg_se_71 (big : Nat → List Value → qM → qW → qR) (n0 : Nat) (G : qM) (U : qW) (v0 : Int32) (v1 : Int32) (v2 : Int32) (v3 : Int32) (v4 : Int32) : qm_run pm_m big m_201 (n0 + 3) 39 [(0, .ref 70), (1, .int v0), (2, .int v1), (3, .int v2), (4, .int v3), (5, .int v4)] [] G U = qm_run pm_m big m_201 n0 45 [(0, .ref 70), (1, .int v0), (2, .int v1), (3, .int v2), (4, .int v3), (5, .int v4)] [.int (G 70 4), .int v4] G U := rfl
theorem sg_se_72 (big : Nat → List Value → qM → qW → qR) (n0 : Nat) (G : qM) (U : qW) (v0 : Int32) (v1 : Int32) (v2 : Int32) (v3 : Int32) (v4 : Int32) : qm_run pm_m big m_201 (n0 + 2) 151 [(0, .ref 70), (1, .int v0), (2, .int v1), (3, .int v2), (4, .int v3), (5, .int v4)] [] G U = qm_run pm_m big m_201 n0 155 [(0, .ref 70), (1, .int v0), (2, .int v1), (3, .int v2), (4, .int v3), (5, .int v4)] [.int (Int8.toInt32 (Int8.ofInt (-4))), .int v3] G U := rfl
theorem sg_se_73 (big : Nat → List Value → qM → qW → qR) (n0 : Nat) (G : qM) (U : qW) (v0 : Int32) (v1 : Int32) (v2 : Int32) (v3 : Int32) (v4 : Int32) : qm_run pm_m big m_201 (n0 + 1) 163 [(0, .ref 70), (1, .int v0), (2, .int v1), (3, .int v2), (4, .int v3), (5, .int v4)] [] G U = qm_run pm_m big m_201 n0 164 [(0, .ref 70), (1, .int v0), (2, .int v1), (3, .int v2), (4, .int v3), (5, .int v4)] [.int v1] G U := rfl
theorem sg_se_74 (big : Nat → List Value → qM → qW → qR) (n0 : Nat) (G : qM) (U : qW) (v0 : Int32) (v1 : Int32) (v2 : Int32) (v3 : Int32) (v4 : Int32) : qm_run pm_m big m_201 (n0 + 5) 171 [(0, .ref 70), (1, .int v0), (2, .int v1), (3, .int v2), (4, .int v3), (5, .int v4)] [] G U = qm_run pm_m big m_201 n0 178 [(0, .ref 70), (1, .int v0), (2, .int v1), (3, .int v2), (4, .int v3), (5, .int v4)] [.int (v1 - (10 : Int32)), .int v3, .ref 70] G U := rfl
theorem sg_se_75 (big : Nat → List Value → qM → qW → qR) (n0 : Nat) (G : qM) (U : qW) (v0 : Int32) (v1 : Int32) (v2 : Int32) (v3 : Int32) (v4 : Int32) : qm_run pm_m big m_201 (n0 + 3) 51 [(0, .ref 70), (1, .int v0), (2, .int v1), (3, .int v2), (4, .int v3), (5, .int v4)] [] G U = qm_run pm_m big m_201 n0 55 [(0, .ref 70), (1, .int v0), (2, .int v1), (3, .int v2), (4, .int v3), (5, .int v4), (6, .int (0 : Int32))] [.ref 70] G U := rfl
theorem sg_se_76 (big : Nat → List Value → qM → qW → qR) (n0 : Nat) (G : qM) (U : qW) (v0 : Int32) (v1 : Int32) (v2 : Int32) (v3 : Int32) (v4 : Int32) : qm_run pm_m big m_201 (n0 + 2) 58 [(0, .ref 70), (1, .int v0), (2, .int v1), (3, .int v2), (4, .int v3), (5, .int v4), (6, .int (0 : Int32))] [] G U = qm_run pm_m big m_201 n0 61 [(0, .ref 70), (1, .int v0), (2, .int v1), (3, .int v2), (4, .int v3), (5, .int v4), (6, .int (0 : Int32)), (7, .int (0 : Int32))] [] G U := rfl
theorem sg_se_77 (big : Nat → List Value → qM → qW → qR) (n0 : Nat) (G : qM) (U : qW) (v0 : Int32) (v1 : Int32) (v2 : Int32) (v3 : Int32) (v4 : Int32) (v5 : Int32) (v6 : Int32) : qm_run pm_m big m_201 (n0 + 2) 124 [(0, .ref 70), (1, .int v0), (2, .int v1), (3, .int v2), (4, .int v3), (5, .int v4), (6, .int v5), (7, .int v6)] [] G U = qm_run pm_m big m_201 n0 127 [(0, .ref 70), (1, .int v0), (2, .int v1), (3, .int v2), (4, .int v3), (5, .int v4), (6, .int v5), (7, .int v6)] [.int v2, .int v5] G U := rfl
theorem sg_se_78 (big : Nat → List Value → qM → qW → qR) (n0 : Nat) (G : qM) (U : qW) (v0 : Int32) (v1 : Int32) (v2 : Int32) (v3 : Int32) (v4 : Int32) (v5 : Int32) (v6 : Int32) : qm_run pm_m big m_201 (n0 + 2) 145 [(0, .ref 70), (1, .int v0), (2, .int v1), (3, .int v2), (4, .int v3), (5, .int v4), (6, .int v5), (7, .int v6)] [] G U = qm_run pm_m big m_201 n0 39 [(0, .ref 70), (1, .int v0), (2, .int v1), (3, .int v2), (4, .int v3), (5, .int (v4 + (1 : Int32))), (6, .int v5), (7, .int v6)] [] G U := rfl
theorem sg_se_79 (big : Nat → List Value → qM → qW → qR) (n0 : Nat) (G : qM) (U : qW) (v0 : Int32) (v1 : Int32) (v2 : Int32) (v3 : Int32) (v4 : Int32) (v5 : Int32) (v6 : Int32) : qm_run pm_m big m_201 (n0 + 2) 130 [(0, .ref 70), (1, .int v0), (2, .int v1), (3, .int v2), (4, .int v3), (5, .int v4), (6, .int v5), (7, .int v6)] [] G U = qm_run pm_m big m_201 n0 132 [(0, .ref 70), (1, .int v0), (2, .int v1), (3, .int v2), (4, .int v3), (5, .int v4), (6, .int v5), (7, .int v6)] [.int v0, .ref 70] G U := rfl
theorem sg_se_80 (big : Nat → List Value → qM → qW → qR) (n0 : Nat) (G : qM) (U : qW) (v0 : Int32) (v1 : Int32) (v2 : Int32) (v3 : Int32) (v4 : Int32) (v5 : Int32) (v6 : Int32) : qm_run pm_m big m_201 (n0 + 3) 135 [(0, .ref 70), (1, .int v0), (2, .int v1), (3, .int v2), (4, .int v3), (5, .int v4), (6, .int v5), (7, .int v6)] [.int (0 : Int32)] G U = qm_run pm_m big m_201 n0 39 [(0, .ref 70), (1, .int v0), (2, .int v1), (3, .int v2), (4, .int v3), (5, .int (v4 + (1 : Int32))), (6, .int v5), (7, .int v6)] [] G U := rfl
theorem sg_se_81 (big : Nat → List Value → qM → qW → qR) (n0 : Nat) (G : qM) (U : qW) (v0 : Int32) (v1 : Int32) (v2 : Int32) (v3 : Int32) (v4 : Int32) (v5 : Int32) (v6 : Int32) : qm_run pm_m big m_201 (n0 + 7) 135 [(0, .ref 70), (1, .int v0), (2, .int v1), (3, .int v2), (4, .int v3), (5, .int v4), (6, .int v5), (7, .int v6)] [.int (1 : Int32)] G U = qm_run pm_m big m_201 n0 39 [(0, .ref 70), (1, .int v0), (2, .int v1), (3, .int v5), (4, .int v4), (5, .int (v4 + (1 : Int32))), (6, .int v5), (7, .int v6)] [] G U := rfl
theorem sg_se_82 (big : Nat → List Value → qM → qW → qR) (n0 : Nat) (G : qM) (U : qW) (v0 : Int32) (v1 : Int32) : qm_run pm_m big m_201 (n0 + 4) 0 [(0, .ref 70), (1, .int v0), (2, .int v1)] [] G U = qm_run pm_m big m_201 n0 6 [(0, .ref 70), (1, .int v0), (2, .int v1)] [.long (12 : Int64), .long (0 : Int64), .long (Int32.toInt64 v0)] G U := rfl
theorem sg_se_83 (big : Nat → List Value → qM → qW → qR) (n0 : Nat) (G : qM) (U : qW) (v0 : Int32) (v1 : Int32) : qm_run pm_m big m_201 (n0 + 2) 9 [(0, .ref 70), (1, .int v0), (2, .int v1)] [.int (1 : Int32)] G U = qm_run pm_m big m_201 n0 13 [(0, .ref 70), (1, .int v0), (2, .int v1)] [.int v1] G U := rfl
theorem sg_se_84 (big : Nat → List Value → qM → qW → qR) (n0 : Nat) (G : qM) (U : qW) (v0 : Int32) (v1 : Int32) : qm_run pm_m big m_201 (n0 + 4) 16 [(0, .ref 70), (1, .int v0), (2, .int v1)] [] G U = qm_run pm_m big m_201 n0 21 [(0, .ref 70), (1, .int v0), (2, .int v1)] [.int (v1 - (10 : Int32)), .ref 70] G U := rfl
theorem sg_se_85 (big : Nat → List Value → qM → qW → qR) (n0 : Nat) (G : qM) (U : qW) (v0 : Int32) (v1 : Int32) : qm_run pm_m big m_201 (n0 + 7) 24 [(0, .ref 70), (1, .int v0), (2, .int v1)] [.int (1 : Int32)] G U = qm_run pm_m big m_201 n0 39 [(0, .ref 70), (1, .int v0), (2, .int v1), (3, .int (1000000 : Int32)), (4, .int (Int8.toInt32 (Int8.ofInt (-4)))), (5, .int (0 : Int32))] [] G U := rfl
theorem b_dig (x y z : Int32) (g : qM) (u : qW) : q_BS 96 [.int x, .int y, .int z] g u (some (.int (s_dg x z y)), g, u) := by
  refine q_bx (mm := m_96) rfl (Nat.le_of_ble_eq_true rfl) rfl ?_
  refine q_ret 12 (some (.int ((x >>> (((2 : Int32) * ((z - (1 : Int32)) - y)) &&& 31)) &&& (3 : Int32))), g, u) (fun _ _ => rfl) ?_
  rfl
theorem b_mir20 (x y : Int32) (g : qM) (u : qW) : q_BS 95 [.ref 20, .int x, .int y] g u (some (.int (s_dg x (g 20 3) y)), g, u) := by
  refine q_bx (mm := m_95) rfl (Nat.le_of_ble_eq_true rfl) rfl ?_
  refine q_step 4 6 [(0, .ref 20), (1, .int x), (2, .int y)] [.int (g 20 3), .int y, .int x] g u (fun big n0 => sg_se_1 big n0 g u x y) ?_
  refine q_call (M2 := 96) (rest := []) (b_dig _ _ _ _ _) (fun _ _ => rfl) ?_
  refine q_ret 1 (some (.int (s_dg x (g 20 3) y)), g, u) (fun _ _ => rfl) ?_
  rfl
theorem b_mir35 (x y : Int32) (g : qM) (u : qW) : q_BS 95 [.ref 35, .int x, .int y] g u (some (.int (s_dg x (g 35 3) y)), g, u) := by
  refine q_bx (mm := m_95) rfl (Nat.le_of_ble_eq_true rfl) rfl ?_
  refine q_step 4 6 [(0, .ref 35), (1, .int x), (2, .int y)] [.int (g 35 3), .int y, .int x] g u (fun big n0 => sg_se_2 big n0 g u x y) ?_
  refine q_call (M2 := 96) (rest := []) (b_dig _ _ _ _ _) (fun _ _ => rfl) ?_
  refine q_ret 1 (some (.int (s_dg x (g 35 3) y)), g, u) (fun _ _ => rfl) ?_
  rfl
theorem b_rows (x : Int32) (g : qM) (u : qW) : q_BS 93 [.int x] g u (some (.int (s_rows x)), g, u) := by
  refine q_bx (mm := m_93) rfl (Nat.le_of_ble_eq_true rfl) rfl ?_
  refine q_ret 6 (some (.int ((1 : Int32) <<< (((2 : Int32) * x) &&& 31))), g, u) (fun _ _ => rfl) ?_
  rfl
theorem b_rrows (x : Int32) (g : qM) (u : qW) : q_BS 202 [.int x] g u (some (.int (s_rows x)), g, u) := by
  refine q_bx (mm := m_202) rfl (Nat.le_of_ble_eq_true rfl) rfl ?_
  refine q_ret 6 (some (.int ((1 : Int32) <<< (((2 : Int32) * x) &&& 31))), g, u) (fun _ _ => rfl) ?_
  rfl
theorem b_mby (x y : Int32) (g : qM) (u : qW) : q_BS 203 [.ref 70, .int x, .int y] g u (some (.int (s_dg x (g 70 4) y)), g, u) := by
  refine q_bx (mm := m_203) rfl (Nat.le_of_ble_eq_true rfl) rfl ?_
  refine q_ret 13 (some (.int ((x >>> (((2 : Int32) * (((g 70 4) - (1 : Int32)) - y)) &&& 31)) &&& (3 : Int32))), g, u) (fun _ _ => rfl) ?_
  rfl
theorem un_l (x : Int32) (g : qM) (u : qW) {n : Nat} (hn : g 20 3 = Int32.ofNat n) (h6 : n ≤ 6) : ∀ k i a, i + k = n → q_EV m_94 4 [(0, .ref 20), (1, .int x), (2, .int a), (3, .int (Int32.ofNat i))] [] g u (fun R => R = (some (.int (s_ct (p_unc g x) k i a)), g, u)) := by
  intro k
  induction k with
  | zero =>
    intro i a hi
    refine q_step 3 9 [(0, .ref 20), (1, .int x), (2, .int a), (3, .int (Int32.ofNat i))] [.int (g 20 3), .int (Int32.ofNat i)] g u (fun big n0 => sg_se_3 big n0 g u x a (Int32.ofNat i)) ?_
    refine q_ic_ge rfl (fun (hc0 : (g 20 3) ≤ (Int32.ofNat i)) => ?_) (fun hc0 => absurd (show (g 20 3) ≤ (Int32.ofNat i) from by rw [hn]; exact (q_le (by omega) (by omega)).mpr (by omega)) hc0)
    refine q_ret 2 (some (.int a), g, u) (fun _ _ => rfl) ?_
    rfl
  | succ k ih =>
    intro i a hi
    refine q_step 3 9 [(0, .ref 20), (1, .int x), (2, .int a), (3, .int (Int32.ofNat i))] [.int (g 20 3), .int (Int32.ofNat i)] g u (fun big n0 => sg_se_3 big n0 g u x a (Int32.ofNat i)) ?_
    refine q_ic_ge rfl (fun hc0 => absurd (show (g 20 3) ≤ (Int32.ofNat i) from hc0) (fun z => by rw [hn] at z; exact absurd ((q_le (by omega) (by omega)).mp z) (by omega))) (fun (hc0 : ¬ ((g 20 3) ≤ (Int32.ofNat i))) => ?_)
    refine q_step 4 18 [(0, .ref 20), (1, .int x), (2, .int a), (3, .int (Int32.ofNat i))] [.int (Int32.ofNat i), .ref 22, .int a] g u (fun big n0 => sg_se_4 big n0 g u x a (Int32.ofNat i)) ?_
    refine q_iald (j := i) (q_ixn (by omega) (by omega)) rfl rfl ?_
    refine q_step 3 22 [(0, .ref 20), (1, .int x), (2, .int a), (3, .int (Int32.ofNat i))] [.int (Int32.ofNat i), .int x, .ref 20, .int (g 22 i), .int a] g u (fun big n0 => sg_se_5 big n0 g u x a (Int32.ofNat i) a (g 22 i)) ?_
    refine q_call (M2 := 95) (rest := [.int (g 22 i), .int a]) (b_mir20 x (Int32.ofNat i) g u) (fun _ _ => rfl) ?_
    refine q_ic_eq rfl (fun (hc1 : (g 22 i) = (s_dg x (g 20 3) (Int32.ofNat i))) => ?_) (fun (hc1 : ¬ ((g 22 i) = (s_dg x (g 20 3) (Int32.ofNat i)))) => ?_)
    · refine q_step 5 4 [(0, .ref 20), (1, .int x), (2, .int (a + (0 : Int32))), (3, .int ((Int32.ofNat i) + (1 : Int32)))] [] g u (fun big n0 => sg_se_6 big n0 g u x a (Int32.ofNat i) a) ?_
      rw [s_ct_s (P := p_unc g x) (i := i) (by unfold p_unc; exact if_pos hc1), q_succ]
      exact ih (i + 1) _ (by omega)
    · refine q_step 6 4 [(0, .ref 20), (1, .int x), (2, .int (a + (1 : Int32))), (3, .int ((Int32.ofNat i) + (1 : Int32)))] [] g u (fun big n0 => sg_se_7 big n0 g u x a (Int32.ofNat i) a) ?_
      rw [s_ct_s (P := p_unc g x) (i := i) (by unfold p_unc; exact if_neg hc1), q_succ]
      exact ih (i + 1) _ (by omega)
theorem b_un (x : Int32) (g : qM) (u : qW) {n : Nat} (hn : g 20 3 = Int32.ofNat n) (h6 : n ≤ 6) : q_BS 94 [.ref 20, .int x] g u (some (.int (s_ct (p_unc g x) n 0 0)), g, u) := by
  refine q_bx (mm := m_94) rfl (Nat.le_of_ble_eq_true rfl) rfl ?_
  refine q_step 4 4 [(0, .ref 20), (1, .int x), (2, .int (0 : Int32)), (3, .int (0 : Int32))] [] g u (fun big n0 => sg_se_8 big n0 g u x) ?_
  exact un_l x g u hn h6 n 0 0 (by omega)
theorem c_un {n W H row : Nat} {g r : qM} (u : qW) (h : w_ok n W H r) (hc : w_cs 20 n g r) : q_BS 94 [.ref 20, .int (Int32.ofNat row)] g u (some (.int (Int32.ofNat (n_un n r row))), g, u) := by
  have e := b_un (Int32.ofNat row) g u (hc.1.1.trans h.2.1) h.1.2.2.2.2
  rw [w_un_c h hc] at e
  exact e
theorem sm_l (g : qM) (u : qW) {n row : Nat} (hn : g 35 3 = Int32.ofNat n) (h6 : n ≤ 6) : ∀ k i, i + k = n → q_EV m_98 2 [(0, .ref 35), (1, .int (Int32.ofNat row)), (2, .int (Int32.ofNat i))] [] (s_row_ 37 (f_md n row) i g) u (fun R => R = (none, s_row_ 37 (f_md n row) n g, u)) := by
  intro k
  induction k with
  | zero =>
    intro i hi
    refine q_step 3 7 [(0, .ref 35), (1, .int (Int32.ofNat row)), (2, .int (Int32.ofNat i))] [.int (g 35 3), .int (Int32.ofNat i)] (s_row_ 37 (f_md n row) i g) u (fun big n0 => sg_se_9 big n0 (s_row_ 37 (f_md n row) i g) u (Int32.ofNat row) (Int32.ofNat i)) ?_
    refine q_ic_ge rfl (fun (hc0 : (g 35 3) ≤ (Int32.ofNat i)) => ?_) (fun hc0 => absurd (show (g 35 3) ≤ (Int32.ofNat i) from by rw [hn]; exact (q_le (by omega) (by omega)).mpr (by omega)) hc0)
    refine q_ret 1 (none, (s_row_ 37 (f_md n row) i g), u) (fun _ _ => rfl) ?_
    rw [show i = n by omega]
  | succ k ih =>
    intro i hi
    refine q_step 3 7 [(0, .ref 35), (1, .int (Int32.ofNat row)), (2, .int (Int32.ofNat i))] [.int (g 35 3), .int (Int32.ofNat i)] (s_row_ 37 (f_md n row) i g) u (fun big n0 => sg_se_9 big n0 (s_row_ 37 (f_md n row) i g) u (Int32.ofNat row) (Int32.ofNat i)) ?_
    refine q_ic_ge rfl (fun hc0 => absurd (show (g 35 3) ≤ (Int32.ofNat i) from hc0) (fun z => by rw [hn] at z; exact absurd ((q_le (by omega) (by omega)).mp z) (by omega))) (fun (hc0 : ¬ ((g 35 3) ≤ (Int32.ofNat i))) => ?_)
    refine q_step 6 18 [(0, .ref 35), (1, .int (Int32.ofNat row)), (2, .int (Int32.ofNat i))] [.int (Int32.ofNat i), .int (Int32.ofNat row), .ref 35, .int (Int32.ofNat i), .ref 37] (s_row_ 37 (f_md n row) i g) u (fun big n0 => sg_se_10 big n0 (s_row_ 37 (f_md n row) i g) u (Int32.ofNat row) (Int32.ofNat i)) ?_
    have e := b_mir35 (Int32.ofNat row) (Int32.ofNat i) (s_row_ 37 (f_md n row) i g) u
    rw [show (s_row_ 37 (f_md n row) i g) 35 3 = Int32.ofNat n from hn] at e
    refine q_call (M2 := 95) (rest := [.int (Int32.ofNat i), .ref 37]) (e) (fun _ _ => rfl) ?_
    refine q_iast (j := i) (q_ixn (by omega) (by omega)) rfl rfl ?_
    refine q_step 2 2 [(0, .ref 35), (1, .int (Int32.ofNat row)), (2, .int ((Int32.ofNat i) + (1 : Int32)))] [] (q_up (s_row_ 37 (f_md n row) i g) 37 i (f_md n row i)) u (fun big n0 => sg_se_11 big n0 (q_up (s_row_ 37 (f_md n row) i g) 37 i (f_md n row i)) u (Int32.ofNat row) (Int32.ofNat i)) ?_
    rw [q_succ, show q_up (s_row_ 37 (f_md n row) i g) 37 i (f_md n row i) = s_row_ 37 (f_md n row) (i + 1) g from s_row_s]
    exact ih (i + 1) (by omega)
theorem b_sm (g : qM) (u : qW) {n row : Nat} (hn : g 35 3 = Int32.ofNat n) (h6 : n ≤ 6) : q_BS 98 [.ref 35, .int (Int32.ofNat row)] g u (none, s_row_ 37 (f_md n row) n g, u) := by
  refine q_bx (mm := m_98) rfl (Nat.le_of_ble_eq_true rfl) rfl ?_
  refine q_step 2 2 [(0, .ref 35), (1, .int (Int32.ofNat row)), (2, .int (0 : Int32))] [] g u (fun big n0 => sg_se_12 big n0 g u (Int32.ofNat row)) ?_
  have e := sm_l g u (row := row) hn h6 n 0 (by omega)
  rw [s_row_0] at e
  exact e
theorem c_all {n W H : Nat} {g r : qM} (u : qW) (h : w_ok n W H r) (hc : w_cs 35 n g r) (hg : ∀ p, p < n → g 39 p = r 78 p) : q_BS 99 [.ref 35] g u (some (.int (if f_at n r = f_hav n r then (1 : Int32) else 0)), g, u) := by
  refine q_bx (mm := m_99) rfl (Nat.le_of_ble_eq_true rfl) rfl ?_
  refine q_step 1 1 [(0, .ref 35)] [.ref 35] g u (fun big n0 => sg_se_13 big n0 g u) ?_
  have hag := b_atg35 g u (hc.1.1.trans h.2.1) h.1.2.2.2.2
  rw [w_at_c (T := 35) h hc hg] at hag
  refine q_call (M2 := 78) (rest := []) (hag) (fun _ _ => rfl) ?_
  refine q_step 1 5 [(0, .ref 35)] [.ref 35, .int (f_at n r)] g u (fun big n0 => sg_se_14 big n0 g u (f_at n r)) ?_
  have hwg := b_wig35 g u (hc.1.1.trans h.2.1) h.1.2.2.2.2
  rw [w_hav_c (T := 35) (r := r) hg] at hwg
  refine q_call (M2 := 100) (rest := [.int (f_at n r)]) (hwg) (fun _ _ => rfl) ?_
  refine q_ic_ne rfl (fun (hc0 : (f_at n r) = (f_hav n r)) => ?_) (fun (hc0 : ¬ ((f_at n r) = (f_hav n r))) => ?_)
  · refine q_ret 3 (some (.int (1 : Int32)), g, u) (fun _ _ => rfl) ?_
    rw [if_pos hc0]
  · refine q_ret 2 (some (.int (0 : Int32)), g, u) (fun _ _ => rfl) ?_
    rw [if_neg hc0]
theorem c_rg {n W H m row : Nat} {g r : qM} (u : qW) (h : w_ok n W H r) (hm : m ≤ 60) (hc : w_cs 20 n g r) (ht : w_tr n g r) (hg : ∀ p, p < n → g 39 p = r 78 p) : q_BS 97 [.ref 34, .ref 20, .int (Int32.ofNat row), .int (Int32.ofNat m)] g u (some (.int (p_rch n m r row)), (s_rgg n m row g), u) := by
  refine q_bx (mm := m_97) rfl (Nat.le_of_ble_eq_true rfl) rfl ?_
  have hy := w_cpl h.1.2.2.2.2 hc ht
  refine q_step 3 5 [(0, .ref 34), (1, .ref 20), (2, .int (Int32.ofNat row)), (3, .int (Int32.ofNat m))] [.ref 20, .ref 35] g u (fun big n0 => sg_se_15 big n0 g u (Int32.ofNat row) (Int32.ofNat m)) ?_
  refine q_call (M2 := 42) (rest := []) (b_cpl35_20 _ _) (fun _ _ => rfl) ?_
  refine q_step 3 13 [(0, .ref 34), (1, .ref 20), (2, .int (Int32.ofNat row)), (3, .int (Int32.ofNat m))] [.int (Int32.ofNat row), .ref 35] (s_cpl 35 20 g) u (fun big n0 => sg_se_16 big n0 (s_cpl 35 20 g) u (Int32.ofNat row) (Int32.ofNat m)) ?_
  refine q_call (M2 := 98) (rest := []) (b_sm (row := row) (s_cpl 35 20 g) u (hy.1.1.trans h.2.1) h.1.2.2.2.2) (fun _ _ => rfl) ?_
  refine q_step 5 25 [(0, .ref 34), (1, .ref 20), (2, .int (Int32.ofNat row)), (3, .int (Int32.ofNat m))] [.int (Int32.ofNat m), .ref 35, .ref 28] (s_rgm n row g) u (fun big n0 => sg_se_17 big n0 (s_rgm n row g) u (Int32.ofNat row) (Int32.ofNat m)) ?_
  refine q_call (M2 := 76) (rest := []) (c_tss35 u (w_ok_mo h) (w_cs_mo hy) hm) (fun _ _ => rfl) ?_
  refine q_step 2 32 [(0, .ref 34), (1, .ref 20), (2, .int (Int32.ofNat row)), (3, .int (Int32.ofNat m))] [.ref 35] (s_rgg n m row g) u (fun big n0 => sg_se_18 big n0 (s_rgg n m row g) u (Int32.ofNat row) (Int32.ofNat m)) ?_
  have hal := c_all (g := (s_rgg n m row g)) u (w_ok_rit m _ (w_ok_mo (row := row) h)) (w_up35 (w_tss35 (w_ok_mo h) (w_cs_mo hy) m)) (fun p hp => by rw [s_rgg_go, s_rit_g (by omega)]; exact hg p hp)
  rw [f_hav_rit, show f_hav n (gh_mo n row r) = f_hav n r from rfl] at hal
  refine q_call (M2 := 99) (rest := []) (hal) (fun _ _ => rfl) ?_
  refine q_retb (p_rch_01 _ _ _ _) rfl rfl ?_
  rfl
theorem fc_in (u : qW) {n W H m : Nat} {r : qM} (h : w_ok n W H r) (hm : m ≤ 60) (h6 : n ≤ 6) (h4n : 4 ^ n ≤ 4096) {c : Nat} (hcn : c ≤ n) {Q : Option Value × qM × qW → Prop} : ∀ k row g, row + k = 4 ^ n → w_cs 20 n g r → w_tr n g r → (∀ p, p < n → g 39 p = r 78 p) → (f_si (n_un n r) (n_rch n m r) c k row = none → ∀ g2, w_fc g g2 → w_cs 20 n g2 r → w_tr n g2 r → (∀ p, p < n → g2 39 p = r 78 p) → q_EV m_92 63 [(0, .ref 34), (1, .ref 20), (2, .int (Int32.ofNat m)), (3, .int (Int32.ofNat c)), (4, .int (Int32.ofNat (4 ^ n)))] [] g2 u Q) → (∀ x g2, f_si (n_un n r) (n_rch n m r) c k row = some x → w_fc g g2 → Q (some (.int (Int32.ofNat x)), g2, u)) → q_EV m_92 21 [(0, .ref 34), (1, .ref 20), (2, .int (Int32.ofNat m)), (3, .int (Int32.ofNat c)), (4, .int (Int32.ofNat row))] [] g u Q := by
  intro k
  induction k with
  | zero =>
    intro row g hrow hc ht hg hk hs
    refine q_step 3 27 [(0, .ref 34), (1, .ref 20), (2, .int (Int32.ofNat m)), (3, .int (Int32.ofNat c)), (4, .int (Int32.ofNat row))] [.int (g 20 3), .int (Int32.ofNat row)] g u (fun big n0 => sg_se_19 big n0 g u (Int32.ofNat m) (Int32.ofNat c) (Int32.ofNat row)) ?_
    refine q_call (M2 := 93) (rest := [.int (Int32.ofNat row)]) (b_rows _ _ _) (fun _ _ => rfl) ?_
    refine q_ic_ge rfl (fun (hc0 : (s_rows (g 20 3)) ≤ (Int32.ofNat row)) => ?_) (fun hc0 => absurd (show (s_rows (g 20 3)) ≤ (Int32.ofNat row) from by rw [hc.1.1, h.2.1, s_rows_n h6]; exact (q_le (by omega) (by omega)).mpr (by omega)) hc0)
    have e : row = 4 ^ n := by omega
    rw [e]
    exact hk rfl g (w_fc_rfl g) hc ht hg
  | succ k ih =>
    intro row g hrow hc ht hg hk hs
    refine q_step 3 27 [(0, .ref 34), (1, .ref 20), (2, .int (Int32.ofNat m)), (3, .int (Int32.ofNat c)), (4, .int (Int32.ofNat row))] [.int (g 20 3), .int (Int32.ofNat row)] g u (fun big n0 => sg_se_19 big n0 g u (Int32.ofNat m) (Int32.ofNat c) (Int32.ofNat row)) ?_
    refine q_call (M2 := 93) (rest := [.int (Int32.ofNat row)]) (b_rows _ _ _) (fun _ _ => rfl) ?_
    refine q_ic_ge rfl (fun hc0 => absurd (show (s_rows (g 20 3)) ≤ (Int32.ofNat row) from hc0) (fun z => by rw [hc.1.1, h.2.1, s_rows_n h6] at z; exact absurd ((q_le (by omega) (by omega)).mp z) (by omega))) (fun (hc0 : ¬ ((s_rows (g 20 3)) ≤ (Int32.ofNat row))) => ?_)
    refine q_step 2 36 [(0, .ref 34), (1, .ref 20), (2, .int (Int32.ofNat m)), (3, .int (Int32.ofNat c)), (4, .int (Int32.ofNat row))] [.int (Int32.ofNat row), .ref 20] g u (fun big n0 => sg_se_20 big n0 g u (Int32.ofNat m) (Int32.ofNat c) (Int32.ofNat row)) ?_
    refine q_call (M2 := 94) (rest := []) (c_un u h hc) (fun _ _ => rfl) ?_
    refine q_step 1 40 [(0, .ref 34), (1, .ref 20), (2, .int (Int32.ofNat m)), (3, .int (Int32.ofNat c)), (4, .int (Int32.ofNat row))] [.int (Int32.ofNat c), .int (Int32.ofNat (n_un n r row))] g u (fun big n0 => sg_se_21 big n0 g u (Int32.ofNat m) (Int32.ofNat c) (Int32.ofNat row) (Int32.ofNat (n_un n r row))) ?_
    refine q_ic_ne rfl (fun (hc1 : (Int32.ofNat (n_un n r row)) = (Int32.ofNat c)) => ?_) (fun (hc1 : ¬ ((Int32.ofNat (n_un n r row)) = (Int32.ofNat c))) => ?_)
    · refine q_step 4 48 [(0, .ref 34), (1, .ref 20), (2, .int (Int32.ofNat m)), (3, .int (Int32.ofNat c)), (4, .int (Int32.ofNat row))] [.int (Int32.ofNat m), .int (Int32.ofNat row), .ref 20, .ref 34] g u (fun big n0 => sg_se_22 big n0 g u (Int32.ofNat m) (Int32.ofNat c) (Int32.ofNat row)) ?_
      by_cases hc2 : p_rch n m r row = 0
      · refine q_call (M2 := 97) (rest := []) (show q_BS 97 [.ref 34, .ref 20, .int (Int32.ofNat row), .int (Int32.ofNat m)] g u (some (.int (0 : Int32)), (s_rgg n m row g), u) from by have e := c_rg (row := row) u h hm hc ht hg; rw [hc2] at e; exact e) (fun _ _ => rfl) ?_
        refine q_step 3 21 [(0, .ref 34), (1, .ref 20), (2, .int (Int32.ofNat m)), (3, .int (Int32.ofNat c)), (4, .int ((Int32.ofNat row) + (1 : Int32)))] [] (s_rgg n m row g) u (fun big n0 => sg_se_23 big n0 (s_rgg n m row g) u (Int32.ofNat m) (Int32.ofNat c) (Int32.ofNat row)) ?_
        have e : f_si (n_un n r) (n_rch n m r) c (k + 1) row = f_si (n_un n r) (n_rch n m r) c k (row + 1) := by rw [f_si, if_neg (fun z => n_rch_iff.mp z.2 hc2)]
        rw [q_succ]
        exact ih (row + 1) (s_rgg n m row g) (by omega) (w_cs_fc s_rgg_fc hc) (s_rgg_tr ht) (fun p hp => by rw [s_rgg_go]; exact hg p hp) (fun z g2 f1 => hk (e.trans z) g2 (w_fc.trans s_rgg_fc f1)) (fun x g2 z f1 => hs x g2 (e.trans z) (w_fc.trans s_rgg_fc f1))
      · refine q_call (M2 := 97) (rest := []) (show q_BS 97 [.ref 34, .ref 20, .int (Int32.ofNat row), .int (Int32.ofNat m)] g u (some (.int (1 : Int32)), (s_rgg n m row g), u) from by have e := c_rg (row := row) u h hm hc ht hg; rw [(p_rch_01 n m r row).resolve_left hc2] at e; exact e) (fun _ _ => rfl) ?_
        refine q_ret 3 (some (.int (Int32.ofNat row)), (s_rgg n m row g), u) (fun _ _ => rfl) ?_
        exact hs row _ (by rw [f_si, if_pos ⟨by have z := (q_eq (by have := n_un_le n r row; omega) (by omega)).mp hc1; exact z, n_rch_iff.mpr hc2⟩]) s_rgg_fc
    · refine q_step 2 21 [(0, .ref 34), (1, .ref 20), (2, .int (Int32.ofNat m)), (3, .int (Int32.ofNat c)), (4, .int ((Int32.ofNat row) + (1 : Int32)))] [] g u (fun big n0 => sg_se_24 big n0 g u (Int32.ofNat m) (Int32.ofNat c) (Int32.ofNat row)) ?_
      have e : f_si (n_un n r) (n_rch n m r) c (k + 1) row = f_si (n_un n r) (n_rch n m r) c k (row + 1) := by rw [f_si, if_neg (fun z => hc1 (by rw [z.1]))]
      rw [q_succ]
      exact ih (row + 1) g (by omega) hc ht hg (fun z => hk (e.trans z)) (fun x g2 z => hs x g2 (e.trans z))
theorem fc_ou (u : qW) {n W H m : Nat} {r : qM} (h : w_ok n W H r) (hm : m ≤ 60) (h6 : n ≤ 6) (h4n : 4 ^ n ≤ 4096) : ∀ k c g, c + k = n + 1 → w_cs 20 n g r → w_tr n g r → (∀ p, p < n → g 39 p = r 78 p) → q_EV m_92 10 [(0, .ref 34), (1, .ref 20), (2, .int (Int32.ofNat m)), (3, .int (Int32.ofNat c))] [] g u (w_po w_fc g (.int (e_row (f_so (n_un n r) (n_rch n m r) (4 ^ n) k c)))) := by
  intro k
  induction k with
  | zero =>
    intro c g hi hc ht hg
    refine q_step 3 15 [(0, .ref 34), (1, .ref 20), (2, .int (Int32.ofNat m)), (3, .int (Int32.ofNat c))] [.int (g 20 3), .int (Int32.ofNat c)] g u (fun big n0 => sg_se_25 big n0 g u (Int32.ofNat m) (Int32.ofNat c)) ?_
    refine q_ic_gt rfl (fun (hc0 : (g 20 3) < (Int32.ofNat c)) => ?_) (fun hc0 => absurd (show (g 20 3) < (Int32.ofNat c) from by rw [hc.1.1, h.2.1]; exact (q_lt (by omega) (by omega)).mpr (by omega)) hc0)
    refine q_ret 2 (some (.int (Int8.toInt32 (Int8.ofInt (-4)))), g, u) (fun _ _ => rfl) ?_
    exact ⟨g, u, rfl, w_fc_rfl g⟩
  | succ k ih =>
    intro c g hi hc ht hg
    refine q_step 3 15 [(0, .ref 34), (1, .ref 20), (2, .int (Int32.ofNat m)), (3, .int (Int32.ofNat c))] [.int (g 20 3), .int (Int32.ofNat c)] g u (fun big n0 => sg_se_25 big n0 g u (Int32.ofNat m) (Int32.ofNat c)) ?_
    refine q_ic_gt rfl (fun hc0 => absurd (show (g 20 3) < (Int32.ofNat c) from hc0) (fun z => by rw [hc.1.1, h.2.1] at z; exact absurd ((q_lt (by omega) (by omega)).mp z) (by omega))) (fun (hc0 : ¬ ((g 20 3) < (Int32.ofNat c))) => ?_)
    refine q_step 2 21 [(0, .ref 34), (1, .ref 20), (2, .int (Int32.ofNat m)), (3, .int (Int32.ofNat c)), (4, .int (0 : Int32))] [] g u (fun big n0 => sg_se_26 big n0 g u (Int32.ofNat m) (Int32.ofNat c)) ?_
    refine fc_in u h hm h6 h4n (c := c) (by omega) (4 ^ n) 0 g (by omega) hc ht hg (fun hz g2 f1 hc2 ht2 hg2 => ?_) (fun x g2 hx f1 => ?_)
    · refine q_step 2 10 [(0, .ref 34), (1, .ref 20), (2, .int (Int32.ofNat m)), (3, .int ((Int32.ofNat c) + (1 : Int32))), (4, .int (Int32.ofNat (4 ^ n)))] [] g2 u (fun big n0 => sg_se_27 big n0 g2 u (Int32.ofNat m) (Int32.ofNat c) (Int32.ofNat (4 ^ n))) ?_
      refine q_weak [(0, .ref 34), (1, .ref 20), (2, .int (Int32.ofNat m)), (3, .int ((Int32.ofNat c) + (1 : Int32)))] (q_sub.cons rfl (q_sub.cons rfl (q_sub.cons rfl (q_sub.cons rfl q_sub.nil)))) ?_
      have e : f_so (n_un n r) (n_rch n m r) (4 ^ n) (k + 1) c = f_so (n_un n r) (n_rch n m r) (4 ^ n) k (c + 1) := by rw [f_so, hz]
      rw [q_succ]
      exact q_EV.imp (ih (c + 1) g2 (by omega) hc2 ht2 hg2) (fun R z => w_po_c f1 (by rw [e]) z)
    · exact ⟨g2, u, by rw [f_so, hx]; rfl, f1⟩
theorem c_few92 {n W H : Nat} {g r : qM} (u : qW) (h : w_ok n W H r) (hc : w_cs 20 n g r) {m : Nat} (hm : m ≤ 60) (hgo : ∀ p, p < n → g 24 p = r 78 p) : w_BS w_fc 92 [.ref 34, .ref 20, .int (Int32.ofNat m)] g u (.int (e_row (f_set n m r))) := by
  refine w_bs (mm := m_92) rfl (Nat.le_of_ble_eq_true rfl) rfl ?_
  have h5 : n ≤ 6 := h.1.2.2.2.2
  have hy := w_cpy (a := 35) (b := 20) h5 (by omega) hc
  refine q_step 3 5 [(0, .ref 34), (1, .ref 20), (2, .int (Int32.ofNat m))] [.ref 20, .ref 35] g u (fun big n0 => sg_se_28 big n0 g u (Int32.ofNat m)) ?_
  refine q_call (M2 := 41) (rest := []) (b_cpy35_20 _ _) (fun _ _ => rfl) ?_
  refine q_step 2 10 [(0, .ref 34), (1, .ref 20), (2, .int (Int32.ofNat m)), (3, .int (0 : Int32))] [] (s_cpy 35 20 g) u (fun big n0 => sg_se_29 big n0 (s_cpy 35 20 g) u (Int32.ofNat m)) ?_
  exact q_EV.imp (fc_ou u h hm h5 (s_4n h5) (n + 1) 0 (s_cpy 35 20 g) (by omega) (w_cs_fc w_cpy_fc hc) (w_cs_tr hy) (fun p hp => by rw [show s_cpy 35 20 g 39 p = g 24 p from s_cpy_4 (a := 35) (b := 20) (by omega) (by omega)]; exact hgo p hp)) (fun R z => w_po_c w_cpy_fc rfl z)
theorem b_srch1 {m : Nat} (g : qM) (u : qW) (hm : m ≤ 12) : q_BS 90 [.int (Int32.ofNat m)] g u (some (.int 1), g, u) := by
  have e : d_isSearched (Int32.ofNat m) g = 1 := by
    unfold d_isSearched
    rw [if_neg (fun z => by
      have z := Int32.lt_iff_toInt_lt.mp z
      rw [q_nat (by omega)] at z
      have e : (0 : Int32).toInt = 0 := rfl
      omega), if_neg (show ¬ (12 : Int32) < Int32.ofNat m from fun z => absurd ((q_lt (i := 12) (j := m) (by omega) (by omega)).mp z) (by omega))]
  have h := b_isSearched (Int32.ofNat m) g u
  rw [e] at h
  exact h
theorem b_tot0 (g : qM) (u : qW) : q_BS 91 [.ref 8, .int (0 : Int32)] g u (some (.int 1), g, u) := by
  refine q_bx (mm := m_91) rfl (Nat.le_of_ble_eq_true rfl) rfl ?_
  refine q_ret 5 (some (.int (1 : Int32)), g, u) (fun _ _ => rfl) ?_
  rfl
theorem b_tot1 (g : qM) (u : qW) {n p : Nat} (hn : g 20 3 = Int32.ofNat n) (h6 : n ≤ 6) (hp : p < n) : q_BS 91 [.ref 8, .int (Int32.ofNat (10 + p))] g u (some (.int 1), g, u) := by
  refine q_bx (mm := m_91) rfl (Nat.le_of_ble_eq_true rfl) rfl ?_
  refine q_step 1 1 [(0, .ref 8), (1, .int (Int32.ofNat (10 + p)))] [.int (Int32.ofNat (10 + p))] g u (fun big n0 => sg_se_30 big n0 g u (Int32.ofNat (10 + p))) ?_
  refine q_if_eq rfl (fun hc0 => absurd (show (Int32.ofNat (10 + p)) = 0 from hc0) (fun z => absurd ((q_eq (i := 10 + p) (j := 0) (by omega) (by omega)).mp z) (by omega))) (fun (hc0 : ¬ ((Int32.ofNat (10 + p)) = 0)) => ?_)
  refine q_step 2 7 [(0, .ref 8), (1, .int (Int32.ofNat (10 + p)))] [.int (10 : Int32), .int (Int32.ofNat (10 + p))] g u (fun big n0 => sg_se_31 big n0 g u (Int32.ofNat (10 + p))) ?_
  refine q_ic_lt rfl (fun hc1 => absurd (show (Int32.ofNat (10 + p)) < (10 : Int32) from hc1) (fun z => absurd ((q_lt (i := 10 + p) (j := 10) (by omega) (by omega)).mp z) (by omega))) (fun (hc1 : ¬ ((Int32.ofNat (10 + p)) < (10 : Int32))) => ?_)
  refine q_step 5 18 [(0, .ref 8), (1, .int (Int32.ofNat (10 + p)))] [.int ((Int32.ofNat (10 + p)) - (10 : Int32)), .ref 20] g u (fun big n0 => sg_se_32 big n0 g u (Int32.ofNat (10 + p))) ?_
  refine q_call (M2 := 40) (rest := []) (by rw [show (Int32.ofNat (10 + p)) - (10 : Int32) = Int32.ofNat p from by rw [show (10 : Int32) = Int32.ofNat 10 from rfl, q_sb (by omega) (by omega)]; congr 1; omega]; exact b_hasOne1 g u hn h6 hp) (fun _ _ => rfl) ?_
  refine q_ret 4 (some (.int (1 : Int32)), g, u) (fun _ _ => rfl) ?_
  rfl
theorem c_set0 {n W H : Nat} {g r : qM} (u : qW) (h : w_ok n W H r) (hc : w_cs 20 n g r) {m : Nat} (hm : m ≤ 12) (hgo : ∀ p, p < n → g 24 p = r 78 p) : w_BS w_fc 89 [.ref 8, .int (Int32.ofNat m), .int (0 : Int32)] g u (.int (f_set0 n r (f_set n m r))) := by
  refine w_bs (mm := m_89) rfl (Nat.le_of_ble_eq_true rfl) rfl ?_
  have h5 : n ≤ 6 := h.1.2.2.2.2
  have h4n := s_4n h5
  obtain ⟨g1, u1, hb, hf⟩ := c_few92 u h hc (m := m) (by omega) hgo
  have hcf := w_cs_fc hf hc
  cases hF : f_set n m r with
  | none =>
    rw [hF] at hb
    refine q_step 1 1 [(0, .ref 8), (1, .int (Int32.ofNat m)), (2, .int (0 : Int32))] [.int (Int32.ofNat m)] g u (fun big n0 => sg_se_33 big n0 g u (Int32.ofNat m)) ?_
    refine q_call (M2 := 90) (rest := []) (b_srch1 g u hm) (fun _ _ => rfl) ?_
    refine q_step 3 9 [(0, .ref 8), (1, .int (Int32.ofNat m)), (2, .int (0 : Int32))] [.int (0 : Int32), .ref 8] g u (fun big n0 => sg_se_34 big n0 g u (Int32.ofNat m)) ?_
    refine q_call (M2 := 91) (rest := []) (b_tot0 g u) (fun _ _ => rfl) ?_
    refine q_step 6 26 [(0, .ref 8), (1, .int (Int32.ofNat m)), (2, .int (0 : Int32))] [.int (Int32.ofNat m), .ref 20, .ref 34] g u (fun big n0 => sg_se_35 big n0 g u (Int32.ofNat m)) ?_
    refine q_call (M2 := 92) (rest := []) (hb) (fun _ _ => rfl) ?_
    refine q_ret 6 (some (.int (Int8.toInt32 (Int8.ofInt (-4)))), g1, u1) (fun _ _ => rfl) ?_
    exact ⟨g1, u1, rfl, hf⟩
  | some x =>
    rw [hF] at hb
    have hx := f_set_lt hF
    refine q_step 1 1 [(0, .ref 8), (1, .int (Int32.ofNat m)), (2, .int (0 : Int32))] [.int (Int32.ofNat m)] g u (fun big n0 => sg_se_33 big n0 g u (Int32.ofNat m)) ?_
    refine q_call (M2 := 90) (rest := []) (b_srch1 g u hm) (fun _ _ => rfl) ?_
    refine q_step 3 9 [(0, .ref 8), (1, .int (Int32.ofNat m)), (2, .int (0 : Int32))] [.int (0 : Int32), .ref 8] g u (fun big n0 => sg_se_34 big n0 g u (Int32.ofNat m)) ?_
    refine q_call (M2 := 91) (rest := []) (b_tot0 g u) (fun _ _ => rfl) ?_
    refine q_step 6 26 [(0, .ref 8), (1, .int (Int32.ofNat m)), (2, .int (0 : Int32))] [.int (Int32.ofNat m), .ref 20, .ref 34] g u (fun big n0 => sg_se_35 big n0 g u (Int32.ofNat m)) ?_
    refine q_call (M2 := 92) (rest := []) (hb) (fun _ _ => rfl) ?_
    refine q_step 3 33 [(0, .ref 8), (1, .int (Int32.ofNat m)), (2, .int (0 : Int32)), (3, .int (Int32.ofNat x))] [.int (Int8.toInt32 (Int8.ofInt (-4))), .int (Int32.ofNat x)] g1 u1 (fun big n0 => sg_se_36 big n0 g1 u1 (Int32.ofNat m) (Int32.ofNat x)) ?_
    refine q_ic_ne rfl (fun hc0 => absurd (show (Int32.ofNat x) = (Int8.toInt32 (Int8.ofInt (-4))) from hc0) (q_none_ne (by omega))) (fun (hc0 : ¬ ((Int32.ofNat x) = (Int8.toInt32 (Int8.ofInt (-4))))) => ?_)
    refine q_step 5 48 [(0, .ref 8), (1, .int (Int32.ofNat m)), (2, .int (0 : Int32)), (3, .int (Int32.ofNat x))] [.int (Int32.ofNat x), .ref 20] g1 u1 (fun big n0 => sg_se_37 big n0 g1 u1 (Int32.ofNat m) (Int32.ofNat x)) ?_
    refine q_call (M2 := 94) (rest := []) (c_un u1 h hcf) (fun _ _ => rfl) ?_
    refine q_ret 2 (some (.int (Int32.ofNat (n_un n r x))), g1, u1) (fun _ _ => rfl) ?_
    exact ⟨g1, u1, rfl, hf⟩
theorem c_set1 {n W H : Nat} {g r : qM} (u : qW) (h : w_ok n W H r) (hc : w_cs 20 n g r) {m : Nat} (hm : m ≤ 12) (hgo : ∀ p, p < n → g 24 p = r 78 p) {p : Nat} (hp : p < n) : w_BS w_fc 89 [.ref 8, .int (Int32.ofNat m), .int (Int32.ofNat (10 + p))] g u (.int (f_setp n p (f_set n m r))) := by
  refine w_bs (mm := m_89) rfl (Nat.le_of_ble_eq_true rfl) rfl ?_
  have h5 : n ≤ 6 := h.1.2.2.2.2
  have h4n := s_4n h5
  obtain ⟨g1, u1, hb, hf⟩ := c_few92 u h hc (m := m) (by omega) hgo
  have hcf := w_cs_fc hf hc
  cases hF : f_set n m r with
  | none =>
    rw [hF] at hb
    refine q_step 1 1 [(0, .ref 8), (1, .int (Int32.ofNat m)), (2, .int (Int32.ofNat (10 + p)))] [.int (Int32.ofNat m)] g u (fun big n0 => sg_se_38 big n0 g u (Int32.ofNat m) (Int32.ofNat (10 + p))) ?_
    refine q_call (M2 := 90) (rest := []) (b_srch1 g u hm) (fun _ _ => rfl) ?_
    refine q_step 3 9 [(0, .ref 8), (1, .int (Int32.ofNat m)), (2, .int (Int32.ofNat (10 + p)))] [.int (Int32.ofNat (10 + p)), .ref 8] g u (fun big n0 => sg_se_39 big n0 g u (Int32.ofNat m) (Int32.ofNat (10 + p))) ?_
    refine q_call (M2 := 91) (rest := []) (b_tot1 g u (hc.1.1.trans h.2.1) h5 hp) (fun _ _ => rfl) ?_
    refine q_step 6 26 [(0, .ref 8), (1, .int (Int32.ofNat m)), (2, .int (Int32.ofNat (10 + p)))] [.int (Int32.ofNat m), .ref 20, .ref 34] g u (fun big n0 => sg_se_40 big n0 g u (Int32.ofNat m) (Int32.ofNat (10 + p))) ?_
    refine q_call (M2 := 92) (rest := []) (hb) (fun _ _ => rfl) ?_
    refine q_ret 6 (some (.int (Int8.toInt32 (Int8.ofInt (-4)))), g1, u1) (fun _ _ => rfl) ?_
    exact ⟨g1, u1, rfl, hf⟩
  | some x =>
    rw [hF] at hb
    have hx := f_set_lt hF
    refine q_step 1 1 [(0, .ref 8), (1, .int (Int32.ofNat m)), (2, .int (Int32.ofNat (10 + p)))] [.int (Int32.ofNat m)] g u (fun big n0 => sg_se_38 big n0 g u (Int32.ofNat m) (Int32.ofNat (10 + p))) ?_
    refine q_call (M2 := 90) (rest := []) (b_srch1 g u hm) (fun _ _ => rfl) ?_
    refine q_step 3 9 [(0, .ref 8), (1, .int (Int32.ofNat m)), (2, .int (Int32.ofNat (10 + p)))] [.int (Int32.ofNat (10 + p)), .ref 8] g u (fun big n0 => sg_se_39 big n0 g u (Int32.ofNat m) (Int32.ofNat (10 + p))) ?_
    refine q_call (M2 := 91) (rest := []) (b_tot1 g u (hc.1.1.trans h.2.1) h5 hp) (fun _ _ => rfl) ?_
    refine q_step 6 26 [(0, .ref 8), (1, .int (Int32.ofNat m)), (2, .int (Int32.ofNat (10 + p)))] [.int (Int32.ofNat m), .ref 20, .ref 34] g u (fun big n0 => sg_se_40 big n0 g u (Int32.ofNat m) (Int32.ofNat (10 + p))) ?_
    refine q_call (M2 := 92) (rest := []) (hb) (fun _ _ => rfl) ?_
    refine q_step 3 33 [(0, .ref 8), (1, .int (Int32.ofNat m)), (2, .int (Int32.ofNat (10 + p))), (3, .int (Int32.ofNat x))] [.int (Int8.toInt32 (Int8.ofInt (-4))), .int (Int32.ofNat x)] g1 u1 (fun big n0 => sg_se_41 big n0 g1 u1 (Int32.ofNat m) (Int32.ofNat (10 + p)) (Int32.ofNat x)) ?_
    refine q_ic_ne rfl (fun hc0 => absurd (show (Int32.ofNat x) = (Int8.toInt32 (Int8.ofInt (-4))) from hc0) (q_none_ne (by omega))) (fun (hc0 : ¬ ((Int32.ofNat x) = (Int8.toInt32 (Int8.ofInt (-4))))) => ?_)
    refine q_step 1 40 [(0, .ref 8), (1, .int (Int32.ofNat m)), (2, .int (Int32.ofNat (10 + p))), (3, .int (Int32.ofNat x))] [.int (Int32.ofNat (10 + p))] g1 u1 (fun big n0 => sg_se_42 big n0 g1 u1 (Int32.ofNat m) (Int32.ofNat (10 + p)) (Int32.ofNat x)) ?_
    refine q_if_ne rfl (fun hc1 => absurd (show (Int32.ofNat (10 + p)) = 0 from hc1) (fun z => absurd ((q_eq (i := 10 + p) (j := 0) (by omega) (by omega)).mp z) (by omega))) (fun (hc1 : ¬ ((Int32.ofNat (10 + p)) = 0)) => ?_)
    refine q_step 6 63 [(0, .ref 8), (1, .int (Int32.ofNat m)), (2, .int (Int32.ofNat (10 + p))), (3, .int (Int32.ofNat x))] [.int ((Int32.ofNat (10 + p)) - (10 : Int32)), .int (Int32.ofNat x), .ref 20] g1 u1 (fun big n0 => sg_se_43 big n0 g1 u1 (Int32.ofNat m) (Int32.ofNat (10 + p)) (Int32.ofNat x)) ?_
    have hmr := b_mir20 (Int32.ofNat x) ((Int32.ofNat (10 + p)) - (10 : Int32)) g1 u1
    rw [show s_dg (Int32.ofNat x) (g1 20 3) ((Int32.ofNat (10 + p)) - (10 : Int32)) = f_md n x p from by
      rw [hcf.1.1, h.2.1, show (Int32.ofNat (10 + p)) - (10 : Int32) = Int32.ofNat p from by rw [show (10 : Int32) = Int32.ofNat 10 from rfl, q_sb (by omega) (by omega)]; congr 1; omega]
      rfl] at hmr
    refine q_call (M2 := 95) (rest := []) (hmr) (fun _ _ => rfl) ?_
    refine q_ret 1 (some (.int (f_md n x p)), g1, u1) (fun _ _ => rfl) ?_
    exact ⟨g1, u1, rfl, hf⟩
theorem w_ust {n W H row : Nat} {g r : qM} (h : w_ok n W H r) (hs : w_sm n (s_start g) r) (h5 : n ≤ 5) : ∀ p, p < n → p_ust g (Int32.ofNat row) p = p_un n r row p := fun p hp => by
  have e : g 71 (5 + p) = r 76 p := by
    rw [← (hs.2.2 p hp).2.1]
    show _ = (if p < 5 then g 71 (5 + p) else g 76 p)
    rw [if_pos (by omega)]
  unfold p_ust p_un f_md
  rw [w_pl h hs, e]
  by_cases z : r 76 p = s_dg (Int32.ofNat row) (Int32.ofNat n) (Int32.ofNat p)
  · rw [if_pos z, if_pos z.symm]
  · rw [if_neg z, if_neg (fun y => z y.symm)]
theorem rse_0 (g : qM) (u : qW) {n m row : Nat} {f d : Int32} (hn : g 70 4 = Int32.ofNat n) (h5 : n ≤ 5) {Q : Option Value × qM × qW → Prop} : ∀ k i a, i + k = n → q_EV m_201 124 [(0, .ref 70), (1, .int (Int32.ofNat m)), (2, .int (0 : Int32)), (3, .int f), (4, .int d), (5, .int (Int32.ofNat row)), (6, .int (s_ct (p_ust g (Int32.ofNat row)) k i a)), (7, .int (Int32.ofNat n))] [] (s_row_ 76 (f_md n row) n (s_start g)) u Q → q_EV m_201 61 [(0, .ref 70), (1, .int (Int32.ofNat m)), (2, .int (0 : Int32)), (3, .int f), (4, .int d), (5, .int (Int32.ofNat row)), (6, .int a), (7, .int (Int32.ofNat i))] [] (s_row_ 76 (f_md n row) i (s_start g)) u Q := by
  intro k
  induction k with
  | zero =>
    intro i a hi hk
    have e : n = i := by omega
    subst e
    refine q_step 3 67 [(0, .ref 70), (1, .int (Int32.ofNat m)), (2, .int (0 : Int32)), (3, .int f), (4, .int d), (5, .int (Int32.ofNat row)), (6, .int a), (7, .int (Int32.ofNat n))] [.int ((s_start g) 70 4), .int (Int32.ofNat n)] (s_row_ 76 (f_md n row) n (s_start g)) u (fun big n0 => sg_se_44 big n0 (s_row_ 76 (f_md n row) n (s_start g)) u (Int32.ofNat m) f d (Int32.ofNat row) a (Int32.ofNat n)) ?_
    refine q_ic_ge rfl (fun (hc0 : ((s_start g) 70 4) ≤ (Int32.ofNat n)) => ?_) (fun hc0 => absurd (show ((s_start g) 70 4) ≤ (Int32.ofNat n) from by rw [show (s_start g) 70 4 = _ from hn]; exact (q_le (by omega) (by omega)).mpr (by omega)) hc0)
    exact hk
  | succ k ih =>
    intro i a hi hk
    refine q_step 3 67 [(0, .ref 70), (1, .int (Int32.ofNat m)), (2, .int (0 : Int32)), (3, .int f), (4, .int d), (5, .int (Int32.ofNat row)), (6, .int a), (7, .int (Int32.ofNat i))] [.int ((s_start g) 70 4), .int (Int32.ofNat i)] (s_row_ 76 (f_md n row) i (s_start g)) u (fun big n0 => sg_se_44 big n0 (s_row_ 76 (f_md n row) i (s_start g)) u (Int32.ofNat m) f d (Int32.ofNat row) a (Int32.ofNat i)) ?_
    refine q_ic_ge rfl (fun hc0 => absurd (show ((s_start g) 70 4) ≤ (Int32.ofNat i) from hc0) (fun z => by rw [show (s_start g) 70 4 = _ from hn] at z; exact absurd ((q_le (by omega) (by omega)).mp z) (by omega))) (fun (hc0 : ¬ (((s_start g) 70 4) ≤ (Int32.ofNat i))) => ?_)
    refine q_step 4 77 [(0, .ref 70), (1, .int (Int32.ofNat m)), (2, .int (0 : Int32)), (3, .int f), (4, .int d), (5, .int (Int32.ofNat row)), (6, .int a), (7, .int (Int32.ofNat i))] [.int (Int32.ofNat i), .int (Int32.ofNat row), .ref 70, .int a] (s_row_ 76 (f_md n row) i (s_start g)) u (fun big n0 => sg_se_45 big n0 (s_row_ 76 (f_md n row) i (s_start g)) u (Int32.ofNat m) f d (Int32.ofNat row) a (Int32.ofNat i)) ?_
    refine q_call (M2 := 203) (rest := [.int a]) (b_mby (Int32.ofNat row) (Int32.ofNat i) (s_row_ 76 (f_md n row) i (s_start g)) u) (fun _ _ => rfl) ?_
    refine q_step 5 88 [(0, .ref 70), (1, .int (Int32.ofNat m)), (2, .int (0 : Int32)), (3, .int f), (4, .int d), (5, .int (Int32.ofNat row)), (6, .int a), (7, .int (Int32.ofNat i))] [.int ((5 : Int32) + (Int32.ofNat i)), .ref 71, .int (s_dg (Int32.ofNat row) (g 70 4) (Int32.ofNat i)), .int a] (s_row_ 76 (f_md n row) i (s_start g)) u (fun big n0 => sg_se_46 big n0 (s_row_ 76 (f_md n row) i (s_start g)) u (Int32.ofNat m) f d (Int32.ofNat row) a (Int32.ofNat i) a (s_dg (Int32.ofNat row) (g 70 4) (Int32.ofNat i))) ?_
    refine q_iald (j := (5 + i)) (s_rixn (K := 5) (i := i) (by omega)) rfl rfl ?_
    refine q_ic_eq rfl (fun (hc1 : (s_dg (Int32.ofNat row) (g 70 4) (Int32.ofNat i)) = ((s_start g) 71 (5 + i))) => ?_) (fun (hc1 : ¬ ((s_dg (Int32.ofNat row) (g 70 4) (Int32.ofNat i)) = ((s_start g) 71 (5 + i)))) => ?_)
    · refine q_step 1 97 [(0, .ref 70), (1, .int (Int32.ofNat m)), (2, .int (0 : Int32)), (3, .int f), (4, .int d), (5, .int (Int32.ofNat row)), (6, .int a), (7, .int (Int32.ofNat i))] [.int (0 : Int32), .int a] (s_row_ 76 (f_md n row) i (s_start g)) u (fun big n0 => sg_se_47 big n0 (s_row_ 76 (f_md n row) i (s_start g)) u (Int32.ofNat m) f d (Int32.ofNat row) a (Int32.ofNat i) a) ?_
      refine q_call (M2 := 164) (rest := [.int a]) (b_flag0 _ _) (fun _ _ => rfl) ?_
      refine q_step 8 114 [(0, .ref 70), (1, .int (Int32.ofNat m)), (2, .int (0 : Int32)), (3, .int f), (4, .int d), (5, .int (Int32.ofNat row)), (6, .int (a + (0 : Int32))), (7, .int (Int32.ofNat i))] [.int (Int32.ofNat i), .int (Int32.ofNat row), .ref 70, .int (Int32.ofNat i), .ref 76] (s_row_ 76 (f_md n row) i (s_start g)) u (fun big n0 => sg_se_48 big n0 (s_row_ 76 (f_md n row) i (s_start g)) u (Int32.ofNat m) f d (Int32.ofNat row) a (Int32.ofNat i) a) ?_
      refine q_call (M2 := 203) (rest := [.int (Int32.ofNat i), .ref 76]) (b_mby (Int32.ofNat row) (Int32.ofNat i) (s_row_ 76 (f_md n row) i (s_start g)) u) (fun _ _ => rfl) ?_
      refine q_iast (j := i) (q_ixn (by omega) (by omega)) rfl rfl ?_
      refine q_step 2 61 [(0, .ref 70), (1, .int (Int32.ofNat m)), (2, .int (0 : Int32)), (3, .int f), (4, .int d), (5, .int (Int32.ofNat row)), (6, .int (a + (0 : Int32))), (7, .int ((Int32.ofNat i) + (1 : Int32)))] [] (q_up (s_row_ 76 (f_md n row) i (s_start g)) 76 i (s_dg (Int32.ofNat row) (g 70 4) (Int32.ofNat i))) u (fun big n0 => sg_se_49 big n0 (q_up (s_row_ 76 (f_md n row) i (s_start g)) 76 i (s_dg (Int32.ofNat row) (g 70 4) (Int32.ofNat i))) u (Int32.ofNat m) f d (Int32.ofNat row) (a + (0 : Int32)) (Int32.ofNat i)) ?_
      rw [s_ct_s (P := p_ust g (Int32.ofNat row)) (i := i) (by unfold p_ust; exact if_pos hc1)] at hk
      rw [q_succ, show (q_up (s_row_ 76 (f_md n row) i (s_start g)) 76 i (s_dg (Int32.ofNat row) (g 70 4) (Int32.ofNat i))) = (s_row_ 76 (f_md n row) (i + 1) (s_start g)) from by
        rw [hn]
        exact s_row_s]
      exact ih (i + 1) _ (by omega) hk
    · refine q_step 2 97 [(0, .ref 70), (1, .int (Int32.ofNat m)), (2, .int (0 : Int32)), (3, .int f), (4, .int d), (5, .int (Int32.ofNat row)), (6, .int a), (7, .int (Int32.ofNat i))] [.int (1 : Int32), .int a] (s_row_ 76 (f_md n row) i (s_start g)) u (fun big n0 => sg_se_50 big n0 (s_row_ 76 (f_md n row) i (s_start g)) u (Int32.ofNat m) f d (Int32.ofNat row) a (Int32.ofNat i) a) ?_
      refine q_call (M2 := 164) (rest := [.int a]) (b_flag1 _ _) (fun _ _ => rfl) ?_
      refine q_step 8 114 [(0, .ref 70), (1, .int (Int32.ofNat m)), (2, .int (0 : Int32)), (3, .int f), (4, .int d), (5, .int (Int32.ofNat row)), (6, .int (a + (1 : Int32))), (7, .int (Int32.ofNat i))] [.int (Int32.ofNat i), .int (Int32.ofNat row), .ref 70, .int (Int32.ofNat i), .ref 76] (s_row_ 76 (f_md n row) i (s_start g)) u (fun big n0 => sg_se_51 big n0 (s_row_ 76 (f_md n row) i (s_start g)) u (Int32.ofNat m) f d (Int32.ofNat row) a (Int32.ofNat i) a) ?_
      refine q_call (M2 := 203) (rest := [.int (Int32.ofNat i), .ref 76]) (b_mby (Int32.ofNat row) (Int32.ofNat i) (s_row_ 76 (f_md n row) i (s_start g)) u) (fun _ _ => rfl) ?_
      refine q_iast (j := i) (q_ixn (by omega) (by omega)) rfl rfl ?_
      refine q_step 2 61 [(0, .ref 70), (1, .int (Int32.ofNat m)), (2, .int (0 : Int32)), (3, .int f), (4, .int d), (5, .int (Int32.ofNat row)), (6, .int (a + (1 : Int32))), (7, .int ((Int32.ofNat i) + (1 : Int32)))] [] (q_up (s_row_ 76 (f_md n row) i (s_start g)) 76 i (s_dg (Int32.ofNat row) (g 70 4) (Int32.ofNat i))) u (fun big n0 => sg_se_49 big n0 (q_up (s_row_ 76 (f_md n row) i (s_start g)) 76 i (s_dg (Int32.ofNat row) (g 70 4) (Int32.ofNat i))) u (Int32.ofNat m) f d (Int32.ofNat row) (a + (1 : Int32)) (Int32.ofNat i)) ?_
      rw [s_ct_s (P := p_ust g (Int32.ofNat row)) (i := i) (by unfold p_ust; exact if_neg hc1)] at hk
      rw [q_succ, show (q_up (s_row_ 76 (f_md n row) i (s_start g)) 76 i (s_dg (Int32.ofNat row) (g 70 4) (Int32.ofNat i))) = (s_row_ 76 (f_md n row) (i + 1) (s_start g)) from by
        rw [hn]
        exact s_row_s]
      exact ih (i + 1) _ (by omega) hk
theorem rso_0 (u : qW) {n W H m : Nat} {r : qM} (h : w_ok n W H r) (hm : m ≤ 60) (h5 : n ≤ 5) (h6 : n ≤ 6) (h4n : 4 ^ n ≤ 4096) : ∀ k row b g, row + k = 4 ^ n → w_sm n (s_start g) r → (∀ p, p < n → g 71 (15 + p) = r 78 p) → (∀ c x, b = some (c, x) → c = n_un n r x ∧ x < 4 ^ n) → q_EV m_201 39 [(0, .ref 70), (1, .int (Int32.ofNat m)), (2, .int (0 : Int32)), (3, .int (e_few b)), (4, .int (e_fnd b)), (5, .int (Int32.ofNat row))] [] g u (w_po w_fr g (.int (f_set0 n r ((f_sr (n_un n r) (n_rch n m r) k row b).map (fun z => z.2))))) := by
  intro k
  induction k with
  | zero =>
    intro row b g hrow hs hg hb
    have hn : g 70 4 = Int32.ofNat n := w_pl h hs
    refine q_step 3 45 [(0, .ref 70), (1, .int (Int32.ofNat m)), (2, .int (0 : Int32)), (3, .int (e_few b)), (4, .int (e_fnd b)), (5, .int (Int32.ofNat row))] [.int (g 70 4), .int (Int32.ofNat row)] g u (fun big n0 => sg_se_52 big n0 g u (Int32.ofNat m) (e_few b) (e_fnd b) (Int32.ofNat row)) ?_
    refine q_call (M2 := 202) (rest := [.int (Int32.ofNat row)]) (b_rrows _ _ _) (fun _ _ => rfl) ?_
    refine q_ic_ge rfl (fun (hc0 : (s_rows (g 70 4)) ≤ (Int32.ofNat row)) => ?_) (fun hc0 => absurd (show (s_rows (g 70 4)) ≤ (Int32.ofNat row) from by rw [hn, s_rows_n h6]; exact (q_le (by omega) (by omega)).mpr (by omega)) hc0)
    cases b with
    | none => 
      refine q_ret 6 (some (.int (Int8.toInt32 (Int8.ofInt (-4)))), g, u) (fun _ _ => rfl) ?_
      exact ⟨g, u, rfl, w_fr_rfl g⟩
    | some z => 
      obtain ⟨c, x⟩ := z
      have hbx := hb c x rfl
      refine q_step 2 155 [(0, .ref 70), (1, .int (Int32.ofNat m)), (2, .int (0 : Int32)), (3, .int (Int32.ofNat c)), (4, .int (Int32.ofNat x)), (5, .int (Int32.ofNat row))] [.int (Int8.toInt32 (Int8.ofInt (-4))), .int (Int32.ofNat x)] g u (fun big n0 => sg_se_53 big n0 g u (Int32.ofNat m) (Int32.ofNat c) (Int32.ofNat x) (Int32.ofNat row)) ?_
      refine q_ic_ne rfl (fun hc0 => absurd (show (Int32.ofNat x) = (Int8.toInt32 (Int8.ofInt (-4))) from hc0) (q_none_ne (by omega))) (fun (hc0 : ¬ ((Int32.ofNat x) = (Int8.toInt32 (Int8.ofInt (-4))))) => ?_)
      refine q_ret 5 (some (.int (Int32.ofNat c)), g, u) (fun _ _ => rfl) ?_
      exact ⟨g, u, by rw [hbx.1]; rfl, w_fr_rfl g⟩
  | succ k ih =>
    intro row b g hrow hs hg hb
    have hn : g 70 4 = Int32.ofNat n := w_pl h hs
    refine q_step 3 45 [(0, .ref 70), (1, .int (Int32.ofNat m)), (2, .int (0 : Int32)), (3, .int (e_few b)), (4, .int (e_fnd b)), (5, .int (Int32.ofNat row))] [.int (g 70 4), .int (Int32.ofNat row)] g u (fun big n0 => sg_se_52 big n0 g u (Int32.ofNat m) (e_few b) (e_fnd b) (Int32.ofNat row)) ?_
    refine q_call (M2 := 202) (rest := [.int (Int32.ofNat row)]) (b_rrows _ _ _) (fun _ _ => rfl) ?_
    refine q_ic_ge rfl (fun hc0 => absurd (show (s_rows (g 70 4)) ≤ (Int32.ofNat row) from hc0) (fun z => by rw [hn, s_rows_n h6] at z; exact absurd ((q_le (by omega) (by omega)).mp z) (by omega))) (fun (hc0 : ¬ ((s_rows (g 70 4)) ≤ (Int32.ofNat row))) => ?_)
    refine q_step 3 55 [(0, .ref 70), (1, .int (Int32.ofNat m)), (2, .int (0 : Int32)), (3, .int (e_few b)), (4, .int (e_fnd b)), (5, .int (Int32.ofNat row)), (6, .int (0 : Int32))] [.ref 70] g u (fun big n0 => sg_se_54 big n0 g u (Int32.ofNat m) (e_few b) (e_fnd b) (Int32.ofNat row)) ?_
    refine q_call (M2 := 172) (rest := []) (b_starts g u) (fun _ _ => rfl) ?_
    refine q_step 2 61 [(0, .ref 70), (1, .int (Int32.ofNat m)), (2, .int (0 : Int32)), (3, .int (e_few b)), (4, .int (e_fnd b)), (5, .int (Int32.ofNat row)), (6, .int (0 : Int32)), (7, .int (0 : Int32))] [] (s_start g) u (fun big n0 => sg_se_55 big n0 (s_start g) u (Int32.ofNat m) (e_few b) (e_fnd b) (Int32.ofNat row)) ?_
    have hct : s_ct (p_ust g (Int32.ofNat row)) n 0 0 = Int32.ofNat (n_un n r row) := (s_ct_cg n 0 0 (fun p _ hp => w_ust h hs h5 p (by omega))).trans (s_ct_n (p_un_01 n r row) n 0 0)
    have hul := n_un_le n r row
    have key := rse_0 g u (m := m) (row := row) (f := e_few b) (d := e_fnd b) hn h5 (Q := w_po w_fr g (.int (f_set0 n r ((f_sr (n_un n r) (n_rch n m r) (k + 1) row b).map (fun z => z.2))))) n 0 0 (by omega)
    rw [s_row_0, hct] at key
    refine key ?_
    have hul2 : n_un n r row < 1000 := by omega
    have hfr1 : w_fr g (s_row_ 76 (f_md n row) n (s_start g)) := s_start_fr.trans ⟨fun b hb => s_row_o (by omega), fun j _ => by rw [s_row_o (by omega)]⟩
    have hfr2 : w_fr g (s_rit n m (s_row_ 76 (f_md n row) n (s_start g))) := hfr1.trans (w_rit_fr m _)
    refine q_step 2 127 [(0, .ref 70), (1, .int (Int32.ofNat m)), (2, .int (0 : Int32)), (3, .int (e_few b)), (4, .int (e_fnd b)), (5, .int (Int32.ofNat row)), (6, .int (Int32.ofNat (n_un n r row))), (7, .int (Int32.ofNat n))] [.int (e_few b), .int (Int32.ofNat (n_un n r row))] (s_row_ 76 (f_md n row) n (s_start g)) u (fun big n0 => sg_se_56 big n0 (s_row_ 76 (f_md n row) n (s_start g)) u (Int32.ofNat m) (e_few b) (e_fnd b) (Int32.ofNat row) (Int32.ofNat (n_un n r row)) (Int32.ofNat n)) ?_
    refine q_ic_ge rfl (fun (hc0 : (e_few b) ≤ (Int32.ofNat (n_un n r row))) => ?_) (fun (hc0 : ¬ ((e_few b) ≤ (Int32.ofNat (n_un n r row)))) => ?_)
    · refine q_step 2 39 [(0, .ref 70), (1, .int (Int32.ofNat m)), (2, .int (0 : Int32)), (3, .int (e_few b)), (4, .int (e_fnd b)), (5, .int ((Int32.ofNat row) + (1 : Int32))), (6, .int (Int32.ofNat (n_un n r row))), (7, .int (Int32.ofNat n))] [] (s_row_ 76 (f_md n row) n (s_start g)) u (fun big n0 => sg_se_57 big n0 (s_row_ 76 (f_md n row) n (s_start g)) u (Int32.ofNat m) (e_few b) (e_fnd b) (Int32.ofNat row) (Int32.ofNat (n_un n r row)) (Int32.ofNat n)) ?_
      refine q_weak [(0, .ref 70), (1, .int (Int32.ofNat m)), (2, .int (0 : Int32)), (3, .int (e_few b)), (4, .int (e_fnd b)), (5, .int ((Int32.ofNat row) + (1 : Int32)))] (q_sub.cons rfl (q_sub.cons rfl (q_sub.cons rfl (q_sub.cons rfl (q_sub.cons rfl (q_sub.cons rfl q_sub.nil)))))) ?_
      have e : f_sr (n_un n r) (n_rch n m r) (k + 1) row b = f_sr (n_un n r) (n_rch n m r) k (row + 1) b := by
        rw [f_sr]
        exact congrArg (f_sr (n_un n r) (n_rch n m r) k (row + 1)) (n_few0 (Or.inr (fun z => (Int32.not_lt.mpr hc0) ((n_fewlt hul2 hb (fun x => by have := n_un_le n r x; omega)).mpr z))))
      rw [e, q_succ]
      exact q_EV.imp (ih (row + 1) b (s_row_ 76 (f_md n row) n (s_start g)) (by omega) (w_st_sm hfr1 h5 hs) (fun p hp => by rw [hfr1.1 71 (by omega)]; exact hg p hp) hb) (fun R z => w_po_r hfr1 rfl z)
    · refine q_step 2 132 [(0, .ref 70), (1, .int (Int32.ofNat m)), (2, .int (0 : Int32)), (3, .int (e_few b)), (4, .int (e_fnd b)), (5, .int (Int32.ofNat row)), (6, .int (Int32.ofNat (n_un n r row))), (7, .int (Int32.ofNat n))] [.int (Int32.ofNat m), .ref 70] (s_row_ 76 (f_md n row) n (s_start g)) u (fun big n0 => sg_se_58 big n0 (s_row_ 76 (f_md n row) n (s_start g)) u (Int32.ofNat m) (e_few b) (e_fnd b) (Int32.ofNat row) (Int32.ofNat (n_un n r row)) (Int32.ofNat n)) ?_
      by_cases hc1 : p_rch n m r row = 0
      · refine q_call (M2 := 204) (rest := []) (show q_BS 204 [.ref 70, .int (Int32.ofNat m)] (s_row_ 76 (f_md n row) n (s_start g)) u (some (.int (0 : Int32)), (s_rit n m (s_row_ 76 (f_md n row) n (s_start g))), u) from by
    have e := r_aat (g := (s_row_ 76 (f_md n row) n (s_start g))) u (w_ok_mo (row := row) h) (w_sm_mo hs) hm (fun p hp => (w_st78 h5 hp).trans (hg p hp)) hn hg
    rw [show (if f_at n (s_rit n m (gh_mo n row r)) = f_hav n (gh_mo n row r) then (1 : Int32) else 0) = p_rch n m r row from rfl, hc1] at e
    exact e) (fun _ _ => rfl) ?_
        refine q_step 3 39 [(0, .ref 70), (1, .int (Int32.ofNat m)), (2, .int (0 : Int32)), (3, .int (e_few b)), (4, .int (e_fnd b)), (5, .int ((Int32.ofNat row) + (1 : Int32))), (6, .int (Int32.ofNat (n_un n r row))), (7, .int (Int32.ofNat n))] [] (s_rit n m (s_row_ 76 (f_md n row) n (s_start g))) u (fun big n0 => sg_se_59 big n0 (s_rit n m (s_row_ 76 (f_md n row) n (s_start g))) u (Int32.ofNat m) (e_few b) (e_fnd b) (Int32.ofNat row) (Int32.ofNat (n_un n r row)) (Int32.ofNat n)) ?_
        refine q_weak [(0, .ref 70), (1, .int (Int32.ofNat m)), (2, .int (0 : Int32)), (3, .int (e_few b)), (4, .int (e_fnd b)), (5, .int ((Int32.ofNat row) + (1 : Int32)))] (q_sub.cons rfl (q_sub.cons rfl (q_sub.cons rfl (q_sub.cons rfl (q_sub.cons rfl (q_sub.cons rfl q_sub.nil)))))) ?_
        have e : f_sr (n_un n r) (n_rch n m r) (k + 1) row b = f_sr (n_un n r) (n_rch n m r) k (row + 1) b := by
          rw [f_sr]
          exact congrArg (f_sr (n_un n r) (n_rch n m r) k (row + 1)) (n_few0 (Or.inl (fun z => n_rch_iff.mp z hc1)))
        rw [e, q_succ]
        exact q_EV.imp (ih (row + 1) b (s_rit n m (s_row_ 76 (f_md n row) n (s_start g))) (by omega) (w_st_sm hfr2 h5 hs) (fun p hp => by rw [hfr2.1 71 (by omega)]; exact hg p hp) hb) (fun R z => w_po_r hfr2 rfl z)
      · refine q_call (M2 := 204) (rest := []) (show q_BS 204 [.ref 70, .int (Int32.ofNat m)] (s_row_ 76 (f_md n row) n (s_start g)) u (some (.int (1 : Int32)), (s_rit n m (s_row_ 76 (f_md n row) n (s_start g))), u) from by
    have e := r_aat (g := (s_row_ 76 (f_md n row) n (s_start g))) u (w_ok_mo (row := row) h) (w_sm_mo hs) hm (fun p hp => (w_st78 h5 hp).trans (hg p hp)) hn hg
    rw [show (if f_at n (s_rit n m (gh_mo n row r)) = f_hav n (gh_mo n row r) then (1 : Int32) else 0) = p_rch n m r row from rfl, (p_rch_01 n m r row).resolve_left hc1] at e
    exact e) (fun _ _ => rfl) ?_
        refine q_step 7 39 [(0, .ref 70), (1, .int (Int32.ofNat m)), (2, .int (0 : Int32)), (3, .int (Int32.ofNat (n_un n r row))), (4, .int (Int32.ofNat row)), (5, .int ((Int32.ofNat row) + (1 : Int32))), (6, .int (Int32.ofNat (n_un n r row))), (7, .int (Int32.ofNat n))] [] (s_rit n m (s_row_ 76 (f_md n row) n (s_start g))) u (fun big n0 => sg_se_60 big n0 (s_rit n m (s_row_ 76 (f_md n row) n (s_start g))) u (Int32.ofNat m) (e_few b) (e_fnd b) (Int32.ofNat row) (Int32.ofNat (n_un n r row)) (Int32.ofNat n)) ?_
        refine q_weak [(0, .ref 70), (1, .int (Int32.ofNat m)), (2, .int (0 : Int32)), (3, .int (Int32.ofNat (n_un n r row))), (4, .int (Int32.ofNat row)), (5, .int ((Int32.ofNat row) + (1 : Int32)))] (q_sub.cons rfl (q_sub.cons rfl (q_sub.cons rfl (q_sub.cons rfl (q_sub.cons rfl (q_sub.cons rfl q_sub.nil)))))) ?_
        have e : f_sr (n_un n r) (n_rch n m r) (k + 1) row b = f_sr (n_un n r) (n_rch n m r) k (row + 1) (some (n_un n r row, row)) := by
          rw [f_sr]
          exact congrArg (f_sr (n_un n r) (n_rch n m r) k (row + 1)) (n_few1 (n_rch_iff.mpr hc1) ((n_fewlt hul2 hb (fun x => by have := n_un_le n r x; omega)).mp (Int32.not_le.mp hc0)))
        rw [e, q_succ]
        exact q_EV.imp (ih (row + 1) (some (n_un n r row, row)) (s_rit n m (s_row_ 76 (f_md n row) n (s_start g))) (by omega) (w_st_sm hfr2 h5 hs) (fun p hp => by rw [hfr2.1 71 (by omega)]; exact hg p hp) (fun c x z => by cases z; exact ⟨rfl, by omega⟩)) (fun R z => w_po_r hfr2 rfl z)
theorem r_set0 {n W H : Nat} {g r : qM} (u : qW) (h : w_ok n W H r) (hs : w_sm n (s_start g) r) (h5 : n ≤ 5) {m : Nat} (hm : m ≤ 12) (hg : ∀ p, p < n → g 71 (15 + p) = r 78 p) : w_BS w_fr 201 [.ref 70, .int (Int32.ofNat m), .int (0 : Int32)] g u (.int (f_set0 n r (f_set n m r))) := by
  refine w_bs (mm := m_201) rfl (Nat.le_of_ble_eq_true rfl) rfl ?_
  refine q_step 4 6 [(0, .ref 70), (1, .int (Int32.ofNat m)), (2, .int (0 : Int32))] [.long (12 : Int64), .long (0 : Int64), .long (Int32.toInt64 (Int32.ofNat m))] g u (fun big n0 => sg_se_61 big n0 g u (Int32.ofNat m)) ?_
  refine q_call (M2 := 149) (rest := []) (b_in1 (m := m) (lo := 0) (hi := 12) g u (by omega) (by omega) (by omega)) (fun _ _ => rfl) ?_
  refine q_step 9 39 [(0, .ref 70), (1, .int (Int32.ofNat m)), (2, .int (0 : Int32)), (3, .int (1000000 : Int32)), (4, .int (Int8.toInt32 (Int8.ofInt (-4)))), (5, .int (0 : Int32))] [] g u (fun big n0 => sg_se_62 big n0 g u (Int32.ofNat m)) ?_
  have key := rso_0 u h (m := m) (by omega) h5 (by omega) (s_4n (by omega)) (4 ^ n) 0 none g (by omega) hs hg (fun c x z => by cases z)
  rw [f_sr_so (K := n + 1) (fun y _ => Nat.lt_succ_of_le (n_un_le n r y)), Option.map_map, show ((fun z => z.2) ∘ fun x => (n_un n r x, x)) = (id : Nat → Nat) from rfl, Option.map_id] at key
  exact key
theorem rse_1 {q : Nat} (g : qM) (u : qW) {n m row : Nat} {f d : Int32} (hn : g 70 4 = Int32.ofNat n) (h5 : n ≤ 5) {Q : Option Value × qM × qW → Prop} : ∀ k i a, i + k = n → q_EV m_201 124 [(0, .ref 70), (1, .int (Int32.ofNat m)), (2, .int (Int32.ofNat (10 + q))), (3, .int f), (4, .int d), (5, .int (Int32.ofNat row)), (6, .int (s_ct (p_ust g (Int32.ofNat row)) k i a)), (7, .int (Int32.ofNat n))] [] (s_row_ 76 (f_md n row) n (s_start g)) u Q → q_EV m_201 61 [(0, .ref 70), (1, .int (Int32.ofNat m)), (2, .int (Int32.ofNat (10 + q))), (3, .int f), (4, .int d), (5, .int (Int32.ofNat row)), (6, .int a), (7, .int (Int32.ofNat i))] [] (s_row_ 76 (f_md n row) i (s_start g)) u Q := by
  intro k
  induction k with
  | zero =>
    intro i a hi hk
    have e : n = i := by omega
    subst e
    refine q_step 3 67 [(0, .ref 70), (1, .int (Int32.ofNat m)), (2, .int (Int32.ofNat (10 + q))), (3, .int f), (4, .int d), (5, .int (Int32.ofNat row)), (6, .int a), (7, .int (Int32.ofNat n))] [.int ((s_start g) 70 4), .int (Int32.ofNat n)] (s_row_ 76 (f_md n row) n (s_start g)) u (fun big n0 => sg_se_63 big n0 (s_row_ 76 (f_md n row) n (s_start g)) u (Int32.ofNat m) (Int32.ofNat (10 + q)) f d (Int32.ofNat row) a (Int32.ofNat n)) ?_
    refine q_ic_ge rfl (fun (hc0 : ((s_start g) 70 4) ≤ (Int32.ofNat n)) => ?_) (fun hc0 => absurd (show ((s_start g) 70 4) ≤ (Int32.ofNat n) from by rw [show (s_start g) 70 4 = _ from hn]; exact (q_le (by omega) (by omega)).mpr (by omega)) hc0)
    exact hk
  | succ k ih =>
    intro i a hi hk
    refine q_step 3 67 [(0, .ref 70), (1, .int (Int32.ofNat m)), (2, .int (Int32.ofNat (10 + q))), (3, .int f), (4, .int d), (5, .int (Int32.ofNat row)), (6, .int a), (7, .int (Int32.ofNat i))] [.int ((s_start g) 70 4), .int (Int32.ofNat i)] (s_row_ 76 (f_md n row) i (s_start g)) u (fun big n0 => sg_se_63 big n0 (s_row_ 76 (f_md n row) i (s_start g)) u (Int32.ofNat m) (Int32.ofNat (10 + q)) f d (Int32.ofNat row) a (Int32.ofNat i)) ?_
    refine q_ic_ge rfl (fun hc0 => absurd (show ((s_start g) 70 4) ≤ (Int32.ofNat i) from hc0) (fun z => by rw [show (s_start g) 70 4 = _ from hn] at z; exact absurd ((q_le (by omega) (by omega)).mp z) (by omega))) (fun (hc0 : ¬ (((s_start g) 70 4) ≤ (Int32.ofNat i))) => ?_)
    refine q_step 4 77 [(0, .ref 70), (1, .int (Int32.ofNat m)), (2, .int (Int32.ofNat (10 + q))), (3, .int f), (4, .int d), (5, .int (Int32.ofNat row)), (6, .int a), (7, .int (Int32.ofNat i))] [.int (Int32.ofNat i), .int (Int32.ofNat row), .ref 70, .int a] (s_row_ 76 (f_md n row) i (s_start g)) u (fun big n0 => sg_se_64 big n0 (s_row_ 76 (f_md n row) i (s_start g)) u (Int32.ofNat m) (Int32.ofNat (10 + q)) f d (Int32.ofNat row) a (Int32.ofNat i)) ?_
    refine q_call (M2 := 203) (rest := [.int a]) (b_mby (Int32.ofNat row) (Int32.ofNat i) (s_row_ 76 (f_md n row) i (s_start g)) u) (fun _ _ => rfl) ?_
    refine q_step 5 88 [(0, .ref 70), (1, .int (Int32.ofNat m)), (2, .int (Int32.ofNat (10 + q))), (3, .int f), (4, .int d), (5, .int (Int32.ofNat row)), (6, .int a), (7, .int (Int32.ofNat i))] [.int ((5 : Int32) + (Int32.ofNat i)), .ref 71, .int (s_dg (Int32.ofNat row) (g 70 4) (Int32.ofNat i)), .int a] (s_row_ 76 (f_md n row) i (s_start g)) u (fun big n0 => sg_se_65 big n0 (s_row_ 76 (f_md n row) i (s_start g)) u (Int32.ofNat m) (Int32.ofNat (10 + q)) f d (Int32.ofNat row) a (Int32.ofNat i) a (s_dg (Int32.ofNat row) (g 70 4) (Int32.ofNat i))) ?_
    refine q_iald (j := (5 + i)) (s_rixn (K := 5) (i := i) (by omega)) rfl rfl ?_
    refine q_ic_eq rfl (fun (hc1 : (s_dg (Int32.ofNat row) (g 70 4) (Int32.ofNat i)) = ((s_start g) 71 (5 + i))) => ?_) (fun (hc1 : ¬ ((s_dg (Int32.ofNat row) (g 70 4) (Int32.ofNat i)) = ((s_start g) 71 (5 + i)))) => ?_)
    · refine q_step 1 97 [(0, .ref 70), (1, .int (Int32.ofNat m)), (2, .int (Int32.ofNat (10 + q))), (3, .int f), (4, .int d), (5, .int (Int32.ofNat row)), (6, .int a), (7, .int (Int32.ofNat i))] [.int (0 : Int32), .int a] (s_row_ 76 (f_md n row) i (s_start g)) u (fun big n0 => sg_se_66 big n0 (s_row_ 76 (f_md n row) i (s_start g)) u (Int32.ofNat m) (Int32.ofNat (10 + q)) f d (Int32.ofNat row) a (Int32.ofNat i) a) ?_
      refine q_call (M2 := 164) (rest := [.int a]) (b_flag0 _ _) (fun _ _ => rfl) ?_
      refine q_step 8 114 [(0, .ref 70), (1, .int (Int32.ofNat m)), (2, .int (Int32.ofNat (10 + q))), (3, .int f), (4, .int d), (5, .int (Int32.ofNat row)), (6, .int (a + (0 : Int32))), (7, .int (Int32.ofNat i))] [.int (Int32.ofNat i), .int (Int32.ofNat row), .ref 70, .int (Int32.ofNat i), .ref 76] (s_row_ 76 (f_md n row) i (s_start g)) u (fun big n0 => sg_se_67 big n0 (s_row_ 76 (f_md n row) i (s_start g)) u (Int32.ofNat m) (Int32.ofNat (10 + q)) f d (Int32.ofNat row) a (Int32.ofNat i) a) ?_
      refine q_call (M2 := 203) (rest := [.int (Int32.ofNat i), .ref 76]) (b_mby (Int32.ofNat row) (Int32.ofNat i) (s_row_ 76 (f_md n row) i (s_start g)) u) (fun _ _ => rfl) ?_
      refine q_iast (j := i) (q_ixn (by omega) (by omega)) rfl rfl ?_
      refine q_step 2 61 [(0, .ref 70), (1, .int (Int32.ofNat m)), (2, .int (Int32.ofNat (10 + q))), (3, .int f), (4, .int d), (5, .int (Int32.ofNat row)), (6, .int (a + (0 : Int32))), (7, .int ((Int32.ofNat i) + (1 : Int32)))] [] (q_up (s_row_ 76 (f_md n row) i (s_start g)) 76 i (s_dg (Int32.ofNat row) (g 70 4) (Int32.ofNat i))) u (fun big n0 => sg_se_68 big n0 (q_up (s_row_ 76 (f_md n row) i (s_start g)) 76 i (s_dg (Int32.ofNat row) (g 70 4) (Int32.ofNat i))) u (Int32.ofNat m) (Int32.ofNat (10 + q)) f d (Int32.ofNat row) (a + (0 : Int32)) (Int32.ofNat i)) ?_
      rw [s_ct_s (P := p_ust g (Int32.ofNat row)) (i := i) (by unfold p_ust; exact if_pos hc1)] at hk
      rw [q_succ, show (q_up (s_row_ 76 (f_md n row) i (s_start g)) 76 i (s_dg (Int32.ofNat row) (g 70 4) (Int32.ofNat i))) = (s_row_ 76 (f_md n row) (i + 1) (s_start g)) from by
        rw [hn]
        exact s_row_s]
      exact ih (i + 1) _ (by omega) hk
    · refine q_step 2 97 [(0, .ref 70), (1, .int (Int32.ofNat m)), (2, .int (Int32.ofNat (10 + q))), (3, .int f), (4, .int d), (5, .int (Int32.ofNat row)), (6, .int a), (7, .int (Int32.ofNat i))] [.int (1 : Int32), .int a] (s_row_ 76 (f_md n row) i (s_start g)) u (fun big n0 => sg_se_69 big n0 (s_row_ 76 (f_md n row) i (s_start g)) u (Int32.ofNat m) (Int32.ofNat (10 + q)) f d (Int32.ofNat row) a (Int32.ofNat i) a) ?_
      refine q_call (M2 := 164) (rest := [.int a]) (b_flag1 _ _) (fun _ _ => rfl) ?_
      refine q_step 8 114 [(0, .ref 70), (1, .int (Int32.ofNat m)), (2, .int (Int32.ofNat (10 + q))), (3, .int f), (4, .int d), (5, .int (Int32.ofNat row)), (6, .int (a + (1 : Int32))), (7, .int (Int32.ofNat i))] [.int (Int32.ofNat i), .int (Int32.ofNat row), .ref 70, .int (Int32.ofNat i), .ref 76] (s_row_ 76 (f_md n row) i (s_start g)) u (fun big n0 => sg_se_70 big n0 (s_row_ 76 (f_md n row) i (s_start g)) u (Int32.ofNat m) (Int32.ofNat (10 + q)) f d (Int32.ofNat row) a (Int32.ofNat i) a) ?_
      refine q_call (M2 := 203) (rest := [.int (Int32.ofNat i), .ref 76]) (b_mby (Int32.ofNat row) (Int32.ofNat i) (s_row_ 76 (f_md n row) i (s_start g)) u) (fun _ _ => rfl) ?_
      refine q_iast (j := i) (q_ixn (by omega) (by omega)) rfl rfl ?_
      refine q_step 2 61 [(0, .ref 70), (1, .int (Int32.ofNat m)), (2, .int (Int32.ofNat (10 + q))), (3, .int f), (4, .int d), (5, .int (Int32.ofNat row)), (6, .int (a + (1 : Int32))), (7, .int ((Int32.ofNat i) + (1 : Int32)))] [] (q_up (s_row_ 76 (f_md n row) i (s_start g)) 76 i (s_dg (Int32.ofNat row) (g 70 4) (Int32.ofNat i))) u (fun big n0 => sg_se_68 big n0 (q_up (s_row_ 76 (f_md n row) i (s_start g)) 76 i (s_dg (Int32.ofNat row) (g 70 4) (Int32.ofNat i))) u (Int32.ofNat m) (Int32.ofNat (10 + q)) f d (Int32.ofNat row) (a + (1 : Int32)) (Int32.ofNat i)) ?_
      rw [s_ct_s (P := p_ust g (Int32.ofNat row)) (i := i) (by unfold p_ust; exact if_neg hc1)] at hk
      rw [q_succ, show (q_up (s_row_ 76 (f_md n row) i (s_start g)) 76 i (s_dg (Int32.ofNat row) (g 70 4) (Int32.ofNat i))) = (s_row_ 76 (f_md n row) (i + 1) (s_start g)) from by
        rw [hn]
        exact s_row_s]
      exact ih (i + 1) _ (by omega) hk
theorem rso_1 {q : Nat} (u : qW) {n W H m : Nat} {r : qM} (h : w_ok n W H r) (hm : m ≤ 60) (h5 : n ≤ 5) (h6 : n ≤ 6) (h4n : 4 ^ n ≤ 4096) (hq : q < n) : ∀ k row b g, row + k = 4 ^ n → w_sm n (s_start g) r → (∀ p, p < n → g 71 (15 + p) = r 78 p) → (∀ c x, b = some (c, x) → c = n_un n r x ∧ x < 4 ^ n) → q_EV m_201 39 [(0, .ref 70), (1, .int (Int32.ofNat m)), (2, .int (Int32.ofNat (10 + q))), (3, .int (e_few b)), (4, .int (e_fnd b)), (5, .int (Int32.ofNat row))] [] g u (w_po w_fr g (.int (f_setp n q ((f_sr (n_un n r) (n_rch n m r) k row b).map (fun z => z.2))))) := by
  intro k
  induction k with
  | zero =>
    intro row b g hrow hs hg hb
    have hn : g 70 4 = Int32.ofNat n := w_pl h hs
    refine q_step 3 45 [(0, .ref 70), (1, .int (Int32.ofNat m)), (2, .int (Int32.ofNat (10 + q))), (3, .int (e_few b)), (4, .int (e_fnd b)), (5, .int (Int32.ofNat row))] [.int (g 70 4), .int (Int32.ofNat row)] g u (fun big n0 => sg_se_71 big n0 g u (Int32.ofNat m) (Int32.ofNat (10 + q)) (e_few b) (e_fnd b) (Int32.ofNat row)) ?_
    refine q_call (M2 := 202) (rest := [.int (Int32.ofNat row)]) (b_rrows _ _ _) (fun _ _ => rfl) ?_
    refine q_ic_ge rfl (fun (hc0 : (s_rows (g 70 4)) ≤ (Int32.ofNat row)) => ?_) (fun hc0 => absurd (show (s_rows (g 70 4)) ≤ (Int32.ofNat row) from by rw [hn, s_rows_n h6]; exact (q_le (by omega) (by omega)).mpr (by omega)) hc0)
    cases b with
    | none => 
      refine q_ret 6 (some (.int (Int8.toInt32 (Int8.ofInt (-4)))), g, u) (fun _ _ => rfl) ?_
      exact ⟨g, u, rfl, w_fr_rfl g⟩
    | some z => 
      obtain ⟨c, x⟩ := z
      have hbx := hb c x rfl
      refine q_step 2 155 [(0, .ref 70), (1, .int (Int32.ofNat m)), (2, .int (Int32.ofNat (10 + q))), (3, .int (Int32.ofNat c)), (4, .int (Int32.ofNat x)), (5, .int (Int32.ofNat row))] [.int (Int8.toInt32 (Int8.ofInt (-4))), .int (Int32.ofNat x)] g u (fun big n0 => sg_se_72 big n0 g u (Int32.ofNat m) (Int32.ofNat (10 + q)) (Int32.ofNat c) (Int32.ofNat x) (Int32.ofNat row)) ?_
      refine q_ic_ne rfl (fun hc0 => absurd (show (Int32.ofNat x) = (Int8.toInt32 (Int8.ofInt (-4))) from hc0) (q_none_ne (by omega))) (fun (hc0 : ¬ ((Int32.ofNat x) = (Int8.toInt32 (Int8.ofInt (-4))))) => ?_)
      refine q_step 1 164 [(0, .ref 70), (1, .int (Int32.ofNat m)), (2, .int (Int32.ofNat (10 + q))), (3, .int (Int32.ofNat c)), (4, .int (Int32.ofNat x)), (5, .int (Int32.ofNat row))] [.int (Int32.ofNat (10 + q))] g u (fun big n0 => sg_se_73 big n0 g u (Int32.ofNat m) (Int32.ofNat (10 + q)) (Int32.ofNat c) (Int32.ofNat x) (Int32.ofNat row)) ?_
      refine q_if_ne rfl (fun hc1 => absurd (show (Int32.ofNat (10 + q)) = 0 from hc1) (fun z => absurd ((q_eq (i := 10 + q) (j := 0) (by omega) (by omega)).mp z) (by omega))) (fun (hc1 : ¬ ((Int32.ofNat (10 + q)) = 0)) => ?_)
      refine q_step 5 178 [(0, .ref 70), (1, .int (Int32.ofNat m)), (2, .int (Int32.ofNat (10 + q))), (3, .int (Int32.ofNat c)), (4, .int (Int32.ofNat x)), (5, .int (Int32.ofNat row))] [.int ((Int32.ofNat (10 + q)) - (10 : Int32)), .int (Int32.ofNat x), .ref 70] g u (fun big n0 => sg_se_74 big n0 g u (Int32.ofNat m) (Int32.ofNat (10 + q)) (Int32.ofNat c) (Int32.ofNat x) (Int32.ofNat row)) ?_
      have hmb := b_mby (Int32.ofNat x) ((Int32.ofNat (10 + q)) - (10 : Int32)) g u
      rw [show s_dg (Int32.ofNat x) (g 70 4) ((Int32.ofNat (10 + q)) - (10 : Int32)) = f_md n x q from by
      rw [hn, show (Int32.ofNat (10 + q)) - (10 : Int32) = Int32.ofNat q from by rw [show (10 : Int32) = Int32.ofNat 10 from rfl, q_sb (by omega) (by omega)]; congr 1; omega]
      rfl] at hmb
      refine q_call (M2 := 203) (rest := []) (hmb) (fun _ _ => rfl) ?_
      refine q_ret 1 (some (.int (f_md n x q)), g, u) (fun _ _ => rfl) ?_
      exact ⟨g, u, rfl, w_fr_rfl g⟩
  | succ k ih =>
    intro row b g hrow hs hg hb
    have hn : g 70 4 = Int32.ofNat n := w_pl h hs
    refine q_step 3 45 [(0, .ref 70), (1, .int (Int32.ofNat m)), (2, .int (Int32.ofNat (10 + q))), (3, .int (e_few b)), (4, .int (e_fnd b)), (5, .int (Int32.ofNat row))] [.int (g 70 4), .int (Int32.ofNat row)] g u (fun big n0 => sg_se_71 big n0 g u (Int32.ofNat m) (Int32.ofNat (10 + q)) (e_few b) (e_fnd b) (Int32.ofNat row)) ?_
    refine q_call (M2 := 202) (rest := [.int (Int32.ofNat row)]) (b_rrows _ _ _) (fun _ _ => rfl) ?_
    refine q_ic_ge rfl (fun hc0 => absurd (show (s_rows (g 70 4)) ≤ (Int32.ofNat row) from hc0) (fun z => by rw [hn, s_rows_n h6] at z; exact absurd ((q_le (by omega) (by omega)).mp z) (by omega))) (fun (hc0 : ¬ ((s_rows (g 70 4)) ≤ (Int32.ofNat row))) => ?_)
    refine q_step 3 55 [(0, .ref 70), (1, .int (Int32.ofNat m)), (2, .int (Int32.ofNat (10 + q))), (3, .int (e_few b)), (4, .int (e_fnd b)), (5, .int (Int32.ofNat row)), (6, .int (0 : Int32))] [.ref 70] g u (fun big n0 => sg_se_75 big n0 g u (Int32.ofNat m) (Int32.ofNat (10 + q)) (e_few b) (e_fnd b) (Int32.ofNat row)) ?_
    refine q_call (M2 := 172) (rest := []) (b_starts g u) (fun _ _ => rfl) ?_
    refine q_step 2 61 [(0, .ref 70), (1, .int (Int32.ofNat m)), (2, .int (Int32.ofNat (10 + q))), (3, .int (e_few b)), (4, .int (e_fnd b)), (5, .int (Int32.ofNat row)), (6, .int (0 : Int32)), (7, .int (0 : Int32))] [] (s_start g) u (fun big n0 => sg_se_76 big n0 (s_start g) u (Int32.ofNat m) (Int32.ofNat (10 + q)) (e_few b) (e_fnd b) (Int32.ofNat row)) ?_
    have hct : s_ct (p_ust g (Int32.ofNat row)) n 0 0 = Int32.ofNat (n_un n r row) := (s_ct_cg n 0 0 (fun p _ hp => w_ust h hs h5 p (by omega))).trans (s_ct_n (p_un_01 n r row) n 0 0)
    have hul := n_un_le n r row
    have key := rse_1 (q := q) g u (m := m) (row := row) (f := e_few b) (d := e_fnd b) hn h5 (Q := w_po w_fr g (.int (f_setp n q ((f_sr (n_un n r) (n_rch n m r) (k + 1) row b).map (fun z => z.2))))) n 0 0 (by omega)
    rw [s_row_0, hct] at key
    refine key ?_
    have hul2 : n_un n r row < 1000 := by omega
    have hfr1 : w_fr g (s_row_ 76 (f_md n row) n (s_start g)) := s_start_fr.trans ⟨fun b hb => s_row_o (by omega), fun j _ => by rw [s_row_o (by omega)]⟩
    have hfr2 : w_fr g (s_rit n m (s_row_ 76 (f_md n row) n (s_start g))) := hfr1.trans (w_rit_fr m _)
    refine q_step 2 127 [(0, .ref 70), (1, .int (Int32.ofNat m)), (2, .int (Int32.ofNat (10 + q))), (3, .int (e_few b)), (4, .int (e_fnd b)), (5, .int (Int32.ofNat row)), (6, .int (Int32.ofNat (n_un n r row))), (7, .int (Int32.ofNat n))] [.int (e_few b), .int (Int32.ofNat (n_un n r row))] (s_row_ 76 (f_md n row) n (s_start g)) u (fun big n0 => sg_se_77 big n0 (s_row_ 76 (f_md n row) n (s_start g)) u (Int32.ofNat m) (Int32.ofNat (10 + q)) (e_few b) (e_fnd b) (Int32.ofNat row) (Int32.ofNat (n_un n r row)) (Int32.ofNat n)) ?_
    refine q_ic_ge rfl (fun (hc0 : (e_few b) ≤ (Int32.ofNat (n_un n r row))) => ?_) (fun (hc0 : ¬ ((e_few b) ≤ (Int32.ofNat (n_un n r row)))) => ?_)
    · refine q_step 2 39 [(0, .ref 70), (1, .int (Int32.ofNat m)), (2, .int (Int32.ofNat (10 + q))), (3, .int (e_few b)), (4, .int (e_fnd b)), (5, .int ((Int32.ofNat row) + (1 : Int32))), (6, .int (Int32.ofNat (n_un n r row))), (7, .int (Int32.ofNat n))] [] (s_row_ 76 (f_md n row) n (s_start g)) u (fun big n0 => sg_se_78 big n0 (s_row_ 76 (f_md n row) n (s_start g)) u (Int32.ofNat m) (Int32.ofNat (10 + q)) (e_few b) (e_fnd b) (Int32.ofNat row) (Int32.ofNat (n_un n r row)) (Int32.ofNat n)) ?_
      refine q_weak [(0, .ref 70), (1, .int (Int32.ofNat m)), (2, .int (Int32.ofNat (10 + q))), (3, .int (e_few b)), (4, .int (e_fnd b)), (5, .int ((Int32.ofNat row) + (1 : Int32)))] (q_sub.cons rfl (q_sub.cons rfl (q_sub.cons rfl (q_sub.cons rfl (q_sub.cons rfl (q_sub.cons rfl q_sub.nil)))))) ?_
      have e : f_sr (n_un n r) (n_rch n m r) (k + 1) row b = f_sr (n_un n r) (n_rch n m r) k (row + 1) b := by
        rw [f_sr]
        exact congrArg (f_sr (n_un n r) (n_rch n m r) k (row + 1)) (n_few0 (Or.inr (fun z => (Int32.not_lt.mpr hc0) ((n_fewlt hul2 hb (fun x => by have := n_un_le n r x; omega)).mpr z))))
      rw [e, q_succ]
      exact q_EV.imp (ih (row + 1) b (s_row_ 76 (f_md n row) n (s_start g)) (by omega) (w_st_sm hfr1 h5 hs) (fun p hp => by rw [hfr1.1 71 (by omega)]; exact hg p hp) hb) (fun R z => w_po_r hfr1 rfl z)
    · refine q_step 2 132 [(0, .ref 70), (1, .int (Int32.ofNat m)), (2, .int (Int32.ofNat (10 + q))), (3, .int (e_few b)), (4, .int (e_fnd b)), (5, .int (Int32.ofNat row)), (6, .int (Int32.ofNat (n_un n r row))), (7, .int (Int32.ofNat n))] [.int (Int32.ofNat m), .ref 70] (s_row_ 76 (f_md n row) n (s_start g)) u (fun big n0 => sg_se_79 big n0 (s_row_ 76 (f_md n row) n (s_start g)) u (Int32.ofNat m) (Int32.ofNat (10 + q)) (e_few b) (e_fnd b) (Int32.ofNat row) (Int32.ofNat (n_un n r row)) (Int32.ofNat n)) ?_
      by_cases hc1 : p_rch n m r row = 0
      · refine q_call (M2 := 204) (rest := []) (show q_BS 204 [.ref 70, .int (Int32.ofNat m)] (s_row_ 76 (f_md n row) n (s_start g)) u (some (.int (0 : Int32)), (s_rit n m (s_row_ 76 (f_md n row) n (s_start g))), u) from by
    have e := r_aat (g := (s_row_ 76 (f_md n row) n (s_start g))) u (w_ok_mo (row := row) h) (w_sm_mo hs) hm (fun p hp => (w_st78 h5 hp).trans (hg p hp)) hn hg
    rw [show (if f_at n (s_rit n m (gh_mo n row r)) = f_hav n (gh_mo n row r) then (1 : Int32) else 0) = p_rch n m r row from rfl, hc1] at e
    exact e) (fun _ _ => rfl) ?_
        refine q_step 3 39 [(0, .ref 70), (1, .int (Int32.ofNat m)), (2, .int (Int32.ofNat (10 + q))), (3, .int (e_few b)), (4, .int (e_fnd b)), (5, .int ((Int32.ofNat row) + (1 : Int32))), (6, .int (Int32.ofNat (n_un n r row))), (7, .int (Int32.ofNat n))] [] (s_rit n m (s_row_ 76 (f_md n row) n (s_start g))) u (fun big n0 => sg_se_80 big n0 (s_rit n m (s_row_ 76 (f_md n row) n (s_start g))) u (Int32.ofNat m) (Int32.ofNat (10 + q)) (e_few b) (e_fnd b) (Int32.ofNat row) (Int32.ofNat (n_un n r row)) (Int32.ofNat n)) ?_
        refine q_weak [(0, .ref 70), (1, .int (Int32.ofNat m)), (2, .int (Int32.ofNat (10 + q))), (3, .int (e_few b)), (4, .int (e_fnd b)), (5, .int ((Int32.ofNat row) + (1 : Int32)))] (q_sub.cons rfl (q_sub.cons rfl (q_sub.cons rfl (q_sub.cons rfl (q_sub.cons rfl (q_sub.cons rfl q_sub.nil)))))) ?_
        have e : f_sr (n_un n r) (n_rch n m r) (k + 1) row b = f_sr (n_un n r) (n_rch n m r) k (row + 1) b := by
          rw [f_sr]
          exact congrArg (f_sr (n_un n r) (n_rch n m r) k (row + 1)) (n_few0 (Or.inl (fun z => n_rch_iff.mp z hc1)))
        rw [e, q_succ]
        exact q_EV.imp (ih (row + 1) b (s_rit n m (s_row_ 76 (f_md n row) n (s_start g))) (by omega) (w_st_sm hfr2 h5 hs) (fun p hp => by rw [hfr2.1 71 (by omega)]; exact hg p hp) hb) (fun R z => w_po_r hfr2 rfl z)
      · refine q_call (M2 := 204) (rest := []) (show q_BS 204 [.ref 70, .int (Int32.ofNat m)] (s_row_ 76 (f_md n row) n (s_start g)) u (some (.int (1 : Int32)), (s_rit n m (s_row_ 76 (f_md n row) n (s_start g))), u) from by
    have e := r_aat (g := (s_row_ 76 (f_md n row) n (s_start g))) u (w_ok_mo (row := row) h) (w_sm_mo hs) hm (fun p hp => (w_st78 h5 hp).trans (hg p hp)) hn hg
    rw [show (if f_at n (s_rit n m (gh_mo n row r)) = f_hav n (gh_mo n row r) then (1 : Int32) else 0) = p_rch n m r row from rfl, (p_rch_01 n m r row).resolve_left hc1] at e
    exact e) (fun _ _ => rfl) ?_
        refine q_step 7 39 [(0, .ref 70), (1, .int (Int32.ofNat m)), (2, .int (Int32.ofNat (10 + q))), (3, .int (Int32.ofNat (n_un n r row))), (4, .int (Int32.ofNat row)), (5, .int ((Int32.ofNat row) + (1 : Int32))), (6, .int (Int32.ofNat (n_un n r row))), (7, .int (Int32.ofNat n))] [] (s_rit n m (s_row_ 76 (f_md n row) n (s_start g))) u (fun big n0 => sg_se_81 big n0 (s_rit n m (s_row_ 76 (f_md n row) n (s_start g))) u (Int32.ofNat m) (Int32.ofNat (10 + q)) (e_few b) (e_fnd b) (Int32.ofNat row) (Int32.ofNat (n_un n r row)) (Int32.ofNat n)) ?_
        refine q_weak [(0, .ref 70), (1, .int (Int32.ofNat m)), (2, .int (Int32.ofNat (10 + q))), (3, .int (Int32.ofNat (n_un n r row))), (4, .int (Int32.ofNat row)), (5, .int ((Int32.ofNat row) + (1 : Int32)))] (q_sub.cons rfl (q_sub.cons rfl (q_sub.cons rfl (q_sub.cons rfl (q_sub.cons rfl (q_sub.cons rfl q_sub.nil)))))) ?_
        have e : f_sr (n_un n r) (n_rch n m r) (k + 1) row b = f_sr (n_un n r) (n_rch n m r) k (row + 1) (some (n_un n r row, row)) := by
          rw [f_sr]
          exact congrArg (f_sr (n_un n r) (n_rch n m r) k (row + 1)) (n_few1 (n_rch_iff.mpr hc1) ((n_fewlt hul2 hb (fun x => by have := n_un_le n r x; omega)).mp (Int32.not_le.mp hc0)))
        rw [e, q_succ]
        exact q_EV.imp (ih (row + 1) (some (n_un n r row, row)) (s_rit n m (s_row_ 76 (f_md n row) n (s_start g))) (by omega) (w_st_sm hfr2 h5 hs) (fun p hp => by rw [hfr2.1 71 (by omega)]; exact hg p hp) (fun c x z => by cases z; exact ⟨rfl, by omega⟩)) (fun R z => w_po_r hfr2 rfl z)
theorem r_set1 {n W H : Nat} {g r : qM} (u : qW) (h : w_ok n W H r) (hs : w_sm n (s_start g) r) (h5 : n ≤ 5) {m : Nat} (hm : m ≤ 12) (hg : ∀ p, p < n → g 71 (15 + p) = r 78 p) {q : Nat} (hq : q < n) : w_BS w_fr 201 [.ref 70, .int (Int32.ofNat m), .int (Int32.ofNat (10 + q))] g u (.int (f_setp n q (f_set n m r))) := by
  refine w_bs (mm := m_201) rfl (Nat.le_of_ble_eq_true rfl) rfl ?_
  refine q_step 4 6 [(0, .ref 70), (1, .int (Int32.ofNat m)), (2, .int (Int32.ofNat (10 + q)))] [.long (12 : Int64), .long (0 : Int64), .long (Int32.toInt64 (Int32.ofNat m))] g u (fun big n0 => sg_se_82 big n0 g u (Int32.ofNat m) (Int32.ofNat (10 + q))) ?_
  refine q_call (M2 := 149) (rest := []) (b_in1 (m := m) (lo := 0) (hi := 12) g u (by omega) (by omega) (by omega)) (fun _ _ => rfl) ?_
  refine q_step 2 13 [(0, .ref 70), (1, .int (Int32.ofNat m)), (2, .int (Int32.ofNat (10 + q)))] [.int (Int32.ofNat (10 + q))] g u (fun big n0 => sg_se_83 big n0 g u (Int32.ofNat m) (Int32.ofNat (10 + q))) ?_
  refine q_if_eq rfl (fun hc0 => absurd (show (Int32.ofNat (10 + q)) = 0 from hc0) (fun z => absurd ((q_eq (i := 10 + q) (j := 0) (by omega) (by omega)).mp z) (by omega))) (fun (hc0 : ¬ ((Int32.ofNat (10 + q)) = 0)) => ?_)
  refine q_step 4 21 [(0, .ref 70), (1, .int (Int32.ofNat m)), (2, .int (Int32.ofNat (10 + q)))] [.int ((Int32.ofNat (10 + q)) - (10 : Int32)), .ref 70] g u (fun big n0 => sg_se_84 big n0 g u (Int32.ofNat m) (Int32.ofNat (10 + q))) ?_
  refine q_call (M2 := 169) (rest := []) (by rw [show (Int32.ofNat (10 + q)) - (10 : Int32) = Int32.ofNat q from by rw [show (10 : Int32) = Int32.ofNat 10 from rfl, q_sb (by omega) (by omega)]; congr 1; omega]; exact b_risOne1 g u (w_pl h hs) (by omega) hq) (fun _ _ => rfl) ?_
  refine q_step 7 39 [(0, .ref 70), (1, .int (Int32.ofNat m)), (2, .int (Int32.ofNat (10 + q))), (3, .int (1000000 : Int32)), (4, .int (Int8.toInt32 (Int8.ofInt (-4)))), (5, .int (0 : Int32))] [] g u (fun big n0 => sg_se_85 big n0 g u (Int32.ofNat m) (Int32.ofNat (10 + q))) ?_
  have key := rso_1 u h (m := m) (by omega) h5 (by omega) (s_4n (by omega)) hq (4 ^ n) 0 none g (by omega) hs hg (fun c x z => by cases z)
  rw [f_sr_so (K := n + 1) (fun y _ => Nat.lt_succ_of_le (n_un_le n r y)), Option.map_map, show ((fun z => z.2) ∘ fun x => (n_un n r x, x)) = (id : Nat → Nat) from rfl, Option.map_id] at key
  exact key
