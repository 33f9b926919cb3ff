/-! AGAIN: marks. -/
theorem q_div {a b : Nat} (ha : a < 1000000) (hb : b < 1000000) : Int32.ofNat a / Int32.ofNat b = Int32.ofNat (a / b) := by
  apply q_inj
  have hl := Nat.div_le_self a b
  rw [Int32.toInt_div, q_nat ha, q_nat hb, q_nat (by omega)]
  show Int.bmod ((a / b : Nat) : Int) _ = ((a / b : Nat) : Int)
  generalize a / b = x at hl ⊢
  exact Int.bmod_eq_of_le (by omega) (by omega)
theorem q_sb {a b : Nat} (ha : a < 1000000) (hb : b ≤ a) : Int32.ofNat a - Int32.ofNat b = Int32.ofNat (a - b) := by
  apply q_inj
  rw [s_sub (by rw [q_nat ha, q_nat (by omega)]; omega) (by rw [q_nat ha, q_nat (by omega)]; omega), q_nat ha, q_nat (by omega), q_nat (by omega)]
  omega
theorem q_mul (a b : Nat) : Int32.ofNat a * Int32.ofNat b = Int32.ofNat (a * b) := (Int32.ofNat_mul a b).symm
theorem q_add (a b : Nat) : Int32.ofNat a + Int32.ofNat b = Int32.ofNat (a + b) := (Int32.ofNat_add a b).symm
theorem q_rem {a b : Nat} (ha : a < 1000000) (hb : b < 1000000) : Int32.ofNat a - Int32.ofNat a / Int32.ofNat b * Int32.ofNat b = Int32.ofNat (a % b) := by
  have hl := Nat.div_mul_le_self a b
  rw [q_div ha hb, q_mul, q_sb ha hl]
  congr 1
  have := Nat.div_add_mod' a b
  omega
/-- a number by its digits -/
def n_f (B : Nat) (d : Nat → Nat) : Nat → Nat → Nat → Nat
  | 0, _, a => a
  | k + 1, i, a => n_f B d k (i + 1) (a * B + d i)
theorem n_dig {B a a' d d' : Nat} (h : d < B) (h' : d' < B) : a * B + d = a' * B + d' ↔ a = a' ∧ d = d' := by
  constructor
  · intro e
    have hB : 0 < B := by omega
    have e1 : (d + a * B) / B = a := by rw [Nat.add_mul_div_right d a hB, Nat.div_eq_of_lt h, Nat.zero_add]
    have e2 : (d' + a' * B) / B = a' := by rw [Nat.add_mul_div_right d' a' hB, Nat.div_eq_of_lt h', Nat.zero_add]
    have e3 : a = a' := by
      rw [← e1, ← e2]
      congr 1
      omega
    subst e3
    exact ⟨rfl, by omega⟩
  · rintro ⟨rfl, rfl⟩
    rfl
theorem n_f_inj {B : Nat} {d d' : Nat → Nat} : ∀ k i a a', (∀ j, i ≤ j → j < i + k → d j < B ∧ d' j < B) → (n_f B d k i a = n_f B d' k i a' ↔ a = a' ∧ ∀ j, i ≤ j → j < i + k → d j = d' j)
  | 0, i, a, a', _ => ⟨fun h => ⟨h, fun j h1 h2 => by omega⟩, fun h => h.1⟩
  | k + 1, i, a, a', h => by
    have h0 := h i (Nat.le_refl _) (by omega)
    rw [n_f, n_f, n_f_inj k (i + 1) _ _ (fun j h1 h2 => h j (by omega) (by omega)), n_dig h0.1 h0.2]
    constructor
    · rintro ⟨⟨e1, e2⟩, e3⟩
      refine ⟨e1, fun j h1 h2 => ?_⟩
      by_cases q : j = i
      · rw [q, e2]
      · exact e3 j (by omega) (by omega)
    · rintro ⟨e1, e2⟩
      exact ⟨⟨e1, e2 i (Nat.le_refl _) (by omega)⟩, fun j h1 h2 => e2 j (by omega) (by omega)⟩
theorem n_f_lt {B : Nat} {d : Nat → Nat} (hB : 0 < B) : ∀ k i a, (∀ j, i ≤ j → j < i + k → d j < B) → n_f B d k i a < (a + 1) * B ^ k
  | 0, i, a, _ => by rw [n_f, Nat.pow_zero]; omega
  | k + 1, i, a, h => by
    have h0 := h i (Nat.le_refl _) (by omega)
    have ih := n_f_lt hB k (i + 1) (a * B + d i) (fun j h1 h2 => h j (by omega) (by omega))
    rw [n_f]
    refine Nat.lt_of_lt_of_le ih ?_
    rw [Nat.pow_succ, Nat.mul_comm (B ^ k) B, ← Nat.mul_assoc]
    refine Nat.mul_le_mul_right _ ?_
    rw [Nat.add_mul]
    omega
/-- the class's mark, the reference's rows -/
def s_mkf (c mo : Nat → Int32) : Nat → Nat → Int64 → Int64
  | 0, _, a => a
  | k + 1, i, a => s_mkf c mo k (i + 1) (a * (128 : Int64) + Int32.toInt64 (c i * (4 : Int32)) + Int32.toInt64 (mo i))
def s_rwf (m : Int32) (f : Nat → Int32) : Nat → Nat → Int32 → Int32
  | 0, _, a => a
  | k + 1, i, a => s_rwf m f k (i + 1) (a * m + f i)
theorem s_i64 {x : Nat} (h : x < 1000000) : Int32.toInt64 (Int32.ofNat x) = Int64.ofNat x := by
  apply Int64.toInt_inj.mp
  rw [Int32.toInt_toInt64, q_nat h, Int64.toInt_ofNat_of_lt (by omega)]
theorem s_mkf_n {c mo : Nat → Int32} {C M : Nat → Nat} : ∀ k i a, (∀ j, i ≤ j → j < i + k → c j = Int32.ofNat (C j) ∧ mo j = Int32.ofNat (M j) ∧ C j < 25 ∧ M j < 4) → s_mkf c mo k i (Int64.ofNat a) = Int64.ofNat (n_f 128 (fun j => C j * 4 + M j) k i a)
  | 0, _, _, _ => rfl
  | k + 1, i, a, h => by
    obtain ⟨h1, h2, h3, h4⟩ := h i (Nat.le_refl _) (by omega)
    rw [s_mkf, n_f, ← s_mkf_n k (i + 1) _ (fun j a b => h j (by omega) (by omega)), h1, h2]
    rw [show (4 : Int32) = Int32.ofNat 4 from rfl, q_mul, s_i64 (by omega), s_i64 (by omega), show (128 : Int64) = Int64.ofNat 128 from rfl, ← Int64.ofNat_mul, ← Int64.ofNat_add, ← Int64.ofNat_add, Nat.add_assoc]
theorem s_rwf_n {f : Nat → Int32} {F : Nat → Nat} {B : Nat} : ∀ k i a, (∀ j, i ≤ j → j < i + k → f j = Int32.ofNat (F j)) → s_rwf (Int32.ofNat B) f k i (Int32.ofNat a) = Int32.ofNat (n_f B F k i a)
  | 0, _, _, _ => rfl
  | k + 1, i, a, h => by
    rw [s_rwf, n_f, ← s_rwf_n k (i + 1) _ (fun j a b => h j (by omega) (by omega)), h i (Nat.le_refl _) (by omega), q_mul, q_add]
def f_mk (n : Nat) (r : qM) : Int64 := s_mkf (r 75) (r 76) n 0 0
def f_cr (n : Nat) (r : qM) : Int32 := s_rwf 25 (r 75) n 0 0
def f_mr (n : Nat) (r : qM) : Int32 := s_rwf 4 (r 76) n 0 0
theorem s_mkf_cg {c c' mo mo' : Nat → Int32} : ∀ k i a, (∀ j, i ≤ j → j < i + k → c j = c' j ∧ mo j = mo' j) → s_mkf c mo k i a = s_mkf c' mo' k i a
  | 0, _, _, _ => rfl
  | k + 1, i, a, h => by
    rw [s_mkf, s_mkf, (h i (Nat.le_refl _) (by omega)).1, (h i (Nat.le_refl _) (by omega)).2, s_mkf_cg k (i + 1) _ (fun j a b => h j (by omega) (by omega))]
theorem s_rwf_cg {m : Int32} {f f' : Nat → Int32} : ∀ k i a, (∀ j, i ≤ j → j < i + k → f j = f' j) → s_rwf m f k i a = s_rwf m f' k i a
  | 0, _, _, _ => rfl
  | k + 1, i, a, h => by
    rw [s_rwf, s_rwf, h i (Nat.le_refl _) (by omega), s_rwf_cg k (i + 1) _ (fun j a b => h j (by omega) (by omega))]
theorem w_dig {n W H : Nat} {r : qM} (h : w_ok n W H r) : ∀ p, p < n → r 75 p = Int32.ofNat (r 75 p).toInt.toNat ∧ r 76 p = Int32.ofNat (r 76 p).toInt.toNat ∧ (r 75 p).toInt.toNat < 25 ∧ (r 76 p).toInt.toNat < 4 := fun p hp => by
  have hWH : W * H ≤ 25 := Nat.le_trans (Nat.mul_le_mul h.1.2.1 h.1.2.2.2.1) (Nat.le_refl 25)
  obtain ⟨C, hC, e⟩ := h.2.2.2.2.1 p hp
  have e2 : (r 75 p).toInt.toNat = C := by rw [e, q_nat (by omega)]; omega
  refine ⟨by rw [e2]; exact e, ?_, by omega, ?_⟩
  · rcases h.2.2.2.2.2.2.2.1 p hp with z | z | z | z <;> rw [z] <;> rfl
  · rcases h.2.2.2.2.2.2.2.1 p hp with z | z | z | z <;> rw [z] <;> decide
/-- marks tell CELLS and MOODS apart, as the rows do -/
theorem w_mk {n W H : Nat} {r r' : qM} (h : w_ok n W H r) (h' : w_ok n W H r') : (f_cr n r = f_cr n r' ∧ f_mr n r = f_mr n r') ↔ f_mk n r = f_mk n r' := by
  have d := w_dig h
  have d' := w_dig h'
  have h6 := h.1.2.2.2.2
  have pw : ∀ B, 0 < B → B ^ n ≤ B ^ 6 := fun B hB => Nat.pow_le_pow_right hB h6
  unfold f_cr f_mr f_mk
  have a1 := s_rwf_n (f := r 75) (F := fun p => (r 75 p).toInt.toNat) (B := 25) n 0 0 (fun j _ hj => (d j (by omega)).1)
  have a1' := s_rwf_n (f := r' 75) (F := fun p => (r' 75 p).toInt.toNat) (B := 25) n 0 0 (fun j _ hj => (d' j (by omega)).1)
  have a2 := s_rwf_n (f := r 76) (F := fun p => (r 76 p).toInt.toNat) (B := 4) n 0 0 (fun j _ hj => (d j (by omega)).2.1)
  have a2' := s_rwf_n (f := r' 76) (F := fun p => (r' 76 p).toInt.toNat) (B := 4) n 0 0 (fun j _ hj => (d' j (by omega)).2.1)
  have a3 := s_mkf_n (c := r 75) (mo := r 76) (C := fun p => (r 75 p).toInt.toNat) (M := fun p => (r 76 p).toInt.toNat) n 0 0 (fun j _ hj => d j (by omega))
  have a3' := s_mkf_n (c := r' 75) (mo := r' 76) (C := fun p => (r' 75 p).toInt.toNat) (M := fun p => (r' 76 p).toInt.toNat) n 0 0 (fun j _ hj => d' j (by omega))
  have b1 := n_f_lt (B := 25) (d := fun p => (r 75 p).toInt.toNat) (by omega) n 0 0 (fun j _ hj => (d j (by omega)).2.2.1)
  have b1' := n_f_lt (B := 25) (d := fun p => (r' 75 p).toInt.toNat) (by omega) n 0 0 (fun j _ hj => (d' j (by omega)).2.2.1)
  have b2 := n_f_lt (B := 4) (d := fun p => (r 76 p).toInt.toNat) (by omega) n 0 0 (fun j _ hj => (d j (by omega)).2.2.2)
  have b2' := n_f_lt (B := 4) (d := fun p => (r' 76 p).toInt.toNat) (by omega) n 0 0 (fun j _ hj => (d' j (by omega)).2.2.2)
  have dd : ∀ j, 0 ≤ j → j < 0 + n → (r 75 j).toInt.toNat * 4 + (r 76 j).toInt.toNat < 128 ∧ (r' 75 j).toInt.toNat * 4 + (r' 76 j).toInt.toNat < 128 := fun j _ hj => by
    have x := d j (by omega)
    have y := d' j (by omega)
    omega
  have b3 := n_f_lt (B := 128) (d := fun p => (r 75 p).toInt.toNat * 4 + (r 76 p).toInt.toNat) (by omega) n 0 0 (fun j x y => (dd j x y).1)
  have b3' := n_f_lt (B := 128) (d := fun p => (r' 75 p).toInt.toNat * 4 + (r' 76 p).toInt.toNat) (by omega) n 0 0 (fun j x y => (dd j x y).2)
  have p1 := pw 25 (by omega)
  have p2 := pw 4 (by omega)
  have p3 := pw 128 (by omega)
  have x1 : (25 : Nat) ^ 6 = 244140625 := rfl
  have x2 : (4 : Nat) ^ 6 = 4096 := rfl
  have x3 : (128 : Nat) ^ 6 = 4398046511104 := rfl
  have i32 : ∀ a b : Nat, a < 2147483648 → b < 2147483648 → (Int32.ofNat a = Int32.ofNat b ↔ a = b) := fun a b ha hb => ⟨fun e => by
    have z := congrArg Int32.toInt e
    rw [Int32.toInt_ofNat_of_lt (by omega), Int32.toInt_ofNat_of_lt (by omega)] at z
    omega, fun e => by rw [e]⟩
  have i64 : ∀ a b : Nat, a < 4398046511104 → b < 4398046511104 → (Int64.ofNat a = Int64.ofNat b ↔ a = b) := fun a b ha hb => ⟨fun e => by
    have z := congrArg Int64.toInt e
    rw [Int64.toInt_ofNat_of_lt (by omega), Int64.toInt_ofNat_of_lt (by omega)] at z
    omega, fun e => by rw [e]⟩
  rw [show s_rwf 25 (r 75) n 0 0 = Int32.ofNat _ from a1, show s_rwf 25 (r' 75) n 0 0 = Int32.ofNat _ from a1', show s_rwf 4 (r 76) n 0 0 = Int32.ofNat _ from a2, show s_rwf 4 (r' 76) n 0 0 = Int32.ofNat _ from a2', show s_mkf (r 75) (r 76) n 0 0 = Int64.ofNat _ from a3, show s_mkf (r' 75) (r' 76) n 0 0 = Int64.ofNat _ from a3']
  rw [i32 _ _ (by omega) (by omega), i32 _ _ (by omega) (by omega), i64 _ _ (by omega) (by omega), n_f_inj n 0 0 0 (fun j _ hj => ⟨(d j (by omega)).2.2.1, (d' j (by omega)).2.2.1⟩), n_f_inj n 0 0 0 (fun j _ hj => ⟨(d j (by omega)).2.2.2, (d' j (by omega)).2.2.2⟩), n_f_inj n 0 0 0 dd]
  constructor
  · rintro ⟨⟨_, e1⟩, ⟨_, e2⟩⟩
    exact ⟨rfl, fun j x y => by
      show (r 75 j).toInt.toNat * 4 + (r 76 j).toInt.toNat = (r' 75 j).toInt.toNat * 4 + (r' 76 j).toInt.toNat
      have e1 : (r 75 j).toInt.toNat = (r' 75 j).toInt.toNat := e1 j x y
      have e2 : (r 76 j).toInt.toNat = (r' 76 j).toInt.toNat := e2 j x y
      rw [e1, e2]⟩
  · rintro ⟨_, e⟩
    have key : ∀ j, 0 ≤ j → j < 0 + n → (r 75 j).toInt.toNat = (r' 75 j).toInt.toNat ∧ (r 76 j).toInt.toNat = (r' 76 j).toInt.toNat := fun j x y => by
      have e0 : (r 75 j).toInt.toNat * 4 + (r 76 j).toInt.toNat = (r' 75 j).toInt.toNat * 4 + (r' 76 j).toInt.toNat := e j x y
      have u1 := (d j (by omega)).2.2.2
      have u2 := (d' j (by omega)).2.2.2
      omega
    exact ⟨⟨rfl, fun j x y => (key j x y).1⟩, ⟨rfl, fun j x y => (key j x y).2⟩⟩
/-- the first that is the same as i -/
def f_in (M : Nat → Int64) (i : Nat) : Nat → Nat → Option Nat
  | 0, _ => none
  | k + 1, j => if M j = M i then some j else f_in M i k (j + 1)
def f_ou (M : Nat → Int64) : Nat → Nat → Option (Nat × Nat)
  | 0, _ => none
  | k + 1, i => match f_in M i i 0 with
    | some j => some (j, i - j)
    | none => f_ou M k (i + 1)
theorem f_in_lt {M : Nat → Int64} {i : Nat} : ∀ k j x, f_in M i k j = some x → j ≤ x ∧ x < j + k
  | 0, _, _, h => by cases h
  | k + 1, j, x, h => by
    unfold f_in at h
    split at h
    · cases h
      omega
    · have := f_in_lt k (j + 1) x h
      omega
theorem f_ou_lt {M : Nat → Int64} : ∀ k i a b, f_ou M k i = some (a, b) → a + b < i + k ∧ a ≤ i + k
  | 0, _, _, _, h => by cases h
  | k + 1, i, a, b, h => by
    unfold f_ou at h
    split at h
    · rename_i j hj
      cases h
      have := f_in_lt _ _ _ hj
      omega
    · have := f_ou_lt k (i + 1) a b h
      omega
def f_enc : Option (Nat × Nat) → Int32
  | none => i_none
  | some (a, b) => Int32.ofNat (a * 1024 + b)
/-- what again() answers -/
def f_ag (n : Nat) (r : qM) : Option (Nat × Nat) := f_ou (fun j => f_mk n (s_rit n j r)) 61 0
def f_agw (w : Nat) : Option (Nat × Nat) → Int32
  | none => i_none
  | some (a, b) => if w = 0 then Int32.ofNat a else Int32.ofNat b
theorem s_lcmp0 {x y : Int64} : lg_cmp x y = 0 ↔ x = y := by
  constructor
  · intro h
    apply Int64.toInt_inj.mp
    have h1 : ¬ x < y := fun z => by
      rw [← s_cmpl, h] at z
      exact absurd z (by decide)
    have h2 : ¬ y < x := fun z => by
      rw [← s_cmpg, h] at z
      exact absurd z (by decide)
    rw [Int64.lt_iff_toInt_lt] at h1 h2
    omega
  · rintro rfl
    unfold lg_cmp
    rw [if_neg (fun z => by
      have z : x < x := z
      rw [Int64.lt_iff_toInt_lt] at z
      omega), if_pos rfl]
theorem s_rit_add {n : Nat} (k : Nat) (r : qM) : s_rst n (s_rit n k r) = s_rit n (k + 1) r := (s_rit_s n k r).symm
/-- the rows of i, as the reference counts them up -/
def s_agm (g : qM) (i : Nat) (x y : Int32) : qM := q_up (q_up g 82 i x) 83 i y
theorem s_agm_s {g : qM} {i : Nat} {x y x' y' : Int32} : q_up (q_up (s_agm g i x y) 82 i x') 83 i y' = s_agm g i x' y' := by
  funext a j
  unfold s_agm
  simp only [q_up_eq]
  by_cases h1 : a = 83
  · by_cases h2 : j = i
    · simp [h1, h2]
    · simp [h1, h2]
  · by_cases h2 : a = 82
    · by_cases h3 : j = i
      · simp [h2, h3]
      · simp [h2, h3]
    · simp [h1, h2]
theorem s_agm_x {g : qM} {i : Nat} {x y : Int32} : (s_agm g i x y) 82 i = x := by
  unfold s_agm
  rw [q_up_ne (by omega), q_up_at, if_pos rfl]
theorem s_agm_y {g : qM} {i : Nat} {x y : Int32} : (s_agm g i x y) 83 i = y := by
  unfold s_agm
  rw [q_up_at, if_pos rfl]
theorem s_agm_xo {g : qM} {i j : Nat} {x y : Int32} (h : j ≠ i) : (s_agm g i x y) 82 j = g 82 j := by
  unfold s_agm
  rw [q_up_ne (by omega), q_up_at, if_neg h]
theorem s_agm_yo {g : qM} {i j : Nat} {x y : Int32} (h : j ≠ i) : (s_agm g i x y) 83 j = g 83 j := by
  unfold s_agm
  rw [q_up_at, if_neg h, q_up_ne (by omega)]
theorem q_none_ne {j : Nat} (h : j < 1000000) : Int32.ofNat j ≠ i_none := fun z => by
  have e := congrArg Int32.toInt z
  rw [q_nat h] at e
  have e2 : i_none.toInt = -4 := by decide
  omega
theorem sg_ag_1 (big : Nat → List Value → qM → qW → qR) (n0 : Nat) (G : qM) (U : qW) (v0 : Int64) (v1 : Int32) : qm_run pm_m big m_86 (n0 + 3) 4 [(0, .ref 35), (1, .long v0), (3, .int v1)] [] G U = qm_run pm_m big m_86 n0 9 [(0, .ref 35), (1, .long v0), (3, .int v1)] [.int (G 35 3), .int v1] G U := rfl
theorem sg_ag_2 (big : Nat → List Value → qM → qW → qR) (n0 : Nat) (G : qM) (U : qW) (v0 : Int64) (v1 : Int32) : qm_run pm_m big m_86 (n0 + 6) 12 [(0, .ref 35), (1, .long v0), (3, .int v1)] [] G U = qm_run pm_m big m_86 n0 22 [(0, .ref 35), (1, .long v0), (3, .int v1)] [.int v1, .ref 36, .long (v0 * (128 : Int64))] G U := rfl
theorem sg_ag_3 (big : Nat → List Value → qM → qW → qR) (n0 : Nat) (G : qM) (U : qW) (v0 : Int64) (v1 : Int32) (v2 : Int64) (v3 : Int32) : qm_run pm_m big m_86 (n0 + 7) 23 [(0, .ref 35), (1, .long v0), (3, .int v1)] [.int v3, .long v2] G U = qm_run pm_m big m_86 n0 32 [(0, .ref 35), (1, .long v0), (3, .int v1)] [.int v1, .ref 37, .long (v2 + (Int32.toInt64 (v3 * (4 : Int32))))] G U := rfl
theorem sg_ag_4 (big : Nat → List Value → qM → qW → qR) (n0 : Nat) (G : qM) (U : qW) (v0 : Int64) (v1 : Int32) (v2 : Int64) (v3 : Int32) : qm_run pm_m big m_86 (n0 + 5) 33 [(0, .ref 35), (1, .long v0), (3, .int v1)] [.int v3, .long v2] G U = qm_run pm_m big m_86 n0 4 [(0, .ref 35), (1, .long (v2 + (Int32.toInt64 v3))), (3, .int (v1 + (1 : Int32)))] [] G U := rfl
theorem sg_ag_5 (big : Nat → List Value → qM → qW → qR) (n0 : Nat) (G : qM) (U : qW) : qm_run pm_m big m_86 (n0 + 4) 0 [(0, .ref 35)] [] G U = qm_run pm_m big m_86 n0 4 [(0, .ref 35), (1, .long (0 : Int64)), (3, .int (0 : Int32))] [] G U := rfl
theorem sg_ag_6 (big : Nat → List Value → qM → qW → qR) (n0 : Nat) (G : qM) (U : qW) (v0 : Int32) (v1 : Int64) (v2 : Int32) : qm_run pm_m big m_85 (n0 + 2) 27 [(0, .ref 34), (1, .ref 20), (2, .int v0), (3, .long v1), (5, .int v2)] [] G U = qm_run pm_m big m_85 n0 30 [(0, .ref 34), (1, .ref 20), (2, .int v0), (3, .long v1), (5, .int v2)] [.int v0, .int v2] G U := rfl
theorem sg_ag_7 (big : Nat → List Value → qM → qW → qR) (n0 : Nat) (G : qM) (U : qW) (v0 : Int32) (v1 : Int64) (v2 : Int32) : qm_run pm_m big m_85 (n0 + 3) 33 [(0, .ref 34), (1, .ref 20), (2, .int v0), (3, .long v1), (5, .int v2)] [] G U = qm_run pm_m big m_85 n0 39 [(0, .ref 34), (1, .ref 20), (2, .int v0), (3, .long v1), (5, .int v2)] [.int v2, .ref 43] G U := rfl
theorem sg_ag_8 (big : Nat → List Value → qM → qW → qR) (n0 : Nat) (G : qM) (U : qW) (v0 : Int32) (v1 : Int64) (v2 : Int32) (v3 : Int64) : qm_run pm_m big m_85 (n0 + 2) 40 [(0, .ref 34), (1, .ref 20), (2, .int v0), (3, .long v1), (5, .int v2)] [.long v3] G U = qm_run pm_m big m_85 n0 42 [(0, .ref 34), (1, .ref 20), (2, .int v0), (3, .long v1), (5, .int v2)] [.int (lg_cmp v3 v1)] G U := rfl
theorem sg_ag_9 (big : Nat → List Value → qM → qW → qR) (n0 : Nat) (G : qM) (U : qW) (v0 : Int32) (v1 : Int64) (v2 : Int32) : qm_run pm_m big m_85 (n0 + 2) 57 [(0, .ref 34), (1, .ref 20), (2, .int v0), (3, .long v1), (5, .int v2)] [] G U = qm_run pm_m big m_85 n0 27 [(0, .ref 34), (1, .ref 20), (2, .int v0), (3, .long v1), (5, .int (v2 + (1 : Int32)))] [] G U := rfl
theorem sg_ag_10 (big : Nat → List Value → qM → qW → qR) (n0 : Nat) (G : qM) (U : qW) (v0 : Int32) : qm_run pm_m big m_85 (n0 + 2) 10 [(0, .ref 34), (1, .ref 20), (2, .int v0)] [] G U = qm_run pm_m big m_85 n0 13 [(0, .ref 34), (1, .ref 20), (2, .int v0)] [.int (60 : Int32), .int v0] G U := rfl
theorem sg_ag_11 (big : Nat → List Value → qM → qW → qR) (n0 : Nat) (G : qM) (U : qW) (v0 : Int32) : qm_run pm_m big m_85 (n0 + 2) 16 [(0, .ref 34), (1, .ref 20), (2, .int v0)] [] G U = qm_run pm_m big m_85 n0 20 [(0, .ref 34), (1, .ref 20), (2, .int v0)] [.ref 35] G U := rfl
theorem sg_ag_12 (big : Nat → List Value → qM → qW → qR) (n0 : Nat) (G : qM) (U : qW) (v0 : Int32) (v1 : Int64) : qm_run pm_m big m_85 (n0 + 3) 23 [(0, .ref 34), (1, .ref 20), (2, .int v0)] [.long v1] G U = qm_run pm_m big m_85 n0 27 [(0, .ref 34), (1, .ref 20), (2, .int v0), (3, .long v1), (5, .int (0 : Int32))] [] G U := rfl
theorem sg_ag_13 (big : Nat → List Value → qM → qW → qR) (n0 : Nat) (G : qM) (U : qW) (v0 : Int32) (v1 : Int64) (v2 : Int32) : qm_run pm_m big m_85 (n0 + 4) 63 [(0, .ref 34), (1, .ref 20), (2, .int v0), (3, .long v1), (5, .int v2)] [] G U = qm_run pm_m big m_85 n0 69 [(0, .ref 34), (1, .ref 20), (2, .int v0), (3, .long v1), (5, .int v2)] [.long v1, .int v0, .ref 43] G U := rfl
theorem sg_ag_14 (big : Nat → List Value → qM → qW → qR) (n0 : Nat) (G : qM) (U : qW) (v0 : Int32) (v1 : Int64) (v2 : Int32) : qm_run pm_m big m_85 (n0 + 4) 70 [(0, .ref 34), (1, .ref 20), (2, .int v0), (3, .long v1), (5, .int v2)] [] G U = qm_run pm_m big m_85 n0 78 [(0, .ref 34), (1, .ref 20), (2, .int v0), (3, .long v1), (5, .int v2)] [.ref 35, .ref 28] G U := rfl
theorem sg_ag_15 (big : Nat → List Value → qM → qW → qR) (n0 : Nat) (G : qM) (U : qW) (v0 : Int32) (v1 : Int64) (v2 : Int32) : qm_run pm_m big m_85 (n0 + 2) 81 [(0, .ref 34), (1, .ref 20), (2, .int v0), (3, .long v1), (5, .int v2)] [] G U = qm_run pm_m big m_85 n0 10 [(0, .ref 34), (1, .ref 20), (2, .int (v0 + (1 : Int32))), (3, .long v1), (5, .int v2)] [] G U := rfl
theorem sg_ag_16 (big : Nat → List Value → qM → qW → qR) (n0 : Nat) (G : qM) (U : qW) : qm_run pm_m big m_85 (n0 + 3) 0 [(0, .ref 34), (1, .ref 20)] [] G U = qm_run pm_m big m_85 n0 5 [(0, .ref 34), (1, .ref 20)] [.ref 20, .ref 35] G U := rfl
theorem sg_ag_17 (big : Nat → List Value → qM → qW → qR) (n0 : Nat) (G : qM) (U : qW) : qm_run pm_m big m_85 (n0 + 2) 8 [(0, .ref 34), (1, .ref 20)] [] G U = qm_run pm_m big m_85 n0 10 [(0, .ref 34), (1, .ref 20), (2, .int (0 : Int32))] [] G U := rfl
theorem sg_ag_18 (big : Nat → List Value → qM → qW → qR) (n0 : Nat) (G : qM) (U : qW) : qm_run pm_m big m_84 (n0 + 1) 0 [(0, .ref 8), (1, .int (0 : Int32))] [] G U = qm_run pm_m big m_84 n0 1 [(0, .ref 8), (1, .int (0 : Int32))] [.int (0 : Int32)] G U := rfl
theorem sg_ag_19 (big : Nat → List Value → qM → qW → qR) (n0 : Nat) (G : qM) (U : qW) : qm_run pm_m big m_84 (n0 + 5) 4 [(0, .ref 8), (1, .int (0 : Int32))] [.int (1 : Int32)] G U = qm_run pm_m big m_84 n0 17 [(0, .ref 8), (1, .int (0 : Int32))] [.ref 20, .ref 34] G U := rfl
theorem sg_ag_20 (big : Nat → List Value → qM → qW → qR) (n0 : Nat) (G : qM) (U : qW) (v0 : Int32) : qm_run pm_m big m_84 (n0 + 3) 20 [(0, .ref 8), (1, .int (0 : Int32))] [.int v0] G U = qm_run pm_m big m_84 n0 24 [(0, .ref 8), (1, .int (0 : Int32)), (2, .int v0)] [.int (Int8.toInt32 (Int8.ofInt (-4))), .int v0] G U := rfl
theorem sg_ag_21 (big : Nat → List Value → qM → qW → qR) (n0 : Nat) (G : qM) (U : qW) (v0 : Int32) : qm_run pm_m big m_84 (n0 + 3) 30 [(0, .ref 8), (1, .int (0 : Int32)), (2, .int v0)] [] G U = qm_run pm_m big m_84 n0 35 [(0, .ref 8), (1, .int (0 : Int32)), (2, .int v0)] [.int v0] G U := rfl
theorem sg_ag_22 (big : Nat → List Value → qM → qW → qR) (n0 : Nat) (G : qM) (U : qW) : qm_run pm_m big m_84 (n0 + 1) 0 [(0, .ref 8), (1, .int (1 : Int32))] [] G U = qm_run pm_m big m_84 n0 1 [(0, .ref 8), (1, .int (1 : Int32))] [.int (1 : Int32)] G U := rfl
theorem sg_ag_23 (big : Nat → List Value → qM → qW → qR) (n0 : Nat) (G : qM) (U : qW) : qm_run pm_m big m_84 (n0 + 5) 4 [(0, .ref 8), (1, .int (1 : Int32))] [.int (1 : Int32)] G U = qm_run pm_m big m_84 n0 17 [(0, .ref 8), (1, .int (1 : Int32))] [.ref 20, .ref 34] G U := rfl
theorem sg_ag_24 (big : Nat → List Value → qM → qW → qR) (n0 : Nat) (G : qM) (U : qW) (v0 : Int32) : qm_run pm_m big m_84 (n0 + 3) 20 [(0, .ref 8), (1, .int (1 : Int32))] [.int v0] G U = qm_run pm_m big m_84 n0 24 [(0, .ref 8), (1, .int (1 : Int32)), (2, .int v0)] [.int (Int8.toInt32 (Int8.ofInt (-4))), .int v0] G U := rfl
theorem sg_ag_25 (big : Nat → List Value → qM → qW → qR) (n0 : Nat) (G : qM) (U : qW) (v0 : Int32) : qm_run pm_m big m_84 (n0 + 3) 30 [(0, .ref 8), (1, .int (1 : Int32)), (2, .int v0)] [] G U = qm_run pm_m big m_84 n0 42 [(0, .ref 8), (1, .int (1 : Int32)), (2, .int v0)] [.int v0] G U := rfl
theorem sg_ag_26 (big : Nat → List Value → qM → qW → qR) (n0 : Nat) (G : qM) (U : qW) (v0 : Int32) (v1 : Int32) : qm_run pm_m big m_200 (n0 + 3) 40 [(0, .ref 70), (1, .int (0 : Int32)), (2, .int v0), (3, .int v1)] [] G U = qm_run pm_m big m_200 n0 45 [(0, .ref 70), (1, .int (0 : Int32)), (2, .int v0), (3, .int v1)] [.int (G 70 27), .int v1] G U := rfl
theorem sg_ag_27 (big : Nat → List Value → qM → qW → qR) (n0 : Nat) (G : qM) (U : qW) (v0 : Int32) (v1 : Int32) : qm_run pm_m big m_200 (n0 + 6) 48 [(0, .ref 70), (1, .int (0 : Int32)), (2, .int v0), (3, .int v1)] [] G U = qm_run pm_m big m_200 n0 58 [(0, .ref 70), (1, .int (0 : Int32)), (2, .int v0), (3, .int v1)] [.int v0, .ref 82, .int v0, .ref 82] G U := rfl
theorem sg_ag_28 (big : Nat → List Value → qM → qW → qR) (n0 : Nat) (G : qM) (U : qW) (v0 : Int32) (v1 : Int32) (v2 : Int32) (v3 : Int32) : qm_run pm_m big m_200 (n0 + 5) 59 [(0, .ref 70), (1, .int (0 : Int32)), (2, .int v0), (3, .int v1)] [.int v3, .int v2, .ref 82] G U = qm_run pm_m big m_200 n0 67 [(0, .ref 70), (1, .int (0 : Int32)), (2, .int v0), (3, .int v1)] [.int v1, .ref 75, .int (v3 * (25 : Int32)), .int v2, .ref 82] G U := rfl
theorem sg_ag_29 (big : Nat → List Value → qM → qW → qR) (n0 : Nat) (G : qM) (U : qW) (v0 : Int32) (v1 : Int32) (v2 : Int32) (v3 : Int32) (v4 : Int32) : qm_run pm_m big m_200 (n0 + 1) 68 [(0, .ref 70), (1, .int (0 : Int32)), (2, .int v0), (3, .int v1)] [.int v4, .int v3, .int v2, .ref 82] G U = qm_run pm_m big m_200 n0 69 [(0, .ref 70), (1, .int (0 : Int32)), (2, .int v0), (3, .int v1)] [.int (v3 + v4), .int v2, .ref 82] G U := rfl
theorem sg_ag_30 (big : Nat → List Value → qM → qW → qR) (n0 : Nat) (G : qM) (U : qW) (v0 : Int32) (v1 : Int32) : qm_run pm_m big m_200 (n0 + 6) 70 [(0, .ref 70), (1, .int (0 : Int32)), (2, .int v0), (3, .int v1)] [] G U = qm_run pm_m big m_200 n0 80 [(0, .ref 70), (1, .int (0 : Int32)), (2, .int v0), (3, .int v1)] [.int v0, .ref 83, .int v0, .ref 83] G U := rfl
theorem sg_ag_31 (big : Nat → List Value → qM → qW → qR) (n0 : Nat) (G : qM) (U : qW) (v0 : Int32) (v1 : Int32) (v2 : Int32) (v3 : Int32) : qm_run pm_m big m_200 (n0 + 5) 81 [(0, .ref 70), (1, .int (0 : Int32)), (2, .int v0), (3, .int v1)] [.int v3, .int v2, .ref 83] G U = qm_run pm_m big m_200 n0 88 [(0, .ref 70), (1, .int (0 : Int32)), (2, .int v0), (3, .int v1)] [.int v1, .ref 76, .int (v3 * (4 : Int32)), .int v2, .ref 83] G U := rfl
theorem sg_ag_32 (big : Nat → List Value → qM → qW → qR) (n0 : Nat) (G : qM) (U : qW) (v0 : Int32) (v1 : Int32) (v2 : Int32) (v3 : Int32) (v4 : Int32) : qm_run pm_m big m_200 (n0 + 1) 89 [(0, .ref 70), (1, .int (0 : Int32)), (2, .int v0), (3, .int v1)] [.int v4, .int v3, .int v2, .ref 83] G U = qm_run pm_m big m_200 n0 90 [(0, .ref 70), (1, .int (0 : Int32)), (2, .int v0), (3, .int v1)] [.int (v3 + v4), .int v2, .ref 83] G U := rfl
theorem sg_ag_33 (big : Nat → List Value → qM → qW → qR) (n0 : Nat) (G : qM) (U : qW) (v0 : Int32) (v1 : Int32) : qm_run pm_m big m_200 (n0 + 2) 91 [(0, .ref 70), (1, .int (0 : Int32)), (2, .int v0), (3, .int v1)] [] G U = qm_run pm_m big m_200 n0 40 [(0, .ref 70), (1, .int (0 : Int32)), (2, .int v0), (3, .int (v1 + (1 : Int32)))] [] G U := rfl
theorem sg_ag_34 (big : Nat → List Value → qM → qW → qR) (n0 : Nat) (G : qM) (U : qW) (v0 : Int32) (v1 : Int32) : qm_run pm_m big m_200 (n0 + 2) 99 [(0, .ref 70), (1, .int (0 : Int32)), (2, .int v0), (3, .int v1)] [] G U = qm_run pm_m big m_200 n0 101 [(0, .ref 70), (1, .int (0 : Int32)), (2, .int v0), (3, .int v1)] [.int v0, .int v1] G U := rfl
theorem sg_ag_35 (big : Nat → List Value → qM → qW → qR) (n0 : Nat) (G : qM) (U : qW) (v0 : Int32) (v1 : Int32) : qm_run pm_m big m_200 (n0 + 3) 104 [(0, .ref 70), (1, .int (0 : Int32)), (2, .int v0), (3, .int v1)] [] G U = qm_run pm_m big m_200 n0 109 [(0, .ref 70), (1, .int (0 : Int32)), (2, .int v0), (3, .int v1)] [.int v1, .ref 82] G U := rfl
theorem sg_ag_36 (big : Nat → List Value → qM → qW → qR) (n0 : Nat) (G : qM) (U : qW) (v0 : Int32) (v1 : Int32) (v2 : Int32) : qm_run pm_m big m_200 (n0 + 3) 110 [(0, .ref 70), (1, .int (0 : Int32)), (2, .int v0), (3, .int v1)] [.int v2] G U = qm_run pm_m big m_200 n0 115 [(0, .ref 70), (1, .int (0 : Int32)), (2, .int v0), (3, .int v1)] [.int v0, .ref 82, .int v2] G U := rfl
theorem sg_ag_37 (big : Nat → List Value → qM → qW → qR) (n0 : Nat) (G : qM) (U : qW) (v0 : Int32) (v1 : Int32) : qm_run pm_m big m_200 (n0 + 3) 119 [(0, .ref 70), (1, .int (0 : Int32)), (2, .int v0), (3, .int v1)] [] G U = qm_run pm_m big m_200 n0 124 [(0, .ref 70), (1, .int (0 : Int32)), (2, .int v0), (3, .int v1)] [.int v1, .ref 83] G U := rfl
theorem sg_ag_38 (big : Nat → List Value → qM → qW → qR) (n0 : Nat) (G : qM) (U : qW) (v0 : Int32) (v1 : Int32) (v2 : Int32) : qm_run pm_m big m_200 (n0 + 3) 125 [(0, .ref 70), (1, .int (0 : Int32)), (2, .int v0), (3, .int v1)] [.int v2] G U = qm_run pm_m big m_200 n0 130 [(0, .ref 70), (1, .int (0 : Int32)), (2, .int v0), (3, .int v1)] [.int v0, .ref 83, .int v2] G U := rfl
theorem sg_ag_39 (big : Nat → List Value → qM → qW → qR) (n0 : Nat) (G : qM) (U : qW) (v0 : Int32) (v1 : Int32) : qm_run pm_m big m_200 (n0 + 2) 146 [(0, .ref 70), (1, .int (0 : Int32)), (2, .int v0), (3, .int v1)] [] G U = qm_run pm_m big m_200 n0 99 [(0, .ref 70), (1, .int (0 : Int32)), (2, .int v0), (3, .int (v1 + (1 : Int32)))] [] G U := rfl
theorem sg_ag_40 (big : Nat → List Value → qM → qW → qR) (n0 : Nat) (G : qM) (U : qW) (v0 : Int32) : qm_run pm_m big m_200 (n0 + 2) 18 [(0, .ref 70), (1, .int (0 : Int32)), (2, .int v0)] [] G U = qm_run pm_m big m_200 n0 21 [(0, .ref 70), (1, .int (0 : Int32)), (2, .int v0)] [.int (60 : Int32), .int v0] G U := rfl
theorem sg_ag_41 (big : Nat → List Value → qM → qW → qR) (n0 : Nat) (G : qM) (U : qW) (v0 : Int32) : qm_run pm_m big m_200 (n0 + 4) 24 [(0, .ref 70), (1, .int (0 : Int32)), (2, .int v0)] [] G U = qm_run pm_m big m_200 n0 30 [(0, .ref 70), (1, .int (0 : Int32)), (2, .int v0)] [.int (0 : Int32), .int v0, .ref 82] G U := rfl
theorem sg_ag_42 (big : Nat → List Value → qM → qW → qR) (n0 : Nat) (G : qM) (U : qW) (v0 : Int32) : qm_run pm_m big m_200 (n0 + 4) 31 [(0, .ref 70), (1, .int (0 : Int32)), (2, .int v0)] [] G U = qm_run pm_m big m_200 n0 37 [(0, .ref 70), (1, .int (0 : Int32)), (2, .int v0)] [.int (0 : Int32), .int v0, .ref 83] G U := rfl
theorem sg_ag_43 (big : Nat → List Value → qM → qW → qR) (n0 : Nat) (G : qM) (U : qW) (v0 : Int32) : qm_run pm_m big m_200 (n0 + 2) 38 [(0, .ref 70), (1, .int (0 : Int32)), (2, .int v0)] [] G U = qm_run pm_m big m_200 n0 40 [(0, .ref 70), (1, .int (0 : Int32)), (2, .int v0), (3, .int (0 : Int32))] [] G U := rfl
theorem sg_ag_44 (big : Nat → List Value → qM → qW → qR) (n0 : Nat) (G : qM) (U : qW) (v0 : Int32) (v1 : Int32) : qm_run pm_m big m_200 (n0 + 2) 97 [(0, .ref 70), (1, .int (0 : Int32)), (2, .int v0), (3, .int v1)] [] G U = qm_run pm_m big m_200 n0 99 [(0, .ref 70), (1, .int (0 : Int32)), (2, .int v0), (3, .int (0 : Int32))] [] G U := rfl
theorem sg_ag_45 (big : Nat → List Value → qM → qW → qR) (n0 : Nat) (G : qM) (U : qW) (v0 : Int32) (v1 : Int32) : qm_run pm_m big m_200 (n0 + 1) 152 [(0, .ref 70), (1, .int (0 : Int32)), (2, .int v0), (3, .int v1)] [] G U = qm_run pm_m big m_200 n0 153 [(0, .ref 70), (1, .int (0 : Int32)), (2, .int v0), (3, .int v1)] [.ref 70] G U := rfl
theorem sg_ag_46 (big : Nat → List Value → qM → qW → qR) (n0 : Nat) (G : qM) (U : qW) (v0 : Int32) (v1 : Int32) (v2 : Int32) : qm_run pm_m big m_200 (n0 + 3) 156 [(0, .ref 70), (1, .int (0 : Int32)), (2, .int v0), (3, .int v1)] [.int v2] G U = qm_run pm_m big m_200 n0 18 [(0, .ref 70), (1, .int (0 : Int32)), (2, .int (v0 + (1 : Int32))), (3, .int v1)] [] G U := rfl
theorem sg_ag_47 (big : Nat → List Value → qM → qW → qR) (n0 : Nat) (G : qM) (U : qW) : qm_run pm_m big m_200 (n0 + 4) 0 [(0, .ref 70), (1, .int (0 : Int32))] [] G U = qm_run pm_m big m_200 n0 4 [(0, .ref 70), (1, .int (0 : Int32))] [.long (1 : Int64), .long (0 : Int64), .long (0 : Int64)] G U := rfl
theorem sg_ag_48 (big : Nat → List Value → qM → qW → qR) (n0 : Nat) (G : qM) (U : qW) : qm_run pm_m big m_200 (n0 + 2) 7 [(0, .ref 70), (1, .int (0 : Int32))] [.int (1 : Int32)] G U = qm_run pm_m big m_200 n0 13 [(0, .ref 70), (1, .int (0 : Int32))] [.ref 70] G U := rfl
theorem sg_ag_49 (big : Nat → List Value → qM → qW → qR) (n0 : Nat) (G : qM) (U : qW) : qm_run pm_m big m_200 (n0 + 2) 16 [(0, .ref 70), (1, .int (0 : Int32))] [] G U = qm_run pm_m big m_200 n0 18 [(0, .ref 70), (1, .int (0 : Int32)), (2, .int (0 : Int32))] [] G U := rfl
theorem sg_ag_50 (big : Nat → List Value → qM → qW → qR) (n0 : Nat) (G : qM) (U : qW) (v0 : Int32) (v1 : Int32) : qm_run pm_m big m_200 (n0 + 3) 40 [(0, .ref 70), (1, .int (1 : Int32)), (2, .int v0), (3, .int v1)] [] G U = qm_run pm_m big m_200 n0 45 [(0, .ref 70), (1, .int (1 : Int32)), (2, .int v0), (3, .int v1)] [.int (G 70 27), .int v1] G U := rfl
theorem sg_ag_51 (big : Nat → List Value → qM → qW → qR) (n0 : Nat) (G : qM) (U : qW) (v0 : Int32) (v1 : Int32) : qm_run pm_m big m_200 (n0 + 6) 48 [(0, .ref 70), (1, .int (1 : Int32)), (2, .int v0), (3, .int v1)] [] G U = qm_run pm_m big m_200 n0 58 [(0, .ref 70), (1, .int (1 : Int32)), (2, .int v0), (3, .int v1)] [.int v0, .ref 82, .int v0, .ref 82] G U := rfl
theorem sg_ag_52 (big : Nat → List Value → qM → qW → qR) (n0 : Nat) (G : qM) (U : qW) (v0 : Int32) (v1 : Int32) (v2 : Int32) (v3 : Int32) : qm_run pm_m big m_200 (n0 + 5) 59 [(0, .ref 70), (1, .int (1 : Int32)), (2, .int v0), (3, .int v1)] [.int v3, .int v2, .ref 82] G U = qm_run pm_m big m_200 n0 67 [(0, .ref 70), (1, .int (1 : Int32)), (2, .int v0), (3, .int v1)] [.int v1, .ref 75, .int (v3 * (25 : Int32)), .int v2, .ref 82] G U := rfl
theorem sg_ag_53 (big : Nat → List Value → qM → qW → qR) (n0 : Nat) (G : qM) (U : qW) (v0 : Int32) (v1 : Int32) (v2 : Int32) (v3 : Int32) (v4 : Int32) : qm_run pm_m big m_200 (n0 + 1) 68 [(0, .ref 70), (1, .int (1 : Int32)), (2, .int v0), (3, .int v1)] [.int v4, .int v3, .int v2, .ref 82] G U = qm_run pm_m big m_200 n0 69 [(0, .ref 70), (1, .int (1 : Int32)), (2, .int v0), (3, .int v1)] [.int (v3 + v4), .int v2, .ref 82] G U := rfl
theorem sg_ag_54 (big : Nat → List Value → qM → qW → qR) (n0 : Nat) (G : qM) (U : qW) (v0 : Int32) (v1 : Int32) : qm_run pm_m big m_200 (n0 + 6) 70 [(0, .ref 70), (1, .int (1 : Int32)), (2, .int v0), (3, .int v1)] [] G U = qm_run pm_m big m_200 n0 80 [(0, .ref 70), (1, .int (1 : Int32)), (2, .int v0), (3, .int v1)] [.int v0, .ref 83, .int v0, .ref 83] G U := rfl
theorem sg_ag_55 (big : Nat → List Value → qM → qW → qR) (n0 : Nat) (G : qM) (U : qW) (v0 : Int32) (v1 : Int32) (v2 : Int32) (v3 : Int32) : qm_run pm_m big m_200 (n0 + 5) 81 [(0, .ref 70), (1, .int (1 : Int32)), (2, .int v0), (3, .int v1)] [.int v3, .int v2, .ref 83] G U = qm_run pm_m big m_200 n0 88 [(0, .ref 70), (1, .int (1 : Int32)), (2, .int v0), (3, .int v1)] [.int v1, .ref 76, .int (v3 * (4 : Int32)), .int v2, .ref 83] G U := rfl
theorem sg_ag_56 (big : Nat → List Value → qM → qW → qR) (n0 : Nat) (G : qM) (U : qW) (v0 : Int32) (v1 : Int32) (v2 : Int32) (v3 : Int32) (v4 : Int32) : qm_run pm_m big m_200 (n0 + 1) 89 [(0, .ref 70), (1, .int (1 : Int32)), (2, .int v0), (3, .int v1)] [.int v4, .int v3, .int v2, .ref 83] G U = qm_run pm_m big m_200 n0 90 [(0, .ref 70), (1, .int (1 : Int32)), (2, .int v0), (3, .int v1)] [.int (v3 + v4), .int v2, .ref 83] G U := rfl
theorem sg_ag_57 (big : Nat → List Value → qM → qW → qR) (n0 : Nat) (G : qM) (U : qW) (v0 : Int32) (v1 : Int32) : qm_run pm_m big m_200 (n0 + 2) 91 [(0, .ref 70), (1, .int (1 : Int32)), (2, .int v0), (3, .int v1)] [] G U = qm_run pm_m big m_200 n0 40 [(0, .ref 70), (1, .int (1 : Int32)), (2, .int v0), (3, .int (v1 + (1 : Int32)))] [] G U := rfl
theorem sg_ag_58 (big : Nat → List Value → qM → qW → qR) (n0 : Nat) (G : qM) (U : qW) (v0 : Int32) (v1 : Int32) : qm_run pm_m big m_200 (n0 + 2) 99 [(0, .ref 70), (1, .int (1 : Int32)), (2, .int v0), (3, .int v1)] [] G U = qm_run pm_m big m_200 n0 101 [(0, .ref 70), (1, .int (1 : Int32)), (2, .int v0), (3, .int v1)] [.int v0, .int v1] G U := rfl
theorem sg_ag_59 (big : Nat → List Value → qM → qW → qR) (n0 : Nat) (G : qM) (U : qW) (v0 : Int32) (v1 : Int32) : qm_run pm_m big m_200 (n0 + 3) 104 [(0, .ref 70), (1, .int (1 : Int32)), (2, .int v0), (3, .int v1)] [] G U = qm_run pm_m big m_200 n0 109 [(0, .ref 70), (1, .int (1 : Int32)), (2, .int v0), (3, .int v1)] [.int v1, .ref 82] G U := rfl
theorem sg_ag_60 (big : Nat → List Value → qM → qW → qR) (n0 : Nat) (G : qM) (U : qW) (v0 : Int32) (v1 : Int32) (v2 : Int32) : qm_run pm_m big m_200 (n0 + 3) 110 [(0, .ref 70), (1, .int (1 : Int32)), (2, .int v0), (3, .int v1)] [.int v2] G U = qm_run pm_m big m_200 n0 115 [(0, .ref 70), (1, .int (1 : Int32)), (2, .int v0), (3, .int v1)] [.int v0, .ref 82, .int v2] G U := rfl
theorem sg_ag_61 (big : Nat → List Value → qM → qW → qR) (n0 : Nat) (G : qM) (U : qW) (v0 : Int32) (v1 : Int32) : qm_run pm_m big m_200 (n0 + 3) 119 [(0, .ref 70), (1, .int (1 : Int32)), (2, .int v0), (3, .int v1)] [] G U = qm_run pm_m big m_200 n0 124 [(0, .ref 70), (1, .int (1 : Int32)), (2, .int v0), (3, .int v1)] [.int v1, .ref 83] G U := rfl
theorem sg_ag_62 (big : Nat → List Value → qM → qW → qR) (n0 : Nat) (G : qM) (U : qW) (v0 : Int32) (v1 : Int32) (v2 : Int32) : qm_run pm_m big m_200 (n0 + 3) 125 [(0, .ref 70), (1, .int (1 : Int32)), (2, .int v0), (3, .int v1)] [.int v2] G U = qm_run pm_m big m_200 n0 130 [(0, .ref 70), (1, .int (1 : Int32)), (2, .int v0), (3, .int v1)] [.int v0, .ref 83, .int v2] G U := rfl
theorem sg_ag_63 (big : Nat → List Value → qM → qW → qR) (n0 : Nat) (G : qM) (U : qW) (v0 : Int32) (v1 : Int32) : qm_run pm_m big m_200 (n0 + 2) 146 [(0, .ref 70), (1, .int (1 : Int32)), (2, .int v0), (3, .int v1)] [] G U = qm_run pm_m big m_200 n0 99 [(0, .ref 70), (1, .int (1 : Int32)), (2, .int v0), (3, .int (v1 + (1 : Int32)))] [] G U := rfl
theorem sg_ag_64 (big : Nat → List Value → qM → qW → qR) (n0 : Nat) (G : qM) (U : qW) (v0 : Int32) : qm_run pm_m big m_200 (n0 + 2) 18 [(0, .ref 70), (1, .int (1 : Int32)), (2, .int v0)] [] G U = qm_run pm_m big m_200 n0 21 [(0, .ref 70), (1, .int (1 : Int32)), (2, .int v0)] [.int (60 : Int32), .int v0] G U := rfl
theorem sg_ag_65 (big : Nat → List Value → qM → qW → qR) (n0 : Nat) (G : qM) (U : qW) (v0 : Int32) : qm_run pm_m big m_200 (n0 + 4) 24 [(0, .ref 70), (1, .int (1 : Int32)), (2, .int v0)] [] G U = qm_run pm_m big m_200 n0 30 [(0, .ref 70), (1, .int (1 : Int32)), (2, .int v0)] [.int (0 : Int32), .int v0, .ref 82] G U := rfl
theorem sg_ag_66 (big : Nat → List Value → qM → qW → qR) (n0 : Nat) (G : qM) (U : qW) (v0 : Int32) : qm_run pm_m big m_200 (n0 + 4) 31 [(0, .ref 70), (1, .int (1 : Int32)), (2, .int v0)] [] G U = qm_run pm_m big m_200 n0 37 [(0, .ref 70), (1, .int (1 : Int32)), (2, .int v0)] [.int (0 : Int32), .int v0, .ref 83] G U := rfl
theorem sg_ag_67 (big : Nat → List Value → qM → qW → qR) (n0 : Nat) (G : qM) (U : qW) (v0 : Int32) : qm_run pm_m big m_200 (n0 + 2) 38 [(0, .ref 70), (1, .int (1 : Int32)), (2, .int v0)] [] G U = qm_run pm_m big m_200 n0 40 [(0, .ref 70), (1, .int (1 : Int32)), (2, .int v0), (3, .int (0 : Int32))] [] G U := rfl
theorem sg_ag_68 (big : Nat → List Value → qM → qW → qR) (n0 : Nat) (G : qM) (U : qW) (v0 : Int32) (v1 : Int32) : qm_run pm_m big m_200 (n0 + 2) 97 [(0, .ref 70), (1, .int (1 : Int32)), (2, .int v0), (3, .int v1)] [] G U = qm_run pm_m big m_200 n0 99 [(0, .ref 70), (1, .int (1 : Int32)), (2, .int v0), (3, .int (0 : Int32))] [] G U := rfl
theorem sg_ag_69 (big : Nat → List Value → qM → qW → qR) (n0 : Nat) (G : qM) (U : qW) (v0 : Int32) (v1 : Int32) : qm_run pm_m big m_200 (n0 + 1) 152 [(0, .ref 70), (1, .int (1 : Int32)), (2, .int v0), (3, .int v1)] [] G U = qm_run pm_m big m_200 n0 153 [(0, .ref 70), (1, .int (1 : Int32)), (2, .int v0), (3, .int v1)] [.ref 70] G U := rfl
theorem sg_ag_70 (big : Nat → List Value → qM → qW → qR) (n0 : Nat) (G : qM) (U : qW) (v0 : Int32) (v1 : Int32) (v2 : Int32) : qm_run pm_m big m_200 (n0 + 3) 156 [(0, .ref 70), (1, .int (1 : Int32)), (2, .int v0), (3, .int v1)] [.int v2] G U = qm_run pm_m big m_200 n0 18 [(0, .ref 70), (1, .int (1 : Int32)), (2, .int (v0 + (1 : Int32))), (3, .int v1)] [] G U := rfl
theorem sg_ag_71 (big : Nat → List Value → qM → qW → qR) (n0 : Nat) (G : qM) (U : qW) : qm_run pm_m big m_200 (n0 + 4) 0 [(0, .ref 70), (1, .int (1 : Int32))] [] G U = qm_run pm_m big m_200 n0 4 [(0, .ref 70), (1, .int (1 : Int32))] [.long (1 : Int64), .long (0 : Int64), .long (1 : Int64)] G U := rfl
theorem sg_ag_72 (big : Nat → List Value → qM → qW → qR) (n0 : Nat) (G : qM) (U : qW) : qm_run pm_m big m_200 (n0 + 2) 7 [(0, .ref 70), (1, .int (1 : Int32))] [.int (1 : Int32)] G U = qm_run pm_m big m_200 n0 13 [(0, .ref 70), (1, .int (1 : Int32))] [.ref 70] G U := rfl
theorem sg_ag_73 (big : Nat → List Value → qM → qW → qR) (n0 : Nat) (G : qM) (U : qW) : qm_run pm_m big m_200 (n0 + 2) 16 [(0, .ref 70), (1, .int (1 : Int32))] [] G U = qm_run pm_m big m_200 n0 18 [(0, .ref 70), (1, .int (1 : Int32)), (2, .int (0 : Int32))] [] G U := rfl
theorem mk_l (g : qM) (u : qW) {n : Nat} (hn : g 35 3 = Int32.ofNat n) (h6 : n ≤ 6) : ∀ k i a, i + k = n → q_EV m_86 4 [(0, .ref 35), (1, .long a), (3, .int (Int32.ofNat i))] [] g u (fun R => R = (some (.long (s_mkf (g 36) (g 37) k i a)), g, u)) := by
  intro k
  induction k with
  | zero =>
    intro i a hi
    refine q_step 3 9 [(0, .ref 35), (1, .long a), (3, .int (Int32.ofNat i))] [.int (g 35 3), .int (Int32.ofNat i)] g u (fun big n0 => sg_ag_1 big n0 g u a (Int32.ofNat i)) ?_
    refine q_ic_ge rfl (fun (hc0 : (g 35 3) ≤ (Int32.ofNat i)) => ?_) (fun hc0 => absurd (show (g 35 3) ≤ (Int32.ofNat i) from by rw [hn]; exact (q_le (by omega) (by omega)).mpr (by omega)) hc0)
    refine q_ret 2 (some (.long a), g, u) (fun _ _ => rfl) ?_
    rfl
  | succ k ih =>
    intro i a hi
    refine q_step 3 9 [(0, .ref 35), (1, .long a), (3, .int (Int32.ofNat i))] [.int (g 35 3), .int (Int32.ofNat i)] g u (fun big n0 => sg_ag_1 big n0 g u a (Int32.ofNat i)) ?_
    refine q_ic_ge rfl (fun hc0 => absurd (show (g 35 3) ≤ (Int32.ofNat i) from hc0) (fun z => by rw [hn] at z; exact absurd ((q_le (by omega) (by omega)).mp z) (by omega))) (fun (hc0 : ¬ ((g 35 3) ≤ (Int32.ofNat i))) => ?_)
    refine q_step 6 22 [(0, .ref 35), (1, .long a), (3, .int (Int32.ofNat i))] [.int (Int32.ofNat i), .ref 36, .long (a * (128 : Int64))] g u (fun big n0 => sg_ag_2 big n0 g u a (Int32.ofNat i)) ?_
    refine q_iald (j := i) (q_ixn (by omega) (by omega)) rfl rfl ?_
    refine q_step 7 32 [(0, .ref 35), (1, .long a), (3, .int (Int32.ofNat i))] [.int (Int32.ofNat i), .ref 37, .long ((a * (128 : Int64)) + (Int32.toInt64 ((g 36 i) * (4 : Int32))))] g u (fun big n0 => sg_ag_3 big n0 g u a (Int32.ofNat i) (a * (128 : Int64)) (g 36 i)) ?_
    refine q_iald (j := i) (q_ixn (by omega) (by omega)) rfl rfl ?_
    refine q_step 5 4 [(0, .ref 35), (1, .long (((a * (128 : Int64)) + (Int32.toInt64 ((g 36 i) * (4 : Int32)))) + (Int32.toInt64 (g 37 i)))), (3, .int ((Int32.ofNat i) + (1 : Int32)))] [] g u (fun big n0 => sg_ag_4 big n0 g u a (Int32.ofNat i) ((a * (128 : Int64)) + (Int32.toInt64 ((g 36 i) * (4 : Int32)))) (g 37 i)) ?_
    rw [q_succ, s_mkf]
    exact ih (i + 1) _ (by omega)
theorem b_mark (g : qM) (u : qW) {n : Nat} (hn : g 35 3 = Int32.ofNat n) (h6 : n ≤ 6) : q_BS 86 [.ref 35] g u (some (.long (s_mkf (g 36) (g 37) n 0 0)), g, u) := by
  refine q_bx (mm := m_86) rfl (Nat.le_of_ble_eq_true rfl) rfl ?_
  refine q_step 4 4 [(0, .ref 35), (1, .long (0 : Int64)), (3, .int (0 : Int32))] [] g u (fun big n0 => sg_ag_5 big n0 g u) ?_
  exact mk_l g u hn h6 n 0 0 (by omega)
theorem c_mark {n W H : Nat} {g r : qM} (u : qW) (h : w_ok n W H r) (hc : w_cs 35 n g r) : q_BS 86 [.ref 35] g u (some (.long (f_mk n r)), g, u) := by
  have e := b_mark g u (n := n) (hc.1.1.trans h.2.1) h.1.2.2.2.2
  rw [show s_mkf (g 36) (g 37) n 0 0 = f_mk n r from s_mkf_cg n 0 0 (fun j _ hj => ⟨(hc.2.2 j (by omega)).1, (hc.2.2 j (by omega)).2.1⟩)] at e
  exact e
theorem fr_in (g : qM) (u : qW) {Mk : Nat → Int64} {i : Nat} (hi : i ≤ 60) (hu : ∀ j, j < i → u j = Mk j) {Q : Option Value × qM × qW → Prop} : ∀ k j, j + k = i → (f_in Mk i k j = none → q_EV m_85 63 [(0, .ref 34), (1, .ref 20), (2, .int (Int32.ofNat i)), (3, .long (Mk i)), (5, .int (Int32.ofNat i))] [] g u Q) → (∀ x, f_in Mk i k j = some x → Q (some (.int (Int32.ofNat x * (1024 : Int32) + Int32.ofNat i - Int32.ofNat x)), g, u)) → q_EV m_85 27 [(0, .ref 34), (1, .ref 20), (2, .int (Int32.ofNat i)), (3, .long (Mk i)), (5, .int (Int32.ofNat j))] [] g u Q := by
  intro k
  induction k with
  | zero =>
    intro j hj hk hs
    have e : j = i := by omega
    subst e
    refine q_step 2 30 [(0, .ref 34), (1, .ref 20), (2, .int (Int32.ofNat j)), (3, .long (Mk j)), (5, .int (Int32.ofNat j))] [.int (Int32.ofNat j), .int (Int32.ofNat j)] g u (fun big n0 => sg_ag_6 big n0 g u (Int32.ofNat j) (Mk j) (Int32.ofNat j)) ?_
    refine q_ic_ge rfl (fun (hc0 : (Int32.ofNat j) ≤ (Int32.ofNat j)) => ?_) (fun hc0 => absurd (show (Int32.ofNat j) ≤ (Int32.ofNat j) from (q_le (by omega) (by omega)).mpr (by omega)) hc0)
    exact hk rfl
  | succ k ih =>
    intro j hj hk hs
    refine q_step 2 30 [(0, .ref 34), (1, .ref 20), (2, .int (Int32.ofNat i)), (3, .long (Mk i)), (5, .int (Int32.ofNat j))] [.int (Int32.ofNat i), .int (Int32.ofNat j)] g u (fun big n0 => sg_ag_6 big n0 g u (Int32.ofNat i) (Mk i) (Int32.ofNat j)) ?_
    refine q_ic_ge rfl (fun hc0 => absurd (show (Int32.ofNat i) ≤ (Int32.ofNat j) from hc0) (fun z => absurd ((q_le (by omega) (by omega)).mp z) (by omega))) (fun (hc0 : ¬ ((Int32.ofNat i) ≤ (Int32.ofNat j))) => ?_)
    refine q_step 3 39 [(0, .ref 34), (1, .ref 20), (2, .int (Int32.ofNat i)), (3, .long (Mk i)), (5, .int (Int32.ofNat j))] [.int (Int32.ofNat j), .ref 43] g u (fun big n0 => sg_ag_7 big n0 g u (Int32.ofNat i) (Mk i) (Int32.ofNat j)) ?_
    refine q_lald (j := j) (q_ixn (by omega) (by omega)) rfl rfl ?_
    refine q_step 2 42 [(0, .ref 34), (1, .ref 20), (2, .int (Int32.ofNat i)), (3, .long (Mk i)), (5, .int (Int32.ofNat j))] [.int (lg_cmp (u j) (Mk i))] g u (fun big n0 => sg_ag_8 big n0 g u (Int32.ofNat i) (Mk i) (Int32.ofNat j) (u j)) ?_
    refine q_if_ne rfl (fun (hc1 : (lg_cmp (u j) (Mk i)) = 0) => ?_) (fun (hc1 : ¬ ((lg_cmp (u j) (Mk i)) = 0)) => ?_)
    · refine q_ret 8 (some (.int ((((Int32.ofNat j) * (1024 : Int32)) + (Int32.ofNat i)) - (Int32.ofNat j))), g, u) (fun _ _ => rfl) ?_
      exact hs j (by rw [f_in, if_pos ((hu j (by omega)).symm.trans (s_lcmp0.mp hc1))])
    · refine q_step 2 27 [(0, .ref 34), (1, .ref 20), (2, .int (Int32.ofNat i)), (3, .long (Mk i)), (5, .int ((Int32.ofNat j) + (1 : Int32)))] [] g u (fun big n0 => sg_ag_9 big n0 g u (Int32.ofNat i) (Mk i) (Int32.ofNat j)) ?_
      have e : f_in Mk i (k + 1) j = f_in Mk i k (j + 1) := by rw [f_in, if_neg (fun z => hc1 (s_lcmp0.mpr ((hu j (by omega)).trans z)))]
      rw [q_succ]
      exact ih (j + 1) (by omega) (fun z => hk (e.trans z)) (fun x z => hs x (e.trans z))
theorem fr_ou {n W H : Nat} {r : qM} (h : w_ok n W H r) : ∀ k i g u, i + k = 61 → w_cs 35 n g (s_rit n i r) → (∀ j, j < i → u j = f_mk n (s_rit n j r)) → q_EV m_85 10 [(0, .ref 34), (1, .ref 20), (2, .int (Int32.ofNat i))] [] g u (w_po w_fc g (.int (f_enc (f_ou (fun j => f_mk n (s_rit n j r)) k i)))) := by
  intro k
  induction k with
  | zero =>
    intro i g u hi hc hu
    refine q_step 2 13 [(0, .ref 34), (1, .ref 20), (2, .int (Int32.ofNat i))] [.int (60 : Int32), .int (Int32.ofNat i)] g u (fun big n0 => sg_ag_10 big n0 g u (Int32.ofNat i)) ?_
    refine q_ic_gt rfl (fun (hc0 : (60 : Int32) < (Int32.ofNat i)) => ?_) (fun hc0 => absurd (show (60 : Int32) < (Int32.ofNat i) from by rw [show i = 61 by omega]; decide) hc0)
    refine q_ret 2 (some (.int (Int8.toInt32 (Int8.ofInt (-4)))), g, u) (fun _ _ => rfl) ?_
    exact ⟨g, u, rfl, w_fc_rfl g⟩
  | succ k ih =>
    intro i g u hi hc hu
    refine q_step 2 13 [(0, .ref 34), (1, .ref 20), (2, .int (Int32.ofNat i))] [.int (60 : Int32), .int (Int32.ofNat i)] g u (fun big n0 => sg_ag_10 big n0 g u (Int32.ofNat i)) ?_
    refine q_ic_gt rfl (fun hc0 => absurd (show (60 : Int32) < (Int32.ofNat i) from hc0) (fun z => by have z1 := (q_lt (i := 60) (j := i) (by omega) (by omega)).mp z; omega)) (fun (hc0 : ¬ ((60 : Int32) < (Int32.ofNat i))) => ?_)
    refine q_step 2 20 [(0, .ref 34), (1, .ref 20), (2, .int (Int32.ofNat i))] [.ref 35] g u (fun big n0 => sg_ag_11 big n0 g u (Int32.ofNat i)) ?_
    refine q_call (M2 := 86) (rest := []) (c_mark u (w_ok_rit i r h) hc) (fun _ _ => rfl) ?_
    refine q_step 3 27 [(0, .ref 34), (1, .ref 20), (2, .int (Int32.ofNat i)), (3, .long (f_mk n (s_rit n i r))), (5, .int (0 : Int32))] [] g u (fun big n0 => sg_ag_12 big n0 g u (Int32.ofNat i) (f_mk n (s_rit n i r))) ?_
    refine fr_in g u (Mk := (fun j => f_mk n (s_rit n j r))) (by omega) hu i 0 (by omega) (fun hz => ?_) (fun x hx => ?_)
    · refine q_step 4 69 [(0, .ref 34), (1, .ref 20), (2, .int (Int32.ofNat i)), (3, .long (f_mk n (s_rit n i r))), (5, .int (Int32.ofNat i))] [.long (f_mk n (s_rit n i r)), .int (Int32.ofNat i), .ref 43] g u (fun big n0 => sg_ag_13 big n0 g u (Int32.ofNat i) (f_mk n (s_rit n i r)) (Int32.ofNat i)) ?_
      refine q_last (j := i) (q_ixn (by omega) (by omega)) rfl rfl ?_
      refine q_step 4 78 [(0, .ref 34), (1, .ref 20), (2, .int (Int32.ofNat i)), (3, .long (f_mk n (s_rit n i r))), (5, .int (Int32.ofNat i))] [.ref 35, .ref 28] g (q_uw u i (f_mk n (s_rit n i r))) (fun big n0 => sg_ag_14 big n0 g (q_uw u i (f_mk n (s_rit n i r))) (Int32.ofNat i) (f_mk n (s_rit n i r)) (Int32.ofNat i)) ?_
      refine q_call (M2 := 68) (rest := []) (c_st35 (q_uw u i (f_mk n (s_rit n i r))) (w_ok_rit i r h) hc) (fun _ _ => rfl) ?_
      refine q_step 2 10 [(0, .ref 34), (1, .ref 20), (2, .int ((Int32.ofNat i) + (1 : Int32))), (3, .long (f_mk n (s_rit n i r))), (5, .int (Int32.ofNat i))] [] (s_step 35 n g) (q_uw u i (f_mk n (s_rit n i r))) (fun big n0 => sg_ag_15 big n0 (s_step 35 n g) (q_uw u i (f_mk n (s_rit n i r))) (Int32.ofNat i) (f_mk n (s_rit n i r)) (Int32.ofNat i)) ?_
      refine q_weak [(0, .ref 34), (1, .ref 20), (2, .int ((Int32.ofNat i) + (1 : Int32)))] (q_sub.cons rfl (q_sub.cons rfl (q_sub.cons rfl q_sub.nil))) ?_
      have w := w_step35 (w_ok_rit i r h) hc
      rw [q_succ]
      have e : f_ou (fun j => f_mk n (s_rit n j r)) (k + 1) i = f_ou (fun j => f_mk n (s_rit n j r)) k (i + 1) := by rw [f_ou, hz]
      refine q_EV.imp (ih (i + 1) (s_step 35 n g) _ (by omega) (by rw [← s_rit_add]; exact w.2.1) (fun j hj => ?_)) (fun R z => w_po_c s_step_35 (by rw [e]) z)
      unfold q_uw
      by_cases hji : j = i
      · rw [hji, Nat.beq_refl]
      · rw [show Nat.beq j i = false from by
          cases q : Nat.beq j i with
          | true => exact absurd (Nat.eq_of_beq_eq_true q) hji
          | false => rfl]
        exact hu j (by omega)
    · have hl := f_in_lt _ _ _ hx
      have e : f_ou (fun j => f_mk n (s_rit n j r)) (k + 1) i = some (x, i - x) := by rw [f_ou, hx]
      refine ⟨g, u, ?_, w_fc_rfl g⟩
      rw [e, show (1024 : Int32) = Int32.ofNat 1024 from rfl, q_mul, q_add, q_sb (by omega) (by omega), show x * 1024 + i - x = x * 1024 + (i - x) by omega]
      rfl
theorem c_fr85 {n W H : Nat} {g r : qM} (u : qW) (h : w_ok n W H r) (hc : w_cs 20 n g r) : w_BS w_fc 85 [.ref 34, .ref 20] g u (.int (f_enc (f_ag n r))) := by
  refine w_bs (mm := m_85) rfl (Nat.le_of_ble_eq_true rfl) rfl ?_
  have h5 : n ≤ 6 := h.1.2.2.2.2
  have hy := w_cpy (a := 35) (b := 20) h5 (by omega) hc
  refine q_step 3 5 [(0, .ref 34), (1, .ref 20)] [.ref 20, .ref 35] g u (fun big n0 => sg_ag_16 big n0 g u) ?_
  refine q_call (M2 := 41) (rest := []) (b_cpy35_20 _ _) (fun _ _ => rfl) ?_
  refine q_step 2 10 [(0, .ref 34), (1, .ref 20), (2, .int (0 : Int32))] [] (s_cpy 35 20 g) u (fun big n0 => sg_ag_17 big n0 (s_cpy 35 20 g) u) ?_
  exact q_EV.imp (fr_ou h 61 0 (s_cpy 35 20 g) u (by omega) hy (fun j hj => by omega)) (fun R z => w_po_c w_cpy_fc rfl z)
def d_upper (x : Int32) (g : qM) : Int32 := (x / (1024 : Int32))
theorem b_upper (x : Int32) (g : qM) (u : qW) : q_BS 87 [.int x] g u (some (.int (d_upper x g)), g, u) := by
  refine q_bx (mm := m_87) rfl (Nat.le_of_ble_eq_true rfl) rfl ?_
  refine q_ret 4 (some (.int (x / (1024 : Int32))), g, u) (fun _ _ => rfl) ?_
  unfold d_upper
  rfl
def d_lower (x : Int32) (g : qM) : Int32 := (x - x / (1024 : Int32) * (1024 : Int32))
theorem b_lower (x : Int32) (g : qM) (u : qW) : q_BS 88 [.int x] g u (some (.int (d_lower x g)), g, u) := by
  refine q_bx (mm := m_88) rfl (Nat.le_of_ble_eq_true rfl) rfl ?_
  refine q_ret 4 (some (.int (x - x / (1024 : Int32) * (1024 : Int32))), g, u) (fun _ _ => rfl) ?_
  unfold d_lower
  rfl
theorem b_up {a b : Nat} (g : qM) (u : qW) (ha : a < 900) (hb : b < 1024) : q_BS 87 [.int (Int32.ofNat (a * 1024 + b))] g u (some (.int (Int32.ofNat a)), g, u) := by
  have e := b_upper (Int32.ofNat (a * 1024 + b)) g u
  rw [show d_upper (Int32.ofNat (a * 1024 + b)) g = Int32.ofNat a from by
    show Int32.ofNat (a * 1024 + b) / Int32.ofNat 1024 = _
    rw [q_div (by omega) (by omega)]
    congr 1
    omega] at e
  exact e
theorem b_lo {a b : Nat} (g : qM) (u : qW) (ha : a < 900) (hb : b < 1024) : q_BS 88 [.int (Int32.ofNat (a * 1024 + b))] g u (some (.int (Int32.ofNat b)), g, u) := by
  have e := b_lower (Int32.ofNat (a * 1024 + b)) g u
  rw [show d_lower (Int32.ofNat (a * 1024 + b)) g = Int32.ofNat b from by
    show Int32.ofNat (a * 1024 + b) - Int32.ofNat (a * 1024 + b) / Int32.ofNat 1024 * Int32.ofNat 1024 = _
    rw [q_rem (by omega) (by omega)]
    congr 1
    omega] at e
  exact e
theorem c_again0 {n W H : Nat} {g r : qM} (u : qW) (h : w_ok n W H r) (hc : w_cs 20 n g r) : w_BS w_fc 84 [.ref 8, .int (0 : Int32)] g u (.int (f_agw 0 (f_ag n r))) := by
  refine w_bs (mm := m_84) rfl (Nat.le_of_ble_eq_true rfl) rfl ?_
  obtain ⟨g1, u1, hb, hf⟩ := c_fr85 u h hc
  cases hF : f_ag n r with
  | none =>
    rw [hF] at hb
    refine q_step 1 1 [(0, .ref 8), (1, .int (0 : Int32))] [.int (0 : Int32)] g u (fun big n0 => sg_ag_18 big n0 g u) ?_
    refine q_call (M2 := 57) (rest := []) (show q_BS 57 [.int (0 : Int32)] g u (some (.int 1), g, u) from b_isHalf 0 g u) (fun _ _ => rfl) ?_
    refine q_step 5 17 [(0, .ref 8), (1, .int (0 : Int32))] [.ref 20, .ref 34] g u (fun big n0 => sg_ag_19 big n0 g u) ?_
    refine q_call (M2 := 85) (rest := []) (hb) (fun _ _ => rfl) ?_
    refine q_ret 6 (some (.int (Int8.toInt32 (Int8.ofInt (-4)))), g1, u1) (fun _ _ => rfl) ?_
    exact ⟨g1, u1, rfl, hf⟩
  | some z =>
    obtain ⟨a, b⟩ := z
    rw [hF] at hb
    have hl := f_ou_lt 61 0 a b hF
    refine q_step 1 1 [(0, .ref 8), (1, .int (0 : Int32))] [.int (0 : Int32)] g u (fun big n0 => sg_ag_18 big n0 g u) ?_
    refine q_call (M2 := 57) (rest := []) (show q_BS 57 [.int (0 : Int32)] g u (some (.int 1), g, u) from b_isHalf 0 g u) (fun _ _ => rfl) ?_
    refine q_step 5 17 [(0, .ref 8), (1, .int (0 : Int32))] [.ref 20, .ref 34] g u (fun big n0 => sg_ag_19 big n0 g u) ?_
    refine q_call (M2 := 85) (rest := []) (hb) (fun _ _ => rfl) ?_
    refine q_step 3 24 [(0, .ref 8), (1, .int (0 : Int32)), (2, .int (Int32.ofNat (a * 1024 + b)))] [.int (Int8.toInt32 (Int8.ofInt (-4))), .int (Int32.ofNat (a * 1024 + b))] g1 u1 (fun big n0 => sg_ag_20 big n0 g1 u1 (Int32.ofNat (a * 1024 + b))) ?_
    refine q_ic_ne rfl (fun hc0 => absurd (show (Int32.ofNat (a * 1024 + b)) = (Int8.toInt32 (Int8.ofInt (-4))) from hc0) (q_none_ne (by omega))) (fun (hc0 : ¬ ((Int32.ofNat (a * 1024 + b)) = (Int8.toInt32 (Int8.ofInt (-4))))) => ?_)
    refine q_step 3 35 [(0, .ref 8), (1, .int (0 : Int32)), (2, .int (Int32.ofNat (a * 1024 + b)))] [.int (Int32.ofNat (a * 1024 + b))] g1 u1 (fun big n0 => sg_ag_21 big n0 g1 u1 (Int32.ofNat (a * 1024 + b))) ?_
    refine q_call (M2 := 87) (rest := []) (b_up g1 u1 (by omega) (by omega)) (fun _ _ => rfl) ?_
    refine q_ret 2 (some (.int (Int32.ofNat a)), g1, u1) (fun _ _ => rfl) ?_
    exact ⟨g1, u1, rfl, hf⟩
theorem c_again1 {n W H : Nat} {g r : qM} (u : qW) (h : w_ok n W H r) (hc : w_cs 20 n g r) : w_BS w_fc 84 [.ref 8, .int (1 : Int32)] g u (.int (f_agw 1 (f_ag n r))) := by
  refine w_bs (mm := m_84) rfl (Nat.le_of_ble_eq_true rfl) rfl ?_
  obtain ⟨g1, u1, hb, hf⟩ := c_fr85 u h hc
  cases hF : f_ag n r with
  | none =>
    rw [hF] at hb
    refine q_step 1 1 [(0, .ref 8), (1, .int (1 : Int32))] [.int (1 : Int32)] g u (fun big n0 => sg_ag_22 big n0 g u) ?_
    refine q_call (M2 := 57) (rest := []) (show q_BS 57 [.int (1 : Int32)] g u (some (.int 1), g, u) from b_isHalf 1 g u) (fun _ _ => rfl) ?_
    refine q_step 5 17 [(0, .ref 8), (1, .int (1 : Int32))] [.ref 20, .ref 34] g u (fun big n0 => sg_ag_23 big n0 g u) ?_
    refine q_call (M2 := 85) (rest := []) (hb) (fun _ _ => rfl) ?_
    refine q_ret 6 (some (.int (Int8.toInt32 (Int8.ofInt (-4)))), g1, u1) (fun _ _ => rfl) ?_
    exact ⟨g1, u1, rfl, hf⟩
  | some z =>
    obtain ⟨a, b⟩ := z
    rw [hF] at hb
    have hl := f_ou_lt 61 0 a b hF
    refine q_step 1 1 [(0, .ref 8), (1, .int (1 : Int32))] [.int (1 : Int32)] g u (fun big n0 => sg_ag_22 big n0 g u) ?_
    refine q_call (M2 := 57) (rest := []) (show q_BS 57 [.int (1 : Int32)] g u (some (.int 1), g, u) from b_isHalf 1 g u) (fun _ _ => rfl) ?_
    refine q_step 5 17 [(0, .ref 8), (1, .int (1 : Int32))] [.ref 20, .ref 34] g u (fun big n0 => sg_ag_23 big n0 g u) ?_
    refine q_call (M2 := 85) (rest := []) (hb) (fun _ _ => rfl) ?_
    refine q_step 3 24 [(0, .ref 8), (1, .int (1 : Int32)), (2, .int (Int32.ofNat (a * 1024 + b)))] [.int (Int8.toInt32 (Int8.ofInt (-4))), .int (Int32.ofNat (a * 1024 + b))] g1 u1 (fun big n0 => sg_ag_24 big n0 g1 u1 (Int32.ofNat (a * 1024 + b))) ?_
    refine q_ic_ne rfl (fun hc0 => absurd (show (Int32.ofNat (a * 1024 + b)) = (Int8.toInt32 (Int8.ofInt (-4))) from hc0) (q_none_ne (by omega))) (fun (hc0 : ¬ ((Int32.ofNat (a * 1024 + b)) = (Int8.toInt32 (Int8.ofInt (-4))))) => ?_)
    refine q_step 3 42 [(0, .ref 8), (1, .int (1 : Int32)), (2, .int (Int32.ofNat (a * 1024 + b)))] [.int (Int32.ofNat (a * 1024 + b))] g1 u1 (fun big n0 => sg_ag_25 big n0 g1 u1 (Int32.ofNat (a * 1024 + b))) ?_
    refine q_call (M2 := 88) (rest := []) (b_lo g1 u1 (by omega) (by omega)) (fun _ _ => rfl) ?_
    refine q_ret 1 (some (.int (Int32.ofNat b)), g1, u1) (fun _ _ => rfl) ?_
    exact ⟨g1, u1, rfl, hf⟩
theorem ra1_0 (g : qM) (u : qW) {n i : Nat} (hi : i ≤ 60) (hn : g 70 27 = Int32.ofNat n) (h6 : n ≤ 6) {Q : Option Value × qM × qW → Prop} : ∀ k p x y, p + k = n → q_EV m_200 97 [(0, .ref 70), (1, .int (0 : Int32)), (2, .int (Int32.ofNat i)), (3, .int (Int32.ofNat n))] [] (s_agm g i (s_rwf 25 (g 75) k p x) (s_rwf 4 (g 76) k p y)) u Q → q_EV m_200 40 [(0, .ref 70), (1, .int (0 : Int32)), (2, .int (Int32.ofNat i)), (3, .int (Int32.ofNat p))] [] (s_agm g i x y) u Q := by
  intro k
  induction k with
  | zero =>
    intro p x y hp hk
    have e : p = n := by omega
    subst e
    refine q_step 3 45 [(0, .ref 70), (1, .int (0 : Int32)), (2, .int (Int32.ofNat i)), (3, .int (Int32.ofNat p))] [.int (g 70 27), .int (Int32.ofNat p)] (s_agm g i x y) u (fun big n0 => sg_ag_26 big n0 (s_agm g i x y) u (Int32.ofNat i) (Int32.ofNat p)) ?_
    refine q_ic_ge rfl (fun (hc0 : (g 70 27) ≤ (Int32.ofNat p)) => ?_) (fun hc0 => absurd (show (g 70 27) ≤ (Int32.ofNat p) from by rw [hn]; exact (q_le (by omega) (by omega)).mpr (by omega)) hc0)
    exact hk
  | succ k ih =>
    intro p x y hp hk
    refine q_step 3 45 [(0, .ref 70), (1, .int (0 : Int32)), (2, .int (Int32.ofNat i)), (3, .int (Int32.ofNat p))] [.int (g 70 27), .int (Int32.ofNat p)] (s_agm g i x y) u (fun big n0 => sg_ag_26 big n0 (s_agm g i x y) u (Int32.ofNat i) (Int32.ofNat p)) ?_
    refine q_ic_ge rfl (fun hc0 => absurd (show (g 70 27) ≤ (Int32.ofNat p) from hc0) (fun z => by rw [hn] at z; exact absurd ((q_le (by omega) (by omega)).mp z) (by omega))) (fun (hc0 : ¬ ((g 70 27) ≤ (Int32.ofNat p))) => ?_)
    refine q_step 6 58 [(0, .ref 70), (1, .int (0 : Int32)), (2, .int (Int32.ofNat i)), (3, .int (Int32.ofNat p))] [.int (Int32.ofNat i), .ref 82, .int (Int32.ofNat i), .ref 82] (s_agm g i x y) u (fun big n0 => sg_ag_27 big n0 (s_agm g i x y) u (Int32.ofNat i) (Int32.ofNat p)) ?_
    refine q_iald (j := i) (q_ixn (by omega) (by omega)) rfl rfl ?_
    refine q_step 5 67 [(0, .ref 70), (1, .int (0 : Int32)), (2, .int (Int32.ofNat i)), (3, .int (Int32.ofNat p))] [.int (Int32.ofNat p), .ref 75, .int (((s_agm g i x y) 82 i) * (25 : Int32)), .int (Int32.ofNat i), .ref 82] (s_agm g i x y) u (fun big n0 => sg_ag_28 big n0 (s_agm g i x y) u (Int32.ofNat i) (Int32.ofNat p) (Int32.ofNat i) ((s_agm g i x y) 82 i)) ?_
    refine q_iald (j := p) (q_ixn (by omega) (by omega)) rfl rfl ?_
    refine q_step 1 69 [(0, .ref 70), (1, .int (0 : Int32)), (2, .int (Int32.ofNat i)), (3, .int (Int32.ofNat p))] [.int ((((s_agm g i x y) 82 i) * (25 : Int32)) + (g 75 p)), .int (Int32.ofNat i), .ref 82] (s_agm g i x y) u (fun big n0 => sg_ag_29 big n0 (s_agm g i x y) u (Int32.ofNat i) (Int32.ofNat p) (Int32.ofNat i) (((s_agm g i x y) 82 i) * (25 : Int32)) (g 75 p)) ?_
    refine q_iast (j := i) (q_ixn (by omega) (by omega)) rfl rfl ?_
    refine q_step 6 80 [(0, .ref 70), (1, .int (0 : Int32)), (2, .int (Int32.ofNat i)), (3, .int (Int32.ofNat p))] [.int (Int32.ofNat i), .ref 83, .int (Int32.ofNat i), .ref 83] (q_up (s_agm g i x y) 82 i ((((s_agm g i x y) 82 i) * (25 : Int32)) + (g 75 p))) u (fun big n0 => sg_ag_30 big n0 (q_up (s_agm g i x y) 82 i ((((s_agm g i x y) 82 i) * (25 : Int32)) + (g 75 p))) u (Int32.ofNat i) (Int32.ofNat p)) ?_
    refine q_iald (j := i) (q_ixn (by omega) (by omega)) rfl rfl ?_
    refine q_step 5 88 [(0, .ref 70), (1, .int (0 : Int32)), (2, .int (Int32.ofNat i)), (3, .int (Int32.ofNat p))] [.int (Int32.ofNat p), .ref 76, .int (((s_agm g i x y) 83 i) * (4 : Int32)), .int (Int32.ofNat i), .ref 83] (q_up (s_agm g i x y) 82 i ((((s_agm g i x y) 82 i) * (25 : Int32)) + (g 75 p))) u (fun big n0 => sg_ag_31 big n0 (q_up (s_agm g i x y) 82 i ((((s_agm g i x y) 82 i) * (25 : Int32)) + (g 75 p))) u (Int32.ofNat i) (Int32.ofNat p) (Int32.ofNat i) ((s_agm g i x y) 83 i)) ?_
    refine q_iald (j := p) (q_ixn (by omega) (by omega)) rfl rfl ?_
    refine q_step 1 90 [(0, .ref 70), (1, .int (0 : Int32)), (2, .int (Int32.ofNat i)), (3, .int (Int32.ofNat p))] [.int ((((s_agm g i x y) 83 i) * (4 : Int32)) + (g 76 p)), .int (Int32.ofNat i), .ref 83] (q_up (s_agm g i x y) 82 i ((((s_agm g i x y) 82 i) * (25 : Int32)) + (g 75 p))) u (fun big n0 => sg_ag_32 big n0 (q_up (s_agm g i x y) 82 i ((((s_agm g i x y) 82 i) * (25 : Int32)) + (g 75 p))) u (Int32.ofNat i) (Int32.ofNat p) (Int32.ofNat i) (((s_agm g i x y) 83 i) * (4 : Int32)) (g 76 p)) ?_
    refine q_iast (j := i) (q_ixn (by omega) (by omega)) rfl rfl ?_
    refine q_step 2 40 [(0, .ref 70), (1, .int (0 : Int32)), (2, .int (Int32.ofNat i)), (3, .int ((Int32.ofNat p) + (1 : Int32)))] [] (q_up (q_up (s_agm g i x y) 82 i ((((s_agm g i x y) 82 i) * (25 : Int32)) + (g 75 p))) 83 i ((((s_agm g i x y) 83 i) * (4 : Int32)) + (g 76 p))) u (fun big n0 => sg_ag_33 big n0 (q_up (q_up (s_agm g i x y) 82 i ((((s_agm g i x y) 82 i) * (25 : Int32)) + (g 75 p))) 83 i ((((s_agm g i x y) 83 i) * (4 : Int32)) + (g 76 p))) u (Int32.ofNat i) (Int32.ofNat p)) ?_
    rw [q_succ, show (q_up (q_up (s_agm g i x y) 82 i ((((s_agm g i x y) 82 i) * (25 : Int32)) + (g 75 p))) 83 i ((((s_agm g i x y) 83 i) * (4 : Int32)) + (g 76 p))) = s_agm g i (x * (25 : Int32) + g 75 p) (y * (4 : Int32) + g 76 p) from by
      rw [s_agm_x, s_agm_y]
      exact s_agm_s]
    exact ih (p + 1) _ _ (by omega) hk
theorem ra2_0 (g : qM) (u : qW) {Mk : Nat → Int64} {i : Nat} (hi : i ≤ 60) (hm : ∀ j, j < i → ((g 82 j = g 82 i ∧ g 83 j = g 83 i) ↔ Mk j = Mk i)) {Q : Option Value × qM × qW → Prop} : ∀ k j, j + k = i → (f_in Mk i k j = none → q_EV m_200 152 [(0, .ref 70), (1, .int (0 : Int32)), (2, .int (Int32.ofNat i)), (3, .int (Int32.ofNat i))] [] g u Q) → (∀ x, f_in Mk i k j = some x → Q (some (.int (Int32.ofNat x)), g, u)) → q_EV m_200 99 [(0, .ref 70), (1, .int (0 : Int32)), (2, .int (Int32.ofNat i)), (3, .int (Int32.ofNat j))] [] g u Q := by
  intro k
  induction k with
  | zero =>
    intro j hj hk hs
    have e : j = i := by omega
    subst e
    refine q_step 2 101 [(0, .ref 70), (1, .int (0 : Int32)), (2, .int (Int32.ofNat j)), (3, .int (Int32.ofNat j))] [.int (Int32.ofNat j), .int (Int32.ofNat j)] g u (fun big n0 => sg_ag_34 big n0 g u (Int32.ofNat j) (Int32.ofNat j)) ?_
    refine q_ic_ge rfl (fun (hc0 : (Int32.ofNat j) ≤ (Int32.ofNat j)) => ?_) (fun hc0 => absurd (show (Int32.ofNat j) ≤ (Int32.ofNat j) from (q_le (by omega) (by omega)).mpr (by omega)) hc0)
    exact hk rfl
  | succ k ih =>
    intro j hj hk hs
    refine q_step 2 101 [(0, .ref 70), (1, .int (0 : Int32)), (2, .int (Int32.ofNat i)), (3, .int (Int32.ofNat j))] [.int (Int32.ofNat i), .int (Int32.ofNat j)] g u (fun big n0 => sg_ag_34 big n0 g u (Int32.ofNat i) (Int32.ofNat j)) ?_
    refine q_ic_ge rfl (fun hc0 => absurd (show (Int32.ofNat i) ≤ (Int32.ofNat j) from hc0) (fun z => absurd ((q_le (by omega) (by omega)).mp z) (by omega))) (fun (hc0 : ¬ ((Int32.ofNat i) ≤ (Int32.ofNat j))) => ?_)
    refine q_step 3 109 [(0, .ref 70), (1, .int (0 : Int32)), (2, .int (Int32.ofNat i)), (3, .int (Int32.ofNat j))] [.int (Int32.ofNat j), .ref 82] g u (fun big n0 => sg_ag_35 big n0 g u (Int32.ofNat i) (Int32.ofNat j)) ?_
    refine q_iald (j := j) (q_ixn (by omega) (by omega)) rfl rfl ?_
    refine q_step 3 115 [(0, .ref 70), (1, .int (0 : Int32)), (2, .int (Int32.ofNat i)), (3, .int (Int32.ofNat j))] [.int (Int32.ofNat i), .ref 82, .int (g 82 j)] g u (fun big n0 => sg_ag_36 big n0 g u (Int32.ofNat i) (Int32.ofNat j) (g 82 j)) ?_
    refine q_iald (j := i) (q_ixn (by omega) (by omega)) rfl rfl ?_
    refine q_ic_ne rfl (fun (hc1 : (g 82 j) = (g 82 i)) => ?_) (fun (hc1 : ¬ ((g 82 j) = (g 82 i))) => ?_)
    · refine q_step 3 124 [(0, .ref 70), (1, .int (0 : Int32)), (2, .int (Int32.ofNat i)), (3, .int (Int32.ofNat j))] [.int (Int32.ofNat j), .ref 83] g u (fun big n0 => sg_ag_37 big n0 g u (Int32.ofNat i) (Int32.ofNat j)) ?_
      refine q_iald (j := j) (q_ixn (by omega) (by omega)) rfl rfl ?_
      refine q_step 3 130 [(0, .ref 70), (1, .int (0 : Int32)), (2, .int (Int32.ofNat i)), (3, .int (Int32.ofNat j))] [.int (Int32.ofNat i), .ref 83, .int (g 83 j)] g u (fun big n0 => sg_ag_38 big n0 g u (Int32.ofNat i) (Int32.ofNat j) (g 83 j)) ?_
      refine q_iald (j := i) (q_ixn (by omega) (by omega)) rfl rfl ?_
      refine q_ic_ne rfl (fun (hc2 : (g 83 j) = (g 83 i)) => ?_) (fun (hc2 : ¬ ((g 83 j) = (g 83 i))) => ?_)
      · refine q_ret 5 (some (.int (Int32.ofNat j)), g, u) (fun _ _ => rfl) ?_
        exact hs j (by rw [f_in, if_pos ((hm j (by omega)).mp ⟨hc1, hc2⟩)])
      · refine q_step 2 99 [(0, .ref 70), (1, .int (0 : Int32)), (2, .int (Int32.ofNat i)), (3, .int ((Int32.ofNat j) + (1 : Int32)))] [] g u (fun big n0 => sg_ag_39 big n0 g u (Int32.ofNat i) (Int32.ofNat j)) ?_
        have e : f_in Mk i (k + 1) j = f_in Mk i k (j + 1) := by rw [f_in, if_neg (fun z => hc2 ((hm j (by omega)).mpr z).2)]
        rw [q_succ]
        exact ih (j + 1) (by omega) (fun z => hk (e.trans z)) (fun x z => hs x (e.trans z))
    · refine q_step 2 99 [(0, .ref 70), (1, .int (0 : Int32)), (2, .int (Int32.ofNat i)), (3, .int ((Int32.ofNat j) + (1 : Int32)))] [] g u (fun big n0 => sg_ag_39 big n0 g u (Int32.ofNat i) (Int32.ofNat j)) ?_
      have e : f_in Mk i (k + 1) j = f_in Mk i k (j + 1) := by rw [f_in, if_neg (fun z => hc1 ((hm j (by omega)).mpr z).1)]
      rw [q_succ]
      exact ih (j + 1) (by omega) (fun z => hk (e.trans z)) (fun x z => hs x (e.trans z))
theorem ra3_0 (u : qW) {n W H : Nat} {r : qM} (h : w_ok n W H r) : ∀ k i g, i + k = 61 → w_sm n g (s_rit n i r) → (∀ j, j < i → g 82 j = f_cr n (s_rit n j r) ∧ g 83 j = f_mr n (s_rit n j r)) → q_EV m_200 18 [(0, .ref 70), (1, .int (0 : Int32)), (2, .int (Int32.ofNat i))] [] g u (w_po w_fr g (.int (f_agw 0 (f_ou (fun j => f_mk n (s_rit n j r)) k i)))) := by
  intro k
  induction k with
  | zero =>
    intro i g hi hs hv
    refine q_step 2 21 [(0, .ref 70), (1, .int (0 : Int32)), (2, .int (Int32.ofNat i))] [.int (60 : Int32), .int (Int32.ofNat i)] g u (fun big n0 => sg_ag_40 big n0 g u (Int32.ofNat i)) ?_
    refine q_ic_gt rfl (fun (hc0 : (60 : Int32) < (Int32.ofNat i)) => ?_) (fun hc0 => absurd (show (60 : Int32) < (Int32.ofNat i) from by rw [show i = 61 by omega]; decide) hc0)
    refine q_ret 2 (some (.int (Int8.toInt32 (Int8.ofInt (-4)))), g, u) (fun _ _ => rfl) ?_
    exact ⟨g, u, rfl, w_fr_rfl g⟩
  | succ k ih =>
    intro i g hi hs hv
    refine q_step 2 21 [(0, .ref 70), (1, .int (0 : Int32)), (2, .int (Int32.ofNat i))] [.int (60 : Int32), .int (Int32.ofNat i)] g u (fun big n0 => sg_ag_40 big n0 g u (Int32.ofNat i)) ?_
    refine q_ic_gt rfl (fun hc0 => absurd (show (60 : Int32) < (Int32.ofNat i) from hc0) (fun z => by have z1 := (q_lt (i := 60) (j := i) (by omega) (by omega)).mp z; omega)) (fun (hc0 : ¬ ((60 : Int32) < (Int32.ofNat i))) => ?_)
    refine q_step 4 30 [(0, .ref 70), (1, .int (0 : Int32)), (2, .int (Int32.ofNat i))] [.int (0 : Int32), .int (Int32.ofNat i), .ref 82] g u (fun big n0 => sg_ag_41 big n0 g u (Int32.ofNat i)) ?_
    refine q_iast (j := i) (q_ixn (by omega) (by omega)) rfl rfl ?_
    refine q_step 4 37 [(0, .ref 70), (1, .int (0 : Int32)), (2, .int (Int32.ofNat i))] [.int (0 : Int32), .int (Int32.ofNat i), .ref 83] (q_up g 82 i (0 : Int32)) u (fun big n0 => sg_ag_42 big n0 (q_up g 82 i (0 : Int32)) u (Int32.ofNat i)) ?_
    refine q_iast (j := i) (q_ixn (by omega) (by omega)) rfl rfl ?_
    refine q_step 2 40 [(0, .ref 70), (1, .int (0 : Int32)), (2, .int (Int32.ofNat i)), (3, .int (0 : Int32))] [] (q_up (q_up g 82 i (0 : Int32)) 83 i (0 : Int32)) u (fun big n0 => sg_ag_43 big n0 (q_up (q_up g 82 i (0 : Int32)) 83 i (0 : Int32)) u (Int32.ofNat i)) ?_
    rw [show (q_up (q_up g 82 i (0 : Int32)) 83 i (0 : Int32)) = s_agm g i 0 0 from rfl]
    have hX : s_rwf 25 (g 75) n 0 0 = f_cr n (s_rit n i r) := s_rwf_cg n 0 0 (fun j _ hj => (hs.2.2 j (by omega)).1)
    have hY : s_rwf 4 (g 76) n 0 0 = f_mr n (s_rit n i r) := s_rwf_cg n 0 0 (fun j _ hj => (hs.2.2 j (by omega)).2.1)
    refine ra1_0 g u (by omega) (w_w0 (w_ok_rit i r h) hs).1 h.1.2.2.2.2 n 0 0 0 (by omega) ?_
    rw [hX, hY]
    generalize hg2 : s_agm g i (f_cr n (s_rit n i r)) (f_mr n (s_rit n i r)) = g2
    have hs2 : w_sm n g2 (s_rit n i r) := by rw [← hg2]; exact hs
    have hfr2 : w_fr g g2 := by rw [← hg2]; exact (w_fr_rfl g).up (by omega) |>.up (by omega)
    have hm2 : ∀ j, j ≤ i → g2 82 j = f_cr n (s_rit n j r) ∧ g2 83 j = f_mr n (s_rit n j r) := fun j hj => by
      rw [← hg2]
      by_cases e : j = i
      · rw [e, s_agm_x, s_agm_y]
        exact ⟨rfl, rfl⟩
      · rw [s_agm_xo e, s_agm_yo e]
        exact hv j (by omega)
    refine q_step 2 99 [(0, .ref 70), (1, .int (0 : Int32)), (2, .int (Int32.ofNat i)), (3, .int (0 : Int32))] [] g2 u (fun big n0 => sg_ag_44 big n0 g2 u (Int32.ofNat i) (Int32.ofNat n)) ?_
    refine ra2_0 g2 u (Mk := (fun j => f_mk n (s_rit n j r))) (by omega) (fun j hj => by rw [(hm2 j (by omega)).1, (hm2 j (by omega)).2, (hm2 i (Nat.le_refl _)).1, (hm2 i (Nat.le_refl _)).2]; exact w_mk (w_ok_rit j r h) (w_ok_rit i r h)) i 0 (by omega) (fun hz => ?_) (fun x hx => ?_)
    · refine q_step 1 153 [(0, .ref 70), (1, .int (0 : Int32)), (2, .int (Int32.ofNat i)), (3, .int (Int32.ofNat i))] [.ref 70] g2 u (fun big n0 => sg_ag_45 big n0 g2 u (Int32.ofNat i) (Int32.ofNat i)) ?_
      refine q_call (M2 := 191) (rest := []) (c_rst u (w_ok_rit i r h) hs2) (fun _ _ => rfl) ?_
      refine q_step 3 18 [(0, .ref 70), (1, .int (0 : Int32)), (2, .int ((Int32.ofNat i) + (1 : Int32))), (3, .int (Int32.ofNat i))] [] (s_rst n g2) u (fun big n0 => sg_ag_46 big n0 (s_rst n g2) u (Int32.ofNat i) (Int32.ofNat i) (s_ran n g2)) ?_
      refine q_weak [(0, .ref 70), (1, .int (0 : Int32)), (2, .int ((Int32.ofNat i) + (1 : Int32)))] (q_sub.cons rfl (q_sub.cons rfl (q_sub.cons rfl q_sub.nil))) ?_
      rw [q_succ]
      have e : f_ou (fun j => f_mk n (s_rit n j r)) (k + 1) i = f_ou (fun j => f_mk n (s_rit n j r)) k (i + 1) := by rw [f_ou, hz]
      exact q_EV.imp (ih (i + 1) (s_rst n g2) (by omega) (by rw [← s_rit_add]; exact (w_sm_rst (w_ok_rit i r h) hs2).1) (fun j hj => by rw [s_rst_g (by omega), s_rst_g (by omega)]; exact hm2 j (by omega))) (fun R z => w_po_r (hfr2.trans s_rst_fr) (by rw [e]) z)
    · have hl := f_in_lt _ _ _ hx
      have e : f_ou (fun j => f_mk n (s_rit n j r)) (k + 1) i = some (x, i - x) := by rw [f_ou, hx]
      refine ⟨g2, u, ?_, hfr2⟩
      rw [e]
      rfl
theorem r_again0 {n W H : Nat} {g r : qM} (u : qW) (h : w_ok n W H r) (hs : w_sm n (s_start g) r) (h5 : n ≤ 5) : w_BS w_fr 200 [.ref 70, .int (0 : Int32)] g u (.int (f_agw 0 (f_ag n r))) := by
  refine w_bs (mm := m_200) rfl (Nat.le_of_ble_eq_true rfl) rfl ?_
  refine q_step 4 4 [(0, .ref 70), (1, .int (0 : Int32))] [.long (1 : Int64), .long (0 : Int64), .long (0 : Int64)] g u (fun big n0 => sg_ag_47 big n0 g u) ?_
  refine q_call (M2 := 149) (rest := []) (show q_BS 149 [.long (0 : Int64), .long (0 : Int64), .long (1 : Int64)] g u (some (.int 1), g, u) from b_in _ _ _ _ _) (fun _ _ => rfl) ?_
  refine q_step 2 13 [(0, .ref 70), (1, .int (0 : Int32))] [.ref 70] g u (fun big n0 => sg_ag_48 big n0 g u) ?_
  refine q_call (M2 := 172) (rest := []) (b_starts g u) (fun _ _ => rfl) ?_
  refine q_step 2 18 [(0, .ref 70), (1, .int (0 : Int32)), (2, .int (0 : Int32))] [] (s_start g) u (fun big n0 => sg_ag_49 big n0 (s_start g) u) ?_
  exact q_EV.imp (ra3_0 u h 61 0 (s_start g) (by omega) hs (fun j hj => by omega)) (fun R z => w_po_r s_start_fr rfl z)
theorem ra1_1 (g : qM) (u : qW) {n i : Nat} (hi : i ≤ 60) (hn : g 70 27 = Int32.ofNat n) (h6 : n ≤ 6) {Q : Option Value × qM × qW → Prop} : ∀ k p x y, p + k = n → q_EV m_200 97 [(0, .ref 70), (1, .int (1 : Int32)), (2, .int (Int32.ofNat i)), (3, .int (Int32.ofNat n))] [] (s_agm g i (s_rwf 25 (g 75) k p x) (s_rwf 4 (g 76) k p y)) u Q → q_EV m_200 40 [(0, .ref 70), (1, .int (1 : Int32)), (2, .int (Int32.ofNat i)), (3, .int (Int32.ofNat p))] [] (s_agm g i x y) u Q := by
  intro k
  induction k with
  | zero =>
    intro p x y hp hk
    have e : p = n := by omega
    subst e
    refine q_step 3 45 [(0, .ref 70), (1, .int (1 : Int32)), (2, .int (Int32.ofNat i)), (3, .int (Int32.ofNat p))] [.int (g 70 27), .int (Int32.ofNat p)] (s_agm g i x y) u (fun big n0 => sg_ag_50 big n0 (s_agm g i x y) u (Int32.ofNat i) (Int32.ofNat p)) ?_
    refine q_ic_ge rfl (fun (hc0 : (g 70 27) ≤ (Int32.ofNat p)) => ?_) (fun hc0 => absurd (show (g 70 27) ≤ (Int32.ofNat p) from by rw [hn]; exact (q_le (by omega) (by omega)).mpr (by omega)) hc0)
    exact hk
  | succ k ih =>
    intro p x y hp hk
    refine q_step 3 45 [(0, .ref 70), (1, .int (1 : Int32)), (2, .int (Int32.ofNat i)), (3, .int (Int32.ofNat p))] [.int (g 70 27), .int (Int32.ofNat p)] (s_agm g i x y) u (fun big n0 => sg_ag_50 big n0 (s_agm g i x y) u (Int32.ofNat i) (Int32.ofNat p)) ?_
    refine q_ic_ge rfl (fun hc0 => absurd (show (g 70 27) ≤ (Int32.ofNat p) from hc0) (fun z => by rw [hn] at z; exact absurd ((q_le (by omega) (by omega)).mp z) (by omega))) (fun (hc0 : ¬ ((g 70 27) ≤ (Int32.ofNat p))) => ?_)
    refine q_step 6 58 [(0, .ref 70), (1, .int (1 : Int32)), (2, .int (Int32.ofNat i)), (3, .int (Int32.ofNat p))] [.int (Int32.ofNat i), .ref 82, .int (Int32.ofNat i), .ref 82] (s_agm g i x y) u (fun big n0 => sg_ag_51 big n0 (s_agm g i x y) u (Int32.ofNat i) (Int32.ofNat p)) ?_
    refine q_iald (j := i) (q_ixn (by omega) (by omega)) rfl rfl ?_
    refine q_step 5 67 [(0, .ref 70), (1, .int (1 : Int32)), (2, .int (Int32.ofNat i)), (3, .int (Int32.ofNat p))] [.int (Int32.ofNat p), .ref 75, .int (((s_agm g i x y) 82 i) * (25 : Int32)), .int (Int32.ofNat i), .ref 82] (s_agm g i x y) u (fun big n0 => sg_ag_52 big n0 (s_agm g i x y) u (Int32.ofNat i) (Int32.ofNat p) (Int32.ofNat i) ((s_agm g i x y) 82 i)) ?_
    refine q_iald (j := p) (q_ixn (by omega) (by omega)) rfl rfl ?_
    refine q_step 1 69 [(0, .ref 70), (1, .int (1 : Int32)), (2, .int (Int32.ofNat i)), (3, .int (Int32.ofNat p))] [.int ((((s_agm g i x y) 82 i) * (25 : Int32)) + (g 75 p)), .int (Int32.ofNat i), .ref 82] (s_agm g i x y) u (fun big n0 => sg_ag_53 big n0 (s_agm g i x y) u (Int32.ofNat i) (Int32.ofNat p) (Int32.ofNat i) (((s_agm g i x y) 82 i) * (25 : Int32)) (g 75 p)) ?_
    refine q_iast (j := i) (q_ixn (by omega) (by omega)) rfl rfl ?_
    refine q_step 6 80 [(0, .ref 70), (1, .int (1 : Int32)), (2, .int (Int32.ofNat i)), (3, .int (Int32.ofNat p))] [.int (Int32.ofNat i), .ref 83, .int (Int32.ofNat i), .ref 83] (q_up (s_agm g i x y) 82 i ((((s_agm g i x y) 82 i) * (25 : Int32)) + (g 75 p))) u (fun big n0 => sg_ag_54 big n0 (q_up (s_agm g i x y) 82 i ((((s_agm g i x y) 82 i) * (25 : Int32)) + (g 75 p))) u (Int32.ofNat i) (Int32.ofNat p)) ?_
    refine q_iald (j := i) (q_ixn (by omega) (by omega)) rfl rfl ?_
    refine q_step 5 88 [(0, .ref 70), (1, .int (1 : Int32)), (2, .int (Int32.ofNat i)), (3, .int (Int32.ofNat p))] [.int (Int32.ofNat p), .ref 76, .int (((s_agm g i x y) 83 i) * (4 : Int32)), .int (Int32.ofNat i), .ref 83] (q_up (s_agm g i x y) 82 i ((((s_agm g i x y) 82 i) * (25 : Int32)) + (g 75 p))) u (fun big n0 => sg_ag_55 big n0 (q_up (s_agm g i x y) 82 i ((((s_agm g i x y) 82 i) * (25 : Int32)) + (g 75 p))) u (Int32.ofNat i) (Int32.ofNat p) (Int32.ofNat i) ((s_agm g i x y) 83 i)) ?_
    refine q_iald (j := p) (q_ixn (by omega) (by omega)) rfl rfl ?_
    refine q_step 1 90 [(0, .ref 70), (1, .int (1 : Int32)), (2, .int (Int32.ofNat i)), (3, .int (Int32.ofNat p))] [.int ((((s_agm g i x y) 83 i) * (4 : Int32)) + (g 76 p)), .int (Int32.ofNat i), .ref 83] (q_up (s_agm g i x y) 82 i ((((s_agm g i x y) 82 i) * (25 : Int32)) + (g 75 p))) u (fun big n0 => sg_ag_56 big n0 (q_up (s_agm g i x y) 82 i ((((s_agm g i x y) 82 i) * (25 : Int32)) + (g 75 p))) u (Int32.ofNat i) (Int32.ofNat p) (Int32.ofNat i) (((s_agm g i x y) 83 i) * (4 : Int32)) (g 76 p)) ?_
    refine q_iast (j := i) (q_ixn (by omega) (by omega)) rfl rfl ?_
    refine q_step 2 40 [(0, .ref 70), (1, .int (1 : Int32)), (2, .int (Int32.ofNat i)), (3, .int ((Int32.ofNat p) + (1 : Int32)))] [] (q_up (q_up (s_agm g i x y) 82 i ((((s_agm g i x y) 82 i) * (25 : Int32)) + (g 75 p))) 83 i ((((s_agm g i x y) 83 i) * (4 : Int32)) + (g 76 p))) u (fun big n0 => sg_ag_57 big n0 (q_up (q_up (s_agm g i x y) 82 i ((((s_agm g i x y) 82 i) * (25 : Int32)) + (g 75 p))) 83 i ((((s_agm g i x y) 83 i) * (4 : Int32)) + (g 76 p))) u (Int32.ofNat i) (Int32.ofNat p)) ?_
    rw [q_succ, show (q_up (q_up (s_agm g i x y) 82 i ((((s_agm g i x y) 82 i) * (25 : Int32)) + (g 75 p))) 83 i ((((s_agm g i x y) 83 i) * (4 : Int32)) + (g 76 p))) = s_agm g i (x * (25 : Int32) + g 75 p) (y * (4 : Int32) + g 76 p) from by
      rw [s_agm_x, s_agm_y]
      exact s_agm_s]
    exact ih (p + 1) _ _ (by omega) hk
theorem ra2_1 (g : qM) (u : qW) {Mk : Nat → Int64} {i : Nat} (hi : i ≤ 60) (hm : ∀ j, j < i → ((g 82 j = g 82 i ∧ g 83 j = g 83 i) ↔ Mk j = Mk i)) {Q : Option Value × qM × qW → Prop} : ∀ k j, j + k = i → (f_in Mk i k j = none → q_EV m_200 152 [(0, .ref 70), (1, .int (1 : Int32)), (2, .int (Int32.ofNat i)), (3, .int (Int32.ofNat i))] [] g u Q) → (∀ x, f_in Mk i k j = some x → Q (some (.int (Int32.ofNat i - Int32.ofNat x)), g, u)) → q_EV m_200 99 [(0, .ref 70), (1, .int (1 : Int32)), (2, .int (Int32.ofNat i)), (3, .int (Int32.ofNat j))] [] g u Q := by
  intro k
  induction k with
  | zero =>
    intro j hj hk hs
    have e : j = i := by omega
    subst e
    refine q_step 2 101 [(0, .ref 70), (1, .int (1 : Int32)), (2, .int (Int32.ofNat j)), (3, .int (Int32.ofNat j))] [.int (Int32.ofNat j), .int (Int32.ofNat j)] g u (fun big n0 => sg_ag_58 big n0 g u (Int32.ofNat j) (Int32.ofNat j)) ?_
    refine q_ic_ge rfl (fun (hc0 : (Int32.ofNat j) ≤ (Int32.ofNat j)) => ?_) (fun hc0 => absurd (show (Int32.ofNat j) ≤ (Int32.ofNat j) from (q_le (by omega) (by omega)).mpr (by omega)) hc0)
    exact hk rfl
  | succ k ih =>
    intro j hj hk hs
    refine q_step 2 101 [(0, .ref 70), (1, .int (1 : Int32)), (2, .int (Int32.ofNat i)), (3, .int (Int32.ofNat j))] [.int (Int32.ofNat i), .int (Int32.ofNat j)] g u (fun big n0 => sg_ag_58 big n0 g u (Int32.ofNat i) (Int32.ofNat j)) ?_
    refine q_ic_ge rfl (fun hc0 => absurd (show (Int32.ofNat i) ≤ (Int32.ofNat j) from hc0) (fun z => absurd ((q_le (by omega) (by omega)).mp z) (by omega))) (fun (hc0 : ¬ ((Int32.ofNat i) ≤ (Int32.ofNat j))) => ?_)
    refine q_step 3 109 [(0, .ref 70), (1, .int (1 : Int32)), (2, .int (Int32.ofNat i)), (3, .int (Int32.ofNat j))] [.int (Int32.ofNat j), .ref 82] g u (fun big n0 => sg_ag_59 big n0 g u (Int32.ofNat i) (Int32.ofNat j)) ?_
    refine q_iald (j := j) (q_ixn (by omega) (by omega)) rfl rfl ?_
    refine q_step 3 115 [(0, .ref 70), (1, .int (1 : Int32)), (2, .int (Int32.ofNat i)), (3, .int (Int32.ofNat j))] [.int (Int32.ofNat i), .ref 82, .int (g 82 j)] g u (fun big n0 => sg_ag_60 big n0 g u (Int32.ofNat i) (Int32.ofNat j) (g 82 j)) ?_
    refine q_iald (j := i) (q_ixn (by omega) (by omega)) rfl rfl ?_
    refine q_ic_ne rfl (fun (hc1 : (g 82 j) = (g 82 i)) => ?_) (fun (hc1 : ¬ ((g 82 j) = (g 82 i))) => ?_)
    · refine q_step 3 124 [(0, .ref 70), (1, .int (1 : Int32)), (2, .int (Int32.ofNat i)), (3, .int (Int32.ofNat j))] [.int (Int32.ofNat j), .ref 83] g u (fun big n0 => sg_ag_61 big n0 g u (Int32.ofNat i) (Int32.ofNat j)) ?_
      refine q_iald (j := j) (q_ixn (by omega) (by omega)) rfl rfl ?_
      refine q_step 3 130 [(0, .ref 70), (1, .int (1 : Int32)), (2, .int (Int32.ofNat i)), (3, .int (Int32.ofNat j))] [.int (Int32.ofNat i), .ref 83, .int (g 83 j)] g u (fun big n0 => sg_ag_62 big n0 g u (Int32.ofNat i) (Int32.ofNat j) (g 83 j)) ?_
      refine q_iald (j := i) (q_ixn (by omega) (by omega)) rfl rfl ?_
      refine q_ic_ne rfl (fun (hc2 : (g 83 j) = (g 83 i)) => ?_) (fun (hc2 : ¬ ((g 83 j) = (g 83 i))) => ?_)
      · refine q_ret 6 (some (.int ((Int32.ofNat i) - (Int32.ofNat j))), g, u) (fun _ _ => rfl) ?_
        exact hs j (by rw [f_in, if_pos ((hm j (by omega)).mp ⟨hc1, hc2⟩)])
      · refine q_step 2 99 [(0, .ref 70), (1, .int (1 : Int32)), (2, .int (Int32.ofNat i)), (3, .int ((Int32.ofNat j) + (1 : Int32)))] [] g u (fun big n0 => sg_ag_63 big n0 g u (Int32.ofNat i) (Int32.ofNat j)) ?_
        have e : f_in Mk i (k + 1) j = f_in Mk i k (j + 1) := by rw [f_in, if_neg (fun z => hc2 ((hm j (by omega)).mpr z).2)]
        rw [q_succ]
        exact ih (j + 1) (by omega) (fun z => hk (e.trans z)) (fun x z => hs x (e.trans z))
    · refine q_step 2 99 [(0, .ref 70), (1, .int (1 : Int32)), (2, .int (Int32.ofNat i)), (3, .int ((Int32.ofNat j) + (1 : Int32)))] [] g u (fun big n0 => sg_ag_63 big n0 g u (Int32.ofNat i) (Int32.ofNat j)) ?_
      have e : f_in Mk i (k + 1) j = f_in Mk i k (j + 1) := by rw [f_in, if_neg (fun z => hc1 ((hm j (by omega)).mpr z).1)]
      rw [q_succ]
      exact ih (j + 1) (by omega) (fun z => hk (e.trans z)) (fun x z => hs x (e.trans z))
theorem ra3_1 (u : qW) {n W H : Nat} {r : qM} (h : w_ok n W H r) : ∀ k i g, i + k = 61 → w_sm n g (s_rit n i r) → (∀ j, j < i → g 82 j = f_cr n (s_rit n j r) ∧ g 83 j = f_mr n (s_rit n j r)) → q_EV m_200 18 [(0, .ref 70), (1, .int (1 : Int32)), (2, .int (Int32.ofNat i))] [] g u (w_po w_fr g (.int (f_agw 1 (f_ou (fun j => f_mk n (s_rit n j r)) k i)))) := by
  intro k
  induction k with
  | zero =>
    intro i g hi hs hv
    refine q_step 2 21 [(0, .ref 70), (1, .int (1 : Int32)), (2, .int (Int32.ofNat i))] [.int (60 : Int32), .int (Int32.ofNat i)] g u (fun big n0 => sg_ag_64 big n0 g u (Int32.ofNat i)) ?_
    refine q_ic_gt rfl (fun (hc0 : (60 : Int32) < (Int32.ofNat i)) => ?_) (fun hc0 => absurd (show (60 : Int32) < (Int32.ofNat i) from by rw [show i = 61 by omega]; decide) hc0)
    refine q_ret 2 (some (.int (Int8.toInt32 (Int8.ofInt (-4)))), g, u) (fun _ _ => rfl) ?_
    exact ⟨g, u, rfl, w_fr_rfl g⟩
  | succ k ih =>
    intro i g hi hs hv
    refine q_step 2 21 [(0, .ref 70), (1, .int (1 : Int32)), (2, .int (Int32.ofNat i))] [.int (60 : Int32), .int (Int32.ofNat i)] g u (fun big n0 => sg_ag_64 big n0 g u (Int32.ofNat i)) ?_
    refine q_ic_gt rfl (fun hc0 => absurd (show (60 : Int32) < (Int32.ofNat i) from hc0) (fun z => by have z1 := (q_lt (i := 60) (j := i) (by omega) (by omega)).mp z; omega)) (fun (hc0 : ¬ ((60 : Int32) < (Int32.ofNat i))) => ?_)
    refine q_step 4 30 [(0, .ref 70), (1, .int (1 : Int32)), (2, .int (Int32.ofNat i))] [.int (0 : Int32), .int (Int32.ofNat i), .ref 82] g u (fun big n0 => sg_ag_65 big n0 g u (Int32.ofNat i)) ?_
    refine q_iast (j := i) (q_ixn (by omega) (by omega)) rfl rfl ?_
    refine q_step 4 37 [(0, .ref 70), (1, .int (1 : Int32)), (2, .int (Int32.ofNat i))] [.int (0 : Int32), .int (Int32.ofNat i), .ref 83] (q_up g 82 i (0 : Int32)) u (fun big n0 => sg_ag_66 big n0 (q_up g 82 i (0 : Int32)) u (Int32.ofNat i)) ?_
    refine q_iast (j := i) (q_ixn (by omega) (by omega)) rfl rfl ?_
    refine q_step 2 40 [(0, .ref 70), (1, .int (1 : Int32)), (2, .int (Int32.ofNat i)), (3, .int (0 : Int32))] [] (q_up (q_up g 82 i (0 : Int32)) 83 i (0 : Int32)) u (fun big n0 => sg_ag_67 big n0 (q_up (q_up g 82 i (0 : Int32)) 83 i (0 : Int32)) u (Int32.ofNat i)) ?_
    rw [show (q_up (q_up g 82 i (0 : Int32)) 83 i (0 : Int32)) = s_agm g i 0 0 from rfl]
    have hX : s_rwf 25 (g 75) n 0 0 = f_cr n (s_rit n i r) := s_rwf_cg n 0 0 (fun j _ hj => (hs.2.2 j (by omega)).1)
    have hY : s_rwf 4 (g 76) n 0 0 = f_mr n (s_rit n i r) := s_rwf_cg n 0 0 (fun j _ hj => (hs.2.2 j (by omega)).2.1)
    refine ra1_1 g u (by omega) (w_w0 (w_ok_rit i r h) hs).1 h.1.2.2.2.2 n 0 0 0 (by omega) ?_
    rw [hX, hY]
    generalize hg2 : s_agm g i (f_cr n (s_rit n i r)) (f_mr n (s_rit n i r)) = g2
    have hs2 : w_sm n g2 (s_rit n i r) := by rw [← hg2]; exact hs
    have hfr2 : w_fr g g2 := by rw [← hg2]; exact (w_fr_rfl g).up (by omega) |>.up (by omega)
    have hm2 : ∀ j, j ≤ i → g2 82 j = f_cr n (s_rit n j r) ∧ g2 83 j = f_mr n (s_rit n j r) := fun j hj => by
      rw [← hg2]
      by_cases e : j = i
      · rw [e, s_agm_x, s_agm_y]
        exact ⟨rfl, rfl⟩
      · rw [s_agm_xo e, s_agm_yo e]
        exact hv j (by omega)
    refine q_step 2 99 [(0, .ref 70), (1, .int (1 : Int32)), (2, .int (Int32.ofNat i)), (3, .int (0 : Int32))] [] g2 u (fun big n0 => sg_ag_68 big n0 g2 u (Int32.ofNat i) (Int32.ofNat n)) ?_
    refine ra2_1 g2 u (Mk := (fun j => f_mk n (s_rit n j r))) (by omega) (fun j hj => by rw [(hm2 j (by omega)).1, (hm2 j (by omega)).2, (hm2 i (Nat.le_refl _)).1, (hm2 i (Nat.le_refl _)).2]; exact w_mk (w_ok_rit j r h) (w_ok_rit i r h)) i 0 (by omega) (fun hz => ?_) (fun x hx => ?_)
    · refine q_step 1 153 [(0, .ref 70), (1, .int (1 : Int32)), (2, .int (Int32.ofNat i)), (3, .int (Int32.ofNat i))] [.ref 70] g2 u (fun big n0 => sg_ag_69 big n0 g2 u (Int32.ofNat i) (Int32.ofNat i)) ?_
      refine q_call (M2 := 191) (rest := []) (c_rst u (w_ok_rit i r h) hs2) (fun _ _ => rfl) ?_
      refine q_step 3 18 [(0, .ref 70), (1, .int (1 : Int32)), (2, .int ((Int32.ofNat i) + (1 : Int32))), (3, .int (Int32.ofNat i))] [] (s_rst n g2) u (fun big n0 => sg_ag_70 big n0 (s_rst n g2) u (Int32.ofNat i) (Int32.ofNat i) (s_ran n g2)) ?_
      refine q_weak [(0, .ref 70), (1, .int (1 : Int32)), (2, .int ((Int32.ofNat i) + (1 : Int32)))] (q_sub.cons rfl (q_sub.cons rfl (q_sub.cons rfl q_sub.nil))) ?_
      rw [q_succ]
      have e : f_ou (fun j => f_mk n (s_rit n j r)) (k + 1) i = f_ou (fun j => f_mk n (s_rit n j r)) k (i + 1) := by rw [f_ou, hz]
      exact q_EV.imp (ih (i + 1) (s_rst n g2) (by omega) (by rw [← s_rit_add]; exact (w_sm_rst (w_ok_rit i r h) hs2).1) (fun j hj => by rw [s_rst_g (by omega), s_rst_g (by omega)]; exact hm2 j (by omega))) (fun R z => w_po_r (hfr2.trans s_rst_fr) (by rw [e]) z)
    · have hl := f_in_lt _ _ _ hx
      have e : f_ou (fun j => f_mk n (s_rit n j r)) (k + 1) i = some (x, i - x) := by rw [f_ou, hx]
      refine ⟨g2, u, ?_, hfr2⟩
      rw [e]
      rw [q_sb (by omega) (by omega)]
      rfl
theorem r_again1 {n W H : Nat} {g r : qM} (u : qW) (h : w_ok n W H r) (hs : w_sm n (s_start g) r) (h5 : n ≤ 5) : w_BS w_fr 200 [.ref 70, .int (1 : Int32)] g u (.int (f_agw 1 (f_ag n r))) := by
  refine w_bs (mm := m_200) rfl (Nat.le_of_ble_eq_true rfl) rfl ?_
  refine q_step 4 4 [(0, .ref 70), (1, .int (1 : Int32))] [.long (1 : Int64), .long (0 : Int64), .long (1 : Int64)] g u (fun big n0 => sg_ag_71 big n0 g u) ?_
  refine q_call (M2 := 149) (rest := []) (show q_BS 149 [.long (1 : Int64), .long (0 : Int64), .long (1 : Int64)] g u (some (.int 1), g, u) from b_in _ _ _ _ _) (fun _ _ => rfl) ?_
  refine q_step 2 13 [(0, .ref 70), (1, .int (1 : Int32))] [.ref 70] g u (fun big n0 => sg_ag_72 big n0 g u) ?_
  refine q_call (M2 := 172) (rest := []) (b_starts g u) (fun _ _ => rfl) ?_
  refine q_step 2 18 [(0, .ref 70), (1, .int (1 : Int32)), (2, .int (0 : Int32))] [] (s_start g) u (fun big n0 => sg_ag_73 big n0 (s_start g) u) ?_
  exact q_EV.imp (ra3_1 u h 61 0 (s_start g) (by omega) hs (fun j hj => by omega)) (fun R z => w_po_r s_start_fr rfl z)
