theorem cm_rem (x y : Int64) (hy : y ≠ 0) : (x - x / y * y).toInt = x.toInt.tmod y.toInt := by
  have hy0 : y.toInt ≠ 0 := fun q => hy (by
    have : y.toInt = (0 : Int64).toInt := q
    exact Int64.toInt_inj.mp this)
  rw [Int64.toInt_sub, Int64.toInt_mul, Int64.toInt_div]
  have h1 : ((x.toInt.tdiv y.toInt).bmod (2 ^ 64) * y.toInt).bmod (2 ^ 64) = (x.toInt.tdiv y.toInt * y.toInt).bmod (2 ^ 64) := Int.bmod_mul_bmod
  rw [h1]
  have h2 : (x.toInt - (x.toInt.tdiv y.toInt * y.toInt).bmod (2 ^ 64)).bmod (2 ^ 64) = (x.toInt - x.toInt.tdiv y.toInt * y.toInt).bmod (2 ^ 64) := Int.sub_bmod_bmod
  rw [h2]
  have h3 : x.toInt - x.toInt.tdiv y.toInt * y.toInt = x.toInt.tmod y.toInt := by
    have := Int.tdiv_mul_add_tmod x.toInt y.toInt
    omega
  rw [h3]
  have b1 := Int64.le_toInt y
  have b2 := Int64.toInt_lt y
  have h4 : (x.toInt.tmod y.toInt).natAbs < y.toInt.natAbs := by
    rw [Int.natAbs_tmod]
    exact Nat.mod_lt _ (by omega)
  exact Int.bmod_eq_of_le (by omega) (by omega)
theorem cm_two {a b : Nat} (hb : 0 < b) (hr : 0 < a % b) : 2 * (b % (a % b)) < b := by
  have h1 : a % b < b := Nat.mod_lt _ hb
  have h2 : b % (a % b) < a % b := Nat.mod_lt _ hr
  have h3 : b % (a % b) = (b - a % b) % (a % b) := Nat.mod_eq_sub_mod (by omega)
  have h4 : (b - a % b) % (a % b) ≤ b - a % b := Nat.mod_le _ _
  omega
theorem cm_cmp (y : Int64) : lg_cmp y (Int64.ofNat 0) = 0 ↔ y = 0 := by
  unfold lg_cmp
  constructor
  · intro h
    split at h
    · exact absurd h (by decide)
    · split at h
      · rename_i e
        exact e
      · exact absurd h (by decide)
  · intro h
    subst h
    decide
section Common
variable (xs : List Int32) (bc : Nat → List Value → pm_H → pm_R) (h : pm_H) (a b : Int64)
theorem cm_it (x y : Int64) (n : Nat) : pm_run xs pm_m bc m_211 (n + 13) 6 [(0, .long a), (2, .long b), (4, .long x), (6, .long y)] [] h 0 0 = (if lg_cmp y (Int64.ofNat 0) = 0 then pm_run xs pm_m bc m_211 (n + 9) 31 [(0, .long a), (2, .long b), (4, .long x), (6, .long y)] [] h 0 0 else if y = 0 then none else pm_run xs pm_m bc m_211 n 6 [(0, .long a), (2, .long b), (4, .long y), (6, .long (x - x / y * y)), (8, .long (x - x / y * y))] [] h 0 0) := rfl
theorem cm_it8 (x y z : Int64) (n : Nat) : pm_run xs pm_m bc m_211 (n + 13) 6 [(0, .long a), (2, .long b), (4, .long x), (6, .long y), (8, .long z)] [] h 0 0 = (if lg_cmp y (Int64.ofNat 0) = 0 then pm_run xs pm_m bc m_211 (n + 9) 31 [(0, .long a), (2, .long b), (4, .long x), (6, .long y), (8, .long z)] [] h 0 0 else if y = 0 then none else pm_run xs pm_m bc m_211 n 6 [(0, .long a), (2, .long b), (4, .long y), (6, .long (x - x / y * y)), (8, .long (x - x / y * y))] [] h 0 0) := rfl
theorem cm_end (x y : Int64) (n : Nat) : pm_run xs pm_m bc m_211 (n + 2) 31 [(0, .long a), (2, .long b), (4, .long x), (6, .long y)] [] h 0 0 = some (some (.long x), h) := rfl
theorem cm_end8 (x y z : Int64) (n : Nat) : pm_run xs pm_m bc m_211 (n + 2) 31 [(0, .long a), (2, .long b), (4, .long x), (6, .long y), (8, .long z)] [] h 0 0 = some (some (.long x), h) := rfl
theorem cm_loop8 : ∀ (k : Nat) (x y z : Int64) (n : Nat), y.toInt.natAbs < 2 ^ k → 26 * k + 13 ≤ n → (x ≠ 0 ∨ y ≠ 0) → ∃ v : Int64, v ≠ 0 ∧ pm_run xs pm_m bc m_211 n 6 [(0, .long a), (2, .long b), (4, .long x), (6, .long y), (8, .long z)] [] h 0 0 = some (some (.long v), h)
  | 0, x, y, z, n, hy, hn, hxy => by
    have hy0 : y = 0 := Int64.toInt_inj.mp (show y.toInt = (0 : Int) by omega)
    subst hy0
    obtain ⟨m, rfl⟩ : ∃ m, n = m + 13 := ⟨n - 13, by omega⟩
    refine ⟨x, hxy.elim id (fun q => absurd rfl q), ?_⟩
    rw [cm_it8, if_pos ((cm_cmp 0).mpr rfl)]
    exact cm_end8 xs bc h a b x 0 z (m + 7)
  | k + 1, x, y, z, n, hy, hn, hxy => by
    obtain ⟨m, rfl⟩ : ∃ m, n = m + 13 + 13 := ⟨n - 26, by omega⟩
    rw [cm_it8]
    by_cases h1 : y = 0
    · subst h1
      refine ⟨x, hxy.elim id (fun q => absurd rfl q), ?_⟩
      rw [if_pos ((cm_cmp 0).mpr rfl)]
      exact cm_end8 xs bc h a b x 0 z (m + 13 + 7)
    · rw [if_neg (fun q => h1 ((cm_cmp y).mp q)), if_neg h1, cm_it8]
      by_cases h2 : x - x / y * y = 0
      · refine ⟨y, h1, ?_⟩
        rw [if_pos ((cm_cmp _).mpr h2)]
        exact cm_end8 xs bc h a b y _ _ (m + 7)
      · rw [if_neg (fun q => h2 ((cm_cmp _).mp q)), if_neg h2]
        refine cm_loop8 k _ _ _ m ?_ (by omega) (Or.inl h2)
        rw [cm_rem _ _ h2, cm_rem _ _ h1, Int.natAbs_tmod, Int.natAbs_tmod]
        have hb : 0 < y.toInt.natAbs := by
          have : y.toInt ≠ 0 := fun q => h1 (Int64.toInt_inj.mp q)
          omega
        have hr : 0 < x.toInt.natAbs % y.toInt.natAbs := by
          have : (x - x / y * y).toInt ≠ 0 := fun q => h2 (Int64.toInt_inj.mp q)
          rw [cm_rem _ _ h1] at this
          have h3 := Int.natAbs_tmod x.toInt y.toInt
          omega
        have h4 := cm_two hb hr
        rw [Nat.pow_succ] at hy
        omega
end Common
def q_common : vm_Q := (211, [.inr (.inl (.ofNat 1, .ofNat 9223372036854775807)), .inr (.inl am_topl)], (80, []), [(some (.inr (.inl (.negSucc 9223372036854775807, .negSucc 0))), (80, [])), (some (.inr (.inl (.ofNat 1, .ofNat 9223372036854775807))), (80, []))])
theorem cm_start (xs : List Int32) (bc : Nat → List Value → pm_H → pm_R) (h : pm_H) (a b : Int64) (n : Nat) : pm_run xs pm_m bc m_211 (n + 4) 0 [(0, .long a), (2, .long b)] [] h 0 0 = pm_run xs pm_m bc m_211 n 6 [(0, .long a), (2, .long b), (4, .long a), (6, .long b)] [] h 0 0 := rfl
theorem cm_run (xs : List Int32) (bc : Nat → List Value → pm_H → pm_R) (h : pm_H) (a b : Int64) (ha : a ≠ 0) : ∃ v : Int64, v ≠ 0 ∧ pm_run xs pm_m bc m_211 vm_lim 0 [(0, .long a), (2, .long b)] [] h 0 0 = some (some (.long v), h) := by
  show ∃ v : Int64, v ≠ 0 ∧ pm_run xs pm_m bc m_211 (99999983 + 13 + 4) 0 [(0, .long a), (2, .long b)] [] h 0 0 = some (some (.long v), h)
  rw [cm_start, cm_it]
  by_cases h1 : b = 0
  · subst h1
    refine ⟨a, ha, ?_⟩
    rw [if_pos ((cm_cmp 0).mpr rfl)]
    exact cm_end xs bc h a 0 a 0 (99999983 + 7)
  · rw [if_neg (fun q => h1 ((cm_cmp b).mp q)), if_neg h1]
    refine cm_loop8 xs bc h a b 64 _ _ _ _ ?_ (by omega) (Or.inl h1)
    have b1 := Int64.le_toInt (a - a / b * b)
    have b2 := Int64.toInt_lt (a - a / b * b)
    omega
theorem v_common : vm_at 1 q_common := by
  intro xs d hd cs hc h1 h2
  obtain ⟨d, rfl⟩ : ∃ d', d = d' + 1 := ⟨d - 1, by omega⟩
  obtain ⟨a, st, rfl, ha, h1⟩ := av_l h1
  obtain ⟨b, st, rfl, _, h1⟩ := av_l h1
  obtain rfl := av_n h1
  have ha0 : a ≠ 0 := fun q => by
    have q1 : (1 : Int) ≤ a.toInt := ha.1
    rw [q] at q1
    exact absurd q1 (by decide)
  obtain ⟨v, hv, hr⟩ := cm_run xs (pm_big xs pm_m vm_lim d) hc a b ha0
  have hbig : pm_big xs pm_m vm_lim (d + 1) 211 [.long a, .long b] hc = some (some (.long v), hc) := by
    show (match pm_m 211 with
      | some mm => if pm_words [.long a, .long b] ≤ pm_ml mm then (if [Value.long a, Value.long b].length = pm_n mm then pm_run xs pm_m (pm_big xs pm_m vm_lim d) mm vm_lim 0 (lv_args 0 [.long a, .long b]) [] hc 0 0 else none) else none
      | none => none) = _
    rw [show pm_m 211 = some m_211 from rfl]
    dsimp only
    rw [if_pos (show pm_words [.long a, .long b] ≤ pm_ml m_211 by show (4 : Nat) ≤ 10; omega), if_pos (show [Value.long a, Value.long b].length = pm_n m_211 from rfl)]
    exact hr
  refine ⟨(some (.long v), hc), hbig, ?_⟩
  have hv0 : v.toInt ≠ 0 := fun q => hv (Int64.toInt_inj.mp q)
  have b1 := Int64.le_toInt v
  have b2 := Int64.toInt_lt v
  by_cases hn : v.toInt < 0
  · refine ⟨_, List.mem_cons_self, ?_, h2⟩
    show (-9223372036854775808 : Int) ≤ v.toInt ∧ v.toInt ≤ (-1 : Int)
    omega
  · refine ⟨_, List.mem_cons_of_mem _ List.mem_cons_self, ?_, h2⟩
    show (1 : Int) ≤ v.toInt ∧ v.toInt ≤ (9223372036854775807 : Int)
    omega
