/-! THE LAW'S LOOP, at any place of a script of 320 ints at most; the start; the claim. -/
theorem lo_add {p a : Nat} {y : Int32} (hy : am_i ((a : Int), (a : Int)) y) (h : p + a < 1000) : ¬ Int32.ofNat p + y < 0 ∧ (Int32.ofNat p + y).toNatClampNeg = p + a ∧ Int32.ofNat p + y = Int32.ofNat (p + a) := by
  have e1 : (Int32.ofNat p).toInt = (p : Int) := Int32.toInt_ofNat_of_lt (by omega)
  have hx : am_i ((p : Int), (p : Int)) (Int32.ofNat p) := ⟨by rw [e1]; exact Int.le_refl _, by rw [e1]; exact Int.le_refl _⟩
  have h1 := am_add_ok hx hy
  have e2 : am_add ((p : Int), (p : Int)) ((a : Int), (a : Int)) = ((p : Int) + a, (p : Int) + a) := by
    show (if -2147483648 ≤ (p : Int) + (a : Int) ∧ (p : Int) + (a : Int) ≤ 2147483647 then ((p : Int) + (a : Int), (p : Int) + (a : Int)) else _) = _
    exact if_pos ⟨by omega, by omega⟩
  rw [e2] at h1
  have e3 : (Int32.ofNat p + y).toInt = (p : Int) + a := Int.le_antisymm h1.2 h1.1
  refine ⟨?_, ?_, ?_⟩
  · intro q
    have q1 := Int32.lt_iff_toInt_lt.mp q
    rw [e3] at q1
    have z : (0 : Int32).toInt = 0 := rfl
    omega
  · show (Int32.ofNat p + y).toInt.toNat = p + a
    rw [e3]
    omega
  · have e4 : (Int32.ofNat p + y).toInt = (Int32.ofNat (p + a)).toInt := by
      rw [e3, Int32.toInt_ofNat_of_lt (by omega)]
      omega
    first
      | exact Int32.toInt_inj.mp e4
      | exact Int32.toInt.inj e4
theorem lo_sub {n : Nat} (h : n ≤ 320) : (Int32.ofNat n - Int32.ofInt 5).toInt = (n : Int) - 5 := by
  have e1 : (Int32.ofNat n).toInt = (n : Int) := Int32.toInt_ofNat_of_lt (by omega)
  have hx : am_i ((n : Int), (n : Int)) (Int32.ofNat n) := ⟨by rw [e1]; exact Int.le_refl _, by rw [e1]; exact Int.le_refl _⟩
  have hy : am_i ((5 : Int), (5 : Int)) (Int32.ofInt 5) := ⟨by decide, by decide⟩
  have h1 := am_sub_ok hx hy
  have e2 : am_sub ((n : Int), (n : Int)) ((5 : Int), (5 : Int)) = ((n : Int) - 5, (n : Int) - 5) := by
    show (if -2147483648 ≤ (n : Int) - 5 ∧ (n : Int) - 5 ≤ 2147483647 then ((n : Int) - 5, (n : Int) - 5) else _) = _
    exact if_pos ⟨by omega, by omega⟩
  rw [e2] at h1
  exact Int.le_antisymm h1.2 h1.1
theorem lo_and (x : Int32) : ∃ t : Nat, t ≤ 63 ∧ x &&& (Int8.ofInt 63).toInt32 = Int32.ofInt (t : Int) := by
  have hy : am_i ((63 : Int), (63 : Int)) (Int8.ofInt 63).toInt32 := ⟨by decide, by decide⟩
  have h1 := am_and_ok (am_i.top x) hy
  have e : am_and am_top ((63 : Int), (63 : Int)) = ((0 : Int), (63 : Int)) := by decide +kernel
  rw [e] at h1
  have h2 : (0 : Int) ≤ (x &&& (Int8.ofInt 63).toInt32).toInt := h1.1
  have h3 : (x &&& (Int8.ofInt 63).toInt32).toInt ≤ (63 : Int) := h1.2
  refine ⟨(x &&& (Int8.ofInt 63).toInt32).toInt.toNat, by omega, ?_⟩
  rw [Int.toNat_of_nonneg h2, Int32.ofInt_toInt]
theorem lo_k1 : am_i (((1 : Nat) : Int), ((1 : Nat) : Int)) (Int32.ofInt 1) := ⟨by decide, by decide⟩
theorem lo_k2 : am_i (((2 : Nat) : Int), ((2 : Nat) : Int)) (Int32.ofInt 2) := ⟨by decide, by decide⟩
theorem lo_k3 : am_i (((3 : Nat) : Int), ((3 : Nat) : Int)) (Int32.ofInt 3) := ⟨by decide, by decide⟩
theorem lo_k4 : am_i (((4 : Nat) : Int), ((4 : Nat) : Int)) (Int32.ofInt 4) := ⟨by decide, by decide⟩
theorem lo_k5 : am_i (((5 : Nat) : Int), ((5 : Nat) : Int)) (Int32.ofInt 5) := ⟨by decide, by decide⟩
section Loop
variable (xs : List Int32) (bc : Nat → List Value → pm_H → pm_R) (i : Int32) (h : pm_H)
theorem lo_18 (m : Nat) : la_R xs bc (m + 5) 18 i [] h = la_R xs bc m 23 i [.int (Int32.ofNat xs.length - Int32.ofInt 5), .int i] h := rfl
theorem lo_23 (x y : Int32) (m : Nat) : la_R xs bc (m + 1) 23 i [.int y, .int x] h = if y < x then la_R xs bc m 1339 i [] h else la_R xs bc m 26 i [] h := rfl
theorem lo_26 (m : Nat) : la_R xs bc (m + 2) 26 i [] h = la_R xs bc m 28 i [.int i, .ref 0] h := rfl
theorem lo_29 (x : Int32) (m : Nat) : la_R xs bc (m + 2) 29 i [.int x] h = la_R xs bc m 32 i [.int (x &&& (Int8.ofInt 63).toInt32)] h := rfl
theorem lo_1333 (m : Nat) : la_R xs bc (m + 2) 1333 i [] h = la_R xs bc m 18 (i + Int32.ofInt 5) [] h := rfl
theorem lo_1339 (m : Nat) : la_R xs bc (m + 2) 1339 i [] h = some (some (.int 1), h) := rfl
theorem lo_32_0 (m : Nat) : la_R xs bc (m + 1) 32 i [.int (Int32.ofInt ((0 : Nat) : Int))] h = la_R xs bc m 204 i [] h := rfl
theorem lo_32_1 (m : Nat) : la_R xs bc (m + 1) 32 i [.int (Int32.ofInt ((1 : Nat) : Int))] h = la_R xs bc m 227 i [] h := rfl
theorem lo_32_2 (m : Nat) : la_R xs bc (m + 1) 32 i [.int (Int32.ofInt ((2 : Nat) : Int))] h = la_R xs bc m 250 i [] h := rfl
theorem lo_32_3 (m : Nat) : la_R xs bc (m + 1) 32 i [.int (Int32.ofInt ((3 : Nat) : Int))] h = la_R xs bc m 263 i [] h := rfl
theorem lo_32_4 (m : Nat) : la_R xs bc (m + 1) 32 i [.int (Int32.ofInt ((4 : Nat) : Int))] h = la_R xs bc m 276 i [] h := rfl
theorem lo_32_5 (m : Nat) : la_R xs bc (m + 1) 32 i [.int (Int32.ofInt ((5 : Nat) : Int))] h = la_R xs bc m 299 i [] h := rfl
theorem lo_32_6 (m : Nat) : la_R xs bc (m + 1) 32 i [.int (Int32.ofInt ((6 : Nat) : Int))] h = la_R xs bc m 332 i [] h := rfl
theorem lo_32_7 (m : Nat) : la_R xs bc (m + 1) 32 i [.int (Int32.ofInt ((7 : Nat) : Int))] h = la_R xs bc m 355 i [] h := rfl
theorem lo_32_8 (m : Nat) : la_R xs bc (m + 1) 32 i [.int (Int32.ofInt ((8 : Nat) : Int))] h = la_R xs bc m 388 i [] h := rfl
theorem lo_32_9 (m : Nat) : la_R xs bc (m + 1) 32 i [.int (Int32.ofInt ((9 : Nat) : Int))] h = la_R xs bc m 421 i [] h := rfl
theorem lo_32_10 (m : Nat) : la_R xs bc (m + 1) 32 i [.int (Int32.ofInt ((10 : Nat) : Int))] h = la_R xs bc m 470 i [] h := rfl
theorem lo_32_11 (m : Nat) : la_R xs bc (m + 1) 32 i [.int (Int32.ofInt ((11 : Nat) : Int))] h = la_R xs bc m 503 i [] h := rfl
theorem lo_32_12 (m : Nat) : la_R xs bc (m + 1) 32 i [.int (Int32.ofInt ((12 : Nat) : Int))] h = la_R xs bc m 552 i [] h := rfl
theorem lo_32_13 (m : Nat) : la_R xs bc (m + 1) 32 i [.int (Int32.ofInt ((13 : Nat) : Int))] h = la_R xs bc m 585 i [] h := rfl
theorem lo_32_14 (m : Nat) : la_R xs bc (m + 1) 32 i [.int (Int32.ofInt ((14 : Nat) : Int))] h = la_R xs bc m 608 i [] h := rfl
theorem lo_32_15 (m : Nat) : la_R xs bc (m + 1) 32 i [.int (Int32.ofInt ((15 : Nat) : Int))] h = la_R xs bc m 641 i [] h := rfl
theorem lo_32_16 (m : Nat) : la_R xs bc (m + 1) 32 i [.int (Int32.ofInt ((16 : Nat) : Int))] h = la_R xs bc m 664 i [] h := rfl
theorem lo_32_17 (m : Nat) : la_R xs bc (m + 1) 32 i [.int (Int32.ofInt ((17 : Nat) : Int))] h = la_R xs bc m 677 i [] h := rfl
theorem lo_32_18 (m : Nat) : la_R xs bc (m + 1) 32 i [.int (Int32.ofInt ((18 : Nat) : Int))] h = la_R xs bc m 690 i [] h := rfl
theorem lo_32_19 (m : Nat) : la_R xs bc (m + 1) 32 i [.int (Int32.ofInt ((19 : Nat) : Int))] h = la_R xs bc m 713 i [] h := rfl
theorem lo_32_20 (m : Nat) : la_R xs bc (m + 1) 32 i [.int (Int32.ofInt ((20 : Nat) : Int))] h = la_R xs bc m 756 i [] h := rfl
theorem lo_32_21 (m : Nat) : la_R xs bc (m + 1) 32 i [.int (Int32.ofInt ((21 : Nat) : Int))] h = la_R xs bc m 769 i [] h := rfl
theorem lo_32_22 (m : Nat) : la_R xs bc (m + 1) 32 i [.int (Int32.ofInt ((22 : Nat) : Int))] h = la_R xs bc m 792 i [] h := rfl
theorem lo_32_23 (m : Nat) : la_R xs bc (m + 1) 32 i [.int (Int32.ofInt ((23 : Nat) : Int))] h = la_R xs bc m 825 i [] h := rfl
theorem lo_32_24 (m : Nat) : la_R xs bc (m + 1) 32 i [.int (Int32.ofInt ((24 : Nat) : Int))] h = la_R xs bc m 838 i [] h := rfl
theorem lo_32_25 (m : Nat) : la_R xs bc (m + 1) 32 i [.int (Int32.ofInt ((25 : Nat) : Int))] h = la_R xs bc m 861 i [] h := rfl
theorem lo_32_26 (m : Nat) : la_R xs bc (m + 1) 32 i [.int (Int32.ofInt ((26 : Nat) : Int))] h = la_R xs bc m 914 i [] h := rfl
theorem lo_32_27 (m : Nat) : la_R xs bc (m + 1) 32 i [.int (Int32.ofInt ((27 : Nat) : Int))] h = la_R xs bc m 957 i [] h := rfl
theorem lo_32_28 (m : Nat) : la_R xs bc (m + 1) 32 i [.int (Int32.ofInt ((28 : Nat) : Int))] h = la_R xs bc m 1000 i [] h := rfl
theorem lo_32_29 (m : Nat) : la_R xs bc (m + 1) 32 i [.int (Int32.ofInt ((29 : Nat) : Int))] h = la_R xs bc m 1033 i [] h := rfl
theorem lo_32_30 (m : Nat) : la_R xs bc (m + 1) 32 i [.int (Int32.ofInt ((30 : Nat) : Int))] h = la_R xs bc m 1056 i [] h := rfl
theorem lo_32_31 (m : Nat) : la_R xs bc (m + 1) 32 i [.int (Int32.ofInt ((31 : Nat) : Int))] h = la_R xs bc m 1079 i [] h := rfl
theorem lo_32_32 (m : Nat) : la_R xs bc (m + 1) 32 i [.int (Int32.ofInt ((32 : Nat) : Int))] h = la_R xs bc m 1112 i [] h := rfl
theorem lo_32_33 (m : Nat) : la_R xs bc (m + 1) 32 i [.int (Int32.ofInt ((33 : Nat) : Int))] h = la_R xs bc m 1135 i [] h := rfl
theorem lo_32_34 (m : Nat) : la_R xs bc (m + 1) 32 i [.int (Int32.ofInt ((34 : Nat) : Int))] h = la_R xs bc m 1158 i [] h := rfl
theorem lo_32_35 (m : Nat) : la_R xs bc (m + 1) 32 i [.int (Int32.ofInt ((35 : Nat) : Int))] h = la_R xs bc m 1201 i [] h := rfl
theorem lo_32_36 (m : Nat) : la_R xs bc (m + 1) 32 i [.int (Int32.ofInt ((36 : Nat) : Int))] h = la_R xs bc m 1244 i [] h := rfl
theorem lo_32_37 (m : Nat) : la_R xs bc (m + 1) 32 i [.int (Int32.ofInt ((37 : Nat) : Int))] h = la_R xs bc m 1297 i [] h := rfl
theorem lo_32_38 (m : Nat) : la_R xs bc (m + 1) 32 i [.int (Int32.ofInt ((38 : Nat) : Int))] h = la_R xs bc m 1310 i [] h := rfl
theorem lo_32_39 (m : Nat) : la_R xs bc (m + 1) 32 i [.int (Int32.ofInt ((39 : Nat) : Int))] h = la_R xs bc m 1333 i [] h := rfl
theorem lo_32_40 (m : Nat) : la_R xs bc (m + 1) 32 i [.int (Int32.ofInt ((40 : Nat) : Int))] h = la_R xs bc m 1333 i [] h := rfl
theorem lo_32_41 (m : Nat) : la_R xs bc (m + 1) 32 i [.int (Int32.ofInt ((41 : Nat) : Int))] h = la_R xs bc m 1333 i [] h := rfl
theorem lo_32_42 (m : Nat) : la_R xs bc (m + 1) 32 i [.int (Int32.ofInt ((42 : Nat) : Int))] h = la_R xs bc m 1333 i [] h := rfl
theorem lo_32_43 (m : Nat) : la_R xs bc (m + 1) 32 i [.int (Int32.ofInt ((43 : Nat) : Int))] h = la_R xs bc m 1333 i [] h := rfl
theorem lo_32_44 (m : Nat) : la_R xs bc (m + 1) 32 i [.int (Int32.ofInt ((44 : Nat) : Int))] h = la_R xs bc m 1333 i [] h := rfl
theorem lo_32_45 (m : Nat) : la_R xs bc (m + 1) 32 i [.int (Int32.ofInt ((45 : Nat) : Int))] h = la_R xs bc m 1333 i [] h := rfl
theorem lo_32_46 (m : Nat) : la_R xs bc (m + 1) 32 i [.int (Int32.ofInt ((46 : Nat) : Int))] h = la_R xs bc m 1333 i [] h := rfl
theorem lo_32_47 (m : Nat) : la_R xs bc (m + 1) 32 i [.int (Int32.ofInt ((47 : Nat) : Int))] h = la_R xs bc m 1333 i [] h := rfl
theorem lo_32_48 (m : Nat) : la_R xs bc (m + 1) 32 i [.int (Int32.ofInt ((48 : Nat) : Int))] h = la_R xs bc m 1333 i [] h := rfl
theorem lo_32_49 (m : Nat) : la_R xs bc (m + 1) 32 i [.int (Int32.ofInt ((49 : Nat) : Int))] h = la_R xs bc m 1333 i [] h := rfl
theorem lo_32_50 (m : Nat) : la_R xs bc (m + 1) 32 i [.int (Int32.ofInt ((50 : Nat) : Int))] h = la_R xs bc m 1333 i [] h := rfl
theorem lo_32_51 (m : Nat) : la_R xs bc (m + 1) 32 i [.int (Int32.ofInt ((51 : Nat) : Int))] h = la_R xs bc m 1333 i [] h := rfl
theorem lo_32_52 (m : Nat) : la_R xs bc (m + 1) 32 i [.int (Int32.ofInt ((52 : Nat) : Int))] h = la_R xs bc m 1333 i [] h := rfl
theorem lo_32_53 (m : Nat) : la_R xs bc (m + 1) 32 i [.int (Int32.ofInt ((53 : Nat) : Int))] h = la_R xs bc m 1333 i [] h := rfl
theorem lo_32_54 (m : Nat) : la_R xs bc (m + 1) 32 i [.int (Int32.ofInt ((54 : Nat) : Int))] h = la_R xs bc m 1333 i [] h := rfl
theorem lo_32_55 (m : Nat) : la_R xs bc (m + 1) 32 i [.int (Int32.ofInt ((55 : Nat) : Int))] h = la_R xs bc m 1333 i [] h := rfl
theorem lo_32_56 (m : Nat) : la_R xs bc (m + 1) 32 i [.int (Int32.ofInt ((56 : Nat) : Int))] h = la_R xs bc m 1333 i [] h := rfl
theorem lo_32_57 (m : Nat) : la_R xs bc (m + 1) 32 i [.int (Int32.ofInt ((57 : Nat) : Int))] h = la_R xs bc m 1333 i [] h := rfl
theorem lo_32_58 (m : Nat) : la_R xs bc (m + 1) 32 i [.int (Int32.ofInt ((58 : Nat) : Int))] h = la_R xs bc m 1333 i [] h := rfl
theorem lo_32_59 (m : Nat) : la_R xs bc (m + 1) 32 i [.int (Int32.ofInt ((59 : Nat) : Int))] h = la_R xs bc m 1333 i [] h := rfl
theorem lo_32_60 (m : Nat) : la_R xs bc (m + 1) 32 i [.int (Int32.ofInt ((60 : Nat) : Int))] h = la_R xs bc m 1333 i [] h := rfl
theorem lo_32_61 (m : Nat) : la_R xs bc (m + 1) 32 i [.int (Int32.ofInt ((61 : Nat) : Int))] h = la_R xs bc m 1333 i [] h := rfl
theorem lo_32_62 (m : Nat) : la_R xs bc (m + 1) 32 i [.int (Int32.ofInt ((62 : Nat) : Int))] h = la_R xs bc m 1333 i [] h := rfl
theorem lo_32_63 (m : Nat) : la_R xs bc (m + 1) 32 i [.int (Int32.ofInt ((63 : Nat) : Int))] h = la_R xs bc m 1333 i [] h := rfl
end Loop
theorem lo_end {xs : List Int32} {bc : Nat → List Value → pm_H → pm_R} {h : pm_H} (hL : xs.length ≤ 320) {j : Nat} (hj : 5 * j ≤ 320) (hend : xs.length < 5 * j + 5) (m : Nat) : la_R xs bc (m + 2 + 1 + 5) 18 (Int32.ofNat (5 * j)) [] h = some (some (.int 1), h) := by
  rw [lo_18, lo_23]
  have e1 : (Int32.ofNat (5 * j)).toInt = ((5 * j : Nat) : Int) := Int32.toInt_ofNat_of_lt (by omega)
  have hlt : Int32.ofNat xs.length - Int32.ofInt 5 < Int32.ofNat (5 * j) := by
    rw [Int32.lt_iff_toInt_lt, lo_sub hL, e1]
    omega
  rw [if_pos hlt]
  exact lo_1339 _ _ _ _ _
theorem lo_go {xs : List Int32} {bc : Nat → List Value → pm_H → pm_R} {h : pm_H} (hL : xs.length ≤ 320) {j : Nat} (hj : 5 * j ≤ 320) (hend : ¬ xs.length < 5 * j + 5) (m : Nat) : la_R xs bc (m + 1 + 5) 18 (Int32.ofNat (5 * j)) [] h = la_R xs bc m 26 (Int32.ofNat (5 * j)) [] h := by
  rw [lo_18, lo_23]
  have e1 : (Int32.ofNat (5 * j)).toInt = ((5 * j : Nat) : Int) := Int32.toInt_ofNat_of_lt (by omega)
  have hlt : ¬ Int32.ofNat xs.length - Int32.ofInt 5 < Int32.ofNat (5 * j) := by
    rw [Int32.lt_iff_toInt_lt, lo_sub hL, e1]
    omega
  rw [if_neg hlt]
set_option maxHeartbeats 4000000 in
theorem lo_ok {xs : List Int32} {d : Nat} (hd : 40 ≤ d) (hL : xs.length ≤ 320) : ∀ (k j F : Nat) (h : pm_H), am_h (80, []) h → xs.length < 5 * j + 5 * k + 5 → 100 * k + 20 ≤ F → j + k ≤ 64 → ∃ h', la_R xs (pm_big xs pm_m vm_lim d) F 18 (Int32.ofNat (5 * j)) [] h = some (some (.int 1), h') := by
  intro k
  induction k with
  | zero =>
    intro j F h hh hlen hF hjk
    obtain ⟨m, rfl⟩ : ∃ m, F = m + 2 + 1 + 5 := ⟨F - 8, by omega⟩
    exact ⟨h, lo_end hL (by omega) (by omega) m⟩
  | succ k ih =>
    intro j F h hh hlen hF hjk
    by_cases hend : xs.length < 5 * j + 5
    · obtain ⟨m, rfl⟩ : ∃ m, F = m + 2 + 1 + 5 := ⟨F - 8, by omega⟩
      exact ⟨h, lo_end hL (by omega) hend m⟩
    · obtain ⟨m, rfl⟩ : ∃ m, F = m + 1 + 5 := ⟨F - 6, by omega⟩
      rw [lo_go hL (by omega) hend]
      have e1 : (Int32.ofNat (5 * j)).toInt = ((5 * j : Nat) : Int) := Int32.toInt_ofNat_of_lt (by omega)
      have tail : ∀ (m : Nat) (h1 : pm_H), am_h (80, []) h1 → 100 * k + 22 ≤ m → ∃ h', la_R xs (pm_big xs pm_m vm_lim d) m 1333 (Int32.ofNat (5 * j)) [] h1 = some (some (.int 1), h') := by
        intro m h1 g1 hm
        obtain ⟨n, rfl⟩ : ∃ n, m = n + 2 := ⟨m - 2, by omega⟩
        rw [lo_1333, (lo_add lo_k5 (p := 5 * j) (by omega)).2.2, show 5 * j + 5 = 5 * (j + 1) by omega]
        exact ih (j + 1) n h1 g1 (by omega) (by omega) (by omega)
      obtain ⟨x0, hx0⟩ : ∃ x, xs[5 * j]? = some x := ⟨_, List.getElem?_eq_getElem (by omega)⟩
      obtain ⟨x1, hx1⟩ : ∃ x, xs[5 * j + 1]? = some x := ⟨_, List.getElem?_eq_getElem (by omega)⟩
      obtain ⟨x2, hx2⟩ : ∃ x, xs[5 * j + 2]? = some x := ⟨_, List.getElem?_eq_getElem (by omega)⟩
      obtain ⟨x3, hx3⟩ : ∃ x, xs[5 * j + 3]? = some x := ⟨_, List.getElem?_eq_getElem (by omega)⟩
      obtain ⟨x4, hx4⟩ : ∃ x, xs[5 * j + 4]? = some x := ⟨_, List.getElem?_eq_getElem (by omega)⟩
      have z1 : (Int32.ofNat (5 * j)).toNatClampNeg = 5 * j := by
        show (Int32.ofNat (5 * j)).toInt.toNat = 5 * j
        rw [e1]
        omega
      have z0 : ¬ Int32.ofNat (5 * j) < 0 := by
        intro q
        have q1 := Int32.lt_iff_toInt_lt.mp q
        rw [e1] at q1
        have z : (0 : Int32).toInt = 0 := rfl
        omega
      have n1 := (lo_add lo_k1 (p := 5 * j) (by omega)).1
      have e1 : xs[(Int32.ofNat (5 * j) + Int32.ofInt 1).toNatClampNeg]? = some x1 := by
        rw [(lo_add lo_k1 (p := 5 * j) (by omega)).2.1]
        exact hx1
      have n2 := (lo_add lo_k2 (p := 5 * j) (by omega)).1
      have e2 : xs[(Int32.ofNat (5 * j) + Int32.ofInt 2).toNatClampNeg]? = some x2 := by
        rw [(lo_add lo_k2 (p := 5 * j) (by omega)).2.1]
        exact hx2
      have n3 := (lo_add lo_k3 (p := 5 * j) (by omega)).1
      have e3 : xs[(Int32.ofNat (5 * j) + Int32.ofInt 3).toNatClampNeg]? = some x3 := by
        rw [(lo_add lo_k3 (p := 5 * j) (by omega)).2.1]
        exact hx3
      have n4 := (lo_add lo_k4 (p := 5 * j) (by omega)).1
      have e4 : xs[(Int32.ofNat (5 * j) + Int32.ofInt 4).toNatClampNeg]? = some x4 := by
        rw [(lo_add lo_k4 (p := 5 * j) (by omega)).2.1]
        exact hx4
      obtain ⟨n, rfl⟩ : ∃ n, m = n + 1 + 2 + 1 + 2 := ⟨m - 6, by omega⟩
      rw [lo_26, la_arg (p := 28) (a := 0) (b := 0) (z := 0) (x := x0) rfl z0 (by rw [z1]; exact hx0), lo_29]
      obtain ⟨t, ht, et⟩ := lo_and x0
      rw [et]
      have hn : 100 * k + 100 ≤ n := by omega
      clear et hF z1 z0 hend
      match t, ht with
      | 0, _ =>
        rw [lo_32_0, show n = (n - 17) + 17 by omega]
        obtain ⟨h1, g1, e⟩ := lz_0 (xs := xs) (i := Int32.ofNat (5 * j)) hd hh n1 e1 (n - 17)
        rw [e]
        exact tail _ h1 g1 (by omega)
      | 1, _ =>
        rw [lo_32_1, show n = (n - 17) + 17 by omega]
        obtain ⟨h1, g1, e⟩ := lz_1 (xs := xs) (i := Int32.ofNat (5 * j)) hd hh n1 e1 (n - 17)
        rw [e]
        exact tail _ h1 g1 (by omega)
      | 2, _ =>
        rw [lo_32_2, show n = (n - 7) + 7 by omega]
        obtain ⟨h1, g1, e⟩ := lz_2 (xs := xs) (i := Int32.ofNat (5 * j)) hd hh  (n - 7)
        rw [e]
        exact tail _ h1 g1 (by omega)
      | 3, _ =>
        rw [lo_32_3, show n = (n - 7) + 7 by omega]
        obtain ⟨h1, g1, e⟩ := lz_3 (xs := xs) (i := Int32.ofNat (5 * j)) hd hh  (n - 7)
        rw [e]
        exact tail _ h1 g1 (by omega)
      | 4, _ =>
        rw [lo_32_4, show n = (n - 17) + 17 by omega]
        obtain ⟨h1, g1, e⟩ := lz_4 (xs := xs) (i := Int32.ofNat (5 * j)) hd hh n1 e1 (n - 17)
        rw [e]
        exact tail _ h1 g1 (by omega)
      | 5, _ =>
        rw [lo_32_5, show n = (n - 27) + 27 by omega]
        obtain ⟨h1, g1, e⟩ := lz_5 (xs := xs) (i := Int32.ofNat (5 * j)) hd hh n1 e1 n2 e2 (n - 27)
        rw [e]
        exact tail _ h1 g1 (by omega)
      | 6, _ =>
        rw [lo_32_6, show n = (n - 17) + 17 by omega]
        obtain ⟨h1, g1, e⟩ := lz_6 (xs := xs) (i := Int32.ofNat (5 * j)) hd hh n1 e1 (n - 17)
        rw [e]
        exact tail _ h1 g1 (by omega)
      | 7, _ =>
        rw [lo_32_7, show n = (n - 27) + 27 by omega]
        obtain ⟨h1, g1, e⟩ := lz_7 (xs := xs) (i := Int32.ofNat (5 * j)) hd hh n1 e1 n2 e2 (n - 27)
        rw [e]
        exact tail _ h1 g1 (by omega)
      | 8, _ =>
        rw [lo_32_8, show n = (n - 27) + 27 by omega]
        obtain ⟨h1, g1, e⟩ := lz_8 (xs := xs) (i := Int32.ofNat (5 * j)) hd hh n1 e1 n2 e2 (n - 27)
        rw [e]
        exact tail _ h1 g1 (by omega)
      | 9, _ =>
        rw [lo_32_9, show n = (n - 33) + 33 by omega]
        obtain ⟨h1, g1, n', hn', e⟩ := lz_9 (xs := xs) hd hh n1 e1 n2 e2 (n - 33)
        rw [e]
        exact tail n' h1 g1 (by omega)
      | 10, _ =>
        rw [lo_32_10, show n = (n - 27) + 27 by omega]
        obtain ⟨h1, g1, e⟩ := lz_10 (xs := xs) (i := Int32.ofNat (5 * j)) hd hh n1 e1 n2 e2 (n - 27)
        rw [e]
        exact tail _ h1 g1 (by omega)
      | 11, _ =>
        rw [lo_32_11, show n = (n - 33) + 33 by omega]
        obtain ⟨h1, g1, n', hn', e⟩ := lz_11 (xs := xs) hd hh n1 e1 n2 e2 (n - 33)
        rw [e]
        exact tail n' h1 g1 (by omega)
      | 12, _ =>
        rw [lo_32_12, show n = (n - 27) + 27 by omega]
        obtain ⟨h1, g1, e⟩ := lz_12 (xs := xs) (i := Int32.ofNat (5 * j)) hd hh n1 e1 n2 e2 (n - 27)
        rw [e]
        exact tail _ h1 g1 (by omega)
      | 13, _ =>
        rw [lo_32_13, show n = (n - 17) + 17 by omega]
        obtain ⟨h1, g1, e⟩ := lz_13 (xs := xs) (i := Int32.ofNat (5 * j)) hd hh n1 e1 (n - 17)
        rw [e]
        exact tail _ h1 g1 (by omega)
      | 14, _ =>
        rw [lo_32_14, show n = (n - 27) + 27 by omega]
        obtain ⟨h1, g1, e⟩ := lz_14 (xs := xs) (i := Int32.ofNat (5 * j)) hd hh n1 e1 n2 e2 (n - 27)
        rw [e]
        exact tail _ h1 g1 (by omega)
      | 15, _ =>
        rw [lo_32_15, show n = (n - 17) + 17 by omega]
        obtain ⟨h1, g1, e⟩ := lz_15 (xs := xs) (i := Int32.ofNat (5 * j)) hd hh n1 e1 (n - 17)
        rw [e]
        exact tail _ h1 g1 (by omega)
      | 16, _ =>
        rw [lo_32_16, show n = (n - 7) + 7 by omega]
        obtain ⟨h1, g1, e⟩ := lz_16 (xs := xs) (i := Int32.ofNat (5 * j)) hd hh  (n - 7)
        rw [e]
        exact tail _ h1 g1 (by omega)
      | 17, _ =>
        rw [lo_32_17, show n = (n - 7) + 7 by omega]
        obtain ⟨h1, g1, e⟩ := lz_17 (xs := xs) (i := Int32.ofNat (5 * j)) hd hh  (n - 7)
        rw [e]
        exact tail _ h1 g1 (by omega)
      | 18, _ =>
        rw [lo_32_18, show n = (n - 17) + 17 by omega]
        obtain ⟨h1, g1, e⟩ := lz_18 (xs := xs) (i := Int32.ofNat (5 * j)) hd hh n1 e1 (n - 17)
        rw [e]
        exact tail _ h1 g1 (by omega)
      | 19, _ =>
        rw [lo_32_19, show n = (n - 37) + 37 by omega]
        obtain ⟨h1, g1, e⟩ := lz_19 (xs := xs) (i := Int32.ofNat (5 * j)) hd hh n1 e1 n2 e2 n3 e3 (n - 37)
        rw [e]
        exact tail _ h1 g1 (by omega)
      | 20, _ =>
        rw [lo_32_20, show n = (n - 7) + 7 by omega]
        obtain ⟨h1, g1, e⟩ := lz_20 (xs := xs) (i := Int32.ofNat (5 * j)) hd hh  (n - 7)
        rw [e]
        exact tail _ h1 g1 (by omega)
      | 21, _ =>
        rw [lo_32_21, show n = (n - 17) + 17 by omega]
        obtain ⟨h1, g1, e⟩ := lz_21 (xs := xs) (i := Int32.ofNat (5 * j)) hd hh n1 e1 (n - 17)
        rw [e]
        exact tail _ h1 g1 (by omega)
      | 22, _ =>
        rw [lo_32_22, show n = (n - 27) + 27 by omega]
        obtain ⟨h1, g1, e⟩ := lz_22 (xs := xs) (i := Int32.ofNat (5 * j)) hd hh n1 e1 n2 e2 (n - 27)
        rw [e]
        exact tail _ h1 g1 (by omega)
      | 23, _ =>
        rw [lo_32_23, show n = (n - 7) + 7 by omega]
        obtain ⟨h1, g1, e⟩ := lz_23 (xs := xs) (i := Int32.ofNat (5 * j)) hd hh  (n - 7)
        rw [e]
        exact tail _ h1 g1 (by omega)
      | 24, _ =>
        rw [lo_32_24, show n = (n - 17) + 17 by omega]
        obtain ⟨h1, g1, e⟩ := lz_24 (xs := xs) (i := Int32.ofNat (5 * j)) hd hh n1 e1 (n - 17)
        rw [e]
        exact tail _ h1 g1 (by omega)
      | 25, _ =>
        rw [lo_32_25, show n = (n - 47) + 47 by omega]
        obtain ⟨h1, g1, e⟩ := lz_25 (xs := xs) (i := Int32.ofNat (5 * j)) hd hh n1 e1 n2 e2 n3 e3 n4 e4 (n - 47)
        rw [e]
        exact tail _ h1 g1 (by omega)
      | 26, _ =>
        rw [lo_32_26, show n = (n - 37) + 37 by omega]
        obtain ⟨h1, g1, e⟩ := lz_26 (xs := xs) (i := Int32.ofNat (5 * j)) hd hh n1 e1 n2 e2 n3 e3 (n - 37)
        rw [e]
        exact tail _ h1 g1 (by omega)
      | 27, _ =>
        rw [lo_32_27, show n = (n - 37) + 37 by omega]
        obtain ⟨h1, g1, e⟩ := lz_27 (xs := xs) (i := Int32.ofNat (5 * j)) hd hh n1 e1 n2 e2 n3 e3 (n - 37)
        rw [e]
        exact tail _ h1 g1 (by omega)
      | 28, _ =>
        rw [lo_32_28, show n = (n - 27) + 27 by omega]
        obtain ⟨h1, g1, e⟩ := lz_28 (xs := xs) (i := Int32.ofNat (5 * j)) hd hh n1 e1 n2 e2 (n - 27)
        rw [e]
        exact tail _ h1 g1 (by omega)
      | 29, _ =>
        rw [lo_32_29, show n = (n - 17) + 17 by omega]
        obtain ⟨h1, g1, e⟩ := lz_29 (xs := xs) (i := Int32.ofNat (5 * j)) hd hh n1 e1 (n - 17)
        rw [e]
        exact tail _ h1 g1 (by omega)
      | 30, _ =>
        rw [lo_32_30, show n = (n - 17) + 17 by omega]
        obtain ⟨h1, g1, e⟩ := lz_30 (xs := xs) (i := Int32.ofNat (5 * j)) hd hh n1 e1 (n - 17)
        rw [e]
        exact tail _ h1 g1 (by omega)
      | 31, _ =>
        rw [lo_32_31, show n = (n - 27) + 27 by omega]
        obtain ⟨h1, g1, e⟩ := lz_31 (xs := xs) (i := Int32.ofNat (5 * j)) hd hh n1 e1 n2 e2 (n - 27)
        rw [e]
        exact tail _ h1 g1 (by omega)
      | 32, _ =>
        rw [lo_32_32, show n = (n - 17) + 17 by omega]
        obtain ⟨h1, g1, e⟩ := lz_32 (xs := xs) (i := Int32.ofNat (5 * j)) hd hh n1 e1 (n - 17)
        rw [e]
        exact tail _ h1 g1 (by omega)
      | 33, _ =>
        rw [lo_32_33, show n = (n - 17) + 17 by omega]
        obtain ⟨h1, g1, e⟩ := lz_33 (xs := xs) (i := Int32.ofNat (5 * j)) hd hh n1 e1 (n - 17)
        rw [e]
        exact tail _ h1 g1 (by omega)
      | 34, _ =>
        rw [lo_32_34, show n = (n - 35) + 35 by omega]
        obtain ⟨h1, g1, e⟩ := lz_34 (xs := xs) (i := Int32.ofNat (5 * j)) hd hh n1 e1 n2 e2 n3 e3 (n - 35)
        rw [e]
        exact tail _ h1 g1 (by omega)
      | 35, _ =>
        rw [lo_32_35, show n = (n - 37) + 37 by omega]
        obtain ⟨h1, g1, e⟩ := lz_35 (xs := xs) (i := Int32.ofNat (5 * j)) hd hh n1 e1 n2 e2 n3 e3 (n - 37)
        rw [e]
        exact tail _ h1 g1 (by omega)
      | 36, _ =>
        rw [lo_32_36, show n = (n - 47) + 47 by omega]
        obtain ⟨h1, g1, e⟩ := lz_36 (xs := xs) (i := Int32.ofNat (5 * j)) hd hh n1 e1 n2 e2 n3 e3 n4 e4 (n - 47)
        rw [e]
        exact tail _ h1 g1 (by omega)
      | 37, _ =>
        rw [lo_32_37, show n = (n - 7) + 7 by omega]
        obtain ⟨h1, g1, e⟩ := lz_37 (xs := xs) (i := Int32.ofNat (5 * j)) hd hh  (n - 7)
        rw [e]
        exact tail _ h1 g1 (by omega)
      | 38, _ =>
        rw [lo_32_38, show n = (n - 17) + 17 by omega]
        obtain ⟨h1, g1, e⟩ := lz_38 (xs := xs) (i := Int32.ofNat (5 * j)) hd hh n1 e1 (n - 17)
        rw [e]
        exact tail _ h1 g1 (by omega)
      | 39, _ => rw [lo_32_39]; exact tail _ h hh (by omega)
      | 40, _ => rw [lo_32_40]; exact tail _ h hh (by omega)
      | 41, _ => rw [lo_32_41]; exact tail _ h hh (by omega)
      | 42, _ => rw [lo_32_42]; exact tail _ h hh (by omega)
      | 43, _ => rw [lo_32_43]; exact tail _ h hh (by omega)
      | 44, _ => rw [lo_32_44]; exact tail _ h hh (by omega)
      | 45, _ => rw [lo_32_45]; exact tail _ h hh (by omega)
      | 46, _ => rw [lo_32_46]; exact tail _ h hh (by omega)
      | 47, _ => rw [lo_32_47]; exact tail _ h hh (by omega)
      | 48, _ => rw [lo_32_48]; exact tail _ h hh (by omega)
      | 49, _ => rw [lo_32_49]; exact tail _ h hh (by omega)
      | 50, _ => rw [lo_32_50]; exact tail _ h hh (by omega)
      | 51, _ => rw [lo_32_51]; exact tail _ h hh (by omega)
      | 52, _ => rw [lo_32_52]; exact tail _ h hh (by omega)
      | 53, _ => rw [lo_32_53]; exact tail _ h hh (by omega)
      | 54, _ => rw [lo_32_54]; exact tail _ h hh (by omega)
      | 55, _ => rw [lo_32_55]; exact tail _ h hh (by omega)
      | 56, _ => rw [lo_32_56]; exact tail _ h hh (by omega)
      | 57, _ => rw [lo_32_57]; exact tail _ h hh (by omega)
      | 58, _ => rw [lo_32_58]; exact tail _ h hh (by omega)
      | 59, _ => rw [lo_32_59]; exact tail _ h hh (by omega)
      | 60, _ => rw [lo_32_60]; exact tail _ h hh (by omega)
      | 61, _ => rw [lo_32_61]; exact tail _ h hh (by omega)
      | 62, _ => rw [lo_32_62]; exact tail _ h hh (by omega)
      | 63, _ => rw [lo_32_63]; exact tail _ h hh (by omega)
      | t + 64, ht => exact absurd ht (by omega)
/-! the start -/
def st_L : am_L := [(0, .inr (.inr (some 0))), (1, .inr (.inr (some 8))), (2, .inr (.inr (some 70))), (3, .inl (.ofNat 0, .ofNat 0))]
noncomputable def st_k : am_K := fun pc lv st h c sl => match Nat.beq pc 18 && (leL leQ lv st_L && (List.isEmpty st && (leH h (80, []) && (Nat.beq c 80 && Nat.beq sl 1467)))) with
  | true => some vm_mark
  | false => none
def st_c (R : Option am_V × am_H) : Bool := match R.1 with
  | some (.inl b) => !(leZ b.1 b.2)
  | _ => false
theorem st_no {R : Option am_V × am_H} {r : Option Value × pm_H} (h : st_c R = true) (hr : am_r R r) : False := by
  obtain ⟨v, hp⟩ := R
  unfold st_c at h
  split at h
  · rename_i b hb
    have ho : am_o v r.1 := hr.1
    have hb : v = some (.inl b) := hb
    subst hb
    obtain ⟨w, hq⟩ := r
    match w, ho with
    | some (.int x), ho =>
      have hx : am_i b x := ho
      rw [leZ_eq, decide_eq_true (Int.le_trans hx.1 hx.2)] at h
      cases h
    | some (.long _), ho => exact ho.elim
    | some (.float _), ho => exact ho.elim
    | some (.double _), ho => exact ho.elim
    | some .null, ho => exact ho.elim
    | some (.ref _), ho => exact ho.elim
    | some (.retAddr _), ho => exact ho.elim
    | none, ho => exact ho.elim
  · cases h
noncomputable def st_B : am_B := fun M as h => (am_big none pm_m vm_lim 40 M as h).map (fun r => [r])
theorem st_run : (match am_run none pm_m st_B m_0 st_k 10 0 [(0, .inr (.inr (some 0)))] [] (0, []) 0 0 with
  | some R => st_c R
  | none => false) = true := by decide +kernel
theorem st_rv {n : Nat} {v : Value} (h : am_v (.inr (.inr (some n))) v) : v = .ref n := by
  cases v with
  | ref z =>
    have e : n = z := h
    rw [e]
  | _ => exact h.elim
theorem st_iv {v : Value} (h : am_v (.inl (.ofNat 0, .ofNat 0)) v) : v = .int (Int32.ofNat (5 * 0)) := by
  cases v with
  | int x =>
    have e : x = Int32.ofInt (.ofNat 0) := am_i.of (a := (.ofNat 0, .ofNat 0)) h rfl
    rw [e]
    rfl
  | _ => exact h.elim
theorem st_lv : ∀ {lv : pm_L}, am_all am_q [(0, .inr (.inr (some 0))), (1, .inr (.inr (some 8))), (2, .inr (.inr (some 70))), (3, .inl (.ofNat 0, .ofNat 0))] lv → lv = la_L (Int32.ofNat (5 * 0))
  | [(a0, v0), (a1, v1), (a2, v2), (a3, v3)], h => by
    obtain ⟨⟨e0, w0⟩, ⟨e1, w1⟩, ⟨e2, w2⟩, ⟨e3, w3⟩, -⟩ := h
    have e0 : 0 = a0 := e0
    have e1 : 1 = a1 := e1
    have e2 : 2 = a2 := e2
    have e3 : 3 = a3 := e3
    subst e0 e1 e2 e3
    obtain rfl := st_rv w0
    obtain rfl := st_rv w1
    obtain rfl := st_rv w2
    obtain rfl := st_iv w3
    rfl
  | [], h => h.elim
  | [_], h => h.2.elim
  | [_, _], h => h.2.2.elim
  | [_, _, _], h => h.2.2.2.elim
  | _ :: _ :: _ :: _ :: _ :: _, h => h.2.2.2.2.elim
theorem am_h0 : am_h (0, []) [] := ⟨rfl, fun i C h => by unfold am_g at h; simp at h⟩
theorem st_all (xs : List Int32) (hL : xs.length ≤ 320) : ∃ h1, pm_run xs pm_m (pm_big xs pm_m vm_lim 40) m_0 (6500 + 10) 0 [(0, .ref 0)] [] [] 0 0 = some (some (.int 1), h1) := by
  have hcap : am_S (fun R r => am_r R r ∨ r.1 = some (.int 1)) st_k (pm_run xs pm_m (pm_big xs pm_m vm_lim 40) m_0 6500) := by
    intro pc lva sta ha c sl R hk lv st h hl hs hh
    unfold st_k at hk
    split at hk
    · rename_i hb
      simp only [Bool.and_eq_true] at hb
      obtain ⟨b1, b2, b3, b4, b5, b6⟩ := hb
      obtain rfl : pc = 18 := Nat.eq_of_beq_eq_true b1
      obtain rfl : c = 80 := Nat.eq_of_beq_eq_true b5
      obtain rfl : sl = 1467 := Nat.eq_of_beq_eq_true b6
      have q1 := st_lv (leL_ok (R := am_q) (fun _ _ _ => leQ_ok) b2 hl)
      subst q1
      have q2 : sta = [] := List.isEmpty_iff.mp b3
      subst q2
      have q3 : st = [] := by
        cases st with
        | nil => rfl
        | cons a l => exact hs.elim
      subst q3
      obtain ⟨h', hr⟩ := lo_ok (xs := xs) (d := 40) (Nat.le_refl _) hL 64 0 6500 h (leH_ok b4 hh) (by omega) (by omega) (by omega)
      exact ⟨_, hr, Or.inr rfl⟩
    · cases hk
  have hS := at_run (Pr := fun R r => am_r R r ∨ r.1 = some (.int 1)) (xa := none) (xs := xs) (tab := pm_m) (mm := m_0) (ba := st_B) (bc := pm_big xs pm_m vm_lim 40) (fun _ q => by cases q) (fun _ _ h => Or.inl h) (fun M2 as h Rs q cs hc a1 a2 => by
    unfold st_B at q
    cases hb : am_big none pm_m vm_lim 40 M2 as h with
    | none => rw [hb] at q; cases q
    | some R =>
      rw [hb] at q
      cases q
      obtain ⟨r, g1, g2⟩ := at_big (xa := none) (xs := xs) (tab := pm_m) (fun _ q => by cases q) vm_lim 40 M2 as h R hb cs hc a1 a2
      exact ⟨r, g1, R, List.mem_singleton.mpr rfl, g2⟩) (ka := st_k) (kc := pm_run xs pm_m (pm_big xs pm_m vm_lim 40) m_0 6500) hcap 10
  rw [pm_runK_eq] at hS
  have hf := st_run
  split at hf
  · rename_i R heq
    obtain ⟨⟨v, h1⟩, hr, ho⟩ := hS _ _ _ _ _ _ _ heq [(0, .ref 0)] [] [] ⟨⟨rfl, rfl⟩, trivial⟩ trivial am_h0
    rcases ho with ho | ho
    · exact (st_no hf ho).elim
    · have ho : v = some (.int 1) := ho
      subst ho
      exact ⟨h1, hr⟩
  · cases hf
