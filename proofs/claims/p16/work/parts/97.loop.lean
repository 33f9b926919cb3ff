/-! THE LAW'S LOOP, at any place of a script of 320 ints at most. -/
theorem lo_add {p a : Nat} {y : Int32} (hy : am_i ((a : Int), (a : Int)) y) (h : p + a < 1000) : ¬ Int32.ofNat p + y < 0 ∧ (Int32.ofNat p + y).toNatClampNeg = p + a ∧ Int32.ofNat p + y = Int32.ofNat (p + a) := by
  have e1 : (Int32.ofNat p).toInt = (p : Int) := Int32.toInt_ofNat_of_lt (by omega)
  have hx : am_i ((p : Int), (p : Int)) (Int32.ofNat p) := ⟨by rw [e1]; exact Int.le_refl _, by rw [e1]; exact Int.le_refl _⟩
  have h1 := am_add_ok hx hy
  have e2 : am_add ((p : Int), (p : Int)) ((a : Int), (a : Int)) = ((p : Int) + a, (p : Int) + a) := by
    show (if -2147483648 ≤ (p : Int) + (a : Int) ∧ (p : Int) + (a : Int) ≤ 2147483647 then ((p : Int) + (a : Int), (p : Int) + (a : Int)) else _) = _
    exact if_pos ⟨by omega, by omega⟩
  rw [e2] at h1
  have e3 : (Int32.ofNat p + y).toInt = (p : Int) + a := Int.le_antisymm h1.2 h1.1
  refine ⟨?_, ?_, ?_⟩
  · intro q
    have q1 := Int32.lt_iff_toInt_lt.mp q
    rw [e3] at q1
    have z : (0 : Int32).toInt = 0 := rfl
    omega
  · show (Int32.ofNat p + y).toInt.toNat = p + a
    rw [e3]
    omega
  · have e4 : (Int32.ofNat p + y).toInt = (Int32.ofNat (p + a)).toInt := by
      rw [e3, Int32.toInt_ofNat_of_lt (by omega)]
      omega
    first
      | exact Int32.toInt_inj.mp e4
      | exact Int32.toInt.inj e4
theorem lo_sub {n : Nat} (h : n ≤ 320) : (Int32.ofNat n - Int32.ofInt 5).toInt = (n : Int) - 5 := by
  have e1 : (Int32.ofNat n).toInt = (n : Int) := Int32.toInt_ofNat_of_lt (by omega)
  have hx : am_i ((n : Int), (n : Int)) (Int32.ofNat n) := ⟨by rw [e1]; exact Int.le_refl _, by rw [e1]; exact Int.le_refl _⟩
  have hy : am_i ((5 : Int), (5 : Int)) (Int32.ofInt 5) := ⟨by decide, by decide⟩
  have h1 := am_sub_ok hx hy
  have e2 : am_sub ((n : Int), (n : Int)) ((5 : Int), (5 : Int)) = ((n : Int) - 5, (n : Int) - 5) := by
    show (if -2147483648 ≤ (n : Int) - 5 ∧ (n : Int) - 5 ≤ 2147483647 then ((n : Int) - 5, (n : Int) - 5) else _) = _
    exact if_pos ⟨by omega, by omega⟩
  rw [e2] at h1
  exact Int.le_antisymm h1.2 h1.1
theorem lo_and (x : Int32) : ∃ t : Nat, t ≤ 63 ∧ x &&& (Int8.ofInt 63).toInt32 = Int32.ofInt (t : Int) := by
  have hy : am_i ((63 : Int), (63 : Int)) (Int8.ofInt 63).toInt32 := ⟨by decide, by decide⟩
  have h1 := am_and_ok (am_i.top x) hy
  have e : am_and am_top ((63 : Int), (63 : Int)) = ((0 : Int), (63 : Int)) := by decide +kernel
  rw [e] at h1
  have h2 : (0 : Int) ≤ (x &&& (Int8.ofInt 63).toInt32).toInt := h1.1
  have h3 : (x &&& (Int8.ofInt 63).toInt32).toInt ≤ (63 : Int) := h1.2
  refine ⟨(x &&& (Int8.ofInt 63).toInt32).toInt.toNat, by omega, ?_⟩
  rw [Int.toNat_of_nonneg h2, Int32.ofInt_toInt]
theorem lo_k1 : am_i (((1 : Nat) : Int), ((1 : Nat) : Int)) (Int32.ofInt 1) := ⟨by decide, by decide⟩
theorem lo_k2 : am_i (((2 : Nat) : Int), ((2 : Nat) : Int)) (Int32.ofInt 2) := ⟨by decide, by decide⟩
theorem lo_k3 : am_i (((3 : Nat) : Int), ((3 : Nat) : Int)) (Int32.ofInt 3) := ⟨by decide, by decide⟩
theorem lo_k4 : am_i (((4 : Nat) : Int), ((4 : Nat) : Int)) (Int32.ofInt 4) := ⟨by decide, by decide⟩
theorem lo_k5 : am_i (((5 : Nat) : Int), ((5 : Nat) : Int)) (Int32.ofInt 5) := ⟨by decide, by decide⟩
section Loop
variable (xs : List Int32) (bc : Nat → List Value → pm_H → pm_R) (i : Int32) (h : pm_H)
theorem lo_18 (m : Nat) : la_R xs bc (m + 5) 18 i [] h = la_R xs bc m 23 i [.int (Int32.ofNat xs.length - Int32.ofInt 5), .int i] h := rfl
theorem lo_23 (x y : Int32) (m : Nat) : la_R xs bc (m + 1) 23 i [.int y, .int x] h = if y < x then la_R xs bc m 1339 i [] h else la_R xs bc m 26 i [] h := rfl
theorem lo_26 (m : Nat) : la_R xs bc (m + 2) 26 i [] h = la_R xs bc m 28 i [.int i, .ref 0] h := rfl
theorem lo_29 (x : Int32) (m : Nat) : la_R xs bc (m + 2) 29 i [.int x] h = la_R xs bc m 32 i [.int (x &&& (Int8.ofInt 63).toInt32)] h := rfl
theorem lo_1333 (m : Nat) : la_R xs bc (m + 2) 1333 i [] h = la_R xs bc m 18 (i + Int32.ofInt 5) [] h := rfl
theorem lo_1339 (m : Nat) : la_R xs bc (m + 2) 1339 i [] h = some (some (.int 1), h) := rfl
theorem lo_32_0 (m : Nat) : la_R xs bc (m + 1) 32 i [.int (Int32.ofInt ((0 : Nat) : Int))] h = la_R xs bc m 204 i [] h := rfl
theorem lo_32_1 (m : Nat) : la_R xs bc (m + 1) 32 i [.int (Int32.ofInt ((1 : Nat) : Int))] h = la_R xs bc m 227 i [] h := rfl
theorem lo_32_2 (m : Nat) : la_R xs bc (m + 1) 32 i [.int (Int32.ofInt ((2 : Nat) : Int))] h = la_R xs bc m 250 i [] h := rfl
theorem lo_32_3 (m : Nat) : la_R xs bc (m + 1) 32 i [.int (Int32.ofInt ((3 : Nat) : Int))] h = la_R xs bc m 263 i [] h := rfl
theorem lo_32_4 (m : Nat) : la_R xs bc (m + 1) 32 i [.int (Int32.ofInt ((4 : Nat) : Int))] h = la_R xs bc m 276 i [] h := rfl
theorem lo_32_5 (m : Nat) : la_R xs bc (m + 1) 32 i [.int (Int32.ofInt ((5 : Nat) : Int))] h = la_R xs bc m 299 i [] h := rfl
theorem lo_32_6 (m : Nat) : la_R xs bc (m + 1) 32 i [.int (Int32.ofInt ((6 : Nat) : Int))] h = la_R xs bc m 332 i [] h := rfl
theorem lo_32_7 (m : Nat) : la_R xs bc (m + 1) 32 i [.int (Int32.ofInt ((7 : Nat) : Int))] h = la_R xs bc m 355 i [] h := rfl
theorem lo_32_8 (m : Nat) : la_R xs bc (m + 1) 32 i [.int (Int32.ofInt ((8 : Nat) : Int))] h = la_R xs bc m 388 i [] h := rfl
theorem lo_32_9 (m : Nat) : la_R xs bc (m + 1) 32 i [.int (Int32.ofInt ((9 : Nat) : Int))] h = la_R xs bc m 421 i [] h := rfl
theorem lo_32_10 (m : Nat) : la_R xs bc (m + 1) 32 i [.int (Int32.ofInt ((10 : Nat) : Int))] h = la_R xs bc m 470 i [] h := rfl
theorem lo_32_11 (m : Nat) : la_R xs bc (m + 1) 32 i [.int (Int32.ofInt ((11 : Nat) : Int))] h = la_R xs bc m 503 i [] h := rfl
theorem lo_32_12 (m : Nat) : la_R xs bc (m + 1) 32 i [.int (Int32.ofInt ((12 : Nat) : Int))] h = la_R xs bc m 552 i [] h := rfl
theorem lo_32_13 (m : Nat) : la_R xs bc (m + 1) 32 i [.int (Int32.ofInt ((13 : Nat) : Int))] h = la_R xs bc m 585 i [] h := rfl
theorem lo_32_14 (m : Nat) : la_R xs bc (m + 1) 32 i [.int (Int32.ofInt ((14 : Nat) : Int))] h = la_R xs bc m 608 i [] h := rfl
theorem lo_32_15 (m : Nat) : la_R xs bc (m + 1) 32 i [.int (Int32.ofInt ((15 : Nat) : Int))] h = la_R xs bc m 641 i [] h := rfl
theorem lo_32_16 (m : Nat) : la_R xs bc (m + 1) 32 i [.int (Int32.ofInt ((16 : Nat) : Int))] h = la_R xs bc m 664 i [] h := rfl
theorem lo_32_17 (m : Nat) : la_R xs bc (m + 1) 32 i [.int (Int32.ofInt ((17 : Nat) : Int))] h = la_R xs bc m 677 i [] h := rfl
theorem lo_32_18 (m : Nat) : la_R xs bc (m + 1) 32 i [.int (Int32.ofInt ((18 : Nat) : Int))] h = la_R xs bc m 690 i [] h := rfl
theorem lo_32_19 (m : Nat) : la_R xs bc (m + 1) 32 i [.int (Int32.ofInt ((19 : Nat) : Int))] h = la_R xs bc m 713 i [] h := rfl
theorem lo_32_20 (m : Nat) : la_R xs bc (m + 1) 32 i [.int (Int32.ofInt ((20 : Nat) : Int))] h = la_R xs bc m 756 i [] h := rfl
theorem lo_32_21 (m : Nat) : la_R xs bc (m + 1) 32 i [.int (Int32.ofInt ((21 : Nat) : Int))] h = la_R xs bc m 769 i [] h := rfl
theorem lo_32_22 (m : Nat) : la_R xs bc (m + 1) 32 i [.int (Int32.ofInt ((22 : Nat) : Int))] h = la_R xs bc m 792 i [] h := rfl
theorem lo_32_23 (m : Nat) : la_R xs bc (m + 1) 32 i [.int (Int32.ofInt ((23 : Nat) : Int))] h = la_R xs bc m 825 i [] h := rfl
theorem lo_32_24 (m : Nat) : la_R xs bc (m + 1) 32 i [.int (Int32.ofInt ((24 : Nat) : Int))] h = la_R xs bc m 838 i [] h := rfl
theorem lo_32_25 (m : Nat) : la_R xs bc (m + 1) 32 i [.int (Int32.ofInt ((25 : Nat) : Int))] h = la_R xs bc m 861 i [] h := rfl
theorem lo_32_26 (m : Nat) : la_R xs bc (m + 1) 32 i [.int (Int32.ofInt ((26 : Nat) : Int))] h = la_R xs bc m 914 i [] h := rfl
theorem lo_32_27 (m : Nat) : la_R xs bc (m + 1) 32 i [.int (Int32.ofInt ((27 : Nat) : Int))] h = la_R xs bc m 957 i [] h := rfl
theorem lo_32_28 (m : Nat) : la_R xs bc (m + 1) 32 i [.int (Int32.ofInt ((28 : Nat) : Int))] h = la_R xs bc m 1000 i [] h := rfl
theorem lo_32_29 (m : Nat) : la_R xs bc (m + 1) 32 i [.int (Int32.ofInt ((29 : Nat) : Int))] h = la_R xs bc m 1033 i [] h := rfl
theorem lo_32_30 (m : Nat) : la_R xs bc (m + 1) 32 i [.int (Int32.ofInt ((30 : Nat) : Int))] h = la_R xs bc m 1056 i [] h := rfl
theorem lo_32_31 (m : Nat) : la_R xs bc (m + 1) 32 i [.int (Int32.ofInt ((31 : Nat) : Int))] h = la_R xs bc m 1079 i [] h := rfl
theorem lo_32_32 (m : Nat) : la_R xs bc (m + 1) 32 i [.int (Int32.ofInt ((32 : Nat) : Int))] h = la_R xs bc m 1112 i [] h := rfl
theorem lo_32_33 (m : Nat) : la_R xs bc (m + 1) 32 i [.int (Int32.ofInt ((33 : Nat) : Int))] h = la_R xs bc m 1135 i [] h := rfl
theorem lo_32_34 (m : Nat) : la_R xs bc (m + 1) 32 i [.int (Int32.ofInt ((34 : Nat) : Int))] h = la_R xs bc m 1158 i [] h := rfl
theorem lo_32_35 (m : Nat) : la_R xs bc (m + 1) 32 i [.int (Int32.ofInt ((35 : Nat) : Int))] h = la_R xs bc m 1201 i [] h := rfl
theorem lo_32_36 (m : Nat) : la_R xs bc (m + 1) 32 i [.int (Int32.ofInt ((36 : Nat) : Int))] h = la_R xs bc m 1244 i [] h := rfl
theorem lo_32_37 (m : Nat) : la_R xs bc (m + 1) 32 i [.int (Int32.ofInt ((37 : Nat) : Int))] h = la_R xs bc m 1297 i [] h := rfl
theorem lo_32_38 (m : Nat) : la_R xs bc (m + 1) 32 i [.int (Int32.ofInt ((38 : Nat) : Int))] h = la_R xs bc m 1310 i [] h := rfl
theorem lo_32_39 (m : Nat) : la_R xs bc (m + 1) 32 i [.int (Int32.ofInt ((39 : Nat) : Int))] h = la_R xs bc m 1333 i [] h := rfl
theorem lo_32_40 (m : Nat) : la_R xs bc (m + 1) 32 i [.int (Int32.ofInt ((40 : Nat) : Int))] h = la_R xs bc m 1333 i [] h := rfl
theorem lo_32_41 (m : Nat) : la_R xs bc (m + 1) 32 i [.int (Int32.ofInt ((41 : Nat) : Int))] h = la_R xs bc m 1333 i [] h := rfl
theorem lo_32_42 (m : Nat) : la_R xs bc (m + 1) 32 i [.int (Int32.ofInt ((42 : Nat) : Int))] h = la_R xs bc m 1333 i [] h := rfl
theorem lo_32_43 (m : Nat) : la_R xs bc (m + 1) 32 i [.int (Int32.ofInt ((43 : Nat) : Int))] h = la_R xs bc m 1333 i [] h := rfl
theorem lo_32_44 (m : Nat) : la_R xs bc (m + 1) 32 i [.int (Int32.ofInt ((44 : Nat) : Int))] h = la_R xs bc m 1333 i [] h := rfl
theorem lo_32_45 (m : Nat) : la_R xs bc (m + 1) 32 i [.int (Int32.ofInt ((45 : Nat) : Int))] h = la_R xs bc m 1333 i [] h := rfl
theorem lo_32_46 (m : Nat) : la_R xs bc (m + 1) 32 i [.int (Int32.ofInt ((46 : Nat) : Int))] h = la_R xs bc m 1333 i [] h := rfl
theorem lo_32_47 (m : Nat) : la_R xs bc (m + 1) 32 i [.int (Int32.ofInt ((47 : Nat) : Int))] h = la_R xs bc m 1333 i [] h := rfl
theorem lo_32_48 (m : Nat) : la_R xs bc (m + 1) 32 i [.int (Int32.ofInt ((48 : Nat) : Int))] h = la_R xs bc m 1333 i [] h := rfl
theorem lo_32_49 (m : Nat) : la_R xs bc (m + 1) 32 i [.int (Int32.ofInt ((49 : Nat) : Int))] h = la_R xs bc m 1333 i [] h := rfl
theorem lo_32_50 (m : Nat) : la_R xs bc (m + 1) 32 i [.int (Int32.ofInt ((50 : Nat) : Int))] h = la_R xs bc m 1333 i [] h := rfl
theorem lo_32_51 (m : Nat) : la_R xs bc (m + 1) 32 i [.int (Int32.ofInt ((51 : Nat) : Int))] h = la_R xs bc m 1333 i [] h := rfl
theorem lo_32_52 (m : Nat) : la_R xs bc (m + 1) 32 i [.int (Int32.ofInt ((52 : Nat) : Int))] h = la_R xs bc m 1333 i [] h := rfl
theorem lo_32_53 (m : Nat) : la_R xs bc (m + 1) 32 i [.int (Int32.ofInt ((53 : Nat) : Int))] h = la_R xs bc m 1333 i [] h := rfl
theorem lo_32_54 (m : Nat) : la_R xs bc (m + 1) 32 i [.int (Int32.ofInt ((54 : Nat) : Int))] h = la_R xs bc m 1333 i [] h := rfl
theorem lo_32_55 (m : Nat) : la_R xs bc (m + 1) 32 i [.int (Int32.ofInt ((55 : Nat) : Int))] h = la_R xs bc m 1333 i [] h := rfl
theorem lo_32_56 (m : Nat) : la_R xs bc (m + 1) 32 i [.int (Int32.ofInt ((56 : Nat) : Int))] h = la_R xs bc m 1333 i [] h := rfl
theorem lo_32_57 (m : Nat) : la_R xs bc (m + 1) 32 i [.int (Int32.ofInt ((57 : Nat) : Int))] h = la_R xs bc m 1333 i [] h := rfl
theorem lo_32_58 (m : Nat) : la_R xs bc (m + 1) 32 i [.int (Int32.ofInt ((58 : Nat) : Int))] h = la_R xs bc m 1333 i [] h := rfl
theorem lo_32_59 (m : Nat) : la_R xs bc (m + 1) 32 i [.int (Int32.ofInt ((59 : Nat) : Int))] h = la_R xs bc m 1333 i [] h := rfl
theorem lo_32_60 (m : Nat) : la_R xs bc (m + 1) 32 i [.int (Int32.ofInt ((60 : Nat) : Int))] h = la_R xs bc m 1333 i [] h := rfl
theorem lo_32_61 (m : Nat) : la_R xs bc (m + 1) 32 i [.int (Int32.ofInt ((61 : Nat) : Int))] h = la_R xs bc m 1333 i [] h := rfl
theorem lo_32_62 (m : Nat) : la_R xs bc (m + 1) 32 i [.int (Int32.ofInt ((62 : Nat) : Int))] h = la_R xs bc m 1333 i [] h := rfl
theorem lo_32_63 (m : Nat) : la_R xs bc (m + 1) 32 i [.int (Int32.ofInt ((63 : Nat) : Int))] h = la_R xs bc m 1333 i [] h := rfl
end Loop
theorem lo_end {xs : List Int32} {bc : Nat → List Value → pm_H → pm_R} {h : pm_H} (hL : xs.length ≤ 320) {j : Nat} (hj : 5 * j ≤ 320) (hend : xs.length < 5 * j + 5) (m : Nat) : la_R xs bc (m + 2 + 1 + 5) 18 (Int32.ofNat (5 * j)) [] h = some (some (.int 1), h) := by
  rw [lo_18, lo_23]
  have e1 : (Int32.ofNat (5 * j)).toInt = ((5 * j : Nat) : Int) := Int32.toInt_ofNat_of_lt (by omega)
  have hlt : Int32.ofNat xs.length - Int32.ofInt 5 < Int32.ofNat (5 * j) := by
    rw [Int32.lt_iff_toInt_lt, lo_sub hL, e1]
    omega
  rw [if_pos hlt]
  exact lo_1339 _ _ _ _ _
theorem lo_go {xs : List Int32} {bc : Nat → List Value → pm_H → pm_R} {h : pm_H} (hL : xs.length ≤ 320) {j : Nat} (hj : 5 * j ≤ 320) (hend : ¬ xs.length < 5 * j + 5) (m : Nat) : la_R xs bc (m + 1 + 5) 18 (Int32.ofNat (5 * j)) [] h = la_R xs bc m 26 (Int32.ofNat (5 * j)) [] h := by
  rw [lo_18, lo_23]
  have e1 : (Int32.ofNat (5 * j)).toInt = ((5 * j : Nat) : Int) := Int32.toInt_ofNat_of_lt (by omega)
  have hlt : ¬ Int32.ofNat xs.length - Int32.ofInt 5 < Int32.ofNat (5 * j) := by
    rw [Int32.lt_iff_toInt_lt, lo_sub hL, e1]
    omega
  rw [if_neg hlt]
set_option maxHeartbeats 4000000 in
theorem lo_ok {xs : List Int32} (hL : xs.length ≤ 320) : ∀ (k j : Nat) (g : qM) (u : qW), w_R g → xs.length < 5 * j + 5 * k + 5 → j + k ≤ 64 → la_G xs 18 (Int32.ofNat (5 * j)) [] g u := by
  intro k
  induction k with
  | zero =>
    intro j g u hh hlen hjk
    refine ⟨8, fun N d n h1 h2 h3 h hr => ?_⟩
    obtain ⟨m, rfl⟩ : ∃ m, n = m + 2 + 1 + 5 := ⟨n - 8, by omega⟩
    exact ⟨h, lo_end hL (by omega) (by omega) m⟩
  | succ k ih =>
    intro j g u hh hlen hjk
    by_cases hend : xs.length < 5 * j + 5
    · refine ⟨8, fun N d n h1 h2 h3 h hr => ?_⟩
      obtain ⟨m, rfl⟩ : ∃ m, n = m + 2 + 1 + 5 := ⟨n - 8, by omega⟩
      exact ⟨h, lo_end hL (by omega) hend m⟩
    · refine la_go 6 (fun bc m h => lo_go hL (by omega) hend m) ?_
      have e1 : (Int32.ofNat (5 * j)).toInt = ((5 * j : Nat) : Int) := Int32.toInt_ofNat_of_lt (by omega)
      have tail : ∀ g' u', w_R g' → la_G xs 1333 (Int32.ofNat (5 * j)) [] g' u' := by
        intro g' u' h'
        refine la_go 2 (fun bc m h => lo_1333 xs bc _ h m) ?_
        rw [(lo_add lo_k5 (p := 5 * j) (by omega)).2.2, show 5 * j + 5 = 5 * (j + 1) by omega]
        exact ih (j + 1) g' u' h' (by omega) (by omega)
      obtain ⟨x0, hx0⟩ : ∃ x, xs[5 * j]? = some x := ⟨_, List.getElem?_eq_getElem (by omega)⟩
      obtain ⟨x1, hx1⟩ : ∃ x, xs[5 * j + 1]? = some x := ⟨_, List.getElem?_eq_getElem (by omega)⟩
      obtain ⟨x2, hx2⟩ : ∃ x, xs[5 * j + 2]? = some x := ⟨_, List.getElem?_eq_getElem (by omega)⟩
      obtain ⟨x3, hx3⟩ : ∃ x, xs[5 * j + 3]? = some x := ⟨_, List.getElem?_eq_getElem (by omega)⟩
      obtain ⟨x4, hx4⟩ : ∃ x, xs[5 * j + 4]? = some x := ⟨_, List.getElem?_eq_getElem (by omega)⟩
      have z1 : (Int32.ofNat (5 * j)).toNatClampNeg = 5 * j := by
        show (Int32.ofNat (5 * j)).toInt.toNat = 5 * j
        rw [e1]
        omega
      have z0 : ¬ Int32.ofNat (5 * j) < 0 := by
        intro q
        have q1 := Int32.lt_iff_toInt_lt.mp q
        rw [e1] at q1
        have z : (0 : Int32).toInt = 0 := rfl
        omega
      have n1 := (lo_add lo_k1 (p := 5 * j) (by omega)).1
      have e1 : xs[(Int32.ofNat (5 * j) + Int32.ofInt 1).toNatClampNeg]? = some x1 := by
        rw [(lo_add lo_k1 (p := 5 * j) (by omega)).2.1]
        exact hx1
      have n2 := (lo_add lo_k2 (p := 5 * j) (by omega)).1
      have e2 : xs[(Int32.ofNat (5 * j) + Int32.ofInt 2).toNatClampNeg]? = some x2 := by
        rw [(lo_add lo_k2 (p := 5 * j) (by omega)).2.1]
        exact hx2
      have n3 := (lo_add lo_k3 (p := 5 * j) (by omega)).1
      have e3 : xs[(Int32.ofNat (5 * j) + Int32.ofInt 3).toNatClampNeg]? = some x3 := by
        rw [(lo_add lo_k3 (p := 5 * j) (by omega)).2.1]
        exact hx3
      have n4 := (lo_add lo_k4 (p := 5 * j) (by omega)).1
      have e4 : xs[(Int32.ofNat (5 * j) + Int32.ofInt 4).toNatClampNeg]? = some x4 := by
        rw [(lo_add lo_k4 (p := 5 * j) (by omega)).2.1]
        exact hx4
      refine la_go 2 (fun bc m h => lo_26 xs bc _ h m) ?_
      refine la_go 1 (fun bc m h => la_arg (p := 28) (a := 0) (b := 0) (z := 0) (x := x0) rfl z0 (by rw [z1]; exact hx0)) ?_
      refine la_go 2 (fun bc m h => lo_29 xs bc _ h x0 m) ?_
      obtain ⟨t, ht, et⟩ := lo_and x0
      rw [et]
      clear et z1 z0 hend
      match t, ht with
      | 0, _ => exact la_go 1 (fun bc m h => lo_32_0 xs bc _ h m) (lz_0 hh n1 e1 tail)
      | 1, _ => exact la_go 1 (fun bc m h => lo_32_1 xs bc _ h m) (lz_1 hh n1 e1 tail)
      | 2, _ => exact la_go 1 (fun bc m h => lo_32_2 xs bc _ h m) (lz_2 hh tail)
      | 3, _ => exact la_go 1 (fun bc m h => lo_32_3 xs bc _ h m) (lz_3 hh tail)
      | 4, _ => exact la_go 1 (fun bc m h => lo_32_4 xs bc _ h m) (lz_4 hh n1 e1 tail)
      | 5, _ => exact la_go 1 (fun bc m h => lo_32_5 xs bc _ h m) (lz_5 hh n1 e1 n2 e2 tail)
      | 6, _ => exact la_go 1 (fun bc m h => lo_32_6 xs bc _ h m) (lz_6 hh n1 e1 tail)
      | 7, _ => exact la_go 1 (fun bc m h => lo_32_7 xs bc _ h m) (lz_7 hh n1 e1 n2 e2 tail)
      | 8, _ => exact la_go 1 (fun bc m h => lo_32_8 xs bc _ h m) (lz_8 hh n1 e1 n2 e2 tail)
      | 9, _ => exact la_go 1 (fun bc m h => lo_32_9 xs bc _ h m) (lz_9 hh n1 e1 n2 e2 tail)
      | 10, _ => exact la_go 1 (fun bc m h => lo_32_10 xs bc _ h m) (lz_10 hh n1 e1 n2 e2 tail)
      | 11, _ => exact la_go 1 (fun bc m h => lo_32_11 xs bc _ h m) (lz_11 hh n1 e1 n2 e2 tail)
      | 12, _ => exact la_go 1 (fun bc m h => lo_32_12 xs bc _ h m) (lz_12 hh n1 e1 n2 e2 tail)
      | 13, _ => exact la_go 1 (fun bc m h => lo_32_13 xs bc _ h m) (lz_13 hh n1 e1 tail)
      | 14, _ => exact la_go 1 (fun bc m h => lo_32_14 xs bc _ h m) (lz_14 hh n1 e1 n2 e2 tail)
      | 15, _ => exact la_go 1 (fun bc m h => lo_32_15 xs bc _ h m) (lz_15 hh n1 e1 tail)
      | 16, _ => exact la_go 1 (fun bc m h => lo_32_16 xs bc _ h m) (lz_16 hh tail)
      | 17, _ => exact la_go 1 (fun bc m h => lo_32_17 xs bc _ h m) (lz_17 hh tail)
      | 18, _ => exact la_go 1 (fun bc m h => lo_32_18 xs bc _ h m) (lz_18 hh n1 e1 tail)
      | 19, _ => exact la_go 1 (fun bc m h => lo_32_19 xs bc _ h m) (lz_19 hh n1 e1 n2 e2 n3 e3 tail)
      | 20, _ => exact la_go 1 (fun bc m h => lo_32_20 xs bc _ h m) (lz_20 hh tail)
      | 21, _ => exact la_go 1 (fun bc m h => lo_32_21 xs bc _ h m) (lz_21 hh n1 e1 tail)
      | 22, _ => exact la_go 1 (fun bc m h => lo_32_22 xs bc _ h m) (lz_22 hh n1 e1 n2 e2 tail)
      | 23, _ => exact la_go 1 (fun bc m h => lo_32_23 xs bc _ h m) (lz_23 hh tail)
      | 24, _ => exact la_go 1 (fun bc m h => lo_32_24 xs bc _ h m) (lz_24 hh n1 e1 tail)
      | 25, _ => exact la_go 1 (fun bc m h => lo_32_25 xs bc _ h m) (lz_25 hh n1 e1 n2 e2 n3 e3 n4 e4 tail)
      | 26, _ => exact la_go 1 (fun bc m h => lo_32_26 xs bc _ h m) (lz_26 hh n1 e1 n2 e2 n3 e3 tail)
      | 27, _ => exact la_go 1 (fun bc m h => lo_32_27 xs bc _ h m) (lz_27 hh n1 e1 n2 e2 n3 e3 tail)
      | 28, _ => exact la_go 1 (fun bc m h => lo_32_28 xs bc _ h m) (lz_28 hh n1 e1 n2 e2 tail)
      | 29, _ => exact la_go 1 (fun bc m h => lo_32_29 xs bc _ h m) (lz_29 hh n1 e1 tail)
      | 30, _ => exact la_go 1 (fun bc m h => lo_32_30 xs bc _ h m) (lz_30 hh n1 e1 tail)
      | 31, _ => exact la_go 1 (fun bc m h => lo_32_31 xs bc _ h m) (lz_31 hh n1 e1 n2 e2 tail)
      | 32, _ => exact la_go 1 (fun bc m h => lo_32_32 xs bc _ h m) (lz_32 hh n1 e1 tail)
      | 33, _ => exact la_go 1 (fun bc m h => lo_32_33 xs bc _ h m) (lz_33 hh n1 e1 tail)
      | 34, _ => exact la_go 1 (fun bc m h => lo_32_34 xs bc _ h m) (lz_34 hh n1 e1 n2 e2 n3 e3 tail)
      | 35, _ => exact la_go 1 (fun bc m h => lo_32_35 xs bc _ h m) (lz_35 hh n1 e1 n2 e2 n3 e3 tail)
      | 36, _ => exact la_go 1 (fun bc m h => lo_32_36 xs bc _ h m) (lz_36 hh n1 e1 n2 e2 n3 e3 n4 e4 tail)
      | 37, _ => exact la_go 1 (fun bc m h => lo_32_37 xs bc _ h m) (lz_37 hh tail)
      | 38, _ => exact la_go 1 (fun bc m h => lo_32_38 xs bc _ h m) (lz_38 hh n1 e1 tail)
      | 39, _ => exact la_go 1 (fun bc m h => lo_32_39 xs bc _ h m) (tail g u hh)
      | 40, _ => exact la_go 1 (fun bc m h => lo_32_40 xs bc _ h m) (tail g u hh)
      | 41, _ => exact la_go 1 (fun bc m h => lo_32_41 xs bc _ h m) (tail g u hh)
      | 42, _ => exact la_go 1 (fun bc m h => lo_32_42 xs bc _ h m) (tail g u hh)
      | 43, _ => exact la_go 1 (fun bc m h => lo_32_43 xs bc _ h m) (tail g u hh)
      | 44, _ => exact la_go 1 (fun bc m h => lo_32_44 xs bc _ h m) (tail g u hh)
      | 45, _ => exact la_go 1 (fun bc m h => lo_32_45 xs bc _ h m) (tail g u hh)
      | 46, _ => exact la_go 1 (fun bc m h => lo_32_46 xs bc _ h m) (tail g u hh)
      | 47, _ => exact la_go 1 (fun bc m h => lo_32_47 xs bc _ h m) (tail g u hh)
      | 48, _ => exact la_go 1 (fun bc m h => lo_32_48 xs bc _ h m) (tail g u hh)
      | 49, _ => exact la_go 1 (fun bc m h => lo_32_49 xs bc _ h m) (tail g u hh)
      | 50, _ => exact la_go 1 (fun bc m h => lo_32_50 xs bc _ h m) (tail g u hh)
      | 51, _ => exact la_go 1 (fun bc m h => lo_32_51 xs bc _ h m) (tail g u hh)
      | 52, _ => exact la_go 1 (fun bc m h => lo_32_52 xs bc _ h m) (tail g u hh)
      | 53, _ => exact la_go 1 (fun bc m h => lo_32_53 xs bc _ h m) (tail g u hh)
      | 54, _ => exact la_go 1 (fun bc m h => lo_32_54 xs bc _ h m) (tail g u hh)
      | 55, _ => exact la_go 1 (fun bc m h => lo_32_55 xs bc _ h m) (tail g u hh)
      | 56, _ => exact la_go 1 (fun bc m h => lo_32_56 xs bc _ h m) (tail g u hh)
      | 57, _ => exact la_go 1 (fun bc m h => lo_32_57 xs bc _ h m) (tail g u hh)
      | 58, _ => exact la_go 1 (fun bc m h => lo_32_58 xs bc _ h m) (tail g u hh)
      | 59, _ => exact la_go 1 (fun bc m h => lo_32_59 xs bc _ h m) (tail g u hh)
      | 60, _ => exact la_go 1 (fun bc m h => lo_32_60 xs bc _ h m) (tail g u hh)
      | 61, _ => exact la_go 1 (fun bc m h => lo_32_61 xs bc _ h m) (tail g u hh)
      | 62, _ => exact la_go 1 (fun bc m h => lo_32_62 xs bc _ h m) (tail g u hh)
      | 63, _ => exact la_go 1 (fun bc m h => lo_32_63 xs bc _ h m) (tail g u hh)
      | t + 64, ht => exact absurd ht (by omega)
