/-! BITS of an int, by places 0 to 24. -/
theorem s_shr_fin : (List.range 25).all (fun N => decide ((Int32.ofNat N &&& 31).toBitVec.smod 32 = BitVec.ofNat 32 N)) = true := by decide +kernel
theorem s_and1 (v : BitVec 32) (N : Nat) (hN : N < 32) : v.sshiftRight N &&& 1#32 = 0#32 ↔ v.getLsbD N = false := by
  constructor
  · intro h
    have h1 := congrArg (fun b => b.getLsbD 0) h
    simp only [BitVec.getLsbD_and, BitVec.getLsbD_sshiftRight] at h1
    simpa [hN] using h1
  · intro h
    apply BitVec.eq_of_getLsbD_eq
    intro i hi
    simp only [BitVec.getLsbD_and, BitVec.getLsbD_sshiftRight]
    by_cases e : i = 0
    · subst e
      rw [if_pos (by omega), Nat.add_zero, h]
      simp
    · have : (1#32).getLsbD i = false := by
        rw [BitVec.getLsbD_one]
        simp [e]
      rw [this]
      simp
theorem s_bit_l {t : Int32} {N : Nat} (hN : N < 25) : s_bit t (Int32.ofNat N) = 0 ↔ t.toBitVec.getLsbD N = false := by
  have h := of_decide_eq_true (List.all_eq_true.mp s_shr_fin N (List.mem_range.mpr hN))
  unfold s_bit
  rw [← Int32.toBitVec_inj, Int32.toBitVec_and, Int32.toBitVec_shiftRight, h]
  show t.toBitVec.sshiftRight (BitVec.ofNat 32 N).toNat &&& 1#32 = 0#32 ↔ _
  rw [BitVec.toNat_ofNat, Nat.mod_eq_of_lt (by omega)]
  exact s_and1 _ _ (by omega)
theorem s_one_fin : (List.range 25).all (fun M => (List.range 25).all (fun N => decide (((1 : Int32) <<< (Int32.ofNat M &&& 31)).toBitVec.getLsbD N = decide (N = M)))) = true := by decide +kernel
theorem s_one {M N : Nat} (hM : M < 25) (hN : N < 25) : ((1 : Int32) <<< (Int32.ofNat M &&& 31)).toBitVec.getLsbD N = decide (N = M) := of_decide_eq_true (List.all_eq_true.mp (List.all_eq_true.mp s_one_fin M (List.mem_range.mpr hM)) N (List.mem_range.mpr hN))
theorem s_m1_fin : (List.range 25).all (fun N => decide ((Int32.ofInt (-1)).toBitVec.getLsbD N = true)) = true := by decide +kernel
theorem s_bit_or {t : Int32} {M N : Nat} (hM : M < 25) (hN : N < 25) : s_bit (t ||| ((1 : Int32) <<< (Int32.ofNat M &&& 31))) (Int32.ofNat N) = 0 ↔ s_bit t (Int32.ofNat N) = 0 ∧ N ≠ M := by
  rw [s_bit_l hN, s_bit_l hN, Int32.toBitVec_or, BitVec.getLsbD_or, s_one hM hN]
  simp
theorem s_bit_mv {t : Int32} {K M N : Nat} (hK : K < 25) (hM : M < 25) (hN : N < 25) : s_bit ((t &&& (((1 : Int32) <<< (Int32.ofNat K &&& 31)) ^^^ Int32.ofInt (-1))) ||| ((1 : Int32) <<< (Int32.ofNat M &&& 31))) (Int32.ofNat N) = 0 ↔ (s_bit t (Int32.ofNat N) = 0 ∨ N = K) ∧ N ≠ M := by
  have h1 := of_decide_eq_true (List.all_eq_true.mp s_m1_fin N (List.mem_range.mpr hN))
  rw [s_bit_or hM hN, s_bit_l hN, s_bit_l hN, Int32.toBitVec_and, BitVec.getLsbD_and, Int32.toBitVec_xor, BitVec.getLsbD_xor, s_one hK hN, h1]
  simp
  intro _
  cases t.toBitVec.getLsbD N <;> simp
/-! CELLS BESIDE: the class by columns and rows, the reference by numbers (all towns, cells and ways). -/
def s_geo (W H C y : Nat) : Bool := decide (¬ C < W * H) || (let w := Int32.ofNat W; let h := Int32.ofNat H; let c := Int32.ofNat C; let way := Int32.ofNat y; let x := s_col w c + s_cx way; let r := s_row w c + s_cy way; let to := s_to w h c way
  (match decide (¬ way = 4 ∧ (¬ x < 0 ∧ ¬ w ≤ x ∧ ¬ r < 0 ∧ ¬ h ≤ r)) with
  | true => decide (¬ to = i_none) && (decide (r * w + x = to) && (decide (0 ≤ to.toInt) && (decide (to.toInt < ((W * H : Nat) : Int)) && (decide (s_col w to = x) && (decide (s_row w to = r) && decide (¬ to = c))))))
  | false => decide (to = i_none)))
theorem s_geo_fin : (List.range 4).all (fun W => (List.range 4).all (fun H => (List.range 25).all (fun C => (List.range 5).all (fun y => s_geo (W + 2) (H + 2) C y)))) = true := by decide +kernel
