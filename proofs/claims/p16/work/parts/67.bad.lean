/-! NUMBERS THAT ARE AS TOLD, and those that are not. -/
def v_one (n : Nat) (x : Int32) : Prop := ∃ p, p < n ∧ x = Int32.ofNat p
def v_rg (lo hi : Nat) (x : Int32) : Prop := ∃ m, lo ≤ m ∧ m ≤ hi ∧ x = Int32.ofNat m
def v_tot (n : Nat) (x : Int32) : Prop := x = 0 ∨ ∃ p, p < n ∧ x = Int32.ofNat (10 + p)
def v_nw (x : Int32) : Prop := x = 0 ∨ v_rg 10 13 x
theorem v_nat {x : Int32} {lo hi : Nat} (h1 : (lo : Int) ≤ x.toInt) (h2 : x.toInt ≤ (hi : Int)) : v_rg lo hi x := ⟨x.toInt.toNat, by omega, by omega, q_of (by omega)⟩
theorem vo_c {n : Nat} {x : Int32} {g : qM} (hn : g 20 3 = Int32.ofNat n) (h6 : n ≤ 6) (h : ¬ d_hasOne x g = 0) : v_one n x := by
  obtain ⟨h1, h2⟩ := s_hasOne h
  rw [hn, q_nat (by omega)] at h2
  exact ⟨x.toInt.toNat, by omega, q_of h1⟩
theorem vo_r {n : Nat} {x : Int32} {g : qM} (hn : g 70 4 = Int32.ofNat n) (h6 : n ≤ 6) (h : ¬ d_risOne x g = 0) : v_one n x := by
  obtain ⟨h1, h2⟩ := s_risOne hn h6 h
  exact ⟨x.toInt.toNat, by omega, q_of h1⟩
theorem vr_c {lo hi : Nat} {x : Int32} (hl : lo < 1000) (hh : hi < 1000) (h1 : ¬ x < Int32.ofNat lo) (h2 : ¬ Int32.ofNat hi < x) : v_rg lo hi x := by
  rw [Int32.lt_iff_toInt_lt, q_nat (by omega)] at h1 h2
  exact v_nat (by omega) (by omega)
theorem vr_c' {lo hi : Nat} {x : Int32} (hl : lo < 1000) (hh : hi < 1000) (h1 : ¬ x < Int32.ofNat lo) (h2 : x ≤ Int32.ofNat hi) : v_rg lo hi x := vr_c hl hh h1 (Int32.not_lt.mpr h2)
theorem vr_lt {lo hi : Nat} {x : Int32} (hl : lo < 1000) (hh : hi < 1000) (h1 : ¬ x < Int32.ofNat lo) (h2 : x < Int32.ofNat (hi + 1)) : v_rg lo hi x := by
  rw [Int32.lt_iff_toInt_lt, q_nat (by omega)] at h1 h2
  exact v_nat (by omega) (by omega)
theorem vr_r {lo hi : Nat} {x : Int32} (hl : lo < 1000) (hh : hi < 1000) (h : ¬ s_in (Int32.toInt64 x) (Int64.ofNat lo) (Int64.ofNat hi) = 0) : v_rg lo hi x := by
  have z := s_in_i.mp h
  rw [Int64.toInt_ofNat_of_lt (by omega), Int64.toInt_ofNat_of_lt (by omega)] at z
  exact v_nat z.1 z.2
theorem vr_half {x : Int32} {g : qM} (h : ¬ d_isHalf x g = 0) : v_rg 0 1 x := by
  unfold d_isHalf at h
  by_cases e : x = 0
  · exact ⟨0, by omega, by omega, e⟩
  · rw [if_neg e] at h
    by_cases e1 : x = 1
    · exact ⟨1, by omega, by omega, e1⟩
    · rw [if_neg e1] at h
      exact absurd rfl h
theorem vr_ite {x : Int32} {hi : Nat} (hh : hi < 1000) (h : ¬ (if x < 0 then (0 : Int32) else (if Int32.ofNat hi < x then (0 : Int32) else (1 : Int32))) = 0) : v_rg 0 hi x := by
  by_cases e : x < 0
  · rw [if_pos e] at h
    exact absurd rfl h
  · rw [if_neg e] at h
    by_cases e1 : Int32.ofNat hi < x
    · rw [if_pos e1] at h
      exact absurd rfl h
    · exact vr_c (lo := 0) (by omega) hh e e1
theorem vr_srch {x : Int32} {g : qM} (h : ¬ d_isSearched x g = 0) : v_rg 0 12 x := vr_ite (by omega) h
theorem vr_mood {x : Int32} {g : qM} (h : ¬ d_isMood x g = 0) : v_rg 0 3 x := vr_ite (by omega) h
theorem vr_lane {x : Int32} {g : qM} (h : ¬ d_isLane x g = 0) : v_rg 0 2 x := vr_ite (by omega) h
theorem vr_sheet {x : Int32} {g : qM} (h : ¬ d_isSheet x g = 0) : v_rg 0 3 x := by
  unfold d_isSheet at h
  by_cases e : x < 0
  · rw [if_pos e] at h
    exact absurd rfl h
  · rw [if_neg e] at h
    by_cases e1 : (4 : Int32) ≤ x
    · rw [if_pos e1] at h
      exact absurd rfl h
    · rw [Int32.le_iff_toInt_le] at e1
      rw [Int32.lt_iff_toInt_lt] at e
      have z4 : (4 : Int32).toInt = 4 := rfl
      have z0 : (0 : Int32).toInt = 0 := rfl
      exact v_nat (by omega) (by omega)
theorem vc_c {W H : Nat} {x : Int32} {g : qM} (hW : g 20 0 = Int32.ofNat W) (hH : g 20 1 = Int32.ofNat H) (h25 : W * H ≤ 25) (h : ¬ d_hasCell x g = 0) : v_one (W * H) x := by
  unfold d_hasCell d_size at h
  rw [hW, hH, q_mul] at h
  by_cases e : x < 0
  · rw [if_pos e] at h
    exact absurd rfl h
  · rw [if_neg e] at h
    by_cases e1 : Int32.ofNat (W * H) ≤ x
    · rw [if_pos e1] at h
      exact absurd rfl h
    · rw [Int32.le_iff_toInt_le, q_nat (by omega)] at e1
      rw [Int32.lt_iff_toInt_lt] at e
      have z0 : (0 : Int32).toInt = 0 := rfl
      exact ⟨x.toInt.toNat, by omega, q_of (by omega)⟩
theorem s_wh1 {W H : Nat} (h25 : W * H ≤ 25) : (Int32.ofNat W * Int32.ofNat H - 1).toInt = ((W * H : Nat) : Int) - 1 := by
  rw [q_mul, s_sub (by rw [q_nat (by omega)]; have : (1 : Int32).toInt = 1 := rfl; omega) (by rw [q_nat (by omega)]; have : (1 : Int32).toInt = 1 := rfl; omega), q_nat (by omega)]
  rfl
theorem vc_r {W H : Nat} {x : Int32} {g : qM} (hW : g 70 2 = Int32.ofNat W) (hH : g 70 3 = Int32.ofNat H) (h25 : W * H ≤ 25) (h : ¬ d_risCell x g = 0) : v_one (W * H) x := by
  unfold d_risCell at h
  have z := s_in_i.mp h
  have z0 : (0 : Int64).toInt = 0 := rfl
  rw [Int32.toInt_toInt64, hW, hH, s_wh1 h25] at z
  exact ⟨x.toInt.toNat, by omega, q_of (by omega)⟩
theorem vt_1 {n : Nat} {x : Int32} (h : v_one n (x - 10)) (h6 : n ≤ 6) : v_tot n x := by
  obtain ⟨p, hp, e⟩ := h
  refine Or.inr ⟨p, hp, ?_⟩
  have e2 : x = (x - 10) + 10 := (Int32.sub_add_cancel x 10).symm
  rw [e2, e, show (10 : Int32) = Int32.ofNat 10 from rfl, q_add, Nat.add_comm]
theorem vn_c {x : Int32} (h1 : ¬ x < 10) (h2 : ¬ 4 ≤ x - 10) : v_nw x := by
  rw [Int32.lt_iff_toInt_lt] at h1
  rw [Int32.le_iff_toInt_le] at h2
  have z4 : (4 : Int32).toInt = 4 := rfl
  have z10 : (10 : Int32).toInt = 10 := rfl
  have hb := Int32.toInt_lt x
  rw [s_sub (by omega) (by omega)] at h2
  exact Or.inr (v_nat (by omega) (by omega))
theorem vn_r {x : Int32} (h : ¬ s_in (Int32.toInt64 x) 10 13 = 0) : v_nw x := Or.inr (vr_r (lo := 10) (hi := 13) (by omega) (by omega) h)
section EVT
variable {mm : pm_M} {pc : Nat} {lv : pm_L} {st : List Value} {g : qM} {u : qW} {Q : Option Value × qM × qW → Prop}
theorem q_tswd {x : Int32} {d lo hi : Int} {offs : Array Int} {tgt a b : Nat} {z : Int} (he : pm_at mm pc = some (.tableswitch d lo hi offs, a, b, z)) (hx : x.toInt < lo ∨ hi < x.toInt) (ht : (pc : Int) + d = (tgt : Int)) (hE : q_EV mm tgt lv st g u Q) : q_EV mm pc lv (.int x :: st) g u Q := by
  refine q_step 1 tgt lv st g u (fun big n => ?_) hE
  show (match pm_at mm pc with
    | some e => qm_step pm_m big mm (qm_run pm_m big mm n) e pc lv (.int x :: st) g u
    | none => none) = _
  rw [he]
  show qm_tsw (qm_run pm_m big mm n) d lo hi offs pc lv (.int x :: st) g u = _
  have hj : qm_jump (qm_run pm_m big mm n) ((pc : Int) + d) lv st g u = qm_run pm_m big mm n tgt lv st g u := by
    unfold qm_jump
    rw [ht, if_pos (by omega), Int.toNat_natCast]
  unfold qm_tsw
  dsimp only
  by_cases h1 : x.toInt < lo
  · rw [if_pos h1]
    exact hj
  · rw [if_neg h1, if_pos (by omega)]
    exact hj
end EVT
theorem sg_ba_1 (big : Nat → List Value → qM → qW → qR) (n0 : Nat) (G : qM) (U : qW) (v0 : Int32) : qm_run pm_m big m_91 (n0 + 1) 0 [(0, .ref 8), (1, .int v0)] [] G U = qm_run pm_m big m_91 n0 1 [(0, .ref 8), (1, .int v0)] [.int v0] G U := rfl
theorem sg_ba_2 (big : Nat → List Value → qM → qW → qR) (n0 : Nat) (G : qM) (U : qW) (v0 : Int32) : qm_run pm_m big m_91 (n0 + 2) 4 [(0, .ref 8), (1, .int v0)] [] G U = qm_run pm_m big m_91 n0 7 [(0, .ref 8), (1, .int v0)] [.int (10 : Int32), .int v0] G U := rfl
theorem sg_ba_3 (big : Nat → List Value → qM → qW → qR) (n0 : Nat) (G : qM) (U : qW) (v0 : Int32) : qm_run pm_m big m_91 (n0 + 5) 10 [(0, .ref 8), (1, .int v0)] [] G U = qm_run pm_m big m_91 n0 18 [(0, .ref 8), (1, .int v0)] [.int (v0 - (10 : Int32)), .ref 20] G U := rfl
theorem sg_ba_4 (big : Nat → List Value → qM → qW → qR) (n0 : Nat) (G : qM) (U : qW) (v0 : Int32) (v1 : Int32) : qm_run pm_m big m_56 (n0 + 3) 0 [(0, .ref 8), (1, .int v0), (2, .int v1)] [] G U = qm_run pm_m big m_56 n0 5 [(0, .ref 8), (1, .int v0), (2, .int v1)] [.int v0, .ref 20] G U := rfl
theorem sg_ba_5 (big : Nat → List Value → qM → qW → qR) (n0 : Nat) (G : qM) (U : qW) (v0 : Int32) (v1 : Int32) : qm_run pm_m big m_56 (n0 + 1) 11 [(0, .ref 8), (1, .int v0), (2, .int v1)] [] G U = qm_run pm_m big m_56 n0 12 [(0, .ref 8), (1, .int v0), (2, .int v1)] [.int v1] G U := rfl
theorem sg_ba_6 (big : Nat → List Value → qM → qW → qR) (n0 : Nat) (G : qM) (U : qW) (v0 : Int32) (v1 : Int32) : qm_run pm_m big m_183 (n0 + 2) 0 [(0, .ref 70), (1, .int v0), (2, .int v1)] [] G U = qm_run pm_m big m_183 n0 2 [(0, .ref 70), (1, .int v0), (2, .int v1)] [.int v0, .ref 70] G U := rfl
theorem sg_ba_7 (big : Nat → List Value → qM → qW → qR) (n0 : Nat) (G : qM) (U : qW) (v0 : Int32) (v1 : Int32) : qm_run pm_m big m_183 (n0 + 4) 8 [(0, .ref 70), (1, .int v0), (2, .int v1)] [] G U = qm_run pm_m big m_183 n0 12 [(0, .ref 70), (1, .int v0), (2, .int v1)] [.long (1 : Int64), .long (0 : Int64), .long (Int32.toInt64 v1)] G U := rfl
theorem sg_ba_8 (big : Nat → List Value → qM → qW → qR) (n0 : Nat) (G : qM) (U : qW) (v0 : Int32) : qm_run pm_m big m_65 (n0 + 3) 0 [(0, .ref 8), (1, .int v0)] [] G U = qm_run pm_m big m_65 n0 5 [(0, .ref 8), (1, .int v0)] [.int v0, .ref 20] G U := rfl
theorem sg_ba_9 (big : Nat → List Value → qM → qW → qR) (n0 : Nat) (G : qM) (U : qW) (v0 : Int32) : qm_run pm_m big m_188 (n0 + 2) 0 [(0, .ref 70), (1, .int v0)] [] G U = qm_run pm_m big m_188 n0 2 [(0, .ref 70), (1, .int v0)] [.int v0, .ref 70] G U := rfl
theorem sg_ba_10 (big : Nat → List Value → qM → qW → qR) (n0 : Nat) (G : qM) (U : qW) (v0 : Int32) : qm_run pm_m big m_75 (n0 + 1) 0 [(0, .ref 8), (1, .int v0)] [] G U = qm_run pm_m big m_75 n0 1 [(0, .ref 8), (1, .int v0)] [.int v0] G U := rfl
theorem sg_ba_11 (big : Nat → List Value → qM → qW → qR) (n0 : Nat) (G : qM) (U : qW) (v0 : Int32) : qm_run pm_m big m_75 (n0 + 2) 4 [(0, .ref 8), (1, .int v0)] [] G U = qm_run pm_m big m_75 n0 7 [(0, .ref 8), (1, .int v0)] [.int (60 : Int32), .int v0] G U := rfl
theorem sg_ba_12 (big : Nat → List Value → qM → qW → qR) (n0 : Nat) (G : qM) (U : qW) (v0 : Int32) : qm_run pm_m big m_196 (n0 + 4) 0 [(0, .ref 70), (1, .int v0)] [] G U = qm_run pm_m big m_196 n0 6 [(0, .ref 70), (1, .int v0)] [.long (60 : Int64), .long (0 : Int64), .long (Int32.toInt64 v0)] G U := rfl
theorem sg_ba_13 (big : Nat → List Value → qM → qW → qR) (n0 : Nat) (G : qM) (U : qW) (v0 : Int32) (v1 : Int32) (v2 : Int32) : qm_run pm_m big m_79 (n0 + 3) 0 [(0, .ref 8), (1, .int v0), (2, .int v1), (3, .int v2)] [] G U = qm_run pm_m big m_79 n0 5 [(0, .ref 8), (1, .int v0), (2, .int v1), (3, .int v2)] [.int v0, .ref 20] G U := rfl
theorem sg_ba_14 (big : Nat → List Value → qM → qW → qR) (n0 : Nat) (G : qM) (U : qW) (v0 : Int32) (v1 : Int32) (v2 : Int32) : qm_run pm_m big m_79 (n0 + 1) 11 [(0, .ref 8), (1, .int v0), (2, .int v1), (3, .int v2)] [] G U = qm_run pm_m big m_79 n0 12 [(0, .ref 8), (1, .int v0), (2, .int v1), (3, .int v2)] [.int v1] G U := rfl
theorem sg_ba_15 (big : Nat → List Value → qM → qW → qR) (n0 : Nat) (G : qM) (U : qW) (v0 : Int32) (v1 : Int32) (v2 : Int32) : qm_run pm_m big m_79 (n0 + 2) 15 [(0, .ref 8), (1, .int v0), (2, .int v1), (3, .int v2)] [] G U = qm_run pm_m big m_79 n0 18 [(0, .ref 8), (1, .int v0), (2, .int v1), (3, .int v2)] [.int (60 : Int32), .int v1] G U := rfl
theorem sg_ba_16 (big : Nat → List Value → qM → qW → qR) (n0 : Nat) (G : qM) (U : qW) (v0 : Int32) (v1 : Int32) (v2 : Int32) : qm_run pm_m big m_79 (n0 + 1) 21 [(0, .ref 8), (1, .int v0), (2, .int v1), (3, .int v2)] [] G U = qm_run pm_m big m_79 n0 22 [(0, .ref 8), (1, .int v0), (2, .int v1), (3, .int v2)] [.int v2] G U := rfl
theorem sg_ba_17 (big : Nat → List Value → qM → qW → qR) (n0 : Nat) (G : qM) (U : qW) (v0 : Int32) (v1 : Int32) (v2 : Int32) : qm_run pm_m big m_198 (n0 + 2) 0 [(0, .ref 70), (1, .int v0), (2, .int v1), (3, .int v2)] [] G U = qm_run pm_m big m_198 n0 2 [(0, .ref 70), (1, .int v0), (2, .int v1), (3, .int v2)] [.int v0, .ref 70] G U := rfl
theorem sg_ba_18 (big : Nat → List Value → qM → qW → qR) (n0 : Nat) (G : qM) (U : qW) (v0 : Int32) (v1 : Int32) (v2 : Int32) : qm_run pm_m big m_198 (n0 + 4) 8 [(0, .ref 70), (1, .int v0), (2, .int v1), (3, .int v2)] [] G U = qm_run pm_m big m_198 n0 14 [(0, .ref 70), (1, .int v0), (2, .int v1), (3, .int v2)] [.long (60 : Int64), .long (0 : Int64), .long (Int32.toInt64 v1)] G U := rfl
theorem sg_ba_19 (big : Nat → List Value → qM → qW → qR) (n0 : Nat) (G : qM) (U : qW) (v0 : Int32) (v1 : Int32) (v2 : Int32) : qm_run pm_m big m_198 (n0 + 4) 20 [(0, .ref 70), (1, .int v0), (2, .int v1), (3, .int v2)] [] G U = qm_run pm_m big m_198 n0 24 [(0, .ref 70), (1, .int v0), (2, .int v1), (3, .int v2)] [.long (1 : Int64), .long (0 : Int64), .long (Int32.toInt64 v2)] G U := rfl
theorem sg_ba_20 (big : Nat → List Value → qM → qW → qR) (n0 : Nat) (G : qM) (U : qW) (v0 : Int32) : qm_run pm_m big m_84 (n0 + 1) 0 [(0, .ref 8), (1, .int v0)] [] G U = qm_run pm_m big m_84 n0 1 [(0, .ref 8), (1, .int v0)] [.int v0] G U := rfl
theorem sg_ba_21 (big : Nat → List Value → qM → qW → qR) (n0 : Nat) (G : qM) (U : qW) (v0 : Int32) : qm_run pm_m big m_200 (n0 + 4) 0 [(0, .ref 70), (1, .int v0)] [] G U = qm_run pm_m big m_200 n0 4 [(0, .ref 70), (1, .int v0)] [.long (1 : Int64), .long (0 : Int64), .long (Int32.toInt64 v0)] G U := rfl
theorem sg_ba_22 (big : Nat → List Value → qM → qW → qR) (n0 : Nat) (G : qM) (U : qW) (v0 : Int32) : qm_run pm_m big m_104 (n0 + 3) 0 [(0, .ref 8), (1, .int v0)] [] G U = qm_run pm_m big m_104 n0 5 [(0, .ref 8), (1, .int v0)] [.int v0, .ref 20] G U := rfl
theorem sg_ba_23 (big : Nat → List Value → qM → qW → qR) (n0 : Nat) (G : qM) (U : qW) (v0 : Int32) : qm_run pm_m big m_207 (n0 + 2) 0 [(0, .ref 70), (1, .int v0)] [] G U = qm_run pm_m big m_207 n0 2 [(0, .ref 70), (1, .int v0)] [.int v0, .ref 70] G U := rfl
theorem sg_ba_24 (big : Nat → List Value → qM → qW → qR) (n0 : Nat) (G : qM) (U : qW) (v0 : Int32) (v1 : Int32) (v2 : Int32) : qm_run pm_m big m_110 (n0 + 2) 0 [(0, .ref 8), (1, .int v0), (2, .int v1), (3, .int v2)] [] G U = qm_run pm_m big m_110 n0 2 [(0, .ref 8), (1, .int v0), (2, .int v1), (3, .int v2)] [.int (1 : Int32), .int v0] G U := rfl
theorem sg_ba_25 (big : Nat → List Value → qM → qW → qR) (n0 : Nat) (G : qM) (U : qW) (v0 : Int32) (v1 : Int32) (v2 : Int32) : qm_run pm_m big m_110 (n0 + 2) 5 [(0, .ref 8), (1, .int v0), (2, .int v1), (3, .int v2)] [] G U = qm_run pm_m big m_110 n0 7 [(0, .ref 8), (1, .int v0), (2, .int v1), (3, .int v2)] [.int (3 : Int32), .int v0] G U := rfl
theorem sg_ba_26 (big : Nat → List Value → qM → qW → qR) (n0 : Nat) (G : qM) (U : qW) (v0 : Int32) (v1 : Int32) (v2 : Int32) : qm_run pm_m big m_110 (n0 + 1) 10 [(0, .ref 8), (1, .int v0), (2, .int v1), (3, .int v2)] [] G U = qm_run pm_m big m_110 n0 11 [(0, .ref 8), (1, .int v0), (2, .int v1), (3, .int v2)] [.int v1] G U := rfl
theorem sg_ba_27 (big : Nat → List Value → qM → qW → qR) (n0 : Nat) (G : qM) (U : qW) (v0 : Int32) (v1 : Int32) (v2 : Int32) : qm_run pm_m big m_110 (n0 + 1) 17 [(0, .ref 8), (1, .int v0), (2, .int v1), (3, .int v2)] [] G U = qm_run pm_m big m_110 n0 18 [(0, .ref 8), (1, .int v0), (2, .int v1), (3, .int v2)] [.int v2] G U := rfl
theorem sg_ba_28 (big : Nat → List Value → qM → qW → qR) (n0 : Nat) (G : qM) (U : qW) (v0 : Int32) (v1 : Int32) (v2 : Int32) : qm_run pm_m big m_209 (n0 + 4) 0 [(0, .ref 70), (1, .int v0), (2, .int v1), (3, .int v2)] [] G U = qm_run pm_m big m_209 n0 6 [(0, .ref 70), (1, .int v0), (2, .int v1), (3, .int v2)] [.long (3 : Int64), .long (1 : Int64), .long (Int32.toInt64 v0)] G U := rfl
theorem sg_ba_29 (big : Nat → List Value → qM → qW → qR) (n0 : Nat) (G : qM) (U : qW) (v0 : Int32) (v1 : Int32) (v2 : Int32) : qm_run pm_m big m_209 (n0 + 4) 12 [(0, .ref 70), (1, .int v0), (2, .int v1), (3, .int v2)] [] G U = qm_run pm_m big m_209 n0 18 [(0, .ref 70), (1, .int v0), (2, .int v1), (3, .int v2)] [.long (12 : Int64), .long (0 : Int64), .long (Int32.toInt64 v1)] G U := rfl
theorem sg_ba_30 (big : Nat → List Value → qM → qW → qR) (n0 : Nat) (G : qM) (U : qW) (v0 : Int32) (v1 : Int32) (v2 : Int32) : qm_run pm_m big m_209 (n0 + 4) 24 [(0, .ref 70), (1, .int v0), (2, .int v1), (3, .int v2)] [] G U = qm_run pm_m big m_209 n0 28 [(0, .ref 70), (1, .int v0), (2, .int v1), (3, .int v2)] [.long (1 : Int64), .long (0 : Int64), .long (Int32.toInt64 v2)] G U := rfl
theorem sg_ba_31 (big : Nat → List Value → qM → qW → qR) (n0 : Nat) (G : qM) (U : qW) (v0 : Int32) (v1 : Int32) (v2 : Int32) : qm_run pm_m big m_112 (n0 + 1) 0 [(0, .ref 8), (1, .int v0), (2, .int v1), (3, .int v2)] [] G U = qm_run pm_m big m_112 n0 1 [(0, .ref 8), (1, .int v0), (2, .int v1), (3, .int v2)] [.int v0] G U := rfl
theorem sg_ba_32 (big : Nat → List Value → qM → qW → qR) (n0 : Nat) (G : qM) (U : qW) (v0 : Int32) (v1 : Int32) (v2 : Int32) : qm_run pm_m big m_112 (n0 + 2) 4 [(0, .ref 8), (1, .int v0), (2, .int v1), (3, .int v2)] [] G U = qm_run pm_m big m_112 n0 7 [(0, .ref 8), (1, .int v0), (2, .int v1), (3, .int v2)] [.int (10 : Int32), .int v0] G U := rfl
theorem sg_ba_33 (big : Nat → List Value → qM → qW → qR) (n0 : Nat) (G : qM) (U : qW) (v0 : Int32) (v1 : Int32) (v2 : Int32) : qm_run pm_m big m_112 (n0 + 1) 10 [(0, .ref 8), (1, .int v0), (2, .int v1), (3, .int v2)] [] G U = qm_run pm_m big m_112 n0 11 [(0, .ref 8), (1, .int v0), (2, .int v1), (3, .int v2)] [.int v1] G U := rfl
theorem sg_ba_34 (big : Nat → List Value → qM → qW → qR) (n0 : Nat) (G : qM) (U : qW) (v0 : Int32) (v1 : Int32) (v2 : Int32) : qm_run pm_m big m_112 (n0 + 1) 17 [(0, .ref 8), (1, .int v0), (2, .int v1), (3, .int v2)] [] G U = qm_run pm_m big m_112 n0 18 [(0, .ref 8), (1, .int v0), (2, .int v1), (3, .int v2)] [.int v2] G U := rfl
theorem sg_ba_35 (big : Nat → List Value → qM → qW → qR) (n0 : Nat) (G : qM) (U : qW) (v0 : Int32) (v1 : Int32) (v2 : Int32) : qm_run pm_m big m_210 (n0 + 4) 0 [(0, .ref 70), (1, .int v0), (2, .int v1), (3, .int v2)] [] G U = qm_run pm_m big m_210 n0 6 [(0, .ref 70), (1, .int v0), (2, .int v1), (3, .int v2)] [.long (10 : Int64), .long (0 : Int64), .long (Int32.toInt64 v0)] G U := rfl
theorem sg_ba_36 (big : Nat → List Value → qM → qW → qR) (n0 : Nat) (G : qM) (U : qW) (v0 : Int32) (v1 : Int32) (v2 : Int32) : qm_run pm_m big m_210 (n0 + 4) 12 [(0, .ref 70), (1, .int v0), (2, .int v1), (3, .int v2)] [] G U = qm_run pm_m big m_210 n0 18 [(0, .ref 70), (1, .int v0), (2, .int v1), (3, .int v2)] [.long (12 : Int64), .long (0 : Int64), .long (Int32.toInt64 v1)] G U := rfl
theorem sg_ba_37 (big : Nat → List Value → qM → qW → qR) (n0 : Nat) (G : qM) (U : qW) (v0 : Int32) (v1 : Int32) (v2 : Int32) : qm_run pm_m big m_210 (n0 + 4) 24 [(0, .ref 70), (1, .int v0), (2, .int v1), (3, .int v2)] [] G U = qm_run pm_m big m_210 n0 28 [(0, .ref 70), (1, .int v0), (2, .int v1), (3, .int v2)] [.long (1 : Int64), .long (0 : Int64), .long (Int32.toInt64 v2)] G U := rfl
theorem sg_ba_38 (big : Nat → List Value → qM → qW → qR) (n0 : Nat) (G : qM) (U : qW) (v0 : Int32) (v1 : Int32) : qm_run pm_m big m_125 (n0 + 2) 0 [(0, .ref 8), (1, .int v0), (2, .int v1)] [] G U = qm_run pm_m big m_125 n0 2 [(0, .ref 8), (1, .int v0), (2, .int v1)] [.int (1 : Int32), .int v1] G U := rfl
theorem sg_ba_39 (big : Nat → List Value → qM → qW → qR) (n0 : Nat) (G : qM) (U : qW) (v0 : Int32) (v1 : Int32) : qm_run pm_m big m_125 (n0 + 2) 5 [(0, .ref 8), (1, .int v0), (2, .int v1)] [] G U = qm_run pm_m big m_125 n0 8 [(0, .ref 8), (1, .int v0), (2, .int v1)] [.int (60 : Int32), .int v1] G U := rfl
theorem sg_ba_40 (big : Nat → List Value → qM → qW → qR) (n0 : Nat) (G : qM) (U : qW) (v0 : Int32) (v1 : Int32) : qm_run pm_m big m_215 (n0 + 4) 0 [(0, .ref 70), (1, .int v0), (2, .int v1)] [] G U = qm_run pm_m big m_215 n0 6 [(0, .ref 70), (1, .int v0), (2, .int v1)] [.long (60 : Int64), .long (1 : Int64), .long (Int32.toInt64 v1)] G U := rfl
theorem sg_ba_41 (big : Nat → List Value → qM → qW → qR) (n0 : Nat) (G : qM) (U : qW) (v0 : Int32) (v1 : Int32) : qm_run pm_m big m_47 (n0 + 3) 0 [(0, .ref 8), (1, .int v0), (2, .int v1)] [] G U = qm_run pm_m big m_47 n0 5 [(0, .ref 8), (1, .int v0), (2, .int v1)] [.int v0, .ref 20] G U := rfl
theorem sg_ba_42 (big : Nat → List Value → qM → qW → qR) (n0 : Nat) (G : qM) (U : qW) (v0 : Int32) (v1 : Int32) : qm_run pm_m big m_47 (n0 + 1) 11 [(0, .ref 8), (1, .int v0), (2, .int v1)] [] G U = qm_run pm_m big m_47 n0 12 [(0, .ref 8), (1, .int v0), (2, .int v1)] [.int v1] G U := rfl
theorem sg_ba_43 (big : Nat → List Value → qM → qW → qR) (n0 : Nat) (G : qM) (U : qW) (v0 : Int32) (v1 : Int32) : qm_run pm_m big m_174 (n0 + 2) 0 [(0, .ref 70), (1, .int v0), (2, .int v1)] [] G U = qm_run pm_m big m_174 n0 2 [(0, .ref 70), (1, .int v0), (2, .int v1)] [.int v0, .ref 70] G U := rfl
theorem sg_ba_44 (big : Nat → List Value → qM → qW → qR) (n0 : Nat) (G : qM) (U : qW) (v0 : Int32) (v1 : Int32) : qm_run pm_m big m_174 (n0 + 4) 8 [(0, .ref 70), (1, .int v0), (2, .int v1)] [] G U = qm_run pm_m big m_174 n0 14 [(0, .ref 70), (1, .int v0), (2, .int v1)] [.long (3 : Int64), .long (0 : Int64), .long (Int32.toInt64 v1)] G U := rfl
theorem sg_ba_45 (big : Nat → List Value → qM → qW → qR) (n0 : Nat) (G : qM) (U : qW) (v0 : Int32) (v1 : Int32) : qm_run pm_m big m_51 (n0 + 3) 0 [(0, .ref 8), (1, .int v0), (2, .int v1)] [] G U = qm_run pm_m big m_51 n0 5 [(0, .ref 8), (1, .int v0), (2, .int v1)] [.int v0, .ref 20] G U := rfl
theorem sg_ba_46 (big : Nat → List Value → qM → qW → qR) (n0 : Nat) (G : qM) (U : qW) (v0 : Int32) (v1 : Int32) : qm_run pm_m big m_178 (n0 + 2) 0 [(0, .ref 70), (1, .int v0), (2, .int v1)] [] G U = qm_run pm_m big m_178 n0 2 [(0, .ref 70), (1, .int v0), (2, .int v1)] [.int v0, .ref 70] G U := rfl
theorem sg_ba_47 (big : Nat → List Value → qM → qW → qR) (n0 : Nat) (G : qM) (U : qW) (v0 : Int32) : qm_run pm_m big m_55 (n0 + 1) 0 [(0, .ref 8), (1, .int v0)] [] G U = qm_run pm_m big m_55 n0 1 [(0, .ref 8), (1, .int v0)] [.int v0] G U := rfl
theorem sg_ba_48 (big : Nat → List Value → qM → qW → qR) (n0 : Nat) (G : qM) (U : qW) (v0 : Int32) : qm_run pm_m big m_55 (n0 + 2) 4 [(0, .ref 8), (1, .int v0)] [] G U = qm_run pm_m big m_55 n0 6 [(0, .ref 8), (1, .int v0)] [.int (4 : Int32), .int v0] G U := rfl
theorem sg_ba_49 (big : Nat → List Value → qM → qW → qR) (n0 : Nat) (G : qM) (U : qW) (v0 : Int32) : qm_run pm_m big m_55 (n0 + 1) 11 [(0, .ref 8), (1, .int v0)] [] G U = qm_run pm_m big m_55 n0 12 [(0, .ref 8), (1, .int v0)] [.ref 8] G U := rfl
theorem sg_ba_50 (big : Nat → List Value → qM → qW → qR) (n0 : Nat) (G : qM) (U : qW) (v0 : Int32) : qm_run pm_m big m_182 (n0 + 4) 0 [(0, .ref 70), (1, .int v0)] [] G U = qm_run pm_m big m_182 n0 6 [(0, .ref 70), (1, .int v0)] [.long (4 : Int64), .long (0 : Int64), .long (Int32.toInt64 v0)] G U := rfl
theorem sg_ba_51 (big : Nat → List Value → qM → qW → qR) (n0 : Nat) (G : qM) (U : qW) (v0 : Int32) (v1 : Int32) : qm_run pm_m big m_54 (n0 + 2) 0 [(0, .ref 8), (1, .int v0), (2, .int v1)] [] G U = qm_run pm_m big m_54 n0 2 [(0, .ref 8), (1, .int v0), (2, .int v1)] [.int (1 : Int32), .int v0] G U := rfl
theorem sg_ba_52 (big : Nat → List Value → qM → qW → qR) (n0 : Nat) (G : qM) (U : qW) (v0 : Int32) (v1 : Int32) : qm_run pm_m big m_54 (n0 + 2) 5 [(0, .ref 8), (1, .int v0), (2, .int v1)] [] G U = qm_run pm_m big m_54 n0 7 [(0, .ref 8), (1, .int v0), (2, .int v1)] [.int (4 : Int32), .int v0] G U := rfl
theorem sg_ba_53 (big : Nat → List Value → qM → qW → qR) (n0 : Nat) (G : qM) (U : qW) (v0 : Int32) (v1 : Int32) : qm_run pm_m big m_54 (n0 + 1) 10 [(0, .ref 8), (1, .int v0), (2, .int v1)] [] G U = qm_run pm_m big m_54 n0 11 [(0, .ref 8), (1, .int v0), (2, .int v1)] [.int v1] G U := rfl
theorem sg_ba_54 (big : Nat → List Value → qM → qW → qR) (n0 : Nat) (G : qM) (U : qW) (v0 : Int32) (v1 : Int32) : qm_run pm_m big m_54 (n0 + 2) 14 [(0, .ref 8), (1, .int v0), (2, .int v1)] [] G U = qm_run pm_m big m_54 n0 17 [(0, .ref 8), (1, .int v0), (2, .int v1)] [.int (9 : Int32), .int v1] G U := rfl
theorem sg_ba_55 (big : Nat → List Value → qM → qW → qR) (n0 : Nat) (G : qM) (U : qW) (v0 : Int32) (v1 : Int32) : qm_run pm_m big m_181 (n0 + 4) 0 [(0, .ref 70), (1, .int v0), (2, .int v1)] [] G U = qm_run pm_m big m_181 n0 6 [(0, .ref 70), (1, .int v0), (2, .int v1)] [.long (4 : Int64), .long (1 : Int64), .long (Int32.toInt64 v0)] G U := rfl
theorem sg_ba_56 (big : Nat → List Value → qM → qW → qR) (n0 : Nat) (G : qM) (U : qW) (v0 : Int32) (v1 : Int32) : qm_run pm_m big m_181 (n0 + 4) 12 [(0, .ref 70), (1, .int v0), (2, .int v1)] [] G U = qm_run pm_m big m_181 n0 18 [(0, .ref 70), (1, .int v0), (2, .int v1)] [.long (9 : Int64), .long (0 : Int64), .long (Int32.toInt64 v1)] G U := rfl
theorem sg_ba_57 (big : Nat → List Value → qM → qW → qR) (n0 : Nat) (G : qM) (U : qW) (v0 : Int32) (v1 : Int32) : qm_run pm_m big m_118 (n0 + 3) 0 [(0, .ref 8), (1, .int v0), (2, .int v1)] [] G U = qm_run pm_m big m_118 n0 5 [(0, .ref 8), (1, .int v0), (2, .int v1)] [.int v0, .ref 20] G U := rfl
theorem sg_ba_58 (big : Nat → List Value → qM → qW → qR) (n0 : Nat) (G : qM) (U : qW) (v0 : Int32) (v1 : Int32) : qm_run pm_m big m_118 (n0 + 1) 11 [(0, .ref 8), (1, .int v0), (2, .int v1)] [] G U = qm_run pm_m big m_118 n0 12 [(0, .ref 8), (1, .int v0), (2, .int v1)] [.int v1] G U := rfl
theorem sg_ba_59 (big : Nat → List Value → qM → qW → qR) (n0 : Nat) (G : qM) (U : qW) (v0 : Int32) (v1 : Int32) : qm_run pm_m big m_118 (n0 + 2) 15 [(0, .ref 8), (1, .int v0), (2, .int v1)] [] G U = qm_run pm_m big m_118 n0 17 [(0, .ref 8), (1, .int v0), (2, .int v1)] [.int (4 : Int32), .int v1] G U := rfl
theorem sg_ba_60 (big : Nat → List Value → qM → qW → qR) (n0 : Nat) (G : qM) (U : qW) (v0 : Int32) (v1 : Int32) : qm_run pm_m big m_212 (n0 + 2) 0 [(0, .ref 70), (1, .int v0), (2, .int v1)] [] G U = qm_run pm_m big m_212 n0 2 [(0, .ref 70), (1, .int v0), (2, .int v1)] [.int v0, .ref 70] G U := rfl
theorem sg_ba_61 (big : Nat → List Value → qM → qW → qR) (n0 : Nat) (G : qM) (U : qW) (v0 : Int32) (v1 : Int32) : qm_run pm_m big m_212 (n0 + 4) 8 [(0, .ref 70), (1, .int v0), (2, .int v1)] [] G U = qm_run pm_m big m_212 n0 14 [(0, .ref 70), (1, .int v0), (2, .int v1)] [.long (4 : Int64), .long (0 : Int64), .long (Int32.toInt64 v1)] G U := rfl
theorem sg_ba_62 (big : Nat → List Value → qM → qW → qR) (n0 : Nat) (G : qM) (U : qW) (v0 : Int32) (v1 : Int32) : qm_run pm_m big m_53 (n0 + 3) 0 [(0, .ref 8), (1, .int v0), (2, .int v1)] [] G U = qm_run pm_m big m_53 n0 5 [(0, .ref 8), (1, .int v0), (2, .int v1)] [.int v0, .ref 20] G U := rfl
theorem sg_ba_63 (big : Nat → List Value → qM → qW → qR) (n0 : Nat) (G : qM) (U : qW) (v0 : Int32) (v1 : Int32) : qm_run pm_m big m_180 (n0 + 2) 0 [(0, .ref 70), (1, .int v0), (2, .int v1)] [] G U = qm_run pm_m big m_180 n0 2 [(0, .ref 70), (1, .int v0), (2, .int v1)] [.int v0, .ref 70] G U := rfl
theorem sg_ba_64 (big : Nat → List Value → qM → qW → qR) (n0 : Nat) (G : qM) (U : qW) (v0 : Int32) : qm_run pm_m big m_46 (n0 + 3) 0 [(0, .ref 8), (1, .int v0)] [] G U = qm_run pm_m big m_46 n0 5 [(0, .ref 8), (1, .int v0)] [.int v0, .ref 20] G U := rfl
theorem sg_ba_65 (big : Nat → List Value → qM → qW → qR) (n0 : Nat) (G : qM) (U : qW) (v0 : Int32) : qm_run pm_m big m_170 (n0 + 2) 0 [(0, .ref 70), (1, .int v0)] [] G U = qm_run pm_m big m_170 n0 2 [(0, .ref 70), (1, .int v0)] [.int v0, .ref 70] G U := rfl
theorem sg_ba_66 (big : Nat → List Value → qM → qW → qR) (n0 : Nat) (G : qM) (U : qW) (v0 : Int32) (v1 : Int32) : qm_run pm_m big m_49 (n0 + 3) 0 [(0, .ref 8), (1, .int v0), (2, .int v1)] [] G U = qm_run pm_m big m_49 n0 5 [(0, .ref 8), (1, .int v0), (2, .int v1)] [.int v0, .ref 20] G U := rfl
theorem sg_ba_67 (big : Nat → List Value → qM → qW → qR) (n0 : Nat) (G : qM) (U : qW) (v0 : Int32) (v1 : Int32) : qm_run pm_m big m_49 (n0 + 3) 11 [(0, .ref 8), (1, .int v0), (2, .int v1)] [] G U = qm_run pm_m big m_49 n0 16 [(0, .ref 8), (1, .int v0), (2, .int v1)] [.int v1, .ref 20] G U := rfl
theorem sg_ba_68 (big : Nat → List Value → qM → qW → qR) (n0 : Nat) (G : qM) (U : qW) (v0 : Int32) (v1 : Int32) : qm_run pm_m big m_176 (n0 + 2) 0 [(0, .ref 70), (1, .int v0), (2, .int v1)] [] G U = qm_run pm_m big m_176 n0 2 [(0, .ref 70), (1, .int v0), (2, .int v1)] [.int v0, .ref 70] G U := rfl
theorem sg_ba_69 (big : Nat → List Value → qM → qW → qR) (n0 : Nat) (G : qM) (U : qW) (v0 : Int32) (v1 : Int32) : qm_run pm_m big m_176 (n0 + 2) 8 [(0, .ref 70), (1, .int v0), (2, .int v1)] [] G U = qm_run pm_m big m_176 n0 10 [(0, .ref 70), (1, .int v0), (2, .int v1)] [.int v1, .ref 70] G U := rfl
theorem sg_ba_70 (big : Nat → List Value → qM → qW → qR) (n0 : Nat) (G : qM) (U : qW) (v0 : Int32) (v1 : Int32) : qm_run pm_m big m_89 (n0 + 1) 0 [(0, .ref 8), (1, .int v0), (2, .int v1)] [] G U = qm_run pm_m big m_89 n0 1 [(0, .ref 8), (1, .int v0), (2, .int v1)] [.int v0] G U := rfl
theorem sg_ba_71 (big : Nat → List Value → qM → qW → qR) (n0 : Nat) (G : qM) (U : qW) (v0 : Int32) (v1 : Int32) : qm_run pm_m big m_89 (n0 + 2) 7 [(0, .ref 8), (1, .int v0), (2, .int v1)] [] G U = qm_run pm_m big m_89 n0 9 [(0, .ref 8), (1, .int v0), (2, .int v1)] [.int v1, .ref 8] G U := rfl
theorem sg_ba_72 (big : Nat → List Value → qM → qW → qR) (n0 : Nat) (G : qM) (U : qW) (v0 : Int32) (v1 : Int32) : qm_run pm_m big m_201 (n0 + 4) 0 [(0, .ref 70), (1, .int v0), (2, .int v1)] [] G U = qm_run pm_m big m_201 n0 6 [(0, .ref 70), (1, .int v0), (2, .int v1)] [.long (12 : Int64), .long (0 : Int64), .long (Int32.toInt64 v0)] G U := rfl
theorem sg_ba_73 (big : Nat → List Value → qM → qW → qR) (n0 : Nat) (G : qM) (U : qW) (v0 : Int32) (v1 : Int32) : qm_run pm_m big m_201 (n0 + 1) 12 [(0, .ref 70), (1, .int v0), (2, .int v1)] [] G U = qm_run pm_m big m_201 n0 13 [(0, .ref 70), (1, .int v0), (2, .int v1)] [.int v1] G U := rfl
theorem sg_ba_74 (big : Nat → List Value → qM → qW → qR) (n0 : Nat) (G : qM) (U : qW) (v0 : Int32) (v1 : Int32) : qm_run pm_m big m_201 (n0 + 4) 16 [(0, .ref 70), (1, .int v0), (2, .int v1)] [] G U = qm_run pm_m big m_201 n0 21 [(0, .ref 70), (1, .int v0), (2, .int v1)] [.int (v1 - (10 : Int32)), .ref 70] G U := rfl
theorem sg_ba_75 (big : Nat → List Value → qM → qW → qR) (n0 : Nat) (G : qM) (U : qW) (v0 : Int32) : qm_run pm_m big m_120 (n0 + 2) 0 [(0, .ref 8), (1, .int v0)] [] G U = qm_run pm_m big m_120 n0 2 [(0, .ref 8), (1, .int v0)] [.int v0, .ref 8] G U := rfl
theorem sg_ba_76 (big : Nat → List Value → qM → qW → qR) (n0 : Nat) (G : qM) (U : qW) (v0 : Int32) : qm_run pm_m big m_214 (n0 + 1) 0 [(0, .ref 70), (1, .int v0)] [] G U = qm_run pm_m big m_214 n0 1 [(0, .ref 70), (1, .int v0)] [.int v0] G U := rfl
theorem sg_ba_77 (big : Nat → List Value → qM → qW → qR) (n0 : Nat) (G : qM) (U : qW) (v0 : Int32) : qm_run pm_m big m_214 (n0 + 4) 4 [(0, .ref 70), (1, .int v0)] [] G U = qm_run pm_m big m_214 n0 9 [(0, .ref 70), (1, .int v0)] [.int (v0 - (10 : Int32)), .ref 70] G U := rfl
theorem sg_ba_78 (big : Nat → List Value → qM → qW → qR) (n0 : Nat) (G : qM) (U : qW) (v0 : Int32) : qm_run pm_m big m_128 (n0 + 1) 0 [(0, .ref 8), (1, .int v0)] [] G U = qm_run pm_m big m_128 n0 1 [(0, .ref 8), (1, .int v0)] [.int v0] G U := rfl
theorem sg_ba_79 (big : Nat → List Value → qM → qW → qR) (n0 : Nat) (G : qM) (U : qW) (v0 : Int32) : qm_run pm_m big m_128 (n0 + 2) 4 [(0, .ref 8), (1, .int v0)] [] G U = qm_run pm_m big m_128 n0 6 [(0, .ref 8), (1, .int v0)] [.int (2 : Int32), .int v0] G U := rfl
theorem sg_ba_80 (big : Nat → List Value → qM → qW → qR) (n0 : Nat) (G : qM) (U : qW) (v0 : Int32) : qm_run pm_m big m_216 (n0 + 4) 0 [(0, .ref 70), (1, .int v0)] [] G U = qm_run pm_m big m_216 n0 4 [(0, .ref 70), (1, .int v0)] [.long (1 : Int64), .long (0 : Int64), .long (Int32.toInt64 v0)] G U := rfl
theorem sg_ba_81 (big : Nat → List Value → qM → qW → qR) (n0 : Nat) (G : qM) (U : qW) (v0 : Int32) : qm_run pm_m big m_129 (n0 + 1) 0 [(0, .ref 8), (1, .int v0)] [] G U = qm_run pm_m big m_129 n0 1 [(0, .ref 8), (1, .int v0)] [.int v0] G U := rfl
theorem sg_ba_82 (big : Nat → List Value → qM → qW → qR) (n0 : Nat) (G : qM) (U : qW) (v0 : Int32) : qm_run pm_m big m_129 (n0 + 2) 4 [(0, .ref 8), (1, .int v0)] [] G U = qm_run pm_m big m_129 n0 6 [(0, .ref 8), (1, .int v0)] [.int (2 : Int32), .int v0] G U := rfl
theorem sg_ba_83 (big : Nat → List Value → qM → qW → qR) (n0 : Nat) (G : qM) (U : qW) (v0 : Int32) : qm_run pm_m big m_218 (n0 + 4) 0 [(0, .ref 70), (1, .int v0)] [] G U = qm_run pm_m big m_218 n0 4 [(0, .ref 70), (1, .int v0)] [.long (1 : Int64), .long (0 : Int64), .long (Int32.toInt64 v0)] G U := rfl
theorem sg_ba_84 (big : Nat → List Value → qM → qW → qR) (n0 : Nat) (G : qM) (U : qW) (v0 : Int32) (v1 : Int32) (v2 : Int32) (v3 : Int32) : qm_run pm_m big m_106 (n0 + 3) 0 [(0, .ref 8), (1, .int v0), (2, .int v1), (3, .int v2), (4, .int v3)] [] G U = qm_run pm_m big m_106 n0 5 [(0, .ref 8), (1, .int v0), (2, .int v1), (3, .int v2), (4, .int v3)] [.int v0, .ref 20] G U := rfl
theorem sg_ba_85 (big : Nat → List Value → qM → qW → qR) (n0 : Nat) (G : qM) (U : qW) (v0 : Int32) (v1 : Int32) (v2 : Int32) (v3 : Int32) : qm_run pm_m big m_106 (n0 + 3) 11 [(0, .ref 8), (1, .int v0), (2, .int v1), (3, .int v2), (4, .int v3)] [] G U = qm_run pm_m big m_106 n0 16 [(0, .ref 8), (1, .int v0), (2, .int v1), (3, .int v2), (4, .int v3)] [.int v1, .ref 20] G U := rfl
theorem sg_ba_86 (big : Nat → List Value → qM → qW → qR) (n0 : Nat) (G : qM) (U : qW) (v0 : Int32) (v1 : Int32) (v2 : Int32) (v3 : Int32) : qm_run pm_m big m_106 (n0 + 3) 22 [(0, .ref 8), (1, .int v0), (2, .int v1), (3, .int v2), (4, .int v3)] [] G U = qm_run pm_m big m_106 n0 27 [(0, .ref 8), (1, .int v0), (2, .int v1), (3, .int v2), (4, .int v3)] [.int v2, .ref 20] G U := rfl
theorem sg_ba_87 (big : Nat → List Value → qM → qW → qR) (n0 : Nat) (G : qM) (U : qW) (v0 : Int32) (v1 : Int32) (v2 : Int32) (v3 : Int32) : qm_run pm_m big m_106 (n0 + 2) 33 [(0, .ref 8), (1, .int v0), (2, .int v1), (3, .int v2), (4, .int v3)] [] G U = qm_run pm_m big m_106 n0 35 [(0, .ref 8), (1, .int v0), (2, .int v1), (3, .int v2), (4, .int v3)] [.int v1, .int v0] G U := rfl
theorem sg_ba_88 (big : Nat → List Value → qM → qW → qR) (n0 : Nat) (G : qM) (U : qW) (v0 : Int32) (v1 : Int32) (v2 : Int32) (v3 : Int32) : qm_run pm_m big m_106 (n0 + 2) 38 [(0, .ref 8), (1, .int v0), (2, .int v1), (3, .int v2), (4, .int v3)] [] G U = qm_run pm_m big m_106 n0 40 [(0, .ref 8), (1, .int v0), (2, .int v1), (3, .int v2), (4, .int v3)] [.int v2, .int v0] G U := rfl
theorem sg_ba_89 (big : Nat → List Value → qM → qW → qR) (n0 : Nat) (G : qM) (U : qW) (v0 : Int32) (v1 : Int32) (v2 : Int32) (v3 : Int32) : qm_run pm_m big m_106 (n0 + 2) 43 [(0, .ref 8), (1, .int v0), (2, .int v1), (3, .int v2), (4, .int v3)] [] G U = qm_run pm_m big m_106 n0 45 [(0, .ref 8), (1, .int v0), (2, .int v1), (3, .int v2), (4, .int v3)] [.int v2, .int v1] G U := rfl
theorem sg_ba_90 (big : Nat → List Value → qM → qW → qR) (n0 : Nat) (G : qM) (U : qW) (v0 : Int32) (v1 : Int32) (v2 : Int32) (v3 : Int32) : qm_run pm_m big m_106 (n0 + 5) 50 [(0, .ref 8), (1, .int v0), (2, .int v1), (3, .int v2), (4, .int v3)] [] G U = qm_run pm_m big m_106 n0 59 [(0, .ref 8), (1, .int v0), (2, .int v1), (3, .int v2), (4, .int v3), (5, .int (v3 - (10 : Int32)))] [.int v3] G U := rfl
theorem sg_ba_91 (big : Nat → List Value → qM → qW → qR) (n0 : Nat) (G : qM) (U : qW) (v0 : Int32) (v1 : Int32) (v2 : Int32) (v3 : Int32) (v4 : Int32) : qm_run pm_m big m_106 (n0 + 2) 62 [(0, .ref 8), (1, .int v0), (2, .int v1), (3, .int v2), (4, .int v3), (5, .int v4)] [] G U = qm_run pm_m big m_106 n0 66 [(0, .ref 8), (1, .int v0), (2, .int v1), (3, .int v2), (4, .int v3), (5, .int v4)] [.int (10 : Int32), .int v3] G U := rfl
theorem sg_ba_92 (big : Nat → List Value → qM → qW → qR) (n0 : Nat) (G : qM) (U : qW) (v0 : Int32) (v1 : Int32) (v2 : Int32) (v3 : Int32) (v4 : Int32) : qm_run pm_m big m_106 (n0 + 2) 69 [(0, .ref 8), (1, .int v0), (2, .int v1), (3, .int v2), (4, .int v3), (5, .int v4)] [] G U = qm_run pm_m big m_106 n0 72 [(0, .ref 8), (1, .int v0), (2, .int v1), (3, .int v2), (4, .int v3), (5, .int v4)] [.int (4 : Int32), .int v4] G U := rfl
theorem sg_ba_93 (big : Nat → List Value → qM → qW → qR) (n0 : Nat) (G : qM) (U : qW) (v0 : Int32) (v1 : Int32) (v2 : Int32) (v3 : Int32) : qm_run pm_m big m_208 (n0 + 2) 0 [(0, .ref 70), (1, .int v0), (2, .int v1), (3, .int v2), (4, .int v3)] [] G U = qm_run pm_m big m_208 n0 2 [(0, .ref 70), (1, .int v0), (2, .int v1), (3, .int v2), (4, .int v3)] [.int v1, .int v0] G U := rfl
theorem sg_ba_94 (big : Nat → List Value → qM → qW → qR) (n0 : Nat) (G : qM) (U : qW) (v0 : Int32) (v1 : Int32) (v2 : Int32) (v3 : Int32) : qm_run pm_m big m_208 (n0 + 4) 19 [(0, .ref 70), (1, .int v0), (2, .int v1), (3, .int v2), (4, .int v3)] [] G U = qm_run pm_m big m_208 n0 24 [(0, .ref 70), (1, .int v0), (2, .int v1), (3, .int v2), (4, .int v3), (5, .int (0 : Int32))] [.int v0, .ref 70] G U := rfl
theorem sg_ba_95 (big : Nat → List Value → qM → qW → qR) (n0 : Nat) (G : qM) (U : qW) (v0 : Int32) (v1 : Int32) (v2 : Int32) (v3 : Int32) : qm_run pm_m big m_208 (n0 + 2) 30 [(0, .ref 70), (1, .int v0), (2, .int v1), (3, .int v2), (4, .int v3), (5, .int (0 : Int32))] [] G U = qm_run pm_m big m_208 n0 32 [(0, .ref 70), (1, .int v0), (2, .int v1), (3, .int v2), (4, .int v3), (5, .int (0 : Int32))] [.int v1, .ref 70] G U := rfl
theorem sg_ba_96 (big : Nat → List Value → qM → qW → qR) (n0 : Nat) (G : qM) (U : qW) (v0 : Int32) (v1 : Int32) (v2 : Int32) (v3 : Int32) : qm_run pm_m big m_208 (n0 + 2) 38 [(0, .ref 70), (1, .int v0), (2, .int v1), (3, .int v2), (4, .int v3), (5, .int (0 : Int32))] [] G U = qm_run pm_m big m_208 n0 40 [(0, .ref 70), (1, .int v0), (2, .int v1), (3, .int v2), (4, .int v3), (5, .int (0 : Int32))] [.int v2, .ref 70] G U := rfl
theorem sg_ba_97 (big : Nat → List Value → qM → qW → qR) (n0 : Nat) (G : qM) (U : qW) (v0 : Int32) (v1 : Int32) (v2 : Int32) (v3 : Int32) : qm_run pm_m big m_208 (n0 + 2) 5 [(0, .ref 70), (1, .int v0), (2, .int v1), (3, .int v2), (4, .int v3)] [] G U = qm_run pm_m big m_208 n0 7 [(0, .ref 70), (1, .int v0), (2, .int v1), (3, .int v2), (4, .int v3)] [.int v2, .int v0] G U := rfl
theorem sg_ba_98 (big : Nat → List Value → qM → qW → qR) (n0 : Nat) (G : qM) (U : qW) (v0 : Int32) (v1 : Int32) (v2 : Int32) (v3 : Int32) : qm_run pm_m big m_208 (n0 + 2) 10 [(0, .ref 70), (1, .int v0), (2, .int v1), (3, .int v2), (4, .int v3)] [] G U = qm_run pm_m big m_208 n0 12 [(0, .ref 70), (1, .int v0), (2, .int v1), (3, .int v2), (4, .int v3)] [.int v2, .int v1] G U := rfl
theorem sg_ba_99 (big : Nat → List Value → qM → qW → qR) (n0 : Nat) (G : qM) (U : qW) (v0 : Int32) (v1 : Int32) (v2 : Int32) (v3 : Int32) : qm_run pm_m big m_208 (n0 + 5) 15 [(0, .ref 70), (1, .int v0), (2, .int v1), (3, .int v2), (4, .int v3)] [] G U = qm_run pm_m big m_208 n0 24 [(0, .ref 70), (1, .int v0), (2, .int v1), (3, .int v2), (4, .int v3), (5, .int (1 : Int32))] [.int v0, .ref 70] G U := rfl
theorem sg_ba_100 (big : Nat → List Value → qM → qW → qR) (n0 : Nat) (G : qM) (U : qW) (v0 : Int32) (v1 : Int32) (v2 : Int32) (v3 : Int32) : qm_run pm_m big m_208 (n0 + 2) 30 [(0, .ref 70), (1, .int v0), (2, .int v1), (3, .int v2), (4, .int v3), (5, .int (1 : Int32))] [] G U = qm_run pm_m big m_208 n0 32 [(0, .ref 70), (1, .int v0), (2, .int v1), (3, .int v2), (4, .int v3), (5, .int (1 : Int32))] [.int v1, .ref 70] G U := rfl
theorem sg_ba_101 (big : Nat → List Value → qM → qW → qR) (n0 : Nat) (G : qM) (U : qW) (v0 : Int32) (v1 : Int32) (v2 : Int32) (v3 : Int32) : qm_run pm_m big m_208 (n0 + 2) 38 [(0, .ref 70), (1, .int v0), (2, .int v1), (3, .int v2), (4, .int v3), (5, .int (1 : Int32))] [] G U = qm_run pm_m big m_208 n0 40 [(0, .ref 70), (1, .int v0), (2, .int v1), (3, .int v2), (4, .int v3), (5, .int (1 : Int32))] [.int v2, .ref 70] G U := rfl
theorem sg_ba_102 (big : Nat → List Value → qM → qW → qR) (n0 : Nat) (G : qM) (U : qW) (v0 : Int32) (v1 : Int32) (v2 : Int32) (v3 : Int32) : qm_run pm_m big m_208 (n0 + 3) 46 [(0, .ref 70), (1, .int v0), (2, .int v1), (3, .int v2), (4, .int v3), (5, .int (1 : Int32))] [] G U = qm_run pm_m big m_208 n0 53 [(0, .ref 70), (1, .int v0), (2, .int v1), (3, .int v2), (4, .int v3), (5, .int (1 : Int32))] [.int v3] G U := rfl
theorem sg_ba_103 (big : Nat → List Value → qM → qW → qR) (n0 : Nat) (G : qM) (U : qW) (v0 : Int32) (v1 : Int32) (v2 : Int32) (v3 : Int32) : qm_run pm_m big m_208 (n0 + 4) 56 [(0, .ref 70), (1, .int v0), (2, .int v1), (3, .int v2), (4, .int v3), (5, .int (1 : Int32))] [] G U = qm_run pm_m big m_208 n0 65 [(0, .ref 70), (1, .int v0), (2, .int v1), (3, .int v2), (4, .int v3), (5, .int (1 : Int32))] [.long (13 : Int64), .long (10 : Int64), .long (Int32.toInt64 v3)] G U := rfl
def d_isTot (x : Int32) (g : qM) : Int32 := (if x = 0 then (1 : Int32) else (if x < (10 : Int32) then (0 : Int32) else (if (d_hasOne (x - (10 : Int32)) g) = 0 then (0 : Int32) else (1 : Int32))))
theorem b_isTot (x : Int32) (g : qM) (u : qW) : q_BS 91 [.ref 8, .int x] g u (some (.int (d_isTot x g)), g, u) := by
  refine q_bx (mm := m_91) rfl (Nat.le_of_ble_eq_true rfl) rfl ?_
  refine q_step 1 1 [(0, .ref 8), (1, .int x)] [.int x] g u (fun big n0 => sg_ba_1 big n0 g u x) ?_
  refine q_if_eq rfl (fun (hc0 : x = 0) => ?_) (fun (hc0 : ¬ (x = 0)) => ?_)
  · refine q_ret 3 (some (.int (1 : Int32)), g, u) (fun _ _ => rfl) ?_
    unfold d_isTot
    rw [if_pos hc0]
  · refine q_step 2 7 [(0, .ref 8), (1, .int x)] [.int (10 : Int32), .int x] g u (fun big n0 => sg_ba_2 big n0 g u x) ?_
    refine q_ic_lt rfl (fun (hc1 : x < (10 : Int32)) => ?_) (fun (hc1 : ¬ (x < (10 : Int32))) => ?_)
    · refine q_ret 2 (some (.int (0 : Int32)), g, u) (fun _ _ => rfl) ?_
      unfold d_isTot
      rw [if_neg hc0, if_pos hc1]
    · refine q_step 5 18 [(0, .ref 8), (1, .int x)] [.int (x - (10 : Int32)), .ref 20] g u (fun big n0 => sg_ba_3 big n0 g u x) ?_
      refine q_call (M2 := 40) (rest := []) (b_hasOne _ _ _) (fun _ _ => rfl) ?_
      refine q_if_eq rfl (fun (hc2 : (d_hasOne (x - (10 : Int32)) g) = 0) => ?_) (fun (hc2 : ¬ ((d_hasOne (x - (10 : Int32)) g) = 0)) => ?_)
      · refine q_ret 2 (some (.int (0 : Int32)), g, u) (fun _ _ => rfl) ?_
        unfold d_isTot
        rw [if_neg hc0, if_neg hc1, if_pos hc2]
      · refine q_ret 3 (some (.int (1 : Int32)), g, u) (fun _ _ => rfl) ?_
        unfold d_isTot
        rw [if_neg hc0, if_neg hc1, if_neg hc2]
theorem vt_c {n : Nat} {x : Int32} {g : qM} (hn : g 20 3 = Int32.ofNat n) (h6 : n ≤ 6) (h : ¬ d_isTot x g = 0) : v_tot n x := by
  unfold d_isTot at h
  by_cases e : x = 0
  · exact Or.inl e
  · rw [if_neg e] at h
    by_cases e1 : x < 10
    · rw [if_pos e1] at h
      exact absurd rfl h
    · rw [if_neg e1] at h
      by_cases e2 : d_hasOne (x - 10) g = 0
      · rw [if_pos e2] at h
        exact absurd rfl h
      · exact vt_1 (vo_c hn h6 e2) h6
theorem cb_force {n W H : Nat} (g : qM) (u : qW) (hn : g 20 3 = Int32.ofNat n) (hW : g 20 0 = Int32.ofNat W) (hH : g 20 1 = Int32.ofNat H) (h6 : n ≤ 6) (h25 : W * H ≤ 25) (x : Int32) (y : Int32) (hb : ¬ (v_one n x ∧ v_rg 0 1 y)) : q_BS 56 [.ref 8, .int x, .int y] g u (some (.int (Int32.ofInt (-1))), g, u) := by
  refine q_bx (mm := m_56) rfl (Nat.le_of_ble_eq_true rfl) rfl ?_
  refine q_step 3 5 [(0, .ref 8), (1, .int x), (2, .int y)] [.int x, .ref 20] g u (fun big n0 => sg_ba_4 big n0 g u x y) ?_
  refine q_call (M2 := 40) (rest := []) (b_hasOne _ _ _) (fun _ _ => rfl) ?_
  refine q_if_eq rfl (fun (hc0 : (d_hasOne x g) = 0) => ?_) (fun (hc0 : ¬ ((d_hasOne x g) = 0)) => ?_)
  · refine q_ret 2 (some (.int (Int32.ofInt (-1))), g, u) (fun _ _ => rfl) ?_
    rfl
  · refine q_step 1 12 [(0, .ref 8), (1, .int x), (2, .int y)] [.int y] g u (fun big n0 => sg_ba_5 big n0 g u x y) ?_
    refine q_call (M2 := 57) (rest := []) (b_isHalf _ _ _) (fun _ _ => rfl) ?_
    refine q_if_ne rfl (fun (hc1 : (d_isHalf y g) = 0) => ?_) (fun (hc1 : ¬ ((d_isHalf y g) = 0)) => ?_)
    · refine q_ret 2 (some (.int (Int32.ofInt (-1))), g, u) (fun _ _ => rfl) ?_
      rfl
    · exact absurd (show v_one n x ∧ v_rg 0 1 y from ⟨vo_c hn h6 hc0, vr_half hc1⟩) hb
theorem rb_force {n W H : Nat} (g : qM) (u : qW) (hn : g 70 4 = Int32.ofNat n) (hW : g 70 2 = Int32.ofNat W) (hH : g 70 3 = Int32.ofNat H) (h6 : n ≤ 6) (h25 : W * H ≤ 25) (x : Int32) (y : Int32) (hb : ¬ (v_one n x ∧ v_rg 0 1 y)) : q_BS 183 [.ref 70, .int x, .int y] g u (some (.int (Int32.ofInt (-1))), g, u) := by
  refine q_bx (mm := m_183) rfl (Nat.le_of_ble_eq_true rfl) rfl ?_
  refine q_step 2 2 [(0, .ref 70), (1, .int x), (2, .int y)] [.int x, .ref 70] g u (fun big n0 => sg_ba_6 big n0 g u x y) ?_
  refine q_call (M2 := 169) (rest := []) (b_risOne _ _ _) (fun _ _ => rfl) ?_
  refine q_if_eq rfl (fun (hc0 : (d_risOne x g) = 0) => ?_) (fun (hc0 : ¬ ((d_risOne x g) = 0)) => ?_)
  · refine q_ret 2 (some (.int (Int32.ofInt (-1))), g, u) (fun _ _ => rfl) ?_
    rfl
  · refine q_step 4 12 [(0, .ref 70), (1, .int x), (2, .int y)] [.long (1 : Int64), .long (0 : Int64), .long (Int32.toInt64 y)] g u (fun big n0 => sg_ba_7 big n0 g u x y) ?_
    refine q_call (M2 := 149) (rest := []) (b_in _ _ _ _ _) (fun _ _ => rfl) ?_
    refine q_if_ne rfl (fun (hc1 : (s_in (Int32.toInt64 y) (0 : Int64) (1 : Int64)) = 0) => ?_) (fun (hc1 : ¬ ((s_in (Int32.toInt64 y) (0 : Int64) (1 : Int64)) = 0)) => ?_)
    · refine q_ret 2 (some (.int (Int32.ofInt (-1))), g, u) (fun _ _ => rfl) ?_
      rfl
    · exact absurd (show v_one n x ∧ v_rg 0 1 y from ⟨vo_r hn h6 hc0, vr_r (lo := 0) (hi := 1) (by omega) (by omega) hc1⟩) hb
theorem cb_wish {n W H : Nat} (g : qM) (u : qW) (hn : g 20 3 = Int32.ofNat n) (hW : g 20 0 = Int32.ofNat W) (hH : g 20 1 = Int32.ofNat H) (h6 : n ≤ 6) (h25 : W * H ≤ 25) (x : Int32) (hb : ¬ (v_one n x)) : q_BS 65 [.ref 8, .int x] g u (some (.int (Int32.ofInt (-1))), g, u) := by
  refine q_bx (mm := m_65) rfl (Nat.le_of_ble_eq_true rfl) rfl ?_
  refine q_step 3 5 [(0, .ref 8), (1, .int x)] [.int x, .ref 20] g u (fun big n0 => sg_ba_8 big n0 g u x) ?_
  refine q_call (M2 := 40) (rest := []) (b_hasOne _ _ _) (fun _ _ => rfl) ?_
  refine q_if_ne rfl (fun (hc0 : (d_hasOne x g) = 0) => ?_) (fun (hc0 : ¬ ((d_hasOne x g) = 0)) => ?_)
  · refine q_ret 2 (some (.int (Int32.ofInt (-1))), g, u) (fun _ _ => rfl) ?_
    rfl
  · exact absurd (vo_c hn h6 hc0) hb
theorem rb_wish {n W H : Nat} (g : qM) (u : qW) (hn : g 70 4 = Int32.ofNat n) (hW : g 70 2 = Int32.ofNat W) (hH : g 70 3 = Int32.ofNat H) (h6 : n ≤ 6) (h25 : W * H ≤ 25) (x : Int32) (hb : ¬ (v_one n x)) : q_BS 188 [.ref 70, .int x] g u (some (.int (Int32.ofInt (-1))), g, u) := by
  refine q_bx (mm := m_188) rfl (Nat.le_of_ble_eq_true rfl) rfl ?_
  refine q_step 2 2 [(0, .ref 70), (1, .int x)] [.int x, .ref 70] g u (fun big n0 => sg_ba_9 big n0 g u x) ?_
  refine q_call (M2 := 169) (rest := []) (b_risOne _ _ _) (fun _ _ => rfl) ?_
  refine q_if_ne rfl (fun (hc0 : (d_risOne x g) = 0) => ?_) (fun (hc0 : ¬ ((d_risOne x g) = 0)) => ?_)
  · refine q_ret 2 (some (.int (Int32.ofInt (-1))), g, u) (fun _ _ => rfl) ?_
    rfl
  · exact absurd (vo_r hn h6 hc0) hb
theorem cb_go {n W H : Nat} (g : qM) (u : qW) (hn : g 20 3 = Int32.ofNat n) (hW : g 20 0 = Int32.ofNat W) (hH : g 20 1 = Int32.ofNat H) (h6 : n ≤ 6) (h25 : W * H ≤ 25) (x : Int32) (hb : ¬ (v_rg 0 60 x)) : q_BS 75 [.ref 8, .int x] g u (some (.int (Int32.ofInt (-1))), g, u) := by
  refine q_bx (mm := m_75) rfl (Nat.le_of_ble_eq_true rfl) rfl ?_
  refine q_step 1 1 [(0, .ref 8), (1, .int x)] [.int x] g u (fun big n0 => sg_ba_10 big n0 g u x) ?_
  refine q_if_lt rfl (fun (hc0 : x < 0) => ?_) (fun (hc0 : ¬ (x < 0)) => ?_)
  · refine q_ret 2 (some (.int (Int32.ofInt (-1))), g, u) (fun _ _ => rfl) ?_
    rfl
  · refine q_step 2 7 [(0, .ref 8), (1, .int x)] [.int (60 : Int32), .int x] g u (fun big n0 => sg_ba_11 big n0 g u x) ?_
    refine q_ic_le rfl (fun (hc1 : x ≤ (60 : Int32)) => ?_) (fun (hc1 : ¬ (x ≤ (60 : Int32))) => ?_)
    · exact absurd (vr_c' (lo := 0) (hi := 60) (by omega) (by omega) hc0 hc1) hb
    · refine q_ret 2 (some (.int (Int32.ofInt (-1))), g, u) (fun _ _ => rfl) ?_
      rfl
theorem rb_go {n W H : Nat} (g : qM) (u : qW) (hn : g 70 4 = Int32.ofNat n) (hW : g 70 2 = Int32.ofNat W) (hH : g 70 3 = Int32.ofNat H) (h6 : n ≤ 6) (h25 : W * H ≤ 25) (x : Int32) (hb : ¬ (v_rg 0 60 x)) : q_BS 196 [.ref 70, .int x] g u (some (.int (Int32.ofInt (-1))), g, u) := by
  refine q_bx (mm := m_196) rfl (Nat.le_of_ble_eq_true rfl) rfl ?_
  refine q_step 4 6 [(0, .ref 70), (1, .int x)] [.long (60 : Int64), .long (0 : Int64), .long (Int32.toInt64 x)] g u (fun big n0 => sg_ba_12 big n0 g u x) ?_
  refine q_call (M2 := 149) (rest := []) (b_in _ _ _ _ _) (fun _ _ => rfl) ?_
  refine q_if_ne rfl (fun (hc0 : (s_in (Int32.toInt64 x) (0 : Int64) (60 : Int64)) = 0) => ?_) (fun (hc0 : ¬ ((s_in (Int32.toInt64 x) (0 : Int64) (60 : Int64)) = 0)) => ?_)
  · refine q_ret 2 (some (.int (Int32.ofInt (-1))), g, u) (fun _ _ => rfl) ?_
    rfl
  · exact absurd (vr_r (lo := 0) (hi := 60) (by omega) (by omega) hc0) hb
theorem cb_ahead {n W H : Nat} (g : qM) (u : qW) (hn : g 20 3 = Int32.ofNat n) (hW : g 20 0 = Int32.ofNat W) (hH : g 20 1 = Int32.ofNat H) (h6 : n ≤ 6) (h25 : W * H ≤ 25) (x : Int32) (y : Int32) (z : Int32) (hb : ¬ (v_one n x ∧ v_rg 0 60 y ∧ v_rg 0 1 z)) : q_BS 79 [.ref 8, .int x, .int y, .int z] g u (some (.int (Int32.ofInt (-1))), g, u) := by
  refine q_bx (mm := m_79) rfl (Nat.le_of_ble_eq_true rfl) rfl ?_
  refine q_step 3 5 [(0, .ref 8), (1, .int x), (2, .int y), (3, .int z)] [.int x, .ref 20] g u (fun big n0 => sg_ba_13 big n0 g u x y z) ?_
  refine q_call (M2 := 40) (rest := []) (b_hasOne _ _ _) (fun _ _ => rfl) ?_
  refine q_if_eq rfl (fun (hc0 : (d_hasOne x g) = 0) => ?_) (fun (hc0 : ¬ ((d_hasOne x g) = 0)) => ?_)
  · refine q_ret 2 (some (.int (Int32.ofInt (-1))), g, u) (fun _ _ => rfl) ?_
    rfl
  · refine q_step 1 12 [(0, .ref 8), (1, .int x), (2, .int y), (3, .int z)] [.int y] g u (fun big n0 => sg_ba_14 big n0 g u x y z) ?_
    refine q_if_lt rfl (fun (hc1 : y < 0) => ?_) (fun (hc1 : ¬ (y < 0)) => ?_)
    · refine q_ret 2 (some (.int (Int32.ofInt (-1))), g, u) (fun _ _ => rfl) ?_
      rfl
    · refine q_step 2 18 [(0, .ref 8), (1, .int x), (2, .int y), (3, .int z)] [.int (60 : Int32), .int y] g u (fun big n0 => sg_ba_15 big n0 g u x y z) ?_
      refine q_ic_gt rfl (fun (hc2 : (60 : Int32) < y) => ?_) (fun (hc2 : ¬ ((60 : Int32) < y)) => ?_)
      · refine q_ret 2 (some (.int (Int32.ofInt (-1))), g, u) (fun _ _ => rfl) ?_
        rfl
      · refine q_step 1 22 [(0, .ref 8), (1, .int x), (2, .int y), (3, .int z)] [.int z] g u (fun big n0 => sg_ba_16 big n0 g u x y z) ?_
        refine q_call (M2 := 57) (rest := []) (b_isHalf _ _ _) (fun _ _ => rfl) ?_
        refine q_if_ne rfl (fun (hc3 : (d_isHalf z g) = 0) => ?_) (fun (hc3 : ¬ ((d_isHalf z g) = 0)) => ?_)
        · refine q_ret 2 (some (.int (Int32.ofInt (-1))), g, u) (fun _ _ => rfl) ?_
          rfl
        · exact absurd (show v_one n x ∧ v_rg 0 60 y ∧ v_rg 0 1 z from ⟨vo_c hn h6 hc0, vr_c (lo := 0) (hi := 60) (by omega) (by omega) hc1 hc2, vr_half hc3⟩) hb
theorem rb_ahead {n W H : Nat} (g : qM) (u : qW) (hn : g 70 4 = Int32.ofNat n) (hW : g 70 2 = Int32.ofNat W) (hH : g 70 3 = Int32.ofNat H) (h6 : n ≤ 6) (h25 : W * H ≤ 25) (x : Int32) (y : Int32) (z : Int32) (hb : ¬ (v_one n x ∧ v_rg 0 60 y ∧ v_rg 0 1 z)) : q_BS 198 [.ref 70, .int x, .int y, .int z] g u (some (.int (Int32.ofInt (-1))), g, u) := by
  refine q_bx (mm := m_198) rfl (Nat.le_of_ble_eq_true rfl) rfl ?_
  refine q_step 2 2 [(0, .ref 70), (1, .int x), (2, .int y), (3, .int z)] [.int x, .ref 70] g u (fun big n0 => sg_ba_17 big n0 g u x y z) ?_
  refine q_call (M2 := 169) (rest := []) (b_risOne _ _ _) (fun _ _ => rfl) ?_
  refine q_if_eq rfl (fun (hc0 : (d_risOne x g) = 0) => ?_) (fun (hc0 : ¬ ((d_risOne x g) = 0)) => ?_)
  · refine q_ret 2 (some (.int (Int32.ofInt (-1))), g, u) (fun _ _ => rfl) ?_
    rfl
  · refine q_step 4 14 [(0, .ref 70), (1, .int x), (2, .int y), (3, .int z)] [.long (60 : Int64), .long (0 : Int64), .long (Int32.toInt64 y)] g u (fun big n0 => sg_ba_18 big n0 g u x y z) ?_
    refine q_call (M2 := 149) (rest := []) (b_in _ _ _ _ _) (fun _ _ => rfl) ?_
    refine q_if_eq rfl (fun (hc1 : (s_in (Int32.toInt64 y) (0 : Int64) (60 : Int64)) = 0) => ?_) (fun (hc1 : ¬ ((s_in (Int32.toInt64 y) (0 : Int64) (60 : Int64)) = 0)) => ?_)
    · refine q_ret 2 (some (.int (Int32.ofInt (-1))), g, u) (fun _ _ => rfl) ?_
      rfl
    · refine q_step 4 24 [(0, .ref 70), (1, .int x), (2, .int y), (3, .int z)] [.long (1 : Int64), .long (0 : Int64), .long (Int32.toInt64 z)] g u (fun big n0 => sg_ba_19 big n0 g u x y z) ?_
      refine q_call (M2 := 149) (rest := []) (b_in _ _ _ _ _) (fun _ _ => rfl) ?_
      refine q_if_ne rfl (fun (hc2 : (s_in (Int32.toInt64 z) (0 : Int64) (1 : Int64)) = 0) => ?_) (fun (hc2 : ¬ ((s_in (Int32.toInt64 z) (0 : Int64) (1 : Int64)) = 0)) => ?_)
      · refine q_ret 2 (some (.int (Int32.ofInt (-1))), g, u) (fun _ _ => rfl) ?_
        rfl
      · exact absurd (show v_one n x ∧ v_rg 0 60 y ∧ v_rg 0 1 z from ⟨vo_r hn h6 hc0, vr_r (lo := 0) (hi := 60) (by omega) (by omega) hc1, vr_r (lo := 0) (hi := 1) (by omega) (by omega) hc2⟩) hb
theorem cb_again {n W H : Nat} (g : qM) (u : qW) (hn : g 20 3 = Int32.ofNat n) (hW : g 20 0 = Int32.ofNat W) (hH : g 20 1 = Int32.ofNat H) (h6 : n ≤ 6) (h25 : W * H ≤ 25) (x : Int32) (hb : ¬ (v_rg 0 1 x)) : q_BS 84 [.ref 8, .int x] g u (some (.int (Int32.ofInt (-1))), g, u) := by
  refine q_bx (mm := m_84) rfl (Nat.le_of_ble_eq_true rfl) rfl ?_
  refine q_step 1 1 [(0, .ref 8), (1, .int x)] [.int x] g u (fun big n0 => sg_ba_20 big n0 g u x) ?_
  refine q_call (M2 := 57) (rest := []) (b_isHalf _ _ _) (fun _ _ => rfl) ?_
  refine q_if_ne rfl (fun (hc0 : (d_isHalf x g) = 0) => ?_) (fun (hc0 : ¬ ((d_isHalf x g) = 0)) => ?_)
  · refine q_ret 2 (some (.int (Int32.ofInt (-1))), g, u) (fun _ _ => rfl) ?_
    rfl
  · exact absurd (vr_half hc0) hb
theorem rb_again {n W H : Nat} (g : qM) (u : qW) (hn : g 70 4 = Int32.ofNat n) (hW : g 70 2 = Int32.ofNat W) (hH : g 70 3 = Int32.ofNat H) (h6 : n ≤ 6) (h25 : W * H ≤ 25) (x : Int32) (hb : ¬ (v_rg 0 1 x)) : q_BS 200 [.ref 70, .int x] g u (some (.int (Int32.ofInt (-1))), g, u) := by
  refine q_bx (mm := m_200) rfl (Nat.le_of_ble_eq_true rfl) rfl ?_
  refine q_step 4 4 [(0, .ref 70), (1, .int x)] [.long (1 : Int64), .long (0 : Int64), .long (Int32.toInt64 x)] g u (fun big n0 => sg_ba_21 big n0 g u x) ?_
  refine q_call (M2 := 149) (rest := []) (b_in _ _ _ _ _) (fun _ _ => rfl) ?_
  refine q_if_ne rfl (fun (hc0 : (s_in (Int32.toInt64 x) (0 : Int64) (1 : Int64)) = 0) => ?_) (fun (hc0 : ¬ ((s_in (Int32.toInt64 x) (0 : Int64) (1 : Int64)) = 0)) => ?_)
  · refine q_ret 2 (some (.int (Int32.ofInt (-1))), g, u) (fun _ _ => rfl) ?_
    rfl
  · exact absurd (vr_r (lo := 0) (hi := 1) (by omega) (by omega) hc0) hb
theorem cb_calm {n W H : Nat} (g : qM) (u : qW) (hn : g 20 3 = Int32.ofNat n) (hW : g 20 0 = Int32.ofNat W) (hH : g 20 1 = Int32.ofNat H) (h6 : n ≤ 6) (h25 : W * H ≤ 25) (x : Int32) (hb : ¬ (v_one n x)) : q_BS 104 [.ref 8, .int x] g u (some (.int (Int32.ofInt (-1))), g, u) := by
  refine q_bx (mm := m_104) rfl (Nat.le_of_ble_eq_true rfl) rfl ?_
  refine q_step 3 5 [(0, .ref 8), (1, .int x)] [.int x, .ref 20] g u (fun big n0 => sg_ba_22 big n0 g u x) ?_
  refine q_call (M2 := 40) (rest := []) (b_hasOne _ _ _) (fun _ _ => rfl) ?_
  refine q_if_eq rfl (fun (hc0 : (d_hasOne x g) = 0) => ?_) (fun (hc0 : ¬ ((d_hasOne x g) = 0)) => ?_)
  · refine q_ret 2 (some (.int (Int32.ofInt (-1))), g, u) (fun _ _ => rfl) ?_
    rfl
  · exact absurd (vo_c hn h6 hc0) hb
theorem rb_calm {n W H : Nat} (g : qM) (u : qW) (hn : g 70 4 = Int32.ofNat n) (hW : g 70 2 = Int32.ofNat W) (hH : g 70 3 = Int32.ofNat H) (h6 : n ≤ 6) (h25 : W * H ≤ 25) (x : Int32) (hb : ¬ (v_one n x)) : q_BS 207 [.ref 70, .int x] g u (some (.int (Int32.ofInt (-1))), g, u) := by
  refine q_bx (mm := m_207) rfl (Nat.le_of_ble_eq_true rfl) rfl ?_
  refine q_step 2 2 [(0, .ref 70), (1, .int x)] [.int x, .ref 70] g u (fun big n0 => sg_ba_23 big n0 g u x) ?_
  refine q_call (M2 := 169) (rest := []) (b_risOne _ _ _) (fun _ _ => rfl) ?_
  refine q_if_ne rfl (fun (hc0 : (d_risOne x g) = 0) => ?_) (fun (hc0 : ¬ ((d_risOne x g) = 0)) => ?_)
  · refine q_ret 2 (some (.int (Int32.ofInt (-1))), g, u) (fun _ _ => rfl) ?_
    rfl
  · exact absurd (vo_r hn h6 hc0) hb
theorem cb_hang {n W H : Nat} (g : qM) (u : qW) (hn : g 20 3 = Int32.ofNat n) (hW : g 20 0 = Int32.ofNat W) (hH : g 20 1 = Int32.ofNat H) (h6 : n ≤ 6) (h25 : W * H ≤ 25) (x : Int32) (y : Int32) (z : Int32) (hb : ¬ (v_rg 1 3 x ∧ v_rg 0 12 y ∧ v_rg 0 1 z)) : q_BS 110 [.ref 8, .int x, .int y, .int z] g u (some (.int (Int32.ofInt (-1))), g, u) := by
  refine q_bx (mm := m_110) rfl (Nat.le_of_ble_eq_true rfl) rfl ?_
  refine q_step 2 2 [(0, .ref 8), (1, .int x), (2, .int y), (3, .int z)] [.int (1 : Int32), .int x] g u (fun big n0 => sg_ba_24 big n0 g u x y z) ?_
  refine q_ic_lt rfl (fun (hc0 : x < (1 : Int32)) => ?_) (fun (hc0 : ¬ (x < (1 : Int32))) => ?_)
  · refine q_ret 2 (some (.int (Int32.ofInt (-1))), g, u) (fun _ _ => rfl) ?_
    rfl
  · refine q_step 2 7 [(0, .ref 8), (1, .int x), (2, .int y), (3, .int z)] [.int (3 : Int32), .int x] g u (fun big n0 => sg_ba_25 big n0 g u x y z) ?_
    refine q_ic_gt rfl (fun (hc1 : (3 : Int32) < x) => ?_) (fun (hc1 : ¬ ((3 : Int32) < x)) => ?_)
    · refine q_ret 2 (some (.int (Int32.ofInt (-1))), g, u) (fun _ _ => rfl) ?_
      rfl
    · refine q_step 1 11 [(0, .ref 8), (1, .int x), (2, .int y), (3, .int z)] [.int y] g u (fun big n0 => sg_ba_26 big n0 g u x y z) ?_
      refine q_call (M2 := 90) (rest := []) (b_isSearched _ _ _) (fun _ _ => rfl) ?_
      refine q_if_eq rfl (fun (hc2 : (d_isSearched y g) = 0) => ?_) (fun (hc2 : ¬ ((d_isSearched y g) = 0)) => ?_)
      · refine q_ret 2 (some (.int (Int32.ofInt (-1))), g, u) (fun _ _ => rfl) ?_
        rfl
      · refine q_step 1 18 [(0, .ref 8), (1, .int x), (2, .int y), (3, .int z)] [.int z] g u (fun big n0 => sg_ba_27 big n0 g u x y z) ?_
        refine q_call (M2 := 57) (rest := []) (b_isHalf _ _ _) (fun _ _ => rfl) ?_
        refine q_if_ne rfl (fun (hc3 : (d_isHalf z g) = 0) => ?_) (fun (hc3 : ¬ ((d_isHalf z g) = 0)) => ?_)
        · refine q_ret 2 (some (.int (Int32.ofInt (-1))), g, u) (fun _ _ => rfl) ?_
          rfl
        · exact absurd (show v_rg 1 3 x ∧ v_rg 0 12 y ∧ v_rg 0 1 z from ⟨vr_c (lo := 1) (hi := 3) (by omega) (by omega) hc0 hc1, vr_srch hc2, vr_half hc3⟩) hb
theorem rb_hang {n W H : Nat} (g : qM) (u : qW) (hn : g 70 4 = Int32.ofNat n) (hW : g 70 2 = Int32.ofNat W) (hH : g 70 3 = Int32.ofNat H) (h6 : n ≤ 6) (h25 : W * H ≤ 25) (x : Int32) (y : Int32) (z : Int32) (hb : ¬ (v_rg 1 3 x ∧ v_rg 0 12 y ∧ v_rg 0 1 z)) : q_BS 209 [.ref 70, .int x, .int y, .int z] g u (some (.int (Int32.ofInt (-1))), g, u) := by
  refine q_bx (mm := m_209) rfl (Nat.le_of_ble_eq_true rfl) rfl ?_
  refine q_step 4 6 [(0, .ref 70), (1, .int x), (2, .int y), (3, .int z)] [.long (3 : Int64), .long (1 : Int64), .long (Int32.toInt64 x)] g u (fun big n0 => sg_ba_28 big n0 g u x y z) ?_
  refine q_call (M2 := 149) (rest := []) (b_in _ _ _ _ _) (fun _ _ => rfl) ?_
  refine q_if_eq rfl (fun (hc0 : (s_in (Int32.toInt64 x) (1 : Int64) (3 : Int64)) = 0) => ?_) (fun (hc0 : ¬ ((s_in (Int32.toInt64 x) (1 : Int64) (3 : Int64)) = 0)) => ?_)
  · refine q_ret 2 (some (.int (Int32.ofInt (-1))), g, u) (fun _ _ => rfl) ?_
    rfl
  · refine q_step 4 18 [(0, .ref 70), (1, .int x), (2, .int y), (3, .int z)] [.long (12 : Int64), .long (0 : Int64), .long (Int32.toInt64 y)] g u (fun big n0 => sg_ba_29 big n0 g u x y z) ?_
    refine q_call (M2 := 149) (rest := []) (b_in _ _ _ _ _) (fun _ _ => rfl) ?_
    refine q_if_eq rfl (fun (hc1 : (s_in (Int32.toInt64 y) (0 : Int64) (12 : Int64)) = 0) => ?_) (fun (hc1 : ¬ ((s_in (Int32.toInt64 y) (0 : Int64) (12 : Int64)) = 0)) => ?_)
    · refine q_ret 2 (some (.int (Int32.ofInt (-1))), g, u) (fun _ _ => rfl) ?_
      rfl
    · refine q_step 4 28 [(0, .ref 70), (1, .int x), (2, .int y), (3, .int z)] [.long (1 : Int64), .long (0 : Int64), .long (Int32.toInt64 z)] g u (fun big n0 => sg_ba_30 big n0 g u x y z) ?_
      refine q_call (M2 := 149) (rest := []) (b_in _ _ _ _ _) (fun _ _ => rfl) ?_
      refine q_if_ne rfl (fun (hc2 : (s_in (Int32.toInt64 z) (0 : Int64) (1 : Int64)) = 0) => ?_) (fun (hc2 : ¬ ((s_in (Int32.toInt64 z) (0 : Int64) (1 : Int64)) = 0)) => ?_)
      · refine q_ret 2 (some (.int (Int32.ofInt (-1))), g, u) (fun _ _ => rfl) ?_
        rfl
      · exact absurd (show v_rg 1 3 x ∧ v_rg 0 12 y ∧ v_rg 0 1 z from ⟨vr_r (lo := 1) (hi := 3) (by omega) (by omega) hc0, vr_r (lo := 0) (hi := 12) (by omega) (by omega) hc1, vr_r (lo := 0) (hi := 1) (by omega) (by omega) hc2⟩) hb
theorem cb_odds {n W H : Nat} (g : qM) (u : qW) (hn : g 20 3 = Int32.ofNat n) (hW : g 20 0 = Int32.ofNat W) (hH : g 20 1 = Int32.ofNat H) (h6 : n ≤ 6) (h25 : W * H ≤ 25) (x : Int32) (y : Int32) (z : Int32) (hb : ¬ (v_rg 0 10 x ∧ v_rg 0 12 y ∧ v_rg 0 1 z)) : q_BS 112 [.ref 8, .int x, .int y, .int z] g u (some (.long (Int64.ofInt (-1))), g, u) := by
  refine q_bx (mm := m_112) rfl (Nat.le_of_ble_eq_true rfl) rfl ?_
  refine q_step 1 1 [(0, .ref 8), (1, .int x), (2, .int y), (3, .int z)] [.int x] g u (fun big n0 => sg_ba_31 big n0 g u x y z) ?_
  refine q_if_lt rfl (fun (hc0 : x < 0) => ?_) (fun (hc0 : ¬ (x < 0)) => ?_)
  · refine q_ret 2 (some (.long (Int64.ofInt (-1))), g, u) (fun _ _ => rfl) ?_
    rfl
  · refine q_step 2 7 [(0, .ref 8), (1, .int x), (2, .int y), (3, .int z)] [.int (10 : Int32), .int x] g u (fun big n0 => sg_ba_32 big n0 g u x y z) ?_
    refine q_ic_gt rfl (fun (hc1 : (10 : Int32) < x) => ?_) (fun (hc1 : ¬ ((10 : Int32) < x)) => ?_)
    · refine q_ret 2 (some (.long (Int64.ofInt (-1))), g, u) (fun _ _ => rfl) ?_
      rfl
    · refine q_step 1 11 [(0, .ref 8), (1, .int x), (2, .int y), (3, .int z)] [.int y] g u (fun big n0 => sg_ba_33 big n0 g u x y z) ?_
      refine q_call (M2 := 90) (rest := []) (b_isSearched _ _ _) (fun _ _ => rfl) ?_
      refine q_if_eq rfl (fun (hc2 : (d_isSearched y g) = 0) => ?_) (fun (hc2 : ¬ ((d_isSearched y g) = 0)) => ?_)
      · refine q_ret 2 (some (.long (Int64.ofInt (-1))), g, u) (fun _ _ => rfl) ?_
        rfl
      · refine q_step 1 18 [(0, .ref 8), (1, .int x), (2, .int y), (3, .int z)] [.int z] g u (fun big n0 => sg_ba_34 big n0 g u x y z) ?_
        refine q_call (M2 := 57) (rest := []) (b_isHalf _ _ _) (fun _ _ => rfl) ?_
        refine q_if_ne rfl (fun (hc3 : (d_isHalf z g) = 0) => ?_) (fun (hc3 : ¬ ((d_isHalf z g) = 0)) => ?_)
        · refine q_ret 2 (some (.long (Int64.ofInt (-1))), g, u) (fun _ _ => rfl) ?_
          rfl
        · exact absurd (show v_rg 0 10 x ∧ v_rg 0 12 y ∧ v_rg 0 1 z from ⟨vr_c (lo := 0) (hi := 10) (by omega) (by omega) hc0 hc1, vr_srch hc2, vr_half hc3⟩) hb
theorem rb_odds {n W H : Nat} (g : qM) (u : qW) (hn : g 70 4 = Int32.ofNat n) (hW : g 70 2 = Int32.ofNat W) (hH : g 70 3 = Int32.ofNat H) (h6 : n ≤ 6) (h25 : W * H ≤ 25) (x : Int32) (y : Int32) (z : Int32) (hb : ¬ (v_rg 0 10 x ∧ v_rg 0 12 y ∧ v_rg 0 1 z)) : q_BS 210 [.ref 70, .int x, .int y, .int z] g u (some (.long (Int64.ofInt (-1))), g, u) := by
  refine q_bx (mm := m_210) rfl (Nat.le_of_ble_eq_true rfl) rfl ?_
  refine q_step 4 6 [(0, .ref 70), (1, .int x), (2, .int y), (3, .int z)] [.long (10 : Int64), .long (0 : Int64), .long (Int32.toInt64 x)] g u (fun big n0 => sg_ba_35 big n0 g u x y z) ?_
  refine q_call (M2 := 149) (rest := []) (b_in _ _ _ _ _) (fun _ _ => rfl) ?_
  refine q_if_eq rfl (fun (hc0 : (s_in (Int32.toInt64 x) (0 : Int64) (10 : Int64)) = 0) => ?_) (fun (hc0 : ¬ ((s_in (Int32.toInt64 x) (0 : Int64) (10 : Int64)) = 0)) => ?_)
  · refine q_ret 2 (some (.long (Int64.ofInt (-1))), g, u) (fun _ _ => rfl) ?_
    rfl
  · refine q_step 4 18 [(0, .ref 70), (1, .int x), (2, .int y), (3, .int z)] [.long (12 : Int64), .long (0 : Int64), .long (Int32.toInt64 y)] g u (fun big n0 => sg_ba_36 big n0 g u x y z) ?_
    refine q_call (M2 := 149) (rest := []) (b_in _ _ _ _ _) (fun _ _ => rfl) ?_
    refine q_if_eq rfl (fun (hc1 : (s_in (Int32.toInt64 y) (0 : Int64) (12 : Int64)) = 0) => ?_) (fun (hc1 : ¬ ((s_in (Int32.toInt64 y) (0 : Int64) (12 : Int64)) = 0)) => ?_)
    · refine q_ret 2 (some (.long (Int64.ofInt (-1))), g, u) (fun _ _ => rfl) ?_
      rfl
    · refine q_step 4 28 [(0, .ref 70), (1, .int x), (2, .int y), (3, .int z)] [.long (1 : Int64), .long (0 : Int64), .long (Int32.toInt64 z)] g u (fun big n0 => sg_ba_37 big n0 g u x y z) ?_
      refine q_call (M2 := 149) (rest := []) (b_in _ _ _ _ _) (fun _ _ => rfl) ?_
      refine q_if_ne rfl (fun (hc2 : (s_in (Int32.toInt64 z) (0 : Int64) (1 : Int64)) = 0) => ?_) (fun (hc2 : ¬ ((s_in (Int32.toInt64 z) (0 : Int64) (1 : Int64)) = 0)) => ?_)
      · refine q_ret 2 (some (.long (Int64.ofInt (-1))), g, u) (fun _ _ => rfl) ?_
        rfl
      · exact absurd (show v_rg 0 10 x ∧ v_rg 0 12 y ∧ v_rg 0 1 z from ⟨vr_r (lo := 0) (hi := 10) (by omega) (by omega) hc0, vr_r (lo := 0) (hi := 12) (by omega) (by omega) hc1, vr_r (lo := 0) (hi := 1) (by omega) (by omega) hc2⟩) hb
theorem cb_crowd {n W H : Nat} (g : qM) (u : qW) (hn : g 20 3 = Int32.ofNat n) (hW : g 20 0 = Int32.ofNat W) (hH : g 20 1 = Int32.ofNat H) (h6 : n ≤ 6) (h25 : W * H ≤ 25) (x : Int32) (y : Int32) (hb : ¬ (v_rg 1 60 y)) : q_BS 125 [.ref 8, .int x, .int y] g u (some (.int (Int32.ofInt (-1))), g, u) := by
  refine q_bx (mm := m_125) rfl (Nat.le_of_ble_eq_true rfl) rfl ?_
  refine q_step 2 2 [(0, .ref 8), (1, .int x), (2, .int y)] [.int (1 : Int32), .int y] g u (fun big n0 => sg_ba_38 big n0 g u x y) ?_
  refine q_ic_lt rfl (fun (hc0 : y < (1 : Int32)) => ?_) (fun (hc0 : ¬ (y < (1 : Int32))) => ?_)
  · refine q_ret 2 (some (.int (Int32.ofInt (-1))), g, u) (fun _ _ => rfl) ?_
    rfl
  · refine q_step 2 8 [(0, .ref 8), (1, .int x), (2, .int y)] [.int (60 : Int32), .int y] g u (fun big n0 => sg_ba_39 big n0 g u x y) ?_
    refine q_ic_le rfl (fun (hc1 : y ≤ (60 : Int32)) => ?_) (fun (hc1 : ¬ (y ≤ (60 : Int32))) => ?_)
    · exact absurd (vr_c' (lo := 1) (hi := 60) (by omega) (by omega) hc0 hc1) hb
    · refine q_ret 2 (some (.int (Int32.ofInt (-1))), g, u) (fun _ _ => rfl) ?_
      rfl
theorem rb_crowd {n W H : Nat} (g : qM) (u : qW) (hn : g 70 4 = Int32.ofNat n) (hW : g 70 2 = Int32.ofNat W) (hH : g 70 3 = Int32.ofNat H) (h6 : n ≤ 6) (h25 : W * H ≤ 25) (x : Int32) (y : Int32) (hb : ¬ (v_rg 1 60 y)) : q_BS 215 [.ref 70, .int x, .int y] g u (some (.int (Int32.ofInt (-1))), g, u) := by
  refine q_bx (mm := m_215) rfl (Nat.le_of_ble_eq_true rfl) rfl ?_
  refine q_step 4 6 [(0, .ref 70), (1, .int x), (2, .int y)] [.long (60 : Int64), .long (1 : Int64), .long (Int32.toInt64 y)] g u (fun big n0 => sg_ba_40 big n0 g u x y) ?_
  refine q_call (M2 := 149) (rest := []) (b_in _ _ _ _ _) (fun _ _ => rfl) ?_
  refine q_if_ne rfl (fun (hc0 : (s_in (Int32.toInt64 y) (1 : Int64) (60 : Int64)) = 0) => ?_) (fun (hc0 : ¬ ((s_in (Int32.toInt64 y) (1 : Int64) (60 : Int64)) = 0)) => ?_)
  · refine q_ret 2 (some (.int (Int32.ofInt (-1))), g, u) (fun _ _ => rfl) ?_
    rfl
  · exact absurd (vr_r (lo := 1) (hi := 60) (by omega) (by omega) hc0) hb
theorem cb_mood {n W H : Nat} (g : qM) (u : qW) (hn : g 20 3 = Int32.ofNat n) (hW : g 20 0 = Int32.ofNat W) (hH : g 20 1 = Int32.ofNat H) (h6 : n ≤ 6) (h25 : W * H ≤ 25) (x : Int32) (y : Int32) (hb : ¬ (v_one n x ∧ v_rg 0 3 y)) : q_BS 47 [.ref 8, .int x, .int y] g u (some (.int (Int32.ofInt (-1))), g, u) := by
  refine q_bx (mm := m_47) rfl (Nat.le_of_ble_eq_true rfl) rfl ?_
  refine q_step 3 5 [(0, .ref 8), (1, .int x), (2, .int y)] [.int x, .ref 20] g u (fun big n0 => sg_ba_41 big n0 g u x y) ?_
  refine q_call (M2 := 40) (rest := []) (b_hasOne _ _ _) (fun _ _ => rfl) ?_
  refine q_if_eq rfl (fun (hc0 : (d_hasOne x g) = 0) => ?_) (fun (hc0 : ¬ ((d_hasOne x g) = 0)) => ?_)
  · refine q_ret 2 (some (.int (Int32.ofInt (-1))), g, u) (fun _ _ => rfl) ?_
    rfl
  · refine q_step 1 12 [(0, .ref 8), (1, .int x), (2, .int y)] [.int y] g u (fun big n0 => sg_ba_42 big n0 g u x y) ?_
    refine q_call (M2 := 48) (rest := []) (b_isMood _ _ _) (fun _ _ => rfl) ?_
    refine q_if_ne rfl (fun (hc1 : (d_isMood y g) = 0) => ?_) (fun (hc1 : ¬ ((d_isMood y g) = 0)) => ?_)
    · refine q_ret 2 (some (.int (Int32.ofInt (-1))), g, u) (fun _ _ => rfl) ?_
      rfl
    · exact absurd (show v_one n x ∧ v_rg 0 3 y from ⟨vo_c hn h6 hc0, vr_mood hc1⟩) hb
theorem rb_mood {n W H : Nat} (g : qM) (u : qW) (hn : g 70 4 = Int32.ofNat n) (hW : g 70 2 = Int32.ofNat W) (hH : g 70 3 = Int32.ofNat H) (h6 : n ≤ 6) (h25 : W * H ≤ 25) (x : Int32) (y : Int32) (hb : ¬ (v_one n x ∧ v_rg 0 3 y)) : q_BS 174 [.ref 70, .int x, .int y] g u (some (.int (Int32.ofInt (-1))), g, u) := by
  refine q_bx (mm := m_174) rfl (Nat.le_of_ble_eq_true rfl) rfl ?_
  refine q_step 2 2 [(0, .ref 70), (1, .int x), (2, .int y)] [.int x, .ref 70] g u (fun big n0 => sg_ba_43 big n0 g u x y) ?_
  refine q_call (M2 := 169) (rest := []) (b_risOne _ _ _) (fun _ _ => rfl) ?_
  refine q_if_eq rfl (fun (hc0 : (d_risOne x g) = 0) => ?_) (fun (hc0 : ¬ ((d_risOne x g) = 0)) => ?_)
  · refine q_ret 2 (some (.int (Int32.ofInt (-1))), g, u) (fun _ _ => rfl) ?_
    rfl
  · refine q_step 4 14 [(0, .ref 70), (1, .int x), (2, .int y)] [.long (3 : Int64), .long (0 : Int64), .long (Int32.toInt64 y)] g u (fun big n0 => sg_ba_44 big n0 g u x y) ?_
    refine q_call (M2 := 149) (rest := []) (b_in _ _ _ _ _) (fun _ _ => rfl) ?_
    refine q_if_eq rfl (fun (hc1 : (s_in (Int32.toInt64 y) (0 : Int64) (3 : Int64)) = 0) => ?_) (fun (hc1 : ¬ ((s_in (Int32.toInt64 y) (0 : Int64) (3 : Int64)) = 0)) => ?_)
    · refine q_ret 2 (some (.int (Int32.ofInt (-1))), g, u) (fun _ _ => rfl) ?_
      rfl
    · exact absurd (show v_one n x ∧ v_rg 0 3 y from ⟨vo_r hn h6 hc0, vr_r (lo := 0) (hi := 3) (by omega) (by omega) hc1⟩) hb
theorem cb_hold {n W H : Nat} (g : qM) (u : qW) (hn : g 20 3 = Int32.ofNat n) (hW : g 20 0 = Int32.ofNat W) (hH : g 20 1 = Int32.ofNat H) (h6 : n ≤ 6) (h25 : W * H ≤ 25) (x : Int32) (y : Int32) (hb : ¬ (v_one n x)) : q_BS 51 [.ref 8, .int x, .int y] g u (some (.int (Int32.ofInt (-1))), g, u) := by
  refine q_bx (mm := m_51) rfl (Nat.le_of_ble_eq_true rfl) rfl ?_
  refine q_step 3 5 [(0, .ref 8), (1, .int x), (2, .int y)] [.int x, .ref 20] g u (fun big n0 => sg_ba_45 big n0 g u x y) ?_
  refine q_call (M2 := 40) (rest := []) (b_hasOne _ _ _) (fun _ _ => rfl) ?_
  refine q_if_ne rfl (fun (hc0 : (d_hasOne x g) = 0) => ?_) (fun (hc0 : ¬ ((d_hasOne x g) = 0)) => ?_)
  · refine q_ret 2 (some (.int (Int32.ofInt (-1))), g, u) (fun _ _ => rfl) ?_
    rfl
  · exact absurd (vo_c hn h6 hc0) hb
theorem rb_hold {n W H : Nat} (g : qM) (u : qW) (hn : g 70 4 = Int32.ofNat n) (hW : g 70 2 = Int32.ofNat W) (hH : g 70 3 = Int32.ofNat H) (h6 : n ≤ 6) (h25 : W * H ≤ 25) (x : Int32) (y : Int32) (hb : ¬ (v_one n x)) : q_BS 178 [.ref 70, .int x, .int y] g u (some (.int (Int32.ofInt (-1))), g, u) := by
  refine q_bx (mm := m_178) rfl (Nat.le_of_ble_eq_true rfl) rfl ?_
  refine q_step 2 2 [(0, .ref 70), (1, .int x), (2, .int y)] [.int x, .ref 70] g u (fun big n0 => sg_ba_46 big n0 g u x y) ?_
  refine q_call (M2 := 169) (rest := []) (b_risOne _ _ _) (fun _ _ => rfl) ?_
  refine q_if_eq rfl (fun (hc0 : (d_risOne x g) = 0) => ?_) (fun (hc0 : ¬ ((d_risOne x g) = 0)) => ?_)
  · refine q_ret 2 (some (.int (Int32.ofInt (-1))), g, u) (fun _ _ => rfl) ?_
    rfl
  · exact absurd (vo_r hn h6 hc0) hb
theorem cb_press {n W H : Nat} (g : qM) (u : qW) (hn : g 20 3 = Int32.ofNat n) (hW : g 20 0 = Int32.ofNat W) (hH : g 20 1 = Int32.ofNat H) (h6 : n ≤ 6) (h25 : W * H ≤ 25) (x : Int32) (hb : ¬ (v_rg 0 4 x)) : q_BS 55 [.ref 8, .int x] g u (some (.int (Int32.ofInt (-1))), g, u) := by
  refine q_bx (mm := m_55) rfl (Nat.le_of_ble_eq_true rfl) rfl ?_
  refine q_step 1 1 [(0, .ref 8), (1, .int x)] [.int x] g u (fun big n0 => sg_ba_47 big n0 g u x) ?_
  refine q_if_lt rfl (fun (hc0 : x < 0) => ?_) (fun (hc0 : ¬ (x < 0)) => ?_)
  · refine q_ret 2 (some (.int (Int32.ofInt (-1))), g, u) (fun _ _ => rfl) ?_
    rfl
  · refine q_step 2 6 [(0, .ref 8), (1, .int x)] [.int (4 : Int32), .int x] g u (fun big n0 => sg_ba_48 big n0 g u x) ?_
    refine q_ic_le rfl (fun (hc1 : x ≤ (4 : Int32)) => ?_) (fun (hc1 : ¬ (x ≤ (4 : Int32))) => ?_)
    · refine q_step 1 12 [(0, .ref 8), (1, .int x)] [.ref 8] g u (fun big n0 => sg_ba_49 big n0 g u x) ?_
      exact absurd (vr_c' (lo := 0) (hi := 4) (by omega) (by omega) hc0 hc1) hb
    · refine q_ret 2 (some (.int (Int32.ofInt (-1))), g, u) (fun _ _ => rfl) ?_
      rfl
theorem rb_press {n W H : Nat} (g : qM) (u : qW) (hn : g 70 4 = Int32.ofNat n) (hW : g 70 2 = Int32.ofNat W) (hH : g 70 3 = Int32.ofNat H) (h6 : n ≤ 6) (h25 : W * H ≤ 25) (x : Int32) (hb : ¬ (v_rg 0 4 x)) : q_BS 182 [.ref 70, .int x] g u (some (.int (Int32.ofInt (-1))), g, u) := by
  refine q_bx (mm := m_182) rfl (Nat.le_of_ble_eq_true rfl) rfl ?_
  refine q_step 4 6 [(0, .ref 70), (1, .int x)] [.long (4 : Int64), .long (0 : Int64), .long (Int32.toInt64 x)] g u (fun big n0 => sg_ba_50 big n0 g u x) ?_
  refine q_call (M2 := 149) (rest := []) (b_in _ _ _ _ _) (fun _ _ => rfl) ?_
  refine q_if_eq rfl (fun (hc0 : (s_in (Int32.toInt64 x) (0 : Int64) (4 : Int64)) = 0) => ?_) (fun (hc0 : ¬ ((s_in (Int32.toInt64 x) (0 : Int64) (4 : Int64)) = 0)) => ?_)
  · refine q_ret 2 (some (.int (Int32.ofInt (-1))), g, u) (fun _ _ => rfl) ?_
    rfl
  · exact absurd (vr_r (lo := 0) (hi := 4) (by omega) (by omega) hc0) hb
theorem cb_pull {n W H : Nat} (g : qM) (u : qW) (hn : g 20 3 = Int32.ofNat n) (hW : g 20 0 = Int32.ofNat W) (hH : g 20 1 = Int32.ofNat H) (h6 : n ≤ 6) (h25 : W * H ≤ 25) (x : Int32) (y : Int32) (hb : ¬ (v_rg 1 4 x ∧ v_rg 0 9 y)) : q_BS 54 [.ref 8, .int x, .int y] g u (some (.int (Int32.ofInt (-1))), g, u) := by
  refine q_bx (mm := m_54) rfl (Nat.le_of_ble_eq_true rfl) rfl ?_
  refine q_step 2 2 [(0, .ref 8), (1, .int x), (2, .int y)] [.int (1 : Int32), .int x] g u (fun big n0 => sg_ba_51 big n0 g u x y) ?_
  refine q_ic_lt rfl (fun (hc0 : x < (1 : Int32)) => ?_) (fun (hc0 : ¬ (x < (1 : Int32))) => ?_)
  · refine q_ret 2 (some (.int (Int32.ofInt (-1))), g, u) (fun _ _ => rfl) ?_
    rfl
  · refine q_step 2 7 [(0, .ref 8), (1, .int x), (2, .int y)] [.int (4 : Int32), .int x] g u (fun big n0 => sg_ba_52 big n0 g u x y) ?_
    refine q_ic_gt rfl (fun (hc1 : (4 : Int32) < x) => ?_) (fun (hc1 : ¬ ((4 : Int32) < x)) => ?_)
    · refine q_ret 2 (some (.int (Int32.ofInt (-1))), g, u) (fun _ _ => rfl) ?_
      rfl
    · refine q_step 1 11 [(0, .ref 8), (1, .int x), (2, .int y)] [.int y] g u (fun big n0 => sg_ba_53 big n0 g u x y) ?_
      refine q_if_lt rfl (fun (hc2 : y < 0) => ?_) (fun (hc2 : ¬ (y < 0)) => ?_)
      · refine q_ret 2 (some (.int (Int32.ofInt (-1))), g, u) (fun _ _ => rfl) ?_
        rfl
      · refine q_step 2 17 [(0, .ref 8), (1, .int x), (2, .int y)] [.int (9 : Int32), .int y] g u (fun big n0 => sg_ba_54 big n0 g u x y) ?_
        refine q_ic_le rfl (fun (hc3 : y ≤ (9 : Int32)) => ?_) (fun (hc3 : ¬ (y ≤ (9 : Int32))) => ?_)
        · exact absurd (show v_rg 1 4 x ∧ v_rg 0 9 y from ⟨vr_c (lo := 1) (hi := 4) (by omega) (by omega) hc0 hc1, vr_c' (lo := 0) (hi := 9) (by omega) (by omega) hc2 hc3⟩) hb
        · refine q_ret 2 (some (.int (Int32.ofInt (-1))), g, u) (fun _ _ => rfl) ?_
          rfl
theorem rb_pull {n W H : Nat} (g : qM) (u : qW) (hn : g 70 4 = Int32.ofNat n) (hW : g 70 2 = Int32.ofNat W) (hH : g 70 3 = Int32.ofNat H) (h6 : n ≤ 6) (h25 : W * H ≤ 25) (x : Int32) (y : Int32) (hb : ¬ (v_rg 1 4 x ∧ v_rg 0 9 y)) : q_BS 181 [.ref 70, .int x, .int y] g u (some (.int (Int32.ofInt (-1))), g, u) := by
  refine q_bx (mm := m_181) rfl (Nat.le_of_ble_eq_true rfl) rfl ?_
  refine q_step 4 6 [(0, .ref 70), (1, .int x), (2, .int y)] [.long (4 : Int64), .long (1 : Int64), .long (Int32.toInt64 x)] g u (fun big n0 => sg_ba_55 big n0 g u x y) ?_
  refine q_call (M2 := 149) (rest := []) (b_in _ _ _ _ _) (fun _ _ => rfl) ?_
  refine q_if_eq rfl (fun (hc0 : (s_in (Int32.toInt64 x) (1 : Int64) (4 : Int64)) = 0) => ?_) (fun (hc0 : ¬ ((s_in (Int32.toInt64 x) (1 : Int64) (4 : Int64)) = 0)) => ?_)
  · refine q_ret 2 (some (.int (Int32.ofInt (-1))), g, u) (fun _ _ => rfl) ?_
    rfl
  · refine q_step 4 18 [(0, .ref 70), (1, .int x), (2, .int y)] [.long (9 : Int64), .long (0 : Int64), .long (Int32.toInt64 y)] g u (fun big n0 => sg_ba_56 big n0 g u x y) ?_
    refine q_call (M2 := 149) (rest := []) (b_in _ _ _ _ _) (fun _ _ => rfl) ?_
    refine q_if_eq rfl (fun (hc1 : (s_in (Int32.toInt64 y) (0 : Int64) (9 : Int64)) = 0) => ?_) (fun (hc1 : ¬ ((s_in (Int32.toInt64 y) (0 : Int64) (9 : Int64)) = 0)) => ?_)
    · refine q_ret 2 (some (.int (Int32.ofInt (-1))), g, u) (fun _ _ => rfl) ?_
      rfl
    · exact absurd (show v_rg 1 4 x ∧ v_rg 0 9 y from ⟨vr_r (lo := 1) (hi := 4) (by omega) (by omega) hc0, vr_r (lo := 0) (hi := 9) (by omega) (by omega) hc1⟩) hb
theorem cb_see {n W H : Nat} (g : qM) (u : qW) (hn : g 20 3 = Int32.ofNat n) (hW : g 20 0 = Int32.ofNat W) (hH : g 20 1 = Int32.ofNat H) (h6 : n ≤ 6) (h25 : W * H ≤ 25) (x : Int32) (y : Int32) (hb : ¬ (v_one n x ∧ v_rg 0 4 y)) : q_BS 118 [.ref 8, .int x, .int y] g u (some (.int (Int32.ofInt (-1))), g, u) := by
  refine q_bx (mm := m_118) rfl (Nat.le_of_ble_eq_true rfl) rfl ?_
  refine q_step 3 5 [(0, .ref 8), (1, .int x), (2, .int y)] [.int x, .ref 20] g u (fun big n0 => sg_ba_57 big n0 g u x y) ?_
  refine q_call (M2 := 40) (rest := []) (b_hasOne _ _ _) (fun _ _ => rfl) ?_
  refine q_if_eq rfl (fun (hc0 : (d_hasOne x g) = 0) => ?_) (fun (hc0 : ¬ ((d_hasOne x g) = 0)) => ?_)
  · refine q_ret 2 (some (.int (Int32.ofInt (-1))), g, u) (fun _ _ => rfl) ?_
    rfl
  · refine q_step 1 12 [(0, .ref 8), (1, .int x), (2, .int y)] [.int y] g u (fun big n0 => sg_ba_58 big n0 g u x y) ?_
    refine q_if_lt rfl (fun (hc1 : y < 0) => ?_) (fun (hc1 : ¬ (y < 0)) => ?_)
    · refine q_ret 2 (some (.int (Int32.ofInt (-1))), g, u) (fun _ _ => rfl) ?_
      rfl
    · refine q_step 2 17 [(0, .ref 8), (1, .int x), (2, .int y)] [.int (4 : Int32), .int y] g u (fun big n0 => sg_ba_59 big n0 g u x y) ?_
      refine q_ic_le rfl (fun (hc2 : y ≤ (4 : Int32)) => ?_) (fun (hc2 : ¬ (y ≤ (4 : Int32))) => ?_)
      · exact absurd (show v_one n x ∧ v_rg 0 4 y from ⟨vo_c hn h6 hc0, vr_c' (lo := 0) (hi := 4) (by omega) (by omega) hc1 hc2⟩) hb
      · refine q_ret 2 (some (.int (Int32.ofInt (-1))), g, u) (fun _ _ => rfl) ?_
        rfl
theorem rb_see {n W H : Nat} (g : qM) (u : qW) (hn : g 70 4 = Int32.ofNat n) (hW : g 70 2 = Int32.ofNat W) (hH : g 70 3 = Int32.ofNat H) (h6 : n ≤ 6) (h25 : W * H ≤ 25) (x : Int32) (y : Int32) (hb : ¬ (v_one n x ∧ v_rg 0 4 y)) : q_BS 212 [.ref 70, .int x, .int y] g u (some (.int (Int32.ofInt (-1))), g, u) := by
  refine q_bx (mm := m_212) rfl (Nat.le_of_ble_eq_true rfl) rfl ?_
  refine q_step 2 2 [(0, .ref 70), (1, .int x), (2, .int y)] [.int x, .ref 70] g u (fun big n0 => sg_ba_60 big n0 g u x y) ?_
  refine q_call (M2 := 169) (rest := []) (b_risOne _ _ _) (fun _ _ => rfl) ?_
  refine q_if_eq rfl (fun (hc0 : (d_risOne x g) = 0) => ?_) (fun (hc0 : ¬ ((d_risOne x g) = 0)) => ?_)
  · refine q_ret 2 (some (.int (Int32.ofInt (-1))), g, u) (fun _ _ => rfl) ?_
    rfl
  · refine q_step 4 14 [(0, .ref 70), (1, .int x), (2, .int y)] [.long (4 : Int64), .long (0 : Int64), .long (Int32.toInt64 y)] g u (fun big n0 => sg_ba_61 big n0 g u x y) ?_
    refine q_call (M2 := 149) (rest := []) (b_in _ _ _ _ _) (fun _ _ => rfl) ?_
    refine q_if_ne rfl (fun (hc1 : (s_in (Int32.toInt64 y) (0 : Int64) (4 : Int64)) = 0) => ?_) (fun (hc1 : ¬ ((s_in (Int32.toInt64 y) (0 : Int64) (4 : Int64)) = 0)) => ?_)
    · refine q_ret 2 (some (.int (Int32.ofInt (-1))), g, u) (fun _ _ => rfl) ?_
      rfl
    · exact absurd (show v_one n x ∧ v_rg 0 4 y from ⟨vo_r hn h6 hc0, vr_r (lo := 0) (hi := 4) (by omega) (by omega) hc1⟩) hb
theorem cb_wall {n W H : Nat} (g : qM) (u : qW) (hn : g 20 3 = Int32.ofNat n) (hW : g 20 0 = Int32.ofNat W) (hH : g 20 1 = Int32.ofNat H) (h6 : n ≤ 6) (h25 : W * H ≤ 25) (x : Int32) (y : Int32) (hb : ¬ (v_one (W * H) x)) : q_BS 53 [.ref 8, .int x, .int y] g u (some (.int (Int32.ofInt (-1))), g, u) := by
  refine q_bx (mm := m_53) rfl (Nat.le_of_ble_eq_true rfl) rfl ?_
  refine q_step 3 5 [(0, .ref 8), (1, .int x), (2, .int y)] [.int x, .ref 20] g u (fun big n0 => sg_ba_62 big n0 g u x y) ?_
  refine q_call (M2 := 38) (rest := []) (b_hasCell _ _ _) (fun _ _ => rfl) ?_
  refine q_if_eq rfl (fun (hc0 : (d_hasCell x g) = 0) => ?_) (fun (hc0 : ¬ ((d_hasCell x g) = 0)) => ?_)
  · refine q_ret 2 (some (.int (Int32.ofInt (-1))), g, u) (fun _ _ => rfl) ?_
    rfl
  · exact absurd (vc_c hW hH h25 hc0) hb
theorem rb_wall {n W H : Nat} (g : qM) (u : qW) (hn : g 70 4 = Int32.ofNat n) (hW : g 70 2 = Int32.ofNat W) (hH : g 70 3 = Int32.ofNat H) (h6 : n ≤ 6) (h25 : W * H ≤ 25) (x : Int32) (y : Int32) (hb : ¬ (v_one (W * H) x)) : q_BS 180 [.ref 70, .int x, .int y] g u (some (.int (Int32.ofInt (-1))), g, u) := by
  refine q_bx (mm := m_180) rfl (Nat.le_of_ble_eq_true rfl) rfl ?_
  refine q_step 2 2 [(0, .ref 70), (1, .int x), (2, .int y)] [.int x, .ref 70] g u (fun big n0 => sg_ba_63 big n0 g u x y) ?_
  refine q_call (M2 := 171) (rest := []) (b_risCell _ _ _) (fun _ _ => rfl) ?_
  refine q_if_ne rfl (fun (hc0 : (d_risCell x g) = 0) => ?_) (fun (hc0 : ¬ ((d_risCell x g) = 0)) => ?_)
  · refine q_ret 2 (some (.int (Int32.ofInt (-1))), g, u) (fun _ _ => rfl) ?_
    rfl
  · exact absurd (vc_r hW hH h25 hc0) hb
theorem cb_cell {n W H : Nat} (g : qM) (u : qW) (hn : g 20 3 = Int32.ofNat n) (hW : g 20 0 = Int32.ofNat W) (hH : g 20 1 = Int32.ofNat H) (h6 : n ≤ 6) (h25 : W * H ≤ 25) (x : Int32) (hb : ¬ (v_one (W * H) x)) : q_BS 46 [.ref 8, .int x] g u (some (.int (Int32.ofInt (-1))), g, u) := by
  refine q_bx (mm := m_46) rfl (Nat.le_of_ble_eq_true rfl) rfl ?_
  refine q_step 3 5 [(0, .ref 8), (1, .int x)] [.int x, .ref 20] g u (fun big n0 => sg_ba_64 big n0 g u x) ?_
  refine q_call (M2 := 38) (rest := []) (b_hasCell _ _ _) (fun _ _ => rfl) ?_
  refine q_if_eq rfl (fun (hc0 : (d_hasCell x g) = 0) => ?_) (fun (hc0 : ¬ ((d_hasCell x g) = 0)) => ?_)
  · refine q_ret 2 (some (.int (Int32.ofInt (-1))), g, u) (fun _ _ => rfl) ?_
    rfl
  · exact absurd (vc_c hW hH h25 hc0) hb
theorem rb_cell {n W H : Nat} (g : qM) (u : qW) (hn : g 70 4 = Int32.ofNat n) (hW : g 70 2 = Int32.ofNat W) (hH : g 70 3 = Int32.ofNat H) (h6 : n ≤ 6) (h25 : W * H ≤ 25) (x : Int32) (hb : ¬ (v_one (W * H) x)) : q_BS 170 [.ref 70, .int x] g u (some (.int (Int32.ofInt (-1))), g, u) := by
  refine q_bx (mm := m_170) rfl (Nat.le_of_ble_eq_true rfl) rfl ?_
  refine q_step 2 2 [(0, .ref 70), (1, .int x)] [.int x, .ref 70] g u (fun big n0 => sg_ba_65 big n0 g u x) ?_
  refine q_call (M2 := 171) (rest := []) (b_risCell _ _ _) (fun _ _ => rfl) ?_
  refine q_if_ne rfl (fun (hc0 : (d_risCell x g) = 0) => ?_) (fun (hc0 : ¬ ((d_risCell x g) = 0)) => ?_)
  · refine q_ret 2 (some (.int (Int32.ofInt (-1))), g, u) (fun _ _ => rfl) ?_
    rfl
  · exact absurd (vc_r hW hH h25 hc0) hb
theorem cb_put {n W H : Nat} (g : qM) (u : qW) (hn : g 20 3 = Int32.ofNat n) (hW : g 20 0 = Int32.ofNat W) (hH : g 20 1 = Int32.ofNat H) (h6 : n ≤ 6) (h25 : W * H ≤ 25) (x : Int32) (y : Int32) (hb : ¬ (v_one n x ∧ v_one (W * H) y)) : q_BS 49 [.ref 8, .int x, .int y] g u (some (.int (Int32.ofInt (-1))), g, u) := by
  refine q_bx (mm := m_49) rfl (Nat.le_of_ble_eq_true rfl) rfl ?_
  refine q_step 3 5 [(0, .ref 8), (1, .int x), (2, .int y)] [.int x, .ref 20] g u (fun big n0 => sg_ba_66 big n0 g u x y) ?_
  refine q_call (M2 := 40) (rest := []) (b_hasOne _ _ _) (fun _ _ => rfl) ?_
  refine q_if_eq rfl (fun (hc0 : (d_hasOne x g) = 0) => ?_) (fun (hc0 : ¬ ((d_hasOne x g) = 0)) => ?_)
  · refine q_ret 2 (some (.int (Int32.ofInt (-1))), g, u) (fun _ _ => rfl) ?_
    rfl
  · refine q_step 3 16 [(0, .ref 8), (1, .int x), (2, .int y)] [.int y, .ref 20] g u (fun big n0 => sg_ba_67 big n0 g u x y) ?_
    refine q_call (M2 := 38) (rest := []) (b_hasCell _ _ _) (fun _ _ => rfl) ?_
    refine q_if_eq rfl (fun (hc1 : (d_hasCell y g) = 0) => ?_) (fun (hc1 : ¬ ((d_hasCell y g) = 0)) => ?_)
    · refine q_ret 2 (some (.int (Int32.ofInt (-1))), g, u) (fun _ _ => rfl) ?_
      rfl
    · exact absurd (show v_one n x ∧ v_one (W * H) y from ⟨vo_c hn h6 hc0, vc_c hW hH h25 hc1⟩) hb
theorem rb_put {n W H : Nat} (g : qM) (u : qW) (hn : g 70 4 = Int32.ofNat n) (hW : g 70 2 = Int32.ofNat W) (hH : g 70 3 = Int32.ofNat H) (h6 : n ≤ 6) (h25 : W * H ≤ 25) (x : Int32) (y : Int32) (hb : ¬ (v_one n x ∧ v_one (W * H) y)) : q_BS 176 [.ref 70, .int x, .int y] g u (some (.int (Int32.ofInt (-1))), g, u) := by
  refine q_bx (mm := m_176) rfl (Nat.le_of_ble_eq_true rfl) rfl ?_
  refine q_step 2 2 [(0, .ref 70), (1, .int x), (2, .int y)] [.int x, .ref 70] g u (fun big n0 => sg_ba_68 big n0 g u x y) ?_
  refine q_call (M2 := 169) (rest := []) (b_risOne _ _ _) (fun _ _ => rfl) ?_
  refine q_if_eq rfl (fun (hc0 : (d_risOne x g) = 0) => ?_) (fun (hc0 : ¬ ((d_risOne x g) = 0)) => ?_)
  · refine q_ret 2 (some (.int (Int32.ofInt (-1))), g, u) (fun _ _ => rfl) ?_
    rfl
  · refine q_step 2 10 [(0, .ref 70), (1, .int x), (2, .int y)] [.int y, .ref 70] g u (fun big n0 => sg_ba_69 big n0 g u x y) ?_
    refine q_call (M2 := 171) (rest := []) (b_risCell _ _ _) (fun _ _ => rfl) ?_
    refine q_if_ne rfl (fun (hc1 : (d_risCell y g) = 0) => ?_) (fun (hc1 : ¬ ((d_risCell y g) = 0)) => ?_)
    · refine q_ret 2 (some (.int (Int32.ofInt (-1))), g, u) (fun _ _ => rfl) ?_
      rfl
    · exact absurd (show v_one n x ∧ v_one (W * H) y from ⟨vo_r hn h6 hc0, vc_r hW hH h25 hc1⟩) hb
theorem cb_setting {n W H : Nat} (g : qM) (u : qW) (hn : g 20 3 = Int32.ofNat n) (hW : g 20 0 = Int32.ofNat W) (hH : g 20 1 = Int32.ofNat H) (h6 : n ≤ 6) (h25 : W * H ≤ 25) (x : Int32) (y : Int32) (hb : ¬ (v_rg 0 12 x ∧ v_tot n y)) : q_BS 89 [.ref 8, .int x, .int y] g u (some (.int (Int32.ofInt (-1))), g, u) := by
  refine q_bx (mm := m_89) rfl (Nat.le_of_ble_eq_true rfl) rfl ?_
  refine q_step 1 1 [(0, .ref 8), (1, .int x), (2, .int y)] [.int x] g u (fun big n0 => sg_ba_70 big n0 g u x y) ?_
  refine q_call (M2 := 90) (rest := []) (b_isSearched _ _ _) (fun _ _ => rfl) ?_
  refine q_if_eq rfl (fun (hc0 : (d_isSearched x g) = 0) => ?_) (fun (hc0 : ¬ ((d_isSearched x g) = 0)) => ?_)
  · refine q_ret 2 (some (.int (Int32.ofInt (-1))), g, u) (fun _ _ => rfl) ?_
    rfl
  · refine q_step 2 9 [(0, .ref 8), (1, .int x), (2, .int y)] [.int y, .ref 8] g u (fun big n0 => sg_ba_71 big n0 g u x y) ?_
    refine q_call (M2 := 91) (rest := []) (b_isTot _ _ _) (fun _ _ => rfl) ?_
    refine q_if_ne rfl (fun (hc1 : (d_isTot y g) = 0) => ?_) (fun (hc1 : ¬ ((d_isTot y g) = 0)) => ?_)
    · refine q_ret 2 (some (.int (Int32.ofInt (-1))), g, u) (fun _ _ => rfl) ?_
      rfl
    · exact absurd (show v_rg 0 12 x ∧ v_tot n y from ⟨vr_srch hc0, vt_c hn h6 hc1⟩) hb
theorem rb_setting {n W H : Nat} (g : qM) (u : qW) (hn : g 70 4 = Int32.ofNat n) (hW : g 70 2 = Int32.ofNat W) (hH : g 70 3 = Int32.ofNat H) (h6 : n ≤ 6) (h25 : W * H ≤ 25) (x : Int32) (y : Int32) (hb : ¬ (v_rg 0 12 x ∧ v_tot n y)) : q_BS 201 [.ref 70, .int x, .int y] g u (some (.int (Int32.ofInt (-1))), g, u) := by
  refine q_bx (mm := m_201) rfl (Nat.le_of_ble_eq_true rfl) rfl ?_
  refine q_step 4 6 [(0, .ref 70), (1, .int x), (2, .int y)] [.long (12 : Int64), .long (0 : Int64), .long (Int32.toInt64 x)] g u (fun big n0 => sg_ba_72 big n0 g u x y) ?_
  refine q_call (M2 := 149) (rest := []) (b_in _ _ _ _ _) (fun _ _ => rfl) ?_
  refine q_if_eq rfl (fun (hc0 : (s_in (Int32.toInt64 x) (0 : Int64) (12 : Int64)) = 0) => ?_) (fun (hc0 : ¬ ((s_in (Int32.toInt64 x) (0 : Int64) (12 : Int64)) = 0)) => ?_)
  · refine q_ret 2 (some (.int (Int32.ofInt (-1))), g, u) (fun _ _ => rfl) ?_
    rfl
  · refine q_step 1 13 [(0, .ref 70), (1, .int x), (2, .int y)] [.int y] g u (fun big n0 => sg_ba_73 big n0 g u x y) ?_
    refine q_if_eq rfl (fun (hc1 : y = 0) => ?_) (fun (hc1 : ¬ (y = 0)) => ?_)
    · exact absurd (show v_rg 0 12 x ∧ v_tot n y from ⟨vr_r (lo := 0) (hi := 12) (by omega) (by omega) hc0, Or.inl hc1⟩) hb
    · refine q_step 4 21 [(0, .ref 70), (1, .int x), (2, .int y)] [.int (y - (10 : Int32)), .ref 70] g u (fun big n0 => sg_ba_74 big n0 g u x y) ?_
      refine q_call (M2 := 169) (rest := []) (b_risOne _ _ _) (fun _ _ => rfl) ?_
      refine q_if_ne rfl (fun (hc2 : (d_risOne (y - (10 : Int32)) g) = 0) => ?_) (fun (hc2 : ¬ ((d_risOne (y - (10 : Int32)) g) = 0)) => ?_)
      · refine q_ret 2 (some (.int (Int32.ofInt (-1))), g, u) (fun _ _ => rfl) ?_
        rfl
      · exact absurd (show v_rg 0 12 x ∧ v_tot n y from ⟨vr_r (lo := 0) (hi := 12) (by omega) (by omega) hc0, vt_1 (vo_r hn h6 hc2) h6⟩) hb
theorem cb_moods {n W H : Nat} (g : qM) (u : qW) (hn : g 20 3 = Int32.ofNat n) (hW : g 20 0 = Int32.ofNat W) (hH : g 20 1 = Int32.ofNat H) (h6 : n ≤ 6) (h25 : W * H ≤ 25) (x : Int32) (hb : ¬ (v_tot n x)) : q_BS 120 [.ref 8, .int x] g u (some (.int (Int32.ofInt (-1))), g, u) := by
  refine q_bx (mm := m_120) rfl (Nat.le_of_ble_eq_true rfl) rfl ?_
  refine q_step 2 2 [(0, .ref 8), (1, .int x)] [.int x, .ref 8] g u (fun big n0 => sg_ba_75 big n0 g u x) ?_
  refine q_call (M2 := 91) (rest := []) (b_isTot _ _ _) (fun _ _ => rfl) ?_
  refine q_if_ne rfl (fun (hc0 : (d_isTot x g) = 0) => ?_) (fun (hc0 : ¬ ((d_isTot x g) = 0)) => ?_)
  · refine q_ret 2 (some (.int (Int32.ofInt (-1))), g, u) (fun _ _ => rfl) ?_
    rfl
  · exact absurd (vt_c hn h6 hc0) hb
theorem rb_moods {n W H : Nat} (g : qM) (u : qW) (hn : g 70 4 = Int32.ofNat n) (hW : g 70 2 = Int32.ofNat W) (hH : g 70 3 = Int32.ofNat H) (h6 : n ≤ 6) (h25 : W * H ≤ 25) (x : Int32) (hb : ¬ (v_tot n x)) : q_BS 214 [.ref 70, .int x] g u (some (.int (Int32.ofInt (-1))), g, u) := by
  refine q_bx (mm := m_214) rfl (Nat.le_of_ble_eq_true rfl) rfl ?_
  refine q_step 1 1 [(0, .ref 70), (1, .int x)] [.int x] g u (fun big n0 => sg_ba_76 big n0 g u x) ?_
  refine q_if_eq rfl (fun (hc0 : x = 0) => ?_) (fun (hc0 : ¬ (x = 0)) => ?_)
  · exact absurd (Or.inl hc0) hb
  · refine q_step 4 9 [(0, .ref 70), (1, .int x)] [.int (x - (10 : Int32)), .ref 70] g u (fun big n0 => sg_ba_77 big n0 g u x) ?_
    refine q_call (M2 := 169) (rest := []) (b_risOne _ _ _) (fun _ _ => rfl) ?_
    refine q_if_ne rfl (fun (hc1 : (d_risOne (x - (10 : Int32)) g) = 0) => ?_) (fun (hc1 : ¬ ((d_risOne (x - (10 : Int32)) g) = 0)) => ?_)
    · refine q_ret 2 (some (.int (Int32.ofInt (-1))), g, u) (fun _ _ => rfl) ?_
      rfl
    · exact absurd (vt_1 (vo_r hn h6 hc1) h6) hb
theorem cb_keep {n W H : Nat} (g : qM) (u : qW) (hn : g 20 3 = Int32.ofNat n) (hW : g 20 0 = Int32.ofNat W) (hH : g 20 1 = Int32.ofNat H) (h6 : n ≤ 6) (h25 : W * H ≤ 25) (x : Int32) (hb : ¬ (v_rg 0 1 x)) : q_BS 128 [.ref 8, .int x] g u (some (.int (Int32.ofInt (-1))), g, u) := by
  refine q_bx (mm := m_128) rfl (Nat.le_of_ble_eq_true rfl) rfl ?_
  refine q_step 1 1 [(0, .ref 8), (1, .int x)] [.int x] g u (fun big n0 => sg_ba_78 big n0 g u x) ?_
  refine q_if_lt rfl (fun (hc0 : x < 0) => ?_) (fun (hc0 : ¬ (x < 0)) => ?_)
  · refine q_ret 2 (some (.int (Int32.ofInt (-1))), g, u) (fun _ _ => rfl) ?_
    rfl
  · refine q_step 2 6 [(0, .ref 8), (1, .int x)] [.int (2 : Int32), .int x] g u (fun big n0 => sg_ba_79 big n0 g u x) ?_
    refine q_ic_lt rfl (fun (hc1 : x < (2 : Int32)) => ?_) (fun (hc1 : ¬ (x < (2 : Int32))) => ?_)
    · exact absurd (vr_lt (lo := 0) (hi := 1) (by omega) (by omega) hc0 hc1) hb
    · refine q_ret 2 (some (.int (Int32.ofInt (-1))), g, u) (fun _ _ => rfl) ?_
      rfl
theorem rb_keep {n W H : Nat} (g : qM) (u : qW) (hn : g 70 4 = Int32.ofNat n) (hW : g 70 2 = Int32.ofNat W) (hH : g 70 3 = Int32.ofNat H) (h6 : n ≤ 6) (h25 : W * H ≤ 25) (x : Int32) (hb : ¬ (v_rg 0 1 x)) : q_BS 216 [.ref 70, .int x] g u (some (.int (Int32.ofInt (-1))), g, u) := by
  refine q_bx (mm := m_216) rfl (Nat.le_of_ble_eq_true rfl) rfl ?_
  refine q_step 4 4 [(0, .ref 70), (1, .int x)] [.long (1 : Int64), .long (0 : Int64), .long (Int32.toInt64 x)] g u (fun big n0 => sg_ba_80 big n0 g u x) ?_
  refine q_call (M2 := 149) (rest := []) (b_in _ _ _ _ _) (fun _ _ => rfl) ?_
  refine q_if_ne rfl (fun (hc0 : (s_in (Int32.toInt64 x) (0 : Int64) (1 : Int64)) = 0) => ?_) (fun (hc0 : ¬ ((s_in (Int32.toInt64 x) (0 : Int64) (1 : Int64)) = 0)) => ?_)
  · refine q_ret 2 (some (.int (Int32.ofInt (-1))), g, u) (fun _ _ => rfl) ?_
    rfl
  · exact absurd (vr_r (lo := 0) (hi := 1) (by omega) (by omega) hc0) hb
theorem cb_back {n W H : Nat} (g : qM) (u : qW) (hn : g 20 3 = Int32.ofNat n) (hW : g 20 0 = Int32.ofNat W) (hH : g 20 1 = Int32.ofNat H) (h6 : n ≤ 6) (h25 : W * H ≤ 25) (x : Int32) (hb : ¬ (v_rg 0 1 x)) : q_BS 129 [.ref 8, .int x] g u (some (.int (Int32.ofInt (-1))), g, u) := by
  refine q_bx (mm := m_129) rfl (Nat.le_of_ble_eq_true rfl) rfl ?_
  refine q_step 1 1 [(0, .ref 8), (1, .int x)] [.int x] g u (fun big n0 => sg_ba_81 big n0 g u x) ?_
  refine q_if_lt rfl (fun (hc0 : x < 0) => ?_) (fun (hc0 : ¬ (x < 0)) => ?_)
  · refine q_ret 2 (some (.int (Int32.ofInt (-1))), g, u) (fun _ _ => rfl) ?_
    rfl
  · refine q_step 2 6 [(0, .ref 8), (1, .int x)] [.int (2 : Int32), .int x] g u (fun big n0 => sg_ba_82 big n0 g u x) ?_
    refine q_ic_lt rfl (fun (hc1 : x < (2 : Int32)) => ?_) (fun (hc1 : ¬ (x < (2 : Int32))) => ?_)
    · exact absurd (vr_lt (lo := 0) (hi := 1) (by omega) (by omega) hc0 hc1) hb
    · refine q_ret 2 (some (.int (Int32.ofInt (-1))), g, u) (fun _ _ => rfl) ?_
      rfl
theorem rb_back {n W H : Nat} (g : qM) (u : qW) (hn : g 70 4 = Int32.ofNat n) (hW : g 70 2 = Int32.ofNat W) (hH : g 70 3 = Int32.ofNat H) (h6 : n ≤ 6) (h25 : W * H ≤ 25) (x : Int32) (hb : ¬ (v_rg 0 1 x)) : q_BS 218 [.ref 70, .int x] g u (some (.int (Int32.ofInt (-1))), g, u) := by
  refine q_bx (mm := m_218) rfl (Nat.le_of_ble_eq_true rfl) rfl ?_
  refine q_step 4 4 [(0, .ref 70), (1, .int x)] [.long (1 : Int64), .long (0 : Int64), .long (Int32.toInt64 x)] g u (fun big n0 => sg_ba_83 big n0 g u x) ?_
  refine q_call (M2 := 149) (rest := []) (b_in _ _ _ _ _) (fun _ _ => rfl) ?_
  refine q_if_ne rfl (fun (hc0 : (s_in (Int32.toInt64 x) (0 : Int64) (1 : Int64)) = 0) => ?_) (fun (hc0 : ¬ ((s_in (Int32.toInt64 x) (0 : Int64) (1 : Int64)) = 0)) => ?_)
  · refine q_ret 2 (some (.int (Int32.ofInt (-1))), g, u) (fun _ _ => rfl) ?_
    rfl
  · exact absurd (vr_r (lo := 0) (hi := 1) (by omega) (by omega) hc0) hb
theorem cb_nurse {n W H : Nat} (g : qM) (u : qW) (hn : g 20 3 = Int32.ofNat n) (hW : g 20 0 = Int32.ofNat W) (hH : g 20 1 = Int32.ofNat H) (h6 : n ≤ 6) (h25 : W * H ≤ 25) (x : Int32) (y : Int32) (z : Int32) (w : Int32) (hb : ¬ (v_one n x ∧ v_one n y ∧ v_one n z ∧ x ≠ y ∧ x ≠ z ∧ y ≠ z ∧ v_nw w)) : q_BS 106 [.ref 8, .int x, .int y, .int z, .int w] g u (some (.int (Int32.ofInt (-1))), g, u) := by
  refine q_bx (mm := m_106) rfl (Nat.le_of_ble_eq_true rfl) rfl ?_
  refine q_step 3 5 [(0, .ref 8), (1, .int x), (2, .int y), (3, .int z), (4, .int w)] [.int x, .ref 20] g u (fun big n0 => sg_ba_84 big n0 g u x y z w) ?_
  refine q_call (M2 := 40) (rest := []) (b_hasOne _ _ _) (fun _ _ => rfl) ?_
  refine q_if_eq rfl (fun (hc0 : (d_hasOne x g) = 0) => ?_) (fun (hc0 : ¬ ((d_hasOne x g) = 0)) => ?_)
  · refine q_ret 2 (some (.int (Int32.ofInt (-1))), g, u) (fun _ _ => rfl) ?_
    rfl
  · refine q_step 3 16 [(0, .ref 8), (1, .int x), (2, .int y), (3, .int z), (4, .int w)] [.int y, .ref 20] g u (fun big n0 => sg_ba_85 big n0 g u x y z w) ?_
    refine q_call (M2 := 40) (rest := []) (b_hasOne _ _ _) (fun _ _ => rfl) ?_
    refine q_if_eq rfl (fun (hc1 : (d_hasOne y g) = 0) => ?_) (fun (hc1 : ¬ ((d_hasOne y g) = 0)) => ?_)
    · refine q_ret 2 (some (.int (Int32.ofInt (-1))), g, u) (fun _ _ => rfl) ?_
      rfl
    · refine q_step 3 27 [(0, .ref 8), (1, .int x), (2, .int y), (3, .int z), (4, .int w)] [.int z, .ref 20] g u (fun big n0 => sg_ba_86 big n0 g u x y z w) ?_
      refine q_call (M2 := 40) (rest := []) (b_hasOne _ _ _) (fun _ _ => rfl) ?_
      refine q_if_eq rfl (fun (hc2 : (d_hasOne z g) = 0) => ?_) (fun (hc2 : ¬ ((d_hasOne z g) = 0)) => ?_)
      · refine q_ret 2 (some (.int (Int32.ofInt (-1))), g, u) (fun _ _ => rfl) ?_
        rfl
      · refine q_step 2 35 [(0, .ref 8), (1, .int x), (2, .int y), (3, .int z), (4, .int w)] [.int y, .int x] g u (fun big n0 => sg_ba_87 big n0 g u x y z w) ?_
        refine q_ic_eq rfl (fun (hc3 : x = y) => ?_) (fun (hc3 : ¬ (x = y)) => ?_)
        · refine q_ret 2 (some (.int (Int32.ofInt (-1))), g, u) (fun _ _ => rfl) ?_
          rfl
        · refine q_step 2 40 [(0, .ref 8), (1, .int x), (2, .int y), (3, .int z), (4, .int w)] [.int z, .int x] g u (fun big n0 => sg_ba_88 big n0 g u x y z w) ?_
          refine q_ic_eq rfl (fun (hc4 : x = z) => ?_) (fun (hc4 : ¬ (x = z)) => ?_)
          · refine q_ret 2 (some (.int (Int32.ofInt (-1))), g, u) (fun _ _ => rfl) ?_
            rfl
          · refine q_step 2 45 [(0, .ref 8), (1, .int x), (2, .int y), (3, .int z), (4, .int w)] [.int z, .int y] g u (fun big n0 => sg_ba_89 big n0 g u x y z w) ?_
            refine q_ic_ne rfl (fun (hc5 : y = z) => ?_) (fun (hc5 : ¬ (y = z)) => ?_)
            · refine q_ret 2 (some (.int (Int32.ofInt (-1))), g, u) (fun _ _ => rfl) ?_
              rfl
            · refine q_step 5 59 [(0, .ref 8), (1, .int x), (2, .int y), (3, .int z), (4, .int w), (5, .int (w - (10 : Int32)))] [.int w] g u (fun big n0 => sg_ba_90 big n0 g u x y z w) ?_
              refine q_if_eq rfl (fun (hc6 : w = 0) => ?_) (fun (hc6 : ¬ (w = 0)) => ?_)
              · exact absurd (show v_one n x ∧ v_one n y ∧ v_one n z ∧ x ≠ y ∧ x ≠ z ∧ y ≠ z ∧ v_nw w from ⟨vo_c hn h6 hc0, vo_c hn h6 hc1, vo_c hn h6 hc2, hc3, hc4, hc5, Or.inl hc6⟩) hb
              · refine q_step 2 66 [(0, .ref 8), (1, .int x), (2, .int y), (3, .int z), (4, .int w), (5, .int (w - (10 : Int32)))] [.int (10 : Int32), .int w] g u (fun big n0 => sg_ba_91 big n0 g u x y z w (w - (10 : Int32))) ?_
                refine q_ic_lt rfl (fun (hc7 : w < (10 : Int32)) => ?_) (fun (hc7 : ¬ (w < (10 : Int32))) => ?_)
                · refine q_ret 2 (some (.int (Int32.ofInt (-1))), g, u) (fun _ _ => rfl) ?_
                  rfl
                · refine q_step 2 72 [(0, .ref 8), (1, .int x), (2, .int y), (3, .int z), (4, .int w), (5, .int (w - (10 : Int32)))] [.int (4 : Int32), .int (w - (10 : Int32))] g u (fun big n0 => sg_ba_92 big n0 g u x y z w (w - (10 : Int32))) ?_
                  refine q_ic_lt rfl (fun (hc8 : (w - (10 : Int32)) < (4 : Int32)) => ?_) (fun (hc8 : ¬ ((w - (10 : Int32)) < (4 : Int32))) => ?_)
                  · exact absurd (show v_one n x ∧ v_one n y ∧ v_one n z ∧ x ≠ y ∧ x ≠ z ∧ y ≠ z ∧ v_nw w from ⟨vo_c hn h6 hc0, vo_c hn h6 hc1, vo_c hn h6 hc2, hc3, hc4, hc5, vn_c hc7 (Int32.not_le.mpr hc8)⟩) hb
                  · refine q_ret 2 (some (.int (Int32.ofInt (-1))), g, u) (fun _ _ => rfl) ?_
                    rfl
theorem rb_nurse {n W H : Nat} (g : qM) (u : qW) (hn : g 70 4 = Int32.ofNat n) (hW : g 70 2 = Int32.ofNat W) (hH : g 70 3 = Int32.ofNat H) (h6 : n ≤ 6) (h25 : W * H ≤ 25) (x : Int32) (y : Int32) (z : Int32) (w : Int32) (hb : ¬ (v_one n x ∧ v_one n y ∧ v_one n z ∧ x ≠ y ∧ x ≠ z ∧ y ≠ z ∧ v_nw w)) : q_BS 208 [.ref 70, .int x, .int y, .int z, .int w] g u (some (.int (Int32.ofInt (-1))), g, u) := by
  refine q_bx (mm := m_208) rfl (Nat.le_of_ble_eq_true rfl) rfl ?_
  refine q_step 2 2 [(0, .ref 70), (1, .int x), (2, .int y), (3, .int z), (4, .int w)] [.int y, .int x] g u (fun big n0 => sg_ba_93 big n0 g u x y z w) ?_
  refine q_ic_eq rfl (fun (hc0 : x = y) => ?_) (fun (hc0 : ¬ (x = y)) => ?_)
  · refine q_step 4 24 [(0, .ref 70), (1, .int x), (2, .int y), (3, .int z), (4, .int w), (5, .int (0 : Int32))] [.int x, .ref 70] g u (fun big n0 => sg_ba_94 big n0 g u x y z w) ?_
    refine q_call (M2 := 169) (rest := []) (b_risOne _ _ _) (fun _ _ => rfl) ?_
    refine q_if_eq rfl (fun (hc1 : (d_risOne x g) = 0) => ?_) (fun (hc1 : ¬ ((d_risOne x g) = 0)) => ?_)
    · refine q_ret 2 (some (.int (Int32.ofInt (-1))), g, u) (fun _ _ => rfl) ?_
      rfl
    · refine q_step 2 32 [(0, .ref 70), (1, .int x), (2, .int y), (3, .int z), (4, .int w), (5, .int (0 : Int32))] [.int y, .ref 70] g u (fun big n0 => sg_ba_95 big n0 g u x y z w) ?_
      refine q_call (M2 := 169) (rest := []) (b_risOne _ _ _) (fun _ _ => rfl) ?_
      refine q_if_eq rfl (fun (hc2 : (d_risOne y g) = 0) => ?_) (fun (hc2 : ¬ ((d_risOne y g) = 0)) => ?_)
      · refine q_ret 2 (some (.int (Int32.ofInt (-1))), g, u) (fun _ _ => rfl) ?_
        rfl
      · refine q_step 2 40 [(0, .ref 70), (1, .int x), (2, .int y), (3, .int z), (4, .int w), (5, .int (0 : Int32))] [.int z, .ref 70] g u (fun big n0 => sg_ba_96 big n0 g u x y z w) ?_
        refine q_call (M2 := 169) (rest := []) (b_risOne _ _ _) (fun _ _ => rfl) ?_
        refine q_if_eq rfl (fun (hc3 : (d_risOne z g) = 0) => ?_) (fun (hc3 : ¬ ((d_risOne z g) = 0)) => ?_)
        · refine q_ret 2 (some (.int (Int32.ofInt (-1))), g, u) (fun _ _ => rfl) ?_
          rfl
        · refine q_ret 4 (some (.int (Int32.ofInt (-1))), g, u) (fun _ _ => rfl) ?_
          rfl
  · refine q_step 2 7 [(0, .ref 70), (1, .int x), (2, .int y), (3, .int z), (4, .int w)] [.int z, .int x] g u (fun big n0 => sg_ba_97 big n0 g u x y z w) ?_
    refine q_ic_eq rfl (fun (hc1 : x = z) => ?_) (fun (hc1 : ¬ (x = z)) => ?_)
    · refine q_step 4 24 [(0, .ref 70), (1, .int x), (2, .int y), (3, .int z), (4, .int w), (5, .int (0 : Int32))] [.int x, .ref 70] g u (fun big n0 => sg_ba_94 big n0 g u x y z w) ?_
      refine q_call (M2 := 169) (rest := []) (b_risOne _ _ _) (fun _ _ => rfl) ?_
      refine q_if_eq rfl (fun (hc2 : (d_risOne x g) = 0) => ?_) (fun (hc2 : ¬ ((d_risOne x g) = 0)) => ?_)
      · refine q_ret 2 (some (.int (Int32.ofInt (-1))), g, u) (fun _ _ => rfl) ?_
        rfl
      · refine q_step 2 32 [(0, .ref 70), (1, .int x), (2, .int y), (3, .int z), (4, .int w), (5, .int (0 : Int32))] [.int y, .ref 70] g u (fun big n0 => sg_ba_95 big n0 g u x y z w) ?_
        refine q_call (M2 := 169) (rest := []) (b_risOne _ _ _) (fun _ _ => rfl) ?_
        refine q_if_eq rfl (fun (hc3 : (d_risOne y g) = 0) => ?_) (fun (hc3 : ¬ ((d_risOne y g) = 0)) => ?_)
        · refine q_ret 2 (some (.int (Int32.ofInt (-1))), g, u) (fun _ _ => rfl) ?_
          rfl
        · refine q_step 2 40 [(0, .ref 70), (1, .int x), (2, .int y), (3, .int z), (4, .int w), (5, .int (0 : Int32))] [.int z, .ref 70] g u (fun big n0 => sg_ba_96 big n0 g u x y z w) ?_
          refine q_call (M2 := 169) (rest := []) (b_risOne _ _ _) (fun _ _ => rfl) ?_
          refine q_if_eq rfl (fun (hc4 : (d_risOne z g) = 0) => ?_) (fun (hc4 : ¬ ((d_risOne z g) = 0)) => ?_)
          · refine q_ret 2 (some (.int (Int32.ofInt (-1))), g, u) (fun _ _ => rfl) ?_
            rfl
          · refine q_ret 4 (some (.int (Int32.ofInt (-1))), g, u) (fun _ _ => rfl) ?_
            rfl
    · refine q_step 2 12 [(0, .ref 70), (1, .int x), (2, .int y), (3, .int z), (4, .int w)] [.int z, .int y] g u (fun big n0 => sg_ba_98 big n0 g u x y z w) ?_
      refine q_ic_eq rfl (fun (hc2 : y = z) => ?_) (fun (hc2 : ¬ (y = z)) => ?_)
      · refine q_step 4 24 [(0, .ref 70), (1, .int x), (2, .int y), (3, .int z), (4, .int w), (5, .int (0 : Int32))] [.int x, .ref 70] g u (fun big n0 => sg_ba_94 big n0 g u x y z w) ?_
        refine q_call (M2 := 169) (rest := []) (b_risOne _ _ _) (fun _ _ => rfl) ?_
        refine q_if_eq rfl (fun (hc3 : (d_risOne x g) = 0) => ?_) (fun (hc3 : ¬ ((d_risOne x g) = 0)) => ?_)
        · refine q_ret 2 (some (.int (Int32.ofInt (-1))), g, u) (fun _ _ => rfl) ?_
          rfl
        · refine q_step 2 32 [(0, .ref 70), (1, .int x), (2, .int y), (3, .int z), (4, .int w), (5, .int (0 : Int32))] [.int y, .ref 70] g u (fun big n0 => sg_ba_95 big n0 g u x y z w) ?_
          refine q_call (M2 := 169) (rest := []) (b_risOne _ _ _) (fun _ _ => rfl) ?_
          refine q_if_eq rfl (fun (hc4 : (d_risOne y g) = 0) => ?_) (fun (hc4 : ¬ ((d_risOne y g) = 0)) => ?_)
          · refine q_ret 2 (some (.int (Int32.ofInt (-1))), g, u) (fun _ _ => rfl) ?_
            rfl
          · refine q_step 2 40 [(0, .ref 70), (1, .int x), (2, .int y), (3, .int z), (4, .int w), (5, .int (0 : Int32))] [.int z, .ref 70] g u (fun big n0 => sg_ba_96 big n0 g u x y z w) ?_
            refine q_call (M2 := 169) (rest := []) (b_risOne _ _ _) (fun _ _ => rfl) ?_
            refine q_if_eq rfl (fun (hc5 : (d_risOne z g) = 0) => ?_) (fun (hc5 : ¬ ((d_risOne z g) = 0)) => ?_)
            · refine q_ret 2 (some (.int (Int32.ofInt (-1))), g, u) (fun _ _ => rfl) ?_
              rfl
            · refine q_ret 4 (some (.int (Int32.ofInt (-1))), g, u) (fun _ _ => rfl) ?_
              rfl
      · refine q_step 5 24 [(0, .ref 70), (1, .int x), (2, .int y), (3, .int z), (4, .int w), (5, .int (1 : Int32))] [.int x, .ref 70] g u (fun big n0 => sg_ba_99 big n0 g u x y z w) ?_
        refine q_call (M2 := 169) (rest := []) (b_risOne _ _ _) (fun _ _ => rfl) ?_
        refine q_if_eq rfl (fun (hc3 : (d_risOne x g) = 0) => ?_) (fun (hc3 : ¬ ((d_risOne x g) = 0)) => ?_)
        · refine q_ret 2 (some (.int (Int32.ofInt (-1))), g, u) (fun _ _ => rfl) ?_
          rfl
        · refine q_step 2 32 [(0, .ref 70), (1, .int x), (2, .int y), (3, .int z), (4, .int w), (5, .int (1 : Int32))] [.int y, .ref 70] g u (fun big n0 => sg_ba_100 big n0 g u x y z w) ?_
          refine q_call (M2 := 169) (rest := []) (b_risOne _ _ _) (fun _ _ => rfl) ?_
          refine q_if_eq rfl (fun (hc4 : (d_risOne y g) = 0) => ?_) (fun (hc4 : ¬ ((d_risOne y g) = 0)) => ?_)
          · refine q_ret 2 (some (.int (Int32.ofInt (-1))), g, u) (fun _ _ => rfl) ?_
            rfl
          · refine q_step 2 40 [(0, .ref 70), (1, .int x), (2, .int y), (3, .int z), (4, .int w), (5, .int (1 : Int32))] [.int z, .ref 70] g u (fun big n0 => sg_ba_101 big n0 g u x y z w) ?_
            refine q_call (M2 := 169) (rest := []) (b_risOne _ _ _) (fun _ _ => rfl) ?_
            refine q_if_eq rfl (fun (hc5 : (d_risOne z g) = 0) => ?_) (fun (hc5 : ¬ ((d_risOne z g) = 0)) => ?_)
            · refine q_ret 2 (some (.int (Int32.ofInt (-1))), g, u) (fun _ _ => rfl) ?_
              rfl
            · refine q_step 3 53 [(0, .ref 70), (1, .int x), (2, .int y), (3, .int z), (4, .int w), (5, .int (1 : Int32))] [.int w] g u (fun big n0 => sg_ba_102 big n0 g u x y z w) ?_
              refine q_if_eq rfl (fun (hc6 : w = 0) => ?_) (fun (hc6 : ¬ (w = 0)) => ?_)
              · exact absurd (show v_one n x ∧ v_one n y ∧ v_one n z ∧ x ≠ y ∧ x ≠ z ∧ y ≠ z ∧ v_nw w from ⟨vo_r hn h6 hc3, vo_r hn h6 hc4, vo_r hn h6 hc5, hc0, hc1, hc2, Or.inl hc6⟩) hb
              · refine q_step 4 65 [(0, .ref 70), (1, .int x), (2, .int y), (3, .int z), (4, .int w), (5, .int (1 : Int32))] [.long (13 : Int64), .long (10 : Int64), .long (Int32.toInt64 w)] g u (fun big n0 => sg_ba_103 big n0 g u x y z w) ?_
                refine q_call (M2 := 149) (rest := []) (b_in _ _ _ _ _) (fun _ _ => rfl) ?_
                refine q_if_ne rfl (fun (hc7 : (s_in (Int32.toInt64 w) (10 : Int64) (13 : Int64)) = 0) => ?_) (fun (hc7 : ¬ ((s_in (Int32.toInt64 w) (10 : Int64) (13 : Int64)) = 0)) => ?_)
                · refine q_ret 2 (some (.int (Int32.ofInt (-1))), g, u) (fun _ _ => rfl) ?_
                  rfl
                · exact absurd (show v_one n x ∧ v_one n y ∧ v_one n z ∧ x ≠ y ∧ x ≠ z ∧ y ≠ z ∧ v_nw w from ⟨vo_r hn h6 hc3, vo_r hn h6 hc4, vo_r hn h6 hc5, hc0, hc1, hc2, vn_r hc7⟩) hb
