/-! THE TAPE, the class. -/
/-- what takeTape writes -/
def k_fT (g g' : qM) : Prop := (∀ a, a < 9 ∨ a = 10 ∨ 17 < a → g' a = g a) ∧ g' 9 1 = g 9 1
theorem k_fT_rfl (g : qM) : k_fT g g := ⟨fun _ _ => rfl, rfl⟩
theorem k_fT.trans {a b c : qM} (h1 : k_fT a b) (h2 : k_fT b c) : k_fT a c := ⟨fun x h => (h2.1 x h).trans (h1.1 x h), h2.2.trans h1.2⟩
theorem k_ft.T {g g' : qM} (h : k_ft g g') : k_fT g g' := ⟨h.1, h.2.1.1⟩
theorem k_fT.up {g g' : qM} (h : k_fT g g') {a j : Nat} {x : Int32} (ha : (11 ≤ a ∧ a ≤ 17) ∨ (a = 9 ∧ ¬ j = 1)) : k_fT g (q_up g' a j x) := by
  refine ⟨fun b hb => ?_, ?_⟩
  · rw [q_up_ne (by omega)]
    exact h.1 b hb
  · rw [q_up_eq, if_neg (by omega)]
    exact h.2
theorem k_fT.row {g g' : qM} (h : k_fT g g') {f : Nat → Int32} {n : Nat} : k_fT g (s_row_ 16 f n g') := by
  refine ⟨fun b hb => ?_, ?_⟩
  · funext j
    show (if b = 16 then _ else g' b j) = _
    rw [if_neg (by omega), h.1 b hb]
  · exact h.2
theorem k_dc.e1 {r g : qM} {x : Int32} (h : k_dc r g) : k_dc r (q_up g 11 1 x) := ⟨h.1, h.2⟩
theorem c_nxk {b : Nat → Int32} {s p : Nat} (g : qM) (u : qW) (hb : g 10 = b) (hs : g 9 1 = Int32.ofNat s) (h160 : s ≤ 160) (h5 : g 9 5 = Int32.ofNat p) (hp : p ≤ s) : ∃ g', q_BS 16 [.ref 9] g u (none, g', u) ∧ k_f9 g g' ∧ g' 11 = g 11 ∧ g' 9 2 = t_ki b s p ∧ g' 9 3 = Int32.ofNat (t_fi b s p) ∧ g' 9 5 = Int32.ofNat (t_pl b s p) := by
  subst hb
  obtain ⟨_, hq, k, v, rfl, hk, hv⟩ := c_next g u hs h160 h5 hp
  exact ⟨_, hq, k_f9_9 _ _ _ _ g (fun _ => ⟨s, t_pl (g 10) s p, hs, h160, rfl, (t_pl_b hp).2.1⟩), s_9_o (by decide), hk, rfl, rfl⟩
theorem c_nxf (g : qM) (u : qW) (h : k_pl g) : ∃ g', q_BS 16 [.ref 9] g u (none, g', u) ∧ k_f9 g g' ∧ g' 11 = g 11 := by
  obtain ⟨s, p, hs, h160, h5, hp⟩ := h
  obtain ⟨g', q, f, e, _⟩ := c_nxk g u rfl hs h160 h5 hp
  exact ⟨g', q, f, e⟩
theorem c_fin {b : Nat → Int32} {s : Nat} {o : tO} {g0 g : qM} (u : qW) (hk : k_pc s o g0 g) (hb : g 10 = b) (hs : g 9 1 = Int32.ofNat s) (h160 : s ≤ 160) : ∃ g', q_BS 36 [.ref 11] g u (none, g', u) ∧ k_pc s (o_fin b s o) g0 g' := by
  by_cases e : o.1 = 0
  · obtain ⟨h2, h5, hp, hd⟩ := hk.2.2 e
    obtain ⟨_, hq, g1, rfl, f, h95, h112, h113⟩ := c_stop g u ⟨hb, hs, h160, h5, hp, h2⟩
    refine ⟨g1, hq, ?_⟩
    unfold o_fin
    rw [if_pos e]
    by_cases e2 : t_et b s o.2.2.1 3 = 0
    · rw [if_pos e2]
      exact k_pc_ok (hk.1.trans f.ft) (h112.trans e2) h95 (t_pl_b hp).2.1 (hd.f9 f)
    · rw [if_neg e2]
      exact k_pc_bad (hk.1.trans f.ft) e2 h112 (h113 e2)
  · refine ⟨g, c_stopf g u (by rw [(hk.2.1 e).1]; exact e), ?_⟩
    unfold o_fin
    rw [if_neg e]
    exact hk
/-- before a turn of the loop: the token from p on is taken -/
def k_lp (b : Nat → Int32) (s p m : Nat) (r g : qM) : Prop := (g 10 = b ∧ g 9 1 = Int32.ofNat s ∧ s ≤ 160 ∧ p ≤ s ∧ m ≤ p) ∧ (g 9 2 = t_ki b s p ∧ g 9 3 = Int32.ofNat (t_fi b s p) ∧ g 9 5 = Int32.ofNat (t_pl b s p) ∧ g 11 2 = 0 ∧ g 11 1 = Int32.ofNat m) ∧ k_dc r g ∧ k_dn r
/-- behind the loop -/
def k_af (o : tO × Nat) (g0 g' : qM) : Prop := k_fT g0 g' ∧ g' 11 1 = Int32.ofNat o.2 ∧ (¬ o.1.1 = 0 → g' 11 2 = o.1.1 ∧ g' 11 3 = Int32.ofNat o.1.2.1) ∧ (o.1.1 = 0 → g' 11 2 = 0 ∧ k_dc o.1.2.2.2 g')
theorem k_lp.cc {b : Nat → Int32} {s p m : Nat} {r g : qM} (h : k_lp b s p m r g) : k_cc s (t_fi b s p) (t_pl b s p) r g := ⟨⟨h.1.2.1, h.1.2.2.1, h.2.1.2.2.1, (t_pl_b h.1.2.2.2.1).2.1, h.2.1.2.2.2.1, h.2.1.2.1⟩, h.2.2⟩
theorem t_ki_fi {b : Nat → Int32} {s p : Nat} (h : ¬ t_ki b s p = 4) : ¬ s ≤ t_fi b s p := fun z => h (by
  have e : t_k0 b s p = 4 := by unfold t_k0; rw [if_pos z]
  unfold t_ki
  rw [e, if_neg (by decide)])
/-- the tape's end: what is named must be there -/
def o_end (s : Nat) (o : tO) : tO := if o.1 = 0 then (if o.2.2.2 70 10 < o.2.2.2 70 6 * o.2.2.2 70 7 ∧ o.2.2.2 70 11 < o.2.2.2 70 8 then o else o_bad 6 s o.2.2.2) else o
/-- a text: its outcome and its lines -/
def o_text (b : Nat → Int32) (s : Nat) : tO × Nat := (o_end s (o_tape b s (s + 1) 0 0 t_r0).1, (o_tape b s (s + 1) 0 0 t_r0).2)
/-! what is named and not there -/
def k_A (r : qM) (N : Nat) : Prop := ∀ p, p < t_n r → (r 73 p).toInt < N
def k_B (r : qM) (N : Nat) : Prop := ∀ q, q < 5 → r 73 (15 + q) = i_none ∨ (q < t_n r ∧ (r 73 (15 + q)).toInt < N)
def k_C (r : qM) (N : Nat) : Prop := (r 73 20 >>> (Int32.ofNat N &&& 31)) = 0
theorem k_shr0 {x : Int32} {N : Nat} (hN : N ≤ 25) (h : ∀ c, 25 ≤ c → x.toBitVec.getLsbD c = false) : (x >>> (Int32.ofNat N &&& 31)) = 0 ↔ ∀ c, c < 25 → ¬ s_bit x (Int32.ofNat c) = 0 → c < N := by
  have z : (List.range 26).all (fun N => decide ((Int32.ofNat N &&& 31).toBitVec.smod 32 = BitVec.ofNat 32 N)) = true := by decide +kernel
  have y := of_decide_eq_true (List.all_eq_true.mp z N (List.mem_range.mpr (by omega)))
  rw [← Int32.toBitVec_inj, Int32.toBitVec_shiftRight, y]
  show x.toBitVec.sshiftRight (BitVec.ofNat 32 N).toNat = 0#32 ↔ _
  rw [BitVec.toNat_ofNat, Nat.mod_eq_of_lt (by omega)]
  have hm : x.toBitVec.msb = false := by rw [BitVec.msb_eq_getLsbD_last]; exact h 31 (by omega)
  constructor
  · intro e c hc hx
    rcases Nat.lt_or_ge c N with q | q
    · exact q
    · exfalso
      apply hx
      rw [s_bit_l hc]
      have e1 := congrArg (fun v => v.getLsbD (c - N)) e
      simp only [BitVec.getLsbD_sshiftRight] at e1
      rw [show N + (c - N) = c by omega] at e1
      simpa [show ¬ (32 ≤ c - N) by omega, show c < 32 by omega] using e1
  · intro e
    apply BitVec.eq_of_getLsbD_eq
    intro i hi
    rw [BitVec.getLsbD_sshiftRight, BitVec.getLsbD_zero]
    have e2 : x.toBitVec.getLsbD (N + i) = false := by
      rcases Nat.lt_or_ge (N + i) 25 with q | q
      · rcases Bool.eq_false_or_eq_true (x.toBitVec.getLsbD (N + i)) with w | w
        · exfalso
          have := e (N + i) q (fun v => by rw [s_bit_l q, w] at v; cases v)
          omega
        · exact w
      · exact h _ q
    rw [e2, hm]
    simp
theorem k_wh {W H : Nat} (h : W ≤ 5 ∧ H ≤ 5) : Int32.ofNat W * Int32.ofNat H = Int32.ofNat (W * H) ∧ W * H ≤ 25 := by
  have z : (List.range 6).all (fun W => (List.range 6).all (fun H => decide (Int32.ofNat W * Int32.ofNat H = Int32.ofNat (W * H) ∧ W * H ≤ 25))) = true := by decide +kernel
  exact of_decide_eq_true (List.all_eq_true.mp (List.all_eq_true.mp z W (List.mem_range.mpr (by omega))) H (List.mem_range.mpr (by omega)))
theorem k_mis {r : qM} (h : k_dm r) (hn : k_dn r) : ∃ N, r 70 6 * r 70 7 = Int32.ofNat N ∧ N ≤ 25 ∧ ((r 70 10 < r 70 6 * r 70 7 ∧ r 70 11 < r 70 8) ↔ k_A r N ∧ k_B r N ∧ k_C r N) := by
  obtain ⟨⟨W, H, w1, w2, w3, w4, w5, w6⟩, d2, d3, d4, d5, d6, d7, d8, _⟩ := h
  have e := k_wh (W := W) (H := H) ⟨w2, w4⟩
  have h5 := hn.2.1
  refine ⟨W * H, by rw [w5, w6]; exact e.1, e.2, ?_⟩
  rw [w5, w6, e.1, hn.1, Int32.lt_iff_toInt_lt, Int32.lt_iff_toInt_lt, q_nat (by have := e.2; omega), q_nat (by omega), d7 (W * H), d8 (t_n r)]
  unfold k_C
  rw [k_shr0 e.2 d6]
  have ei : (i_none : Int32) = Int32.ofInt (-4) := rfl
  constructor
  · rintro ⟨⟨a, g, c⟩, o⟩
    refine ⟨a, fun q hq => ?_, c⟩
    by_cases y : r 73 (15 + q) = i_none
    · exact Or.inl y
    · exact Or.inr ⟨o q hq y, g q hq⟩
  · rintro ⟨a, g, c⟩
    refine ⟨⟨a, fun q hq => ?_, c⟩, fun q hq y => ?_⟩
    · rcases g q hq with y | y
      · rw [y, ei, k_m4]
        omega
      · exact y.2
    · rcases g q hq with w | w
      · exact absurd w y
      · exact w.1
theorem k_ifc {c : Prop} [Decidable c] (h : ¬ (if c then (1 : Int32) else 0) = 0) : c := by
  by_cases e : c
  · exact e
  · rw [if_neg e] at h
    exact absurd rfl h
theorem k_ifn {c : Prop} [Decidable c] (h : (if c then (1 : Int32) else 0) = 0) : ¬ c := fun e => by
  rw [if_pos e] at h
  exact absurd h (by decide)
theorem sg_tb_1 (big : Nat → List Value → qM → qW → qR) (n0 : Nat) (G : qM) (U : qW) : qm_run pm_m big m_14 (n0 + 2) 51 [(0, .ref 11)] [] G U = qm_run pm_m big m_14 n0 55 [(0, .ref 11)] [.int (G 11 2)] G U := rfl
theorem sg_tb_2 (big : Nat → List Value → qM → qW → qR) (n0 : Nat) (G : qM) (U : qW) : qm_run pm_m big m_14 (n0 + 4) 58 [(0, .ref 11)] [] G U = qm_run pm_m big m_14 n0 66 [(0, .ref 11)] [.int (4 : Int32), .int (G 9 2)] G U := rfl
theorem sg_tb_3 (big : Nat → List Value → qM → qW → qR) (n0 : Nat) (G : qM) (U : qW) : qm_run pm_m big m_14 (n0 + 3) 69 [(0, .ref 11)] [] G U = qm_run pm_m big m_14 n0 76 [(0, .ref 11)] [.int (160 : Int32), .int (G 11 1)] G U := rfl
theorem sg_tb_4 (big : Nat → List Value → qM → qW → qR) (n0 : Nat) (G : qM) (U : qW) : qm_run pm_m big m_14 (n0 + 1) 79 [(0, .ref 11)] [] G U = qm_run pm_m big m_14 n0 80 [(0, .ref 11)] [.ref 11] G U := rfl
theorem sg_tb_5 (big : Nat → List Value → qM → qW → qR) (n0 : Nat) (G : qM) (U : qW) : qm_run pm_m big m_14 (n0 + 1) 83 [(0, .ref 11)] [] G U = qm_run pm_m big m_14 n0 84 [(0, .ref 11)] [.ref 11] G U := rfl
theorem sg_tb_6 (big : Nat → List Value → qM → qW → qR) (n0 : Nat) (G : qM) (U : qW) : qm_run pm_m big m_14 (n0 + 8) 87 [(0, .ref 11)] [] G U = qm_run pm_m big m_14 n0 101 [(0, .ref 11)] [.ref 9] (q_up G 11 1 ((G 11 1) + (1 : Int32))) U := rfl
theorem sg_tb_7 (big : Nat → List Value → qM → qW → qR) (n0 : Nat) (G : qM) (U : qW) : qm_run pm_m big m_14 (n0 + 1) 104 [(0, .ref 11)] [] G U = qm_run pm_m big m_14 n0 51 [(0, .ref 11)] [] G U := rfl
theorem sg_tb_8 (big : Nat → List Value → qM → qW → qR) (n0 : Nat) (G : qM) (U : qW) (v0 : Int32) : qm_run pm_m big m_38 (n0 + 1) 0 [(0, .ref 12), (1, .int v0)] [] G U = qm_run pm_m big m_38 n0 1 [(0, .ref 12), (1, .int v0)] [.int v0] G U := rfl
theorem sg_tb_9 (big : Nat → List Value → qM → qW → qR) (n0 : Nat) (G : qM) (U : qW) (v0 : Int32) : qm_run pm_m big m_38 (n0 + 2) 4 [(0, .ref 12), (1, .int v0)] [] G U = qm_run pm_m big m_38 n0 6 [(0, .ref 12), (1, .int v0)] [.ref 12, .int v0] G U := rfl
theorem sg_tb_10 (big : Nat → List Value → qM → qW → qR) (n0 : Nat) (G : qM) (U : qW) (v0 : Int32) : qm_run pm_m big m_40 (n0 + 1) 0 [(0, .ref 12), (1, .int v0)] [] G U = qm_run pm_m big m_40 n0 1 [(0, .ref 12), (1, .int v0)] [.int v0] G U := rfl
theorem sg_tb_11 (big : Nat → List Value → qM → qW → qR) (n0 : Nat) (G : qM) (U : qW) (v0 : Int32) : qm_run pm_m big m_40 (n0 + 3) 4 [(0, .ref 12), (1, .int v0)] [] G U = qm_run pm_m big m_40 n0 9 [(0, .ref 12), (1, .int v0)] [.int (G 12 3), .int v0] G U := rfl
theorem sg_tb_12 (big : Nat → List Value → qM → qW → qR) (n0 : Nat) (G : qM) (U : qW) (v0 : Int32) : qm_run pm_m big m_37 (n0 + 2) 42 [(0, .ref 11), (1, .int v0)] [] G U = qm_run pm_m big m_37 n0 44 [(0, .ref 11), (1, .int v0)] [.int (5 : Int32), .int v0] G U := rfl
theorem sg_tb_13 (big : Nat → List Value → qM → qW → qR) (n0 : Nat) (G : qM) (U : qW) (v0 : Int32) : qm_run pm_m big m_37 (n0 + 5) 99 [(0, .ref 11), (1, .int v0)] [] G U = qm_run pm_m big m_37 n0 110 [(0, .ref 11), (1, .int v0)] [.ref 12, .int (G 12 2)] G U := rfl
theorem sg_tb_14 (big : Nat → List Value → qM → qW → qR) (n0 : Nat) (G : qM) (U : qW) (v0 : Int32) (v1 : Int32) (v2 : Int32) : qm_run pm_m big m_37 (n0 + 1) 113 [(0, .ref 11), (1, .int v0)] [.int v2, .int v1] G U = qm_run pm_m big m_37 n0 114 [(0, .ref 11), (1, .int v0)] [.int (v1 >>> (v2 &&& 31))] G U := rfl
theorem sg_tb_15 (big : Nat → List Value → qM → qW → qR) (n0 : Nat) (G : qM) (U : qW) (v0 : Int32) : qm_run pm_m big m_37 (n0 + 4) 47 [(0, .ref 11), (1, .int v0)] [] G U = qm_run pm_m big m_37 n0 55 [(0, .ref 11), (1, .int v0)] [.int v0, .ref 16] G U := rfl
theorem sg_tb_16 (big : Nat → List Value → qM → qW → qR) (n0 : Nat) (G : qM) (U : qW) (v0 : Int32) (v1 : Int32) : qm_run pm_m big m_37 (n0 + 1) 56 [(0, .ref 11), (1, .int v0)] [.int v1] G U = qm_run pm_m big m_37 n0 58 [(0, .ref 11), (1, .int v0)] [.int (Int8.toInt32 (Int8.ofInt (-4))), .int v1] G U := rfl
theorem sg_tb_17 (big : Nat → List Value → qM → qW → qR) (n0 : Nat) (G : qM) (U : qW) (v0 : Int32) : qm_run pm_m big m_37 (n0 + 2) 93 [(0, .ref 11), (1, .int v0)] [] G U = qm_run pm_m big m_37 n0 42 [(0, .ref 11), (1, .int (v0 + (1 : Int32)))] [] G U := rfl
theorem sg_tb_18 (big : Nat → List Value → qM → qW → qR) (n0 : Nat) (G : qM) (U : qW) (v0 : Int32) : qm_run pm_m big m_37 (n0 + 3) 61 [(0, .ref 11), (1, .int v0)] [] G U = qm_run pm_m big m_37 n0 66 [(0, .ref 11), (1, .int v0)] [.int v0, .ref 12] G U := rfl
theorem sg_tb_19 (big : Nat → List Value → qM → qW → qR) (n0 : Nat) (G : qM) (U : qW) (v0 : Int32) : qm_run pm_m big m_37 (n0 + 6) 72 [(0, .ref 11), (1, .int v0)] [] G U = qm_run pm_m big m_37 n0 84 [(0, .ref 11), (1, .int v0)] [.int v0, .ref 16, .ref 12] G U := rfl
theorem sg_tb_20 (big : Nat → List Value → qM → qW → qR) (n0 : Nat) (G : qM) (U : qW) (v0 : Int32) : qm_run pm_m big m_37 (n0 + 4) 2 [(0, .ref 11), (1, .int v0)] [] G U = qm_run pm_m big m_37 n0 10 [(0, .ref 11), (1, .int v0)] [.int (G 12 3), .int v0] G U := rfl
theorem sg_tb_21 (big : Nat → List Value → qM → qW → qR) (n0 : Nat) (G : qM) (U : qW) (v0 : Int32) : qm_run pm_m big m_37 (n0 + 2) 40 [(0, .ref 11), (1, .int v0)] [] G U = qm_run pm_m big m_37 n0 42 [(0, .ref 11), (1, .int (0 : Int32))] [] G U := rfl
theorem sg_tb_22 (big : Nat → List Value → qM → qW → qR) (n0 : Nat) (G : qM) (U : qW) (v0 : Int32) : qm_run pm_m big m_37 (n0 + 6) 13 [(0, .ref 11), (1, .int v0)] [] G U = qm_run pm_m big m_37 n0 25 [(0, .ref 11), (1, .int v0)] [.int v0, .ref 13, .ref 12] G U := rfl
theorem sg_tb_23 (big : Nat → List Value → qM → qW → qR) (n0 : Nat) (G : qM) (U : qW) (v0 : Int32) : qm_run pm_m big m_37 (n0 + 2) 34 [(0, .ref 11), (1, .int v0)] [] G U = qm_run pm_m big m_37 n0 2 [(0, .ref 11), (1, .int (v0 + (1 : Int32)))] [] G U := rfl
theorem sg_tb_24 (big : Nat → List Value → qM → qW → qR) (n0 : Nat) (G : qM) (U : qW) : qm_run pm_m big m_37 (n0 + 2) 0 [(0, .ref 11)] [] G U = qm_run pm_m big m_37 n0 2 [(0, .ref 11), (1, .int (0 : Int32))] [] G U := rfl
theorem sg_tb_25 (big : Nat → List Value → qM → qW → qR) (n0 : Nat) (G : qM) (U : qW) : qm_run pm_m big m_5 (n0 + 24) 0 [(0, .ref 12)] [] G U = qm_run pm_m big m_5 n0 41 [(0, .ref 12)] [.int (Int8.toInt32 (Int8.ofInt (-4))), .ref 16] (q_up (q_up (q_up (q_up (q_up (q_up (q_up G 12 0 (3 : Int32)) 12 1 (3 : Int32)) 12 2 (0 : Int32)) 12 3 (0 : Int32)) 12 4 (0 : Int32)) 12 5 (0 : Int32)) 12 6 (0 : Int32)) U := rfl
theorem sg_tb_26 (big : Nat → List Value → qM → qW → qR) (n0 : Nat) (G : qM) (U : qW) : qm_run pm_m big m_5 (n0 + 40) 44 [(0, .ref 12)] [] G U = qm_run pm_m big m_5 n0 48 [(0, .ref 12), (1, .int (4 : Int32))] [.int (4 : Int32), .int (4 : Int32)] (q_up (q_up (q_up G 17 1 (4 : Int32)) 17 2 (3 : Int32)) 17 3 (2 : Int32)) U := rfl
theorem sg_tb_27 (big : Nat → List Value → qM → qW → qR) (n0 : Nat) (G : qM) (U : qW) : qm_run pm_m big m_14 (n0 + 2) 107 [(0, .ref 11)] [] G U = qm_run pm_m big m_14 n0 111 [(0, .ref 11)] [.int (G 11 2)] G U := rfl
theorem sg_tb_28 (big : Nat → List Value → qM → qW → qR) (n0 : Nat) (G : qM) (U : qW) : qm_run pm_m big m_14 (n0 + 1) 114 [(0, .ref 11)] [] G U = qm_run pm_m big m_14 n0 115 [(0, .ref 11)] [.ref 11] G U := rfl
theorem sg_tb_29 (big : Nat → List Value → qM → qW → qR) (n0 : Nat) (G : qM) (U : qW) : qm_run pm_m big m_14 (n0 + 5) 121 [(0, .ref 11)] [] G U = qm_run pm_m big m_14 n0 131 [(0, .ref 11)] [.int (G 9 1), .int (6 : Int32), .ref 11] G U := rfl
theorem sg_tb_30 (big : Nat → List Value → qM → qW → qR) (n0 : Nat) (G : qM) (U : qW) : qm_run pm_m big m_14 (n0 + 2) 0 [(0, .ref 11)] [] G U = qm_run pm_m big m_14 n0 4 [(0, .ref 11)] [.ref 12] G U := rfl
theorem sg_tb_31 (big : Nat → List Value → qM → qW → qR) (n0 : Nat) (G : qM) (U : qW) : qm_run pm_m big m_14 (n0 + 20) 7 [(0, .ref 11)] [] G U = qm_run pm_m big m_14 n0 41 [(0, .ref 11)] [.ref 9] (q_up (q_up (q_up (q_up (q_up (q_up G 11 1 (0 : Int32)) 11 2 (0 : Int32)) 11 3 (0 : Int32)) 11 5 (0 : Int32)) 11 6 (0 : Int32)) 11 7 (0 : Int32)) U := rfl
theorem sg_tb_32 (big : Nat → List Value → qM → qW → qR) (n0 : Nat) (G : qM) (U : qW) : qm_run pm_m big m_14 (n0 + 2) 44 [(0, .ref 11)] [] G U = qm_run pm_m big m_14 n0 48 [(0, .ref 11)] [.ref 9] G U := rfl
theorem sg_tb_33 (big : Nat → List Value → qM → qW → qR) (n0 : Nat) (G : qM) (U : qW) : qm_run pm_m big m_13 (n0 + 2) 0 [(0, .ref 8)] [] G U = qm_run pm_m big m_13 n0 4 [(0, .ref 8)] [.ref 11] G U := rfl
theorem sg_tb_34 (big : Nat → List Value → qM → qW → qR) (n0 : Nat) (G : qM) (U : qW) : qm_run pm_m big m_13 (n0 + 7) 7 [(0, .ref 8)] [] G U = qm_run pm_m big m_13 n0 22 [(0, .ref 8)] [.int (G 11 2)] (q_up G 9 1 (0 : Int32)) U := rfl
theorem sg_tb_35 (big : Nat → List Value → qM → qW → qR) (n0 : Nat) (G : qM) (U : qW) : qm_run pm_m big m_13 (n0 + 5) 36 [(0, .ref 8)] [] G U = qm_run pm_m big m_13 n0 47 [(0, .ref 8)] [.ref 12, .ref 20] G U := rfl
theorem tb_bad {Q : Option Value × qM × qW → Prop} (g : qM) (u : qW) (hf : ¬ g 11 2 = 0) (hQ : q_EV m_14 107 [(0, .ref 11)] [] g u Q) : q_EV m_14 51 [(0, .ref 11)] [] g u Q := by
  refine q_step 2 55 [(0, .ref 11)] [.int (g 11 2)] g u (fun big n0 => sg_tb_1 big n0 g u) ?_
  refine q_if_ne rfl (fun hc0 => absurd (show (g 11 2) = 0 from hc0) (hf)) (fun (hc0 : ¬ ((g 11 2) = 0)) => ?_)
  exact hQ
theorem tb_l {b : Nat → Int32} {s : Nat} (u : qW) {Q : Option Value × qM × qW → Prop} : ∀ k p m r g g0, k_fT g0 g → k_lp b s p m r g → s < p + k → (∀ g', k_af (o_tape b s k p m r) g0 g' → q_EV m_14 107 [(0, .ref 11)] [] g' u Q) → q_EV m_14 51 [(0, .ref 11)] [] g u Q := by
  intro k
  induction k with
  | zero =>
    intro p m r g g0 hfr hl hk
    have := hl.1.2.2.2.1
    omega
  | succ k ih =>
    intro p m r g g0 hfr hl hk hQ
    have hcc := hl.cc
    obtain ⟨⟨hb, hs, h160, hp, hm⟩, ⟨h92, h93, h95, h2, h1⟩, hd, hn⟩ := hl
    have hfp := (t_pl_b (b := b) hp).1
    have hps := (t_pl_b (b := b) hp).2.1
    refine q_step 2 55 [(0, .ref 11)] [.int (g 11 2)] g u (fun big n0 => sg_tb_1 big n0 g u) ?_
    refine q_if_ne rfl (fun (hc0 : (g 11 2) = 0) => ?_) (fun hc0 => absurd (show (g 11 2) = 0 from h2) hc0)
    refine q_step 4 66 [(0, .ref 11)] [.int (4 : Int32), .int (g 9 2)] g u (fun big n0 => sg_tb_2 big n0 g u) ?_
    refine q_ic_eq rfl (fun (hc1 : (g 9 2) = (4 : Int32)) => ?_) (fun (hc1 : ¬ ((g 9 2) = (4 : Int32))) => ?_)
    · refine hQ g ?_
      rw [o_tape, if_pos (h92.symm.trans hc1)]
      exact ⟨hfr, h1, fun z => absurd rfl z, fun _ => ⟨h2, hd⟩⟩
    · refine q_step 3 76 [(0, .ref 11)] [.int (160 : Int32), .int (g 11 1)] g u (fun big n0 => sg_tb_3 big n0 g u) ?_
      refine q_ic_gt rfl (fun hc2 => absurd (show (160 : Int32) < (g 11 1) from hc2) (fun z => by rw [h1, show (160 : Int32) = Int32.ofNat 160 from rfl, q_lt (by omega) (by omega)] at z; omega)) (fun (hc2 : ¬ ((160 : Int32) < (g 11 1))) => ?_)
      refine q_step 1 80 [(0, .ref 11)] [.ref 11] g u (fun big n0 => sg_tb_4 big n0 g u) ?_
      obtain ⟨_, q1, g1, rfl, k1⟩ := c_line g u hcc hfp
      rw [hb, h92] at k1
      refine q_call (M2 := 19) (rest := []) (q1) (fun _ _ => rfl) ?_
      refine q_step 1 84 [(0, .ref 11)] [.ref 11] g1 u (fun big n0 => sg_tb_5 big n0 g1 u) ?_
      have hs1 := k1.1.2.1.1.trans hs
      obtain ⟨g2, q2, k2⟩ := c_fin u k1 ((k1.1.1 10 (by omega)).trans hb) hs1 h160
      have hb2 := (k2.1.1 10 (by omega)).trans hb
      have hs2 := k2.1.2.1.1.trans hs
      refine q_call (M2 := 36) (rest := []) (q2) (fun _ _ => rfl) ?_
      refine q_step 8 101 [(0, .ref 11)] [.ref 9] (q_up g2 11 1 ((g2 11 1) + (1 : Int32))) u (fun big n0 => sg_tb_6 big n0 g2 u) ?_
      by_cases hc3 : (o_fin b s (o_line b s (t_fi b s p) (t_pl b s p) (t_ki b s p) r)).1 = 0
      · obtain ⟨z2, z5, zp, zd⟩ := k2.2.2 hc3
        obtain ⟨g3, q3, f3, e3, x2, x3, x5⟩ := c_nxk (q_up g2 11 1 ((g2 11 1) + (1 : Int32))) u (b := b) ((q_up_ne (by decide)).trans hb2) hs2 h160 z5 zp
        refine q_call (M2 := 16) (rest := []) (q3) (fun _ _ => rfl) ?_
        refine q_step 1 51 [(0, .ref 11)] [] g3 u (fun big n0 => sg_tb_7 big n0 g3 u) ?_
        have ee : g3 11 = q_up g2 11 1 (g2 11 1 + 1) 11 := e3
        have h31 : g3 11 1 = Int32.ofNat (m + 1) := by
          rw [ee, q_up_at, if_pos rfl, k2.1.2.1.2, h1, q_succ]
        have hF : k_fT g0 g3 := ((hfr.trans k2.1.T).up (by omega)).trans f3.ft.T
        have zo := k_on_fin (b := b) (k_on_line (b := b) (f := t_fi b s p) (k := t_ki b s p) hn hps) hc3
        have hlt := (t_pl_b (b := b) hp).2.2 (t_ki_fi (fun z => hc1 (h92.trans z)))
        have hfi := (t_fi_b (b := b) hp).1
        refine ih _ (m + 1) _ g3 g0 hF ⟨⟨(f3.1 10 (by decide) (by decide)).trans ((q_up_ne (by decide)).trans hb2), (f3.2.1 1 (by omega)).trans hs2, h160, zp, by omega⟩, ⟨x2, x3, x5, ?_, h31⟩, zd.e1.f9 f3, zo.1⟩ (by omega) (fun g' hg => hQ g' ?_)
        · rw [ee, q_up_at, if_neg (by decide)]
          exact z2
        · rw [o_tape, if_neg (fun z => hc1 (h92.trans z)), if_pos hc3]
          exact hg
      · obtain ⟨y2, y3⟩ := k2.2.1 hc3
        obtain ⟨g3, q3, f3, e3⟩ := c_nxf (q_up g2 11 1 ((g2 11 1) + (1 : Int32))) u (k_pl.up (k2.1.2.2 ⟨s, _, hs, h160, h95, hps⟩) (by omega))
        refine q_call (M2 := 16) (rest := []) (q3) (fun _ _ => rfl) ?_
        refine q_step 1 51 [(0, .ref 11)] [] g3 u (fun big n0 => sg_tb_7 big n0 g3 u) ?_
        have ee : g3 11 = q_up g2 11 1 (g2 11 1 + 1) 11 := e3
        have h31 : g3 11 1 = Int32.ofNat (m + 1) := by
          rw [ee, q_up_at, if_pos rfl, k2.1.2.1.2, h1, q_succ]
        have hF : k_fT g0 g3 := ((hfr.trans k2.1.T).up (by omega)).trans f3.ft.T
        have h32 : g3 11 2 = (o_fin b s (o_line b s (t_fi b s p) (t_pl b s p) (t_ki b s p) r)).1 := by
          rw [ee, q_up_at, if_neg (by decide)]
          exact y2
        refine tb_bad g3 u (by rw [h32]; exact hc3) (hQ g3 ?_)
        rw [o_tape, if_neg (fun z => hc1 (h92.trans z)), if_neg hc3]
        refine ⟨hF, h31, fun _ => ⟨h32, ?_⟩, fun z => absurd z hc3⟩
        rw [ee, q_up_at, if_neg (by decide)]
        exact y3
def d_size12 (g : qM) : Int32 := ((g 12 0) * (g 12 1))
theorem b_size12 (g : qM) (u : qW) : q_BS 39 [.ref 12] g u (some (.int (d_size12 g)), g, u) := by
  refine q_bx (mm := m_39) rfl (Nat.le_of_ble_eq_true rfl) rfl ?_
  refine q_ret 6 (some (.int ((g 12 0) * (g 12 1))), g, u) (fun _ _ => rfl) ?_
  unfold d_size12
  rfl
theorem b_hc12 {N C : Nat} (g : qM) (u : qW) (hN : g 12 0 * g 12 1 = Int32.ofNat N) (h25 : N ≤ 25) (hC : C < 25) : q_BS 38 [.ref 12, .int (Int32.ofNat C)] g u (some (.int (if C < N then 1 else 0)), g, u) := by
  refine q_bx (mm := m_38) rfl (Nat.le_of_ble_eq_true rfl) rfl ?_
  refine q_step 1 1 [(0, .ref 12), (1, .int (Int32.ofNat C))] [.int (Int32.ofNat C)] g u (fun big n0 => sg_tb_8 big n0 g u (Int32.ofNat C)) ?_
  refine q_if_lt rfl (fun hc0 => absurd (show (Int32.ofNat C) < 0 from hc0) (fun z => by rw [show (0 : Int32) = Int32.ofNat 0 from rfl, q_lt (by omega) (by omega)] at z; omega)) (fun (hc0 : ¬ ((Int32.ofNat C) < 0)) => ?_)
  refine q_step 2 6 [(0, .ref 12), (1, .int (Int32.ofNat C))] [.ref 12, .int (Int32.ofNat C)] g u (fun big n0 => sg_tb_9 big n0 g u (Int32.ofNat C)) ?_
  refine q_call (M2 := 39) (rest := [.int (Int32.ofNat C)]) (b_size12 _ _) (fun _ _ => rfl) ?_
  refine q_ic_ge rfl (fun (hc1 : (d_size12 g) ≤ (Int32.ofNat C)) => ?_) (fun (hc1 : ¬ ((d_size12 g) ≤ (Int32.ofNat C))) => ?_)
  · refine q_ret 2 (some (.int (0 : Int32)), g, u) (fun _ _ => rfl) ?_
    rw [if_neg (fun z => absurd (show d_size12 g ≤ Int32.ofNat C from hc1) (by unfold d_size12; rw [hN, q_le (by omega) (by omega)]; omega))]
  · refine q_ret 3 (some (.int (1 : Int32)), g, u) (fun _ _ => rfl) ?_
    rw [if_pos (by
      have z := hc1
      unfold d_size12 at z
      rw [hN, q_le (by omega) (by omega)] at z
      omega)]
theorem b_ho12 {n p : Nat} (g : qM) (u : qW) (hn : g 12 3 = Int32.ofNat n) (h5 : n ≤ 5) (hp : p < 25) : q_BS 40 [.ref 12, .int (Int32.ofNat p)] g u (some (.int (if p < n then 1 else 0)), g, u) := by
  refine q_bx (mm := m_40) rfl (Nat.le_of_ble_eq_true rfl) rfl ?_
  refine q_step 1 1 [(0, .ref 12), (1, .int (Int32.ofNat p))] [.int (Int32.ofNat p)] g u (fun big n0 => sg_tb_10 big n0 g u (Int32.ofNat p)) ?_
  refine q_if_lt rfl (fun hc0 => absurd (show (Int32.ofNat p) < 0 from hc0) (fun z => by rw [show (0 : Int32) = Int32.ofNat 0 from rfl, q_lt (by omega) (by omega)] at z; omega)) (fun (hc0 : ¬ ((Int32.ofNat p) < 0)) => ?_)
  refine q_step 3 9 [(0, .ref 12), (1, .int (Int32.ofNat p))] [.int (g 12 3), .int (Int32.ofNat p)] g u (fun big n0 => sg_tb_11 big n0 g u (Int32.ofNat p)) ?_
  refine q_ic_ge rfl (fun (hc1 : (g 12 3) ≤ (Int32.ofNat p)) => ?_) (fun (hc1 : ¬ ((g 12 3) ≤ (Int32.ofNat p))) => ?_)
  · refine q_ret 2 (some (.int (0 : Int32)), g, u) (fun _ _ => rfl) ?_
    rw [if_neg (fun z => absurd (show g 12 3 ≤ Int32.ofNat p from hc1) (by rw [hn, q_le (by omega) (by omega)]; omega))]
  · refine q_ret 3 (some (.int (1 : Int32)), g, u) (fun _ _ => rfl) ?_
    rw [if_pos (by
      have z := hc1
      rw [hn, q_le (by omega) (by omega)] at z
      omega)]
theorem nw_2 {r : qM} {N : Nat} (g : qM) (u : qW) (hd : k_dc r g) (hn : k_dn r) (hm : k_dm r) (hN : g 12 0 * g 12 1 = Int32.ofNat N) (h25 : N ≤ 25) (hA : k_A r N) : ∀ k i, i + k = 5 → (∀ q, q < i → r 73 (15 + q) = i_none ∨ (q < t_n r ∧ (r 73 (15 + q)).toInt < N)) → q_EV m_37 42 [(0, .ref 11), (1, .int (Int32.ofNat i))] [] g u (fun R => ∃ v, R = (some (.int v), g, u) ∧ ((v = 0 ∧ (k_A r N ∧ k_B r N ∧ k_C r N)) ∨ (v = 1 ∧ ¬ (k_A r N ∧ k_B r N ∧ k_C r N)))) := by
  intro k
  induction k with
  | zero =>
    intro i hi hB
    have hn3 : g 12 3 = Int32.ofNat (t_n r) := hd.1.2.2.2.1.trans hn.1
    have h5 := hn.2.1
    
    have hi5 : i = 5 := by omega
    subst hi5
    refine q_step 2 44 [(0, .ref 11), (1, .int (Int32.ofNat 5))] [.int (5 : Int32), .int (Int32.ofNat 5)] g u (fun big n0 => sg_tb_12 big n0 g u (Int32.ofNat 5)) ?_
    refine q_ic_ge rfl (fun (hc0 : (5 : Int32) ≤ (Int32.ofNat 5)) => ?_) (fun hc0 => absurd (show (5 : Int32) ≤ (Int32.ofNat 5) from by decide) hc0)
    refine q_step 5 110 [(0, .ref 11), (1, .int (Int32.ofNat 5))] [.ref 12, .int (g 12 2)] g u (fun big n0 => sg_tb_13 big n0 g u (Int32.ofNat 5)) ?_
    refine q_call (M2 := 39) (rest := [.int (g 12 2)]) (b_size12 _ _) (fun _ _ => rfl) ?_
    refine q_step 1 114 [(0, .ref 11), (1, .int (Int32.ofNat 5))] [.int ((g 12 2) >>> ((d_size12 g) &&& 31))] g u (fun big n0 => sg_tb_14 big n0 g u (Int32.ofNat 5) (g 12 2) (d_size12 g)) ?_
    refine q_if_eq rfl (fun (hc1 : ((g 12 2) >>> ((d_size12 g) &&& 31)) = 0) => ?_) (fun (hc1 : ¬ (((g 12 2) >>> ((d_size12 g) &&& 31)) = 0)) => ?_)
    · refine q_ret 2 (some (.int (0 : Int32)), g, u) (fun _ _ => rfl) ?_
      have hC : g 12 2 >>> (d_size12 g &&& 31) = r 73 20 >>> (Int32.ofNat N &&& 31) := by unfold d_size12; rw [hN, hd.1.2.2.1]
      exact ⟨_, rfl, Or.inl ⟨rfl, hA, hB, hC.symm.trans hc1⟩⟩
    · refine q_ret 3 (some (.int (1 : Int32)), g, u) (fun _ _ => rfl) ?_
      have hC : g 12 2 >>> (d_size12 g &&& 31) = r 73 20 >>> (Int32.ofNat N &&& 31) := by unfold d_size12; rw [hN, hd.1.2.2.1]
      exact ⟨_, rfl, Or.inr ⟨rfl, fun z => hc1 (hC.trans z.2.2)⟩⟩
  | succ k ih =>
    intro i hi hB
    have hn3 : g 12 3 = Int32.ofNat (t_n r) := hd.1.2.2.2.1.trans hn.1
    have h5 := hn.2.1
    
    have hgo := hd.2.2.2.1 i (by omega)
    refine q_step 2 44 [(0, .ref 11), (1, .int (Int32.ofNat i))] [.int (5 : Int32), .int (Int32.ofNat i)] g u (fun big n0 => sg_tb_12 big n0 g u (Int32.ofNat i)) ?_
    refine q_ic_ge rfl (fun hc0 => absurd (show (5 : Int32) ≤ (Int32.ofNat i) from hc0) (fun z => by rw [show (5 : Int32) = Int32.ofNat 5 from rfl, q_le (by omega) (by omega)] at z; omega)) (fun (hc0 : ¬ ((5 : Int32) ≤ (Int32.ofNat i))) => ?_)
    refine q_step 4 55 [(0, .ref 11), (1, .int (Int32.ofNat i))] [.int (Int32.ofNat i), .ref 16] g u (fun big n0 => sg_tb_15 big n0 g u (Int32.ofNat i)) ?_
    refine q_iald (j := i) (q_ixn (by omega) (by omega)) rfl rfl ?_
    refine q_step 1 58 [(0, .ref 11), (1, .int (Int32.ofNat i))] [.int (Int8.toInt32 (Int8.ofInt (-4))), .int (g 16 i)] g u (fun big n0 => sg_tb_16 big n0 g u (Int32.ofNat i) (g 16 i)) ?_
    refine q_ic_eq rfl (fun (hc1 : (g 16 i) = (Int8.toInt32 (Int8.ofInt (-4)))) => ?_) (fun (hc1 : ¬ ((g 16 i) = (Int8.toInt32 (Int8.ofInt (-4))))) => ?_)
    · refine q_step 2 42 [(0, .ref 11), (1, .int ((Int32.ofNat i) + (1 : Int32)))] [] g u (fun big n0 => sg_tb_17 big n0 g u (Int32.ofNat i)) ?_
      rw [q_succ]
      refine ih (i + 1) (by omega) (fun q hq => ?_)
      by_cases e : q = i
      · rw [e]
        exact Or.inl (hgo.symm.trans hc1)
      · exact hB q (by omega)
    · refine q_step 3 66 [(0, .ref 11), (1, .int (Int32.ofNat i))] [.int (Int32.ofNat i), .ref 12] g u (fun big n0 => sg_tb_18 big n0 g u (Int32.ofNat i)) ?_
      refine q_call (M2 := 40) (rest := []) (b_ho12 g u hn3 h5 (by omega)) (fun _ _ => rfl) ?_
      refine q_if_eq rfl (fun (hc2 : (if i < t_n r then 1 else 0) = 0) => ?_) (fun (hc2 : ¬ ((if i < t_n r then 1 else 0) = 0)) => ?_)
      · refine q_ret 2 (some (.int (1 : Int32)), g, u) (fun _ _ => rfl) ?_
        refine ⟨_, rfl, Or.inr ⟨rfl, fun z => ?_⟩⟩
        rcases z.2.1 i (by omega) with y | y
        · exact absurd (hgo.trans y) hc1
        · exact absurd hc2 (by rw [if_pos y.1]; decide)
      · refine q_step 6 84 [(0, .ref 11), (1, .int (Int32.ofNat i))] [.int (Int32.ofNat i), .ref 16, .ref 12] g u (fun big n0 => sg_tb_19 big n0 g u (Int32.ofNat i)) ?_
        refine q_iald (j := i) (q_ixn (by omega) (by omega)) rfl rfl ?_
        have hx : ∃ C, C < 25 ∧ r 73 (15 + i) = Int32.ofNat C := (hm.2.2.2.2.1 i (by omega)).resolve_left (fun z => hc1 (hgo.trans z))
        obtain ⟨C, hC, eC⟩ := hx
        refine q_call (M2 := 38) (rest := []) (by rw [hgo, eC]; exact b_hc12 g u hN h25 hC) (fun _ _ => rfl) ?_
        refine q_if_ne rfl (fun (hc3 : (if C < N then 1 else 0) = 0) => ?_) (fun (hc3 : ¬ ((if C < N then 1 else 0) = 0)) => ?_)
        · refine q_ret 2 (some (.int (1 : Int32)), g, u) (fun _ _ => rfl) ?_
          refine ⟨_, rfl, Or.inr ⟨rfl, fun z => ?_⟩⟩
          rcases z.2.1 i (by omega) with y | y
          · exact absurd (hgo.trans y) hc1
          · have y2 := y.2
            rw [eC, q_nat (by omega)] at y2
            exact absurd hc3 (by rw [if_pos (by omega)]; decide)
        · refine q_step 2 42 [(0, .ref 11), (1, .int ((Int32.ofNat i) + (1 : Int32)))] [] g u (fun big n0 => sg_tb_17 big n0 g u (Int32.ofNat i)) ?_
          rw [q_succ]
          refine ih (i + 1) (by omega) (fun q hq => ?_)
          by_cases e : q = i
          · rw [e]
            exact Or.inr ⟨k_ifc hc2, by have y := k_ifc hc3; rw [eC, q_nat (by omega)]; omega⟩
          · exact hB q (by omega)
theorem nw_1 {r : qM} {N : Nat} (g : qM) (u : qW) (hd : k_dc r g) (hn : k_dn r) (hm : k_dm r) (hN : g 12 0 * g 12 1 = Int32.ofNat N) (h25 : N ≤ 25) : ∀ k i, i + k = t_n r → (∀ p, p < i → (r 73 p).toInt < N) → q_EV m_37 2 [(0, .ref 11), (1, .int (Int32.ofNat i))] [] g u (fun R => ∃ v, R = (some (.int v), g, u) ∧ ((v = 0 ∧ (k_A r N ∧ k_B r N ∧ k_C r N)) ∨ (v = 1 ∧ ¬ (k_A r N ∧ k_B r N ∧ k_C r N)))) := by
  intro k
  induction k with
  | zero =>
    intro i hi hA
    have hn3 : g 12 3 = Int32.ofNat (t_n r) := hd.1.2.2.2.1.trans hn.1
    have h5 := hn.2.1
    
    have hi5 : i = t_n r := by omega
    subst hi5
    refine q_step 4 10 [(0, .ref 11), (1, .int (Int32.ofNat (t_n r)))] [.int (g 12 3), .int (Int32.ofNat (t_n r))] g u (fun big n0 => sg_tb_20 big n0 g u (Int32.ofNat (t_n r))) ?_
    refine q_ic_ge rfl (fun (hc0 : (g 12 3) ≤ (Int32.ofNat (t_n r))) => ?_) (fun hc0 => absurd (show (g 12 3) ≤ (Int32.ofNat (t_n r)) from by rw [hn3]; exact (q_le (by omega) (by omega)).mpr (by omega)) hc0)
    refine q_step 2 42 [(0, .ref 11), (1, .int (0 : Int32))] [] g u (fun big n0 => sg_tb_21 big n0 g u (Int32.ofNat (t_n r))) ?_
    exact nw_2 g u hd hn hm hN h25 hA 5 0 (by omega) (fun q hq => absurd hq (by omega))
  | succ k ih =>
    intro i hi hA
    have hn3 : g 12 3 = Int32.ofNat (t_n r) := hd.1.2.2.2.1.trans hn.1
    have h5 := hn.2.1
    
    have hce := (hd.2.2.1 i (by omega)).1
    obtain ⟨C, hC, eC⟩ := (hm.2.1 i (by omega)).1
    refine q_step 4 10 [(0, .ref 11), (1, .int (Int32.ofNat i))] [.int (g 12 3), .int (Int32.ofNat i)] g u (fun big n0 => sg_tb_20 big n0 g u (Int32.ofNat i)) ?_
    refine q_ic_ge rfl (fun hc0 => absurd (show (g 12 3) ≤ (Int32.ofNat i) from hc0) (fun z => by rw [hn3, q_le (by omega) (by omega)] at z; omega)) (fun (hc0 : ¬ ((g 12 3) ≤ (Int32.ofNat i))) => ?_)
    refine q_step 6 25 [(0, .ref 11), (1, .int (Int32.ofNat i))] [.int (Int32.ofNat i), .ref 13, .ref 12] g u (fun big n0 => sg_tb_22 big n0 g u (Int32.ofNat i)) ?_
    refine q_iald (j := i) (q_ixn (by omega) (by omega)) rfl rfl ?_
    refine q_call (M2 := 38) (rest := []) (by rw [hce, eC]; exact b_hc12 g u hN h25 hC) (fun _ _ => rfl) ?_
    refine q_if_ne rfl (fun (hc1 : (if C < N then 1 else 0) = 0) => ?_) (fun (hc1 : ¬ ((if C < N then 1 else 0) = 0)) => ?_)
    · refine q_ret 2 (some (.int (1 : Int32)), g, u) (fun _ _ => rfl) ?_
      refine ⟨_, rfl, Or.inr ⟨rfl, fun z => ?_⟩⟩
      have y2 := z.1 i (by omega)
      rw [eC, q_nat (by omega)] at y2
      exact absurd hc1 (by rw [if_pos (by omega)]; decide)
    · refine q_step 2 2 [(0, .ref 11), (1, .int ((Int32.ofNat i) + (1 : Int32)))] [] g u (fun big n0 => sg_tb_23 big n0 g u (Int32.ofNat i)) ?_
      rw [q_succ]
      refine ih (i + 1) (by omega) (fun q hq => ?_)
      by_cases e : q = i
      · rw [e, eC, q_nat (by omega)]
        by_cases y : C < N
        · omega
        · exact absurd (if_neg y) hc1
      · exact hA q (by omega)
theorem c_nwn {r : qM} (g : qM) (u : qW) (hd : k_dc r g) (hn : k_dn r) (hm : k_dm r) : q_BS 37 [.ref 11] g u (some (.int (if r 70 10 < r 70 6 * r 70 7 ∧ r 70 11 < r 70 8 then 0 else 1)), g, u) := by
  obtain ⟨N, eN, h25, hiff⟩ := k_mis hm hn
  have hN : g 12 0 * g 12 1 = Int32.ofNat N := by rw [hd.1.1, hd.1.2.1]; exact eN
  have hh : ∃ R, q_BS 37 [.ref 11] g u R ∧ ∃ v, R = (some (.int v), g, u) ∧ ((v = 0 ∧ (k_A r N ∧ k_B r N ∧ k_C r N)) ∨ (v = 1 ∧ ¬ (k_A r N ∧ k_B r N ∧ k_C r N))) := by
    refine q_bs (mm := m_37) rfl (Nat.le_of_ble_eq_true rfl) rfl ?_
    refine q_step 2 2 [(0, .ref 11), (1, .int (0 : Int32))] [] g u (fun big n0 => sg_tb_24 big n0 g u) ?_
    exact nw_1 g u hd hn hm hN h25 (t_n r) 0 (by omega) (fun q hq => absurd hq (by omega))
  obtain ⟨_, hq, v, rfl, hv⟩ := hh
  by_cases e : r 70 10 < r 70 6 * r 70 7 ∧ r 70 11 < r 70 8
  · rw [if_pos e]
    rcases hv with hv | hv
    · rw [hv.1] at hq
      exact hq
    · exact absurd (hiff.mp e) hv.2
  · rw [if_neg e]
    rcases hv with hv | hv
    · exact absurd (hiff.mpr hv.2) e
    · rw [hv.1] at hq
      exact hq
def s_clr (g : qM) : qM := (q_up (q_up (q_up (q_up (s_row_ 16 (fun _ => (Int8.toInt32 (Int8.ofInt (-4)))) 6 (q_up (q_up (q_up (q_up (q_up (q_up (q_up g 12 0 (3 : Int32)) 12 1 (3 : Int32)) 12 2 (0 : Int32)) 12 3 (0 : Int32)) 12 4 (0 : Int32)) 12 5 (0 : Int32)) 12 6 (0 : Int32))) 17 1 (4 : Int32)) 17 2 (3 : Int32)) 17 3 (2 : Int32)) 17 4 (1 : Int32))
theorem b_clear12 (g : qM) (u : qW) : q_BS 5 [.ref 12] g u (none, s_clr g, u) := by
  refine q_bx (mm := m_5) rfl (Nat.le_of_ble_eq_true rfl) rfl ?_
  refine q_step 24 41 [(0, .ref 12)] [.int (Int8.toInt32 (Int8.ofInt (-4))), .ref 16] (q_up (q_up (q_up (q_up (q_up (q_up (q_up g 12 0 (3 : Int32)) 12 1 (3 : Int32)) 12 2 (0 : Int32)) 12 3 (0 : Int32)) 12 4 (0 : Int32)) 12 5 (0 : Int32)) 12 6 (0 : Int32)) u (fun big n0 => sg_tb_25 big n0 g u) ?_
  refine q_call (M2 := 6) (rest := []) (b_fill16 _ _ _) (fun _ _ => rfl) ?_
  refine q_step 40 48 [(0, .ref 12), (1, .int (4 : Int32))] [.int (4 : Int32), .int (4 : Int32)] (q_up (q_up (q_up (s_row_ 16 (fun _ => (Int8.toInt32 (Int8.ofInt (-4)))) 6 (q_up (q_up (q_up (q_up (q_up (q_up (q_up g 12 0 (3 : Int32)) 12 1 (3 : Int32)) 12 2 (0 : Int32)) 12 3 (0 : Int32)) 12 4 (0 : Int32)) 12 5 (0 : Int32)) 12 6 (0 : Int32))) 17 1 (4 : Int32)) 17 2 (3 : Int32)) 17 3 (2 : Int32)) u (fun big n0 => sg_tb_26 big n0 (s_row_ 16 (fun _ => (Int8.toInt32 (Int8.ofInt (-4)))) 6 (q_up (q_up (q_up (q_up (q_up (q_up (q_up g 12 0 (3 : Int32)) 12 1 (3 : Int32)) 12 2 (0 : Int32)) 12 3 (0 : Int32)) 12 4 (0 : Int32)) 12 5 (0 : Int32)) 12 6 (0 : Int32))) u) ?_
  refine q_ret 14 (none, (q_up (q_up (q_up (q_up (s_row_ 16 (fun _ => (Int8.toInt32 (Int8.ofInt (-4)))) 6 (q_up (q_up (q_up (q_up (q_up (q_up (q_up g 12 0 (3 : Int32)) 12 1 (3 : Int32)) 12 2 (0 : Int32)) 12 3 (0 : Int32)) 12 4 (0 : Int32)) 12 5 (0 : Int32)) 12 6 (0 : Int32))) 17 1 (4 : Int32)) 17 2 (3 : Int32)) 17 3 (2 : Int32)) 17 4 (1 : Int32)), u) (fun _ _ => rfl) ?_
  rfl
theorem b_rew (g : qM) (u : qW) : q_BS 15 [.ref 9] g u (none, q_up g 9 5 0, u) := by
  refine q_bx (mm := m_15) rfl (Nat.le_of_ble_eq_true rfl) rfl ?_
  refine q_ret 4 (none, (q_up g 9 5 (0 : Int32)), u) (fun _ _ => rfl) ?_
  rfl
theorem s_clr_T (g : qM) : k_fT g (s_clr g) := by
  unfold s_clr
  repeat (first | exact k_fT_rfl g | refine k_fT.up ?_ (by omega) | refine k_fT.row ?_)
theorem k_dc0 {g m : qM} (h : ∀ a, 12 ≤ a → a ≤ 17 → m a = s_clr g a) (h5 : m 11 5 = 0) (h6 : m 11 6 = 0) (h7 : m 11 7 = 0) : k_dc t_r0 m := by
  unfold k_dc
  rw [h 12 (by omega) (by omega), h 13 (by omega) (by omega), h 14 (by omega) (by omega), h 15 (by omega) (by omega), h 16 (by omega) (by omega), h 17 (by omega) (by omega)]
  refine ⟨⟨rfl, rfl, rfl, rfl, rfl, rfl, rfl⟩, fun d h1 h2 => ?_, fun p hp => absurd hp (Nat.not_lt_zero _), fun p hp => ?_, h5.trans (by decide), h6.trans (by decide), h7.trans (by decide)⟩
  · rcases (show d = 1 ∨ d = 2 ∨ d = 3 ∨ d = 4 by omega) with e | e | e | e <;> (subst e; rfl)
  · rcases (show p = 0 ∨ p = 1 ∨ p = 2 ∨ p = 3 ∨ p = 4 by omega) with e | e | e | e | e <;> (subst e; rfl)
theorem tb_e {b : Nat → Int32} {s : Nat} {oo : tO × Nat} {g0 : qM} (g : qM) (u : qW) (ha : k_af oo g0 g) (h9 : g 9 1 = Int32.ofNat s) (hdm : oo.1.1 = 0 → k_dn oo.1.2.2.2 ∧ k_dm oo.1.2.2.2) : q_EV m_14 107 [(0, .ref 11)] [] g u (fun R => ∃ g', R = (none, g', u) ∧ k_af (o_end s oo.1, oo.2) g0 g') := by
  refine q_step 2 111 [(0, .ref 11)] [.int (g 11 2)] g u (fun big n0 => sg_tb_27 big n0 g u) ?_
  refine q_if_ne rfl (fun (hc0 : (g 11 2) = 0) => ?_) (fun (hc0 : ¬ ((g 11 2) = 0)) => ?_)
  · refine q_step 1 115 [(0, .ref 11)] [.ref 11] g u (fun big n0 => sg_tb_28 big n0 g u) ?_
    have e0 : oo.1.1 = 0 := Classical.byContradiction (fun z => z ((ha.2.2.1 z).1.symm.trans hc0))
    obtain ⟨z2, hd⟩ := ha.2.2.2 e0
    obtain ⟨hn, hm⟩ := hdm e0
    refine q_call (M2 := 37) (rest := []) (c_nwn g u hd hn hm) (fun _ _ => rfl) ?_
    refine q_if_eq rfl (fun (hc1 : (if oo.1.2.2.2 70 10 < oo.1.2.2.2 70 6 * oo.1.2.2.2 70 7 ∧ oo.1.2.2.2 70 11 < oo.1.2.2.2 70 8 then 0 else 1) = 0) => ?_) (fun (hc1 : ¬ ((if oo.1.2.2.2 70 10 < oo.1.2.2.2 70 6 * oo.1.2.2.2 70 7 ∧ oo.1.2.2.2 70 11 < oo.1.2.2.2 70 8 then 0 else 1) = 0)) => ?_)
    · refine q_ret 1 (none, g, u) (fun _ _ => rfl) ?_
      have ec : oo.1.2.2.2 70 10 < oo.1.2.2.2 70 6 * oo.1.2.2.2 70 7 ∧ oo.1.2.2.2 70 11 < oo.1.2.2.2 70 8 := Classical.byContradiction (fun z => absurd hc1 (by rw [if_neg z]; decide))
      have eo : o_end s oo.1 = oo.1 := by unfold o_end; rw [if_pos e0, if_pos ec]
      rw [eo]
      exact ⟨_, rfl, ha⟩
    · refine q_step 5 131 [(0, .ref 11)] [.int (g 9 1), .int (6 : Int32), .ref 11] g u (fun big n0 => sg_tb_29 big n0 g u) ?_
      refine q_call (M2 := 20) (rest := []) (b_refuse _ _ _ _) (fun _ _ => rfl) ?_
      refine q_ret 1 (none, (q_up (q_up g 11 2 (6 : Int32)) 11 3 (g 9 1)), u) (fun _ _ => rfl) ?_
      have ec : ¬ (oo.1.2.2.2 70 10 < oo.1.2.2.2 70 6 * oo.1.2.2.2 70 7 ∧ oo.1.2.2.2 70 11 < oo.1.2.2.2 70 8) := fun z => hc1 (if_pos z)
      have eo : o_end s oo.1 = o_bad 6 s oo.1.2.2.2 := by unfold o_end; rw [if_pos e0, if_neg ec]
      rw [eo]
      exact ⟨_, rfl, (ha.1.up (by omega)).up (by omega), ha.2.1, fun _ => ⟨rfl, h9⟩, fun z => absurd z (by decide : ¬ (6 : Int32) = 0)⟩
  · refine q_ret 1 (none, g, u) (fun _ _ => rfl) ?_
    have e0 : ¬ oo.1.1 = 0 := fun z => hc0 (ha.2.2.2 z).1
    have eo : o_end s oo.1 = oo.1 := by unfold o_end; rw [if_neg e0]
    rw [eo]
    exact ⟨_, rfl, ha⟩
theorem c_take {b : Nat → Int32} {s : Nat} (g : qM) (u : qW) (hb : g 10 = b) (hs : g 9 1 = Int32.ofNat s) (h160 : s ≤ 160) : ∃ R, q_BS 14 [.ref 11] g u R ∧ ∃ g', R = (none, g', u) ∧ k_af (o_text b s) g g' := by
  refine q_bs (mm := m_14) rfl (Nat.le_of_ble_eq_true rfl) rfl ?_
  refine q_step 2 4 [(0, .ref 11)] [.ref 12] g u (fun big n0 => sg_tb_30 big n0 g u) ?_
  refine q_call (M2 := 5) (rest := []) (b_clear12 _ _) (fun _ _ => rfl) ?_
  refine q_step 20 41 [(0, .ref 11)] [.ref 9] (q_up (q_up (q_up (q_up (q_up (q_up (s_clr g) 11 1 (0 : Int32)) 11 2 (0 : Int32)) 11 3 (0 : Int32)) 11 5 (0 : Int32)) 11 6 (0 : Int32)) 11 7 (0 : Int32)) u (fun big n0 => sg_tb_31 big n0 (s_clr g) u) ?_
  refine q_call (M2 := 15) (rest := []) (b_rew _ _) (fun _ _ => rfl) ?_
  refine q_step 2 48 [(0, .ref 11)] [.ref 9] (q_up (q_up (q_up (q_up (q_up (q_up (q_up (s_clr g) 11 1 (0 : Int32)) 11 2 (0 : Int32)) 11 3 (0 : Int32)) 11 5 (0 : Int32)) 11 6 (0 : Int32)) 11 7 (0 : Int32)) 9 5 0) u (fun big n0 => sg_tb_32 big n0 (q_up (q_up (q_up (q_up (q_up (q_up (q_up (s_clr g) 11 1 (0 : Int32)) 11 2 (0 : Int32)) 11 3 (0 : Int32)) 11 5 (0 : Int32)) 11 6 (0 : Int32)) 11 7 (0 : Int32)) 9 5 0) u) ?_
  have hT : k_fT g (q_up (q_up (q_up (q_up (q_up (q_up (q_up (s_clr g) 11 1 (0 : Int32)) 11 2 (0 : Int32)) 11 3 (0 : Int32)) 11 5 (0 : Int32)) 11 6 (0 : Int32)) 11 7 (0 : Int32)) 9 5 0) := ((((((((s_clr_T g).up (by omega)).up (by omega)).up (by omega)).up (by omega)).up (by omega)).up (by omega)).up (by omega))
  obtain ⟨g3, q3, f3, e3, x2, x3, x5⟩ := c_nxk (b := b) (p := 0) (q_up (q_up (q_up (q_up (q_up (q_up (q_up (s_clr g) 11 1 (0 : Int32)) 11 2 (0 : Int32)) 11 3 (0 : Int32)) 11 5 (0 : Int32)) 11 6 (0 : Int32)) 11 7 (0 : Int32)) 9 5 0) u ((hT.1 10 (by omega)).trans hb) (hT.2.trans hs) h160 rfl (Nat.zero_le s)
  refine q_call (M2 := 16) (rest := []) (q3) (fun _ _ => rfl) ?_
  have h3T := hT.trans f3.ft.T
  refine tb_l u (b := b) (s := s) (s + 1) 0 0 t_r0 g3 g h3T ⟨⟨(h3T.1 10 (by omega)).trans hb, h3T.2.trans hs, h160, Nat.zero_le s, Nat.le_refl 0⟩, ⟨x2, x3, x5, by rw [e3]; rfl, by rw [e3]; rfl⟩, k_dc0 (g := g) (fun a h1 h2 => ?_) (by rw [e3]; rfl) (by rw [e3]; rfl) (by rw [e3]; rfl), k_dn0⟩ (by omega) (fun g' hg => ?_)
  · rw [f3.1 a (by omega) (by omega)]
    repeat rw [q_up_ne (by omega)]
  · exact tb_e (b := b) g' u hg (hg.1.2.trans hs) (fun z => k_tp (s + 1) 0 0 t_r0 k_dn0 k_dm0 (Nat.zero_le s) z)
/-- the class's town T is the draft r, at its start -/
def k_dT (T : Nat) (r g : qM) : Prop := (g T 0 = r 70 6 ∧ g T 1 = r 70 7 ∧ g T 2 = r 73 20 ∧ g T 3 = r 70 8 ∧ g T 4 = r 73 25 ∧ g T 5 = 0 ∧ g T 6 = 0) ∧ (∀ d, 1 ≤ d → d ≤ 4 → g (T + 5) d = r 73 (20 + d)) ∧ (∀ p, p < t_n r → g (T + 1) p = r 73 p ∧ g (T + 2) p = r 73 (5 + p) ∧ g (T + 3) p = r 73 (10 + p)) ∧ (∀ p, p < 5 → g (T + 4) p = r 73 (15 + p))
theorem k_dT.cpy {r g : qM} (h : k_dT 12 r g) (h5 : t_n r ≤ 5) : k_dT 20 r (s_cpy 20 12 g) := by
  have f : ∀ j, j < 7 → s_cpy 20 12 g 20 j = g 12 j := fun j hj => s_cpy_f hj
  refine ⟨⟨(f 0 (by omega)).trans h.1.1, (f 1 (by omega)).trans h.1.2.1, (f 2 (by omega)).trans h.1.2.2.1, (f 3 (by omega)).trans h.1.2.2.2.1, (f 4 (by omega)).trans h.1.2.2.2.2.1, (f 5 (by omega)).trans h.1.2.2.2.2.2.1, (f 6 (by omega)).trans h.1.2.2.2.2.2.2⟩, fun d h1 h2 => ?_, fun p hp => ⟨?_, ?_, ?_⟩, fun p hp => ?_⟩
  · exact (s_cpy_5 (by omega) (by omega)).trans (h.2.1 d h1 h2)
  · exact (s_cpy_1 (by omega) (by omega)).trans (h.2.2.1 p hp).1
  · exact (s_cpy_2 (by omega) (by omega)).trans (h.2.2.1 p hp).2.1
  · exact (s_cpy_3 (by omega) (by omega)).trans (h.2.2.1 p hp).2.2
  · exact (s_cpy_4 (by omega) (by omega)).trans (h.2.2.2 p hp)
theorem k_dc.T {r g : qM} (h : k_dc r g) : k_dT 12 r g := ⟨h.1, h.2.1, h.2.2.1, h.2.2.2.1⟩
/-- what text() answers -/
def t_ans (oo : tO × Nat) : Int32 := if oo.1.1 = 0 then Int32.ofNat oo.2 else Int32.ofInt (-10) - Int32.ofNat oo.1.2.1
theorem o_text_dm {b : Nat → Int32} {s : Nat} (h : (o_text b s).1.1 = 0) : (o_text b s).1 = (o_tape b s (s + 1) 0 0 t_r0).1 ∧ (o_tape b s (s + 1) 0 0 t_r0).1.1 = 0 ∧ ((o_text b s).1.2.2.2 70 10 < (o_text b s).1.2.2.2 70 6 * (o_text b s).1.2.2.2 70 7 ∧ (o_text b s).1.2.2.2 70 11 < (o_text b s).1.2.2.2 70 8) := by
  unfold o_text o_end at h ⊢
  dsimp only at h ⊢
  by_cases e : (o_tape b s (s + 1) 0 0 t_r0).1.1 = 0
  · rw [if_pos e] at h ⊢
    by_cases e2 : (o_tape b s (s + 1) 0 0 t_r0).1.2.2.2 70 10 < (o_tape b s (s + 1) 0 0 t_r0).1.2.2.2 70 6 * (o_tape b s (s + 1) 0 0 t_r0).1.2.2.2 70 7 ∧ (o_tape b s (s + 1) 0 0 t_r0).1.2.2.2 70 11 < (o_tape b s (s + 1) 0 0 t_r0).1.2.2.2 70 8
    · rw [if_pos e2]
      exact ⟨rfl, e, e2⟩
    · rw [if_neg e2] at h
      exact absurd h (by decide : ¬ (6 : Int32) = 0)
  · rw [if_neg e] at h
    exact absurd h e
theorem o_text_ok {b : Nat → Int32} {s : Nat} (h : (o_text b s).1.1 = 0) : k_dn (o_text b s).1.2.2.2 ∧ k_dm (o_text b s).1.2.2.2 := by
  have z := o_text_dm h
  rw [z.1]
  exact k_tp (s + 1) 0 0 t_r0 k_dn0 k_dm0 (Nat.zero_le s) z.2.1
theorem c_text {b : Nat → Int32} {s : Nat} (g : qM) (u : qW) (hb : g 10 = b) (hs : g 9 1 = Int32.ofNat s) (h160 : s ≤ 160) : ∃ g', q_BS 13 [.ref 8] g u (some (.int (t_ans (o_text b s))), g', u) ∧ (∀ a, a < 8 ∨ a = 10 ∨ 27 < a → g' a = g a) ∧ (∀ j, j ≠ 7 → g' 8 j = g 8 j) ∧ g' 9 1 = 0 ∧ g' 11 2 = (o_text b s).1.1 ∧ (¬ (o_text b s).1.1 = 0 → ∀ a, a = 8 ∨ 18 ≤ a → g' a = g a) ∧ ((o_text b s).1.1 = 0 → g' 8 7 = 0 ∧ k_dT 20 (o_text b s).1.2.2.2 g') := by
  obtain ⟨_, hq, g1, rfl, ha⟩ := c_take g u hb hs h160
  by_cases e0 : (o_text b s).1.1 = 0
  · obtain ⟨z2, hd⟩ := ha.2.2.2 e0
    have hdn := (o_text_ok e0).1
    refine ⟨q_up (s_cpy 20 12 (q_up g1 9 1 0)) 8 7 0, ?_, fun a h => ?_, fun j hj => ?_, ?_, ?_, fun z => absurd e0 z, fun _ => ⟨rfl, ?_⟩⟩
    · refine q_bx (mm := m_13) rfl (Nat.le_of_ble_eq_true rfl) rfl ?_
      refine q_step 2 4 [(0, .ref 8)] [.ref 11] g u (fun big n0 => sg_tb_33 big n0 g u) ?_
      refine q_call (M2 := 14) (rest := []) (hq) (fun _ _ => rfl) ?_
      refine q_step 7 22 [(0, .ref 8)] [.int (g1 11 2)] (q_up g1 9 1 (0 : Int32)) u (fun big n0 => sg_tb_34 big n0 g1 u) ?_
      refine q_if_eq rfl (fun (hc0 : (g1 11 2) = 0) => ?_) (fun hc0 => absurd (show (g1 11 2) = 0 from z2) hc0)
      refine q_step 5 47 [(0, .ref 8)] [.ref 12, .ref 20] (q_up g1 9 1 (0 : Int32)) u (fun big n0 => sg_tb_35 big n0 (q_up g1 9 1 (0 : Int32)) u) ?_
      refine q_call (M2 := 41) (rest := []) (b_cpy20_12 _ _) (fun _ _ => rfl) ?_
      refine q_ret 7 (some (.int ((s_cpy 20 12 (q_up g1 9 1 (0 : Int32))) 11 1)), (q_up (s_cpy 20 12 (q_up g1 9 1 (0 : Int32))) 8 7 (0 : Int32)), u) (fun _ _ => rfl) ?_
      have ea : t_ans (o_text b s) = g1 11 1 := by unfold t_ans; rw [if_pos e0]; exact ha.2.1.symm
      rw [ea]
      rfl
    · rw [q_up_ne (by omega), s_cpy_o (by omega), q_up_ne (by omega)]
      exact ha.1.1 a (by omega)
    · rw [q_up_at, if_neg hj, s_cpy_o (by omega), q_up_ne (by omega), ha.1.1 8 (by omega)]
    · rw [q_up_ne (by decide), s_cpy_o (by omega)]
      rfl
    · rw [q_up_ne (by decide), s_cpy_o (by omega), q_up_ne (by decide), z2, e0]
    · have zz := (show k_dT 12 (o_text b s).1.2.2.2 (q_up g1 9 1 0) from hd.T).cpy hdn.2.1
      exact zz
  · obtain ⟨z2, z3⟩ := ha.2.2.1 e0
    refine ⟨q_up g1 9 1 0, ?_, fun a h => ?_, fun j hj => ?_, rfl, ?_, fun _ a h => ?_, fun z => absurd z e0⟩
    · refine q_bx (mm := m_13) rfl (Nat.le_of_ble_eq_true rfl) rfl ?_
      refine q_step 2 4 [(0, .ref 8)] [.ref 11] g u (fun big n0 => sg_tb_33 big n0 g u) ?_
      refine q_call (M2 := 14) (rest := []) (hq) (fun _ _ => rfl) ?_
      refine q_step 7 22 [(0, .ref 8)] [.int (g1 11 2)] (q_up g1 9 1 (0 : Int32)) u (fun big n0 => sg_tb_34 big n0 g1 u) ?_
      refine q_if_eq rfl (fun hc0 => absurd (show (g1 11 2) = 0 from hc0) (fun z => e0 (z2.symm.trans z))) (fun (hc0 : ¬ ((g1 11 2) = 0)) => ?_)
      refine q_ret 6 (some (.int ((Int8.toInt32 (Int8.ofInt (-10))) - (g1 11 3))), (q_up g1 9 1 (0 : Int32)), u) (fun _ _ => rfl) ?_
      have ea : t_ans (o_text b s) = (Int32.ofInt (-10)) - g1 11 3 := by unfold t_ans; rw [if_neg e0, z3]
      rw [ea]
      rfl
    · by_cases e9 : a = 9
      · omega
      · rw [q_up_ne e9]
        rcases (show a < 9 ∨ a = 10 ∨ 17 < a by omega) with y | y | y
        · exact ha.1.1 a (by omega)
        · exact ha.1.1 a (by omega)
        · exact ha.1.1 a (by omega)
    · rw [q_up_ne (by decide), ha.1.1 8 (by omega)]
    · rw [q_up_ne (by decide)]
      exact z2
    · rw [q_up_ne (by omega)]
      exact ha.1.1 a (by omega)
