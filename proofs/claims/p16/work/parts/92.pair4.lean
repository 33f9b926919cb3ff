/-! BOTH SIDES of sheets. -/
/-- what stands outside sheet k is the same -/
def w_fs (k : Nat) (g g' : qM) : Prop := (∀ a, (a = 8 ∨ a = 9 ∨ a = 10 ∨ a = 11 ∨ (20 ≤ a ∧ a ≤ 27) ∨ (45 ≤ a ∧ a ≤ 72) ∨ a = 74) → a ≠ 62 + 2 * k → a ≠ 63 + 2 * k → g' a = g a) ∧ (∀ j, j ≠ k → g' 84 j = g 84 j ∧ g' 85 j = g 85 j) ∧ ∀ j, j < 40 * k ∨ 40 * k + 40 ≤ j → g' 86 j = g 86 j
theorem w_fs_rfl (k : Nat) (g : qM) : w_fs k g g := ⟨fun _ _ _ _ => rfl, fun _ _ => ⟨rfl, rfl⟩, fun _ _ => rfl⟩
theorem w_fs.up {k : Nat} {g g' : qM} (h : w_fs k g g') {a j : Nat} {x : Int32} (hk : k < 4) (ha : a = 62 + 2 * k ∨ a = 63 + 2 * k ∨ ((a = 84 ∨ a = 85) ∧ j = k) ∨ (a = 86 ∧ 40 * k ≤ j ∧ j < 40 * k + 40)) : w_fs k g (q_up g' a j x) := by
  refine ⟨fun b h1 h2 h3 => ?_, fun i hi => ⟨?_, ?_⟩, fun i hi => ?_⟩
  · rw [q_up_ne (by omega)]; exact h.1 b h1 h2 h3
  · rw [q_up_eq, if_neg (by omega)]; exact (h.2.1 i hi).1
  · rw [q_up_eq, if_neg (by omega)]; exact (h.2.1 i hi).2
  · rw [q_up_eq, if_neg (by omega)]; exact h.2.2 i hi
theorem w_fs.row {k : Nat} {g g' : qM} (h : w_fs k g g') (hk : k < 4) {f : Nat → Int32} {m a : Nat} (ha : a = 63 + 2 * k) : w_fs k g (s_row_ a f m g') := by
  subst ha
  refine ⟨fun b h1 h2 h3 => ?_, fun i hi => ⟨?_, ?_⟩, fun i hi => ?_⟩
  · funext j
    show (if b = 63 + 2 * k then _ else g' b j) = _
    rw [if_neg h3, h.1 b h1 h2 h3]
  · show (if 84 = 63 + 2 * k then _ else g' 84 i) = _
    rw [if_neg (by omega)]; exact (h.2.1 i hi).1
  · show (if 85 = 63 + 2 * k then _ else g' 85 i) = _
    rw [if_neg (by omega)]; exact (h.2.1 i hi).2
  · show (if 86 = 63 + 2 * k then _ else g' 86 i) = _
    rw [if_neg (by omega)]; exact h.2.2 i hi
theorem w_fs.zr {k : Nat} {g g' : qM} (h : w_fs k g g') {K : Nat} (hK : K = 40 * k) : w_fs k g (s_zr K 40 g') := by
  refine ⟨fun b h1 h2 h3 => ?_, fun i hi => ⟨(h.2.1 i hi).1, (h.2.1 i hi).2⟩, fun i hi => ?_⟩
  · funext j
    show (if b = 86 then _ else g' b j) = _
    rw [if_neg (by omega), h.1 b h1 h2 h3]
  · show (if (86 : Nat) = 86 then (if K ≤ i ∧ i < K + 40 then 0 else g' 86 i) else _) = _
    rw [if_pos rfl, if_neg (by omega)]
    exact h.2.2 i hi
theorem w_R4.shee {n W H z k : Nat} {g g' : qM} (h : w_R4 n W H z g) (hk : k < 4) (e : w_fs k g g') (hS : w_S k g') : w_R4 n W H z g' := by
  refine h.img ⟨fun a ha => e.1 a (by omega) (by omega) (by omega), fun j hj => by rw [e.1 71 (by omega) (by omega) (by omega)]⟩ (h.2.2.1.cg (by rw [e.1 8 (by omega) (by omega) (by omega)]) (e.1 72 (by omega) (by omega) (by omega)) (fun a h1 h2 => e.1 a (by omega) (by omega) (by omega)) (fun j hj => by rw [e.1 71 (by omega) (by omega) (by omega)])) (fun j hj => ?_)
  by_cases ej : j = k
  · rw [ej]; exact hS
  · exact (h.2.2.2.2.2 j hj).cg (e.2.1 j ej).1 (e.2.1 j ej).2 (e.1 _ (by omega) (by omega) (by omega)) (e.1 _ (by omega) (by omega) (by omega)) (fun i hi => e.2.2 _ (by omega))
theorem k_rd {g : qM} {F G : Nat → Int32} {fd rs : Int32} : (∀ a, a ≠ 70 → a ≠ 71 → a ≠ 87 → a ≠ 8 → a ≠ 22 → q_up (s_m71 G (s_had (q_up (s_m22 F g) 8 8 fd))) 70 33 rs a = g a) ∧ q_up (s_m71 G (s_had (q_up (s_m22 F g) 8 8 fd))) 70 33 rs 22 = F ∧ q_up (s_m71 G (s_had (q_up (s_m22 F g) 8 8 fd))) 70 33 rs 71 = (fun j => if 5 ≤ j ∧ j < 10 then G (j - 5) else g 71 j) ∧ q_up (s_m71 G (s_had (q_up (s_m22 F g) 8 8 fd))) 70 33 rs 8 7 = g 8 7 ∧ ∀ j, j ≠ 33 → q_up (s_m71 G (s_had (q_up (s_m22 F g) 8 8 fd))) 70 33 rs 70 j = g 70 j := by
  refine ⟨fun a h1 h2 h3 h4 h5 => ?_, ?_, ?_, ?_, fun j hj => ?_⟩
  · rw [q_up_ne h1]
    funext j
    unfold s_m71
    rw [if_neg h2, s_had_o h3, q_up_ne h4]
    unfold s_m22
    rw [if_neg h5]
  · rw [q_up_ne (by decide)]
    funext j
    unfold s_m71
    rw [if_neg (by decide), s_had_o (by decide), q_up_ne (by decide)]
    unfold s_m22
    rw [if_pos rfl]
  · rw [q_up_ne (by decide)]
    funext j
    unfold s_m71
    rw [if_pos rfl, s_had_o (by decide), q_up_ne (by decide)]
    unfold s_m22
    rw [if_neg (show ¬ 71 = 22 by decide)]
  · rw [q_up_ne (by decide)]
    unfold s_m71
    rw [if_neg (by decide), s_had_o (by decide), q_up_at, if_neg (by decide)]
    unfold s_m22
    rw [if_neg (by decide)]
  · rw [q_up_at, if_neg hj]
    unfold s_m71
    rw [if_neg (by decide), s_had_o (by decide), q_up_ne (by decide)]
    unfold s_m22
    rw [if_neg (by decide)]
theorem pr_sheet0 (x y : Int32) (g : qM) (u : qW) (h : w_R g) (hb : v_rg 0 2 x ∧ y ≤ (40 : Int32)) : w_2 130 219 [.int (0 : Int32), .int x, .int y] g u := by
  obtain ⟨n, W, H, z, h⟩ := h
  obtain ⟨⟨l, l0, l2, rfl⟩, hy⟩ := hb
  have q1 := b_sheet0 (Int32.ofNat l) y g u
  unfold d_sheet0 at q1
  rw [k_lane l2, if_neg (by decide), if_pos hy] at q1
  by_cases h0 : 0 ≤ y
  · rw [if_pos h0] at q1
    have hy2 := Int32.le_iff_toInt_le.mp hy
    have h02 := Int32.le_iff_toInt_le.mp h0
    obtain ⟨v, v0, v1, rfl⟩ : v_rg 0 40 y := v_nat h02 hy2
    have q2 := rg_sheet0 (s_row_ 63 (fun _ => (0 : Int32)) 40 (q_up (q_up g 62 2 (Int32.ofNat l)) 62 1 (Int32.ofNat v))) u l2 v1
    refine ⟨_, _, _, _, _, q1, q2, n, W, H, z, h.shee (k := 0) (by omega) ((((((w_fs_rfl 0 g).up (by omega) (by omega)).up (by omega) (by omega)).row (by omega) rfl).up (by omega) (by omega)).up (by omega) (by omega) |>.zr rfl) (Or.inr ⟨l, v, l2, v1, rfl, rfl, rfl, rfl, fun j hj => ?_⟩)⟩
    have e1 : (s_zr 0 40 (q_up (q_up (s_row_ 63 (fun _ => (0 : Int32)) 40 (q_up (q_up g 62 2 (Int32.ofNat l)) 62 1 (Int32.ofNat v))) 84 0 (Int32.ofNat l)) 85 0 (Int32.ofNat v))) 63 j = 0 := by
      unfold s_zr
      rw [if_neg (by decide), q_up_ne (by decide), q_up_ne (by decide)]
      unfold s_row_
      rw [if_pos rfl, if_pos hj]
    have e2 : (s_zr 0 40 (q_up (q_up (s_row_ 63 (fun _ => (0 : Int32)) 40 (q_up (q_up g 62 2 (Int32.ofNat l)) 62 1 (Int32.ofNat v))) 84 0 (Int32.ofNat l)) 85 0 (Int32.ofNat v))) 86 (40 * 0 + j) = 0 := by
      unfold s_zr
      rw [if_pos rfl, if_pos (by omega)]
    exact e1.trans e2.symm
  · rw [if_neg h0] at q1
    exact w_2n h q1 (rg_sheetn0 g u l2 (Int32.not_le.mp h0))
theorem pr_lay0 (x y : Int32) (g : qM) (u : qW) (h : w_R g) : w_2 134 221 [.int (0 : Int32), .int x, .int y] g u := by
  obtain ⟨n, W, H, z, h⟩ := h
  rcases h.2.2.2.2.2 0 (by omega) with ⟨a1, a2⟩ | ⟨l, v, a1, a2, a3, a4, a5, a6, a7⟩
  · have hf : d_faultAt0 x g = 1 := by
      unfold d_faultAt0 d_isNothing0
      rw [show g 62 1 = _ from a2, if_pos rfl, if_neg (by decide)]
    exact w_2n h (cg_lay0f1 g u hf) (rg_lay0f1 g u a1)
  · have hn : d_isNothing0 g = 0 := by
      unfold d_isNothing0
      rw [show g 62 1 = Int32.ofNat v from a5, if_neg (k_nm1 (by omega))]
    by_cases hb : v_one v x
    · obtain ⟨i, hi, rfl⟩ := hb
      have hf : d_faultAt0 (Int32.ofNat i) g = 0 := by
        unfold d_faultAt0
        rw [hn, if_pos rfl, if_neg (show ¬ Int32.ofNat i < 0 from fun y => absurd ((q_lt (j := 0) (by omega) (by omega)).mp y) (by omega)), if_pos (by rw [show g 62 1 = Int32.ofNat v from a5]; exact (q_lt (by omega) (by omega)).mpr hi)]
      have q1 := cg_lay0 (v := y) g u a2 a5 hi hf
      have q2 := rg_lay0 (v := y) (q_up g 63 i (s_ln (g 62 2) y)) u a2 a1 a6 a3 hi
      rw [show (q_up g 63 i (s_ln (g 62 2) y)) 84 0 = g 62 2 from a3.trans a4.symm] at q2
      refine ⟨_, _, _, _, _, q1, q2, n, W, H, z, h.shee (k := 0) (by omega) (((w_fs_rfl 0 g).up (by omega) (by omega)).up (by omega) (by omega)) (Or.inr ⟨l, v, a1, a2, a3, a4, a5, a6, fun j hj => ?_⟩)⟩
      rw [q_up_ne (by decide), q_up_at, q_up_at, q_up_ne (by decide)]
      by_cases e : j = i
      · rw [if_pos e, if_pos (by omega)]
      · rw [if_neg e, if_neg (by omega)]
        exact a7 j hj
    · have hno : ¬ (0 ≤ x.toInt ∧ x.toInt < (v : Int)) := fun y => hb ⟨x.toInt.toNat, by omega, q_of y.1⟩
      have hf : d_faultAt0 x g = 2 := by
        unfold d_faultAt0
        rw [hn, if_pos rfl]
        by_cases c : x < 0
        · rw [if_pos c]
        · rw [if_neg c, if_neg]
          intro c2
          rw [show g 62 1 = Int32.ofNat v from a5, Int32.lt_iff_toInt_lt, q_nat (by omega)] at c2
          rw [Int32.lt_iff_toInt_lt] at c
          have z0 : (0 : Int32).toInt = 0 := rfl
          exact hno ⟨by omega, c2⟩
      have hin : s_in (Int32.toInt64 x) (0 : Int64) (Int32.toInt64 ((g 85 0) - (1 : Int32))) = 0 := by
        refine Classical.byContradiction (fun c => hno ?_)
        rw [s_in_i, show (0 : Int64).toInt = 0 from rfl, Int32.toInt_toInt64, a6, s_sub (by rw [q_nat (by omega), show (1 : Int32).toInt = 1 from rfl]; omega) (by rw [q_nat (by omega), show (1 : Int32).toInt = 1 from rfl]; omega), q_nat (by omega), show (1 : Int32).toInt = 1 from rfl] at c
        omega
      exact w_2n h (cg_lay0f2 g u hf) (rg_lay0f2 g u (by rw [a3]; exact k_nne (by omega)) hin)
theorem k_fop0 {g : qM} {v : Nat} {f : Int32} (hn : d_isNothing0 g = 0) (hs : g 62 1 = Int32.ofNat v) (hv : v ≤ 40) (hI : ¬ (0 ≤ f.toInt ∧ f.toInt + 1 < (v : Int))) : ¬ d_fop0 f g = 0 := by
  unfold d_fop0 d_faultAt0
  rw [hn, if_pos rfl, if_pos rfl, hs]
  have z0 : (0 : Int32).toInt = 0 := rfl
  have z1 : (1 : Int32).toInt = 1 := rfl
  by_cases c : f < 0
  · rw [if_pos c, if_neg (by decide)]
    decide
  · rw [if_neg c]
    rw [Int32.lt_iff_toInt_lt] at c
    by_cases c2 : f < Int32.ofNat v
    · rw [if_pos c2, if_pos rfl]
      rw [Int32.lt_iff_toInt_lt, q_nat (by omega)] at c2
      have e : (f + 1).toInt = f.toInt + 1 := by rw [s_add (by omega) (by omega), z1]
      rw [if_neg (show ¬ f + 1 < 0 from fun y => by rw [Int32.lt_iff_toInt_lt, e] at y; omega), if_neg (show ¬ f + 1 < Int32.ofNat v from fun y => by rw [Int32.lt_iff_toInt_lt, e, q_nat (by omega)] at y; omega)]
      decide
    · rw [if_neg c2, if_neg (by decide)]
      decide
theorem pr_read0 (f : Int32) (l0 m : Nat) (g : qM) (u : qW) (h : w_R g) (hl : l0 ≤ 2) (hm : m ≤ 20) : w_2 138 222 [.int (0 : Int32), .int (Int32.ofNat l0), .int f, .int (Int32.ofNat m)] g u := by
  obtain ⟨n, W, H, z, h⟩ := h
  have h5 := h.n5
  have h25 := h.wh
  have ok := h.ok
  have cs := h.cs
  have hgo := h.hgo
  obtain ⟨hn, hW, hH⟩ := h.1
  have hn2 : g 20 3 = Int32.ofNat n := h.2.1.1.2.2.2.1
  have hW2 : g 20 0 = Int32.ofNat W := h.2.1.1.1
  have hH2 : g 20 1 = Int32.ofNat H := h.2.1.1.2.1
  have hla := k_lane (g := g) hl
  have rel : ∀ x y, w_R4 n W H z (q_up (s_had (q_up g 8 8 x)) 70 33 y) := fun x y => h.town ((((w_fo_rfl g).up (by omega)).trans ⟨fun a ha => s_had_o (by omega), ⟨by rw [s_had_o (by decide)], by rw [s_had_o (by decide)], by rw [s_had_o (by decide)]⟩, fun j _ => by rw [s_had_o (by decide)], fun j _ => by rw [s_had_o (by decide)]⟩).up (by omega)) (h.2.1.same (fun a h1 h2 => by rw [q_up_ne (by omega), s_had_o (by omega), q_up_ne (by omega)]) (by rw [q_up_ne (by decide), s_had_o (by decide), q_up_ne (by decide)]))
  rcases h.2.2.2.2.2 0 (by omega) with ⟨a1, a2⟩ | ⟨l, v, a1, a2, a3, a4, a5, a6, a7⟩
  · have hn1 : d_isNothing0 g = 1 := by
      unfold d_isNothing0
      rw [show g 62 1 = _ from a2, if_pos rfl]
    have hf : d_faultAs0 (Int32.ofNat l0) g = 0 := by
      unfold d_faultAs0
      rw [hn1, if_neg (by decide)]
    by_cases hm1 : 1 ≤ m
    · have hp : ¬ d_fop0 (f + ((2 : Int32) * (0 : Int32))) g = 0 := by
        have e1 : ∀ y, d_faultAt0 y g = 1 := fun y => by
          unfold d_faultAt0
          rw [hn1, if_neg (by decide)]
        unfold d_fop0
        rw [e1, e1, if_neg (show ¬ (1 : Int32) = 0 by decide)]
        decide
      obtain ⟨x, q2⟩ := rr_zN0 (f := f) (q_up g 8 8 (d_fop0 (f + ((2 : Int32) * (0 : Int32))) g)) u hl hm hm1 a1
      exact ⟨_, _, _, _, _, cr_zC0 g u hm hla hm1 hf hp, q2, n, W, H, z, rel _ _⟩
    · have e : m = 0 := by omega
      subst e
      obtain ⟨x, q2⟩ := rr_z00 (f := f) (q_up g 8 8 (d_faultAs0 (Int32.ofNat l0) g)) u hl
      exact ⟨_, _, _, _, _, cr_zB0 g u hla hf, q2, n, W, H, z, rel _ _⟩
  · have hn1 : d_isNothing0 g = 0 := by
      unfold d_isNothing0
      rw [show g 62 1 = Int32.ofNat v from a5, if_neg (k_nm1 (by omega))]
    have hno : ¬ g 84 0 = i_none := by rw [a3]; exact k_nne (by omega)
    by_cases hll : l = l0
    · subst hll
      have hf : d_faultAs0 (Int32.ofNat l) g = 0 := by
        unfold d_faultAs0
        rw [hn1, if_pos rfl, if_pos a4]
      by_cases hm1 : 1 ≤ m
      · by_cases hI : 0 ≤ f.toInt ∧ f.toInt + 1 < (v : Int)
        · obtain ⟨j0, hj0, rfl⟩ : v_one v f := ⟨f.toInt.toNat, by omega, q_of hI.1⟩
          rw [q_nat (by omega)] at hI
          have hrow : ∀ j, j < 40 → g 63 j = g 86 (0 + j) := fun j hj => a7 j hj
          have htl : ∀ j, j + 1 < v → n_tl n (g 63) j = n_tl n (fun j => g 86 (0 + j)) j := fun j hj => n_tl_cg (hrow j (by omega)) (hrow (j + 1) (by omega))
          have hrd : f_rd (n_tl n (g 63)) v j0 m 0 = f_rd (n_tl n (fun j => g 86 (0 + j))) v j0 m 0 := f_rd_cg htl m 0
          obtain ⟨_, q1, hq⟩ := cr_ok0 (la := Int32.ofNat l) (j0 := j0) u hn2 (by omega) a2 a5 (by omega) hm hla hf
          rcases hq with ⟨w, fd, hw, rfl⟩ | ⟨w, hw, rfl⟩
          · have hG := (f_ws_ok (row := (fun j => g 86 (0 + j))) (j0 := j0) h5 w 0 (g 22) (fun q => g 71 (5 + q)) (fun x h1 h2 => ?_) (fun p hp => (h.2.1.2.2.2.2.1 p hp).2.1) h.2.1.2.2.2.2.2.2.2.2.2.1)
            · have hfw : f_ws (g 63) j0 w 0 (g 22) = f_ws (fun j => g 86 (0 + j)) j0 w 0 (g 22) := f_ws_cg w 0 _ (fun x h1 h2 => by
                have y := ((f_rd_le m 0 w true hw).2.2 x h1 (by omega)).2
                exact ⟨hrow _ (by omega), hrow (j0 + 2 * x + 1) (by omega)⟩)
              rw [hfw] at q1
              have hg71 : q_up (s_m22 (f_ws (fun j => g 86 (0 + j)) j0 w 0 (g 22)) g) 8 8 fd 71 = g 71 := rfl
              have hg86 : q_up (s_m22 (f_ws (fun j => g 86 (0 + j)) j0 w 0 (g 22)) g) 8 8 fd 86 = g 86 := rfl
              obtain ⟨_, q2, hr⟩ := rr_ok0 (g := q_up (s_m22 (f_ws (fun j => g 86 (0 + j)) j0 w 0 (g 22)) g) 8 8 fd) u hn hW hH h5 h25 a2 a6 hno a3 (show j0 < 40 by omega) hm hl h.2.1.2.2.2.2.2.2.2.2.2.1
              rw [hg71, hg86] at hr
              rcases hr with ⟨w', rs, hw', rfl⟩ | ⟨w', hw', rfl⟩
              · have ew : w' = w := by
                  have y := hrd.symm.trans hw
                  rw [hw'] at y
                  exact congrArg Prod.fst y
                subst ew
                have kr := k_rd (g := g) (F := f_ws (fun j => g 86 (0 + j)) j0 w' 0 (g 22)) (G := f_ws (fun j => g 86 (0 + j)) j0 w' 0 (fun q => g 71 (5 + q))) (fd := fd) (rs := rs)
                refine ⟨_, _, _, _, _, q1, q2, n, W, H, z, h.town ⟨fun a ha => ?_, ⟨?_, ?_, ?_⟩, fun j hj => ?_, fun j hj => ?_⟩ (w_TT.of (h.2.1.moods hG.1 hG.2) ?_ ?_ ?_ ?_ ?_ ?_ ?_ ?_ ?_)⟩
                · exact kr.1 a (by omega) (by omega) (by omega) (by omega) (by omega)
                · exact kr.2.2.2.1
                · rw [kr.1 9 (by decide) (by decide) (by decide) (by decide) (by decide)]
                · rw [kr.1 11 (by decide) (by decide) (by decide) (by decide) (by decide)]
                · exact kr.2.2.2.2 j (by omega)
                · rw [kr.2.2.1]
                  exact if_neg (by omega)
                · exact kr.1 20 (by decide) (by decide) (by decide) (by decide) (by decide)
                · exact kr.1 21 (by decide) (by decide) (by decide) (by decide) (by decide)
                · exact kr.2.1
                · exact kr.1 23 (by decide) (by decide) (by decide) (by decide) (by decide)
                · exact kr.1 24 (by decide) (by decide) (by decide) (by decide) (by decide)
                · exact kr.1 25 (by decide) (by decide) (by decide) (by decide) (by decide)
                · exact kr.1 26 (by decide) (by decide) (by decide) (by decide) (by decide)
                · exact kr.1 27 (by decide) (by decide) (by decide) (by decide) (by decide)
                · exact kr.2.2.1
              · exact absurd (hw'.symm.trans (hrd.symm.trans hw)) (fun y => by cases y)
            · rw [← htl _ (by have y := ((f_rd_le m 0 w true hw).2.2 x h1 (by omega)).2; omega)]
              exact ((f_rd_le m 0 w true hw).2.2 x h1 (by omega)).1
          · obtain ⟨_, q2, hr⟩ := rr_ok0 (g := g) u hn hW hH h5 h25 a2 a6 hno a3 (show j0 < 40 by omega) hm hl h.2.1.2.2.2.2.2.2.2.2.2.1
            rcases hr with ⟨w', rs, hw', rfl⟩ | ⟨w', hw', rfl⟩
            · exact absurd (hw'.symm.trans (hrd.symm.trans hw)) (fun y => by cases y)
            · have ew : w' = w := by
                have y := hrd.symm.trans hw
                rw [hw'] at y
                exact congrArg Prod.fst y
              subst ew
              exact ⟨_, _, _, _, _, q1, q2, n, W, H, z, h.town ⟨fun a ha => s_had_o (by omega), ⟨by rw [s_had_o (by decide)], by rw [s_had_o (by decide)], by rw [s_had_o (by decide)]⟩, fun j _ => by rw [s_had_o (by decide)], fun j _ => by rw [s_had_o (by decide)]⟩ (h.2.1.same (fun a h1 h2 => s_had_o (by omega)) (s_had_o (by decide)))⟩
        · have hp : ¬ d_fop0 (f + ((2 : Int32) * (0 : Int32))) g = 0 := by
            rw [k_f0]
            exact k_fop0 hn1 a5 a2 hI
          obtain ⟨x, q2⟩ := rr_zI0 (f := f) (q_up g 8 8 (d_fop0 (f + ((2 : Int32) * (0 : Int32))) g)) u hl hm hm1 hno a3 a2 a6 hI
          exact ⟨_, _, _, _, _, cr_zC0 g u hm hla hm1 hf hp, q2, n, W, H, z, rel _ _⟩
      · have e : m = 0 := by omega
        subst e
        obtain ⟨x, q2⟩ := rr_z00 (f := f) (q_up g 8 8 (d_faultAs0 (Int32.ofNat l) g)) u hl
        exact ⟨_, _, _, _, _, cr_zB0 g u hla hf, q2, n, W, H, z, rel _ _⟩
    · have hnl : ¬ Int32.ofNat l = Int32.ofNat l0 := fun y => hll ((q_eq (by omega) (by omega)).mp y)
      have hf : ¬ d_faultAs0 (Int32.ofNat l0) g = 0 := by
        unfold d_faultAs0
        rw [hn1, if_pos rfl, if_neg (fun y => hnl (a4.symm.trans y))]
        decide
      by_cases hm1 : 1 ≤ m
      · obtain ⟨x, q2⟩ := rr_zL0 (f := f) (q_up g 8 8 (d_faultAs0 (Int32.ofNat l0) g)) u hl hm hm1 hno (fun y => hnl (a3.symm.trans y))
        exact ⟨_, _, _, _, _, cr_zA0 g u hm hla hf, q2, n, W, H, z, rel _ _⟩
      · have e : m = 0 := by omega
        subst e
        obtain ⟨x, q2⟩ := rr_z00 (f := f) (q_up g 8 8 (d_faultAs0 (Int32.ofNat l0) g)) u hl
        exact ⟨_, _, _, _, _, cr_zA0 g u hm hla hf, q2, n, W, H, z, rel _ _⟩
theorem pr_sheet1 (x y : Int32) (g : qM) (u : qW) (h : w_R g) (hb : v_rg 0 2 x ∧ y ≤ (40 : Int32)) : w_2 130 219 [.int (1 : Int32), .int x, .int y] g u := by
  obtain ⟨n, W, H, z, h⟩ := h
  obtain ⟨⟨l, l0, l2, rfl⟩, hy⟩ := hb
  have q1 := b_sheet1 (Int32.ofNat l) y g u
  unfold d_sheet1 at q1
  rw [k_lane l2, if_neg (by decide), if_pos hy] at q1
  by_cases h0 : 0 ≤ y
  · rw [if_pos h0] at q1
    have hy2 := Int32.le_iff_toInt_le.mp hy
    have h02 := Int32.le_iff_toInt_le.mp h0
    obtain ⟨v, v0, v1, rfl⟩ : v_rg 0 40 y := v_nat h02 hy2
    have q2 := rg_sheet1 (s_row_ 65 (fun _ => (0 : Int32)) 40 (q_up (q_up g 64 2 (Int32.ofNat l)) 64 1 (Int32.ofNat v))) u l2 v1
    refine ⟨_, _, _, _, _, q1, q2, n, W, H, z, h.shee (k := 1) (by omega) ((((((w_fs_rfl 1 g).up (by omega) (by omega)).up (by omega) (by omega)).row (by omega) rfl).up (by omega) (by omega)).up (by omega) (by omega) |>.zr rfl) (Or.inr ⟨l, v, l2, v1, rfl, rfl, rfl, rfl, fun j hj => ?_⟩)⟩
    have e1 : (s_zr 40 40 (q_up (q_up (s_row_ 65 (fun _ => (0 : Int32)) 40 (q_up (q_up g 64 2 (Int32.ofNat l)) 64 1 (Int32.ofNat v))) 84 1 (Int32.ofNat l)) 85 1 (Int32.ofNat v))) 65 j = 0 := by
      unfold s_zr
      rw [if_neg (by decide), q_up_ne (by decide), q_up_ne (by decide)]
      unfold s_row_
      rw [if_pos rfl, if_pos hj]
    have e2 : (s_zr 40 40 (q_up (q_up (s_row_ 65 (fun _ => (0 : Int32)) 40 (q_up (q_up g 64 2 (Int32.ofNat l)) 64 1 (Int32.ofNat v))) 84 1 (Int32.ofNat l)) 85 1 (Int32.ofNat v))) 86 (40 * 1 + j) = 0 := by
      unfold s_zr
      rw [if_pos rfl, if_pos (by omega)]
    exact e1.trans e2.symm
  · rw [if_neg h0] at q1
    exact w_2n h q1 (rg_sheetn1 g u l2 (Int32.not_le.mp h0))
theorem pr_lay1 (x y : Int32) (g : qM) (u : qW) (h : w_R g) : w_2 134 221 [.int (1 : Int32), .int x, .int y] g u := by
  obtain ⟨n, W, H, z, h⟩ := h
  rcases h.2.2.2.2.2 1 (by omega) with ⟨a1, a2⟩ | ⟨l, v, a1, a2, a3, a4, a5, a6, a7⟩
  · have hf : d_faultAt1 x g = 1 := by
      unfold d_faultAt1 d_isNothing1
      rw [show g 64 1 = _ from a2, if_pos rfl, if_neg (by decide)]
    exact w_2n h (cg_lay1f1 g u hf) (rg_lay1f1 g u a1)
  · have hn : d_isNothing1 g = 0 := by
      unfold d_isNothing1
      rw [show g 64 1 = Int32.ofNat v from a5, if_neg (k_nm1 (by omega))]
    by_cases hb : v_one v x
    · obtain ⟨i, hi, rfl⟩ := hb
      have hf : d_faultAt1 (Int32.ofNat i) g = 0 := by
        unfold d_faultAt1
        rw [hn, if_pos rfl, if_neg (show ¬ Int32.ofNat i < 0 from fun y => absurd ((q_lt (j := 0) (by omega) (by omega)).mp y) (by omega)), if_pos (by rw [show g 64 1 = Int32.ofNat v from a5]; exact (q_lt (by omega) (by omega)).mpr hi)]
      have q1 := cg_lay1 (v := y) g u a2 a5 hi hf
      have q2 := rg_lay1 (v := y) (q_up g 65 i (s_ln (g 64 2) y)) u a2 a1 a6 a3 hi
      rw [show (q_up g 65 i (s_ln (g 64 2) y)) 84 1 = g 64 2 from a3.trans a4.symm] at q2
      refine ⟨_, _, _, _, _, q1, q2, n, W, H, z, h.shee (k := 1) (by omega) (((w_fs_rfl 1 g).up (by omega) (by omega)).up (by omega) (by omega)) (Or.inr ⟨l, v, a1, a2, a3, a4, a5, a6, fun j hj => ?_⟩)⟩
      rw [q_up_ne (by decide), q_up_at, q_up_at, q_up_ne (by decide)]
      by_cases e : j = i
      · rw [if_pos e, if_pos (by omega)]
      · rw [if_neg e, if_neg (by omega)]
        exact a7 j hj
    · have hno : ¬ (0 ≤ x.toInt ∧ x.toInt < (v : Int)) := fun y => hb ⟨x.toInt.toNat, by omega, q_of y.1⟩
      have hf : d_faultAt1 x g = 2 := by
        unfold d_faultAt1
        rw [hn, if_pos rfl]
        by_cases c : x < 0
        · rw [if_pos c]
        · rw [if_neg c, if_neg]
          intro c2
          rw [show g 64 1 = Int32.ofNat v from a5, Int32.lt_iff_toInt_lt, q_nat (by omega)] at c2
          rw [Int32.lt_iff_toInt_lt] at c
          have z0 : (0 : Int32).toInt = 0 := rfl
          exact hno ⟨by omega, c2⟩
      have hin : s_in (Int32.toInt64 x) (0 : Int64) (Int32.toInt64 ((g 85 1) - (1 : Int32))) = 0 := by
        refine Classical.byContradiction (fun c => hno ?_)
        rw [s_in_i, show (0 : Int64).toInt = 0 from rfl, Int32.toInt_toInt64, a6, s_sub (by rw [q_nat (by omega), show (1 : Int32).toInt = 1 from rfl]; omega) (by rw [q_nat (by omega), show (1 : Int32).toInt = 1 from rfl]; omega), q_nat (by omega), show (1 : Int32).toInt = 1 from rfl] at c
        omega
      exact w_2n h (cg_lay1f2 g u hf) (rg_lay1f2 g u (by rw [a3]; exact k_nne (by omega)) hin)
theorem k_fop1 {g : qM} {v : Nat} {f : Int32} (hn : d_isNothing1 g = 0) (hs : g 64 1 = Int32.ofNat v) (hv : v ≤ 40) (hI : ¬ (0 ≤ f.toInt ∧ f.toInt + 1 < (v : Int))) : ¬ d_fop1 f g = 0 := by
  unfold d_fop1 d_faultAt1
  rw [hn, if_pos rfl, if_pos rfl, hs]
  have z0 : (0 : Int32).toInt = 0 := rfl
  have z1 : (1 : Int32).toInt = 1 := rfl
  by_cases c : f < 0
  · rw [if_pos c, if_neg (by decide)]
    decide
  · rw [if_neg c]
    rw [Int32.lt_iff_toInt_lt] at c
    by_cases c2 : f < Int32.ofNat v
    · rw [if_pos c2, if_pos rfl]
      rw [Int32.lt_iff_toInt_lt, q_nat (by omega)] at c2
      have e : (f + 1).toInt = f.toInt + 1 := by rw [s_add (by omega) (by omega), z1]
      rw [if_neg (show ¬ f + 1 < 0 from fun y => by rw [Int32.lt_iff_toInt_lt, e] at y; omega), if_neg (show ¬ f + 1 < Int32.ofNat v from fun y => by rw [Int32.lt_iff_toInt_lt, e, q_nat (by omega)] at y; omega)]
      decide
    · rw [if_neg c2, if_neg (by decide)]
      decide
theorem pr_read1 (f : Int32) (l0 m : Nat) (g : qM) (u : qW) (h : w_R g) (hl : l0 ≤ 2) (hm : m ≤ 20) : w_2 138 222 [.int (1 : Int32), .int (Int32.ofNat l0), .int f, .int (Int32.ofNat m)] g u := by
  obtain ⟨n, W, H, z, h⟩ := h
  have h5 := h.n5
  have h25 := h.wh
  have ok := h.ok
  have cs := h.cs
  have hgo := h.hgo
  obtain ⟨hn, hW, hH⟩ := h.1
  have hn2 : g 20 3 = Int32.ofNat n := h.2.1.1.2.2.2.1
  have hW2 : g 20 0 = Int32.ofNat W := h.2.1.1.1
  have hH2 : g 20 1 = Int32.ofNat H := h.2.1.1.2.1
  have hla := k_lane (g := g) hl
  have rel : ∀ x y, w_R4 n W H z (q_up (s_had (q_up g 8 8 x)) 70 33 y) := fun x y => h.town ((((w_fo_rfl g).up (by omega)).trans ⟨fun a ha => s_had_o (by omega), ⟨by rw [s_had_o (by decide)], by rw [s_had_o (by decide)], by rw [s_had_o (by decide)]⟩, fun j _ => by rw [s_had_o (by decide)], fun j _ => by rw [s_had_o (by decide)]⟩).up (by omega)) (h.2.1.same (fun a h1 h2 => by rw [q_up_ne (by omega), s_had_o (by omega), q_up_ne (by omega)]) (by rw [q_up_ne (by decide), s_had_o (by decide), q_up_ne (by decide)]))
  rcases h.2.2.2.2.2 1 (by omega) with ⟨a1, a2⟩ | ⟨l, v, a1, a2, a3, a4, a5, a6, a7⟩
  · have hn1 : d_isNothing1 g = 1 := by
      unfold d_isNothing1
      rw [show g 64 1 = _ from a2, if_pos rfl]
    have hf : d_faultAs1 (Int32.ofNat l0) g = 0 := by
      unfold d_faultAs1
      rw [hn1, if_neg (by decide)]
    by_cases hm1 : 1 ≤ m
    · have hp : ¬ d_fop1 (f + ((2 : Int32) * (0 : Int32))) g = 0 := by
        have e1 : ∀ y, d_faultAt1 y g = 1 := fun y => by
          unfold d_faultAt1
          rw [hn1, if_neg (by decide)]
        unfold d_fop1
        rw [e1, e1, if_neg (show ¬ (1 : Int32) = 0 by decide)]
        decide
      obtain ⟨x, q2⟩ := rr_zN1 (f := f) (q_up g 8 8 (d_fop1 (f + ((2 : Int32) * (0 : Int32))) g)) u hl hm hm1 a1
      exact ⟨_, _, _, _, _, cr_zC1 g u hm hla hm1 hf hp, q2, n, W, H, z, rel _ _⟩
    · have e : m = 0 := by omega
      subst e
      obtain ⟨x, q2⟩ := rr_z01 (f := f) (q_up g 8 8 (d_faultAs1 (Int32.ofNat l0) g)) u hl
      exact ⟨_, _, _, _, _, cr_zB1 g u hla hf, q2, n, W, H, z, rel _ _⟩
  · have hn1 : d_isNothing1 g = 0 := by
      unfold d_isNothing1
      rw [show g 64 1 = Int32.ofNat v from a5, if_neg (k_nm1 (by omega))]
    have hno : ¬ g 84 1 = i_none := by rw [a3]; exact k_nne (by omega)
    by_cases hll : l = l0
    · subst hll
      have hf : d_faultAs1 (Int32.ofNat l) g = 0 := by
        unfold d_faultAs1
        rw [hn1, if_pos rfl, if_pos a4]
      by_cases hm1 : 1 ≤ m
      · by_cases hI : 0 ≤ f.toInt ∧ f.toInt + 1 < (v : Int)
        · obtain ⟨j0, hj0, rfl⟩ : v_one v f := ⟨f.toInt.toNat, by omega, q_of hI.1⟩
          rw [q_nat (by omega)] at hI
          have hrow : ∀ j, j < 40 → g 65 j = g 86 (40 + j) := fun j hj => a7 j hj
          have htl : ∀ j, j + 1 < v → n_tl n (g 65) j = n_tl n (fun j => g 86 (40 + j)) j := fun j hj => n_tl_cg (hrow j (by omega)) (hrow (j + 1) (by omega))
          have hrd : f_rd (n_tl n (g 65)) v j0 m 0 = f_rd (n_tl n (fun j => g 86 (40 + j))) v j0 m 0 := f_rd_cg htl m 0
          obtain ⟨_, q1, hq⟩ := cr_ok1 (la := Int32.ofNat l) (j0 := j0) u hn2 (by omega) a2 a5 (by omega) hm hla hf
          rcases hq with ⟨w, fd, hw, rfl⟩ | ⟨w, hw, rfl⟩
          · have hG := (f_ws_ok (row := (fun j => g 86 (40 + j))) (j0 := j0) h5 w 0 (g 22) (fun q => g 71 (5 + q)) (fun x h1 h2 => ?_) (fun p hp => (h.2.1.2.2.2.2.1 p hp).2.1) h.2.1.2.2.2.2.2.2.2.2.2.1)
            · have hfw : f_ws (g 65) j0 w 0 (g 22) = f_ws (fun j => g 86 (40 + j)) j0 w 0 (g 22) := f_ws_cg w 0 _ (fun x h1 h2 => by
                have y := ((f_rd_le m 0 w true hw).2.2 x h1 (by omega)).2
                exact ⟨hrow _ (by omega), hrow (j0 + 2 * x + 1) (by omega)⟩)
              rw [hfw] at q1
              have hg71 : q_up (s_m22 (f_ws (fun j => g 86 (40 + j)) j0 w 0 (g 22)) g) 8 8 fd 71 = g 71 := rfl
              have hg86 : q_up (s_m22 (f_ws (fun j => g 86 (40 + j)) j0 w 0 (g 22)) g) 8 8 fd 86 = g 86 := rfl
              obtain ⟨_, q2, hr⟩ := rr_ok1 (g := q_up (s_m22 (f_ws (fun j => g 86 (40 + j)) j0 w 0 (g 22)) g) 8 8 fd) u hn hW hH h5 h25 a2 a6 hno a3 (show j0 < 40 by omega) hm hl h.2.1.2.2.2.2.2.2.2.2.2.1
              rw [hg71, hg86] at hr
              rcases hr with ⟨w', rs, hw', rfl⟩ | ⟨w', hw', rfl⟩
              · have ew : w' = w := by
                  have y := hrd.symm.trans hw
                  rw [hw'] at y
                  exact congrArg Prod.fst y
                subst ew
                have kr := k_rd (g := g) (F := f_ws (fun j => g 86 (40 + j)) j0 w' 0 (g 22)) (G := f_ws (fun j => g 86 (40 + j)) j0 w' 0 (fun q => g 71 (5 + q))) (fd := fd) (rs := rs)
                refine ⟨_, _, _, _, _, q1, q2, n, W, H, z, h.town ⟨fun a ha => ?_, ⟨?_, ?_, ?_⟩, fun j hj => ?_, fun j hj => ?_⟩ (w_TT.of (h.2.1.moods hG.1 hG.2) ?_ ?_ ?_ ?_ ?_ ?_ ?_ ?_ ?_)⟩
                · exact kr.1 a (by omega) (by omega) (by omega) (by omega) (by omega)
                · exact kr.2.2.2.1
                · rw [kr.1 9 (by decide) (by decide) (by decide) (by decide) (by decide)]
                · rw [kr.1 11 (by decide) (by decide) (by decide) (by decide) (by decide)]
                · exact kr.2.2.2.2 j (by omega)
                · rw [kr.2.2.1]
                  exact if_neg (by omega)
                · exact kr.1 20 (by decide) (by decide) (by decide) (by decide) (by decide)
                · exact kr.1 21 (by decide) (by decide) (by decide) (by decide) (by decide)
                · exact kr.2.1
                · exact kr.1 23 (by decide) (by decide) (by decide) (by decide) (by decide)
                · exact kr.1 24 (by decide) (by decide) (by decide) (by decide) (by decide)
                · exact kr.1 25 (by decide) (by decide) (by decide) (by decide) (by decide)
                · exact kr.1 26 (by decide) (by decide) (by decide) (by decide) (by decide)
                · exact kr.1 27 (by decide) (by decide) (by decide) (by decide) (by decide)
                · exact kr.2.2.1
              · exact absurd (hw'.symm.trans (hrd.symm.trans hw)) (fun y => by cases y)
            · rw [← htl _ (by have y := ((f_rd_le m 0 w true hw).2.2 x h1 (by omega)).2; omega)]
              exact ((f_rd_le m 0 w true hw).2.2 x h1 (by omega)).1
          · obtain ⟨_, q2, hr⟩ := rr_ok1 (g := g) u hn hW hH h5 h25 a2 a6 hno a3 (show j0 < 40 by omega) hm hl h.2.1.2.2.2.2.2.2.2.2.2.1
            rcases hr with ⟨w', rs, hw', rfl⟩ | ⟨w', hw', rfl⟩
            · exact absurd (hw'.symm.trans (hrd.symm.trans hw)) (fun y => by cases y)
            · have ew : w' = w := by
                have y := hrd.symm.trans hw
                rw [hw'] at y
                exact congrArg Prod.fst y
              subst ew
              exact ⟨_, _, _, _, _, q1, q2, n, W, H, z, h.town ⟨fun a ha => s_had_o (by omega), ⟨by rw [s_had_o (by decide)], by rw [s_had_o (by decide)], by rw [s_had_o (by decide)]⟩, fun j _ => by rw [s_had_o (by decide)], fun j _ => by rw [s_had_o (by decide)]⟩ (h.2.1.same (fun a h1 h2 => s_had_o (by omega)) (s_had_o (by decide)))⟩
        · have hp : ¬ d_fop1 (f + ((2 : Int32) * (0 : Int32))) g = 0 := by
            rw [k_f0]
            exact k_fop1 hn1 a5 a2 hI
          obtain ⟨x, q2⟩ := rr_zI1 (f := f) (q_up g 8 8 (d_fop1 (f + ((2 : Int32) * (0 : Int32))) g)) u hl hm hm1 hno a3 a2 a6 hI
          exact ⟨_, _, _, _, _, cr_zC1 g u hm hla hm1 hf hp, q2, n, W, H, z, rel _ _⟩
      · have e : m = 0 := by omega
        subst e
        obtain ⟨x, q2⟩ := rr_z01 (f := f) (q_up g 8 8 (d_faultAs1 (Int32.ofNat l) g)) u hl
        exact ⟨_, _, _, _, _, cr_zB1 g u hla hf, q2, n, W, H, z, rel _ _⟩
    · have hnl : ¬ Int32.ofNat l = Int32.ofNat l0 := fun y => hll ((q_eq (by omega) (by omega)).mp y)
      have hf : ¬ d_faultAs1 (Int32.ofNat l0) g = 0 := by
        unfold d_faultAs1
        rw [hn1, if_pos rfl, if_neg (fun y => hnl (a4.symm.trans y))]
        decide
      by_cases hm1 : 1 ≤ m
      · obtain ⟨x, q2⟩ := rr_zL1 (f := f) (q_up g 8 8 (d_faultAs1 (Int32.ofNat l0) g)) u hl hm hm1 hno (fun y => hnl (a3.symm.trans y))
        exact ⟨_, _, _, _, _, cr_zA1 g u hm hla hf, q2, n, W, H, z, rel _ _⟩
      · have e : m = 0 := by omega
        subst e
        obtain ⟨x, q2⟩ := rr_z01 (f := f) (q_up g 8 8 (d_faultAs1 (Int32.ofNat l0) g)) u hl
        exact ⟨_, _, _, _, _, cr_zA1 g u hm hla hf, q2, n, W, H, z, rel _ _⟩
theorem pr_sheet2 (x y : Int32) (g : qM) (u : qW) (h : w_R g) (hb : v_rg 0 2 x ∧ y ≤ (40 : Int32)) : w_2 130 219 [.int (2 : Int32), .int x, .int y] g u := by
  obtain ⟨n, W, H, z, h⟩ := h
  obtain ⟨⟨l, l0, l2, rfl⟩, hy⟩ := hb
  have q1 := b_sheet2 (Int32.ofNat l) y g u
  unfold d_sheet2 at q1
  rw [k_lane l2, if_neg (by decide), if_pos hy] at q1
  by_cases h0 : 0 ≤ y
  · rw [if_pos h0] at q1
    have hy2 := Int32.le_iff_toInt_le.mp hy
    have h02 := Int32.le_iff_toInt_le.mp h0
    obtain ⟨v, v0, v1, rfl⟩ : v_rg 0 40 y := v_nat h02 hy2
    have q2 := rg_sheet2 (s_row_ 67 (fun _ => (0 : Int32)) 40 (q_up (q_up g 66 2 (Int32.ofNat l)) 66 1 (Int32.ofNat v))) u l2 v1
    refine ⟨_, _, _, _, _, q1, q2, n, W, H, z, h.shee (k := 2) (by omega) ((((((w_fs_rfl 2 g).up (by omega) (by omega)).up (by omega) (by omega)).row (by omega) rfl).up (by omega) (by omega)).up (by omega) (by omega) |>.zr rfl) (Or.inr ⟨l, v, l2, v1, rfl, rfl, rfl, rfl, fun j hj => ?_⟩)⟩
    have e1 : (s_zr 80 40 (q_up (q_up (s_row_ 67 (fun _ => (0 : Int32)) 40 (q_up (q_up g 66 2 (Int32.ofNat l)) 66 1 (Int32.ofNat v))) 84 2 (Int32.ofNat l)) 85 2 (Int32.ofNat v))) 67 j = 0 := by
      unfold s_zr
      rw [if_neg (by decide), q_up_ne (by decide), q_up_ne (by decide)]
      unfold s_row_
      rw [if_pos rfl, if_pos hj]
    have e2 : (s_zr 80 40 (q_up (q_up (s_row_ 67 (fun _ => (0 : Int32)) 40 (q_up (q_up g 66 2 (Int32.ofNat l)) 66 1 (Int32.ofNat v))) 84 2 (Int32.ofNat l)) 85 2 (Int32.ofNat v))) 86 (40 * 2 + j) = 0 := by
      unfold s_zr
      rw [if_pos rfl, if_pos (by omega)]
    exact e1.trans e2.symm
  · rw [if_neg h0] at q1
    exact w_2n h q1 (rg_sheetn2 g u l2 (Int32.not_le.mp h0))
theorem pr_lay2 (x y : Int32) (g : qM) (u : qW) (h : w_R g) : w_2 134 221 [.int (2 : Int32), .int x, .int y] g u := by
  obtain ⟨n, W, H, z, h⟩ := h
  rcases h.2.2.2.2.2 2 (by omega) with ⟨a1, a2⟩ | ⟨l, v, a1, a2, a3, a4, a5, a6, a7⟩
  · have hf : d_faultAt2 x g = 1 := by
      unfold d_faultAt2 d_isNothing2
      rw [show g 66 1 = _ from a2, if_pos rfl, if_neg (by decide)]
    exact w_2n h (cg_lay2f1 g u hf) (rg_lay2f1 g u a1)
  · have hn : d_isNothing2 g = 0 := by
      unfold d_isNothing2
      rw [show g 66 1 = Int32.ofNat v from a5, if_neg (k_nm1 (by omega))]
    by_cases hb : v_one v x
    · obtain ⟨i, hi, rfl⟩ := hb
      have hf : d_faultAt2 (Int32.ofNat i) g = 0 := by
        unfold d_faultAt2
        rw [hn, if_pos rfl, if_neg (show ¬ Int32.ofNat i < 0 from fun y => absurd ((q_lt (j := 0) (by omega) (by omega)).mp y) (by omega)), if_pos (by rw [show g 66 1 = Int32.ofNat v from a5]; exact (q_lt (by omega) (by omega)).mpr hi)]
      have q1 := cg_lay2 (v := y) g u a2 a5 hi hf
      have q2 := rg_lay2 (v := y) (q_up g 67 i (s_ln (g 66 2) y)) u a2 a1 a6 a3 hi
      rw [show (q_up g 67 i (s_ln (g 66 2) y)) 84 2 = g 66 2 from a3.trans a4.symm] at q2
      refine ⟨_, _, _, _, _, q1, q2, n, W, H, z, h.shee (k := 2) (by omega) (((w_fs_rfl 2 g).up (by omega) (by omega)).up (by omega) (by omega)) (Or.inr ⟨l, v, a1, a2, a3, a4, a5, a6, fun j hj => ?_⟩)⟩
      rw [q_up_ne (by decide), q_up_at, q_up_at, q_up_ne (by decide)]
      by_cases e : j = i
      · rw [if_pos e, if_pos (by omega)]
      · rw [if_neg e, if_neg (by omega)]
        exact a7 j hj
    · have hno : ¬ (0 ≤ x.toInt ∧ x.toInt < (v : Int)) := fun y => hb ⟨x.toInt.toNat, by omega, q_of y.1⟩
      have hf : d_faultAt2 x g = 2 := by
        unfold d_faultAt2
        rw [hn, if_pos rfl]
        by_cases c : x < 0
        · rw [if_pos c]
        · rw [if_neg c, if_neg]
          intro c2
          rw [show g 66 1 = Int32.ofNat v from a5, Int32.lt_iff_toInt_lt, q_nat (by omega)] at c2
          rw [Int32.lt_iff_toInt_lt] at c
          have z0 : (0 : Int32).toInt = 0 := rfl
          exact hno ⟨by omega, c2⟩
      have hin : s_in (Int32.toInt64 x) (0 : Int64) (Int32.toInt64 ((g 85 2) - (1 : Int32))) = 0 := by
        refine Classical.byContradiction (fun c => hno ?_)
        rw [s_in_i, show (0 : Int64).toInt = 0 from rfl, Int32.toInt_toInt64, a6, s_sub (by rw [q_nat (by omega), show (1 : Int32).toInt = 1 from rfl]; omega) (by rw [q_nat (by omega), show (1 : Int32).toInt = 1 from rfl]; omega), q_nat (by omega), show (1 : Int32).toInt = 1 from rfl] at c
        omega
      exact w_2n h (cg_lay2f2 g u hf) (rg_lay2f2 g u (by rw [a3]; exact k_nne (by omega)) hin)
theorem k_fop2 {g : qM} {v : Nat} {f : Int32} (hn : d_isNothing2 g = 0) (hs : g 66 1 = Int32.ofNat v) (hv : v ≤ 40) (hI : ¬ (0 ≤ f.toInt ∧ f.toInt + 1 < (v : Int))) : ¬ d_fop2 f g = 0 := by
  unfold d_fop2 d_faultAt2
  rw [hn, if_pos rfl, if_pos rfl, hs]
  have z0 : (0 : Int32).toInt = 0 := rfl
  have z1 : (1 : Int32).toInt = 1 := rfl
  by_cases c : f < 0
  · rw [if_pos c, if_neg (by decide)]
    decide
  · rw [if_neg c]
    rw [Int32.lt_iff_toInt_lt] at c
    by_cases c2 : f < Int32.ofNat v
    · rw [if_pos c2, if_pos rfl]
      rw [Int32.lt_iff_toInt_lt, q_nat (by omega)] at c2
      have e : (f + 1).toInt = f.toInt + 1 := by rw [s_add (by omega) (by omega), z1]
      rw [if_neg (show ¬ f + 1 < 0 from fun y => by rw [Int32.lt_iff_toInt_lt, e] at y; omega), if_neg (show ¬ f + 1 < Int32.ofNat v from fun y => by rw [Int32.lt_iff_toInt_lt, e, q_nat (by omega)] at y; omega)]
      decide
    · rw [if_neg c2, if_neg (by decide)]
      decide
theorem pr_read2 (f : Int32) (l0 m : Nat) (g : qM) (u : qW) (h : w_R g) (hl : l0 ≤ 2) (hm : m ≤ 20) : w_2 138 222 [.int (2 : Int32), .int (Int32.ofNat l0), .int f, .int (Int32.ofNat m)] g u := by
  obtain ⟨n, W, H, z, h⟩ := h
  have h5 := h.n5
  have h25 := h.wh
  have ok := h.ok
  have cs := h.cs
  have hgo := h.hgo
  obtain ⟨hn, hW, hH⟩ := h.1
  have hn2 : g 20 3 = Int32.ofNat n := h.2.1.1.2.2.2.1
  have hW2 : g 20 0 = Int32.ofNat W := h.2.1.1.1
  have hH2 : g 20 1 = Int32.ofNat H := h.2.1.1.2.1
  have hla := k_lane (g := g) hl
  have rel : ∀ x y, w_R4 n W H z (q_up (s_had (q_up g 8 8 x)) 70 33 y) := fun x y => h.town ((((w_fo_rfl g).up (by omega)).trans ⟨fun a ha => s_had_o (by omega), ⟨by rw [s_had_o (by decide)], by rw [s_had_o (by decide)], by rw [s_had_o (by decide)]⟩, fun j _ => by rw [s_had_o (by decide)], fun j _ => by rw [s_had_o (by decide)]⟩).up (by omega)) (h.2.1.same (fun a h1 h2 => by rw [q_up_ne (by omega), s_had_o (by omega), q_up_ne (by omega)]) (by rw [q_up_ne (by decide), s_had_o (by decide), q_up_ne (by decide)]))
  rcases h.2.2.2.2.2 2 (by omega) with ⟨a1, a2⟩ | ⟨l, v, a1, a2, a3, a4, a5, a6, a7⟩
  · have hn1 : d_isNothing2 g = 1 := by
      unfold d_isNothing2
      rw [show g 66 1 = _ from a2, if_pos rfl]
    have hf : d_faultAs2 (Int32.ofNat l0) g = 0 := by
      unfold d_faultAs2
      rw [hn1, if_neg (by decide)]
    by_cases hm1 : 1 ≤ m
    · have hp : ¬ d_fop2 (f + ((2 : Int32) * (0 : Int32))) g = 0 := by
        have e1 : ∀ y, d_faultAt2 y g = 1 := fun y => by
          unfold d_faultAt2
          rw [hn1, if_neg (by decide)]
        unfold d_fop2
        rw [e1, e1, if_neg (show ¬ (1 : Int32) = 0 by decide)]
        decide
      obtain ⟨x, q2⟩ := rr_zN2 (f := f) (q_up g 8 8 (d_fop2 (f + ((2 : Int32) * (0 : Int32))) g)) u hl hm hm1 a1
      exact ⟨_, _, _, _, _, cr_zC2 g u hm hla hm1 hf hp, q2, n, W, H, z, rel _ _⟩
    · have e : m = 0 := by omega
      subst e
      obtain ⟨x, q2⟩ := rr_z02 (f := f) (q_up g 8 8 (d_faultAs2 (Int32.ofNat l0) g)) u hl
      exact ⟨_, _, _, _, _, cr_zB2 g u hla hf, q2, n, W, H, z, rel _ _⟩
  · have hn1 : d_isNothing2 g = 0 := by
      unfold d_isNothing2
      rw [show g 66 1 = Int32.ofNat v from a5, if_neg (k_nm1 (by omega))]
    have hno : ¬ g 84 2 = i_none := by rw [a3]; exact k_nne (by omega)
    by_cases hll : l = l0
    · subst hll
      have hf : d_faultAs2 (Int32.ofNat l) g = 0 := by
        unfold d_faultAs2
        rw [hn1, if_pos rfl, if_pos a4]
      by_cases hm1 : 1 ≤ m
      · by_cases hI : 0 ≤ f.toInt ∧ f.toInt + 1 < (v : Int)
        · obtain ⟨j0, hj0, rfl⟩ : v_one v f := ⟨f.toInt.toNat, by omega, q_of hI.1⟩
          rw [q_nat (by omega)] at hI
          have hrow : ∀ j, j < 40 → g 67 j = g 86 (80 + j) := fun j hj => a7 j hj
          have htl : ∀ j, j + 1 < v → n_tl n (g 67) j = n_tl n (fun j => g 86 (80 + j)) j := fun j hj => n_tl_cg (hrow j (by omega)) (hrow (j + 1) (by omega))
          have hrd : f_rd (n_tl n (g 67)) v j0 m 0 = f_rd (n_tl n (fun j => g 86 (80 + j))) v j0 m 0 := f_rd_cg htl m 0
          obtain ⟨_, q1, hq⟩ := cr_ok2 (la := Int32.ofNat l) (j0 := j0) u hn2 (by omega) a2 a5 (by omega) hm hla hf
          rcases hq with ⟨w, fd, hw, rfl⟩ | ⟨w, hw, rfl⟩
          · have hG := (f_ws_ok (row := (fun j => g 86 (80 + j))) (j0 := j0) h5 w 0 (g 22) (fun q => g 71 (5 + q)) (fun x h1 h2 => ?_) (fun p hp => (h.2.1.2.2.2.2.1 p hp).2.1) h.2.1.2.2.2.2.2.2.2.2.2.1)
            · have hfw : f_ws (g 67) j0 w 0 (g 22) = f_ws (fun j => g 86 (80 + j)) j0 w 0 (g 22) := f_ws_cg w 0 _ (fun x h1 h2 => by
                have y := ((f_rd_le m 0 w true hw).2.2 x h1 (by omega)).2
                exact ⟨hrow _ (by omega), hrow (j0 + 2 * x + 1) (by omega)⟩)
              rw [hfw] at q1
              have hg71 : q_up (s_m22 (f_ws (fun j => g 86 (80 + j)) j0 w 0 (g 22)) g) 8 8 fd 71 = g 71 := rfl
              have hg86 : q_up (s_m22 (f_ws (fun j => g 86 (80 + j)) j0 w 0 (g 22)) g) 8 8 fd 86 = g 86 := rfl
              obtain ⟨_, q2, hr⟩ := rr_ok2 (g := q_up (s_m22 (f_ws (fun j => g 86 (80 + j)) j0 w 0 (g 22)) g) 8 8 fd) u hn hW hH h5 h25 a2 a6 hno a3 (show j0 < 40 by omega) hm hl h.2.1.2.2.2.2.2.2.2.2.2.1
              rw [hg71, hg86] at hr
              rcases hr with ⟨w', rs, hw', rfl⟩ | ⟨w', hw', rfl⟩
              · have ew : w' = w := by
                  have y := hrd.symm.trans hw
                  rw [hw'] at y
                  exact congrArg Prod.fst y
                subst ew
                have kr := k_rd (g := g) (F := f_ws (fun j => g 86 (80 + j)) j0 w' 0 (g 22)) (G := f_ws (fun j => g 86 (80 + j)) j0 w' 0 (fun q => g 71 (5 + q))) (fd := fd) (rs := rs)
                refine ⟨_, _, _, _, _, q1, q2, n, W, H, z, h.town ⟨fun a ha => ?_, ⟨?_, ?_, ?_⟩, fun j hj => ?_, fun j hj => ?_⟩ (w_TT.of (h.2.1.moods hG.1 hG.2) ?_ ?_ ?_ ?_ ?_ ?_ ?_ ?_ ?_)⟩
                · exact kr.1 a (by omega) (by omega) (by omega) (by omega) (by omega)
                · exact kr.2.2.2.1
                · rw [kr.1 9 (by decide) (by decide) (by decide) (by decide) (by decide)]
                · rw [kr.1 11 (by decide) (by decide) (by decide) (by decide) (by decide)]
                · exact kr.2.2.2.2 j (by omega)
                · rw [kr.2.2.1]
                  exact if_neg (by omega)
                · exact kr.1 20 (by decide) (by decide) (by decide) (by decide) (by decide)
                · exact kr.1 21 (by decide) (by decide) (by decide) (by decide) (by decide)
                · exact kr.2.1
                · exact kr.1 23 (by decide) (by decide) (by decide) (by decide) (by decide)
                · exact kr.1 24 (by decide) (by decide) (by decide) (by decide) (by decide)
                · exact kr.1 25 (by decide) (by decide) (by decide) (by decide) (by decide)
                · exact kr.1 26 (by decide) (by decide) (by decide) (by decide) (by decide)
                · exact kr.1 27 (by decide) (by decide) (by decide) (by decide) (by decide)
                · exact kr.2.2.1
              · exact absurd (hw'.symm.trans (hrd.symm.trans hw)) (fun y => by cases y)
            · rw [← htl _ (by have y := ((f_rd_le m 0 w true hw).2.2 x h1 (by omega)).2; omega)]
              exact ((f_rd_le m 0 w true hw).2.2 x h1 (by omega)).1
          · obtain ⟨_, q2, hr⟩ := rr_ok2 (g := g) u hn hW hH h5 h25 a2 a6 hno a3 (show j0 < 40 by omega) hm hl h.2.1.2.2.2.2.2.2.2.2.2.1
            rcases hr with ⟨w', rs, hw', rfl⟩ | ⟨w', hw', rfl⟩
            · exact absurd (hw'.symm.trans (hrd.symm.trans hw)) (fun y => by cases y)
            · have ew : w' = w := by
                have y := hrd.symm.trans hw
                rw [hw'] at y
                exact congrArg Prod.fst y
              subst ew
              exact ⟨_, _, _, _, _, q1, q2, n, W, H, z, h.town ⟨fun a ha => s_had_o (by omega), ⟨by rw [s_had_o (by decide)], by rw [s_had_o (by decide)], by rw [s_had_o (by decide)]⟩, fun j _ => by rw [s_had_o (by decide)], fun j _ => by rw [s_had_o (by decide)]⟩ (h.2.1.same (fun a h1 h2 => s_had_o (by omega)) (s_had_o (by decide)))⟩
        · have hp : ¬ d_fop2 (f + ((2 : Int32) * (0 : Int32))) g = 0 := by
            rw [k_f0]
            exact k_fop2 hn1 a5 a2 hI
          obtain ⟨x, q2⟩ := rr_zI2 (f := f) (q_up g 8 8 (d_fop2 (f + ((2 : Int32) * (0 : Int32))) g)) u hl hm hm1 hno a3 a2 a6 hI
          exact ⟨_, _, _, _, _, cr_zC2 g u hm hla hm1 hf hp, q2, n, W, H, z, rel _ _⟩
      · have e : m = 0 := by omega
        subst e
        obtain ⟨x, q2⟩ := rr_z02 (f := f) (q_up g 8 8 (d_faultAs2 (Int32.ofNat l) g)) u hl
        exact ⟨_, _, _, _, _, cr_zB2 g u hla hf, q2, n, W, H, z, rel _ _⟩
    · have hnl : ¬ Int32.ofNat l = Int32.ofNat l0 := fun y => hll ((q_eq (by omega) (by omega)).mp y)
      have hf : ¬ d_faultAs2 (Int32.ofNat l0) g = 0 := by
        unfold d_faultAs2
        rw [hn1, if_pos rfl, if_neg (fun y => hnl (a4.symm.trans y))]
        decide
      by_cases hm1 : 1 ≤ m
      · obtain ⟨x, q2⟩ := rr_zL2 (f := f) (q_up g 8 8 (d_faultAs2 (Int32.ofNat l0) g)) u hl hm hm1 hno (fun y => hnl (a3.symm.trans y))
        exact ⟨_, _, _, _, _, cr_zA2 g u hm hla hf, q2, n, W, H, z, rel _ _⟩
      · have e : m = 0 := by omega
        subst e
        obtain ⟨x, q2⟩ := rr_z02 (f := f) (q_up g 8 8 (d_faultAs2 (Int32.ofNat l0) g)) u hl
        exact ⟨_, _, _, _, _, cr_zA2 g u hm hla hf, q2, n, W, H, z, rel _ _⟩
theorem pr_sheet3 (x y : Int32) (g : qM) (u : qW) (h : w_R g) (hb : v_rg 0 2 x ∧ y ≤ (40 : Int32)) : w_2 130 219 [.int (3 : Int32), .int x, .int y] g u := by
  obtain ⟨n, W, H, z, h⟩ := h
  obtain ⟨⟨l, l0, l2, rfl⟩, hy⟩ := hb
  have q1 := b_sheet3 (Int32.ofNat l) y g u
  unfold d_sheet3 at q1
  rw [k_lane l2, if_neg (by decide), if_pos hy] at q1
  by_cases h0 : 0 ≤ y
  · rw [if_pos h0] at q1
    have hy2 := Int32.le_iff_toInt_le.mp hy
    have h02 := Int32.le_iff_toInt_le.mp h0
    obtain ⟨v, v0, v1, rfl⟩ : v_rg 0 40 y := v_nat h02 hy2
    have q2 := rg_sheet3 (s_row_ 69 (fun _ => (0 : Int32)) 40 (q_up (q_up g 68 2 (Int32.ofNat l)) 68 1 (Int32.ofNat v))) u l2 v1
    refine ⟨_, _, _, _, _, q1, q2, n, W, H, z, h.shee (k := 3) (by omega) ((((((w_fs_rfl 3 g).up (by omega) (by omega)).up (by omega) (by omega)).row (by omega) rfl).up (by omega) (by omega)).up (by omega) (by omega) |>.zr rfl) (Or.inr ⟨l, v, l2, v1, rfl, rfl, rfl, rfl, fun j hj => ?_⟩)⟩
    have e1 : (s_zr 120 40 (q_up (q_up (s_row_ 69 (fun _ => (0 : Int32)) 40 (q_up (q_up g 68 2 (Int32.ofNat l)) 68 1 (Int32.ofNat v))) 84 3 (Int32.ofNat l)) 85 3 (Int32.ofNat v))) 69 j = 0 := by
      unfold s_zr
      rw [if_neg (by decide), q_up_ne (by decide), q_up_ne (by decide)]
      unfold s_row_
      rw [if_pos rfl, if_pos hj]
    have e2 : (s_zr 120 40 (q_up (q_up (s_row_ 69 (fun _ => (0 : Int32)) 40 (q_up (q_up g 68 2 (Int32.ofNat l)) 68 1 (Int32.ofNat v))) 84 3 (Int32.ofNat l)) 85 3 (Int32.ofNat v))) 86 (40 * 3 + j) = 0 := by
      unfold s_zr
      rw [if_pos rfl, if_pos (by omega)]
    exact e1.trans e2.symm
  · rw [if_neg h0] at q1
    exact w_2n h q1 (rg_sheetn3 g u l2 (Int32.not_le.mp h0))
theorem pr_lay3 (x y : Int32) (g : qM) (u : qW) (h : w_R g) : w_2 134 221 [.int (3 : Int32), .int x, .int y] g u := by
  obtain ⟨n, W, H, z, h⟩ := h
  rcases h.2.2.2.2.2 3 (by omega) with ⟨a1, a2⟩ | ⟨l, v, a1, a2, a3, a4, a5, a6, a7⟩
  · have hf : d_faultAt3 x g = 1 := by
      unfold d_faultAt3 d_isNothing3
      rw [show g 68 1 = _ from a2, if_pos rfl, if_neg (by decide)]
    exact w_2n h (cg_lay3f1 g u hf) (rg_lay3f1 g u a1)
  · have hn : d_isNothing3 g = 0 := by
      unfold d_isNothing3
      rw [show g 68 1 = Int32.ofNat v from a5, if_neg (k_nm1 (by omega))]
    by_cases hb : v_one v x
    · obtain ⟨i, hi, rfl⟩ := hb
      have hf : d_faultAt3 (Int32.ofNat i) g = 0 := by
        unfold d_faultAt3
        rw [hn, if_pos rfl, if_neg (show ¬ Int32.ofNat i < 0 from fun y => absurd ((q_lt (j := 0) (by omega) (by omega)).mp y) (by omega)), if_pos (by rw [show g 68 1 = Int32.ofNat v from a5]; exact (q_lt (by omega) (by omega)).mpr hi)]
      have q1 := cg_lay3 (v := y) g u a2 a5 hi hf
      have q2 := rg_lay3 (v := y) (q_up g 69 i (s_ln (g 68 2) y)) u a2 a1 a6 a3 hi
      rw [show (q_up g 69 i (s_ln (g 68 2) y)) 84 3 = g 68 2 from a3.trans a4.symm] at q2
      refine ⟨_, _, _, _, _, q1, q2, n, W, H, z, h.shee (k := 3) (by omega) (((w_fs_rfl 3 g).up (by omega) (by omega)).up (by omega) (by omega)) (Or.inr ⟨l, v, a1, a2, a3, a4, a5, a6, fun j hj => ?_⟩)⟩
      rw [q_up_ne (by decide), q_up_at, q_up_at, q_up_ne (by decide)]
      by_cases e : j = i
      · rw [if_pos e, if_pos (by omega)]
      · rw [if_neg e, if_neg (by omega)]
        exact a7 j hj
    · have hno : ¬ (0 ≤ x.toInt ∧ x.toInt < (v : Int)) := fun y => hb ⟨x.toInt.toNat, by omega, q_of y.1⟩
      have hf : d_faultAt3 x g = 2 := by
        unfold d_faultAt3
        rw [hn, if_pos rfl]
        by_cases c : x < 0
        · rw [if_pos c]
        · rw [if_neg c, if_neg]
          intro c2
          rw [show g 68 1 = Int32.ofNat v from a5, Int32.lt_iff_toInt_lt, q_nat (by omega)] at c2
          rw [Int32.lt_iff_toInt_lt] at c
          have z0 : (0 : Int32).toInt = 0 := rfl
          exact hno ⟨by omega, c2⟩
      have hin : s_in (Int32.toInt64 x) (0 : Int64) (Int32.toInt64 ((g 85 3) - (1 : Int32))) = 0 := by
        refine Classical.byContradiction (fun c => hno ?_)
        rw [s_in_i, show (0 : Int64).toInt = 0 from rfl, Int32.toInt_toInt64, a6, s_sub (by rw [q_nat (by omega), show (1 : Int32).toInt = 1 from rfl]; omega) (by rw [q_nat (by omega), show (1 : Int32).toInt = 1 from rfl]; omega), q_nat (by omega), show (1 : Int32).toInt = 1 from rfl] at c
        omega
      exact w_2n h (cg_lay3f2 g u hf) (rg_lay3f2 g u (by rw [a3]; exact k_nne (by omega)) hin)
theorem k_fop3 {g : qM} {v : Nat} {f : Int32} (hn : d_isNothing3 g = 0) (hs : g 68 1 = Int32.ofNat v) (hv : v ≤ 40) (hI : ¬ (0 ≤ f.toInt ∧ f.toInt + 1 < (v : Int))) : ¬ d_fop3 f g = 0 := by
  unfold d_fop3 d_faultAt3
  rw [hn, if_pos rfl, if_pos rfl, hs]
  have z0 : (0 : Int32).toInt = 0 := rfl
  have z1 : (1 : Int32).toInt = 1 := rfl
  by_cases c : f < 0
  · rw [if_pos c, if_neg (by decide)]
    decide
  · rw [if_neg c]
    rw [Int32.lt_iff_toInt_lt] at c
    by_cases c2 : f < Int32.ofNat v
    · rw [if_pos c2, if_pos rfl]
      rw [Int32.lt_iff_toInt_lt, q_nat (by omega)] at c2
      have e : (f + 1).toInt = f.toInt + 1 := by rw [s_add (by omega) (by omega), z1]
      rw [if_neg (show ¬ f + 1 < 0 from fun y => by rw [Int32.lt_iff_toInt_lt, e] at y; omega), if_neg (show ¬ f + 1 < Int32.ofNat v from fun y => by rw [Int32.lt_iff_toInt_lt, e, q_nat (by omega)] at y; omega)]
      decide
    · rw [if_neg c2, if_neg (by decide)]
      decide
theorem pr_read3 (f : Int32) (l0 m : Nat) (g : qM) (u : qW) (h : w_R g) (hl : l0 ≤ 2) (hm : m ≤ 20) : w_2 138 222 [.int (3 : Int32), .int (Int32.ofNat l0), .int f, .int (Int32.ofNat m)] g u := by
  obtain ⟨n, W, H, z, h⟩ := h
  have h5 := h.n5
  have h25 := h.wh
  have ok := h.ok
  have cs := h.cs
  have hgo := h.hgo
  obtain ⟨hn, hW, hH⟩ := h.1
  have hn2 : g 20 3 = Int32.ofNat n := h.2.1.1.2.2.2.1
  have hW2 : g 20 0 = Int32.ofNat W := h.2.1.1.1
  have hH2 : g 20 1 = Int32.ofNat H := h.2.1.1.2.1
  have hla := k_lane (g := g) hl
  have rel : ∀ x y, w_R4 n W H z (q_up (s_had (q_up g 8 8 x)) 70 33 y) := fun x y => h.town ((((w_fo_rfl g).up (by omega)).trans ⟨fun a ha => s_had_o (by omega), ⟨by rw [s_had_o (by decide)], by rw [s_had_o (by decide)], by rw [s_had_o (by decide)]⟩, fun j _ => by rw [s_had_o (by decide)], fun j _ => by rw [s_had_o (by decide)]⟩).up (by omega)) (h.2.1.same (fun a h1 h2 => by rw [q_up_ne (by omega), s_had_o (by omega), q_up_ne (by omega)]) (by rw [q_up_ne (by decide), s_had_o (by decide), q_up_ne (by decide)]))
  rcases h.2.2.2.2.2 3 (by omega) with ⟨a1, a2⟩ | ⟨l, v, a1, a2, a3, a4, a5, a6, a7⟩
  · have hn1 : d_isNothing3 g = 1 := by
      unfold d_isNothing3
      rw [show g 68 1 = _ from a2, if_pos rfl]
    have hf : d_faultAs3 (Int32.ofNat l0) g = 0 := by
      unfold d_faultAs3
      rw [hn1, if_neg (by decide)]
    by_cases hm1 : 1 ≤ m
    · have hp : ¬ d_fop3 (f + ((2 : Int32) * (0 : Int32))) g = 0 := by
        have e1 : ∀ y, d_faultAt3 y g = 1 := fun y => by
          unfold d_faultAt3
          rw [hn1, if_neg (by decide)]
        unfold d_fop3
        rw [e1, e1, if_neg (show ¬ (1 : Int32) = 0 by decide)]
        decide
      obtain ⟨x, q2⟩ := rr_zN3 (f := f) (q_up g 8 8 (d_fop3 (f + ((2 : Int32) * (0 : Int32))) g)) u hl hm hm1 a1
      exact ⟨_, _, _, _, _, cr_zC3 g u hm hla hm1 hf hp, q2, n, W, H, z, rel _ _⟩
    · have e : m = 0 := by omega
      subst e
      obtain ⟨x, q2⟩ := rr_z03 (f := f) (q_up g 8 8 (d_faultAs3 (Int32.ofNat l0) g)) u hl
      exact ⟨_, _, _, _, _, cr_zB3 g u hla hf, q2, n, W, H, z, rel _ _⟩
  · have hn1 : d_isNothing3 g = 0 := by
      unfold d_isNothing3
      rw [show g 68 1 = Int32.ofNat v from a5, if_neg (k_nm1 (by omega))]
    have hno : ¬ g 84 3 = i_none := by rw [a3]; exact k_nne (by omega)
    by_cases hll : l = l0
    · subst hll
      have hf : d_faultAs3 (Int32.ofNat l) g = 0 := by
        unfold d_faultAs3
        rw [hn1, if_pos rfl, if_pos a4]
      by_cases hm1 : 1 ≤ m
      · by_cases hI : 0 ≤ f.toInt ∧ f.toInt + 1 < (v : Int)
        · obtain ⟨j0, hj0, rfl⟩ : v_one v f := ⟨f.toInt.toNat, by omega, q_of hI.1⟩
          rw [q_nat (by omega)] at hI
          have hrow : ∀ j, j < 40 → g 69 j = g 86 (120 + j) := fun j hj => a7 j hj
          have htl : ∀ j, j + 1 < v → n_tl n (g 69) j = n_tl n (fun j => g 86 (120 + j)) j := fun j hj => n_tl_cg (hrow j (by omega)) (hrow (j + 1) (by omega))
          have hrd : f_rd (n_tl n (g 69)) v j0 m 0 = f_rd (n_tl n (fun j => g 86 (120 + j))) v j0 m 0 := f_rd_cg htl m 0
          obtain ⟨_, q1, hq⟩ := cr_ok3 (la := Int32.ofNat l) (j0 := j0) u hn2 (by omega) a2 a5 (by omega) hm hla hf
          rcases hq with ⟨w, fd, hw, rfl⟩ | ⟨w, hw, rfl⟩
          · have hG := (f_ws_ok (row := (fun j => g 86 (120 + j))) (j0 := j0) h5 w 0 (g 22) (fun q => g 71 (5 + q)) (fun x h1 h2 => ?_) (fun p hp => (h.2.1.2.2.2.2.1 p hp).2.1) h.2.1.2.2.2.2.2.2.2.2.2.1)
            · have hfw : f_ws (g 69) j0 w 0 (g 22) = f_ws (fun j => g 86 (120 + j)) j0 w 0 (g 22) := f_ws_cg w 0 _ (fun x h1 h2 => by
                have y := ((f_rd_le m 0 w true hw).2.2 x h1 (by omega)).2
                exact ⟨hrow _ (by omega), hrow (j0 + 2 * x + 1) (by omega)⟩)
              rw [hfw] at q1
              have hg71 : q_up (s_m22 (f_ws (fun j => g 86 (120 + j)) j0 w 0 (g 22)) g) 8 8 fd 71 = g 71 := rfl
              have hg86 : q_up (s_m22 (f_ws (fun j => g 86 (120 + j)) j0 w 0 (g 22)) g) 8 8 fd 86 = g 86 := rfl
              obtain ⟨_, q2, hr⟩ := rr_ok3 (g := q_up (s_m22 (f_ws (fun j => g 86 (120 + j)) j0 w 0 (g 22)) g) 8 8 fd) u hn hW hH h5 h25 a2 a6 hno a3 (show j0 < 40 by omega) hm hl h.2.1.2.2.2.2.2.2.2.2.2.1
              rw [hg71, hg86] at hr
              rcases hr with ⟨w', rs, hw', rfl⟩ | ⟨w', hw', rfl⟩
              · have ew : w' = w := by
                  have y := hrd.symm.trans hw
                  rw [hw'] at y
                  exact congrArg Prod.fst y
                subst ew
                have kr := k_rd (g := g) (F := f_ws (fun j => g 86 (120 + j)) j0 w' 0 (g 22)) (G := f_ws (fun j => g 86 (120 + j)) j0 w' 0 (fun q => g 71 (5 + q))) (fd := fd) (rs := rs)
                refine ⟨_, _, _, _, _, q1, q2, n, W, H, z, h.town ⟨fun a ha => ?_, ⟨?_, ?_, ?_⟩, fun j hj => ?_, fun j hj => ?_⟩ (w_TT.of (h.2.1.moods hG.1 hG.2) ?_ ?_ ?_ ?_ ?_ ?_ ?_ ?_ ?_)⟩
                · exact kr.1 a (by omega) (by omega) (by omega) (by omega) (by omega)
                · exact kr.2.2.2.1
                · rw [kr.1 9 (by decide) (by decide) (by decide) (by decide) (by decide)]
                · rw [kr.1 11 (by decide) (by decide) (by decide) (by decide) (by decide)]
                · exact kr.2.2.2.2 j (by omega)
                · rw [kr.2.2.1]
                  exact if_neg (by omega)
                · exact kr.1 20 (by decide) (by decide) (by decide) (by decide) (by decide)
                · exact kr.1 21 (by decide) (by decide) (by decide) (by decide) (by decide)
                · exact kr.2.1
                · exact kr.1 23 (by decide) (by decide) (by decide) (by decide) (by decide)
                · exact kr.1 24 (by decide) (by decide) (by decide) (by decide) (by decide)
                · exact kr.1 25 (by decide) (by decide) (by decide) (by decide) (by decide)
                · exact kr.1 26 (by decide) (by decide) (by decide) (by decide) (by decide)
                · exact kr.1 27 (by decide) (by decide) (by decide) (by decide) (by decide)
                · exact kr.2.2.1
              · exact absurd (hw'.symm.trans (hrd.symm.trans hw)) (fun y => by cases y)
            · rw [← htl _ (by have y := ((f_rd_le m 0 w true hw).2.2 x h1 (by omega)).2; omega)]
              exact ((f_rd_le m 0 w true hw).2.2 x h1 (by omega)).1
          · obtain ⟨_, q2, hr⟩ := rr_ok3 (g := g) u hn hW hH h5 h25 a2 a6 hno a3 (show j0 < 40 by omega) hm hl h.2.1.2.2.2.2.2.2.2.2.2.1
            rcases hr with ⟨w', rs, hw', rfl⟩ | ⟨w', hw', rfl⟩
            · exact absurd (hw'.symm.trans (hrd.symm.trans hw)) (fun y => by cases y)
            · have ew : w' = w := by
                have y := hrd.symm.trans hw
                rw [hw'] at y
                exact congrArg Prod.fst y
              subst ew
              exact ⟨_, _, _, _, _, q1, q2, n, W, H, z, h.town ⟨fun a ha => s_had_o (by omega), ⟨by rw [s_had_o (by decide)], by rw [s_had_o (by decide)], by rw [s_had_o (by decide)]⟩, fun j _ => by rw [s_had_o (by decide)], fun j _ => by rw [s_had_o (by decide)]⟩ (h.2.1.same (fun a h1 h2 => s_had_o (by omega)) (s_had_o (by decide)))⟩
        · have hp : ¬ d_fop3 (f + ((2 : Int32) * (0 : Int32))) g = 0 := by
            rw [k_f0]
            exact k_fop3 hn1 a5 a2 hI
          obtain ⟨x, q2⟩ := rr_zI3 (f := f) (q_up g 8 8 (d_fop3 (f + ((2 : Int32) * (0 : Int32))) g)) u hl hm hm1 hno a3 a2 a6 hI
          exact ⟨_, _, _, _, _, cr_zC3 g u hm hla hm1 hf hp, q2, n, W, H, z, rel _ _⟩
      · have e : m = 0 := by omega
        subst e
        obtain ⟨x, q2⟩ := rr_z03 (f := f) (q_up g 8 8 (d_faultAs3 (Int32.ofNat l) g)) u hl
        exact ⟨_, _, _, _, _, cr_zB3 g u hla hf, q2, n, W, H, z, rel _ _⟩
    · have hnl : ¬ Int32.ofNat l = Int32.ofNat l0 := fun y => hll ((q_eq (by omega) (by omega)).mp y)
      have hf : ¬ d_faultAs3 (Int32.ofNat l0) g = 0 := by
        unfold d_faultAs3
        rw [hn1, if_pos rfl, if_neg (fun y => hnl (a4.symm.trans y))]
        decide
      by_cases hm1 : 1 ≤ m
      · obtain ⟨x, q2⟩ := rr_zL3 (f := f) (q_up g 8 8 (d_faultAs3 (Int32.ofNat l0) g)) u hl hm hm1 hno (fun y => hnl (a3.symm.trans y))
        exact ⟨_, _, _, _, _, cr_zA3 g u hm hla hf, q2, n, W, H, z, rel _ _⟩
      · have e : m = 0 := by omega
        subst e
        obtain ⟨x, q2⟩ := rr_z03 (f := f) (q_up g 8 8 (d_faultAs3 (Int32.ofNat l0) g)) u hl
        exact ⟨_, _, _, _, _, cr_zA3 g u hm hla hf, q2, n, W, H, z, rel _ _⟩
theorem pr_sheet (x y v : Int32) (g : qM) (u : qW) (h : w_R g) : w_2 130 219 [.int x, .int y, .int v] g u := by
  obtain ⟨n, W, H, z, h⟩ := h
  have h5 := h.n5
  have h25 := h.wh
  have ok := h.ok
  have cs := h.cs
  have hgo := h.hgo
  obtain ⟨hn, hW, hH⟩ := h.1
  have hn2 : g 20 3 = Int32.ofNat n := h.2.1.1.2.2.2.1
  have hW2 : g 20 0 = Int32.ofNat W := h.2.1.1.1
  have hH2 : g 20 1 = Int32.ofNat H := h.2.1.1.2.1
  by_cases hb : v_rg 0 3 x ∧ v_rg 0 2 y ∧ v ≤ (40 : Int32)
  · obtain ⟨⟨m, m0, m1, rfl⟩, hr⟩ := hb
    rcases (show m = 0 ∨ m = 1 ∨ m = 2 ∨ m = 3 by omega) with e | e | e | e
    · subst e
      exact pr_sheet0 y v g u ⟨n, W, H, z, h⟩ hr
    · subst e
      exact pr_sheet1 y v g u ⟨n, W, H, z, h⟩ hr
    · subst e
      exact pr_sheet2 y v g u ⟨n, W, H, z, h⟩ hr
    · subst e
      exact pr_sheet3 y v g u ⟨n, W, H, z, h⟩ hr
  · exact w_2n h (cb_sheet g u hn2 hW2 hH2 (by omega) h25 x y v hb) (rb_sheet g u hn hW hH (by omega) h25 x y v hb)
theorem pr_lay (x y v : Int32) (g : qM) (u : qW) (h : w_R g) : w_2 134 221 [.int x, .int y, .int v] g u := by
  obtain ⟨n, W, H, z, h⟩ := h
  have h5 := h.n5
  have h25 := h.wh
  have ok := h.ok
  have cs := h.cs
  have hgo := h.hgo
  obtain ⟨hn, hW, hH⟩ := h.1
  have hn2 : g 20 3 = Int32.ofNat n := h.2.1.1.2.2.2.1
  have hW2 : g 20 0 = Int32.ofNat W := h.2.1.1.1
  have hH2 : g 20 1 = Int32.ofNat H := h.2.1.1.2.1
  by_cases hb : v_rg 0 3 x
  · obtain ⟨m, m0, m1, rfl⟩ := hb
    rcases (show m = 0 ∨ m = 1 ∨ m = 2 ∨ m = 3 by omega) with e | e | e | e
    · subst e
      exact pr_lay0 y v g u ⟨n, W, H, z, h⟩
    · subst e
      exact pr_lay1 y v g u ⟨n, W, H, z, h⟩
    · subst e
      exact pr_lay2 y v g u ⟨n, W, H, z, h⟩
    · subst e
      exact pr_lay3 y v g u ⟨n, W, H, z, h⟩
  · exact w_2n h (cb_lay g u hn2 hW2 hH2 (by omega) h25 x y v hb) (rb_lay g u hn hW hH (by omega) h25 x y v hb)
theorem pr_read (x y v w : Int32) (g : qM) (u : qW) (h : w_R g) : w_2 138 222 [.int x, .int y, .int v, .int w] g u := by
  obtain ⟨n, W, H, z, h⟩ := h
  have h5 := h.n5
  have h25 := h.wh
  have ok := h.ok
  have cs := h.cs
  have hgo := h.hgo
  obtain ⟨hn, hW, hH⟩ := h.1
  have hn2 : g 20 3 = Int32.ofNat n := h.2.1.1.2.2.2.1
  have hW2 : g 20 0 = Int32.ofNat W := h.2.1.1.1
  have hH2 : g 20 1 = Int32.ofNat H := h.2.1.1.2.1
  by_cases hb : v_rg 0 3 x ∧ v_rg 0 2 y ∧ v_rg 0 20 w
  · obtain ⟨⟨m, m0, m1, rfl⟩, ⟨l, l0, l1, rfl⟩, t, t0, t1, rfl⟩ := hb
    rcases (show m = 0 ∨ m = 1 ∨ m = 2 ∨ m = 3 by omega) with e | e | e | e
    · subst e
      exact pr_read0 v l t g u ⟨n, W, H, z, h⟩ l1 t1
    · subst e
      exact pr_read1 v l t g u ⟨n, W, H, z, h⟩ l1 t1
    · subst e
      exact pr_read2 v l t g u ⟨n, W, H, z, h⟩ l1 t1
    · subst e
      exact pr_read3 v l t g u ⟨n, W, H, z, h⟩ l1 t1
  · exact w_2n h (cb_read g u hn2 hW2 hH2 (by omega) h25 x y v w hb) (rb_read g u hn hW hH (by omega) h25 x y v w hb)
