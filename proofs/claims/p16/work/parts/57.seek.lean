/-! SEARCHES: what is told of their answers, and their frames. -/
def w_po (F : qM → qM → Prop) (g : qM) (v : Value) (R : Option Value × qM × qW) : Prop := ∃ g' u', R = (some v, g', u') ∧ F g g'
def w_BS (F : qM → qM → Prop) (M : Nat) (as : List Value) (g : qM) (u : qW) (v : Value) : Prop := ∃ g' u', q_BS M as g u (some v, g', u') ∧ F g g'
theorem w_bs {F : qM → qM → Prop} {mm : pm_M} {M : Nat} {as : List Value} {g : qM} {u : qW} {v : Value} (hm : pm_m M = some mm) (hw : pm_words as ≤ pm_ml mm) (hl : as.length = pm_n mm) (hE : q_EV mm 0 (lv_args 0 as) [] g u (w_po F g v)) : w_BS F M as g u v := by
  obtain ⟨R, hR, g', u', e, hf⟩ := q_bs hm hw hl hE
  rw [e] at hR
  exact ⟨g', u', hR, hf⟩
theorem w_po_c {g g1 : qM} {v v' : Value} {R : Option Value × qM × qW} (h : w_fc g g1) (e : v' = v) (hp : w_po w_fc g1 v' R) : w_po w_fc g v R := by
  obtain ⟨g', u', e1, hf⟩ := hp
  exact ⟨g', u', by rw [e1, e], w_fc.trans h hf⟩
theorem w_po_r {g g1 : qM} {v v' : Value} {R : Option Value × qM × qW} (h : w_fr g g1) (e : v' = v) (hp : w_po w_fr g1 v' R) : w_po w_fr g v R := by
  obtain ⟨g', u', e1, hf⟩ := hp
  exact ⟨g', u', by rw [e1, e], w_fr.trans h hf⟩
theorem s_01 (c : Prop) [Decidable c] : (if c then (1 : Int32) else 0) = 0 ∨ (if c then (1 : Int32) else 0) = 1 := by
  split
  · exact Or.inr rfl
  · exact Or.inl rfl
theorem s_10 (c : Prop) [Decidable c] : (if c then (0 : Int32) else 1) = 0 ∨ (if c then (0 : Int32) else 1) = 1 := by
  split
  · exact Or.inl rfl
  · exact Or.inr rfl
/-- bits of those for whom P -/
def s_bs (P : Nat → Int32) : Nat → Nat → Int32 → Int32
  | 0, _, a => a
  | k + 1, i, a => s_bs P k (i + 1) (if P i = 0 then a else a ||| ((1 : Int32) <<< (Int32.ofNat i &&& 31)))
theorem s_bs_0 {P : Nat → Int32} {k i : Nat} {a : Int32} (h : P i = 0) : s_bs P (k + 1) i a = s_bs P k (i + 1) a := by
  rw [s_bs, if_pos h]
theorem s_bs_1 {P : Nat → Int32} {k i : Nat} {a : Int32} (h : P i = 1) : s_bs P (k + 1) i a = s_bs P k (i + 1) (a ||| ((1 : Int32) <<< (Int32.ofNat i &&& 31))) := by
  rw [s_bs, if_neg (by rw [h]; decide)]
theorem s_bs_cg {P P' : Nat → Int32} : ∀ k i a, (∀ j, i ≤ j → j < i + k → P j = P' j) → s_bs P k i a = s_bs P' k i a
  | 0, _, _, _ => rfl
  | k + 1, i, a, h => by
    rw [s_bs, s_bs, h i (Nat.le_refl _) (by omega), s_bs_cg k (i + 1) _ (fun j h1 h2 => h j (by omega) (by omega))]
theorem s_ct_s {P : Nat → Int32} {k i : Nat} {a v : Int32} (h : P i = v) : s_ct P (k + 1) i a = s_ct P k (i + 1) (a + v) := by
  rw [s_ct, h]
theorem s_ct_cg {P P' : Nat → Int32} : ∀ k i a, (∀ j, i ≤ j → j < i + k → P j = P' j) → s_ct P k i a = s_ct P' k i a
  | 0, _, _, _ => rfl
  | k + 1, i, a, h => by
    rw [s_ct, s_ct, h i (Nat.le_refl _) (by omega), s_ct_cg k (i + 1) _ (fun j h1 h2 => h j (by omega) (by omega))]
/-! forces and wishes beside r -/
def f_fo (n : Nat) (r : qM) (so : Int32) (p : Nat) : Int32 := s_rf (r 70 2) (r 75) (r 76) (r 71) n so p
def f_wi (n : Nat) (r : qM) (p : Nat) : Int32 := s_rw (r 70 2) (r 75) (r 76) (r 77) (r 71) n p
theorem s_rf_cg {w : Int32} {c c' mo mo' pl : Nat → Int32} {n p : Nat} (hp : p < n) (hc : ∀ q, q < n → c q = c' q) (hm : ∀ q, q < n → mo q = mo' q) (so : Int32) : s_rf w c mo pl n so p = s_rf w c' mo' pl n so p := by
  unfold s_rf
  rw [s_sf_cg n 0 (fun q _ hq => by
    have hq : q < n := by omega
    unfold s_rt
    rw [hc q hq, hc p hp, hm q hq, hm p hp])]
  rfl
theorem w_rgs {n W H : Nat} {r : qM} (h : w_ok n W H r) : s_rg (r 70 2) 2 5 ∧ ∀ p, p < n → s_rg (r 75 p) 0 24 := by
  have hWH : W * H ≤ 25 := Nat.le_trans (Nat.mul_le_mul h.1.2.1 h.1.2.2.2.1) (Nat.le_refl 25)
  refine ⟨by rw [h.2.2.1]; exact s_rgw h.1.1 h.1.2.1, fun p hp => ?_⟩
  obtain ⟨C, hC, e⟩ := h.2.2.2.2.1 p hp
  rw [e]
  exact s_rgc hC hWH
theorem w_fo_r {n W H p : Nat} {g r : qM} (h : w_ok n W H r) (hs : w_sm n g r) (hp : p < n) (so : Int32) (hso : so = 0 ∨ so = 1) : s_rf (g 70 2) (g 75) (g 76) (g 71) n so p = f_fo n r so p := by
  obtain ⟨hw, hc⟩ := w_rgs h
  unfold f_fo
  rw [hs.1.2.1, s_rf_cg hp (fun q hq => (hs.2.2 q hq).1) (fun q hq => (hs.2.2 q hq).2.1) so]
  have k1 := s_force (pr := r 71) (pl := fun d => r 71 (20 + d)) (mo := r 76) h.1.2.2.2.2 hw hc (fun d _ _ => rfl) hp
  have k2 := s_force (pr := g 71) (pl := fun d => r 71 (20 + d)) (mo := r 76) h.1.2.2.2.2 hw hc (fun d a b => hs.2.1 d a b) hp
  unfold s_rf
  rcases hso with e | e
  · rw [e, ← k1.1, ← k2.1]
  · rw [e, ← k1.2, ← k2.2]
theorem w_wi_r {n W H p : Nat} {g r : qM} (h : w_ok n W H r) (hs : w_sm n g r) (hp : p < n) : s_rw (g 70 2) (g 75) (g 76) (g 77) (g 71) n p = f_wi n r p := by
  have e0 := w_fo_r h hs hp 0 (Or.inl rfl)
  have e1 := w_fo_r h hs hp 1 (Or.inr rfl)
  unfold f_fo at e0 e1
  unfold f_wi s_rw
  rw [e0, e1, (hs.2.2 p hp).2.2]
theorem w_fo_c {n W H p : Nat} {g r : qM} (h : w_ok n W H r) (hc : w_cs 20 n g r) (hp : p < n) : s_wg 20 n g 31 p = f_fo n r 0 p ∧ s_wg 20 n g 32 p = f_fo n r 1 p := by
  obtain ⟨hw, hcc⟩ := w_rgs h
  have hx : ∀ q, q < n → s_rg (g 21 q) 0 24 := fun q hq => by
    rw [(hc.2.2 q hq).1]
    exact hcc q hq
  have k := s_force (w := g 20 0) (c := g 21) (mo := g 22) (pl := g 25) (pr := r 71) h.1.2.2.2.2 (by rw [hc.1.2.1]; exact hw) hx (fun d a b => (hc.2.1 d a b).symm) hp
  have hz : ∀ so, s_rf (r 70 2) (g 21) (g 22) (r 71) n so p = f_fo n r so p := fun so => s_rf_cg hp (fun q hq => (hc.2.2 q hq).1) (fun q hq => (hc.2.2 q hq).2.1) so
  refine ⟨?_, ?_⟩
  · show (if p < n then (0 : Int32) else g 31 p) + s_A (s_pe (g 20 0) (g 21) (g 22) (g 25)) n p = _
    rw [if_pos hp, k.1, hc.1.2.1]
    exact hz 0
  · show (if p < n then (0 : Int32) else g 32 p) + s_A (s_ps (g 20 0) (g 21) (g 22) (g 25)) n p = _
    rw [if_pos hp, k.2, hc.1.2.1]
    exact hz 1
theorem w_wi_c {n W H p : Nat} {g r : qM} (h : w_ok n W H r) (hc : w_cs 20 n g r) (hp : p < n) : s_wg 20 n g 33 p = f_wi n r p := by
  obtain ⟨hw, hcc⟩ := w_rgs h
  have h2 : s_rst n r 79 p = f_wi n r p := by
    show (if p < n then s_rw (r 70 2) (r 75) (r 76) (r 77) (r 71) n p else _) = _
    exact if_pos hp
  obtain ⟨hv, hi⟩ := w_vi h hc
  have k := (s_same_20 h.1.1 h.1.2.1 h.1.2.2.1 h.1.2.2.2.1 h.1.2.2.2.2 hv hi).2.2.1 p hp
  rw [← h2, ← k]
  rfl
theorem s_wg_fc {n : Nat} {g : qM} : w_fc g (s_wg 20 n g) := fun b hb => by
  funext j
  show (if b = 33 then _ else s_H (g 20 0) (g 21) (g 22) (g 25) n g b j) = _
  rw [if_neg (by omega)]
  show (if b = 31 then _ else if b = 32 then _ else s_W1 (g 20 0) (g 21) n g b j) = _
  rw [if_neg (by omega), if_neg (by omega)]
  show (if b = 29 then _ else if b = 30 then _ else if b = 31 then _ else if b = 32 then _ else g b j) = _
  rw [if_neg (by omega), if_neg (by omega), if_neg (by omega), if_neg (by omega)]
/-! what they answer -/
/-- who is stuck -/
def p_stk (g : qM) (p : Nat) : Int32 := if g 33 p = 4 then 0 else if s_bit (g 28 5) (Int32.ofNat p) = 0 then 1 else 0
def p_stkr (n : Nat) (r : qM) (p : Nat) : Int32 := if s_rst n r 79 p = 4 then 0 else if s_rst n r 80 p = 4 then 1 else 0
def f_stk (n : Nat) (r : qM) : Int32 := s_bs (p_stkr n r) n 0 0
theorem w_stk {n W H : Nat} {g r : qM} (h : w_ok n W H r) (hc : w_cs 35 n g r) : s_bs (p_stk (s_step 35 n g)) n 0 0 = f_stk n r := s_bs_cg n 0 0 (fun p _ hp => by
  have w := w_step35 h hc
  have hp : p < n := by omega
  unfold p_stk p_stkr
  rw [w.2.2.1 p hp]
  split
  · rfl
  · by_cases z : s_rst n r 80 p = 4
    · rw [if_pos z, if_pos ((w.2.2.2.1 p hp).1.mpr z)]
    · rw [if_neg z, if_neg (fun y => z ((w.2.2.2.1 p hp).1.mp y))])
/-- behind how many STEPS all is at rest -/
def f_rest (n : Nat) : Nat → Nat → qM → Int32
  | 0, _, _ => i_none
  | k + 1, i, r => if s_ran n r = 0 then Int32.ofNat i else f_rest n k (i + 1) (s_rst n r)
def p_str (A B : Nat → Int32) (p : Nat) : Int32 := s_abs (A p) + s_abs (B p)
def f_str (n : Nat) (r : qM) : Int32 := s_ct (p_str (f_fo n r 0) (f_fo n r 1)) n 0 0
theorem w_tar {n W H : Nat} {g r : qM} (h : w_ok n W H r) (hc : w_cs 35 n g r) : (if s_step 35 n g 28 5 = 0 then (if s_step 35 n g 28 6 = 0 then (1 : Int32) else 0) else 0) = if s_ran n r = 0 then 1 else 0 := by
  have w := (w_step35 h hc).2.2.2.2
  by_cases z : s_ran n r = 0
  · rw [if_pos z, if_pos (w.mpr z).1, if_pos (w.mpr z).2]
  · rw [if_neg z]
    by_cases a : s_step 35 n g 28 5 = 0
    · rw [if_pos a, if_neg (fun b => z (w.mp ⟨a, b⟩))]
    · rw [if_neg a]
/-- how many are where they should be -/
def p_at (r : qM) (p : Nat) : Int32 := if r 78 p = i_none then 0 else if r 75 p = r 78 p then 1 else 0
def f_at (n : Nat) (r : qM) : Int32 := s_ct (p_at r) n 0 0
def p_hav (r : qM) (p : Nat) : Int32 := if r 78 p = i_none then 0 else 1
def f_hav (n : Nat) (r : qM) : Int32 := s_ct (p_hav r) n 0 0
theorem w_at_r {n : Nat} {g r : qM} (hs : w_sm n g r) (hg : ∀ p, p < n → g 78 p = r 78 p) : f_at n g = f_at n r := s_ct_cg n 0 0 (fun p _ hp => by
  have hp : p < n := by omega
  unfold p_at
  rw [(hs.2.2 p hp).1, hg p hp])
theorem w_at_c {T n W H : Nat} {g r : qM} (h : w_ok n W H r) (hc : w_cs T n g r) (hg : ∀ p, p < n → g (T + 4) p = r 78 p) : s_ct (fun p => if g (T + 1) p = g (T + 4) p then (1 : Int32) else 0) n 0 0 = f_at n r := s_ct_cg n 0 0 (fun p _ hp => by
  have hp : p < n := by omega
  unfold p_at
  show (if g (T + 1) p = g (T + 4) p then (1 : Int32) else 0) = _
  rw [(hc.2.2 p hp).1, hg p hp]
  by_cases z : r 78 p = i_none
  · obtain ⟨C, hC, e⟩ := h.2.2.2.2.1 p hp
    have hWH : W * H ≤ 25 := Nat.le_trans (Nat.mul_le_mul h.1.2.1 h.1.2.2.2.1) (Nat.le_refl 25)
    rw [z, e, if_neg (s_none_ne (by omega)), if_pos rfl]
  · rw [if_neg z])
theorem w_hav_c {T n : Nat} {g r : qM} (hg : ∀ p, p < n → g (T + 4) p = r 78 p) : s_ct (fun p => if g (T + 4) p = i_none then (0 : Int32) else 1) n 0 0 = f_hav n r := s_ct_cg n 0 0 (fun p _ hp => by
  have hp : p < n := by omega
  unfold p_hav
  show (if g (T + 4) p = i_none then (0 : Int32) else 1) = _
  rw [hg p hp])
theorem f_hav_rit {n : Nat} (k : Nat) (r : qM) : f_hav n (s_rit n k r) = f_hav n r := s_ct_cg n 0 0 (fun p _ _ => by
  unfold p_hav
  rw [s_rit_g (by omega)])
theorem sg_sk_1 (big : Nat → List Value → qM → qW → qR) (n0 : Nat) (G : qM) (U : qW) (v0 : Int32) : qm_run pm_m big m_73 (n0 + 6) 0 [(0, .ref 28), (1, .int v0)] [] G U = qm_run pm_m big m_73 n0 8 [(0, .ref 28), (1, .int v0)] [.int (((G 28 5) >>> (v0 &&& 31)) &&& (1 : Int32))] G U := rfl
theorem sg_sk_2 (big : Nat → List Value → qM → qW → qR) (n0 : Nat) (G : qM) (U : qW) (v0 : Int32) (v1 : Int32) : qm_run pm_m big m_67 (n0 + 3) 23 [(0, .ref 34), (1, .ref 20), (2, .int v0), (3, .int v1)] [] G U = qm_run pm_m big m_67 n0 28 [(0, .ref 34), (1, .ref 20), (2, .int v0), (3, .int v1)] [.int (G 20 3), .int v1] G U := rfl
theorem sg_sk_3 (big : Nat → List Value → qM → qW → qR) (n0 : Nat) (G : qM) (U : qW) (v0 : Int32) (v1 : Int32) : qm_run pm_m big m_67 (n0 + 4) 31 [(0, .ref 34), (1, .ref 20), (2, .int v0), (3, .int v1)] [] G U = qm_run pm_m big m_67 n0 39 [(0, .ref 34), (1, .ref 20), (2, .int v0), (3, .int v1)] [.int v1, .ref 33] G U := rfl
theorem sg_sk_4 (big : Nat → List Value → qM → qW → qR) (n0 : Nat) (G : qM) (U : qW) (v0 : Int32) (v1 : Int32) (v2 : Int32) : qm_run pm_m big m_67 (n0 + 1) 40 [(0, .ref 34), (1, .ref 20), (2, .int v0), (3, .int v1)] [.int v2] G U = qm_run pm_m big m_67 n0 41 [(0, .ref 34), (1, .ref 20), (2, .int v0), (3, .int v1)] [.int (4 : Int32), .int v2] G U := rfl
theorem sg_sk_5 (big : Nat → List Value → qM → qW → qR) (n0 : Nat) (G : qM) (U : qW) (v0 : Int32) (v1 : Int32) : qm_run pm_m big m_67 (n0 + 2) 61 [(0, .ref 34), (1, .ref 20), (2, .int v0), (3, .int v1)] [] G U = qm_run pm_m big m_67 n0 23 [(0, .ref 34), (1, .ref 20), (2, .int v0), (3, .int (v1 + (1 : Int32)))] [] G U := rfl
theorem sg_sk_6 (big : Nat → List Value → qM → qW → qR) (n0 : Nat) (G : qM) (U : qW) (v0 : Int32) (v1 : Int32) : qm_run pm_m big m_67 (n0 + 3) 44 [(0, .ref 34), (1, .ref 20), (2, .int v0), (3, .int v1)] [] G U = qm_run pm_m big m_67 n0 49 [(0, .ref 34), (1, .ref 20), (2, .int v0), (3, .int v1)] [.int v1, .ref 28] G U := rfl
theorem sg_sk_7 (big : Nat → List Value → qM → qW → qR) (n0 : Nat) (G : qM) (U : qW) (v0 : Int32) (v1 : Int32) : qm_run pm_m big m_67 (n0 + 9) 52 [(0, .ref 34), (1, .ref 20), (2, .int v0), (3, .int v1)] [.int (0 : Int32)] G U = qm_run pm_m big m_67 n0 23 [(0, .ref 34), (1, .ref 20), (2, .int (v0 ||| ((1 : Int32) <<< (v1 &&& 31)))), (3, .int (v1 + (1 : Int32)))] [] G U := rfl
theorem sg_sk_8 (big : Nat → List Value → qM → qW → qR) (n0 : Nat) (G : qM) (U : qW) (v0 : Int32) (v1 : Int32) : qm_run pm_m big m_67 (n0 + 3) 52 [(0, .ref 34), (1, .ref 20), (2, .int v0), (3, .int v1)] [.int (1 : Int32)] G U = qm_run pm_m big m_67 n0 23 [(0, .ref 34), (1, .ref 20), (2, .int v0), (3, .int (v1 + (1 : Int32)))] [] G U := rfl
theorem sg_sk_9 (big : Nat → List Value → qM → qW → qR) (n0 : Nat) (G : qM) (U : qW) : qm_run pm_m big m_67 (n0 + 3) 0 [(0, .ref 34), (1, .ref 20)] [] G U = qm_run pm_m big m_67 n0 5 [(0, .ref 34), (1, .ref 20)] [.ref 20, .ref 35] G U := rfl
theorem sg_sk_10 (big : Nat → List Value → qM → qW → qR) (n0 : Nat) (G : qM) (U : qW) : qm_run pm_m big m_67 (n0 + 4) 8 [(0, .ref 34), (1, .ref 20)] [] G U = qm_run pm_m big m_67 n0 16 [(0, .ref 34), (1, .ref 20)] [.ref 35, .ref 28] G U := rfl
theorem sg_sk_11 (big : Nat → List Value → qM → qW → qR) (n0 : Nat) (G : qM) (U : qW) : qm_run pm_m big m_67 (n0 + 4) 19 [(0, .ref 34), (1, .ref 20)] [] G U = qm_run pm_m big m_67 n0 23 [(0, .ref 34), (1, .ref 20), (2, .int (0 : Int32)), (3, .int (0 : Int32))] [] G U := rfl
theorem sg_sk_12 (big : Nat → List Value → qM → qW → qR) (n0 : Nat) (G : qM) (U : qW) : qm_run pm_m big m_66 (n0 + 4) 0 [(0, .ref 8)] [] G U = qm_run pm_m big m_66 n0 8 [(0, .ref 8)] [.ref 20, .ref 34] G U := rfl
theorem sg_sk_13 (big : Nat → List Value → qM → qW → qR) (n0 : Nat) (G : qM) (U : qW) : qm_run pm_m big m_83 (n0 + 4) 0 [(0, .ref 34)] [] G U = qm_run pm_m big m_83 n0 8 [(0, .ref 34)] [.ref 35, .ref 28] G U := rfl
theorem sg_sk_14 (big : Nat → List Value → qM → qW → qR) (n0 : Nat) (G : qM) (U : qW) : qm_run pm_m big m_83 (n0 + 2) 11 [(0, .ref 34)] [] G U = qm_run pm_m big m_83 n0 15 [(0, .ref 34)] [.ref 28] G U := rfl
theorem sg_sk_15 (big : Nat → List Value → qM → qW → qR) (n0 : Nat) (G : qM) (U : qW) (v0 : Int32) : qm_run pm_m big m_82 (n0 + 2) 10 [(0, .ref 34), (1, .ref 20), (2, .int v0)] [] G U = qm_run pm_m big m_82 n0 13 [(0, .ref 34), (1, .ref 20), (2, .int v0)] [.int (60 : Int32), .int v0] G U := rfl
theorem sg_sk_16 (big : Nat → List Value → qM → qW → qR) (n0 : Nat) (G : qM) (U : qW) (v0 : Int32) : qm_run pm_m big m_82 (n0 + 1) 16 [(0, .ref 34), (1, .ref 20), (2, .int v0)] [] G U = qm_run pm_m big m_82 n0 17 [(0, .ref 34), (1, .ref 20), (2, .int v0)] [.ref 34] G U := rfl
theorem sg_sk_17 (big : Nat → List Value → qM → qW → qR) (n0 : Nat) (G : qM) (U : qW) (v0 : Int32) : qm_run pm_m big m_82 (n0 + 3) 20 [(0, .ref 34), (1, .ref 20), (2, .int v0)] [.int (0 : Int32)] G U = qm_run pm_m big m_82 n0 10 [(0, .ref 34), (1, .ref 20), (2, .int (v0 + (1 : Int32)))] [] G U := rfl
theorem sg_sk_18 (big : Nat → List Value → qM → qW → qR) (n0 : Nat) (G : qM) (U : qW) : qm_run pm_m big m_82 (n0 + 3) 0 [(0, .ref 34), (1, .ref 20)] [] G U = qm_run pm_m big m_82 n0 5 [(0, .ref 34), (1, .ref 20)] [.ref 20, .ref 35] G U := rfl
theorem sg_sk_19 (big : Nat → List Value → qM → qW → qR) (n0 : Nat) (G : qM) (U : qW) : qm_run pm_m big m_82 (n0 + 2) 8 [(0, .ref 34), (1, .ref 20)] [] G U = qm_run pm_m big m_82 n0 10 [(0, .ref 34), (1, .ref 20), (2, .int (0 : Int32))] [] G U := rfl
theorem sg_sk_20 (big : Nat → List Value → qM → qW → qR) (n0 : Nat) (G : qM) (U : qW) : qm_run pm_m big m_81 (n0 + 4) 0 [(0, .ref 8)] [] G U = qm_run pm_m big m_81 n0 8 [(0, .ref 8)] [.ref 20, .ref 34] G U := rfl
theorem sg_sk_21 (big : Nat → List Value → qM → qW → qR) (n0 : Nat) (G : qM) (U : qW) (v0 : Int32) : qm_run pm_m big m_80 (n0 + 3) 0 [(0, .ref 34), (1, .ref 20), (2, .int v0)] [] G U = qm_run pm_m big m_80 n0 5 [(0, .ref 34), (1, .ref 20), (2, .int v0)] [.ref 20, .ref 35] G U := rfl
theorem sg_sk_22 (big : Nat → List Value → qM → qW → qR) (n0 : Nat) (G : qM) (U : qW) (v0 : Int32) : qm_run pm_m big m_80 (n0 + 5) 8 [(0, .ref 34), (1, .ref 20), (2, .int v0)] [] G U = qm_run pm_m big m_80 n0 17 [(0, .ref 34), (1, .ref 20), (2, .int v0)] [.int v0, .ref 35, .ref 28] G U := rfl
theorem sg_sk_23 (big : Nat → List Value → qM → qW → qR) (n0 : Nat) (G : qM) (U : qW) (v0 : Int32) (v1 : Int32) : qm_run pm_m big m_79 (n0 + 3) 0 [(0, .ref 8), (1, .int v0), (2, .int v1), (3, .int (0 : Int32))] [] G U = qm_run pm_m big m_79 n0 5 [(0, .ref 8), (1, .int v0), (2, .int v1), (3, .int (0 : Int32))] [.int v0, .ref 20] G U := rfl
theorem sg_sk_24 (big : Nat → List Value → qM → qW → qR) (n0 : Nat) (G : qM) (U : qW) (v0 : Int32) (v1 : Int32) : qm_run pm_m big m_79 (n0 + 2) 8 [(0, .ref 8), (1, .int v0), (2, .int v1), (3, .int (0 : Int32))] [.int (1 : Int32)] G U = qm_run pm_m big m_79 n0 12 [(0, .ref 8), (1, .int v0), (2, .int v1), (3, .int (0 : Int32))] [.int v1] G U := rfl
theorem sg_sk_25 (big : Nat → List Value → qM → qW → qR) (n0 : Nat) (G : qM) (U : qW) (v0 : Int32) (v1 : Int32) : qm_run pm_m big m_79 (n0 + 2) 15 [(0, .ref 8), (1, .int v0), (2, .int v1), (3, .int (0 : Int32))] [] G U = qm_run pm_m big m_79 n0 18 [(0, .ref 8), (1, .int v0), (2, .int v1), (3, .int (0 : Int32))] [.int (60 : Int32), .int v1] G U := rfl
theorem sg_sk_26 (big : Nat → List Value → qM → qW → qR) (n0 : Nat) (G : qM) (U : qW) (v0 : Int32) (v1 : Int32) : qm_run pm_m big m_79 (n0 + 1) 21 [(0, .ref 8), (1, .int v0), (2, .int v1), (3, .int (0 : Int32))] [] G U = qm_run pm_m big m_79 n0 22 [(0, .ref 8), (1, .int v0), (2, .int v1), (3, .int (0 : Int32))] [.int (0 : Int32)] G U := rfl
theorem sg_sk_27 (big : Nat → List Value → qM → qW → qR) (n0 : Nat) (G : qM) (U : qW) (v0 : Int32) (v1 : Int32) : qm_run pm_m big m_79 (n0 + 6) 25 [(0, .ref 8), (1, .int v0), (2, .int v1), (3, .int (0 : Int32))] [.int (1 : Int32)] G U = qm_run pm_m big m_79 n0 39 [(0, .ref 8), (1, .int v0), (2, .int v1), (3, .int (0 : Int32))] [.int v1, .ref 20, .ref 34] G U := rfl
theorem sg_sk_28 (big : Nat → List Value → qM → qW → qR) (n0 : Nat) (G : qM) (U : qW) (v0 : Int32) (v1 : Int32) : qm_run pm_m big m_79 (n0 + 6) 42 [(0, .ref 8), (1, .int v0), (2, .int v1), (3, .int (0 : Int32))] [.ref 35] G U = qm_run pm_m big m_79 n0 54 [(0, .ref 8), (1, .int v0), (2, .int v1), (3, .int (0 : Int32)), (4, .ref 35)] [.int v0, .ref 36] G U := rfl
theorem sg_sk_29 (big : Nat → List Value → qM → qW → qR) (n0 : Nat) (G : qM) (U : qW) (v0 : Int32) (v1 : Int32) : qm_run pm_m big m_79 (n0 + 3) 0 [(0, .ref 8), (1, .int v0), (2, .int v1), (3, .int (1 : Int32))] [] G U = qm_run pm_m big m_79 n0 5 [(0, .ref 8), (1, .int v0), (2, .int v1), (3, .int (1 : Int32))] [.int v0, .ref 20] G U := rfl
theorem sg_sk_30 (big : Nat → List Value → qM → qW → qR) (n0 : Nat) (G : qM) (U : qW) (v0 : Int32) (v1 : Int32) : qm_run pm_m big m_79 (n0 + 2) 8 [(0, .ref 8), (1, .int v0), (2, .int v1), (3, .int (1 : Int32))] [.int (1 : Int32)] G U = qm_run pm_m big m_79 n0 12 [(0, .ref 8), (1, .int v0), (2, .int v1), (3, .int (1 : Int32))] [.int v1] G U := rfl
theorem sg_sk_31 (big : Nat → List Value → qM → qW → qR) (n0 : Nat) (G : qM) (U : qW) (v0 : Int32) (v1 : Int32) : qm_run pm_m big m_79 (n0 + 2) 15 [(0, .ref 8), (1, .int v0), (2, .int v1), (3, .int (1 : Int32))] [] G U = qm_run pm_m big m_79 n0 18 [(0, .ref 8), (1, .int v0), (2, .int v1), (3, .int (1 : Int32))] [.int (60 : Int32), .int v1] G U := rfl
theorem sg_sk_32 (big : Nat → List Value → qM → qW → qR) (n0 : Nat) (G : qM) (U : qW) (v0 : Int32) (v1 : Int32) : qm_run pm_m big m_79 (n0 + 1) 21 [(0, .ref 8), (1, .int v0), (2, .int v1), (3, .int (1 : Int32))] [] G U = qm_run pm_m big m_79 n0 22 [(0, .ref 8), (1, .int v0), (2, .int v1), (3, .int (1 : Int32))] [.int (1 : Int32)] G U := rfl
theorem sg_sk_33 (big : Nat → List Value → qM → qW → qR) (n0 : Nat) (G : qM) (U : qW) (v0 : Int32) (v1 : Int32) : qm_run pm_m big m_79 (n0 + 6) 25 [(0, .ref 8), (1, .int v0), (2, .int v1), (3, .int (1 : Int32))] [.int (1 : Int32)] G U = qm_run pm_m big m_79 n0 39 [(0, .ref 8), (1, .int v0), (2, .int v1), (3, .int (1 : Int32))] [.int v1, .ref 20, .ref 34] G U := rfl
theorem sg_sk_34 (big : Nat → List Value → qM → qW → qR) (n0 : Nat) (G : qM) (U : qW) (v0 : Int32) (v1 : Int32) : qm_run pm_m big m_79 (n0 + 6) 42 [(0, .ref 8), (1, .int v0), (2, .int v1), (3, .int (1 : Int32))] [.ref 35] G U = qm_run pm_m big m_79 n0 64 [(0, .ref 8), (1, .int v0), (2, .int v1), (3, .int (1 : Int32)), (4, .ref 35)] [.int v0, .ref 37] G U := rfl
theorem sg_sk_35 (big : Nat → List Value → qM → qW → qR) (n0 : Nat) (G : qM) (U : qW) (v0 : Int32) : qm_run pm_m big m_56 (n0 + 3) 0 [(0, .ref 8), (1, .int v0), (2, .int (0 : Int32))] [] G U = qm_run pm_m big m_56 n0 5 [(0, .ref 8), (1, .int v0), (2, .int (0 : Int32))] [.int v0, .ref 20] G U := rfl
theorem sg_sk_36 (big : Nat → List Value → qM → qW → qR) (n0 : Nat) (G : qM) (U : qW) (v0 : Int32) : qm_run pm_m big m_56 (n0 + 2) 8 [(0, .ref 8), (1, .int v0), (2, .int (0 : Int32))] [.int (1 : Int32)] G U = qm_run pm_m big m_56 n0 12 [(0, .ref 8), (1, .int v0), (2, .int (0 : Int32))] [.int (0 : Int32)] G U := rfl
theorem sg_sk_37 (big : Nat → List Value → qM → qW → qR) (n0 : Nat) (G : qM) (U : qW) (v0 : Int32) : qm_run pm_m big m_56 (n0 + 5) 15 [(0, .ref 8), (1, .int v0), (2, .int (0 : Int32))] [.int (1 : Int32)] G U = qm_run pm_m big m_56 n0 28 [(0, .ref 8), (1, .int v0), (2, .int (0 : Int32))] [.ref 20, .ref 28] G U := rfl
theorem sg_sk_38 (big : Nat → List Value → qM → qW → qR) (n0 : Nat) (G : qM) (U : qW) (v0 : Int32) : qm_run pm_m big m_56 (n0 + 7) 31 [(0, .ref 8), (1, .int v0), (2, .int (0 : Int32))] [] G U = qm_run pm_m big m_56 n0 45 [(0, .ref 8), (1, .int v0), (2, .int (0 : Int32))] [.int v0, .ref 31, .int (100 : Int32)] G U := rfl
theorem sg_sk_39 (big : Nat → List Value → qM → qW → qR) (n0 : Nat) (G : qM) (U : qW) (v0 : Int32) : qm_run pm_m big m_56 (n0 + 3) 0 [(0, .ref 8), (1, .int v0), (2, .int (1 : Int32))] [] G U = qm_run pm_m big m_56 n0 5 [(0, .ref 8), (1, .int v0), (2, .int (1 : Int32))] [.int v0, .ref 20] G U := rfl
theorem sg_sk_40 (big : Nat → List Value → qM → qW → qR) (n0 : Nat) (G : qM) (U : qW) (v0 : Int32) : qm_run pm_m big m_56 (n0 + 2) 8 [(0, .ref 8), (1, .int v0), (2, .int (1 : Int32))] [.int (1 : Int32)] G U = qm_run pm_m big m_56 n0 12 [(0, .ref 8), (1, .int v0), (2, .int (1 : Int32))] [.int (1 : Int32)] G U := rfl
theorem sg_sk_41 (big : Nat → List Value → qM → qW → qR) (n0 : Nat) (G : qM) (U : qW) (v0 : Int32) : qm_run pm_m big m_56 (n0 + 5) 15 [(0, .ref 8), (1, .int v0), (2, .int (1 : Int32))] [.int (1 : Int32)] G U = qm_run pm_m big m_56 n0 28 [(0, .ref 8), (1, .int v0), (2, .int (1 : Int32))] [.ref 20, .ref 28] G U := rfl
theorem sg_sk_42 (big : Nat → List Value → qM → qW → qR) (n0 : Nat) (G : qM) (U : qW) (v0 : Int32) : qm_run pm_m big m_56 (n0 + 7) 31 [(0, .ref 8), (1, .int v0), (2, .int (1 : Int32))] [] G U = qm_run pm_m big m_56 n0 57 [(0, .ref 8), (1, .int v0), (2, .int (1 : Int32))] [.int v0, .ref 32, .int (100 : Int32)] G U := rfl
theorem sg_sk_43 (big : Nat → List Value → qM → qW → qR) (n0 : Nat) (G : qM) (U : qW) (v0 : Int32) : qm_run pm_m big m_65 (n0 + 3) 0 [(0, .ref 8), (1, .int v0)] [] G U = qm_run pm_m big m_65 n0 5 [(0, .ref 8), (1, .int v0)] [.int v0, .ref 20] G U := rfl
theorem sg_sk_44 (big : Nat → List Value → qM → qW → qR) (n0 : Nat) (G : qM) (U : qW) (v0 : Int32) : qm_run pm_m big m_65 (n0 + 5) 8 [(0, .ref 8), (1, .int v0)] [.int (1 : Int32)] G U = qm_run pm_m big m_65 n0 21 [(0, .ref 8), (1, .int v0)] [.ref 20, .ref 28] G U := rfl
theorem sg_sk_45 (big : Nat → List Value → qM → qW → qR) (n0 : Nat) (G : qM) (U : qW) (v0 : Int32) : qm_run pm_m big m_65 (n0 + 4) 24 [(0, .ref 8), (1, .int v0)] [] G U = qm_run pm_m big m_65 n0 32 [(0, .ref 8), (1, .int v0)] [.int v0, .ref 33] G U := rfl
theorem sg_sk_46 (big : Nat → List Value → qM → qW → qR) (n0 : Nat) (G : qM) (U : qW) (v0 : Int32) (v1 : Int32) : qm_run pm_m big m_74 (n0 + 4) 15 [(0, .ref 8), (1, .int v0), (2, .int v1)] [] G U = qm_run pm_m big m_74 n0 23 [(0, .ref 8), (1, .int v0), (2, .int v1)] [.int (G 20 3), .int v1] G U := rfl
theorem sg_sk_47 (big : Nat → List Value → qM → qW → qR) (n0 : Nat) (G : qM) (U : qW) (v0 : Int32) (v1 : Int32) : qm_run pm_m big m_74 (n0 + 5) 26 [(0, .ref 8), (1, .int v0), (2, .int v1)] [] G U = qm_run pm_m big m_74 n0 35 [(0, .ref 8), (1, .int v0), (2, .int v1)] [.int v1, .ref 31, .int v0] G U := rfl
theorem sg_sk_48 (big : Nat → List Value → qM → qW → qR) (n0 : Nat) (G : qM) (U : qW) (v0 : Int32) (v1 : Int32) (v2 : Int32) (v3 : Int32) : qm_run pm_m big m_74 (n0 + 4) 39 [(0, .ref 8), (1, .int v0), (2, .int v1)] [.int v3, .int v2] G U = qm_run pm_m big m_74 n0 47 [(0, .ref 8), (1, .int v0), (2, .int v1)] [.int v1, .ref 32, .int v3, .int v2] G U := rfl
theorem sg_sk_49 (big : Nat → List Value → qM → qW → qR) (n0 : Nat) (G : qM) (U : qW) (v0 : Int32) (v1 : Int32) (v2 : Int32) (v3 : Int32) (v4 : Int32) : qm_run pm_m big m_74 (n0 + 5) 51 [(0, .ref 8), (1, .int v0), (2, .int v1)] [.int v4, .int v3, .int v2] G U = qm_run pm_m big m_74 n0 15 [(0, .ref 8), (1, .int (v2 + (v3 + v4))), (2, .int (v1 + (1 : Int32)))] [] G U := rfl
theorem sg_sk_50 (big : Nat → List Value → qM → qW → qR) (n0 : Nat) (G : qM) (U : qW) : qm_run pm_m big m_74 (n0 + 4) 0 [(0, .ref 8)] [] G U = qm_run pm_m big m_74 n0 8 [(0, .ref 8)] [.ref 20, .ref 28] G U := rfl
theorem sg_sk_51 (big : Nat → List Value → qM → qW → qR) (n0 : Nat) (G : qM) (U : qW) : qm_run pm_m big m_74 (n0 + 4) 11 [(0, .ref 8)] [] G U = qm_run pm_m big m_74 n0 15 [(0, .ref 8), (1, .int (0 : Int32)), (2, .int (0 : Int32))] [] G U := rfl
theorem sg_sk_52 (big : Nat → List Value → qM → qW → qR) (n0 : Nat) (G : qM) (U : qW) (v0 : Int32) : qm_run pm_m big m_75 (n0 + 1) 0 [(0, .ref 8), (1, .int v0)] [] G U = qm_run pm_m big m_75 n0 1 [(0, .ref 8), (1, .int v0)] [.int v0] G U := rfl
theorem sg_sk_53 (big : Nat → List Value → qM → qW → qR) (n0 : Nat) (G : qM) (U : qW) (v0 : Int32) : qm_run pm_m big m_75 (n0 + 2) 4 [(0, .ref 8), (1, .int v0)] [] G U = qm_run pm_m big m_75 n0 7 [(0, .ref 8), (1, .int v0)] [.int (60 : Int32), .int v0] G U := rfl
theorem sg_sk_54 (big : Nat → List Value → qM → qW → qR) (n0 : Nat) (G : qM) (U : qW) (v0 : Int32) : qm_run pm_m big m_75 (n0 + 6) 12 [(0, .ref 8), (1, .int v0)] [] G U = qm_run pm_m big m_75 n0 24 [(0, .ref 8), (1, .int v0)] [.int (1000 : Int32), .int ((G 20 5) + v0)] G U := rfl
theorem sg_sk_55 (big : Nat → List Value → qM → qW → qR) (n0 : Nat) (G : qM) (U : qW) (v0 : Int32) : qm_run pm_m big m_75 (n0 + 5) 30 [(0, .ref 8), (1, .int v0)] [] G U = qm_run pm_m big m_75 n0 39 [(0, .ref 8), (1, .int v0)] [.int v0, .ref 20, .ref 28] G U := rfl
theorem sg_sk_56 (big : Nat → List Value → qM → qW → qR) (n0 : Nat) (G : qM) (U : qW) (v0 : Int32) : qm_run pm_m big m_75 (n0 + 2) 42 [(0, .ref 8), (1, .int v0)] [] G U = qm_run pm_m big m_75 n0 46 [(0, .ref 8), (1, .int v0)] [.ref 20] G U := rfl
def d_didGo (x : Int32) (g : qM) : Int32 := (if (((g 28 5) >>> (x &&& 31)) &&& (1 : Int32)) = 0 then (0 : Int32) else (1 : Int32))
theorem b_didGo (x : Int32) (g : qM) (u : qW) : q_BS 73 [.ref 28, .int x] g u (some (.int (d_didGo x g)), g, u) := by
  refine q_bx (mm := m_73) rfl (Nat.le_of_ble_eq_true rfl) rfl ?_
  refine q_step 6 8 [(0, .ref 28), (1, .int x)] [.int (((g 28 5) >>> (x &&& 31)) &&& (1 : Int32))] g u (fun big n0 => sg_sk_1 big n0 g u x) ?_
  refine q_if_eq rfl (fun (hc0 : (((g 28 5) >>> (x &&& 31)) &&& (1 : Int32)) = 0) => ?_) (fun (hc0 : ¬ ((((g 28 5) >>> (x &&& 31)) &&& (1 : Int32)) = 0)) => ?_)
  · refine q_ret 2 (some (.int (0 : Int32)), g, u) (fun _ _ => rfl) ?_
    unfold d_didGo
    rw [if_pos hc0]
  · refine q_ret 3 (some (.int (1 : Int32)), g, u) (fun _ _ => rfl) ?_
    unfold d_didGo
    rw [if_neg hc0]
theorem b_dg (x : Int32) (g : qM) (u : qW) : q_BS 73 [.ref 28, .int x] g u (some (.int (if s_bit (g 28 5) x = 0 then (0 : Int32) else 1)), g, u) := b_didGo x g u
theorem b_hasOne1 {n p : Nat} (g : qM) (u : qW) (hn : g 20 3 = Int32.ofNat n) (h6 : n ≤ 6) (hp : p < n) : q_BS 40 [.ref 20, .int (Int32.ofNat p)] g u (some (.int 1), g, u) := by
  have e : d_hasOne (Int32.ofNat p) g = 1 := by
    unfold d_hasOne
    rw [hn, if_neg (fun z => by
      have z := Int32.lt_iff_toInt_lt.mp z
      rw [q_nat (by omega)] at z
      have e : (0 : Int32).toInt = 0 := rfl
      omega), if_neg (fun z => by
      have z := (q_le (by omega) (by omega)).mp z
      omega)]
  have h := b_hasOne (Int32.ofNat p) g u
  rw [e] at h
  exact h
theorem sk_l (g : qM) (u : qW) {n : Nat} (hn : g 20 3 = Int32.ofNat n) (h6 : n ≤ 6) : ∀ k i a, i + k = n → q_EV m_67 23 [(0, .ref 34), (1, .ref 20), (2, .int a), (3, .int (Int32.ofNat i))] [] g u (fun R => R = (some (.int (s_bs (p_stk g) k i a)), g, u)) := by
  intro k
  induction k with
  | zero =>
    intro i a hi
    refine q_step 3 28 [(0, .ref 34), (1, .ref 20), (2, .int a), (3, .int (Int32.ofNat i))] [.int (g 20 3), .int (Int32.ofNat i)] g u (fun big n0 => sg_sk_2 big n0 g u a (Int32.ofNat i)) ?_
    refine q_ic_ge rfl (fun (hc0 : (g 20 3) ≤ (Int32.ofNat i)) => ?_) (fun hc0 => absurd (show (g 20 3) ≤ (Int32.ofNat i) from by rw [hn]; exact (q_le (by omega) (by omega)).mpr (by omega)) hc0)
    refine q_ret 2 (some (.int a), g, u) (fun _ _ => rfl) ?_
    rfl
  | succ k ih =>
    intro i a hi
    refine q_step 3 28 [(0, .ref 34), (1, .ref 20), (2, .int a), (3, .int (Int32.ofNat i))] [.int (g 20 3), .int (Int32.ofNat i)] g u (fun big n0 => sg_sk_2 big n0 g u a (Int32.ofNat i)) ?_
    refine q_ic_ge rfl (fun hc0 => absurd (show (g 20 3) ≤ (Int32.ofNat i) from hc0) (fun z => by rw [hn] at z; exact absurd ((q_le (by omega) (by omega)).mp z) (by omega))) (fun (hc0 : ¬ ((g 20 3) ≤ (Int32.ofNat i))) => ?_)
    refine q_step 4 39 [(0, .ref 34), (1, .ref 20), (2, .int a), (3, .int (Int32.ofNat i))] [.int (Int32.ofNat i), .ref 33] g u (fun big n0 => sg_sk_3 big n0 g u a (Int32.ofNat i)) ?_
    refine q_iald (j := i) (q_ixn (by omega) (by omega)) rfl rfl ?_
    refine q_step 1 41 [(0, .ref 34), (1, .ref 20), (2, .int a), (3, .int (Int32.ofNat i))] [.int (4 : Int32), .int (g 33 i)] g u (fun big n0 => sg_sk_4 big n0 g u a (Int32.ofNat i) (g 33 i)) ?_
    refine q_ic_eq rfl (fun (hc1 : (g 33 i) = (4 : Int32)) => ?_) (fun (hc1 : ¬ ((g 33 i) = (4 : Int32))) => ?_)
    · refine q_step 2 23 [(0, .ref 34), (1, .ref 20), (2, .int a), (3, .int ((Int32.ofNat i) + (1 : Int32)))] [] g u (fun big n0 => sg_sk_5 big n0 g u a (Int32.ofNat i)) ?_
      have e : p_stk g i = 0 := by
        unfold p_stk
        rw [if_pos hc1]
      rw [s_bs_0 e, q_succ]
      exact ih (i + 1) _ (by omega)
    · refine q_step 3 49 [(0, .ref 34), (1, .ref 20), (2, .int a), (3, .int (Int32.ofNat i))] [.int (Int32.ofNat i), .ref 28] g u (fun big n0 => sg_sk_6 big n0 g u a (Int32.ofNat i)) ?_
      by_cases hc2 : s_bit (g 28 5) (Int32.ofNat i) = 0
      · refine q_call (M2 := 73) (rest := []) (show q_BS 73 [.ref 28, .int (Int32.ofNat i)] g u (some (.int (0 : Int32)), g, u) from by have e := b_dg (Int32.ofNat i) g u; rw [if_pos hc2] at e; exact e) (fun _ _ => rfl) ?_
        refine q_step 9 23 [(0, .ref 34), (1, .ref 20), (2, .int (a ||| ((1 : Int32) <<< ((Int32.ofNat i) &&& 31)))), (3, .int ((Int32.ofNat i) + (1 : Int32)))] [] g u (fun big n0 => sg_sk_7 big n0 g u a (Int32.ofNat i)) ?_
        have e : p_stk g i = 1 := by
          unfold p_stk
          rw [if_neg hc1, if_pos hc2]
        rw [s_bs_1 e, q_succ]
        exact ih (i + 1) _ (by omega)
      · refine q_call (M2 := 73) (rest := []) (show q_BS 73 [.ref 28, .int (Int32.ofNat i)] g u (some (.int (1 : Int32)), g, u) from by have e := b_dg (Int32.ofNat i) g u; rw [if_neg hc2] at e; exact e) (fun _ _ => rfl) ?_
        refine q_step 3 23 [(0, .ref 34), (1, .ref 20), (2, .int a), (3, .int ((Int32.ofNat i) + (1 : Int32)))] [] g u (fun big n0 => sg_sk_8 big n0 g u a (Int32.ofNat i)) ?_
        have e : p_stk g i = 0 := by
          unfold p_stk
          rw [if_neg hc1, if_neg hc2]
        rw [s_bs_0 e, q_succ]
        exact ih (i + 1) _ (by omega)
theorem c_stk67 {n W H : Nat} {g r : qM} (u : qW) (h : w_ok n W H r) (hc : w_cs 20 n g r) : w_BS w_fc 67 [.ref 34, .ref 20] g u (.int (f_stk n r)) := by
  refine w_bs (mm := m_67) rfl (Nat.le_of_ble_eq_true rfl) rfl ?_
  have h5 : n ≤ 6 := h.1.2.2.2.2
  have hy := w_cpy (a := 35) (b := 20) h5 (by omega) hc
  refine q_step 3 5 [(0, .ref 34), (1, .ref 20)] [.ref 20, .ref 35] g u (fun big n0 => sg_sk_9 big n0 g u) ?_
  refine q_call (M2 := 41) (rest := []) (b_cpy35_20 _ _) (fun _ _ => rfl) ?_
  refine q_step 4 16 [(0, .ref 34), (1, .ref 20)] [.ref 35, .ref 28] (s_cpy 35 20 g) u (fun big n0 => sg_sk_10 big n0 (s_cpy 35 20 g) u) ?_
  refine q_call (M2 := 68) (rest := []) (c_st35 u h hy) (fun _ _ => rfl) ?_
  refine q_step 4 23 [(0, .ref 34), (1, .ref 20), (2, .int (0 : Int32)), (3, .int (0 : Int32))] [] (s_step 35 n (s_cpy 35 20 g)) u (fun big n0 => sg_sk_11 big n0 (s_step 35 n (s_cpy 35 20 g)) u) ?_
  refine q_EV.imp (sk_l (s_step 35 n (s_cpy 35 20 g)) u (by rw [s_step_35 20 (by omega), w_cpy_fc 20 (by omega), hc.1.1]; exact h.2.1) h5 n 0 0 (by omega)) (fun R e => ⟨(s_step 35 n (s_cpy 35 20 g)), u, ?_, ?_⟩)
  · rw [e, w_stk h hy]
  · exact w_fc.trans w_cpy_fc s_step_35
theorem c_stuck {n W H : Nat} {g r : qM} (u : qW) (h : w_ok n W H r) (hc : w_cs 20 n g r) : w_BS w_fc 66 [.ref 8] g u (.int (f_stk n r)) := by
  refine w_bs (mm := m_66) rfl (Nat.le_of_ble_eq_true rfl) rfl ?_
  refine q_step 4 8 [(0, .ref 8)] [.ref 20, .ref 34] g u (fun big n0 => sg_sk_12 big n0 g u) ?_
  obtain ⟨g1, u1, hb, hf⟩ := c_stk67 u h hc
  refine q_call (M2 := 67) (rest := []) (hb) (fun _ _ => rfl) ?_
  refine q_ret 1 (some (.int (f_stk n r)), g1, u1) (fun _ _ => rfl) ?_
  exact ⟨g1, u1, rfl, hf⟩
theorem c_tar {n W H : Nat} {g r : qM} (u : qW) (h : w_ok n W H r) (hc : w_cs 35 n g r) : q_BS 83 [.ref 34] g u (some (.int (if s_ran n r = 0 then (1 : Int32) else 0)), s_step 35 n g, u) := by
  refine q_bx (mm := m_83) rfl (Nat.le_of_ble_eq_true rfl) rfl ?_
  refine q_step 4 8 [(0, .ref 34)] [.ref 35, .ref 28] g u (fun big n0 => sg_sk_13 big n0 g u) ?_
  refine q_call (M2 := 68) (rest := []) (c_st35 u h hc) (fun _ _ => rfl) ?_
  refine q_step 2 15 [(0, .ref 34)] [.ref 28] (s_step 35 n g) u (fun big n0 => sg_sk_14 big n0 (s_step 35 n g) u) ?_
  refine q_call (M2 := 77) (rest := []) (by have e := b_changed (s_step 35 n g) u; rw [w_tar h hc] at e; exact e) (fun _ _ => rfl) ?_
  refine q_retb (s_01 _) rfl rfl ?_
  rfl
theorem tr_l (u : qW) {n W H : Nat} : ∀ k i g r, i + k = 61 → w_ok n W H r → w_cs 35 n g r → q_EV m_82 10 [(0, .ref 34), (1, .ref 20), (2, .int (Int32.ofNat i))] [] g u (w_po w_fc g (.int (f_rest n k i r))) := by
  intro k
  induction k with
  | zero =>
    intro i g r hi h hc
    refine q_step 2 13 [(0, .ref 34), (1, .ref 20), (2, .int (Int32.ofNat i))] [.int (60 : Int32), .int (Int32.ofNat i)] g u (fun big n0 => sg_sk_15 big n0 g u (Int32.ofNat i)) ?_
    refine q_ic_gt rfl (fun (hc0 : (60 : Int32) < (Int32.ofNat i)) => ?_) (fun hc0 => absurd (show (60 : Int32) < (Int32.ofNat i) from by rw [show i = 61 by omega]; decide) hc0)
    refine q_ret 2 (some (.int (Int8.toInt32 (Int8.ofInt (-4)))), g, u) (fun _ _ => rfl) ?_
    exact ⟨g, u, rfl, w_fc_rfl g⟩
  | succ k ih =>
    intro i g r hi h hc
    refine q_step 2 13 [(0, .ref 34), (1, .ref 20), (2, .int (Int32.ofNat i))] [.int (60 : Int32), .int (Int32.ofNat i)] g u (fun big n0 => sg_sk_15 big n0 g u (Int32.ofNat i)) ?_
    refine q_ic_gt rfl (fun hc0 => absurd (show (60 : Int32) < (Int32.ofNat i) from hc0) (fun z => by have z1 := (q_lt (i := 60) (j := i) (by omega) (by omega)).mp z; omega)) (fun (hc0 : ¬ ((60 : Int32) < (Int32.ofNat i))) => ?_)
    refine q_step 1 17 [(0, .ref 34), (1, .ref 20), (2, .int (Int32.ofNat i))] [.ref 34] g u (fun big n0 => sg_sk_16 big n0 g u (Int32.ofNat i)) ?_
    by_cases hc1 : s_ran n r = 0
    · refine q_call (M2 := 83) (rest := []) (show q_BS 83 [.ref 34] g u (some (.int (1 : Int32)), s_step 35 n g, u) from by have e := c_tar u h hc; rw [if_pos hc1] at e; exact e) (fun _ _ => rfl) ?_
      refine q_ret 3 (some (.int (Int32.ofNat i)), (s_step 35 n g), u) (fun _ _ => rfl) ?_
      exact ⟨s_step 35 n g, u, by rw [f_rest, if_pos hc1], s_step_35⟩
    · refine q_call (M2 := 83) (rest := []) (show q_BS 83 [.ref 34] g u (some (.int (0 : Int32)), s_step 35 n g, u) from by have e := c_tar u h hc; rw [if_neg hc1] at e; exact e) (fun _ _ => rfl) ?_
      refine q_step 3 10 [(0, .ref 34), (1, .ref 20), (2, .int ((Int32.ofNat i) + (1 : Int32)))] [] (s_step 35 n g) u (fun big n0 => sg_sk_17 big n0 (s_step 35 n g) u (Int32.ofNat i)) ?_
      have w := w_step35 h hc
      rw [q_succ]
      exact q_EV.imp (ih (i + 1) (s_step 35 n g) (s_rst n r) (by omega) w.1 w.2.1) (fun R z => w_po_c s_step_35 (by rw [f_rest, if_neg hc1]) z)
theorem c_rest82 {n W H : Nat} {g r : qM} (u : qW) (h : w_ok n W H r) (hc : w_cs 20 n g r) : w_BS w_fc 82 [.ref 34, .ref 20] g u (.int (f_rest n 61 0 r)) := by
  refine w_bs (mm := m_82) rfl (Nat.le_of_ble_eq_true rfl) rfl ?_
  have h5 : n ≤ 6 := h.1.2.2.2.2
  have hy := w_cpy (a := 35) (b := 20) h5 (by omega) hc
  refine q_step 3 5 [(0, .ref 34), (1, .ref 20)] [.ref 20, .ref 35] g u (fun big n0 => sg_sk_18 big n0 g u) ?_
  refine q_call (M2 := 41) (rest := []) (b_cpy35_20 _ _) (fun _ _ => rfl) ?_
  refine q_step 2 10 [(0, .ref 34), (1, .ref 20), (2, .int (0 : Int32))] [] (s_cpy 35 20 g) u (fun big n0 => sg_sk_19 big n0 (s_cpy 35 20 g) u) ?_
  exact q_EV.imp (tr_l u 61 0 (s_cpy 35 20 g) r (by omega) h hy) (fun R z => w_po_c w_cpy_fc rfl z)
theorem c_rest {n W H : Nat} {g r : qM} (u : qW) (h : w_ok n W H r) (hc : w_cs 20 n g r) : w_BS w_fc 81 [.ref 8] g u (.int (f_rest n 61 0 r)) := by
  refine w_bs (mm := m_81) rfl (Nat.le_of_ble_eq_true rfl) rfl ?_
  refine q_step 4 8 [(0, .ref 8)] [.ref 20, .ref 34] g u (fun big n0 => sg_sk_20 big n0 g u) ?_
  obtain ⟨g1, u1, hb, hf⟩ := c_rest82 u h hc
  refine q_call (M2 := 82) (rest := []) (hb) (fun _ _ => rfl) ?_
  refine q_ret 1 (some (.int (f_rest n 61 0 r)), g1, u1) (fun _ _ => rfl) ?_
  exact ⟨g1, u1, rfl, hf⟩
theorem c_beh {n W H : Nat} {g r : qM} (u : qW) (h : w_ok n W H r) (hc : w_cs 20 n g r) {m : Nat} (hm : m ≤ 60) : q_BS 80 [.ref 34, .ref 20, .int (Int32.ofNat m)] g u (some (.ref 35), (q_up (s_tss 35 n m (s_cpy 35 20 g)) 35 5 ((s_cpy 35 20 g) 35 5 + Int32.ofNat m)), u) := by
  refine q_bx (mm := m_80) rfl (Nat.le_of_ble_eq_true rfl) rfl ?_
  have h5 : n ≤ 6 := h.1.2.2.2.2
  have hy := w_cpy (a := 35) (b := 20) h5 (by omega) hc
  refine q_step 3 5 [(0, .ref 34), (1, .ref 20), (2, .int (Int32.ofNat m))] [.ref 20, .ref 35] g u (fun big n0 => sg_sk_21 big n0 g u (Int32.ofNat m)) ?_
  refine q_call (M2 := 41) (rest := []) (b_cpy35_20 _ _) (fun _ _ => rfl) ?_
  refine q_step 5 17 [(0, .ref 34), (1, .ref 20), (2, .int (Int32.ofNat m))] [.int (Int32.ofNat m), .ref 35, .ref 28] (s_cpy 35 20 g) u (fun big n0 => sg_sk_22 big n0 (s_cpy 35 20 g) u (Int32.ofNat m)) ?_
  refine q_call (M2 := 76) (rest := []) (c_tss35 u h hy hm) (fun _ _ => rfl) ?_
  refine q_ret 3 (some (.ref 35), (q_up (s_tss 35 n m (s_cpy 35 20 g)) 35 5 ((s_cpy 35 20 g) 35 5 + Int32.ofNat m)), u) (fun _ _ => rfl) ?_
  rfl
theorem w_beh {n W H m : Nat} {g r : qM} (h : w_ok n W H r) (hc : w_cs 20 n g r) : w_cs 35 n (q_up (s_tss 35 n m (s_cpy 35 20 g)) 35 5 ((s_cpy 35 20 g) 35 5 + Int32.ofNat m)) (s_rit n m r) ∧ w_fc g (q_up (s_tss 35 n m (s_cpy 35 20 g)) 35 5 ((s_cpy 35 20 g) 35 5 + Int32.ofNat m)) := ⟨w_up35 (w_tss35 h (w_cpy h.1.2.2.2.2 (by omega) hc) m), w_fc.up (w_fc.trans w_cpy_fc (s_tss_35 m _)) (by omega)⟩
theorem c_ahead0 {n W H : Nat} {g r : qM} (u : qW) (h : w_ok n W H r) (hc : w_cs 20 n g r) {m : Nat} (hm : m ≤ 60) {p : Nat} (hp : p < n) : w_BS w_fc 79 [.ref 8, .int (Int32.ofNat p), .int (Int32.ofNat m), .int (0 : Int32)] g u (.int (s_rit n m r 75 p)) := by
  refine w_bs (mm := m_79) rfl (Nat.le_of_ble_eq_true rfl) rfl ?_
  have h5 : n ≤ 6 := h.1.2.2.2.2
  refine q_step 3 5 [(0, .ref 8), (1, .int (Int32.ofNat p)), (2, .int (Int32.ofNat m)), (3, .int (0 : Int32))] [.int (Int32.ofNat p), .ref 20] g u (fun big n0 => sg_sk_23 big n0 g u (Int32.ofNat p) (Int32.ofNat m)) ?_
  refine q_call (M2 := 40) (rest := []) (b_hasOne1 g u (hc.1.1.trans h.2.1) h.1.2.2.2.2 hp) (fun _ _ => rfl) ?_
  refine q_step 2 12 [(0, .ref 8), (1, .int (Int32.ofNat p)), (2, .int (Int32.ofNat m)), (3, .int (0 : Int32))] [.int (Int32.ofNat m)] g u (fun big n0 => sg_sk_24 big n0 g u (Int32.ofNat p) (Int32.ofNat m)) ?_
  refine q_if_lt rfl (fun hc0 => absurd (show (Int32.ofNat m) < 0 from hc0) (fun z => by have z := Int32.lt_iff_toInt_lt.mp z; rw [q_nat (by omega)] at z; have e : (0 : Int32).toInt = 0 := rfl; omega)) (fun (hc0 : ¬ ((Int32.ofNat m) < 0)) => ?_)
  refine q_step 2 18 [(0, .ref 8), (1, .int (Int32.ofNat p)), (2, .int (Int32.ofNat m)), (3, .int (0 : Int32))] [.int (60 : Int32), .int (Int32.ofNat m)] g u (fun big n0 => sg_sk_25 big n0 g u (Int32.ofNat p) (Int32.ofNat m)) ?_
  refine q_ic_gt rfl (fun hc1 => absurd (show (60 : Int32) < (Int32.ofNat m) from hc1) (fun z => absurd ((q_lt (i := 60) (j := m) (by omega) (by omega)).mp z) (by omega))) (fun (hc1 : ¬ ((60 : Int32) < (Int32.ofNat m))) => ?_)
  refine q_step 1 22 [(0, .ref 8), (1, .int (Int32.ofNat p)), (2, .int (Int32.ofNat m)), (3, .int (0 : Int32))] [.int (0 : Int32)] g u (fun big n0 => sg_sk_26 big n0 g u (Int32.ofNat p) (Int32.ofNat m)) ?_
  refine q_call (M2 := 57) (rest := []) (show q_BS 57 [.int (0 : Int32)] g u (some (.int 1), g, u) from b_isHalf 0 g u) (fun _ _ => rfl) ?_
  refine q_step 6 39 [(0, .ref 8), (1, .int (Int32.ofNat p)), (2, .int (Int32.ofNat m)), (3, .int (0 : Int32))] [.int (Int32.ofNat m), .ref 20, .ref 34] g u (fun big n0 => sg_sk_27 big n0 g u (Int32.ofNat p) (Int32.ofNat m)) ?_
  refine q_call (M2 := 80) (rest := []) (c_beh u h hc hm) (fun _ _ => rfl) ?_
  refine q_step 6 54 [(0, .ref 8), (1, .int (Int32.ofNat p)), (2, .int (Int32.ofNat m)), (3, .int (0 : Int32)), (4, .ref 35)] [.int (Int32.ofNat p), .ref 36] (q_up (s_tss 35 n m (s_cpy 35 20 g)) 35 5 ((s_cpy 35 20 g) 35 5 + Int32.ofNat m)) u (fun big n0 => sg_sk_28 big n0 (q_up (s_tss 35 n m (s_cpy 35 20 g)) 35 5 ((s_cpy 35 20 g) 35 5 + Int32.ofNat m)) u (Int32.ofNat p) (Int32.ofNat m)) ?_
  refine q_iald (j := p) (q_ixn (by omega) (by omega)) rfl rfl ?_
  refine q_ret 2 (some (.int ((q_up (s_tss 35 n m (s_cpy 35 20 g)) 35 5 ((s_cpy 35 20 g) 35 5 + Int32.ofNat m)) 36 p)), (q_up (s_tss 35 n m (s_cpy 35 20 g)) 35 5 ((s_cpy 35 20 g) 35 5 + Int32.ofNat m)), u) (fun _ _ => rfl) ?_
  refine ⟨_, u, ?_, (w_beh (m := m) h hc).2⟩
  rw [((w_beh (m := m) h hc).1.2.2 p hp).1]
theorem c_ahead1 {n W H : Nat} {g r : qM} (u : qW) (h : w_ok n W H r) (hc : w_cs 20 n g r) {m : Nat} (hm : m ≤ 60) {p : Nat} (hp : p < n) : w_BS w_fc 79 [.ref 8, .int (Int32.ofNat p), .int (Int32.ofNat m), .int (1 : Int32)] g u (.int (s_rit n m r 76 p)) := by
  refine w_bs (mm := m_79) rfl (Nat.le_of_ble_eq_true rfl) rfl ?_
  have h5 : n ≤ 6 := h.1.2.2.2.2
  refine q_step 3 5 [(0, .ref 8), (1, .int (Int32.ofNat p)), (2, .int (Int32.ofNat m)), (3, .int (1 : Int32))] [.int (Int32.ofNat p), .ref 20] g u (fun big n0 => sg_sk_29 big n0 g u (Int32.ofNat p) (Int32.ofNat m)) ?_
  refine q_call (M2 := 40) (rest := []) (b_hasOne1 g u (hc.1.1.trans h.2.1) h.1.2.2.2.2 hp) (fun _ _ => rfl) ?_
  refine q_step 2 12 [(0, .ref 8), (1, .int (Int32.ofNat p)), (2, .int (Int32.ofNat m)), (3, .int (1 : Int32))] [.int (Int32.ofNat m)] g u (fun big n0 => sg_sk_30 big n0 g u (Int32.ofNat p) (Int32.ofNat m)) ?_
  refine q_if_lt rfl (fun hc0 => absurd (show (Int32.ofNat m) < 0 from hc0) (fun z => by have z := Int32.lt_iff_toInt_lt.mp z; rw [q_nat (by omega)] at z; have e : (0 : Int32).toInt = 0 := rfl; omega)) (fun (hc0 : ¬ ((Int32.ofNat m) < 0)) => ?_)
  refine q_step 2 18 [(0, .ref 8), (1, .int (Int32.ofNat p)), (2, .int (Int32.ofNat m)), (3, .int (1 : Int32))] [.int (60 : Int32), .int (Int32.ofNat m)] g u (fun big n0 => sg_sk_31 big n0 g u (Int32.ofNat p) (Int32.ofNat m)) ?_
  refine q_ic_gt rfl (fun hc1 => absurd (show (60 : Int32) < (Int32.ofNat m) from hc1) (fun z => absurd ((q_lt (i := 60) (j := m) (by omega) (by omega)).mp z) (by omega))) (fun (hc1 : ¬ ((60 : Int32) < (Int32.ofNat m))) => ?_)
  refine q_step 1 22 [(0, .ref 8), (1, .int (Int32.ofNat p)), (2, .int (Int32.ofNat m)), (3, .int (1 : Int32))] [.int (1 : Int32)] g u (fun big n0 => sg_sk_32 big n0 g u (Int32.ofNat p) (Int32.ofNat m)) ?_
  refine q_call (M2 := 57) (rest := []) (show q_BS 57 [.int (1 : Int32)] g u (some (.int 1), g, u) from b_isHalf 1 g u) (fun _ _ => rfl) ?_
  refine q_step 6 39 [(0, .ref 8), (1, .int (Int32.ofNat p)), (2, .int (Int32.ofNat m)), (3, .int (1 : Int32))] [.int (Int32.ofNat m), .ref 20, .ref 34] g u (fun big n0 => sg_sk_33 big n0 g u (Int32.ofNat p) (Int32.ofNat m)) ?_
  refine q_call (M2 := 80) (rest := []) (c_beh u h hc hm) (fun _ _ => rfl) ?_
  refine q_step 6 64 [(0, .ref 8), (1, .int (Int32.ofNat p)), (2, .int (Int32.ofNat m)), (3, .int (1 : Int32)), (4, .ref 35)] [.int (Int32.ofNat p), .ref 37] (q_up (s_tss 35 n m (s_cpy 35 20 g)) 35 5 ((s_cpy 35 20 g) 35 5 + Int32.ofNat m)) u (fun big n0 => sg_sk_34 big n0 (q_up (s_tss 35 n m (s_cpy 35 20 g)) 35 5 ((s_cpy 35 20 g) 35 5 + Int32.ofNat m)) u (Int32.ofNat p) (Int32.ofNat m)) ?_
  refine q_iald (j := p) (q_ixn (by omega) (by omega)) rfl rfl ?_
  refine q_ret 1 (some (.int ((q_up (s_tss 35 n m (s_cpy 35 20 g)) 35 5 ((s_cpy 35 20 g) 35 5 + Int32.ofNat m)) 37 p)), (q_up (s_tss 35 n m (s_cpy 35 20 g)) 35 5 ((s_cpy 35 20 g) 35 5 + Int32.ofNat m)), u) (fun _ _ => rfl) ?_
  refine ⟨_, u, ?_, (w_beh (m := m) h hc).2⟩
  rw [((w_beh (m := m) h hc).1.2.2 p hp).2.1]
theorem c_force0 {n W H : Nat} {g r : qM} (u : qW) (h : w_ok n W H r) (hc : w_cs 20 n g r) {p : Nat} (hp : p < n) : w_BS w_fc 56 [.ref 8, .int (Int32.ofNat p), .int (0 : Int32)] g u (.int (100 + f_fo n r 0 p)) := by
  refine w_bs (mm := m_56) rfl (Nat.le_of_ble_eq_true rfl) rfl ?_
  have h5 : n ≤ 6 := h.1.2.2.2.2
  refine q_step 3 5 [(0, .ref 8), (1, .int (Int32.ofNat p)), (2, .int (0 : Int32))] [.int (Int32.ofNat p), .ref 20] g u (fun big n0 => sg_sk_35 big n0 g u (Int32.ofNat p)) ?_
  refine q_call (M2 := 40) (rest := []) (b_hasOne1 g u (hc.1.1.trans h.2.1) h.1.2.2.2.2 hp) (fun _ _ => rfl) ?_
  refine q_step 2 12 [(0, .ref 8), (1, .int (Int32.ofNat p)), (2, .int (0 : Int32))] [.int (0 : Int32)] g u (fun big n0 => sg_sk_36 big n0 g u (Int32.ofNat p)) ?_
  refine q_call (M2 := 57) (rest := []) (show q_BS 57 [.int (0 : Int32)] g u (some (.int 1), g, u) from b_isHalf 0 g u) (fun _ _ => rfl) ?_
  refine q_step 5 28 [(0, .ref 8), (1, .int (Int32.ofNat p)), (2, .int (0 : Int32))] [.ref 20, .ref 28] g u (fun big n0 => sg_sk_37 big n0 g u (Int32.ofNat p)) ?_
  refine q_call (M2 := 58) (rest := []) (c_weigh20 u h hc) (fun _ _ => rfl) ?_
  refine q_step 7 45 [(0, .ref 8), (1, .int (Int32.ofNat p)), (2, .int (0 : Int32))] [.int (Int32.ofNat p), .ref 31, .int (100 : Int32)] (s_wg 20 n g) u (fun big n0 => sg_sk_38 big n0 (s_wg 20 n g) u (Int32.ofNat p)) ?_
  refine q_iald (j := p) (q_ixn (by omega) (by omega)) rfl rfl ?_
  refine q_ret 3 (some (.int ((100 : Int32) + ((s_wg 20 n g) 31 p))), (s_wg 20 n g), u) (fun _ _ => rfl) ?_
  exact ⟨_, u, by rw [(w_fo_c h hc hp).1], s_wg_fc⟩
theorem c_force1 {n W H : Nat} {g r : qM} (u : qW) (h : w_ok n W H r) (hc : w_cs 20 n g r) {p : Nat} (hp : p < n) : w_BS w_fc 56 [.ref 8, .int (Int32.ofNat p), .int (1 : Int32)] g u (.int (100 + f_fo n r 1 p)) := by
  refine w_bs (mm := m_56) rfl (Nat.le_of_ble_eq_true rfl) rfl ?_
  have h5 : n ≤ 6 := h.1.2.2.2.2
  refine q_step 3 5 [(0, .ref 8), (1, .int (Int32.ofNat p)), (2, .int (1 : Int32))] [.int (Int32.ofNat p), .ref 20] g u (fun big n0 => sg_sk_39 big n0 g u (Int32.ofNat p)) ?_
  refine q_call (M2 := 40) (rest := []) (b_hasOne1 g u (hc.1.1.trans h.2.1) h.1.2.2.2.2 hp) (fun _ _ => rfl) ?_
  refine q_step 2 12 [(0, .ref 8), (1, .int (Int32.ofNat p)), (2, .int (1 : Int32))] [.int (1 : Int32)] g u (fun big n0 => sg_sk_40 big n0 g u (Int32.ofNat p)) ?_
  refine q_call (M2 := 57) (rest := []) (show q_BS 57 [.int (1 : Int32)] g u (some (.int 1), g, u) from b_isHalf 1 g u) (fun _ _ => rfl) ?_
  refine q_step 5 28 [(0, .ref 8), (1, .int (Int32.ofNat p)), (2, .int (1 : Int32))] [.ref 20, .ref 28] g u (fun big n0 => sg_sk_41 big n0 g u (Int32.ofNat p)) ?_
  refine q_call (M2 := 58) (rest := []) (c_weigh20 u h hc) (fun _ _ => rfl) ?_
  refine q_step 7 57 [(0, .ref 8), (1, .int (Int32.ofNat p)), (2, .int (1 : Int32))] [.int (Int32.ofNat p), .ref 32, .int (100 : Int32)] (s_wg 20 n g) u (fun big n0 => sg_sk_42 big n0 (s_wg 20 n g) u (Int32.ofNat p)) ?_
  refine q_iald (j := p) (q_ixn (by omega) (by omega)) rfl rfl ?_
  refine q_ret 2 (some (.int ((100 : Int32) + ((s_wg 20 n g) 32 p))), (s_wg 20 n g), u) (fun _ _ => rfl) ?_
  exact ⟨_, u, by rw [(w_fo_c h hc hp).2], s_wg_fc⟩
theorem c_wish {n W H : Nat} {g r : qM} (u : qW) (h : w_ok n W H r) (hc : w_cs 20 n g r) {p : Nat} (hp : p < n) : w_BS w_fc 65 [.ref 8, .int (Int32.ofNat p)] g u (.int (f_wi n r p)) := by
  refine w_bs (mm := m_65) rfl (Nat.le_of_ble_eq_true rfl) rfl ?_
  have h5 : n ≤ 6 := h.1.2.2.2.2
  refine q_step 3 5 [(0, .ref 8), (1, .int (Int32.ofNat p))] [.int (Int32.ofNat p), .ref 20] g u (fun big n0 => sg_sk_43 big n0 g u (Int32.ofNat p)) ?_
  refine q_call (M2 := 40) (rest := []) (b_hasOne1 g u (hc.1.1.trans h.2.1) h.1.2.2.2.2 hp) (fun _ _ => rfl) ?_
  refine q_step 5 21 [(0, .ref 8), (1, .int (Int32.ofNat p))] [.ref 20, .ref 28] g u (fun big n0 => sg_sk_44 big n0 g u (Int32.ofNat p)) ?_
  refine q_call (M2 := 58) (rest := []) (c_weigh20 u h hc) (fun _ _ => rfl) ?_
  refine q_step 4 32 [(0, .ref 8), (1, .int (Int32.ofNat p))] [.int (Int32.ofNat p), .ref 33] (s_wg 20 n g) u (fun big n0 => sg_sk_45 big n0 (s_wg 20 n g) u (Int32.ofNat p)) ?_
  refine q_iald (j := p) (q_ixn (by omega) (by omega)) rfl rfl ?_
  refine q_ret 1 (some (.int ((s_wg 20 n g) 33 p)), (s_wg 20 n g), u) (fun _ _ => rfl) ?_
  exact ⟨_, u, by rw [w_wi_c h hc hp], s_wg_fc⟩
theorem st_l (g : qM) (u : qW) {n : Nat} (hn : g 20 3 = Int32.ofNat n) (h6 : n ≤ 6) : ∀ k i a, i + k = n → q_EV m_74 15 [(0, .ref 8), (1, .int a), (2, .int (Int32.ofNat i))] [] g u (fun R => R = (some (.int (s_ct (p_str (g 31) (g 32)) k i a)), g, u)) := by
  intro k
  induction k with
  | zero =>
    intro i a hi
    refine q_step 4 23 [(0, .ref 8), (1, .int a), (2, .int (Int32.ofNat i))] [.int (g 20 3), .int (Int32.ofNat i)] g u (fun big n0 => sg_sk_46 big n0 g u a (Int32.ofNat i)) ?_
    refine q_ic_ge rfl (fun (hc0 : (g 20 3) ≤ (Int32.ofNat i)) => ?_) (fun hc0 => absurd (show (g 20 3) ≤ (Int32.ofNat i) from by rw [hn]; exact (q_le (by omega) (by omega)).mpr (by omega)) hc0)
    refine q_ret 2 (some (.int a), g, u) (fun _ _ => rfl) ?_
    rfl
  | succ k ih =>
    intro i a hi
    refine q_step 4 23 [(0, .ref 8), (1, .int a), (2, .int (Int32.ofNat i))] [.int (g 20 3), .int (Int32.ofNat i)] g u (fun big n0 => sg_sk_46 big n0 g u a (Int32.ofNat i)) ?_
    refine q_ic_ge rfl (fun hc0 => absurd (show (g 20 3) ≤ (Int32.ofNat i) from hc0) (fun z => by rw [hn] at z; exact absurd ((q_le (by omega) (by omega)).mp z) (by omega))) (fun (hc0 : ¬ ((g 20 3) ≤ (Int32.ofNat i))) => ?_)
    refine q_step 5 35 [(0, .ref 8), (1, .int a), (2, .int (Int32.ofNat i))] [.int (Int32.ofNat i), .ref 31, .int a] g u (fun big n0 => sg_sk_47 big n0 g u a (Int32.ofNat i)) ?_
    refine q_iald (j := i) (q_ixn (by omega) (by omega)) rfl rfl ?_
    refine q_call (M2 := 62) (rest := [.int a]) (b_abs _ _ _) (fun _ _ => rfl) ?_
    refine q_step 4 47 [(0, .ref 8), (1, .int a), (2, .int (Int32.ofNat i))] [.int (Int32.ofNat i), .ref 32, .int (s_abs (g 31 i)), .int a] g u (fun big n0 => sg_sk_48 big n0 g u a (Int32.ofNat i) a (s_abs (g 31 i))) ?_
    refine q_iald (j := i) (q_ixn (by omega) (by omega)) rfl rfl ?_
    refine q_call (M2 := 62) (rest := [.int (s_abs (g 31 i)), .int a]) (b_abs _ _ _) (fun _ _ => rfl) ?_
    refine q_step 5 15 [(0, .ref 8), (1, .int (a + ((s_abs (g 31 i)) + (s_abs (g 32 i))))), (2, .int ((Int32.ofNat i) + (1 : Int32)))] [] g u (fun big n0 => sg_sk_49 big n0 g u a (Int32.ofNat i) a (s_abs (g 31 i)) (s_abs (g 32 i))) ?_
    rw [s_ct_s (P := p_str (g 31) (g 32)) (i := i) (v := s_abs (g 31 i) + s_abs (g 32 i)) rfl, q_succ]
    exact ih (i + 1) _ (by omega)
theorem c_strain {n W H : Nat} {g r : qM} (u : qW) (h : w_ok n W H r) (hc : w_cs 20 n g r) : w_BS w_fc 74 [.ref 8] g u (.int (f_str n r)) := by
  refine w_bs (mm := m_74) rfl (Nat.le_of_ble_eq_true rfl) rfl ?_
  have h5 : n ≤ 6 := h.1.2.2.2.2
  refine q_step 4 8 [(0, .ref 8)] [.ref 20, .ref 28] g u (fun big n0 => sg_sk_50 big n0 g u) ?_
  refine q_call (M2 := 58) (rest := []) (c_weigh20 u h hc) (fun _ _ => rfl) ?_
  refine q_step 4 15 [(0, .ref 8), (1, .int (0 : Int32)), (2, .int (0 : Int32))] [] (s_wg 20 n g) u (fun big n0 => sg_sk_51 big n0 (s_wg 20 n g) u) ?_
  refine q_EV.imp (st_l (s_wg 20 n g) u (by rw [s_wg_fc 20 (by omega), hc.1.1]; exact h.2.1) h5 n 0 0 (by omega)) (fun R e => ⟨s_wg 20 n g, u, ?_, s_wg_fc⟩)
  rw [e, show f_str n r = s_ct (p_str (s_wg 20 n g 31) (s_wg 20 n g 32)) n 0 0 from s_ct_cg n 0 0 (fun p _ hp => by
    have hp : p < n := by omega
    unfold p_str
    rw [(w_fo_c h hc hp).1, (w_fo_c h hc hp).2])]
theorem c_go {n W H : Nat} {g r : qM} (u : qW) (h : w_ok n W H r) (hc : w_cs 20 n g r) {m : Nat} (hm : m ≤ 60) (hg : ∀ p, p < n → g 24 p = r 78 p) (hs : ¬ 1000 ≤ g 20 5 + Int32.ofNat m) : q_BS 75 [.ref 8, .int (Int32.ofNat m)] g u (some (.int (f_at n (s_rit n m r))), (q_up (s_tss 20 n m g) 20 5 (g 20 5 + Int32.ofNat m)), u) := by
  refine q_bx (mm := m_75) rfl (Nat.le_of_ble_eq_true rfl) rfl ?_
  have h5 : n ≤ 6 := h.1.2.2.2.2
  refine q_step 1 1 [(0, .ref 8), (1, .int (Int32.ofNat m))] [.int (Int32.ofNat m)] g u (fun big n0 => sg_sk_52 big n0 g u (Int32.ofNat m)) ?_
  refine q_if_lt rfl (fun hc0 => absurd (show (Int32.ofNat m) < 0 from hc0) (fun z => by have z := Int32.lt_iff_toInt_lt.mp z; rw [q_nat (by omega)] at z; have e : (0 : Int32).toInt = 0 := rfl; omega)) (fun (hc0 : ¬ ((Int32.ofNat m) < 0)) => ?_)
  refine q_step 2 7 [(0, .ref 8), (1, .int (Int32.ofNat m))] [.int (60 : Int32), .int (Int32.ofNat m)] g u (fun big n0 => sg_sk_53 big n0 g u (Int32.ofNat m)) ?_
  refine q_ic_le rfl (fun (hc1 : (Int32.ofNat m) ≤ (60 : Int32)) => ?_) (fun hc1 => absurd (show (Int32.ofNat m) ≤ (60 : Int32) from (q_le (i := m) (j := 60) (by omega) (by omega)).mpr hm) hc1)
  refine q_step 6 24 [(0, .ref 8), (1, .int (Int32.ofNat m))] [.int (1000 : Int32), .int ((g 20 5) + (Int32.ofNat m))] g u (fun big n0 => sg_sk_54 big n0 g u (Int32.ofNat m)) ?_
  refine q_ic_lt rfl (fun (hc2 : ((g 20 5) + (Int32.ofNat m)) < (1000 : Int32)) => ?_) (fun hc2 => absurd (show ((g 20 5) + (Int32.ofNat m)) < (1000 : Int32) from Int32.not_le.mp hs) hc2)
  refine q_step 5 39 [(0, .ref 8), (1, .int (Int32.ofNat m))] [.int (Int32.ofNat m), .ref 20, .ref 28] g u (fun big n0 => sg_sk_55 big n0 g u (Int32.ofNat m)) ?_
  refine q_call (M2 := 76) (rest := []) (c_tss20 u h hc hm) (fun _ _ => rfl) ?_
  refine q_step 2 46 [(0, .ref 8), (1, .int (Int32.ofNat m))] [.ref 20] (q_up (s_tss 20 n m g) 20 5 (g 20 5 + Int32.ofNat m)) u (fun big n0 => sg_sk_56 big n0 (q_up (s_tss 20 n m g) 20 5 (g 20 5 + Int32.ofNat m)) u (Int32.ofNat m)) ?_
  have hc3 : w_cs 20 n (q_up (s_tss 20 n m g) 20 5 (g 20 5 + Int32.ofNat m)) (s_rit n m r) := w_up20 (w_tss20 h hc m)
  have hag := b_atg20 (q_up (s_tss 20 n m g) 20 5 (g 20 5 + Int32.ofNat m)) u (hc3.1.1.trans (w_ok_rit m r h).2.1) h5
  rw [w_at_c (T := 20) (w_ok_rit m r h) hc3 (fun p hp => by rw [s_rit_g (by omega)]; exact (congrFun (s_tss_go (T := 20) (Or.inl rfl) m g) p).trans (hg p hp))] at hag
  refine q_call (M2 := 78) (rest := []) (hag) (fun _ _ => rfl) ?_
  refine q_ret 1 (some (.int (f_at n (s_rit n m r))), (q_up (s_tss 20 n m g) 20 5 (g 20 5 + Int32.ofNat m)), u) (fun _ _ => rfl) ?_
  rfl
