/-! THE LINES, the reference. -/
/-- the draft is kept in h as r tells -/
def k_dh (r h : qM) : Prop := (∀ j, j < 44 → h 73 j = r 73 j) ∧ ∀ j, 6 ≤ j → j ≤ 11 → h 70 j = r 70 j
theorem k_dh.up {r h : qM} (hd : k_dh r h) {a j : Nat} {x : Int32} : k_dh (q_up r a j x) (q_up h a j x) := by
  refine ⟨fun i hi => ?_, fun i h1 h2 => ?_⟩
  · rw [q_up_eq, q_up_eq, hd.1 i hi]
  · rw [q_up_eq, q_up_eq, hd.2 i h1 h2]
theorem k_dh.f70 {r h h' : qM} (hd : k_dh r h) (hf : k_f70 h h') : k_dh r h' := ⟨fun j hj => by rw [hf.1 73 (by decide)]; exact hd.1 j hj, fun j h1 h2 => (hf.2 j (by omega)).trans (hd.2 j h1 h2)⟩
/-- what the reference's text writes -/
def k_fR (h h' : qM) : Prop := (∀ a, a ≠ 70 → a ≠ 73 → h' a = h a) ∧ ∀ j, j < 6 ∨ (12 ≤ j ∧ j < 14) ∨ 19 < j → h' 70 j = h 70 j
theorem k_fR_rfl (h : qM) : k_fR h h := ⟨fun _ _ _ => rfl, fun _ _ => rfl⟩
theorem k_fR.trans {a b c : qM} (h1 : k_fR a b) (h2 : k_fR b c) : k_fR a c := ⟨fun x h h' => (h2.1 x h h').trans (h1.1 x h h'), fun x h => (h2.2 x h).trans (h1.2 x h)⟩
theorem k_f70.R {h h' : qM} (hf : k_f70 h h') : k_fR h h' := ⟨fun a h1 _ => hf.1 a h1, fun j hj => hf.2 j (by omega)⟩
theorem k_fR.up {g g' : qM} (h : k_fR g g') {a j : Nat} {x : Int32} (ha : a = 73 ∨ (a = 70 ∧ ((6 ≤ j ∧ j ≤ 11) ∨ (14 ≤ j ∧ j ≤ 19)))) : k_fR g (q_up g' a j x) := by
  refine ⟨fun b h1 h2 => ?_, fun i hi => ?_⟩
  · rw [q_up_ne (by omega)]
    exact h.1 b h1 h2
  · rw [q_up_eq, if_neg (by omega)]
    exact h.2 i hi
theorem k_b.R {b : Nat → Int32} {s : Nat} {h h' : qM} (hb : k_b b s h) (hf : k_fR h h') : k_b b s h' := ⟨(hf.2 13 (by omega)).trans hb.1, hb.2.1, fun j hj => by rw [hf.1 74 (by decide) (by decide)]; exact hb.2.2 j hj⟩
theorem k_la.up {b : Nat → Int32} {s p : Nat} {h : qM} (hl : k_la b s p h) {a j : Nat} {x : Int32} (ha : ¬ (a = 70 ∧ 14 ≤ j ∧ j ≤ 19)) : k_la b s p (q_up h a j x) := by
  have e : ∀ i, 14 ≤ i → i ≤ 19 → q_up h a j x 70 i = h 70 i := fun i h1 h2 => by rw [q_up_eq, if_neg (by omega)]
  unfold k_la
  rw [e 18 (by omega) (by omega), e 19 (by omega) (by omega), e 14 (by omega) (by omega), e 15 (by omega) (by omega), e 16 (by omega) (by omega), e 17 (by omega) (by omega)]
  exact hl
/-- before a token is read: it is looked at, and the draft is r -/
def k_rs (b : Nat → Int32) (s p : Nat) (r g : qM) : Prop := k_b b s g ∧ p ≤ s ∧ k_la b s p g ∧ k_dh r g
theorem k_rs.up {b : Nat → Int32} {s p : Nat} {r g : qM} (h : k_rs b s p r g) {a j : Nat} {x : Int32} (ha : a = 73 ∨ (a = 70 ∧ 6 ≤ j ∧ j ≤ 11)) : k_rs b s p (q_up r a j x) (q_up g a j x) := ⟨h.1.R ((k_fR_rfl g).up (by omega)), h.2.1, h.2.2.1.up (by omega), h.2.2.2.up⟩
theorem r_numk {b : Nat → Int32} {s p : Nat} {r g : qM} (u : qW) (h : k_rs b s p r g) {lo hi : Int32} (he : t_er b s p lo hi = 0) : ∃ g', q_BS 160 [.ref 70, .int lo, .int hi] g u (some (.int (t_va b s p)), g', u) ∧ k_f70 g g' ∧ k_rs b s (t_pl b s p) r g' := by
  obtain ⟨_, hq, g1, rfl, hf, h0, _⟩ := r_num g u h.1 h.2.1 h.2.2.1 lo hi
  rw [he, if_pos rfl] at hq
  exact ⟨g1, hq, hf, h.1.fr hf, (t_pl_b h.2.1).2.1, h0 he, h.2.2.2.f70 hf⟩
theorem r_nume {b : Nat → Int32} {s p : Nat} {r g : qM} (u : qW) (h : k_rs b s p r g) {lo hi : Int32} (he : ¬ t_er b s p lo hi = 0) : ∃ g', q_BS 160 [.ref 70, .int lo, .int hi] g u (some (.int 0), g', u) ∧ k_f70 g g' ∧ g' 70 18 = t_er b s p lo hi ∧ g' 70 19 = Int32.ofNat (t_fi b s p) := by
  obtain ⟨_, hq, g1, rfl, hf, _, h0⟩ := r_num g u h.1 h.2.1 h.2.2.1 lo hi
  rw [if_neg he] at hq
  exact ⟨g1, hq, hf, (h0 he).1, (h0 he).2⟩
/-- looked, then next -/
theorem r_lookk {b : Nat → Int32} {s p : Nat} {r g : qM} (u : qW) (h : k_rs b s p r g) {lo hi : Int32} (he : t_er b s p lo hi = 0) : q_BS 161 [.ref 70, .int lo, .int hi] g u (some (.int (t_va b s p)), g, u) ∧ g 70 18 = 0 ∧ g 70 14 = Int32.ofNat (t_pl b s p) ∧ g 70 15 = Int32.ofNat (t_fi b s p) := by
  obtain ⟨_, hq, g1, rfl, hf, h0, _⟩ := r_looked g u h.1 h.2.1 h.2.2.1 lo hi
  have e1 := h0 he
  subst e1
  rw [he, if_pos rfl] at hq
  refine ⟨hq, ?_⟩
  rcases h.2.2.1 with z | z
  · exfalso
    unfold t_er at he
    rw [if_neg (by rw [z.1]; decide), if_pos z.1] at he
    exact absurd he (by decide)
  · exact ⟨z.2.1, z.2.2.1, z.2.2.2.1⟩
theorem r_looke {b : Nat → Int32} {s p : Nat} {r g : qM} (u : qW) (h : k_rs b s p r g) {lo hi : Int32} (he : ¬ t_er b s p lo hi = 0) : ∃ g', q_BS 161 [.ref 70, .int lo, .int hi] g u (some (.int 0), g', u) ∧ k_f70 g g' ∧ g' 70 18 = t_er b s p lo hi ∧ g' 70 19 = Int32.ofNat (t_fi b s p) := by
  obtain ⟨_, hq, g1, rfl, hf, _, h0⟩ := r_looked g u h.1 h.2.1 h.2.2.1 lo hi
  rw [if_neg he] at hq
  exact ⟨g1, hq, hf, (h0 he).1, (h0 he).2⟩
/-- after a line, the reference's side -/
def k_rc (b : Nat → Int32) (s : Nat) (o : tO) (g g' : qM) : Prop := k_fR g g' ∧ (¬ o.1 = 0 → 0 < o.1 ∧ g' 70 18 = o.1 ∧ g' 70 19 = Int32.ofNat o.2.1) ∧ (o.1 = 0 → o.2.2.1 ≤ s ∧ k_la b s o.2.2.1 g' ∧ (g' 70 18 = 0 → k_dh o.2.2.2 g'))
theorem k_rc_bad {b : Nat → Int32} {s a : Nat} {e : Int32} {r g g' : qM} (h : k_fR g g') (he : 0 < e) (h2 : g' 70 18 = e) (h3 : g' 70 19 = Int32.ofNat a) : k_rc b s (o_bad e a r) g g' := ⟨h, fun _ => ⟨he, h2, h3⟩, fun z => absurd (show e = 0 from z) (fun y => by rw [y] at he; exact absurd he (by decide))⟩
theorem k_rc_ok {b : Nat → Int32} {s p : Nat} {r g g' : qM} (h : k_fR g g') (hr : k_rs b s p r g') : k_rc b s (o_ok p r) g g' := ⟨h, fun z => absurd rfl z, fun _ => ⟨hr.2.1, hr.2.2.1, fun _ => hr.2.2.2⟩⟩
theorem k_rc_okx {b : Nat → Int32} {s p : Nat} {r g g' : qM} (h : k_fR g g') (hp : p ≤ s) (hl : k_la b s p g') (hf : ¬ g' 70 18 = 0) : k_rc b s (o_ok p r) g g' := ⟨h, fun z => absurd rfl z, fun _ => ⟨hp, hl, fun z => absurd z hf⟩⟩
/-! the lines' insides -/
def i_town (b : Nat → Int32) (s p : Nat) (rb r : qM) : tO := o_num b s p 2 5 rb (fun v p1 => o_num b s p1 2 5 rb (fun w p2 => o_ok p2 (q_up (q_up r 70 6 v) 70 7 w)))
def i_press (b : Nat → Int32) (s p : Nat) (rb r : qM) : tO := o_num b s p 0 4 rb (fun v p1 => o_ok p1 (q_up r 73 25 v))
def i_pull (b : Nat → Int32) (s p : Nat) (rb r : qM) : tO := o_num b s p 0 9 rb (fun v1 p1 => o_num b s p1 0 9 rb (fun v2 p2 => o_num b s p2 0 9 rb (fun v3 p3 => o_num b s p3 0 9 rb (fun v4 p4 => o_ok p4 (q_up (q_up (q_up (q_up r 73 21 v1) 73 22 v2) 73 23 v3) 73 24 v4)))))
def i_one (b : Nat → Int32) (s p : Nat) (r : qM) (st : Int32) : tO := o_free b s p r (fun c p1 r1 => o_num b s p1 0 3 r1 (fun m p2 => o_ok p2 (q_up (q_up (q_up (q_up r1 73 (t_n r) c) 73 (5 + t_n r) m) 73 (10 + t_n r) st) 70 8 (r1 70 8 + 1))))
theorem t_er0 {b : Nat → Int32} {s p : Nat} {lo hi : Int32} (h : t_ki b s p = 0) : t_er b s p lo hi = 1 := by
  unfold t_er
  rw [if_neg (by rw [h]; decide), if_pos h]
theorem o_num0 {b : Nat → Int32} {s p : Nat} {lo hi : Int32} {r : qM} {k : Int32 → Nat → tO} (h : t_ki b s p = 0) : o_num b s p lo hi r k = o_bad 1 (t_fi b s p) r := by
  unfold o_num
  rw [t_er0 h, if_neg (by decide)]
theorem t_frF {f : Nat → Int32} {w c : Int32} {i : Nat} : (if s_bit w c = 0 then (if t_hit f c (i + 1) = 0 then (1 : Int32) else 0) else 0) = if (if s_bit w c = 0 then (if t_hit f c i = 0 then (1 : Int32) else 0) else 0) = 0 then 0 else if f i = c then 0 else 1 := by
  rw [t_hit]
  by_cases a : s_bit w c = 0
  · rw [if_pos a, if_pos a]
    by_cases d : t_hit f c i = 0
    · rw [if_pos d, if_neg (by decide : ¬ (1 : Int32) = 0)]
      by_cases e : f i = c
      · rw [if_pos e, if_pos e, if_neg (by decide)]
      · rw [if_neg e, if_neg e, if_pos d]
    · rw [if_neg d, if_pos rfl]
      by_cases e : f i = c
      · rw [if_pos e, if_neg (by decide)]
      · rw [if_neg e, if_neg d]
  · rw [if_neg a, if_neg a, if_pos rfl]
theorem sg_rl_1 (big : Nat → List Value → qM → qW → qR) (n0 : Nat) (G : qM) (U : qW) : qm_run pm_m big m_159 (n0 + 6) 0 [(0, .ref 70), (1, .int (0 : Int32))] [] G U = qm_run pm_m big m_159 n0 48 [(0, .ref 70), (1, .int (0 : Int32))] [.int (5 : Int32), .int (2 : Int32), .ref 70, .ref 70] G U := rfl
theorem sg_rl_2 (big : Nat → List Value → qM → qW → qR) (n0 : Nat) (G : qM) (U : qW) (v0 : Int32) : qm_run pm_m big m_159 (n0 + 5) 51 [(0, .ref 70), (1, .int (0 : Int32))] [.int v0, .ref 70] G U = qm_run pm_m big m_159 n0 58 [(0, .ref 70), (1, .int (0 : Int32))] [.int (5 : Int32), .int (2 : Int32), .ref 70, .ref 70] (q_up G 70 6 v0) U := rfl
theorem sg_rl_3 (big : Nat → List Value → qM → qW → qR) (n0 : Nat) (G : qM) (U : qW) : qm_run pm_m big m_159 (n0 + 5) 51 [(0, .ref 70), (1, .int (0 : Int32))] [.int (0 : Int32), .ref 70] G U = qm_run pm_m big m_159 n0 58 [(0, .ref 70), (1, .int (0 : Int32))] [.int (5 : Int32), .int (2 : Int32), .ref 70, .ref 70] (q_up G 70 6 (0 : Int32)) U := rfl
theorem sg_rl_4 (big : Nat → List Value → qM → qW → qR) (n0 : Nat) (G : qM) (U : qW) : qm_run pm_m big m_159 (n0 + 15) 0 [(0, .ref 70), (1, .int (1 : Int32))] [] G U = qm_run pm_m big m_159 n0 86 [(0, .ref 70), (1, .int (1 : Int32)), (2, .int (0 : Int32))] [.int (9 : Int32), .int (0 : Int32), .ref 70, .int (21 : Int32), .ref 73] G U := rfl
theorem sg_rl_5 (big : Nat → List Value → qM → qW → qR) (n0 : Nat) (G : qM) (U : qW) (v0 : Int32) : qm_run pm_m big m_159 (n0 + 14) 89 [(0, .ref 70), (1, .int (1 : Int32)), (2, .int (0 : Int32))] [.int v0, .int (21 : Int32), .ref 73] G U = qm_run pm_m big m_159 n0 86 [(0, .ref 70), (1, .int (1 : Int32)), (2, .int (1 : Int32))] [.int (9 : Int32), .int (0 : Int32), .ref 70, .int (22 : Int32), .ref 73] (q_up G 73 21 v0) U := rfl
theorem sg_rl_6 (big : Nat → List Value → qM → qW → qR) (n0 : Nat) (G : qM) (U : qW) (v0 : Int32) : qm_run pm_m big m_159 (n0 + 14) 89 [(0, .ref 70), (1, .int (1 : Int32)), (2, .int (1 : Int32))] [.int v0, .int (22 : Int32), .ref 73] G U = qm_run pm_m big m_159 n0 86 [(0, .ref 70), (1, .int (1 : Int32)), (2, .int (2 : Int32))] [.int (9 : Int32), .int (0 : Int32), .ref 70, .int (23 : Int32), .ref 73] (q_up G 73 22 v0) U := rfl
theorem sg_rl_7 (big : Nat → List Value → qM → qW → qR) (n0 : Nat) (G : qM) (U : qW) (v0 : Int32) : qm_run pm_m big m_159 (n0 + 14) 89 [(0, .ref 70), (1, .int (1 : Int32)), (2, .int (2 : Int32))] [.int v0, .int (23 : Int32), .ref 73] G U = qm_run pm_m big m_159 n0 86 [(0, .ref 70), (1, .int (1 : Int32)), (2, .int (3 : Int32))] [.int (9 : Int32), .int (0 : Int32), .ref 70, .int (24 : Int32), .ref 73] (q_up G 73 23 v0) U := rfl
theorem sg_rl_8 (big : Nat → List Value → qM → qW → qR) (n0 : Nat) (G : qM) (U : qW) : qm_run pm_m big m_159 (n0 + 14) 89 [(0, .ref 70), (1, .int (1 : Int32)), (2, .int (2 : Int32))] [.int (0 : Int32), .int (23 : Int32), .ref 73] G U = qm_run pm_m big m_159 n0 86 [(0, .ref 70), (1, .int (1 : Int32)), (2, .int (3 : Int32))] [.int (9 : Int32), .int (0 : Int32), .ref 70, .int (24 : Int32), .ref 73] (q_up G 73 23 (0 : Int32)) U := rfl
theorem sg_rl_9 (big : Nat → List Value → qM → qW → qR) (n0 : Nat) (G : qM) (U : qW) : qm_run pm_m big m_159 (n0 + 14) 89 [(0, .ref 70), (1, .int (1 : Int32)), (2, .int (1 : Int32))] [.int (0 : Int32), .int (22 : Int32), .ref 73] G U = qm_run pm_m big m_159 n0 86 [(0, .ref 70), (1, .int (1 : Int32)), (2, .int (2 : Int32))] [.int (9 : Int32), .int (0 : Int32), .ref 70, .int (23 : Int32), .ref 73] (q_up G 73 22 (0 : Int32)) U := rfl
theorem sg_rl_10 (big : Nat → List Value → qM → qW → qR) (n0 : Nat) (G : qM) (U : qW) : qm_run pm_m big m_159 (n0 + 14) 89 [(0, .ref 70), (1, .int (1 : Int32)), (2, .int (0 : Int32))] [.int (0 : Int32), .int (21 : Int32), .ref 73] G U = qm_run pm_m big m_159 n0 86 [(0, .ref 70), (1, .int (1 : Int32)), (2, .int (1 : Int32))] [.int (9 : Int32), .int (0 : Int32), .ref 70, .int (22 : Int32), .ref 73] (q_up G 73 21 (0 : Int32)) U := rfl
theorem sg_rl_11 (big : Nat → List Value → qM → qW → qR) (n0 : Nat) (G : qM) (U : qW) : qm_run pm_m big m_159 (n0 + 8) 0 [(0, .ref 70), (1, .int (2 : Int32))] [] G U = qm_run pm_m big m_159 n0 108 [(0, .ref 70), (1, .int (2 : Int32))] [.int (4 : Int32), .int (0 : Int32), .ref 70, .int (25 : Int32), .ref 73] G U := rfl
theorem sg_rl_12 (big : Nat → List Value → qM → qW → qR) (n0 : Nat) (G : qM) (U : qW) (v0 : Int32) (v1 : Int32) (v2 : Int32) : qm_run pm_m big m_162 (n0 + 3) 37 [(0, .ref 70), (1, .int v0), (2, .int v1), (3, .int v2)] [] G U = qm_run pm_m big m_162 n0 42 [(0, .ref 70), (1, .int v0), (2, .int v1), (3, .int v2)] [.int (G 70 8), .int v2] G U := rfl
theorem sg_rl_13 (big : Nat → List Value → qM → qW → qR) (n0 : Nat) (G : qM) (U : qW) (v0 : Int32) (v1 : Int32) (v2 : Int32) : qm_run pm_m big m_162 (n0 + 1) 45 [(0, .ref 70), (1, .int v0), (2, .int v1), (3, .int v2)] [] G U = qm_run pm_m big m_162 n0 46 [(0, .ref 70), (1, .int v0), (2, .int v1), (3, .int v2)] [.int v1] G U := rfl
theorem sg_rl_14 (big : Nat → List Value → qM → qW → qR) (n0 : Nat) (G : qM) (U : qW) (v0 : Int32) (v1 : Int32) (v2 : Int32) : qm_run pm_m big m_162 (n0 + 4) 65 [(0, .ref 70), (1, .int v0), (2, .int v1), (3, .int v2)] [] G U = qm_run pm_m big m_162 n0 37 [(0, .ref 70), (1, .int v0), (2, .int (0 : Int32)), (3, .int (v2 + (1 : Int32)))] [] G U := rfl
theorem sg_rl_15 (big : Nat → List Value → qM → qW → qR) (n0 : Nat) (G : qM) (U : qW) (v0 : Int32) (v1 : Int32) (v2 : Int32) : qm_run pm_m big m_162 (n0 + 5) 49 [(0, .ref 70), (1, .int v0), (2, .int v1), (3, .int v2)] [] G U = qm_run pm_m big m_162 n0 56 [(0, .ref 70), (1, .int v0), (2, .int v1), (3, .int v2)] [.int ((0 : Int32) + v2), .ref 73] G U := rfl
theorem sg_rl_16 (big : Nat → List Value → qM → qW → qR) (n0 : Nat) (G : qM) (U : qW) (v0 : Int32) (v1 : Int32) (v2 : Int32) (v3 : Int32) : qm_run pm_m big m_162 (n0 + 1) 57 [(0, .ref 70), (1, .int v0), (2, .int v1), (3, .int v2)] [.int v3] G U = qm_run pm_m big m_162 n0 58 [(0, .ref 70), (1, .int v0), (2, .int v1), (3, .int v2)] [.int v0, .int v3] G U := rfl
theorem sg_rl_17 (big : Nat → List Value → qM → qW → qR) (n0 : Nat) (G : qM) (U : qW) (v0 : Int32) (v1 : Int32) (v2 : Int32) : qm_run pm_m big m_162 (n0 + 5) 61 [(0, .ref 70), (1, .int v0), (2, .int v1), (3, .int v2)] [] G U = qm_run pm_m big m_162 n0 37 [(0, .ref 70), (1, .int v0), (2, .int (1 : Int32)), (3, .int (v2 + (1 : Int32)))] [] G U := rfl
theorem sg_rl_18 (big : Nat → List Value → qM → qW → qR) (n0 : Nat) (G : qM) (U : qW) : qm_run pm_m big m_162 (n0 + 3) 0 [(0, .ref 70)] [] G U = qm_run pm_m big m_162 n0 4 [(0, .ref 70)] [.int (24 : Int32), .int (0 : Int32), .ref 70] G U := rfl
theorem sg_rl_19 (big : Nat → List Value → qM → qW → qR) (n0 : Nat) (G : qM) (U : qW) (v0 : Int32) : qm_run pm_m big m_162 (n0 + 3) 7 [(0, .ref 70)] [.int v0] G U = qm_run pm_m big m_162 n0 12 [(0, .ref 70), (1, .int v0)] [.int (G 70 18)] G U := rfl
theorem sg_rl_20 (big : Nat → List Value → qM → qW → qR) (n0 : Nat) (G : qM) (U : qW) (v0 : Int32) : qm_run pm_m big m_162 (n0 + 8) 15 [(0, .ref 70), (1, .int v0)] [] G U = qm_run pm_m big m_162 n0 26 [(0, .ref 70), (1, .int v0)] [.int (((G 73 20) >>> (v0 &&& 31)) &&& (1 : Int32))] G U := rfl
theorem sg_rl_21 (big : Nat → List Value → qM → qW → qR) (n0 : Nat) (G : qM) (U : qW) (v0 : Int32) : qm_run pm_m big m_162 (n0 + 5) 29 [(0, .ref 70), (1, .int v0)] [] G U = qm_run pm_m big m_162 n0 37 [(0, .ref 70), (1, .int v0), (2, .int (1 : Int32)), (3, .int (0 : Int32))] [] G U := rfl
theorem sg_rl_22 (big : Nat → List Value → qM → qW → qR) (n0 : Nat) (G : qM) (U : qW) (v0 : Int32) (v1 : Int32) : qm_run pm_m big m_162 (n0 + 3) 73 [(0, .ref 70), (1, .int v0), (2, .int (1 : Int32)), (3, .int v1)] [] G U = qm_run pm_m big m_162 n0 76 [(0, .ref 70), (1, .int v0), (2, .int (1 : Int32)), (3, .int v1)] [.int (4 : Int32), .int (1 : Int32), .ref 70] G U := rfl
theorem sg_rl_23 (big : Nat → List Value → qM → qW → qR) (n0 : Nat) (G : qM) (U : qW) (v0 : Int32) (v1 : Int32) : qm_run pm_m big m_162 (n0 + 2) 79 [(0, .ref 70), (1, .int v0), (2, .int (1 : Int32)), (3, .int v1)] [] G U = qm_run pm_m big m_162 n0 83 [(0, .ref 70), (1, .int v0), (2, .int (1 : Int32)), (3, .int v1)] [.int (G 70 18)] G U := rfl
theorem sg_rl_24 (big : Nat → List Value → qM → qW → qR) (n0 : Nat) (G : qM) (U : qW) (v0 : Int32) (v1 : Int32) : qm_run pm_m big m_162 (n0 + 4) 86 [(0, .ref 70), (1, .int v0), (2, .int (1 : Int32)), (3, .int v1)] [] G U = qm_run pm_m big m_162 n0 92 [(0, .ref 70), (1, .int v0), (2, .int (1 : Int32)), (3, .int v1)] [.int (G 70 10), .int v0, .ref 70] G U := rfl
theorem sg_rl_25 (big : Nat → List Value → qM → qW → qR) (n0 : Nat) (G : qM) (U : qW) (v0 : Int32) (v1 : Int32) : qm_run pm_m big m_162 (n0 + 4) 99 [(0, .ref 70), (1, .int v0), (2, .int (1 : Int32)), (3, .int v1)] [.ref 70] G U = qm_run pm_m big m_162 n0 107 [(0, .ref 70), (1, .int v0), (2, .int (1 : Int32)), (3, .int v1)] [.ref 70] (q_up G 70 10 (G 70 10)) U := rfl
theorem sg_rl_26 (big : Nat → List Value → qM → qW → qR) (n0 : Nat) (G : qM) (U : qW) (v0 : Int32) (v1 : Int32) : qm_run pm_m big m_162 (n0 + 4) 95 [(0, .ref 70), (1, .int v0), (2, .int (1 : Int32)), (3, .int v1)] [.ref 70] G U = qm_run pm_m big m_162 n0 107 [(0, .ref 70), (1, .int v0), (2, .int (1 : Int32)), (3, .int v1)] [.ref 70] (q_up G 70 10 v0) U := rfl
theorem sg_rl_27 (big : Nat → List Value → qM → qW → qR) (n0 : Nat) (G : qM) (U : qW) (v0 : Int32) (v1 : Int32) : qm_run pm_m big m_162 (n0 + 3) 73 [(0, .ref 70), (1, .int v0), (2, .int (0 : Int32)), (3, .int v1)] [] G U = qm_run pm_m big m_162 n0 76 [(0, .ref 70), (1, .int v0), (2, .int (0 : Int32)), (3, .int v1)] [.int (4 : Int32), .int (0 : Int32), .ref 70] G U := rfl
theorem sg_rl_28 (big : Nat → List Value → qM → qW → qR) (n0 : Nat) (G : qM) (U : qW) (v0 : Int32) (v1 : Int32) : qm_run pm_m big m_162 (n0 + 2) 79 [(0, .ref 70), (1, .int v0), (2, .int (0 : Int32)), (3, .int v1)] [] G U = qm_run pm_m big m_162 n0 83 [(0, .ref 70), (1, .int v0), (2, .int (0 : Int32)), (3, .int v1)] [.int (G 70 18)] G U := rfl
theorem sg_rl_29 (big : Nat → List Value → qM → qW → qR) (n0 : Nat) (G : qM) (U : qW) (v0 : Int32) (v1 : Int32) : qm_run pm_m big m_162 (n0 + 1) 106 [(0, .ref 70), (1, .int v0), (2, .int (0 : Int32)), (3, .int v1)] [] G U = qm_run pm_m big m_162 n0 107 [(0, .ref 70), (1, .int v0), (2, .int (0 : Int32)), (3, .int v1)] [.ref 70] G U := rfl
theorem sg_rl_30 (big : Nat → List Value → qM → qW → qR) (n0 : Nat) (G : qM) (U : qW) (v0 : Int32) : qm_run pm_m big m_162 (n0 + 4) 33 [(0, .ref 70), (1, .int v0)] [] G U = qm_run pm_m big m_162 n0 37 [(0, .ref 70), (1, .int v0), (2, .int (0 : Int32)), (3, .int (0 : Int32))] [] G U := rfl
theorem sg_rl_31 (big : Nat → List Value → qM → qW → qR) (n0 : Nat) (G : qM) (U : qW) : qm_run pm_m big m_162 (n0 + 3) 7 [(0, .ref 70)] [.int (0 : Int32)] G U = qm_run pm_m big m_162 n0 12 [(0, .ref 70), (1, .int (0 : Int32))] [.int (G 70 18)] G U := rfl
theorem sg_rl_32 (big : Nat → List Value → qM → qW → qR) (n0 : Nat) (G : qM) (U : qW) : qm_run pm_m big m_162 (n0 + 2) 79 [(0, .ref 70), (1, .int (0 : Int32))] [] G U = qm_run pm_m big m_162 n0 83 [(0, .ref 70), (1, .int (0 : Int32))] [.int (G 70 18)] G U := rfl
theorem sg_rl_33 (big : Nat → List Value → qM → qW → qR) (n0 : Nat) (G : qM) (U : qW) : qm_run pm_m big m_162 (n0 + 1) 106 [(0, .ref 70), (1, .int (0 : Int32))] [] G U = qm_run pm_m big m_162 n0 107 [(0, .ref 70), (1, .int (0 : Int32))] [.ref 70] G U := rfl
theorem r_ltown {b : Nat → Int32} {s p : Nat} {r : qM} (g : qM) (u : qW) (hr : k_rs b s p r g) (rb : qM) : ∃ R, q_BS 159 [.ref 70, .int (0 : Int32)] g u R ∧ ∃ g', R = (none, g', u) ∧ k_rc b s (i_town b s p rb r) g g' := by
  refine q_bs (mm := m_159) rfl (Nat.le_of_ble_eq_true rfl) rfl ?_
  refine q_step 6 48 [(0, .ref 70), (1, .int (0 : Int32))] [.int (5 : Int32), .int (2 : Int32), .ref 70, .ref 70] g u (fun big n0 => sg_rl_1 big n0 g u) ?_
  by_cases hc0 : t_er b s p (2 : Int32) (5 : Int32) = 0
  · obtain ⟨g1, q1, f1, l1⟩ := r_numk (g := g) u hr hc0
    refine q_call (M2 := 160) (rest := [.ref 70]) (q1) (fun _ _ => rfl) ?_
    refine q_step 5 58 [(0, .ref 70), (1, .int (0 : Int32))] [.int (5 : Int32), .int (2 : Int32), .ref 70, .ref 70] (q_up g1 70 6 (t_va b s p)) u (fun big n0 => sg_rl_2 big n0 g1 u (t_va b s p)) ?_
    by_cases hc1 : t_er b s (t_pl b s p) (2 : Int32) (5 : Int32) = 0
    · obtain ⟨g2, q2, f2, l2⟩ := r_numk (g := (q_up g1 70 6 (t_va b s p))) u (l1.up (by omega)) hc1
      refine q_call (M2 := 160) (rest := [.ref 70]) (q2) (fun _ _ => rfl) ?_
      refine q_ret 3 (none, (q_up g2 70 7 (t_va b s (t_pl b s p))), u) (fun _ _ => rfl) ?_
      unfold i_town
      rw [o_num, if_pos hc0]
      rw [o_num, if_pos hc1]
      exact ⟨_, rfl, k_rc_ok (((((k_fR_rfl g).trans f1.R).up (by omega)).trans f2.R).up (by omega)) (l2.up (by omega))⟩
    · obtain ⟨g2, q2, f2, x2, y2⟩ := r_nume (g := (q_up g1 70 6 (t_va b s p))) u (l1.up (by omega)) hc1
      refine q_call (M2 := 160) (rest := [.ref 70]) (q2) (fun _ _ => rfl) ?_
      refine q_ret 3 (none, (q_up g2 70 7 (0 : Int32)), u) (fun _ _ => rfl) ?_
      unfold i_town
      rw [o_num, if_pos hc0]
      rw [o_num, if_neg hc1]
      exact ⟨_, rfl, k_rc_bad (((((k_fR_rfl g).trans f1.R).up (by omega)).trans f2.R).up (by omega)) (t_er_pos hc1) x2 y2⟩
  · obtain ⟨g1, q1, f1, x1, y1⟩ := r_nume (g := g) u hr hc0
    refine q_call (M2 := 160) (rest := [.ref 70]) (q1) (fun _ _ => rfl) ?_
    refine q_step 5 58 [(0, .ref 70), (1, .int (0 : Int32))] [.int (5 : Int32), .int (2 : Int32), .ref 70, .ref 70] (q_up g1 70 6 (0 : Int32)) u (fun big n0 => sg_rl_3 big n0 g1 u) ?_
    refine q_call (M2 := 160) (rest := [.ref 70]) (r_numf (2 : Int32) (5 : Int32) _ _ (show 0 < (g1 70 18) from (by rw [x1]; exact t_er_pos hc0))) (fun _ _ => rfl) ?_
    refine q_ret 3 (none, (q_up (q_up g1 70 6 (0 : Int32)) 70 7 (0 : Int32)), u) (fun _ _ => rfl) ?_
    unfold i_town
    rw [o_num, if_neg hc0]
    exact ⟨_, rfl, k_rc_bad ((((k_fR_rfl g).trans f1.R).up (by omega)).up (by omega)) (t_er_pos hc0) x1 y1⟩
theorem r_lpull {b : Nat → Int32} {s p : Nat} {r : qM} (g : qM) (u : qW) (hr : k_rs b s p r g) (rb : qM) : ∃ R, q_BS 159 [.ref 70, .int (1 : Int32)] g u R ∧ ∃ g', R = (none, g', u) ∧ k_rc b s (i_pull b s p rb r) g g' := by
  refine q_bs (mm := m_159) rfl (Nat.le_of_ble_eq_true rfl) rfl ?_
  refine q_step 15 86 [(0, .ref 70), (1, .int (1 : Int32)), (2, .int (0 : Int32))] [.int (9 : Int32), .int (0 : Int32), .ref 70, .int (21 : Int32), .ref 73] g u (fun big n0 => sg_rl_4 big n0 g u) ?_
  by_cases hc0 : t_er b s p (0 : Int32) (9 : Int32) = 0
  · obtain ⟨g1, q1, f1, l1⟩ := r_numk (g := g) u hr hc0
    refine q_call (M2 := 160) (rest := [.int (21 : Int32), .ref 73]) (q1) (fun _ _ => rfl) ?_
    refine q_step 14 86 [(0, .ref 70), (1, .int (1 : Int32)), (2, .int (1 : Int32))] [.int (9 : Int32), .int (0 : Int32), .ref 70, .int (22 : Int32), .ref 73] (q_up g1 73 21 (t_va b s p)) u (fun big n0 => sg_rl_5 big n0 g1 u (t_va b s p)) ?_
    by_cases hc1 : t_er b s (t_pl b s p) (0 : Int32) (9 : Int32) = 0
    · obtain ⟨g2, q2, f2, l2⟩ := r_numk (g := (q_up g1 73 21 (t_va b s p))) u (l1.up (by omega)) hc1
      refine q_call (M2 := 160) (rest := [.int (22 : Int32), .ref 73]) (q2) (fun _ _ => rfl) ?_
      refine q_step 14 86 [(0, .ref 70), (1, .int (1 : Int32)), (2, .int (2 : Int32))] [.int (9 : Int32), .int (0 : Int32), .ref 70, .int (23 : Int32), .ref 73] (q_up g2 73 22 (t_va b s (t_pl b s p))) u (fun big n0 => sg_rl_6 big n0 g2 u (t_va b s (t_pl b s p))) ?_
      by_cases hc2 : t_er b s (t_pl b s (t_pl b s p)) (0 : Int32) (9 : Int32) = 0
      · obtain ⟨g3, q3, f3, l3⟩ := r_numk (g := (q_up g2 73 22 (t_va b s (t_pl b s p)))) u (l2.up (by omega)) hc2
        refine q_call (M2 := 160) (rest := [.int (23 : Int32), .ref 73]) (q3) (fun _ _ => rfl) ?_
        refine q_step 14 86 [(0, .ref 70), (1, .int (1 : Int32)), (2, .int (3 : Int32))] [.int (9 : Int32), .int (0 : Int32), .ref 70, .int (24 : Int32), .ref 73] (q_up g3 73 23 (t_va b s (t_pl b s (t_pl b s p)))) u (fun big n0 => sg_rl_7 big n0 g3 u (t_va b s (t_pl b s (t_pl b s p)))) ?_
        by_cases hc3 : t_er b s (t_pl b s (t_pl b s (t_pl b s p))) (0 : Int32) (9 : Int32) = 0
        · obtain ⟨g4, q4, f4, l4⟩ := r_numk (g := (q_up g3 73 23 (t_va b s (t_pl b s (t_pl b s p))))) u (l3.up (by omega)) hc3
          refine q_call (M2 := 160) (rest := [.int (24 : Int32), .ref 73]) (q4) (fun _ _ => rfl) ?_
          refine q_ret 8 (none, (q_up g4 73 24 (t_va b s (t_pl b s (t_pl b s (t_pl b s p))))), u) (fun _ _ => rfl) ?_
          unfold i_pull
          rw [o_num, if_pos hc0]
          rw [o_num, if_pos hc1]
          rw [o_num, if_pos hc2]
          rw [o_num, if_pos hc3]
          exact ⟨_, rfl, k_rc_ok (((((((((k_fR_rfl g).trans f1.R).up (by omega)).trans f2.R).up (by omega)).trans f3.R).up (by omega)).trans f4.R).up (by omega)) (l4.up (by omega))⟩
        · obtain ⟨g4, q4, f4, x4, y4⟩ := r_nume (g := (q_up g3 73 23 (t_va b s (t_pl b s (t_pl b s p))))) u (l3.up (by omega)) hc3
          refine q_call (M2 := 160) (rest := [.int (24 : Int32), .ref 73]) (q4) (fun _ _ => rfl) ?_
          refine q_ret 8 (none, (q_up g4 73 24 (0 : Int32)), u) (fun _ _ => rfl) ?_
          unfold i_pull
          rw [o_num, if_pos hc0]
          rw [o_num, if_pos hc1]
          rw [o_num, if_pos hc2]
          rw [o_num, if_neg hc3]
          exact ⟨_, rfl, k_rc_bad (((((((((k_fR_rfl g).trans f1.R).up (by omega)).trans f2.R).up (by omega)).trans f3.R).up (by omega)).trans f4.R).up (by omega)) (t_er_pos hc3) x4 y4⟩
      · obtain ⟨g3, q3, f3, x3, y3⟩ := r_nume (g := (q_up g2 73 22 (t_va b s (t_pl b s p)))) u (l2.up (by omega)) hc2
        refine q_call (M2 := 160) (rest := [.int (23 : Int32), .ref 73]) (q3) (fun _ _ => rfl) ?_
        refine q_step 14 86 [(0, .ref 70), (1, .int (1 : Int32)), (2, .int (3 : Int32))] [.int (9 : Int32), .int (0 : Int32), .ref 70, .int (24 : Int32), .ref 73] (q_up g3 73 23 (0 : Int32)) u (fun big n0 => sg_rl_8 big n0 g3 u) ?_
        refine q_call (M2 := 160) (rest := [.int (24 : Int32), .ref 73]) (r_numf (0 : Int32) (9 : Int32) _ _ (show 0 < (g3 70 18) from (by rw [x3]; exact t_er_pos hc2))) (fun _ _ => rfl) ?_
        refine q_ret 8 (none, (q_up (q_up g3 73 23 (0 : Int32)) 73 24 (0 : Int32)), u) (fun _ _ => rfl) ?_
        unfold i_pull
        rw [o_num, if_pos hc0]
        rw [o_num, if_pos hc1]
        rw [o_num, if_neg hc2]
        exact ⟨_, rfl, k_rc_bad ((((((((k_fR_rfl g).trans f1.R).up (by omega)).trans f2.R).up (by omega)).trans f3.R).up (by omega)).up (by omega)) (t_er_pos hc2) x3 y3⟩
    · obtain ⟨g2, q2, f2, x2, y2⟩ := r_nume (g := (q_up g1 73 21 (t_va b s p))) u (l1.up (by omega)) hc1
      refine q_call (M2 := 160) (rest := [.int (22 : Int32), .ref 73]) (q2) (fun _ _ => rfl) ?_
      refine q_step 14 86 [(0, .ref 70), (1, .int (1 : Int32)), (2, .int (2 : Int32))] [.int (9 : Int32), .int (0 : Int32), .ref 70, .int (23 : Int32), .ref 73] (q_up g2 73 22 (0 : Int32)) u (fun big n0 => sg_rl_9 big n0 g2 u) ?_
      refine q_call (M2 := 160) (rest := [.int (23 : Int32), .ref 73]) (r_numf (0 : Int32) (9 : Int32) _ _ (show 0 < (g2 70 18) from (by rw [x2]; exact t_er_pos hc1))) (fun _ _ => rfl) ?_
      refine q_step 14 86 [(0, .ref 70), (1, .int (1 : Int32)), (2, .int (3 : Int32))] [.int (9 : Int32), .int (0 : Int32), .ref 70, .int (24 : Int32), .ref 73] (q_up (q_up g2 73 22 (0 : Int32)) 73 23 (0 : Int32)) u (fun big n0 => sg_rl_8 big n0 (q_up g2 73 22 (0 : Int32)) u) ?_
      refine q_call (M2 := 160) (rest := [.int (24 : Int32), .ref 73]) (r_numf (0 : Int32) (9 : Int32) _ _ (show 0 < (g2 70 18) from (by rw [x2]; exact t_er_pos hc1))) (fun _ _ => rfl) ?_
      refine q_ret 8 (none, (q_up (q_up (q_up g2 73 22 (0 : Int32)) 73 23 (0 : Int32)) 73 24 (0 : Int32)), u) (fun _ _ => rfl) ?_
      unfold i_pull
      rw [o_num, if_pos hc0]
      rw [o_num, if_neg hc1]
      exact ⟨_, rfl, k_rc_bad (((((((k_fR_rfl g).trans f1.R).up (by omega)).trans f2.R).up (by omega)).up (by omega)).up (by omega)) (t_er_pos hc1) x2 y2⟩
  · obtain ⟨g1, q1, f1, x1, y1⟩ := r_nume (g := g) u hr hc0
    refine q_call (M2 := 160) (rest := [.int (21 : Int32), .ref 73]) (q1) (fun _ _ => rfl) ?_
    refine q_step 14 86 [(0, .ref 70), (1, .int (1 : Int32)), (2, .int (1 : Int32))] [.int (9 : Int32), .int (0 : Int32), .ref 70, .int (22 : Int32), .ref 73] (q_up g1 73 21 (0 : Int32)) u (fun big n0 => sg_rl_10 big n0 g1 u) ?_
    refine q_call (M2 := 160) (rest := [.int (22 : Int32), .ref 73]) (r_numf (0 : Int32) (9 : Int32) _ _ (show 0 < (g1 70 18) from (by rw [x1]; exact t_er_pos hc0))) (fun _ _ => rfl) ?_
    refine q_step 14 86 [(0, .ref 70), (1, .int (1 : Int32)), (2, .int (2 : Int32))] [.int (9 : Int32), .int (0 : Int32), .ref 70, .int (23 : Int32), .ref 73] (q_up (q_up g1 73 21 (0 : Int32)) 73 22 (0 : Int32)) u (fun big n0 => sg_rl_9 big n0 (q_up g1 73 21 (0 : Int32)) u) ?_
    refine q_call (M2 := 160) (rest := [.int (23 : Int32), .ref 73]) (r_numf (0 : Int32) (9 : Int32) _ _ (show 0 < (g1 70 18) from (by rw [x1]; exact t_er_pos hc0))) (fun _ _ => rfl) ?_
    refine q_step 14 86 [(0, .ref 70), (1, .int (1 : Int32)), (2, .int (3 : Int32))] [.int (9 : Int32), .int (0 : Int32), .ref 70, .int (24 : Int32), .ref 73] (q_up (q_up (q_up g1 73 21 (0 : Int32)) 73 22 (0 : Int32)) 73 23 (0 : Int32)) u (fun big n0 => sg_rl_8 big n0 (q_up (q_up g1 73 21 (0 : Int32)) 73 22 (0 : Int32)) u) ?_
    refine q_call (M2 := 160) (rest := [.int (24 : Int32), .ref 73]) (r_numf (0 : Int32) (9 : Int32) _ _ (show 0 < (g1 70 18) from (by rw [x1]; exact t_er_pos hc0))) (fun _ _ => rfl) ?_
    refine q_ret 8 (none, (q_up (q_up (q_up (q_up g1 73 21 (0 : Int32)) 73 22 (0 : Int32)) 73 23 (0 : Int32)) 73 24 (0 : Int32)), u) (fun _ _ => rfl) ?_
    unfold i_pull
    rw [o_num, if_neg hc0]
    exact ⟨_, rfl, k_rc_bad ((((((k_fR_rfl g).trans f1.R).up (by omega)).up (by omega)).up (by omega)).up (by omega)) (t_er_pos hc0) x1 y1⟩
theorem r_lpress {b : Nat → Int32} {s p : Nat} {r : qM} (g : qM) (u : qW) (hr : k_rs b s p r g) (rb : qM) : ∃ R, q_BS 159 [.ref 70, .int (2 : Int32)] g u R ∧ ∃ g', R = (none, g', u) ∧ k_rc b s (i_press b s p rb r) g g' := by
  refine q_bs (mm := m_159) rfl (Nat.le_of_ble_eq_true rfl) rfl ?_
  refine q_step 8 108 [(0, .ref 70), (1, .int (2 : Int32))] [.int (4 : Int32), .int (0 : Int32), .ref 70, .int (25 : Int32), .ref 73] g u (fun big n0 => sg_rl_11 big n0 g u) ?_
  by_cases hc0 : t_er b s p (0 : Int32) (4 : Int32) = 0
  · obtain ⟨g1, q1, f1, l1⟩ := r_numk (g := g) u hr hc0
    refine q_call (M2 := 160) (rest := [.int (25 : Int32), .ref 73]) (q1) (fun _ _ => rfl) ?_
    refine q_ret 3 (none, (q_up g1 73 25 (t_va b s p)), u) (fun _ _ => rfl) ?_
    unfold i_press
    rw [o_num, if_pos hc0]
    exact ⟨_, rfl, k_rc_ok (((k_fR_rfl g).trans f1.R).up (by omega)) (l1.up (by omega))⟩
  · obtain ⟨g1, q1, f1, x1, y1⟩ := r_nume (g := g) u hr hc0
    refine q_call (M2 := 160) (rest := [.int (25 : Int32), .ref 73]) (q1) (fun _ _ => rfl) ?_
    refine q_ret 3 (none, (q_up g1 73 25 (0 : Int32)), u) (fun _ _ => rfl) ?_
    unfold i_press
    rw [o_num, if_neg hc0]
    exact ⟨_, rfl, k_rc_bad (((k_fR_rfl g).trans f1.R).up (by omega)) (t_er_pos hc0) x1 y1⟩
theorem rf_l {r : qM} (g : qM) (u : qW) (hd : k_dh r g) (hn : k_dn r) (c : Int32) {Q : Option Value × qM × qW → Prop} (hQ : q_EV m_162 73 [(0, .ref 70), (1, .int c), (2, .int (if s_bit (r 73 20) c = 0 then (if t_hit (r 73) c (t_n r) = 0 then (1 : Int32) else 0) else 0)), (3, .int (Int32.ofNat (t_n r)))] [] g u Q) : ∀ k i, i + k = t_n r → q_EV m_162 37 [(0, .ref 70), (1, .int c), (2, .int (if s_bit (r 73 20) c = 0 then (if t_hit (r 73) c i = 0 then (1 : Int32) else 0) else 0)), (3, .int (Int32.ofNat i))] [] g u Q := by
  have h5 := hn.2.1
  have h8 : g 70 8 = Int32.ofNat (t_n r) := (hd.2 8 (by omega) (by omega)).trans hn.1
  intro k
  induction k with
  | zero =>
    intro i hi
    have e : i = t_n r := by omega
    subst e
    refine q_step 3 42 [(0, .ref 70), (1, .int c), (2, .int (if s_bit (r 73 20) c = 0 then (if t_hit (r 73) c (t_n r) = 0 then (1 : Int32) else 0) else 0)), (3, .int (Int32.ofNat (t_n r)))] [.int (g 70 8), .int (Int32.ofNat (t_n r))] g u (fun big n0 => sg_rl_12 big n0 g u c (if s_bit (r 73 20) c = 0 then (if t_hit (r 73) c (t_n r) = 0 then (1 : Int32) else 0) else 0) (Int32.ofNat (t_n r))) ?_
    refine q_ic_ge rfl (fun (hc0 : (g 70 8) ≤ (Int32.ofNat (t_n r))) => ?_) (fun hc0 => absurd (show (g 70 8) ≤ (Int32.ofNat (t_n r)) from by rw [h8]; exact (q_le (by omega) (by omega)).mpr (by omega)) hc0)
    exact hQ
  | succ k ih =>
    intro i hi
    have e7 : g 73 i = r 73 i := hd.1 i (by omega)
    refine q_step 3 42 [(0, .ref 70), (1, .int c), (2, .int (if s_bit (r 73 20) c = 0 then (if t_hit (r 73) c i = 0 then (1 : Int32) else 0) else 0)), (3, .int (Int32.ofNat i))] [.int (g 70 8), .int (Int32.ofNat i)] g u (fun big n0 => sg_rl_12 big n0 g u c (if s_bit (r 73 20) c = 0 then (if t_hit (r 73) c i = 0 then (1 : Int32) else 0) else 0) (Int32.ofNat i)) ?_
    refine q_ic_ge rfl (fun hc0 => absurd (show (g 70 8) ≤ (Int32.ofNat i) from hc0) (fun z => by rw [h8, q_le (by omega) (by omega)] at z; omega)) (fun (hc0 : ¬ ((g 70 8) ≤ (Int32.ofNat i))) => ?_)
    refine q_step 1 46 [(0, .ref 70), (1, .int c), (2, .int (if s_bit (r 73 20) c = 0 then (if t_hit (r 73) c i = 0 then (1 : Int32) else 0) else 0)), (3, .int (Int32.ofNat i))] [.int (if s_bit (r 73 20) c = 0 then (if t_hit (r 73) c i = 0 then (1 : Int32) else 0) else 0)] g u (fun big n0 => sg_rl_13 big n0 g u c (if s_bit (r 73 20) c = 0 then (if t_hit (r 73) c i = 0 then (1 : Int32) else 0) else 0) (Int32.ofNat i)) ?_
    refine q_if_eq rfl (fun (hc1 : (if s_bit (r 73 20) c = 0 then (if t_hit (r 73) c i = 0 then (1 : Int32) else 0) else 0) = 0) => ?_) (fun (hc1 : ¬ ((if s_bit (r 73 20) c = 0 then (if t_hit (r 73) c i = 0 then (1 : Int32) else 0) else 0) = 0)) => ?_)
    · refine q_step 4 37 [(0, .ref 70), (1, .int c), (2, .int (0 : Int32)), (3, .int ((Int32.ofNat i) + (1 : Int32)))] [] g u (fun big n0 => sg_rl_14 big n0 g u c (if s_bit (r 73 20) c = 0 then (if t_hit (r 73) c i = 0 then (1 : Int32) else 0) else 0) (Int32.ofNat i)) ?_
      rw [q_succ]
      have z := ih (i + 1) (by omega)
      rw [t_frF, if_pos hc1] at z
      exact z
    · refine q_step 5 56 [(0, .ref 70), (1, .int c), (2, .int (if s_bit (r 73 20) c = 0 then (if t_hit (r 73) c i = 0 then (1 : Int32) else 0) else 0)), (3, .int (Int32.ofNat i))] [.int ((0 : Int32) + (Int32.ofNat i)), .ref 73] g u (fun big n0 => sg_rl_15 big n0 g u c (if s_bit (r 73 20) c = 0 then (if t_hit (r 73) c i = 0 then (1 : Int32) else 0) else 0) (Int32.ofNat i)) ?_
      refine q_iald (j := i) (by rw [Int32.zero_add]; exact q_ixn (by omega) (by omega)) rfl rfl ?_
      refine q_step 1 58 [(0, .ref 70), (1, .int c), (2, .int (if s_bit (r 73 20) c = 0 then (if t_hit (r 73) c i = 0 then (1 : Int32) else 0) else 0)), (3, .int (Int32.ofNat i))] [.int c, .int (g 73 i)] g u (fun big n0 => sg_rl_16 big n0 g u c (if s_bit (r 73 20) c = 0 then (if t_hit (r 73) c i = 0 then (1 : Int32) else 0) else 0) (Int32.ofNat i) (g 73 i)) ?_
      refine q_ic_eq rfl (fun (hc2 : (g 73 i) = c) => ?_) (fun (hc2 : ¬ ((g 73 i) = c)) => ?_)
      · refine q_step 4 37 [(0, .ref 70), (1, .int c), (2, .int (0 : Int32)), (3, .int ((Int32.ofNat i) + (1 : Int32)))] [] g u (fun big n0 => sg_rl_14 big n0 g u c (if s_bit (r 73 20) c = 0 then (if t_hit (r 73) c i = 0 then (1 : Int32) else 0) else 0) (Int32.ofNat i)) ?_
        rw [q_succ]
        have z := ih (i + 1) (by omega)
        rw [t_frF, (if_neg hc1).trans (if_pos (e7.symm.trans hc2))] at z
        exact z
      · refine q_step 5 37 [(0, .ref 70), (1, .int c), (2, .int (1 : Int32)), (3, .int ((Int32.ofNat i) + (1 : Int32)))] [] g u (fun big n0 => sg_rl_17 big n0 g u c (if s_bit (r 73 20) c = 0 then (if t_hit (r 73) c i = 0 then (1 : Int32) else 0) else 0) (Int32.ofNat i)) ?_
        rw [q_succ]
        have z := ih (i + 1) (by omega)
        rw [t_frF, (if_neg hc1).trans (if_neg (fun z => hc2 (e7.trans z)))] at z
        exact z
theorem r_free {b : Nat → Int32} {s p : Nat} {r : qM} (g : qM) (u : qW) (hr : k_rs b s p r g) (hn : k_dn r) : ∃ R, q_BS 162 [.ref 70] g u R ∧ ∃ c g', R = (some (.int c), g', u) ∧ k_fR g g' ∧ ((t_er b s p 0 24 = 0 ∧ s_bit (r 73 20) (t_va b s p) = 0 ∧ t_hit (r 73) (t_va b s p) (t_n r) = 0 ∧ c = (t_va b s p) ∧ k_rs b s (t_pl b s p) (q_up r 70 10 (t_max (r 70 10) (t_va b s p))) g') ∨ (∃ e a, 0 < e ∧ g' 70 18 = e ∧ g' 70 19 = Int32.ofNat a ∧ ∀ k, o_free b s p r k = o_bad e a r)) := by
  refine q_bs (mm := m_162) rfl (Nat.le_of_ble_eq_true rfl) rfl ?_
  have h5 := hn.2.1
  refine q_step 3 4 [(0, .ref 70)] [.int (24 : Int32), .int (0 : Int32), .ref 70] g u (fun big n0 => sg_rl_18 big n0 g u) ?_
  by_cases hc0 : t_er b s p (0 : Int32) (24 : Int32) = 0
  · obtain ⟨q1, z18, z14, z15⟩ := r_lookk u hr hc0
    refine q_call (M2 := 161) (rest := []) (q1) (fun _ _ => rfl) ?_
    refine q_step 3 12 [(0, .ref 70), (1, .int (t_va b s p))] [.int (g 70 18)] g u (fun big n0 => sg_rl_19 big n0 g u (t_va b s p)) ?_
    refine q_if_ne rfl (fun (hc1 : (g 70 18) = 0) => ?_) (fun hc1 => absurd (show (g 70 18) = 0 from z18) hc1)
    refine q_step 8 26 [(0, .ref 70), (1, .int (t_va b s p))] [.int (((g 73 20) >>> ((t_va b s p) &&& 31)) &&& (1 : Int32))] g u (fun big n0 => sg_rl_20 big n0 g u (t_va b s p)) ?_
    refine q_if_ne rfl (fun (hc2 : (((g 73 20) >>> ((t_va b s p) &&& 31)) &&& (1 : Int32)) = 0) => ?_) (fun (hc2 : ¬ ((((g 73 20) >>> ((t_va b s p) &&& 31)) &&& (1 : Int32)) = 0)) => ?_)
    · refine q_step 5 37 [(0, .ref 70), (1, .int (t_va b s p)), (2, .int (1 : Int32)), (3, .int (0 : Int32))] [] g u (fun big n0 => sg_rl_21 big n0 g u (t_va b s p)) ?_
      have e20 : g 73 20 = r 73 20 := hr.2.2.2.1 20 (by omega)
      have hb0 : s_bit (r 73 20) (t_va b s p) = 0 := by unfold s_bit; rw [← e20]; exact hc2
      have ef : (if s_bit (r 73 20) (t_va b s p) = 0 then (if t_hit (r 73) (t_va b s p) 0 = 0 then (1 : Int32) else 0) else 0) = (1 : Int32) := if_pos hb0
      refine (show ∀ x : Int32, x = (1 : Int32) → q_EV m_162 37 [(0, .ref 70), (1, .int (t_va b s p)), (2, .int x), (3, .int (0 : Int32))] [] g u _ from ?_) _ rfl
      intro x hx
      rw [hx.trans ef.symm]
      refine rf_l g u hr.2.2.2 hn (t_va b s p) ?_ (t_n r) 0 (by omega)
      rw [if_pos hb0]
      by_cases hh0 : t_hit (r 73) (t_va b s p) (t_n r) = 0
      · rw [if_pos hh0]
        refine q_step 3 76 [(0, .ref 70), (1, .int (t_va b s p)), (2, .int (1 : Int32)), (3, .int (Int32.ofNat (t_n r)))] [.int (4 : Int32), .int (1 : Int32), .ref 70] g u (fun big n0 => sg_rl_22 big n0 g u (t_va b s p) (Int32.ofNat (t_n r))) ?_
        refine q_call (M2 := 154) (rest := []) (b_needs1 _ _ _) (fun _ _ => rfl) ?_
        refine q_step 2 83 [(0, .ref 70), (1, .int (t_va b s p)), (2, .int (1 : Int32)), (3, .int (Int32.ofNat (t_n r)))] [.int (g 70 18)] g u (fun big n0 => sg_rl_23 big n0 g u (t_va b s p) (Int32.ofNat (t_n r))) ?_
        refine q_if_ne rfl (fun (hc4 : (g 70 18) = 0) => ?_) (fun hc4 => absurd (show (g 70 18) = 0 from z18) hc4)
        refine q_step 4 92 [(0, .ref 70), (1, .int (t_va b s p)), (2, .int (1 : Int32)), (3, .int (Int32.ofNat (t_n r)))] [.int (g 70 10), .int (t_va b s p), .ref 70] g u (fun big n0 => sg_rl_24 big n0 g u (t_va b s p) (Int32.ofNat (t_n r))) ?_
        refine q_ic_le rfl (fun (hc5 : (t_va b s p) ≤ (g 70 10)) => ?_) (fun (hc5 : ¬ ((t_va b s p) ≤ (g 70 10))) => ?_)
        · refine q_step 4 107 [(0, .ref 70), (1, .int (t_va b s p)), (2, .int (1 : Int32)), (3, .int (Int32.ofNat (t_n r)))] [.ref 70] (q_up g 70 10 (g 70 10)) u (fun big n0 => sg_rl_25 big n0 g u (t_va b s p) (Int32.ofNat (t_n r))) ?_
          obtain ⟨g2, q2, f2, l2⟩ := r_nextb (b := b) (p := t_pl b s p) (q_up g 70 10 (g 70 10)) u (hr.1.R ((k_fR_rfl g).up (by omega))) z14 (t_pl_b hr.2.1).2.1 z18
          have em : (g 70 10) = t_max (r 70 10) (t_va b s p) := by
            have e10 : g 70 10 = r 70 10 := hr.2.2.2.2 10 (by omega) (by omega)
            unfold t_max
            rw [← e10, if_pos hc5]
          refine q_call (M2 := 152) (rest := []) (q2) (fun _ _ => rfl) ?_
          refine q_ret 2 (some (.int (t_va b s p)), g2, u) (fun _ _ => rfl) ?_
          exact ⟨_, _, rfl, (((k_fR_rfl g).up (by omega)).trans f2.R), Or.inl ⟨hc0, hb0, hh0, rfl, (by rw [← em]; exact ⟨(hr.1.R ((k_fR_rfl g).up (by omega))).fr f2, (t_pl_b hr.2.1).2.1, l2, hr.2.2.2.up.f70 f2⟩)⟩⟩
        · refine q_step 4 107 [(0, .ref 70), (1, .int (t_va b s p)), (2, .int (1 : Int32)), (3, .int (Int32.ofNat (t_n r)))] [.ref 70] (q_up g 70 10 (t_va b s p)) u (fun big n0 => sg_rl_26 big n0 g u (t_va b s p) (Int32.ofNat (t_n r))) ?_
          obtain ⟨g2, q2, f2, l2⟩ := r_nextb (b := b) (p := t_pl b s p) (q_up g 70 10 (t_va b s p)) u (hr.1.R ((k_fR_rfl g).up (by omega))) z14 (t_pl_b hr.2.1).2.1 z18
          have em : (t_va b s p) = t_max (r 70 10) (t_va b s p) := by
            have e10 : g 70 10 = r 70 10 := hr.2.2.2.2 10 (by omega) (by omega)
            unfold t_max
            rw [← e10, if_neg hc5]
          refine q_call (M2 := 152) (rest := []) (q2) (fun _ _ => rfl) ?_
          refine q_ret 2 (some (.int (t_va b s p)), g2, u) (fun _ _ => rfl) ?_
          exact ⟨_, _, rfl, (((k_fR_rfl g).up (by omega)).trans f2.R), Or.inl ⟨hc0, hb0, hh0, rfl, (by rw [← em]; exact ⟨(hr.1.R ((k_fR_rfl g).up (by omega))).fr f2, (t_pl_b hr.2.1).2.1, l2, hr.2.2.2.up.f70 f2⟩)⟩⟩
      · rw [if_neg hh0]
        have hfr0 : ∀ k : Int32 → Nat → qM → tO, (if s_bit (r 73 20) (t_va b s p) = 0 then (if t_hit (r 73) (t_va b s p) (t_n r) = 0 then k (t_va b s p) (t_pl b s p) (q_up r 70 10 (t_max (r 70 10) (t_va b s p))) else o_bad 4 (t_fi b s p) r) else o_bad 4 (t_fi b s p) r) = o_bad 4 (t_fi b s p) r := fun k => by rw [if_pos hb0, if_neg hh0]
        refine q_step 3 76 [(0, .ref 70), (1, .int (t_va b s p)), (2, .int (0 : Int32)), (3, .int (Int32.ofNat (t_n r)))] [.int (4 : Int32), .int (0 : Int32), .ref 70] g u (fun big n0 => sg_rl_27 big n0 g u (t_va b s p) (Int32.ofNat (t_n r))) ?_
        refine q_call (M2 := 154) (rest := []) (b_needs0 _ _ _ z18) (fun _ _ => rfl) ?_
        refine q_step 2 83 [(0, .ref 70), (1, .int (t_va b s p)), (2, .int (0 : Int32)), (3, .int (Int32.ofNat (t_n r)))] [.int (4 : Int32)] (q_up (q_up g 70 18 (4 : Int32)) 70 19 (g 70 15)) u (fun big n0 => sg_rl_28 big n0 (q_up (q_up g 70 18 (4 : Int32)) 70 19 (g 70 15)) u (t_va b s p) (Int32.ofNat (t_n r))) ?_
        refine q_if_ne rfl (fun hc4 => absurd (show (4 : Int32) = 0 from hc4) (by decide)) (fun (hc4 : ¬ ((4 : Int32) = 0)) => ?_)
        refine q_step 1 107 [(0, .ref 70), (1, .int (t_va b s p)), (2, .int (0 : Int32)), (3, .int (Int32.ofNat (t_n r)))] [.ref 70] (q_up (q_up g 70 18 (4 : Int32)) 70 19 (g 70 15)) u (fun big n0 => sg_rl_29 big n0 (q_up (q_up g 70 18 (4 : Int32)) 70 19 (g 70 15)) u (t_va b s p) (Int32.ofNat (t_n r))) ?_
        refine q_call (M2 := 152) (rest := []) (r_nextf _ _ (show (0 : Int32) < 4 by decide)) (fun _ _ => rfl) ?_
        refine q_ret 2 (some (.int (t_va b s p)), (q_up (q_up g 70 18 (4 : Int32)) 70 19 (g 70 15)), u) (fun _ _ => rfl) ?_
        refine ⟨_, _, rfl, ((k_fR_rfl g).up (by omega)).up (by omega), Or.inr ⟨4, t_fi b s p, by decide, rfl, z15, fun k => ?_⟩⟩
        unfold o_free
        rw [o_num, if_pos hc0]
        exact hfr0 k
    · refine q_step 4 37 [(0, .ref 70), (1, .int (t_va b s p)), (2, .int (0 : Int32)), (3, .int (0 : Int32))] [] g u (fun big n0 => sg_rl_30 big n0 g u (t_va b s p)) ?_
      have e20 : g 73 20 = r 73 20 := hr.2.2.2.1 20 (by omega)
      have hb0 : ¬ s_bit (r 73 20) (t_va b s p) = 0 := by unfold s_bit; rw [← e20]; exact hc2
      have ef : (if s_bit (r 73 20) (t_va b s p) = 0 then (if t_hit (r 73) (t_va b s p) 0 = 0 then (1 : Int32) else 0) else 0) = (0 : Int32) := if_neg hb0
      refine (show ∀ x : Int32, x = (0 : Int32) → q_EV m_162 37 [(0, .ref 70), (1, .int (t_va b s p)), (2, .int x), (3, .int (0 : Int32))] [] g u _ from ?_) _ rfl
      intro x hx
      rw [hx.trans ef.symm]
      refine rf_l g u hr.2.2.2 hn (t_va b s p) ?_ (t_n r) 0 (by omega)
      rw [if_neg hb0]
      have hfr0 : ∀ k : Int32 → Nat → qM → tO, (if s_bit (r 73 20) (t_va b s p) = 0 then (if t_hit (r 73) (t_va b s p) (t_n r) = 0 then k (t_va b s p) (t_pl b s p) (q_up r 70 10 (t_max (r 70 10) (t_va b s p))) else o_bad 4 (t_fi b s p) r) else o_bad 4 (t_fi b s p) r) = o_bad 4 (t_fi b s p) r := fun k => by rw [if_neg hb0]
      refine q_step 3 76 [(0, .ref 70), (1, .int (t_va b s p)), (2, .int (0 : Int32)), (3, .int (Int32.ofNat (t_n r)))] [.int (4 : Int32), .int (0 : Int32), .ref 70] g u (fun big n0 => sg_rl_27 big n0 g u (t_va b s p) (Int32.ofNat (t_n r))) ?_
      refine q_call (M2 := 154) (rest := []) (b_needs0 _ _ _ z18) (fun _ _ => rfl) ?_
      refine q_step 2 83 [(0, .ref 70), (1, .int (t_va b s p)), (2, .int (0 : Int32)), (3, .int (Int32.ofNat (t_n r)))] [.int (4 : Int32)] (q_up (q_up g 70 18 (4 : Int32)) 70 19 (g 70 15)) u (fun big n0 => sg_rl_28 big n0 (q_up (q_up g 70 18 (4 : Int32)) 70 19 (g 70 15)) u (t_va b s p) (Int32.ofNat (t_n r))) ?_
      refine q_if_ne rfl (fun hc4 => absurd (show (4 : Int32) = 0 from hc4) (by decide)) (fun (hc4 : ¬ ((4 : Int32) = 0)) => ?_)
      refine q_step 1 107 [(0, .ref 70), (1, .int (t_va b s p)), (2, .int (0 : Int32)), (3, .int (Int32.ofNat (t_n r)))] [.ref 70] (q_up (q_up g 70 18 (4 : Int32)) 70 19 (g 70 15)) u (fun big n0 => sg_rl_29 big n0 (q_up (q_up g 70 18 (4 : Int32)) 70 19 (g 70 15)) u (t_va b s p) (Int32.ofNat (t_n r))) ?_
      refine q_call (M2 := 152) (rest := []) (r_nextf _ _ (show (0 : Int32) < 4 by decide)) (fun _ _ => rfl) ?_
      refine q_ret 2 (some (.int (t_va b s p)), (q_up (q_up g 70 18 (4 : Int32)) 70 19 (g 70 15)), u) (fun _ _ => rfl) ?_
      refine ⟨_, _, rfl, ((k_fR_rfl g).up (by omega)).up (by omega), Or.inr ⟨4, t_fi b s p, by decide, rfl, z15, fun k => ?_⟩⟩
      unfold o_free
      rw [o_num, if_pos hc0]
      exact hfr0 k
  · obtain ⟨g1, q1, f1, x1, y1⟩ := r_looke u hr hc0
    have n1 : ¬ g1 70 18 = 0 := by rw [x1]; exact hc0
    refine q_call (M2 := 161) (rest := []) (q1) (fun _ _ => rfl) ?_
    refine q_step 3 12 [(0, .ref 70), (1, .int (0 : Int32))] [.int (g1 70 18)] g1 u (fun big n0 => sg_rl_31 big n0 g1 u) ?_
    refine q_if_ne rfl (fun hc1 => absurd (show (g1 70 18) = 0 from hc1) (n1)) (fun (hc1 : ¬ ((g1 70 18) = 0)) => ?_)
    refine q_step 2 83 [(0, .ref 70), (1, .int (0 : Int32))] [.int (g1 70 18)] g1 u (fun big n0 => sg_rl_32 big n0 g1 u) ?_
    refine q_if_ne rfl (fun hc2 => absurd (show (g1 70 18) = 0 from hc2) (n1)) (fun (hc2 : ¬ ((g1 70 18) = 0)) => ?_)
    refine q_step 1 107 [(0, .ref 70), (1, .int (0 : Int32))] [.ref 70] g1 u (fun big n0 => sg_rl_33 big n0 g1 u) ?_
    refine q_call (M2 := 152) (rest := []) (r_nextf g1 u (by rw [x1]; exact t_er_pos hc0)) (fun _ _ => rfl) ?_
    refine q_ret 2 (some (.int (0 : Int32)), g1, u) (fun _ _ => rfl) ?_
    refine ⟨_, _, rfl, f1.R, Or.inr ⟨_, _, t_er_pos hc0, x1, y1, fun k => ?_⟩⟩
    unfold o_free
    rw [o_num, if_neg hc0]
