section
/-! LINES of the text: what comes of one, for both. The outcome: its fault (0: none), the fault's place, the place behind, the draft (a ghost, kept as the reference keeps it: 73 and 70). -/
def tO : Type := Int32 × Nat × Nat × qM
def o_bad (e : Int32) (a : Nat) (r : qM) : tO := (e, a, 0, r)
def o_ok (p : Nat) (r : qM) : tO := (0, 0, p, r)
def o_num (b : Nat → Int32) (s p : Nat) (lo hi : Int32) (r : qM) (k : Int32 → Nat → tO) : tO := if t_er b s p lo hi = 0 then k (t_va b s p) (t_pl b s p) else o_bad (t_er b s p lo hi) (t_fi b s p) r
/-- line k is told already -/
def t_fl (k : Nat) (r : qM) : Int32 := (r 70 9 >>> (Int32.ofNat k &&& 31)) &&& 1
def r_fl (k : Nat) (r : qM) : qM := q_up r 70 9 (r 70 9 ||| ((1 : Int32) <<< (Int32.ofNat k &&& 31)))
def o_town (b : Nat → Int32) (s f p : Nat) (r : qM) : tO := if t_fl 0 r = 0 then o_num b s p 2 5 r (fun v p1 => o_num b s p1 2 5 r (fun w p2 => o_ok p2 (q_up (q_up (r_fl 0 r) 70 6 v) 70 7 w))) else o_bad 4 f r
def o_press (b : Nat → Int32) (s f p : Nat) (r : qM) : tO := if t_fl 2 r = 0 then o_num b s p 0 4 r (fun v p1 => o_ok p1 (q_up (r_fl 2 r) 73 25 v)) else o_bad 4 f r
def o_pull (b : Nat → Int32) (s f p : Nat) (r : qM) : tO := if t_fl 1 r = 0 then o_num b s p 0 9 r (fun v1 p1 => o_num b s p1 0 9 r (fun v2 p2 => o_num b s p2 0 9 r (fun v3 p3 => o_num b s p3 0 9 r (fun v4 p4 => o_ok p4 (q_up (q_up (q_up (q_up (r_fl 1 r) 73 21 v1) 73 22 v2) 73 23 v3) 73 24 v4))))) else o_bad 4 f r
/-- someone of the first n is in c -/
def t_hit (f : Nat → Int32) (c : Int32) : Nat → Int32
  | 0 => 0
  | n + 1 => if f n = c then 1 else t_hit f c n
theorem t_hit_0 {f : Nat → Int32} {c : Int32} : ∀ n, t_hit f c n = 0 ↔ ∀ q, q < n → ¬ f q = c
  | 0 => ⟨fun _ _ hq => absurd hq (by omega), fun _ => rfl⟩
  | n + 1 => by
    rw [t_hit]
    by_cases e : f n = c
    · rw [if_pos e]
      exact ⟨fun z => absurd z (by decide), fun z => absurd e (z n (by omega))⟩
    · rw [if_neg e, t_hit_0 n]
      refine ⟨fun z q hq => ?_, fun z q hq => z q (by omega)⟩
      by_cases h : q = n
      · rw [h]; exact e
      · exact z q (by omega)
def t_max (x y : Int32) : Int32 := if y ≤ x then x else y
def t_n (r : qM) : Nat := (r 70 8).toInt.toNat
def o_free (b : Nat → Int32) (s p : Nat) (r : qM) (k : Int32 → Nat → qM → tO) : tO := o_num b s p 0 24 r (fun c p1 => if s_bit (r 73 20) c = 0 then (if t_hit (r 73) c (t_n r) = 0 then k c p1 (q_up r 70 10 (t_max (r 70 10) c)) else o_bad 4 (t_fi b s p) r) else o_bad 4 (t_fi b s p) r)
def o_wall (b : Nat → Int32) (s p : Nat) (r : qM) : tO := o_free b s p r (fun c p1 r1 => o_ok p1 (q_up r1 73 20 (r1 73 20 ||| ((1 : Int32) <<< (c &&& 31)))))
def o_one (b : Nat → Int32) (s f p : Nat) (r : qM) (st : Int32) : tO := if r 70 8 < 5 then o_free b s p r (fun c p1 r1 => o_num b s p1 0 3 r1 (fun m p2 => o_ok p2 (q_up (q_up (q_up (q_up r1 73 (t_n r) c) 73 (5 + t_n r) m) 73 (10 + t_n r) st) 70 8 (r1 70 8 + 1)))) else o_bad 5 f r
def o_goal (b : Nat → Int32) (s p : Nat) (r : qM) : tO := o_num b s p 0 4 r (fun v p1 => if r 73 (15 + v.toInt.toNat) = Int32.ofInt (-4) then o_num b s p1 0 24 r (fun c p2 => o_ok p2 (q_up (q_up (q_up r 70 11 (t_max (r 70 11) v)) 70 10 (t_max (r 70 10) c)) 73 (15 + v.toInt.toNat) c)) else o_bad 4 (t_fi b s p) r)
/-- what the class's telling writes -/
def k_ft (g g' : qM) : Prop := (∀ a, a < 9 ∨ a = 10 ∨ 17 < a → g' a = g a) ∧ (g' 9 1 = g 9 1 ∧ g' 11 1 = g 11 1) ∧ (k_pl g → k_pl g')
theorem k_ft_rfl (g : qM) : k_ft g g := ⟨fun _ _ => rfl, ⟨rfl, rfl⟩, id⟩
theorem k_ft.trans {a b c : qM} (h1 : k_ft a b) (h2 : k_ft b c) : k_ft a c := ⟨fun x h => (h2.1 x h).trans (h1.1 x h), ⟨h2.2.1.1.trans h1.2.1.1, h2.2.1.2.trans h1.2.1.2⟩, fun z => h2.2.2 (h1.2.2 z)⟩
theorem k_f9.ft {g g' : qM} (h : k_f9 g g') : k_ft g g' := ⟨fun a ha => h.1 a (by omega) (by omega), ⟨h.2.1 1 (by omega), h.2.2.1 1 (by omega) (by omega)⟩, h.2.2.2⟩
theorem k_ft.up {g g' : qM} (h : k_ft g g') {a j : Nat} {x : Int32} (ha : (11 ≤ a ∧ a ≤ 17) ∧ ¬ (a = 11 ∧ j = 1)) : k_ft g (q_up g' a j x) := by
  refine ⟨fun b hb => ?_, ?_, fun z => (h.2.2 z).up (by omega)⟩
  · rw [q_up_ne (by omega)]
    exact h.1 b hb
  · refine ⟨?_, ?_⟩
    · rw [q_up_ne (by omega)]
      exact h.2.1.1
    · rw [q_up_eq, if_neg (by omega)]
      exact h.2.1.2
/-- the class's town told is the draft r -/
def k_dc (r g : qM) : Prop := (g 12 0 = r 70 6 ∧ g 12 1 = r 70 7 ∧ g 12 2 = r 73 20 ∧ g 12 3 = r 70 8 ∧ g 12 4 = r 73 25 ∧ g 12 5 = 0 ∧ g 12 6 = 0) ∧ (∀ d, 1 ≤ d → d ≤ 4 → g 17 d = r 73 (20 + d)) ∧ (∀ p, p < t_n r → g 13 p = r 73 p ∧ g 14 p = r 73 (5 + p) ∧ g 15 p = r 73 (10 + p)) ∧ (∀ p, p < 5 → g 16 p = r 73 (15 + p)) ∧ g 11 5 = t_fl 0 r ∧ g 11 6 = t_fl 1 r ∧ g 11 7 = t_fl 2 r
/-- the draft's numbers are in their bounds so far -/
def k_dn (r : qM) : Prop := r 70 8 = Int32.ofNat (t_n r) ∧ t_n r ≤ 5 ∧ ∃ m, m < 8 ∧ r 70 9 = Int32.ofNat m
theorem k_dc.f9 {r g g' : qM} (h : k_dc r g) (hf : k_f9 g g') : k_dc r g' := by
  have e : ∀ a, a ≠ 9 → a ≠ 11 → g' a = g a := hf.1
  unfold k_dc
  rw [e 12 (by decide) (by decide), e 13 (by decide) (by decide), e 14 (by decide) (by decide), e 15 (by decide) (by decide), e 16 (by decide) (by decide), e 17 (by decide) (by decide), hf.2.2.1 5 (by decide) (by decide), hf.2.2.1 6 (by decide) (by decide), hf.2.2.1 7 (by decide) (by decide)]
  exact h
/-- after a line, the class's side: g' is what g came to -/
def k_pc (s : Nat) (o : tO) (g g' : qM) : Prop := k_ft g g' ∧ (¬ o.1 = 0 → g' 11 2 = o.1 ∧ g' 11 3 = Int32.ofNat o.2.1) ∧ (o.1 = 0 → g' 11 2 = 0 ∧ g' 9 5 = Int32.ofNat o.2.2.1 ∧ o.2.2.1 ≤ s ∧ k_dc o.2.2.2 g')
theorem k_pc_bad {s a : Nat} {e : Int32} {r g g' : qM} (h : k_ft g g') (he : ¬ e = 0) (h2 : g' 11 2 = e) (h3 : g' 11 3 = Int32.ofNat a) : k_pc s (o_bad e a r) g g' := ⟨h, fun _ => ⟨h2, h3⟩, fun z => absurd z he⟩
theorem k_pc_ok {s p : Nat} {r g g' : qM} (h : k_ft g g') (h2 : g' 11 2 = 0) (h5 : g' 9 5 = Int32.ofNat p) (hp : p ≤ s) (hd : k_dc r g') : k_pc s (o_ok p r) g g' := ⟨h, fun z => absurd rfl z, fun _ => ⟨h2, h5, hp, hd⟩⟩
/-- before a line: its name is taken, f its first byte, p the place behind -/
def k_cc (s f p : Nat) (r g : qM) : Prop := (g 9 1 = Int32.ofNat s ∧ s ≤ 160 ∧ g 9 5 = Int32.ofNat p ∧ p ≤ s ∧ g 11 2 = 0 ∧ g 9 3 = Int32.ofNat f) ∧ k_dc r g ∧ k_dn r
theorem t_fl_set {r : qM} (h : k_dn r) (k j : Nat) (hk : k < 3) (hj : j < 3) : t_fl j (r_fl k r) = if j = k then 1 else t_fl j r := by
  obtain ⟨m, hm, e⟩ := h.2.2
  unfold t_fl r_fl
  rw [q_up_at, if_pos rfl, e]
  have z : (List.range 8).all (fun m => (List.range 3).all (fun k => (List.range 3).all (fun j => decide ((((Int32.ofNat m ||| ((1 : Int32) <<< (Int32.ofNat k &&& 31))) >>> (Int32.ofNat j &&& 31)) &&& 1) = if j = k then 1 else ((Int32.ofNat m >>> (Int32.ofNat j &&& 31)) &&& 1))))) = true := by decide +kernel
  exact of_decide_eq_true (List.all_eq_true.mp (List.all_eq_true.mp (List.all_eq_true.mp z m (List.mem_range.mpr hm)) k (List.mem_range.mpr hk)) j (List.mem_range.mpr hj))
theorem k_dc.wide {r g : qM} {v : Int32} (h : k_dc r g) : k_dc (q_up r 70 6 v) (q_up g 12 0 v) := ⟨⟨rfl, h.1.2⟩, h.2⟩
theorem k_dc.high {r g : qM} {v : Int32} (h : k_dc r g) : k_dc (q_up r 70 7 v) (q_up g 12 1 v) := ⟨⟨h.1.1, rfl, h.1.2.2⟩, h.2⟩
theorem k_dc.walls {r g : qM} {v : Int32} (h : k_dc r g) (hn : k_dn r) : k_dc (q_up r 73 20 v) (q_up g 12 2 v) := by
  have h5 := hn.2.1
  refine ⟨⟨h.1.1, h.1.2.1, rfl, h.1.2.2.2⟩, fun d h1 h2 => ?_, fun p hp => ?_, fun p hp => ?_, h.2.2.2.2⟩
  · rw [q_up_at, if_neg (by omega)]
    exact h.2.1 d h1 h2
  · have hp' : p < t_n r := hp
    rw [q_up_at, q_up_at, q_up_at, if_neg (by omega), if_neg (by omega), if_neg (by omega)]
    exact h.2.2.1 p hp
  · rw [q_up_at, if_neg (by omega)]
    exact h.2.2.2.1 p hp
theorem k_dc.press {r g : qM} {v : Int32} (h : k_dc r g) (hn : k_dn r) : k_dc (q_up r 73 25 v) (q_up g 12 4 v) := by
  have h5 := hn.2.1
  refine ⟨⟨h.1.1, h.1.2.1, h.1.2.2.1, h.1.2.2.2.1, rfl, h.1.2.2.2.2.2⟩, fun d h1 h2 => ?_, fun p hp => ?_, fun p hp => ?_, h.2.2.2.2⟩
  · rw [q_up_at, if_neg (by omega)]
    exact h.2.1 d h1 h2
  · have hp' : p < t_n r := hp
    rw [q_up_at, q_up_at, q_up_at, if_neg (by omega), if_neg (by omega), if_neg (by omega)]
    exact h.2.2.1 p hp
  · rw [q_up_at, if_neg (by omega)]
    exact h.2.2.2.1 p hp
theorem k_dc.pull {r g : qM} {v : Int32} (h : k_dc r g) {i : Nat} (hi : 1 ≤ i ∧ i ≤ 4) (hn : k_dn r) : k_dc (q_up r 73 (20 + i) v) (q_up g 17 i v) := by
  have h5 := hn.2.1
  refine ⟨⟨h.1.1, h.1.2.1, h.1.2.2.1.trans (by rw [q_up_at, if_neg (by omega)]), h.1.2.2.2.1, h.1.2.2.2.2.1.trans (by rw [q_up_at, if_neg (by omega)]), h.1.2.2.2.2.2⟩, fun d h1 h2 => ?_, fun p hp => ?_, fun p hp => ?_, h.2.2.2.2⟩
  · rw [q_up_at, q_up_at]
    by_cases e : d = i
    · rw [if_pos e, if_pos (by omega)]
    · rw [if_neg e, if_neg (by omega)]
      exact h.2.1 d h1 h2
  · have hp' : p < t_n r := hp
    rw [q_up_at, q_up_at, q_up_at, if_neg (by omega), if_neg (by omega), if_neg (by omega)]
    exact h.2.2.1 p hp
  · rw [q_up_at, if_neg (by omega)]
    exact h.2.2.2.1 p hp
theorem k_dc.fl0 {r g : qM} (h : k_dc r g) (hn : k_dn r) : k_dc (r_fl 0 r) (q_up g 11 5 1) := ⟨h.1, h.2.1, h.2.2.1, h.2.2.2.1, (t_fl_set hn 0 0 (by omega) (by omega)).symm, h.2.2.2.2.2.1.trans (t_fl_set hn 0 1 (by omega) (by omega)).symm, h.2.2.2.2.2.2.trans (t_fl_set hn 0 2 (by omega) (by omega)).symm⟩
theorem k_dc.fl1 {r g : qM} (h : k_dc r g) (hn : k_dn r) : k_dc (r_fl 1 r) (q_up g 11 6 1) := ⟨h.1, h.2.1, h.2.2.1, h.2.2.2.1, h.2.2.2.2.1.trans (t_fl_set hn 1 0 (by omega) (by omega)).symm, (t_fl_set hn 1 1 (by omega) (by omega)).symm, h.2.2.2.2.2.2.trans (t_fl_set hn 1 2 (by omega) (by omega)).symm⟩
theorem k_dc.fl2 {r g : qM} (h : k_dc r g) (hn : k_dn r) : k_dc (r_fl 2 r) (q_up g 11 7 1) := ⟨h.1, h.2.1, h.2.2.1, h.2.2.2.1, h.2.2.2.2.1.trans (t_fl_set hn 2 0 (by omega) (by omega)).symm, h.2.2.2.2.2.1.trans (t_fl_set hn 2 1 (by omega) (by omega)).symm, (t_fl_set hn 2 2 (by omega) (by omega)).symm⟩
/-- the class may take a token from p on -/
def k_tk (b : Nat → Int32) (s p : Nat) (g : qM) : Prop := g 10 = b ∧ g 9 1 = Int32.ofNat s ∧ s ≤ 160 ∧ g 9 5 = Int32.ofNat p ∧ p ≤ s ∧ g 11 2 = 0
theorem k_tk.up {b : Nat → Int32} {s p : Nat} {g : qM} (h : k_tk b s p g) {a j : Nat} {x : Int32} (ha : 11 ≤ a) (hj : ¬ (a = 11 ∧ j = 2)) : k_tk b s p (q_up g a j x) := by
  refine ⟨?_, ?_, h.2.2.1, ?_, h.2.2.2.2.1, ?_⟩
  · rw [q_up_ne (by omega)]; exact h.1
  · rw [q_up_ne (by omega)]; exact h.2.1
  · rw [q_up_ne (by omega)]; exact h.2.2.2.1
  · rw [q_up_eq, if_neg (by omega)]; exact h.2.2.2.2.2
theorem c_numk {b : Nat → Int32} {s p : Nat} {g : qM} (u : qW) (h : k_tk b s p g) {lo hi : Int32} (he : t_er b s p lo hi = 0) : ∃ g', q_BS 24 [.ref 11, .int lo, .int hi] g u (some (.int (t_va b s p)), g', u) ∧ k_f9 g g' ∧ k_tk b s (t_pl b s p) g' ∧ g' 9 3 = Int32.ofNat (t_fi b s p) := by
  obtain ⟨hb, hs, h160, hp5, hp, h2⟩ := h
  subst hb
  obtain ⟨_, hq, g1, rfl, hf, h3, h5, h112, _⟩ := c_num g u hs h160 hp5 hp h2 lo hi
  rw [he, if_pos rfl] at hq
  exact ⟨g1, hq, hf, ⟨hf.1 10 (by decide) (by decide), (hf.2.1 1 (by omega)).trans hs, h160, h5, (t_pl_b hp).2.1, h112.trans he⟩, h3⟩
theorem c_nume {b : Nat → Int32} {s p : Nat} {g : qM} (u : qW) (h : k_tk b s p g) {lo hi : Int32} (he : ¬ t_er b s p lo hi = 0) : ∃ g', q_BS 24 [.ref 11, .int lo, .int hi] g u (some (.int 0), g', u) ∧ k_f9 g g' ∧ g' 11 2 = t_er b s p lo hi ∧ g' 11 3 = Int32.ofNat (t_fi b s p) := by
  obtain ⟨hb, hs, h160, hp5, hp, h2⟩ := h
  subst hb
  obtain ⟨_, hq, g1, rfl, hf, h3, h5, h112, h113⟩ := c_num g u hs h160 hp5 hp h2 lo hi
  rw [if_neg he] at hq
  exact ⟨g1, hq, hf, h112, h113 he⟩
theorem k_tk.of {s f p : Nat} {r g : qM} (h : k_cc s f p r g) : k_tk (g 10) s p g := ⟨rfl, h.1.1, h.1.2.1, h.1.2.2.1, h.1.2.2.2.1, h.1.2.2.2.2.1⟩
theorem k_dn.o {r r' : qM} (h : k_dn r) (h8 : r' 70 8 = r 70 8) (h9 : r' 70 9 = r 70 9) : k_dn r' := by
  have e : t_n r' = t_n r := by unfold t_n; rw [h8]
  unfold k_dn
  rw [e, h8, h9]
  exact h
theorem k_dn.fl {r : qM} (h : k_dn r) (k : Nat) (hk : k < 3) : k_dn (r_fl k r) := by
  obtain ⟨h8, h5, m, hm, e⟩ := h
  refine ⟨h8, h5, ?_⟩
  unfold r_fl
  rw [q_up_at, if_pos rfl, e]
  have z : (List.range 8).all (fun m => (List.range 3).all (fun k => decide (((Int32.ofNat m ||| ((1 : Int32) <<< (Int32.ofNat k &&& 31))).toInt.toNat < 8) ∧ (Int32.ofNat m ||| ((1 : Int32) <<< (Int32.ofNat k &&& 31))) = Int32.ofNat (Int32.ofNat m ||| ((1 : Int32) <<< (Int32.ofNat k &&& 31))).toInt.toNat))) = true := by decide +kernel
  have q := of_decide_eq_true (List.all_eq_true.mp (List.all_eq_true.mp z m (List.mem_range.mpr hm)) k (List.mem_range.mpr hk))
  exact ⟨_, q.1, q.2⟩
theorem sg_ln_1 (big : Nat → List Value → qM → qW → qR) (n0 : Nat) (G : qM) (U : qW) (v0 : Int32) : qm_run pm_m big m_23 (n0 + 1) 0 [(0, .ref 11), (1, .int v0)] [] G U = qm_run pm_m big m_23 n0 1 [(0, .ref 11), (1, .int v0)] [.int v0] G U := rfl
theorem sg_ln_2 (big : Nat → List Value → qM → qW → qR) (n0 : Nat) (G : qM) (U : qW) (v0 : Int32) : qm_run pm_m big m_23 (n0 + 5) 4 [(0, .ref 11), (1, .int v0)] [] G U = qm_run pm_m big m_23 n0 13 [(0, .ref 11), (1, .int v0)] [.int (G 9 3), .int (4 : Int32), .ref 11] G U := rfl
theorem sg_ln_3 (big : Nat → List Value → qM → qW → qR) (n0 : Nat) (G : qM) (U : qW) : qm_run pm_m big m_22 (n0 + 3) 0 [(0, .ref 11)] [] G U = qm_run pm_m big m_22 n0 5 [(0, .ref 11)] [.int (G 11 5), .ref 11] G U := rfl
theorem sg_ln_4 (big : Nat → List Value → qM → qW → qR) (n0 : Nat) (G : qM) (U : qW) : qm_run pm_m big m_22 (n0 + 8) 8 [(0, .ref 11)] [] G U = qm_run pm_m big m_22 n0 20 [(0, .ref 11)] [.int (5 : Int32), .int (2 : Int32), .ref 11, .ref 12] (q_up G 11 5 (1 : Int32)) U := rfl
theorem sg_ln_5 (big : Nat → List Value → qM → qW → qR) (n0 : Nat) (G : qM) (U : qW) (v0 : Int32) : qm_run pm_m big m_22 (n0 + 6) 23 [(0, .ref 11)] [.int v0, .ref 12] G U = qm_run pm_m big m_22 n0 33 [(0, .ref 11)] [.int (5 : Int32), .int (2 : Int32), .ref 11, .ref 12] (q_up G 12 0 v0) U := rfl
theorem sg_ln_6 (big : Nat → List Value → qM → qW → qR) (n0 : Nat) (G : qM) (U : qW) : qm_run pm_m big m_22 (n0 + 6) 23 [(0, .ref 11)] [.int (0 : Int32), .ref 12] G U = qm_run pm_m big m_22 n0 33 [(0, .ref 11)] [.int (5 : Int32), .int (2 : Int32), .ref 11, .ref 12] (q_up G 12 0 (0 : Int32)) U := rfl
theorem sg_ln_7 (big : Nat → List Value → qM → qW → qR) (n0 : Nat) (G : qM) (U : qW) : qm_run pm_m big m_34 (n0 + 3) 0 [(0, .ref 11)] [] G U = qm_run pm_m big m_34 n0 5 [(0, .ref 11)] [.int (G 11 7), .ref 11] G U := rfl
theorem sg_ln_8 (big : Nat → List Value → qM → qW → qR) (n0 : Nat) (G : qM) (U : qW) : qm_run pm_m big m_34 (n0 + 8) 8 [(0, .ref 11)] [] G U = qm_run pm_m big m_34 n0 20 [(0, .ref 11)] [.int (4 : Int32), .int (0 : Int32), .ref 11, .ref 12] (q_up G 11 7 (1 : Int32)) U := rfl
theorem sg_ln_9 (big : Nat → List Value → qM → qW → qR) (n0 : Nat) (G : qM) (U : qW) : qm_run pm_m big m_33 (n0 + 3) 0 [(0, .ref 11)] [] G U = qm_run pm_m big m_33 n0 5 [(0, .ref 11)] [.int (G 11 6), .ref 11] G U := rfl
theorem sg_ln_10 (big : Nat → List Value → qM → qW → qR) (n0 : Nat) (G : qM) (U : qW) : qm_run pm_m big m_33 (n0 + 15) 8 [(0, .ref 11)] [] G U = qm_run pm_m big m_33 n0 32 [(0, .ref 11), (1, .int (1 : Int32))] [.int (9 : Int32), .int (0 : Int32), .ref 11, .int (1 : Int32), .ref 17] (q_up G 11 6 (1 : Int32)) U := rfl
theorem sg_ln_11 (big : Nat → List Value → qM → qW → qR) (n0 : Nat) (G : qM) (U : qW) (v0 : Int32) : qm_run pm_m big m_33 (n0 + 13) 35 [(0, .ref 11), (1, .int (1 : Int32))] [.int v0, .int (1 : Int32), .ref 17] G U = qm_run pm_m big m_33 n0 32 [(0, .ref 11), (1, .int (2 : Int32))] [.int (9 : Int32), .int (0 : Int32), .ref 11, .int (2 : Int32), .ref 17] (q_up G 17 1 v0) U := rfl
theorem sg_ln_12 (big : Nat → List Value → qM → qW → qR) (n0 : Nat) (G : qM) (U : qW) (v0 : Int32) : qm_run pm_m big m_33 (n0 + 13) 35 [(0, .ref 11), (1, .int (2 : Int32))] [.int v0, .int (2 : Int32), .ref 17] G U = qm_run pm_m big m_33 n0 32 [(0, .ref 11), (1, .int (3 : Int32))] [.int (9 : Int32), .int (0 : Int32), .ref 11, .int (3 : Int32), .ref 17] (q_up G 17 2 v0) U := rfl
theorem sg_ln_13 (big : Nat → List Value → qM → qW → qR) (n0 : Nat) (G : qM) (U : qW) (v0 : Int32) : qm_run pm_m big m_33 (n0 + 13) 35 [(0, .ref 11), (1, .int (3 : Int32))] [.int v0, .int (3 : Int32), .ref 17] G U = qm_run pm_m big m_33 n0 32 [(0, .ref 11), (1, .int (4 : Int32))] [.int (9 : Int32), .int (0 : Int32), .ref 11, .int (4 : Int32), .ref 17] (q_up G 17 3 v0) U := rfl
theorem sg_ln_14 (big : Nat → List Value → qM → qW → qR) (n0 : Nat) (G : qM) (U : qW) : qm_run pm_m big m_33 (n0 + 13) 35 [(0, .ref 11), (1, .int (3 : Int32))] [.int (0 : Int32), .int (3 : Int32), .ref 17] G U = qm_run pm_m big m_33 n0 32 [(0, .ref 11), (1, .int (4 : Int32))] [.int (9 : Int32), .int (0 : Int32), .ref 11, .int (4 : Int32), .ref 17] (q_up G 17 3 (0 : Int32)) U := rfl
theorem sg_ln_15 (big : Nat → List Value → qM → qW → qR) (n0 : Nat) (G : qM) (U : qW) : qm_run pm_m big m_33 (n0 + 13) 35 [(0, .ref 11), (1, .int (2 : Int32))] [.int (0 : Int32), .int (2 : Int32), .ref 17] G U = qm_run pm_m big m_33 n0 32 [(0, .ref 11), (1, .int (3 : Int32))] [.int (9 : Int32), .int (0 : Int32), .ref 11, .int (3 : Int32), .ref 17] (q_up G 17 2 (0 : Int32)) U := rfl
theorem sg_ln_16 (big : Nat → List Value → qM → qW → qR) (n0 : Nat) (G : qM) (U : qW) : qm_run pm_m big m_33 (n0 + 13) 35 [(0, .ref 11), (1, .int (1 : Int32))] [.int (0 : Int32), .int (1 : Int32), .ref 17] G U = qm_run pm_m big m_33 n0 32 [(0, .ref 11), (1, .int (2 : Int32))] [.int (9 : Int32), .int (0 : Int32), .ref 11, .int (2 : Int32), .ref 17] (q_up G 17 1 (0 : Int32)) U := rfl
theorem b_rs0 (x : Int32) (hx : x = 0) (g : qM) (u : qW) : q_BS 23 [.ref 11, .int x] g u (none, g, u) := by
  refine q_bx (mm := m_23) rfl (Nat.le_of_ble_eq_true rfl) rfl ?_
  refine q_step 1 1 [(0, .ref 11), (1, .int x)] [.int x] g u (fun big n0 => sg_ln_1 big n0 g u x) ?_
  refine q_if_eq rfl (fun (hc0 : x = 0) => ?_) (fun hc0 => absurd (show x = 0 from hx) hc0)
  refine q_ret 1 (none, g, u) (fun _ _ => rfl) ?_
  rfl
theorem b_rs1 (x : Int32) (hx : ¬ x = 0) (g : qM) (u : qW) : q_BS 23 [.ref 11, .int x] g u (none, q_up (q_up g 11 2 4) 11 3 (g 9 3), u) := by
  refine q_bx (mm := m_23) rfl (Nat.le_of_ble_eq_true rfl) rfl ?_
  refine q_step 1 1 [(0, .ref 11), (1, .int x)] [.int x] g u (fun big n0 => sg_ln_1 big n0 g u x) ?_
  refine q_if_eq rfl (fun hc0 => absurd (show x = 0 from hc0) (hx)) (fun (hc0 : ¬ (x = 0)) => ?_)
  refine q_step 5 13 [(0, .ref 11), (1, .int x)] [.int (g 9 3), .int (4 : Int32), .ref 11] g u (fun big n0 => sg_ln_2 big n0 g u x) ?_
  refine q_call (M2 := 20) (rest := []) (b_refuse _ _ _ _) (fun _ _ => rfl) ?_
  refine q_ret 1 (none, (q_up (q_up g 11 2 (4 : Int32)) 11 3 (g 9 3)), u) (fun _ _ => rfl) ?_
  rfl
theorem c_ltown {s f p : Nat} {r : qM} (g : qM) (u : qW) (hc : k_cc s f p r g) : ∃ R, q_BS 22 [.ref 11] g u R ∧ ∃ g', R = (none, g', u) ∧ k_pc s (o_town (g 10) s f p r) g g' := by
  refine q_bs (mm := m_22) rfl (Nat.le_of_ble_eq_true rfl) rfl ?_
  have ht := k_tk.of hc
  obtain ⟨⟨hs, h160, hp5, hp, h2, hf⟩, hd, hn⟩ := hc
  have hfl : g 11 5 = t_fl 0 r := hd.2.2.2.2.1
  refine q_step 3 5 [(0, .ref 11)] [.int (g 11 5), .ref 11] g u (fun big n0 => sg_ln_3 big n0 g u) ?_
  by_cases hc0 : (g 11 5) = 0
  · refine q_call (M2 := 23) (rest := []) (b_rs0 _ hc0 _ _) (fun _ _ => rfl) ?_
    refine q_step 8 20 [(0, .ref 11)] [.int (5 : Int32), .int (2 : Int32), .ref 11, .ref 12] (q_up g 11 5 (1 : Int32)) u (fun big n0 => sg_ln_4 big n0 g u) ?_
    by_cases hc1 : t_er (g 10) s p (2 : Int32) (5 : Int32) = 0
    · obtain ⟨g1, q1, f1, t1, i1⟩ := c_numk (g := (q_up g 11 5 (1 : Int32))) u (ht.up (by omega) (by omega)) hc1
      refine q_call (M2 := 24) (rest := [.ref 12]) (q1) (fun _ _ => rfl) ?_
      refine q_step 6 33 [(0, .ref 11)] [.int (5 : Int32), .int (2 : Int32), .ref 11, .ref 12] (q_up g1 12 0 (t_va (g 10) s p)) u (fun big n0 => sg_ln_5 big n0 g1 u (t_va (g 10) s p)) ?_
      by_cases hc2 : t_er (g 10) s (t_pl (g 10) s p) (2 : Int32) (5 : Int32) = 0
      · obtain ⟨g2, q2, f2, t2, i2⟩ := c_numk (g := (q_up g1 12 0 (t_va (g 10) s p))) u (t1.up (by omega) (by omega)) hc2
        refine q_call (M2 := 24) (rest := [.ref 12]) (q2) (fun _ _ => rfl) ?_
        refine q_ret 2 (none, (q_up g2 12 1 (t_va (g 10) s (t_pl (g 10) s p))), u) (fun _ _ => rfl) ?_
        unfold o_town
        rw [if_pos (hfl.symm.trans hc0)]
        rw [o_num, if_pos hc1]
        rw [o_num, if_pos hc2]
        exact ⟨_, rfl, k_pc_ok ((((((k_ft_rfl g).up (by omega)).trans f1.ft).up (by omega)).trans f2.ft).up (by omega)) t2.2.2.2.2.2 t2.2.2.2.1 t2.2.2.2.2.1 (((((hd.fl0 hn).f9 f1).wide).f9 f2).high)⟩
      · obtain ⟨g2, q2, f2, x2, y2⟩ := c_nume (g := (q_up g1 12 0 (t_va (g 10) s p))) u (t1.up (by omega) (by omega)) hc2
        refine q_call (M2 := 24) (rest := [.ref 12]) (q2) (fun _ _ => rfl) ?_
        refine q_ret 2 (none, (q_up g2 12 1 (0 : Int32)), u) (fun _ _ => rfl) ?_
        unfold o_town
        rw [if_pos (hfl.symm.trans hc0)]
        rw [o_num, if_pos hc1]
        rw [o_num, if_neg hc2]
        exact ⟨_, rfl, k_pc_bad ((((((k_ft_rfl g).up (by omega)).trans f1.ft).up (by omega)).trans f2.ft).up (by omega)) hc2 x2 y2⟩
    · obtain ⟨g1, q1, f1, x1, y1⟩ := c_nume (g := (q_up g 11 5 (1 : Int32))) u (ht.up (by omega) (by omega)) hc1
      refine q_call (M2 := 24) (rest := [.ref 12]) (q1) (fun _ _ => rfl) ?_
      refine q_step 6 33 [(0, .ref 11)] [.int (5 : Int32), .int (2 : Int32), .ref 11, .ref 12] (q_up g1 12 0 (0 : Int32)) u (fun big n0 => sg_ln_6 big n0 g1 u) ?_
      refine q_call (M2 := 24) (rest := [.ref 12]) (c_numf (2 : Int32) (5 : Int32) _ _ (show ¬ (g1 11 2) = 0 from (by rw [x1]; exact hc1))) (fun _ _ => rfl) ?_
      refine q_ret 2 (none, (q_up (q_up g1 12 0 (0 : Int32)) 12 1 (0 : Int32)), u) (fun _ _ => rfl) ?_
      unfold o_town
      rw [if_pos (hfl.symm.trans hc0)]
      rw [o_num, if_neg hc1]
      exact ⟨_, rfl, k_pc_bad (((((k_ft_rfl g).up (by omega)).trans f1.ft).up (by omega)).up (by omega)) hc1 x1 y1⟩
  · refine q_call (M2 := 23) (rest := []) (b_rs1 _ hc0 _ _) (fun _ _ => rfl) ?_
    refine q_step 8 20 [(0, .ref 11)] [.int (5 : Int32), .int (2 : Int32), .ref 11, .ref 12] (q_up (q_up (q_up g 11 2 (4 : Int32)) 11 3 (g 9 3)) 11 5 (1 : Int32)) u (fun big n0 => sg_ln_4 big n0 (q_up (q_up g 11 2 (4 : Int32)) 11 3 (g 9 3)) u) ?_
    refine q_call (M2 := 24) (rest := [.ref 12]) (c_numf (2 : Int32) (5 : Int32) _ _ (show ¬ (4 : Int32) = 0 from (by decide))) (fun _ _ => rfl) ?_
    refine q_step 6 33 [(0, .ref 11)] [.int (5 : Int32), .int (2 : Int32), .ref 11, .ref 12] (q_up (q_up (q_up (q_up g 11 2 (4 : Int32)) 11 3 (g 9 3)) 11 5 (1 : Int32)) 12 0 (0 : Int32)) u (fun big n0 => sg_ln_6 big n0 (q_up (q_up (q_up g 11 2 (4 : Int32)) 11 3 (g 9 3)) 11 5 (1 : Int32)) u) ?_
    refine q_call (M2 := 24) (rest := [.ref 12]) (c_numf (2 : Int32) (5 : Int32) _ _ (show ¬ (4 : Int32) = 0 from (by decide))) (fun _ _ => rfl) ?_
    refine q_ret 2 (none, (q_up (q_up (q_up (q_up (q_up g 11 2 (4 : Int32)) 11 3 (g 9 3)) 11 5 (1 : Int32)) 12 0 (0 : Int32)) 12 1 (0 : Int32)), u) (fun _ _ => rfl) ?_
    unfold o_town
    rw [if_neg (fun z => hc0 (hfl.trans z))]
    exact ⟨_, rfl, k_pc_bad ((((((k_ft_rfl g).up (by omega)).up (by omega)).up (by omega)).up (by omega)).up (by omega)) (by decide) rfl hf⟩
theorem c_lpress {s f p : Nat} {r : qM} (g : qM) (u : qW) (hc : k_cc s f p r g) : ∃ R, q_BS 34 [.ref 11] g u R ∧ ∃ g', R = (none, g', u) ∧ k_pc s (o_press (g 10) s f p r) g g' := by
  refine q_bs (mm := m_34) rfl (Nat.le_of_ble_eq_true rfl) rfl ?_
  have ht := k_tk.of hc
  obtain ⟨⟨hs, h160, hp5, hp, h2, hf⟩, hd, hn⟩ := hc
  have hfl : g 11 7 = t_fl 2 r := hd.2.2.2.2.2.2
  refine q_step 3 5 [(0, .ref 11)] [.int (g 11 7), .ref 11] g u (fun big n0 => sg_ln_7 big n0 g u) ?_
  by_cases hc0 : (g 11 7) = 0
  · refine q_call (M2 := 23) (rest := []) (b_rs0 _ hc0 _ _) (fun _ _ => rfl) ?_
    refine q_step 8 20 [(0, .ref 11)] [.int (4 : Int32), .int (0 : Int32), .ref 11, .ref 12] (q_up g 11 7 (1 : Int32)) u (fun big n0 => sg_ln_8 big n0 g u) ?_
    by_cases hc1 : t_er (g 10) s p (0 : Int32) (4 : Int32) = 0
    · obtain ⟨g1, q1, f1, t1, i1⟩ := c_numk (g := (q_up g 11 7 (1 : Int32))) u (ht.up (by omega) (by omega)) hc1
      refine q_call (M2 := 24) (rest := [.ref 12]) (q1) (fun _ _ => rfl) ?_
      refine q_ret 2 (none, (q_up g1 12 4 (t_va (g 10) s p)), u) (fun _ _ => rfl) ?_
      unfold o_press
      rw [if_pos (hfl.symm.trans hc0)]
      rw [o_num, if_pos hc1]
      exact ⟨_, rfl, k_pc_ok ((((k_ft_rfl g).up (by omega)).trans f1.ft).up (by omega)) t1.2.2.2.2.2 t1.2.2.2.1 t1.2.2.2.2.1 (((hd.fl2 hn).f9 f1).press (hn.fl 2 (by omega)))⟩
    · obtain ⟨g1, q1, f1, x1, y1⟩ := c_nume (g := (q_up g 11 7 (1 : Int32))) u (ht.up (by omega) (by omega)) hc1
      refine q_call (M2 := 24) (rest := [.ref 12]) (q1) (fun _ _ => rfl) ?_
      refine q_ret 2 (none, (q_up g1 12 4 (0 : Int32)), u) (fun _ _ => rfl) ?_
      unfold o_press
      rw [if_pos (hfl.symm.trans hc0)]
      rw [o_num, if_neg hc1]
      exact ⟨_, rfl, k_pc_bad ((((k_ft_rfl g).up (by omega)).trans f1.ft).up (by omega)) hc1 x1 y1⟩
  · refine q_call (M2 := 23) (rest := []) (b_rs1 _ hc0 _ _) (fun _ _ => rfl) ?_
    refine q_step 8 20 [(0, .ref 11)] [.int (4 : Int32), .int (0 : Int32), .ref 11, .ref 12] (q_up (q_up (q_up g 11 2 (4 : Int32)) 11 3 (g 9 3)) 11 7 (1 : Int32)) u (fun big n0 => sg_ln_8 big n0 (q_up (q_up g 11 2 (4 : Int32)) 11 3 (g 9 3)) u) ?_
    refine q_call (M2 := 24) (rest := [.ref 12]) (c_numf (0 : Int32) (4 : Int32) _ _ (show ¬ (4 : Int32) = 0 from (by decide))) (fun _ _ => rfl) ?_
    refine q_ret 2 (none, (q_up (q_up (q_up (q_up g 11 2 (4 : Int32)) 11 3 (g 9 3)) 11 7 (1 : Int32)) 12 4 (0 : Int32)), u) (fun _ _ => rfl) ?_
    unfold o_press
    rw [if_neg (fun z => hc0 (hfl.trans z))]
    exact ⟨_, rfl, k_pc_bad (((((k_ft_rfl g).up (by omega)).up (by omega)).up (by omega)).up (by omega)) (by decide) rfl hf⟩
theorem c_lpull {s f p : Nat} {r : qM} (g : qM) (u : qW) (hc : k_cc s f p r g) : ∃ R, q_BS 33 [.ref 11] g u R ∧ ∃ g', R = (none, g', u) ∧ k_pc s (o_pull (g 10) s f p r) g g' := by
  refine q_bs (mm := m_33) rfl (Nat.le_of_ble_eq_true rfl) rfl ?_
  have ht := k_tk.of hc
  obtain ⟨⟨hs, h160, hp5, hp, h2, hf⟩, hd, hn⟩ := hc
  have hfl : g 11 6 = t_fl 1 r := hd.2.2.2.2.2.1
  refine q_step 3 5 [(0, .ref 11)] [.int (g 11 6), .ref 11] g u (fun big n0 => sg_ln_9 big n0 g u) ?_
  by_cases hc0 : (g 11 6) = 0
  · refine q_call (M2 := 23) (rest := []) (b_rs0 _ hc0 _ _) (fun _ _ => rfl) ?_
    refine q_step 15 32 [(0, .ref 11), (1, .int (1 : Int32))] [.int (9 : Int32), .int (0 : Int32), .ref 11, .int (1 : Int32), .ref 17] (q_up g 11 6 (1 : Int32)) u (fun big n0 => sg_ln_10 big n0 g u) ?_
    by_cases hc1 : t_er (g 10) s p (0 : Int32) (9 : Int32) = 0
    · obtain ⟨g1, q1, f1, t1, i1⟩ := c_numk (g := (q_up g 11 6 (1 : Int32))) u (ht.up (by omega) (by omega)) hc1
      refine q_call (M2 := 24) (rest := [.int (1 : Int32), .ref 17]) (q1) (fun _ _ => rfl) ?_
      refine q_step 13 32 [(0, .ref 11), (1, .int (2 : Int32))] [.int (9 : Int32), .int (0 : Int32), .ref 11, .int (2 : Int32), .ref 17] (q_up g1 17 1 (t_va (g 10) s p)) u (fun big n0 => sg_ln_11 big n0 g1 u (t_va (g 10) s p)) ?_
      by_cases hc2 : t_er (g 10) s (t_pl (g 10) s p) (0 : Int32) (9 : Int32) = 0
      · obtain ⟨g2, q2, f2, t2, i2⟩ := c_numk (g := (q_up g1 17 1 (t_va (g 10) s p))) u (t1.up (by omega) (by omega)) hc2
        refine q_call (M2 := 24) (rest := [.int (2 : Int32), .ref 17]) (q2) (fun _ _ => rfl) ?_
        refine q_step 13 32 [(0, .ref 11), (1, .int (3 : Int32))] [.int (9 : Int32), .int (0 : Int32), .ref 11, .int (3 : Int32), .ref 17] (q_up g2 17 2 (t_va (g 10) s (t_pl (g 10) s p))) u (fun big n0 => sg_ln_12 big n0 g2 u (t_va (g 10) s (t_pl (g 10) s p))) ?_
        by_cases hc3 : t_er (g 10) s (t_pl (g 10) s (t_pl (g 10) s p)) (0 : Int32) (9 : Int32) = 0
        · obtain ⟨g3, q3, f3, t3, i3⟩ := c_numk (g := (q_up g2 17 2 (t_va (g 10) s (t_pl (g 10) s p)))) u (t2.up (by omega) (by omega)) hc3
          refine q_call (M2 := 24) (rest := [.int (3 : Int32), .ref 17]) (q3) (fun _ _ => rfl) ?_
          refine q_step 13 32 [(0, .ref 11), (1, .int (4 : Int32))] [.int (9 : Int32), .int (0 : Int32), .ref 11, .int (4 : Int32), .ref 17] (q_up g3 17 3 (t_va (g 10) s (t_pl (g 10) s (t_pl (g 10) s p)))) u (fun big n0 => sg_ln_13 big n0 g3 u (t_va (g 10) s (t_pl (g 10) s (t_pl (g 10) s p)))) ?_
          by_cases hc4 : t_er (g 10) s (t_pl (g 10) s (t_pl (g 10) s (t_pl (g 10) s p))) (0 : Int32) (9 : Int32) = 0
          · obtain ⟨g4, q4, f4, t4, i4⟩ := c_numk (g := (q_up g3 17 3 (t_va (g 10) s (t_pl (g 10) s (t_pl (g 10) s p))))) u (t3.up (by omega) (by omega)) hc4
            refine q_call (M2 := 24) (rest := [.int (4 : Int32), .ref 17]) (q4) (fun _ _ => rfl) ?_
            refine q_ret 7 (none, (q_up g4 17 4 (t_va (g 10) s (t_pl (g 10) s (t_pl (g 10) s (t_pl (g 10) s p))))), u) (fun _ _ => rfl) ?_
            unfold o_pull
            rw [if_pos (hfl.symm.trans hc0)]
            rw [o_num, if_pos hc1]
            rw [o_num, if_pos hc2]
            rw [o_num, if_pos hc3]
            rw [o_num, if_pos hc4]
            exact ⟨_, rfl, k_pc_ok ((((((((((k_ft_rfl g).up (by omega)).trans f1.ft).up (by omega)).trans f2.ft).up (by omega)).trans f3.ft).up (by omega)).trans f4.ft).up (by omega)) t4.2.2.2.2.2 t4.2.2.2.1 t4.2.2.2.2.1 (((((((((hd.fl1 hn).f9 f1).pull (i := 1) (by omega) (hn.fl 1 (by omega))).f9 f2).pull (i := 2) (by omega) ((hn.fl 1 (by omega)).o rfl rfl)).f9 f3).pull (i := 3) (by omega) (((hn.fl 1 (by omega)).o rfl rfl).o rfl rfl)).f9 f4).pull (i := 4) (by omega) ((((hn.fl 1 (by omega)).o rfl rfl).o rfl rfl).o rfl rfl))⟩
          · obtain ⟨g4, q4, f4, x4, y4⟩ := c_nume (g := (q_up g3 17 3 (t_va (g 10) s (t_pl (g 10) s (t_pl (g 10) s p))))) u (t3.up (by omega) (by omega)) hc4
            refine q_call (M2 := 24) (rest := [.int (4 : Int32), .ref 17]) (q4) (fun _ _ => rfl) ?_
            refine q_ret 7 (none, (q_up g4 17 4 (0 : Int32)), u) (fun _ _ => rfl) ?_
            unfold o_pull
            rw [if_pos (hfl.symm.trans hc0)]
            rw [o_num, if_pos hc1]
            rw [o_num, if_pos hc2]
            rw [o_num, if_pos hc3]
            rw [o_num, if_neg hc4]
            exact ⟨_, rfl, k_pc_bad ((((((((((k_ft_rfl g).up (by omega)).trans f1.ft).up (by omega)).trans f2.ft).up (by omega)).trans f3.ft).up (by omega)).trans f4.ft).up (by omega)) hc4 x4 y4⟩
        · obtain ⟨g3, q3, f3, x3, y3⟩ := c_nume (g := (q_up g2 17 2 (t_va (g 10) s (t_pl (g 10) s p)))) u (t2.up (by omega) (by omega)) hc3
          refine q_call (M2 := 24) (rest := [.int (3 : Int32), .ref 17]) (q3) (fun _ _ => rfl) ?_
          refine q_step 13 32 [(0, .ref 11), (1, .int (4 : Int32))] [.int (9 : Int32), .int (0 : Int32), .ref 11, .int (4 : Int32), .ref 17] (q_up g3 17 3 (0 : Int32)) u (fun big n0 => sg_ln_14 big n0 g3 u) ?_
          refine q_call (M2 := 24) (rest := [.int (4 : Int32), .ref 17]) (c_numf (0 : Int32) (9 : Int32) _ _ (show ¬ (g3 11 2) = 0 from (by rw [x3]; exact hc3))) (fun _ _ => rfl) ?_
          refine q_ret 7 (none, (q_up (q_up g3 17 3 (0 : Int32)) 17 4 (0 : Int32)), u) (fun _ _ => rfl) ?_
          unfold o_pull
          rw [if_pos (hfl.symm.trans hc0)]
          rw [o_num, if_pos hc1]
          rw [o_num, if_pos hc2]
          rw [o_num, if_neg hc3]
          exact ⟨_, rfl, k_pc_bad (((((((((k_ft_rfl g).up (by omega)).trans f1.ft).up (by omega)).trans f2.ft).up (by omega)).trans f3.ft).up (by omega)).up (by omega)) hc3 x3 y3⟩
      · obtain ⟨g2, q2, f2, x2, y2⟩ := c_nume (g := (q_up g1 17 1 (t_va (g 10) s p))) u (t1.up (by omega) (by omega)) hc2
        refine q_call (M2 := 24) (rest := [.int (2 : Int32), .ref 17]) (q2) (fun _ _ => rfl) ?_
        refine q_step 13 32 [(0, .ref 11), (1, .int (3 : Int32))] [.int (9 : Int32), .int (0 : Int32), .ref 11, .int (3 : Int32), .ref 17] (q_up g2 17 2 (0 : Int32)) u (fun big n0 => sg_ln_15 big n0 g2 u) ?_
        refine q_call (M2 := 24) (rest := [.int (3 : Int32), .ref 17]) (c_numf (0 : Int32) (9 : Int32) _ _ (show ¬ (g2 11 2) = 0 from (by rw [x2]; exact hc2))) (fun _ _ => rfl) ?_
        refine q_step 13 32 [(0, .ref 11), (1, .int (4 : Int32))] [.int (9 : Int32), .int (0 : Int32), .ref 11, .int (4 : Int32), .ref 17] (q_up (q_up g2 17 2 (0 : Int32)) 17 3 (0 : Int32)) u (fun big n0 => sg_ln_14 big n0 (q_up g2 17 2 (0 : Int32)) u) ?_
        refine q_call (M2 := 24) (rest := [.int (4 : Int32), .ref 17]) (c_numf (0 : Int32) (9 : Int32) _ _ (show ¬ (g2 11 2) = 0 from (by rw [x2]; exact hc2))) (fun _ _ => rfl) ?_
        refine q_ret 7 (none, (q_up (q_up (q_up g2 17 2 (0 : Int32)) 17 3 (0 : Int32)) 17 4 (0 : Int32)), u) (fun _ _ => rfl) ?_
        unfold o_pull
        rw [if_pos (hfl.symm.trans hc0)]
        rw [o_num, if_pos hc1]
        rw [o_num, if_neg hc2]
        exact ⟨_, rfl, k_pc_bad ((((((((k_ft_rfl g).up (by omega)).trans f1.ft).up (by omega)).trans f2.ft).up (by omega)).up (by omega)).up (by omega)) hc2 x2 y2⟩
    · obtain ⟨g1, q1, f1, x1, y1⟩ := c_nume (g := (q_up g 11 6 (1 : Int32))) u (ht.up (by omega) (by omega)) hc1
      refine q_call (M2 := 24) (rest := [.int (1 : Int32), .ref 17]) (q1) (fun _ _ => rfl) ?_
      refine q_step 13 32 [(0, .ref 11), (1, .int (2 : Int32))] [.int (9 : Int32), .int (0 : Int32), .ref 11, .int (2 : Int32), .ref 17] (q_up g1 17 1 (0 : Int32)) u (fun big n0 => sg_ln_16 big n0 g1 u) ?_
      refine q_call (M2 := 24) (rest := [.int (2 : Int32), .ref 17]) (c_numf (0 : Int32) (9 : Int32) _ _ (show ¬ (g1 11 2) = 0 from (by rw [x1]; exact hc1))) (fun _ _ => rfl) ?_
      refine q_step 13 32 [(0, .ref 11), (1, .int (3 : Int32))] [.int (9 : Int32), .int (0 : Int32), .ref 11, .int (3 : Int32), .ref 17] (q_up (q_up g1 17 1 (0 : Int32)) 17 2 (0 : Int32)) u (fun big n0 => sg_ln_15 big n0 (q_up g1 17 1 (0 : Int32)) u) ?_
      refine q_call (M2 := 24) (rest := [.int (3 : Int32), .ref 17]) (c_numf (0 : Int32) (9 : Int32) _ _ (show ¬ (g1 11 2) = 0 from (by rw [x1]; exact hc1))) (fun _ _ => rfl) ?_
      refine q_step 13 32 [(0, .ref 11), (1, .int (4 : Int32))] [.int (9 : Int32), .int (0 : Int32), .ref 11, .int (4 : Int32), .ref 17] (q_up (q_up (q_up g1 17 1 (0 : Int32)) 17 2 (0 : Int32)) 17 3 (0 : Int32)) u (fun big n0 => sg_ln_14 big n0 (q_up (q_up g1 17 1 (0 : Int32)) 17 2 (0 : Int32)) u) ?_
      refine q_call (M2 := 24) (rest := [.int (4 : Int32), .ref 17]) (c_numf (0 : Int32) (9 : Int32) _ _ (show ¬ (g1 11 2) = 0 from (by rw [x1]; exact hc1))) (fun _ _ => rfl) ?_
      refine q_ret 7 (none, (q_up (q_up (q_up (q_up g1 17 1 (0 : Int32)) 17 2 (0 : Int32)) 17 3 (0 : Int32)) 17 4 (0 : Int32)), u) (fun _ _ => rfl) ?_
      unfold o_pull
      rw [if_pos (hfl.symm.trans hc0)]
      rw [o_num, if_neg hc1]
      exact ⟨_, rfl, k_pc_bad (((((((k_ft_rfl g).up (by omega)).trans f1.ft).up (by omega)).up (by omega)).up (by omega)).up (by omega)) hc1 x1 y1⟩
  · refine q_call (M2 := 23) (rest := []) (b_rs1 _ hc0 _ _) (fun _ _ => rfl) ?_
    refine q_step 15 32 [(0, .ref 11), (1, .int (1 : Int32))] [.int (9 : Int32), .int (0 : Int32), .ref 11, .int (1 : Int32), .ref 17] (q_up (q_up (q_up g 11 2 (4 : Int32)) 11 3 (g 9 3)) 11 6 (1 : Int32)) u (fun big n0 => sg_ln_10 big n0 (q_up (q_up g 11 2 (4 : Int32)) 11 3 (g 9 3)) u) ?_
    refine q_call (M2 := 24) (rest := [.int (1 : Int32), .ref 17]) (c_numf (0 : Int32) (9 : Int32) _ _ (show ¬ (4 : Int32) = 0 from (by decide))) (fun _ _ => rfl) ?_
    refine q_step 13 32 [(0, .ref 11), (1, .int (2 : Int32))] [.int (9 : Int32), .int (0 : Int32), .ref 11, .int (2 : Int32), .ref 17] (q_up (q_up (q_up (q_up g 11 2 (4 : Int32)) 11 3 (g 9 3)) 11 6 (1 : Int32)) 17 1 (0 : Int32)) u (fun big n0 => sg_ln_16 big n0 (q_up (q_up (q_up g 11 2 (4 : Int32)) 11 3 (g 9 3)) 11 6 (1 : Int32)) u) ?_
    refine q_call (M2 := 24) (rest := [.int (2 : Int32), .ref 17]) (c_numf (0 : Int32) (9 : Int32) _ _ (show ¬ (4 : Int32) = 0 from (by decide))) (fun _ _ => rfl) ?_
    refine q_step 13 32 [(0, .ref 11), (1, .int (3 : Int32))] [.int (9 : Int32), .int (0 : Int32), .ref 11, .int (3 : Int32), .ref 17] (q_up (q_up (q_up (q_up (q_up g 11 2 (4 : Int32)) 11 3 (g 9 3)) 11 6 (1 : Int32)) 17 1 (0 : Int32)) 17 2 (0 : Int32)) u (fun big n0 => sg_ln_15 big n0 (q_up (q_up (q_up (q_up g 11 2 (4 : Int32)) 11 3 (g 9 3)) 11 6 (1 : Int32)) 17 1 (0 : Int32)) u) ?_
    refine q_call (M2 := 24) (rest := [.int (3 : Int32), .ref 17]) (c_numf (0 : Int32) (9 : Int32) _ _ (show ¬ (4 : Int32) = 0 from (by decide))) (fun _ _ => rfl) ?_
    refine q_step 13 32 [(0, .ref 11), (1, .int (4 : Int32))] [.int (9 : Int32), .int (0 : Int32), .ref 11, .int (4 : Int32), .ref 17] (q_up (q_up (q_up (q_up (q_up (q_up g 11 2 (4 : Int32)) 11 3 (g 9 3)) 11 6 (1 : Int32)) 17 1 (0 : Int32)) 17 2 (0 : Int32)) 17 3 (0 : Int32)) u (fun big n0 => sg_ln_14 big n0 (q_up (q_up (q_up (q_up (q_up g 11 2 (4 : Int32)) 11 3 (g 9 3)) 11 6 (1 : Int32)) 17 1 (0 : Int32)) 17 2 (0 : Int32)) u) ?_
    refine q_call (M2 := 24) (rest := [.int (4 : Int32), .ref 17]) (c_numf (0 : Int32) (9 : Int32) _ _ (show ¬ (4 : Int32) = 0 from (by decide))) (fun _ _ => rfl) ?_
    refine q_ret 7 (none, (q_up (q_up (q_up (q_up (q_up (q_up (q_up g 11 2 (4 : Int32)) 11 3 (g 9 3)) 11 6 (1 : Int32)) 17 1 (0 : Int32)) 17 2 (0 : Int32)) 17 3 (0 : Int32)) 17 4 (0 : Int32)), u) (fun _ _ => rfl) ?_
    unfold o_pull
    rw [if_neg (fun z => hc0 (hfl.trans z))]
    exact ⟨_, rfl, k_pc_bad ((((((((k_ft_rfl g).up (by omega)).up (by omega)).up (by omega)).up (by omega)).up (by omega)).up (by omega)).up (by omega)) (by decide) rfl hf⟩
end
section
/-! WALL lines of the class. -/
theorem t_hit_w1 {f f' : Nat → Int32} {x : Int32} {n : Nat} (h6 : n ≤ 6) (he : ∀ p, p < n → f p = f' p) : t_hit f' x n = 0 ↔ s_w1 f x n 0 = i_none := by
  rw [t_hit_0]
  rcases s_w1_some (c := f) (x := x) n 0 (by omega) with h | ⟨q, _, hq, hc, hs⟩
  · exact ⟨fun _ => h.1, fun _ q hq z => h.2 q (by omega) (by omega) ((he q hq).trans z)⟩
  · refine ⟨fun z => absurd ((he q (by omega)).symm.trans hc) (z q (by omega)), fun z => ?_⟩
    rw [hs] at z
    have e : q < 6 := by omega
    exfalso
    have y : (List.range 6).all (fun q => decide (¬ Int32.ofNat q = i_none)) = true := by decide +kernel
    exact of_decide_eq_true (List.all_eq_true.mp y q (List.mem_range.mpr e)) z
theorem k_dc.hc {r g : qM} {v : Int32} (h : k_dc r g) : k_dc (q_up r 70 10 v) g := ⟨h.1, h.2⟩
theorem k_dn.hc {r : qM} {v : Int32} (h : k_dn r) : k_dn (q_up r 70 10 v) := h.o rfl rfl
theorem sg_lw_1 (big : Nat → List Value → qM → qW → qR) (n0 : Nat) (G : qM) (U : qW) (v0 : Int32) (v1 : Int32) : qm_run pm_m big m_30 (n0 + 3) 2 [(0, .ref 12), (1, .int v0), (2, .int v1)] [] G U = qm_run pm_m big m_30 n0 7 [(0, .ref 12), (1, .int v0), (2, .int v1)] [.int (G 12 3), .int v1] G U := rfl
theorem sg_lw_2 (big : Nat → List Value → qM → qW → qR) (n0 : Nat) (G : qM) (U : qW) (v0 : Int32) (v1 : Int32) : qm_run pm_m big m_30 (n0 + 3) 10 [(0, .ref 12), (1, .int v0), (2, .int v1)] [] G U = qm_run pm_m big m_30 n0 15 [(0, .ref 12), (1, .int v0), (2, .int v1)] [.int v1, .ref 13] G U := rfl
theorem sg_lw_3 (big : Nat → List Value → qM → qW → qR) (n0 : Nat) (G : qM) (U : qW) (v0 : Int32) (v1 : Int32) (v2 : Int32) : qm_run pm_m big m_30 (n0 + 1) 16 [(0, .ref 12), (1, .int v0), (2, .int v1)] [.int v2] G U = qm_run pm_m big m_30 n0 17 [(0, .ref 12), (1, .int v0), (2, .int v1)] [.int v0, .int v2] G U := rfl
theorem sg_lw_4 (big : Nat → List Value → qM → qW → qR) (n0 : Nat) (G : qM) (U : qW) (v0 : Int32) (v1 : Int32) : qm_run pm_m big m_30 (n0 + 2) 22 [(0, .ref 12), (1, .int v0), (2, .int v1)] [] G U = qm_run pm_m big m_30 n0 2 [(0, .ref 12), (1, .int v0), (2, .int (v1 + (1 : Int32)))] [] G U := rfl
theorem sg_lw_5 (big : Nat → List Value → qM → qW → qR) (n0 : Nat) (G : qM) (U : qW) (v0 : Int32) : qm_run pm_m big m_30 (n0 + 2) 0 [(0, .ref 12), (1, .int v0)] [] G U = qm_run pm_m big m_30 n0 2 [(0, .ref 12), (1, .int v0), (2, .int (0 : Int32))] [] G U := rfl
theorem sg_lw_6 (big : Nat → List Value → qM → qW → qR) (n0 : Nat) (G : qM) (U : qW) (v0 : Int32) : qm_run pm_m big m_29 (n0 + 6) 0 [(0, .ref 12), (1, .int v0)] [] G U = qm_run pm_m big m_29 n0 8 [(0, .ref 12), (1, .int v0)] [.int (((G 12 2) >>> (v0 &&& 31)) &&& (1 : Int32))] G U := rfl
theorem sg_lw_7 (big : Nat → List Value → qM → qW → qR) (n0 : Nat) (G : qM) (U : qW) (v0 : Int32) : qm_run pm_m big m_28 (n0 + 2) 0 [(0, .ref 12), (1, .int v0)] [] G U = qm_run pm_m big m_28 n0 2 [(0, .ref 12), (1, .int v0)] [.int v0, .ref 12] G U := rfl
theorem sg_lw_8 (big : Nat → List Value → qM → qW → qR) (n0 : Nat) (G : qM) (U : qW) (v0 : Int32) : qm_run pm_m big m_28 (n0 + 2) 8 [(0, .ref 12), (1, .int v0)] [] G U = qm_run pm_m big m_28 n0 10 [(0, .ref 12), (1, .int v0)] [.int v0, .ref 12] G U := rfl
theorem sg_lw_9 (big : Nat → List Value → qM → qW → qR) (n0 : Nat) (G : qM) (U : qW) (v0 : Int32) (v1 : Int32) : qm_run pm_m big m_28 (n0 + 1) 13 [(0, .ref 12), (1, .int v0)] [.int v1] G U = qm_run pm_m big m_28 n0 15 [(0, .ref 12), (1, .int v0)] [.int (Int8.toInt32 (Int8.ofInt (-4))), .int v1] G U := rfl
theorem sg_lw_10 (big : Nat → List Value → qM → qW → qR) (n0 : Nat) (G : qM) (U : qW) (v0 : Int32) : qm_run pm_m big m_27 (n0 + 2) 0 [(0, .ref 11), (1, .int v0)] [] G U = qm_run pm_m big m_27 n0 4 [(0, .ref 11), (1, .int v0)] [.int (G 11 2)] G U := rfl
theorem sg_lw_11 (big : Nat → List Value → qM → qW → qR) (n0 : Nat) (G : qM) (U : qW) (v0 : Int32) : qm_run pm_m big m_27 (n0 + 3) 7 [(0, .ref 11), (1, .int v0)] [] G U = qm_run pm_m big m_27 n0 12 [(0, .ref 11), (1, .int v0)] [.int v0, .ref 12] G U := rfl
theorem sg_lw_12 (big : Nat → List Value → qM → qW → qR) (n0 : Nat) (G : qM) (U : qW) (v0 : Int32) : qm_run pm_m big m_27 (n0 + 6) 15 [(0, .ref 11), (1, .int v0)] [.int (0 : Int32)] G U = qm_run pm_m big m_27 n0 27 [(0, .ref 11), (1, .int v0)] [.int (G 9 3), .int (4 : Int32), .ref 11] G U := rfl
theorem sg_lw_13 (big : Nat → List Value → qM → qW → qR) (n0 : Nat) (G : qM) (U : qW) : qm_run pm_m big m_26 (n0 + 3) 0 [(0, .ref 11)] [] G U = qm_run pm_m big m_26 n0 4 [(0, .ref 11)] [.int (24 : Int32), .int (0 : Int32), .ref 11] G U := rfl
theorem sg_lw_14 (big : Nat → List Value → qM → qW → qR) (n0 : Nat) (G : qM) (U : qW) (v0 : Int32) : qm_run pm_m big m_26 (n0 + 3) 7 [(0, .ref 11)] [.int v0] G U = qm_run pm_m big m_26 n0 10 [(0, .ref 11), (1, .int v0)] [.int v0, .ref 11] G U := rfl
theorem sg_lw_15 (big : Nat → List Value → qM → qW → qR) (n0 : Nat) (G : qM) (U : qW) : qm_run pm_m big m_26 (n0 + 3) 7 [(0, .ref 11)] [.int (0 : Int32)] G U = qm_run pm_m big m_26 n0 10 [(0, .ref 11), (1, .int (0 : Int32))] [.int (0 : Int32), .ref 11] G U := rfl
theorem wi_12 (g : qM) (u : qW) {n : Nat} (x : Int32) (hn : g 12 3 = Int32.ofNat n) (h6 : n ≤ 6) : ∀ k i, i + k = n → q_EV m_30 2 [(0, .ref 12), (1, .int x), (2, .int (Int32.ofNat i))] [] g u (fun R => R = (some (.int (s_w1 (g 13) x k i)), g, u)) := by
  intro k
  induction k with
  | zero =>
    intro i hi
    refine q_step 3 7 [(0, .ref 12), (1, .int x), (2, .int (Int32.ofNat i))] [.int (g 12 3), .int (Int32.ofNat i)] g u (fun big n0 => sg_lw_1 big n0 g u x (Int32.ofNat i)) ?_
    refine q_ic_ge rfl (fun (hc0 : (g 12 3) ≤ (Int32.ofNat i)) => ?_) (fun hc0 => absurd (show (g 12 3) ≤ (Int32.ofNat i) from by rw [hn, q_le (by omega) (by omega)]; omega) hc0)
    refine q_ret 2 (some (.int (Int8.toInt32 (Int8.ofInt (-4)))), g, u) (fun _ _ => rfl) ?_
    rfl
  | succ k ih =>
    intro i hi
    refine q_step 3 7 [(0, .ref 12), (1, .int x), (2, .int (Int32.ofNat i))] [.int (g 12 3), .int (Int32.ofNat i)] g u (fun big n0 => sg_lw_1 big n0 g u x (Int32.ofNat i)) ?_
    refine q_ic_ge rfl (fun hc0 => absurd (show (g 12 3) ≤ (Int32.ofNat i) from hc0) (fun z => by rw [hn, q_le (by omega) (by omega)] at z; omega)) (fun (hc0 : ¬ ((g 12 3) ≤ (Int32.ofNat i))) => ?_)
    refine q_step 3 15 [(0, .ref 12), (1, .int x), (2, .int (Int32.ofNat i))] [.int (Int32.ofNat i), .ref 13] g u (fun big n0 => sg_lw_2 big n0 g u x (Int32.ofNat i)) ?_
    refine q_iald (j := i) (q_ixn (by omega) (by omega)) rfl rfl ?_
    refine q_step 1 17 [(0, .ref 12), (1, .int x), (2, .int (Int32.ofNat i))] [.int x, .int (g 13 i)] g u (fun big n0 => sg_lw_3 big n0 g u x (Int32.ofNat i) (g 13 i)) ?_
    refine q_ic_ne rfl (fun (hc1 : (g 13 i) = x) => ?_) (fun (hc1 : ¬ ((g 13 i) = x)) => ?_)
    · refine q_ret 2 (some (.int (Int32.ofNat i)), g, u) (fun _ _ => rfl) ?_
      unfold s_w1
      rw [if_pos hc1]
    · refine q_step 2 2 [(0, .ref 12), (1, .int x), (2, .int ((Int32.ofNat i) + (1 : Int32)))] [] g u (fun big n0 => sg_lw_4 big n0 g u x (Int32.ofNat i)) ?_
      rw [q_succ]
      unfold s_w1
      rw [if_neg hc1]
      exact ih (i + 1) (by omega)
theorem b_who12 (x : Int32) (g : qM) (u : qW) {n : Nat} (hn : g 12 3 = Int32.ofNat n) (h6 : n ≤ 6) : q_BS 30 [.ref 12, .int x] g u (some (.int (s_w1 (g 13) x n 0)), g, u) := by
  refine q_bx (mm := m_30) rfl (Nat.le_of_ble_eq_true rfl) rfl ?_
  refine q_step 2 2 [(0, .ref 12), (1, .int x), (2, .int (0 : Int32))] [] g u (fun big n0 => sg_lw_5 big n0 g u x) ?_
  exact wi_12 g u x hn h6 n 0 (by omega)
theorem b_hw12 (x : Int32) (g : qM) (u : qW) : q_BS 29 [.ref 12, .int x] g u (some (.int (if s_bit (g 12 2) x = 0 then 0 else 1)), g, u) := by
  refine q_bx (mm := m_29) rfl (Nat.le_of_ble_eq_true rfl) rfl ?_
  refine q_step 6 8 [(0, .ref 12), (1, .int x)] [.int (((g 12 2) >>> (x &&& 31)) &&& (1 : Int32))] g u (fun big n0 => sg_lw_6 big n0 g u x) ?_
  refine q_if_eq rfl (fun (hc0 : (((g 12 2) >>> (x &&& 31)) &&& (1 : Int32)) = 0) => ?_) (fun (hc0 : ¬ ((((g 12 2) >>> (x &&& 31)) &&& (1 : Int32)) = 0)) => ?_)
  · refine q_ret 2 (some (.int (0 : Int32)), g, u) (fun _ _ => rfl) ?_
    rw [if_pos (show s_bit (g 12 2) x = 0 from hc0)]
  · refine q_ret 3 (some (.int (1 : Int32)), g, u) (fun _ _ => rfl) ?_
    rw [if_neg (show ¬ s_bit (g 12 2) x = 0 from hc0)]
theorem b_fr12_0 (x : Int32) {n : Nat} (g : qM) (u : qW) (hn : g 12 3 = Int32.ofNat n) (h6 : n ≤ 6) (hb : s_bit (g 12 2) x = 0) (hw : s_w1 (g 13) x n 0 = i_none) : q_BS 28 [.ref 12, .int x] g u (some (.int 1), g, u) := by
  refine q_bx (mm := m_28) rfl (Nat.le_of_ble_eq_true rfl) rfl ?_
  refine q_step 2 2 [(0, .ref 12), (1, .int x)] [.int x, .ref 12] g u (fun big n0 => sg_lw_7 big n0 g u x) ?_
  refine q_call (M2 := 29) (rest := []) (b_hw12 _ _ _) (fun _ _ => rfl) ?_
  refine q_if_ne rfl (fun (hc0 : (if s_bit (g 12 2) x = 0 then (0 : Int32) else 1) = 0) => ?_) (fun hc0 => absurd (show (if s_bit (g 12 2) x = 0 then (0 : Int32) else 1) = 0 from if_pos hb) hc0)
  refine q_step 2 10 [(0, .ref 12), (1, .int x)] [.int x, .ref 12] g u (fun big n0 => sg_lw_8 big n0 g u x) ?_
  refine q_call (M2 := 30) (rest := []) (b_who12 x g u hn h6) (fun _ _ => rfl) ?_
  refine q_step 1 15 [(0, .ref 12), (1, .int x)] [.int (Int8.toInt32 (Int8.ofInt (-4))), .int (s_w1 (g 13) x n 0)] g u (fun big n0 => sg_lw_9 big n0 g u x (s_w1 (g 13) x n 0)) ?_
  refine q_ic_ne rfl (fun (hc1 : (s_w1 (g 13) x n 0) = (Int8.toInt32 (Int8.ofInt (-4)))) => ?_) (fun hc1 => absurd (show (s_w1 (g 13) x n 0) = (Int8.toInt32 (Int8.ofInt (-4))) from hw) hc1)
  refine q_ret 3 (some (.int (1 : Int32)), g, u) (fun _ _ => rfl) ?_
  rfl
theorem b_rtk_0 (x : Int32) {n : Nat} (g : qM) (u : qW) (hn : g 12 3 = Int32.ofNat n) (h6 : n ≤ 6) (hb : s_bit (g 12 2) x = 0) (hw : s_w1 (g 13) x n 0 = i_none) (h2 : g 11 2 = 0) : q_BS 27 [.ref 11, .int x] g u (none, g, u) := by
  refine q_bx (mm := m_27) rfl (Nat.le_of_ble_eq_true rfl) rfl ?_
  refine q_step 2 4 [(0, .ref 11), (1, .int x)] [.int (g 11 2)] g u (fun big n0 => sg_lw_10 big n0 g u x) ?_
  refine q_if_ne rfl (fun (hc0 : (g 11 2) = 0) => ?_) (fun hc0 => absurd (show (g 11 2) = 0 from h2) hc0)
  refine q_step 3 12 [(0, .ref 11), (1, .int x)] [.int x, .ref 12] g u (fun big n0 => sg_lw_11 big n0 g u x) ?_
  refine q_call (M2 := 28) (rest := []) (b_fr12_0 x g u hn h6 hb hw) (fun _ _ => rfl) ?_
  refine q_ret 2 (none, g, u) (fun _ _ => rfl) ?_
  rfl
theorem b_fr12_1 (x : Int32) {n : Nat} (g : qM) (u : qW) (hn : g 12 3 = Int32.ofNat n) (h6 : n ≤ 6) (hb : ¬ s_bit (g 12 2) x = 0) : q_BS 28 [.ref 12, .int x] g u (some (.int 0), g, u) := by
  refine q_bx (mm := m_28) rfl (Nat.le_of_ble_eq_true rfl) rfl ?_
  refine q_step 2 2 [(0, .ref 12), (1, .int x)] [.int x, .ref 12] g u (fun big n0 => sg_lw_7 big n0 g u x) ?_
  refine q_call (M2 := 29) (rest := []) (b_hw12 _ _ _) (fun _ _ => rfl) ?_
  refine q_if_ne rfl (fun hc0 => absurd (show (if s_bit (g 12 2) x = 0 then (0 : Int32) else 1) = 0 from hc0) (by rw [if_neg hb]; decide)) (fun (hc0 : ¬ ((if s_bit (g 12 2) x = 0 then (0 : Int32) else 1) = 0)) => ?_)
  refine q_ret 2 (some (.int (0 : Int32)), g, u) (fun _ _ => rfl) ?_
  rfl
theorem b_rtk_1 (x : Int32) {n : Nat} (g : qM) (u : qW) (hn : g 12 3 = Int32.ofNat n) (h6 : n ≤ 6) (hb : ¬ s_bit (g 12 2) x = 0) (h2 : g 11 2 = 0) : q_BS 27 [.ref 11, .int x] g u (none, q_up (q_up g 11 2 4) 11 3 (g 9 3), u) := by
  refine q_bx (mm := m_27) rfl (Nat.le_of_ble_eq_true rfl) rfl ?_
  refine q_step 2 4 [(0, .ref 11), (1, .int x)] [.int (g 11 2)] g u (fun big n0 => sg_lw_10 big n0 g u x) ?_
  refine q_if_ne rfl (fun (hc0 : (g 11 2) = 0) => ?_) (fun hc0 => absurd (show (g 11 2) = 0 from h2) hc0)
  refine q_step 3 12 [(0, .ref 11), (1, .int x)] [.int x, .ref 12] g u (fun big n0 => sg_lw_11 big n0 g u x) ?_
  refine q_call (M2 := 28) (rest := []) (b_fr12_1 x g u hn h6 hb) (fun _ _ => rfl) ?_
  refine q_step 6 27 [(0, .ref 11), (1, .int x)] [.int (g 9 3), .int (4 : Int32), .ref 11] g u (fun big n0 => sg_lw_12 big n0 g u x) ?_
  refine q_call (M2 := 20) (rest := []) (b_refuse _ _ _ _) (fun _ _ => rfl) ?_
  refine q_ret 1 (none, (q_up (q_up g 11 2 (4 : Int32)) 11 3 (g 9 3)), u) (fun _ _ => rfl) ?_
  rfl
theorem b_fr12_2 (x : Int32) {n : Nat} (g : qM) (u : qW) (hn : g 12 3 = Int32.ofNat n) (h6 : n ≤ 6) (hb : s_bit (g 12 2) x = 0) (hw : ¬ s_w1 (g 13) x n 0 = i_none) : q_BS 28 [.ref 12, .int x] g u (some (.int 0), g, u) := by
  refine q_bx (mm := m_28) rfl (Nat.le_of_ble_eq_true rfl) rfl ?_
  refine q_step 2 2 [(0, .ref 12), (1, .int x)] [.int x, .ref 12] g u (fun big n0 => sg_lw_7 big n0 g u x) ?_
  refine q_call (M2 := 29) (rest := []) (b_hw12 _ _ _) (fun _ _ => rfl) ?_
  refine q_if_ne rfl (fun (hc0 : (if s_bit (g 12 2) x = 0 then (0 : Int32) else 1) = 0) => ?_) (fun hc0 => absurd (show (if s_bit (g 12 2) x = 0 then (0 : Int32) else 1) = 0 from if_pos hb) hc0)
  refine q_step 2 10 [(0, .ref 12), (1, .int x)] [.int x, .ref 12] g u (fun big n0 => sg_lw_8 big n0 g u x) ?_
  refine q_call (M2 := 30) (rest := []) (b_who12 x g u hn h6) (fun _ _ => rfl) ?_
  refine q_step 1 15 [(0, .ref 12), (1, .int x)] [.int (Int8.toInt32 (Int8.ofInt (-4))), .int (s_w1 (g 13) x n 0)] g u (fun big n0 => sg_lw_9 big n0 g u x (s_w1 (g 13) x n 0)) ?_
  refine q_ic_ne rfl (fun hc1 => absurd (show (s_w1 (g 13) x n 0) = (Int8.toInt32 (Int8.ofInt (-4))) from hc1) (hw)) (fun (hc1 : ¬ ((s_w1 (g 13) x n 0) = (Int8.toInt32 (Int8.ofInt (-4))))) => ?_)
  refine q_ret 2 (some (.int (0 : Int32)), g, u) (fun _ _ => rfl) ?_
  rfl
theorem b_rtk_2 (x : Int32) {n : Nat} (g : qM) (u : qW) (hn : g 12 3 = Int32.ofNat n) (h6 : n ≤ 6) (hb : s_bit (g 12 2) x = 0) (hw : ¬ s_w1 (g 13) x n 0 = i_none) (h2 : g 11 2 = 0) : q_BS 27 [.ref 11, .int x] g u (none, q_up (q_up g 11 2 4) 11 3 (g 9 3), u) := by
  refine q_bx (mm := m_27) rfl (Nat.le_of_ble_eq_true rfl) rfl ?_
  refine q_step 2 4 [(0, .ref 11), (1, .int x)] [.int (g 11 2)] g u (fun big n0 => sg_lw_10 big n0 g u x) ?_
  refine q_if_ne rfl (fun (hc0 : (g 11 2) = 0) => ?_) (fun hc0 => absurd (show (g 11 2) = 0 from h2) hc0)
  refine q_step 3 12 [(0, .ref 11), (1, .int x)] [.int x, .ref 12] g u (fun big n0 => sg_lw_11 big n0 g u x) ?_
  refine q_call (M2 := 28) (rest := []) (b_fr12_2 x g u hn h6 hb hw) (fun _ _ => rfl) ?_
  refine q_step 6 27 [(0, .ref 11), (1, .int x)] [.int (g 9 3), .int (4 : Int32), .ref 11] g u (fun big n0 => sg_lw_12 big n0 g u x) ?_
  refine q_call (M2 := 20) (rest := []) (b_refuse _ _ _ _) (fun _ _ => rfl) ?_
  refine q_ret 1 (none, (q_up (q_up g 11 2 (4 : Int32)) 11 3 (g 9 3)), u) (fun _ _ => rfl) ?_
  rfl
theorem b_rtk_f (x : Int32) (g : qM) (u : qW) (h2 : ¬ g 11 2 = 0) : q_BS 27 [.ref 11, .int x] g u (none, g, u) := by
  refine q_bx (mm := m_27) rfl (Nat.le_of_ble_eq_true rfl) rfl ?_
  refine q_step 2 4 [(0, .ref 11), (1, .int x)] [.int (g 11 2)] g u (fun big n0 => sg_lw_10 big n0 g u x) ?_
  refine q_if_ne rfl (fun hc0 => absurd (show (g 11 2) = 0 from hc0) (h2)) (fun (hc0 : ¬ ((g 11 2) = 0)) => ?_)
  refine q_ret 1 (none, g, u) (fun _ _ => rfl) ?_
  rfl
theorem c_rtk_0 {r g : qM} {x : Int32} (u : qW) (hd : k_dc r g) (hn : k_dn r) (h2 : g 11 2 = 0) (hb : s_bit (r 73 20) x = 0) (hw : t_hit (r 73) x (t_n r) = 0) : q_BS 27 [.ref 11, .int x] g u (none, g, u) := b_rtk_0 x g u (hd.1.2.2.2.1.trans hn.1) (by have := hn.2.1; omega) (by rw [hd.1.2.2.1]; exact hb) ((t_hit_w1 (by have := hn.2.1; omega) (fun p hp => (hd.2.2.1 p hp).1)).mp hw) h2
theorem c_rtk_1 {r g : qM} {x : Int32} (u : qW) (hd : k_dc r g) (hn : k_dn r) (h2 : g 11 2 = 0) (hb : ¬ s_bit (r 73 20) x = 0) : q_BS 27 [.ref 11, .int x] g u (none, q_up (q_up g 11 2 4) 11 3 (g 9 3), u) := b_rtk_1 x g u (hd.1.2.2.2.1.trans hn.1) (by have := hn.2.1; omega) (by rw [hd.1.2.2.1]; exact hb) h2
theorem c_rtk_2 {r g : qM} {x : Int32} (u : qW) (hd : k_dc r g) (hn : k_dn r) (h2 : g 11 2 = 0) (hb : s_bit (r 73 20) x = 0) (hw : ¬ t_hit (r 73) x (t_n r) = 0) : q_BS 27 [.ref 11, .int x] g u (none, q_up (q_up g 11 2 4) 11 3 (g 9 3), u) := b_rtk_2 x g u (hd.1.2.2.2.1.trans hn.1) (by have := hn.2.1; omega) (by rw [hd.1.2.2.1]; exact hb) (fun z => hw ((t_hit_w1 (by have := hn.2.1; omega) (fun p hp => (hd.2.2.1 p hp).1)).mpr z)) h2
theorem c_lwall {s f p : Nat} {r : qM} (g : qM) (u : qW) (hc : k_cc s f p r g) : ∃ R, q_BS 26 [.ref 11] g u R ∧ ∃ g', R = (none, g', u) ∧ k_pc s (o_wall (g 10) s p r) g g' := by
  refine q_bs (mm := m_26) rfl (Nat.le_of_ble_eq_true rfl) rfl ?_
  have ht := k_tk.of hc
  obtain ⟨⟨hs, h160, hp5, hp, h2, hf⟩, hd, hn⟩ := hc
  refine q_step 3 4 [(0, .ref 11)] [.int (24 : Int32), .int (0 : Int32), .ref 11] g u (fun big n0 => sg_lw_13 big n0 g u) ?_
  by_cases hc0 : t_er (g 10) s p (0 : Int32) (24 : Int32) = 0
  · obtain ⟨g1, q1, f1, t1, i1⟩ := c_numk (g := g) u ht hc0
    refine q_call (M2 := 24) (rest := []) (q1) (fun _ _ => rfl) ?_
    refine q_step 3 10 [(0, .ref 11), (1, .int (t_va (g 10) s p))] [.int (t_va (g 10) s p), .ref 11] g1 u (fun big n0 => sg_lw_14 big n0 g1 u (t_va (g 10) s p)) ?_
    by_cases hc1 : s_bit (r 73 20) (t_va (g 10) s p) = 0
    · by_cases hc2 : t_hit (r 73) (t_va (g 10) s p) (t_n r) = 0
      · refine q_call (M2 := 27) (rest := []) (c_rtk_0 u (hd.f9 f1) hn t1.2.2.2.2.2 hc1 hc2) (fun _ _ => rfl) ?_
        refine q_ret 10 (none, (q_up g1 12 2 ((g1 12 2) ||| ((1 : Int32) <<< ((t_va (g 10) s p) &&& 31)))), u) (fun _ _ => rfl) ?_
        unfold o_wall o_free
        rw [o_num, if_pos hc0]
        rw [if_pos hc1]
        rw [if_pos hc2]
        refine ⟨_, rfl, k_pc_ok (((k_ft_rfl g).trans f1.ft).up (by omega)) t1.2.2.2.2.2 t1.2.2.2.1 t1.2.2.2.2.1 ?_⟩
        have dd := (hd.f9 f1)
        rw [show (g1 12 2) = r 73 20 from dd.1.2.2.1]
        exact dd.hc.walls hn.hc
      · refine q_call (M2 := 27) (rest := []) (c_rtk_2 u (hd.f9 f1) hn t1.2.2.2.2.2 hc1 hc2) (fun _ _ => rfl) ?_
        refine q_ret 10 (none, (q_up (q_up (q_up g1 11 2 (4 : Int32)) 11 3 (g1 9 3)) 12 2 ((g1 12 2) ||| ((1 : Int32) <<< ((t_va (g 10) s p) &&& 31)))), u) (fun _ _ => rfl) ?_
        unfold o_wall o_free
        rw [o_num, if_pos hc0]
        rw [if_pos hc1]
        rw [if_neg hc2]
        exact ⟨_, rfl, k_pc_bad (((((k_ft_rfl g).trans f1.ft).up (by omega)).up (by omega)).up (by omega)) (by decide) rfl i1⟩
    · refine q_call (M2 := 27) (rest := []) (c_rtk_1 u (hd.f9 f1) hn t1.2.2.2.2.2 hc1) (fun _ _ => rfl) ?_
      refine q_ret 10 (none, (q_up (q_up (q_up g1 11 2 (4 : Int32)) 11 3 (g1 9 3)) 12 2 ((g1 12 2) ||| ((1 : Int32) <<< ((t_va (g 10) s p) &&& 31)))), u) (fun _ _ => rfl) ?_
      unfold o_wall o_free
      rw [o_num, if_pos hc0]
      rw [if_neg hc1]
      exact ⟨_, rfl, k_pc_bad (((((k_ft_rfl g).trans f1.ft).up (by omega)).up (by omega)).up (by omega)) (by decide) rfl i1⟩
  · obtain ⟨g1, q1, f1, x1, y1⟩ := c_nume (g := g) u ht hc0
    refine q_call (M2 := 24) (rest := []) (q1) (fun _ _ => rfl) ?_
    refine q_step 3 10 [(0, .ref 11), (1, .int (0 : Int32))] [.int (0 : Int32), .ref 11] g1 u (fun big n0 => sg_lw_15 big n0 g1 u) ?_
    refine q_call (M2 := 27) (rest := []) (b_rtk_f _ _ _ (show ¬ (g1 11 2) = 0 from (by rw [x1]; exact hc0))) (fun _ _ => rfl) ?_
    refine q_ret 10 (none, (q_up g1 12 2 ((g1 12 2) ||| ((1 : Int32) <<< ((0 : Int32) &&& 31)))), u) (fun _ _ => rfl) ?_
    unfold o_wall o_free
    rw [o_num, if_neg hc0]
    exact ⟨_, rfl, k_pc_bad (((k_ft_rfl g).trans f1.ft).up (by omega)) hc0 x1 y1⟩
end
section
/-! LINES of ONES and goals, the class. -/
theorem k_dc.e2 {r g : qM} {x : Int32} (h : k_dc r g) : k_dc r (q_up g 11 2 x) := ⟨h.1, h.2⟩
theorem k_dc.e3 {r g : qM} {x : Int32} (h : k_dc r g) : k_dc r (q_up g 11 3 x) := ⟨h.1, h.2⟩
theorem k_n1 {n : Nat} (h : n ≤ 5) : (Int32.ofNat n + 1).toInt.toNat = n + 1 := by
  have z : (List.range 6).all (fun n => decide ((Int32.ofNat n + 1).toInt.toNat = n + 1)) = true := by decide +kernel
  exact of_decide_eq_true (List.all_eq_true.mp z n (List.mem_range.mpr (by omega)))
theorem k_n5 {r : qM} (hn : k_dn r) (h : r 70 8 < 5) : t_n r < 5 := by
  rw [hn.1, show (5 : Int32) = Int32.ofNat 5 from rfl, q_lt (by have := hn.2.1; omega) (by omega)] at h
  exact h
theorem k_dc.one {r g : qM} {c m st : Int32} (h : k_dc r g) (hn : k_dn r) (h5 : t_n r < 5) : k_dc (q_up (q_up (q_up (q_up r 73 (t_n r) c) 73 (5 + t_n r) m) 73 (10 + t_n r) st) 70 8 (r 70 8 + 1)) (q_up (q_up (q_up (q_up g 13 (t_n r) c) 14 (t_n r) m) 15 (t_n r) st) 12 3 (g 12 3 + 1)) := by
  have en : t_n (q_up (q_up (q_up (q_up r 73 (t_n r) c) 73 (5 + t_n r) m) 73 (10 + t_n r) st) 70 8 (r 70 8 + 1)) = t_n r + 1 := by
    show (r 70 8 + 1).toInt.toNat = t_n r + 1
    rw [hn.1, k_n1 (by omega)]
  have hr : ∀ j, q_up (q_up (q_up (q_up r 73 (t_n r) c) 73 (5 + t_n r) m) 73 (10 + t_n r) st) 70 8 (r 70 8 + 1) 73 j = if j = 10 + t_n r then st else if j = 5 + t_n r then m else if j = t_n r then c else r 73 j := fun j => by
    rw [q_up_ne (by decide), q_up_at, q_up_at, q_up_at]
  refine ⟨⟨h.1.1, h.1.2.1, ?_, congrArg (· + 1) h.1.2.2.2.1, ?_, h.1.2.2.2.2.2⟩, fun d h1 h2 => ?_, fun p hp => ?_, fun p hp => ?_, h.2.2.2.2⟩
  · rw [hr, if_neg (by omega), if_neg (by omega), if_neg (by omega)]
    exact h.1.2.2.1
  · rw [hr, if_neg (by omega), if_neg (by omega), if_neg (by omega)]
    exact h.1.2.2.2.2.1
  · rw [hr, if_neg (by omega), if_neg (by omega), if_neg (by omega)]
    exact h.2.1 d h1 h2
  · rw [en] at hp
    rw [hr, hr, hr]
    by_cases e : p = t_n r
    · subst e
      rw [if_neg (by omega), if_neg (by omega), if_pos rfl, if_neg (by omega), if_pos rfl, if_pos rfl]
      exact ⟨by rw [q_up_ne (by decide), q_up_ne (by decide), q_up_ne (by decide), q_up_at, if_pos rfl], by rw [q_up_ne (by decide), q_up_ne (by decide), q_up_at, if_pos rfl], by rw [q_up_ne (by decide), q_up_at, if_pos rfl]⟩
    · have z := h.2.2.1 p (by omega)
      rw [if_neg (by omega), if_neg (by omega), if_neg e, if_neg (by omega), if_neg (by omega), if_neg (by omega), if_neg (by omega), if_neg (by omega), if_neg (by omega)]
      exact ⟨by rw [q_up_ne (by decide), q_up_ne (by decide), q_up_ne (by decide), q_up_at, if_neg e]; exact z.1, by rw [q_up_ne (by decide), q_up_ne (by decide), q_up_at, if_neg e]; exact z.2.1, by rw [q_up_ne (by decide), q_up_at, if_neg e]; exact z.2.2⟩
  · rw [hr, if_neg (by omega), if_neg (by omega), if_neg (by omega)]
    exact h.2.2.2.1 p hp
theorem t_er_rng {b : Nat → Int32} {s p : Nat} {lo hi : Int32} (h : t_er b s p lo hi = 0) : ¬ t_va b s p < lo ∧ ¬ hi < t_va b s p := by
  unfold t_er at h
  by_cases e : t_ki b s p = 2
  · rw [if_pos e] at h
    by_cases e1 : t_va b s p < lo
    · rw [if_pos e1] at h
      exact absurd h (by decide)
    · rw [if_neg e1] at h
      by_cases e2 : hi < t_va b s p
      · rw [if_pos e2] at h
        exact absurd h (by decide)
      · exact ⟨e1, e2⟩
  · rw [if_neg e] at h
    split at h <;> exact absurd h (by decide)
theorem k_v4 {v : Int32} (h : ¬ v < 0 ∧ ¬ (4 : Int32) < v) : v = Int32.ofNat v.toInt.toNat ∧ v.toInt.toNat ≤ 4 := by
  have c0 : (0 : Int32).toInt = 0 := rfl
  have c4 : (4 : Int32).toInt = 4 := rfl
  rw [Int32.lt_iff_toInt_lt, Int32.lt_iff_toInt_lt, c0, c4] at h
  refine ⟨?_, by omega⟩
  have z : (List.range 5).all (fun n => decide ((Int32.ofNat n).toInt = (n : Int))) = true := by decide +kernel
  have y := of_decide_eq_true (List.all_eq_true.mp z v.toInt.toNat (List.mem_range.mpr (by omega)))
  exact q_inj (by rw [y]; omega)
theorem k_ix4 {v : Int32} (h : ¬ v < 0 ∧ ¬ (4 : Int32) < v) : q_ix v v.toInt.toNat 6 := by
  have e := k_v4 h
  have z : q_ix (Int32.ofNat v.toInt.toNat) v.toInt.toNat 6 := q_ixn (by omega) (by omega)
  rw [← e.1] at z
  exact z
theorem k_dc.goal {r g : qM} {c x y : Int32} {j : Nat} (h : k_dc r g) (hn : k_dn r) (hj : j ≤ 4) : k_dc (q_up (q_up (q_up r 70 11 x) 70 10 y) 73 (15 + j) c) (q_up g 16 j c) := by
  have h5 := hn.2.1
  refine ⟨⟨h.1.1, h.1.2.1, ?_, h.1.2.2.2.1, ?_, h.1.2.2.2.2.2⟩, fun d h1 h2 => ?_, fun p hp => ?_, fun p hp => ?_, h.2.2.2.2⟩
  · rw [q_up_at, if_neg (by omega)]
    exact h.1.2.2.1
  · rw [q_up_at, if_neg (by omega)]
    exact h.1.2.2.2.2.1
  · rw [q_up_at, if_neg (by omega)]
    exact h.2.1 d h1 h2
  · have hp' : p < t_n r := hp
    rw [q_up_at, q_up_at, q_up_at, if_neg (by omega), if_neg (by omega), if_neg (by omega)]
    exact h.2.2.1 p hp
  · rw [q_up_at, q_up_at]
    by_cases e : p = j
    · rw [if_pos e, if_pos (by omega)]
    · rw [if_neg e, if_neg (by omega)]
      exact h.2.2.2.1 p hp
theorem sg_lo_1 (big : Nat → List Value → qM → qW → qR) (n0 : Nat) (G : qM) (U : qW) (v0 : Int32) (v1 : Int32) (v2 : Int32) : qm_run pm_m big m_32 (n0 + 5) 0 [(0, .ref 12), (1, .int v0), (2, .int v1), (3, .int v2)] [] G U = qm_run pm_m big m_32 n0 9 [(0, .ref 12), (1, .int v0), (2, .int v1), (3, .int v2)] [.int (6 : Int32), .int (G 12 3)] G U := rfl
theorem sg_lo_2 (big : Nat → List Value → qM → qW → qR) (n0 : Nat) (G : qM) (U : qW) (v0 : Int32) (v1 : Int32) (v2 : Int32) : qm_run pm_m big m_32 (n0 + 5) 12 [(0, .ref 12), (1, .int v0), (2, .int v1), (3, .int v2)] [] G U = qm_run pm_m big m_32 n0 21 [(0, .ref 12), (1, .int v0), (2, .int v1), (3, .int v2)] [.int v0, .int (G 12 3), .ref 13] G U := rfl
theorem sg_lo_3 (big : Nat → List Value → qM → qW → qR) (n0 : Nat) (G : qM) (U : qW) (v0 : Int32) (v1 : Int32) (v2 : Int32) : qm_run pm_m big m_32 (n0 + 5) 22 [(0, .ref 12), (1, .int v0), (2, .int v1), (3, .int v2)] [] G U = qm_run pm_m big m_32 n0 31 [(0, .ref 12), (1, .int v0), (2, .int v1), (3, .int v2)] [.int v1, .int (G 12 3), .ref 14] G U := rfl
theorem sg_lo_4 (big : Nat → List Value → qM → qW → qR) (n0 : Nat) (G : qM) (U : qW) (v0 : Int32) (v1 : Int32) (v2 : Int32) : qm_run pm_m big m_32 (n0 + 5) 32 [(0, .ref 12), (1, .int v0), (2, .int v1), (3, .int v2)] [] G U = qm_run pm_m big m_32 n0 41 [(0, .ref 12), (1, .int v0), (2, .int v1), (3, .int v2)] [.int v2, .int (G 12 3), .ref 15] G U := rfl
theorem sg_lo_5 (big : Nat → List Value → qM → qW → qR) (n0 : Nat) (G : qM) (U : qW) (v0 : Int32) : qm_run pm_m big m_31 (n0 + 4) 0 [(0, .ref 11), (1, .int v0)] [] G U = qm_run pm_m big m_31 n0 8 [(0, .ref 11), (1, .int v0)] [.int (5 : Int32), .int (G 12 3)] G U := rfl
theorem sg_lo_6 (big : Nat → List Value → qM → qW → qR) (n0 : Nat) (G : qM) (U : qW) (v0 : Int32) : qm_run pm_m big m_31 (n0 + 3) 24 [(0, .ref 11), (1, .int v0)] [] G U = qm_run pm_m big m_31 n0 28 [(0, .ref 11), (1, .int v0)] [.int (24 : Int32), .int (0 : Int32), .ref 11] G U := rfl
theorem sg_lo_7 (big : Nat → List Value → qM → qW → qR) (n0 : Nat) (G : qM) (U : qW) (v0 : Int32) (v1 : Int32) : qm_run pm_m big m_31 (n0 + 3) 31 [(0, .ref 11), (1, .int v0)] [.int v1] G U = qm_run pm_m big m_31 n0 34 [(0, .ref 11), (1, .int v0), (2, .int v1)] [.int v1, .ref 11] G U := rfl
theorem sg_lo_8 (big : Nat → List Value → qM → qW → qR) (n0 : Nat) (G : qM) (U : qW) (v0 : Int32) (v1 : Int32) : qm_run pm_m big m_31 (n0 + 3) 37 [(0, .ref 11), (1, .int v0), (2, .int v1)] [] G U = qm_run pm_m big m_31 n0 40 [(0, .ref 11), (1, .int v0), (2, .int v1)] [.int (3 : Int32), .int (0 : Int32), .ref 11] G U := rfl
theorem sg_lo_9 (big : Nat → List Value → qM → qW → qR) (n0 : Nat) (G : qM) (U : qW) (v0 : Int32) (v1 : Int32) (v2 : Int32) : qm_run pm_m big m_31 (n0 + 6) 43 [(0, .ref 11), (1, .int v0), (2, .int v1)] [.int v2] G U = qm_run pm_m big m_31 n0 51 [(0, .ref 11), (1, .int v0), (2, .int v1), (3, .int v2)] [.int v0, .int v2, .int v1, .ref 12] G U := rfl
theorem sg_lo_10 (big : Nat → List Value → qM → qW → qR) (n0 : Nat) (G : qM) (U : qW) (v0 : Int32) (v1 : Int32) : qm_run pm_m big m_31 (n0 + 6) 43 [(0, .ref 11), (1, .int v0), (2, .int v1)] [.int (0 : Int32)] G U = qm_run pm_m big m_31 n0 51 [(0, .ref 11), (1, .int v0), (2, .int v1), (3, .int (0 : Int32))] [.int v0, .int (0 : Int32), .int v1, .ref 12] G U := rfl
theorem sg_lo_11 (big : Nat → List Value → qM → qW → qR) (n0 : Nat) (G : qM) (U : qW) (v0 : Int32) : qm_run pm_m big m_31 (n0 + 3) 31 [(0, .ref 11), (1, .int v0)] [.int (0 : Int32)] G U = qm_run pm_m big m_31 n0 34 [(0, .ref 11), (1, .int v0), (2, .int (0 : Int32))] [.int (0 : Int32), .ref 11] G U := rfl
theorem sg_lo_12 (big : Nat → List Value → qM → qW → qR) (n0 : Nat) (G : qM) (U : qW) (v0 : Int32) : qm_run pm_m big m_31 (n0 + 3) 37 [(0, .ref 11), (1, .int v0), (2, .int (0 : Int32))] [] G U = qm_run pm_m big m_31 n0 40 [(0, .ref 11), (1, .int v0), (2, .int (0 : Int32))] [.int (3 : Int32), .int (0 : Int32), .ref 11] G U := rfl
theorem sg_lo_13 (big : Nat → List Value → qM → qW → qR) (n0 : Nat) (G : qM) (U : qW) (v0 : Int32) : qm_run pm_m big m_31 (n0 + 6) 43 [(0, .ref 11), (1, .int v0), (2, .int (0 : Int32))] [.int (0 : Int32)] G U = qm_run pm_m big m_31 n0 51 [(0, .ref 11), (1, .int v0), (2, .int (0 : Int32)), (3, .int (0 : Int32))] [.int v0, .int (0 : Int32), .int (0 : Int32), .ref 12] G U := rfl
theorem sg_lo_14 (big : Nat → List Value → qM → qW → qR) (n0 : Nat) (G : qM) (U : qW) (v0 : Int32) : qm_run pm_m big m_31 (n0 + 5) 11 [(0, .ref 11), (1, .int v0)] [] G U = qm_run pm_m big m_31 n0 20 [(0, .ref 11), (1, .int v0)] [.int (G 9 3), .int (5 : Int32), .ref 11] G U := rfl
theorem sg_lo_15 (big : Nat → List Value → qM → qW → qR) (n0 : Nat) (G : qM) (U : qW) : qm_run pm_m big m_35 (n0 + 3) 0 [(0, .ref 11)] [] G U = qm_run pm_m big m_35 n0 3 [(0, .ref 11)] [.int (4 : Int32), .int (0 : Int32), .ref 11] G U := rfl
theorem sg_lo_16 (big : Nat → List Value → qM → qW → qR) (n0 : Nat) (G : qM) (U : qW) (v0 : Int32) : qm_run pm_m big m_35 (n0 + 3) 6 [(0, .ref 11)] [.int v0] G U = qm_run pm_m big m_35 n0 11 [(0, .ref 11), (1, .int v0)] [.int (G 11 2)] G U := rfl
theorem sg_lo_17 (big : Nat → List Value → qM → qW → qR) (n0 : Nat) (G : qM) (U : qW) (v0 : Int32) : qm_run pm_m big m_35 (n0 + 4) 14 [(0, .ref 11), (1, .int v0)] [] G U = qm_run pm_m big m_35 n0 22 [(0, .ref 11), (1, .int v0)] [.int v0, .ref 16] G U := rfl
theorem sg_lo_18 (big : Nat → List Value → qM → qW → qR) (n0 : Nat) (G : qM) (U : qW) (v0 : Int32) (v1 : Int32) : qm_run pm_m big m_35 (n0 + 1) 23 [(0, .ref 11), (1, .int v0)] [.int v1] G U = qm_run pm_m big m_35 n0 25 [(0, .ref 11), (1, .int v0)] [.int (Int8.toInt32 (Int8.ofInt (-4))), .int v1] G U := rfl
theorem sg_lo_19 (big : Nat → List Value → qM → qW → qR) (n0 : Nat) (G : qM) (U : qW) (v0 : Int32) : qm_run pm_m big m_35 (n0 + 3) 40 [(0, .ref 11), (1, .int v0)] [] G U = qm_run pm_m big m_35 n0 44 [(0, .ref 11), (1, .int v0)] [.int (24 : Int32), .int (0 : Int32), .ref 11] G U := rfl
theorem sg_lo_20 (big : Nat → List Value → qM → qW → qR) (n0 : Nat) (G : qM) (U : qW) (v0 : Int32) (v1 : Int32) : qm_run pm_m big m_35 (n0 + 3) 47 [(0, .ref 11), (1, .int v0)] [.int v1] G U = qm_run pm_m big m_35 n0 52 [(0, .ref 11), (1, .int v0), (2, .int v1)] [.int (G 11 2)] G U := rfl
theorem sg_lo_21 (big : Nat → List Value → qM → qW → qR) (n0 : Nat) (G : qM) (U : qW) (v0 : Int32) (v1 : Int32) : qm_run pm_m big m_35 (n0 + 5) 55 [(0, .ref 11), (1, .int v0), (2, .int v1)] [] G U = qm_run pm_m big m_35 n0 64 [(0, .ref 11), (1, .int v0), (2, .int v1)] [.int v1, .int v0, .ref 16] G U := rfl
theorem sg_lo_22 (big : Nat → List Value → qM → qW → qR) (n0 : Nat) (G : qM) (U : qW) (v0 : Int32) : qm_run pm_m big m_35 (n0 + 3) 47 [(0, .ref 11), (1, .int v0)] [.int (0 : Int32)] G U = qm_run pm_m big m_35 n0 52 [(0, .ref 11), (1, .int v0), (2, .int (0 : Int32))] [.int (G 11 2)] G U := rfl
theorem sg_lo_23 (big : Nat → List Value → qM → qW → qR) (n0 : Nat) (G : qM) (U : qW) (v0 : Int32) : qm_run pm_m big m_35 (n0 + 5) 28 [(0, .ref 11), (1, .int v0)] [] G U = qm_run pm_m big m_35 n0 37 [(0, .ref 11), (1, .int v0)] [.int (G 9 3), .int (4 : Int32), .ref 11] G U := rfl
theorem sg_lo_24 (big : Nat → List Value → qM → qW → qR) (n0 : Nat) (G : qM) (U : qW) : qm_run pm_m big m_35 (n0 + 3) 6 [(0, .ref 11)] [.int (0 : Int32)] G U = qm_run pm_m big m_35 n0 11 [(0, .ref 11), (1, .int (0 : Int32))] [.int (G 11 2)] G U := rfl
theorem sg_lo_25 (big : Nat → List Value → qM → qW → qR) (n0 : Nat) (G : qM) (U : qW) : qm_run pm_m big m_35 (n0 + 3) 40 [(0, .ref 11), (1, .int (0 : Int32))] [] G U = qm_run pm_m big m_35 n0 44 [(0, .ref 11), (1, .int (0 : Int32))] [.int (24 : Int32), .int (0 : Int32), .ref 11] G U := rfl
theorem sg_lo_26 (big : Nat → List Value → qM → qW → qR) (n0 : Nat) (G : qM) (U : qW) : qm_run pm_m big m_35 (n0 + 3) 47 [(0, .ref 11), (1, .int (0 : Int32))] [.int (0 : Int32)] G U = qm_run pm_m big m_35 n0 52 [(0, .ref 11), (1, .int (0 : Int32)), (2, .int (0 : Int32))] [.int (G 11 2)] G U := rfl
theorem b_add12 {n : Nat} (c m st : Int32) (g : qM) (u : qW) (hn : g 12 3 = Int32.ofNat n) (h5 : n ≤ 5) : q_BS 32 [.ref 12, .int c, .int m, .int st] g u (none, q_up (q_up (q_up (q_up g 13 n c) 14 n m) 15 n st) 12 3 (g 12 3 + 1), u) := by
  refine q_bx (mm := m_32) rfl (Nat.le_of_ble_eq_true rfl) rfl ?_
  refine q_step 5 9 [(0, .ref 12), (1, .int c), (2, .int m), (3, .int st)] [.int (6 : Int32), .int (g 12 3)] g u (fun big n0 => sg_lo_1 big n0 g u c m st) ?_
  refine q_ic_ge rfl (fun hc0 => absurd (show (6 : Int32) ≤ (g 12 3) from hc0) (fun z => by rw [hn, show (6 : Int32) = Int32.ofNat 6 from rfl, q_le (by omega) (by omega)] at z; omega)) (fun (hc0 : ¬ ((6 : Int32) ≤ (g 12 3))) => ?_)
  refine q_step 5 21 [(0, .ref 12), (1, .int c), (2, .int m), (3, .int st)] [.int c, .int (g 12 3), .ref 13] g u (fun big n0 => sg_lo_2 big n0 g u c m st) ?_
  refine q_iast (j := n) ((show q_ix (g 12 3) n 6 from by rw [hn]; exact q_ixn (by omega) (by omega))) rfl rfl ?_
  refine q_step 5 31 [(0, .ref 12), (1, .int c), (2, .int m), (3, .int st)] [.int m, .int (g 12 3), .ref 14] (q_up g 13 n c) u (fun big n0 => sg_lo_3 big n0 (q_up g 13 n c) u c m st) ?_
  refine q_iast (j := n) ((show q_ix (g 12 3) n 6 from by rw [hn]; exact q_ixn (by omega) (by omega))) rfl rfl ?_
  refine q_step 5 41 [(0, .ref 12), (1, .int c), (2, .int m), (3, .int st)] [.int st, .int (g 12 3), .ref 15] (q_up (q_up g 13 n c) 14 n m) u (fun big n0 => sg_lo_4 big n0 (q_up (q_up g 13 n c) 14 n m) u c m st) ?_
  refine q_iast (j := n) ((show q_ix (g 12 3) n 6 from by rw [hn]; exact q_ixn (by omega) (by omega))) rfl rfl ?_
  refine q_ret 7 (none, (q_up (q_up (q_up (q_up g 13 n c) 14 n m) 15 n st) 12 3 ((g 12 3) + (1 : Int32))), u) (fun _ _ => rfl) ?_
  rfl
theorem c_lone {s f p : Nat} {r : qM} (st : Int32) (g : qM) (u : qW) (hc : k_cc s f p r g) : ∃ R, q_BS 31 [.ref 11, .int st] g u R ∧ ∃ g', R = (none, g', u) ∧ k_pc s (o_one (g 10) s f p r st) g g' := by
  refine q_bs (mm := m_31) rfl (Nat.le_of_ble_eq_true rfl) rfl ?_
  have ht := k_tk.of hc
  obtain ⟨⟨hs, h160, hp5, hp, h2, hf⟩, hd, hn⟩ := hc
  have h8 : g 12 3 = r 70 8 := hd.1.2.2.2.1
  refine q_step 4 8 [(0, .ref 11), (1, .int st)] [.int (5 : Int32), .int (g 12 3)] g u (fun big n0 => sg_lo_5 big n0 g u st) ?_
  refine q_ic_lt rfl (fun (hc0 : (g 12 3) < (5 : Int32)) => ?_) (fun (hc0 : ¬ ((g 12 3) < (5 : Int32))) => ?_)
  · refine q_step 3 28 [(0, .ref 11), (1, .int st)] [.int (24 : Int32), .int (0 : Int32), .ref 11] g u (fun big n0 => sg_lo_6 big n0 g u st) ?_
    by_cases hc1 : t_er (g 10) s p (0 : Int32) (24 : Int32) = 0
    · obtain ⟨g1, q1, f1, t1, i1⟩ := c_numk (g := g) u ht hc1
      refine q_call (M2 := 24) (rest := []) (q1) (fun _ _ => rfl) ?_
      refine q_step 3 34 [(0, .ref 11), (1, .int st), (2, .int (t_va (g 10) s p))] [.int (t_va (g 10) s p), .ref 11] g1 u (fun big n0 => sg_lo_7 big n0 g1 u st (t_va (g 10) s p)) ?_
      by_cases hc2 : s_bit (r 73 20) (t_va (g 10) s p) = 0
      · by_cases hc3 : t_hit (r 73) (t_va (g 10) s p) (t_n r) = 0
        · refine q_call (M2 := 27) (rest := []) (c_rtk_0 u (hd.f9 f1) hn t1.2.2.2.2.2 hc2 hc3) (fun _ _ => rfl) ?_
          refine q_step 3 40 [(0, .ref 11), (1, .int st), (2, .int (t_va (g 10) s p))] [.int (3 : Int32), .int (0 : Int32), .ref 11] g1 u (fun big n0 => sg_lo_8 big n0 g1 u st (t_va (g 10) s p)) ?_
          by_cases hc4 : t_er (g 10) s (t_pl (g 10) s p) (0 : Int32) (3 : Int32) = 0
          · obtain ⟨g2, q2, f2, t2, i2⟩ := c_numk (g := g1) u t1 hc4
            refine q_call (M2 := 24) (rest := []) (q2) (fun _ _ => rfl) ?_
            refine q_step 6 51 [(0, .ref 11), (1, .int st), (2, .int (t_va (g 10) s p)), (3, .int (t_va (g 10) s (t_pl (g 10) s p)))] [.int st, .int (t_va (g 10) s (t_pl (g 10) s p)), .int (t_va (g 10) s p), .ref 12] g2 u (fun big n0 => sg_lo_9 big n0 g2 u st (t_va (g 10) s p) (t_va (g 10) s (t_pl (g 10) s p))) ?_
            refine q_call (M2 := 32) (rest := []) (b_add12 (n := t_n r) (t_va (g 10) s p) (t_va (g 10) s (t_pl (g 10) s p)) st g2 u (((hd.f9 f1).f9 f2).1.2.2.2.1.trans hn.1) hn.2.1) (fun _ _ => rfl) ?_
            refine q_ret 1 (none, (q_up (q_up (q_up (q_up g2 13 (t_n r) (t_va (g 10) s p)) 14 (t_n r) (t_va (g 10) s (t_pl (g 10) s p))) 15 (t_n r) st) 12 3 ((g2 12 3) + 1)), u) (fun _ _ => rfl) ?_
            unfold o_one
            have hlt : r 70 8 < 5 := h8 ▸ hc0
            rw [if_pos hlt, o_free]
            rw [o_num, if_pos hc1]
            rw [if_pos hc2]
            rw [if_pos hc3]
            rw [o_num, if_pos hc4]
            exact ⟨_, rfl, k_pc_ok (((((((k_ft_rfl g).trans f1.ft).trans f2.ft).up (by omega)).up (by omega)).up (by omega)).up (by omega)) t2.2.2.2.2.2 t2.2.2.2.1 t2.2.2.2.2.1 (((hd.f9 f1).f9 f2).hc.one hn.hc (k_n5 hn hlt))⟩
          · obtain ⟨g2, q2, f2, x2, y2⟩ := c_nume (g := g1) u t1 hc4
            refine q_call (M2 := 24) (rest := []) (q2) (fun _ _ => rfl) ?_
            refine q_step 6 51 [(0, .ref 11), (1, .int st), (2, .int (t_va (g 10) s p)), (3, .int (0 : Int32))] [.int st, .int (0 : Int32), .int (t_va (g 10) s p), .ref 12] g2 u (fun big n0 => sg_lo_10 big n0 g2 u st (t_va (g 10) s p)) ?_
            refine q_call (M2 := 32) (rest := []) (b_add12 (n := t_n r) (t_va (g 10) s p) (0 : Int32) st g2 u (((hd.f9 f1).f9 f2).1.2.2.2.1.trans hn.1) hn.2.1) (fun _ _ => rfl) ?_
            refine q_ret 1 (none, (q_up (q_up (q_up (q_up g2 13 (t_n r) (t_va (g 10) s p)) 14 (t_n r) (0 : Int32)) 15 (t_n r) st) 12 3 ((g2 12 3) + 1)), u) (fun _ _ => rfl) ?_
            unfold o_one
            have hlt : r 70 8 < 5 := h8 ▸ hc0
            rw [if_pos hlt, o_free]
            rw [o_num, if_pos hc1]
            rw [if_pos hc2]
            rw [if_pos hc3]
            rw [o_num, if_neg hc4]
            exact ⟨_, rfl, k_pc_bad (((((((k_ft_rfl g).trans f1.ft).trans f2.ft).up (by omega)).up (by omega)).up (by omega)).up (by omega)) hc4 x2 y2⟩
        · refine q_call (M2 := 27) (rest := []) (c_rtk_2 u (hd.f9 f1) hn t1.2.2.2.2.2 hc2 hc3) (fun _ _ => rfl) ?_
          refine q_step 3 40 [(0, .ref 11), (1, .int st), (2, .int (t_va (g 10) s p))] [.int (3 : Int32), .int (0 : Int32), .ref 11] (q_up (q_up g1 11 2 (4 : Int32)) 11 3 (g1 9 3)) u (fun big n0 => sg_lo_8 big n0 (q_up (q_up g1 11 2 (4 : Int32)) 11 3 (g1 9 3)) u st (t_va (g 10) s p)) ?_
          refine q_call (M2 := 24) (rest := []) (c_numf (0 : Int32) (3 : Int32) _ _ (show ¬ (4 : Int32) = 0 from (by decide))) (fun _ _ => rfl) ?_
          refine q_step 6 51 [(0, .ref 11), (1, .int st), (2, .int (t_va (g 10) s p)), (3, .int (0 : Int32))] [.int st, .int (0 : Int32), .int (t_va (g 10) s p), .ref 12] (q_up (q_up g1 11 2 (4 : Int32)) 11 3 (g1 9 3)) u (fun big n0 => sg_lo_10 big n0 (q_up (q_up g1 11 2 (4 : Int32)) 11 3 (g1 9 3)) u st (t_va (g 10) s p)) ?_
          refine q_call (M2 := 32) (rest := []) (b_add12 (n := t_n r) (t_va (g 10) s p) (0 : Int32) st (q_up (q_up g1 11 2 (4 : Int32)) 11 3 (g1 9 3)) u ((((hd.f9 f1).e2).e3).1.2.2.2.1.trans hn.1) hn.2.1) (fun _ _ => rfl) ?_
          refine q_ret 1 (none, (q_up (q_up (q_up (q_up (q_up (q_up g1 11 2 (4 : Int32)) 11 3 (g1 9 3)) 13 (t_n r) (t_va (g 10) s p)) 14 (t_n r) (0 : Int32)) 15 (t_n r) st) 12 3 ((g1 12 3) + 1)), u) (fun _ _ => rfl) ?_
          unfold o_one
          have hlt : r 70 8 < 5 := h8 ▸ hc0
          rw [if_pos hlt, o_free]
          rw [o_num, if_pos hc1]
          rw [if_pos hc2]
          rw [if_neg hc3]
          exact ⟨_, rfl, k_pc_bad ((((((((k_ft_rfl g).trans f1.ft).up (by omega)).up (by omega)).up (by omega)).up (by omega)).up (by omega)).up (by omega)) (by decide) rfl i1⟩
      · refine q_call (M2 := 27) (rest := []) (c_rtk_1 u (hd.f9 f1) hn t1.2.2.2.2.2 hc2) (fun _ _ => rfl) ?_
        refine q_step 3 40 [(0, .ref 11), (1, .int st), (2, .int (t_va (g 10) s p))] [.int (3 : Int32), .int (0 : Int32), .ref 11] (q_up (q_up g1 11 2 (4 : Int32)) 11 3 (g1 9 3)) u (fun big n0 => sg_lo_8 big n0 (q_up (q_up g1 11 2 (4 : Int32)) 11 3 (g1 9 3)) u st (t_va (g 10) s p)) ?_
        refine q_call (M2 := 24) (rest := []) (c_numf (0 : Int32) (3 : Int32) _ _ (show ¬ (4 : Int32) = 0 from (by decide))) (fun _ _ => rfl) ?_
        refine q_step 6 51 [(0, .ref 11), (1, .int st), (2, .int (t_va (g 10) s p)), (3, .int (0 : Int32))] [.int st, .int (0 : Int32), .int (t_va (g 10) s p), .ref 12] (q_up (q_up g1 11 2 (4 : Int32)) 11 3 (g1 9 3)) u (fun big n0 => sg_lo_10 big n0 (q_up (q_up g1 11 2 (4 : Int32)) 11 3 (g1 9 3)) u st (t_va (g 10) s p)) ?_
        refine q_call (M2 := 32) (rest := []) (b_add12 (n := t_n r) (t_va (g 10) s p) (0 : Int32) st (q_up (q_up g1 11 2 (4 : Int32)) 11 3 (g1 9 3)) u ((((hd.f9 f1).e2).e3).1.2.2.2.1.trans hn.1) hn.2.1) (fun _ _ => rfl) ?_
        refine q_ret 1 (none, (q_up (q_up (q_up (q_up (q_up (q_up g1 11 2 (4 : Int32)) 11 3 (g1 9 3)) 13 (t_n r) (t_va (g 10) s p)) 14 (t_n r) (0 : Int32)) 15 (t_n r) st) 12 3 ((g1 12 3) + 1)), u) (fun _ _ => rfl) ?_
        unfold o_one
        have hlt : r 70 8 < 5 := h8 ▸ hc0
        rw [if_pos hlt, o_free]
        rw [o_num, if_pos hc1]
        rw [if_neg hc2]
        exact ⟨_, rfl, k_pc_bad ((((((((k_ft_rfl g).trans f1.ft).up (by omega)).up (by omega)).up (by omega)).up (by omega)).up (by omega)).up (by omega)) (by decide) rfl i1⟩
    · obtain ⟨g1, q1, f1, x1, y1⟩ := c_nume (g := g) u ht hc1
      refine q_call (M2 := 24) (rest := []) (q1) (fun _ _ => rfl) ?_
      refine q_step 3 34 [(0, .ref 11), (1, .int st), (2, .int (0 : Int32))] [.int (0 : Int32), .ref 11] g1 u (fun big n0 => sg_lo_11 big n0 g1 u st) ?_
      refine q_call (M2 := 27) (rest := []) (b_rtk_f _ _ _ (show ¬ (g1 11 2) = 0 from (by rw [x1]; exact hc1))) (fun _ _ => rfl) ?_
      refine q_step 3 40 [(0, .ref 11), (1, .int st), (2, .int (0 : Int32))] [.int (3 : Int32), .int (0 : Int32), .ref 11] g1 u (fun big n0 => sg_lo_12 big n0 g1 u st) ?_
      refine q_call (M2 := 24) (rest := []) (c_numf (0 : Int32) (3 : Int32) _ _ (show ¬ (g1 11 2) = 0 from (by rw [x1]; exact hc1))) (fun _ _ => rfl) ?_
      refine q_step 6 51 [(0, .ref 11), (1, .int st), (2, .int (0 : Int32)), (3, .int (0 : Int32))] [.int st, .int (0 : Int32), .int (0 : Int32), .ref 12] g1 u (fun big n0 => sg_lo_13 big n0 g1 u st) ?_
      refine q_call (M2 := 32) (rest := []) (b_add12 (n := t_n r) (0 : Int32) (0 : Int32) st g1 u ((hd.f9 f1).1.2.2.2.1.trans hn.1) hn.2.1) (fun _ _ => rfl) ?_
      refine q_ret 1 (none, (q_up (q_up (q_up (q_up g1 13 (t_n r) (0 : Int32)) 14 (t_n r) (0 : Int32)) 15 (t_n r) st) 12 3 ((g1 12 3) + 1)), u) (fun _ _ => rfl) ?_
      unfold o_one
      have hlt : r 70 8 < 5 := h8 ▸ hc0
      rw [if_pos hlt, o_free]
      rw [o_num, if_neg hc1]
      exact ⟨_, rfl, k_pc_bad ((((((k_ft_rfl g).trans f1.ft).up (by omega)).up (by omega)).up (by omega)).up (by omega)) hc1 x1 y1⟩
  · refine q_step 5 20 [(0, .ref 11), (1, .int st)] [.int (g 9 3), .int (5 : Int32), .ref 11] g u (fun big n0 => sg_lo_14 big n0 g u st) ?_
    refine q_call (M2 := 20) (rest := []) (b_refuse _ _ _ _) (fun _ _ => rfl) ?_
    refine q_ret 1 (none, (q_up (q_up g 11 2 (5 : Int32)) 11 3 (g 9 3)), u) (fun _ _ => rfl) ?_
    unfold o_one
    rw [if_neg (fun z => hc0 (h8.symm ▸ z))]
    exact ⟨_, rfl, k_pc_bad (((k_ft_rfl g).up (by omega)).up (by omega)) (by decide) rfl hf⟩
theorem c_lgoal {s f p : Nat} {r : qM} (g : qM) (u : qW) (hc : k_cc s f p r g) : ∃ R, q_BS 35 [.ref 11] g u R ∧ ∃ g', R = (none, g', u) ∧ k_pc s (o_goal (g 10) s p r) g g' := by
  refine q_bs (mm := m_35) rfl (Nat.le_of_ble_eq_true rfl) rfl ?_
  have ht := k_tk.of hc
  obtain ⟨⟨hs, h160, hp5, hp, h2, hf⟩, hd, hn⟩ := hc
  have h8 : g 12 3 = r 70 8 := hd.1.2.2.2.1
  refine q_step 3 3 [(0, .ref 11)] [.int (4 : Int32), .int (0 : Int32), .ref 11] g u (fun big n0 => sg_lo_15 big n0 g u) ?_
  by_cases hc0 : t_er (g 10) s p (0 : Int32) (4 : Int32) = 0
  · obtain ⟨g1, q1, f1, t1, i1⟩ := c_numk (g := g) u ht hc0
    refine q_call (M2 := 24) (rest := []) (q1) (fun _ _ => rfl) ?_
    refine q_step 3 11 [(0, .ref 11), (1, .int (t_va (g 10) s p))] [.int (g1 11 2)] g1 u (fun big n0 => sg_lo_16 big n0 g1 u (t_va (g 10) s p)) ?_
    refine q_if_ne rfl (fun (hc1 : (g1 11 2) = 0) => ?_) (fun hc1 => absurd (show (g1 11 2) = 0 from t1.2.2.2.2.2) hc1)
    refine q_step 4 22 [(0, .ref 11), (1, .int (t_va (g 10) s p))] [.int (t_va (g 10) s p), .ref 16] g1 u (fun big n0 => sg_lo_17 big n0 g1 u (t_va (g 10) s p)) ?_
    refine q_iald (j := (Int.toNat (Int32.toInt (t_va (g 10) s p)))) (k_ix4 (t_er_rng hc0)) rfl rfl ?_
    refine q_step 1 25 [(0, .ref 11), (1, .int (t_va (g 10) s p))] [.int (Int8.toInt32 (Int8.ofInt (-4))), .int (g1 16 (Int.toNat (Int32.toInt (t_va (g 10) s p))))] g1 u (fun big n0 => sg_lo_18 big n0 g1 u (t_va (g 10) s p) (g1 16 (Int.toNat (Int32.toInt (t_va (g 10) s p))))) ?_
    refine q_ic_eq rfl (fun (hc2 : (g1 16 (Int.toNat (Int32.toInt (t_va (g 10) s p)))) = (Int8.toInt32 (Int8.ofInt (-4)))) => ?_) (fun (hc2 : ¬ ((g1 16 (Int.toNat (Int32.toInt (t_va (g 10) s p)))) = (Int8.toInt32 (Int8.ofInt (-4))))) => ?_)
    · refine q_step 3 44 [(0, .ref 11), (1, .int (t_va (g 10) s p))] [.int (24 : Int32), .int (0 : Int32), .ref 11] g1 u (fun big n0 => sg_lo_19 big n0 g1 u (t_va (g 10) s p)) ?_
      by_cases hc3 : t_er (g 10) s (t_pl (g 10) s p) (0 : Int32) (24 : Int32) = 0
      · obtain ⟨g2, q2, f2, t2, i2⟩ := c_numk (g := g1) u t1 hc3
        refine q_call (M2 := 24) (rest := []) (q2) (fun _ _ => rfl) ?_
        refine q_step 3 52 [(0, .ref 11), (1, .int (t_va (g 10) s p)), (2, .int (t_va (g 10) s (t_pl (g 10) s p)))] [.int (g2 11 2)] g2 u (fun big n0 => sg_lo_20 big n0 g2 u (t_va (g 10) s p) (t_va (g 10) s (t_pl (g 10) s p))) ?_
        refine q_if_ne rfl (fun (hc4 : (g2 11 2) = 0) => ?_) (fun hc4 => absurd (show (g2 11 2) = 0 from t2.2.2.2.2.2) hc4)
        refine q_step 5 64 [(0, .ref 11), (1, .int (t_va (g 10) s p)), (2, .int (t_va (g 10) s (t_pl (g 10) s p)))] [.int (t_va (g 10) s (t_pl (g 10) s p)), .int (t_va (g 10) s p), .ref 16] g2 u (fun big n0 => sg_lo_21 big n0 g2 u (t_va (g 10) s p) (t_va (g 10) s (t_pl (g 10) s p))) ?_
        refine q_iast (j := (Int.toNat (Int32.toInt (t_va (g 10) s p)))) (k_ix4 (t_er_rng hc0)) rfl rfl ?_
        refine q_ret 1 (none, (q_up g2 16 (Int.toNat (Int32.toInt (t_va (g 10) s p))) (t_va (g 10) s (t_pl (g 10) s p))), u) (fun _ _ => rfl) ?_
        unfold o_goal
        rw [o_num, if_pos hc0]
        have eg : g1 16 (Int.toNat (Int32.toInt (t_va (g 10) s p))) = r 73 (15 + (Int32.toInt (t_va (g 10) s p)).toNat) := (hd.f9 f1).2.2.2.1 _ (by have := (k_v4 (t_er_rng hc0)).2; omega)
        rw [if_pos (show r 73 (15 + (Int32.toInt (t_va (g 10) s p)).toNat) = Int32.ofInt (-4) from eg.symm.trans hc2)]
        rw [o_num, if_pos hc3]
        exact ⟨_, rfl, k_pc_ok ((((k_ft_rfl g).trans f1.ft).trans f2.ft).up (by omega)) t2.2.2.2.2.2 t2.2.2.2.1 t2.2.2.2.2.1 (((hd.f9 f1).f9 f2).goal hn (k_v4 (t_er_rng hc0)).2)⟩
      · obtain ⟨g2, q2, f2, x2, y2⟩ := c_nume (g := g1) u t1 hc3
        refine q_call (M2 := 24) (rest := []) (q2) (fun _ _ => rfl) ?_
        refine q_step 3 52 [(0, .ref 11), (1, .int (t_va (g 10) s p)), (2, .int (0 : Int32))] [.int (g2 11 2)] g2 u (fun big n0 => sg_lo_22 big n0 g2 u (t_va (g 10) s p)) ?_
        refine q_if_ne rfl (fun hc4 => absurd (show (g2 11 2) = 0 from hc4) ((by rw [x2]; exact hc3))) (fun (hc4 : ¬ ((g2 11 2) = 0)) => ?_)
        refine q_ret 1 (none, g2, u) (fun _ _ => rfl) ?_
        unfold o_goal
        rw [o_num, if_pos hc0]
        have eg : g1 16 (Int.toNat (Int32.toInt (t_va (g 10) s p))) = r 73 (15 + (Int32.toInt (t_va (g 10) s p)).toNat) := (hd.f9 f1).2.2.2.1 _ (by have := (k_v4 (t_er_rng hc0)).2; omega)
        rw [if_pos (show r 73 (15 + (Int32.toInt (t_va (g 10) s p)).toNat) = Int32.ofInt (-4) from eg.symm.trans hc2)]
        rw [o_num, if_neg hc3]
        exact ⟨_, rfl, k_pc_bad (((k_ft_rfl g).trans f1.ft).trans f2.ft) hc3 x2 y2⟩
    · refine q_step 5 37 [(0, .ref 11), (1, .int (t_va (g 10) s p))] [.int (g1 9 3), .int (4 : Int32), .ref 11] g1 u (fun big n0 => sg_lo_23 big n0 g1 u (t_va (g 10) s p)) ?_
      refine q_call (M2 := 20) (rest := []) (b_refuse _ _ _ _) (fun _ _ => rfl) ?_
      refine q_step 3 44 [(0, .ref 11), (1, .int (t_va (g 10) s p))] [.int (24 : Int32), .int (0 : Int32), .ref 11] (q_up (q_up g1 11 2 (4 : Int32)) 11 3 (g1 9 3)) u (fun big n0 => sg_lo_19 big n0 (q_up (q_up g1 11 2 (4 : Int32)) 11 3 (g1 9 3)) u (t_va (g 10) s p)) ?_
      refine q_call (M2 := 24) (rest := []) (c_numf (0 : Int32) (24 : Int32) _ _ (show ¬ (4 : Int32) = 0 from (by decide))) (fun _ _ => rfl) ?_
      refine q_step 3 52 [(0, .ref 11), (1, .int (t_va (g 10) s p)), (2, .int (0 : Int32))] [.int (4 : Int32)] (q_up (q_up g1 11 2 (4 : Int32)) 11 3 (g1 9 3)) u (fun big n0 => sg_lo_22 big n0 (q_up (q_up g1 11 2 (4 : Int32)) 11 3 (g1 9 3)) u (t_va (g 10) s p)) ?_
      refine q_if_ne rfl (fun hc3 => absurd (show (4 : Int32) = 0 from hc3) ((by decide))) (fun (hc3 : ¬ ((4 : Int32) = 0)) => ?_)
      refine q_ret 1 (none, (q_up (q_up g1 11 2 (4 : Int32)) 11 3 (g1 9 3)), u) (fun _ _ => rfl) ?_
      unfold o_goal
      rw [o_num, if_pos hc0]
      have eg : g1 16 (Int.toNat (Int32.toInt (t_va (g 10) s p))) = r 73 (15 + (Int32.toInt (t_va (g 10) s p)).toNat) := (hd.f9 f1).2.2.2.1 _ (by have := (k_v4 (t_er_rng hc0)).2; omega)
      rw [if_neg (show ¬ r 73 (15 + (Int32.toInt (t_va (g 10) s p)).toNat) = Int32.ofInt (-4) from fun z => hc2 (eg.trans z))]
      exact ⟨_, rfl, k_pc_bad ((((k_ft_rfl g).trans f1.ft).up (by omega)).up (by omega)) (by decide) rfl i1⟩
  · obtain ⟨g1, q1, f1, x1, y1⟩ := c_nume (g := g) u ht hc0
    refine q_call (M2 := 24) (rest := []) (q1) (fun _ _ => rfl) ?_
    refine q_step 3 11 [(0, .ref 11), (1, .int (0 : Int32))] [.int (g1 11 2)] g1 u (fun big n0 => sg_lo_24 big n0 g1 u) ?_
    refine q_if_ne rfl (fun hc1 => absurd (show (g1 11 2) = 0 from hc1) ((by rw [x1]; exact hc0))) (fun (hc1 : ¬ ((g1 11 2) = 0)) => ?_)
    refine q_step 3 44 [(0, .ref 11), (1, .int (0 : Int32))] [.int (24 : Int32), .int (0 : Int32), .ref 11] g1 u (fun big n0 => sg_lo_25 big n0 g1 u) ?_
    refine q_call (M2 := 24) (rest := []) (c_numf (0 : Int32) (24 : Int32) _ _ (show ¬ (g1 11 2) = 0 from (by rw [x1]; exact hc0))) (fun _ _ => rfl) ?_
    refine q_step 3 52 [(0, .ref 11), (1, .int (0 : Int32)), (2, .int (0 : Int32))] [.int (g1 11 2)] g1 u (fun big n0 => sg_lo_26 big n0 g1 u) ?_
    refine q_if_ne rfl (fun hc2 => absurd (show (g1 11 2) = 0 from hc2) ((by rw [x1]; exact hc0))) (fun (hc2 : ¬ ((g1 11 2) = 0)) => ?_)
    refine q_ret 1 (none, g1, u) (fun _ _ => rfl) ?_
    unfold o_goal
    rw [o_num, if_neg hc0]
    exact ⟨_, rfl, k_pc_bad ((k_ft_rfl g).trans f1.ft) hc0 x1 y1⟩
end
section
/-! A LINE of the class. -/
def o_line (b : Nat → Int32) (s f p : Nat) (k : Int32) (r : qM) : tO :=
  if k = 0 then o_bad 1 f r else if k = 1 then (if t_ln b f (p - f) = 0 then o_town b s f p r else if t_ln b f (p - f) = 1 then o_pull b s f p r else if t_ln b f (p - f) = 2 then o_press b s f p r else if t_ln b f (p - f) = 3 then o_wall b s p r else if t_ln b f (p - f) = 4 then o_one b s f p r 0 else if t_ln b f (p - f) = 5 then o_one b s f p r 1 else if t_ln b f (p - f) = 6 then o_goal b s p r else o_bad 2 f r) else o_bad 2 f r
/-- a line and its end -/
def o_fin (b : Nat → Int32) (s : Nat) (o : tO) : tO := if o.1 = 0 then (if t_et b s o.2.2.1 3 = 0 then o_ok (t_pl b s o.2.2.1) o.2.2.2 else o_bad (t_et b s o.2.2.1 3) (t_fi b s o.2.2.1) o.2.2.2) else o
theorem t_isy {c : Prop} [Decidable c] {b : Nat → Int32} {f l : Nat} {n : List Int32} (h : ¬ (if c then t_is b f l n else 0) = 0) : c ∧ t_is b f l n = 1 := by
  by_cases e : c
  · rw [if_pos e] at h
    exact ⟨e, (t_is_01 n).resolve_left h⟩
  · rw [if_neg e] at h
    exact absurd rfl h
theorem t_isz {c : Prop} [Decidable c] {b : Nat → Int32} {f l : Nat} {n : List Int32} (h : (if c then t_is b f l n else 0) = 0) (e : c) : ¬ t_is b f l n = 1 := by
  rw [if_pos e] at h
  rw [h]
  decide
/-- which line it is -/
theorem o_line_of {b : Nat → Int32} {s f p k : Nat} {r : qM} (hk : k < 7) (h : t_is b f (p - f) (t_nm k) = 1) : o_line b s f p 1 r = if k = 0 then o_town b s f p r else if k = 1 then o_pull b s f p r else if k = 2 then o_press b s f p r else if k = 3 then o_wall b s p r else if k = 4 then o_one b s f p r 0 else if k = 5 then o_one b s f p r 1 else o_goal b s p r := by
  have e := t_ln_of hk h
  have q : ∀ j, j < 7 → (t_ln b f (p - f) = Int32.ofNat j ↔ k = j) := fun j hj => by rw [e]; exact q_eq (by omega) (by omega)
  have q0 : t_ln b f (p - f) = 0 ↔ k = 0 := q 0 (by omega)
  have q1 : t_ln b f (p - f) = 1 ↔ k = 1 := q 1 (by omega)
  have q2 : t_ln b f (p - f) = 2 ↔ k = 2 := q 2 (by omega)
  have q3 : t_ln b f (p - f) = 3 ↔ k = 3 := q 3 (by omega)
  have q4 : t_ln b f (p - f) = 4 ↔ k = 4 := q 4 (by omega)
  have q5 : t_ln b f (p - f) = 5 ↔ k = 5 := q 5 (by omega)
  have q6 : t_ln b f (p - f) = 6 ↔ k = 6 := q 6 (by omega)
  unfold o_line
  rw [if_neg (by decide), if_pos rfl]
  by_cases h0 : k = 0
  · rw [if_pos (q0.mpr h0), if_pos h0]
  rw [if_neg (fun z => h0 (q0.mp z)), if_neg h0]
  by_cases h1 : k = 1
  · rw [if_pos (q1.mpr h1), if_pos h1]
  rw [if_neg (fun z => h1 (q1.mp z)), if_neg h1]
  by_cases h2 : k = 2
  · rw [if_pos (q2.mpr h2), if_pos h2]
  rw [if_neg (fun z => h2 (q2.mp z)), if_neg h2]
  by_cases h3 : k = 3
  · rw [if_pos (q3.mpr h3), if_pos h3]
  rw [if_neg (fun z => h3 (q3.mp z)), if_neg h3]
  by_cases h4 : k = 4
  · rw [if_pos (q4.mpr h4), if_pos h4]
  rw [if_neg (fun z => h4 (q4.mp z)), if_neg h4]
  by_cases h5 : k = 5
  · rw [if_pos (q5.mpr h5), if_pos h5]
  rw [if_neg (fun z => h5 (q5.mp z)), if_neg h5, if_pos (q6.mpr (by omega))]
theorem o_line_no {b : Nat → Int32} {s f p : Nat} {k : Int32} {r : qM} (h0 : ¬ k = 0) (h : k = 1 → ∀ j, j < 7 → ¬ t_is b f (p - f) (t_nm j) = 1) : o_line b s f p k r = o_bad 2 f r := by
  unfold o_line
  rw [if_neg h0]
  by_cases e : k = 1
  · rw [if_pos e, t_ln_no (h e), if_neg (by decide), if_neg (by decide), if_neg (by decide), if_neg (by decide), if_neg (by decide), if_neg (by decide), if_neg (by decide)]
  · rw [if_neg e]
theorem sg_tl_1 (big : Nat → List Value → qM → qW → qR) (n0 : Nat) (G : qM) (U : qW) : qm_run pm_m big m_19 (n0 + 3) 0 [(0, .ref 11)] [] G U = qm_run pm_m big m_19 n0 7 [(0, .ref 11)] [.int (G 9 2)] G U := rfl
theorem sg_tl_2 (big : Nat → List Value → qM → qW → qR) (n0 : Nat) (G : qM) (U : qW) : qm_run pm_m big m_19 (n0 + 5) 10 [(0, .ref 11)] [] G U = qm_run pm_m big m_19 n0 19 [(0, .ref 11)] [.int (G 9 3), .int (1 : Int32), .ref 11] G U := rfl
theorem sg_tl_3 (big : Nat → List Value → qM → qW → qR) (n0 : Nat) (G : qM) (U : qW) : qm_run pm_m big m_19 (n0 + 3) 25 [(0, .ref 11)] [] G U = qm_run pm_m big m_19 n0 31 [(0, .ref 11)] [.ref 1, .ref 9] G U := rfl
theorem sg_tl_4 (big : Nat → List Value → qM → qW → qR) (n0 : Nat) (G : qM) (U : qW) : qm_run pm_m big m_19 (n0 + 3) 44 [(0, .ref 11)] [] G U = qm_run pm_m big m_19 n0 50 [(0, .ref 11)] [.ref 2, .ref 9] G U := rfl
theorem sg_tl_5 (big : Nat → List Value → qM → qW → qR) (n0 : Nat) (G : qM) (U : qW) : qm_run pm_m big m_19 (n0 + 3) 63 [(0, .ref 11)] [] G U = qm_run pm_m big m_19 n0 69 [(0, .ref 11)] [.ref 3, .ref 9] G U := rfl
theorem sg_tl_6 (big : Nat → List Value → qM → qW → qR) (n0 : Nat) (G : qM) (U : qW) : qm_run pm_m big m_19 (n0 + 3) 83 [(0, .ref 11)] [] G U = qm_run pm_m big m_19 n0 89 [(0, .ref 11)] [.ref 4, .ref 9] G U := rfl
theorem sg_tl_7 (big : Nat → List Value → qM → qW → qR) (n0 : Nat) (G : qM) (U : qW) : qm_run pm_m big m_19 (n0 + 3) 103 [(0, .ref 11)] [] G U = qm_run pm_m big m_19 n0 109 [(0, .ref 11)] [.ref 5, .ref 9] G U := rfl
theorem sg_tl_8 (big : Nat → List Value → qM → qW → qR) (n0 : Nat) (G : qM) (U : qW) : qm_run pm_m big m_19 (n0 + 3) 122 [(0, .ref 11)] [] G U = qm_run pm_m big m_19 n0 128 [(0, .ref 11)] [.ref 6, .ref 9] G U := rfl
theorem sg_tl_9 (big : Nat → List Value → qM → qW → qR) (n0 : Nat) (G : qM) (U : qW) : qm_run pm_m big m_19 (n0 + 3) 141 [(0, .ref 11)] [] G U = qm_run pm_m big m_19 n0 147 [(0, .ref 11)] [.ref 7, .ref 9] G U := rfl
theorem sg_tl_10 (big : Nat → List Value → qM → qW → qR) (n0 : Nat) (G : qM) (U : qW) : qm_run pm_m big m_19 (n0 + 5) 160 [(0, .ref 11)] [] G U = qm_run pm_m big m_19 n0 169 [(0, .ref 11)] [.int (G 9 3), .int (2 : Int32), .ref 11] G U := rfl
theorem sg_tl_11 (big : Nat → List Value → qM → qW → qR) (n0 : Nat) (G : qM) (U : qW) : qm_run pm_m big m_19 (n0 + 1) 153 [(0, .ref 11)] [] G U = qm_run pm_m big m_19 n0 154 [(0, .ref 11)] [.ref 11] G U := rfl
theorem sg_tl_12 (big : Nat → List Value → qM → qW → qR) (n0 : Nat) (G : qM) (U : qW) : qm_run pm_m big m_19 (n0 + 1) 134 [(0, .ref 11)] [] G U = qm_run pm_m big m_19 n0 135 [(0, .ref 11)] [.ref 11] G U := rfl
theorem sg_tl_13 (big : Nat → List Value → qM → qW → qR) (n0 : Nat) (G : qM) (U : qW) : qm_run pm_m big m_19 (n0 + 1) 115 [(0, .ref 11)] [] G U = qm_run pm_m big m_19 n0 116 [(0, .ref 11)] [.ref 11] G U := rfl
theorem sg_tl_14 (big : Nat → List Value → qM → qW → qR) (n0 : Nat) (G : qM) (U : qW) : qm_run pm_m big m_19 (n0 + 2) 95 [(0, .ref 11)] [] G U = qm_run pm_m big m_19 n0 97 [(0, .ref 11)] [.int (1 : Int32), .ref 11] G U := rfl
theorem sg_tl_15 (big : Nat → List Value → qM → qW → qR) (n0 : Nat) (G : qM) (U : qW) : qm_run pm_m big m_19 (n0 + 2) 75 [(0, .ref 11)] [] G U = qm_run pm_m big m_19 n0 77 [(0, .ref 11)] [.int (0 : Int32), .ref 11] G U := rfl
theorem sg_tl_16 (big : Nat → List Value → qM → qW → qR) (n0 : Nat) (G : qM) (U : qW) : qm_run pm_m big m_19 (n0 + 1) 56 [(0, .ref 11)] [] G U = qm_run pm_m big m_19 n0 57 [(0, .ref 11)] [.ref 11] G U := rfl
theorem sg_tl_17 (big : Nat → List Value → qM → qW → qR) (n0 : Nat) (G : qM) (U : qW) : qm_run pm_m big m_19 (n0 + 1) 37 [(0, .ref 11)] [] G U = qm_run pm_m big m_19 n0 38 [(0, .ref 11)] [.ref 11] G U := rfl
theorem sg_tl_18 (big : Nat → List Value → qM → qW → qR) (n0 : Nat) (G : qM) (U : qW) : qm_run pm_m big m_36 (n0 + 2) 0 [(0, .ref 11)] [] G U = qm_run pm_m big m_36 n0 2 [(0, .ref 11)] [.int (3 : Int32), .ref 11] G U := rfl
theorem c_line {s f p : Nat} {r : qM} (g : qM) (u : qW) (hc : k_cc s f p r g) (hfp : f ≤ p) : ∃ R, q_BS 19 [.ref 11] g u R ∧ ∃ g', R = (none, g', u) ∧ k_pc s (o_line (g 10) s f p (g 9 2) r) g g' := by
  refine q_bs (mm := m_19) rfl (Nat.le_of_ble_eq_true rfl) rfl ?_
  have hc0 := hc
  obtain ⟨⟨hs, h160, hp5, hp, h2, hf⟩, hd, hn⟩ := hc0
  refine q_step 3 7 [(0, .ref 11)] [.int (g 9 2)] g u (fun big n0 => sg_tl_1 big n0 g u) ?_
  refine q_if_ne rfl (fun (hc50 : (g 9 2) = 0) => ?_) (fun (hc50 : ¬ ((g 9 2) = 0)) => ?_)
  · refine q_step 5 19 [(0, .ref 11)] [.int (g 9 3), .int (1 : Int32), .ref 11] g u (fun big n0 => sg_tl_2 big n0 g u) ?_
    refine q_call (M2 := 20) (rest := []) (b_refuse _ _ _ _) (fun _ _ => rfl) ?_
    refine q_ret 2 (none, (q_up (q_up g 11 2 (1 : Int32)) 11 3 (g 9 3)), u) (fun _ _ => rfl) ?_
    have e : o_line (g 10) s f p (g 9 2) r = o_bad 1 f r := by unfold o_line; rw [if_pos hc50]
    rw [e]
    exact ⟨_, rfl, k_pc_bad (((k_ft_rfl g).up (by omega)).up (by omega)) (by decide) rfl hf⟩
  · refine q_step 3 31 [(0, .ref 11)] [.ref 1, .ref 9] g u (fun big n0 => sg_tl_3 big n0 g u) ?_
    refine q_call (M2 := 21) (rest := []) (c_isn0 g u hf hp5 hfp (by omega)) (fun _ _ => rfl) ?_
    refine q_if_eq rfl (fun (hc51 : (if g 9 2 = 1 then t_is (g 10) f (p - f) (t_nm 0) else 0) = 0) => ?_) (fun (hc51 : ¬ ((if g 9 2 = 1 then t_is (g 10) f (p - f) (t_nm 0) else 0) = 0)) => ?_)
    · refine q_step 3 50 [(0, .ref 11)] [.ref 2, .ref 9] g u (fun big n0 => sg_tl_4 big n0 g u) ?_
      refine q_call (M2 := 21) (rest := []) (c_isn3 g u hf hp5 hfp (by omega)) (fun _ _ => rfl) ?_
      refine q_if_eq rfl (fun (hc52 : (if g 9 2 = 1 then t_is (g 10) f (p - f) (t_nm 3) else 0) = 0) => ?_) (fun (hc52 : ¬ ((if g 9 2 = 1 then t_is (g 10) f (p - f) (t_nm 3) else 0) = 0)) => ?_)
      · refine q_step 3 69 [(0, .ref 11)] [.ref 3, .ref 9] g u (fun big n0 => sg_tl_5 big n0 g u) ?_
        refine q_call (M2 := 21) (rest := []) (c_isn4 g u hf hp5 hfp (by omega)) (fun _ _ => rfl) ?_
        refine q_if_eq rfl (fun (hc53 : (if g 9 2 = 1 then t_is (g 10) f (p - f) (t_nm 4) else 0) = 0) => ?_) (fun (hc53 : ¬ ((if g 9 2 = 1 then t_is (g 10) f (p - f) (t_nm 4) else 0) = 0)) => ?_)
        · refine q_step 3 89 [(0, .ref 11)] [.ref 4, .ref 9] g u (fun big n0 => sg_tl_6 big n0 g u) ?_
          refine q_call (M2 := 21) (rest := []) (c_isn5 g u hf hp5 hfp (by omega)) (fun _ _ => rfl) ?_
          refine q_if_eq rfl (fun (hc54 : (if g 9 2 = 1 then t_is (g 10) f (p - f) (t_nm 5) else 0) = 0) => ?_) (fun (hc54 : ¬ ((if g 9 2 = 1 then t_is (g 10) f (p - f) (t_nm 5) else 0) = 0)) => ?_)
          · refine q_step 3 109 [(0, .ref 11)] [.ref 5, .ref 9] g u (fun big n0 => sg_tl_7 big n0 g u) ?_
            refine q_call (M2 := 21) (rest := []) (c_isn1 g u hf hp5 hfp (by omega)) (fun _ _ => rfl) ?_
            refine q_if_eq rfl (fun (hc55 : (if g 9 2 = 1 then t_is (g 10) f (p - f) (t_nm 1) else 0) = 0) => ?_) (fun (hc55 : ¬ ((if g 9 2 = 1 then t_is (g 10) f (p - f) (t_nm 1) else 0) = 0)) => ?_)
            · refine q_step 3 128 [(0, .ref 11)] [.ref 6, .ref 9] g u (fun big n0 => sg_tl_8 big n0 g u) ?_
              refine q_call (M2 := 21) (rest := []) (c_isn2 g u hf hp5 hfp (by omega)) (fun _ _ => rfl) ?_
              refine q_if_eq rfl (fun (hc56 : (if g 9 2 = 1 then t_is (g 10) f (p - f) (t_nm 2) else 0) = 0) => ?_) (fun (hc56 : ¬ ((if g 9 2 = 1 then t_is (g 10) f (p - f) (t_nm 2) else 0) = 0)) => ?_)
              · refine q_step 3 147 [(0, .ref 11)] [.ref 7, .ref 9] g u (fun big n0 => sg_tl_9 big n0 g u) ?_
                refine q_call (M2 := 21) (rest := []) (c_isn6 g u hf hp5 hfp (by omega)) (fun _ _ => rfl) ?_
                refine q_if_eq rfl (fun (hc57 : (if g 9 2 = 1 then t_is (g 10) f (p - f) (t_nm 6) else 0) = 0) => ?_) (fun (hc57 : ¬ ((if g 9 2 = 1 then t_is (g 10) f (p - f) (t_nm 6) else 0) = 0)) => ?_)
                · refine q_step 5 169 [(0, .ref 11)] [.int (g 9 3), .int (2 : Int32), .ref 11] g u (fun big n0 => sg_tl_10 big n0 g u) ?_
                  refine q_call (M2 := 20) (rest := []) (b_refuse _ _ _ _) (fun _ _ => rfl) ?_
                  refine q_ret 1 (none, (q_up (q_up g 11 2 (2 : Int32)) 11 3 (g 9 3)), u) (fun _ _ => rfl) ?_
                  have e : o_line (g 10) s f p (g 9 2) r = o_bad 2 f r := o_line_no hc50 (fun z j hj => by
                    rcases (show j = 0 ∨ j = 1 ∨ j = 2 ∨ j = 3 ∨ j = 4 ∨ j = 5 ∨ j = 6 by omega) with e | e | e | e | e | e | e
                    · rw [e]; exact t_isz hc51 z
                    · rw [e]; exact t_isz hc55 z
                    · rw [e]; exact t_isz hc56 z
                    · rw [e]; exact t_isz hc52 z
                    · rw [e]; exact t_isz hc53 z
                    · rw [e]; exact t_isz hc54 z
                    · rw [e]; exact t_isz hc57 z)
                  rw [e]
                  exact ⟨_, rfl, k_pc_bad (((k_ft_rfl g).up (by omega)).up (by omega)) (by decide) rfl hf⟩
                · refine q_step 1 154 [(0, .ref 11)] [.ref 11] g u (fun big n0 => sg_tl_11 big n0 g u) ?_
                  obtain ⟨_, hq, g1, rfl, hk⟩ := c_lgoal g u hc
                  refine q_call (M2 := 35) (rest := []) (hq) (fun _ _ => rfl) ?_
                  refine q_ret 2 (none, g1, u) (fun _ _ => rfl) ?_
                  have y := t_isy hc57
                  rw [y.1, o_line_of (k := 6) (by omega) y.2]
                  exact ⟨_, rfl, hk⟩
              · refine q_step 1 135 [(0, .ref 11)] [.ref 11] g u (fun big n0 => sg_tl_12 big n0 g u) ?_
                obtain ⟨_, hq, g1, rfl, hk⟩ := c_lpress g u hc
                refine q_call (M2 := 34) (rest := []) (hq) (fun _ _ => rfl) ?_
                refine q_ret 2 (none, g1, u) (fun _ _ => rfl) ?_
                have y := t_isy hc56
                rw [y.1, o_line_of (k := 2) (by omega) y.2]
                exact ⟨_, rfl, hk⟩
            · refine q_step 1 116 [(0, .ref 11)] [.ref 11] g u (fun big n0 => sg_tl_13 big n0 g u) ?_
              obtain ⟨_, hq, g1, rfl, hk⟩ := c_lpull g u hc
              refine q_call (M2 := 33) (rest := []) (hq) (fun _ _ => rfl) ?_
              refine q_ret 2 (none, g1, u) (fun _ _ => rfl) ?_
              have y := t_isy hc55
              rw [y.1, o_line_of (k := 1) (by omega) y.2]
              exact ⟨_, rfl, hk⟩
          · refine q_step 2 97 [(0, .ref 11)] [.int (1 : Int32), .ref 11] g u (fun big n0 => sg_tl_14 big n0 g u) ?_
            obtain ⟨_, hq, g1, rfl, hk⟩ := c_lone (1 : Int32) g u hc
            refine q_call (M2 := 31) (rest := []) (hq) (fun _ _ => rfl) ?_
            refine q_ret 2 (none, g1, u) (fun _ _ => rfl) ?_
            have y := t_isy hc54
            rw [y.1, o_line_of (k := 5) (by omega) y.2]
            exact ⟨_, rfl, hk⟩
        · refine q_step 2 77 [(0, .ref 11)] [.int (0 : Int32), .ref 11] g u (fun big n0 => sg_tl_15 big n0 g u) ?_
          obtain ⟨_, hq, g1, rfl, hk⟩ := c_lone (0 : Int32) g u hc
          refine q_call (M2 := 31) (rest := []) (hq) (fun _ _ => rfl) ?_
          refine q_ret 2 (none, g1, u) (fun _ _ => rfl) ?_
          have y := t_isy hc53
          rw [y.1, o_line_of (k := 4) (by omega) y.2]
          exact ⟨_, rfl, hk⟩
      · refine q_step 1 57 [(0, .ref 11)] [.ref 11] g u (fun big n0 => sg_tl_16 big n0 g u) ?_
        obtain ⟨_, hq, g1, rfl, hk⟩ := c_lwall g u hc
        refine q_call (M2 := 26) (rest := []) (hq) (fun _ _ => rfl) ?_
        refine q_ret 2 (none, g1, u) (fun _ _ => rfl) ?_
        have y := t_isy hc52
        rw [y.1, o_line_of (k := 3) (by omega) y.2]
        exact ⟨_, rfl, hk⟩
    · refine q_step 1 38 [(0, .ref 11)] [.ref 11] g u (fun big n0 => sg_tl_17 big n0 g u) ?_
      obtain ⟨_, hq, g1, rfl, hk⟩ := c_ltown g u hc
      refine q_call (M2 := 22) (rest := []) (hq) (fun _ _ => rfl) ?_
      refine q_ret 2 (none, g1, u) (fun _ _ => rfl) ?_
      have y := t_isy hc51
      rw [y.1, o_line_of (k := 0) (by omega) y.2]
      exact ⟨_, rfl, hk⟩
theorem c_stopf (g : qM) (u : qW) (h2 : ¬ g 11 2 = 0) : q_BS 36 [.ref 11] g u (none, g, u) := by
  refine q_bx (mm := m_36) rfl (Nat.le_of_ble_eq_true rfl) rfl ?_
  refine q_step 2 2 [(0, .ref 11)] [.int (3 : Int32), .ref 11] g u (fun big n0 => sg_tl_18 big n0 g u) ?_
  refine q_call (M2 := 25) (rest := []) (c_tokf _ _ _ h2) (fun _ _ => rfl) ?_
  refine q_ret 2 (none, g, u) (fun _ _ => rfl) ?_
  rfl
theorem c_stop {b : Nat → Int32} {s p : Nat} (g : qM) (u : qW) (h : k_tk b s p g) : ∃ R, q_BS 36 [.ref 11] g u R ∧ ∃ g', R = (none, g', u) ∧ k_f9 g g' ∧ g' 9 5 = Int32.ofNat (t_pl b s p) ∧ g' 11 2 = t_et b s p 3 ∧ (¬ t_et b s p 3 = 0 → g' 11 3 = Int32.ofNat (t_fi b s p)) := by
  refine q_bs (mm := m_36) rfl (Nat.le_of_ble_eq_true rfl) rfl ?_
  obtain ⟨hb, hs, h160, hp5, hp, h2⟩ := h
  subst hb
  refine q_step 2 2 [(0, .ref 11)] [.int (3 : Int32), .ref 11] g u (fun big n0 => sg_tl_18 big n0 g u) ?_
  obtain ⟨_, hq, g1, rfl, hf9, h92, h93, h95, h94, h112, h113⟩ := c_tok g u hs h160 hp5 hp h2 3
  refine q_call (M2 := 25) (rest := []) (hq) (fun _ _ => rfl) ?_
  refine q_ret 2 (none, g1, u) (fun _ _ => rfl) ?_
  exact ⟨_, rfl, hf9, h95, h112, h113⟩
end
section
/-! OUTCOMES keep the draft's bounds, and go on. -/
def k_on (s p : Nat) (o : tO) : Prop := o.1 = 0 → k_dn o.2.2.2 ∧ p ≤ o.2.2.1 ∧ o.2.2.1 ≤ s
theorem k_on_bad {s p a : Nat} {e : Int32} {r : qM} (he : ¬ e = 0) : k_on s p (o_bad e a r) := fun z => absurd z he
theorem k_on_ok {s p p1 : Nat} {r : qM} (hr : k_dn r) (h1 : p ≤ p1) (h2 : p1 ≤ s) : k_on s p (o_ok p1 r) := fun _ => ⟨hr, h1, h2⟩
theorem k_on_num {b : Nat → Int32} {s p0 p : Nat} {lo hi : Int32} {r : qM} {k : Int32 → Nat → tO} (hp : p0 ≤ p) (hs : p ≤ s) (h : ∀ p1, p0 ≤ p1 → p1 ≤ s → k_on s p0 (k (t_va b s p) p1)) : k_on s p0 (o_num b s p lo hi r k) := by
  unfold o_num
  have z := t_pl_b (b := b) hs
  have y := t_fi_b (b := b) hs
  by_cases e : t_er b s p lo hi = 0
  · rw [if_pos e]
    exact h _ (by omega) z.2.1
  · rw [if_neg e]
    exact k_on_bad e
theorem k_on_town {b : Nat → Int32} {s f p : Nat} {r : qM} (hn : k_dn r) (hp : p ≤ s) : k_on s p (o_town b s f p r) := by
  unfold o_town
  split
  · exact k_on_num (Nat.le_refl _) hp (fun p1 h1 h2 => k_on_num h1 h2 (fun p2 h3 h4 => k_on_ok ((hn.fl 0 (by omega)).o rfl rfl) h3 h4))
  · exact k_on_bad (by decide)
theorem k_on_press {b : Nat → Int32} {s f p : Nat} {r : qM} (hn : k_dn r) (hp : p ≤ s) : k_on s p (o_press b s f p r) := by
  unfold o_press
  split
  · exact k_on_num (Nat.le_refl _) hp (fun p1 h1 h2 => k_on_ok ((hn.fl 2 (by omega)).o rfl rfl) h1 h2)
  · exact k_on_bad (by decide)
theorem k_on_pull {b : Nat → Int32} {s f p : Nat} {r : qM} (hn : k_dn r) (hp : p ≤ s) : k_on s p (o_pull b s f p r) := by
  unfold o_pull
  split
  · exact k_on_num (Nat.le_refl _) hp (fun p1 h1 h2 => k_on_num h1 h2 (fun p2 h3 h4 => k_on_num h3 h4 (fun p3 h5 h6 => k_on_num h5 h6 (fun p4 h7 h8 => k_on_ok ((hn.fl 1 (by omega)).o rfl rfl) h7 h8))))
  · exact k_on_bad (by decide)
theorem k_on_free {b : Nat → Int32} {s p : Nat} {r : qM} {k : Int32 → Nat → qM → tO} (hp : p ≤ s) (h : ∀ c p1, p ≤ p1 → p1 ≤ s → k_on s p (k c p1 (q_up r 70 10 (t_max (r 70 10) c)))) : k_on s p (o_free b s p r k) := by
  unfold o_free
  refine k_on_num (Nat.le_refl _) hp (fun p1 h1 h2 => ?_)
  split
  · split
    · exact h _ p1 h1 h2
    · exact k_on_bad (by decide)
  · exact k_on_bad (by decide)
theorem k_on_wall {b : Nat → Int32} {s p : Nat} {r : qM} (hn : k_dn r) (hp : p ≤ s) : k_on s p (o_wall b s p r) := k_on_free hp (fun c p1 h1 h2 => k_on_ok (hn.o rfl rfl) h1 h2)
theorem k_dn.one {r : qM} (hn : k_dn r) (h5 : t_n r < 5) {r' : qM} (h8 : r' 70 8 = r 70 8 + 1) (h9 : r' 70 9 = r 70 9) : k_dn r' := by
  have e : t_n r' = t_n r + 1 := by
    show (r' 70 8).toInt.toNat = t_n r + 1
    rw [h8, hn.1, k_n1 (by omega)]
  refine ⟨?_, by omega, ?_⟩
  · rw [e, h8, ← q_succ, ← hn.1]
  · rw [h9]
    exact hn.2.2
theorem k_on_one {b : Nat → Int32} {s f p : Nat} {r : qM} {st : Int32} (hn : k_dn r) (hp : p ≤ s) : k_on s p (o_one b s f p r st) := by
  unfold o_one
  by_cases e : r 70 8 < 5
  · rw [if_pos e]
    exact k_on_free hp (fun c p1 h1 h2 => k_on_num h1 h2 (fun p2 h3 h4 => k_on_ok (hn.one (k_n5 hn e) rfl rfl) h3 h4))
  · rw [if_neg e]
    exact k_on_bad (by decide)
theorem k_on_goal {b : Nat → Int32} {s p : Nat} {r : qM} (hn : k_dn r) (hp : p ≤ s) : k_on s p (o_goal b s p r) := by
  unfold o_goal
  refine k_on_num (Nat.le_refl _) hp (fun p1 h1 h2 => ?_)
  split
  · exact k_on_num h1 h2 (fun p2 h3 h4 => k_on_ok (hn.o rfl rfl) h3 h4)
  · exact k_on_bad (by decide)
theorem k_on_line {b : Nat → Int32} {s f p : Nat} {k : Int32} {r : qM} (hn : k_dn r) (hp : p ≤ s) : k_on s p (o_line b s f p k r) := by
  unfold o_line
  by_cases e0 : k = 0
  · rw [if_pos e0]
    exact k_on_bad (by decide)
  rw [if_neg e0]
  by_cases e1 : k = 1
  · rw [if_pos e1]
    by_cases x0 : t_ln b f (p - f) = 0
    · rw [if_pos x0]
      exact k_on_town hn hp
    rw [if_neg x0]
    by_cases x1 : t_ln b f (p - f) = 1
    · rw [if_pos x1]
      exact k_on_pull hn hp
    rw [if_neg x1]
    by_cases x2 : t_ln b f (p - f) = 2
    · rw [if_pos x2]
      exact k_on_press hn hp
    rw [if_neg x2]
    by_cases x3 : t_ln b f (p - f) = 3
    · rw [if_pos x3]
      exact k_on_wall hn hp
    rw [if_neg x3]
    by_cases x4 : t_ln b f (p - f) = 4
    · rw [if_pos x4]
      exact k_on_one hn hp
    rw [if_neg x4]
    by_cases x5 : t_ln b f (p - f) = 5
    · rw [if_pos x5]
      exact k_on_one hn hp
    rw [if_neg x5]
    by_cases x6 : t_ln b f (p - f) = 6
    · rw [if_pos x6]
      exact k_on_goal hn hp
    rw [if_neg x6]
    exact k_on_bad (by decide)
  · rw [if_neg e1]
    exact k_on_bad (by decide)
theorem k_on_fin {b : Nat → Int32} {s p : Nat} {o : tO} (h : k_on s p o) : k_on s p (o_fin b s o) := by
  unfold o_fin
  by_cases e : o.1 = 0
  · rw [if_pos e]
    have z := h e
    have y := t_pl_b (b := b) z.2.2
    have x := t_fi_b (b := b) z.2.2
    split
    · exact k_on_ok z.1 (by omega) y.2.1
    · rename_i e2
      exact k_on_bad e2
  · rw [if_neg e]
    exact h
/-- the whole tape from p on: its outcome and its lines -/
def o_tape (b : Nat → Int32) (s : Nat) : Nat → Nat → Nat → qM → tO × Nat
  | 0, p, m, r => (o_ok p r, m)
  | k + 1, p, m, r => if t_ki b s p = 4 then (o_ok p r, m) else if (o_fin b s (o_line b s (t_fi b s p) (t_pl b s p) (t_ki b s p) r)).1 = 0 then o_tape b s k (o_fin b s (o_line b s (t_fi b s p) (t_pl b s p) (t_ki b s p) r)).2.2.1 (m + 1) (o_fin b s (o_line b s (t_fi b s p) (t_pl b s p) (t_ki b s p) r)).2.2.2 else (o_fin b s (o_line b s (t_fi b s p) (t_pl b s p) (t_ki b s p) r), m + 1)
end
section
/-! THE DRAFT in order: what its numbers are. -/
def k_dm (r : qM) : Prop := (∃ W H, 2 ≤ W ∧ W ≤ 5 ∧ 2 ≤ H ∧ H ≤ 5 ∧ r 70 6 = Int32.ofNat W ∧ r 70 7 = Int32.ofNat H) ∧ (∀ p, p < t_n r → (∃ C, C < 25 ∧ r 73 p = Int32.ofNat C) ∧ (r 73 (5 + p) = 0 ∨ r 73 (5 + p) = 1 ∨ r 73 (5 + p) = 2 ∨ r 73 (5 + p) = 3) ∧ (r 73 (10 + p) = 0 ∨ r 73 (10 + p) = 1)) ∧ (∀ p q, p < t_n r → q < t_n r → p ≠ q → r 73 p ≠ r 73 q) ∧ (∀ p, p < t_n r → s_bit (r 73 20) (r 73 p) = 0) ∧ (∀ q, q < 5 → r 73 (15 + q) = Int32.ofInt (-4) ∨ ∃ C, C < 25 ∧ r 73 (15 + q) = Int32.ofNat C) ∧ (∀ c, 25 ≤ c → (r 73 20).toBitVec.getLsbD c = false) ∧ (∀ N : Nat, (r 70 10).toInt < N ↔ (∀ p, p < t_n r → (r 73 p).toInt < N) ∧ (∀ q, q < 5 → (r 73 (15 + q)).toInt < N) ∧ ∀ c, c < 25 → ¬ s_bit (r 73 20) (Int32.ofNat c) = 0 → c < N) ∧ (∀ n : Nat, (r 70 11).toInt < n ↔ ∀ q, q < 5 → r 73 (15 + q) ≠ Int32.ofInt (-4) → q < n) ∧ (∀ q, q < 5 → r 73 (5 + q) = 0 ∨ r 73 (5 + q) = 1 ∨ r 73 (5 + q) = 2 ∨ r 73 (5 + q) = 3) ∧ r 73 26 = 0 ∧ r 73 27 = 0
theorem k_dm.o {r r' : qM} (h : k_dm r) (hn : k_dn r) (h6 : r' 70 6 = r 70 6) (h7 : r' 70 7 = r 70 7) (h8 : r' 70 8 = r 70 8) (h10 : r' 70 10 = r 70 10) (h11 : r' 70 11 = r 70 11) (h73 : ∀ j, j ≤ 20 ∨ j = 26 ∨ j = 27 → r' 73 j = r 73 j) : k_dm r' := by
  have e : t_n r' = t_n r := by unfold t_n; rw [h8]
  have h5 := hn.2.1
  obtain ⟨d1, d2, d3, d4, d5, d6, d7, d8, d9, d10⟩ := h
  unfold k_dm
  rw [e, h6, h7, h10, h11, h73 20 (by omega)]
  refine ⟨d1, fun p hp => ?_, fun p q hp hq => ?_, fun p hp => ?_, fun q hq => ?_, d6, fun N => ?_, fun n => ?_, fun q hq => ?_, ?_⟩
  · rw [h73 p (by omega), h73 (5 + p) (by omega), h73 (10 + p) (by omega)]
    exact d2 p hp
  · rw [h73 p (by omega), h73 q (by omega)]
    exact d3 p q hp hq
  · rw [h73 p (by omega)]
    exact d4 p hp
  · rw [h73 (15 + q) (by omega)]
    exact d5 q hq
  · rw [d7 N]
    refine ⟨fun z => ⟨fun p hp => ?_, fun q hq => ?_, z.2.2⟩, fun z => ⟨fun p hp => ?_, fun q hq => ?_, z.2.2⟩⟩
    · rw [h73 p (by omega)]; exact z.1 p hp
    · rw [h73 (15 + q) (by omega)]; exact z.2.1 q hq
    · rw [← h73 p (by omega)]; exact z.1 p hp
    · rw [← h73 (15 + q) (by omega)]; exact z.2.1 q hq
  · rw [d8 n]
    refine ⟨fun z q hq y => ?_, fun z q hq y => ?_⟩
    · rw [h73 (15 + q) (by omega)] at y; exact z q hq y
    · rw [← h73 (15 + q) (by omega)] at y; exact z q hq y
  · rw [h73 (5 + q) (by omega)]
    exact d9 q hq
  · rw [h73 26 (by omega), h73 27 (by omega)]
    exact d10
theorem t_max_lt {x y : Int32} {N : Int} : (t_max x y).toInt < N ↔ x.toInt < N ∧ y.toInt < N := by
  unfold t_max
  by_cases e : y ≤ x
  · rw [if_pos e]
    have := Int32.le_iff_toInt_le.mp e
    omega
  · rw [if_neg e]
    have : ¬ y.toInt ≤ x.toInt := fun z => e (Int32.le_iff_toInt_le.mpr z)
    omega
theorem k_nat {v : Int32} {a b : Nat} (hb : b < 1000) (ha : a < 1000) (h : ¬ v < Int32.ofNat a ∧ ¬ Int32.ofNat b < v) : ∃ n, a ≤ n ∧ n ≤ b ∧ v = Int32.ofNat n := by
  rw [Int32.lt_iff_toInt_lt, Int32.lt_iff_toInt_lt, q_nat (by omega), q_nat (by omega)] at h
  exact ⟨v.toInt.toNat, by omega, by omega, q_of (by omega)⟩
theorem k_m4 : (Int32.ofInt (-4)).toInt = -4 := by decide
theorem k_dm.wall {r : qM} {C : Nat} (h : k_dm r) (hn : k_dn r) (hC : C < 25) (hb : s_bit (r 73 20) (Int32.ofNat C) = 0) (hh : t_hit (r 73) (Int32.ofNat C) (t_n r) = 0) : k_dm (q_up (q_up r 70 10 (t_max (r 70 10) (Int32.ofNat C))) 73 20 (r 73 20 ||| ((1 : Int32) <<< (Int32.ofNat C &&& 31)))) := by
  have h5 := hn.2.1
  obtain ⟨d1, d2, d3, d4, d5, d6, d7, d8, d9, d10⟩ := h
  rw [t_hit_0] at hh
  have e73 : ∀ j, j < 20 → q_up (q_up r 70 10 (t_max (r 70 10) (Int32.ofNat C))) 73 20 (r 73 20 ||| ((1 : Int32) <<< (Int32.ofNat C &&& 31))) 73 j = r 73 j := fun j hj => by
    rw [q_up_at, if_neg (by omega), q_up_ne (by decide)]
  have e20 : q_up (q_up r 70 10 (t_max (r 70 10) (Int32.ofNat C))) 73 20 (r 73 20 ||| ((1 : Int32) <<< (Int32.ofNat C &&& 31))) 73 20 = (r 73 20 ||| ((1 : Int32) <<< (Int32.ofNat C &&& 31))) := rfl
  refine ⟨d1, fun p hp => ?_, fun p q hp hq => ?_, fun p hp => ?_, fun q hq => ?_, fun c hc => ?_, fun N => ?_, fun n => ?_, fun q hq => ?_, ?_⟩
  · have hp : p < t_n r := hp
    rw [e73 p (by omega), e73 (5 + p) (by omega), e73 (10 + p) (by omega)]
    exact d2 p hp
  · have hp : p < t_n r := hp
    have hq : q < t_n r := hq
    rw [e73 p (by omega), e73 q (by omega)]
    exact d3 p q hp hq
  · have hp : p < t_n r := hp
    rw [e73 p (by omega), e20]
    obtain ⟨D, hD, eD⟩ := (d2 p hp).1
    have z := d4 p hp
    rw [eD] at z ⊢
    refine (s_bit_or hC hD).mpr ⟨z, fun y => hh p hp ?_⟩
    rw [eD, y]
  · rw [e73 (15 + q) (by omega)]
    exact d5 q hq
  · rw [e20, Int32.toBitVec_or, BitVec.getLsbD_or, d6 c hc]
    have z : (List.range 25).all (fun C => (List.range 7).all (fun i => decide (((1 : Int32) <<< (Int32.ofNat C &&& 31)).toBitVec.getLsbD (25 + i) = false))) = true := by decide +kernel
    rcases Nat.lt_or_ge c 32 with y | y
    · have := of_decide_eq_true (List.all_eq_true.mp (List.all_eq_true.mp z C (List.mem_range.mpr hC)) (c - 25) (List.mem_range.mpr (by omega)))
      rw [show 25 + (c - 25) = c by omega] at this
      rw [this]
      rfl
    · rw [BitVec.getLsbD_of_ge _ _ y]
      rfl
  · show (t_max (r 70 10) (Int32.ofNat C)).toInt < (N : Int) ↔ _
    rw [t_max_lt, d7 N, q_nat (by omega), e20]
    refine ⟨fun z => ⟨fun p hp => ?_, fun q hq => ?_, fun c hc hx => ?_⟩, fun z => ⟨⟨fun p hp => ?_, fun q hq => ?_, fun c hc hx => ?_⟩, ?_⟩⟩
    · have hp : p < t_n r := hp
      rw [e73 p (by omega)]; exact z.1.1 p hp
    · rw [e73 (15 + q) (by omega)]; exact z.1.2.1 q hq
    · by_cases e : c = C
      · omega
      · exact z.1.2.2 c hc (fun y => hx ((s_bit_or hC hc).mpr ⟨y, e⟩))
    · rw [← e73 p (by omega)]; exact z.1 p hp
    · rw [← e73 (15 + q) (by omega)]; exact z.2.1 q hq
    · exact z.2.2 c hc (fun y => hx ((s_bit_or hC hc).mp y).1)
    · have := z.2.2 C hC (fun y => ((s_bit_or hC hC).mp y).2 rfl)
      omega
  · show (r 70 11).toInt < (n : Int) ↔ _
    rw [d8 n]
    refine ⟨fun z q hq y => ?_, fun z q hq y => ?_⟩
    · rw [e73 (15 + q) (by omega)] at y; exact z q hq y
    · rw [← e73 (15 + q) (by omega)] at y; exact z q hq y
  · rw [e73 (5 + q) (by omega)]
    exact d9 q hq
  · exact d10
theorem k_dm.one {r : qM} {C : Nat} {m st : Int32} (h : k_dm r) (hn : k_dn r) (hlt : t_n r < 5) (hC : C < 25) (hb : s_bit (r 73 20) (Int32.ofNat C) = 0) (hh : t_hit (r 73) (Int32.ofNat C) (t_n r) = 0) (hm : m = 0 ∨ m = 1 ∨ m = 2 ∨ m = 3) (hst : st = 0 ∨ st = 1) : k_dm (q_up (q_up (q_up (q_up (q_up r 70 10 (t_max (r 70 10) (Int32.ofNat C))) 73 (t_n r) (Int32.ofNat C)) 73 (5 + t_n r) m) 73 (10 + t_n r) st) 70 8 (r 70 8 + 1)) := by
  obtain ⟨d1, d2, d3, d4, d5, d6, d7, d8, d9, d10⟩ := h
  rw [t_hit_0] at hh
  generalize er : q_up (q_up (q_up (q_up (q_up r 70 10 (t_max (r 70 10) (Int32.ofNat C))) 73 (t_n r) (Int32.ofNat C)) 73 (5 + t_n r) m) 73 (10 + t_n r) st) 70 8 (r 70 8 + 1) = r'
  have en : t_n r' = t_n r + 1 := by
    rw [← er]
    show (r 70 8 + 1).toInt.toNat = t_n r + 1
    rw [hn.1, k_n1 (by omega)]
  have e73 : ∀ j, r' 73 j = if j = 10 + t_n r then st else if j = 5 + t_n r then m else if j = t_n r then Int32.ofNat C else r 73 j := fun j => by
    rw [← er, q_up_ne (by decide), q_up_at, q_up_at, q_up_at, q_up_ne (by decide)]
  have e0 : ∀ p, p < t_n r → r' 73 p = r 73 p := fun p hp => by
    rw [e73, if_neg (by omega), if_neg (by omega), if_neg (by omega)]
  have en0 : r' 73 (t_n r) = Int32.ofNat C := by
    rw [e73, if_neg (by omega), if_neg (by omega), if_pos rfl]
  have eg : ∀ j, 15 ≤ j → r' 73 j = r 73 j := fun j hj => by
    rw [e73, if_neg (by omega), if_neg (by omega), if_neg (by omega)]
  have e6 : r' 70 6 = r 70 6 := by rw [← er]; rfl
  have e7 : r' 70 7 = r 70 7 := by rw [← er]; rfl
  have e10 : r' 70 10 = t_max (r 70 10) (Int32.ofNat C) := by rw [← er]; rfl
  have e11 : r' 70 11 = r 70 11 := by rw [← er]; rfl
  unfold k_dm
  rw [e6, e7, e10, e11, eg 20 (by omega), en]
  refine ⟨d1, fun p hp => ?_, fun p q hp hq hpq => ?_, fun p hp => ?_, fun q hq => ?_, d6, fun N => ?_, fun n => ?_, fun q hq => ?_, ?_⟩
  · by_cases e : p = t_n r
    · subst e
      rw [en0, e73 (5 + t_n r), if_neg (by omega), if_pos rfl, e73 (10 + t_n r), if_pos rfl]
      exact ⟨⟨C, hC, rfl⟩, hm, hst⟩
    · rw [e0 p (by omega), e73 (5 + p), if_neg (by omega), if_neg (by omega), if_neg (by omega), e73 (10 + p), if_neg (by omega), if_neg (by omega), if_neg (by omega)]
      exact d2 p (by omega)
  · by_cases e : p = t_n r
    · subst e
      rw [en0, e0 q (by omega)]
      exact fun y => hh q (by omega) y.symm
    · by_cases e2 : q = t_n r
      · subst e2
        rw [en0, e0 p (by omega)]
        exact hh p (by omega)
      · rw [e0 p (by omega), e0 q (by omega)]
        exact d3 p q (by omega) (by omega) hpq
  · by_cases e : p = t_n r
    · subst e
      rw [en0]
      exact hb
    · rw [e0 p (by omega)]
      exact d4 p (by omega)
  · rw [eg (15 + q) (by omega)]
    exact d5 q hq
  · rw [t_max_lt, d7 N, q_nat (by omega)]
    refine ⟨fun z => ⟨fun p hp => ?_, fun q hq => ?_, z.1.2.2⟩, fun z => ⟨⟨fun p hp => ?_, fun q hq => ?_, z.2.2⟩, ?_⟩⟩
    · by_cases e : p = t_n r
      · subst e
        rw [en0, q_nat (by omega)]
        omega
      · rw [e0 p (by omega)]
        exact z.1.1 p (by omega)
    · rw [eg (15 + q) (by omega)]
      exact z.1.2.1 q hq
    · rw [← e0 p hp]
      exact z.1 p (by omega)
    · rw [← eg (15 + q) (by omega)]
      exact z.2.1 q hq
    · have := z.1 (t_n r) (by omega)
      rw [en0, q_nat (by omega)] at this
      omega
  · rw [d8 n]
    refine ⟨fun z q hq y => ?_, fun z q hq y => ?_⟩
    · rw [eg (15 + q) (by omega)] at y; exact z q hq y
    · rw [← eg (15 + q) (by omega)] at y; exact z q hq y
  · rw [e73 (5 + q), if_neg (by omega)]
    by_cases e : q = t_n r
    · subst e
      rw [if_pos rfl]
      exact hm
    · rw [if_neg (by omega), if_neg (by omega)]
      exact d9 q hq
  · rw [eg 26 (by omega), eg 27 (by omega)]
    exact d10
theorem k_dm.goal {r : qM} {C v : Nat} (h : k_dm r) (hn : k_dn r) (hC : C < 25) (hv : v < 5) (hg : r 73 (15 + v) = Int32.ofInt (-4)) : k_dm (q_up (q_up (q_up r 70 11 (t_max (r 70 11) (Int32.ofNat v))) 70 10 (t_max (r 70 10) (Int32.ofNat C))) 73 (15 + v) (Int32.ofNat C)) := by
  have h5 := hn.2.1
  obtain ⟨d1, d2, d3, d4, d5, d6, d7, d8, d9, d10⟩ := h
  generalize er : q_up (q_up (q_up r 70 11 (t_max (r 70 11) (Int32.ofNat v))) 70 10 (t_max (r 70 10) (Int32.ofNat C))) 73 (15 + v) (Int32.ofNat C) = r'
  have en : t_n r' = t_n r := by rw [← er]; rfl
  have e73 : ∀ j, r' 73 j = if j = 15 + v then Int32.ofNat C else r 73 j := fun j => by
    rw [← er, q_up_at, q_up_ne (by decide), q_up_ne (by decide)]
  have e0 : ∀ j, j ≠ 15 + v → r' 73 j = r 73 j := fun j hj => by rw [e73, if_neg hj]
  have ev : r' 73 (15 + v) = Int32.ofNat C := by rw [e73, if_pos rfl]
  have e6 : r' 70 6 = r 70 6 := by rw [← er]; rfl
  have e7 : r' 70 7 = r 70 7 := by rw [← er]; rfl
  have e10 : r' 70 10 = t_max (r 70 10) (Int32.ofNat C) := by rw [← er]; rfl
  have e11 : r' 70 11 = t_max (r 70 11) (Int32.ofNat v) := by rw [← er]; rfl
  have nC : ¬ Int32.ofNat C = Int32.ofInt (-4) := fun y => by
    have := congrArg Int32.toInt y
    rw [q_nat (by omega), k_m4] at this
    omega
  unfold k_dm
  rw [e6, e7, e10, e11, e0 20 (by omega), en]
  refine ⟨d1, fun p hp => ?_, fun p q hp hq => ?_, fun p hp => ?_, fun q hq => ?_, d6, fun N => ?_, fun n => ?_, fun q hq => ?_, ?_⟩
  · rw [e0 p (by omega), e0 (5 + p) (by omega), e0 (10 + p) (by omega)]
    exact d2 p hp
  · rw [e0 p (by omega), e0 q (by omega)]
    exact d3 p q hp hq
  · rw [e0 p (by omega)]
    exact d4 p hp
  · by_cases e : q = v
    · rw [e, ev]
      exact Or.inr ⟨C, hC, rfl⟩
    · rw [e0 (15 + q) (by omega)]
      exact d5 q hq
  · rw [t_max_lt, d7 N, q_nat (by omega)]
    refine ⟨fun z => ⟨fun p hp => ?_, fun q hq => ?_, z.1.2.2⟩, fun z => ⟨⟨fun p hp => ?_, fun q hq => ?_, z.2.2⟩, ?_⟩⟩
    · rw [e0 p (by omega)]; exact z.1.1 p hp
    · by_cases e : q = v
      · rw [e, ev, q_nat (by omega)]
        omega
      · rw [e0 (15 + q) (by omega)]; exact z.1.2.1 q hq
    · rw [← e0 p (by omega)]; exact z.1 p hp
    · by_cases e : q = v
      · rw [e, hg, k_m4]
        omega
      · rw [← e0 (15 + q) (by omega)]; exact z.2.1 q hq
    · have := z.2.1 v hv
      rw [ev, q_nat (by omega)] at this
      omega
  · rw [t_max_lt, d8 n, q_nat (by omega)]
    refine ⟨fun z q hq y => ?_, fun z => ⟨fun q hq y => ?_, ?_⟩⟩
    · by_cases e : q = v
      · omega
      · rw [e0 (15 + q) (by omega)] at y
        exact z.1 q hq y
    · by_cases e : q = v
      · rw [e] at y
        exact absurd hg y
      · rw [← e0 (15 + q) (by omega)] at y
        exact z q hq y
    · have := z v hv (by rw [ev]; exact nC)
      omega
  · rw [e0 (5 + q) (by omega)]
    exact d9 q hq
  · rw [e0 26 (by omega), e0 27 (by omega)]
    exact d10
/-! outcomes keep the draft in order -/
def k_om (o : tO) : Prop := o.1 = 0 → k_dm o.2.2.2
theorem k_om_bad {a : Nat} {e : Int32} {r : qM} (he : ¬ e = 0) : k_om (o_bad e a r) := fun z => absurd z he
theorem k_om_ok {p : Nat} {r : qM} (h : k_dm r) : k_om (o_ok p r) := fun _ => h
theorem k_om_num {b : Nat → Int32} {s p : Nat} {lo hi : Int32} {r : qM} {k : Int32 → Nat → tO} (h : ¬ t_va b s p < lo ∧ ¬ hi < t_va b s p → k_om (k (t_va b s p) (t_pl b s p))) : k_om (o_num b s p lo hi r k) := by
  unfold o_num
  by_cases e : t_er b s p lo hi = 0
  · rw [if_pos e]
    exact h (t_er_rng e)
  · rw [if_neg e]
    exact k_om_bad e
theorem k_om_town {b : Nat → Int32} {s f p : Nat} {r : qM} (h : k_dm r) (hn : k_dn r) : k_om (o_town b s f p r) := by
  unfold o_town
  split
  · refine k_om_num (fun h1 => k_om_num (fun h2 => k_om_ok ?_))
    obtain ⟨W, w1, w2, w3⟩ := k_nat (a := 2) (b := 5) (by omega) (by omega) h1
    obtain ⟨H, w4, w5, w6⟩ := k_nat (a := 2) (b := 5) (by omega) (by omega) h2
    exact ⟨⟨W, H, w1, w2, w4, w5, w3, w6⟩, h.2⟩
  · exact k_om_bad (by decide)
theorem k_om_press {b : Nat → Int32} {s f p : Nat} {r : qM} (h : k_dm r) (hn : k_dn r) : k_om (o_press b s f p r) := by
  unfold o_press
  split
  · refine k_om_num (fun h1 => k_om_ok (h.o hn rfl rfl rfl rfl rfl (fun j hj => ?_)))
    rw [q_up_at, if_neg (by omega)]
    rfl
  · exact k_om_bad (by decide)
theorem k_om_pull {b : Nat → Int32} {s f p : Nat} {r : qM} (h : k_dm r) (hn : k_dn r) : k_om (o_pull b s f p r) := by
  unfold o_pull
  split
  · refine k_om_num (fun h1 => k_om_num (fun h1 => k_om_num (fun h1 => k_om_num (fun h1 => k_om_ok (h.o hn rfl rfl rfl rfl rfl (fun j hj => ?_))))))
    rw [q_up_at, if_neg (by omega), q_up_at, if_neg (by omega), q_up_at, if_neg (by omega), q_up_at, if_neg (by omega)]
    rfl
  · exact k_om_bad (by decide)
theorem k_om_free {b : Nat → Int32} {s p : Nat} {r : qM} {k : Int32 → Nat → qM → tO} (h : ∀ C, C < 25 → s_bit (r 73 20) (Int32.ofNat C) = 0 → t_hit (r 73) (Int32.ofNat C) (t_n r) = 0 → k_om (k (Int32.ofNat C) (t_pl b s p) (q_up r 70 10 (t_max (r 70 10) (Int32.ofNat C))))) : k_om (o_free b s p r k) := by
  unfold o_free
  refine k_om_num (fun h1 => ?_)
  obtain ⟨C, w1, w2, w3⟩ := k_nat (a := 0) (b := 24) (by omega) (by omega) h1
  rw [w3]
  split
  · rename_i e1
    split
    · rename_i e2
      exact h C (by omega) e1 e2
    · exact k_om_bad (by decide)
  · exact k_om_bad (by decide)
theorem k_om_wall {b : Nat → Int32} {s p : Nat} {r : qM} (h : k_dm r) (hn : k_dn r) : k_om (o_wall b s p r) := k_om_free (fun C hC e1 e2 => k_om_ok (h.wall hn hC e1 e2))
theorem k_om_one {b : Nat → Int32} {s f p : Nat} {r : qM} {st : Int32} (h : k_dm r) (hn : k_dn r) (hst : st = 0 ∨ st = 1) : k_om (o_one b s f p r st) := by
  unfold o_one
  by_cases e : r 70 8 < 5
  · rw [if_pos e]
    refine k_om_free (fun C hC e1 e2 => k_om_num (fun h1 => k_om_ok ?_))
    obtain ⟨M, w1, w2, w3⟩ := k_nat (a := 0) (b := 3) (by omega) (by omega) h1
    refine h.one hn (k_n5 hn e) hC e1 e2 ?_ hst
    rw [w3]
    rcases (show M = 0 ∨ M = 1 ∨ M = 2 ∨ M = 3 by omega) with e | e | e | e
    · exact Or.inl (by rw [e]; rfl)
    · exact Or.inr (Or.inl (by rw [e]; rfl))
    · exact Or.inr (Or.inr (Or.inl (by rw [e]; rfl)))
    · exact Or.inr (Or.inr (Or.inr (by rw [e]; rfl)))
  · rw [if_neg e]
    exact k_om_bad (by decide)
theorem k_om_goal {b : Nat → Int32} {s p : Nat} {r : qM} (h : k_dm r) (hn : k_dn r) : k_om (o_goal b s p r) := by
  unfold o_goal
  refine k_om_num (fun h1 => ?_)
  obtain ⟨v, w1, w2, w3⟩ := k_nat (a := 0) (b := 4) (by omega) (by omega) h1
  have ev : (Int32.ofNat v).toInt.toNat = v := by rw [q_nat (by omega)]; rfl
  rw [w3, ev]
  split
  · rename_i e1
    refine k_om_num (fun h2 => k_om_ok ?_)
    obtain ⟨C, w4, w5, w6⟩ := k_nat (a := 0) (b := 24) (by omega) (by omega) h2
    rw [w6]
    exact h.goal hn (by omega) (by omega) e1
  · exact k_om_bad (by decide)
theorem k_om_line {b : Nat → Int32} {s f p : Nat} {k : Int32} {r : qM} (h : k_dm r) (hn : k_dn r) : k_om (o_line b s f p k r) := by
  unfold o_line
  by_cases e0 : k = 0
  · rw [if_pos e0]
    exact k_om_bad (by decide)
  rw [if_neg e0]
  by_cases e1 : k = 1
  · rw [if_pos e1]
    by_cases x0 : t_ln b f (p - f) = 0
    · rw [if_pos x0]
      exact k_om_town h hn
    rw [if_neg x0]
    by_cases x1 : t_ln b f (p - f) = 1
    · rw [if_pos x1]
      exact k_om_pull h hn
    rw [if_neg x1]
    by_cases x2 : t_ln b f (p - f) = 2
    · rw [if_pos x2]
      exact k_om_press h hn
    rw [if_neg x2]
    by_cases x3 : t_ln b f (p - f) = 3
    · rw [if_pos x3]
      exact k_om_wall h hn
    rw [if_neg x3]
    by_cases x4 : t_ln b f (p - f) = 4
    · rw [if_pos x4]
      exact k_om_one h hn (Or.inl rfl)
    rw [if_neg x4]
    by_cases x5 : t_ln b f (p - f) = 5
    · rw [if_pos x5]
      exact k_om_one h hn (Or.inr rfl)
    rw [if_neg x5]
    by_cases x6 : t_ln b f (p - f) = 6
    · rw [if_pos x6]
      exact k_om_goal h hn
    rw [if_neg x6]
    exact k_om_bad (by decide)
  · rw [if_neg e1]
    exact k_om_bad (by decide)
theorem k_om_fin {b : Nat → Int32} {s : Nat} {o : tO} (h : k_om o) : k_om (o_fin b s o) := by
  unfold o_fin
  by_cases e : o.1 = 0
  · rw [if_pos e]
    split
    · exact k_om_ok (h e)
    · rename_i e2
      exact k_om_bad e2
  · rw [if_neg e]
    exact h
/-! the tape's outcome keeps the draft in order -/
theorem k_tp {b : Nat → Int32} {s : Nat} : ∀ k p m r, k_dn r → k_dm r → p ≤ s → (o_tape b s k p m r).1.1 = 0 → k_dn (o_tape b s k p m r).1.2.2.2 ∧ k_dm (o_tape b s k p m r).1.2.2.2 := by
  intro k
  induction k with
  | zero =>
    intro p m r hn hm hp _
    exact ⟨hn, hm⟩
  | succ k ih =>
    intro p m r hn hm hp
    unfold o_tape
    by_cases e : t_ki b s p = 4
    · rw [if_pos e]
      exact fun _ => ⟨hn, hm⟩
    · rw [if_neg e]
      have hp2 := (t_pl_b (b := b) hp).2.1
      by_cases e2 : (o_fin b s (o_line b s (t_fi b s p) (t_pl b s p) (t_ki b s p) r)).1 = 0
      · rw [if_pos e2]
        have z := k_on_fin (b := b) (k_on_line (b := b) (f := t_fi b s p) (k := t_ki b s p) hn hp2) e2
        exact ih _ _ _ z.1 (k_om_fin (k_om_line hm hn) e2) z.2.2
      · rw [if_neg e2]
        exact fun z => absurd z e2
/-- the first draft -/
def t_r0 : qM := fun a j => if a = 73 then (if (15 ≤ j ∧ j < 20) ∨ j < 5 then i_none else if 21 ≤ j ∧ j ≤ 24 then Int32.ofNat (25 - j) else 0) else if a = 70 then (if j = 6 ∨ j = 7 then 3 else if j = 10 ∨ j = 11 then i_none else 0) else 0
theorem k_dn0 : k_dn t_r0 := ⟨rfl, Nat.zero_le _, 0, by omega, rfl⟩
theorem t_n0 : t_n t_r0 = 0 := rfl
theorem k_dm0 : k_dm t_r0 := by
  have z : ∀ c, c < 25 → s_bit (t_r0 73 20) (Int32.ofNat c) = 0 := fun c hc => by
    rw [s_bit_l hc]
    show (0 : Int32).toBitVec.getLsbD c = false
    rw [show (0 : Int32).toBitVec = 0#32 from rfl, BitVec.getLsbD_zero]
  have g : ∀ q, q < 5 → t_r0 73 (15 + q) = Int32.ofInt (-4) := fun q hq => by
    show (if (73 : Nat) = 73 then (if (15 ≤ 15 + q ∧ 15 + q < 20) ∨ 15 + q < 5 then i_none else if 21 ≤ 15 + q ∧ 15 + q ≤ 24 then Int32.ofNat (25 - (15 + q)) else 0) else _) = _
    rw [if_pos rfl, if_pos (Or.inl (by omega))]
    rfl
  have hi : (t_r0 70 10).toInt = -4 := by decide
  have ho : (t_r0 70 11).toInt = -4 := by decide
  refine ⟨⟨3, 3, by omega, by omega, by omega, by omega, rfl, rfl⟩, fun p hp => absurd hp (Nat.not_lt_zero _), fun p q hp => absurd hp (Nat.not_lt_zero _), fun p hp => absurd hp (Nat.not_lt_zero _), fun q hq => Or.inl (g q hq), fun c hc => ?_, fun N => ?_, fun n => ?_, fun q hq => Or.inl ?_, rfl, rfl⟩
  · show (0 : Int32).toBitVec.getLsbD c = false
    rw [show (0 : Int32).toBitVec = 0#32 from rfl, BitVec.getLsbD_zero]
  · rw [hi]
    refine ⟨fun _ => ⟨fun p hp => absurd hp (Nat.not_lt_zero _), fun q hq => ?_, fun c hc y => absurd (z c hc) y⟩, fun _ => by omega⟩
    rw [g q hq, k_m4]
    omega
  · rw [ho]
    exact ⟨fun _ q hq y => absurd (g q hq) y, fun _ => by omega⟩
  · show (if (73 : Nat) = 73 then (if (15 ≤ 5 + q ∧ 5 + q < 20) ∨ 5 + q < 5 then i_none else if 21 ≤ 5 + q ∧ 5 + q ≤ 24 then Int32.ofNat (25 - (5 + q)) else 0) else _) = _
    rw [if_pos rfl, if_neg (by omega), if_neg (by omega)]
end
section
/-! THE TAPE, the class. -/
/-- what takeTape writes -/
def k_fT (g g' : qM) : Prop := (∀ a, a < 9 ∨ a = 10 ∨ 17 < a → g' a = g a) ∧ g' 9 1 = g 9 1
theorem k_fT_rfl (g : qM) : k_fT g g := ⟨fun _ _ => rfl, rfl⟩
theorem k_fT.trans {a b c : qM} (h1 : k_fT a b) (h2 : k_fT b c) : k_fT a c := ⟨fun x h => (h2.1 x h).trans (h1.1 x h), h2.2.trans h1.2⟩
theorem k_ft.T {g g' : qM} (h : k_ft g g') : k_fT g g' := ⟨h.1, h.2.1.1⟩
theorem k_fT.up {g g' : qM} (h : k_fT g g') {a j : Nat} {x : Int32} (ha : (11 ≤ a ∧ a ≤ 17) ∨ (a = 9 ∧ ¬ j = 1)) : k_fT g (q_up g' a j x) := by
  refine ⟨fun b hb => ?_, ?_⟩
  · rw [q_up_ne (by omega)]
    exact h.1 b hb
  · rw [q_up_eq, if_neg (by omega)]
    exact h.2
theorem k_fT.row {g g' : qM} (h : k_fT g g') {f : Nat → Int32} {n : Nat} : k_fT g (s_row_ 16 f n g') := by
  refine ⟨fun b hb => ?_, ?_⟩
  · funext j
    show (if b = 16 then _ else g' b j) = _
    rw [if_neg (by omega), h.1 b hb]
  · exact h.2
theorem k_dc.e1 {r g : qM} {x : Int32} (h : k_dc r g) : k_dc r (q_up g 11 1 x) := ⟨h.1, h.2⟩
theorem c_nxk {b : Nat → Int32} {s p : Nat} (g : qM) (u : qW) (hb : g 10 = b) (hs : g 9 1 = Int32.ofNat s) (h160 : s ≤ 160) (h5 : g 9 5 = Int32.ofNat p) (hp : p ≤ s) : ∃ g', q_BS 16 [.ref 9] g u (none, g', u) ∧ k_f9 g g' ∧ g' 11 = g 11 ∧ g' 9 2 = t_ki b s p ∧ g' 9 3 = Int32.ofNat (t_fi b s p) ∧ g' 9 5 = Int32.ofNat (t_pl b s p) := by
  subst hb
  obtain ⟨_, hq, k, v, rfl, hk, hv⟩ := c_next g u hs h160 h5 hp
  exact ⟨_, hq, k_f9_9 _ _ _ _ g (fun _ => ⟨s, t_pl (g 10) s p, hs, h160, rfl, (t_pl_b hp).2.1⟩), s_9_o (by decide), hk, rfl, rfl⟩
theorem c_nxf (g : qM) (u : qW) (h : k_pl g) : ∃ g', q_BS 16 [.ref 9] g u (none, g', u) ∧ k_f9 g g' ∧ g' 11 = g 11 := by
  obtain ⟨s, p, hs, h160, h5, hp⟩ := h
  obtain ⟨g', q, f, e, _⟩ := c_nxk g u rfl hs h160 h5 hp
  exact ⟨g', q, f, e⟩
theorem c_fin {b : Nat → Int32} {s : Nat} {o : tO} {g0 g : qM} (u : qW) (hk : k_pc s o g0 g) (hb : g 10 = b) (hs : g 9 1 = Int32.ofNat s) (h160 : s ≤ 160) : ∃ g', q_BS 36 [.ref 11] g u (none, g', u) ∧ k_pc s (o_fin b s o) g0 g' := by
  by_cases e : o.1 = 0
  · obtain ⟨h2, h5, hp, hd⟩ := hk.2.2 e
    obtain ⟨_, hq, g1, rfl, f, h95, h112, h113⟩ := c_stop g u ⟨hb, hs, h160, h5, hp, h2⟩
    refine ⟨g1, hq, ?_⟩
    unfold o_fin
    rw [if_pos e]
    by_cases e2 : t_et b s o.2.2.1 3 = 0
    · rw [if_pos e2]
      exact k_pc_ok (hk.1.trans f.ft) (h112.trans e2) h95 (t_pl_b hp).2.1 (hd.f9 f)
    · rw [if_neg e2]
      exact k_pc_bad (hk.1.trans f.ft) e2 h112 (h113 e2)
  · refine ⟨g, c_stopf g u (by rw [(hk.2.1 e).1]; exact e), ?_⟩
    unfold o_fin
    rw [if_neg e]
    exact hk
/-- before a turn of the loop: the token from p on is taken -/
def k_lp (b : Nat → Int32) (s p m : Nat) (r g : qM) : Prop := (g 10 = b ∧ g 9 1 = Int32.ofNat s ∧ s ≤ 160 ∧ p ≤ s ∧ m ≤ p) ∧ (g 9 2 = t_ki b s p ∧ g 9 3 = Int32.ofNat (t_fi b s p) ∧ g 9 5 = Int32.ofNat (t_pl b s p) ∧ g 11 2 = 0 ∧ g 11 1 = Int32.ofNat m) ∧ k_dc r g ∧ k_dn r
/-- behind the loop -/
def k_af (o : tO × Nat) (g0 g' : qM) : Prop := k_fT g0 g' ∧ g' 11 1 = Int32.ofNat o.2 ∧ (¬ o.1.1 = 0 → g' 11 2 = o.1.1 ∧ g' 11 3 = Int32.ofNat o.1.2.1) ∧ (o.1.1 = 0 → g' 11 2 = 0 ∧ k_dc o.1.2.2.2 g')
theorem k_lp.cc {b : Nat → Int32} {s p m : Nat} {r g : qM} (h : k_lp b s p m r g) : k_cc s (t_fi b s p) (t_pl b s p) r g := ⟨⟨h.1.2.1, h.1.2.2.1, h.2.1.2.2.1, (t_pl_b h.1.2.2.2.1).2.1, h.2.1.2.2.2.1, h.2.1.2.1⟩, h.2.2⟩
theorem t_ki_fi {b : Nat → Int32} {s p : Nat} (h : ¬ t_ki b s p = 4) : ¬ s ≤ t_fi b s p := fun z => h (by
  have e : t_k0 b s p = 4 := by unfold t_k0; rw [if_pos z]
  unfold t_ki
  rw [e, if_neg (by decide)])
/-- the tape's end: what is named must be there -/
def o_end (s : Nat) (o : tO) : tO := if o.1 = 0 then (if o.2.2.2 70 10 < o.2.2.2 70 6 * o.2.2.2 70 7 ∧ o.2.2.2 70 11 < o.2.2.2 70 8 then o else o_bad 6 s o.2.2.2) else o
/-- a text: its outcome and its lines -/
def o_text (b : Nat → Int32) (s : Nat) : tO × Nat := (o_end s (o_tape b s (s + 1) 0 0 t_r0).1, (o_tape b s (s + 1) 0 0 t_r0).2)
/-! what is named and not there -/
def k_A (r : qM) (N : Nat) : Prop := ∀ p, p < t_n r → (r 73 p).toInt < N
def k_B (r : qM) (N : Nat) : Prop := ∀ q, q < 5 → r 73 (15 + q) = i_none ∨ (q < t_n r ∧ (r 73 (15 + q)).toInt < N)
def k_C (r : qM) (N : Nat) : Prop := (r 73 20 >>> (Int32.ofNat N &&& 31)) = 0
theorem k_shr0 {x : Int32} {N : Nat} (hN : N ≤ 25) (h : ∀ c, 25 ≤ c → x.toBitVec.getLsbD c = false) : (x >>> (Int32.ofNat N &&& 31)) = 0 ↔ ∀ c, c < 25 → ¬ s_bit x (Int32.ofNat c) = 0 → c < N := by
  have z : (List.range 26).all (fun N => decide ((Int32.ofNat N &&& 31).toBitVec.smod 32 = BitVec.ofNat 32 N)) = true := by decide +kernel
  have y := of_decide_eq_true (List.all_eq_true.mp z N (List.mem_range.mpr (by omega)))
  rw [← Int32.toBitVec_inj, Int32.toBitVec_shiftRight, y]
  show x.toBitVec.sshiftRight (BitVec.ofNat 32 N).toNat = 0#32 ↔ _
  rw [BitVec.toNat_ofNat, Nat.mod_eq_of_lt (by omega)]
  have hm : x.toBitVec.msb = false := by rw [BitVec.msb_eq_getLsbD_last]; exact h 31 (by omega)
  constructor
  · intro e c hc hx
    rcases Nat.lt_or_ge c N with q | q
    · exact q
    · exfalso
      apply hx
      rw [s_bit_l hc]
      have e1 := congrArg (fun v => v.getLsbD (c - N)) e
      simp only [BitVec.getLsbD_sshiftRight] at e1
      rw [show N + (c - N) = c by omega] at e1
      simpa [show ¬ (32 ≤ c - N) by omega, show c < 32 by omega] using e1
  · intro e
    apply BitVec.eq_of_getLsbD_eq
    intro i hi
    rw [BitVec.getLsbD_sshiftRight, BitVec.getLsbD_zero]
    have e2 : x.toBitVec.getLsbD (N + i) = false := by
      rcases Nat.lt_or_ge (N + i) 25 with q | q
      · rcases Bool.eq_false_or_eq_true (x.toBitVec.getLsbD (N + i)) with w | w
        · exfalso
          have := e (N + i) q (fun v => by rw [s_bit_l q, w] at v; cases v)
          omega
        · exact w
      · exact h _ q
    rw [e2, hm]
    simp
theorem k_wh {W H : Nat} (h : W ≤ 5 ∧ H ≤ 5) : Int32.ofNat W * Int32.ofNat H = Int32.ofNat (W * H) ∧ W * H ≤ 25 := by
  have z : (List.range 6).all (fun W => (List.range 6).all (fun H => decide (Int32.ofNat W * Int32.ofNat H = Int32.ofNat (W * H) ∧ W * H ≤ 25))) = true := by decide +kernel
  exact of_decide_eq_true (List.all_eq_true.mp (List.all_eq_true.mp z W (List.mem_range.mpr (by omega))) H (List.mem_range.mpr (by omega)))
theorem k_mis {r : qM} (h : k_dm r) (hn : k_dn r) : ∃ N, r 70 6 * r 70 7 = Int32.ofNat N ∧ N ≤ 25 ∧ ((r 70 10 < r 70 6 * r 70 7 ∧ r 70 11 < r 70 8) ↔ k_A r N ∧ k_B r N ∧ k_C r N) := by
  obtain ⟨⟨W, H, w1, w2, w3, w4, w5, w6⟩, d2, d3, d4, d5, d6, d7, d8, _⟩ := h
  have e := k_wh (W := W) (H := H) ⟨w2, w4⟩
  have h5 := hn.2.1
  refine ⟨W * H, by rw [w5, w6]; exact e.1, e.2, ?_⟩
  rw [w5, w6, e.1, hn.1, Int32.lt_iff_toInt_lt, Int32.lt_iff_toInt_lt, q_nat (by have := e.2; omega), q_nat (by omega), d7 (W * H), d8 (t_n r)]
  unfold k_C
  rw [k_shr0 e.2 d6]
  have ei : (i_none : Int32) = Int32.ofInt (-4) := rfl
  constructor
  · rintro ⟨⟨a, g, c⟩, o⟩
    refine ⟨a, fun q hq => ?_, c⟩
    by_cases y : r 73 (15 + q) = i_none
    · exact Or.inl y
    · exact Or.inr ⟨o q hq y, g q hq⟩
  · rintro ⟨a, g, c⟩
    refine ⟨⟨a, fun q hq => ?_, c⟩, fun q hq y => ?_⟩
    · rcases g q hq with y | y
      · rw [y, ei, k_m4]
        omega
      · exact y.2
    · rcases g q hq with w | w
      · exact absurd w y
      · exact w.1
theorem k_ifc {c : Prop} [Decidable c] (h : ¬ (if c then (1 : Int32) else 0) = 0) : c := by
  by_cases e : c
  · exact e
  · rw [if_neg e] at h
    exact absurd rfl h
theorem k_ifn {c : Prop} [Decidable c] (h : (if c then (1 : Int32) else 0) = 0) : ¬ c := fun e => by
  rw [if_pos e] at h
  exact absurd h (by decide)
theorem sg_tb_1 (big : Nat → List Value → qM → qW → qR) (n0 : Nat) (G : qM) (U : qW) : qm_run pm_m big m_14 (n0 + 2) 51 [(0, .ref 11)] [] G U = qm_run pm_m big m_14 n0 55 [(0, .ref 11)] [.int (G 11 2)] G U := rfl
theorem sg_tb_2 (big : Nat → List Value → qM → qW → qR) (n0 : Nat) (G : qM) (U : qW) : qm_run pm_m big m_14 (n0 + 4) 58 [(0, .ref 11)] [] G U = qm_run pm_m big m_14 n0 66 [(0, .ref 11)] [.int (4 : Int32), .int (G 9 2)] G U := rfl
theorem sg_tb_3 (big : Nat → List Value → qM → qW → qR) (n0 : Nat) (G : qM) (U : qW) : qm_run pm_m big m_14 (n0 + 3) 69 [(0, .ref 11)] [] G U = qm_run pm_m big m_14 n0 76 [(0, .ref 11)] [.int (160 : Int32), .int (G 11 1)] G U := rfl
theorem sg_tb_4 (big : Nat → List Value → qM → qW → qR) (n0 : Nat) (G : qM) (U : qW) : qm_run pm_m big m_14 (n0 + 1) 79 [(0, .ref 11)] [] G U = qm_run pm_m big m_14 n0 80 [(0, .ref 11)] [.ref 11] G U := rfl
theorem sg_tb_5 (big : Nat → List Value → qM → qW → qR) (n0 : Nat) (G : qM) (U : qW) : qm_run pm_m big m_14 (n0 + 1) 83 [(0, .ref 11)] [] G U = qm_run pm_m big m_14 n0 84 [(0, .ref 11)] [.ref 11] G U := rfl
theorem sg_tb_6 (big : Nat → List Value → qM → qW → qR) (n0 : Nat) (G : qM) (U : qW) : qm_run pm_m big m_14 (n0 + 8) 87 [(0, .ref 11)] [] G U = qm_run pm_m big m_14 n0 101 [(0, .ref 11)] [.ref 9] (q_up G 11 1 ((G 11 1) + (1 : Int32))) U := rfl
theorem sg_tb_7 (big : Nat → List Value → qM → qW → qR) (n0 : Nat) (G : qM) (U : qW) : qm_run pm_m big m_14 (n0 + 1) 104 [(0, .ref 11)] [] G U = qm_run pm_m big m_14 n0 51 [(0, .ref 11)] [] G U := rfl
theorem sg_tb_8 (big : Nat → List Value → qM → qW → qR) (n0 : Nat) (G : qM) (U : qW) (v0 : Int32) : qm_run pm_m big m_38 (n0 + 1) 0 [(0, .ref 12), (1, .int v0)] [] G U = qm_run pm_m big m_38 n0 1 [(0, .ref 12), (1, .int v0)] [.int v0] G U := rfl
theorem sg_tb_9 (big : Nat → List Value → qM → qW → qR) (n0 : Nat) (G : qM) (U : qW) (v0 : Int32) : qm_run pm_m big m_38 (n0 + 2) 4 [(0, .ref 12), (1, .int v0)] [] G U = qm_run pm_m big m_38 n0 6 [(0, .ref 12), (1, .int v0)] [.ref 12, .int v0] G U := rfl
theorem sg_tb_10 (big : Nat → List Value → qM → qW → qR) (n0 : Nat) (G : qM) (U : qW) (v0 : Int32) : qm_run pm_m big m_40 (n0 + 1) 0 [(0, .ref 12), (1, .int v0)] [] G U = qm_run pm_m big m_40 n0 1 [(0, .ref 12), (1, .int v0)] [.int v0] G U := rfl
theorem sg_tb_11 (big : Nat → List Value → qM → qW → qR) (n0 : Nat) (G : qM) (U : qW) (v0 : Int32) : qm_run pm_m big m_40 (n0 + 3) 4 [(0, .ref 12), (1, .int v0)] [] G U = qm_run pm_m big m_40 n0 9 [(0, .ref 12), (1, .int v0)] [.int (G 12 3), .int v0] G U := rfl
theorem sg_tb_12 (big : Nat → List Value → qM → qW → qR) (n0 : Nat) (G : qM) (U : qW) (v0 : Int32) : qm_run pm_m big m_37 (n0 + 2) 42 [(0, .ref 11), (1, .int v0)] [] G U = qm_run pm_m big m_37 n0 44 [(0, .ref 11), (1, .int v0)] [.int (5 : Int32), .int v0] G U := rfl
theorem sg_tb_13 (big : Nat → List Value → qM → qW → qR) (n0 : Nat) (G : qM) (U : qW) (v0 : Int32) : qm_run pm_m big m_37 (n0 + 5) 99 [(0, .ref 11), (1, .int v0)] [] G U = qm_run pm_m big m_37 n0 110 [(0, .ref 11), (1, .int v0)] [.ref 12, .int (G 12 2)] G U := rfl
theorem sg_tb_14 (big : Nat → List Value → qM → qW → qR) (n0 : Nat) (G : qM) (U : qW) (v0 : Int32) (v1 : Int32) (v2 : Int32) : qm_run pm_m big m_37 (n0 + 1) 113 [(0, .ref 11), (1, .int v0)] [.int v2, .int v1] G U = qm_run pm_m big m_37 n0 114 [(0, .ref 11), (1, .int v0)] [.int (v1 >>> (v2 &&& 31))] G U := rfl
theorem sg_tb_15 (big : Nat → List Value → qM → qW → qR) (n0 : Nat) (G : qM) (U : qW) (v0 : Int32) : qm_run pm_m big m_37 (n0 + 4) 47 [(0, .ref 11), (1, .int v0)] [] G U = qm_run pm_m big m_37 n0 55 [(0, .ref 11), (1, .int v0)] [.int v0, .ref 16] G U := rfl
theorem sg_tb_16 (big : Nat → List Value → qM → qW → qR) (n0 : Nat) (G : qM) (U : qW) (v0 : Int32) (v1 : Int32) : qm_run pm_m big m_37 (n0 + 1) 56 [(0, .ref 11), (1, .int v0)] [.int v1] G U = qm_run pm_m big m_37 n0 58 [(0, .ref 11), (1, .int v0)] [.int (Int8.toInt32 (Int8.ofInt (-4))), .int v1] G U := rfl
theorem sg_tb_17 (big : Nat → List Value → qM → qW → qR) (n0 : Nat) (G : qM) (U : qW) (v0 : Int32) : qm_run pm_m big m_37 (n0 + 2) 93 [(0, .ref 11), (1, .int v0)] [] G U = qm_run pm_m big m_37 n0 42 [(0, .ref 11), (1, .int (v0 + (1 : Int32)))] [] G U := rfl
theorem sg_tb_18 (big : Nat → List Value → qM → qW → qR) (n0 : Nat) (G : qM) (U : qW) (v0 : Int32) : qm_run pm_m big m_37 (n0 + 3) 61 [(0, .ref 11), (1, .int v0)] [] G U = qm_run pm_m big m_37 n0 66 [(0, .ref 11), (1, .int v0)] [.int v0, .ref 12] G U := rfl
theorem sg_tb_19 (big : Nat → List Value → qM → qW → qR) (n0 : Nat) (G : qM) (U : qW) (v0 : Int32) : qm_run pm_m big m_37 (n0 + 6) 72 [(0, .ref 11), (1, .int v0)] [] G U = qm_run pm_m big m_37 n0 84 [(0, .ref 11), (1, .int v0)] [.int v0, .ref 16, .ref 12] G U := rfl
theorem sg_tb_20 (big : Nat → List Value → qM → qW → qR) (n0 : Nat) (G : qM) (U : qW) (v0 : Int32) : qm_run pm_m big m_37 (n0 + 4) 2 [(0, .ref 11), (1, .int v0)] [] G U = qm_run pm_m big m_37 n0 10 [(0, .ref 11), (1, .int v0)] [.int (G 12 3), .int v0] G U := rfl
theorem sg_tb_21 (big : Nat → List Value → qM → qW → qR) (n0 : Nat) (G : qM) (U : qW) (v0 : Int32) : qm_run pm_m big m_37 (n0 + 2) 40 [(0, .ref 11), (1, .int v0)] [] G U = qm_run pm_m big m_37 n0 42 [(0, .ref 11), (1, .int (0 : Int32))] [] G U := rfl
theorem sg_tb_22 (big : Nat → List Value → qM → qW → qR) (n0 : Nat) (G : qM) (U : qW) (v0 : Int32) : qm_run pm_m big m_37 (n0 + 6) 13 [(0, .ref 11), (1, .int v0)] [] G U = qm_run pm_m big m_37 n0 25 [(0, .ref 11), (1, .int v0)] [.int v0, .ref 13, .ref 12] G U := rfl
theorem sg_tb_23 (big : Nat → List Value → qM → qW → qR) (n0 : Nat) (G : qM) (U : qW) (v0 : Int32) : qm_run pm_m big m_37 (n0 + 2) 34 [(0, .ref 11), (1, .int v0)] [] G U = qm_run pm_m big m_37 n0 2 [(0, .ref 11), (1, .int (v0 + (1 : Int32)))] [] G U := rfl
theorem sg_tb_24 (big : Nat → List Value → qM → qW → qR) (n0 : Nat) (G : qM) (U : qW) : qm_run pm_m big m_37 (n0 + 2) 0 [(0, .ref 11)] [] G U = qm_run pm_m big m_37 n0 2 [(0, .ref 11), (1, .int (0 : Int32))] [] G U := rfl
theorem sg_tb_25 (big : Nat → List Value → qM → qW → qR) (n0 : Nat) (G : qM) (U : qW) : qm_run pm_m big m_5 (n0 + 24) 0 [(0, .ref 12)] [] G U = qm_run pm_m big m_5 n0 41 [(0, .ref 12)] [.int (Int8.toInt32 (Int8.ofInt (-4))), .ref 16] (q_up (q_up (q_up (q_up (q_up (q_up (q_up G 12 0 (3 : Int32)) 12 1 (3 : Int32)) 12 2 (0 : Int32)) 12 3 (0 : Int32)) 12 4 (0 : Int32)) 12 5 (0 : Int32)) 12 6 (0 : Int32)) U := rfl
theorem sg_tb_26 (big : Nat → List Value → qM → qW → qR) (n0 : Nat) (G : qM) (U : qW) : qm_run pm_m big m_5 (n0 + 40) 44 [(0, .ref 12)] [] G U = qm_run pm_m big m_5 n0 48 [(0, .ref 12), (1, .int (4 : Int32))] [.int (4 : Int32), .int (4 : Int32)] (q_up (q_up (q_up G 17 1 (4 : Int32)) 17 2 (3 : Int32)) 17 3 (2 : Int32)) U := rfl
theorem sg_tb_27 (big : Nat → List Value → qM → qW → qR) (n0 : Nat) (G : qM) (U : qW) : qm_run pm_m big m_14 (n0 + 2) 107 [(0, .ref 11)] [] G U = qm_run pm_m big m_14 n0 111 [(0, .ref 11)] [.int (G 11 2)] G U := rfl
theorem sg_tb_28 (big : Nat → List Value → qM → qW → qR) (n0 : Nat) (G : qM) (U : qW) : qm_run pm_m big m_14 (n0 + 1) 114 [(0, .ref 11)] [] G U = qm_run pm_m big m_14 n0 115 [(0, .ref 11)] [.ref 11] G U := rfl
theorem sg_tb_29 (big : Nat → List Value → qM → qW → qR) (n0 : Nat) (G : qM) (U : qW) : qm_run pm_m big m_14 (n0 + 5) 121 [(0, .ref 11)] [] G U = qm_run pm_m big m_14 n0 131 [(0, .ref 11)] [.int (G 9 1), .int (6 : Int32), .ref 11] G U := rfl
theorem sg_tb_30 (big : Nat → List Value → qM → qW → qR) (n0 : Nat) (G : qM) (U : qW) : qm_run pm_m big m_14 (n0 + 2) 0 [(0, .ref 11)] [] G U = qm_run pm_m big m_14 n0 4 [(0, .ref 11)] [.ref 12] G U := rfl
theorem sg_tb_31 (big : Nat → List Value → qM → qW → qR) (n0 : Nat) (G : qM) (U : qW) : qm_run pm_m big m_14 (n0 + 20) 7 [(0, .ref 11)] [] G U = qm_run pm_m big m_14 n0 41 [(0, .ref 11)] [.ref 9] (q_up (q_up (q_up (q_up (q_up (q_up G 11 1 (0 : Int32)) 11 2 (0 : Int32)) 11 3 (0 : Int32)) 11 5 (0 : Int32)) 11 6 (0 : Int32)) 11 7 (0 : Int32)) U := rfl
theorem sg_tb_32 (big : Nat → List Value → qM → qW → qR) (n0 : Nat) (G : qM) (U : qW) : qm_run pm_m big m_14 (n0 + 2) 44 [(0, .ref 11)] [] G U = qm_run pm_m big m_14 n0 48 [(0, .ref 11)] [.ref 9] G U := rfl
theorem sg_tb_33 (big : Nat → List Value → qM → qW → qR) (n0 : Nat) (G : qM) (U : qW) : qm_run pm_m big m_13 (n0 + 2) 0 [(0, .ref 8)] [] G U = qm_run pm_m big m_13 n0 4 [(0, .ref 8)] [.ref 11] G U := rfl
theorem sg_tb_34 (big : Nat → List Value → qM → qW → qR) (n0 : Nat) (G : qM) (U : qW) : qm_run pm_m big m_13 (n0 + 7) 7 [(0, .ref 8)] [] G U = qm_run pm_m big m_13 n0 22 [(0, .ref 8)] [.int (G 11 2)] (q_up G 9 1 (0 : Int32)) U := rfl
theorem sg_tb_35 (big : Nat → List Value → qM → qW → qR) (n0 : Nat) (G : qM) (U : qW) : qm_run pm_m big m_13 (n0 + 5) 36 [(0, .ref 8)] [] G U = qm_run pm_m big m_13 n0 47 [(0, .ref 8)] [.ref 12, .ref 20] G U := rfl
theorem tb_bad {Q : Option Value × qM × qW → Prop} (g : qM) (u : qW) (hf : ¬ g 11 2 = 0) (hQ : q_EV m_14 107 [(0, .ref 11)] [] g u Q) : q_EV m_14 51 [(0, .ref 11)] [] g u Q := by
  refine q_step 2 55 [(0, .ref 11)] [.int (g 11 2)] g u (fun big n0 => sg_tb_1 big n0 g u) ?_
  refine q_if_ne rfl (fun hc0 => absurd (show (g 11 2) = 0 from hc0) (hf)) (fun (hc0 : ¬ ((g 11 2) = 0)) => ?_)
  exact hQ
theorem tb_l {b : Nat → Int32} {s : Nat} (u : qW) {Q : Option Value × qM × qW → Prop} : ∀ k p m r g g0, k_fT g0 g → k_lp b s p m r g → s < p + k → (∀ g', k_af (o_tape b s k p m r) g0 g' → q_EV m_14 107 [(0, .ref 11)] [] g' u Q) → q_EV m_14 51 [(0, .ref 11)] [] g u Q := by
  intro k
  induction k with
  | zero =>
    intro p m r g g0 hfr hl hk
    have := hl.1.2.2.2.1
    omega
  | succ k ih =>
    intro p m r g g0 hfr hl hk hQ
    have hcc := hl.cc
    obtain ⟨⟨hb, hs, h160, hp, hm⟩, ⟨h92, h93, h95, h2, h1⟩, hd, hn⟩ := hl
    have hfp := (t_pl_b (b := b) hp).1
    have hps := (t_pl_b (b := b) hp).2.1
    refine q_step 2 55 [(0, .ref 11)] [.int (g 11 2)] g u (fun big n0 => sg_tb_1 big n0 g u) ?_
    refine q_if_ne rfl (fun (hc0 : (g 11 2) = 0) => ?_) (fun hc0 => absurd (show (g 11 2) = 0 from h2) hc0)
    refine q_step 4 66 [(0, .ref 11)] [.int (4 : Int32), .int (g 9 2)] g u (fun big n0 => sg_tb_2 big n0 g u) ?_
    refine q_ic_eq rfl (fun (hc1 : (g 9 2) = (4 : Int32)) => ?_) (fun (hc1 : ¬ ((g 9 2) = (4 : Int32))) => ?_)
    · refine hQ g ?_
      rw [o_tape, if_pos (h92.symm.trans hc1)]
      exact ⟨hfr, h1, fun z => absurd rfl z, fun _ => ⟨h2, hd⟩⟩
    · refine q_step 3 76 [(0, .ref 11)] [.int (160 : Int32), .int (g 11 1)] g u (fun big n0 => sg_tb_3 big n0 g u) ?_
      refine q_ic_gt rfl (fun hc2 => absurd (show (160 : Int32) < (g 11 1) from hc2) (fun z => by rw [h1, show (160 : Int32) = Int32.ofNat 160 from rfl, q_lt (by omega) (by omega)] at z; omega)) (fun (hc2 : ¬ ((160 : Int32) < (g 11 1))) => ?_)
      refine q_step 1 80 [(0, .ref 11)] [.ref 11] g u (fun big n0 => sg_tb_4 big n0 g u) ?_
      obtain ⟨_, q1, g1, rfl, k1⟩ := c_line g u hcc hfp
      rw [hb, h92] at k1
      refine q_call (M2 := 19) (rest := []) (q1) (fun _ _ => rfl) ?_
      refine q_step 1 84 [(0, .ref 11)] [.ref 11] g1 u (fun big n0 => sg_tb_5 big n0 g1 u) ?_
      have hs1 := k1.1.2.1.1.trans hs
      obtain ⟨g2, q2, k2⟩ := c_fin u k1 ((k1.1.1 10 (by omega)).trans hb) hs1 h160
      have hb2 := (k2.1.1 10 (by omega)).trans hb
      have hs2 := k2.1.2.1.1.trans hs
      refine q_call (M2 := 36) (rest := []) (q2) (fun _ _ => rfl) ?_
      refine q_step 8 101 [(0, .ref 11)] [.ref 9] (q_up g2 11 1 ((g2 11 1) + (1 : Int32))) u (fun big n0 => sg_tb_6 big n0 g2 u) ?_
      by_cases hc3 : (o_fin b s (o_line b s (t_fi b s p) (t_pl b s p) (t_ki b s p) r)).1 = 0
      · obtain ⟨z2, z5, zp, zd⟩ := k2.2.2 hc3
        obtain ⟨g3, q3, f3, e3, x2, x3, x5⟩ := c_nxk (q_up g2 11 1 ((g2 11 1) + (1 : Int32))) u (b := b) ((q_up_ne (by decide)).trans hb2) hs2 h160 z5 zp
        refine q_call (M2 := 16) (rest := []) (q3) (fun _ _ => rfl) ?_
        refine q_step 1 51 [(0, .ref 11)] [] g3 u (fun big n0 => sg_tb_7 big n0 g3 u) ?_
        have ee : g3 11 = q_up g2 11 1 (g2 11 1 + 1) 11 := e3
        have h31 : g3 11 1 = Int32.ofNat (m + 1) := by
          rw [ee, q_up_at, if_pos rfl, k2.1.2.1.2, h1, q_succ]
        have hF : k_fT g0 g3 := ((hfr.trans k2.1.T).up (by omega)).trans f3.ft.T
        have zo := k_on_fin (b := b) (k_on_line (b := b) (f := t_fi b s p) (k := t_ki b s p) hn hps) hc3
        have hlt := (t_pl_b (b := b) hp).2.2 (t_ki_fi (fun z => hc1 (h92.trans z)))
        have hfi := (t_fi_b (b := b) hp).1
        refine ih _ (m + 1) _ g3 g0 hF ⟨⟨(f3.1 10 (by decide) (by decide)).trans ((q_up_ne (by decide)).trans hb2), (f3.2.1 1 (by omega)).trans hs2, h160, zp, by omega⟩, ⟨x2, x3, x5, ?_, h31⟩, zd.e1.f9 f3, zo.1⟩ (by omega) (fun g' hg => hQ g' ?_)
        · rw [ee, q_up_at, if_neg (by decide)]
          exact z2
        · rw [o_tape, if_neg (fun z => hc1 (h92.trans z)), if_pos hc3]
          exact hg
      · obtain ⟨y2, y3⟩ := k2.2.1 hc3
        obtain ⟨g3, q3, f3, e3⟩ := c_nxf (q_up g2 11 1 ((g2 11 1) + (1 : Int32))) u (k_pl.up (k2.1.2.2 ⟨s, _, hs, h160, h95, hps⟩) (by omega))
        refine q_call (M2 := 16) (rest := []) (q3) (fun _ _ => rfl) ?_
        refine q_step 1 51 [(0, .ref 11)] [] g3 u (fun big n0 => sg_tb_7 big n0 g3 u) ?_
        have ee : g3 11 = q_up g2 11 1 (g2 11 1 + 1) 11 := e3
        have h31 : g3 11 1 = Int32.ofNat (m + 1) := by
          rw [ee, q_up_at, if_pos rfl, k2.1.2.1.2, h1, q_succ]
        have hF : k_fT g0 g3 := ((hfr.trans k2.1.T).up (by omega)).trans f3.ft.T
        have h32 : g3 11 2 = (o_fin b s (o_line b s (t_fi b s p) (t_pl b s p) (t_ki b s p) r)).1 := by
          rw [ee, q_up_at, if_neg (by decide)]
          exact y2
        refine tb_bad g3 u (by rw [h32]; exact hc3) (hQ g3 ?_)
        rw [o_tape, if_neg (fun z => hc1 (h92.trans z)), if_neg hc3]
        refine ⟨hF, h31, fun _ => ⟨h32, ?_⟩, fun z => absurd z hc3⟩
        rw [ee, q_up_at, if_neg (by decide)]
        exact y3
def d_size12 (g : qM) : Int32 := ((g 12 0) * (g 12 1))
theorem b_size12 (g : qM) (u : qW) : q_BS 39 [.ref 12] g u (some (.int (d_size12 g)), g, u) := by
  refine q_bx (mm := m_39) rfl (Nat.le_of_ble_eq_true rfl) rfl ?_
  refine q_ret 6 (some (.int ((g 12 0) * (g 12 1))), g, u) (fun _ _ => rfl) ?_
  unfold d_size12
  rfl
theorem b_hc12 {N C : Nat} (g : qM) (u : qW) (hN : g 12 0 * g 12 1 = Int32.ofNat N) (h25 : N ≤ 25) (hC : C < 25) : q_BS 38 [.ref 12, .int (Int32.ofNat C)] g u (some (.int (if C < N then 1 else 0)), g, u) := by
  refine q_bx (mm := m_38) rfl (Nat.le_of_ble_eq_true rfl) rfl ?_
  refine q_step 1 1 [(0, .ref 12), (1, .int (Int32.ofNat C))] [.int (Int32.ofNat C)] g u (fun big n0 => sg_tb_8 big n0 g u (Int32.ofNat C)) ?_
  refine q_if_lt rfl (fun hc0 => absurd (show (Int32.ofNat C) < 0 from hc0) (fun z => by rw [show (0 : Int32) = Int32.ofNat 0 from rfl, q_lt (by omega) (by omega)] at z; omega)) (fun (hc0 : ¬ ((Int32.ofNat C) < 0)) => ?_)
  refine q_step 2 6 [(0, .ref 12), (1, .int (Int32.ofNat C))] [.ref 12, .int (Int32.ofNat C)] g u (fun big n0 => sg_tb_9 big n0 g u (Int32.ofNat C)) ?_
  refine q_call (M2 := 39) (rest := [.int (Int32.ofNat C)]) (b_size12 _ _) (fun _ _ => rfl) ?_
  refine q_ic_ge rfl (fun (hc1 : (d_size12 g) ≤ (Int32.ofNat C)) => ?_) (fun (hc1 : ¬ ((d_size12 g) ≤ (Int32.ofNat C))) => ?_)
  · refine q_ret 2 (some (.int (0 : Int32)), g, u) (fun _ _ => rfl) ?_
    rw [if_neg (fun z => absurd (show d_size12 g ≤ Int32.ofNat C from hc1) (by unfold d_size12; rw [hN, q_le (by omega) (by omega)]; omega))]
  · refine q_ret 3 (some (.int (1 : Int32)), g, u) (fun _ _ => rfl) ?_
    rw [if_pos (by
      have z := hc1
      unfold d_size12 at z
      rw [hN, q_le (by omega) (by omega)] at z
      omega)]
theorem b_ho12 {n p : Nat} (g : qM) (u : qW) (hn : g 12 3 = Int32.ofNat n) (h5 : n ≤ 5) (hp : p < 25) : q_BS 40 [.ref 12, .int (Int32.ofNat p)] g u (some (.int (if p < n then 1 else 0)), g, u) := by
  refine q_bx (mm := m_40) rfl (Nat.le_of_ble_eq_true rfl) rfl ?_
  refine q_step 1 1 [(0, .ref 12), (1, .int (Int32.ofNat p))] [.int (Int32.ofNat p)] g u (fun big n0 => sg_tb_10 big n0 g u (Int32.ofNat p)) ?_
  refine q_if_lt rfl (fun hc0 => absurd (show (Int32.ofNat p) < 0 from hc0) (fun z => by rw [show (0 : Int32) = Int32.ofNat 0 from rfl, q_lt (by omega) (by omega)] at z; omega)) (fun (hc0 : ¬ ((Int32.ofNat p) < 0)) => ?_)
  refine q_step 3 9 [(0, .ref 12), (1, .int (Int32.ofNat p))] [.int (g 12 3), .int (Int32.ofNat p)] g u (fun big n0 => sg_tb_11 big n0 g u (Int32.ofNat p)) ?_
  refine q_ic_ge rfl (fun (hc1 : (g 12 3) ≤ (Int32.ofNat p)) => ?_) (fun (hc1 : ¬ ((g 12 3) ≤ (Int32.ofNat p))) => ?_)
  · refine q_ret 2 (some (.int (0 : Int32)), g, u) (fun _ _ => rfl) ?_
    rw [if_neg (fun z => absurd (show g 12 3 ≤ Int32.ofNat p from hc1) (by rw [hn, q_le (by omega) (by omega)]; omega))]
  · refine q_ret 3 (some (.int (1 : Int32)), g, u) (fun _ _ => rfl) ?_
    rw [if_pos (by
      have z := hc1
      rw [hn, q_le (by omega) (by omega)] at z
      omega)]
theorem nw_2 {r : qM} {N : Nat} (g : qM) (u : qW) (hd : k_dc r g) (hn : k_dn r) (hm : k_dm r) (hN : g 12 0 * g 12 1 = Int32.ofNat N) (h25 : N ≤ 25) (hA : k_A r N) : ∀ k i, i + k = 5 → (∀ q, q < i → r 73 (15 + q) = i_none ∨ (q < t_n r ∧ (r 73 (15 + q)).toInt < N)) → q_EV m_37 42 [(0, .ref 11), (1, .int (Int32.ofNat i))] [] g u (fun R => ∃ v, R = (some (.int v), g, u) ∧ ((v = 0 ∧ (k_A r N ∧ k_B r N ∧ k_C r N)) ∨ (v = 1 ∧ ¬ (k_A r N ∧ k_B r N ∧ k_C r N)))) := by
  intro k
  induction k with
  | zero =>
    intro i hi hB
    have hn3 : g 12 3 = Int32.ofNat (t_n r) := hd.1.2.2.2.1.trans hn.1
    have h5 := hn.2.1
    
    have hi5 : i = 5 := by omega
    subst hi5
    refine q_step 2 44 [(0, .ref 11), (1, .int (Int32.ofNat 5))] [.int (5 : Int32), .int (Int32.ofNat 5)] g u (fun big n0 => sg_tb_12 big n0 g u (Int32.ofNat 5)) ?_
    refine q_ic_ge rfl (fun (hc0 : (5 : Int32) ≤ (Int32.ofNat 5)) => ?_) (fun hc0 => absurd (show (5 : Int32) ≤ (Int32.ofNat 5) from by decide) hc0)
    refine q_step 5 110 [(0, .ref 11), (1, .int (Int32.ofNat 5))] [.ref 12, .int (g 12 2)] g u (fun big n0 => sg_tb_13 big n0 g u (Int32.ofNat 5)) ?_
    refine q_call (M2 := 39) (rest := [.int (g 12 2)]) (b_size12 _ _) (fun _ _ => rfl) ?_
    refine q_step 1 114 [(0, .ref 11), (1, .int (Int32.ofNat 5))] [.int ((g 12 2) >>> ((d_size12 g) &&& 31))] g u (fun big n0 => sg_tb_14 big n0 g u (Int32.ofNat 5) (g 12 2) (d_size12 g)) ?_
    refine q_if_eq rfl (fun (hc1 : ((g 12 2) >>> ((d_size12 g) &&& 31)) = 0) => ?_) (fun (hc1 : ¬ (((g 12 2) >>> ((d_size12 g) &&& 31)) = 0)) => ?_)
    · refine q_ret 2 (some (.int (0 : Int32)), g, u) (fun _ _ => rfl) ?_
      have hC : g 12 2 >>> (d_size12 g &&& 31) = r 73 20 >>> (Int32.ofNat N &&& 31) := by unfold d_size12; rw [hN, hd.1.2.2.1]
      exact ⟨_, rfl, Or.inl ⟨rfl, hA, hB, hC.symm.trans hc1⟩⟩
    · refine q_ret 3 (some (.int (1 : Int32)), g, u) (fun _ _ => rfl) ?_
      have hC : g 12 2 >>> (d_size12 g &&& 31) = r 73 20 >>> (Int32.ofNat N &&& 31) := by unfold d_size12; rw [hN, hd.1.2.2.1]
      exact ⟨_, rfl, Or.inr ⟨rfl, fun z => hc1 (hC.trans z.2.2)⟩⟩
  | succ k ih =>
    intro i hi hB
    have hn3 : g 12 3 = Int32.ofNat (t_n r) := hd.1.2.2.2.1.trans hn.1
    have h5 := hn.2.1
    
    have hgo := hd.2.2.2.1 i (by omega)
    refine q_step 2 44 [(0, .ref 11), (1, .int (Int32.ofNat i))] [.int (5 : Int32), .int (Int32.ofNat i)] g u (fun big n0 => sg_tb_12 big n0 g u (Int32.ofNat i)) ?_
    refine q_ic_ge rfl (fun hc0 => absurd (show (5 : Int32) ≤ (Int32.ofNat i) from hc0) (fun z => by rw [show (5 : Int32) = Int32.ofNat 5 from rfl, q_le (by omega) (by omega)] at z; omega)) (fun (hc0 : ¬ ((5 : Int32) ≤ (Int32.ofNat i))) => ?_)
    refine q_step 4 55 [(0, .ref 11), (1, .int (Int32.ofNat i))] [.int (Int32.ofNat i), .ref 16] g u (fun big n0 => sg_tb_15 big n0 g u (Int32.ofNat i)) ?_
    refine q_iald (j := i) (q_ixn (by omega) (by omega)) rfl rfl ?_
    refine q_step 1 58 [(0, .ref 11), (1, .int (Int32.ofNat i))] [.int (Int8.toInt32 (Int8.ofInt (-4))), .int (g 16 i)] g u (fun big n0 => sg_tb_16 big n0 g u (Int32.ofNat i) (g 16 i)) ?_
    refine q_ic_eq rfl (fun (hc1 : (g 16 i) = (Int8.toInt32 (Int8.ofInt (-4)))) => ?_) (fun (hc1 : ¬ ((g 16 i) = (Int8.toInt32 (Int8.ofInt (-4))))) => ?_)
    · refine q_step 2 42 [(0, .ref 11), (1, .int ((Int32.ofNat i) + (1 : Int32)))] [] g u (fun big n0 => sg_tb_17 big n0 g u (Int32.ofNat i)) ?_
      rw [q_succ]
      refine ih (i + 1) (by omega) (fun q hq => ?_)
      by_cases e : q = i
      · rw [e]
        exact Or.inl (hgo.symm.trans hc1)
      · exact hB q (by omega)
    · refine q_step 3 66 [(0, .ref 11), (1, .int (Int32.ofNat i))] [.int (Int32.ofNat i), .ref 12] g u (fun big n0 => sg_tb_18 big n0 g u (Int32.ofNat i)) ?_
      refine q_call (M2 := 40) (rest := []) (b_ho12 g u hn3 h5 (by omega)) (fun _ _ => rfl) ?_
      refine q_if_eq rfl (fun (hc2 : (if i < t_n r then 1 else 0) = 0) => ?_) (fun (hc2 : ¬ ((if i < t_n r then 1 else 0) = 0)) => ?_)
      · refine q_ret 2 (some (.int (1 : Int32)), g, u) (fun _ _ => rfl) ?_
        refine ⟨_, rfl, Or.inr ⟨rfl, fun z => ?_⟩⟩
        rcases z.2.1 i (by omega) with y | y
        · exact absurd (hgo.trans y) hc1
        · exact absurd hc2 (by rw [if_pos y.1]; decide)
      · refine q_step 6 84 [(0, .ref 11), (1, .int (Int32.ofNat i))] [.int (Int32.ofNat i), .ref 16, .ref 12] g u (fun big n0 => sg_tb_19 big n0 g u (Int32.ofNat i)) ?_
        refine q_iald (j := i) (q_ixn (by omega) (by omega)) rfl rfl ?_
        have hx : ∃ C, C < 25 ∧ r 73 (15 + i) = Int32.ofNat C := (hm.2.2.2.2.1 i (by omega)).resolve_left (fun z => hc1 (hgo.trans z))
        obtain ⟨C, hC, eC⟩ := hx
        refine q_call (M2 := 38) (rest := []) (by rw [hgo, eC]; exact b_hc12 g u hN h25 hC) (fun _ _ => rfl) ?_
        refine q_if_ne rfl (fun (hc3 : (if C < N then 1 else 0) = 0) => ?_) (fun (hc3 : ¬ ((if C < N then 1 else 0) = 0)) => ?_)
        · refine q_ret 2 (some (.int (1 : Int32)), g, u) (fun _ _ => rfl) ?_
          refine ⟨_, rfl, Or.inr ⟨rfl, fun z => ?_⟩⟩
          rcases z.2.1 i (by omega) with y | y
          · exact absurd (hgo.trans y) hc1
          · have y2 := y.2
            rw [eC, q_nat (by omega)] at y2
            exact absurd hc3 (by rw [if_pos (by omega)]; decide)
        · refine q_step 2 42 [(0, .ref 11), (1, .int ((Int32.ofNat i) + (1 : Int32)))] [] g u (fun big n0 => sg_tb_17 big n0 g u (Int32.ofNat i)) ?_
          rw [q_succ]
          refine ih (i + 1) (by omega) (fun q hq => ?_)
          by_cases e : q = i
          · rw [e]
            exact Or.inr ⟨k_ifc hc2, by have y := k_ifc hc3; rw [eC, q_nat (by omega)]; omega⟩
          · exact hB q (by omega)
theorem nw_1 {r : qM} {N : Nat} (g : qM) (u : qW) (hd : k_dc r g) (hn : k_dn r) (hm : k_dm r) (hN : g 12 0 * g 12 1 = Int32.ofNat N) (h25 : N ≤ 25) : ∀ k i, i + k = t_n r → (∀ p, p < i → (r 73 p).toInt < N) → q_EV m_37 2 [(0, .ref 11), (1, .int (Int32.ofNat i))] [] g u (fun R => ∃ v, R = (some (.int v), g, u) ∧ ((v = 0 ∧ (k_A r N ∧ k_B r N ∧ k_C r N)) ∨ (v = 1 ∧ ¬ (k_A r N ∧ k_B r N ∧ k_C r N)))) := by
  intro k
  induction k with
  | zero =>
    intro i hi hA
    have hn3 : g 12 3 = Int32.ofNat (t_n r) := hd.1.2.2.2.1.trans hn.1
    have h5 := hn.2.1
    
    have hi5 : i = t_n r := by omega
    subst hi5
    refine q_step 4 10 [(0, .ref 11), (1, .int (Int32.ofNat (t_n r)))] [.int (g 12 3), .int (Int32.ofNat (t_n r))] g u (fun big n0 => sg_tb_20 big n0 g u (Int32.ofNat (t_n r))) ?_
    refine q_ic_ge rfl (fun (hc0 : (g 12 3) ≤ (Int32.ofNat (t_n r))) => ?_) (fun hc0 => absurd (show (g 12 3) ≤ (Int32.ofNat (t_n r)) from by rw [hn3]; exact (q_le (by omega) (by omega)).mpr (by omega)) hc0)
    refine q_step 2 42 [(0, .ref 11), (1, .int (0 : Int32))] [] g u (fun big n0 => sg_tb_21 big n0 g u (Int32.ofNat (t_n r))) ?_
    exact nw_2 g u hd hn hm hN h25 hA 5 0 (by omega) (fun q hq => absurd hq (by omega))
  | succ k ih =>
    intro i hi hA
    have hn3 : g 12 3 = Int32.ofNat (t_n r) := hd.1.2.2.2.1.trans hn.1
    have h5 := hn.2.1
    
    have hce := (hd.2.2.1 i (by omega)).1
    obtain ⟨C, hC, eC⟩ := (hm.2.1 i (by omega)).1
    refine q_step 4 10 [(0, .ref 11), (1, .int (Int32.ofNat i))] [.int (g 12 3), .int (Int32.ofNat i)] g u (fun big n0 => sg_tb_20 big n0 g u (Int32.ofNat i)) ?_
    refine q_ic_ge rfl (fun hc0 => absurd (show (g 12 3) ≤ (Int32.ofNat i) from hc0) (fun z => by rw [hn3, q_le (by omega) (by omega)] at z; omega)) (fun (hc0 : ¬ ((g 12 3) ≤ (Int32.ofNat i))) => ?_)
    refine q_step 6 25 [(0, .ref 11), (1, .int (Int32.ofNat i))] [.int (Int32.ofNat i), .ref 13, .ref 12] g u (fun big n0 => sg_tb_22 big n0 g u (Int32.ofNat i)) ?_
    refine q_iald (j := i) (q_ixn (by omega) (by omega)) rfl rfl ?_
    refine q_call (M2 := 38) (rest := []) (by rw [hce, eC]; exact b_hc12 g u hN h25 hC) (fun _ _ => rfl) ?_
    refine q_if_ne rfl (fun (hc1 : (if C < N then 1 else 0) = 0) => ?_) (fun (hc1 : ¬ ((if C < N then 1 else 0) = 0)) => ?_)
    · refine q_ret 2 (some (.int (1 : Int32)), g, u) (fun _ _ => rfl) ?_
      refine ⟨_, rfl, Or.inr ⟨rfl, fun z => ?_⟩⟩
      have y2 := z.1 i (by omega)
      rw [eC, q_nat (by omega)] at y2
      exact absurd hc1 (by rw [if_pos (by omega)]; decide)
    · refine q_step 2 2 [(0, .ref 11), (1, .int ((Int32.ofNat i) + (1 : Int32)))] [] g u (fun big n0 => sg_tb_23 big n0 g u (Int32.ofNat i)) ?_
      rw [q_succ]
      refine ih (i + 1) (by omega) (fun q hq => ?_)
      by_cases e : q = i
      · rw [e, eC, q_nat (by omega)]
        by_cases y : C < N
        · omega
        · exact absurd (if_neg y) hc1
      · exact hA q (by omega)
theorem c_nwn {r : qM} (g : qM) (u : qW) (hd : k_dc r g) (hn : k_dn r) (hm : k_dm r) : q_BS 37 [.ref 11] g u (some (.int (if r 70 10 < r 70 6 * r 70 7 ∧ r 70 11 < r 70 8 then 0 else 1)), g, u) := by
  obtain ⟨N, eN, h25, hiff⟩ := k_mis hm hn
  have hN : g 12 0 * g 12 1 = Int32.ofNat N := by rw [hd.1.1, hd.1.2.1]; exact eN
  have hh : ∃ R, q_BS 37 [.ref 11] g u R ∧ ∃ v, R = (some (.int v), g, u) ∧ ((v = 0 ∧ (k_A r N ∧ k_B r N ∧ k_C r N)) ∨ (v = 1 ∧ ¬ (k_A r N ∧ k_B r N ∧ k_C r N))) := by
    refine q_bs (mm := m_37) rfl (Nat.le_of_ble_eq_true rfl) rfl ?_
    refine q_step 2 2 [(0, .ref 11), (1, .int (0 : Int32))] [] g u (fun big n0 => sg_tb_24 big n0 g u) ?_
    exact nw_1 g u hd hn hm hN h25 (t_n r) 0 (by omega) (fun q hq => absurd hq (by omega))
  obtain ⟨_, hq, v, rfl, hv⟩ := hh
  by_cases e : r 70 10 < r 70 6 * r 70 7 ∧ r 70 11 < r 70 8
  · rw [if_pos e]
    rcases hv with hv | hv
    · rw [hv.1] at hq
      exact hq
    · exact absurd (hiff.mp e) hv.2
  · rw [if_neg e]
    rcases hv with hv | hv
    · exact absurd (hiff.mpr hv.2) e
    · rw [hv.1] at hq
      exact hq
def s_clr (g : qM) : qM := (q_up (q_up (q_up (q_up (s_row_ 16 (fun _ => (Int8.toInt32 (Int8.ofInt (-4)))) 6 (q_up (q_up (q_up (q_up (q_up (q_up (q_up g 12 0 (3 : Int32)) 12 1 (3 : Int32)) 12 2 (0 : Int32)) 12 3 (0 : Int32)) 12 4 (0 : Int32)) 12 5 (0 : Int32)) 12 6 (0 : Int32))) 17 1 (4 : Int32)) 17 2 (3 : Int32)) 17 3 (2 : Int32)) 17 4 (1 : Int32))
theorem b_clear12 (g : qM) (u : qW) : q_BS 5 [.ref 12] g u (none, s_clr g, u) := by
  refine q_bx (mm := m_5) rfl (Nat.le_of_ble_eq_true rfl) rfl ?_
  refine q_step 24 41 [(0, .ref 12)] [.int (Int8.toInt32 (Int8.ofInt (-4))), .ref 16] (q_up (q_up (q_up (q_up (q_up (q_up (q_up g 12 0 (3 : Int32)) 12 1 (3 : Int32)) 12 2 (0 : Int32)) 12 3 (0 : Int32)) 12 4 (0 : Int32)) 12 5 (0 : Int32)) 12 6 (0 : Int32)) u (fun big n0 => sg_tb_25 big n0 g u) ?_
  refine q_call (M2 := 6) (rest := []) (b_fill16 _ _ _) (fun _ _ => rfl) ?_
  refine q_step 40 48 [(0, .ref 12), (1, .int (4 : Int32))] [.int (4 : Int32), .int (4 : Int32)] (q_up (q_up (q_up (s_row_ 16 (fun _ => (Int8.toInt32 (Int8.ofInt (-4)))) 6 (q_up (q_up (q_up (q_up (q_up (q_up (q_up g 12 0 (3 : Int32)) 12 1 (3 : Int32)) 12 2 (0 : Int32)) 12 3 (0 : Int32)) 12 4 (0 : Int32)) 12 5 (0 : Int32)) 12 6 (0 : Int32))) 17 1 (4 : Int32)) 17 2 (3 : Int32)) 17 3 (2 : Int32)) u (fun big n0 => sg_tb_26 big n0 (s_row_ 16 (fun _ => (Int8.toInt32 (Int8.ofInt (-4)))) 6 (q_up (q_up (q_up (q_up (q_up (q_up (q_up g 12 0 (3 : Int32)) 12 1 (3 : Int32)) 12 2 (0 : Int32)) 12 3 (0 : Int32)) 12 4 (0 : Int32)) 12 5 (0 : Int32)) 12 6 (0 : Int32))) u) ?_
  refine q_ret 14 (none, (q_up (q_up (q_up (q_up (s_row_ 16 (fun _ => (Int8.toInt32 (Int8.ofInt (-4)))) 6 (q_up (q_up (q_up (q_up (q_up (q_up (q_up g 12 0 (3 : Int32)) 12 1 (3 : Int32)) 12 2 (0 : Int32)) 12 3 (0 : Int32)) 12 4 (0 : Int32)) 12 5 (0 : Int32)) 12 6 (0 : Int32))) 17 1 (4 : Int32)) 17 2 (3 : Int32)) 17 3 (2 : Int32)) 17 4 (1 : Int32)), u) (fun _ _ => rfl) ?_
  rfl
theorem b_rew (g : qM) (u : qW) : q_BS 15 [.ref 9] g u (none, q_up g 9 5 0, u) := by
  refine q_bx (mm := m_15) rfl (Nat.le_of_ble_eq_true rfl) rfl ?_
  refine q_ret 4 (none, (q_up g 9 5 (0 : Int32)), u) (fun _ _ => rfl) ?_
  rfl
theorem s_clr_T (g : qM) : k_fT g (s_clr g) := by
  unfold s_clr
  repeat (first | exact k_fT_rfl g | refine k_fT.up ?_ (by omega) | refine k_fT.row ?_)
theorem k_dc0 {g m : qM} (h : ∀ a, 12 ≤ a → a ≤ 17 → m a = s_clr g a) (h5 : m 11 5 = 0) (h6 : m 11 6 = 0) (h7 : m 11 7 = 0) : k_dc t_r0 m := by
  unfold k_dc
  rw [h 12 (by omega) (by omega), h 13 (by omega) (by omega), h 14 (by omega) (by omega), h 15 (by omega) (by omega), h 16 (by omega) (by omega), h 17 (by omega) (by omega)]
  refine ⟨⟨rfl, rfl, rfl, rfl, rfl, rfl, rfl⟩, fun d h1 h2 => ?_, fun p hp => absurd hp (Nat.not_lt_zero _), fun p hp => ?_, h5.trans (by decide), h6.trans (by decide), h7.trans (by decide)⟩
  · rcases (show d = 1 ∨ d = 2 ∨ d = 3 ∨ d = 4 by omega) with e | e | e | e <;> (subst e; rfl)
  · rcases (show p = 0 ∨ p = 1 ∨ p = 2 ∨ p = 3 ∨ p = 4 by omega) with e | e | e | e | e <;> (subst e; rfl)
theorem tb_e {b : Nat → Int32} {s : Nat} {oo : tO × Nat} {g0 : qM} (g : qM) (u : qW) (ha : k_af oo g0 g) (h9 : g 9 1 = Int32.ofNat s) (hdm : oo.1.1 = 0 → k_dn oo.1.2.2.2 ∧ k_dm oo.1.2.2.2) : q_EV m_14 107 [(0, .ref 11)] [] g u (fun R => ∃ g', R = (none, g', u) ∧ k_af (o_end s oo.1, oo.2) g0 g') := by
  refine q_step 2 111 [(0, .ref 11)] [.int (g 11 2)] g u (fun big n0 => sg_tb_27 big n0 g u) ?_
  refine q_if_ne rfl (fun (hc0 : (g 11 2) = 0) => ?_) (fun (hc0 : ¬ ((g 11 2) = 0)) => ?_)
  · refine q_step 1 115 [(0, .ref 11)] [.ref 11] g u (fun big n0 => sg_tb_28 big n0 g u) ?_
    have e0 : oo.1.1 = 0 := Classical.byContradiction (fun z => z ((ha.2.2.1 z).1.symm.trans hc0))
    obtain ⟨z2, hd⟩ := ha.2.2.2 e0
    obtain ⟨hn, hm⟩ := hdm e0
    refine q_call (M2 := 37) (rest := []) (c_nwn g u hd hn hm) (fun _ _ => rfl) ?_
    refine q_if_eq rfl (fun (hc1 : (if oo.1.2.2.2 70 10 < oo.1.2.2.2 70 6 * oo.1.2.2.2 70 7 ∧ oo.1.2.2.2 70 11 < oo.1.2.2.2 70 8 then 0 else 1) = 0) => ?_) (fun (hc1 : ¬ ((if oo.1.2.2.2 70 10 < oo.1.2.2.2 70 6 * oo.1.2.2.2 70 7 ∧ oo.1.2.2.2 70 11 < oo.1.2.2.2 70 8 then 0 else 1) = 0)) => ?_)
    · refine q_ret 1 (none, g, u) (fun _ _ => rfl) ?_
      have ec : oo.1.2.2.2 70 10 < oo.1.2.2.2 70 6 * oo.1.2.2.2 70 7 ∧ oo.1.2.2.2 70 11 < oo.1.2.2.2 70 8 := Classical.byContradiction (fun z => absurd hc1 (by rw [if_neg z]; decide))
      have eo : o_end s oo.1 = oo.1 := by unfold o_end; rw [if_pos e0, if_pos ec]
      rw [eo]
      exact ⟨_, rfl, ha⟩
    · refine q_step 5 131 [(0, .ref 11)] [.int (g 9 1), .int (6 : Int32), .ref 11] g u (fun big n0 => sg_tb_29 big n0 g u) ?_
      refine q_call (M2 := 20) (rest := []) (b_refuse _ _ _ _) (fun _ _ => rfl) ?_
      refine q_ret 1 (none, (q_up (q_up g 11 2 (6 : Int32)) 11 3 (g 9 1)), u) (fun _ _ => rfl) ?_
      have ec : ¬ (oo.1.2.2.2 70 10 < oo.1.2.2.2 70 6 * oo.1.2.2.2 70 7 ∧ oo.1.2.2.2 70 11 < oo.1.2.2.2 70 8) := fun z => hc1 (if_pos z)
      have eo : o_end s oo.1 = o_bad 6 s oo.1.2.2.2 := by unfold o_end; rw [if_pos e0, if_neg ec]
      rw [eo]
      exact ⟨_, rfl, (ha.1.up (by omega)).up (by omega), ha.2.1, fun _ => ⟨rfl, h9⟩, fun z => absurd z (by decide : ¬ (6 : Int32) = 0)⟩
  · refine q_ret 1 (none, g, u) (fun _ _ => rfl) ?_
    have e0 : ¬ oo.1.1 = 0 := fun z => hc0 (ha.2.2.2 z).1
    have eo : o_end s oo.1 = oo.1 := by unfold o_end; rw [if_neg e0]
    rw [eo]
    exact ⟨_, rfl, ha⟩
theorem c_take {b : Nat → Int32} {s : Nat} (g : qM) (u : qW) (hb : g 10 = b) (hs : g 9 1 = Int32.ofNat s) (h160 : s ≤ 160) : ∃ R, q_BS 14 [.ref 11] g u R ∧ ∃ g', R = (none, g', u) ∧ k_af (o_text b s) g g' := by
  refine q_bs (mm := m_14) rfl (Nat.le_of_ble_eq_true rfl) rfl ?_
  refine q_step 2 4 [(0, .ref 11)] [.ref 12] g u (fun big n0 => sg_tb_30 big n0 g u) ?_
  refine q_call (M2 := 5) (rest := []) (b_clear12 _ _) (fun _ _ => rfl) ?_
  refine q_step 20 41 [(0, .ref 11)] [.ref 9] (q_up (q_up (q_up (q_up (q_up (q_up (s_clr g) 11 1 (0 : Int32)) 11 2 (0 : Int32)) 11 3 (0 : Int32)) 11 5 (0 : Int32)) 11 6 (0 : Int32)) 11 7 (0 : Int32)) u (fun big n0 => sg_tb_31 big n0 (s_clr g) u) ?_
  refine q_call (M2 := 15) (rest := []) (b_rew _ _) (fun _ _ => rfl) ?_
  refine q_step 2 48 [(0, .ref 11)] [.ref 9] (q_up (q_up (q_up (q_up (q_up (q_up (q_up (s_clr g) 11 1 (0 : Int32)) 11 2 (0 : Int32)) 11 3 (0 : Int32)) 11 5 (0 : Int32)) 11 6 (0 : Int32)) 11 7 (0 : Int32)) 9 5 0) u (fun big n0 => sg_tb_32 big n0 (q_up (q_up (q_up (q_up (q_up (q_up (q_up (s_clr g) 11 1 (0 : Int32)) 11 2 (0 : Int32)) 11 3 (0 : Int32)) 11 5 (0 : Int32)) 11 6 (0 : Int32)) 11 7 (0 : Int32)) 9 5 0) u) ?_
  have hT : k_fT g (q_up (q_up (q_up (q_up (q_up (q_up (q_up (s_clr g) 11 1 (0 : Int32)) 11 2 (0 : Int32)) 11 3 (0 : Int32)) 11 5 (0 : Int32)) 11 6 (0 : Int32)) 11 7 (0 : Int32)) 9 5 0) := ((((((((s_clr_T g).up (by omega)).up (by omega)).up (by omega)).up (by omega)).up (by omega)).up (by omega)).up (by omega))
  obtain ⟨g3, q3, f3, e3, x2, x3, x5⟩ := c_nxk (b := b) (p := 0) (q_up (q_up (q_up (q_up (q_up (q_up (q_up (s_clr g) 11 1 (0 : Int32)) 11 2 (0 : Int32)) 11 3 (0 : Int32)) 11 5 (0 : Int32)) 11 6 (0 : Int32)) 11 7 (0 : Int32)) 9 5 0) u ((hT.1 10 (by omega)).trans hb) (hT.2.trans hs) h160 rfl (Nat.zero_le s)
  refine q_call (M2 := 16) (rest := []) (q3) (fun _ _ => rfl) ?_
  have h3T := hT.trans f3.ft.T
  refine tb_l u (b := b) (s := s) (s + 1) 0 0 t_r0 g3 g h3T ⟨⟨(h3T.1 10 (by omega)).trans hb, h3T.2.trans hs, h160, Nat.zero_le s, Nat.le_refl 0⟩, ⟨x2, x3, x5, by rw [e3]; rfl, by rw [e3]; rfl⟩, k_dc0 (g := g) (fun a h1 h2 => ?_) (by rw [e3]; rfl) (by rw [e3]; rfl) (by rw [e3]; rfl), k_dn0⟩ (by omega) (fun g' hg => ?_)
  · rw [f3.1 a (by omega) (by omega)]
    repeat rw [q_up_ne (by omega)]
  · exact tb_e (b := b) g' u hg (hg.1.2.trans hs) (fun z => k_tp (s + 1) 0 0 t_r0 k_dn0 k_dm0 (Nat.zero_le s) z)
/-- the class's town T is the draft r, at its start -/
def k_dT (T : Nat) (r g : qM) : Prop := (g T 0 = r 70 6 ∧ g T 1 = r 70 7 ∧ g T 2 = r 73 20 ∧ g T 3 = r 70 8 ∧ g T 4 = r 73 25 ∧ g T 5 = 0 ∧ g T 6 = 0) ∧ (∀ d, 1 ≤ d → d ≤ 4 → g (T + 5) d = r 73 (20 + d)) ∧ (∀ p, p < t_n r → g (T + 1) p = r 73 p ∧ g (T + 2) p = r 73 (5 + p) ∧ g (T + 3) p = r 73 (10 + p)) ∧ (∀ p, p < 5 → g (T + 4) p = r 73 (15 + p))
theorem k_dT.cpy {r g : qM} (h : k_dT 12 r g) (h5 : t_n r ≤ 5) : k_dT 20 r (s_cpy 20 12 g) := by
  have f : ∀ j, j < 7 → s_cpy 20 12 g 20 j = g 12 j := fun j hj => s_cpy_f hj
  refine ⟨⟨(f 0 (by omega)).trans h.1.1, (f 1 (by omega)).trans h.1.2.1, (f 2 (by omega)).trans h.1.2.2.1, (f 3 (by omega)).trans h.1.2.2.2.1, (f 4 (by omega)).trans h.1.2.2.2.2.1, (f 5 (by omega)).trans h.1.2.2.2.2.2.1, (f 6 (by omega)).trans h.1.2.2.2.2.2.2⟩, fun d h1 h2 => ?_, fun p hp => ⟨?_, ?_, ?_⟩, fun p hp => ?_⟩
  · exact (s_cpy_5 (by omega) (by omega)).trans (h.2.1 d h1 h2)
  · exact (s_cpy_1 (by omega) (by omega)).trans (h.2.2.1 p hp).1
  · exact (s_cpy_2 (by omega) (by omega)).trans (h.2.2.1 p hp).2.1
  · exact (s_cpy_3 (by omega) (by omega)).trans (h.2.2.1 p hp).2.2
  · exact (s_cpy_4 (by omega) (by omega)).trans (h.2.2.2 p hp)
theorem k_dc.T {r g : qM} (h : k_dc r g) : k_dT 12 r g := ⟨h.1, h.2.1, h.2.2.1, h.2.2.2.1⟩
/-- what text() answers -/
def t_ans (oo : tO × Nat) : Int32 := if oo.1.1 = 0 then Int32.ofNat oo.2 else Int32.ofInt (-10) - Int32.ofNat oo.1.2.1
theorem o_text_dm {b : Nat → Int32} {s : Nat} (h : (o_text b s).1.1 = 0) : (o_text b s).1 = (o_tape b s (s + 1) 0 0 t_r0).1 ∧ (o_tape b s (s + 1) 0 0 t_r0).1.1 = 0 ∧ ((o_text b s).1.2.2.2 70 10 < (o_text b s).1.2.2.2 70 6 * (o_text b s).1.2.2.2 70 7 ∧ (o_text b s).1.2.2.2 70 11 < (o_text b s).1.2.2.2 70 8) := by
  unfold o_text o_end at h ⊢
  dsimp only at h ⊢
  by_cases e : (o_tape b s (s + 1) 0 0 t_r0).1.1 = 0
  · rw [if_pos e] at h ⊢
    by_cases e2 : (o_tape b s (s + 1) 0 0 t_r0).1.2.2.2 70 10 < (o_tape b s (s + 1) 0 0 t_r0).1.2.2.2 70 6 * (o_tape b s (s + 1) 0 0 t_r0).1.2.2.2 70 7 ∧ (o_tape b s (s + 1) 0 0 t_r0).1.2.2.2 70 11 < (o_tape b s (s + 1) 0 0 t_r0).1.2.2.2 70 8
    · rw [if_pos e2]
      exact ⟨rfl, e, e2⟩
    · rw [if_neg e2] at h
      exact absurd h (by decide : ¬ (6 : Int32) = 0)
  · rw [if_neg e] at h
    exact absurd h e
theorem o_text_ok {b : Nat → Int32} {s : Nat} (h : (o_text b s).1.1 = 0) : k_dn (o_text b s).1.2.2.2 ∧ k_dm (o_text b s).1.2.2.2 := by
  have z := o_text_dm h
  rw [z.1]
  exact k_tp (s + 1) 0 0 t_r0 k_dn0 k_dm0 (Nat.zero_le s) z.2.1
theorem c_text {b : Nat → Int32} {s : Nat} (g : qM) (u : qW) (hb : g 10 = b) (hs : g 9 1 = Int32.ofNat s) (h160 : s ≤ 160) : ∃ g', q_BS 13 [.ref 8] g u (some (.int (t_ans (o_text b s))), g', u) ∧ (∀ a, a < 8 ∨ a = 10 ∨ 27 < a → g' a = g a) ∧ (∀ j, j ≠ 7 → g' 8 j = g 8 j) ∧ g' 9 1 = 0 ∧ g' 11 2 = (o_text b s).1.1 ∧ (¬ (o_text b s).1.1 = 0 → ∀ a, a = 8 ∨ 18 ≤ a → g' a = g a) ∧ ((o_text b s).1.1 = 0 → g' 8 7 = 0 ∧ k_dT 20 (o_text b s).1.2.2.2 g') := by
  obtain ⟨_, hq, g1, rfl, ha⟩ := c_take g u hb hs h160
  by_cases e0 : (o_text b s).1.1 = 0
  · obtain ⟨z2, hd⟩ := ha.2.2.2 e0
    have hdn := (o_text_ok e0).1
    refine ⟨q_up (s_cpy 20 12 (q_up g1 9 1 0)) 8 7 0, ?_, fun a h => ?_, fun j hj => ?_, ?_, ?_, fun z => absurd e0 z, fun _ => ⟨rfl, ?_⟩⟩
    · refine q_bx (mm := m_13) rfl (Nat.le_of_ble_eq_true rfl) rfl ?_
      refine q_step 2 4 [(0, .ref 8)] [.ref 11] g u (fun big n0 => sg_tb_33 big n0 g u) ?_
      refine q_call (M2 := 14) (rest := []) (hq) (fun _ _ => rfl) ?_
      refine q_step 7 22 [(0, .ref 8)] [.int (g1 11 2)] (q_up g1 9 1 (0 : Int32)) u (fun big n0 => sg_tb_34 big n0 g1 u) ?_
      refine q_if_eq rfl (fun (hc0 : (g1 11 2) = 0) => ?_) (fun hc0 => absurd (show (g1 11 2) = 0 from z2) hc0)
      refine q_step 5 47 [(0, .ref 8)] [.ref 12, .ref 20] (q_up g1 9 1 (0 : Int32)) u (fun big n0 => sg_tb_35 big n0 (q_up g1 9 1 (0 : Int32)) u) ?_
      refine q_call (M2 := 41) (rest := []) (b_cpy20_12 _ _) (fun _ _ => rfl) ?_
      refine q_ret 7 (some (.int ((s_cpy 20 12 (q_up g1 9 1 (0 : Int32))) 11 1)), (q_up (s_cpy 20 12 (q_up g1 9 1 (0 : Int32))) 8 7 (0 : Int32)), u) (fun _ _ => rfl) ?_
      have ea : t_ans (o_text b s) = g1 11 1 := by unfold t_ans; rw [if_pos e0]; exact ha.2.1.symm
      rw [ea]
      rfl
    · rw [q_up_ne (by omega), s_cpy_o (by omega), q_up_ne (by omega)]
      exact ha.1.1 a (by omega)
    · rw [q_up_at, if_neg hj, s_cpy_o (by omega), q_up_ne (by omega), ha.1.1 8 (by omega)]
    · rw [q_up_ne (by decide), s_cpy_o (by omega)]
      rfl
    · rw [q_up_ne (by decide), s_cpy_o (by omega), q_up_ne (by decide), z2, e0]
    · have zz := (show k_dT 12 (o_text b s).1.2.2.2 (q_up g1 9 1 0) from hd.T).cpy hdn.2.1
      exact zz
  · obtain ⟨z2, z3⟩ := ha.2.2.1 e0
    refine ⟨q_up g1 9 1 0, ?_, fun a h => ?_, fun j hj => ?_, rfl, ?_, fun _ a h => ?_, fun z => absurd z e0⟩
    · refine q_bx (mm := m_13) rfl (Nat.le_of_ble_eq_true rfl) rfl ?_
      refine q_step 2 4 [(0, .ref 8)] [.ref 11] g u (fun big n0 => sg_tb_33 big n0 g u) ?_
      refine q_call (M2 := 14) (rest := []) (hq) (fun _ _ => rfl) ?_
      refine q_step 7 22 [(0, .ref 8)] [.int (g1 11 2)] (q_up g1 9 1 (0 : Int32)) u (fun big n0 => sg_tb_34 big n0 g1 u) ?_
      refine q_if_eq rfl (fun hc0 => absurd (show (g1 11 2) = 0 from hc0) (fun z => e0 (z2.symm.trans z))) (fun (hc0 : ¬ ((g1 11 2) = 0)) => ?_)
      refine q_ret 6 (some (.int ((Int8.toInt32 (Int8.ofInt (-10))) - (g1 11 3))), (q_up g1 9 1 (0 : Int32)), u) (fun _ _ => rfl) ?_
      have ea : t_ans (o_text b s) = (Int32.ofInt (-10)) - g1 11 3 := by unfold t_ans; rw [if_neg e0, z3]
      rw [ea]
      rfl
    · by_cases e9 : a = 9
      · omega
      · rw [q_up_ne e9]
        rcases (show a < 9 ∨ a = 10 ∨ 17 < a by omega) with y | y | y
        · exact ha.1.1 a (by omega)
        · exact ha.1.1 a (by omega)
        · exact ha.1.1 a (by omega)
    · rw [q_up_ne (by decide), ha.1.1 8 (by omega)]
    · rw [q_up_ne (by decide)]
      exact z2
    · rw [q_up_ne (by omega)]
      exact ha.1.1 a (by omega)
end
section
/-! THE LINES, the reference. -/
/-- the draft is kept in h as r tells -/
def k_dh (r h : qM) : Prop := (∀ j, j < 44 → h 73 j = r 73 j) ∧ ∀ j, 6 ≤ j → j ≤ 11 → h 70 j = r 70 j
theorem k_dh.up {r h : qM} (hd : k_dh r h) {a j : Nat} {x : Int32} : k_dh (q_up r a j x) (q_up h a j x) := by
  refine ⟨fun i hi => ?_, fun i h1 h2 => ?_⟩
  · rw [q_up_eq, q_up_eq, hd.1 i hi]
  · rw [q_up_eq, q_up_eq, hd.2 i h1 h2]
theorem k_dh.f70 {r h h' : qM} (hd : k_dh r h) (hf : k_f70 h h') : k_dh r h' := ⟨fun j hj => by rw [hf.1 73 (by decide)]; exact hd.1 j hj, fun j h1 h2 => (hf.2 j (by omega)).trans (hd.2 j h1 h2)⟩
/-- what the reference's text writes -/
def k_fR (h h' : qM) : Prop := (∀ a, a ≠ 70 → a ≠ 73 → h' a = h a) ∧ ∀ j, j < 6 ∨ (12 ≤ j ∧ j < 14) ∨ 19 < j → h' 70 j = h 70 j
theorem k_fR_rfl (h : qM) : k_fR h h := ⟨fun _ _ _ => rfl, fun _ _ => rfl⟩
theorem k_fR.trans {a b c : qM} (h1 : k_fR a b) (h2 : k_fR b c) : k_fR a c := ⟨fun x h h' => (h2.1 x h h').trans (h1.1 x h h'), fun x h => (h2.2 x h).trans (h1.2 x h)⟩
theorem k_f70.R {h h' : qM} (hf : k_f70 h h') : k_fR h h' := ⟨fun a h1 _ => hf.1 a h1, fun j hj => hf.2 j (by omega)⟩
theorem k_fR.up {g g' : qM} (h : k_fR g g') {a j : Nat} {x : Int32} (ha : a = 73 ∨ (a = 70 ∧ ((6 ≤ j ∧ j ≤ 11) ∨ (14 ≤ j ∧ j ≤ 19)))) : k_fR g (q_up g' a j x) := by
  refine ⟨fun b h1 h2 => ?_, fun i hi => ?_⟩
  · rw [q_up_ne (by omega)]
    exact h.1 b h1 h2
  · rw [q_up_eq, if_neg (by omega)]
    exact h.2 i hi
theorem k_b.R {b : Nat → Int32} {s : Nat} {h h' : qM} (hb : k_b b s h) (hf : k_fR h h') : k_b b s h' := ⟨(hf.2 13 (by omega)).trans hb.1, hb.2.1, fun j hj => by rw [hf.1 74 (by decide) (by decide)]; exact hb.2.2 j hj⟩
theorem k_la.up {b : Nat → Int32} {s p : Nat} {h : qM} (hl : k_la b s p h) {a j : Nat} {x : Int32} (ha : ¬ (a = 70 ∧ 14 ≤ j ∧ j ≤ 19)) : k_la b s p (q_up h a j x) := by
  have e : ∀ i, 14 ≤ i → i ≤ 19 → q_up h a j x 70 i = h 70 i := fun i h1 h2 => by rw [q_up_eq, if_neg (by omega)]
  unfold k_la
  rw [e 18 (by omega) (by omega), e 19 (by omega) (by omega), e 14 (by omega) (by omega), e 15 (by omega) (by omega), e 16 (by omega) (by omega), e 17 (by omega) (by omega)]
  exact hl
/-- before a token is read: it is looked at, and the draft is r -/
def k_rs (b : Nat → Int32) (s p : Nat) (r g : qM) : Prop := k_b b s g ∧ p ≤ s ∧ k_la b s p g ∧ k_dh r g
theorem k_rs.up {b : Nat → Int32} {s p : Nat} {r g : qM} (h : k_rs b s p r g) {a j : Nat} {x : Int32} (ha : a = 73 ∨ (a = 70 ∧ 6 ≤ j ∧ j ≤ 11)) : k_rs b s p (q_up r a j x) (q_up g a j x) := ⟨h.1.R ((k_fR_rfl g).up (by omega)), h.2.1, h.2.2.1.up (by omega), h.2.2.2.up⟩
theorem r_numk {b : Nat → Int32} {s p : Nat} {r g : qM} (u : qW) (h : k_rs b s p r g) {lo hi : Int32} (he : t_er b s p lo hi = 0) : ∃ g', q_BS 160 [.ref 70, .int lo, .int hi] g u (some (.int (t_va b s p)), g', u) ∧ k_f70 g g' ∧ k_rs b s (t_pl b s p) r g' := by
  obtain ⟨_, hq, g1, rfl, hf, h0, _⟩ := r_num g u h.1 h.2.1 h.2.2.1 lo hi
  rw [he, if_pos rfl] at hq
  exact ⟨g1, hq, hf, h.1.fr hf, (t_pl_b h.2.1).2.1, h0 he, h.2.2.2.f70 hf⟩
theorem r_nume {b : Nat → Int32} {s p : Nat} {r g : qM} (u : qW) (h : k_rs b s p r g) {lo hi : Int32} (he : ¬ t_er b s p lo hi = 0) : ∃ g', q_BS 160 [.ref 70, .int lo, .int hi] g u (some (.int 0), g', u) ∧ k_f70 g g' ∧ g' 70 18 = t_er b s p lo hi ∧ g' 70 19 = Int32.ofNat (t_fi b s p) := by
  obtain ⟨_, hq, g1, rfl, hf, _, h0⟩ := r_num g u h.1 h.2.1 h.2.2.1 lo hi
  rw [if_neg he] at hq
  exact ⟨g1, hq, hf, (h0 he).1, (h0 he).2⟩
/-- looked, then next -/
theorem r_lookk {b : Nat → Int32} {s p : Nat} {r g : qM} (u : qW) (h : k_rs b s p r g) {lo hi : Int32} (he : t_er b s p lo hi = 0) : q_BS 161 [.ref 70, .int lo, .int hi] g u (some (.int (t_va b s p)), g, u) ∧ g 70 18 = 0 ∧ g 70 14 = Int32.ofNat (t_pl b s p) ∧ g 70 15 = Int32.ofNat (t_fi b s p) := by
  obtain ⟨_, hq, g1, rfl, hf, h0, _⟩ := r_looked g u h.1 h.2.1 h.2.2.1 lo hi
  have e1 := h0 he
  subst e1
  rw [he, if_pos rfl] at hq
  refine ⟨hq, ?_⟩
  rcases h.2.2.1 with z | z
  · exfalso
    unfold t_er at he
    rw [if_neg (by rw [z.1]; decide), if_pos z.1] at he
    exact absurd he (by decide)
  · exact ⟨z.2.1, z.2.2.1, z.2.2.2.1⟩
theorem r_looke {b : Nat → Int32} {s p : Nat} {r g : qM} (u : qW) (h : k_rs b s p r g) {lo hi : Int32} (he : ¬ t_er b s p lo hi = 0) : ∃ g', q_BS 161 [.ref 70, .int lo, .int hi] g u (some (.int 0), g', u) ∧ k_f70 g g' ∧ g' 70 18 = t_er b s p lo hi ∧ g' 70 19 = Int32.ofNat (t_fi b s p) := by
  obtain ⟨_, hq, g1, rfl, hf, _, h0⟩ := r_looked g u h.1 h.2.1 h.2.2.1 lo hi
  rw [if_neg he] at hq
  exact ⟨g1, hq, hf, (h0 he).1, (h0 he).2⟩
/-- after a line, the reference's side -/
def k_rc (b : Nat → Int32) (s : Nat) (o : tO) (g g' : qM) : Prop := k_fR g g' ∧ (¬ o.1 = 0 → 0 < o.1 ∧ g' 70 18 = o.1 ∧ g' 70 19 = Int32.ofNat o.2.1) ∧ (o.1 = 0 → o.2.2.1 ≤ s ∧ k_la b s o.2.2.1 g' ∧ (g' 70 18 = 0 → k_dh o.2.2.2 g'))
theorem k_rc_bad {b : Nat → Int32} {s a : Nat} {e : Int32} {r g g' : qM} (h : k_fR g g') (he : 0 < e) (h2 : g' 70 18 = e) (h3 : g' 70 19 = Int32.ofNat a) : k_rc b s (o_bad e a r) g g' := ⟨h, fun _ => ⟨he, h2, h3⟩, fun z => absurd (show e = 0 from z) (fun y => by rw [y] at he; exact absurd he (by decide))⟩
theorem k_rc_ok {b : Nat → Int32} {s p : Nat} {r g g' : qM} (h : k_fR g g') (hr : k_rs b s p r g') : k_rc b s (o_ok p r) g g' := ⟨h, fun z => absurd rfl z, fun _ => ⟨hr.2.1, hr.2.2.1, fun _ => hr.2.2.2⟩⟩
theorem k_rc_okx {b : Nat → Int32} {s p : Nat} {r g g' : qM} (h : k_fR g g') (hp : p ≤ s) (hl : k_la b s p g') (hf : ¬ g' 70 18 = 0) : k_rc b s (o_ok p r) g g' := ⟨h, fun z => absurd rfl z, fun _ => ⟨hp, hl, fun z => absurd z hf⟩⟩
/-! the lines' insides -/
def i_town (b : Nat → Int32) (s p : Nat) (rb r : qM) : tO := o_num b s p 2 5 rb (fun v p1 => o_num b s p1 2 5 rb (fun w p2 => o_ok p2 (q_up (q_up r 70 6 v) 70 7 w)))
def i_press (b : Nat → Int32) (s p : Nat) (rb r : qM) : tO := o_num b s p 0 4 rb (fun v p1 => o_ok p1 (q_up r 73 25 v))
def i_pull (b : Nat → Int32) (s p : Nat) (rb r : qM) : tO := o_num b s p 0 9 rb (fun v1 p1 => o_num b s p1 0 9 rb (fun v2 p2 => o_num b s p2 0 9 rb (fun v3 p3 => o_num b s p3 0 9 rb (fun v4 p4 => o_ok p4 (q_up (q_up (q_up (q_up r 73 21 v1) 73 22 v2) 73 23 v3) 73 24 v4)))))
def i_one (b : Nat → Int32) (s p : Nat) (r : qM) (st : Int32) : tO := o_free b s p r (fun c p1 r1 => o_num b s p1 0 3 r1 (fun m p2 => o_ok p2 (q_up (q_up (q_up (q_up r1 73 (t_n r) c) 73 (5 + t_n r) m) 73 (10 + t_n r) st) 70 8 (r1 70 8 + 1))))
theorem t_er0 {b : Nat → Int32} {s p : Nat} {lo hi : Int32} (h : t_ki b s p = 0) : t_er b s p lo hi = 1 := by
  unfold t_er
  rw [if_neg (by rw [h]; decide), if_pos h]
theorem o_num0 {b : Nat → Int32} {s p : Nat} {lo hi : Int32} {r : qM} {k : Int32 → Nat → tO} (h : t_ki b s p = 0) : o_num b s p lo hi r k = o_bad 1 (t_fi b s p) r := by
  unfold o_num
  rw [t_er0 h, if_neg (by decide)]
theorem t_frF {f : Nat → Int32} {w c : Int32} {i : Nat} : (if s_bit w c = 0 then (if t_hit f c (i + 1) = 0 then (1 : Int32) else 0) else 0) = if (if s_bit w c = 0 then (if t_hit f c i = 0 then (1 : Int32) else 0) else 0) = 0 then 0 else if f i = c then 0 else 1 := by
  rw [t_hit]
  by_cases a : s_bit w c = 0
  · rw [if_pos a, if_pos a]
    by_cases d : t_hit f c i = 0
    · rw [if_pos d, if_neg (by decide : ¬ (1 : Int32) = 0)]
      by_cases e : f i = c
      · rw [if_pos e, if_pos e, if_neg (by decide)]
      · rw [if_neg e, if_neg e, if_pos d]
    · rw [if_neg d, if_pos rfl]
      by_cases e : f i = c
      · rw [if_pos e, if_neg (by decide)]
      · rw [if_neg e, if_neg d]
  · rw [if_neg a, if_neg a, if_pos rfl]
theorem sg_rl_1 (big : Nat → List Value → qM → qW → qR) (n0 : Nat) (G : qM) (U : qW) : qm_run pm_m big m_159 (n0 + 6) 0 [(0, .ref 70), (1, .int (0 : Int32))] [] G U = qm_run pm_m big m_159 n0 48 [(0, .ref 70), (1, .int (0 : Int32))] [.int (5 : Int32), .int (2 : Int32), .ref 70, .ref 70] G U := rfl
theorem sg_rl_2 (big : Nat → List Value → qM → qW → qR) (n0 : Nat) (G : qM) (U : qW) (v0 : Int32) : qm_run pm_m big m_159 (n0 + 5) 51 [(0, .ref 70), (1, .int (0 : Int32))] [.int v0, .ref 70] G U = qm_run pm_m big m_159 n0 58 [(0, .ref 70), (1, .int (0 : Int32))] [.int (5 : Int32), .int (2 : Int32), .ref 70, .ref 70] (q_up G 70 6 v0) U := rfl
theorem sg_rl_3 (big : Nat → List Value → qM → qW → qR) (n0 : Nat) (G : qM) (U : qW) : qm_run pm_m big m_159 (n0 + 5) 51 [(0, .ref 70), (1, .int (0 : Int32))] [.int (0 : Int32), .ref 70] G U = qm_run pm_m big m_159 n0 58 [(0, .ref 70), (1, .int (0 : Int32))] [.int (5 : Int32), .int (2 : Int32), .ref 70, .ref 70] (q_up G 70 6 (0 : Int32)) U := rfl
theorem sg_rl_4 (big : Nat → List Value → qM → qW → qR) (n0 : Nat) (G : qM) (U : qW) : qm_run pm_m big m_159 (n0 + 15) 0 [(0, .ref 70), (1, .int (1 : Int32))] [] G U = qm_run pm_m big m_159 n0 86 [(0, .ref 70), (1, .int (1 : Int32)), (2, .int (0 : Int32))] [.int (9 : Int32), .int (0 : Int32), .ref 70, .int (21 : Int32), .ref 73] G U := rfl
theorem sg_rl_5 (big : Nat → List Value → qM → qW → qR) (n0 : Nat) (G : qM) (U : qW) (v0 : Int32) : qm_run pm_m big m_159 (n0 + 14) 89 [(0, .ref 70), (1, .int (1 : Int32)), (2, .int (0 : Int32))] [.int v0, .int (21 : Int32), .ref 73] G U = qm_run pm_m big m_159 n0 86 [(0, .ref 70), (1, .int (1 : Int32)), (2, .int (1 : Int32))] [.int (9 : Int32), .int (0 : Int32), .ref 70, .int (22 : Int32), .ref 73] (q_up G 73 21 v0) U := rfl
theorem sg_rl_6 (big : Nat → List Value → qM → qW → qR) (n0 : Nat) (G : qM) (U : qW) (v0 : Int32) : qm_run pm_m big m_159 (n0 + 14) 89 [(0, .ref 70), (1, .int (1 : Int32)), (2, .int (1 : Int32))] [.int v0, .int (22 : Int32), .ref 73] G U = qm_run pm_m big m_159 n0 86 [(0, .ref 70), (1, .int (1 : Int32)), (2, .int (2 : Int32))] [.int (9 : Int32), .int (0 : Int32), .ref 70, .int (23 : Int32), .ref 73] (q_up G 73 22 v0) U := rfl
theorem sg_rl_7 (big : Nat → List Value → qM → qW → qR) (n0 : Nat) (G : qM) (U : qW) (v0 : Int32) : qm_run pm_m big m_159 (n0 + 14) 89 [(0, .ref 70), (1, .int (1 : Int32)), (2, .int (2 : Int32))] [.int v0, .int (23 : Int32), .ref 73] G U = qm_run pm_m big m_159 n0 86 [(0, .ref 70), (1, .int (1 : Int32)), (2, .int (3 : Int32))] [.int (9 : Int32), .int (0 : Int32), .ref 70, .int (24 : Int32), .ref 73] (q_up G 73 23 v0) U := rfl
theorem sg_rl_8 (big : Nat → List Value → qM → qW → qR) (n0 : Nat) (G : qM) (U : qW) : qm_run pm_m big m_159 (n0 + 14) 89 [(0, .ref 70), (1, .int (1 : Int32)), (2, .int (2 : Int32))] [.int (0 : Int32), .int (23 : Int32), .ref 73] G U = qm_run pm_m big m_159 n0 86 [(0, .ref 70), (1, .int (1 : Int32)), (2, .int (3 : Int32))] [.int (9 : Int32), .int (0 : Int32), .ref 70, .int (24 : Int32), .ref 73] (q_up G 73 23 (0 : Int32)) U := rfl
theorem sg_rl_9 (big : Nat → List Value → qM → qW → qR) (n0 : Nat) (G : qM) (U : qW) : qm_run pm_m big m_159 (n0 + 14) 89 [(0, .ref 70), (1, .int (1 : Int32)), (2, .int (1 : Int32))] [.int (0 : Int32), .int (22 : Int32), .ref 73] G U = qm_run pm_m big m_159 n0 86 [(0, .ref 70), (1, .int (1 : Int32)), (2, .int (2 : Int32))] [.int (9 : Int32), .int (0 : Int32), .ref 70, .int (23 : Int32), .ref 73] (q_up G 73 22 (0 : Int32)) U := rfl
theorem sg_rl_10 (big : Nat → List Value → qM → qW → qR) (n0 : Nat) (G : qM) (U : qW) : qm_run pm_m big m_159 (n0 + 14) 89 [(0, .ref 70), (1, .int (1 : Int32)), (2, .int (0 : Int32))] [.int (0 : Int32), .int (21 : Int32), .ref 73] G U = qm_run pm_m big m_159 n0 86 [(0, .ref 70), (1, .int (1 : Int32)), (2, .int (1 : Int32))] [.int (9 : Int32), .int (0 : Int32), .ref 70, .int (22 : Int32), .ref 73] (q_up G 73 21 (0 : Int32)) U := rfl
theorem sg_rl_11 (big : Nat → List Value → qM → qW → qR) (n0 : Nat) (G : qM) (U : qW) : qm_run pm_m big m_159 (n0 + 8) 0 [(0, .ref 70), (1, .int (2 : Int32))] [] G U = qm_run pm_m big m_159 n0 108 [(0, .ref 70), (1, .int (2 : Int32))] [.int (4 : Int32), .int (0 : Int32), .ref 70, .int (25 : Int32), .ref 73] G U := rfl
theorem sg_rl_12 (big : Nat → List Value → qM → qW → qR) (n0 : Nat) (G : qM) (U : qW) (v0 : Int32) (v1 : Int32) (v2 : Int32) : qm_run pm_m big m_162 (n0 + 3) 37 [(0, .ref 70), (1, .int v0), (2, .int v1), (3, .int v2)] [] G U = qm_run pm_m big m_162 n0 42 [(0, .ref 70), (1, .int v0), (2, .int v1), (3, .int v2)] [.int (G 70 8), .int v2] G U := rfl
theorem sg_rl_13 (big : Nat → List Value → qM → qW → qR) (n0 : Nat) (G : qM) (U : qW) (v0 : Int32) (v1 : Int32) (v2 : Int32) : qm_run pm_m big m_162 (n0 + 1) 45 [(0, .ref 70), (1, .int v0), (2, .int v1), (3, .int v2)] [] G U = qm_run pm_m big m_162 n0 46 [(0, .ref 70), (1, .int v0), (2, .int v1), (3, .int v2)] [.int v1] G U := rfl
theorem sg_rl_14 (big : Nat → List Value → qM → qW → qR) (n0 : Nat) (G : qM) (U : qW) (v0 : Int32) (v1 : Int32) (v2 : Int32) : qm_run pm_m big m_162 (n0 + 4) 65 [(0, .ref 70), (1, .int v0), (2, .int v1), (3, .int v2)] [] G U = qm_run pm_m big m_162 n0 37 [(0, .ref 70), (1, .int v0), (2, .int (0 : Int32)), (3, .int (v2 + (1 : Int32)))] [] G U := rfl
theorem sg_rl_15 (big : Nat → List Value → qM → qW → qR) (n0 : Nat) (G : qM) (U : qW) (v0 : Int32) (v1 : Int32) (v2 : Int32) : qm_run pm_m big m_162 (n0 + 5) 49 [(0, .ref 70), (1, .int v0), (2, .int v1), (3, .int v2)] [] G U = qm_run pm_m big m_162 n0 56 [(0, .ref 70), (1, .int v0), (2, .int v1), (3, .int v2)] [.int ((0 : Int32) + v2), .ref 73] G U := rfl
theorem sg_rl_16 (big : Nat → List Value → qM → qW → qR) (n0 : Nat) (G : qM) (U : qW) (v0 : Int32) (v1 : Int32) (v2 : Int32) (v3 : Int32) : qm_run pm_m big m_162 (n0 + 1) 57 [(0, .ref 70), (1, .int v0), (2, .int v1), (3, .int v2)] [.int v3] G U = qm_run pm_m big m_162 n0 58 [(0, .ref 70), (1, .int v0), (2, .int v1), (3, .int v2)] [.int v0, .int v3] G U := rfl
theorem sg_rl_17 (big : Nat → List Value → qM → qW → qR) (n0 : Nat) (G : qM) (U : qW) (v0 : Int32) (v1 : Int32) (v2 : Int32) : qm_run pm_m big m_162 (n0 + 5) 61 [(0, .ref 70), (1, .int v0), (2, .int v1), (3, .int v2)] [] G U = qm_run pm_m big m_162 n0 37 [(0, .ref 70), (1, .int v0), (2, .int (1 : Int32)), (3, .int (v2 + (1 : Int32)))] [] G U := rfl
theorem sg_rl_18 (big : Nat → List Value → qM → qW → qR) (n0 : Nat) (G : qM) (U : qW) : qm_run pm_m big m_162 (n0 + 3) 0 [(0, .ref 70)] [] G U = qm_run pm_m big m_162 n0 4 [(0, .ref 70)] [.int (24 : Int32), .int (0 : Int32), .ref 70] G U := rfl
theorem sg_rl_19 (big : Nat → List Value → qM → qW → qR) (n0 : Nat) (G : qM) (U : qW) (v0 : Int32) : qm_run pm_m big m_162 (n0 + 3) 7 [(0, .ref 70)] [.int v0] G U = qm_run pm_m big m_162 n0 12 [(0, .ref 70), (1, .int v0)] [.int (G 70 18)] G U := rfl
theorem sg_rl_20 (big : Nat → List Value → qM → qW → qR) (n0 : Nat) (G : qM) (U : qW) (v0 : Int32) : qm_run pm_m big m_162 (n0 + 8) 15 [(0, .ref 70), (1, .int v0)] [] G U = qm_run pm_m big m_162 n0 26 [(0, .ref 70), (1, .int v0)] [.int (((G 73 20) >>> (v0 &&& 31)) &&& (1 : Int32))] G U := rfl
theorem sg_rl_21 (big : Nat → List Value → qM → qW → qR) (n0 : Nat) (G : qM) (U : qW) (v0 : Int32) : qm_run pm_m big m_162 (n0 + 5) 29 [(0, .ref 70), (1, .int v0)] [] G U = qm_run pm_m big m_162 n0 37 [(0, .ref 70), (1, .int v0), (2, .int (1 : Int32)), (3, .int (0 : Int32))] [] G U := rfl
theorem sg_rl_22 (big : Nat → List Value → qM → qW → qR) (n0 : Nat) (G : qM) (U : qW) (v0 : Int32) (v1 : Int32) : qm_run pm_m big m_162 (n0 + 3) 73 [(0, .ref 70), (1, .int v0), (2, .int (1 : Int32)), (3, .int v1)] [] G U = qm_run pm_m big m_162 n0 76 [(0, .ref 70), (1, .int v0), (2, .int (1 : Int32)), (3, .int v1)] [.int (4 : Int32), .int (1 : Int32), .ref 70] G U := rfl
theorem sg_rl_23 (big : Nat → List Value → qM → qW → qR) (n0 : Nat) (G : qM) (U : qW) (v0 : Int32) (v1 : Int32) : qm_run pm_m big m_162 (n0 + 2) 79 [(0, .ref 70), (1, .int v0), (2, .int (1 : Int32)), (3, .int v1)] [] G U = qm_run pm_m big m_162 n0 83 [(0, .ref 70), (1, .int v0), (2, .int (1 : Int32)), (3, .int v1)] [.int (G 70 18)] G U := rfl
theorem sg_rl_24 (big : Nat → List Value → qM → qW → qR) (n0 : Nat) (G : qM) (U : qW) (v0 : Int32) (v1 : Int32) : qm_run pm_m big m_162 (n0 + 4) 86 [(0, .ref 70), (1, .int v0), (2, .int (1 : Int32)), (3, .int v1)] [] G U = qm_run pm_m big m_162 n0 92 [(0, .ref 70), (1, .int v0), (2, .int (1 : Int32)), (3, .int v1)] [.int (G 70 10), .int v0, .ref 70] G U := rfl
theorem sg_rl_25 (big : Nat → List Value → qM → qW → qR) (n0 : Nat) (G : qM) (U : qW) (v0 : Int32) (v1 : Int32) : qm_run pm_m big m_162 (n0 + 4) 99 [(0, .ref 70), (1, .int v0), (2, .int (1 : Int32)), (3, .int v1)] [.ref 70] G U = qm_run pm_m big m_162 n0 107 [(0, .ref 70), (1, .int v0), (2, .int (1 : Int32)), (3, .int v1)] [.ref 70] (q_up G 70 10 (G 70 10)) U := rfl
theorem sg_rl_26 (big : Nat → List Value → qM → qW → qR) (n0 : Nat) (G : qM) (U : qW) (v0 : Int32) (v1 : Int32) : qm_run pm_m big m_162 (n0 + 4) 95 [(0, .ref 70), (1, .int v0), (2, .int (1 : Int32)), (3, .int v1)] [.ref 70] G U = qm_run pm_m big m_162 n0 107 [(0, .ref 70), (1, .int v0), (2, .int (1 : Int32)), (3, .int v1)] [.ref 70] (q_up G 70 10 v0) U := rfl
theorem sg_rl_27 (big : Nat → List Value → qM → qW → qR) (n0 : Nat) (G : qM) (U : qW) (v0 : Int32) (v1 : Int32) : qm_run pm_m big m_162 (n0 + 3) 73 [(0, .ref 70), (1, .int v0), (2, .int (0 : Int32)), (3, .int v1)] [] G U = qm_run pm_m big m_162 n0 76 [(0, .ref 70), (1, .int v0), (2, .int (0 : Int32)), (3, .int v1)] [.int (4 : Int32), .int (0 : Int32), .ref 70] G U := rfl
theorem sg_rl_28 (big : Nat → List Value → qM → qW → qR) (n0 : Nat) (G : qM) (U : qW) (v0 : Int32) (v1 : Int32) : qm_run pm_m big m_162 (n0 + 2) 79 [(0, .ref 70), (1, .int v0), (2, .int (0 : Int32)), (3, .int v1)] [] G U = qm_run pm_m big m_162 n0 83 [(0, .ref 70), (1, .int v0), (2, .int (0 : Int32)), (3, .int v1)] [.int (G 70 18)] G U := rfl
theorem sg_rl_29 (big : Nat → List Value → qM → qW → qR) (n0 : Nat) (G : qM) (U : qW) (v0 : Int32) (v1 : Int32) : qm_run pm_m big m_162 (n0 + 1) 106 [(0, .ref 70), (1, .int v0), (2, .int (0 : Int32)), (3, .int v1)] [] G U = qm_run pm_m big m_162 n0 107 [(0, .ref 70), (1, .int v0), (2, .int (0 : Int32)), (3, .int v1)] [.ref 70] G U := rfl
theorem sg_rl_30 (big : Nat → List Value → qM → qW → qR) (n0 : Nat) (G : qM) (U : qW) (v0 : Int32) : qm_run pm_m big m_162 (n0 + 4) 33 [(0, .ref 70), (1, .int v0)] [] G U = qm_run pm_m big m_162 n0 37 [(0, .ref 70), (1, .int v0), (2, .int (0 : Int32)), (3, .int (0 : Int32))] [] G U := rfl
theorem sg_rl_31 (big : Nat → List Value → qM → qW → qR) (n0 : Nat) (G : qM) (U : qW) : qm_run pm_m big m_162 (n0 + 3) 7 [(0, .ref 70)] [.int (0 : Int32)] G U = qm_run pm_m big m_162 n0 12 [(0, .ref 70), (1, .int (0 : Int32))] [.int (G 70 18)] G U := rfl
theorem sg_rl_32 (big : Nat → List Value → qM → qW → qR) (n0 : Nat) (G : qM) (U : qW) : qm_run pm_m big m_162 (n0 + 2) 79 [(0, .ref 70), (1, .int (0 : Int32))] [] G U = qm_run pm_m big m_162 n0 83 [(0, .ref 70), (1, .int (0 : Int32))] [.int (G 70 18)] G U := rfl
theorem sg_rl_33 (big : Nat → List Value → qM → qW → qR) (n0 : Nat) (G : qM) (U : qW) : qm_run pm_m big m_162 (n0 + 1) 106 [(0, .ref 70), (1, .int (0 : Int32))] [] G U = qm_run pm_m big m_162 n0 107 [(0, .ref 70), (1, .int (0 : Int32))] [.ref 70] G U := rfl
theorem r_ltown {b : Nat → Int32} {s p : Nat} {r : qM} (g : qM) (u : qW) (hr : k_rs b s p r g) (rb : qM) : ∃ R, q_BS 159 [.ref 70, .int (0 : Int32)] g u R ∧ ∃ g', R = (none, g', u) ∧ k_rc b s (i_town b s p rb r) g g' := by
  refine q_bs (mm := m_159) rfl (Nat.le_of_ble_eq_true rfl) rfl ?_
  refine q_step 6 48 [(0, .ref 70), (1, .int (0 : Int32))] [.int (5 : Int32), .int (2 : Int32), .ref 70, .ref 70] g u (fun big n0 => sg_rl_1 big n0 g u) ?_
  by_cases hc0 : t_er b s p (2 : Int32) (5 : Int32) = 0
  · obtain ⟨g1, q1, f1, l1⟩ := r_numk (g := g) u hr hc0
    refine q_call (M2 := 160) (rest := [.ref 70]) (q1) (fun _ _ => rfl) ?_
    refine q_step 5 58 [(0, .ref 70), (1, .int (0 : Int32))] [.int (5 : Int32), .int (2 : Int32), .ref 70, .ref 70] (q_up g1 70 6 (t_va b s p)) u (fun big n0 => sg_rl_2 big n0 g1 u (t_va b s p)) ?_
    by_cases hc1 : t_er b s (t_pl b s p) (2 : Int32) (5 : Int32) = 0
    · obtain ⟨g2, q2, f2, l2⟩ := r_numk (g := (q_up g1 70 6 (t_va b s p))) u (l1.up (by omega)) hc1
      refine q_call (M2 := 160) (rest := [.ref 70]) (q2) (fun _ _ => rfl) ?_
      refine q_ret 3 (none, (q_up g2 70 7 (t_va b s (t_pl b s p))), u) (fun _ _ => rfl) ?_
      unfold i_town
      rw [o_num, if_pos hc0]
      rw [o_num, if_pos hc1]
      exact ⟨_, rfl, k_rc_ok (((((k_fR_rfl g).trans f1.R).up (by omega)).trans f2.R).up (by omega)) (l2.up (by omega))⟩
    · obtain ⟨g2, q2, f2, x2, y2⟩ := r_nume (g := (q_up g1 70 6 (t_va b s p))) u (l1.up (by omega)) hc1
      refine q_call (M2 := 160) (rest := [.ref 70]) (q2) (fun _ _ => rfl) ?_
      refine q_ret 3 (none, (q_up g2 70 7 (0 : Int32)), u) (fun _ _ => rfl) ?_
      unfold i_town
      rw [o_num, if_pos hc0]
      rw [o_num, if_neg hc1]
      exact ⟨_, rfl, k_rc_bad (((((k_fR_rfl g).trans f1.R).up (by omega)).trans f2.R).up (by omega)) (t_er_pos hc1) x2 y2⟩
  · obtain ⟨g1, q1, f1, x1, y1⟩ := r_nume (g := g) u hr hc0
    refine q_call (M2 := 160) (rest := [.ref 70]) (q1) (fun _ _ => rfl) ?_
    refine q_step 5 58 [(0, .ref 70), (1, .int (0 : Int32))] [.int (5 : Int32), .int (2 : Int32), .ref 70, .ref 70] (q_up g1 70 6 (0 : Int32)) u (fun big n0 => sg_rl_3 big n0 g1 u) ?_
    refine q_call (M2 := 160) (rest := [.ref 70]) (r_numf (2 : Int32) (5 : Int32) _ _ (show 0 < (g1 70 18) from (by rw [x1]; exact t_er_pos hc0))) (fun _ _ => rfl) ?_
    refine q_ret 3 (none, (q_up (q_up g1 70 6 (0 : Int32)) 70 7 (0 : Int32)), u) (fun _ _ => rfl) ?_
    unfold i_town
    rw [o_num, if_neg hc0]
    exact ⟨_, rfl, k_rc_bad ((((k_fR_rfl g).trans f1.R).up (by omega)).up (by omega)) (t_er_pos hc0) x1 y1⟩
theorem r_lpull {b : Nat → Int32} {s p : Nat} {r : qM} (g : qM) (u : qW) (hr : k_rs b s p r g) (rb : qM) : ∃ R, q_BS 159 [.ref 70, .int (1 : Int32)] g u R ∧ ∃ g', R = (none, g', u) ∧ k_rc b s (i_pull b s p rb r) g g' := by
  refine q_bs (mm := m_159) rfl (Nat.le_of_ble_eq_true rfl) rfl ?_
  refine q_step 15 86 [(0, .ref 70), (1, .int (1 : Int32)), (2, .int (0 : Int32))] [.int (9 : Int32), .int (0 : Int32), .ref 70, .int (21 : Int32), .ref 73] g u (fun big n0 => sg_rl_4 big n0 g u) ?_
  by_cases hc0 : t_er b s p (0 : Int32) (9 : Int32) = 0
  · obtain ⟨g1, q1, f1, l1⟩ := r_numk (g := g) u hr hc0
    refine q_call (M2 := 160) (rest := [.int (21 : Int32), .ref 73]) (q1) (fun _ _ => rfl) ?_
    refine q_step 14 86 [(0, .ref 70), (1, .int (1 : Int32)), (2, .int (1 : Int32))] [.int (9 : Int32), .int (0 : Int32), .ref 70, .int (22 : Int32), .ref 73] (q_up g1 73 21 (t_va b s p)) u (fun big n0 => sg_rl_5 big n0 g1 u (t_va b s p)) ?_
    by_cases hc1 : t_er b s (t_pl b s p) (0 : Int32) (9 : Int32) = 0
    · obtain ⟨g2, q2, f2, l2⟩ := r_numk (g := (q_up g1 73 21 (t_va b s p))) u (l1.up (by omega)) hc1
      refine q_call (M2 := 160) (rest := [.int (22 : Int32), .ref 73]) (q2) (fun _ _ => rfl) ?_
      refine q_step 14 86 [(0, .ref 70), (1, .int (1 : Int32)), (2, .int (2 : Int32))] [.int (9 : Int32), .int (0 : Int32), .ref 70, .int (23 : Int32), .ref 73] (q_up g2 73 22 (t_va b s (t_pl b s p))) u (fun big n0 => sg_rl_6 big n0 g2 u (t_va b s (t_pl b s p))) ?_
      by_cases hc2 : t_er b s (t_pl b s (t_pl b s p)) (0 : Int32) (9 : Int32) = 0
      · obtain ⟨g3, q3, f3, l3⟩ := r_numk (g := (q_up g2 73 22 (t_va b s (t_pl b s p)))) u (l2.up (by omega)) hc2
        refine q_call (M2 := 160) (rest := [.int (23 : Int32), .ref 73]) (q3) (fun _ _ => rfl) ?_
        refine q_step 14 86 [(0, .ref 70), (1, .int (1 : Int32)), (2, .int (3 : Int32))] [.int (9 : Int32), .int (0 : Int32), .ref 70, .int (24 : Int32), .ref 73] (q_up g3 73 23 (t_va b s (t_pl b s (t_pl b s p)))) u (fun big n0 => sg_rl_7 big n0 g3 u (t_va b s (t_pl b s (t_pl b s p)))) ?_
        by_cases hc3 : t_er b s (t_pl b s (t_pl b s (t_pl b s p))) (0 : Int32) (9 : Int32) = 0
        · obtain ⟨g4, q4, f4, l4⟩ := r_numk (g := (q_up g3 73 23 (t_va b s (t_pl b s (t_pl b s p))))) u (l3.up (by omega)) hc3
          refine q_call (M2 := 160) (rest := [.int (24 : Int32), .ref 73]) (q4) (fun _ _ => rfl) ?_
          refine q_ret 8 (none, (q_up g4 73 24 (t_va b s (t_pl b s (t_pl b s (t_pl b s p))))), u) (fun _ _ => rfl) ?_
          unfold i_pull
          rw [o_num, if_pos hc0]
          rw [o_num, if_pos hc1]
          rw [o_num, if_pos hc2]
          rw [o_num, if_pos hc3]
          exact ⟨_, rfl, k_rc_ok (((((((((k_fR_rfl g).trans f1.R).up (by omega)).trans f2.R).up (by omega)).trans f3.R).up (by omega)).trans f4.R).up (by omega)) (l4.up (by omega))⟩
        · obtain ⟨g4, q4, f4, x4, y4⟩ := r_nume (g := (q_up g3 73 23 (t_va b s (t_pl b s (t_pl b s p))))) u (l3.up (by omega)) hc3
          refine q_call (M2 := 160) (rest := [.int (24 : Int32), .ref 73]) (q4) (fun _ _ => rfl) ?_
          refine q_ret 8 (none, (q_up g4 73 24 (0 : Int32)), u) (fun _ _ => rfl) ?_
          unfold i_pull
          rw [o_num, if_pos hc0]
          rw [o_num, if_pos hc1]
          rw [o_num, if_pos hc2]
          rw [o_num, if_neg hc3]
          exact ⟨_, rfl, k_rc_bad (((((((((k_fR_rfl g).trans f1.R).up (by omega)).trans f2.R).up (by omega)).trans f3.R).up (by omega)).trans f4.R).up (by omega)) (t_er_pos hc3) x4 y4⟩
      · obtain ⟨g3, q3, f3, x3, y3⟩ := r_nume (g := (q_up g2 73 22 (t_va b s (t_pl b s p)))) u (l2.up (by omega)) hc2
        refine q_call (M2 := 160) (rest := [.int (23 : Int32), .ref 73]) (q3) (fun _ _ => rfl) ?_
        refine q_step 14 86 [(0, .ref 70), (1, .int (1 : Int32)), (2, .int (3 : Int32))] [.int (9 : Int32), .int (0 : Int32), .ref 70, .int (24 : Int32), .ref 73] (q_up g3 73 23 (0 : Int32)) u (fun big n0 => sg_rl_8 big n0 g3 u) ?_
        refine q_call (M2 := 160) (rest := [.int (24 : Int32), .ref 73]) (r_numf (0 : Int32) (9 : Int32) _ _ (show 0 < (g3 70 18) from (by rw [x3]; exact t_er_pos hc2))) (fun _ _ => rfl) ?_
        refine q_ret 8 (none, (q_up (q_up g3 73 23 (0 : Int32)) 73 24 (0 : Int32)), u) (fun _ _ => rfl) ?_
        unfold i_pull
        rw [o_num, if_pos hc0]
        rw [o_num, if_pos hc1]
        rw [o_num, if_neg hc2]
        exact ⟨_, rfl, k_rc_bad ((((((((k_fR_rfl g).trans f1.R).up (by omega)).trans f2.R).up (by omega)).trans f3.R).up (by omega)).up (by omega)) (t_er_pos hc2) x3 y3⟩
    · obtain ⟨g2, q2, f2, x2, y2⟩ := r_nume (g := (q_up g1 73 21 (t_va b s p))) u (l1.up (by omega)) hc1
      refine q_call (M2 := 160) (rest := [.int (22 : Int32), .ref 73]) (q2) (fun _ _ => rfl) ?_
      refine q_step 14 86 [(0, .ref 70), (1, .int (1 : Int32)), (2, .int (2 : Int32))] [.int (9 : Int32), .int (0 : Int32), .ref 70, .int (23 : Int32), .ref 73] (q_up g2 73 22 (0 : Int32)) u (fun big n0 => sg_rl_9 big n0 g2 u) ?_
      refine q_call (M2 := 160) (rest := [.int (23 : Int32), .ref 73]) (r_numf (0 : Int32) (9 : Int32) _ _ (show 0 < (g2 70 18) from (by rw [x2]; exact t_er_pos hc1))) (fun _ _ => rfl) ?_
      refine q_step 14 86 [(0, .ref 70), (1, .int (1 : Int32)), (2, .int (3 : Int32))] [.int (9 : Int32), .int (0 : Int32), .ref 70, .int (24 : Int32), .ref 73] (q_up (q_up g2 73 22 (0 : Int32)) 73 23 (0 : Int32)) u (fun big n0 => sg_rl_8 big n0 (q_up g2 73 22 (0 : Int32)) u) ?_
      refine q_call (M2 := 160) (rest := [.int (24 : Int32), .ref 73]) (r_numf (0 : Int32) (9 : Int32) _ _ (show 0 < (g2 70 18) from (by rw [x2]; exact t_er_pos hc1))) (fun _ _ => rfl) ?_
      refine q_ret 8 (none, (q_up (q_up (q_up g2 73 22 (0 : Int32)) 73 23 (0 : Int32)) 73 24 (0 : Int32)), u) (fun _ _ => rfl) ?_
      unfold i_pull
      rw [o_num, if_pos hc0]
      rw [o_num, if_neg hc1]
      exact ⟨_, rfl, k_rc_bad (((((((k_fR_rfl g).trans f1.R).up (by omega)).trans f2.R).up (by omega)).up (by omega)).up (by omega)) (t_er_pos hc1) x2 y2⟩
  · obtain ⟨g1, q1, f1, x1, y1⟩ := r_nume (g := g) u hr hc0
    refine q_call (M2 := 160) (rest := [.int (21 : Int32), .ref 73]) (q1) (fun _ _ => rfl) ?_
    refine q_step 14 86 [(0, .ref 70), (1, .int (1 : Int32)), (2, .int (1 : Int32))] [.int (9 : Int32), .int (0 : Int32), .ref 70, .int (22 : Int32), .ref 73] (q_up g1 73 21 (0 : Int32)) u (fun big n0 => sg_rl_10 big n0 g1 u) ?_
    refine q_call (M2 := 160) (rest := [.int (22 : Int32), .ref 73]) (r_numf (0 : Int32) (9 : Int32) _ _ (show 0 < (g1 70 18) from (by rw [x1]; exact t_er_pos hc0))) (fun _ _ => rfl) ?_
    refine q_step 14 86 [(0, .ref 70), (1, .int (1 : Int32)), (2, .int (2 : Int32))] [.int (9 : Int32), .int (0 : Int32), .ref 70, .int (23 : Int32), .ref 73] (q_up (q_up g1 73 21 (0 : Int32)) 73 22 (0 : Int32)) u (fun big n0 => sg_rl_9 big n0 (q_up g1 73 21 (0 : Int32)) u) ?_
    refine q_call (M2 := 160) (rest := [.int (23 : Int32), .ref 73]) (r_numf (0 : Int32) (9 : Int32) _ _ (show 0 < (g1 70 18) from (by rw [x1]; exact t_er_pos hc0))) (fun _ _ => rfl) ?_
    refine q_step 14 86 [(0, .ref 70), (1, .int (1 : Int32)), (2, .int (3 : Int32))] [.int (9 : Int32), .int (0 : Int32), .ref 70, .int (24 : Int32), .ref 73] (q_up (q_up (q_up g1 73 21 (0 : Int32)) 73 22 (0 : Int32)) 73 23 (0 : Int32)) u (fun big n0 => sg_rl_8 big n0 (q_up (q_up g1 73 21 (0 : Int32)) 73 22 (0 : Int32)) u) ?_
    refine q_call (M2 := 160) (rest := [.int (24 : Int32), .ref 73]) (r_numf (0 : Int32) (9 : Int32) _ _ (show 0 < (g1 70 18) from (by rw [x1]; exact t_er_pos hc0))) (fun _ _ => rfl) ?_
    refine q_ret 8 (none, (q_up (q_up (q_up (q_up g1 73 21 (0 : Int32)) 73 22 (0 : Int32)) 73 23 (0 : Int32)) 73 24 (0 : Int32)), u) (fun _ _ => rfl) ?_
    unfold i_pull
    rw [o_num, if_neg hc0]
    exact ⟨_, rfl, k_rc_bad ((((((k_fR_rfl g).trans f1.R).up (by omega)).up (by omega)).up (by omega)).up (by omega)) (t_er_pos hc0) x1 y1⟩
theorem r_lpress {b : Nat → Int32} {s p : Nat} {r : qM} (g : qM) (u : qW) (hr : k_rs b s p r g) (rb : qM) : ∃ R, q_BS 159 [.ref 70, .int (2 : Int32)] g u R ∧ ∃ g', R = (none, g', u) ∧ k_rc b s (i_press b s p rb r) g g' := by
  refine q_bs (mm := m_159) rfl (Nat.le_of_ble_eq_true rfl) rfl ?_
  refine q_step 8 108 [(0, .ref 70), (1, .int (2 : Int32))] [.int (4 : Int32), .int (0 : Int32), .ref 70, .int (25 : Int32), .ref 73] g u (fun big n0 => sg_rl_11 big n0 g u) ?_
  by_cases hc0 : t_er b s p (0 : Int32) (4 : Int32) = 0
  · obtain ⟨g1, q1, f1, l1⟩ := r_numk (g := g) u hr hc0
    refine q_call (M2 := 160) (rest := [.int (25 : Int32), .ref 73]) (q1) (fun _ _ => rfl) ?_
    refine q_ret 3 (none, (q_up g1 73 25 (t_va b s p)), u) (fun _ _ => rfl) ?_
    unfold i_press
    rw [o_num, if_pos hc0]
    exact ⟨_, rfl, k_rc_ok (((k_fR_rfl g).trans f1.R).up (by omega)) (l1.up (by omega))⟩
  · obtain ⟨g1, q1, f1, x1, y1⟩ := r_nume (g := g) u hr hc0
    refine q_call (M2 := 160) (rest := [.int (25 : Int32), .ref 73]) (q1) (fun _ _ => rfl) ?_
    refine q_ret 3 (none, (q_up g1 73 25 (0 : Int32)), u) (fun _ _ => rfl) ?_
    unfold i_press
    rw [o_num, if_neg hc0]
    exact ⟨_, rfl, k_rc_bad (((k_fR_rfl g).trans f1.R).up (by omega)) (t_er_pos hc0) x1 y1⟩
theorem rf_l {r : qM} (g : qM) (u : qW) (hd : k_dh r g) (hn : k_dn r) (c : Int32) {Q : Option Value × qM × qW → Prop} (hQ : q_EV m_162 73 [(0, .ref 70), (1, .int c), (2, .int (if s_bit (r 73 20) c = 0 then (if t_hit (r 73) c (t_n r) = 0 then (1 : Int32) else 0) else 0)), (3, .int (Int32.ofNat (t_n r)))] [] g u Q) : ∀ k i, i + k = t_n r → q_EV m_162 37 [(0, .ref 70), (1, .int c), (2, .int (if s_bit (r 73 20) c = 0 then (if t_hit (r 73) c i = 0 then (1 : Int32) else 0) else 0)), (3, .int (Int32.ofNat i))] [] g u Q := by
  have h5 := hn.2.1
  have h8 : g 70 8 = Int32.ofNat (t_n r) := (hd.2 8 (by omega) (by omega)).trans hn.1
  intro k
  induction k with
  | zero =>
    intro i hi
    have e : i = t_n r := by omega
    subst e
    refine q_step 3 42 [(0, .ref 70), (1, .int c), (2, .int (if s_bit (r 73 20) c = 0 then (if t_hit (r 73) c (t_n r) = 0 then (1 : Int32) else 0) else 0)), (3, .int (Int32.ofNat (t_n r)))] [.int (g 70 8), .int (Int32.ofNat (t_n r))] g u (fun big n0 => sg_rl_12 big n0 g u c (if s_bit (r 73 20) c = 0 then (if t_hit (r 73) c (t_n r) = 0 then (1 : Int32) else 0) else 0) (Int32.ofNat (t_n r))) ?_
    refine q_ic_ge rfl (fun (hc0 : (g 70 8) ≤ (Int32.ofNat (t_n r))) => ?_) (fun hc0 => absurd (show (g 70 8) ≤ (Int32.ofNat (t_n r)) from by rw [h8]; exact (q_le (by omega) (by omega)).mpr (by omega)) hc0)
    exact hQ
  | succ k ih =>
    intro i hi
    have e7 : g 73 i = r 73 i := hd.1 i (by omega)
    refine q_step 3 42 [(0, .ref 70), (1, .int c), (2, .int (if s_bit (r 73 20) c = 0 then (if t_hit (r 73) c i = 0 then (1 : Int32) else 0) else 0)), (3, .int (Int32.ofNat i))] [.int (g 70 8), .int (Int32.ofNat i)] g u (fun big n0 => sg_rl_12 big n0 g u c (if s_bit (r 73 20) c = 0 then (if t_hit (r 73) c i = 0 then (1 : Int32) else 0) else 0) (Int32.ofNat i)) ?_
    refine q_ic_ge rfl (fun hc0 => absurd (show (g 70 8) ≤ (Int32.ofNat i) from hc0) (fun z => by rw [h8, q_le (by omega) (by omega)] at z; omega)) (fun (hc0 : ¬ ((g 70 8) ≤ (Int32.ofNat i))) => ?_)
    refine q_step 1 46 [(0, .ref 70), (1, .int c), (2, .int (if s_bit (r 73 20) c = 0 then (if t_hit (r 73) c i = 0 then (1 : Int32) else 0) else 0)), (3, .int (Int32.ofNat i))] [.int (if s_bit (r 73 20) c = 0 then (if t_hit (r 73) c i = 0 then (1 : Int32) else 0) else 0)] g u (fun big n0 => sg_rl_13 big n0 g u c (if s_bit (r 73 20) c = 0 then (if t_hit (r 73) c i = 0 then (1 : Int32) else 0) else 0) (Int32.ofNat i)) ?_
    refine q_if_eq rfl (fun (hc1 : (if s_bit (r 73 20) c = 0 then (if t_hit (r 73) c i = 0 then (1 : Int32) else 0) else 0) = 0) => ?_) (fun (hc1 : ¬ ((if s_bit (r 73 20) c = 0 then (if t_hit (r 73) c i = 0 then (1 : Int32) else 0) else 0) = 0)) => ?_)
    · refine q_step 4 37 [(0, .ref 70), (1, .int c), (2, .int (0 : Int32)), (3, .int ((Int32.ofNat i) + (1 : Int32)))] [] g u (fun big n0 => sg_rl_14 big n0 g u c (if s_bit (r 73 20) c = 0 then (if t_hit (r 73) c i = 0 then (1 : Int32) else 0) else 0) (Int32.ofNat i)) ?_
      rw [q_succ]
      have z := ih (i + 1) (by omega)
      rw [t_frF, if_pos hc1] at z
      exact z
    · refine q_step 5 56 [(0, .ref 70), (1, .int c), (2, .int (if s_bit (r 73 20) c = 0 then (if t_hit (r 73) c i = 0 then (1 : Int32) else 0) else 0)), (3, .int (Int32.ofNat i))] [.int ((0 : Int32) + (Int32.ofNat i)), .ref 73] g u (fun big n0 => sg_rl_15 big n0 g u c (if s_bit (r 73 20) c = 0 then (if t_hit (r 73) c i = 0 then (1 : Int32) else 0) else 0) (Int32.ofNat i)) ?_
      refine q_iald (j := i) (by rw [Int32.zero_add]; exact q_ixn (by omega) (by omega)) rfl rfl ?_
      refine q_step 1 58 [(0, .ref 70), (1, .int c), (2, .int (if s_bit (r 73 20) c = 0 then (if t_hit (r 73) c i = 0 then (1 : Int32) else 0) else 0)), (3, .int (Int32.ofNat i))] [.int c, .int (g 73 i)] g u (fun big n0 => sg_rl_16 big n0 g u c (if s_bit (r 73 20) c = 0 then (if t_hit (r 73) c i = 0 then (1 : Int32) else 0) else 0) (Int32.ofNat i) (g 73 i)) ?_
      refine q_ic_eq rfl (fun (hc2 : (g 73 i) = c) => ?_) (fun (hc2 : ¬ ((g 73 i) = c)) => ?_)
      · refine q_step 4 37 [(0, .ref 70), (1, .int c), (2, .int (0 : Int32)), (3, .int ((Int32.ofNat i) + (1 : Int32)))] [] g u (fun big n0 => sg_rl_14 big n0 g u c (if s_bit (r 73 20) c = 0 then (if t_hit (r 73) c i = 0 then (1 : Int32) else 0) else 0) (Int32.ofNat i)) ?_
        rw [q_succ]
        have z := ih (i + 1) (by omega)
        rw [t_frF, (if_neg hc1).trans (if_pos (e7.symm.trans hc2))] at z
        exact z
      · refine q_step 5 37 [(0, .ref 70), (1, .int c), (2, .int (1 : Int32)), (3, .int ((Int32.ofNat i) + (1 : Int32)))] [] g u (fun big n0 => sg_rl_17 big n0 g u c (if s_bit (r 73 20) c = 0 then (if t_hit (r 73) c i = 0 then (1 : Int32) else 0) else 0) (Int32.ofNat i)) ?_
        rw [q_succ]
        have z := ih (i + 1) (by omega)
        rw [t_frF, (if_neg hc1).trans (if_neg (fun z => hc2 (e7.trans z)))] at z
        exact z
theorem r_free {b : Nat → Int32} {s p : Nat} {r : qM} (g : qM) (u : qW) (hr : k_rs b s p r g) (hn : k_dn r) : ∃ R, q_BS 162 [.ref 70] g u R ∧ ∃ c g', R = (some (.int c), g', u) ∧ k_fR g g' ∧ ((t_er b s p 0 24 = 0 ∧ s_bit (r 73 20) (t_va b s p) = 0 ∧ t_hit (r 73) (t_va b s p) (t_n r) = 0 ∧ c = (t_va b s p) ∧ k_rs b s (t_pl b s p) (q_up r 70 10 (t_max (r 70 10) (t_va b s p))) g') ∨ (∃ e a, 0 < e ∧ g' 70 18 = e ∧ g' 70 19 = Int32.ofNat a ∧ ∀ k, o_free b s p r k = o_bad e a r)) := by
  refine q_bs (mm := m_162) rfl (Nat.le_of_ble_eq_true rfl) rfl ?_
  have h5 := hn.2.1
  refine q_step 3 4 [(0, .ref 70)] [.int (24 : Int32), .int (0 : Int32), .ref 70] g u (fun big n0 => sg_rl_18 big n0 g u) ?_
  by_cases hc0 : t_er b s p (0 : Int32) (24 : Int32) = 0
  · obtain ⟨q1, z18, z14, z15⟩ := r_lookk u hr hc0
    refine q_call (M2 := 161) (rest := []) (q1) (fun _ _ => rfl) ?_
    refine q_step 3 12 [(0, .ref 70), (1, .int (t_va b s p))] [.int (g 70 18)] g u (fun big n0 => sg_rl_19 big n0 g u (t_va b s p)) ?_
    refine q_if_ne rfl (fun (hc1 : (g 70 18) = 0) => ?_) (fun hc1 => absurd (show (g 70 18) = 0 from z18) hc1)
    refine q_step 8 26 [(0, .ref 70), (1, .int (t_va b s p))] [.int (((g 73 20) >>> ((t_va b s p) &&& 31)) &&& (1 : Int32))] g u (fun big n0 => sg_rl_20 big n0 g u (t_va b s p)) ?_
    refine q_if_ne rfl (fun (hc2 : (((g 73 20) >>> ((t_va b s p) &&& 31)) &&& (1 : Int32)) = 0) => ?_) (fun (hc2 : ¬ ((((g 73 20) >>> ((t_va b s p) &&& 31)) &&& (1 : Int32)) = 0)) => ?_)
    · refine q_step 5 37 [(0, .ref 70), (1, .int (t_va b s p)), (2, .int (1 : Int32)), (3, .int (0 : Int32))] [] g u (fun big n0 => sg_rl_21 big n0 g u (t_va b s p)) ?_
      have e20 : g 73 20 = r 73 20 := hr.2.2.2.1 20 (by omega)
      have hb0 : s_bit (r 73 20) (t_va b s p) = 0 := by unfold s_bit; rw [← e20]; exact hc2
      have ef : (if s_bit (r 73 20) (t_va b s p) = 0 then (if t_hit (r 73) (t_va b s p) 0 = 0 then (1 : Int32) else 0) else 0) = (1 : Int32) := if_pos hb0
      refine (show ∀ x : Int32, x = (1 : Int32) → q_EV m_162 37 [(0, .ref 70), (1, .int (t_va b s p)), (2, .int x), (3, .int (0 : Int32))] [] g u _ from ?_) _ rfl
      intro x hx
      rw [hx.trans ef.symm]
      refine rf_l g u hr.2.2.2 hn (t_va b s p) ?_ (t_n r) 0 (by omega)
      rw [if_pos hb0]
      by_cases hh0 : t_hit (r 73) (t_va b s p) (t_n r) = 0
      · rw [if_pos hh0]
        refine q_step 3 76 [(0, .ref 70), (1, .int (t_va b s p)), (2, .int (1 : Int32)), (3, .int (Int32.ofNat (t_n r)))] [.int (4 : Int32), .int (1 : Int32), .ref 70] g u (fun big n0 => sg_rl_22 big n0 g u (t_va b s p) (Int32.ofNat (t_n r))) ?_
        refine q_call (M2 := 154) (rest := []) (b_needs1 _ _ _) (fun _ _ => rfl) ?_
        refine q_step 2 83 [(0, .ref 70), (1, .int (t_va b s p)), (2, .int (1 : Int32)), (3, .int (Int32.ofNat (t_n r)))] [.int (g 70 18)] g u (fun big n0 => sg_rl_23 big n0 g u (t_va b s p) (Int32.ofNat (t_n r))) ?_
        refine q_if_ne rfl (fun (hc4 : (g 70 18) = 0) => ?_) (fun hc4 => absurd (show (g 70 18) = 0 from z18) hc4)
        refine q_step 4 92 [(0, .ref 70), (1, .int (t_va b s p)), (2, .int (1 : Int32)), (3, .int (Int32.ofNat (t_n r)))] [.int (g 70 10), .int (t_va b s p), .ref 70] g u (fun big n0 => sg_rl_24 big n0 g u (t_va b s p) (Int32.ofNat (t_n r))) ?_
        refine q_ic_le rfl (fun (hc5 : (t_va b s p) ≤ (g 70 10)) => ?_) (fun (hc5 : ¬ ((t_va b s p) ≤ (g 70 10))) => ?_)
        · refine q_step 4 107 [(0, .ref 70), (1, .int (t_va b s p)), (2, .int (1 : Int32)), (3, .int (Int32.ofNat (t_n r)))] [.ref 70] (q_up g 70 10 (g 70 10)) u (fun big n0 => sg_rl_25 big n0 g u (t_va b s p) (Int32.ofNat (t_n r))) ?_
          obtain ⟨g2, q2, f2, l2⟩ := r_nextb (b := b) (p := t_pl b s p) (q_up g 70 10 (g 70 10)) u (hr.1.R ((k_fR_rfl g).up (by omega))) z14 (t_pl_b hr.2.1).2.1 z18
          have em : (g 70 10) = t_max (r 70 10) (t_va b s p) := by
            have e10 : g 70 10 = r 70 10 := hr.2.2.2.2 10 (by omega) (by omega)
            unfold t_max
            rw [← e10, if_pos hc5]
          refine q_call (M2 := 152) (rest := []) (q2) (fun _ _ => rfl) ?_
          refine q_ret 2 (some (.int (t_va b s p)), g2, u) (fun _ _ => rfl) ?_
          exact ⟨_, _, rfl, (((k_fR_rfl g).up (by omega)).trans f2.R), Or.inl ⟨hc0, hb0, hh0, rfl, (by rw [← em]; exact ⟨(hr.1.R ((k_fR_rfl g).up (by omega))).fr f2, (t_pl_b hr.2.1).2.1, l2, hr.2.2.2.up.f70 f2⟩)⟩⟩
        · refine q_step 4 107 [(0, .ref 70), (1, .int (t_va b s p)), (2, .int (1 : Int32)), (3, .int (Int32.ofNat (t_n r)))] [.ref 70] (q_up g 70 10 (t_va b s p)) u (fun big n0 => sg_rl_26 big n0 g u (t_va b s p) (Int32.ofNat (t_n r))) ?_
          obtain ⟨g2, q2, f2, l2⟩ := r_nextb (b := b) (p := t_pl b s p) (q_up g 70 10 (t_va b s p)) u (hr.1.R ((k_fR_rfl g).up (by omega))) z14 (t_pl_b hr.2.1).2.1 z18
          have em : (t_va b s p) = t_max (r 70 10) (t_va b s p) := by
            have e10 : g 70 10 = r 70 10 := hr.2.2.2.2 10 (by omega) (by omega)
            unfold t_max
            rw [← e10, if_neg hc5]
          refine q_call (M2 := 152) (rest := []) (q2) (fun _ _ => rfl) ?_
          refine q_ret 2 (some (.int (t_va b s p)), g2, u) (fun _ _ => rfl) ?_
          exact ⟨_, _, rfl, (((k_fR_rfl g).up (by omega)).trans f2.R), Or.inl ⟨hc0, hb0, hh0, rfl, (by rw [← em]; exact ⟨(hr.1.R ((k_fR_rfl g).up (by omega))).fr f2, (t_pl_b hr.2.1).2.1, l2, hr.2.2.2.up.f70 f2⟩)⟩⟩
      · rw [if_neg hh0]
        have hfr0 : ∀ k : Int32 → Nat → qM → tO, (if s_bit (r 73 20) (t_va b s p) = 0 then (if t_hit (r 73) (t_va b s p) (t_n r) = 0 then k (t_va b s p) (t_pl b s p) (q_up r 70 10 (t_max (r 70 10) (t_va b s p))) else o_bad 4 (t_fi b s p) r) else o_bad 4 (t_fi b s p) r) = o_bad 4 (t_fi b s p) r := fun k => by rw [if_pos hb0, if_neg hh0]
        refine q_step 3 76 [(0, .ref 70), (1, .int (t_va b s p)), (2, .int (0 : Int32)), (3, .int (Int32.ofNat (t_n r)))] [.int (4 : Int32), .int (0 : Int32), .ref 70] g u (fun big n0 => sg_rl_27 big n0 g u (t_va b s p) (Int32.ofNat (t_n r))) ?_
        refine q_call (M2 := 154) (rest := []) (b_needs0 _ _ _ z18) (fun _ _ => rfl) ?_
        refine q_step 2 83 [(0, .ref 70), (1, .int (t_va b s p)), (2, .int (0 : Int32)), (3, .int (Int32.ofNat (t_n r)))] [.int (4 : Int32)] (q_up (q_up g 70 18 (4 : Int32)) 70 19 (g 70 15)) u (fun big n0 => sg_rl_28 big n0 (q_up (q_up g 70 18 (4 : Int32)) 70 19 (g 70 15)) u (t_va b s p) (Int32.ofNat (t_n r))) ?_
        refine q_if_ne rfl (fun hc4 => absurd (show (4 : Int32) = 0 from hc4) (by decide)) (fun (hc4 : ¬ ((4 : Int32) = 0)) => ?_)
        refine q_step 1 107 [(0, .ref 70), (1, .int (t_va b s p)), (2, .int (0 : Int32)), (3, .int (Int32.ofNat (t_n r)))] [.ref 70] (q_up (q_up g 70 18 (4 : Int32)) 70 19 (g 70 15)) u (fun big n0 => sg_rl_29 big n0 (q_up (q_up g 70 18 (4 : Int32)) 70 19 (g 70 15)) u (t_va b s p) (Int32.ofNat (t_n r))) ?_
        refine q_call (M2 := 152) (rest := []) (r_nextf _ _ (show (0 : Int32) < 4 by decide)) (fun _ _ => rfl) ?_
        refine q_ret 2 (some (.int (t_va b s p)), (q_up (q_up g 70 18 (4 : Int32)) 70 19 (g 70 15)), u) (fun _ _ => rfl) ?_
        refine ⟨_, _, rfl, ((k_fR_rfl g).up (by omega)).up (by omega), Or.inr ⟨4, t_fi b s p, by decide, rfl, z15, fun k => ?_⟩⟩
        unfold o_free
        rw [o_num, if_pos hc0]
        exact hfr0 k
    · refine q_step 4 37 [(0, .ref 70), (1, .int (t_va b s p)), (2, .int (0 : Int32)), (3, .int (0 : Int32))] [] g u (fun big n0 => sg_rl_30 big n0 g u (t_va b s p)) ?_
      have e20 : g 73 20 = r 73 20 := hr.2.2.2.1 20 (by omega)
      have hb0 : ¬ s_bit (r 73 20) (t_va b s p) = 0 := by unfold s_bit; rw [← e20]; exact hc2
      have ef : (if s_bit (r 73 20) (t_va b s p) = 0 then (if t_hit (r 73) (t_va b s p) 0 = 0 then (1 : Int32) else 0) else 0) = (0 : Int32) := if_neg hb0
      refine (show ∀ x : Int32, x = (0 : Int32) → q_EV m_162 37 [(0, .ref 70), (1, .int (t_va b s p)), (2, .int x), (3, .int (0 : Int32))] [] g u _ from ?_) _ rfl
      intro x hx
      rw [hx.trans ef.symm]
      refine rf_l g u hr.2.2.2 hn (t_va b s p) ?_ (t_n r) 0 (by omega)
      rw [if_neg hb0]
      have hfr0 : ∀ k : Int32 → Nat → qM → tO, (if s_bit (r 73 20) (t_va b s p) = 0 then (if t_hit (r 73) (t_va b s p) (t_n r) = 0 then k (t_va b s p) (t_pl b s p) (q_up r 70 10 (t_max (r 70 10) (t_va b s p))) else o_bad 4 (t_fi b s p) r) else o_bad 4 (t_fi b s p) r) = o_bad 4 (t_fi b s p) r := fun k => by rw [if_neg hb0]
      refine q_step 3 76 [(0, .ref 70), (1, .int (t_va b s p)), (2, .int (0 : Int32)), (3, .int (Int32.ofNat (t_n r)))] [.int (4 : Int32), .int (0 : Int32), .ref 70] g u (fun big n0 => sg_rl_27 big n0 g u (t_va b s p) (Int32.ofNat (t_n r))) ?_
      refine q_call (M2 := 154) (rest := []) (b_needs0 _ _ _ z18) (fun _ _ => rfl) ?_
      refine q_step 2 83 [(0, .ref 70), (1, .int (t_va b s p)), (2, .int (0 : Int32)), (3, .int (Int32.ofNat (t_n r)))] [.int (4 : Int32)] (q_up (q_up g 70 18 (4 : Int32)) 70 19 (g 70 15)) u (fun big n0 => sg_rl_28 big n0 (q_up (q_up g 70 18 (4 : Int32)) 70 19 (g 70 15)) u (t_va b s p) (Int32.ofNat (t_n r))) ?_
      refine q_if_ne rfl (fun hc4 => absurd (show (4 : Int32) = 0 from hc4) (by decide)) (fun (hc4 : ¬ ((4 : Int32) = 0)) => ?_)
      refine q_step 1 107 [(0, .ref 70), (1, .int (t_va b s p)), (2, .int (0 : Int32)), (3, .int (Int32.ofNat (t_n r)))] [.ref 70] (q_up (q_up g 70 18 (4 : Int32)) 70 19 (g 70 15)) u (fun big n0 => sg_rl_29 big n0 (q_up (q_up g 70 18 (4 : Int32)) 70 19 (g 70 15)) u (t_va b s p) (Int32.ofNat (t_n r))) ?_
      refine q_call (M2 := 152) (rest := []) (r_nextf _ _ (show (0 : Int32) < 4 by decide)) (fun _ _ => rfl) ?_
      refine q_ret 2 (some (.int (t_va b s p)), (q_up (q_up g 70 18 (4 : Int32)) 70 19 (g 70 15)), u) (fun _ _ => rfl) ?_
      refine ⟨_, _, rfl, ((k_fR_rfl g).up (by omega)).up (by omega), Or.inr ⟨4, t_fi b s p, by decide, rfl, z15, fun k => ?_⟩⟩
      unfold o_free
      rw [o_num, if_pos hc0]
      exact hfr0 k
  · obtain ⟨g1, q1, f1, x1, y1⟩ := r_looke u hr hc0
    have n1 : ¬ g1 70 18 = 0 := by rw [x1]; exact hc0
    refine q_call (M2 := 161) (rest := []) (q1) (fun _ _ => rfl) ?_
    refine q_step 3 12 [(0, .ref 70), (1, .int (0 : Int32))] [.int (g1 70 18)] g1 u (fun big n0 => sg_rl_31 big n0 g1 u) ?_
    refine q_if_ne rfl (fun hc1 => absurd (show (g1 70 18) = 0 from hc1) (n1)) (fun (hc1 : ¬ ((g1 70 18) = 0)) => ?_)
    refine q_step 2 83 [(0, .ref 70), (1, .int (0 : Int32))] [.int (g1 70 18)] g1 u (fun big n0 => sg_rl_32 big n0 g1 u) ?_
    refine q_if_ne rfl (fun hc2 => absurd (show (g1 70 18) = 0 from hc2) (n1)) (fun (hc2 : ¬ ((g1 70 18) = 0)) => ?_)
    refine q_step 1 107 [(0, .ref 70), (1, .int (0 : Int32))] [.ref 70] g1 u (fun big n0 => sg_rl_33 big n0 g1 u) ?_
    refine q_call (M2 := 152) (rest := []) (r_nextf g1 u (by rw [x1]; exact t_er_pos hc0)) (fun _ _ => rfl) ?_
    refine q_ret 2 (some (.int (0 : Int32)), g1, u) (fun _ _ => rfl) ?_
    refine ⟨_, _, rfl, f1.R, Or.inr ⟨_, _, t_er_pos hc0, x1, y1, fun k => ?_⟩⟩
    unfold o_free
    rw [o_num, if_neg hc0]
end
