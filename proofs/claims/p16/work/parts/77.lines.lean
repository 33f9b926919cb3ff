/-! LINES of the text: what comes of one, for both. The outcome: its fault (0: none), the fault's place, the place behind, the draft (a ghost, kept as the reference keeps it: 73 and 70). -/
def tO : Type := Int32 × Nat × Nat × qM
def o_bad (e : Int32) (a : Nat) (r : qM) : tO := (e, a, 0, r)
def o_ok (p : Nat) (r : qM) : tO := (0, 0, p, r)
def o_num (b : Nat → Int32) (s p : Nat) (lo hi : Int32) (r : qM) (k : Int32 → Nat → tO) : tO := if t_er b s p lo hi = 0 then k (t_va b s p) (t_pl b s p) else o_bad (t_er b s p lo hi) (t_fi b s p) r
/-- line k is told already -/
def t_fl (k : Nat) (r : qM) : Int32 := (r 70 9 >>> (Int32.ofNat k &&& 31)) &&& 1
def r_fl (k : Nat) (r : qM) : qM := q_up r 70 9 (r 70 9 ||| ((1 : Int32) <<< (Int32.ofNat k &&& 31)))
def o_town (b : Nat → Int32) (s f p : Nat) (r : qM) : tO := if t_fl 0 r = 0 then o_num b s p 2 5 r (fun v p1 => o_num b s p1 2 5 r (fun w p2 => o_ok p2 (q_up (q_up (r_fl 0 r) 70 6 v) 70 7 w))) else o_bad 4 f r
def o_press (b : Nat → Int32) (s f p : Nat) (r : qM) : tO := if t_fl 2 r = 0 then o_num b s p 0 4 r (fun v p1 => o_ok p1 (q_up (r_fl 2 r) 73 25 v)) else o_bad 4 f r
def o_pull (b : Nat → Int32) (s f p : Nat) (r : qM) : tO := if t_fl 1 r = 0 then o_num b s p 0 9 r (fun v1 p1 => o_num b s p1 0 9 r (fun v2 p2 => o_num b s p2 0 9 r (fun v3 p3 => o_num b s p3 0 9 r (fun v4 p4 => o_ok p4 (q_up (q_up (q_up (q_up (r_fl 1 r) 73 21 v1) 73 22 v2) 73 23 v3) 73 24 v4))))) else o_bad 4 f r
/-- someone of the first n is in c -/
def t_hit (f : Nat → Int32) (c : Int32) : Nat → Int32
  | 0 => 0
  | n + 1 => if f n = c then 1 else t_hit f c n
theorem t_hit_0 {f : Nat → Int32} {c : Int32} : ∀ n, t_hit f c n = 0 ↔ ∀ q, q < n → ¬ f q = c
  | 0 => ⟨fun _ _ hq => absurd hq (by omega), fun _ => rfl⟩
  | n + 1 => by
    rw [t_hit]
    by_cases e : f n = c
    · rw [if_pos e]
      exact ⟨fun z => absurd z (by decide), fun z => absurd e (z n (by omega))⟩
    · rw [if_neg e, t_hit_0 n]
      refine ⟨fun z q hq => ?_, fun z q hq => z q (by omega)⟩
      by_cases h : q = n
      · rw [h]; exact e
      · exact z q (by omega)
def t_max (x y : Int32) : Int32 := if y ≤ x then x else y
def t_n (r : qM) : Nat := (r 70 8).toInt.toNat
def o_free (b : Nat → Int32) (s p : Nat) (r : qM) (k : Int32 → Nat → qM → tO) : tO := o_num b s p 0 24 r (fun c p1 => if s_bit (r 73 20) c = 0 then (if t_hit (r 73) c (t_n r) = 0 then k c p1 (q_up r 70 10 (t_max (r 70 10) c)) else o_bad 4 (t_fi b s p) r) else o_bad 4 (t_fi b s p) r)
def o_wall (b : Nat → Int32) (s p : Nat) (r : qM) : tO := o_free b s p r (fun c p1 r1 => o_ok p1 (q_up r1 73 20 (r1 73 20 ||| ((1 : Int32) <<< (c &&& 31)))))
def o_one (b : Nat → Int32) (s f p : Nat) (r : qM) (st : Int32) : tO := if r 70 8 < 5 then o_free b s p r (fun c p1 r1 => o_num b s p1 0 3 r1 (fun m p2 => o_ok p2 (q_up (q_up (q_up (q_up r1 73 (t_n r) c) 73 (5 + t_n r) m) 73 (10 + t_n r) st) 70 8 (r1 70 8 + 1)))) else o_bad 5 f r
def o_goal (b : Nat → Int32) (s p : Nat) (r : qM) : tO := o_num b s p 0 4 r (fun v p1 => if r 73 (15 + v.toInt.toNat) = Int32.ofInt (-4) then o_num b s p1 0 24 r (fun c p2 => o_ok p2 (q_up (q_up (q_up r 70 11 (t_max (r 70 11) v)) 70 10 (t_max (r 70 10) c)) 73 (15 + v.toInt.toNat) c)) else o_bad 4 (t_fi b s p) r)
/-- what the class's telling writes -/
def k_ft (g g' : qM) : Prop := (∀ a, a < 9 ∨ a = 10 ∨ 17 < a → g' a = g a) ∧ (g' 9 1 = g 9 1 ∧ g' 11 1 = g 11 1) ∧ (k_pl g → k_pl g')
theorem k_ft_rfl (g : qM) : k_ft g g := ⟨fun _ _ => rfl, ⟨rfl, rfl⟩, id⟩
theorem k_ft.trans {a b c : qM} (h1 : k_ft a b) (h2 : k_ft b c) : k_ft a c := ⟨fun x h => (h2.1 x h).trans (h1.1 x h), ⟨h2.2.1.1.trans h1.2.1.1, h2.2.1.2.trans h1.2.1.2⟩, fun z => h2.2.2 (h1.2.2 z)⟩
theorem k_f9.ft {g g' : qM} (h : k_f9 g g') : k_ft g g' := ⟨fun a ha => h.1 a (by omega) (by omega), ⟨h.2.1 1 (by omega), h.2.2.1 1 (by omega) (by omega)⟩, h.2.2.2⟩
theorem k_ft.up {g g' : qM} (h : k_ft g g') {a j : Nat} {x : Int32} (ha : (11 ≤ a ∧ a ≤ 17) ∧ ¬ (a = 11 ∧ j = 1)) : k_ft g (q_up g' a j x) := by
  refine ⟨fun b hb => ?_, ?_, fun z => (h.2.2 z).up (by omega)⟩
  · rw [q_up_ne (by omega)]
    exact h.1 b hb
  · refine ⟨?_, ?_⟩
    · rw [q_up_ne (by omega)]
      exact h.2.1.1
    · rw [q_up_eq, if_neg (by omega)]
      exact h.2.1.2
/-- the class's town told is the draft r -/
def k_dc (r g : qM) : Prop := (g 12 0 = r 70 6 ∧ g 12 1 = r 70 7 ∧ g 12 2 = r 73 20 ∧ g 12 3 = r 70 8 ∧ g 12 4 = r 73 25 ∧ g 12 5 = 0 ∧ g 12 6 = 0) ∧ (∀ d, 1 ≤ d → d ≤ 4 → g 17 d = r 73 (20 + d)) ∧ (∀ p, p < t_n r → g 13 p = r 73 p ∧ g 14 p = r 73 (5 + p) ∧ g 15 p = r 73 (10 + p)) ∧ (∀ p, p < 5 → g 16 p = r 73 (15 + p)) ∧ g 11 5 = t_fl 0 r ∧ g 11 6 = t_fl 1 r ∧ g 11 7 = t_fl 2 r
/-- the draft's numbers are in their bounds so far -/
def k_dn (r : qM) : Prop := r 70 8 = Int32.ofNat (t_n r) ∧ t_n r ≤ 5 ∧ ∃ m, m < 8 ∧ r 70 9 = Int32.ofNat m
theorem k_dc.f9 {r g g' : qM} (h : k_dc r g) (hf : k_f9 g g') : k_dc r g' := by
  have e : ∀ a, a ≠ 9 → a ≠ 11 → g' a = g a := hf.1
  unfold k_dc
  rw [e 12 (by decide) (by decide), e 13 (by decide) (by decide), e 14 (by decide) (by decide), e 15 (by decide) (by decide), e 16 (by decide) (by decide), e 17 (by decide) (by decide), hf.2.2.1 5 (by decide) (by decide), hf.2.2.1 6 (by decide) (by decide), hf.2.2.1 7 (by decide) (by decide)]
  exact h
/-- after a line, the class's side: g' is what g came to -/
def k_pc (s : Nat) (o : tO) (g g' : qM) : Prop := k_ft g g' ∧ (¬ o.1 = 0 → g' 11 2 = o.1 ∧ g' 11 3 = Int32.ofNat o.2.1) ∧ (o.1 = 0 → g' 11 2 = 0 ∧ g' 9 5 = Int32.ofNat o.2.2.1 ∧ o.2.2.1 ≤ s ∧ k_dc o.2.2.2 g')
theorem k_pc_bad {s a : Nat} {e : Int32} {r g g' : qM} (h : k_ft g g') (he : ¬ e = 0) (h2 : g' 11 2 = e) (h3 : g' 11 3 = Int32.ofNat a) : k_pc s (o_bad e a r) g g' := ⟨h, fun _ => ⟨h2, h3⟩, fun z => absurd z he⟩
theorem k_pc_ok {s p : Nat} {r g g' : qM} (h : k_ft g g') (h2 : g' 11 2 = 0) (h5 : g' 9 5 = Int32.ofNat p) (hp : p ≤ s) (hd : k_dc r g') : k_pc s (o_ok p r) g g' := ⟨h, fun z => absurd rfl z, fun _ => ⟨h2, h5, hp, hd⟩⟩
/-- before a line: its name is taken, f its first byte, p the place behind -/
def k_cc (s f p : Nat) (r g : qM) : Prop := (g 9 1 = Int32.ofNat s ∧ s ≤ 160 ∧ g 9 5 = Int32.ofNat p ∧ p ≤ s ∧ g 11 2 = 0 ∧ g 9 3 = Int32.ofNat f) ∧ k_dc r g ∧ k_dn r
theorem t_fl_set {r : qM} (h : k_dn r) (k j : Nat) (hk : k < 3) (hj : j < 3) : t_fl j (r_fl k r) = if j = k then 1 else t_fl j r := by
  obtain ⟨m, hm, e⟩ := h.2.2
  unfold t_fl r_fl
  rw [q_up_at, if_pos rfl, e]
  have z : (List.range 8).all (fun m => (List.range 3).all (fun k => (List.range 3).all (fun j => decide ((((Int32.ofNat m ||| ((1 : Int32) <<< (Int32.ofNat k &&& 31))) >>> (Int32.ofNat j &&& 31)) &&& 1) = if j = k then 1 else ((Int32.ofNat m >>> (Int32.ofNat j &&& 31)) &&& 1))))) = true := by decide +kernel
  exact of_decide_eq_true (List.all_eq_true.mp (List.all_eq_true.mp (List.all_eq_true.mp z m (List.mem_range.mpr hm)) k (List.mem_range.mpr hk)) j (List.mem_range.mpr hj))
theorem k_dc.wide {r g : qM} {v : Int32} (h : k_dc r g) : k_dc (q_up r 70 6 v) (q_up g 12 0 v) := ⟨⟨rfl, h.1.2⟩, h.2⟩
theorem k_dc.high {r g : qM} {v : Int32} (h : k_dc r g) : k_dc (q_up r 70 7 v) (q_up g 12 1 v) := ⟨⟨h.1.1, rfl, h.1.2.2⟩, h.2⟩
theorem k_dc.walls {r g : qM} {v : Int32} (h : k_dc r g) (hn : k_dn r) : k_dc (q_up r 73 20 v) (q_up g 12 2 v) := by
  have h5 := hn.2.1
  refine ⟨⟨h.1.1, h.1.2.1, rfl, h.1.2.2.2⟩, fun d h1 h2 => ?_, fun p hp => ?_, fun p hp => ?_, h.2.2.2.2⟩
  · rw [q_up_at, if_neg (by omega)]
    exact h.2.1 d h1 h2
  · have hp' : p < t_n r := hp
    rw [q_up_at, q_up_at, q_up_at, if_neg (by omega), if_neg (by omega), if_neg (by omega)]
    exact h.2.2.1 p hp
  · rw [q_up_at, if_neg (by omega)]
    exact h.2.2.2.1 p hp
theorem k_dc.press {r g : qM} {v : Int32} (h : k_dc r g) (hn : k_dn r) : k_dc (q_up r 73 25 v) (q_up g 12 4 v) := by
  have h5 := hn.2.1
  refine ⟨⟨h.1.1, h.1.2.1, h.1.2.2.1, h.1.2.2.2.1, rfl, h.1.2.2.2.2.2⟩, fun d h1 h2 => ?_, fun p hp => ?_, fun p hp => ?_, h.2.2.2.2⟩
  · rw [q_up_at, if_neg (by omega)]
    exact h.2.1 d h1 h2
  · have hp' : p < t_n r := hp
    rw [q_up_at, q_up_at, q_up_at, if_neg (by omega), if_neg (by omega), if_neg (by omega)]
    exact h.2.2.1 p hp
  · rw [q_up_at, if_neg (by omega)]
    exact h.2.2.2.1 p hp
theorem k_dc.pull {r g : qM} {v : Int32} (h : k_dc r g) {i : Nat} (hi : 1 ≤ i ∧ i ≤ 4) (hn : k_dn r) : k_dc (q_up r 73 (20 + i) v) (q_up g 17 i v) := by
  have h5 := hn.2.1
  refine ⟨⟨h.1.1, h.1.2.1, h.1.2.2.1.trans (by rw [q_up_at, if_neg (by omega)]), h.1.2.2.2.1, h.1.2.2.2.2.1.trans (by rw [q_up_at, if_neg (by omega)]), h.1.2.2.2.2.2⟩, fun d h1 h2 => ?_, fun p hp => ?_, fun p hp => ?_, h.2.2.2.2⟩
  · rw [q_up_at, q_up_at]
    by_cases e : d = i
    · rw [if_pos e, if_pos (by omega)]
    · rw [if_neg e, if_neg (by omega)]
      exact h.2.1 d h1 h2
  · have hp' : p < t_n r := hp
    rw [q_up_at, q_up_at, q_up_at, if_neg (by omega), if_neg (by omega), if_neg (by omega)]
    exact h.2.2.1 p hp
  · rw [q_up_at, if_neg (by omega)]
    exact h.2.2.2.1 p hp
theorem k_dc.fl0 {r g : qM} (h : k_dc r g) (hn : k_dn r) : k_dc (r_fl 0 r) (q_up g 11 5 1) := ⟨h.1, h.2.1, h.2.2.1, h.2.2.2.1, (t_fl_set hn 0 0 (by omega) (by omega)).symm, h.2.2.2.2.2.1.trans (t_fl_set hn 0 1 (by omega) (by omega)).symm, h.2.2.2.2.2.2.trans (t_fl_set hn 0 2 (by omega) (by omega)).symm⟩
theorem k_dc.fl1 {r g : qM} (h : k_dc r g) (hn : k_dn r) : k_dc (r_fl 1 r) (q_up g 11 6 1) := ⟨h.1, h.2.1, h.2.2.1, h.2.2.2.1, h.2.2.2.2.1.trans (t_fl_set hn 1 0 (by omega) (by omega)).symm, (t_fl_set hn 1 1 (by omega) (by omega)).symm, h.2.2.2.2.2.2.trans (t_fl_set hn 1 2 (by omega) (by omega)).symm⟩
theorem k_dc.fl2 {r g : qM} (h : k_dc r g) (hn : k_dn r) : k_dc (r_fl 2 r) (q_up g 11 7 1) := ⟨h.1, h.2.1, h.2.2.1, h.2.2.2.1, h.2.2.2.2.1.trans (t_fl_set hn 2 0 (by omega) (by omega)).symm, h.2.2.2.2.2.1.trans (t_fl_set hn 2 1 (by omega) (by omega)).symm, (t_fl_set hn 2 2 (by omega) (by omega)).symm⟩
/-- the class may take a token from p on -/
def k_tk (b : Nat → Int32) (s p : Nat) (g : qM) : Prop := g 10 = b ∧ g 9 1 = Int32.ofNat s ∧ s ≤ 160 ∧ g 9 5 = Int32.ofNat p ∧ p ≤ s ∧ g 11 2 = 0
theorem k_tk.up {b : Nat → Int32} {s p : Nat} {g : qM} (h : k_tk b s p g) {a j : Nat} {x : Int32} (ha : 11 ≤ a) (hj : ¬ (a = 11 ∧ j = 2)) : k_tk b s p (q_up g a j x) := by
  refine ⟨?_, ?_, h.2.2.1, ?_, h.2.2.2.2.1, ?_⟩
  · rw [q_up_ne (by omega)]; exact h.1
  · rw [q_up_ne (by omega)]; exact h.2.1
  · rw [q_up_ne (by omega)]; exact h.2.2.2.1
  · rw [q_up_eq, if_neg (by omega)]; exact h.2.2.2.2.2
theorem c_numk {b : Nat → Int32} {s p : Nat} {g : qM} (u : qW) (h : k_tk b s p g) {lo hi : Int32} (he : t_er b s p lo hi = 0) : ∃ g', q_BS 24 [.ref 11, .int lo, .int hi] g u (some (.int (t_va b s p)), g', u) ∧ k_f9 g g' ∧ k_tk b s (t_pl b s p) g' ∧ g' 9 3 = Int32.ofNat (t_fi b s p) := by
  obtain ⟨hb, hs, h160, hp5, hp, h2⟩ := h
  subst hb
  obtain ⟨_, hq, g1, rfl, hf, h3, h5, h112, _⟩ := c_num g u hs h160 hp5 hp h2 lo hi
  rw [he, if_pos rfl] at hq
  exact ⟨g1, hq, hf, ⟨hf.1 10 (by decide) (by decide), (hf.2.1 1 (by omega)).trans hs, h160, h5, (t_pl_b hp).2.1, h112.trans he⟩, h3⟩
theorem c_nume {b : Nat → Int32} {s p : Nat} {g : qM} (u : qW) (h : k_tk b s p g) {lo hi : Int32} (he : ¬ t_er b s p lo hi = 0) : ∃ g', q_BS 24 [.ref 11, .int lo, .int hi] g u (some (.int 0), g', u) ∧ k_f9 g g' ∧ g' 11 2 = t_er b s p lo hi ∧ g' 11 3 = Int32.ofNat (t_fi b s p) := by
  obtain ⟨hb, hs, h160, hp5, hp, h2⟩ := h
  subst hb
  obtain ⟨_, hq, g1, rfl, hf, h3, h5, h112, h113⟩ := c_num g u hs h160 hp5 hp h2 lo hi
  rw [if_neg he] at hq
  exact ⟨g1, hq, hf, h112, h113 he⟩
theorem k_tk.of {s f p : Nat} {r g : qM} (h : k_cc s f p r g) : k_tk (g 10) s p g := ⟨rfl, h.1.1, h.1.2.1, h.1.2.2.1, h.1.2.2.2.1, h.1.2.2.2.2.1⟩
theorem k_dn.o {r r' : qM} (h : k_dn r) (h8 : r' 70 8 = r 70 8) (h9 : r' 70 9 = r 70 9) : k_dn r' := by
  have e : t_n r' = t_n r := by unfold t_n; rw [h8]
  unfold k_dn
  rw [e, h8, h9]
  exact h
theorem k_dn.fl {r : qM} (h : k_dn r) (k : Nat) (hk : k < 3) : k_dn (r_fl k r) := by
  obtain ⟨h8, h5, m, hm, e⟩ := h
  refine ⟨h8, h5, ?_⟩
  unfold r_fl
  rw [q_up_at, if_pos rfl, e]
  have z : (List.range 8).all (fun m => (List.range 3).all (fun k => decide (((Int32.ofNat m ||| ((1 : Int32) <<< (Int32.ofNat k &&& 31))).toInt.toNat < 8) ∧ (Int32.ofNat m ||| ((1 : Int32) <<< (Int32.ofNat k &&& 31))) = Int32.ofNat (Int32.ofNat m ||| ((1 : Int32) <<< (Int32.ofNat k &&& 31))).toInt.toNat))) = true := by decide +kernel
  have q := of_decide_eq_true (List.all_eq_true.mp (List.all_eq_true.mp z m (List.mem_range.mpr hm)) k (List.mem_range.mpr hk))
  exact ⟨_, q.1, q.2⟩
theorem sg_ln_1 (big : Nat → List Value → qM → qW → qR) (n0 : Nat) (G : qM) (U : qW) (v0 : Int32) : qm_run pm_m big m_23 (n0 + 1) 0 [(0, .ref 11), (1, .int v0)] [] G U = qm_run pm_m big m_23 n0 1 [(0, .ref 11), (1, .int v0)] [.int v0] G U := rfl
theorem sg_ln_2 (big : Nat → List Value → qM → qW → qR) (n0 : Nat) (G : qM) (U : qW) (v0 : Int32) : qm_run pm_m big m_23 (n0 + 5) 4 [(0, .ref 11), (1, .int v0)] [] G U = qm_run pm_m big m_23 n0 13 [(0, .ref 11), (1, .int v0)] [.int (G 9 3), .int (4 : Int32), .ref 11] G U := rfl
theorem sg_ln_3 (big : Nat → List Value → qM → qW → qR) (n0 : Nat) (G : qM) (U : qW) : qm_run pm_m big m_22 (n0 + 3) 0 [(0, .ref 11)] [] G U = qm_run pm_m big m_22 n0 5 [(0, .ref 11)] [.int (G 11 5), .ref 11] G U := rfl
theorem sg_ln_4 (big : Nat → List Value → qM → qW → qR) (n0 : Nat) (G : qM) (U : qW) : qm_run pm_m big m_22 (n0 + 8) 8 [(0, .ref 11)] [] G U = qm_run pm_m big m_22 n0 20 [(0, .ref 11)] [.int (5 : Int32), .int (2 : Int32), .ref 11, .ref 12] (q_up G 11 5 (1 : Int32)) U := rfl
theorem sg_ln_5 (big : Nat → List Value → qM → qW → qR) (n0 : Nat) (G : qM) (U : qW) (v0 : Int32) : qm_run pm_m big m_22 (n0 + 6) 23 [(0, .ref 11)] [.int v0, .ref 12] G U = qm_run pm_m big m_22 n0 33 [(0, .ref 11)] [.int (5 : Int32), .int (2 : Int32), .ref 11, .ref 12] (q_up G 12 0 v0) U := rfl
theorem sg_ln_6 (big : Nat → List Value → qM → qW → qR) (n0 : Nat) (G : qM) (U : qW) : qm_run pm_m big m_22 (n0 + 6) 23 [(0, .ref 11)] [.int (0 : Int32), .ref 12] G U = qm_run pm_m big m_22 n0 33 [(0, .ref 11)] [.int (5 : Int32), .int (2 : Int32), .ref 11, .ref 12] (q_up G 12 0 (0 : Int32)) U := rfl
theorem sg_ln_7 (big : Nat → List Value → qM → qW → qR) (n0 : Nat) (G : qM) (U : qW) : qm_run pm_m big m_34 (n0 + 3) 0 [(0, .ref 11)] [] G U = qm_run pm_m big m_34 n0 5 [(0, .ref 11)] [.int (G 11 7), .ref 11] G U := rfl
theorem sg_ln_8 (big : Nat → List Value → qM → qW → qR) (n0 : Nat) (G : qM) (U : qW) : qm_run pm_m big m_34 (n0 + 8) 8 [(0, .ref 11)] [] G U = qm_run pm_m big m_34 n0 20 [(0, .ref 11)] [.int (4 : Int32), .int (0 : Int32), .ref 11, .ref 12] (q_up G 11 7 (1 : Int32)) U := rfl
theorem sg_ln_9 (big : Nat → List Value → qM → qW → qR) (n0 : Nat) (G : qM) (U : qW) : qm_run pm_m big m_33 (n0 + 3) 0 [(0, .ref 11)] [] G U = qm_run pm_m big m_33 n0 5 [(0, .ref 11)] [.int (G 11 6), .ref 11] G U := rfl
theorem sg_ln_10 (big : Nat → List Value → qM → qW → qR) (n0 : Nat) (G : qM) (U : qW) : qm_run pm_m big m_33 (n0 + 15) 8 [(0, .ref 11)] [] G U = qm_run pm_m big m_33 n0 32 [(0, .ref 11), (1, .int (1 : Int32))] [.int (9 : Int32), .int (0 : Int32), .ref 11, .int (1 : Int32), .ref 17] (q_up G 11 6 (1 : Int32)) U := rfl
theorem sg_ln_11 (big : Nat → List Value → qM → qW → qR) (n0 : Nat) (G : qM) (U : qW) (v0 : Int32) : qm_run pm_m big m_33 (n0 + 13) 35 [(0, .ref 11), (1, .int (1 : Int32))] [.int v0, .int (1 : Int32), .ref 17] G U = qm_run pm_m big m_33 n0 32 [(0, .ref 11), (1, .int (2 : Int32))] [.int (9 : Int32), .int (0 : Int32), .ref 11, .int (2 : Int32), .ref 17] (q_up G 17 1 v0) U := rfl
theorem sg_ln_12 (big : Nat → List Value → qM → qW → qR) (n0 : Nat) (G : qM) (U : qW) (v0 : Int32) : qm_run pm_m big m_33 (n0 + 13) 35 [(0, .ref 11), (1, .int (2 : Int32))] [.int v0, .int (2 : Int32), .ref 17] G U = qm_run pm_m big m_33 n0 32 [(0, .ref 11), (1, .int (3 : Int32))] [.int (9 : Int32), .int (0 : Int32), .ref 11, .int (3 : Int32), .ref 17] (q_up G 17 2 v0) U := rfl
theorem sg_ln_13 (big : Nat → List Value → qM → qW → qR) (n0 : Nat) (G : qM) (U : qW) (v0 : Int32) : qm_run pm_m big m_33 (n0 + 13) 35 [(0, .ref 11), (1, .int (3 : Int32))] [.int v0, .int (3 : Int32), .ref 17] G U = qm_run pm_m big m_33 n0 32 [(0, .ref 11), (1, .int (4 : Int32))] [.int (9 : Int32), .int (0 : Int32), .ref 11, .int (4 : Int32), .ref 17] (q_up G 17 3 v0) U := rfl
theorem sg_ln_14 (big : Nat → List Value → qM → qW → qR) (n0 : Nat) (G : qM) (U : qW) : qm_run pm_m big m_33 (n0 + 13) 35 [(0, .ref 11), (1, .int (3 : Int32))] [.int (0 : Int32), .int (3 : Int32), .ref 17] G U = qm_run pm_m big m_33 n0 32 [(0, .ref 11), (1, .int (4 : Int32))] [.int (9 : Int32), .int (0 : Int32), .ref 11, .int (4 : Int32), .ref 17] (q_up G 17 3 (0 : Int32)) U := rfl
theorem sg_ln_15 (big : Nat → List Value → qM → qW → qR) (n0 : Nat) (G : qM) (U : qW) : qm_run pm_m big m_33 (n0 + 13) 35 [(0, .ref 11), (1, .int (2 : Int32))] [.int (0 : Int32), .int (2 : Int32), .ref 17] G U = qm_run pm_m big m_33 n0 32 [(0, .ref 11), (1, .int (3 : Int32))] [.int (9 : Int32), .int (0 : Int32), .ref 11, .int (3 : Int32), .ref 17] (q_up G 17 2 (0 : Int32)) U := rfl
theorem sg_ln_16 (big : Nat → List Value → qM → qW → qR) (n0 : Nat) (G : qM) (U : qW) : qm_run pm_m big m_33 (n0 + 13) 35 [(0, .ref 11), (1, .int (1 : Int32))] [.int (0 : Int32), .int (1 : Int32), .ref 17] G U = qm_run pm_m big m_33 n0 32 [(0, .ref 11), (1, .int (2 : Int32))] [.int (9 : Int32), .int (0 : Int32), .ref 11, .int (2 : Int32), .ref 17] (q_up G 17 1 (0 : Int32)) U := rfl
theorem b_rs0 (x : Int32) (hx : x = 0) (g : qM) (u : qW) : q_BS 23 [.ref 11, .int x] g u (none, g, u) := by
  refine q_bx (mm := m_23) rfl (Nat.le_of_ble_eq_true rfl) rfl ?_
  refine q_step 1 1 [(0, .ref 11), (1, .int x)] [.int x] g u (fun big n0 => sg_ln_1 big n0 g u x) ?_
  refine q_if_eq rfl (fun (hc0 : x = 0) => ?_) (fun hc0 => absurd (show x = 0 from hx) hc0)
  refine q_ret 1 (none, g, u) (fun _ _ => rfl) ?_
  rfl
theorem b_rs1 (x : Int32) (hx : ¬ x = 0) (g : qM) (u : qW) : q_BS 23 [.ref 11, .int x] g u (none, q_up (q_up g 11 2 4) 11 3 (g 9 3), u) := by
  refine q_bx (mm := m_23) rfl (Nat.le_of_ble_eq_true rfl) rfl ?_
  refine q_step 1 1 [(0, .ref 11), (1, .int x)] [.int x] g u (fun big n0 => sg_ln_1 big n0 g u x) ?_
  refine q_if_eq rfl (fun hc0 => absurd (show x = 0 from hc0) (hx)) (fun (hc0 : ¬ (x = 0)) => ?_)
  refine q_step 5 13 [(0, .ref 11), (1, .int x)] [.int (g 9 3), .int (4 : Int32), .ref 11] g u (fun big n0 => sg_ln_2 big n0 g u x) ?_
  refine q_call (M2 := 20) (rest := []) (b_refuse _ _ _ _) (fun _ _ => rfl) ?_
  refine q_ret 1 (none, (q_up (q_up g 11 2 (4 : Int32)) 11 3 (g 9 3)), u) (fun _ _ => rfl) ?_
  rfl
theorem c_ltown {s f p : Nat} {r : qM} (g : qM) (u : qW) (hc : k_cc s f p r g) : ∃ R, q_BS 22 [.ref 11] g u R ∧ ∃ g', R = (none, g', u) ∧ k_pc s (o_town (g 10) s f p r) g g' := by
  refine q_bs (mm := m_22) rfl (Nat.le_of_ble_eq_true rfl) rfl ?_
  have ht := k_tk.of hc
  obtain ⟨⟨hs, h160, hp5, hp, h2, hf⟩, hd, hn⟩ := hc
  have hfl : g 11 5 = t_fl 0 r := hd.2.2.2.2.1
  refine q_step 3 5 [(0, .ref 11)] [.int (g 11 5), .ref 11] g u (fun big n0 => sg_ln_3 big n0 g u) ?_
  by_cases hc0 : (g 11 5) = 0
  · refine q_call (M2 := 23) (rest := []) (b_rs0 _ hc0 _ _) (fun _ _ => rfl) ?_
    refine q_step 8 20 [(0, .ref 11)] [.int (5 : Int32), .int (2 : Int32), .ref 11, .ref 12] (q_up g 11 5 (1 : Int32)) u (fun big n0 => sg_ln_4 big n0 g u) ?_
    by_cases hc1 : t_er (g 10) s p (2 : Int32) (5 : Int32) = 0
    · obtain ⟨g1, q1, f1, t1, i1⟩ := c_numk (g := (q_up g 11 5 (1 : Int32))) u (ht.up (by omega) (by omega)) hc1
      refine q_call (M2 := 24) (rest := [.ref 12]) (q1) (fun _ _ => rfl) ?_
      refine q_step 6 33 [(0, .ref 11)] [.int (5 : Int32), .int (2 : Int32), .ref 11, .ref 12] (q_up g1 12 0 (t_va (g 10) s p)) u (fun big n0 => sg_ln_5 big n0 g1 u (t_va (g 10) s p)) ?_
      by_cases hc2 : t_er (g 10) s (t_pl (g 10) s p) (2 : Int32) (5 : Int32) = 0
      · obtain ⟨g2, q2, f2, t2, i2⟩ := c_numk (g := (q_up g1 12 0 (t_va (g 10) s p))) u (t1.up (by omega) (by omega)) hc2
        refine q_call (M2 := 24) (rest := [.ref 12]) (q2) (fun _ _ => rfl) ?_
        refine q_ret 2 (none, (q_up g2 12 1 (t_va (g 10) s (t_pl (g 10) s p))), u) (fun _ _ => rfl) ?_
        unfold o_town
        rw [if_pos (hfl.symm.trans hc0)]
        rw [o_num, if_pos hc1]
        rw [o_num, if_pos hc2]
        exact ⟨_, rfl, k_pc_ok ((((((k_ft_rfl g).up (by omega)).trans f1.ft).up (by omega)).trans f2.ft).up (by omega)) t2.2.2.2.2.2 t2.2.2.2.1 t2.2.2.2.2.1 (((((hd.fl0 hn).f9 f1).wide).f9 f2).high)⟩
      · obtain ⟨g2, q2, f2, x2, y2⟩ := c_nume (g := (q_up g1 12 0 (t_va (g 10) s p))) u (t1.up (by omega) (by omega)) hc2
        refine q_call (M2 := 24) (rest := [.ref 12]) (q2) (fun _ _ => rfl) ?_
        refine q_ret 2 (none, (q_up g2 12 1 (0 : Int32)), u) (fun _ _ => rfl) ?_
        unfold o_town
        rw [if_pos (hfl.symm.trans hc0)]
        rw [o_num, if_pos hc1]
        rw [o_num, if_neg hc2]
        exact ⟨_, rfl, k_pc_bad ((((((k_ft_rfl g).up (by omega)).trans f1.ft).up (by omega)).trans f2.ft).up (by omega)) hc2 x2 y2⟩
    · obtain ⟨g1, q1, f1, x1, y1⟩ := c_nume (g := (q_up g 11 5 (1 : Int32))) u (ht.up (by omega) (by omega)) hc1
      refine q_call (M2 := 24) (rest := [.ref 12]) (q1) (fun _ _ => rfl) ?_
      refine q_step 6 33 [(0, .ref 11)] [.int (5 : Int32), .int (2 : Int32), .ref 11, .ref 12] (q_up g1 12 0 (0 : Int32)) u (fun big n0 => sg_ln_6 big n0 g1 u) ?_
      refine q_call (M2 := 24) (rest := [.ref 12]) (c_numf (2 : Int32) (5 : Int32) _ _ (show ¬ (g1 11 2) = 0 from (by rw [x1]; exact hc1))) (fun _ _ => rfl) ?_
      refine q_ret 2 (none, (q_up (q_up g1 12 0 (0 : Int32)) 12 1 (0 : Int32)), u) (fun _ _ => rfl) ?_
      unfold o_town
      rw [if_pos (hfl.symm.trans hc0)]
      rw [o_num, if_neg hc1]
      exact ⟨_, rfl, k_pc_bad (((((k_ft_rfl g).up (by omega)).trans f1.ft).up (by omega)).up (by omega)) hc1 x1 y1⟩
  · refine q_call (M2 := 23) (rest := []) (b_rs1 _ hc0 _ _) (fun _ _ => rfl) ?_
    refine q_step 8 20 [(0, .ref 11)] [.int (5 : Int32), .int (2 : Int32), .ref 11, .ref 12] (q_up (q_up (q_up g 11 2 (4 : Int32)) 11 3 (g 9 3)) 11 5 (1 : Int32)) u (fun big n0 => sg_ln_4 big n0 (q_up (q_up g 11 2 (4 : Int32)) 11 3 (g 9 3)) u) ?_
    refine q_call (M2 := 24) (rest := [.ref 12]) (c_numf (2 : Int32) (5 : Int32) _ _ (show ¬ (4 : Int32) = 0 from (by decide))) (fun _ _ => rfl) ?_
    refine q_step 6 33 [(0, .ref 11)] [.int (5 : Int32), .int (2 : Int32), .ref 11, .ref 12] (q_up (q_up (q_up (q_up g 11 2 (4 : Int32)) 11 3 (g 9 3)) 11 5 (1 : Int32)) 12 0 (0 : Int32)) u (fun big n0 => sg_ln_6 big n0 (q_up (q_up (q_up g 11 2 (4 : Int32)) 11 3 (g 9 3)) 11 5 (1 : Int32)) u) ?_
    refine q_call (M2 := 24) (rest := [.ref 12]) (c_numf (2 : Int32) (5 : Int32) _ _ (show ¬ (4 : Int32) = 0 from (by decide))) (fun _ _ => rfl) ?_
    refine q_ret 2 (none, (q_up (q_up (q_up (q_up (q_up g 11 2 (4 : Int32)) 11 3 (g 9 3)) 11 5 (1 : Int32)) 12 0 (0 : Int32)) 12 1 (0 : Int32)), u) (fun _ _ => rfl) ?_
    unfold o_town
    rw [if_neg (fun z => hc0 (hfl.trans z))]
    exact ⟨_, rfl, k_pc_bad ((((((k_ft_rfl g).up (by omega)).up (by omega)).up (by omega)).up (by omega)).up (by omega)) (by decide) rfl hf⟩
theorem c_lpress {s f p : Nat} {r : qM} (g : qM) (u : qW) (hc : k_cc s f p r g) : ∃ R, q_BS 34 [.ref 11] g u R ∧ ∃ g', R = (none, g', u) ∧ k_pc s (o_press (g 10) s f p r) g g' := by
  refine q_bs (mm := m_34) rfl (Nat.le_of_ble_eq_true rfl) rfl ?_
  have ht := k_tk.of hc
  obtain ⟨⟨hs, h160, hp5, hp, h2, hf⟩, hd, hn⟩ := hc
  have hfl : g 11 7 = t_fl 2 r := hd.2.2.2.2.2.2
  refine q_step 3 5 [(0, .ref 11)] [.int (g 11 7), .ref 11] g u (fun big n0 => sg_ln_7 big n0 g u) ?_
  by_cases hc0 : (g 11 7) = 0
  · refine q_call (M2 := 23) (rest := []) (b_rs0 _ hc0 _ _) (fun _ _ => rfl) ?_
    refine q_step 8 20 [(0, .ref 11)] [.int (4 : Int32), .int (0 : Int32), .ref 11, .ref 12] (q_up g 11 7 (1 : Int32)) u (fun big n0 => sg_ln_8 big n0 g u) ?_
    by_cases hc1 : t_er (g 10) s p (0 : Int32) (4 : Int32) = 0
    · obtain ⟨g1, q1, f1, t1, i1⟩ := c_numk (g := (q_up g 11 7 (1 : Int32))) u (ht.up (by omega) (by omega)) hc1
      refine q_call (M2 := 24) (rest := [.ref 12]) (q1) (fun _ _ => rfl) ?_
      refine q_ret 2 (none, (q_up g1 12 4 (t_va (g 10) s p)), u) (fun _ _ => rfl) ?_
      unfold o_press
      rw [if_pos (hfl.symm.trans hc0)]
      rw [o_num, if_pos hc1]
      exact ⟨_, rfl, k_pc_ok ((((k_ft_rfl g).up (by omega)).trans f1.ft).up (by omega)) t1.2.2.2.2.2 t1.2.2.2.1 t1.2.2.2.2.1 (((hd.fl2 hn).f9 f1).press (hn.fl 2 (by omega)))⟩
    · obtain ⟨g1, q1, f1, x1, y1⟩ := c_nume (g := (q_up g 11 7 (1 : Int32))) u (ht.up (by omega) (by omega)) hc1
      refine q_call (M2 := 24) (rest := [.ref 12]) (q1) (fun _ _ => rfl) ?_
      refine q_ret 2 (none, (q_up g1 12 4 (0 : Int32)), u) (fun _ _ => rfl) ?_
      unfold o_press
      rw [if_pos (hfl.symm.trans hc0)]
      rw [o_num, if_neg hc1]
      exact ⟨_, rfl, k_pc_bad ((((k_ft_rfl g).up (by omega)).trans f1.ft).up (by omega)) hc1 x1 y1⟩
  · refine q_call (M2 := 23) (rest := []) (b_rs1 _ hc0 _ _) (fun _ _ => rfl) ?_
    refine q_step 8 20 [(0, .ref 11)] [.int (4 : Int32), .int (0 : Int32), .ref 11, .ref 12] (q_up (q_up (q_up g 11 2 (4 : Int32)) 11 3 (g 9 3)) 11 7 (1 : Int32)) u (fun big n0 => sg_ln_8 big n0 (q_up (q_up g 11 2 (4 : Int32)) 11 3 (g 9 3)) u) ?_
    refine q_call (M2 := 24) (rest := [.ref 12]) (c_numf (0 : Int32) (4 : Int32) _ _ (show ¬ (4 : Int32) = 0 from (by decide))) (fun _ _ => rfl) ?_
    refine q_ret 2 (none, (q_up (q_up (q_up (q_up g 11 2 (4 : Int32)) 11 3 (g 9 3)) 11 7 (1 : Int32)) 12 4 (0 : Int32)), u) (fun _ _ => rfl) ?_
    unfold o_press
    rw [if_neg (fun z => hc0 (hfl.trans z))]
    exact ⟨_, rfl, k_pc_bad (((((k_ft_rfl g).up (by omega)).up (by omega)).up (by omega)).up (by omega)) (by decide) rfl hf⟩
theorem c_lpull {s f p : Nat} {r : qM} (g : qM) (u : qW) (hc : k_cc s f p r g) : ∃ R, q_BS 33 [.ref 11] g u R ∧ ∃ g', R = (none, g', u) ∧ k_pc s (o_pull (g 10) s f p r) g g' := by
  refine q_bs (mm := m_33) rfl (Nat.le_of_ble_eq_true rfl) rfl ?_
  have ht := k_tk.of hc
  obtain ⟨⟨hs, h160, hp5, hp, h2, hf⟩, hd, hn⟩ := hc
  have hfl : g 11 6 = t_fl 1 r := hd.2.2.2.2.2.1
  refine q_step 3 5 [(0, .ref 11)] [.int (g 11 6), .ref 11] g u (fun big n0 => sg_ln_9 big n0 g u) ?_
  by_cases hc0 : (g 11 6) = 0
  · refine q_call (M2 := 23) (rest := []) (b_rs0 _ hc0 _ _) (fun _ _ => rfl) ?_
    refine q_step 15 32 [(0, .ref 11), (1, .int (1 : Int32))] [.int (9 : Int32), .int (0 : Int32), .ref 11, .int (1 : Int32), .ref 17] (q_up g 11 6 (1 : Int32)) u (fun big n0 => sg_ln_10 big n0 g u) ?_
    by_cases hc1 : t_er (g 10) s p (0 : Int32) (9 : Int32) = 0
    · obtain ⟨g1, q1, f1, t1, i1⟩ := c_numk (g := (q_up g 11 6 (1 : Int32))) u (ht.up (by omega) (by omega)) hc1
      refine q_call (M2 := 24) (rest := [.int (1 : Int32), .ref 17]) (q1) (fun _ _ => rfl) ?_
      refine q_step 13 32 [(0, .ref 11), (1, .int (2 : Int32))] [.int (9 : Int32), .int (0 : Int32), .ref 11, .int (2 : Int32), .ref 17] (q_up g1 17 1 (t_va (g 10) s p)) u (fun big n0 => sg_ln_11 big n0 g1 u (t_va (g 10) s p)) ?_
      by_cases hc2 : t_er (g 10) s (t_pl (g 10) s p) (0 : Int32) (9 : Int32) = 0
      · obtain ⟨g2, q2, f2, t2, i2⟩ := c_numk (g := (q_up g1 17 1 (t_va (g 10) s p))) u (t1.up (by omega) (by omega)) hc2
        refine q_call (M2 := 24) (rest := [.int (2 : Int32), .ref 17]) (q2) (fun _ _ => rfl) ?_
        refine q_step 13 32 [(0, .ref 11), (1, .int (3 : Int32))] [.int (9 : Int32), .int (0 : Int32), .ref 11, .int (3 : Int32), .ref 17] (q_up g2 17 2 (t_va (g 10) s (t_pl (g 10) s p))) u (fun big n0 => sg_ln_12 big n0 g2 u (t_va (g 10) s (t_pl (g 10) s p))) ?_
        by_cases hc3 : t_er (g 10) s (t_pl (g 10) s (t_pl (g 10) s p)) (0 : Int32) (9 : Int32) = 0
        · obtain ⟨g3, q3, f3, t3, i3⟩ := c_numk (g := (q_up g2 17 2 (t_va (g 10) s (t_pl (g 10) s p)))) u (t2.up (by omega) (by omega)) hc3
          refine q_call (M2 := 24) (rest := [.int (3 : Int32), .ref 17]) (q3) (fun _ _ => rfl) ?_
          refine q_step 13 32 [(0, .ref 11), (1, .int (4 : Int32))] [.int (9 : Int32), .int (0 : Int32), .ref 11, .int (4 : Int32), .ref 17] (q_up g3 17 3 (t_va (g 10) s (t_pl (g 10) s (t_pl (g 10) s p)))) u (fun big n0 => sg_ln_13 big n0 g3 u (t_va (g 10) s (t_pl (g 10) s (t_pl (g 10) s p)))) ?_
          by_cases hc4 : t_er (g 10) s (t_pl (g 10) s (t_pl (g 10) s (t_pl (g 10) s p))) (0 : Int32) (9 : Int32) = 0
          · obtain ⟨g4, q4, f4, t4, i4⟩ := c_numk (g := (q_up g3 17 3 (t_va (g 10) s (t_pl (g 10) s (t_pl (g 10) s p))))) u (t3.up (by omega) (by omega)) hc4
            refine q_call (M2 := 24) (rest := [.int (4 : Int32), .ref 17]) (q4) (fun _ _ => rfl) ?_
            refine q_ret 7 (none, (q_up g4 17 4 (t_va (g 10) s (t_pl (g 10) s (t_pl (g 10) s (t_pl (g 10) s p))))), u) (fun _ _ => rfl) ?_
            unfold o_pull
            rw [if_pos (hfl.symm.trans hc0)]
            rw [o_num, if_pos hc1]
            rw [o_num, if_pos hc2]
            rw [o_num, if_pos hc3]
            rw [o_num, if_pos hc4]
            exact ⟨_, rfl, k_pc_ok ((((((((((k_ft_rfl g).up (by omega)).trans f1.ft).up (by omega)).trans f2.ft).up (by omega)).trans f3.ft).up (by omega)).trans f4.ft).up (by omega)) t4.2.2.2.2.2 t4.2.2.2.1 t4.2.2.2.2.1 (((((((((hd.fl1 hn).f9 f1).pull (i := 1) (by omega) (hn.fl 1 (by omega))).f9 f2).pull (i := 2) (by omega) ((hn.fl 1 (by omega)).o rfl rfl)).f9 f3).pull (i := 3) (by omega) (((hn.fl 1 (by omega)).o rfl rfl).o rfl rfl)).f9 f4).pull (i := 4) (by omega) ((((hn.fl 1 (by omega)).o rfl rfl).o rfl rfl).o rfl rfl))⟩
          · obtain ⟨g4, q4, f4, x4, y4⟩ := c_nume (g := (q_up g3 17 3 (t_va (g 10) s (t_pl (g 10) s (t_pl (g 10) s p))))) u (t3.up (by omega) (by omega)) hc4
            refine q_call (M2 := 24) (rest := [.int (4 : Int32), .ref 17]) (q4) (fun _ _ => rfl) ?_
            refine q_ret 7 (none, (q_up g4 17 4 (0 : Int32)), u) (fun _ _ => rfl) ?_
            unfold o_pull
            rw [if_pos (hfl.symm.trans hc0)]
            rw [o_num, if_pos hc1]
            rw [o_num, if_pos hc2]
            rw [o_num, if_pos hc3]
            rw [o_num, if_neg hc4]
            exact ⟨_, rfl, k_pc_bad ((((((((((k_ft_rfl g).up (by omega)).trans f1.ft).up (by omega)).trans f2.ft).up (by omega)).trans f3.ft).up (by omega)).trans f4.ft).up (by omega)) hc4 x4 y4⟩
        · obtain ⟨g3, q3, f3, x3, y3⟩ := c_nume (g := (q_up g2 17 2 (t_va (g 10) s (t_pl (g 10) s p)))) u (t2.up (by omega) (by omega)) hc3
          refine q_call (M2 := 24) (rest := [.int (3 : Int32), .ref 17]) (q3) (fun _ _ => rfl) ?_
          refine q_step 13 32 [(0, .ref 11), (1, .int (4 : Int32))] [.int (9 : Int32), .int (0 : Int32), .ref 11, .int (4 : Int32), .ref 17] (q_up g3 17 3 (0 : Int32)) u (fun big n0 => sg_ln_14 big n0 g3 u) ?_
          refine q_call (M2 := 24) (rest := [.int (4 : Int32), .ref 17]) (c_numf (0 : Int32) (9 : Int32) _ _ (show ¬ (g3 11 2) = 0 from (by rw [x3]; exact hc3))) (fun _ _ => rfl) ?_
          refine q_ret 7 (none, (q_up (q_up g3 17 3 (0 : Int32)) 17 4 (0 : Int32)), u) (fun _ _ => rfl) ?_
          unfold o_pull
          rw [if_pos (hfl.symm.trans hc0)]
          rw [o_num, if_pos hc1]
          rw [o_num, if_pos hc2]
          rw [o_num, if_neg hc3]
          exact ⟨_, rfl, k_pc_bad (((((((((k_ft_rfl g).up (by omega)).trans f1.ft).up (by omega)).trans f2.ft).up (by omega)).trans f3.ft).up (by omega)).up (by omega)) hc3 x3 y3⟩
      · obtain ⟨g2, q2, f2, x2, y2⟩ := c_nume (g := (q_up g1 17 1 (t_va (g 10) s p))) u (t1.up (by omega) (by omega)) hc2
        refine q_call (M2 := 24) (rest := [.int (2 : Int32), .ref 17]) (q2) (fun _ _ => rfl) ?_
        refine q_step 13 32 [(0, .ref 11), (1, .int (3 : Int32))] [.int (9 : Int32), .int (0 : Int32), .ref 11, .int (3 : Int32), .ref 17] (q_up g2 17 2 (0 : Int32)) u (fun big n0 => sg_ln_15 big n0 g2 u) ?_
        refine q_call (M2 := 24) (rest := [.int (3 : Int32), .ref 17]) (c_numf (0 : Int32) (9 : Int32) _ _ (show ¬ (g2 11 2) = 0 from (by rw [x2]; exact hc2))) (fun _ _ => rfl) ?_
        refine q_step 13 32 [(0, .ref 11), (1, .int (4 : Int32))] [.int (9 : Int32), .int (0 : Int32), .ref 11, .int (4 : Int32), .ref 17] (q_up (q_up g2 17 2 (0 : Int32)) 17 3 (0 : Int32)) u (fun big n0 => sg_ln_14 big n0 (q_up g2 17 2 (0 : Int32)) u) ?_
        refine q_call (M2 := 24) (rest := [.int (4 : Int32), .ref 17]) (c_numf (0 : Int32) (9 : Int32) _ _ (show ¬ (g2 11 2) = 0 from (by rw [x2]; exact hc2))) (fun _ _ => rfl) ?_
        refine q_ret 7 (none, (q_up (q_up (q_up g2 17 2 (0 : Int32)) 17 3 (0 : Int32)) 17 4 (0 : Int32)), u) (fun _ _ => rfl) ?_
        unfold o_pull
        rw [if_pos (hfl.symm.trans hc0)]
        rw [o_num, if_pos hc1]
        rw [o_num, if_neg hc2]
        exact ⟨_, rfl, k_pc_bad ((((((((k_ft_rfl g).up (by omega)).trans f1.ft).up (by omega)).trans f2.ft).up (by omega)).up (by omega)).up (by omega)) hc2 x2 y2⟩
    · obtain ⟨g1, q1, f1, x1, y1⟩ := c_nume (g := (q_up g 11 6 (1 : Int32))) u (ht.up (by omega) (by omega)) hc1
      refine q_call (M2 := 24) (rest := [.int (1 : Int32), .ref 17]) (q1) (fun _ _ => rfl) ?_
      refine q_step 13 32 [(0, .ref 11), (1, .int (2 : Int32))] [.int (9 : Int32), .int (0 : Int32), .ref 11, .int (2 : Int32), .ref 17] (q_up g1 17 1 (0 : Int32)) u (fun big n0 => sg_ln_16 big n0 g1 u) ?_
      refine q_call (M2 := 24) (rest := [.int (2 : Int32), .ref 17]) (c_numf (0 : Int32) (9 : Int32) _ _ (show ¬ (g1 11 2) = 0 from (by rw [x1]; exact hc1))) (fun _ _ => rfl) ?_
      refine q_step 13 32 [(0, .ref 11), (1, .int (3 : Int32))] [.int (9 : Int32), .int (0 : Int32), .ref 11, .int (3 : Int32), .ref 17] (q_up (q_up g1 17 1 (0 : Int32)) 17 2 (0 : Int32)) u (fun big n0 => sg_ln_15 big n0 (q_up g1 17 1 (0 : Int32)) u) ?_
      refine q_call (M2 := 24) (rest := [.int (3 : Int32), .ref 17]) (c_numf (0 : Int32) (9 : Int32) _ _ (show ¬ (g1 11 2) = 0 from (by rw [x1]; exact hc1))) (fun _ _ => rfl) ?_
      refine q_step 13 32 [(0, .ref 11), (1, .int (4 : Int32))] [.int (9 : Int32), .int (0 : Int32), .ref 11, .int (4 : Int32), .ref 17] (q_up (q_up (q_up g1 17 1 (0 : Int32)) 17 2 (0 : Int32)) 17 3 (0 : Int32)) u (fun big n0 => sg_ln_14 big n0 (q_up (q_up g1 17 1 (0 : Int32)) 17 2 (0 : Int32)) u) ?_
      refine q_call (M2 := 24) (rest := [.int (4 : Int32), .ref 17]) (c_numf (0 : Int32) (9 : Int32) _ _ (show ¬ (g1 11 2) = 0 from (by rw [x1]; exact hc1))) (fun _ _ => rfl) ?_
      refine q_ret 7 (none, (q_up (q_up (q_up (q_up g1 17 1 (0 : Int32)) 17 2 (0 : Int32)) 17 3 (0 : Int32)) 17 4 (0 : Int32)), u) (fun _ _ => rfl) ?_
      unfold o_pull
      rw [if_pos (hfl.symm.trans hc0)]
      rw [o_num, if_neg hc1]
      exact ⟨_, rfl, k_pc_bad (((((((k_ft_rfl g).up (by omega)).trans f1.ft).up (by omega)).up (by omega)).up (by omega)).up (by omega)) hc1 x1 y1⟩
  · refine q_call (M2 := 23) (rest := []) (b_rs1 _ hc0 _ _) (fun _ _ => rfl) ?_
    refine q_step 15 32 [(0, .ref 11), (1, .int (1 : Int32))] [.int (9 : Int32), .int (0 : Int32), .ref 11, .int (1 : Int32), .ref 17] (q_up (q_up (q_up g 11 2 (4 : Int32)) 11 3 (g 9 3)) 11 6 (1 : Int32)) u (fun big n0 => sg_ln_10 big n0 (q_up (q_up g 11 2 (4 : Int32)) 11 3 (g 9 3)) u) ?_
    refine q_call (M2 := 24) (rest := [.int (1 : Int32), .ref 17]) (c_numf (0 : Int32) (9 : Int32) _ _ (show ¬ (4 : Int32) = 0 from (by decide))) (fun _ _ => rfl) ?_
    refine q_step 13 32 [(0, .ref 11), (1, .int (2 : Int32))] [.int (9 : Int32), .int (0 : Int32), .ref 11, .int (2 : Int32), .ref 17] (q_up (q_up (q_up (q_up g 11 2 (4 : Int32)) 11 3 (g 9 3)) 11 6 (1 : Int32)) 17 1 (0 : Int32)) u (fun big n0 => sg_ln_16 big n0 (q_up (q_up (q_up g 11 2 (4 : Int32)) 11 3 (g 9 3)) 11 6 (1 : Int32)) u) ?_
    refine q_call (M2 := 24) (rest := [.int (2 : Int32), .ref 17]) (c_numf (0 : Int32) (9 : Int32) _ _ (show ¬ (4 : Int32) = 0 from (by decide))) (fun _ _ => rfl) ?_
    refine q_step 13 32 [(0, .ref 11), (1, .int (3 : Int32))] [.int (9 : Int32), .int (0 : Int32), .ref 11, .int (3 : Int32), .ref 17] (q_up (q_up (q_up (q_up (q_up g 11 2 (4 : Int32)) 11 3 (g 9 3)) 11 6 (1 : Int32)) 17 1 (0 : Int32)) 17 2 (0 : Int32)) u (fun big n0 => sg_ln_15 big n0 (q_up (q_up (q_up (q_up g 11 2 (4 : Int32)) 11 3 (g 9 3)) 11 6 (1 : Int32)) 17 1 (0 : Int32)) u) ?_
    refine q_call (M2 := 24) (rest := [.int (3 : Int32), .ref 17]) (c_numf (0 : Int32) (9 : Int32) _ _ (show ¬ (4 : Int32) = 0 from (by decide))) (fun _ _ => rfl) ?_
    refine q_step 13 32 [(0, .ref 11), (1, .int (4 : Int32))] [.int (9 : Int32), .int (0 : Int32), .ref 11, .int (4 : Int32), .ref 17] (q_up (q_up (q_up (q_up (q_up (q_up g 11 2 (4 : Int32)) 11 3 (g 9 3)) 11 6 (1 : Int32)) 17 1 (0 : Int32)) 17 2 (0 : Int32)) 17 3 (0 : Int32)) u (fun big n0 => sg_ln_14 big n0 (q_up (q_up (q_up (q_up (q_up g 11 2 (4 : Int32)) 11 3 (g 9 3)) 11 6 (1 : Int32)) 17 1 (0 : Int32)) 17 2 (0 : Int32)) u) ?_
    refine q_call (M2 := 24) (rest := [.int (4 : Int32), .ref 17]) (c_numf (0 : Int32) (9 : Int32) _ _ (show ¬ (4 : Int32) = 0 from (by decide))) (fun _ _ => rfl) ?_
    refine q_ret 7 (none, (q_up (q_up (q_up (q_up (q_up (q_up (q_up g 11 2 (4 : Int32)) 11 3 (g 9 3)) 11 6 (1 : Int32)) 17 1 (0 : Int32)) 17 2 (0 : Int32)) 17 3 (0 : Int32)) 17 4 (0 : Int32)), u) (fun _ _ => rfl) ?_
    unfold o_pull
    rw [if_neg (fun z => hc0 (hfl.trans z))]
    exact ⟨_, rfl, k_pc_bad ((((((((k_ft_rfl g).up (by omega)).up (by omega)).up (by omega)).up (by omega)).up (by omega)).up (by omega)).up (by omega)) (by decide) rfl hf⟩
