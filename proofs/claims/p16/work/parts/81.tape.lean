/-! OUTCOMES keep the draft's bounds, and go on. -/
def k_on (s p : Nat) (o : tO) : Prop := o.1 = 0 → k_dn o.2.2.2 ∧ p ≤ o.2.2.1 ∧ o.2.2.1 ≤ s
theorem k_on_bad {s p a : Nat} {e : Int32} {r : qM} (he : ¬ e = 0) : k_on s p (o_bad e a r) := fun z => absurd z he
theorem k_on_ok {s p p1 : Nat} {r : qM} (hr : k_dn r) (h1 : p ≤ p1) (h2 : p1 ≤ s) : k_on s p (o_ok p1 r) := fun _ => ⟨hr, h1, h2⟩
theorem k_on_num {b : Nat → Int32} {s p0 p : Nat} {lo hi : Int32} {r : qM} {k : Int32 → Nat → tO} (hp : p0 ≤ p) (hs : p ≤ s) (h : ∀ p1, p0 ≤ p1 → p1 ≤ s → k_on s p0 (k (t_va b s p) p1)) : k_on s p0 (o_num b s p lo hi r k) := by
  unfold o_num
  have z := t_pl_b (b := b) hs
  have y := t_fi_b (b := b) hs
  by_cases e : t_er b s p lo hi = 0
  · rw [if_pos e]
    exact h _ (by omega) z.2.1
  · rw [if_neg e]
    exact k_on_bad e
theorem k_on_town {b : Nat → Int32} {s f p : Nat} {r : qM} (hn : k_dn r) (hp : p ≤ s) : k_on s p (o_town b s f p r) := by
  unfold o_town
  split
  · exact k_on_num (Nat.le_refl _) hp (fun p1 h1 h2 => k_on_num h1 h2 (fun p2 h3 h4 => k_on_ok ((hn.fl 0 (by omega)).o rfl rfl) h3 h4))
  · exact k_on_bad (by decide)
theorem k_on_press {b : Nat → Int32} {s f p : Nat} {r : qM} (hn : k_dn r) (hp : p ≤ s) : k_on s p (o_press b s f p r) := by
  unfold o_press
  split
  · exact k_on_num (Nat.le_refl _) hp (fun p1 h1 h2 => k_on_ok ((hn.fl 2 (by omega)).o rfl rfl) h1 h2)
  · exact k_on_bad (by decide)
theorem k_on_pull {b : Nat → Int32} {s f p : Nat} {r : qM} (hn : k_dn r) (hp : p ≤ s) : k_on s p (o_pull b s f p r) := by
  unfold o_pull
  split
  · exact k_on_num (Nat.le_refl _) hp (fun p1 h1 h2 => k_on_num h1 h2 (fun p2 h3 h4 => k_on_num h3 h4 (fun p3 h5 h6 => k_on_num h5 h6 (fun p4 h7 h8 => k_on_ok ((hn.fl 1 (by omega)).o rfl rfl) h7 h8))))
  · exact k_on_bad (by decide)
theorem k_on_free {b : Nat → Int32} {s p : Nat} {r : qM} {k : Int32 → Nat → qM → tO} (hp : p ≤ s) (h : ∀ c p1, p ≤ p1 → p1 ≤ s → k_on s p (k c p1 (q_up r 70 10 (t_max (r 70 10) c)))) : k_on s p (o_free b s p r k) := by
  unfold o_free
  refine k_on_num (Nat.le_refl _) hp (fun p1 h1 h2 => ?_)
  split
  · split
    · exact h _ p1 h1 h2
    · exact k_on_bad (by decide)
  · exact k_on_bad (by decide)
theorem k_on_wall {b : Nat → Int32} {s p : Nat} {r : qM} (hn : k_dn r) (hp : p ≤ s) : k_on s p (o_wall b s p r) := k_on_free hp (fun c p1 h1 h2 => k_on_ok (hn.o rfl rfl) h1 h2)
theorem k_dn.one {r : qM} (hn : k_dn r) (h5 : t_n r < 5) {r' : qM} (h8 : r' 70 8 = r 70 8 + 1) (h9 : r' 70 9 = r 70 9) : k_dn r' := by
  have e : t_n r' = t_n r + 1 := by
    show (r' 70 8).toInt.toNat = t_n r + 1
    rw [h8, hn.1, k_n1 (by omega)]
  refine ⟨?_, by omega, ?_⟩
  · rw [e, h8, ← q_succ, ← hn.1]
  · rw [h9]
    exact hn.2.2
theorem k_on_one {b : Nat → Int32} {s f p : Nat} {r : qM} {st : Int32} (hn : k_dn r) (hp : p ≤ s) : k_on s p (o_one b s f p r st) := by
  unfold o_one
  by_cases e : r 70 8 < 5
  · rw [if_pos e]
    exact k_on_free hp (fun c p1 h1 h2 => k_on_num h1 h2 (fun p2 h3 h4 => k_on_ok (hn.one (k_n5 hn e) rfl rfl) h3 h4))
  · rw [if_neg e]
    exact k_on_bad (by decide)
theorem k_on_goal {b : Nat → Int32} {s p : Nat} {r : qM} (hn : k_dn r) (hp : p ≤ s) : k_on s p (o_goal b s p r) := by
  unfold o_goal
  refine k_on_num (Nat.le_refl _) hp (fun p1 h1 h2 => ?_)
  split
  · exact k_on_num h1 h2 (fun p2 h3 h4 => k_on_ok (hn.o rfl rfl) h3 h4)
  · exact k_on_bad (by decide)
theorem k_on_line {b : Nat → Int32} {s f p : Nat} {k : Int32} {r : qM} (hn : k_dn r) (hp : p ≤ s) : k_on s p (o_line b s f p k r) := by
  unfold o_line
  by_cases e0 : k = 0
  · rw [if_pos e0]
    exact k_on_bad (by decide)
  rw [if_neg e0]
  by_cases e1 : k = 1
  · rw [if_pos e1]
    by_cases x0 : t_ln b f (p - f) = 0
    · rw [if_pos x0]
      exact k_on_town hn hp
    rw [if_neg x0]
    by_cases x1 : t_ln b f (p - f) = 1
    · rw [if_pos x1]
      exact k_on_pull hn hp
    rw [if_neg x1]
    by_cases x2 : t_ln b f (p - f) = 2
    · rw [if_pos x2]
      exact k_on_press hn hp
    rw [if_neg x2]
    by_cases x3 : t_ln b f (p - f) = 3
    · rw [if_pos x3]
      exact k_on_wall hn hp
    rw [if_neg x3]
    by_cases x4 : t_ln b f (p - f) = 4
    · rw [if_pos x4]
      exact k_on_one hn hp
    rw [if_neg x4]
    by_cases x5 : t_ln b f (p - f) = 5
    · rw [if_pos x5]
      exact k_on_one hn hp
    rw [if_neg x5]
    by_cases x6 : t_ln b f (p - f) = 6
    · rw [if_pos x6]
      exact k_on_goal hn hp
    rw [if_neg x6]
    exact k_on_bad (by decide)
  · rw [if_neg e1]
    exact k_on_bad (by decide)
theorem k_on_fin {b : Nat → Int32} {s p : Nat} {o : tO} (h : k_on s p o) : k_on s p (o_fin b s o) := by
  unfold o_fin
  by_cases e : o.1 = 0
  · rw [if_pos e]
    have z := h e
    have y := t_pl_b (b := b) z.2.2
    have x := t_fi_b (b := b) z.2.2
    split
    · exact k_on_ok z.1 (by omega) y.2.1
    · rename_i e2
      exact k_on_bad e2
  · rw [if_neg e]
    exact h
/-- the whole tape from p on: its outcome and its lines -/
def o_tape (b : Nat → Int32) (s : Nat) : Nat → Nat → Nat → qM → tO × Nat
  | 0, p, m, r => (o_ok p r, m)
  | k + 1, p, m, r => if t_ki b s p = 4 then (o_ok p r, m) else if (o_fin b s (o_line b s (t_fi b s p) (t_pl b s p) (t_ki b s p) r)).1 = 0 then o_tape b s k (o_fin b s (o_line b s (t_fi b s p) (t_pl b s p) (t_ki b s p) r)).2.2.1 (m + 1) (o_fin b s (o_line b s (t_fi b s p) (t_pl b s p) (t_ki b s p) r)).2.2.2 else (o_fin b s (o_line b s (t_fi b s p) (t_pl b s p) (t_ki b s p) r), m + 1)

