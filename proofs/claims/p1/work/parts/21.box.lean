/-! THE BOXES (printed by wip/gen/gen21.py): for each call, boxes that cover all of its arguments. -/
def bx_cov (lo : Int) : List am_I → Bool
  | [] => decide (lo = 2147483648)
  | b :: r => decide (b.1 = lo) && bx_cov (b.2 + 1) r
theorem bx_cov_ok : ∀ (l : List am_I) (lo : Int), bx_cov lo l = true → ∀ x : Int, lo ≤ x → x ≤ 2147483647 → ∃ b ∈ l, b.1 ≤ x ∧ x ≤ b.2
  | [], lo, h, x, h1, h2 => by
    have e : lo = 2147483648 := of_decide_eq_true h
    omega
  | b :: r, lo, h, x, h1, h2 => by
    have h3 : decide (b.1 = lo) = true ∧ bx_cov (b.2 + 1) r = true := by rw [← Bool.and_eq_true]; exact h
    have e : b.1 = lo := of_decide_eq_true h3.1
    by_cases hx : x ≤ b.2
    · exact ⟨b, List.mem_cons_self, by omega, hx⟩
    · obtain ⟨c, hc, hd⟩ := bx_cov_ok r (b.2 + 1) h3.2 x (by omega) h2
      exact ⟨c, List.mem_cons_of_mem _ hc, hd⟩
theorem bx_in {l : List am_I} (h : bx_cov (-2147483648) l = true) (x : Int32) : ∃ b ∈ l, am_i b x := by
  have hr := am_i.rng x
  obtain ⟨b, hb, h1⟩ := bx_cov_ok l _ h x.toInt hr.1 hr.2
  exact ⟨b, hb, h1⟩
def bx_A (k : Int) (l1 l2 l3 l4 : List am_I) : Prop := ∀ b1 ∈ l1, ∀ b2 ∈ l2, ∀ b3 ∈ l3, ∀ b4 ∈ l4, bx k b1 b2 b3 b4 = true
theorem bx_all {k : Int} {l1 l2 l3 l4 : List am_I} (h : (l1.all fun b1 => l2.all fun b2 => l3.all fun b3 => l4.all fun b4 => bx k b1 b2 b3 b4) = true) : bx_A k l1 l2 l3 l4 := fun b1 h1 b2 h2 b3 h3 b4 h4 => List.all_eq_true.mp (List.all_eq_true.mp (List.all_eq_true.mp (List.all_eq_true.mp h b1 h1) b2 h2) b3 h3) b4 h4
theorem bx_app1 {k : Int} {l1 m1 l2 l3 l4 : List am_I} (h : bx_A k l1 l2 l3 l4) (h' : bx_A k m1 l2 l3 l4) : bx_A k (l1 ++ m1) l2 l3 l4 := fun b1 h1 => (List.mem_append.mp h1).elim (h b1) (h' b1)
theorem bx_app2 {k : Int} {l1 l2 m2 l3 l4 : List am_I} (h : bx_A k l1 l2 l3 l4) (h' : bx_A k l1 m2 l3 l4) : bx_A k l1 (l2 ++ m2) l3 l4 := fun b1 h1 b2 h2 => (List.mem_append.mp h2).elim (fun q => h b1 h1 b2 q) (fun q => h' b1 h1 b2 q)
theorem bx_app3 {k : Int} {l1 l2 l3 m3 l4 : List am_I} (h : bx_A k l1 l2 l3 l4) (h' : bx_A k l1 l2 m3 l4) : bx_A k l1 l2 (l3 ++ m3) l4 := fun b1 h1 b2 h2 b3 h3 => (List.mem_append.mp h3).elim (fun q => h b1 h1 b2 h2 b3 q) (fun q => h' b1 h1 b2 h2 b3 q)
