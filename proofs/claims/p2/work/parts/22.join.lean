/-! a contract out of others: its cells cut, each piece by one of them -/
noncomputable def vm_jn (X : List vm_X) (q : vm_Q) (qs : List vm_Q) : Bool := vm_all (fun s => vm_any (fun p => Nat.beq p.1 q.1 && (leL leV q.2.1 p.2.1 && (leH s.2 p.2.2.1 && vm_all (fun R => vm_any (leR R) q.2.2.2) p.2.2.2))) qs) (vm_cuts X ([], q.2.2.1))
theorem vm_join {L : Nat} {q : vm_Q} {X : List vm_X} {qs : List vm_Q} (hqs : ∀ p ∈ qs, vm_at L p) (hj : vm_jn X q qs = true) : vm_at L q := by
  intro xs d hd cs hc h1 h2
  obtain ⟨t, ht, _, q2⟩ := vm_cuts_ok (lv := []) X ([], q.2.2.1) trivial h2
  obtain ⟨p, hp, he⟩ := vm_any_ok (vm_all_ok hj t ht)
  simp only [Bool.and_eq_true] at he
  obtain ⟨e1, e2, e3, e4⟩ := he
  obtain ⟨r, hr, Ra, hRa, hR⟩ := hqs p hp xs d hd cs hc (leL_ok (R := am_v) (fun _ _ _ => leV_ok) e2 h1) (leH_ok e3 q2)
  obtain ⟨Rb, hRb, hle⟩ := vm_any_ok (vm_all_ok e4 Ra hRa)
  refine ⟨r, ?_, Rb, hRb, leR_ok hle hR⟩
  rw [← Nat.eq_of_beq_eq_true e1]
  exact hr
/-- a chain of them: the last by itself, each other by its own first piece and the next -/
theorem vm_chain {L n : Nat} {q p : Nat → vm_Q} {X : Nat → List vm_X} (hp : ∀ s, s < n + 1 → vm_at L (p s)) (hl : vm_jn [] (q n) [p n] = true) (hs : vm_rng (fun s => vm_jn (X s) (q s) [p s, q (s + 1)]) 0 n = true) : ∀ k s, s + k = n → vm_at L (q s)
  | 0, s, e => by
    have e1 : s = n := by omega
    subst e1
    exact vm_join (fun p' h => by rw [List.mem_singleton.mp h]; exact hp s (by omega)) hl
  | k + 1, s, e => by
    have ih := vm_chain hp hl hs k (s + 1) (by omega)
    refine vm_join (fun p' h => ?_) (vm_rng_ok hs s (by omega) (by omega))
    rcases List.mem_cons.mp h with rfl | h
    · exact hp s (by omega)
    · rw [List.mem_singleton.mp h]
      exact ih
