/-! THE LAW, call by call, in the pure machine -/
def la_L (i : Int32) : pm_L := [(0, .ref 0), (1, .ref 8), (2, .ref 70), (3, .int i)]
noncomputable def la_R (xs : List Int32) (bc : Nat → List Value → pm_H → pm_R) (n pc : Nat) (i : Int32) (st : List Value) (h : pm_H) : pm_R := pm_run xs pm_m bc m_0 n pc (la_L i) st h 80 1467
noncomputable def la_post (q : vm_Q) : Bool := vm_all (fun R => (match R.1 with
  | some (.inl _) => true
  | _ => false) && leH R.2 (80, [])) q.2.2.2
noncomputable def la_postl (q : vm_Q) : Bool := vm_all (fun R => (match R.1 with
  | some (.inr (.inl _)) => true
  | _ => false) && leH R.2 (80, [])) q.2.2.2
theorem la_use {q : vm_Q} (hq : vm_at 40 q) (hp : la_post q = true) {xs : List Int32} {d : Nat} (hd : 40 ≤ d) {cs : List Value} {h : pm_H} (hh : am_h q.2.2.1 h) (ha : am_all am_v q.2.1 cs) : ∃ (v : Int32) (h' : pm_H), pm_big xs pm_m vm_lim d q.1 cs h = some (some (.int v), h') ∧ am_h (80, []) h' := by
  obtain ⟨⟨v, h'⟩, hr, ⟨o, g⟩, hRa, hR⟩ := hq xs d hd cs h ha hh
  have h1 := vm_all_ok hp _ hRa
  rw [Bool.and_eq_true] at h1
  have h2 := leH_ok h1.2 hR.2
  have h3 : am_o o v := hR.1
  have h4 := h1.1
  dsimp only at h4
  match o, v, h3, h4, hr with
  | some (.inl a), some (.int x), _, _, hr => exact ⟨x, h', hr, h2⟩
  | some (.inl a), some (.long _), h3, _, _ => exact h3.elim
  | some (.inl a), some (.float _), h3, _, _ => exact h3.elim
  | some (.inl a), some (.double _), h3, _, _ => exact h3.elim
  | some (.inl a), some .null, h3, _, _ => exact h3.elim
  | some (.inl a), some (.ref _), h3, _, _ => exact h3.elim
  | some (.inl a), some (.retAddr _), h3, _, _ => exact h3.elim
  | some (.inl a), none, h3, _, _ => exact h3.elim
theorem la_usel {q : vm_Q} (hq : vm_at 40 q) (hp : la_postl q = true) {xs : List Int32} {d : Nat} (hd : 40 ≤ d) {cs : List Value} {h : pm_H} (hh : am_h q.2.2.1 h) (ha : am_all am_v q.2.1 cs) : ∃ (v : Int64) (h' : pm_H), pm_big xs pm_m vm_lim d q.1 cs h = some (some (.long v), h') ∧ am_h (80, []) h' := by
  obtain ⟨⟨v, h'⟩, hr, ⟨o, g⟩, hRa, hR⟩ := hq xs d hd cs h ha hh
  have h1 := vm_all_ok hp _ hRa
  rw [Bool.and_eq_true] at h1
  have h2 := leH_ok h1.2 hR.2
  have h3 : am_o o v := hR.1
  have h4 := h1.1
  dsimp only at h4
  match o, v, h3, h4, hr with
  | some (.inr (.inl a)), some (.long x), _, _, hr => exact ⟨x, h', hr, h2⟩
  | some (.inr (.inl a)), some (.int _), h3, _, _ => exact h3.elim
  | some (.inr (.inl a)), some (.float _), h3, _, _ => exact h3.elim
  | some (.inr (.inl a)), some (.double _), h3, _, _ => exact h3.elim
  | some (.inr (.inl a)), some .null, h3, _, _ => exact h3.elim
  | some (.inr (.inl a)), some (.ref _), h3, _, _ => exact h3.elim
  | some (.inr (.inl a)), some (.retAddr _), h3, _, _ => exact h3.elim
  | some (.inr (.inl a)), none, h3, _, _ => exact h3.elim
theorem la_val {q : vm_Q} {a : Int} {g : am_H} (hq : vm_at 40 q) (he : q.2.2.2 = [(some (.inl (a, a)), g)]) (hg : leH g (80, []) = true) {xs : List Int32} {d : Nat} (hd : 40 ≤ d) {cs : List Value} {h : pm_H} (hh : am_h q.2.2.1 h) (ha : am_all am_v q.2.1 cs) : ∃ h', pm_big xs pm_m vm_lim d q.1 cs h = some (some (.int (Int32.ofInt a)), h') ∧ am_h (80, []) h' := by
  obtain ⟨⟨v, h'⟩, hr, Ra, hRa, hR⟩ := hq xs d hd cs h ha hh
  rw [he] at hRa
  obtain rfl := List.mem_singleton.mp hRa
  refine ⟨h', ?_, leH_ok hg hR.2⟩
  match v, hr, hR.1 with
  | some (.int x), hr, h1 =>
    rw [am_i.of (show am_i (a, a) x from h1) rfl] at hr
    exact hr
  | some (.long _), _, h1 => exact h1.elim
  | some (.float _), _, h1 => exact h1.elim
  | some (.double _), _, h1 => exact h1.elim
  | some .null, _, h1 => exact h1.elim
  | some (.ref _), _, h1 => exact h1.elim
  | some (.retAddr _), _, h1 => exact h1.elim
  | none, _, h1 => exact h1.elim
theorem la_obj {h : pm_H} (hh : am_h (80, []) h) {i ci : Nat} {fs : List am_V} (hb : am_base i = some (.inr (.inr (.inr (ci, fs))))) (hi : i < 80) : ∃ gs, pm_cell h (i + 8) = some (.inr (.inr (.inr (ci, gs)))) := by
  obtain ⟨D, hD, hc⟩ := am_cell_ok (a := i + 8) hh (by unfold am_cell; rw [if_neg (by omega)]; unfold am_g; rw [if_pos (show i + 8 - 8 < 80 by omega)]; exact hb)
  obtain ⟨m, rfl, _⟩ := ac_o hc
  exact ⟨m, hD⟩
section Law
variable {xs : List Int32} {bc : Nat → List Value → pm_H → pm_R} {i : Int32}
theorem la_arg {n p : Nat} {j x : Int32} {st : List Value} {h : pm_H} {a b : Nat} {z : Int} (he : pm_at m_0 p = some (.iaload, a, b, z)) (hj : ¬ j < 0) (hx : xs[j.toNatClampNeg]? = some x) : la_R xs bc (n + 1) p i (.int j :: .ref 0 :: st) h = la_R xs bc n (p + 1) i (.int x :: st) h := by
  show (match pm_at m_0 p with
    | some e => pm_step xs pm_m bc m_0 (pm_run xs pm_m bc m_0 n) e p (la_L i) (.int j :: .ref 0 :: st) h 80 1467
    | none => none) = _
  rw [he]
  show pm_iald (pm_run xs pm_m bc m_0 n) xs p (la_L i) (.int j :: .ref 0 :: st) h 80 1467 = _
  unfold pm_iald
  dsimp only
  rw [if_neg hj, if_pos rfl, hx]
  rfl
theorem la_call {n p k M2 a ix : Nat} {z : Int} {m2 : pm_M} {st as rest : List Value} {h h' : pm_H} {v : Value} (he : pm_at m_0 p = some (.invokevirtual ix, M2, 0, z)) (hm : pm_m M2 = some m2) (hk : pm_n m2 = k) (hlen : k ≤ st.length) (hst : (st.take k).reverse = .ref a :: as) (hrest : st.drop k = rest) (hcell : ∃ gs, pm_cell h a = some (.inr (.inr (.inr (pm_o m2, gs))))) (hc : pm_c m2 = 0) (hs : pm_s m2 = 0) (hsum : (rest.map Value.category).sum ≤ 8) (hb : bc M2 (.ref a :: as) h = some (some v, h')) : la_R xs bc (n + 1) p i st h = la_R xs bc n (p + 3) i (v :: rest) h' := by
  show (match pm_at m_0 p with
    | some e => pm_step xs pm_m bc m_0 (pm_run xs pm_m bc m_0 n) e p (la_L i) st h 80 1467
    | none => none) = _
  rw [he]
  show (if (0 : Nat) = 0 then pm_inv (pm_run xs pm_m bc m_0 n) pm_m bc m_0 M2 p (la_L i) st h 80 1467 else none) = _
  rw [if_pos rfl]
  unfold pm_inv
  rw [hm]
  dsimp only
  obtain ⟨gs, hcell⟩ := hcell
  rw [hk, if_pos hlen, hst]
  dsimp only
  rw [hcell]
  dsimp only
  rw [if_pos rfl]
  unfold pm_call
  rw [hrest, hc, hs, if_pos hsum, if_pos (show 80 + 0 ≤ pm_c m_0 by decide), if_pos (show 1467 + 0 ≤ pm_s m_0 by decide), hb]
  rfl
end Law
theorem la_b01 {x : Int32} (h : x = 0 ∨ x = 1) : am_i (.ofNat 0, .ofNat 1) x := by
  rcases h with rfl | rfl
  · exact ⟨by decide, by decide⟩
  · exact ⟨by decide, by decide⟩
theorem lc_sheet {xs : List Int32} {d : Nat} (hd : 40 ≤ d) {h : pm_H} (hh : am_h (80, []) h) (x1 x2 x3 : Int32) : ∃ (v : Int32) (h1 h2 : pm_H), pm_big xs pm_m vm_lim d 130 [.ref 8, .int x1, .int x2, .int x3] h = some (some (.int v), h1) ∧ am_h (80, []) h1 ∧ pm_big xs pm_m vm_lim d 219 [.ref 70, .int x1, .int x2, .int x3] h1 = some (some (.int v), h2) ∧ am_h (80, []) h2 := by
  have r1 := am_i.rng x1
  have r2 := am_i.rng x2
  have r3 := am_i.rng x3
  by_cases k2 : x1.toInt ≤ (-1 : Int)
  · skip
    by_cases k4 : x2.toInt ≤ (-1 : Int)
    · skip
      by_cases k6 : x3.toInt ≤ (-1 : Int)
      · skip
        obtain ⟨h1, e1, g1⟩ := la_val (a := (-1)) (cs := [.ref 8, .int x1, .int x2, .int x3]) (vm_up v_3512 rfl) rfl (by decide +kernel) hd hh ⟨rfl, (show (-2147483648 : Int) ≤ x1.toInt ∧ x1.toInt ≤ (-1 : Int) by omega), (show (-2147483648 : Int) ≤ x2.toInt ∧ x2.toInt ≤ (-1 : Int) by omega), (show (-2147483648 : Int) ≤ x3.toInt ∧ x3.toInt ≤ (-1 : Int) by omega), trivial⟩
        obtain ⟨h2, e2, g2⟩ := la_val (a := (-1)) (cs := [.ref 70, .int x1, .int x2, .int x3]) (vm_up v_3514 rfl) rfl (by decide +kernel) hd g1 ⟨rfl, (show (-2147483648 : Int) ≤ x1.toInt ∧ x1.toInt ≤ (-1 : Int) by omega), (show (-2147483648 : Int) ≤ x2.toInt ∧ x2.toInt ≤ (-1 : Int) by omega), (show (-2147483648 : Int) ≤ x3.toInt ∧ x3.toInt ≤ (-1 : Int) by omega), trivial⟩
        exact ⟨_, h1, h2, e1, g1, e2, g2⟩
      by_cases k6 : x3.toInt ≤ (40 : Int)
      · skip
        obtain ⟨h1, e1, g1⟩ := la_val (a := (-1)) (cs := [.ref 8, .int x1, .int x2, .int x3]) (vm_up v_3515 rfl) rfl (by decide +kernel) hd hh ⟨rfl, (show (-2147483648 : Int) ≤ x1.toInt ∧ x1.toInt ≤ (-1 : Int) by omega), (show (-2147483648 : Int) ≤ x2.toInt ∧ x2.toInt ≤ (-1 : Int) by omega), (show (0 : Int) ≤ x3.toInt ∧ x3.toInt ≤ (40 : Int) by omega), trivial⟩
        obtain ⟨h2, e2, g2⟩ := la_val (a := (-1)) (cs := [.ref 70, .int x1, .int x2, .int x3]) (vm_up v_3516 rfl) rfl (by decide +kernel) hd g1 ⟨rfl, (show (-2147483648 : Int) ≤ x1.toInt ∧ x1.toInt ≤ (-1 : Int) by omega), (show (-2147483648 : Int) ≤ x2.toInt ∧ x2.toInt ≤ (-1 : Int) by omega), (show (0 : Int) ≤ x3.toInt ∧ x3.toInt ≤ (40 : Int) by omega), trivial⟩
        exact ⟨_, h1, h2, e1, g1, e2, g2⟩
      obtain ⟨h1, e1, g1⟩ := la_val (a := (-1)) (cs := [.ref 8, .int x1, .int x2, .int x3]) (vm_up v_3517 rfl) rfl (by decide +kernel) hd hh ⟨rfl, (show (-2147483648 : Int) ≤ x1.toInt ∧ x1.toInt ≤ (-1 : Int) by omega), (show (-2147483648 : Int) ≤ x2.toInt ∧ x2.toInt ≤ (-1 : Int) by omega), (show (41 : Int) ≤ x3.toInt ∧ x3.toInt ≤ (2147483647 : Int) by omega), trivial⟩
      obtain ⟨h2, e2, g2⟩ := la_val (a := (-1)) (cs := [.ref 70, .int x1, .int x2, .int x3]) (vm_up v_3518 rfl) rfl (by decide +kernel) hd g1 ⟨rfl, (show (-2147483648 : Int) ≤ x1.toInt ∧ x1.toInt ≤ (-1 : Int) by omega), (show (-2147483648 : Int) ≤ x2.toInt ∧ x2.toInt ≤ (-1 : Int) by omega), (show (41 : Int) ≤ x3.toInt ∧ x3.toInt ≤ (2147483647 : Int) by omega), trivial⟩
      exact ⟨_, h1, h2, e1, g1, e2, g2⟩
    by_cases k4 : x2.toInt ≤ (2 : Int)
    · skip
      by_cases k6 : x3.toInt ≤ (-1 : Int)
      · skip
        obtain ⟨h1, e1, g1⟩ := la_val (a := (-1)) (cs := [.ref 8, .int x1, .int x2, .int x3]) (vm_up v_3519 rfl) rfl (by decide +kernel) hd hh ⟨rfl, (show (-2147483648 : Int) ≤ x1.toInt ∧ x1.toInt ≤ (-1 : Int) by omega), (show (0 : Int) ≤ x2.toInt ∧ x2.toInt ≤ (2 : Int) by omega), (show (-2147483648 : Int) ≤ x3.toInt ∧ x3.toInt ≤ (-1 : Int) by omega), trivial⟩
        obtain ⟨h2, e2, g2⟩ := la_val (a := (-1)) (cs := [.ref 70, .int x1, .int x2, .int x3]) (vm_up v_3521 rfl) rfl (by decide +kernel) hd g1 ⟨rfl, (show (-2147483648 : Int) ≤ x1.toInt ∧ x1.toInt ≤ (-1 : Int) by omega), (show (0 : Int) ≤ x2.toInt ∧ x2.toInt ≤ (2 : Int) by omega), (show (-2147483648 : Int) ≤ x3.toInt ∧ x3.toInt ≤ (-1 : Int) by omega), trivial⟩
        exact ⟨_, h1, h2, e1, g1, e2, g2⟩
      by_cases k6 : x3.toInt ≤ (40 : Int)
      · skip
        obtain ⟨h1, e1, g1⟩ := la_val (a := (-1)) (cs := [.ref 8, .int x1, .int x2, .int x3]) (vm_up v_3522 rfl) rfl (by decide +kernel) hd hh ⟨rfl, (show (-2147483648 : Int) ≤ x1.toInt ∧ x1.toInt ≤ (-1 : Int) by omega), (show (0 : Int) ≤ x2.toInt ∧ x2.toInt ≤ (2 : Int) by omega), (show (0 : Int) ≤ x3.toInt ∧ x3.toInt ≤ (40 : Int) by omega), trivial⟩
        obtain ⟨h2, e2, g2⟩ := la_val (a := (-1)) (cs := [.ref 70, .int x1, .int x2, .int x3]) (vm_up v_3523 rfl) rfl (by decide +kernel) hd g1 ⟨rfl, (show (-2147483648 : Int) ≤ x1.toInt ∧ x1.toInt ≤ (-1 : Int) by omega), (show (0 : Int) ≤ x2.toInt ∧ x2.toInt ≤ (2 : Int) by omega), (show (0 : Int) ≤ x3.toInt ∧ x3.toInt ≤ (40 : Int) by omega), trivial⟩
        exact ⟨_, h1, h2, e1, g1, e2, g2⟩
      obtain ⟨h1, e1, g1⟩ := la_val (a := (-1)) (cs := [.ref 8, .int x1, .int x2, .int x3]) (vm_up v_3524 rfl) rfl (by decide +kernel) hd hh ⟨rfl, (show (-2147483648 : Int) ≤ x1.toInt ∧ x1.toInt ≤ (-1 : Int) by omega), (show (0 : Int) ≤ x2.toInt ∧ x2.toInt ≤ (2 : Int) by omega), (show (41 : Int) ≤ x3.toInt ∧ x3.toInt ≤ (2147483647 : Int) by omega), trivial⟩
      obtain ⟨h2, e2, g2⟩ := la_val (a := (-1)) (cs := [.ref 70, .int x1, .int x2, .int x3]) (vm_up v_3525 rfl) rfl (by decide +kernel) hd g1 ⟨rfl, (show (-2147483648 : Int) ≤ x1.toInt ∧ x1.toInt ≤ (-1 : Int) by omega), (show (0 : Int) ≤ x2.toInt ∧ x2.toInt ≤ (2 : Int) by omega), (show (41 : Int) ≤ x3.toInt ∧ x3.toInt ≤ (2147483647 : Int) by omega), trivial⟩
      exact ⟨_, h1, h2, e1, g1, e2, g2⟩
    by_cases k4 : x3.toInt ≤ (-1 : Int)
    · skip
      obtain ⟨h1, e1, g1⟩ := la_val (a := (-1)) (cs := [.ref 8, .int x1, .int x2, .int x3]) (vm_up v_3526 rfl) rfl (by decide +kernel) hd hh ⟨rfl, (show (-2147483648 : Int) ≤ x1.toInt ∧ x1.toInt ≤ (-1 : Int) by omega), (show (3 : Int) ≤ x2.toInt ∧ x2.toInt ≤ (2147483647 : Int) by omega), (show (-2147483648 : Int) ≤ x3.toInt ∧ x3.toInt ≤ (-1 : Int) by omega), trivial⟩
      obtain ⟨h2, e2, g2⟩ := la_val (a := (-1)) (cs := [.ref 70, .int x1, .int x2, .int x3]) (vm_up v_3528 rfl) rfl (by decide +kernel) hd g1 ⟨rfl, (show (-2147483648 : Int) ≤ x1.toInt ∧ x1.toInt ≤ (-1 : Int) by omega), (show (3 : Int) ≤ x2.toInt ∧ x2.toInt ≤ (2147483647 : Int) by omega), (show (-2147483648 : Int) ≤ x3.toInt ∧ x3.toInt ≤ (-1 : Int) by omega), trivial⟩
      exact ⟨_, h1, h2, e1, g1, e2, g2⟩
    by_cases k4 : x3.toInt ≤ (40 : Int)
    · skip
      obtain ⟨h1, e1, g1⟩ := la_val (a := (-1)) (cs := [.ref 8, .int x1, .int x2, .int x3]) (vm_up v_3529 rfl) rfl (by decide +kernel) hd hh ⟨rfl, (show (-2147483648 : Int) ≤ x1.toInt ∧ x1.toInt ≤ (-1 : Int) by omega), (show (3 : Int) ≤ x2.toInt ∧ x2.toInt ≤ (2147483647 : Int) by omega), (show (0 : Int) ≤ x3.toInt ∧ x3.toInt ≤ (40 : Int) by omega), trivial⟩
      obtain ⟨h2, e2, g2⟩ := la_val (a := (-1)) (cs := [.ref 70, .int x1, .int x2, .int x3]) (vm_up v_3530 rfl) rfl (by decide +kernel) hd g1 ⟨rfl, (show (-2147483648 : Int) ≤ x1.toInt ∧ x1.toInt ≤ (-1 : Int) by omega), (show (3 : Int) ≤ x2.toInt ∧ x2.toInt ≤ (2147483647 : Int) by omega), (show (0 : Int) ≤ x3.toInt ∧ x3.toInt ≤ (40 : Int) by omega), trivial⟩
      exact ⟨_, h1, h2, e1, g1, e2, g2⟩
    obtain ⟨h1, e1, g1⟩ := la_val (a := (-1)) (cs := [.ref 8, .int x1, .int x2, .int x3]) (vm_up v_3531 rfl) rfl (by decide +kernel) hd hh ⟨rfl, (show (-2147483648 : Int) ≤ x1.toInt ∧ x1.toInt ≤ (-1 : Int) by omega), (show (3 : Int) ≤ x2.toInt ∧ x2.toInt ≤ (2147483647 : Int) by omega), (show (41 : Int) ≤ x3.toInt ∧ x3.toInt ≤ (2147483647 : Int) by omega), trivial⟩
    obtain ⟨h2, e2, g2⟩ := la_val (a := (-1)) (cs := [.ref 70, .int x1, .int x2, .int x3]) (vm_up v_3532 rfl) rfl (by decide +kernel) hd g1 ⟨rfl, (show (-2147483648 : Int) ≤ x1.toInt ∧ x1.toInt ≤ (-1 : Int) by omega), (show (3 : Int) ≤ x2.toInt ∧ x2.toInt ≤ (2147483647 : Int) by omega), (show (41 : Int) ≤ x3.toInt ∧ x3.toInt ≤ (2147483647 : Int) by omega), trivial⟩
    exact ⟨_, h1, h2, e1, g1, e2, g2⟩
  by_cases k2 : x1.toInt ≤ (3 : Int)
  · skip
    by_cases k4 : x2.toInt ≤ (-1 : Int)
    · skip
      by_cases k6 : x3.toInt ≤ (-1 : Int)
      · skip
        obtain ⟨h1, e1, g1⟩ := la_val (a := (-1)) (cs := [.ref 8, .int x1, .int x2, .int x3]) (vm_up v_3534 rfl) rfl (by decide +kernel) hd hh ⟨rfl, (show (0 : Int) ≤ x1.toInt ∧ x1.toInt ≤ (3 : Int) by omega), (show (-2147483648 : Int) ≤ x2.toInt ∧ x2.toInt ≤ (-1 : Int) by omega), (show (-2147483648 : Int) ≤ x3.toInt ∧ x3.toInt ≤ (-1 : Int) by omega), trivial⟩
        obtain ⟨h2, e2, g2⟩ := la_val (a := (-1)) (cs := [.ref 70, .int x1, .int x2, .int x3]) (vm_up v_3540 rfl) rfl (by decide +kernel) hd g1 ⟨rfl, (show (0 : Int) ≤ x1.toInt ∧ x1.toInt ≤ (3 : Int) by omega), (show (-2147483648 : Int) ≤ x2.toInt ∧ x2.toInt ≤ (-1 : Int) by omega), (show (-2147483648 : Int) ≤ x3.toInt ∧ x3.toInt ≤ (-1 : Int) by omega), trivial⟩
        exact ⟨_, h1, h2, e1, g1, e2, g2⟩
      by_cases k6 : x3.toInt ≤ (40 : Int)
      · skip
        obtain ⟨h1, e1, g1⟩ := la_val (a := (-1)) (cs := [.ref 8, .int x1, .int x2, .int x3]) (vm_up v_3541 rfl) rfl (by decide +kernel) hd hh ⟨rfl, (show (0 : Int) ≤ x1.toInt ∧ x1.toInt ≤ (3 : Int) by omega), (show (-2147483648 : Int) ≤ x2.toInt ∧ x2.toInt ≤ (-1 : Int) by omega), (show (0 : Int) ≤ x3.toInt ∧ x3.toInt ≤ (40 : Int) by omega), trivial⟩
        obtain ⟨h2, e2, g2⟩ := la_val (a := (-1)) (cs := [.ref 70, .int x1, .int x2, .int x3]) (vm_up v_3542 rfl) rfl (by decide +kernel) hd g1 ⟨rfl, (show (0 : Int) ≤ x1.toInt ∧ x1.toInt ≤ (3 : Int) by omega), (show (-2147483648 : Int) ≤ x2.toInt ∧ x2.toInt ≤ (-1 : Int) by omega), (show (0 : Int) ≤ x3.toInt ∧ x3.toInt ≤ (40 : Int) by omega), trivial⟩
        exact ⟨_, h1, h2, e1, g1, e2, g2⟩
      obtain ⟨h1, e1, g1⟩ := la_val (a := (-1)) (cs := [.ref 8, .int x1, .int x2, .int x3]) (vm_up v_3543 rfl) rfl (by decide +kernel) hd hh ⟨rfl, (show (0 : Int) ≤ x1.toInt ∧ x1.toInt ≤ (3 : Int) by omega), (show (-2147483648 : Int) ≤ x2.toInt ∧ x2.toInt ≤ (-1 : Int) by omega), (show (41 : Int) ≤ x3.toInt ∧ x3.toInt ≤ (2147483647 : Int) by omega), trivial⟩
      obtain ⟨h2, e2, g2⟩ := la_val (a := (-1)) (cs := [.ref 70, .int x1, .int x2, .int x3]) (vm_up v_3544 rfl) rfl (by decide +kernel) hd g1 ⟨rfl, (show (0 : Int) ≤ x1.toInt ∧ x1.toInt ≤ (3 : Int) by omega), (show (-2147483648 : Int) ≤ x2.toInt ∧ x2.toInt ≤ (-1 : Int) by omega), (show (41 : Int) ≤ x3.toInt ∧ x3.toInt ≤ (2147483647 : Int) by omega), trivial⟩
      exact ⟨_, h1, h2, e1, g1, e2, g2⟩
    by_cases k4 : x2.toInt ≤ (2 : Int)
    · skip
      by_cases k6 : x3.toInt ≤ (-1 : Int)
      · skip
        obtain ⟨h1, e1, g1⟩ := la_val (a := (-14)) (cs := [.ref 8, .int x1, .int x2, .int x3]) (vm_up v_3546 rfl) rfl (by decide +kernel) hd hh ⟨rfl, (show (0 : Int) ≤ x1.toInt ∧ x1.toInt ≤ (3 : Int) by omega), (show (0 : Int) ≤ x2.toInt ∧ x2.toInt ≤ (2 : Int) by omega), (show (-2147483648 : Int) ≤ x3.toInt ∧ x3.toInt ≤ (-1 : Int) by omega), trivial⟩
        obtain ⟨h2, e2, g2⟩ := la_val (a := (-14)) (cs := [.ref 70, .int x1, .int x2, .int x3]) (vm_up v_3552 rfl) rfl (by decide +kernel) hd g1 ⟨rfl, (show (0 : Int) ≤ x1.toInt ∧ x1.toInt ≤ (3 : Int) by omega), (show (0 : Int) ≤ x2.toInt ∧ x2.toInt ≤ (2 : Int) by omega), (show (-2147483648 : Int) ≤ x3.toInt ∧ x3.toInt ≤ (-1 : Int) by omega), trivial⟩
        exact ⟨_, h1, h2, e1, g1, e2, g2⟩
      by_cases k6 : x3.toInt ≤ (40 : Int)
      · skip
        obtain ⟨h1, e1, g1⟩ := la_val (a := (1)) (cs := [.ref 8, .int x1, .int x2, .int x3]) (vm_up v_3553 rfl) rfl (by decide +kernel) hd hh ⟨rfl, (show (0 : Int) ≤ x1.toInt ∧ x1.toInt ≤ (3 : Int) by omega), (show (0 : Int) ≤ x2.toInt ∧ x2.toInt ≤ (2 : Int) by omega), (show (0 : Int) ≤ x3.toInt ∧ x3.toInt ≤ (40 : Int) by omega), trivial⟩
        obtain ⟨h2, e2, g2⟩ := la_val (a := (1)) (cs := [.ref 70, .int x1, .int x2, .int x3]) (vm_up v_3554 rfl) rfl (by decide +kernel) hd g1 ⟨rfl, (show (0 : Int) ≤ x1.toInt ∧ x1.toInt ≤ (3 : Int) by omega), (show (0 : Int) ≤ x2.toInt ∧ x2.toInt ≤ (2 : Int) by omega), (show (0 : Int) ≤ x3.toInt ∧ x3.toInt ≤ (40 : Int) by omega), trivial⟩
        exact ⟨_, h1, h2, e1, g1, e2, g2⟩
      obtain ⟨h1, e1, g1⟩ := la_val (a := (-1)) (cs := [.ref 8, .int x1, .int x2, .int x3]) (vm_up v_3555 rfl) rfl (by decide +kernel) hd hh ⟨rfl, (show (0 : Int) ≤ x1.toInt ∧ x1.toInt ≤ (3 : Int) by omega), (show (0 : Int) ≤ x2.toInt ∧ x2.toInt ≤ (2 : Int) by omega), (show (41 : Int) ≤ x3.toInt ∧ x3.toInt ≤ (2147483647 : Int) by omega), trivial⟩
      obtain ⟨h2, e2, g2⟩ := la_val (a := (-1)) (cs := [.ref 70, .int x1, .int x2, .int x3]) (vm_up v_3556 rfl) rfl (by decide +kernel) hd g1 ⟨rfl, (show (0 : Int) ≤ x1.toInt ∧ x1.toInt ≤ (3 : Int) by omega), (show (0 : Int) ≤ x2.toInt ∧ x2.toInt ≤ (2 : Int) by omega), (show (41 : Int) ≤ x3.toInt ∧ x3.toInt ≤ (2147483647 : Int) by omega), trivial⟩
      exact ⟨_, h1, h2, e1, g1, e2, g2⟩
    by_cases k4 : x3.toInt ≤ (-1 : Int)
    · skip
      obtain ⟨h1, e1, g1⟩ := la_val (a := (-1)) (cs := [.ref 8, .int x1, .int x2, .int x3]) (vm_up v_3558 rfl) rfl (by decide +kernel) hd hh ⟨rfl, (show (0 : Int) ≤ x1.toInt ∧ x1.toInt ≤ (3 : Int) by omega), (show (3 : Int) ≤ x2.toInt ∧ x2.toInt ≤ (2147483647 : Int) by omega), (show (-2147483648 : Int) ≤ x3.toInt ∧ x3.toInt ≤ (-1 : Int) by omega), trivial⟩
      obtain ⟨h2, e2, g2⟩ := la_val (a := (-1)) (cs := [.ref 70, .int x1, .int x2, .int x3]) (vm_up v_3564 rfl) rfl (by decide +kernel) hd g1 ⟨rfl, (show (0 : Int) ≤ x1.toInt ∧ x1.toInt ≤ (3 : Int) by omega), (show (3 : Int) ≤ x2.toInt ∧ x2.toInt ≤ (2147483647 : Int) by omega), (show (-2147483648 : Int) ≤ x3.toInt ∧ x3.toInt ≤ (-1 : Int) by omega), trivial⟩
      exact ⟨_, h1, h2, e1, g1, e2, g2⟩
    by_cases k4 : x3.toInt ≤ (40 : Int)
    · skip
      obtain ⟨h1, e1, g1⟩ := la_val (a := (-1)) (cs := [.ref 8, .int x1, .int x2, .int x3]) (vm_up v_3565 rfl) rfl (by decide +kernel) hd hh ⟨rfl, (show (0 : Int) ≤ x1.toInt ∧ x1.toInt ≤ (3 : Int) by omega), (show (3 : Int) ≤ x2.toInt ∧ x2.toInt ≤ (2147483647 : Int) by omega), (show (0 : Int) ≤ x3.toInt ∧ x3.toInt ≤ (40 : Int) by omega), trivial⟩
      obtain ⟨h2, e2, g2⟩ := la_val (a := (-1)) (cs := [.ref 70, .int x1, .int x2, .int x3]) (vm_up v_3566 rfl) rfl (by decide +kernel) hd g1 ⟨rfl, (show (0 : Int) ≤ x1.toInt ∧ x1.toInt ≤ (3 : Int) by omega), (show (3 : Int) ≤ x2.toInt ∧ x2.toInt ≤ (2147483647 : Int) by omega), (show (0 : Int) ≤ x3.toInt ∧ x3.toInt ≤ (40 : Int) by omega), trivial⟩
      exact ⟨_, h1, h2, e1, g1, e2, g2⟩
    obtain ⟨h1, e1, g1⟩ := la_val (a := (-1)) (cs := [.ref 8, .int x1, .int x2, .int x3]) (vm_up v_3567 rfl) rfl (by decide +kernel) hd hh ⟨rfl, (show (0 : Int) ≤ x1.toInt ∧ x1.toInt ≤ (3 : Int) by omega), (show (3 : Int) ≤ x2.toInt ∧ x2.toInt ≤ (2147483647 : Int) by omega), (show (41 : Int) ≤ x3.toInt ∧ x3.toInt ≤ (2147483647 : Int) by omega), trivial⟩
    obtain ⟨h2, e2, g2⟩ := la_val (a := (-1)) (cs := [.ref 70, .int x1, .int x2, .int x3]) (vm_up v_3568 rfl) rfl (by decide +kernel) hd g1 ⟨rfl, (show (0 : Int) ≤ x1.toInt ∧ x1.toInt ≤ (3 : Int) by omega), (show (3 : Int) ≤ x2.toInt ∧ x2.toInt ≤ (2147483647 : Int) by omega), (show (41 : Int) ≤ x3.toInt ∧ x3.toInt ≤ (2147483647 : Int) by omega), trivial⟩
    exact ⟨_, h1, h2, e1, g1, e2, g2⟩
  by_cases k2 : x2.toInt ≤ (-1 : Int)
  · skip
    by_cases k4 : x3.toInt ≤ (-1 : Int)
    · skip
      obtain ⟨h1, e1, g1⟩ := la_val (a := (-1)) (cs := [.ref 8, .int x1, .int x2, .int x3]) (vm_up v_3569 rfl) rfl (by decide +kernel) hd hh ⟨rfl, (show (4 : Int) ≤ x1.toInt ∧ x1.toInt ≤ (2147483647 : Int) by omega), (show (-2147483648 : Int) ≤ x2.toInt ∧ x2.toInt ≤ (-1 : Int) by omega), (show (-2147483648 : Int) ≤ x3.toInt ∧ x3.toInt ≤ (-1 : Int) by omega), trivial⟩
      obtain ⟨h2, e2, g2⟩ := la_val (a := (-1)) (cs := [.ref 70, .int x1, .int x2, .int x3]) (vm_up v_3571 rfl) rfl (by decide +kernel) hd g1 ⟨rfl, (show (4 : Int) ≤ x1.toInt ∧ x1.toInt ≤ (2147483647 : Int) by omega), (show (-2147483648 : Int) ≤ x2.toInt ∧ x2.toInt ≤ (-1 : Int) by omega), (show (-2147483648 : Int) ≤ x3.toInt ∧ x3.toInt ≤ (-1 : Int) by omega), trivial⟩
      exact ⟨_, h1, h2, e1, g1, e2, g2⟩
    by_cases k4 : x3.toInt ≤ (40 : Int)
    · skip
      obtain ⟨h1, e1, g1⟩ := la_val (a := (-1)) (cs := [.ref 8, .int x1, .int x2, .int x3]) (vm_up v_3572 rfl) rfl (by decide +kernel) hd hh ⟨rfl, (show (4 : Int) ≤ x1.toInt ∧ x1.toInt ≤ (2147483647 : Int) by omega), (show (-2147483648 : Int) ≤ x2.toInt ∧ x2.toInt ≤ (-1 : Int) by omega), (show (0 : Int) ≤ x3.toInt ∧ x3.toInt ≤ (40 : Int) by omega), trivial⟩
      obtain ⟨h2, e2, g2⟩ := la_val (a := (-1)) (cs := [.ref 70, .int x1, .int x2, .int x3]) (vm_up v_3573 rfl) rfl (by decide +kernel) hd g1 ⟨rfl, (show (4 : Int) ≤ x1.toInt ∧ x1.toInt ≤ (2147483647 : Int) by omega), (show (-2147483648 : Int) ≤ x2.toInt ∧ x2.toInt ≤ (-1 : Int) by omega), (show (0 : Int) ≤ x3.toInt ∧ x3.toInt ≤ (40 : Int) by omega), trivial⟩
      exact ⟨_, h1, h2, e1, g1, e2, g2⟩
    obtain ⟨h1, e1, g1⟩ := la_val (a := (-1)) (cs := [.ref 8, .int x1, .int x2, .int x3]) (vm_up v_3574 rfl) rfl (by decide +kernel) hd hh ⟨rfl, (show (4 : Int) ≤ x1.toInt ∧ x1.toInt ≤ (2147483647 : Int) by omega), (show (-2147483648 : Int) ≤ x2.toInt ∧ x2.toInt ≤ (-1 : Int) by omega), (show (41 : Int) ≤ x3.toInt ∧ x3.toInt ≤ (2147483647 : Int) by omega), trivial⟩
    obtain ⟨h2, e2, g2⟩ := la_val (a := (-1)) (cs := [.ref 70, .int x1, .int x2, .int x3]) (vm_up v_3575 rfl) rfl (by decide +kernel) hd g1 ⟨rfl, (show (4 : Int) ≤ x1.toInt ∧ x1.toInt ≤ (2147483647 : Int) by omega), (show (-2147483648 : Int) ≤ x2.toInt ∧ x2.toInt ≤ (-1 : Int) by omega), (show (41 : Int) ≤ x3.toInt ∧ x3.toInt ≤ (2147483647 : Int) by omega), trivial⟩
    exact ⟨_, h1, h2, e1, g1, e2, g2⟩
  by_cases k2 : x2.toInt ≤ (2 : Int)
  · skip
    by_cases k4 : x3.toInt ≤ (-1 : Int)
    · skip
      obtain ⟨h1, e1, g1⟩ := la_val (a := (-1)) (cs := [.ref 8, .int x1, .int x2, .int x3]) (vm_up v_3576 rfl) rfl (by decide +kernel) hd hh ⟨rfl, (show (4 : Int) ≤ x1.toInt ∧ x1.toInt ≤ (2147483647 : Int) by omega), (show (0 : Int) ≤ x2.toInt ∧ x2.toInt ≤ (2 : Int) by omega), (show (-2147483648 : Int) ≤ x3.toInt ∧ x3.toInt ≤ (-1 : Int) by omega), trivial⟩
      obtain ⟨h2, e2, g2⟩ := la_val (a := (-1)) (cs := [.ref 70, .int x1, .int x2, .int x3]) (vm_up v_3578 rfl) rfl (by decide +kernel) hd g1 ⟨rfl, (show (4 : Int) ≤ x1.toInt ∧ x1.toInt ≤ (2147483647 : Int) by omega), (show (0 : Int) ≤ x2.toInt ∧ x2.toInt ≤ (2 : Int) by omega), (show (-2147483648 : Int) ≤ x3.toInt ∧ x3.toInt ≤ (-1 : Int) by omega), trivial⟩
      exact ⟨_, h1, h2, e1, g1, e2, g2⟩
    by_cases k4 : x3.toInt ≤ (40 : Int)
    · skip
      obtain ⟨h1, e1, g1⟩ := la_val (a := (-1)) (cs := [.ref 8, .int x1, .int x2, .int x3]) (vm_up v_3579 rfl) rfl (by decide +kernel) hd hh ⟨rfl, (show (4 : Int) ≤ x1.toInt ∧ x1.toInt ≤ (2147483647 : Int) by omega), (show (0 : Int) ≤ x2.toInt ∧ x2.toInt ≤ (2 : Int) by omega), (show (0 : Int) ≤ x3.toInt ∧ x3.toInt ≤ (40 : Int) by omega), trivial⟩
      obtain ⟨h2, e2, g2⟩ := la_val (a := (-1)) (cs := [.ref 70, .int x1, .int x2, .int x3]) (vm_up v_3580 rfl) rfl (by decide +kernel) hd g1 ⟨rfl, (show (4 : Int) ≤ x1.toInt ∧ x1.toInt ≤ (2147483647 : Int) by omega), (show (0 : Int) ≤ x2.toInt ∧ x2.toInt ≤ (2 : Int) by omega), (show (0 : Int) ≤ x3.toInt ∧ x3.toInt ≤ (40 : Int) by omega), trivial⟩
      exact ⟨_, h1, h2, e1, g1, e2, g2⟩
    obtain ⟨h1, e1, g1⟩ := la_val (a := (-1)) (cs := [.ref 8, .int x1, .int x2, .int x3]) (vm_up v_3581 rfl) rfl (by decide +kernel) hd hh ⟨rfl, (show (4 : Int) ≤ x1.toInt ∧ x1.toInt ≤ (2147483647 : Int) by omega), (show (0 : Int) ≤ x2.toInt ∧ x2.toInt ≤ (2 : Int) by omega), (show (41 : Int) ≤ x3.toInt ∧ x3.toInt ≤ (2147483647 : Int) by omega), trivial⟩
    obtain ⟨h2, e2, g2⟩ := la_val (a := (-1)) (cs := [.ref 70, .int x1, .int x2, .int x3]) (vm_up v_3582 rfl) rfl (by decide +kernel) hd g1 ⟨rfl, (show (4 : Int) ≤ x1.toInt ∧ x1.toInt ≤ (2147483647 : Int) by omega), (show (0 : Int) ≤ x2.toInt ∧ x2.toInt ≤ (2 : Int) by omega), (show (41 : Int) ≤ x3.toInt ∧ x3.toInt ≤ (2147483647 : Int) by omega), trivial⟩
    exact ⟨_, h1, h2, e1, g1, e2, g2⟩
  by_cases k2 : x3.toInt ≤ (-1 : Int)
  · skip
    obtain ⟨h1, e1, g1⟩ := la_val (a := (-1)) (cs := [.ref 8, .int x1, .int x2, .int x3]) (vm_up v_3583 rfl) rfl (by decide +kernel) hd hh ⟨rfl, (show (4 : Int) ≤ x1.toInt ∧ x1.toInt ≤ (2147483647 : Int) by omega), (show (3 : Int) ≤ x2.toInt ∧ x2.toInt ≤ (2147483647 : Int) by omega), (show (-2147483648 : Int) ≤ x3.toInt ∧ x3.toInt ≤ (-1 : Int) by omega), trivial⟩
    obtain ⟨h2, e2, g2⟩ := la_val (a := (-1)) (cs := [.ref 70, .int x1, .int x2, .int x3]) (vm_up v_3585 rfl) rfl (by decide +kernel) hd g1 ⟨rfl, (show (4 : Int) ≤ x1.toInt ∧ x1.toInt ≤ (2147483647 : Int) by omega), (show (3 : Int) ≤ x2.toInt ∧ x2.toInt ≤ (2147483647 : Int) by omega), (show (-2147483648 : Int) ≤ x3.toInt ∧ x3.toInt ≤ (-1 : Int) by omega), trivial⟩
    exact ⟨_, h1, h2, e1, g1, e2, g2⟩
  by_cases k2 : x3.toInt ≤ (40 : Int)
  · skip
    obtain ⟨h1, e1, g1⟩ := la_val (a := (-1)) (cs := [.ref 8, .int x1, .int x2, .int x3]) (vm_up v_3586 rfl) rfl (by decide +kernel) hd hh ⟨rfl, (show (4 : Int) ≤ x1.toInt ∧ x1.toInt ≤ (2147483647 : Int) by omega), (show (3 : Int) ≤ x2.toInt ∧ x2.toInt ≤ (2147483647 : Int) by omega), (show (0 : Int) ≤ x3.toInt ∧ x3.toInt ≤ (40 : Int) by omega), trivial⟩
    obtain ⟨h2, e2, g2⟩ := la_val (a := (-1)) (cs := [.ref 70, .int x1, .int x2, .int x3]) (vm_up v_3587 rfl) rfl (by decide +kernel) hd g1 ⟨rfl, (show (4 : Int) ≤ x1.toInt ∧ x1.toInt ≤ (2147483647 : Int) by omega), (show (3 : Int) ≤ x2.toInt ∧ x2.toInt ≤ (2147483647 : Int) by omega), (show (0 : Int) ≤ x3.toInt ∧ x3.toInt ≤ (40 : Int) by omega), trivial⟩
    exact ⟨_, h1, h2, e1, g1, e2, g2⟩
  obtain ⟨h1, e1, g1⟩ := la_val (a := (-1)) (cs := [.ref 8, .int x1, .int x2, .int x3]) (vm_up v_3588 rfl) rfl (by decide +kernel) hd hh ⟨rfl, (show (4 : Int) ≤ x1.toInt ∧ x1.toInt ≤ (2147483647 : Int) by omega), (show (3 : Int) ≤ x2.toInt ∧ x2.toInt ≤ (2147483647 : Int) by omega), (show (41 : Int) ≤ x3.toInt ∧ x3.toInt ≤ (2147483647 : Int) by omega), trivial⟩
  obtain ⟨h2, e2, g2⟩ := la_val (a := (-1)) (cs := [.ref 70, .int x1, .int x2, .int x3]) (vm_up v_3589 rfl) rfl (by decide +kernel) hd g1 ⟨rfl, (show (4 : Int) ≤ x1.toInt ∧ x1.toInt ≤ (2147483647 : Int) by omega), (show (3 : Int) ≤ x2.toInt ∧ x2.toInt ≤ (2147483647 : Int) by omega), (show (41 : Int) ≤ x3.toInt ∧ x3.toInt ≤ (2147483647 : Int) by omega), trivial⟩
  exact ⟨_, h1, h2, e1, g1, e2, g2⟩
theorem lr_204_209 (xs : List Int32) (bc : Nat → List Value → pm_H → pm_R) (i : Int32) (h : pm_H) (m : Nat) : la_R xs bc (m + 5) 204 i [] h = la_R xs bc m 209 i [.int (i + Int32.ofInt 1), .ref 0, .ref 8] h := rfl
theorem lr_213_219 (xs : List Int32) (bc : Nat → List Value → pm_H → pm_R) (i : Int32) (h : pm_H) (v1 : Int32) (m : Nat) : la_R xs bc (m + 6) 213 i [.int v1] h = la_R xs bc m 219 i [.int (i + Int32.ofInt 1), .ref 0, .ref 70] h := rfl
theorem lr_223_1333 (xs : List Int32) (bc : Nat → List Value → pm_H → pm_R) (i : Int32) (h : pm_H) (v2 : Int32) (m : Nat) : la_R xs bc (m + 2) 223 i [.int v2] h = la_R xs bc m 1333 i [] h := rfl
theorem lc_10 {xs : List Int32} {d : Nat} (hd : 40 ≤ d) {h : pm_H} (hh : am_h (80, []) h) (x1 : Int32) : ∃ (v : Int32) (h' : pm_H), pm_big xs pm_m vm_lim d 10 [.ref 8, .int x1] h = some (some (.int v), h') ∧ am_h (80, []) h' := la_use (vm_up v_242 rfl) (by decide +kernel) hd hh ⟨rfl, ⟨am_i.top x1, trivial⟩⟩
theorem lc_148 {xs : List Int32} {d : Nat} (hd : 40 ≤ d) {h : pm_H} (hh : am_h (80, []) h) (x1 : Int32) : ∃ (v : Int32) (h' : pm_H), pm_big xs pm_m vm_lim d 148 [.ref 70, .int x1] h = some (some (.int v), h') ∧ am_h (80, []) h' := la_use (vm_up v_819 rfl) (by decide +kernel) hd hh ⟨rfl, ⟨am_i.top x1, trivial⟩⟩
theorem lz_0 {xs : List Int32} {i : Int32} {d : Nat} (hd : 40 ≤ d) {h : pm_H} (hh : am_h (80, []) h) {x1 : Int32} (n1 : ¬ i + Int32.ofInt 1 < 0) (e1 : xs[(i + Int32.ofInt 1).toNatClampNeg]? = some x1) (n : Nat) : ∃ h', am_h (80, []) h' ∧ la_R xs (pm_big xs pm_m vm_lim d) (n + 17) 204 i [] h = la_R xs (pm_big xs pm_m vm_lim d) n 1333 i [] h' := by
  obtain ⟨v1, h1, c1, g1⟩ := lc_10 (xs := xs) hd hh x1
  obtain ⟨v2, h2, c2, g2⟩ := lc_148 (xs := xs) hd g1 x1
  refine ⟨h2, g2, ?_⟩
  refine Eq.trans (lr_204_209 _ _ _ _ (n + 12)) ?_
  refine Eq.trans (la_arg rfl n1 e1) ?_
  refine Eq.trans (la_call (rest := []) rfl rfl rfl (Nat.le_of_ble_eq_true rfl) rfl rfl (la_obj hh (i := 0) rfl (by decide)) rfl rfl (Nat.le_of_ble_eq_true rfl) c1) ?_
  refine Eq.trans (lr_213_219 _ _ _ _ v1 (n + 4)) ?_
  refine Eq.trans (la_arg rfl n1 e1) ?_
  refine Eq.trans (la_call (rest := []) rfl rfl rfl (Nat.le_of_ble_eq_true rfl) rfl rfl (la_obj g1 (i := 62) rfl (by decide)) rfl rfl (Nat.le_of_ble_eq_true rfl) c2) ?_
  exact lr_223_1333 _ _ _ _ v2 n
theorem lr_227_232 (xs : List Int32) (bc : Nat → List Value → pm_H → pm_R) (i : Int32) (h : pm_H) (m : Nat) : la_R xs bc (m + 5) 227 i [] h = la_R xs bc m 232 i [.int (i + Int32.ofInt 1), .ref 0, .ref 8] h := rfl
theorem lr_236_242 (xs : List Int32) (bc : Nat → List Value → pm_H → pm_R) (i : Int32) (h : pm_H) (v1 : Int32) (m : Nat) : la_R xs bc (m + 6) 236 i [.int v1] h = la_R xs bc m 242 i [.int (i + Int32.ofInt 1), .ref 0, .ref 70] h := rfl
theorem lr_246_1333 (xs : List Int32) (bc : Nat → List Value → pm_H → pm_R) (i : Int32) (h : pm_H) (v2 : Int32) (m : Nat) : la_R xs bc (m + 2) 246 i [.int v2] h = la_R xs bc m 1333 i [] h := rfl
theorem lc_12 {xs : List Int32} {d : Nat} (hd : 40 ≤ d) {h : pm_H} (hh : am_h (80, []) h) (x1 : Int32) : ∃ (v : Int32) (h' : pm_H), pm_big xs pm_m vm_lim d 12 [.ref 8, .int x1] h = some (some (.int v), h') ∧ am_h (80, []) h' := la_use (vm_up v_243 rfl) (by decide +kernel) hd hh ⟨rfl, ⟨am_i.top x1, trivial⟩⟩
theorem lc_150 {xs : List Int32} {d : Nat} (hd : 40 ≤ d) {h : pm_H} (hh : am_h (80, []) h) (x1 : Int32) : ∃ (v : Int32) (h' : pm_H), pm_big xs pm_m vm_lim d 150 [.ref 70, .int x1] h = some (some (.int v), h') ∧ am_h (80, []) h' := la_use (vm_up v_823 rfl) (by decide +kernel) hd hh ⟨rfl, ⟨am_i.top x1, trivial⟩⟩
theorem lz_1 {xs : List Int32} {i : Int32} {d : Nat} (hd : 40 ≤ d) {h : pm_H} (hh : am_h (80, []) h) {x1 : Int32} (n1 : ¬ i + Int32.ofInt 1 < 0) (e1 : xs[(i + Int32.ofInt 1).toNatClampNeg]? = some x1) (n : Nat) : ∃ h', am_h (80, []) h' ∧ la_R xs (pm_big xs pm_m vm_lim d) (n + 17) 227 i [] h = la_R xs (pm_big xs pm_m vm_lim d) n 1333 i [] h' := by
  obtain ⟨v1, h1, c1, g1⟩ := lc_12 (xs := xs) hd hh x1
  obtain ⟨v2, h2, c2, g2⟩ := lc_150 (xs := xs) hd g1 x1
  refine ⟨h2, g2, ?_⟩
  refine Eq.trans (lr_227_232 _ _ _ _ (n + 12)) ?_
  refine Eq.trans (la_arg rfl n1 e1) ?_
  refine Eq.trans (la_call (rest := []) rfl rfl rfl (Nat.le_of_ble_eq_true rfl) rfl rfl (la_obj hh (i := 0) rfl (by decide)) rfl rfl (Nat.le_of_ble_eq_true rfl) c1) ?_
  refine Eq.trans (lr_236_242 _ _ _ _ v1 (n + 4)) ?_
  refine Eq.trans (la_arg rfl n1 e1) ?_
  refine Eq.trans (la_call (rest := []) rfl rfl rfl (Nat.le_of_ble_eq_true rfl) rfl rfl (la_obj g1 (i := 62) rfl (by decide)) rfl rfl (Nat.le_of_ble_eq_true rfl) c2) ?_
  exact lr_246_1333 _ _ _ _ v2 n
theorem lr_250_251 (xs : List Int32) (bc : Nat → List Value → pm_H → pm_R) (i : Int32) (h : pm_H) (m : Nat) : la_R xs bc (m + 1) 250 i [] h = la_R xs bc m 251 i [.ref 8] h := rfl
theorem lr_254_256 (xs : List Int32) (bc : Nat → List Value → pm_H → pm_R) (i : Int32) (h : pm_H) (v1 : Int32) (m : Nat) : la_R xs bc (m + 2) 254 i [.int v1] h = la_R xs bc m 256 i [.ref 70] h := rfl
theorem lr_259_1333 (xs : List Int32) (bc : Nat → List Value → pm_H → pm_R) (i : Int32) (h : pm_H) (v2 : Int32) (m : Nat) : la_R xs bc (m + 2) 259 i [.int v2] h = la_R xs bc m 1333 i [] h := rfl
theorem lc_13 {xs : List Int32} {d : Nat} (hd : 40 ≤ d) {h : pm_H} (hh : am_h (80, []) h) : ∃ (v : Int32) (h' : pm_H), pm_big xs pm_m vm_lim d 13 [.ref 8] h = some (some (.int v), h') ∧ am_h (80, []) h' := la_use (vm_up v_244 rfl) (by decide +kernel) hd hh ⟨rfl, trivial⟩
theorem lc_151 {xs : List Int32} {d : Nat} (hd : 40 ≤ d) {h : pm_H} (hh : am_h (80, []) h) : ∃ (v : Int32) (h' : pm_H), pm_big xs pm_m vm_lim d 151 [.ref 70] h = some (some (.int v), h') ∧ am_h (80, []) h' := la_use (vm_up v_3511 rfl) (by decide +kernel) hd hh ⟨rfl, trivial⟩
theorem lz_2 {xs : List Int32} {i : Int32} {d : Nat} (hd : 40 ≤ d) {h : pm_H} (hh : am_h (80, []) h) (n : Nat) : ∃ h', am_h (80, []) h' ∧ la_R xs (pm_big xs pm_m vm_lim d) (n + 7) 250 i [] h = la_R xs (pm_big xs pm_m vm_lim d) n 1333 i [] h' := by
  obtain ⟨v1, h1, c1, g1⟩ := lc_13 (xs := xs) hd hh
  obtain ⟨v2, h2, c2, g2⟩ := lc_151 (xs := xs) hd g1
  refine ⟨h2, g2, ?_⟩
  refine Eq.trans (lr_250_251 _ _ _ _ (n + 6)) ?_
  refine Eq.trans (la_call (rest := []) rfl rfl rfl (Nat.le_of_ble_eq_true rfl) rfl rfl (la_obj hh (i := 0) rfl (by decide)) rfl rfl (Nat.le_of_ble_eq_true rfl) c1) ?_
  refine Eq.trans (lr_254_256 _ _ _ _ v1 (n + 3)) ?_
  refine Eq.trans (la_call (rest := []) rfl rfl rfl (Nat.le_of_ble_eq_true rfl) rfl rfl (la_obj g1 (i := 62) rfl (by decide)) rfl rfl (Nat.le_of_ble_eq_true rfl) c2) ?_
  exact lr_259_1333 _ _ _ _ v2 n
theorem lr_263_264 (xs : List Int32) (bc : Nat → List Value → pm_H → pm_R) (i : Int32) (h : pm_H) (m : Nat) : la_R xs bc (m + 1) 263 i [] h = la_R xs bc m 264 i [.ref 8] h := rfl
theorem lr_267_269 (xs : List Int32) (bc : Nat → List Value → pm_H → pm_R) (i : Int32) (h : pm_H) (v1 : Int32) (m : Nat) : la_R xs bc (m + 2) 267 i [.int v1] h = la_R xs bc m 269 i [.ref 70] h := rfl
theorem lr_272_1333 (xs : List Int32) (bc : Nat → List Value → pm_H → pm_R) (i : Int32) (h : pm_H) (v2 : Int32) (m : Nat) : la_R xs bc (m + 2) 272 i [.int v2] h = la_R xs bc m 1333 i [] h := rfl
theorem lc_43 {xs : List Int32} {d : Nat} (hd : 40 ≤ d) {h : pm_H} (hh : am_h (80, []) h) : ∃ (v : Int32) (h' : pm_H), pm_big xs pm_m vm_lim d 43 [.ref 8] h = some (some (.int v), h') ∧ am_h (80, []) h' := la_use (vm_up v_245 rfl) (by decide +kernel) hd hh ⟨rfl, trivial⟩
theorem lc_166 {xs : List Int32} {d : Nat} (hd : 40 ≤ d) {h : pm_H} (hh : am_h (80, []) h) : ∃ (v : Int32) (h' : pm_H), pm_big xs pm_m vm_lim d 166 [.ref 70] h = some (some (.int v), h') ∧ am_h (80, []) h' := la_use (vm_up v_815 rfl) (by decide +kernel) hd hh ⟨rfl, trivial⟩
theorem lz_3 {xs : List Int32} {i : Int32} {d : Nat} (hd : 40 ≤ d) {h : pm_H} (hh : am_h (80, []) h) (n : Nat) : ∃ h', am_h (80, []) h' ∧ la_R xs (pm_big xs pm_m vm_lim d) (n + 7) 263 i [] h = la_R xs (pm_big xs pm_m vm_lim d) n 1333 i [] h' := by
  obtain ⟨v1, h1, c1, g1⟩ := lc_43 (xs := xs) hd hh
  obtain ⟨v2, h2, c2, g2⟩ := lc_166 (xs := xs) hd g1
  refine ⟨h2, g2, ?_⟩
  refine Eq.trans (lr_263_264 _ _ _ _ (n + 6)) ?_
  refine Eq.trans (la_call (rest := []) rfl rfl rfl (Nat.le_of_ble_eq_true rfl) rfl rfl (la_obj hh (i := 0) rfl (by decide)) rfl rfl (Nat.le_of_ble_eq_true rfl) c1) ?_
  refine Eq.trans (lr_267_269 _ _ _ _ v1 (n + 3)) ?_
  refine Eq.trans (la_call (rest := []) rfl rfl rfl (Nat.le_of_ble_eq_true rfl) rfl rfl (la_obj g1 (i := 62) rfl (by decide)) rfl rfl (Nat.le_of_ble_eq_true rfl) c2) ?_
  exact lr_272_1333 _ _ _ _ v2 n
theorem lr_276_281 (xs : List Int32) (bc : Nat → List Value → pm_H → pm_R) (i : Int32) (h : pm_H) (m : Nat) : la_R xs bc (m + 5) 276 i [] h = la_R xs bc m 281 i [.int (i + Int32.ofInt 1), .ref 0, .ref 8] h := rfl
theorem lr_285_291 (xs : List Int32) (bc : Nat → List Value → pm_H → pm_R) (i : Int32) (h : pm_H) (v1 : Int32) (m : Nat) : la_R xs bc (m + 6) 285 i [.int v1] h = la_R xs bc m 291 i [.int (i + Int32.ofInt 1), .ref 0, .ref 70] h := rfl
theorem lr_295_1333 (xs : List Int32) (bc : Nat → List Value → pm_H → pm_R) (i : Int32) (h : pm_H) (v2 : Int32) (m : Nat) : la_R xs bc (m + 2) 295 i [.int v2] h = la_R xs bc m 1333 i [] h := rfl
theorem lc_44 {xs : List Int32} {d : Nat} (hd : 40 ≤ d) {h : pm_H} (hh : am_h (80, []) h) (x1 : Int32) : ∃ (v : Int32) (h' : pm_H), pm_big xs pm_m vm_lim d 44 [.ref 8, .int x1] h = some (some (.int v), h') ∧ am_h (80, []) h' := la_use (vm_up v_246 rfl) (by decide +kernel) hd hh ⟨rfl, ⟨am_i.top x1, trivial⟩⟩
theorem lc_167 {xs : List Int32} {d : Nat} (hd : 40 ≤ d) {h : pm_H} (hh : am_h (80, []) h) (x1 : Int32) : ∃ (v : Int32) (h' : pm_H), pm_big xs pm_m vm_lim d 167 [.ref 70, .int x1] h = some (some (.int v), h') ∧ am_h (80, []) h' := la_use (vm_up v_566 rfl) (by decide +kernel) hd hh ⟨rfl, ⟨am_i.top x1, trivial⟩⟩
theorem lz_4 {xs : List Int32} {i : Int32} {d : Nat} (hd : 40 ≤ d) {h : pm_H} (hh : am_h (80, []) h) {x1 : Int32} (n1 : ¬ i + Int32.ofInt 1 < 0) (e1 : xs[(i + Int32.ofInt 1).toNatClampNeg]? = some x1) (n : Nat) : ∃ h', am_h (80, []) h' ∧ la_R xs (pm_big xs pm_m vm_lim d) (n + 17) 276 i [] h = la_R xs (pm_big xs pm_m vm_lim d) n 1333 i [] h' := by
  obtain ⟨v1, h1, c1, g1⟩ := lc_44 (xs := xs) hd hh x1
  obtain ⟨v2, h2, c2, g2⟩ := lc_167 (xs := xs) hd g1 x1
  refine ⟨h2, g2, ?_⟩
  refine Eq.trans (lr_276_281 _ _ _ _ (n + 12)) ?_
  refine Eq.trans (la_arg rfl n1 e1) ?_
  refine Eq.trans (la_call (rest := []) rfl rfl rfl (Nat.le_of_ble_eq_true rfl) rfl rfl (la_obj hh (i := 0) rfl (by decide)) rfl rfl (Nat.le_of_ble_eq_true rfl) c1) ?_
  refine Eq.trans (lr_285_291 _ _ _ _ v1 (n + 4)) ?_
  refine Eq.trans (la_arg rfl n1 e1) ?_
  refine Eq.trans (la_call (rest := []) rfl rfl rfl (Nat.le_of_ble_eq_true rfl) rfl rfl (la_obj g1 (i := 62) rfl (by decide)) rfl rfl (Nat.le_of_ble_eq_true rfl) c2) ?_
  exact lr_295_1333 _ _ _ _ v2 n
theorem lr_299_304 (xs : List Int32) (bc : Nat → List Value → pm_H → pm_R) (i : Int32) (h : pm_H) (m : Nat) : la_R xs bc (m + 5) 299 i [] h = la_R xs bc m 304 i [.int (i + Int32.ofInt 1), .ref 0, .ref 8] h := rfl
theorem lr_305_309 (xs : List Int32) (bc : Nat → List Value → pm_H → pm_R) (i : Int32) (h : pm_H) (x1 : Int32) (m : Nat) : la_R xs bc (m + 4) 305 i [.int x1, .ref 8] h = la_R xs bc m 309 i [.int (i + Int32.ofInt 2), .ref 0, .int x1, .ref 8] h := rfl
theorem lr_313_319 (xs : List Int32) (bc : Nat → List Value → pm_H → pm_R) (i : Int32) (h : pm_H) (v1 : Int32) (m : Nat) : la_R xs bc (m + 6) 313 i [.int v1] h = la_R xs bc m 319 i [.int (i + Int32.ofInt 1), .ref 0, .ref 70] h := rfl
theorem lr_320_324 (xs : List Int32) (bc : Nat → List Value → pm_H → pm_R) (i : Int32) (h : pm_H) (x1 : Int32) (m : Nat) : la_R xs bc (m + 4) 320 i [.int x1, .ref 70] h = la_R xs bc m 324 i [.int (i + Int32.ofInt 2), .ref 0, .int x1, .ref 70] h := rfl
theorem lr_328_1333 (xs : List Int32) (bc : Nat → List Value → pm_H → pm_R) (i : Int32) (h : pm_H) (v2 : Int32) (m : Nat) : la_R xs bc (m + 2) 328 i [.int v2] h = la_R xs bc m 1333 i [] h := rfl
theorem lc_45 {xs : List Int32} {d : Nat} (hd : 40 ≤ d) {h : pm_H} (hh : am_h (80, []) h) (x1 x2 : Int32) : ∃ (v : Int32) (h' : pm_H), pm_big xs pm_m vm_lim d 45 [.ref 8, .int x1, .int x2] h = some (some (.int v), h') ∧ am_h (80, []) h' := la_use (vm_up v_250 rfl) (by decide +kernel) hd hh ⟨rfl, ⟨am_i.top x1, ⟨am_i.top x2, trivial⟩⟩⟩
theorem lc_168 {xs : List Int32} {d : Nat} (hd : 40 ≤ d) {h : pm_H} (hh : am_h (80, []) h) (x1 x2 : Int32) : ∃ (v : Int32) (h' : pm_H), pm_big xs pm_m vm_lim d 168 [.ref 70, .int x1, .int x2] h = some (some (.int v), h') ∧ am_h (80, []) h' := la_use (vm_up v_587 rfl) (by decide +kernel) hd hh ⟨rfl, ⟨am_i.top x1, ⟨am_i.top x2, trivial⟩⟩⟩
theorem lz_5 {xs : List Int32} {i : Int32} {d : Nat} (hd : 40 ≤ d) {h : pm_H} (hh : am_h (80, []) h) {x1 : Int32} (n1 : ¬ i + Int32.ofInt 1 < 0) (e1 : xs[(i + Int32.ofInt 1).toNatClampNeg]? = some x1) {x2 : Int32} (n2 : ¬ i + Int32.ofInt 2 < 0) (e2 : xs[(i + Int32.ofInt 2).toNatClampNeg]? = some x2) (n : Nat) : ∃ h', am_h (80, []) h' ∧ la_R xs (pm_big xs pm_m vm_lim d) (n + 27) 299 i [] h = la_R xs (pm_big xs pm_m vm_lim d) n 1333 i [] h' := by
  obtain ⟨v1, h1, c1, g1⟩ := lc_45 (xs := xs) hd hh x1 x2
  obtain ⟨v2, h2, c2, g2⟩ := lc_168 (xs := xs) hd g1 x1 x2
  refine ⟨h2, g2, ?_⟩
  refine Eq.trans (lr_299_304 _ _ _ _ (n + 22)) ?_
  refine Eq.trans (la_arg rfl n1 e1) ?_
  refine Eq.trans (lr_305_309 _ _ _ _ x1 (n + 17)) ?_
  refine Eq.trans (la_arg rfl n2 e2) ?_
  refine Eq.trans (la_call (rest := []) rfl rfl rfl (Nat.le_of_ble_eq_true rfl) rfl rfl (la_obj hh (i := 0) rfl (by decide)) rfl rfl (Nat.le_of_ble_eq_true rfl) c1) ?_
  refine Eq.trans (lr_313_319 _ _ _ _ v1 (n + 9)) ?_
  refine Eq.trans (la_arg rfl n1 e1) ?_
  refine Eq.trans (lr_320_324 _ _ _ _ x1 (n + 4)) ?_
  refine Eq.trans (la_arg rfl n2 e2) ?_
  refine Eq.trans (la_call (rest := []) rfl rfl rfl (Nat.le_of_ble_eq_true rfl) rfl rfl (la_obj g1 (i := 62) rfl (by decide)) rfl rfl (Nat.le_of_ble_eq_true rfl) c2) ?_
  exact lr_328_1333 _ _ _ _ v2 n
theorem lr_332_337 (xs : List Int32) (bc : Nat → List Value → pm_H → pm_R) (i : Int32) (h : pm_H) (m : Nat) : la_R xs bc (m + 5) 332 i [] h = la_R xs bc m 337 i [.int (i + Int32.ofInt 1), .ref 0, .ref 8] h := rfl
theorem lr_341_347 (xs : List Int32) (bc : Nat → List Value → pm_H → pm_R) (i : Int32) (h : pm_H) (v1 : Int32) (m : Nat) : la_R xs bc (m + 6) 341 i [.int v1] h = la_R xs bc m 347 i [.int (i + Int32.ofInt 1), .ref 0, .ref 70] h := rfl
theorem lr_351_1333 (xs : List Int32) (bc : Nat → List Value → pm_H → pm_R) (i : Int32) (h : pm_H) (v2 : Int32) (m : Nat) : la_R xs bc (m + 2) 351 i [.int v2] h = la_R xs bc m 1333 i [] h := rfl
theorem lc_46 {xs : List Int32} {d : Nat} (hd : 40 ≤ d) {h : pm_H} (hh : am_h (80, []) h) (x1 : Int32) : ∃ (v : Int32) (h' : pm_H), pm_big xs pm_m vm_lim d 46 [.ref 8, .int x1] h = some (some (.int v), h') ∧ am_h (80, []) h' := la_use (vm_up v_252 rfl) (by decide +kernel) hd hh ⟨rfl, ⟨am_i.top x1, trivial⟩⟩
theorem lc_170 {xs : List Int32} {d : Nat} (hd : 40 ≤ d) {h : pm_H} (hh : am_h (80, []) h) (x1 : Int32) : ∃ (v : Int32) (h' : pm_H), pm_big xs pm_m vm_lim d 170 [.ref 70, .int x1] h = some (some (.int v), h') ∧ am_h (80, []) h' := la_use (vm_up v_590 rfl) (by decide +kernel) hd hh ⟨rfl, ⟨am_i.top x1, trivial⟩⟩
theorem lz_6 {xs : List Int32} {i : Int32} {d : Nat} (hd : 40 ≤ d) {h : pm_H} (hh : am_h (80, []) h) {x1 : Int32} (n1 : ¬ i + Int32.ofInt 1 < 0) (e1 : xs[(i + Int32.ofInt 1).toNatClampNeg]? = some x1) (n : Nat) : ∃ h', am_h (80, []) h' ∧ la_R xs (pm_big xs pm_m vm_lim d) (n + 17) 332 i [] h = la_R xs (pm_big xs pm_m vm_lim d) n 1333 i [] h' := by
  obtain ⟨v1, h1, c1, g1⟩ := lc_46 (xs := xs) hd hh x1
  obtain ⟨v2, h2, c2, g2⟩ := lc_170 (xs := xs) hd g1 x1
  refine ⟨h2, g2, ?_⟩
  refine Eq.trans (lr_332_337 _ _ _ _ (n + 12)) ?_
  refine Eq.trans (la_arg rfl n1 e1) ?_
  refine Eq.trans (la_call (rest := []) rfl rfl rfl (Nat.le_of_ble_eq_true rfl) rfl rfl (la_obj hh (i := 0) rfl (by decide)) rfl rfl (Nat.le_of_ble_eq_true rfl) c1) ?_
  refine Eq.trans (lr_341_347 _ _ _ _ v1 (n + 4)) ?_
  refine Eq.trans (la_arg rfl n1 e1) ?_
  refine Eq.trans (la_call (rest := []) rfl rfl rfl (Nat.le_of_ble_eq_true rfl) rfl rfl (la_obj g1 (i := 62) rfl (by decide)) rfl rfl (Nat.le_of_ble_eq_true rfl) c2) ?_
  exact lr_351_1333 _ _ _ _ v2 n
theorem lr_355_360 (xs : List Int32) (bc : Nat → List Value → pm_H → pm_R) (i : Int32) (h : pm_H) (m : Nat) : la_R xs bc (m + 5) 355 i [] h = la_R xs bc m 360 i [.int (i + Int32.ofInt 1), .ref 0, .ref 8] h := rfl
theorem lr_361_365 (xs : List Int32) (bc : Nat → List Value → pm_H → pm_R) (i : Int32) (h : pm_H) (x1 : Int32) (m : Nat) : la_R xs bc (m + 4) 361 i [.int x1, .ref 8] h = la_R xs bc m 365 i [.int (i + Int32.ofInt 2), .ref 0, .int x1, .ref 8] h := rfl
theorem lr_369_375 (xs : List Int32) (bc : Nat → List Value → pm_H → pm_R) (i : Int32) (h : pm_H) (v1 : Int32) (m : Nat) : la_R xs bc (m + 6) 369 i [.int v1] h = la_R xs bc m 375 i [.int (i + Int32.ofInt 1), .ref 0, .ref 70] h := rfl
theorem lr_376_380 (xs : List Int32) (bc : Nat → List Value → pm_H → pm_R) (i : Int32) (h : pm_H) (x1 : Int32) (m : Nat) : la_R xs bc (m + 4) 376 i [.int x1, .ref 70] h = la_R xs bc m 380 i [.int (i + Int32.ofInt 2), .ref 0, .int x1, .ref 70] h := rfl
theorem lr_384_1333 (xs : List Int32) (bc : Nat → List Value → pm_H → pm_R) (i : Int32) (h : pm_H) (v2 : Int32) (m : Nat) : la_R xs bc (m + 2) 384 i [.int v2] h = la_R xs bc m 1333 i [] h := rfl
theorem lc_47 {xs : List Int32} {d : Nat} (hd : 40 ≤ d) {h : pm_H} (hh : am_h (80, []) h) (x1 x2 : Int32) : ∃ (v : Int32) (h' : pm_H), pm_big xs pm_m vm_lim d 47 [.ref 8, .int x1, .int x2] h = some (some (.int v), h') ∧ am_h (80, []) h' := la_use (vm_up v_254 rfl) (by decide +kernel) hd hh ⟨rfl, ⟨am_i.top x1, ⟨am_i.top x2, trivial⟩⟩⟩
theorem lc_174 {xs : List Int32} {d : Nat} (hd : 40 ≤ d) {h : pm_H} (hh : am_h (80, []) h) (x1 x2 : Int32) : ∃ (v : Int32) (h' : pm_H), pm_big xs pm_m vm_lim d 174 [.ref 70, .int x1, .int x2] h = some (some (.int v), h') ∧ am_h (80, []) h' := la_use (vm_up v_618 rfl) (by decide +kernel) hd hh ⟨rfl, ⟨am_i.top x1, ⟨am_i.top x2, trivial⟩⟩⟩
theorem lz_7 {xs : List Int32} {i : Int32} {d : Nat} (hd : 40 ≤ d) {h : pm_H} (hh : am_h (80, []) h) {x1 : Int32} (n1 : ¬ i + Int32.ofInt 1 < 0) (e1 : xs[(i + Int32.ofInt 1).toNatClampNeg]? = some x1) {x2 : Int32} (n2 : ¬ i + Int32.ofInt 2 < 0) (e2 : xs[(i + Int32.ofInt 2).toNatClampNeg]? = some x2) (n : Nat) : ∃ h', am_h (80, []) h' ∧ la_R xs (pm_big xs pm_m vm_lim d) (n + 27) 355 i [] h = la_R xs (pm_big xs pm_m vm_lim d) n 1333 i [] h' := by
  obtain ⟨v1, h1, c1, g1⟩ := lc_47 (xs := xs) hd hh x1 x2
  obtain ⟨v2, h2, c2, g2⟩ := lc_174 (xs := xs) hd g1 x1 x2
  refine ⟨h2, g2, ?_⟩
  refine Eq.trans (lr_355_360 _ _ _ _ (n + 22)) ?_
  refine Eq.trans (la_arg rfl n1 e1) ?_
  refine Eq.trans (lr_361_365 _ _ _ _ x1 (n + 17)) ?_
  refine Eq.trans (la_arg rfl n2 e2) ?_
  refine Eq.trans (la_call (rest := []) rfl rfl rfl (Nat.le_of_ble_eq_true rfl) rfl rfl (la_obj hh (i := 0) rfl (by decide)) rfl rfl (Nat.le_of_ble_eq_true rfl) c1) ?_
  refine Eq.trans (lr_369_375 _ _ _ _ v1 (n + 9)) ?_
  refine Eq.trans (la_arg rfl n1 e1) ?_
  refine Eq.trans (lr_376_380 _ _ _ _ x1 (n + 4)) ?_
  refine Eq.trans (la_arg rfl n2 e2) ?_
  refine Eq.trans (la_call (rest := []) rfl rfl rfl (Nat.le_of_ble_eq_true rfl) rfl rfl (la_obj g1 (i := 62) rfl (by decide)) rfl rfl (Nat.le_of_ble_eq_true rfl) c2) ?_
  exact lr_384_1333 _ _ _ _ v2 n
theorem lr_388_393 (xs : List Int32) (bc : Nat → List Value → pm_H → pm_R) (i : Int32) (h : pm_H) (m : Nat) : la_R xs bc (m + 5) 388 i [] h = la_R xs bc m 393 i [.int (i + Int32.ofInt 1), .ref 0, .ref 8] h := rfl
theorem lr_394_398 (xs : List Int32) (bc : Nat → List Value → pm_H → pm_R) (i : Int32) (h : pm_H) (x1 : Int32) (m : Nat) : la_R xs bc (m + 4) 394 i [.int x1, .ref 8] h = la_R xs bc m 398 i [.int (i + Int32.ofInt 2), .ref 0, .int x1, .ref 8] h := rfl
theorem lr_402_408 (xs : List Int32) (bc : Nat → List Value → pm_H → pm_R) (i : Int32) (h : pm_H) (v1 : Int32) (m : Nat) : la_R xs bc (m + 6) 402 i [.int v1] h = la_R xs bc m 408 i [.int (i + Int32.ofInt 1), .ref 0, .ref 70] h := rfl
theorem lr_409_413 (xs : List Int32) (bc : Nat → List Value → pm_H → pm_R) (i : Int32) (h : pm_H) (x1 : Int32) (m : Nat) : la_R xs bc (m + 4) 409 i [.int x1, .ref 70] h = la_R xs bc m 413 i [.int (i + Int32.ofInt 2), .ref 0, .int x1, .ref 70] h := rfl
theorem lr_417_1333 (xs : List Int32) (bc : Nat → List Value → pm_H → pm_R) (i : Int32) (h : pm_H) (v2 : Int32) (m : Nat) : la_R xs bc (m + 2) 417 i [.int v2] h = la_R xs bc m 1333 i [] h := rfl
theorem lc_49 {xs : List Int32} {d : Nat} (hd : 40 ≤ d) {h : pm_H} (hh : am_h (80, []) h) (x1 x2 : Int32) : ∃ (v : Int32) (h' : pm_H), pm_big xs pm_m vm_lim d 49 [.ref 8, .int x1, .int x2] h = some (some (.int v), h') ∧ am_h (80, []) h' := la_use (vm_up v_258 rfl) (by decide +kernel) hd hh ⟨rfl, ⟨am_i.top x1, ⟨am_i.top x2, trivial⟩⟩⟩
theorem lc_176 {xs : List Int32} {d : Nat} (hd : 40 ≤ d) {h : pm_H} (hh : am_h (80, []) h) (x1 x2 : Int32) : ∃ (v : Int32) (h' : pm_H), pm_big xs pm_m vm_lim d 176 [.ref 70, .int x1, .int x2] h = some (some (.int v), h') ∧ am_h (80, []) h' := la_use (vm_up v_627 rfl) (by decide +kernel) hd hh ⟨rfl, ⟨am_i.top x1, ⟨am_i.top x2, trivial⟩⟩⟩
theorem lz_8 {xs : List Int32} {i : Int32} {d : Nat} (hd : 40 ≤ d) {h : pm_H} (hh : am_h (80, []) h) {x1 : Int32} (n1 : ¬ i + Int32.ofInt 1 < 0) (e1 : xs[(i + Int32.ofInt 1).toNatClampNeg]? = some x1) {x2 : Int32} (n2 : ¬ i + Int32.ofInt 2 < 0) (e2 : xs[(i + Int32.ofInt 2).toNatClampNeg]? = some x2) (n : Nat) : ∃ h', am_h (80, []) h' ∧ la_R xs (pm_big xs pm_m vm_lim d) (n + 27) 388 i [] h = la_R xs (pm_big xs pm_m vm_lim d) n 1333 i [] h' := by
  obtain ⟨v1, h1, c1, g1⟩ := lc_49 (xs := xs) hd hh x1 x2
  obtain ⟨v2, h2, c2, g2⟩ := lc_176 (xs := xs) hd g1 x1 x2
  refine ⟨h2, g2, ?_⟩
  refine Eq.trans (lr_388_393 _ _ _ _ (n + 22)) ?_
  refine Eq.trans (la_arg rfl n1 e1) ?_
  refine Eq.trans (lr_394_398 _ _ _ _ x1 (n + 17)) ?_
  refine Eq.trans (la_arg rfl n2 e2) ?_
  refine Eq.trans (la_call (rest := []) rfl rfl rfl (Nat.le_of_ble_eq_true rfl) rfl rfl (la_obj hh (i := 0) rfl (by decide)) rfl rfl (Nat.le_of_ble_eq_true rfl) c1) ?_
  refine Eq.trans (lr_402_408 _ _ _ _ v1 (n + 9)) ?_
  refine Eq.trans (la_arg rfl n1 e1) ?_
  refine Eq.trans (lr_409_413 _ _ _ _ x1 (n + 4)) ?_
  refine Eq.trans (la_arg rfl n2 e2) ?_
  refine Eq.trans (la_call (rest := []) rfl rfl rfl (Nat.le_of_ble_eq_true rfl) rfl rfl (la_obj g1 (i := 62) rfl (by decide)) rfl rfl (Nat.le_of_ble_eq_true rfl) c2) ?_
  exact lr_417_1333 _ _ _ _ v2 n
theorem lr_421_426 (xs : List Int32) (bc : Nat → List Value → pm_H → pm_R) (i : Int32) (h : pm_H) (m : Nat) : la_R xs bc (m + 5) 421 i [] h = la_R xs bc m 426 i [.int (i + Int32.ofInt 1), .ref 0, .ref 8] h := rfl
theorem lr_427_431 (xs : List Int32) (bc : Nat → List Value → pm_H → pm_R) (i : Int32) (h : pm_H) (x1 : Int32) (m : Nat) : la_R xs bc (m + 4) 427 i [.int x1, .ref 8] h = la_R xs bc m 431 i [.int (i + Int32.ofInt 2), .ref 0, .int x1, .ref 8] h := rfl
theorem lr_432_z (xs : List Int32) (bc : Nat → List Value → pm_H → pm_R) (i : Int32) (h : pm_H) (x : Int32) (st : List Value) (hz : x = 0) (m : Nat) : la_R xs bc (m + 1) 432 i (.int x :: st) h = la_R xs bc m 439 i st h := if_pos hz
theorem lr_439_440 (xs : List Int32) (bc : Nat → List Value → pm_H → pm_R) (i : Int32) (h : pm_H) (x1 : Int32) (m : Nat) : la_R xs bc (m + 1) 439 i [.int x1, .ref 8] h = la_R xs bc m 440 i [.int (Int32.ofInt 0), .int x1, .ref 8] h := rfl
theorem lr_443_449 (xs : List Int32) (bc : Nat → List Value → pm_H → pm_R) (i : Int32) (h : pm_H) (v1 : Int32) (m : Nat) : la_R xs bc (m + 6) 443 i [.int v1] h = la_R xs bc m 449 i [.int (i + Int32.ofInt 1), .ref 0, .ref 70] h := rfl
theorem lr_450_454 (xs : List Int32) (bc : Nat → List Value → pm_H → pm_R) (i : Int32) (h : pm_H) (x1 : Int32) (m : Nat) : la_R xs bc (m + 4) 450 i [.int x1, .ref 70] h = la_R xs bc m 454 i [.int (i + Int32.ofInt 2), .ref 0, .int x1, .ref 70] h := rfl
theorem lr_455_z (xs : List Int32) (bc : Nat → List Value → pm_H → pm_R) (i : Int32) (h : pm_H) (x : Int32) (st : List Value) (hz : x = 0) (m : Nat) : la_R xs bc (m + 1) 455 i (.int x :: st) h = la_R xs bc m 462 i st h := if_pos hz
theorem lr_462_463 (xs : List Int32) (bc : Nat → List Value → pm_H → pm_R) (i : Int32) (h : pm_H) (x1 : Int32) (m : Nat) : la_R xs bc (m + 1) 462 i [.int x1, .ref 70] h = la_R xs bc m 463 i [.int (Int32.ofInt 0), .int x1, .ref 70] h := rfl
theorem lr_466_1333 (xs : List Int32) (bc : Nat → List Value → pm_H → pm_R) (i : Int32) (h : pm_H) (v2 : Int32) (m : Nat) : la_R xs bc (m + 2) 466 i [.int v2] h = la_R xs bc m 1333 i [] h := rfl
theorem lr_432_n (xs : List Int32) (bc : Nat → List Value → pm_H → pm_R) (i : Int32) (h : pm_H) (x : Int32) (st : List Value) (hz : ¬ x = 0) (m : Nat) : la_R xs bc (m + 1) 432 i (.int x :: st) h = la_R xs bc m 435 i st h := if_neg hz
theorem lr_435_440 (xs : List Int32) (bc : Nat → List Value → pm_H → pm_R) (i : Int32) (h : pm_H) (x1 : Int32) (m : Nat) : la_R xs bc (m + 2) 435 i [.int x1, .ref 8] h = la_R xs bc m 440 i [.int (Int32.ofInt 1), .int x1, .ref 8] h := rfl
theorem lr_455_n (xs : List Int32) (bc : Nat → List Value → pm_H → pm_R) (i : Int32) (h : pm_H) (x : Int32) (st : List Value) (hz : ¬ x = 0) (m : Nat) : la_R xs bc (m + 1) 455 i (.int x :: st) h = la_R xs bc m 458 i st h := if_neg hz
theorem lr_458_463 (xs : List Int32) (bc : Nat → List Value → pm_H → pm_R) (i : Int32) (h : pm_H) (x1 : Int32) (m : Nat) : la_R xs bc (m + 2) 458 i [.int x1, .ref 70] h = la_R xs bc m 463 i [.int (Int32.ofInt 1), .int x1, .ref 70] h := rfl
theorem lc_51 {xs : List Int32} {d : Nat} (hd : 40 ≤ d) {h : pm_H} (hh : am_h (80, []) h) (x1 x2 : Int32) (b2 : x2 = 0 ∨ x2 = 1) : ∃ (v : Int32) (h' : pm_H), pm_big xs pm_m vm_lim d 51 [.ref 8, .int x1, .int x2] h = some (some (.int v), h') ∧ am_h (80, []) h' := la_use (vm_up v_259 rfl) (by decide +kernel) hd hh ⟨rfl, ⟨am_i.top x1, ⟨la_b01 b2, trivial⟩⟩⟩
theorem lc_178 {xs : List Int32} {d : Nat} (hd : 40 ≤ d) {h : pm_H} (hh : am_h (80, []) h) (x1 x2 : Int32) (b2 : x2 = 0 ∨ x2 = 1) : ∃ (v : Int32) (h' : pm_H), pm_big xs pm_m vm_lim d 178 [.ref 70, .int x1, .int x2] h = some (some (.int v), h') ∧ am_h (80, []) h' := la_use (vm_up v_628 rfl) (by decide +kernel) hd hh ⟨rfl, ⟨am_i.top x1, ⟨la_b01 b2, trivial⟩⟩⟩
theorem lz_9 {xs : List Int32} {i : Int32} {d : Nat} (hd : 40 ≤ d) {h : pm_H} (hh : am_h (80, []) h) {x1 : Int32} (n1 : ¬ i + Int32.ofInt 1 < 0) (e1 : xs[(i + Int32.ofInt 1).toNatClampNeg]? = some x1) {x2 : Int32} (n2 : ¬ i + Int32.ofInt 2 < 0) (e2 : xs[(i + Int32.ofInt 2).toNatClampNeg]? = some x2) (n : Nat) : ∃ h', am_h (80, []) h' ∧ ∃ n', n ≤ n' ∧ la_R xs (pm_big xs pm_m vm_lim d) (n + 33) 421 i [] h = la_R xs (pm_big xs pm_m vm_lim d) n' 1333 i [] h' := by
  by_cases hz : x2 = 0
  · obtain ⟨v1, h1, c1, g1⟩ := lc_51 (xs := xs) hd hh x1 (Int32.ofInt 0) (Or.inl rfl)
    obtain ⟨v2, h2, c2, g2⟩ := lc_178 (xs := xs) hd g1 x1 (Int32.ofInt 0) (Or.inl rfl)
    refine ⟨h2, g2, n + 2, by omega, ?_⟩
    refine Eq.trans (lr_421_426 _ _ _ _ (n + 28)) ?_
    refine Eq.trans (la_arg rfl n1 e1) ?_
    refine Eq.trans (lr_427_431 _ _ _ _ x1 (n + 23)) ?_
    refine Eq.trans (la_arg rfl n2 e2) ?_
    refine Eq.trans (lr_432_z _ _ _ _ _ _ hz (n + 21)) ?_
    refine Eq.trans (lr_439_440 _ _ _ _ x1 (n + 20)) ?_
    refine Eq.trans (la_call (rest := []) rfl rfl rfl (Nat.le_of_ble_eq_true rfl) rfl rfl (la_obj hh (i := 0) rfl (by decide)) rfl rfl (Nat.le_of_ble_eq_true rfl) c1) ?_
    refine Eq.trans (lr_443_449 _ _ _ _ v1 (n + 13)) ?_
    refine Eq.trans (la_arg rfl n1 e1) ?_
    refine Eq.trans (lr_450_454 _ _ _ _ x1 (n + 8)) ?_
    refine Eq.trans (la_arg rfl n2 e2) ?_
    refine Eq.trans (lr_455_z _ _ _ _ _ _ hz (n + 6)) ?_
    refine Eq.trans (lr_462_463 _ _ _ _ x1 (n + 5)) ?_
    refine Eq.trans (la_call (rest := []) rfl rfl rfl (Nat.le_of_ble_eq_true rfl) rfl rfl (la_obj g1 (i := 62) rfl (by decide)) rfl rfl (Nat.le_of_ble_eq_true rfl) c2) ?_
    exact lr_466_1333 _ _ _ _ v2 (n + 2)
  · obtain ⟨v1, h1, c1, g1⟩ := lc_51 (xs := xs) hd hh x1 (Int32.ofInt 1) (Or.inr rfl)
    obtain ⟨v2, h2, c2, g2⟩ := lc_178 (xs := xs) hd g1 x1 (Int32.ofInt 1) (Or.inr rfl)
    refine ⟨h2, g2, n + 0, by omega, ?_⟩
    refine Eq.trans (lr_421_426 _ _ _ _ (n + 28)) ?_
    refine Eq.trans (la_arg rfl n1 e1) ?_
    refine Eq.trans (lr_427_431 _ _ _ _ x1 (n + 23)) ?_
    refine Eq.trans (la_arg rfl n2 e2) ?_
    refine Eq.trans (lr_432_n _ _ _ _ _ _ hz (n + 21)) ?_
    refine Eq.trans (lr_435_440 _ _ _ _ x1 (n + 19)) ?_
    refine Eq.trans (la_call (rest := []) rfl rfl rfl (Nat.le_of_ble_eq_true rfl) rfl rfl (la_obj hh (i := 0) rfl (by decide)) rfl rfl (Nat.le_of_ble_eq_true rfl) c1) ?_
    refine Eq.trans (lr_443_449 _ _ _ _ v1 (n + 12)) ?_
    refine Eq.trans (la_arg rfl n1 e1) ?_
    refine Eq.trans (lr_450_454 _ _ _ _ x1 (n + 7)) ?_
    refine Eq.trans (la_arg rfl n2 e2) ?_
    refine Eq.trans (lr_455_n _ _ _ _ _ _ hz (n + 5)) ?_
    refine Eq.trans (lr_458_463 _ _ _ _ x1 (n + 3)) ?_
    refine Eq.trans (la_call (rest := []) rfl rfl rfl (Nat.le_of_ble_eq_true rfl) rfl rfl (la_obj g1 (i := 62) rfl (by decide)) rfl rfl (Nat.le_of_ble_eq_true rfl) c2) ?_
    exact lr_466_1333 _ _ _ _ v2 (n + 0)
theorem lr_470_475 (xs : List Int32) (bc : Nat → List Value → pm_H → pm_R) (i : Int32) (h : pm_H) (m : Nat) : la_R xs bc (m + 5) 470 i [] h = la_R xs bc m 475 i [.int (i + Int32.ofInt 1), .ref 0, .ref 8] h := rfl
theorem lr_476_480 (xs : List Int32) (bc : Nat → List Value → pm_H → pm_R) (i : Int32) (h : pm_H) (x1 : Int32) (m : Nat) : la_R xs bc (m + 4) 476 i [.int x1, .ref 8] h = la_R xs bc m 480 i [.int (i + Int32.ofInt 2), .ref 0, .int x1, .ref 8] h := rfl
theorem lr_484_490 (xs : List Int32) (bc : Nat → List Value → pm_H → pm_R) (i : Int32) (h : pm_H) (v1 : Int32) (m : Nat) : la_R xs bc (m + 6) 484 i [.int v1] h = la_R xs bc m 490 i [.int (i + Int32.ofInt 1), .ref 0, .ref 70] h := rfl
theorem lr_491_495 (xs : List Int32) (bc : Nat → List Value → pm_H → pm_R) (i : Int32) (h : pm_H) (x1 : Int32) (m : Nat) : la_R xs bc (m + 4) 491 i [.int x1, .ref 70] h = la_R xs bc m 495 i [.int (i + Int32.ofInt 2), .ref 0, .int x1, .ref 70] h := rfl
theorem lr_499_1333 (xs : List Int32) (bc : Nat → List Value → pm_H → pm_R) (i : Int32) (h : pm_H) (v2 : Int32) (m : Nat) : la_R xs bc (m + 2) 499 i [.int v2] h = la_R xs bc m 1333 i [] h := rfl
theorem lc_52 {xs : List Int32} {d : Nat} (hd : 40 ≤ d) {h : pm_H} (hh : am_h (80, []) h) (x1 x2 : Int32) : ∃ (v : Int32) (h' : pm_H), pm_big xs pm_m vm_lim d 52 [.ref 8, .int x1, .int x2] h = some (some (.int v), h') ∧ am_h (80, []) h' := la_use (vm_up v_260 rfl) (by decide +kernel) hd hh ⟨rfl, ⟨am_i.top x1, ⟨am_i.top x2, trivial⟩⟩⟩
theorem lc_179 {xs : List Int32} {d : Nat} (hd : 40 ≤ d) {h : pm_H} (hh : am_h (80, []) h) (x1 x2 : Int32) : ∃ (v : Int32) (h' : pm_H), pm_big xs pm_m vm_lim d 179 [.ref 70, .int x1, .int x2] h = some (some (.int v), h') ∧ am_h (80, []) h' := la_use (vm_up v_629 rfl) (by decide +kernel) hd hh ⟨rfl, ⟨am_i.top x1, ⟨am_i.top x2, trivial⟩⟩⟩
theorem lz_10 {xs : List Int32} {i : Int32} {d : Nat} (hd : 40 ≤ d) {h : pm_H} (hh : am_h (80, []) h) {x1 : Int32} (n1 : ¬ i + Int32.ofInt 1 < 0) (e1 : xs[(i + Int32.ofInt 1).toNatClampNeg]? = some x1) {x2 : Int32} (n2 : ¬ i + Int32.ofInt 2 < 0) (e2 : xs[(i + Int32.ofInt 2).toNatClampNeg]? = some x2) (n : Nat) : ∃ h', am_h (80, []) h' ∧ la_R xs (pm_big xs pm_m vm_lim d) (n + 27) 470 i [] h = la_R xs (pm_big xs pm_m vm_lim d) n 1333 i [] h' := by
  obtain ⟨v1, h1, c1, g1⟩ := lc_52 (xs := xs) hd hh x1 x2
  obtain ⟨v2, h2, c2, g2⟩ := lc_179 (xs := xs) hd g1 x1 x2
  refine ⟨h2, g2, ?_⟩
  refine Eq.trans (lr_470_475 _ _ _ _ (n + 22)) ?_
  refine Eq.trans (la_arg rfl n1 e1) ?_
  refine Eq.trans (lr_476_480 _ _ _ _ x1 (n + 17)) ?_
  refine Eq.trans (la_arg rfl n2 e2) ?_
  refine Eq.trans (la_call (rest := []) rfl rfl rfl (Nat.le_of_ble_eq_true rfl) rfl rfl (la_obj hh (i := 0) rfl (by decide)) rfl rfl (Nat.le_of_ble_eq_true rfl) c1) ?_
  refine Eq.trans (lr_484_490 _ _ _ _ v1 (n + 9)) ?_
  refine Eq.trans (la_arg rfl n1 e1) ?_
  refine Eq.trans (lr_491_495 _ _ _ _ x1 (n + 4)) ?_
  refine Eq.trans (la_arg rfl n2 e2) ?_
  refine Eq.trans (la_call (rest := []) rfl rfl rfl (Nat.le_of_ble_eq_true rfl) rfl rfl (la_obj g1 (i := 62) rfl (by decide)) rfl rfl (Nat.le_of_ble_eq_true rfl) c2) ?_
  exact lr_499_1333 _ _ _ _ v2 n
theorem lr_503_508 (xs : List Int32) (bc : Nat → List Value → pm_H → pm_R) (i : Int32) (h : pm_H) (m : Nat) : la_R xs bc (m + 5) 503 i [] h = la_R xs bc m 508 i [.int (i + Int32.ofInt 1), .ref 0, .ref 8] h := rfl
theorem lr_509_513 (xs : List Int32) (bc : Nat → List Value → pm_H → pm_R) (i : Int32) (h : pm_H) (x1 : Int32) (m : Nat) : la_R xs bc (m + 4) 509 i [.int x1, .ref 8] h = la_R xs bc m 513 i [.int (i + Int32.ofInt 2), .ref 0, .int x1, .ref 8] h := rfl
theorem lr_514_z (xs : List Int32) (bc : Nat → List Value → pm_H → pm_R) (i : Int32) (h : pm_H) (x : Int32) (st : List Value) (hz : x = 0) (m : Nat) : la_R xs bc (m + 1) 514 i (.int x :: st) h = la_R xs bc m 521 i st h := if_pos hz
theorem lr_521_522 (xs : List Int32) (bc : Nat → List Value → pm_H → pm_R) (i : Int32) (h : pm_H) (x1 : Int32) (m : Nat) : la_R xs bc (m + 1) 521 i [.int x1, .ref 8] h = la_R xs bc m 522 i [.int (Int32.ofInt 0), .int x1, .ref 8] h := rfl
theorem lr_525_531 (xs : List Int32) (bc : Nat → List Value → pm_H → pm_R) (i : Int32) (h : pm_H) (v1 : Int32) (m : Nat) : la_R xs bc (m + 6) 525 i [.int v1] h = la_R xs bc m 531 i [.int (i + Int32.ofInt 1), .ref 0, .ref 70] h := rfl
theorem lr_532_536 (xs : List Int32) (bc : Nat → List Value → pm_H → pm_R) (i : Int32) (h : pm_H) (x1 : Int32) (m : Nat) : la_R xs bc (m + 4) 532 i [.int x1, .ref 70] h = la_R xs bc m 536 i [.int (i + Int32.ofInt 2), .ref 0, .int x1, .ref 70] h := rfl
theorem lr_537_z (xs : List Int32) (bc : Nat → List Value → pm_H → pm_R) (i : Int32) (h : pm_H) (x : Int32) (st : List Value) (hz : x = 0) (m : Nat) : la_R xs bc (m + 1) 537 i (.int x :: st) h = la_R xs bc m 544 i st h := if_pos hz
theorem lr_544_545 (xs : List Int32) (bc : Nat → List Value → pm_H → pm_R) (i : Int32) (h : pm_H) (x1 : Int32) (m : Nat) : la_R xs bc (m + 1) 544 i [.int x1, .ref 70] h = la_R xs bc m 545 i [.int (Int32.ofInt 0), .int x1, .ref 70] h := rfl
theorem lr_548_1333 (xs : List Int32) (bc : Nat → List Value → pm_H → pm_R) (i : Int32) (h : pm_H) (v2 : Int32) (m : Nat) : la_R xs bc (m + 2) 548 i [.int v2] h = la_R xs bc m 1333 i [] h := rfl
theorem lr_514_n (xs : List Int32) (bc : Nat → List Value → pm_H → pm_R) (i : Int32) (h : pm_H) (x : Int32) (st : List Value) (hz : ¬ x = 0) (m : Nat) : la_R xs bc (m + 1) 514 i (.int x :: st) h = la_R xs bc m 517 i st h := if_neg hz
theorem lr_517_522 (xs : List Int32) (bc : Nat → List Value → pm_H → pm_R) (i : Int32) (h : pm_H) (x1 : Int32) (m : Nat) : la_R xs bc (m + 2) 517 i [.int x1, .ref 8] h = la_R xs bc m 522 i [.int (Int32.ofInt 1), .int x1, .ref 8] h := rfl
theorem lr_537_n (xs : List Int32) (bc : Nat → List Value → pm_H → pm_R) (i : Int32) (h : pm_H) (x : Int32) (st : List Value) (hz : ¬ x = 0) (m : Nat) : la_R xs bc (m + 1) 537 i (.int x :: st) h = la_R xs bc m 540 i st h := if_neg hz
theorem lr_540_545 (xs : List Int32) (bc : Nat → List Value → pm_H → pm_R) (i : Int32) (h : pm_H) (x1 : Int32) (m : Nat) : la_R xs bc (m + 2) 540 i [.int x1, .ref 70] h = la_R xs bc m 545 i [.int (Int32.ofInt 1), .int x1, .ref 70] h := rfl
theorem lc_53 {xs : List Int32} {d : Nat} (hd : 40 ≤ d) {h : pm_H} (hh : am_h (80, []) h) (x1 x2 : Int32) (b2 : x2 = 0 ∨ x2 = 1) : ∃ (v : Int32) (h' : pm_H), pm_big xs pm_m vm_lim d 53 [.ref 8, .int x1, .int x2] h = some (some (.int v), h') ∧ am_h (80, []) h' := la_use (vm_up v_261 rfl) (by decide +kernel) hd hh ⟨rfl, ⟨am_i.top x1, ⟨la_b01 b2, trivial⟩⟩⟩
theorem lc_180 {xs : List Int32} {d : Nat} (hd : 40 ≤ d) {h : pm_H} (hh : am_h (80, []) h) (x1 x2 : Int32) (b2 : x2 = 0 ∨ x2 = 1) : ∃ (v : Int32) (h' : pm_H), pm_big xs pm_m vm_lim d 180 [.ref 70, .int x1, .int x2] h = some (some (.int v), h') ∧ am_h (80, []) h' := la_use (vm_up v_630 rfl) (by decide +kernel) hd hh ⟨rfl, ⟨am_i.top x1, ⟨la_b01 b2, trivial⟩⟩⟩
theorem lz_11 {xs : List Int32} {i : Int32} {d : Nat} (hd : 40 ≤ d) {h : pm_H} (hh : am_h (80, []) h) {x1 : Int32} (n1 : ¬ i + Int32.ofInt 1 < 0) (e1 : xs[(i + Int32.ofInt 1).toNatClampNeg]? = some x1) {x2 : Int32} (n2 : ¬ i + Int32.ofInt 2 < 0) (e2 : xs[(i + Int32.ofInt 2).toNatClampNeg]? = some x2) (n : Nat) : ∃ h', am_h (80, []) h' ∧ ∃ n', n ≤ n' ∧ la_R xs (pm_big xs pm_m vm_lim d) (n + 33) 503 i [] h = la_R xs (pm_big xs pm_m vm_lim d) n' 1333 i [] h' := by
  by_cases hz : x2 = 0
  · obtain ⟨v1, h1, c1, g1⟩ := lc_53 (xs := xs) hd hh x1 (Int32.ofInt 0) (Or.inl rfl)
    obtain ⟨v2, h2, c2, g2⟩ := lc_180 (xs := xs) hd g1 x1 (Int32.ofInt 0) (Or.inl rfl)
    refine ⟨h2, g2, n + 2, by omega, ?_⟩
    refine Eq.trans (lr_503_508 _ _ _ _ (n + 28)) ?_
    refine Eq.trans (la_arg rfl n1 e1) ?_
    refine Eq.trans (lr_509_513 _ _ _ _ x1 (n + 23)) ?_
    refine Eq.trans (la_arg rfl n2 e2) ?_
    refine Eq.trans (lr_514_z _ _ _ _ _ _ hz (n + 21)) ?_
    refine Eq.trans (lr_521_522 _ _ _ _ x1 (n + 20)) ?_
    refine Eq.trans (la_call (rest := []) rfl rfl rfl (Nat.le_of_ble_eq_true rfl) rfl rfl (la_obj hh (i := 0) rfl (by decide)) rfl rfl (Nat.le_of_ble_eq_true rfl) c1) ?_
    refine Eq.trans (lr_525_531 _ _ _ _ v1 (n + 13)) ?_
    refine Eq.trans (la_arg rfl n1 e1) ?_
    refine Eq.trans (lr_532_536 _ _ _ _ x1 (n + 8)) ?_
    refine Eq.trans (la_arg rfl n2 e2) ?_
    refine Eq.trans (lr_537_z _ _ _ _ _ _ hz (n + 6)) ?_
    refine Eq.trans (lr_544_545 _ _ _ _ x1 (n + 5)) ?_
    refine Eq.trans (la_call (rest := []) rfl rfl rfl (Nat.le_of_ble_eq_true rfl) rfl rfl (la_obj g1 (i := 62) rfl (by decide)) rfl rfl (Nat.le_of_ble_eq_true rfl) c2) ?_
    exact lr_548_1333 _ _ _ _ v2 (n + 2)
  · obtain ⟨v1, h1, c1, g1⟩ := lc_53 (xs := xs) hd hh x1 (Int32.ofInt 1) (Or.inr rfl)
    obtain ⟨v2, h2, c2, g2⟩ := lc_180 (xs := xs) hd g1 x1 (Int32.ofInt 1) (Or.inr rfl)
    refine ⟨h2, g2, n + 0, by omega, ?_⟩
    refine Eq.trans (lr_503_508 _ _ _ _ (n + 28)) ?_
    refine Eq.trans (la_arg rfl n1 e1) ?_
    refine Eq.trans (lr_509_513 _ _ _ _ x1 (n + 23)) ?_
    refine Eq.trans (la_arg rfl n2 e2) ?_
    refine Eq.trans (lr_514_n _ _ _ _ _ _ hz (n + 21)) ?_
    refine Eq.trans (lr_517_522 _ _ _ _ x1 (n + 19)) ?_
    refine Eq.trans (la_call (rest := []) rfl rfl rfl (Nat.le_of_ble_eq_true rfl) rfl rfl (la_obj hh (i := 0) rfl (by decide)) rfl rfl (Nat.le_of_ble_eq_true rfl) c1) ?_
    refine Eq.trans (lr_525_531 _ _ _ _ v1 (n + 12)) ?_
    refine Eq.trans (la_arg rfl n1 e1) ?_
    refine Eq.trans (lr_532_536 _ _ _ _ x1 (n + 7)) ?_
    refine Eq.trans (la_arg rfl n2 e2) ?_
    refine Eq.trans (lr_537_n _ _ _ _ _ _ hz (n + 5)) ?_
    refine Eq.trans (lr_540_545 _ _ _ _ x1 (n + 3)) ?_
    refine Eq.trans (la_call (rest := []) rfl rfl rfl (Nat.le_of_ble_eq_true rfl) rfl rfl (la_obj g1 (i := 62) rfl (by decide)) rfl rfl (Nat.le_of_ble_eq_true rfl) c2) ?_
    exact lr_548_1333 _ _ _ _ v2 (n + 0)
theorem lr_552_557 (xs : List Int32) (bc : Nat → List Value → pm_H → pm_R) (i : Int32) (h : pm_H) (m : Nat) : la_R xs bc (m + 5) 552 i [] h = la_R xs bc m 557 i [.int (i + Int32.ofInt 1), .ref 0, .ref 8] h := rfl
theorem lr_558_562 (xs : List Int32) (bc : Nat → List Value → pm_H → pm_R) (i : Int32) (h : pm_H) (x1 : Int32) (m : Nat) : la_R xs bc (m + 4) 558 i [.int x1, .ref 8] h = la_R xs bc m 562 i [.int (i + Int32.ofInt 2), .ref 0, .int x1, .ref 8] h := rfl
theorem lr_566_572 (xs : List Int32) (bc : Nat → List Value → pm_H → pm_R) (i : Int32) (h : pm_H) (v1 : Int32) (m : Nat) : la_R xs bc (m + 6) 566 i [.int v1] h = la_R xs bc m 572 i [.int (i + Int32.ofInt 1), .ref 0, .ref 70] h := rfl
theorem lr_573_577 (xs : List Int32) (bc : Nat → List Value → pm_H → pm_R) (i : Int32) (h : pm_H) (x1 : Int32) (m : Nat) : la_R xs bc (m + 4) 573 i [.int x1, .ref 70] h = la_R xs bc m 577 i [.int (i + Int32.ofInt 2), .ref 0, .int x1, .ref 70] h := rfl
theorem lr_581_1333 (xs : List Int32) (bc : Nat → List Value → pm_H → pm_R) (i : Int32) (h : pm_H) (v2 : Int32) (m : Nat) : la_R xs bc (m + 2) 581 i [.int v2] h = la_R xs bc m 1333 i [] h := rfl
theorem lc_54 {xs : List Int32} {d : Nat} (hd : 40 ≤ d) {h : pm_H} (hh : am_h (80, []) h) (x1 x2 : Int32) : ∃ (v : Int32) (h' : pm_H), pm_big xs pm_m vm_lim d 54 [.ref 8, .int x1, .int x2] h = some (some (.int v), h') ∧ am_h (80, []) h' := la_use (vm_up v_262 rfl) (by decide +kernel) hd hh ⟨rfl, ⟨am_i.top x1, ⟨am_i.top x2, trivial⟩⟩⟩
theorem lc_181 {xs : List Int32} {d : Nat} (hd : 40 ≤ d) {h : pm_H} (hh : am_h (80, []) h) (x1 x2 : Int32) : ∃ (v : Int32) (h' : pm_H), pm_big xs pm_m vm_lim d 181 [.ref 70, .int x1, .int x2] h = some (some (.int v), h') ∧ am_h (80, []) h' := la_use (vm_up v_632 rfl) (by decide +kernel) hd hh ⟨rfl, ⟨am_i.top x1, ⟨am_i.top x2, trivial⟩⟩⟩
theorem lz_12 {xs : List Int32} {i : Int32} {d : Nat} (hd : 40 ≤ d) {h : pm_H} (hh : am_h (80, []) h) {x1 : Int32} (n1 : ¬ i + Int32.ofInt 1 < 0) (e1 : xs[(i + Int32.ofInt 1).toNatClampNeg]? = some x1) {x2 : Int32} (n2 : ¬ i + Int32.ofInt 2 < 0) (e2 : xs[(i + Int32.ofInt 2).toNatClampNeg]? = some x2) (n : Nat) : ∃ h', am_h (80, []) h' ∧ la_R xs (pm_big xs pm_m vm_lim d) (n + 27) 552 i [] h = la_R xs (pm_big xs pm_m vm_lim d) n 1333 i [] h' := by
  obtain ⟨v1, h1, c1, g1⟩ := lc_54 (xs := xs) hd hh x1 x2
  obtain ⟨v2, h2, c2, g2⟩ := lc_181 (xs := xs) hd g1 x1 x2
  refine ⟨h2, g2, ?_⟩
  refine Eq.trans (lr_552_557 _ _ _ _ (n + 22)) ?_
  refine Eq.trans (la_arg rfl n1 e1) ?_
  refine Eq.trans (lr_558_562 _ _ _ _ x1 (n + 17)) ?_
  refine Eq.trans (la_arg rfl n2 e2) ?_
  refine Eq.trans (la_call (rest := []) rfl rfl rfl (Nat.le_of_ble_eq_true rfl) rfl rfl (la_obj hh (i := 0) rfl (by decide)) rfl rfl (Nat.le_of_ble_eq_true rfl) c1) ?_
  refine Eq.trans (lr_566_572 _ _ _ _ v1 (n + 9)) ?_
  refine Eq.trans (la_arg rfl n1 e1) ?_
  refine Eq.trans (lr_573_577 _ _ _ _ x1 (n + 4)) ?_
  refine Eq.trans (la_arg rfl n2 e2) ?_
  refine Eq.trans (la_call (rest := []) rfl rfl rfl (Nat.le_of_ble_eq_true rfl) rfl rfl (la_obj g1 (i := 62) rfl (by decide)) rfl rfl (Nat.le_of_ble_eq_true rfl) c2) ?_
  exact lr_581_1333 _ _ _ _ v2 n
theorem lr_585_590 (xs : List Int32) (bc : Nat → List Value → pm_H → pm_R) (i : Int32) (h : pm_H) (m : Nat) : la_R xs bc (m + 5) 585 i [] h = la_R xs bc m 590 i [.int (i + Int32.ofInt 1), .ref 0, .ref 8] h := rfl
theorem lr_594_600 (xs : List Int32) (bc : Nat → List Value → pm_H → pm_R) (i : Int32) (h : pm_H) (v1 : Int32) (m : Nat) : la_R xs bc (m + 6) 594 i [.int v1] h = la_R xs bc m 600 i [.int (i + Int32.ofInt 1), .ref 0, .ref 70] h := rfl
theorem lr_604_1333 (xs : List Int32) (bc : Nat → List Value → pm_H → pm_R) (i : Int32) (h : pm_H) (v2 : Int32) (m : Nat) : la_R xs bc (m + 2) 604 i [.int v2] h = la_R xs bc m 1333 i [] h := rfl
theorem lc_55 {xs : List Int32} {d : Nat} (hd : 40 ≤ d) {h : pm_H} (hh : am_h (80, []) h) (x1 : Int32) : ∃ (v : Int32) (h' : pm_H), pm_big xs pm_m vm_lim d 55 [.ref 8, .int x1] h = some (some (.int v), h') ∧ am_h (80, []) h' := la_use (vm_up v_263 rfl) (by decide +kernel) hd hh ⟨rfl, ⟨am_i.top x1, trivial⟩⟩
theorem lc_182 {xs : List Int32} {d : Nat} (hd : 40 ≤ d) {h : pm_H} (hh : am_h (80, []) h) (x1 : Int32) : ∃ (v : Int32) (h' : pm_H), pm_big xs pm_m vm_lim d 182 [.ref 70, .int x1] h = some (some (.int v), h') ∧ am_h (80, []) h' := la_use (vm_up v_634 rfl) (by decide +kernel) hd hh ⟨rfl, ⟨am_i.top x1, trivial⟩⟩
theorem lz_13 {xs : List Int32} {i : Int32} {d : Nat} (hd : 40 ≤ d) {h : pm_H} (hh : am_h (80, []) h) {x1 : Int32} (n1 : ¬ i + Int32.ofInt 1 < 0) (e1 : xs[(i + Int32.ofInt 1).toNatClampNeg]? = some x1) (n : Nat) : ∃ h', am_h (80, []) h' ∧ la_R xs (pm_big xs pm_m vm_lim d) (n + 17) 585 i [] h = la_R xs (pm_big xs pm_m vm_lim d) n 1333 i [] h' := by
  obtain ⟨v1, h1, c1, g1⟩ := lc_55 (xs := xs) hd hh x1
  obtain ⟨v2, h2, c2, g2⟩ := lc_182 (xs := xs) hd g1 x1
  refine ⟨h2, g2, ?_⟩
  refine Eq.trans (lr_585_590 _ _ _ _ (n + 12)) ?_
  refine Eq.trans (la_arg rfl n1 e1) ?_
  refine Eq.trans (la_call (rest := []) rfl rfl rfl (Nat.le_of_ble_eq_true rfl) rfl rfl (la_obj hh (i := 0) rfl (by decide)) rfl rfl (Nat.le_of_ble_eq_true rfl) c1) ?_
  refine Eq.trans (lr_594_600 _ _ _ _ v1 (n + 4)) ?_
  refine Eq.trans (la_arg rfl n1 e1) ?_
  refine Eq.trans (la_call (rest := []) rfl rfl rfl (Nat.le_of_ble_eq_true rfl) rfl rfl (la_obj g1 (i := 62) rfl (by decide)) rfl rfl (Nat.le_of_ble_eq_true rfl) c2) ?_
  exact lr_604_1333 _ _ _ _ v2 n
theorem lr_608_613 (xs : List Int32) (bc : Nat → List Value → pm_H → pm_R) (i : Int32) (h : pm_H) (m : Nat) : la_R xs bc (m + 5) 608 i [] h = la_R xs bc m 613 i [.int (i + Int32.ofInt 1), .ref 0, .ref 8] h := rfl
theorem lr_614_618 (xs : List Int32) (bc : Nat → List Value → pm_H → pm_R) (i : Int32) (h : pm_H) (x1 : Int32) (m : Nat) : la_R xs bc (m + 4) 614 i [.int x1, .ref 8] h = la_R xs bc m 618 i [.int (i + Int32.ofInt 2), .ref 0, .int x1, .ref 8] h := rfl
theorem lr_622_628 (xs : List Int32) (bc : Nat → List Value → pm_H → pm_R) (i : Int32) (h : pm_H) (v1 : Int32) (m : Nat) : la_R xs bc (m + 6) 622 i [.int v1] h = la_R xs bc m 628 i [.int (i + Int32.ofInt 1), .ref 0, .ref 70] h := rfl
theorem lr_629_633 (xs : List Int32) (bc : Nat → List Value → pm_H → pm_R) (i : Int32) (h : pm_H) (x1 : Int32) (m : Nat) : la_R xs bc (m + 4) 629 i [.int x1, .ref 70] h = la_R xs bc m 633 i [.int (i + Int32.ofInt 2), .ref 0, .int x1, .ref 70] h := rfl
theorem lr_637_1333 (xs : List Int32) (bc : Nat → List Value → pm_H → pm_R) (i : Int32) (h : pm_H) (v2 : Int32) (m : Nat) : la_R xs bc (m + 2) 637 i [.int v2] h = la_R xs bc m 1333 i [] h := rfl
theorem lc_56 {xs : List Int32} {d : Nat} (hd : 40 ≤ d) {h : pm_H} (hh : am_h (80, []) h) (x1 x2 : Int32) : ∃ (v : Int32) (h' : pm_H), pm_big xs pm_m vm_lim d 56 [.ref 8, .int x1, .int x2] h = some (some (.int v), h') ∧ am_h (80, []) h' := la_use (vm_up v_265 rfl) (by decide +kernel) hd hh ⟨rfl, ⟨am_i.top x1, ⟨am_i.top x2, trivial⟩⟩⟩
theorem lc_183 {xs : List Int32} {d : Nat} (hd : 40 ≤ d) {h : pm_H} (hh : am_h (80, []) h) (x1 x2 : Int32) : ∃ (v : Int32) (h' : pm_H), pm_big xs pm_m vm_lim d 183 [.ref 70, .int x1, .int x2] h = some (some (.int v), h') ∧ am_h (80, []) h' := la_use (vm_up v_646 rfl) (by decide +kernel) hd hh ⟨rfl, ⟨am_i.top x1, ⟨am_i.top x2, trivial⟩⟩⟩
theorem lz_14 {xs : List Int32} {i : Int32} {d : Nat} (hd : 40 ≤ d) {h : pm_H} (hh : am_h (80, []) h) {x1 : Int32} (n1 : ¬ i + Int32.ofInt 1 < 0) (e1 : xs[(i + Int32.ofInt 1).toNatClampNeg]? = some x1) {x2 : Int32} (n2 : ¬ i + Int32.ofInt 2 < 0) (e2 : xs[(i + Int32.ofInt 2).toNatClampNeg]? = some x2) (n : Nat) : ∃ h', am_h (80, []) h' ∧ la_R xs (pm_big xs pm_m vm_lim d) (n + 27) 608 i [] h = la_R xs (pm_big xs pm_m vm_lim d) n 1333 i [] h' := by
  obtain ⟨v1, h1, c1, g1⟩ := lc_56 (xs := xs) hd hh x1 x2
  obtain ⟨v2, h2, c2, g2⟩ := lc_183 (xs := xs) hd g1 x1 x2
  refine ⟨h2, g2, ?_⟩
  refine Eq.trans (lr_608_613 _ _ _ _ (n + 22)) ?_
  refine Eq.trans (la_arg rfl n1 e1) ?_
  refine Eq.trans (lr_614_618 _ _ _ _ x1 (n + 17)) ?_
  refine Eq.trans (la_arg rfl n2 e2) ?_
  refine Eq.trans (la_call (rest := []) rfl rfl rfl (Nat.le_of_ble_eq_true rfl) rfl rfl (la_obj hh (i := 0) rfl (by decide)) rfl rfl (Nat.le_of_ble_eq_true rfl) c1) ?_
  refine Eq.trans (lr_622_628 _ _ _ _ v1 (n + 9)) ?_
  refine Eq.trans (la_arg rfl n1 e1) ?_
  refine Eq.trans (lr_629_633 _ _ _ _ x1 (n + 4)) ?_
  refine Eq.trans (la_arg rfl n2 e2) ?_
  refine Eq.trans (la_call (rest := []) rfl rfl rfl (Nat.le_of_ble_eq_true rfl) rfl rfl (la_obj g1 (i := 62) rfl (by decide)) rfl rfl (Nat.le_of_ble_eq_true rfl) c2) ?_
  exact lr_637_1333 _ _ _ _ v2 n
theorem lr_641_646 (xs : List Int32) (bc : Nat → List Value → pm_H → pm_R) (i : Int32) (h : pm_H) (m : Nat) : la_R xs bc (m + 5) 641 i [] h = la_R xs bc m 646 i [.int (i + Int32.ofInt 1), .ref 0, .ref 8] h := rfl
theorem lr_650_656 (xs : List Int32) (bc : Nat → List Value → pm_H → pm_R) (i : Int32) (h : pm_H) (v1 : Int32) (m : Nat) : la_R xs bc (m + 6) 650 i [.int v1] h = la_R xs bc m 656 i [.int (i + Int32.ofInt 1), .ref 0, .ref 70] h := rfl
theorem lr_660_1333 (xs : List Int32) (bc : Nat → List Value → pm_H → pm_R) (i : Int32) (h : pm_H) (v2 : Int32) (m : Nat) : la_R xs bc (m + 2) 660 i [.int v2] h = la_R xs bc m 1333 i [] h := rfl
theorem lc_65 {xs : List Int32} {d : Nat} (hd : 40 ≤ d) {h : pm_H} (hh : am_h (80, []) h) (x1 : Int32) : ∃ (v : Int32) (h' : pm_H), pm_big xs pm_m vm_lim d 65 [.ref 8, .int x1] h = some (some (.int v), h') ∧ am_h (80, []) h' := la_use (vm_up v_266 rfl) (by decide +kernel) hd hh ⟨rfl, ⟨am_i.top x1, trivial⟩⟩
theorem lc_188 {xs : List Int32} {d : Nat} (hd : 40 ≤ d) {h : pm_H} (hh : am_h (80, []) h) (x1 : Int32) : ∃ (v : Int32) (h' : pm_H), pm_big xs pm_m vm_lim d 188 [.ref 70, .int x1] h = some (some (.int v), h') ∧ am_h (80, []) h' := la_use (vm_up v_648 rfl) (by decide +kernel) hd hh ⟨rfl, ⟨am_i.top x1, trivial⟩⟩
theorem lz_15 {xs : List Int32} {i : Int32} {d : Nat} (hd : 40 ≤ d) {h : pm_H} (hh : am_h (80, []) h) {x1 : Int32} (n1 : ¬ i + Int32.ofInt 1 < 0) (e1 : xs[(i + Int32.ofInt 1).toNatClampNeg]? = some x1) (n : Nat) : ∃ h', am_h (80, []) h' ∧ la_R xs (pm_big xs pm_m vm_lim d) (n + 17) 641 i [] h = la_R xs (pm_big xs pm_m vm_lim d) n 1333 i [] h' := by
  obtain ⟨v1, h1, c1, g1⟩ := lc_65 (xs := xs) hd hh x1
  obtain ⟨v2, h2, c2, g2⟩ := lc_188 (xs := xs) hd g1 x1
  refine ⟨h2, g2, ?_⟩
  refine Eq.trans (lr_641_646 _ _ _ _ (n + 12)) ?_
  refine Eq.trans (la_arg rfl n1 e1) ?_
  refine Eq.trans (la_call (rest := []) rfl rfl rfl (Nat.le_of_ble_eq_true rfl) rfl rfl (la_obj hh (i := 0) rfl (by decide)) rfl rfl (Nat.le_of_ble_eq_true rfl) c1) ?_
  refine Eq.trans (lr_650_656 _ _ _ _ v1 (n + 4)) ?_
  refine Eq.trans (la_arg rfl n1 e1) ?_
  refine Eq.trans (la_call (rest := []) rfl rfl rfl (Nat.le_of_ble_eq_true rfl) rfl rfl (la_obj g1 (i := 62) rfl (by decide)) rfl rfl (Nat.le_of_ble_eq_true rfl) c2) ?_
  exact lr_660_1333 _ _ _ _ v2 n
theorem lr_664_665 (xs : List Int32) (bc : Nat → List Value → pm_H → pm_R) (i : Int32) (h : pm_H) (m : Nat) : la_R xs bc (m + 1) 664 i [] h = la_R xs bc m 665 i [.ref 8] h := rfl
theorem lr_668_670 (xs : List Int32) (bc : Nat → List Value → pm_H → pm_R) (i : Int32) (h : pm_H) (v1 : Int32) (m : Nat) : la_R xs bc (m + 2) 668 i [.int v1] h = la_R xs bc m 670 i [.ref 70] h := rfl
theorem lr_673_1333 (xs : List Int32) (bc : Nat → List Value → pm_H → pm_R) (i : Int32) (h : pm_H) (v2 : Int32) (m : Nat) : la_R xs bc (m + 2) 673 i [.int v2] h = la_R xs bc m 1333 i [] h := rfl
theorem lc_66 {xs : List Int32} {d : Nat} (hd : 40 ≤ d) {h : pm_H} (hh : am_h (80, []) h) : ∃ (v : Int32) (h' : pm_H), pm_big xs pm_m vm_lim d 66 [.ref 8] h = some (some (.int v), h') ∧ am_h (80, []) h' := la_use (vm_up v_267 rfl) (by decide +kernel) hd hh ⟨rfl, trivial⟩
theorem lc_190 {xs : List Int32} {d : Nat} (hd : 40 ≤ d) {h : pm_H} (hh : am_h (80, []) h) : ∃ (v : Int32) (h' : pm_H), pm_big xs pm_m vm_lim d 190 [.ref 70] h = some (some (.int v), h') ∧ am_h (80, []) h' := la_use (vm_up v_649 rfl) (by decide +kernel) hd hh ⟨rfl, trivial⟩
theorem lz_16 {xs : List Int32} {i : Int32} {d : Nat} (hd : 40 ≤ d) {h : pm_H} (hh : am_h (80, []) h) (n : Nat) : ∃ h', am_h (80, []) h' ∧ la_R xs (pm_big xs pm_m vm_lim d) (n + 7) 664 i [] h = la_R xs (pm_big xs pm_m vm_lim d) n 1333 i [] h' := by
  obtain ⟨v1, h1, c1, g1⟩ := lc_66 (xs := xs) hd hh
  obtain ⟨v2, h2, c2, g2⟩ := lc_190 (xs := xs) hd g1
  refine ⟨h2, g2, ?_⟩
  refine Eq.trans (lr_664_665 _ _ _ _ (n + 6)) ?_
  refine Eq.trans (la_call (rest := []) rfl rfl rfl (Nat.le_of_ble_eq_true rfl) rfl rfl (la_obj hh (i := 0) rfl (by decide)) rfl rfl (Nat.le_of_ble_eq_true rfl) c1) ?_
  refine Eq.trans (lr_668_670 _ _ _ _ v1 (n + 3)) ?_
  refine Eq.trans (la_call (rest := []) rfl rfl rfl (Nat.le_of_ble_eq_true rfl) rfl rfl (la_obj g1 (i := 62) rfl (by decide)) rfl rfl (Nat.le_of_ble_eq_true rfl) c2) ?_
  exact lr_673_1333 _ _ _ _ v2 n
theorem lr_677_678 (xs : List Int32) (bc : Nat → List Value → pm_H → pm_R) (i : Int32) (h : pm_H) (m : Nat) : la_R xs bc (m + 1) 677 i [] h = la_R xs bc m 678 i [.ref 8] h := rfl
theorem lr_681_683 (xs : List Int32) (bc : Nat → List Value → pm_H → pm_R) (i : Int32) (h : pm_H) (v1 : Int32) (m : Nat) : la_R xs bc (m + 2) 681 i [.int v1] h = la_R xs bc m 683 i [.ref 70] h := rfl
theorem lr_686_1333 (xs : List Int32) (bc : Nat → List Value → pm_H → pm_R) (i : Int32) (h : pm_H) (v2 : Int32) (m : Nat) : la_R xs bc (m + 2) 686 i [.int v2] h = la_R xs bc m 1333 i [] h := rfl
theorem lc_74 {xs : List Int32} {d : Nat} (hd : 40 ≤ d) {h : pm_H} (hh : am_h (80, []) h) : ∃ (v : Int32) (h' : pm_H), pm_big xs pm_m vm_lim d 74 [.ref 8] h = some (some (.int v), h') ∧ am_h (80, []) h' := la_use (vm_up v_268 rfl) (by decide +kernel) hd hh ⟨rfl, trivial⟩
theorem lc_195 {xs : List Int32} {d : Nat} (hd : 40 ≤ d) {h : pm_H} (hh : am_h (80, []) h) : ∃ (v : Int32) (h' : pm_H), pm_big xs pm_m vm_lim d 195 [.ref 70] h = some (some (.int v), h') ∧ am_h (80, []) h' := la_use (vm_up v_650 rfl) (by decide +kernel) hd hh ⟨rfl, trivial⟩
theorem lz_17 {xs : List Int32} {i : Int32} {d : Nat} (hd : 40 ≤ d) {h : pm_H} (hh : am_h (80, []) h) (n : Nat) : ∃ h', am_h (80, []) h' ∧ la_R xs (pm_big xs pm_m vm_lim d) (n + 7) 677 i [] h = la_R xs (pm_big xs pm_m vm_lim d) n 1333 i [] h' := by
  obtain ⟨v1, h1, c1, g1⟩ := lc_74 (xs := xs) hd hh
  obtain ⟨v2, h2, c2, g2⟩ := lc_195 (xs := xs) hd g1
  refine ⟨h2, g2, ?_⟩
  refine Eq.trans (lr_677_678 _ _ _ _ (n + 6)) ?_
  refine Eq.trans (la_call (rest := []) rfl rfl rfl (Nat.le_of_ble_eq_true rfl) rfl rfl (la_obj hh (i := 0) rfl (by decide)) rfl rfl (Nat.le_of_ble_eq_true rfl) c1) ?_
  refine Eq.trans (lr_681_683 _ _ _ _ v1 (n + 3)) ?_
  refine Eq.trans (la_call (rest := []) rfl rfl rfl (Nat.le_of_ble_eq_true rfl) rfl rfl (la_obj g1 (i := 62) rfl (by decide)) rfl rfl (Nat.le_of_ble_eq_true rfl) c2) ?_
  exact lr_686_1333 _ _ _ _ v2 n
theorem lr_690_695 (xs : List Int32) (bc : Nat → List Value → pm_H → pm_R) (i : Int32) (h : pm_H) (m : Nat) : la_R xs bc (m + 5) 690 i [] h = la_R xs bc m 695 i [.int (i + Int32.ofInt 1), .ref 0, .ref 8] h := rfl
theorem lr_699_705 (xs : List Int32) (bc : Nat → List Value → pm_H → pm_R) (i : Int32) (h : pm_H) (v1 : Int32) (m : Nat) : la_R xs bc (m + 6) 699 i [.int v1] h = la_R xs bc m 705 i [.int (i + Int32.ofInt 1), .ref 0, .ref 70] h := rfl
theorem lr_709_1333 (xs : List Int32) (bc : Nat → List Value → pm_H → pm_R) (i : Int32) (h : pm_H) (v2 : Int32) (m : Nat) : la_R xs bc (m + 2) 709 i [.int v2] h = la_R xs bc m 1333 i [] h := rfl
theorem lc_75 {xs : List Int32} {d : Nat} (hd : 40 ≤ d) {h : pm_H} (hh : am_h (80, []) h) (x1 : Int32) : ∃ (v : Int32) (h' : pm_H), pm_big xs pm_m vm_lim d 75 [.ref 8, .int x1] h = some (some (.int v), h') ∧ am_h (80, []) h' := la_use (vm_up v_269 rfl) (by decide +kernel) hd hh ⟨rfl, ⟨am_i.top x1, trivial⟩⟩
theorem lc_196 {xs : List Int32} {d : Nat} (hd : 40 ≤ d) {h : pm_H} (hh : am_h (80, []) h) (x1 : Int32) : ∃ (v : Int32) (h' : pm_H), pm_big xs pm_m vm_lim d 196 [.ref 70, .int x1] h = some (some (.int v), h') ∧ am_h (80, []) h' := la_use (vm_up v_654 rfl) (by decide +kernel) hd hh ⟨rfl, ⟨am_i.top x1, trivial⟩⟩
theorem lz_18 {xs : List Int32} {i : Int32} {d : Nat} (hd : 40 ≤ d) {h : pm_H} (hh : am_h (80, []) h) {x1 : Int32} (n1 : ¬ i + Int32.ofInt 1 < 0) (e1 : xs[(i + Int32.ofInt 1).toNatClampNeg]? = some x1) (n : Nat) : ∃ h', am_h (80, []) h' ∧ la_R xs (pm_big xs pm_m vm_lim d) (n + 17) 690 i [] h = la_R xs (pm_big xs pm_m vm_lim d) n 1333 i [] h' := by
  obtain ⟨v1, h1, c1, g1⟩ := lc_75 (xs := xs) hd hh x1
  obtain ⟨v2, h2, c2, g2⟩ := lc_196 (xs := xs) hd g1 x1
  refine ⟨h2, g2, ?_⟩
  refine Eq.trans (lr_690_695 _ _ _ _ (n + 12)) ?_
  refine Eq.trans (la_arg rfl n1 e1) ?_
  refine Eq.trans (la_call (rest := []) rfl rfl rfl (Nat.le_of_ble_eq_true rfl) rfl rfl (la_obj hh (i := 0) rfl (by decide)) rfl rfl (Nat.le_of_ble_eq_true rfl) c1) ?_
  refine Eq.trans (lr_699_705 _ _ _ _ v1 (n + 4)) ?_
  refine Eq.trans (la_arg rfl n1 e1) ?_
  refine Eq.trans (la_call (rest := []) rfl rfl rfl (Nat.le_of_ble_eq_true rfl) rfl rfl (la_obj g1 (i := 62) rfl (by decide)) rfl rfl (Nat.le_of_ble_eq_true rfl) c2) ?_
  exact lr_709_1333 _ _ _ _ v2 n
theorem lr_713_718 (xs : List Int32) (bc : Nat → List Value → pm_H → pm_R) (i : Int32) (h : pm_H) (m : Nat) : la_R xs bc (m + 5) 713 i [] h = la_R xs bc m 718 i [.int (i + Int32.ofInt 1), .ref 0, .ref 8] h := rfl
theorem lr_719_723 (xs : List Int32) (bc : Nat → List Value → pm_H → pm_R) (i : Int32) (h : pm_H) (x1 : Int32) (m : Nat) : la_R xs bc (m + 4) 719 i [.int x1, .ref 8] h = la_R xs bc m 723 i [.int (i + Int32.ofInt 2), .ref 0, .int x1, .ref 8] h := rfl
theorem lr_724_728 (xs : List Int32) (bc : Nat → List Value → pm_H → pm_R) (i : Int32) (h : pm_H) (x1 : Int32) (x2 : Int32) (m : Nat) : la_R xs bc (m + 4) 724 i [.int x2, .int x1, .ref 8] h = la_R xs bc m 728 i [.int (i + Int32.ofInt 3), .ref 0, .int x2, .int x1, .ref 8] h := rfl
theorem lr_732_738 (xs : List Int32) (bc : Nat → List Value → pm_H → pm_R) (i : Int32) (h : pm_H) (v1 : Int32) (m : Nat) : la_R xs bc (m + 6) 732 i [.int v1] h = la_R xs bc m 738 i [.int (i + Int32.ofInt 1), .ref 0, .ref 70] h := rfl
theorem lr_739_743 (xs : List Int32) (bc : Nat → List Value → pm_H → pm_R) (i : Int32) (h : pm_H) (x1 : Int32) (m : Nat) : la_R xs bc (m + 4) 739 i [.int x1, .ref 70] h = la_R xs bc m 743 i [.int (i + Int32.ofInt 2), .ref 0, .int x1, .ref 70] h := rfl
theorem lr_744_748 (xs : List Int32) (bc : Nat → List Value → pm_H → pm_R) (i : Int32) (h : pm_H) (x1 : Int32) (x2 : Int32) (m : Nat) : la_R xs bc (m + 4) 744 i [.int x2, .int x1, .ref 70] h = la_R xs bc m 748 i [.int (i + Int32.ofInt 3), .ref 0, .int x2, .int x1, .ref 70] h := rfl
theorem lr_752_1333 (xs : List Int32) (bc : Nat → List Value → pm_H → pm_R) (i : Int32) (h : pm_H) (v2 : Int32) (m : Nat) : la_R xs bc (m + 2) 752 i [.int v2] h = la_R xs bc m 1333 i [] h := rfl
theorem lc_79 {xs : List Int32} {d : Nat} (hd : 40 ≤ d) {h : pm_H} (hh : am_h (80, []) h) (x1 x2 x3 : Int32) : ∃ (v : Int32) (h' : pm_H), pm_big xs pm_m vm_lim d 79 [.ref 8, .int x1, .int x2, .int x3] h = some (some (.int v), h') ∧ am_h (80, []) h' := la_use (vm_up v_270 rfl) (by decide +kernel) hd hh ⟨rfl, ⟨am_i.top x1, ⟨am_i.top x2, ⟨am_i.top x3, trivial⟩⟩⟩⟩
theorem lc_198 {xs : List Int32} {d : Nat} (hd : 40 ≤ d) {h : pm_H} (hh : am_h (80, []) h) (x1 x2 x3 : Int32) : ∃ (v : Int32) (h' : pm_H), pm_big xs pm_m vm_lim d 198 [.ref 70, .int x1, .int x2, .int x3] h = some (some (.int v), h') ∧ am_h (80, []) h' := la_use (vm_up v_655 rfl) (by decide +kernel) hd hh ⟨rfl, ⟨am_i.top x1, ⟨am_i.top x2, ⟨am_i.top x3, trivial⟩⟩⟩⟩
theorem lz_19 {xs : List Int32} {i : Int32} {d : Nat} (hd : 40 ≤ d) {h : pm_H} (hh : am_h (80, []) h) {x1 : Int32} (n1 : ¬ i + Int32.ofInt 1 < 0) (e1 : xs[(i + Int32.ofInt 1).toNatClampNeg]? = some x1) {x2 : Int32} (n2 : ¬ i + Int32.ofInt 2 < 0) (e2 : xs[(i + Int32.ofInt 2).toNatClampNeg]? = some x2) {x3 : Int32} (n3 : ¬ i + Int32.ofInt 3 < 0) (e3 : xs[(i + Int32.ofInt 3).toNatClampNeg]? = some x3) (n : Nat) : ∃ h', am_h (80, []) h' ∧ la_R xs (pm_big xs pm_m vm_lim d) (n + 37) 713 i [] h = la_R xs (pm_big xs pm_m vm_lim d) n 1333 i [] h' := by
  obtain ⟨v1, h1, c1, g1⟩ := lc_79 (xs := xs) hd hh x1 x2 x3
  obtain ⟨v2, h2, c2, g2⟩ := lc_198 (xs := xs) hd g1 x1 x2 x3
  refine ⟨h2, g2, ?_⟩
  refine Eq.trans (lr_713_718 _ _ _ _ (n + 32)) ?_
  refine Eq.trans (la_arg rfl n1 e1) ?_
  refine Eq.trans (lr_719_723 _ _ _ _ x1 (n + 27)) ?_
  refine Eq.trans (la_arg rfl n2 e2) ?_
  refine Eq.trans (lr_724_728 _ _ _ _ x1 x2 (n + 22)) ?_
  refine Eq.trans (la_arg rfl n3 e3) ?_
  refine Eq.trans (la_call (rest := []) rfl rfl rfl (Nat.le_of_ble_eq_true rfl) rfl rfl (la_obj hh (i := 0) rfl (by decide)) rfl rfl (Nat.le_of_ble_eq_true rfl) c1) ?_
  refine Eq.trans (lr_732_738 _ _ _ _ v1 (n + 14)) ?_
  refine Eq.trans (la_arg rfl n1 e1) ?_
  refine Eq.trans (lr_739_743 _ _ _ _ x1 (n + 9)) ?_
  refine Eq.trans (la_arg rfl n2 e2) ?_
  refine Eq.trans (lr_744_748 _ _ _ _ x1 x2 (n + 4)) ?_
  refine Eq.trans (la_arg rfl n3 e3) ?_
  refine Eq.trans (la_call (rest := []) rfl rfl rfl (Nat.le_of_ble_eq_true rfl) rfl rfl (la_obj g1 (i := 62) rfl (by decide)) rfl rfl (Nat.le_of_ble_eq_true rfl) c2) ?_
  exact lr_752_1333 _ _ _ _ v2 n
theorem lr_756_757 (xs : List Int32) (bc : Nat → List Value → pm_H → pm_R) (i : Int32) (h : pm_H) (m : Nat) : la_R xs bc (m + 1) 756 i [] h = la_R xs bc m 757 i [.ref 8] h := rfl
theorem lr_760_762 (xs : List Int32) (bc : Nat → List Value → pm_H → pm_R) (i : Int32) (h : pm_H) (v1 : Int32) (m : Nat) : la_R xs bc (m + 2) 760 i [.int v1] h = la_R xs bc m 762 i [.ref 70] h := rfl
theorem lr_765_1333 (xs : List Int32) (bc : Nat → List Value → pm_H → pm_R) (i : Int32) (h : pm_H) (v2 : Int32) (m : Nat) : la_R xs bc (m + 2) 765 i [.int v2] h = la_R xs bc m 1333 i [] h := rfl
theorem lc_81 {xs : List Int32} {d : Nat} (hd : 40 ≤ d) {h : pm_H} (hh : am_h (80, []) h) : ∃ (v : Int32) (h' : pm_H), pm_big xs pm_m vm_lim d 81 [.ref 8] h = some (some (.int v), h') ∧ am_h (80, []) h' := la_use (vm_up v_271 rfl) (by decide +kernel) hd hh ⟨rfl, trivial⟩
theorem lc_199 {xs : List Int32} {d : Nat} (hd : 40 ≤ d) {h : pm_H} (hh : am_h (80, []) h) : ∃ (v : Int32) (h' : pm_H), pm_big xs pm_m vm_lim d 199 [.ref 70] h = some (some (.int v), h') ∧ am_h (80, []) h' := la_use (vm_up v_656 rfl) (by decide +kernel) hd hh ⟨rfl, trivial⟩
theorem lz_20 {xs : List Int32} {i : Int32} {d : Nat} (hd : 40 ≤ d) {h : pm_H} (hh : am_h (80, []) h) (n : Nat) : ∃ h', am_h (80, []) h' ∧ la_R xs (pm_big xs pm_m vm_lim d) (n + 7) 756 i [] h = la_R xs (pm_big xs pm_m vm_lim d) n 1333 i [] h' := by
  obtain ⟨v1, h1, c1, g1⟩ := lc_81 (xs := xs) hd hh
  obtain ⟨v2, h2, c2, g2⟩ := lc_199 (xs := xs) hd g1
  refine ⟨h2, g2, ?_⟩
  refine Eq.trans (lr_756_757 _ _ _ _ (n + 6)) ?_
  refine Eq.trans (la_call (rest := []) rfl rfl rfl (Nat.le_of_ble_eq_true rfl) rfl rfl (la_obj hh (i := 0) rfl (by decide)) rfl rfl (Nat.le_of_ble_eq_true rfl) c1) ?_
  refine Eq.trans (lr_760_762 _ _ _ _ v1 (n + 3)) ?_
  refine Eq.trans (la_call (rest := []) rfl rfl rfl (Nat.le_of_ble_eq_true rfl) rfl rfl (la_obj g1 (i := 62) rfl (by decide)) rfl rfl (Nat.le_of_ble_eq_true rfl) c2) ?_
  exact lr_765_1333 _ _ _ _ v2 n
theorem lr_769_774 (xs : List Int32) (bc : Nat → List Value → pm_H → pm_R) (i : Int32) (h : pm_H) (m : Nat) : la_R xs bc (m + 5) 769 i [] h = la_R xs bc m 774 i [.int (i + Int32.ofInt 1), .ref 0, .ref 8] h := rfl
theorem lr_778_784 (xs : List Int32) (bc : Nat → List Value → pm_H → pm_R) (i : Int32) (h : pm_H) (v1 : Int32) (m : Nat) : la_R xs bc (m + 6) 778 i [.int v1] h = la_R xs bc m 784 i [.int (i + Int32.ofInt 1), .ref 0, .ref 70] h := rfl
theorem lr_788_1333 (xs : List Int32) (bc : Nat → List Value → pm_H → pm_R) (i : Int32) (h : pm_H) (v2 : Int32) (m : Nat) : la_R xs bc (m + 2) 788 i [.int v2] h = la_R xs bc m 1333 i [] h := rfl
theorem lc_84 {xs : List Int32} {d : Nat} (hd : 40 ≤ d) {h : pm_H} (hh : am_h (80, []) h) (x1 : Int32) : ∃ (v : Int32) (h' : pm_H), pm_big xs pm_m vm_lim d 84 [.ref 8, .int x1] h = some (some (.int v), h') ∧ am_h (80, []) h' := la_use (vm_up v_274 rfl) (by decide +kernel) hd hh ⟨rfl, ⟨am_i.top x1, trivial⟩⟩
theorem lc_200 {xs : List Int32} {d : Nat} (hd : 40 ≤ d) {h : pm_H} (hh : am_h (80, []) h) (x1 : Int32) : ∃ (v : Int32) (h' : pm_H), pm_big xs pm_m vm_lim d 200 [.ref 70, .int x1] h = some (some (.int v), h') ∧ am_h (80, []) h' := la_use (vm_up v_657 rfl) (by decide +kernel) hd hh ⟨rfl, ⟨am_i.top x1, trivial⟩⟩
theorem lz_21 {xs : List Int32} {i : Int32} {d : Nat} (hd : 40 ≤ d) {h : pm_H} (hh : am_h (80, []) h) {x1 : Int32} (n1 : ¬ i + Int32.ofInt 1 < 0) (e1 : xs[(i + Int32.ofInt 1).toNatClampNeg]? = some x1) (n : Nat) : ∃ h', am_h (80, []) h' ∧ la_R xs (pm_big xs pm_m vm_lim d) (n + 17) 769 i [] h = la_R xs (pm_big xs pm_m vm_lim d) n 1333 i [] h' := by
  obtain ⟨v1, h1, c1, g1⟩ := lc_84 (xs := xs) hd hh x1
  obtain ⟨v2, h2, c2, g2⟩ := lc_200 (xs := xs) hd g1 x1
  refine ⟨h2, g2, ?_⟩
  refine Eq.trans (lr_769_774 _ _ _ _ (n + 12)) ?_
  refine Eq.trans (la_arg rfl n1 e1) ?_
  refine Eq.trans (la_call (rest := []) rfl rfl rfl (Nat.le_of_ble_eq_true rfl) rfl rfl (la_obj hh (i := 0) rfl (by decide)) rfl rfl (Nat.le_of_ble_eq_true rfl) c1) ?_
  refine Eq.trans (lr_778_784 _ _ _ _ v1 (n + 4)) ?_
  refine Eq.trans (la_arg rfl n1 e1) ?_
  refine Eq.trans (la_call (rest := []) rfl rfl rfl (Nat.le_of_ble_eq_true rfl) rfl rfl (la_obj g1 (i := 62) rfl (by decide)) rfl rfl (Nat.le_of_ble_eq_true rfl) c2) ?_
  exact lr_788_1333 _ _ _ _ v2 n
theorem lr_792_797 (xs : List Int32) (bc : Nat → List Value → pm_H → pm_R) (i : Int32) (h : pm_H) (m : Nat) : la_R xs bc (m + 5) 792 i [] h = la_R xs bc m 797 i [.int (i + Int32.ofInt 1), .ref 0, .ref 8] h := rfl
theorem lr_798_802 (xs : List Int32) (bc : Nat → List Value → pm_H → pm_R) (i : Int32) (h : pm_H) (x1 : Int32) (m : Nat) : la_R xs bc (m + 4) 798 i [.int x1, .ref 8] h = la_R xs bc m 802 i [.int (i + Int32.ofInt 2), .ref 0, .int x1, .ref 8] h := rfl
theorem lr_806_812 (xs : List Int32) (bc : Nat → List Value → pm_H → pm_R) (i : Int32) (h : pm_H) (v1 : Int32) (m : Nat) : la_R xs bc (m + 6) 806 i [.int v1] h = la_R xs bc m 812 i [.int (i + Int32.ofInt 1), .ref 0, .ref 70] h := rfl
theorem lr_813_817 (xs : List Int32) (bc : Nat → List Value → pm_H → pm_R) (i : Int32) (h : pm_H) (x1 : Int32) (m : Nat) : la_R xs bc (m + 4) 813 i [.int x1, .ref 70] h = la_R xs bc m 817 i [.int (i + Int32.ofInt 2), .ref 0, .int x1, .ref 70] h := rfl
theorem lr_821_1333 (xs : List Int32) (bc : Nat → List Value → pm_H → pm_R) (i : Int32) (h : pm_H) (v2 : Int32) (m : Nat) : la_R xs bc (m + 2) 821 i [.int v2] h = la_R xs bc m 1333 i [] h := rfl
theorem lc_89 {xs : List Int32} {d : Nat} (hd : 40 ≤ d) {h : pm_H} (hh : am_h (80, []) h) (x1 x2 : Int32) : ∃ (v : Int32) (h' : pm_H), pm_big xs pm_m vm_lim d 89 [.ref 8, .int x1, .int x2] h = some (some (.int v), h') ∧ am_h (80, []) h' := la_use (vm_up v_280 rfl) (by decide +kernel) hd hh ⟨rfl, ⟨am_i.top x1, ⟨am_i.top x2, trivial⟩⟩⟩
theorem lc_201 {xs : List Int32} {d : Nat} (hd : 40 ≤ d) {h : pm_H} (hh : am_h (80, []) h) (x1 x2 : Int32) : ∃ (v : Int32) (h' : pm_H), pm_big xs pm_m vm_lim d 201 [.ref 70, .int x1, .int x2] h = some (some (.int v), h') ∧ am_h (80, []) h' := la_use (vm_up v_664 rfl) (by decide +kernel) hd hh ⟨rfl, ⟨am_i.top x1, ⟨am_i.top x2, trivial⟩⟩⟩
theorem lz_22 {xs : List Int32} {i : Int32} {d : Nat} (hd : 40 ≤ d) {h : pm_H} (hh : am_h (80, []) h) {x1 : Int32} (n1 : ¬ i + Int32.ofInt 1 < 0) (e1 : xs[(i + Int32.ofInt 1).toNatClampNeg]? = some x1) {x2 : Int32} (n2 : ¬ i + Int32.ofInt 2 < 0) (e2 : xs[(i + Int32.ofInt 2).toNatClampNeg]? = some x2) (n : Nat) : ∃ h', am_h (80, []) h' ∧ la_R xs (pm_big xs pm_m vm_lim d) (n + 27) 792 i [] h = la_R xs (pm_big xs pm_m vm_lim d) n 1333 i [] h' := by
  obtain ⟨v1, h1, c1, g1⟩ := lc_89 (xs := xs) hd hh x1 x2
  obtain ⟨v2, h2, c2, g2⟩ := lc_201 (xs := xs) hd g1 x1 x2
  refine ⟨h2, g2, ?_⟩
  refine Eq.trans (lr_792_797 _ _ _ _ (n + 22)) ?_
  refine Eq.trans (la_arg rfl n1 e1) ?_
  refine Eq.trans (lr_798_802 _ _ _ _ x1 (n + 17)) ?_
  refine Eq.trans (la_arg rfl n2 e2) ?_
  refine Eq.trans (la_call (rest := []) rfl rfl rfl (Nat.le_of_ble_eq_true rfl) rfl rfl (la_obj hh (i := 0) rfl (by decide)) rfl rfl (Nat.le_of_ble_eq_true rfl) c1) ?_
  refine Eq.trans (lr_806_812 _ _ _ _ v1 (n + 9)) ?_
  refine Eq.trans (la_arg rfl n1 e1) ?_
  refine Eq.trans (lr_813_817 _ _ _ _ x1 (n + 4)) ?_
  refine Eq.trans (la_arg rfl n2 e2) ?_
  refine Eq.trans (la_call (rest := []) rfl rfl rfl (Nat.le_of_ble_eq_true rfl) rfl rfl (la_obj g1 (i := 62) rfl (by decide)) rfl rfl (Nat.le_of_ble_eq_true rfl) c2) ?_
  exact lr_821_1333 _ _ _ _ v2 n
theorem lr_825_826 (xs : List Int32) (bc : Nat → List Value → pm_H → pm_R) (i : Int32) (h : pm_H) (m : Nat) : la_R xs bc (m + 1) 825 i [] h = la_R xs bc m 826 i [.ref 8] h := rfl
theorem lr_829_831 (xs : List Int32) (bc : Nat → List Value → pm_H → pm_R) (i : Int32) (h : pm_H) (v1 : Int32) (m : Nat) : la_R xs bc (m + 2) 829 i [.int v1] h = la_R xs bc m 831 i [.ref 70] h := rfl
theorem lr_834_1333 (xs : List Int32) (bc : Nat → List Value → pm_H → pm_R) (i : Int32) (h : pm_H) (v2 : Int32) (m : Nat) : la_R xs bc (m + 2) 834 i [.int v2] h = la_R xs bc m 1333 i [] h := rfl
theorem lc_101 {xs : List Int32} {d : Nat} (hd : 40 ≤ d) {h : pm_H} (hh : am_h (80, []) h) : ∃ (v : Int32) (h' : pm_H), pm_big xs pm_m vm_lim d 101 [.ref 8] h = some (some (.int v), h') ∧ am_h (80, []) h' := la_use (vm_up v_281 rfl) (by decide +kernel) hd hh ⟨rfl, trivial⟩
theorem lc_206 {xs : List Int32} {d : Nat} (hd : 40 ≤ d) {h : pm_H} (hh : am_h (80, []) h) : ∃ (v : Int32) (h' : pm_H), pm_big xs pm_m vm_lim d 206 [.ref 70] h = some (some (.int v), h') ∧ am_h (80, []) h' := la_use (vm_up v_665 rfl) (by decide +kernel) hd hh ⟨rfl, trivial⟩
theorem lz_23 {xs : List Int32} {i : Int32} {d : Nat} (hd : 40 ≤ d) {h : pm_H} (hh : am_h (80, []) h) (n : Nat) : ∃ h', am_h (80, []) h' ∧ la_R xs (pm_big xs pm_m vm_lim d) (n + 7) 825 i [] h = la_R xs (pm_big xs pm_m vm_lim d) n 1333 i [] h' := by
  obtain ⟨v1, h1, c1, g1⟩ := lc_101 (xs := xs) hd hh
  obtain ⟨v2, h2, c2, g2⟩ := lc_206 (xs := xs) hd g1
  refine ⟨h2, g2, ?_⟩
  refine Eq.trans (lr_825_826 _ _ _ _ (n + 6)) ?_
  refine Eq.trans (la_call (rest := []) rfl rfl rfl (Nat.le_of_ble_eq_true rfl) rfl rfl (la_obj hh (i := 0) rfl (by decide)) rfl rfl (Nat.le_of_ble_eq_true rfl) c1) ?_
  refine Eq.trans (lr_829_831 _ _ _ _ v1 (n + 3)) ?_
  refine Eq.trans (la_call (rest := []) rfl rfl rfl (Nat.le_of_ble_eq_true rfl) rfl rfl (la_obj g1 (i := 62) rfl (by decide)) rfl rfl (Nat.le_of_ble_eq_true rfl) c2) ?_
  exact lr_834_1333 _ _ _ _ v2 n
theorem lr_838_843 (xs : List Int32) (bc : Nat → List Value → pm_H → pm_R) (i : Int32) (h : pm_H) (m : Nat) : la_R xs bc (m + 5) 838 i [] h = la_R xs bc m 843 i [.int (i + Int32.ofInt 1), .ref 0, .ref 8] h := rfl
theorem lr_847_853 (xs : List Int32) (bc : Nat → List Value → pm_H → pm_R) (i : Int32) (h : pm_H) (v1 : Int32) (m : Nat) : la_R xs bc (m + 6) 847 i [.int v1] h = la_R xs bc m 853 i [.int (i + Int32.ofInt 1), .ref 0, .ref 70] h := rfl
theorem lr_857_1333 (xs : List Int32) (bc : Nat → List Value → pm_H → pm_R) (i : Int32) (h : pm_H) (v2 : Int32) (m : Nat) : la_R xs bc (m + 2) 857 i [.int v2] h = la_R xs bc m 1333 i [] h := rfl
theorem lc_104 {xs : List Int32} {d : Nat} (hd : 40 ≤ d) {h : pm_H} (hh : am_h (80, []) h) (x1 : Int32) : ∃ (v : Int32) (h' : pm_H), pm_big xs pm_m vm_lim d 104 [.ref 8, .int x1] h = some (some (.int v), h') ∧ am_h (80, []) h' := la_use (vm_up v_282 rfl) (by decide +kernel) hd hh ⟨rfl, ⟨am_i.top x1, trivial⟩⟩
theorem lc_207 {xs : List Int32} {d : Nat} (hd : 40 ≤ d) {h : pm_H} (hh : am_h (80, []) h) (x1 : Int32) : ∃ (v : Int32) (h' : pm_H), pm_big xs pm_m vm_lim d 207 [.ref 70, .int x1] h = some (some (.int v), h') ∧ am_h (80, []) h' := la_use (vm_up v_716 rfl) (by decide +kernel) hd hh ⟨rfl, ⟨am_i.top x1, trivial⟩⟩
theorem lz_24 {xs : List Int32} {i : Int32} {d : Nat} (hd : 40 ≤ d) {h : pm_H} (hh : am_h (80, []) h) {x1 : Int32} (n1 : ¬ i + Int32.ofInt 1 < 0) (e1 : xs[(i + Int32.ofInt 1).toNatClampNeg]? = some x1) (n : Nat) : ∃ h', am_h (80, []) h' ∧ la_R xs (pm_big xs pm_m vm_lim d) (n + 17) 838 i [] h = la_R xs (pm_big xs pm_m vm_lim d) n 1333 i [] h' := by
  obtain ⟨v1, h1, c1, g1⟩ := lc_104 (xs := xs) hd hh x1
  obtain ⟨v2, h2, c2, g2⟩ := lc_207 (xs := xs) hd g1 x1
  refine ⟨h2, g2, ?_⟩
  refine Eq.trans (lr_838_843 _ _ _ _ (n + 12)) ?_
  refine Eq.trans (la_arg rfl n1 e1) ?_
  refine Eq.trans (la_call (rest := []) rfl rfl rfl (Nat.le_of_ble_eq_true rfl) rfl rfl (la_obj hh (i := 0) rfl (by decide)) rfl rfl (Nat.le_of_ble_eq_true rfl) c1) ?_
  refine Eq.trans (lr_847_853 _ _ _ _ v1 (n + 4)) ?_
  refine Eq.trans (la_arg rfl n1 e1) ?_
  refine Eq.trans (la_call (rest := []) rfl rfl rfl (Nat.le_of_ble_eq_true rfl) rfl rfl (la_obj g1 (i := 62) rfl (by decide)) rfl rfl (Nat.le_of_ble_eq_true rfl) c2) ?_
  exact lr_857_1333 _ _ _ _ v2 n
theorem lr_861_866 (xs : List Int32) (bc : Nat → List Value → pm_H → pm_R) (i : Int32) (h : pm_H) (m : Nat) : la_R xs bc (m + 5) 861 i [] h = la_R xs bc m 866 i [.int (i + Int32.ofInt 1), .ref 0, .ref 8] h := rfl
theorem lr_867_871 (xs : List Int32) (bc : Nat → List Value → pm_H → pm_R) (i : Int32) (h : pm_H) (x1 : Int32) (m : Nat) : la_R xs bc (m + 4) 867 i [.int x1, .ref 8] h = la_R xs bc m 871 i [.int (i + Int32.ofInt 2), .ref 0, .int x1, .ref 8] h := rfl
theorem lr_872_876 (xs : List Int32) (bc : Nat → List Value → pm_H → pm_R) (i : Int32) (h : pm_H) (x1 : Int32) (x2 : Int32) (m : Nat) : la_R xs bc (m + 4) 872 i [.int x2, .int x1, .ref 8] h = la_R xs bc m 876 i [.int (i + Int32.ofInt 3), .ref 0, .int x2, .int x1, .ref 8] h := rfl
theorem lr_877_881 (xs : List Int32) (bc : Nat → List Value → pm_H → pm_R) (i : Int32) (h : pm_H) (x1 : Int32) (x2 : Int32) (x3 : Int32) (m : Nat) : la_R xs bc (m + 4) 877 i [.int x3, .int x2, .int x1, .ref 8] h = la_R xs bc m 881 i [.int (i + Int32.ofInt 4), .ref 0, .int x3, .int x2, .int x1, .ref 8] h := rfl
theorem lr_885_891 (xs : List Int32) (bc : Nat → List Value → pm_H → pm_R) (i : Int32) (h : pm_H) (v1 : Int32) (m : Nat) : la_R xs bc (m + 6) 885 i [.int v1] h = la_R xs bc m 891 i [.int (i + Int32.ofInt 1), .ref 0, .ref 70] h := rfl
theorem lr_892_896 (xs : List Int32) (bc : Nat → List Value → pm_H → pm_R) (i : Int32) (h : pm_H) (x1 : Int32) (m : Nat) : la_R xs bc (m + 4) 892 i [.int x1, .ref 70] h = la_R xs bc m 896 i [.int (i + Int32.ofInt 2), .ref 0, .int x1, .ref 70] h := rfl
theorem lr_897_901 (xs : List Int32) (bc : Nat → List Value → pm_H → pm_R) (i : Int32) (h : pm_H) (x1 : Int32) (x2 : Int32) (m : Nat) : la_R xs bc (m + 4) 897 i [.int x2, .int x1, .ref 70] h = la_R xs bc m 901 i [.int (i + Int32.ofInt 3), .ref 0, .int x2, .int x1, .ref 70] h := rfl
theorem lr_902_906 (xs : List Int32) (bc : Nat → List Value → pm_H → pm_R) (i : Int32) (h : pm_H) (x1 : Int32) (x2 : Int32) (x3 : Int32) (m : Nat) : la_R xs bc (m + 4) 902 i [.int x3, .int x2, .int x1, .ref 70] h = la_R xs bc m 906 i [.int (i + Int32.ofInt 4), .ref 0, .int x3, .int x2, .int x1, .ref 70] h := rfl
theorem lr_910_1333 (xs : List Int32) (bc : Nat → List Value → pm_H → pm_R) (i : Int32) (h : pm_H) (v2 : Int32) (m : Nat) : la_R xs bc (m + 2) 910 i [.int v2] h = la_R xs bc m 1333 i [] h := rfl
theorem lc_106 {xs : List Int32} {d : Nat} (hd : 40 ≤ d) {h : pm_H} (hh : am_h (80, []) h) (x1 x2 x3 x4 : Int32) : ∃ (v : Int32) (h' : pm_H), pm_big xs pm_m vm_lim d 106 [.ref 8, .int x1, .int x2, .int x3, .int x4] h = some (some (.int v), h') ∧ am_h (80, []) h' := la_use (vm_up v_285 rfl) (by decide +kernel) hd hh ⟨rfl, ⟨am_i.top x1, ⟨am_i.top x2, ⟨am_i.top x3, ⟨am_i.top x4, trivial⟩⟩⟩⟩⟩
theorem lc_208 {xs : List Int32} {d : Nat} (hd : 40 ≤ d) {h : pm_H} (hh : am_h (80, []) h) (x1 x2 x3 x4 : Int32) : ∃ (v : Int32) (h' : pm_H), pm_big xs pm_m vm_lim d 208 [.ref 70, .int x1, .int x2, .int x3, .int x4] h = some (some (.int v), h') ∧ am_h (80, []) h' := la_use (vm_up v_724 rfl) (by decide +kernel) hd hh ⟨rfl, ⟨am_i.top x1, ⟨am_i.top x2, ⟨am_i.top x3, ⟨am_i.top x4, trivial⟩⟩⟩⟩⟩
theorem lz_25 {xs : List Int32} {i : Int32} {d : Nat} (hd : 40 ≤ d) {h : pm_H} (hh : am_h (80, []) h) {x1 : Int32} (n1 : ¬ i + Int32.ofInt 1 < 0) (e1 : xs[(i + Int32.ofInt 1).toNatClampNeg]? = some x1) {x2 : Int32} (n2 : ¬ i + Int32.ofInt 2 < 0) (e2 : xs[(i + Int32.ofInt 2).toNatClampNeg]? = some x2) {x3 : Int32} (n3 : ¬ i + Int32.ofInt 3 < 0) (e3 : xs[(i + Int32.ofInt 3).toNatClampNeg]? = some x3) {x4 : Int32} (n4 : ¬ i + Int32.ofInt 4 < 0) (e4 : xs[(i + Int32.ofInt 4).toNatClampNeg]? = some x4) (n : Nat) : ∃ h', am_h (80, []) h' ∧ la_R xs (pm_big xs pm_m vm_lim d) (n + 47) 861 i [] h = la_R xs (pm_big xs pm_m vm_lim d) n 1333 i [] h' := by
  obtain ⟨v1, h1, c1, g1⟩ := lc_106 (xs := xs) hd hh x1 x2 x3 x4
  obtain ⟨v2, h2, c2, g2⟩ := lc_208 (xs := xs) hd g1 x1 x2 x3 x4
  refine ⟨h2, g2, ?_⟩
  refine Eq.trans (lr_861_866 _ _ _ _ (n + 42)) ?_
  refine Eq.trans (la_arg rfl n1 e1) ?_
  refine Eq.trans (lr_867_871 _ _ _ _ x1 (n + 37)) ?_
  refine Eq.trans (la_arg rfl n2 e2) ?_
  refine Eq.trans (lr_872_876 _ _ _ _ x1 x2 (n + 32)) ?_
  refine Eq.trans (la_arg rfl n3 e3) ?_
  refine Eq.trans (lr_877_881 _ _ _ _ x1 x2 x3 (n + 27)) ?_
  refine Eq.trans (la_arg rfl n4 e4) ?_
  refine Eq.trans (la_call (rest := []) rfl rfl rfl (Nat.le_of_ble_eq_true rfl) rfl rfl (la_obj hh (i := 0) rfl (by decide)) rfl rfl (Nat.le_of_ble_eq_true rfl) c1) ?_
  refine Eq.trans (lr_885_891 _ _ _ _ v1 (n + 19)) ?_
  refine Eq.trans (la_arg rfl n1 e1) ?_
  refine Eq.trans (lr_892_896 _ _ _ _ x1 (n + 14)) ?_
  refine Eq.trans (la_arg rfl n2 e2) ?_
  refine Eq.trans (lr_897_901 _ _ _ _ x1 x2 (n + 9)) ?_
  refine Eq.trans (la_arg rfl n3 e3) ?_
  refine Eq.trans (lr_902_906 _ _ _ _ x1 x2 x3 (n + 4)) ?_
  refine Eq.trans (la_arg rfl n4 e4) ?_
  refine Eq.trans (la_call (rest := []) rfl rfl rfl (Nat.le_of_ble_eq_true rfl) rfl rfl (la_obj g1 (i := 62) rfl (by decide)) rfl rfl (Nat.le_of_ble_eq_true rfl) c2) ?_
  exact lr_910_1333 _ _ _ _ v2 n
theorem lr_914_919 (xs : List Int32) (bc : Nat → List Value → pm_H → pm_R) (i : Int32) (h : pm_H) (m : Nat) : la_R xs bc (m + 5) 914 i [] h = la_R xs bc m 919 i [.int (i + Int32.ofInt 1), .ref 0, .ref 8] h := rfl
theorem lr_920_924 (xs : List Int32) (bc : Nat → List Value → pm_H → pm_R) (i : Int32) (h : pm_H) (x1 : Int32) (m : Nat) : la_R xs bc (m + 4) 920 i [.int x1, .ref 8] h = la_R xs bc m 924 i [.int (i + Int32.ofInt 2), .ref 0, .int x1, .ref 8] h := rfl
theorem lr_925_929 (xs : List Int32) (bc : Nat → List Value → pm_H → pm_R) (i : Int32) (h : pm_H) (x1 : Int32) (x2 : Int32) (m : Nat) : la_R xs bc (m + 4) 925 i [.int x2, .int x1, .ref 8] h = la_R xs bc m 929 i [.int (i + Int32.ofInt 3), .ref 0, .int x2, .int x1, .ref 8] h := rfl
theorem lr_933_939 (xs : List Int32) (bc : Nat → List Value → pm_H → pm_R) (i : Int32) (h : pm_H) (v1 : Int32) (m : Nat) : la_R xs bc (m + 6) 933 i [.int v1] h = la_R xs bc m 939 i [.int (i + Int32.ofInt 1), .ref 0, .ref 70] h := rfl
theorem lr_940_944 (xs : List Int32) (bc : Nat → List Value → pm_H → pm_R) (i : Int32) (h : pm_H) (x1 : Int32) (m : Nat) : la_R xs bc (m + 4) 940 i [.int x1, .ref 70] h = la_R xs bc m 944 i [.int (i + Int32.ofInt 2), .ref 0, .int x1, .ref 70] h := rfl
theorem lr_945_949 (xs : List Int32) (bc : Nat → List Value → pm_H → pm_R) (i : Int32) (h : pm_H) (x1 : Int32) (x2 : Int32) (m : Nat) : la_R xs bc (m + 4) 945 i [.int x2, .int x1, .ref 70] h = la_R xs bc m 949 i [.int (i + Int32.ofInt 3), .ref 0, .int x2, .int x1, .ref 70] h := rfl
theorem lr_953_1333 (xs : List Int32) (bc : Nat → List Value → pm_H → pm_R) (i : Int32) (h : pm_H) (v2 : Int32) (m : Nat) : la_R xs bc (m + 2) 953 i [.int v2] h = la_R xs bc m 1333 i [] h := rfl
theorem lc_110 {xs : List Int32} {d : Nat} (hd : 40 ≤ d) {h : pm_H} (hh : am_h (80, []) h) (x1 x2 x3 : Int32) : ∃ (v : Int32) (h' : pm_H), pm_big xs pm_m vm_lim d 110 [.ref 8, .int x1, .int x2, .int x3] h = some (some (.int v), h') ∧ am_h (80, []) h' := la_use (vm_up v_288 rfl) (by decide +kernel) hd hh ⟨rfl, ⟨am_i.top x1, ⟨am_i.top x2, ⟨am_i.top x3, trivial⟩⟩⟩⟩
theorem lc_209 {xs : List Int32} {d : Nat} (hd : 40 ≤ d) {h : pm_H} (hh : am_h (80, []) h) (x1 x2 x3 : Int32) : ∃ (v : Int32) (h' : pm_H), pm_big xs pm_m vm_lim d 209 [.ref 70, .int x1, .int x2, .int x3] h = some (some (.int v), h') ∧ am_h (80, []) h' := la_use (vm_up v_726 rfl) (by decide +kernel) hd hh ⟨rfl, ⟨am_i.top x1, ⟨am_i.top x2, ⟨am_i.top x3, trivial⟩⟩⟩⟩
theorem lz_26 {xs : List Int32} {i : Int32} {d : Nat} (hd : 40 ≤ d) {h : pm_H} (hh : am_h (80, []) h) {x1 : Int32} (n1 : ¬ i + Int32.ofInt 1 < 0) (e1 : xs[(i + Int32.ofInt 1).toNatClampNeg]? = some x1) {x2 : Int32} (n2 : ¬ i + Int32.ofInt 2 < 0) (e2 : xs[(i + Int32.ofInt 2).toNatClampNeg]? = some x2) {x3 : Int32} (n3 : ¬ i + Int32.ofInt 3 < 0) (e3 : xs[(i + Int32.ofInt 3).toNatClampNeg]? = some x3) (n : Nat) : ∃ h', am_h (80, []) h' ∧ la_R xs (pm_big xs pm_m vm_lim d) (n + 37) 914 i [] h = la_R xs (pm_big xs pm_m vm_lim d) n 1333 i [] h' := by
  obtain ⟨v1, h1, c1, g1⟩ := lc_110 (xs := xs) hd hh x1 x2 x3
  obtain ⟨v2, h2, c2, g2⟩ := lc_209 (xs := xs) hd g1 x1 x2 x3
  refine ⟨h2, g2, ?_⟩
  refine Eq.trans (lr_914_919 _ _ _ _ (n + 32)) ?_
  refine Eq.trans (la_arg rfl n1 e1) ?_
  refine Eq.trans (lr_920_924 _ _ _ _ x1 (n + 27)) ?_
  refine Eq.trans (la_arg rfl n2 e2) ?_
  refine Eq.trans (lr_925_929 _ _ _ _ x1 x2 (n + 22)) ?_
  refine Eq.trans (la_arg rfl n3 e3) ?_
  refine Eq.trans (la_call (rest := []) rfl rfl rfl (Nat.le_of_ble_eq_true rfl) rfl rfl (la_obj hh (i := 0) rfl (by decide)) rfl rfl (Nat.le_of_ble_eq_true rfl) c1) ?_
  refine Eq.trans (lr_933_939 _ _ _ _ v1 (n + 14)) ?_
  refine Eq.trans (la_arg rfl n1 e1) ?_
  refine Eq.trans (lr_940_944 _ _ _ _ x1 (n + 9)) ?_
  refine Eq.trans (la_arg rfl n2 e2) ?_
  refine Eq.trans (lr_945_949 _ _ _ _ x1 x2 (n + 4)) ?_
  refine Eq.trans (la_arg rfl n3 e3) ?_
  refine Eq.trans (la_call (rest := []) rfl rfl rfl (Nat.le_of_ble_eq_true rfl) rfl rfl (la_obj g1 (i := 62) rfl (by decide)) rfl rfl (Nat.le_of_ble_eq_true rfl) c2) ?_
  exact lr_953_1333 _ _ _ _ v2 n
theorem lr_957_962 (xs : List Int32) (bc : Nat → List Value → pm_H → pm_R) (i : Int32) (h : pm_H) (m : Nat) : la_R xs bc (m + 5) 957 i [] h = la_R xs bc m 962 i [.int (i + Int32.ofInt 1), .ref 0, .ref 8] h := rfl
theorem lr_963_967 (xs : List Int32) (bc : Nat → List Value → pm_H → pm_R) (i : Int32) (h : pm_H) (x1 : Int32) (m : Nat) : la_R xs bc (m + 4) 963 i [.int x1, .ref 8] h = la_R xs bc m 967 i [.int (i + Int32.ofInt 2), .ref 0, .int x1, .ref 8] h := rfl
theorem lr_968_972 (xs : List Int32) (bc : Nat → List Value → pm_H → pm_R) (i : Int32) (h : pm_H) (x1 : Int32) (x2 : Int32) (m : Nat) : la_R xs bc (m + 4) 968 i [.int x2, .int x1, .ref 8] h = la_R xs bc m 972 i [.int (i + Int32.ofInt 3), .ref 0, .int x2, .int x1, .ref 8] h := rfl
theorem lr_976_982 (xs : List Int32) (bc : Nat → List Value → pm_H → pm_R) (i : Int32) (h : pm_H) (v1 : Int64) (m : Nat) : la_R xs bc (m + 6) 976 i [.long v1] h = la_R xs bc m 982 i [.int (i + Int32.ofInt 1), .ref 0, .ref 70] h := rfl
theorem lr_983_987 (xs : List Int32) (bc : Nat → List Value → pm_H → pm_R) (i : Int32) (h : pm_H) (x1 : Int32) (m : Nat) : la_R xs bc (m + 4) 983 i [.int x1, .ref 70] h = la_R xs bc m 987 i [.int (i + Int32.ofInt 2), .ref 0, .int x1, .ref 70] h := rfl
theorem lr_988_992 (xs : List Int32) (bc : Nat → List Value → pm_H → pm_R) (i : Int32) (h : pm_H) (x1 : Int32) (x2 : Int32) (m : Nat) : la_R xs bc (m + 4) 988 i [.int x2, .int x1, .ref 70] h = la_R xs bc m 992 i [.int (i + Int32.ofInt 3), .ref 0, .int x2, .int x1, .ref 70] h := rfl
theorem lr_996_1333 (xs : List Int32) (bc : Nat → List Value → pm_H → pm_R) (i : Int32) (h : pm_H) (v2 : Int64) (m : Nat) : la_R xs bc (m + 2) 996 i [.long v2] h = la_R xs bc m 1333 i [] h := rfl
theorem lc_112 {xs : List Int32} {d : Nat} (hd : 40 ≤ d) {h : pm_H} (hh : am_h (80, []) h) (x1 x2 x3 : Int32) : ∃ (v : Int64) (h' : pm_H), pm_big xs pm_m vm_lim d 112 [.ref 8, .int x1, .int x2, .int x3] h = some (some (.long v), h') ∧ am_h (80, []) h' := la_usel (vm_up v_290 rfl) (by decide +kernel) hd hh ⟨rfl, ⟨am_i.top x1, ⟨am_i.top x2, ⟨am_i.top x3, trivial⟩⟩⟩⟩
theorem lc_210 {xs : List Int32} {d : Nat} (hd : 40 ≤ d) {h : pm_H} (hh : am_h (80, []) h) (x1 x2 x3 : Int32) : ∃ (v : Int64) (h' : pm_H), pm_big xs pm_m vm_lim d 210 [.ref 70, .int x1, .int x2, .int x3] h = some (some (.long v), h') ∧ am_h (80, []) h' := la_usel (vm_up v_728 rfl) (by decide +kernel) hd hh ⟨rfl, ⟨am_i.top x1, ⟨am_i.top x2, ⟨am_i.top x3, trivial⟩⟩⟩⟩
theorem lz_27 {xs : List Int32} {i : Int32} {d : Nat} (hd : 40 ≤ d) {h : pm_H} (hh : am_h (80, []) h) {x1 : Int32} (n1 : ¬ i + Int32.ofInt 1 < 0) (e1 : xs[(i + Int32.ofInt 1).toNatClampNeg]? = some x1) {x2 : Int32} (n2 : ¬ i + Int32.ofInt 2 < 0) (e2 : xs[(i + Int32.ofInt 2).toNatClampNeg]? = some x2) {x3 : Int32} (n3 : ¬ i + Int32.ofInt 3 < 0) (e3 : xs[(i + Int32.ofInt 3).toNatClampNeg]? = some x3) (n : Nat) : ∃ h', am_h (80, []) h' ∧ la_R xs (pm_big xs pm_m vm_lim d) (n + 37) 957 i [] h = la_R xs (pm_big xs pm_m vm_lim d) n 1333 i [] h' := by
  obtain ⟨v1, h1, c1, g1⟩ := lc_112 (xs := xs) hd hh x1 x2 x3
  obtain ⟨v2, h2, c2, g2⟩ := lc_210 (xs := xs) hd g1 x1 x2 x3
  refine ⟨h2, g2, ?_⟩
  refine Eq.trans (lr_957_962 _ _ _ _ (n + 32)) ?_
  refine Eq.trans (la_arg rfl n1 e1) ?_
  refine Eq.trans (lr_963_967 _ _ _ _ x1 (n + 27)) ?_
  refine Eq.trans (la_arg rfl n2 e2) ?_
  refine Eq.trans (lr_968_972 _ _ _ _ x1 x2 (n + 22)) ?_
  refine Eq.trans (la_arg rfl n3 e3) ?_
  refine Eq.trans (la_call (rest := []) rfl rfl rfl (Nat.le_of_ble_eq_true rfl) rfl rfl (la_obj hh (i := 0) rfl (by decide)) rfl rfl (Nat.le_of_ble_eq_true rfl) c1) ?_
  refine Eq.trans (lr_976_982 _ _ _ _ v1 (n + 14)) ?_
  refine Eq.trans (la_arg rfl n1 e1) ?_
  refine Eq.trans (lr_983_987 _ _ _ _ x1 (n + 9)) ?_
  refine Eq.trans (la_arg rfl n2 e2) ?_
  refine Eq.trans (lr_988_992 _ _ _ _ x1 x2 (n + 4)) ?_
  refine Eq.trans (la_arg rfl n3 e3) ?_
  refine Eq.trans (la_call (rest := []) rfl rfl rfl (Nat.le_of_ble_eq_true rfl) rfl rfl (la_obj g1 (i := 62) rfl (by decide)) rfl rfl (Nat.le_of_ble_eq_true rfl) c2) ?_
  exact lr_996_1333 _ _ _ _ v2 n
theorem lr_1000_1005 (xs : List Int32) (bc : Nat → List Value → pm_H → pm_R) (i : Int32) (h : pm_H) (m : Nat) : la_R xs bc (m + 5) 1000 i [] h = la_R xs bc m 1005 i [.int (i + Int32.ofInt 1), .ref 0, .ref 8] h := rfl
theorem lr_1006_1010 (xs : List Int32) (bc : Nat → List Value → pm_H → pm_R) (i : Int32) (h : pm_H) (x1 : Int32) (m : Nat) : la_R xs bc (m + 4) 1006 i [.int x1, .ref 8] h = la_R xs bc m 1010 i [.int (i + Int32.ofInt 2), .ref 0, .int x1, .ref 8] h := rfl
theorem lr_1014_1020 (xs : List Int32) (bc : Nat → List Value → pm_H → pm_R) (i : Int32) (h : pm_H) (v1 : Int32) (m : Nat) : la_R xs bc (m + 6) 1014 i [.int v1] h = la_R xs bc m 1020 i [.int (i + Int32.ofInt 1), .ref 0, .ref 70] h := rfl
theorem lr_1021_1025 (xs : List Int32) (bc : Nat → List Value → pm_H → pm_R) (i : Int32) (h : pm_H) (x1 : Int32) (m : Nat) : la_R xs bc (m + 4) 1021 i [.int x1, .ref 70] h = la_R xs bc m 1025 i [.int (i + Int32.ofInt 2), .ref 0, .int x1, .ref 70] h := rfl
theorem lr_1029_1333 (xs : List Int32) (bc : Nat → List Value → pm_H → pm_R) (i : Int32) (h : pm_H) (v2 : Int32) (m : Nat) : la_R xs bc (m + 2) 1029 i [.int v2] h = la_R xs bc m 1333 i [] h := rfl
theorem lc_118 {xs : List Int32} {d : Nat} (hd : 40 ≤ d) {h : pm_H} (hh : am_h (80, []) h) (x1 x2 : Int32) : ∃ (v : Int32) (h' : pm_H), pm_big xs pm_m vm_lim d 118 [.ref 8, .int x1, .int x2] h = some (some (.int v), h') ∧ am_h (80, []) h' := la_use (vm_up v_291 rfl) (by decide +kernel) hd hh ⟨rfl, ⟨am_i.top x1, ⟨am_i.top x2, trivial⟩⟩⟩
theorem lc_212 {xs : List Int32} {d : Nat} (hd : 40 ≤ d) {h : pm_H} (hh : am_h (80, []) h) (x1 x2 : Int32) : ∃ (v : Int32) (h' : pm_H), pm_big xs pm_m vm_lim d 212 [.ref 70, .int x1, .int x2] h = some (some (.int v), h') ∧ am_h (80, []) h' := la_use (vm_up v_729 rfl) (by decide +kernel) hd hh ⟨rfl, ⟨am_i.top x1, ⟨am_i.top x2, trivial⟩⟩⟩
theorem lz_28 {xs : List Int32} {i : Int32} {d : Nat} (hd : 40 ≤ d) {h : pm_H} (hh : am_h (80, []) h) {x1 : Int32} (n1 : ¬ i + Int32.ofInt 1 < 0) (e1 : xs[(i + Int32.ofInt 1).toNatClampNeg]? = some x1) {x2 : Int32} (n2 : ¬ i + Int32.ofInt 2 < 0) (e2 : xs[(i + Int32.ofInt 2).toNatClampNeg]? = some x2) (n : Nat) : ∃ h', am_h (80, []) h' ∧ la_R xs (pm_big xs pm_m vm_lim d) (n + 27) 1000 i [] h = la_R xs (pm_big xs pm_m vm_lim d) n 1333 i [] h' := by
  obtain ⟨v1, h1, c1, g1⟩ := lc_118 (xs := xs) hd hh x1 x2
  obtain ⟨v2, h2, c2, g2⟩ := lc_212 (xs := xs) hd g1 x1 x2
  refine ⟨h2, g2, ?_⟩
  refine Eq.trans (lr_1000_1005 _ _ _ _ (n + 22)) ?_
  refine Eq.trans (la_arg rfl n1 e1) ?_
  refine Eq.trans (lr_1006_1010 _ _ _ _ x1 (n + 17)) ?_
  refine Eq.trans (la_arg rfl n2 e2) ?_
  refine Eq.trans (la_call (rest := []) rfl rfl rfl (Nat.le_of_ble_eq_true rfl) rfl rfl (la_obj hh (i := 0) rfl (by decide)) rfl rfl (Nat.le_of_ble_eq_true rfl) c1) ?_
  refine Eq.trans (lr_1014_1020 _ _ _ _ v1 (n + 9)) ?_
  refine Eq.trans (la_arg rfl n1 e1) ?_
  refine Eq.trans (lr_1021_1025 _ _ _ _ x1 (n + 4)) ?_
  refine Eq.trans (la_arg rfl n2 e2) ?_
  refine Eq.trans (la_call (rest := []) rfl rfl rfl (Nat.le_of_ble_eq_true rfl) rfl rfl (la_obj g1 (i := 62) rfl (by decide)) rfl rfl (Nat.le_of_ble_eq_true rfl) c2) ?_
  exact lr_1029_1333 _ _ _ _ v2 n
theorem lr_1033_1038 (xs : List Int32) (bc : Nat → List Value → pm_H → pm_R) (i : Int32) (h : pm_H) (m : Nat) : la_R xs bc (m + 5) 1033 i [] h = la_R xs bc m 1038 i [.int (i + Int32.ofInt 1), .ref 0, .ref 8] h := rfl
theorem lr_1042_1048 (xs : List Int32) (bc : Nat → List Value → pm_H → pm_R) (i : Int32) (h : pm_H) (v1 : Int32) (m : Nat) : la_R xs bc (m + 6) 1042 i [.int v1] h = la_R xs bc m 1048 i [.int (i + Int32.ofInt 1), .ref 0, .ref 70] h := rfl
theorem lr_1052_1333 (xs : List Int32) (bc : Nat → List Value → pm_H → pm_R) (i : Int32) (h : pm_H) (v2 : Int32) (m : Nat) : la_R xs bc (m + 2) 1052 i [.int v2] h = la_R xs bc m 1333 i [] h := rfl
theorem lc_119 {xs : List Int32} {d : Nat} (hd : 40 ≤ d) {h : pm_H} (hh : am_h (80, []) h) (x1 : Int32) : ∃ (v : Int32) (h' : pm_H), pm_big xs pm_m vm_lim d 119 [.ref 8, .int x1] h = some (some (.int v), h') ∧ am_h (80, []) h' := la_use (vm_up v_292 rfl) (by decide +kernel) hd hh ⟨rfl, ⟨am_i.top x1, trivial⟩⟩
theorem lc_213 {xs : List Int32} {d : Nat} (hd : 40 ≤ d) {h : pm_H} (hh : am_h (80, []) h) (x1 : Int32) : ∃ (v : Int32) (h' : pm_H), pm_big xs pm_m vm_lim d 213 [.ref 70, .int x1] h = some (some (.int v), h') ∧ am_h (80, []) h' := la_use (vm_up v_733 rfl) (by decide +kernel) hd hh ⟨rfl, ⟨am_i.top x1, trivial⟩⟩
theorem lz_29 {xs : List Int32} {i : Int32} {d : Nat} (hd : 40 ≤ d) {h : pm_H} (hh : am_h (80, []) h) {x1 : Int32} (n1 : ¬ i + Int32.ofInt 1 < 0) (e1 : xs[(i + Int32.ofInt 1).toNatClampNeg]? = some x1) (n : Nat) : ∃ h', am_h (80, []) h' ∧ la_R xs (pm_big xs pm_m vm_lim d) (n + 17) 1033 i [] h = la_R xs (pm_big xs pm_m vm_lim d) n 1333 i [] h' := by
  obtain ⟨v1, h1, c1, g1⟩ := lc_119 (xs := xs) hd hh x1
  obtain ⟨v2, h2, c2, g2⟩ := lc_213 (xs := xs) hd g1 x1
  refine ⟨h2, g2, ?_⟩
  refine Eq.trans (lr_1033_1038 _ _ _ _ (n + 12)) ?_
  refine Eq.trans (la_arg rfl n1 e1) ?_
  refine Eq.trans (la_call (rest := []) rfl rfl rfl (Nat.le_of_ble_eq_true rfl) rfl rfl (la_obj hh (i := 0) rfl (by decide)) rfl rfl (Nat.le_of_ble_eq_true rfl) c1) ?_
  refine Eq.trans (lr_1042_1048 _ _ _ _ v1 (n + 4)) ?_
  refine Eq.trans (la_arg rfl n1 e1) ?_
  refine Eq.trans (la_call (rest := []) rfl rfl rfl (Nat.le_of_ble_eq_true rfl) rfl rfl (la_obj g1 (i := 62) rfl (by decide)) rfl rfl (Nat.le_of_ble_eq_true rfl) c2) ?_
  exact lr_1052_1333 _ _ _ _ v2 n
theorem lr_1056_1061 (xs : List Int32) (bc : Nat → List Value → pm_H → pm_R) (i : Int32) (h : pm_H) (m : Nat) : la_R xs bc (m + 5) 1056 i [] h = la_R xs bc m 1061 i [.int (i + Int32.ofInt 1), .ref 0, .ref 8] h := rfl
theorem lr_1065_1071 (xs : List Int32) (bc : Nat → List Value → pm_H → pm_R) (i : Int32) (h : pm_H) (v1 : Int32) (m : Nat) : la_R xs bc (m + 6) 1065 i [.int v1] h = la_R xs bc m 1071 i [.int (i + Int32.ofInt 1), .ref 0, .ref 70] h := rfl
theorem lr_1075_1333 (xs : List Int32) (bc : Nat → List Value → pm_H → pm_R) (i : Int32) (h : pm_H) (v2 : Int32) (m : Nat) : la_R xs bc (m + 2) 1075 i [.int v2] h = la_R xs bc m 1333 i [] h := rfl
theorem lc_120 {xs : List Int32} {d : Nat} (hd : 40 ≤ d) {h : pm_H} (hh : am_h (80, []) h) (x1 : Int32) : ∃ (v : Int32) (h' : pm_H), pm_big xs pm_m vm_lim d 120 [.ref 8, .int x1] h = some (some (.int v), h') ∧ am_h (80, []) h' := la_use (vm_up v_293 rfl) (by decide +kernel) hd hh ⟨rfl, ⟨am_i.top x1, trivial⟩⟩
theorem lc_214 {xs : List Int32} {d : Nat} (hd : 40 ≤ d) {h : pm_H} (hh : am_h (80, []) h) (x1 : Int32) : ∃ (v : Int32) (h' : pm_H), pm_big xs pm_m vm_lim d 214 [.ref 70, .int x1] h = some (some (.int v), h') ∧ am_h (80, []) h' := la_use (vm_up v_734 rfl) (by decide +kernel) hd hh ⟨rfl, ⟨am_i.top x1, trivial⟩⟩
theorem lz_30 {xs : List Int32} {i : Int32} {d : Nat} (hd : 40 ≤ d) {h : pm_H} (hh : am_h (80, []) h) {x1 : Int32} (n1 : ¬ i + Int32.ofInt 1 < 0) (e1 : xs[(i + Int32.ofInt 1).toNatClampNeg]? = some x1) (n : Nat) : ∃ h', am_h (80, []) h' ∧ la_R xs (pm_big xs pm_m vm_lim d) (n + 17) 1056 i [] h = la_R xs (pm_big xs pm_m vm_lim d) n 1333 i [] h' := by
  obtain ⟨v1, h1, c1, g1⟩ := lc_120 (xs := xs) hd hh x1
  obtain ⟨v2, h2, c2, g2⟩ := lc_214 (xs := xs) hd g1 x1
  refine ⟨h2, g2, ?_⟩
  refine Eq.trans (lr_1056_1061 _ _ _ _ (n + 12)) ?_
  refine Eq.trans (la_arg rfl n1 e1) ?_
  refine Eq.trans (la_call (rest := []) rfl rfl rfl (Nat.le_of_ble_eq_true rfl) rfl rfl (la_obj hh (i := 0) rfl (by decide)) rfl rfl (Nat.le_of_ble_eq_true rfl) c1) ?_
  refine Eq.trans (lr_1065_1071 _ _ _ _ v1 (n + 4)) ?_
  refine Eq.trans (la_arg rfl n1 e1) ?_
  refine Eq.trans (la_call (rest := []) rfl rfl rfl (Nat.le_of_ble_eq_true rfl) rfl rfl (la_obj g1 (i := 62) rfl (by decide)) rfl rfl (Nat.le_of_ble_eq_true rfl) c2) ?_
  exact lr_1075_1333 _ _ _ _ v2 n
theorem lr_1079_1084 (xs : List Int32) (bc : Nat → List Value → pm_H → pm_R) (i : Int32) (h : pm_H) (m : Nat) : la_R xs bc (m + 5) 1079 i [] h = la_R xs bc m 1084 i [.int (i + Int32.ofInt 1), .ref 0, .ref 8] h := rfl
theorem lr_1085_1089 (xs : List Int32) (bc : Nat → List Value → pm_H → pm_R) (i : Int32) (h : pm_H) (x1 : Int32) (m : Nat) : la_R xs bc (m + 4) 1085 i [.int x1, .ref 8] h = la_R xs bc m 1089 i [.int (i + Int32.ofInt 2), .ref 0, .int x1, .ref 8] h := rfl
theorem lr_1093_1099 (xs : List Int32) (bc : Nat → List Value → pm_H → pm_R) (i : Int32) (h : pm_H) (v1 : Int32) (m : Nat) : la_R xs bc (m + 6) 1093 i [.int v1] h = la_R xs bc m 1099 i [.int (i + Int32.ofInt 1), .ref 0, .ref 70] h := rfl
theorem lr_1100_1104 (xs : List Int32) (bc : Nat → List Value → pm_H → pm_R) (i : Int32) (h : pm_H) (x1 : Int32) (m : Nat) : la_R xs bc (m + 4) 1100 i [.int x1, .ref 70] h = la_R xs bc m 1104 i [.int (i + Int32.ofInt 2), .ref 0, .int x1, .ref 70] h := rfl
theorem lr_1108_1333 (xs : List Int32) (bc : Nat → List Value → pm_H → pm_R) (i : Int32) (h : pm_H) (v2 : Int32) (m : Nat) : la_R xs bc (m + 2) 1108 i [.int v2] h = la_R xs bc m 1333 i [] h := rfl
theorem lc_125 {xs : List Int32} {d : Nat} (hd : 40 ≤ d) {h : pm_H} (hh : am_h (80, []) h) (x1 x2 : Int32) : ∃ (v : Int32) (h' : pm_H), pm_big xs pm_m vm_lim d 125 [.ref 8, .int x1, .int x2] h = some (some (.int v), h') ∧ am_h (80, []) h' := la_use (vm_up v_294 rfl) (by decide +kernel) hd hh ⟨rfl, ⟨am_i.top x1, ⟨am_i.top x2, trivial⟩⟩⟩
theorem lc_215 {xs : List Int32} {d : Nat} (hd : 40 ≤ d) {h : pm_H} (hh : am_h (80, []) h) (x1 x2 : Int32) : ∃ (v : Int32) (h' : pm_H), pm_big xs pm_m vm_lim d 215 [.ref 70, .int x1, .int x2] h = some (some (.int v), h') ∧ am_h (80, []) h' := la_use (vm_up v_738 rfl) (by decide +kernel) hd hh ⟨rfl, ⟨am_i.top x1, ⟨am_i.top x2, trivial⟩⟩⟩
theorem lz_31 {xs : List Int32} {i : Int32} {d : Nat} (hd : 40 ≤ d) {h : pm_H} (hh : am_h (80, []) h) {x1 : Int32} (n1 : ¬ i + Int32.ofInt 1 < 0) (e1 : xs[(i + Int32.ofInt 1).toNatClampNeg]? = some x1) {x2 : Int32} (n2 : ¬ i + Int32.ofInt 2 < 0) (e2 : xs[(i + Int32.ofInt 2).toNatClampNeg]? = some x2) (n : Nat) : ∃ h', am_h (80, []) h' ∧ la_R xs (pm_big xs pm_m vm_lim d) (n + 27) 1079 i [] h = la_R xs (pm_big xs pm_m vm_lim d) n 1333 i [] h' := by
  obtain ⟨v1, h1, c1, g1⟩ := lc_125 (xs := xs) hd hh x1 x2
  obtain ⟨v2, h2, c2, g2⟩ := lc_215 (xs := xs) hd g1 x1 x2
  refine ⟨h2, g2, ?_⟩
  refine Eq.trans (lr_1079_1084 _ _ _ _ (n + 22)) ?_
  refine Eq.trans (la_arg rfl n1 e1) ?_
  refine Eq.trans (lr_1085_1089 _ _ _ _ x1 (n + 17)) ?_
  refine Eq.trans (la_arg rfl n2 e2) ?_
  refine Eq.trans (la_call (rest := []) rfl rfl rfl (Nat.le_of_ble_eq_true rfl) rfl rfl (la_obj hh (i := 0) rfl (by decide)) rfl rfl (Nat.le_of_ble_eq_true rfl) c1) ?_
  refine Eq.trans (lr_1093_1099 _ _ _ _ v1 (n + 9)) ?_
  refine Eq.trans (la_arg rfl n1 e1) ?_
  refine Eq.trans (lr_1100_1104 _ _ _ _ x1 (n + 4)) ?_
  refine Eq.trans (la_arg rfl n2 e2) ?_
  refine Eq.trans (la_call (rest := []) rfl rfl rfl (Nat.le_of_ble_eq_true rfl) rfl rfl (la_obj g1 (i := 62) rfl (by decide)) rfl rfl (Nat.le_of_ble_eq_true rfl) c2) ?_
  exact lr_1108_1333 _ _ _ _ v2 n
theorem lr_1112_1117 (xs : List Int32) (bc : Nat → List Value → pm_H → pm_R) (i : Int32) (h : pm_H) (m : Nat) : la_R xs bc (m + 5) 1112 i [] h = la_R xs bc m 1117 i [.int (i + Int32.ofInt 1), .ref 0, .ref 8] h := rfl
theorem lr_1121_1127 (xs : List Int32) (bc : Nat → List Value → pm_H → pm_R) (i : Int32) (h : pm_H) (v1 : Int32) (m : Nat) : la_R xs bc (m + 6) 1121 i [.int v1] h = la_R xs bc m 1127 i [.int (i + Int32.ofInt 1), .ref 0, .ref 70] h := rfl
theorem lr_1131_1333 (xs : List Int32) (bc : Nat → List Value → pm_H → pm_R) (i : Int32) (h : pm_H) (v2 : Int32) (m : Nat) : la_R xs bc (m + 2) 1131 i [.int v2] h = la_R xs bc m 1333 i [] h := rfl
theorem lc_128 {xs : List Int32} {d : Nat} (hd : 40 ≤ d) {h : pm_H} (hh : am_h (80, []) h) (x1 : Int32) : ∃ (v : Int32) (h' : pm_H), pm_big xs pm_m vm_lim d 128 [.ref 8, .int x1] h = some (some (.int v), h') ∧ am_h (80, []) h' := la_use (vm_up v_295 rfl) (by decide +kernel) hd hh ⟨rfl, ⟨am_i.top x1, trivial⟩⟩
theorem lc_216 {xs : List Int32} {d : Nat} (hd : 40 ≤ d) {h : pm_H} (hh : am_h (80, []) h) (x1 : Int32) : ∃ (v : Int32) (h' : pm_H), pm_big xs pm_m vm_lim d 216 [.ref 70, .int x1] h = some (some (.int v), h') ∧ am_h (80, []) h' := la_use (vm_up v_747 rfl) (by decide +kernel) hd hh ⟨rfl, ⟨am_i.top x1, trivial⟩⟩
theorem lz_32 {xs : List Int32} {i : Int32} {d : Nat} (hd : 40 ≤ d) {h : pm_H} (hh : am_h (80, []) h) {x1 : Int32} (n1 : ¬ i + Int32.ofInt 1 < 0) (e1 : xs[(i + Int32.ofInt 1).toNatClampNeg]? = some x1) (n : Nat) : ∃ h', am_h (80, []) h' ∧ la_R xs (pm_big xs pm_m vm_lim d) (n + 17) 1112 i [] h = la_R xs (pm_big xs pm_m vm_lim d) n 1333 i [] h' := by
  obtain ⟨v1, h1, c1, g1⟩ := lc_128 (xs := xs) hd hh x1
  obtain ⟨v2, h2, c2, g2⟩ := lc_216 (xs := xs) hd g1 x1
  refine ⟨h2, g2, ?_⟩
  refine Eq.trans (lr_1112_1117 _ _ _ _ (n + 12)) ?_
  refine Eq.trans (la_arg rfl n1 e1) ?_
  refine Eq.trans (la_call (rest := []) rfl rfl rfl (Nat.le_of_ble_eq_true rfl) rfl rfl (la_obj hh (i := 0) rfl (by decide)) rfl rfl (Nat.le_of_ble_eq_true rfl) c1) ?_
  refine Eq.trans (lr_1121_1127 _ _ _ _ v1 (n + 4)) ?_
  refine Eq.trans (la_arg rfl n1 e1) ?_
  refine Eq.trans (la_call (rest := []) rfl rfl rfl (Nat.le_of_ble_eq_true rfl) rfl rfl (la_obj g1 (i := 62) rfl (by decide)) rfl rfl (Nat.le_of_ble_eq_true rfl) c2) ?_
  exact lr_1131_1333 _ _ _ _ v2 n
theorem lr_1135_1140 (xs : List Int32) (bc : Nat → List Value → pm_H → pm_R) (i : Int32) (h : pm_H) (m : Nat) : la_R xs bc (m + 5) 1135 i [] h = la_R xs bc m 1140 i [.int (i + Int32.ofInt 1), .ref 0, .ref 8] h := rfl
theorem lr_1144_1150 (xs : List Int32) (bc : Nat → List Value → pm_H → pm_R) (i : Int32) (h : pm_H) (v1 : Int32) (m : Nat) : la_R xs bc (m + 6) 1144 i [.int v1] h = la_R xs bc m 1150 i [.int (i + Int32.ofInt 1), .ref 0, .ref 70] h := rfl
theorem lr_1154_1333 (xs : List Int32) (bc : Nat → List Value → pm_H → pm_R) (i : Int32) (h : pm_H) (v2 : Int32) (m : Nat) : la_R xs bc (m + 2) 1154 i [.int v2] h = la_R xs bc m 1333 i [] h := rfl
theorem lc_129 {xs : List Int32} {d : Nat} (hd : 40 ≤ d) {h : pm_H} (hh : am_h (80, []) h) (x1 : Int32) : ∃ (v : Int32) (h' : pm_H), pm_big xs pm_m vm_lim d 129 [.ref 8, .int x1] h = some (some (.int v), h') ∧ am_h (80, []) h' := la_use (vm_up v_296 rfl) (by decide +kernel) hd hh ⟨rfl, ⟨am_i.top x1, trivial⟩⟩
theorem lc_218 {xs : List Int32} {d : Nat} (hd : 40 ≤ d) {h : pm_H} (hh : am_h (80, []) h) (x1 : Int32) : ∃ (v : Int32) (h' : pm_H), pm_big xs pm_m vm_lim d 218 [.ref 70, .int x1] h = some (some (.int v), h') ∧ am_h (80, []) h' := la_use (vm_up v_748 rfl) (by decide +kernel) hd hh ⟨rfl, ⟨am_i.top x1, trivial⟩⟩
theorem lz_33 {xs : List Int32} {i : Int32} {d : Nat} (hd : 40 ≤ d) {h : pm_H} (hh : am_h (80, []) h) {x1 : Int32} (n1 : ¬ i + Int32.ofInt 1 < 0) (e1 : xs[(i + Int32.ofInt 1).toNatClampNeg]? = some x1) (n : Nat) : ∃ h', am_h (80, []) h' ∧ la_R xs (pm_big xs pm_m vm_lim d) (n + 17) 1135 i [] h = la_R xs (pm_big xs pm_m vm_lim d) n 1333 i [] h' := by
  obtain ⟨v1, h1, c1, g1⟩ := lc_129 (xs := xs) hd hh x1
  obtain ⟨v2, h2, c2, g2⟩ := lc_218 (xs := xs) hd g1 x1
  refine ⟨h2, g2, ?_⟩
  refine Eq.trans (lr_1135_1140 _ _ _ _ (n + 12)) ?_
  refine Eq.trans (la_arg rfl n1 e1) ?_
  refine Eq.trans (la_call (rest := []) rfl rfl rfl (Nat.le_of_ble_eq_true rfl) rfl rfl (la_obj hh (i := 0) rfl (by decide)) rfl rfl (Nat.le_of_ble_eq_true rfl) c1) ?_
  refine Eq.trans (lr_1144_1150 _ _ _ _ v1 (n + 4)) ?_
  refine Eq.trans (la_arg rfl n1 e1) ?_
  refine Eq.trans (la_call (rest := []) rfl rfl rfl (Nat.le_of_ble_eq_true rfl) rfl rfl (la_obj g1 (i := 62) rfl (by decide)) rfl rfl (Nat.le_of_ble_eq_true rfl) c2) ?_
  exact lr_1154_1333 _ _ _ _ v2 n
theorem lr_1158_1163 (xs : List Int32) (bc : Nat → List Value → pm_H → pm_R) (i : Int32) (h : pm_H) (m : Nat) : la_R xs bc (m + 5) 1158 i [] h = la_R xs bc m 1163 i [.int (i + Int32.ofInt 1), .ref 0, .ref 8] h := rfl
theorem lr_1164_1168 (xs : List Int32) (bc : Nat → List Value → pm_H → pm_R) (i : Int32) (h : pm_H) (x1 : Int32) (m : Nat) : la_R xs bc (m + 4) 1164 i [.int x1, .ref 8] h = la_R xs bc m 1168 i [.int (i + Int32.ofInt 2), .ref 0, .int x1, .ref 8] h := rfl
theorem lr_1169_1173 (xs : List Int32) (bc : Nat → List Value → pm_H → pm_R) (i : Int32) (h : pm_H) (x1 : Int32) (x2 : Int32) (m : Nat) : la_R xs bc (m + 4) 1169 i [.int x2, .int x1, .ref 8] h = la_R xs bc m 1173 i [.int (i + Int32.ofInt 3), .ref 0, .int x2, .int x1, .ref 8] h := rfl
theorem lr_1177_1182 (xs : List Int32) (bc : Nat → List Value → pm_H → pm_R) (i : Int32) (h : pm_H) (v : Int32) (m : Nat) : la_R xs bc (m + 5) 1177 i [.int v] h = la_R xs bc m 1182 i [.int (i + Int32.ofInt 1), .ref 0, .ref 70, .int v] h := rfl
theorem lr_1183_1187 (xs : List Int32) (bc : Nat → List Value → pm_H → pm_R) (i : Int32) (h : pm_H) (v : Int32) (x1 : Int32) (m : Nat) : la_R xs bc (m + 4) 1183 i [.int x1, .ref 70, .int v] h = la_R xs bc m 1187 i [.int (i + Int32.ofInt 2), .ref 0, .int x1, .ref 70, .int v] h := rfl
theorem lr_1188_1192 (xs : List Int32) (bc : Nat → List Value → pm_H → pm_R) (i : Int32) (h : pm_H) (v : Int32) (x1 : Int32) (x2 : Int32) (m : Nat) : la_R xs bc (m + 4) 1188 i [.int x2, .int x1, .ref 70, .int v] h = la_R xs bc m 1192 i [.int (i + Int32.ofInt 3), .ref 0, .int x2, .int x1, .ref 70, .int v] h := rfl
theorem lr_1196_c (xs : List Int32) (bc : Nat → List Value → pm_H → pm_R) (i : Int32) (h : pm_H) (x : Int32) (m : Nat) : la_R xs bc (m + 1) 1196 i [.int x, .int x] h = la_R xs bc m 1333 i [] h := if_pos rfl
theorem lz_34 {xs : List Int32} {i : Int32} {d : Nat} (hd : 40 ≤ d) {h : pm_H} (hh : am_h (80, []) h) {x1 : Int32} (n1 : ¬ i + Int32.ofInt 1 < 0) (e1 : xs[(i + Int32.ofInt 1).toNatClampNeg]? = some x1) {x2 : Int32} (n2 : ¬ i + Int32.ofInt 2 < 0) (e2 : xs[(i + Int32.ofInt 2).toNatClampNeg]? = some x2) {x3 : Int32} (n3 : ¬ i + Int32.ofInt 3 < 0) (e3 : xs[(i + Int32.ofInt 3).toNatClampNeg]? = some x3) (n : Nat) : ∃ h', am_h (80, []) h' ∧ la_R xs (pm_big xs pm_m vm_lim d) (n + 35) 1158 i [] h = la_R xs (pm_big xs pm_m vm_lim d) n 1333 i [] h' := by
  obtain ⟨v, h1, h2, c1, g1, c2, g2⟩ := lc_sheet (xs := xs) hd hh x1 x2 x3
  refine ⟨h2, g2, ?_⟩
  refine Eq.trans (lr_1158_1163 _ _ _ _ (n + 30)) ?_
  refine Eq.trans (la_arg rfl n1 e1) ?_
  refine Eq.trans (lr_1164_1168 _ _ _ _ x1 (n + 25)) ?_
  refine Eq.trans (la_arg rfl n2 e2) ?_
  refine Eq.trans (lr_1169_1173 _ _ _ _ x1 x2 (n + 20)) ?_
  refine Eq.trans (la_arg rfl n3 e3) ?_
  refine Eq.trans (la_call (rest := []) rfl rfl rfl (Nat.le_of_ble_eq_true rfl) rfl rfl (la_obj hh (i := 0) rfl (by decide)) rfl rfl (Nat.le_of_ble_eq_true rfl) c1) ?_
  refine Eq.trans (lr_1177_1182 _ _ _ _ v (n + 13)) ?_
  refine Eq.trans (la_arg rfl n1 e1) ?_
  refine Eq.trans (lr_1183_1187 _ _ _ _ v x1 (n + 8)) ?_
  refine Eq.trans (la_arg rfl n2 e2) ?_
  refine Eq.trans (lr_1188_1192 _ _ _ _ v x1 x2 (n + 3)) ?_
  refine Eq.trans (la_arg rfl n3 e3) ?_
  refine Eq.trans (la_call (rest := [.int v]) rfl rfl rfl (Nat.le_of_ble_eq_true rfl) rfl rfl (la_obj g1 (i := 62) rfl (by decide)) rfl rfl (Nat.le_of_ble_eq_true rfl) c2) ?_
  exact lr_1196_c _ _ _ _ _ n
theorem lr_1201_1206 (xs : List Int32) (bc : Nat → List Value → pm_H → pm_R) (i : Int32) (h : pm_H) (m : Nat) : la_R xs bc (m + 5) 1201 i [] h = la_R xs bc m 1206 i [.int (i + Int32.ofInt 1), .ref 0, .ref 8] h := rfl
theorem lr_1207_1211 (xs : List Int32) (bc : Nat → List Value → pm_H → pm_R) (i : Int32) (h : pm_H) (x1 : Int32) (m : Nat) : la_R xs bc (m + 4) 1207 i [.int x1, .ref 8] h = la_R xs bc m 1211 i [.int (i + Int32.ofInt 2), .ref 0, .int x1, .ref 8] h := rfl
theorem lr_1212_1216 (xs : List Int32) (bc : Nat → List Value → pm_H → pm_R) (i : Int32) (h : pm_H) (x1 : Int32) (x2 : Int32) (m : Nat) : la_R xs bc (m + 4) 1212 i [.int x2, .int x1, .ref 8] h = la_R xs bc m 1216 i [.int (i + Int32.ofInt 3), .ref 0, .int x2, .int x1, .ref 8] h := rfl
theorem lr_1220_1226 (xs : List Int32) (bc : Nat → List Value → pm_H → pm_R) (i : Int32) (h : pm_H) (v1 : Int32) (m : Nat) : la_R xs bc (m + 6) 1220 i [.int v1] h = la_R xs bc m 1226 i [.int (i + Int32.ofInt 1), .ref 0, .ref 70] h := rfl
theorem lr_1227_1231 (xs : List Int32) (bc : Nat → List Value → pm_H → pm_R) (i : Int32) (h : pm_H) (x1 : Int32) (m : Nat) : la_R xs bc (m + 4) 1227 i [.int x1, .ref 70] h = la_R xs bc m 1231 i [.int (i + Int32.ofInt 2), .ref 0, .int x1, .ref 70] h := rfl
theorem lr_1232_1236 (xs : List Int32) (bc : Nat → List Value → pm_H → pm_R) (i : Int32) (h : pm_H) (x1 : Int32) (x2 : Int32) (m : Nat) : la_R xs bc (m + 4) 1232 i [.int x2, .int x1, .ref 70] h = la_R xs bc m 1236 i [.int (i + Int32.ofInt 3), .ref 0, .int x2, .int x1, .ref 70] h := rfl
theorem lr_1240_1333 (xs : List Int32) (bc : Nat → List Value → pm_H → pm_R) (i : Int32) (h : pm_H) (v2 : Int32) (m : Nat) : la_R xs bc (m + 2) 1240 i [.int v2] h = la_R xs bc m 1333 i [] h := rfl
theorem lc_134 {xs : List Int32} {d : Nat} (hd : 40 ≤ d) {h : pm_H} (hh : am_h (80, []) h) (x1 x2 x3 : Int32) : ∃ (v : Int32) (h' : pm_H), pm_big xs pm_m vm_lim d 134 [.ref 8, .int x1, .int x2, .int x3] h = some (some (.int v), h') ∧ am_h (80, []) h' := la_use (vm_up v_309 rfl) (by decide +kernel) hd hh ⟨rfl, ⟨am_i.top x1, ⟨am_i.top x2, ⟨am_i.top x3, trivial⟩⟩⟩⟩
theorem lc_221 {xs : List Int32} {d : Nat} (hd : 40 ≤ d) {h : pm_H} (hh : am_h (80, []) h) (x1 x2 x3 : Int32) : ∃ (v : Int32) (h' : pm_H), pm_big xs pm_m vm_lim d 221 [.ref 70, .int x1, .int x2, .int x3] h = some (some (.int v), h') ∧ am_h (80, []) h' := la_use (vm_up v_806 rfl) (by decide +kernel) hd hh ⟨rfl, ⟨am_i.top x1, ⟨am_i.top x2, ⟨am_i.top x3, trivial⟩⟩⟩⟩
theorem lz_35 {xs : List Int32} {i : Int32} {d : Nat} (hd : 40 ≤ d) {h : pm_H} (hh : am_h (80, []) h) {x1 : Int32} (n1 : ¬ i + Int32.ofInt 1 < 0) (e1 : xs[(i + Int32.ofInt 1).toNatClampNeg]? = some x1) {x2 : Int32} (n2 : ¬ i + Int32.ofInt 2 < 0) (e2 : xs[(i + Int32.ofInt 2).toNatClampNeg]? = some x2) {x3 : Int32} (n3 : ¬ i + Int32.ofInt 3 < 0) (e3 : xs[(i + Int32.ofInt 3).toNatClampNeg]? = some x3) (n : Nat) : ∃ h', am_h (80, []) h' ∧ la_R xs (pm_big xs pm_m vm_lim d) (n + 37) 1201 i [] h = la_R xs (pm_big xs pm_m vm_lim d) n 1333 i [] h' := by
  obtain ⟨v1, h1, c1, g1⟩ := lc_134 (xs := xs) hd hh x1 x2 x3
  obtain ⟨v2, h2, c2, g2⟩ := lc_221 (xs := xs) hd g1 x1 x2 x3
  refine ⟨h2, g2, ?_⟩
  refine Eq.trans (lr_1201_1206 _ _ _ _ (n + 32)) ?_
  refine Eq.trans (la_arg rfl n1 e1) ?_
  refine Eq.trans (lr_1207_1211 _ _ _ _ x1 (n + 27)) ?_
  refine Eq.trans (la_arg rfl n2 e2) ?_
  refine Eq.trans (lr_1212_1216 _ _ _ _ x1 x2 (n + 22)) ?_
  refine Eq.trans (la_arg rfl n3 e3) ?_
  refine Eq.trans (la_call (rest := []) rfl rfl rfl (Nat.le_of_ble_eq_true rfl) rfl rfl (la_obj hh (i := 0) rfl (by decide)) rfl rfl (Nat.le_of_ble_eq_true rfl) c1) ?_
  refine Eq.trans (lr_1220_1226 _ _ _ _ v1 (n + 14)) ?_
  refine Eq.trans (la_arg rfl n1 e1) ?_
  refine Eq.trans (lr_1227_1231 _ _ _ _ x1 (n + 9)) ?_
  refine Eq.trans (la_arg rfl n2 e2) ?_
  refine Eq.trans (lr_1232_1236 _ _ _ _ x1 x2 (n + 4)) ?_
  refine Eq.trans (la_arg rfl n3 e3) ?_
  refine Eq.trans (la_call (rest := []) rfl rfl rfl (Nat.le_of_ble_eq_true rfl) rfl rfl (la_obj g1 (i := 62) rfl (by decide)) rfl rfl (Nat.le_of_ble_eq_true rfl) c2) ?_
  exact lr_1240_1333 _ _ _ _ v2 n
theorem lr_1244_1249 (xs : List Int32) (bc : Nat → List Value → pm_H → pm_R) (i : Int32) (h : pm_H) (m : Nat) : la_R xs bc (m + 5) 1244 i [] h = la_R xs bc m 1249 i [.int (i + Int32.ofInt 1), .ref 0, .ref 8] h := rfl
theorem lr_1250_1254 (xs : List Int32) (bc : Nat → List Value → pm_H → pm_R) (i : Int32) (h : pm_H) (x1 : Int32) (m : Nat) : la_R xs bc (m + 4) 1250 i [.int x1, .ref 8] h = la_R xs bc m 1254 i [.int (i + Int32.ofInt 2), .ref 0, .int x1, .ref 8] h := rfl
theorem lr_1255_1259 (xs : List Int32) (bc : Nat → List Value → pm_H → pm_R) (i : Int32) (h : pm_H) (x1 : Int32) (x2 : Int32) (m : Nat) : la_R xs bc (m + 4) 1255 i [.int x2, .int x1, .ref 8] h = la_R xs bc m 1259 i [.int (i + Int32.ofInt 3), .ref 0, .int x2, .int x1, .ref 8] h := rfl
theorem lr_1260_1264 (xs : List Int32) (bc : Nat → List Value → pm_H → pm_R) (i : Int32) (h : pm_H) (x1 : Int32) (x2 : Int32) (x3 : Int32) (m : Nat) : la_R xs bc (m + 4) 1260 i [.int x3, .int x2, .int x1, .ref 8] h = la_R xs bc m 1264 i [.int (i + Int32.ofInt 4), .ref 0, .int x3, .int x2, .int x1, .ref 8] h := rfl
theorem lr_1268_1274 (xs : List Int32) (bc : Nat → List Value → pm_H → pm_R) (i : Int32) (h : pm_H) (v1 : Int32) (m : Nat) : la_R xs bc (m + 6) 1268 i [.int v1] h = la_R xs bc m 1274 i [.int (i + Int32.ofInt 1), .ref 0, .ref 70] h := rfl
theorem lr_1275_1279 (xs : List Int32) (bc : Nat → List Value → pm_H → pm_R) (i : Int32) (h : pm_H) (x1 : Int32) (m : Nat) : la_R xs bc (m + 4) 1275 i [.int x1, .ref 70] h = la_R xs bc m 1279 i [.int (i + Int32.ofInt 2), .ref 0, .int x1, .ref 70] h := rfl
theorem lr_1280_1284 (xs : List Int32) (bc : Nat → List Value → pm_H → pm_R) (i : Int32) (h : pm_H) (x1 : Int32) (x2 : Int32) (m : Nat) : la_R xs bc (m + 4) 1280 i [.int x2, .int x1, .ref 70] h = la_R xs bc m 1284 i [.int (i + Int32.ofInt 3), .ref 0, .int x2, .int x1, .ref 70] h := rfl
theorem lr_1285_1289 (xs : List Int32) (bc : Nat → List Value → pm_H → pm_R) (i : Int32) (h : pm_H) (x1 : Int32) (x2 : Int32) (x3 : Int32) (m : Nat) : la_R xs bc (m + 4) 1285 i [.int x3, .int x2, .int x1, .ref 70] h = la_R xs bc m 1289 i [.int (i + Int32.ofInt 4), .ref 0, .int x3, .int x2, .int x1, .ref 70] h := rfl
theorem lr_1293_1333 (xs : List Int32) (bc : Nat → List Value → pm_H → pm_R) (i : Int32) (h : pm_H) (v2 : Int32) (m : Nat) : la_R xs bc (m + 2) 1293 i [.int v2] h = la_R xs bc m 1333 i [] h := rfl
theorem lc_138 {xs : List Int32} {d : Nat} (hd : 40 ≤ d) {h : pm_H} (hh : am_h (80, []) h) (x1 x2 x3 x4 : Int32) : ∃ (v : Int32) (h' : pm_H), pm_big xs pm_m vm_lim d 138 [.ref 8, .int x1, .int x2, .int x3, .int x4] h = some (some (.int v), h') ∧ am_h (80, []) h' := by
  have r := am_i.rng x1
  by_cases g0 : x1.toInt ≤ (-1 : Int)
  · exact la_use (vm_up v_479 rfl) (by decide +kernel) hd hh ⟨rfl, ⟨(show (-2147483648 : Int) ≤ x1.toInt ∧ x1.toInt ≤ (-1 : Int) by omega), ⟨am_i.top x2, ⟨am_i.top x3, ⟨am_i.top x4, trivial⟩⟩⟩⟩⟩
  by_cases g1 : x1.toInt ≤ (0 : Int)
  · exact la_use (vm_up v_472 rfl) (by decide +kernel) hd hh ⟨rfl, ⟨(show (0 : Int) ≤ x1.toInt ∧ x1.toInt ≤ (0 : Int) by omega), ⟨am_i.top x2, ⟨am_i.top x3, ⟨am_i.top x4, trivial⟩⟩⟩⟩⟩
  by_cases g2 : x1.toInt ≤ (1 : Int)
  · exact la_use (vm_up v_474 rfl) (by decide +kernel) hd hh ⟨rfl, ⟨(show (1 : Int) ≤ x1.toInt ∧ x1.toInt ≤ (1 : Int) by omega), ⟨am_i.top x2, ⟨am_i.top x3, ⟨am_i.top x4, trivial⟩⟩⟩⟩⟩
  by_cases g3 : x1.toInt ≤ (2 : Int)
  · exact la_use (vm_up v_476 rfl) (by decide +kernel) hd hh ⟨rfl, ⟨(show (2 : Int) ≤ x1.toInt ∧ x1.toInt ≤ (2 : Int) by omega), ⟨am_i.top x2, ⟨am_i.top x3, ⟨am_i.top x4, trivial⟩⟩⟩⟩⟩
  by_cases g4 : x1.toInt ≤ (3 : Int)
  · exact la_use (vm_up v_478 rfl) (by decide +kernel) hd hh ⟨rfl, ⟨(show (3 : Int) ≤ x1.toInt ∧ x1.toInt ≤ (3 : Int) by omega), ⟨am_i.top x2, ⟨am_i.top x3, ⟨am_i.top x4, trivial⟩⟩⟩⟩⟩
  exact la_use (vm_up v_480 rfl) (by decide +kernel) hd hh ⟨rfl, ⟨(show (4 : Int) ≤ x1.toInt ∧ x1.toInt ≤ (2147483647 : Int) by omega), ⟨am_i.top x2, ⟨am_i.top x3, ⟨am_i.top x4, trivial⟩⟩⟩⟩⟩
theorem lc_222 {xs : List Int32} {d : Nat} (hd : 40 ≤ d) {h : pm_H} (hh : am_h (80, []) h) (x1 x2 x3 x4 : Int32) : ∃ (v : Int32) (h' : pm_H), pm_big xs pm_m vm_lim d 222 [.ref 70, .int x1, .int x2, .int x3, .int x4] h = some (some (.int v), h') ∧ am_h (80, []) h' := la_use (vm_up v_812 rfl) (by decide +kernel) hd hh ⟨rfl, ⟨am_i.top x1, ⟨am_i.top x2, ⟨am_i.top x3, ⟨am_i.top x4, trivial⟩⟩⟩⟩⟩
theorem lz_36 {xs : List Int32} {i : Int32} {d : Nat} (hd : 40 ≤ d) {h : pm_H} (hh : am_h (80, []) h) {x1 : Int32} (n1 : ¬ i + Int32.ofInt 1 < 0) (e1 : xs[(i + Int32.ofInt 1).toNatClampNeg]? = some x1) {x2 : Int32} (n2 : ¬ i + Int32.ofInt 2 < 0) (e2 : xs[(i + Int32.ofInt 2).toNatClampNeg]? = some x2) {x3 : Int32} (n3 : ¬ i + Int32.ofInt 3 < 0) (e3 : xs[(i + Int32.ofInt 3).toNatClampNeg]? = some x3) {x4 : Int32} (n4 : ¬ i + Int32.ofInt 4 < 0) (e4 : xs[(i + Int32.ofInt 4).toNatClampNeg]? = some x4) (n : Nat) : ∃ h', am_h (80, []) h' ∧ la_R xs (pm_big xs pm_m vm_lim d) (n + 47) 1244 i [] h = la_R xs (pm_big xs pm_m vm_lim d) n 1333 i [] h' := by
  obtain ⟨v1, h1, c1, g1⟩ := lc_138 (xs := xs) hd hh x1 x2 x3 x4
  obtain ⟨v2, h2, c2, g2⟩ := lc_222 (xs := xs) hd g1 x1 x2 x3 x4
  refine ⟨h2, g2, ?_⟩
  refine Eq.trans (lr_1244_1249 _ _ _ _ (n + 42)) ?_
  refine Eq.trans (la_arg rfl n1 e1) ?_
  refine Eq.trans (lr_1250_1254 _ _ _ _ x1 (n + 37)) ?_
  refine Eq.trans (la_arg rfl n2 e2) ?_
  refine Eq.trans (lr_1255_1259 _ _ _ _ x1 x2 (n + 32)) ?_
  refine Eq.trans (la_arg rfl n3 e3) ?_
  refine Eq.trans (lr_1260_1264 _ _ _ _ x1 x2 x3 (n + 27)) ?_
  refine Eq.trans (la_arg rfl n4 e4) ?_
  refine Eq.trans (la_call (rest := []) rfl rfl rfl (Nat.le_of_ble_eq_true rfl) rfl rfl (la_obj hh (i := 0) rfl (by decide)) rfl rfl (Nat.le_of_ble_eq_true rfl) c1) ?_
  refine Eq.trans (lr_1268_1274 _ _ _ _ v1 (n + 19)) ?_
  refine Eq.trans (la_arg rfl n1 e1) ?_
  refine Eq.trans (lr_1275_1279 _ _ _ _ x1 (n + 14)) ?_
  refine Eq.trans (la_arg rfl n2 e2) ?_
  refine Eq.trans (lr_1280_1284 _ _ _ _ x1 x2 (n + 9)) ?_
  refine Eq.trans (la_arg rfl n3 e3) ?_
  refine Eq.trans (lr_1285_1289 _ _ _ _ x1 x2 x3 (n + 4)) ?_
  refine Eq.trans (la_arg rfl n4 e4) ?_
  refine Eq.trans (la_call (rest := []) rfl rfl rfl (Nat.le_of_ble_eq_true rfl) rfl rfl (la_obj g1 (i := 62) rfl (by decide)) rfl rfl (Nat.le_of_ble_eq_true rfl) c2) ?_
  exact lr_1293_1333 _ _ _ _ v2 n
theorem lr_1297_1298 (xs : List Int32) (bc : Nat → List Value → pm_H → pm_R) (i : Int32) (h : pm_H) (m : Nat) : la_R xs bc (m + 1) 1297 i [] h = la_R xs bc m 1298 i [.ref 8] h := rfl
theorem lr_1301_1303 (xs : List Int32) (bc : Nat → List Value → pm_H → pm_R) (i : Int32) (h : pm_H) (v1 : Int32) (m : Nat) : la_R xs bc (m + 2) 1301 i [.int v1] h = la_R xs bc m 1303 i [.ref 70] h := rfl
theorem lr_1306_1333 (xs : List Int32) (bc : Nat → List Value → pm_H → pm_R) (i : Int32) (h : pm_H) (v2 : Int32) (m : Nat) : la_R xs bc (m + 2) 1306 i [.int v2] h = la_R xs bc m 1333 i [] h := rfl
theorem lc_142 {xs : List Int32} {d : Nat} (hd : 40 ≤ d) {h : pm_H} (hh : am_h (80, []) h) : ∃ (v : Int32) (h' : pm_H), pm_big xs pm_m vm_lim d 142 [.ref 8] h = some (some (.int v), h') ∧ am_h (80, []) h' := la_use (vm_up v_310 rfl) (by decide +kernel) hd hh ⟨rfl, trivial⟩
theorem lc_223 {xs : List Int32} {d : Nat} (hd : 40 ≤ d) {h : pm_H} (hh : am_h (80, []) h) : ∃ (v : Int32) (h' : pm_H), pm_big xs pm_m vm_lim d 223 [.ref 70] h = some (some (.int v), h') ∧ am_h (80, []) h' := la_use (vm_up v_813 rfl) (by decide +kernel) hd hh ⟨rfl, trivial⟩
theorem lz_37 {xs : List Int32} {i : Int32} {d : Nat} (hd : 40 ≤ d) {h : pm_H} (hh : am_h (80, []) h) (n : Nat) : ∃ h', am_h (80, []) h' ∧ la_R xs (pm_big xs pm_m vm_lim d) (n + 7) 1297 i [] h = la_R xs (pm_big xs pm_m vm_lim d) n 1333 i [] h' := by
  obtain ⟨v1, h1, c1, g1⟩ := lc_142 (xs := xs) hd hh
  obtain ⟨v2, h2, c2, g2⟩ := lc_223 (xs := xs) hd g1
  refine ⟨h2, g2, ?_⟩
  refine Eq.trans (lr_1297_1298 _ _ _ _ (n + 6)) ?_
  refine Eq.trans (la_call (rest := []) rfl rfl rfl (Nat.le_of_ble_eq_true rfl) rfl rfl (la_obj hh (i := 0) rfl (by decide)) rfl rfl (Nat.le_of_ble_eq_true rfl) c1) ?_
  refine Eq.trans (lr_1301_1303 _ _ _ _ v1 (n + 3)) ?_
  refine Eq.trans (la_call (rest := []) rfl rfl rfl (Nat.le_of_ble_eq_true rfl) rfl rfl (la_obj g1 (i := 62) rfl (by decide)) rfl rfl (Nat.le_of_ble_eq_true rfl) c2) ?_
  exact lr_1306_1333 _ _ _ _ v2 n
theorem lr_1310_1315 (xs : List Int32) (bc : Nat → List Value → pm_H → pm_R) (i : Int32) (h : pm_H) (m : Nat) : la_R xs bc (m + 5) 1310 i [] h = la_R xs bc m 1315 i [.int (i + Int32.ofInt 1), .ref 0, .ref 8] h := rfl
theorem lr_1319_1325 (xs : List Int32) (bc : Nat → List Value → pm_H → pm_R) (i : Int32) (h : pm_H) (v1 : Int32) (m : Nat) : la_R xs bc (m + 6) 1319 i [.int v1] h = la_R xs bc m 1325 i [.int (i + Int32.ofInt 1), .ref 0, .ref 70] h := rfl
theorem lr_1329_1333 (xs : List Int32) (bc : Nat → List Value → pm_H → pm_R) (i : Int32) (h : pm_H) (v2 : Int32) (m : Nat) : la_R xs bc (m + 2) 1329 i [.int v2] h = la_R xs bc m 1333 i [] h := rfl
theorem lc_143 {xs : List Int32} {d : Nat} (hd : 40 ≤ d) {h : pm_H} (hh : am_h (80, []) h) (x1 : Int32) : ∃ (v : Int32) (h' : pm_H), pm_big xs pm_m vm_lim d 143 [.ref 8, .int x1] h = some (some (.int v), h') ∧ am_h (80, []) h' := la_use (vm_up v_311 rfl) (by decide +kernel) hd hh ⟨rfl, ⟨am_i.top x1, trivial⟩⟩
theorem lc_224 {xs : List Int32} {d : Nat} (hd : 40 ≤ d) {h : pm_H} (hh : am_h (80, []) h) (x1 : Int32) : ∃ (v : Int32) (h' : pm_H), pm_big xs pm_m vm_lim d 224 [.ref 70, .int x1] h = some (some (.int v), h') ∧ am_h (80, []) h' := la_use (vm_up v_814 rfl) (by decide +kernel) hd hh ⟨rfl, ⟨am_i.top x1, trivial⟩⟩
theorem lz_38 {xs : List Int32} {i : Int32} {d : Nat} (hd : 40 ≤ d) {h : pm_H} (hh : am_h (80, []) h) {x1 : Int32} (n1 : ¬ i + Int32.ofInt 1 < 0) (e1 : xs[(i + Int32.ofInt 1).toNatClampNeg]? = some x1) (n : Nat) : ∃ h', am_h (80, []) h' ∧ la_R xs (pm_big xs pm_m vm_lim d) (n + 17) 1310 i [] h = la_R xs (pm_big xs pm_m vm_lim d) n 1333 i [] h' := by
  obtain ⟨v1, h1, c1, g1⟩ := lc_143 (xs := xs) hd hh x1
  obtain ⟨v2, h2, c2, g2⟩ := lc_224 (xs := xs) hd g1 x1
  refine ⟨h2, g2, ?_⟩
  refine Eq.trans (lr_1310_1315 _ _ _ _ (n + 12)) ?_
  refine Eq.trans (la_arg rfl n1 e1) ?_
  refine Eq.trans (la_call (rest := []) rfl rfl rfl (Nat.le_of_ble_eq_true rfl) rfl rfl (la_obj hh (i := 0) rfl (by decide)) rfl rfl (Nat.le_of_ble_eq_true rfl) c1) ?_
  refine Eq.trans (lr_1319_1325 _ _ _ _ v1 (n + 4)) ?_
  refine Eq.trans (la_arg rfl n1 e1) ?_
  refine Eq.trans (la_call (rest := []) rfl rfl rfl (Nat.le_of_ble_eq_true rfl) rfl rfl (la_obj g1 (i := 62) rfl (by decide)) rfl rfl (Nat.le_of_ble_eq_true rfl) c2) ?_
  exact lr_1329_1333 _ _ _ _ v2 n
