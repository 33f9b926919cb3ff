/-! THE START. -/
theorem leZ_eq (a b : Int) : leZ a b = decide (a ≤ b) := by
  cases h : leZ a b with
  | true => exact (decide_eq_true (leZ_ok h)).symm
  | false =>
    symm
    apply decide_eq_false
    intro hab
    unfold leZ at h
    split at h
    · rename_i x y
      have h1 : x ≤ y := Int.ofNat_le.mp hab
      rw [Nat.ble_eq_true_of_le h1] at h
      cases h
    · cases h
    · rename_i x y
      have h1 := Int.negSucc_lt_zero y
      have h2 : (0 : Int) ≤ Int.ofNat x := Int.natCast_nonneg x
      omega
    · rename_i x y
      have h1 : y ≤ x := by
        rw [Int.negSucc_eq, Int.negSucc_eq] at hab
        omega
      rw [Nat.ble_eq_true_of_le h1] at h
      cases h
def st_L : am_L := [(0, .inr (.inr (some 0))), (1, .inr (.inr (some 8))), (2, .inr (.inr (some 70))), (3, .inl (.ofNat 0, .ofNat 0))]
noncomputable def st_k : am_K := fun pc lv st h c sl => match Nat.beq pc 18 && (leL leQ lv st_L && (List.isEmpty st && (leH h (80, []) && (Nat.beq c 80 && Nat.beq sl 1467)))) with
  | true => some vm_mark
  | false => none
def st_c (R : Option am_V × am_H) : Bool := match R.1 with
  | some (.inl b) => !(leZ b.1 b.2)
  | _ => false
theorem st_no {R : Option am_V × am_H} {r : Option Value × pm_H} (h : st_c R = true) (hr : am_r R r) : False := by
  obtain ⟨v, hp⟩ := R
  unfold st_c at h
  split at h
  · rename_i b hb
    have ho : am_o v r.1 := hr.1
    have hb : v = some (.inl b) := hb
    subst hb
    obtain ⟨w, hq⟩ := r
    match w, ho with
    | some (.int x), ho =>
      have hx : am_i b x := ho
      rw [leZ_eq, decide_eq_true (Int.le_trans hx.1 hx.2)] at h
      cases h
    | some (.long _), ho => exact ho.elim
    | some (.float _), ho => exact ho.elim
    | some (.double _), ho => exact ho.elim
    | some .null, ho => exact ho.elim
    | some (.ref _), ho => exact ho.elim
    | some (.retAddr _), ho => exact ho.elim
    | none, ho => exact ho.elim
  · cases h

noncomputable def st_B : am_B := fun M as h => (am_big none pm_m 20000 12 M as h).map (fun r => [r])
theorem st_run : (match am_run none pm_m st_B m_0 st_k 10 0 [(0, .inr (.inr (some 0)))] [] (0, []) 0 0 with
  | some R => st_c R
  | none => false) = true := by decide +kernel
theorem st_rv {n : Nat} {v : Value} (h : am_v (.inr (.inr (some n))) v) : v = .ref n := by
  cases v with
  | ref z =>
    have e : n = z := h
    rw [e]
  | _ => exact h.elim
theorem st_iv {v : Value} (h : am_v (.inl (.ofNat 0, .ofNat 0)) v) : v = .int (Int32.ofNat (5 * 0)) := by
  cases v with
  | int x =>
    have e : x = Int32.ofInt (.ofNat 0) := am_i.of (a := (.ofNat 0, .ofNat 0)) h rfl
    rw [e]
    rfl
  | _ => exact h.elim
theorem st_lv : ∀ {lv : pm_L}, am_all am_q [(0, .inr (.inr (some 0))), (1, .inr (.inr (some 8))), (2, .inr (.inr (some 70))), (3, .inl (.ofNat 0, .ofNat 0))] lv → lv = la_L (Int32.ofNat (5 * 0))
  | [(a0, v0), (a1, v1), (a2, v2), (a3, v3)], h => by
    obtain ⟨⟨e0, w0⟩, ⟨e1, w1⟩, ⟨e2, w2⟩, ⟨e3, w3⟩, -⟩ := h
    have e0 : 0 = a0 := e0
    have e1 : 1 = a1 := e1
    have e2 : 2 = a2 := e2
    have e3 : 3 = a3 := e3
    subst e0 e1 e2 e3
    obtain rfl := st_rv w0
    obtain rfl := st_rv w1
    obtain rfl := st_rv w2
    obtain rfl := st_iv w3
    rfl
  | [], h => h.elim
  | [_], h => h.2.elim
  | [_, _], h => h.2.2.elim
  | [_, _, _], h => h.2.2.2.elim
  | _ :: _ :: _ :: _ :: _ :: _, h => h.2.2.2.2.elim
theorem am_h0 : am_h (0, []) [] := ⟨rfl, fun i C h => by unfold am_g at h; simp at h⟩
theorem st_all (xs : List Int32) (hL : xs.length ≤ 320) : ∃ N d n h1, pm_run xs pm_m (pm_big xs pm_m N d) m_0 n 0 [(0, .ref 0)] [] [] 0 0 = some (some (.int 1), h1) := by
  obtain ⟨F, hF⟩ := lo_ok hL 64 0 fr_g fr_u fr_R (by omega) (by omega)
  refine ⟨F + 20000, F + 12, F + 10, ?_⟩
  have hcap : am_S (fun R r => am_r R r ∨ r.1 = some (.int 1)) st_k (pm_run xs pm_m (pm_big xs pm_m (F + 20000) (F + 12)) m_0 F) := by
    intro pc lva sta ha c sl R hk lv st h hl hs hh
    unfold st_k at hk
    split at hk
    · rename_i hb
      simp only [Bool.and_eq_true] at hb
      obtain ⟨b1, b2, b3, b4, b5, b6⟩ := hb
      obtain rfl : pc = 18 := Nat.eq_of_beq_eq_true b1
      obtain rfl : c = 80 := Nat.eq_of_beq_eq_true b5
      obtain rfl : sl = 1467 := Nat.eq_of_beq_eq_true b6
      have q1 := st_lv (leL_ok (R := am_q) (fun _ _ _ => leQ_ok) b2 hl)
      subst q1
      have q2 : sta = [] := List.isEmpty_iff.mp b3
      subst q2
      have q3 : st = [] := by
        cases st with
        | nil => rfl
        | cons a l => exact hs.elim
      subst q3
      obtain ⟨h', hr⟩ := hF (F + 20000) (F + 12) F (by omega) (by omega) (Nat.le_refl _) h (fr_rep (leH_ok b4 hh))
      exact ⟨_, hr, Or.inr rfl⟩
    · cases hk
  have hS := at_run (Pr := fun R r => am_r R r ∨ r.1 = some (.int 1)) (xa := none) (xs := xs) (tab := pm_m) (mm := m_0) (ba := st_B) (bc := pm_big xs pm_m (F + 20000) (F + 12)) (fun _ q => by cases q) (fun _ _ h => Or.inl h) (fun M2 as h Rs q cs hc a1 a2 => by
    unfold st_B at q
    cases hb : am_big none pm_m 20000 12 M2 as h with
    | none => rw [hb] at q; cases q
    | some R =>
      rw [hb] at q
      cases q
      obtain ⟨r, g1, g2⟩ := at_bigm (xs := xs) (tab := pm_m) 20000 F 12 F M2 as h R hb cs hc a1 a2
      exact ⟨r, g1, R, List.mem_singleton.mpr rfl, g2⟩) (ka := st_k) (kc := pm_run xs pm_m (pm_big xs pm_m (F + 20000) (F + 12)) m_0 F) hcap 10
  rw [pm_runK_eq] at hS
  have hf := st_run
  split at hf
  · rename_i R heq
    obtain ⟨⟨v, h1⟩, hr, ho⟩ := hS _ _ _ _ _ _ _ heq [(0, .ref 0)] [] [] ⟨⟨rfl, rfl⟩, trivial⟩ trivial am_h0
    rcases ho with ho | ho
    · exact (st_no hf ho).elim
    · have ho : v = some (.int 1) := ho
      subst ho
      exact ⟨h1, hr⟩
  · cases hf
